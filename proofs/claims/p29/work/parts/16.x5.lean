set_option maxHeartbeats 4000000 in
set_option maxRecDepth 100000 in
theorem m_X1_dropOldest (l : Launch) (D : va_G) (cI cS : ClassId) (a : Nat → Nat) (s : St) (st : Nat → St) (pi : Nat → Nat) (mi po : St) (sz : Nat) (hsz : 1 ≤ sz ∧ sz ≤ 6) (hs0 : mi 0 0 = nI sz) (hpi : ∀ k, k < 6 → pi k < 6) (zz : Nat) : Met l yX1_dropOldest (.code yX1_dropOldest cX1_dropOldest 3 none :: wsA) ({ frames := 0, cells := 0, slots := 0, locals := 0 } : Room) (va_Pc [.ref (a 104)] (PW D cI cS 113 a (exC cI cS a s st pi mi po) zz)) (va_Qv (fun (u : Unit) => True) (BW D 113 a (fun u => exC cI cS a s st (rotP pi) (up2 mi 0 0 (nI (sz - 1))) po)) (AX 113 a zz)) 0 0 (AX 113 a zz) := by
  refine mgo (by decide) (Nat.le_of_ble_eq_true rfl) ?_
  intro p e z m below meth c hx hb hr hml hown hts hlocks hB ls hl
  obtain ⟨hsz, hP, hK, hE⟩ := hB
  subst hsz
  have hS : va_S (AX 113 a z.heap.size) z.heap z.heap [] := va_S.rf
  have hl : lv_has ls 3 [(0, .ref (a 104))] := hl
  have h0l := hpi 0 (by omega)
  refine lv_aload_n hx hb dX1_dropOldest_0 rfl (lv_at hl 0 rfl) ?_
  refine g_get hx hb hts hown inA1 hK hP 104 (by decide) xc104 rfl 0 (by decide) tw119 rfl (v := .ref (a 105)) rfl dX1_dropOldest_1 ?_
  refine lv_iconst (v := 0) hx hb dX1_dropOldest_4 (by decide) ?_
  refine g_aldq hx hb hK hP 105 (by decide) xc105 0 rfl (by omega) (by decide) dX1_dropOldest_5 rfl ?_
  refine lv_astore_n (lv' := [(1, .ref (a (13 * (pi 0 + 2)))), (0, .ref (a 104))]) hx hb dX1_dropOldest_6 rfl hl (by decide) rfl (fun ls hl => ?_)
  refine lv_iconst (v := 1) hx hb dX1_dropOldest_7 (by decide) ?_
  refine lv_istore_n (lv' := [(2, .int 1), (1, .ref (a (13 * (pi 0 + 2)))), (0, .ref (a 104))]) hx hb dX1_dropOldest_8 rfl hl (by decide) rfl (fun ls hl => ?_)
  have loop9 : ∀ (fu : Nat) (j : Nat), 6 + 1 ≤ j + fu → (1 ≤ j ∧ j ≤ 6) → ∀ (H : Heap) (locs : List Loc), HP D 113 a (exC cI cS a s st (rotN pi j) mi po) H → va_S (AX 113 a z.heap.size) z.heap H locs → ∀ ls : Array Slot, lv_has ls 3 [(0, .ref (a 104)), (1, .ref (a (13 * (pi 0 + 2)))), (2, .int (nI j))] → W p l e ({ frames := 0, cells := 0, slots := 0, locals := 0 } : Room) z m ([.ref (a 104)] : List Value).toArray below meth c H locs 0 0 (MQ below (va_Qv (fun (u : Unit) => True) (BW D 113 a (fun u => exC cI cS a s st (rotP pi) (up2 mi 0 0 (nI (sz - 1))) po)) (AX 113 a z.heap.size)) ([.ref (a 104)] : List Value).toArray z 0 0 (AX 113 a z.heap.size)) (F0 m 9 ls []) := by
    intro fu
    induction fu with
    | zero => intro j hn hj; exact absurd hn (by omega)
    | succ fu ih9 =>
      intro j hn hj H locs hP hS ls hl
      have hrl := rotN_lt hpi j (by omega)
      refine lv_iload_n hx hb dX1_dropOldest_9 rfl (lv_at hl 2 rfl) ?_
      refine lv_bipush (v := 6) hx hb dX1_dropOldest_10 (by decide) ?_
      refine lv_icmp_ge (tgt := 35) hx hb dX1_dropOldest_12 (by decide) (fun c1 => ?_) (fun c1 => ?_)
      · skip
        have c1x := Int32.not_lt.mpr c1
        have c1n := (nI_le2 (p := 6) (q := j) rfl rfl (by omega) (by omega)).mp c1
        have c1n : 6 ≤ j := c1n
        have hjq : 6 = j := by omega
        subst hjq
        refine lv_aload_n hx hb dX1_dropOldest_35 rfl (lv_at hl 0 rfl) ?_
        refine g_get hx hb hts hown inA1 hK hP 104 (by decide) xc104 rfl 0 (by decide) tw119 rfl (v := .ref (a 105)) rfl dX1_dropOldest_36 ?_
        refine lv_iconst (v := 5) hx hb dX1_dropOldest_39 (by decide) ?_
        refine lv_aload_n hx hb dX1_dropOldest_40 rfl (lv_at hl 1 rfl) ?_
        refine g_astq hx hb hK hP hE hS 105 (by decide) xc105 (13 * (pi 0 + 2)) (by omega) (exC_S8 (i := (pi 0 + 2)) (k := 0) (by omega) (by omega)) 5 rfl (by omega) (by omega) dX1_dropOldest_41 (ex' := exC cI cS a s st (rotP pi) mi po) xq_set xo_pi (fun H locs hP hS => ?_)
        refine lv_aload_n hx hb dX1_dropOldest_42 rfl (lv_at hl 0 rfl) ?_
        refine lv_dup hx hb dX1_dropOldest_43 rfl ?_
        refine g_get hx hb hts hown inA1 hK hP 104 (by decide) xc104 rfl 1 (by decide) tw120 rfl (v := .int (mi 0 0)) rfl dX1_dropOldest_44 ?_
        refine lv_iconst (v := 1) hx hb dX1_dropOldest_47 (by decide) ?_
        refine lv_isub hx hb dX1_dropOldest_48 ?_
        refine lv_as (y := nI (sz - 1)) (nI_sub2 (p := sz) (q := 1) hs0 rfl (by omega)) ?_
        refine g_put hx hb hts hown inA1 tyX1 tyX1_ok nmX1 hK hP hE hS 104 (by decide) xc104 rfl 1 (by decide) tw120 rfl rfl (ty := .int) (by decide +kernel) rfl rfl (Nat.le_of_ble_eq_true rfl) dX1_dropOldest_49 (ex' := exC cI cS a s st (rotP pi) (up2 mi 0 0 (nI (sz - 1))) po) rfl (xo_mi (by decide)) (fun H locs hP hS => ?_)
        exact rw_vr hx hb hr hlocks hS () hP trivial dX1_dropOldest_52
      · skip
        have c1x := Int32.not_le.mp c1
        have c1n := fun hq0 => c1 ((nI_le2 (p := 6) (q := j) rfl rfl (by omega) (by omega)).mpr hq0)
        have c1n : ¬ (6 ≤ j) := c1n
        have hrj := hrl j (by omega)
        refine lv_aload_n hx hb dX1_dropOldest_15 rfl (lv_at hl 0 rfl) ?_
        refine g_get hx hb hts hown inA1 hK hP 104 (by decide) xc104 rfl 0 (by decide) tw119 rfl (v := .ref (a 105)) rfl dX1_dropOldest_16 ?_
        refine lv_iload_n hx hb dX1_dropOldest_19 rfl (lv_at hl 2 rfl) ?_
        refine lv_iconst (v := 1) hx hb dX1_dropOldest_20 (by decide) ?_
        refine lv_isub hx hb dX1_dropOldest_21 ?_
        refine lv_as (y := nI (j - 1)) (nI_sub2 (p := j) (q := 1) rfl rfl (by omega)) ?_
        refine lv_aload_n hx hb dX1_dropOldest_22 rfl (lv_at hl 0 rfl) ?_
        refine g_get hx hb hts hown inA1 hK hP 104 (by decide) xc104 rfl 0 (by decide) tw119 rfl (v := .ref (a 105)) rfl dX1_dropOldest_23 ?_
        refine lv_iload_n hx hb dX1_dropOldest_26 rfl (lv_at hl 2 rfl) ?_
        refine g_aldq hx hb hK hP 105 (by decide) xc105 j rfl (by omega) (by decide) dX1_dropOldest_27 rfl ?_
        refine g_astq hx hb hK hP hE hS 105 (by decide) xc105 (13 * ((rotN pi j) j + 2)) (by omega) (exC_S8 (i := ((rotN pi j) j + 2)) (k := 0) (by omega) (by omega)) (j - 1) rfl (by omega) (by omega) dX1_dropOldest_28 (ex' := exC cI cS a s st (rotN pi (j + 1)) mi po) (by rw [← rotN_s (by omega)]; exact xq_set) xo_pi (fun H locs hP hS => ?_)
        refine lv_iinc (v := nI (j + 1)) (lv' := [(2, .int (nI (j + 1))), (0, .ref (a 104)), (1, .ref (a (13 * (pi 0 + 2))))]) hx hb dX1_dropOldest_29 hl (k := 2) rfl (nI_add j 1) (by decide) rfl (fun ls hl => ?_)
        refine lv_goto (tgt := 9) hx hb dX1_dropOldest_32 (by decide) ?_
        exact ih9 (j + 1) (by omega) (⟨by omega, by omega⟩) _ _ hP hS ls (lv_sub hl [1, 2, 0] rfl)
  exact loop9 (6 + 1) 1 (by omega) (⟨by omega, by omega⟩) _ _ hP hS ls (lv_sub hl [2, 1, 0] rfl)

set_option maxHeartbeats 4000000 in
set_option maxRecDepth 100000 in
theorem m_X1_stateAt (l : Launch) (D : va_G) (cI cS : ClassId) (a : Nat → Nat) (s : St) (st : Nat → St) (pi : Nat → Nat) (mi po : St) (k : Nat) (hk : k < 6) : Met l yX1_stateAt (.code yX1_stateAt cX1_stateAt 2 (some (.object "DialWardens$State")) :: wsA) ({ frames := 0, cells := 0, slots := 0, locals := 0 } : Room) (va_Pc [.ref (a 104), .int (nI k)] (PR D cI cS 113 a (exC cI cS a s st pi mi po))) (sr_Q (a (13 * (pi k + 2)))) 0 0 (fun _ => False) := by
  refine mgo (by decide) (Nat.le_of_ble_eq_true rfl) ?_
  intro p e z m below meth c hx hb hr hml hown hts hlocks hB ls hl
  obtain ⟨hP, hK⟩ := hB
  have hl : lv_has ls 2 [(0, .ref (a 104)), (1, .int (nI k))] := hl
  refine lv_iload_n hx hb dX1_stateAt_0 rfl (lv_at hl 1 rfl) ?_
  refine lv_if_lt (tgt := 22) hx hb dX1_stateAt_1 (by decide) (fun h0 => absurd h0 (fun h => by have := (nI_lt2 (p := k) (q := 0) rfl rfl (by omega) (by omega)).mp h; omega)) (fun _ => ?_)
  refine lv_iload_n hx hb dX1_stateAt_4 rfl (lv_at hl 1 rfl) ?_
  refine lv_aload_n hx hb dX1_stateAt_5 rfl (lv_at hl 0 rfl) ?_
  refine g_get hx hb hts hown inA1 hK hP 104 (by decide) xc104 rfl 0 (by decide) tw119 rfl (v := .ref (a 105)) rfl dX1_stateAt_6 ?_
  refine g_alenq hx hb hK hP 105 (by decide) xc105 (v := 6) (by decide) dX1_stateAt_9 ?_
  refine lv_icmp_ge (tgt := 22) hx hb dX1_stateAt_10 (by decide) (fun h0 => absurd h0 (fun h => by have := (nI_le2 (p := 6) (q := k) rfl rfl (by omega) (by omega)).mp h; omega)) (fun _ => ?_)
  refine lv_aload_n hx hb dX1_stateAt_13 rfl (lv_at hl 0 rfl) ?_
  refine g_get hx hb hts hown inA1 hK hP 104 (by decide) xc104 rfl 0 (by decide) tw119 rfl (v := .ref (a 105)) rfl dX1_stateAt_14 ?_
  refine lv_iload_n hx hb dX1_stateAt_17 rfl (lv_at hl 1 rfl) ?_
  refine g_aldq hx hb hK hP 105 (by decide) xc105 k rfl (by omega) (by decide) dX1_stateAt_18 rfl ?_
  refine lv_goto (tgt := 23) hx hb dX1_stateAt_19 (by decide) ?_
  exact ro_rr hx hb hr hlocks dX1_stateAt_23

set_option maxHeartbeats 4000000 in
set_option maxRecDepth 100000 in
theorem m_X1_save (l : Launch) (D : va_G) (cI cS : ClassId) (a : Nat → Nat) (s : St) (st : Nat → St) (pi : Nat → Nat) (mi po : St) (sz : Nat) (hsz : sz ≤ 6) (hs0 : mi 0 0 = nI sz) (hpi : ∀ k, k < 6 → pi k < 6) (zz : Nat) : Met l yX1_save (.code yX1_save cX1_save 3 none :: wsA) ({ frames := 3, cells := 0, slots := 0, locals := 64 } : Room) (va_Pc [.ref (a 104), .ref (a 0)] (PW D cI cS 113 a (exC cI cS a s st pi mi po) zz)) (va_Qv (fun (u : Unit) => True) (BW D 113 a (fun u => exC cI cS a s (va_up st (svPi pi sz (svQ sz) + 1) s) (svPi pi sz) (up2 mi 0 0 (nI (svQ sz + 1))) po)) (AX 113 a zz)) 0 0 (AX 113 a zz) := by
  refine mgo (by decide) (Nat.le_of_ble_eq_true rfl) ?_
  intro p e z m below meth c hx hb hr hml hown hts hlocks hB ls hl
  obtain ⟨hsz, hP, hK, hE⟩ := hB
  subst hsz
  have hS : va_S (AX 113 a z.heap.size) z.heap z.heap [] := va_S.rf
  have hl : lv_has ls 3 [(0, .ref (a 104)), (1, .ref (a 0))] := hl
  refine lv_aload_n hx hb dX1_save_0 rfl (lv_at hl 0 rfl) ?_
  refine g_get hx hb hts hown inA1 hK hP 104 (by decide) xc104 rfl 1 (by decide) tw120 rfl (v := .int (mi 0 0)) rfl dX1_save_1 ?_
  refine lv_bipush (v := 6) hx hb dX1_save_4 (by decide) ?_
  refine lv_icmp_lt (tgt := 13) hx hb dX1_save_6 (by decide) (fun c1 => ?_) (fun c1 => ?_)
  · skip
    have c1x := Int32.not_le.mpr c1
    have c1n := (nI_lt2 (p := sz) (q := 6) hs0 rfl (by omega) (by omega)).mp c1
    have c1n : sz < 6 := c1n
    refine lv_aload_n hx hb dX1_save_13 rfl (lv_at hl 0 rfl) ?_
    refine lv_aload_n hx hb dX1_save_14 rfl (lv_at hl 0 rfl) ?_
    refine g_get hx hb hts hown inA1 hK hP 104 (by decide) xc104 rfl 1 (by decide) tw120 rfl (v := .int (mi 0 0)) rfl dX1_save_15 ?_
    refine lv_as (y := nI sz) hs0 ?_
    have hqi := hpi sz (by omega)
    refine ro_r (va_runV (As := [.int (nI sz)]) (rest := []) ⟨hx, hb, hml, hown, hts⟩ (m_X1_stateAt l D cI cS a s st pi mi po sz (by omega)) (cwV 1 hts (gV tw360 tw357 tw359 ts9 tw5) rfl rfl rfl (by decide +kernel) ⟨Nat.le_of_ble_eq_true rfl, Nat.le_of_ble_eq_true rfl⟩) (pvR 104 hK hP (by decide) xc104 rfl) rfl rfl hl.1 rfl (lv_room (Nat.le_of_ble_eq_true rfl)) dX1_save_18 ⟨Nat.le_of_ble_eq_true rfl, Nat.le_of_ble_eq_true rfl⟩) ?_
    refine lv_astore_n (lv' := [(2, .ref (a (13 * (pi sz + 2)))), (0, .ref (a 104)), (1, .ref (a 0))]) hx hb dX1_save_21 rfl hl (by decide) rfl (fun ls hl => ?_)
    refine lv_aload_n hx hb dX1_save_22 rfl (lv_at hl 0 rfl) ?_
    refine lv_ifnull hx hb dX1_save_23 ?_
    refine lv_aload_n hx hb dX1_save_26 rfl (lv_at hl 0 rfl) ?_
    refine lv_aload_n hx hb dX1_save_27 rfl (lv_at hl 2 rfl) ?_
    refine rw_vS (sub := subS (pi sz + 2) 0) (ex' := exC cI cS a (up8s s (pi sz + 2) (S8 s st 0)) (up8t st (pi sz + 2) (S8 s st 0)) pi mi po) hS hP hE (subS_lt (by omega) (by omega)) (e2C_up (by omega) (by omega) (by omega) rfl) (e2C_un (by omega)) (va_runV (As := [.ref (a 0)]) (rest := []) ⟨hx, hb, hml, hown, hts⟩ (m_X4_copyFrom l D cI cS (fun k => a (subS (pi sz + 2) 0 k)) (S8 s st (pi sz + 2)) (S8 s st 0) _) (cwV 1 hts (gV tw364 tw361 tw362 tw363 tw2) rfl rfl rfl (by decide +kernel) ⟨Nat.le_of_ble_eq_true rfl, Nat.le_of_ble_eq_true rfl⟩) (pvW' (13 * (pi sz + 2) + 0) rfl hK hP (by omega) (exC_S8 (i := (pi sz + 2)) (k := 0) (by omega) (by omega)) rfl (hp_sub hP (subS_lt (by omega) (by omega)) (e2C_sub (by omega) (by omega))) (di_sub hE (subS_lt (by omega) (by omega)) (subS_inj (by omega)))) rfl rfl hl.1 rfl (lv_room (Nat.le_of_ble_eq_true rfl)) dX1_save_28 ⟨Nat.le_of_ble_eq_true rfl, Nat.le_of_ble_eq_true rfl⟩) (fun H locs hP hS => ?_)
    have hP : HP D 113 a (exC cI cS a s (va_up st (pi sz + 1) s) pi mi po) H := by have h := hP; rw [up8_s, up8_t] at h; exact h
    refine lv_aload_n hx hb dX1_save_31 rfl (lv_at hl 1 rfl) ?_
    refine lv_dup hx hb dX1_save_32 rfl ?_
    refine g_get hx hb hts hown inA1 hK hP 104 (by decide) xc104 rfl 1 (by decide) tw120 rfl (v := .int (mi 0 0)) rfl dX1_save_33 ?_
    refine lv_iconst (v := 1) hx hb dX1_save_36 (by decide) ?_
    refine lv_iadd hx hb dX1_save_37 ?_
    refine lv_as (y := nI (sz + 1)) (nI_add2 (p := sz) (q := 1) hs0 rfl) ?_
    refine g_put hx hb hts hown inA1 tyX1 tyX1_ok nmX1 hK hP hE hS 104 (by decide) xc104 rfl 1 (by decide) tw120 rfl rfl (ty := .int) (by decide +kernel) rfl rfl (Nat.le_of_ble_eq_true rfl) dX1_save_38 (ex' := exC cI cS a s (va_up st (pi sz + 1) s) pi (up2 mi 0 0 (nI (sz + 1))) po) rfl (xo_mi (by decide)) (fun H locs hP hS => ?_)
    have hWst : (va_up st (svPi pi sz (svQ sz) + 1) s) = (va_up st (pi sz + 1) s) := by simp [svPi, svQ, show ¬ sz = 6 by omega]
    have hWpi : (svPi pi sz) = pi := by simp [svPi, svQ, show ¬ sz = 6 by omega]
    have hWmi : (up2 mi 0 0 (nI (svQ sz + 1))) = (up2 mi 0 0 (nI (sz + 1))) := by simp [svPi, svQ, show ¬ sz = 6 by omega]
    have hP := hP.cast (e' := exC cI cS a s (va_up st (svPi pi sz (svQ sz) + 1) s) (svPi pi sz) (up2 mi 0 0 (nI (svQ sz + 1))) po) (by rw [hWst, hWpi, hWmi])
    exact rw_vr hx hb hr hlocks hS () hP trivial dX1_save_41
  · skip
    have c1x := Int32.not_lt.mp c1
    have c1n := fun hq0 => c1 ((nI_lt2 (p := sz) (q := 6) hs0 rfl (by omega) (by omega)).mpr hq0)
    have c1n : ¬ (sz < 6) := c1n
    have hjq : 6 = sz := by omega
    subst hjq
    refine lv_aload_n hx hb dX1_save_9 rfl (lv_at hl 0 rfl) ?_
    refine rw_v hS (va_runV (As := []) (rest := []) ⟨hx, hb, hml, hown, hts⟩ (m_X1_dropOldest l D cI cS a s st pi mi po 6 ⟨by omega, by omega⟩ hs0 hpi _) (cwV 0 hts (gV tw356 tw353 tw355 ts8 tw5) rfl rfl rfl (by decide +kernel) ⟨Nat.le_of_ble_eq_true rfl, Nat.le_of_ble_eq_true rfl⟩) (pvW 104 hK hP hE (by decide) xc104 rfl) rfl rfl hl.1 rfl (lv_room (Nat.le_of_ble_eq_true rfl)) dX1_save_10 ⟨Nat.le_of_ble_eq_true rfl, Nat.le_of_ble_eq_true rfl⟩) (fun u10 H locs hr8 hP hS => ?_)
    refine lv_aload_n hx hb dX1_save_13 rfl (lv_at hl 0 rfl) ?_
    refine lv_aload_n hx hb dX1_save_14 rfl (lv_at hl 0 rfl) ?_
    refine g_get hx hb hts hown inA1 hK hP 104 (by decide) xc104 rfl 1 (by decide) tw120 rfl (v := .int 5) rfl dX1_save_15 ?_
    refine lv_as (y := nI 5) (by decide) ?_
    have hqi := rotP_lt hpi 5 (by omega)
    refine ro_r (va_runV (As := [.int (nI 5)]) (rest := []) ⟨hx, hb, hml, hown, hts⟩ (m_X1_stateAt l D cI cS a s st (rotP pi) (up2 mi 0 0 5) po 5 (by omega)) (cwV 1 hts (gV tw360 tw357 tw359 ts9 tw5) rfl rfl rfl (by decide +kernel) ⟨Nat.le_of_ble_eq_true rfl, Nat.le_of_ble_eq_true rfl⟩) (pvR 104 hK hP (by decide) xc104 rfl) rfl rfl hl.1 rfl (lv_room (Nat.le_of_ble_eq_true rfl)) dX1_save_18 ⟨Nat.le_of_ble_eq_true rfl, Nat.le_of_ble_eq_true rfl⟩) ?_
    refine lv_astore_n (lv' := [(2, .ref (a (13 * ((rotP pi) 5 + 2)))), (0, .ref (a 104)), (1, .ref (a 0))]) hx hb dX1_save_21 rfl hl (by decide) rfl (fun ls hl => ?_)
    refine lv_aload_n hx hb dX1_save_22 rfl (lv_at hl 0 rfl) ?_
    refine lv_ifnull hx hb dX1_save_23 ?_
    refine lv_aload_n hx hb dX1_save_26 rfl (lv_at hl 0 rfl) ?_
    refine lv_aload_n hx hb dX1_save_27 rfl (lv_at hl 2 rfl) ?_
    refine rw_vS (sub := subS ((rotP pi) 5 + 2) 0) (ex' := exC cI cS a (up8s s ((rotP pi) 5 + 2) (S8 s st 0)) (up8t st ((rotP pi) 5 + 2) (S8 s st 0)) (rotP pi) (up2 mi 0 0 5) po) hS hP hE (subS_lt (by omega) (by omega)) (e2C_up (by omega) (by omega) (by omega) rfl) (e2C_un (by omega)) (va_runV (As := [.ref (a 0)]) (rest := []) ⟨hx, hb, hml, hown, hts⟩ (m_X4_copyFrom l D cI cS (fun k => a (subS ((rotP pi) 5 + 2) 0 k)) (S8 s st ((rotP pi) 5 + 2)) (S8 s st 0) _) (cwV 1 hts (gV tw364 tw361 tw362 tw363 tw2) rfl rfl rfl (by decide +kernel) ⟨Nat.le_of_ble_eq_true rfl, Nat.le_of_ble_eq_true rfl⟩) (pvW' (13 * ((rotP pi) 5 + 2) + 0) rfl hK hP (by omega) (exC_S8 (i := ((rotP pi) 5 + 2)) (k := 0) (by omega) (by omega)) rfl (hp_sub hP (subS_lt (by omega) (by omega)) (e2C_sub (by omega) (by omega))) (di_sub hE (subS_lt (by omega) (by omega)) (subS_inj (by omega)))) rfl rfl hl.1 rfl (lv_room (Nat.le_of_ble_eq_true rfl)) dX1_save_28 ⟨Nat.le_of_ble_eq_true rfl, Nat.le_of_ble_eq_true rfl⟩) (fun H locs hP hS => ?_)
    have hP : HP D 113 a (exC cI cS a s (va_up st ((rotP pi) 5 + 1) s) (rotP pi) (up2 mi 0 0 5) po) H := by have h := hP; rw [up8_s, up8_t] at h; exact h
    refine lv_aload_n hx hb dX1_save_31 rfl (lv_at hl 1 rfl) ?_
    refine lv_dup hx hb dX1_save_32 rfl ?_
    refine g_get hx hb hts hown inA1 hK hP 104 (by decide) xc104 rfl 1 (by decide) tw120 rfl (v := .int 5) rfl dX1_save_33 ?_
    refine lv_iconst (v := 1) hx hb dX1_save_36 (by decide) ?_
    refine lv_iadd hx hb dX1_save_37 ?_
    refine lv_as (y := 6) (by decide) ?_
    refine g_put hx hb hts hown inA1 tyX1 tyX1_ok nmX1 hK hP hE hS 104 (by decide) xc104 rfl 1 (by decide) tw120 rfl rfl (ty := .int) (by decide +kernel) rfl rfl (Nat.le_of_ble_eq_true rfl) dX1_save_38 (ex' := exC cI cS a s (va_up st ((rotP pi) 5 + 1) s) (rotP pi) (up2 (up2 mi 0 0 5) 0 0 6) po) rfl (xo_mi (by decide)) (fun H locs hP hS => ?_)
    have hWst : (va_up st (svPi pi 6 (svQ 6) + 1) s) = (va_up st ((rotP pi) 5 + 1) s) := by rfl
    have hWpi : (svPi pi 6) = (rotP pi) := by rfl
    have hWmi : (up2 mi 0 0 (nI (svQ 6 + 1))) = (up2 (up2 mi 0 0 5) 0 0 6) := by exact up2_up2.symm
    have hP := hP.cast (e' := exC cI cS a s (va_up st (svPi pi 6 (svQ 6) + 1) s) (svPi pi 6) (up2 mi 0 0 (nI (svQ 6 + 1))) po) (by rw [hWst, hWpi, hWmi])
    exact rw_vr hx hb hr hlocks hS () hP trivial dX1_save_41

set_option maxHeartbeats 4000000 in
set_option maxRecDepth 100000 in
theorem m_X1_restore (l : Launch) (D : va_G) (cI cS : ClassId) (a : Nat → Nat) (s : St) (st : Nat → St) (pi : Nat → Nat) (mi po : St) (sz : Nat) (hsz : sz ≤ 6) (hs0 : mi 0 0 = nI sz) (hpi : ∀ k, k < 6 → pi k < 6) (h1 : 1 ≤ sz) (zz : Nat) : Met l yX1_restore (.code yX1_restore cX1_restore 3 none :: wsA) ({ frames := 3, cells := 0, slots := 0, locals := 64 } : Room) (va_Pc [.ref (a 104), .ref (a 0)] (PW D cI cS 113 a (exC cI cS a s st pi mi po) zz)) (va_Qv (fun (u : Unit) => True) (BW D 113 a (fun u => exC cI cS a (st (pi (sz - 1) + 1)) st pi (up2 mi 0 0 (nI (sz - 1))) po)) (AX 113 a zz)) 0 0 (AX 113 a zz) := by
  refine mgo (by decide) (Nat.le_of_ble_eq_true rfl) ?_
  intro p e z m below meth c hx hb hr hml hown hts hlocks hB ls hl
  obtain ⟨hsz, hP, hK, hE⟩ := hB
  subst hsz
  have hS : va_S (AX 113 a z.heap.size) z.heap z.heap [] := va_S.rf
  have hl : lv_has ls 3 [(0, .ref (a 104)), (1, .ref (a 0))] := hl
  refine lv_aload_n hx hb dX1_restore_0 rfl (lv_at hl 0 rfl) ?_
  refine lv_aload_n hx hb dX1_restore_1 rfl (lv_at hl 0 rfl) ?_
  refine g_get hx hb hts hown inA1 hK hP 104 (by decide) xc104 rfl 1 (by decide) tw120 rfl (v := .int (mi 0 0)) rfl dX1_restore_2 ?_
  refine lv_iconst (v := 1) hx hb dX1_restore_5 (by decide) ?_
  refine lv_isub hx hb dX1_restore_6 ?_
  refine lv_as (y := nI (sz - 1)) (nI_sub2 (p := sz) (q := 1) hs0 rfl (by omega)) ?_
  have hqi := hpi (sz - 1) (by omega)
  refine ro_r (va_runV (As := [.int (nI (sz - 1))]) (rest := []) ⟨hx, hb, hml, hown, hts⟩ (m_X1_stateAt l D cI cS a s st pi mi po (sz - 1) (by omega)) (cwV 1 hts (gV tw360 tw357 tw359 ts9 tw5) rfl rfl rfl (by decide +kernel) ⟨Nat.le_of_ble_eq_true rfl, Nat.le_of_ble_eq_true rfl⟩) (pvR 104 hK hP (by decide) xc104 rfl) rfl rfl hl.1 rfl (lv_room (Nat.le_of_ble_eq_true rfl)) dX1_restore_7 ⟨Nat.le_of_ble_eq_true rfl, Nat.le_of_ble_eq_true rfl⟩) ?_
  refine lv_astore_n (lv' := [(2, .ref (a (13 * (pi (sz - 1) + 2)))), (0, .ref (a 104)), (1, .ref (a 0))]) hx hb dX1_restore_10 rfl hl (by decide) rfl (fun ls hl => ?_)
  refine lv_aload_n hx hb dX1_restore_11 rfl (lv_at hl 0 rfl) ?_
  refine lv_ifnull hx hb dX1_restore_12 ?_
  refine lv_aload_n hx hb dX1_restore_15 rfl (lv_at hl 2 rfl) ?_
  refine lv_aload_n hx hb dX1_restore_16 rfl (lv_at hl 0 rfl) ?_
  refine rw_vS (sub := subS 0 (pi (sz - 1) + 2)) (ex' := exC cI cS a (up8s s 0 (S8 s st (pi (sz - 1) + 2))) (up8t st 0 (S8 s st (pi (sz - 1) + 2))) pi mi po) hS hP hE (subS_lt (by omega) (by omega)) (e2C_up (by omega) (by omega) (by omega) rfl) (e2C_un (by omega)) (va_runV (As := [.ref (a (13 * (pi (sz - 1) + 2)))]) (rest := []) ⟨hx, hb, hml, hown, hts⟩ (m_X4_copyFrom l D cI cS (fun k => a (subS 0 (pi (sz - 1) + 2) k)) (S8 s st 0) (S8 s st (pi (sz - 1) + 2)) _) (cwV 1 hts (gV tw364 tw361 tw362 tw363 tw2) rfl rfl rfl (by decide +kernel) ⟨Nat.le_of_ble_eq_true rfl, Nat.le_of_ble_eq_true rfl⟩) (pvW' (13 * 0 + 0) rfl hK hP (by omega) (exC_S8 (i := 0) (k := 0) (by omega) (by omega)) rfl (hp_sub hP (subS_lt (by omega) (by omega)) (e2C_sub (by omega) (by omega))) (di_sub hE (subS_lt (by omega) (by omega)) (subS_inj (by omega)))) rfl rfl hl.1 rfl (lv_room (Nat.le_of_ble_eq_true rfl)) dX1_restore_17 ⟨Nat.le_of_ble_eq_true rfl, Nat.le_of_ble_eq_true rfl⟩) (fun H locs hP hS => ?_)
  have hP : HP D 113 a (exC cI cS a (st (pi (sz - 1) + 1)) st pi mi po) H := by exact hP
  refine lv_aload_n hx hb dX1_restore_20 rfl (lv_at hl 1 rfl) ?_
  refine lv_dup hx hb dX1_restore_21 rfl ?_
  refine g_get hx hb hts hown inA1 hK hP 104 (by decide) xc104 rfl 1 (by decide) tw120 rfl (v := .int (mi 0 0)) rfl dX1_restore_22 ?_
  refine lv_iconst (v := 1) hx hb dX1_restore_25 (by decide) ?_
  refine lv_isub hx hb dX1_restore_26 ?_
  refine lv_as (y := nI (sz - 1)) (nI_sub2 (p := sz) (q := 1) hs0 rfl (by omega)) ?_
  refine g_put hx hb hts hown inA1 tyX1 tyX1_ok nmX1 hK hP hE hS 104 (by decide) xc104 rfl 1 (by decide) tw120 rfl rfl (ty := .int) (by decide +kernel) rfl rfl (Nat.le_of_ble_eq_true rfl) dX1_restore_27 (ex' := exC cI cS a (st (pi (sz - 1) + 1)) st pi (up2 mi 0 0 (nI (sz - 1))) po) rfl (xo_mi (by decide)) (fun H locs hP hS => ?_)
  exact rw_vr hx hb hr hlocks hS () hP trivial dX1_restore_30
