theorem upR_id {s : St} {r : Nat} : upR s r (s r) = s := by
  funext q
  by_cases h : q = r
  · subst h; exact if_pos rfl
  · exact if_neg h
theorem mdl_2 {s kp : St} {hf : Nat → St} {sc ad bf X : Nat → Int32} : upR (mdl s kp hf sc ad bf) 2 X = mdl s kp hf sc X bf := by
  funext r
  match r with
  | 0 => rfl
  | 1 => rfl
  | 2 => rfl
  | 3 => rfl
  | 4 => rfl
  | n + 5 => rfl
def shN (f : Nat → Int32) : Nat → Nat → Int32
  | 0 => f
  | n + 1 => upd (shN f n) n (shN f n (69 + n))
def stN (f g : Nat → Int32) (k : Nat) : Nat → Nat → Int32
  | 0 => f
  | n + 1 => upd (stN f g k n) (69 * k + n) (g n)
def unN (f g : Nat → Int32) (k : Nat) : Nat → Nat → Int32
  | 0 => f
  | n + 1 => upd (unN f g k n) n (g (69 * k + n))
def svM (M : St) (kn : Nat) : St :=
  if kn = 6 then up2 (upR (up2 (upR M 3 (shN (M 3) 345)) 0 0 5) 3 (stN (shN (M 3) 345) (M 1) 5 69)) 0 0 6
  else up2 (upR M 3 (stN (M 3) (M 1) kn 69)) 0 0 (nI (kn + 1))
set_option maxHeartbeats 4000000 in
set_option maxRecDepth 100000 in
theorem m_X7_putAside (l : Launch) (D : va_G) (cI cS : ClassId) (b : Nat → Nat) (M : St) (zz : Nat) : Met l yX7_putAside (.code yX7_putAside cX7_putAside 2 none :: wsA) ({ frames := 0, cells := 0, slots := 0, locals := 0 } : Room) (va_Pc [.ref (b 0)] (PW D cI cS 6 b (emC cI b M) zz)) (va_Qv (fun (u : Unit) => True) (BW D 6 b (fun u => emC cI b (upR M 2 (cpN (M 1) (M 2) 69)))) (AX 6 b zz)) 0 0 (AX 6 b zz) := by
  refine mgo (by decide) (Nat.le_of_ble_eq_true rfl) ?_
  intro p e z m below meth c hx hb hr hml hown hts hlocks hB ls hl
  obtain ⟨hsz, hP, hK, hE⟩ := hB
  subst hsz
  have hS : va_S (AX 6 b z.heap.size) z.heap z.heap [] := va_S.rf
  have hl : lv_has ls 2 [(0, .ref (b 0))] := hl
  refine lv_iconst (v := 0) hx hb dX7_putAside_0 (by decide) ?_
  have hP := hP.cast (e' := emC cI b (upR M 2 (cpN (M 1) (M 2) 0))) (congrArg (emC cI b) (upR_id (s := M) (r := 2)))
  refine lv_istore_n (lv' := [(1, .int 0), (0, .ref (b 0))]) hx hb dX7_putAside_1 rfl hl (by decide) rfl (fun ls hl => ?_)
  have loop2 : ∀ (fu : Nat) (j : Nat), 69 + 1 ≤ j + fu → (j ≤ 69) → ∀ (H : Heap) (locs : List Loc), HP D 6 b (emC cI b (upR M 2 (cpN (M 1) (M 2) j))) H → va_S (AX 6 b z.heap.size) z.heap H locs → ∀ ls : Array Slot, lv_has ls 2 [(0, .ref (b 0)), (1, .int (nI j))] → W p l e ({ frames := 0, cells := 0, slots := 0, locals := 0 } : Room) z m ([.ref (b 0)] : List Value).toArray below meth c H locs 0 0 (MQ below (va_Qv (fun (u : Unit) => True) (BW D 6 b (fun u => emC cI b (upR M 2 (cpN (M 1) (M 2) 69)))) (AX 6 b z.heap.size)) ([.ref (b 0)] : List Value).toArray z 0 0 (AX 6 b z.heap.size)) (F0 m 2 ls []) := by
    intro fu
    induction fu with
    | zero => intro j hn hj; exact absurd hn (by omega)
    | succ fu ih2 =>
      intro j hn hj H locs hP hS ls hl
      refine lv_iload_n hx hb dX7_putAside_2 rfl (lv_at hl 1 rfl) ?_
      refine lv_bipush (v := 69) hx hb dX7_putAside_3 (by decide) ?_
      refine lv_icmp_ge (tgt := 26) hx hb dX7_putAside_5 (by decide) (fun c1 => ?_) (fun c1 => ?_)
      · skip
        have c1x := Int32.not_lt.mpr c1
        have c1n := (nI_le2 (p := 69) (q := j) rfl rfl (by omega) (by omega)).mp c1
        have c1n : 69 ≤ j := c1n
        have hjq : 69 = j := by omega
        subst hjq
        exact rw_vr hx hb hr hlocks hS () hP trivial dX7_putAside_26
      · skip
        have c1x := Int32.not_le.mp c1
        have c1n := fun hq0 => c1 ((nI_le2 (p := 69) (q := j) rfl rfl (by omega) (by omega)).mpr hq0)
        have c1n : ¬ (69 ≤ j) := c1n
        refine lv_aload_n hx hb dX7_putAside_8 rfl (lv_at hl 0 rfl) ?_
        refine g_get hx hb hts hown inA7 hK hP 0 (by decide) rfl rfl 1 (by decide) tw761 rfl (v := .ref (b 2)) rfl dX7_putAside_9 ?_
        refine lv_iload_n hx hb dX7_putAside_12 rfl (lv_at hl 1 rfl) ?_
        refine lv_aload_n hx hb dX7_putAside_13 rfl (lv_at hl 0 rfl) ?_
        refine g_get hx hb hts hown inA7 hK hP 0 (by decide) rfl rfl 0 (by decide) tw760 rfl (v := .ref (b 1)) rfl dX7_putAside_14 ?_
        refine lv_iload_n hx hb dX7_putAside_17 rfl (lv_at hl 1 rfl) ?_
        refine g_iald hx hb hK hP 1 (by decide) rfl j rfl (by omega) (by decide) dX7_putAside_18 (v := M 1 j) rfl ?_
        refine g_iast hx hb hK hP hE hS 2 (by decide) rfl j rfl (by omega) (by omega) dX7_putAside_19 (ex' := emC cI b (upR M 2 (cpN (M 1) (M 2) (j + 1)))) rfl (fun q h1 h2 => (mo_row (by decide) q h1 h2).trans (mo_row (by decide) q h1 h2).symm) (fun H locs hP hS => ?_)
        refine lv_iinc (v := nI (j + 1)) (lv' := [(1, .int (nI (j + 1))), (0, .ref (b 0))]) hx hb dX7_putAside_20 hl (k := 1) rfl (nI_add j 1) (by decide) rfl (fun ls hl => ?_)
        refine lv_goto (tgt := 2) hx hb dX7_putAside_23 (by decide) ?_
        exact ih2 (j + 1) (by omega) (by omega) _ _ hP hS ls (lv_sub hl [1, 0] rfl)
  exact loop2 (69 + 1) 0 (by omega) (by omega) _ _ hP hS ls (lv_sub hl [1, 0] rfl)

set_option maxHeartbeats 4000000 in
set_option maxRecDepth 100000 in
theorem m_X7_putBack (l : Launch) (D : va_G) (cI cS : ClassId) (b : Nat → Nat) (M : St) (zz : Nat) : Met l yX7_putBack (.code yX7_putBack cX7_putBack 2 none :: wsA) ({ frames := 0, cells := 0, slots := 0, locals := 0 } : Room) (va_Pc [.ref (b 0)] (PW D cI cS 6 b (emC cI b M) zz)) (va_Qv (fun (u : Unit) => True) (BW D 6 b (fun u => emC cI b (upR M 1 (cpN (M 2) (M 1) 69)))) (AX 6 b zz)) 0 0 (AX 6 b zz) := by
  refine mgo (by decide) (Nat.le_of_ble_eq_true rfl) ?_
  intro p e z m below meth c hx hb hr hml hown hts hlocks hB ls hl
  obtain ⟨hsz, hP, hK, hE⟩ := hB
  subst hsz
  have hS : va_S (AX 6 b z.heap.size) z.heap z.heap [] := va_S.rf
  have hl : lv_has ls 2 [(0, .ref (b 0))] := hl
  refine lv_iconst (v := 0) hx hb dX7_putBack_0 (by decide) ?_
  have hP := hP.cast (e' := emC cI b (upR M 1 (cpN (M 2) (M 1) 0))) (congrArg (emC cI b) (upR_id (s := M) (r := 1)))
  refine lv_istore_n (lv' := [(1, .int 0), (0, .ref (b 0))]) hx hb dX7_putBack_1 rfl hl (by decide) rfl (fun ls hl => ?_)
  have loop2 : ∀ (fu : Nat) (j : Nat), 69 + 1 ≤ j + fu → (j ≤ 69) → ∀ (H : Heap) (locs : List Loc), HP D 6 b (emC cI b (upR M 1 (cpN (M 2) (M 1) j))) H → va_S (AX 6 b z.heap.size) z.heap H locs → ∀ ls : Array Slot, lv_has ls 2 [(0, .ref (b 0)), (1, .int (nI j))] → W p l e ({ frames := 0, cells := 0, slots := 0, locals := 0 } : Room) z m ([.ref (b 0)] : List Value).toArray below meth c H locs 0 0 (MQ below (va_Qv (fun (u : Unit) => True) (BW D 6 b (fun u => emC cI b (upR M 1 (cpN (M 2) (M 1) 69)))) (AX 6 b z.heap.size)) ([.ref (b 0)] : List Value).toArray z 0 0 (AX 6 b z.heap.size)) (F0 m 2 ls []) := by
    intro fu
    induction fu with
    | zero => intro j hn hj; exact absurd hn (by omega)
    | succ fu ih2 =>
      intro j hn hj H locs hP hS ls hl
      refine lv_iload_n hx hb dX7_putBack_2 rfl (lv_at hl 1 rfl) ?_
      refine lv_bipush (v := 69) hx hb dX7_putBack_3 (by decide) ?_
      refine lv_icmp_ge (tgt := 26) hx hb dX7_putBack_5 (by decide) (fun c1 => ?_) (fun c1 => ?_)
      · skip
        have c1x := Int32.not_lt.mpr c1
        have c1n := (nI_le2 (p := 69) (q := j) rfl rfl (by omega) (by omega)).mp c1
        have c1n : 69 ≤ j := c1n
        have hjq : 69 = j := by omega
        subst hjq
        exact rw_vr hx hb hr hlocks hS () hP trivial dX7_putBack_26
      · skip
        have c1x := Int32.not_le.mp c1
        have c1n := fun hq0 => c1 ((nI_le2 (p := 69) (q := j) rfl rfl (by omega) (by omega)).mpr hq0)
        have c1n : ¬ (69 ≤ j) := c1n
        refine lv_aload_n hx hb dX7_putBack_8 rfl (lv_at hl 0 rfl) ?_
        refine g_get hx hb hts hown inA7 hK hP 0 (by decide) rfl rfl 0 (by decide) tw760 rfl (v := .ref (b 1)) rfl dX7_putBack_9 ?_
        refine lv_iload_n hx hb dX7_putBack_12 rfl (lv_at hl 1 rfl) ?_
        refine lv_aload_n hx hb dX7_putBack_13 rfl (lv_at hl 0 rfl) ?_
        refine g_get hx hb hts hown inA7 hK hP 0 (by decide) rfl rfl 1 (by decide) tw761 rfl (v := .ref (b 2)) rfl dX7_putBack_14 ?_
        refine lv_iload_n hx hb dX7_putBack_17 rfl (lv_at hl 1 rfl) ?_
        refine g_iald hx hb hK hP 2 (by decide) rfl j rfl (by omega) (by decide) dX7_putBack_18 (v := M 2 j) rfl ?_
        refine g_iast hx hb hK hP hE hS 1 (by decide) rfl j rfl (by omega) (by omega) dX7_putBack_19 (ex' := emC cI b (upR M 1 (cpN (M 2) (M 1) (j + 1)))) rfl (fun q h1 h2 => (mo_row (by decide) q h1 h2).trans (mo_row (by decide) q h1 h2).symm) (fun H locs hP hS => ?_)
        refine lv_iinc (v := nI (j + 1)) (lv' := [(1, .int (nI (j + 1))), (0, .ref (b 0))]) hx hb dX7_putBack_20 hl (k := 1) rfl (nI_add j 1) (by decide) rfl (fun ls hl => ?_)
        refine lv_goto (tgt := 2) hx hb dX7_putBack_23 (by decide) ?_
        exact ih2 (j + 1) (by omega) (by omega) _ _ hP hS ls (lv_sub hl [1, 0] rfl)
  exact loop2 (69 + 1) 0 (by omega) (by omega) _ _ hP hS ls (lv_sub hl [1, 0] rfl)

set_option maxHeartbeats 4000000 in
set_option maxRecDepth 100000 in
theorem m_X7_save (l : Launch) (D : va_G) (cI cS : ClassId) (b : Nat → Nat) (M : St) (kn : Nat) (hkn : kn ≤ 6) (hk0 : M 0 0 = nI kn) (zz : Nat) : Met l yX7_save (.code yX7_save cX7_save 2 none :: wsA) ({ frames := 0, cells := 0, slots := 0, locals := 0 } : Room) (va_Pc [.ref (b 0)] (PW D cI cS 6 b (emC cI b M) zz)) (va_Qv (fun (u : Unit) => True) (BW D 6 b (fun u => emC cI b (svM M kn))) (AX 6 b zz)) 0 0 (AX 6 b zz) := by
  refine mgo (by decide) (Nat.le_of_ble_eq_true rfl) ?_
  intro p e z m below meth c hx hb hr hml hown hts hlocks hB ls hl
  obtain ⟨hsz, hP, hK, hE⟩ := hB
  subst hsz
  have hS : va_S (AX 6 b z.heap.size) z.heap z.heap [] := va_S.rf
  have hl : lv_has ls 2 [(0, .ref (b 0))] := hl
  refine lv_aload_n hx hb dX7_save_0 rfl (lv_at hl 0 rfl) ?_
  refine g_get hx hb hts hown inA7 hK hP 0 (by decide) rfl rfl 3 (by decide) tw763 rfl (v := .int (M 0 0)) rfl dX7_save_1 ?_
  refine lv_bipush (v := 6) hx hb dX7_save_4 (by decide) ?_
  refine lv_icmp_ne (tgt := 49) hx hb dX7_save_6 (by decide) (fun c1 => ?_) (fun c1 => ?_)
  · skip
    have c1n := fun hq0 => c1 ((nI_eq2 (p := kn) (q := 6) hk0 rfl (by omega) (by omega)).mpr hq0)
    have c1n : ¬ (kn = 6) := c1n
    have hk6 : ¬ kn = 6 := by omega
    have hP := hP.cast (e' := emC cI b (upR M 3 (stN (M 3) (M 1) kn 0))) (congrArg (emC cI b) (upR_id (s := M) (r := 3)))
    refine lv_iconst (v := 0) hx hb dX7_save_49 (by decide) ?_
    refine lv_istore_n (lv' := [(1, .int 0), (0, .ref (b 0))]) hx hb dX7_save_50 rfl hl (by decide) rfl (fun ls hl => ?_)
    have loop51 : ∀ (fu : Nat) (j : Nat), 69 + 1 ≤ j + fu → (j ≤ 69) → ∀ (H : Heap) (locs : List Loc), HP D 6 b (emC cI b (upR M 3 (stN (M 3) (M 1) kn j))) H → va_S (AX 6 b z.heap.size) z.heap H locs → ∀ ls : Array Slot, lv_has ls 2 [(0, .ref (b 0)), (1, .int (nI j))] → W p l e ({ frames := 0, cells := 0, slots := 0, locals := 0 } : Room) z m ([.ref (b 0)] : List Value).toArray below meth c H locs 0 0 (MQ below (va_Qv (fun (u : Unit) => True) (BW D 6 b (fun u => emC cI b (svM M kn))) (AX 6 b z.heap.size)) ([.ref (b 0)] : List Value).toArray z 0 0 (AX 6 b z.heap.size)) (F0 m 51 ls []) := by
      intro fu
      induction fu with
      | zero => intro j hn hj; exact absurd hn (by omega)
      | succ fu ih51 =>
        intro j hn hj H locs hP hS ls hl
        refine lv_iload_n hx hb dX7_save_51 rfl (lv_at hl 1 rfl) ?_
        refine lv_bipush (v := 69) hx hb dX7_save_52 (by decide) ?_
        refine lv_icmp_ge (tgt := 83) hx hb dX7_save_54 (by decide) (fun c2 => ?_) (fun c2 => ?_)
        · skip
          have c2x := Int32.not_lt.mpr c2
          have c2n := (nI_le2 (p := 69) (q := j) rfl rfl (by omega) (by omega)).mp c2
          have c2n : 69 ≤ j := c2n
          have hjq : 69 = j := by omega
          subst hjq
          refine lv_aload_n hx hb dX7_save_83 rfl (lv_at hl 0 rfl) ?_
          refine lv_dup hx hb dX7_save_84 rfl ?_
          refine g_get hx hb hts hown inA7 hK hP 0 (by decide) rfl rfl 3 (by decide) tw763 rfl (v := .int (M 0 0)) rfl dX7_save_85 ?_
          refine lv_iconst (v := 1) hx hb dX7_save_88 (by decide) ?_
          refine lv_iadd hx hb dX7_save_89 ?_
          refine lv_as (y := nI (kn + 1)) (nI_add2 (p := kn) (q := 1) hk0 rfl) ?_
          refine g_put hx hb hts hown inA7 tyX7 tyX7_ok nmX7 hK hP hE hS 0 (by decide) rfl rfl 3 (by decide) tw763 rfl rfl (ty := .int) (by decide +kernel) rfl rfl (Nat.le_of_ble_eq_true rfl) dX7_save_90 (ex' := emC cI b (up2 (upR M 3 (stN (M 3) (M 1) kn 69)) 0 0 (nI (kn + 1)))) rfl mo_sc (fun H locs hP hS => ?_)
          have hWM : (svM M kn) = (up2 (upR M 3 (stN (M 3) (M 1) kn 69)) 0 0 (nI (kn + 1))) := by unfold svM; rw [if_neg hk6]
          have hP := hP.cast (e' := emC cI b (svM M kn)) (by rw [hWM])
          exact rw_vr hx hb hr hlocks hS () hP trivial dX7_save_93
        · skip
          have c2x := Int32.not_le.mp c2
          have c2n := fun hq0 => c2 ((nI_le2 (p := 69) (q := j) rfl rfl (by omega) (by omega)).mpr hq0)
          have c2n : ¬ (69 ≤ j) := c2n
          refine lv_aload_n hx hb dX7_save_57 rfl (lv_at hl 0 rfl) ?_
          refine g_get hx hb hts hown inA7 hK hP 0 (by decide) rfl rfl 2 (by decide) tw762 rfl (v := .ref (b 3)) rfl dX7_save_58 ?_
          refine lv_bipush (v := 69) hx hb dX7_save_61 (by decide) ?_
          refine lv_aload_n hx hb dX7_save_63 rfl (lv_at hl 0 rfl) ?_
          refine g_get hx hb hts hown inA7 hK hP 0 (by decide) rfl rfl 3 (by decide) tw763 rfl (v := .int (M 0 0)) rfl dX7_save_64 ?_
          refine lv_imul hx hb dX7_save_67 ?_
          refine lv_as (y := nI (69 * kn)) (nI_mul2 (p := 69) (q := kn) rfl hk0) ?_
          refine lv_iload_n hx hb dX7_save_68 rfl (lv_at hl 1 rfl) ?_
          refine lv_iadd hx hb dX7_save_69 ?_
          refine lv_as (y := nI (69 * kn + j)) (nI_add2 (p := 69 * kn) (q := j) rfl rfl) ?_
          refine lv_aload_n hx hb dX7_save_70 rfl (lv_at hl 0 rfl) ?_
          refine g_get hx hb hts hown inA7 hK hP 0 (by decide) rfl rfl 0 (by decide) tw760 rfl (v := .ref (b 1)) rfl dX7_save_71 ?_
          refine lv_iload_n hx hb dX7_save_74 rfl (lv_at hl 1 rfl) ?_
          refine g_iald hx hb hK hP 1 (by decide) rfl j rfl (by omega) (by decide) dX7_save_75 (v := M 1 j) rfl ?_
          refine g_iast hx hb hK hP hE hS 3 (by decide) rfl (69 * kn + j) rfl (by omega) (by omega) dX7_save_76 (ex' := emC cI b (upR M 3 (stN (M 3) (M 1) kn (j + 1)))) rfl (fun q h1 h2 => (mo_row (by decide) q h1 h2).trans (mo_row (by decide) q h1 h2).symm) (fun H locs hP hS => ?_)
          refine lv_iinc (v := nI (j + 1)) (lv' := [(1, .int (nI (j + 1))), (0, .ref (b 0))]) hx hb dX7_save_77 hl (k := 1) rfl (nI_add j 1) (by decide) rfl (fun ls hl => ?_)
          refine lv_goto (tgt := 51) hx hb dX7_save_80 (by decide) ?_
          exact ih51 (j + 1) (by omega) (by omega) _ _ hP hS ls (lv_sub hl [1, 0] rfl)
    exact loop51 (69 + 1) 0 (by omega) (by omega) _ _ hP hS ls (lv_sub hl [1, 0] rfl)
  · skip
    have c1n := (nI_eq2 (p := kn) (q := 6) hk0 rfl (by omega) (by omega)).mp c1
    have c1n : kn = 6 := c1n
    have hjq : 6 = kn := by omega
    subst hjq
    have hP := hP.cast (e' := emC cI b (upR M 3 (shN (M 3) 0))) (congrArg (emC cI b) (upR_id (s := M) (r := 3)))
    refine lv_iconst (v := 0) hx hb dX7_save_9 (by decide) ?_
    refine lv_istore_n (lv' := [(1, .int 0), (0, .ref (b 0))]) hx hb dX7_save_10 rfl hl (by decide) rfl (fun ls hl => ?_)
    have loop11 : ∀ (fu : Nat) (j : Nat), 345 + 1 ≤ j + fu → (j ≤ 345) → ∀ (H : Heap) (locs : List Loc), HP D 6 b (emC cI b (upR M 3 (shN (M 3) j))) H → va_S (AX 6 b z.heap.size) z.heap H locs → ∀ ls : Array Slot, lv_has ls 2 [(0, .ref (b 0)), (1, .int (nI j))] → W p l e ({ frames := 0, cells := 0, slots := 0, locals := 0 } : Room) z m ([.ref (b 0)] : List Value).toArray below meth c H locs 0 0 (MQ below (va_Qv (fun (u : Unit) => True) (BW D 6 b (fun u => emC cI b (svM M 6))) (AX 6 b z.heap.size)) ([.ref (b 0)] : List Value).toArray z 0 0 (AX 6 b z.heap.size)) (F0 m 11 ls []) := by
      intro fu
      induction fu with
      | zero => intro j hn hj; exact absurd hn (by omega)
      | succ fu ih11 =>
        intro j hn hj H locs hP hS ls hl
        refine lv_iload_n hx hb dX7_save_11 rfl (lv_at hl 1 rfl) ?_
        refine lv_sipush (v := 345) hx hb dX7_save_12 (by decide) ?_
        refine lv_icmp_ge (tgt := 39) hx hb dX7_save_15 (by decide) (fun c3 => ?_) (fun c3 => ?_)
        · skip
          have c3x := Int32.not_lt.mpr c3
          have c3n := (nI_le2 (p := 345) (q := j) rfl rfl (by omega) (by omega)).mp c3
          have c3n : 345 ≤ j := c3n
          have hjq : 345 = j := by omega
          subst hjq
          refine lv_aload_n hx hb dX7_save_39 rfl (lv_at hl 0 rfl) ?_
          refine lv_dup hx hb dX7_save_40 rfl ?_
          refine g_get hx hb hts hown inA7 hK hP 0 (by decide) rfl rfl 3 (by decide) tw763 rfl (v := .int (M 0 0)) rfl dX7_save_41 ?_
          refine lv_iconst (v := 1) hx hb dX7_save_44 (by decide) ?_
          refine lv_isub hx hb dX7_save_45 ?_
          refine lv_as (y := 5) (by rw [show M 0 0 = _ from hk0]; decide) ?_
          refine g_put hx hb hts hown inA7 tyX7 tyX7_ok nmX7 hK hP hE hS 0 (by decide) rfl rfl 3 (by decide) tw763 rfl rfl (ty := .int) (by decide +kernel) rfl rfl (Nat.le_of_ble_eq_true rfl) dX7_save_46 (ex' := emC cI b (up2 (upR M 3 (shN (M 3) 345)) 0 0 5)) rfl mo_sc (fun H locs hP hS => ?_)
          have hP := hP.cast (e' := emC cI b (upR (up2 (upR M 3 (shN (M 3) 345)) 0 0 5) 3 (stN ((shN (M 3) 345)) (M 1) 5 0))) (congrArg (emC cI b) (upR_id (s := (up2 (upR M 3 (shN (M 3) 345)) 0 0 5)) (r := 3)))
          refine lv_iconst (v := 0) hx hb dX7_save_49 (by decide) ?_
          refine lv_istore_n (lv' := [(1, .int 0), (0, .ref (b 0))]) hx hb dX7_save_50 rfl hl (by decide) rfl (fun ls hl => ?_)
          have loop51 : ∀ (fu : Nat) (j : Nat), 69 + 1 ≤ j + fu → (j ≤ 69) → ∀ (H : Heap) (locs : List Loc), HP D 6 b (emC cI b (upR (up2 (upR M 3 (shN (M 3) 345)) 0 0 5) 3 (stN ((shN (M 3) 345)) (M 1) 5 j))) H → va_S (AX 6 b z.heap.size) z.heap H locs → ∀ ls : Array Slot, lv_has ls 2 [(0, .ref (b 0)), (1, .int (nI j))] → W p l e ({ frames := 0, cells := 0, slots := 0, locals := 0 } : Room) z m ([.ref (b 0)] : List Value).toArray below meth c H locs 0 0 (MQ below (va_Qv (fun (u : Unit) => True) (BW D 6 b (fun u => emC cI b (svM M 6))) (AX 6 b z.heap.size)) ([.ref (b 0)] : List Value).toArray z 0 0 (AX 6 b z.heap.size)) (F0 m 51 ls []) := by
            intro fu
            induction fu with
            | zero => intro j hn hj; exact absurd hn (by omega)
            | succ fu ih51 =>
              intro j hn hj H locs hP hS ls hl
              refine lv_iload_n hx hb dX7_save_51 rfl (lv_at hl 1 rfl) ?_
              refine lv_bipush (v := 69) hx hb dX7_save_52 (by decide) ?_
              refine lv_icmp_ge (tgt := 83) hx hb dX7_save_54 (by decide) (fun c4 => ?_) (fun c4 => ?_)
              · skip
                have c4x := Int32.not_lt.mpr c4
                have c4n := (nI_le2 (p := 69) (q := j) rfl rfl (by omega) (by omega)).mp c4
                have c4n : 69 ≤ j := c4n
                have hjq : 69 = j := by omega
                subst hjq
                refine lv_aload_n hx hb dX7_save_83 rfl (lv_at hl 0 rfl) ?_
                refine lv_dup hx hb dX7_save_84 rfl ?_
                refine g_get hx hb hts hown inA7 hK hP 0 (by decide) rfl rfl 3 (by decide) tw763 rfl (v := .int 5) rfl dX7_save_85 ?_
                refine lv_iconst (v := 1) hx hb dX7_save_88 (by decide) ?_
                refine lv_iadd hx hb dX7_save_89 ?_
                refine lv_as (y := 6) (by decide) ?_
                refine g_put hx hb hts hown inA7 tyX7 tyX7_ok nmX7 hK hP hE hS 0 (by decide) rfl rfl 3 (by decide) tw763 rfl rfl (ty := .int) (by decide +kernel) rfl rfl (Nat.le_of_ble_eq_true rfl) dX7_save_90 (ex' := emC cI b (up2 (upR (up2 (upR M 3 (shN (M 3) 345)) 0 0 5) 3 (stN ((shN (M 3) 345)) (M 1) 5 69)) 0 0 6)) rfl mo_sc (fun H locs hP hS => ?_)
                have hWM : (svM M 6) = (up2 (upR (up2 (upR M 3 (shN (M 3) 345)) 0 0 5) 3 (stN ((shN (M 3) 345)) (M 1) 5 69)) 0 0 6) := by unfold svM; rw [if_pos rfl]
                have hP := hP.cast (e' := emC cI b (svM M 6)) (by rw [hWM])
                exact rw_vr hx hb hr hlocks hS () hP trivial dX7_save_93
              · skip
                have c4x := Int32.not_le.mp c4
                have c4n := fun hq0 => c4 ((nI_le2 (p := 69) (q := j) rfl rfl (by omega) (by omega)).mpr hq0)
                have c4n : ¬ (69 ≤ j) := c4n
                refine lv_aload_n hx hb dX7_save_57 rfl (lv_at hl 0 rfl) ?_
                refine g_get hx hb hts hown inA7 hK hP 0 (by decide) rfl rfl 2 (by decide) tw762 rfl (v := .ref (b 3)) rfl dX7_save_58 ?_
                refine lv_bipush (v := 69) hx hb dX7_save_61 (by decide) ?_
                refine lv_aload_n hx hb dX7_save_63 rfl (lv_at hl 0 rfl) ?_
                refine g_get hx hb hts hown inA7 hK hP 0 (by decide) rfl rfl 3 (by decide) tw763 rfl (v := .int 5) rfl dX7_save_64 ?_
                refine lv_imul hx hb dX7_save_67 ?_
                refine lv_as (y := 345) (by decide) ?_
                refine lv_iload_n hx hb dX7_save_68 rfl (lv_at hl 1 rfl) ?_
                refine lv_iadd hx hb dX7_save_69 ?_
                refine lv_as (y := nI (345 + j)) (nI_add2 (p := 345) (q := j) rfl rfl) ?_
                refine lv_aload_n hx hb dX7_save_70 rfl (lv_at hl 0 rfl) ?_
                refine g_get hx hb hts hown inA7 hK hP 0 (by decide) rfl rfl 0 (by decide) tw760 rfl (v := .ref (b 1)) rfl dX7_save_71 ?_
                refine lv_iload_n hx hb dX7_save_74 rfl (lv_at hl 1 rfl) ?_
                refine g_iald hx hb hK hP 1 (by decide) rfl j rfl (by omega) (by decide) dX7_save_75 (v := M 1 j) (by simp [up2, upR, upd]) ?_
                refine g_iast hx hb hK hP hE hS 3 (by decide) rfl (345 + j) rfl (by omega) (by omega) dX7_save_76 (ex' := emC cI b (upR (up2 (upR M 3 (shN (M 3) 345)) 0 0 5) 3 (stN ((shN (M 3) 345)) (M 1) 5 (j + 1)))) rfl (fun q h1 h2 => (mo_row (by decide) q h1 h2).trans (mo_row (by decide) q h1 h2).symm) (fun H locs hP hS => ?_)
                refine lv_iinc (v := nI (j + 1)) (lv' := [(1, .int (nI (j + 1))), (0, .ref (b 0))]) hx hb dX7_save_77 hl (k := 1) rfl (nI_add j 1) (by decide) rfl (fun ls hl => ?_)
                refine lv_goto (tgt := 51) hx hb dX7_save_80 (by decide) ?_
                exact ih51 (j + 1) (by omega) (by omega) _ _ hP hS ls (lv_sub hl [1, 0] rfl)
          exact loop51 (69 + 1) 0 (by omega) (by omega) _ _ hP hS ls (lv_sub hl [1, 0] rfl)
        · skip
          have c3x := Int32.not_le.mp c3
          have c3n := fun hq0 => c3 ((nI_le2 (p := 345) (q := j) rfl rfl (by omega) (by omega)).mpr hq0)
          have c3n : ¬ (345 ≤ j) := c3n
          refine lv_aload_n hx hb dX7_save_18 rfl (lv_at hl 0 rfl) ?_
          refine g_get hx hb hts hown inA7 hK hP 0 (by decide) rfl rfl 2 (by decide) tw762 rfl (v := .ref (b 3)) rfl dX7_save_19 ?_
          refine lv_iload_n hx hb dX7_save_22 rfl (lv_at hl 1 rfl) ?_
          refine lv_aload_n hx hb dX7_save_23 rfl (lv_at hl 0 rfl) ?_
          refine g_get hx hb hts hown inA7 hK hP 0 (by decide) rfl rfl 2 (by decide) tw762 rfl (v := .ref (b 3)) rfl dX7_save_24 ?_
          refine lv_bipush (v := 69) hx hb dX7_save_27 (by decide) ?_
          refine lv_iload_n hx hb dX7_save_29 rfl (lv_at hl 1 rfl) ?_
          refine lv_iadd hx hb dX7_save_30 ?_
          refine lv_as (y := nI (69 + j)) (nI_add2 (p := 69) (q := j) rfl rfl) ?_
          refine g_iald hx hb hK hP 3 (by decide) rfl (69 + j) rfl (by omega) (by decide) dX7_save_31 (v := (shN (M 3) j) (69 + j)) rfl ?_
          refine g_iast hx hb hK hP hE hS 3 (by decide) rfl j rfl (by omega) (by omega) dX7_save_32 (ex' := emC cI b (upR M 3 (shN (M 3) (j + 1)))) rfl (fun q h1 h2 => (mo_row (by decide) q h1 h2).trans (mo_row (by decide) q h1 h2).symm) (fun H locs hP hS => ?_)
          refine lv_iinc (v := nI (j + 1)) (lv' := [(1, .int (nI (j + 1))), (0, .ref (b 0))]) hx hb dX7_save_33 hl (k := 1) rfl (nI_add j 1) (by decide) rfl (fun ls hl => ?_)
          refine lv_goto (tgt := 11) hx hb dX7_save_36 (by decide) ?_
          exact ih11 (j + 1) (by omega) (by omega) _ _ hP hS ls (lv_sub hl [1, 0] rfl)
    exact loop11 (345 + 1) 0 (by omega) (by omega) _ _ hP hS ls (lv_sub hl [1, 0] rfl)

set_option maxHeartbeats 4000000 in
set_option maxRecDepth 100000 in
theorem m_X7_keep (l : Launch) (D : va_G) (cI cS : ClassId) (b : Nat → Nat) (M : St) (zz : Nat) : Met l yX7_keep (.code yX7_keep cX7_keep 2 (some .int) :: wsA) ({ frames := 0, cells := 0, slots := 0, locals := 0 } : Room) (va_Pc [.ref (b 0)] (PW D cI cS 6 b (emC cI b M) zz)) (va_Qi (fun (r : Int32) (u : Unit) => r = M 1 1) (BW D 6 b (fun u => emC cI b (up2 (upR (up2 M 0 3 0) 4 (cpN (M 1) (M 4) 69)) 0 1 1))) (AX 6 b zz)) 0 0 (AX 6 b zz) := by
  refine mgo (by decide) (Nat.le_of_ble_eq_true rfl) ?_
  intro p e z m below meth c hx hb hr hml hown hts hlocks hB ls hl
  obtain ⟨hsz, hP, hK, hE⟩ := hB
  subst hsz
  have hS : va_S (AX 6 b z.heap.size) z.heap z.heap [] := va_S.rf
  have hl : lv_has ls 2 [(0, .ref (b 0))] := hl
  refine lv_aload_n hx hb dX7_keep_0 rfl (lv_at hl 0 rfl) ?_
  refine lv_iconst (v := 0) hx hb dX7_keep_1 (by decide) ?_
  refine g_put hx hb hts hown inA7 tyX7 tyX7_ok nmX7 hK hP hE hS 0 (by decide) rfl rfl 8 (by decide) tw768 rfl rfl (ty := .int) (by decide +kernel) rfl rfl (Nat.le_of_ble_eq_true rfl) dX7_keep_2 (ex' := emC cI b (up2 M 0 3 0)) rfl mo_sc (fun H locs hP hS => ?_)
  have hP := hP.cast (e' := emC cI b (upR (up2 M 0 3 0) 4 (cpN (M 1) (M 4) 0))) (congrArg (emC cI b) (upR_id (s := (up2 M 0 3 0)) (r := 4)))
  refine lv_iconst (v := 0) hx hb dX7_keep_5 (by decide) ?_
  refine lv_istore_n (lv' := [(1, .int 0), (0, .ref (b 0))]) hx hb dX7_keep_6 rfl hl (by decide) rfl (fun ls hl => ?_)
  have loop7 : ∀ (fu : Nat) (j : Nat), 69 + 1 ≤ j + fu → (j ≤ 69) → ∀ (H : Heap) (locs : List Loc), HP D 6 b (emC cI b (upR (up2 M 0 3 0) 4 (cpN (M 1) (M 4) j))) H → va_S (AX 6 b z.heap.size) z.heap H locs → ∀ ls : Array Slot, lv_has ls 2 [(0, .ref (b 0)), (1, .int (nI j))] → W p l e ({ frames := 0, cells := 0, slots := 0, locals := 0 } : Room) z m ([.ref (b 0)] : List Value).toArray below meth c H locs 0 0 (MQ below (va_Qi (fun (r : Int32) (u : Unit) => r = M 1 1) (BW D 6 b (fun u => emC cI b (up2 (upR (up2 M 0 3 0) 4 (cpN (M 1) (M 4) 69)) 0 1 1))) (AX 6 b z.heap.size)) ([.ref (b 0)] : List Value).toArray z 0 0 (AX 6 b z.heap.size)) (F0 m 7 ls []) := by
    intro fu
    induction fu with
    | zero => intro j hn hj; exact absurd hn (by omega)
    | succ fu ih7 =>
      intro j hn hj H locs hP hS ls hl
      refine lv_iload_n hx hb dX7_keep_7 rfl (lv_at hl 1 rfl) ?_
      refine lv_bipush (v := 69) hx hb dX7_keep_8 (by decide) ?_
      refine lv_icmp_ge (tgt := 31) hx hb dX7_keep_10 (by decide) (fun c1 => ?_) (fun c1 => ?_)
      · skip
        have c1x := Int32.not_lt.mpr c1
        have c1n := (nI_le2 (p := 69) (q := j) rfl rfl (by omega) (by omega)).mp c1
        have c1n : 69 ≤ j := c1n
        have hjq : 69 = j := by omega
        subst hjq
        refine lv_aload_n hx hb dX7_keep_31 rfl (lv_at hl 0 rfl) ?_
        refine lv_iconst (v := 1) hx hb dX7_keep_32 (by decide) ?_
        refine g_put hx hb hts hown inA7 tyX7 tyX7_ok nmX7 hK hP hE hS 0 (by decide) rfl rfl 5 (by decide) tw765 rfl rfl (ty := .boolean) (by decide +kernel) rfl rfl (Nat.le_of_ble_eq_true rfl) dX7_keep_33 (ex' := emC cI b (up2 (upR (up2 M 0 3 0) 4 (cpN (M 1) (M 4) 69)) 0 1 1)) rfl mo_sc (fun H locs hP hS => ?_)
        refine lv_aload_n hx hb dX7_keep_36 rfl (lv_at hl 0 rfl) ?_
        refine g_get hx hb hts hown inA7 hK hP 0 (by decide) rfl rfl 0 (by decide) tw760 rfl (v := .ref (b 1)) rfl dX7_keep_37 ?_
        refine lv_iconst (v := 1) hx hb dX7_keep_40 (by decide) ?_
        refine g_iald hx hb hK hP 1 (by decide) rfl 1 rfl (by omega) (by decide) dX7_keep_41 (v := M 1 1) (by simp [up2, upR, upd]) ?_
        exact rw_ir hx hb hr rfl hlocks hS () hP rfl dX7_keep_42
      · skip
        have c1x := Int32.not_le.mp c1
        have c1n := fun hq0 => c1 ((nI_le2 (p := 69) (q := j) rfl rfl (by omega) (by omega)).mpr hq0)
        have c1n : ¬ (69 ≤ j) := c1n
        refine lv_aload_n hx hb dX7_keep_13 rfl (lv_at hl 0 rfl) ?_
        refine g_get hx hb hts hown inA7 hK hP 0 (by decide) rfl rfl 4 (by decide) tw764 rfl (v := .ref (b 4)) rfl dX7_keep_14 ?_
        refine lv_iload_n hx hb dX7_keep_17 rfl (lv_at hl 1 rfl) ?_
        refine lv_aload_n hx hb dX7_keep_18 rfl (lv_at hl 0 rfl) ?_
        refine g_get hx hb hts hown inA7 hK hP 0 (by decide) rfl rfl 0 (by decide) tw760 rfl (v := .ref (b 1)) rfl dX7_keep_19 ?_
        refine lv_iload_n hx hb dX7_keep_22 rfl (lv_at hl 1 rfl) ?_
        refine g_iald hx hb hK hP 1 (by decide) rfl j rfl (by omega) (by decide) dX7_keep_23 (v := M 1 j) (by simp [up2, upR, upd]) ?_
        refine g_iast hx hb hK hP hE hS 4 (by decide) rfl j rfl (by omega) (by omega) dX7_keep_24 (ex' := emC cI b (upR (up2 M 0 3 0) 4 (cpN (M 1) (M 4) (j + 1)))) rfl (fun q h1 h2 => (mo_row (by decide) q h1 h2).trans (mo_row (by decide) q h1 h2).symm) (fun H locs hP hS => ?_)
        refine lv_iinc (v := nI (j + 1)) (lv' := [(1, .int (nI (j + 1))), (0, .ref (b 0))]) hx hb dX7_keep_25 hl (k := 1) rfl (nI_add j 1) (by decide) rfl (fun ls hl => ?_)
        refine lv_goto (tgt := 7) hx hb dX7_keep_28 (by decide) ?_
        exact ih7 (j + 1) (by omega) (by omega) _ _ hP hS ls (lv_sub hl [1, 0] rfl)
  exact loop7 (69 + 1) 0 (by omega) (by omega) _ _ hP hS ls (lv_sub hl [1, 0] rfl)

set_option maxHeartbeats 4000000 in
set_option maxRecDepth 100000 in
theorem m_X7_goBack (l : Launch) (D : va_G) (cI cS : ClassId) (b : Nat → Nat) (M : St) (kn : Nat) (hkn : kn ≤ 6) (hk0 : M 0 0 = nI kn) (hik : ¬ M 0 1 = 0) (zz : Nat) : Met l yX7_goBack (.code yX7_goBack cX7_goBack 2 (some .int) :: wsA) ({ frames := 1, cells := 0, slots := 0, locals := 21 } : Room) (va_Pc [.ref (b 0)] (PW D cI cS 6 b (emC cI b M) zz)) (va_Qi (fun (r : Int32) (u : Unit) => r = cpN ((svM (up2 M 0 3 0) kn) 4) ((svM (up2 M 0 3 0) kn) 1) 69 1) (BW D 6 b (fun u => emC cI b (upR (svM (up2 M 0 3 0) kn) 1 (cpN ((svM (up2 M 0 3 0) kn) 4) ((svM (up2 M 0 3 0) kn) 1) 69)))) (AX 6 b zz)) 0 0 (AX 6 b zz) := by
  refine mgo (by decide) (Nat.le_of_ble_eq_true rfl) ?_
  intro p e z m below meth c hx hb hr hml hown hts hlocks hB ls hl
  obtain ⟨hsz, hP, hK, hE⟩ := hB
  subst hsz
  have hS : va_S (AX 6 b z.heap.size) z.heap z.heap [] := va_S.rf
  have hl : lv_has ls 2 [(0, .ref (b 0))] := hl
  refine lv_aload_n hx hb dX7_goBack_0 rfl (lv_at hl 0 rfl) ?_
  refine lv_iconst (v := 0) hx hb dX7_goBack_1 (by decide) ?_
  refine g_put hx hb hts hown inA7 tyX7 tyX7_ok nmX7 hK hP hE hS 0 (by decide) rfl rfl 8 (by decide) tw768 rfl rfl (ty := .int) (by decide +kernel) rfl rfl (Nat.le_of_ble_eq_true rfl) dX7_goBack_2 (ex' := emC cI b (up2 M 0 3 0)) rfl mo_sc (fun H locs hP hS => ?_)
  refine lv_aload_n hx hb dX7_goBack_5 rfl (lv_at hl 0 rfl) ?_
  refine g_get hx hb hts hown inA7 hK hP 0 (by decide) rfl rfl 5 (by decide) tw765 rfl (v := .int (M 0 1)) rfl dX7_goBack_6 ?_
  refine lv_if_ne (tgt := 18) hx hb dX7_goBack_9 (by decide) (fun _ => ?_) (fun h0 => absurd h0 hik)
  refine lv_aload_n hx hb dX7_goBack_18 rfl (lv_at hl 0 rfl) ?_
  refine rw_v hS (va_runV (As := []) (rest := []) ⟨hx, hb, hml, hown, hts⟩ (m_X7_save l D cI cS b (up2 M 0 3 0) kn (by omega) hk0 _) (cwV 0 hts (gV tw812 tw809 tw811 ts23 tw8) rfl rfl rfl (by decide +kernel) ⟨Nat.le_of_ble_eq_true rfl, Nat.le_of_ble_eq_true rfl⟩) (pvW 0 hK hP hE (by decide) rfl rfl) rfl rfl hl.1 rfl (lv_room (Nat.le_of_ble_eq_true rfl)) dX7_goBack_19 ⟨Nat.le_of_ble_eq_true rfl, Nat.le_of_ble_eq_true rfl⟩) (fun u3 H locs hr1 hP hS => ?_)
  have hP := hP.cast (e' := emC cI b (upR (svM (up2 M 0 3 0) kn) 1 (cpN ((svM (up2 M 0 3 0) kn) 4) ((svM (up2 M 0 3 0) kn) 1) 0))) (congrArg (emC cI b) (upR_id (s := (svM (up2 M 0 3 0) kn)) (r := 1)))
  refine lv_iconst (v := 0) hx hb dX7_goBack_22 (by decide) ?_
  refine lv_istore_n (lv' := [(1, .int 0), (0, .ref (b 0))]) hx hb dX7_goBack_23 rfl hl (by decide) rfl (fun ls hl => ?_)
  have loop24 : ∀ (fu : Nat) (j : Nat), 69 + 1 ≤ j + fu → (j ≤ 69) → ∀ (H : Heap) (locs : List Loc), HP D 6 b (emC cI b (upR (svM (up2 M 0 3 0) kn) 1 (cpN ((svM (up2 M 0 3 0) kn) 4) ((svM (up2 M 0 3 0) kn) 1) j))) H → va_S (AX 6 b z.heap.size) z.heap H locs → ∀ ls : Array Slot, lv_has ls 2 [(0, .ref (b 0)), (1, .int (nI j))] → W p l e ({ frames := 1, cells := 0, slots := 0, locals := 21 } : Room) z m ([.ref (b 0)] : List Value).toArray below meth c H locs 0 0 (MQ below (va_Qi (fun (r : Int32) (u : Unit) => r = cpN ((svM (up2 M 0 3 0) kn) 4) ((svM (up2 M 0 3 0) kn) 1) 69 1) (BW D 6 b (fun u => emC cI b (upR (svM (up2 M 0 3 0) kn) 1 (cpN ((svM (up2 M 0 3 0) kn) 4) ((svM (up2 M 0 3 0) kn) 1) 69)))) (AX 6 b z.heap.size)) ([.ref (b 0)] : List Value).toArray z 0 0 (AX 6 b z.heap.size)) (F0 m 24 ls []) := by
    intro fu
    induction fu with
    | zero => intro j hn hj; exact absurd hn (by omega)
    | succ fu ih24 =>
      intro j hn hj H locs hP hS ls hl
      refine lv_iload_n hx hb dX7_goBack_24 rfl (lv_at hl 1 rfl) ?_
      refine lv_bipush (v := 69) hx hb dX7_goBack_25 (by decide) ?_
      refine lv_icmp_ge (tgt := 48) hx hb dX7_goBack_27 (by decide) (fun c4 => ?_) (fun c4 => ?_)
      · skip
        have c4x := Int32.not_lt.mpr c4
        have c4n := (nI_le2 (p := 69) (q := j) rfl rfl (by omega) (by omega)).mp c4
        have c4n : 69 ≤ j := c4n
        have hjq : 69 = j := by omega
        subst hjq
        refine lv_aload_n hx hb dX7_goBack_48 rfl (lv_at hl 0 rfl) ?_
        refine g_get hx hb hts hown inA7 hK hP 0 (by decide) rfl rfl 0 (by decide) tw760 rfl (v := .ref (b 1)) rfl dX7_goBack_49 ?_
        refine lv_iconst (v := 1) hx hb dX7_goBack_52 (by decide) ?_
        refine g_iald hx hb hK hP 1 (by decide) rfl 1 rfl (by omega) (by decide) dX7_goBack_53 (v := (cpN ((svM (up2 M 0 3 0) kn) 4) ((svM (up2 M 0 3 0) kn) 1) 69) 1) (by simp [up2, upR, upd]) ?_
        exact rw_ir hx hb hr rfl hlocks hS () hP rfl dX7_goBack_54
      · skip
        have c4x := Int32.not_le.mp c4
        have c4n := fun hq0 => c4 ((nI_le2 (p := 69) (q := j) rfl rfl (by omega) (by omega)).mpr hq0)
        have c4n : ¬ (69 ≤ j) := c4n
        refine lv_aload_n hx hb dX7_goBack_30 rfl (lv_at hl 0 rfl) ?_
        refine g_get hx hb hts hown inA7 hK hP 0 (by decide) rfl rfl 0 (by decide) tw760 rfl (v := .ref (b 1)) rfl dX7_goBack_31 ?_
        refine lv_iload_n hx hb dX7_goBack_34 rfl (lv_at hl 1 rfl) ?_
        refine lv_aload_n hx hb dX7_goBack_35 rfl (lv_at hl 0 rfl) ?_
        refine g_get hx hb hts hown inA7 hK hP 0 (by decide) rfl rfl 4 (by decide) tw764 rfl (v := .ref (b 4)) rfl dX7_goBack_36 ?_
        refine lv_iload_n hx hb dX7_goBack_39 rfl (lv_at hl 1 rfl) ?_
        refine g_iald hx hb hK hP 4 (by decide) rfl j rfl (by omega) (by decide) dX7_goBack_40 (v := (svM (up2 M 0 3 0) kn) 4 j) (by simp [up2, upR, upd]) ?_
        refine g_iast hx hb hK hP hE hS 1 (by decide) rfl j rfl (by omega) (by omega) dX7_goBack_41 (ex' := emC cI b (upR (svM (up2 M 0 3 0) kn) 1 (cpN ((svM (up2 M 0 3 0) kn) 4) ((svM (up2 M 0 3 0) kn) 1) (j + 1)))) rfl (fun q h1 h2 => (mo_row (by decide) q h1 h2).trans (mo_row (by decide) q h1 h2).symm) (fun H locs hP hS => ?_)
        refine lv_iinc (v := nI (j + 1)) (lv' := [(1, .int (nI (j + 1))), (0, .ref (b 0))]) hx hb dX7_goBack_42 hl (k := 1) rfl (nI_add j 1) (by decide) rfl (fun ls hl => ?_)
        refine lv_goto (tgt := 24) hx hb dX7_goBack_45 (by decide) ?_
        exact ih24 (j + 1) (by omega) (by omega) _ _ hP hS ls (lv_sub hl [1, 0] rfl)
  exact loop24 (69 + 1) 0 (by omega) (by omega) _ _ hP hS ls (lv_sub hl [1, 0] rfl)

set_option maxHeartbeats 4000000 in
set_option maxRecDepth 100000 in
theorem m_X7_undo (l : Launch) (D : va_G) (cI cS : ClassId) (b : Nat → Nat) (M : St) (kn : Nat) (hkn : kn ≤ 6) (hk0 : M 0 0 = nI kn) (hk1 : 1 ≤ kn) (zz : Nat) : Met l yX7_undo (.code yX7_undo cX7_undo 2 (some .int) :: wsA) ({ frames := 0, cells := 0, slots := 0, locals := 0 } : Room) (va_Pc [.ref (b 0)] (PW D cI cS 6 b (emC cI b M) zz)) (va_Qi (fun (r : Int32) (u : Unit) => r = nI (kn - 1)) (BW D 6 b (fun u => emC cI b (upR (up2 (up2 M 0 3 0) 0 0 (nI (kn - 1))) 1 (unN (M 1) (M 3) (kn - 1) 69)))) (AX 6 b zz)) 0 0 (AX 6 b zz) := by
  refine mgo (by decide) (Nat.le_of_ble_eq_true rfl) ?_
  intro p e z m below meth c hx hb hr hml hown hts hlocks hB ls hl
  obtain ⟨hsz, hP, hK, hE⟩ := hB
  subst hsz
  have hS : va_S (AX 6 b z.heap.size) z.heap z.heap [] := va_S.rf
  have hl : lv_has ls 2 [(0, .ref (b 0))] := hl
  refine lv_aload_n hx hb dX7_undo_0 rfl (lv_at hl 0 rfl) ?_
  refine lv_iconst (v := 0) hx hb dX7_undo_1 (by decide) ?_
  refine g_put hx hb hts hown inA7 tyX7 tyX7_ok nmX7 hK hP hE hS 0 (by decide) rfl rfl 8 (by decide) tw768 rfl rfl (ty := .int) (by decide +kernel) rfl rfl (Nat.le_of_ble_eq_true rfl) dX7_undo_2 (ex' := emC cI b (up2 M 0 3 0)) rfl mo_sc (fun H locs hP hS => ?_)
  refine lv_aload_n hx hb dX7_undo_5 rfl (lv_at hl 0 rfl) ?_
  refine g_get hx hb hts hown inA7 hK hP 0 (by decide) rfl rfl 3 (by decide) tw763 rfl (v := .int (M 0 0)) rfl dX7_undo_6 ?_
  refine lv_if_ne (tgt := 18) hx hb dX7_undo_9 (by decide) (fun _ => ?_) (fun h0 => absurd h0 (fun h => by have := (nI_eq2 (p := kn) (q := 0) hk0 rfl (by omega) (by omega)).mp h; omega))
  refine lv_aload_n hx hb dX7_undo_18 rfl (lv_at hl 0 rfl) ?_
  refine lv_dup hx hb dX7_undo_19 rfl ?_
  refine g_get hx hb hts hown inA7 hK hP 0 (by decide) rfl rfl 3 (by decide) tw763 rfl (v := .int (M 0 0)) rfl dX7_undo_20 ?_
  refine lv_iconst (v := 1) hx hb dX7_undo_23 (by decide) ?_
  refine lv_isub hx hb dX7_undo_24 ?_
  refine lv_as (y := nI (kn - 1)) (nI_sub2 (p := kn) (q := 1) hk0 rfl (by omega)) ?_
  refine g_put hx hb hts hown inA7 tyX7 tyX7_ok nmX7 hK hP hE hS 0 (by decide) rfl rfl 3 (by decide) tw763 rfl rfl (ty := .int) (by decide +kernel) rfl rfl (Nat.le_of_ble_eq_true rfl) dX7_undo_25 (ex' := emC cI b (up2 (up2 M 0 3 0) 0 0 (nI (kn - 1)))) rfl mo_sc (fun H locs hP hS => ?_)
  have hP := hP.cast (e' := emC cI b (upR (up2 (up2 M 0 3 0) 0 0 (nI (kn - 1))) 1 (unN (M 1) (M 3) (kn - 1) 0))) (congrArg (emC cI b) (upR_id (s := (up2 (up2 M 0 3 0) 0 0 (nI (kn - 1)))) (r := 1)))
  refine lv_iconst (v := 0) hx hb dX7_undo_28 (by decide) ?_
  refine lv_istore_n (lv' := [(1, .int 0), (0, .ref (b 0))]) hx hb dX7_undo_29 rfl hl (by decide) rfl (fun ls hl => ?_)
  have loop30 : ∀ (fu : Nat) (j : Nat), 69 + 1 ≤ j + fu → (j ≤ 69) → ∀ (H : Heap) (locs : List Loc), HP D 6 b (emC cI b (upR (up2 (up2 M 0 3 0) 0 0 (nI (kn - 1))) 1 (unN (M 1) (M 3) (kn - 1) j))) H → va_S (AX 6 b z.heap.size) z.heap H locs → ∀ ls : Array Slot, lv_has ls 2 [(0, .ref (b 0)), (1, .int (nI j))] → W p l e ({ frames := 0, cells := 0, slots := 0, locals := 0 } : Room) z m ([.ref (b 0)] : List Value).toArray below meth c H locs 0 0 (MQ below (va_Qi (fun (r : Int32) (u : Unit) => r = nI (kn - 1)) (BW D 6 b (fun u => emC cI b (upR (up2 (up2 M 0 3 0) 0 0 (nI (kn - 1))) 1 (unN (M 1) (M 3) (kn - 1) 69)))) (AX 6 b z.heap.size)) ([.ref (b 0)] : List Value).toArray z 0 0 (AX 6 b z.heap.size)) (F0 m 30 ls []) := by
    intro fu
    induction fu with
    | zero => intro j hn hj; exact absurd hn (by omega)
    | succ fu ih30 =>
      intro j hn hj H locs hP hS ls hl
      refine lv_iload_n hx hb dX7_undo_30 rfl (lv_at hl 1 rfl) ?_
      refine lv_bipush (v := 69) hx hb dX7_undo_31 (by decide) ?_
      refine lv_icmp_ge (tgt := 62) hx hb dX7_undo_33 (by decide) (fun c1 => ?_) (fun c1 => ?_)
      · skip
        have c1x := Int32.not_lt.mpr c1
        have c1n := (nI_le2 (p := 69) (q := j) rfl rfl (by omega) (by omega)).mp c1
        have c1n : 69 ≤ j := c1n
        have hjq : 69 = j := by omega
        subst hjq
        refine lv_aload_n hx hb dX7_undo_62 rfl (lv_at hl 0 rfl) ?_
        refine g_get hx hb hts hown inA7 hK hP 0 (by decide) rfl rfl 3 (by decide) tw763 rfl (v := .int (nI (kn - 1))) rfl dX7_undo_63 ?_
        exact rw_ir hx hb hr rfl hlocks hS () hP rfl dX7_undo_66
      · skip
        have c1x := Int32.not_le.mp c1
        have c1n := fun hq0 => c1 ((nI_le2 (p := 69) (q := j) rfl rfl (by omega) (by omega)).mpr hq0)
        have c1n : ¬ (69 ≤ j) := c1n
        refine lv_aload_n hx hb dX7_undo_36 rfl (lv_at hl 0 rfl) ?_
        refine g_get hx hb hts hown inA7 hK hP 0 (by decide) rfl rfl 0 (by decide) tw760 rfl (v := .ref (b 1)) rfl dX7_undo_37 ?_
        refine lv_iload_n hx hb dX7_undo_40 rfl (lv_at hl 1 rfl) ?_
        refine lv_aload_n hx hb dX7_undo_41 rfl (lv_at hl 0 rfl) ?_
        refine g_get hx hb hts hown inA7 hK hP 0 (by decide) rfl rfl 2 (by decide) tw762 rfl (v := .ref (b 3)) rfl dX7_undo_42 ?_
        refine lv_bipush (v := 69) hx hb dX7_undo_45 (by decide) ?_
        refine lv_aload_n hx hb dX7_undo_47 rfl (lv_at hl 0 rfl) ?_
        refine g_get hx hb hts hown inA7 hK hP 0 (by decide) rfl rfl 3 (by decide) tw763 rfl (v := .int (nI (kn - 1))) rfl dX7_undo_48 ?_
        refine lv_imul hx hb dX7_undo_51 ?_
        refine lv_as (y := nI (69 * (kn - 1))) (nI_mul2 (p := 69) (q := kn - 1) rfl rfl) ?_
        refine lv_iload_n hx hb dX7_undo_52 rfl (lv_at hl 1 rfl) ?_
        refine lv_iadd hx hb dX7_undo_53 ?_
        refine lv_as (y := nI (69 * (kn - 1) + j)) (nI_add2 (p := 69 * (kn - 1)) (q := j) rfl rfl) ?_
        refine g_iald hx hb hK hP 3 (by decide) rfl (69 * (kn - 1) + j) rfl (by omega) (by decide) dX7_undo_54 (v := M 3 (69 * (kn - 1) + j)) (by simp [up2, upR, upd]) ?_
        refine g_iast hx hb hK hP hE hS 1 (by decide) rfl j rfl (by omega) (by omega) dX7_undo_55 (ex' := emC cI b (upR (up2 (up2 M 0 3 0) 0 0 (nI (kn - 1))) 1 (unN (M 1) (M 3) (kn - 1) (j + 1)))) rfl (fun q h1 h2 => (mo_row (by decide) q h1 h2).trans (mo_row (by decide) q h1 h2).symm) (fun H locs hP hS => ?_)
        refine lv_iinc (v := nI (j + 1)) (lv' := [(1, .int (nI (j + 1))), (0, .ref (b 0))]) hx hb dX7_undo_56 hl (k := 1) rfl (nI_add j 1) (by decide) rfl (fun ls hl => ?_)
        refine lv_goto (tgt := 30) hx hb dX7_undo_59 (by decide) ?_
        exact ih30 (j + 1) (by omega) (by omega) _ _ hP hS ls (lv_sub hl [1, 0] rfl)
  exact loop30 (69 + 1) 0 (by omega) (by omega) _ _ hP hS ls (lv_sub hl [1, 0] rfl)
