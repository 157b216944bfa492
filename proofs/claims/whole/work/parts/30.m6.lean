def svK (kn : Nat) : Nat := svQ kn + 1
def pq (sc : Nat → Int32) (p : Nat) (w : Int32) : Nat → Int32 := upd (upd sc 4 (nI p)) 5 w
theorem go_e2 {b : Nat → Int32} {ln p E : Nat} (hJ : stJ b ln 0 0 p 0) (h : PK b ln p E) (hE : ln ≤ E) : GO b ln E 0 := by
  have h2 := h.2.1
  have e : E = ln := by omega
  subst e
  exact go_e hJ h
theorem ob_en2 {b : Nat → Int32} {ln E : Nat} {t : St} {n : Int32} (h : ln ≤ E) : obF b ln (ln - E) E t n = (t, n) := by rw [show ln - E = 0 by omega]; rfl
set_option maxHeartbeats 4000000 in
set_option maxRecDepth 100000 in
theorem m_X7_sign_ok (l : Launch) (D : va_G) (cI cS : ClassId) (b : Nat → Nat) (s kp : St) (hf : Nat → St) (sc ad bf : Nat → Int32) (ln : Nat) (hln : ln ≤ 60) (hl0 : sc 2 = nI ln) (pp : Nat) (hp : pp ≤ ln) (lo hi : Int32) (h1 : pp < ln ∧ witB (bf pp) lo hi) (zz : Nat) : Met l yX7_sign (.code yX7_sign cX7_sign 4 (some .int) :: wsA) ({ frames := 1, cells := 0, slots := 0, locals := 22 } : Room) (va_Pc [.ref (b 0), .int lo, .int hi] (PW D cI cS 6 b (emC cI b (mdl s kp hf (pq sc pp 0) ad bf)) zz)) (va_Qi (fun (r : Int32) (u : Unit) => r = bf pp) (BW D 6 b (fun u => emC cI b (mdl s kp hf (pq sc (pp + 1) 0) ad bf))) (AX 6 b zz)) 0 0 (AX 6 b zz) := by
  refine mgo (by decide) (Nat.le_of_ble_eq_true rfl) ?_
  intro p e z m below meth c hx hb hr hml hown hts hlocks hB ls hl
  obtain ⟨hsz, hP, hK, hE⟩ := hB
  subst hsz
  have hS : va_S (AX 6 b z.heap.size) z.heap z.heap [] := va_S.rf
  have hl : lv_has ls 4 [(0, .ref (b 0)), (1, .int lo), (2, .int hi)] := hl
  obtain ⟨hp1, hwt⟩ := h1
  refine lv_aload_n hx hb dX7_sign_0 rfl (lv_at hl 0 rfl) ?_
  refine g_get hx hb hts hown inA7 hK hP 0 (by decide) rfl rfl 9 (by decide) tw769 rfl (v := .int (nI pp)) rfl dX7_sign_1 ?_
  refine lv_aload_n hx hb dX7_sign_4 rfl (lv_at hl 0 rfl) ?_
  refine g_get hx hb hts hown inA7 hK hP 0 (by decide) rfl rfl 7 (by decide) tw767 rfl (v := .int (sc 2)) rfl dX7_sign_5 ?_
  refine lv_icmp_ge (tgt := 23) hx hb dX7_sign_8 (by decide) (fun h0 => absurd h0 (fun h => by have := (nI_le2 (p := ln) (q := pp) hl0 rfl (by omega) (by omega)).mp h; omega)) (fun _ => ?_)
  refine lv_aload_n hx hb dX7_sign_11 rfl (lv_at hl 0 rfl) ?_
  refine g_get hx hb hts hown inA7 hK hP 0 (by decide) rfl rfl 6 (by decide) tw766 rfl (v := .ref (b 5)) rfl dX7_sign_12 ?_
  refine lv_aload_n hx hb dX7_sign_15 rfl (lv_at hl 0 rfl) ?_
  refine g_get hx hb hts hown inA7 hK hP 0 (by decide) rfl rfl 9 (by decide) tw769 rfl (v := .int (nI pp)) rfl dX7_sign_16 ?_
  refine g_iald hx hb hK hP 5 (by decide) rfl pp rfl (by omega) (by decide) dX7_sign_19 (v := bf pp) rfl ?_
  refine lv_goto (tgt := 24) hx hb dX7_sign_20 (by decide) ?_
  refine lv_istore_n (lv' := [(3, .int (bf pp)), (0, .ref (b 0)), (1, .int lo), (2, .int hi)]) hx hb dX7_sign_24 rfl hl (by decide) rfl (fun ls hl => ?_)
  refine lv_aload_n hx hb dX7_sign_25 rfl (lv_at hl 1 rfl) ?_
  refine lv_aload_n hx hb dX7_sign_26 rfl (lv_at hl 1 rfl) ?_
  refine g_get hx hb hts hown inA7 hK hP 0 (by decide) rfl rfl 10 (by decide) tw770 rfl (v := .int 0) rfl dX7_sign_27 ?_
  refine lv_if_ne (tgt := 53) hx hb dX7_sign_30 (by decide) (fun h0 => absurd (by decide) h0) (fun _ => ?_)
  refine lv_aload_n hx hb dX7_sign_33 rfl (lv_at hl 1 rfl) ?_
  refine g_get hx hb hts hown inA7 hK hP 0 (by decide) rfl rfl 9 (by decide) tw769 rfl (v := .int (nI pp)) rfl dX7_sign_34 ?_
  refine lv_aload_n hx hb dX7_sign_37 rfl (lv_at hl 1 rfl) ?_
  refine g_get hx hb hts hown inA7 hK hP 0 (by decide) rfl rfl 7 (by decide) tw767 rfl (v := .int (sc 2)) rfl dX7_sign_38 ?_
  refine lv_icmp_ge (tgt := 53) hx hb dX7_sign_41 (by decide) (fun h0 => absurd h0 (fun h => by have := (nI_le2 (p := ln) (q := pp) hl0 rfl (by omega) (by omega)).mp h; omega)) (fun _ => ?_)
  refine lv_iload_n hx hb dX7_sign_44 rfl (lv_at hl 0 rfl) ?_
  refine lv_iload_n hx hb dX7_sign_45 rfl (lv_at hl 2 rfl) ?_
  refine lv_iload_n hx hb dX7_sign_46 rfl (lv_at hl 3 rfl) ?_
  refine ro_i (va_runS (As := [.int (bf pp), .int lo, .int hi]) (rest := [.ref (b 0)]) ⟨hx, hb, hml, hown, hts⟩ (m_X7_in l (bf pp) lo hi) (va_cwS 3 hts (gS tw804 tw802 tw803 tw8) rfl rfl rfl (by decide +kernel) ⟨Nat.le_of_ble_eq_true rfl, Nat.le_of_ble_eq_true rfl⟩) ps0 rfl rfl hl.1 rfl (lv_room (Nat.le_of_ble_eq_true rfl)) dX7_sign_47 ⟨Nat.le_of_ble_eq_true rfl, Nat.le_of_ble_eq_true rfl⟩) (fun r2 hr1 => ?_)
  subst hr1
  refine lv_bI (fun c4 => ?_) (fun c4 => ?_)
  · skip
    refine lv_if_ne (tgt := 57) hx hb dX7_sign_50 (by decide) (fun _ => ?_) (fun h0 => absurd h0 (by decide))
    refine lv_iconst (v := 0) hx hb dX7_sign_57 (by decide) ?_
    refine g_put hx hb hts hown inA7 tyX7 tyX7_ok nmX7 hK hP hE hS 0 (by decide) rfl rfl 10 (by decide) tw770 rfl rfl (ty := .boolean) (by decide +kernel) rfl rfl (Nat.le_of_ble_eq_true rfl) dX7_sign_58 (ex' := emC cI b (mdl s kp hf (pq sc pp 0) ad bf)) rfl mm_sc (fun H locs hP hS => ?_)
    refine lv_aload_n hx hb dX7_sign_61 rfl (lv_at hl 1 rfl) ?_
    refine lv_dup hx hb dX7_sign_62 rfl ?_
    refine g_get hx hb hts hown inA7 hK hP 0 (by decide) rfl rfl 9 (by decide) tw769 rfl (v := .int (nI pp)) rfl dX7_sign_63 ?_
    refine lv_aload_n hx hb dX7_sign_66 rfl (lv_at hl 1 rfl) ?_
    refine g_get hx hb hts hown inA7 hK hP 0 (by decide) rfl rfl 10 (by decide) tw770 rfl (v := .int 0) rfl dX7_sign_67 ?_
    refine lv_if_eq (tgt := 77) hx hb dX7_sign_70 (by decide) (fun _ => ?_) (fun h0 => absurd (by decide) h0)
    refine lv_iconst (v := 1) hx hb dX7_sign_77 (by decide) ?_
    refine lv_iadd hx hb dX7_sign_78 ?_
    refine lv_as (y := nI (pp + 1)) (nI_add2 (p := pp) (q := 1) rfl rfl) ?_
    refine g_put hx hb hts hown inA7 tyX7 tyX7_ok nmX7 hK hP hE hS 0 (by decide) rfl rfl 9 (by decide) tw769 rfl rfl (ty := .int) (by decide +kernel) rfl rfl (Nat.le_of_ble_eq_true rfl) dX7_sign_79 (ex' := emC cI b (mdl s kp hf (pq sc (pp + 1) 0) ad bf)) rfl mm_sc (fun H locs hP hS => ?_)
    refine lv_iload_n hx hb dX7_sign_82 rfl (lv_at hl 0 rfl) ?_
    exact rw_ir hx hb hr rfl hlocks hS () hP rfl dX7_sign_83
  · skip
    exact absurd hwt c4

set_option maxHeartbeats 4000000 in
set_option maxRecDepth 100000 in
theorem m_X7_sign_no (l : Launch) (D : va_G) (cI cS : ClassId) (b : Nat → Nat) (s kp : St) (hf : Nat → St) (sc ad bf : Nat → Int32) (ln : Nat) (hln : ln ≤ 60) (hl0 : sc 2 = nI ln) (pp : Nat) (hp : pp ≤ ln) (lo hi : Int32) (h1 : ¬ (pp < ln ∧ witB (bf pp) lo hi)) (zz : Nat) : Met l yX7_sign (.code yX7_sign cX7_sign 4 (some .int) :: wsA) ({ frames := 1, cells := 0, slots := 0, locals := 22 } : Room) (va_Pc [.ref (b 0), .int lo, .int hi] (PW D cI cS 6 b (emC cI b (mdl s kp hf (pq sc pp 0) ad bf)) zz)) (va_Qi (fun (r : Int32) (u : Unit) => r = cdA bf ln pp) (BW D 6 b (fun u => emC cI b (mdl s kp hf (pq sc pp 1) ad bf))) (AX 6 b zz)) 0 0 (AX 6 b zz) := by
  refine mgo (by decide) (Nat.le_of_ble_eq_true rfl) ?_
  intro p e z m below meth c hx hb hr hml hown hts hlocks hB ls hl
  obtain ⟨hsz, hP, hK, hE⟩ := hB
  subst hsz
  have hS : va_S (AX 6 b z.heap.size) z.heap z.heap [] := va_S.rf
  have hl : lv_has ls 4 [(0, .ref (b 0)), (1, .int lo), (2, .int hi)] := hl
  refine lv_aload_n hx hb dX7_sign_0 rfl (lv_at hl 0 rfl) ?_
  refine g_get hx hb hts hown inA7 hK hP 0 (by decide) rfl rfl 9 (by decide) tw769 rfl (v := .int (nI pp)) rfl dX7_sign_1 ?_
  refine lv_aload_n hx hb dX7_sign_4 rfl (lv_at hl 0 rfl) ?_
  refine g_get hx hb hts hown inA7 hK hP 0 (by decide) rfl rfl 7 (by decide) tw767 rfl (v := .int (sc 2)) rfl dX7_sign_5 ?_
  refine lv_icmp_ge (tgt := 23) hx hb dX7_sign_8 (by decide) (fun c1 => ?_) (fun c1 => ?_)
  · skip
    have c1x := Int32.not_lt.mpr c1
    have c1n := (nI_le2 (p := ln) (q := pp) hl0 rfl (by omega) (by omega)).mp c1
    have c1n : ln ≤ pp := c1n
    refine lv_iconst (v := 0) hx hb dX7_sign_23 (by decide) ?_
    refine lv_istore_n (lv' := [(3, .int 0), (0, .ref (b 0)), (1, .int lo), (2, .int hi)]) hx hb dX7_sign_24 rfl hl (by decide) rfl (fun ls hl => ?_)
    refine lv_aload_n hx hb dX7_sign_25 rfl (lv_at hl 1 rfl) ?_
    refine lv_aload_n hx hb dX7_sign_26 rfl (lv_at hl 1 rfl) ?_
    refine g_get hx hb hts hown inA7 hK hP 0 (by decide) rfl rfl 10 (by decide) tw770 rfl (v := .int 0) rfl dX7_sign_27 ?_
    refine lv_if_ne (tgt := 53) hx hb dX7_sign_30 (by decide) (fun h0 => absurd (by decide) h0) (fun _ => ?_)
    refine lv_aload_n hx hb dX7_sign_33 rfl (lv_at hl 1 rfl) ?_
    refine g_get hx hb hts hown inA7 hK hP 0 (by decide) rfl rfl 9 (by decide) tw769 rfl (v := .int (nI pp)) rfl dX7_sign_34 ?_
    refine lv_aload_n hx hb dX7_sign_37 rfl (lv_at hl 1 rfl) ?_
    refine g_get hx hb hts hown inA7 hK hP 0 (by decide) rfl rfl 7 (by decide) tw767 rfl (v := .int (sc 2)) rfl dX7_sign_38 ?_
    refine lv_icmp_ge (tgt := 53) hx hb dX7_sign_41 (by decide) (fun c2 => ?_) (fun c2 => ?_)
    · skip
      have c2x := Int32.not_lt.mpr c2
      have c2n := (nI_le2 (p := ln) (q := pp) hl0 rfl (by omega) (by omega)).mp c2
      have c2n : ln ≤ pp := c2n
      refine lv_iconst (v := 1) hx hb dX7_sign_53 (by decide) ?_
      refine lv_goto (tgt := 58) hx hb dX7_sign_54 (by decide) ?_
      refine g_put hx hb hts hown inA7 tyX7 tyX7_ok nmX7 hK hP hE hS 0 (by decide) rfl rfl 10 (by decide) tw770 rfl rfl (ty := .boolean) (by decide +kernel) rfl rfl (Nat.le_of_ble_eq_true rfl) dX7_sign_58 (ex' := emC cI b (mdl s kp hf (pq sc pp 1) ad bf)) rfl mm_sc (fun H locs hP hS => ?_)
      refine lv_aload_n hx hb dX7_sign_61 rfl (lv_at hl 1 rfl) ?_
      refine lv_dup hx hb dX7_sign_62 rfl ?_
      refine g_get hx hb hts hown inA7 hK hP 0 (by decide) rfl rfl 9 (by decide) tw769 rfl (v := .int (nI pp)) rfl dX7_sign_63 ?_
      refine lv_aload_n hx hb dX7_sign_66 rfl (lv_at hl 1 rfl) ?_
      refine g_get hx hb hts hown inA7 hK hP 0 (by decide) rfl rfl 10 (by decide) tw770 rfl (v := .int 1) rfl dX7_sign_67 ?_
      refine lv_if_eq (tgt := 77) hx hb dX7_sign_70 (by decide) (fun h0 => absurd h0 (by decide)) (fun _ => ?_)
      refine lv_iconst (v := 0) hx hb dX7_sign_73 (by decide) ?_
      refine lv_goto (tgt := 78) hx hb dX7_sign_74 (by decide) ?_
      refine lv_iadd hx hb dX7_sign_78 ?_
      refine lv_as (y := nI (pp + 0)) (nI_add2 (p := pp) (q := 0) rfl rfl) ?_
      refine g_put hx hb hts hown inA7 tyX7 tyX7_ok nmX7 hK hP hE hS 0 (by decide) rfl rfl 9 (by decide) tw769 rfl rfl (ty := .int) (by decide +kernel) rfl rfl (Nat.le_of_ble_eq_true rfl) dX7_sign_79 (ex' := emC cI b (mdl s kp hf (pq sc pp 1) ad bf)) rfl mm_sc (fun H locs hP hS => ?_)
      refine lv_iload_n hx hb dX7_sign_82 rfl (lv_at hl 0 rfl) ?_
      exact rw_ir hx hb hr rfl hlocks hS () hP (by unfold cdA; rw [if_neg (by omega)]) dX7_sign_83
    · skip
      have c2x := Int32.not_le.mp c2
      have c2n := fun hq0 => c2 ((nI_le2 (p := ln) (q := pp) hl0 rfl (by omega) (by omega)).mpr hq0)
      have c2n : ¬ (ln ≤ pp) := c2n
      have hnw : ¬ witB 0 lo hi := fun q => by omega
      refine lv_iload_n hx hb dX7_sign_44 rfl (lv_at hl 0 rfl) ?_
      refine lv_iload_n hx hb dX7_sign_45 rfl (lv_at hl 2 rfl) ?_
      refine lv_iload_n hx hb dX7_sign_46 rfl (lv_at hl 3 rfl) ?_
      refine ro_i (va_runS (As := [.int 0, .int lo, .int hi]) (rest := [.ref (b 0)]) ⟨hx, hb, hml, hown, hts⟩ (m_X7_in l 0 lo hi) (va_cwS 3 hts (gS tw804 tw802 tw803 tw8) rfl rfl rfl (by decide +kernel) ⟨Nat.le_of_ble_eq_true rfl, Nat.le_of_ble_eq_true rfl⟩) ps0 rfl rfl hl.1 rfl (lv_room (Nat.le_of_ble_eq_true rfl)) dX7_sign_47 ⟨Nat.le_of_ble_eq_true rfl, Nat.le_of_ble_eq_true rfl⟩) (fun r4 hr3 => ?_)
      subst hr3
      refine lv_bI (fun c6 => ?_) (fun c6 => ?_)
      · skip
        exact absurd c6 hnw
      · skip
        refine lv_if_ne (tgt := 57) hx hb dX7_sign_50 (by decide) (fun h0 => absurd (by decide) h0) (fun _ => ?_)
        refine lv_iconst (v := 1) hx hb dX7_sign_53 (by decide) ?_
        refine lv_goto (tgt := 58) hx hb dX7_sign_54 (by decide) ?_
        refine g_put hx hb hts hown inA7 tyX7 tyX7_ok nmX7 hK hP hE hS 0 (by decide) rfl rfl 10 (by decide) tw770 rfl rfl (ty := .boolean) (by decide +kernel) rfl rfl (Nat.le_of_ble_eq_true rfl) dX7_sign_58 (ex' := emC cI b (mdl s kp hf (pq sc pp 1) ad bf)) rfl mm_sc (fun H locs hP hS => ?_)
        refine lv_aload_n hx hb dX7_sign_61 rfl (lv_at hl 1 rfl) ?_
        refine lv_dup hx hb dX7_sign_62 rfl ?_
        refine g_get hx hb hts hown inA7 hK hP 0 (by decide) rfl rfl 9 (by decide) tw769 rfl (v := .int (nI pp)) rfl dX7_sign_63 ?_
        refine lv_aload_n hx hb dX7_sign_66 rfl (lv_at hl 1 rfl) ?_
        refine g_get hx hb hts hown inA7 hK hP 0 (by decide) rfl rfl 10 (by decide) tw770 rfl (v := .int 1) rfl dX7_sign_67 ?_
        refine lv_if_eq (tgt := 77) hx hb dX7_sign_70 (by decide) (fun h0 => absurd h0 (by decide)) (fun _ => ?_)
        refine lv_iconst (v := 0) hx hb dX7_sign_73 (by decide) ?_
        refine lv_goto (tgt := 78) hx hb dX7_sign_74 (by decide) ?_
        refine lv_iadd hx hb dX7_sign_78 ?_
        refine lv_as (y := nI (pp + 0)) (nI_add2 (p := pp) (q := 0) rfl rfl) ?_
        refine g_put hx hb hts hown inA7 tyX7 tyX7_ok nmX7 hK hP hE hS 0 (by decide) rfl rfl 9 (by decide) tw769 rfl rfl (ty := .int) (by decide +kernel) rfl rfl (Nat.le_of_ble_eq_true rfl) dX7_sign_79 (ex' := emC cI b (mdl s kp hf (pq sc pp 1) ad bf)) rfl mm_sc (fun H locs hP hS => ?_)
        refine lv_iload_n hx hb dX7_sign_82 rfl (lv_at hl 0 rfl) ?_
        exact rw_ir hx hb hr rfl hlocks hS () hP (by unfold cdA; rw [if_neg (by omega)]) dX7_sign_83
  · skip
    have c1x := Int32.not_le.mp c1
    have c1n := fun hq0 => c1 ((nI_le2 (p := ln) (q := pp) hl0 rfl (by omega) (by omega)).mpr hq0)
    have c1n : ¬ (ln ≤ pp) := c1n
    refine lv_aload_n hx hb dX7_sign_11 rfl (lv_at hl 0 rfl) ?_
    refine g_get hx hb hts hown inA7 hK hP 0 (by decide) rfl rfl 6 (by decide) tw766 rfl (v := .ref (b 5)) rfl dX7_sign_12 ?_
    refine lv_aload_n hx hb dX7_sign_15 rfl (lv_at hl 0 rfl) ?_
    refine g_get hx hb hts hown inA7 hK hP 0 (by decide) rfl rfl 9 (by decide) tw769 rfl (v := .int (nI pp)) rfl dX7_sign_16 ?_
    refine g_iald hx hb hK hP 5 (by decide) rfl pp rfl (by omega) (by decide) dX7_sign_19 (v := bf pp) rfl ?_
    refine lv_goto (tgt := 24) hx hb dX7_sign_20 (by decide) ?_
    refine lv_istore_n (lv' := [(3, .int (bf pp)), (0, .ref (b 0)), (1, .int lo), (2, .int hi)]) hx hb dX7_sign_24 rfl hl (by decide) rfl (fun ls hl => ?_)
    refine lv_aload_n hx hb dX7_sign_25 rfl (lv_at hl 1 rfl) ?_
    refine lv_aload_n hx hb dX7_sign_26 rfl (lv_at hl 1 rfl) ?_
    refine g_get hx hb hts hown inA7 hK hP 0 (by decide) rfl rfl 10 (by decide) tw770 rfl (v := .int 0) rfl dX7_sign_27 ?_
    refine lv_if_ne (tgt := 53) hx hb dX7_sign_30 (by decide) (fun h0 => absurd (by decide) h0) (fun _ => ?_)
    refine lv_aload_n hx hb dX7_sign_33 rfl (lv_at hl 1 rfl) ?_
    refine g_get hx hb hts hown inA7 hK hP 0 (by decide) rfl rfl 9 (by decide) tw769 rfl (v := .int (nI pp)) rfl dX7_sign_34 ?_
    refine lv_aload_n hx hb dX7_sign_37 rfl (lv_at hl 1 rfl) ?_
    refine g_get hx hb hts hown inA7 hK hP 0 (by decide) rfl rfl 7 (by decide) tw767 rfl (v := .int (sc 2)) rfl dX7_sign_38 ?_
    refine lv_icmp_ge (tgt := 53) hx hb dX7_sign_41 (by decide) (fun c7 => ?_) (fun c7 => ?_)
    · skip
      have c7x := Int32.not_lt.mpr c7
      have c7n := (nI_le2 (p := ln) (q := pp) hl0 rfl (by omega) (by omega)).mp c7
      have c7n : ln ≤ pp := c7n
      refine lv_iconst (v := 1) hx hb dX7_sign_53 (by decide) ?_
      refine lv_goto (tgt := 58) hx hb dX7_sign_54 (by decide) ?_
      refine g_put hx hb hts hown inA7 tyX7 tyX7_ok nmX7 hK hP hE hS 0 (by decide) rfl rfl 10 (by decide) tw770 rfl rfl (ty := .boolean) (by decide +kernel) rfl rfl (Nat.le_of_ble_eq_true rfl) dX7_sign_58 (ex' := emC cI b (mdl s kp hf (pq sc pp 1) ad bf)) rfl mm_sc (fun H locs hP hS => ?_)
      refine lv_aload_n hx hb dX7_sign_61 rfl (lv_at hl 1 rfl) ?_
      refine lv_dup hx hb dX7_sign_62 rfl ?_
      refine g_get hx hb hts hown inA7 hK hP 0 (by decide) rfl rfl 9 (by decide) tw769 rfl (v := .int (nI pp)) rfl dX7_sign_63 ?_
      refine lv_aload_n hx hb dX7_sign_66 rfl (lv_at hl 1 rfl) ?_
      refine g_get hx hb hts hown inA7 hK hP 0 (by decide) rfl rfl 10 (by decide) tw770 rfl (v := .int 1) rfl dX7_sign_67 ?_
      refine lv_if_eq (tgt := 77) hx hb dX7_sign_70 (by decide) (fun h0 => absurd h0 (by decide)) (fun _ => ?_)
      refine lv_iconst (v := 0) hx hb dX7_sign_73 (by decide) ?_
      refine lv_goto (tgt := 78) hx hb dX7_sign_74 (by decide) ?_
      refine lv_iadd hx hb dX7_sign_78 ?_
      refine lv_as (y := nI (pp + 0)) (nI_add2 (p := pp) (q := 0) rfl rfl) ?_
      refine g_put hx hb hts hown inA7 tyX7 tyX7_ok nmX7 hK hP hE hS 0 (by decide) rfl rfl 9 (by decide) tw769 rfl rfl (ty := .int) (by decide +kernel) rfl rfl (Nat.le_of_ble_eq_true rfl) dX7_sign_79 (ex' := emC cI b (mdl s kp hf (pq sc pp 1) ad bf)) rfl mm_sc (fun H locs hP hS => ?_)
      refine lv_iload_n hx hb dX7_sign_82 rfl (lv_at hl 0 rfl) ?_
      exact rw_ir hx hb hr rfl hlocks hS () hP (by unfold cdA; rw [if_pos (by omega)]) dX7_sign_83
    · skip
      have c7x := Int32.not_le.mp c7
      have c7n := fun hq0 => c7 ((nI_le2 (p := ln) (q := pp) hl0 rfl (by omega) (by omega)).mpr hq0)
      have c7n : ¬ (ln ≤ pp) := c7n
      have hnw : ¬ witB (bf pp) lo hi := fun q => h1 ⟨by omega, q⟩
      refine lv_iload_n hx hb dX7_sign_44 rfl (lv_at hl 0 rfl) ?_
      refine lv_iload_n hx hb dX7_sign_45 rfl (lv_at hl 2 rfl) ?_
      refine lv_iload_n hx hb dX7_sign_46 rfl (lv_at hl 3 rfl) ?_
      refine ro_i (va_runS (As := [.int (bf pp), .int lo, .int hi]) (rest := [.ref (b 0)]) ⟨hx, hb, hml, hown, hts⟩ (m_X7_in l (bf pp) lo hi) (va_cwS 3 hts (gS tw804 tw802 tw803 tw8) rfl rfl rfl (by decide +kernel) ⟨Nat.le_of_ble_eq_true rfl, Nat.le_of_ble_eq_true rfl⟩) ps0 rfl rfl hl.1 rfl (lv_room (Nat.le_of_ble_eq_true rfl)) dX7_sign_47 ⟨Nat.le_of_ble_eq_true rfl, Nat.le_of_ble_eq_true rfl⟩) (fun r9 hr8 => ?_)
      subst hr8
      refine lv_bI (fun c11 => ?_) (fun c11 => ?_)
      · skip
        exact absurd c11 hnw
      · skip
        refine lv_if_ne (tgt := 57) hx hb dX7_sign_50 (by decide) (fun h0 => absurd (by decide) h0) (fun _ => ?_)
        refine lv_iconst (v := 1) hx hb dX7_sign_53 (by decide) ?_
        refine lv_goto (tgt := 58) hx hb dX7_sign_54 (by decide) ?_
        refine g_put hx hb hts hown inA7 tyX7 tyX7_ok nmX7 hK hP hE hS 0 (by decide) rfl rfl 10 (by decide) tw770 rfl rfl (ty := .boolean) (by decide +kernel) rfl rfl (Nat.le_of_ble_eq_true rfl) dX7_sign_58 (ex' := emC cI b (mdl s kp hf (pq sc pp 1) ad bf)) rfl mm_sc (fun H locs hP hS => ?_)
        refine lv_aload_n hx hb dX7_sign_61 rfl (lv_at hl 1 rfl) ?_
        refine lv_dup hx hb dX7_sign_62 rfl ?_
        refine g_get hx hb hts hown inA7 hK hP 0 (by decide) rfl rfl 9 (by decide) tw769 rfl (v := .int (nI pp)) rfl dX7_sign_63 ?_
        refine lv_aload_n hx hb dX7_sign_66 rfl (lv_at hl 1 rfl) ?_
        refine g_get hx hb hts hown inA7 hK hP 0 (by decide) rfl rfl 10 (by decide) tw770 rfl (v := .int 1) rfl dX7_sign_67 ?_
        refine lv_if_eq (tgt := 77) hx hb dX7_sign_70 (by decide) (fun h0 => absurd h0 (by decide)) (fun _ => ?_)
        refine lv_iconst (v := 0) hx hb dX7_sign_73 (by decide) ?_
        refine lv_goto (tgt := 78) hx hb dX7_sign_74 (by decide) ?_
        refine lv_iadd hx hb dX7_sign_78 ?_
        refine lv_as (y := nI (pp + 0)) (nI_add2 (p := pp) (q := 0) rfl rfl) ?_
        refine g_put hx hb hts hown inA7 tyX7 tyX7_ok nmX7 hK hP hE hS 0 (by decide) rfl rfl 9 (by decide) tw769 rfl rfl (ty := .int) (by decide +kernel) rfl rfl (Nat.le_of_ble_eq_true rfl) dX7_sign_79 (ex' := emC cI b (mdl s kp hf (pq sc pp 1) ad bf)) rfl mm_sc (fun H locs hP hS => ?_)
        refine lv_iload_n hx hb dX7_sign_82 rfl (lv_at hl 0 rfl) ?_
        exact rw_ir hx hb hr rfl hlocks hS () hP (by unfold cdA; rw [if_pos (by omega)]) dX7_sign_83

set_option maxHeartbeats 4000000 in
set_option maxRecDepth 100000 in
theorem m_X7_sign_w (l : Launch) (D : va_G) (cI cS : ClassId) (b : Nat → Nat) (s kp : St) (hf : Nat → St) (sc ad bf : Nat → Int32) (ln : Nat) (hln : ln ≤ 60) (hl0 : sc 2 = nI ln) (pp : Nat) (hp : pp ≤ ln) (lo hi : Int32) (zz : Nat) : Met l yX7_sign (.code yX7_sign cX7_sign 4 (some .int) :: wsA) ({ frames := 0, cells := 0, slots := 0, locals := 0 } : Room) (va_Pc [.ref (b 0), .int lo, .int hi] (PW D cI cS 6 b (emC cI b (mdl s kp hf (pq sc pp 1) ad bf)) zz)) (va_Qi (fun (r : Int32) (u : Unit) => r = cdA bf ln pp) (BW D 6 b (fun u => emC cI b (mdl s kp hf (pq sc pp 1) ad bf))) (AX 6 b zz)) 0 0 (AX 6 b zz) := by
  refine mgo (by decide) (Nat.le_of_ble_eq_true rfl) ?_
  intro p e z m below meth c hx hb hr hml hown hts hlocks hB ls hl
  obtain ⟨hsz, hP, hK, hE⟩ := hB
  subst hsz
  have hS : va_S (AX 6 b z.heap.size) z.heap z.heap [] := va_S.rf
  have hl : lv_has ls 4 [(0, .ref (b 0)), (1, .int lo), (2, .int hi)] := hl
  refine lv_aload_n hx hb dX7_sign_0 rfl (lv_at hl 0 rfl) ?_
  refine g_get hx hb hts hown inA7 hK hP 0 (by decide) rfl rfl 9 (by decide) tw769 rfl (v := .int (nI pp)) rfl dX7_sign_1 ?_
  refine lv_aload_n hx hb dX7_sign_4 rfl (lv_at hl 0 rfl) ?_
  refine g_get hx hb hts hown inA7 hK hP 0 (by decide) rfl rfl 7 (by decide) tw767 rfl (v := .int (sc 2)) rfl dX7_sign_5 ?_
  refine lv_icmp_ge (tgt := 23) hx hb dX7_sign_8 (by decide) (fun c1 => ?_) (fun c1 => ?_)
  · skip
    have c1x := Int32.not_lt.mpr c1
    have c1n := (nI_le2 (p := ln) (q := pp) hl0 rfl (by omega) (by omega)).mp c1
    have c1n : ln ≤ pp := c1n
    refine lv_iconst (v := 0) hx hb dX7_sign_23 (by decide) ?_
    refine lv_istore_n (lv' := [(3, .int 0), (0, .ref (b 0)), (1, .int lo), (2, .int hi)]) hx hb dX7_sign_24 rfl hl (by decide) rfl (fun ls hl => ?_)
    refine lv_aload_n hx hb dX7_sign_25 rfl (lv_at hl 1 rfl) ?_
    refine lv_aload_n hx hb dX7_sign_26 rfl (lv_at hl 1 rfl) ?_
    refine g_get hx hb hts hown inA7 hK hP 0 (by decide) rfl rfl 10 (by decide) tw770 rfl (v := .int 1) rfl dX7_sign_27 ?_
    refine lv_if_ne (tgt := 53) hx hb dX7_sign_30 (by decide) (fun _ => ?_) (fun h0 => absurd h0 (by decide))
    refine lv_iconst (v := 1) hx hb dX7_sign_53 (by decide) ?_
    refine lv_goto (tgt := 58) hx hb dX7_sign_54 (by decide) ?_
    refine g_put hx hb hts hown inA7 tyX7 tyX7_ok nmX7 hK hP hE hS 0 (by decide) rfl rfl 10 (by decide) tw770 rfl rfl (ty := .boolean) (by decide +kernel) rfl rfl (Nat.le_of_ble_eq_true rfl) dX7_sign_58 (ex' := emC cI b (mdl s kp hf (pq sc pp 1) ad bf)) rfl mm_sc (fun H locs hP hS => ?_)
    refine lv_aload_n hx hb dX7_sign_61 rfl (lv_at hl 1 rfl) ?_
    refine lv_dup hx hb dX7_sign_62 rfl ?_
    refine g_get hx hb hts hown inA7 hK hP 0 (by decide) rfl rfl 9 (by decide) tw769 rfl (v := .int (nI pp)) rfl dX7_sign_63 ?_
    refine lv_aload_n hx hb dX7_sign_66 rfl (lv_at hl 1 rfl) ?_
    refine g_get hx hb hts hown inA7 hK hP 0 (by decide) rfl rfl 10 (by decide) tw770 rfl (v := .int 1) rfl dX7_sign_67 ?_
    refine lv_if_eq (tgt := 77) hx hb dX7_sign_70 (by decide) (fun h0 => absurd h0 (by decide)) (fun _ => ?_)
    refine lv_iconst (v := 0) hx hb dX7_sign_73 (by decide) ?_
    refine lv_goto (tgt := 78) hx hb dX7_sign_74 (by decide) ?_
    refine lv_iadd hx hb dX7_sign_78 ?_
    refine lv_as (y := nI (pp + 0)) (nI_add2 (p := pp) (q := 0) rfl rfl) ?_
    refine g_put hx hb hts hown inA7 tyX7 tyX7_ok nmX7 hK hP hE hS 0 (by decide) rfl rfl 9 (by decide) tw769 rfl rfl (ty := .int) (by decide +kernel) rfl rfl (Nat.le_of_ble_eq_true rfl) dX7_sign_79 (ex' := emC cI b (mdl s kp hf (pq sc pp 1) ad bf)) rfl mm_sc (fun H locs hP hS => ?_)
    refine lv_iload_n hx hb dX7_sign_82 rfl (lv_at hl 0 rfl) ?_
    exact rw_ir hx hb hr rfl hlocks hS () hP (by unfold cdA; rw [if_neg (by omega)]) dX7_sign_83
  · skip
    have c1x := Int32.not_le.mp c1
    have c1n := fun hq0 => c1 ((nI_le2 (p := ln) (q := pp) hl0 rfl (by omega) (by omega)).mpr hq0)
    have c1n : ¬ (ln ≤ pp) := c1n
    refine lv_aload_n hx hb dX7_sign_11 rfl (lv_at hl 0 rfl) ?_
    refine g_get hx hb hts hown inA7 hK hP 0 (by decide) rfl rfl 6 (by decide) tw766 rfl (v := .ref (b 5)) rfl dX7_sign_12 ?_
    refine lv_aload_n hx hb dX7_sign_15 rfl (lv_at hl 0 rfl) ?_
    refine g_get hx hb hts hown inA7 hK hP 0 (by decide) rfl rfl 9 (by decide) tw769 rfl (v := .int (nI pp)) rfl dX7_sign_16 ?_
    refine g_iald hx hb hK hP 5 (by decide) rfl pp rfl (by omega) (by decide) dX7_sign_19 (v := bf pp) rfl ?_
    refine lv_goto (tgt := 24) hx hb dX7_sign_20 (by decide) ?_
    refine lv_istore_n (lv' := [(3, .int (bf pp)), (0, .ref (b 0)), (1, .int lo), (2, .int hi)]) hx hb dX7_sign_24 rfl hl (by decide) rfl (fun ls hl => ?_)
    refine lv_aload_n hx hb dX7_sign_25 rfl (lv_at hl 1 rfl) ?_
    refine lv_aload_n hx hb dX7_sign_26 rfl (lv_at hl 1 rfl) ?_
    refine g_get hx hb hts hown inA7 hK hP 0 (by decide) rfl rfl 10 (by decide) tw770 rfl (v := .int 1) rfl dX7_sign_27 ?_
    refine lv_if_ne (tgt := 53) hx hb dX7_sign_30 (by decide) (fun _ => ?_) (fun h0 => absurd h0 (by decide))
    refine lv_iconst (v := 1) hx hb dX7_sign_53 (by decide) ?_
    refine lv_goto (tgt := 58) hx hb dX7_sign_54 (by decide) ?_
    refine g_put hx hb hts hown inA7 tyX7 tyX7_ok nmX7 hK hP hE hS 0 (by decide) rfl rfl 10 (by decide) tw770 rfl rfl (ty := .boolean) (by decide +kernel) rfl rfl (Nat.le_of_ble_eq_true rfl) dX7_sign_58 (ex' := emC cI b (mdl s kp hf (pq sc pp 1) ad bf)) rfl mm_sc (fun H locs hP hS => ?_)
    refine lv_aload_n hx hb dX7_sign_61 rfl (lv_at hl 1 rfl) ?_
    refine lv_dup hx hb dX7_sign_62 rfl ?_
    refine g_get hx hb hts hown inA7 hK hP 0 (by decide) rfl rfl 9 (by decide) tw769 rfl (v := .int (nI pp)) rfl dX7_sign_63 ?_
    refine lv_aload_n hx hb dX7_sign_66 rfl (lv_at hl 1 rfl) ?_
    refine g_get hx hb hts hown inA7 hK hP 0 (by decide) rfl rfl 10 (by decide) tw770 rfl (v := .int 1) rfl dX7_sign_67 ?_
    refine lv_if_eq (tgt := 77) hx hb dX7_sign_70 (by decide) (fun h0 => absurd h0 (by decide)) (fun _ => ?_)
    refine lv_iconst (v := 0) hx hb dX7_sign_73 (by decide) ?_
    refine lv_goto (tgt := 78) hx hb dX7_sign_74 (by decide) ?_
    refine lv_iadd hx hb dX7_sign_78 ?_
    refine lv_as (y := nI (pp + 0)) (nI_add2 (p := pp) (q := 0) rfl rfl) ?_
    refine g_put hx hb hts hown inA7 tyX7 tyX7_ok nmX7 hK hP hE hS 0 (by decide) rfl rfl 9 (by decide) tw769 rfl rfl (ty := .int) (by decide +kernel) rfl rfl (Nat.le_of_ble_eq_true rfl) dX7_sign_79 (ex' := emC cI b (mdl s kp hf (pq sc pp 1) ad bf)) rfl mm_sc (fun H locs hP hS => ?_)
    refine lv_iload_n hx hb dX7_sign_82 rfl (lv_at hl 0 rfl) ?_
    exact rw_ir hx hb hr rfl hlocks hS () hP (by unfold cdA; rw [if_pos (by omega)]) dX7_sign_83

set_option maxHeartbeats 4000000 in
set_option maxRecDepth 100000 in
theorem m_X7_isNext_t (l : Launch) (D : va_G) (cI cS : ClassId) (b : Nat → Nat) (s kp : St) (hf : Nat → St) (sc ad bf : Nat → Int32) (ln : Nat) (hln : ln ≤ 60) (hl0 : sc 2 = nI ln) (pp : Nat) (hp : pp ≤ ln) (lo hi : Int32) (h1 : pp < ln ∧ witB (bf pp) lo hi) : Met l yX7_isNext (.code yX7_isNext cX7_isNext 3 (some .boolean) :: wsA) ({ frames := 1, cells := 0, slots := 0, locals := 22 } : Room) (va_Pc [.ref (b 0), .int lo, .int hi] (PR D cI cS 6 b (emC cI b (mdl s kp hf (pq sc pp 0) ad bf)))) (vp_Si (fun r => r = 1)) 0 0 (fun _ => False) := by
  refine mgo (by decide) (Nat.le_of_ble_eq_true rfl) ?_
  intro p e z m below meth c hx hb hr hml hown hts hlocks hB ls hl
  obtain ⟨hP, hK⟩ := hB
  have hl : lv_has ls 3 [(0, .ref (b 0)), (1, .int lo), (2, .int hi)] := hl
  obtain ⟨hp1, hwt⟩ := h1
  refine lv_aload_n hx hb dX7_isNext_0 rfl (lv_at hl 0 rfl) ?_
  refine g_get hx hb hts hown inA7 hK hP 0 (by decide) rfl rfl 10 (by decide) tw770 rfl (v := .int 0) rfl dX7_isNext_1 ?_
  refine lv_if_ne (tgt := 39) hx hb dX7_isNext_4 (by decide) (fun h0 => absurd (by decide) h0) (fun _ => ?_)
  refine lv_aload_n hx hb dX7_isNext_7 rfl (lv_at hl 0 rfl) ?_
  refine g_get hx hb hts hown inA7 hK hP 0 (by decide) rfl rfl 9 (by decide) tw769 rfl (v := .int (nI pp)) rfl dX7_isNext_8 ?_
  refine lv_aload_n hx hb dX7_isNext_11 rfl (lv_at hl 0 rfl) ?_
  refine g_get hx hb hts hown inA7 hK hP 0 (by decide) rfl rfl 7 (by decide) tw767 rfl (v := .int (sc 2)) rfl dX7_isNext_12 ?_
  refine lv_icmp_ge (tgt := 39) hx hb dX7_isNext_15 (by decide) (fun h0 => absurd h0 (fun h => by have := (nI_le2 (p := ln) (q := pp) hl0 rfl (by omega) (by omega)).mp h; omega)) (fun _ => ?_)
  refine lv_aload_n hx hb dX7_isNext_18 rfl (lv_at hl 0 rfl) ?_
  refine g_get hx hb hts hown inA7 hK hP 0 (by decide) rfl rfl 6 (by decide) tw766 rfl (v := .ref (b 5)) rfl dX7_isNext_19 ?_
  refine lv_aload_n hx hb dX7_isNext_22 rfl (lv_at hl 0 rfl) ?_
  refine g_get hx hb hts hown inA7 hK hP 0 (by decide) rfl rfl 9 (by decide) tw769 rfl (v := .int (nI pp)) rfl dX7_isNext_23 ?_
  refine g_iald hx hb hK hP 5 (by decide) rfl pp rfl (by omega) (by decide) dX7_isNext_26 (v := bf pp) rfl ?_
  refine lv_iload_n hx hb dX7_isNext_27 rfl (lv_at hl 1 rfl) ?_
  refine lv_iload_n hx hb dX7_isNext_28 rfl (lv_at hl 2 rfl) ?_
  refine ro_i (va_runS (As := [.int (bf pp), .int lo, .int hi]) (rest := []) ⟨hx, hb, hml, hown, hts⟩ (m_X7_in l (bf pp) lo hi) (va_cwS 3 hts (gS tw804 tw802 tw803 tw8) rfl rfl rfl (by decide +kernel) ⟨Nat.le_of_ble_eq_true rfl, Nat.le_of_ble_eq_true rfl⟩) ps0 rfl rfl hl.1 rfl (lv_room (Nat.le_of_ble_eq_true rfl)) dX7_isNext_29 ⟨Nat.le_of_ble_eq_true rfl, Nat.le_of_ble_eq_true rfl⟩) (fun r2 hr1 => ?_)
  subst hr1
  refine lv_bI (fun c4 => ?_) (fun c4 => ?_)
  · skip
    refine lv_if_eq (tgt := 39) hx hb dX7_isNext_32 (by decide) (fun h0 => absurd h0 (by decide)) (fun _ => ?_)
    refine lv_iconst (v := 1) hx hb dX7_isNext_35 (by decide) ?_
    refine lv_goto (tgt := 40) hx hb dX7_isNext_36 (by decide) ?_
    exact ro_ir hx hb hr rfl hlocks rfl dX7_isNext_40
  · skip
    exact absurd hwt c4

set_option maxHeartbeats 4000000 in
set_option maxRecDepth 100000 in
theorem m_X7_isNext_f (l : Launch) (D : va_G) (cI cS : ClassId) (b : Nat → Nat) (s kp : St) (hf : Nat → St) (sc ad bf : Nat → Int32) (ln : Nat) (hln : ln ≤ 60) (hl0 : sc 2 = nI ln) (pp : Nat) (hp : pp ≤ ln) (lo hi : Int32) (h1 : ¬ (pp < ln ∧ witB (bf pp) lo hi)) : Met l yX7_isNext (.code yX7_isNext cX7_isNext 3 (some .boolean) :: wsA) ({ frames := 1, cells := 0, slots := 0, locals := 22 } : Room) (va_Pc [.ref (b 0), .int lo, .int hi] (PR D cI cS 6 b (emC cI b (mdl s kp hf (pq sc pp 0) ad bf)))) (vp_Si (fun r => r = 0)) 0 0 (fun _ => False) := by
  refine mgo (by decide) (Nat.le_of_ble_eq_true rfl) ?_
  intro p e z m below meth c hx hb hr hml hown hts hlocks hB ls hl
  obtain ⟨hP, hK⟩ := hB
  have hl : lv_has ls 3 [(0, .ref (b 0)), (1, .int lo), (2, .int hi)] := hl
  refine lv_aload_n hx hb dX7_isNext_0 rfl (lv_at hl 0 rfl) ?_
  refine g_get hx hb hts hown inA7 hK hP 0 (by decide) rfl rfl 10 (by decide) tw770 rfl (v := .int 0) rfl dX7_isNext_1 ?_
  refine lv_if_ne (tgt := 39) hx hb dX7_isNext_4 (by decide) (fun h0 => absurd (by decide) h0) (fun _ => ?_)
  refine lv_aload_n hx hb dX7_isNext_7 rfl (lv_at hl 0 rfl) ?_
  refine g_get hx hb hts hown inA7 hK hP 0 (by decide) rfl rfl 9 (by decide) tw769 rfl (v := .int (nI pp)) rfl dX7_isNext_8 ?_
  refine lv_aload_n hx hb dX7_isNext_11 rfl (lv_at hl 0 rfl) ?_
  refine g_get hx hb hts hown inA7 hK hP 0 (by decide) rfl rfl 7 (by decide) tw767 rfl (v := .int (sc 2)) rfl dX7_isNext_12 ?_
  refine lv_icmp_ge (tgt := 39) hx hb dX7_isNext_15 (by decide) (fun c1 => ?_) (fun c1 => ?_)
  · skip
    have c1x := Int32.not_lt.mpr c1
    have c1n := (nI_le2 (p := ln) (q := pp) hl0 rfl (by omega) (by omega)).mp c1
    have c1n : ln ≤ pp := c1n
    refine lv_iconst (v := 0) hx hb dX7_isNext_39 (by decide) ?_
    exact ro_ir hx hb hr rfl hlocks rfl dX7_isNext_40
  · skip
    have c1x := Int32.not_le.mp c1
    have c1n := fun hq0 => c1 ((nI_le2 (p := ln) (q := pp) hl0 rfl (by omega) (by omega)).mpr hq0)
    have c1n : ¬ (ln ≤ pp) := c1n
    have hnw : ¬ witB (bf pp) lo hi := fun q => h1 ⟨by omega, q⟩
    refine lv_aload_n hx hb dX7_isNext_18 rfl (lv_at hl 0 rfl) ?_
    refine g_get hx hb hts hown inA7 hK hP 0 (by decide) rfl rfl 6 (by decide) tw766 rfl (v := .ref (b 5)) rfl dX7_isNext_19 ?_
    refine lv_aload_n hx hb dX7_isNext_22 rfl (lv_at hl 0 rfl) ?_
    refine g_get hx hb hts hown inA7 hK hP 0 (by decide) rfl rfl 9 (by decide) tw769 rfl (v := .int (nI pp)) rfl dX7_isNext_23 ?_
    refine g_iald hx hb hK hP 5 (by decide) rfl pp rfl (by omega) (by decide) dX7_isNext_26 (v := bf pp) rfl ?_
    refine lv_iload_n hx hb dX7_isNext_27 rfl (lv_at hl 1 rfl) ?_
    refine lv_iload_n hx hb dX7_isNext_28 rfl (lv_at hl 2 rfl) ?_
    refine ro_i (va_runS (As := [.int (bf pp), .int lo, .int hi]) (rest := []) ⟨hx, hb, hml, hown, hts⟩ (m_X7_in l (bf pp) lo hi) (va_cwS 3 hts (gS tw804 tw802 tw803 tw8) rfl rfl rfl (by decide +kernel) ⟨Nat.le_of_ble_eq_true rfl, Nat.le_of_ble_eq_true rfl⟩) ps0 rfl rfl hl.1 rfl (lv_room (Nat.le_of_ble_eq_true rfl)) dX7_isNext_29 ⟨Nat.le_of_ble_eq_true rfl, Nat.le_of_ble_eq_true rfl⟩) (fun r3 hr2 => ?_)
    subst hr2
    refine lv_bI (fun c5 => ?_) (fun c5 => ?_)
    · skip
      exact absurd c5 hnw
    · skip
      refine lv_if_eq (tgt := 39) hx hb dX7_isNext_32 (by decide) (fun _ => ?_) (fun h0 => absurd (by decide) h0)
      refine lv_iconst (v := 0) hx hb dX7_isNext_39 (by decide) ?_
      exact ro_ir hx hb hr rfl hlocks rfl dX7_isNext_40

set_option maxHeartbeats 4000000 in
set_option maxRecDepth 100000 in
theorem m_X7_isNext_w (l : Launch) (D : va_G) (cI cS : ClassId) (b : Nat → Nat) (s kp : St) (hf : Nat → St) (sc ad bf : Nat → Int32) (ln : Nat) (hln : ln ≤ 60) (hl0 : sc 2 = nI ln) (pp : Nat) (hp : pp ≤ ln) (lo hi : Int32) : Met l yX7_isNext (.code yX7_isNext cX7_isNext 3 (some .boolean) :: wsA) ({ frames := 0, cells := 0, slots := 0, locals := 0 } : Room) (va_Pc [.ref (b 0), .int lo, .int hi] (PR D cI cS 6 b (emC cI b (mdl s kp hf (pq sc pp 1) ad bf)))) (vp_Si (fun r => r = 0)) 0 0 (fun _ => False) := by
  refine mgo (by decide) (Nat.le_of_ble_eq_true rfl) ?_
  intro p e z m below meth c hx hb hr hml hown hts hlocks hB ls hl
  obtain ⟨hP, hK⟩ := hB
  have hl : lv_has ls 3 [(0, .ref (b 0)), (1, .int lo), (2, .int hi)] := hl
  refine lv_aload_n hx hb dX7_isNext_0 rfl (lv_at hl 0 rfl) ?_
  refine g_get hx hb hts hown inA7 hK hP 0 (by decide) rfl rfl 10 (by decide) tw770 rfl (v := .int 1) rfl dX7_isNext_1 ?_
  refine lv_if_ne (tgt := 39) hx hb dX7_isNext_4 (by decide) (fun _ => ?_) (fun h0 => absurd h0 (by decide))
  refine lv_iconst (v := 0) hx hb dX7_isNext_39 (by decide) ?_
  exact ro_ir hx hb hr rfl hlocks rfl dX7_isNext_40

set_option maxHeartbeats 4000000 in
set_option maxRecDepth 100000 in
theorem m_X7_part0 (l : Launch) (D : va_G) (cI cS : ClassId) (b : Nat → Nat) (s kp : St) (hf : Nat → St) (sc ad bf : Nat → Int32) (ln : Nat) (hln : ln ≤ 60) (hl0 : sc 2 = nI ln) (pp : Nat) (hp : pp ≤ ln) (zz : Nat) : Met l yX7_part (.code yX7_part cX7_part 7 (some .boolean) :: wsA) ({ frames := 2, cells := 0, slots := 0, locals := 45 } : Room) (va_Pc [.ref (b 0), .int 0] (PW D cI cS 6 b (emC cI b (mdl s kp hf (pq sc pp 0) ad bf)) zz)) (va_Qi (fun (r : Int32) (u : Nat × Int32) => r = 1 ∧ ((u.2 = 0 ∧ PK bf ln pp u.1) ∨ (u.2 = 1 ∧ PX bf ln pp u.1))) (BW D 6 b (fun u => emC cI b (mdl s kp hf (pq sc u.1 u.2) ad bf))) (AX 6 b zz)) 0 0 (AX 6 b zz) := by
  refine mgo (by decide) (Nat.le_of_ble_eq_true rfl) ?_
  intro p e z m below meth c hx hb hr hml hown hts hlocks hB ls hl
  obtain ⟨hsz, hP, hK, hE⟩ := hB
  subst hsz
  have hS : va_S (AX 6 b z.heap.size) z.heap z.heap [] := va_S.rf
  have hl : lv_has ls 7 [(0, .ref (b 0)), (1, .int 0)] := hl
  refine lv_aload_n hx hb dX7_part_0 rfl (lv_at hl 0 rfl) ?_
  refine lv_bipush (v := 116) hx hb dX7_part_1 (by decide) ?_
  refine lv_bipush (v := 116) hx hb dX7_part_3 (by decide) ?_
  by_cases n5 : pp < ln ∧ witB (bf pp) 116 116
  · skip
    refine ro_i (va_runV (As := [.int 116, .int 116]) (rest := []) ⟨hx, hb, hml, hown, hts⟩ (m_X7_isNext_t l D cI cS b s kp hf sc ad bf ln (by omega) hl0 pp (by omega) 116 116 n5) (cwV 2 hts (gV tw918 tw915 tw917 ts38 tw8) rfl rfl rfl (by decide +kernel) ⟨Nat.le_of_ble_eq_true rfl, Nat.le_of_ble_eq_true rfl⟩) (pvR 0 hK hP (by decide) rfl rfl) rfl rfl hl.1 rfl (lv_room (Nat.le_of_ble_eq_true rfl)) dX7_part_5 ⟨Nat.le_of_ble_eq_true rfl, Nat.le_of_ble_eq_true rfl⟩) (fun r2 hr1 => ?_)
    subst hr1
    refine lv_if_eq (tgt := 88) hx hb dX7_part_8 (by decide) (fun h0 => absurd h0 (by decide)) (fun _ => ?_)
    refine lv_aload_n hx hb dX7_part_11 rfl (lv_at hl 0 rfl) ?_
    refine lv_dup hx hb dX7_part_12 rfl ?_
    refine g_get hx hb hts hown inA7 hK hP 0 (by decide) rfl rfl 9 (by decide) tw769 rfl (v := .int (nI pp)) rfl dX7_part_13 ?_
    refine lv_iconst (v := 1) hx hb dX7_part_16 (by decide) ?_
    refine lv_iadd hx hb dX7_part_17 ?_
    refine lv_as (y := nI (pp + 1)) (nI_add2 (p := pp) (q := 1) rfl rfl) ?_
    refine g_put hx hb hts hown inA7 tyX7 tyX7_ok nmX7 hK hP hE hS 0 (by decide) rfl rfl 9 (by decide) tw769 rfl rfl (ty := .int) (by decide +kernel) rfl rfl (Nat.le_of_ble_eq_true rfl) dX7_part_18 (ex' := emC cI b (mdl s kp hf (pq sc (pp + 1) 0) ad bf)) rfl mm_sc (fun H locs hP hS => ?_)
    refine lv_aload_n hx hb dX7_part_21 rfl (lv_at hl 0 rfl) ?_
    refine lv_bipush (v := 49) hx hb dX7_part_22 (by decide) ?_
    refine lv_bipush (v := 57) hx hb dX7_part_24 (by decide) ?_
    by_cases g26 : pp + 1 < ln ∧ witB (bf (pp + 1)) 49 57
    · skip
      refine rw_i hS (va_runV (As := [.int 49, .int 57]) (rest := []) ⟨hx, hb, hml, hown, hts⟩ (m_X7_sign_ok l D cI cS b s kp hf sc ad bf ln (by omega) hl0 (pp + 1) (by omega) 49 57 g26 _) (cwV 2 hts (gV tw922 tw919 tw921 ts39 tw8) rfl rfl rfl (by decide +kernel) ⟨Nat.le_of_ble_eq_true rfl, Nat.le_of_ble_eq_true rfl⟩) (pvW 0 hK hP hE (by decide) rfl rfl) rfl rfl hl.1 rfl (lv_room (Nat.le_of_ble_eq_true rfl)) dX7_part_26 ⟨Nat.le_of_ble_eq_true rfl, Nat.le_of_ble_eq_true rfl⟩) (fun r5 u6 H locs hr4 hP hS => ?_)
      subst hr4
      refine lv_bipush (v := 48) hx hb dX7_part_29 (by decide) ?_
      refine lv_isub hx hb dX7_part_31 ?_
      refine lv_istore_n (lv' := [(2, .int ((bf (pp + 1)) - 48)), (0, .ref (b 0)), (1, .int 0)]) hx hb dX7_part_32 rfl hl (by decide) rfl (fun ls hl => ?_)
      refine lv_aload_n hx hb dX7_part_33 rfl (lv_at hl 1 rfl) ?_
      refine lv_bipush (v := 48) hx hb dX7_part_34 (by decide) ?_
      refine lv_bipush (v := 57) hx hb dX7_part_36 (by decide) ?_
      by_cases n38 : pp + 2 < ln ∧ witB (bf (pp + 2)) 48 57
      · skip
        refine ro_i (va_runV (As := [.int 48, .int 57]) (rest := []) ⟨hx, hb, hml, hown, hts⟩ (m_X7_isNext_t l D cI cS b s kp hf sc ad bf ln (by omega) hl0 (pp + 2) (by omega) 48 57 n38) (cwV 2 hts (gV tw918 tw915 tw917 ts38 tw8) rfl rfl rfl (by decide +kernel) ⟨Nat.le_of_ble_eq_true rfl, Nat.le_of_ble_eq_true rfl⟩) (pvR 0 hK hP (by decide) rfl rfl) rfl rfl hl.1 rfl (lv_room (Nat.le_of_ble_eq_true rfl)) dX7_part_38 ⟨Nat.le_of_ble_eq_true rfl, Nat.le_of_ble_eq_true rfl⟩) (fun r8 hr7 => ?_)
        subst hr7
        refine lv_if_eq (tgt := 72) hx hb dX7_part_41 (by decide) (fun h0 => absurd h0 (by decide)) (fun _ => ?_)
        refine lv_bipush (v := 10) hx hb dX7_part_44 (by decide) ?_
        refine lv_iload_n hx hb dX7_part_46 rfl (lv_at hl 0 rfl) ?_
        refine lv_imul hx hb dX7_part_47 ?_
        refine lv_aload_n hx hb dX7_part_48 rfl (lv_at hl 1 rfl) ?_
        refine g_get hx hb hts hown inA7 hK hP 0 (by decide) rfl rfl 6 (by decide) tw766 rfl (v := .ref (b 5)) rfl dX7_part_49 ?_
        refine lv_aload_n hx hb dX7_part_52 rfl (lv_at hl 1 rfl) ?_
        refine g_get hx hb hts hown inA7 hK hP 0 (by decide) rfl rfl 9 (by decide) tw769 rfl (v := .int (nI (pp + 2))) rfl dX7_part_53 ?_
        refine g_iald hx hb hK hP 5 (by decide) rfl (pp + 2) rfl (by omega) (by decide) dX7_part_56 (v := bf (pp + 2)) rfl ?_
        refine lv_iadd hx hb dX7_part_57 ?_
        refine lv_bipush (v := 48) hx hb dX7_part_58 (by decide) ?_
        refine lv_isub hx hb dX7_part_60 ?_
        refine lv_istore_n (lv' := [(2, .int (((10 * ((bf (pp + 1)) - 48)) + (bf (pp + 2))) - 48)), (0, .ref (b 0)), (1, .int 0)]) hx hb dX7_part_61 rfl hl (by decide) rfl (fun ls hl => ?_)
        refine lv_aload_n hx hb dX7_part_62 rfl (lv_at hl 1 rfl) ?_
        refine lv_dup hx hb dX7_part_63 rfl ?_
        refine g_get hx hb hts hown inA7 hK hP 0 (by decide) rfl rfl 9 (by decide) tw769 rfl (v := .int (nI (pp + 2))) rfl dX7_part_64 ?_
        refine lv_iconst (v := 1) hx hb dX7_part_67 (by decide) ?_
        refine lv_iadd hx hb dX7_part_68 ?_
        refine lv_as (y := nI (pp + 2 + 1)) (nI_add2 (p := pp + 2) (q := 1) rfl rfl) ?_
        refine g_put hx hb hts hown inA7 tyX7 tyX7_ok nmX7 hK hP hE hS 0 (by decide) rfl rfl 9 (by decide) tw769 rfl rfl (ty := .int) (by decide +kernel) rfl rfl (Nat.le_of_ble_eq_true rfl) dX7_part_69 (ex' := emC cI b (mdl s kp hf (pq sc (pp + 3) 0) ad bf)) rfl mm_sc (fun H locs hP hS => ?_)
        refine lv_iload_n hx hb dX7_part_72 rfl (lv_at hl 2 rfl) ?_
        refine lv_if_eq (tgt := 84) hx hb dX7_part_73 (by decide) (fun _ => ?_) (fun h0 => absurd (by decide) h0)
        refine lv_iconst (v := 0) hx hb dX7_part_84 (by decide) ?_
        refine lv_istore_n (lv' := [(3, .int 0), (2, .int (((10 * ((bf (pp + 1)) - 48)) + (bf (pp + 2))) - 48)), (0, .ref (b 0)), (1, .int 0)]) hx hb dX7_part_85 rfl hl (by decide) rfl (fun ls hl => ?_)
        refine lv_iconst (v := 1) hx hb dX7_part_86 (by decide) ?_
        exact rw_ir hx hb hr rfl hlocks hS (pp + 3, 0) hP ⟨rfl, Or.inl ⟨rfl, pk_t2 n5 g26 n38⟩⟩ dX7_part_87
      · skip
        refine ro_i (va_runV (As := [.int 48, .int 57]) (rest := []) ⟨hx, hb, hml, hown, hts⟩ (m_X7_isNext_f l D cI cS b s kp hf sc ad bf ln (by omega) hl0 (pp + 2) (by omega) 48 57 n38) (cwV 2 hts (gV tw918 tw915 tw917 ts38 tw8) rfl rfl rfl (by decide +kernel) ⟨Nat.le_of_ble_eq_true rfl, Nat.le_of_ble_eq_true rfl⟩) (pvR 0 hK hP (by decide) rfl rfl) rfl rfl hl.1 rfl (lv_room (Nat.le_of_ble_eq_true rfl)) dX7_part_38 ⟨Nat.le_of_ble_eq_true rfl, Nat.le_of_ble_eq_true rfl⟩) (fun r11 hr10 => ?_)
        subst hr10
        refine lv_if_eq (tgt := 72) hx hb dX7_part_41 (by decide) (fun _ => ?_) (fun h0 => absurd (by decide) h0)
        refine lv_iload_n hx hb dX7_part_72 rfl (lv_at hl 2 rfl) ?_
        refine lv_if_eq (tgt := 84) hx hb dX7_part_73 (by decide) (fun _ => ?_) (fun h0 => absurd (by decide) h0)
        refine lv_iconst (v := 0) hx hb dX7_part_84 (by decide) ?_
        refine lv_istore_n (lv' := [(3, .int 0), (2, .int ((bf (pp + 1)) - 48)), (0, .ref (b 0)), (1, .int 0)]) hx hb dX7_part_85 rfl hl (by decide) rfl (fun ls hl => ?_)
        refine lv_iconst (v := 1) hx hb dX7_part_86 (by decide) ?_
        exact rw_ir hx hb hr rfl hlocks hS (pp + 2, 0) hP ⟨rfl, Or.inl ⟨rfl, pk_t1 n5 g26 n38⟩⟩ dX7_part_87
    · skip
      refine rw_i hS (va_runV (As := [.int 49, .int 57]) (rest := []) ⟨hx, hb, hml, hown, hts⟩ (m_X7_sign_no l D cI cS b s kp hf sc ad bf ln (by omega) hl0 (pp + 1) (by omega) 49 57 g26 _) (cwV 2 hts (gV tw922 tw919 tw921 ts39 tw8) rfl rfl rfl (by decide +kernel) ⟨Nat.le_of_ble_eq_true rfl, Nat.le_of_ble_eq_true rfl⟩) (pvW 0 hK hP hE (by decide) rfl rfl) rfl rfl hl.1 rfl (lv_room (Nat.le_of_ble_eq_true rfl)) dX7_part_26 ⟨Nat.le_of_ble_eq_true rfl, Nat.le_of_ble_eq_true rfl⟩) (fun r14 u15 H locs hr13 hP hS => ?_)
      subst hr13
      refine lv_bipush (v := 48) hx hb dX7_part_29 (by decide) ?_
      refine lv_isub hx hb dX7_part_31 ?_
      refine lv_istore_n (lv' := [(2, .int ((cdA bf ln (pp + 1)) - 48)), (0, .ref (b 0)), (1, .int 0)]) hx hb dX7_part_32 rfl hl (by decide) rfl (fun ls hl => ?_)
      refine lv_aload_n hx hb dX7_part_33 rfl (lv_at hl 1 rfl) ?_
      refine lv_bipush (v := 48) hx hb dX7_part_34 (by decide) ?_
      refine lv_bipush (v := 57) hx hb dX7_part_36 (by decide) ?_
      refine ro_i (va_runV (As := [.int 48, .int 57]) (rest := []) ⟨hx, hb, hml, hown, hts⟩ (m_X7_isNext_w l D cI cS b s kp hf sc ad bf ln (by omega) hl0 (pp + 1) (by omega) 48 57) (cwV 2 hts (gV tw918 tw915 tw917 ts38 tw8) rfl rfl rfl (by decide +kernel) ⟨Nat.le_of_ble_eq_true rfl, Nat.le_of_ble_eq_true rfl⟩) (pvR 0 hK hP (by decide) rfl rfl) rfl rfl hl.1 rfl (lv_room (Nat.le_of_ble_eq_true rfl)) dX7_part_38 ⟨Nat.le_of_ble_eq_true rfl, Nat.le_of_ble_eq_true rfl⟩) (fun r17 hr16 => ?_)
      subst hr16
      refine lv_if_eq (tgt := 72) hx hb dX7_part_41 (by decide) (fun _ => ?_) (fun h0 => absurd (by decide) h0)
      refine lv_iload_n hx hb dX7_part_72 rfl (lv_at hl 2 rfl) ?_
      refine lv_if_eq (tgt := 84) hx hb dX7_part_73 (by decide) (fun _ => ?_) (fun h0 => absurd (by decide) h0)
      refine lv_iconst (v := 0) hx hb dX7_part_84 (by decide) ?_
      refine lv_istore_n (lv' := [(3, .int 0), (2, .int ((cdA bf ln (pp + 1)) - 48)), (0, .ref (b 0)), (1, .int 0)]) hx hb dX7_part_85 rfl hl (by decide) rfl (fun ls hl => ?_)
      refine lv_iconst (v := 1) hx hb dX7_part_86 (by decide) ?_
      exact rw_ir hx hb hr rfl hlocks hS (pp + 1, 1) hP ⟨rfl, Or.inr ⟨rfl, px_t n5 g26⟩⟩ dX7_part_87
  · skip
    refine ro_i (va_runV (As := [.int 116, .int 116]) (rest := []) ⟨hx, hb, hml, hown, hts⟩ (m_X7_isNext_f l D cI cS b s kp hf sc ad bf ln (by omega) hl0 pp (by omega) 116 116 n5) (cwV 2 hts (gV tw918 tw915 tw917 ts38 tw8) rfl rfl rfl (by decide +kernel) ⟨Nat.le_of_ble_eq_true rfl, Nat.le_of_ble_eq_true rfl⟩) (pvR 0 hK hP (by decide) rfl rfl) rfl rfl hl.1 rfl (lv_room (Nat.le_of_ble_eq_true rfl)) dX7_part_5 ⟨Nat.le_of_ble_eq_true rfl, Nat.le_of_ble_eq_true rfl⟩) (fun r20 hr19 => ?_)
    subst hr19
    refine lv_if_eq (tgt := 88) hx hb dX7_part_8 (by decide) (fun _ => ?_) (fun h0 => absurd (by decide) h0)
    refine lv_aload_n hx hb dX7_part_88 rfl (lv_at hl 0 rfl) ?_
    refine lv_bipush (v := 118) hx hb dX7_part_89 (by decide) ?_
    refine lv_bipush (v := 118) hx hb dX7_part_91 (by decide) ?_
    by_cases n93 : pp < ln ∧ witB (bf pp) 118 118
    · skip
      refine ro_i (va_runV (As := [.int 118, .int 118]) (rest := []) ⟨hx, hb, hml, hown, hts⟩ (m_X7_isNext_t l D cI cS b s kp hf sc ad bf ln (by omega) hl0 pp (by omega) 118 118 n93) (cwV 2 hts (gV tw918 tw915 tw917 ts38 tw8) rfl rfl rfl (by decide +kernel) ⟨Nat.le_of_ble_eq_true rfl, Nat.le_of_ble_eq_true rfl⟩) (pvR 0 hK hP (by decide) rfl rfl) rfl rfl hl.1 rfl (lv_room (Nat.le_of_ble_eq_true rfl)) dX7_part_93 ⟨Nat.le_of_ble_eq_true rfl, Nat.le_of_ble_eq_true rfl⟩) (fun r23 hr22 => ?_)
      subst hr22
      refine lv_if_eq (tgt := 153) hx hb dX7_part_96 (by decide) (fun h0 => absurd h0 (by decide)) (fun _ => ?_)
      refine lv_aload_n hx hb dX7_part_99 rfl (lv_at hl 0 rfl) ?_
      refine lv_dup hx hb dX7_part_100 rfl ?_
      refine g_get hx hb hts hown inA7 hK hP 0 (by decide) rfl rfl 9 (by decide) tw769 rfl (v := .int (nI pp)) rfl dX7_part_101 ?_
      refine lv_iconst (v := 1) hx hb dX7_part_104 (by decide) ?_
      refine lv_iadd hx hb dX7_part_105 ?_
      refine lv_as (y := nI (pp + 1)) (nI_add2 (p := pp) (q := 1) rfl rfl) ?_
      refine g_put hx hb hts hown inA7 tyX7 tyX7_ok nmX7 hK hP hE hS 0 (by decide) rfl rfl 9 (by decide) tw769 rfl rfl (ty := .int) (by decide +kernel) rfl rfl (Nat.le_of_ble_eq_true rfl) dX7_part_106 (ex' := emC cI b (mdl s kp hf (pq sc (pp + 1) 0) ad bf)) rfl mm_sc (fun H locs hP hS => ?_)
      refine lv_aload_n hx hb dX7_part_109 rfl (lv_at hl 0 rfl) ?_
      refine ro_i (va_runV (As := []) (rest := []) ⟨hx, hb, hml, hown, hts⟩ (m_X7_weights l D cI cS b s kp hf (pq sc (pp + 1) 0) ad bf) (cwV 0 hts (gV tw833 tw830 tw832 ts27 tw8) rfl rfl rfl (by decide +kernel) ⟨Nat.le_of_ble_eq_true rfl, Nat.le_of_ble_eq_true rfl⟩) (pvR 0 hK hP (by decide) rfl rfl) rfl rfl hl.1 rfl (lv_room (Nat.le_of_ble_eq_true rfl)) dX7_part_110 ⟨Nat.le_of_ble_eq_true rfl, Nat.le_of_ble_eq_true rfl⟩) (fun r26 hr25 => ?_)
      subst hr25
      refine lv_if_le (tgt := 120) hx hb dX7_part_113 (by decide) (fun c28 => ?_) (fun c28 => ?_)
      · skip
        have c28x := Int32.not_lt.mpr c28
        refine lv_iconst (v := 0) hx hb dX7_part_120 (by decide) ?_
        refine lv_istore_n (lv' := [(2, .int 0), (0, .ref (b 0)), (1, .int 0)]) hx hb dX7_part_121 rfl hl (by decide) rfl (fun ls hl => ?_)
        refine lv_iload_n hx hb dX7_part_122 rfl (lv_at hl 2 rfl) ?_
        refine lv_if_eq (tgt := 137) hx hb dX7_part_123 (by decide) (fun _ => ?_) (fun h0 => absurd (by decide) h0)
        refine lv_iconst (v := 0) hx hb dX7_part_137 (by decide) ?_
        refine lv_istore_n (lv' := [(3, .int 0), (2, .int 0), (0, .ref (b 0)), (1, .int 0)]) hx hb dX7_part_138 rfl hl (by decide) rfl (fun ls hl => ?_)
        refine lv_iload_n hx hb dX7_part_139 rfl (lv_at hl 3 rfl) ?_
        refine lv_if_eq (tgt := 147) hx hb dX7_part_140 (by decide) (fun _ => ?_) (fun h0 => absurd (by decide) h0)
        refine lv_iconst (v := 1) hx hb dX7_part_147 (by decide) ?_
        refine lv_goto (tgt := 152) hx hb dX7_part_148 (by decide) ?_
        exact rw_ir hx hb hr rfl hlocks hS (pp + 1, 0) hP ⟨rfl, Or.inl ⟨rfl, pk_v n93⟩⟩ dX7_part_152
      · skip
        have c28x := Int32.not_le.mp c28
        refine lv_iconst (v := 1) hx hb dX7_part_116 (by decide) ?_
        refine lv_goto (tgt := 121) hx hb dX7_part_117 (by decide) ?_
        refine lv_istore_n (lv' := [(2, .int 1), (0, .ref (b 0)), (1, .int 0)]) hx hb dX7_part_121 rfl hl (by decide) rfl (fun ls hl => ?_)
        refine lv_iload_n hx hb dX7_part_122 rfl (lv_at hl 2 rfl) ?_
        refine lv_if_eq (tgt := 137) hx hb dX7_part_123 (by decide) (fun _ => ?_) (fun h0 => absurd (by decide) h0)
        refine lv_iconst (v := 0) hx hb dX7_part_137 (by decide) ?_
        refine lv_istore_n (lv' := [(3, .int 0), (2, .int 1), (0, .ref (b 0)), (1, .int 0)]) hx hb dX7_part_138 rfl hl (by decide) rfl (fun ls hl => ?_)
        refine lv_iload_n hx hb dX7_part_139 rfl (lv_at hl 3 rfl) ?_
        refine lv_if_eq (tgt := 147) hx hb dX7_part_140 (by decide) (fun _ => ?_) (fun h0 => absurd (by decide) h0)
        refine lv_iconst (v := 1) hx hb dX7_part_147 (by decide) ?_
        refine lv_goto (tgt := 152) hx hb dX7_part_148 (by decide) ?_
        exact rw_ir hx hb hr rfl hlocks hS (pp + 1, 0) hP ⟨rfl, Or.inl ⟨rfl, pk_v n93⟩⟩ dX7_part_152
    · skip
      refine ro_i (va_runV (As := [.int 118, .int 118]) (rest := []) ⟨hx, hb, hml, hown, hts⟩ (m_X7_isNext_f l D cI cS b s kp hf sc ad bf ln (by omega) hl0 pp (by omega) 118 118 n93) (cwV 2 hts (gV tw918 tw915 tw917 ts38 tw8) rfl rfl rfl (by decide +kernel) ⟨Nat.le_of_ble_eq_true rfl, Nat.le_of_ble_eq_true rfl⟩) (pvR 0 hK hP (by decide) rfl rfl) rfl rfl hl.1 rfl (lv_room (Nat.le_of_ble_eq_true rfl)) dX7_part_93 ⟨Nat.le_of_ble_eq_true rfl, Nat.le_of_ble_eq_true rfl⟩) (fun r30 hr29 => ?_)
      subst hr29
      refine lv_if_eq (tgt := 153) hx hb dX7_part_96 (by decide) (fun _ => ?_) (fun h0 => absurd (by decide) h0)
      refine lv_aload_n hx hb dX7_part_153 rfl (lv_at hl 0 rfl) ?_
      refine lv_bipush (v := 99) hx hb dX7_part_154 (by decide) ?_
      refine lv_bipush (v := 99) hx hb dX7_part_156 (by decide) ?_
      by_cases n158 : pp < ln ∧ witB (bf pp) 99 99
      · skip
        refine ro_i (va_runV (As := [.int 99, .int 99]) (rest := []) ⟨hx, hb, hml, hown, hts⟩ (m_X7_isNext_t l D cI cS b s kp hf sc ad bf ln (by omega) hl0 pp (by omega) 99 99 n158) (cwV 2 hts (gV tw918 tw915 tw917 ts38 tw8) rfl rfl rfl (by decide +kernel) ⟨Nat.le_of_ble_eq_true rfl, Nat.le_of_ble_eq_true rfl⟩) (pvR 0 hK hP (by decide) rfl rfl) rfl rfl hl.1 rfl (lv_room (Nat.le_of_ble_eq_true rfl)) dX7_part_158 ⟨Nat.le_of_ble_eq_true rfl, Nat.le_of_ble_eq_true rfl⟩) (fun r33 hr32 => ?_)
        subst hr32
        refine lv_if_eq (tgt := 189) hx hb dX7_part_161 (by decide) (fun h0 => absurd h0 (by decide)) (fun _ => ?_)
        refine lv_aload_n hx hb dX7_part_164 rfl (lv_at hl 0 rfl) ?_
        refine lv_dup hx hb dX7_part_165 rfl ?_
        refine g_get hx hb hts hown inA7 hK hP 0 (by decide) rfl rfl 9 (by decide) tw769 rfl (v := .int (nI pp)) rfl dX7_part_166 ?_
        refine lv_iconst (v := 1) hx hb dX7_part_169 (by decide) ?_
        refine lv_iadd hx hb dX7_part_170 ?_
        refine lv_as (y := nI (pp + 1)) (nI_add2 (p := pp) (q := 1) rfl rfl) ?_
        refine g_put hx hb hts hown inA7 tyX7 tyX7_ok nmX7 hK hP hE hS 0 (by decide) rfl rfl 9 (by decide) tw769 rfl rfl (ty := .int) (by decide +kernel) rfl rfl (Nat.le_of_ble_eq_true rfl) dX7_part_171 (ex' := emC cI b (mdl s kp hf (pq sc (pp + 1) 0) ad bf)) rfl mm_sc (fun H locs hP hS => ?_)
        refine lv_iload_n hx hb dX7_part_174 rfl (lv_at hl 1 rfl) ?_
        refine lv_if_eq (tgt := 185) hx hb dX7_part_175 (by decide) (fun _ => ?_) (fun h0 => absurd (by decide) h0)
        refine lv_iconst (v := 0) hx hb dX7_part_185 (by decide) ?_
        refine lv_istore_n (lv' := [(2, .int 0), (0, .ref (b 0)), (1, .int 0)]) hx hb dX7_part_186 rfl hl (by decide) rfl (fun ls hl => ?_)
        refine lv_iconst (v := 1) hx hb dX7_part_187 (by decide) ?_
        exact rw_ir hx hb hr rfl hlocks hS (pp + 1, 0) hP ⟨rfl, Or.inl ⟨rfl, pk_c n158⟩⟩ dX7_part_188
      · skip
        refine ro_i (va_runV (As := [.int 99, .int 99]) (rest := []) ⟨hx, hb, hml, hown, hts⟩ (m_X7_isNext_f l D cI cS b s kp hf sc ad bf ln (by omega) hl0 pp (by omega) 99 99 n158) (cwV 2 hts (gV tw918 tw915 tw917 ts38 tw8) rfl rfl rfl (by decide +kernel) ⟨Nat.le_of_ble_eq_true rfl, Nat.le_of_ble_eq_true rfl⟩) (pvR 0 hK hP (by decide) rfl rfl) rfl rfl hl.1 rfl (lv_room (Nat.le_of_ble_eq_true rfl)) dX7_part_158 ⟨Nat.le_of_ble_eq_true rfl, Nat.le_of_ble_eq_true rfl⟩) (fun r36 hr35 => ?_)
        subst hr35
        refine lv_if_eq (tgt := 189) hx hb dX7_part_161 (by decide) (fun _ => ?_) (fun h0 => absurd (by decide) h0)
        refine lv_aload_n hx hb dX7_part_189 rfl (lv_at hl 0 rfl) ?_
        refine lv_bipush (v := 100) hx hb dX7_part_190 (by decide) ?_
        refine lv_bipush (v := 100) hx hb dX7_part_192 (by decide) ?_
        by_cases g194 : pp < ln ∧ witB (bf pp) 100 100
        · skip
          refine rw_i hS (va_runV (As := [.int 100, .int 100]) (rest := []) ⟨hx, hb, hml, hown, hts⟩ (m_X7_sign_ok l D cI cS b s kp hf sc ad bf ln (by omega) hl0 pp (by omega) 100 100 g194 _) (cwV 2 hts (gV tw922 tw919 tw921 ts39 tw8) rfl rfl rfl (by decide +kernel) ⟨Nat.le_of_ble_eq_true rfl, Nat.le_of_ble_eq_true rfl⟩) (pvW 0 hK hP hE (by decide) rfl rfl) rfl rfl hl.1 rfl (lv_room (Nat.le_of_ble_eq_true rfl)) dX7_part_194 ⟨Nat.le_of_ble_eq_true rfl, Nat.le_of_ble_eq_true rfl⟩) (fun r39 u40 H locs hr38 hP hS => ?_)
          subst hr38
          refine lv_istore_n (lv' := [(2, .int (bf pp)), (0, .ref (b 0)), (1, .int 0)]) hx hb dX7_part_197 rfl hl (by decide) rfl (fun ls hl => ?_)
          refine lv_aload_n hx hb dX7_part_198 rfl (lv_at hl 1 rfl) ?_
          refine lv_bipush (v := 48) hx hb dX7_part_199 (by decide) ?_
          refine lv_bipush (v := 54) hx hb dX7_part_201 (by decide) ?_
          by_cases g203 : pp + 1 < ln ∧ witB (bf (pp + 1)) 48 54
          · skip
            refine rw_i hS (va_runV (As := [.int 48, .int 54]) (rest := []) ⟨hx, hb, hml, hown, hts⟩ (m_X7_sign_ok l D cI cS b s kp hf sc ad bf ln (by omega) hl0 (pp + 1) (by omega) 48 54 g203 _) (cwV 2 hts (gV tw922 tw919 tw921 ts39 tw8) rfl rfl rfl (by decide +kernel) ⟨Nat.le_of_ble_eq_true rfl, Nat.le_of_ble_eq_true rfl⟩) (pvW 0 hK hP hE (by decide) rfl rfl) rfl rfl hl.1 rfl (lv_room (Nat.le_of_ble_eq_true rfl)) dX7_part_203 ⟨Nat.le_of_ble_eq_true rfl, Nat.le_of_ble_eq_true rfl⟩) (fun r42 u43 H locs hr41 hP hS => ?_)
            subst hr41
            refine lv_bipush (v := 48) hx hb dX7_part_206 (by decide) ?_
            refine lv_isub hx hb dX7_part_208 ?_
            refine lv_istore_n (lv' := [(3, .int ((bf (pp + 1)) - 48)), (2, .int (bf pp)), (0, .ref (b 0)), (1, .int 0)]) hx hb dX7_part_209 rfl hl (by decide) rfl (fun ls hl => ?_)
            refine lv_aload_n hx hb dX7_part_210 rfl (lv_at hl 2 rfl) ?_
            refine lv_bipush (v := 45) hx hb dX7_part_211 (by decide) ?_
            refine lv_bipush (v := 45) hx hb dX7_part_213 (by decide) ?_
            by_cases n215 : pp + 2 < ln ∧ witB (bf (pp + 2)) 45 45
            · skip
              refine ro_i (va_runV (As := [.int 45, .int 45]) (rest := []) ⟨hx, hb, hml, hown, hts⟩ (m_X7_isNext_t l D cI cS b s kp hf sc ad bf ln (by omega) hl0 (pp + 2) (by omega) 45 45 n215) (cwV 2 hts (gV tw918 tw915 tw917 ts38 tw8) rfl rfl rfl (by decide +kernel) ⟨Nat.le_of_ble_eq_true rfl, Nat.le_of_ble_eq_true rfl⟩) (pvR 0 hK hP (by decide) rfl rfl) rfl rfl hl.1 rfl (lv_room (Nat.le_of_ble_eq_true rfl)) dX7_part_215 ⟨Nat.le_of_ble_eq_true rfl, Nat.le_of_ble_eq_true rfl⟩) (fun r45 hr44 => ?_)
              subst hr44
              refine lv_istore (lv' := [(4, .int 1), (3, .int ((bf (pp + 1)) - 48)), (2, .int (bf pp)), (0, .ref (b 0)), (1, .int 0)]) hx hb dX7_part_218 hl (by decide) rfl (fun ls hl => ?_)
              refine lv_iload hx hb dX7_part_220 (lv_at hl 0 rfl) ?_
              refine lv_if_eq (tgt := 236) hx hb dX7_part_222 (by decide) (fun h0 => absurd h0 (by decide)) (fun _ => ?_)
              refine lv_aload_n hx hb dX7_part_225 rfl (lv_at hl 3 rfl) ?_
              refine lv_bipush (v := 45) hx hb dX7_part_226 (by decide) ?_
              refine lv_bipush (v := 45) hx hb dX7_part_228 (by decide) ?_
              refine rw_i hS (va_runV (As := [.int 45, .int 45]) (rest := []) ⟨hx, hb, hml, hown, hts⟩ (m_X7_sign_ok l D cI cS b s kp hf sc ad bf ln (by omega) hl0 (pp + 2) (by omega) 45 45 n215 _) (cwV 2 hts (gV tw922 tw919 tw921 ts39 tw8) rfl rfl rfl (by decide +kernel) ⟨Nat.le_of_ble_eq_true rfl, Nat.le_of_ble_eq_true rfl⟩) (pvW 0 hK hP hE (by decide) rfl rfl) rfl rfl hl.1 rfl (lv_room (Nat.le_of_ble_eq_true rfl)) dX7_part_230 ⟨Nat.le_of_ble_eq_true rfl, Nat.le_of_ble_eq_true rfl⟩) (fun r48 u49 H locs hr47 hP hS => ?_)
              subst hr47
              refine lv_goto (tgt := 244) hx hb dX7_part_233 (by decide) ?_
              refine lv_istore (lv' := [(5, .int (bf (pp + 2))), (4, .int 1), (3, .int ((bf (pp + 1)) - 48)), (2, .int (bf pp)), (0, .ref (b 0)), (1, .int 0)]) hx hb dX7_part_244 hl (by decide) rfl (fun ls hl => ?_)
              refine lv_aload_n hx hb dX7_part_246 rfl (lv_at hl 4 rfl) ?_
              refine lv_bipush (v := 48) hx hb dX7_part_247 (by decide) ?_
              refine lv_bipush (v := 53) hx hb dX7_part_249 (by decide) ?_
              by_cases g251 : pp + 3 < ln ∧ witB (bf (pp + 3)) 48 53
              · skip
                refine rw_i hS (va_runV (As := [.int 48, .int 53]) (rest := []) ⟨hx, hb, hml, hown, hts⟩ (m_X7_sign_ok l D cI cS b s kp hf sc ad bf ln (by omega) hl0 (pp + 3) (by omega) 48 53 g251 _) (cwV 2 hts (gV tw922 tw919 tw921 ts39 tw8) rfl rfl rfl (by decide +kernel) ⟨Nat.le_of_ble_eq_true rfl, Nat.le_of_ble_eq_true rfl⟩) (pvW 0 hK hP hE (by decide) rfl rfl) rfl rfl hl.1 rfl (lv_room (Nat.le_of_ble_eq_true rfl)) dX7_part_251 ⟨Nat.le_of_ble_eq_true rfl, Nat.le_of_ble_eq_true rfl⟩) (fun r51 u52 H locs hr50 hP hS => ?_)
                subst hr50
                refine lv_bipush (v := 48) hx hb dX7_part_254 (by decide) ?_
                refine lv_isub hx hb dX7_part_256 ?_
                refine lv_istore (lv' := [(6, .int ((bf (pp + 3)) - 48)), (5, .int (bf (pp + 2))), (4, .int 1), (3, .int ((bf (pp + 1)) - 48)), (2, .int (bf pp)), (0, .ref (b 0)), (1, .int 0)]) hx hb dX7_part_257 hl (by decide) rfl (fun ls hl => ?_)
                refine lv_iload_n hx hb dX7_part_259 rfl (lv_at hl 6 rfl) ?_
                refine lv_if_eq (tgt := 285) hx hb dX7_part_260 (by decide) (fun _ => ?_) (fun h0 => absurd (by decide) h0)
                refine lv_iconst (v := 1) hx hb dX7_part_285 (by decide) ?_
                exact rw_ir hx hb hr rfl hlocks hS (pp + 4, 0) hP ⟨rfl, Or.inl ⟨rfl, pk_d g194 g203 (sg_m n215) g251⟩⟩ dX7_part_286
              · skip
                refine rw_i hS (va_runV (As := [.int 48, .int 53]) (rest := []) ⟨hx, hb, hml, hown, hts⟩ (m_X7_sign_no l D cI cS b s kp hf sc ad bf ln (by omega) hl0 (pp + 3) (by omega) 48 53 g251 _) (cwV 2 hts (gV tw922 tw919 tw921 ts39 tw8) rfl rfl rfl (by decide +kernel) ⟨Nat.le_of_ble_eq_true rfl, Nat.le_of_ble_eq_true rfl⟩) (pvW 0 hK hP hE (by decide) rfl rfl) rfl rfl hl.1 rfl (lv_room (Nat.le_of_ble_eq_true rfl)) dX7_part_251 ⟨Nat.le_of_ble_eq_true rfl, Nat.le_of_ble_eq_true rfl⟩) (fun r54 u55 H locs hr53 hP hS => ?_)
                subst hr53
                refine lv_bipush (v := 48) hx hb dX7_part_254 (by decide) ?_
                refine lv_isub hx hb dX7_part_256 ?_
                refine lv_istore (lv' := [(6, .int ((cdA bf ln (pp + 3)) - 48)), (5, .int (bf (pp + 2))), (4, .int 1), (3, .int ((bf (pp + 1)) - 48)), (2, .int (bf pp)), (0, .ref (b 0)), (1, .int 0)]) hx hb dX7_part_257 hl (by decide) rfl (fun ls hl => ?_)
                refine lv_iload_n hx hb dX7_part_259 rfl (lv_at hl 6 rfl) ?_
                refine lv_if_eq (tgt := 285) hx hb dX7_part_260 (by decide) (fun _ => ?_) (fun h0 => absurd (by decide) h0)
                refine lv_iconst (v := 1) hx hb dX7_part_285 (by decide) ?_
                exact rw_ir hx hb hr rfl hlocks hS (pp + 3, 1) hP ⟨rfl, Or.inr ⟨rfl, px_d3 g194 g203 (sg_m n215) g251⟩⟩ dX7_part_286
            · skip
              refine ro_i (va_runV (As := [.int 45, .int 45]) (rest := []) ⟨hx, hb, hml, hown, hts⟩ (m_X7_isNext_f l D cI cS b s kp hf sc ad bf ln (by omega) hl0 (pp + 2) (by omega) 45 45 n215) (cwV 2 hts (gV tw918 tw915 tw917 ts38 tw8) rfl rfl rfl (by decide +kernel) ⟨Nat.le_of_ble_eq_true rfl, Nat.le_of_ble_eq_true rfl⟩) (pvR 0 hK hP (by decide) rfl rfl) rfl rfl hl.1 rfl (lv_room (Nat.le_of_ble_eq_true rfl)) dX7_part_215 ⟨Nat.le_of_ble_eq_true rfl, Nat.le_of_ble_eq_true rfl⟩) (fun r57 hr56 => ?_)
              subst hr56
              refine lv_istore (lv' := [(4, .int 0), (3, .int ((bf (pp + 1)) - 48)), (2, .int (bf pp)), (0, .ref (b 0)), (1, .int 0)]) hx hb dX7_part_218 hl (by decide) rfl (fun ls hl => ?_)
              refine lv_iload hx hb dX7_part_220 (lv_at hl 0 rfl) ?_
              refine lv_if_eq (tgt := 236) hx hb dX7_part_222 (by decide) (fun _ => ?_) (fun h0 => absurd (by decide) h0)
              refine lv_aload_n hx hb dX7_part_236 rfl (lv_at hl 3 rfl) ?_
              refine lv_bipush (v := 43) hx hb dX7_part_237 (by decide) ?_
              refine lv_bipush (v := 43) hx hb dX7_part_239 (by decide) ?_
              by_cases g241 : pp + 2 < ln ∧ witB (bf (pp + 2)) 43 43
              · skip
                refine rw_i hS (va_runV (As := [.int 43, .int 43]) (rest := []) ⟨hx, hb, hml, hown, hts⟩ (m_X7_sign_ok l D cI cS b s kp hf sc ad bf ln (by omega) hl0 (pp + 2) (by omega) 43 43 g241 _) (cwV 2 hts (gV tw922 tw919 tw921 ts39 tw8) rfl rfl rfl (by decide +kernel) ⟨Nat.le_of_ble_eq_true rfl, Nat.le_of_ble_eq_true rfl⟩) (pvW 0 hK hP hE (by decide) rfl rfl) rfl rfl hl.1 rfl (lv_room (Nat.le_of_ble_eq_true rfl)) dX7_part_241 ⟨Nat.le_of_ble_eq_true rfl, Nat.le_of_ble_eq_true rfl⟩) (fun r60 u61 H locs hr59 hP hS => ?_)
                subst hr59
                refine lv_istore (lv' := [(5, .int (bf (pp + 2))), (4, .int 0), (3, .int ((bf (pp + 1)) - 48)), (2, .int (bf pp)), (0, .ref (b 0)), (1, .int 0)]) hx hb dX7_part_244 hl (by decide) rfl (fun ls hl => ?_)
                refine lv_aload_n hx hb dX7_part_246 rfl (lv_at hl 4 rfl) ?_
                refine lv_bipush (v := 48) hx hb dX7_part_247 (by decide) ?_
                refine lv_bipush (v := 53) hx hb dX7_part_249 (by decide) ?_
                by_cases g251 : pp + 3 < ln ∧ witB (bf (pp + 3)) 48 53
                · skip
                  refine rw_i hS (va_runV (As := [.int 48, .int 53]) (rest := []) ⟨hx, hb, hml, hown, hts⟩ (m_X7_sign_ok l D cI cS b s kp hf sc ad bf ln (by omega) hl0 (pp + 3) (by omega) 48 53 g251 _) (cwV 2 hts (gV tw922 tw919 tw921 ts39 tw8) rfl rfl rfl (by decide +kernel) ⟨Nat.le_of_ble_eq_true rfl, Nat.le_of_ble_eq_true rfl⟩) (pvW 0 hK hP hE (by decide) rfl rfl) rfl rfl hl.1 rfl (lv_room (Nat.le_of_ble_eq_true rfl)) dX7_part_251 ⟨Nat.le_of_ble_eq_true rfl, Nat.le_of_ble_eq_true rfl⟩) (fun r63 u64 H locs hr62 hP hS => ?_)
                  subst hr62
                  refine lv_bipush (v := 48) hx hb dX7_part_254 (by decide) ?_
                  refine lv_isub hx hb dX7_part_256 ?_
                  refine lv_istore (lv' := [(6, .int ((bf (pp + 3)) - 48)), (5, .int (bf (pp + 2))), (4, .int 0), (3, .int ((bf (pp + 1)) - 48)), (2, .int (bf pp)), (0, .ref (b 0)), (1, .int 0)]) hx hb dX7_part_257 hl (by decide) rfl (fun ls hl => ?_)
                  refine lv_iload_n hx hb dX7_part_259 rfl (lv_at hl 6 rfl) ?_
                  refine lv_if_eq (tgt := 285) hx hb dX7_part_260 (by decide) (fun _ => ?_) (fun h0 => absurd (by decide) h0)
                  refine lv_iconst (v := 1) hx hb dX7_part_285 (by decide) ?_
                  exact rw_ir hx hb hr rfl hlocks hS (pp + 4, 0) hP ⟨rfl, Or.inl ⟨rfl, pk_d g194 g203 (sg_p g241) g251⟩⟩ dX7_part_286
                · skip
                  refine rw_i hS (va_runV (As := [.int 48, .int 53]) (rest := []) ⟨hx, hb, hml, hown, hts⟩ (m_X7_sign_no l D cI cS b s kp hf sc ad bf ln (by omega) hl0 (pp + 3) (by omega) 48 53 g251 _) (cwV 2 hts (gV tw922 tw919 tw921 ts39 tw8) rfl rfl rfl (by decide +kernel) ⟨Nat.le_of_ble_eq_true rfl, Nat.le_of_ble_eq_true rfl⟩) (pvW 0 hK hP hE (by decide) rfl rfl) rfl rfl hl.1 rfl (lv_room (Nat.le_of_ble_eq_true rfl)) dX7_part_251 ⟨Nat.le_of_ble_eq_true rfl, Nat.le_of_ble_eq_true rfl⟩) (fun r66 u67 H locs hr65 hP hS => ?_)
                  subst hr65
                  refine lv_bipush (v := 48) hx hb dX7_part_254 (by decide) ?_
                  refine lv_isub hx hb dX7_part_256 ?_
                  refine lv_istore (lv' := [(6, .int ((cdA bf ln (pp + 3)) - 48)), (5, .int (bf (pp + 2))), (4, .int 0), (3, .int ((bf (pp + 1)) - 48)), (2, .int (bf pp)), (0, .ref (b 0)), (1, .int 0)]) hx hb dX7_part_257 hl (by decide) rfl (fun ls hl => ?_)
                  refine lv_iload_n hx hb dX7_part_259 rfl (lv_at hl 6 rfl) ?_
                  refine lv_if_eq (tgt := 285) hx hb dX7_part_260 (by decide) (fun _ => ?_) (fun h0 => absurd (by decide) h0)
                  refine lv_iconst (v := 1) hx hb dX7_part_285 (by decide) ?_
                  exact rw_ir hx hb hr rfl hlocks hS (pp + 3, 1) hP ⟨rfl, Or.inr ⟨rfl, px_d3 g194 g203 (sg_p g241) g251⟩⟩ dX7_part_286
              · skip
                refine rw_i hS (va_runV (As := [.int 43, .int 43]) (rest := []) ⟨hx, hb, hml, hown, hts⟩ (m_X7_sign_no l D cI cS b s kp hf sc ad bf ln (by omega) hl0 (pp + 2) (by omega) 43 43 g241 _) (cwV 2 hts (gV tw922 tw919 tw921 ts39 tw8) rfl rfl rfl (by decide +kernel) ⟨Nat.le_of_ble_eq_true rfl, Nat.le_of_ble_eq_true rfl⟩) (pvW 0 hK hP hE (by decide) rfl rfl) rfl rfl hl.1 rfl (lv_room (Nat.le_of_ble_eq_true rfl)) dX7_part_241 ⟨Nat.le_of_ble_eq_true rfl, Nat.le_of_ble_eq_true rfl⟩) (fun r69 u70 H locs hr68 hP hS => ?_)
                subst hr68
                refine lv_istore (lv' := [(5, .int (cdA bf ln (pp + 2))), (4, .int 0), (3, .int ((bf (pp + 1)) - 48)), (2, .int (bf pp)), (0, .ref (b 0)), (1, .int 0)]) hx hb dX7_part_244 hl (by decide) rfl (fun ls hl => ?_)
                refine lv_aload_n hx hb dX7_part_246 rfl (lv_at hl 4 rfl) ?_
                refine lv_bipush (v := 48) hx hb dX7_part_247 (by decide) ?_
                refine lv_bipush (v := 53) hx hb dX7_part_249 (by decide) ?_
                refine rw_i hS (va_runV (As := [.int 48, .int 53]) (rest := []) ⟨hx, hb, hml, hown, hts⟩ (m_X7_sign_w l D cI cS b s kp hf sc ad bf ln (by omega) hl0 (pp + 2) (by omega) 48 53 _) (cwV 2 hts (gV tw922 tw919 tw921 ts39 tw8) rfl rfl rfl (by decide +kernel) ⟨Nat.le_of_ble_eq_true rfl, Nat.le_of_ble_eq_true rfl⟩) (pvW 0 hK hP hE (by decide) rfl rfl) rfl rfl hl.1 rfl (lv_room (Nat.le_of_ble_eq_true rfl)) dX7_part_251 ⟨Nat.le_of_ble_eq_true rfl, Nat.le_of_ble_eq_true rfl⟩) (fun r72 u73 H locs hr71 hP hS => ?_)
                subst hr71
                refine lv_bipush (v := 48) hx hb dX7_part_254 (by decide) ?_
                refine lv_isub hx hb dX7_part_256 ?_
                refine lv_istore (lv' := [(6, .int ((cdA bf ln (pp + 2)) - 48)), (5, .int (cdA bf ln (pp + 2))), (4, .int 0), (3, .int ((bf (pp + 1)) - 48)), (2, .int (bf pp)), (0, .ref (b 0)), (1, .int 0)]) hx hb dX7_part_257 hl (by decide) rfl (fun ls hl => ?_)
                refine lv_iload_n hx hb dX7_part_259 rfl (lv_at hl 6 rfl) ?_
                refine lv_if_eq (tgt := 285) hx hb dX7_part_260 (by decide) (fun _ => ?_) (fun h0 => absurd (by decide) h0)
                refine lv_iconst (v := 1) hx hb dX7_part_285 (by decide) ?_
                exact rw_ir hx hb hr rfl hlocks hS (pp + 2, 1) hP ⟨rfl, Or.inr ⟨rfl, px_d2 g194 g203 n215 g241⟩⟩ dX7_part_286
          · skip
            refine rw_i hS (va_runV (As := [.int 48, .int 54]) (rest := []) ⟨hx, hb, hml, hown, hts⟩ (m_X7_sign_no l D cI cS b s kp hf sc ad bf ln (by omega) hl0 (pp + 1) (by omega) 48 54 g203 _) (cwV 2 hts (gV tw922 tw919 tw921 ts39 tw8) rfl rfl rfl (by decide +kernel) ⟨Nat.le_of_ble_eq_true rfl, Nat.le_of_ble_eq_true rfl⟩) (pvW 0 hK hP hE (by decide) rfl rfl) rfl rfl hl.1 rfl (lv_room (Nat.le_of_ble_eq_true rfl)) dX7_part_203 ⟨Nat.le_of_ble_eq_true rfl, Nat.le_of_ble_eq_true rfl⟩) (fun r75 u76 H locs hr74 hP hS => ?_)
            subst hr74
            refine lv_bipush (v := 48) hx hb dX7_part_206 (by decide) ?_
            refine lv_isub hx hb dX7_part_208 ?_
            refine lv_istore_n (lv' := [(3, .int ((cdA bf ln (pp + 1)) - 48)), (2, .int (bf pp)), (0, .ref (b 0)), (1, .int 0)]) hx hb dX7_part_209 rfl hl (by decide) rfl (fun ls hl => ?_)
            refine lv_aload_n hx hb dX7_part_210 rfl (lv_at hl 2 rfl) ?_
            refine lv_bipush (v := 45) hx hb dX7_part_211 (by decide) ?_
            refine lv_bipush (v := 45) hx hb dX7_part_213 (by decide) ?_
            refine ro_i (va_runV (As := [.int 45, .int 45]) (rest := []) ⟨hx, hb, hml, hown, hts⟩ (m_X7_isNext_w l D cI cS b s kp hf sc ad bf ln (by omega) hl0 (pp + 1) (by omega) 45 45) (cwV 2 hts (gV tw918 tw915 tw917 ts38 tw8) rfl rfl rfl (by decide +kernel) ⟨Nat.le_of_ble_eq_true rfl, Nat.le_of_ble_eq_true rfl⟩) (pvR 0 hK hP (by decide) rfl rfl) rfl rfl hl.1 rfl (lv_room (Nat.le_of_ble_eq_true rfl)) dX7_part_215 ⟨Nat.le_of_ble_eq_true rfl, Nat.le_of_ble_eq_true rfl⟩) (fun r78 hr77 => ?_)
            subst hr77
            refine lv_istore (lv' := [(4, .int 0), (3, .int ((cdA bf ln (pp + 1)) - 48)), (2, .int (bf pp)), (0, .ref (b 0)), (1, .int 0)]) hx hb dX7_part_218 hl (by decide) rfl (fun ls hl => ?_)
            refine lv_iload hx hb dX7_part_220 (lv_at hl 0 rfl) ?_
            refine lv_if_eq (tgt := 236) hx hb dX7_part_222 (by decide) (fun _ => ?_) (fun h0 => absurd (by decide) h0)
            refine lv_aload_n hx hb dX7_part_236 rfl (lv_at hl 3 rfl) ?_
            refine lv_bipush (v := 43) hx hb dX7_part_237 (by decide) ?_
            refine lv_bipush (v := 43) hx hb dX7_part_239 (by decide) ?_
            refine rw_i hS (va_runV (As := [.int 43, .int 43]) (rest := []) ⟨hx, hb, hml, hown, hts⟩ (m_X7_sign_w l D cI cS b s kp hf sc ad bf ln (by omega) hl0 (pp + 1) (by omega) 43 43 _) (cwV 2 hts (gV tw922 tw919 tw921 ts39 tw8) rfl rfl rfl (by decide +kernel) ⟨Nat.le_of_ble_eq_true rfl, Nat.le_of_ble_eq_true rfl⟩) (pvW 0 hK hP hE (by decide) rfl rfl) rfl rfl hl.1 rfl (lv_room (Nat.le_of_ble_eq_true rfl)) dX7_part_241 ⟨Nat.le_of_ble_eq_true rfl, Nat.le_of_ble_eq_true rfl⟩) (fun r81 u82 H locs hr80 hP hS => ?_)
            subst hr80
            refine lv_istore (lv' := [(5, .int (cdA bf ln (pp + 1))), (4, .int 0), (3, .int ((cdA bf ln (pp + 1)) - 48)), (2, .int (bf pp)), (0, .ref (b 0)), (1, .int 0)]) hx hb dX7_part_244 hl (by decide) rfl (fun ls hl => ?_)
            refine lv_aload_n hx hb dX7_part_246 rfl (lv_at hl 4 rfl) ?_
            refine lv_bipush (v := 48) hx hb dX7_part_247 (by decide) ?_
            refine lv_bipush (v := 53) hx hb dX7_part_249 (by decide) ?_
            refine rw_i hS (va_runV (As := [.int 48, .int 53]) (rest := []) ⟨hx, hb, hml, hown, hts⟩ (m_X7_sign_w l D cI cS b s kp hf sc ad bf ln (by omega) hl0 (pp + 1) (by omega) 48 53 _) (cwV 2 hts (gV tw922 tw919 tw921 ts39 tw8) rfl rfl rfl (by decide +kernel) ⟨Nat.le_of_ble_eq_true rfl, Nat.le_of_ble_eq_true rfl⟩) (pvW 0 hK hP hE (by decide) rfl rfl) rfl rfl hl.1 rfl (lv_room (Nat.le_of_ble_eq_true rfl)) dX7_part_251 ⟨Nat.le_of_ble_eq_true rfl, Nat.le_of_ble_eq_true rfl⟩) (fun r84 u85 H locs hr83 hP hS => ?_)
            subst hr83
            refine lv_bipush (v := 48) hx hb dX7_part_254 (by decide) ?_
            refine lv_isub hx hb dX7_part_256 ?_
            refine lv_istore (lv' := [(6, .int ((cdA bf ln (pp + 1)) - 48)), (5, .int (cdA bf ln (pp + 1))), (4, .int 0), (3, .int ((cdA bf ln (pp + 1)) - 48)), (2, .int (bf pp)), (0, .ref (b 0)), (1, .int 0)]) hx hb dX7_part_257 hl (by decide) rfl (fun ls hl => ?_)
            refine lv_iload_n hx hb dX7_part_259 rfl (lv_at hl 6 rfl) ?_
            refine lv_if_eq (tgt := 285) hx hb dX7_part_260 (by decide) (fun _ => ?_) (fun h0 => absurd (by decide) h0)
            refine lv_iconst (v := 1) hx hb dX7_part_285 (by decide) ?_
            exact rw_ir hx hb hr rfl hlocks hS (pp + 1, 1) hP ⟨rfl, Or.inr ⟨rfl, px_d1 g194 g203⟩⟩ dX7_part_286
        · skip
          refine rw_i hS (va_runV (As := [.int 100, .int 100]) (rest := []) ⟨hx, hb, hml, hown, hts⟩ (m_X7_sign_no l D cI cS b s kp hf sc ad bf ln (by omega) hl0 pp (by omega) 100 100 g194 _) (cwV 2 hts (gV tw922 tw919 tw921 ts39 tw8) rfl rfl rfl (by decide +kernel) ⟨Nat.le_of_ble_eq_true rfl, Nat.le_of_ble_eq_true rfl⟩) (pvW 0 hK hP hE (by decide) rfl rfl) rfl rfl hl.1 rfl (lv_room (Nat.le_of_ble_eq_true rfl)) dX7_part_194 ⟨Nat.le_of_ble_eq_true rfl, Nat.le_of_ble_eq_true rfl⟩) (fun r87 u88 H locs hr86 hP hS => ?_)
          subst hr86
          refine lv_istore_n (lv' := [(2, .int (cdA bf ln pp)), (0, .ref (b 0)), (1, .int 0)]) hx hb dX7_part_197 rfl hl (by decide) rfl (fun ls hl => ?_)
          refine lv_aload_n hx hb dX7_part_198 rfl (lv_at hl 1 rfl) ?_
          refine lv_bipush (v := 48) hx hb dX7_part_199 (by decide) ?_
          refine lv_bipush (v := 54) hx hb dX7_part_201 (by decide) ?_
          refine rw_i hS (va_runV (As := [.int 48, .int 54]) (rest := []) ⟨hx, hb, hml, hown, hts⟩ (m_X7_sign_w l D cI cS b s kp hf sc ad bf ln (by omega) hl0 pp (by omega) 48 54 _) (cwV 2 hts (gV tw922 tw919 tw921 ts39 tw8) rfl rfl rfl (by decide +kernel) ⟨Nat.le_of_ble_eq_true rfl, Nat.le_of_ble_eq_true rfl⟩) (pvW 0 hK hP hE (by decide) rfl rfl) rfl rfl hl.1 rfl (lv_room (Nat.le_of_ble_eq_true rfl)) dX7_part_203 ⟨Nat.le_of_ble_eq_true rfl, Nat.le_of_ble_eq_true rfl⟩) (fun r90 u91 H locs hr89 hP hS => ?_)
          subst hr89
          refine lv_bipush (v := 48) hx hb dX7_part_206 (by decide) ?_
          refine lv_isub hx hb dX7_part_208 ?_
          refine lv_istore_n (lv' := [(3, .int ((cdA bf ln pp) - 48)), (2, .int (cdA bf ln pp)), (0, .ref (b 0)), (1, .int 0)]) hx hb dX7_part_209 rfl hl (by decide) rfl (fun ls hl => ?_)
          refine lv_aload_n hx hb dX7_part_210 rfl (lv_at hl 2 rfl) ?_
          refine lv_bipush (v := 45) hx hb dX7_part_211 (by decide) ?_
          refine lv_bipush (v := 45) hx hb dX7_part_213 (by decide) ?_
          refine ro_i (va_runV (As := [.int 45, .int 45]) (rest := []) ⟨hx, hb, hml, hown, hts⟩ (m_X7_isNext_w l D cI cS b s kp hf sc ad bf ln (by omega) hl0 pp (by omega) 45 45) (cwV 2 hts (gV tw918 tw915 tw917 ts38 tw8) rfl rfl rfl (by decide +kernel) ⟨Nat.le_of_ble_eq_true rfl, Nat.le_of_ble_eq_true rfl⟩) (pvR 0 hK hP (by decide) rfl rfl) rfl rfl hl.1 rfl (lv_room (Nat.le_of_ble_eq_true rfl)) dX7_part_215 ⟨Nat.le_of_ble_eq_true rfl, Nat.le_of_ble_eq_true rfl⟩) (fun r93 hr92 => ?_)
          subst hr92
          refine lv_istore (lv' := [(4, .int 0), (3, .int ((cdA bf ln pp) - 48)), (2, .int (cdA bf ln pp)), (0, .ref (b 0)), (1, .int 0)]) hx hb dX7_part_218 hl (by decide) rfl (fun ls hl => ?_)
          refine lv_iload hx hb dX7_part_220 (lv_at hl 0 rfl) ?_
          refine lv_if_eq (tgt := 236) hx hb dX7_part_222 (by decide) (fun _ => ?_) (fun h0 => absurd (by decide) h0)
          refine lv_aload_n hx hb dX7_part_236 rfl (lv_at hl 3 rfl) ?_
          refine lv_bipush (v := 43) hx hb dX7_part_237 (by decide) ?_
          refine lv_bipush (v := 43) hx hb dX7_part_239 (by decide) ?_
          refine rw_i hS (va_runV (As := [.int 43, .int 43]) (rest := []) ⟨hx, hb, hml, hown, hts⟩ (m_X7_sign_w l D cI cS b s kp hf sc ad bf ln (by omega) hl0 pp (by omega) 43 43 _) (cwV 2 hts (gV tw922 tw919 tw921 ts39 tw8) rfl rfl rfl (by decide +kernel) ⟨Nat.le_of_ble_eq_true rfl, Nat.le_of_ble_eq_true rfl⟩) (pvW 0 hK hP hE (by decide) rfl rfl) rfl rfl hl.1 rfl (lv_room (Nat.le_of_ble_eq_true rfl)) dX7_part_241 ⟨Nat.le_of_ble_eq_true rfl, Nat.le_of_ble_eq_true rfl⟩) (fun r96 u97 H locs hr95 hP hS => ?_)
          subst hr95
          refine lv_istore (lv' := [(5, .int (cdA bf ln pp)), (4, .int 0), (3, .int ((cdA bf ln pp) - 48)), (2, .int (cdA bf ln pp)), (0, .ref (b 0)), (1, .int 0)]) hx hb dX7_part_244 hl (by decide) rfl (fun ls hl => ?_)
          refine lv_aload_n hx hb dX7_part_246 rfl (lv_at hl 4 rfl) ?_
          refine lv_bipush (v := 48) hx hb dX7_part_247 (by decide) ?_
          refine lv_bipush (v := 53) hx hb dX7_part_249 (by decide) ?_
          refine rw_i hS (va_runV (As := [.int 48, .int 53]) (rest := []) ⟨hx, hb, hml, hown, hts⟩ (m_X7_sign_w l D cI cS b s kp hf sc ad bf ln (by omega) hl0 pp (by omega) 48 53 _) (cwV 2 hts (gV tw922 tw919 tw921 ts39 tw8) rfl rfl rfl (by decide +kernel) ⟨Nat.le_of_ble_eq_true rfl, Nat.le_of_ble_eq_true rfl⟩) (pvW 0 hK hP hE (by decide) rfl rfl) rfl rfl hl.1 rfl (lv_room (Nat.le_of_ble_eq_true rfl)) dX7_part_251 ⟨Nat.le_of_ble_eq_true rfl, Nat.le_of_ble_eq_true rfl⟩) (fun r99 u100 H locs hr98 hP hS => ?_)
          subst hr98
          refine lv_bipush (v := 48) hx hb dX7_part_254 (by decide) ?_
          refine lv_isub hx hb dX7_part_256 ?_
          refine lv_istore (lv' := [(6, .int ((cdA bf ln pp) - 48)), (5, .int (cdA bf ln pp)), (4, .int 0), (3, .int ((cdA bf ln pp) - 48)), (2, .int (cdA bf ln pp)), (0, .ref (b 0)), (1, .int 0)]) hx hb dX7_part_257 hl (by decide) rfl (fun ls hl => ?_)
          refine lv_iload_n hx hb dX7_part_259 rfl (lv_at hl 6 rfl) ?_
          refine lv_if_eq (tgt := 285) hx hb dX7_part_260 (by decide) (fun _ => ?_) (fun h0 => absurd (by decide) h0)
          refine lv_iconst (v := 1) hx hb dX7_part_285 (by decide) ?_
          exact rw_ir hx hb hr rfl hlocks hS (pp, 1) hP ⟨rfl, Or.inr ⟨rfl, px_0 hp n5 n93 n158 g194⟩⟩ dX7_part_286

set_option maxHeartbeats 4000000 in
set_option maxRecDepth 100000 in
theorem m_X7_p1t1 (l : Launch) (D : va_G) (cI cS : ClassId) (b : Nat → Nat) (s kp : St) (hf : Nat → St) (sc ad bf : Nat → Int32) (ln : Nat) (hln : ln ≤ 60) (hl0 : sc 2 = nI ln) (pp : Nat) (hp : pp ≤ ln) (T : Int) (hBd : Bd T s) (hT : T ≤ 500000000) (n5 : pp < ln ∧ witB (bf pp) 116 116) (g26 : pp + 1 < ln ∧ witB (bf (pp + 1)) 49 57) (n38 : ¬ (pp + 2 < ln ∧ witB (bf (pp + 2)) 48 57)) (zz : Nat) : Met l yX7_part (.code yX7_part cX7_part 7 (some .boolean) :: wsA) ({ frames := 3, cells := 0, slots := 0, locals := 71 } : Room) (va_Pc [.ref (b 0), .int 1] (PW D cI cS 6 b (emC cI b (mdl s kp hf (pq sc pp 0) ad bf)) zz)) (va_Qi (fun (r : Int32) (u : Unit) => r = bI (partB bf ln pp s)) (BW D 6 b (fun u => emC cI b (mdl (partS bf ln pp s) kp hf (pq sc (pp + 2) 0) ad bf))) (AX 6 b zz)) 0 0 (AX 6 b zz) := by
  refine mgo (by decide) (Nat.le_of_ble_eq_true rfl) ?_
  intro p e z m below meth c hx hb hr hml hown hts hlocks hB ls hl
  obtain ⟨hsz, hP, hK, hE⟩ := hB
  subst hsz
  have hS : va_S (AX 6 b z.heap.size) z.heap z.heap [] := va_S.rf
  have hl : lv_has ls 7 [(0, .ref (b 0)), (1, .int 1)] := hl
  refine lv_aload_n hx hb dX7_part_0 rfl (lv_at hl 0 rfl) ?_
  refine lv_bipush (v := 116) hx hb dX7_part_1 (by decide) ?_
  refine lv_bipush (v := 116) hx hb dX7_part_3 (by decide) ?_
  refine ro_i (va_runV (As := [.int 116, .int 116]) (rest := []) ⟨hx, hb, hml, hown, hts⟩ (m_X7_isNext_t l D cI cS b s kp hf sc ad bf ln (by omega) hl0 pp (by omega) 116 116 n5) (cwV 2 hts (gV tw918 tw915 tw917 ts38 tw8) rfl rfl rfl (by decide +kernel) ⟨Nat.le_of_ble_eq_true rfl, Nat.le_of_ble_eq_true rfl⟩) (pvR 0 hK hP (by decide) rfl rfl) rfl rfl hl.1 rfl (lv_room (Nat.le_of_ble_eq_true rfl)) dX7_part_5 ⟨Nat.le_of_ble_eq_true rfl, Nat.le_of_ble_eq_true rfl⟩) (fun r2 hr1 => ?_)
  subst hr1
  refine lv_if_eq (tgt := 88) hx hb dX7_part_8 (by decide) (fun h0 => absurd h0 (by decide)) (fun _ => ?_)
  refine lv_aload_n hx hb dX7_part_11 rfl (lv_at hl 0 rfl) ?_
  refine lv_dup hx hb dX7_part_12 rfl ?_
  refine g_get hx hb hts hown inA7 hK hP 0 (by decide) rfl rfl 9 (by decide) tw769 rfl (v := .int (nI pp)) rfl dX7_part_13 ?_
  refine lv_iconst (v := 1) hx hb dX7_part_16 (by decide) ?_
  refine lv_iadd hx hb dX7_part_17 ?_
  refine lv_as (y := nI (pp + 1)) (nI_add2 (p := pp) (q := 1) rfl rfl) ?_
  refine g_put hx hb hts hown inA7 tyX7 tyX7_ok nmX7 hK hP hE hS 0 (by decide) rfl rfl 9 (by decide) tw769 rfl rfl (ty := .int) (by decide +kernel) rfl rfl (Nat.le_of_ble_eq_true rfl) dX7_part_18 (ex' := emC cI b (mdl s kp hf (pq sc (pp + 1) 0) ad bf)) rfl mm_sc (fun H locs hP hS => ?_)
  refine lv_aload_n hx hb dX7_part_21 rfl (lv_at hl 0 rfl) ?_
  refine lv_bipush (v := 49) hx hb dX7_part_22 (by decide) ?_
  refine lv_bipush (v := 57) hx hb dX7_part_24 (by decide) ?_
  refine rw_i hS (va_runV (As := [.int 49, .int 57]) (rest := []) ⟨hx, hb, hml, hown, hts⟩ (m_X7_sign_ok l D cI cS b s kp hf sc ad bf ln (by omega) hl0 (pp + 1) (by omega) 49 57 g26 _) (cwV 2 hts (gV tw922 tw919 tw921 ts39 tw8) rfl rfl rfl (by decide +kernel) ⟨Nat.le_of_ble_eq_true rfl, Nat.le_of_ble_eq_true rfl⟩) (pvW 0 hK hP hE (by decide) rfl rfl) rfl rfl hl.1 rfl (lv_room (Nat.le_of_ble_eq_true rfl)) dX7_part_26 ⟨Nat.le_of_ble_eq_true rfl, Nat.le_of_ble_eq_true rfl⟩) (fun r5 u6 H locs hr4 hP hS => ?_)
  subst hr4
  refine lv_bipush (v := 48) hx hb dX7_part_29 (by decide) ?_
  refine lv_isub hx hb dX7_part_31 ?_
  obtain ⟨n9, hn9, hn8, hn7⟩ := tk_1d g26 n38
  refine lv_as (y := nI n9) hn8 ?_
  refine lv_istore_n (lv' := [(2, .int (nI n9)), (0, .ref (b 0)), (1, .int 1)]) hx hb dX7_part_32 rfl hl (by decide) rfl (fun ls hl => ?_)
  refine lv_aload_n hx hb dX7_part_33 rfl (lv_at hl 1 rfl) ?_
  refine lv_bipush (v := 48) hx hb dX7_part_34 (by decide) ?_
  refine lv_bipush (v := 57) hx hb dX7_part_36 (by decide) ?_
  refine ro_i (va_runV (As := [.int 48, .int 57]) (rest := []) ⟨hx, hb, hml, hown, hts⟩ (m_X7_isNext_f l D cI cS b s kp hf sc ad bf ln (by omega) hl0 (pp + 2) (by omega) 48 57 n38) (cwV 2 hts (gV tw918 tw915 tw917 ts38 tw8) rfl rfl rfl (by decide +kernel) ⟨Nat.le_of_ble_eq_true rfl, Nat.le_of_ble_eq_true rfl⟩) (pvR 0 hK hP (by decide) rfl rfl) rfl rfl hl.1 rfl (lv_room (Nat.le_of_ble_eq_true rfl)) dX7_part_38 ⟨Nat.le_of_ble_eq_true rfl, Nat.le_of_ble_eq_true rfl⟩) (fun r8 hr7 => ?_)
  subst hr7
  refine lv_if_eq (tgt := 72) hx hb dX7_part_41 (by decide) (fun _ => ?_) (fun h0 => absurd (by decide) h0)
  refine lv_iload_n hx hb dX7_part_72 rfl (lv_at hl 2 rfl) ?_
  refine lv_if_eq (tgt := 84) hx hb dX7_part_73 (by decide) (fun h0 => absurd h0 (by decide)) (fun _ => ?_)
  refine lv_aload_n hx hb dX7_part_76 rfl (lv_at hl 1 rfl) ?_
  refine lv_iload_n hx hb dX7_part_77 rfl (lv_at hl 0 rfl) ?_
  refine rw_i hS (va_runV (As := [.int (nI n9)]) (rest := []) ⟨hx, hb, hml, hown, hts⟩ (m_X7_ticks l D cI cS b s kp hf (pq sc (pp + 2) 0) ad bf T hBd (by omega) n9 (by omega) _) (cwV 1 hts (gV tw816 tw813 tw815 ts24 tw8) rfl rfl rfl (by decide +kernel) ⟨Nat.le_of_ble_eq_true rfl, Nat.le_of_ble_eq_true rfl⟩) (pvW 0 hK hP hE (by decide) rfl rfl) rfl rfl hl.1 rfl (lv_room (Nat.le_of_ble_eq_true rfl)) dX7_part_78 ⟨Nat.le_of_ble_eq_true rfl, Nat.le_of_ble_eq_true rfl⟩) (fun r11 u12 H locs hr10 hP hS => ?_)
  subst hr10
  refine lv_goto (tgt := 85) hx hb dX7_part_81 (by decide) ?_
  refine lv_istore_n (lv' := [(3, .int (ticksA n9 s)), (2, .int (nI n9)), (0, .ref (b 0)), (1, .int 1)]) hx hb dX7_part_85 rfl hl (by decide) rfl (fun ls hl => ?_)
  refine lv_iconst (v := 1) hx hb dX7_part_86 (by decide) ?_
  have hWs : (partS bf ln pp s) = (ticksS n9 s) := by exact (pa_t n5 hn9 hn7).1
  have hP := hP.cast (e' := emC cI b (mdl (partS bf ln pp s) kp hf (pq sc (pp + 2) 0) ad bf)) (by rw [hWs])
  exact rw_ir hx hb hr rfl hlocks hS () hP (bI_t (pa_t n5 hn9 hn7).2).symm dX7_part_87

set_option maxHeartbeats 4000000 in
set_option maxRecDepth 100000 in
theorem m_X7_p1t2 (l : Launch) (D : va_G) (cI cS : ClassId) (b : Nat → Nat) (s kp : St) (hf : Nat → St) (sc ad bf : Nat → Int32) (ln : Nat) (hln : ln ≤ 60) (hl0 : sc 2 = nI ln) (pp : Nat) (hp : pp ≤ ln) (T : Int) (hBd : Bd T s) (hT : T ≤ 500000000) (n5 : pp < ln ∧ witB (bf pp) 116 116) (g26 : pp + 1 < ln ∧ witB (bf (pp + 1)) 49 57) (n38 : pp + 2 < ln ∧ witB (bf (pp + 2)) 48 57) (zz : Nat) : Met l yX7_part (.code yX7_part cX7_part 7 (some .boolean) :: wsA) ({ frames := 3, cells := 0, slots := 0, locals := 71 } : Room) (va_Pc [.ref (b 0), .int 1] (PW D cI cS 6 b (emC cI b (mdl s kp hf (pq sc pp 0) ad bf)) zz)) (va_Qi (fun (r : Int32) (u : Unit) => r = bI (partB bf ln pp s)) (BW D 6 b (fun u => emC cI b (mdl (partS bf ln pp s) kp hf (pq sc (pp + 3) 0) ad bf))) (AX 6 b zz)) 0 0 (AX 6 b zz) := by
  refine mgo (by decide) (Nat.le_of_ble_eq_true rfl) ?_
  intro p e z m below meth c hx hb hr hml hown hts hlocks hB ls hl
  obtain ⟨hsz, hP, hK, hE⟩ := hB
  subst hsz
  have hS : va_S (AX 6 b z.heap.size) z.heap z.heap [] := va_S.rf
  have hl : lv_has ls 7 [(0, .ref (b 0)), (1, .int 1)] := hl
  refine lv_aload_n hx hb dX7_part_0 rfl (lv_at hl 0 rfl) ?_
  refine lv_bipush (v := 116) hx hb dX7_part_1 (by decide) ?_
  refine lv_bipush (v := 116) hx hb dX7_part_3 (by decide) ?_
  refine ro_i (va_runV (As := [.int 116, .int 116]) (rest := []) ⟨hx, hb, hml, hown, hts⟩ (m_X7_isNext_t l D cI cS b s kp hf sc ad bf ln (by omega) hl0 pp (by omega) 116 116 n5) (cwV 2 hts (gV tw918 tw915 tw917 ts38 tw8) rfl rfl rfl (by decide +kernel) ⟨Nat.le_of_ble_eq_true rfl, Nat.le_of_ble_eq_true rfl⟩) (pvR 0 hK hP (by decide) rfl rfl) rfl rfl hl.1 rfl (lv_room (Nat.le_of_ble_eq_true rfl)) dX7_part_5 ⟨Nat.le_of_ble_eq_true rfl, Nat.le_of_ble_eq_true rfl⟩) (fun r2 hr1 => ?_)
  subst hr1
  refine lv_if_eq (tgt := 88) hx hb dX7_part_8 (by decide) (fun h0 => absurd h0 (by decide)) (fun _ => ?_)
  refine lv_aload_n hx hb dX7_part_11 rfl (lv_at hl 0 rfl) ?_
  refine lv_dup hx hb dX7_part_12 rfl ?_
  refine g_get hx hb hts hown inA7 hK hP 0 (by decide) rfl rfl 9 (by decide) tw769 rfl (v := .int (nI pp)) rfl dX7_part_13 ?_
  refine lv_iconst (v := 1) hx hb dX7_part_16 (by decide) ?_
  refine lv_iadd hx hb dX7_part_17 ?_
  refine lv_as (y := nI (pp + 1)) (nI_add2 (p := pp) (q := 1) rfl rfl) ?_
  refine g_put hx hb hts hown inA7 tyX7 tyX7_ok nmX7 hK hP hE hS 0 (by decide) rfl rfl 9 (by decide) tw769 rfl rfl (ty := .int) (by decide +kernel) rfl rfl (Nat.le_of_ble_eq_true rfl) dX7_part_18 (ex' := emC cI b (mdl s kp hf (pq sc (pp + 1) 0) ad bf)) rfl mm_sc (fun H locs hP hS => ?_)
  refine lv_aload_n hx hb dX7_part_21 rfl (lv_at hl 0 rfl) ?_
  refine lv_bipush (v := 49) hx hb dX7_part_22 (by decide) ?_
  refine lv_bipush (v := 57) hx hb dX7_part_24 (by decide) ?_
  refine rw_i hS (va_runV (As := [.int 49, .int 57]) (rest := []) ⟨hx, hb, hml, hown, hts⟩ (m_X7_sign_ok l D cI cS b s kp hf sc ad bf ln (by omega) hl0 (pp + 1) (by omega) 49 57 g26 _) (cwV 2 hts (gV tw922 tw919 tw921 ts39 tw8) rfl rfl rfl (by decide +kernel) ⟨Nat.le_of_ble_eq_true rfl, Nat.le_of_ble_eq_true rfl⟩) (pvW 0 hK hP hE (by decide) rfl rfl) rfl rfl hl.1 rfl (lv_room (Nat.le_of_ble_eq_true rfl)) dX7_part_26 ⟨Nat.le_of_ble_eq_true rfl, Nat.le_of_ble_eq_true rfl⟩) (fun r5 u6 H locs hr4 hP hS => ?_)
  subst hr4
  refine lv_bipush (v := 48) hx hb dX7_part_29 (by decide) ?_
  refine lv_isub hx hb dX7_part_31 ?_
  obtain ⟨n9, k9, hn9, hk9, hn8, hn6, hn7⟩ := tk_2d g26 n38
  refine lv_as (y := nI k9) hn8 ?_
  refine lv_istore_n (lv' := [(2, .int (nI k9)), (0, .ref (b 0)), (1, .int 1)]) hx hb dX7_part_32 rfl hl (by decide) rfl (fun ls hl => ?_)
  refine lv_aload_n hx hb dX7_part_33 rfl (lv_at hl 1 rfl) ?_
  refine lv_bipush (v := 48) hx hb dX7_part_34 (by decide) ?_
  refine lv_bipush (v := 57) hx hb dX7_part_36 (by decide) ?_
  refine ro_i (va_runV (As := [.int 48, .int 57]) (rest := []) ⟨hx, hb, hml, hown, hts⟩ (m_X7_isNext_t l D cI cS b s kp hf sc ad bf ln (by omega) hl0 (pp + 2) (by omega) 48 57 n38) (cwV 2 hts (gV tw918 tw915 tw917 ts38 tw8) rfl rfl rfl (by decide +kernel) ⟨Nat.le_of_ble_eq_true rfl, Nat.le_of_ble_eq_true rfl⟩) (pvR 0 hK hP (by decide) rfl rfl) rfl rfl hl.1 rfl (lv_room (Nat.le_of_ble_eq_true rfl)) dX7_part_38 ⟨Nat.le_of_ble_eq_true rfl, Nat.le_of_ble_eq_true rfl⟩) (fun r8 hr7 => ?_)
  subst hr7
  refine lv_if_eq (tgt := 72) hx hb dX7_part_41 (by decide) (fun h0 => absurd h0 (by decide)) (fun _ => ?_)
  refine lv_bipush (v := 10) hx hb dX7_part_44 (by decide) ?_
  refine lv_iload_n hx hb dX7_part_46 rfl (lv_at hl 0 rfl) ?_
  refine lv_imul hx hb dX7_part_47 ?_
  refine lv_as (y := nI (10 * k9)) (nI_mul2 (p := 10) (q := k9) rfl rfl) ?_
  refine lv_aload_n hx hb dX7_part_48 rfl (lv_at hl 1 rfl) ?_
  refine g_get hx hb hts hown inA7 hK hP 0 (by decide) rfl rfl 6 (by decide) tw766 rfl (v := .ref (b 5)) rfl dX7_part_49 ?_
  refine lv_aload_n hx hb dX7_part_52 rfl (lv_at hl 1 rfl) ?_
  refine g_get hx hb hts hown inA7 hK hP 0 (by decide) rfl rfl 9 (by decide) tw769 rfl (v := .int (nI (pp + 2))) rfl dX7_part_53 ?_
  refine g_iald hx hb hK hP 5 (by decide) rfl (pp + 2) rfl (by omega) (by decide) dX7_part_56 (v := bf (pp + 2)) rfl ?_
  refine lv_iadd hx hb dX7_part_57 ?_
  refine lv_bipush (v := 48) hx hb dX7_part_58 (by decide) ?_
  refine lv_isub hx hb dX7_part_60 ?_
  refine lv_as (y := nI n9) hn6 ?_
  refine lv_istore_n (lv' := [(2, .int (nI n9)), (0, .ref (b 0)), (1, .int 1)]) hx hb dX7_part_61 rfl hl (by decide) rfl (fun ls hl => ?_)
  refine lv_aload_n hx hb dX7_part_62 rfl (lv_at hl 1 rfl) ?_
  refine lv_dup hx hb dX7_part_63 rfl ?_
  refine g_get hx hb hts hown inA7 hK hP 0 (by decide) rfl rfl 9 (by decide) tw769 rfl (v := .int (nI (pp + 2))) rfl dX7_part_64 ?_
  refine lv_iconst (v := 1) hx hb dX7_part_67 (by decide) ?_
  refine lv_iadd hx hb dX7_part_68 ?_
  refine lv_as (y := nI (pp + 2 + 1)) (nI_add2 (p := pp + 2) (q := 1) rfl rfl) ?_
  refine g_put hx hb hts hown inA7 tyX7 tyX7_ok nmX7 hK hP hE hS 0 (by decide) rfl rfl 9 (by decide) tw769 rfl rfl (ty := .int) (by decide +kernel) rfl rfl (Nat.le_of_ble_eq_true rfl) dX7_part_69 (ex' := emC cI b (mdl s kp hf (pq sc (pp + 3) 0) ad bf)) rfl mm_sc (fun H locs hP hS => ?_)
  refine lv_iload_n hx hb dX7_part_72 rfl (lv_at hl 2 rfl) ?_
  refine lv_if_eq (tgt := 84) hx hb dX7_part_73 (by decide) (fun h0 => absurd h0 (by decide)) (fun _ => ?_)
  refine lv_aload_n hx hb dX7_part_76 rfl (lv_at hl 1 rfl) ?_
  refine lv_iload_n hx hb dX7_part_77 rfl (lv_at hl 0 rfl) ?_
  refine rw_i hS (va_runV (As := [.int (nI n9)]) (rest := []) ⟨hx, hb, hml, hown, hts⟩ (m_X7_ticks l D cI cS b s kp hf (pq sc (pp + 3) 0) ad bf T hBd (by omega) n9 (by omega) _) (cwV 1 hts (gV tw816 tw813 tw815 ts24 tw8) rfl rfl rfl (by decide +kernel) ⟨Nat.le_of_ble_eq_true rfl, Nat.le_of_ble_eq_true rfl⟩) (pvW 0 hK hP hE (by decide) rfl rfl) rfl rfl hl.1 rfl (lv_room (Nat.le_of_ble_eq_true rfl)) dX7_part_78 ⟨Nat.le_of_ble_eq_true rfl, Nat.le_of_ble_eq_true rfl⟩) (fun r11 u12 H locs hr10 hP hS => ?_)
  subst hr10
  refine lv_goto (tgt := 85) hx hb dX7_part_81 (by decide) ?_
  refine lv_istore_n (lv' := [(3, .int (ticksA n9 s)), (2, .int (nI n9)), (0, .ref (b 0)), (1, .int 1)]) hx hb dX7_part_85 rfl hl (by decide) rfl (fun ls hl => ?_)
  refine lv_iconst (v := 1) hx hb dX7_part_86 (by decide) ?_
  have hWs : (partS bf ln pp s) = (ticksS n9 s) := by exact (pa_t n5 hn9 hn7).1
  have hP := hP.cast (e' := emC cI b (mdl (partS bf ln pp s) kp hf (pq sc (pp + 3) 0) ad bf)) (by rw [hWs])
  exact rw_ir hx hb hr rfl hlocks hS () hP (bI_t (pa_t n5 hn9 hn7).2).symm dX7_part_87

set_option maxHeartbeats 4000000 in
set_option maxRecDepth 100000 in
theorem m_X7_p1v1 (l : Launch) (D : va_G) (cI cS : ClassId) (b : Nat → Nat) (s kp : St) (hf : Nat → St) (sc ad bf : Nat → Int32) (ln : Nat) (hln : ln ≤ 60) (hl0 : sc 2 = nI ln) (pp : Nat) (hp : pp ≤ ln) (T : Int) (hBd : Bd T s) (hT : T ≤ 500000000) (n93 : pp < ln ∧ witB (bf pp) 118 118) (hw0 : ¬ sumN (s 7) 7 = 0) (zz : Nat) : Met l yX7_part (.code yX7_part cX7_part 7 (some .boolean) :: wsA) ({ frames := 3, cells := 0, slots := 0, locals := 71 } : Room) (va_Pc [.ref (b 0), .int 1] (PW D cI cS 6 b (emC cI b (mdl s kp hf (pq sc pp 0) ad bf)) zz)) (va_Qi (fun (r : Int32) (u : Unit) => r = bI (partB bf ln pp s)) (BW D 6 b (fun u => emC cI b (mdl (partS bf ln pp s) kp hf (pq sc (pp + 1) 0) ad bf))) (AX 6 b zz)) 0 0 (AX 6 b zz) := by
  refine mgo (by decide) (Nat.le_of_ble_eq_true rfl) ?_
  intro p e z m below meth c hx hb hr hml hown hts hlocks hB ls hl
  obtain ⟨hsz, hP, hK, hE⟩ := hB
  subst hsz
  have hS : va_S (AX 6 b z.heap.size) z.heap z.heap [] := va_S.rf
  have hl : lv_has ls 7 [(0, .ref (b 0)), (1, .int 1)] := hl
  refine lv_aload_n hx hb dX7_part_0 rfl (lv_at hl 0 rfl) ?_
  refine lv_bipush (v := 116) hx hb dX7_part_1 (by decide) ?_
  refine lv_bipush (v := 116) hx hb dX7_part_3 (by decide) ?_
  refine ro_i (va_runV (As := [.int 116, .int 116]) (rest := []) ⟨hx, hb, hml, hown, hts⟩ (m_X7_isNext_f l D cI cS b s kp hf sc ad bf ln (by omega) hl0 pp (by omega) 116 116 (fun q => absurd ((wit1 n93.2).symm.trans (wit1 q.2)) (by decide))) (cwV 2 hts (gV tw918 tw915 tw917 ts38 tw8) rfl rfl rfl (by decide +kernel) ⟨Nat.le_of_ble_eq_true rfl, Nat.le_of_ble_eq_true rfl⟩) (pvR 0 hK hP (by decide) rfl rfl) rfl rfl hl.1 rfl (lv_room (Nat.le_of_ble_eq_true rfl)) dX7_part_5 ⟨Nat.le_of_ble_eq_true rfl, Nat.le_of_ble_eq_true rfl⟩) (fun r2 hr1 => ?_)
  subst hr1
  refine lv_if_eq (tgt := 88) hx hb dX7_part_8 (by decide) (fun _ => ?_) (fun h0 => absurd (by decide) h0)
  refine lv_aload_n hx hb dX7_part_88 rfl (lv_at hl 0 rfl) ?_
  refine lv_bipush (v := 118) hx hb dX7_part_89 (by decide) ?_
  refine lv_bipush (v := 118) hx hb dX7_part_91 (by decide) ?_
  refine ro_i (va_runV (As := [.int 118, .int 118]) (rest := []) ⟨hx, hb, hml, hown, hts⟩ (m_X7_isNext_t l D cI cS b s kp hf sc ad bf ln (by omega) hl0 pp (by omega) 118 118 n93) (cwV 2 hts (gV tw918 tw915 tw917 ts38 tw8) rfl rfl rfl (by decide +kernel) ⟨Nat.le_of_ble_eq_true rfl, Nat.le_of_ble_eq_true rfl⟩) (pvR 0 hK hP (by decide) rfl rfl) rfl rfl hl.1 rfl (lv_room (Nat.le_of_ble_eq_true rfl)) dX7_part_93 ⟨Nat.le_of_ble_eq_true rfl, Nat.le_of_ble_eq_true rfl⟩) (fun r5 hr4 => ?_)
  subst hr4
  refine lv_if_eq (tgt := 153) hx hb dX7_part_96 (by decide) (fun h0 => absurd h0 (by decide)) (fun _ => ?_)
  refine lv_aload_n hx hb dX7_part_99 rfl (lv_at hl 0 rfl) ?_
  refine lv_dup hx hb dX7_part_100 rfl ?_
  refine g_get hx hb hts hown inA7 hK hP 0 (by decide) rfl rfl 9 (by decide) tw769 rfl (v := .int (nI pp)) rfl dX7_part_101 ?_
  refine lv_iconst (v := 1) hx hb dX7_part_104 (by decide) ?_
  refine lv_iadd hx hb dX7_part_105 ?_
  refine lv_as (y := nI (pp + 1)) (nI_add2 (p := pp) (q := 1) rfl rfl) ?_
  refine g_put hx hb hts hown inA7 tyX7 tyX7_ok nmX7 hK hP hE hS 0 (by decide) rfl rfl 9 (by decide) tw769 rfl rfl (ty := .int) (by decide +kernel) rfl rfl (Nat.le_of_ble_eq_true rfl) dX7_part_106 (ex' := emC cI b (mdl s kp hf (pq sc (pp + 1) 0) ad bf)) rfl mm_sc (fun H locs hP hS => ?_)
  refine lv_aload_n hx hb dX7_part_109 rfl (lv_at hl 0 rfl) ?_
  refine ro_i (va_runV (As := []) (rest := []) ⟨hx, hb, hml, hown, hts⟩ (m_X7_weights l D cI cS b s kp hf (pq sc (pp + 1) 0) ad bf) (cwV 0 hts (gV tw833 tw830 tw832 ts27 tw8) rfl rfl rfl (by decide +kernel) ⟨Nat.le_of_ble_eq_true rfl, Nat.le_of_ble_eq_true rfl⟩) (pvR 0 hK hP (by decide) rfl rfl) rfl rfl hl.1 rfl (lv_room (Nat.le_of_ble_eq_true rfl)) dX7_part_110 ⟨Nat.le_of_ble_eq_true rfl, Nat.le_of_ble_eq_true rfl⟩) (fun r8 hr7 => ?_)
  subst hr7
  refine lv_if_le (tgt := 120) hx hb dX7_part_113 (by decide) (fun h0 => absurd h0 (Int32.not_le.mpr ((sum_pos hBd).mp hw0))) (fun _ => ?_)
  refine lv_iconst (v := 1) hx hb dX7_part_116 (by decide) ?_
  refine lv_goto (tgt := 121) hx hb dX7_part_117 (by decide) ?_
  refine lv_istore_n (lv' := [(2, .int 1), (0, .ref (b 0)), (1, .int 1)]) hx hb dX7_part_121 rfl hl (by decide) rfl (fun ls hl => ?_)
  refine lv_iload_n hx hb dX7_part_122 rfl (lv_at hl 2 rfl) ?_
  refine lv_if_eq (tgt := 137) hx hb dX7_part_123 (by decide) (fun h0 => absurd h0 (by decide)) (fun _ => ?_)
  refine lv_iload_n hx hb dX7_part_126 rfl (lv_at hl 0 rfl) ?_
  refine lv_if_eq (tgt := 137) hx hb dX7_part_127 (by decide) (fun h0 => absurd h0 (by decide)) (fun _ => ?_)
  refine lv_aload_n hx hb dX7_part_130 rfl (lv_at hl 1 rfl) ?_
  refine rw_i hS (va_runV (As := []) (rest := []) ⟨hx, hb, hml, hown, hts⟩ (m_X7_votes l D cI cS b s kp hf (pq sc (pp + 1) 0) ad bf T hBd (by omega) _) (cwV 0 hts (gV tw837 tw834 tw836 ts28 tw8) rfl rfl rfl (by decide +kernel) ⟨Nat.le_of_ble_eq_true rfl, Nat.le_of_ble_eq_true rfl⟩) (pvW 0 hK hP hE (by decide) rfl rfl) rfl rfl hl.1 rfl (lv_room (Nat.le_of_ble_eq_true rfl)) dX7_part_131 ⟨Nat.le_of_ble_eq_true rfl, Nat.le_of_ble_eq_true rfl⟩) (fun r11 u12 H locs hr10 hP hS => ?_)
  refine lv_goto (tgt := 138) hx hb dX7_part_134 (by decide) ?_
  refine lv_istore_n (lv' := [(3, .int r11), (2, .int 1), (0, .ref (b 0)), (1, .int 1)]) hx hb dX7_part_138 rfl hl (by decide) rfl (fun ls hl => ?_)
  refine lv_iload_n hx hb dX7_part_139 rfl (lv_at hl 3 rfl) ?_
  refine lv_if_eq (tgt := 147) hx hb dX7_part_140 (by decide) (fun h0 => absurd h0 (by decide)) (fun _ => ?_)
  refine lv_iload_n hx hb dX7_part_143 rfl (lv_at hl 1 rfl) ?_
  refine lv_if_eq (tgt := 151) hx hb dX7_part_144 (by decide) (fun h0 => absurd h0 (by decide)) (fun _ => ?_)
  refine lv_iconst (v := 1) hx hb dX7_part_147 (by decide) ?_
  refine lv_goto (tgt := 152) hx hb dX7_part_148 (by decide) ?_
  have hWs : (partS bf ln pp s) = (voteS s) := by rw [(pa_v n93).1, if_neg hw0]
  have hP := hP.cast (e' := emC cI b (mdl (partS bf ln pp s) kp hf (pq sc (pp + 1) 0) ad bf)) (by rw [hWs])
  exact rw_ir hx hb hr rfl hlocks hS () hP (bI_t ((pa_v n93).2.mpr hw0)).symm dX7_part_152

set_option maxHeartbeats 4000000 in
set_option maxRecDepth 100000 in
theorem m_X7_p1v0 (l : Launch) (D : va_G) (cI cS : ClassId) (b : Nat → Nat) (s kp : St) (hf : Nat → St) (sc ad bf : Nat → Int32) (ln : Nat) (hln : ln ≤ 60) (hl0 : sc 2 = nI ln) (pp : Nat) (hp : pp ≤ ln) (T : Int) (hBd : Bd T s) (hT : T ≤ 500000000) (n93 : pp < ln ∧ witB (bf pp) 118 118) (hw0 : sumN (s 7) 7 = 0) (zz : Nat) : Met l yX7_part (.code yX7_part cX7_part 7 (some .boolean) :: wsA) ({ frames := 3, cells := 0, slots := 0, locals := 71 } : Room) (va_Pc [.ref (b 0), .int 1] (PW D cI cS 6 b (emC cI b (mdl s kp hf (pq sc pp 0) ad bf)) zz)) (va_Qi (fun (r : Int32) (u : Unit) => r = bI (partB bf ln pp s)) (BW D 6 b (fun u => emC cI b (mdl (partS bf ln pp s) kp hf (pq sc (pp + 1) 0) ad bf))) (AX 6 b zz)) 0 0 (AX 6 b zz) := by
  refine mgo (by decide) (Nat.le_of_ble_eq_true rfl) ?_
  intro p e z m below meth c hx hb hr hml hown hts hlocks hB ls hl
  obtain ⟨hsz, hP, hK, hE⟩ := hB
  subst hsz
  have hS : va_S (AX 6 b z.heap.size) z.heap z.heap [] := va_S.rf
  have hl : lv_has ls 7 [(0, .ref (b 0)), (1, .int 1)] := hl
  refine lv_aload_n hx hb dX7_part_0 rfl (lv_at hl 0 rfl) ?_
  refine lv_bipush (v := 116) hx hb dX7_part_1 (by decide) ?_
  refine lv_bipush (v := 116) hx hb dX7_part_3 (by decide) ?_
  refine ro_i (va_runV (As := [.int 116, .int 116]) (rest := []) ⟨hx, hb, hml, hown, hts⟩ (m_X7_isNext_f l D cI cS b s kp hf sc ad bf ln (by omega) hl0 pp (by omega) 116 116 (fun q => absurd ((wit1 n93.2).symm.trans (wit1 q.2)) (by decide))) (cwV 2 hts (gV tw918 tw915 tw917 ts38 tw8) rfl rfl rfl (by decide +kernel) ⟨Nat.le_of_ble_eq_true rfl, Nat.le_of_ble_eq_true rfl⟩) (pvR 0 hK hP (by decide) rfl rfl) rfl rfl hl.1 rfl (lv_room (Nat.le_of_ble_eq_true rfl)) dX7_part_5 ⟨Nat.le_of_ble_eq_true rfl, Nat.le_of_ble_eq_true rfl⟩) (fun r2 hr1 => ?_)
  subst hr1
  refine lv_if_eq (tgt := 88) hx hb dX7_part_8 (by decide) (fun _ => ?_) (fun h0 => absurd (by decide) h0)
  refine lv_aload_n hx hb dX7_part_88 rfl (lv_at hl 0 rfl) ?_
  refine lv_bipush (v := 118) hx hb dX7_part_89 (by decide) ?_
  refine lv_bipush (v := 118) hx hb dX7_part_91 (by decide) ?_
  refine ro_i (va_runV (As := [.int 118, .int 118]) (rest := []) ⟨hx, hb, hml, hown, hts⟩ (m_X7_isNext_t l D cI cS b s kp hf sc ad bf ln (by omega) hl0 pp (by omega) 118 118 n93) (cwV 2 hts (gV tw918 tw915 tw917 ts38 tw8) rfl rfl rfl (by decide +kernel) ⟨Nat.le_of_ble_eq_true rfl, Nat.le_of_ble_eq_true rfl⟩) (pvR 0 hK hP (by decide) rfl rfl) rfl rfl hl.1 rfl (lv_room (Nat.le_of_ble_eq_true rfl)) dX7_part_93 ⟨Nat.le_of_ble_eq_true rfl, Nat.le_of_ble_eq_true rfl⟩) (fun r5 hr4 => ?_)
  subst hr4
  refine lv_if_eq (tgt := 153) hx hb dX7_part_96 (by decide) (fun h0 => absurd h0 (by decide)) (fun _ => ?_)
  refine lv_aload_n hx hb dX7_part_99 rfl (lv_at hl 0 rfl) ?_
  refine lv_dup hx hb dX7_part_100 rfl ?_
  refine g_get hx hb hts hown inA7 hK hP 0 (by decide) rfl rfl 9 (by decide) tw769 rfl (v := .int (nI pp)) rfl dX7_part_101 ?_
  refine lv_iconst (v := 1) hx hb dX7_part_104 (by decide) ?_
  refine lv_iadd hx hb dX7_part_105 ?_
  refine lv_as (y := nI (pp + 1)) (nI_add2 (p := pp) (q := 1) rfl rfl) ?_
  refine g_put hx hb hts hown inA7 tyX7 tyX7_ok nmX7 hK hP hE hS 0 (by decide) rfl rfl 9 (by decide) tw769 rfl rfl (ty := .int) (by decide +kernel) rfl rfl (Nat.le_of_ble_eq_true rfl) dX7_part_106 (ex' := emC cI b (mdl s kp hf (pq sc (pp + 1) 0) ad bf)) rfl mm_sc (fun H locs hP hS => ?_)
  refine lv_aload_n hx hb dX7_part_109 rfl (lv_at hl 0 rfl) ?_
  refine ro_i (va_runV (As := []) (rest := []) ⟨hx, hb, hml, hown, hts⟩ (m_X7_weights l D cI cS b s kp hf (pq sc (pp + 1) 0) ad bf) (cwV 0 hts (gV tw833 tw830 tw832 ts27 tw8) rfl rfl rfl (by decide +kernel) ⟨Nat.le_of_ble_eq_true rfl, Nat.le_of_ble_eq_true rfl⟩) (pvR 0 hK hP (by decide) rfl rfl) rfl rfl hl.1 rfl (lv_room (Nat.le_of_ble_eq_true rfl)) dX7_part_110 ⟨Nat.le_of_ble_eq_true rfl, Nat.le_of_ble_eq_true rfl⟩) (fun r8 hr7 => ?_)
  subst hr7
  refine lv_if_le (tgt := 120) hx hb dX7_part_113 (by decide) (fun _ => ?_) (fun h0 => absurd (by rw [hw0]; exact Int32.le_refl _) h0)
  refine lv_iconst (v := 0) hx hb dX7_part_120 (by decide) ?_
  refine lv_istore_n (lv' := [(2, .int 0), (0, .ref (b 0)), (1, .int 1)]) hx hb dX7_part_121 rfl hl (by decide) rfl (fun ls hl => ?_)
  refine lv_iload_n hx hb dX7_part_122 rfl (lv_at hl 2 rfl) ?_
  refine lv_if_eq (tgt := 137) hx hb dX7_part_123 (by decide) (fun h0 => absurd h0 (by decide)) (fun _ => ?_)
  refine lv_iload_n hx hb dX7_part_126 rfl (lv_at hl 0 rfl) ?_
  refine lv_if_eq (tgt := 137) hx hb dX7_part_127 (by decide) (fun _ => ?_) (fun h0 => absurd (by decide) h0)
  refine lv_iconst (v := 0) hx hb dX7_part_137 (by decide) ?_
  refine lv_istore_n (lv' := [(3, .int 0), (2, .int 0), (0, .ref (b 0)), (1, .int 1)]) hx hb dX7_part_138 rfl hl (by decide) rfl (fun ls hl => ?_)
  refine lv_iload_n hx hb dX7_part_139 rfl (lv_at hl 3 rfl) ?_
  refine lv_if_eq (tgt := 147) hx hb dX7_part_140 (by decide) (fun h0 => absurd h0 (by decide)) (fun _ => ?_)
  refine lv_iload_n hx hb dX7_part_143 rfl (lv_at hl 1 rfl) ?_
  refine lv_if_eq (tgt := 151) hx hb dX7_part_144 (by decide) (fun _ => ?_) (fun h0 => absurd (by decide) h0)
  refine lv_iconst (v := 0) hx hb dX7_part_151 (by decide) ?_
  have hWs : (partS bf ln pp s) = s := by rw [(pa_v n93).1, if_pos hw0]
  have hP := hP.cast (e' := emC cI b (mdl (partS bf ln pp s) kp hf (pq sc (pp + 1) 0) ad bf)) (by rw [hWs])
  exact rw_ir hx hb hr rfl hlocks hS () hP (bI_f (fun q => (pa_v n93).2.mp q hw0)).symm dX7_part_152

set_option maxHeartbeats 4000000 in
set_option maxRecDepth 100000 in
theorem m_X7_p1c (l : Launch) (D : va_G) (cI cS : ClassId) (b : Nat → Nat) (s kp : St) (hf : Nat → St) (sc ad bf : Nat → Int32) (ln : Nat) (hln : ln ≤ 60) (hl0 : sc 2 = nI ln) (pp : Nat) (hp : pp ≤ ln) (T : Int) (hBd : Bd T s) (hT : T ≤ 500000000) (n158 : pp < ln ∧ witB (bf pp) 99 99) (zz : Nat) : Met l yX7_part (.code yX7_part cX7_part 7 (some .boolean) :: wsA) ({ frames := 3, cells := 0, slots := 0, locals := 71 } : Room) (va_Pc [.ref (b 0), .int 1] (PW D cI cS 6 b (emC cI b (mdl s kp hf (pq sc pp 0) ad bf)) zz)) (va_Qi (fun (r : Int32) (u : Unit) => r = bI (partB bf ln pp s)) (BW D 6 b (fun u => emC cI b (mdl (partS bf ln pp s) kp hf (pq sc (pp + 1) 0) ad bf))) (AX 6 b zz)) 0 0 (AX 6 b zz) := by
  refine mgo (by decide) (Nat.le_of_ble_eq_true rfl) ?_
  intro p e z m below meth c hx hb hr hml hown hts hlocks hB ls hl
  obtain ⟨hsz, hP, hK, hE⟩ := hB
  subst hsz
  have hS : va_S (AX 6 b z.heap.size) z.heap z.heap [] := va_S.rf
  have hl : lv_has ls 7 [(0, .ref (b 0)), (1, .int 1)] := hl
  refine lv_aload_n hx hb dX7_part_0 rfl (lv_at hl 0 rfl) ?_
  refine lv_bipush (v := 116) hx hb dX7_part_1 (by decide) ?_
  refine lv_bipush (v := 116) hx hb dX7_part_3 (by decide) ?_
  refine ro_i (va_runV (As := [.int 116, .int 116]) (rest := []) ⟨hx, hb, hml, hown, hts⟩ (m_X7_isNext_f l D cI cS b s kp hf sc ad bf ln (by omega) hl0 pp (by omega) 116 116 (fun q => absurd ((wit1 n158.2).symm.trans (wit1 q.2)) (by decide))) (cwV 2 hts (gV tw918 tw915 tw917 ts38 tw8) rfl rfl rfl (by decide +kernel) ⟨Nat.le_of_ble_eq_true rfl, Nat.le_of_ble_eq_true rfl⟩) (pvR 0 hK hP (by decide) rfl rfl) rfl rfl hl.1 rfl (lv_room (Nat.le_of_ble_eq_true rfl)) dX7_part_5 ⟨Nat.le_of_ble_eq_true rfl, Nat.le_of_ble_eq_true rfl⟩) (fun r2 hr1 => ?_)
  subst hr1
  refine lv_if_eq (tgt := 88) hx hb dX7_part_8 (by decide) (fun _ => ?_) (fun h0 => absurd (by decide) h0)
  refine lv_aload_n hx hb dX7_part_88 rfl (lv_at hl 0 rfl) ?_
  refine lv_bipush (v := 118) hx hb dX7_part_89 (by decide) ?_
  refine lv_bipush (v := 118) hx hb dX7_part_91 (by decide) ?_
  refine ro_i (va_runV (As := [.int 118, .int 118]) (rest := []) ⟨hx, hb, hml, hown, hts⟩ (m_X7_isNext_f l D cI cS b s kp hf sc ad bf ln (by omega) hl0 pp (by omega) 118 118 (fun q => absurd ((wit1 n158.2).symm.trans (wit1 q.2)) (by decide))) (cwV 2 hts (gV tw918 tw915 tw917 ts38 tw8) rfl rfl rfl (by decide +kernel) ⟨Nat.le_of_ble_eq_true rfl, Nat.le_of_ble_eq_true rfl⟩) (pvR 0 hK hP (by decide) rfl rfl) rfl rfl hl.1 rfl (lv_room (Nat.le_of_ble_eq_true rfl)) dX7_part_93 ⟨Nat.le_of_ble_eq_true rfl, Nat.le_of_ble_eq_true rfl⟩) (fun r5 hr4 => ?_)
  subst hr4
  refine lv_if_eq (tgt := 153) hx hb dX7_part_96 (by decide) (fun _ => ?_) (fun h0 => absurd (by decide) h0)
  refine lv_aload_n hx hb dX7_part_153 rfl (lv_at hl 0 rfl) ?_
  refine lv_bipush (v := 99) hx hb dX7_part_154 (by decide) ?_
  refine lv_bipush (v := 99) hx hb dX7_part_156 (by decide) ?_
  refine ro_i (va_runV (As := [.int 99, .int 99]) (rest := []) ⟨hx, hb, hml, hown, hts⟩ (m_X7_isNext_t l D cI cS b s kp hf sc ad bf ln (by omega) hl0 pp (by omega) 99 99 n158) (cwV 2 hts (gV tw918 tw915 tw917 ts38 tw8) rfl rfl rfl (by decide +kernel) ⟨Nat.le_of_ble_eq_true rfl, Nat.le_of_ble_eq_true rfl⟩) (pvR 0 hK hP (by decide) rfl rfl) rfl rfl hl.1 rfl (lv_room (Nat.le_of_ble_eq_true rfl)) dX7_part_158 ⟨Nat.le_of_ble_eq_true rfl, Nat.le_of_ble_eq_true rfl⟩) (fun r8 hr7 => ?_)
  subst hr7
  refine lv_if_eq (tgt := 189) hx hb dX7_part_161 (by decide) (fun h0 => absurd h0 (by decide)) (fun _ => ?_)
  refine lv_aload_n hx hb dX7_part_164 rfl (lv_at hl 0 rfl) ?_
  refine lv_dup hx hb dX7_part_165 rfl ?_
  refine g_get hx hb hts hown inA7 hK hP 0 (by decide) rfl rfl 9 (by decide) tw769 rfl (v := .int (nI pp)) rfl dX7_part_166 ?_
  refine lv_iconst (v := 1) hx hb dX7_part_169 (by decide) ?_
  refine lv_iadd hx hb dX7_part_170 ?_
  refine lv_as (y := nI (pp + 1)) (nI_add2 (p := pp) (q := 1) rfl rfl) ?_
  refine g_put hx hb hts hown inA7 tyX7 tyX7_ok nmX7 hK hP hE hS 0 (by decide) rfl rfl 9 (by decide) tw769 rfl rfl (ty := .int) (by decide +kernel) rfl rfl (Nat.le_of_ble_eq_true rfl) dX7_part_171 (ex' := emC cI b (mdl s kp hf (pq sc (pp + 1) 0) ad bf)) rfl mm_sc (fun H locs hP hS => ?_)
  refine lv_iload_n hx hb dX7_part_174 rfl (lv_at hl 1 rfl) ?_
  refine lv_if_eq (tgt := 185) hx hb dX7_part_175 (by decide) (fun h0 => absurd h0 (by decide)) (fun _ => ?_)
  refine lv_aload_n hx hb dX7_part_178 rfl (lv_at hl 0 rfl) ?_
  refine rw_i hS (va_runV (As := []) (rest := []) ⟨hx, hb, hml, hown, hts⟩ (m_X7_corrects l D cI cS b s kp hf (pq sc (pp + 1) 0) ad bf T hBd (by omega) _) (cwV 0 hts (gV tw867 tw864 tw866 ts33 tw8) rfl rfl rfl (by decide +kernel) ⟨Nat.le_of_ble_eq_true rfl, Nat.le_of_ble_eq_true rfl⟩) (pvW 0 hK hP hE (by decide) rfl rfl) rfl rfl hl.1 rfl (lv_room (Nat.le_of_ble_eq_true rfl)) dX7_part_179 ⟨Nat.le_of_ble_eq_true rfl, Nat.le_of_ble_eq_true rfl⟩) (fun r11 u12 H locs hr10 hP hS => ?_)
  refine lv_goto (tgt := 186) hx hb dX7_part_182 (by decide) ?_
  refine lv_istore_n (lv' := [(2, .int r11), (0, .ref (b 0)), (1, .int 1)]) hx hb dX7_part_186 rfl hl (by decide) rfl (fun ls hl => ?_)
  refine lv_iconst (v := 1) hx hb dX7_part_187 (by decide) ?_
  have hWs : (partS bf ln pp s) = (corS 7 s) := by exact (pa_c n158).1
  have hP := hP.cast (e' := emC cI b (mdl (partS bf ln pp s) kp hf (pq sc (pp + 1) 0) ad bf)) (by rw [hWs])
  exact rw_ir hx hb hr rfl hlocks hS () hP (bI_t (pa_c n158).2).symm dX7_part_188

set_option maxHeartbeats 4000000 in
set_option maxRecDepth 100000 in
theorem m_X7_p1dm (l : Launch) (D : va_G) (cI cS : ClassId) (b : Nat → Nat) (s kp : St) (hf : Nat → St) (sc ad bf : Nat → Int32) (ln : Nat) (hln : ln ≤ 60) (hl0 : sc 2 = nI ln) (pp : Nat) (hp : pp ≤ ln) (T : Int) (hBd : Bd T s) (hT : T ≤ 500000000) (g194 : pp < ln ∧ witB (bf pp) 100 100) (g203 : pp + 1 < ln ∧ witB (bf (pp + 1)) 48 54) (n215 : pp + 2 < ln ∧ witB (bf (pp + 2)) 45 45) (g251 : pp + 3 < ln ∧ witB (bf (pp + 3)) 48 53) (zz : Nat) : Met l yX7_part (.code yX7_part cX7_part 7 (some .boolean) :: wsA) ({ frames := 3, cells := 0, slots := 0, locals := 71 } : Room) (va_Pc [.ref (b 0), .int 1] (PW D cI cS 6 b (emC cI b (mdl s kp hf (pq sc pp 0) ad bf)) zz)) (va_Qi (fun (r : Int32) (u : Unit) => r = bI (partB bf ln pp s)) (BW D 6 b (fun u => emC cI b (mdl (partS bf ln pp s) kp hf (pq sc (pp + 4) 0) ad bf))) (AX 6 b zz)) 0 0 (AX 6 b zz) := by
  refine mgo (by decide) (Nat.le_of_ble_eq_true rfl) ?_
  intro p e z m below meth c hx hb hr hml hown hts hlocks hB ls hl
  obtain ⟨hsz, hP, hK, hE⟩ := hB
  subst hsz
  have hS : va_S (AX 6 b z.heap.size) z.heap z.heap [] := va_S.rf
  have hl : lv_has ls 7 [(0, .ref (b 0)), (1, .int 1)] := hl
  refine lv_aload_n hx hb dX7_part_0 rfl (lv_at hl 0 rfl) ?_
  refine lv_bipush (v := 116) hx hb dX7_part_1 (by decide) ?_
  refine lv_bipush (v := 116) hx hb dX7_part_3 (by decide) ?_
  refine ro_i (va_runV (As := [.int 116, .int 116]) (rest := []) ⟨hx, hb, hml, hown, hts⟩ (m_X7_isNext_f l D cI cS b s kp hf sc ad bf ln (by omega) hl0 pp (by omega) 116 116 (fun q => absurd ((wit1 g194.2).symm.trans (wit1 q.2)) (by decide))) (cwV 2 hts (gV tw918 tw915 tw917 ts38 tw8) rfl rfl rfl (by decide +kernel) ⟨Nat.le_of_ble_eq_true rfl, Nat.le_of_ble_eq_true rfl⟩) (pvR 0 hK hP (by decide) rfl rfl) rfl rfl hl.1 rfl (lv_room (Nat.le_of_ble_eq_true rfl)) dX7_part_5 ⟨Nat.le_of_ble_eq_true rfl, Nat.le_of_ble_eq_true rfl⟩) (fun r2 hr1 => ?_)
  subst hr1
  refine lv_if_eq (tgt := 88) hx hb dX7_part_8 (by decide) (fun _ => ?_) (fun h0 => absurd (by decide) h0)
  refine lv_aload_n hx hb dX7_part_88 rfl (lv_at hl 0 rfl) ?_
  refine lv_bipush (v := 118) hx hb dX7_part_89 (by decide) ?_
  refine lv_bipush (v := 118) hx hb dX7_part_91 (by decide) ?_
  refine ro_i (va_runV (As := [.int 118, .int 118]) (rest := []) ⟨hx, hb, hml, hown, hts⟩ (m_X7_isNext_f l D cI cS b s kp hf sc ad bf ln (by omega) hl0 pp (by omega) 118 118 (fun q => absurd ((wit1 g194.2).symm.trans (wit1 q.2)) (by decide))) (cwV 2 hts (gV tw918 tw915 tw917 ts38 tw8) rfl rfl rfl (by decide +kernel) ⟨Nat.le_of_ble_eq_true rfl, Nat.le_of_ble_eq_true rfl⟩) (pvR 0 hK hP (by decide) rfl rfl) rfl rfl hl.1 rfl (lv_room (Nat.le_of_ble_eq_true rfl)) dX7_part_93 ⟨Nat.le_of_ble_eq_true rfl, Nat.le_of_ble_eq_true rfl⟩) (fun r5 hr4 => ?_)
  subst hr4
  refine lv_if_eq (tgt := 153) hx hb dX7_part_96 (by decide) (fun _ => ?_) (fun h0 => absurd (by decide) h0)
  refine lv_aload_n hx hb dX7_part_153 rfl (lv_at hl 0 rfl) ?_
  refine lv_bipush (v := 99) hx hb dX7_part_154 (by decide) ?_
  refine lv_bipush (v := 99) hx hb dX7_part_156 (by decide) ?_
  refine ro_i (va_runV (As := [.int 99, .int 99]) (rest := []) ⟨hx, hb, hml, hown, hts⟩ (m_X7_isNext_f l D cI cS b s kp hf sc ad bf ln (by omega) hl0 pp (by omega) 99 99 (fun q => absurd ((wit1 g194.2).symm.trans (wit1 q.2)) (by decide))) (cwV 2 hts (gV tw918 tw915 tw917 ts38 tw8) rfl rfl rfl (by decide +kernel) ⟨Nat.le_of_ble_eq_true rfl, Nat.le_of_ble_eq_true rfl⟩) (pvR 0 hK hP (by decide) rfl rfl) rfl rfl hl.1 rfl (lv_room (Nat.le_of_ble_eq_true rfl)) dX7_part_158 ⟨Nat.le_of_ble_eq_true rfl, Nat.le_of_ble_eq_true rfl⟩) (fun r8 hr7 => ?_)
  subst hr7
  refine lv_if_eq (tgt := 189) hx hb dX7_part_161 (by decide) (fun _ => ?_) (fun h0 => absurd (by decide) h0)
  refine lv_aload_n hx hb dX7_part_189 rfl (lv_at hl 0 rfl) ?_
  refine lv_bipush (v := 100) hx hb dX7_part_190 (by decide) ?_
  refine lv_bipush (v := 100) hx hb dX7_part_192 (by decide) ?_
  refine rw_i hS (va_runV (As := [.int 100, .int 100]) (rest := []) ⟨hx, hb, hml, hown, hts⟩ (m_X7_sign_ok l D cI cS b s kp hf sc ad bf ln (by omega) hl0 pp (by omega) 100 100 g194 _) (cwV 2 hts (gV tw922 tw919 tw921 ts39 tw8) rfl rfl rfl (by decide +kernel) ⟨Nat.le_of_ble_eq_true rfl, Nat.le_of_ble_eq_true rfl⟩) (pvW 0 hK hP hE (by decide) rfl rfl) rfl rfl hl.1 rfl (lv_room (Nat.le_of_ble_eq_true rfl)) dX7_part_194 ⟨Nat.le_of_ble_eq_true rfl, Nat.le_of_ble_eq_true rfl⟩) (fun r11 u12 H locs hr10 hP hS => ?_)
  subst hr10
  refine lv_istore_n (lv' := [(2, .int (bf pp)), (0, .ref (b 0)), (1, .int 1)]) hx hb dX7_part_197 rfl hl (by decide) rfl (fun ls hl => ?_)
  refine lv_aload_n hx hb dX7_part_198 rfl (lv_at hl 1 rfl) ?_
  refine lv_bipush (v := 48) hx hb dX7_part_199 (by decide) ?_
  refine lv_bipush (v := 54) hx hb dX7_part_201 (by decide) ?_
  refine rw_i hS (va_runV (As := [.int 48, .int 54]) (rest := []) ⟨hx, hb, hml, hown, hts⟩ (m_X7_sign_ok l D cI cS b s kp hf sc ad bf ln (by omega) hl0 (pp + 1) (by omega) 48 54 g203 _) (cwV 2 hts (gV tw922 tw919 tw921 ts39 tw8) rfl rfl rfl (by decide +kernel) ⟨Nat.le_of_ble_eq_true rfl, Nat.le_of_ble_eq_true rfl⟩) (pvW 0 hK hP hE (by decide) rfl rfl) rfl rfl hl.1 rfl (lv_room (Nat.le_of_ble_eq_true rfl)) dX7_part_203 ⟨Nat.le_of_ble_eq_true rfl, Nat.le_of_ble_eq_true rfl⟩) (fun r14 u15 H locs hr13 hP hS => ?_)
  subst hr13
  refine lv_bipush (v := 48) hx hb dX7_part_206 (by decide) ?_
  refine lv_isub hx hb dX7_part_208 ?_
  obtain ⟨d9, hd9, hd8⟩ := dg_7 g203.2
  refine lv_as (y := nI d9) hd8 ?_
  refine lv_istore_n (lv' := [(3, .int (nI d9)), (2, .int (bf pp)), (0, .ref (b 0)), (1, .int 1)]) hx hb dX7_part_209 rfl hl (by decide) rfl (fun ls hl => ?_)
  refine lv_aload_n hx hb dX7_part_210 rfl (lv_at hl 2 rfl) ?_
  refine lv_bipush (v := 45) hx hb dX7_part_211 (by decide) ?_
  refine lv_bipush (v := 45) hx hb dX7_part_213 (by decide) ?_
  refine ro_i (va_runV (As := [.int 45, .int 45]) (rest := []) ⟨hx, hb, hml, hown, hts⟩ (m_X7_isNext_t l D cI cS b s kp hf sc ad bf ln (by omega) hl0 (pp + 2) (by omega) 45 45 n215) (cwV 2 hts (gV tw918 tw915 tw917 ts38 tw8) rfl rfl rfl (by decide +kernel) ⟨Nat.le_of_ble_eq_true rfl, Nat.le_of_ble_eq_true rfl⟩) (pvR 0 hK hP (by decide) rfl rfl) rfl rfl hl.1 rfl (lv_room (Nat.le_of_ble_eq_true rfl)) dX7_part_215 ⟨Nat.le_of_ble_eq_true rfl, Nat.le_of_ble_eq_true rfl⟩) (fun r17 hr16 => ?_)
  subst hr16
  refine lv_istore (lv' := [(4, .int 1), (3, .int (nI d9)), (2, .int (bf pp)), (0, .ref (b 0)), (1, .int 1)]) hx hb dX7_part_218 hl (by decide) rfl (fun ls hl => ?_)
  refine lv_iload hx hb dX7_part_220 (lv_at hl 0 rfl) ?_
  refine lv_if_eq (tgt := 236) hx hb dX7_part_222 (by decide) (fun h0 => absurd h0 (by decide)) (fun _ => ?_)
  refine lv_aload_n hx hb dX7_part_225 rfl (lv_at hl 3 rfl) ?_
  refine lv_bipush (v := 45) hx hb dX7_part_226 (by decide) ?_
  refine lv_bipush (v := 45) hx hb dX7_part_228 (by decide) ?_
  refine rw_i hS (va_runV (As := [.int 45, .int 45]) (rest := []) ⟨hx, hb, hml, hown, hts⟩ (m_X7_sign_ok l D cI cS b s kp hf sc ad bf ln (by omega) hl0 (pp + 2) (by omega) 45 45 n215 _) (cwV 2 hts (gV tw922 tw919 tw921 ts39 tw8) rfl rfl rfl (by decide +kernel) ⟨Nat.le_of_ble_eq_true rfl, Nat.le_of_ble_eq_true rfl⟩) (pvW 0 hK hP hE (by decide) rfl rfl) rfl rfl hl.1 rfl (lv_room (Nat.le_of_ble_eq_true rfl)) dX7_part_230 ⟨Nat.le_of_ble_eq_true rfl, Nat.le_of_ble_eq_true rfl⟩) (fun r20 u21 H locs hr19 hP hS => ?_)
  subst hr19
  refine lv_goto (tgt := 244) hx hb dX7_part_233 (by decide) ?_
  refine lv_istore (lv' := [(5, .int (bf (pp + 2))), (4, .int 1), (3, .int (nI d9)), (2, .int (bf pp)), (0, .ref (b 0)), (1, .int 1)]) hx hb dX7_part_244 hl (by decide) rfl (fun ls hl => ?_)
  refine lv_aload_n hx hb dX7_part_246 rfl (lv_at hl 4 rfl) ?_
  refine lv_bipush (v := 48) hx hb dX7_part_247 (by decide) ?_
  refine lv_bipush (v := 53) hx hb dX7_part_249 (by decide) ?_
  refine rw_i hS (va_runV (As := [.int 48, .int 53]) (rest := []) ⟨hx, hb, hml, hown, hts⟩ (m_X7_sign_ok l D cI cS b s kp hf sc ad bf ln (by omega) hl0 (pp + 3) (by omega) 48 53 g251 _) (cwV 2 hts (gV tw922 tw919 tw921 ts39 tw8) rfl rfl rfl (by decide +kernel) ⟨Nat.le_of_ble_eq_true rfl, Nat.le_of_ble_eq_true rfl⟩) (pvW 0 hK hP hE (by decide) rfl rfl) rfl rfl hl.1 rfl (lv_room (Nat.le_of_ble_eq_true rfl)) dX7_part_251 ⟨Nat.le_of_ble_eq_true rfl, Nat.le_of_ble_eq_true rfl⟩) (fun r23 u24 H locs hr22 hP hS => ?_)
  subst hr22
  refine lv_bipush (v := 48) hx hb dX7_part_254 (by decide) ?_
  refine lv_isub hx hb dX7_part_256 ?_
  refine lv_istore (lv' := [(6, .int ((bf (pp + 3)) - 48)), (5, .int (bf (pp + 2))), (4, .int 1), (3, .int (nI d9)), (2, .int (bf pp)), (0, .ref (b 0)), (1, .int 1)]) hx hb dX7_part_257 hl (by decide) rfl (fun ls hl => ?_)
  refine lv_iload_n hx hb dX7_part_259 rfl (lv_at hl 6 rfl) ?_
  refine lv_if_eq (tgt := 285) hx hb dX7_part_260 (by decide) (fun h0 => absurd h0 (by decide)) (fun _ => ?_)
  refine lv_aload_n hx hb dX7_part_263 rfl (lv_at hl 5 rfl) ?_
  refine g_get hx hb hts hown inA7 hK hP 0 (by decide) rfl rfl 0 (by decide) tw760 rfl (v := .ref (b 1)) rfl dX7_part_264 ?_
  refine lv_bipush (v := 13) hx hb dX7_part_267 (by decide) ?_
  refine lv_iload_n hx hb dX7_part_269 rfl (lv_at hl 3 rfl) ?_
  refine lv_iadd hx hb dX7_part_270 ?_
  refine lv_as (y := nI (13 + d9)) (nI_add2 (p := 13) (q := d9) rfl rfl) ?_
  refine lv_iload hx hb dX7_part_271 (lv_at hl 2 rfl) ?_
  refine lv_if_eq (tgt := 282) hx hb dX7_part_273 (by decide) (fun h0 => absurd h0 (by decide)) (fun _ => ?_)
  refine lv_iload hx hb dX7_part_276 (lv_at hl 0 rfl) ?_
  refine lv_ineg hx hb dX7_part_278 ?_
  refine lv_goto (tgt := 284) hx hb dX7_part_279 (by decide) ?_
  refine g_iast hx hb hK hP hE hS 1 (by decide) rfl (13 + d9) rfl (by omega) (by omega) dX7_part_284 (ex' := emC cI b (mdl (up2 s 2 d9 (-((bf (pp + 3)) - 48))) kp hf (pq sc (pp + 4) 0) ad bf)) (fl_e (fl_s2 (d := d9) (by omega))) mm_s (fun H locs hP hS => ?_)
  refine lv_iconst (v := 1) hx hb dX7_part_285 (by decide) ?_
  have hWs : (partS bf ln pp s) = (up2 s 2 d9 (-((bf (pp + 3)) - 48))) := by exact (pa_d g194 hd9 g203.1 hd8).1.trans (by rw [dr_m n215 g251.1])
  have hP := hP.cast (e' := emC cI b (mdl (partS bf ln pp s) kp hf (pq sc (pp + 4) 0) ad bf)) (by rw [hWs])
  exact rw_ir hx hb hr rfl hlocks hS () hP (bI_t (pa_d g194 hd9 g203.1 hd8).2).symm dX7_part_286

set_option maxHeartbeats 4000000 in
set_option maxRecDepth 100000 in
theorem m_X7_p1dp (l : Launch) (D : va_G) (cI cS : ClassId) (b : Nat → Nat) (s kp : St) (hf : Nat → St) (sc ad bf : Nat → Int32) (ln : Nat) (hln : ln ≤ 60) (hl0 : sc 2 = nI ln) (pp : Nat) (hp : pp ≤ ln) (T : Int) (hBd : Bd T s) (hT : T ≤ 500000000) (g194 : pp < ln ∧ witB (bf pp) 100 100) (g203 : pp + 1 < ln ∧ witB (bf (pp + 1)) 48 54) (g241 : pp + 2 < ln ∧ witB (bf (pp + 2)) 43 43) (g251 : pp + 3 < ln ∧ witB (bf (pp + 3)) 48 53) (zz : Nat) : Met l yX7_part (.code yX7_part cX7_part 7 (some .boolean) :: wsA) ({ frames := 3, cells := 0, slots := 0, locals := 71 } : Room) (va_Pc [.ref (b 0), .int 1] (PW D cI cS 6 b (emC cI b (mdl s kp hf (pq sc pp 0) ad bf)) zz)) (va_Qi (fun (r : Int32) (u : Unit) => r = bI (partB bf ln pp s)) (BW D 6 b (fun u => emC cI b (mdl (partS bf ln pp s) kp hf (pq sc (pp + 4) 0) ad bf))) (AX 6 b zz)) 0 0 (AX 6 b zz) := by
  refine mgo (by decide) (Nat.le_of_ble_eq_true rfl) ?_
  intro p e z m below meth c hx hb hr hml hown hts hlocks hB ls hl
  obtain ⟨hsz, hP, hK, hE⟩ := hB
  subst hsz
  have hS : va_S (AX 6 b z.heap.size) z.heap z.heap [] := va_S.rf
  have hl : lv_has ls 7 [(0, .ref (b 0)), (1, .int 1)] := hl
  refine lv_aload_n hx hb dX7_part_0 rfl (lv_at hl 0 rfl) ?_
  refine lv_bipush (v := 116) hx hb dX7_part_1 (by decide) ?_
  refine lv_bipush (v := 116) hx hb dX7_part_3 (by decide) ?_
  refine ro_i (va_runV (As := [.int 116, .int 116]) (rest := []) ⟨hx, hb, hml, hown, hts⟩ (m_X7_isNext_f l D cI cS b s kp hf sc ad bf ln (by omega) hl0 pp (by omega) 116 116 (fun q => absurd ((wit1 g194.2).symm.trans (wit1 q.2)) (by decide))) (cwV 2 hts (gV tw918 tw915 tw917 ts38 tw8) rfl rfl rfl (by decide +kernel) ⟨Nat.le_of_ble_eq_true rfl, Nat.le_of_ble_eq_true rfl⟩) (pvR 0 hK hP (by decide) rfl rfl) rfl rfl hl.1 rfl (lv_room (Nat.le_of_ble_eq_true rfl)) dX7_part_5 ⟨Nat.le_of_ble_eq_true rfl, Nat.le_of_ble_eq_true rfl⟩) (fun r2 hr1 => ?_)
  subst hr1
  refine lv_if_eq (tgt := 88) hx hb dX7_part_8 (by decide) (fun _ => ?_) (fun h0 => absurd (by decide) h0)
  refine lv_aload_n hx hb dX7_part_88 rfl (lv_at hl 0 rfl) ?_
  refine lv_bipush (v := 118) hx hb dX7_part_89 (by decide) ?_
  refine lv_bipush (v := 118) hx hb dX7_part_91 (by decide) ?_
  refine ro_i (va_runV (As := [.int 118, .int 118]) (rest := []) ⟨hx, hb, hml, hown, hts⟩ (m_X7_isNext_f l D cI cS b s kp hf sc ad bf ln (by omega) hl0 pp (by omega) 118 118 (fun q => absurd ((wit1 g194.2).symm.trans (wit1 q.2)) (by decide))) (cwV 2 hts (gV tw918 tw915 tw917 ts38 tw8) rfl rfl rfl (by decide +kernel) ⟨Nat.le_of_ble_eq_true rfl, Nat.le_of_ble_eq_true rfl⟩) (pvR 0 hK hP (by decide) rfl rfl) rfl rfl hl.1 rfl (lv_room (Nat.le_of_ble_eq_true rfl)) dX7_part_93 ⟨Nat.le_of_ble_eq_true rfl, Nat.le_of_ble_eq_true rfl⟩) (fun r5 hr4 => ?_)
  subst hr4
  refine lv_if_eq (tgt := 153) hx hb dX7_part_96 (by decide) (fun _ => ?_) (fun h0 => absurd (by decide) h0)
  refine lv_aload_n hx hb dX7_part_153 rfl (lv_at hl 0 rfl) ?_
  refine lv_bipush (v := 99) hx hb dX7_part_154 (by decide) ?_
  refine lv_bipush (v := 99) hx hb dX7_part_156 (by decide) ?_
  refine ro_i (va_runV (As := [.int 99, .int 99]) (rest := []) ⟨hx, hb, hml, hown, hts⟩ (m_X7_isNext_f l D cI cS b s kp hf sc ad bf ln (by omega) hl0 pp (by omega) 99 99 (fun q => absurd ((wit1 g194.2).symm.trans (wit1 q.2)) (by decide))) (cwV 2 hts (gV tw918 tw915 tw917 ts38 tw8) rfl rfl rfl (by decide +kernel) ⟨Nat.le_of_ble_eq_true rfl, Nat.le_of_ble_eq_true rfl⟩) (pvR 0 hK hP (by decide) rfl rfl) rfl rfl hl.1 rfl (lv_room (Nat.le_of_ble_eq_true rfl)) dX7_part_158 ⟨Nat.le_of_ble_eq_true rfl, Nat.le_of_ble_eq_true rfl⟩) (fun r8 hr7 => ?_)
  subst hr7
  refine lv_if_eq (tgt := 189) hx hb dX7_part_161 (by decide) (fun _ => ?_) (fun h0 => absurd (by decide) h0)
  refine lv_aload_n hx hb dX7_part_189 rfl (lv_at hl 0 rfl) ?_
  refine lv_bipush (v := 100) hx hb dX7_part_190 (by decide) ?_
  refine lv_bipush (v := 100) hx hb dX7_part_192 (by decide) ?_
  refine rw_i hS (va_runV (As := [.int 100, .int 100]) (rest := []) ⟨hx, hb, hml, hown, hts⟩ (m_X7_sign_ok l D cI cS b s kp hf sc ad bf ln (by omega) hl0 pp (by omega) 100 100 g194 _) (cwV 2 hts (gV tw922 tw919 tw921 ts39 tw8) rfl rfl rfl (by decide +kernel) ⟨Nat.le_of_ble_eq_true rfl, Nat.le_of_ble_eq_true rfl⟩) (pvW 0 hK hP hE (by decide) rfl rfl) rfl rfl hl.1 rfl (lv_room (Nat.le_of_ble_eq_true rfl)) dX7_part_194 ⟨Nat.le_of_ble_eq_true rfl, Nat.le_of_ble_eq_true rfl⟩) (fun r11 u12 H locs hr10 hP hS => ?_)
  subst hr10
  refine lv_istore_n (lv' := [(2, .int (bf pp)), (0, .ref (b 0)), (1, .int 1)]) hx hb dX7_part_197 rfl hl (by decide) rfl (fun ls hl => ?_)
  refine lv_aload_n hx hb dX7_part_198 rfl (lv_at hl 1 rfl) ?_
  refine lv_bipush (v := 48) hx hb dX7_part_199 (by decide) ?_
  refine lv_bipush (v := 54) hx hb dX7_part_201 (by decide) ?_
  refine rw_i hS (va_runV (As := [.int 48, .int 54]) (rest := []) ⟨hx, hb, hml, hown, hts⟩ (m_X7_sign_ok l D cI cS b s kp hf sc ad bf ln (by omega) hl0 (pp + 1) (by omega) 48 54 g203 _) (cwV 2 hts (gV tw922 tw919 tw921 ts39 tw8) rfl rfl rfl (by decide +kernel) ⟨Nat.le_of_ble_eq_true rfl, Nat.le_of_ble_eq_true rfl⟩) (pvW 0 hK hP hE (by decide) rfl rfl) rfl rfl hl.1 rfl (lv_room (Nat.le_of_ble_eq_true rfl)) dX7_part_203 ⟨Nat.le_of_ble_eq_true rfl, Nat.le_of_ble_eq_true rfl⟩) (fun r14 u15 H locs hr13 hP hS => ?_)
  subst hr13
  refine lv_bipush (v := 48) hx hb dX7_part_206 (by decide) ?_
  refine lv_isub hx hb dX7_part_208 ?_
  obtain ⟨d9, hd9, hd8⟩ := dg_7 g203.2
  refine lv_as (y := nI d9) hd8 ?_
  refine lv_istore_n (lv' := [(3, .int (nI d9)), (2, .int (bf pp)), (0, .ref (b 0)), (1, .int 1)]) hx hb dX7_part_209 rfl hl (by decide) rfl (fun ls hl => ?_)
  refine lv_aload_n hx hb dX7_part_210 rfl (lv_at hl 2 rfl) ?_
  refine lv_bipush (v := 45) hx hb dX7_part_211 (by decide) ?_
  refine lv_bipush (v := 45) hx hb dX7_part_213 (by decide) ?_
  refine ro_i (va_runV (As := [.int 45, .int 45]) (rest := []) ⟨hx, hb, hml, hown, hts⟩ (m_X7_isNext_f l D cI cS b s kp hf sc ad bf ln (by omega) hl0 (pp + 2) (by omega) 45 45 (fun q => absurd ((wit1 g241.2).symm.trans (wit1 q.2)) (by decide))) (cwV 2 hts (gV tw918 tw915 tw917 ts38 tw8) rfl rfl rfl (by decide +kernel) ⟨Nat.le_of_ble_eq_true rfl, Nat.le_of_ble_eq_true rfl⟩) (pvR 0 hK hP (by decide) rfl rfl) rfl rfl hl.1 rfl (lv_room (Nat.le_of_ble_eq_true rfl)) dX7_part_215 ⟨Nat.le_of_ble_eq_true rfl, Nat.le_of_ble_eq_true rfl⟩) (fun r17 hr16 => ?_)
  subst hr16
  refine lv_istore (lv' := [(4, .int 0), (3, .int (nI d9)), (2, .int (bf pp)), (0, .ref (b 0)), (1, .int 1)]) hx hb dX7_part_218 hl (by decide) rfl (fun ls hl => ?_)
  refine lv_iload hx hb dX7_part_220 (lv_at hl 0 rfl) ?_
  refine lv_if_eq (tgt := 236) hx hb dX7_part_222 (by decide) (fun _ => ?_) (fun h0 => absurd (by decide) h0)
  refine lv_aload_n hx hb dX7_part_236 rfl (lv_at hl 3 rfl) ?_
  refine lv_bipush (v := 43) hx hb dX7_part_237 (by decide) ?_
  refine lv_bipush (v := 43) hx hb dX7_part_239 (by decide) ?_
  refine rw_i hS (va_runV (As := [.int 43, .int 43]) (rest := []) ⟨hx, hb, hml, hown, hts⟩ (m_X7_sign_ok l D cI cS b s kp hf sc ad bf ln (by omega) hl0 (pp + 2) (by omega) 43 43 g241 _) (cwV 2 hts (gV tw922 tw919 tw921 ts39 tw8) rfl rfl rfl (by decide +kernel) ⟨Nat.le_of_ble_eq_true rfl, Nat.le_of_ble_eq_true rfl⟩) (pvW 0 hK hP hE (by decide) rfl rfl) rfl rfl hl.1 rfl (lv_room (Nat.le_of_ble_eq_true rfl)) dX7_part_241 ⟨Nat.le_of_ble_eq_true rfl, Nat.le_of_ble_eq_true rfl⟩) (fun r20 u21 H locs hr19 hP hS => ?_)
  subst hr19
  refine lv_istore (lv' := [(5, .int (bf (pp + 2))), (4, .int 0), (3, .int (nI d9)), (2, .int (bf pp)), (0, .ref (b 0)), (1, .int 1)]) hx hb dX7_part_244 hl (by decide) rfl (fun ls hl => ?_)
  refine lv_aload_n hx hb dX7_part_246 rfl (lv_at hl 4 rfl) ?_
  refine lv_bipush (v := 48) hx hb dX7_part_247 (by decide) ?_
  refine lv_bipush (v := 53) hx hb dX7_part_249 (by decide) ?_
  refine rw_i hS (va_runV (As := [.int 48, .int 53]) (rest := []) ⟨hx, hb, hml, hown, hts⟩ (m_X7_sign_ok l D cI cS b s kp hf sc ad bf ln (by omega) hl0 (pp + 3) (by omega) 48 53 g251 _) (cwV 2 hts (gV tw922 tw919 tw921 ts39 tw8) rfl rfl rfl (by decide +kernel) ⟨Nat.le_of_ble_eq_true rfl, Nat.le_of_ble_eq_true rfl⟩) (pvW 0 hK hP hE (by decide) rfl rfl) rfl rfl hl.1 rfl (lv_room (Nat.le_of_ble_eq_true rfl)) dX7_part_251 ⟨Nat.le_of_ble_eq_true rfl, Nat.le_of_ble_eq_true rfl⟩) (fun r23 u24 H locs hr22 hP hS => ?_)
  subst hr22
  refine lv_bipush (v := 48) hx hb dX7_part_254 (by decide) ?_
  refine lv_isub hx hb dX7_part_256 ?_
  refine lv_istore (lv' := [(6, .int ((bf (pp + 3)) - 48)), (5, .int (bf (pp + 2))), (4, .int 0), (3, .int (nI d9)), (2, .int (bf pp)), (0, .ref (b 0)), (1, .int 1)]) hx hb dX7_part_257 hl (by decide) rfl (fun ls hl => ?_)
  refine lv_iload_n hx hb dX7_part_259 rfl (lv_at hl 6 rfl) ?_
  refine lv_if_eq (tgt := 285) hx hb dX7_part_260 (by decide) (fun h0 => absurd h0 (by decide)) (fun _ => ?_)
  refine lv_aload_n hx hb dX7_part_263 rfl (lv_at hl 5 rfl) ?_
  refine g_get hx hb hts hown inA7 hK hP 0 (by decide) rfl rfl 0 (by decide) tw760 rfl (v := .ref (b 1)) rfl dX7_part_264 ?_
  refine lv_bipush (v := 13) hx hb dX7_part_267 (by decide) ?_
  refine lv_iload_n hx hb dX7_part_269 rfl (lv_at hl 3 rfl) ?_
  refine lv_iadd hx hb dX7_part_270 ?_
  refine lv_as (y := nI (13 + d9)) (nI_add2 (p := 13) (q := d9) rfl rfl) ?_
  refine lv_iload hx hb dX7_part_271 (lv_at hl 2 rfl) ?_
  refine lv_if_eq (tgt := 282) hx hb dX7_part_273 (by decide) (fun _ => ?_) (fun h0 => absurd (by decide) h0)
  refine lv_iload hx hb dX7_part_282 (lv_at hl 0 rfl) ?_
  refine g_iast hx hb hK hP hE hS 1 (by decide) rfl (13 + d9) rfl (by omega) (by omega) dX7_part_284 (ex' := emC cI b (mdl (up2 s 2 d9 ((bf (pp + 3)) - 48)) kp hf (pq sc (pp + 4) 0) ad bf)) (fl_e (fl_s2 (d := d9) (by omega))) mm_s (fun H locs hP hS => ?_)
  refine lv_iconst (v := 1) hx hb dX7_part_285 (by decide) ?_
  have hWs : (partS bf ln pp s) = (up2 s 2 d9 ((bf (pp + 3)) - 48)) := by exact (pa_d g194 hd9 g203.1 hd8).1.trans (by rw [dr_p g241 g251.1])
  have hP := hP.cast (e' := emC cI b (mdl (partS bf ln pp s) kp hf (pq sc (pp + 4) 0) ad bf)) (by rw [hWs])
  exact rw_ir hx hb hr rfl hlocks hS () hP (bI_t (pa_d g194 hd9 g203.1 hd8).2).symm dX7_part_286

theorem m_X7_part1 (l : Launch) (D : va_G) (cI cS : ClassId) (b : Nat → Nat) (s kp : St) (hf : Nat → St) (sc ad bf : Nat → Int32) (ln : Nat) (hln : ln ≤ 60) (hl0 : sc 2 = nI ln) (pp : Nat) (hp : pp ≤ ln) (T : Int) (hBd : Bd T s) (hT : T ≤ 500000000) (E9 : Nat) (hPT : PT bf ln pp E9) (zz : Nat) : Met l yX7_part (.code yX7_part cX7_part 7 (some .boolean) :: wsA) ({ frames := 3, cells := 0, slots := 0, locals := 71 } : Room) (va_Pc [.ref (b 0), .int 1] (PW D cI cS 6 b (emC cI b (mdl s kp hf (pq sc pp 0) ad bf)) zz)) (va_Qi (fun (r : Int32) (u : Unit) => r = bI (partB bf ln pp s)) (BW D 6 b (fun u => emC cI b (mdl (partS bf ln pp s) kp hf (pq sc E9 0) ad bf))) (AX 6 b zz)) 0 0 (AX 6 b zz) := by
  rcases hPT with ⟨a1, a2, a3, rfl⟩ | ⟨a1, a2, a3, rfl⟩ | ⟨a1, rfl⟩ | ⟨a1, rfl⟩ | ⟨a1, a2, a3, a4, rfl⟩ | ⟨a1, a2, a3, a4, rfl⟩
  · exact m_X7_p1t1 l D cI cS b s kp hf sc ad bf ln hln hl0 pp hp T hBd hT a1 a2 a3 zz
  · exact m_X7_p1t2 l D cI cS b s kp hf sc ad bf ln hln hl0 pp hp T hBd hT a1 a2 a3 zz
  · by_cases hw0 : sumN (s 7) 7 = 0
    · exact m_X7_p1v0 l D cI cS b s kp hf sc ad bf ln hln hl0 pp hp T hBd hT a1 hw0 zz
    · exact m_X7_p1v1 l D cI cS b s kp hf sc ad bf ln hln hl0 pp hp T hBd hT a1 hw0 zz
  · exact m_X7_p1c l D cI cS b s kp hf sc ad bf ln hln hl0 pp hp T hBd hT a1 zz
  · exact m_X7_p1dm l D cI cS b s kp hf sc ad bf ln hln hl0 pp hp T hBd hT a1 a2 a3 a4 zz
  · exact m_X7_p1dp l D cI cS b s kp hf sc ad bf ln hln hl0 pp hp T hBd hT a1 a2 a3 a4 zz
