theorem ptA_add {s : St} {x : Int32} : ∀ n, ptA n s x = x + ptA n s 0
  | 0 => (Int32.add_zero x).symm
  | n + 1 => by
    show ptA n s x + ptR (ptN n s) n = x + (ptA n s 0 + ptR (ptN n s) n)
    rw [ptA_add n, Int32.add_assoc]
def riI (s : St) (d : Nat) : Int32 := if s 1 d < s 0 1 - s 10 1 then s 0 1 - s 10 1 else if s 0 1 + s 10 1 < s 1 d then s 0 1 + s 10 1 else s 1 d
theorem ri_t {T : Int} {s : St} (h : Bd T s) : (s 0 1 - s 10 1).toInt = (s 0 1).toInt - (s 10 1).toInt ∧ (s 0 1 + s 10 1).toInt = (s 0 1).toInt + (s 10 1).toInt := by
  have h1 := h.2.1
  have h2 := h.2.2.1 1 (by omega)
  exact ⟨i_sub (by omega) (by omega), i_add (by omega) (by omega)⟩
theorem off_i {T : Int} {s : St} {d : Nat} (h : Bd T s) (hd : d < 7) : offB s d ↔ (s 1 d).toInt < (s 0 1).toInt - (s 10 1).toInt ∨ (s 0 1).toInt + (s 10 1).toInt < (s 1 d).toInt := by
  have hb := h.1 d hd
  have h1 := h.2.1
  have h2 := h.2.2.1 1 (by omega)
  have e1 : (s 0 1 - s 1 d).toInt = (s 0 1).toInt - (s 1 d).toInt := i_sub (by omega) (by omega)
  have e2 : (s 1 d - s 0 1).toInt = (s 1 d).toInt - (s 0 1).toInt := i_sub (by omega) (by omega)
  unfold offB distI
  by_cases h3 : s 1 d < s 0 1
  · rw [if_pos h3, i_lt, e1]
    rw [i_lt] at h3
    omega
  · rw [if_neg h3, i_lt, e2]
    rw [i_lt] at h3
    omega
theorem ri_eq {T : Int} {s : St} {d : Nat} (h : Bd T s) (hd : d < 7) : riI s d = if offB s d then nearI s d else s 1 d := by
  have hb := h.1 d hd
  have h1 := h.2.1
  have h2 := h.2.2.1 1 (by omega)
  have ht := ri_t h
  have ho := off_i h hd
  unfold riI nearI
  by_cases h3 : s 1 d < s 0 1 - s 10 1
  · have h3' := i_lt.mp h3
    rw [ht.1] at h3'
    rw [if_pos h3, if_pos (ho.mpr (Or.inl h3')), if_pos (i_lt.mpr (by omega))]
  · have h3' : ¬ (s 1 d).toInt < (s 0 1).toInt - (s 10 1).toInt := fun q => h3 (i_lt.mpr (by rw [ht.1]; exact q))
    rw [if_neg h3]
    by_cases h4 : s 0 1 + s 10 1 < s 1 d
    · have h4' := i_lt.mp h4
      rw [ht.2] at h4'
      rw [if_pos h4, if_pos (ho.mpr (Or.inr h4')), if_neg (fun q => by have := i_lt.mp q; omega)]
    · have h4' : ¬ (s 0 1).toInt + (s 10 1).toInt < (s 1 d).toInt := fun q => h4 (i_lt.mpr (by rw [ht.2]; exact q))
      rw [if_neg h4, if_neg (fun q => (ho.mp q).elim h3' h4')]
theorem ri_ok {T : Int} {s : St} {d : Nat} (h : Bd T s) (hd : d < 7) : 0 ≤ (riI s d).toInt ∧ (riI s d).toInt ≤ 99999 := by
  have hb := h.1 d hd
  have h1 := h.2.1
  have h2 := h.2.2.1 1 (by omega)
  have ht := ri_t h
  unfold riI
  split
  · rename_i h3
    rw [i_lt, ht.1] at h3
    rw [ht.1]; omega
  · split
    · rename_i h3
      rw [i_lt, ht.2] at h3
      rw [ht.2]; omega
    · omega
theorem ri_off {T : Int} {s : St} {d : Nat} (h : Bd T s) (hd : d < 7) : riI s d = s 1 d ↔ ¬ offB s d := by
  have hb := h.1 d hd
  have h1 := h.2.1
  have h2 := h.2.2.1 1 (by omega)
  have ht := ri_t h
  have ho := off_i h hd
  constructor
  · intro e q
    have q' := ho.mp q
    have e' := i_eq.mp e
    unfold riI at e'
    rcases q' with q' | q'
    · rw [if_pos (i_lt.mpr (by rw [ht.1]; exact q')), ht.1] at e'
      omega
    · rw [if_neg (fun q9 => by have := i_lt.mp q9; rw [ht.1] at this; omega), if_pos (i_lt.mpr (by rw [ht.2]; exact q')), ht.2] at e'
      omega
  · intro q
    rw [ri_eq h hd, if_neg q]
theorem mvS_id {s : St} {d : Nat} : mvS s d (s 1 d) = s := by
  unfold mvS
  rw [if_neg (fun q => by rw [i_lt] at q; omega), Int32.sub_self, Int32.sub_self, up2_same (s := s) (r := 1) (c := d) rfl, up2_add0, up2_add0]
theorem cor_s {T : Int} {s : St} {d : Nat} (h : Bd T s) (hd : d < 7) : mvS s d (riI s d) = if offB s d then mvS s d (nearI s d) else s := by
  rw [ri_eq h hd]
  by_cases q : offB s d
  · rw [if_pos q, if_pos q]
  · rw [if_neg q, if_neg q]; exact mvS_id
theorem cor_a {T : Int} {s : St} {d : Nat} {x : Int32} (h : Bd T s) (hd : d < 7) : x + absI (riI s d - s 1 d) = if offB s d then x + mvR s d (nearI s d) else x := by
  rw [abs_dist (ri_ok h hd).1 (h.1 d hd).1, ri_eq h hd]
  by_cases q : offB s d
  · rw [if_pos q, if_pos q]; unfold distI mvR; rfl
  · rw [if_neg q, if_neg q]
    unfold distI
    rw [if_neg (fun q => by rw [i_lt] at q; omega), Int32.sub_self, Int32.add_zero]
theorem Bd.cor {T : Int} {s : St} {d : Nat} (h : Bd T s) (hd : d < 7) : Bd T (mvS s d (riI s d)) := h.mv hd (ri_ok h hd).1 (ri_ok h hd).2
set_option maxHeartbeats 4000000 in
set_option maxRecDepth 100000 in
theorem m_X7_throwing (l : Launch) (D : va_G) (cI cS : ClassId) (b : Nat → Nat) (s kp : St) (hf : Nat → St) (sc ad bf : Nat → Int32) (x : Int32) (zz : Nat) : Met l yX7_throwing (.code yX7_throwing cX7_throwing 2 (some .int) :: wsA) ({ frames := 0, cells := 0, slots := 0, locals := 0 } : Room) (va_Pc [.ref (b 0), .int x] (PW D cI cS 6 b (emC cI b (mdl s kp hf sc ad bf)) zz)) (va_Qi (fun (r : Int32) (u : Unit) => r = 0) (BW D 6 b (fun u => emC cI b (mdl s kp hf (upd sc 3 x) ad bf))) (AX 6 b zz)) 0 0 (AX 6 b zz) := by
  refine mgo (by decide) (Nat.le_of_ble_eq_true rfl) ?_
  intro p e z m below meth c hx hb hr hml hown hts hlocks hB ls hl
  obtain ⟨hsz, hP, hK, hE⟩ := hB
  subst hsz
  have hS : va_S (AX 6 b z.heap.size) z.heap z.heap [] := va_S.rf
  have hl : lv_has ls 2 [(0, .ref (b 0)), (1, .int x)] := hl
  refine lv_aload_n hx hb dX7_throwing_0 rfl (lv_at hl 0 rfl) ?_
  refine lv_iload_n hx hb dX7_throwing_1 rfl (lv_at hl 1 rfl) ?_
  refine g_put hx hb hts hown inA7 tyX7 tyX7_ok nmX7 hK hP hE hS 0 (by decide) rfl rfl 8 (by decide) tw768 rfl rfl (ty := .int) (by decide +kernel) rfl rfl (Nat.le_of_ble_eq_true rfl) dX7_throwing_2 (ex' := emC cI b (mdl s kp hf (upd sc 3 x) ad bf)) rfl mm_sc (fun H locs hP hS => ?_)
  refine lv_iconst (v := 0) hx hb dX7_throwing_5 (by decide) ?_
  exact rw_ir hx hb hr rfl hlocks hS () hP rfl dX7_throwing_6

set_option maxHeartbeats 4000000 in
set_option maxRecDepth 100000 in
theorem m_X7_in (l : Launch) (x lo hi : Int32) : Met l yX7_in (.code yX7_in cX7_in 3 (some .boolean) :: wsA) ({ frames := 0, cells := 0, slots := 0, locals := 0 } : Room) (va_Pc [.int x, .int lo, .int hi] (fun _ => True)) (vp_Si (fun r => r = bI (witB x lo hi))) 0 0 (fun _ => False) := by
  refine mgo (by decide) (Nat.le_of_ble_eq_true rfl) ?_
  intro p e z m below meth c hx hb hr hml hown hts hlocks hB ls hl
  have hl : lv_has ls 3 [(0, .int x), (1, .int lo), (2, .int hi)] := hl
  refine lv_iload_n hx hb dX7_in_0 rfl (lv_at hl 0 rfl) ?_
  refine lv_iload_n hx hb dX7_in_1 rfl (lv_at hl 1 rfl) ?_
  refine lv_icmp_lt (tgt := 14) hx hb dX7_in_2 (by decide) (fun c1 => ?_) (fun c1 => ?_)
  · skip
    have c1x := Int32.not_le.mpr c1
    refine lv_iconst (v := 0) hx hb dX7_in_14 (by decide) ?_
    exact ro_ir hx hb hr rfl hlocks (bI_f (by first | assumption | simp [witB, c1, c1x])).symm dX7_in_15
  · skip
    have c1x := Int32.not_lt.mp c1
    refine lv_iload_n hx hb dX7_in_5 rfl (lv_at hl 0 rfl) ?_
    refine lv_iload_n hx hb dX7_in_6 rfl (lv_at hl 2 rfl) ?_
    refine lv_icmp_gt (tgt := 14) hx hb dX7_in_7 (by decide) (fun c2 => ?_) (fun c2 => ?_)
    · skip
      have c2x := Int32.not_le.mpr c2
      refine lv_iconst (v := 0) hx hb dX7_in_14 (by decide) ?_
      exact ro_ir hx hb hr rfl hlocks (bI_f (by first | assumption | simp [witB, c1, c1x, c2, c2x])).symm dX7_in_15
    · skip
      have c2x := Int32.not_lt.mp c2
      refine lv_iconst (v := 1) hx hb dX7_in_10 (by decide) ?_
      refine lv_goto (tgt := 15) hx hb dX7_in_11 (by decide) ?_
      exact ro_ir hx hb hr rfl hlocks (bI_t (by first | assumption | simp [witB, c1, c1x, c2, c2x])).symm dX7_in_15

set_option maxHeartbeats 4000000 in
set_option maxRecDepth 100000 in
theorem m_X7_isDial (l : Launch) (x : Int32) : Met l yX7_isDial (.code yX7_isDial cX7_isDial 1 (some .boolean) :: wsA) ({ frames := 1, cells := 0, slots := 0, locals := 22 } : Room) (va_Pc [.int x] (fun _ => True)) (vp_Si (fun r => r = bI (witB x 0 6))) 0 0 (fun _ => False) := by
  refine mgo (by decide) (Nat.le_of_ble_eq_true rfl) ?_
  intro p e z m below meth c hx hb hr hml hown hts hlocks hB ls hl
  have hl : lv_has ls 1 [(0, .int x)] := hl
  refine lv_iload_n hx hb dX7_isDial_0 rfl (lv_at hl 0 rfl) ?_
  refine lv_iconst (v := 0) hx hb dX7_isDial_1 (by decide) ?_
  refine lv_bipush (v := 6) hx hb dX7_isDial_2 (by decide) ?_
  refine ro_i (va_runS (As := [.int x, .int 0, .int 6]) (rest := []) ⟨hx, hb, hml, hown, hts⟩ (m_X7_in l x 0 6) (va_cwS 3 hts (gS tw804 tw802 tw803 tw8) rfl rfl rfl (by decide +kernel) ⟨Nat.le_of_ble_eq_true rfl, Nat.le_of_ble_eq_true rfl⟩) ps0 rfl rfl hl.1 rfl (lv_room (Nat.le_of_ble_eq_true rfl)) dX7_isDial_4 ⟨Nat.le_of_ble_eq_true rfl, Nat.le_of_ble_eq_true rfl⟩) (fun r2 hr1 => ?_)
  subst hr1
  refine lv_bI (fun c4 => ?_) (fun c4 => ?_)
  · skip
    exact ro_ir hx hb hr rfl hlocks (bI_t c4).symm dX7_isDial_7
  · skip
    exact ro_ir hx hb hr rfl hlocks (bI_f c4).symm dX7_isDial_7

set_option maxHeartbeats 4000000 in
set_option maxRecDepth 100000 in
theorem m_X7_size (l : Launch) (x : Int32) : Met l yX7_size (.code yX7_size cX7_size 1 (some .int) :: wsA) ({ frames := 0, cells := 0, slots := 0, locals := 0 } : Room) (va_Pc [.int x] (fun _ => True)) (vp_Si (fun r => r = absI x)) 0 0 (fun _ => False) := by
  refine mgo (by decide) (Nat.le_of_ble_eq_true rfl) ?_
  intro p e z m below meth c hx hb hr hml hown hts hlocks hB ls hl
  have hl : lv_has ls 1 [(0, .int x)] := hl
  refine lv_iload_n hx hb dX7_size_0 rfl (lv_at hl 0 rfl) ?_
  refine lv_if_ge (tgt := 9) hx hb dX7_size_1 (by decide) (fun c1 => ?_) (fun c1 => ?_)
  · skip
    have c1x := Int32.not_lt.mpr c1
    refine lv_iload_n hx hb dX7_size_9 rfl (lv_at hl 0 rfl) ?_
    exact ro_ir hx hb hr rfl hlocks (by unfold absI; rw [if_pos c1]) dX7_size_10
  · skip
    have c1x := Int32.not_le.mp c1
    refine lv_iload_n hx hb dX7_size_4 rfl (lv_at hl 0 rfl) ?_
    refine lv_ineg hx hb dX7_size_5 ?_
    refine lv_goto (tgt := 10) hx hb dX7_size_6 (by decide) ?_
    exact ro_ir hx hb hr rfl hlocks (by unfold absI; rw [if_neg c1]) dX7_size_10

set_option maxHeartbeats 4000000 in
set_option maxRecDepth 100000 in
theorem m_X7_shows (l : Launch) (D : va_G) (cI cS : ClassId) (b : Nat → Nat) (s kp : St) (hf : Nat → St) (sc ad bf : Nat → Int32) (d : Nat) (hd : d < 7) (y : Int32) (zz : Nat) : Met l yX7_shows (.code yX7_shows cX7_shows 5 (some .int) :: wsA) ({ frames := 0, cells := 0, slots := 0, locals := 0 } : Room) (va_Pc [.ref (b 0), .int (nI d), .int y] (PW D cI cS 6 b (emC cI b (mdl s kp hf sc ad bf)) zz)) (va_Qi (fun (r : Int32) (u : Unit) => r = shF (s 1 d) y) (BW D 6 b (fun u => emC cI b (mdl (up2 (up2 s 1 d y) 6 d (s 6 d + shF (s 1 d) y)) kp hf sc ad bf))) (AX 6 b zz)) 0 0 (AX 6 b zz) := by
  refine mgo (by decide) (Nat.le_of_ble_eq_true rfl) ?_
  intro p e z m below meth c hx hb hr hml hown hts hlocks hB ls hl
  obtain ⟨hsz, hP, hK, hE⟩ := hB
  subst hsz
  have hS : va_S (AX 6 b z.heap.size) z.heap z.heap [] := va_S.rf
  have hl : lv_has ls 5 [(0, .ref (b 0)), (1, .int (nI d)), (2, .int y)] := hl
  refine lv_aload_n hx hb dX7_shows_0 rfl (lv_at hl 0 rfl) ?_
  refine g_get hx hb hts hown inA7 hK hP 0 (by decide) rfl rfl 0 (by decide) tw760 rfl (v := .ref (b 1)) rfl dX7_shows_1 ?_
  refine lv_bipush (v := 6) hx hb dX7_shows_4 (by decide) ?_
  refine lv_iload_n hx hb dX7_shows_6 rfl (lv_at hl 1 rfl) ?_
  refine lv_iadd hx hb dX7_shows_7 ?_
  refine lv_as (y := nI (6 + d)) (nI_add2 (p := 6) (q := d) rfl rfl) ?_
  refine g_iald hx hb hK hP 1 (by decide) rfl (6 + d) rfl (by omega) (by decide) dX7_shows_8 (v := s 1 d) ((fl_g1 (s := s) (d := d) (by omega)).trans rfl) ?_
  refine lv_istore_n (lv' := [(3, .int (s 1 d)), (0, .ref (b 0)), (1, .int (nI d)), (2, .int y)]) hx hb dX7_shows_9 rfl hl (by decide) rfl (fun ls hl => ?_)
  refine lv_iload_n hx hb dX7_shows_10 rfl (lv_at hl 3 rfl) ?_
  refine lv_iload_n hx hb dX7_shows_11 rfl (lv_at hl 0 rfl) ?_
  refine lv_icmp_le (tgt := 27) hx hb dX7_shows_12 (by decide) (fun c1 => ?_) (fun c1 => ?_)
  · skip
    have c1x := Int32.not_lt.mpr c1
    refine lv_iconst (v := 0) hx hb dX7_shows_27 (by decide) ?_
    refine lv_as (y := shF (s 1 d) y) (if_neg c1x).symm ?_
    refine lv_istore (lv' := [(4, .int (shF (s 1 d) y)), (3, .int (s 1 d)), (0, .ref (b 0)), (1, .int (nI d)), (2, .int y)]) hx hb dX7_shows_28 hl (by decide) rfl (fun ls hl => ?_)
    refine lv_aload_n hx hb dX7_shows_30 rfl (lv_at hl 2 rfl) ?_
    refine g_get hx hb hts hown inA7 hK hP 0 (by decide) rfl rfl 0 (by decide) tw760 rfl (v := .ref (b 1)) rfl dX7_shows_31 ?_
    refine lv_bipush (v := 6) hx hb dX7_shows_34 (by decide) ?_
    refine lv_iload_n hx hb dX7_shows_36 rfl (lv_at hl 3 rfl) ?_
    refine lv_iadd hx hb dX7_shows_37 ?_
    refine lv_as (y := nI (6 + d)) (nI_add2 (p := 6) (q := d) rfl rfl) ?_
    refine lv_iload_n hx hb dX7_shows_38 rfl (lv_at hl 4 rfl) ?_
    refine g_iast hx hb hK hP hE hS 1 (by decide) rfl (6 + d) rfl (by omega) (by omega) dX7_shows_39 (ex' := emC cI b (mdl (up2 s 1 d y) kp hf sc ad bf)) (fl_e (fl_s1 (d := d) (by omega))) mm_s (fun H locs hP hS => ?_)
    refine lv_aload_n hx hb dX7_shows_40 rfl (lv_at hl 2 rfl) ?_
    refine g_get hx hb hts hown inA7 hK hP 0 (by decide) rfl rfl 0 (by decide) tw760 rfl (v := .ref (b 1)) rfl dX7_shows_41 ?_
    refine lv_bipush (v := 20) hx hb dX7_shows_44 (by decide) ?_
    refine lv_iload_n hx hb dX7_shows_46 rfl (lv_at hl 3 rfl) ?_
    refine lv_iadd hx hb dX7_shows_47 ?_
    refine lv_as (y := nI (20 + d)) (nI_add2 (p := 20) (q := d) rfl rfl) ?_
    refine lv_dup2_11 hx hb dX7_shows_48 rfl rfl ?_
    refine g_iald hx hb hK hP 1 (by decide) rfl (20 + d) rfl (by omega) (by decide) dX7_shows_49 (v := s 6 d) ((fl_g6 (s := (up2 s 1 d y)) (d := d) (by omega)).trans (by simp [up2, upR, upd])) ?_
    refine lv_iload hx hb dX7_shows_50 (lv_at hl 0 rfl) ?_
    refine lv_iadd hx hb dX7_shows_52 ?_
    refine g_iast hx hb hK hP hE hS 1 (by decide) rfl (20 + d) rfl (by omega) (by omega) dX7_shows_53 (ex' := emC cI b (mdl (up2 (up2 s 1 d y) 6 d ((s 6 d) + (shF (s 1 d) y))) kp hf sc ad bf)) (fl_e (fl_s6 (d := d) (by omega))) mm_s (fun H locs hP hS => ?_)
    refine lv_iload hx hb dX7_shows_54 (lv_at hl 0 rfl) ?_
    exact rw_ir hx hb hr rfl hlocks hS () hP rfl dX7_shows_56
  · skip
    have c1x := Int32.not_le.mp c1
    refine lv_iload_n hx hb dX7_shows_15 rfl (lv_at hl 3 rfl) ?_
    refine lv_bipush (v := 60) hx hb dX7_shows_16 (by decide) ?_
    refine lv_idiv hx hb dX7_shows_18 (by decide) ?_
    refine lv_iload_n hx hb dX7_shows_19 rfl (lv_at hl 0 rfl) ?_
    refine lv_bipush (v := 60) hx hb dX7_shows_20 (by decide) ?_
    refine lv_idiv hx hb dX7_shows_22 (by decide) ?_
    refine lv_isub hx hb dX7_shows_23 ?_
    refine lv_goto (tgt := 28) hx hb dX7_shows_24 (by decide) ?_
    refine lv_as (y := shF (s 1 d) y) (if_pos c1x).symm ?_
    refine lv_istore (lv' := [(4, .int (shF (s 1 d) y)), (3, .int (s 1 d)), (0, .ref (b 0)), (1, .int (nI d)), (2, .int y)]) hx hb dX7_shows_28 hl (by decide) rfl (fun ls hl => ?_)
    refine lv_aload_n hx hb dX7_shows_30 rfl (lv_at hl 2 rfl) ?_
    refine g_get hx hb hts hown inA7 hK hP 0 (by decide) rfl rfl 0 (by decide) tw760 rfl (v := .ref (b 1)) rfl dX7_shows_31 ?_
    refine lv_bipush (v := 6) hx hb dX7_shows_34 (by decide) ?_
    refine lv_iload_n hx hb dX7_shows_36 rfl (lv_at hl 3 rfl) ?_
    refine lv_iadd hx hb dX7_shows_37 ?_
    refine lv_as (y := nI (6 + d)) (nI_add2 (p := 6) (q := d) rfl rfl) ?_
    refine lv_iload_n hx hb dX7_shows_38 rfl (lv_at hl 4 rfl) ?_
    refine g_iast hx hb hK hP hE hS 1 (by decide) rfl (6 + d) rfl (by omega) (by omega) dX7_shows_39 (ex' := emC cI b (mdl (up2 s 1 d y) kp hf sc ad bf)) (fl_e (fl_s1 (d := d) (by omega))) mm_s (fun H locs hP hS => ?_)
    refine lv_aload_n hx hb dX7_shows_40 rfl (lv_at hl 2 rfl) ?_
    refine g_get hx hb hts hown inA7 hK hP 0 (by decide) rfl rfl 0 (by decide) tw760 rfl (v := .ref (b 1)) rfl dX7_shows_41 ?_
    refine lv_bipush (v := 20) hx hb dX7_shows_44 (by decide) ?_
    refine lv_iload_n hx hb dX7_shows_46 rfl (lv_at hl 3 rfl) ?_
    refine lv_iadd hx hb dX7_shows_47 ?_
    refine lv_as (y := nI (20 + d)) (nI_add2 (p := 20) (q := d) rfl rfl) ?_
    refine lv_dup2_11 hx hb dX7_shows_48 rfl rfl ?_
    refine g_iald hx hb hK hP 1 (by decide) rfl (20 + d) rfl (by omega) (by decide) dX7_shows_49 (v := s 6 d) ((fl_g6 (s := (up2 s 1 d y)) (d := d) (by omega)).trans (by simp [up2, upR, upd])) ?_
    refine lv_iload hx hb dX7_shows_50 (lv_at hl 0 rfl) ?_
    refine lv_iadd hx hb dX7_shows_52 ?_
    refine g_iast hx hb hK hP hE hS 1 (by decide) rfl (20 + d) rfl (by omega) (by omega) dX7_shows_53 (ex' := emC cI b (mdl (up2 (up2 s 1 d y) 6 d ((s 6 d) + (shF (s 1 d) y))) kp hf sc ad bf)) (fl_e (fl_s6 (d := d) (by omega))) mm_s (fun H locs hP hS => ?_)
    refine lv_iload hx hb dX7_shows_54 (lv_at hl 0 rfl) ?_
    exact rw_ir hx hb hr rfl hlocks hS () hP rfl dX7_shows_56

set_option maxHeartbeats 4000000 in
set_option maxRecDepth 100000 in
theorem m_X7_moves (l : Launch) (D : va_G) (cI cS : ClassId) (b : Nat → Nat) (s kp : St) (hf : Nat → St) (sc ad bf : Nat → Int32) (d : Nat) (hd : d < 7) (y : Int32) (zz : Nat) : Met l yX7_moves (.code yX7_moves cX7_moves 5 none :: wsA) ({ frames := 1, cells := 0, slots := 0, locals := 24 } : Room) (va_Pc [.ref (b 0), .int (nI d), .int y] (PW D cI cS 6 b (emC cI b (mdl s kp hf sc ad bf)) zz)) (va_Qv (fun (u : Unit) => True) (BW D 6 b (fun u => emC cI b (mdl (mvS s d y) kp hf sc ad bf))) (AX 6 b zz)) 0 0 (AX 6 b zz) := by
  refine mgo (by decide) (Nat.le_of_ble_eq_true rfl) ?_
  intro p e z m below meth c hx hb hr hml hown hts hlocks hB ls hl
  obtain ⟨hsz, hP, hK, hE⟩ := hB
  subst hsz
  have hS : va_S (AX 6 b z.heap.size) z.heap z.heap [] := va_S.rf
  have hl : lv_has ls 5 [(0, .ref (b 0)), (1, .int (nI d)), (2, .int y)] := hl
  refine lv_aload_n hx hb dX7_moves_0 rfl (lv_at hl 0 rfl) ?_
  refine g_get hx hb hts hown inA7 hK hP 0 (by decide) rfl rfl 0 (by decide) tw760 rfl (v := .ref (b 1)) rfl dX7_moves_1 ?_
  refine lv_bipush (v := 6) hx hb dX7_moves_4 (by decide) ?_
  refine lv_iload_n hx hb dX7_moves_6 rfl (lv_at hl 1 rfl) ?_
  refine lv_iadd hx hb dX7_moves_7 ?_
  refine lv_as (y := nI (6 + d)) (nI_add2 (p := 6) (q := d) rfl rfl) ?_
  refine g_iald hx hb hK hP 1 (by decide) rfl (6 + d) rfl (by omega) (by decide) dX7_moves_8 (v := s 1 d) ((fl_g1 (s := s) (d := d) (by omega)).trans rfl) ?_
  refine lv_istore_n (lv' := [(3, .int (s 1 d)), (0, .ref (b 0)), (1, .int (nI d)), (2, .int y)]) hx hb dX7_moves_9 rfl hl (by decide) rfl (fun ls hl => ?_)
  refine lv_aload_n hx hb dX7_moves_10 rfl (lv_at hl 1 rfl) ?_
  refine lv_iload_n hx hb dX7_moves_11 rfl (lv_at hl 2 rfl) ?_
  refine lv_iload_n hx hb dX7_moves_12 rfl (lv_at hl 3 rfl) ?_
  refine rw_i hS (va_runV (As := [.int (nI d), .int y]) (rest := []) ⟨hx, hb, hml, hown, hts⟩ (m_X7_shows l D cI cS b s kp hf sc ad bf d (by omega) y _) (cwV 2 hts (gV tw825 tw822 tw824 ts26 tw8) rfl rfl rfl (by decide +kernel) ⟨Nat.le_of_ble_eq_true rfl, Nat.le_of_ble_eq_true rfl⟩) (pvW 0 hK hP hE (by decide) rfl rfl) rfl rfl hl.1 rfl (lv_room (Nat.le_of_ble_eq_true rfl)) dX7_moves_13 ⟨Nat.le_of_ble_eq_true rfl, Nat.le_of_ble_eq_true rfl⟩) (fun r2 u3 H locs hr1 hP hS => ?_)
  subst hr1
  refine lv_istore (lv' := [(4, .int (shF (s 1 d) y)), (3, .int (s 1 d)), (0, .ref (b 0)), (1, .int (nI d)), (2, .int y)]) hx hb dX7_moves_16 hl (by decide) rfl (fun ls hl => ?_)
  refine lv_aload_n hx hb dX7_moves_18 rfl (lv_at hl 2 rfl) ?_
  refine g_get hx hb hts hown inA7 hK hP 0 (by decide) rfl rfl 0 (by decide) tw760 rfl (v := .ref (b 1)) rfl dX7_moves_19 ?_
  refine lv_bipush (v := 34) hx hb dX7_moves_22 (by decide) ?_
  refine lv_iload_n hx hb dX7_moves_24 rfl (lv_at hl 3 rfl) ?_
  refine lv_iadd hx hb dX7_moves_25 ?_
  refine lv_as (y := nI (34 + d)) (nI_add2 (p := 34) (q := d) rfl rfl) ?_
  refine lv_dup2_11 hx hb dX7_moves_26 rfl rfl ?_
  refine g_iald hx hb hK hP 1 (by decide) rfl (34 + d) rfl (by omega) (by decide) dX7_moves_27 (v := s 4 d) ((fl_g4 (s := (up2 (up2 s 1 d y) 6 d (s 6 d + shF (s 1 d) y))) (d := d) (by omega)).trans (by simp [up2, upR, upd])) ?_
  refine lv_iload_n hx hb dX7_moves_28 rfl (lv_at hl 4 rfl) ?_
  refine lv_iload_n hx hb dX7_moves_29 rfl (lv_at hl 1 rfl) ?_
  refine lv_icmp_le (tgt := 39) hx hb dX7_moves_30 (by decide) (fun c4 => ?_) (fun c4 => ?_)
  · skip
    have c4x := Int32.not_lt.mpr c4
    refine lv_iconst (v := 0) hx hb dX7_moves_39 (by decide) ?_
    refine lv_iadd hx hb dX7_moves_40 ?_
    refine g_iast hx hb hK hP hE hS 1 (by decide) rfl (34 + d) rfl (by omega) (by omega) dX7_moves_41 (ex' := emC cI b (mdl (up2 (up2 (up2 s 1 d y) 6 d (s 6 d + shF (s 1 d) y)) 4 d ((s 4 d) + 0)) kp hf sc ad bf)) (fl_e (fl_s4 (d := d) (by omega))) mm_s (fun H locs hP hS => ?_)
    refine lv_aload_n hx hb dX7_moves_42 rfl (lv_at hl 2 rfl) ?_
    refine g_get hx hb hts hown inA7 hK hP 0 (by decide) rfl rfl 0 (by decide) tw760 rfl (v := .ref (b 1)) rfl dX7_moves_43 ?_
    refine lv_bipush (v := 41) hx hb dX7_moves_46 (by decide) ?_
    refine lv_iload_n hx hb dX7_moves_48 rfl (lv_at hl 3 rfl) ?_
    refine lv_iadd hx hb dX7_moves_49 ?_
    refine lv_as (y := nI (41 + d)) (nI_add2 (p := 41) (q := d) rfl rfl) ?_
    refine lv_dup2_11 hx hb dX7_moves_50 rfl rfl ?_
    refine g_iald hx hb hK hP 1 (by decide) rfl (41 + d) rfl (by omega) (by decide) dX7_moves_51 (v := s 5 d) ((fl_g5 (s := (up2 (up2 (up2 s 1 d y) 6 d (s 6 d + shF (s 1 d) y)) 4 d ((s 4 d) + 0))) (d := d) (by omega)).trans (by simp [up2, upR, upd])) ?_
    refine lv_iload_n hx hb dX7_moves_52 rfl (lv_at hl 4 rfl) ?_
    refine lv_iload_n hx hb dX7_moves_53 rfl (lv_at hl 1 rfl) ?_
    refine lv_icmp_ge (tgt := 63) hx hb dX7_moves_54 (by decide) (fun c5 => ?_) (fun c5 => ?_)
    · skip
      have c5x := Int32.not_lt.mpr c5
      refine lv_iconst (v := 0) hx hb dX7_moves_63 (by decide) ?_
      refine lv_iadd hx hb dX7_moves_64 ?_
      refine g_iast hx hb hK hP hE hS 1 (by decide) rfl (41 + d) rfl (by omega) (by omega) dX7_moves_65 (ex' := emC cI b (mdl (up2 (up2 (up2 (up2 s 1 d y) 6 d (s 6 d + shF (s 1 d) y)) 4 d ((s 4 d) + 0)) 5 d ((s 5 d) + 0)) kp hf sc ad bf)) (fl_e (fl_s5 (d := d) (by omega))) mm_s (fun H locs hP hS => ?_)
      have hWs : (mvS s d y) = (up2 (up2 (up2 (up2 s 1 d y) 6 d (s 6 d + shF (s 1 d) y)) 4 d ((s 4 d) + 0)) 5 d ((s 5 d) + 0)) := by exact (mv_eq rfl (by first | rw [if_pos (by assumption)] | rw [if_neg (by assumption)]) (by first | rw [if_pos (by assumption)] | rw [if_neg (by assumption)])).symm
      have hP := hP.cast (e' := emC cI b (mdl (mvS s d y) kp hf sc ad bf)) (by rw [hWs])
      exact rw_vr hx hb hr hlocks hS () hP trivial dX7_moves_66
    · skip
      have c5x := Int32.not_le.mp c5
      refine lv_iload_n hx hb dX7_moves_57 rfl (lv_at hl 1 rfl) ?_
      refine lv_iload_n hx hb dX7_moves_58 rfl (lv_at hl 4 rfl) ?_
      refine lv_isub hx hb dX7_moves_59 ?_
      refine lv_goto (tgt := 64) hx hb dX7_moves_60 (by decide) ?_
      refine lv_iadd hx hb dX7_moves_64 ?_
      refine g_iast hx hb hK hP hE hS 1 (by decide) rfl (41 + d) rfl (by omega) (by omega) dX7_moves_65 (ex' := emC cI b (mdl (up2 (up2 (up2 (up2 s 1 d y) 6 d (s 6 d + shF (s 1 d) y)) 4 d ((s 4 d) + 0)) 5 d ((s 5 d) + ((s 1 d) - y))) kp hf sc ad bf)) (fl_e (fl_s5 (d := d) (by omega))) mm_s (fun H locs hP hS => ?_)
      have hWs : (mvS s d y) = (up2 (up2 (up2 (up2 s 1 d y) 6 d (s 6 d + shF (s 1 d) y)) 4 d ((s 4 d) + 0)) 5 d ((s 5 d) + ((s 1 d) - y))) := by exact (mv_eq rfl (by first | rw [if_pos (by assumption)] | rw [if_neg (by assumption)]) (by first | rw [if_pos (by assumption)] | rw [if_neg (by assumption)])).symm
      have hP := hP.cast (e' := emC cI b (mdl (mvS s d y) kp hf sc ad bf)) (by rw [hWs])
      exact rw_vr hx hb hr hlocks hS () hP trivial dX7_moves_66
  · skip
    have c4x := Int32.not_le.mp c4
    refine lv_iload_n hx hb dX7_moves_33 rfl (lv_at hl 4 rfl) ?_
    refine lv_iload_n hx hb dX7_moves_34 rfl (lv_at hl 1 rfl) ?_
    refine lv_isub hx hb dX7_moves_35 ?_
    refine lv_goto (tgt := 40) hx hb dX7_moves_36 (by decide) ?_
    refine lv_iadd hx hb dX7_moves_40 ?_
    refine g_iast hx hb hK hP hE hS 1 (by decide) rfl (34 + d) rfl (by omega) (by omega) dX7_moves_41 (ex' := emC cI b (mdl (up2 (up2 (up2 s 1 d y) 6 d (s 6 d + shF (s 1 d) y)) 4 d ((s 4 d) + (y - (s 1 d)))) kp hf sc ad bf)) (fl_e (fl_s4 (d := d) (by omega))) mm_s (fun H locs hP hS => ?_)
    refine lv_aload_n hx hb dX7_moves_42 rfl (lv_at hl 2 rfl) ?_
    refine g_get hx hb hts hown inA7 hK hP 0 (by decide) rfl rfl 0 (by decide) tw760 rfl (v := .ref (b 1)) rfl dX7_moves_43 ?_
    refine lv_bipush (v := 41) hx hb dX7_moves_46 (by decide) ?_
    refine lv_iload_n hx hb dX7_moves_48 rfl (lv_at hl 3 rfl) ?_
    refine lv_iadd hx hb dX7_moves_49 ?_
    refine lv_as (y := nI (41 + d)) (nI_add2 (p := 41) (q := d) rfl rfl) ?_
    refine lv_dup2_11 hx hb dX7_moves_50 rfl rfl ?_
    refine g_iald hx hb hK hP 1 (by decide) rfl (41 + d) rfl (by omega) (by decide) dX7_moves_51 (v := s 5 d) ((fl_g5 (s := (up2 (up2 (up2 s 1 d y) 6 d (s 6 d + shF (s 1 d) y)) 4 d ((s 4 d) + (y - (s 1 d))))) (d := d) (by omega)).trans (by simp [up2, upR, upd])) ?_
    refine lv_iload_n hx hb dX7_moves_52 rfl (lv_at hl 4 rfl) ?_
    refine lv_iload_n hx hb dX7_moves_53 rfl (lv_at hl 1 rfl) ?_
    refine lv_icmp_ge (tgt := 63) hx hb dX7_moves_54 (by decide) (fun c6 => ?_) (fun c6 => ?_)
    · skip
      have c6x := Int32.not_lt.mpr c6
      refine lv_iconst (v := 0) hx hb dX7_moves_63 (by decide) ?_
      refine lv_iadd hx hb dX7_moves_64 ?_
      refine g_iast hx hb hK hP hE hS 1 (by decide) rfl (41 + d) rfl (by omega) (by omega) dX7_moves_65 (ex' := emC cI b (mdl (up2 (up2 (up2 (up2 s 1 d y) 6 d (s 6 d + shF (s 1 d) y)) 4 d ((s 4 d) + (y - (s 1 d)))) 5 d ((s 5 d) + 0)) kp hf sc ad bf)) (fl_e (fl_s5 (d := d) (by omega))) mm_s (fun H locs hP hS => ?_)
      have hWs : (mvS s d y) = (up2 (up2 (up2 (up2 s 1 d y) 6 d (s 6 d + shF (s 1 d) y)) 4 d ((s 4 d) + (y - (s 1 d)))) 5 d ((s 5 d) + 0)) := by exact (mv_eq rfl (by first | rw [if_pos (by assumption)] | rw [if_neg (by assumption)]) (by first | rw [if_pos (by assumption)] | rw [if_neg (by assumption)])).symm
      have hP := hP.cast (e' := emC cI b (mdl (mvS s d y) kp hf sc ad bf)) (by rw [hWs])
      exact rw_vr hx hb hr hlocks hS () hP trivial dX7_moves_66
    · skip
      have c6x := Int32.not_le.mp c6
      refine lv_iload_n hx hb dX7_moves_57 rfl (lv_at hl 1 rfl) ?_
      refine lv_iload_n hx hb dX7_moves_58 rfl (lv_at hl 4 rfl) ?_
      refine lv_isub hx hb dX7_moves_59 ?_
      refine lv_goto (tgt := 64) hx hb dX7_moves_60 (by decide) ?_
      refine lv_iadd hx hb dX7_moves_64 ?_
      refine g_iast hx hb hK hP hE hS 1 (by decide) rfl (41 + d) rfl (by omega) (by omega) dX7_moves_65 (ex' := emC cI b (mdl (up2 (up2 (up2 (up2 s 1 d y) 6 d (s 6 d + shF (s 1 d) y)) 4 d ((s 4 d) + (y - (s 1 d)))) 5 d ((s 5 d) + ((s 1 d) - y))) kp hf sc ad bf)) (fl_e (fl_s5 (d := d) (by omega))) mm_s (fun H locs hP hS => ?_)
      have hWs : (mvS s d y) = (up2 (up2 (up2 (up2 s 1 d y) 6 d (s 6 d + shF (s 1 d) y)) 4 d ((s 4 d) + (y - (s 1 d)))) 5 d ((s 5 d) + ((s 1 d) - y))) := by exact (mv_eq rfl (by first | rw [if_pos (by assumption)] | rw [if_neg (by assumption)]) (by first | rw [if_pos (by assumption)] | rw [if_neg (by assumption)])).symm
      have hP := hP.cast (e' := emC cI b (mdl (mvS s d y) kp hf sc ad bf)) (by rw [hWs])
      exact rw_vr hx hb hr hlocks hS () hP trivial dX7_moves_66

set_option maxHeartbeats 4000000 in
set_option maxRecDepth 100000 in
theorem m_X7_tickOnce (l : Launch) (D : va_G) (cI cS : ClassId) (b : Nat → Nat) (s kp : St) (hf : Nat → St) (sc ad bf : Nat → Int32) (T : Int) (hBd : Bd T s) (hT : T ≤ 1000000000) (zz : Nat) : Met l yX7_tickOnce (.code yX7_tickOnce cX7_tickOnce 5 (some .int) :: wsA) ({ frames := 1, cells := 0, slots := 0, locals := 24 } : Room) (va_Pc [.ref (b 0)] (PW D cI cS 6 b (emC cI b (mdl s kp hf sc ad bf)) zz)) (va_Qi (fun (r : Int32) (u : Unit) => r = ptA 7 (up2 s 0 0 (s 0 0 + 10)) 0) (BW D 6 b (fun u => emC cI b (mdl (ptN 7 (up2 s 0 0 (s 0 0 + 10))) kp hf sc ad bf))) (AX 6 b zz)) 0 0 (AX 6 b zz) := by
  refine mgo (by decide) (Nat.le_of_ble_eq_true rfl) ?_
  intro p e z m below meth c hx hb hr hml hown hts hlocks hB ls hl
  obtain ⟨hsz, hP, hK, hE⟩ := hB
  subst hsz
  have hS : va_S (AX 6 b z.heap.size) z.heap z.heap [] := va_S.rf
  have hl : lv_has ls 5 [(0, .ref (b 0))] := hl
  refine lv_iconst (v := 0) hx hb dX7_tickOnce_0 (by decide) ?_
  refine lv_istore_n (lv' := [(1, .int 0), (0, .ref (b 0))]) hx hb dX7_tickOnce_1 rfl hl (by decide) rfl (fun ls hl => ?_)
  refine lv_aload_n hx hb dX7_tickOnce_2 rfl (lv_at hl 1 rfl) ?_
  refine g_get hx hb hts hown inA7 hK hP 0 (by decide) rfl rfl 0 (by decide) tw760 rfl (v := .ref (b 1)) rfl dX7_tickOnce_3 ?_
  refine lv_iconst (v := 0) hx hb dX7_tickOnce_6 (by decide) ?_
  refine lv_dup2_11 hx hb dX7_tickOnce_7 rfl rfl ?_
  refine g_iald hx hb hK hP 1 (by decide) rfl 0 rfl (by omega) (by decide) dX7_tickOnce_8 (v := s 0 0) ((fl_g0 (s := s) (d := 0) (by omega)).trans rfl) ?_
  refine lv_bipush (v := 10) hx hb dX7_tickOnce_9 (by decide) ?_
  refine lv_iadd hx hb dX7_tickOnce_11 ?_
  refine g_iast hx hb hK hP hE hS 1 (by decide) rfl 0 rfl (by omega) (by omega) dX7_tickOnce_12 (ex' := emC cI b (mdl (up2 s 0 0 ((s 0 0) + 10)) kp hf sc ad bf)) (fl_e (fl_s0 (d := 0) (by omega))) mm_s (fun H locs hP hS => ?_)
  refine lv_iconst (v := 0) hx hb dX7_tickOnce_13 (by decide) ?_
  refine lv_istore_n (lv' := [(2, .int 0), (1, .int 0), (0, .ref (b 0))]) hx hb dX7_tickOnce_14 rfl hl (by decide) rfl (fun ls hl => ?_)
  have loop15 : ∀ (fu : Nat) (j : Nat) (x : Int32) (t : St), 7 + 1 ≤ j + fu → (j ≤ 7) → (t = ptN j (up2 s 0 0 (s 0 0 + 10))) → (x = ptA j (up2 s 0 0 (s 0 0 + 10)) 0) → (Bd (T + 10) t) → ∀ (H : Heap) (locs : List Loc), HP D 6 b (emC cI b (mdl t kp hf sc ad bf)) H → va_S (AX 6 b z.heap.size) z.heap H locs → ∀ ls : Array Slot, lv_has ls 5 [(0, .ref (b 0)), (1, .int x), (2, .int (nI j))] → W p l e ({ frames := 1, cells := 0, slots := 0, locals := 24 } : Room) z m ([.ref (b 0)] : List Value).toArray below meth c H locs 0 0 (MQ below (va_Qi (fun (r : Int32) (u : Unit) => r = ptA 7 (up2 s 0 0 (s 0 0 + 10)) 0) (BW D 6 b (fun u => emC cI b (mdl (ptN 7 (up2 s 0 0 (s 0 0 + 10))) kp hf sc ad bf))) (AX 6 b z.heap.size)) ([.ref (b 0)] : List Value).toArray z 0 0 (AX 6 b z.heap.size)) (F0 m 15 ls []) := by
    intro fu
    induction fu with
    | zero => intro j x t hn hj ht hx1 hBt; exact absurd hn (by omega)
    | succ fu ih15 =>
      intro j x t hn hj ht hx1 hBt H locs hP hS ls hl
      refine lv_iload_n hx hb dX7_tickOnce_15 rfl (lv_at hl 2 rfl) ?_
      refine lv_bipush (v := 7) hx hb dX7_tickOnce_16 (by decide) ?_
      refine lv_icmp_ge (tgt := 95) hx hb dX7_tickOnce_18 (by decide) (fun c1 => ?_) (fun c1 => ?_)
      · skip
        have c1x := Int32.not_lt.mpr c1
        have c1n := (nI_le2 (p := 7) (q := j) rfl rfl (by omega) (by omega)).mp c1
        have c1n : 7 ≤ j := c1n
        have hjq : 7 = j := by omega
        subst hjq
        refine lv_iload_n hx hb dX7_tickOnce_95 rfl (lv_at hl 1 rfl) ?_
        have hWs : (ptN 7 (up2 s 0 0 (s 0 0 + 10))) = t := by exact ht.symm
        have hP := hP.cast (e' := emC cI b (mdl (ptN 7 (up2 s 0 0 (s 0 0 + 10))) kp hf sc ad bf)) (by rw [hWs])
        exact rw_ir hx hb hr rfl hlocks hS () hP hx1 dX7_tickOnce_96
      · skip
        have c1x := Int32.not_le.mp c1
        have c1n := fun hq0 => c1 ((nI_le2 (p := 7) (q := j) rfl rfl (by omega) (by omega)).mpr hq0)
        have c1n : ¬ (7 ≤ j) := c1n
        refine lv_aload_n hx hb dX7_tickOnce_21 rfl (lv_at hl 0 rfl) ?_
        refine g_get hx hb hts hown inA7 hK hP 0 (by decide) rfl rfl 0 (by decide) tw760 rfl (v := .ref (b 1)) rfl dX7_tickOnce_22 ?_
        refine lv_bipush (v := 6) hx hb dX7_tickOnce_25 (by decide) ?_
        refine lv_iload_n hx hb dX7_tickOnce_27 rfl (lv_at hl 2 rfl) ?_
        refine lv_iadd hx hb dX7_tickOnce_28 ?_
        refine lv_as (y := nI (6 + j)) (nI_add2 (p := 6) (q := j) rfl rfl) ?_
        refine g_iald hx hb hK hP 1 (by decide) rfl (6 + j) rfl (by omega) (by decide) dX7_tickOnce_29 (v := t 1 j) ((fl_g1 (s := t) (d := j) (by omega)).trans rfl) ?_
        refine lv_istore_n (lv' := [(3, .int (t 1 j)), (0, .ref (b 0)), (1, .int x), (2, .int (nI j))]) hx hb dX7_tickOnce_30 rfl hl (by decide) rfl (fun ls hl => ?_)
        refine lv_iload_n hx hb dX7_tickOnce_31 rfl (lv_at hl 0 rfl) ?_
        refine lv_bipush (v := 10) hx hb dX7_tickOnce_32 (by decide) ?_
        refine lv_iadd hx hb dX7_tickOnce_34 ?_
        refine lv_aload_n hx hb dX7_tickOnce_35 rfl (lv_at hl 1 rfl) ?_
        refine g_get hx hb hts hown inA7 hK hP 0 (by decide) rfl rfl 0 (by decide) tw760 rfl (v := .ref (b 1)) rfl dX7_tickOnce_36 ?_
        refine lv_bipush (v := 13) hx hb dX7_tickOnce_39 (by decide) ?_
        refine lv_iload_n hx hb dX7_tickOnce_41 rfl (lv_at hl 3 rfl) ?_
        refine lv_iadd hx hb dX7_tickOnce_42 ?_
        refine lv_as (y := nI (13 + j)) (nI_add2 (p := 13) (q := j) rfl rfl) ?_
        refine g_iald hx hb hK hP 1 (by decide) rfl (13 + j) rfl (by omega) (by decide) dX7_tickOnce_43 (v := t 2 j) ((fl_g2 (s := t) (d := j) (by omega)).trans rfl) ?_
        refine lv_iadd hx hb dX7_tickOnce_44 ?_
        refine lv_istore (lv' := [(4, .int (((t 1 j) + 10) + (t 2 j))), (3, .int (t 1 j)), (0, .ref (b 0)), (1, .int x), (2, .int (nI j))]) hx hb dX7_tickOnce_45 hl (by decide) rfl (fun ls hl => ?_)
        refine lv_iload hx hb dX7_tickOnce_47 (lv_at hl 0 rfl) ?_
        refine lv_ldc hx hb hown (hts _ tw821) dX7_tickOnce_49 ?_
        refine lv_icmp_le (tgt := 59) hx hb dX7_tickOnce_51 (by decide) (fun c2 => ?_) (fun c2 => ?_)
        · skip
          have c2x := Int32.not_lt.mpr c2
          refine lv_iload hx hb dX7_tickOnce_59 (lv_at hl 0 rfl) ?_
          refine lv_as (y := aftI t j (t 1 j)) (by unfold aftI; rw [if_neg c2x]) ?_
          refine lv_istore (lv' := [(4, .int (aftI t j (t 1 j))), (3, .int (t 1 j)), (0, .ref (b 0)), (1, .int x), (2, .int (nI j))]) hx hb dX7_tickOnce_61 hl (by decide) rfl (fun ls hl => ?_)
          refine lv_aload_n hx hb dX7_tickOnce_63 rfl (lv_at hl 2 rfl) ?_
          refine g_get hx hb hts hown inA7 hK hP 0 (by decide) rfl rfl 0 (by decide) tw760 rfl (v := .ref (b 1)) rfl dX7_tickOnce_64 ?_
          refine lv_bipush (v := 27) hx hb dX7_tickOnce_67 (by decide) ?_
          refine lv_iload_n hx hb dX7_tickOnce_69 rfl (lv_at hl 4 rfl) ?_
          refine lv_iadd hx hb dX7_tickOnce_70 ?_
          refine lv_as (y := nI (27 + j)) (nI_add2 (p := 27) (q := j) rfl rfl) ?_
          refine lv_dup2_11 hx hb dX7_tickOnce_71 rfl rfl ?_
          refine g_iald hx hb hK hP 1 (by decide) rfl (27 + j) rfl (by omega) (by decide) dX7_tickOnce_72 (v := t 3 j) ((fl_g3 (s := t) (d := j) (by omega)).trans rfl) ?_
          refine lv_iload hx hb dX7_tickOnce_73 (lv_at hl 0 rfl) ?_
          refine lv_iload_n hx hb dX7_tickOnce_75 rfl (lv_at hl 1 rfl) ?_
          refine lv_isub hx hb dX7_tickOnce_76 ?_
          refine lv_iadd hx hb dX7_tickOnce_77 ?_
          refine g_iast hx hb hK hP hE hS 1 (by decide) rfl (27 + j) rfl (by omega) (by omega) dX7_tickOnce_78 (ex' := emC cI b (mdl (up2 t 3 j ((t 3 j) + ((aftI t j (t 1 j)) - (t 1 j)))) kp hf sc ad bf)) (fl_e (fl_s3 (d := j) (by omega))) mm_s (fun H locs hP hS => ?_)
          refine lv_iload_n hx hb dX7_tickOnce_79 rfl (lv_at hl 3 rfl) ?_
          refine lv_aload_n hx hb dX7_tickOnce_80 rfl (lv_at hl 2 rfl) ?_
          refine lv_iload_n hx hb dX7_tickOnce_81 rfl (lv_at hl 4 rfl) ?_
          refine lv_iload hx hb dX7_tickOnce_82 (lv_at hl 0 rfl) ?_
          refine rw_i hS (va_runV (As := [.int (nI j), .int (aftI t j (t 1 j))]) (rest := [.int x]) ⟨hx, hb, hml, hown, hts⟩ (m_X7_shows l D cI cS b (up2 t 3 j ((t 3 j) + ((aftI t j (t 1 j)) - (t 1 j)))) kp hf sc ad bf j (by omega) (aftI t j (t 1 j)) _) (cwV 2 hts (gV tw825 tw822 tw824 ts26 tw8) rfl rfl rfl (by decide +kernel) ⟨Nat.le_of_ble_eq_true rfl, Nat.le_of_ble_eq_true rfl⟩) (pvW 0 hK hP hE (by decide) rfl rfl) rfl rfl hl.1 rfl (lv_room (Nat.le_of_ble_eq_true rfl)) dX7_tickOnce_84 ⟨Nat.le_of_ble_eq_true rfl, Nat.le_of_ble_eq_true rfl⟩) (fun r4 u5 H locs hr3 hP hS => ?_)
          subst hr3
          refine lv_iadd hx hb dX7_tickOnce_87 ?_
          refine lv_istore_n (lv' := [(1, .int (x + (shF (t 1 j) (aftI t j (t 1 j))))), (4, .int (aftI t j (t 1 j))), (3, .int (t 1 j)), (0, .ref (b 0)), (2, .int (nI j))]) hx hb dX7_tickOnce_88 rfl hl (by decide) rfl (fun ls hl => ?_)
          refine lv_iinc (v := nI (j + 1)) (lv' := [(2, .int (nI (j + 1))), (1, .int (x + (shF (t 1 j) (aftI t j (t 1 j))))), (4, .int (aftI t j (t 1 j))), (3, .int (t 1 j)), (0, .ref (b 0))]) hx hb dX7_tickOnce_89 hl (k := 4) rfl (nI_add j 1) (by decide) rfl (fun ls hl => ?_)
          refine lv_goto (tgt := 15) hx hb dX7_tickOnce_92 (by decide) ?_
          exact ih15 (j + 1) (x + (shF (t 1 j) (aftI t j (t 1 j)))) (up2 (up2 (up2 t 3 j ((t 3 j) + ((aftI t j (t 1 j)) - (t 1 j)))) 1 j (aftI t j (t 1 j))) 6 j (t 6 j + shF (t 1 j) (aftI t j (t 1 j)))) (by omega) (by omega) ((pt_eq hBt (by omega)).trans (by rw [ht]; rfl)) (by rw [pt_r hBt (by omega), hx1, ht]; rfl) (by rw [pt_eq hBt (by omega)]; exact hBt.pt (by omega)) _ _ hP hS ls (lv_sub hl [4, 1, 0] rfl)
        · skip
          have c2x := Int32.not_le.mp c2
          refine lv_ldc hx hb hown (hts _ tw821) dX7_tickOnce_54 ?_
          refine lv_goto (tgt := 61) hx hb dX7_tickOnce_56 (by decide) ?_
          refine lv_as (y := aftI t j (t 1 j)) (by unfold aftI; rw [if_pos c2x]) ?_
          refine lv_istore (lv' := [(4, .int (aftI t j (t 1 j))), (3, .int (t 1 j)), (0, .ref (b 0)), (1, .int x), (2, .int (nI j))]) hx hb dX7_tickOnce_61 hl (by decide) rfl (fun ls hl => ?_)
          refine lv_aload_n hx hb dX7_tickOnce_63 rfl (lv_at hl 2 rfl) ?_
          refine g_get hx hb hts hown inA7 hK hP 0 (by decide) rfl rfl 0 (by decide) tw760 rfl (v := .ref (b 1)) rfl dX7_tickOnce_64 ?_
          refine lv_bipush (v := 27) hx hb dX7_tickOnce_67 (by decide) ?_
          refine lv_iload_n hx hb dX7_tickOnce_69 rfl (lv_at hl 4 rfl) ?_
          refine lv_iadd hx hb dX7_tickOnce_70 ?_
          refine lv_as (y := nI (27 + j)) (nI_add2 (p := 27) (q := j) rfl rfl) ?_
          refine lv_dup2_11 hx hb dX7_tickOnce_71 rfl rfl ?_
          refine g_iald hx hb hK hP 1 (by decide) rfl (27 + j) rfl (by omega) (by decide) dX7_tickOnce_72 (v := t 3 j) ((fl_g3 (s := t) (d := j) (by omega)).trans rfl) ?_
          refine lv_iload hx hb dX7_tickOnce_73 (lv_at hl 0 rfl) ?_
          refine lv_iload_n hx hb dX7_tickOnce_75 rfl (lv_at hl 1 rfl) ?_
          refine lv_isub hx hb dX7_tickOnce_76 ?_
          refine lv_iadd hx hb dX7_tickOnce_77 ?_
          refine g_iast hx hb hK hP hE hS 1 (by decide) rfl (27 + j) rfl (by omega) (by omega) dX7_tickOnce_78 (ex' := emC cI b (mdl (up2 t 3 j ((t 3 j) + ((aftI t j (t 1 j)) - (t 1 j)))) kp hf sc ad bf)) (fl_e (fl_s3 (d := j) (by omega))) mm_s (fun H locs hP hS => ?_)
          refine lv_iload_n hx hb dX7_tickOnce_79 rfl (lv_at hl 3 rfl) ?_
          refine lv_aload_n hx hb dX7_tickOnce_80 rfl (lv_at hl 2 rfl) ?_
          refine lv_iload_n hx hb dX7_tickOnce_81 rfl (lv_at hl 4 rfl) ?_
          refine lv_iload hx hb dX7_tickOnce_82 (lv_at hl 0 rfl) ?_
          refine rw_i hS (va_runV (As := [.int (nI j), .int (aftI t j (t 1 j))]) (rest := [.int x]) ⟨hx, hb, hml, hown, hts⟩ (m_X7_shows l D cI cS b (up2 t 3 j ((t 3 j) + ((aftI t j (t 1 j)) - (t 1 j)))) kp hf sc ad bf j (by omega) (aftI t j (t 1 j)) _) (cwV 2 hts (gV tw825 tw822 tw824 ts26 tw8) rfl rfl rfl (by decide +kernel) ⟨Nat.le_of_ble_eq_true rfl, Nat.le_of_ble_eq_true rfl⟩) (pvW 0 hK hP hE (by decide) rfl rfl) rfl rfl hl.1 rfl (lv_room (Nat.le_of_ble_eq_true rfl)) dX7_tickOnce_84 ⟨Nat.le_of_ble_eq_true rfl, Nat.le_of_ble_eq_true rfl⟩) (fun r7 u8 H locs hr6 hP hS => ?_)
          subst hr6
          refine lv_iadd hx hb dX7_tickOnce_87 ?_
          refine lv_istore_n (lv' := [(1, .int (x + (shF (t 1 j) (aftI t j (t 1 j))))), (4, .int (aftI t j (t 1 j))), (3, .int (t 1 j)), (0, .ref (b 0)), (2, .int (nI j))]) hx hb dX7_tickOnce_88 rfl hl (by decide) rfl (fun ls hl => ?_)
          refine lv_iinc (v := nI (j + 1)) (lv' := [(2, .int (nI (j + 1))), (1, .int (x + (shF (t 1 j) (aftI t j (t 1 j))))), (4, .int (aftI t j (t 1 j))), (3, .int (t 1 j)), (0, .ref (b 0))]) hx hb dX7_tickOnce_89 hl (k := 4) rfl (nI_add j 1) (by decide) rfl (fun ls hl => ?_)
          refine lv_goto (tgt := 15) hx hb dX7_tickOnce_92 (by decide) ?_
          exact ih15 (j + 1) (x + (shF (t 1 j) (aftI t j (t 1 j)))) (up2 (up2 (up2 t 3 j ((t 3 j) + ((aftI t j (t 1 j)) - (t 1 j)))) 1 j (aftI t j (t 1 j))) 6 j (t 6 j + shF (t 1 j) (aftI t j (t 1 j)))) (by omega) (by omega) ((pt_eq hBt (by omega)).trans (by rw [ht]; rfl)) (by rw [pt_r hBt (by omega), hx1, ht]; rfl) (by rw [pt_eq hBt (by omega)]; exact hBt.pt (by omega)) _ _ hP hS ls (lv_sub hl [4, 1, 0] rfl)
  exact loop15 (7 + 1) 0 0 (up2 s 0 0 ((s 0 0) + 10)) (by omega) (by omega) rfl rfl (hBd.t10 (by omega)) _ _ hP hS ls (lv_sub hl [2, 1, 0] rfl)

set_option maxHeartbeats 4000000 in
set_option maxRecDepth 100000 in
theorem m_X7_ticks (l : Launch) (D : va_G) (cI cS : ClassId) (b : Nat → Nat) (s kp : St) (hf : Nat → St) (sc ad bf : Nat → Int32) (T : Int) (hBd : Bd T s) (hT : T ≤ 900000000) (n : Nat) (hn : n < 1000) (zz : Nat) : Met l yX7_ticks (.code yX7_ticks cX7_ticks 4 (some .int) :: wsA) ({ frames := 2, cells := 0, slots := 0, locals := 48 } : Room) (va_Pc [.ref (b 0), .int (nI n)] (PW D cI cS 6 b (emC cI b (mdl s kp hf sc ad bf)) zz)) (va_Qi (fun (r : Int32) (u : Unit) => r = ticksA n s) (BW D 6 b (fun u => emC cI b (mdl (ticksS n s) kp hf sc ad bf))) (AX 6 b zz)) 0 0 (AX 6 b zz) := by
  refine mgo (by decide) (Nat.le_of_ble_eq_true rfl) ?_
  intro p e z m below meth c hx hb hr hml hown hts hlocks hB ls hl
  obtain ⟨hsz, hP, hK, hE⟩ := hB
  subst hsz
  have hS : va_S (AX 6 b z.heap.size) z.heap z.heap [] := va_S.rf
  have hl : lv_has ls 4 [(0, .ref (b 0)), (1, .int (nI n))] := hl
  refine lv_iconst (v := 0) hx hb dX7_ticks_0 (by decide) ?_
  refine lv_istore_n (lv' := [(2, .int 0), (0, .ref (b 0)), (1, .int (nI n))]) hx hb dX7_ticks_1 rfl hl (by decide) rfl (fun ls hl => ?_)
  refine lv_iconst (v := 0) hx hb dX7_ticks_2 (by decide) ?_
  refine lv_istore_n (lv' := [(3, .int 0), (2, .int 0), (0, .ref (b 0)), (1, .int (nI n))]) hx hb dX7_ticks_3 rfl hl (by decide) rfl (fun ls hl => ?_)
  have loop4 : ∀ (fu : Nat) (j : Nat) (x : Int32) (t : St), n + 1 ≤ j + fu → (j ≤ n) → (t = ticksS j s) → (x = ticksA j s) → ∀ (H : Heap) (locs : List Loc), HP D 6 b (emC cI b (mdl t kp hf sc ad bf)) H → va_S (AX 6 b z.heap.size) z.heap H locs → ∀ ls : Array Slot, lv_has ls 4 [(0, .ref (b 0)), (1, .int (nI n)), (2, .int x), (3, .int (nI j))] → W p l e ({ frames := 2, cells := 0, slots := 0, locals := 48 } : Room) z m ([.ref (b 0), .int (nI n)] : List Value).toArray below meth c H locs 0 0 (MQ below (va_Qi (fun (r : Int32) (u : Unit) => r = ticksA n s) (BW D 6 b (fun u => emC cI b (mdl (ticksS n s) kp hf sc ad bf))) (AX 6 b z.heap.size)) ([.ref (b 0), .int (nI n)] : List Value).toArray z 0 0 (AX 6 b z.heap.size)) (F0 m 4 ls []) := by
    intro fu
    induction fu with
    | zero => intro j x t hn hj ht hx1; exact absurd hn (by omega)
    | succ fu ih4 =>
      intro j x t hn hj ht hx1 H locs hP hS ls hl
      refine lv_iload_n hx hb dX7_ticks_4 rfl (lv_at hl 3 rfl) ?_
      refine lv_iload_n hx hb dX7_ticks_5 rfl (lv_at hl 1 rfl) ?_
      refine lv_icmp_ge (tgt := 22) hx hb dX7_ticks_6 (by decide) (fun c1 => ?_) (fun c1 => ?_)
      · skip
        have c1x := Int32.not_lt.mpr c1
        have c1n := (nI_le2 (p := n) (q := j) rfl rfl (by omega) (by omega)).mp c1
        have c1n : n ≤ j := c1n
        have hjq : n = j := by omega
        subst hjq
        refine lv_iload_n hx hb dX7_ticks_22 rfl (lv_at hl 2 rfl) ?_
        have hWs : (ticksS n s) = t := by exact ht.symm
        have hP := hP.cast (e' := emC cI b (mdl (ticksS n s) kp hf sc ad bf)) (by rw [hWs])
        exact rw_ir hx hb hr rfl hlocks hS () hP hx1 dX7_ticks_23
      · skip
        have c1x := Int32.not_le.mp c1
        have c1n := fun hq0 => c1 ((nI_le2 (p := n) (q := j) rfl rfl (by omega) (by omega)).mpr hq0)
        have c1n : ¬ (n ≤ j) := c1n
        refine lv_iload_n hx hb dX7_ticks_9 rfl (lv_at hl 2 rfl) ?_
        refine lv_aload_n hx hb dX7_ticks_10 rfl (lv_at hl 0 rfl) ?_
        refine rw_i hS (va_runV (As := []) (rest := [.int x]) ⟨hx, hb, hml, hown, hts⟩ (m_X7_tickOnce l D cI cS b t kp hf sc ad bf (T + 10 * (j : Int)) (by rw [ht]; exact hBd.ticks j (by omega)) (by omega) _) (cwV 0 hts (gV tw820 tw817 tw819 ts25 tw8) rfl rfl rfl (by decide +kernel) ⟨Nat.le_of_ble_eq_true rfl, Nat.le_of_ble_eq_true rfl⟩) (pvW 0 hK hP hE (by decide) rfl rfl) rfl rfl hl.1 rfl (lv_room (Nat.le_of_ble_eq_true rfl)) dX7_ticks_11 ⟨Nat.le_of_ble_eq_true rfl, Nat.le_of_ble_eq_true rfl⟩) (fun r3 u4 H locs hr2 hP hS => ?_)
        refine lv_iadd hx hb dX7_ticks_14 ?_
        refine lv_istore_n (lv' := [(2, .int (x + r3)), (0, .ref (b 0)), (1, .int (nI n)), (3, .int (nI j))]) hx hb dX7_ticks_15 rfl hl (by decide) rfl (fun ls hl => ?_)
        refine lv_iinc (v := nI (j + 1)) (lv' := [(3, .int (nI (j + 1))), (2, .int (x + r3)), (0, .ref (b 0)), (1, .int (nI n))]) hx hb dX7_ticks_16 hl (k := 3) rfl (nI_add j 1) (by decide) rfl (fun ls hl => ?_)
        refine lv_goto (tgt := 4) hx hb dX7_ticks_19 (by decide) ?_
        exact ih4 (j + 1) (x + r3) (ptN 7 (up2 t 0 0 (t 0 0 + 10))) (by omega) (by omega) (by rw [ht]; rfl) (by rw [hr2, hx1, ht]; exact (ptA_add 7).symm) _ _ hP hS ls (lv_sub hl [2, 3, 1, 0] rfl)
  exact loop4 (n + 1) 0 0 s (by omega) (by omega) rfl rfl _ _ hP hS ls (lv_sub hl [2, 3, 1, 0] rfl)

set_option maxHeartbeats 4000000 in
set_option maxRecDepth 100000 in
theorem m_X7_right (l : Launch) (D : va_G) (cI cS : ClassId) (b : Nat → Nat) (s kp : St) (hf : Nat → St) (sc ad bf : Nat → Int32) (d : Nat) (hd : d < 7) : Met l yX7_right (.code yX7_right cX7_right 5 (some .int) :: wsA) ({ frames := 0, cells := 0, slots := 0, locals := 0 } : Room) (va_Pc [.ref (b 0), .int (nI d)] (PR D cI cS 6 b (emC cI b (mdl s kp hf sc ad bf)))) (vp_Si (fun r => r = riI s d)) 0 0 (fun _ => False) := by
  refine mgo (by decide) (Nat.le_of_ble_eq_true rfl) ?_
  intro p e z m below meth c hx hb hr hml hown hts hlocks hB ls hl
  obtain ⟨hP, hK⟩ := hB
  have hl : lv_has ls 5 [(0, .ref (b 0)), (1, .int (nI d))] := hl
  refine lv_aload_n hx hb dX7_right_0 rfl (lv_at hl 0 rfl) ?_
  refine g_get hx hb hts hown inA7 hK hP 0 (by decide) rfl rfl 0 (by decide) tw760 rfl (v := .ref (b 1)) rfl dX7_right_1 ?_
  refine lv_iconst (v := 1) hx hb dX7_right_4 (by decide) ?_
  refine g_iald hx hb hK hP 1 (by decide) rfl 1 rfl (by omega) (by decide) dX7_right_5 (v := s 0 1) ((fl_g0 (s := s) (d := 1) (by omega)).trans rfl) ?_
  refine lv_aload_n hx hb dX7_right_6 rfl (lv_at hl 0 rfl) ?_
  refine g_get hx hb hts hown inA7 hK hP 0 (by decide) rfl rfl 0 (by decide) tw760 rfl (v := .ref (b 1)) rfl dX7_right_7 ?_
  refine lv_iconst (v := 3) hx hb dX7_right_10 (by decide) ?_
  refine g_iald hx hb hK hP 1 (by decide) rfl 3 rfl (by omega) (by decide) dX7_right_11 (v := s 10 1) ((fl_g10 (s := s) (d := 1) (by omega)).trans rfl) ?_
  refine lv_isub hx hb dX7_right_12 ?_
  refine lv_istore_n (lv' := [(2, .int ((s 0 1) - (s 10 1))), (0, .ref (b 0)), (1, .int (nI d))]) hx hb dX7_right_13 rfl hl (by decide) rfl (fun ls hl => ?_)
  refine lv_aload_n hx hb dX7_right_14 rfl (lv_at hl 1 rfl) ?_
  refine g_get hx hb hts hown inA7 hK hP 0 (by decide) rfl rfl 0 (by decide) tw760 rfl (v := .ref (b 1)) rfl dX7_right_15 ?_
  refine lv_iconst (v := 1) hx hb dX7_right_18 (by decide) ?_
  refine g_iald hx hb hK hP 1 (by decide) rfl 1 rfl (by omega) (by decide) dX7_right_19 (v := s 0 1) ((fl_g0 (s := s) (d := 1) (by omega)).trans rfl) ?_
  refine lv_aload_n hx hb dX7_right_20 rfl (lv_at hl 1 rfl) ?_
  refine g_get hx hb hts hown inA7 hK hP 0 (by decide) rfl rfl 0 (by decide) tw760 rfl (v := .ref (b 1)) rfl dX7_right_21 ?_
  refine lv_iconst (v := 3) hx hb dX7_right_24 (by decide) ?_
  refine g_iald hx hb hK hP 1 (by decide) rfl 3 rfl (by omega) (by decide) dX7_right_25 (v := s 10 1) ((fl_g10 (s := s) (d := 1) (by omega)).trans rfl) ?_
  refine lv_iadd hx hb dX7_right_26 ?_
  refine lv_istore_n (lv' := [(3, .int ((s 0 1) + (s 10 1))), (2, .int ((s 0 1) - (s 10 1))), (0, .ref (b 0)), (1, .int (nI d))]) hx hb dX7_right_27 rfl hl (by decide) rfl (fun ls hl => ?_)
  refine lv_aload_n hx hb dX7_right_28 rfl (lv_at hl 2 rfl) ?_
  refine g_get hx hb hts hown inA7 hK hP 0 (by decide) rfl rfl 0 (by decide) tw760 rfl (v := .ref (b 1)) rfl dX7_right_29 ?_
  refine lv_bipush (v := 6) hx hb dX7_right_32 (by decide) ?_
  refine lv_iload_n hx hb dX7_right_34 rfl (lv_at hl 3 rfl) ?_
  refine lv_iadd hx hb dX7_right_35 ?_
  refine lv_as (y := nI (6 + d)) (nI_add2 (p := 6) (q := d) rfl rfl) ?_
  refine g_iald hx hb hK hP 1 (by decide) rfl (6 + d) rfl (by omega) (by decide) dX7_right_36 (v := s 1 d) ((fl_g1 (s := s) (d := d) (by omega)).trans rfl) ?_
  refine lv_istore (lv' := [(4, .int (s 1 d)), (3, .int ((s 0 1) + (s 10 1))), (2, .int ((s 0 1) - (s 10 1))), (0, .ref (b 0)), (1, .int (nI d))]) hx hb dX7_right_37 hl (by decide) rfl (fun ls hl => ?_)
  refine lv_iload hx hb dX7_right_39 (lv_at hl 0 rfl) ?_
  refine lv_iload_n hx hb dX7_right_41 rfl (lv_at hl 2 rfl) ?_
  refine lv_icmp_ge (tgt := 49) hx hb dX7_right_42 (by decide) (fun c1 => ?_) (fun c1 => ?_)
  · skip
    have c1x := Int32.not_lt.mpr c1
    refine lv_iload hx hb dX7_right_49 (lv_at hl 0 rfl) ?_
    refine lv_iload_n hx hb dX7_right_51 rfl (lv_at hl 1 rfl) ?_
    refine lv_icmp_le (tgt := 59) hx hb dX7_right_52 (by decide) (fun c2 => ?_) (fun c2 => ?_)
    · skip
      have c2x := Int32.not_lt.mpr c2
      refine lv_iload hx hb dX7_right_59 (lv_at hl 0 rfl) ?_
      exact ro_ir hx hb hr rfl hlocks (by unfold riI; simp [c1, c1x, c2, c2x]) dX7_right_61
    · skip
      have c2x := Int32.not_le.mp c2
      refine lv_iload_n hx hb dX7_right_55 rfl (lv_at hl 1 rfl) ?_
      refine lv_goto (tgt := 61) hx hb dX7_right_56 (by decide) ?_
      exact ro_ir hx hb hr rfl hlocks (by unfold riI; simp [c1, c1x, c2, c2x]) dX7_right_61
  · skip
    have c1x := Int32.not_le.mp c1
    refine lv_iload_n hx hb dX7_right_45 rfl (lv_at hl 2 rfl) ?_
    refine lv_goto (tgt := 61) hx hb dX7_right_46 (by decide) ?_
    exact ro_ir hx hb hr rfl hlocks (by unfold riI; simp [c1, c1x]) dX7_right_61

set_option maxHeartbeats 4000000 in
set_option maxRecDepth 100000 in
theorem m_X7_corrects (l : Launch) (D : va_G) (cI cS : ClassId) (b : Nat → Nat) (s kp : St) (hf : Nat → St) (sc ad bf : Nat → Int32) (T : Int) (hBd : Bd T s) (hT : T ≤ 1000000000) (zz : Nat) : Met l yX7_corrects (.code yX7_corrects cX7_corrects 4 (some .int) :: wsA) ({ frames := 2, cells := 0, slots := 0, locals := 48 } : Room) (va_Pc [.ref (b 0)] (PW D cI cS 6 b (emC cI b (mdl s kp hf sc ad bf)) zz)) (va_Qi (fun (r : Int32) (u : Unit) => r = corA 7 s) (BW D 6 b (fun u => emC cI b (mdl (corS 7 s) kp hf sc ad bf))) (AX 6 b zz)) 0 0 (AX 6 b zz) := by
  refine mgo (by decide) (Nat.le_of_ble_eq_true rfl) ?_
  intro p e z m below meth c hx hb hr hml hown hts hlocks hB ls hl
  obtain ⟨hsz, hP, hK, hE⟩ := hB
  subst hsz
  have hS : va_S (AX 6 b z.heap.size) z.heap z.heap [] := va_S.rf
  have hl : lv_has ls 4 [(0, .ref (b 0))] := hl
  refine lv_iconst (v := 0) hx hb dX7_corrects_0 (by decide) ?_
  refine lv_istore_n (lv' := [(1, .int 0), (0, .ref (b 0))]) hx hb dX7_corrects_1 rfl hl (by decide) rfl (fun ls hl => ?_)
  refine lv_iconst (v := 0) hx hb dX7_corrects_2 (by decide) ?_
  refine lv_istore_n (lv' := [(2, .int 0), (1, .int 0), (0, .ref (b 0))]) hx hb dX7_corrects_3 rfl hl (by decide) rfl (fun ls hl => ?_)
  have loop4 : ∀ (fu : Nat) (j : Nat) (x : Int32) (t : St), 7 + 1 ≤ j + fu → (j ≤ 7) → (t = corS j s) → (x = corA j s) → (Bd T t) → ∀ (H : Heap) (locs : List Loc), HP D 6 b (emC cI b (mdl t kp hf sc ad bf)) H → va_S (AX 6 b z.heap.size) z.heap H locs → ∀ ls : Array Slot, lv_has ls 4 [(0, .ref (b 0)), (1, .int x), (2, .int (nI j))] → W p l e ({ frames := 2, cells := 0, slots := 0, locals := 48 } : Room) z m ([.ref (b 0)] : List Value).toArray below meth c H locs 0 0 (MQ below (va_Qi (fun (r : Int32) (u : Unit) => r = corA 7 s) (BW D 6 b (fun u => emC cI b (mdl (corS 7 s) kp hf sc ad bf))) (AX 6 b z.heap.size)) ([.ref (b 0)] : List Value).toArray z 0 0 (AX 6 b z.heap.size)) (F0 m 4 ls []) := by
    intro fu
    induction fu with
    | zero => intro j x t hn hj ht hx1 hBt; exact absurd hn (by omega)
    | succ fu ih4 =>
      intro j x t hn hj ht hx1 hBt H locs hP hS ls hl
      refine lv_iload_n hx hb dX7_corrects_4 rfl (lv_at hl 2 rfl) ?_
      refine lv_bipush (v := 7) hx hb dX7_corrects_5 (by decide) ?_
      refine lv_icmp_ge (tgt := 45) hx hb dX7_corrects_7 (by decide) (fun c1 => ?_) (fun c1 => ?_)
      · skip
        have c1x := Int32.not_lt.mpr c1
        have c1n := (nI_le2 (p := 7) (q := j) rfl rfl (by omega) (by omega)).mp c1
        have c1n : 7 ≤ j := c1n
        have hjq : 7 = j := by omega
        subst hjq
        refine lv_iload_n hx hb dX7_corrects_45 rfl (lv_at hl 1 rfl) ?_
        have hWs : (corS 7 s) = t := by exact ht.symm
        have hP := hP.cast (e' := emC cI b (mdl (corS 7 s) kp hf sc ad bf)) (by rw [hWs])
        exact rw_ir hx hb hr rfl hlocks hS () hP hx1 dX7_corrects_46
      · skip
        have c1x := Int32.not_le.mp c1
        have c1n := fun hq0 => c1 ((nI_le2 (p := 7) (q := j) rfl rfl (by omega) (by omega)).mpr hq0)
        have c1n : ¬ (7 ≤ j) := c1n
        refine lv_aload_n hx hb dX7_corrects_10 rfl (lv_at hl 0 rfl) ?_
        refine lv_iload_n hx hb dX7_corrects_11 rfl (lv_at hl 2 rfl) ?_
        refine ro_i (va_runV (As := [.int (nI j)]) (rest := []) ⟨hx, hb, hml, hown, hts⟩ (m_X7_right l D cI cS b t kp hf sc ad bf j (by omega)) (cwV 1 hts (gV tw871 tw868 tw870 ts34 tw8) rfl rfl rfl (by decide +kernel) ⟨Nat.le_of_ble_eq_true rfl, Nat.le_of_ble_eq_true rfl⟩) (pvR 0 hK hP (by decide) rfl rfl) rfl rfl hl.1 rfl (lv_room (Nat.le_of_ble_eq_true rfl)) dX7_corrects_12 ⟨Nat.le_of_ble_eq_true rfl, Nat.le_of_ble_eq_true rfl⟩) (fun r3 hr2 => ?_)
        subst hr2
        refine lv_istore_n (lv' := [(3, .int (riI t j)), (0, .ref (b 0)), (1, .int x), (2, .int (nI j))]) hx hb dX7_corrects_15 rfl hl (by decide) rfl (fun ls hl => ?_)
        refine lv_iload_n hx hb dX7_corrects_16 rfl (lv_at hl 2 rfl) ?_
        refine lv_iload_n hx hb dX7_corrects_17 rfl (lv_at hl 0 rfl) ?_
        refine lv_aload_n hx hb dX7_corrects_18 rfl (lv_at hl 1 rfl) ?_
        refine g_get hx hb hts hown inA7 hK hP 0 (by decide) rfl rfl 0 (by decide) tw760 rfl (v := .ref (b 1)) rfl dX7_corrects_19 ?_
        refine lv_bipush (v := 6) hx hb dX7_corrects_22 (by decide) ?_
        refine lv_iload_n hx hb dX7_corrects_24 rfl (lv_at hl 3 rfl) ?_
        refine lv_iadd hx hb dX7_corrects_25 ?_
        refine lv_as (y := nI (6 + j)) (nI_add2 (p := 6) (q := j) rfl rfl) ?_
        refine g_iald hx hb hK hP 1 (by decide) rfl (6 + j) rfl (by omega) (by decide) dX7_corrects_26 (v := t 1 j) ((fl_g1 (s := t) (d := j) (by omega)).trans rfl) ?_
        refine lv_isub hx hb dX7_corrects_27 ?_
        refine ro_i (va_runS (As := [.int ((riI t j) - (t 1 j))]) (rest := [.int x]) ⟨hx, hb, hml, hown, hts⟩ (m_X7_size l ((riI t j) - (t 1 j))) (va_cwS 1 hts (gS tw855 tw853 tw854 tw8) rfl rfl rfl (by decide +kernel) ⟨Nat.le_of_ble_eq_true rfl, Nat.le_of_ble_eq_true rfl⟩) ps0 rfl rfl hl.1 rfl (lv_room (Nat.le_of_ble_eq_true rfl)) dX7_corrects_28 ⟨Nat.le_of_ble_eq_true rfl, Nat.le_of_ble_eq_true rfl⟩) (fun r6 hr5 => ?_)
        subst hr5
        refine lv_iadd hx hb dX7_corrects_31 ?_
        refine lv_istore_n (lv' := [(1, .int (x + (absI ((riI t j) - (t 1 j))))), (3, .int (riI t j)), (0, .ref (b 0)), (2, .int (nI j))]) hx hb dX7_corrects_32 rfl hl (by decide) rfl (fun ls hl => ?_)
        refine lv_aload_n hx hb dX7_corrects_33 rfl (lv_at hl 2 rfl) ?_
        refine lv_iload_n hx hb dX7_corrects_34 rfl (lv_at hl 3 rfl) ?_
        refine lv_iload_n hx hb dX7_corrects_35 rfl (lv_at hl 1 rfl) ?_
        refine rw_v hS (va_runV (As := [.int (nI j), .int (riI t j)]) (rest := []) ⟨hx, hb, hml, hown, hts⟩ (m_X7_moves l D cI cS b t kp hf sc ad bf j (by omega) (riI t j) _) (cwV 2 hts (gV tw875 tw872 tw874 ts35 tw8) rfl rfl rfl (by decide +kernel) ⟨Nat.le_of_ble_eq_true rfl, Nat.le_of_ble_eq_true rfl⟩) (pvW 0 hK hP hE (by decide) rfl rfl) rfl rfl hl.1 rfl (lv_room (Nat.le_of_ble_eq_true rfl)) dX7_corrects_36 ⟨Nat.le_of_ble_eq_true rfl, Nat.le_of_ble_eq_true rfl⟩) (fun u10 H locs hr8 hP hS => ?_)
        refine lv_iinc (v := nI (j + 1)) (lv' := [(2, .int (nI (j + 1))), (1, .int (x + (absI ((riI t j) - (t 1 j))))), (3, .int (riI t j)), (0, .ref (b 0))]) hx hb dX7_corrects_39 hl (k := 3) rfl (nI_add j 1) (by decide) rfl (fun ls hl => ?_)
        refine lv_goto (tgt := 4) hx hb dX7_corrects_42 (by decide) ?_
        exact ih4 (j + 1) (x + (absI ((riI t j) - (t 1 j)))) (mvS t j (riI t j)) (by omega) (by omega) (by rw [cor_s hBt (by omega), ht]; rfl) (by rw [cor_a hBt (by omega), hx1, ht]; rfl) (hBt.cor (by omega)) _ _ hP hS ls (lv_sub hl [3, 1, 0] rfl)
  exact loop4 (7 + 1) 0 0 s (by omega) (by omega) rfl rfl hBd _ _ hP hS ls (lv_sub hl [2, 1, 0] rfl)

set_option maxHeartbeats 4000000 in
set_option maxRecDepth 100000 in
theorem m_X7_wrongDials (l : Launch) (D : va_G) (cI cS : ClassId) (b : Nat → Nat) (s kp : St) (hf : Nat → St) (sc ad bf : Nat → Int32) (T : Int) (hBd : Bd T s) (hT : T ≤ 1000000000) : Met l yX7_wrongDials (.code yX7_wrongDials cX7_wrongDials 3 (some .int) :: wsA) ({ frames := 1, cells := 0, slots := 0, locals := 24 } : Room) (va_Pc [.ref (b 0)] (PR D cI cS 6 b (emC cI b (mdl s kp hf sc ad bf)))) (vp_Si (fun r => r = offC s 7)) 0 0 (fun _ => False) := by
  refine mgo (by decide) (Nat.le_of_ble_eq_true rfl) ?_
  intro p e z m below meth c hx hb hr hml hown hts hlocks hB ls hl
  obtain ⟨hP, hK⟩ := hB
  have hl : lv_has ls 3 [(0, .ref (b 0))] := hl
  refine lv_iconst (v := 0) hx hb dX7_wrongDials_0 (by decide) ?_
  refine lv_istore_n (lv' := [(1, .int 0), (0, .ref (b 0))]) hx hb dX7_wrongDials_1 rfl hl (by decide) rfl (fun ls hl => ?_)
  refine lv_iconst (v := 0) hx hb dX7_wrongDials_2 (by decide) ?_
  refine lv_istore_n (lv' := [(2, .int 0), (1, .int 0), (0, .ref (b 0))]) hx hb dX7_wrongDials_3 rfl hl (by decide) rfl (fun ls hl => ?_)
  have loop4 : ∀ (fu : Nat) (j : Nat) (x : Int32), 7 + 1 ≤ j + fu → (j ≤ 7) → (x = offC s j) → ∀ ls : Array Slot, lv_has ls 3 [(0, .ref (b 0)), (1, .int x), (2, .int (nI j))] → W p l e ({ frames := 1, cells := 0, slots := 0, locals := 24 } : Room) z m ([.ref (b 0)] : List Value).toArray below meth c z.heap [] 0 0 (MQ below (vp_Si (fun r => r = offC s 7)) ([.ref (b 0)] : List Value).toArray z 0 0 (fun _ => False)) (F0 m 4 ls []) := by
    intro fu
    induction fu with
    | zero => intro j x hn hj hx1; exact absurd hn (by omega)
    | succ fu ih4 =>
      intro j x hn hj hx1 ls hl
      refine lv_iload_n hx hb dX7_wrongDials_4 rfl (lv_at hl 2 rfl) ?_
      refine lv_bipush (v := 7) hx hb dX7_wrongDials_5 (by decide) ?_
      refine lv_icmp_ge (tgt := 41) hx hb dX7_wrongDials_7 (by decide) (fun c1 => ?_) (fun c1 => ?_)
      · skip
        have c1x := Int32.not_lt.mpr c1
        have c1n := (nI_le2 (p := 7) (q := j) rfl rfl (by omega) (by omega)).mp c1
        have c1n : 7 ≤ j := c1n
        have hjq : 7 = j := by omega
        subst hjq
        refine lv_iload_n hx hb dX7_wrongDials_41 rfl (lv_at hl 1 rfl) ?_
        exact ro_ir hx hb hr rfl hlocks hx1 dX7_wrongDials_42
      · skip
        have c1x := Int32.not_le.mp c1
        have c1n := fun hq0 => c1 ((nI_le2 (p := 7) (q := j) rfl rfl (by omega) (by omega)).mpr hq0)
        have c1n : ¬ (7 ≤ j) := c1n
        refine lv_iload_n hx hb dX7_wrongDials_10 rfl (lv_at hl 1 rfl) ?_
        refine lv_aload_n hx hb dX7_wrongDials_11 rfl (lv_at hl 0 rfl) ?_
        refine lv_iload_n hx hb dX7_wrongDials_12 rfl (lv_at hl 2 rfl) ?_
        refine ro_i (va_runV (As := [.int (nI j)]) (rest := [.int x]) ⟨hx, hb, hml, hown, hts⟩ (m_X7_right l D cI cS b s kp hf sc ad bf j (by omega)) (cwV 1 hts (gV tw871 tw868 tw870 ts34 tw8) rfl rfl rfl (by decide +kernel) ⟨Nat.le_of_ble_eq_true rfl, Nat.le_of_ble_eq_true rfl⟩) (pvR 0 hK hP (by decide) rfl rfl) rfl rfl hl.1 rfl (lv_room (Nat.le_of_ble_eq_true rfl)) dX7_wrongDials_13 ⟨Nat.le_of_ble_eq_true rfl, Nat.le_of_ble_eq_true rfl⟩) (fun r3 hr2 => ?_)
        subst hr2
        refine lv_aload_n hx hb dX7_wrongDials_16 rfl (lv_at hl 0 rfl) ?_
        refine g_get hx hb hts hown inA7 hK hP 0 (by decide) rfl rfl 0 (by decide) tw760 rfl (v := .ref (b 1)) rfl dX7_wrongDials_17 ?_
        refine lv_bipush (v := 6) hx hb dX7_wrongDials_20 (by decide) ?_
        refine lv_iload_n hx hb dX7_wrongDials_22 rfl (lv_at hl 2 rfl) ?_
        refine lv_iadd hx hb dX7_wrongDials_23 ?_
        refine lv_as (y := nI (6 + j)) (nI_add2 (p := 6) (q := j) rfl rfl) ?_
        refine g_iald hx hb hK hP 1 (by decide) rfl (6 + j) rfl (by omega) (by decide) dX7_wrongDials_24 (v := s 1 j) ((fl_g1 (s := s) (d := j) (by omega)).trans rfl) ?_
        refine lv_icmp_ne (tgt := 32) hx hb dX7_wrongDials_25 (by decide) (fun c5 => ?_) (fun c5 => ?_)
        · skip
          refine lv_iconst (v := 1) hx hb dX7_wrongDials_32 (by decide) ?_
          refine lv_iadd hx hb dX7_wrongDials_33 ?_
          refine lv_istore_n (lv' := [(1, .int (x + 1)), (0, .ref (b 0)), (2, .int (nI j))]) hx hb dX7_wrongDials_34 rfl hl (by decide) rfl (fun ls hl => ?_)
          refine lv_iinc (v := nI (j + 1)) (lv' := [(2, .int (nI (j + 1))), (1, .int (x + 1)), (0, .ref (b 0))]) hx hb dX7_wrongDials_35 hl (k := 2) rfl (nI_add j 1) (by decide) rfl (fun ls hl => ?_)
          refine lv_goto (tgt := 4) hx hb dX7_wrongDials_38 (by decide) ?_
          exact ih4 (j + 1) (x + 1) (by omega) (by omega) (by rw [offC, ← hx1, if_pos (Decidable.not_not.mp (fun h => c5 ((ri_off hBd (by omega)).mpr h)))]) ls (lv_sub hl [2, 1, 0] rfl)
        · skip
          refine lv_iconst (v := 0) hx hb dX7_wrongDials_28 (by decide) ?_
          refine lv_goto (tgt := 33) hx hb dX7_wrongDials_29 (by decide) ?_
          refine lv_iadd hx hb dX7_wrongDials_33 ?_
          refine lv_istore_n (lv' := [(1, .int (x + 0)), (0, .ref (b 0)), (2, .int (nI j))]) hx hb dX7_wrongDials_34 rfl hl (by decide) rfl (fun ls hl => ?_)
          refine lv_iinc (v := nI (j + 1)) (lv' := [(2, .int (nI (j + 1))), (1, .int (x + 0)), (0, .ref (b 0))]) hx hb dX7_wrongDials_35 hl (k := 2) rfl (nI_add j 1) (by decide) rfl (fun ls hl => ?_)
          refine lv_goto (tgt := 4) hx hb dX7_wrongDials_38 (by decide) ?_
          exact ih4 (j + 1) (x + 0) (by omega) (by omega) (by rw [offC, ← hx1, if_neg ((ri_off hBd (by omega)).mp c5)]) ls (lv_sub hl [2, 1, 0] rfl)
  exact loop4 (7 + 1) 0 0 (by omega) (by omega) rfl ls (lv_sub hl [2, 1, 0] rfl)

set_option maxHeartbeats 4000000 in
set_option maxRecDepth 100000 in
theorem m_X7_word (l : Launch) (D : va_G) (cI cS : ClassId) (b : Nat → Nat) (s kp : St) (hf : Nat → St) (sc ad bf : Nat → Int32) (w : Nat) (hw : w < 7) : Met l yX7_word (.code yX7_word cX7_word 3 (some .int) :: wsA) ({ frames := 0, cells := 0, slots := 0, locals := 0 } : Room) (va_Pc [.ref (b 0), .int (nI w)] (PR D cI cS 6 b (emC cI b (mdl s kp hf sc ad bf)))) (vp_Si (fun r => r = wordA s w)) 0 0 (fun _ => False) := by
  refine mgo (by decide) (Nat.le_of_ble_eq_true rfl) ?_
  intro p e z m below meth c hx hb hr hml hown hts hlocks hB ls hl
  obtain ⟨hP, hK⟩ := hB
  have hl : lv_has ls 3 [(0, .ref (b 0)), (1, .int (nI w))] := hl
  refine lv_aload_n hx hb dX7_word_0 rfl (lv_at hl 0 rfl) ?_
  refine g_get hx hb hts hown inA7 hK hP 0 (by decide) rfl rfl 0 (by decide) tw760 rfl (v := .ref (b 1)) rfl dX7_word_1 ?_
  refine lv_bipush (v := 6) hx hb dX7_word_4 (by decide) ?_
  refine lv_iload_n hx hb dX7_word_6 rfl (lv_at hl 1 rfl) ?_
  refine lv_iadd hx hb dX7_word_7 ?_
  refine lv_as (y := nI (6 + w)) (nI_add2 (p := 6) (q := w) rfl rfl) ?_
  refine g_iald hx hb hK hP 1 (by decide) rfl (6 + w) rfl (by omega) (by decide) dX7_word_8 (v := s 1 w) ((fl_g1 (s := s) (d := w) (by omega)).trans rfl) ?_
  refine lv_aload_n hx hb dX7_word_9 rfl (lv_at hl 0 rfl) ?_
  refine g_get hx hb hts hown inA7 hK hP 0 (by decide) rfl rfl 0 (by decide) tw760 rfl (v := .ref (b 1)) rfl dX7_word_10 ?_
  refine lv_bipush (v := 55) hx hb dX7_word_13 (by decide) ?_
  refine lv_iload_n hx hb dX7_word_15 rfl (lv_at hl 1 rfl) ?_
  refine lv_iadd hx hb dX7_word_16 ?_
  refine lv_as (y := nI (55 + w)) (nI_add2 (p := 55) (q := w) rfl rfl) ?_
  refine g_iald hx hb hK hP 1 (by decide) rfl (55 + w) rfl (by omega) (by decide) dX7_word_17 (v := s 8 w) ((fl_g8 (s := s) (d := w) (by omega)).trans rfl) ?_
  refine lv_iadd hx hb dX7_word_18 ?_
  refine lv_istore_n (lv' := [(2, .int ((s 1 w) + (s 8 w))), (0, .ref (b 0)), (1, .int (nI w))]) hx hb dX7_word_19 rfl hl (by decide) rfl (fun ls hl => ?_)
  refine lv_iload_n hx hb dX7_word_20 rfl (lv_at hl 0 rfl) ?_
  refine lv_if_ge (tgt := 28) hx hb dX7_word_21 (by decide) (fun c1 => ?_) (fun c1 => ?_)
  · skip
    have c1x := Int32.not_lt.mpr c1
    refine lv_iload_n hx hb dX7_word_28 rfl (lv_at hl 0 rfl) ?_
    refine lv_ldc hx hb hown (hts _ tw821) dX7_word_29 ?_
    refine lv_icmp_le (tgt := 39) hx hb dX7_word_31 (by decide) (fun c2 => ?_) (fun c2 => ?_)
    · skip
      have c2x := Int32.not_lt.mpr c2
      refine lv_iload_n hx hb dX7_word_39 rfl (lv_at hl 0 rfl) ?_
      exact ro_ir hx hb hr rfl hlocks (by unfold wordA wordF clampW; simp [c1, c1x, c2, c2x]) dX7_word_40
    · skip
      have c2x := Int32.not_le.mp c2
      refine lv_ldc hx hb hown (hts _ tw821) dX7_word_34 ?_
      refine lv_goto (tgt := 40) hx hb dX7_word_36 (by decide) ?_
      exact ro_ir hx hb hr rfl hlocks (by unfold wordA wordF clampW; simp [c1, c1x, c2, c2x]) dX7_word_40
  · skip
    have c1x := Int32.not_le.mp c1
    refine lv_iconst (v := 0) hx hb dX7_word_24 (by decide) ?_
    refine lv_goto (tgt := 40) hx hb dX7_word_25 (by decide) ?_
    exact ro_ir hx hb hr rfl hlocks (by unfold wordA wordF clampW; simp [c1, c1x]) dX7_word_40

set_option maxHeartbeats 4000000 in
set_option maxRecDepth 100000 in
theorem m_X7_weights (l : Launch) (D : va_G) (cI cS : ClassId) (b : Nat → Nat) (s kp : St) (hf : Nat → St) (sc ad bf : Nat → Int32) : Met l yX7_weights (.code yX7_weights cX7_weights 3 (some .int) :: wsA) ({ frames := 0, cells := 0, slots := 0, locals := 0 } : Room) (va_Pc [.ref (b 0)] (PR D cI cS 6 b (emC cI b (mdl s kp hf sc ad bf)))) (vp_Si (fun r => r = sumN (s 7) 7)) 0 0 (fun _ => False) := by
  refine mgo (by decide) (Nat.le_of_ble_eq_true rfl) ?_
  intro p e z m below meth c hx hb hr hml hown hts hlocks hB ls hl
  obtain ⟨hP, hK⟩ := hB
  have hl : lv_has ls 3 [(0, .ref (b 0))] := hl
  refine lv_iconst (v := 0) hx hb dX7_weights_0 (by decide) ?_
  refine lv_istore_n (lv' := [(1, .int 0), (0, .ref (b 0))]) hx hb dX7_weights_1 rfl hl (by decide) rfl (fun ls hl => ?_)
  refine lv_iconst (v := 0) hx hb dX7_weights_2 (by decide) ?_
  refine lv_istore_n (lv' := [(2, .int 0), (1, .int 0), (0, .ref (b 0))]) hx hb dX7_weights_3 rfl hl (by decide) rfl (fun ls hl => ?_)
  have loop4 : ∀ (fu : Nat) (j : Nat) (x : Int32), 7 + 1 ≤ j + fu → (j ≤ 7) → (x = sumN (s 7) j) → ∀ ls : Array Slot, lv_has ls 3 [(0, .ref (b 0)), (1, .int x), (2, .int (nI j))] → W p l e ({ frames := 0, cells := 0, slots := 0, locals := 0 } : Room) z m ([.ref (b 0)] : List Value).toArray below meth c z.heap [] 0 0 (MQ below (vp_Si (fun r => r = sumN (s 7) 7)) ([.ref (b 0)] : List Value).toArray z 0 0 (fun _ => False)) (F0 m 4 ls []) := by
    intro fu
    induction fu with
    | zero => intro j x hn hj hx1; exact absurd hn (by omega)
    | succ fu ih4 =>
      intro j x hn hj hx1 ls hl
      refine lv_iload_n hx hb dX7_weights_4 rfl (lv_at hl 2 rfl) ?_
      refine lv_bipush (v := 7) hx hb dX7_weights_5 (by decide) ?_
      refine lv_icmp_ge (tgt := 28) hx hb dX7_weights_7 (by decide) (fun c1 => ?_) (fun c1 => ?_)
      · skip
        have c1x := Int32.not_lt.mpr c1
        have c1n := (nI_le2 (p := 7) (q := j) rfl rfl (by omega) (by omega)).mp c1
        have c1n : 7 ≤ j := c1n
        have hjq : 7 = j := by omega
        subst hjq
        refine lv_iload_n hx hb dX7_weights_28 rfl (lv_at hl 1 rfl) ?_
        exact ro_ir hx hb hr rfl hlocks hx1 dX7_weights_29
      · skip
        have c1x := Int32.not_le.mp c1
        have c1n := fun hq0 => c1 ((nI_le2 (p := 7) (q := j) rfl rfl (by omega) (by omega)).mpr hq0)
        have c1n : ¬ (7 ≤ j) := c1n
        refine lv_iload_n hx hb dX7_weights_10 rfl (lv_at hl 1 rfl) ?_
        refine lv_aload_n hx hb dX7_weights_11 rfl (lv_at hl 0 rfl) ?_
        refine g_get hx hb hts hown inA7 hK hP 0 (by decide) rfl rfl 0 (by decide) tw760 rfl (v := .ref (b 1)) rfl dX7_weights_12 ?_
        refine lv_bipush (v := 48) hx hb dX7_weights_15 (by decide) ?_
        refine lv_iload_n hx hb dX7_weights_17 rfl (lv_at hl 2 rfl) ?_
        refine lv_iadd hx hb dX7_weights_18 ?_
        refine lv_as (y := nI (48 + j)) (nI_add2 (p := 48) (q := j) rfl rfl) ?_
        refine g_iald hx hb hK hP 1 (by decide) rfl (48 + j) rfl (by omega) (by decide) dX7_weights_19 (v := s 7 j) ((fl_g7 (s := s) (d := j) (by omega)).trans rfl) ?_
        refine lv_iadd hx hb dX7_weights_20 ?_
        refine lv_istore_n (lv' := [(1, .int (x + (s 7 j))), (0, .ref (b 0)), (2, .int (nI j))]) hx hb dX7_weights_21 rfl hl (by decide) rfl (fun ls hl => ?_)
        refine lv_iinc (v := nI (j + 1)) (lv' := [(2, .int (nI (j + 1))), (1, .int (x + (s 7 j))), (0, .ref (b 0))]) hx hb dX7_weights_22 hl (k := 2) rfl (nI_add j 1) (by decide) rfl (fun ls hl => ?_)
        refine lv_goto (tgt := 4) hx hb dX7_weights_25 (by decide) ?_
        exact ih4 (j + 1) (x + (s 7 j)) (by omega) (by omega) (by rw [sumN, ← hx1]) ls (lv_sub hl [2, 1, 0] rfl)
  exact loop4 (7 + 1) 0 0 (by omega) (by omega) rfl ls (lv_sub hl [2, 1, 0] rfl)

set_option maxHeartbeats 4000000 in
set_option maxRecDepth 100000 in
theorem m_X7_behind (l : Launch) (d : Nat) (hd : d < 7) : Met l yX7_behind (.code yX7_behind cX7_behind 1 (some .int) :: wsA) ({ frames := 0, cells := 0, slots := 0, locals := 0 } : Room) (va_Pc [.int (nI d)] (fun _ => True)) (vp_Si (fun r => r = nI (behN d))) 0 0 (fun _ => False) := by
  refine mgo (by decide) (Nat.le_of_ble_eq_true rfl) ?_
  intro p e z m below meth c hx hb hr hml hown hts hlocks hB ls hl
  have hl : lv_has ls 1 [(0, .int (nI d))] := hl
  refine lv_iload_n hx hb dX7_behind_0 rfl (lv_at hl 0 rfl) ?_
  refine lv_iconst (v := 1) hx hb dX7_behind_1 (by decide) ?_
  refine lv_iadd hx hb dX7_behind_2 ?_
  refine lv_as (y := nI (d + 1)) (nI_add2 (p := d) (q := 1) rfl rfl) ?_
  refine lv_bipush (v := 7) hx hb dX7_behind_3 (by decide) ?_
  refine lv_irem hx hb dX7_behind_5 (by decide) ?_
  refine lv_as (y := nI ((d + 1) % 7)) (nI_rem2 (p := d + 1) (q := 7) rfl rfl (by omega) (by omega) (by omega)) ?_
  exact ro_ir hx hb hr rfl hlocks (by rw [show (d + 1) % 7 = behN d by unfold behN; split <;> omega]) dX7_behind_6

set_option maxHeartbeats 4000000 in
set_option maxRecDepth 100000 in
theorem m_X7_quarrel (l : Launch) (D : va_G) (cI cS : ClassId) (b : Nat → Nat) (s kp : St) (hf : Nat → St) (sc ad bf : Nat → Int32) (d : Nat) (hd : d < 7) : Met l yX7_quarrel (.code yX7_quarrel cX7_quarrel 2 (some .boolean) :: wsA) ({ frames := 1, cells := 0, slots := 0, locals := 22 } : Room) (va_Pc [.ref (b 0), .int (nI d)] (PR D cI cS 6 b (emC cI b (mdl s kp hf sc ad bf)))) (vp_Si (fun r => r = bI (quarB s d))) 0 0 (fun _ => False) := by
  refine mgo (by decide) (Nat.le_of_ble_eq_true rfl) ?_
  intro p e z m below meth c hx hb hr hml hown hts hlocks hB ls hl
  obtain ⟨hP, hK⟩ := hB
  have hl : lv_has ls 2 [(0, .ref (b 0)), (1, .int (nI d))] := hl
  refine lv_aload_n hx hb dX7_quarrel_0 rfl (lv_at hl 0 rfl) ?_
  refine lv_iload_n hx hb dX7_quarrel_1 rfl (lv_at hl 1 rfl) ?_
  have hbd := behN_lt (d := d)
  refine ro_i (va_runV (As := [.int (nI d)]) (rest := []) ⟨hx, hb, hml, hown, hts⟩ (m_X7_word l D cI cS b s kp hf sc ad bf d (by omega)) (cwV 1 hts (gV tw845 tw842 tw844 ts30 tw8) rfl rfl rfl (by decide +kernel) ⟨Nat.le_of_ble_eq_true rfl, Nat.le_of_ble_eq_true rfl⟩) (pvR 0 hK hP (by decide) rfl rfl) rfl rfl hl.1 rfl (lv_room (Nat.le_of_ble_eq_true rfl)) dX7_quarrel_2 ⟨Nat.le_of_ble_eq_true rfl, Nat.le_of_ble_eq_true rfl⟩) (fun r2 hr1 => ?_)
  subst hr1
  refine lv_aload_n hx hb dX7_quarrel_5 rfl (lv_at hl 0 rfl) ?_
  refine lv_iload_n hx hb dX7_quarrel_6 rfl (lv_at hl 1 rfl) ?_
  refine ro_i (va_runS (As := [.int (nI d)]) (rest := [.ref (b 0), .int (wordA s d)]) ⟨hx, hb, hml, hown, hts⟩ (m_X7_behind l d (by omega)) (va_cwS 1 hts (gS tw852 tw850 tw851 tw8) rfl rfl rfl (by decide +kernel) ⟨Nat.le_of_ble_eq_true rfl, Nat.le_of_ble_eq_true rfl⟩) ps0 rfl rfl hl.1 rfl (lv_room (Nat.le_of_ble_eq_true rfl)) dX7_quarrel_7 ⟨Nat.le_of_ble_eq_true rfl, Nat.le_of_ble_eq_true rfl⟩) (fun r5 hr4 => ?_)
  subst hr4
  refine ro_i (va_runV (As := [.int (nI (behN d))]) (rest := [.int (wordA s d)]) ⟨hx, hb, hml, hown, hts⟩ (m_X7_word l D cI cS b s kp hf sc ad bf (behN d) (by omega)) (cwV 1 hts (gV tw845 tw842 tw844 ts30 tw8) rfl rfl rfl (by decide +kernel) ⟨Nat.le_of_ble_eq_true rfl, Nat.le_of_ble_eq_true rfl⟩) (pvR 0 hK hP (by decide) rfl rfl) rfl rfl hl.1 rfl (lv_room (Nat.le_of_ble_eq_true rfl)) dX7_quarrel_10 ⟨Nat.le_of_ble_eq_true rfl, Nat.le_of_ble_eq_true rfl⟩) (fun r8 hr7 => ?_)
  subst hr7
  refine lv_isub hx hb dX7_quarrel_13 ?_
  refine ro_i (va_runS (As := [.int ((wordA s d) - (wordA s (behN d)))]) (rest := []) ⟨hx, hb, hml, hown, hts⟩ (m_X7_size l ((wordA s d) - (wordA s (behN d)))) (va_cwS 1 hts (gS tw855 tw853 tw854 tw8) rfl rfl rfl (by decide +kernel) ⟨Nat.le_of_ble_eq_true rfl, Nat.le_of_ble_eq_true rfl⟩) ps0 rfl rfl hl.1 rfl (lv_room (Nat.le_of_ble_eq_true rfl)) dX7_quarrel_14 ⟨Nat.le_of_ble_eq_true rfl, Nat.le_of_ble_eq_true rfl⟩) (fun r11 hr10 => ?_)
  subst hr10
  refine lv_as (y := distI (wordA s d) (wordA s (behN d))) (abs_dist word_ok.1 word_ok.1) ?_
  refine lv_aload_n hx hb dX7_quarrel_17 rfl (lv_at hl 0 rfl) ?_
  refine g_get hx hb hts hown inA7 hK hP 0 (by decide) rfl rfl 0 (by decide) tw760 rfl (v := .ref (b 1)) rfl dX7_quarrel_18 ?_
  refine lv_iconst (v := 2) hx hb dX7_quarrel_21 (by decide) ?_
  refine g_iald hx hb hK hP 1 (by decide) rfl 2 rfl (by omega) (by decide) dX7_quarrel_22 (v := s 10 0) ((fl_g10 (s := s) (d := 0) (by omega)).trans rfl) ?_
  refine lv_icmp_le (tgt := 30) hx hb dX7_quarrel_23 (by decide) (fun c13 => ?_) (fun c13 => ?_)
  · skip
    have c13x := Int32.not_lt.mpr c13
    refine lv_iconst (v := 0) hx hb dX7_quarrel_30 (by decide) ?_
    exact ro_ir hx hb hr rfl hlocks (bI_f c13x).symm dX7_quarrel_31
  · skip
    have c13x := Int32.not_le.mp c13
    refine lv_iconst (v := 1) hx hb dX7_quarrel_26 (by decide) ?_
    refine lv_goto (tgt := 31) hx hb dX7_quarrel_27 (by decide) ?_
    exact ro_ir hx hb hr rfl hlocks (bI_t c13x).symm dX7_quarrel_31

set_option maxHeartbeats 4000000 in
set_option maxRecDepth 100000 in
theorem m_X7_quarrels (l : Launch) (D : va_G) (cI cS : ClassId) (b : Nat → Nat) (s kp : St) (hf : Nat → St) (sc ad bf : Nat → Int32) : Met l yX7_quarrels (.code yX7_quarrels cX7_quarrels 3 (some .int) :: wsA) ({ frames := 2, cells := 0, slots := 0, locals := 43 } : Room) (va_Pc [.ref (b 0)] (PR D cI cS 6 b (emC cI b (mdl s kp hf sc ad bf)))) (vp_Si (fun r => r = quarC s 7)) 0 0 (fun _ => False) := by
  refine mgo (by decide) (Nat.le_of_ble_eq_true rfl) ?_
  intro p e z m below meth c hx hb hr hml hown hts hlocks hB ls hl
  obtain ⟨hP, hK⟩ := hB
  have hl : lv_has ls 3 [(0, .ref (b 0))] := hl
  refine lv_iconst (v := 0) hx hb dX7_quarrels_0 (by decide) ?_
  refine lv_istore_n (lv' := [(1, .int 0), (0, .ref (b 0))]) hx hb dX7_quarrels_1 rfl hl (by decide) rfl (fun ls hl => ?_)
  refine lv_iconst (v := 0) hx hb dX7_quarrels_2 (by decide) ?_
  refine lv_istore_n (lv' := [(2, .int 0), (1, .int 0), (0, .ref (b 0))]) hx hb dX7_quarrels_3 rfl hl (by decide) rfl (fun ls hl => ?_)
  have loop4 : ∀ (fu : Nat) (j : Nat) (x : Int32), 7 + 1 ≤ j + fu → (j ≤ 7) → (x = quarC s j) → ∀ ls : Array Slot, lv_has ls 3 [(0, .ref (b 0)), (1, .int x), (2, .int (nI j))] → W p l e ({ frames := 2, cells := 0, slots := 0, locals := 43 } : Room) z m ([.ref (b 0)] : List Value).toArray below meth c z.heap [] 0 0 (MQ below (vp_Si (fun r => r = quarC s 7)) ([.ref (b 0)] : List Value).toArray z 0 0 (fun _ => False)) (F0 m 4 ls []) := by
    intro fu
    induction fu with
    | zero => intro j x hn hj hx1; exact absurd hn (by omega)
    | succ fu ih4 =>
      intro j x hn hj hx1 ls hl
      refine lv_iload_n hx hb dX7_quarrels_4 rfl (lv_at hl 2 rfl) ?_
      refine lv_bipush (v := 7) hx hb dX7_quarrels_5 (by decide) ?_
      refine lv_icmp_ge (tgt := 32) hx hb dX7_quarrels_7 (by decide) (fun c1 => ?_) (fun c1 => ?_)
      · skip
        have c1x := Int32.not_lt.mpr c1
        have c1n := (nI_le2 (p := 7) (q := j) rfl rfl (by omega) (by omega)).mp c1
        have c1n : 7 ≤ j := c1n
        have hjq : 7 = j := by omega
        subst hjq
        refine lv_iload_n hx hb dX7_quarrels_32 rfl (lv_at hl 1 rfl) ?_
        exact ro_ir hx hb hr rfl hlocks hx1 dX7_quarrels_33
      · skip
        have c1x := Int32.not_le.mp c1
        have c1n := fun hq0 => c1 ((nI_le2 (p := 7) (q := j) rfl rfl (by omega) (by omega)).mpr hq0)
        have c1n : ¬ (7 ≤ j) := c1n
        refine lv_iload_n hx hb dX7_quarrels_10 rfl (lv_at hl 1 rfl) ?_
        refine lv_aload_n hx hb dX7_quarrels_11 rfl (lv_at hl 0 rfl) ?_
        refine lv_iload_n hx hb dX7_quarrels_12 rfl (lv_at hl 2 rfl) ?_
        refine ro_i (va_runV (As := [.int (nI j)]) (rest := [.int x]) ⟨hx, hb, hml, hown, hts⟩ (m_X7_quarrel l D cI cS b s kp hf sc ad bf j (by omega)) (cwV 1 hts (gV tw849 tw846 tw848 ts31 tw8) rfl rfl rfl (by decide +kernel) ⟨Nat.le_of_ble_eq_true rfl, Nat.le_of_ble_eq_true rfl⟩) (pvR 0 hK hP (by decide) rfl rfl) rfl rfl hl.1 rfl (lv_room (Nat.le_of_ble_eq_true rfl)) dX7_quarrels_13 ⟨Nat.le_of_ble_eq_true rfl, Nat.le_of_ble_eq_true rfl⟩) (fun r3 hr2 => ?_)
        subst hr2
        refine lv_bI (fun c5 => ?_) (fun c5 => ?_)
        · skip
          refine lv_if_eq (tgt := 23) hx hb dX7_quarrels_16 (by decide) (fun h0 => absurd h0 (by decide)) (fun _ => ?_)
          refine lv_iconst (v := 1) hx hb dX7_quarrels_19 (by decide) ?_
          refine lv_goto (tgt := 24) hx hb dX7_quarrels_20 (by decide) ?_
          refine lv_iadd hx hb dX7_quarrels_24 ?_
          refine lv_istore_n (lv' := [(1, .int (x + 1)), (0, .ref (b 0)), (2, .int (nI j))]) hx hb dX7_quarrels_25 rfl hl (by decide) rfl (fun ls hl => ?_)
          refine lv_iinc (v := nI (j + 1)) (lv' := [(2, .int (nI (j + 1))), (1, .int (x + 1)), (0, .ref (b 0))]) hx hb dX7_quarrels_26 hl (k := 2) rfl (nI_add j 1) (by decide) rfl (fun ls hl => ?_)
          refine lv_goto (tgt := 4) hx hb dX7_quarrels_29 (by decide) ?_
          exact ih4 (j + 1) (x + 1) (by omega) (by omega) (by simp [quarC, hx1, c1, c1x, c1n, c5]) ls (lv_sub hl [2, 1, 0] rfl)
        · skip
          refine lv_if_eq (tgt := 23) hx hb dX7_quarrels_16 (by decide) (fun _ => ?_) (fun h0 => absurd (by decide) h0)
          refine lv_iconst (v := 0) hx hb dX7_quarrels_23 (by decide) ?_
          refine lv_iadd hx hb dX7_quarrels_24 ?_
          refine lv_istore_n (lv' := [(1, .int (x + 0)), (0, .ref (b 0)), (2, .int (nI j))]) hx hb dX7_quarrels_25 rfl hl (by decide) rfl (fun ls hl => ?_)
          refine lv_iinc (v := nI (j + 1)) (lv' := [(2, .int (nI (j + 1))), (1, .int (x + 0)), (0, .ref (b 0))]) hx hb dX7_quarrels_26 hl (k := 2) rfl (nI_add j 1) (by decide) rfl (fun ls hl => ?_)
          refine lv_goto (tgt := 4) hx hb dX7_quarrels_29 (by decide) ?_
          exact ih4 (j + 1) (x + 0) (by omega) (by omega) (by simp [quarC, hx1, c1, c1x, c1n, c5]) ls (lv_sub hl [2, 1, 0] rfl)
  exact loop4 (7 + 1) 0 0 (by omega) (by omega) rfl ls (lv_sub hl [2, 1, 0] rfl)

set_option maxHeartbeats 4000000 in
set_option maxRecDepth 100000 in
theorem m_X7_loses (l : Launch) (D : va_G) (cI cS : ClassId) (b : Nat → Nat) (s kp : St) (hf : Nat → St) (sc ad bf : Nat → Int32) (w : Nat) (hw : w < 7) (zz : Nat) : Met l yX7_loses (.code yX7_loses cX7_loses 2 none :: wsA) ({ frames := 0, cells := 0, slots := 0, locals := 0 } : Room) (va_Pc [.ref (b 0), .int (nI w)] (PW D cI cS 6 b (emC cI b (mdl s kp hf sc ad bf)) zz)) (va_Qv (fun (u : Unit) => True) (BW D 6 b (fun u => emC cI b (mdl (lessS s w) kp hf sc ad bf))) (AX 6 b zz)) 0 0 (AX 6 b zz) := by
  refine mgo (by decide) (Nat.le_of_ble_eq_true rfl) ?_
  intro p e z m below meth c hx hb hr hml hown hts hlocks hB ls hl
  obtain ⟨hsz, hP, hK, hE⟩ := hB
  subst hsz
  have hS : va_S (AX 6 b z.heap.size) z.heap z.heap [] := va_S.rf
  have hl : lv_has ls 2 [(0, .ref (b 0)), (1, .int (nI w))] := hl
  refine lv_aload_n hx hb dX7_loses_0 rfl (lv_at hl 0 rfl) ?_
  refine g_get hx hb hts hown inA7 hK hP 0 (by decide) rfl rfl 0 (by decide) tw760 rfl (v := .ref (b 1)) rfl dX7_loses_1 ?_
  refine lv_bipush (v := 48) hx hb dX7_loses_4 (by decide) ?_
  refine lv_iload_n hx hb dX7_loses_6 rfl (lv_at hl 1 rfl) ?_
  refine lv_iadd hx hb dX7_loses_7 ?_
  refine lv_as (y := nI (48 + w)) (nI_add2 (p := 48) (q := w) rfl rfl) ?_
  refine g_iald hx hb hK hP 1 (by decide) rfl (48 + w) rfl (by omega) (by decide) dX7_loses_8 (v := s 7 w) ((fl_g7 (s := s) (d := w) (by omega)).trans rfl) ?_
  refine lv_if_le (tgt := 38) hx hb dX7_loses_9 (by decide) (fun c1 => ?_) (fun c1 => ?_)
  · skip
    have c1x := Int32.not_lt.mpr c1
    have hWs : (lessS s w) = s := by unfold lessS; rw [if_neg c1x]
    have hP := hP.cast (e' := emC cI b (mdl (lessS s w) kp hf sc ad bf)) (by rw [hWs])
    exact rw_vr hx hb hr hlocks hS () hP trivial dX7_loses_38
  · skip
    have c1x := Int32.not_le.mp c1
    refine lv_aload_n hx hb dX7_loses_12 rfl (lv_at hl 0 rfl) ?_
    refine g_get hx hb hts hown inA7 hK hP 0 (by decide) rfl rfl 0 (by decide) tw760 rfl (v := .ref (b 1)) rfl dX7_loses_13 ?_
    refine lv_bipush (v := 48) hx hb dX7_loses_16 (by decide) ?_
    refine lv_iload_n hx hb dX7_loses_18 rfl (lv_at hl 1 rfl) ?_
    refine lv_iadd hx hb dX7_loses_19 ?_
    refine lv_as (y := nI (48 + w)) (nI_add2 (p := 48) (q := w) rfl rfl) ?_
    refine lv_dup2_11 hx hb dX7_loses_20 rfl rfl ?_
    refine g_iald hx hb hK hP 1 (by decide) rfl (48 + w) rfl (by omega) (by decide) dX7_loses_21 (v := s 7 w) ((fl_g7 (s := s) (d := w) (by omega)).trans rfl) ?_
    refine lv_iconst (v := 1) hx hb dX7_loses_22 (by decide) ?_
    refine lv_isub hx hb dX7_loses_23 ?_
    refine g_iast hx hb hK hP hE hS 1 (by decide) rfl (48 + w) rfl (by omega) (by omega) dX7_loses_24 (ex' := emC cI b (mdl (up2 s 7 w ((s 7 w) - 1)) kp hf sc ad bf)) (fl_e (fl_s7 (d := w) (by omega))) mm_s (fun H locs hP hS => ?_)
    refine lv_aload_n hx hb dX7_loses_25 rfl (lv_at hl 0 rfl) ?_
    refine g_get hx hb hts hown inA7 hK hP 0 (by decide) rfl rfl 0 (by decide) tw760 rfl (v := .ref (b 1)) rfl dX7_loses_26 ?_
    refine lv_bipush (v := 62) hx hb dX7_loses_29 (by decide) ?_
    refine lv_iload_n hx hb dX7_loses_31 rfl (lv_at hl 1 rfl) ?_
    refine lv_iadd hx hb dX7_loses_32 ?_
    refine lv_as (y := nI (62 + w)) (nI_add2 (p := 62) (q := w) rfl rfl) ?_
    refine lv_dup2_11 hx hb dX7_loses_33 rfl rfl ?_
    refine g_iald hx hb hK hP 1 (by decide) rfl (62 + w) rfl (by omega) (by decide) dX7_loses_34 (v := s 9 w) ((fl_g9 (s := (up2 s 7 w ((s 7 w) - 1))) (d := w) (by omega)).trans (by simp [up2, upR, upd])) ?_
    refine lv_iconst (v := 1) hx hb dX7_loses_35 (by decide) ?_
    refine lv_iadd hx hb dX7_loses_36 ?_
    refine g_iast hx hb hK hP hE hS 1 (by decide) rfl (62 + w) rfl (by omega) (by omega) dX7_loses_37 (ex' := emC cI b (mdl (up2 (up2 s 7 w ((s 7 w) - 1)) 9 w ((s 9 w) + 1)) kp hf sc ad bf)) (fl_e (fl_s9 (d := w) (by omega))) mm_s (fun H locs hP hS => ?_)
    have hWs : (lessS s w) = (up2 (up2 s 7 w ((s 7 w) - 1)) 9 w ((s 9 w) + 1)) := by unfold lessS; rw [if_pos c1x]
    have hP := hP.cast (e' := emC cI b (mdl (lessS s w) kp hf sc ad bf)) (by rw [hWs])
    exact rw_vr hx hb hr hlocks hS () hP trivial dX7_loses_38
