set_option maxHeartbeats 4000000 in
set_option maxRecDepth 100000 in
theorem m_L_low (l : Launch) (x : Int32) (n : Nat) (hn : 0 < n ∧ n < 1000) : Met l yL_low (.code yL_low cL_low 2 (some .int) :: wsA) ({ frames := 0, cells := 0, slots := 0, locals := 0 } : Room) (va_Pc [.int x, .int (nI n)] (fun _ => True)) (vp_Si (fun r => ∃ k, k < n ∧ r = nI k)) 0 0 (fun _ => False) := by
  refine mgo (by decide) (Nat.le_of_ble_eq_true rfl) ?_
  intro p e z m below meth c hx hb hr hml hown hts hlocks hB ls hl
  have hl : lv_has ls 2 [(0, .int x), (1, .int (nI n))] := hl
  refine lv_iload_n hx hb dL_low_0 rfl (lv_at hl 0 rfl) ?_
  refine lv_ldc hx hb hown (hts _ tw340) dL_low_1 ?_
  refine lv_iand hx hb dL_low_3 ?_
  refine lv_iload_n hx hb dL_low_4 rfl (lv_at hl 1 rfl) ?_
  refine lv_irem hx hb dL_low_5 (low_ne hn) ?_
  exact ro_ir hx hb hr rfl hlocks (low_ok hn) dL_low_6

set_option maxHeartbeats 4000000 in
set_option maxRecDepth 100000 in
theorem m_L_size (l : Launch) (x y : Int32) (h1 : 0 ≤ x.toInt) (h2 : 0 ≤ y.toInt) : Met l yL_size (.code yL_size cL_size 1 (some .int) :: wsA) ({ frames := 0, cells := 0, slots := 0, locals := 0 } : Room) (va_Pc [.int (x - y)] (fun _ => True)) (vp_Si (fun r => r = distI x y)) 0 0 (fun _ => False) := by
  refine mgo (by decide) (Nat.le_of_ble_eq_true rfl) ?_
  intro p e z m below meth c hx hb hr hml hown hts hlocks hB ls hl
  have hl : lv_has ls 1 [(0, .int (x - y))] := hl
  refine lv_iload_n hx hb dL_size_0 rfl (lv_at hl 0 rfl) ?_
  refine lv_if_ge (tgt := 9) hx hb dL_size_1 (by decide) (fun c1 => ?_) (fun c1 => ?_)
  · skip
    have c1x := Int32.not_lt.mpr c1
    refine lv_iload_n hx hb dL_size_9 rfl (lv_at hl 0 rfl) ?_
    exact ro_ir hx hb hr rfl hlocks (by rw [← abs_dist h1 h2]; exact (if_pos c1).symm) dL_size_10
  · skip
    have c1x := Int32.not_le.mp c1
    refine lv_iload_n hx hb dL_size_4 rfl (lv_at hl 0 rfl) ?_
    refine lv_ineg hx hb dL_size_5 ?_
    refine lv_goto (tgt := 10) hx hb dL_size_6 (by decide) ?_
    exact ro_ir hx hb hr rfl hlocks (by rw [← abs_dist h1 h2]; exact (if_neg c1).symm) dL_size_10
