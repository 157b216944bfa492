set_option maxHeartbeats 4000000 in
set_option maxRecDepth 100000 in
theorem m_X6_distance (l : Launch) (x y : Int32) : Met l yX6_distance (.code yX6_distance cX6_distance 2 (some .int) :: wsA) ({ frames := 0, cells := 0, slots := 0, locals := 0 } : Room) (va_Pc [.int x, .int y] (fun _ => True)) (vp_Si (fun r => r = distI x y)) 0 0 (fun _ => False) := by
  refine mgo (by decide) (Nat.le_of_ble_eq_true rfl) ?_
  intro p e z m below meth c hx hb hr hml hown hts hlocks hB ls hl
  have hl : lv_has ls 2 [(0, .int x), (1, .int y)] := hl
  refine lv_iload_n hx hb dX6_distance_0 rfl (lv_at hl 0 rfl) ?_
  refine lv_iload_n hx hb dX6_distance_1 rfl (lv_at hl 1 rfl) ?_
  refine lv_icmp_ge (tgt := 11) hx hb dX6_distance_2 (by decide) (fun c1 => ?_) (fun c1 => ?_)
  · skip
    have c1x := Int32.not_lt.mpr c1
    refine lv_iload_n hx hb dX6_distance_11 rfl (lv_at hl 0 rfl) ?_
    refine lv_iload_n hx hb dX6_distance_12 rfl (lv_at hl 1 rfl) ?_
    refine lv_isub hx hb dX6_distance_13 ?_
    exact ro_ir hx hb hr rfl hlocks (by simp [distI, c1, c1x]) dX6_distance_14
  · skip
    have c1x := Int32.not_le.mp c1
    refine lv_iload_n hx hb dX6_distance_5 rfl (lv_at hl 1 rfl) ?_
    refine lv_iload_n hx hb dX6_distance_6 rfl (lv_at hl 0 rfl) ?_
    refine lv_isub hx hb dX6_distance_7 ?_
    refine lv_goto (tgt := 14) hx hb dX6_distance_8 (by decide) ?_
    exact ro_ir hx hb hr rfl hlocks (by simp [distI, c1, c1x]) dX6_distance_14

set_option maxHeartbeats 4000000 in
set_option maxRecDepth 100000 in
theorem m_X6_dialBehind (l : Launch) (d : Nat) (hd : d < 7) : Met l yX6_dialBehind (.code yX6_dialBehind cX6_dialBehind 1 (some .int) :: wsA) ({ frames := 0, cells := 0, slots := 0, locals := 0 } : Room) (va_Pc [.int (nI d)] (fun _ => True)) (vp_Si (fun r => r = nI (behN d))) 0 0 (fun _ => False) := by
  refine mgo (by decide) (Nat.le_of_ble_eq_true rfl) ?_
  intro p e z m below meth c hx hb hr hml hown hts hlocks hB ls hl
  have hl : lv_has ls 1 [(0, .int (nI d))] := hl
  refine lv_iload_n hx hb dX6_dialBehind_0 rfl (lv_at hl 0 rfl) ?_
  refine lv_iconst (v := 1) hx hb dX6_dialBehind_1 (by decide) ?_
  refine lv_iadd hx hb dX6_dialBehind_2 ?_
  refine lv_as (y := nI (d + 1)) (nI_add2 (p := d) (q := 1) rfl rfl) ?_
  refine lv_bipush (v := 7) hx hb dX6_dialBehind_3 (by decide) ?_
  refine lv_icmp_ge (tgt := 14) hx hb dX6_dialBehind_5 (by decide) (fun c1 => ?_) (fun c1 => ?_)
  · skip
    have c1x := Int32.not_lt.mpr c1
    have c1n := (nI_le2 (p := 7) (q := d + 1) rfl rfl (by omega) (by omega)).mp c1
    have c1n : 7 ≤ d + 1 := c1n
    refine lv_iconst (v := 0) hx hb dX6_dialBehind_14 (by decide) ?_
    exact ro_ir hx hb hr rfl hlocks (by unfold behN; rw [if_neg (by omega)]; rfl) dX6_dialBehind_15
  · skip
    have c1x := Int32.not_le.mp c1
    have c1n := fun hq0 => c1 ((nI_le2 (p := 7) (q := d + 1) rfl rfl (by omega) (by omega)).mpr hq0)
    have c1n : ¬ (7 ≤ d + 1) := c1n
    refine lv_iload_n hx hb dX6_dialBehind_8 rfl (lv_at hl 0 rfl) ?_
    refine lv_iconst (v := 1) hx hb dX6_dialBehind_9 (by decide) ?_
    refine lv_iadd hx hb dX6_dialBehind_10 ?_
    refine lv_as (y := nI (d + 1)) (nI_add2 (p := d) (q := 1) rfl rfl) ?_
    refine lv_goto (tgt := 15) hx hb dX6_dialBehind_11 (by decide) ?_
    exact ro_ir hx hb hr rfl hlocks (by unfold behN; rw [if_pos (by omega)]) dX6_dialBehind_15

set_option maxHeartbeats 4000000 in
set_option maxRecDepth 100000 in
theorem m_X6_dialBefore (l : Launch) (d : Nat) (hd : d < 7) : Met l yX6_dialBefore (.code yX6_dialBefore cX6_dialBefore 1 (some .int) :: wsA) ({ frames := 0, cells := 0, slots := 0, locals := 0 } : Room) (va_Pc [.int (nI d)] (fun _ => True)) (vp_Si (fun r => r = nI (befN d))) 0 0 (fun _ => False) := by
  refine mgo (by decide) (Nat.le_of_ble_eq_true rfl) ?_
  intro p e z m below meth c hx hb hr hml hown hts hlocks hB ls hl
  have hl : lv_has ls 1 [(0, .int (nI d))] := hl
  refine lv_iload_n hx hb dX6_dialBefore_0 rfl (lv_at hl 0 rfl) ?_
  refine lv_if_le (tgt := 10) hx hb dX6_dialBefore_1 (by decide) (fun c1 => ?_) (fun c1 => ?_)
  · skip
    have c1x := Int32.not_lt.mpr c1
    have c1n := (nI_le2 (p := d) (q := 0) rfl rfl (by omega) (by omega)).mp c1
    have c1n : d ≤ 0 := c1n
    refine lv_bipush (v := 6) hx hb dX6_dialBefore_10 (by decide) ?_
    exact ro_ir hx hb hr rfl hlocks (by unfold befN; rw [if_neg (by omega)]; rfl) dX6_dialBefore_12
  · skip
    have c1x := Int32.not_le.mp c1
    have c1n := fun hq0 => c1 ((nI_le2 (p := d) (q := 0) rfl rfl (by omega) (by omega)).mpr hq0)
    have c1n : ¬ (d ≤ 0) := c1n
    refine lv_iload_n hx hb dX6_dialBefore_4 rfl (lv_at hl 0 rfl) ?_
    refine lv_iconst (v := 1) hx hb dX6_dialBefore_5 (by decide) ?_
    refine lv_isub hx hb dX6_dialBefore_6 ?_
    refine lv_as (y := nI (d - 1)) (nI_sub2 (p := d) (q := 1) rfl rfl (by omega)) ?_
    refine lv_goto (tgt := 12) hx hb dX6_dialBefore_7 (by decide) ?_
    exact ro_ir hx hb hr rfl hlocks (by unfold befN; rw [if_pos (by omega)]) dX6_dialBefore_12

set_option maxHeartbeats 4000000 in
set_option maxRecDepth 100000 in
theorem m_X6_sum (l : Launch) (D : va_G) (cI cS : ClassId) (nn : Nat) (a : Nat → Nat) (ex : Nat → va_E) (cn : Nat) (hn : cn < nn) (f : Nat → Int32) (he : ex cn = .inl (cI, 7, .inl f)) : Met l yX6_sum (.code yX6_sum cX6_sum 6 (some .int) :: wsA) ({ frames := 0, cells := 0, slots := 0, locals := 0 } : Room) (va_Pc [.ref (a cn)] (PR D cI cS nn a (ex))) (vp_Si (fun r => r = sumN f 7)) 0 0 (fun _ => False) := by
  refine mgo (by decide) (Nat.le_of_ble_eq_true rfl) ?_
  intro p e z m below meth c hx hb hr hml hown hts hlocks hB ls hl
  obtain ⟨hP, hK⟩ := hB
  have hl : lv_has ls 6 [(0, .ref (a cn))] := hl
  refine lv_iconst (v := 0) hx hb dX6_sum_0 (by decide) ?_
  refine lv_istore_n (lv' := [(1, .int 0), (0, .ref (a cn))]) hx hb dX6_sum_1 rfl hl (by decide) rfl (fun ls hl => ?_)
  refine lv_aload_n hx hb dX6_sum_2 rfl (lv_at hl 1 rfl) ?_
  refine lv_astore_n (lv' := [(2, .ref (a cn)), (1, .int 0), (0, .ref (a cn))]) hx hb dX6_sum_3 rfl hl (by decide) rfl (fun ls hl => ?_)
  refine lv_aload_n hx hb dX6_sum_4 rfl (lv_at hl 0 rfl) ?_
  refine g_alen hx hb hK hP cn (by omega) he (v := 7) (by decide) dX6_sum_5 ?_
  refine lv_istore_n (lv' := [(3, .int 7), (2, .ref (a cn)), (1, .int 0), (0, .ref (a cn))]) hx hb dX6_sum_6 rfl hl (by decide) rfl (fun ls hl => ?_)
  refine lv_iconst (v := 0) hx hb dX6_sum_7 (by decide) ?_
  refine lv_istore (lv' := [(4, .int 0), (3, .int 7), (2, .ref (a cn)), (1, .int 0), (0, .ref (a cn))]) hx hb dX6_sum_8 hl (by decide) rfl (fun ls hl => ?_)
  have loop10 : ∀ (fu : Nat) (j : Nat), 7 + 1 ≤ j + fu → (j ≤ 7) → ∀ ls : Array Slot, lv_has ls 6 [(1, .int (sumN f j)), (2, .ref (a cn)), (3, .int 7), (4, .int (nI j))] → W p l e ({ frames := 0, cells := 0, slots := 0, locals := 0 } : Room) z m ([.ref (a cn)] : List Value).toArray below meth c z.heap [] 0 0 (MQ below (vp_Si (fun r => r = sumN f 7)) ([.ref (a cn)] : List Value).toArray z 0 0 (fun _ => False)) (F0 m 10 ls []) := by
    intro fu
    induction fu with
    | zero => intro j hn hj; exact absurd hn (by omega)
    | succ fu ih10 =>
      intro j hn hj ls hl
      refine lv_iload hx hb dX6_sum_10 (lv_at hl 3 rfl) ?_
      refine lv_iload_n hx hb dX6_sum_12 rfl (lv_at hl 2 rfl) ?_
      refine lv_icmp_ge (tgt := 33) hx hb dX6_sum_13 (by decide) (fun c1 => ?_) (fun c1 => ?_)
      · skip
        have c1x := Int32.not_lt.mpr c1
        have c1n := (nI_le2 (p := 7) (q := j) rfl rfl (by omega) (by omega)).mp c1
        have c1n : 7 ≤ j := c1n
        refine lv_iload_n hx hb dX6_sum_33 rfl (lv_at hl 0 rfl) ?_
        exact ro_ir hx hb hr rfl hlocks (by rw [show j = 7 by omega]) dX6_sum_34
      · skip
        have c1x := Int32.not_le.mp c1
        have c1n := fun hq0 => c1 ((nI_le2 (p := 7) (q := j) rfl rfl (by omega) (by omega)).mpr hq0)
        have c1n : ¬ (7 ≤ j) := c1n
        refine lv_aload_n hx hb dX6_sum_16 rfl (lv_at hl 1 rfl) ?_
        refine lv_iload hx hb dX6_sum_17 (lv_at hl 3 rfl) ?_
        refine g_iald hx hb hK hP cn (by omega) he j rfl (by omega) (by decide) dX6_sum_19 (v := f j) rfl ?_
        refine lv_istore (lv' := [(5, .int (f j)), (1, .int (sumN f j)), (2, .ref (a cn)), (3, .int 7), (4, .int (nI j))]) hx hb dX6_sum_20 hl (by decide) rfl (fun ls hl => ?_)
        refine lv_iload_n hx hb dX6_sum_22 rfl (lv_at hl 1 rfl) ?_
        refine lv_iload hx hb dX6_sum_23 (lv_at hl 0 rfl) ?_
        refine lv_iadd hx hb dX6_sum_25 ?_
        refine lv_istore_n (lv' := [(1, .int ((sumN f j) + (f j))), (5, .int (f j)), (2, .ref (a cn)), (3, .int 7), (4, .int (nI j))]) hx hb dX6_sum_26 rfl hl (by decide) rfl (fun ls hl => ?_)
        refine lv_iinc (v := nI (j + 1)) (lv' := [(4, .int (nI (j + 1))), (1, .int ((sumN f j) + (f j))), (5, .int (f j)), (2, .ref (a cn)), (3, .int 7)]) hx hb dX6_sum_27 hl (k := 4) rfl (nI_add j 1) (by decide) rfl (fun ls hl => ?_)
        refine lv_goto (tgt := 10) hx hb dX6_sum_30 (by decide) ?_
        exact ih10 (j + 1) (by omega) (by omega) ls (lv_sub hl [1, 3, 4, 0] rfl)
  exact loop10 (7 + 1) 0 (by omega) (by omega) ls (lv_sub hl [3, 2, 1, 0] rfl)

set_option maxHeartbeats 4000000 in
set_option maxRecDepth 100000 in
theorem m_X5_wordFor (l : Launch) (D : va_G) (cI cS : ClassId) (a : Nat → Nat) (s : St) (st : Nat → St) (pi : Nat → Nat) (mi po : St) (w : Nat) (hw : w < 7) (x : Int32) : Met l yX5_wordFor (.code yX5_wordFor cX5_wordFor 4 (some .int) :: wsA) ({ frames := 0, cells := 0, slots := 0, locals := 0 } : Room) (va_Pc [.ref (a 8), .int (nI w), .int x] (PR D cI cS 113 a (exC cI cS a s st pi mi po))) (vp_Si (fun r => r = wordF s w x)) 0 0 (fun _ => False) := by
  refine mgo (by decide) (Nat.le_of_ble_eq_true rfl) ?_
  intro p e z m below meth c hx hb hr hml hown hts hlocks hB ls hl
  obtain ⟨hP, hK⟩ := hB
  have hl : lv_has ls 4 [(0, .ref (a 8)), (1, .int (nI w)), (2, .int x)] := hl
  refine lv_iload_n hx hb dX5_wordFor_0 rfl (lv_at hl 2 rfl) ?_
  refine lv_aload_n hx hb dX5_wordFor_1 rfl (lv_at hl 0 rfl) ?_
  refine g_get hx hb hts hown inA5 hK hP 8 (by decide) xc8 rfl 1 (by decide) tw73 rfl (v := .ref (a 10)) rfl dX5_wordFor_2 ?_
  refine lv_iload_n hx hb dX5_wordFor_5 rfl (lv_at hl 1 rfl) ?_
  refine g_iald hx hb hK hP 10 (by decide) xc10 w rfl (by omega) (by decide) dX5_wordFor_6 (v := s 8 w) rfl ?_
  refine lv_iadd hx hb dX5_wordFor_7 ?_
  refine lv_istore_n (lv' := [(3, .int (x + (s 8 w))), (0, .ref (a 8)), (1, .int (nI w)), (2, .int x)]) hx hb dX5_wordFor_8 rfl hl (by decide) rfl (fun ls hl => ?_)
  refine lv_iload_n hx hb dX5_wordFor_9 rfl (lv_at hl 0 rfl) ?_
  refine lv_if_ge (tgt := 15) hx hb dX5_wordFor_10 (by decide) (fun c1 => ?_) (fun c1 => ?_)
  · skip
    have c1x := Int32.not_lt.mpr c1
    refine lv_iload_n hx hb dX5_wordFor_15 rfl (lv_at hl 0 rfl) ?_
    refine lv_ldc hx hb hown (hts _ tw268) dX5_wordFor_16 ?_
    refine lv_icmp_le (tgt := 26) hx hb dX5_wordFor_18 (by decide) (fun c2 => ?_) (fun c2 => ?_)
    · skip
      have c2x := Int32.not_lt.mpr c2
      refine lv_iload_n hx hb dX5_wordFor_26 rfl (lv_at hl 0 rfl) ?_
      exact ro_ir hx hb hr rfl hlocks (by simp [wordF, clampW, c1, c1x, c2, c2x]) dX5_wordFor_27
    · skip
      have c2x := Int32.not_le.mp c2
      refine lv_ldc hx hb hown (hts _ tw268) dX5_wordFor_21 ?_
      refine lv_goto (tgt := 27) hx hb dX5_wordFor_23 (by decide) ?_
      exact ro_ir hx hb hr rfl hlocks (by simp [wordF, clampW, c1, c1x, c2, c2x]) dX5_wordFor_27
  · skip
    have c1x := Int32.not_le.mp c1
    refine lv_iconst (v := 0) hx hb dX5_wordFor_13 (by decide) ?_
    exact ro_ir hx hb hr rfl hlocks (by simp [wordF, clampW, c1, c1x]) dX5_wordFor_14

set_option maxHeartbeats 4000000 in
set_option maxRecDepth 100000 in
theorem m_X5_weightSum (l : Launch) (D : va_G) (cI cS : ClassId) (a : Nat → Nat) (s : St) (st : Nat → St) (pi : Nat → Nat) (mi po : St) : Met l yX5_weightSum (.code yX5_weightSum cX5_weightSum 1 (some .int) :: wsA) ({ frames := 1, cells := 0, slots := 0, locals := 25 } : Room) (va_Pc [.ref (a 8)] (PR D cI cS 113 a (exC cI cS a s st pi mi po))) (vp_Si (fun r => r = sumN (s 7) 7)) 0 0 (fun _ => False) := by
  refine mgo (by decide) (Nat.le_of_ble_eq_true rfl) ?_
  intro p e z m below meth c hx hb hr hml hown hts hlocks hB ls hl
  obtain ⟨hP, hK⟩ := hB
  have hl : lv_has ls 1 [(0, .ref (a 8))] := hl
  refine lv_aload_n hx hb dX5_weightSum_0 rfl (lv_at hl 0 rfl) ?_
  refine g_get hx hb hts hown inA5 hK hP 8 (by decide) xc8 rfl 0 (by decide) tw70 rfl (v := .ref (a 9)) rfl dX5_weightSum_1 ?_
  refine ro_i (va_runSN (As := [.ref (a 9)]) (rest := []) ⟨hx, hb, hml, hown, hts⟩ (m_X6_sum l D cI cS 113 a (exC cI cS a s st pi mi po) 9 (by decide) (s 7) rfl) ⟨va_cnB 1 hts (gA tw279) rfl rfl rfl (hK.2 _ tn300) (hts _ tw1) (by decide +kernel) ⟨Nat.le_of_ble_eq_true rfl, Nat.le_of_ble_eq_true rfl⟩, hts _ tw278, trivial⟩ (psR hK hP) rfl rfl hl.1 rfl (lv_room (Nat.le_of_ble_eq_true rfl)) dX5_weightSum_4 ⟨Nat.le_of_ble_eq_true rfl, Nat.le_of_ble_eq_true rfl⟩) (fun r2 hr1 => ?_)
  subst hr1
  exact ro_ir hx hb hr rfl hlocks rfl dX5_weightSum_7
