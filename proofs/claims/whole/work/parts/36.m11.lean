set_option maxHeartbeats 4000000 in
set_option maxRecDepth 100000 in
theorem mt_X6_mustBeDial (l : Launch) (hst : l.stackTraces = false) (x : Int32) (hx9 : ¬ witB x 0 6) : vx_Met l yX6_mustBeDial (.code yX6_mustBeDial cX6_mustBeDial 1 none :: wsA) ({ frames := 6, cells := 1, slots := 6, locals := 82 } : Room) (va_Pc [.int x] EX0) QN (XP eI) 1 6 (fun _ => False) := by
  refine mgx (by decide) (Nat.le_of_ble_eq_true rfl) ?_
  intro p e z m below meth c hx hb hr hml hown hts hlocks hout hB ls hl
  have hX : EX0 z := hB
  have hl : lv_has ls 1 [(0, .int x)] := hl
  refine lv_iload_n hx hb dX6_mustBeDial_0 rfl (lv_at hl 0 rfl) ?_
  refine lv_if_lt (tgt := 10) hx hb dX6_mustBeDial_1 (by decide) (fun c1 => ?_) (fun c1 => ?_)
  · skip
    have c1x := Int32.not_le.mpr c1
    exact tx_new (a0 := fun _ => False) (is := 251) (ic := 253) (cls := eI) (text := "no such dial or warden") hx hb hst hown hts hX (by decide +kernel) tw474 tw14 at_I0 (by decide +kernel) (hl.1.trans hml.symm) dX6_mustBeDial_10 dX6_mustBeDial_13 dX6_mustBeDial_14 dX6_mustBeDial_16 dX6_mustBeDial_19 hout hlocks (by decide)
  · skip
    have c1x := Int32.not_lt.mp c1
    refine lv_iload_n hx hb dX6_mustBeDial_4 rfl (lv_at hl 0 rfl) ?_
    refine lv_bipush (v := 7) hx hb dX6_mustBeDial_5 (by decide) ?_
    refine lv_icmp_lt (tgt := 20) hx hb dX6_mustBeDial_7 (by decide) (fun h0 => absurd h0 (nwit7 6 (by decide) hx9 (by assumption))) (fun _ => ?_)
    exact tx_new (a0 := fun _ => False) (is := 251) (ic := 253) (cls := eI) (text := "no such dial or warden") hx hb hst hown hts hX (by decide +kernel) tw474 tw14 at_I0 (by decide +kernel) (hl.1.trans hml.symm) dX6_mustBeDial_10 dX6_mustBeDial_13 dX6_mustBeDial_14 dX6_mustBeDial_16 dX6_mustBeDial_19 hout hlocks (by decide)

set_option maxHeartbeats 4000000 in
set_option maxRecDepth 100000 in
theorem mt_X6_mustBeSetting (l : Launch) (hst : l.stackTraces = false) (x : Int32) (hx9 : ¬ witB x 0 1) : vx_Met l yX6_mustBeSetting (.code yX6_mustBeSetting cX6_mustBeSetting 1 none :: wsA) ({ frames := 6, cells := 1, slots := 6, locals := 82 } : Room) (va_Pc [.int x] EX0) QN (XP eI) 1 6 (fun _ => False) := by
  refine mgx (by decide) (Nat.le_of_ble_eq_true rfl) ?_
  intro p e z m below meth c hx hb hr hml hown hts hlocks hout hB ls hl
  have hX : EX0 z := hB
  have hl : lv_has ls 1 [(0, .int x)] := hl
  refine lv_iload_n hx hb dX6_mustBeSetting_0 rfl (lv_at hl 0 rfl) ?_
  refine lv_if_lt (tgt := 9) hx hb dX6_mustBeSetting_1 (by decide) (fun c1 => ?_) (fun c1 => ?_)
  · skip
    have c1x := Int32.not_le.mpr c1
    exact tx_new (a0 := fun _ => False) (is := 254) (ic := 253) (cls := eI) (text := "no such setting") hx hb hst hown hts hX (by decide +kernel) tw474 tw14 at_I0 (by decide +kernel) (hl.1.trans hml.symm) dX6_mustBeSetting_9 dX6_mustBeSetting_12 dX6_mustBeSetting_13 dX6_mustBeSetting_15 dX6_mustBeSetting_18 hout hlocks (by decide)
  · skip
    have c1x := Int32.not_lt.mp c1
    refine lv_iload_n hx hb dX6_mustBeSetting_4 rfl (lv_at hl 0 rfl) ?_
    refine lv_iconst (v := 2) hx hb dX6_mustBeSetting_5 (by decide) ?_
    refine lv_icmp_lt (tgt := 19) hx hb dX6_mustBeSetting_6 (by decide) (fun h0 => absurd h0 (nwit7 1 (by decide) hx9 (by assumption))) (fun _ => ?_)
    exact tx_new (a0 := fun _ => False) (is := 254) (ic := 253) (cls := eI) (text := "no such setting") hx hb hst hown hts hX (by decide +kernel) tw474 tw14 at_I0 (by decide +kernel) (hl.1.trans hml.symm) dX6_mustBeSetting_9 dX6_mustBeSetting_12 dX6_mustBeSetting_13 dX6_mustBeSetting_15 dX6_mustBeSetting_18 hout hlocks (by decide)

set_option maxHeartbeats 4000000 in
set_option maxRecDepth 100000 in
theorem mt_X6_put (l : Launch) (a : Nat → Nat) (hst : l.stackTraces = false) (x y : Int32) (hx9 : ¬ witB x 0 6) : vx_Met l yX6_put (.code yX6_put cX6_put 4 (some .int) :: wsA) ({ frames := 7, cells := 1, slots := 6, locals := 102 } : Room) (va_Pc [.ref (a 112), .int x, .int y] EX0) QN (XP eI) 1 6 (fun _ => False) := by
  refine mgx (by decide) (Nat.le_of_ble_eq_true rfl) ?_
  intro p e z m below meth c hx hb hr hml hown hts hlocks hout hB ls hl
  have hX : EX0 z := hB
  have hl : lv_has ls 4 [(0, .ref (a 112)), (1, .int x), (2, .int y)] := hl
  refine lv_iload_n hx hb dX6_put_0 rfl (lv_at hl 1 rfl) ?_
  exact tx_out (vx_runS (As := [.int x]) (rest := []) ⟨hx, hb, hml, hown, hts⟩ (mt_X6_mustBeDial l hst x hx9) (va_cwS 1 hts (gS tw473 tw471 tw472 tw1) rfl rfl rfl (by decide +kernel) ⟨Nat.le_of_ble_eq_true rfl, Nat.le_of_ble_eq_true rfl⟩) (psX hX) rfl rfl hl.1 rfl (lv_room (Nat.le_of_ble_eq_true rfl)) dX6_put_1 ⟨Nat.le_of_ble_eq_true rfl, Nat.le_of_ble_eq_true rfl⟩) hout hlocks

set_option maxHeartbeats 4000000 in
set_option maxRecDepth 100000 in
theorem mt_X6_drift (l : Launch) (a : Nat → Nat) (hst : l.stackTraces = false) (x y : Int32) (hx9 : ¬ witB x 0 6) : vx_Met l yX6_drift (.code yX6_drift cX6_drift 4 (some .int) :: wsA) ({ frames := 7, cells := 1, slots := 6, locals := 102 } : Room) (va_Pc [.ref (a 112), .int x, .int y] EX0) QN (XP eI) 1 6 (fun _ => False) := by
  refine mgx (by decide) (Nat.le_of_ble_eq_true rfl) ?_
  intro p e z m below meth c hx hb hr hml hown hts hlocks hout hB ls hl
  have hX : EX0 z := hB
  have hl : lv_has ls 4 [(0, .ref (a 112)), (1, .int x), (2, .int y)] := hl
  refine lv_iload_n hx hb dX6_drift_0 rfl (lv_at hl 1 rfl) ?_
  exact tx_out (vx_runS (As := [.int x]) (rest := []) ⟨hx, hb, hml, hown, hts⟩ (mt_X6_mustBeDial l hst x hx9) (va_cwS 1 hts (gS tw473 tw471 tw472 tw1) rfl rfl rfl (by decide +kernel) ⟨Nat.le_of_ble_eq_true rfl, Nat.le_of_ble_eq_true rfl⟩) (psX hX) rfl rfl hl.1 rfl (lv_room (Nat.le_of_ble_eq_true rfl)) dX6_drift_1 ⟨Nat.le_of_ble_eq_true rfl, Nat.le_of_ble_eq_true rfl⟩) hout hlocks

set_option maxHeartbeats 4000000 in
set_option maxRecDepth 100000 in
theorem mt_X6_warden (l : Launch) (a : Nat → Nat) (hst : l.stackTraces = false) (x y v : Int32) (hx9 : ¬ witB x 0 6) : vx_Met l yX6_warden (.code yX6_warden cX6_warden 5 (some .int) :: wsA) ({ frames := 7, cells := 1, slots := 6, locals := 102 } : Room) (va_Pc [.ref (a 112), .int x, .int y, .int v] EX0) QN (XP eI) 1 6 (fun _ => False) := by
  refine mgx (by decide) (Nat.le_of_ble_eq_true rfl) ?_
  intro p e z m below meth c hx hb hr hml hown hts hlocks hout hB ls hl
  have hX : EX0 z := hB
  have hl : lv_has ls 5 [(0, .ref (a 112)), (1, .int x), (2, .int y), (3, .int v)] := hl
  refine lv_iload_n hx hb dX6_warden_0 rfl (lv_at hl 1 rfl) ?_
  exact tx_out (vx_runS (As := [.int x]) (rest := []) ⟨hx, hb, hml, hown, hts⟩ (mt_X6_mustBeDial l hst x hx9) (va_cwS 1 hts (gS tw473 tw471 tw472 tw1) rfl rfl rfl (by decide +kernel) ⟨Nat.le_of_ble_eq_true rfl, Nat.le_of_ble_eq_true rfl⟩) (psX hX) rfl rfl hl.1 rfl (lv_room (Nat.le_of_ble_eq_true rfl)) dX6_warden_1 ⟨Nat.le_of_ble_eq_true rfl, Nat.le_of_ble_eq_true rfl⟩) hout hlocks

set_option maxHeartbeats 4000000 in
set_option maxRecDepth 100000 in
theorem mt_X6_set (l : Launch) (a : Nat → Nat) (hst : l.stackTraces = false) (x y : Int32) (hx9 : ¬ witB x 0 1) : vx_Met l yX6_set (.code yX6_set cX6_set 4 (some .int) :: wsA) ({ frames := 7, cells := 1, slots := 6, locals := 102 } : Room) (va_Pc [.ref (a 112), .int x, .int y] EX0) QN (XP eI) 1 6 (fun _ => False) := by
  refine mgx (by decide) (Nat.le_of_ble_eq_true rfl) ?_
  intro p e z m below meth c hx hb hr hml hown hts hlocks hout hB ls hl
  have hX : EX0 z := hB
  have hl : lv_has ls 4 [(0, .ref (a 112)), (1, .int x), (2, .int y)] := hl
  refine lv_iload_n hx hb dX6_set_0 rfl (lv_at hl 1 rfl) ?_
  exact tx_out (vx_runS (As := [.int x]) (rest := []) ⟨hx, hb, hml, hown, hts⟩ (mt_X6_mustBeSetting l hst x hx9) (va_cwS 1 hts (gS tw644 tw642 tw643 tw1) rfl rfl rfl (by decide +kernel) ⟨Nat.le_of_ble_eq_true rfl, Nat.le_of_ble_eq_true rfl⟩) (psX hX) rfl rfl hl.1 rfl (lv_room (Nat.le_of_ble_eq_true rfl)) dX6_set_1 ⟨Nat.le_of_ble_eq_true rfl, Nat.le_of_ble_eq_true rfl⟩) hout hlocks

set_option maxHeartbeats 4000000 in
set_option maxRecDepth 100000 in
theorem mt_X6_dial (l : Launch) (a : Nat → Nat) (hst : l.stackTraces = false) (x y : Int32) (hx9 : ¬ witB x 0 6) : vx_Met l yX6_dial (.code yX6_dial cX6_dial 3 (some .int) :: wsA) ({ frames := 7, cells := 1, slots := 6, locals := 102 } : Room) (va_Pc [.ref (a 112), .int x, .int y] EX0) QN (XP eI) 1 6 (fun _ => False) := by
  refine mgx (by decide) (Nat.le_of_ble_eq_true rfl) ?_
  intro p e z m below meth c hx hb hr hml hown hts hlocks hout hB ls hl
  have hX : EX0 z := hB
  have hl : lv_has ls 3 [(0, .ref (a 112)), (1, .int x), (2, .int y)] := hl
  refine lv_iload_n hx hb dX6_dial_0 rfl (lv_at hl 1 rfl) ?_
  exact tx_out (vx_runS (As := [.int x]) (rest := []) ⟨hx, hb, hml, hown, hts⟩ (mt_X6_mustBeDial l hst x hx9) (va_cwS 1 hts (gS tw473 tw471 tw472 tw1) rfl rfl rfl (by decide +kernel) ⟨Nat.le_of_ble_eq_true rfl, Nat.le_of_ble_eq_true rfl⟩) (psX hX) rfl rfl hl.1 rfl (lv_room (Nat.le_of_ble_eq_true rfl)) dX6_dial_1 ⟨Nat.le_of_ble_eq_true rfl, Nat.le_of_ble_eq_true rfl⟩) hout hlocks

set_option maxHeartbeats 4000000 in
set_option maxRecDepth 100000 in
theorem mt_X6_says (l : Launch) (a : Nat → Nat) (hst : l.stackTraces = false) (x y : Int32) (hx9 : ¬ witB x 0 6) : vx_Met l yX6_says (.code yX6_says cX6_says 3 (some .int) :: wsA) ({ frames := 7, cells := 1, slots := 6, locals := 102 } : Room) (va_Pc [.ref (a 112), .int x, .int y] EX0) QN (XP eI) 1 6 (fun _ => False) := by
  refine mgx (by decide) (Nat.le_of_ble_eq_true rfl) ?_
  intro p e z m below meth c hx hb hr hml hown hts hlocks hout hB ls hl
  have hX : EX0 z := hB
  have hl : lv_has ls 3 [(0, .ref (a 112)), (1, .int x), (2, .int y)] := hl
  refine lv_iload_n hx hb dX6_says_0 rfl (lv_at hl 1 rfl) ?_
  exact tx_out (vx_runS (As := [.int x]) (rest := []) ⟨hx, hb, hml, hown, hts⟩ (mt_X6_mustBeDial l hst x hx9) (va_cwS 1 hts (gS tw473 tw471 tw472 tw1) rfl rfl rfl (by decide +kernel) ⟨Nat.le_of_ble_eq_true rfl, Nat.le_of_ble_eq_true rfl⟩) (psX hX) rfl rfl hl.1 rfl (lv_room (Nat.le_of_ble_eq_true rfl)) dX6_says_1 ⟨Nat.le_of_ble_eq_true rfl, Nat.le_of_ble_eq_true rfl⟩) hout hlocks

set_option maxHeartbeats 4000000 in
set_option maxRecDepth 100000 in
theorem mt_X6_setting (l : Launch) (a : Nat → Nat) (hst : l.stackTraces = false) (x : Int32) (hx9 : ¬ witB x 0 1) : vx_Met l yX6_setting (.code yX6_setting cX6_setting 2 (some .int) :: wsA) ({ frames := 7, cells := 1, slots := 6, locals := 102 } : Room) (va_Pc [.ref (a 112), .int x] EX0) QN (XP eI) 1 6 (fun _ => False) := by
  refine mgx (by decide) (Nat.le_of_ble_eq_true rfl) ?_
  intro p e z m below meth c hx hb hr hml hown hts hlocks hout hB ls hl
  have hX : EX0 z := hB
  have hl : lv_has ls 2 [(0, .ref (a 112)), (1, .int x)] := hl
  refine lv_iload_n hx hb dX6_setting_0 rfl (lv_at hl 1 rfl) ?_
  exact tx_out (vx_runS (As := [.int x]) (rest := []) ⟨hx, hb, hml, hown, hts⟩ (mt_X6_mustBeSetting l hst x hx9) (va_cwS 1 hts (gS tw644 tw642 tw643 tw1) rfl rfl rfl (by decide +kernel) ⟨Nat.le_of_ble_eq_true rfl, Nat.le_of_ble_eq_true rfl⟩) (psX hX) rfl rfl hl.1 rfl (lv_room (Nat.le_of_ble_eq_true rfl)) dX6_setting_1 ⟨Nat.le_of_ble_eq_true rfl, Nat.le_of_ble_eq_true rfl⟩) hout hlocks

set_option maxHeartbeats 4000000 in
set_option maxRecDepth 100000 in
theorem mt_X6_without (l : Launch) (a : Nat → Nat) (hst : l.stackTraces = false) (x : Int32) (hx9 : ¬ witB x 0 6) : vx_Met l yX6_without (.code yX6_without cX6_without 2 (some .int) :: wsA) ({ frames := 7, cells := 1, slots := 6, locals := 102 } : Room) (va_Pc [.ref (a 112), .int x] EX0) QN (XP eI) 1 6 (fun _ => False) := by
  refine mgx (by decide) (Nat.le_of_ble_eq_true rfl) ?_
  intro p e z m below meth c hx hb hr hml hown hts hlocks hout hB ls hl
  have hX : EX0 z := hB
  have hl : lv_has ls 2 [(0, .ref (a 112)), (1, .int x)] := hl
  refine lv_iload_n hx hb dX6_without_0 rfl (lv_at hl 1 rfl) ?_
  exact tx_out (vx_runS (As := [.int x]) (rest := []) ⟨hx, hb, hml, hown, hts⟩ (mt_X6_mustBeDial l hst x hx9) (va_cwS 1 hts (gS tw473 tw471 tw472 tw1) rfl rfl rfl (by decide +kernel) ⟨Nat.le_of_ble_eq_true rfl, Nat.le_of_ble_eq_true rfl⟩) (psX hX) rfl rfl hl.1 rfl (lv_room (Nat.le_of_ble_eq_true rfl)) dX6_without_1 ⟨Nat.le_of_ble_eq_true rfl, Nat.le_of_ble_eq_true rfl⟩) hout hlocks

set_option maxHeartbeats 4000000 in
set_option maxRecDepth 100000 in
theorem mt_X6_wins (l : Launch) (a : Nat → Nat) (hst : l.stackTraces = false) (x : Int32) (hx9 : ¬ witB x 0 6) : vx_Met l yX6_wins (.code yX6_wins cX6_wins 4 (some .int) :: wsA) ({ frames := 7, cells := 1, slots := 6, locals := 102 } : Room) (va_Pc [.ref (a 112), .int x] EX0) QN (XP eI) 1 6 (fun _ => False) := by
  refine mgx (by decide) (Nat.le_of_ble_eq_true rfl) ?_
  intro p e z m below meth c hx hb hr hml hown hts hlocks hout hB ls hl
  have hX : EX0 z := hB
  have hl : lv_has ls 4 [(0, .ref (a 112)), (1, .int x)] := hl
  refine lv_iload_n hx hb dX6_wins_0 rfl (lv_at hl 1 rfl) ?_
  exact tx_out (vx_runS (As := [.int x]) (rest := []) ⟨hx, hb, hml, hown, hts⟩ (mt_X6_mustBeDial l hst x hx9) (va_cwS 1 hts (gS tw473 tw471 tw472 tw1) rfl rfl rfl (by decide +kernel) ⟨Nat.le_of_ble_eq_true rfl, Nat.le_of_ble_eq_true rfl⟩) (psX hX) rfl rfl hl.1 rfl (lv_room (Nat.le_of_ble_eq_true rfl)) dX6_wins_1 ⟨Nat.le_of_ble_eq_true rfl, Nat.le_of_ble_eq_true rfl⟩) hout hlocks

set_option maxHeartbeats 4000000 in
set_option maxRecDepth 100000 in
theorem mt_X6_quarrelIn (l : Launch) (a : Nat → Nat) (hst : l.stackTraces = false) (x : Int32) (hx9 : ¬ witB x 0 6) : vx_Met l yX6_quarrelIn (.code yX6_quarrelIn cX6_quarrelIn 2 (some .int) :: wsA) ({ frames := 7, cells := 1, slots := 6, locals := 102 } : Room) (va_Pc [.ref (a 112), .int x] EX0) QN (XP eI) 1 6 (fun _ => False) := by
  refine mgx (by decide) (Nat.le_of_ble_eq_true rfl) ?_
  intro p e z m below meth c hx hb hr hml hown hts hlocks hout hB ls hl
  have hX : EX0 z := hB
  have hl : lv_has ls 2 [(0, .ref (a 112)), (1, .int x)] := hl
  refine lv_iload_n hx hb dX6_quarrelIn_0 rfl (lv_at hl 1 rfl) ?_
  exact tx_out (vx_runS (As := [.int x]) (rest := []) ⟨hx, hb, hml, hown, hts⟩ (mt_X6_mustBeDial l hst x hx9) (va_cwS 1 hts (gS tw473 tw471 tw472 tw1) rfl rfl rfl (by decide +kernel) ⟨Nat.le_of_ble_eq_true rfl, Nat.le_of_ble_eq_true rfl⟩) (psX hX) rfl rfl hl.1 rfl (lv_room (Nat.le_of_ble_eq_true rfl)) dX6_quarrelIn_1 ⟨Nat.le_of_ble_eq_true rfl, Nat.le_of_ble_eq_true rfl⟩) hout hlocks

set_option maxHeartbeats 4000000 in
set_option maxRecDepth 100000 in
theorem mt_X6_ringsIn (l : Launch) (a : Nat → Nat) (hst : l.stackTraces = false) (x : Int32) (hx9 : ¬ witB x 0 6) : vx_Met l yX6_ringsIn (.code yX6_ringsIn cX6_ringsIn 2 (some .int) :: wsA) ({ frames := 7, cells := 1, slots := 6, locals := 102 } : Room) (va_Pc [.ref (a 112), .int x] EX0) QN (XP eI) 1 6 (fun _ => False) := by
  refine mgx (by decide) (Nat.le_of_ble_eq_true rfl) ?_
  intro p e z m below meth c hx hb hr hml hown hts hlocks hout hB ls hl
  have hX : EX0 z := hB
  have hl : lv_has ls 2 [(0, .ref (a 112)), (1, .int x)] := hl
  refine lv_iload_n hx hb dX6_ringsIn_0 rfl (lv_at hl 1 rfl) ?_
  exact tx_out (vx_runS (As := [.int x]) (rest := []) ⟨hx, hb, hml, hown, hts⟩ (mt_X6_mustBeDial l hst x hx9) (va_cwS 1 hts (gS tw473 tw471 tw472 tw1) rfl rfl rfl (by decide +kernel) ⟨Nat.le_of_ble_eq_true rfl, Nat.le_of_ble_eq_true rfl⟩) (psX hX) rfl rfl hl.1 rfl (lv_room (Nat.le_of_ble_eq_true rfl)) dX6_ringsIn_1 ⟨Nat.le_of_ble_eq_true rfl, Nat.le_of_ble_eq_true rfl⟩) hout hlocks

set_option maxHeartbeats 4000000 in
set_option maxRecDepth 100000 in
theorem mt_X6_tick (l : Launch) (a : Nat → Nat) (hst : l.stackTraces = false) (x : Int32) (hx9 : ¬ witB x 1 99) : vx_Met l yX6_tick (.code yX6_tick cX6_tick 2 (some .int) :: wsA) ({ frames := 6, cells := 1, slots := 6, locals := 82 } : Room) (va_Pc [.ref (a 112), .int x] EX0) QN (XP eA) 1 6 (fun _ => False) := by
  refine mgx (by decide) (Nat.le_of_ble_eq_true rfl) ?_
  intro p e z m below meth c hx hb hr hml hown hts hlocks hout hB ls hl
  have hX : EX0 z := hB
  have hl : lv_has ls 2 [(0, .ref (a 112)), (1, .int x)] := hl
  refine lv_iload_n hx hb dX6_tick_0 rfl (lv_at hl 1 rfl) ?_
  refine lv_iconst (v := 1) hx hb dX6_tick_1 (by decide) ?_
  refine lv_icmp_lt (tgt := 11) hx hb dX6_tick_2 (by decide) (fun c1 => ?_) (fun c1 => ?_)
  · skip
    have c1x := Int32.not_le.mpr c1
    exact tx_new (a0 := fun _ => False) (is := 46) (ic := 48) (cls := eA) (text := "ticks") hx hb hst hown hts hX (by decide +kernel) tw332 tw12 at_A0 (by decide +kernel) (hl.1.trans hml.symm) dX6_tick_11 dX6_tick_14 dX6_tick_15 dX6_tick_17 dX6_tick_20 hout hlocks (by decide)
  · skip
    have c1x := Int32.not_lt.mp c1
    refine lv_iload_n hx hb dX6_tick_5 rfl (lv_at hl 1 rfl) ?_
    refine lv_bipush (v := 99) hx hb dX6_tick_6 (by decide) ?_
    refine lv_icmp_le (tgt := 21) hx hb dX6_tick_8 (by decide) (fun h0 => absurd h0 (nwit hx9 (by assumption))) (fun _ => ?_)
    exact tx_new (a0 := fun _ => False) (is := 46) (ic := 48) (cls := eA) (text := "ticks") hx hb hst hown hts hX (by decide +kernel) tw332 tw12 at_A0 (by decide +kernel) (hl.1.trans hml.symm) dX6_tick_11 dX6_tick_14 dX6_tick_15 dX6_tick_17 dX6_tick_20 hout hlocks (by decide)

set_option maxHeartbeats 4000000 in
set_option maxRecDepth 100000 in
theorem mt2_X6_put (l : Launch) (a : Nat → Nat) (hst : l.stackTraces = false) (d : Nat) (hd : d < 7) (x : Int32) (hx9 : ¬ witB x 0 99999) : vx_Met l yX6_put (.code yX6_put cX6_put 4 (some .int) :: wsA) ({ frames := 6, cells := 1, slots := 6, locals := 82 } : Room) (va_Pc [.ref (a 112), .int (nI d), .int x] EX0) QN (XP eA) 1 6 (fun _ => False) := by
  refine mgx (by decide) (Nat.le_of_ble_eq_true rfl) ?_
  intro p e z m below meth c hx hb hr hml hown hts hlocks hout hB ls hl
  have hX : EX0 z := hB
  have hl : lv_has ls 4 [(0, .ref (a 112)), (1, .int (nI d)), (2, .int x)] := hl
  refine lv_iload_n hx hb dX6_put_0 rfl (lv_at hl 1 rfl) ?_
  refine ro_v (va_runS (As := [.int (nI d)]) (rest := []) ⟨hx, hb, hml, hown, hts⟩ (m_X6_mustBeDial l d (by omega)) (va_cwS 1 hts (gS tw473 tw471 tw472 tw1) rfl rfl rfl (by decide +kernel) ⟨Nat.le_of_ble_eq_true rfl, Nat.le_of_ble_eq_true rfl⟩) ps0 rfl rfl hl.1 rfl (lv_room (Nat.le_of_ble_eq_true rfl)) dX6_put_1 ⟨Nat.le_of_ble_eq_true rfl, Nat.le_of_ble_eq_true rfl⟩) (fun hr1 => ?_)
  refine lv_iload_n hx hb dX6_put_4 rfl (lv_at hl 2 rfl) ?_
  refine lv_if_lt (tgt := 14) hx hb dX6_put_5 (by decide) (fun c4 => ?_) (fun c4 => ?_)
  · skip
    have c4x := Int32.not_le.mpr c4
    exact tx_new (a0 := fun _ => False) (is := 95) (ic := 48) (cls := eA) (text := "minutes") hx hb hst hown hts hX (by decide +kernel) tw332 tw12 at_A0 (by decide +kernel) (hl.1.trans hml.symm) dX6_put_14 dX6_put_17 dX6_put_18 dX6_put_20 dX6_put_23 hout hlocks (by decide)
  · skip
    have c4x := Int32.not_lt.mp c4
    refine lv_iload_n hx hb dX6_put_8 rfl (lv_at hl 2 rfl) ?_
    refine lv_ldc hx hb hown (hts _ tw611) dX6_put_9 ?_
    refine lv_icmp_le (tgt := 24) hx hb dX6_put_11 (by decide) (fun h0 => absurd h0 (nwit hx9 (by assumption))) (fun _ => ?_)
    exact tx_new (a0 := fun _ => False) (is := 95) (ic := 48) (cls := eA) (text := "minutes") hx hb hst hown hts hX (by decide +kernel) tw332 tw12 at_A0 (by decide +kernel) (hl.1.trans hml.symm) dX6_put_14 dX6_put_17 dX6_put_18 dX6_put_20 dX6_put_23 hout hlocks (by decide)

set_option maxHeartbeats 4000000 in
set_option maxRecDepth 100000 in
theorem mt2_X6_drift (l : Launch) (a : Nat → Nat) (hst : l.stackTraces = false) (d : Nat) (hd : d < 7) (x : Int32) (hx9 : ¬ witB x (-5) 5) : vx_Met l yX6_drift (.code yX6_drift cX6_drift 4 (some .int) :: wsA) ({ frames := 6, cells := 1, slots := 6, locals := 82 } : Room) (va_Pc [.ref (a 112), .int (nI d), .int x] EX0) QN (XP eA) 1 6 (fun _ => False) := by
  refine mgx (by decide) (Nat.le_of_ble_eq_true rfl) ?_
  intro p e z m below meth c hx hb hr hml hown hts hlocks hout hB ls hl
  have hX : EX0 z := hB
  have hl : lv_has ls 4 [(0, .ref (a 112)), (1, .int (nI d)), (2, .int x)] := hl
  refine lv_iload_n hx hb dX6_drift_0 rfl (lv_at hl 1 rfl) ?_
  refine ro_v (va_runS (As := [.int (nI d)]) (rest := []) ⟨hx, hb, hml, hown, hts⟩ (m_X6_mustBeDial l d (by omega)) (va_cwS 1 hts (gS tw473 tw471 tw472 tw1) rfl rfl rfl (by decide +kernel) ⟨Nat.le_of_ble_eq_true rfl, Nat.le_of_ble_eq_true rfl⟩) ps0 rfl rfl hl.1 rfl (lv_room (Nat.le_of_ble_eq_true rfl)) dX6_drift_1 ⟨Nat.le_of_ble_eq_true rfl, Nat.le_of_ble_eq_true rfl⟩) (fun hr1 => ?_)
  refine lv_iload_n hx hb dX6_drift_4 rfl (lv_at hl 2 rfl) ?_
  refine lv_bipush (v := (-5)) hx hb dX6_drift_5 (by decide) ?_
  refine lv_icmp_lt (tgt := 15) hx hb dX6_drift_7 (by decide) (fun c4 => ?_) (fun c4 => ?_)
  · skip
    have c4x := Int32.not_le.mpr c4
    exact tx_new (a0 := fun _ => False) (is := 104) (ic := 48) (cls := eA) (text := "drift") hx hb hst hown hts hX (by decide +kernel) tw332 tw12 at_A0 (by decide +kernel) (hl.1.trans hml.symm) dX6_drift_15 dX6_drift_18 dX6_drift_19 dX6_drift_21 dX6_drift_24 hout hlocks (by decide)
  · skip
    have c4x := Int32.not_lt.mp c4
    refine lv_iload_n hx hb dX6_drift_10 rfl (lv_at hl 2 rfl) ?_
    refine lv_iconst (v := 5) hx hb dX6_drift_11 (by decide) ?_
    refine lv_icmp_le (tgt := 25) hx hb dX6_drift_12 (by decide) (fun h0 => absurd h0 (nwit hx9 (by assumption))) (fun _ => ?_)
    exact tx_new (a0 := fun _ => False) (is := 104) (ic := 48) (cls := eA) (text := "drift") hx hb hst hown hts hX (by decide +kernel) tw332 tw12 at_A0 (by decide +kernel) (hl.1.trans hml.symm) dX6_drift_15 dX6_drift_18 dX6_drift_19 dX6_drift_21 dX6_drift_24 hout hlocks (by decide)

set_option maxHeartbeats 4000000 in
set_option maxRecDepth 100000 in
theorem mt2_X6_warden (l : Launch) (a : Nat → Nat) (hst : l.stackTraces = false) (d : Nat) (hd : d < 7) (x y : Int32) (hx9 : ¬ witB x 0 9) : vx_Met l yX6_warden (.code yX6_warden cX6_warden 5 (some .int) :: wsA) ({ frames := 6, cells := 1, slots := 6, locals := 82 } : Room) (va_Pc [.ref (a 112), .int (nI d), .int x, .int y] EX0) QN (XP eA) 1 6 (fun _ => False) := by
  refine mgx (by decide) (Nat.le_of_ble_eq_true rfl) ?_
  intro p e z m below meth c hx hb hr hml hown hts hlocks hout hB ls hl
  have hX : EX0 z := hB
  have hl : lv_has ls 5 [(0, .ref (a 112)), (1, .int (nI d)), (2, .int x), (3, .int y)] := hl
  refine lv_iload_n hx hb dX6_warden_0 rfl (lv_at hl 1 rfl) ?_
  refine ro_v (va_runS (As := [.int (nI d)]) (rest := []) ⟨hx, hb, hml, hown, hts⟩ (m_X6_mustBeDial l d (by omega)) (va_cwS 1 hts (gS tw473 tw471 tw472 tw1) rfl rfl rfl (by decide +kernel) ⟨Nat.le_of_ble_eq_true rfl, Nat.le_of_ble_eq_true rfl⟩) ps0 rfl rfl hl.1 rfl (lv_room (Nat.le_of_ble_eq_true rfl)) dX6_warden_1 ⟨Nat.le_of_ble_eq_true rfl, Nat.le_of_ble_eq_true rfl⟩) (fun hr1 => ?_)
  refine lv_iload_n hx hb dX6_warden_4 rfl (lv_at hl 2 rfl) ?_
  refine lv_if_lt (tgt := 14) hx hb dX6_warden_5 (by decide) (fun c4 => ?_) (fun c4 => ?_)
  · skip
    have c4x := Int32.not_le.mpr c4
    exact tx_new (a0 := fun _ => False) (is := 113) (ic := 48) (cls := eA) (text := "weight") hx hb hst hown hts hX (by decide +kernel) tw332 tw12 at_A0 (by decide +kernel) (hl.1.trans hml.symm) dX6_warden_14 dX6_warden_17 dX6_warden_18 dX6_warden_20 dX6_warden_23 hout hlocks (by decide)
  · skip
    have c4x := Int32.not_lt.mp c4
    refine lv_iload_n hx hb dX6_warden_8 rfl (lv_at hl 2 rfl) ?_
    refine lv_bipush (v := 9) hx hb dX6_warden_9 (by decide) ?_
    refine lv_icmp_le (tgt := 24) hx hb dX6_warden_11 (by decide) (fun h0 => absurd h0 (nwit hx9 (by assumption))) (fun _ => ?_)
    exact tx_new (a0 := fun _ => False) (is := 113) (ic := 48) (cls := eA) (text := "weight") hx hb hst hown hts hX (by decide +kernel) tw332 tw12 at_A0 (by decide +kernel) (hl.1.trans hml.symm) dX6_warden_14 dX6_warden_17 dX6_warden_18 dX6_warden_20 dX6_warden_23 hout hlocks (by decide)

set_option maxHeartbeats 4000000 in
set_option maxRecDepth 100000 in
theorem mt3_X6_warden (l : Launch) (a : Nat → Nat) (hst : l.stackTraces = false) (d : Nat) (hd : d < 7) (y x : Int32) (hy9 : witB y 0 9) (hx9 : ¬ witB x (-60) 60) : vx_Met l yX6_warden (.code yX6_warden cX6_warden 5 (some .int) :: wsA) ({ frames := 6, cells := 1, slots := 6, locals := 82 } : Room) (va_Pc [.ref (a 112), .int (nI d), .int y, .int x] EX0) QN (XP eA) 1 6 (fun _ => False) := by
  refine mgx (by decide) (Nat.le_of_ble_eq_true rfl) ?_
  intro p e z m below meth c hx hb hr hml hown hts hlocks hout hB ls hl
  have hX : EX0 z := hB
  have hl : lv_has ls 5 [(0, .ref (a 112)), (1, .int (nI d)), (2, .int y), (3, .int x)] := hl
  refine lv_iload_n hx hb dX6_warden_0 rfl (lv_at hl 1 rfl) ?_
  refine ro_v (va_runS (As := [.int (nI d)]) (rest := []) ⟨hx, hb, hml, hown, hts⟩ (m_X6_mustBeDial l d (by omega)) (va_cwS 1 hts (gS tw473 tw471 tw472 tw1) rfl rfl rfl (by decide +kernel) ⟨Nat.le_of_ble_eq_true rfl, Nat.le_of_ble_eq_true rfl⟩) ps0 rfl rfl hl.1 rfl (lv_room (Nat.le_of_ble_eq_true rfl)) dX6_warden_1 ⟨Nat.le_of_ble_eq_true rfl, Nat.le_of_ble_eq_true rfl⟩) (fun hr1 => ?_)
  refine lv_iload_n hx hb dX6_warden_4 rfl (lv_at hl 2 rfl) ?_
  refine lv_if_lt (tgt := 14) hx hb dX6_warden_5 (by decide) (fun h0 => absurd h0 (Int32.not_lt.mpr hy9.1)) (fun _ => ?_)
  refine lv_iload_n hx hb dX6_warden_8 rfl (lv_at hl 2 rfl) ?_
  refine lv_bipush (v := 9) hx hb dX6_warden_9 (by decide) ?_
  refine lv_icmp_le (tgt := 24) hx hb dX6_warden_11 (by decide) (fun _ => ?_) (fun h0 => absurd hy9.2 h0)
  refine lv_iload_n hx hb dX6_warden_24 rfl (lv_at hl 3 rfl) ?_
  refine lv_bipush (v := (-60)) hx hb dX6_warden_25 (by decide) ?_
  refine lv_icmp_lt (tgt := 36) hx hb dX6_warden_27 (by decide) (fun c4 => ?_) (fun c4 => ?_)
  · skip
    have c4x := Int32.not_le.mpr c4
    exact tx_new (a0 := fun _ => False) (is := 115) (ic := 48) (cls := eA) (text := "lie") hx hb hst hown hts hX (by decide +kernel) tw332 tw12 at_A0 (by decide +kernel) (hl.1.trans hml.symm) dX6_warden_36 dX6_warden_39 dX6_warden_40 dX6_warden_42 dX6_warden_45 hout hlocks (by decide)
  · skip
    have c4x := Int32.not_lt.mp c4
    refine lv_iload_n hx hb dX6_warden_30 rfl (lv_at hl 3 rfl) ?_
    refine lv_bipush (v := 60) hx hb dX6_warden_31 (by decide) ?_
    refine lv_icmp_le (tgt := 46) hx hb dX6_warden_33 (by decide) (fun h0 => absurd h0 (nwit hx9 (by assumption))) (fun _ => ?_)
    exact tx_new (a0 := fun _ => False) (is := 115) (ic := 48) (cls := eA) (text := "lie") hx hb hst hown hts hX (by decide +kernel) tw332 tw12 at_A0 (by decide +kernel) (hl.1.trans hml.symm) dX6_warden_36 dX6_warden_39 dX6_warden_40 dX6_warden_42 dX6_warden_45 hout hlocks (by decide)

set_option maxHeartbeats 4000000 in
set_option maxRecDepth 100000 in
theorem mt2_X6_set (l : Launch) (a : Nat → Nat) (hst : l.stackTraces = false) (d : Nat) (hd : d < 2) (x : Int32) (hx9 : ¬ witB x 0 99) : vx_Met l yX6_set (.code yX6_set cX6_set 4 (some .int) :: wsA) ({ frames := 6, cells := 1, slots := 6, locals := 82 } : Room) (va_Pc [.ref (a 112), .int (nI d), .int x] EX0) QN (XP eA) 1 6 (fun _ => False) := by
  refine mgx (by decide) (Nat.le_of_ble_eq_true rfl) ?_
  intro p e z m below meth c hx hb hr hml hown hts hlocks hout hB ls hl
  have hX : EX0 z := hB
  have hl : lv_has ls 4 [(0, .ref (a 112)), (1, .int (nI d)), (2, .int x)] := hl
  refine lv_iload_n hx hb dX6_set_0 rfl (lv_at hl 1 rfl) ?_
  refine ro_v (va_runS (As := [.int (nI d)]) (rest := []) ⟨hx, hb, hml, hown, hts⟩ (m_X6_mustBeSetting l d (by omega)) (va_cwS 1 hts (gS tw644 tw642 tw643 tw1) rfl rfl rfl (by decide +kernel) ⟨Nat.le_of_ble_eq_true rfl, Nat.le_of_ble_eq_true rfl⟩) ps0 rfl rfl hl.1 rfl (lv_room (Nat.le_of_ble_eq_true rfl)) dX6_set_1 ⟨Nat.le_of_ble_eq_true rfl, Nat.le_of_ble_eq_true rfl⟩) (fun hr1 => ?_)
  refine lv_iload_n hx hb dX6_set_4 rfl (lv_at hl 2 rfl) ?_
  refine lv_if_lt (tgt := 14) hx hb dX6_set_5 (by decide) (fun c4 => ?_) (fun c4 => ?_)
  · skip
    have c4x := Int32.not_le.mpr c4
    exact tx_new (a0 := fun _ => False) (is := 126) (ic := 48) (cls := eA) (text := "value") hx hb hst hown hts hX (by decide +kernel) tw332 tw12 at_A0 (by decide +kernel) (hl.1.trans hml.symm) dX6_set_14 dX6_set_17 dX6_set_18 dX6_set_20 dX6_set_23 hout hlocks (by decide)
  · skip
    have c4x := Int32.not_lt.mp c4
    refine lv_iload_n hx hb dX6_set_8 rfl (lv_at hl 2 rfl) ?_
    refine lv_bipush (v := 99) hx hb dX6_set_9 (by decide) ?_
    refine lv_icmp_le (tgt := 24) hx hb dX6_set_11 (by decide) (fun h0 => absurd h0 (nwit hx9 (by assumption))) (fun _ => ?_)
    exact tx_new (a0 := fun _ => False) (is := 126) (ic := 48) (cls := eA) (text := "value") hx hb hst hown hts hX (by decide +kernel) tw332 tw12 at_A0 (by decide +kernel) (hl.1.trans hml.symm) dX6_set_14 dX6_set_17 dX6_set_18 dX6_set_20 dX6_set_23 hout hlocks (by decide)

set_option maxHeartbeats 4000000 in
set_option maxRecDepth 100000 in
theorem mt2_X6_dial (l : Launch) (a : Nat → Nat) (hst : l.stackTraces = false) (d : Nat) (hd : d < 7) (x : Int32) (hx9 : ¬ witB x 0 6) : vx_Met l yX6_dial (.code yX6_dial cX6_dial 3 (some .int) :: wsA) ({ frames := 6, cells := 1, slots := 6, locals := 82 } : Room) (va_Pc [.ref (a 112), .int (nI d), .int x] EX0) QN (XP eA) 1 6 (fun _ => False) := by
  refine mgx (by decide) (Nat.le_of_ble_eq_true rfl) ?_
  intro p e z m below meth c hx hb hr hml hown hts hlocks hout hB ls hl
  have hX : EX0 z := hB
  have hl : lv_has ls 3 [(0, .ref (a 112)), (1, .int (nI d)), (2, .int x)] := hl
  refine lv_iload_n hx hb dX6_dial_0 rfl (lv_at hl 1 rfl) ?_
  refine ro_v (va_runS (As := [.int (nI d)]) (rest := []) ⟨hx, hb, hml, hown, hts⟩ (m_X6_mustBeDial l d (by omega)) (va_cwS 1 hts (gS tw473 tw471 tw472 tw1) rfl rfl rfl (by decide +kernel) ⟨Nat.le_of_ble_eq_true rfl, Nat.le_of_ble_eq_true rfl⟩) ps0 rfl rfl hl.1 rfl (lv_room (Nat.le_of_ble_eq_true rfl)) dX6_dial_1 ⟨Nat.le_of_ble_eq_true rfl, Nat.le_of_ble_eq_true rfl⟩) (fun hr1 => ?_)
  refine lv_iload_n hx hb dX6_dial_4 rfl (lv_at hl 2 rfl) ?_
  refine lv_if_lt (tgt := 14) hx hb dX6_dial_5 (by decide) (fun c4 => ?_) (fun c4 => ?_)
  · skip
    have c4x := Int32.not_le.mpr c4
    exact tx_new (a0 := fun _ => False) (is := 173) (ic := 48) (cls := eA) (text := "what") hx hb hst hown hts hX (by decide +kernel) tw332 tw12 at_A0 (by decide +kernel) (hl.1.trans hml.symm) dX6_dial_14 dX6_dial_17 dX6_dial_18 dX6_dial_20 dX6_dial_23 hout hlocks (by decide)
  · skip
    have c4x := Int32.not_lt.mp c4
    refine lv_iload_n hx hb dX6_dial_8 rfl (lv_at hl 2 rfl) ?_
    refine lv_bipush (v := 7) hx hb dX6_dial_9 (by decide) ?_
    refine lv_icmp_lt (tgt := 24) hx hb dX6_dial_11 (by decide) (fun h0 => absurd h0 (nwit7 6 (by decide) hx9 (by assumption))) (fun _ => ?_)
    exact tx_new (a0 := fun _ => False) (is := 173) (ic := 48) (cls := eA) (text := "what") hx hb hst hown hts hX (by decide +kernel) tw332 tw12 at_A0 (by decide +kernel) (hl.1.trans hml.symm) dX6_dial_14 dX6_dial_17 dX6_dial_18 dX6_dial_20 dX6_dial_23 hout hlocks (by decide)

set_option maxHeartbeats 4000000 in
set_option maxRecDepth 100000 in
theorem mt2_X6_says (l : Launch) (a : Nat → Nat) (hst : l.stackTraces = false) (d : Nat) (hd : d < 7) (x : Int32) (hx9 : ¬ witB x 0 5) : vx_Met l yX6_says (.code yX6_says cX6_says 3 (some .int) :: wsA) ({ frames := 6, cells := 1, slots := 6, locals := 82 } : Room) (va_Pc [.ref (a 112), .int (nI d), .int x] EX0) QN (XP eA) 1 6 (fun _ => False) := by
  refine mgx (by decide) (Nat.le_of_ble_eq_true rfl) ?_
  intro p e z m below meth c hx hb hr hml hown hts hlocks hout hB ls hl
  have hX : EX0 z := hB
  have hl : lv_has ls 3 [(0, .ref (a 112)), (1, .int (nI d)), (2, .int x)] := hl
  refine lv_iload_n hx hb dX6_says_0 rfl (lv_at hl 1 rfl) ?_
  refine ro_v (va_runS (As := [.int (nI d)]) (rest := []) ⟨hx, hb, hml, hown, hts⟩ (m_X6_mustBeDial l d (by omega)) (va_cwS 1 hts (gS tw473 tw471 tw472 tw1) rfl rfl rfl (by decide +kernel) ⟨Nat.le_of_ble_eq_true rfl, Nat.le_of_ble_eq_true rfl⟩) ps0 rfl rfl hl.1 rfl (lv_room (Nat.le_of_ble_eq_true rfl)) dX6_says_1 ⟨Nat.le_of_ble_eq_true rfl, Nat.le_of_ble_eq_true rfl⟩) (fun hr1 => ?_)
  refine lv_iload_n hx hb dX6_says_4 rfl (lv_at hl 2 rfl) ?_
  refine lv_if_lt (tgt := 14) hx hb dX6_says_5 (by decide) (fun c4 => ?_) (fun c4 => ?_)
  · skip
    have c4x := Int32.not_le.mpr c4
    exact tx_new (a0 := fun _ => False) (is := 173) (ic := 48) (cls := eA) (text := "what") hx hb hst hown hts hX (by decide +kernel) tw332 tw12 at_A0 (by decide +kernel) (hl.1.trans hml.symm) dX6_says_14 dX6_says_17 dX6_says_18 dX6_says_20 dX6_says_23 hout hlocks (by decide)
  · skip
    have c4x := Int32.not_lt.mp c4
    refine lv_iload_n hx hb dX6_says_8 rfl (lv_at hl 2 rfl) ?_
    refine lv_bipush (v := 6) hx hb dX6_says_9 (by decide) ?_
    refine lv_icmp_lt (tgt := 24) hx hb dX6_says_11 (by decide) (fun h0 => absurd h0 (nwit7 5 (by decide) hx9 (by assumption))) (fun _ => ?_)
    exact tx_new (a0 := fun _ => False) (is := 173) (ic := 48) (cls := eA) (text := "what") hx hb hst hown hts hX (by decide +kernel) tw332 tw12 at_A0 (by decide +kernel) (hl.1.trans hml.symm) dX6_says_14 dX6_says_17 dX6_says_18 dX6_says_20 dX6_says_23 hout hlocks (by decide)

set_option maxHeartbeats 4000000 in
set_option maxRecDepth 100000 in
theorem mt_X6_count (l : Launch) (a : Nat → Nat) (hst : l.stackTraces = false) (x : Int32) (hx9 : ¬ witB x 0 13) : vx_Met l yX6_count (.code yX6_count cX6_count 2 (some .int) :: wsA) ({ frames := 6, cells := 1, slots := 6, locals := 82 } : Room) (va_Pc [.ref (a 112), .int x] EX0) QN (XP eA) 1 6 (fun _ => False) := by
  refine mgx (by decide) (Nat.le_of_ble_eq_true rfl) ?_
  intro p e z m below meth c hx hb hr hml hown hts hlocks hout hB ls hl
  have hX : EX0 z := hB
  have hl : lv_has ls 2 [(0, .ref (a 112)), (1, .int x)] := hl
  refine lv_iload_n hx hb dX6_count_0 rfl (lv_at hl 1 rfl) ?_
  refine lv_if_lt (tgt := 10) hx hb dX6_count_1 (by decide) (fun c1 => ?_) (fun c1 => ?_)
  · skip
    have c1x := Int32.not_le.mpr c1
    exact tx_new (a0 := fun _ => False) (is := 173) (ic := 48) (cls := eA) (text := "what") hx hb hst hown hts hX (by decide +kernel) tw332 tw12 at_A0 (by decide +kernel) (hl.1.trans hml.symm) dX6_count_10 dX6_count_13 dX6_count_14 dX6_count_16 dX6_count_19 hout hlocks (by decide)
  · skip
    have c1x := Int32.not_lt.mp c1
    refine lv_iload_n hx hb dX6_count_4 rfl (lv_at hl 1 rfl) ?_
    refine lv_bipush (v := 14) hx hb dX6_count_5 (by decide) ?_
    refine lv_icmp_lt (tgt := 20) hx hb dX6_count_7 (by decide) (fun h0 => absurd h0 (nwit7 13 (by decide) hx9 (by assumption))) (fun _ => ?_)
    exact tx_new (a0 := fun _ => False) (is := 173) (ic := 48) (cls := eA) (text := "what") hx hb hst hown hts hX (by decide +kernel) tw332 tw12 at_A0 (by decide +kernel) (hl.1.trans hml.symm) dX6_count_10 dX6_count_13 dX6_count_14 dX6_count_16 dX6_count_19 hout hlocks (by decide)

set_option maxHeartbeats 4000000 in
set_option maxRecDepth 100000 in
theorem mt_X6_append (l : Launch) (a : Nat → Nat) (hst : l.stackTraces = false) (x : Int32) (hx9 : ¬ witB x 33 126) : vx_Met l yX6_append (.code yX6_append cX6_append 2 (some .int) :: wsA) ({ frames := 6, cells := 1, slots := 6, locals := 82 } : Room) (va_Pc [.ref (a 112), .int x] EX0) QN (XP eA) 1 6 (fun _ => False) := by
  refine mgx (by decide) (Nat.le_of_ble_eq_true rfl) ?_
  intro p e z m below meth c hx hb hr hml hown hts hlocks hout hB ls hl
  have hX : EX0 z := hB
  have hl : lv_has ls 2 [(0, .ref (a 112)), (1, .int x)] := hl
  refine lv_iload_n hx hb dX6_append_0 rfl (lv_at hl 1 rfl) ?_
  refine lv_bipush (v := 33) hx hb dX6_append_1 (by decide) ?_
  refine lv_icmp_lt (tgt := 12) hx hb dX6_append_3 (by decide) (fun c1 => ?_) (fun c1 => ?_)
  · skip
    have c1x := Int32.not_le.mpr c1
    exact tx_new (a0 := fun _ => False) (is := 131) (ic := 48) (cls := eA) (text := "code") hx hb hst hown hts hX (by decide +kernel) tw332 tw12 at_A0 (by decide +kernel) (hl.1.trans hml.symm) dX6_append_12 dX6_append_15 dX6_append_16 dX6_append_18 dX6_append_21 hout hlocks (by decide)
  · skip
    have c1x := Int32.not_lt.mp c1
    refine lv_iload_n hx hb dX6_append_6 rfl (lv_at hl 1 rfl) ?_
    refine lv_bipush (v := 126) hx hb dX6_append_7 (by decide) ?_
    refine lv_icmp_le (tgt := 22) hx hb dX6_append_9 (by decide) (fun h0 => absurd h0 (nwit hx9 (by assumption))) (fun _ => ?_)
    exact tx_new (a0 := fun _ => False) (is := 131) (ic := 48) (cls := eA) (text := "code") hx hb hst hown hts hX (by decide +kernel) tw332 tw12 at_A0 (by decide +kernel) (hl.1.trans hml.symm) dX6_append_12 dX6_append_15 dX6_append_16 dX6_append_18 dX6_append_21 hout hlocks (by decide)

set_option maxHeartbeats 4000000 in
set_option maxRecDepth 100000 in
theorem mt2_X6_append (l : Launch) (D : va_G) (cI cS : ClassId) (a : Nat → Nat) (s : St) (st : Nat → St) (pi : Nat → Nat) (mi po : St) (hst : l.stackTraces = false) (ln : Nat) (hln : ln = 60) (hl0 : mi 0 1 = nI ln) (x : Int32) (hx9 : witB x 33 126) : vx_Met l yX6_append (.code yX6_append cX6_append 2 (some .int) :: wsA) ({ frames := 6, cells := 1, slots := 6, locals := 82 } : Room) (va_Pc [.ref (a 112), .int x] (PE D cI cS 113 a (exC cI cS a s st pi mi po))) QN (XP eS) 1 6 (fun _ => False) := by
  refine mgx (by decide) (Nat.le_of_ble_eq_true rfl) ?_
  intro p e z m below meth c hx hb hr hml hown hts hlocks hout hB ls hl
  obtain ⟨hP, hK, hX⟩ := hB
  have hl : lv_has ls 2 [(0, .ref (a 112)), (1, .int x)] := hl
  refine lv_iload_n hx hb dX6_append_0 rfl (lv_at hl 1 rfl) ?_
  refine lv_bipush (v := 33) hx hb dX6_append_1 (by decide) ?_
  refine lv_icmp_lt (tgt := 12) hx hb dX6_append_3 (by decide) (fun h0 => absurd h0 (Int32.not_lt.mpr hx9.1)) (fun _ => ?_)
  refine lv_iload_n hx hb dX6_append_6 rfl (lv_at hl 1 rfl) ?_
  refine lv_bipush (v := 126) hx hb dX6_append_7 (by decide) ?_
  refine lv_icmp_le (tgt := 22) hx hb dX6_append_9 (by decide) (fun _ => ?_) (fun h0 => absurd hx9.2 h0)
  refine lv_aload_n hx hb dX6_append_22 rfl (lv_at hl 0 rfl) ?_
  refine g_get hx hb hts hown inA6 hK hP 112 (by decide) xc112 rfl 4 (by decide) tw164 rfl (v := .ref (a 106)) rfl dX6_append_23 ?_
  refine g_getN hx hb hts hown inA2 hK hP 106 (by decide) xc106 rfl 1 (by decide) tn136 rfl (v := .int (mi 0 1)) rfl dX6_append_26 ?_
  refine lv_bipush (v := 60) hx hb dX6_append_29 (by decide) ?_
  refine lv_icmp_lt (tgt := 44) hx hb dX6_append_31 (by decide) (fun h0 => absurd h0 (fun h => by have := (nI_lt2 (p := ln) (q := 60) hl0 rfl (by omega) (by omega)).mp h; omega)) (fun _ => ?_)
  exact tx_new (a0 := fun _ => False) (is := 136) (ic := 79) (cls := eS) (text := "the buffer is full") hx hb hst hown hts hX (by decide +kernel) tw567 tw13 at_S0 (by decide +kernel) (hl.1.trans hml.symm) dX6_append_34 dX6_append_37 dX6_append_38 dX6_append_40 dX6_append_43 hout hlocks (by decide)

set_option maxHeartbeats 4000000 in
set_option maxRecDepth 100000 in
theorem mt_X6_vote (l : Launch) (D : va_G) (cI cS : ClassId) (a : Nat → Nat) (s : St) (st : Nat → St) (pi : Nat → Nat) (mi po : St) (hst : l.stackTraces = false) (hw0 : sumN (s 7) 7 = 0) : vx_Met l yX6_vote (.code yX6_vote cX6_vote 1 (some .int) :: wsA) ({ frames := 6, cells := 1, slots := 6, locals := 82 } : Room) (va_Pc [.ref (a 112)] (PE D cI cS 113 a (exC cI cS a s st pi mi po))) QN (XP eS) 1 6 (fun _ => False) := by
  refine mgx (by decide) (Nat.le_of_ble_eq_true rfl) ?_
  intro p e z m below meth c hx hb hr hml hown hts hlocks hout hB ls hl
  obtain ⟨hP, hK, hX⟩ := hB
  have hl : lv_has ls 1 [(0, .ref (a 112))] := hl
  refine lv_aload_n hx hb dX6_vote_0 rfl (lv_at hl 0 rfl) ?_
  refine g_get hx hb hts hown inA6 hK hP 112 (by decide) xc112 rfl 0 (by decide) tw160 rfl (v := .ref (a 0)) rfl dX6_vote_1 ?_
  refine g_getN hx hb hts hown inA4 hK hP 0 (by decide) xc0 rfl 1 (by decide) tn89 rfl (v := .ref (a 8)) rfl dX6_vote_4 ?_
  refine ro_i (va_runV (As := []) (rest := []) ⟨hx, hb, hml, hown, hts⟩ (m_X5_weightSum l D cI cS a s st pi mi po) (cwV 0 hts (gV tw423 tw420 tw421 tw422 tw4) rfl rfl rfl (by decide +kernel) ⟨Nat.le_of_ble_eq_true rfl, Nat.le_of_ble_eq_true rfl⟩) (pvR 8 hK hP (by decide) xc8 rfl) rfl rfl hl.1 rfl (lv_room (Nat.le_of_ble_eq_true rfl)) dX6_vote_7 ⟨Nat.le_of_ble_eq_true rfl, Nat.le_of_ble_eq_true rfl⟩) (fun r2 hr1 => ?_)
  subst hr1
  refine lv_if_ne (tgt := 23) hx hb dX6_vote_10 (by decide) (fun h0 => absurd h0 (fun h => h hw0)) (fun _ => ?_)
  exact tx_new (a0 := fun _ => False) (is := 77) (ic := 79) (cls := eS) (text := "all weights are 0") hx hb hst hown hts hX (by decide +kernel) tw567 tw13 at_S0 (by decide +kernel) (hl.1.trans hml.symm) dX6_vote_13 dX6_vote_16 dX6_vote_17 dX6_vote_19 dX6_vote_22 hout hlocks (by decide)

set_option maxHeartbeats 4000000 in
set_option maxRecDepth 100000 in
theorem mt_X6_obey (l : Launch) (D : va_G) (cI cS : ClassId) (a : Nat → Nat) (s : St) (st : Nat → St) (pi : Nat → Nat) (mi po : St) (hst : l.stackTraces = false) (ln : Nat) (hln : ln ≤ 60) (hl0 : mi 0 1 = nI ln) (hcm : ¬ cmpB (mi 1) ln) : vx_Met l yX6_obey (.code yX6_obey cX6_obey 4 (some .int) :: wsA) ({ frames := 6, cells := 1, slots := 6, locals := 82 } : Room) (va_Pc [.ref (a 112)] (PE D cI cS 113 a (exC cI cS a s st pi mi po))) QN (XP eA) 1 6 (fun _ => False) := by
  refine mgx (by decide) (Nat.le_of_ble_eq_true rfl) ?_
  intro p e z m below meth c hx hb hr hml hown hts hlocks hout hB ls hl
  obtain ⟨hP, hK, hX⟩ := hB
  have hl : lv_has ls 4 [(0, .ref (a 112))] := hl
  refine lv_aload_n hx hb dX6_obey_0 rfl (lv_at hl 0 rfl) ?_
  refine g_get hx hb hts hown inA6 hK hP 112 (by decide) xc112 rfl 4 (by decide) tw164 rfl (v := .ref (a 106)) rfl dX6_obey_1 ?_
  refine ro_i (va_runV (As := []) (rest := []) ⟨hx, hb, hml, hown, hts⟩ (m_X2_areComplete l D cI cS a s st pi mi po ln (by omega) hl0) (cwV 0 hts (gV tw670 tw667 tw668 tw669 tw6) rfl rfl rfl (by decide +kernel) ⟨Nat.le_of_ble_eq_true rfl, Nat.le_of_ble_eq_true rfl⟩) (pvR 106 hK hP (by decide) xc106 rfl) rfl rfl hl.1 rfl (lv_room (Nat.le_of_ble_eq_true rfl)) dX6_obey_4 ⟨Nat.le_of_ble_eq_true rfl, Nat.le_of_ble_eq_true rfl⟩) (fun r2 hr1 => ?_)
  subst hr1
  refine lv_bI (fun c4 => ?_) (fun c4 => ?_)
  · skip
    exact absurd c4 hcm
  · skip
    refine lv_if_ne (tgt := 20) hx hb dX6_obey_7 (by decide) (fun h0 => absurd (by decide) h0) (fun _ => ?_)
    exact tx_new (a0 := fun _ => False) (is := 151) (ic := 48) (cls := eA) (text := "no complete orders") hx hb hst hown hts hX (by decide +kernel) tw332 tw12 at_A0 (by decide +kernel) (hl.1.trans hml.symm) dX6_obey_10 dX6_obey_13 dX6_obey_14 dX6_obey_16 dX6_obey_19 hout hlocks (by decide)

set_option maxHeartbeats 4000000 in
set_option maxRecDepth 100000 in
theorem mt_X6_goBack (l : Launch) (D : va_G) (cI cS : ClassId) (a : Nat → Nat) (s : St) (st : Nat → St) (pi : Nat → Nat) (mi po : St) (hst : l.stackTraces = false) (hsn : mi 0 2 = 0) : vx_Met l yX6_goBack (.code yX6_goBack cX6_goBack 1 (some .int) :: wsA) ({ frames := 6, cells := 1, slots := 6, locals := 82 } : Room) (va_Pc [.ref (a 112)] (PE D cI cS 113 a (exC cI cS a s st pi mi po))) QN (XP eS) 1 6 (fun _ => False) := by
  refine mgx (by decide) (Nat.le_of_ble_eq_true rfl) ?_
  intro p e z m below meth c hx hb hr hml hown hts hlocks hout hB ls hl
  obtain ⟨hP, hK, hX⟩ := hB
  have hl : lv_has ls 1 [(0, .ref (a 112))] := hl
  refine lv_aload_n hx hb dX6_goBack_0 rfl (lv_at hl 0 rfl) ?_
  refine g_get hx hb hts hown inA6 hK hP 112 (by decide) xc112 rfl 2 (by decide) tw162 rfl (v := .int (mi 0 2)) rfl dX6_goBack_1 ?_
  refine lv_if_ne (tgt := 17) hx hb dX6_goBack_4 (by decide) (fun h0 => absurd h0 (fun h => h hsn)) (fun _ => ?_)
  exact tx_new (a0 := fun _ => False) (is := 163) (ic := 79) (cls := eS) (text := "no snapshot") hx hb hst hown hts hX (by decide +kernel) tw567 tw13 at_S0 (by decide +kernel) (hl.1.trans hml.symm) dX6_goBack_7 dX6_goBack_10 dX6_goBack_11 dX6_goBack_13 dX6_goBack_16 hout hlocks (by decide)

set_option maxHeartbeats 4000000 in
set_option maxRecDepth 100000 in
theorem mt_X6_undo (l : Launch) (D : va_G) (cI cS : ClassId) (a : Nat → Nat) (s : St) (st : Nat → St) (pi : Nat → Nat) (mi po : St) (hst : l.stackTraces = false) (hs0 : mi 0 0 = 0) : vx_Met l yX6_undo (.code yX6_undo cX6_undo 1 (some .int) :: wsA) ({ frames := 6, cells := 1, slots := 6, locals := 82 } : Room) (va_Pc [.ref (a 112)] (PE D cI cS 113 a (exC cI cS a s st pi mi po))) QN (XP eS) 1 6 (fun _ => False) := by
  refine mgx (by decide) (Nat.le_of_ble_eq_true rfl) ?_
  intro p e z m below meth c hx hb hr hml hown hts hlocks hout hB ls hl
  obtain ⟨hP, hK, hX⟩ := hB
  have hl : lv_has ls 1 [(0, .ref (a 112))] := hl
  refine lv_aload_n hx hb dX6_undo_0 rfl (lv_at hl 0 rfl) ?_
  refine g_get hx hb hts hown inA6 hK hP 112 (by decide) xc112 rfl 3 (by decide) tw163 rfl (v := .ref (a 104)) rfl dX6_undo_1 ?_
  refine g_getN hx hb hts hown inA1 hK hP 104 (by decide) xc104 rfl 1 (by decide) tn122 rfl (v := .int (mi 0 0)) rfl dX6_undo_4 ?_
  refine lv_if_ne (tgt := 20) hx hb dX6_undo_7 (by decide) (fun h0 => absurd h0 (fun h => h hs0)) (fun _ => ?_)
  exact tx_new (a0 := fun _ => False) (is := 168) (ic := 79) (cls := eS) (text := "no saved state") hx hb hst hown hts hX (by decide +kernel) tw567 tw13 at_S0 (by decide +kernel) (hl.1.trans hml.symm) dX6_undo_10 dX6_undo_13 dX6_undo_14 dX6_undo_16 dX6_undo_19 hout hlocks (by decide)
