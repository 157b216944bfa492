theorem nI_cl {n : Nat} (h : n < 2147483648) : (nI n).toNatClampNeg = n := by
  show (Int32.toInt (Int32.ofNat n)).toNat = n
  rw [Int32.toInt_ofNat_of_lt h]
  rfl
set_option maxHeartbeats 4000000 in
set_option maxRecDepth 100000 in
theorem m_X6_mixed (l : Launch) (g0 v0 : Int64) : Met l yX6_mixed (.code yX6_mixed cX6_mixed 4 (some .long) :: wsA) ({ frames := 0, cells := 0, slots := 0, locals := 0 } : Room) (va_Pc [.long g0, .long v0] (fun _ => True)) (vp_Sl (fun r => r = mxL g0 v0)) 0 0 (fun _ => False) := by
  refine mgo (by decide) (Nat.le_of_ble_eq_true rfl) ?_
  intro p e z m below meth c hx hb hr hml hown hts hlocks hB ls hl
  have hl : lv_has ls 4 [(0, .long g0), (2, .long v0)] := hl
  refine lv_ldc2 hx hb hown (hts _ tw453) dX6_mixed_0 ?_
  refine lv_lload_n hx hb dX6_mixed_3 rfl (lv_at hl 0 rfl) ?_
  refine lv_lmul hx hb dX6_mixed_4 ?_
  refine lv_lload_n hx hb dX6_mixed_5 rfl (lv_at hl 1 rfl) ?_
  refine lv_ladd hx hb dX6_mixed_6 ?_
  exact ro_lr hx hb hr hlocks rfl dX6_mixed_7

set_option maxHeartbeats 4000000 in
set_option maxRecDepth 100000 in
theorem m_X6_count (l : Launch) (D : va_G) (cI cS : ClassId) (a : Nat → Nat) (s : St) (st : Nat → St) (pi : Nat → Nat) (mi po : St) (sz q : Nat) (hq : q < 14) (hs0 : mi 0 0 = nI sz) (zz : Nat) : Met l yX6_count (.code yX6_count cX6_count 2 (some .int) :: wsA) ({ frames := 5, cells := 0, slots := 0, locals := 108 } : Room) (va_Pc [.ref (a 112), .int (nI q)] (PW D cI cS 113 a (exC cI cS a s st pi mi po) zz)) (va_Qi (fun (r : Int32) (u : St) => r = counN s sz q) (BW D 113 a (fun u => exC cI cS a s st pi mi u)) (AX 113 a zz)) 0 0 (AX 113 a zz) := by
  refine mgo (by decide) (Nat.le_of_ble_eq_true rfl) ?_
  intro p e z m below meth c hx hb hr hml hown hts hlocks hB ls hl
  obtain ⟨hsz, hP, hK, hE⟩ := hB
  subst hsz
  have hS : va_S (AX 113 a z.heap.size) z.heap z.heap [] := va_S.rf
  have hl : lv_has ls 2 [(0, .ref (a 112)), (1, .int (nI q))] := hl
  refine lv_iload_n hx hb dX6_count_0 rfl (lv_at hl 1 rfl) ?_
  refine lv_if_lt (tgt := 10) hx hb dX6_count_1 (by decide) (fun h0 => absurd h0 (fun h => by have := (nI_lt2 (p := q) (q := 0) rfl rfl (by omega) (by omega)).mp h; omega)) (fun _ => ?_)
  refine lv_iload_n hx hb dX6_count_4 rfl (lv_at hl 1 rfl) ?_
  refine lv_bipush (v := 14) hx hb dX6_count_5 (by decide) ?_
  refine lv_icmp_lt (tgt := 20) hx hb dX6_count_7 (by decide) (fun _ => ?_) (fun h0 => absurd ((nI_lt2 (p := q) (q := 14) rfl rfl (by omega) (by omega)).mpr (by omega)) h0)
  refine lv_iload_n hx hb dX6_count_20 rfl (lv_at hl 1 rfl) ?_
  refine lv_bipush (v := 7) hx hb dX6_count_21 (by decide) ?_
  refine lv_icmp_ge (tgt := 34) hx hb dX6_count_23 (by decide) (fun c1 => ?_) (fun c1 => ?_)
  · skip
    have c1x := Int32.not_lt.mpr c1
    have c1n := (nI_le2 (p := 7) (q := q) rfl rfl (by omega) (by omega)).mp c1
    have c1n : 7 ≤ q := c1n
    refine lv_aload_n hx hb dX6_count_34 rfl (lv_at hl 0 rfl) ?_
    refine lv_iload_n hx hb dX6_count_35 rfl (lv_at hl 1 rfl) ?_
    refine ro_i (va_runV (As := [.int (nI q)]) (rest := []) ⟨hx, hb, hml, hown, hts⟩ (m_X6_sumNumber l D cI cS a s st pi mi po sz q ⟨by omega, by omega⟩ hs0) (cwV 1 hts (gV tw444 tw441 tw443 ts12 tw1) rfl rfl rfl (by decide +kernel) ⟨Nat.le_of_ble_eq_true rfl, Nat.le_of_ble_eq_true rfl⟩) (pvR 112 hK hP (by decide) xc112 rfl) rfl rfl hl.1 rfl (lv_room (Nat.le_of_ble_eq_true rfl)) dX6_count_36 ⟨Nat.le_of_ble_eq_true rfl, Nat.le_of_ble_eq_true rfl⟩) (fun r3 hr2 => ?_)
    subst hr2
    exact rw_ir hx hb hr rfl hlocks hS po hP rfl dX6_count_39
  · skip
    have c1x := Int32.not_le.mp c1
    have c1n := fun hq0 => c1 ((nI_le2 (p := 7) (q := q) rfl rfl (by omega) (by omega)).mpr hq0)
    have c1n : ¬ (7 ≤ q) := c1n
    refine lv_aload_n hx hb dX6_count_26 rfl (lv_at hl 0 rfl) ?_
    refine lv_iload_n hx hb dX6_count_27 rfl (lv_at hl 1 rfl) ?_
    refine rw_i hS (va_runV (As := [.int (nI q)]) (rest := []) ⟨hx, hb, hml, hown, hts⟩ (m_X6_townNumber l D cI cS a s st pi mi po sz q (by omega) _) (cwV 1 hts (gV tw403 tw400 tw402 ts7 tw1) rfl rfl rfl (by decide +kernel) ⟨Nat.le_of_ble_eq_true rfl, Nat.le_of_ble_eq_true rfl⟩) (pvW 112 hK hP hE (by decide) xc112 rfl) rfl rfl hl.1 rfl (lv_room (Nat.le_of_ble_eq_true rfl)) dX6_count_28 ⟨Nat.le_of_ble_eq_true rfl, Nat.le_of_ble_eq_true rfl⟩) (fun r6 u7 H locs hr5 hP hS => ?_)
    subst hr5
    refine lv_goto (tgt := 39) hx hb dX6_count_31 (by decide) ?_
    exact rw_ir hx hb hr rfl hlocks hS u7 hP rfl dX6_count_39

set_option maxHeartbeats 4000000 in
set_option maxRecDepth 100000 in
theorem m_X6_dial (l : Launch) (D : va_G) (cI cS : ClassId) (a : Nat → Nat) (s : St) (st : Nat → St) (pi : Nat → Nat) (mi po : St) (d q : Nat) (hd : d < 7) (hq : q < 7) : Met l yX6_dial (.code yX6_dial cX6_dial 3 (some .int) :: wsA) ({ frames := 3, cells := 0, slots := 0, locals := 64 } : Room) (va_Pc [.ref (a 112), .int (nI d), .int (nI q)] (PR D cI cS 113 a (exC cI cS a s st pi mi po))) (vp_Si (fun r => r = dialN s d q)) 0 0 (fun _ => False) := by
  refine mgo (by decide) (Nat.le_of_ble_eq_true rfl) ?_
  intro p e z m below meth c hx hb hr hml hown hts hlocks hB ls hl
  obtain ⟨hP, hK⟩ := hB
  have hl : lv_has ls 3 [(0, .ref (a 112)), (1, .int (nI d)), (2, .int (nI q))] := hl
  refine lv_iload_n hx hb dX6_dial_0 rfl (lv_at hl 1 rfl) ?_
  refine ro_v (va_runS (As := [.int (nI d)]) (rest := []) ⟨hx, hb, hml, hown, hts⟩ (m_X6_mustBeDial l d (by omega)) (va_cwS 1 hts (gS tw473 tw471 tw472 tw1) rfl rfl rfl (by decide +kernel) ⟨Nat.le_of_ble_eq_true rfl, Nat.le_of_ble_eq_true rfl⟩) ps0 rfl rfl hl.1 rfl (lv_room (Nat.le_of_ble_eq_true rfl)) dX6_dial_1 ⟨Nat.le_of_ble_eq_true rfl, Nat.le_of_ble_eq_true rfl⟩) (fun hr1 => ?_)
  refine lv_iload_n hx hb dX6_dial_4 rfl (lv_at hl 2 rfl) ?_
  refine lv_if_lt (tgt := 14) hx hb dX6_dial_5 (by decide) (fun h0 => absurd h0 (fun h => by have := (nI_lt2 (p := q) (q := 0) rfl rfl (by omega) (by omega)).mp h; omega)) (fun _ => ?_)
  refine lv_iload_n hx hb dX6_dial_8 rfl (lv_at hl 2 rfl) ?_
  refine lv_bipush (v := 7) hx hb dX6_dial_9 (by decide) ?_
  refine lv_icmp_lt (tgt := 24) hx hb dX6_dial_11 (by decide) (fun _ => ?_) (fun h0 => absurd ((nI_lt2 (p := q) (q := 7) rfl rfl (by omega) (by omega)).mpr (by omega)) h0)
  refine lv_aload_n hx hb dX6_dial_24 rfl (lv_at hl 0 rfl) ?_
  refine lv_iload_n hx hb dX6_dial_25 rfl (lv_at hl 1 rfl) ?_
  refine lv_iload_n hx hb dX6_dial_26 rfl (lv_at hl 2 rfl) ?_
  refine ro_i (va_runV (As := [.int (nI d), .int (nI q)]) (rest := []) ⟨hx, hb, hml, hown, hts⟩ (m_X6_dialNumber l D cI cS a s st pi mi po d q (by omega) (by omega)) (cwV 2 hts (gV tw461 tw458 tw460 ts14 tw1) rfl rfl rfl (by decide +kernel) ⟨Nat.le_of_ble_eq_true rfl, Nat.le_of_ble_eq_true rfl⟩) (pvR 112 hK hP (by decide) xc112 rfl) rfl rfl hl.1 rfl (lv_room (Nat.le_of_ble_eq_true rfl)) dX6_dial_27 ⟨Nat.le_of_ble_eq_true rfl, Nat.le_of_ble_eq_true rfl⟩) (fun r5 hr4 => ?_)
  subst hr4
  exact ro_ir hx hb hr rfl hlocks rfl dX6_dial_30

set_option maxHeartbeats 4000000 in
set_option maxRecDepth 100000 in
theorem m_X6_says (l : Launch) (D : va_G) (cI cS : ClassId) (a : Nat → Nat) (s : St) (st : Nat → St) (pi : Nat → Nat) (mi po : St) (w q : Nat) (hw : w < 7) (hq : q < 6) (zz : Nat) : Met l yX6_says (.code yX6_says cX6_says 3 (some .int) :: wsA) ({ frames := 5, cells := 0, slots := 0, locals := 109 } : Room) (va_Pc [.ref (a 112), .int (nI w), .int (nI q)] (PW D cI cS 113 a (exC cI cS a s st pi mi po) zz)) (va_Qi (fun (r : Int32) (u : St) => r = wardN s w q) (BW D 113 a (fun u => exC cI cS a s st pi mi u)) (AX 113 a zz)) 0 0 (AX 113 a zz) := by
  refine mgo (by decide) (Nat.le_of_ble_eq_true rfl) ?_
  intro p e z m below meth c hx hb hr hml hown hts hlocks hB ls hl
  obtain ⟨hsz, hP, hK, hE⟩ := hB
  subst hsz
  have hS : va_S (AX 113 a z.heap.size) z.heap z.heap [] := va_S.rf
  have hl : lv_has ls 3 [(0, .ref (a 112)), (1, .int (nI w)), (2, .int (nI q))] := hl
  refine lv_iload_n hx hb dX6_says_0 rfl (lv_at hl 1 rfl) ?_
  refine ro_v (va_runS (As := [.int (nI w)]) (rest := []) ⟨hx, hb, hml, hown, hts⟩ (m_X6_mustBeDial l w (by omega)) (va_cwS 1 hts (gS tw473 tw471 tw472 tw1) rfl rfl rfl (by decide +kernel) ⟨Nat.le_of_ble_eq_true rfl, Nat.le_of_ble_eq_true rfl⟩) ps0 rfl rfl hl.1 rfl (lv_room (Nat.le_of_ble_eq_true rfl)) dX6_says_1 ⟨Nat.le_of_ble_eq_true rfl, Nat.le_of_ble_eq_true rfl⟩) (fun hr1 => ?_)
  refine lv_iload_n hx hb dX6_says_4 rfl (lv_at hl 2 rfl) ?_
  refine lv_if_lt (tgt := 14) hx hb dX6_says_5 (by decide) (fun h0 => absurd h0 (fun h => by have := (nI_lt2 (p := q) (q := 0) rfl rfl (by omega) (by omega)).mp h; omega)) (fun _ => ?_)
  refine lv_iload_n hx hb dX6_says_8 rfl (lv_at hl 2 rfl) ?_
  refine lv_bipush (v := 6) hx hb dX6_says_9 (by decide) ?_
  refine lv_icmp_lt (tgt := 24) hx hb dX6_says_11 (by decide) (fun _ => ?_) (fun h0 => absurd ((nI_lt2 (p := q) (q := 6) rfl rfl (by omega) (by omega)).mpr (by omega)) h0)
  refine lv_aload_n hx hb dX6_says_24 rfl (lv_at hl 0 rfl) ?_
  refine lv_iload_n hx hb dX6_says_25 rfl (lv_at hl 1 rfl) ?_
  refine lv_iload_n hx hb dX6_says_26 rfl (lv_at hl 2 rfl) ?_
  refine rw_i hS (va_runV (As := [.int (nI w), .int (nI q)]) (rest := []) ⟨hx, hb, hml, hown, hts⟩ (m_X6_wardenNumber l D cI cS a s st pi mi po w q (by omega) (by omega) _) (cwV 2 hts (gV tw515 tw512 tw514 ts16 tw1) rfl rfl rfl (by decide +kernel) ⟨Nat.le_of_ble_eq_true rfl, Nat.le_of_ble_eq_true rfl⟩) (pvW 112 hK hP hE (by decide) xc112 rfl) rfl rfl hl.1 rfl (lv_room (Nat.le_of_ble_eq_true rfl)) dX6_says_27 ⟨Nat.le_of_ble_eq_true rfl, Nat.le_of_ble_eq_true rfl⟩) (fun r5 u6 H locs hr4 hP hS => ?_)
  subst hr4
  exact rw_ir hx hb hr rfl hlocks hS u6 hP rfl dX6_says_30

set_option maxHeartbeats 4000000 in
set_option maxRecDepth 100000 in
theorem m_X6_setting (l : Launch) (D : va_G) (cI cS : ClassId) (a : Nat → Nat) (s : St) (st : Nat → St) (pi : Nat → Nat) (mi po : St) (q : Nat) (hq : q < 2) : Met l yX6_setting (.code yX6_setting cX6_setting 2 (some .int) :: wsA) ({ frames := 1, cells := 0, slots := 0, locals := 20 } : Room) (va_Pc [.ref (a 112), .int (nI q)] (PR D cI cS 113 a (exC cI cS a s st pi mi po))) (vp_Si (fun r => r = s 10 q)) 0 0 (fun _ => False) := by
  refine mgo (by decide) (Nat.le_of_ble_eq_true rfl) ?_
  intro p e z m below meth c hx hb hr hml hown hts hlocks hB ls hl
  obtain ⟨hP, hK⟩ := hB
  have hl : lv_has ls 2 [(0, .ref (a 112)), (1, .int (nI q))] := hl
  refine lv_iload_n hx hb dX6_setting_0 rfl (lv_at hl 1 rfl) ?_
  refine ro_v (va_runS (As := [.int (nI q)]) (rest := []) ⟨hx, hb, hml, hown, hts⟩ (m_X6_mustBeSetting l q (by omega)) (va_cwS 1 hts (gS tw644 tw642 tw643 tw1) rfl rfl rfl (by decide +kernel) ⟨Nat.le_of_ble_eq_true rfl, Nat.le_of_ble_eq_true rfl⟩) ps0 rfl rfl hl.1 rfl (lv_room (Nat.le_of_ble_eq_true rfl)) dX6_setting_1 ⟨Nat.le_of_ble_eq_true rfl, Nat.le_of_ble_eq_true rfl⟩) (fun hr1 => ?_)
  refine lv_aload_n hx hb dX6_setting_4 rfl (lv_at hl 0 rfl) ?_
  refine g_get hx hb hts hown inA6 hK hP 112 (by decide) xc112 rfl 0 (by decide) tw160 rfl (v := .ref (a 0)) rfl dX6_setting_5 ?_
  refine g_getN hx hb hts hown inA4 hK hP 0 (by decide) xc0 rfl 2 (by decide) tn91 rfl (v := .ref (a 12)) rfl dX6_setting_8 ?_
  refine lv_iload_n hx hb dX6_setting_11 rfl (lv_at hl 1 rfl) ?_
  refine g_iald hx hb hK hP 12 (by decide) xc12 q rfl (by omega) (by decide) dX6_setting_12 (v := s 10 q) rfl ?_
  exact ro_ir hx hb hr rfl hlocks rfl dX6_setting_13

set_option maxHeartbeats 4000000 in
set_option maxRecDepth 100000 in
theorem m_X6_without (l : Launch) (D : va_G) (cI cS : ClassId) (a : Nat → Nat) (s : St) (st : Nat → St) (pi : Nat → Nat) (mi po : St) (w : Nat) (hw : w < 7) (zz : Nat) : Met l yX6_without (.code yX6_without cX6_without 2 (some .int) :: wsA) ({ frames := 4, cells := 0, slots := 0, locals := 88 } : Room) (va_Pc [.ref (a 112), .int (nI w)] (PW D cI cS 113 a (exC cI cS a s st pi mi po) zz)) (va_Qi (fun (r : Int32) (u : St) => r = midW s w 0) (BW D 113 a (fun u => exC cI cS a s st pi mi u)) (AX 113 a zz)) 0 0 (AX 113 a zz) := by
  refine mgo (by decide) (Nat.le_of_ble_eq_true rfl) ?_
  intro p e z m below meth c hx hb hr hml hown hts hlocks hB ls hl
  obtain ⟨hsz, hP, hK, hE⟩ := hB
  subst hsz
  have hS : va_S (AX 113 a z.heap.size) z.heap z.heap [] := va_S.rf
  have hl : lv_has ls 2 [(0, .ref (a 112)), (1, .int (nI w))] := hl
  refine lv_iload_n hx hb dX6_without_0 rfl (lv_at hl 1 rfl) ?_
  refine ro_v (va_runS (As := [.int (nI w)]) (rest := []) ⟨hx, hb, hml, hown, hts⟩ (m_X6_mustBeDial l w (by omega)) (va_cwS 1 hts (gS tw473 tw471 tw472 tw1) rfl rfl rfl (by decide +kernel) ⟨Nat.le_of_ble_eq_true rfl, Nat.le_of_ble_eq_true rfl⟩) ps0 rfl rfl hl.1 rfl (lv_room (Nat.le_of_ble_eq_true rfl)) dX6_without_1 ⟨Nat.le_of_ble_eq_true rfl, Nat.le_of_ble_eq_true rfl⟩) (fun hr1 => ?_)
  refine lv_aload_n hx hb dX6_without_4 rfl (lv_at hl 0 rfl) ?_
  refine lv_iload_n hx hb dX6_without_5 rfl (lv_at hl 1 rfl) ?_
  refine lv_iconst (v := 0) hx hb dX6_without_6 (by decide) ?_
  refine rw_i hS (va_runV (As := [.int (nI w), .int 0]) (rest := []) ⟨hx, hb, hml, hown, hts⟩ (m_X6_middleIf l D cI cS a s st pi mi po w (by omega) 0 _) (cwV 2 hts (gV tw307 tw304 tw306 ts5 tw1) rfl rfl rfl (by decide +kernel) ⟨Nat.le_of_ble_eq_true rfl, Nat.le_of_ble_eq_true rfl⟩) (pvW 112 hK hP hE (by decide) xc112 rfl) rfl rfl hl.1 rfl (lv_room (Nat.le_of_ble_eq_true rfl)) dX6_without_7 ⟨Nat.le_of_ble_eq_true rfl, Nat.le_of_ble_eq_true rfl⟩) (fun r5 u6 H locs hr4 hP hS => ?_)
  subst hr4
  exact rw_ir hx hb hr rfl hlocks hS u6 hP rfl dX6_without_10

set_option maxHeartbeats 4000000 in
set_option maxRecDepth 100000 in
theorem m_X6_pivot (l : Launch) (D : va_G) (cI cS : ClassId) (a : Nat → Nat) (s : St) (st : Nat → St) (pi : Nat → Nat) (mi po : St) (zz : Nat) : Met l yX6_pivot (.code yX6_pivot cX6_pivot 7 (some .int) :: wsA) ({ frames := 4, cells := 0, slots := 0, locals := 88 } : Room) (va_Pc [.ref (a 112)] (PW D cI cS 113 a (exC cI cS a s st pi mi po) zz)) (va_Qi (fun (r : Int32) (u : St) => r = pivI s) (BW D 113 a (fun u => exC cI cS a s st pi mi u)) (AX 113 a zz)) 0 0 (AX 113 a zz) := by
  refine mgo (by decide) (Nat.le_of_ble_eq_true rfl) ?_
  intro p e z m below meth c hx hb hr hml hown hts hlocks hB ls hl
  obtain ⟨hsz, hP, hK, hE⟩ := hB
  subst hsz
  have hS : va_S (AX 113 a z.heap.size) z.heap z.heap [] := va_S.rf
  have hl : lv_has ls 7 [(0, .ref (a 112))] := hl
  refine lv_aload_n hx hb dX6_pivot_0 rfl (lv_at hl 0 rfl) ?_
  refine rw_i hS (va_runV (As := []) (rest := []) ⟨hx, hb, hml, hown, hts⟩ (m_X6_middleNow l D cI cS a s st pi mi po _) (cwV 0 hts (gV tw279 tw276 tw278 ts4 tw1) rfl rfl rfl (by decide +kernel) ⟨Nat.le_of_ble_eq_true rfl, Nat.le_of_ble_eq_true rfl⟩) (pvW 112 hK hP hE (by decide) xc112 rfl) rfl rfl hl.1 rfl (lv_room (Nat.le_of_ble_eq_true rfl)) dX6_pivot_1 ⟨Nat.le_of_ble_eq_true rfl, Nat.le_of_ble_eq_true rfl⟩) (fun r2 u3 H locs hr1 hP hS => ?_)
  obtain ⟨hr9, hpw⟩ := hr1; subst hr9
  refine lv_istore_n (lv' := [(1, .int (midI (wordA s) (s 7))), (0, .ref (a 112))]) hx hb dX6_pivot_4 rfl hl (by decide) rfl (fun ls hl => ?_)
  refine lv_iload_n hx hb dX6_pivot_5 rfl (lv_at hl 0 rfl) ?_
  refine lv_iconst (v := (-1)) hx hb dX6_pivot_6 (by decide) ?_
  refine lv_icmp_ne (tgt := 12) hx hb dX6_pivot_7 (by decide) (fun c4 => ?_) (fun c4 => ?_)
  · skip
    have hm1 := c4
    refine lv_iconst (v := (-1)) hx hb dX6_pivot_12 (by decide) ?_
    refine lv_istore_n (lv' := [(2, .int (-1)), (1, .int (midI (wordA s) (s 7))), (0, .ref (a 112))]) hx hb dX6_pivot_13 rfl hl (by decide) rfl (fun ls hl => ?_)
    refine lv_iconst (v := (-1)) hx hb dX6_pivot_14 (by decide) ?_
    refine lv_istore_n (lv' := [(3, .int (-1)), (2, .int (-1)), (1, .int (midI (wordA s) (s 7))), (0, .ref (a 112))]) hx hb dX6_pivot_15 rfl hl (by decide) rfl (fun ls hl => ?_)
    refine lv_iconst (v := 0) hx hb dX6_pivot_16 (by decide) ?_
    refine lv_istore (lv' := [(4, .int 0), (3, .int (-1)), (2, .int (-1)), (1, .int (midI (wordA s) (s 7))), (0, .ref (a 112))]) hx hb dX6_pivot_17 hl (by decide) rfl (fun ls hl => ?_)
    have loop19 : ∀ (fu : Nat) (j : Nat) (bv : Int32) (xv : Int32) (t : St), 7 + 1 ≤ j + fu → (j ≤ 7) → (pvF s (midI (wordA s) (s 7)) j = (bv, xv)) → ∀ (H : Heap) (locs : List Loc), HP D 113 a (exC cI cS a s st pi mi t) H → va_S (AX 113 a z.heap.size) z.heap H locs → ∀ ls : Array Slot, lv_has ls 7 [(0, .ref (a 112)), (1, .int (midI (wordA s) (s 7))), (2, .int bv), (3, .int xv), (4, .int (nI j))] → W p l e ({ frames := 4, cells := 0, slots := 0, locals := 88 } : Room) z m ([.ref (a 112)] : List Value).toArray below meth c H locs 0 0 (MQ below (va_Qi (fun (r : Int32) (u : St) => r = pivI s) (BW D 113 a (fun u => exC cI cS a s st pi mi u)) (AX 113 a z.heap.size)) ([.ref (a 112)] : List Value).toArray z 0 0 (AX 113 a z.heap.size)) (F0 m 19 ls []) := by
      intro fu
      induction fu with
      | zero => intro j bv xv t hn hj hv; exact absurd hn (by omega)
      | succ fu ih19 =>
        intro j bv xv t hn hj hv H locs hP hS ls hl
        refine lv_iload hx hb dX6_pivot_19 (lv_at hl 4 rfl) ?_
        refine lv_bipush (v := 7) hx hb dX6_pivot_21 (by decide) ?_
        refine lv_icmp_ge (tgt := 67) hx hb dX6_pivot_23 (by decide) (fun c5 => ?_) (fun c5 => ?_)
        · skip
          have c5x := Int32.not_lt.mpr c5
          have c5n := (nI_le2 (p := 7) (q := j) rfl rfl (by omega) (by omega)).mp c5
          have c5n : 7 ≤ j := c5n
          have hjq : 7 = j := by omega
          subst hjq
          refine lv_iload_n hx hb dX6_pivot_67 rfl (lv_at hl 2 rfl) ?_
          exact rw_ir hx hb hr rfl hlocks hS t hP (by unfold pivI; rw [if_neg hm1, hv]) dX6_pivot_68
        · skip
          have c5x := Int32.not_le.mp c5
          have c5n := fun hq0 => c5 ((nI_le2 (p := 7) (q := j) rfl rfl (by omega) (by omega)).mpr hq0)
          have c5n : ¬ (7 ≤ j) := c5n
          refine lv_aload_n hx hb dX6_pivot_26 rfl (lv_at hl 0 rfl) ?_
          refine lv_iload hx hb dX6_pivot_27 (lv_at hl 4 rfl) ?_
          refine lv_iconst (v := 0) hx hb dX6_pivot_29 (by decide) ?_
          refine rw_i hS (va_runV (As := [.int (nI j), .int 0]) (rest := []) ⟨hx, hb, hml, hown, hts⟩ (m_X6_middleIf l D cI cS a s st pi mi t j (by omega) 0 _) (cwV 2 hts (gV tw307 tw304 tw306 ts5 tw1) rfl rfl rfl (by decide +kernel) ⟨Nat.le_of_ble_eq_true rfl, Nat.le_of_ble_eq_true rfl⟩) (pvW 112 hK hP hE (by decide) xc112 rfl) rfl rfl hl.1 rfl (lv_room (Nat.le_of_ble_eq_true rfl)) dX6_pivot_30 ⟨Nat.le_of_ble_eq_true rfl, Nat.le_of_ble_eq_true rfl⟩) (fun r7 u8 H locs hr6 hP hS => ?_)
          subst hr6
          refine lv_istore (lv' := [(5, .int (midW s j 0)), (0, .ref (a 112)), (1, .int (midI (wordA s) (s 7))), (2, .int bv), (3, .int xv), (4, .int (nI j))]) hx hb dX6_pivot_33 hl (by decide) rfl (fun ls hl => ?_)
          refine lv_iload hx hb dX6_pivot_35 (lv_at hl 0 rfl) ?_
          refine lv_iload_n hx hb dX6_pivot_37 rfl (lv_at hl 2 rfl) ?_
          refine ro_i (va_runS (As := [.int (midW s j 0), .int (midI (wordA s) (s 7))]) (rest := []) ⟨hx, hb, hml, hown, hts⟩ (m_X6_distance l (midW s j 0) (midI (wordA s) (s 7))) (va_cwS 2 hts (gS tw222 tw308 tw221 tw1) rfl rfl rfl (by decide +kernel) ⟨Nat.le_of_ble_eq_true rfl, Nat.le_of_ble_eq_true rfl⟩) ps0 rfl rfl hl.1 rfl (lv_room (Nat.le_of_ble_eq_true rfl)) dX6_pivot_38 ⟨Nat.le_of_ble_eq_true rfl, Nat.le_of_ble_eq_true rfl⟩) (fun r10 hr9 => ?_)
          subst hr9
          refine lv_istore (lv' := [(6, .int (distI (midW s j 0) (midI (wordA s) (s 7)))), (5, .int (midW s j 0)), (0, .ref (a 112)), (1, .int (midI (wordA s) (s 7))), (2, .int bv), (3, .int xv), (4, .int (nI j))]) hx hb dX6_pivot_41 hl (by decide) rfl (fun ls hl => ?_)
          refine lv_iload hx hb dX6_pivot_43 (lv_at hl 1 rfl) ?_
          refine lv_iconst (v := (-1)) hx hb dX6_pivot_45 (by decide) ?_
          refine lv_icmp_eq (tgt := 61) hx hb dX6_pivot_46 (by decide) (fun c12 => ?_) (fun c12 => ?_)
          · skip
            refine lv_iinc (v := nI (j + 1)) (lv' := [(4, .int (nI (j + 1))), (6, .int (distI (midW s j 0) (midI (wordA s) (s 7)))), (5, .int (midW s j 0)), (0, .ref (a 112)), (1, .int (midI (wordA s) (s 7))), (2, .int bv), (3, .int xv)]) hx hb dX6_pivot_61 hl (k := 6) rfl (nI_add j 1) (by decide) rfl (fun ls hl => ?_)
            refine lv_goto (tgt := 19) hx hb dX6_pivot_64 (by decide) ?_
            exact ih19 (j + 1) bv xv u8 (by omega) (by omega) (by rw [pvF, hv]; simp [c5, c5x, c5n, c12]) _ _ hP hS ls (lv_sub hl [3, 4, 5, 6, 0] rfl)
          · skip
            refine lv_iload hx hb dX6_pivot_49 (lv_at hl 0 rfl) ?_
            refine lv_iload_n hx hb dX6_pivot_51 rfl (lv_at hl 5 rfl) ?_
            refine lv_icmp_le (tgt := 61) hx hb dX6_pivot_52 (by decide) (fun c13 => ?_) (fun c13 => ?_)
            · skip
              have c13x := Int32.not_lt.mpr c13
              refine lv_iinc (v := nI (j + 1)) (lv' := [(4, .int (nI (j + 1))), (6, .int (distI (midW s j 0) (midI (wordA s) (s 7)))), (5, .int (midW s j 0)), (0, .ref (a 112)), (1, .int (midI (wordA s) (s 7))), (2, .int bv), (3, .int xv)]) hx hb dX6_pivot_61 hl (k := 6) rfl (nI_add j 1) (by decide) rfl (fun ls hl => ?_)
              refine lv_goto (tgt := 19) hx hb dX6_pivot_64 (by decide) ?_
              exact ih19 (j + 1) bv xv u8 (by omega) (by omega) (by rw [pvF, hv]; simp [c5, c5x, c5n, c12, c13, c13x]) _ _ hP hS ls (lv_sub hl [3, 4, 5, 6, 0] rfl)
            · skip
              have c13x := Int32.not_le.mp c13
              refine lv_iload hx hb dX6_pivot_55 (lv_at hl 0 rfl) ?_
              refine lv_istore_n (lv' := [(3, .int (distI (midW s j 0) (midI (wordA s) (s 7)))), (6, .int (distI (midW s j 0) (midI (wordA s) (s 7)))), (5, .int (midW s j 0)), (0, .ref (a 112)), (1, .int (midI (wordA s) (s 7))), (2, .int bv), (4, .int (nI j))]) hx hb dX6_pivot_57 rfl hl (by decide) rfl (fun ls hl => ?_)
              refine lv_iload hx hb dX6_pivot_58 (lv_at hl 6 rfl) ?_
              refine lv_istore_n (lv' := [(2, .int (nI j)), (3, .int (distI (midW s j 0) (midI (wordA s) (s 7)))), (6, .int (distI (midW s j 0) (midI (wordA s) (s 7)))), (5, .int (midW s j 0)), (0, .ref (a 112)), (1, .int (midI (wordA s) (s 7))), (4, .int (nI j))]) hx hb dX6_pivot_60 rfl hl (by decide) rfl (fun ls hl => ?_)
              refine lv_iinc (v := nI (j + 1)) (lv' := [(4, .int (nI (j + 1))), (2, .int (nI j)), (3, .int (distI (midW s j 0) (midI (wordA s) (s 7)))), (6, .int (distI (midW s j 0) (midI (wordA s) (s 7)))), (5, .int (midW s j 0)), (0, .ref (a 112)), (1, .int (midI (wordA s) (s 7)))]) hx hb dX6_pivot_61 hl (k := 6) rfl (nI_add j 1) (by decide) rfl (fun ls hl => ?_)
              refine lv_goto (tgt := 19) hx hb dX6_pivot_64 (by decide) ?_
              exact ih19 (j + 1) (nI j) (distI (midW s j 0) (midI (wordA s) (s 7))) u8 (by omega) (by omega) (by rw [pvF, hv]; simp [c5, c5x, c5n, c12, c13, c13x]) _ _ hP hS ls (lv_sub hl [5, 6, 1, 2, 0] rfl)
    exact loop19 (7 + 1) 0 (-1) (-1) u3 (by omega) (by omega) rfl _ _ hP hS ls (lv_sub hl [4, 3, 2, 1, 0] rfl)
  · skip
    have hm1 := c4
    refine lv_iconst (v := (-1)) hx hb dX6_pivot_10 (by decide) ?_
    exact rw_ir hx hb hr rfl hlocks hS u3 hP (by unfold pivI; rw [if_pos hm1]) dX6_pivot_11

set_option maxHeartbeats 4000000 in
set_option maxRecDepth 100000 in
theorem m_X6_wins (l : Launch) (D : va_G) (cI cS : ClassId) (a : Nat → Nat) (s : St) (st : Nat → St) (pi : Nat → Nat) (mi po : St) (w : Nat) (hw : w < 7) (zz : Nat) : Met l yX6_wins (.code yX6_wins cX6_wins 4 (some .int) :: wsA) ({ frames := 4, cells := 0, slots := 0, locals := 88 } : Room) (va_Pc [.ref (a 112), .int (nI w)] (PW D cI cS 113 a (exC cI cS a s st pi mi po) zz)) (va_Qi (fun (r : Int32) (u : St) => r = winF s w 9 1) (BW D 113 a (fun u => exC cI cS a s st pi mi u)) (AX 113 a zz)) 0 0 (AX 113 a zz) := by
  refine mgo (by decide) (Nat.le_of_ble_eq_true rfl) ?_
  intro p e z m below meth c hx hb hr hml hown hts hlocks hB ls hl
  obtain ⟨hsz, hP, hK, hE⟩ := hB
  subst hsz
  have hS : va_S (AX 113 a z.heap.size) z.heap z.heap [] := va_S.rf
  have hl : lv_has ls 4 [(0, .ref (a 112)), (1, .int (nI w))] := hl
  refine lv_iload_n hx hb dX6_wins_0 rfl (lv_at hl 1 rfl) ?_
  refine ro_v (va_runS (As := [.int (nI w)]) (rest := []) ⟨hx, hb, hml, hown, hts⟩ (m_X6_mustBeDial l w (by omega)) (va_cwS 1 hts (gS tw473 tw471 tw472 tw1) rfl rfl rfl (by decide +kernel) ⟨Nat.le_of_ble_eq_true rfl, Nat.le_of_ble_eq_true rfl⟩) ps0 rfl rfl hl.1 rfl (lv_room (Nat.le_of_ble_eq_true rfl)) dX6_wins_1 ⟨Nat.le_of_ble_eq_true rfl, Nat.le_of_ble_eq_true rfl⟩) (fun hr1 => ?_)
  refine lv_aload_n hx hb dX6_wins_4 rfl (lv_at hl 0 rfl) ?_
  refine g_get hx hb hts hown inA6 hK hP 112 (by decide) xc112 rfl 0 (by decide) tw160 rfl (v := .ref (a 0)) rfl dX6_wins_5 ?_
  refine lv_iload_n hx hb dX6_wins_8 rfl (lv_at hl 1 rfl) ?_
  refine ro_i (va_runV (As := [.int (nI w)]) (rest := []) ⟨hx, hb, hml, hown, hts⟩ (m_X4_wordOf l D cI cS a s st pi mi po w (by omega)) (cwV 1 hts (gV tw287 tw516 tw285 tw286 tw2) rfl rfl rfl (by decide +kernel) ⟨Nat.le_of_ble_eq_true rfl, Nat.le_of_ble_eq_true rfl⟩) (pvR 0 hK hP (by decide) xc0 rfl) rfl rfl hl.1 rfl (lv_room (Nat.le_of_ble_eq_true rfl)) dX6_wins_9 ⟨Nat.le_of_ble_eq_true rfl, Nat.le_of_ble_eq_true rfl⟩) (fun r5 hr4 => ?_)
  subst hr4
  refine lv_istore_n (lv' := [(2, .int (wordA s w)), (0, .ref (a 112)), (1, .int (nI w))]) hx hb dX6_wins_12 rfl hl (by decide) rfl (fun ls hl => ?_)
  refine lv_iconst (v := 1) hx hb dX6_wins_13 (by decide) ?_
  refine lv_istore_n (lv' := [(3, .int 1), (2, .int (wordA s w)), (0, .ref (a 112)), (1, .int (nI w))]) hx hb dX6_wins_14 rfl hl (by decide) rfl (fun ls hl => ?_)
  have loop15 : ∀ (fu : Nat) (q : Nat) (t : St), 10 + 1 ≤ q + fu → (1 ≤ q ∧ q ≤ 10) → (winF s w 9 1 = winF s w (10 - q) q) → ∀ (H : Heap) (locs : List Loc), HP D 113 a (exC cI cS a s st pi mi t) H → va_S (AX 113 a z.heap.size) z.heap H locs → ∀ ls : Array Slot, lv_has ls 4 [(0, .ref (a 112)), (1, .int (nI w)), (2, .int (wordA s w)), (3, .int (nI q))] → W p l e ({ frames := 4, cells := 0, slots := 0, locals := 88 } : Room) z m ([.ref (a 112), .int (nI w)] : List Value).toArray below meth c H locs 0 0 (MQ below (va_Qi (fun (r : Int32) (u : St) => r = winF s w 9 1) (BW D 113 a (fun u => exC cI cS a s st pi mi u)) (AX 113 a z.heap.size)) ([.ref (a 112), .int (nI w)] : List Value).toArray z 0 0 (AX 113 a z.heap.size)) (F0 m 15 ls []) := by
    intro fu
    induction fu with
    | zero => intro q t hn hq hR; exact absurd hn (by omega)
    | succ fu ih15 =>
      intro q t hn hq hR H locs hP hS ls hl
      refine lv_iload_n hx hb dX6_wins_15 rfl (lv_at hl 3 rfl) ?_
      refine lv_bipush (v := 9) hx hb dX6_wins_16 (by decide) ?_
      refine lv_icmp_gt (tgt := 39) hx hb dX6_wins_18 (by decide) (fun c7 => ?_) (fun c7 => ?_)
      · skip
        have c7x := Int32.not_le.mpr c7
        have c7n := (nI_lt2 (p := 9) (q := q) rfl rfl (by omega) (by omega)).mp c7
        have c7n : 9 < q := c7n
        have hjq : 10 = q := by omega
        subst hjq
        refine lv_iconst (v := (-1)) hx hb dX6_wins_39 (by decide) ?_
        exact rw_ir hx hb hr rfl hlocks hS t hP (by rw [hR]; rfl) dX6_wins_40
      · skip
        have c7x := Int32.not_lt.mp c7
        have c7n := fun hq0 => c7 ((nI_lt2 (p := 9) (q := q) rfl rfl (by omega) (by omega)).mpr hq0)
        have c7n : ¬ (9 < q) := c7n
        refine lv_aload_n hx hb dX6_wins_21 rfl (lv_at hl 0 rfl) ?_
        refine lv_iload_n hx hb dX6_wins_22 rfl (lv_at hl 1 rfl) ?_
        refine lv_iload_n hx hb dX6_wins_23 rfl (lv_at hl 3 rfl) ?_
        refine rw_i hS (va_runV (As := [.int (nI w), .int (nI q)]) (rest := []) ⟨hx, hb, hml, hown, hts⟩ (m_X6_middleIf l D cI cS a s st pi mi t w (by omega) (nI q) _) (cwV 2 hts (gV tw307 tw304 tw306 ts5 tw1) rfl rfl rfl (by decide +kernel) ⟨Nat.le_of_ble_eq_true rfl, Nat.le_of_ble_eq_true rfl⟩) (pvW 112 hK hP hE (by decide) xc112 rfl) rfl rfl hl.1 rfl (lv_room (Nat.le_of_ble_eq_true rfl)) dX6_wins_24 ⟨Nat.le_of_ble_eq_true rfl, Nat.le_of_ble_eq_true rfl⟩) (fun r9 u10 H locs hr8 hP hS => ?_)
        subst hr8
        refine lv_iload_n hx hb dX6_wins_27 rfl (lv_at hl 2 rfl) ?_
        refine lv_icmp_ne (tgt := 33) hx hb dX6_wins_28 (by decide) (fun c11 => ?_) (fun c11 => ?_)
        · skip
          refine lv_iinc (v := nI (q + 1)) (lv' := [(3, .int (nI (q + 1))), (0, .ref (a 112)), (1, .int (nI w)), (2, .int (wordA s w))]) hx hb dX6_wins_33 hl (k := 3) rfl (nI_add q 1) (by decide) rfl (fun ls hl => ?_)
          refine lv_goto (tgt := 15) hx hb dX6_wins_36 (by decide) ?_
          exact ih15 (q + 1) u10 (by omega) (⟨by omega, by omega⟩) (by rw [hR, show 10 - q = (10 - (q + 1)) + 1 by omega, winF, if_neg c11]) _ _ hP hS ls (lv_sub hl [1, 2, 3, 0] rfl)
        · skip
          refine lv_iload_n hx hb dX6_wins_31 rfl (lv_at hl 3 rfl) ?_
          exact rw_ir hx hb hr rfl hlocks hS u10 hP (by rw [hR, show 10 - q = (10 - (q + 1)) + 1 by omega, winF, if_pos c11]) dX6_wins_32
  exact loop15 (10 + 1) 1 po (by omega) (⟨by omega, by omega⟩) rfl _ _ hP hS ls (lv_sub hl [2, 3, 1, 0] rfl)

set_option maxHeartbeats 4000000 in
set_option maxRecDepth 100000 in
theorem m_X6_quarrelIn (l : Launch) (D : va_G) (cI cS : ClassId) (a : Nat → Nat) (s : St) (st : Nat → St) (pi : Nat → Nat) (mi po : St) (d : Nat) (hd : d < 7) : Met l yX6_quarrelIn (.code yX6_quarrelIn cX6_quarrelIn 2 (some .int) :: wsA) ({ frames := 3, cells := 0, slots := 0, locals := 68 } : Room) (va_Pc [.ref (a 112), .int (nI d)] (PR D cI cS 113 a (exC cI cS a s st pi mi po))) (vp_Si (fun r => r = qF s d (behN d) 201 0 (s 1 d) (s 1 (behN d)))) 0 0 (fun _ => False) := by
  refine mgo (by decide) (Nat.le_of_ble_eq_true rfl) ?_
  intro p e z m below meth c hx hb hr hml hown hts hlocks hB ls hl
  obtain ⟨hP, hK⟩ := hB
  have hl : lv_has ls 2 [(0, .ref (a 112)), (1, .int (nI d))] := hl
  refine lv_iload_n hx hb dX6_quarrelIn_0 rfl (lv_at hl 1 rfl) ?_
  refine ro_v (va_runS (As := [.int (nI d)]) (rest := []) ⟨hx, hb, hml, hown, hts⟩ (m_X6_mustBeDial l d (by omega)) (va_cwS 1 hts (gS tw473 tw471 tw472 tw1) rfl rfl rfl (by decide +kernel) ⟨Nat.le_of_ble_eq_true rfl, Nat.le_of_ble_eq_true rfl⟩) ps0 rfl rfl hl.1 rfl (lv_room (Nat.le_of_ble_eq_true rfl)) dX6_quarrelIn_1 ⟨Nat.le_of_ble_eq_true rfl, Nat.le_of_ble_eq_true rfl⟩) (fun hr1 => ?_)
  refine lv_aload_n hx hb dX6_quarrelIn_4 rfl (lv_at hl 0 rfl) ?_
  refine g_get hx hb hts hown inA6 hK hP 112 (by decide) xc112 rfl 0 (by decide) tw160 rfl (v := .ref (a 0)) rfl dX6_quarrelIn_5 ?_
  refine lv_iload_n hx hb dX6_quarrelIn_8 rfl (lv_at hl 1 rfl) ?_
  refine ro_i (va_runV (As := [.int (nI d)]) (rest := []) ⟨hx, hb, hml, hown, hts⟩ (m_X4_ticksToQuarrel l D cI cS a s st pi mi po d (by omega)) (cwV 1 hts (gV tw493 tw490 tw491 tw492 tw2) rfl rfl rfl (by decide +kernel) ⟨Nat.le_of_ble_eq_true rfl, Nat.le_of_ble_eq_true rfl⟩) (pvR 0 hK hP (by decide) xc0 rfl) rfl rfl hl.1 rfl (lv_room (Nat.le_of_ble_eq_true rfl)) dX6_quarrelIn_9 ⟨Nat.le_of_ble_eq_true rfl, Nat.le_of_ble_eq_true rfl⟩) (fun r5 hr4 => ?_)
  subst hr4
  exact ro_ir hx hb hr rfl hlocks rfl dX6_quarrelIn_12

set_option maxHeartbeats 4000000 in
set_option maxRecDepth 100000 in
theorem m_X6_ringsIn (l : Launch) (D : va_G) (cI cS : ClassId) (a : Nat → Nat) (s : St) (st : Nat → St) (pi : Nat → Nat) (mi po : St) (d : Nat) (hd : d < 7) : Met l yX6_ringsIn (.code yX6_ringsIn cX6_ringsIn 2 (some .int) :: wsA) ({ frames := 2, cells := 0, slots := 0, locals := 47 } : Room) (va_Pc [.ref (a 112), .int (nI d)] (PR D cI cS 113 a (exC cI cS a s st pi mi po))) (vp_Si (fun r => r = ringF s d (s 1 d / 60) 200 1 (s 1 d))) 0 0 (fun _ => False) := by
  refine mgo (by decide) (Nat.le_of_ble_eq_true rfl) ?_
  intro p e z m below meth c hx hb hr hml hown hts hlocks hB ls hl
  obtain ⟨hP, hK⟩ := hB
  have hl : lv_has ls 2 [(0, .ref (a 112)), (1, .int (nI d))] := hl
  refine lv_iload_n hx hb dX6_ringsIn_0 rfl (lv_at hl 1 rfl) ?_
  refine ro_v (va_runS (As := [.int (nI d)]) (rest := []) ⟨hx, hb, hml, hown, hts⟩ (m_X6_mustBeDial l d (by omega)) (va_cwS 1 hts (gS tw473 tw471 tw472 tw1) rfl rfl rfl (by decide +kernel) ⟨Nat.le_of_ble_eq_true rfl, Nat.le_of_ble_eq_true rfl⟩) ps0 rfl rfl hl.1 rfl (lv_room (Nat.le_of_ble_eq_true rfl)) dX6_ringsIn_1 ⟨Nat.le_of_ble_eq_true rfl, Nat.le_of_ble_eq_true rfl⟩) (fun hr1 => ?_)
  refine lv_aload_n hx hb dX6_ringsIn_4 rfl (lv_at hl 0 rfl) ?_
  refine g_get hx hb hts hown inA6 hK hP 112 (by decide) xc112 rfl 0 (by decide) tw160 rfl (v := .ref (a 0)) rfl dX6_ringsIn_5 ?_
  refine g_getN hx hb hts hown inA4 hK hP 0 (by decide) xc0 rfl 0 (by decide) tn86 rfl (v := .ref (a 1)) rfl dX6_ringsIn_8 ?_
  refine lv_iload_n hx hb dX6_ringsIn_11 rfl (lv_at hl 1 rfl) ?_
  refine ro_i (va_runV (As := [.int (nI d)]) (rest := []) ⟨hx, hb, hml, hown, hts⟩ (m_X0_ticksToRing l D cI cS a s st pi mi po d (by omega)) (cwV 1 hts (gV tw506 tw503 tw504 tw505 tw3) rfl rfl rfl (by decide +kernel) ⟨Nat.le_of_ble_eq_true rfl, Nat.le_of_ble_eq_true rfl⟩) (pvR 1 hK hP (by decide) xc1 rfl) rfl rfl hl.1 rfl (lv_room (Nat.le_of_ble_eq_true rfl)) dX6_ringsIn_12 ⟨Nat.le_of_ble_eq_true rfl, Nat.le_of_ble_eq_true rfl⟩) (fun r5 hr4 => ?_)
  subst hr4
  exact ro_ir hx hb hr rfl hlocks rfl dX6_ringsIn_15

set_option maxHeartbeats 4000000 in
set_option maxRecDepth 100000 in
theorem m_X6_heldShare (l : Launch) (D : va_G) (cI cS : ClassId) (a : Nat → Nat) (s : St) (st : Nat → St) (pi : Nat → Nat) (mi po : St) (hh2 : 0 ≤ (s 0 3).toInt) (hv2 : 0 ≤ (s 0 2).toInt) : Met l yX6_heldShare (.code yX6_heldShare cX6_heldShare 1 (some .double) :: wsA) ({ frames := 0, cells := 0, slots := 0, locals := 0 } : Room) (va_Pc [.ref (a 112)] (PR D cI cS 113 a (exC cI cS a s st pi mi po))) (vp_Sd (fun r => r = shareD s)) 0 0 (fun _ => False) := by
  refine mgo (by decide) (Nat.le_of_ble_eq_true rfl) ?_
  intro p e z m below meth c hx hb hr hml hown hts hlocks hB ls hl
  obtain ⟨hP, hK⟩ := hB
  have hl : lv_has ls 1 [(0, .ref (a 112))] := hl
  refine lv_aload_n hx hb dX6_heldShare_0 rfl (lv_at hl 0 rfl) ?_
  refine g_get hx hb hts hown inA6 hK hP 112 (by decide) xc112 rfl 0 (by decide) tw160 rfl (v := .ref (a 0)) rfl dX6_heldShare_1 ?_
  refine g_getN hx hb hts hown inA4 hK hP 0 (by decide) xc0 rfl 4 (by decide) tn95 rfl (v := .int (s 0 2)) rfl dX6_heldShare_4 ?_
  refine lv_if_ne (tgt := 12) hx hb dX6_heldShare_7 (by decide) (fun c1 => ?_) (fun c1 => ?_)
  · skip
    have hz := c1
    have hv3 : 0 < (s 0 2).toInt := by have h9 : (s 0 2).toInt ≠ 0 := fun h => hz (Int32.toInt_inj.mp (h.trans (by decide))); omega
    refine lv_aload_n hx hb dX6_heldShare_12 rfl (lv_at hl 0 rfl) ?_
    refine g_get hx hb hts hown inA6 hK hP 112 (by decide) xc112 rfl 0 (by decide) tw160 rfl (v := .ref (a 0)) rfl dX6_heldShare_13 ?_
    refine g_getN hx hb hts hown inA4 hK hP 0 (by decide) xc0 rfl 5 (by decide) tn97 rfl (v := .int (s 0 3)) rfl dX6_heldShare_16 ?_
    refine lv_i2d hx hb dX6_heldShare_19 ?_
    refine lv_aload_n hx hb dX6_heldShare_20 rfl (lv_at hl 0 rfl) ?_
    refine g_get hx hb hts hown inA6 hK hP 112 (by decide) xc112 rfl 0 (by decide) tw160 rfl (v := .ref (a 0)) rfl dX6_heldShare_21 ?_
    refine g_getN hx hb hts hown inA4 hK hP 0 (by decide) xc0 rfl 4 (by decide) tn95 rfl (v := .int (s 0 2)) rfl dX6_heldShare_24 ?_
    refine lv_i2d hx hb dX6_heldShare_27 ?_
    refine lv_ddiv hx hb dX6_heldShare_28 (d_share hh2 hv3).vf ?_
    exact ro_dr hx hb hr hlocks (by unfold shareD; rw [if_neg hz]) dX6_heldShare_29
  · skip
    have hz := c1
    refine lv_dconst0 hx hb dX6_heldShare_10 ?_
    exact ro_dr hx hb hr hlocks (by unfold shareD; rw [if_pos hz]) dX6_heldShare_11

set_option maxHeartbeats 4000000 in
set_option maxRecDepth 100000 in
theorem m_X6_meanError (l : Launch) (D : va_G) (cI cS : ClassId) (a : Nat → Nat) (s : St) (st : Nat → St) (pi : Nat → Nat) (mi po : St) (hE0 : 0 ≤ (errC s 7).toInt) : Met l yX6_meanError (.code yX6_meanError cX6_meanError 3 (some .float) :: wsA) ({ frames := 2, cells := 0, slots := 0, locals := 42 } : Room) (va_Pc [.ref (a 112)] (PR D cI cS 113 a (exC cI cS a s st pi mi po))) (vp_Sf (fun r => r = meanF s)) 0 0 (fun _ => False) := by
  refine mgo (by decide) (Nat.le_of_ble_eq_true rfl) ?_
  intro p e z m below meth c hx hb hr hml hown hts hlocks hB ls hl
  obtain ⟨hP, hK⟩ := hB
  have hl : lv_has ls 3 [(0, .ref (a 112))] := hl
  refine lv_iconst (v := 0) hx hb dX6_meanError_0 (by decide) ?_
  refine lv_istore_n (lv' := [(1, .int 0), (0, .ref (a 112))]) hx hb dX6_meanError_1 rfl hl (by decide) rfl (fun ls hl => ?_)
  refine lv_iconst (v := 0) hx hb dX6_meanError_2 (by decide) ?_
  refine lv_istore_n (lv' := [(2, .int 0), (1, .int 0), (0, .ref (a 112))]) hx hb dX6_meanError_3 rfl hl (by decide) rfl (fun ls hl => ?_)
  have loop4 : ∀ (fu : Nat) (j : Nat) (x : Int32), 7 + 1 ≤ j + fu → (j ≤ 7) → (x = errC s j) → ∀ ls : Array Slot, lv_has ls 3 [(0, .ref (a 112)), (1, .int x), (2, .int (nI j))] → W p l e ({ frames := 2, cells := 0, slots := 0, locals := 42 } : Room) z m ([.ref (a 112)] : List Value).toArray below meth c z.heap [] 0 0 (MQ below (vp_Sf (fun r => r = meanF s)) ([.ref (a 112)] : List Value).toArray z 0 0 (fun _ => False)) (F0 m 4 ls []) := by
    intro fu
    induction fu with
    | zero => intro j x hn hj hx1; exact absurd hn (by omega)
    | succ fu ih4 =>
      intro j x hn hj hx1 ls hl
      refine lv_iload_n hx hb dX6_meanError_4 rfl (lv_at hl 2 rfl) ?_
      refine lv_bipush (v := 7) hx hb dX6_meanError_5 (by decide) ?_
      refine lv_icmp_ge (tgt := 30) hx hb dX6_meanError_7 (by decide) (fun c1 => ?_) (fun c1 => ?_)
      · skip
        have c1x := Int32.not_lt.mpr c1
        have c1n := (nI_le2 (p := 7) (q := j) rfl rfl (by omega) (by omega)).mp c1
        have c1n : 7 ≤ j := c1n
        have hjq : 7 = j := by omega
        subst hjq
        refine lv_iload_n hx hb dX6_meanError_30 rfl (lv_at hl 1 rfl) ?_
        refine lv_i2f hx hb dX6_meanError_31 ?_
        refine lv_ldcf hx hb hown (hts _ tw322) dX6_meanError_32 ?_
        refine lv_fdiv hx hb dX6_meanError_34 (f_mean (n := x) (by rw [hx1]; exact hE0)).vf ?_
        exact ro_fr hx hb hr hlocks (by unfold meanF; rw [hx1]) dX6_meanError_35
      · skip
        have c1x := Int32.not_le.mp c1
        have c1n := fun hq0 => c1 ((nI_le2 (p := 7) (q := j) rfl rfl (by omega) (by omega)).mpr hq0)
        have c1n : ¬ (7 ≤ j) := c1n
        refine lv_iload_n hx hb dX6_meanError_10 rfl (lv_at hl 1 rfl) ?_
        refine lv_aload_n hx hb dX6_meanError_11 rfl (lv_at hl 0 rfl) ?_
        refine g_get hx hb hts hown inA6 hK hP 112 (by decide) xc112 rfl 0 (by decide) tw160 rfl (v := .ref (a 0)) rfl dX6_meanError_12 ?_
        refine g_getN hx hb hts hown inA4 hK hP 0 (by decide) xc0 rfl 0 (by decide) tn86 rfl (v := .ref (a 1)) rfl dX6_meanError_15 ?_
        refine lv_iload_n hx hb dX6_meanError_18 rfl (lv_at hl 2 rfl) ?_
        refine ro_i (va_runV (As := [.int (nI j)]) (rest := [.int x]) ⟨hx, hb, hml, hown, hts⟩ (m_X0_errorOf l D cI cS a s st pi mi po j (by omega)) (cwV 1 hts (gV tw320 tw317 tw318 tw319 tw3) rfl rfl rfl (by decide +kernel) ⟨Nat.le_of_ble_eq_true rfl, Nat.le_of_ble_eq_true rfl⟩) (pvR 1 hK hP (by decide) xc1 rfl) rfl rfl hl.1 rfl (lv_room (Nat.le_of_ble_eq_true rfl)) dX6_meanError_19 ⟨Nat.le_of_ble_eq_true rfl, Nat.le_of_ble_eq_true rfl⟩) (fun r3 hr2 => ?_)
        subst hr2
        refine lv_iadd hx hb dX6_meanError_22 ?_
        refine lv_istore_n (lv' := [(1, .int (x + (errI s j))), (0, .ref (a 112)), (2, .int (nI j))]) hx hb dX6_meanError_23 rfl hl (by decide) rfl (fun ls hl => ?_)
        refine lv_iinc (v := nI (j + 1)) (lv' := [(2, .int (nI (j + 1))), (1, .int (x + (errI s j))), (0, .ref (a 112))]) hx hb dX6_meanError_24 hl (k := 2) rfl (nI_add j 1) (by decide) rfl (fun ls hl => ?_)
        refine lv_goto (tgt := 4) hx hb dX6_meanError_27 (by decide) ?_
        exact ih4 (j + 1) (x + (errI s j)) (by omega) (by omega) (by rw [errC, ← hx1]) ls (lv_sub hl [2, 1, 0] rfl)
  exact loop4 (7 + 1) 0 0 (by omega) (by omega) rfl ls (lv_sub hl [2, 1, 0] rfl)

set_option maxHeartbeats 4000000 in
set_option maxRecDepth 100000 in
theorem m_X6_bitsOf (l : Launch) (x : UInt64) (fb b : Int32) (k : Nat) (hdx : dOk x) (hk : k ≤ 100) (hU : FP.Core.decode FP.Core.b64 (FP.l2d (unitL fb)).toNat = .fin false 4503599627370496 ((k : Int) - 52)) : Met l yX6_bitsOf (.code yX6_bitsOf cX6_bitsOf 9 (some .long) :: wsA) ({ frames := 0, cells := 0, slots := 0, locals := 0 } : Room) (va_Pc [.double x, .int fb, .int b] (fun _ => True)) (vp_Sl (fun r => r = bitsX x fb b)) 0 0 (fun _ => False) := by
  refine mgo (by decide) (Nat.le_of_ble_eq_true rfl) ?_
  intro p e z m below meth c hx hb hr hml hown hts hlocks hB ls hl
  have hl : lv_has ls 9 [(0, .double x), (2, .int fb), (3, .int b)] := hl
  refine lv_dload_n hx hb dX6_bitsOf_0 rfl (lv_at hl 0 rfl) ?_
  refine lv_dconst0 hx hb dX6_bitsOf_1 ?_
  refine lv_dcmp hx hb dX6_bitsOf_2 ?_
  refine lv_if_gt (tgt := 8) hx hb dX6_bitsOf_3 (by decide) (fun c1 => ?_) (fun c1 => ?_)
  · skip
    have c1x := Int32.not_le.mpr c1
    obtain ⟨c9, q9, hn9, hq1, hq2⟩ := c_n0 hdx c1
    refine lv_dload_n hx hb dX6_bitsOf_8 rfl (lv_at hl 0 rfl) ?_
    refine lv_dstore (lv' := [(4, .double x), (0, .double x), (2, .int fb), (3, .int b)]) hx hb dX6_bitsOf_9 hl (by decide) rfl (fun ls hl => ?_)
    refine lv_iconst (v := 0) hx hb dX6_bitsOf_11 (by decide) ?_
    refine lv_istore (lv' := [(6, .int 0), (4, .double x), (0, .double x), (2, .int fb), (3, .int b)]) hx hb dX6_bitsOf_12 hl (by decide) rfl (fun ls hl => ?_)
    refine lv_iconst (v := 0) hx hb dX6_bitsOf_14 (by decide) ?_
    refine lv_istore (lv' := [(7, .int 0), (6, .int 0), (4, .double x), (0, .double x), (2, .int fb), (3, .int b)]) hx hb dX6_bitsOf_15 hl (by decide) rfl (fun ls hl => ?_)
    have loop17 : ∀ (fu : Nat) (j : Nat) (xd : UInt64) (ev : Int32), 1100 + 1 ≤ j + fu → (j ≤ 1100) → (dNrm xd c9 (q9 + (j : Int))) → (ev = Int32.ofInt (-(j : Int))) → (q9 + (j : Int) ≤ 500) → ∀ ls : Array Slot, lv_has ls 9 [(0, .double x), (2, .int fb), (3, .int b), (4, .double xd), (6, .int ev), (7, .int (nI j))] → W p l e ({ frames := 0, cells := 0, slots := 0, locals := 0 } : Room) z m ([.double x, .int fb, .int b] : List Value).toArray below meth c z.heap [] 0 0 (MQ below (vp_Sl (fun r => r = bitsX x fb b)) ([.double x, .int fb, .int b] : List Value).toArray z 0 0 (fun _ => False)) (F0 m 17 ls []) := by
      intro fu
      induction fu with
      | zero => intro j xd ev hn hj hd2 he2 hq3; exact absurd hn (by omega)
      | succ fu ih17 =>
        intro j xd ev hn hj hd2 he2 hq3 ls hl
        refine lv_iload hx hb dX6_bitsOf_17 (lv_at hl 5 rfl) ?_
        refine lv_sipush (v := 1100) hx hb dX6_bitsOf_19 (by decide) ?_
        refine lv_icmp_ge (tgt := 49) hx hb dX6_bitsOf_22 (by decide) (fun c2 => ?_) (fun c2 => ?_)
        · skip
          have c2x := Int32.not_lt.mpr c2
          have c2n := (nI_le2 (p := 1100) (q := j) rfl rfl (by omega) (by omega)).mp c2
          have c2n : 1100 ≤ j := c2n
          have hlo : -52 ≤ q9 + (j : Int) := by omega
          refine lv_iconst (v := 0) hx hb dX6_bitsOf_49 (by decide) ?_
          refine lv_istore (lv' := [(7, .int 0), (0, .double x), (2, .int fb), (3, .int b), (4, .double xd), (6, .int ev)]) hx hb dX6_bitsOf_50 hl (by decide) rfl (fun ls hl => ?_)
          have loop52 : ∀ (fu : Nat) (i : Nat) (yd : UInt64) (ew : Int32), 1100 + 1 ≤ i + fu → (i ≤ 1100) → (dNrm yd c9 (q9 + (j : Int) - (i : Int))) → (ew = Int32.ofInt (-(j : Int) + (i : Int))) → (-52 ≤ q9 + (j : Int) - (i : Int)) → ∀ ls : Array Slot, lv_has ls 9 [(0, .double x), (2, .int fb), (3, .int b), (4, .double yd), (6, .int ew), (7, .int (nI i))] → W p l e ({ frames := 0, cells := 0, slots := 0, locals := 0 } : Room) z m ([.double x, .int fb, .int b] : List Value).toArray below meth c z.heap [] 0 0 (MQ below (vp_Sl (fun r => r = bitsX x fb b)) ([.double x, .int fb, .int b] : List Value).toArray z 0 0 (fun _ => False)) (F0 m 52 ls []) := by
            intro fu
            induction fu with
            | zero => intro i yd ew hn hi hd2 he3 hlo2; exact absurd hn (by omega)
            | succ fu ih52 =>
              intro i yd ew hn hi hd2 he3 hlo2 ls hl
              refine lv_iload hx hb dX6_bitsOf_52 (lv_at hl 5 rfl) ?_
              refine lv_sipush (v := 1100) hx hb dX6_bitsOf_54 (by decide) ?_
              refine lv_icmp_ge (tgt := 86) hx hb dX6_bitsOf_57 (by decide) (fun c3 => ?_) (fun c3 => ?_)
              · skip
                have c3x := Int32.not_lt.mpr c3
                have c3n := (nI_le2 (p := 1100) (q := i) rfl rfl (by omega) (by omega)).mp c3
                have c3n : 1100 ≤ i := c3n
                have hfi : q9 + (j : Int) - (i : Int) = -52 := by omega
                rw [hfi] at hd2
                refine lv_lconst (v := 1) hx hb dX6_bitsOf_86 (by decide) ?_
                refine lv_iload_n hx hb dX6_bitsOf_87 rfl (lv_at hl 1 rfl) ?_
                refine lv_lshl hx hb dX6_bitsOf_88 rfl ?_
                refine lv_lstore (lv' := [(7, .long (unitL fb)), (0, .double x), (2, .int fb), (3, .int b), (4, .double yd), (6, .int ew)]) hx hb dX6_bitsOf_89 hl (by decide) rfl (fun ls hl => ?_)
                refine lv_iload hx hb dX6_bitsOf_91 (lv_at hl 5 rfl) ?_
                refine lv_iload_n hx hb dX6_bitsOf_93 rfl (lv_at hl 3 rfl) ?_
                refine lv_iadd hx hb dX6_bitsOf_94 ?_
                refine lv_i2l hx hb dX6_bitsOf_95 rfl ?_
                refine lv_lload hx hb dX6_bitsOf_96 (lv_at hl 0 rfl) ?_
                refine lv_lmul hx hb dX6_bitsOf_98 ?_
                refine lv_dload hx hb dX6_bitsOf_99 (lv_at hl 4 rfl) ?_
                refine lv_dconst1 hx hb dX6_bitsOf_101 ?_
                refine lv_dsub hx hb dX6_bitsOf_102 (sub_vf hd2) ?_
                refine lv_lload hx hb dX6_bitsOf_103 (lv_at hl 0 rfl) ?_
                refine lv_l2d hx hb dX6_bitsOf_105 ?_
                refine lv_dmul hx hb dX6_bitsOf_106 (mulU_vf hd2 hU hk) ?_
                refine lv_d2l hx hb dX6_bitsOf_107 ?_
                refine lv_ladd hx hb dX6_bitsOf_108 ?_
                exact ro_lr hx hb hr hlocks (by rw [bitsX_n hn9, show q9 + 52 = -(j : Int) + (i : Int) by omega, ← he3, show yd = mk64 c9 from hd2.1]) dX6_bitsOf_109
              · skip
                have c3x := Int32.not_le.mp c3
                have c3n := fun hq0 => c3 ((nI_le2 (p := 1100) (q := i) rfl rfl (by omega) (by omega)).mpr hq0)
                have c3n : ¬ (1100 ≤ i) := c3n
                refine lv_dload hx hb dX6_bitsOf_60 (lv_at hl 3 rfl) ?_
                refine lv_ldc2d hx hb hown (hts _ tw539) dX6_bitsOf_62 ?_
                refine lv_dcmp hx hb dX6_bitsOf_65 ?_
                refine lv_if_lt (tgt := 86) hx hb dX6_bitsOf_66 (by decide) (fun c4 => ?_) (fun c4 => ?_)
                · skip
                  have c4x := Int32.not_le.mpr c4
                  have hfi : q9 + (j : Int) - (i : Int) = -52 := by have := c_lt2 hd2 c4; omega
                  rw [hfi] at hd2
                  refine lv_lconst (v := 1) hx hb dX6_bitsOf_86 (by decide) ?_
                  refine lv_iload_n hx hb dX6_bitsOf_87 rfl (lv_at hl 1 rfl) ?_
                  refine lv_lshl hx hb dX6_bitsOf_88 rfl ?_
                  refine lv_lstore (lv' := [(7, .long (unitL fb)), (0, .double x), (2, .int fb), (3, .int b), (4, .double yd), (6, .int ew)]) hx hb dX6_bitsOf_89 hl (by decide) rfl (fun ls hl => ?_)
                  refine lv_iload hx hb dX6_bitsOf_91 (lv_at hl 5 rfl) ?_
                  refine lv_iload_n hx hb dX6_bitsOf_93 rfl (lv_at hl 3 rfl) ?_
                  refine lv_iadd hx hb dX6_bitsOf_94 ?_
                  refine lv_i2l hx hb dX6_bitsOf_95 rfl ?_
                  refine lv_lload hx hb dX6_bitsOf_96 (lv_at hl 0 rfl) ?_
                  refine lv_lmul hx hb dX6_bitsOf_98 ?_
                  refine lv_dload hx hb dX6_bitsOf_99 (lv_at hl 4 rfl) ?_
                  refine lv_dconst1 hx hb dX6_bitsOf_101 ?_
                  refine lv_dsub hx hb dX6_bitsOf_102 (sub_vf hd2) ?_
                  refine lv_lload hx hb dX6_bitsOf_103 (lv_at hl 0 rfl) ?_
                  refine lv_l2d hx hb dX6_bitsOf_105 ?_
                  refine lv_dmul hx hb dX6_bitsOf_106 (mulU_vf hd2 hU hk) ?_
                  refine lv_d2l hx hb dX6_bitsOf_107 ?_
                  refine lv_ladd hx hb dX6_bitsOf_108 ?_
                  exact ro_lr hx hb hr hlocks (by rw [bitsX_n hn9, show q9 + 52 = -(j : Int) + (i : Int) by omega, ← he3, show yd = mk64 c9 from hd2.1]) dX6_bitsOf_109
                · skip
                  have c4x := Int32.not_lt.mp c4
                  have hge := c_ge2 hd2 c4
                  refine lv_dload hx hb dX6_bitsOf_69 (lv_at hl 3 rfl) ?_
                  refine lv_ldc2d hx hb hown (hts _ tw539) dX6_bitsOf_71 ?_
                  refine lv_ddiv hx hb dX6_bitsOf_74 (d_half hd2 (by omega)).vf ?_
                  refine lv_dstore (lv' := [(4, .double (FP.ddiv yd (4611686018427387904 : UInt64))), (0, .double x), (2, .int fb), (3, .int b), (6, .int ew), (7, .int (nI i))]) hx hb dX6_bitsOf_75 hl (by decide) rfl (fun ls hl => ?_)
                  refine lv_iinc (v := ew + 1) (lv' := [(6, .int (ew + 1)), (4, .double (FP.ddiv yd (4611686018427387904 : UInt64))), (0, .double x), (2, .int fb), (3, .int b), (7, .int (nI i))]) hx hb dX6_bitsOf_77 hl (k := 4) rfl rfl (by decide) rfl (fun ls hl => ?_)
                  refine lv_iinc (v := nI (i + 1)) (lv' := [(7, .int (nI (i + 1))), (6, .int (ew + 1)), (4, .double (FP.ddiv yd (4611686018427387904 : UInt64))), (0, .double x), (2, .int fb), (3, .int b)]) hx hb dX6_bitsOf_80 hl (k := 5) rfl (nI_add i 1) (by decide) rfl (fun ls hl => ?_)
                  refine lv_goto (tgt := 52) hx hb dX6_bitsOf_83 (by decide) ?_
                  exact ih52 (i + 1) (FP.ddiv yd (4611686018427387904 : UInt64)) (ew + 1) (by omega) (by omega) (by have h9 := d_half hd2 (by omega); rw [show q9 + (j : Int) - (i : Int) - 1 = q9 + (j : Int) - ((i + 1 : Nat) : Int) by omega] at h9; exact h9) (by rw [he3]; exact oi_succ) (by omega) ls (lv_sub hl [3, 4, 5, 2, 1, 0] rfl)
          exact loop52 (1100 + 1) 0 xd ev (by omega) (by omega) (by simpa using hd2) (by rw [he2]; simp) (by omega) ls (lv_sub hl [1, 2, 3, 4, 5, 0] rfl)
        · skip
          have c2x := Int32.not_le.mp c2
          have c2n := fun hq0 => c2 ((nI_le2 (p := 1100) (q := j) rfl rfl (by omega) (by omega)).mpr hq0)
          have c2n : ¬ (1100 ≤ j) := c2n
          refine lv_dload hx hb dX6_bitsOf_25 (lv_at hl 3 rfl) ?_
          refine lv_dconst1 hx hb dX6_bitsOf_27 ?_
          refine lv_dcmp hx hb dX6_bitsOf_28 ?_
          refine lv_if_ge (tgt := 49) hx hb dX6_bitsOf_29 (by decide) (fun c5 => ?_) (fun c5 => ?_)
          · skip
            have c5x := Int32.not_lt.mpr c5
            have hlo : -52 ≤ q9 + (j : Int) := c_ge1 hd2 c5
            refine lv_iconst (v := 0) hx hb dX6_bitsOf_49 (by decide) ?_
            refine lv_istore (lv' := [(7, .int 0), (0, .double x), (2, .int fb), (3, .int b), (4, .double xd), (6, .int ev)]) hx hb dX6_bitsOf_50 hl (by decide) rfl (fun ls hl => ?_)
            have loop52 : ∀ (fu : Nat) (i : Nat) (yd : UInt64) (ew : Int32), 1100 + 1 ≤ i + fu → (i ≤ 1100) → (dNrm yd c9 (q9 + (j : Int) - (i : Int))) → (ew = Int32.ofInt (-(j : Int) + (i : Int))) → (-52 ≤ q9 + (j : Int) - (i : Int)) → ∀ ls : Array Slot, lv_has ls 9 [(0, .double x), (2, .int fb), (3, .int b), (4, .double yd), (6, .int ew), (7, .int (nI i))] → W p l e ({ frames := 0, cells := 0, slots := 0, locals := 0 } : Room) z m ([.double x, .int fb, .int b] : List Value).toArray below meth c z.heap [] 0 0 (MQ below (vp_Sl (fun r => r = bitsX x fb b)) ([.double x, .int fb, .int b] : List Value).toArray z 0 0 (fun _ => False)) (F0 m 52 ls []) := by
              intro fu
              induction fu with
              | zero => intro i yd ew hn hi hd2 he3 hlo2; exact absurd hn (by omega)
              | succ fu ih52 =>
                intro i yd ew hn hi hd2 he3 hlo2 ls hl
                refine lv_iload hx hb dX6_bitsOf_52 (lv_at hl 5 rfl) ?_
                refine lv_sipush (v := 1100) hx hb dX6_bitsOf_54 (by decide) ?_
                refine lv_icmp_ge (tgt := 86) hx hb dX6_bitsOf_57 (by decide) (fun c6 => ?_) (fun c6 => ?_)
                · skip
                  have c6x := Int32.not_lt.mpr c6
                  have c6n := (nI_le2 (p := 1100) (q := i) rfl rfl (by omega) (by omega)).mp c6
                  have c6n : 1100 ≤ i := c6n
                  have hfi : q9 + (j : Int) - (i : Int) = -52 := by omega
                  rw [hfi] at hd2
                  refine lv_lconst (v := 1) hx hb dX6_bitsOf_86 (by decide) ?_
                  refine lv_iload_n hx hb dX6_bitsOf_87 rfl (lv_at hl 1 rfl) ?_
                  refine lv_lshl hx hb dX6_bitsOf_88 rfl ?_
                  refine lv_lstore (lv' := [(7, .long (unitL fb)), (0, .double x), (2, .int fb), (3, .int b), (4, .double yd), (6, .int ew)]) hx hb dX6_bitsOf_89 hl (by decide) rfl (fun ls hl => ?_)
                  refine lv_iload hx hb dX6_bitsOf_91 (lv_at hl 5 rfl) ?_
                  refine lv_iload_n hx hb dX6_bitsOf_93 rfl (lv_at hl 3 rfl) ?_
                  refine lv_iadd hx hb dX6_bitsOf_94 ?_
                  refine lv_i2l hx hb dX6_bitsOf_95 rfl ?_
                  refine lv_lload hx hb dX6_bitsOf_96 (lv_at hl 0 rfl) ?_
                  refine lv_lmul hx hb dX6_bitsOf_98 ?_
                  refine lv_dload hx hb dX6_bitsOf_99 (lv_at hl 4 rfl) ?_
                  refine lv_dconst1 hx hb dX6_bitsOf_101 ?_
                  refine lv_dsub hx hb dX6_bitsOf_102 (sub_vf hd2) ?_
                  refine lv_lload hx hb dX6_bitsOf_103 (lv_at hl 0 rfl) ?_
                  refine lv_l2d hx hb dX6_bitsOf_105 ?_
                  refine lv_dmul hx hb dX6_bitsOf_106 (mulU_vf hd2 hU hk) ?_
                  refine lv_d2l hx hb dX6_bitsOf_107 ?_
                  refine lv_ladd hx hb dX6_bitsOf_108 ?_
                  exact ro_lr hx hb hr hlocks (by rw [bitsX_n hn9, show q9 + 52 = -(j : Int) + (i : Int) by omega, ← he3, show yd = mk64 c9 from hd2.1]) dX6_bitsOf_109
                · skip
                  have c6x := Int32.not_le.mp c6
                  have c6n := fun hq0 => c6 ((nI_le2 (p := 1100) (q := i) rfl rfl (by omega) (by omega)).mpr hq0)
                  have c6n : ¬ (1100 ≤ i) := c6n
                  refine lv_dload hx hb dX6_bitsOf_60 (lv_at hl 3 rfl) ?_
                  refine lv_ldc2d hx hb hown (hts _ tw539) dX6_bitsOf_62 ?_
                  refine lv_dcmp hx hb dX6_bitsOf_65 ?_
                  refine lv_if_lt (tgt := 86) hx hb dX6_bitsOf_66 (by decide) (fun c7 => ?_) (fun c7 => ?_)
                  · skip
                    have c7x := Int32.not_le.mpr c7
                    have hfi : q9 + (j : Int) - (i : Int) = -52 := by have := c_lt2 hd2 c7; omega
                    rw [hfi] at hd2
                    refine lv_lconst (v := 1) hx hb dX6_bitsOf_86 (by decide) ?_
                    refine lv_iload_n hx hb dX6_bitsOf_87 rfl (lv_at hl 1 rfl) ?_
                    refine lv_lshl hx hb dX6_bitsOf_88 rfl ?_
                    refine lv_lstore (lv' := [(7, .long (unitL fb)), (0, .double x), (2, .int fb), (3, .int b), (4, .double yd), (6, .int ew)]) hx hb dX6_bitsOf_89 hl (by decide) rfl (fun ls hl => ?_)
                    refine lv_iload hx hb dX6_bitsOf_91 (lv_at hl 5 rfl) ?_
                    refine lv_iload_n hx hb dX6_bitsOf_93 rfl (lv_at hl 3 rfl) ?_
                    refine lv_iadd hx hb dX6_bitsOf_94 ?_
                    refine lv_i2l hx hb dX6_bitsOf_95 rfl ?_
                    refine lv_lload hx hb dX6_bitsOf_96 (lv_at hl 0 rfl) ?_
                    refine lv_lmul hx hb dX6_bitsOf_98 ?_
                    refine lv_dload hx hb dX6_bitsOf_99 (lv_at hl 4 rfl) ?_
                    refine lv_dconst1 hx hb dX6_bitsOf_101 ?_
                    refine lv_dsub hx hb dX6_bitsOf_102 (sub_vf hd2) ?_
                    refine lv_lload hx hb dX6_bitsOf_103 (lv_at hl 0 rfl) ?_
                    refine lv_l2d hx hb dX6_bitsOf_105 ?_
                    refine lv_dmul hx hb dX6_bitsOf_106 (mulU_vf hd2 hU hk) ?_
                    refine lv_d2l hx hb dX6_bitsOf_107 ?_
                    refine lv_ladd hx hb dX6_bitsOf_108 ?_
                    exact ro_lr hx hb hr hlocks (by rw [bitsX_n hn9, show q9 + 52 = -(j : Int) + (i : Int) by omega, ← he3, show yd = mk64 c9 from hd2.1]) dX6_bitsOf_109
                  · skip
                    have c7x := Int32.not_lt.mp c7
                    have hge := c_ge2 hd2 c7
                    refine lv_dload hx hb dX6_bitsOf_69 (lv_at hl 3 rfl) ?_
                    refine lv_ldc2d hx hb hown (hts _ tw539) dX6_bitsOf_71 ?_
                    refine lv_ddiv hx hb dX6_bitsOf_74 (d_half hd2 (by omega)).vf ?_
                    refine lv_dstore (lv' := [(4, .double (FP.ddiv yd (4611686018427387904 : UInt64))), (0, .double x), (2, .int fb), (3, .int b), (6, .int ew), (7, .int (nI i))]) hx hb dX6_bitsOf_75 hl (by decide) rfl (fun ls hl => ?_)
                    refine lv_iinc (v := ew + 1) (lv' := [(6, .int (ew + 1)), (4, .double (FP.ddiv yd (4611686018427387904 : UInt64))), (0, .double x), (2, .int fb), (3, .int b), (7, .int (nI i))]) hx hb dX6_bitsOf_77 hl (k := 4) rfl rfl (by decide) rfl (fun ls hl => ?_)
                    refine lv_iinc (v := nI (i + 1)) (lv' := [(7, .int (nI (i + 1))), (6, .int (ew + 1)), (4, .double (FP.ddiv yd (4611686018427387904 : UInt64))), (0, .double x), (2, .int fb), (3, .int b)]) hx hb dX6_bitsOf_80 hl (k := 5) rfl (nI_add i 1) (by decide) rfl (fun ls hl => ?_)
                    refine lv_goto (tgt := 52) hx hb dX6_bitsOf_83 (by decide) ?_
                    exact ih52 (i + 1) (FP.ddiv yd (4611686018427387904 : UInt64)) (ew + 1) (by omega) (by omega) (by have h9 := d_half hd2 (by omega); rw [show q9 + (j : Int) - (i : Int) - 1 = q9 + (j : Int) - ((i + 1 : Nat) : Int) by omega] at h9; exact h9) (by rw [he3]; exact oi_succ) (by omega) ls (lv_sub hl [3, 4, 5, 2, 1, 0] rfl)
            exact loop52 (1100 + 1) 0 xd ev (by omega) (by omega) (by simpa using hd2) (by rw [he2]; simp) (by omega) ls (lv_sub hl [1, 2, 3, 4, 5, 0] rfl)
          · skip
            have c5x := Int32.not_le.mp c5
            have hlt := c_lt1 hd2 c5
            refine lv_dload hx hb dX6_bitsOf_32 (lv_at hl 3 rfl) ?_
            refine lv_ldc2d hx hb hown (hts _ tw539) dX6_bitsOf_34 ?_
            refine lv_dmul hx hb dX6_bitsOf_37 (d_mul2 hd2 (by omega)).vf ?_
            refine lv_dstore (lv' := [(4, .double (FP.dmul xd (4611686018427387904 : UInt64))), (0, .double x), (2, .int fb), (3, .int b), (6, .int ev), (7, .int (nI j))]) hx hb dX6_bitsOf_38 hl (by decide) rfl (fun ls hl => ?_)
            refine lv_iinc (v := ev + (-1)) (lv' := [(6, .int (ev + (-1))), (4, .double (FP.dmul xd (4611686018427387904 : UInt64))), (0, .double x), (2, .int fb), (3, .int b), (7, .int (nI j))]) hx hb dX6_bitsOf_40 hl (k := 4) rfl rfl (by decide) rfl (fun ls hl => ?_)
            refine lv_iinc (v := nI (j + 1)) (lv' := [(7, .int (nI (j + 1))), (6, .int (ev + (-1))), (4, .double (FP.dmul xd (4611686018427387904 : UInt64))), (0, .double x), (2, .int fb), (3, .int b)]) hx hb dX6_bitsOf_43 hl (k := 5) rfl (nI_add j 1) (by decide) rfl (fun ls hl => ?_)
            refine lv_goto (tgt := 17) hx hb dX6_bitsOf_46 (by decide) ?_
            exact ih17 (j + 1) (FP.dmul xd (4611686018427387904 : UInt64)) (ev + (-1)) (by omega) (by omega) (by have h9 := d_mul2 hd2 (by omega); rw [show q9 + (j : Int) + 1 = q9 + ((j + 1 : Nat) : Int) by omega] at h9; exact h9) (by rw [he2]; exact oi_pred) (by omega) ls (lv_sub hl [3, 4, 5, 2, 1, 0] rfl)
    exact loop17 (1100 + 1) 0 x 0 (by omega) (by omega) (by simpa using hn9) rfl (by omega) ls (lv_sub hl [3, 4, 5, 2, 1, 0] rfl)
  · skip
    have c1x := Int32.not_lt.mp c1
    have hz := c_z0 hdx c1
    refine lv_lconst (v := 0) hx hb dX6_bitsOf_6 (by decide) ?_
    exact ro_lr hx hb hr hlocks (by rw [hz, bitsX_0]) dX6_bitsOf_7

set_option maxHeartbeats 4000000 in
set_option maxRecDepth 100000 in
theorem m_X6_mixedWithDial (l : Launch) (D : va_G) (cI cS : ClassId) (a : Nat → Nat) (s : St) (st : Nat → St) (pi : Nat → Nat) (mi po : St) (g0 : Int64) (d : Nat) (hd : d < 7) : Met l yX6_mixedWithDial (.code yX6_mixedWithDial cX6_mixedWithDial 7 (some .long) :: wsA) ({ frames := 4, cells := 0, slots := 0, locals := 89 } : Room) (va_Pc [.ref (a 112), .long g0, .int (nI d)] (PR D cI cS 113 a (exC cI cS a s st pi mi po))) (vp_Sl (fun r => r = dgDial s d g0)) 0 0 (fun _ => False) := by
  refine mgo (by decide) (Nat.le_of_ble_eq_true rfl) ?_
  intro p e z m below meth c hx hb hr hml hown hts hlocks hB ls hl
  obtain ⟨hP, hK⟩ := hB
  have hl : lv_has ls 7 [(0, .ref (a 112)), (1, .long g0), (3, .int (nI d))] := hl
  refine lv_lload_n hx hb dX6_mixedWithDial_0 rfl (lv_at hl 1 rfl) ?_
  refine lv_lstore (lv' := [(4, .long g0), (0, .ref (a 112)), (1, .long g0), (3, .int (nI d))]) hx hb dX6_mixedWithDial_1 hl (by decide) rfl (fun ls hl => ?_)
  refine lv_iconst (v := 0) hx hb dX6_mixedWithDial_3 (by decide) ?_
  refine lv_istore (lv' := [(6, .int 0), (4, .long g0), (0, .ref (a 112)), (1, .long g0), (3, .int (nI d))]) hx hb dX6_mixedWithDial_4 hl (by decide) rfl (fun ls hl => ?_)
  have loop6 : ∀ (fu : Nat) (j : Nat) (g1 : Int64), 7 + 1 ≤ j + fu → (j ≤ 7) → (g1 = dgN (dialN s d) j g0) → ∀ ls : Array Slot, lv_has ls 7 [(0, .ref (a 112)), (3, .int (nI d)), (4, .long g1), (6, .int (nI j))] → W p l e ({ frames := 4, cells := 0, slots := 0, locals := 89 } : Room) z m ([.ref (a 112), .long g0, .int (nI d)] : List Value).toArray below meth c z.heap [] 0 0 (MQ below (vp_Sl (fun r => r = dgDial s d g0)) ([.ref (a 112), .long g0, .int (nI d)] : List Value).toArray z 0 0 (fun _ => False)) (F0 m 6 ls []) := by
    intro fu
    induction fu with
    | zero => intro j g1 hn hj hg; exact absurd hn (by omega)
    | succ fu ih6 =>
      intro j g1 hn hj hg ls hl
      refine lv_iload hx hb dX6_mixedWithDial_6 (lv_at hl 3 rfl) ?_
      refine lv_bipush (v := 7) hx hb dX6_mixedWithDial_8 (by decide) ?_
      refine lv_icmp_ge (tgt := 34) hx hb dX6_mixedWithDial_10 (by decide) (fun c1 => ?_) (fun c1 => ?_)
      · skip
        have c1x := Int32.not_lt.mpr c1
        have c1n := (nI_le2 (p := 7) (q := j) rfl rfl (by omega) (by omega)).mp c1
        have c1n : 7 ≤ j := c1n
        have hjq : 7 = j := by omega
        subst hjq
        refine lv_lload hx hb dX6_mixedWithDial_34 (lv_at hl 2 rfl) ?_
        refine lv_aload_n hx hb dX6_mixedWithDial_36 rfl (lv_at hl 0 rfl) ?_
        refine lv_iload_n hx hb dX6_mixedWithDial_37 rfl (lv_at hl 1 rfl) ?_
        refine ro_i (va_runV (As := [.int (nI d)]) (rest := [.long g1]) ⟨hx, hb, hml, hown, hts⟩ (m_X6_quarrelIn l D cI cS a s st pi mi po d (by omega)) (cwV 1 hts (gV tw470 tw467 tw468 tw469 tw1) rfl rfl rfl (by decide +kernel) ⟨Nat.le_of_ble_eq_true rfl, Nat.le_of_ble_eq_true rfl⟩) (pvR 112 hK hP (by decide) xc112 rfl) rfl rfl hl.1 rfl (lv_room (Nat.le_of_ble_eq_true rfl)) dX6_mixedWithDial_38 ⟨Nat.le_of_ble_eq_true rfl, Nat.le_of_ble_eq_true rfl⟩) (fun r3 hr2 => ?_)
        subst hr2
        refine lv_i2l hx hb dX6_mixedWithDial_41 rfl ?_
        refine ro_l (va_runS (As := [.long g1, .long ((qF s d (behN d) 201 0 (s 1 d) (s 1 (behN d))).toInt64)]) (rest := []) ⟨hx, hb, hml, hown, hts⟩ (m_X6_mixed l g1 ((qF s d (behN d) 201 0 (s 1 d) (s 1 (behN d))).toInt64)) (va_cwS 2 hts (gS tw452 tw450 tw451 tw1) rfl rfl rfl (by decide +kernel) ⟨Nat.le_of_ble_eq_true rfl, Nat.le_of_ble_eq_true rfl⟩) ps0 rfl rfl hl.1 rfl (lv_room (Nat.le_of_ble_eq_true rfl)) dX6_mixedWithDial_42 ⟨Nat.le_of_ble_eq_true rfl, Nat.le_of_ble_eq_true rfl⟩) (fun r6 hr5 => ?_)
        subst hr5
        refine lv_lstore (lv' := [(4, .long (mxL g1 ((qF s d (behN d) 201 0 (s 1 d) (s 1 (behN d))).toInt64))), (0, .ref (a 112)), (3, .int (nI d)), (6, .int (nI 7))]) hx hb dX6_mixedWithDial_45 hl (by decide) rfl (fun ls hl => ?_)
        refine lv_lload hx hb dX6_mixedWithDial_47 (lv_at hl 0 rfl) ?_
        refine lv_aload_n hx hb dX6_mixedWithDial_49 rfl (lv_at hl 1 rfl) ?_
        refine lv_iload_n hx hb dX6_mixedWithDial_50 rfl (lv_at hl 2 rfl) ?_
        refine ro_i (va_runV (As := [.int (nI d)]) (rest := [.long (mxL g1 ((qF s d (behN d) 201 0 (s 1 d) (s 1 (behN d))).toInt64))]) ⟨hx, hb, hml, hown, hts⟩ (m_X6_ringsIn l D cI cS a s st pi mi po d (by omega)) (cwV 1 hts (gV tw502 tw499 tw500 tw501 tw1) rfl rfl rfl (by decide +kernel) ⟨Nat.le_of_ble_eq_true rfl, Nat.le_of_ble_eq_true rfl⟩) (pvR 112 hK hP (by decide) xc112 rfl) rfl rfl hl.1 rfl (lv_room (Nat.le_of_ble_eq_true rfl)) dX6_mixedWithDial_51 ⟨Nat.le_of_ble_eq_true rfl, Nat.le_of_ble_eq_true rfl⟩) (fun r9 hr8 => ?_)
        subst hr8
        refine lv_i2l hx hb dX6_mixedWithDial_54 rfl ?_
        refine ro_l (va_runS (As := [.long (mxL g1 ((qF s d (behN d) 201 0 (s 1 d) (s 1 (behN d))).toInt64)), .long ((ringF s d (s 1 d / 60) 200 1 (s 1 d)).toInt64)]) (rest := []) ⟨hx, hb, hml, hown, hts⟩ (m_X6_mixed l (mxL g1 ((qF s d (behN d) 201 0 (s 1 d) (s 1 (behN d))).toInt64)) ((ringF s d (s 1 d / 60) 200 1 (s 1 d)).toInt64)) (va_cwS 2 hts (gS tw452 tw450 tw451 tw1) rfl rfl rfl (by decide +kernel) ⟨Nat.le_of_ble_eq_true rfl, Nat.le_of_ble_eq_true rfl⟩) ps0 rfl rfl hl.1 rfl (lv_room (Nat.le_of_ble_eq_true rfl)) dX6_mixedWithDial_55 ⟨Nat.le_of_ble_eq_true rfl, Nat.le_of_ble_eq_true rfl⟩) (fun r12 hr11 => ?_)
        subst hr11
        exact ro_lr hx hb hr hlocks (by unfold dgDial; rw [hg]) dX6_mixedWithDial_58
      · skip
        have c1x := Int32.not_le.mp c1
        have c1n := fun hq0 => c1 ((nI_le2 (p := 7) (q := j) rfl rfl (by omega) (by omega)).mpr hq0)
        have c1n : ¬ (7 ≤ j) := c1n
        refine lv_lload hx hb dX6_mixedWithDial_13 (lv_at hl 2 rfl) ?_
        refine lv_aload_n hx hb dX6_mixedWithDial_15 rfl (lv_at hl 0 rfl) ?_
        refine lv_iload_n hx hb dX6_mixedWithDial_16 rfl (lv_at hl 1 rfl) ?_
        refine lv_iload hx hb dX6_mixedWithDial_17 (lv_at hl 3 rfl) ?_
        refine ro_i (va_runV (As := [.int (nI d), .int (nI j)]) (rest := [.long g1]) ⟨hx, hb, hml, hown, hts⟩ (m_X6_dialNumber l D cI cS a s st pi mi po d j (by omega) (by omega)) (cwV 2 hts (gV tw461 tw458 tw460 ts14 tw1) rfl rfl rfl (by decide +kernel) ⟨Nat.le_of_ble_eq_true rfl, Nat.le_of_ble_eq_true rfl⟩) (pvR 112 hK hP (by decide) xc112 rfl) rfl rfl hl.1 rfl (lv_room (Nat.le_of_ble_eq_true rfl)) dX6_mixedWithDial_19 ⟨Nat.le_of_ble_eq_true rfl, Nat.le_of_ble_eq_true rfl⟩) (fun r15 hr14 => ?_)
        subst hr14
        refine lv_i2l hx hb dX6_mixedWithDial_22 rfl ?_
        refine ro_l (va_runS (As := [.long g1, .long ((dialN s d j).toInt64)]) (rest := []) ⟨hx, hb, hml, hown, hts⟩ (m_X6_mixed l g1 ((dialN s d j).toInt64)) (va_cwS 2 hts (gS tw452 tw450 tw451 tw1) rfl rfl rfl (by decide +kernel) ⟨Nat.le_of_ble_eq_true rfl, Nat.le_of_ble_eq_true rfl⟩) ps0 rfl rfl hl.1 rfl (lv_room (Nat.le_of_ble_eq_true rfl)) dX6_mixedWithDial_23 ⟨Nat.le_of_ble_eq_true rfl, Nat.le_of_ble_eq_true rfl⟩) (fun r18 hr17 => ?_)
        subst hr17
        refine lv_lstore (lv' := [(4, .long (mxL g1 ((dialN s d j).toInt64))), (0, .ref (a 112)), (3, .int (nI d)), (6, .int (nI j))]) hx hb dX6_mixedWithDial_26 hl (by decide) rfl (fun ls hl => ?_)
        refine lv_iinc (v := nI (j + 1)) (lv' := [(6, .int (nI (j + 1))), (4, .long (mxL g1 ((dialN s d j).toInt64))), (0, .ref (a 112)), (3, .int (nI d))]) hx hb dX6_mixedWithDial_28 hl (k := 3) rfl (nI_add j 1) (by decide) rfl (fun ls hl => ?_)
        refine lv_goto (tgt := 6) hx hb dX6_mixedWithDial_31 (by decide) ?_
        exact ih6 (j + 1) (mxL g1 ((dialN s d j).toInt64)) (by omega) (by omega) (by rw [dgN, ← hg]) ls (lv_sub hl [2, 3, 1, 0] rfl)
  exact loop6 (7 + 1) 0 g0 (by omega) (by omega) rfl ls (lv_sub hl [2, 4, 1, 0] rfl)

set_option maxHeartbeats 4000000 in
set_option maxRecDepth 100000 in
theorem m_X6_mixedWithWarden (l : Launch) (D : va_G) (cI cS : ClassId) (a : Nat → Nat) (s : St) (st : Nat → St) (pi : Nat → Nat) (mi po : St) (g0 : Int64) (w : Nat) (hw : w < 7) (zz : Nat) : Met l yX6_mixedWithWarden (.code yX6_mixedWithWarden cX6_mixedWithWarden 7 (some .long) :: wsA) ({ frames := 5, cells := 0, slots := 0, locals := 111 } : Room) (va_Pc [.ref (a 112), .long g0, .int (nI w)] (PW D cI cS 113 a (exC cI cS a s st pi mi po) zz)) (va_Ql (fun (r : Int64) (u : St) => r = dgWard s w g0) (BW D 113 a (fun u => exC cI cS a s st pi mi u)) (AX 113 a zz)) 0 0 (AX 113 a zz) := by
  refine mgo (by decide) (Nat.le_of_ble_eq_true rfl) ?_
  intro p e z m below meth c hx hb hr hml hown hts hlocks hB ls hl
  obtain ⟨hsz, hP, hK, hE⟩ := hB
  subst hsz
  have hS : va_S (AX 113 a z.heap.size) z.heap z.heap [] := va_S.rf
  have hl : lv_has ls 7 [(0, .ref (a 112)), (1, .long g0), (3, .int (nI w))] := hl
  refine lv_lload_n hx hb dX6_mixedWithWarden_0 rfl (lv_at hl 1 rfl) ?_
  refine lv_lstore (lv' := [(4, .long g0), (0, .ref (a 112)), (1, .long g0), (3, .int (nI w))]) hx hb dX6_mixedWithWarden_1 hl (by decide) rfl (fun ls hl => ?_)
  refine lv_iconst (v := 0) hx hb dX6_mixedWithWarden_3 (by decide) ?_
  refine lv_istore (lv' := [(6, .int 0), (4, .long g0), (0, .ref (a 112)), (1, .long g0), (3, .int (nI w))]) hx hb dX6_mixedWithWarden_4 hl (by decide) rfl (fun ls hl => ?_)
  have loop6 : ∀ (fu : Nat) (j : Nat) (g1 : Int64) (t : St), 6 + 1 ≤ j + fu → (j ≤ 6) → (g1 = dgN (wardN s w) j g0) → ∀ (H : Heap) (locs : List Loc), HP D 113 a (exC cI cS a s st pi mi t) H → va_S (AX 113 a z.heap.size) z.heap H locs → ∀ ls : Array Slot, lv_has ls 7 [(0, .ref (a 112)), (3, .int (nI w)), (4, .long g1), (6, .int (nI j))] → W p l e ({ frames := 5, cells := 0, slots := 0, locals := 111 } : Room) z m ([.ref (a 112), .long g0, .int (nI w)] : List Value).toArray below meth c H locs 0 0 (MQ below (va_Ql (fun (r : Int64) (u : St) => r = dgWard s w g0) (BW D 113 a (fun u => exC cI cS a s st pi mi u)) (AX 113 a z.heap.size)) ([.ref (a 112), .long g0, .int (nI w)] : List Value).toArray z 0 0 (AX 113 a z.heap.size)) (F0 m 6 ls []) := by
    intro fu
    induction fu with
    | zero => intro j g1 t hn hj hg; exact absurd hn (by omega)
    | succ fu ih6 =>
      intro j g1 t hn hj hg H locs hP hS ls hl
      refine lv_iload hx hb dX6_mixedWithWarden_6 (lv_at hl 3 rfl) ?_
      refine lv_bipush (v := 6) hx hb dX6_mixedWithWarden_8 (by decide) ?_
      refine lv_icmp_ge (tgt := 34) hx hb dX6_mixedWithWarden_10 (by decide) (fun c1 => ?_) (fun c1 => ?_)
      · skip
        have c1x := Int32.not_lt.mpr c1
        have c1n := (nI_le2 (p := 6) (q := j) rfl rfl (by omega) (by omega)).mp c1
        have c1n : 6 ≤ j := c1n
        have hjq : 6 = j := by omega
        subst hjq
        refine lv_lload hx hb dX6_mixedWithWarden_34 (lv_at hl 2 rfl) ?_
        refine lv_aload_n hx hb dX6_mixedWithWarden_36 rfl (lv_at hl 0 rfl) ?_
        refine lv_iload_n hx hb dX6_mixedWithWarden_37 rfl (lv_at hl 1 rfl) ?_
        refine rw_i hS (va_runV (As := [.int (nI w)]) (rest := [.long g1]) ⟨hx, hb, hml, hown, hts⟩ (m_X6_without l D cI cS a s st pi mi t w (by omega) _) (cwV 1 hts (gV tw529 tw526 tw527 tw528 tw1) rfl rfl rfl (by decide +kernel) ⟨Nat.le_of_ble_eq_true rfl, Nat.le_of_ble_eq_true rfl⟩) (pvW 112 hK hP hE (by decide) xc112 rfl) rfl rfl hl.1 rfl (lv_room (Nat.le_of_ble_eq_true rfl)) dX6_mixedWithWarden_38 ⟨Nat.le_of_ble_eq_true rfl, Nat.le_of_ble_eq_true rfl⟩) (fun r3 u4 H locs hr2 hP hS => ?_)
        subst hr2
        refine lv_i2l hx hb dX6_mixedWithWarden_41 rfl ?_
        refine ro_l (va_runS (As := [.long g1, .long ((midW s w 0).toInt64)]) (rest := []) ⟨hx, hb, hml, hown, hts⟩ (m_X6_mixed l g1 ((midW s w 0).toInt64)) (va_cwS 2 hts (gS tw452 tw450 tw451 tw1) rfl rfl rfl (by decide +kernel) ⟨Nat.le_of_ble_eq_true rfl, Nat.le_of_ble_eq_true rfl⟩) ps0 rfl rfl hl.1 rfl (lv_room (Nat.le_of_ble_eq_true rfl)) dX6_mixedWithWarden_42 ⟨Nat.le_of_ble_eq_true rfl, Nat.le_of_ble_eq_true rfl⟩) (fun r6 hr5 => ?_)
        subst hr5
        refine lv_lstore (lv' := [(4, .long (mxL g1 ((midW s w 0).toInt64))), (0, .ref (a 112)), (3, .int (nI w)), (6, .int (nI 6))]) hx hb dX6_mixedWithWarden_45 hl (by decide) rfl (fun ls hl => ?_)
        refine lv_lload hx hb dX6_mixedWithWarden_47 (lv_at hl 0 rfl) ?_
        refine lv_aload_n hx hb dX6_mixedWithWarden_49 rfl (lv_at hl 1 rfl) ?_
        refine lv_iload_n hx hb dX6_mixedWithWarden_50 rfl (lv_at hl 2 rfl) ?_
        refine rw_i hS (va_runV (As := [.int (nI w)]) (rest := [.long (mxL g1 ((midW s w 0).toInt64))]) ⟨hx, hb, hml, hown, hts⟩ (m_X6_wins l D cI cS a s st pi mi u4 w (by omega) _) (cwV 1 hts (gV tw533 tw530 tw531 tw532 tw1) rfl rfl rfl (by decide +kernel) ⟨Nat.le_of_ble_eq_true rfl, Nat.le_of_ble_eq_true rfl⟩) (pvW 112 hK hP hE (by decide) xc112 rfl) rfl rfl hl.1 rfl (lv_room (Nat.le_of_ble_eq_true rfl)) dX6_mixedWithWarden_51 ⟨Nat.le_of_ble_eq_true rfl, Nat.le_of_ble_eq_true rfl⟩) (fun r9 u10 H locs hr8 hP hS => ?_)
        subst hr8
        refine lv_i2l hx hb dX6_mixedWithWarden_54 rfl ?_
        refine ro_l (va_runS (As := [.long (mxL g1 ((midW s w 0).toInt64)), .long ((winF s w 9 1).toInt64)]) (rest := []) ⟨hx, hb, hml, hown, hts⟩ (m_X6_mixed l (mxL g1 ((midW s w 0).toInt64)) ((winF s w 9 1).toInt64)) (va_cwS 2 hts (gS tw452 tw450 tw451 tw1) rfl rfl rfl (by decide +kernel) ⟨Nat.le_of_ble_eq_true rfl, Nat.le_of_ble_eq_true rfl⟩) ps0 rfl rfl hl.1 rfl (lv_room (Nat.le_of_ble_eq_true rfl)) dX6_mixedWithWarden_55 ⟨Nat.le_of_ble_eq_true rfl, Nat.le_of_ble_eq_true rfl⟩) (fun r12 hr11 => ?_)
        subst hr11
        exact rw_lr hx hb hr hlocks hS u10 hP (by unfold dgWard; rw [hg]) dX6_mixedWithWarden_58
      · skip
        have c1x := Int32.not_le.mp c1
        have c1n := fun hq0 => c1 ((nI_le2 (p := 6) (q := j) rfl rfl (by omega) (by omega)).mpr hq0)
        have c1n : ¬ (6 ≤ j) := c1n
        refine lv_lload hx hb dX6_mixedWithWarden_13 (lv_at hl 2 rfl) ?_
        refine lv_aload_n hx hb dX6_mixedWithWarden_15 rfl (lv_at hl 0 rfl) ?_
        refine lv_iload_n hx hb dX6_mixedWithWarden_16 rfl (lv_at hl 1 rfl) ?_
        refine lv_iload hx hb dX6_mixedWithWarden_17 (lv_at hl 3 rfl) ?_
        refine rw_i hS (va_runV (As := [.int (nI w), .int (nI j)]) (rest := [.long g1]) ⟨hx, hb, hml, hown, hts⟩ (m_X6_wardenNumber l D cI cS a s st pi mi t w j (by omega) (by omega) _) (cwV 2 hts (gV tw515 tw512 tw514 ts16 tw1) rfl rfl rfl (by decide +kernel) ⟨Nat.le_of_ble_eq_true rfl, Nat.le_of_ble_eq_true rfl⟩) (pvW 112 hK hP hE (by decide) xc112 rfl) rfl rfl hl.1 rfl (lv_room (Nat.le_of_ble_eq_true rfl)) dX6_mixedWithWarden_19 ⟨Nat.le_of_ble_eq_true rfl, Nat.le_of_ble_eq_true rfl⟩) (fun r15 u16 H locs hr14 hP hS => ?_)
        subst hr14
        refine lv_i2l hx hb dX6_mixedWithWarden_22 rfl ?_
        refine ro_l (va_runS (As := [.long g1, .long ((wardN s w j).toInt64)]) (rest := []) ⟨hx, hb, hml, hown, hts⟩ (m_X6_mixed l g1 ((wardN s w j).toInt64)) (va_cwS 2 hts (gS tw452 tw450 tw451 tw1) rfl rfl rfl (by decide +kernel) ⟨Nat.le_of_ble_eq_true rfl, Nat.le_of_ble_eq_true rfl⟩) ps0 rfl rfl hl.1 rfl (lv_room (Nat.le_of_ble_eq_true rfl)) dX6_mixedWithWarden_23 ⟨Nat.le_of_ble_eq_true rfl, Nat.le_of_ble_eq_true rfl⟩) (fun r18 hr17 => ?_)
        subst hr17
        refine lv_lstore (lv' := [(4, .long (mxL g1 ((wardN s w j).toInt64))), (0, .ref (a 112)), (3, .int (nI w)), (6, .int (nI j))]) hx hb dX6_mixedWithWarden_26 hl (by decide) rfl (fun ls hl => ?_)
        refine lv_iinc (v := nI (j + 1)) (lv' := [(6, .int (nI (j + 1))), (4, .long (mxL g1 ((wardN s w j).toInt64))), (0, .ref (a 112)), (3, .int (nI w))]) hx hb dX6_mixedWithWarden_28 hl (k := 3) rfl (nI_add j 1) (by decide) rfl (fun ls hl => ?_)
        refine lv_goto (tgt := 6) hx hb dX6_mixedWithWarden_31 (by decide) ?_
        exact ih6 (j + 1) (mxL g1 ((wardN s w j).toInt64)) u16 (by omega) (by omega) (by rw [dgN, ← hg]) _ _ hP hS ls (lv_sub hl [2, 3, 1, 0] rfl)
  exact loop6 (6 + 1) 0 g0 po (by omega) (by omega) rfl _ _ hP hS ls (lv_sub hl [2, 4, 1, 0] rfl)

set_option maxHeartbeats 4000000 in
set_option maxRecDepth 100000 in
theorem m_X6_digest (l : Launch) (D : va_G) (cI cS : ClassId) (a : Nat → Nat) (s : St) (st : Nat → St) (pi : Nat → Nat) (mi po : St) (sz : Nat) (hsz : sz ≤ 6) (hs0 : mi 0 0 = nI sz) (ln : Nat) (hln : ln ≤ 60) (hl0 : mi 0 1 = nI ln) (hh2 : 0 ≤ (s 0 3).toInt) (hv2 : 0 ≤ (s 0 2).toInt) (hE0 : 0 ≤ (errC s 7).toInt) (hdS : dOk (shareD s)) (hfM : fOk (meanF s)) (zz : Nat) : Met l yX6_digest (.code yX6_digest cX6_digest 4 (some .long) :: wsA) ({ frames := 6, cells := 0, slots := 0, locals := 137 } : Room) (va_Pc [.ref (a 112)] (PW D cI cS 113 a (exC cI cS a s st pi mi po) zz)) (va_Ql (fun (r : Int64) (u : St) => r = dgAll s sz (mi 0 2) (mi 1) ln) (BW D 113 a (fun u => exC cI cS a s st pi mi u)) (AX 113 a zz)) 0 0 (AX 113 a zz) := by
  refine mgo (by decide) (Nat.le_of_ble_eq_true rfl) ?_
  intro p e z m below meth c hx hb hr hml hown hts hlocks hB ls hl
  obtain ⟨hsz, hP, hK, hE⟩ := hB
  subst hsz
  have hS : va_S (AX 113 a z.heap.size) z.heap z.heap [] := va_S.rf
  have hl : lv_has ls 4 [(0, .ref (a 112))] := hl
  have hdM := f_f2d hfM
  refine lv_ldc2 hx hb hown (hts _ tw327) dX6_digest_0 ?_
  refine lv_lstore_n (lv' := [(1, .long (3863 : Int64)), (0, .ref (a 112))]) hx hb dX6_digest_3 rfl hl (by decide) rfl (fun ls hl => ?_)
  refine lv_iconst (v := 0) hx hb dX6_digest_4 (by decide) ?_
  refine lv_istore_n (lv' := [(3, .int 0), (1, .long (3863 : Int64)), (0, .ref (a 112))]) hx hb dX6_digest_5 rfl hl (by decide) rfl (fun ls hl => ?_)
  have loop6 : ∀ (fu : Nat) (j : Nat) (g1 : Int64) (t : St), 14 + 1 ≤ j + fu → (j ≤ 14) → (g1 = dgN (counN s sz) j 3863) → ∀ (H : Heap) (locs : List Loc), HP D 113 a (exC cI cS a s st pi mi t) H → va_S (AX 113 a z.heap.size) z.heap H locs → ∀ ls : Array Slot, lv_has ls 4 [(0, .ref (a 112)), (1, .long g1), (3, .int (nI j))] → W p l e ({ frames := 6, cells := 0, slots := 0, locals := 137 } : Room) z m ([.ref (a 112)] : List Value).toArray below meth c H locs 0 0 (MQ below (va_Ql (fun (r : Int64) (u : St) => r = dgAll s sz (mi 0 2) (mi 1) ln) (BW D 113 a (fun u => exC cI cS a s st pi mi u)) (AX 113 a z.heap.size)) ([.ref (a 112)] : List Value).toArray z 0 0 (AX 113 a z.heap.size)) (F0 m 6 ls []) := by
    intro fu
    induction fu with
    | zero => intro j g1 t hn hj hg; exact absurd hn (by omega)
    | succ fu ih6 =>
      intro j g1 t hn hj hg H locs hP hS ls hl
      refine lv_iload_n hx hb dX6_digest_6 rfl (lv_at hl 2 rfl) ?_
      refine lv_bipush (v := 14) hx hb dX6_digest_7 (by decide) ?_
      refine lv_icmp_ge (tgt := 29) hx hb dX6_digest_9 (by decide) (fun c1 => ?_) (fun c1 => ?_)
      · skip
        have c1x := Int32.not_lt.mpr c1
        have c1n := (nI_le2 (p := 14) (q := j) rfl rfl (by omega) (by omega)).mp c1
        have c1n : 14 ≤ j := c1n
        have hjq : 14 = j := by omega
        subst hjq
        refine lv_iconst (v := 0) hx hb dX6_digest_29 (by decide) ?_
        refine lv_istore_n (lv' := [(3, .int 0), (0, .ref (a 112)), (1, .long g1)]) hx hb dX6_digest_30 rfl hl (by decide) rfl (fun ls hl => ?_)
        have loop31 : ∀ (fu : Nat) (j : Nat) (g1 : Int64), 2 + 1 ≤ j + fu → (j ≤ 2) → (g1 = dgN (s 10) j (dgN (counN s sz) 14 3863)) → ∀ (H : Heap) (locs : List Loc), HP D 113 a (exC cI cS a s st pi mi t) H → va_S (AX 113 a z.heap.size) z.heap H locs → ∀ ls : Array Slot, lv_has ls 4 [(0, .ref (a 112)), (1, .long g1), (3, .int (nI j))] → W p l e ({ frames := 6, cells := 0, slots := 0, locals := 137 } : Room) z m ([.ref (a 112)] : List Value).toArray below meth c H locs 0 0 (MQ below (va_Ql (fun (r : Int64) (u : St) => r = dgAll s sz (mi 0 2) (mi 1) ln) (BW D 113 a (fun u => exC cI cS a s st pi mi u)) (AX 113 a z.heap.size)) ([.ref (a 112)] : List Value).toArray z 0 0 (AX 113 a z.heap.size)) (F0 m 31 ls []) := by
          intro fu
          induction fu with
          | zero => intro j g1 hn hj hg; exact absurd hn (by omega)
          | succ fu ih31 =>
            intro j g1 hn hj hg H locs hP hS ls hl
            refine lv_iload_n hx hb dX6_digest_31 rfl (lv_at hl 2 rfl) ?_
            refine lv_iconst (v := 2) hx hb dX6_digest_32 (by decide) ?_
            refine lv_icmp_ge (tgt := 57) hx hb dX6_digest_33 (by decide) (fun c2 => ?_) (fun c2 => ?_)
            · skip
              have c2x := Int32.not_lt.mpr c2
              have c2n := (nI_le2 (p := 2) (q := j) rfl rfl (by omega) (by omega)).mp c2
              have c2n : 2 ≤ j := c2n
              have hjq : 2 = j := by omega
              subst hjq
              refine lv_iconst (v := 0) hx hb dX6_digest_57 (by decide) ?_
              refine lv_istore_n (lv' := [(3, .int 0), (0, .ref (a 112)), (1, .long g1)]) hx hb dX6_digest_58 rfl hl (by decide) rfl (fun ls hl => ?_)
              have loop59 : ∀ (fu : Nat) (j : Nat) (g1 : Int64), 7 + 1 ≤ j + fu → (j ≤ 7) → (g1 = dgDs s j (dgN (s 10) 2 (dgN (counN s sz) 14 3863))) → ∀ (H : Heap) (locs : List Loc), HP D 113 a (exC cI cS a s st pi mi t) H → va_S (AX 113 a z.heap.size) z.heap H locs → ∀ ls : Array Slot, lv_has ls 4 [(0, .ref (a 112)), (1, .long g1), (3, .int (nI j))] → W p l e ({ frames := 6, cells := 0, slots := 0, locals := 137 } : Room) z m ([.ref (a 112)] : List Value).toArray below meth c H locs 0 0 (MQ below (va_Ql (fun (r : Int64) (u : St) => r = dgAll s sz (mi 0 2) (mi 1) ln) (BW D 113 a (fun u => exC cI cS a s st pi mi u)) (AX 113 a z.heap.size)) ([.ref (a 112)] : List Value).toArray z 0 0 (AX 113 a z.heap.size)) (F0 m 59 ls []) := by
                intro fu
                induction fu with
                | zero => intro j g1 hn hj hg; exact absurd hn (by omega)
                | succ fu ih59 =>
                  intro j g1 hn hj hg H locs hP hS ls hl
                  refine lv_iload_n hx hb dX6_digest_59 rfl (lv_at hl 2 rfl) ?_
                  refine lv_bipush (v := 7) hx hb dX6_digest_60 (by decide) ?_
                  refine lv_icmp_ge (tgt := 78) hx hb dX6_digest_62 (by decide) (fun c3 => ?_) (fun c3 => ?_)
                  · skip
                    have c3x := Int32.not_lt.mpr c3
                    have c3n := (nI_le2 (p := 7) (q := j) rfl rfl (by omega) (by omega)).mp c3
                    have c3n : 7 ≤ j := c3n
                    have hjq : 7 = j := by omega
                    subst hjq
                    refine lv_iconst (v := 0) hx hb dX6_digest_78 (by decide) ?_
                    refine lv_istore_n (lv' := [(3, .int 0), (0, .ref (a 112)), (1, .long g1)]) hx hb dX6_digest_79 rfl hl (by decide) rfl (fun ls hl => ?_)
                    have loop80 : ∀ (fu : Nat) (j : Nat) (g1 : Int64) (t : St), 7 + 1 ≤ j + fu → (j ≤ 7) → (g1 = dgWs s j (dgDs s 7 (dgN (s 10) 2 (dgN (counN s sz) 14 3863)))) → ∀ (H : Heap) (locs : List Loc), HP D 113 a (exC cI cS a s st pi mi t) H → va_S (AX 113 a z.heap.size) z.heap H locs → ∀ ls : Array Slot, lv_has ls 4 [(0, .ref (a 112)), (1, .long g1), (3, .int (nI j))] → W p l e ({ frames := 6, cells := 0, slots := 0, locals := 137 } : Room) z m ([.ref (a 112)] : List Value).toArray below meth c H locs 0 0 (MQ below (va_Ql (fun (r : Int64) (u : St) => r = dgAll s sz (mi 0 2) (mi 1) ln) (BW D 113 a (fun u => exC cI cS a s st pi mi u)) (AX 113 a z.heap.size)) ([.ref (a 112)] : List Value).toArray z 0 0 (AX 113 a z.heap.size)) (F0 m 80 ls []) := by
                      intro fu
                      induction fu with
                      | zero => intro j g1 t hn hj hg; exact absurd hn (by omega)
                      | succ fu ih80 =>
                        intro j g1 t hn hj hg H locs hP hS ls hl
                        refine lv_iload_n hx hb dX6_digest_80 rfl (lv_at hl 2 rfl) ?_
                        refine lv_bipush (v := 7) hx hb dX6_digest_81 (by decide) ?_
                        refine lv_icmp_ge (tgt := 99) hx hb dX6_digest_83 (by decide) (fun c4 => ?_) (fun c4 => ?_)
                        · skip
                          have c4x := Int32.not_lt.mpr c4
                          have c4n := (nI_le2 (p := 7) (q := j) rfl rfl (by omega) (by omega)).mp c4
                          have c4n : 7 ≤ j := c4n
                          have hjq : 7 = j := by omega
                          subst hjq
                          refine lv_lload_n hx hb dX6_digest_99 rfl (lv_at hl 1 rfl) ?_
                          refine lv_aload_n hx hb dX6_digest_100 rfl (lv_at hl 0 rfl) ?_
                          refine rw_i hS (va_runV (As := []) (rest := [.long g1]) ⟨hx, hb, hml, hown, hts⟩ (m_X6_pivot l D cI cS a s st pi mi t _) (cwV 0 hts (gV tw275 tw534 tw273 tw274 tw1) rfl rfl rfl (by decide +kernel) ⟨Nat.le_of_ble_eq_true rfl, Nat.le_of_ble_eq_true rfl⟩) (pvW 112 hK hP hE (by decide) xc112 rfl) rfl rfl hl.1 rfl (lv_room (Nat.le_of_ble_eq_true rfl)) dX6_digest_101 ⟨Nat.le_of_ble_eq_true rfl, Nat.le_of_ble_eq_true rfl⟩) (fun r6 u7 H locs hr5 hP hS => ?_)
                          subst hr5
                          refine lv_i2l hx hb dX6_digest_104 rfl ?_
                          refine ro_l (va_runS (As := [.long g1, .long ((pivI s).toInt64)]) (rest := []) ⟨hx, hb, hml, hown, hts⟩ (m_X6_mixed l g1 ((pivI s).toInt64)) (va_cwS 2 hts (gS tw452 tw450 tw451 tw1) rfl rfl rfl (by decide +kernel) ⟨Nat.le_of_ble_eq_true rfl, Nat.le_of_ble_eq_true rfl⟩) ps0 rfl rfl hl.1 rfl (lv_room (Nat.le_of_ble_eq_true rfl)) dX6_digest_105 ⟨Nat.le_of_ble_eq_true rfl, Nat.le_of_ble_eq_true rfl⟩) (fun r9 hr8 => ?_)
                          subst hr8
                          refine lv_lstore_n (lv' := [(1, .long (mxL g1 ((pivI s).toInt64))), (0, .ref (a 112)), (3, .int (nI 7))]) hx hb dX6_digest_108 rfl hl (by decide) rfl (fun ls hl => ?_)
                          refine lv_lload_n hx hb dX6_digest_109 rfl (lv_at hl 0 rfl) ?_
                          refine lv_aload_n hx hb dX6_digest_110 rfl (lv_at hl 1 rfl) ?_
                          refine ro_d (va_runV (As := []) (rest := [.long (mxL g1 ((pivI s).toInt64))]) ⟨hx, hb, hml, hown, hts⟩ (m_X6_heldShare l D cI cS a s st pi mi u7 hh2 hv2) (cwV 0 hts (gV tw312 tw535 tw310 tw311 tw1) rfl rfl rfl (by decide +kernel) ⟨Nat.le_of_ble_eq_true rfl, Nat.le_of_ble_eq_true rfl⟩) (pvR 112 hK hP (by decide) xc112 rfl) rfl rfl hl.1 rfl (lv_room (Nat.le_of_ble_eq_true rfl)) dX6_digest_111 ⟨Nat.le_of_ble_eq_true rfl, Nat.le_of_ble_eq_true rfl⟩) (fun r12 hr11 => ?_)
                          subst hr11
                          refine lv_bipush (v := 52) hx hb dX6_digest_114 (by decide) ?_
                          refine lv_sipush (v := 1023) hx hb dX6_digest_116 (by decide) ?_
                          refine ro_l (va_runS (As := [.double (shareD s), .int 52, .int 1023]) (rest := [.long (mxL g1 ((pivI s).toInt64))]) ⟨hx, hb, hml, hown, hts⟩ (m_X6_bitsOf l (shareD s) 52 1023 52 hdS (by omega) unit52) (va_cwS 3 hts (gS tw538 tw536 tw537 tw1) rfl rfl rfl (by decide +kernel) ⟨Nat.le_of_ble_eq_true rfl, Nat.le_of_ble_eq_true rfl⟩) ps0 rfl rfl hl.1 rfl (lv_room (Nat.le_of_ble_eq_true rfl)) dX6_digest_119 ⟨Nat.le_of_ble_eq_true rfl, Nat.le_of_ble_eq_true rfl⟩) (fun r15 hr14 => ?_)
                          subst hr14
                          refine ro_l (va_runS (As := [.long (mxL g1 ((pivI s).toInt64)), .long (bitsX (shareD s) 52 1023)]) (rest := []) ⟨hx, hb, hml, hown, hts⟩ (m_X6_mixed l (mxL g1 ((pivI s).toInt64)) (bitsX (shareD s) 52 1023)) (va_cwS 2 hts (gS tw452 tw450 tw451 tw1) rfl rfl rfl (by decide +kernel) ⟨Nat.le_of_ble_eq_true rfl, Nat.le_of_ble_eq_true rfl⟩) ps0 rfl rfl hl.1 rfl (lv_room (Nat.le_of_ble_eq_true rfl)) dX6_digest_122 ⟨Nat.le_of_ble_eq_true rfl, Nat.le_of_ble_eq_true rfl⟩) (fun r18 hr17 => ?_)
                          subst hr17
                          refine lv_lstore_n (lv' := [(1, .long (mxL (mxL g1 ((pivI s).toInt64)) (bitsX (shareD s) 52 1023))), (0, .ref (a 112)), (3, .int (nI 7))]) hx hb dX6_digest_125 rfl hl (by decide) rfl (fun ls hl => ?_)
                          refine lv_lload_n hx hb dX6_digest_126 rfl (lv_at hl 0 rfl) ?_
                          refine lv_aload_n hx hb dX6_digest_127 rfl (lv_at hl 1 rfl) ?_
                          refine ro_f (va_runV (As := []) (rest := [.long (mxL (mxL g1 ((pivI s).toInt64)) (bitsX (shareD s) 52 1023))]) ⟨hx, hb, hml, hown, hts⟩ (m_X6_meanError l D cI cS a s st pi mi u7 hE0) (cwV 0 hts (gV tw316 tw540 tw314 tw315 tw1) rfl rfl rfl (by decide +kernel) ⟨Nat.le_of_ble_eq_true rfl, Nat.le_of_ble_eq_true rfl⟩) (pvR 112 hK hP (by decide) xc112 rfl) rfl rfl hl.1 rfl (lv_room (Nat.le_of_ble_eq_true rfl)) dX6_digest_128 ⟨Nat.le_of_ble_eq_true rfl, Nat.le_of_ble_eq_true rfl⟩) (fun r21 hr20 => ?_)
                          subst hr20
                          refine lv_f2d hx hb dX6_digest_131 hdM.vf ?_
                          refine lv_bipush (v := 23) hx hb dX6_digest_132 (by decide) ?_
                          refine lv_bipush (v := 127) hx hb dX6_digest_134 (by decide) ?_
                          refine ro_l (va_runS (As := [.double (FP.f2d (meanF s)), .int 23, .int 127]) (rest := [.long (mxL (mxL g1 ((pivI s).toInt64)) (bitsX (shareD s) 52 1023))]) ⟨hx, hb, hml, hown, hts⟩ (m_X6_bitsOf l (FP.f2d (meanF s)) 23 127 23 hdM (by omega) unit23) (va_cwS 3 hts (gS tw538 tw536 tw537 tw1) rfl rfl rfl (by decide +kernel) ⟨Nat.le_of_ble_eq_true rfl, Nat.le_of_ble_eq_true rfl⟩) ps0 rfl rfl hl.1 rfl (lv_room (Nat.le_of_ble_eq_true rfl)) dX6_digest_136 ⟨Nat.le_of_ble_eq_true rfl, Nat.le_of_ble_eq_true rfl⟩) (fun r24 hr23 => ?_)
                          subst hr23
                          refine ro_l (va_runS (As := [.long (mxL (mxL g1 ((pivI s).toInt64)) (bitsX (shareD s) 52 1023)), .long (bitsX (FP.f2d (meanF s)) 23 127)]) (rest := []) ⟨hx, hb, hml, hown, hts⟩ (m_X6_mixed l (mxL (mxL g1 ((pivI s).toInt64)) (bitsX (shareD s) 52 1023)) (bitsX (FP.f2d (meanF s)) 23 127)) (va_cwS 2 hts (gS tw452 tw450 tw451 tw1) rfl rfl rfl (by decide +kernel) ⟨Nat.le_of_ble_eq_true rfl, Nat.le_of_ble_eq_true rfl⟩) ps0 rfl rfl hl.1 rfl (lv_room (Nat.le_of_ble_eq_true rfl)) dX6_digest_139 ⟨Nat.le_of_ble_eq_true rfl, Nat.le_of_ble_eq_true rfl⟩) (fun r27 hr26 => ?_)
                          subst hr26
                          refine lv_lstore_n (lv' := [(1, .long (mxL (mxL (mxL g1 ((pivI s).toInt64)) (bitsX (shareD s) 52 1023)) (bitsX (FP.f2d (meanF s)) 23 127))), (0, .ref (a 112)), (3, .int (nI 7))]) hx hb dX6_digest_142 rfl hl (by decide) rfl (fun ls hl => ?_)
                          refine lv_lload_n hx hb dX6_digest_143 rfl (lv_at hl 0 rfl) ?_
                          refine lv_aload_n hx hb dX6_digest_144 rfl (lv_at hl 1 rfl) ?_
                          refine g_get hx hb hts hown inA6 hK hP 112 (by decide) xc112 rfl 2 (by decide) tw162 rfl (v := .int (mi 0 2)) rfl dX6_digest_145 ?_
                          refine lv_if_eq (tgt := 155) hx hb dX6_digest_148 (by decide) (fun c29 => ?_) (fun c29 => ?_)
                          · skip
                            have hif : (0 : Int64) = (if mi 0 2 = 0 then 0 else 1) := (if_pos c29).symm
                            refine lv_lconst (v := 0) hx hb dX6_digest_155 (by decide) ?_
                            refine ro_l (va_runS (As := [.long (mxL (mxL (mxL g1 ((pivI s).toInt64)) (bitsX (shareD s) 52 1023)) (bitsX (FP.f2d (meanF s)) 23 127)), .long 0]) (rest := []) ⟨hx, hb, hml, hown, hts⟩ (m_X6_mixed l (mxL (mxL (mxL g1 ((pivI s).toInt64)) (bitsX (shareD s) 52 1023)) (bitsX (FP.f2d (meanF s)) 23 127)) 0) (va_cwS 2 hts (gS tw452 tw450 tw451 tw1) rfl rfl rfl (by decide +kernel) ⟨Nat.le_of_ble_eq_true rfl, Nat.le_of_ble_eq_true rfl⟩) ps0 rfl rfl hl.1 rfl (lv_room (Nat.le_of_ble_eq_true rfl)) dX6_digest_156 ⟨Nat.le_of_ble_eq_true rfl, Nat.le_of_ble_eq_true rfl⟩) (fun r31 hr30 => ?_)
                            subst hr30
                            refine lv_lstore_n (lv' := [(1, .long (mxL (mxL (mxL (mxL g1 ((pivI s).toInt64)) (bitsX (shareD s) 52 1023)) (bitsX (FP.f2d (meanF s)) 23 127)) 0)), (0, .ref (a 112)), (3, .int (nI 7))]) hx hb dX6_digest_159 rfl hl (by decide) rfl (fun ls hl => ?_)
                            refine lv_lload_n hx hb dX6_digest_160 rfl (lv_at hl 0 rfl) ?_
                            refine lv_aload_n hx hb dX6_digest_161 rfl (lv_at hl 1 rfl) ?_
                            refine g_get hx hb hts hown inA6 hK hP 112 (by decide) xc112 rfl 4 (by decide) tw164 rfl (v := .ref (a 106)) rfl dX6_digest_162 ?_
                            refine g_getN hx hb hts hown inA2 hK hP 106 (by decide) xc106 rfl 1 (by decide) tn136 rfl (v := .int (mi 0 1)) rfl dX6_digest_165 ?_
                            refine lv_i2l hx hb dX6_digest_168 rfl ?_
                            refine ro_l (va_runS (As := [.long (mxL (mxL (mxL (mxL g1 ((pivI s).toInt64)) (bitsX (shareD s) 52 1023)) (bitsX (FP.f2d (meanF s)) 23 127)) 0), .long ((mi 0 1).toInt64)]) (rest := []) ⟨hx, hb, hml, hown, hts⟩ (m_X6_mixed l (mxL (mxL (mxL (mxL g1 ((pivI s).toInt64)) (bitsX (shareD s) 52 1023)) (bitsX (FP.f2d (meanF s)) 23 127)) 0) ((mi 0 1).toInt64)) (va_cwS 2 hts (gS tw452 tw450 tw451 tw1) rfl rfl rfl (by decide +kernel) ⟨Nat.le_of_ble_eq_true rfl, Nat.le_of_ble_eq_true rfl⟩) ps0 rfl rfl hl.1 rfl (lv_room (Nat.le_of_ble_eq_true rfl)) dX6_digest_169 ⟨Nat.le_of_ble_eq_true rfl, Nat.le_of_ble_eq_true rfl⟩) (fun r34 hr33 => ?_)
                            subst hr33
                            refine lv_lstore_n (lv' := [(1, .long (mxL (mxL (mxL (mxL (mxL g1 ((pivI s).toInt64)) (bitsX (shareD s) 52 1023)) (bitsX (FP.f2d (meanF s)) 23 127)) 0) ((mi 0 1).toInt64))), (0, .ref (a 112)), (3, .int (nI 7))]) hx hb dX6_digest_172 rfl hl (by decide) rfl (fun ls hl => ?_)
                            refine lv_iconst (v := 0) hx hb dX6_digest_173 (by decide) ?_
                            refine lv_istore_n (lv' := [(3, .int 0), (1, .long (mxL (mxL (mxL (mxL (mxL g1 ((pivI s).toInt64)) (bitsX (shareD s) 52 1023)) (bitsX (FP.f2d (meanF s)) 23 127)) 0) ((mi 0 1).toInt64))), (0, .ref (a 112))]) hx hb dX6_digest_174 rfl hl (by decide) rfl (fun ls hl => ?_)
                            have loop175 : ∀ (fu : Nat) (j : Nat) (g1 : Int64), ln + 1 ≤ j + fu → (j ≤ ln) → (g1 = dgN (mi 1) j (mxL (mxL (mxL (mxL (mxL (dgWs s 7 (dgDs s 7 (dgN (s 10) 2 (dgN (counN s sz) 14 3863)))) (pivI s).toInt64) (bitsX (shareD s) 52 1023)) (bitsX (FP.f2d (meanF s)) 23 127)) (if mi 0 2 = 0 then 0 else 1)) (nI ln).toInt64)) → ∀ (H : Heap) (locs : List Loc), HP D 113 a (exC cI cS a s st pi mi u7) H → va_S (AX 113 a z.heap.size) z.heap H locs → ∀ ls : Array Slot, lv_has ls 4 [(0, .ref (a 112)), (1, .long g1), (3, .int (nI j))] → W p l e ({ frames := 6, cells := 0, slots := 0, locals := 137 } : Room) z m ([.ref (a 112)] : List Value).toArray below meth c H locs 0 0 (MQ below (va_Ql (fun (r : Int64) (u : St) => r = dgAll s sz (mi 0 2) (mi 1) ln) (BW D 113 a (fun u => exC cI cS a s st pi mi u)) (AX 113 a z.heap.size)) ([.ref (a 112)] : List Value).toArray z 0 0 (AX 113 a z.heap.size)) (F0 m 175 ls []) := by
                              intro fu
                              induction fu with
                              | zero => intro j g1 hn hj hg2; exact absurd hn (by omega)
                              | succ fu ih175 =>
                                intro j g1 hn hj hg2 H locs hP hS ls hl
                                refine lv_iload_n hx hb dX6_digest_175 rfl (lv_at hl 2 rfl) ?_
                                refine lv_aload_n hx hb dX6_digest_176 rfl (lv_at hl 0 rfl) ?_
                                refine g_get hx hb hts hown inA6 hK hP 112 (by decide) xc112 rfl 4 (by decide) tw164 rfl (v := .ref (a 106)) rfl dX6_digest_177 ?_
                                refine g_getN hx hb hts hown inA2 hK hP 106 (by decide) xc106 rfl 1 (by decide) tn136 rfl (v := .int (mi 0 1)) rfl dX6_digest_180 ?_
                                refine lv_icmp_ge (tgt := 206) hx hb dX6_digest_183 (by decide) (fun c36 => ?_) (fun c36 => ?_)
                                · skip
                                  have c36x := Int32.not_lt.mpr c36
                                  have c36n := (nI_le2 (p := ln) (q := j) hl0 rfl (by omega) (by omega)).mp c36
                                  have c36n : ln ≤ j := c36n
                                  have hjq : ln = j := by omega
                                  subst hjq
                                  refine lv_lload_n hx hb dX6_digest_206 rfl (lv_at hl 1 rfl) ?_
                                  exact rw_lr hx hb hr hlocks hS u7 hP (by rw [hg2]; rfl) dX6_digest_207
                                · skip
                                  have c36x := Int32.not_le.mp c36
                                  have c36n := fun hq0 => c36 ((nI_le2 (p := ln) (q := j) hl0 rfl (by omega) (by omega)).mpr hq0)
                                  have c36n : ¬ (ln ≤ j) := c36n
                                  refine lv_lload_n hx hb dX6_digest_186 rfl (lv_at hl 1 rfl) ?_
                                  refine lv_aload_n hx hb dX6_digest_187 rfl (lv_at hl 0 rfl) ?_
                                  refine g_get hx hb hts hown inA6 hK hP 112 (by decide) xc112 rfl 4 (by decide) tw164 rfl (v := .ref (a 106)) rfl dX6_digest_188 ?_
                                  refine lv_iload_n hx hb dX6_digest_191 rfl (lv_at hl 2 rfl) ?_
                                  refine ro_i (va_runV (As := [.int (nI j)]) (rest := [.long g1]) ⟨hx, hb, hml, hown, hts⟩ (m_X2_codeAt l D cI cS a s st pi mi u7 ln (by omega) hl0 j (by omega)) (cwV 1 hts (gV tw254 tw541 tw252 tw253 tw6) rfl rfl rfl (by decide +kernel) ⟨Nat.le_of_ble_eq_true rfl, Nat.le_of_ble_eq_true rfl⟩) (pvR 106 hK hP (by decide) xc106 rfl) rfl rfl hl.1 rfl (lv_room (Nat.le_of_ble_eq_true rfl)) dX6_digest_192 ⟨Nat.le_of_ble_eq_true rfl, Nat.le_of_ble_eq_true rfl⟩) (fun r38 hr37 => ?_)
                                  subst hr37
                                  refine lv_i2l hx hb dX6_digest_195 rfl ?_
                                  refine ro_l (va_runS (As := [.long g1, .long ((cdA (mi 1) ln j).toInt64)]) (rest := []) ⟨hx, hb, hml, hown, hts⟩ (m_X6_mixed l g1 ((cdA (mi 1) ln j).toInt64)) (va_cwS 2 hts (gS tw452 tw450 tw451 tw1) rfl rfl rfl (by decide +kernel) ⟨Nat.le_of_ble_eq_true rfl, Nat.le_of_ble_eq_true rfl⟩) ps0 rfl rfl hl.1 rfl (lv_room (Nat.le_of_ble_eq_true rfl)) dX6_digest_196 ⟨Nat.le_of_ble_eq_true rfl, Nat.le_of_ble_eq_true rfl⟩) (fun r41 hr40 => ?_)
                                  subst hr40
                                  refine lv_lstore_n (lv' := [(1, .long (mxL g1 ((cdA (mi 1) ln j).toInt64))), (0, .ref (a 112)), (3, .int (nI j))]) hx hb dX6_digest_199 rfl hl (by decide) rfl (fun ls hl => ?_)
                                  refine lv_iinc (v := nI (j + 1)) (lv' := [(3, .int (nI (j + 1))), (1, .long (mxL g1 ((cdA (mi 1) ln j).toInt64))), (0, .ref (a 112))]) hx hb dX6_digest_200 hl (k := 2) rfl (nI_add j 1) (by decide) rfl (fun ls hl => ?_)
                                  refine lv_goto (tgt := 175) hx hb dX6_digest_203 (by decide) ?_
                                  exact ih175 (j + 1) (mxL g1 ((cdA (mi 1) ln j).toInt64)) (by omega) (by omega) (by have hcd : cdA (mi 1) ln j = mi 1 j := if_pos (by omega); rw [dgN, ← hg2, hcd]) _ _ hP hS ls (lv_sub hl [2, 1, 0] rfl)
                            exact loop175 (ln + 1) 0 (mxL (mxL (mxL (mxL (mxL g1 ((pivI s).toInt64)) (bitsX (shareD s) 52 1023)) (bitsX (FP.f2d (meanF s)) 23 127)) 0) ((mi 0 1).toInt64)) (by omega) (by omega) (by rw [← hif, ← hl0, ← hg]; rfl) _ _ hP hS ls (lv_sub hl [2, 1, 0] rfl)
                          · skip
                            have hif : (1 : Int64) = (if mi 0 2 = 0 then 0 else 1) := (if_neg c29).symm
                            refine lv_lconst (v := 1) hx hb dX6_digest_151 (by decide) ?_
                            refine lv_goto (tgt := 156) hx hb dX6_digest_152 (by decide) ?_
                            refine ro_l (va_runS (As := [.long (mxL (mxL (mxL g1 ((pivI s).toInt64)) (bitsX (shareD s) 52 1023)) (bitsX (FP.f2d (meanF s)) 23 127)), .long 1]) (rest := []) ⟨hx, hb, hml, hown, hts⟩ (m_X6_mixed l (mxL (mxL (mxL g1 ((pivI s).toInt64)) (bitsX (shareD s) 52 1023)) (bitsX (FP.f2d (meanF s)) 23 127)) 1) (va_cwS 2 hts (gS tw452 tw450 tw451 tw1) rfl rfl rfl (by decide +kernel) ⟨Nat.le_of_ble_eq_true rfl, Nat.le_of_ble_eq_true rfl⟩) ps0 rfl rfl hl.1 rfl (lv_room (Nat.le_of_ble_eq_true rfl)) dX6_digest_156 ⟨Nat.le_of_ble_eq_true rfl, Nat.le_of_ble_eq_true rfl⟩) (fun r44 hr43 => ?_)
                            subst hr43
                            refine lv_lstore_n (lv' := [(1, .long (mxL (mxL (mxL (mxL g1 ((pivI s).toInt64)) (bitsX (shareD s) 52 1023)) (bitsX (FP.f2d (meanF s)) 23 127)) 1)), (0, .ref (a 112)), (3, .int (nI 7))]) hx hb dX6_digest_159 rfl hl (by decide) rfl (fun ls hl => ?_)
                            refine lv_lload_n hx hb dX6_digest_160 rfl (lv_at hl 0 rfl) ?_
                            refine lv_aload_n hx hb dX6_digest_161 rfl (lv_at hl 1 rfl) ?_
                            refine g_get hx hb hts hown inA6 hK hP 112 (by decide) xc112 rfl 4 (by decide) tw164 rfl (v := .ref (a 106)) rfl dX6_digest_162 ?_
                            refine g_getN hx hb hts hown inA2 hK hP 106 (by decide) xc106 rfl 1 (by decide) tn136 rfl (v := .int (mi 0 1)) rfl dX6_digest_165 ?_
                            refine lv_i2l hx hb dX6_digest_168 rfl ?_
                            refine ro_l (va_runS (As := [.long (mxL (mxL (mxL (mxL g1 ((pivI s).toInt64)) (bitsX (shareD s) 52 1023)) (bitsX (FP.f2d (meanF s)) 23 127)) 1), .long ((mi 0 1).toInt64)]) (rest := []) ⟨hx, hb, hml, hown, hts⟩ (m_X6_mixed l (mxL (mxL (mxL (mxL g1 ((pivI s).toInt64)) (bitsX (shareD s) 52 1023)) (bitsX (FP.f2d (meanF s)) 23 127)) 1) ((mi 0 1).toInt64)) (va_cwS 2 hts (gS tw452 tw450 tw451 tw1) rfl rfl rfl (by decide +kernel) ⟨Nat.le_of_ble_eq_true rfl, Nat.le_of_ble_eq_true rfl⟩) ps0 rfl rfl hl.1 rfl (lv_room (Nat.le_of_ble_eq_true rfl)) dX6_digest_169 ⟨Nat.le_of_ble_eq_true rfl, Nat.le_of_ble_eq_true rfl⟩) (fun r47 hr46 => ?_)
                            subst hr46
                            refine lv_lstore_n (lv' := [(1, .long (mxL (mxL (mxL (mxL (mxL g1 ((pivI s).toInt64)) (bitsX (shareD s) 52 1023)) (bitsX (FP.f2d (meanF s)) 23 127)) 1) ((mi 0 1).toInt64))), (0, .ref (a 112)), (3, .int (nI 7))]) hx hb dX6_digest_172 rfl hl (by decide) rfl (fun ls hl => ?_)
                            refine lv_iconst (v := 0) hx hb dX6_digest_173 (by decide) ?_
                            refine lv_istore_n (lv' := [(3, .int 0), (1, .long (mxL (mxL (mxL (mxL (mxL g1 ((pivI s).toInt64)) (bitsX (shareD s) 52 1023)) (bitsX (FP.f2d (meanF s)) 23 127)) 1) ((mi 0 1).toInt64))), (0, .ref (a 112))]) hx hb dX6_digest_174 rfl hl (by decide) rfl (fun ls hl => ?_)
                            have loop175 : ∀ (fu : Nat) (j : Nat) (g1 : Int64), ln + 1 ≤ j + fu → (j ≤ ln) → (g1 = dgN (mi 1) j (mxL (mxL (mxL (mxL (mxL (dgWs s 7 (dgDs s 7 (dgN (s 10) 2 (dgN (counN s sz) 14 3863)))) (pivI s).toInt64) (bitsX (shareD s) 52 1023)) (bitsX (FP.f2d (meanF s)) 23 127)) (if mi 0 2 = 0 then 0 else 1)) (nI ln).toInt64)) → ∀ (H : Heap) (locs : List Loc), HP D 113 a (exC cI cS a s st pi mi u7) H → va_S (AX 113 a z.heap.size) z.heap H locs → ∀ ls : Array Slot, lv_has ls 4 [(0, .ref (a 112)), (1, .long g1), (3, .int (nI j))] → W p l e ({ frames := 6, cells := 0, slots := 0, locals := 137 } : Room) z m ([.ref (a 112)] : List Value).toArray below meth c H locs 0 0 (MQ below (va_Ql (fun (r : Int64) (u : St) => r = dgAll s sz (mi 0 2) (mi 1) ln) (BW D 113 a (fun u => exC cI cS a s st pi mi u)) (AX 113 a z.heap.size)) ([.ref (a 112)] : List Value).toArray z 0 0 (AX 113 a z.heap.size)) (F0 m 175 ls []) := by
                              intro fu
                              induction fu with
                              | zero => intro j g1 hn hj hg2; exact absurd hn (by omega)
                              | succ fu ih175 =>
                                intro j g1 hn hj hg2 H locs hP hS ls hl
                                refine lv_iload_n hx hb dX6_digest_175 rfl (lv_at hl 2 rfl) ?_
                                refine lv_aload_n hx hb dX6_digest_176 rfl (lv_at hl 0 rfl) ?_
                                refine g_get hx hb hts hown inA6 hK hP 112 (by decide) xc112 rfl 4 (by decide) tw164 rfl (v := .ref (a 106)) rfl dX6_digest_177 ?_
                                refine g_getN hx hb hts hown inA2 hK hP 106 (by decide) xc106 rfl 1 (by decide) tn136 rfl (v := .int (mi 0 1)) rfl dX6_digest_180 ?_
                                refine lv_icmp_ge (tgt := 206) hx hb dX6_digest_183 (by decide) (fun c49 => ?_) (fun c49 => ?_)
                                · skip
                                  have c49x := Int32.not_lt.mpr c49
                                  have c49n := (nI_le2 (p := ln) (q := j) hl0 rfl (by omega) (by omega)).mp c49
                                  have c49n : ln ≤ j := c49n
                                  have hjq : ln = j := by omega
                                  subst hjq
                                  refine lv_lload_n hx hb dX6_digest_206 rfl (lv_at hl 1 rfl) ?_
                                  exact rw_lr hx hb hr hlocks hS u7 hP (by rw [hg2]; rfl) dX6_digest_207
                                · skip
                                  have c49x := Int32.not_le.mp c49
                                  have c49n := fun hq0 => c49 ((nI_le2 (p := ln) (q := j) hl0 rfl (by omega) (by omega)).mpr hq0)
                                  have c49n : ¬ (ln ≤ j) := c49n
                                  refine lv_lload_n hx hb dX6_digest_186 rfl (lv_at hl 1 rfl) ?_
                                  refine lv_aload_n hx hb dX6_digest_187 rfl (lv_at hl 0 rfl) ?_
                                  refine g_get hx hb hts hown inA6 hK hP 112 (by decide) xc112 rfl 4 (by decide) tw164 rfl (v := .ref (a 106)) rfl dX6_digest_188 ?_
                                  refine lv_iload_n hx hb dX6_digest_191 rfl (lv_at hl 2 rfl) ?_
                                  refine ro_i (va_runV (As := [.int (nI j)]) (rest := [.long g1]) ⟨hx, hb, hml, hown, hts⟩ (m_X2_codeAt l D cI cS a s st pi mi u7 ln (by omega) hl0 j (by omega)) (cwV 1 hts (gV tw254 tw541 tw252 tw253 tw6) rfl rfl rfl (by decide +kernel) ⟨Nat.le_of_ble_eq_true rfl, Nat.le_of_ble_eq_true rfl⟩) (pvR 106 hK hP (by decide) xc106 rfl) rfl rfl hl.1 rfl (lv_room (Nat.le_of_ble_eq_true rfl)) dX6_digest_192 ⟨Nat.le_of_ble_eq_true rfl, Nat.le_of_ble_eq_true rfl⟩) (fun r51 hr50 => ?_)
                                  subst hr50
                                  refine lv_i2l hx hb dX6_digest_195 rfl ?_
                                  refine ro_l (va_runS (As := [.long g1, .long ((cdA (mi 1) ln j).toInt64)]) (rest := []) ⟨hx, hb, hml, hown, hts⟩ (m_X6_mixed l g1 ((cdA (mi 1) ln j).toInt64)) (va_cwS 2 hts (gS tw452 tw450 tw451 tw1) rfl rfl rfl (by decide +kernel) ⟨Nat.le_of_ble_eq_true rfl, Nat.le_of_ble_eq_true rfl⟩) ps0 rfl rfl hl.1 rfl (lv_room (Nat.le_of_ble_eq_true rfl)) dX6_digest_196 ⟨Nat.le_of_ble_eq_true rfl, Nat.le_of_ble_eq_true rfl⟩) (fun r54 hr53 => ?_)
                                  subst hr53
                                  refine lv_lstore_n (lv' := [(1, .long (mxL g1 ((cdA (mi 1) ln j).toInt64))), (0, .ref (a 112)), (3, .int (nI j))]) hx hb dX6_digest_199 rfl hl (by decide) rfl (fun ls hl => ?_)
                                  refine lv_iinc (v := nI (j + 1)) (lv' := [(3, .int (nI (j + 1))), (1, .long (mxL g1 ((cdA (mi 1) ln j).toInt64))), (0, .ref (a 112))]) hx hb dX6_digest_200 hl (k := 2) rfl (nI_add j 1) (by decide) rfl (fun ls hl => ?_)
                                  refine lv_goto (tgt := 175) hx hb dX6_digest_203 (by decide) ?_
                                  exact ih175 (j + 1) (mxL g1 ((cdA (mi 1) ln j).toInt64)) (by omega) (by omega) (by have hcd : cdA (mi 1) ln j = mi 1 j := if_pos (by omega); rw [dgN, ← hg2, hcd]) _ _ hP hS ls (lv_sub hl [2, 1, 0] rfl)
                            exact loop175 (ln + 1) 0 (mxL (mxL (mxL (mxL (mxL g1 ((pivI s).toInt64)) (bitsX (shareD s) 52 1023)) (bitsX (FP.f2d (meanF s)) 23 127)) 1) ((mi 0 1).toInt64)) (by omega) (by omega) (by rw [← hif, ← hl0, ← hg]; rfl) _ _ hP hS ls (lv_sub hl [2, 1, 0] rfl)
                        · skip
                          have c4x := Int32.not_le.mp c4
                          have c4n := fun hq0 => c4 ((nI_le2 (p := 7) (q := j) rfl rfl (by omega) (by omega)).mpr hq0)
                          have c4n : ¬ (7 ≤ j) := c4n
                          refine lv_aload_n hx hb dX6_digest_86 rfl (lv_at hl 0 rfl) ?_
                          refine lv_lload_n hx hb dX6_digest_87 rfl (lv_at hl 1 rfl) ?_
                          refine lv_iload_n hx hb dX6_digest_88 rfl (lv_at hl 2 rfl) ?_
                          refine rw_l hS (va_runV (As := [.long g1, .int (nI j)]) (rest := []) ⟨hx, hb, hml, hown, hts⟩ (m_X6_mixedWithWarden l D cI cS a s st pi mi t g1 j (by omega) _) (cwV 2 hts (gV tw511 tw508 tw510 ts15 tw1) rfl rfl rfl (by decide +kernel) ⟨Nat.le_of_ble_eq_true rfl, Nat.le_of_ble_eq_true rfl⟩) (pvW 112 hK hP hE (by decide) xc112 rfl) rfl rfl hl.1 rfl (lv_room (Nat.le_of_ble_eq_true rfl)) dX6_digest_89 ⟨Nat.le_of_ble_eq_true rfl, Nat.le_of_ble_eq_true rfl⟩) (fun r57 u58 H locs hr56 hP hS => ?_)
                          subst hr56
                          refine lv_lstore_n (lv' := [(1, .long (dgWard s j g1)), (0, .ref (a 112)), (3, .int (nI j))]) hx hb dX6_digest_92 rfl hl (by decide) rfl (fun ls hl => ?_)
                          refine lv_iinc (v := nI (j + 1)) (lv' := [(3, .int (nI (j + 1))), (1, .long (dgWard s j g1)), (0, .ref (a 112))]) hx hb dX6_digest_93 hl (k := 2) rfl (nI_add j 1) (by decide) rfl (fun ls hl => ?_)
                          refine lv_goto (tgt := 80) hx hb dX6_digest_96 (by decide) ?_
                          exact ih80 (j + 1) (dgWard s j g1) u58 (by omega) (by omega) (by rw [dgWs, ← hg]) _ _ hP hS ls (lv_sub hl [2, 1, 0] rfl)
                    exact loop80 (7 + 1) 0 g1 t (by omega) (by omega) hg _ _ hP hS ls (lv_sub hl [1, 2, 0] rfl)
                  · skip
                    have c3x := Int32.not_le.mp c3
                    have c3n := fun hq0 => c3 ((nI_le2 (p := 7) (q := j) rfl rfl (by omega) (by omega)).mpr hq0)
                    have c3n : ¬ (7 ≤ j) := c3n
                    refine lv_aload_n hx hb dX6_digest_65 rfl (lv_at hl 0 rfl) ?_
                    refine lv_lload_n hx hb dX6_digest_66 rfl (lv_at hl 1 rfl) ?_
                    refine lv_iload_n hx hb dX6_digest_67 rfl (lv_at hl 2 rfl) ?_
                    refine ro_l (va_runV (As := [.long g1, .int (nI j)]) (rest := []) ⟨hx, hb, hml, hown, hts⟩ (m_X6_mixedWithDial l D cI cS a s st pi mi t g1 j (by omega)) (cwV 2 hts (gV tw457 tw454 tw456 ts13 tw1) rfl rfl rfl (by decide +kernel) ⟨Nat.le_of_ble_eq_true rfl, Nat.le_of_ble_eq_true rfl⟩) (pvR 112 hK hP (by decide) xc112 rfl) rfl rfl hl.1 rfl (lv_room (Nat.le_of_ble_eq_true rfl)) dX6_digest_68 ⟨Nat.le_of_ble_eq_true rfl, Nat.le_of_ble_eq_true rfl⟩) (fun r60 hr59 => ?_)
                    subst hr59
                    refine lv_lstore_n (lv' := [(1, .long (dgDial s j g1)), (0, .ref (a 112)), (3, .int (nI j))]) hx hb dX6_digest_71 rfl hl (by decide) rfl (fun ls hl => ?_)
                    refine lv_iinc (v := nI (j + 1)) (lv' := [(3, .int (nI (j + 1))), (1, .long (dgDial s j g1)), (0, .ref (a 112))]) hx hb dX6_digest_72 hl (k := 2) rfl (nI_add j 1) (by decide) rfl (fun ls hl => ?_)
                    refine lv_goto (tgt := 59) hx hb dX6_digest_75 (by decide) ?_
                    exact ih59 (j + 1) (dgDial s j g1) (by omega) (by omega) (by rw [dgDs, ← hg]) _ _ hP hS ls (lv_sub hl [2, 1, 0] rfl)
              exact loop59 (7 + 1) 0 g1 (by omega) (by omega) hg _ _ hP hS ls (lv_sub hl [1, 2, 0] rfl)
            · skip
              have c2x := Int32.not_le.mp c2
              have c2n := fun hq0 => c2 ((nI_le2 (p := 2) (q := j) rfl rfl (by omega) (by omega)).mpr hq0)
              have c2n : ¬ (2 ≤ j) := c2n
              refine lv_lload_n hx hb dX6_digest_36 rfl (lv_at hl 1 rfl) ?_
              refine lv_aload_n hx hb dX6_digest_37 rfl (lv_at hl 0 rfl) ?_
              refine g_get hx hb hts hown inA6 hK hP 112 (by decide) xc112 rfl 0 (by decide) tw160 rfl (v := .ref (a 0)) rfl dX6_digest_38 ?_
              refine g_getN hx hb hts hown inA4 hK hP 0 (by decide) xc0 rfl 2 (by decide) tn91 rfl (v := .ref (a 12)) rfl dX6_digest_41 ?_
              refine lv_iload_n hx hb dX6_digest_44 rfl (lv_at hl 2 rfl) ?_
              refine g_iald hx hb hK hP 12 (by decide) xc12 j rfl (by omega) (by decide) dX6_digest_45 (v := s 10 j) rfl ?_
              refine lv_i2l hx hb dX6_digest_46 rfl ?_
              refine ro_l (va_runS (As := [.long g1, .long ((s 10 j).toInt64)]) (rest := []) ⟨hx, hb, hml, hown, hts⟩ (m_X6_mixed l g1 ((s 10 j).toInt64)) (va_cwS 2 hts (gS tw452 tw450 tw451 tw1) rfl rfl rfl (by decide +kernel) ⟨Nat.le_of_ble_eq_true rfl, Nat.le_of_ble_eq_true rfl⟩) ps0 rfl rfl hl.1 rfl (lv_room (Nat.le_of_ble_eq_true rfl)) dX6_digest_47 ⟨Nat.le_of_ble_eq_true rfl, Nat.le_of_ble_eq_true rfl⟩) (fun r63 hr62 => ?_)
              subst hr62
              refine lv_lstore_n (lv' := [(1, .long (mxL g1 ((s 10 j).toInt64))), (0, .ref (a 112)), (3, .int (nI j))]) hx hb dX6_digest_50 rfl hl (by decide) rfl (fun ls hl => ?_)
              refine lv_iinc (v := nI (j + 1)) (lv' := [(3, .int (nI (j + 1))), (1, .long (mxL g1 ((s 10 j).toInt64))), (0, .ref (a 112))]) hx hb dX6_digest_51 hl (k := 2) rfl (nI_add j 1) (by decide) rfl (fun ls hl => ?_)
              refine lv_goto (tgt := 31) hx hb dX6_digest_54 (by decide) ?_
              exact ih31 (j + 1) (mxL g1 ((s 10 j).toInt64)) (by omega) (by omega) (by rw [dgN, ← hg]) _ _ hP hS ls (lv_sub hl [2, 1, 0] rfl)
        exact loop31 (2 + 1) 0 g1 (by omega) (by omega) hg _ _ hP hS ls (lv_sub hl [1, 2, 0] rfl)
      · skip
        have c1x := Int32.not_le.mp c1
        have c1n := fun hq0 => c1 ((nI_le2 (p := 14) (q := j) rfl rfl (by omega) (by omega)).mpr hq0)
        have c1n : ¬ (14 ≤ j) := c1n
        refine lv_lload_n hx hb dX6_digest_12 rfl (lv_at hl 1 rfl) ?_
        refine lv_aload_n hx hb dX6_digest_13 rfl (lv_at hl 0 rfl) ?_
        refine lv_iload_n hx hb dX6_digest_14 rfl (lv_at hl 2 rfl) ?_
        refine rw_i hS (va_runV (As := [.int (nI j)]) (rest := [.long g1]) ⟨hx, hb, hml, hown, hts⟩ (m_X6_count l D cI cS a s st pi mi t sz j (by omega) hs0 _) (cwV 1 hts (gV tw331 tw328 tw329 tw330 tw1) rfl rfl rfl (by decide +kernel) ⟨Nat.le_of_ble_eq_true rfl, Nat.le_of_ble_eq_true rfl⟩) (pvW 112 hK hP hE (by decide) xc112 rfl) rfl rfl hl.1 rfl (lv_room (Nat.le_of_ble_eq_true rfl)) dX6_digest_15 ⟨Nat.le_of_ble_eq_true rfl, Nat.le_of_ble_eq_true rfl⟩) (fun r66 u67 H locs hr65 hP hS => ?_)
        subst hr65
        refine lv_i2l hx hb dX6_digest_18 rfl ?_
        refine ro_l (va_runS (As := [.long g1, .long ((counN s sz j).toInt64)]) (rest := []) ⟨hx, hb, hml, hown, hts⟩ (m_X6_mixed l g1 ((counN s sz j).toInt64)) (va_cwS 2 hts (gS tw452 tw450 tw451 tw1) rfl rfl rfl (by decide +kernel) ⟨Nat.le_of_ble_eq_true rfl, Nat.le_of_ble_eq_true rfl⟩) ps0 rfl rfl hl.1 rfl (lv_room (Nat.le_of_ble_eq_true rfl)) dX6_digest_19 ⟨Nat.le_of_ble_eq_true rfl, Nat.le_of_ble_eq_true rfl⟩) (fun r69 hr68 => ?_)
        subst hr68
        refine lv_lstore_n (lv' := [(1, .long (mxL g1 ((counN s sz j).toInt64))), (0, .ref (a 112)), (3, .int (nI j))]) hx hb dX6_digest_22 rfl hl (by decide) rfl (fun ls hl => ?_)
        refine lv_iinc (v := nI (j + 1)) (lv' := [(3, .int (nI (j + 1))), (1, .long (mxL g1 ((counN s sz j).toInt64))), (0, .ref (a 112))]) hx hb dX6_digest_23 hl (k := 2) rfl (nI_add j 1) (by decide) rfl (fun ls hl => ?_)
        refine lv_goto (tgt := 6) hx hb dX6_digest_26 (by decide) ?_
        exact ih6 (j + 1) (mxL g1 ((counN s sz j).toInt64)) u67 (by omega) (by omega) (by rw [dgN, ← hg]) _ _ hP hS ls (lv_sub hl [2, 1, 0] rfl)
  exact loop6 (14 + 1) 0 (3863 : Int64) po (by omega) (by omega) rfl _ _ hP hS ls (lv_sub hl [2, 1, 0] rfl)

set_option maxHeartbeats 4000000 in
set_option maxRecDepth 100000 in
theorem m_X6_tick (l : Launch) (D : va_G) (cI cS : ClassId) (a : Nat → Nat) (s : St) (st : Nat → St) (pi : Nat → Nat) (mi po : St) (sz : Nat) (hsz : sz ≤ 6) (hs0 : mi 0 0 = nI sz) (hpi : ∀ k, k < 6 → pi k < 6) (n : Nat) (hn : 1 ≤ n ∧ n ≤ 99) (zz : Nat) : Met l yX6_tick (.code yX6_tick cX6_tick 2 (some .int) :: wsA) ({ frames := 4, cells := 0, slots := 0, locals := 86 } : Room) (va_Pc [.ref (a 112), .int (nI n)] (PW D cI cS 113 a (exC cI cS a s st pi mi po) zz)) (va_Qi (fun (r : Int32) (u : Unit) => r = ticksA n s) (BW D 113 a (fun u => exC cI cS a (ticksS n s) (va_up st (svPi pi sz (svQ sz) + 1) s) (svPi pi sz) (up2 mi 0 0 (nI (svQ sz + 1))) po)) (AX 113 a zz)) 0 0 (AX 113 a zz) := by
  refine mgo (by decide) (Nat.le_of_ble_eq_true rfl) ?_
  intro p e z m below meth c hx hb hr hml hown hts hlocks hB ls hl
  obtain ⟨hsz, hP, hK, hE⟩ := hB
  subst hsz
  have hS : va_S (AX 113 a z.heap.size) z.heap z.heap [] := va_S.rf
  have hl : lv_has ls 2 [(0, .ref (a 112)), (1, .int (nI n))] := hl
  refine lv_iload_n hx hb dX6_tick_0 rfl (lv_at hl 1 rfl) ?_
  refine lv_iconst (v := 1) hx hb dX6_tick_1 (by decide) ?_
  refine lv_icmp_lt (tgt := 11) hx hb dX6_tick_2 (by decide) (fun h0 => absurd h0 (fun h => by have := (nI_lt2 (p := n) (q := 1) rfl rfl (by omega) (by omega)).mp h; omega)) (fun _ => ?_)
  refine lv_iload_n hx hb dX6_tick_5 rfl (lv_at hl 1 rfl) ?_
  refine lv_bipush (v := 99) hx hb dX6_tick_6 (by decide) ?_
  refine lv_icmp_le (tgt := 21) hx hb dX6_tick_8 (by decide) (fun _ => ?_) (fun h0 => absurd ((nI_le2 (p := n) (q := 99) rfl rfl (by omega) (by omega)).mpr (by omega)) h0)
  refine lv_aload_n hx hb dX6_tick_21 rfl (lv_at hl 0 rfl) ?_
  refine g_get hx hb hts hown inA6 hK hP 112 (by decide) xc112 rfl 3 (by decide) tw163 rfl (v := .ref (a 104)) rfl dX6_tick_22 ?_
  refine lv_aload_n hx hb dX6_tick_25 rfl (lv_at hl 0 rfl) ?_
  refine g_get hx hb hts hown inA6 hK hP 112 (by decide) xc112 rfl 0 (by decide) tw160 rfl (v := .ref (a 0)) rfl dX6_tick_26 ?_
  refine rw_v hS (va_runV (As := [.ref (a 0)]) (rest := []) ⟨hx, hb, hml, hown, hts⟩ (m_X1_save l D cI cS a s st pi mi po sz (by omega) hs0 hpi _) (cwV 1 hts (gV tw186 tw183 tw184 tw185 tw5) rfl rfl rfl (by decide +kernel) ⟨Nat.le_of_ble_eq_true rfl, Nat.le_of_ble_eq_true rfl⟩) (pvW 104 hK hP hE (by decide) xc104 rfl) rfl rfl hl.1 rfl (lv_room (Nat.le_of_ble_eq_true rfl)) dX6_tick_29 ⟨Nat.le_of_ble_eq_true rfl, Nat.le_of_ble_eq_true rfl⟩) (fun u3 H locs hr1 hP hS => ?_)
  refine lv_aload_n hx hb dX6_tick_32 rfl (lv_at hl 0 rfl) ?_
  refine g_get hx hb hts hown inA6 hK hP 112 (by decide) xc112 rfl 0 (by decide) tw160 rfl (v := .ref (a 0)) rfl dX6_tick_33 ?_
  refine g_getN hx hb hts hown inA4 hK hP 0 (by decide) xc0 rfl 0 (by decide) tn86 rfl (v := .ref (a 1)) rfl dX6_tick_36 ?_
  refine lv_iload_n hx hb dX6_tick_39 rfl (lv_at hl 1 rfl) ?_
  refine rw_i hS (va_runV (As := [.int (nI n)]) (rest := []) ⟨hx, hb, hml, hown, hts⟩ (m_X0_passTicks l D cI cS a s (va_up st (svPi pi sz (svQ sz) + 1) s) (svPi pi sz) (up2 mi 0 0 (nI (svQ sz + 1))) po n (by omega) _) (cwV 1 hts (gV tw554 tw551 tw552 tw553 tw3) rfl rfl rfl (by decide +kernel) ⟨Nat.le_of_ble_eq_true rfl, Nat.le_of_ble_eq_true rfl⟩) (pvW 1 hK hP hE (by decide) xc1 rfl) rfl rfl hl.1 rfl (lv_room (Nat.le_of_ble_eq_true rfl)) dX6_tick_40 ⟨Nat.le_of_ble_eq_true rfl, Nat.le_of_ble_eq_true rfl⟩) (fun r5 u6 H locs hr4 hP hS => ?_)
  subst hr4
  exact rw_ir hx hb hr rfl hlocks hS () hP rfl dX6_tick_43

set_option maxHeartbeats 4000000 in
set_option maxRecDepth 100000 in
theorem m_X6_vote (l : Launch) (D : va_G) (cI cS : ClassId) (a : Nat → Nat) (s : St) (st : Nat → St) (pi : Nat → Nat) (mi po : St) (sz : Nat) (hsz : sz ≤ 6) (hs0 : mi 0 0 = nI sz) (hpi : ∀ k, k < 6 → pi k < 6) (hw0 : ¬ sumN (s 7) 7 = 0) (zz : Nat) : Met l yX6_vote (.code yX6_vote cX6_vote 1 (some .int) :: wsA) ({ frames := 5, cells := 0, slots := 0, locals := 110 } : Room) (va_Pc [.ref (a 112)] (PW D cI cS 113 a (exC cI cS a s st pi mi po) zz)) (va_Qi (fun (r : Int32) (u : St) => r = voteS s 0 1) (BW D 113 a (fun u => exC cI cS a (voteS s) (va_up st (svPi pi sz (svQ sz) + 1) s) (svPi pi sz) (up2 mi 0 0 (nI (svQ sz + 1))) u)) (AX 113 a zz)) 0 0 (AX 113 a zz) := by
  refine mgo (by decide) (Nat.le_of_ble_eq_true rfl) ?_
  intro p e z m below meth c hx hb hr hml hown hts hlocks hB ls hl
  obtain ⟨hsz, hP, hK, hE⟩ := hB
  subst hsz
  have hS : va_S (AX 113 a z.heap.size) z.heap z.heap [] := va_S.rf
  have hl : lv_has ls 1 [(0, .ref (a 112))] := hl
  refine lv_aload_n hx hb dX6_vote_0 rfl (lv_at hl 0 rfl) ?_
  refine g_get hx hb hts hown inA6 hK hP 112 (by decide) xc112 rfl 0 (by decide) tw160 rfl (v := .ref (a 0)) rfl dX6_vote_1 ?_
  refine g_getN hx hb hts hown inA4 hK hP 0 (by decide) xc0 rfl 1 (by decide) tn89 rfl (v := .ref (a 8)) rfl dX6_vote_4 ?_
  refine ro_i (va_runV (As := []) (rest := []) ⟨hx, hb, hml, hown, hts⟩ (m_X5_weightSum l D cI cS a s st pi mi po) (cwV 0 hts (gV tw423 tw420 tw421 tw422 tw4) rfl rfl rfl (by decide +kernel) ⟨Nat.le_of_ble_eq_true rfl, Nat.le_of_ble_eq_true rfl⟩) (pvR 8 hK hP (by decide) xc8 rfl) rfl rfl hl.1 rfl (lv_room (Nat.le_of_ble_eq_true rfl)) dX6_vote_7 ⟨Nat.le_of_ble_eq_true rfl, Nat.le_of_ble_eq_true rfl⟩) (fun r2 hr1 => ?_)
  subst hr1
  refine lv_if_ne (tgt := 23) hx hb dX6_vote_10 (by decide) (fun _ => ?_) (fun h0 => absurd h0 hw0)
  refine lv_aload_n hx hb dX6_vote_23 rfl (lv_at hl 0 rfl) ?_
  refine g_get hx hb hts hown inA6 hK hP 112 (by decide) xc112 rfl 3 (by decide) tw163 rfl (v := .ref (a 104)) rfl dX6_vote_24 ?_
  refine lv_aload_n hx hb dX6_vote_27 rfl (lv_at hl 0 rfl) ?_
  refine g_get hx hb hts hown inA6 hK hP 112 (by decide) xc112 rfl 0 (by decide) tw160 rfl (v := .ref (a 0)) rfl dX6_vote_28 ?_
  refine rw_v hS (va_runV (As := [.ref (a 0)]) (rest := []) ⟨hx, hb, hml, hown, hts⟩ (m_X1_save l D cI cS a s st pi mi po sz (by omega) hs0 hpi _) (cwV 1 hts (gV tw186 tw183 tw184 tw185 tw5) rfl rfl rfl (by decide +kernel) ⟨Nat.le_of_ble_eq_true rfl, Nat.le_of_ble_eq_true rfl⟩) (pvW 104 hK hP hE (by decide) xc104 rfl) rfl rfl hl.1 rfl (lv_room (Nat.le_of_ble_eq_true rfl)) dX6_vote_31 ⟨Nat.le_of_ble_eq_true rfl, Nat.le_of_ble_eq_true rfl⟩) (fun u6 H locs hr4 hP hS => ?_)
  refine lv_aload_n hx hb dX6_vote_34 rfl (lv_at hl 0 rfl) ?_
  refine rw_v hS (va_runV (As := []) (rest := []) ⟨hx, hb, hml, hown, hts⟩ (m_X6_holdVote l D cI cS a s (va_up st (svPi pi sz (svQ sz) + 1) s) (svPi pi sz) (up2 mi 0 0 (nI (svQ sz + 1))) po _) (cwV 0 hts (gV tw586 tw583 tw585 ts19 tw1) rfl rfl rfl (by decide +kernel) ⟨Nat.le_of_ble_eq_true rfl, Nat.le_of_ble_eq_true rfl⟩) (pvW 112 hK hP hE (by decide) xc112 rfl) rfl rfl hl.1 rfl (lv_room (Nat.le_of_ble_eq_true rfl)) dX6_vote_35 ⟨Nat.le_of_ble_eq_true rfl, Nat.le_of_ble_eq_true rfl⟩) (fun u9 H locs hr7 hP hS => ?_)
  refine lv_aload_n hx hb dX6_vote_38 rfl (lv_at hl 0 rfl) ?_
  refine g_get hx hb hts hown inA6 hK hP 112 (by decide) xc112 rfl 0 (by decide) tw160 rfl (v := .ref (a 0)) rfl dX6_vote_39 ?_
  refine g_getN hx hb hts hown inA4 hK hP 0 (by decide) xc0 rfl 3 (by decide) tn93 rfl (v := .int ((voteS s) 0 1)) rfl dX6_vote_42 ?_
  exact rw_ir hx hb hr rfl hlocks hS u9 hP rfl dX6_vote_45

set_option maxHeartbeats 4000000 in
set_option maxRecDepth 100000 in
theorem m_X6_correct (l : Launch) (D : va_G) (cI cS : ClassId) (a : Nat → Nat) (s : St) (st : Nat → St) (pi : Nat → Nat) (mi po : St) (sz : Nat) (hsz : sz ≤ 6) (hs0 : mi 0 0 = nI sz) (hpi : ∀ k, k < 6 → pi k < 6) (zz : Nat) : Met l yX6_correct (.code yX6_correct cX6_correct 1 (some .int) :: wsA) ({ frames := 4, cells := 0, slots := 0, locals := 86 } : Room) (va_Pc [.ref (a 112)] (PW D cI cS 113 a (exC cI cS a s st pi mi po) zz)) (va_Qi (fun (r : Int32) (u : Unit) => r = corA 7 s) (BW D 113 a (fun u => exC cI cS a (corS 7 s) (va_up st (svPi pi sz (svQ sz) + 1) s) (svPi pi sz) (up2 mi 0 0 (nI (svQ sz + 1))) po)) (AX 113 a zz)) 0 0 (AX 113 a zz) := by
  refine mgo (by decide) (Nat.le_of_ble_eq_true rfl) ?_
  intro p e z m below meth c hx hb hr hml hown hts hlocks hB ls hl
  obtain ⟨hsz, hP, hK, hE⟩ := hB
  subst hsz
  have hS : va_S (AX 113 a z.heap.size) z.heap z.heap [] := va_S.rf
  have hl : lv_has ls 1 [(0, .ref (a 112))] := hl
  refine lv_aload_n hx hb dX6_correct_0 rfl (lv_at hl 0 rfl) ?_
  refine g_get hx hb hts hown inA6 hK hP 112 (by decide) xc112 rfl 3 (by decide) tw163 rfl (v := .ref (a 104)) rfl dX6_correct_1 ?_
  refine lv_aload_n hx hb dX6_correct_4 rfl (lv_at hl 0 rfl) ?_
  refine g_get hx hb hts hown inA6 hK hP 112 (by decide) xc112 rfl 0 (by decide) tw160 rfl (v := .ref (a 0)) rfl dX6_correct_5 ?_
  refine rw_v hS (va_runV (As := [.ref (a 0)]) (rest := []) ⟨hx, hb, hml, hown, hts⟩ (m_X1_save l D cI cS a s st pi mi po sz (by omega) hs0 hpi _) (cwV 1 hts (gV tw186 tw183 tw184 tw185 tw5) rfl rfl rfl (by decide +kernel) ⟨Nat.le_of_ble_eq_true rfl, Nat.le_of_ble_eq_true rfl⟩) (pvW 104 hK hP hE (by decide) xc104 rfl) rfl rfl hl.1 rfl (lv_room (Nat.le_of_ble_eq_true rfl)) dX6_correct_8 ⟨Nat.le_of_ble_eq_true rfl, Nat.le_of_ble_eq_true rfl⟩) (fun u3 H locs hr1 hP hS => ?_)
  refine lv_aload_n hx hb dX6_correct_11 rfl (lv_at hl 0 rfl) ?_
  refine g_get hx hb hts hown inA6 hK hP 112 (by decide) xc112 rfl 0 (by decide) tw160 rfl (v := .ref (a 0)) rfl dX6_correct_12 ?_
  refine rw_i hS (va_runV (As := []) (rest := []) ⟨hx, hb, hml, hown, hts⟩ (m_X4_correctDials l D cI cS a s (va_up st (svPi pi sz (svQ sz) + 1) s) (svPi pi sz) (up2 mi 0 0 (nI (svQ sz + 1))) po _) (cwV 0 hts (gV tw215 tw212 tw213 tw214 tw2) rfl rfl rfl (by decide +kernel) ⟨Nat.le_of_ble_eq_true rfl, Nat.le_of_ble_eq_true rfl⟩) (pvW 0 hK hP hE (by decide) xc0 rfl) rfl rfl hl.1 rfl (lv_room (Nat.le_of_ble_eq_true rfl)) dX6_correct_15 ⟨Nat.le_of_ble_eq_true rfl, Nat.le_of_ble_eq_true rfl⟩) (fun r5 u6 H locs hr4 hP hS => ?_)
  exact rw_ir hx hb hr rfl hlocks hS () hP hr4 dX6_correct_18

set_option maxHeartbeats 4000000 in
set_option maxRecDepth 100000 in
theorem m_X6_put (l : Launch) (D : va_G) (cI cS : ClassId) (a : Nat → Nat) (s : St) (st : Nat → St) (pi : Nat → Nat) (mi po : St) (sz : Nat) (hsz : sz ≤ 6) (hs0 : mi 0 0 = nI sz) (hpi : ∀ k, k < 6 → pi k < 6) (d : Nat) (hd : d < 7) (y : Int32) (hy0 : ¬ y < 0) (hy9 : y ≤ 99999) (zz : Nat) : Met l yX6_put (.code yX6_put cX6_put 4 (some .int) :: wsA) ({ frames := 4, cells := 0, slots := 0, locals := 86 } : Room) (va_Pc [.ref (a 112), .int (nI d), .int y] (PW D cI cS 113 a (exC cI cS a s st pi mi po) zz)) (va_Qi (fun (r : Int32) (u : Unit) => r = s 1 d) (BW D 113 a (fun u => exC cI cS a (mvS s d y) (va_up st (svPi pi sz (svQ sz) + 1) s) (svPi pi sz) (up2 mi 0 0 (nI (svQ sz + 1))) po)) (AX 113 a zz)) 0 0 (AX 113 a zz) := by
  refine mgo (by decide) (Nat.le_of_ble_eq_true rfl) ?_
  intro p e z m below meth c hx hb hr hml hown hts hlocks hB ls hl
  obtain ⟨hsz, hP, hK, hE⟩ := hB
  subst hsz
  have hS : va_S (AX 113 a z.heap.size) z.heap z.heap [] := va_S.rf
  have hl : lv_has ls 4 [(0, .ref (a 112)), (1, .int (nI d)), (2, .int y)] := hl
  refine lv_iload_n hx hb dX6_put_0 rfl (lv_at hl 1 rfl) ?_
  refine ro_v (va_runS (As := [.int (nI d)]) (rest := []) ⟨hx, hb, hml, hown, hts⟩ (m_X6_mustBeDial l d (by omega)) (va_cwS 1 hts (gS tw473 tw471 tw472 tw1) rfl rfl rfl (by decide +kernel) ⟨Nat.le_of_ble_eq_true rfl, Nat.le_of_ble_eq_true rfl⟩) ps0 rfl rfl hl.1 rfl (lv_room (Nat.le_of_ble_eq_true rfl)) dX6_put_1 ⟨Nat.le_of_ble_eq_true rfl, Nat.le_of_ble_eq_true rfl⟩) (fun hr1 => ?_)
  refine lv_iload_n hx hb dX6_put_4 rfl (lv_at hl 2 rfl) ?_
  refine lv_if_lt (tgt := 14) hx hb dX6_put_5 (by decide) (fun h0 => absurd h0 hy0) (fun _ => ?_)
  refine lv_iload_n hx hb dX6_put_8 rfl (lv_at hl 2 rfl) ?_
  refine lv_ldc hx hb hown (hts _ tw611) dX6_put_9 ?_
  refine lv_icmp_le (tgt := 24) hx hb dX6_put_11 (by decide) (fun _ => ?_) (fun h0 => absurd hy9 h0)
  refine lv_aload_n hx hb dX6_put_24 rfl (lv_at hl 0 rfl) ?_
  refine g_get hx hb hts hown inA6 hK hP 112 (by decide) xc112 rfl 3 (by decide) tw163 rfl (v := .ref (a 104)) rfl dX6_put_25 ?_
  refine lv_aload_n hx hb dX6_put_28 rfl (lv_at hl 0 rfl) ?_
  refine g_get hx hb hts hown inA6 hK hP 112 (by decide) xc112 rfl 0 (by decide) tw160 rfl (v := .ref (a 0)) rfl dX6_put_29 ?_
  refine rw_v hS (va_runV (As := [.ref (a 0)]) (rest := []) ⟨hx, hb, hml, hown, hts⟩ (m_X1_save l D cI cS a s st pi mi po sz (by omega) hs0 hpi _) (cwV 1 hts (gV tw186 tw183 tw184 tw185 tw5) rfl rfl rfl (by decide +kernel) ⟨Nat.le_of_ble_eq_true rfl, Nat.le_of_ble_eq_true rfl⟩) (pvW 104 hK hP hE (by decide) xc104 rfl) rfl rfl hl.1 rfl (lv_room (Nat.le_of_ble_eq_true rfl)) dX6_put_32 ⟨Nat.le_of_ble_eq_true rfl, Nat.le_of_ble_eq_true rfl⟩) (fun u6 H locs hr4 hP hS => ?_)
  refine lv_aload_n hx hb dX6_put_35 rfl (lv_at hl 0 rfl) ?_
  refine g_get hx hb hts hown inA6 hK hP 112 (by decide) xc112 rfl 0 (by decide) tw160 rfl (v := .ref (a 0)) rfl dX6_put_36 ?_
  refine g_getN hx hb hts hown inA4 hK hP 0 (by decide) xc0 rfl 0 (by decide) tn86 rfl (v := .ref (a 1)) rfl dX6_put_39 ?_
  refine g_getN hx hb hts hown inA0 hK hP 1 (by decide) xc1 rfl 1 (by decide) tn39 rfl (v := .ref (a 2)) rfl dX6_put_42 ?_
  refine lv_iload_n hx hb dX6_put_45 rfl (lv_at hl 1 rfl) ?_
  refine g_iald hx hb hK hP 2 (by decide) xc2 d rfl (by omega) (by decide) dX6_put_46 (v := s 1 d) rfl ?_
  refine lv_istore_n (lv' := [(3, .int (s 1 d)), (0, .ref (a 112)), (1, .int (nI d)), (2, .int y)]) hx hb dX6_put_47 rfl hl (by decide) rfl (fun ls hl => ?_)
  refine lv_aload_n hx hb dX6_put_48 rfl (lv_at hl 1 rfl) ?_
  refine g_get hx hb hts hown inA6 hK hP 112 (by decide) xc112 rfl 0 (by decide) tw160 rfl (v := .ref (a 0)) rfl dX6_put_49 ?_
  refine g_getN hx hb hts hown inA4 hK hP 0 (by decide) xc0 rfl 0 (by decide) tn86 rfl (v := .ref (a 1)) rfl dX6_put_52 ?_
  refine lv_iload_n hx hb dX6_put_55 rfl (lv_at hl 2 rfl) ?_
  refine lv_iload_n hx hb dX6_put_56 rfl (lv_at hl 3 rfl) ?_
  refine rw_i hS (va_runV (As := [.int (nI d), .int y]) (rest := []) ⟨hx, hb, hml, hown, hts⟩ (m_X0_moveTo l D cI cS a s (va_up st (svPi pi sz (svQ sz) + 1) s) (svPi pi sz) (up2 mi 0 0 (nI (svQ sz + 1))) po d (by omega) y _) (cwV 2 hts (gV tw230 tw613 tw228 tw229 tw3) rfl rfl rfl (by decide +kernel) ⟨Nat.le_of_ble_eq_true rfl, Nat.le_of_ble_eq_true rfl⟩) (pvW 1 hK hP hE (by decide) xc1 rfl) rfl rfl hl.1 rfl (lv_room (Nat.le_of_ble_eq_true rfl)) dX6_put_57 ⟨Nat.le_of_ble_eq_true rfl, Nat.le_of_ble_eq_true rfl⟩) (fun r8 u9 H locs hr7 hP hS => ?_)
  subst hr7
  refine lv_pop hx hb dX6_put_60 rfl ?_
  refine lv_iload_n hx hb dX6_put_61 rfl (lv_at hl 0 rfl) ?_
  exact rw_ir hx hb hr rfl hlocks hS () hP rfl dX6_put_62

set_option maxHeartbeats 4000000 in
set_option maxRecDepth 100000 in
theorem m_X6_drift (l : Launch) (D : va_G) (cI cS : ClassId) (a : Nat → Nat) (s : St) (st : Nat → St) (pi : Nat → Nat) (mi po : St) (sz : Nat) (hsz : sz ≤ 6) (hs0 : mi 0 0 = nI sz) (hpi : ∀ k, k < 6 → pi k < 6) (d : Nat) (hd : d < 7) (y : Int32) (hy0 : ¬ y < (-5)) (hy9 : y ≤ 5) (zz : Nat) : Met l yX6_drift (.code yX6_drift cX6_drift 4 (some .int) :: wsA) ({ frames := 4, cells := 0, slots := 0, locals := 86 } : Room) (va_Pc [.ref (a 112), .int (nI d), .int y] (PW D cI cS 113 a (exC cI cS a s st pi mi po) zz)) (va_Qi (fun (r : Int32) (u : Unit) => r = s 2 d) (BW D 113 a (fun u => exC cI cS a (up2 s 2 d y) (va_up st (svPi pi sz (svQ sz) + 1) s) (svPi pi sz) (up2 mi 0 0 (nI (svQ sz + 1))) po)) (AX 113 a zz)) 0 0 (AX 113 a zz) := by
  refine mgo (by decide) (Nat.le_of_ble_eq_true rfl) ?_
  intro p e z m below meth c hx hb hr hml hown hts hlocks hB ls hl
  obtain ⟨hsz, hP, hK, hE⟩ := hB
  subst hsz
  have hS : va_S (AX 113 a z.heap.size) z.heap z.heap [] := va_S.rf
  have hl : lv_has ls 4 [(0, .ref (a 112)), (1, .int (nI d)), (2, .int y)] := hl
  refine lv_iload_n hx hb dX6_drift_0 rfl (lv_at hl 1 rfl) ?_
  refine ro_v (va_runS (As := [.int (nI d)]) (rest := []) ⟨hx, hb, hml, hown, hts⟩ (m_X6_mustBeDial l d (by omega)) (va_cwS 1 hts (gS tw473 tw471 tw472 tw1) rfl rfl rfl (by decide +kernel) ⟨Nat.le_of_ble_eq_true rfl, Nat.le_of_ble_eq_true rfl⟩) ps0 rfl rfl hl.1 rfl (lv_room (Nat.le_of_ble_eq_true rfl)) dX6_drift_1 ⟨Nat.le_of_ble_eq_true rfl, Nat.le_of_ble_eq_true rfl⟩) (fun hr1 => ?_)
  refine lv_iload_n hx hb dX6_drift_4 rfl (lv_at hl 2 rfl) ?_
  refine lv_bipush (v := (-5)) hx hb dX6_drift_5 (by decide) ?_
  refine lv_icmp_lt (tgt := 15) hx hb dX6_drift_7 (by decide) (fun h0 => absurd h0 hy0) (fun _ => ?_)
  refine lv_iload_n hx hb dX6_drift_10 rfl (lv_at hl 2 rfl) ?_
  refine lv_iconst (v := 5) hx hb dX6_drift_11 (by decide) ?_
  refine lv_icmp_le (tgt := 25) hx hb dX6_drift_12 (by decide) (fun _ => ?_) (fun h0 => absurd hy9 h0)
  refine lv_aload_n hx hb dX6_drift_25 rfl (lv_at hl 0 rfl) ?_
  refine g_get hx hb hts hown inA6 hK hP 112 (by decide) xc112 rfl 3 (by decide) tw163 rfl (v := .ref (a 104)) rfl dX6_drift_26 ?_
  refine lv_aload_n hx hb dX6_drift_29 rfl (lv_at hl 0 rfl) ?_
  refine g_get hx hb hts hown inA6 hK hP 112 (by decide) xc112 rfl 0 (by decide) tw160 rfl (v := .ref (a 0)) rfl dX6_drift_30 ?_
  refine rw_v hS (va_runV (As := [.ref (a 0)]) (rest := []) ⟨hx, hb, hml, hown, hts⟩ (m_X1_save l D cI cS a s st pi mi po sz (by omega) hs0 hpi _) (cwV 1 hts (gV tw186 tw183 tw184 tw185 tw5) rfl rfl rfl (by decide +kernel) ⟨Nat.le_of_ble_eq_true rfl, Nat.le_of_ble_eq_true rfl⟩) (pvW 104 hK hP hE (by decide) xc104 rfl) rfl rfl hl.1 rfl (lv_room (Nat.le_of_ble_eq_true rfl)) dX6_drift_33 ⟨Nat.le_of_ble_eq_true rfl, Nat.le_of_ble_eq_true rfl⟩) (fun u6 H locs hr4 hP hS => ?_)
  refine lv_aload_n hx hb dX6_drift_36 rfl (lv_at hl 0 rfl) ?_
  refine g_get hx hb hts hown inA6 hK hP 112 (by decide) xc112 rfl 0 (by decide) tw160 rfl (v := .ref (a 0)) rfl dX6_drift_37 ?_
  refine g_getN hx hb hts hown inA4 hK hP 0 (by decide) xc0 rfl 0 (by decide) tn86 rfl (v := .ref (a 1)) rfl dX6_drift_40 ?_
  refine g_getN hx hb hts hown inA0 hK hP 1 (by decide) xc1 rfl 2 (by decide) tn41 rfl (v := .ref (a 3)) rfl dX6_drift_43 ?_
  refine lv_iload_n hx hb dX6_drift_46 rfl (lv_at hl 1 rfl) ?_
  refine g_iald hx hb hK hP 3 (by decide) xc3 d rfl (by omega) (by decide) dX6_drift_47 (v := s 2 d) rfl ?_
  refine lv_istore_n (lv' := [(3, .int (s 2 d)), (0, .ref (a 112)), (1, .int (nI d)), (2, .int y)]) hx hb dX6_drift_48 rfl hl (by decide) rfl (fun ls hl => ?_)
  refine lv_aload_n hx hb dX6_drift_49 rfl (lv_at hl 1 rfl) ?_
  refine g_get hx hb hts hown inA6 hK hP 112 (by decide) xc112 rfl 0 (by decide) tw160 rfl (v := .ref (a 0)) rfl dX6_drift_50 ?_
  refine g_getN hx hb hts hown inA4 hK hP 0 (by decide) xc0 rfl 0 (by decide) tn86 rfl (v := .ref (a 1)) rfl dX6_drift_53 ?_
  refine lv_iload_n hx hb dX6_drift_56 rfl (lv_at hl 2 rfl) ?_
  refine lv_iload_n hx hb dX6_drift_57 rfl (lv_at hl 3 rfl) ?_
  refine rw_v hS (va_runV (As := [.int (nI d), .int y]) (rest := []) ⟨hx, hb, hml, hown, hts⟩ (m_X0_changeDrift l D cI cS a s (va_up st (svPi pi sz (svQ sz) + 1) s) (svPi pi sz) (up2 mi 0 0 (nI (svQ sz + 1))) po d (by omega) y _) (cwV 2 hts (gV tw625 tw622 tw623 tw624 tw3) rfl rfl rfl (by decide +kernel) ⟨Nat.le_of_ble_eq_true rfl, Nat.le_of_ble_eq_true rfl⟩) (pvW 1 hK hP hE (by decide) xc1 rfl) rfl rfl hl.1 rfl (lv_room (Nat.le_of_ble_eq_true rfl)) dX6_drift_58 ⟨Nat.le_of_ble_eq_true rfl, Nat.le_of_ble_eq_true rfl⟩) (fun u9 H locs hr7 hP hS => ?_)
  refine lv_iload_n hx hb dX6_drift_61 rfl (lv_at hl 0 rfl) ?_
  exact rw_ir hx hb hr rfl hlocks hS () hP rfl dX6_drift_62

set_option maxHeartbeats 4000000 in
set_option maxRecDepth 100000 in
theorem m_X6_warden (l : Launch) (D : va_G) (cI cS : ClassId) (a : Nat → Nat) (s : St) (st : Nat → St) (pi : Nat → Nat) (mi po : St) (sz : Nat) (hsz : sz ≤ 6) (hs0 : mi 0 0 = nI sz) (hpi : ∀ k, k < 6 → pi k < 6) (w : Nat) (hw : w < 7) (x y : Int32) (hx0 : ¬ x < 0) (hx9 : x ≤ 9) (hy0 : ¬ y < (-60)) (hy9 : y ≤ 60) (zz : Nat) : Met l yX6_warden (.code yX6_warden cX6_warden 5 (some .int) :: wsA) ({ frames := 4, cells := 0, slots := 0, locals := 86 } : Room) (va_Pc [.ref (a 112), .int (nI w), .int x, .int y] (PW D cI cS 113 a (exC cI cS a s st pi mi po) zz)) (va_Qi (fun (r : Int32) (u : Unit) => r = s 7 w) (BW D 113 a (fun u => exC cI cS a (up2 (up2 s 7 w x) 8 w y) (va_up st (svPi pi sz (svQ sz) + 1) s) (svPi pi sz) (up2 mi 0 0 (nI (svQ sz + 1))) po)) (AX 113 a zz)) 0 0 (AX 113 a zz) := by
  refine mgo (by decide) (Nat.le_of_ble_eq_true rfl) ?_
  intro p e z m below meth c hx hb hr hml hown hts hlocks hB ls hl
  obtain ⟨hsz, hP, hK, hE⟩ := hB
  subst hsz
  have hS : va_S (AX 113 a z.heap.size) z.heap z.heap [] := va_S.rf
  have hl : lv_has ls 5 [(0, .ref (a 112)), (1, .int (nI w)), (2, .int x), (3, .int y)] := hl
  refine lv_iload_n hx hb dX6_warden_0 rfl (lv_at hl 1 rfl) ?_
  refine ro_v (va_runS (As := [.int (nI w)]) (rest := []) ⟨hx, hb, hml, hown, hts⟩ (m_X6_mustBeDial l w (by omega)) (va_cwS 1 hts (gS tw473 tw471 tw472 tw1) rfl rfl rfl (by decide +kernel) ⟨Nat.le_of_ble_eq_true rfl, Nat.le_of_ble_eq_true rfl⟩) ps0 rfl rfl hl.1 rfl (lv_room (Nat.le_of_ble_eq_true rfl)) dX6_warden_1 ⟨Nat.le_of_ble_eq_true rfl, Nat.le_of_ble_eq_true rfl⟩) (fun hr1 => ?_)
  refine lv_iload_n hx hb dX6_warden_4 rfl (lv_at hl 2 rfl) ?_
  refine lv_if_lt (tgt := 14) hx hb dX6_warden_5 (by decide) (fun h0 => absurd h0 hx0) (fun _ => ?_)
  refine lv_iload_n hx hb dX6_warden_8 rfl (lv_at hl 2 rfl) ?_
  refine lv_bipush (v := 9) hx hb dX6_warden_9 (by decide) ?_
  refine lv_icmp_le (tgt := 24) hx hb dX6_warden_11 (by decide) (fun _ => ?_) (fun h0 => absurd hx9 h0)
  refine lv_iload_n hx hb dX6_warden_24 rfl (lv_at hl 3 rfl) ?_
  refine lv_bipush (v := (-60)) hx hb dX6_warden_25 (by decide) ?_
  refine lv_icmp_lt (tgt := 36) hx hb dX6_warden_27 (by decide) (fun h0 => absurd h0 hy0) (fun _ => ?_)
  refine lv_iload_n hx hb dX6_warden_30 rfl (lv_at hl 3 rfl) ?_
  refine lv_bipush (v := 60) hx hb dX6_warden_31 (by decide) ?_
  refine lv_icmp_le (tgt := 46) hx hb dX6_warden_33 (by decide) (fun _ => ?_) (fun h0 => absurd hy9 h0)
  refine lv_aload_n hx hb dX6_warden_46 rfl (lv_at hl 0 rfl) ?_
  refine g_get hx hb hts hown inA6 hK hP 112 (by decide) xc112 rfl 3 (by decide) tw163 rfl (v := .ref (a 104)) rfl dX6_warden_47 ?_
  refine lv_aload_n hx hb dX6_warden_50 rfl (lv_at hl 0 rfl) ?_
  refine g_get hx hb hts hown inA6 hK hP 112 (by decide) xc112 rfl 0 (by decide) tw160 rfl (v := .ref (a 0)) rfl dX6_warden_51 ?_
  refine rw_v hS (va_runV (As := [.ref (a 0)]) (rest := []) ⟨hx, hb, hml, hown, hts⟩ (m_X1_save l D cI cS a s st pi mi po sz (by omega) hs0 hpi _) (cwV 1 hts (gV tw186 tw183 tw184 tw185 tw5) rfl rfl rfl (by decide +kernel) ⟨Nat.le_of_ble_eq_true rfl, Nat.le_of_ble_eq_true rfl⟩) (pvW 104 hK hP hE (by decide) xc104 rfl) rfl rfl hl.1 rfl (lv_room (Nat.le_of_ble_eq_true rfl)) dX6_warden_54 ⟨Nat.le_of_ble_eq_true rfl, Nat.le_of_ble_eq_true rfl⟩) (fun u6 H locs hr4 hP hS => ?_)
  refine lv_aload_n hx hb dX6_warden_57 rfl (lv_at hl 0 rfl) ?_
  refine g_get hx hb hts hown inA6 hK hP 112 (by decide) xc112 rfl 0 (by decide) tw160 rfl (v := .ref (a 0)) rfl dX6_warden_58 ?_
  refine g_getN hx hb hts hown inA4 hK hP 0 (by decide) xc0 rfl 1 (by decide) tn89 rfl (v := .ref (a 8)) rfl dX6_warden_61 ?_
  refine g_getN hx hb hts hown inA5 hK hP 8 (by decide) xc8 rfl 0 (by decide) tn73 rfl (v := .ref (a 9)) rfl dX6_warden_64 ?_
  refine lv_iload_n hx hb dX6_warden_67 rfl (lv_at hl 1 rfl) ?_
  refine g_iald hx hb hK hP 9 (by decide) xc9 w rfl (by omega) (by decide) dX6_warden_68 (v := s 7 w) rfl ?_
  refine lv_istore (lv' := [(4, .int (s 7 w)), (0, .ref (a 112)), (1, .int (nI w)), (2, .int x), (3, .int y)]) hx hb dX6_warden_69 hl (by decide) rfl (fun ls hl => ?_)
  refine lv_aload_n hx hb dX6_warden_71 rfl (lv_at hl 1 rfl) ?_
  refine g_get hx hb hts hown inA6 hK hP 112 (by decide) xc112 rfl 0 (by decide) tw160 rfl (v := .ref (a 0)) rfl dX6_warden_72 ?_
  refine g_getN hx hb hts hown inA4 hK hP 0 (by decide) xc0 rfl 1 (by decide) tn89 rfl (v := .ref (a 8)) rfl dX6_warden_75 ?_
  refine g_getN hx hb hts hown inA5 hK hP 8 (by decide) xc8 rfl 0 (by decide) tn73 rfl (v := .ref (a 9)) rfl dX6_warden_78 ?_
  refine lv_iload_n hx hb dX6_warden_81 rfl (lv_at hl 2 rfl) ?_
  refine lv_iload_n hx hb dX6_warden_82 rfl (lv_at hl 3 rfl) ?_
  refine g_iast hx hb hK hP hE hS 9 (by decide) xc9 w rfl (by omega) (by omega) dX6_warden_83 (ex' := exC cI cS a (up2 s 7 w x) (va_up st (svPi pi sz (svQ sz) + 1) s) (svPi pi sz) (up2 mi 0 0 (nI (svQ sz + 1))) po) rfl (xo_row (by decide) (by decide)) (fun H locs hP hS => ?_)
  refine lv_aload_n hx hb dX6_warden_84 rfl (lv_at hl 1 rfl) ?_
  refine g_get hx hb hts hown inA6 hK hP 112 (by decide) xc112 rfl 0 (by decide) tw160 rfl (v := .ref (a 0)) rfl dX6_warden_85 ?_
  refine g_getN hx hb hts hown inA4 hK hP 0 (by decide) xc0 rfl 1 (by decide) tn89 rfl (v := .ref (a 8)) rfl dX6_warden_88 ?_
  refine g_getN hx hb hts hown inA5 hK hP 8 (by decide) xc8 rfl 1 (by decide) tn75 rfl (v := .ref (a 10)) rfl dX6_warden_91 ?_
  refine lv_iload_n hx hb dX6_warden_94 rfl (lv_at hl 2 rfl) ?_
  refine lv_iload_n hx hb dX6_warden_95 rfl (lv_at hl 4 rfl) ?_
  refine g_iast hx hb hK hP hE hS 10 (by decide) xc10 w rfl (by omega) (by omega) dX6_warden_96 (ex' := exC cI cS a (up2 (up2 s 7 w x) 8 w y) (va_up st (svPi pi sz (svQ sz) + 1) s) (svPi pi sz) (up2 mi 0 0 (nI (svQ sz + 1))) po) rfl (xo_row (by decide) (by decide)) (fun H locs hP hS => ?_)
  refine lv_iload hx hb dX6_warden_97 (lv_at hl 0 rfl) ?_
  exact rw_ir hx hb hr rfl hlocks hS () hP rfl dX6_warden_99

set_option maxHeartbeats 4000000 in
set_option maxRecDepth 100000 in
theorem m_X6_set (l : Launch) (D : va_G) (cI cS : ClassId) (a : Nat → Nat) (s : St) (st : Nat → St) (pi : Nat → Nat) (mi po : St) (sz : Nat) (hsz : sz ≤ 6) (hs0 : mi 0 0 = nI sz) (hpi : ∀ k, k < 6 → pi k < 6) (q : Nat) (hq : q < 2) (y : Int32) (hy0 : ¬ y < 0) (hy9 : y ≤ 99) (zz : Nat) : Met l yX6_set (.code yX6_set cX6_set 4 (some .int) :: wsA) ({ frames := 4, cells := 0, slots := 0, locals := 86 } : Room) (va_Pc [.ref (a 112), .int (nI q), .int y] (PW D cI cS 113 a (exC cI cS a s st pi mi po) zz)) (va_Qi (fun (r : Int32) (u : Unit) => r = s 10 q) (BW D 113 a (fun u => exC cI cS a (up2 s 10 q y) (va_up st (svPi pi sz (svQ sz) + 1) s) (svPi pi sz) (up2 mi 0 0 (nI (svQ sz + 1))) po)) (AX 113 a zz)) 0 0 (AX 113 a zz) := by
  refine mgo (by decide) (Nat.le_of_ble_eq_true rfl) ?_
  intro p e z m below meth c hx hb hr hml hown hts hlocks hB ls hl
  obtain ⟨hsz, hP, hK, hE⟩ := hB
  subst hsz
  have hS : va_S (AX 113 a z.heap.size) z.heap z.heap [] := va_S.rf
  have hl : lv_has ls 4 [(0, .ref (a 112)), (1, .int (nI q)), (2, .int y)] := hl
  refine lv_iload_n hx hb dX6_set_0 rfl (lv_at hl 1 rfl) ?_
  refine ro_v (va_runS (As := [.int (nI q)]) (rest := []) ⟨hx, hb, hml, hown, hts⟩ (m_X6_mustBeSetting l q (by omega)) (va_cwS 1 hts (gS tw644 tw642 tw643 tw1) rfl rfl rfl (by decide +kernel) ⟨Nat.le_of_ble_eq_true rfl, Nat.le_of_ble_eq_true rfl⟩) ps0 rfl rfl hl.1 rfl (lv_room (Nat.le_of_ble_eq_true rfl)) dX6_set_1 ⟨Nat.le_of_ble_eq_true rfl, Nat.le_of_ble_eq_true rfl⟩) (fun hr1 => ?_)
  refine lv_iload_n hx hb dX6_set_4 rfl (lv_at hl 2 rfl) ?_
  refine lv_if_lt (tgt := 14) hx hb dX6_set_5 (by decide) (fun h0 => absurd h0 hy0) (fun _ => ?_)
  refine lv_iload_n hx hb dX6_set_8 rfl (lv_at hl 2 rfl) ?_
  refine lv_bipush (v := 99) hx hb dX6_set_9 (by decide) ?_
  refine lv_icmp_le (tgt := 24) hx hb dX6_set_11 (by decide) (fun _ => ?_) (fun h0 => absurd hy9 h0)
  refine lv_aload_n hx hb dX6_set_24 rfl (lv_at hl 0 rfl) ?_
  refine g_get hx hb hts hown inA6 hK hP 112 (by decide) xc112 rfl 3 (by decide) tw163 rfl (v := .ref (a 104)) rfl dX6_set_25 ?_
  refine lv_aload_n hx hb dX6_set_28 rfl (lv_at hl 0 rfl) ?_
  refine g_get hx hb hts hown inA6 hK hP 112 (by decide) xc112 rfl 0 (by decide) tw160 rfl (v := .ref (a 0)) rfl dX6_set_29 ?_
  refine rw_v hS (va_runV (As := [.ref (a 0)]) (rest := []) ⟨hx, hb, hml, hown, hts⟩ (m_X1_save l D cI cS a s st pi mi po sz (by omega) hs0 hpi _) (cwV 1 hts (gV tw186 tw183 tw184 tw185 tw5) rfl rfl rfl (by decide +kernel) ⟨Nat.le_of_ble_eq_true rfl, Nat.le_of_ble_eq_true rfl⟩) (pvW 104 hK hP hE (by decide) xc104 rfl) rfl rfl hl.1 rfl (lv_room (Nat.le_of_ble_eq_true rfl)) dX6_set_32 ⟨Nat.le_of_ble_eq_true rfl, Nat.le_of_ble_eq_true rfl⟩) (fun u6 H locs hr4 hP hS => ?_)
  refine lv_aload_n hx hb dX6_set_35 rfl (lv_at hl 0 rfl) ?_
  refine g_get hx hb hts hown inA6 hK hP 112 (by decide) xc112 rfl 0 (by decide) tw160 rfl (v := .ref (a 0)) rfl dX6_set_36 ?_
  refine g_getN hx hb hts hown inA4 hK hP 0 (by decide) xc0 rfl 2 (by decide) tn91 rfl (v := .ref (a 12)) rfl dX6_set_39 ?_
  refine lv_iload_n hx hb dX6_set_42 rfl (lv_at hl 1 rfl) ?_
  refine g_iald hx hb hK hP 12 (by decide) xc12 q rfl (by omega) (by decide) dX6_set_43 (v := s 10 q) rfl ?_
  refine lv_istore_n (lv' := [(3, .int (s 10 q)), (0, .ref (a 112)), (1, .int (nI q)), (2, .int y)]) hx hb dX6_set_44 rfl hl (by decide) rfl (fun ls hl => ?_)
  refine lv_aload_n hx hb dX6_set_45 rfl (lv_at hl 1 rfl) ?_
  refine g_get hx hb hts hown inA6 hK hP 112 (by decide) xc112 rfl 0 (by decide) tw160 rfl (v := .ref (a 0)) rfl dX6_set_46 ?_
  refine g_getN hx hb hts hown inA4 hK hP 0 (by decide) xc0 rfl 2 (by decide) tn91 rfl (v := .ref (a 12)) rfl dX6_set_49 ?_
  refine lv_iload_n hx hb dX6_set_52 rfl (lv_at hl 2 rfl) ?_
  refine lv_iload_n hx hb dX6_set_53 rfl (lv_at hl 3 rfl) ?_
  refine g_iast hx hb hK hP hE hS 12 (by decide) xc12 q rfl (by omega) (by omega) dX6_set_54 (ex' := exC cI cS a (up2 s 10 q y) (va_up st (svPi pi sz (svQ sz) + 1) s) (svPi pi sz) (up2 mi 0 0 (nI (svQ sz + 1))) po) rfl (xo_row (by decide) (by decide)) (fun H locs hP hS => ?_)
  refine lv_iload_n hx hb dX6_set_55 rfl (lv_at hl 0 rfl) ?_
  exact rw_ir hx hb hr rfl hlocks hS () hP rfl dX6_set_56

set_option maxHeartbeats 4000000 in
set_option maxRecDepth 100000 in
theorem m_X2_add (l : Launch) (D : va_G) (cI cS : ClassId) (a : Nat → Nat) (s : St) (st : Nat → St) (pi : Nat → Nat) (mi po : St) (ln : Nat) (hln : ln ≤ 60) (hl0 : mi 0 1 = nI ln) (hl6 : ln < 60) (x : Int32) (zz : Nat) : Met l yX2_add (.code yX2_add cX2_add 2 none :: wsA) ({ frames := 0, cells := 0, slots := 0, locals := 0 } : Room) (va_Pc [.ref (a 106), .int x] (PW D cI cS 113 a (exC cI cS a s st pi mi po) zz)) (va_Qv (fun (u : Unit) => True) (BW D 113 a (fun u => exC cI cS a s st pi (up2 (up2 mi 1 ln x) 0 1 (nI (ln + 1))) po)) (AX 113 a zz)) 0 0 (AX 113 a zz) := by
  refine mgo (by decide) (Nat.le_of_ble_eq_true rfl) ?_
  intro p e z m below meth c hx hb hr hml hown hts hlocks hB ls hl
  obtain ⟨hsz, hP, hK, hE⟩ := hB
  subst hsz
  have hS : va_S (AX 113 a z.heap.size) z.heap z.heap [] := va_S.rf
  have hl : lv_has ls 2 [(0, .ref (a 106)), (1, .int x)] := hl
  refine lv_aload_n hx hb dX2_add_0 rfl (lv_at hl 0 rfl) ?_
  refine g_get hx hb hts hown inA2 hK hP 106 (by decide) xc106 rfl 1 (by decide) tw135 rfl (v := .int (mi 0 1)) rfl dX2_add_1 ?_
  refine lv_if_lt (tgt := 39) hx hb dX2_add_4 (by decide) (fun h0 => absurd h0 (fun h => by have := (nI_lt2 (p := ln) (q := 0) hl0 rfl (by omega) (by omega)).mp h; omega)) (fun _ => ?_)
  refine lv_aload_n hx hb dX2_add_7 rfl (lv_at hl 0 rfl) ?_
  refine g_get hx hb hts hown inA2 hK hP 106 (by decide) xc106 rfl 1 (by decide) tw135 rfl (v := .int (mi 0 1)) rfl dX2_add_8 ?_
  refine lv_aload_n hx hb dX2_add_11 rfl (lv_at hl 0 rfl) ?_
  refine g_get hx hb hts hown inA2 hK hP 106 (by decide) xc106 rfl 0 (by decide) tw134 rfl (v := .ref (a 107)) rfl dX2_add_12 ?_
  refine g_alen hx hb hK hP 107 (by decide) xc107 (v := 60) (by decide) dX2_add_15 ?_
  refine lv_icmp_ge (tgt := 39) hx hb dX2_add_16 (by decide) (fun h0 => absurd h0 (fun h => by have := (nI_le2 (p := 60) (q := ln) rfl hl0 (by omega) (by omega)).mp h; omega)) (fun _ => ?_)
  refine lv_aload_n hx hb dX2_add_19 rfl (lv_at hl 0 rfl) ?_
  refine g_get hx hb hts hown inA2 hK hP 106 (by decide) xc106 rfl 0 (by decide) tw134 rfl (v := .ref (a 107)) rfl dX2_add_20 ?_
  refine lv_aload_n hx hb dX2_add_23 rfl (lv_at hl 0 rfl) ?_
  refine g_get hx hb hts hown inA2 hK hP 106 (by decide) xc106 rfl 1 (by decide) tw135 rfl (v := .int (mi 0 1)) rfl dX2_add_24 ?_
  refine lv_iload_n hx hb dX2_add_27 rfl (lv_at hl 1 rfl) ?_
  refine g_iast hx hb hK hP hE hS 107 (by decide) xc107 ln hl0 (by omega) (by omega) dX2_add_28 (ex' := exC cI cS a s st pi (up2 mi 1 ln x) po) rfl xo_codes (fun H locs hP hS => ?_)
  refine lv_aload_n hx hb dX2_add_29 rfl (lv_at hl 0 rfl) ?_
  refine lv_dup hx hb dX2_add_30 rfl ?_
  refine g_get hx hb hts hown inA2 hK hP 106 (by decide) xc106 rfl 1 (by decide) tw135 rfl (v := .int (mi 0 1)) rfl dX2_add_31 ?_
  refine lv_iconst (v := 1) hx hb dX2_add_34 (by decide) ?_
  refine lv_iadd hx hb dX2_add_35 ?_
  refine lv_as (y := nI (ln + 1)) (nI_add2 (p := ln) (q := 1) hl0 rfl) ?_
  refine g_put hx hb hts hown inA2 tyX2 tyX2_ok nmX2 hK hP hE hS 106 (by decide) xc106 rfl 1 (by decide) tw135 rfl rfl (ty := .int) (by decide +kernel) rfl rfl (Nat.le_of_ble_eq_true rfl) dX2_add_36 (ex' := exC cI cS a s st pi (up2 (up2 mi 1 ln x) 0 1 (nI (ln + 1))) po) rfl (xo_mi (by decide)) (fun H locs hP hS => ?_)
  exact rw_vr hx hb hr hlocks hS () hP trivial dX2_add_39

set_option maxHeartbeats 4000000 in
set_option maxRecDepth 100000 in
theorem m_X2_empty (l : Launch) (D : va_G) (cI cS : ClassId) (a : Nat → Nat) (s : St) (st : Nat → St) (pi : Nat → Nat) (mi po : St) (ln : Nat) (hln : ln ≤ 60) (hl0 : mi 0 1 = nI ln) (zz : Nat) : Met l yX2_empty (.code yX2_empty cX2_empty 1 none :: wsA) ({ frames := 0, cells := 0, slots := 0, locals := 0 } : Room) (va_Pc [.ref (a 106)] (PW D cI cS 113 a (exC cI cS a s st pi mi po) zz)) (va_Qv (fun (u : Unit) => True) (BW D 113 a (fun u => exC cI cS a s st pi (up2 mi 0 1 0) po)) (AX 113 a zz)) 0 0 (AX 113 a zz) := by
  refine mgo (by decide) (Nat.le_of_ble_eq_true rfl) ?_
  intro p e z m below meth c hx hb hr hml hown hts hlocks hB ls hl
  obtain ⟨hsz, hP, hK, hE⟩ := hB
  subst hsz
  have hS : va_S (AX 113 a z.heap.size) z.heap z.heap [] := va_S.rf
  have hl : lv_has ls 1 [(0, .ref (a 106))] := hl
  refine lv_aload_n hx hb dX2_empty_0 rfl (lv_at hl 0 rfl) ?_
  refine lv_iconst (v := 0) hx hb dX2_empty_1 (by decide) ?_
  refine g_put hx hb hts hown inA2 tyX2 tyX2_ok nmX2 hK hP hE hS 106 (by decide) xc106 rfl 1 (by decide) tw135 rfl rfl (ty := .int) (by decide +kernel) rfl rfl (Nat.le_of_ble_eq_true rfl) dX2_empty_2 (ex' := exC cI cS a s st pi (up2 mi 0 1 0) po) rfl (xo_mi (by decide)) (fun H locs hP hS => ?_)
  exact rw_vr hx hb hr hlocks hS () hP trivial dX2_empty_5

set_option maxHeartbeats 4000000 in
set_option maxRecDepth 100000 in
theorem m_X6_append (l : Launch) (D : va_G) (cI cS : ClassId) (a : Nat → Nat) (s : St) (st : Nat → St) (pi : Nat → Nat) (mi po : St) (ln : Nat) (hln : ln ≤ 60) (hl0 : mi 0 1 = nI ln) (hl6 : ln < 60) (x : Int32) (hx0 : ¬ x < 33) (hx9 : x ≤ 126) (zz : Nat) : Met l yX6_append (.code yX6_append cX6_append 2 (some .int) :: wsA) ({ frames := 1, cells := 0, slots := 0, locals := 21 } : Room) (va_Pc [.ref (a 112), .int x] (PW D cI cS 113 a (exC cI cS a s st pi mi po) zz)) (va_Qi (fun (r : Int32) (u : Unit) => r = nI (ln + 1)) (BW D 113 a (fun u => exC cI cS a s st pi (up2 (up2 mi 1 ln x) 0 1 (nI (ln + 1))) po)) (AX 113 a zz)) 0 0 (AX 113 a zz) := by
  refine mgo (by decide) (Nat.le_of_ble_eq_true rfl) ?_
  intro p e z m below meth c hx hb hr hml hown hts hlocks hB ls hl
  obtain ⟨hsz, hP, hK, hE⟩ := hB
  subst hsz
  have hS : va_S (AX 113 a z.heap.size) z.heap z.heap [] := va_S.rf
  have hl : lv_has ls 2 [(0, .ref (a 112)), (1, .int x)] := hl
  refine lv_iload_n hx hb dX6_append_0 rfl (lv_at hl 1 rfl) ?_
  refine lv_bipush (v := 33) hx hb dX6_append_1 (by decide) ?_
  refine lv_icmp_lt (tgt := 12) hx hb dX6_append_3 (by decide) (fun h0 => absurd h0 hx0) (fun _ => ?_)
  refine lv_iload_n hx hb dX6_append_6 rfl (lv_at hl 1 rfl) ?_
  refine lv_bipush (v := 126) hx hb dX6_append_7 (by decide) ?_
  refine lv_icmp_le (tgt := 22) hx hb dX6_append_9 (by decide) (fun _ => ?_) (fun h0 => absurd hx9 h0)
  refine lv_aload_n hx hb dX6_append_22 rfl (lv_at hl 0 rfl) ?_
  refine g_get hx hb hts hown inA6 hK hP 112 (by decide) xc112 rfl 4 (by decide) tw164 rfl (v := .ref (a 106)) rfl dX6_append_23 ?_
  refine g_getN hx hb hts hown inA2 hK hP 106 (by decide) xc106 rfl 1 (by decide) tn136 rfl (v := .int (mi 0 1)) rfl dX6_append_26 ?_
  refine lv_bipush (v := 60) hx hb dX6_append_29 (by decide) ?_
  refine lv_icmp_lt (tgt := 44) hx hb dX6_append_31 (by decide) (fun _ => ?_) (fun h0 => absurd ((nI_lt2 (p := ln) (q := 60) hl0 rfl (by omega) (by omega)).mpr (by omega)) h0)
  refine lv_aload_n hx hb dX6_append_44 rfl (lv_at hl 0 rfl) ?_
  refine g_get hx hb hts hown inA6 hK hP 112 (by decide) xc112 rfl 4 (by decide) tw164 rfl (v := .ref (a 106)) rfl dX6_append_45 ?_
  refine lv_iload_n hx hb dX6_append_48 rfl (lv_at hl 1 rfl) ?_
  refine rw_v hS (va_runV (As := [.int x]) (rest := []) ⟨hx, hb, hml, hown, hts⟩ (m_X2_add l D cI cS a s st pi mi po ln (by omega) hl0 (by omega) x _) (cwV 1 hts (gV tw659 tw656 tw657 tw658 tw6) rfl rfl rfl (by decide +kernel) ⟨Nat.le_of_ble_eq_true rfl, Nat.le_of_ble_eq_true rfl⟩) (pvW 106 hK hP hE (by decide) xc106 rfl) rfl rfl hl.1 rfl (lv_room (Nat.le_of_ble_eq_true rfl)) dX6_append_49 ⟨Nat.le_of_ble_eq_true rfl, Nat.le_of_ble_eq_true rfl⟩) (fun u3 H locs hr1 hP hS => ?_)
  refine lv_aload_n hx hb dX6_append_52 rfl (lv_at hl 0 rfl) ?_
  refine g_get hx hb hts hown inA6 hK hP 112 (by decide) xc112 rfl 4 (by decide) tw164 rfl (v := .ref (a 106)) rfl dX6_append_53 ?_
  refine g_getN hx hb hts hown inA2 hK hP 106 (by decide) xc106 rfl 1 (by decide) tn136 rfl (v := .int (nI (ln + 1))) rfl dX6_append_56 ?_
  exact rw_ir hx hb hr rfl hlocks hS () hP rfl dX6_append_59

set_option maxHeartbeats 4000000 in
set_option maxRecDepth 100000 in
theorem m_X6_clearBuffer (l : Launch) (D : va_G) (cI cS : ClassId) (a : Nat → Nat) (s : St) (st : Nat → St) (pi : Nat → Nat) (mi po : St) (ln : Nat) (hln : ln ≤ 60) (hl0 : mi 0 1 = nI ln) (zz : Nat) : Met l yX6_clearBuffer (.code yX6_clearBuffer cX6_clearBuffer 2 (some .int) :: wsA) ({ frames := 1, cells := 0, slots := 0, locals := 20 } : Room) (va_Pc [.ref (a 112)] (PW D cI cS 113 a (exC cI cS a s st pi mi po) zz)) (va_Qi (fun (r : Int32) (u : Unit) => r = nI ln) (BW D 113 a (fun u => exC cI cS a s st pi (up2 mi 0 1 0) po)) (AX 113 a zz)) 0 0 (AX 113 a zz) := by
  refine mgo (by decide) (Nat.le_of_ble_eq_true rfl) ?_
  intro p e z m below meth c hx hb hr hml hown hts hlocks hB ls hl
  obtain ⟨hsz, hP, hK, hE⟩ := hB
  subst hsz
  have hS : va_S (AX 113 a z.heap.size) z.heap z.heap [] := va_S.rf
  have hl : lv_has ls 2 [(0, .ref (a 112))] := hl
  refine lv_aload_n hx hb dX6_clearBuffer_0 rfl (lv_at hl 0 rfl) ?_
  refine g_get hx hb hts hown inA6 hK hP 112 (by decide) xc112 rfl 4 (by decide) tw164 rfl (v := .ref (a 106)) rfl dX6_clearBuffer_1 ?_
  refine g_getN hx hb hts hown inA2 hK hP 106 (by decide) xc106 rfl 1 (by decide) tn136 rfl (v := .int (mi 0 1)) rfl dX6_clearBuffer_4 ?_
  refine lv_istore_n (lv' := [(1, .int (mi 0 1)), (0, .ref (a 112))]) hx hb dX6_clearBuffer_7 rfl hl (by decide) rfl (fun ls hl => ?_)
  refine lv_aload_n hx hb dX6_clearBuffer_8 rfl (lv_at hl 1 rfl) ?_
  refine g_get hx hb hts hown inA6 hK hP 112 (by decide) xc112 rfl 4 (by decide) tw164 rfl (v := .ref (a 106)) rfl dX6_clearBuffer_9 ?_
  refine rw_v hS (va_runV (As := []) (rest := []) ⟨hx, hb, hml, hown, hts⟩ (m_X2_empty l D cI cS a s st pi mi po ln (by omega) hl0 _) (cwV 0 hts (gV tw242 tw239 tw240 tw241 tw6) rfl rfl rfl (by decide +kernel) ⟨Nat.le_of_ble_eq_true rfl, Nat.le_of_ble_eq_true rfl⟩) (pvW 106 hK hP hE (by decide) xc106 rfl) rfl rfl hl.1 rfl (lv_room (Nat.le_of_ble_eq_true rfl)) dX6_clearBuffer_12 ⟨Nat.le_of_ble_eq_true rfl, Nat.le_of_ble_eq_true rfl⟩) (fun u3 H locs hr1 hP hS => ?_)
  refine lv_iload_n hx hb dX6_clearBuffer_15 rfl (lv_at hl 0 rfl) ?_
  exact rw_ir hx hb hr rfl hlocks hS () hP hl0 dX6_clearBuffer_16

set_option maxHeartbeats 4000000 in
set_option maxRecDepth 100000 in
theorem m_X6_firstError (l : Launch) (D : va_G) (cI cS : ClassId) (a : Nat → Nat) (s : St) (st : Nat → St) (pi : Nat → Nat) (mi po : St) (ln : Nat) (hln : ln ≤ 60) (hl0 : mi 0 1 = nI ln) : Met l yX6_firstError (.code yX6_firstError cX6_firstError 1 (some .int) :: wsA) ({ frames := 3, cells := 0, slots := 0, locals := 65 } : Room) (va_Pc [.ref (a 112)] (PR D cI cS 113 a (exC cI cS a s st pi mi po))) (vp_Si (fun r => r = errF (mi 1) ln ln 0 0)) 0 0 (fun _ => False) := by
  refine mgo (by decide) (Nat.le_of_ble_eq_true rfl) ?_
  intro p e z m below meth c hx hb hr hml hown hts hlocks hB ls hl
  obtain ⟨hP, hK⟩ := hB
  have hl : lv_has ls 1 [(0, .ref (a 112))] := hl
  refine lv_aload_n hx hb dX6_firstError_0 rfl (lv_at hl 0 rfl) ?_
  refine g_get hx hb hts hown inA6 hK hP 112 (by decide) xc112 rfl 4 (by decide) tw164 rfl (v := .ref (a 106)) rfl dX6_firstError_1 ?_
  refine ro_i (va_runV (As := []) (rest := []) ⟨hx, hb, hml, hown, hts⟩ (m_X2_errorPlace l D cI cS a s st pi mi po ln (by omega) hl0) (cwV 0 hts (gV tw250 tw247 tw248 tw249 tw6) rfl rfl rfl (by decide +kernel) ⟨Nat.le_of_ble_eq_true rfl, Nat.le_of_ble_eq_true rfl⟩) (pvR 106 hK hP (by decide) xc106 rfl) rfl rfl hl.1 rfl (lv_room (Nat.le_of_ble_eq_true rfl)) dX6_firstError_4 ⟨Nat.le_of_ble_eq_true rfl, Nat.le_of_ble_eq_true rfl⟩) (fun r2 hr1 => ?_)
  subst hr1
  exact ro_ir hx hb hr rfl hlocks rfl dX6_firstError_7

set_option maxHeartbeats 4000000 in
set_option maxRecDepth 100000 in
theorem m_X6_obeyPart (l : Launch) (D : va_G) (cI cS : ClassId) (a : Nat → Nat) (s : St) (st : Nat → St) (pi : Nat → Nat) (mi po : St) (ln : Nat) (hln : ln ≤ 60) (hl0 : mi 0 1 = nI ln) (q : Nat) (hq : q < ln) (hpo : partO (mi 1) ln q) (zz : Nat) : Met l yX6_obeyPart (.code yX6_obeyPart cX6_obeyPart 2 (some .boolean) :: wsA) ({ frames := 5, cells := 0, slots := 0, locals := 110 } : Room) (va_Pc [.ref (a 112), .int (nI q)] (PW D cI cS 113 a (exC cI cS a s st pi mi po) zz)) (va_Qi (fun (r : Int32) (u : St) => r = bI (partB (mi 1) ln q s)) (BW D 113 a (fun u => exC cI cS a (partS (mi 1) ln q s) st pi mi u)) (AX 113 a zz)) 0 0 (AX 113 a zz) := by
  refine mgo (by decide) (Nat.le_of_ble_eq_true rfl) ?_
  intro p e z m below meth c hx hb hr hml hown hts hlocks hB ls hl
  obtain ⟨hsz, hP, hK, hE⟩ := hB
  subst hsz
  have hS : va_S (AX 113 a z.heap.size) z.heap z.heap [] := va_S.rf
  have hl : lv_has ls 2 [(0, .ref (a 112)), (1, .int (nI q))] := hl
  refine lv_aload_n hx hb dX6_obeyPart_0 rfl (lv_at hl 0 rfl) ?_
  refine g_get hx hb hts hown inA6 hK hP 112 (by decide) xc112 rfl 4 (by decide) tw164 rfl (v := .ref (a 106)) rfl dX6_obeyPart_1 ?_
  refine lv_iload_n hx hb dX6_obeyPart_4 rfl (lv_at hl 1 rfl) ?_
  refine ro_i (va_runV (As := [.int (nI q)]) (rest := []) ⟨hx, hb, hml, hown, hts⟩ (m_X2_codeAt l D cI cS a s st pi mi po ln (by omega) hl0 q (by omega)) (cwV 1 hts (gV tw254 tw541 tw252 tw253 tw6) rfl rfl rfl (by decide +kernel) ⟨Nat.le_of_ble_eq_true rfl, Nat.le_of_ble_eq_true rfl⟩) (pvR 106 hK hP (by decide) xc106 rfl) rfl rfl hl.1 rfl (lv_room (Nat.le_of_ble_eq_true rfl)) dX6_obeyPart_5 ⟨Nat.le_of_ble_eq_true rfl, Nat.le_of_ble_eq_true rfl⟩) (fun r2 hr1 => ?_)
  subst hr1
  by_cases sw4 : cdA (mi 1) ln q = 99
  · skip
    refine lv_lookup (tgt := 88) hx hb dX6_obeyPart_8 (by decide) (off := 80) (by first | (rw [sw4]; done) | (rw [sw4]; decide)) (by decide) ?_
    have hk99 := sw4
    refine lv_aload_n hx hb dX6_obeyPart_88 rfl (lv_at hl 0 rfl) ?_
    refine g_get hx hb hts hown inA6 hK hP 112 (by decide) xc112 rfl 0 (by decide) tw160 rfl (v := .ref (a 0)) rfl dX6_obeyPart_89 ?_
    refine rw_i hS (va_runV (As := []) (rest := []) ⟨hx, hb, hml, hown, hts⟩ (m_X4_correctDials l D cI cS a s st pi mi po _) (cwV 0 hts (gV tw215 tw212 tw213 tw214 tw2) rfl rfl rfl (by decide +kernel) ⟨Nat.le_of_ble_eq_true rfl, Nat.le_of_ble_eq_true rfl⟩) (pvW 0 hK hP hE (by decide) xc0 rfl) rfl rfl hl.1 rfl (lv_room (Nat.le_of_ble_eq_true rfl)) dX6_obeyPart_92 ⟨Nat.le_of_ble_eq_true rfl, Nat.le_of_ble_eq_true rfl⟩) (fun r6 u7 H locs hr5 hP hS => ?_)
    refine lv_pop hx hb dX6_obeyPart_95 rfl ?_
    refine lv_iconst (v := 1) hx hb dX6_obeyPart_96 (by decide) ?_
    have hWs : (partS (mi 1) ln q s) = (corS 7 s) := by unfold partS; rw [if_pos hk99]
    have hP := hP.cast (e' := exC cI cS a (partS (mi 1) ln q s) st pi mi po) (by rw [hWs])
    exact rw_ir hx hb hr rfl hlocks hS po hP (bI_t (show partB (mi 1) ln q s from fun h9 => absurd (hk99.symm.trans h9.1) (by decide))).symm dX6_obeyPart_97
  · skip
    by_cases sw8 : cdA (mi 1) ln q = 116
    · skip
      refine lv_lookup (tgt := 44) hx hb dX6_obeyPart_8 (by decide) (off := 36) (by first | (rw [sw8]; done) | (rw [sw8]; decide)) (by decide) ?_
      have hk116 := sw8
      refine lv_aload_n hx hb dX6_obeyPart_44 rfl (lv_at hl 0 rfl) ?_
      refine g_get hx hb hts hown inA6 hK hP 112 (by decide) xc112 rfl 0 (by decide) tw160 rfl (v := .ref (a 0)) rfl dX6_obeyPart_45 ?_
      refine g_getN hx hb hts hown inA4 hK hP 0 (by decide) xc0 rfl 0 (by decide) tn86 rfl (v := .ref (a 1)) rfl dX6_obeyPart_48 ?_
      refine lv_aload_n hx hb dX6_obeyPart_51 rfl (lv_at hl 0 rfl) ?_
      refine g_get hx hb hts hown inA6 hK hP 112 (by decide) xc112 rfl 4 (by decide) tw164 rfl (v := .ref (a 106)) rfl dX6_obeyPart_52 ?_
      refine lv_iload_n hx hb dX6_obeyPart_55 rfl (lv_at hl 1 rfl) ?_
      refine lv_iconst (v := 1) hx hb dX6_obeyPart_56 (by decide) ?_
      refine lv_iadd hx hb dX6_obeyPart_57 ?_
      refine lv_as (y := nI (q + 1)) (nI_add2 (p := q) (q := 1) rfl rfl) ?_
      refine ro_i (va_runV (As := [.int (nI (q + 1))]) (rest := [.ref (a 1)]) ⟨hx, hb, hml, hown, hts⟩ (m_X2_ticksAt l D cI cS a s st pi mi po ln (by omega) hl0 (q + 1) (by omega)) (cwV 1 hts (gV tw683 tw680 tw681 tw682 tw6) rfl rfl rfl (by decide +kernel) ⟨Nat.le_of_ble_eq_true rfl, Nat.le_of_ble_eq_true rfl⟩) (pvR 106 hK hP (by decide) xc106 rfl) rfl rfl hl.1 rfl (lv_room (Nat.le_of_ble_eq_true rfl)) dX6_obeyPart_58 ⟨Nat.le_of_ble_eq_true rfl, Nat.le_of_ble_eq_true rfl⟩) (fun r10 hr9 => ?_)
      subst hr9
      obtain ⟨n9, hn9, hn8⟩ := hpo.1 hk116
      refine lv_as (y := nI n9) hn8 ?_
      refine rw_i hS (va_runV (As := [.int (nI n9)]) (rest := []) ⟨hx, hb, hml, hown, hts⟩ (m_X0_passTicks l D cI cS a s st pi mi po n9 (by omega) _) (cwV 1 hts (gV tw554 tw551 tw552 tw553 tw3) rfl rfl rfl (by decide +kernel) ⟨Nat.le_of_ble_eq_true rfl, Nat.le_of_ble_eq_true rfl⟩) (pvW 1 hK hP hE (by decide) xc1 rfl) rfl rfl hl.1 rfl (lv_room (Nat.le_of_ble_eq_true rfl)) dX6_obeyPart_61 ⟨Nat.le_of_ble_eq_true rfl, Nat.le_of_ble_eq_true rfl⟩) (fun r13 u14 H locs hr12 hP hS => ?_)
      subst hr12
      refine lv_pop hx hb dX6_obeyPart_64 rfl ?_
      refine lv_iconst (v := 1) hx hb dX6_obeyPart_65 (by decide) ?_
      have hWs : (partS (mi 1) ln q s) = (ticksS n9 s) := by unfold partS; rw [if_neg sw4, if_pos hk116, hn8, nI_cl (by omega)]
      have hP := hP.cast (e' := exC cI cS a (partS (mi 1) ln q s) st pi mi po) (by rw [hWs])
      exact rw_ir hx hb hr rfl hlocks hS po hP (bI_t (show partB (mi 1) ln q s from fun h9 => absurd (hk116.symm.trans h9.1) (by decide))).symm dX6_obeyPart_66
    · skip
      by_cases sw15 : cdA (mi 1) ln q = 118
      · skip
        refine lv_lookup (tgt := 67) hx hb dX6_obeyPart_8 (by decide) (off := 59) (by first | (rw [sw15]; done) | (rw [sw15]; decide)) (by decide) ?_
        have hk118 := sw15
        refine lv_aload_n hx hb dX6_obeyPart_67 rfl (lv_at hl 0 rfl) ?_
        refine g_get hx hb hts hown inA6 hK hP 112 (by decide) xc112 rfl 0 (by decide) tw160 rfl (v := .ref (a 0)) rfl dX6_obeyPart_68 ?_
        refine g_getN hx hb hts hown inA4 hK hP 0 (by decide) xc0 rfl 1 (by decide) tn89 rfl (v := .ref (a 8)) rfl dX6_obeyPart_71 ?_
        refine ro_i (va_runV (As := []) (rest := []) ⟨hx, hb, hml, hown, hts⟩ (m_X5_weightSum l D cI cS a s st pi mi po) (cwV 0 hts (gV tw423 tw420 tw421 tw422 tw4) rfl rfl rfl (by decide +kernel) ⟨Nat.le_of_ble_eq_true rfl, Nat.le_of_ble_eq_true rfl⟩) (pvR 8 hK hP (by decide) xc8 rfl) rfl rfl hl.1 rfl (lv_room (Nat.le_of_ble_eq_true rfl)) dX6_obeyPart_74 ⟨Nat.le_of_ble_eq_true rfl, Nat.le_of_ble_eq_true rfl⟩) (fun r17 hr16 => ?_)
        subst hr16
        refine lv_if_ne (tgt := 82) hx hb dX6_obeyPart_77 (by decide) (fun c19 => ?_) (fun c19 => ?_)
        · skip
          have hz := c19
          refine lv_aload_n hx hb dX6_obeyPart_82 rfl (lv_at hl 0 rfl) ?_
          refine rw_v hS (va_runV (As := []) (rest := []) ⟨hx, hb, hml, hown, hts⟩ (m_X6_holdVote l D cI cS a s st pi mi po _) (cwV 0 hts (gV tw586 tw583 tw585 ts19 tw1) rfl rfl rfl (by decide +kernel) ⟨Nat.le_of_ble_eq_true rfl, Nat.le_of_ble_eq_true rfl⟩) (pvW 112 hK hP hE (by decide) xc112 rfl) rfl rfl hl.1 rfl (lv_room (Nat.le_of_ble_eq_true rfl)) dX6_obeyPart_83 ⟨Nat.le_of_ble_eq_true rfl, Nat.le_of_ble_eq_true rfl⟩) (fun u22 H locs hr20 hP hS => ?_)
          refine lv_iconst (v := 1) hx hb dX6_obeyPart_86 (by decide) ?_
          have hWs : (partS (mi 1) ln q s) = (voteS s) := by unfold partS; rw [if_neg sw4, if_neg sw8, if_pos hk118, if_neg hz]
          have hP := hP.cast (e' := exC cI cS a (partS (mi 1) ln q s) st pi mi u22) (by rw [hWs])
          exact rw_ir hx hb hr rfl hlocks hS u22 hP (bI_t (show partB (mi 1) ln q s from fun h9 => hz h9.2)).symm dX6_obeyPart_87
        · skip
          have hz := c19
          refine lv_iconst (v := 0) hx hb dX6_obeyPart_80 (by decide) ?_
          have hWs : (partS (mi 1) ln q s) = s := by unfold partS; rw [if_neg sw4, if_neg sw8, if_pos hk118, if_pos hz]
          have hP := hP.cast (e' := exC cI cS a (partS (mi 1) ln q s) st pi mi po) (by rw [hWs])
          exact rw_ir hx hb hr rfl hlocks hS po hP (bI_f (fun h9 => h9 ⟨hk118, hz⟩)).symm dX6_obeyPart_81
      · skip
        refine lv_lookup (tgt := 98) hx hb dX6_obeyPart_8 (by decide) (off := 90) (by show Op.lookupswitch.offset [(99, 80), (116, 36), (118, 59)] 90 _ = _; rw [lv_osw sw4 (by decide), lv_osw sw8 (by decide), lv_osw sw15 (by decide)]; rfl) (by decide) ?_
        refine lv_aload_n hx hb dX6_obeyPart_98 rfl (lv_at hl 0 rfl) ?_
        refine g_get hx hb hts hown inA6 hK hP 112 (by decide) xc112 rfl 0 (by decide) tw160 rfl (v := .ref (a 0)) rfl dX6_obeyPart_99 ?_
        refine g_getN hx hb hts hown inA4 hK hP 0 (by decide) xc0 rfl 0 (by decide) tn86 rfl (v := .ref (a 1)) rfl dX6_obeyPart_102 ?_
        refine lv_aload_n hx hb dX6_obeyPart_105 rfl (lv_at hl 0 rfl) ?_
        refine g_get hx hb hts hown inA6 hK hP 112 (by decide) xc112 rfl 4 (by decide) tw164 rfl (v := .ref (a 106)) rfl dX6_obeyPart_106 ?_
        refine lv_iload_n hx hb dX6_obeyPart_109 rfl (lv_at hl 1 rfl) ?_
        refine lv_iconst (v := 1) hx hb dX6_obeyPart_110 (by decide) ?_
        refine lv_iadd hx hb dX6_obeyPart_111 ?_
        refine lv_as (y := nI (q + 1)) (nI_add2 (p := q) (q := 1) rfl rfl) ?_
        refine ro_i (va_runV (As := [.int (nI (q + 1))]) (rest := [.ref (a 1)]) ⟨hx, hb, hml, hown, hts⟩ (m_X2_figureAt l D cI cS a s st pi mi po ln (by omega) hl0 (q + 1) (by omega)) (cwV 1 hts (gV tw687 tw688 tw685 tw686 tw6) rfl rfl rfl (by decide +kernel) ⟨Nat.le_of_ble_eq_true rfl, Nat.le_of_ble_eq_true rfl⟩) (pvR 106 hK hP (by decide) xc106 rfl) rfl rfl hl.1 rfl (lv_room (Nat.le_of_ble_eq_true rfl)) dX6_obeyPart_112 ⟨Nat.le_of_ble_eq_true rfl, Nat.le_of_ble_eq_true rfl⟩) (fun r24 hr23 => ?_)
        subst hr23
        obtain ⟨n9, hn9, hn8⟩ := hpo.2 sw4 sw8 sw15
        refine lv_as (y := nI n9) hn8 ?_
        refine lv_aload_n hx hb dX6_obeyPart_115 rfl (lv_at hl 0 rfl) ?_
        refine g_get hx hb hts hown inA6 hK hP 112 (by decide) xc112 rfl 4 (by decide) tw164 rfl (v := .ref (a 106)) rfl dX6_obeyPart_116 ?_
        refine lv_iload_n hx hb dX6_obeyPart_119 rfl (lv_at hl 1 rfl) ?_
        refine lv_iconst (v := 2) hx hb dX6_obeyPart_120 (by decide) ?_
        refine lv_iadd hx hb dX6_obeyPart_121 ?_
        refine lv_as (y := nI (q + 2)) (nI_add2 (p := q) (q := 2) rfl rfl) ?_
        refine ro_i (va_runV (As := [.int (nI (q + 2))]) (rest := [.int (nI n9), .ref (a 1)]) ⟨hx, hb, hml, hown, hts⟩ (m_X2_driftAt l D cI cS a s st pi mi po ln (by omega) hl0 (q + 2) (by omega)) (cwV 1 hts (gV tw692 tw689 tw690 tw691 tw6) rfl rfl rfl (by decide +kernel) ⟨Nat.le_of_ble_eq_true rfl, Nat.le_of_ble_eq_true rfl⟩) (pvR 106 hK hP (by decide) xc106 rfl) rfl rfl hl.1 rfl (lv_room (Nat.le_of_ble_eq_true rfl)) dX6_obeyPart_122 ⟨Nat.le_of_ble_eq_true rfl, Nat.le_of_ble_eq_true rfl⟩) (fun r27 hr26 => ?_)
        subst hr26
        refine rw_v hS (va_runV (As := [.int (nI n9), .int (drI (mi 1) ln (q + 2))]) (rest := []) ⟨hx, hb, hml, hown, hts⟩ (m_X0_changeDrift l D cI cS a s st pi mi po n9 (by omega) (drI (mi 1) ln (q + 2)) _) (cwV 2 hts (gV tw625 tw622 tw623 tw624 tw3) rfl rfl rfl (by decide +kernel) ⟨Nat.le_of_ble_eq_true rfl, Nat.le_of_ble_eq_true rfl⟩) (pvW 1 hK hP hE (by decide) xc1 rfl) rfl rfl hl.1 rfl (lv_room (Nat.le_of_ble_eq_true rfl)) dX6_obeyPart_125 ⟨Nat.le_of_ble_eq_true rfl, Nat.le_of_ble_eq_true rfl⟩) (fun u31 H locs hr29 hP hS => ?_)
        refine lv_iconst (v := 1) hx hb dX6_obeyPart_128 (by decide) ?_
        have hWs : (partS (mi 1) ln q s) = (up2 s 2 n9 (drI (mi 1) ln (q + 2))) := by unfold partS; rw [if_neg sw4, if_neg sw8, if_neg sw15, hn8, nI_cl (by omega)]
        have hP := hP.cast (e' := exC cI cS a (partS (mi 1) ln q s) st pi mi po) (by rw [hWs])
        exact rw_ir hx hb hr rfl hlocks hS po hP (bI_t (show partB (mi 1) ln q s from fun h9 => sw15 h9.1)).symm dX6_obeyPart_129

set_option maxHeartbeats 4000000 in
set_option maxRecDepth 100000 in
theorem m_X6_obey (l : Launch) (D : va_G) (cI cS : ClassId) (a : Nat → Nat) (s : St) (st : Nat → St) (pi : Nat → Nat) (mi po : St) (sz : Nat) (hsz : sz ≤ 6) (hs0 : mi 0 0 = nI sz) (hpi : ∀ k, k < 6 → pi k < 6) (ln : Nat) (hln : ln ≤ 60) (hl0 : mi 0 1 = nI ln) (hcm : cmpB (mi 1) ln) (hpo : ∀ j, j < ln → psB (mi 1) ln j → partO (mi 1) ln j) (zz : Nat) : Met l yX6_obey (.code yX6_obey cX6_obey 4 (some .int) :: wsA) ({ frames := 6, cells := 0, slots := 0, locals := 131 } : Room) (va_Pc [.ref (a 112)] (PW D cI cS 113 a (exC cI cS a s st pi mi po) zz)) (va_Qi (fun (r : Int32) (u : St) => r = (obF (mi 1) ln ln 0 s 0).2) (BW D 113 a (fun u => exC cI cS a ((obF (mi 1) ln ln 0 s 0).1) (va_up st (svPi pi sz (svQ sz) + 1) s) (svPi pi sz) (up2 (up2 mi 0 0 (nI (svQ sz + 1))) 0 1 0) u)) (AX 113 a zz)) 0 0 (AX 113 a zz) := by
  refine mgo (by decide) (Nat.le_of_ble_eq_true rfl) ?_
  intro p e z m below meth c hx hb hr hml hown hts hlocks hB ls hl
  obtain ⟨hsz, hP, hK, hE⟩ := hB
  subst hsz
  have hS : va_S (AX 113 a z.heap.size) z.heap z.heap [] := va_S.rf
  have hl : lv_has ls 4 [(0, .ref (a 112))] := hl
  refine lv_aload_n hx hb dX6_obey_0 rfl (lv_at hl 0 rfl) ?_
  refine g_get hx hb hts hown inA6 hK hP 112 (by decide) xc112 rfl 4 (by decide) tw164 rfl (v := .ref (a 106)) rfl dX6_obey_1 ?_
  refine ro_i (va_runV (As := []) (rest := []) ⟨hx, hb, hml, hown, hts⟩ (m_X2_areComplete l D cI cS a s st pi mi po ln (by omega) hl0) (cwV 0 hts (gV tw670 tw667 tw668 tw669 tw6) rfl rfl rfl (by decide +kernel) ⟨Nat.le_of_ble_eq_true rfl, Nat.le_of_ble_eq_true rfl⟩) (pvR 106 hK hP (by decide) xc106 rfl) rfl rfl hl.1 rfl (lv_room (Nat.le_of_ble_eq_true rfl)) dX6_obey_4 ⟨Nat.le_of_ble_eq_true rfl, Nat.le_of_ble_eq_true rfl⟩) (fun r2 hr1 => ?_)
  subst hr1
  refine lv_bI (fun c4 => ?_) (fun c4 => ?_)
  · skip
    refine lv_if_ne (tgt := 20) hx hb dX6_obey_7 (by decide) (fun _ => ?_) (fun h0 => absurd h0 (by decide))
    refine lv_aload_n hx hb dX6_obey_20 rfl (lv_at hl 0 rfl) ?_
    refine g_get hx hb hts hown inA6 hK hP 112 (by decide) xc112 rfl 3 (by decide) tw163 rfl (v := .ref (a 104)) rfl dX6_obey_21 ?_
    refine lv_aload_n hx hb dX6_obey_24 rfl (lv_at hl 0 rfl) ?_
    refine g_get hx hb hts hown inA6 hK hP 112 (by decide) xc112 rfl 0 (by decide) tw160 rfl (v := .ref (a 0)) rfl dX6_obey_25 ?_
    refine rw_v hS (va_runV (As := [.ref (a 0)]) (rest := []) ⟨hx, hb, hml, hown, hts⟩ (m_X1_save l D cI cS a s st pi mi po sz (by omega) hs0 hpi _) (cwV 1 hts (gV tw186 tw183 tw184 tw185 tw5) rfl rfl rfl (by decide +kernel) ⟨Nat.le_of_ble_eq_true rfl, Nat.le_of_ble_eq_true rfl⟩) (pvW 104 hK hP hE (by decide) xc104 rfl) rfl rfl hl.1 rfl (lv_room (Nat.le_of_ble_eq_true rfl)) dX6_obey_28 ⟨Nat.le_of_ble_eq_true rfl, Nat.le_of_ble_eq_true rfl⟩) (fun u7 H locs hr5 hP hS => ?_)
    refine lv_iconst (v := 0) hx hb dX6_obey_31 (by decide) ?_
    refine lv_istore_n (lv' := [(1, .int 0), (0, .ref (a 112))]) hx hb dX6_obey_32 rfl hl (by decide) rfl (fun ls hl => ?_)
    refine lv_iconst (v := 1) hx hb dX6_obey_33 (by decide) ?_
    refine lv_istore_n (lv' := [(2, .int 1), (1, .int 0), (0, .ref (a 112))]) hx hb dX6_obey_34 rfl hl (by decide) rfl (fun ls hl => ?_)
    refine lv_iconst (v := 0) hx hb dX6_obey_35 (by decide) ?_
    refine lv_istore_n (lv' := [(3, .int 0), (2, .int 1), (1, .int 0), (0, .ref (a 112))]) hx hb dX6_obey_36 rfl hl (by decide) rfl (fun ls hl => ?_)
    have loop37 : ∀ (fu : Nat) (j : Nat) (x : Int32) (go : Int32) (t : St) (po : St), ln + 1 ≤ j + fu → (j ≤ ln) → ((¬ go = 0 → obF (mi 1) ln ln 0 s 0 = obF (mi 1) ln (ln - j) j t x) ∧ (go = 0 → obF (mi 1) ln ln 0 s 0 = (t, x))) → ∀ (H : Heap) (locs : List Loc), HP D 113 a (exC cI cS a t (va_up st (svPi pi sz (svQ sz) + 1) s) (svPi pi sz) (up2 mi 0 0 (nI (svQ sz + 1))) po) H → va_S (AX 113 a z.heap.size) z.heap H locs → ∀ ls : Array Slot, lv_has ls 4 [(0, .ref (a 112)), (1, .int x), (2, .int go), (3, .int (nI j))] → W p l e ({ frames := 6, cells := 0, slots := 0, locals := 131 } : Room) z m ([.ref (a 112)] : List Value).toArray below meth c H locs 0 0 (MQ below (va_Qi (fun (r : Int32) (u : St) => r = (obF (mi 1) ln ln 0 s 0).2) (BW D 113 a (fun u => exC cI cS a ((obF (mi 1) ln ln 0 s 0).1) (va_up st (svPi pi sz (svQ sz) + 1) s) (svPi pi sz) (up2 (up2 mi 0 0 (nI (svQ sz + 1))) 0 1 0) u)) (AX 113 a z.heap.size)) ([.ref (a 112)] : List Value).toArray z 0 0 (AX 113 a z.heap.size)) (F0 m 37 ls []) := by
      intro fu
      induction fu with
      | zero => intro j x go t po hn hj hR; exact absurd hn (by omega)
      | succ fu ih37 =>
        intro j x go t po hn hj hR H locs hP hS ls hl
        refine lv_iload_n hx hb dX6_obey_37 rfl (lv_at hl 3 rfl) ?_
        refine lv_aload_n hx hb dX6_obey_38 rfl (lv_at hl 0 rfl) ?_
        refine g_get hx hb hts hown inA6 hK hP 112 (by decide) xc112 rfl 4 (by decide) tw164 rfl (v := .ref (a 106)) rfl dX6_obey_39 ?_
        refine g_getN hx hb hts hown inA2 hK hP 106 (by decide) xc106 rfl 1 (by decide) tn136 rfl (v := .int (mi 0 1)) rfl dX6_obey_42 ?_
        refine lv_icmp_ge (tgt := 87) hx hb dX6_obey_45 (by decide) (fun c8 => ?_) (fun c8 => ?_)
        · skip
          have c8x := Int32.not_lt.mpr c8
          have c8n := (nI_le2 (p := ln) (q := j) hl0 rfl (by omega) (by omega)).mp c8
          have c8n : ln ≤ j := c8n
          have hjq : ln = j := by omega
          subst hjq
          have hEE : obF (mi 1) ln ln 0 s 0 = (t, x) := by
            by_cases h9 : go = 0
            · exact hR.2 h9
            · rw [hR.1 h9, Nat.sub_self]; rfl
          refine lv_aload_n hx hb dX6_obey_87 rfl (lv_at hl 0 rfl) ?_
          refine g_get hx hb hts hown inA6 hK hP 112 (by decide) xc112 rfl 4 (by decide) tw164 rfl (v := .ref (a 106)) rfl dX6_obey_88 ?_
          refine rw_v hS (va_runV (As := []) (rest := []) ⟨hx, hb, hml, hown, hts⟩ (m_X2_empty l D cI cS a t (va_up st (svPi pi sz (svQ sz) + 1) s) (svPi pi sz) (up2 mi 0 0 (nI (svQ sz + 1))) po ln (by omega) hl0 _) (cwV 0 hts (gV tw242 tw239 tw240 tw241 tw6) rfl rfl rfl (by decide +kernel) ⟨Nat.le_of_ble_eq_true rfl, Nat.le_of_ble_eq_true rfl⟩) (pvW 106 hK hP hE (by decide) xc106 rfl) rfl rfl hl.1 rfl (lv_room (Nat.le_of_ble_eq_true rfl)) dX6_obey_91 ⟨Nat.le_of_ble_eq_true rfl, Nat.le_of_ble_eq_true rfl⟩) (fun u11 H locs hr9 hP hS => ?_)
          refine lv_iload_n hx hb dX6_obey_94 rfl (lv_at hl 1 rfl) ?_
          have hWs : (obF (mi 1) ln ln 0 s 0).1 = t := by rw [hEE]
          have hP := hP.cast (e' := exC cI cS a ((obF (mi 1) ln ln 0 s 0).1) (va_up st (svPi pi sz (svQ sz) + 1) s) (svPi pi sz) (up2 (up2 mi 0 0 (nI (svQ sz + 1))) 0 1 0) po) (by rw [hWs])
          exact rw_ir hx hb hr rfl hlocks hS po hP (by rw [hEE]) dX6_obey_95
        · skip
          have c8x := Int32.not_le.mp c8
          have c8n := fun hq0 => c8 ((nI_le2 (p := ln) (q := j) hl0 rfl (by omega) (by omega)).mpr hq0)
          have c8n : ¬ (ln ≤ j) := c8n
          refine lv_iload_n hx hb dX6_obey_48 rfl (lv_at hl 2 rfl) ?_
          refine lv_if_eq (tgt := 87) hx hb dX6_obey_49 (by decide) (fun c12 => ?_) (fun c12 => ?_)
          · skip
            have hEE := hR.2 c12
            refine lv_aload_n hx hb dX6_obey_87 rfl (lv_at hl 0 rfl) ?_
            refine g_get hx hb hts hown inA6 hK hP 112 (by decide) xc112 rfl 4 (by decide) tw164 rfl (v := .ref (a 106)) rfl dX6_obey_88 ?_
            refine rw_v hS (va_runV (As := []) (rest := []) ⟨hx, hb, hml, hown, hts⟩ (m_X2_empty l D cI cS a t (va_up st (svPi pi sz (svQ sz) + 1) s) (svPi pi sz) (up2 mi 0 0 (nI (svQ sz + 1))) po ln (by omega) hl0 _) (cwV 0 hts (gV tw242 tw239 tw240 tw241 tw6) rfl rfl rfl (by decide +kernel) ⟨Nat.le_of_ble_eq_true rfl, Nat.le_of_ble_eq_true rfl⟩) (pvW 106 hK hP hE (by decide) xc106 rfl) rfl rfl hl.1 rfl (lv_room (Nat.le_of_ble_eq_true rfl)) dX6_obey_91 ⟨Nat.le_of_ble_eq_true rfl, Nat.le_of_ble_eq_true rfl⟩) (fun u15 H locs hr13 hP hS => ?_)
            refine lv_iload_n hx hb dX6_obey_94 rfl (lv_at hl 1 rfl) ?_
            have hWs : (obF (mi 1) ln ln 0 s 0).1 = t := by rw [hEE]
            have hP := hP.cast (e' := exC cI cS a ((obF (mi 1) ln ln 0 s 0).1) (va_up st (svPi pi sz (svQ sz) + 1) s) (svPi pi sz) (up2 (up2 mi 0 0 (nI (svQ sz + 1))) 0 1 0) po) (by rw [hWs])
            exact rw_ir hx hb hr rfl hlocks hS po hP (by rw [hEE]) dX6_obey_95
          · skip
            have cgo := c12
            refine lv_aload_n hx hb dX6_obey_52 rfl (lv_at hl 0 rfl) ?_
            refine g_get hx hb hts hown inA6 hK hP 112 (by decide) xc112 rfl 4 (by decide) tw164 rfl (v := .ref (a 106)) rfl dX6_obey_53 ?_
            refine lv_iload_n hx hb dX6_obey_56 rfl (lv_at hl 3 rfl) ?_
            refine ro_i (va_runV (As := [.int (nI j)]) (rest := []) ⟨hx, hb, hml, hown, hts⟩ (m_X2_isPartStart l D cI cS a t (va_up st (svPi pi sz (svQ sz) + 1) s) (svPi pi sz) (up2 mi 0 0 (nI (svQ sz + 1))) po ln (by omega) hl0 j (by omega)) (cwV 1 hts (gV tw675 tw672 tw673 tw674 tw6) rfl rfl rfl (by decide +kernel) ⟨Nat.le_of_ble_eq_true rfl, Nat.le_of_ble_eq_true rfl⟩) (pvR 106 hK hP (by decide) xc106 rfl) rfl rfl hl.1 rfl (lv_room (Nat.le_of_ble_eq_true rfl)) dX6_obey_57 ⟨Nat.le_of_ble_eq_true rfl, Nat.le_of_ble_eq_true rfl⟩) (fun r17 hr16 => ?_)
            subst hr16
            refine lv_bI (fun c19 => ?_) (fun c19 => ?_)
            · skip
              have cps : (psB (mi 1) ln j) := c19
              refine lv_if_eq (tgt := 81) hx hb dX6_obey_60 (by decide) (fun h0 => absurd h0 (by decide)) (fun _ => ?_)
              refine lv_aload_n hx hb dX6_obey_63 rfl (lv_at hl 0 rfl) ?_
              refine lv_iload_n hx hb dX6_obey_64 rfl (lv_at hl 3 rfl) ?_
              refine rw_i hS (va_runV (As := [.int (nI j)]) (rest := []) ⟨hx, hb, hml, hown, hts⟩ (m_X6_obeyPart l D cI cS a t (va_up st (svPi pi sz (svQ sz) + 1) s) (svPi pi sz) (up2 mi 0 0 (nI (svQ sz + 1))) po ln (by omega) hl0 j (by omega) (hpo _ (by omega) (by assumption)) _) (cwV 1 hts (gV tw679 tw676 tw678 ts21 tw1) rfl rfl rfl (by decide +kernel) ⟨Nat.le_of_ble_eq_true rfl, Nat.le_of_ble_eq_true rfl⟩) (pvW 112 hK hP hE (by decide) xc112 rfl) rfl rfl hl.1 rfl (lv_room (Nat.le_of_ble_eq_true rfl)) dX6_obey_65 ⟨Nat.le_of_ble_eq_true rfl, Nat.le_of_ble_eq_true rfl⟩) (fun r21 u22 H locs hr20 hP hS => ?_)
              subst hr20
              refine lv_bI (fun c23 => ?_) (fun c23 => ?_)
              · skip
                have cpb : (partB (mi 1) ln j t) := c23
                refine lv_istore_n (lv' := [(2, .int 1), (0, .ref (a 112)), (1, .int x), (3, .int (nI j))]) hx hb dX6_obey_68 rfl hl (by decide) rfl (fun ls hl => ?_)
                refine lv_iload_n hx hb dX6_obey_69 rfl (lv_at hl 2 rfl) ?_
                refine lv_iload_n hx hb dX6_obey_70 rfl (lv_at hl 0 rfl) ?_
                refine lv_if_eq (tgt := 78) hx hb dX6_obey_71 (by decide) (fun h0 => absurd h0 (by decide)) (fun _ => ?_)
                refine lv_iconst (v := 1) hx hb dX6_obey_74 (by decide) ?_
                refine lv_goto (tgt := 79) hx hb dX6_obey_75 (by decide) ?_
                refine lv_iadd hx hb dX6_obey_79 ?_
                refine lv_istore_n (lv' := [(1, .int (x + 1)), (2, .int 1), (0, .ref (a 112)), (3, .int (nI j))]) hx hb dX6_obey_80 rfl hl (by decide) rfl (fun ls hl => ?_)
                refine lv_iinc (v := nI (j + 1)) (lv' := [(3, .int (nI (j + 1))), (1, .int (x + 1)), (2, .int 1), (0, .ref (a 112))]) hx hb dX6_obey_81 hl (k := 3) rfl (nI_add j 1) (by decide) rfl (fun ls hl => ?_)
                refine lv_goto (tgt := 37) hx hb dX6_obey_84 (by decide) ?_
                exact ih37 (j + 1) (x + 1) 1 (partS (mi 1) ln j t) u22 (by omega) (by omega) (⟨fun _ => by rw [hR.1 cgo, show ln - j = (ln - (j + 1)) + 1 by omega, obF, if_pos cps, if_pos cpb], fun h9 => absurd h9 (by decide)⟩) _ _ hP hS ls (lv_sub hl [3, 1, 2, 0] rfl)
              · skip
                have cpb : ¬ (partB (mi 1) ln j t) := c23
                refine lv_istore_n (lv' := [(2, .int 0), (0, .ref (a 112)), (1, .int x), (3, .int (nI j))]) hx hb dX6_obey_68 rfl hl (by decide) rfl (fun ls hl => ?_)
                refine lv_iload_n hx hb dX6_obey_69 rfl (lv_at hl 2 rfl) ?_
                refine lv_iload_n hx hb dX6_obey_70 rfl (lv_at hl 0 rfl) ?_
                refine lv_if_eq (tgt := 78) hx hb dX6_obey_71 (by decide) (fun _ => ?_) (fun h0 => absurd (by decide) h0)
                refine lv_iconst (v := 0) hx hb dX6_obey_78 (by decide) ?_
                refine lv_iadd hx hb dX6_obey_79 ?_
                refine lv_istore_n (lv' := [(1, .int (x + 0)), (2, .int 0), (0, .ref (a 112)), (3, .int (nI j))]) hx hb dX6_obey_80 rfl hl (by decide) rfl (fun ls hl => ?_)
                refine lv_iinc (v := nI (j + 1)) (lv' := [(3, .int (nI (j + 1))), (1, .int (x + 0)), (2, .int 0), (0, .ref (a 112))]) hx hb dX6_obey_81 hl (k := 3) rfl (nI_add j 1) (by decide) rfl (fun ls hl => ?_)
                refine lv_goto (tgt := 37) hx hb dX6_obey_84 (by decide) ?_
                exact ih37 (j + 1) (x + 0) 0 (partS (mi 1) ln j t) u22 (by omega) (by omega) (⟨fun h9 => absurd rfl h9, fun _ => by rw [hR.1 cgo, show ln - j = (ln - (j + 1)) + 1 by omega, obF, if_pos cps, if_neg cpb, Int32.add_zero]⟩) _ _ hP hS ls (lv_sub hl [3, 1, 2, 0] rfl)
            · skip
              have cps : ¬ (psB (mi 1) ln j) := c19
              refine lv_if_eq (tgt := 81) hx hb dX6_obey_60 (by decide) (fun _ => ?_) (fun h0 => absurd (by decide) h0)
              refine lv_iinc (v := nI (j + 1)) (lv' := [(3, .int (nI (j + 1))), (0, .ref (a 112)), (1, .int x), (2, .int go)]) hx hb dX6_obey_81 hl (k := 3) rfl (nI_add j 1) (by decide) rfl (fun ls hl => ?_)
              refine lv_goto (tgt := 37) hx hb dX6_obey_84 (by decide) ?_
              exact ih37 (j + 1) x go t po (by omega) (by omega) (⟨fun h9 => by rw [hR.1 h9, show ln - j = (ln - (j + 1)) + 1 by omega, obF, if_neg cps], fun h9 => absurd h9 cgo⟩) _ _ hP hS ls (lv_sub hl [1, 2, 3, 0] rfl)
    exact loop37 (ln + 1) 0 0 1 s po (by omega) (by omega) (⟨fun _ => rfl, fun h9 => absurd h9 (by decide)⟩) _ _ hP hS ls (lv_sub hl [3, 2, 1, 0] rfl)
  · skip
    exact absurd hcm c4

set_option maxHeartbeats 4000000 in
set_option maxRecDepth 100000 in
theorem m_X6_keep (l : Launch) (D : va_G) (cI cS : ClassId) (a : Nat → Nat) (s : St) (st : Nat → St) (pi : Nat → Nat) (mi po : St) (zz : Nat) : Met l yX6_keep (.code yX6_keep cX6_keep 1 (some .int) :: wsA) ({ frames := 3, cells := 0, slots := 0, locals := 64 } : Room) (va_Pc [.ref (a 112)] (PW D cI cS 113 a (exC cI cS a s st pi mi po) zz)) (va_Qi (fun (r : Int32) (u : Unit) => r = s 0 1) (BW D 113 a (fun u => exC cI cS a s (va_up st 0 s) pi (up2 mi 0 2 1) po)) (AX 113 a zz)) 0 0 (AX 113 a zz) := by
  refine mgo (by decide) (Nat.le_of_ble_eq_true rfl) ?_
  intro p e z m below meth c hx hb hr hml hown hts hlocks hB ls hl
  obtain ⟨hsz, hP, hK, hE⟩ := hB
  subst hsz
  have hS : va_S (AX 113 a z.heap.size) z.heap z.heap [] := va_S.rf
  have hl : lv_has ls 1 [(0, .ref (a 112))] := hl
  refine lv_aload_n hx hb dX6_keep_0 rfl (lv_at hl 0 rfl) ?_
  refine g_get hx hb hts hown inA6 hK hP 112 (by decide) xc112 rfl 1 (by decide) tw161 rfl (v := .ref (a 13)) rfl dX6_keep_1 ?_
  refine lv_aload_n hx hb dX6_keep_4 rfl (lv_at hl 0 rfl) ?_
  refine g_get hx hb hts hown inA6 hK hP 112 (by decide) xc112 rfl 0 (by decide) tw160 rfl (v := .ref (a 0)) rfl dX6_keep_5 ?_
  refine rw_vS (sub := subS 1 0) (ex' := exC cI cS a (up8s s 1 (S8 s st 0)) (up8t st 1 (S8 s st 0)) pi mi po) hS hP hE (subS_lt (by omega) (by omega)) (e2C_up (by omega) (by omega) (by omega) rfl) (e2C_un (by omega)) (va_runV (As := [.ref (a 0)]) (rest := []) ⟨hx, hb, hml, hown, hts⟩ (m_X4_copyFrom l D cI cS (fun k => a (subS 1 0 k)) (S8 s st 1) (S8 s st 0) _) (cwV 1 hts (gV tw198 tw271 tw196 tw197 tw2) rfl rfl rfl (by decide +kernel) ⟨Nat.le_of_ble_eq_true rfl, Nat.le_of_ble_eq_true rfl⟩) (pvW' (13 * 1 + 0) rfl hK hP (by omega) (exC_S8 (i := 1) (k := 0) (by omega) (by omega)) rfl (hp_sub hP (subS_lt (by omega) (by omega)) (e2C_sub (by omega) (by omega))) (di_sub hE (subS_lt (by omega) (by omega)) (subS_inj (by omega)))) rfl rfl hl.1 rfl (lv_room (Nat.le_of_ble_eq_true rfl)) dX6_keep_8 ⟨Nat.le_of_ble_eq_true rfl, Nat.le_of_ble_eq_true rfl⟩) (fun H locs hP hS => ?_)
  have hP : HP D 113 a (exC cI cS a s (va_up st 0 s) pi mi po) H := by exact hP
  refine lv_aload_n hx hb dX6_keep_11 rfl (lv_at hl 0 rfl) ?_
  refine lv_iconst (v := 1) hx hb dX6_keep_12 (by decide) ?_
  refine g_put hx hb hts hown inA6 tyX6 tyX6_ok nmX6 hK hP hE hS 112 (by decide) xc112 rfl 2 (by decide) tw162 rfl rfl (ty := .boolean) (by decide +kernel) rfl rfl (Nat.le_of_ble_eq_true rfl) dX6_keep_13 (ex' := exC cI cS a s (va_up st 0 s) pi (up2 mi 0 2 1) po) rfl (xo_mi (by decide)) (fun H locs hP hS => ?_)
  refine lv_aload_n hx hb dX6_keep_16 rfl (lv_at hl 0 rfl) ?_
  refine g_get hx hb hts hown inA6 hK hP 112 (by decide) xc112 rfl 0 (by decide) tw160 rfl (v := .ref (a 0)) rfl dX6_keep_17 ?_
  refine g_getN hx hb hts hown inA4 hK hP 0 (by decide) xc0 rfl 3 (by decide) tn93 rfl (v := .int (s 0 1)) rfl dX6_keep_20 ?_
  exact rw_ir hx hb hr rfl hlocks hS () hP rfl dX6_keep_23

set_option maxHeartbeats 4000000 in
set_option maxRecDepth 100000 in
theorem m_X6_goBack (l : Launch) (D : va_G) (cI cS : ClassId) (a : Nat → Nat) (s : St) (st : Nat → St) (pi : Nat → Nat) (mi po : St) (sz : Nat) (hsz : sz ≤ 6) (hs0 : mi 0 0 = nI sz) (hpi : ∀ k, k < 6 → pi k < 6) (hsn : ¬ mi 0 2 = 0) (zz : Nat) : Met l yX6_goBack (.code yX6_goBack cX6_goBack 1 (some .int) :: wsA) ({ frames := 4, cells := 0, slots := 0, locals := 86 } : Room) (va_Pc [.ref (a 112)] (PW D cI cS 113 a (exC cI cS a s st pi mi po) zz)) (va_Qi (fun (r : Int32) (u : Unit) => r = st 0 0 1) (BW D 113 a (fun u => exC cI cS a (st 0) (va_up st (svPi pi sz (svQ sz) + 1) s) (svPi pi sz) (up2 mi 0 0 (nI (svQ sz + 1))) po)) (AX 113 a zz)) 0 0 (AX 113 a zz) := by
  refine mgo (by decide) (Nat.le_of_ble_eq_true rfl) ?_
  intro p e z m below meth c hx hb hr hml hown hts hlocks hB ls hl
  obtain ⟨hsz, hP, hK, hE⟩ := hB
  subst hsz
  have hS : va_S (AX 113 a z.heap.size) z.heap z.heap [] := va_S.rf
  have hl : lv_has ls 1 [(0, .ref (a 112))] := hl
  refine lv_aload_n hx hb dX6_goBack_0 rfl (lv_at hl 0 rfl) ?_
  refine g_get hx hb hts hown inA6 hK hP 112 (by decide) xc112 rfl 2 (by decide) tw162 rfl (v := .int (mi 0 2)) rfl dX6_goBack_1 ?_
  refine lv_if_ne (tgt := 17) hx hb dX6_goBack_4 (by decide) (fun _ => ?_) (fun h0 => absurd h0 hsn)
  refine lv_aload_n hx hb dX6_goBack_17 rfl (lv_at hl 0 rfl) ?_
  refine g_get hx hb hts hown inA6 hK hP 112 (by decide) xc112 rfl 3 (by decide) tw163 rfl (v := .ref (a 104)) rfl dX6_goBack_18 ?_
  refine lv_aload_n hx hb dX6_goBack_21 rfl (lv_at hl 0 rfl) ?_
  refine g_get hx hb hts hown inA6 hK hP 112 (by decide) xc112 rfl 0 (by decide) tw160 rfl (v := .ref (a 0)) rfl dX6_goBack_22 ?_
  refine rw_v hS (va_runV (As := [.ref (a 0)]) (rest := []) ⟨hx, hb, hml, hown, hts⟩ (m_X1_save l D cI cS a s st pi mi po sz (by omega) hs0 hpi _) (cwV 1 hts (gV tw186 tw183 tw184 tw185 tw5) rfl rfl rfl (by decide +kernel) ⟨Nat.le_of_ble_eq_true rfl, Nat.le_of_ble_eq_true rfl⟩) (pvW 104 hK hP hE (by decide) xc104 rfl) rfl rfl hl.1 rfl (lv_room (Nat.le_of_ble_eq_true rfl)) dX6_goBack_25 ⟨Nat.le_of_ble_eq_true rfl, Nat.le_of_ble_eq_true rfl⟩) (fun u3 H locs hr1 hP hS => ?_)
  refine lv_aload_n hx hb dX6_goBack_28 rfl (lv_at hl 0 rfl) ?_
  refine g_get hx hb hts hown inA6 hK hP 112 (by decide) xc112 rfl 0 (by decide) tw160 rfl (v := .ref (a 0)) rfl dX6_goBack_29 ?_
  refine lv_aload_n hx hb dX6_goBack_32 rfl (lv_at hl 0 rfl) ?_
  refine g_get hx hb hts hown inA6 hK hP 112 (by decide) xc112 rfl 1 (by decide) tw161 rfl (v := .ref (a 13)) rfl dX6_goBack_33 ?_
  refine rw_vS (sub := subS 0 1) (ex' := exC cI cS a (up8s s 0 (S8 s (va_up st (svPi pi sz (svQ sz) + 1) s) 1)) (up8t (va_up st (svPi pi sz (svQ sz) + 1) s) 0 (S8 s (va_up st (svPi pi sz (svQ sz) + 1) s) 1)) (svPi pi sz) (up2 mi 0 0 (nI (svQ sz + 1))) po) hS hP hE (subS_lt (by omega) (by omega)) (e2C_up (by omega) (by omega) (by omega) rfl) (e2C_un (by omega)) (va_runV (As := [.ref (a 13)]) (rest := []) ⟨hx, hb, hml, hown, hts⟩ (m_X4_copyFrom l D cI cS (fun k => a (subS 0 1 k)) (S8 s (va_up st (svPi pi sz (svQ sz) + 1) s) 0) (S8 s (va_up st (svPi pi sz (svQ sz) + 1) s) 1) _) (cwV 1 hts (gV tw198 tw271 tw196 tw197 tw2) rfl rfl rfl (by decide +kernel) ⟨Nat.le_of_ble_eq_true rfl, Nat.le_of_ble_eq_true rfl⟩) (pvW' (13 * 0 + 0) rfl hK hP (by omega) (exC_S8 (i := 0) (k := 0) (by omega) (by omega)) rfl (hp_sub hP (subS_lt (by omega) (by omega)) (e2C_sub (by omega) (by omega))) (di_sub hE (subS_lt (by omega) (by omega)) (subS_inj (by omega)))) rfl rfl hl.1 rfl (lv_room (Nat.le_of_ble_eq_true rfl)) dX6_goBack_36 ⟨Nat.le_of_ble_eq_true rfl, Nat.le_of_ble_eq_true rfl⟩) (fun H locs hP hS => ?_)
  have hP : HP D 113 a (exC cI cS a (st 0) (va_up st (svPi pi sz (svQ sz) + 1) s) (svPi pi sz) (up2 mi 0 0 (nI (svQ sz + 1))) po) H := by exact hP
  refine lv_aload_n hx hb dX6_goBack_39 rfl (lv_at hl 0 rfl) ?_
  refine g_get hx hb hts hown inA6 hK hP 112 (by decide) xc112 rfl 0 (by decide) tw160 rfl (v := .ref (a 0)) rfl dX6_goBack_40 ?_
  refine g_getN hx hb hts hown inA4 hK hP 0 (by decide) xc0 rfl 3 (by decide) tn93 rfl (v := .int ((st 0) 0 1)) rfl dX6_goBack_43 ?_
  exact rw_ir hx hb hr rfl hlocks hS () hP rfl dX6_goBack_46

set_option maxHeartbeats 4000000 in
set_option maxRecDepth 100000 in
theorem m_X6_undo (l : Launch) (D : va_G) (cI cS : ClassId) (a : Nat → Nat) (s : St) (st : Nat → St) (pi : Nat → Nat) (mi po : St) (sz : Nat) (hsz : sz ≤ 6) (hs0 : mi 0 0 = nI sz) (hpi : ∀ k, k < 6 → pi k < 6) (h1 : 1 ≤ sz) (zz : Nat) : Met l yX6_undo (.code yX6_undo cX6_undo 1 (some .int) :: wsA) ({ frames := 4, cells := 0, slots := 0, locals := 86 } : Room) (va_Pc [.ref (a 112)] (PW D cI cS 113 a (exC cI cS a s st pi mi po) zz)) (va_Qi (fun (r : Int32) (u : Unit) => r = nI (sz - 1)) (BW D 113 a (fun u => exC cI cS a (st (pi (sz - 1) + 1)) st pi (up2 mi 0 0 (nI (sz - 1))) po)) (AX 113 a zz)) 0 0 (AX 113 a zz) := by
  refine mgo (by decide) (Nat.le_of_ble_eq_true rfl) ?_
  intro p e z m below meth c hx hb hr hml hown hts hlocks hB ls hl
  obtain ⟨hsz, hP, hK, hE⟩ := hB
  subst hsz
  have hS : va_S (AX 113 a z.heap.size) z.heap z.heap [] := va_S.rf
  have hl : lv_has ls 1 [(0, .ref (a 112))] := hl
  refine lv_aload_n hx hb dX6_undo_0 rfl (lv_at hl 0 rfl) ?_
  refine g_get hx hb hts hown inA6 hK hP 112 (by decide) xc112 rfl 3 (by decide) tw163 rfl (v := .ref (a 104)) rfl dX6_undo_1 ?_
  refine g_getN hx hb hts hown inA1 hK hP 104 (by decide) xc104 rfl 1 (by decide) tn122 rfl (v := .int (mi 0 0)) rfl dX6_undo_4 ?_
  refine lv_if_ne (tgt := 20) hx hb dX6_undo_7 (by decide) (fun _ => ?_) (fun h0 => absurd h0 (fun h => by have := (nI_eq2 (p := sz) (q := 0) hs0 rfl (by omega) (by omega)).mp h; omega))
  refine lv_aload_n hx hb dX6_undo_20 rfl (lv_at hl 0 rfl) ?_
  refine g_get hx hb hts hown inA6 hK hP 112 (by decide) xc112 rfl 3 (by decide) tw163 rfl (v := .ref (a 104)) rfl dX6_undo_21 ?_
  refine lv_aload_n hx hb dX6_undo_24 rfl (lv_at hl 0 rfl) ?_
  refine g_get hx hb hts hown inA6 hK hP 112 (by decide) xc112 rfl 0 (by decide) tw160 rfl (v := .ref (a 0)) rfl dX6_undo_25 ?_
  refine rw_v hS (va_runV (As := [.ref (a 0)]) (rest := []) ⟨hx, hb, hml, hown, hts⟩ (m_X1_restore l D cI cS a s st pi mi po sz (by omega) hs0 hpi (by omega) _) (cwV 1 hts (gV tw712 tw709 tw710 tw711 tw5) rfl rfl rfl (by decide +kernel) ⟨Nat.le_of_ble_eq_true rfl, Nat.le_of_ble_eq_true rfl⟩) (pvW 104 hK hP hE (by decide) xc104 rfl) rfl rfl hl.1 rfl (lv_room (Nat.le_of_ble_eq_true rfl)) dX6_undo_28 ⟨Nat.le_of_ble_eq_true rfl, Nat.le_of_ble_eq_true rfl⟩) (fun u3 H locs hr1 hP hS => ?_)
  refine lv_aload_n hx hb dX6_undo_31 rfl (lv_at hl 0 rfl) ?_
  refine g_get hx hb hts hown inA6 hK hP 112 (by decide) xc112 rfl 3 (by decide) tw163 rfl (v := .ref (a 104)) rfl dX6_undo_32 ?_
  refine g_getN hx hb hts hown inA1 hK hP 104 (by decide) xc104 rfl 1 (by decide) tn122 rfl (v := .int (nI (sz - 1))) rfl dX6_undo_35 ?_
  exact rw_ir hx hb hr rfl hlocks hS () hP rfl dX6_undo_38
