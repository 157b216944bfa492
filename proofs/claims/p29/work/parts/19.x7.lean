theorem nI_cl {n : Nat} (h : n < 2147483648) : (nI n).toNatClampNeg = n := by
  show (Int32.toInt (Int32.ofNat n)).toNat = n
  rw [Int32.toInt_ofNat_of_lt h]
  rfl
set_option maxHeartbeats 4000000 in
set_option maxRecDepth 100000 in
theorem m_X6_count (l : Launch) (D : va_G) (cI cS : ClassId) (a : Nat → Nat) (s : St) (st : Nat → St) (pi : Nat → Nat) (mi po : St) (sz q : Nat) (hq : q < 14) (hs0 : mi 0 0 = nI sz) (zz : Nat) : Met l yX6_count (.code yX6_count cX6_count 2 (some .int) :: wsA) ({ frames := 5, cells := 0, slots := 0, locals := 108 } : Room) (va_Pc [.ref (a 112), .int (nI q)] (PW D cI cS 113 a (exC cI cS a s st pi mi po) zz)) (va_Qi (fun (r : Int32) (u : St) => r = counN s sz q) (BW D 113 a (fun u => exC cI cS a s st pi mi u)) (AX 113 a zz)) 0 0 (AX 113 a zz) := by
  refine mgo (by decide) (Nat.le_of_ble_eq_true rfl) ?_
  intro p e z m below meth c hx hb hr hml hown hts hlocks hB ls hl
  obtain ⟨hsz, hP, hK, hE⟩ := hB
  subst hsz
  have hS : va_S (AX 113 a z.heap.size) z.heap z.heap [] := va_S.rf
  have hl : lv_has ls 2 [(0, .ref (a 112)), (1, .int (nI q))] := hl
  refine lv_iload_n hx hb dX6_count_0 rfl (lv_at hl 1 rfl) ?_
  refine lv_if_lt (tgt := 10) hx hb dX6_count_1 (by decide) (fun h0 => absurd h0 (fun h => by have := (nI_lt2 (p := q) (q := 0) rfl rfl (by omega) (by omega)).mp h; omega)) (fun _ => ?_)
  refine lv_iload_n hx hb dX6_count_4 rfl (lv_at hl 1 rfl) ?_
  refine lv_bipush (v := 14) hx hb dX6_count_5 (by decide) ?_
  refine lv_icmp_lt (tgt := 20) hx hb dX6_count_7 (by decide) (fun _ => ?_) (fun h0 => absurd ((nI_lt2 (p := q) (q := 14) rfl rfl (by omega) (by omega)).mpr (by omega)) h0)
  refine lv_iload_n hx hb dX6_count_20 rfl (lv_at hl 1 rfl) ?_
  refine lv_bipush (v := 7) hx hb dX6_count_21 (by decide) ?_
  refine lv_icmp_ge (tgt := 34) hx hb dX6_count_23 (by decide) (fun c1 => ?_) (fun c1 => ?_)
  · skip
    have c1x := Int32.not_lt.mpr c1
    have c1n := (nI_le2 (p := 7) (q := q) rfl rfl (by omega) (by omega)).mp c1
    have c1n : 7 ≤ q := c1n
    refine lv_aload_n hx hb dX6_count_34 rfl (lv_at hl 0 rfl) ?_
    refine lv_iload_n hx hb dX6_count_35 rfl (lv_at hl 1 rfl) ?_
    refine ro_i (va_runV (As := [.int (nI q)]) (rest := []) ⟨hx, hb, hml, hown, hts⟩ (m_X6_sumNumber l D cI cS a s st pi mi po sz q ⟨by omega, by omega⟩ hs0) (cwV 1 hts (gV tw323 tw320 tw322 ts7 tw1) rfl rfl rfl (by decide +kernel) ⟨Nat.le_of_ble_eq_true rfl, Nat.le_of_ble_eq_true rfl⟩) (pvR 112 hK hP (by decide) xc112 rfl) rfl rfl hl.1 rfl (lv_room (Nat.le_of_ble_eq_true rfl)) dX6_count_36 ⟨Nat.le_of_ble_eq_true rfl, Nat.le_of_ble_eq_true rfl⟩) (fun r3 hr2 => ?_)
    subst hr2
    exact rw_ir hx hb hr rfl hlocks hS po hP rfl dX6_count_39
  · skip
    have c1x := Int32.not_le.mp c1
    have c1n := fun hq0 => c1 ((nI_le2 (p := 7) (q := q) rfl rfl (by omega) (by omega)).mpr hq0)
    have c1n : ¬ (7 ≤ q) := c1n
    refine lv_aload_n hx hb dX6_count_26 rfl (lv_at hl 0 rfl) ?_
    refine lv_iload_n hx hb dX6_count_27 rfl (lv_at hl 1 rfl) ?_
    refine rw_i hS (va_runV (As := [.int (nI q)]) (rest := []) ⟨hx, hb, hml, hown, hts⟩ (m_X6_townNumber l D cI cS a s st pi mi po sz q (by omega) _) (cwV 1 hts (gV tw251 tw248 tw250 ts1 tw1) rfl rfl rfl (by decide +kernel) ⟨Nat.le_of_ble_eq_true rfl, Nat.le_of_ble_eq_true rfl⟩) (pvW 112 hK hP hE (by decide) xc112 rfl) rfl rfl hl.1 rfl (lv_room (Nat.le_of_ble_eq_true rfl)) dX6_count_28 ⟨Nat.le_of_ble_eq_true rfl, Nat.le_of_ble_eq_true rfl⟩) (fun r6 u7 H locs hr5 hP hS => ?_)
    subst hr5
    refine lv_goto (tgt := 39) hx hb dX6_count_31 (by decide) ?_
    exact rw_ir hx hb hr rfl hlocks hS u7 hP rfl dX6_count_39

set_option maxHeartbeats 4000000 in
set_option maxRecDepth 100000 in
theorem m_X6_dial (l : Launch) (D : va_G) (cI cS : ClassId) (a : Nat → Nat) (s : St) (st : Nat → St) (pi : Nat → Nat) (mi po : St) (d q : Nat) (hd : d < 7) (hq : q < 7) : Met l yX6_dial (.code yX6_dial cX6_dial 3 (some .int) :: wsA) ({ frames := 3, cells := 0, slots := 0, locals := 64 } : Room) (va_Pc [.ref (a 112), .int (nI d), .int (nI q)] (PR D cI cS 113 a (exC cI cS a s st pi mi po))) (vp_Si (fun r => r = dialN s d q)) 0 0 (fun _ => False) := by
  refine mgo (by decide) (Nat.le_of_ble_eq_true rfl) ?_
  intro p e z m below meth c hx hb hr hml hown hts hlocks hB ls hl
  obtain ⟨hP, hK⟩ := hB
  have hl : lv_has ls 3 [(0, .ref (a 112)), (1, .int (nI d)), (2, .int (nI q))] := hl
  refine lv_iload_n hx hb dX6_dial_0 rfl (lv_at hl 1 rfl) ?_
  refine ro_v (va_runS (As := [.int (nI d)]) (rest := []) ⟨hx, hb, hml, hown, hts⟩ (m_X6_mustBeDial l d (by omega)) (va_cwS 1 hts (gS tw458 tw456 tw457 tw1) rfl rfl rfl (by decide +kernel) ⟨Nat.le_of_ble_eq_true rfl, Nat.le_of_ble_eq_true rfl⟩) ps0 rfl rfl hl.1 rfl (lv_room (Nat.le_of_ble_eq_true rfl)) dX6_dial_1 ⟨Nat.le_of_ble_eq_true rfl, Nat.le_of_ble_eq_true rfl⟩) (fun hr1 => ?_)
  refine lv_iload_n hx hb dX6_dial_4 rfl (lv_at hl 2 rfl) ?_
  refine lv_if_lt (tgt := 14) hx hb dX6_dial_5 (by decide) (fun h0 => absurd h0 (fun h => by have := (nI_lt2 (p := q) (q := 0) rfl rfl (by omega) (by omega)).mp h; omega)) (fun _ => ?_)
  refine lv_iload_n hx hb dX6_dial_8 rfl (lv_at hl 2 rfl) ?_
  refine lv_bipush (v := 7) hx hb dX6_dial_9 (by decide) ?_
  refine lv_icmp_lt (tgt := 24) hx hb dX6_dial_11 (by decide) (fun _ => ?_) (fun h0 => absurd ((nI_lt2 (p := q) (q := 7) rfl rfl (by omega) (by omega)).mpr (by omega)) h0)
  refine lv_aload_n hx hb dX6_dial_24 rfl (lv_at hl 0 rfl) ?_
  refine lv_iload_n hx hb dX6_dial_25 rfl (lv_at hl 1 rfl) ?_
  refine lv_iload_n hx hb dX6_dial_26 rfl (lv_at hl 2 rfl) ?_
  refine ro_i (va_runV (As := [.int (nI d), .int (nI q)]) (rest := []) ⟨hx, hb, hml, hown, hts⟩ (m_X6_dialNumber l D cI cS a s st pi mi po d q (by omega) (by omega)) (cwV 2 hts (gV tw526 tw523 tw525 ts15 tw1) rfl rfl rfl (by decide +kernel) ⟨Nat.le_of_ble_eq_true rfl, Nat.le_of_ble_eq_true rfl⟩) (pvR 112 hK hP (by decide) xc112 rfl) rfl rfl hl.1 rfl (lv_room (Nat.le_of_ble_eq_true rfl)) dX6_dial_27 ⟨Nat.le_of_ble_eq_true rfl, Nat.le_of_ble_eq_true rfl⟩) (fun r5 hr4 => ?_)
  subst hr4
  exact ro_ir hx hb hr rfl hlocks rfl dX6_dial_30

set_option maxHeartbeats 4000000 in
set_option maxRecDepth 100000 in
theorem m_X6_says (l : Launch) (D : va_G) (cI cS : ClassId) (a : Nat → Nat) (s : St) (st : Nat → St) (pi : Nat → Nat) (mi po : St) (w q : Nat) (hw : w < 7) (hq : q < 6) (zz : Nat) : Met l yX6_says (.code yX6_says cX6_says 3 (some .int) :: wsA) ({ frames := 5, cells := 0, slots := 0, locals := 109 } : Room) (va_Pc [.ref (a 112), .int (nI w), .int (nI q)] (PW D cI cS 113 a (exC cI cS a s st pi mi po) zz)) (va_Qi (fun (r : Int32) (u : St) => r = wardN s w q) (BW D 113 a (fun u => exC cI cS a s st pi mi u)) (AX 113 a zz)) 0 0 (AX 113 a zz) := by
  refine mgo (by decide) (Nat.le_of_ble_eq_true rfl) ?_
  intro p e z m below meth c hx hb hr hml hown hts hlocks hB ls hl
  obtain ⟨hsz, hP, hK, hE⟩ := hB
  subst hsz
  have hS : va_S (AX 113 a z.heap.size) z.heap z.heap [] := va_S.rf
  have hl : lv_has ls 3 [(0, .ref (a 112)), (1, .int (nI w)), (2, .int (nI q))] := hl
  refine lv_iload_n hx hb dX6_says_0 rfl (lv_at hl 1 rfl) ?_
  refine ro_v (va_runS (As := [.int (nI w)]) (rest := []) ⟨hx, hb, hml, hown, hts⟩ (m_X6_mustBeDial l w (by omega)) (va_cwS 1 hts (gS tw458 tw456 tw457 tw1) rfl rfl rfl (by decide +kernel) ⟨Nat.le_of_ble_eq_true rfl, Nat.le_of_ble_eq_true rfl⟩) ps0 rfl rfl hl.1 rfl (lv_room (Nat.le_of_ble_eq_true rfl)) dX6_says_1 ⟨Nat.le_of_ble_eq_true rfl, Nat.le_of_ble_eq_true rfl⟩) (fun hr1 => ?_)
  refine lv_iload_n hx hb dX6_says_4 rfl (lv_at hl 2 rfl) ?_
  refine lv_if_lt (tgt := 14) hx hb dX6_says_5 (by decide) (fun h0 => absurd h0 (fun h => by have := (nI_lt2 (p := q) (q := 0) rfl rfl (by omega) (by omega)).mp h; omega)) (fun _ => ?_)
  refine lv_iload_n hx hb dX6_says_8 rfl (lv_at hl 2 rfl) ?_
  refine lv_bipush (v := 6) hx hb dX6_says_9 (by decide) ?_
  refine lv_icmp_lt (tgt := 24) hx hb dX6_says_11 (by decide) (fun _ => ?_) (fun h0 => absurd ((nI_lt2 (p := q) (q := 6) rfl rfl (by omega) (by omega)).mpr (by omega)) h0)
  refine lv_aload_n hx hb dX6_says_24 rfl (lv_at hl 0 rfl) ?_
  refine lv_iload_n hx hb dX6_says_25 rfl (lv_at hl 1 rfl) ?_
  refine lv_iload_n hx hb dX6_says_26 rfl (lv_at hl 2 rfl) ?_
  refine rw_i hS (va_runV (As := [.int (nI w), .int (nI q)]) (rest := []) ⟨hx, hb, hml, hown, hts⟩ (m_X6_wardenNumber l D cI cS a s st pi mi po w q (by omega) (by omega) _) (cwV 2 hts (gV tw551 tw548 tw550 ts16 tw1) rfl rfl rfl (by decide +kernel) ⟨Nat.le_of_ble_eq_true rfl, Nat.le_of_ble_eq_true rfl⟩) (pvW 112 hK hP hE (by decide) xc112 rfl) rfl rfl hl.1 rfl (lv_room (Nat.le_of_ble_eq_true rfl)) dX6_says_27 ⟨Nat.le_of_ble_eq_true rfl, Nat.le_of_ble_eq_true rfl⟩) (fun r5 u6 H locs hr4 hP hS => ?_)
  subst hr4
  exact rw_ir hx hb hr rfl hlocks hS u6 hP rfl dX6_says_30

set_option maxHeartbeats 4000000 in
set_option maxRecDepth 100000 in
theorem m_X6_setting (l : Launch) (D : va_G) (cI cS : ClassId) (a : Nat → Nat) (s : St) (st : Nat → St) (pi : Nat → Nat) (mi po : St) (q : Nat) (hq : q < 2) : Met l yX6_setting (.code yX6_setting cX6_setting 2 (some .int) :: wsA) ({ frames := 1, cells := 0, slots := 0, locals := 20 } : Room) (va_Pc [.ref (a 112), .int (nI q)] (PR D cI cS 113 a (exC cI cS a s st pi mi po))) (vp_Si (fun r => r = s 10 q)) 0 0 (fun _ => False) := by
  refine mgo (by decide) (Nat.le_of_ble_eq_true rfl) ?_
  intro p e z m below meth c hx hb hr hml hown hts hlocks hB ls hl
  obtain ⟨hP, hK⟩ := hB
  have hl : lv_has ls 2 [(0, .ref (a 112)), (1, .int (nI q))] := hl
  refine lv_iload_n hx hb dX6_setting_0 rfl (lv_at hl 1 rfl) ?_
  refine ro_v (va_runS (As := [.int (nI q)]) (rest := []) ⟨hx, hb, hml, hown, hts⟩ (m_X6_mustBeSetting l q (by omega)) (va_cwS 1 hts (gS tw499 tw497 tw498 tw1) rfl rfl rfl (by decide +kernel) ⟨Nat.le_of_ble_eq_true rfl, Nat.le_of_ble_eq_true rfl⟩) ps0 rfl rfl hl.1 rfl (lv_room (Nat.le_of_ble_eq_true rfl)) dX6_setting_1 ⟨Nat.le_of_ble_eq_true rfl, Nat.le_of_ble_eq_true rfl⟩) (fun hr1 => ?_)
  refine lv_aload_n hx hb dX6_setting_4 rfl (lv_at hl 0 rfl) ?_
  refine g_get hx hb hts hown inA6 hK hP 112 (by decide) xc112 rfl 0 (by decide) tw157 rfl (v := .ref (a 0)) rfl dX6_setting_5 ?_
  refine g_getN hx hb hts hown inA4 hK hP 0 (by decide) xc0 rfl 2 (by decide) tn90 rfl (v := .ref (a 12)) rfl dX6_setting_8 ?_
  refine lv_iload_n hx hb dX6_setting_11 rfl (lv_at hl 1 rfl) ?_
  refine g_iald hx hb hK hP 12 (by decide) xc12 q rfl (by omega) (by decide) dX6_setting_12 (v := s 10 q) rfl ?_
  exact ro_ir hx hb hr rfl hlocks rfl dX6_setting_13

set_option maxHeartbeats 4000000 in
set_option maxRecDepth 100000 in
theorem m_X6_without (l : Launch) (D : va_G) (cI cS : ClassId) (a : Nat → Nat) (s : St) (st : Nat → St) (pi : Nat → Nat) (mi po : St) (w : Nat) (hw : w < 7) (zz : Nat) : Met l yX6_without (.code yX6_without cX6_without 2 (some .int) :: wsA) ({ frames := 4, cells := 0, slots := 0, locals := 88 } : Room) (va_Pc [.ref (a 112), .int (nI w)] (PW D cI cS 113 a (exC cI cS a s st pi mi po) zz)) (va_Qi (fun (r : Int32) (u : St) => r = midW s w 0) (BW D 113 a (fun u => exC cI cS a s st pi mi u)) (AX 113 a zz)) 0 0 (AX 113 a zz) := by
  refine mgo (by decide) (Nat.le_of_ble_eq_true rfl) ?_
  intro p e z m below meth c hx hb hr hml hown hts hlocks hB ls hl
  obtain ⟨hsz, hP, hK, hE⟩ := hB
  subst hsz
  have hS : va_S (AX 113 a z.heap.size) z.heap z.heap [] := va_S.rf
  have hl : lv_has ls 2 [(0, .ref (a 112)), (1, .int (nI w))] := hl
  refine lv_iload_n hx hb dX6_without_0 rfl (lv_at hl 1 rfl) ?_
  refine ro_v (va_runS (As := [.int (nI w)]) (rest := []) ⟨hx, hb, hml, hown, hts⟩ (m_X6_mustBeDial l w (by omega)) (va_cwS 1 hts (gS tw458 tw456 tw457 tw1) rfl rfl rfl (by decide +kernel) ⟨Nat.le_of_ble_eq_true rfl, Nat.le_of_ble_eq_true rfl⟩) ps0 rfl rfl hl.1 rfl (lv_room (Nat.le_of_ble_eq_true rfl)) dX6_without_1 ⟨Nat.le_of_ble_eq_true rfl, Nat.le_of_ble_eq_true rfl⟩) (fun hr1 => ?_)
  refine lv_aload_n hx hb dX6_without_4 rfl (lv_at hl 0 rfl) ?_
  refine lv_iload_n hx hb dX6_without_5 rfl (lv_at hl 1 rfl) ?_
  refine lv_iconst (v := 0) hx hb dX6_without_6 (by decide) ?_
  refine rw_i hS (va_runV (As := [.int (nI w), .int 0]) (rest := []) ⟨hx, hb, hml, hown, hts⟩ (m_X6_middleIf l D cI cS a s st pi mi po w (by omega) 0 _) (cwV 2 hts (gV tw590 tw587 tw589 ts18 tw1) rfl rfl rfl (by decide +kernel) ⟨Nat.le_of_ble_eq_true rfl, Nat.le_of_ble_eq_true rfl⟩) (pvW 112 hK hP hE (by decide) xc112 rfl) rfl rfl hl.1 rfl (lv_room (Nat.le_of_ble_eq_true rfl)) dX6_without_7 ⟨Nat.le_of_ble_eq_true rfl, Nat.le_of_ble_eq_true rfl⟩) (fun r5 u6 H locs hr4 hP hS => ?_)
  subst hr4
  exact rw_ir hx hb hr rfl hlocks hS u6 hP rfl dX6_without_10

set_option maxHeartbeats 4000000 in
set_option maxRecDepth 100000 in
theorem m_X6_pivot (l : Launch) (D : va_G) (cI cS : ClassId) (a : Nat → Nat) (s : St) (st : Nat → St) (pi : Nat → Nat) (mi po : St) (zz : Nat) : Met l yX6_pivot (.code yX6_pivot cX6_pivot 7 (some .int) :: wsA) ({ frames := 4, cells := 0, slots := 0, locals := 88 } : Room) (va_Pc [.ref (a 112)] (PW D cI cS 113 a (exC cI cS a s st pi mi po) zz)) (va_Qi (fun (r : Int32) (u : St) => r = pivI s) (BW D 113 a (fun u => exC cI cS a s st pi mi u)) (AX 113 a zz)) 0 0 (AX 113 a zz) := by
  refine mgo (by decide) (Nat.le_of_ble_eq_true rfl) ?_
  intro p e z m below meth c hx hb hr hml hown hts hlocks hB ls hl
  obtain ⟨hsz, hP, hK, hE⟩ := hB
  subst hsz
  have hS : va_S (AX 113 a z.heap.size) z.heap z.heap [] := va_S.rf
  have hl : lv_has ls 7 [(0, .ref (a 112))] := hl
  refine lv_aload_n hx hb dX6_pivot_0 rfl (lv_at hl 0 rfl) ?_
  refine rw_i hS (va_runV (As := []) (rest := []) ⟨hx, hb, hml, hown, hts⟩ (m_X6_middleNow l D cI cS a s st pi mi po _) (cwV 0 hts (gV tw255 tw252 tw254 ts2 tw1) rfl rfl rfl (by decide +kernel) ⟨Nat.le_of_ble_eq_true rfl, Nat.le_of_ble_eq_true rfl⟩) (pvW 112 hK hP hE (by decide) xc112 rfl) rfl rfl hl.1 rfl (lv_room (Nat.le_of_ble_eq_true rfl)) dX6_pivot_1 ⟨Nat.le_of_ble_eq_true rfl, Nat.le_of_ble_eq_true rfl⟩) (fun r2 u3 H locs hr1 hP hS => ?_)
  obtain ⟨hr9, hpw⟩ := hr1; subst hr9
  refine lv_istore_n (lv' := [(1, .int (midI (wordA s) (s 7))), (0, .ref (a 112))]) hx hb dX6_pivot_4 rfl hl (by decide) rfl (fun ls hl => ?_)
  refine lv_iload_n hx hb dX6_pivot_5 rfl (lv_at hl 0 rfl) ?_
  refine lv_iconst (v := (-1)) hx hb dX6_pivot_6 (by decide) ?_
  refine lv_icmp_ne (tgt := 12) hx hb dX6_pivot_7 (by decide) (fun c4 => ?_) (fun c4 => ?_)
  · skip
    have hm1 := c4
    refine lv_iconst (v := (-1)) hx hb dX6_pivot_12 (by decide) ?_
    refine lv_istore_n (lv' := [(2, .int (-1)), (1, .int (midI (wordA s) (s 7))), (0, .ref (a 112))]) hx hb dX6_pivot_13 rfl hl (by decide) rfl (fun ls hl => ?_)
    refine lv_iconst (v := (-1)) hx hb dX6_pivot_14 (by decide) ?_
    refine lv_istore_n (lv' := [(3, .int (-1)), (2, .int (-1)), (1, .int (midI (wordA s) (s 7))), (0, .ref (a 112))]) hx hb dX6_pivot_15 rfl hl (by decide) rfl (fun ls hl => ?_)
    refine lv_iconst (v := 0) hx hb dX6_pivot_16 (by decide) ?_
    refine lv_istore (lv' := [(4, .int 0), (3, .int (-1)), (2, .int (-1)), (1, .int (midI (wordA s) (s 7))), (0, .ref (a 112))]) hx hb dX6_pivot_17 hl (by decide) rfl (fun ls hl => ?_)
    have loop19 : ∀ (fu : Nat) (j : Nat) (bv : Int32) (xv : Int32) (t : St), 7 + 1 ≤ j + fu → (j ≤ 7) → (pvF s (midI (wordA s) (s 7)) j = (bv, xv)) → ∀ (H : Heap) (locs : List Loc), HP D 113 a (exC cI cS a s st pi mi t) H → va_S (AX 113 a z.heap.size) z.heap H locs → ∀ ls : Array Slot, lv_has ls 7 [(0, .ref (a 112)), (1, .int (midI (wordA s) (s 7))), (2, .int bv), (3, .int xv), (4, .int (nI j))] → W p l e ({ frames := 4, cells := 0, slots := 0, locals := 88 } : Room) z m ([.ref (a 112)] : List Value).toArray below meth c H locs 0 0 (MQ below (va_Qi (fun (r : Int32) (u : St) => r = pivI s) (BW D 113 a (fun u => exC cI cS a s st pi mi u)) (AX 113 a z.heap.size)) ([.ref (a 112)] : List Value).toArray z 0 0 (AX 113 a z.heap.size)) (F0 m 19 ls []) := by
      intro fu
      induction fu with
      | zero => intro j bv xv t hn hj hv; exact absurd hn (by omega)
      | succ fu ih19 =>
        intro j bv xv t hn hj hv H locs hP hS ls hl
        refine lv_iload hx hb dX6_pivot_19 (lv_at hl 4 rfl) ?_
        refine lv_bipush (v := 7) hx hb dX6_pivot_21 (by decide) ?_
        refine lv_icmp_ge (tgt := 67) hx hb dX6_pivot_23 (by decide) (fun c5 => ?_) (fun c5 => ?_)
        · skip
          have c5x := Int32.not_lt.mpr c5
          have c5n := (nI_le2 (p := 7) (q := j) rfl rfl (by omega) (by omega)).mp c5
          have c5n : 7 ≤ j := c5n
          have hjq : 7 = j := by omega
          subst hjq
          refine lv_iload_n hx hb dX6_pivot_67 rfl (lv_at hl 2 rfl) ?_
          exact rw_ir hx hb hr rfl hlocks hS t hP (by unfold pivI; rw [if_neg hm1, hv]) dX6_pivot_68
        · skip
          have c5x := Int32.not_le.mp c5
          have c5n := fun hq0 => c5 ((nI_le2 (p := 7) (q := j) rfl rfl (by omega) (by omega)).mpr hq0)
          have c5n : ¬ (7 ≤ j) := c5n
          refine lv_aload_n hx hb dX6_pivot_26 rfl (lv_at hl 0 rfl) ?_
          refine lv_iload hx hb dX6_pivot_27 (lv_at hl 4 rfl) ?_
          refine lv_iconst (v := 0) hx hb dX6_pivot_29 (by decide) ?_
          refine rw_i hS (va_runV (As := [.int (nI j), .int 0]) (rest := []) ⟨hx, hb, hml, hown, hts⟩ (m_X6_middleIf l D cI cS a s st pi mi t j (by omega) 0 _) (cwV 2 hts (gV tw590 tw587 tw589 ts18 tw1) rfl rfl rfl (by decide +kernel) ⟨Nat.le_of_ble_eq_true rfl, Nat.le_of_ble_eq_true rfl⟩) (pvW 112 hK hP hE (by decide) xc112 rfl) rfl rfl hl.1 rfl (lv_room (Nat.le_of_ble_eq_true rfl)) dX6_pivot_30 ⟨Nat.le_of_ble_eq_true rfl, Nat.le_of_ble_eq_true rfl⟩) (fun r7 u8 H locs hr6 hP hS => ?_)
          subst hr6
          refine lv_istore (lv' := [(5, .int (midW s j 0)), (0, .ref (a 112)), (1, .int (midI (wordA s) (s 7))), (2, .int bv), (3, .int xv), (4, .int (nI j))]) hx hb dX6_pivot_33 hl (by decide) rfl (fun ls hl => ?_)
          refine lv_iload hx hb dX6_pivot_35 (lv_at hl 0 rfl) ?_
          refine lv_iload_n hx hb dX6_pivot_37 rfl (lv_at hl 2 rfl) ?_
          refine ro_i (va_runS (As := [.int (midW s j 0), .int (midI (wordA s) (s 7))]) (rest := []) ⟨hx, hb, hml, hown, hts⟩ (m_X6_distance l (midW s j 0) (midI (wordA s) (s 7))) (va_cwS 2 hts (gS tw319 tw333 tw318 tw1) rfl rfl rfl (by decide +kernel) ⟨Nat.le_of_ble_eq_true rfl, Nat.le_of_ble_eq_true rfl⟩) ps0 rfl rfl hl.1 rfl (lv_room (Nat.le_of_ble_eq_true rfl)) dX6_pivot_38 ⟨Nat.le_of_ble_eq_true rfl, Nat.le_of_ble_eq_true rfl⟩) (fun r10 hr9 => ?_)
          subst hr9
          refine lv_istore (lv' := [(6, .int (distI (midW s j 0) (midI (wordA s) (s 7)))), (5, .int (midW s j 0)), (0, .ref (a 112)), (1, .int (midI (wordA s) (s 7))), (2, .int bv), (3, .int xv), (4, .int (nI j))]) hx hb dX6_pivot_41 hl (by decide) rfl (fun ls hl => ?_)
          refine lv_iload hx hb dX6_pivot_43 (lv_at hl 1 rfl) ?_
          refine lv_iconst (v := (-1)) hx hb dX6_pivot_45 (by decide) ?_
          refine lv_icmp_eq (tgt := 61) hx hb dX6_pivot_46 (by decide) (fun c12 => ?_) (fun c12 => ?_)
          · skip
            refine lv_iinc (v := nI (j + 1)) (lv' := [(4, .int (nI (j + 1))), (6, .int (distI (midW s j 0) (midI (wordA s) (s 7)))), (5, .int (midW s j 0)), (0, .ref (a 112)), (1, .int (midI (wordA s) (s 7))), (2, .int bv), (3, .int xv)]) hx hb dX6_pivot_61 hl (k := 6) rfl (nI_add j 1) (by decide) rfl (fun ls hl => ?_)
            refine lv_goto (tgt := 19) hx hb dX6_pivot_64 (by decide) ?_
            exact ih19 (j + 1) bv xv u8 (by omega) (by omega) (by rw [pvF, hv]; simp [c5, c5x, c5n, c12]) _ _ hP hS ls (lv_sub hl [3, 4, 5, 6, 0] rfl)
          · skip
            refine lv_iload hx hb dX6_pivot_49 (lv_at hl 0 rfl) ?_
            refine lv_iload_n hx hb dX6_pivot_51 rfl (lv_at hl 5 rfl) ?_
            refine lv_icmp_le (tgt := 61) hx hb dX6_pivot_52 (by decide) (fun c13 => ?_) (fun c13 => ?_)
            · skip
              have c13x := Int32.not_lt.mpr c13
              refine lv_iinc (v := nI (j + 1)) (lv' := [(4, .int (nI (j + 1))), (6, .int (distI (midW s j 0) (midI (wordA s) (s 7)))), (5, .int (midW s j 0)), (0, .ref (a 112)), (1, .int (midI (wordA s) (s 7))), (2, .int bv), (3, .int xv)]) hx hb dX6_pivot_61 hl (k := 6) rfl (nI_add j 1) (by decide) rfl (fun ls hl => ?_)
              refine lv_goto (tgt := 19) hx hb dX6_pivot_64 (by decide) ?_
              exact ih19 (j + 1) bv xv u8 (by omega) (by omega) (by rw [pvF, hv]; simp [c5, c5x, c5n, c12, c13, c13x]) _ _ hP hS ls (lv_sub hl [3, 4, 5, 6, 0] rfl)
            · skip
              have c13x := Int32.not_le.mp c13
              refine lv_iload hx hb dX6_pivot_55 (lv_at hl 0 rfl) ?_
              refine lv_istore_n (lv' := [(3, .int (distI (midW s j 0) (midI (wordA s) (s 7)))), (6, .int (distI (midW s j 0) (midI (wordA s) (s 7)))), (5, .int (midW s j 0)), (0, .ref (a 112)), (1, .int (midI (wordA s) (s 7))), (2, .int bv), (4, .int (nI j))]) hx hb dX6_pivot_57 rfl hl (by decide) rfl (fun ls hl => ?_)
              refine lv_iload hx hb dX6_pivot_58 (lv_at hl 6 rfl) ?_
              refine lv_istore_n (lv' := [(2, .int (nI j)), (3, .int (distI (midW s j 0) (midI (wordA s) (s 7)))), (6, .int (distI (midW s j 0) (midI (wordA s) (s 7)))), (5, .int (midW s j 0)), (0, .ref (a 112)), (1, .int (midI (wordA s) (s 7))), (4, .int (nI j))]) hx hb dX6_pivot_60 rfl hl (by decide) rfl (fun ls hl => ?_)
              refine lv_iinc (v := nI (j + 1)) (lv' := [(4, .int (nI (j + 1))), (2, .int (nI j)), (3, .int (distI (midW s j 0) (midI (wordA s) (s 7)))), (6, .int (distI (midW s j 0) (midI (wordA s) (s 7)))), (5, .int (midW s j 0)), (0, .ref (a 112)), (1, .int (midI (wordA s) (s 7)))]) hx hb dX6_pivot_61 hl (k := 6) rfl (nI_add j 1) (by decide) rfl (fun ls hl => ?_)
              refine lv_goto (tgt := 19) hx hb dX6_pivot_64 (by decide) ?_
              exact ih19 (j + 1) (nI j) (distI (midW s j 0) (midI (wordA s) (s 7))) u8 (by omega) (by omega) (by rw [pvF, hv]; simp [c5, c5x, c5n, c12, c13, c13x]) _ _ hP hS ls (lv_sub hl [5, 6, 1, 2, 0] rfl)
    exact loop19 (7 + 1) 0 (-1) (-1) u3 (by omega) (by omega) rfl _ _ hP hS ls (lv_sub hl [4, 3, 2, 1, 0] rfl)
  · skip
    have hm1 := c4
    refine lv_iconst (v := (-1)) hx hb dX6_pivot_10 (by decide) ?_
    exact rw_ir hx hb hr rfl hlocks hS u3 hP (by unfold pivI; rw [if_pos hm1]) dX6_pivot_11

set_option maxHeartbeats 4000000 in
set_option maxRecDepth 100000 in
theorem m_X6_wins (l : Launch) (D : va_G) (cI cS : ClassId) (a : Nat → Nat) (s : St) (st : Nat → St) (pi : Nat → Nat) (mi po : St) (w : Nat) (hw : w < 7) (zz : Nat) : Met l yX6_wins (.code yX6_wins cX6_wins 4 (some .int) :: wsA) ({ frames := 4, cells := 0, slots := 0, locals := 88 } : Room) (va_Pc [.ref (a 112), .int (nI w)] (PW D cI cS 113 a (exC cI cS a s st pi mi po) zz)) (va_Qi (fun (r : Int32) (u : St) => r = winF s w 9 1) (BW D 113 a (fun u => exC cI cS a s st pi mi u)) (AX 113 a zz)) 0 0 (AX 113 a zz) := by
  refine mgo (by decide) (Nat.le_of_ble_eq_true rfl) ?_
  intro p e z m below meth c hx hb hr hml hown hts hlocks hB ls hl
  obtain ⟨hsz, hP, hK, hE⟩ := hB
  subst hsz
  have hS : va_S (AX 113 a z.heap.size) z.heap z.heap [] := va_S.rf
  have hl : lv_has ls 4 [(0, .ref (a 112)), (1, .int (nI w))] := hl
  refine lv_iload_n hx hb dX6_wins_0 rfl (lv_at hl 1 rfl) ?_
  refine ro_v (va_runS (As := [.int (nI w)]) (rest := []) ⟨hx, hb, hml, hown, hts⟩ (m_X6_mustBeDial l w (by omega)) (va_cwS 1 hts (gS tw458 tw456 tw457 tw1) rfl rfl rfl (by decide +kernel) ⟨Nat.le_of_ble_eq_true rfl, Nat.le_of_ble_eq_true rfl⟩) ps0 rfl rfl hl.1 rfl (lv_room (Nat.le_of_ble_eq_true rfl)) dX6_wins_1 ⟨Nat.le_of_ble_eq_true rfl, Nat.le_of_ble_eq_true rfl⟩) (fun hr1 => ?_)
  refine lv_aload_n hx hb dX6_wins_4 rfl (lv_at hl 0 rfl) ?_
  refine g_get hx hb hts hown inA6 hK hP 112 (by decide) xc112 rfl 0 (by decide) tw157 rfl (v := .ref (a 0)) rfl dX6_wins_5 ?_
  refine lv_iload_n hx hb dX6_wins_8 rfl (lv_at hl 1 rfl) ?_
  refine ro_i (va_runV (As := [.int (nI w)]) (rest := []) ⟨hx, hb, hml, hown, hts⟩ (m_X4_wordOf l D cI cS a s st pi mi po w (by omega)) (cwV 1 hts (gV tw263 tw552 tw261 tw262 tw2) rfl rfl rfl (by decide +kernel) ⟨Nat.le_of_ble_eq_true rfl, Nat.le_of_ble_eq_true rfl⟩) (pvR 0 hK hP (by decide) xc0 rfl) rfl rfl hl.1 rfl (lv_room (Nat.le_of_ble_eq_true rfl)) dX6_wins_9 ⟨Nat.le_of_ble_eq_true rfl, Nat.le_of_ble_eq_true rfl⟩) (fun r5 hr4 => ?_)
  subst hr4
  refine lv_istore_n (lv' := [(2, .int (wordA s w)), (0, .ref (a 112)), (1, .int (nI w))]) hx hb dX6_wins_12 rfl hl (by decide) rfl (fun ls hl => ?_)
  refine lv_iconst (v := 1) hx hb dX6_wins_13 (by decide) ?_
  refine lv_istore_n (lv' := [(3, .int 1), (2, .int (wordA s w)), (0, .ref (a 112)), (1, .int (nI w))]) hx hb dX6_wins_14 rfl hl (by decide) rfl (fun ls hl => ?_)
  have loop15 : ∀ (fu : Nat) (q : Nat) (t : St), 10 + 1 ≤ q + fu → (1 ≤ q ∧ q ≤ 10) → (winF s w 9 1 = winF s w (10 - q) q) → ∀ (H : Heap) (locs : List Loc), HP D 113 a (exC cI cS a s st pi mi t) H → va_S (AX 113 a z.heap.size) z.heap H locs → ∀ ls : Array Slot, lv_has ls 4 [(0, .ref (a 112)), (1, .int (nI w)), (2, .int (wordA s w)), (3, .int (nI q))] → W p l e ({ frames := 4, cells := 0, slots := 0, locals := 88 } : Room) z m ([.ref (a 112), .int (nI w)] : List Value).toArray below meth c H locs 0 0 (MQ below (va_Qi (fun (r : Int32) (u : St) => r = winF s w 9 1) (BW D 113 a (fun u => exC cI cS a s st pi mi u)) (AX 113 a z.heap.size)) ([.ref (a 112), .int (nI w)] : List Value).toArray z 0 0 (AX 113 a z.heap.size)) (F0 m 15 ls []) := by
    intro fu
    induction fu with
    | zero => intro q t hn hq hR; exact absurd hn (by omega)
    | succ fu ih15 =>
      intro q t hn hq hR H locs hP hS ls hl
      refine lv_iload_n hx hb dX6_wins_15 rfl (lv_at hl 3 rfl) ?_
      refine lv_bipush (v := 9) hx hb dX6_wins_16 (by decide) ?_
      refine lv_icmp_gt (tgt := 39) hx hb dX6_wins_18 (by decide) (fun c7 => ?_) (fun c7 => ?_)
      · skip
        have c7x := Int32.not_le.mpr c7
        have c7n := (nI_lt2 (p := 9) (q := q) rfl rfl (by omega) (by omega)).mp c7
        have c7n : 9 < q := c7n
        have hjq : 10 = q := by omega
        subst hjq
        refine lv_iconst (v := (-1)) hx hb dX6_wins_39 (by decide) ?_
        exact rw_ir hx hb hr rfl hlocks hS t hP (by rw [hR]; rfl) dX6_wins_40
      · skip
        have c7x := Int32.not_lt.mp c7
        have c7n := fun hq0 => c7 ((nI_lt2 (p := 9) (q := q) rfl rfl (by omega) (by omega)).mpr hq0)
        have c7n : ¬ (9 < q) := c7n
        refine lv_aload_n hx hb dX6_wins_21 rfl (lv_at hl 0 rfl) ?_
        refine lv_iload_n hx hb dX6_wins_22 rfl (lv_at hl 1 rfl) ?_
        refine lv_iload_n hx hb dX6_wins_23 rfl (lv_at hl 3 rfl) ?_
        refine rw_i hS (va_runV (As := [.int (nI w), .int (nI q)]) (rest := []) ⟨hx, hb, hml, hown, hts⟩ (m_X6_middleIf l D cI cS a s st pi mi t w (by omega) (nI q) _) (cwV 2 hts (gV tw590 tw587 tw589 ts18 tw1) rfl rfl rfl (by decide +kernel) ⟨Nat.le_of_ble_eq_true rfl, Nat.le_of_ble_eq_true rfl⟩) (pvW 112 hK hP hE (by decide) xc112 rfl) rfl rfl hl.1 rfl (lv_room (Nat.le_of_ble_eq_true rfl)) dX6_wins_24 ⟨Nat.le_of_ble_eq_true rfl, Nat.le_of_ble_eq_true rfl⟩) (fun r9 u10 H locs hr8 hP hS => ?_)
        subst hr8
        refine lv_iload_n hx hb dX6_wins_27 rfl (lv_at hl 2 rfl) ?_
        refine lv_icmp_ne (tgt := 33) hx hb dX6_wins_28 (by decide) (fun c11 => ?_) (fun c11 => ?_)
        · skip
          refine lv_iinc (v := nI (q + 1)) (lv' := [(3, .int (nI (q + 1))), (0, .ref (a 112)), (1, .int (nI w)), (2, .int (wordA s w))]) hx hb dX6_wins_33 hl (k := 3) rfl (nI_add q 1) (by decide) rfl (fun ls hl => ?_)
          refine lv_goto (tgt := 15) hx hb dX6_wins_36 (by decide) ?_
          exact ih15 (q + 1) u10 (by omega) (⟨by omega, by omega⟩) (by rw [hR, show 10 - q = (10 - (q + 1)) + 1 by omega, winF, if_neg c11]) _ _ hP hS ls (lv_sub hl [1, 2, 3, 0] rfl)
        · skip
          refine lv_iload_n hx hb dX6_wins_31 rfl (lv_at hl 3 rfl) ?_
          exact rw_ir hx hb hr rfl hlocks hS u10 hP (by rw [hR, show 10 - q = (10 - (q + 1)) + 1 by omega, winF, if_pos c11]) dX6_wins_32
  exact loop15 (10 + 1) 1 po (by omega) (⟨by omega, by omega⟩) rfl _ _ hP hS ls (lv_sub hl [2, 3, 1, 0] rfl)

set_option maxHeartbeats 4000000 in
set_option maxRecDepth 100000 in
theorem m_X6_quarrelIn (l : Launch) (D : va_G) (cI cS : ClassId) (a : Nat → Nat) (s : St) (st : Nat → St) (pi : Nat → Nat) (mi po : St) (d : Nat) (hd : d < 7) : Met l yX6_quarrelIn (.code yX6_quarrelIn cX6_quarrelIn 2 (some .int) :: wsA) ({ frames := 3, cells := 0, slots := 0, locals := 68 } : Room) (va_Pc [.ref (a 112), .int (nI d)] (PR D cI cS 113 a (exC cI cS a s st pi mi po))) (vp_Si (fun r => r = qF s d (behN d) 201 0 (s 1 d) (s 1 (behN d)))) 0 0 (fun _ => False) := by
  refine mgo (by decide) (Nat.le_of_ble_eq_true rfl) ?_
  intro p e z m below meth c hx hb hr hml hown hts hlocks hB ls hl
  obtain ⟨hP, hK⟩ := hB
  have hl : lv_has ls 2 [(0, .ref (a 112)), (1, .int (nI d))] := hl
  refine lv_iload_n hx hb dX6_quarrelIn_0 rfl (lv_at hl 1 rfl) ?_
  refine ro_v (va_runS (As := [.int (nI d)]) (rest := []) ⟨hx, hb, hml, hown, hts⟩ (m_X6_mustBeDial l d (by omega)) (va_cwS 1 hts (gS tw458 tw456 tw457 tw1) rfl rfl rfl (by decide +kernel) ⟨Nat.le_of_ble_eq_true rfl, Nat.le_of_ble_eq_true rfl⟩) ps0 rfl rfl hl.1 rfl (lv_room (Nat.le_of_ble_eq_true rfl)) dX6_quarrelIn_1 ⟨Nat.le_of_ble_eq_true rfl, Nat.le_of_ble_eq_true rfl⟩) (fun hr1 => ?_)
  refine lv_aload_n hx hb dX6_quarrelIn_4 rfl (lv_at hl 0 rfl) ?_
  refine g_get hx hb hts hown inA6 hK hP 112 (by decide) xc112 rfl 0 (by decide) tw157 rfl (v := .ref (a 0)) rfl dX6_quarrelIn_5 ?_
  refine lv_iload_n hx hb dX6_quarrelIn_8 rfl (lv_at hl 1 rfl) ?_
  refine ro_i (va_runV (As := [.int (nI d)]) (rest := []) ⟨hx, hb, hml, hown, hts⟩ (m_X4_ticksToQuarrel l D cI cS a s st pi mi po d (by omega)) (cwV 1 hts (gV tw569 tw566 tw567 tw568 tw2) rfl rfl rfl (by decide +kernel) ⟨Nat.le_of_ble_eq_true rfl, Nat.le_of_ble_eq_true rfl⟩) (pvR 0 hK hP (by decide) xc0 rfl) rfl rfl hl.1 rfl (lv_room (Nat.le_of_ble_eq_true rfl)) dX6_quarrelIn_9 ⟨Nat.le_of_ble_eq_true rfl, Nat.le_of_ble_eq_true rfl⟩) (fun r5 hr4 => ?_)
  subst hr4
  exact ro_ir hx hb hr rfl hlocks rfl dX6_quarrelIn_12

set_option maxHeartbeats 4000000 in
set_option maxRecDepth 100000 in
theorem m_X6_ringsIn (l : Launch) (D : va_G) (cI cS : ClassId) (a : Nat → Nat) (s : St) (st : Nat → St) (pi : Nat → Nat) (mi po : St) (d : Nat) (hd : d < 7) : Met l yX6_ringsIn (.code yX6_ringsIn cX6_ringsIn 2 (some .int) :: wsA) ({ frames := 2, cells := 0, slots := 0, locals := 47 } : Room) (va_Pc [.ref (a 112), .int (nI d)] (PR D cI cS 113 a (exC cI cS a s st pi mi po))) (vp_Si (fun r => r = ringF s d (s 1 d / 60) 200 1 (s 1 d))) 0 0 (fun _ => False) := by
  refine mgo (by decide) (Nat.le_of_ble_eq_true rfl) ?_
  intro p e z m below meth c hx hb hr hml hown hts hlocks hB ls hl
  obtain ⟨hP, hK⟩ := hB
  have hl : lv_has ls 2 [(0, .ref (a 112)), (1, .int (nI d))] := hl
  refine lv_iload_n hx hb dX6_ringsIn_0 rfl (lv_at hl 1 rfl) ?_
  refine ro_v (va_runS (As := [.int (nI d)]) (rest := []) ⟨hx, hb, hml, hown, hts⟩ (m_X6_mustBeDial l d (by omega)) (va_cwS 1 hts (gS tw458 tw456 tw457 tw1) rfl rfl rfl (by decide +kernel) ⟨Nat.le_of_ble_eq_true rfl, Nat.le_of_ble_eq_true rfl⟩) ps0 rfl rfl hl.1 rfl (lv_room (Nat.le_of_ble_eq_true rfl)) dX6_ringsIn_1 ⟨Nat.le_of_ble_eq_true rfl, Nat.le_of_ble_eq_true rfl⟩) (fun hr1 => ?_)
  refine lv_aload_n hx hb dX6_ringsIn_4 rfl (lv_at hl 0 rfl) ?_
  refine g_get hx hb hts hown inA6 hK hP 112 (by decide) xc112 rfl 0 (by decide) tw157 rfl (v := .ref (a 0)) rfl dX6_ringsIn_5 ?_
  refine g_getN hx hb hts hown inA4 hK hP 0 (by decide) xc0 rfl 0 (by decide) tn85 rfl (v := .ref (a 1)) rfl dX6_ringsIn_8 ?_
  refine lv_iload_n hx hb dX6_ringsIn_11 rfl (lv_at hl 1 rfl) ?_
  refine ro_i (va_runV (As := [.int (nI d)]) (rest := []) ⟨hx, hb, hml, hown, hts⟩ (m_X0_ticksToRing l D cI cS a s st pi mi po d (by omega)) (cwV 1 hts (gV tw614 tw611 tw612 tw613 tw3) rfl rfl rfl (by decide +kernel) ⟨Nat.le_of_ble_eq_true rfl, Nat.le_of_ble_eq_true rfl⟩) (pvR 1 hK hP (by decide) xc1 rfl) rfl rfl hl.1 rfl (lv_room (Nat.le_of_ble_eq_true rfl)) dX6_ringsIn_12 ⟨Nat.le_of_ble_eq_true rfl, Nat.le_of_ble_eq_true rfl⟩) (fun r5 hr4 => ?_)
  subst hr4
  exact ro_ir hx hb hr rfl hlocks rfl dX6_ringsIn_15

set_option maxHeartbeats 4000000 in
set_option maxRecDepth 100000 in
theorem m_X6_heldShare (l : Launch) (D : va_G) (cI cS : ClassId) (a : Nat → Nat) (s : St) (st : Nat → St) (pi : Nat → Nat) (mi po : St) (hh2 : 0 ≤ (s 0 3).toInt) (hv2 : 0 ≤ (s 0 2).toInt) : Met l yX6_heldShare (.code yX6_heldShare cX6_heldShare 1 (some .double) :: wsA) ({ frames := 0, cells := 0, slots := 0, locals := 0 } : Room) (va_Pc [.ref (a 112)] (PR D cI cS 113 a (exC cI cS a s st pi mi po))) (vp_Sd (fun r => r = shareD s)) 0 0 (fun _ => False) := by
  refine mgo (by decide) (Nat.le_of_ble_eq_true rfl) ?_
  intro p e z m below meth c hx hb hr hml hown hts hlocks hB ls hl
  obtain ⟨hP, hK⟩ := hB
  have hl : lv_has ls 1 [(0, .ref (a 112))] := hl
  refine lv_aload_n hx hb dX6_heldShare_0 rfl (lv_at hl 0 rfl) ?_
  refine g_get hx hb hts hown inA6 hK hP 112 (by decide) xc112 rfl 0 (by decide) tw157 rfl (v := .ref (a 0)) rfl dX6_heldShare_1 ?_
  refine g_getN hx hb hts hown inA4 hK hP 0 (by decide) xc0 rfl 4 (by decide) tn94 rfl (v := .int (s 0 2)) rfl dX6_heldShare_4 ?_
  refine lv_if_ne (tgt := 12) hx hb dX6_heldShare_7 (by decide) (fun c1 => ?_) (fun c1 => ?_)
  · skip
    have hz := c1
    have hv3 : 0 < (s 0 2).toInt := by have h9 : (s 0 2).toInt ≠ 0 := fun h => hz (Int32.toInt_inj.mp (h.trans (by decide))); omega
    refine lv_aload_n hx hb dX6_heldShare_12 rfl (lv_at hl 0 rfl) ?_
    refine g_get hx hb hts hown inA6 hK hP 112 (by decide) xc112 rfl 0 (by decide) tw157 rfl (v := .ref (a 0)) rfl dX6_heldShare_13 ?_
    refine g_getN hx hb hts hown inA4 hK hP 0 (by decide) xc0 rfl 5 (by decide) tn96 rfl (v := .int (s 0 3)) rfl dX6_heldShare_16 ?_
    refine lv_i2d hx hb dX6_heldShare_19 ?_
    refine lv_aload_n hx hb dX6_heldShare_20 rfl (lv_at hl 0 rfl) ?_
    refine g_get hx hb hts hown inA6 hK hP 112 (by decide) xc112 rfl 0 (by decide) tw157 rfl (v := .ref (a 0)) rfl dX6_heldShare_21 ?_
    refine g_getN hx hb hts hown inA4 hK hP 0 (by decide) xc0 rfl 4 (by decide) tn94 rfl (v := .int (s 0 2)) rfl dX6_heldShare_24 ?_
    refine lv_i2d hx hb dX6_heldShare_27 ?_
    refine lv_ddiv hx hb dX6_heldShare_28 (d_share hh2 hv3).vf ?_
    exact ro_dr hx hb hr hlocks (by unfold shareD; rw [if_neg hz]) dX6_heldShare_29
  · skip
    have hz := c1
    refine lv_dconst0 hx hb dX6_heldShare_10 ?_
    exact ro_dr hx hb hr hlocks (by unfold shareD; rw [if_pos hz]) dX6_heldShare_11

set_option maxHeartbeats 4000000 in
set_option maxRecDepth 100000 in
theorem m_X6_meanError (l : Launch) (D : va_G) (cI cS : ClassId) (a : Nat → Nat) (s : St) (st : Nat → St) (pi : Nat → Nat) (mi po : St) (hE0 : 0 ≤ (errC s 7).toInt) : Met l yX6_meanError (.code yX6_meanError cX6_meanError 3 (some .float) :: wsA) ({ frames := 2, cells := 0, slots := 0, locals := 42 } : Room) (va_Pc [.ref (a 112)] (PR D cI cS 113 a (exC cI cS a s st pi mi po))) (vp_Sf (fun r => r = meanF s)) 0 0 (fun _ => False) := by
  refine mgo (by decide) (Nat.le_of_ble_eq_true rfl) ?_
  intro p e z m below meth c hx hb hr hml hown hts hlocks hB ls hl
  obtain ⟨hP, hK⟩ := hB
  have hl : lv_has ls 3 [(0, .ref (a 112))] := hl
  refine lv_iconst (v := 0) hx hb dX6_meanError_0 (by decide) ?_
  refine lv_istore_n (lv' := [(1, .int 0), (0, .ref (a 112))]) hx hb dX6_meanError_1 rfl hl (by decide) rfl (fun ls hl => ?_)
  refine lv_iconst (v := 0) hx hb dX6_meanError_2 (by decide) ?_
  refine lv_istore_n (lv' := [(2, .int 0), (1, .int 0), (0, .ref (a 112))]) hx hb dX6_meanError_3 rfl hl (by decide) rfl (fun ls hl => ?_)
  have loop4 : ∀ (fu : Nat) (j : Nat) (x : Int32), 7 + 1 ≤ j + fu → (j ≤ 7) → (x = errC s j) → ∀ ls : Array Slot, lv_has ls 3 [(0, .ref (a 112)), (1, .int x), (2, .int (nI j))] → W p l e ({ frames := 2, cells := 0, slots := 0, locals := 42 } : Room) z m ([.ref (a 112)] : List Value).toArray below meth c z.heap [] 0 0 (MQ below (vp_Sf (fun r => r = meanF s)) ([.ref (a 112)] : List Value).toArray z 0 0 (fun _ => False)) (F0 m 4 ls []) := by
    intro fu
    induction fu with
    | zero => intro j x hn hj hx1; exact absurd hn (by omega)
    | succ fu ih4 =>
      intro j x hn hj hx1 ls hl
      refine lv_iload_n hx hb dX6_meanError_4 rfl (lv_at hl 2 rfl) ?_
      refine lv_bipush (v := 7) hx hb dX6_meanError_5 (by decide) ?_
      refine lv_icmp_ge (tgt := 30) hx hb dX6_meanError_7 (by decide) (fun c1 => ?_) (fun c1 => ?_)
      · skip
        have c1x := Int32.not_lt.mpr c1
        have c1n := (nI_le2 (p := 7) (q := j) rfl rfl (by omega) (by omega)).mp c1
        have c1n : 7 ≤ j := c1n
        have hjq : 7 = j := by omega
        subst hjq
        refine lv_iload_n hx hb dX6_meanError_30 rfl (lv_at hl 1 rfl) ?_
        refine lv_i2f hx hb dX6_meanError_31 ?_
        refine lv_ldcf hx hb hown (hts _ tw579) dX6_meanError_32 ?_
        refine lv_fdiv hx hb dX6_meanError_34 (f_mean (n := x) (by rw [hx1]; exact hE0)).vf ?_
        exact ro_fr hx hb hr hlocks (by unfold meanF; rw [hx1]) dX6_meanError_35
      · skip
        have c1x := Int32.not_le.mp c1
        have c1n := fun hq0 => c1 ((nI_le2 (p := 7) (q := j) rfl rfl (by omega) (by omega)).mpr hq0)
        have c1n : ¬ (7 ≤ j) := c1n
        refine lv_iload_n hx hb dX6_meanError_10 rfl (lv_at hl 1 rfl) ?_
        refine lv_aload_n hx hb dX6_meanError_11 rfl (lv_at hl 0 rfl) ?_
        refine g_get hx hb hts hown inA6 hK hP 112 (by decide) xc112 rfl 0 (by decide) tw157 rfl (v := .ref (a 0)) rfl dX6_meanError_12 ?_
        refine g_getN hx hb hts hown inA4 hK hP 0 (by decide) xc0 rfl 0 (by decide) tn85 rfl (v := .ref (a 1)) rfl dX6_meanError_15 ?_
        refine lv_iload_n hx hb dX6_meanError_18 rfl (lv_at hl 2 rfl) ?_
        refine ro_i (va_runV (As := [.int (nI j)]) (rest := [.int x]) ⟨hx, hb, hml, hown, hts⟩ (m_X0_errorOf l D cI cS a s st pi mi po j (by omega)) (cwV 1 hts (gV tw534 tw531 tw532 tw533 tw3) rfl rfl rfl (by decide +kernel) ⟨Nat.le_of_ble_eq_true rfl, Nat.le_of_ble_eq_true rfl⟩) (pvR 1 hK hP (by decide) xc1 rfl) rfl rfl hl.1 rfl (lv_room (Nat.le_of_ble_eq_true rfl)) dX6_meanError_19 ⟨Nat.le_of_ble_eq_true rfl, Nat.le_of_ble_eq_true rfl⟩) (fun r3 hr2 => ?_)
        subst hr2
        refine lv_iadd hx hb dX6_meanError_22 ?_
        refine lv_istore_n (lv' := [(1, .int (x + (errI s j))), (0, .ref (a 112)), (2, .int (nI j))]) hx hb dX6_meanError_23 rfl hl (by decide) rfl (fun ls hl => ?_)
        refine lv_iinc (v := nI (j + 1)) (lv' := [(2, .int (nI (j + 1))), (1, .int (x + (errI s j))), (0, .ref (a 112))]) hx hb dX6_meanError_24 hl (k := 2) rfl (nI_add j 1) (by decide) rfl (fun ls hl => ?_)
        refine lv_goto (tgt := 4) hx hb dX6_meanError_27 (by decide) ?_
        exact ih4 (j + 1) (x + (errI s j)) (by omega) (by omega) (by rw [errC, ← hx1]) ls (lv_sub hl [2, 1, 0] rfl)
  exact loop4 (7 + 1) 0 0 (by omega) (by omega) rfl ls (lv_sub hl [2, 1, 0] rfl)

set_option maxHeartbeats 4000000 in
set_option maxRecDepth 100000 in
theorem m_X6_tick (l : Launch) (D : va_G) (cI cS : ClassId) (a : Nat → Nat) (s : St) (st : Nat → St) (pi : Nat → Nat) (mi po : St) (sz : Nat) (hsz : sz ≤ 6) (hs0 : mi 0 0 = nI sz) (hpi : ∀ k, k < 6 → pi k < 6) (n : Nat) (hn : 1 ≤ n ∧ n ≤ 99) (zz : Nat) : Met l yX6_tick (.code yX6_tick cX6_tick 2 (some .int) :: wsA) ({ frames := 4, cells := 0, slots := 0, locals := 86 } : Room) (va_Pc [.ref (a 112), .int (nI n)] (PW D cI cS 113 a (exC cI cS a s st pi mi po) zz)) (va_Qi (fun (r : Int32) (u : Unit) => r = ticksA n s) (BW D 113 a (fun u => exC cI cS a (ticksS n s) (va_up st (svPi pi sz (svQ sz) + 1) s) (svPi pi sz) (up2 mi 0 0 (nI (svQ sz + 1))) po)) (AX 113 a zz)) 0 0 (AX 113 a zz) := by
  refine mgo (by decide) (Nat.le_of_ble_eq_true rfl) ?_
  intro p e z m below meth c hx hb hr hml hown hts hlocks hB ls hl
  obtain ⟨hsz, hP, hK, hE⟩ := hB
  subst hsz
  have hS : va_S (AX 113 a z.heap.size) z.heap z.heap [] := va_S.rf
  have hl : lv_has ls 2 [(0, .ref (a 112)), (1, .int (nI n))] := hl
  refine lv_iload_n hx hb dX6_tick_0 rfl (lv_at hl 1 rfl) ?_
  refine lv_iconst (v := 1) hx hb dX6_tick_1 (by decide) ?_
  refine lv_icmp_lt (tgt := 11) hx hb dX6_tick_2 (by decide) (fun h0 => absurd h0 (fun h => by have := (nI_lt2 (p := n) (q := 1) rfl rfl (by omega) (by omega)).mp h; omega)) (fun _ => ?_)
  refine lv_iload_n hx hb dX6_tick_5 rfl (lv_at hl 1 rfl) ?_
  refine lv_bipush (v := 99) hx hb dX6_tick_6 (by decide) ?_
  refine lv_icmp_le (tgt := 21) hx hb dX6_tick_8 (by decide) (fun _ => ?_) (fun h0 => absurd ((nI_le2 (p := n) (q := 99) rfl rfl (by omega) (by omega)).mpr (by omega)) h0)
  refine lv_aload_n hx hb dX6_tick_21 rfl (lv_at hl 0 rfl) ?_
  refine g_get hx hb hts hown inA6 hK hP 112 (by decide) xc112 rfl 3 (by decide) tw160 rfl (v := .ref (a 104)) rfl dX6_tick_22 ?_
  refine lv_aload_n hx hb dX6_tick_25 rfl (lv_at hl 0 rfl) ?_
  refine g_get hx hb hts hown inA6 hK hP 112 (by decide) xc112 rfl 0 (by decide) tw157 rfl (v := .ref (a 0)) rfl dX6_tick_26 ?_
  refine rw_v hS (va_runV (As := [.ref (a 0)]) (rest := []) ⟨hx, hb, hml, hown, hts⟩ (m_X1_save l D cI cS a s st pi mi po sz (by omega) hs0 hpi _) (cwV 1 hts (gV tw352 tw349 tw350 tw351 tw5) rfl rfl rfl (by decide +kernel) ⟨Nat.le_of_ble_eq_true rfl, Nat.le_of_ble_eq_true rfl⟩) (pvW 104 hK hP hE (by decide) xc104 rfl) rfl rfl hl.1 rfl (lv_room (Nat.le_of_ble_eq_true rfl)) dX6_tick_29 ⟨Nat.le_of_ble_eq_true rfl, Nat.le_of_ble_eq_true rfl⟩) (fun u3 H locs hr1 hP hS => ?_)
  refine lv_aload_n hx hb dX6_tick_32 rfl (lv_at hl 0 rfl) ?_
  refine g_get hx hb hts hown inA6 hK hP 112 (by decide) xc112 rfl 0 (by decide) tw157 rfl (v := .ref (a 0)) rfl dX6_tick_33 ?_
  refine g_getN hx hb hts hown inA4 hK hP 0 (by decide) xc0 rfl 0 (by decide) tn85 rfl (v := .ref (a 1)) rfl dX6_tick_36 ?_
  refine lv_iload_n hx hb dX6_tick_39 rfl (lv_at hl 1 rfl) ?_
  refine rw_i hS (va_runV (As := [.int (nI n)]) (rest := []) ⟨hx, hb, hml, hown, hts⟩ (m_X0_passTicks l D cI cS a s (va_up st (svPi pi sz (svQ sz) + 1) s) (svPi pi sz) (up2 mi 0 0 (nI (svQ sz + 1))) po n (by omega) _) (cwV 1 hts (gV tw381 tw378 tw379 tw380 tw3) rfl rfl rfl (by decide +kernel) ⟨Nat.le_of_ble_eq_true rfl, Nat.le_of_ble_eq_true rfl⟩) (pvW 1 hK hP hE (by decide) xc1 rfl) rfl rfl hl.1 rfl (lv_room (Nat.le_of_ble_eq_true rfl)) dX6_tick_40 ⟨Nat.le_of_ble_eq_true rfl, Nat.le_of_ble_eq_true rfl⟩) (fun r5 u6 H locs hr4 hP hS => ?_)
  subst hr4
  exact rw_ir hx hb hr rfl hlocks hS () hP rfl dX6_tick_43

set_option maxHeartbeats 4000000 in
set_option maxRecDepth 100000 in
theorem m_X6_vote (l : Launch) (D : va_G) (cI cS : ClassId) (a : Nat → Nat) (s : St) (st : Nat → St) (pi : Nat → Nat) (mi po : St) (sz : Nat) (hsz : sz ≤ 6) (hs0 : mi 0 0 = nI sz) (hpi : ∀ k, k < 6 → pi k < 6) (hw0 : ¬ sumN (s 7) 7 = 0) (zz : Nat) : Met l yX6_vote (.code yX6_vote cX6_vote 1 (some .int) :: wsA) ({ frames := 5, cells := 0, slots := 0, locals := 110 } : Room) (va_Pc [.ref (a 112)] (PW D cI cS 113 a (exC cI cS a s st pi mi po) zz)) (va_Qi (fun (r : Int32) (u : St) => r = voteS s 0 1) (BW D 113 a (fun u => exC cI cS a (voteS s) (va_up st (svPi pi sz (svQ sz) + 1) s) (svPi pi sz) (up2 mi 0 0 (nI (svQ sz + 1))) u)) (AX 113 a zz)) 0 0 (AX 113 a zz) := by
  refine mgo (by decide) (Nat.le_of_ble_eq_true rfl) ?_
  intro p e z m below meth c hx hb hr hml hown hts hlocks hB ls hl
  obtain ⟨hsz, hP, hK, hE⟩ := hB
  subst hsz
  have hS : va_S (AX 113 a z.heap.size) z.heap z.heap [] := va_S.rf
  have hl : lv_has ls 1 [(0, .ref (a 112))] := hl
  refine lv_aload_n hx hb dX6_vote_0 rfl (lv_at hl 0 rfl) ?_
  refine g_get hx hb hts hown inA6 hK hP 112 (by decide) xc112 rfl 0 (by decide) tw157 rfl (v := .ref (a 0)) rfl dX6_vote_1 ?_
  refine g_getN hx hb hts hown inA4 hK hP 0 (by decide) xc0 rfl 1 (by decide) tn88 rfl (v := .ref (a 8)) rfl dX6_vote_4 ?_
  refine ro_i (va_runV (As := []) (rest := []) ⟨hx, hb, hml, hown, hts⟩ (m_X5_weightSum l D cI cS a s st pi mi po) (cwV 0 hts (gV tw299 tw296 tw297 tw298 tw4) rfl rfl rfl (by decide +kernel) ⟨Nat.le_of_ble_eq_true rfl, Nat.le_of_ble_eq_true rfl⟩) (pvR 8 hK hP (by decide) xc8 rfl) rfl rfl hl.1 rfl (lv_room (Nat.le_of_ble_eq_true rfl)) dX6_vote_7 ⟨Nat.le_of_ble_eq_true rfl, Nat.le_of_ble_eq_true rfl⟩) (fun r2 hr1 => ?_)
  subst hr1
  refine lv_if_ne (tgt := 23) hx hb dX6_vote_10 (by decide) (fun _ => ?_) (fun h0 => absurd h0 hw0)
  refine lv_aload_n hx hb dX6_vote_23 rfl (lv_at hl 0 rfl) ?_
  refine g_get hx hb hts hown inA6 hK hP 112 (by decide) xc112 rfl 3 (by decide) tw160 rfl (v := .ref (a 104)) rfl dX6_vote_24 ?_
  refine lv_aload_n hx hb dX6_vote_27 rfl (lv_at hl 0 rfl) ?_
  refine g_get hx hb hts hown inA6 hK hP 112 (by decide) xc112 rfl 0 (by decide) tw157 rfl (v := .ref (a 0)) rfl dX6_vote_28 ?_
  refine rw_v hS (va_runV (As := [.ref (a 0)]) (rest := []) ⟨hx, hb, hml, hown, hts⟩ (m_X1_save l D cI cS a s st pi mi po sz (by omega) hs0 hpi _) (cwV 1 hts (gV tw352 tw349 tw350 tw351 tw5) rfl rfl rfl (by decide +kernel) ⟨Nat.le_of_ble_eq_true rfl, Nat.le_of_ble_eq_true rfl⟩) (pvW 104 hK hP hE (by decide) xc104 rfl) rfl rfl hl.1 rfl (lv_room (Nat.le_of_ble_eq_true rfl)) dX6_vote_31 ⟨Nat.le_of_ble_eq_true rfl, Nat.le_of_ble_eq_true rfl⟩) (fun u6 H locs hr4 hP hS => ?_)
  refine lv_aload_n hx hb dX6_vote_34 rfl (lv_at hl 0 rfl) ?_
  refine rw_v hS (va_runV (As := []) (rest := []) ⟨hx, hb, hml, hown, hts⟩ (m_X6_holdVote l D cI cS a s (va_up st (svPi pi sz (svQ sz) + 1) s) (svPi pi sz) (up2 mi 0 0 (nI (svQ sz + 1))) po _) (cwV 0 hts (gV tw418 tw415 tw417 ts12 tw1) rfl rfl rfl (by decide +kernel) ⟨Nat.le_of_ble_eq_true rfl, Nat.le_of_ble_eq_true rfl⟩) (pvW 112 hK hP hE (by decide) xc112 rfl) rfl rfl hl.1 rfl (lv_room (Nat.le_of_ble_eq_true rfl)) dX6_vote_35 ⟨Nat.le_of_ble_eq_true rfl, Nat.le_of_ble_eq_true rfl⟩) (fun u9 H locs hr7 hP hS => ?_)
  refine lv_aload_n hx hb dX6_vote_38 rfl (lv_at hl 0 rfl) ?_
  refine g_get hx hb hts hown inA6 hK hP 112 (by decide) xc112 rfl 0 (by decide) tw157 rfl (v := .ref (a 0)) rfl dX6_vote_39 ?_
  refine g_getN hx hb hts hown inA4 hK hP 0 (by decide) xc0 rfl 3 (by decide) tn92 rfl (v := .int ((voteS s) 0 1)) rfl dX6_vote_42 ?_
  exact rw_ir hx hb hr rfl hlocks hS u9 hP rfl dX6_vote_45

set_option maxHeartbeats 4000000 in
set_option maxRecDepth 100000 in
theorem m_X6_correct (l : Launch) (D : va_G) (cI cS : ClassId) (a : Nat → Nat) (s : St) (st : Nat → St) (pi : Nat → Nat) (mi po : St) (sz : Nat) (hsz : sz ≤ 6) (hs0 : mi 0 0 = nI sz) (hpi : ∀ k, k < 6 → pi k < 6) (zz : Nat) : Met l yX6_correct (.code yX6_correct cX6_correct 1 (some .int) :: wsA) ({ frames := 4, cells := 0, slots := 0, locals := 86 } : Room) (va_Pc [.ref (a 112)] (PW D cI cS 113 a (exC cI cS a s st pi mi po) zz)) (va_Qi (fun (r : Int32) (u : Unit) => r = corA 7 s) (BW D 113 a (fun u => exC cI cS a (corS 7 s) (va_up st (svPi pi sz (svQ sz) + 1) s) (svPi pi sz) (up2 mi 0 0 (nI (svQ sz + 1))) po)) (AX 113 a zz)) 0 0 (AX 113 a zz) := by
  refine mgo (by decide) (Nat.le_of_ble_eq_true rfl) ?_
  intro p e z m below meth c hx hb hr hml hown hts hlocks hB ls hl
  obtain ⟨hsz, hP, hK, hE⟩ := hB
  subst hsz
  have hS : va_S (AX 113 a z.heap.size) z.heap z.heap [] := va_S.rf
  have hl : lv_has ls 1 [(0, .ref (a 112))] := hl
  refine lv_aload_n hx hb dX6_correct_0 rfl (lv_at hl 0 rfl) ?_
  refine g_get hx hb hts hown inA6 hK hP 112 (by decide) xc112 rfl 3 (by decide) tw160 rfl (v := .ref (a 104)) rfl dX6_correct_1 ?_
  refine lv_aload_n hx hb dX6_correct_4 rfl (lv_at hl 0 rfl) ?_
  refine g_get hx hb hts hown inA6 hK hP 112 (by decide) xc112 rfl 0 (by decide) tw157 rfl (v := .ref (a 0)) rfl dX6_correct_5 ?_
  refine rw_v hS (va_runV (As := [.ref (a 0)]) (rest := []) ⟨hx, hb, hml, hown, hts⟩ (m_X1_save l D cI cS a s st pi mi po sz (by omega) hs0 hpi _) (cwV 1 hts (gV tw352 tw349 tw350 tw351 tw5) rfl rfl rfl (by decide +kernel) ⟨Nat.le_of_ble_eq_true rfl, Nat.le_of_ble_eq_true rfl⟩) (pvW 104 hK hP hE (by decide) xc104 rfl) rfl rfl hl.1 rfl (lv_room (Nat.le_of_ble_eq_true rfl)) dX6_correct_8 ⟨Nat.le_of_ble_eq_true rfl, Nat.le_of_ble_eq_true rfl⟩) (fun u3 H locs hr1 hP hS => ?_)
  refine lv_aload_n hx hb dX6_correct_11 rfl (lv_at hl 0 rfl) ?_
  refine g_get hx hb hts hown inA6 hK hP 112 (by decide) xc112 rfl 0 (by decide) tw157 rfl (v := .ref (a 0)) rfl dX6_correct_12 ?_
  refine rw_i hS (va_runV (As := []) (rest := []) ⟨hx, hb, hml, hown, hts⟩ (m_X4_correctDials l D cI cS a s (va_up st (svPi pi sz (svQ sz) + 1) s) (svPi pi sz) (up2 mi 0 0 (nI (svQ sz + 1))) po _) (cwV 0 hts (gV tw442 tw439 tw440 tw441 tw2) rfl rfl rfl (by decide +kernel) ⟨Nat.le_of_ble_eq_true rfl, Nat.le_of_ble_eq_true rfl⟩) (pvW 0 hK hP hE (by decide) xc0 rfl) rfl rfl hl.1 rfl (lv_room (Nat.le_of_ble_eq_true rfl)) dX6_correct_15 ⟨Nat.le_of_ble_eq_true rfl, Nat.le_of_ble_eq_true rfl⟩) (fun r5 u6 H locs hr4 hP hS => ?_)
  exact rw_ir hx hb hr rfl hlocks hS () hP hr4 dX6_correct_18

set_option maxHeartbeats 4000000 in
set_option maxRecDepth 100000 in
theorem m_X6_put (l : Launch) (D : va_G) (cI cS : ClassId) (a : Nat → Nat) (s : St) (st : Nat → St) (pi : Nat → Nat) (mi po : St) (sz : Nat) (hsz : sz ≤ 6) (hs0 : mi 0 0 = nI sz) (hpi : ∀ k, k < 6 → pi k < 6) (d : Nat) (hd : d < 7) (y : Int32) (hy0 : ¬ y < 0) (hy9 : y ≤ 99999) (zz : Nat) : Met l yX6_put (.code yX6_put cX6_put 4 (some .int) :: wsA) ({ frames := 4, cells := 0, slots := 0, locals := 86 } : Room) (va_Pc [.ref (a 112), .int (nI d), .int y] (PW D cI cS 113 a (exC cI cS a s st pi mi po) zz)) (va_Qi (fun (r : Int32) (u : Unit) => r = s 1 d) (BW D 113 a (fun u => exC cI cS a (mvS s d y) (va_up st (svPi pi sz (svQ sz) + 1) s) (svPi pi sz) (up2 mi 0 0 (nI (svQ sz + 1))) po)) (AX 113 a zz)) 0 0 (AX 113 a zz) := by
  refine mgo (by decide) (Nat.le_of_ble_eq_true rfl) ?_
  intro p e z m below meth c hx hb hr hml hown hts hlocks hB ls hl
  obtain ⟨hsz, hP, hK, hE⟩ := hB
  subst hsz
  have hS : va_S (AX 113 a z.heap.size) z.heap z.heap [] := va_S.rf
  have hl : lv_has ls 4 [(0, .ref (a 112)), (1, .int (nI d)), (2, .int y)] := hl
  refine lv_iload_n hx hb dX6_put_0 rfl (lv_at hl 1 rfl) ?_
  refine ro_v (va_runS (As := [.int (nI d)]) (rest := []) ⟨hx, hb, hml, hown, hts⟩ (m_X6_mustBeDial l d (by omega)) (va_cwS 1 hts (gS tw458 tw456 tw457 tw1) rfl rfl rfl (by decide +kernel) ⟨Nat.le_of_ble_eq_true rfl, Nat.le_of_ble_eq_true rfl⟩) ps0 rfl rfl hl.1 rfl (lv_room (Nat.le_of_ble_eq_true rfl)) dX6_put_1 ⟨Nat.le_of_ble_eq_true rfl, Nat.le_of_ble_eq_true rfl⟩) (fun hr1 => ?_)
  refine lv_iload_n hx hb dX6_put_4 rfl (lv_at hl 2 rfl) ?_
  refine lv_if_lt (tgt := 14) hx hb dX6_put_5 (by decide) (fun h0 => absurd h0 hy0) (fun _ => ?_)
  refine lv_iload_n hx hb dX6_put_8 rfl (lv_at hl 2 rfl) ?_
  refine lv_ldc hx hb hown (hts _ tw475) dX6_put_9 ?_
  refine lv_icmp_le (tgt := 24) hx hb dX6_put_11 (by decide) (fun _ => ?_) (fun h0 => absurd hy9 h0)
  refine lv_aload_n hx hb dX6_put_24 rfl (lv_at hl 0 rfl) ?_
  refine g_get hx hb hts hown inA6 hK hP 112 (by decide) xc112 rfl 3 (by decide) tw160 rfl (v := .ref (a 104)) rfl dX6_put_25 ?_
  refine lv_aload_n hx hb dX6_put_28 rfl (lv_at hl 0 rfl) ?_
  refine g_get hx hb hts hown inA6 hK hP 112 (by decide) xc112 rfl 0 (by decide) tw157 rfl (v := .ref (a 0)) rfl dX6_put_29 ?_
  refine rw_v hS (va_runV (As := [.ref (a 0)]) (rest := []) ⟨hx, hb, hml, hown, hts⟩ (m_X1_save l D cI cS a s st pi mi po sz (by omega) hs0 hpi _) (cwV 1 hts (gV tw352 tw349 tw350 tw351 tw5) rfl rfl rfl (by decide +kernel) ⟨Nat.le_of_ble_eq_true rfl, Nat.le_of_ble_eq_true rfl⟩) (pvW 104 hK hP hE (by decide) xc104 rfl) rfl rfl hl.1 rfl (lv_room (Nat.le_of_ble_eq_true rfl)) dX6_put_32 ⟨Nat.le_of_ble_eq_true rfl, Nat.le_of_ble_eq_true rfl⟩) (fun u6 H locs hr4 hP hS => ?_)
  refine lv_aload_n hx hb dX6_put_35 rfl (lv_at hl 0 rfl) ?_
  refine g_get hx hb hts hown inA6 hK hP 112 (by decide) xc112 rfl 0 (by decide) tw157 rfl (v := .ref (a 0)) rfl dX6_put_36 ?_
  refine g_getN hx hb hts hown inA4 hK hP 0 (by decide) xc0 rfl 0 (by decide) tn85 rfl (v := .ref (a 1)) rfl dX6_put_39 ?_
  refine g_getN hx hb hts hown inA0 hK hP 1 (by decide) xc1 rfl 1 (by decide) tn38 rfl (v := .ref (a 2)) rfl dX6_put_42 ?_
  refine lv_iload_n hx hb dX6_put_45 rfl (lv_at hl 1 rfl) ?_
  refine g_iald hx hb hK hP 2 (by decide) xc2 d rfl (by omega) (by decide) dX6_put_46 (v := s 1 d) rfl ?_
  refine lv_istore_n (lv' := [(3, .int (s 1 d)), (0, .ref (a 112)), (1, .int (nI d)), (2, .int y)]) hx hb dX6_put_47 rfl hl (by decide) rfl (fun ls hl => ?_)
  refine lv_aload_n hx hb dX6_put_48 rfl (lv_at hl 1 rfl) ?_
  refine g_get hx hb hts hown inA6 hK hP 112 (by decide) xc112 rfl 0 (by decide) tw157 rfl (v := .ref (a 0)) rfl dX6_put_49 ?_
  refine g_getN hx hb hts hown inA4 hK hP 0 (by decide) xc0 rfl 0 (by decide) tn85 rfl (v := .ref (a 1)) rfl dX6_put_52 ?_
  refine lv_iload_n hx hb dX6_put_55 rfl (lv_at hl 2 rfl) ?_
  refine lv_iload_n hx hb dX6_put_56 rfl (lv_at hl 3 rfl) ?_
  refine rw_i hS (va_runV (As := [.int (nI d), .int y]) (rest := []) ⟨hx, hb, hml, hown, hts⟩ (m_X0_moveTo l D cI cS a s (va_up st (svPi pi sz (svQ sz) + 1) s) (svPi pi sz) (up2 mi 0 0 (nI (svQ sz + 1))) po d (by omega) y _) (cwV 2 hts (gV tw450 tw477 tw448 tw449 tw3) rfl rfl rfl (by decide +kernel) ⟨Nat.le_of_ble_eq_true rfl, Nat.le_of_ble_eq_true rfl⟩) (pvW 1 hK hP hE (by decide) xc1 rfl) rfl rfl hl.1 rfl (lv_room (Nat.le_of_ble_eq_true rfl)) dX6_put_57 ⟨Nat.le_of_ble_eq_true rfl, Nat.le_of_ble_eq_true rfl⟩) (fun r8 u9 H locs hr7 hP hS => ?_)
  subst hr7
  refine lv_pop hx hb dX6_put_60 rfl ?_
  refine lv_iload_n hx hb dX6_put_61 rfl (lv_at hl 0 rfl) ?_
  exact rw_ir hx hb hr rfl hlocks hS () hP rfl dX6_put_62

set_option maxHeartbeats 4000000 in
set_option maxRecDepth 100000 in
theorem m_X6_drift (l : Launch) (D : va_G) (cI cS : ClassId) (a : Nat → Nat) (s : St) (st : Nat → St) (pi : Nat → Nat) (mi po : St) (sz : Nat) (hsz : sz ≤ 6) (hs0 : mi 0 0 = nI sz) (hpi : ∀ k, k < 6 → pi k < 6) (d : Nat) (hd : d < 7) (y : Int32) (hy0 : ¬ y < (-5)) (hy9 : y ≤ 5) (zz : Nat) : Met l yX6_drift (.code yX6_drift cX6_drift 4 (some .int) :: wsA) ({ frames := 4, cells := 0, slots := 0, locals := 86 } : Room) (va_Pc [.ref (a 112), .int (nI d), .int y] (PW D cI cS 113 a (exC cI cS a s st pi mi po) zz)) (va_Qi (fun (r : Int32) (u : Unit) => r = s 2 d) (BW D 113 a (fun u => exC cI cS a (up2 s 2 d y) (va_up st (svPi pi sz (svQ sz) + 1) s) (svPi pi sz) (up2 mi 0 0 (nI (svQ sz + 1))) po)) (AX 113 a zz)) 0 0 (AX 113 a zz) := by
  refine mgo (by decide) (Nat.le_of_ble_eq_true rfl) ?_
  intro p e z m below meth c hx hb hr hml hown hts hlocks hB ls hl
  obtain ⟨hsz, hP, hK, hE⟩ := hB
  subst hsz
  have hS : va_S (AX 113 a z.heap.size) z.heap z.heap [] := va_S.rf
  have hl : lv_has ls 4 [(0, .ref (a 112)), (1, .int (nI d)), (2, .int y)] := hl
  refine lv_iload_n hx hb dX6_drift_0 rfl (lv_at hl 1 rfl) ?_
  refine ro_v (va_runS (As := [.int (nI d)]) (rest := []) ⟨hx, hb, hml, hown, hts⟩ (m_X6_mustBeDial l d (by omega)) (va_cwS 1 hts (gS tw458 tw456 tw457 tw1) rfl rfl rfl (by decide +kernel) ⟨Nat.le_of_ble_eq_true rfl, Nat.le_of_ble_eq_true rfl⟩) ps0 rfl rfl hl.1 rfl (lv_room (Nat.le_of_ble_eq_true rfl)) dX6_drift_1 ⟨Nat.le_of_ble_eq_true rfl, Nat.le_of_ble_eq_true rfl⟩) (fun hr1 => ?_)
  refine lv_iload_n hx hb dX6_drift_4 rfl (lv_at hl 2 rfl) ?_
  refine lv_bipush (v := (-5)) hx hb dX6_drift_5 (by decide) ?_
  refine lv_icmp_lt (tgt := 15) hx hb dX6_drift_7 (by decide) (fun h0 => absurd h0 hy0) (fun _ => ?_)
  refine lv_iload_n hx hb dX6_drift_10 rfl (lv_at hl 2 rfl) ?_
  refine lv_iconst (v := 5) hx hb dX6_drift_11 (by decide) ?_
  refine lv_icmp_le (tgt := 25) hx hb dX6_drift_12 (by decide) (fun _ => ?_) (fun h0 => absurd hy9 h0)
  refine lv_aload_n hx hb dX6_drift_25 rfl (lv_at hl 0 rfl) ?_
  refine g_get hx hb hts hown inA6 hK hP 112 (by decide) xc112 rfl 3 (by decide) tw160 rfl (v := .ref (a 104)) rfl dX6_drift_26 ?_
  refine lv_aload_n hx hb dX6_drift_29 rfl (lv_at hl 0 rfl) ?_
  refine g_get hx hb hts hown inA6 hK hP 112 (by decide) xc112 rfl 0 (by decide) tw157 rfl (v := .ref (a 0)) rfl dX6_drift_30 ?_
  refine rw_v hS (va_runV (As := [.ref (a 0)]) (rest := []) ⟨hx, hb, hml, hown, hts⟩ (m_X1_save l D cI cS a s st pi mi po sz (by omega) hs0 hpi _) (cwV 1 hts (gV tw352 tw349 tw350 tw351 tw5) rfl rfl rfl (by decide +kernel) ⟨Nat.le_of_ble_eq_true rfl, Nat.le_of_ble_eq_true rfl⟩) (pvW 104 hK hP hE (by decide) xc104 rfl) rfl rfl hl.1 rfl (lv_room (Nat.le_of_ble_eq_true rfl)) dX6_drift_33 ⟨Nat.le_of_ble_eq_true rfl, Nat.le_of_ble_eq_true rfl⟩) (fun u6 H locs hr4 hP hS => ?_)
  refine lv_aload_n hx hb dX6_drift_36 rfl (lv_at hl 0 rfl) ?_
  refine g_get hx hb hts hown inA6 hK hP 112 (by decide) xc112 rfl 0 (by decide) tw157 rfl (v := .ref (a 0)) rfl dX6_drift_37 ?_
  refine g_getN hx hb hts hown inA4 hK hP 0 (by decide) xc0 rfl 0 (by decide) tn85 rfl (v := .ref (a 1)) rfl dX6_drift_40 ?_
  refine g_getN hx hb hts hown inA0 hK hP 1 (by decide) xc1 rfl 2 (by decide) tn40 rfl (v := .ref (a 3)) rfl dX6_drift_43 ?_
  refine lv_iload_n hx hb dX6_drift_46 rfl (lv_at hl 1 rfl) ?_
  refine g_iald hx hb hK hP 3 (by decide) xc3 d rfl (by omega) (by decide) dX6_drift_47 (v := s 2 d) rfl ?_
  refine lv_istore_n (lv' := [(3, .int (s 2 d)), (0, .ref (a 112)), (1, .int (nI d)), (2, .int y)]) hx hb dX6_drift_48 rfl hl (by decide) rfl (fun ls hl => ?_)
  refine lv_aload_n hx hb dX6_drift_49 rfl (lv_at hl 1 rfl) ?_
  refine g_get hx hb hts hown inA6 hK hP 112 (by decide) xc112 rfl 0 (by decide) tw157 rfl (v := .ref (a 0)) rfl dX6_drift_50 ?_
  refine g_getN hx hb hts hown inA4 hK hP 0 (by decide) xc0 rfl 0 (by decide) tn85 rfl (v := .ref (a 1)) rfl dX6_drift_53 ?_
  refine lv_iload_n hx hb dX6_drift_56 rfl (lv_at hl 2 rfl) ?_
  refine lv_iload_n hx hb dX6_drift_57 rfl (lv_at hl 3 rfl) ?_
  refine rw_v hS (va_runV (As := [.int (nI d), .int y]) (rest := []) ⟨hx, hb, hml, hown, hts⟩ (m_X0_changeDrift l D cI cS a s (va_up st (svPi pi sz (svQ sz) + 1) s) (svPi pi sz) (up2 mi 0 0 (nI (svQ sz + 1))) po d (by omega) y _) (cwV 2 hts (gV tw486 tw483 tw484 tw485 tw3) rfl rfl rfl (by decide +kernel) ⟨Nat.le_of_ble_eq_true rfl, Nat.le_of_ble_eq_true rfl⟩) (pvW 1 hK hP hE (by decide) xc1 rfl) rfl rfl hl.1 rfl (lv_room (Nat.le_of_ble_eq_true rfl)) dX6_drift_58 ⟨Nat.le_of_ble_eq_true rfl, Nat.le_of_ble_eq_true rfl⟩) (fun u9 H locs hr7 hP hS => ?_)
  refine lv_iload_n hx hb dX6_drift_61 rfl (lv_at hl 0 rfl) ?_
  exact rw_ir hx hb hr rfl hlocks hS () hP rfl dX6_drift_62

set_option maxHeartbeats 4000000 in
set_option maxRecDepth 100000 in
theorem m_X6_warden (l : Launch) (D : va_G) (cI cS : ClassId) (a : Nat → Nat) (s : St) (st : Nat → St) (pi : Nat → Nat) (mi po : St) (sz : Nat) (hsz : sz ≤ 6) (hs0 : mi 0 0 = nI sz) (hpi : ∀ k, k < 6 → pi k < 6) (w : Nat) (hw : w < 7) (x y : Int32) (hx0 : ¬ x < 0) (hx9 : x ≤ 9) (hy0 : ¬ y < (-60)) (hy9 : y ≤ 60) (zz : Nat) : Met l yX6_warden (.code yX6_warden cX6_warden 5 (some .int) :: wsA) ({ frames := 4, cells := 0, slots := 0, locals := 86 } : Room) (va_Pc [.ref (a 112), .int (nI w), .int x, .int y] (PW D cI cS 113 a (exC cI cS a s st pi mi po) zz)) (va_Qi (fun (r : Int32) (u : Unit) => r = s 7 w) (BW D 113 a (fun u => exC cI cS a (up2 (up2 s 7 w x) 8 w y) (va_up st (svPi pi sz (svQ sz) + 1) s) (svPi pi sz) (up2 mi 0 0 (nI (svQ sz + 1))) po)) (AX 113 a zz)) 0 0 (AX 113 a zz) := by
  refine mgo (by decide) (Nat.le_of_ble_eq_true rfl) ?_
  intro p e z m below meth c hx hb hr hml hown hts hlocks hB ls hl
  obtain ⟨hsz, hP, hK, hE⟩ := hB
  subst hsz
  have hS : va_S (AX 113 a z.heap.size) z.heap z.heap [] := va_S.rf
  have hl : lv_has ls 5 [(0, .ref (a 112)), (1, .int (nI w)), (2, .int x), (3, .int y)] := hl
  refine lv_iload_n hx hb dX6_warden_0 rfl (lv_at hl 1 rfl) ?_
  refine ro_v (va_runS (As := [.int (nI w)]) (rest := []) ⟨hx, hb, hml, hown, hts⟩ (m_X6_mustBeDial l w (by omega)) (va_cwS 1 hts (gS tw458 tw456 tw457 tw1) rfl rfl rfl (by decide +kernel) ⟨Nat.le_of_ble_eq_true rfl, Nat.le_of_ble_eq_true rfl⟩) ps0 rfl rfl hl.1 rfl (lv_room (Nat.le_of_ble_eq_true rfl)) dX6_warden_1 ⟨Nat.le_of_ble_eq_true rfl, Nat.le_of_ble_eq_true rfl⟩) (fun hr1 => ?_)
  refine lv_iload_n hx hb dX6_warden_4 rfl (lv_at hl 2 rfl) ?_
  refine lv_if_lt (tgt := 14) hx hb dX6_warden_5 (by decide) (fun h0 => absurd h0 hx0) (fun _ => ?_)
  refine lv_iload_n hx hb dX6_warden_8 rfl (lv_at hl 2 rfl) ?_
  refine lv_bipush (v := 9) hx hb dX6_warden_9 (by decide) ?_
  refine lv_icmp_le (tgt := 24) hx hb dX6_warden_11 (by decide) (fun _ => ?_) (fun h0 => absurd hx9 h0)
  refine lv_iload_n hx hb dX6_warden_24 rfl (lv_at hl 3 rfl) ?_
  refine lv_bipush (v := (-60)) hx hb dX6_warden_25 (by decide) ?_
  refine lv_icmp_lt (tgt := 36) hx hb dX6_warden_27 (by decide) (fun h0 => absurd h0 hy0) (fun _ => ?_)
  refine lv_iload_n hx hb dX6_warden_30 rfl (lv_at hl 3 rfl) ?_
  refine lv_bipush (v := 60) hx hb dX6_warden_31 (by decide) ?_
  refine lv_icmp_le (tgt := 46) hx hb dX6_warden_33 (by decide) (fun _ => ?_) (fun h0 => absurd hy9 h0)
  refine lv_aload_n hx hb dX6_warden_46 rfl (lv_at hl 0 rfl) ?_
  refine g_get hx hb hts hown inA6 hK hP 112 (by decide) xc112 rfl 3 (by decide) tw160 rfl (v := .ref (a 104)) rfl dX6_warden_47 ?_
  refine lv_aload_n hx hb dX6_warden_50 rfl (lv_at hl 0 rfl) ?_
  refine g_get hx hb hts hown inA6 hK hP 112 (by decide) xc112 rfl 0 (by decide) tw157 rfl (v := .ref (a 0)) rfl dX6_warden_51 ?_
  refine rw_v hS (va_runV (As := [.ref (a 0)]) (rest := []) ⟨hx, hb, hml, hown, hts⟩ (m_X1_save l D cI cS a s st pi mi po sz (by omega) hs0 hpi _) (cwV 1 hts (gV tw352 tw349 tw350 tw351 tw5) rfl rfl rfl (by decide +kernel) ⟨Nat.le_of_ble_eq_true rfl, Nat.le_of_ble_eq_true rfl⟩) (pvW 104 hK hP hE (by decide) xc104 rfl) rfl rfl hl.1 rfl (lv_room (Nat.le_of_ble_eq_true rfl)) dX6_warden_54 ⟨Nat.le_of_ble_eq_true rfl, Nat.le_of_ble_eq_true rfl⟩) (fun u6 H locs hr4 hP hS => ?_)
  refine lv_aload_n hx hb dX6_warden_57 rfl (lv_at hl 0 rfl) ?_
  refine g_get hx hb hts hown inA6 hK hP 112 (by decide) xc112 rfl 0 (by decide) tw157 rfl (v := .ref (a 0)) rfl dX6_warden_58 ?_
  refine g_getN hx hb hts hown inA4 hK hP 0 (by decide) xc0 rfl 1 (by decide) tn88 rfl (v := .ref (a 8)) rfl dX6_warden_61 ?_
  refine g_getN hx hb hts hown inA5 hK hP 8 (by decide) xc8 rfl 0 (by decide) tn72 rfl (v := .ref (a 9)) rfl dX6_warden_64 ?_
  refine lv_iload_n hx hb dX6_warden_67 rfl (lv_at hl 1 rfl) ?_
  refine g_iald hx hb hK hP 9 (by decide) xc9 w rfl (by omega) (by decide) dX6_warden_68 (v := s 7 w) rfl ?_
  refine lv_istore (lv' := [(4, .int (s 7 w)), (0, .ref (a 112)), (1, .int (nI w)), (2, .int x), (3, .int y)]) hx hb dX6_warden_69 hl (by decide) rfl (fun ls hl => ?_)
  refine lv_aload_n hx hb dX6_warden_71 rfl (lv_at hl 1 rfl) ?_
  refine g_get hx hb hts hown inA6 hK hP 112 (by decide) xc112 rfl 0 (by decide) tw157 rfl (v := .ref (a 0)) rfl dX6_warden_72 ?_
  refine g_getN hx hb hts hown inA4 hK hP 0 (by decide) xc0 rfl 1 (by decide) tn88 rfl (v := .ref (a 8)) rfl dX6_warden_75 ?_
  refine g_getN hx hb hts hown inA5 hK hP 8 (by decide) xc8 rfl 0 (by decide) tn72 rfl (v := .ref (a 9)) rfl dX6_warden_78 ?_
  refine lv_iload_n hx hb dX6_warden_81 rfl (lv_at hl 2 rfl) ?_
  refine lv_iload_n hx hb dX6_warden_82 rfl (lv_at hl 3 rfl) ?_
  refine g_iast hx hb hK hP hE hS 9 (by decide) xc9 w rfl (by omega) (by omega) dX6_warden_83 (ex' := exC cI cS a (up2 s 7 w x) (va_up st (svPi pi sz (svQ sz) + 1) s) (svPi pi sz) (up2 mi 0 0 (nI (svQ sz + 1))) po) rfl (xo_row (by decide) (by decide)) (fun H locs hP hS => ?_)
  refine lv_aload_n hx hb dX6_warden_84 rfl (lv_at hl 1 rfl) ?_
  refine g_get hx hb hts hown inA6 hK hP 112 (by decide) xc112 rfl 0 (by decide) tw157 rfl (v := .ref (a 0)) rfl dX6_warden_85 ?_
  refine g_getN hx hb hts hown inA4 hK hP 0 (by decide) xc0 rfl 1 (by decide) tn88 rfl (v := .ref (a 8)) rfl dX6_warden_88 ?_
  refine g_getN hx hb hts hown inA5 hK hP 8 (by decide) xc8 rfl 1 (by decide) tn74 rfl (v := .ref (a 10)) rfl dX6_warden_91 ?_
  refine lv_iload_n hx hb dX6_warden_94 rfl (lv_at hl 2 rfl) ?_
  refine lv_iload_n hx hb dX6_warden_95 rfl (lv_at hl 4 rfl) ?_
  refine g_iast hx hb hK hP hE hS 10 (by decide) xc10 w rfl (by omega) (by omega) dX6_warden_96 (ex' := exC cI cS a (up2 (up2 s 7 w x) 8 w y) (va_up st (svPi pi sz (svQ sz) + 1) s) (svPi pi sz) (up2 mi 0 0 (nI (svQ sz + 1))) po) rfl (xo_row (by decide) (by decide)) (fun H locs hP hS => ?_)
  refine lv_iload hx hb dX6_warden_97 (lv_at hl 0 rfl) ?_
  exact rw_ir hx hb hr rfl hlocks hS () hP rfl dX6_warden_99

set_option maxHeartbeats 4000000 in
set_option maxRecDepth 100000 in
theorem m_X6_set (l : Launch) (D : va_G) (cI cS : ClassId) (a : Nat → Nat) (s : St) (st : Nat → St) (pi : Nat → Nat) (mi po : St) (sz : Nat) (hsz : sz ≤ 6) (hs0 : mi 0 0 = nI sz) (hpi : ∀ k, k < 6 → pi k < 6) (q : Nat) (hq : q < 2) (y : Int32) (hy0 : ¬ y < 0) (hy9 : y ≤ 99) (zz : Nat) : Met l yX6_set (.code yX6_set cX6_set 4 (some .int) :: wsA) ({ frames := 4, cells := 0, slots := 0, locals := 86 } : Room) (va_Pc [.ref (a 112), .int (nI q), .int y] (PW D cI cS 113 a (exC cI cS a s st pi mi po) zz)) (va_Qi (fun (r : Int32) (u : Unit) => r = s 10 q) (BW D 113 a (fun u => exC cI cS a (up2 s 10 q y) (va_up st (svPi pi sz (svQ sz) + 1) s) (svPi pi sz) (up2 mi 0 0 (nI (svQ sz + 1))) po)) (AX 113 a zz)) 0 0 (AX 113 a zz) := by
  refine mgo (by decide) (Nat.le_of_ble_eq_true rfl) ?_
  intro p e z m below meth c hx hb hr hml hown hts hlocks hB ls hl
  obtain ⟨hsz, hP, hK, hE⟩ := hB
  subst hsz
  have hS : va_S (AX 113 a z.heap.size) z.heap z.heap [] := va_S.rf
  have hl : lv_has ls 4 [(0, .ref (a 112)), (1, .int (nI q)), (2, .int y)] := hl
  refine lv_iload_n hx hb dX6_set_0 rfl (lv_at hl 1 rfl) ?_
  refine ro_v (va_runS (As := [.int (nI q)]) (rest := []) ⟨hx, hb, hml, hown, hts⟩ (m_X6_mustBeSetting l q (by omega)) (va_cwS 1 hts (gS tw499 tw497 tw498 tw1) rfl rfl rfl (by decide +kernel) ⟨Nat.le_of_ble_eq_true rfl, Nat.le_of_ble_eq_true rfl⟩) ps0 rfl rfl hl.1 rfl (lv_room (Nat.le_of_ble_eq_true rfl)) dX6_set_1 ⟨Nat.le_of_ble_eq_true rfl, Nat.le_of_ble_eq_true rfl⟩) (fun hr1 => ?_)
  refine lv_iload_n hx hb dX6_set_4 rfl (lv_at hl 2 rfl) ?_
  refine lv_if_lt (tgt := 14) hx hb dX6_set_5 (by decide) (fun h0 => absurd h0 hy0) (fun _ => ?_)
  refine lv_iload_n hx hb dX6_set_8 rfl (lv_at hl 2 rfl) ?_
  refine lv_bipush (v := 99) hx hb dX6_set_9 (by decide) ?_
  refine lv_icmp_le (tgt := 24) hx hb dX6_set_11 (by decide) (fun _ => ?_) (fun h0 => absurd hy9 h0)
  refine lv_aload_n hx hb dX6_set_24 rfl (lv_at hl 0 rfl) ?_
  refine g_get hx hb hts hown inA6 hK hP 112 (by decide) xc112 rfl 3 (by decide) tw160 rfl (v := .ref (a 104)) rfl dX6_set_25 ?_
  refine lv_aload_n hx hb dX6_set_28 rfl (lv_at hl 0 rfl) ?_
  refine g_get hx hb hts hown inA6 hK hP 112 (by decide) xc112 rfl 0 (by decide) tw157 rfl (v := .ref (a 0)) rfl dX6_set_29 ?_
  refine rw_v hS (va_runV (As := [.ref (a 0)]) (rest := []) ⟨hx, hb, hml, hown, hts⟩ (m_X1_save l D cI cS a s st pi mi po sz (by omega) hs0 hpi _) (cwV 1 hts (gV tw352 tw349 tw350 tw351 tw5) rfl rfl rfl (by decide +kernel) ⟨Nat.le_of_ble_eq_true rfl, Nat.le_of_ble_eq_true rfl⟩) (pvW 104 hK hP hE (by decide) xc104 rfl) rfl rfl hl.1 rfl (lv_room (Nat.le_of_ble_eq_true rfl)) dX6_set_32 ⟨Nat.le_of_ble_eq_true rfl, Nat.le_of_ble_eq_true rfl⟩) (fun u6 H locs hr4 hP hS => ?_)
  refine lv_aload_n hx hb dX6_set_35 rfl (lv_at hl 0 rfl) ?_
  refine g_get hx hb hts hown inA6 hK hP 112 (by decide) xc112 rfl 0 (by decide) tw157 rfl (v := .ref (a 0)) rfl dX6_set_36 ?_
  refine g_getN hx hb hts hown inA4 hK hP 0 (by decide) xc0 rfl 2 (by decide) tn90 rfl (v := .ref (a 12)) rfl dX6_set_39 ?_
  refine lv_iload_n hx hb dX6_set_42 rfl (lv_at hl 1 rfl) ?_
  refine g_iald hx hb hK hP 12 (by decide) xc12 q rfl (by omega) (by decide) dX6_set_43 (v := s 10 q) rfl ?_
  refine lv_istore_n (lv' := [(3, .int (s 10 q)), (0, .ref (a 112)), (1, .int (nI q)), (2, .int y)]) hx hb dX6_set_44 rfl hl (by decide) rfl (fun ls hl => ?_)
  refine lv_aload_n hx hb dX6_set_45 rfl (lv_at hl 1 rfl) ?_
  refine g_get hx hb hts hown inA6 hK hP 112 (by decide) xc112 rfl 0 (by decide) tw157 rfl (v := .ref (a 0)) rfl dX6_set_46 ?_
  refine g_getN hx hb hts hown inA4 hK hP 0 (by decide) xc0 rfl 2 (by decide) tn90 rfl (v := .ref (a 12)) rfl dX6_set_49 ?_
  refine lv_iload_n hx hb dX6_set_52 rfl (lv_at hl 2 rfl) ?_
  refine lv_iload_n hx hb dX6_set_53 rfl (lv_at hl 3 rfl) ?_
  refine g_iast hx hb hK hP hE hS 12 (by decide) xc12 q rfl (by omega) (by omega) dX6_set_54 (ex' := exC cI cS a (up2 s 10 q y) (va_up st (svPi pi sz (svQ sz) + 1) s) (svPi pi sz) (up2 mi 0 0 (nI (svQ sz + 1))) po) rfl (xo_row (by decide) (by decide)) (fun H locs hP hS => ?_)
  refine lv_iload_n hx hb dX6_set_55 rfl (lv_at hl 0 rfl) ?_
  exact rw_ir hx hb hr rfl hlocks hS () hP rfl dX6_set_56

set_option maxHeartbeats 4000000 in
set_option maxRecDepth 100000 in
theorem m_X6_keep (l : Launch) (D : va_G) (cI cS : ClassId) (a : Nat → Nat) (s : St) (st : Nat → St) (pi : Nat → Nat) (mi po : St) (zz : Nat) : Met l yX6_keep (.code yX6_keep cX6_keep 1 (some .int) :: wsA) ({ frames := 3, cells := 0, slots := 0, locals := 64 } : Room) (va_Pc [.ref (a 112)] (PW D cI cS 113 a (exC cI cS a s st pi mi po) zz)) (va_Qi (fun (r : Int32) (u : Unit) => r = s 0 1) (BW D 113 a (fun u => exC cI cS a s (va_up st 0 s) pi (up2 mi 0 2 1) po)) (AX 113 a zz)) 0 0 (AX 113 a zz) := by
  refine mgo (by decide) (Nat.le_of_ble_eq_true rfl) ?_
  intro p e z m below meth c hx hb hr hml hown hts hlocks hB ls hl
  obtain ⟨hsz, hP, hK, hE⟩ := hB
  subst hsz
  have hS : va_S (AX 113 a z.heap.size) z.heap z.heap [] := va_S.rf
  have hl : lv_has ls 1 [(0, .ref (a 112))] := hl
  refine lv_aload_n hx hb dX6_keep_0 rfl (lv_at hl 0 rfl) ?_
  refine g_get hx hb hts hown inA6 hK hP 112 (by decide) xc112 rfl 1 (by decide) tw158 rfl (v := .ref (a 13)) rfl dX6_keep_1 ?_
  refine lv_aload_n hx hb dX6_keep_4 rfl (lv_at hl 0 rfl) ?_
  refine g_get hx hb hts hown inA6 hK hP 112 (by decide) xc112 rfl 0 (by decide) tw157 rfl (v := .ref (a 0)) rfl dX6_keep_5 ?_
  refine rw_vS (sub := subS 1 0) (ex' := exC cI cS a (up8s s 1 (S8 s st 0)) (up8t st 1 (S8 s st 0)) pi mi po) hS hP hE (subS_lt (by omega) (by omega)) (e2C_up (by omega) (by omega) (by omega) rfl) (e2C_un (by omega)) (va_runV (As := [.ref (a 0)]) (rest := []) ⟨hx, hb, hml, hown, hts⟩ (m_X4_copyFrom l D cI cS (fun k => a (subS 1 0 k)) (S8 s st 1) (S8 s st 0) _) (cwV 1 hts (gV tw364 tw506 tw362 tw363 tw2) rfl rfl rfl (by decide +kernel) ⟨Nat.le_of_ble_eq_true rfl, Nat.le_of_ble_eq_true rfl⟩) (pvW' (13 * 1 + 0) rfl hK hP (by omega) (exC_S8 (i := 1) (k := 0) (by omega) (by omega)) rfl (hp_sub hP (subS_lt (by omega) (by omega)) (e2C_sub (by omega) (by omega))) (di_sub hE (subS_lt (by omega) (by omega)) (subS_inj (by omega)))) rfl rfl hl.1 rfl (lv_room (Nat.le_of_ble_eq_true rfl)) dX6_keep_8 ⟨Nat.le_of_ble_eq_true rfl, Nat.le_of_ble_eq_true rfl⟩) (fun H locs hP hS => ?_)
  have hP : HP D 113 a (exC cI cS a s (va_up st 0 s) pi mi po) H := by exact hP
  refine lv_aload_n hx hb dX6_keep_11 rfl (lv_at hl 0 rfl) ?_
  refine lv_iconst (v := 1) hx hb dX6_keep_12 (by decide) ?_
  refine g_put hx hb hts hown inA6 tyX6 tyX6_ok nmX6 hK hP hE hS 112 (by decide) xc112 rfl 2 (by decide) tw159 rfl rfl (ty := .boolean) (by decide +kernel) rfl rfl (Nat.le_of_ble_eq_true rfl) dX6_keep_13 (ex' := exC cI cS a s (va_up st 0 s) pi (up2 mi 0 2 1) po) rfl (xo_mi (by decide)) (fun H locs hP hS => ?_)
  refine lv_aload_n hx hb dX6_keep_16 rfl (lv_at hl 0 rfl) ?_
  refine g_get hx hb hts hown inA6 hK hP 112 (by decide) xc112 rfl 0 (by decide) tw157 rfl (v := .ref (a 0)) rfl dX6_keep_17 ?_
  refine g_getN hx hb hts hown inA4 hK hP 0 (by decide) xc0 rfl 3 (by decide) tn92 rfl (v := .int (s 0 1)) rfl dX6_keep_20 ?_
  exact rw_ir hx hb hr rfl hlocks hS () hP rfl dX6_keep_23

set_option maxHeartbeats 4000000 in
set_option maxRecDepth 100000 in
theorem m_X6_undo (l : Launch) (D : va_G) (cI cS : ClassId) (a : Nat → Nat) (s : St) (st : Nat → St) (pi : Nat → Nat) (mi po : St) (sz : Nat) (hsz : sz ≤ 6) (hs0 : mi 0 0 = nI sz) (hpi : ∀ k, k < 6 → pi k < 6) (h1 : 1 ≤ sz) (zz : Nat) : Met l yX6_undo (.code yX6_undo cX6_undo 1 (some .int) :: wsA) ({ frames := 4, cells := 0, slots := 0, locals := 86 } : Room) (va_Pc [.ref (a 112)] (PW D cI cS 113 a (exC cI cS a s st pi mi po) zz)) (va_Qi (fun (r : Int32) (u : Unit) => r = nI (sz - 1)) (BW D 113 a (fun u => exC cI cS a (st (pi (sz - 1) + 1)) st pi (up2 mi 0 0 (nI (sz - 1))) po)) (AX 113 a zz)) 0 0 (AX 113 a zz) := by
  refine mgo (by decide) (Nat.le_of_ble_eq_true rfl) ?_
  intro p e z m below meth c hx hb hr hml hown hts hlocks hB ls hl
  obtain ⟨hsz, hP, hK, hE⟩ := hB
  subst hsz
  have hS : va_S (AX 113 a z.heap.size) z.heap z.heap [] := va_S.rf
  have hl : lv_has ls 1 [(0, .ref (a 112))] := hl
  refine lv_aload_n hx hb dX6_undo_0 rfl (lv_at hl 0 rfl) ?_
  refine g_get hx hb hts hown inA6 hK hP 112 (by decide) xc112 rfl 3 (by decide) tw160 rfl (v := .ref (a 104)) rfl dX6_undo_1 ?_
  refine g_getN hx hb hts hown inA1 hK hP 104 (by decide) xc104 rfl 1 (by decide) tn121 rfl (v := .int (mi 0 0)) rfl dX6_undo_4 ?_
  refine lv_if_ne (tgt := 20) hx hb dX6_undo_7 (by decide) (fun _ => ?_) (fun h0 => absurd h0 (fun h => by have := (nI_eq2 (p := sz) (q := 0) hs0 rfl (by omega) (by omega)).mp h; omega))
  refine lv_aload_n hx hb dX6_undo_20 rfl (lv_at hl 0 rfl) ?_
  refine g_get hx hb hts hown inA6 hK hP 112 (by decide) xc112 rfl 3 (by decide) tw160 rfl (v := .ref (a 104)) rfl dX6_undo_21 ?_
  refine lv_aload_n hx hb dX6_undo_24 rfl (lv_at hl 0 rfl) ?_
  refine g_get hx hb hts hown inA6 hK hP 112 (by decide) xc112 rfl 0 (by decide) tw157 rfl (v := .ref (a 0)) rfl dX6_undo_25 ?_
  refine rw_v hS (va_runV (As := [.ref (a 0)]) (rest := []) ⟨hx, hb, hml, hown, hts⟩ (m_X1_restore l D cI cS a s st pi mi po sz (by omega) hs0 hpi (by omega) _) (cwV 1 hts (gV tw515 tw512 tw513 tw514 tw5) rfl rfl rfl (by decide +kernel) ⟨Nat.le_of_ble_eq_true rfl, Nat.le_of_ble_eq_true rfl⟩) (pvW 104 hK hP hE (by decide) xc104 rfl) rfl rfl hl.1 rfl (lv_room (Nat.le_of_ble_eq_true rfl)) dX6_undo_28 ⟨Nat.le_of_ble_eq_true rfl, Nat.le_of_ble_eq_true rfl⟩) (fun u3 H locs hr1 hP hS => ?_)
  refine lv_aload_n hx hb dX6_undo_31 rfl (lv_at hl 0 rfl) ?_
  refine g_get hx hb hts hown inA6 hK hP 112 (by decide) xc112 rfl 3 (by decide) tw160 rfl (v := .ref (a 104)) rfl dX6_undo_32 ?_
  refine g_getN hx hb hts hown inA1 hK hP 104 (by decide) xc104 rfl 1 (by decide) tn121 rfl (v := .int (nI (sz - 1))) rfl dX6_undo_35 ?_
  exact rw_ir hx hb hr rfl hlocks hS () hP rfl dX6_undo_38
