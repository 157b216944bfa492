set_option maxHeartbeats 4000000 in
set_option maxRecDepth 100000 in
theorem m_X6_mustBeDial (l : Launch) (d : Nat) (hd : d < 7) : Met l yX6_mustBeDial (.code yX6_mustBeDial cX6_mustBeDial 1 none :: wsA) ({ frames := 0, cells := 0, slots := 0, locals := 0 } : Room) (va_Pc [.int (nI d)] (fun _ => True)) (va_Sv (fun _ => True)) 0 0 (fun _ => False) := by
  refine mgo (by decide) (Nat.le_of_ble_eq_true rfl) ?_
  intro p e z m below meth c hx hb hr hml hown hts hlocks hB ls hl
  have hl : lv_has ls 1 [(0, .int (nI d))] := hl
  refine lv_iload_n hx hb dX6_mustBeDial_0 rfl (lv_at hl 0 rfl) ?_
  refine lv_if_lt (tgt := 10) hx hb dX6_mustBeDial_1 (by decide) (fun h0 => absurd h0 (fun h => by have := (nI_lt2 (p := d) (q := 0) rfl rfl (by omega) (by omega)).mp h; omega)) (fun _ => ?_)
  refine lv_iload_n hx hb dX6_mustBeDial_4 rfl (lv_at hl 0 rfl) ?_
  refine lv_bipush (v := 7) hx hb dX6_mustBeDial_5 (by decide) ?_
  refine lv_icmp_lt (tgt := 20) hx hb dX6_mustBeDial_7 (by decide) (fun _ => ?_) (fun h0 => absurd ((nI_lt2 (p := d) (q := 7) rfl rfl (by omega) (by omega)).mpr hd) h0)
  exact ro_vr hx hb hr hlocks trivial dX6_mustBeDial_20

set_option maxHeartbeats 4000000 in
set_option maxRecDepth 100000 in
theorem m_X6_mustBeSetting (l : Launch) (d : Nat) (hd : d < 2) : Met l yX6_mustBeSetting (.code yX6_mustBeSetting cX6_mustBeSetting 1 none :: wsA) ({ frames := 0, cells := 0, slots := 0, locals := 0 } : Room) (va_Pc [.int (nI d)] (fun _ => True)) (va_Sv (fun _ => True)) 0 0 (fun _ => False) := by
  refine mgo (by decide) (Nat.le_of_ble_eq_true rfl) ?_
  intro p e z m below meth c hx hb hr hml hown hts hlocks hB ls hl
  have hl : lv_has ls 1 [(0, .int (nI d))] := hl
  refine lv_iload_n hx hb dX6_mustBeSetting_0 rfl (lv_at hl 0 rfl) ?_
  refine lv_if_lt (tgt := 9) hx hb dX6_mustBeSetting_1 (by decide) (fun h0 => absurd h0 (fun h => by have := (nI_lt2 (p := d) (q := 0) rfl rfl (by omega) (by omega)).mp h; omega)) (fun _ => ?_)
  refine lv_iload_n hx hb dX6_mustBeSetting_4 rfl (lv_at hl 0 rfl) ?_
  refine lv_iconst (v := 2) hx hb dX6_mustBeSetting_5 (by decide) ?_
  refine lv_icmp_lt (tgt := 19) hx hb dX6_mustBeSetting_6 (by decide) (fun _ => ?_) (fun h0 => absurd ((nI_lt2 (p := d) (q := 2) rfl rfl (by omega) (by omega)).mpr hd) h0)
  exact ro_vr hx hb hr hlocks trivial dX6_mustBeSetting_19

set_option maxHeartbeats 4000000 in
set_option maxRecDepth 100000 in
theorem m_X6_middleNow (l : Launch) (D : va_G) (cI cS : ClassId) (a : Nat → Nat) (s : St) (st : Nat → St) (pi : Nat → Nat) (mi po : St) (zz : Nat) : Met l yX6_middleNow (.code yX6_middleNow cX6_middleNow 1 (some .int) :: wsA) ({ frames := 3, cells := 0, slots := 0, locals := 66 } : Room) (va_Pc [.ref (a 112)] (PW D cI cS 113 a (exC cI cS a s st pi mi po) zz)) (va_Qi (fun (r : Int32) (u : St) => r = midI (wordA s) (s 7) ∧ ∀ k, k < 7 → u 0 k = wordA s k) (BW D 113 a (fun u => exC cI cS a s st pi mi u)) (AX 113 a zz)) 0 0 (AX 113 a zz) := by
  refine mgo (by decide) (Nat.le_of_ble_eq_true rfl) ?_
  intro p e z m below meth c hx hb hr hml hown hts hlocks hB ls hl
  obtain ⟨hsz, hP, hK, hE⟩ := hB
  subst hsz
  have hS : va_S (AX 113 a z.heap.size) z.heap z.heap [] := va_S.rf
  have hl : lv_has ls 1 [(0, .ref (a 112))] := hl
  refine lv_aload_n hx hb dX6_middleNow_0 rfl (lv_at hl 0 rfl) ?_
  refine g_get hx hb hts hown inA6 hK hP 112 (by decide) xc112 rfl 5 (by decide) tw162 rfl (v := .ref (a 108)) rfl dX6_middleNow_1 ?_
  refine lv_aload_n hx hb dX6_middleNow_4 rfl (lv_at hl 0 rfl) ?_
  refine g_get hx hb hts hown inA6 hK hP 112 (by decide) xc112 rfl 0 (by decide) tw157 rfl (v := .ref (a 0)) rfl dX6_middleNow_5 ?_
  refine rw_v hS (va_runV (As := [.ref (a 0)]) (rest := []) ⟨hx, hb, hml, hown, hts⟩ (m_X3_take l D cI cS a s st pi mi po _) (cwV 1 hts (gV tw259 tw256 tw257 tw258 tw7) rfl rfl rfl (by decide +kernel) ⟨Nat.le_of_ble_eq_true rfl, Nat.le_of_ble_eq_true rfl⟩) (pvW 108 hK hP hE (by decide) xc108 rfl) rfl rfl hl.1 rfl (lv_room (Nat.le_of_ble_eq_true rfl)) dX6_middleNow_8 ⟨Nat.le_of_ble_eq_true rfl, Nat.le_of_ble_eq_true rfl⟩) (fun u3 H locs hr1 hP hS => ?_)
  refine lv_aload_n hx hb dX6_middleNow_11 rfl (lv_at hl 0 rfl) ?_
  refine g_get hx hb hts hown inA6 hK hP 112 (by decide) xc112 rfl 5 (by decide) tw162 rfl (v := .ref (a 108)) rfl dX6_middleNow_12 ?_
  refine rw_i hS (va_runV (As := []) (rest := []) ⟨hx, hb, hml, hown, hts⟩ (m_X3_middleByOrder l D cI cS a s st pi mi (takeP s po 7) _) (cwV 0 hts (gV tw272 tw269 tw270 tw271 tw7) rfl rfl rfl (by decide +kernel) ⟨Nat.le_of_ble_eq_true rfl, Nat.le_of_ble_eq_true rfl⟩) (pvW 108 hK hP hE (by decide) xc108 rfl) rfl rfl hl.1 rfl (lv_room (Nat.le_of_ble_eq_true rfl)) dX6_middleNow_15 ⟨Nat.le_of_ble_eq_true rfl, Nat.le_of_ble_eq_true rfl⟩) (fun r5 u6 H locs hr4 hP hS => ?_)
  subst hr4
  exact rw_ir hx hb hr rfl hlocks hS (upR (takeP s po 7) 2 (ordR ((takeP s po 7) 0) ((takeP s po 7) 2) 7)) hP ⟨midT, fun k hk => midPw hk⟩ dX6_middleNow_18

set_option maxHeartbeats 4000000 in
set_option maxRecDepth 100000 in
theorem m_X6_middleIf (l : Launch) (D : va_G) (cI cS : ClassId) (a : Nat → Nat) (s : St) (st : Nat → St) (pi : Nat → Nat) (mi po : St) (w : Nat) (hw : w < 7) (x : Int32) (zz : Nat) : Met l yX6_middleIf (.code yX6_middleIf cX6_middleIf 3 (some .int) :: wsA) ({ frames := 3, cells := 0, slots := 0, locals := 66 } : Room) (va_Pc [.ref (a 112), .int (nI w), .int x] (PW D cI cS 113 a (exC cI cS a s st pi mi po) zz)) (va_Qi (fun (r : Int32) (u : St) => r = midW s w x) (BW D 113 a (fun u => exC cI cS a s st pi mi u)) (AX 113 a zz)) 0 0 (AX 113 a zz) := by
  refine mgo (by decide) (Nat.le_of_ble_eq_true rfl) ?_
  intro p e z m below meth c hx hb hr hml hown hts hlocks hB ls hl
  obtain ⟨hsz, hP, hK, hE⟩ := hB
  subst hsz
  have hS : va_S (AX 113 a z.heap.size) z.heap z.heap [] := va_S.rf
  have hl : lv_has ls 3 [(0, .ref (a 112)), (1, .int (nI w)), (2, .int x)] := hl
  refine lv_aload_n hx hb dX6_middleIf_0 rfl (lv_at hl 0 rfl) ?_
  refine g_get hx hb hts hown inA6 hK hP 112 (by decide) xc112 rfl 5 (by decide) tw162 rfl (v := .ref (a 108)) rfl dX6_middleIf_1 ?_
  refine lv_aload_n hx hb dX6_middleIf_4 rfl (lv_at hl 0 rfl) ?_
  refine g_get hx hb hts hown inA6 hK hP 112 (by decide) xc112 rfl 0 (by decide) tw157 rfl (v := .ref (a 0)) rfl dX6_middleIf_5 ?_
  refine rw_v hS (va_runV (As := [.ref (a 0)]) (rest := []) ⟨hx, hb, hml, hown, hts⟩ (m_X3_take l D cI cS a s st pi mi po _) (cwV 1 hts (gV tw259 tw256 tw257 tw258 tw7) rfl rfl rfl (by decide +kernel) ⟨Nat.le_of_ble_eq_true rfl, Nat.le_of_ble_eq_true rfl⟩) (pvW 108 hK hP hE (by decide) xc108 rfl) rfl rfl hl.1 rfl (lv_room (Nat.le_of_ble_eq_true rfl)) dX6_middleIf_8 ⟨Nat.le_of_ble_eq_true rfl, Nat.le_of_ble_eq_true rfl⟩) (fun u3 H locs hr1 hP hS => ?_)
  refine lv_aload_n hx hb dX6_middleIf_11 rfl (lv_at hl 0 rfl) ?_
  refine g_get hx hb hts hown inA6 hK hP 112 (by decide) xc112 rfl 5 (by decide) tw162 rfl (v := .ref (a 108)) rfl dX6_middleIf_12 ?_
  refine g_getN hx hb hts hown inA3 hK hP 108 (by decide) xc108 rfl 1 (by decide) tn148 rfl (v := .ref (a 110)) rfl dX6_middleIf_15 ?_
  refine lv_iload_n hx hb dX6_middleIf_18 rfl (lv_at hl 1 rfl) ?_
  refine lv_iload_n hx hb dX6_middleIf_19 rfl (lv_at hl 2 rfl) ?_
  refine g_iast hx hb hK hP hE hS 110 (by decide) xc110 w rfl (by omega) (by omega) dX6_middleIf_20 (ex' := exC cI cS a s st pi mi (up2 (takeP s po 7) 1 w x)) rfl (xo_po (by decide) rfl) (fun H locs hP hS => ?_)
  refine lv_aload_n hx hb dX6_middleIf_21 rfl (lv_at hl 0 rfl) ?_
  refine g_get hx hb hts hown inA6 hK hP 112 (by decide) xc112 rfl 5 (by decide) tw162 rfl (v := .ref (a 108)) rfl dX6_middleIf_22 ?_
  refine rw_i hS (va_runV (As := []) (rest := []) ⟨hx, hb, hml, hown, hts⟩ (m_X3_middleByOrder l D cI cS a s st pi mi (up2 (takeP s po 7) 1 w x) _) (cwV 0 hts (gV tw272 tw269 tw270 tw271 tw7) rfl rfl rfl (by decide +kernel) ⟨Nat.le_of_ble_eq_true rfl, Nat.le_of_ble_eq_true rfl⟩) (pvW 108 hK hP hE (by decide) xc108 rfl) rfl rfl hl.1 rfl (lv_room (Nat.le_of_ble_eq_true rfl)) dX6_middleIf_25 ⟨Nat.le_of_ble_eq_true rfl, Nat.le_of_ble_eq_true rfl⟩) (fun r5 u6 H locs hr4 hP hS => ?_)
  subst hr4
  exact rw_ir hx hb hr rfl hlocks hS (upR (up2 (takeP s po 7) 1 w x) 2 (ordR ((up2 (takeP s po 7) 1 w x) 0) ((up2 (takeP s po 7) 1 w x) 2) 7)) hP midTW dX6_middleIf_28

set_option maxHeartbeats 4000000 in
set_option maxRecDepth 100000 in
theorem m_X6_middleNowByAdding (l : Launch) (D : va_G) (cI cS : ClassId) (a : Nat → Nat) (s : St) (st : Nat → St) (pi : Nat → Nat) (mi po : St) (zz : Nat) : Met l yX6_middleNowByAdding (.code yX6_middleNowByAdding cX6_middleNowByAdding 1 (some .int) :: wsA) ({ frames := 3, cells := 0, slots := 0, locals := 66 } : Room) (va_Pc [.ref (a 112)] (PW D cI cS 113 a (exC cI cS a s st pi mi po) zz)) (va_Qi (fun (r : Int32) (u : St) => r = midA (wordA s) (s 7) 7 0) (BW D 113 a (fun u => exC cI cS a s st pi mi u)) (AX 113 a zz)) 0 0 (AX 113 a zz) := by
  refine mgo (by decide) (Nat.le_of_ble_eq_true rfl) ?_
  intro p e z m below meth c hx hb hr hml hown hts hlocks hB ls hl
  obtain ⟨hsz, hP, hK, hE⟩ := hB
  subst hsz
  have hS : va_S (AX 113 a z.heap.size) z.heap z.heap [] := va_S.rf
  have hl : lv_has ls 1 [(0, .ref (a 112))] := hl
  refine lv_aload_n hx hb dX6_middleNowByAdding_0 rfl (lv_at hl 0 rfl) ?_
  refine g_get hx hb hts hown inA6 hK hP 112 (by decide) xc112 rfl 5 (by decide) tw162 rfl (v := .ref (a 108)) rfl dX6_middleNowByAdding_1 ?_
  refine lv_aload_n hx hb dX6_middleNowByAdding_4 rfl (lv_at hl 0 rfl) ?_
  refine g_get hx hb hts hown inA6 hK hP 112 (by decide) xc112 rfl 0 (by decide) tw157 rfl (v := .ref (a 0)) rfl dX6_middleNowByAdding_5 ?_
  refine rw_v hS (va_runV (As := [.ref (a 0)]) (rest := []) ⟨hx, hb, hml, hown, hts⟩ (m_X3_take l D cI cS a s st pi mi po _) (cwV 1 hts (gV tw259 tw256 tw257 tw258 tw7) rfl rfl rfl (by decide +kernel) ⟨Nat.le_of_ble_eq_true rfl, Nat.le_of_ble_eq_true rfl⟩) (pvW 108 hK hP hE (by decide) xc108 rfl) rfl rfl hl.1 rfl (lv_room (Nat.le_of_ble_eq_true rfl)) dX6_middleNowByAdding_8 ⟨Nat.le_of_ble_eq_true rfl, Nat.le_of_ble_eq_true rfl⟩) (fun u3 H locs hr1 hP hS => ?_)
  refine lv_aload_n hx hb dX6_middleNowByAdding_11 rfl (lv_at hl 0 rfl) ?_
  refine g_get hx hb hts hown inA6 hK hP 112 (by decide) xc112 rfl 5 (by decide) tw162 rfl (v := .ref (a 108)) rfl dX6_middleNowByAdding_12 ?_
  refine ro_i (va_runV (As := []) (rest := []) ⟨hx, hb, hml, hown, hts⟩ (m_X3_middleByAdding l D cI cS a s st pi mi (takeP s po 7)) (cwV 0 hts (gV tw287 tw284 tw285 tw286 tw7) rfl rfl rfl (by decide +kernel) ⟨Nat.le_of_ble_eq_true rfl, Nat.le_of_ble_eq_true rfl⟩) (pvR 108 hK hP (by decide) xc108 rfl) rfl rfl hl.1 rfl (lv_room (Nat.le_of_ble_eq_true rfl)) dX6_middleNowByAdding_15 ⟨Nat.le_of_ble_eq_true rfl, Nat.le_of_ble_eq_true rfl⟩) (fun r5 hr4 => ?_)
  subst hr4
  exact rw_ir hx hb hr rfl hlocks hS (takeP s po 7) hP midAT dX6_middleNowByAdding_18

set_option maxHeartbeats 4000000 in
set_option maxRecDepth 100000 in
theorem m_X6_placeOf (l : Launch) (D : va_G) (cI cS : ClassId) (a : Nat → Nat) (s : St) (st : Nat → St) (pi : Nat → Nat) (mi po : St) (w : Nat) (hw : w < 7) (zz : Nat) : Met l yX6_placeOf (.code yX6_placeOf cX6_placeOf 2 (some .int) :: wsA) ({ frames := 3, cells := 0, slots := 0, locals := 66 } : Room) (va_Pc [.ref (a 112), .int (nI w)] (PW D cI cS 113 a (exC cI cS a s st pi mi po) zz)) (va_Qi (fun (r : Int32) (u : St) => r = nI (plcN (wordA s) w 7)) (BW D 113 a (fun u => exC cI cS a s st pi mi u)) (AX 113 a zz)) 0 0 (AX 113 a zz) := by
  refine mgo (by decide) (Nat.le_of_ble_eq_true rfl) ?_
  intro p e z m below meth c hx hb hr hml hown hts hlocks hB ls hl
  obtain ⟨hsz, hP, hK, hE⟩ := hB
  subst hsz
  have hS : va_S (AX 113 a z.heap.size) z.heap z.heap [] := va_S.rf
  have hl : lv_has ls 2 [(0, .ref (a 112)), (1, .int (nI w))] := hl
  refine lv_aload_n hx hb dX6_placeOf_0 rfl (lv_at hl 0 rfl) ?_
  refine g_get hx hb hts hown inA6 hK hP 112 (by decide) xc112 rfl 5 (by decide) tw162 rfl (v := .ref (a 108)) rfl dX6_placeOf_1 ?_
  refine lv_aload_n hx hb dX6_placeOf_4 rfl (lv_at hl 0 rfl) ?_
  refine g_get hx hb hts hown inA6 hK hP 112 (by decide) xc112 rfl 0 (by decide) tw157 rfl (v := .ref (a 0)) rfl dX6_placeOf_5 ?_
  refine rw_v hS (va_runV (As := [.ref (a 0)]) (rest := []) ⟨hx, hb, hml, hown, hts⟩ (m_X3_take l D cI cS a s st pi mi po _) (cwV 1 hts (gV tw259 tw256 tw257 tw258 tw7) rfl rfl rfl (by decide +kernel) ⟨Nat.le_of_ble_eq_true rfl, Nat.le_of_ble_eq_true rfl⟩) (pvW 108 hK hP hE (by decide) xc108 rfl) rfl rfl hl.1 rfl (lv_room (Nat.le_of_ble_eq_true rfl)) dX6_placeOf_8 ⟨Nat.le_of_ble_eq_true rfl, Nat.le_of_ble_eq_true rfl⟩) (fun u3 H locs hr1 hP hS => ?_)
  refine lv_aload_n hx hb dX6_placeOf_11 rfl (lv_at hl 0 rfl) ?_
  refine g_get hx hb hts hown inA6 hK hP 112 (by decide) xc112 rfl 5 (by decide) tw162 rfl (v := .ref (a 108)) rfl dX6_placeOf_12 ?_
  refine lv_iload_n hx hb dX6_placeOf_15 rfl (lv_at hl 1 rfl) ?_
  refine ro_i (va_runV (As := [.int (nI w)]) (rest := []) ⟨hx, hb, hml, hown, hts⟩ (m_X3_placeOf l D cI cS a s st pi mi (takeP s po 7) w (by omega)) (cwV 1 hts (gV tw276 tw557 tw274 tw275 tw7) rfl rfl rfl (by decide +kernel) ⟨Nat.le_of_ble_eq_true rfl, Nat.le_of_ble_eq_true rfl⟩) (pvR 108 hK hP (by decide) xc108 rfl) rfl rfl hl.1 rfl (lv_room (Nat.le_of_ble_eq_true rfl)) dX6_placeOf_16 ⟨Nat.le_of_ble_eq_true rfl, Nat.le_of_ble_eq_true rfl⟩) (fun r5 hr4 => ?_)
  subst hr4
  exact rw_ir hx hb hr rfl hlocks hS (takeP s po 7) hP (by rw [plcT hw]) dX6_placeOf_19

set_option maxHeartbeats 4000000 in
set_option maxRecDepth 100000 in
theorem m_X6_holdVote (l : Launch) (D : va_G) (cI cS : ClassId) (a : Nat → Nat) (s : St) (st : Nat → St) (pi : Nat → Nat) (mi po : St) (zz : Nat) : Met l yX6_holdVote (.code yX6_holdVote cX6_holdVote 1 none :: wsA) ({ frames := 4, cells := 0, slots := 0, locals := 90 } : Room) (va_Pc [.ref (a 112)] (PW D cI cS 113 a (exC cI cS a s st pi mi po) zz)) (va_Qv (fun (u : St) => True) (BW D 113 a (fun u => exC cI cS a (voteS s) st pi mi u)) (AX 113 a zz)) 0 0 (AX 113 a zz) := by
  refine mgo (by decide) (Nat.le_of_ble_eq_true rfl) ?_
  intro p e z m below meth c hx hb hr hml hown hts hlocks hB ls hl
  obtain ⟨hsz, hP, hK, hE⟩ := hB
  subst hsz
  have hS : va_S (AX 113 a z.heap.size) z.heap z.heap [] := va_S.rf
  have hl : lv_has ls 1 [(0, .ref (a 112))] := hl
  refine lv_aload_n hx hb dX6_holdVote_0 rfl (lv_at hl 0 rfl) ?_
  refine g_get hx hb hts hown inA6 hK hP 112 (by decide) xc112 rfl 0 (by decide) tw157 rfl (v := .ref (a 0)) rfl dX6_holdVote_1 ?_
  refine lv_aload_n hx hb dX6_holdVote_4 rfl (lv_at hl 0 rfl) ?_
  refine rw_i hS (va_runV (As := []) (rest := [.ref (a 0)]) ⟨hx, hb, hml, hown, hts⟩ (m_X6_middleNow l D cI cS a s st pi mi po _) (cwV 0 hts (gV tw255 tw252 tw254 ts2 tw1) rfl rfl rfl (by decide +kernel) ⟨Nat.le_of_ble_eq_true rfl, Nat.le_of_ble_eq_true rfl⟩) (pvW 112 hK hP hE (by decide) xc112 rfl) rfl rfl hl.1 rfl (lv_room (Nat.le_of_ble_eq_true rfl)) dX6_holdVote_5 ⟨Nat.le_of_ble_eq_true rfl, Nat.le_of_ble_eq_true rfl⟩) (fun r2 u3 H locs hr1 hP hS => ?_)
  obtain ⟨hr9, hpw⟩ := hr1; subst hr9
  refine rw_v hS (va_runV (As := [.int (midI (wordA s) (s 7))]) (rest := []) ⟨hx, hb, hml, hown, hts⟩ (m_X4_hear l D cI cS a s st pi mi u3 (midI (wordA s) (s 7)) _) (cwV 1 hts (gV tw422 tw419 tw420 tw421 tw2) rfl rfl rfl (by decide +kernel) ⟨Nat.le_of_ble_eq_true rfl, Nat.le_of_ble_eq_true rfl⟩) (pvW 0 hK hP hE (by decide) xc0 rfl) rfl rfl hl.1 rfl (lv_room (Nat.le_of_ble_eq_true rfl)) dX6_holdVote_8 ⟨Nat.le_of_ble_eq_true rfl, Nat.le_of_ble_eq_true rfl⟩) (fun u6 H locs hr4 hP hS => ?_)
  refine lv_aload_n hx hb dX6_holdVote_11 rfl (lv_at hl 0 rfl) ?_
  refine g_get hx hb hts hown inA6 hK hP 112 (by decide) xc112 rfl 0 (by decide) tw157 rfl (v := .ref (a 0)) rfl dX6_holdVote_12 ?_
  refine lv_aload_n hx hb dX6_holdVote_15 rfl (lv_at hl 0 rfl) ?_
  refine g_get hx hb hts hown inA6 hK hP 112 (by decide) xc112 rfl 5 (by decide) tw162 rfl (v := .ref (a 108)) rfl dX6_holdVote_16 ?_
  refine g_getN hx hb hts hown inA3 hK hP 108 (by decide) xc108 rfl 0 (by decide) tn146 rfl (v := .ref (a 109)) rfl dX6_holdVote_19 ?_
  refine rw_v hS (va_runV (As := [.ref (a 109)]) (rest := []) ⟨hx, hb, hml, hown, hts⟩ (m_X4_settleQuarrels l D cI cS a (hearS s (midI (wordA s) (s 7))) st pi mi u3 _) (cwV 1 hts (gV tw426 tw423 tw424 tw425 tw2) rfl rfl rfl (by decide +kernel) ⟨Nat.le_of_ble_eq_true rfl, Nat.le_of_ble_eq_true rfl⟩) (pvW 0 hK hP hE (by decide) xc0 rfl) rfl rfl hl.1 rfl (lv_room (Nat.le_of_ble_eq_true rfl)) dX6_holdVote_22 ⟨Nat.le_of_ble_eq_true rfl, Nat.le_of_ble_eq_true rfl⟩) (fun u9 H locs hr7 hP hS => ?_)
  have hWs : (voteS s) = (setlN (u3 0) 7 (hearS s (midI (wordA s) (s 7)))) := by unfold voteS; exact (setlN_cong hpw 7 (Nat.le_refl _) _).symm
  have hP := hP.cast (e' := exC cI cS a (voteS s) st pi mi u3) (by rw [hWs])
  exact rw_vr hx hb hr hlocks hS u3 hP trivial dX6_holdVote_25

set_option maxHeartbeats 4000000 in
set_option maxRecDepth 100000 in
theorem m_X6_dialNumber (l : Launch) (D : va_G) (cI cS : ClassId) (a : Nat → Nat) (s : St) (st : Nat → St) (pi : Nat → Nat) (mi po : St) (d q : Nat) (hd : d < 7) (hq : q < 7) : Met l yX6_dialNumber (.code yX6_dialNumber cX6_dialNumber 3 (some .int) :: wsA) ({ frames := 2, cells := 0, slots := 0, locals := 42 } : Room) (va_Pc [.ref (a 112), .int (nI d), .int (nI q)] (PR D cI cS 113 a (exC cI cS a s st pi mi po))) (vp_Si (fun r => r = dialN s d q)) 0 0 (fun _ => False) := by
  refine mgo (by decide) (Nat.le_of_ble_eq_true rfl) ?_
  intro p e z m below meth c hx hb hr hml hown hts hlocks hB ls hl
  obtain ⟨hP, hK⟩ := hB
  have hl : lv_has ls 3 [(0, .ref (a 112)), (1, .int (nI d)), (2, .int (nI q))] := hl
  refine lv_iload_n hx hb dX6_dialNumber_0 rfl (lv_at hl 2 rfl) ?_
  by_cases sw1 : nI q = 0
  · skip
    refine lv_tableIn (tgt := 40) hx hb dX6_dialNumber_1 (by first | (rw [sw1]; done) | (rw [sw1]; decide)) (by first | (rw [sw1]; done) | (rw [sw1]; decide)) (off := 39) (by first | (rw [sw1]; done) | (rw [sw1]; decide)) (by decide) ?_
    have hjq : 0 = q := ((nI_eq2 (p := q) (q := 0) rfl rfl (by omega) (by omega)).mp sw1).symm
    subst hjq
    refine lv_aload_n hx hb dX6_dialNumber_40 rfl (lv_at hl 0 rfl) ?_
    refine g_get hx hb hts hown inA6 hK hP 112 (by decide) xc112 rfl 0 (by decide) tw157 rfl (v := .ref (a 0)) rfl dX6_dialNumber_41 ?_
    refine g_getN hx hb hts hown inA4 hK hP 0 (by decide) xc0 rfl 0 (by decide) tn85 rfl (v := .ref (a 1)) rfl dX6_dialNumber_44 ?_
    refine g_getN hx hb hts hown inA0 hK hP 1 (by decide) xc1 rfl 1 (by decide) tn38 rfl (v := .ref (a 2)) rfl dX6_dialNumber_47 ?_
    refine lv_iload_n hx hb dX6_dialNumber_50 rfl (lv_at hl 1 rfl) ?_
    refine g_iald hx hb hK hP 2 (by decide) xc2 d rfl (by omega) (by decide) dX6_dialNumber_51 (v := s 1 d) rfl ?_
    exact ro_ir hx hb hr rfl hlocks rfl dX6_dialNumber_52
  · skip
    have sw1n : ¬ q = 0 := fun hq0 => sw1 ((nI_eq2 (p := q) (q := 0) rfl rfl (by omega) (by omega)).mpr hq0)
    by_cases sw2 : nI q = 1
    · skip
      refine lv_tableIn (tgt := 53) hx hb dX6_dialNumber_1 (by first | (rw [sw2]; done) | (rw [sw2]; decide)) (by first | (rw [sw2]; done) | (rw [sw2]; decide)) (off := 52) (by first | (rw [sw2]; done) | (rw [sw2]; decide)) (by decide) ?_
      have hjq : 1 = q := ((nI_eq2 (p := q) (q := 1) rfl rfl (by omega) (by omega)).mp sw2).symm
      subst hjq
      refine lv_aload_n hx hb dX6_dialNumber_53 rfl (lv_at hl 0 rfl) ?_
      refine g_get hx hb hts hown inA6 hK hP 112 (by decide) xc112 rfl 0 (by decide) tw157 rfl (v := .ref (a 0)) rfl dX6_dialNumber_54 ?_
      refine g_getN hx hb hts hown inA4 hK hP 0 (by decide) xc0 rfl 0 (by decide) tn85 rfl (v := .ref (a 1)) rfl dX6_dialNumber_57 ?_
      refine lv_iload_n hx hb dX6_dialNumber_60 rfl (lv_at hl 1 rfl) ?_
      refine ro_i (va_runV (As := [.int (nI d)]) (rest := []) ⟨hx, hb, hml, hown, hts⟩ (m_X0_accountOf l D cI cS a s st pi mi po d (by omega)) (cwV 1 hts (gV tw530 tw527 tw528 tw529 tw3) rfl rfl rfl (by decide +kernel) ⟨Nat.le_of_ble_eq_true rfl, Nat.le_of_ble_eq_true rfl⟩) (pvR 1 hK hP (by decide) xc1 rfl) rfl rfl hl.1 rfl (lv_room (Nat.le_of_ble_eq_true rfl)) dX6_dialNumber_61 ⟨Nat.le_of_ble_eq_true rfl, Nat.le_of_ble_eq_true rfl⟩) (fun r4 hr3 => ?_)
      subst hr3
      exact ro_ir hx hb hr rfl hlocks rfl dX6_dialNumber_64
    · skip
      have sw2n : ¬ q = 1 := fun hq0 => sw2 ((nI_eq2 (p := q) (q := 1) rfl rfl (by omega) (by omega)).mpr hq0)
      by_cases sw6 : nI q = 2
      · skip
        refine lv_tableIn (tgt := 65) hx hb dX6_dialNumber_1 (by first | (rw [sw6]; done) | (rw [sw6]; decide)) (by first | (rw [sw6]; done) | (rw [sw6]; decide)) (off := 64) (by first | (rw [sw6]; done) | (rw [sw6]; decide)) (by decide) ?_
        have hjq : 2 = q := ((nI_eq2 (p := q) (q := 2) rfl rfl (by omega) (by omega)).mp sw6).symm
        subst hjq
        refine lv_aload_n hx hb dX6_dialNumber_65 rfl (lv_at hl 0 rfl) ?_
        refine g_get hx hb hts hown inA6 hK hP 112 (by decide) xc112 rfl 0 (by decide) tw157 rfl (v := .ref (a 0)) rfl dX6_dialNumber_66 ?_
        refine g_getN hx hb hts hown inA4 hK hP 0 (by decide) xc0 rfl 0 (by decide) tn85 rfl (v := .ref (a 1)) rfl dX6_dialNumber_69 ?_
        refine g_getN hx hb hts hown inA0 hK hP 1 (by decide) xc1 rfl 2 (by decide) tn40 rfl (v := .ref (a 3)) rfl dX6_dialNumber_72 ?_
        refine lv_iload_n hx hb dX6_dialNumber_75 rfl (lv_at hl 1 rfl) ?_
        refine g_iald hx hb hK hP 3 (by decide) xc3 d rfl (by omega) (by decide) dX6_dialNumber_76 (v := s 2 d) rfl ?_
        exact ro_ir hx hb hr rfl hlocks rfl dX6_dialNumber_77
      · skip
        have sw6n : ¬ q = 2 := fun hq0 => sw6 ((nI_eq2 (p := q) (q := 2) rfl rfl (by omega) (by omega)).mpr hq0)
        by_cases sw7 : nI q = 3
        · skip
          refine lv_tableIn (tgt := 78) hx hb dX6_dialNumber_1 (by first | (rw [sw7]; done) | (rw [sw7]; decide)) (by first | (rw [sw7]; done) | (rw [sw7]; decide)) (off := 77) (by first | (rw [sw7]; done) | (rw [sw7]; decide)) (by decide) ?_
          have hjq : 3 = q := ((nI_eq2 (p := q) (q := 3) rfl rfl (by omega) (by omega)).mp sw7).symm
          subst hjq
          refine lv_aload_n hx hb dX6_dialNumber_78 rfl (lv_at hl 0 rfl) ?_
          refine g_get hx hb hts hown inA6 hK hP 112 (by decide) xc112 rfl 0 (by decide) tw157 rfl (v := .ref (a 0)) rfl dX6_dialNumber_79 ?_
          refine g_getN hx hb hts hown inA4 hK hP 0 (by decide) xc0 rfl 0 (by decide) tn85 rfl (v := .ref (a 1)) rfl dX6_dialNumber_82 ?_
          refine g_getN hx hb hts hown inA0 hK hP 1 (by decide) xc1 rfl 1 (by decide) tn38 rfl (v := .ref (a 2)) rfl dX6_dialNumber_85 ?_
          refine lv_iload_n hx hb dX6_dialNumber_88 rfl (lv_at hl 1 rfl) ?_
          refine g_iald hx hb hK hP 2 (by decide) xc2 d rfl (by omega) (by decide) dX6_dialNumber_89 (v := s 1 d) rfl ?_
          refine lv_bipush (v := 60) hx hb dX6_dialNumber_90 (by decide) ?_
          refine lv_idiv hx hb dX6_dialNumber_92 (by decide) ?_
          exact ro_ir hx hb hr rfl hlocks rfl dX6_dialNumber_93
        · skip
          have sw7n : ¬ q = 3 := fun hq0 => sw7 ((nI_eq2 (p := q) (q := 3) rfl rfl (by omega) (by omega)).mpr hq0)
          by_cases sw8 : nI q = 4
          · skip
            refine lv_tableIn (tgt := 94) hx hb dX6_dialNumber_1 (by first | (rw [sw8]; done) | (rw [sw8]; decide)) (by first | (rw [sw8]; done) | (rw [sw8]; decide)) (off := 93) (by first | (rw [sw8]; done) | (rw [sw8]; decide)) (by decide) ?_
            have hjq : 4 = q := ((nI_eq2 (p := q) (q := 4) rfl rfl (by omega) (by omega)).mp sw8).symm
            subst hjq
            refine lv_aload_n hx hb dX6_dialNumber_94 rfl (lv_at hl 0 rfl) ?_
            refine g_get hx hb hts hown inA6 hK hP 112 (by decide) xc112 rfl 0 (by decide) tw157 rfl (v := .ref (a 0)) rfl dX6_dialNumber_95 ?_
            refine g_getN hx hb hts hown inA4 hK hP 0 (by decide) xc0 rfl 0 (by decide) tn85 rfl (v := .ref (a 1)) rfl dX6_dialNumber_98 ?_
            refine g_getN hx hb hts hown inA0 hK hP 1 (by decide) xc1 rfl 6 (by decide) tn47 rfl (v := .ref (a 7)) rfl dX6_dialNumber_101 ?_
            refine lv_iload_n hx hb dX6_dialNumber_104 rfl (lv_at hl 1 rfl) ?_
            refine g_iald hx hb hK hP 7 (by decide) xc7 d rfl (by omega) (by decide) dX6_dialNumber_105 (v := s 6 d) rfl ?_
            exact ro_ir hx hb hr rfl hlocks rfl dX6_dialNumber_106
          · skip
            have sw8n : ¬ q = 4 := fun hq0 => sw8 ((nI_eq2 (p := q) (q := 4) rfl rfl (by omega) (by omega)).mpr hq0)
            by_cases sw9 : nI q = 5
            · skip
              refine lv_tableIn (tgt := 107) hx hb dX6_dialNumber_1 (by first | (rw [sw9]; done) | (rw [sw9]; decide)) (by first | (rw [sw9]; done) | (rw [sw9]; decide)) (off := 106) (by first | (rw [sw9]; done) | (rw [sw9]; decide)) (by decide) ?_
              have hjq : 5 = q := ((nI_eq2 (p := q) (q := 5) rfl rfl (by omega) (by omega)).mp sw9).symm
              subst hjq
              refine lv_aload_n hx hb dX6_dialNumber_107 rfl (lv_at hl 0 rfl) ?_
              refine g_get hx hb hts hown inA6 hK hP 112 (by decide) xc112 rfl 0 (by decide) tw157 rfl (v := .ref (a 0)) rfl dX6_dialNumber_108 ?_
              refine g_getN hx hb hts hown inA4 hK hP 0 (by decide) xc0 rfl 0 (by decide) tn85 rfl (v := .ref (a 1)) rfl dX6_dialNumber_111 ?_
              refine lv_iload_n hx hb dX6_dialNumber_114 rfl (lv_at hl 1 rfl) ?_
              refine ro_i (va_runV (As := [.int (nI d)]) (rest := []) ⟨hx, hb, hml, hown, hts⟩ (m_X0_errorOf l D cI cS a s st pi mi po d (by omega)) (cwV 1 hts (gV tw534 tw531 tw532 tw533 tw3) rfl rfl rfl (by decide +kernel) ⟨Nat.le_of_ble_eq_true rfl, Nat.le_of_ble_eq_true rfl⟩) (pvR 1 hK hP (by decide) xc1 rfl) rfl rfl hl.1 rfl (lv_room (Nat.le_of_ble_eq_true rfl)) dX6_dialNumber_115 ⟨Nat.le_of_ble_eq_true rfl, Nat.le_of_ble_eq_true rfl⟩) (fun r11 hr10 => ?_)
              subst hr10
              exact ro_ir hx hb hr rfl hlocks rfl dX6_dialNumber_118
            · skip
              have sw9n : ¬ q = 5 := fun hq0 => sw9 ((nI_eq2 (p := q) (q := 5) rfl rfl (by omega) (by omega)).mpr hq0)
              refine lv_tableOut (tgt := 119) hx hb dX6_dialNumber_1 (by have := lv_neT sw1 (a := 0) (by decide); have := lv_neT sw2 (a := 1) (by decide); have := lv_neT sw6 (a := 2) (by decide); have := lv_neT sw7 (a := 3) (by decide); have := lv_neT sw8 (a := 4) (by decide); have := lv_neT sw9 (a := 5) (by decide); omega) (by decide) ?_
              have hjq : 6 = q := by omega
              subst hjq
              refine lv_aload_n hx hb dX6_dialNumber_119 rfl (lv_at hl 0 rfl) ?_
              refine g_get hx hb hts hown inA6 hK hP 112 (by decide) xc112 rfl 0 (by decide) tw157 rfl (v := .ref (a 0)) rfl dX6_dialNumber_120 ?_
              refine lv_iload_n hx hb dX6_dialNumber_123 rfl (lv_at hl 1 rfl) ?_
              refine ro_i (va_runV (As := [.int (nI d)]) (rest := []) ⟨hx, hb, hml, hown, hts⟩ (m_X4_isOff l D cI cS a s st pi mi po d (by omega)) (cwV 1 hts (gV tw332 tw536 tw330 tw331 tw2) rfl rfl rfl (by decide +kernel) ⟨Nat.le_of_ble_eq_true rfl, Nat.le_of_ble_eq_true rfl⟩) (pvR 0 hK hP (by decide) xc0 rfl) rfl rfl hl.1 rfl (lv_room (Nat.le_of_ble_eq_true rfl)) dX6_dialNumber_124 ⟨Nat.le_of_ble_eq_true rfl, Nat.le_of_ble_eq_true rfl⟩) (fun r14 hr13 => ?_)
              subst hr13
              refine lv_bI (fun c16 => ?_) (fun c16 => ?_)
              · skip
                refine lv_if_eq (tgt := 134) hx hb dX6_dialNumber_127 (by decide) (fun h0 => absurd h0 (by decide)) (fun _ => ?_)
                refine lv_iconst (v := 1) hx hb dX6_dialNumber_130 (by decide) ?_
                refine lv_goto (tgt := 135) hx hb dX6_dialNumber_131 (by decide) ?_
                exact ro_ir hx hb hr rfl hlocks (if_pos c16).symm dX6_dialNumber_135
              · skip
                refine lv_if_eq (tgt := 134) hx hb dX6_dialNumber_127 (by decide) (fun _ => ?_) (fun h0 => absurd (by decide) h0)
                refine lv_iconst (v := 0) hx hb dX6_dialNumber_134 (by decide) ?_
                exact ro_ir hx hb hr rfl hlocks (if_neg c16).symm dX6_dialNumber_135

set_option maxHeartbeats 4000000 in
set_option maxRecDepth 100000 in
theorem m_X6_wardenNumber (l : Launch) (D : va_G) (cI cS : ClassId) (a : Nat → Nat) (s : St) (st : Nat → St) (pi : Nat → Nat) (mi po : St) (w q : Nat) (hw : w < 7) (hq : q < 6) (zz : Nat) : Met l yX6_wardenNumber (.code yX6_wardenNumber cX6_wardenNumber 3 (some .int) :: wsA) ({ frames := 4, cells := 0, slots := 0, locals := 87 } : Room) (va_Pc [.ref (a 112), .int (nI w), .int (nI q)] (PW D cI cS 113 a (exC cI cS a s st pi mi po) zz)) (va_Qi (fun (r : Int32) (u : St) => r = wardN s w q) (BW D 113 a (fun u => exC cI cS a s st pi mi u)) (AX 113 a zz)) 0 0 (AX 113 a zz) := by
  refine mgo (by decide) (Nat.le_of_ble_eq_true rfl) ?_
  intro p e z m below meth c hx hb hr hml hown hts hlocks hB ls hl
  obtain ⟨hsz, hP, hK, hE⟩ := hB
  subst hsz
  have hS : va_S (AX 113 a z.heap.size) z.heap z.heap [] := va_S.rf
  have hl : lv_has ls 3 [(0, .ref (a 112)), (1, .int (nI w)), (2, .int (nI q))] := hl
  refine lv_iload_n hx hb dX6_wardenNumber_0 rfl (lv_at hl 2 rfl) ?_
  by_cases sw1 : nI q = 0
  · skip
    refine lv_tableIn (tgt := 36) hx hb dX6_wardenNumber_1 (by first | (rw [sw1]; done) | (rw [sw1]; decide)) (by first | (rw [sw1]; done) | (rw [sw1]; decide)) (off := 35) (by first | (rw [sw1]; done) | (rw [sw1]; decide)) (by decide) ?_
    have hjq : 0 = q := ((nI_eq2 (p := q) (q := 0) rfl rfl (by omega) (by omega)).mp sw1).symm
    subst hjq
    refine lv_aload_n hx hb dX6_wardenNumber_36 rfl (lv_at hl 0 rfl) ?_
    refine g_get hx hb hts hown inA6 hK hP 112 (by decide) xc112 rfl 0 (by decide) tw157 rfl (v := .ref (a 0)) rfl dX6_wardenNumber_37 ?_
    refine g_getN hx hb hts hown inA4 hK hP 0 (by decide) xc0 rfl 1 (by decide) tn88 rfl (v := .ref (a 8)) rfl dX6_wardenNumber_40 ?_
    refine g_getN hx hb hts hown inA5 hK hP 8 (by decide) xc8 rfl 0 (by decide) tn72 rfl (v := .ref (a 9)) rfl dX6_wardenNumber_43 ?_
    refine lv_iload_n hx hb dX6_wardenNumber_46 rfl (lv_at hl 1 rfl) ?_
    refine g_iald hx hb hK hP 9 (by decide) xc9 w rfl (by omega) (by decide) dX6_wardenNumber_47 (v := s 7 w) rfl ?_
    exact rw_ir hx hb hr rfl hlocks hS po hP rfl dX6_wardenNumber_48
  · skip
    have sw1n : ¬ q = 0 := fun hq0 => sw1 ((nI_eq2 (p := q) (q := 0) rfl rfl (by omega) (by omega)).mpr hq0)
    by_cases sw2 : nI q = 1
    · skip
      refine lv_tableIn (tgt := 49) hx hb dX6_wardenNumber_1 (by first | (rw [sw2]; done) | (rw [sw2]; decide)) (by first | (rw [sw2]; done) | (rw [sw2]; decide)) (off := 48) (by first | (rw [sw2]; done) | (rw [sw2]; decide)) (by decide) ?_
      have hjq : 1 = q := ((nI_eq2 (p := q) (q := 1) rfl rfl (by omega) (by omega)).mp sw2).symm
      subst hjq
      refine lv_aload_n hx hb dX6_wardenNumber_49 rfl (lv_at hl 0 rfl) ?_
      refine g_get hx hb hts hown inA6 hK hP 112 (by decide) xc112 rfl 0 (by decide) tw157 rfl (v := .ref (a 0)) rfl dX6_wardenNumber_50 ?_
      refine g_getN hx hb hts hown inA4 hK hP 0 (by decide) xc0 rfl 1 (by decide) tn88 rfl (v := .ref (a 8)) rfl dX6_wardenNumber_53 ?_
      refine g_getN hx hb hts hown inA5 hK hP 8 (by decide) xc8 rfl 1 (by decide) tn74 rfl (v := .ref (a 10)) rfl dX6_wardenNumber_56 ?_
      refine lv_iload_n hx hb dX6_wardenNumber_59 rfl (lv_at hl 1 rfl) ?_
      refine g_iald hx hb hK hP 10 (by decide) xc10 w rfl (by omega) (by decide) dX6_wardenNumber_60 (v := s 8 w) rfl ?_
      exact rw_ir hx hb hr rfl hlocks hS po hP rfl dX6_wardenNumber_61
    · skip
      have sw2n : ¬ q = 1 := fun hq0 => sw2 ((nI_eq2 (p := q) (q := 1) rfl rfl (by omega) (by omega)).mpr hq0)
      by_cases sw3 : nI q = 2
      · skip
        refine lv_tableIn (tgt := 62) hx hb dX6_wardenNumber_1 (by first | (rw [sw3]; done) | (rw [sw3]; decide)) (by first | (rw [sw3]; done) | (rw [sw3]; decide)) (off := 61) (by first | (rw [sw3]; done) | (rw [sw3]; decide)) (by decide) ?_
        have hjq : 2 = q := ((nI_eq2 (p := q) (q := 2) rfl rfl (by omega) (by omega)).mp sw3).symm
        subst hjq
        refine lv_aload_n hx hb dX6_wardenNumber_62 rfl (lv_at hl 0 rfl) ?_
        refine g_get hx hb hts hown inA6 hK hP 112 (by decide) xc112 rfl 0 (by decide) tw157 rfl (v := .ref (a 0)) rfl dX6_wardenNumber_63 ?_
        refine lv_iload_n hx hb dX6_wardenNumber_66 rfl (lv_at hl 1 rfl) ?_
        refine ro_i (va_runV (As := [.int (nI w)]) (rest := []) ⟨hx, hb, hml, hown, hts⟩ (m_X4_wordOf l D cI cS a s st pi mi po w (by omega)) (cwV 1 hts (gV tw263 tw552 tw261 tw262 tw2) rfl rfl rfl (by decide +kernel) ⟨Nat.le_of_ble_eq_true rfl, Nat.le_of_ble_eq_true rfl⟩) (pvR 0 hK hP (by decide) xc0 rfl) rfl rfl hl.1 rfl (lv_room (Nat.le_of_ble_eq_true rfl)) dX6_wardenNumber_67 ⟨Nat.le_of_ble_eq_true rfl, Nat.le_of_ble_eq_true rfl⟩) (fun r5 hr4 => ?_)
        subst hr4
        exact rw_ir hx hb hr rfl hlocks hS po hP rfl dX6_wardenNumber_70
      · skip
        have sw3n : ¬ q = 2 := fun hq0 => sw3 ((nI_eq2 (p := q) (q := 2) rfl rfl (by omega) (by omega)).mpr hq0)
        by_cases sw7 : nI q = 3
        · skip
          refine lv_tableIn (tgt := 71) hx hb dX6_wardenNumber_1 (by first | (rw [sw7]; done) | (rw [sw7]; decide)) (by first | (rw [sw7]; done) | (rw [sw7]; decide)) (off := 70) (by first | (rw [sw7]; done) | (rw [sw7]; decide)) (by decide) ?_
          have hjq : 3 = q := ((nI_eq2 (p := q) (q := 3) rfl rfl (by omega) (by omega)).mp sw7).symm
          subst hjq
          refine lv_aload_n hx hb dX6_wardenNumber_71 rfl (lv_at hl 0 rfl) ?_
          refine g_get hx hb hts hown inA6 hK hP 112 (by decide) xc112 rfl 0 (by decide) tw157 rfl (v := .ref (a 0)) rfl dX6_wardenNumber_72 ?_
          refine g_getN hx hb hts hown inA4 hK hP 0 (by decide) xc0 rfl 1 (by decide) tn88 rfl (v := .ref (a 8)) rfl dX6_wardenNumber_75 ?_
          refine g_getN hx hb hts hown inA5 hK hP 8 (by decide) xc8 rfl 2 (by decide) tn76 rfl (v := .ref (a 11)) rfl dX6_wardenNumber_78 ?_
          refine lv_iload_n hx hb dX6_wardenNumber_81 rfl (lv_at hl 1 rfl) ?_
          refine g_iald hx hb hK hP 11 (by decide) xc11 w rfl (by omega) (by decide) dX6_wardenNumber_82 (v := s 9 w) rfl ?_
          exact rw_ir hx hb hr rfl hlocks hS po hP rfl dX6_wardenNumber_83
        · skip
          have sw7n : ¬ q = 3 := fun hq0 => sw7 ((nI_eq2 (p := q) (q := 3) rfl rfl (by omega) (by omega)).mpr hq0)
          by_cases sw8 : nI q = 4
          · skip
            refine lv_tableIn (tgt := 84) hx hb dX6_wardenNumber_1 (by first | (rw [sw8]; done) | (rw [sw8]; decide)) (by first | (rw [sw8]; done) | (rw [sw8]; decide)) (off := 83) (by first | (rw [sw8]; done) | (rw [sw8]; decide)) (by decide) ?_
            have hjq : 4 = q := ((nI_eq2 (p := q) (q := 4) rfl rfl (by omega) (by omega)).mp sw8).symm
            subst hjq
            refine lv_aload_n hx hb dX6_wardenNumber_84 rfl (lv_at hl 0 rfl) ?_
            refine lv_iload_n hx hb dX6_wardenNumber_85 rfl (lv_at hl 1 rfl) ?_
            refine rw_i hS (va_runV (As := [.int (nI w)]) (rest := []) ⟨hx, hb, hml, hown, hts⟩ (m_X6_placeOf l D cI cS a s st pi mi po w (by omega) _) (cwV 1 hts (gV tw556 tw553 tw555 ts17 tw1) rfl rfl rfl (by decide +kernel) ⟨Nat.le_of_ble_eq_true rfl, Nat.le_of_ble_eq_true rfl⟩) (pvW 112 hK hP hE (by decide) xc112 rfl) rfl rfl hl.1 rfl (lv_room (Nat.le_of_ble_eq_true rfl)) dX6_wardenNumber_86 ⟨Nat.le_of_ble_eq_true rfl, Nat.le_of_ble_eq_true rfl⟩) (fun r10 u11 H locs hr9 hP hS => ?_)
            subst hr9
            exact rw_ir hx hb hr rfl hlocks hS u11 hP rfl dX6_wardenNumber_89
          · skip
            have sw8n : ¬ q = 4 := fun hq0 => sw8 ((nI_eq2 (p := q) (q := 4) rfl rfl (by omega) (by omega)).mpr hq0)
            refine lv_tableOut (tgt := 90) hx hb dX6_wardenNumber_1 (by have := lv_neT sw1 (a := 0) (by decide); have := lv_neT sw2 (a := 1) (by decide); have := lv_neT sw3 (a := 2) (by decide); have := lv_neT sw7 (a := 3) (by decide); have := lv_neT sw8 (a := 4) (by decide); omega) (by decide) ?_
            have hjq : 5 = q := by omega
            subst hjq
            have hbf := befN_lt hw
            refine lv_aload_n hx hb dX6_wardenNumber_90 rfl (lv_at hl 0 rfl) ?_
            refine g_get hx hb hts hown inA6 hK hP 112 (by decide) xc112 rfl 0 (by decide) tw157 rfl (v := .ref (a 0)) rfl dX6_wardenNumber_91 ?_
            refine lv_iload_n hx hb dX6_wardenNumber_94 rfl (lv_at hl 1 rfl) ?_
            refine ro_i (va_runV (As := [.int (nI w)]) (rest := []) ⟨hx, hb, hml, hown, hts⟩ (m_X4_quarrelsBehind l D cI cS a s st pi mi po w (by omega)) (cwV 1 hts (gV tw308 tw558 tw306 tw307 tw2) rfl rfl rfl (by decide +kernel) ⟨Nat.le_of_ble_eq_true rfl, Nat.le_of_ble_eq_true rfl⟩) (pvR 0 hK hP (by decide) xc0 rfl) rfl rfl hl.1 rfl (lv_room (Nat.le_of_ble_eq_true rfl)) dX6_wardenNumber_95 ⟨Nat.le_of_ble_eq_true rfl, Nat.le_of_ble_eq_true rfl⟩) (fun r13 hr12 => ?_)
            subst hr12
            refine lv_bI (fun c15 => ?_) (fun c15 => ?_)
            · skip
              refine lv_if_eq (tgt := 105) hx hb dX6_wardenNumber_98 (by decide) (fun h0 => absurd h0 (by decide)) (fun _ => ?_)
              refine lv_iconst (v := 1) hx hb dX6_wardenNumber_101 (by decide) ?_
              refine lv_goto (tgt := 106) hx hb dX6_wardenNumber_102 (by decide) ?_
              refine lv_aload_n hx hb dX6_wardenNumber_106 rfl (lv_at hl 0 rfl) ?_
              refine g_get hx hb hts hown inA6 hK hP 112 (by decide) xc112 rfl 0 (by decide) tw157 rfl (v := .ref (a 0)) rfl dX6_wardenNumber_107 ?_
              refine lv_iload_n hx hb dX6_wardenNumber_110 rfl (lv_at hl 1 rfl) ?_
              refine ro_i (va_runS (As := [.int (nI w)]) (rest := [.ref (a 0), .int 1]) ⟨hx, hb, hml, hown, hts⟩ (m_X6_dialBefore l w (by omega)) (va_cwS 1 hts (gS tw561 tw559 tw560 tw1) rfl rfl rfl (by decide +kernel) ⟨Nat.le_of_ble_eq_true rfl, Nat.le_of_ble_eq_true rfl⟩) ps0 rfl rfl hl.1 rfl (lv_room (Nat.le_of_ble_eq_true rfl)) dX6_wardenNumber_111 ⟨Nat.le_of_ble_eq_true rfl, Nat.le_of_ble_eq_true rfl⟩) (fun r17 hr16 => ?_)
              subst hr16
              refine ro_i (va_runV (As := [.int (nI (befN w))]) (rest := [.int 1]) ⟨hx, hb, hml, hown, hts⟩ (m_X4_quarrelsBehind l D cI cS a s st pi mi po (befN w) (by omega)) (cwV 1 hts (gV tw308 tw558 tw306 tw307 tw2) rfl rfl rfl (by decide +kernel) ⟨Nat.le_of_ble_eq_true rfl, Nat.le_of_ble_eq_true rfl⟩) (pvR 0 hK hP (by decide) xc0 rfl) rfl rfl hl.1 rfl (lv_room (Nat.le_of_ble_eq_true rfl)) dX6_wardenNumber_114 ⟨Nat.le_of_ble_eq_true rfl, Nat.le_of_ble_eq_true rfl⟩) (fun r20 hr19 => ?_)
              subst hr19
              refine lv_bI (fun c22 => ?_) (fun c22 => ?_)
              · skip
                refine lv_if_eq (tgt := 124) hx hb dX6_wardenNumber_117 (by decide) (fun h0 => absurd h0 (by decide)) (fun _ => ?_)
                refine lv_iconst (v := 1) hx hb dX6_wardenNumber_120 (by decide) ?_
                refine lv_goto (tgt := 125) hx hb dX6_wardenNumber_121 (by decide) ?_
                refine lv_iadd hx hb dX6_wardenNumber_125 ?_
                refine lv_as (y := 2) (by decide) ?_
                exact rw_ir hx hb hr rfl hlocks hS po hP (by show _ = (if quarB s w then (1 : Int32) else 0) + (if quarB s (befN w) then 1 else 0); rw [if_pos c15, if_pos c22]; rfl) dX6_wardenNumber_126
              · skip
                refine lv_if_eq (tgt := 124) hx hb dX6_wardenNumber_117 (by decide) (fun _ => ?_) (fun h0 => absurd (by decide) h0)
                refine lv_iconst (v := 0) hx hb dX6_wardenNumber_124 (by decide) ?_
                refine lv_iadd hx hb dX6_wardenNumber_125 ?_
                refine lv_as (y := 1) (by decide) ?_
                exact rw_ir hx hb hr rfl hlocks hS po hP (by show _ = (if quarB s w then (1 : Int32) else 0) + (if quarB s (befN w) then 1 else 0); rw [if_pos c15, if_neg c22]; rfl) dX6_wardenNumber_126
            · skip
              refine lv_if_eq (tgt := 105) hx hb dX6_wardenNumber_98 (by decide) (fun _ => ?_) (fun h0 => absurd (by decide) h0)
              refine lv_iconst (v := 0) hx hb dX6_wardenNumber_105 (by decide) ?_
              refine lv_aload_n hx hb dX6_wardenNumber_106 rfl (lv_at hl 0 rfl) ?_
              refine g_get hx hb hts hown inA6 hK hP 112 (by decide) xc112 rfl 0 (by decide) tw157 rfl (v := .ref (a 0)) rfl dX6_wardenNumber_107 ?_
              refine lv_iload_n hx hb dX6_wardenNumber_110 rfl (lv_at hl 1 rfl) ?_
              refine ro_i (va_runS (As := [.int (nI w)]) (rest := [.ref (a 0), .int 0]) ⟨hx, hb, hml, hown, hts⟩ (m_X6_dialBefore l w (by omega)) (va_cwS 1 hts (gS tw561 tw559 tw560 tw1) rfl rfl rfl (by decide +kernel) ⟨Nat.le_of_ble_eq_true rfl, Nat.le_of_ble_eq_true rfl⟩) ps0 rfl rfl hl.1 rfl (lv_room (Nat.le_of_ble_eq_true rfl)) dX6_wardenNumber_111 ⟨Nat.le_of_ble_eq_true rfl, Nat.le_of_ble_eq_true rfl⟩) (fun r24 hr23 => ?_)
              subst hr23
              refine ro_i (va_runV (As := [.int (nI (befN w))]) (rest := [.int 0]) ⟨hx, hb, hml, hown, hts⟩ (m_X4_quarrelsBehind l D cI cS a s st pi mi po (befN w) (by omega)) (cwV 1 hts (gV tw308 tw558 tw306 tw307 tw2) rfl rfl rfl (by decide +kernel) ⟨Nat.le_of_ble_eq_true rfl, Nat.le_of_ble_eq_true rfl⟩) (pvR 0 hK hP (by decide) xc0 rfl) rfl rfl hl.1 rfl (lv_room (Nat.le_of_ble_eq_true rfl)) dX6_wardenNumber_114 ⟨Nat.le_of_ble_eq_true rfl, Nat.le_of_ble_eq_true rfl⟩) (fun r27 hr26 => ?_)
              subst hr26
              refine lv_bI (fun c29 => ?_) (fun c29 => ?_)
              · skip
                refine lv_if_eq (tgt := 124) hx hb dX6_wardenNumber_117 (by decide) (fun h0 => absurd h0 (by decide)) (fun _ => ?_)
                refine lv_iconst (v := 1) hx hb dX6_wardenNumber_120 (by decide) ?_
                refine lv_goto (tgt := 125) hx hb dX6_wardenNumber_121 (by decide) ?_
                refine lv_iadd hx hb dX6_wardenNumber_125 ?_
                refine lv_as (y := 1) (by decide) ?_
                exact rw_ir hx hb hr rfl hlocks hS po hP (by show _ = (if quarB s w then (1 : Int32) else 0) + (if quarB s (befN w) then 1 else 0); rw [if_neg c15, if_pos c29]; rfl) dX6_wardenNumber_126
              · skip
                refine lv_if_eq (tgt := 124) hx hb dX6_wardenNumber_117 (by decide) (fun _ => ?_) (fun h0 => absurd (by decide) h0)
                refine lv_iconst (v := 0) hx hb dX6_wardenNumber_124 (by decide) ?_
                refine lv_iadd hx hb dX6_wardenNumber_125 ?_
                refine lv_as (y := 0) (by decide) ?_
                exact rw_ir hx hb hr rfl hlocks hS po hP (by show _ = (if quarB s w then (1 : Int32) else 0) + (if quarB s (befN w) then 1 else 0); rw [if_neg c15, if_neg c29]; rfl) dX6_wardenNumber_126

set_option maxHeartbeats 4000000 in
set_option maxRecDepth 100000 in
theorem m_X6_townNumber (l : Launch) (D : va_G) (cI cS : ClassId) (a : Nat → Nat) (s : St) (st : Nat → St) (pi : Nat → Nat) (mi po : St) (sz q : Nat) (hq : q < 7) (zz : Nat) : Met l yX6_townNumber (.code yX6_townNumber cX6_townNumber 2 (some .int) :: wsA) ({ frames := 4, cells := 0, slots := 0, locals := 87 } : Room) (va_Pc [.ref (a 112), .int (nI q)] (PW D cI cS 113 a (exC cI cS a s st pi mi po) zz)) (va_Qi (fun (r : Int32) (u : St) => r = counN s sz q) (BW D 113 a (fun u => exC cI cS a s st pi mi u)) (AX 113 a zz)) 0 0 (AX 113 a zz) := by
  refine mgo (by decide) (Nat.le_of_ble_eq_true rfl) ?_
  intro p e z m below meth c hx hb hr hml hown hts hlocks hB ls hl
  obtain ⟨hsz, hP, hK, hE⟩ := hB
  subst hsz
  have hS : va_S (AX 113 a z.heap.size) z.heap z.heap [] := va_S.rf
  have hl : lv_has ls 2 [(0, .ref (a 112)), (1, .int (nI q))] := hl
  refine lv_iload_n hx hb dX6_townNumber_0 rfl (lv_at hl 1 rfl) ?_
  by_cases sw1 : nI q = 0
  · skip
    refine lv_tableIn (tgt := 40) hx hb dX6_townNumber_1 (by first | (rw [sw1]; done) | (rw [sw1]; decide)) (by first | (rw [sw1]; done) | (rw [sw1]; decide)) (off := 39) (by first | (rw [sw1]; done) | (rw [sw1]; decide)) (by decide) ?_
    have hjq : 0 = q := ((nI_eq2 (p := q) (q := 0) rfl rfl (by omega) (by omega)).mp sw1).symm
    subst hjq
    refine lv_aload_n hx hb dX6_townNumber_40 rfl (lv_at hl 0 rfl) ?_
    refine g_get hx hb hts hown inA6 hK hP 112 (by decide) xc112 rfl 0 (by decide) tw157 rfl (v := .ref (a 0)) rfl dX6_townNumber_41 ?_
    refine g_getN hx hb hts hown inA4 hK hP 0 (by decide) xc0 rfl 0 (by decide) tn85 rfl (v := .ref (a 1)) rfl dX6_townNumber_44 ?_
    refine g_getN hx hb hts hown inA0 hK hP 1 (by decide) xc1 rfl 0 (by decide) tn35 rfl (v := .int (s 0 0)) rfl dX6_townNumber_47 ?_
    exact rw_ir hx hb hr rfl hlocks hS po hP rfl dX6_townNumber_50
  · skip
    have sw1n : ¬ q = 0 := fun hq0 => sw1 ((nI_eq2 (p := q) (q := 0) rfl rfl (by omega) (by omega)).mpr hq0)
    by_cases sw2 : nI q = 1
    · skip
      refine lv_tableIn (tgt := 51) hx hb dX6_townNumber_1 (by first | (rw [sw2]; done) | (rw [sw2]; decide)) (by first | (rw [sw2]; done) | (rw [sw2]; decide)) (off := 50) (by first | (rw [sw2]; done) | (rw [sw2]; decide)) (by decide) ?_
      have hjq : 1 = q := ((nI_eq2 (p := q) (q := 1) rfl rfl (by omega) (by omega)).mp sw2).symm
      subst hjq
      refine lv_aload_n hx hb dX6_townNumber_51 rfl (lv_at hl 0 rfl) ?_
      refine g_get hx hb hts hown inA6 hK hP 112 (by decide) xc112 rfl 0 (by decide) tw157 rfl (v := .ref (a 0)) rfl dX6_townNumber_52 ?_
      refine g_getN hx hb hts hown inA4 hK hP 0 (by decide) xc0 rfl 3 (by decide) tn92 rfl (v := .int (s 0 1)) rfl dX6_townNumber_55 ?_
      exact rw_ir hx hb hr rfl hlocks hS po hP rfl dX6_townNumber_58
    · skip
      have sw2n : ¬ q = 1 := fun hq0 => sw2 ((nI_eq2 (p := q) (q := 1) rfl rfl (by omega) (by omega)).mpr hq0)
      by_cases sw3 : nI q = 2
      · skip
        refine lv_tableIn (tgt := 59) hx hb dX6_townNumber_1 (by first | (rw [sw3]; done) | (rw [sw3]; decide)) (by first | (rw [sw3]; done) | (rw [sw3]; decide)) (off := 58) (by first | (rw [sw3]; done) | (rw [sw3]; decide)) (by decide) ?_
        have hjq : 2 = q := ((nI_eq2 (p := q) (q := 2) rfl rfl (by omega) (by omega)).mp sw3).symm
        subst hjq
        refine lv_aload_n hx hb dX6_townNumber_59 rfl (lv_at hl 0 rfl) ?_
        refine rw_i hS (va_runV (As := []) (rest := []) ⟨hx, hb, hml, hown, hts⟩ (m_X6_middleNow l D cI cS a s st pi mi po _) (cwV 0 hts (gV tw255 tw252 tw254 ts2 tw1) rfl rfl rfl (by decide +kernel) ⟨Nat.le_of_ble_eq_true rfl, Nat.le_of_ble_eq_true rfl⟩) (pvW 112 hK hP hE (by decide) xc112 rfl) rfl rfl hl.1 rfl (lv_room (Nat.le_of_ble_eq_true rfl)) dX6_townNumber_60 ⟨Nat.le_of_ble_eq_true rfl, Nat.le_of_ble_eq_true rfl⟩) (fun r5 u6 H locs hr4 hP hS => ?_)
        obtain ⟨hr9, hpw⟩ := hr4; subst hr9
        exact rw_ir hx hb hr rfl hlocks hS u6 hP rfl dX6_townNumber_63
      · skip
        have sw3n : ¬ q = 2 := fun hq0 => sw3 ((nI_eq2 (p := q) (q := 2) rfl rfl (by omega) (by omega)).mpr hq0)
        by_cases sw7 : nI q = 3
        · skip
          refine lv_tableIn (tgt := 64) hx hb dX6_townNumber_1 (by first | (rw [sw7]; done) | (rw [sw7]; decide)) (by first | (rw [sw7]; done) | (rw [sw7]; decide)) (off := 63) (by first | (rw [sw7]; done) | (rw [sw7]; decide)) (by decide) ?_
          have hjq : 3 = q := ((nI_eq2 (p := q) (q := 3) rfl rfl (by omega) (by omega)).mp sw7).symm
          subst hjq
          refine lv_aload_n hx hb dX6_townNumber_64 rfl (lv_at hl 0 rfl) ?_
          refine rw_i hS (va_runV (As := []) (rest := []) ⟨hx, hb, hml, hown, hts⟩ (m_X6_middleNowByAdding l D cI cS a s st pi mi po _) (cwV 0 hts (gV tw283 tw280 tw282 ts3 tw1) rfl rfl rfl (by decide +kernel) ⟨Nat.le_of_ble_eq_true rfl, Nat.le_of_ble_eq_true rfl⟩) (pvW 112 hK hP hE (by decide) xc112 rfl) rfl rfl hl.1 rfl (lv_room (Nat.le_of_ble_eq_true rfl)) dX6_townNumber_65 ⟨Nat.le_of_ble_eq_true rfl, Nat.le_of_ble_eq_true rfl⟩) (fun r9 u10 H locs hr8 hP hS => ?_)
          subst hr8
          exact rw_ir hx hb hr rfl hlocks hS u10 hP rfl dX6_townNumber_68
        · skip
          have sw7n : ¬ q = 3 := fun hq0 => sw7 ((nI_eq2 (p := q) (q := 3) rfl rfl (by omega) (by omega)).mpr hq0)
          by_cases sw11 : nI q = 4
          · skip
            refine lv_tableIn (tgt := 69) hx hb dX6_townNumber_1 (by first | (rw [sw11]; done) | (rw [sw11]; decide)) (by first | (rw [sw11]; done) | (rw [sw11]; decide)) (off := 68) (by first | (rw [sw11]; done) | (rw [sw11]; decide)) (by decide) ?_
            have hjq : 4 = q := ((nI_eq2 (p := q) (q := 4) rfl rfl (by omega) (by omega)).mp sw11).symm
            subst hjq
            refine lv_aload_n hx hb dX6_townNumber_69 rfl (lv_at hl 0 rfl) ?_
            refine g_get hx hb hts hown inA6 hK hP 112 (by decide) xc112 rfl 0 (by decide) tw157 rfl (v := .ref (a 0)) rfl dX6_townNumber_70 ?_
            refine g_getN hx hb hts hown inA4 hK hP 0 (by decide) xc0 rfl 1 (by decide) tn88 rfl (v := .ref (a 8)) rfl dX6_townNumber_73 ?_
            refine ro_i (va_runV (As := []) (rest := []) ⟨hx, hb, hml, hown, hts⟩ (m_X5_weightSum l D cI cS a s st pi mi po) (cwV 0 hts (gV tw299 tw296 tw297 tw298 tw4) rfl rfl rfl (by decide +kernel) ⟨Nat.le_of_ble_eq_true rfl, Nat.le_of_ble_eq_true rfl⟩) (pvR 8 hK hP (by decide) xc8 rfl) rfl rfl hl.1 rfl (lv_room (Nat.le_of_ble_eq_true rfl)) dX6_townNumber_76 ⟨Nat.le_of_ble_eq_true rfl, Nat.le_of_ble_eq_true rfl⟩) (fun r13 hr12 => ?_)
            subst hr12
            exact rw_ir hx hb hr rfl hlocks hS po hP rfl dX6_townNumber_79
          · skip
            have sw11n : ¬ q = 4 := fun hq0 => sw11 ((nI_eq2 (p := q) (q := 4) rfl rfl (by omega) (by omega)).mpr hq0)
            by_cases sw15 : nI q = 5
            · skip
              refine lv_tableIn (tgt := 80) hx hb dX6_townNumber_1 (by first | (rw [sw15]; done) | (rw [sw15]; decide)) (by first | (rw [sw15]; done) | (rw [sw15]; decide)) (off := 79) (by first | (rw [sw15]; done) | (rw [sw15]; decide)) (by decide) ?_
              have hjq : 5 = q := ((nI_eq2 (p := q) (q := 5) rfl rfl (by omega) (by omega)).mp sw15).symm
              subst hjq
              refine lv_aload_n hx hb dX6_townNumber_80 rfl (lv_at hl 0 rfl) ?_
              refine g_get hx hb hts hown inA6 hK hP 112 (by decide) xc112 rfl 0 (by decide) tw157 rfl (v := .ref (a 0)) rfl dX6_townNumber_81 ?_
              refine ro_i (va_runV (As := []) (rest := []) ⟨hx, hb, hml, hown, hts⟩ (m_X4_quarrels l D cI cS a s st pi mi po) (cwV 0 hts (gV tw304 tw301 tw302 tw303 tw2) rfl rfl rfl (by decide +kernel) ⟨Nat.le_of_ble_eq_true rfl, Nat.le_of_ble_eq_true rfl⟩) (pvR 0 hK hP (by decide) xc0 rfl) rfl rfl hl.1 rfl (lv_room (Nat.le_of_ble_eq_true rfl)) dX6_townNumber_84 ⟨Nat.le_of_ble_eq_true rfl, Nat.le_of_ble_eq_true rfl⟩) (fun r17 hr16 => ?_)
              subst hr16
              exact rw_ir hx hb hr rfl hlocks hS po hP rfl dX6_townNumber_87
            · skip
              have sw15n : ¬ q = 5 := fun hq0 => sw15 ((nI_eq2 (p := q) (q := 5) rfl rfl (by omega) (by omega)).mpr hq0)
              refine lv_tableOut (tgt := 88) hx hb dX6_townNumber_1 (by have := lv_neT sw1 (a := 0) (by decide); have := lv_neT sw2 (a := 1) (by decide); have := lv_neT sw3 (a := 2) (by decide); have := lv_neT sw7 (a := 3) (by decide); have := lv_neT sw11 (a := 4) (by decide); have := lv_neT sw15 (a := 5) (by decide); omega) (by decide) ?_
              have hjq : 6 = q := by omega
              subst hjq
              refine lv_aload_n hx hb dX6_townNumber_88 rfl (lv_at hl 0 rfl) ?_
              refine g_get hx hb hts hown inA6 hK hP 112 (by decide) xc112 rfl 0 (by decide) tw157 rfl (v := .ref (a 0)) rfl dX6_townNumber_89 ?_
              refine g_getN hx hb hts hown inA4 hK hP 0 (by decide) xc0 rfl 4 (by decide) tn94 rfl (v := .int (s 0 2)) rfl dX6_townNumber_92 ?_
              exact rw_ir hx hb hr rfl hlocks hS po hP rfl dX6_townNumber_95

set_option maxHeartbeats 4000000 in
set_option maxRecDepth 100000 in
theorem m_X6_sumNumber (l : Launch) (D : va_G) (cI cS : ClassId) (a : Nat → Nat) (s : St) (st : Nat → St) (pi : Nat → Nat) (mi po : St) (sz q : Nat) (hq : 7 ≤ q ∧ q < 14) (hs0 : mi 0 0 = nI sz) : Met l yX6_sumNumber (.code yX6_sumNumber cX6_sumNumber 2 (some .int) :: wsA) ({ frames := 3, cells := 0, slots := 0, locals := 64 } : Room) (va_Pc [.ref (a 112), .int (nI q)] (PR D cI cS 113 a (exC cI cS a s st pi mi po))) (vp_Si (fun r => r = counN s sz q)) 0 0 (fun _ => False) := by
  refine mgo (by decide) (Nat.le_of_ble_eq_true rfl) ?_
  intro p e z m below meth c hx hb hr hml hown hts hlocks hB ls hl
  obtain ⟨hP, hK⟩ := hB
  have hl : lv_has ls 2 [(0, .ref (a 112)), (1, .int (nI q))] := hl
  refine lv_iload_n hx hb dX6_sumNumber_0 rfl (lv_at hl 1 rfl) ?_
  by_cases sw1 : nI q = 7
  · skip
    refine lv_tableIn (tgt := 40) hx hb dX6_sumNumber_1 (by first | (rw [sw1]; done) | (rw [sw1]; decide)) (by first | (rw [sw1]; done) | (rw [sw1]; decide)) (off := 39) (by first | (rw [sw1]; done) | (rw [sw1]; decide)) (by decide) ?_
    have hjq : 7 = q := ((nI_eq2 (p := q) (q := 7) rfl rfl (by omega) (by omega)).mp sw1).symm
    subst hjq
    refine lv_aload_n hx hb dX6_sumNumber_40 rfl (lv_at hl 0 rfl) ?_
    refine g_get hx hb hts hown inA6 hK hP 112 (by decide) xc112 rfl 0 (by decide) tw157 rfl (v := .ref (a 0)) rfl dX6_sumNumber_41 ?_
    refine g_getN hx hb hts hown inA4 hK hP 0 (by decide) xc0 rfl 5 (by decide) tn96 rfl (v := .int (s 0 3)) rfl dX6_sumNumber_44 ?_
    exact ro_ir hx hb hr rfl hlocks rfl dX6_sumNumber_47
  · skip
    have sw1n : ¬ q = 7 := fun hq0 => sw1 ((nI_eq2 (p := q) (q := 7) rfl rfl (by omega) (by omega)).mpr hq0)
    by_cases sw2 : nI q = 8
    · skip
      refine lv_tableIn (tgt := 48) hx hb dX6_sumNumber_1 (by first | (rw [sw2]; done) | (rw [sw2]; decide)) (by first | (rw [sw2]; done) | (rw [sw2]; decide)) (off := 47) (by first | (rw [sw2]; done) | (rw [sw2]; decide)) (by decide) ?_
      have hjq : 8 = q := ((nI_eq2 (p := q) (q := 8) rfl rfl (by omega) (by omega)).mp sw2).symm
      subst hjq
      refine lv_aload_n hx hb dX6_sumNumber_48 rfl (lv_at hl 0 rfl) ?_
      refine g_get hx hb hts hown inA6 hK hP 112 (by decide) xc112 rfl 0 (by decide) tw157 rfl (v := .ref (a 0)) rfl dX6_sumNumber_49 ?_
      refine g_getN hx hb hts hown inA4 hK hP 0 (by decide) xc0 rfl 0 (by decide) tn85 rfl (v := .ref (a 1)) rfl dX6_sumNumber_52 ?_
      refine g_getN hx hb hts hown inA0 hK hP 1 (by decide) xc1 rfl 6 (by decide) tn47 rfl (v := .ref (a 7)) rfl dX6_sumNumber_55 ?_
      refine ro_i (va_runS (As := [.ref (a 7)]) (rest := []) ⟨hx, hb, hml, hown, hts⟩ (m_X6_sum l D cI cS 113 a (exC cI cS a s st pi mi po) 7 (by decide) (s 6) rfl) (va_cwS 1 hts (gS tw279 tw324 tw278 tw1) rfl rfl rfl (by decide +kernel) ⟨Nat.le_of_ble_eq_true rfl, Nat.le_of_ble_eq_true rfl⟩) (psR hK hP) rfl rfl hl.1 rfl (lv_room (Nat.le_of_ble_eq_true rfl)) dX6_sumNumber_58 ⟨Nat.le_of_ble_eq_true rfl, Nat.le_of_ble_eq_true rfl⟩) (fun r4 hr3 => ?_)
      subst hr3
      exact ro_ir hx hb hr rfl hlocks rfl dX6_sumNumber_61
    · skip
      have sw2n : ¬ q = 8 := fun hq0 => sw2 ((nI_eq2 (p := q) (q := 8) rfl rfl (by omega) (by omega)).mpr hq0)
      by_cases sw6 : nI q = 9
      · skip
        refine lv_tableIn (tgt := 62) hx hb dX6_sumNumber_1 (by first | (rw [sw6]; done) | (rw [sw6]; decide)) (by first | (rw [sw6]; done) | (rw [sw6]; decide)) (off := 61) (by first | (rw [sw6]; done) | (rw [sw6]; decide)) (by decide) ?_
        have hjq : 9 = q := ((nI_eq2 (p := q) (q := 9) rfl rfl (by omega) (by omega)).mp sw6).symm
        subst hjq
        refine lv_aload_n hx hb dX6_sumNumber_62 rfl (lv_at hl 0 rfl) ?_
        refine g_get hx hb hts hown inA6 hK hP 112 (by decide) xc112 rfl 0 (by decide) tw157 rfl (v := .ref (a 0)) rfl dX6_sumNumber_63 ?_
        refine g_getN hx hb hts hown inA4 hK hP 0 (by decide) xc0 rfl 0 (by decide) tn85 rfl (v := .ref (a 1)) rfl dX6_sumNumber_66 ?_
        refine g_getN hx hb hts hown inA0 hK hP 1 (by decide) xc1 rfl 4 (by decide) tn43 rfl (v := .ref (a 5)) rfl dX6_sumNumber_69 ?_
        refine ro_i (va_runS (As := [.ref (a 5)]) (rest := []) ⟨hx, hb, hml, hown, hts⟩ (m_X6_sum l D cI cS 113 a (exC cI cS a s st pi mi po) 5 (by decide) (s 4) rfl) (va_cwS 1 hts (gS tw279 tw324 tw278 tw1) rfl rfl rfl (by decide +kernel) ⟨Nat.le_of_ble_eq_true rfl, Nat.le_of_ble_eq_true rfl⟩) (psR hK hP) rfl rfl hl.1 rfl (lv_room (Nat.le_of_ble_eq_true rfl)) dX6_sumNumber_72 ⟨Nat.le_of_ble_eq_true rfl, Nat.le_of_ble_eq_true rfl⟩) (fun r8 hr7 => ?_)
        subst hr7
        exact ro_ir hx hb hr rfl hlocks rfl dX6_sumNumber_75
      · skip
        have sw6n : ¬ q = 9 := fun hq0 => sw6 ((nI_eq2 (p := q) (q := 9) rfl rfl (by omega) (by omega)).mpr hq0)
        by_cases sw10 : nI q = 10
        · skip
          refine lv_tableIn (tgt := 76) hx hb dX6_sumNumber_1 (by first | (rw [sw10]; done) | (rw [sw10]; decide)) (by first | (rw [sw10]; done) | (rw [sw10]; decide)) (off := 75) (by first | (rw [sw10]; done) | (rw [sw10]; decide)) (by decide) ?_
          have hjq : 10 = q := ((nI_eq2 (p := q) (q := 10) rfl rfl (by omega) (by omega)).mp sw10).symm
          subst hjq
          refine lv_aload_n hx hb dX6_sumNumber_76 rfl (lv_at hl 0 rfl) ?_
          refine g_get hx hb hts hown inA6 hK hP 112 (by decide) xc112 rfl 0 (by decide) tw157 rfl (v := .ref (a 0)) rfl dX6_sumNumber_77 ?_
          refine g_getN hx hb hts hown inA4 hK hP 0 (by decide) xc0 rfl 0 (by decide) tn85 rfl (v := .ref (a 1)) rfl dX6_sumNumber_80 ?_
          refine g_getN hx hb hts hown inA0 hK hP 1 (by decide) xc1 rfl 5 (by decide) tn45 rfl (v := .ref (a 6)) rfl dX6_sumNumber_83 ?_
          refine ro_i (va_runS (As := [.ref (a 6)]) (rest := []) ⟨hx, hb, hml, hown, hts⟩ (m_X6_sum l D cI cS 113 a (exC cI cS a s st pi mi po) 6 (by decide) (s 5) rfl) (va_cwS 1 hts (gS tw279 tw324 tw278 tw1) rfl rfl rfl (by decide +kernel) ⟨Nat.le_of_ble_eq_true rfl, Nat.le_of_ble_eq_true rfl⟩) (psR hK hP) rfl rfl hl.1 rfl (lv_room (Nat.le_of_ble_eq_true rfl)) dX6_sumNumber_86 ⟨Nat.le_of_ble_eq_true rfl, Nat.le_of_ble_eq_true rfl⟩) (fun r12 hr11 => ?_)
          subst hr11
          exact ro_ir hx hb hr rfl hlocks rfl dX6_sumNumber_89
        · skip
          have sw10n : ¬ q = 10 := fun hq0 => sw10 ((nI_eq2 (p := q) (q := 10) rfl rfl (by omega) (by omega)).mpr hq0)
          by_cases sw14 : nI q = 11
          · skip
            refine lv_tableIn (tgt := 90) hx hb dX6_sumNumber_1 (by first | (rw [sw14]; done) | (rw [sw14]; decide)) (by first | (rw [sw14]; done) | (rw [sw14]; decide)) (off := 89) (by first | (rw [sw14]; done) | (rw [sw14]; decide)) (by decide) ?_
            have hjq : 11 = q := ((nI_eq2 (p := q) (q := 11) rfl rfl (by omega) (by omega)).mp sw14).symm
            subst hjq
            refine lv_aload_n hx hb dX6_sumNumber_90 rfl (lv_at hl 0 rfl) ?_
            refine g_get hx hb hts hown inA6 hK hP 112 (by decide) xc112 rfl 0 (by decide) tw157 rfl (v := .ref (a 0)) rfl dX6_sumNumber_91 ?_
            refine ro_i (va_runV (As := []) (rest := []) ⟨hx, hb, hml, hown, hts⟩ (m_X4_dialsOff l D cI cS a s st pi mi po) (cwV 0 hts (gV tw328 tw325 tw326 tw327 tw2) rfl rfl rfl (by decide +kernel) ⟨Nat.le_of_ble_eq_true rfl, Nat.le_of_ble_eq_true rfl⟩) (pvR 0 hK hP (by decide) xc0 rfl) rfl rfl hl.1 rfl (lv_room (Nat.le_of_ble_eq_true rfl)) dX6_sumNumber_94 ⟨Nat.le_of_ble_eq_true rfl, Nat.le_of_ble_eq_true rfl⟩) (fun r16 hr15 => ?_)
            subst hr15
            exact ro_ir hx hb hr rfl hlocks rfl dX6_sumNumber_97
          · skip
            have sw14n : ¬ q = 11 := fun hq0 => sw14 ((nI_eq2 (p := q) (q := 11) rfl rfl (by omega) (by omega)).mpr hq0)
            by_cases sw18 : nI q = 12
            · skip
              refine lv_tableIn (tgt := 98) hx hb dX6_sumNumber_1 (by first | (rw [sw18]; done) | (rw [sw18]; decide)) (by first | (rw [sw18]; done) | (rw [sw18]; decide)) (off := 97) (by first | (rw [sw18]; done) | (rw [sw18]; decide)) (by decide) ?_
              have hjq : 12 = q := ((nI_eq2 (p := q) (q := 12) rfl rfl (by omega) (by omega)).mp sw18).symm
              subst hjq
              refine lv_aload_n hx hb dX6_sumNumber_98 rfl (lv_at hl 0 rfl) ?_
              refine g_get hx hb hts hown inA6 hK hP 112 (by decide) xc112 rfl 0 (by decide) tw157 rfl (v := .ref (a 0)) rfl dX6_sumNumber_99 ?_
              refine g_getN hx hb hts hown inA4 hK hP 0 (by decide) xc0 rfl 3 (by decide) tn92 rfl (v := .int (s 0 1)) rfl dX6_sumNumber_102 ?_
              refine lv_aload_n hx hb dX6_sumNumber_105 rfl (lv_at hl 0 rfl) ?_
              refine g_get hx hb hts hown inA6 hK hP 112 (by decide) xc112 rfl 0 (by decide) tw157 rfl (v := .ref (a 0)) rfl dX6_sumNumber_106 ?_
              refine g_getN hx hb hts hown inA4 hK hP 0 (by decide) xc0 rfl 0 (by decide) tn85 rfl (v := .ref (a 1)) rfl dX6_sumNumber_109 ?_
              refine g_getN hx hb hts hown inA0 hK hP 1 (by decide) xc1 rfl 0 (by decide) tn35 rfl (v := .int (s 0 0)) rfl dX6_sumNumber_112 ?_
              refine ro_i (va_runS (As := [.int (s 0 1), .int (s 0 0)]) (rest := []) ⟨hx, hb, hml, hown, hts⟩ (m_X6_distance l (s 0 1) (s 0 0)) (va_cwS 2 hts (gS tw319 tw333 tw318 tw1) rfl rfl rfl (by decide +kernel) ⟨Nat.le_of_ble_eq_true rfl, Nat.le_of_ble_eq_true rfl⟩) ps0 rfl rfl hl.1 rfl (lv_room (Nat.le_of_ble_eq_true rfl)) dX6_sumNumber_115 ⟨Nat.le_of_ble_eq_true rfl, Nat.le_of_ble_eq_true rfl⟩) (fun r20 hr19 => ?_)
              subst hr19
              exact ro_ir hx hb hr rfl hlocks rfl dX6_sumNumber_118
            · skip
              have sw18n : ¬ q = 12 := fun hq0 => sw18 ((nI_eq2 (p := q) (q := 12) rfl rfl (by omega) (by omega)).mpr hq0)
              refine lv_tableOut (tgt := 119) hx hb dX6_sumNumber_1 (by have := lv_neT sw1 (a := 7) (by decide); have := lv_neT sw2 (a := 8) (by decide); have := lv_neT sw6 (a := 9) (by decide); have := lv_neT sw10 (a := 10) (by decide); have := lv_neT sw14 (a := 11) (by decide); have := lv_neT sw18 (a := 12) (by decide); omega) (by decide) ?_
              have hjq : 13 = q := by omega
              subst hjq
              refine lv_aload_n hx hb dX6_sumNumber_119 rfl (lv_at hl 0 rfl) ?_
              refine g_get hx hb hts hown inA6 hK hP 112 (by decide) xc112 rfl 3 (by decide) tw160 rfl (v := .ref (a 104)) rfl dX6_sumNumber_120 ?_
              refine g_getN hx hb hts hown inA1 hK hP 104 (by decide) xc104 rfl 1 (by decide) tn121 rfl (v := .int (mi 0 0)) rfl dX6_sumNumber_123 ?_
              exact ro_ir hx hb hr rfl hlocks hs0 dX6_sumNumber_126
