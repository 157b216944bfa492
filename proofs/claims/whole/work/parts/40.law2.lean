set_option maxHeartbeats 4000000 in
set_option maxRecDepth 100000 in
theorem law_firstError {p : Program} {l : Launch} {e : Env} {z : State} {m : MethodId} {below : List Frame} {meth : Method} {c : Code} {Q : State → Prop} {D : va_G} {cI cS cL : ClassId} {a b : Nat → Nat} {bs L : Nat} {xs : Nat → Int32} {T : Int} {j cells slots : Nat} {H : Heap} {locs : List Loc} {ls : Array Slot} (hC : LF p l z m meth c D cI cS cL a b bs L xs) (hj : 4 * j + 3 < L) (hT : T ≤ 99000000) (h0T : 0 ≤ T) (hc1 : cells + 1 ≤ room_1.cells ∧ slots + 6 ≤ room_1.slots) (hW : LWd D cI cS cL a b T H) (hS : va_S (LA z.heap.size) z.heap H locs) (hl : lv_has ls 9 [(0, .ref bs), (1, .ref (a 112)), (2, .ref (b 0)), (3, .ref (a 113)), (4, .int (nI (4 * j)))])
    (kk : ∀ (H1 : Heap) (locs1 : List Loc) (ls1 : Array Slot), LWd D cI cS cL a b (T + 100000) H1 → va_S (LA z.heap.size) z.heap H1 locs1 → lv_has ls1 9 [(0, .ref bs), (1, .ref (a 112)), (2, .ref (b 0)), (3, .ref (a 113)), (4, .int (nI (4 * j)))] → W p l e room_1 z m #[Value.ref bs] below meth c H1 locs1 (cells + 1) (slots + 6) Q (F0 m 1363 ls1 [])) : W p l e room_1 z m #[Value.ref bs] below meth c H locs cells slots Q (F0 m 622 ls []) := by
  obtain ⟨hx, hb, hml, hown, hts, hK, hKL, hEV, hEH, hXs, hbl, hL9, hL, hst⟩ := hC
  obtain ⟨s, st, pi, mi, po, ov, kp, hf, sc, ad, sz, ln, hPx, hPm, hLI⟩ := hW
  obtain ⟨hsz, hpi, hpj, hh, hBd, hln, hs0, hl0, hk0, hlm, hkm, hkk⟩ := id hLI
  have hEm := hL.2.1
  have hc0 : cells + 0 ≤ room_1.cells ∧ slots + 0 ≤ room_1.slots := ⟨by omega, by omega⟩
  refine lv_aload_n hx hb dL_law_622 rfl (lv_at hl 1 rfl) ?_
  refine ro_i (va_runV (As := []) (rest := []) ⟨hx, hb, hml, hown, hts⟩ (m_X6_firstError l D cI cS a s st pi mi po ln hln hl0) (cwV 0 hts (gV tw246 tw243 tw244 tw245 tw1) rfl rfl rfl (by decide +kernel) ⟨Nat.le_of_ble_eq_true rfl, Nat.le_of_ble_eq_true rfl⟩) (pvR' 112 rfl hK hPx (by decide) rfl rfl (exO_s hPx)) rfl rfl hl.1 rfl (lv_room (Nat.le_of_ble_eq_true rfl)) dL_law_623 hc0) (fun rA hrA => ?_)
  refine lv_aload_n hx hb dL_law_626 rfl (lv_at hl 2 rfl) ?_
  refine lwM_i hL hS hPx (va_runV (As := []) (rest := [.int rA]) ⟨hx, hb, hml, hown, hts⟩ (m_X7_firstError l D cI cS b s kp hf sc ad (mi 1) ln hln hlm _) (cwV 0 hts (gV tw906 tw903 tw904 tw905 tw8) rfl rfl rfl (by decide +kernel) ⟨Nat.le_of_ble_eq_true rfl, Nat.le_of_ble_eq_true rfl⟩) (pvW 0 hK hPm hEm (by decide) rfl rfl) rfl rfl hl.1 rfl (lv_room (Nat.le_of_ble_eq_true rfl)) dL_law_627 hc0) (fun rB u2 H locs hrB hPx hPm hS => ?_)
  obtain ⟨hrB, f0, f1, f2, f3⟩ := hrB
  refine lv_icmp_eq (tgt := 1363) hx hb dL_law_630 (by decide) (fun _ => ?_) (fun h0 => absurd (hrA.trans hrB.symm) h0)
  refine W.widen (k := cells + 1) (n := slots + 6) (by omega) (by omega) ?_
  exact kk H locs ls ⟨s, st, pi, mi, po, ov, kp, hf, u2, ad, sz, ln, hPx, hPm, hLI.lk (by omega) hln rfl hl0 rfl f0 f1 (f2.trans hlm)⟩ hS (lv_sub hl [0, 1, 2, 3, 4] rfl)

set_option maxHeartbeats 4000000 in
set_option maxRecDepth 100000 in
theorem law_obey {p : Program} {l : Launch} {e : Env} {z : State} {m : MethodId} {below : List Frame} {meth : Method} {c : Code} {Q : State → Prop} {D : va_G} {cI cS cL : ClassId} {a b : Nat → Nat} {bs L : Nat} {xs : Nat → Int32} {T : Int} {j cells slots : Nat} {H : Heap} {locs : List Loc} {ls : Array Slot} (hC : LF p l z m meth c D cI cS cL a b bs L xs) (hj : 4 * j + 3 < L) (hT : T ≤ 99000000) (h0T : 0 ≤ T) (hc1 : cells + 1 ≤ room_1.cells ∧ slots + 6 ≤ room_1.slots) (hW : LWd D cI cS cL a b T H) (hS : va_S (LA z.heap.size) z.heap H locs) (hl : lv_has ls 9 [(0, .ref bs), (1, .ref (a 112)), (2, .ref (b 0)), (3, .ref (a 113)), (4, .int (nI (4 * j)))])
    (kk : ∀ (H1 : Heap) (locs1 : List Loc) (ls1 : Array Slot), LWd D cI cS cL a b (T + 100000) H1 → va_S (LA z.heap.size) z.heap H1 locs1 → lv_has ls1 9 [(0, .ref bs), (1, .ref (a 112)), (2, .ref (b 0)), (3, .ref (a 113)), (4, .int (nI (4 * j)))] → W p l e room_1 z m #[Value.ref bs] below meth c H1 locs1 (cells + 1) (slots + 6) Q (F0 m 1363 ls1 [])) : W p l e room_1 z m #[Value.ref bs] below meth c H locs cells slots Q (F0 m 635 ls []) := by
  obtain ⟨hx, hb, hml, hown, hts, hK, hKL, hEV, hEH, hXs, hbl, hL9, hL, hst⟩ := hC
  obtain ⟨s, st, pi, mi, po, ov, kp, hf, sc, ad, sz, ln, hPx, hPm, hLI⟩ := hW
  obtain ⟨hsz, hpi, hpj, hh, hBd, hln, hs0, hl0, hk0, hlm, hkm, hkk⟩ := id hLI
  have hEm := hL.2.1
  have hc0 : cells + 0 ≤ room_1.cells ∧ slots + 0 ≤ room_1.slots := ⟨by omega, by omega⟩
  by_cases h1 : cmpB (mi 1) ln
  · skip
    refine lv_aload_n hx hb dL_law_635 rfl (lv_at hl 1 rfl) ?_
    refine lv_aload_n hx hb dL_law_636 rfl (lv_at hl 3 rfl) ?_
    refine lwL_i hL hS hPm (vx_runSW (As := [.ref (a 112), .ref (a 113)]) (rest := []) ⟨hx, hb, hml, hown, hts⟩ (m_L_obey l D cI cS cL a s st pi mi po ov sz hsz hs0 hpi ln hln hl0 h1 (hpo_of h1) _) (vx_cwSW 2 hts (gS tw662 tw660 tw661 tw0) rfl rfl rfl (by decide +kernel) ⟨Nat.le_of_ble_eq_true rfl, Nat.le_of_ble_eq_true rfl⟩) (psO hK hPx hL.1 hKL hEV ((hEH.kept hS.2.1).narrow (fun _ h => h.elim))) rfl rfl hl.1 rfl (lv_room (Nat.le_of_ble_eq_true rfl)) dL_law_637 hc0) (fun rA u1 H locs hrA hPx hPm hS => ?_)
    subst hrA
    refine lv_istore (lv' := [(5, .int 0), (0, .ref bs), (1, .ref (a 112)), (2, .ref (b 0)), (3, .ref (a 113)), (4, .int (nI (4 * j)))]) hx hb dL_law_640 hl (by decide) rfl (fun ls hl => ?_)
    refine lv_aload_n hx hb dL_law_642 rfl (lv_at hl 3 rfl) ?_
    refine lwM_i hL hS hPx (va_runV (As := []) (rest := []) ⟨hx, hb, hml, hown, hts⟩ (m_X7_obey l D cI cS b s kp hf sc ad (mi 1) sz hsz hk0 ln hln hlm T hBd (by omega) h1 _) (cwV 0 hts (gV tw926 tw923 tw924 tw925 tw8) rfl rfl rfl (by decide +kernel) ⟨Nat.le_of_ble_eq_true rfl, Nat.le_of_ble_eq_true rfl⟩) (pvW 0 hK hPm hEm (by decide) rfl rfl) rfl rfl hl.1 rfl (lv_room (Nat.le_of_ble_eq_true rfl)) dL_law_643 hc0) (fun rB u2 H locs hrB hPx hPm hS => ?_)
    obtain ⟨hrB, f0, f1, f2, f3⟩ := hrB
    refine lv_istore (lv' := [(6, .int rB), (5, .int 0), (0, .ref bs), (1, .ref (a 112)), (2, .ref (b 0)), (3, .ref (a 113)), (4, .int (nI (4 * j)))]) hx hb dL_law_646 hl (by decide) rfl (fun ls hl => ?_)
    refine lv_aload_n hx hb dL_law_648 rfl (lv_at hl 4 rfl) ?_
    refine ro_i (va_runV (As := []) (rest := []) ⟨hx, hb, hml, hown, hts⟩ (m_X7_thrown l D cI cS b ((obF (mi 1) ln ln 0 s 0).1) kp (svH hf sz s) u2 ad (mi 1)) (cwV 0 hts (gV tw797 tw794 tw795 tw796 tw8) rfl rfl rfl (by decide +kernel) ⟨Nat.le_of_ble_eq_true rfl, Nat.le_of_ble_eq_true rfl⟩) (pvR 0 hK hPm (by decide) rfl rfl) rfl rfl hl.1 rfl (lv_room (Nat.le_of_ble_eq_true rfl)) dL_law_649 hc0) (fun r7 hr7 => ?_)
    have hr7 : r7 = 0 := hr7.trans f3
    subst hr7
    refine lv_iload hx hb dL_law_652 (lv_at hl 1 rfl) ?_
    refine lv_icmp_eq (tgt := 659) hx hb dL_law_654 (by decide) (fun _ => ?_) (fun h0 => absurd (by decide) h0)
    refine lv_iload hx hb dL_law_659 (lv_at hl 1 rfl) ?_
    refine lv_if_ne (tgt := 676) hx hb dL_law_661 (by decide) (fun h0 => absurd (by decide) h0) (fun _ => ?_)
    refine lv_aload_n hx hb dL_law_664 rfl (lv_at hl 5 rfl) ?_
    refine lv_iconst (v := 0) hx hb dL_law_665 (by decide) ?_
    refine g_lald hx hb hKL hPx (v := ((obF (mi 1) ln ln 0 s 0).2).toInt64) rfl dL_law_666 ?_
    refine lv_iload hx hb dL_law_667 (lv_at hl 0 rfl) ?_
    refine lv_i2l hx hb dL_law_669 rfl ?_
    refine g_lcmp0 hx hb (by rw [hrB]) dL_law_670 ?_
    refine lv_if_eq (tgt := 676) hx hb dL_law_671 (by decide) (fun _ => ?_) (fun h0 => absurd (by decide) h0)
    refine lv_goto (tgt := 1363) hx hb dL_law_676 (by decide) ?_
    refine W.widen (k := cells + 1) (n := slots + 6) (by omega) (by omega) ?_
    exact kk H locs ls ⟨(obF (mi 1) ln ln 0 s 0).1, (va_up st (svPi pi sz (svQ sz) + 1) s), (svPi pi sz), (up2 (up2 mi 0 0 (nI (svQ sz + 1))) 0 1 0), u1, (vp_updL ov 0 ((obF (mi 1) ln ln 0 s 0).2).toInt64), kp, (svH hf sz s), u2, ad, svQ sz + 1, 0, hPx, hPm, hLI.sv (by omega) ((hBd.obey (by omega) hln h1).mono (by omega)) (by omega) rfl rfl rfl f0 f1 f2⟩ hS (lv_sub hl [2, 3, 4, 5, 6] rfl)
  · skip
    refine lv_aload_n hx hb dL_law_635 rfl (lv_at hl 1 rfl) ?_
    refine lv_aload_n hx hb dL_law_636 rfl (lv_at hl 3 rfl) ?_
    refine lwL_i hL hS hPm (vx_runSW (As := [.ref (a 112), .ref (a 113)]) (rest := []) ⟨hx, hb, hml, hown, hts⟩ (mt_L_obey l hst D cI cS cL a s st pi mi po ov ln hln hl0 h1 _) (vx_cwSW 2 hts (gS tw662 tw660 tw661 tw0) rfl rfl rfl (by decide +kernel) ⟨Nat.le_of_ble_eq_true rfl, Nat.le_of_ble_eq_true rfl⟩) (psO hK hPx hL.1 hKL hEV ((hEH.kept hS.2.1).narrow (fun _ h => h.elim))) rfl rfl hl.1 rfl (lv_room (Nat.le_of_ble_eq_true rfl)) dL_law_637 hc1) (fun rA u1 H locs hrA hPx hPm hS => ?_)
    subst hrA
    refine lv_istore (lv' := [(5, .int 1), (0, .ref bs), (1, .ref (a 112)), (2, .ref (b 0)), (3, .ref (a 113)), (4, .int (nI (4 * j)))]) hx hb dL_law_640 hl (by decide) rfl (fun ls hl => ?_)
    refine lv_aload_n hx hb dL_law_642 rfl (lv_at hl 3 rfl) ?_
    refine lwM_i hL hS hPx (va_runV (As := []) (rest := []) ⟨hx, hb, hml, hown, hts⟩ (mx_X7_obey l D cI cS b s kp hf sc ad (mi 1) sz hk0 ln hln hlm h1 _) (cwV 0 hts (gV tw926 tw923 tw924 tw925 tw8) rfl rfl rfl (by decide +kernel) ⟨Nat.le_of_ble_eq_true rfl, Nat.le_of_ble_eq_true rfl⟩) (pvW 0 hK hPm hEm (by decide) rfl rfl) rfl rfl hl.1 rfl (lv_room (Nat.le_of_ble_eq_true rfl)) dL_law_643 hc1) (fun rB u2 H locs hrB hPx hPm hS => ?_)
    obtain ⟨hrB, f0, f1, f2, f3⟩ := hrB
    refine lv_istore (lv' := [(6, .int rB), (5, .int 1), (0, .ref bs), (1, .ref (a 112)), (2, .ref (b 0)), (3, .ref (a 113)), (4, .int (nI (4 * j)))]) hx hb dL_law_646 hl (by decide) rfl (fun ls hl => ?_)
    refine lv_aload_n hx hb dL_law_648 rfl (lv_at hl 4 rfl) ?_
    refine ro_i (va_runV (As := []) (rest := []) ⟨hx, hb, hml, hown, hts⟩ (m_X7_thrown l D cI cS b s kp hf u2 ad (mi 1)) (cwV 0 hts (gV tw797 tw794 tw795 tw796 tw8) rfl rfl rfl (by decide +kernel) ⟨Nat.le_of_ble_eq_true rfl, Nat.le_of_ble_eq_true rfl⟩) (pvR 0 hK hPm (by decide) rfl rfl) rfl rfl hl.1 rfl (lv_room (Nat.le_of_ble_eq_true rfl)) dL_law_649 hc1) (fun r7 hr7 => ?_)
    have hr7 : r7 = 1 := hr7.trans f3
    subst hr7
    refine lv_iload hx hb dL_law_652 (lv_at hl 1 rfl) ?_
    refine lv_icmp_eq (tgt := 659) hx hb dL_law_654 (by decide) (fun _ => ?_) (fun h0 => absurd (by decide) h0)
    refine lv_iload hx hb dL_law_659 (lv_at hl 1 rfl) ?_
    refine lv_if_ne (tgt := 676) hx hb dL_law_661 (by decide) (fun _ => ?_) (fun h0 => absurd h0 (by decide))
    refine lv_goto (tgt := 1363) hx hb dL_law_676 (by decide) ?_
    refine W.widen (k := cells + 1) (n := slots + 6) (by omega) (by omega) ?_
    exact kk H locs ls ⟨s, st, pi, mi, po, ov, kp, hf, u2, ad, sz, ln, hPx, hPm, hLI.lk (by omega) hln rfl hl0 rfl f0 f1 (f2.trans hlm)⟩ hS (lv_sub hl [2, 3, 4, 5, 6] rfl)

set_option maxHeartbeats 4000000 in
set_option maxRecDepth 100000 in
theorem law_keep {p : Program} {l : Launch} {e : Env} {z : State} {m : MethodId} {below : List Frame} {meth : Method} {c : Code} {Q : State → Prop} {D : va_G} {cI cS cL : ClassId} {a b : Nat → Nat} {bs L : Nat} {xs : Nat → Int32} {T : Int} {j cells slots : Nat} {H : Heap} {locs : List Loc} {ls : Array Slot} (hC : LF p l z m meth c D cI cS cL a b bs L xs) (hj : 4 * j + 3 < L) (hT : T ≤ 99000000) (h0T : 0 ≤ T) (hc1 : cells + 1 ≤ room_1.cells ∧ slots + 6 ≤ room_1.slots) (hW : LWd D cI cS cL a b T H) (hS : va_S (LA z.heap.size) z.heap H locs) (hl : lv_has ls 9 [(0, .ref bs), (1, .ref (a 112)), (2, .ref (b 0)), (3, .ref (a 113)), (4, .int (nI (4 * j)))])
    (kk : ∀ (H1 : Heap) (locs1 : List Loc) (ls1 : Array Slot), LWd D cI cS cL a b (T + 100000) H1 → va_S (LA z.heap.size) z.heap H1 locs1 → lv_has ls1 9 [(0, .ref bs), (1, .ref (a 112)), (2, .ref (b 0)), (3, .ref (a 113)), (4, .int (nI (4 * j)))] → W p l e room_1 z m #[Value.ref bs] below meth c H1 locs1 (cells + 1) (slots + 6) Q (F0 m 1363 ls1 [])) : W p l e room_1 z m #[Value.ref bs] below meth c H locs cells slots Q (F0 m 679 ls []) := by
  obtain ⟨hx, hb, hml, hown, hts, hK, hKL, hEV, hEH, hXs, hbl, hL9, hL, hst⟩ := hC
  obtain ⟨s, st, pi, mi, po, ov, kp, hf, sc, ad, sz, ln, hPx, hPm, hLI⟩ := hW
  obtain ⟨hsz, hpi, hpj, hh, hBd, hln, hs0, hl0, hk0, hlm, hkm, hkk⟩ := id hLI
  have hEm := hL.2.1
  have hc0 : cells + 0 ≤ room_1.cells ∧ slots + 0 ≤ room_1.slots := ⟨by omega, by omega⟩
  refine lv_aload_n hx hb dL_law_679 rfl (lv_at hl 1 rfl) ?_
  refine lwX_i hL hS hPx hPm (va_runV (As := []) (rest := []) ⟨hx, hb, hml, hown, hts⟩ (m_X6_keep l D cI cS a s st pi mi po  _) (cwV 0 hts (gV tw270 tw267 tw268 tw269 tw1) rfl rfl rfl (by decide +kernel) ⟨Nat.le_of_ble_eq_true rfl, Nat.le_of_ble_eq_true rfl⟩) (pvW' 112 rfl hK hPx (by decide) rfl rfl (exO_s hPx) (DI_s hL.1)) rfl rfl hl.1 rfl (lv_room (Nat.le_of_ble_eq_true rfl)) dL_law_680 hc0) (fun rA u1 H locs hrA hPx hPm hS => ?_)
  refine lv_aload_n hx hb dL_law_683 rfl (lv_at hl 2 rfl) ?_
  refine lwM_i hL hS hPx (va_runV (As := []) (rest := [.int rA]) ⟨hx, hb, hml, hown, hts⟩ (m_X7_keep l D cI cS b (mdl s kp hf sc ad (mi 1))  _) (cwV 0 hts (gV tw930 tw927 tw928 tw929 tw8) rfl rfl rfl (by decide +kernel) ⟨Nat.le_of_ble_eq_true rfl, Nat.le_of_ble_eq_true rfl⟩) (pvW 0 hK hPm hEm (by decide) rfl rfl) rfl rfl hl.1 rfl (lv_room (Nat.le_of_ble_eq_true rfl)) dL_law_684 hc0) (fun rB u2 H locs hrB hPx hPm hS => ?_)
  have hPm := keep_cv hPm
  refine lv_icmp_eq (tgt := 1363) hx hb dL_law_687 (by decide) (fun _ => ?_) (fun h0 => absurd (hrA.trans hrB.symm) h0)
  refine W.widen (k := cells + 1) (n := slots + 6) (by omega) (by omega) ?_
  exact kk H locs ls ⟨s, (va_up st 0 s), pi, (up2 mi 0 2 1), po, ov, s, hf, (upd (upd sc 3 0) 1 1), ad, sz, ln, hPx, hPm, hLI.kp (by omega) rfl rfl rfl rfl rfl rfl⟩ hS (lv_sub hl [0, 1, 2, 3, 4] rfl)

set_option maxHeartbeats 4000000 in
set_option maxRecDepth 100000 in
theorem law_goBack {p : Program} {l : Launch} {e : Env} {z : State} {m : MethodId} {below : List Frame} {meth : Method} {c : Code} {Q : State → Prop} {D : va_G} {cI cS cL : ClassId} {a b : Nat → Nat} {bs L : Nat} {xs : Nat → Int32} {T : Int} {j cells slots : Nat} {H : Heap} {locs : List Loc} {ls : Array Slot} (hC : LF p l z m meth c D cI cS cL a b bs L xs) (hj : 4 * j + 3 < L) (hT : T ≤ 99000000) (h0T : 0 ≤ T) (hc1 : cells + 1 ≤ room_1.cells ∧ slots + 6 ≤ room_1.slots) (hW : LWd D cI cS cL a b T H) (hS : va_S (LA z.heap.size) z.heap H locs) (hl : lv_has ls 9 [(0, .ref bs), (1, .ref (a 112)), (2, .ref (b 0)), (3, .ref (a 113)), (4, .int (nI (4 * j)))])
    (kk : ∀ (H1 : Heap) (locs1 : List Loc) (ls1 : Array Slot), LWd D cI cS cL a b (T + 100000) H1 → va_S (LA z.heap.size) z.heap H1 locs1 → lv_has ls1 9 [(0, .ref bs), (1, .ref (a 112)), (2, .ref (b 0)), (3, .ref (a 113)), (4, .int (nI (4 * j)))] → W p l e room_1 z m #[Value.ref bs] below meth c H1 locs1 (cells + 1) (slots + 6) Q (F0 m 1363 ls1 [])) : W p l e room_1 z m #[Value.ref bs] below meth c H locs cells slots Q (F0 m 692 ls []) := by
  obtain ⟨hx, hb, hml, hown, hts, hK, hKL, hEV, hEH, hXs, hbl, hL9, hL, hst⟩ := hC
  obtain ⟨s, st, pi, mi, po, ov, kp, hf, sc, ad, sz, ln, hPx, hPm, hLI⟩ := hW
  obtain ⟨hsz, hpi, hpj, hh, hBd, hln, hs0, hl0, hk0, hlm, hkm, hkk⟩ := id hLI
  have hEm := hL.2.1
  have hc0 : cells + 0 ≤ room_1.cells ∧ slots + 0 ≤ room_1.slots := ⟨by omega, by omega⟩
  by_cases h1 : mi 0 2 = 0
  · skip
    refine lv_aload_n hx hb dL_law_692 rfl (lv_at hl 1 rfl) ?_
    refine lv_aload_n hx hb dL_law_693 rfl (lv_at hl 3 rfl) ?_
    refine lwL_i hL hS hPm (vx_runSW (As := [.ref (a 112), .ref (a 113)]) (rest := []) ⟨hx, hb, hml, hown, hts⟩ (mt_L_goBack l hst D cI cS cL a s st pi mi po ov h1 _) (vx_cwSW 2 hts (gS tw695 tw693 tw694 tw0) rfl rfl rfl (by decide +kernel) ⟨Nat.le_of_ble_eq_true rfl, Nat.le_of_ble_eq_true rfl⟩) (psO hK hPx hL.1 hKL hEV ((hEH.kept hS.2.1).narrow (fun _ h => h.elim))) rfl rfl hl.1 rfl (lv_room (Nat.le_of_ble_eq_true rfl)) dL_law_694 hc1) (fun rA u1 H locs hrA hPx hPm hS => ?_)
    subst hrA
    refine lv_istore (lv' := [(5, .int 1), (0, .ref bs), (1, .ref (a 112)), (2, .ref (b 0)), (3, .ref (a 113)), (4, .int (nI (4 * j)))]) hx hb dL_law_697 hl (by decide) rfl (fun ls hl => ?_)
    refine lv_aload_n hx hb dL_law_699 rfl (lv_at hl 3 rfl) ?_
    refine lwM_i hL hS hPx (va_runV (As := []) (rest := []) ⟨hx, hb, hml, hown, hts⟩ (mx_X7_goBack l D cI cS b s kp hf sc ad (mi 1) (hkm.trans h1) _) (cwV 0 hts (gV tw934 tw931 tw932 tw933 tw8) rfl rfl rfl (by decide +kernel) ⟨Nat.le_of_ble_eq_true rfl, Nat.le_of_ble_eq_true rfl⟩) (pvW 0 hK hPm hEm (by decide) rfl rfl) rfl rfl hl.1 rfl (lv_room (Nat.le_of_ble_eq_true rfl)) dL_law_700 hc1) (fun rB u2 H locs hrB hPx hPm hS => ?_)
    refine lv_istore (lv' := [(6, .int rB), (5, .int 1), (0, .ref bs), (1, .ref (a 112)), (2, .ref (b 0)), (3, .ref (a 113)), (4, .int (nI (4 * j)))]) hx hb dL_law_703 hl (by decide) rfl (fun ls hl => ?_)
    refine lv_aload_n hx hb dL_law_705 rfl (lv_at hl 4 rfl) ?_
    refine ro_i (va_runV (As := []) (rest := []) ⟨hx, hb, hml, hown, hts⟩ (m_X7_thrown l D cI cS b s kp hf (upd (upd sc 3 0) 3 1) ad (mi 1)) (cwV 0 hts (gV tw797 tw794 tw795 tw796 tw8) rfl rfl rfl (by decide +kernel) ⟨Nat.le_of_ble_eq_true rfl, Nat.le_of_ble_eq_true rfl⟩) (pvR 0 hK hPm (by decide) rfl rfl) rfl rfl hl.1 rfl (lv_room (Nat.le_of_ble_eq_true rfl)) dL_law_706 hc1) (fun r7 hr7 => ?_)
    have hr7 : r7 = 1 := hr7
    subst hr7
    refine lv_iload hx hb dL_law_709 (lv_at hl 1 rfl) ?_
    refine lv_icmp_eq (tgt := 716) hx hb dL_law_711 (by decide) (fun _ => ?_) (fun h0 => absurd (by decide) h0)
    refine lv_iload hx hb dL_law_716 (lv_at hl 1 rfl) ?_
    refine lv_if_ne (tgt := 733) hx hb dL_law_718 (by decide) (fun _ => ?_) (fun h0 => absurd h0 (by decide))
    refine lv_goto (tgt := 1363) hx hb dL_law_733 (by decide) ?_
    refine W.widen (k := cells + 1) (n := slots + 6) (by omega) (by omega) ?_
    exact kk H locs ls ⟨s, st, pi, mi, po, ov, kp, hf, (upd (upd sc 3 0) 3 1), ad, sz, ln, hPx, hPm, hLI.lk (by omega) hln rfl hl0 rfl rfl rfl hlm⟩ hS (lv_sub hl [2, 3, 4, 5, 6] rfl)
  · skip
    obtain ⟨hkp, hBk⟩ := hkk h1
    subst hkp
    refine lv_aload_n hx hb dL_law_692 rfl (lv_at hl 1 rfl) ?_
    refine lv_aload_n hx hb dL_law_693 rfl (lv_at hl 3 rfl) ?_
    refine lwL_i hL hS hPm (vx_runSW (As := [.ref (a 112), .ref (a 113)]) (rest := []) ⟨hx, hb, hml, hown, hts⟩ (m_L_goBack l D cI cS cL a s st pi mi po ov sz hsz hs0 hpi h1 _) (vx_cwSW 2 hts (gS tw695 tw693 tw694 tw0) rfl rfl rfl (by decide +kernel) ⟨Nat.le_of_ble_eq_true rfl, Nat.le_of_ble_eq_true rfl⟩) (psO hK hPx hL.1 hKL hEV ((hEH.kept hS.2.1).narrow (fun _ h => h.elim))) rfl rfl hl.1 rfl (lv_room (Nat.le_of_ble_eq_true rfl)) dL_law_694 hc0) (fun rA u1 H locs hrA hPx hPm hS => ?_)
    subst hrA
    refine lv_istore (lv' := [(5, .int 0), (0, .ref bs), (1, .ref (a 112)), (2, .ref (b 0)), (3, .ref (a 113)), (4, .int (nI (4 * j)))]) hx hb dL_law_697 hl (by decide) rfl (fun ls hl => ?_)
    refine lv_aload_n hx hb dL_law_699 rfl (lv_at hl 3 rfl) ?_
    refine lwM_i hL hS hPx (va_runV (As := []) (rest := []) ⟨hx, hb, hml, hown, hts⟩ (m_X7_goBack l D cI cS b (mdl s (st 0) hf sc ad (mi 1)) sz hsz hk0 (by show ¬ sc 1 = 0; rw [hkm]; exact h1) _) (cwV 0 hts (gV tw934 tw931 tw932 tw933 tw8) rfl rfl rfl (by decide +kernel) ⟨Nat.le_of_ble_eq_true rfl, Nat.le_of_ble_eq_true rfl⟩) (pvW 0 hK hPm hEm (by decide) rfl rfl) rfl rfl hl.1 rfl (lv_room (Nat.le_of_ble_eq_true rfl)) dL_law_700 hc0) (fun rB u2 H locs hrB hPx hPm hS => ?_)
    rw [mdl_sc] at hPm hrB
    have hPm := gb_cv hsz hPm
    have hrB := hrB.trans gb_v
    refine lv_istore (lv' := [(6, .int rB), (5, .int 0), (0, .ref bs), (1, .ref (a 112)), (2, .ref (b 0)), (3, .ref (a 113)), (4, .int (nI (4 * j)))]) hx hb dL_law_703 hl (by decide) rfl (fun ls hl => ?_)
    refine lv_aload_n hx hb dL_law_705 rfl (lv_at hl 4 rfl) ?_
    refine ro_i (va_runV (As := []) (rest := []) ⟨hx, hb, hml, hown, hts⟩ (m_X7_thrown l D cI cS b (st 0) (st 0) (svH hf sz s) (upd (upd sc 3 0) 0 (nI (svQ sz + 1))) ad (mi 1)) (cwV 0 hts (gV tw797 tw794 tw795 tw796 tw8) rfl rfl rfl (by decide +kernel) ⟨Nat.le_of_ble_eq_true rfl, Nat.le_of_ble_eq_true rfl⟩) (pvR 0 hK hPm (by decide) rfl rfl) rfl rfl hl.1 rfl (lv_room (Nat.le_of_ble_eq_true rfl)) dL_law_706 hc0) (fun r7 hr7 => ?_)
    have hr7 : r7 = 0 := hr7
    subst hr7
    refine lv_iload hx hb dL_law_709 (lv_at hl 1 rfl) ?_
    refine lv_icmp_eq (tgt := 716) hx hb dL_law_711 (by decide) (fun _ => ?_) (fun h0 => absurd (by decide) h0)
    refine lv_iload hx hb dL_law_716 (lv_at hl 1 rfl) ?_
    refine lv_if_ne (tgt := 733) hx hb dL_law_718 (by decide) (fun h0 => absurd (by decide) h0) (fun _ => ?_)
    refine lv_aload_n hx hb dL_law_721 rfl (lv_at hl 5 rfl) ?_
    refine lv_iconst (v := 0) hx hb dL_law_722 (by decide) ?_
    refine g_lald hx hb hKL hPx (v := (st 0 0 1).toInt64) rfl dL_law_723 ?_
    refine lv_iload hx hb dL_law_724 (lv_at hl 0 rfl) ?_
    refine lv_i2l hx hb dL_law_726 rfl ?_
    refine g_lcmp0 hx hb (by rw [hrB]) dL_law_727 ?_
    refine lv_if_eq (tgt := 733) hx hb dL_law_728 (by decide) (fun _ => ?_) (fun h0 => absurd (by decide) h0)
    refine lv_goto (tgt := 1363) hx hb dL_law_733 (by decide) ?_
    refine W.widen (k := cells + 1) (n := slots + 6) (by omega) (by omega) ?_
    exact kk H locs ls ⟨(st 0), (va_up st (svPi pi sz (svQ sz) + 1) s), (svPi pi sz), (up2 mi 0 0 (nI (svQ sz + 1))), po, (vp_updL ov 0 (st 0 0 1).toInt64), (st 0), (svH hf sz s), (upd (upd sc 3 0) 0 (nI (svQ sz + 1))), ad, svQ sz + 1, ln, hPx, hPm, hLI.sv (by omega) (hBk.mono (by omega)) hln rfl hl0 rfl rfl rfl hlm⟩ hS (lv_sub hl [2, 3, 4, 5, 6] rfl)

set_option maxHeartbeats 4000000 in
set_option maxRecDepth 100000 in
theorem law_undo {p : Program} {l : Launch} {e : Env} {z : State} {m : MethodId} {below : List Frame} {meth : Method} {c : Code} {Q : State → Prop} {D : va_G} {cI cS cL : ClassId} {a b : Nat → Nat} {bs L : Nat} {xs : Nat → Int32} {T : Int} {j cells slots : Nat} {H : Heap} {locs : List Loc} {ls : Array Slot} (hC : LF p l z m meth c D cI cS cL a b bs L xs) (hj : 4 * j + 3 < L) (hT : T ≤ 99000000) (h0T : 0 ≤ T) (hc1 : cells + 1 ≤ room_1.cells ∧ slots + 6 ≤ room_1.slots) (hW : LWd D cI cS cL a b T H) (hS : va_S (LA z.heap.size) z.heap H locs) (hl : lv_has ls 9 [(0, .ref bs), (1, .ref (a 112)), (2, .ref (b 0)), (3, .ref (a 113)), (4, .int (nI (4 * j)))])
    (kk : ∀ (H1 : Heap) (locs1 : List Loc) (ls1 : Array Slot), LWd D cI cS cL a b (T + 100000) H1 → va_S (LA z.heap.size) z.heap H1 locs1 → lv_has ls1 9 [(0, .ref bs), (1, .ref (a 112)), (2, .ref (b 0)), (3, .ref (a 113)), (4, .int (nI (4 * j)))] → W p l e room_1 z m #[Value.ref bs] below meth c H1 locs1 (cells + 1) (slots + 6) Q (F0 m 1363 ls1 [])) : W p l e room_1 z m #[Value.ref bs] below meth c H locs cells slots Q (F0 m 736 ls []) := by
  obtain ⟨hx, hb, hml, hown, hts, hK, hKL, hEV, hEH, hXs, hbl, hL9, hL, hst⟩ := hC
  obtain ⟨s, st, pi, mi, po, ov, kp, hf, sc, ad, sz, ln, hPx, hPm, hLI⟩ := hW
  obtain ⟨hsz, hpi, hpj, hh, hBd, hln, hs0, hl0, hk0, hlm, hkm, hkk⟩ := id hLI
  have hEm := hL.2.1
  have hc0 : cells + 0 ≤ room_1.cells ∧ slots + 0 ≤ room_1.slots := ⟨by omega, by omega⟩
  by_cases h1 : sz = 0
  · skip
    refine lv_aload_n hx hb dL_law_736 rfl (lv_at hl 1 rfl) ?_
    refine lv_aload_n hx hb dL_law_737 rfl (lv_at hl 3 rfl) ?_
    refine lwL_i hL hS hPm (vx_runSW (As := [.ref (a 112), .ref (a 113)]) (rest := []) ⟨hx, hb, hml, hown, hts⟩ (mt_L_undo l hst D cI cS cL a s st pi mi po ov (hs0.trans (by rw [h1]; rfl)) _) (vx_cwSW 2 hts (gS tw703 tw701 tw702 tw0) rfl rfl rfl (by decide +kernel) ⟨Nat.le_of_ble_eq_true rfl, Nat.le_of_ble_eq_true rfl⟩) (psO hK hPx hL.1 hKL hEV ((hEH.kept hS.2.1).narrow (fun _ h => h.elim))) rfl rfl hl.1 rfl (lv_room (Nat.le_of_ble_eq_true rfl)) dL_law_738 hc1) (fun rA u1 H locs hrA hPx hPm hS => ?_)
    subst hrA
    refine lv_istore (lv' := [(5, .int 1), (0, .ref bs), (1, .ref (a 112)), (2, .ref (b 0)), (3, .ref (a 113)), (4, .int (nI (4 * j)))]) hx hb dL_law_741 hl (by decide) rfl (fun ls hl => ?_)
    refine lv_aload_n hx hb dL_law_743 rfl (lv_at hl 3 rfl) ?_
    refine lwM_i hL hS hPx (va_runV (As := []) (rest := []) ⟨hx, hb, hml, hown, hts⟩ (mx_X7_undo l D cI cS b s kp hf sc ad (mi 1) (hk0.trans (by rw [h1]; rfl)) _) (cwV 0 hts (gV tw938 tw935 tw936 tw937 tw8) rfl rfl rfl (by decide +kernel) ⟨Nat.le_of_ble_eq_true rfl, Nat.le_of_ble_eq_true rfl⟩) (pvW 0 hK hPm hEm (by decide) rfl rfl) rfl rfl hl.1 rfl (lv_room (Nat.le_of_ble_eq_true rfl)) dL_law_744 hc1) (fun rB u2 H locs hrB hPx hPm hS => ?_)
    refine lv_istore (lv' := [(6, .int rB), (5, .int 1), (0, .ref bs), (1, .ref (a 112)), (2, .ref (b 0)), (3, .ref (a 113)), (4, .int (nI (4 * j)))]) hx hb dL_law_747 hl (by decide) rfl (fun ls hl => ?_)
    refine lv_aload_n hx hb dL_law_749 rfl (lv_at hl 4 rfl) ?_
    refine ro_i (va_runV (As := []) (rest := []) ⟨hx, hb, hml, hown, hts⟩ (m_X7_thrown l D cI cS b s kp hf (upd (upd sc 3 0) 3 1) ad (mi 1)) (cwV 0 hts (gV tw797 tw794 tw795 tw796 tw8) rfl rfl rfl (by decide +kernel) ⟨Nat.le_of_ble_eq_true rfl, Nat.le_of_ble_eq_true rfl⟩) (pvR 0 hK hPm (by decide) rfl rfl) rfl rfl hl.1 rfl (lv_room (Nat.le_of_ble_eq_true rfl)) dL_law_750 hc1) (fun r7 hr7 => ?_)
    have hr7 : r7 = 1 := hr7
    subst hr7
    refine lv_iload hx hb dL_law_753 (lv_at hl 1 rfl) ?_
    refine lv_icmp_eq (tgt := 760) hx hb dL_law_755 (by decide) (fun _ => ?_) (fun h0 => absurd (by decide) h0)
    refine lv_iload hx hb dL_law_760 (lv_at hl 1 rfl) ?_
    refine lv_if_ne (tgt := 777) hx hb dL_law_762 (by decide) (fun _ => ?_) (fun h0 => absurd h0 (by decide))
    refine lv_goto (tgt := 1363) hx hb dL_law_777 (by decide) ?_
    refine W.widen (k := cells + 1) (n := slots + 6) (by omega) (by omega) ?_
    exact kk H locs ls ⟨s, st, pi, mi, po, ov, kp, hf, (upd (upd sc 3 0) 3 1), ad, sz, ln, hPx, hPm, hLI.lk (by omega) hln rfl hl0 rfl rfl rfl hlm⟩ hS (lv_sub hl [2, 3, 4, 5, 6] rfl)
  · skip
    refine lv_aload_n hx hb dL_law_736 rfl (lv_at hl 1 rfl) ?_
    refine lv_aload_n hx hb dL_law_737 rfl (lv_at hl 3 rfl) ?_
    refine lwL_i hL hS hPm (vx_runSW (As := [.ref (a 112), .ref (a 113)]) (rest := []) ⟨hx, hb, hml, hown, hts⟩ (m_L_undo l D cI cS cL a s st pi mi po ov sz hsz hs0 hpi (by omega) _) (vx_cwSW 2 hts (gS tw703 tw701 tw702 tw0) rfl rfl rfl (by decide +kernel) ⟨Nat.le_of_ble_eq_true rfl, Nat.le_of_ble_eq_true rfl⟩) (psO hK hPx hL.1 hKL hEV ((hEH.kept hS.2.1).narrow (fun _ h => h.elim))) rfl rfl hl.1 rfl (lv_room (Nat.le_of_ble_eq_true rfl)) dL_law_738 hc0) (fun rA u1 H locs hrA hPx hPm hS => ?_)
    subst hrA
    refine lv_istore (lv' := [(5, .int 0), (0, .ref bs), (1, .ref (a 112)), (2, .ref (b 0)), (3, .ref (a 113)), (4, .int (nI (4 * j)))]) hx hb dL_law_741 hl (by decide) rfl (fun ls hl => ?_)
    refine lv_aload_n hx hb dL_law_743 rfl (lv_at hl 3 rfl) ?_
    refine lwM_i hL hS hPx (va_runV (As := []) (rest := []) ⟨hx, hb, hml, hown, hts⟩ (m_X7_undo l D cI cS b (mdl s kp hf sc ad (mi 1)) sz hsz hk0 (by omega) _) (cwV 0 hts (gV tw938 tw935 tw936 tw937 tw8) rfl rfl rfl (by decide +kernel) ⟨Nat.le_of_ble_eq_true rfl, Nat.le_of_ble_eq_true rfl⟩) (pvW 0 hK hPm hEm (by decide) rfl rfl) rfl rfl hl.1 rfl (lv_room (Nat.le_of_ble_eq_true rfl)) dL_law_744 hc0) (fun rB u2 H locs hrB hPx hPm hS => ?_)
    have hPm := undo_cv hPm
    have hPm := hPm.cast (e' := emC cI b (mdl (st (pi (sz - 1) + 1)) kp hf (upd (upd sc 3 0) 0 (nI (sz - 1))) ad (mi 1))) (by rw [(hh (sz - 1) (by omega)).1])
    refine lv_istore (lv' := [(6, .int rB), (5, .int 0), (0, .ref bs), (1, .ref (a 112)), (2, .ref (b 0)), (3, .ref (a 113)), (4, .int (nI (4 * j)))]) hx hb dL_law_747 hl (by decide) rfl (fun ls hl => ?_)
    refine lv_aload_n hx hb dL_law_749 rfl (lv_at hl 4 rfl) ?_
    refine ro_i (va_runV (As := []) (rest := []) ⟨hx, hb, hml, hown, hts⟩ (m_X7_thrown l D cI cS b (st (pi (sz - 1) + 1)) kp hf (upd (upd sc 3 0) 0 (nI (sz - 1))) ad (mi 1)) (cwV 0 hts (gV tw797 tw794 tw795 tw796 tw8) rfl rfl rfl (by decide +kernel) ⟨Nat.le_of_ble_eq_true rfl, Nat.le_of_ble_eq_true rfl⟩) (pvR 0 hK hPm (by decide) rfl rfl) rfl rfl hl.1 rfl (lv_room (Nat.le_of_ble_eq_true rfl)) dL_law_750 hc0) (fun r7 hr7 => ?_)
    have hr7 : r7 = 0 := hr7
    subst hr7
    refine lv_iload hx hb dL_law_753 (lv_at hl 1 rfl) ?_
    refine lv_icmp_eq (tgt := 760) hx hb dL_law_755 (by decide) (fun _ => ?_) (fun h0 => absurd (by decide) h0)
    refine lv_iload hx hb dL_law_760 (lv_at hl 1 rfl) ?_
    refine lv_if_ne (tgt := 777) hx hb dL_law_762 (by decide) (fun h0 => absurd (by decide) h0) (fun _ => ?_)
    refine lv_aload_n hx hb dL_law_765 rfl (lv_at hl 5 rfl) ?_
    refine lv_iconst (v := 0) hx hb dL_law_766 (by decide) ?_
    refine g_lald hx hb hKL hPx (v := (nI (sz - 1)).toInt64) rfl dL_law_767 ?_
    refine lv_iload hx hb dL_law_768 (lv_at hl 0 rfl) ?_
    refine lv_i2l hx hb dL_law_770 rfl ?_
    refine g_lcmp0 hx hb (by rw [hrB]) dL_law_771 ?_
    refine lv_if_eq (tgt := 777) hx hb dL_law_772 (by decide) (fun _ => ?_) (fun h0 => absurd (by decide) h0)
    refine lv_goto (tgt := 1363) hx hb dL_law_777 (by decide) ?_
    refine W.widen (k := cells + 1) (n := slots + 6) (by omega) (by omega) ?_
    exact kk H locs ls ⟨(st (pi (sz - 1) + 1)), st, pi, (up2 mi 0 0 (nI (sz - 1))), po, (vp_updL ov 0 (nI (sz - 1)).toInt64), kp, hf, (upd (upd sc 3 0) 0 (nI (sz - 1))), ad, sz - 1, ln, hPx, hPm, hLI.un (by omega) (by omega) rfl rfl rfl rfl rfl rfl⟩ hS (lv_sub hl [2, 3, 4, 5, 6] rfl)

set_option maxHeartbeats 4000000 in
set_option maxRecDepth 100000 in
theorem law_dial {p : Program} {l : Launch} {e : Env} {z : State} {m : MethodId} {below : List Frame} {meth : Method} {c : Code} {Q : State → Prop} {D : va_G} {cI cS cL : ClassId} {a b : Nat → Nat} {bs L : Nat} {xs : Nat → Int32} {T : Int} {j cells slots : Nat} {H : Heap} {locs : List Loc} {ls : Array Slot} (hC : LF p l z m meth c D cI cS cL a b bs L xs) (hj : 4 * j + 3 < L) (hT : T ≤ 99000000) (h0T : 0 ≤ T) (hc1 : cells + 1 ≤ room_1.cells ∧ slots + 6 ≤ room_1.slots) (hW : LWd D cI cS cL a b T H) (hS : va_S (LA z.heap.size) z.heap H locs) (hl : lv_has ls 9 [(0, .ref bs), (1, .ref (a 112)), (2, .ref (b 0)), (3, .ref (a 113)), (4, .int (nI (4 * j)))])
    (kk : ∀ (H1 : Heap) (locs1 : List Loc) (ls1 : Array Slot), LWd D cI cS cL a b (T + 100000) H1 → va_S (LA z.heap.size) z.heap H1 locs1 → lv_has ls1 9 [(0, .ref bs), (1, .ref (a 112)), (2, .ref (b 0)), (3, .ref (a 113)), (4, .int (nI (4 * j)))] → W p l e room_1 z m #[Value.ref bs] below meth c H1 locs1 (cells + 1) (slots + 6) Q (F0 m 1363 ls1 [])) : W p l e room_1 z m #[Value.ref bs] below meth c H locs cells slots Q (F0 m 780 ls []) := by
  obtain ⟨hx, hb, hml, hown, hts, hK, hKL, hEV, hEH, hXs, hbl, hL9, hL, hst⟩ := hC
  obtain ⟨s, st, pi, mi, po, ov, kp, hf, sc, ad, sz, ln, hPx, hPm, hLI⟩ := hW
  obtain ⟨hsz, hpi, hpj, hh, hBd, hln, hs0, hl0, hk0, hlm, hkm, hkk⟩ := id hLI
  have hEm := hL.2.1
  have hc0 : cells + 0 ≤ room_1.cells ∧ slots + 0 ≤ room_1.slots := ⟨by omega, by omega⟩
  by_cases h1 : witB (xs (4 * j + 1)) 0 6
  · skip
    obtain ⟨d, hd0, hx1⟩ := wit_nat (hi := 6) rfl (by decide) h1
    have hd : d < 7 := by omega
    by_cases h2 : witB (xs (4 * j + 2)) 0 6
    · skip
      obtain ⟨q, hq0, hx2⟩ := wit_nat (hi := 6) rfl (by decide) h2
      have hq : q < 7 := by omega
      refine lv_aload_n hx hb dL_law_780 rfl (lv_at hl 1 rfl) ?_
      refine lv_aload_n hx hb dL_law_781 rfl (lv_at hl 0 rfl) ?_
      refine lv_iload hx hb dL_law_782 (lv_at hl 4 rfl) ?_
      refine lv_iconst (v := 1) hx hb dL_law_784 (by decide) ?_
      refine lv_iadd hx hb dL_law_785 ?_
      refine lv_as (y := nI (4 * j + 1)) (nI_add2 (p := 4 * j) (q := 1) rfl rfl) ?_
      refine g_sld hx hb hXs hbl hS (4 * j + 1) rfl (by omega) (by omega) dL_law_786 ?_
      refine lv_as (y := nI d) hx1 ?_
      refine lv_aload_n hx hb dL_law_787 rfl (lv_at hl 0 rfl) ?_
      refine lv_iload hx hb dL_law_788 (lv_at hl 4 rfl) ?_
      refine lv_iconst (v := 2) hx hb dL_law_790 (by decide) ?_
      refine lv_iadd hx hb dL_law_791 ?_
      refine lv_as (y := nI (4 * j + 2)) (nI_add2 (p := 4 * j) (q := 2) rfl rfl) ?_
      refine g_sld hx hb hXs hbl hS (4 * j + 2) rfl (by omega) (by omega) dL_law_792 ?_
      refine lv_as (y := nI q) hx2 ?_
      refine lv_aload_n hx hb dL_law_793 rfl (lv_at hl 3 rfl) ?_
      refine lwL_i hL hS hPm (vx_runSW (As := [.ref (a 112), .int (nI d), .int (nI q), .ref (a 113)]) (rest := []) ⟨hx, hb, hml, hown, hts⟩ (m_L_dial l D cI cS cL a s st pi mi po ov d q hd hq _) (vx_cwSW 4 hts (gS tw715 tw713 tw714 tw0) rfl rfl rfl (by decide +kernel) ⟨Nat.le_of_ble_eq_true rfl, Nat.le_of_ble_eq_true rfl⟩) (psO hK hPx hL.1 hKL hEV ((hEH.kept hS.2.1).narrow (fun _ h => h.elim))) rfl rfl hl.1 rfl (lv_room (Nat.le_of_ble_eq_true rfl)) dL_law_794 hc0) (fun rA u1 H locs hrA hPx hPm hS => ?_)
      subst hrA
      refine lv_istore (lv' := [(5, .int 0), (0, .ref bs), (1, .ref (a 112)), (2, .ref (b 0)), (3, .ref (a 113)), (4, .int (nI (4 * j)))]) hx hb dL_law_797 hl (by decide) rfl (fun ls hl => ?_)
      refine lv_aload_n hx hb dL_law_799 rfl (lv_at hl 3 rfl) ?_
      refine lv_aload_n hx hb dL_law_800 rfl (lv_at hl 1 rfl) ?_
      refine lv_iload hx hb dL_law_801 (lv_at hl 5 rfl) ?_
      refine lv_iconst (v := 1) hx hb dL_law_803 (by decide) ?_
      refine lv_iadd hx hb dL_law_804 ?_
      refine lv_as (y := nI (4 * j + 1)) (nI_add2 (p := 4 * j) (q := 1) rfl rfl) ?_
      refine g_sld hx hb hXs hbl hS (4 * j + 1) rfl (by omega) (by omega) dL_law_805 ?_
      refine lv_as (y := nI d) hx1 ?_
      refine lv_aload_n hx hb dL_law_806 rfl (lv_at hl 1 rfl) ?_
      refine lv_iload hx hb dL_law_807 (lv_at hl 5 rfl) ?_
      refine lv_iconst (v := 2) hx hb dL_law_809 (by decide) ?_
      refine lv_iadd hx hb dL_law_810 ?_
      refine lv_as (y := nI (4 * j + 2)) (nI_add2 (p := 4 * j) (q := 2) rfl rfl) ?_
      refine g_sld hx hb hXs hbl hS (4 * j + 2) rfl (by omega) (by omega) dL_law_811 ?_
      refine lv_as (y := nI q) hx2 ?_
      refine lwM_i hL hS hPx (va_runV (As := [.int (nI d), .int (nI q)]) (rest := []) ⟨hx, hb, hml, hown, hts⟩ (m_X7_dial l D cI cS b s kp hf sc ad (mi 1) T hBd (by omega) d hd q hq _) (cwV 2 hts (gV tw942 tw939 tw940 tw941 tw8) rfl rfl rfl (by decide +kernel) ⟨Nat.le_of_ble_eq_true rfl, Nat.le_of_ble_eq_true rfl⟩) (pvW 0 hK hPm hEm (by decide) rfl rfl) rfl rfl hl.1 rfl (lv_room (Nat.le_of_ble_eq_true rfl)) dL_law_812 hc0) (fun rB u2 H locs hrB hPx hPm hS => ?_)
      refine lv_istore (lv' := [(6, .int rB), (5, .int 0), (0, .ref bs), (1, .ref (a 112)), (2, .ref (b 0)), (3, .ref (a 113)), (4, .int (nI (4 * j)))]) hx hb dL_law_815 hl (by decide) rfl (fun ls hl => ?_)
      refine lv_aload_n hx hb dL_law_817 rfl (lv_at hl 4 rfl) ?_
      refine ro_i (va_runV (As := []) (rest := []) ⟨hx, hb, hml, hown, hts⟩ (m_X7_thrown l D cI cS b s kp hf (upd sc 3 0) ad (mi 1)) (cwV 0 hts (gV tw797 tw794 tw795 tw796 tw8) rfl rfl rfl (by decide +kernel) ⟨Nat.le_of_ble_eq_true rfl, Nat.le_of_ble_eq_true rfl⟩) (pvR 0 hK hPm (by decide) rfl rfl) rfl rfl hl.1 rfl (lv_room (Nat.le_of_ble_eq_true rfl)) dL_law_818 hc0) (fun r7 hr7 => ?_)
      have hr7 : r7 = 0 := hr7
      subst hr7
      refine lv_iload hx hb dL_law_821 (lv_at hl 1 rfl) ?_
      refine lv_icmp_eq (tgt := 828) hx hb dL_law_823 (by decide) (fun _ => ?_) (fun h0 => absurd (by decide) h0)
      refine lv_iload hx hb dL_law_828 (lv_at hl 1 rfl) ?_
      refine lv_if_ne (tgt := 845) hx hb dL_law_830 (by decide) (fun h0 => absurd (by decide) h0) (fun _ => ?_)
      refine lv_aload_n hx hb dL_law_833 rfl (lv_at hl 5 rfl) ?_
      refine lv_iconst (v := 0) hx hb dL_law_834 (by decide) ?_
      refine g_lald hx hb hKL hPx (v := (dialN s d q).toInt64) rfl dL_law_835 ?_
      refine lv_iload hx hb dL_law_836 (lv_at hl 0 rfl) ?_
      refine lv_i2l hx hb dL_law_838 rfl ?_
      refine g_lcmp0 hx hb (by rw [hrB]) dL_law_839 ?_
      refine lv_if_eq (tgt := 845) hx hb dL_law_840 (by decide) (fun _ => ?_) (fun h0 => absurd (by decide) h0)
      refine lv_goto (tgt := 1363) hx hb dL_law_845 (by decide) ?_
      refine W.widen (k := cells + 1) (n := slots + 6) (by omega) (by omega) ?_
      exact kk H locs ls ⟨s, st, pi, mi, po, (vp_updL ov 0 (dialN s d q).toInt64), kp, hf, (upd sc 3 0), ad, sz, ln, hPx, hPm, hLI.lk (by omega) hln rfl hl0 rfl rfl rfl hlm⟩ hS (lv_sub hl [2, 3, 4, 5, 6] rfl)
    · skip
      refine lv_aload_n hx hb dL_law_780 rfl (lv_at hl 1 rfl) ?_
      refine lv_aload_n hx hb dL_law_781 rfl (lv_at hl 0 rfl) ?_
      refine lv_iload hx hb dL_law_782 (lv_at hl 4 rfl) ?_
      refine lv_iconst (v := 1) hx hb dL_law_784 (by decide) ?_
      refine lv_iadd hx hb dL_law_785 ?_
      refine lv_as (y := nI (4 * j + 1)) (nI_add2 (p := 4 * j) (q := 1) rfl rfl) ?_
      refine g_sld hx hb hXs hbl hS (4 * j + 1) rfl (by omega) (by omega) dL_law_786 ?_
      refine lv_as (y := nI d) hx1 ?_
      refine lv_aload_n hx hb dL_law_787 rfl (lv_at hl 0 rfl) ?_
      refine lv_iload hx hb dL_law_788 (lv_at hl 4 rfl) ?_
      refine lv_iconst (v := 2) hx hb dL_law_790 (by decide) ?_
      refine lv_iadd hx hb dL_law_791 ?_
      refine lv_as (y := nI (4 * j + 2)) (nI_add2 (p := 4 * j) (q := 2) rfl rfl) ?_
      refine g_sld hx hb hXs hbl hS (4 * j + 2) rfl (by omega) (by omega) dL_law_792 ?_
      refine lv_aload_n hx hb dL_law_793 rfl (lv_at hl 3 rfl) ?_
      refine lwL_i hL hS hPm (vx_runSW (As := [.ref (a 112), .int (nI d), .int (xs (4 * j + 2)), .ref (a 113)]) (rest := []) ⟨hx, hb, hml, hown, hts⟩ (mt2_L_dial l hst D cI cS cL a s st pi mi po ov d hd (xs (4 * j + 2)) h2 _) (vx_cwSW 4 hts (gS tw715 tw713 tw714 tw0) rfl rfl rfl (by decide +kernel) ⟨Nat.le_of_ble_eq_true rfl, Nat.le_of_ble_eq_true rfl⟩) (psO hK hPx hL.1 hKL hEV ((hEH.kept hS.2.1).narrow (fun _ h => h.elim))) rfl rfl hl.1 rfl (lv_room (Nat.le_of_ble_eq_true rfl)) dL_law_794 hc1) (fun rA u1 H locs hrA hPx hPm hS => ?_)
      subst hrA
      refine lv_istore (lv' := [(5, .int 2), (0, .ref bs), (1, .ref (a 112)), (2, .ref (b 0)), (3, .ref (a 113)), (4, .int (nI (4 * j)))]) hx hb dL_law_797 hl (by decide) rfl (fun ls hl => ?_)
      refine lv_aload_n hx hb dL_law_799 rfl (lv_at hl 3 rfl) ?_
      refine lv_aload_n hx hb dL_law_800 rfl (lv_at hl 1 rfl) ?_
      refine lv_iload hx hb dL_law_801 (lv_at hl 5 rfl) ?_
      refine lv_iconst (v := 1) hx hb dL_law_803 (by decide) ?_
      refine lv_iadd hx hb dL_law_804 ?_
      refine lv_as (y := nI (4 * j + 1)) (nI_add2 (p := 4 * j) (q := 1) rfl rfl) ?_
      refine g_sld hx hb hXs hbl hS (4 * j + 1) rfl (by omega) (by omega) dL_law_805 ?_
      refine lv_as (y := nI d) hx1 ?_
      refine lv_aload_n hx hb dL_law_806 rfl (lv_at hl 1 rfl) ?_
      refine lv_iload hx hb dL_law_807 (lv_at hl 5 rfl) ?_
      refine lv_iconst (v := 2) hx hb dL_law_809 (by decide) ?_
      refine lv_iadd hx hb dL_law_810 ?_
      refine lv_as (y := nI (4 * j + 2)) (nI_add2 (p := 4 * j) (q := 2) rfl rfl) ?_
      refine g_sld hx hb hXs hbl hS (4 * j + 2) rfl (by omega) (by omega) dL_law_811 ?_
      refine lwM_i hL hS hPx (va_runV (As := [.int (nI d), .int (xs (4 * j + 2))]) (rest := []) ⟨hx, hb, hml, hown, hts⟩ (mx2_X7_dial l D cI cS b s kp hf sc ad (mi 1) (nI d) (xs (4 * j + 2)) (hx1 ▸ h1) h2 _) (cwV 2 hts (gV tw942 tw939 tw940 tw941 tw8) rfl rfl rfl (by decide +kernel) ⟨Nat.le_of_ble_eq_true rfl, Nat.le_of_ble_eq_true rfl⟩) (pvW 0 hK hPm hEm (by decide) rfl rfl) rfl rfl hl.1 rfl (lv_room (Nat.le_of_ble_eq_true rfl)) dL_law_812 hc1) (fun rB u2 H locs hrB hPx hPm hS => ?_)
      refine lv_istore (lv' := [(6, .int rB), (5, .int 2), (0, .ref bs), (1, .ref (a 112)), (2, .ref (b 0)), (3, .ref (a 113)), (4, .int (nI (4 * j)))]) hx hb dL_law_815 hl (by decide) rfl (fun ls hl => ?_)
      refine lv_aload_n hx hb dL_law_817 rfl (lv_at hl 4 rfl) ?_
      refine ro_i (va_runV (As := []) (rest := []) ⟨hx, hb, hml, hown, hts⟩ (m_X7_thrown l D cI cS b s kp hf (upd (upd sc 3 0) 3 2) ad (mi 1)) (cwV 0 hts (gV tw797 tw794 tw795 tw796 tw8) rfl rfl rfl (by decide +kernel) ⟨Nat.le_of_ble_eq_true rfl, Nat.le_of_ble_eq_true rfl⟩) (pvR 0 hK hPm (by decide) rfl rfl) rfl rfl hl.1 rfl (lv_room (Nat.le_of_ble_eq_true rfl)) dL_law_818 hc1) (fun r7 hr7 => ?_)
      have hr7 : r7 = 2 := hr7
      subst hr7
      refine lv_iload hx hb dL_law_821 (lv_at hl 1 rfl) ?_
      refine lv_icmp_eq (tgt := 828) hx hb dL_law_823 (by decide) (fun _ => ?_) (fun h0 => absurd (by decide) h0)
      refine lv_iload hx hb dL_law_828 (lv_at hl 1 rfl) ?_
      refine lv_if_ne (tgt := 845) hx hb dL_law_830 (by decide) (fun _ => ?_) (fun h0 => absurd h0 (by decide))
      refine lv_goto (tgt := 1363) hx hb dL_law_845 (by decide) ?_
      refine W.widen (k := cells + 1) (n := slots + 6) (by omega) (by omega) ?_
      exact kk H locs ls ⟨s, st, pi, mi, po, ov, kp, hf, (upd (upd sc 3 0) 3 2), ad, sz, ln, hPx, hPm, hLI.lk (by omega) hln rfl hl0 rfl rfl rfl hlm⟩ hS (lv_sub hl [2, 3, 4, 5, 6] rfl)
  · skip
    refine lv_aload_n hx hb dL_law_780 rfl (lv_at hl 1 rfl) ?_
    refine lv_aload_n hx hb dL_law_781 rfl (lv_at hl 0 rfl) ?_
    refine lv_iload hx hb dL_law_782 (lv_at hl 4 rfl) ?_
    refine lv_iconst (v := 1) hx hb dL_law_784 (by decide) ?_
    refine lv_iadd hx hb dL_law_785 ?_
    refine lv_as (y := nI (4 * j + 1)) (nI_add2 (p := 4 * j) (q := 1) rfl rfl) ?_
    refine g_sld hx hb hXs hbl hS (4 * j + 1) rfl (by omega) (by omega) dL_law_786 ?_
    refine lv_aload_n hx hb dL_law_787 rfl (lv_at hl 0 rfl) ?_
    refine lv_iload hx hb dL_law_788 (lv_at hl 4 rfl) ?_
    refine lv_iconst (v := 2) hx hb dL_law_790 (by decide) ?_
    refine lv_iadd hx hb dL_law_791 ?_
    refine lv_as (y := nI (4 * j + 2)) (nI_add2 (p := 4 * j) (q := 2) rfl rfl) ?_
    refine g_sld hx hb hXs hbl hS (4 * j + 2) rfl (by omega) (by omega) dL_law_792 ?_
    refine lv_aload_n hx hb dL_law_793 rfl (lv_at hl 3 rfl) ?_
    refine lwL_i hL hS hPm (vx_runSW (As := [.ref (a 112), .int (xs (4 * j + 1)), .int (xs (4 * j + 2)), .ref (a 113)]) (rest := []) ⟨hx, hb, hml, hown, hts⟩ (mt_L_dial l hst D cI cS cL a s st pi mi po ov (xs (4 * j + 1)) (xs (4 * j + 2)) h1 _) (vx_cwSW 4 hts (gS tw715 tw713 tw714 tw0) rfl rfl rfl (by decide +kernel) ⟨Nat.le_of_ble_eq_true rfl, Nat.le_of_ble_eq_true rfl⟩) (psO hK hPx hL.1 hKL hEV ((hEH.kept hS.2.1).narrow (fun _ h => h.elim))) rfl rfl hl.1 rfl (lv_room (Nat.le_of_ble_eq_true rfl)) dL_law_794 hc1) (fun rA u1 H locs hrA hPx hPm hS => ?_)
    subst hrA
    refine lv_istore (lv' := [(5, .int 1), (0, .ref bs), (1, .ref (a 112)), (2, .ref (b 0)), (3, .ref (a 113)), (4, .int (nI (4 * j)))]) hx hb dL_law_797 hl (by decide) rfl (fun ls hl => ?_)
    refine lv_aload_n hx hb dL_law_799 rfl (lv_at hl 3 rfl) ?_
    refine lv_aload_n hx hb dL_law_800 rfl (lv_at hl 1 rfl) ?_
    refine lv_iload hx hb dL_law_801 (lv_at hl 5 rfl) ?_
    refine lv_iconst (v := 1) hx hb dL_law_803 (by decide) ?_
    refine lv_iadd hx hb dL_law_804 ?_
    refine lv_as (y := nI (4 * j + 1)) (nI_add2 (p := 4 * j) (q := 1) rfl rfl) ?_
    refine g_sld hx hb hXs hbl hS (4 * j + 1) rfl (by omega) (by omega) dL_law_805 ?_
    refine lv_aload_n hx hb dL_law_806 rfl (lv_at hl 1 rfl) ?_
    refine lv_iload hx hb dL_law_807 (lv_at hl 5 rfl) ?_
    refine lv_iconst (v := 2) hx hb dL_law_809 (by decide) ?_
    refine lv_iadd hx hb dL_law_810 ?_
    refine lv_as (y := nI (4 * j + 2)) (nI_add2 (p := 4 * j) (q := 2) rfl rfl) ?_
    refine g_sld hx hb hXs hbl hS (4 * j + 2) rfl (by omega) (by omega) dL_law_811 ?_
    refine lwM_i hL hS hPx (va_runV (As := [.int (xs (4 * j + 1)), .int (xs (4 * j + 2))]) (rest := []) ⟨hx, hb, hml, hown, hts⟩ (mx_X7_dial l D cI cS b s kp hf sc ad (mi 1) (xs (4 * j + 1)) (xs (4 * j + 2)) h1 _) (cwV 2 hts (gV tw942 tw939 tw940 tw941 tw8) rfl rfl rfl (by decide +kernel) ⟨Nat.le_of_ble_eq_true rfl, Nat.le_of_ble_eq_true rfl⟩) (pvW 0 hK hPm hEm (by decide) rfl rfl) rfl rfl hl.1 rfl (lv_room (Nat.le_of_ble_eq_true rfl)) dL_law_812 hc1) (fun rB u2 H locs hrB hPx hPm hS => ?_)
    refine lv_istore (lv' := [(6, .int rB), (5, .int 1), (0, .ref bs), (1, .ref (a 112)), (2, .ref (b 0)), (3, .ref (a 113)), (4, .int (nI (4 * j)))]) hx hb dL_law_815 hl (by decide) rfl (fun ls hl => ?_)
    refine lv_aload_n hx hb dL_law_817 rfl (lv_at hl 4 rfl) ?_
    refine ro_i (va_runV (As := []) (rest := []) ⟨hx, hb, hml, hown, hts⟩ (m_X7_thrown l D cI cS b s kp hf (upd (upd sc 3 0) 3 1) ad (mi 1)) (cwV 0 hts (gV tw797 tw794 tw795 tw796 tw8) rfl rfl rfl (by decide +kernel) ⟨Nat.le_of_ble_eq_true rfl, Nat.le_of_ble_eq_true rfl⟩) (pvR 0 hK hPm (by decide) rfl rfl) rfl rfl hl.1 rfl (lv_room (Nat.le_of_ble_eq_true rfl)) dL_law_818 hc1) (fun r7 hr7 => ?_)
    have hr7 : r7 = 1 := hr7
    subst hr7
    refine lv_iload hx hb dL_law_821 (lv_at hl 1 rfl) ?_
    refine lv_icmp_eq (tgt := 828) hx hb dL_law_823 (by decide) (fun _ => ?_) (fun h0 => absurd (by decide) h0)
    refine lv_iload hx hb dL_law_828 (lv_at hl 1 rfl) ?_
    refine lv_if_ne (tgt := 845) hx hb dL_law_830 (by decide) (fun _ => ?_) (fun h0 => absurd h0 (by decide))
    refine lv_goto (tgt := 1363) hx hb dL_law_845 (by decide) ?_
    refine W.widen (k := cells + 1) (n := slots + 6) (by omega) (by omega) ?_
    exact kk H locs ls ⟨s, st, pi, mi, po, ov, kp, hf, (upd (upd sc 3 0) 3 1), ad, sz, ln, hPx, hPm, hLI.lk (by omega) hln rfl hl0 rfl rfl rfl hlm⟩ hS (lv_sub hl [2, 3, 4, 5, 6] rfl)

set_option maxHeartbeats 4000000 in
set_option maxRecDepth 100000 in
theorem law_says {p : Program} {l : Launch} {e : Env} {z : State} {m : MethodId} {below : List Frame} {meth : Method} {c : Code} {Q : State → Prop} {D : va_G} {cI cS cL : ClassId} {a b : Nat → Nat} {bs L : Nat} {xs : Nat → Int32} {T : Int} {j cells slots : Nat} {H : Heap} {locs : List Loc} {ls : Array Slot} (hC : LF p l z m meth c D cI cS cL a b bs L xs) (hj : 4 * j + 3 < L) (hT : T ≤ 99000000) (h0T : 0 ≤ T) (hc1 : cells + 1 ≤ room_1.cells ∧ slots + 6 ≤ room_1.slots) (hW : LWd D cI cS cL a b T H) (hS : va_S (LA z.heap.size) z.heap H locs) (hl : lv_has ls 9 [(0, .ref bs), (1, .ref (a 112)), (2, .ref (b 0)), (3, .ref (a 113)), (4, .int (nI (4 * j)))])
    (kk : ∀ (H1 : Heap) (locs1 : List Loc) (ls1 : Array Slot), LWd D cI cS cL a b (T + 100000) H1 → va_S (LA z.heap.size) z.heap H1 locs1 → lv_has ls1 9 [(0, .ref bs), (1, .ref (a 112)), (2, .ref (b 0)), (3, .ref (a 113)), (4, .int (nI (4 * j)))] → W p l e room_1 z m #[Value.ref bs] below meth c H1 locs1 (cells + 1) (slots + 6) Q (F0 m 1363 ls1 [])) : W p l e room_1 z m #[Value.ref bs] below meth c H locs cells slots Q (F0 m 848 ls []) := by
  obtain ⟨hx, hb, hml, hown, hts, hK, hKL, hEV, hEH, hXs, hbl, hL9, hL, hst⟩ := hC
  obtain ⟨s, st, pi, mi, po, ov, kp, hf, sc, ad, sz, ln, hPx, hPm, hLI⟩ := hW
  obtain ⟨hsz, hpi, hpj, hh, hBd, hln, hs0, hl0, hk0, hlm, hkm, hkk⟩ := id hLI
  have hEm := hL.2.1
  have hc0 : cells + 0 ≤ room_1.cells ∧ slots + 0 ≤ room_1.slots := ⟨by omega, by omega⟩
  by_cases h1 : witB (xs (4 * j + 1)) 0 6
  · skip
    obtain ⟨d, hd0, hx1⟩ := wit_nat (hi := 6) rfl (by decide) h1
    have hd : d < 7 := by omega
    by_cases h2 : witB (xs (4 * j + 2)) 0 5
    · skip
      obtain ⟨q, hq0, hx2⟩ := wit_nat (hi := 5) rfl (by decide) h2
      have hq : q < 6 := by omega
      refine lv_aload_n hx hb dL_law_848 rfl (lv_at hl 1 rfl) ?_
      refine lv_aload_n hx hb dL_law_849 rfl (lv_at hl 0 rfl) ?_
      refine lv_iload hx hb dL_law_850 (lv_at hl 4 rfl) ?_
      refine lv_iconst (v := 1) hx hb dL_law_852 (by decide) ?_
      refine lv_iadd hx hb dL_law_853 ?_
      refine lv_as (y := nI (4 * j + 1)) (nI_add2 (p := 4 * j) (q := 1) rfl rfl) ?_
      refine g_sld hx hb hXs hbl hS (4 * j + 1) rfl (by omega) (by omega) dL_law_854 ?_
      refine lv_as (y := nI d) hx1 ?_
      refine lv_aload_n hx hb dL_law_855 rfl (lv_at hl 0 rfl) ?_
      refine lv_iload hx hb dL_law_856 (lv_at hl 4 rfl) ?_
      refine lv_iconst (v := 2) hx hb dL_law_858 (by decide) ?_
      refine lv_iadd hx hb dL_law_859 ?_
      refine lv_as (y := nI (4 * j + 2)) (nI_add2 (p := 4 * j) (q := 2) rfl rfl) ?_
      refine g_sld hx hb hXs hbl hS (4 * j + 2) rfl (by omega) (by omega) dL_law_860 ?_
      refine lv_as (y := nI q) hx2 ?_
      refine lv_aload_n hx hb dL_law_861 rfl (lv_at hl 3 rfl) ?_
      refine lwL_i hL hS hPm (vx_runSW (As := [.ref (a 112), .int (nI d), .int (nI q), .ref (a 113)]) (rest := []) ⟨hx, hb, hml, hown, hts⟩ (m_L_says l D cI cS cL a s st pi mi po ov d q hd hq _) (vx_cwSW 4 hts (gS tw722 tw720 tw721 tw0) rfl rfl rfl (by decide +kernel) ⟨Nat.le_of_ble_eq_true rfl, Nat.le_of_ble_eq_true rfl⟩) (psO hK hPx hL.1 hKL hEV ((hEH.kept hS.2.1).narrow (fun _ h => h.elim))) rfl rfl hl.1 rfl (lv_room (Nat.le_of_ble_eq_true rfl)) dL_law_862 hc0) (fun rA u1 H locs hrA hPx hPm hS => ?_)
      subst hrA
      refine lv_istore (lv' := [(5, .int 0), (0, .ref bs), (1, .ref (a 112)), (2, .ref (b 0)), (3, .ref (a 113)), (4, .int (nI (4 * j)))]) hx hb dL_law_865 hl (by decide) rfl (fun ls hl => ?_)
      refine lv_aload_n hx hb dL_law_867 rfl (lv_at hl 3 rfl) ?_
      refine lv_aload_n hx hb dL_law_868 rfl (lv_at hl 1 rfl) ?_
      refine lv_iload hx hb dL_law_869 (lv_at hl 5 rfl) ?_
      refine lv_iconst (v := 1) hx hb dL_law_871 (by decide) ?_
      refine lv_iadd hx hb dL_law_872 ?_
      refine lv_as (y := nI (4 * j + 1)) (nI_add2 (p := 4 * j) (q := 1) rfl rfl) ?_
      refine g_sld hx hb hXs hbl hS (4 * j + 1) rfl (by omega) (by omega) dL_law_873 ?_
      refine lv_as (y := nI d) hx1 ?_
      refine lv_aload_n hx hb dL_law_874 rfl (lv_at hl 1 rfl) ?_
      refine lv_iload hx hb dL_law_875 (lv_at hl 5 rfl) ?_
      refine lv_iconst (v := 2) hx hb dL_law_877 (by decide) ?_
      refine lv_iadd hx hb dL_law_878 ?_
      refine lv_as (y := nI (4 * j + 2)) (nI_add2 (p := 4 * j) (q := 2) rfl rfl) ?_
      refine g_sld hx hb hXs hbl hS (4 * j + 2) rfl (by omega) (by omega) dL_law_879 ?_
      refine lv_as (y := nI q) hx2 ?_
      refine lwM_i hL hS hPx (va_runV (As := [.int (nI d), .int (nI q)]) (rest := []) ⟨hx, hb, hml, hown, hts⟩ (m_X7_says l D cI cS b s kp hf sc ad (mi 1) T hBd (by omega) d hd q hq _) (cwV 2 hts (gV tw950 tw947 tw948 tw949 tw8) rfl rfl rfl (by decide +kernel) ⟨Nat.le_of_ble_eq_true rfl, Nat.le_of_ble_eq_true rfl⟩) (pvW 0 hK hPm hEm (by decide) rfl rfl) rfl rfl hl.1 rfl (lv_room (Nat.le_of_ble_eq_true rfl)) dL_law_880 hc0) (fun rB u2 H locs hrB hPx hPm hS => ?_)
      refine lv_istore (lv' := [(6, .int rB), (5, .int 0), (0, .ref bs), (1, .ref (a 112)), (2, .ref (b 0)), (3, .ref (a 113)), (4, .int (nI (4 * j)))]) hx hb dL_law_883 hl (by decide) rfl (fun ls hl => ?_)
      refine lv_aload_n hx hb dL_law_885 rfl (lv_at hl 4 rfl) ?_
      refine ro_i (va_runV (As := []) (rest := []) ⟨hx, hb, hml, hown, hts⟩ (m_X7_thrown l D cI cS b s kp hf (upd sc 3 0) ad (mi 1)) (cwV 0 hts (gV tw797 tw794 tw795 tw796 tw8) rfl rfl rfl (by decide +kernel) ⟨Nat.le_of_ble_eq_true rfl, Nat.le_of_ble_eq_true rfl⟩) (pvR 0 hK hPm (by decide) rfl rfl) rfl rfl hl.1 rfl (lv_room (Nat.le_of_ble_eq_true rfl)) dL_law_886 hc0) (fun r7 hr7 => ?_)
      have hr7 : r7 = 0 := hr7
      subst hr7
      refine lv_iload hx hb dL_law_889 (lv_at hl 1 rfl) ?_
      refine lv_icmp_eq (tgt := 896) hx hb dL_law_891 (by decide) (fun _ => ?_) (fun h0 => absurd (by decide) h0)
      refine lv_iload hx hb dL_law_896 (lv_at hl 1 rfl) ?_
      refine lv_if_ne (tgt := 913) hx hb dL_law_898 (by decide) (fun h0 => absurd (by decide) h0) (fun _ => ?_)
      refine lv_aload_n hx hb dL_law_901 rfl (lv_at hl 5 rfl) ?_
      refine lv_iconst (v := 0) hx hb dL_law_902 (by decide) ?_
      refine g_lald hx hb hKL hPx (v := (wardN s d q).toInt64) rfl dL_law_903 ?_
      refine lv_iload hx hb dL_law_904 (lv_at hl 0 rfl) ?_
      refine lv_i2l hx hb dL_law_906 rfl ?_
      refine g_lcmp0 hx hb (by rw [hrB]) dL_law_907 ?_
      refine lv_if_eq (tgt := 913) hx hb dL_law_908 (by decide) (fun _ => ?_) (fun h0 => absurd (by decide) h0)
      refine lv_goto (tgt := 1363) hx hb dL_law_913 (by decide) ?_
      refine W.widen (k := cells + 1) (n := slots + 6) (by omega) (by omega) ?_
      exact kk H locs ls ⟨s, st, pi, mi, u1, (vp_updL ov 0 (wardN s d q).toInt64), kp, hf, (upd sc 3 0), ad, sz, ln, hPx, hPm, hLI.lk (by omega) hln rfl hl0 rfl rfl rfl hlm⟩ hS (lv_sub hl [2, 3, 4, 5, 6] rfl)
    · skip
      refine lv_aload_n hx hb dL_law_848 rfl (lv_at hl 1 rfl) ?_
      refine lv_aload_n hx hb dL_law_849 rfl (lv_at hl 0 rfl) ?_
      refine lv_iload hx hb dL_law_850 (lv_at hl 4 rfl) ?_
      refine lv_iconst (v := 1) hx hb dL_law_852 (by decide) ?_
      refine lv_iadd hx hb dL_law_853 ?_
      refine lv_as (y := nI (4 * j + 1)) (nI_add2 (p := 4 * j) (q := 1) rfl rfl) ?_
      refine g_sld hx hb hXs hbl hS (4 * j + 1) rfl (by omega) (by omega) dL_law_854 ?_
      refine lv_as (y := nI d) hx1 ?_
      refine lv_aload_n hx hb dL_law_855 rfl (lv_at hl 0 rfl) ?_
      refine lv_iload hx hb dL_law_856 (lv_at hl 4 rfl) ?_
      refine lv_iconst (v := 2) hx hb dL_law_858 (by decide) ?_
      refine lv_iadd hx hb dL_law_859 ?_
      refine lv_as (y := nI (4 * j + 2)) (nI_add2 (p := 4 * j) (q := 2) rfl rfl) ?_
      refine g_sld hx hb hXs hbl hS (4 * j + 2) rfl (by omega) (by omega) dL_law_860 ?_
      refine lv_aload_n hx hb dL_law_861 rfl (lv_at hl 3 rfl) ?_
      refine lwL_i hL hS hPm (vx_runSW (As := [.ref (a 112), .int (nI d), .int (xs (4 * j + 2)), .ref (a 113)]) (rest := []) ⟨hx, hb, hml, hown, hts⟩ (mt2_L_says l hst D cI cS cL a s st pi mi po ov d hd (xs (4 * j + 2)) h2 _) (vx_cwSW 4 hts (gS tw722 tw720 tw721 tw0) rfl rfl rfl (by decide +kernel) ⟨Nat.le_of_ble_eq_true rfl, Nat.le_of_ble_eq_true rfl⟩) (psO hK hPx hL.1 hKL hEV ((hEH.kept hS.2.1).narrow (fun _ h => h.elim))) rfl rfl hl.1 rfl (lv_room (Nat.le_of_ble_eq_true rfl)) dL_law_862 hc1) (fun rA u1 H locs hrA hPx hPm hS => ?_)
      subst hrA
      refine lv_istore (lv' := [(5, .int 2), (0, .ref bs), (1, .ref (a 112)), (2, .ref (b 0)), (3, .ref (a 113)), (4, .int (nI (4 * j)))]) hx hb dL_law_865 hl (by decide) rfl (fun ls hl => ?_)
      refine lv_aload_n hx hb dL_law_867 rfl (lv_at hl 3 rfl) ?_
      refine lv_aload_n hx hb dL_law_868 rfl (lv_at hl 1 rfl) ?_
      refine lv_iload hx hb dL_law_869 (lv_at hl 5 rfl) ?_
      refine lv_iconst (v := 1) hx hb dL_law_871 (by decide) ?_
      refine lv_iadd hx hb dL_law_872 ?_
      refine lv_as (y := nI (4 * j + 1)) (nI_add2 (p := 4 * j) (q := 1) rfl rfl) ?_
      refine g_sld hx hb hXs hbl hS (4 * j + 1) rfl (by omega) (by omega) dL_law_873 ?_
      refine lv_as (y := nI d) hx1 ?_
      refine lv_aload_n hx hb dL_law_874 rfl (lv_at hl 1 rfl) ?_
      refine lv_iload hx hb dL_law_875 (lv_at hl 5 rfl) ?_
      refine lv_iconst (v := 2) hx hb dL_law_877 (by decide) ?_
      refine lv_iadd hx hb dL_law_878 ?_
      refine lv_as (y := nI (4 * j + 2)) (nI_add2 (p := 4 * j) (q := 2) rfl rfl) ?_
      refine g_sld hx hb hXs hbl hS (4 * j + 2) rfl (by omega) (by omega) dL_law_879 ?_
      refine lwM_i hL hS hPx (va_runV (As := [.int (nI d), .int (xs (4 * j + 2))]) (rest := []) ⟨hx, hb, hml, hown, hts⟩ (mx2_X7_says l D cI cS b s kp hf sc ad (mi 1) (nI d) (xs (4 * j + 2)) (hx1 ▸ h1) h2 _) (cwV 2 hts (gV tw950 tw947 tw948 tw949 tw8) rfl rfl rfl (by decide +kernel) ⟨Nat.le_of_ble_eq_true rfl, Nat.le_of_ble_eq_true rfl⟩) (pvW 0 hK hPm hEm (by decide) rfl rfl) rfl rfl hl.1 rfl (lv_room (Nat.le_of_ble_eq_true rfl)) dL_law_880 hc1) (fun rB u2 H locs hrB hPx hPm hS => ?_)
      refine lv_istore (lv' := [(6, .int rB), (5, .int 2), (0, .ref bs), (1, .ref (a 112)), (2, .ref (b 0)), (3, .ref (a 113)), (4, .int (nI (4 * j)))]) hx hb dL_law_883 hl (by decide) rfl (fun ls hl => ?_)
      refine lv_aload_n hx hb dL_law_885 rfl (lv_at hl 4 rfl) ?_
      refine ro_i (va_runV (As := []) (rest := []) ⟨hx, hb, hml, hown, hts⟩ (m_X7_thrown l D cI cS b s kp hf (upd (upd sc 3 0) 3 2) ad (mi 1)) (cwV 0 hts (gV tw797 tw794 tw795 tw796 tw8) rfl rfl rfl (by decide +kernel) ⟨Nat.le_of_ble_eq_true rfl, Nat.le_of_ble_eq_true rfl⟩) (pvR 0 hK hPm (by decide) rfl rfl) rfl rfl hl.1 rfl (lv_room (Nat.le_of_ble_eq_true rfl)) dL_law_886 hc1) (fun r7 hr7 => ?_)
      have hr7 : r7 = 2 := hr7
      subst hr7
      refine lv_iload hx hb dL_law_889 (lv_at hl 1 rfl) ?_
      refine lv_icmp_eq (tgt := 896) hx hb dL_law_891 (by decide) (fun _ => ?_) (fun h0 => absurd (by decide) h0)
      refine lv_iload hx hb dL_law_896 (lv_at hl 1 rfl) ?_
      refine lv_if_ne (tgt := 913) hx hb dL_law_898 (by decide) (fun _ => ?_) (fun h0 => absurd h0 (by decide))
      refine lv_goto (tgt := 1363) hx hb dL_law_913 (by decide) ?_
      refine W.widen (k := cells + 1) (n := slots + 6) (by omega) (by omega) ?_
      exact kk H locs ls ⟨s, st, pi, mi, po, ov, kp, hf, (upd (upd sc 3 0) 3 2), ad, sz, ln, hPx, hPm, hLI.lk (by omega) hln rfl hl0 rfl rfl rfl hlm⟩ hS (lv_sub hl [2, 3, 4, 5, 6] rfl)
  · skip
    refine lv_aload_n hx hb dL_law_848 rfl (lv_at hl 1 rfl) ?_
    refine lv_aload_n hx hb dL_law_849 rfl (lv_at hl 0 rfl) ?_
    refine lv_iload hx hb dL_law_850 (lv_at hl 4 rfl) ?_
    refine lv_iconst (v := 1) hx hb dL_law_852 (by decide) ?_
    refine lv_iadd hx hb dL_law_853 ?_
    refine lv_as (y := nI (4 * j + 1)) (nI_add2 (p := 4 * j) (q := 1) rfl rfl) ?_
    refine g_sld hx hb hXs hbl hS (4 * j + 1) rfl (by omega) (by omega) dL_law_854 ?_
    refine lv_aload_n hx hb dL_law_855 rfl (lv_at hl 0 rfl) ?_
    refine lv_iload hx hb dL_law_856 (lv_at hl 4 rfl) ?_
    refine lv_iconst (v := 2) hx hb dL_law_858 (by decide) ?_
    refine lv_iadd hx hb dL_law_859 ?_
    refine lv_as (y := nI (4 * j + 2)) (nI_add2 (p := 4 * j) (q := 2) rfl rfl) ?_
    refine g_sld hx hb hXs hbl hS (4 * j + 2) rfl (by omega) (by omega) dL_law_860 ?_
    refine lv_aload_n hx hb dL_law_861 rfl (lv_at hl 3 rfl) ?_
    refine lwL_i hL hS hPm (vx_runSW (As := [.ref (a 112), .int (xs (4 * j + 1)), .int (xs (4 * j + 2)), .ref (a 113)]) (rest := []) ⟨hx, hb, hml, hown, hts⟩ (mt_L_says l hst D cI cS cL a s st pi mi po ov (xs (4 * j + 1)) (xs (4 * j + 2)) h1 _) (vx_cwSW 4 hts (gS tw722 tw720 tw721 tw0) rfl rfl rfl (by decide +kernel) ⟨Nat.le_of_ble_eq_true rfl, Nat.le_of_ble_eq_true rfl⟩) (psO hK hPx hL.1 hKL hEV ((hEH.kept hS.2.1).narrow (fun _ h => h.elim))) rfl rfl hl.1 rfl (lv_room (Nat.le_of_ble_eq_true rfl)) dL_law_862 hc1) (fun rA u1 H locs hrA hPx hPm hS => ?_)
    subst hrA
    refine lv_istore (lv' := [(5, .int 1), (0, .ref bs), (1, .ref (a 112)), (2, .ref (b 0)), (3, .ref (a 113)), (4, .int (nI (4 * j)))]) hx hb dL_law_865 hl (by decide) rfl (fun ls hl => ?_)
    refine lv_aload_n hx hb dL_law_867 rfl (lv_at hl 3 rfl) ?_
    refine lv_aload_n hx hb dL_law_868 rfl (lv_at hl 1 rfl) ?_
    refine lv_iload hx hb dL_law_869 (lv_at hl 5 rfl) ?_
    refine lv_iconst (v := 1) hx hb dL_law_871 (by decide) ?_
    refine lv_iadd hx hb dL_law_872 ?_
    refine lv_as (y := nI (4 * j + 1)) (nI_add2 (p := 4 * j) (q := 1) rfl rfl) ?_
    refine g_sld hx hb hXs hbl hS (4 * j + 1) rfl (by omega) (by omega) dL_law_873 ?_
    refine lv_aload_n hx hb dL_law_874 rfl (lv_at hl 1 rfl) ?_
    refine lv_iload hx hb dL_law_875 (lv_at hl 5 rfl) ?_
    refine lv_iconst (v := 2) hx hb dL_law_877 (by decide) ?_
    refine lv_iadd hx hb dL_law_878 ?_
    refine lv_as (y := nI (4 * j + 2)) (nI_add2 (p := 4 * j) (q := 2) rfl rfl) ?_
    refine g_sld hx hb hXs hbl hS (4 * j + 2) rfl (by omega) (by omega) dL_law_879 ?_
    refine lwM_i hL hS hPx (va_runV (As := [.int (xs (4 * j + 1)), .int (xs (4 * j + 2))]) (rest := []) ⟨hx, hb, hml, hown, hts⟩ (mx_X7_says l D cI cS b s kp hf sc ad (mi 1) (xs (4 * j + 1)) (xs (4 * j + 2)) h1 _) (cwV 2 hts (gV tw950 tw947 tw948 tw949 tw8) rfl rfl rfl (by decide +kernel) ⟨Nat.le_of_ble_eq_true rfl, Nat.le_of_ble_eq_true rfl⟩) (pvW 0 hK hPm hEm (by decide) rfl rfl) rfl rfl hl.1 rfl (lv_room (Nat.le_of_ble_eq_true rfl)) dL_law_880 hc1) (fun rB u2 H locs hrB hPx hPm hS => ?_)
    refine lv_istore (lv' := [(6, .int rB), (5, .int 1), (0, .ref bs), (1, .ref (a 112)), (2, .ref (b 0)), (3, .ref (a 113)), (4, .int (nI (4 * j)))]) hx hb dL_law_883 hl (by decide) rfl (fun ls hl => ?_)
    refine lv_aload_n hx hb dL_law_885 rfl (lv_at hl 4 rfl) ?_
    refine ro_i (va_runV (As := []) (rest := []) ⟨hx, hb, hml, hown, hts⟩ (m_X7_thrown l D cI cS b s kp hf (upd (upd sc 3 0) 3 1) ad (mi 1)) (cwV 0 hts (gV tw797 tw794 tw795 tw796 tw8) rfl rfl rfl (by decide +kernel) ⟨Nat.le_of_ble_eq_true rfl, Nat.le_of_ble_eq_true rfl⟩) (pvR 0 hK hPm (by decide) rfl rfl) rfl rfl hl.1 rfl (lv_room (Nat.le_of_ble_eq_true rfl)) dL_law_886 hc1) (fun r7 hr7 => ?_)
    have hr7 : r7 = 1 := hr7
    subst hr7
    refine lv_iload hx hb dL_law_889 (lv_at hl 1 rfl) ?_
    refine lv_icmp_eq (tgt := 896) hx hb dL_law_891 (by decide) (fun _ => ?_) (fun h0 => absurd (by decide) h0)
    refine lv_iload hx hb dL_law_896 (lv_at hl 1 rfl) ?_
    refine lv_if_ne (tgt := 913) hx hb dL_law_898 (by decide) (fun _ => ?_) (fun h0 => absurd h0 (by decide))
    refine lv_goto (tgt := 1363) hx hb dL_law_913 (by decide) ?_
    refine W.widen (k := cells + 1) (n := slots + 6) (by omega) (by omega) ?_
    exact kk H locs ls ⟨s, st, pi, mi, po, ov, kp, hf, (upd (upd sc 3 0) 3 1), ad, sz, ln, hPx, hPm, hLI.lk (by omega) hln rfl hl0 rfl rfl rfl hlm⟩ hS (lv_sub hl [2, 3, 4, 5, 6] rfl)

set_option maxHeartbeats 4000000 in
set_option maxRecDepth 100000 in
theorem law_count {p : Program} {l : Launch} {e : Env} {z : State} {m : MethodId} {below : List Frame} {meth : Method} {c : Code} {Q : State → Prop} {D : va_G} {cI cS cL : ClassId} {a b : Nat → Nat} {bs L : Nat} {xs : Nat → Int32} {T : Int} {j cells slots : Nat} {H : Heap} {locs : List Loc} {ls : Array Slot} (hC : LF p l z m meth c D cI cS cL a b bs L xs) (hj : 4 * j + 3 < L) (hT : T ≤ 99000000) (h0T : 0 ≤ T) (hc1 : cells + 1 ≤ room_1.cells ∧ slots + 6 ≤ room_1.slots) (hW : LWd D cI cS cL a b T H) (hS : va_S (LA z.heap.size) z.heap H locs) (hl : lv_has ls 9 [(0, .ref bs), (1, .ref (a 112)), (2, .ref (b 0)), (3, .ref (a 113)), (4, .int (nI (4 * j)))])
    (kk : ∀ (H1 : Heap) (locs1 : List Loc) (ls1 : Array Slot), LWd D cI cS cL a b (T + 100000) H1 → va_S (LA z.heap.size) z.heap H1 locs1 → lv_has ls1 9 [(0, .ref bs), (1, .ref (a 112)), (2, .ref (b 0)), (3, .ref (a 113)), (4, .int (nI (4 * j)))] → W p l e room_1 z m #[Value.ref bs] below meth c H1 locs1 (cells + 1) (slots + 6) Q (F0 m 1363 ls1 [])) : W p l e room_1 z m #[Value.ref bs] below meth c H locs cells slots Q (F0 m 916 ls []) := by
  obtain ⟨hx, hb, hml, hown, hts, hK, hKL, hEV, hEH, hXs, hbl, hL9, hL, hst⟩ := hC
  obtain ⟨s, st, pi, mi, po, ov, kp, hf, sc, ad, sz, ln, hPx, hPm, hLI⟩ := hW
  obtain ⟨hsz, hpi, hpj, hh, hBd, hln, hs0, hl0, hk0, hlm, hkm, hkk⟩ := id hLI
  have hEm := hL.2.1
  have hc0 : cells + 0 ≤ room_1.cells ∧ slots + 0 ≤ room_1.slots := ⟨by omega, by omega⟩
  by_cases h1 : witB (xs (4 * j + 1)) 0 13
  · skip
    obtain ⟨q, hq0, hx1⟩ := wit_nat (hi := 13) rfl (by decide) h1
    have hq : q < 14 := by omega
    refine lv_aload_n hx hb dL_law_916 rfl (lv_at hl 1 rfl) ?_
    refine lv_aload_n hx hb dL_law_917 rfl (lv_at hl 0 rfl) ?_
    refine lv_iload hx hb dL_law_918 (lv_at hl 4 rfl) ?_
    refine lv_iconst (v := 1) hx hb dL_law_920 (by decide) ?_
    refine lv_iadd hx hb dL_law_921 ?_
    refine lv_as (y := nI (4 * j + 1)) (nI_add2 (p := 4 * j) (q := 1) rfl rfl) ?_
    refine g_sld hx hb hXs hbl hS (4 * j + 1) rfl (by omega) (by omega) dL_law_922 ?_
    refine lv_as (y := nI q) hx1 ?_
    refine lv_aload_n hx hb dL_law_923 rfl (lv_at hl 3 rfl) ?_
    refine lwL_i hL hS hPm (vx_runSW (As := [.ref (a 112), .int (nI q), .ref (a 113)]) (rest := []) ⟨hx, hb, hml, hown, hts⟩ (m_L_count l D cI cS cL a s st pi mi po ov sz q hq hs0 _) (vx_cwSW 3 hts (gS tw729 tw727 tw728 tw0) rfl rfl rfl (by decide +kernel) ⟨Nat.le_of_ble_eq_true rfl, Nat.le_of_ble_eq_true rfl⟩) (psO hK hPx hL.1 hKL hEV ((hEH.kept hS.2.1).narrow (fun _ h => h.elim))) rfl rfl hl.1 rfl (lv_room (Nat.le_of_ble_eq_true rfl)) dL_law_924 hc0) (fun rA u1 H locs hrA hPx hPm hS => ?_)
    subst hrA
    refine lv_istore (lv' := [(5, .int 0), (0, .ref bs), (1, .ref (a 112)), (2, .ref (b 0)), (3, .ref (a 113)), (4, .int (nI (4 * j)))]) hx hb dL_law_927 hl (by decide) rfl (fun ls hl => ?_)
    refine lv_aload_n hx hb dL_law_929 rfl (lv_at hl 3 rfl) ?_
    refine lv_aload_n hx hb dL_law_930 rfl (lv_at hl 1 rfl) ?_
    refine lv_iload hx hb dL_law_931 (lv_at hl 5 rfl) ?_
    refine lv_iconst (v := 1) hx hb dL_law_933 (by decide) ?_
    refine lv_iadd hx hb dL_law_934 ?_
    refine lv_as (y := nI (4 * j + 1)) (nI_add2 (p := 4 * j) (q := 1) rfl rfl) ?_
    refine g_sld hx hb hXs hbl hS (4 * j + 1) rfl (by omega) (by omega) dL_law_935 ?_
    refine lv_as (y := nI q) hx1 ?_
    refine lwM_i hL hS hPx (va_runV (As := [.int (nI q)]) (rest := []) ⟨hx, hb, hml, hown, hts⟩ (m_X7_count l D cI cS b s kp hf sc ad (mi 1) T hBd (by omega) sz hsz hk0 q hq _) (cwV 1 hts (gV tw962 tw959 tw960 tw961 tw8) rfl rfl rfl (by decide +kernel) ⟨Nat.le_of_ble_eq_true rfl, Nat.le_of_ble_eq_true rfl⟩) (pvW 0 hK hPm hEm (by decide) rfl rfl) rfl rfl hl.1 rfl (lv_room (Nat.le_of_ble_eq_true rfl)) dL_law_936 hc0) (fun rB u2 H locs hrB hPx hPm hS => ?_)
    refine lv_istore (lv' := [(6, .int rB), (5, .int 0), (0, .ref bs), (1, .ref (a 112)), (2, .ref (b 0)), (3, .ref (a 113)), (4, .int (nI (4 * j)))]) hx hb dL_law_939 hl (by decide) rfl (fun ls hl => ?_)
    refine lv_aload_n hx hb dL_law_941 rfl (lv_at hl 4 rfl) ?_
    refine ro_i (va_runV (As := []) (rest := []) ⟨hx, hb, hml, hown, hts⟩ (m_X7_thrown l D cI cS b s kp hf (upd sc 3 0) ad (mi 1)) (cwV 0 hts (gV tw797 tw794 tw795 tw796 tw8) rfl rfl rfl (by decide +kernel) ⟨Nat.le_of_ble_eq_true rfl, Nat.le_of_ble_eq_true rfl⟩) (pvR 0 hK hPm (by decide) rfl rfl) rfl rfl hl.1 rfl (lv_room (Nat.le_of_ble_eq_true rfl)) dL_law_942 hc0) (fun r7 hr7 => ?_)
    have hr7 : r7 = 0 := hr7
    subst hr7
    refine lv_iload hx hb dL_law_945 (lv_at hl 1 rfl) ?_
    refine lv_icmp_eq (tgt := 952) hx hb dL_law_947 (by decide) (fun _ => ?_) (fun h0 => absurd (by decide) h0)
    refine lv_iload hx hb dL_law_952 (lv_at hl 1 rfl) ?_
    refine lv_if_ne (tgt := 969) hx hb dL_law_954 (by decide) (fun h0 => absurd (by decide) h0) (fun _ => ?_)
    refine lv_aload_n hx hb dL_law_957 rfl (lv_at hl 5 rfl) ?_
    refine lv_iconst (v := 0) hx hb dL_law_958 (by decide) ?_
    refine g_lald hx hb hKL hPx (v := (counN s sz q).toInt64) rfl dL_law_959 ?_
    refine lv_iload hx hb dL_law_960 (lv_at hl 0 rfl) ?_
    refine lv_i2l hx hb dL_law_962 rfl ?_
    refine g_lcmp0 hx hb (by rw [hrB]) dL_law_963 ?_
    refine lv_if_eq (tgt := 969) hx hb dL_law_964 (by decide) (fun _ => ?_) (fun h0 => absurd (by decide) h0)
    refine lv_goto (tgt := 1363) hx hb dL_law_969 (by decide) ?_
    refine W.widen (k := cells + 1) (n := slots + 6) (by omega) (by omega) ?_
    exact kk H locs ls ⟨s, st, pi, mi, u1, (vp_updL ov 0 (counN s sz q).toInt64), kp, hf, (upd sc 3 0), ad, sz, ln, hPx, hPm, hLI.lk (by omega) hln rfl hl0 rfl rfl rfl hlm⟩ hS (lv_sub hl [2, 3, 4, 5, 6] rfl)
  · skip
    refine lv_aload_n hx hb dL_law_916 rfl (lv_at hl 1 rfl) ?_
    refine lv_aload_n hx hb dL_law_917 rfl (lv_at hl 0 rfl) ?_
    refine lv_iload hx hb dL_law_918 (lv_at hl 4 rfl) ?_
    refine lv_iconst (v := 1) hx hb dL_law_920 (by decide) ?_
    refine lv_iadd hx hb dL_law_921 ?_
    refine lv_as (y := nI (4 * j + 1)) (nI_add2 (p := 4 * j) (q := 1) rfl rfl) ?_
    refine g_sld hx hb hXs hbl hS (4 * j + 1) rfl (by omega) (by omega) dL_law_922 ?_
    refine lv_aload_n hx hb dL_law_923 rfl (lv_at hl 3 rfl) ?_
    refine lwL_i hL hS hPm (vx_runSW (As := [.ref (a 112), .int (xs (4 * j + 1)), .ref (a 113)]) (rest := []) ⟨hx, hb, hml, hown, hts⟩ (mt_L_count l hst D cI cS cL a s st pi mi po ov (xs (4 * j + 1)) h1 _) (vx_cwSW 3 hts (gS tw729 tw727 tw728 tw0) rfl rfl rfl (by decide +kernel) ⟨Nat.le_of_ble_eq_true rfl, Nat.le_of_ble_eq_true rfl⟩) (psO hK hPx hL.1 hKL hEV ((hEH.kept hS.2.1).narrow (fun _ h => h.elim))) rfl rfl hl.1 rfl (lv_room (Nat.le_of_ble_eq_true rfl)) dL_law_924 hc1) (fun rA u1 H locs hrA hPx hPm hS => ?_)
    subst hrA
    refine lv_istore (lv' := [(5, .int 1), (0, .ref bs), (1, .ref (a 112)), (2, .ref (b 0)), (3, .ref (a 113)), (4, .int (nI (4 * j)))]) hx hb dL_law_927 hl (by decide) rfl (fun ls hl => ?_)
    refine lv_aload_n hx hb dL_law_929 rfl (lv_at hl 3 rfl) ?_
    refine lv_aload_n hx hb dL_law_930 rfl (lv_at hl 1 rfl) ?_
    refine lv_iload hx hb dL_law_931 (lv_at hl 5 rfl) ?_
    refine lv_iconst (v := 1) hx hb dL_law_933 (by decide) ?_
    refine lv_iadd hx hb dL_law_934 ?_
    refine lv_as (y := nI (4 * j + 1)) (nI_add2 (p := 4 * j) (q := 1) rfl rfl) ?_
    refine g_sld hx hb hXs hbl hS (4 * j + 1) rfl (by omega) (by omega) dL_law_935 ?_
    refine lwM_i hL hS hPx (va_runV (As := [.int (xs (4 * j + 1))]) (rest := []) ⟨hx, hb, hml, hown, hts⟩ (mx_X7_count l D cI cS b s kp hf sc ad (mi 1) (xs (4 * j + 1)) h1 _) (cwV 1 hts (gV tw962 tw959 tw960 tw961 tw8) rfl rfl rfl (by decide +kernel) ⟨Nat.le_of_ble_eq_true rfl, Nat.le_of_ble_eq_true rfl⟩) (pvW 0 hK hPm hEm (by decide) rfl rfl) rfl rfl hl.1 rfl (lv_room (Nat.le_of_ble_eq_true rfl)) dL_law_936 hc1) (fun rB u2 H locs hrB hPx hPm hS => ?_)
    refine lv_istore (lv' := [(6, .int rB), (5, .int 1), (0, .ref bs), (1, .ref (a 112)), (2, .ref (b 0)), (3, .ref (a 113)), (4, .int (nI (4 * j)))]) hx hb dL_law_939 hl (by decide) rfl (fun ls hl => ?_)
    refine lv_aload_n hx hb dL_law_941 rfl (lv_at hl 4 rfl) ?_
    refine ro_i (va_runV (As := []) (rest := []) ⟨hx, hb, hml, hown, hts⟩ (m_X7_thrown l D cI cS b s kp hf (upd (upd sc 3 0) 3 1) ad (mi 1)) (cwV 0 hts (gV tw797 tw794 tw795 tw796 tw8) rfl rfl rfl (by decide +kernel) ⟨Nat.le_of_ble_eq_true rfl, Nat.le_of_ble_eq_true rfl⟩) (pvR 0 hK hPm (by decide) rfl rfl) rfl rfl hl.1 rfl (lv_room (Nat.le_of_ble_eq_true rfl)) dL_law_942 hc1) (fun r7 hr7 => ?_)
    have hr7 : r7 = 1 := hr7
    subst hr7
    refine lv_iload hx hb dL_law_945 (lv_at hl 1 rfl) ?_
    refine lv_icmp_eq (tgt := 952) hx hb dL_law_947 (by decide) (fun _ => ?_) (fun h0 => absurd (by decide) h0)
    refine lv_iload hx hb dL_law_952 (lv_at hl 1 rfl) ?_
    refine lv_if_ne (tgt := 969) hx hb dL_law_954 (by decide) (fun _ => ?_) (fun h0 => absurd h0 (by decide))
    refine lv_goto (tgt := 1363) hx hb dL_law_969 (by decide) ?_
    refine W.widen (k := cells + 1) (n := slots + 6) (by omega) (by omega) ?_
    exact kk H locs ls ⟨s, st, pi, mi, po, ov, kp, hf, (upd (upd sc 3 0) 3 1), ad, sz, ln, hPx, hPm, hLI.lk (by omega) hln rfl hl0 rfl rfl rfl hlm⟩ hS (lv_sub hl [2, 3, 4, 5, 6] rfl)

set_option maxHeartbeats 4000000 in
set_option maxRecDepth 100000 in
theorem law_setting {p : Program} {l : Launch} {e : Env} {z : State} {m : MethodId} {below : List Frame} {meth : Method} {c : Code} {Q : State → Prop} {D : va_G} {cI cS cL : ClassId} {a b : Nat → Nat} {bs L : Nat} {xs : Nat → Int32} {T : Int} {j cells slots : Nat} {H : Heap} {locs : List Loc} {ls : Array Slot} (hC : LF p l z m meth c D cI cS cL a b bs L xs) (hj : 4 * j + 3 < L) (hT : T ≤ 99000000) (h0T : 0 ≤ T) (hc1 : cells + 1 ≤ room_1.cells ∧ slots + 6 ≤ room_1.slots) (hW : LWd D cI cS cL a b T H) (hS : va_S (LA z.heap.size) z.heap H locs) (hl : lv_has ls 9 [(0, .ref bs), (1, .ref (a 112)), (2, .ref (b 0)), (3, .ref (a 113)), (4, .int (nI (4 * j)))])
    (kk : ∀ (H1 : Heap) (locs1 : List Loc) (ls1 : Array Slot), LWd D cI cS cL a b (T + 100000) H1 → va_S (LA z.heap.size) z.heap H1 locs1 → lv_has ls1 9 [(0, .ref bs), (1, .ref (a 112)), (2, .ref (b 0)), (3, .ref (a 113)), (4, .int (nI (4 * j)))] → W p l e room_1 z m #[Value.ref bs] below meth c H1 locs1 (cells + 1) (slots + 6) Q (F0 m 1363 ls1 [])) : W p l e room_1 z m #[Value.ref bs] below meth c H locs cells slots Q (F0 m 972 ls []) := by
  obtain ⟨hx, hb, hml, hown, hts, hK, hKL, hEV, hEH, hXs, hbl, hL9, hL, hst⟩ := hC
  obtain ⟨s, st, pi, mi, po, ov, kp, hf, sc, ad, sz, ln, hPx, hPm, hLI⟩ := hW
  obtain ⟨hsz, hpi, hpj, hh, hBd, hln, hs0, hl0, hk0, hlm, hkm, hkk⟩ := id hLI
  have hEm := hL.2.1
  have hc0 : cells + 0 ≤ room_1.cells ∧ slots + 0 ≤ room_1.slots := ⟨by omega, by omega⟩
  by_cases h1 : witB (xs (4 * j + 1)) 0 1
  · skip
    obtain ⟨q, hq0, hx1⟩ := wit_nat (hi := 1) rfl (by decide) h1
    have hq : q < 2 := by omega
    refine lv_aload_n hx hb dL_law_972 rfl (lv_at hl 1 rfl) ?_
    refine lv_aload_n hx hb dL_law_973 rfl (lv_at hl 0 rfl) ?_
    refine lv_iload hx hb dL_law_974 (lv_at hl 4 rfl) ?_
    refine lv_iconst (v := 1) hx hb dL_law_976 (by decide) ?_
    refine lv_iadd hx hb dL_law_977 ?_
    refine lv_as (y := nI (4 * j + 1)) (nI_add2 (p := 4 * j) (q := 1) rfl rfl) ?_
    refine g_sld hx hb hXs hbl hS (4 * j + 1) rfl (by omega) (by omega) dL_law_978 ?_
    refine lv_as (y := nI q) hx1 ?_
    refine lv_aload_n hx hb dL_law_979 rfl (lv_at hl 3 rfl) ?_
    refine lwL_i hL hS hPm (vx_runSW (As := [.ref (a 112), .int (nI q), .ref (a 113)]) (rest := []) ⟨hx, hb, hml, hown, hts⟩ (m_L_setting l D cI cS cL a s st pi mi po ov q hq _) (vx_cwSW 3 hts (gS tw733 tw731 tw732 tw0) rfl rfl rfl (by decide +kernel) ⟨Nat.le_of_ble_eq_true rfl, Nat.le_of_ble_eq_true rfl⟩) (psO hK hPx hL.1 hKL hEV ((hEH.kept hS.2.1).narrow (fun _ h => h.elim))) rfl rfl hl.1 rfl (lv_room (Nat.le_of_ble_eq_true rfl)) dL_law_980 hc0) (fun rA u1 H locs hrA hPx hPm hS => ?_)
    subst hrA
    refine lv_istore (lv' := [(5, .int 0), (0, .ref bs), (1, .ref (a 112)), (2, .ref (b 0)), (3, .ref (a 113)), (4, .int (nI (4 * j)))]) hx hb dL_law_983 hl (by decide) rfl (fun ls hl => ?_)
    refine lv_aload_n hx hb dL_law_985 rfl (lv_at hl 3 rfl) ?_
    refine lv_aload_n hx hb dL_law_986 rfl (lv_at hl 1 rfl) ?_
    refine lv_iload hx hb dL_law_987 (lv_at hl 5 rfl) ?_
    refine lv_iconst (v := 1) hx hb dL_law_989 (by decide) ?_
    refine lv_iadd hx hb dL_law_990 ?_
    refine lv_as (y := nI (4 * j + 1)) (nI_add2 (p := 4 * j) (q := 1) rfl rfl) ?_
    refine g_sld hx hb hXs hbl hS (4 * j + 1) rfl (by omega) (by omega) dL_law_991 ?_
    refine lv_as (y := nI q) hx1 ?_
    refine lwM_i hL hS hPx (va_runV (As := [.int (nI q)]) (rest := []) ⟨hx, hb, hml, hown, hts⟩ (m_X7_setting l D cI cS b s kp hf sc ad (mi 1) T hBd (by omega) q hq _) (cwV 1 hts (gV tw982 tw979 tw980 tw981 tw8) rfl rfl rfl (by decide +kernel) ⟨Nat.le_of_ble_eq_true rfl, Nat.le_of_ble_eq_true rfl⟩) (pvW 0 hK hPm hEm (by decide) rfl rfl) rfl rfl hl.1 rfl (lv_room (Nat.le_of_ble_eq_true rfl)) dL_law_992 hc0) (fun rB u2 H locs hrB hPx hPm hS => ?_)
    refine lv_istore (lv' := [(6, .int rB), (5, .int 0), (0, .ref bs), (1, .ref (a 112)), (2, .ref (b 0)), (3, .ref (a 113)), (4, .int (nI (4 * j)))]) hx hb dL_law_995 hl (by decide) rfl (fun ls hl => ?_)
    refine lv_aload_n hx hb dL_law_997 rfl (lv_at hl 4 rfl) ?_
    refine ro_i (va_runV (As := []) (rest := []) ⟨hx, hb, hml, hown, hts⟩ (m_X7_thrown l D cI cS b s kp hf (upd sc 3 0) ad (mi 1)) (cwV 0 hts (gV tw797 tw794 tw795 tw796 tw8) rfl rfl rfl (by decide +kernel) ⟨Nat.le_of_ble_eq_true rfl, Nat.le_of_ble_eq_true rfl⟩) (pvR 0 hK hPm (by decide) rfl rfl) rfl rfl hl.1 rfl (lv_room (Nat.le_of_ble_eq_true rfl)) dL_law_998 hc0) (fun r7 hr7 => ?_)
    have hr7 : r7 = 0 := hr7
    subst hr7
    refine lv_iload hx hb dL_law_1001 (lv_at hl 1 rfl) ?_
    refine lv_icmp_eq (tgt := 1008) hx hb dL_law_1003 (by decide) (fun _ => ?_) (fun h0 => absurd (by decide) h0)
    refine lv_iload hx hb dL_law_1008 (lv_at hl 1 rfl) ?_
    refine lv_if_ne (tgt := 1025) hx hb dL_law_1010 (by decide) (fun h0 => absurd (by decide) h0) (fun _ => ?_)
    refine lv_aload_n hx hb dL_law_1013 rfl (lv_at hl 5 rfl) ?_
    refine lv_iconst (v := 0) hx hb dL_law_1014 (by decide) ?_
    refine g_lald hx hb hKL hPx (v := (s 10 q).toInt64) rfl dL_law_1015 ?_
    refine lv_iload hx hb dL_law_1016 (lv_at hl 0 rfl) ?_
    refine lv_i2l hx hb dL_law_1018 rfl ?_
    refine g_lcmp0 hx hb (by rw [hrB]) dL_law_1019 ?_
    refine lv_if_eq (tgt := 1025) hx hb dL_law_1020 (by decide) (fun _ => ?_) (fun h0 => absurd (by decide) h0)
    refine lv_goto (tgt := 1363) hx hb dL_law_1025 (by decide) ?_
    refine W.widen (k := cells + 1) (n := slots + 6) (by omega) (by omega) ?_
    exact kk H locs ls ⟨s, st, pi, mi, po, (vp_updL ov 0 (s 10 q).toInt64), kp, hf, (upd sc 3 0), ad, sz, ln, hPx, hPm, hLI.lk (by omega) hln rfl hl0 rfl rfl rfl hlm⟩ hS (lv_sub hl [2, 3, 4, 5, 6] rfl)
  · skip
    refine lv_aload_n hx hb dL_law_972 rfl (lv_at hl 1 rfl) ?_
    refine lv_aload_n hx hb dL_law_973 rfl (lv_at hl 0 rfl) ?_
    refine lv_iload hx hb dL_law_974 (lv_at hl 4 rfl) ?_
    refine lv_iconst (v := 1) hx hb dL_law_976 (by decide) ?_
    refine lv_iadd hx hb dL_law_977 ?_
    refine lv_as (y := nI (4 * j + 1)) (nI_add2 (p := 4 * j) (q := 1) rfl rfl) ?_
    refine g_sld hx hb hXs hbl hS (4 * j + 1) rfl (by omega) (by omega) dL_law_978 ?_
    refine lv_aload_n hx hb dL_law_979 rfl (lv_at hl 3 rfl) ?_
    refine lwL_i hL hS hPm (vx_runSW (As := [.ref (a 112), .int (xs (4 * j + 1)), .ref (a 113)]) (rest := []) ⟨hx, hb, hml, hown, hts⟩ (mt_L_setting l hst D cI cS cL a s st pi mi po ov (xs (4 * j + 1)) h1 _) (vx_cwSW 3 hts (gS tw733 tw731 tw732 tw0) rfl rfl rfl (by decide +kernel) ⟨Nat.le_of_ble_eq_true rfl, Nat.le_of_ble_eq_true rfl⟩) (psO hK hPx hL.1 hKL hEV ((hEH.kept hS.2.1).narrow (fun _ h => h.elim))) rfl rfl hl.1 rfl (lv_room (Nat.le_of_ble_eq_true rfl)) dL_law_980 hc1) (fun rA u1 H locs hrA hPx hPm hS => ?_)
    subst hrA
    refine lv_istore (lv' := [(5, .int 1), (0, .ref bs), (1, .ref (a 112)), (2, .ref (b 0)), (3, .ref (a 113)), (4, .int (nI (4 * j)))]) hx hb dL_law_983 hl (by decide) rfl (fun ls hl => ?_)
    refine lv_aload_n hx hb dL_law_985 rfl (lv_at hl 3 rfl) ?_
    refine lv_aload_n hx hb dL_law_986 rfl (lv_at hl 1 rfl) ?_
    refine lv_iload hx hb dL_law_987 (lv_at hl 5 rfl) ?_
    refine lv_iconst (v := 1) hx hb dL_law_989 (by decide) ?_
    refine lv_iadd hx hb dL_law_990 ?_
    refine lv_as (y := nI (4 * j + 1)) (nI_add2 (p := 4 * j) (q := 1) rfl rfl) ?_
    refine g_sld hx hb hXs hbl hS (4 * j + 1) rfl (by omega) (by omega) dL_law_991 ?_
    refine lwM_i hL hS hPx (va_runV (As := [.int (xs (4 * j + 1))]) (rest := []) ⟨hx, hb, hml, hown, hts⟩ (mx_X7_setting l D cI cS b s kp hf sc ad (mi 1) (xs (4 * j + 1)) h1 _) (cwV 1 hts (gV tw982 tw979 tw980 tw981 tw8) rfl rfl rfl (by decide +kernel) ⟨Nat.le_of_ble_eq_true rfl, Nat.le_of_ble_eq_true rfl⟩) (pvW 0 hK hPm hEm (by decide) rfl rfl) rfl rfl hl.1 rfl (lv_room (Nat.le_of_ble_eq_true rfl)) dL_law_992 hc1) (fun rB u2 H locs hrB hPx hPm hS => ?_)
    refine lv_istore (lv' := [(6, .int rB), (5, .int 1), (0, .ref bs), (1, .ref (a 112)), (2, .ref (b 0)), (3, .ref (a 113)), (4, .int (nI (4 * j)))]) hx hb dL_law_995 hl (by decide) rfl (fun ls hl => ?_)
    refine lv_aload_n hx hb dL_law_997 rfl (lv_at hl 4 rfl) ?_
    refine ro_i (va_runV (As := []) (rest := []) ⟨hx, hb, hml, hown, hts⟩ (m_X7_thrown l D cI cS b s kp hf (upd (upd sc 3 0) 3 1) ad (mi 1)) (cwV 0 hts (gV tw797 tw794 tw795 tw796 tw8) rfl rfl rfl (by decide +kernel) ⟨Nat.le_of_ble_eq_true rfl, Nat.le_of_ble_eq_true rfl⟩) (pvR 0 hK hPm (by decide) rfl rfl) rfl rfl hl.1 rfl (lv_room (Nat.le_of_ble_eq_true rfl)) dL_law_998 hc1) (fun r7 hr7 => ?_)
    have hr7 : r7 = 1 := hr7
    subst hr7
    refine lv_iload hx hb dL_law_1001 (lv_at hl 1 rfl) ?_
    refine lv_icmp_eq (tgt := 1008) hx hb dL_law_1003 (by decide) (fun _ => ?_) (fun h0 => absurd (by decide) h0)
    refine lv_iload hx hb dL_law_1008 (lv_at hl 1 rfl) ?_
    refine lv_if_ne (tgt := 1025) hx hb dL_law_1010 (by decide) (fun _ => ?_) (fun h0 => absurd h0 (by decide))
    refine lv_goto (tgt := 1363) hx hb dL_law_1025 (by decide) ?_
    refine W.widen (k := cells + 1) (n := slots + 6) (by omega) (by omega) ?_
    exact kk H locs ls ⟨s, st, pi, mi, po, ov, kp, hf, (upd (upd sc 3 0) 3 1), ad, sz, ln, hPx, hPm, hLI.lk (by omega) hln rfl hl0 rfl rfl rfl hlm⟩ hS (lv_sub hl [2, 3, 4, 5, 6] rfl)

set_option maxHeartbeats 4000000 in
set_option maxRecDepth 100000 in
theorem law_without {p : Program} {l : Launch} {e : Env} {z : State} {m : MethodId} {below : List Frame} {meth : Method} {c : Code} {Q : State → Prop} {D : va_G} {cI cS cL : ClassId} {a b : Nat → Nat} {bs L : Nat} {xs : Nat → Int32} {T : Int} {j cells slots : Nat} {H : Heap} {locs : List Loc} {ls : Array Slot} (hC : LF p l z m meth c D cI cS cL a b bs L xs) (hj : 4 * j + 3 < L) (hT : T ≤ 99000000) (h0T : 0 ≤ T) (hc1 : cells + 1 ≤ room_1.cells ∧ slots + 6 ≤ room_1.slots) (hW : LWd D cI cS cL a b T H) (hS : va_S (LA z.heap.size) z.heap H locs) (hl : lv_has ls 9 [(0, .ref bs), (1, .ref (a 112)), (2, .ref (b 0)), (3, .ref (a 113)), (4, .int (nI (4 * j)))])
    (kk : ∀ (H1 : Heap) (locs1 : List Loc) (ls1 : Array Slot), LWd D cI cS cL a b (T + 100000) H1 → va_S (LA z.heap.size) z.heap H1 locs1 → lv_has ls1 9 [(0, .ref bs), (1, .ref (a 112)), (2, .ref (b 0)), (3, .ref (a 113)), (4, .int (nI (4 * j)))] → W p l e room_1 z m #[Value.ref bs] below meth c H1 locs1 (cells + 1) (slots + 6) Q (F0 m 1363 ls1 [])) : W p l e room_1 z m #[Value.ref bs] below meth c H locs cells slots Q (F0 m 1028 ls []) := by
  obtain ⟨hx, hb, hml, hown, hts, hK, hKL, hEV, hEH, hXs, hbl, hL9, hL, hst⟩ := hC
  obtain ⟨s, st, pi, mi, po, ov, kp, hf, sc, ad, sz, ln, hPx, hPm, hLI⟩ := hW
  obtain ⟨hsz, hpi, hpj, hh, hBd, hln, hs0, hl0, hk0, hlm, hkm, hkk⟩ := id hLI
  have hEm := hL.2.1
  have hc0 : cells + 0 ≤ room_1.cells ∧ slots + 0 ≤ room_1.slots := ⟨by omega, by omega⟩
  by_cases h1 : witB (xs (4 * j + 1)) 0 6
  · skip
    obtain ⟨d, hd0, hx1⟩ := wit_nat (hi := 6) rfl (by decide) h1
    have hd : d < 7 := by omega
    refine lv_aload_n hx hb dL_law_1028 rfl (lv_at hl 1 rfl) ?_
    refine lv_aload_n hx hb dL_law_1029 rfl (lv_at hl 0 rfl) ?_
    refine lv_iload hx hb dL_law_1030 (lv_at hl 4 rfl) ?_
    refine lv_iconst (v := 1) hx hb dL_law_1032 (by decide) ?_
    refine lv_iadd hx hb dL_law_1033 ?_
    refine lv_as (y := nI (4 * j + 1)) (nI_add2 (p := 4 * j) (q := 1) rfl rfl) ?_
    refine g_sld hx hb hXs hbl hS (4 * j + 1) rfl (by omega) (by omega) dL_law_1034 ?_
    refine lv_as (y := nI d) hx1 ?_
    refine lv_aload_n hx hb dL_law_1035 rfl (lv_at hl 3 rfl) ?_
    refine lwL_i hL hS hPm (vx_runSW (As := [.ref (a 112), .int (nI d), .ref (a 113)]) (rest := []) ⟨hx, hb, hml, hown, hts⟩ (m_L_without l D cI cS cL a s st pi mi po ov d hd _) (vx_cwSW 3 hts (gS tw740 tw738 tw739 tw0) rfl rfl rfl (by decide +kernel) ⟨Nat.le_of_ble_eq_true rfl, Nat.le_of_ble_eq_true rfl⟩) (psO hK hPx hL.1 hKL hEV ((hEH.kept hS.2.1).narrow (fun _ h => h.elim))) rfl rfl hl.1 rfl (lv_room (Nat.le_of_ble_eq_true rfl)) dL_law_1036 hc0) (fun rA u1 H locs hrA hPx hPm hS => ?_)
    subst hrA
    refine lv_istore (lv' := [(5, .int 0), (0, .ref bs), (1, .ref (a 112)), (2, .ref (b 0)), (3, .ref (a 113)), (4, .int (nI (4 * j)))]) hx hb dL_law_1039 hl (by decide) rfl (fun ls hl => ?_)
    refine lv_aload_n hx hb dL_law_1041 rfl (lv_at hl 3 rfl) ?_
    refine lv_aload_n hx hb dL_law_1042 rfl (lv_at hl 1 rfl) ?_
    refine lv_iload hx hb dL_law_1043 (lv_at hl 5 rfl) ?_
    refine lv_iconst (v := 1) hx hb dL_law_1045 (by decide) ?_
    refine lv_iadd hx hb dL_law_1046 ?_
    refine lv_as (y := nI (4 * j + 1)) (nI_add2 (p := 4 * j) (q := 1) rfl rfl) ?_
    refine g_sld hx hb hXs hbl hS (4 * j + 1) rfl (by omega) (by omega) dL_law_1047 ?_
    refine lv_as (y := nI d) hx1 ?_
    refine lwM_i hL hS hPx (va_runV (As := [.int (nI d)]) (rest := []) ⟨hx, hb, hml, hown, hts⟩ (m_X7_without l D cI cS b s kp hf sc ad (mi 1) T hBd (by omega) d hd _) (cwV 1 hts (gV tw986 tw983 tw984 tw985 tw8) rfl rfl rfl (by decide +kernel) ⟨Nat.le_of_ble_eq_true rfl, Nat.le_of_ble_eq_true rfl⟩) (pvW 0 hK hPm hEm (by decide) rfl rfl) rfl rfl hl.1 rfl (lv_room (Nat.le_of_ble_eq_true rfl)) dL_law_1048 hc0) (fun rB u2 H locs hrB hPx hPm hS => ?_)
    refine lv_istore (lv' := [(6, .int rB), (5, .int 0), (0, .ref bs), (1, .ref (a 112)), (2, .ref (b 0)), (3, .ref (a 113)), (4, .int (nI (4 * j)))]) hx hb dL_law_1051 hl (by decide) rfl (fun ls hl => ?_)
    refine lv_aload_n hx hb dL_law_1053 rfl (lv_at hl 4 rfl) ?_
    refine ro_i (va_runV (As := []) (rest := []) ⟨hx, hb, hml, hown, hts⟩ (m_X7_thrown l D cI cS b s kp hf (upd sc 3 0) ad (mi 1)) (cwV 0 hts (gV tw797 tw794 tw795 tw796 tw8) rfl rfl rfl (by decide +kernel) ⟨Nat.le_of_ble_eq_true rfl, Nat.le_of_ble_eq_true rfl⟩) (pvR 0 hK hPm (by decide) rfl rfl) rfl rfl hl.1 rfl (lv_room (Nat.le_of_ble_eq_true rfl)) dL_law_1054 hc0) (fun r7 hr7 => ?_)
    have hr7 : r7 = 0 := hr7
    subst hr7
    refine lv_iload hx hb dL_law_1057 (lv_at hl 1 rfl) ?_
    refine lv_icmp_eq (tgt := 1064) hx hb dL_law_1059 (by decide) (fun _ => ?_) (fun h0 => absurd (by decide) h0)
    refine lv_iload hx hb dL_law_1064 (lv_at hl 1 rfl) ?_
    refine lv_if_ne (tgt := 1081) hx hb dL_law_1066 (by decide) (fun h0 => absurd (by decide) h0) (fun _ => ?_)
    refine lv_aload_n hx hb dL_law_1069 rfl (lv_at hl 5 rfl) ?_
    refine lv_iconst (v := 0) hx hb dL_law_1070 (by decide) ?_
    refine g_lald hx hb hKL hPx (v := (midW s d 0).toInt64) rfl dL_law_1071 ?_
    refine lv_iload hx hb dL_law_1072 (lv_at hl 0 rfl) ?_
    refine lv_i2l hx hb dL_law_1074 rfl ?_
    refine g_lcmp0 hx hb (by rw [hrB]) dL_law_1075 ?_
    refine lv_if_eq (tgt := 1081) hx hb dL_law_1076 (by decide) (fun _ => ?_) (fun h0 => absurd (by decide) h0)
    refine lv_goto (tgt := 1363) hx hb dL_law_1081 (by decide) ?_
    refine W.widen (k := cells + 1) (n := slots + 6) (by omega) (by omega) ?_
    exact kk H locs ls ⟨s, st, pi, mi, u1, (vp_updL ov 0 (midW s d 0).toInt64), kp, hf, (upd sc 3 0), ad, sz, ln, hPx, hPm, hLI.lk (by omega) hln rfl hl0 rfl rfl rfl hlm⟩ hS (lv_sub hl [2, 3, 4, 5, 6] rfl)
  · skip
    refine lv_aload_n hx hb dL_law_1028 rfl (lv_at hl 1 rfl) ?_
    refine lv_aload_n hx hb dL_law_1029 rfl (lv_at hl 0 rfl) ?_
    refine lv_iload hx hb dL_law_1030 (lv_at hl 4 rfl) ?_
    refine lv_iconst (v := 1) hx hb dL_law_1032 (by decide) ?_
    refine lv_iadd hx hb dL_law_1033 ?_
    refine lv_as (y := nI (4 * j + 1)) (nI_add2 (p := 4 * j) (q := 1) rfl rfl) ?_
    refine g_sld hx hb hXs hbl hS (4 * j + 1) rfl (by omega) (by omega) dL_law_1034 ?_
    refine lv_aload_n hx hb dL_law_1035 rfl (lv_at hl 3 rfl) ?_
    refine lwL_i hL hS hPm (vx_runSW (As := [.ref (a 112), .int (xs (4 * j + 1)), .ref (a 113)]) (rest := []) ⟨hx, hb, hml, hown, hts⟩ (mt_L_without l hst D cI cS cL a s st pi mi po ov (xs (4 * j + 1)) h1 _) (vx_cwSW 3 hts (gS tw740 tw738 tw739 tw0) rfl rfl rfl (by decide +kernel) ⟨Nat.le_of_ble_eq_true rfl, Nat.le_of_ble_eq_true rfl⟩) (psO hK hPx hL.1 hKL hEV ((hEH.kept hS.2.1).narrow (fun _ h => h.elim))) rfl rfl hl.1 rfl (lv_room (Nat.le_of_ble_eq_true rfl)) dL_law_1036 hc1) (fun rA u1 H locs hrA hPx hPm hS => ?_)
    subst hrA
    refine lv_istore (lv' := [(5, .int 1), (0, .ref bs), (1, .ref (a 112)), (2, .ref (b 0)), (3, .ref (a 113)), (4, .int (nI (4 * j)))]) hx hb dL_law_1039 hl (by decide) rfl (fun ls hl => ?_)
    refine lv_aload_n hx hb dL_law_1041 rfl (lv_at hl 3 rfl) ?_
    refine lv_aload_n hx hb dL_law_1042 rfl (lv_at hl 1 rfl) ?_
    refine lv_iload hx hb dL_law_1043 (lv_at hl 5 rfl) ?_
    refine lv_iconst (v := 1) hx hb dL_law_1045 (by decide) ?_
    refine lv_iadd hx hb dL_law_1046 ?_
    refine lv_as (y := nI (4 * j + 1)) (nI_add2 (p := 4 * j) (q := 1) rfl rfl) ?_
    refine g_sld hx hb hXs hbl hS (4 * j + 1) rfl (by omega) (by omega) dL_law_1047 ?_
    refine lwM_i hL hS hPx (va_runV (As := [.int (xs (4 * j + 1))]) (rest := []) ⟨hx, hb, hml, hown, hts⟩ (mx_X7_without l D cI cS b s kp hf sc ad (mi 1) (xs (4 * j + 1)) h1 _) (cwV 1 hts (gV tw986 tw983 tw984 tw985 tw8) rfl rfl rfl (by decide +kernel) ⟨Nat.le_of_ble_eq_true rfl, Nat.le_of_ble_eq_true rfl⟩) (pvW 0 hK hPm hEm (by decide) rfl rfl) rfl rfl hl.1 rfl (lv_room (Nat.le_of_ble_eq_true rfl)) dL_law_1048 hc1) (fun rB u2 H locs hrB hPx hPm hS => ?_)
    refine lv_istore (lv' := [(6, .int rB), (5, .int 1), (0, .ref bs), (1, .ref (a 112)), (2, .ref (b 0)), (3, .ref (a 113)), (4, .int (nI (4 * j)))]) hx hb dL_law_1051 hl (by decide) rfl (fun ls hl => ?_)
    refine lv_aload_n hx hb dL_law_1053 rfl (lv_at hl 4 rfl) ?_
    refine ro_i (va_runV (As := []) (rest := []) ⟨hx, hb, hml, hown, hts⟩ (m_X7_thrown l D cI cS b s kp hf (upd (upd sc 3 0) 3 1) ad (mi 1)) (cwV 0 hts (gV tw797 tw794 tw795 tw796 tw8) rfl rfl rfl (by decide +kernel) ⟨Nat.le_of_ble_eq_true rfl, Nat.le_of_ble_eq_true rfl⟩) (pvR 0 hK hPm (by decide) rfl rfl) rfl rfl hl.1 rfl (lv_room (Nat.le_of_ble_eq_true rfl)) dL_law_1054 hc1) (fun r7 hr7 => ?_)
    have hr7 : r7 = 1 := hr7
    subst hr7
    refine lv_iload hx hb dL_law_1057 (lv_at hl 1 rfl) ?_
    refine lv_icmp_eq (tgt := 1064) hx hb dL_law_1059 (by decide) (fun _ => ?_) (fun h0 => absurd (by decide) h0)
    refine lv_iload hx hb dL_law_1064 (lv_at hl 1 rfl) ?_
    refine lv_if_ne (tgt := 1081) hx hb dL_law_1066 (by decide) (fun _ => ?_) (fun h0 => absurd h0 (by decide))
    refine lv_goto (tgt := 1363) hx hb dL_law_1081 (by decide) ?_
    refine W.widen (k := cells + 1) (n := slots + 6) (by omega) (by omega) ?_
    exact kk H locs ls ⟨s, st, pi, mi, po, ov, kp, hf, (upd (upd sc 3 0) 3 1), ad, sz, ln, hPx, hPm, hLI.lk (by omega) hln rfl hl0 rfl rfl rfl hlm⟩ hS (lv_sub hl [2, 3, 4, 5, 6] rfl)

set_option maxHeartbeats 4000000 in
set_option maxRecDepth 100000 in
theorem law_pivot {p : Program} {l : Launch} {e : Env} {z : State} {m : MethodId} {below : List Frame} {meth : Method} {c : Code} {Q : State → Prop} {D : va_G} {cI cS cL : ClassId} {a b : Nat → Nat} {bs L : Nat} {xs : Nat → Int32} {T : Int} {j cells slots : Nat} {H : Heap} {locs : List Loc} {ls : Array Slot} (hC : LF p l z m meth c D cI cS cL a b bs L xs) (hj : 4 * j + 3 < L) (hT : T ≤ 99000000) (h0T : 0 ≤ T) (hc1 : cells + 1 ≤ room_1.cells ∧ slots + 6 ≤ room_1.slots) (hW : LWd D cI cS cL a b T H) (hS : va_S (LA z.heap.size) z.heap H locs) (hl : lv_has ls 9 [(0, .ref bs), (1, .ref (a 112)), (2, .ref (b 0)), (3, .ref (a 113)), (4, .int (nI (4 * j)))])
    (kk : ∀ (H1 : Heap) (locs1 : List Loc) (ls1 : Array Slot), LWd D cI cS cL a b (T + 100000) H1 → va_S (LA z.heap.size) z.heap H1 locs1 → lv_has ls1 9 [(0, .ref bs), (1, .ref (a 112)), (2, .ref (b 0)), (3, .ref (a 113)), (4, .int (nI (4 * j)))] → W p l e room_1 z m #[Value.ref bs] below meth c H1 locs1 (cells + 1) (slots + 6) Q (F0 m 1363 ls1 [])) : W p l e room_1 z m #[Value.ref bs] below meth c H locs cells slots Q (F0 m 1084 ls []) := by
  obtain ⟨hx, hb, hml, hown, hts, hK, hKL, hEV, hEH, hXs, hbl, hL9, hL, hst⟩ := hC
  obtain ⟨s, st, pi, mi, po, ov, kp, hf, sc, ad, sz, ln, hPx, hPm, hLI⟩ := hW
  obtain ⟨hsz, hpi, hpj, hh, hBd, hln, hs0, hl0, hk0, hlm, hkm, hkk⟩ := id hLI
  have hEm := hL.2.1
  have hc0 : cells + 0 ≤ room_1.cells ∧ slots + 0 ≤ room_1.slots := ⟨by omega, by omega⟩
  refine lv_aload_n hx hb dL_law_1084 rfl (lv_at hl 1 rfl) ?_
  refine lwX_i hL hS hPx hPm (va_runV (As := []) (rest := []) ⟨hx, hb, hml, hown, hts⟩ (m_X6_pivot l D cI cS a s st pi mi po  _) (cwV 0 hts (gV tw275 tw272 tw273 tw274 tw1) rfl rfl rfl (by decide +kernel) ⟨Nat.le_of_ble_eq_true rfl, Nat.le_of_ble_eq_true rfl⟩) (pvW' 112 rfl hK hPx (by decide) rfl rfl (exO_s hPx) (DI_s hL.1)) rfl rfl hl.1 rfl (lv_room (Nat.le_of_ble_eq_true rfl)) dL_law_1085 hc0) (fun rA u1 H locs hrA hPx hPm hS => ?_)
  refine lv_aload_n hx hb dL_law_1088 rfl (lv_at hl 2 rfl) ?_
  refine lwM_i hL hS hPx (va_runV (As := []) (rest := [.int rA]) ⟨hx, hb, hml, hown, hts⟩ (m_X7_pivot l D cI cS b s kp hf sc ad (mi 1) T hBd (by omega) _) (cwV 0 hts (gV tw994 tw991 tw992 tw993 tw8) rfl rfl rfl (by decide +kernel) ⟨Nat.le_of_ble_eq_true rfl, Nat.le_of_ble_eq_true rfl⟩) (pvW 0 hK hPm hEm (by decide) rfl rfl) rfl rfl hl.1 rfl (lv_room (Nat.le_of_ble_eq_true rfl)) dL_law_1089 hc0) (fun rB u2 H locs hrB hPx hPm hS => ?_)
  refine lv_icmp_eq (tgt := 1363) hx hb dL_law_1092 (by decide) (fun _ => ?_) (fun h0 => absurd (hrA.trans hrB.symm) h0)
  refine W.widen (k := cells + 1) (n := slots + 6) (by omega) (by omega) ?_
  exact kk H locs ls ⟨s, st, pi, mi, u1, ov, kp, hf, (upd sc 3 0), ad, sz, ln, hPx, hPm, hLI.lk (by omega) hln rfl hl0 rfl rfl rfl hlm⟩ hS (lv_sub hl [0, 1, 2, 3, 4] rfl)

set_option maxHeartbeats 4000000 in
set_option maxRecDepth 100000 in
theorem law_wins {p : Program} {l : Launch} {e : Env} {z : State} {m : MethodId} {below : List Frame} {meth : Method} {c : Code} {Q : State → Prop} {D : va_G} {cI cS cL : ClassId} {a b : Nat → Nat} {bs L : Nat} {xs : Nat → Int32} {T : Int} {j cells slots : Nat} {H : Heap} {locs : List Loc} {ls : Array Slot} (hC : LF p l z m meth c D cI cS cL a b bs L xs) (hj : 4 * j + 3 < L) (hT : T ≤ 99000000) (h0T : 0 ≤ T) (hc1 : cells + 1 ≤ room_1.cells ∧ slots + 6 ≤ room_1.slots) (hW : LWd D cI cS cL a b T H) (hS : va_S (LA z.heap.size) z.heap H locs) (hl : lv_has ls 9 [(0, .ref bs), (1, .ref (a 112)), (2, .ref (b 0)), (3, .ref (a 113)), (4, .int (nI (4 * j)))])
    (kk : ∀ (H1 : Heap) (locs1 : List Loc) (ls1 : Array Slot), LWd D cI cS cL a b (T + 100000) H1 → va_S (LA z.heap.size) z.heap H1 locs1 → lv_has ls1 9 [(0, .ref bs), (1, .ref (a 112)), (2, .ref (b 0)), (3, .ref (a 113)), (4, .int (nI (4 * j)))] → W p l e room_1 z m #[Value.ref bs] below meth c H1 locs1 (cells + 1) (slots + 6) Q (F0 m 1363 ls1 [])) : W p l e room_1 z m #[Value.ref bs] below meth c H locs cells slots Q (F0 m 1097 ls []) := by
  obtain ⟨hx, hb, hml, hown, hts, hK, hKL, hEV, hEH, hXs, hbl, hL9, hL, hst⟩ := hC
  obtain ⟨s, st, pi, mi, po, ov, kp, hf, sc, ad, sz, ln, hPx, hPm, hLI⟩ := hW
  obtain ⟨hsz, hpi, hpj, hh, hBd, hln, hs0, hl0, hk0, hlm, hkm, hkk⟩ := id hLI
  have hEm := hL.2.1
  have hc0 : cells + 0 ≤ room_1.cells ∧ slots + 0 ≤ room_1.slots := ⟨by omega, by omega⟩
  by_cases h1 : witB (xs (4 * j + 1)) 0 6
  · skip
    obtain ⟨d, hd0, hx1⟩ := wit_nat (hi := 6) rfl (by decide) h1
    have hd : d < 7 := by omega
    refine lv_aload_n hx hb dL_law_1097 rfl (lv_at hl 1 rfl) ?_
    refine lv_aload_n hx hb dL_law_1098 rfl (lv_at hl 0 rfl) ?_
    refine lv_iload hx hb dL_law_1099 (lv_at hl 4 rfl) ?_
    refine lv_iconst (v := 1) hx hb dL_law_1101 (by decide) ?_
    refine lv_iadd hx hb dL_law_1102 ?_
    refine lv_as (y := nI (4 * j + 1)) (nI_add2 (p := 4 * j) (q := 1) rfl rfl) ?_
    refine g_sld hx hb hXs hbl hS (4 * j + 1) rfl (by omega) (by omega) dL_law_1103 ?_
    refine lv_as (y := nI d) hx1 ?_
    refine lv_aload_n hx hb dL_law_1104 rfl (lv_at hl 3 rfl) ?_
    refine lwL_i hL hS hPm (vx_runSW (As := [.ref (a 112), .int (nI d), .ref (a 113)]) (rest := []) ⟨hx, hb, hml, hown, hts⟩ (m_L_wins l D cI cS cL a s st pi mi po ov d hd _) (vx_cwSW 3 hts (gS tw744 tw742 tw743 tw0) rfl rfl rfl (by decide +kernel) ⟨Nat.le_of_ble_eq_true rfl, Nat.le_of_ble_eq_true rfl⟩) (psO hK hPx hL.1 hKL hEV ((hEH.kept hS.2.1).narrow (fun _ h => h.elim))) rfl rfl hl.1 rfl (lv_room (Nat.le_of_ble_eq_true rfl)) dL_law_1105 hc0) (fun rA u1 H locs hrA hPx hPm hS => ?_)
    subst hrA
    refine lv_istore (lv' := [(5, .int 0), (0, .ref bs), (1, .ref (a 112)), (2, .ref (b 0)), (3, .ref (a 113)), (4, .int (nI (4 * j)))]) hx hb dL_law_1108 hl (by decide) rfl (fun ls hl => ?_)
    refine lv_aload_n hx hb dL_law_1110 rfl (lv_at hl 3 rfl) ?_
    refine lv_aload_n hx hb dL_law_1111 rfl (lv_at hl 1 rfl) ?_
    refine lv_iload hx hb dL_law_1112 (lv_at hl 5 rfl) ?_
    refine lv_iconst (v := 1) hx hb dL_law_1114 (by decide) ?_
    refine lv_iadd hx hb dL_law_1115 ?_
    refine lv_as (y := nI (4 * j + 1)) (nI_add2 (p := 4 * j) (q := 1) rfl rfl) ?_
    refine g_sld hx hb hXs hbl hS (4 * j + 1) rfl (by omega) (by omega) dL_law_1116 ?_
    refine lv_as (y := nI d) hx1 ?_
    refine lwM_i hL hS hPx (va_runV (As := [.int (nI d)]) (rest := []) ⟨hx, hb, hml, hown, hts⟩ (m_X7_wins l D cI cS b s kp hf sc ad (mi 1) T hBd (by omega) d hd _) (cwV 1 hts (gV tw1002 tw999 tw1000 tw1001 tw8) rfl rfl rfl (by decide +kernel) ⟨Nat.le_of_ble_eq_true rfl, Nat.le_of_ble_eq_true rfl⟩) (pvW 0 hK hPm hEm (by decide) rfl rfl) rfl rfl hl.1 rfl (lv_room (Nat.le_of_ble_eq_true rfl)) dL_law_1117 hc0) (fun rB u2 H locs hrB hPx hPm hS => ?_)
    refine lv_istore (lv' := [(6, .int rB), (5, .int 0), (0, .ref bs), (1, .ref (a 112)), (2, .ref (b 0)), (3, .ref (a 113)), (4, .int (nI (4 * j)))]) hx hb dL_law_1120 hl (by decide) rfl (fun ls hl => ?_)
    refine lv_aload_n hx hb dL_law_1122 rfl (lv_at hl 4 rfl) ?_
    refine ro_i (va_runV (As := []) (rest := []) ⟨hx, hb, hml, hown, hts⟩ (m_X7_thrown l D cI cS b s kp hf (upd sc 3 0) ad (mi 1)) (cwV 0 hts (gV tw797 tw794 tw795 tw796 tw8) rfl rfl rfl (by decide +kernel) ⟨Nat.le_of_ble_eq_true rfl, Nat.le_of_ble_eq_true rfl⟩) (pvR 0 hK hPm (by decide) rfl rfl) rfl rfl hl.1 rfl (lv_room (Nat.le_of_ble_eq_true rfl)) dL_law_1123 hc0) (fun r7 hr7 => ?_)
    have hr7 : r7 = 0 := hr7
    subst hr7
    refine lv_iload hx hb dL_law_1126 (lv_at hl 1 rfl) ?_
    refine lv_icmp_eq (tgt := 1133) hx hb dL_law_1128 (by decide) (fun _ => ?_) (fun h0 => absurd (by decide) h0)
    refine lv_iload hx hb dL_law_1133 (lv_at hl 1 rfl) ?_
    refine lv_if_ne (tgt := 1150) hx hb dL_law_1135 (by decide) (fun h0 => absurd (by decide) h0) (fun _ => ?_)
    refine lv_aload_n hx hb dL_law_1138 rfl (lv_at hl 5 rfl) ?_
    refine lv_iconst (v := 0) hx hb dL_law_1139 (by decide) ?_
    refine g_lald hx hb hKL hPx (v := (winF s d 9 1).toInt64) rfl dL_law_1140 ?_
    refine lv_iload hx hb dL_law_1141 (lv_at hl 0 rfl) ?_
    refine lv_i2l hx hb dL_law_1143 rfl ?_
    refine g_lcmp0 hx hb (by rw [hrB]) dL_law_1144 ?_
    refine lv_if_eq (tgt := 1150) hx hb dL_law_1145 (by decide) (fun _ => ?_) (fun h0 => absurd (by decide) h0)
    refine lv_goto (tgt := 1363) hx hb dL_law_1150 (by decide) ?_
    refine W.widen (k := cells + 1) (n := slots + 6) (by omega) (by omega) ?_
    exact kk H locs ls ⟨s, st, pi, mi, u1, (vp_updL ov 0 (winF s d 9 1).toInt64), kp, hf, (upd sc 3 0), ad, sz, ln, hPx, hPm, hLI.lk (by omega) hln rfl hl0 rfl rfl rfl hlm⟩ hS (lv_sub hl [2, 3, 4, 5, 6] rfl)
  · skip
    refine lv_aload_n hx hb dL_law_1097 rfl (lv_at hl 1 rfl) ?_
    refine lv_aload_n hx hb dL_law_1098 rfl (lv_at hl 0 rfl) ?_
    refine lv_iload hx hb dL_law_1099 (lv_at hl 4 rfl) ?_
    refine lv_iconst (v := 1) hx hb dL_law_1101 (by decide) ?_
    refine lv_iadd hx hb dL_law_1102 ?_
    refine lv_as (y := nI (4 * j + 1)) (nI_add2 (p := 4 * j) (q := 1) rfl rfl) ?_
    refine g_sld hx hb hXs hbl hS (4 * j + 1) rfl (by omega) (by omega) dL_law_1103 ?_
    refine lv_aload_n hx hb dL_law_1104 rfl (lv_at hl 3 rfl) ?_
    refine lwL_i hL hS hPm (vx_runSW (As := [.ref (a 112), .int (xs (4 * j + 1)), .ref (a 113)]) (rest := []) ⟨hx, hb, hml, hown, hts⟩ (mt_L_wins l hst D cI cS cL a s st pi mi po ov (xs (4 * j + 1)) h1 _) (vx_cwSW 3 hts (gS tw744 tw742 tw743 tw0) rfl rfl rfl (by decide +kernel) ⟨Nat.le_of_ble_eq_true rfl, Nat.le_of_ble_eq_true rfl⟩) (psO hK hPx hL.1 hKL hEV ((hEH.kept hS.2.1).narrow (fun _ h => h.elim))) rfl rfl hl.1 rfl (lv_room (Nat.le_of_ble_eq_true rfl)) dL_law_1105 hc1) (fun rA u1 H locs hrA hPx hPm hS => ?_)
    subst hrA
    refine lv_istore (lv' := [(5, .int 1), (0, .ref bs), (1, .ref (a 112)), (2, .ref (b 0)), (3, .ref (a 113)), (4, .int (nI (4 * j)))]) hx hb dL_law_1108 hl (by decide) rfl (fun ls hl => ?_)
    refine lv_aload_n hx hb dL_law_1110 rfl (lv_at hl 3 rfl) ?_
    refine lv_aload_n hx hb dL_law_1111 rfl (lv_at hl 1 rfl) ?_
    refine lv_iload hx hb dL_law_1112 (lv_at hl 5 rfl) ?_
    refine lv_iconst (v := 1) hx hb dL_law_1114 (by decide) ?_
    refine lv_iadd hx hb dL_law_1115 ?_
    refine lv_as (y := nI (4 * j + 1)) (nI_add2 (p := 4 * j) (q := 1) rfl rfl) ?_
    refine g_sld hx hb hXs hbl hS (4 * j + 1) rfl (by omega) (by omega) dL_law_1116 ?_
    refine lwM_i hL hS hPx (va_runV (As := [.int (xs (4 * j + 1))]) (rest := []) ⟨hx, hb, hml, hown, hts⟩ (mx_X7_wins l D cI cS b s kp hf sc ad (mi 1) (xs (4 * j + 1)) h1 _) (cwV 1 hts (gV tw1002 tw999 tw1000 tw1001 tw8) rfl rfl rfl (by decide +kernel) ⟨Nat.le_of_ble_eq_true rfl, Nat.le_of_ble_eq_true rfl⟩) (pvW 0 hK hPm hEm (by decide) rfl rfl) rfl rfl hl.1 rfl (lv_room (Nat.le_of_ble_eq_true rfl)) dL_law_1117 hc1) (fun rB u2 H locs hrB hPx hPm hS => ?_)
    refine lv_istore (lv' := [(6, .int rB), (5, .int 1), (0, .ref bs), (1, .ref (a 112)), (2, .ref (b 0)), (3, .ref (a 113)), (4, .int (nI (4 * j)))]) hx hb dL_law_1120 hl (by decide) rfl (fun ls hl => ?_)
    refine lv_aload_n hx hb dL_law_1122 rfl (lv_at hl 4 rfl) ?_
    refine ro_i (va_runV (As := []) (rest := []) ⟨hx, hb, hml, hown, hts⟩ (m_X7_thrown l D cI cS b s kp hf (upd (upd sc 3 0) 3 1) ad (mi 1)) (cwV 0 hts (gV tw797 tw794 tw795 tw796 tw8) rfl rfl rfl (by decide +kernel) ⟨Nat.le_of_ble_eq_true rfl, Nat.le_of_ble_eq_true rfl⟩) (pvR 0 hK hPm (by decide) rfl rfl) rfl rfl hl.1 rfl (lv_room (Nat.le_of_ble_eq_true rfl)) dL_law_1123 hc1) (fun r7 hr7 => ?_)
    have hr7 : r7 = 1 := hr7
    subst hr7
    refine lv_iload hx hb dL_law_1126 (lv_at hl 1 rfl) ?_
    refine lv_icmp_eq (tgt := 1133) hx hb dL_law_1128 (by decide) (fun _ => ?_) (fun h0 => absurd (by decide) h0)
    refine lv_iload hx hb dL_law_1133 (lv_at hl 1 rfl) ?_
    refine lv_if_ne (tgt := 1150) hx hb dL_law_1135 (by decide) (fun _ => ?_) (fun h0 => absurd h0 (by decide))
    refine lv_goto (tgt := 1363) hx hb dL_law_1150 (by decide) ?_
    refine W.widen (k := cells + 1) (n := slots + 6) (by omega) (by omega) ?_
    exact kk H locs ls ⟨s, st, pi, mi, po, ov, kp, hf, (upd (upd sc 3 0) 3 1), ad, sz, ln, hPx, hPm, hLI.lk (by omega) hln rfl hl0 rfl rfl rfl hlm⟩ hS (lv_sub hl [2, 3, 4, 5, 6] rfl)

set_option maxHeartbeats 4000000 in
set_option maxRecDepth 100000 in
theorem law_quarrelIn {p : Program} {l : Launch} {e : Env} {z : State} {m : MethodId} {below : List Frame} {meth : Method} {c : Code} {Q : State → Prop} {D : va_G} {cI cS cL : ClassId} {a b : Nat → Nat} {bs L : Nat} {xs : Nat → Int32} {T : Int} {j cells slots : Nat} {H : Heap} {locs : List Loc} {ls : Array Slot} (hC : LF p l z m meth c D cI cS cL a b bs L xs) (hj : 4 * j + 3 < L) (hT : T ≤ 99000000) (h0T : 0 ≤ T) (hc1 : cells + 1 ≤ room_1.cells ∧ slots + 6 ≤ room_1.slots) (hW : LWd D cI cS cL a b T H) (hS : va_S (LA z.heap.size) z.heap H locs) (hl : lv_has ls 9 [(0, .ref bs), (1, .ref (a 112)), (2, .ref (b 0)), (3, .ref (a 113)), (4, .int (nI (4 * j)))])
    (kk : ∀ (H1 : Heap) (locs1 : List Loc) (ls1 : Array Slot), LWd D cI cS cL a b (T + 100000) H1 → va_S (LA z.heap.size) z.heap H1 locs1 → lv_has ls1 9 [(0, .ref bs), (1, .ref (a 112)), (2, .ref (b 0)), (3, .ref (a 113)), (4, .int (nI (4 * j)))] → W p l e room_1 z m #[Value.ref bs] below meth c H1 locs1 (cells + 1) (slots + 6) Q (F0 m 1363 ls1 [])) : W p l e room_1 z m #[Value.ref bs] below meth c H locs cells slots Q (F0 m 1153 ls []) := by
  obtain ⟨hx, hb, hml, hown, hts, hK, hKL, hEV, hEH, hXs, hbl, hL9, hL, hst⟩ := hC
  obtain ⟨s, st, pi, mi, po, ov, kp, hf, sc, ad, sz, ln, hPx, hPm, hLI⟩ := hW
  obtain ⟨hsz, hpi, hpj, hh, hBd, hln, hs0, hl0, hk0, hlm, hkm, hkk⟩ := id hLI
  have hEm := hL.2.1
  have hc0 : cells + 0 ≤ room_1.cells ∧ slots + 0 ≤ room_1.slots := ⟨by omega, by omega⟩
  by_cases h1 : witB (xs (4 * j + 1)) 0 6
  · skip
    obtain ⟨d, hd0, hx1⟩ := wit_nat (hi := 6) rfl (by decide) h1
    have hd : d < 7 := by omega
    refine lv_aload_n hx hb dL_law_1153 rfl (lv_at hl 1 rfl) ?_
    refine lv_aload_n hx hb dL_law_1154 rfl (lv_at hl 0 rfl) ?_
    refine lv_iload hx hb dL_law_1155 (lv_at hl 4 rfl) ?_
    refine lv_iconst (v := 1) hx hb dL_law_1157 (by decide) ?_
    refine lv_iadd hx hb dL_law_1158 ?_
    refine lv_as (y := nI (4 * j + 1)) (nI_add2 (p := 4 * j) (q := 1) rfl rfl) ?_
    refine g_sld hx hb hXs hbl hS (4 * j + 1) rfl (by omega) (by omega) dL_law_1159 ?_
    refine lv_as (y := nI d) hx1 ?_
    refine lv_aload_n hx hb dL_law_1160 rfl (lv_at hl 3 rfl) ?_
    refine lwL_i hL hS hPm (vx_runSW (As := [.ref (a 112), .int (nI d), .ref (a 113)]) (rest := []) ⟨hx, hb, hml, hown, hts⟩ (m_L_quarrelIn l D cI cS cL a s st pi mi po ov d hd _) (vx_cwSW 3 hts (gS tw748 tw746 tw747 tw0) rfl rfl rfl (by decide +kernel) ⟨Nat.le_of_ble_eq_true rfl, Nat.le_of_ble_eq_true rfl⟩) (psO hK hPx hL.1 hKL hEV ((hEH.kept hS.2.1).narrow (fun _ h => h.elim))) rfl rfl hl.1 rfl (lv_room (Nat.le_of_ble_eq_true rfl)) dL_law_1161 hc0) (fun rA u1 H locs hrA hPx hPm hS => ?_)
    subst hrA
    refine lv_istore (lv' := [(5, .int 0), (0, .ref bs), (1, .ref (a 112)), (2, .ref (b 0)), (3, .ref (a 113)), (4, .int (nI (4 * j)))]) hx hb dL_law_1164 hl (by decide) rfl (fun ls hl => ?_)
    refine lv_aload_n hx hb dL_law_1166 rfl (lv_at hl 3 rfl) ?_
    refine lv_aload_n hx hb dL_law_1167 rfl (lv_at hl 1 rfl) ?_
    refine lv_iload hx hb dL_law_1168 (lv_at hl 5 rfl) ?_
    refine lv_iconst (v := 1) hx hb dL_law_1170 (by decide) ?_
    refine lv_iadd hx hb dL_law_1171 ?_
    refine lv_as (y := nI (4 * j + 1)) (nI_add2 (p := 4 * j) (q := 1) rfl rfl) ?_
    refine g_sld hx hb hXs hbl hS (4 * j + 1) rfl (by omega) (by omega) dL_law_1172 ?_
    refine lv_as (y := nI d) hx1 ?_
    refine lwM_i hL hS hPx (va_runV (As := [.int (nI d)]) (rest := []) ⟨hx, hb, hml, hown, hts⟩ (m_X7_quarrelIn l D cI cS b s kp hf sc ad (mi 1) T hBd (by omega) d hd _) (cwV 1 hts (gV tw1010 tw1007 tw1008 tw1009 tw8) rfl rfl rfl (by decide +kernel) ⟨Nat.le_of_ble_eq_true rfl, Nat.le_of_ble_eq_true rfl⟩) (pvW 0 hK hPm hEm (by decide) rfl rfl) rfl rfl hl.1 rfl (lv_room (Nat.le_of_ble_eq_true rfl)) dL_law_1173 hc0) (fun rB u2 H locs hrB hPx hPm hS => ?_)
    refine lv_istore (lv' := [(6, .int rB), (5, .int 0), (0, .ref bs), (1, .ref (a 112)), (2, .ref (b 0)), (3, .ref (a 113)), (4, .int (nI (4 * j)))]) hx hb dL_law_1176 hl (by decide) rfl (fun ls hl => ?_)
    refine lv_aload_n hx hb dL_law_1178 rfl (lv_at hl 4 rfl) ?_
    refine ro_i (va_runV (As := []) (rest := []) ⟨hx, hb, hml, hown, hts⟩ (m_X7_thrown l D cI cS b s kp hf (upd sc 3 0) u2 (mi 1)) (cwV 0 hts (gV tw797 tw794 tw795 tw796 tw8) rfl rfl rfl (by decide +kernel) ⟨Nat.le_of_ble_eq_true rfl, Nat.le_of_ble_eq_true rfl⟩) (pvR 0 hK hPm (by decide) rfl rfl) rfl rfl hl.1 rfl (lv_room (Nat.le_of_ble_eq_true rfl)) dL_law_1179 hc0) (fun r7 hr7 => ?_)
    have hr7 : r7 = 0 := hr7
    subst hr7
    refine lv_iload hx hb dL_law_1182 (lv_at hl 1 rfl) ?_
    refine lv_icmp_eq (tgt := 1189) hx hb dL_law_1184 (by decide) (fun _ => ?_) (fun h0 => absurd (by decide) h0)
    refine lv_iload hx hb dL_law_1189 (lv_at hl 1 rfl) ?_
    refine lv_if_ne (tgt := 1206) hx hb dL_law_1191 (by decide) (fun h0 => absurd (by decide) h0) (fun _ => ?_)
    refine lv_aload_n hx hb dL_law_1194 rfl (lv_at hl 5 rfl) ?_
    refine lv_iconst (v := 0) hx hb dL_law_1195 (by decide) ?_
    refine g_lald hx hb hKL hPx (v := (qF s d (behN d) 201 0 (s 1 d) (s 1 (behN d))).toInt64) rfl dL_law_1196 ?_
    refine lv_iload hx hb dL_law_1197 (lv_at hl 0 rfl) ?_
    refine lv_i2l hx hb dL_law_1199 rfl ?_
    refine g_lcmp0 hx hb (by rw [hrB]) dL_law_1200 ?_
    refine lv_if_eq (tgt := 1206) hx hb dL_law_1201 (by decide) (fun _ => ?_) (fun h0 => absurd (by decide) h0)
    refine lv_goto (tgt := 1363) hx hb dL_law_1206 (by decide) ?_
    refine W.widen (k := cells + 1) (n := slots + 6) (by omega) (by omega) ?_
    exact kk H locs ls ⟨s, st, pi, mi, po, (vp_updL ov 0 (qF s d (behN d) 201 0 (s 1 d) (s 1 (behN d))).toInt64), kp, hf, (upd sc 3 0), u2, sz, ln, hPx, hPm, hLI.lk (by omega) hln rfl hl0 rfl rfl rfl hlm⟩ hS (lv_sub hl [2, 3, 4, 5, 6] rfl)
  · skip
    refine lv_aload_n hx hb dL_law_1153 rfl (lv_at hl 1 rfl) ?_
    refine lv_aload_n hx hb dL_law_1154 rfl (lv_at hl 0 rfl) ?_
    refine lv_iload hx hb dL_law_1155 (lv_at hl 4 rfl) ?_
    refine lv_iconst (v := 1) hx hb dL_law_1157 (by decide) ?_
    refine lv_iadd hx hb dL_law_1158 ?_
    refine lv_as (y := nI (4 * j + 1)) (nI_add2 (p := 4 * j) (q := 1) rfl rfl) ?_
    refine g_sld hx hb hXs hbl hS (4 * j + 1) rfl (by omega) (by omega) dL_law_1159 ?_
    refine lv_aload_n hx hb dL_law_1160 rfl (lv_at hl 3 rfl) ?_
    refine lwL_i hL hS hPm (vx_runSW (As := [.ref (a 112), .int (xs (4 * j + 1)), .ref (a 113)]) (rest := []) ⟨hx, hb, hml, hown, hts⟩ (mt_L_quarrelIn l hst D cI cS cL a s st pi mi po ov (xs (4 * j + 1)) h1 _) (vx_cwSW 3 hts (gS tw748 tw746 tw747 tw0) rfl rfl rfl (by decide +kernel) ⟨Nat.le_of_ble_eq_true rfl, Nat.le_of_ble_eq_true rfl⟩) (psO hK hPx hL.1 hKL hEV ((hEH.kept hS.2.1).narrow (fun _ h => h.elim))) rfl rfl hl.1 rfl (lv_room (Nat.le_of_ble_eq_true rfl)) dL_law_1161 hc1) (fun rA u1 H locs hrA hPx hPm hS => ?_)
    subst hrA
    refine lv_istore (lv' := [(5, .int 1), (0, .ref bs), (1, .ref (a 112)), (2, .ref (b 0)), (3, .ref (a 113)), (4, .int (nI (4 * j)))]) hx hb dL_law_1164 hl (by decide) rfl (fun ls hl => ?_)
    refine lv_aload_n hx hb dL_law_1166 rfl (lv_at hl 3 rfl) ?_
    refine lv_aload_n hx hb dL_law_1167 rfl (lv_at hl 1 rfl) ?_
    refine lv_iload hx hb dL_law_1168 (lv_at hl 5 rfl) ?_
    refine lv_iconst (v := 1) hx hb dL_law_1170 (by decide) ?_
    refine lv_iadd hx hb dL_law_1171 ?_
    refine lv_as (y := nI (4 * j + 1)) (nI_add2 (p := 4 * j) (q := 1) rfl rfl) ?_
    refine g_sld hx hb hXs hbl hS (4 * j + 1) rfl (by omega) (by omega) dL_law_1172 ?_
    refine lwM_i hL hS hPx (va_runV (As := [.int (xs (4 * j + 1))]) (rest := []) ⟨hx, hb, hml, hown, hts⟩ (mx_X7_quarrelIn l D cI cS b s kp hf sc ad (mi 1) (xs (4 * j + 1)) h1 _) (cwV 1 hts (gV tw1010 tw1007 tw1008 tw1009 tw8) rfl rfl rfl (by decide +kernel) ⟨Nat.le_of_ble_eq_true rfl, Nat.le_of_ble_eq_true rfl⟩) (pvW 0 hK hPm hEm (by decide) rfl rfl) rfl rfl hl.1 rfl (lv_room (Nat.le_of_ble_eq_true rfl)) dL_law_1173 hc1) (fun rB u2 H locs hrB hPx hPm hS => ?_)
    refine lv_istore (lv' := [(6, .int rB), (5, .int 1), (0, .ref bs), (1, .ref (a 112)), (2, .ref (b 0)), (3, .ref (a 113)), (4, .int (nI (4 * j)))]) hx hb dL_law_1176 hl (by decide) rfl (fun ls hl => ?_)
    refine lv_aload_n hx hb dL_law_1178 rfl (lv_at hl 4 rfl) ?_
    refine ro_i (va_runV (As := []) (rest := []) ⟨hx, hb, hml, hown, hts⟩ (m_X7_thrown l D cI cS b s kp hf (upd (upd sc 3 0) 3 1) ad (mi 1)) (cwV 0 hts (gV tw797 tw794 tw795 tw796 tw8) rfl rfl rfl (by decide +kernel) ⟨Nat.le_of_ble_eq_true rfl, Nat.le_of_ble_eq_true rfl⟩) (pvR 0 hK hPm (by decide) rfl rfl) rfl rfl hl.1 rfl (lv_room (Nat.le_of_ble_eq_true rfl)) dL_law_1179 hc1) (fun r7 hr7 => ?_)
    have hr7 : r7 = 1 := hr7
    subst hr7
    refine lv_iload hx hb dL_law_1182 (lv_at hl 1 rfl) ?_
    refine lv_icmp_eq (tgt := 1189) hx hb dL_law_1184 (by decide) (fun _ => ?_) (fun h0 => absurd (by decide) h0)
    refine lv_iload hx hb dL_law_1189 (lv_at hl 1 rfl) ?_
    refine lv_if_ne (tgt := 1206) hx hb dL_law_1191 (by decide) (fun _ => ?_) (fun h0 => absurd h0 (by decide))
    refine lv_goto (tgt := 1363) hx hb dL_law_1206 (by decide) ?_
    refine W.widen (k := cells + 1) (n := slots + 6) (by omega) (by omega) ?_
    exact kk H locs ls ⟨s, st, pi, mi, po, ov, kp, hf, (upd (upd sc 3 0) 3 1), ad, sz, ln, hPx, hPm, hLI.lk (by omega) hln rfl hl0 rfl rfl rfl hlm⟩ hS (lv_sub hl [2, 3, 4, 5, 6] rfl)

set_option maxHeartbeats 4000000 in
set_option maxRecDepth 100000 in
theorem law_ringsIn {p : Program} {l : Launch} {e : Env} {z : State} {m : MethodId} {below : List Frame} {meth : Method} {c : Code} {Q : State → Prop} {D : va_G} {cI cS cL : ClassId} {a b : Nat → Nat} {bs L : Nat} {xs : Nat → Int32} {T : Int} {j cells slots : Nat} {H : Heap} {locs : List Loc} {ls : Array Slot} (hC : LF p l z m meth c D cI cS cL a b bs L xs) (hj : 4 * j + 3 < L) (hT : T ≤ 99000000) (h0T : 0 ≤ T) (hc1 : cells + 1 ≤ room_1.cells ∧ slots + 6 ≤ room_1.slots) (hW : LWd D cI cS cL a b T H) (hS : va_S (LA z.heap.size) z.heap H locs) (hl : lv_has ls 9 [(0, .ref bs), (1, .ref (a 112)), (2, .ref (b 0)), (3, .ref (a 113)), (4, .int (nI (4 * j)))])
    (kk : ∀ (H1 : Heap) (locs1 : List Loc) (ls1 : Array Slot), LWd D cI cS cL a b (T + 100000) H1 → va_S (LA z.heap.size) z.heap H1 locs1 → lv_has ls1 9 [(0, .ref bs), (1, .ref (a 112)), (2, .ref (b 0)), (3, .ref (a 113)), (4, .int (nI (4 * j)))] → W p l e room_1 z m #[Value.ref bs] below meth c H1 locs1 (cells + 1) (slots + 6) Q (F0 m 1363 ls1 [])) : W p l e room_1 z m #[Value.ref bs] below meth c H locs cells slots Q (F0 m 1209 ls []) := by
  obtain ⟨hx, hb, hml, hown, hts, hK, hKL, hEV, hEH, hXs, hbl, hL9, hL, hst⟩ := hC
  obtain ⟨s, st, pi, mi, po, ov, kp, hf, sc, ad, sz, ln, hPx, hPm, hLI⟩ := hW
  obtain ⟨hsz, hpi, hpj, hh, hBd, hln, hs0, hl0, hk0, hlm, hkm, hkk⟩ := id hLI
  have hEm := hL.2.1
  have hc0 : cells + 0 ≤ room_1.cells ∧ slots + 0 ≤ room_1.slots := ⟨by omega, by omega⟩
  by_cases h1 : witB (xs (4 * j + 1)) 0 6
  · skip
    obtain ⟨d, hd0, hx1⟩ := wit_nat (hi := 6) rfl (by decide) h1
    have hd : d < 7 := by omega
    refine lv_aload_n hx hb dL_law_1209 rfl (lv_at hl 1 rfl) ?_
    refine lv_aload_n hx hb dL_law_1210 rfl (lv_at hl 0 rfl) ?_
    refine lv_iload hx hb dL_law_1211 (lv_at hl 4 rfl) ?_
    refine lv_iconst (v := 1) hx hb dL_law_1213 (by decide) ?_
    refine lv_iadd hx hb dL_law_1214 ?_
    refine lv_as (y := nI (4 * j + 1)) (nI_add2 (p := 4 * j) (q := 1) rfl rfl) ?_
    refine g_sld hx hb hXs hbl hS (4 * j + 1) rfl (by omega) (by omega) dL_law_1215 ?_
    refine lv_as (y := nI d) hx1 ?_
    refine lv_aload_n hx hb dL_law_1216 rfl (lv_at hl 3 rfl) ?_
    refine lwL_i hL hS hPm (vx_runSW (As := [.ref (a 112), .int (nI d), .ref (a 113)]) (rest := []) ⟨hx, hb, hml, hown, hts⟩ (m_L_ringsIn l D cI cS cL a s st pi mi po ov d hd _) (vx_cwSW 3 hts (gS tw752 tw750 tw751 tw0) rfl rfl rfl (by decide +kernel) ⟨Nat.le_of_ble_eq_true rfl, Nat.le_of_ble_eq_true rfl⟩) (psO hK hPx hL.1 hKL hEV ((hEH.kept hS.2.1).narrow (fun _ h => h.elim))) rfl rfl hl.1 rfl (lv_room (Nat.le_of_ble_eq_true rfl)) dL_law_1217 hc0) (fun rA u1 H locs hrA hPx hPm hS => ?_)
    subst hrA
    refine lv_istore (lv' := [(5, .int 0), (0, .ref bs), (1, .ref (a 112)), (2, .ref (b 0)), (3, .ref (a 113)), (4, .int (nI (4 * j)))]) hx hb dL_law_1220 hl (by decide) rfl (fun ls hl => ?_)
    refine lv_aload_n hx hb dL_law_1222 rfl (lv_at hl 3 rfl) ?_
    refine lv_aload_n hx hb dL_law_1223 rfl (lv_at hl 1 rfl) ?_
    refine lv_iload hx hb dL_law_1224 (lv_at hl 5 rfl) ?_
    refine lv_iconst (v := 1) hx hb dL_law_1226 (by decide) ?_
    refine lv_iadd hx hb dL_law_1227 ?_
    refine lv_as (y := nI (4 * j + 1)) (nI_add2 (p := 4 * j) (q := 1) rfl rfl) ?_
    refine g_sld hx hb hXs hbl hS (4 * j + 1) rfl (by omega) (by omega) dL_law_1228 ?_
    refine lv_as (y := nI d) hx1 ?_
    refine lwM_i hL hS hPx (va_runV (As := [.int (nI d)]) (rest := []) ⟨hx, hb, hml, hown, hts⟩ (m_X7_ringsIn l D cI cS b s kp hf sc ad (mi 1) T hBd (by omega) d hd _) (cwV 1 hts (gV tw1026 tw1023 tw1024 tw1025 tw8) rfl rfl rfl (by decide +kernel) ⟨Nat.le_of_ble_eq_true rfl, Nat.le_of_ble_eq_true rfl⟩) (pvW 0 hK hPm hEm (by decide) rfl rfl) rfl rfl hl.1 rfl (lv_room (Nat.le_of_ble_eq_true rfl)) dL_law_1229 hc0) (fun rB u2 H locs hrB hPx hPm hS => ?_)
    refine lv_istore (lv' := [(6, .int rB), (5, .int 0), (0, .ref bs), (1, .ref (a 112)), (2, .ref (b 0)), (3, .ref (a 113)), (4, .int (nI (4 * j)))]) hx hb dL_law_1232 hl (by decide) rfl (fun ls hl => ?_)
    refine lv_aload_n hx hb dL_law_1234 rfl (lv_at hl 4 rfl) ?_
    refine ro_i (va_runV (As := []) (rest := []) ⟨hx, hb, hml, hown, hts⟩ (m_X7_thrown l D cI cS b s kp hf (upd sc 3 0) ad (mi 1)) (cwV 0 hts (gV tw797 tw794 tw795 tw796 tw8) rfl rfl rfl (by decide +kernel) ⟨Nat.le_of_ble_eq_true rfl, Nat.le_of_ble_eq_true rfl⟩) (pvR 0 hK hPm (by decide) rfl rfl) rfl rfl hl.1 rfl (lv_room (Nat.le_of_ble_eq_true rfl)) dL_law_1235 hc0) (fun r7 hr7 => ?_)
    have hr7 : r7 = 0 := hr7
    subst hr7
    refine lv_iload hx hb dL_law_1238 (lv_at hl 1 rfl) ?_
    refine lv_icmp_eq (tgt := 1245) hx hb dL_law_1240 (by decide) (fun _ => ?_) (fun h0 => absurd (by decide) h0)
    refine lv_iload hx hb dL_law_1245 (lv_at hl 1 rfl) ?_
    refine lv_if_ne (tgt := 1262) hx hb dL_law_1247 (by decide) (fun h0 => absurd (by decide) h0) (fun _ => ?_)
    refine lv_aload_n hx hb dL_law_1250 rfl (lv_at hl 5 rfl) ?_
    refine lv_iconst (v := 0) hx hb dL_law_1251 (by decide) ?_
    refine g_lald hx hb hKL hPx (v := (ringF s d (s 1 d / 60) 200 1 (s 1 d)).toInt64) rfl dL_law_1252 ?_
    refine lv_iload hx hb dL_law_1253 (lv_at hl 0 rfl) ?_
    refine lv_i2l hx hb dL_law_1255 rfl ?_
    refine g_lcmp0 hx hb (by rw [hrB]) dL_law_1256 ?_
    refine lv_if_eq (tgt := 1262) hx hb dL_law_1257 (by decide) (fun _ => ?_) (fun h0 => absurd (by decide) h0)
    refine lv_goto (tgt := 1363) hx hb dL_law_1262 (by decide) ?_
    refine W.widen (k := cells + 1) (n := slots + 6) (by omega) (by omega) ?_
    exact kk H locs ls ⟨s, st, pi, mi, po, (vp_updL ov 0 (ringF s d (s 1 d / 60) 200 1 (s 1 d)).toInt64), kp, hf, (upd sc 3 0), ad, sz, ln, hPx, hPm, hLI.lk (by omega) hln rfl hl0 rfl rfl rfl hlm⟩ hS (lv_sub hl [2, 3, 4, 5, 6] rfl)
  · skip
    refine lv_aload_n hx hb dL_law_1209 rfl (lv_at hl 1 rfl) ?_
    refine lv_aload_n hx hb dL_law_1210 rfl (lv_at hl 0 rfl) ?_
    refine lv_iload hx hb dL_law_1211 (lv_at hl 4 rfl) ?_
    refine lv_iconst (v := 1) hx hb dL_law_1213 (by decide) ?_
    refine lv_iadd hx hb dL_law_1214 ?_
    refine lv_as (y := nI (4 * j + 1)) (nI_add2 (p := 4 * j) (q := 1) rfl rfl) ?_
    refine g_sld hx hb hXs hbl hS (4 * j + 1) rfl (by omega) (by omega) dL_law_1215 ?_
    refine lv_aload_n hx hb dL_law_1216 rfl (lv_at hl 3 rfl) ?_
    refine lwL_i hL hS hPm (vx_runSW (As := [.ref (a 112), .int (xs (4 * j + 1)), .ref (a 113)]) (rest := []) ⟨hx, hb, hml, hown, hts⟩ (mt_L_ringsIn l hst D cI cS cL a s st pi mi po ov (xs (4 * j + 1)) h1 _) (vx_cwSW 3 hts (gS tw752 tw750 tw751 tw0) rfl rfl rfl (by decide +kernel) ⟨Nat.le_of_ble_eq_true rfl, Nat.le_of_ble_eq_true rfl⟩) (psO hK hPx hL.1 hKL hEV ((hEH.kept hS.2.1).narrow (fun _ h => h.elim))) rfl rfl hl.1 rfl (lv_room (Nat.le_of_ble_eq_true rfl)) dL_law_1217 hc1) (fun rA u1 H locs hrA hPx hPm hS => ?_)
    subst hrA
    refine lv_istore (lv' := [(5, .int 1), (0, .ref bs), (1, .ref (a 112)), (2, .ref (b 0)), (3, .ref (a 113)), (4, .int (nI (4 * j)))]) hx hb dL_law_1220 hl (by decide) rfl (fun ls hl => ?_)
    refine lv_aload_n hx hb dL_law_1222 rfl (lv_at hl 3 rfl) ?_
    refine lv_aload_n hx hb dL_law_1223 rfl (lv_at hl 1 rfl) ?_
    refine lv_iload hx hb dL_law_1224 (lv_at hl 5 rfl) ?_
    refine lv_iconst (v := 1) hx hb dL_law_1226 (by decide) ?_
    refine lv_iadd hx hb dL_law_1227 ?_
    refine lv_as (y := nI (4 * j + 1)) (nI_add2 (p := 4 * j) (q := 1) rfl rfl) ?_
    refine g_sld hx hb hXs hbl hS (4 * j + 1) rfl (by omega) (by omega) dL_law_1228 ?_
    refine lwM_i hL hS hPx (va_runV (As := [.int (xs (4 * j + 1))]) (rest := []) ⟨hx, hb, hml, hown, hts⟩ (mx_X7_ringsIn l D cI cS b s kp hf sc ad (mi 1) (xs (4 * j + 1)) h1 _) (cwV 1 hts (gV tw1026 tw1023 tw1024 tw1025 tw8) rfl rfl rfl (by decide +kernel) ⟨Nat.le_of_ble_eq_true rfl, Nat.le_of_ble_eq_true rfl⟩) (pvW 0 hK hPm hEm (by decide) rfl rfl) rfl rfl hl.1 rfl (lv_room (Nat.le_of_ble_eq_true rfl)) dL_law_1229 hc1) (fun rB u2 H locs hrB hPx hPm hS => ?_)
    refine lv_istore (lv' := [(6, .int rB), (5, .int 1), (0, .ref bs), (1, .ref (a 112)), (2, .ref (b 0)), (3, .ref (a 113)), (4, .int (nI (4 * j)))]) hx hb dL_law_1232 hl (by decide) rfl (fun ls hl => ?_)
    refine lv_aload_n hx hb dL_law_1234 rfl (lv_at hl 4 rfl) ?_
    refine ro_i (va_runV (As := []) (rest := []) ⟨hx, hb, hml, hown, hts⟩ (m_X7_thrown l D cI cS b s kp hf (upd (upd sc 3 0) 3 1) ad (mi 1)) (cwV 0 hts (gV tw797 tw794 tw795 tw796 tw8) rfl rfl rfl (by decide +kernel) ⟨Nat.le_of_ble_eq_true rfl, Nat.le_of_ble_eq_true rfl⟩) (pvR 0 hK hPm (by decide) rfl rfl) rfl rfl hl.1 rfl (lv_room (Nat.le_of_ble_eq_true rfl)) dL_law_1235 hc1) (fun r7 hr7 => ?_)
    have hr7 : r7 = 1 := hr7
    subst hr7
    refine lv_iload hx hb dL_law_1238 (lv_at hl 1 rfl) ?_
    refine lv_icmp_eq (tgt := 1245) hx hb dL_law_1240 (by decide) (fun _ => ?_) (fun h0 => absurd (by decide) h0)
    refine lv_iload hx hb dL_law_1245 (lv_at hl 1 rfl) ?_
    refine lv_if_ne (tgt := 1262) hx hb dL_law_1247 (by decide) (fun _ => ?_) (fun h0 => absurd h0 (by decide))
    refine lv_goto (tgt := 1363) hx hb dL_law_1262 (by decide) ?_
    refine W.widen (k := cells + 1) (n := slots + 6) (by omega) (by omega) ?_
    exact kk H locs ls ⟨s, st, pi, mi, po, ov, kp, hf, (upd (upd sc 3 0) 3 1), ad, sz, ln, hPx, hPm, hLI.lk (by omega) hln rfl hl0 rfl rfl rfl hlm⟩ hS (lv_sub hl [2, 3, 4, 5, 6] rfl)

set_option maxHeartbeats 4000000 in
set_option maxRecDepth 100000 in
theorem law_heldShare {p : Program} {l : Launch} {e : Env} {z : State} {m : MethodId} {below : List Frame} {meth : Method} {c : Code} {Q : State → Prop} {D : va_G} {cI cS cL : ClassId} {a b : Nat → Nat} {bs L : Nat} {xs : Nat → Int32} {T : Int} {j cells slots : Nat} {H : Heap} {locs : List Loc} {ls : Array Slot} (hC : LF p l z m meth c D cI cS cL a b bs L xs) (hj : 4 * j + 3 < L) (hT : T ≤ 99000000) (h0T : 0 ≤ T) (hc1 : cells + 1 ≤ room_1.cells ∧ slots + 6 ≤ room_1.slots) (hW : LWd D cI cS cL a b T H) (hS : va_S (LA z.heap.size) z.heap H locs) (hl : lv_has ls 9 [(0, .ref bs), (1, .ref (a 112)), (2, .ref (b 0)), (3, .ref (a 113)), (4, .int (nI (4 * j)))])
    (kk : ∀ (H1 : Heap) (locs1 : List Loc) (ls1 : Array Slot), LWd D cI cS cL a b (T + 100000) H1 → va_S (LA z.heap.size) z.heap H1 locs1 → lv_has ls1 9 [(0, .ref bs), (1, .ref (a 112)), (2, .ref (b 0)), (3, .ref (a 113)), (4, .int (nI (4 * j)))] → W p l e room_1 z m #[Value.ref bs] below meth c H1 locs1 (cells + 1) (slots + 6) Q (F0 m 1363 ls1 [])) : W p l e room_1 z m #[Value.ref bs] below meth c H locs cells slots Q (F0 m 1265 ls []) := by
  obtain ⟨hx, hb, hml, hown, hts, hK, hKL, hEV, hEH, hXs, hbl, hL9, hL, hst⟩ := hC
  obtain ⟨s, st, pi, mi, po, ov, kp, hf, sc, ad, sz, ln, hPx, hPm, hLI⟩ := hW
  obtain ⟨hsz, hpi, hpj, hh, hBd, hln, hs0, hl0, hk0, hlm, hkm, hkk⟩ := id hLI
  have hEm := hL.2.1
  have hc0 : cells + 0 ≤ room_1.cells ∧ slots + 0 ≤ room_1.slots := ⟨by omega, by omega⟩
  refine lv_aload_n hx hb dL_law_1265 rfl (lv_at hl 1 rfl) ?_
  refine ro_d (va_runV (As := []) (rest := []) ⟨hx, hb, hml, hown, hts⟩ (m_X6_heldShare l D cI cS a s st pi mi po ((hBd.2.2.2 3 (by decide) (by decide)).1) ((hBd.2.2.2 2 (by decide) (by decide)).1)) (cwV 0 hts (gV tw312 tw309 tw310 tw311 tw1) rfl rfl rfl (by decide +kernel) ⟨Nat.le_of_ble_eq_true rfl, Nat.le_of_ble_eq_true rfl⟩) (pvR' 112 rfl hK hPx (by decide) rfl rfl (exO_s hPx)) rfl rfl hl.1 rfl (lv_room (Nat.le_of_ble_eq_true rfl)) dL_law_1266 hc0) (fun rA hrA => ?_)
  subst hrA
  refine lv_dstore (lv' := [(5, .double (shareD s)), (0, .ref bs), (1, .ref (a 112)), (2, .ref (b 0)), (3, .ref (a 113)), (4, .int (nI (4 * j)))]) hx hb dL_law_1269 hl (by decide) rfl (fun ls hl => ?_)
  refine lv_aload_n hx hb dL_law_1271 rfl (lv_at hl 3 rfl) ?_
  refine lwM_d hL hS hPx (va_runV (As := []) (rest := []) ⟨hx, hb, hml, hown, hts⟩ (m_X7_heldShare l D cI cS b s kp hf sc ad (mi 1) T hBd (by omega) _) (cwV 0 hts (gV tw1034 tw1031 tw1032 tw1033 tw8) rfl rfl rfl (by decide +kernel) ⟨Nat.le_of_ble_eq_true rfl, Nat.le_of_ble_eq_true rfl⟩) (pvW 0 hK hPm hEm (by decide) rfl rfl) rfl rfl hl.1 rfl (lv_room (Nat.le_of_ble_eq_true rfl)) dL_law_1272 hc0) (fun rB u2 H locs hrB hPx hPm hS => ?_)
  subst hrB
  refine lv_dstore (lv' := [(7, .double (shareD s)), (5, .double (shareD s)), (0, .ref bs), (1, .ref (a 112)), (2, .ref (b 0)), (3, .ref (a 113)), (4, .int (nI (4 * j)))]) hx hb dL_law_1275 hl (by decide) rfl (fun ls hl => ?_)
  refine lv_dload hx hb dL_law_1277 (lv_at hl 1 rfl) ?_
  refine lv_dload hx hb dL_law_1279 (lv_at hl 0 rfl) ?_
  refine lv_dcmp hx hb dL_law_1281 ?_
  refine lv_as (y := 0) (dcmp_s (sh_dOk hBd)) ?_
  refine lv_if_eq (tgt := 1303) hx hb dL_law_1282 (by decide) (fun _ => ?_) (fun h0 => absurd (by decide) h0)
  refine lv_goto (tgt := 1363) hx hb dL_law_1303 (by decide) ?_
  refine W.widen (k := cells + 1) (n := slots + 6) (by omega) (by omega) ?_
  exact kk H locs ls ⟨s, st, pi, mi, po, ov, kp, hf, (upd sc 3 0), ad, sz, ln, hPx, hPm, hLI.lk (by omega) hln rfl hl0 rfl rfl rfl hlm⟩ hS (lv_sub hl [2, 3, 4, 5, 6] rfl)

set_option maxHeartbeats 4000000 in
set_option maxRecDepth 100000 in
theorem law_meanError {p : Program} {l : Launch} {e : Env} {z : State} {m : MethodId} {below : List Frame} {meth : Method} {c : Code} {Q : State → Prop} {D : va_G} {cI cS cL : ClassId} {a b : Nat → Nat} {bs L : Nat} {xs : Nat → Int32} {T : Int} {j cells slots : Nat} {H : Heap} {locs : List Loc} {ls : Array Slot} (hC : LF p l z m meth c D cI cS cL a b bs L xs) (hj : 4 * j + 3 < L) (hT : T ≤ 99000000) (h0T : 0 ≤ T) (hc1 : cells + 1 ≤ room_1.cells ∧ slots + 6 ≤ room_1.slots) (hW : LWd D cI cS cL a b T H) (hS : va_S (LA z.heap.size) z.heap H locs) (hl : lv_has ls 9 [(0, .ref bs), (1, .ref (a 112)), (2, .ref (b 0)), (3, .ref (a 113)), (4, .int (nI (4 * j)))])
    (kk : ∀ (H1 : Heap) (locs1 : List Loc) (ls1 : Array Slot), LWd D cI cS cL a b (T + 100000) H1 → va_S (LA z.heap.size) z.heap H1 locs1 → lv_has ls1 9 [(0, .ref bs), (1, .ref (a 112)), (2, .ref (b 0)), (3, .ref (a 113)), (4, .int (nI (4 * j)))] → W p l e room_1 z m #[Value.ref bs] below meth c H1 locs1 (cells + 1) (slots + 6) Q (F0 m 1363 ls1 [])) : W p l e room_1 z m #[Value.ref bs] below meth c H locs cells slots Q (F0 m 1306 ls []) := by
  obtain ⟨hx, hb, hml, hown, hts, hK, hKL, hEV, hEH, hXs, hbl, hL9, hL, hst⟩ := hC
  obtain ⟨s, st, pi, mi, po, ov, kp, hf, sc, ad, sz, ln, hPx, hPm, hLI⟩ := hW
  obtain ⟨hsz, hpi, hpj, hh, hBd, hln, hs0, hl0, hk0, hlm, hkm, hkk⟩ := id hLI
  have hEm := hL.2.1
  have hc0 : cells + 0 ≤ room_1.cells ∧ slots + 0 ≤ room_1.slots := ⟨by omega, by omega⟩
  refine lv_aload_n hx hb dL_law_1306 rfl (lv_at hl 1 rfl) ?_
  refine ro_f (va_runV (As := []) (rest := []) ⟨hx, hb, hml, hown, hts⟩ (m_X6_meanError l D cI cS a s st pi mi po ((errC_ok hBd (by omega) 7 (by omega)).1)) (cwV 0 hts (gV tw316 tw313 tw314 tw315 tw1) rfl rfl rfl (by decide +kernel) ⟨Nat.le_of_ble_eq_true rfl, Nat.le_of_ble_eq_true rfl⟩) (pvR' 112 rfl hK hPx (by decide) rfl rfl (exO_s hPx)) rfl rfl hl.1 rfl (lv_room (Nat.le_of_ble_eq_true rfl)) dL_law_1307 hc0) (fun rA hrA => ?_)
  subst hrA
  refine lv_f2d hx hb dL_law_1310 (f_f2d (f_mean (errC_ok hBd (by omega) 7 (by omega)).1)).vf ?_
  refine lv_dstore (lv' := [(5, .double (FP.f2d (meanF s))), (0, .ref bs), (1, .ref (a 112)), (2, .ref (b 0)), (3, .ref (a 113)), (4, .int (nI (4 * j)))]) hx hb dL_law_1311 hl (by decide) rfl (fun ls hl => ?_)
  refine lv_aload_n hx hb dL_law_1313 rfl (lv_at hl 3 rfl) ?_
  refine lwM_f hL hS hPx (va_runV (As := []) (rest := []) ⟨hx, hb, hml, hown, hts⟩ (m_X7_meanError l D cI cS b s kp hf sc ad (mi 1) T hBd (by omega) _) (cwV 0 hts (gV tw1042 tw1039 tw1040 tw1041 tw8) rfl rfl rfl (by decide +kernel) ⟨Nat.le_of_ble_eq_true rfl, Nat.le_of_ble_eq_true rfl⟩) (pvW 0 hK hPm hEm (by decide) rfl rfl) rfl rfl hl.1 rfl (lv_room (Nat.le_of_ble_eq_true rfl)) dL_law_1314 hc0) (fun rB u2 H locs hrB hPx hPm hS => ?_)
  subst hrB
  refine lv_f2d hx hb dL_law_1317 (f_f2d (f_mean (errC_ok hBd (by omega) 7 (by omega)).1)).vf ?_
  refine lv_dstore (lv' := [(7, .double (FP.f2d (meanF s))), (5, .double (FP.f2d (meanF s))), (0, .ref bs), (1, .ref (a 112)), (2, .ref (b 0)), (3, .ref (a 113)), (4, .int (nI (4 * j)))]) hx hb dL_law_1318 hl (by decide) rfl (fun ls hl => ?_)
  refine lv_dload hx hb dL_law_1320 (lv_at hl 1 rfl) ?_
  refine lv_dload hx hb dL_law_1322 (lv_at hl 0 rfl) ?_
  refine lv_dcmp hx hb dL_law_1324 ?_
  refine lv_as (y := 0) (dcmp_s (f_f2d (f_mean (errC_ok hBd (by omega) 7 (by omega)).1))) ?_
  refine lv_if_eq (tgt := 1346) hx hb dL_law_1325 (by decide) (fun _ => ?_) (fun h0 => absurd (by decide) h0)
  refine lv_goto (tgt := 1363) hx hb dL_law_1346 (by decide) ?_
  refine W.widen (k := cells + 1) (n := slots + 6) (by omega) (by omega) ?_
  exact kk H locs ls ⟨s, st, pi, mi, po, ov, kp, hf, (upd sc 3 0), ad, sz, ln, hPx, hPm, hLI.lk (by omega) hln rfl hl0 rfl rfl rfl hlm⟩ hS (lv_sub hl [2, 3, 4, 5, 6] rfl)

set_option maxHeartbeats 4000000 in
set_option maxRecDepth 100000 in
theorem law_digest {p : Program} {l : Launch} {e : Env} {z : State} {m : MethodId} {below : List Frame} {meth : Method} {c : Code} {Q : State → Prop} {D : va_G} {cI cS cL : ClassId} {a b : Nat → Nat} {bs L : Nat} {xs : Nat → Int32} {T : Int} {j cells slots : Nat} {H : Heap} {locs : List Loc} {ls : Array Slot} (hC : LF p l z m meth c D cI cS cL a b bs L xs) (hj : 4 * j + 3 < L) (hT : T ≤ 99000000) (h0T : 0 ≤ T) (hc1 : cells + 1 ≤ room_1.cells ∧ slots + 6 ≤ room_1.slots) (hW : LWd D cI cS cL a b T H) (hS : va_S (LA z.heap.size) z.heap H locs) (hl : lv_has ls 9 [(0, .ref bs), (1, .ref (a 112)), (2, .ref (b 0)), (3, .ref (a 113)), (4, .int (nI (4 * j)))])
    (kk : ∀ (H1 : Heap) (locs1 : List Loc) (ls1 : Array Slot), LWd D cI cS cL a b (T + 100000) H1 → va_S (LA z.heap.size) z.heap H1 locs1 → lv_has ls1 9 [(0, .ref bs), (1, .ref (a 112)), (2, .ref (b 0)), (3, .ref (a 113)), (4, .int (nI (4 * j)))] → W p l e room_1 z m #[Value.ref bs] below meth c H1 locs1 (cells + 1) (slots + 6) Q (F0 m 1363 ls1 [])) : W p l e room_1 z m #[Value.ref bs] below meth c H locs cells slots Q (F0 m 1349 ls []) := by
  obtain ⟨hx, hb, hml, hown, hts, hK, hKL, hEV, hEH, hXs, hbl, hL9, hL, hst⟩ := hC
  obtain ⟨s, st, pi, mi, po, ov, kp, hf, sc, ad, sz, ln, hPx, hPm, hLI⟩ := hW
  obtain ⟨hsz, hpi, hpj, hh, hBd, hln, hs0, hl0, hk0, hlm, hkm, hkk⟩ := id hLI
  have hEm := hL.2.1
  have hc0 : cells + 0 ≤ room_1.cells ∧ slots + 0 ≤ room_1.slots := ⟨by omega, by omega⟩
  refine lv_aload_n hx hb dL_law_1349 rfl (lv_at hl 1 rfl) ?_
  refine lwX_l hL hS hPx hPm (va_runV (As := []) (rest := []) ⟨hx, hb, hml, hown, hts⟩ (m_X6_digest l D cI cS a s st pi mi po sz hsz hs0 ln hln hl0 ((hBd.2.2.2 3 (by decide) (by decide)).1) ((hBd.2.2.2 2 (by decide) (by decide)).1) ((errC_ok hBd (by omega) 7 (by omega)).1) (sh_dOk hBd) (f_mean (errC_ok hBd (by omega) 7 (by omega)).1) _) (cwV 0 hts (gV tw326 tw323 tw324 tw325 tw1) rfl rfl rfl (by decide +kernel) ⟨Nat.le_of_ble_eq_true rfl, Nat.le_of_ble_eq_true rfl⟩) (pvW' 112 rfl hK hPx (by decide) rfl rfl (exO_s hPx) (DI_s hL.1)) rfl rfl hl.1 rfl (lv_room (Nat.le_of_ble_eq_true rfl)) dL_law_1350 hc0) (fun rA u1 H locs hrA hPx hPm hS => ?_)
  refine lv_aload_n hx hb dL_law_1353 rfl (lv_at hl 2 rfl) ?_
  refine lwM_l hL hS hPx (va_runV (As := []) (rest := [.long rA]) ⟨hx, hb, hml, hown, hts⟩ (m_X7_digest l D cI cS b s kp hf sc ad (mi 1) T hBd (by omega) sz hsz hk0 ln hln hlm _) (cwV 0 hts (gV tw1051 tw1048 tw1049 tw1050 tw8) rfl rfl rfl (by decide +kernel) ⟨Nat.le_of_ble_eq_true rfl, Nat.le_of_ble_eq_true rfl⟩) (pvW 0 hK hPm hEm (by decide) rfl rfl) rfl rfl hl.1 rfl (lv_room (Nat.le_of_ble_eq_true rfl)) dL_law_1354 hc0) (fun rB u2 H locs hrB hPx hPm hS => ?_)
  refine g_lcmp0 hx hb (by rw [hrA, hrB, hkm]) dL_law_1357 ?_
  refine lv_if_eq (tgt := 1363) hx hb dL_law_1358 (by decide) (fun _ => ?_) (fun h0 => absurd (by decide) h0)
  refine W.widen (k := cells + 1) (n := slots + 6) (by omega) (by omega) ?_
  exact kk H locs ls ⟨s, st, pi, mi, u1, ov, kp, hf, (upd sc 3 0), u2, sz, ln, hPx, hPm, hLI.lk (by omega) hln rfl hl0 rfl rfl rfl hlm⟩ hS (lv_sub hl [0, 1, 2, 3, 4] rfl)
