/-! the law's loop -/
theorem LWd.mono {D : va_G} {cI cS cL : ClassId} {a b : Nat → Nat} {T T' : Int} {H : Heap} (h : LWd D cI cS cL a b T H) (hT : T ≤ T') : LWd D cI cS cL a b T' H := by
  obtain ⟨s, st, pi, mi, po, ov, kp, hf, sc, ad, sz, ln, hPx, hPm, hLI⟩ := h
  obtain ⟨hsz, hpi, hpj, hh, hBd, hln, hs0, hl0, hk0, hlm, hkm, hkk⟩ := id hLI
  exact ⟨s, st, pi, mi, po, ov, kp, hf, sc, ad, sz, ln, hPx, hPm, hLI.lk hT hln rfl hl0 rfl rfl rfl hlm⟩
theorem lp_lt {L j : Nat} (hL : L ≤ 2048) (hj : j ≤ 512) (h : ¬ (nI L - 4 < nI (4 * j))) : 4 * j + 3 < L := by
  rw [i_lt] at h
  have e1 : (nI L).toInt = (L : Int) := Int32.toInt_ofNat_of_lt (by omega)
  have e2 : (nI (4 * j)).toInt = ((4 * j : Nat) : Int) := Int32.toInt_ofNat_of_lt (by omega)
  have e3 : (4 : Int32).toInt = 4 := by decide
  rw [i_sub (by rw [e1, e3]; omega) (by rw [e1, e3]; omega), e1, e2, e3] at h
  omega
theorem nI_4 {j : Nat} : nI (4 * j) + 4 = nI (4 * (j + 1)) := (nI_add2 (p := 4 * j) (q := 4) rfl rfl).trans (by rw [show 4 * j + 4 = 4 * (j + 1) by omega])
set_option maxHeartbeats 4000000 in
set_option maxRecDepth 100000 in
theorem law_loop {p : Program} {l : Launch} {e : Env} {z : State} {m : MethodId} {below : List Frame} {meth : Method} {c : Code} {Q : State → Prop} {D : va_G} {cI cS cL : ClassId} {a b : Nat → Nat} {bs L : Nat} {xs : Nat → Int32} (hC : LF p l z m meth c D cI cS cL a b bs L xs)
    (hend : ∀ (H1 : Heap) (locs1 : List Loc) (ls1 : Array Slot) (c1 s1 : Nat), c1 ≤ 622184 → s1 ≤ 7229551 → va_S (LA z.heap.size) z.heap H1 locs1 → W p l e room_1 z m #[Value.ref bs] below meth c H1 locs1 c1 s1 Q (F0 m 1369 ls1 [])) :
    ∀ (fu j cells slots : Nat) (H : Heap) (locs : List Loc) (ls : Array Slot), 513 ≤ j + fu → j ≤ 512 → cells ≤ 1000 + j → slots ≤ 10000 + 6 * j → LWd D cI cS cL a b (100000 * (j : Int)) H → va_S (LA z.heap.size) z.heap H locs → lv_has ls 9 [(0, .ref bs), (1, .ref (a 112)), (2, .ref (b 0)), (3, .ref (a 113)), (4, .int (nI (4 * j)))] → W p l e room_1 z m #[Value.ref bs] below meth c H locs cells slots Q (F0 m 23 ls []) := by
  obtain ⟨hx, hb, hml, hown, hts, hK, hKL, hEV, hEH, hXs, hbl, hL9, hL, hst⟩ := id hC
  intro fu
  induction fu with
  | zero => intro j cells slots H locs ls hf hj; exact absurd hf (by omega)
  | succ fu ih =>
    intro j cells slots H locs ls hf hj hcl hsl hW hS hl
    have hr1 : room_1.cells = 622184 := rfl
    have hr2 : room_1.slots = 7229551 := rfl
    refine lv_iload hx hb dL_law_23 (lv_at hl 4 rfl) ?_
    refine lv_aload_n hx hb dL_law_25 rfl (lv_at hl 0 rfl) ?_
    refine va_slen hx hb hXs hbl (Nat.not_le.mpr hbl) hS dL_law_26 ?_
    refine lv_iconst (v := 4) hx hb dL_law_27 (by decide) ?_
    refine lv_isub hx hb dL_law_28 ?_
    refine lv_icmp_gt (tgt := 1369) hx hb dL_law_29 (by decide) (fun _ => ?_) (fun c1 => ?_)
    · exact hend H locs ls cells slots (by omega) (by omega) hS
    · have hj4 : 4 * j + 3 < L := lp_lt hL9 hj c1
      have hj5 : j + 1 ≤ 512 := by omega
      refine lv_aload_n hx hb dL_law_32 rfl (lv_at hl 0 rfl) ?_
      refine lv_iload hx hb dL_law_33 (lv_at hl 4 rfl) ?_
      refine g_sld hx hb hXs hbl hS (4 * j) rfl (by omega) (by omega) dL_law_35 ?_
      refine lv_bipush (v := 31) hx hb dL_law_36 (by decide) ?_
      refine lv_iand hx hb dL_law_38 ?_
      refine lv_topi (fun x ex => ?_)
      have hc1 : cells + 1 ≤ room_1.cells ∧ slots + 6 ≤ room_1.slots := by rw [hr1, hr2]; omega
      have back : ∀ (H1 : Heap) (locs1 : List Loc) (ls1 : Array Slot), LWd D cI cS cL a b (100000 * (j : Int) + 100000) H1 → va_S (LA z.heap.size) z.heap H1 locs1 → lv_has ls1 9 [(0, .ref bs), (1, .ref (a 112)), (2, .ref (b 0)), (3, .ref (a 113)), (4, .int (nI (4 * j)))] → W p l e room_1 z m #[Value.ref bs] below meth c H1 locs1 (cells + 1) (slots + 6) Q (F0 m 1363 ls1 []) := by
        intro H1 locs1 ls1 hW1 hS1 hl1
        refine lv_iinc (v := nI (4 * (j + 1))) (lv' := [(4, .int (nI (4 * (j + 1)))), (0, .ref bs), (1, .ref (a 112)), (2, .ref (b 0)), (3, .ref (a 113))]) hx hb dL_law_1363 hl1 (k := 4) rfl nI_4 (by decide) rfl (fun ls hl => ?_)
        refine lv_goto (tgt := 23) hx hb dL_law_1366 (by decide) ?_
        exact ih (j + 1) (cells + 1) (slots + 6) H1 locs1 ls (by omega) (by omega) (by omega) (by omega) (hW1.mono (by omega)) hS1 (lv_sub hl [1, 2, 3, 4, 0] rfl)
      by_cases sw0 : x = 0
      · refine lv_tableIn (tgt := 156) hx hb dL_law_39 (by first | (rw [sw0]; done) | (rw [sw0]; decide)) (by first | (rw [sw0]; done) | (rw [sw0]; decide)) (off := 117) (by first | (rw [sw0]; done) | (rw [sw0]; decide)) (by decide) ?_
        exact law_tick hC hj4 (by omega) (by omega) hc1 hW hS hl back
      by_cases sw1 : x = 1
      · refine lv_tableIn (tgt := 212) hx hb dL_law_39 (by first | (rw [sw1]; done) | (rw [sw1]; decide)) (by first | (rw [sw1]; done) | (rw [sw1]; decide)) (off := 173) (by first | (rw [sw1]; done) | (rw [sw1]; decide)) (by decide) ?_
        exact law_vote hC hj4 (by omega) (by omega) hc1 hW hS hl back
      by_cases sw2 : x = 2
      · refine lv_tableIn (tgt := 256) hx hb dL_law_39 (by first | (rw [sw2]; done) | (rw [sw2]; decide)) (by first | (rw [sw2]; done) | (rw [sw2]; decide)) (off := 217) (by first | (rw [sw2]; done) | (rw [sw2]; decide)) (by decide) ?_
        exact law_correct hC hj4 (by omega) (by omega) hc1 hW hS hl back
      by_cases sw3 : x = 3
      · refine lv_tableIn (tgt := 269) hx hb dL_law_39 (by first | (rw [sw3]; done) | (rw [sw3]; decide)) (by first | (rw [sw3]; done) | (rw [sw3]; decide)) (off := 230) (by first | (rw [sw3]; done) | (rw [sw3]; decide)) (by decide) ?_
        exact law_put hC hj4 (by omega) (by omega) hc1 hW hS hl back
      by_cases sw4 : x = 4
      · refine lv_tableIn (tgt := 337) hx hb dL_law_39 (by first | (rw [sw4]; done) | (rw [sw4]; decide)) (by first | (rw [sw4]; done) | (rw [sw4]; decide)) (off := 298) (by first | (rw [sw4]; done) | (rw [sw4]; decide)) (by decide) ?_
        exact law_drift hC hj4 (by omega) (by omega) hc1 hW hS hl back
      by_cases sw5 : x = 5
      · refine lv_tableIn (tgt := 405) hx hb dL_law_39 (by first | (rw [sw5]; done) | (rw [sw5]; decide)) (by first | (rw [sw5]; done) | (rw [sw5]; decide)) (off := 366) (by first | (rw [sw5]; done) | (rw [sw5]; decide)) (by decide) ?_
        exact law_warden hC hj4 (by omega) (by omega) hc1 hW hS hl back
      by_cases sw6 : x = 6
      · refine lv_tableIn (tgt := 485) hx hb dL_law_39 (by first | (rw [sw6]; done) | (rw [sw6]; decide)) (by first | (rw [sw6]; done) | (rw [sw6]; decide)) (off := 446) (by first | (rw [sw6]; done) | (rw [sw6]; decide)) (by decide) ?_
        exact law_set hC hj4 (by omega) (by omega) hc1 hW hS hl back
      by_cases sw7 : x = 7
      · refine lv_tableIn (tgt := 553) hx hb dL_law_39 (by first | (rw [sw7]; done) | (rw [sw7]; decide)) (by first | (rw [sw7]; done) | (rw [sw7]; decide)) (off := 514) (by first | (rw [sw7]; done) | (rw [sw7]; decide)) (by decide) ?_
        exact law_append hC hj4 (by omega) (by omega) hc1 hW hS hl back
      by_cases sw8 : x = 8
      · refine lv_tableIn (tgt := 609) hx hb dL_law_39 (by first | (rw [sw8]; done) | (rw [sw8]; decide)) (by first | (rw [sw8]; done) | (rw [sw8]; decide)) (off := 570) (by first | (rw [sw8]; done) | (rw [sw8]; decide)) (by decide) ?_
        exact law_clearBuffer hC hj4 (by omega) (by omega) hc1 hW hS hl back
      by_cases sw9 : x = 9
      · refine lv_tableIn (tgt := 622) hx hb dL_law_39 (by first | (rw [sw9]; done) | (rw [sw9]; decide)) (by first | (rw [sw9]; done) | (rw [sw9]; decide)) (off := 583) (by first | (rw [sw9]; done) | (rw [sw9]; decide)) (by decide) ?_
        exact law_firstError hC hj4 (by omega) (by omega) hc1 hW hS hl back
      by_cases sw10 : x = 10
      · refine lv_tableIn (tgt := 635) hx hb dL_law_39 (by first | (rw [sw10]; done) | (rw [sw10]; decide)) (by first | (rw [sw10]; done) | (rw [sw10]; decide)) (off := 596) (by first | (rw [sw10]; done) | (rw [sw10]; decide)) (by decide) ?_
        exact law_obey hC hj4 (by omega) (by omega) hc1 hW hS hl back
      by_cases sw11 : x = 11
      · refine lv_tableIn (tgt := 679) hx hb dL_law_39 (by first | (rw [sw11]; done) | (rw [sw11]; decide)) (by first | (rw [sw11]; done) | (rw [sw11]; decide)) (off := 640) (by first | (rw [sw11]; done) | (rw [sw11]; decide)) (by decide) ?_
        exact law_keep hC hj4 (by omega) (by omega) hc1 hW hS hl back
      by_cases sw12 : x = 12
      · refine lv_tableIn (tgt := 692) hx hb dL_law_39 (by first | (rw [sw12]; done) | (rw [sw12]; decide)) (by first | (rw [sw12]; done) | (rw [sw12]; decide)) (off := 653) (by first | (rw [sw12]; done) | (rw [sw12]; decide)) (by decide) ?_
        exact law_goBack hC hj4 (by omega) (by omega) hc1 hW hS hl back
      by_cases sw13 : x = 13
      · refine lv_tableIn (tgt := 736) hx hb dL_law_39 (by first | (rw [sw13]; done) | (rw [sw13]; decide)) (by first | (rw [sw13]; done) | (rw [sw13]; decide)) (off := 697) (by first | (rw [sw13]; done) | (rw [sw13]; decide)) (by decide) ?_
        exact law_undo hC hj4 (by omega) (by omega) hc1 hW hS hl back
      by_cases sw14 : x = 14
      · refine lv_tableIn (tgt := 780) hx hb dL_law_39 (by first | (rw [sw14]; done) | (rw [sw14]; decide)) (by first | (rw [sw14]; done) | (rw [sw14]; decide)) (off := 741) (by first | (rw [sw14]; done) | (rw [sw14]; decide)) (by decide) ?_
        exact law_dial hC hj4 (by omega) (by omega) hc1 hW hS hl back
      by_cases sw15 : x = 15
      · refine lv_tableIn (tgt := 848) hx hb dL_law_39 (by first | (rw [sw15]; done) | (rw [sw15]; decide)) (by first | (rw [sw15]; done) | (rw [sw15]; decide)) (off := 809) (by first | (rw [sw15]; done) | (rw [sw15]; decide)) (by decide) ?_
        exact law_says hC hj4 (by omega) (by omega) hc1 hW hS hl back
      by_cases sw16 : x = 16
      · refine lv_tableIn (tgt := 916) hx hb dL_law_39 (by first | (rw [sw16]; done) | (rw [sw16]; decide)) (by first | (rw [sw16]; done) | (rw [sw16]; decide)) (off := 877) (by first | (rw [sw16]; done) | (rw [sw16]; decide)) (by decide) ?_
        exact law_count hC hj4 (by omega) (by omega) hc1 hW hS hl back
      by_cases sw17 : x = 17
      · refine lv_tableIn (tgt := 972) hx hb dL_law_39 (by first | (rw [sw17]; done) | (rw [sw17]; decide)) (by first | (rw [sw17]; done) | (rw [sw17]; decide)) (off := 933) (by first | (rw [sw17]; done) | (rw [sw17]; decide)) (by decide) ?_
        exact law_setting hC hj4 (by omega) (by omega) hc1 hW hS hl back
      by_cases sw18 : x = 18
      · refine lv_tableIn (tgt := 1028) hx hb dL_law_39 (by first | (rw [sw18]; done) | (rw [sw18]; decide)) (by first | (rw [sw18]; done) | (rw [sw18]; decide)) (off := 989) (by first | (rw [sw18]; done) | (rw [sw18]; decide)) (by decide) ?_
        exact law_without hC hj4 (by omega) (by omega) hc1 hW hS hl back
      by_cases sw19 : x = 19
      · refine lv_tableIn (tgt := 1084) hx hb dL_law_39 (by first | (rw [sw19]; done) | (rw [sw19]; decide)) (by first | (rw [sw19]; done) | (rw [sw19]; decide)) (off := 1045) (by first | (rw [sw19]; done) | (rw [sw19]; decide)) (by decide) ?_
        exact law_pivot hC hj4 (by omega) (by omega) hc1 hW hS hl back
      by_cases sw20 : x = 20
      · refine lv_tableIn (tgt := 1097) hx hb dL_law_39 (by first | (rw [sw20]; done) | (rw [sw20]; decide)) (by first | (rw [sw20]; done) | (rw [sw20]; decide)) (off := 1058) (by first | (rw [sw20]; done) | (rw [sw20]; decide)) (by decide) ?_
        exact law_wins hC hj4 (by omega) (by omega) hc1 hW hS hl back
      by_cases sw21 : x = 21
      · refine lv_tableIn (tgt := 1153) hx hb dL_law_39 (by first | (rw [sw21]; done) | (rw [sw21]; decide)) (by first | (rw [sw21]; done) | (rw [sw21]; decide)) (off := 1114) (by first | (rw [sw21]; done) | (rw [sw21]; decide)) (by decide) ?_
        exact law_quarrelIn hC hj4 (by omega) (by omega) hc1 hW hS hl back
      by_cases sw22 : x = 22
      · refine lv_tableIn (tgt := 1209) hx hb dL_law_39 (by first | (rw [sw22]; done) | (rw [sw22]; decide)) (by first | (rw [sw22]; done) | (rw [sw22]; decide)) (off := 1170) (by first | (rw [sw22]; done) | (rw [sw22]; decide)) (by decide) ?_
        exact law_ringsIn hC hj4 (by omega) (by omega) hc1 hW hS hl back
      by_cases sw23 : x = 23
      · refine lv_tableIn (tgt := 1265) hx hb dL_law_39 (by first | (rw [sw23]; done) | (rw [sw23]; decide)) (by first | (rw [sw23]; done) | (rw [sw23]; decide)) (off := 1226) (by first | (rw [sw23]; done) | (rw [sw23]; decide)) (by decide) ?_
        exact law_heldShare hC hj4 (by omega) (by omega) hc1 hW hS hl back
      by_cases sw24 : x = 24
      · refine lv_tableIn (tgt := 1306) hx hb dL_law_39 (by first | (rw [sw24]; done) | (rw [sw24]; decide)) (by first | (rw [sw24]; done) | (rw [sw24]; decide)) (off := 1267) (by first | (rw [sw24]; done) | (rw [sw24]; decide)) (by decide) ?_
        exact law_meanError hC hj4 (by omega) (by omega) hc1 hW hS hl back
      by_cases sw25 : x = 25
      · refine lv_tableIn (tgt := 1349) hx hb dL_law_39 (by first | (rw [sw25]; done) | (rw [sw25]; decide)) (by first | (rw [sw25]; done) | (rw [sw25]; decide)) (off := 1310) (by first | (rw [sw25]; done) | (rw [sw25]; decide)) (by decide) ?_
        exact law_digest hC hj4 (by omega) (by omega) hc1 hW hS hl back
      refine lv_tableOut (tgt := 1363) hx hb dL_law_39 (by have := lv_neT sw0 (a := 0) (by decide); have := lv_neT sw1 (a := 1) (by decide); have := lv_neT sw2 (a := 2) (by decide); have := lv_neT sw3 (a := 3) (by decide); have := lv_neT sw4 (a := 4) (by decide); have := lv_neT sw5 (a := 5) (by decide); have := lv_neT sw6 (a := 6) (by decide); have := lv_neT sw7 (a := 7) (by decide); have := lv_neT sw8 (a := 8) (by decide); have := lv_neT sw9 (a := 9) (by decide); have := lv_neT sw10 (a := 10) (by decide); have := lv_neT sw11 (a := 11) (by decide); have := lv_neT sw12 (a := 12) (by decide); have := lv_neT sw13 (a := 13) (by decide); have := lv_neT sw14 (a := 14) (by decide); have := lv_neT sw15 (a := 15) (by decide); have := lv_neT sw16 (a := 16) (by decide); have := lv_neT sw17 (a := 17) (by decide); have := lv_neT sw18 (a := 18) (by decide); have := lv_neT sw19 (a := 19) (by decide); have := lv_neT sw20 (a := 20) (by decide); have := lv_neT sw21 (a := 21) (by decide); have := lv_neT sw22 (a := 22) (by decide); have := lv_neT sw23 (a := 23) (by decide); have := lv_neT sw24 (a := 24) (by decide); have := lv_neT sw25 (a := 25) (by decide); omega) (by decide) ?_
      refine W.widen (k := cells + 1) (n := slots + 6) (by omega) (by omega) ?_
      exact back H locs ls (hW.mono (by omega)) hS hl
