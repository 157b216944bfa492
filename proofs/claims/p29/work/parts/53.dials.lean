set_option maxHeartbeats 4000000 in
set_option maxRecDepth 100000 in
theorem m_L_areDialsSo (l : Launch) (D : va_G) (cI cS : ClassId) (a : Nat → Nat) (u : WT) (s : St) (T : Int) (hT : T ≤ 50000) (hO : OKG T u s) (zz : Nat) : Met l yL_areDialsSo (.code yL_areDialsSo cL_areDialsSo 13 (some .boolean) :: wsA) ({ frames := 6, cells := 0, slots := 0, locals := 131 } : Room) (va_Pc [.ref (a 112)] (PW D cI cS 113 a (exU cI cS a u) zz)) (va_Qi (fun (r : Int32) (u : WT) => r = 1 ∧ OKG T u s) (BW D 113 a (fun u => exU cI cS a u)) (AX 113 a zz)) 0 0 (AX 113 a zz) := by
  refine mgo (by decide) (Nat.le_of_ble_eq_true rfl) ?_
  intro p e z m below meth c hx hb hr hml hown hts hlocks hB ls hl
  obtain ⟨hsz, hP, hK, hE⟩ := hB
  subst hsz
  have hS : va_S (AX 113 a z.heap.size) z.heap z.heap [] := va_S.rf
  have hl : lv_has ls 13 [(0, .ref (a 112))] := hl
  obtain ⟨sz, hf, hok, hG, hH⟩ := hO
  have hsz6 := hok.2.1
  have hsq := svQ_lt hsz6
  have hh2 := hG.n03
  have hv2 := hG.n02
  have hE0 := (errC_ok hG.1 (by omega) 7 (by omega)).1
  refine lv_iconst (v := 0) hx hb dL_areDialsSo_0 (by decide) ?_
  refine lv_istore_n (lv' := [(1, .int 0), (0, .ref (a 112))]) hx hb dL_areDialsSo_1 rfl hl (by decide) rfl (fun ls hl => ?_)
  refine lv_iconst (v := 0) hx hb dL_areDialsSo_2 (by decide) ?_
  refine lv_istore_n (lv' := [(2, .int 0), (1, .int 0), (0, .ref (a 112))]) hx hb dL_areDialsSo_3 rfl hl (by decide) rfl (fun ls hl => ?_)
  refine lv_iconst (v := 0) hx hb dL_areDialsSo_4 (by decide) ?_
  refine lv_istore_n (lv' := [(3, .int 0), (2, .int 0), (1, .int 0), (0, .ref (a 112))]) hx hb dL_areDialsSo_5 rfl hl (by decide) rfl (fun ls hl => ?_)
  refine lv_iconst (v := 0) hx hb dL_areDialsSo_6 (by decide) ?_
  refine lv_istore (lv' := [(4, .int 0), (3, .int 0), (2, .int 0), (1, .int 0), (0, .ref (a 112))]) hx hb dL_areDialsSo_7 hl (by decide) rfl (fun ls hl => ?_)
  refine lv_iconst (v := 0) hx hb dL_areDialsSo_9 (by decide) ?_
  refine lv_istore (lv' := [(5, .int 0), (4, .int 0), (3, .int 0), (2, .int 0), (1, .int 0), (0, .ref (a 112))]) hx hb dL_areDialsSo_10 hl (by decide) rfl (fun ls hl => ?_)
  refine lv_iconst (v := 1) hx hb dL_areDialsSo_12 (by decide) ?_
  refine lv_istore (lv' := [(6, .int 1), (5, .int 0), (4, .int 0), (3, .int 0), (2, .int 0), (1, .int 0), (0, .ref (a 112))]) hx hb dL_areDialsSo_13 hl (by decide) rfl (fun ls hl => ?_)
  refine lv_iconst (v := 0) hx hb dL_areDialsSo_15 (by decide) ?_
  refine lv_istore (lv' := [(7, .int 0), (6, .int 1), (5, .int 0), (4, .int 0), (3, .int 0), (2, .int 0), (1, .int 0), (0, .ref (a 112))]) hx hb dL_areDialsSo_16 hl (by decide) rfl (fun ls hl => ?_)
  have loop18 : ∀ (fu : Nat) (j : Nat) (u : WT), 7 + 1 ≤ j + fu → (j ≤ 7) → (UOk u s sz hf) → ∀ (H : Heap) (locs : List Loc), HP D 113 a (exU cI cS a u) H → va_S (AX 113 a z.heap.size) z.heap H locs → ∀ ls : Array Slot, lv_has ls 13 [(0, .ref (a 112)), (1, .int (sumN (s 6) j)), (2, .int (offC s j)), (3, .int (sumN (s 7) j)), (4, .int (qsF s j)), (5, .int (plM s j)), (6, .int 1), (7, .int (nI j))] → W p l e ({ frames := 6, cells := 0, slots := 0, locals := 131 } : Room) z m ([.ref (a 112)] : List Value).toArray below meth c H locs 0 0 (MQ below (va_Qi (fun (r : Int32) (u : WT) => r = 1 ∧ OKG T u s) (BW D 113 a (fun u => exU cI cS a u)) (AX 113 a z.heap.size)) ([.ref (a 112)] : List Value).toArray z 0 0 (AX 113 a z.heap.size)) (F0 m 18 ls []) := by
    intro fu
    induction fu with
    | zero => intro j u hn hj hok; exact absurd hn (by omega)
    | succ fu ih18 =>
      intro j u hn hj hok H locs hP hS ls hl
      refine lv_iload hx hb dL_areDialsSo_18 (lv_at hl 7 rfl) ?_
      refine lv_bipush (v := 7) hx hb dL_areDialsSo_20 (by decide) ?_
      refine lv_icmp_ge (tgt := 419) hx hb dL_areDialsSo_22 (by decide) (fun c1 => ?_) (fun c1 => ?_)
      · skip
        have c1x := Int32.not_lt.mpr c1
        have c1n := (nI_le2 (p := 7) (q := j) rfl rfl (by omega) (by omega)).mp c1
        have c1n : 7 ≤ j := c1n
        have hjq : 7 = j := by omega
        subst hjq
        refine lv_iload hx hb dL_areDialsSo_419 (lv_at hl 6 rfl) ?_
        refine lv_if_eq (tgt := 526) hx hb dL_areDialsSo_421 (by decide) (fun h0 => absurd h0 (by decide)) (fun _ => ?_)
        refine lv_iload_n hx hb dL_areDialsSo_424 rfl (lv_at hl 1 rfl) ?_
        refine lv_aload_n hx hb dL_areDialsSo_425 rfl (lv_at hl 0 rfl) ?_
        refine lv_bipush (v := 8) hx hb dL_areDialsSo_426 (by decide) ?_
        refine rw_i hS (va_runV (As := [.int 8]) (rest := [.int (sumN (s 6) 7)]) ⟨hx, hb, hml, hown, hts⟩ (a_X6_count l D cI cS a u s sz hf hok 8 (by omega) _) (cwV 1 hts (gV tw179 tw176 tw177 tw178 tw1) rfl rfl rfl (by decide +kernel) ⟨Nat.le_of_ble_eq_true rfl, Nat.le_of_ble_eq_true rfl⟩) (pvW 112 hK hP hE (by decide) xc112 rfl) rfl rfl hl.1 rfl (lv_room (Nat.le_of_ble_eq_true rfl)) dL_areDialsSo_428 ⟨Nat.le_of_ble_eq_true rfl, Nat.le_of_ble_eq_true rfl⟩) (fun r3 u4 H locs hr2 hP hS => ?_)
        obtain ⟨hr9, hok⟩ := hr2
        subst hr9
        refine lv_icmp_ne (tgt := 526) hx hb dL_areDialsSo_431 (by decide) (fun h0 => absurd h0 (fun q9 => q9 rfl)) (fun _ => ?_)
        refine lv_iload_n hx hb dL_areDialsSo_434 rfl (lv_at hl 2 rfl) ?_
        refine lv_aload_n hx hb dL_areDialsSo_435 rfl (lv_at hl 0 rfl) ?_
        refine lv_bipush (v := 11) hx hb dL_areDialsSo_436 (by decide) ?_
        refine rw_i hS (va_runV (As := [.int 11]) (rest := [.int (offC s 7)]) ⟨hx, hb, hml, hown, hts⟩ (a_X6_count l D cI cS a u4 s sz hf hok 11 (by omega) _) (cwV 1 hts (gV tw179 tw176 tw177 tw178 tw1) rfl rfl rfl (by decide +kernel) ⟨Nat.le_of_ble_eq_true rfl, Nat.le_of_ble_eq_true rfl⟩) (pvW 112 hK hP hE (by decide) xc112 rfl) rfl rfl hl.1 rfl (lv_room (Nat.le_of_ble_eq_true rfl)) dL_areDialsSo_438 ⟨Nat.le_of_ble_eq_true rfl, Nat.le_of_ble_eq_true rfl⟩) (fun r6 u7 H locs hr5 hP hS => ?_)
        obtain ⟨hr9, hok⟩ := hr5
        subst hr9
        refine lv_icmp_ne (tgt := 526) hx hb dL_areDialsSo_441 (by decide) (fun h0 => absurd h0 (fun q9 => q9 rfl)) (fun _ => ?_)
        refine lv_iload_n hx hb dL_areDialsSo_444 rfl (lv_at hl 3 rfl) ?_
        refine lv_aload_n hx hb dL_areDialsSo_445 rfl (lv_at hl 0 rfl) ?_
        refine lv_iconst (v := 4) hx hb dL_areDialsSo_446 (by decide) ?_
        refine rw_i hS (va_runV (As := [.int 4]) (rest := [.int (sumN (s 7) 7)]) ⟨hx, hb, hml, hown, hts⟩ (a_X6_count l D cI cS a u7 s sz hf hok 4 (by omega) _) (cwV 1 hts (gV tw179 tw176 tw177 tw178 tw1) rfl rfl rfl (by decide +kernel) ⟨Nat.le_of_ble_eq_true rfl, Nat.le_of_ble_eq_true rfl⟩) (pvW 112 hK hP hE (by decide) xc112 rfl) rfl rfl hl.1 rfl (lv_room (Nat.le_of_ble_eq_true rfl)) dL_areDialsSo_447 ⟨Nat.le_of_ble_eq_true rfl, Nat.le_of_ble_eq_true rfl⟩) (fun r9 u10 H locs hr8 hP hS => ?_)
        obtain ⟨hr9, hok⟩ := hr8
        subst hr9
        refine lv_icmp_ne (tgt := 526) hx hb dL_areDialsSo_450 (by decide) (fun h0 => absurd h0 (fun q9 => q9 rfl)) (fun _ => ?_)
        refine lv_iload hx hb dL_areDialsSo_453 (lv_at hl 4 rfl) ?_
        refine lv_iconst (v := 2) hx hb dL_areDialsSo_455 (by decide) ?_
        refine lv_aload_n hx hb dL_areDialsSo_456 rfl (lv_at hl 0 rfl) ?_
        refine lv_iconst (v := 5) hx hb dL_areDialsSo_457 (by decide) ?_
        refine rw_i hS (va_runV (As := [.int 5]) (rest := [.int 2, .int (qsF s 7)]) ⟨hx, hb, hml, hown, hts⟩ (a_X6_count l D cI cS a u10 s sz hf hok 5 (by omega) _) (cwV 1 hts (gV tw179 tw176 tw177 tw178 tw1) rfl rfl rfl (by decide +kernel) ⟨Nat.le_of_ble_eq_true rfl, Nat.le_of_ble_eq_true rfl⟩) (pvW 112 hK hP hE (by decide) xc112 rfl) rfl rfl hl.1 rfl (lv_room (Nat.le_of_ble_eq_true rfl)) dL_areDialsSo_458 ⟨Nat.le_of_ble_eq_true rfl, Nat.le_of_ble_eq_true rfl⟩) (fun r12 u13 H locs hr11 hP hS => ?_)
        obtain ⟨hr9, hok⟩ := hr11
        subst hr9
        refine lv_imul hx hb dL_areDialsSo_461 ?_
        refine lv_icmp_ne (tgt := 526) hx hb dL_areDialsSo_462 (by decide) (fun h0 => absurd h0 (fun q9 => q9 qs_eq)) (fun _ => ?_)
        refine lv_iload hx hb dL_areDialsSo_465 (lv_at hl 5 rfl) ?_
        refine lv_bipush (v := 127) hx hb dL_areDialsSo_467 (by decide) ?_
        refine lv_icmp_ne (tgt := 526) hx hb dL_areDialsSo_469 (by decide) (fun h0 => absurd h0 (fun q9 => q9 pl_all)) (fun _ => ?_)
        refine lv_aload_n hx hb dL_areDialsSo_472 rfl (lv_at hl 0 rfl) ?_
        refine lv_bipush (v := 12) hx hb dL_areDialsSo_473 (by decide) ?_
        refine rw_i hS (va_runV (As := [.int 12]) (rest := []) ⟨hx, hb, hml, hown, hts⟩ (a_X6_count l D cI cS a u13 s sz hf hok 12 (by omega) _) (cwV 1 hts (gV tw179 tw176 tw177 tw178 tw1) rfl rfl rfl (by decide +kernel) ⟨Nat.le_of_ble_eq_true rfl, Nat.le_of_ble_eq_true rfl⟩) (pvW 112 hK hP hE (by decide) xc112 rfl) rfl rfl hl.1 rfl (lv_room (Nat.le_of_ble_eq_true rfl)) dL_areDialsSo_475 ⟨Nat.le_of_ble_eq_true rfl, Nat.le_of_ble_eq_true rfl⟩) (fun r15 u16 H locs hr14 hP hS => ?_)
        obtain ⟨hr9, hok⟩ := hr14
        subst hr9
        refine lv_aload_n hx hb dL_areDialsSo_478 rfl (lv_at hl 0 rfl) ?_
        refine lv_iconst (v := 1) hx hb dL_areDialsSo_479 (by decide) ?_
        refine rw_i hS (va_runV (As := [.int 1]) (rest := [.int (distI (s 0 1) (s 0 0))]) ⟨hx, hb, hml, hown, hts⟩ (a_X6_count l D cI cS a u16 s sz hf hok 1 (by omega) _) (cwV 1 hts (gV tw179 tw176 tw177 tw178 tw1) rfl rfl rfl (by decide +kernel) ⟨Nat.le_of_ble_eq_true rfl, Nat.le_of_ble_eq_true rfl⟩) (pvW 112 hK hP hE (by decide) xc112 rfl) rfl rfl hl.1 rfl (lv_room (Nat.le_of_ble_eq_true rfl)) dL_areDialsSo_480 ⟨Nat.le_of_ble_eq_true rfl, Nat.le_of_ble_eq_true rfl⟩) (fun r18 u19 H locs hr17 hP hS => ?_)
        obtain ⟨hr9, hok⟩ := hr17
        subst hr9
        refine lv_aload_n hx hb dL_areDialsSo_483 rfl (lv_at hl 0 rfl) ?_
        refine lv_iconst (v := 0) hx hb dL_areDialsSo_484 (by decide) ?_
        refine rw_i hS (va_runV (As := [.int 0]) (rest := [.int (s 0 1), .int (distI (s 0 1) (s 0 0))]) ⟨hx, hb, hml, hown, hts⟩ (a_X6_count l D cI cS a u19 s sz hf hok 0 (by omega) _) (cwV 1 hts (gV tw179 tw176 tw177 tw178 tw1) rfl rfl rfl (by decide +kernel) ⟨Nat.le_of_ble_eq_true rfl, Nat.le_of_ble_eq_true rfl⟩) (pvW 112 hK hP hE (by decide) xc112 rfl) rfl rfl hl.1 rfl (lv_room (Nat.le_of_ble_eq_true rfl)) dL_areDialsSo_485 ⟨Nat.le_of_ble_eq_true rfl, Nat.le_of_ble_eq_true rfl⟩) (fun r21 u22 H locs hr20 hP hS => ?_)
        obtain ⟨hr9, hok⟩ := hr20
        subst hr9
        refine lv_isub hx hb dL_areDialsSo_488 ?_
        refine ro_i (va_runS (As := [.int ((s 0 1) - (s 0 0))]) (rest := [.int (distI (s 0 1) (s 0 0))]) ⟨hx, hb, hml, hown, hts⟩ (m_L_size l (s 0 1) (s 0 0) hG.n01 hG.n00) (va_cwS 1 hts (gS tw539 tw537 tw538 tw0) rfl rfl rfl (by decide +kernel) ⟨Nat.le_of_ble_eq_true rfl, Nat.le_of_ble_eq_true rfl⟩) ps0 rfl rfl hl.1 rfl (lv_room (Nat.le_of_ble_eq_true rfl)) dL_areDialsSo_489 ⟨Nat.le_of_ble_eq_true rfl, Nat.le_of_ble_eq_true rfl⟩) (fun r24 hr23 => ?_)
        subst hr23
        refine lv_icmp_ne (tgt := 526) hx hb dL_areDialsSo_492 (by decide) (fun h0 => absurd h0 (fun q9 => q9 rfl)) (fun _ => ?_)
        refine lv_aload_n hx hb dL_areDialsSo_495 rfl (lv_at hl 0 rfl) ?_
        refine ro_d (va_runV (As := []) (rest := []) ⟨hx, hb, hml, hown, hts⟩ (a_X6_heldShare l D cI cS a u22 s sz hf hok hh2 hv2) (cwV 0 hts (gV tw574 tw571 tw572 tw573 tw1) rfl rfl rfl (by decide +kernel) ⟨Nat.le_of_ble_eq_true rfl, Nat.le_of_ble_eq_true rfl⟩) (pvR 112 hK hP (by decide) xc112 rfl) rfl rfl hl.1 rfl (lv_room (Nat.le_of_ble_eq_true rfl)) dL_areDialsSo_496 ⟨Nat.le_of_ble_eq_true rfl, Nat.le_of_ble_eq_true rfl⟩) (fun r27 hr26 => ?_)
        subst hr26
        refine lv_dconst0 hx hb dL_areDialsSo_499 ?_
        refine lv_dcmp hx hb dL_areDialsSo_500 ?_
        refine lv_if_lt (tgt := 526) hx hb dL_areDialsSo_501 (by decide) (fun h0 => absurd h0 (hs_0 hG)) (fun _ => ?_)
        refine lv_aload_n hx hb dL_areDialsSo_504 rfl (lv_at hl 0 rfl) ?_
        refine ro_d (va_runV (As := []) (rest := []) ⟨hx, hb, hml, hown, hts⟩ (a_X6_heldShare l D cI cS a u22 s sz hf hok hh2 hv2) (cwV 0 hts (gV tw574 tw571 tw572 tw573 tw1) rfl rfl rfl (by decide +kernel) ⟨Nat.le_of_ble_eq_true rfl, Nat.le_of_ble_eq_true rfl⟩) (pvR 112 hK hP (by decide) xc112 rfl) rfl rfl hl.1 rfl (lv_room (Nat.le_of_ble_eq_true rfl)) dL_areDialsSo_505 ⟨Nat.le_of_ble_eq_true rfl, Nat.le_of_ble_eq_true rfl⟩) (fun r30 hr29 => ?_)
        subst hr29
        refine lv_dconst1 hx hb dL_areDialsSo_508 ?_
        refine lv_dcmp hx hb dL_areDialsSo_509 ?_
        refine lv_if_gt (tgt := 526) hx hb dL_areDialsSo_510 (by decide) (fun h0 => absurd h0 (hs_1 hG (by omega))) (fun _ => ?_)
        refine lv_aload_n hx hb dL_areDialsSo_513 rfl (lv_at hl 0 rfl) ?_
        refine ro_f (va_runV (As := []) (rest := []) ⟨hx, hb, hml, hown, hts⟩ (a_X6_meanError l D cI cS a u22 s sz hf hok hE0) (cwV 0 hts (gV tw578 tw575 tw576 tw577 tw1) rfl rfl rfl (by decide +kernel) ⟨Nat.le_of_ble_eq_true rfl, Nat.le_of_ble_eq_true rfl⟩) (pvR 112 hK hP (by decide) xc112 rfl) rfl rfl hl.1 rfl (lv_room (Nat.le_of_ble_eq_true rfl)) dL_areDialsSo_514 ⟨Nat.le_of_ble_eq_true rfl, Nat.le_of_ble_eq_true rfl⟩) (fun r33 hr32 => ?_)
        subst hr32
        refine lv_fconst0 hx hb dL_areDialsSo_517 ?_
        refine lv_fcmp hx hb dL_areDialsSo_518 ?_
        refine lv_if_lt (tgt := 526) hx hb dL_areDialsSo_519 (by decide) (fun h0 => absurd h0 (me_0 hE0)) (fun _ => ?_)
        refine lv_iconst (v := 1) hx hb dL_areDialsSo_522 (by decide) ?_
        refine lv_goto (tgt := 527) hx hb dL_areDialsSo_523 (by decide) ?_
        exact rw_ir hx hb hr rfl hlocks hS u22 hP ⟨rfl, _, _, hok, hG, hH⟩ dL_areDialsSo_527
      · skip
        have c1x := Int32.not_le.mp c1
        have c1n := fun hq0 => c1 ((nI_le2 (p := 7) (q := j) rfl rfl (by omega) (by omega)).mpr hq0)
        have c1n : ¬ (7 ≤ j) := c1n
        refine lv_aload_n hx hb dL_areDialsSo_25 rfl (lv_at hl 0 rfl) ?_
        refine lv_iload hx hb dL_areDialsSo_26 (lv_at hl 7 rfl) ?_
        refine lv_iconst (v := 0) hx hb dL_areDialsSo_28 (by decide) ?_
        refine ro_i (va_runV (As := [.int (nI j), .int 0]) (rest := []) ⟨hx, hb, hml, hown, hts⟩ (a_X6_dial l D cI cS a u s sz hf hok j 0 (by omega) (by omega)) (cwV 2 hts (gV tw522 tw519 tw520 tw521 tw1) rfl rfl rfl (by decide +kernel) ⟨Nat.le_of_ble_eq_true rfl, Nat.le_of_ble_eq_true rfl⟩) (pvR 112 hK hP (by decide) xc112 rfl) rfl rfl hl.1 rfl (lv_room (Nat.le_of_ble_eq_true rfl)) dL_areDialsSo_29 ⟨Nat.le_of_ble_eq_true rfl, Nat.le_of_ble_eq_true rfl⟩) (fun r36 hr35 => ?_)
        subst hr35
        refine lv_istore (lv' := [(8, .int (s 1 j)), (0, .ref (a 112)), (1, .int (sumN (s 6) j)), (2, .int (offC s j)), (3, .int (sumN (s 7) j)), (4, .int (qsF s j)), (5, .int (plM s j)), (6, .int 1), (7, .int (nI j))]) hx hb dL_areDialsSo_32 hl (by decide) rfl (fun ls hl => ?_)
        refine lv_iload hx hb dL_areDialsSo_34 (lv_at hl 0 rfl) ?_
        refine lv_aload_n hx hb dL_areDialsSo_36 rfl (lv_at hl 1 rfl) ?_
        refine lv_iconst (v := 1) hx hb dL_areDialsSo_37 (by decide) ?_
        refine rw_i hS (va_runV (As := [.int 1]) (rest := [.int (s 1 j)]) ⟨hx, hb, hml, hown, hts⟩ (a_X6_count l D cI cS a u s sz hf hok 1 (by omega) _) (cwV 1 hts (gV tw179 tw176 tw177 tw178 tw1) rfl rfl rfl (by decide +kernel) ⟨Nat.le_of_ble_eq_true rfl, Nat.le_of_ble_eq_true rfl⟩) (pvW 112 hK hP hE (by decide) xc112 rfl) rfl rfl hl.1 rfl (lv_room (Nat.le_of_ble_eq_true rfl)) dL_areDialsSo_38 ⟨Nat.le_of_ble_eq_true rfl, Nat.le_of_ble_eq_true rfl⟩) (fun r39 u40 H locs hr38 hP hS => ?_)
        obtain ⟨hr9, hok⟩ := hr38
        subst hr9
        refine lv_isub hx hb dL_areDialsSo_41 ?_
        refine ro_i (va_runS (As := [.int ((s 1 j) - (s 0 1))]) (rest := []) ⟨hx, hb, hml, hown, hts⟩ (m_L_size l (s 1 j) (s 0 1) (hG.n1 (by omega)) hG.n01) (va_cwS 1 hts (gS tw539 tw537 tw538 tw0) rfl rfl rfl (by decide +kernel) ⟨Nat.le_of_ble_eq_true rfl, Nat.le_of_ble_eq_true rfl⟩) ps0 rfl rfl hl.1 rfl (lv_room (Nat.le_of_ble_eq_true rfl)) dL_areDialsSo_42 ⟨Nat.le_of_ble_eq_true rfl, Nat.le_of_ble_eq_true rfl⟩) (fun r42 hr41 => ?_)
        subst hr41
        refine lv_aload_n hx hb dL_areDialsSo_45 rfl (lv_at hl 1 rfl) ?_
        refine lv_iconst (v := 1) hx hb dL_areDialsSo_46 (by decide) ?_
        refine ro_i (va_runV (As := [.int 1]) (rest := [.int (distI (s 1 j) (s 0 1))]) ⟨hx, hb, hml, hown, hts⟩ (a_X6_setting l D cI cS a u40 s sz hf hok 1 (by omega)) (cwV 1 hts (gV tw543 tw540 tw541 tw542 tw1) rfl rfl rfl (by decide +kernel) ⟨Nat.le_of_ble_eq_true rfl, Nat.le_of_ble_eq_true rfl⟩) (pvR 112 hK hP (by decide) xc112 rfl) rfl rfl hl.1 rfl (lv_room (Nat.le_of_ble_eq_true rfl)) dL_areDialsSo_47 ⟨Nat.le_of_ble_eq_true rfl, Nat.le_of_ble_eq_true rfl⟩) (fun r45 hr44 => ?_)
        subst hr44
        have cut58 : ∀ (H : Heap) (locs : List Loc), HP D 113 a (exU cI cS a u40) H → va_S (AX 113 a z.heap.size) z.heap H locs → ∀ ls : Array Slot, lv_has ls 13 [(8, .int (s 1 j)), (0, .ref (a 112)), (1, .int (sumN (s 6) j)), (2, .int (offC s j)), (3, .int (sumN (s 7) j)), (4, .int (qsF s j)), (5, .int (plM s j)), (6, .int 1), (7, .int (nI j))] → W p l e ({ frames := 6, cells := 0, slots := 0, locals := 131 } : Room) z m ([.ref (a 112)] : List Value).toArray below meth c H locs 0 0 (MQ below (va_Qi (fun (r : Int32) (u : WT) => r = 1 ∧ OKG T u s) (BW D 113 a (fun u => exU cI cS a u)) (AX 113 a z.heap.size)) ([.ref (a 112)] : List Value).toArray z 0 0 (AX 113 a z.heap.size)) (F0 m 58 ls [.int (if offB s j then 1 else 0)]) := by
          intro H locs hP hS ls hl
          refine lv_istore (lv' := [(9, .int (if offB s j then 1 else 0)), (8, .int (s 1 j)), (0, .ref (a 112)), (1, .int (sumN (s 6) j)), (2, .int (offC s j)), (3, .int (sumN (s 7) j)), (4, .int (qsF s j)), (5, .int (plM s j)), (6, .int 1), (7, .int (nI j))]) hx hb dL_areDialsSo_58 hl (by decide) rfl (fun ls hl => ?_)
          refine lv_iload hx hb dL_areDialsSo_60 (lv_at hl 1 rfl) ?_
          refine lv_aload_n hx hb dL_areDialsSo_62 rfl (lv_at hl 2 rfl) ?_
          refine lv_iload hx hb dL_areDialsSo_63 (lv_at hl 9 rfl) ?_
          refine lv_iconst (v := 1) hx hb dL_areDialsSo_65 (by decide) ?_
          refine rw_i hS (va_runV (As := [.int (nI j), .int 1]) (rest := [.int (s 1 j)]) ⟨hx, hb, hml, hown, hts⟩ (a_X6_says l D cI cS a u40 s sz hf hok j 1 (by omega) (by omega) _) (cwV 2 hts (gV tw547 tw544 tw545 tw546 tw1) rfl rfl rfl (by decide +kernel) ⟨Nat.le_of_ble_eq_true rfl, Nat.le_of_ble_eq_true rfl⟩) (pvW 112 hK hP hE (by decide) xc112 rfl) rfl rfl hl.1 rfl (lv_room (Nat.le_of_ble_eq_true rfl)) dL_areDialsSo_66 ⟨Nat.le_of_ble_eq_true rfl, Nat.le_of_ble_eq_true rfl⟩) (fun r48 u49 H locs hr47 hP hS => ?_)
          obtain ⟨hr9, hok⟩ := hr47
          subst hr9
          refine lv_iadd hx hb dL_areDialsSo_69 ?_
          refine lv_istore (lv' := [(10, .int ((s 1 j) + (s 8 j))), (9, .int (if offB s j then 1 else 0)), (8, .int (s 1 j)), (0, .ref (a 112)), (1, .int (sumN (s 6) j)), (2, .int (offC s j)), (3, .int (sumN (s 7) j)), (4, .int (qsF s j)), (5, .int (plM s j)), (6, .int 1), (7, .int (nI j))]) hx hb dL_areDialsSo_70 hl (by decide) rfl (fun ls hl => ?_)
          refine lv_iload hx hb dL_areDialsSo_72 (lv_at hl 0 rfl) ?_
          have cut95 : ∀ (H : Heap) (locs : List Loc), HP D 113 a (exU cI cS a u49) H → va_S (AX 113 a z.heap.size) z.heap H locs → ∀ ls : Array Slot, lv_has ls 13 [(10, .int ((s 1 j) + (s 8 j))), (9, .int (if offB s j then 1 else 0)), (8, .int (s 1 j)), (0, .ref (a 112)), (1, .int (sumN (s 6) j)), (2, .int (offC s j)), (3, .int (sumN (s 7) j)), (4, .int (qsF s j)), (5, .int (plM s j)), (6, .int 1), (7, .int (nI j))] → W p l e ({ frames := 6, cells := 0, slots := 0, locals := 131 } : Room) z m ([.ref (a 112)] : List Value).toArray below meth c H locs 0 0 (MQ below (va_Qi (fun (r : Int32) (u : WT) => r = 1 ∧ OKG T u s) (BW D 113 a (fun u => exU cI cS a u)) (AX 113 a z.heap.size)) ([.ref (a 112)] : List Value).toArray z 0 0 (AX 113 a z.heap.size)) (F0 m 95 ls [.int (wordA s j)]) := by
            intro H locs hP hS ls hl
            refine lv_istore (lv' := [(10, .int (wordA s j)), (9, .int (if offB s j then 1 else 0)), (8, .int (s 1 j)), (0, .ref (a 112)), (1, .int (sumN (s 6) j)), (2, .int (offC s j)), (3, .int (sumN (s 7) j)), (4, .int (qsF s j)), (5, .int (plM s j)), (6, .int 1), (7, .int (nI j))]) hx hb dL_areDialsSo_95 hl (by decide) rfl (fun ls hl => ?_)
            refine lv_iload_n hx hb dL_areDialsSo_97 rfl (lv_at hl 4 rfl) ?_
            refine lv_aload_n hx hb dL_areDialsSo_98 rfl (lv_at hl 3 rfl) ?_
            refine lv_iload hx hb dL_areDialsSo_99 (lv_at hl 10 rfl) ?_
            refine lv_iconst (v := 4) hx hb dL_areDialsSo_101 (by decide) ?_
            refine ro_i (va_runV (As := [.int (nI j), .int 4]) (rest := [.int (sumN (s 6) j)]) ⟨hx, hb, hml, hown, hts⟩ (a_X6_dial l D cI cS a u49 s sz hf hok j 4 (by omega) (by omega)) (cwV 2 hts (gV tw522 tw519 tw520 tw521 tw1) rfl rfl rfl (by decide +kernel) ⟨Nat.le_of_ble_eq_true rfl, Nat.le_of_ble_eq_true rfl⟩) (pvR 112 hK hP (by decide) xc112 rfl) rfl rfl hl.1 rfl (lv_room (Nat.le_of_ble_eq_true rfl)) dL_areDialsSo_102 ⟨Nat.le_of_ble_eq_true rfl, Nat.le_of_ble_eq_true rfl⟩) (fun r51 hr50 => ?_)
            subst hr50
            refine lv_iadd hx hb dL_areDialsSo_105 ?_
            refine lv_istore_n (lv' := [(1, .int ((sumN (s 6) j) + (s 6 j))), (10, .int (wordA s j)), (9, .int (if offB s j then 1 else 0)), (8, .int (s 1 j)), (0, .ref (a 112)), (2, .int (offC s j)), (3, .int (sumN (s 7) j)), (4, .int (qsF s j)), (5, .int (plM s j)), (6, .int 1), (7, .int (nI j))]) hx hb dL_areDialsSo_106 rfl hl (by decide) rfl (fun ls hl => ?_)
            refine lv_iload_n hx hb dL_areDialsSo_107 rfl (lv_at hl 5 rfl) ?_
            refine lv_iload hx hb dL_areDialsSo_108 (lv_at hl 2 rfl) ?_
            refine lv_iadd hx hb dL_areDialsSo_110 ?_
            refine lv_istore_n (lv' := [(2, .int ((offC s j) + (if offB s j then 1 else 0))), (1, .int ((sumN (s 6) j) + (s 6 j))), (10, .int (wordA s j)), (9, .int (if offB s j then 1 else 0)), (8, .int (s 1 j)), (0, .ref (a 112)), (3, .int (sumN (s 7) j)), (4, .int (qsF s j)), (5, .int (plM s j)), (6, .int 1), (7, .int (nI j))]) hx hb dL_areDialsSo_111 rfl hl (by decide) rfl (fun ls hl => ?_)
            refine lv_iload_n hx hb dL_areDialsSo_112 rfl (lv_at hl 6 rfl) ?_
            refine lv_aload_n hx hb dL_areDialsSo_113 rfl (lv_at hl 5 rfl) ?_
            refine lv_iload hx hb dL_areDialsSo_114 (lv_at hl 10 rfl) ?_
            refine lv_iconst (v := 0) hx hb dL_areDialsSo_116 (by decide) ?_
            refine rw_i hS (va_runV (As := [.int (nI j), .int 0]) (rest := [.int (sumN (s 7) j)]) ⟨hx, hb, hml, hown, hts⟩ (a_X6_says l D cI cS a u49 s sz hf hok j 0 (by omega) (by omega) _) (cwV 2 hts (gV tw547 tw544 tw545 tw546 tw1) rfl rfl rfl (by decide +kernel) ⟨Nat.le_of_ble_eq_true rfl, Nat.le_of_ble_eq_true rfl⟩) (pvW 112 hK hP hE (by decide) xc112 rfl) rfl rfl hl.1 rfl (lv_room (Nat.le_of_ble_eq_true rfl)) dL_areDialsSo_117 ⟨Nat.le_of_ble_eq_true rfl, Nat.le_of_ble_eq_true rfl⟩) (fun r54 u55 H locs hr53 hP hS => ?_)
            obtain ⟨hr9, hok⟩ := hr53
            subst hr9
            refine lv_iadd hx hb dL_areDialsSo_120 ?_
            refine lv_istore_n (lv' := [(3, .int ((sumN (s 7) j) + (s 7 j))), (2, .int ((offC s j) + (if offB s j then 1 else 0))), (1, .int ((sumN (s 6) j) + (s 6 j))), (10, .int (wordA s j)), (9, .int (if offB s j then 1 else 0)), (8, .int (s 1 j)), (0, .ref (a 112)), (4, .int (qsF s j)), (5, .int (plM s j)), (6, .int 1), (7, .int (nI j))]) hx hb dL_areDialsSo_121 rfl hl (by decide) rfl (fun ls hl => ?_)
            refine lv_iload hx hb dL_areDialsSo_122 (lv_at hl 7 rfl) ?_
            refine lv_aload_n hx hb dL_areDialsSo_124 rfl (lv_at hl 6 rfl) ?_
            refine lv_iload hx hb dL_areDialsSo_125 (lv_at hl 10 rfl) ?_
            refine lv_iconst (v := 5) hx hb dL_areDialsSo_127 (by decide) ?_
            refine rw_i hS (va_runV (As := [.int (nI j), .int 5]) (rest := [.int (qsF s j)]) ⟨hx, hb, hml, hown, hts⟩ (a_X6_says l D cI cS a u55 s sz hf hok j 5 (by omega) (by omega) _) (cwV 2 hts (gV tw547 tw544 tw545 tw546 tw1) rfl rfl rfl (by decide +kernel) ⟨Nat.le_of_ble_eq_true rfl, Nat.le_of_ble_eq_true rfl⟩) (pvW 112 hK hP hE (by decide) xc112 rfl) rfl rfl hl.1 rfl (lv_room (Nat.le_of_ble_eq_true rfl)) dL_areDialsSo_128 ⟨Nat.le_of_ble_eq_true rfl, Nat.le_of_ble_eq_true rfl⟩) (fun r57 u58 H locs hr56 hP hS => ?_)
            obtain ⟨hr9, hok⟩ := hr56
            subst hr9
            refine lv_iadd hx hb dL_areDialsSo_131 ?_
            refine lv_istore (lv' := [(4, .int ((qsF s j) + (wardN s j 5))), (3, .int ((sumN (s 7) j) + (s 7 j))), (2, .int ((offC s j) + (if offB s j then 1 else 0))), (1, .int ((sumN (s 6) j) + (s 6 j))), (10, .int (wordA s j)), (9, .int (if offB s j then 1 else 0)), (8, .int (s 1 j)), (0, .ref (a 112)), (5, .int (plM s j)), (6, .int 1), (7, .int (nI j))]) hx hb dL_areDialsSo_132 hl (by decide) rfl (fun ls hl => ?_)
            refine lv_iload hx hb dL_areDialsSo_134 (lv_at hl 8 rfl) ?_
            refine lv_iconst (v := 1) hx hb dL_areDialsSo_136 (by decide) ?_
            refine lv_aload_n hx hb dL_areDialsSo_137 rfl (lv_at hl 7 rfl) ?_
            refine lv_iload hx hb dL_areDialsSo_138 (lv_at hl 10 rfl) ?_
            refine lv_iconst (v := 4) hx hb dL_areDialsSo_140 (by decide) ?_
            refine rw_i hS (va_runV (As := [.int (nI j), .int 4]) (rest := [.int 1, .int (plM s j)]) ⟨hx, hb, hml, hown, hts⟩ (a_X6_says l D cI cS a u58 s sz hf hok j 4 (by omega) (by omega) _) (cwV 2 hts (gV tw547 tw544 tw545 tw546 tw1) rfl rfl rfl (by decide +kernel) ⟨Nat.le_of_ble_eq_true rfl, Nat.le_of_ble_eq_true rfl⟩) (pvW 112 hK hP hE (by decide) xc112 rfl) rfl rfl hl.1 rfl (lv_room (Nat.le_of_ble_eq_true rfl)) dL_areDialsSo_141 ⟨Nat.le_of_ble_eq_true rfl, Nat.le_of_ble_eq_true rfl⟩) (fun r60 u61 H locs hr59 hP hS => ?_)
            obtain ⟨hr9, hok⟩ := hr59
            subst hr9
            refine lv_ishl hx hb dL_areDialsSo_144 ?_
            refine lv_ior hx hb dL_areDialsSo_145 ?_
            refine lv_istore (lv' := [(5, .int ((plM s j) ||| (1 <<< ((nI (plcN (wordA s) j 7)) &&& 31)))), (4, .int ((qsF s j) + (wardN s j 5))), (3, .int ((sumN (s 7) j) + (s 7 j))), (2, .int ((offC s j) + (if offB s j then 1 else 0))), (1, .int ((sumN (s 6) j) + (s 6 j))), (10, .int (wordA s j)), (9, .int (if offB s j then 1 else 0)), (8, .int (s 1 j)), (0, .ref (a 112)), (6, .int 1), (7, .int (nI j))]) hx hb dL_areDialsSo_146 hl (by decide) rfl (fun ls hl => ?_)
            refine lv_aload_n hx hb dL_areDialsSo_148 rfl (lv_at hl 8 rfl) ?_
            refine lv_iload hx hb dL_areDialsSo_149 (lv_at hl 10 rfl) ?_
            refine lv_iconst (v := 2) hx hb dL_areDialsSo_151 (by decide) ?_
            refine rw_i hS (va_runV (As := [.int (nI j), .int 2]) (rest := []) ⟨hx, hb, hml, hown, hts⟩ (a_X6_says l D cI cS a u61 s sz hf hok j 2 (by omega) (by omega) _) (cwV 2 hts (gV tw547 tw544 tw545 tw546 tw1) rfl rfl rfl (by decide +kernel) ⟨Nat.le_of_ble_eq_true rfl, Nat.le_of_ble_eq_true rfl⟩) (pvW 112 hK hP hE (by decide) xc112 rfl) rfl rfl hl.1 rfl (lv_room (Nat.le_of_ble_eq_true rfl)) dL_areDialsSo_152 ⟨Nat.le_of_ble_eq_true rfl, Nat.le_of_ble_eq_true rfl⟩) (fun r63 u64 H locs hr62 hP hS => ?_)
            obtain ⟨hr9, hok⟩ := hr62
            subst hr9
            refine lv_aload_n hx hb dL_areDialsSo_155 rfl (lv_at hl 8 rfl) ?_
            refine lv_iload hx hb dL_areDialsSo_156 (lv_at hl 10 rfl) ?_
            refine lv_iconst (v := 1) hx hb dL_areDialsSo_158 (by decide) ?_
            refine lv_iadd hx hb dL_areDialsSo_159 ?_
            refine lv_as (y := nI (j + 1)) (nI_add2 (p := j) (q := 1) rfl rfl) ?_
            refine lv_bipush (v := 7) hx hb dL_areDialsSo_160 (by decide) ?_
            refine lv_irem hx hb dL_areDialsSo_162 (by decide) ?_
            refine lv_as (y := nI ((j + 1) % 7)) (nI_rem2 (p := j + 1) (q := 7) rfl rfl (by omega) (by omega) (by omega)) ?_
            refine lv_iconst (v := 2) hx hb dL_areDialsSo_163 (by decide) ?_
            refine rw_i hS (va_runV (As := [.int (nI ((j + 1) % 7)), .int 2]) (rest := [.int (wordA s j)]) ⟨hx, hb, hml, hown, hts⟩ (a_X6_says l D cI cS a u64 s sz hf hok ((j + 1) % 7) 2 (by omega) (by omega) _) (cwV 2 hts (gV tw547 tw544 tw545 tw546 tw1) rfl rfl rfl (by decide +kernel) ⟨Nat.le_of_ble_eq_true rfl, Nat.le_of_ble_eq_true rfl⟩) (pvW 112 hK hP hE (by decide) xc112 rfl) rfl rfl hl.1 rfl (lv_room (Nat.le_of_ble_eq_true rfl)) dL_areDialsSo_164 ⟨Nat.le_of_ble_eq_true rfl, Nat.le_of_ble_eq_true rfl⟩) (fun r66 u67 H locs hr65 hP hS => ?_)
            obtain ⟨hr9, hok⟩ := hr65
            subst hr9
            refine lv_isub hx hb dL_areDialsSo_167 ?_
            refine ro_i (va_runS (As := [.int ((wordA s j) - (wordA s ((j + 1) % 7)))]) (rest := []) ⟨hx, hb, hml, hown, hts⟩ (m_L_size l (wordA s j) (wordA s ((j + 1) % 7)) word_ok.1 word_ok.1) (va_cwS 1 hts (gS tw539 tw537 tw538 tw0) rfl rfl rfl (by decide +kernel) ⟨Nat.le_of_ble_eq_true rfl, Nat.le_of_ble_eq_true rfl⟩) ps0 rfl rfl hl.1 rfl (lv_room (Nat.le_of_ble_eq_true rfl)) dL_areDialsSo_168 ⟨Nat.le_of_ble_eq_true rfl, Nat.le_of_ble_eq_true rfl⟩) (fun r69 hr68 => ?_)
            subst hr68
            refine lv_aload_n hx hb dL_areDialsSo_171 rfl (lv_at hl 8 rfl) ?_
            refine lv_iconst (v := 0) hx hb dL_areDialsSo_172 (by decide) ?_
            refine ro_i (va_runV (As := [.int 0]) (rest := [.int (distI (wordA s j) (wordA s ((j + 1) % 7)))]) ⟨hx, hb, hml, hown, hts⟩ (a_X6_setting l D cI cS a u67 s sz hf hok 0 (by omega)) (cwV 1 hts (gV tw543 tw540 tw541 tw542 tw1) rfl rfl rfl (by decide +kernel) ⟨Nat.le_of_ble_eq_true rfl, Nat.le_of_ble_eq_true rfl⟩) (pvR 112 hK hP (by decide) xc112 rfl) rfl rfl hl.1 rfl (lv_room (Nat.le_of_ble_eq_true rfl)) dL_areDialsSo_173 ⟨Nat.le_of_ble_eq_true rfl, Nat.le_of_ble_eq_true rfl⟩) (fun r72 hr71 => ?_)
            subst hr71
            have cut184 : ∀ (H : Heap) (locs : List Loc), HP D 113 a (exU cI cS a u67) H → va_S (AX 113 a z.heap.size) z.heap H locs → ∀ ls : Array Slot, lv_has ls 13 [(5, .int ((plM s j) ||| (1 <<< ((nI (plcN (wordA s) j 7)) &&& 31)))), (4, .int ((qsF s j) + (wardN s j 5))), (3, .int ((sumN (s 7) j) + (s 7 j))), (2, .int ((offC s j) + (if offB s j then 1 else 0))), (1, .int ((sumN (s 6) j) + (s 6 j))), (10, .int (wordA s j)), (9, .int (if offB s j then 1 else 0)), (8, .int (s 1 j)), (0, .ref (a 112)), (6, .int 1), (7, .int (nI j))] → W p l e ({ frames := 6, cells := 0, slots := 0, locals := 131 } : Room) z m ([.ref (a 112)] : List Value).toArray below meth c H locs 0 0 (MQ below (va_Qi (fun (r : Int32) (u : WT) => r = 1 ∧ OKG T u s) (BW D 113 a (fun u => exU cI cS a u)) (AX 113 a z.heap.size)) ([.ref (a 112)] : List Value).toArray z 0 0 (AX 113 a z.heap.size)) (F0 m 184 ls [.int (if wqB s (wordA s j) (wordA s ((j + 1) % 7)) then 1 else 0)]) := by
              intro H locs hP hS ls hl
              refine lv_istore (lv' := [(11, .int (if wqB s (wordA s j) (wordA s ((j + 1) % 7)) then 1 else 0)), (5, .int ((plM s j) ||| (1 <<< ((nI (plcN (wordA s) j 7)) &&& 31)))), (4, .int ((qsF s j) + (wardN s j 5))), (3, .int ((sumN (s 7) j) + (s 7 j))), (2, .int ((offC s j) + (if offB s j then 1 else 0))), (1, .int ((sumN (s 6) j) + (s 6 j))), (10, .int (wordA s j)), (9, .int (if offB s j then 1 else 0)), (8, .int (s 1 j)), (0, .ref (a 112)), (6, .int 1), (7, .int (nI j))]) hx hb dL_areDialsSo_184 hl (by decide) rfl (fun ls hl => ?_)
              refine lv_iload hx hb dL_areDialsSo_186 (lv_at hl 10 rfl) ?_
              refine lv_if_eq (tgt := 321) hx hb dL_areDialsSo_188 (by decide) (fun h0 => absurd h0 (by decide)) (fun _ => ?_)
              refine lv_iload hx hb dL_areDialsSo_191 (lv_at hl 8 rfl) ?_
              refine lv_aload_n hx hb dL_areDialsSo_193 rfl (lv_at hl 9 rfl) ?_
              refine lv_iload hx hb dL_areDialsSo_194 (lv_at hl 11 rfl) ?_
              refine lv_iconst (v := 1) hx hb dL_areDialsSo_196 (by decide) ?_
              refine ro_i (va_runV (As := [.int (nI j), .int 1]) (rest := [.int (s 1 j)]) ⟨hx, hb, hml, hown, hts⟩ (a_X6_dial l D cI cS a u67 s sz hf hok j 1 (by omega) (by omega)) (cwV 2 hts (gV tw522 tw519 tw520 tw521 tw1) rfl rfl rfl (by decide +kernel) ⟨Nat.le_of_ble_eq_true rfl, Nat.le_of_ble_eq_true rfl⟩) (pvR 112 hK hP (by decide) xc112 rfl) rfl rfl hl.1 rfl (lv_room (Nat.le_of_ble_eq_true rfl)) dL_areDialsSo_197 ⟨Nat.le_of_ble_eq_true rfl, Nat.le_of_ble_eq_true rfl⟩) (fun r75 hr74 => ?_)
              subst hr74
              refine lv_icmp_ne (tgt := 321) hx hb dL_areDialsSo_200 (by decide) (fun h0 => absurd h0 (fun q9 => q9 (hG.acc (by omega)).symm)) (fun _ => ?_)
              refine lv_iload hx hb dL_areDialsSo_203 (lv_at hl 8 rfl) ?_
              refine lv_if_lt (tgt := 321) hx hb dL_areDialsSo_205 (by decide) (fun h0 => absurd h0 (hG.g1 (by omega)).1) (fun _ => ?_)
              refine lv_iload hx hb dL_areDialsSo_208 (lv_at hl 8 rfl) ?_
              refine lv_ldc hx hb hown (hts _ tw451) dL_areDialsSo_210 ?_
              refine lv_icmp_gt (tgt := 321) hx hb dL_areDialsSo_212 (by decide) (fun h0 => absurd h0 (hG.g1 (by omega)).2) (fun _ => ?_)
              refine lv_aload_n hx hb dL_areDialsSo_215 rfl (lv_at hl 9 rfl) ?_
              refine lv_iload hx hb dL_areDialsSo_216 (lv_at hl 11 rfl) ?_
              refine lv_iconst (v := 3) hx hb dL_areDialsSo_218 (by decide) ?_
              refine ro_i (va_runV (As := [.int (nI j), .int 3]) (rest := []) ⟨hx, hb, hml, hown, hts⟩ (a_X6_dial l D cI cS a u67 s sz hf hok j 3 (by omega) (by omega)) (cwV 2 hts (gV tw522 tw519 tw520 tw521 tw1) rfl rfl rfl (by decide +kernel) ⟨Nat.le_of_ble_eq_true rfl, Nat.le_of_ble_eq_true rfl⟩) (pvR 112 hK hP (by decide) xc112 rfl) rfl rfl hl.1 rfl (lv_room (Nat.le_of_ble_eq_true rfl)) dL_areDialsSo_219 ⟨Nat.le_of_ble_eq_true rfl, Nat.le_of_ble_eq_true rfl⟩) (fun r78 hr77 => ?_)
              subst hr77
              refine lv_iload hx hb dL_areDialsSo_222 (lv_at hl 8 rfl) ?_
              refine lv_bipush (v := 60) hx hb dL_areDialsSo_224 (by decide) ?_
              refine lv_idiv hx hb dL_areDialsSo_226 (by decide) ?_
              refine lv_icmp_ne (tgt := 321) hx hb dL_areDialsSo_227 (by decide) (fun h0 => absurd h0 (fun q9 => q9 rfl)) (fun _ => ?_)
              refine lv_aload_n hx hb dL_areDialsSo_230 rfl (lv_at hl 9 rfl) ?_
              refine lv_iload hx hb dL_areDialsSo_231 (lv_at hl 11 rfl) ?_
              refine lv_iconst (v := 5) hx hb dL_areDialsSo_233 (by decide) ?_
              refine ro_i (va_runV (As := [.int (nI j), .int 5]) (rest := []) ⟨hx, hb, hml, hown, hts⟩ (a_X6_dial l D cI cS a u67 s sz hf hok j 5 (by omega) (by omega)) (cwV 2 hts (gV tw522 tw519 tw520 tw521 tw1) rfl rfl rfl (by decide +kernel) ⟨Nat.le_of_ble_eq_true rfl, Nat.le_of_ble_eq_true rfl⟩) (pvR 112 hK hP (by decide) xc112 rfl) rfl rfl hl.1 rfl (lv_room (Nat.le_of_ble_eq_true rfl)) dL_areDialsSo_234 ⟨Nat.le_of_ble_eq_true rfl, Nat.le_of_ble_eq_true rfl⟩) (fun r81 hr80 => ?_)
              subst hr80
              refine lv_iload hx hb dL_areDialsSo_237 (lv_at hl 8 rfl) ?_
              refine lv_aload_n hx hb dL_areDialsSo_239 rfl (lv_at hl 9 rfl) ?_
              refine lv_iconst (v := 0) hx hb dL_areDialsSo_240 (by decide) ?_
              refine rw_i hS (va_runV (As := [.int 0]) (rest := [.int (s 1 j), .int (errI s j)]) ⟨hx, hb, hml, hown, hts⟩ (a_X6_count l D cI cS a u67 s sz hf hok 0 (by omega) _) (cwV 1 hts (gV tw179 tw176 tw177 tw178 tw1) rfl rfl rfl (by decide +kernel) ⟨Nat.le_of_ble_eq_true rfl, Nat.le_of_ble_eq_true rfl⟩) (pvW 112 hK hP hE (by decide) xc112 rfl) rfl rfl hl.1 rfl (lv_room (Nat.le_of_ble_eq_true rfl)) dL_areDialsSo_241 ⟨Nat.le_of_ble_eq_true rfl, Nat.le_of_ble_eq_true rfl⟩) (fun r84 u85 H locs hr83 hP hS => ?_)
              obtain ⟨hr9, hok⟩ := hr83
              subst hr9
              refine lv_isub hx hb dL_areDialsSo_244 ?_
              refine ro_i (va_runS (As := [.int ((s 1 j) - (s 0 0))]) (rest := [.int (errI s j)]) ⟨hx, hb, hml, hown, hts⟩ (m_L_size l (s 1 j) (s 0 0) (hG.n1 (by omega)) hG.n00) (va_cwS 1 hts (gS tw539 tw537 tw538 tw0) rfl rfl rfl (by decide +kernel) ⟨Nat.le_of_ble_eq_true rfl, Nat.le_of_ble_eq_true rfl⟩) ps0 rfl rfl hl.1 rfl (lv_room (Nat.le_of_ble_eq_true rfl)) dL_areDialsSo_245 ⟨Nat.le_of_ble_eq_true rfl, Nat.le_of_ble_eq_true rfl⟩) (fun r87 hr86 => ?_)
              subst hr86
              refine lv_icmp_ne (tgt := 321) hx hb dL_areDialsSo_248 (by decide) (fun h0 => absurd h0 (fun q9 => q9 rfl)) (fun _ => ?_)
              refine lv_aload_n hx hb dL_areDialsSo_251 rfl (lv_at hl 9 rfl) ?_
              refine lv_iload hx hb dL_areDialsSo_252 (lv_at hl 11 rfl) ?_
              refine lv_bipush (v := 6) hx hb dL_areDialsSo_254 (by decide) ?_
              refine ro_i (va_runV (As := [.int (nI j), .int 6]) (rest := []) ⟨hx, hb, hml, hown, hts⟩ (a_X6_dial l D cI cS a u85 s sz hf hok j 6 (by omega) (by omega)) (cwV 2 hts (gV tw522 tw519 tw520 tw521 tw1) rfl rfl rfl (by decide +kernel) ⟨Nat.le_of_ble_eq_true rfl, Nat.le_of_ble_eq_true rfl⟩) (pvR 112 hK hP (by decide) xc112 rfl) rfl rfl hl.1 rfl (lv_room (Nat.le_of_ble_eq_true rfl)) dL_areDialsSo_256 ⟨Nat.le_of_ble_eq_true rfl, Nat.le_of_ble_eq_true rfl⟩) (fun r90 hr89 => ?_)
              subst hr89
              refine lv_iload hx hb dL_areDialsSo_259 (lv_at hl 7 rfl) ?_
              refine lv_icmp_ne (tgt := 321) hx hb dL_areDialsSo_261 (by decide) (fun h0 => absurd h0 (fun q9 => q9 rfl)) (fun _ => ?_)
              refine lv_aload_n hx hb dL_areDialsSo_264 rfl (lv_at hl 9 rfl) ?_
              refine lv_iload hx hb dL_areDialsSo_265 (lv_at hl 11 rfl) ?_
              refine lv_iconst (v := 2) hx hb dL_areDialsSo_267 (by decide) ?_
              refine rw_i hS (va_runV (As := [.int (nI j), .int 2]) (rest := []) ⟨hx, hb, hml, hown, hts⟩ (a_X6_says l D cI cS a u85 s sz hf hok j 2 (by omega) (by omega) _) (cwV 2 hts (gV tw547 tw544 tw545 tw546 tw1) rfl rfl rfl (by decide +kernel) ⟨Nat.le_of_ble_eq_true rfl, Nat.le_of_ble_eq_true rfl⟩) (pvW 112 hK hP hE (by decide) xc112 rfl) rfl rfl hl.1 rfl (lv_room (Nat.le_of_ble_eq_true rfl)) dL_areDialsSo_268 ⟨Nat.le_of_ble_eq_true rfl, Nat.le_of_ble_eq_true rfl⟩) (fun r93 u94 H locs hr92 hP hS => ?_)
              obtain ⟨hr9, hok⟩ := hr92
              subst hr9
              refine lv_iload hx hb dL_areDialsSo_271 (lv_at hl 6 rfl) ?_
              refine lv_icmp_ne (tgt := 321) hx hb dL_areDialsSo_273 (by decide) (fun h0 => absurd h0 (fun q9 => q9 rfl)) (fun _ => ?_)
              refine lv_aload_n hx hb dL_areDialsSo_276 rfl (lv_at hl 9 rfl) ?_
              refine lv_iload hx hb dL_areDialsSo_277 (lv_at hl 11 rfl) ?_
              refine lv_iconst (v := 0) hx hb dL_areDialsSo_279 (by decide) ?_
              refine rw_i hS (va_runV (As := [.int (nI j), .int 0]) (rest := []) ⟨hx, hb, hml, hown, hts⟩ (a_X6_says l D cI cS a u94 s sz hf hok j 0 (by omega) (by omega) _) (cwV 2 hts (gV tw547 tw544 tw545 tw546 tw1) rfl rfl rfl (by decide +kernel) ⟨Nat.le_of_ble_eq_true rfl, Nat.le_of_ble_eq_true rfl⟩) (pvW 112 hK hP hE (by decide) xc112 rfl) rfl rfl hl.1 rfl (lv_room (Nat.le_of_ble_eq_true rfl)) dL_areDialsSo_280 ⟨Nat.le_of_ble_eq_true rfl, Nat.le_of_ble_eq_true rfl⟩) (fun r96 u97 H locs hr95 hP hS => ?_)
              obtain ⟨hr9, hok⟩ := hr95
              subst hr9
              refine lv_if_lt (tgt := 321) hx hb dL_areDialsSo_283 (by decide) (fun h0 => absurd h0 (hG.g7 (by omega)).1) (fun _ => ?_)
              refine lv_aload_n hx hb dL_areDialsSo_286 rfl (lv_at hl 9 rfl) ?_
              refine lv_iload hx hb dL_areDialsSo_287 (lv_at hl 11 rfl) ?_
              refine lv_iconst (v := 0) hx hb dL_areDialsSo_289 (by decide) ?_
              refine rw_i hS (va_runV (As := [.int (nI j), .int 0]) (rest := []) ⟨hx, hb, hml, hown, hts⟩ (a_X6_says l D cI cS a u97 s sz hf hok j 0 (by omega) (by omega) _) (cwV 2 hts (gV tw547 tw544 tw545 tw546 tw1) rfl rfl rfl (by decide +kernel) ⟨Nat.le_of_ble_eq_true rfl, Nat.le_of_ble_eq_true rfl⟩) (pvW 112 hK hP hE (by decide) xc112 rfl) rfl rfl hl.1 rfl (lv_room (Nat.le_of_ble_eq_true rfl)) dL_areDialsSo_290 ⟨Nat.le_of_ble_eq_true rfl, Nat.le_of_ble_eq_true rfl⟩) (fun r99 u100 H locs hr98 hP hS => ?_)
              obtain ⟨hr9, hok⟩ := hr98
              subst hr9
              refine lv_bipush (v := 10) hx hb dL_areDialsSo_293 (by decide) ?_
              refine lv_icmp_ge (tgt := 321) hx hb dL_areDialsSo_295 (by decide) (fun h0 => absurd h0 (hG.g7 (by omega)).2) (fun _ => ?_)
              refine lv_aload_n hx hb dL_areDialsSo_298 rfl (lv_at hl 9 rfl) ?_
              refine lv_iload hx hb dL_areDialsSo_299 (lv_at hl 11 rfl) ?_
              refine ro_i (va_runV (As := [.int (nI j)]) (rest := []) ⟨hx, hb, hml, hown, hts⟩ (a_X6_quarrelIn l D cI cS a u100 s sz hf hok j (by omega)) (cwV 1 hts (gV tw565 tw562 tw563 tw564 tw1) rfl rfl rfl (by decide +kernel) ⟨Nat.le_of_ble_eq_true rfl, Nat.le_of_ble_eq_true rfl⟩) (pvR 112 hK hP (by decide) xc112 rfl) rfl rfl hl.1 rfl (lv_room (Nat.le_of_ble_eq_true rfl)) dL_areDialsSo_301 ⟨Nat.le_of_ble_eq_true rfl, Nat.le_of_ble_eq_true rfl⟩) (fun r102 hr101 => ?_)
              subst hr101
              have cut312 : ∀ (H : Heap) (locs : List Loc), HP D 113 a (exU cI cS a u100) H → va_S (AX 113 a z.heap.size) z.heap H locs → ∀ ls : Array Slot, lv_has ls 13 [(11, .int (if wqB s (wordA s j) (wordA s ((j + 1) % 7)) then 1 else 0)), (5, .int ((plM s j) ||| (1 <<< ((nI (plcN (wordA s) j 7)) &&& 31)))), (4, .int ((qsF s j) + (wardN s j 5))), (3, .int ((sumN (s 7) j) + (s 7 j))), (2, .int ((offC s j) + (if offB s j then 1 else 0))), (1, .int ((sumN (s 6) j) + (s 6 j))), (10, .int (wordA s j)), (9, .int (if offB s j then 1 else 0)), (8, .int (s 1 j)), (0, .ref (a 112)), (6, .int 1), (7, .int (nI j))] → W p l e ({ frames := 6, cells := 0, slots := 0, locals := 131 } : Room) z m ([.ref (a 112)] : List Value).toArray below meth c H locs 0 0 (MQ below (va_Qi (fun (r : Int32) (u : WT) => r = 1 ∧ OKG T u s) (BW D 113 a (fun u => exU cI cS a u)) (AX 113 a z.heap.size)) ([.ref (a 112)] : List Value).toArray z 0 0 (AX 113 a z.heap.size)) (F0 m 312 ls [.int (if qIn s j = 0 then 1 else 0)]) := by
                intro H locs hP hS ls hl
                refine lv_iload hx hb dL_areDialsSo_312 (lv_at hl 0 rfl) ?_
                refine lv_icmp_ne (tgt := 321) hx hb dL_areDialsSo_314 (by decide) (fun h0 => absurd h0 (fun q9 => q9 (q0_if (by omega)))) (fun _ => ?_)
                refine lv_iconst (v := 1) hx hb dL_areDialsSo_317 (by decide) ?_
                refine lv_goto (tgt := 322) hx hb dL_areDialsSo_318 (by decide) ?_
                refine lv_istore (lv' := [(6, .int 1), (11, .int (if wqB s (wordA s j) (wordA s ((j + 1) % 7)) then 1 else 0)), (5, .int ((plM s j) ||| (1 <<< ((nI (plcN (wordA s) j 7)) &&& 31)))), (4, .int ((qsF s j) + (wardN s j 5))), (3, .int ((sumN (s 7) j) + (s 7 j))), (2, .int ((offC s j) + (if offB s j then 1 else 0))), (1, .int ((sumN (s 6) j) + (s 6 j))), (10, .int (wordA s j)), (9, .int (if offB s j then 1 else 0)), (8, .int (s 1 j)), (0, .ref (a 112)), (7, .int (nI j))]) hx hb dL_areDialsSo_322 hl (by decide) rfl (fun ls hl => ?_)
                refine lv_iconst (v := 0) hx hb dL_areDialsSo_324 (by decide) ?_
                refine lv_istore (lv' := [(12, .int 0), (6, .int 1), (11, .int (if wqB s (wordA s j) (wordA s ((j + 1) % 7)) then 1 else 0)), (5, .int ((plM s j) ||| (1 <<< ((nI (plcN (wordA s) j 7)) &&& 31)))), (4, .int ((qsF s j) + (wardN s j 5))), (3, .int ((sumN (s 7) j) + (s 7 j))), (2, .int ((offC s j) + (if offB s j then 1 else 0))), (1, .int ((sumN (s 6) j) + (s 6 j))), (10, .int (wordA s j)), (9, .int (if offB s j then 1 else 0)), (8, .int (s 1 j)), (0, .ref (a 112)), (7, .int (nI j))]) hx hb dL_areDialsSo_325 hl (by decide) rfl (fun ls hl => ?_)
                have loop327 : ∀ (fu : Nat) (kk : Nat) (u : WT), 7 + 1 ≤ kk + fu → (kk ≤ 7) → (UOk u s sz hf) → ∀ (H : Heap) (locs : List Loc), HP D 113 a (exU cI cS a u) H → va_S (AX 113 a z.heap.size) z.heap H locs → ∀ ls : Array Slot, lv_has ls 13 [(0, .ref (a 112)), (1, .int ((sumN (s 6) j) + (s 6 j))), (2, .int ((offC s j) + (if offB s j then 1 else 0))), (3, .int ((sumN (s 7) j) + (s 7 j))), (4, .int ((qsF s j) + (wardN s j 5))), (5, .int ((plM s j) ||| (1 <<< ((nI (plcN (wordA s) j 7)) &&& 31)))), (6, .int 1), (7, .int (nI j)), (10, .int (wordA s j)), (12, .int (nI kk))] → W p l e ({ frames := 6, cells := 0, slots := 0, locals := 131 } : Room) z m ([.ref (a 112)] : List Value).toArray below meth c H locs 0 0 (MQ below (va_Qi (fun (r : Int32) (u : WT) => r = 1 ∧ OKG T u s) (BW D 113 a (fun u => exU cI cS a u)) (AX 113 a z.heap.size)) ([.ref (a 112)] : List Value).toArray z 0 0 (AX 113 a z.heap.size)) (F0 m 327 ls []) := by
                  intro fu
                  induction fu with
                  | zero => intro kk u hn hkk hok; exact absurd hn (by omega)
                  | succ fu ih327 =>
                    intro kk u hn hkk hok H locs hP hS ls hl
                    refine lv_iload hx hb dL_areDialsSo_327 (lv_at hl 9 rfl) ?_
                    refine lv_bipush (v := 7) hx hb dL_areDialsSo_329 (by decide) ?_
                    refine lv_icmp_ge (tgt := 413) hx hb dL_areDialsSo_331 (by decide) (fun c104 => ?_) (fun c104 => ?_)
                    · skip
                      have c104x := Int32.not_lt.mpr c104
                      have c104n := (nI_le2 (p := 7) (q := kk) rfl rfl (by omega) (by omega)).mp c104
                      have c104n : 7 ≤ kk := c104n
                      have hjq : 7 = kk := by omega
                      subst hjq
                      refine lv_iinc (v := nI (j + 1)) (lv' := [(7, .int (nI (j + 1))), (0, .ref (a 112)), (1, .int ((sumN (s 6) j) + (s 6 j))), (2, .int ((offC s j) + (if offB s j then 1 else 0))), (3, .int ((sumN (s 7) j) + (s 7 j))), (4, .int ((qsF s j) + (wardN s j 5))), (5, .int ((plM s j) ||| (1 <<< ((nI (plcN (wordA s) j 7)) &&& 31)))), (6, .int 1), (10, .int (wordA s j)), (12, .int (nI 7))]) hx hb dL_areDialsSo_413 hl (k := 7) rfl (nI_add j 1) (by decide) rfl (fun ls hl => ?_)
                      refine lv_goto (tgt := 18) hx hb dL_areDialsSo_416 (by decide) ?_
                      exact ih18 (j + 1) u (by omega) (by omega) hok _ _ hP hS ls (lv_sub hl [1, 2, 3, 4, 5, 6, 7, 0] rfl)
                    · skip
                      have c104x := Int32.not_le.mp c104
                      have c104n := fun hq0 => c104 ((nI_le2 (p := 7) (q := kk) rfl rfl (by omega) (by omega)).mpr hq0)
                      have c104n : ¬ (7 ≤ kk) := c104n
                      refine lv_iload hx hb dL_areDialsSo_334 (lv_at hl 6 rfl) ?_
                      refine lv_if_eq (tgt := 404) hx hb dL_areDialsSo_336 (by decide) (fun h0 => absurd h0 (by decide)) (fun _ => ?_)
                      refine lv_aload_n hx hb dL_areDialsSo_339 rfl (lv_at hl 0 rfl) ?_
                      refine lv_iload hx hb dL_areDialsSo_340 (lv_at hl 7 rfl) ?_
                      refine lv_iconst (v := 4) hx hb dL_areDialsSo_342 (by decide) ?_
                      refine rw_i hS (va_runV (As := [.int (nI j), .int 4]) (rest := []) ⟨hx, hb, hml, hown, hts⟩ (a_X6_says l D cI cS a u s sz hf hok j 4 (by omega) (by omega) _) (cwV 2 hts (gV tw547 tw544 tw545 tw546 tw1) rfl rfl rfl (by decide +kernel) ⟨Nat.le_of_ble_eq_true rfl, Nat.le_of_ble_eq_true rfl⟩) (pvW 112 hK hP hE (by decide) xc112 rfl) rfl rfl hl.1 rfl (lv_room (Nat.le_of_ble_eq_true rfl)) dL_areDialsSo_343 ⟨Nat.le_of_ble_eq_true rfl, Nat.le_of_ble_eq_true rfl⟩) (fun r106 u107 H locs hr105 hP hS => ?_)
                      obtain ⟨hr9, hok⟩ := hr105
                      subst hr9
                      refine lv_aload_n hx hb dL_areDialsSo_346 rfl (lv_at hl 0 rfl) ?_
                      refine lv_iload hx hb dL_areDialsSo_347 (lv_at hl 9 rfl) ?_
                      refine lv_iconst (v := 4) hx hb dL_areDialsSo_349 (by decide) ?_
                      refine rw_i hS (va_runV (As := [.int (nI kk), .int 4]) (rest := [.int (nI (plcN (wordA s) j 7))]) ⟨hx, hb, hml, hown, hts⟩ (a_X6_says l D cI cS a u107 s sz hf hok kk 4 (by omega) (by omega) _) (cwV 2 hts (gV tw547 tw544 tw545 tw546 tw1) rfl rfl rfl (by decide +kernel) ⟨Nat.le_of_ble_eq_true rfl, Nat.le_of_ble_eq_true rfl⟩) (pvW 112 hK hP hE (by decide) xc112 rfl) rfl rfl hl.1 rfl (lv_room (Nat.le_of_ble_eq_true rfl)) dL_areDialsSo_350 ⟨Nat.le_of_ble_eq_true rfl, Nat.le_of_ble_eq_true rfl⟩) (fun r109 u110 H locs hr108 hP hS => ?_)
                      obtain ⟨hr9, hok⟩ := hr108
                      subst hr9
                      have cut361 : ∀ (H : Heap) (locs : List Loc), HP D 113 a (exU cI cS a u110) H → va_S (AX 113 a z.heap.size) z.heap H locs → ∀ ls : Array Slot, lv_has ls 13 [(0, .ref (a 112)), (1, .int ((sumN (s 6) j) + (s 6 j))), (2, .int ((offC s j) + (if offB s j then 1 else 0))), (3, .int ((sumN (s 7) j) + (s 7 j))), (4, .int ((qsF s j) + (wardN s j 5))), (5, .int ((plM s j) ||| (1 <<< ((nI (plcN (wordA s) j 7)) &&& 31)))), (6, .int 1), (7, .int (nI j)), (10, .int (wordA s j)), (12, .int (nI kk))] → W p l e ({ frames := 6, cells := 0, slots := 0, locals := 131 } : Room) z m ([.ref (a 112)] : List Value).toArray below meth c H locs 0 0 (MQ below (va_Qi (fun (r : Int32) (u : WT) => r = 1 ∧ OKG T u s) (BW D 113 a (fun u => exU cI cS a u)) (AX 113 a z.heap.size)) ([.ref (a 112)] : List Value).toArray z 0 0 (AX 113 a z.heap.size)) (F0 m 361 ls [.int (if plcN (wordA s) kk 7 < plcN (wordA s) j 7 then 1 else 0)]) := by
                        intro H locs hP hS ls hl
                        refine lv_iload hx hb dL_areDialsSo_361 (lv_at hl 8 rfl) ?_
                        refine lv_aload_n hx hb dL_areDialsSo_363 rfl (lv_at hl 0 rfl) ?_
                        refine lv_iload hx hb dL_areDialsSo_364 (lv_at hl 9 rfl) ?_
                        refine lv_iconst (v := 2) hx hb dL_areDialsSo_366 (by decide) ?_
                        refine rw_i hS (va_runV (As := [.int (nI kk), .int 2]) (rest := [.int (wordA s j), .int (if plcN (wordA s) kk 7 < plcN (wordA s) j 7 then 1 else 0)]) ⟨hx, hb, hml, hown, hts⟩ (a_X6_says l D cI cS a u110 s sz hf hok kk 2 (by omega) (by omega) _) (cwV 2 hts (gV tw547 tw544 tw545 tw546 tw1) rfl rfl rfl (by decide +kernel) ⟨Nat.le_of_ble_eq_true rfl, Nat.le_of_ble_eq_true rfl⟩) (pvW 112 hK hP hE (by decide) xc112 rfl) rfl rfl hl.1 rfl (lv_room (Nat.le_of_ble_eq_true rfl)) dL_areDialsSo_367 ⟨Nat.le_of_ble_eq_true rfl, Nat.le_of_ble_eq_true rfl⟩) (fun r112 u113 H locs hr111 hP hS => ?_)
                        obtain ⟨hr9, hok⟩ := hr111
                        subst hr9
                        have cut397 : ∀ (u : WT), (UOk u s sz hf) → ∀ (H : Heap) (locs : List Loc), HP D 113 a (exU cI cS a u) H → va_S (AX 113 a z.heap.size) z.heap H locs → ∀ ls : Array Slot, lv_has ls 13 [(0, .ref (a 112)), (1, .int ((sumN (s 6) j) + (s 6 j))), (2, .int ((offC s j) + (if offB s j then 1 else 0))), (3, .int ((sumN (s 7) j) + (s 7 j))), (4, .int ((qsF s j) + (wardN s j 5))), (5, .int ((plM s j) ||| (1 <<< ((nI (plcN (wordA s) j 7)) &&& 31)))), (6, .int 1), (7, .int (nI j)), (10, .int (wordA s j)), (12, .int (nI kk))] → W p l e ({ frames := 6, cells := 0, slots := 0, locals := 131 } : Room) z m ([.ref (a 112)] : List Value).toArray below meth c H locs 0 0 (MQ below (va_Qi (fun (r : Int32) (u : WT) => r = 1 ∧ OKG T u s) (BW D 113 a (fun u => exU cI cS a u)) (AX 113 a z.heap.size)) ([.ref (a 112)] : List Value).toArray z 0 0 (AX 113 a z.heap.size)) (F0 m 397 ls [.int (if wordA s kk < wordA s j ∨ (wordA s j = wordA s kk ∧ kk < j) then 1 else 0), .int (if plcN (wordA s) kk 7 < plcN (wordA s) j 7 then 1 else 0)]) := by
                          intro u hok H locs hP hS ls hl
                          refine lv_icmp_ne (tgt := 404) hx hb dL_areDialsSo_397 (by decide) (fun h0 => absurd h0 (fun q9 => q9 (plc_cmp (by omega) (by omega)))) (fun _ => ?_)
                          refine lv_iconst (v := 1) hx hb dL_areDialsSo_400 (by decide) ?_
                          refine lv_goto (tgt := 405) hx hb dL_areDialsSo_401 (by decide) ?_
                          refine lv_istore (lv' := [(6, .int 1), (0, .ref (a 112)), (1, .int ((sumN (s 6) j) + (s 6 j))), (2, .int ((offC s j) + (if offB s j then 1 else 0))), (3, .int ((sumN (s 7) j) + (s 7 j))), (4, .int ((qsF s j) + (wardN s j 5))), (5, .int ((plM s j) ||| (1 <<< ((nI (plcN (wordA s) j 7)) &&& 31)))), (7, .int (nI j)), (10, .int (wordA s j)), (12, .int (nI kk))]) hx hb dL_areDialsSo_405 hl (by decide) rfl (fun ls hl => ?_)
                          refine lv_iinc (v := nI (kk + 1)) (lv' := [(12, .int (nI (kk + 1))), (6, .int 1), (0, .ref (a 112)), (1, .int ((sumN (s 6) j) + (s 6 j))), (2, .int ((offC s j) + (if offB s j then 1 else 0))), (3, .int ((sumN (s 7) j) + (s 7 j))), (4, .int ((qsF s j) + (wardN s j 5))), (5, .int ((plM s j) ||| (1 <<< ((nI (plcN (wordA s) j 7)) &&& 31)))), (7, .int (nI j)), (10, .int (wordA s j))]) hx hb dL_areDialsSo_407 hl (k := 9) rfl (nI_add kk 1) (by decide) rfl (fun ls hl => ?_)
                          refine lv_goto (tgt := 327) hx hb dL_areDialsSo_410 (by decide) ?_
                          exact ih327 (kk + 1) u (by omega) (by omega) hok _ _ hP hS ls (lv_sub hl [2, 3, 4, 5, 6, 7, 1, 8, 9, 0] rfl)
                        refine lv_icmp_gt (tgt := 392) hx hb dL_areDialsSo_370 (by decide) (fun c114 => ?_) (fun c114 => ?_)
                        · skip
                          have c114x := Int32.not_le.mpr c114
                          refine lv_iconst (v := 1) hx hb dL_areDialsSo_392 (by decide) ?_
                          refine lv_goto (tgt := 397) hx hb dL_areDialsSo_393 (by decide) ?_
                          refine lv_as (y := if wordA s kk < wordA s j ∨ (wordA s j = wordA s kk ∧ kk < j) then 1 else 0) (if_pos (Or.inl c114)).symm ?_
                          exact cut397 u113 hok _ _ hP hS ls (lv_sub hl [0, 1, 2, 3, 4, 5, 6, 7, 8, 9] rfl)
                        · skip
                          have c114x := Int32.not_lt.mp c114
                          refine lv_iload hx hb dL_areDialsSo_373 (lv_at hl 8 rfl) ?_
                          refine lv_aload_n hx hb dL_areDialsSo_375 rfl (lv_at hl 0 rfl) ?_
                          refine lv_iload hx hb dL_areDialsSo_376 (lv_at hl 9 rfl) ?_
                          refine lv_iconst (v := 2) hx hb dL_areDialsSo_378 (by decide) ?_
                          refine rw_i hS (va_runV (As := [.int (nI kk), .int 2]) (rest := [.int (wordA s j), .int (if plcN (wordA s) kk 7 < plcN (wordA s) j 7 then 1 else 0)]) ⟨hx, hb, hml, hown, hts⟩ (a_X6_says l D cI cS a u113 s sz hf hok kk 2 (by omega) (by omega) _) (cwV 2 hts (gV tw547 tw544 tw545 tw546 tw1) rfl rfl rfl (by decide +kernel) ⟨Nat.le_of_ble_eq_true rfl, Nat.le_of_ble_eq_true rfl⟩) (pvW 112 hK hP hE (by decide) xc112 rfl) rfl rfl hl.1 rfl (lv_room (Nat.le_of_ble_eq_true rfl)) dL_areDialsSo_379 ⟨Nat.le_of_ble_eq_true rfl, Nat.le_of_ble_eq_true rfl⟩) (fun r116 u117 H locs hr115 hP hS => ?_)
                          obtain ⟨hr9, hok⟩ := hr115
                          subst hr9
                          refine lv_icmp_ne (tgt := 396) hx hb dL_areDialsSo_382 (by decide) (fun c118 => ?_) (fun c118 => ?_)
                          · skip
                            refine lv_iconst (v := 0) hx hb dL_areDialsSo_396 (by decide) ?_
                            refine lv_as (y := if wordA s kk < wordA s j ∨ (wordA s j = wordA s kk ∧ kk < j) then 1 else 0) (if_neg (fun q9 => q9.elim (fun q8 => c114 q8) (fun q8 => c118 q8.1))).symm ?_
                            exact cut397 u117 hok _ _ hP hS ls (lv_sub hl [0, 1, 2, 3, 4, 5, 6, 7, 8, 9] rfl)
                          · skip
                            refine lv_iload hx hb dL_areDialsSo_385 (lv_at hl 7 rfl) ?_
                            refine lv_iload hx hb dL_areDialsSo_387 (lv_at hl 9 rfl) ?_
                            refine lv_icmp_le (tgt := 396) hx hb dL_areDialsSo_389 (by decide) (fun c119 => ?_) (fun c119 => ?_)
                            · skip
                              have c119x := Int32.not_lt.mpr c119
                              have c119n := (nI_le2 (p := j) (q := kk) rfl rfl (by omega) (by omega)).mp c119
                              have c119n : j ≤ kk := c119n
                              refine lv_iconst (v := 0) hx hb dL_areDialsSo_396 (by decide) ?_
                              refine lv_as (y := if wordA s kk < wordA s j ∨ (wordA s j = wordA s kk ∧ kk < j) then 1 else 0) (if_neg (fun q9 => q9.elim (fun q8 => c114 q8) (fun q8 => absurd q8.2 (by omega)))).symm ?_
                              exact cut397 u117 hok _ _ hP hS ls (lv_sub hl [0, 1, 2, 3, 4, 5, 6, 7, 8, 9] rfl)
                            · skip
                              have c119x := Int32.not_le.mp c119
                              have c119n := fun hq0 => c119 ((nI_le2 (p := j) (q := kk) rfl rfl (by omega) (by omega)).mpr hq0)
                              have c119n : ¬ (j ≤ kk) := c119n
                              refine lv_iconst (v := 1) hx hb dL_areDialsSo_392 (by decide) ?_
                              refine lv_goto (tgt := 397) hx hb dL_areDialsSo_393 (by decide) ?_
                              refine lv_as (y := if wordA s kk < wordA s j ∨ (wordA s j = wordA s kk ∧ kk < j) then 1 else 0) (if_pos (Or.inr ⟨c118, by omega⟩)).symm ?_
                              exact cut397 u117 hok _ _ hP hS ls (lv_sub hl [0, 1, 2, 3, 4, 5, 6, 7, 8, 9] rfl)
                      have hp1 := plcN_lt (f := wordA s) (w := j) (by omega)
                      have hp2 := plcN_lt (f := wordA s) (w := kk) (by omega)
                      refine lv_icmp_le (tgt := 360) hx hb dL_areDialsSo_353 (by decide) (fun c120 => ?_) (fun c120 => ?_)
                      · skip
                        have c120x := Int32.not_lt.mpr c120
                        have c120n := (nI_le2 (p := plcN (wordA s) j 7) (q := plcN (wordA s) kk 7) rfl rfl (by omega) (by omega)).mp c120
                        have c120n : plcN (wordA s) j 7 ≤ plcN (wordA s) kk 7 := c120n
                        refine lv_iconst (v := 0) hx hb dL_areDialsSo_360 (by decide) ?_
                        refine lv_as (y := if plcN (wordA s) kk 7 < plcN (wordA s) j 7 then 1 else 0) (if_neg (by omega)).symm ?_
                        exact cut361 _ _ hP hS ls (lv_sub hl [0, 1, 2, 3, 4, 5, 6, 7, 8, 9] rfl)
                      · skip
                        have c120x := Int32.not_le.mp c120
                        have c120n := fun hq0 => c120 ((nI_le2 (p := plcN (wordA s) j 7) (q := plcN (wordA s) kk 7) rfl rfl (by omega) (by omega)).mpr hq0)
                        have c120n : ¬ (plcN (wordA s) j 7 ≤ plcN (wordA s) kk 7) := c120n
                        refine lv_iconst (v := 1) hx hb dL_areDialsSo_356 (by decide) ?_
                        refine lv_goto (tgt := 361) hx hb dL_areDialsSo_357 (by decide) ?_
                        refine lv_as (y := if plcN (wordA s) kk 7 < plcN (wordA s) j 7 then 1 else 0) (if_pos (by omega)).symm ?_
                        exact cut361 _ _ hP hS ls (lv_sub hl [0, 1, 2, 3, 4, 5, 6, 7, 8, 9] rfl)
                exact loop327 (7 + 1) 0 u100 (by omega) (by omega) hok _ _ hP hS ls (lv_sub hl [11, 7, 6, 5, 4, 3, 1, 12, 8, 0] rfl)
              refine lv_if_ne (tgt := 311) hx hb dL_areDialsSo_304 (by decide) (fun c121 => ?_) (fun c121 => ?_)
              · skip
                refine lv_iconst (v := 0) hx hb dL_areDialsSo_311 (by decide) ?_
                refine lv_as (y := if qIn s j = 0 then 1 else 0) (if_neg c121).symm ?_
                exact cut312 _ _ hP hS ls (lv_sub hl [0, 1, 2, 3, 4, 5, 6, 7, 8, 9, 10, 11] rfl)
              · skip
                refine lv_iconst (v := 1) hx hb dL_areDialsSo_307 (by decide) ?_
                refine lv_goto (tgt := 312) hx hb dL_areDialsSo_308 (by decide) ?_
                refine lv_as (y := if qIn s j = 0 then 1 else 0) (if_pos c121).symm ?_
                exact cut312 _ _ hP hS ls (lv_sub hl [0, 1, 2, 3, 4, 5, 6, 7, 8, 9, 10, 11] rfl)
            refine lv_icmp_le (tgt := 183) hx hb dL_areDialsSo_176 (by decide) (fun c122 => ?_) (fun c122 => ?_)
            · skip
              have c122x := Int32.not_lt.mpr c122
              refine lv_iconst (v := 0) hx hb dL_areDialsSo_183 (by decide) ?_
              refine lv_as (y := if wqB s (wordA s j) (wordA s ((j + 1) % 7)) then 1 else 0) (if_neg c122x).symm ?_
              exact cut184 _ _ hP hS ls (lv_sub hl [0, 1, 2, 3, 4, 5, 6, 7, 8, 9, 10] rfl)
            · skip
              have c122x := Int32.not_le.mp c122
              refine lv_iconst (v := 1) hx hb dL_areDialsSo_179 (by decide) ?_
              refine lv_goto (tgt := 184) hx hb dL_areDialsSo_180 (by decide) ?_
              refine lv_as (y := if wqB s (wordA s j) (wordA s ((j + 1) % 7)) then 1 else 0) (if_pos c122x).symm ?_
              exact cut184 _ _ hP hS ls (lv_sub hl [0, 1, 2, 3, 4, 5, 6, 7, 8, 9, 10] rfl)
          refine lv_if_ge (tgt := 81) hx hb dL_areDialsSo_74 (by decide) (fun c123 => ?_) (fun c123 => ?_)
          · skip
            have c123x := Int32.not_lt.mpr c123
            refine lv_iload hx hb dL_areDialsSo_81 (lv_at hl 0 rfl) ?_
            refine lv_ldc hx hb hown (hts _ tw451) dL_areDialsSo_83 ?_
            refine lv_icmp_le (tgt := 93) hx hb dL_areDialsSo_85 (by decide) (fun c124 => ?_) (fun c124 => ?_)
            · skip
              have c124x := Int32.not_lt.mpr c124
              refine lv_iload hx hb dL_areDialsSo_93 (lv_at hl 0 rfl) ?_
              refine lv_as (y := wordA s j) (show s 1 j + s 8 j = wordA s j from ((if_neg c123x).trans (if_neg c124x)).symm) ?_
              exact cut95 _ _ hP hS ls (lv_sub hl [0, 1, 2, 3, 4, 5, 6, 7, 8, 9, 10] rfl)
            · skip
              have c124x := Int32.not_le.mp c124
              refine lv_ldc hx hb hown (hts _ tw451) dL_areDialsSo_88 ?_
              refine lv_goto (tgt := 95) hx hb dL_areDialsSo_90 (by decide) ?_
              refine lv_as (y := wordA s j) (show (99999 : Int32) = wordA s j from ((if_neg c123x).trans (if_pos c124x)).symm) ?_
              exact cut95 _ _ hP hS ls (lv_sub hl [0, 1, 2, 3, 4, 5, 6, 7, 8, 9, 10] rfl)
          · skip
            have c123x := Int32.not_le.mp c123
            refine lv_iconst (v := 0) hx hb dL_areDialsSo_77 (by decide) ?_
            refine lv_goto (tgt := 95) hx hb dL_areDialsSo_78 (by decide) ?_
            refine lv_as (y := wordA s j) (show (0 : Int32) = wordA s j from (if_pos c123x).symm) ?_
            exact cut95 _ _ hP hS ls (lv_sub hl [0, 1, 2, 3, 4, 5, 6, 7, 8, 9, 10] rfl)
        refine lv_icmp_le (tgt := 57) hx hb dL_areDialsSo_50 (by decide) (fun c125 => ?_) (fun c125 => ?_)
        · skip
          have c125x := Int32.not_lt.mpr c125
          refine lv_iconst (v := 0) hx hb dL_areDialsSo_57 (by decide) ?_
          refine lv_as (y := if offB s j then 1 else 0) (if_neg c125x).symm ?_
          exact cut58 _ _ hP hS ls (lv_sub hl [0, 1, 2, 3, 4, 5, 6, 7, 8] rfl)
        · skip
          have c125x := Int32.not_le.mp c125
          refine lv_iconst (v := 1) hx hb dL_areDialsSo_53 (by decide) ?_
          refine lv_goto (tgt := 58) hx hb dL_areDialsSo_54 (by decide) ?_
          refine lv_as (y := if offB s j then 1 else 0) (if_pos c125x).symm ?_
          exact cut58 _ _ hP hS ls (lv_sub hl [0, 1, 2, 3, 4, 5, 6, 7, 8] rfl)
  exact loop18 (7 + 1) 0 u (by omega) (by omega) hok _ _ hP hS ls (lv_sub hl [7, 6, 5, 4, 3, 2, 1, 0] rfl)
