set_option maxHeartbeats 4000000 in
set_option maxRecDepth 100000 in
theorem m_L_isLaterSo (l : Launch) (D : va_G) (cI cS : ClassId) (a : Nat → Nat) (u : WT) (s : St) (T : Int) (hT : T ≤ 50000) (hO : OKG T u s) (d : Nat) (hd : d < 7) (zz : Nat) : Met l yL_isLaterSo (.code yL_isLaterSo cL_isLaterSo 10 (some .boolean) :: wsA) ({ frames := 6, cells := 0, slots := 0, locals := 131 } : Room) (va_Pc [.ref (a 112), .int (nI d)] (PW D cI cS 113 a (exU cI cS a u) zz)) (va_Qi (fun (r : Int32) (u : WT) => r = 1 ∧ OKG T u s) (BW D 113 a (fun u => exU cI cS a u)) (AX 113 a zz)) 0 0 (AX 113 a zz) := by
  refine mgo (by decide) (Nat.le_of_ble_eq_true rfl) ?_
  intro p e z m below meth c hx hb hr hml hown hts hlocks hB ls hl
  obtain ⟨hsz, hP, hK, hE⟩ := hB
  subst hsz
  have hS : va_S (AX 113 a z.heap.size) z.heap z.heap [] := va_S.rf
  have hl : lv_has ls 10 [(0, .ref (a 112)), (1, .int (nI d))] := hl
  obtain ⟨sz, hf, hok, hG, hH⟩ := hO
  have hsz6 := hok.2.1
  have hsq := svQ_lt hsz6
  have hsq2 := svQ_lt (sz := svQ sz + 1) (by omega)
  have hsq3 := svQ_1 (n := svQ sz)
  refine lv_aload_n hx hb dL_isLaterSo_0 rfl (lv_at hl 0 rfl) ?_
  refine lv_iload_n hx hb dL_isLaterSo_1 rfl (lv_at hl 1 rfl) ?_
  refine ro_i (va_runV (As := [.int (nI d)]) (rest := []) ⟨hx, hb, hml, hown, hts⟩ (a_X6_ringsIn l D cI cS a u s sz hf hok d (by omega)) (cwV 1 hts (gV tw610 tw607 tw608 tw609 tw1) rfl rfl rfl (by decide +kernel) ⟨Nat.le_of_ble_eq_true rfl, Nat.le_of_ble_eq_true rfl⟩) (pvR 112 hK hP (by decide) xc112 rfl) rfl rfl hl.1 rfl (lv_room (Nat.le_of_ble_eq_true rfl)) dL_isLaterSo_2 ⟨Nat.le_of_ble_eq_true rfl, Nat.le_of_ble_eq_true rfl⟩) (fun r2 hr1 => ?_)
  subst hr1
  refine lv_istore_n (lv' := [(2, .int (rIn s d)), (0, .ref (a 112)), (1, .int (nI d))]) hx hb dL_isLaterSo_5 rfl hl (by decide) rfl (fun ls hl => ?_)
  refine lv_aload_n hx hb dL_isLaterSo_6 rfl (lv_at hl 1 rfl) ?_
  refine lv_iload_n hx hb dL_isLaterSo_7 rfl (lv_at hl 2 rfl) ?_
  refine ro_i (va_runV (As := [.int (nI d)]) (rest := []) ⟨hx, hb, hml, hown, hts⟩ (a_X6_quarrelIn l D cI cS a u s sz hf hok d (by omega)) (cwV 1 hts (gV tw565 tw562 tw563 tw564 tw1) rfl rfl rfl (by decide +kernel) ⟨Nat.le_of_ble_eq_true rfl, Nat.le_of_ble_eq_true rfl⟩) (pvR 112 hK hP (by decide) xc112 rfl) rfl rfl hl.1 rfl (lv_room (Nat.le_of_ble_eq_true rfl)) dL_isLaterSo_8 ⟨Nat.le_of_ble_eq_true rfl, Nat.le_of_ble_eq_true rfl⟩) (fun r5 hr4 => ?_)
  subst hr4
  refine lv_istore_n (lv' := [(3, .int (qIn s d)), (2, .int (rIn s d)), (0, .ref (a 112)), (1, .int (nI d))]) hx hb dL_isLaterSo_11 rfl hl (by decide) rfl (fun ls hl => ?_)
  refine lv_aload_n hx hb dL_isLaterSo_12 rfl (lv_at hl 2 rfl) ?_
  refine lv_iload_n hx hb dL_isLaterSo_13 rfl (lv_at hl 3 rfl) ?_
  refine lv_iconst (v := 4) hx hb dL_isLaterSo_14 (by decide) ?_
  refine ro_i (va_runV (As := [.int (nI d), .int 4]) (rest := []) ⟨hx, hb, hml, hown, hts⟩ (a_X6_dial l D cI cS a u s sz hf hok d 4 (by omega) (by omega)) (cwV 2 hts (gV tw522 tw519 tw520 tw521 tw1) rfl rfl rfl (by decide +kernel) ⟨Nat.le_of_ble_eq_true rfl, Nat.le_of_ble_eq_true rfl⟩) (pvR 112 hK hP (by decide) xc112 rfl) rfl rfl hl.1 rfl (lv_room (Nat.le_of_ble_eq_true rfl)) dL_isLaterSo_15 ⟨Nat.le_of_ble_eq_true rfl, Nat.le_of_ble_eq_true rfl⟩) (fun r8 hr7 => ?_)
  subst hr7
  refine lv_istore (lv' := [(4, .int (s 6 d)), (3, .int (qIn s d)), (2, .int (rIn s d)), (0, .ref (a 112)), (1, .int (nI d))]) hx hb dL_isLaterSo_18 hl (by decide) rfl (fun ls hl => ?_)
  refine lv_aload_n hx hb dL_isLaterSo_20 rfl (lv_at hl 3 rfl) ?_
  refine lv_iload_n hx hb dL_isLaterSo_21 rfl (lv_at hl 4 rfl) ?_
  refine rw_i hS (va_runV (As := [.int (nI d)]) (rest := []) ⟨hx, hb, hml, hown, hts⟩ (a_X6_wins l D cI cS a u s sz hf hok d (by omega) _) (cwV 1 hts (gV tw618 tw615 tw616 tw617 tw1) rfl rfl rfl (by decide +kernel) ⟨Nat.le_of_ble_eq_true rfl, Nat.le_of_ble_eq_true rfl⟩) (pvW 112 hK hP hE (by decide) xc112 rfl) rfl rfl hl.1 rfl (lv_room (Nat.le_of_ble_eq_true rfl)) dL_isLaterSo_22 ⟨Nat.le_of_ble_eq_true rfl, Nat.le_of_ble_eq_true rfl⟩) (fun r11 u12 H locs hr10 hP hS => ?_)
  obtain ⟨hr9, hok⟩ := hr10
  subst hr9
  refine lv_istore (lv' := [(5, .int (winF s d 9 1)), (4, .int (s 6 d)), (3, .int (qIn s d)), (2, .int (rIn s d)), (0, .ref (a 112)), (1, .int (nI d))]) hx hb dL_isLaterSo_25 hl (by decide) rfl (fun ls hl => ?_)
  have cut264 : ∀ (u : WT) (sz : Nat) (hf : Nat → St), (UOk u s sz hf) → (GH (Gd T) sz hf) → ∀ (H : Heap) (locs : List Loc), HP D 113 a (exU cI cS a u) H → va_S (AX 113 a z.heap.size) z.heap H locs → ∀ ls : Array Slot, lv_has ls 10 [(0, .ref (a 112)), (1, .int (nI d)), (5, .int (winF s d 9 1)), (6, .int 1)] → W p l e ({ frames := 6, cells := 0, slots := 0, locals := 131 } : Room) z m ([.ref (a 112), .int (nI d)] : List Value).toArray below meth c H locs 0 0 (MQ below (va_Qi (fun (r : Int32) (u : WT) => r = 1 ∧ OKG T u s) (BW D 113 a (fun u => exU cI cS a u)) (AX 113 a z.heap.size)) ([.ref (a 112), .int (nI d)] : List Value).toArray z 0 0 (AX 113 a z.heap.size)) (F0 m 264 ls []) := by
    intro u sz hf hok hH H locs hP hS ls hl
    have hsz6 := hok.2.1
    have hsq := svQ_lt hsz6
    have hsq2 := svQ_lt (sz := svQ sz + 1) (by omega)
    have hsq3 := svQ_1 (n := svQ sz)
    rcases winF_spec (s := s) (d := d) with ⟨hW, hw1⟩ | ⟨w9, h91, h92, hW, hw1, hw2⟩
    · skip
      rw [hW] at hl
      refine lv_iconst (v := 1) hx hb dL_isLaterSo_264 (by decide) ?_
      refine lv_istore (lv' := [(7, .int 1), (0, .ref (a 112)), (1, .int (nI d)), (5, .int (-1)), (6, .int 1)]) hx hb dL_isLaterSo_265 hl (by decide) rfl (fun ls hl => ?_)
      have loop267 : ∀ (fu : Nat) (kk : Nat) (u : WT) (sz : Nat) (hf : Nat → St), 10 + 1 ≤ kk + fu → (1 ≤ kk ∧ kk ≤ 10) → (UOk u s sz hf) → (GH (Gd T) sz hf) → ∀ (H : Heap) (locs : List Loc), HP D 113 a (exU cI cS a u) H → va_S (AX 113 a z.heap.size) z.heap H locs → ∀ ls : Array Slot, lv_has ls 10 [(0, .ref (a 112)), (1, .int (nI d)), (5, .int (-1)), (6, .int 1), (7, .int (nI kk))] → W p l e ({ frames := 6, cells := 0, slots := 0, locals := 131 } : Room) z m ([.ref (a 112), .int (nI d)] : List Value).toArray below meth c H locs 0 0 (MQ below (va_Qi (fun (r : Int32) (u : WT) => r = 1 ∧ OKG T u s) (BW D 113 a (fun u => exU cI cS a u)) (AX 113 a z.heap.size)) ([.ref (a 112), .int (nI d)] : List Value).toArray z 0 0 (AX 113 a z.heap.size)) (F0 m 267 ls []) := by
        intro fu
        induction fu with
        | zero => intro kk u sz hf hn hk hok hH; exact absurd hn (by omega)
        | succ fu ih267 =>
          intro kk u sz hf hn hk hok hH H locs hP hS ls hl
          have hsz6 := hok.2.1
          have hsq := svQ_lt hsz6
          have hsq2 := svQ_lt (sz := svQ sz + 1) (by omega)
          have hsq3 := svQ_1 (n := svQ sz)
          refine lv_iload hx hb dL_isLaterSo_267 (lv_at hl 4 rfl) ?_
          refine lv_bipush (v := 9) hx hb dL_isLaterSo_269 (by decide) ?_
          refine lv_icmp_gt (tgt := 381) hx hb dL_isLaterSo_271 (by decide) (fun c13 => ?_) (fun c13 => ?_)
          · skip
            have c13x := Int32.not_le.mpr c13
            have c13n := (nI_lt2 (p := 9) (q := kk) rfl rfl (by omega) (by omega)).mp c13
            have c13n : 9 < kk := c13n
            refine lv_iload hx hb dL_isLaterSo_381 (lv_at hl 3 rfl) ?_
            exact rw_ir hx hb hr rfl hlocks hS u hP ⟨rfl, _, _, hok, hG, hH⟩ dL_isLaterSo_383
          · skip
            have c13x := Int32.not_lt.mp c13
            have c13n := fun hq0 => c13 ((nI_lt2 (p := 9) (q := kk) rfl rfl (by omega) (by omega)).mpr hq0)
            have c13n : ¬ (9 < kk) := c13n
            refine lv_iload hx hb dL_isLaterSo_274 (lv_at hl 2 rfl) ?_
            refine lv_if_lt (tgt := 286) hx hb dL_isLaterSo_276 (by decide) (fun _ => ?_) (fun h0 => absurd (by decide) h0)
            refine lv_aload_n hx hb dL_isLaterSo_286 rfl (lv_at hl 0 rfl) ?_
            refine lv_iload_n hx hb dL_isLaterSo_287 rfl (lv_at hl 1 rfl) ?_
            refine lv_iload hx hb dL_isLaterSo_288 (lv_at hl 4 rfl) ?_
            refine lv_aload_n hx hb dL_isLaterSo_290 rfl (lv_at hl 0 rfl) ?_
            refine lv_iload_n hx hb dL_isLaterSo_291 rfl (lv_at hl 1 rfl) ?_
            refine lv_iconst (v := 1) hx hb dL_isLaterSo_292 (by decide) ?_
            refine rw_i hS (va_runV (As := [.int (nI d), .int 1]) (rest := [.int (nI kk), .int (nI d), .ref (a 112)]) ⟨hx, hb, hml, hown, hts⟩ (a_X6_says l D cI cS a u s sz hf hok d 1 (by omega) (by omega) _) (cwV 2 hts (gV tw547 tw544 tw545 tw546 tw1) rfl rfl rfl (by decide +kernel) ⟨Nat.le_of_ble_eq_true rfl, Nat.le_of_ble_eq_true rfl⟩) (pvW 112 hK hP hE (by decide) xc112 rfl) rfl rfl hl.1 rfl (lv_room (Nat.le_of_ble_eq_true rfl)) dL_isLaterSo_293 ⟨Nat.le_of_ble_eq_true rfl, Nat.le_of_ble_eq_true rfl⟩) (fun r15 u16 H locs hr14 hP hS => ?_)
            obtain ⟨hr9, hok⟩ := hr14
            subst hr9
            refine rw_i hS (va_runV (As := [.int (nI d), .int (nI kk), .int (s 8 d)]) (rest := []) ⟨hx, hb, hml, hown, hts⟩ (a_X6_warden l D cI cS a u16 s sz hf hok d (by omega) (nI kk) (s 8 d) (nI_n0 (by omega)) (nI_le9 (by omega)) (hG.g8 hd).1 (hG.g8 hd).2 _) (cwV 3 hts (gV tw490 tw487 tw488 tw489 tw1) rfl rfl rfl (by decide +kernel) ⟨Nat.le_of_ble_eq_true rfl, Nat.le_of_ble_eq_true rfl⟩) (pvW 112 hK hP hE (by decide) xc112 rfl) rfl rfl hl.1 rfl (lv_room (Nat.le_of_ble_eq_true rfl)) dL_isLaterSo_296 ⟨Nat.le_of_ble_eq_true rfl, Nat.le_of_ble_eq_true rfl⟩) (fun r18 u19 H locs hr17 hP hS => ?_)
            obtain ⟨hr9, hok⟩ := hr17
            subst hr9
            refine lv_istore (lv' := [(8, .int (s 7 d)), (0, .ref (a 112)), (1, .int (nI d)), (5, .int (-1)), (6, .int 1), (7, .int (nI kk))]) hx hb dL_isLaterSo_299 hl (by decide) rfl (fun ls hl => ?_)
            refine lv_iload hx hb dL_isLaterSo_301 (lv_at hl 4 rfl) ?_
            refine lv_if_eq (tgt := 349) hx hb dL_isLaterSo_303 (by decide) (fun h0 => absurd h0 (by decide)) (fun _ => ?_)
            refine lv_iload hx hb dL_isLaterSo_306 (lv_at hl 0 rfl) ?_
            refine lv_if_lt (tgt := 349) hx hb dL_isLaterSo_308 (by decide) (fun h0 => absurd h0 (hG.g7 hd).1) (fun _ => ?_)
            refine lv_aload_n hx hb dL_isLaterSo_311 rfl (lv_at hl 1 rfl) ?_
            refine lv_iconst (v := 2) hx hb dL_isLaterSo_312 (by decide) ?_
            refine rw_i hS (va_runV (As := [.int 2]) (rest := []) ⟨hx, hb, hml, hown, hts⟩ (a_X6_count l D cI cS a u19 (up2 (up2 s 7 d (nI kk)) 8 d (s 8 d)) (svQ sz + 1) (svH hf sz s) hok 2 (by omega) _) (cwV 1 hts (gV tw179 tw176 tw177 tw178 tw1) rfl rfl rfl (by decide +kernel) ⟨Nat.le_of_ble_eq_true rfl, Nat.le_of_ble_eq_true rfl⟩) (pvW 112 hK hP hE (by decide) xc112 rfl) rfl rfl hl.1 rfl (lv_room (Nat.le_of_ble_eq_true rfl)) dL_isLaterSo_313 ⟨Nat.le_of_ble_eq_true rfl, Nat.le_of_ble_eq_true rfl⟩) (fun r21 u22 H locs hr20 hP hS => ?_)
            obtain ⟨hr9, hok⟩ := hr20
            subst hr9
            refine lv_aload_n hx hb dL_isLaterSo_316 rfl (lv_at hl 1 rfl) ?_
            refine lv_iload_n hx hb dL_isLaterSo_317 rfl (lv_at hl 2 rfl) ?_
            refine lv_iconst (v := 2) hx hb dL_isLaterSo_318 (by decide) ?_
            refine rw_i hS (va_runV (As := [.int (nI d), .int 2]) (rest := [.int (midI (wordA (up2 (up2 s 7 d (nI kk)) 8 d (s 8 d))) ((up2 (up2 s 7 d (nI kk)) 8 d (s 8 d)) 7))]) ⟨hx, hb, hml, hown, hts⟩ (a_X6_says l D cI cS a u22 (up2 (up2 s 7 d (nI kk)) 8 d (s 8 d)) (svQ sz + 1) (svH hf sz s) hok d 2 (by omega) (by omega) _) (cwV 2 hts (gV tw547 tw544 tw545 tw546 tw1) rfl rfl rfl (by decide +kernel) ⟨Nat.le_of_ble_eq_true rfl, Nat.le_of_ble_eq_true rfl⟩) (pvW 112 hK hP hE (by decide) xc112 rfl) rfl rfl hl.1 rfl (lv_room (Nat.le_of_ble_eq_true rfl)) dL_isLaterSo_319 ⟨Nat.le_of_ble_eq_true rfl, Nat.le_of_ble_eq_true rfl⟩) (fun r24 u25 H locs hr23 hP hS => ?_)
            obtain ⟨hr9, hok⟩ := hr23
            subst hr9
            have cut330 : ∀ (H : Heap) (locs : List Loc), HP D 113 a (exU cI cS a u25) H → va_S (AX 113 a z.heap.size) z.heap H locs → ∀ ls : Array Slot, lv_has ls 10 [(8, .int (s 7 d)), (0, .ref (a 112)), (1, .int (nI d)), (5, .int (-1)), (6, .int 1), (7, .int (nI kk))] → W p l e ({ frames := 6, cells := 0, slots := 0, locals := 131 } : Room) z m ([.ref (a 112), .int (nI d)] : List Value).toArray below meth c H locs 0 0 (MQ below (va_Qi (fun (r : Int32) (u : WT) => r = 1 ∧ OKG T u s) (BW D 113 a (fun u => exU cI cS a u)) (AX 113 a z.heap.size)) ([.ref (a 112), .int (nI d)] : List Value).toArray z 0 0 (AX 113 a z.heap.size)) (F0 m 330 ls [.int (if midW s d (nI kk) = wordA s d then 1 else 0)]) := by
              intro H locs hP hS ls hl
              refine lv_iload hx hb dL_isLaterSo_330 (lv_at hl 5 rfl) ?_
              refine lv_iload hx hb dL_isLaterSo_332 (lv_at hl 3 rfl) ?_
              have cut342 : ∀ (H : Heap) (locs : List Loc), HP D 113 a (exU cI cS a u25) H → va_S (AX 113 a z.heap.size) z.heap H locs → ∀ ls : Array Slot, lv_has ls 10 [(8, .int (s 7 d)), (0, .ref (a 112)), (1, .int (nI d)), (5, .int (-1)), (6, .int 1), (7, .int (nI kk))] → W p l e ({ frames := 6, cells := 0, slots := 0, locals := 131 } : Room) z m ([.ref (a 112), .int (nI d)] : List Value).toArray below meth c H locs 0 0 (MQ below (va_Qi (fun (r : Int32) (u : WT) => r = 1 ∧ OKG T u s) (BW D 113 a (fun u => exU cI cS a u)) (AX 113 a z.heap.size)) ([.ref (a 112), .int (nI d)] : List Value).toArray z 0 0 (AX 113 a z.heap.size)) (F0 m 342 ls [.int 0, .int (if midW s d (nI kk) = wordA s d then 1 else 0)]) := by
                intro H locs hP hS ls hl
                refine lv_icmp_ne (tgt := 349) hx hb dL_isLaterSo_342 (by decide) (fun h0 => absurd h0 (fun q9 => q9 (if_neg (hw1 kk (by omega) (by omega))))) (fun _ => ?_)
                refine lv_iconst (v := 1) hx hb dL_isLaterSo_345 (by decide) ?_
                refine lv_goto (tgt := 350) hx hb dL_isLaterSo_346 (by decide) ?_
                refine lv_istore (lv' := [(6, .int 1), (8, .int (s 7 d)), (0, .ref (a 112)), (1, .int (nI d)), (5, .int (-1)), (7, .int (nI kk))]) hx hb dL_isLaterSo_350 hl (by decide) rfl (fun ls hl => ?_)
                refine lv_aload_n hx hb dL_isLaterSo_352 rfl (lv_at hl 2 rfl) ?_
                refine rw_i hS (va_runV (As := []) (rest := []) ⟨hx, hb, hml, hown, hts⟩ (a_X6_undo l D cI cS a u25 (up2 (up2 s 7 d (nI kk)) 8 d (s 8 d)) (svQ sz + 1) (svH hf sz s) hok (by omega) _) (cwV 0 hts (gV tw510 tw507 tw508 tw509 tw1) rfl rfl rfl (by decide +kernel) ⟨Nat.le_of_ble_eq_true rfl, Nat.le_of_ble_eq_true rfl⟩) (pvW 112 hK hP hE (by decide) xc112 rfl) rfl rfl hl.1 rfl (lv_room (Nat.le_of_ble_eq_true rfl)) dL_isLaterSo_353 ⟨Nat.le_of_ble_eq_true rfl, Nat.le_of_ble_eq_true rfl⟩) (fun r27 u28 H locs hr26 hP hS => ?_)
                obtain ⟨hr9, hok⟩ := hr26
                subst hr9
                rw [svH_top] at hok
                refine lv_istore (lv' := [(9, .int (nI ((svQ sz + 1) - 1))), (6, .int 1), (8, .int (s 7 d)), (0, .ref (a 112)), (1, .int (nI d)), (5, .int (-1)), (7, .int (nI kk))]) hx hb dL_isLaterSo_356 hl (by decide) rfl (fun ls hl => ?_)
                refine lv_iload hx hb dL_isLaterSo_358 (lv_at hl 1 rfl) ?_
                refine lv_if_eq (tgt := 372) hx hb dL_isLaterSo_360 (by decide) (fun h0 => absurd h0 (by decide)) (fun _ => ?_)
                refine lv_iload hx hb dL_isLaterSo_363 (lv_at hl 0 rfl) ?_
                refine lv_if_lt (tgt := 372) hx hb dL_isLaterSo_365 (by decide) (fun h0 => absurd h0 (nI_n0 (by omega))) (fun _ => ?_)
                refine lv_iconst (v := 1) hx hb dL_isLaterSo_368 (by decide) ?_
                refine lv_goto (tgt := 373) hx hb dL_isLaterSo_369 (by decide) ?_
                refine lv_istore (lv' := [(6, .int 1), (9, .int (nI ((svQ sz + 1) - 1))), (8, .int (s 7 d)), (0, .ref (a 112)), (1, .int (nI d)), (5, .int (-1)), (7, .int (nI kk))]) hx hb dL_isLaterSo_373 hl (by decide) rfl (fun ls hl => ?_)
                refine lv_iinc (v := nI (kk + 1)) (lv' := [(7, .int (nI (kk + 1))), (6, .int 1), (9, .int (nI ((svQ sz + 1) - 1))), (8, .int (s 7 d)), (0, .ref (a 112)), (1, .int (nI d)), (5, .int (-1))]) hx hb dL_isLaterSo_375 hl (k := 6) rfl (nI_add kk 1) (by decide) rfl (fun ls hl => ?_)
                refine lv_goto (tgt := 267) hx hb dL_isLaterSo_378 (by decide) ?_
                exact ih267 (kk + 1) u28 ((svQ sz + 1) - 1) (svH hf sz s) (by omega) (⟨by omega, by omega⟩) hok ((hH.sv hsz6 hG).le (by omega)) _ _ hP hS ls (lv_sub hl [4, 5, 6, 1, 0] rfl)
              refine lv_icmp_ne (tgt := 341) hx hb dL_isLaterSo_334 (by decide) (fun _ => ?_) (fun h0 => absurd h0 (nI_m1 (by omega)))
              refine lv_iconst (v := 0) hx hb dL_isLaterSo_341 (by decide) ?_
              exact cut342 _ _ hP hS ls (lv_sub hl [0, 1, 2, 3, 4, 5] rfl)
            refine lv_icmp_ne (tgt := 329) hx hb dL_isLaterSo_322 (by decide) (fun c29 => ?_) (fun c29 => ?_)
            · skip
              refine lv_iconst (v := 0) hx hb dL_isLaterSo_329 (by decide) ?_
              refine lv_as (y := if midW s d (nI kk) = wordA s d then 1 else 0) (if_neg (fun q9 => c29 (wd_mid.trans (q9.trans wd_word.symm)))).symm ?_
              exact cut330 _ _ hP hS ls (lv_sub hl [0, 1, 2, 3, 4, 5] rfl)
            · skip
              refine lv_iconst (v := 1) hx hb dL_isLaterSo_325 (by decide) ?_
              refine lv_goto (tgt := 330) hx hb dL_isLaterSo_326 (by decide) ?_
              refine lv_as (y := if midW s d (nI kk) = wordA s d then 1 else 0) (if_pos (wd_mid.symm.trans (c29.trans wd_word))).symm ?_
              exact cut330 _ _ hP hS ls (lv_sub hl [0, 1, 2, 3, 4, 5] rfl)
      exact loop267 (10 + 1) 1 u sz hf (by omega) (⟨by omega, by omega⟩) hok hH _ _ hP hS ls (lv_sub hl [1, 2, 3, 4, 0] rfl)
    · skip
      rw [hW] at hl
      refine lv_iconst (v := 1) hx hb dL_isLaterSo_264 (by decide) ?_
      refine lv_istore (lv' := [(7, .int 1), (0, .ref (a 112)), (1, .int (nI d)), (5, .int (nI w9)), (6, .int 1)]) hx hb dL_isLaterSo_265 hl (by decide) rfl (fun ls hl => ?_)
      have loop267 : ∀ (fu : Nat) (kk : Nat) (u : WT) (sz : Nat) (hf : Nat → St), 10 + 1 ≤ kk + fu → (1 ≤ kk ∧ kk ≤ 10) → (UOk u s sz hf) → (GH (Gd T) sz hf) → ∀ (H : Heap) (locs : List Loc), HP D 113 a (exU cI cS a u) H → va_S (AX 113 a z.heap.size) z.heap H locs → ∀ ls : Array Slot, lv_has ls 10 [(0, .ref (a 112)), (1, .int (nI d)), (5, .int (nI w9)), (6, .int 1), (7, .int (nI kk))] → W p l e ({ frames := 6, cells := 0, slots := 0, locals := 131 } : Room) z m ([.ref (a 112), .int (nI d)] : List Value).toArray below meth c H locs 0 0 (MQ below (va_Qi (fun (r : Int32) (u : WT) => r = 1 ∧ OKG T u s) (BW D 113 a (fun u => exU cI cS a u)) (AX 113 a z.heap.size)) ([.ref (a 112), .int (nI d)] : List Value).toArray z 0 0 (AX 113 a z.heap.size)) (F0 m 267 ls []) := by
        intro fu
        induction fu with
        | zero => intro kk u sz hf hn hk hok hH; exact absurd hn (by omega)
        | succ fu ih267 =>
          intro kk u sz hf hn hk hok hH H locs hP hS ls hl
          have hsz6 := hok.2.1
          have hsq := svQ_lt hsz6
          have hsq2 := svQ_lt (sz := svQ sz + 1) (by omega)
          have hsq3 := svQ_1 (n := svQ sz)
          refine lv_iload hx hb dL_isLaterSo_267 (lv_at hl 4 rfl) ?_
          refine lv_bipush (v := 9) hx hb dL_isLaterSo_269 (by decide) ?_
          refine lv_icmp_gt (tgt := 381) hx hb dL_isLaterSo_271 (by decide) (fun c30 => ?_) (fun c30 => ?_)
          · skip
            have c30x := Int32.not_le.mpr c30
            have c30n := (nI_lt2 (p := 9) (q := kk) rfl rfl (by omega) (by omega)).mp c30
            have c30n : 9 < kk := c30n
            refine lv_iload hx hb dL_isLaterSo_381 (lv_at hl 3 rfl) ?_
            exact rw_ir hx hb hr rfl hlocks hS u hP ⟨rfl, _, _, hok, hG, hH⟩ dL_isLaterSo_383
          · skip
            have c30x := Int32.not_lt.mp c30
            have c30n := fun hq0 => c30 ((nI_lt2 (p := 9) (q := kk) rfl rfl (by omega) (by omega)).mpr hq0)
            have c30n : ¬ (9 < kk) := c30n
            refine lv_iload hx hb dL_isLaterSo_274 (lv_at hl 2 rfl) ?_
            refine lv_if_lt (tgt := 286) hx hb dL_isLaterSo_276 (by decide) (fun h0 => absurd h0 (fun q9 => by have := (nI_lt2 (p := w9) (q := 0) rfl rfl (by omega) (by omega)).mp q9; omega)) (fun _ => ?_)
            refine lv_iload hx hb dL_isLaterSo_279 (lv_at hl 4 rfl) ?_
            refine lv_iload hx hb dL_isLaterSo_281 (lv_at hl 2 rfl) ?_
            refine lv_icmp_gt (tgt := 381) hx hb dL_isLaterSo_283 (by decide) (fun c31 => ?_) (fun c31 => ?_)
            · skip
              have c31x := Int32.not_le.mpr c31
              have c31n := (nI_lt2 (p := w9) (q := kk) rfl rfl (by omega) (by omega)).mp c31
              have c31n : w9 < kk := c31n
              refine lv_iload hx hb dL_isLaterSo_381 (lv_at hl 3 rfl) ?_
              exact rw_ir hx hb hr rfl hlocks hS u hP ⟨rfl, _, _, hok, hG, hH⟩ dL_isLaterSo_383
            · skip
              have c31x := Int32.not_lt.mp c31
              have c31n := fun hq0 => c31 ((nI_lt2 (p := w9) (q := kk) rfl rfl (by omega) (by omega)).mpr hq0)
              have c31n : ¬ (w9 < kk) := c31n
              refine lv_aload_n hx hb dL_isLaterSo_286 rfl (lv_at hl 0 rfl) ?_
              refine lv_iload_n hx hb dL_isLaterSo_287 rfl (lv_at hl 1 rfl) ?_
              refine lv_iload hx hb dL_isLaterSo_288 (lv_at hl 4 rfl) ?_
              refine lv_aload_n hx hb dL_isLaterSo_290 rfl (lv_at hl 0 rfl) ?_
              refine lv_iload_n hx hb dL_isLaterSo_291 rfl (lv_at hl 1 rfl) ?_
              refine lv_iconst (v := 1) hx hb dL_isLaterSo_292 (by decide) ?_
              refine rw_i hS (va_runV (As := [.int (nI d), .int 1]) (rest := [.int (nI kk), .int (nI d), .ref (a 112)]) ⟨hx, hb, hml, hown, hts⟩ (a_X6_says l D cI cS a u s sz hf hok d 1 (by omega) (by omega) _) (cwV 2 hts (gV tw547 tw544 tw545 tw546 tw1) rfl rfl rfl (by decide +kernel) ⟨Nat.le_of_ble_eq_true rfl, Nat.le_of_ble_eq_true rfl⟩) (pvW 112 hK hP hE (by decide) xc112 rfl) rfl rfl hl.1 rfl (lv_room (Nat.le_of_ble_eq_true rfl)) dL_isLaterSo_293 ⟨Nat.le_of_ble_eq_true rfl, Nat.le_of_ble_eq_true rfl⟩) (fun r33 u34 H locs hr32 hP hS => ?_)
              obtain ⟨hr9, hok⟩ := hr32
              subst hr9
              refine rw_i hS (va_runV (As := [.int (nI d), .int (nI kk), .int (s 8 d)]) (rest := []) ⟨hx, hb, hml, hown, hts⟩ (a_X6_warden l D cI cS a u34 s sz hf hok d (by omega) (nI kk) (s 8 d) (nI_n0 (by omega)) (nI_le9 (by omega)) (hG.g8 hd).1 (hG.g8 hd).2 _) (cwV 3 hts (gV tw490 tw487 tw488 tw489 tw1) rfl rfl rfl (by decide +kernel) ⟨Nat.le_of_ble_eq_true rfl, Nat.le_of_ble_eq_true rfl⟩) (pvW 112 hK hP hE (by decide) xc112 rfl) rfl rfl hl.1 rfl (lv_room (Nat.le_of_ble_eq_true rfl)) dL_isLaterSo_296 ⟨Nat.le_of_ble_eq_true rfl, Nat.le_of_ble_eq_true rfl⟩) (fun r36 u37 H locs hr35 hP hS => ?_)
              obtain ⟨hr9, hok⟩ := hr35
              subst hr9
              refine lv_istore (lv' := [(8, .int (s 7 d)), (0, .ref (a 112)), (1, .int (nI d)), (5, .int (nI w9)), (6, .int 1), (7, .int (nI kk))]) hx hb dL_isLaterSo_299 hl (by decide) rfl (fun ls hl => ?_)
              refine lv_iload hx hb dL_isLaterSo_301 (lv_at hl 4 rfl) ?_
              refine lv_if_eq (tgt := 349) hx hb dL_isLaterSo_303 (by decide) (fun h0 => absurd h0 (by decide)) (fun _ => ?_)
              refine lv_iload hx hb dL_isLaterSo_306 (lv_at hl 0 rfl) ?_
              refine lv_if_lt (tgt := 349) hx hb dL_isLaterSo_308 (by decide) (fun h0 => absurd h0 (hG.g7 hd).1) (fun _ => ?_)
              refine lv_aload_n hx hb dL_isLaterSo_311 rfl (lv_at hl 1 rfl) ?_
              refine lv_iconst (v := 2) hx hb dL_isLaterSo_312 (by decide) ?_
              refine rw_i hS (va_runV (As := [.int 2]) (rest := []) ⟨hx, hb, hml, hown, hts⟩ (a_X6_count l D cI cS a u37 (up2 (up2 s 7 d (nI kk)) 8 d (s 8 d)) (svQ sz + 1) (svH hf sz s) hok 2 (by omega) _) (cwV 1 hts (gV tw179 tw176 tw177 tw178 tw1) rfl rfl rfl (by decide +kernel) ⟨Nat.le_of_ble_eq_true rfl, Nat.le_of_ble_eq_true rfl⟩) (pvW 112 hK hP hE (by decide) xc112 rfl) rfl rfl hl.1 rfl (lv_room (Nat.le_of_ble_eq_true rfl)) dL_isLaterSo_313 ⟨Nat.le_of_ble_eq_true rfl, Nat.le_of_ble_eq_true rfl⟩) (fun r39 u40 H locs hr38 hP hS => ?_)
              obtain ⟨hr9, hok⟩ := hr38
              subst hr9
              refine lv_aload_n hx hb dL_isLaterSo_316 rfl (lv_at hl 1 rfl) ?_
              refine lv_iload_n hx hb dL_isLaterSo_317 rfl (lv_at hl 2 rfl) ?_
              refine lv_iconst (v := 2) hx hb dL_isLaterSo_318 (by decide) ?_
              refine rw_i hS (va_runV (As := [.int (nI d), .int 2]) (rest := [.int (midI (wordA (up2 (up2 s 7 d (nI kk)) 8 d (s 8 d))) ((up2 (up2 s 7 d (nI kk)) 8 d (s 8 d)) 7))]) ⟨hx, hb, hml, hown, hts⟩ (a_X6_says l D cI cS a u40 (up2 (up2 s 7 d (nI kk)) 8 d (s 8 d)) (svQ sz + 1) (svH hf sz s) hok d 2 (by omega) (by omega) _) (cwV 2 hts (gV tw547 tw544 tw545 tw546 tw1) rfl rfl rfl (by decide +kernel) ⟨Nat.le_of_ble_eq_true rfl, Nat.le_of_ble_eq_true rfl⟩) (pvW 112 hK hP hE (by decide) xc112 rfl) rfl rfl hl.1 rfl (lv_room (Nat.le_of_ble_eq_true rfl)) dL_isLaterSo_319 ⟨Nat.le_of_ble_eq_true rfl, Nat.le_of_ble_eq_true rfl⟩) (fun r42 u43 H locs hr41 hP hS => ?_)
              obtain ⟨hr9, hok⟩ := hr41
              subst hr9
              have cut330 : ∀ (H : Heap) (locs : List Loc), HP D 113 a (exU cI cS a u43) H → va_S (AX 113 a z.heap.size) z.heap H locs → ∀ ls : Array Slot, lv_has ls 10 [(8, .int (s 7 d)), (0, .ref (a 112)), (1, .int (nI d)), (5, .int (nI w9)), (6, .int 1), (7, .int (nI kk))] → W p l e ({ frames := 6, cells := 0, slots := 0, locals := 131 } : Room) z m ([.ref (a 112), .int (nI d)] : List Value).toArray below meth c H locs 0 0 (MQ below (va_Qi (fun (r : Int32) (u : WT) => r = 1 ∧ OKG T u s) (BW D 113 a (fun u => exU cI cS a u)) (AX 113 a z.heap.size)) ([.ref (a 112), .int (nI d)] : List Value).toArray z 0 0 (AX 113 a z.heap.size)) (F0 m 330 ls [.int (if midW s d (nI kk) = wordA s d then 1 else 0)]) := by
                intro H locs hP hS ls hl
                refine lv_iload hx hb dL_isLaterSo_330 (lv_at hl 5 rfl) ?_
                refine lv_iload hx hb dL_isLaterSo_332 (lv_at hl 3 rfl) ?_
                have cut342 : ∀ (H : Heap) (locs : List Loc), HP D 113 a (exU cI cS a u43) H → va_S (AX 113 a z.heap.size) z.heap H locs → ∀ ls : Array Slot, lv_has ls 10 [(8, .int (s 7 d)), (0, .ref (a 112)), (1, .int (nI d)), (5, .int (nI w9)), (6, .int 1), (7, .int (nI kk))] → W p l e ({ frames := 6, cells := 0, slots := 0, locals := 131 } : Room) z m ([.ref (a 112), .int (nI d)] : List Value).toArray below meth c H locs 0 0 (MQ below (va_Qi (fun (r : Int32) (u : WT) => r = 1 ∧ OKG T u s) (BW D 113 a (fun u => exU cI cS a u)) (AX 113 a z.heap.size)) ([.ref (a 112), .int (nI d)] : List Value).toArray z 0 0 (AX 113 a z.heap.size)) (F0 m 342 ls [.int (if kk = w9 then 1 else 0), .int (if midW s d (nI kk) = wordA s d then 1 else 0)]) := by
                  intro H locs hP hS ls hl
                  refine lv_icmp_ne (tgt := 349) hx hb dL_isLaterSo_342 (by decide) (fun h0 => absurd h0 (fun q9 => q9 (wn_eq (by omega) hw1 hw2))) (fun _ => ?_)
                  refine lv_iconst (v := 1) hx hb dL_isLaterSo_345 (by decide) ?_
                  refine lv_goto (tgt := 350) hx hb dL_isLaterSo_346 (by decide) ?_
                  refine lv_istore (lv' := [(6, .int 1), (8, .int (s 7 d)), (0, .ref (a 112)), (1, .int (nI d)), (5, .int (nI w9)), (7, .int (nI kk))]) hx hb dL_isLaterSo_350 hl (by decide) rfl (fun ls hl => ?_)
                  refine lv_aload_n hx hb dL_isLaterSo_352 rfl (lv_at hl 2 rfl) ?_
                  refine rw_i hS (va_runV (As := []) (rest := []) ⟨hx, hb, hml, hown, hts⟩ (a_X6_undo l D cI cS a u43 (up2 (up2 s 7 d (nI kk)) 8 d (s 8 d)) (svQ sz + 1) (svH hf sz s) hok (by omega) _) (cwV 0 hts (gV tw510 tw507 tw508 tw509 tw1) rfl rfl rfl (by decide +kernel) ⟨Nat.le_of_ble_eq_true rfl, Nat.le_of_ble_eq_true rfl⟩) (pvW 112 hK hP hE (by decide) xc112 rfl) rfl rfl hl.1 rfl (lv_room (Nat.le_of_ble_eq_true rfl)) dL_isLaterSo_353 ⟨Nat.le_of_ble_eq_true rfl, Nat.le_of_ble_eq_true rfl⟩) (fun r45 u46 H locs hr44 hP hS => ?_)
                  obtain ⟨hr9, hok⟩ := hr44
                  subst hr9
                  rw [svH_top] at hok
                  refine lv_istore (lv' := [(9, .int (nI ((svQ sz + 1) - 1))), (6, .int 1), (8, .int (s 7 d)), (0, .ref (a 112)), (1, .int (nI d)), (5, .int (nI w9)), (7, .int (nI kk))]) hx hb dL_isLaterSo_356 hl (by decide) rfl (fun ls hl => ?_)
                  refine lv_iload hx hb dL_isLaterSo_358 (lv_at hl 1 rfl) ?_
                  refine lv_if_eq (tgt := 372) hx hb dL_isLaterSo_360 (by decide) (fun h0 => absurd h0 (by decide)) (fun _ => ?_)
                  refine lv_iload hx hb dL_isLaterSo_363 (lv_at hl 0 rfl) ?_
                  refine lv_if_lt (tgt := 372) hx hb dL_isLaterSo_365 (by decide) (fun h0 => absurd h0 (nI_n0 (by omega))) (fun _ => ?_)
                  refine lv_iconst (v := 1) hx hb dL_isLaterSo_368 (by decide) ?_
                  refine lv_goto (tgt := 373) hx hb dL_isLaterSo_369 (by decide) ?_
                  refine lv_istore (lv' := [(6, .int 1), (9, .int (nI ((svQ sz + 1) - 1))), (8, .int (s 7 d)), (0, .ref (a 112)), (1, .int (nI d)), (5, .int (nI w9)), (7, .int (nI kk))]) hx hb dL_isLaterSo_373 hl (by decide) rfl (fun ls hl => ?_)
                  refine lv_iinc (v := nI (kk + 1)) (lv' := [(7, .int (nI (kk + 1))), (6, .int 1), (9, .int (nI ((svQ sz + 1) - 1))), (8, .int (s 7 d)), (0, .ref (a 112)), (1, .int (nI d)), (5, .int (nI w9))]) hx hb dL_isLaterSo_375 hl (k := 6) rfl (nI_add kk 1) (by decide) rfl (fun ls hl => ?_)
                  refine lv_goto (tgt := 267) hx hb dL_isLaterSo_378 (by decide) ?_
                  exact ih267 (kk + 1) u46 ((svQ sz + 1) - 1) (svH hf sz s) (by omega) (⟨by omega, by omega⟩) hok ((hH.sv hsz6 hG).le (by omega)) _ _ hP hS ls (lv_sub hl [4, 5, 6, 1, 0] rfl)
                refine lv_icmp_ne (tgt := 341) hx hb dL_isLaterSo_334 (by decide) (fun c47 => ?_) (fun c47 => ?_)
                · skip
                  have c47n := fun hq0 => c47 ((nI_eq2 (p := kk) (q := w9) rfl rfl (by omega) (by omega)).mpr hq0)
                  have c47n : ¬ (kk = w9) := c47n
                  refine lv_iconst (v := 0) hx hb dL_isLaterSo_341 (by decide) ?_
                  refine lv_as (y := if kk = w9 then 1 else 0) (if_neg c47n).symm ?_
                  exact cut342 _ _ hP hS ls (lv_sub hl [0, 1, 2, 3, 4, 5] rfl)
                · skip
                  have c47n := (nI_eq2 (p := kk) (q := w9) rfl rfl (by omega) (by omega)).mp c47
                  have c47n : kk = w9 := c47n
                  refine lv_iconst (v := 1) hx hb dL_isLaterSo_337 (by decide) ?_
                  refine lv_goto (tgt := 342) hx hb dL_isLaterSo_338 (by decide) ?_
                  refine lv_as (y := if kk = w9 then 1 else 0) (if_pos c47n).symm ?_
                  exact cut342 _ _ hP hS ls (lv_sub hl [0, 1, 2, 3, 4, 5] rfl)
              refine lv_icmp_ne (tgt := 329) hx hb dL_isLaterSo_322 (by decide) (fun c48 => ?_) (fun c48 => ?_)
              · skip
                refine lv_iconst (v := 0) hx hb dL_isLaterSo_329 (by decide) ?_
                refine lv_as (y := if midW s d (nI kk) = wordA s d then 1 else 0) (if_neg (fun q9 => c48 (wd_mid.trans (q9.trans wd_word.symm)))).symm ?_
                exact cut330 _ _ hP hS ls (lv_sub hl [0, 1, 2, 3, 4, 5] rfl)
              · skip
                refine lv_iconst (v := 1) hx hb dL_isLaterSo_325 (by decide) ?_
                refine lv_goto (tgt := 330) hx hb dL_isLaterSo_326 (by decide) ?_
                refine lv_as (y := if midW s d (nI kk) = wordA s d then 1 else 0) (if_pos (wd_mid.symm.trans (c48.trans wd_word))).symm ?_
                exact cut330 _ _ hP hS ls (lv_sub hl [0, 1, 2, 3, 4, 5] rfl)
      exact loop267 (10 + 1) 1 u sz hf (by omega) (⟨by omega, by omega⟩) hok hH _ _ hP hS ls (lv_sub hl [1, 2, 3, 4, 0] rfl)
  have cut190 : ∀ (u : WT) (sz : Nat) (hf : Nat → St), (UOk u s sz hf) → (GH (Gd T) sz hf) → ∀ (H : Heap) (locs : List Loc), HP D 113 a (exU cI cS a u) H → va_S (AX 113 a z.heap.size) z.heap H locs → ∀ ls : Array Slot, lv_has ls 10 [(0, .ref (a 112)), (1, .int (nI d)), (3, .int (qIn s d)), (5, .int (winF s d 9 1)), (6, .int 1)] → W p l e ({ frames := 6, cells := 0, slots := 0, locals := 131 } : Room) z m ([.ref (a 112), .int (nI d)] : List Value).toArray below meth c H locs 0 0 (MQ below (va_Qi (fun (r : Int32) (u : WT) => r = 1 ∧ OKG T u s) (BW D 113 a (fun u => exU cI cS a u)) (AX 113 a z.heap.size)) ([.ref (a 112), .int (nI d)] : List Value).toArray z 0 0 (AX 113 a z.heap.size)) (F0 m 190 ls []) := by
    intro u sz hf hok hH H locs hP hS ls hl
    have hsz6 := hok.2.1
    have hsq := svQ_lt hsz6
    have hsq2 := svQ_lt (sz := svQ sz + 1) (by omega)
    have hsq3 := svQ_1 (n := svQ sz)
    rcases qIn_spec (s := s) hd with hQ | ⟨tt, ht2, hQ, hq1⟩
    · skip
      rw [hQ] at hl
      refine lv_iload_n hx hb dL_isLaterSo_190 rfl (lv_at hl 2 rfl) ?_
      refine lv_if_le (tgt := 264) hx hb dL_isLaterSo_191 (by decide) (fun _ => ?_) (fun h0 => absurd (by decide) h0)
      exact cut264 u sz hf hok hH _ _ hP hS ls (lv_sub hl [0, 1, 3, 4] rfl)
    · skip
      rw [hQ] at hl
      refine lv_iload_n hx hb dL_isLaterSo_190 rfl (lv_at hl 2 rfl) ?_
      refine lv_if_le (tgt := 264) hx hb dL_isLaterSo_191 (by decide) (fun c49 => ?_) (fun c49 => ?_)
      · skip
        have c49x := Int32.not_lt.mpr c49
        have c49n := (nI_le2 (p := tt) (q := 0) rfl rfl (by omega) (by omega)).mp c49
        have c49n : tt ≤ 0 := c49n
        exact cut264 u sz hf hok hH _ _ hP hS ls (lv_sub hl [0, 1, 3, 4] rfl)
      · skip
        have c49x := Int32.not_le.mp c49
        have c49n := fun hq0 => c49 ((nI_le2 (p := tt) (q := 0) rfl rfl (by omega) (by omega)).mpr hq0)
        have c49n : ¬ (tt ≤ 0) := c49n
        refine lv_iload_n hx hb dL_isLaterSo_194 rfl (lv_at hl 2 rfl) ?_
        refine lv_bipush (v := 100) hx hb dL_isLaterSo_195 (by decide) ?_
        refine lv_icmp_ge (tgt := 264) hx hb dL_isLaterSo_197 (by decide) (fun c50 => ?_) (fun c50 => ?_)
        · skip
          have c50x := Int32.not_lt.mpr c50
          have c50n := (nI_le2 (p := 100) (q := tt) rfl rfl (by omega) (by omega)).mp c50
          have c50n : 100 ≤ tt := c50n
          exact cut264 u sz hf hok hH _ _ hP hS ls (lv_sub hl [0, 1, 3, 4] rfl)
        · skip
          have c50x := Int32.not_le.mp c50
          have c50n := fun hq0 => c50 ((nI_le2 (p := 100) (q := tt) rfl rfl (by omega) (by omega)).mpr hq0)
          have c50n : ¬ (100 ≤ tt) := c50n
          refine lv_aload_n hx hb dL_isLaterSo_200 rfl (lv_at hl 0 rfl) ?_
          refine lv_iload_n hx hb dL_isLaterSo_201 rfl (lv_at hl 2 rfl) ?_
          refine rw_i hS (va_runV (As := [.int (nI tt)]) (rest := []) ⟨hx, hb, hml, hown, hts⟩ (a_X6_tick l D cI cS a u s sz hf hok tt ⟨by omega, by omega⟩ _) (cwV 1 hts (gV tw347 tw344 tw345 tw346 tw1) rfl rfl rfl (by decide +kernel) ⟨Nat.le_of_ble_eq_true rfl, Nat.le_of_ble_eq_true rfl⟩) (pvW 112 hK hP hE (by decide) xc112 rfl) rfl rfl hl.1 rfl (lv_room (Nat.le_of_ble_eq_true rfl)) dL_isLaterSo_202 ⟨Nat.le_of_ble_eq_true rfl, Nat.le_of_ble_eq_true rfl⟩) (fun r52 u53 H locs hr51 hP hS => ?_)
          obtain ⟨hr9, hok⟩ := hr51
          subst hr9
          refine lv_istore (lv' := [(7, .int (ticksA tt s)), (0, .ref (a 112)), (1, .int (nI d)), (3, .int (nI tt)), (5, .int (winF s d 9 1)), (6, .int 1)]) hx hb dL_isLaterSo_205 hl (by decide) rfl (fun ls hl => ?_)
          refine lv_iload hx hb dL_isLaterSo_207 (lv_at hl 5 rfl) ?_
          refine lv_if_eq (tgt := 229) hx hb dL_isLaterSo_209 (by decide) (fun h0 => absurd h0 (by decide)) (fun _ => ?_)
          refine lv_iload hx hb dL_isLaterSo_212 (lv_at hl 0 rfl) ?_
          refine lv_if_lt (tgt := 229) hx hb dL_isLaterSo_214 (by decide) (fun h0 => absurd h0 (tkA_nn hG.1 (by omega) (by omega))) (fun _ => ?_)
          refine lv_aload_n hx hb dL_isLaterSo_217 rfl (lv_at hl 1 rfl) ?_
          refine lv_iload_n hx hb dL_isLaterSo_218 rfl (lv_at hl 2 rfl) ?_
          refine ro_i (va_runV (As := [.int (nI d)]) (rest := []) ⟨hx, hb, hml, hown, hts⟩ (a_X6_quarrelIn l D cI cS a u53 (ticksS tt s) (svQ sz + 1) (svH hf sz s) hok d (by omega)) (cwV 1 hts (gV tw565 tw562 tw563 tw564 tw1) rfl rfl rfl (by decide +kernel) ⟨Nat.le_of_ble_eq_true rfl, Nat.le_of_ble_eq_true rfl⟩) (pvR 112 hK hP (by decide) xc112 rfl) rfl rfl hl.1 rfl (lv_room (Nat.le_of_ble_eq_true rfl)) dL_isLaterSo_219 ⟨Nat.le_of_ble_eq_true rfl, Nat.le_of_ble_eq_true rfl⟩) (fun r55 hr54 => ?_)
          subst hr54
          refine lv_if_ne (tgt := 229) hx hb dL_isLaterSo_222 (by decide) (fun h0 => absurd h0 (fun q9 => q9 (qIn_0 hq1))) (fun _ => ?_)
          refine lv_iconst (v := 1) hx hb dL_isLaterSo_225 (by decide) ?_
          refine lv_goto (tgt := 230) hx hb dL_isLaterSo_226 (by decide) ?_
          refine lv_istore (lv' := [(6, .int 1), (7, .int (ticksA tt s)), (0, .ref (a 112)), (1, .int (nI d)), (3, .int (nI tt)), (5, .int (winF s d 9 1))]) hx hb dL_isLaterSo_230 hl (by decide) rfl (fun ls hl => ?_)
          refine lv_aload_n hx hb dL_isLaterSo_232 rfl (lv_at hl 2 rfl) ?_
          refine rw_i hS (va_runV (As := []) (rest := []) ⟨hx, hb, hml, hown, hts⟩ (a_X6_undo l D cI cS a u53 (ticksS tt s) (svQ sz + 1) (svH hf sz s) hok (by omega) _) (cwV 0 hts (gV tw510 tw507 tw508 tw509 tw1) rfl rfl rfl (by decide +kernel) ⟨Nat.le_of_ble_eq_true rfl, Nat.le_of_ble_eq_true rfl⟩) (pvW 112 hK hP hE (by decide) xc112 rfl) rfl rfl hl.1 rfl (lv_room (Nat.le_of_ble_eq_true rfl)) dL_isLaterSo_233 ⟨Nat.le_of_ble_eq_true rfl, Nat.le_of_ble_eq_true rfl⟩) (fun r58 u59 H locs hr57 hP hS => ?_)
          obtain ⟨hr9, hok⟩ := hr57
          subst hr9
          rw [svH_top] at hok
          refine lv_istore (lv' := [(8, .int (nI ((svQ sz + 1) - 1))), (6, .int 1), (7, .int (ticksA tt s)), (0, .ref (a 112)), (1, .int (nI d)), (3, .int (nI tt)), (5, .int (winF s d 9 1))]) hx hb dL_isLaterSo_236 hl (by decide) rfl (fun ls hl => ?_)
          refine lv_iload hx hb dL_isLaterSo_238 (lv_at hl 1 rfl) ?_
          refine lv_if_eq (tgt := 261) hx hb dL_isLaterSo_240 (by decide) (fun h0 => absurd h0 (by decide)) (fun _ => ?_)
          refine lv_iload hx hb dL_isLaterSo_243 (lv_at hl 0 rfl) ?_
          refine lv_if_lt (tgt := 261) hx hb dL_isLaterSo_245 (by decide) (fun h0 => absurd h0 (nI_n0 (by omega))) (fun _ => ?_)
          refine lv_aload_n hx hb dL_isLaterSo_248 rfl (lv_at hl 3 rfl) ?_
          refine lv_iload_n hx hb dL_isLaterSo_249 rfl (lv_at hl 4 rfl) ?_
          refine ro_i (va_runV (As := [.int (nI d)]) (rest := []) ⟨hx, hb, hml, hown, hts⟩ (a_X6_quarrelIn l D cI cS a u59 s ((svQ sz + 1) - 1) (svH hf sz s) hok d (by omega)) (cwV 1 hts (gV tw565 tw562 tw563 tw564 tw1) rfl rfl rfl (by decide +kernel) ⟨Nat.le_of_ble_eq_true rfl, Nat.le_of_ble_eq_true rfl⟩) (pvR 112 hK hP (by decide) xc112 rfl) rfl rfl hl.1 rfl (lv_room (Nat.le_of_ble_eq_true rfl)) dL_isLaterSo_250 ⟨Nat.le_of_ble_eq_true rfl, Nat.le_of_ble_eq_true rfl⟩) (fun r61 hr60 => ?_)
          subst hr60
          refine lv_iload_n hx hb dL_isLaterSo_253 rfl (lv_at hl 5 rfl) ?_
          refine lv_icmp_ne (tgt := 261) hx hb dL_isLaterSo_254 (by decide) (fun h0 => absurd h0 (fun q9 => q9 hQ)) (fun _ => ?_)
          refine lv_iconst (v := 1) hx hb dL_isLaterSo_257 (by decide) ?_
          refine lv_goto (tgt := 262) hx hb dL_isLaterSo_258 (by decide) ?_
          refine lv_istore (lv' := [(6, .int 1), (8, .int (nI ((svQ sz + 1) - 1))), (7, .int (ticksA tt s)), (0, .ref (a 112)), (1, .int (nI d)), (3, .int (nI tt)), (5, .int (winF s d 9 1))]) hx hb dL_isLaterSo_262 hl (by decide) rfl (fun ls hl => ?_)
          exact cut264 u59 ((svQ sz + 1) - 1) (svH hf sz s) hok ((hH.sv hsz6 hG).le (by omega)) _ _ hP hS ls (lv_sub hl [3, 4, 6, 0] rfl)
  rcases rIn_spec (s := s) hd with hR | ⟨tt, ht1, ht2, hR, hr1, hr2⟩
  · skip
    rw [hR] at hl
    refine lv_iload_n hx hb dL_isLaterSo_27 rfl (lv_at hl 3 rfl) ?_
    refine lv_iconst (v := (-1)) hx hb dL_isLaterSo_28 (by decide) ?_
    refine lv_icmp_eq (tgt := 43) hx hb dL_isLaterSo_29 (by decide) (fun _ => ?_) (fun h0 => absurd (by decide) h0)
    refine lv_iconst (v := 1) hx hb dL_isLaterSo_43 (by decide) ?_
    refine lv_goto (tgt := 48) hx hb dL_isLaterSo_44 (by decide) ?_
    refine lv_istore (lv' := [(6, .int 1), (5, .int (winF s d 9 1)), (4, .int (s 6 d)), (3, .int (qIn s d)), (2, .int (-1)), (0, .ref (a 112)), (1, .int (nI d))]) hx hb dL_isLaterSo_48 hl (by decide) rfl (fun ls hl => ?_)
    refine lv_iload_n hx hb dL_isLaterSo_50 rfl (lv_at hl 4 rfl) ?_
    refine lv_if_le (tgt := 190) hx hb dL_isLaterSo_51 (by decide) (fun _ => ?_) (fun h0 => absurd (by decide) h0)
    exact cut190 u12 sz hf hok hH _ _ hP hS ls (lv_sub hl [5, 6, 3, 1, 0] rfl)
  · skip
    rw [hR] at hl
    refine lv_iload_n hx hb dL_isLaterSo_27 rfl (lv_at hl 3 rfl) ?_
    refine lv_iconst (v := (-1)) hx hb dL_isLaterSo_28 (by decide) ?_
    refine lv_icmp_eq (tgt := 43) hx hb dL_isLaterSo_29 (by decide) (fun h0 => absurd h0 (nI_m1 (by omega))) (fun _ => ?_)
    refine lv_iload_n hx hb dL_isLaterSo_32 rfl (lv_at hl 3 rfl) ?_
    refine lv_if_le (tgt := 47) hx hb dL_isLaterSo_33 (by decide) (fun h0 => absurd h0 (fun q9 => by have := (nI_le2 (p := tt) (q := 0) rfl rfl (by omega) (by omega)).mp q9; omega)) (fun _ => ?_)
    refine lv_iload_n hx hb dL_isLaterSo_36 rfl (lv_at hl 3 rfl) ?_
    refine lv_sipush (v := 200) hx hb dL_isLaterSo_37 (by decide) ?_
    refine lv_icmp_gt (tgt := 47) hx hb dL_isLaterSo_40 (by decide) (fun h0 => absurd h0 (fun q9 => by have := (nI_lt2 (p := 200) (q := tt) rfl rfl (by omega) (by omega)).mp q9; omega)) (fun _ => ?_)
    refine lv_iconst (v := 1) hx hb dL_isLaterSo_43 (by decide) ?_
    refine lv_goto (tgt := 48) hx hb dL_isLaterSo_44 (by decide) ?_
    refine lv_istore (lv' := [(6, .int 1), (5, .int (winF s d 9 1)), (4, .int (s 6 d)), (3, .int (qIn s d)), (2, .int (nI tt)), (0, .ref (a 112)), (1, .int (nI d))]) hx hb dL_isLaterSo_48 hl (by decide) rfl (fun ls hl => ?_)
    refine lv_iload_n hx hb dL_isLaterSo_50 rfl (lv_at hl 4 rfl) ?_
    refine lv_if_le (tgt := 190) hx hb dL_isLaterSo_51 (by decide) (fun h0 => absurd h0 (fun q9 => by have := (nI_le2 (p := tt) (q := 0) rfl rfl (by omega) (by omega)).mp q9; omega)) (fun _ => ?_)
    refine lv_iload_n hx hb dL_isLaterSo_54 rfl (lv_at hl 4 rfl) ?_
    refine lv_bipush (v := 100) hx hb dL_isLaterSo_55 (by decide) ?_
    refine lv_icmp_ge (tgt := 190) hx hb dL_isLaterSo_57 (by decide) (fun c63 => ?_) (fun c63 => ?_)
    · skip
      have c63x := Int32.not_lt.mpr c63
      have c63n := (nI_le2 (p := 100) (q := tt) rfl rfl (by omega) (by omega)).mp c63
      have c63n : 100 ≤ tt := c63n
      exact cut190 u12 sz hf hok hH _ _ hP hS ls (lv_sub hl [5, 6, 3, 1, 0] rfl)
    · skip
      have c63x := Int32.not_le.mp c63
      have c63n := fun hq0 => c63 ((nI_le2 (p := 100) (q := tt) rfl rfl (by omega) (by omega)).mpr hq0)
      have c63n : ¬ (100 ≤ tt) := c63n
      refine lv_iload_n hx hb dL_isLaterSo_60 rfl (lv_at hl 4 rfl) ?_
      refine lv_iconst (v := 1) hx hb dL_isLaterSo_61 (by decide) ?_
      refine lv_icmp_ne (tgt := 69) hx hb dL_isLaterSo_62 (by decide) (fun c64 => ?_) (fun c64 => ?_)
      · skip
        have c64n := fun hq0 => c64 ((nI_eq2 (p := tt) (q := 1) rfl rfl (by omega) (by omega)).mpr hq0)
        have c64n : ¬ (tt = 1) := c64n
        refine lv_aload_n hx hb dL_isLaterSo_69 rfl (lv_at hl 5 rfl) ?_
        refine lv_iload_n hx hb dL_isLaterSo_70 rfl (lv_at hl 4 rfl) ?_
        refine lv_iconst (v := 1) hx hb dL_isLaterSo_71 (by decide) ?_
        refine lv_isub hx hb dL_isLaterSo_72 ?_
        refine lv_as (y := nI (tt - 1)) (nI_sub2 (p := tt) (q := 1) rfl rfl (by omega)) ?_
        refine rw_i hS (va_runV (As := [.int (nI (tt - 1))]) (rest := []) ⟨hx, hb, hml, hown, hts⟩ (a_X6_tick l D cI cS a u12 s sz hf hok (tt - 1) ⟨by omega, by omega⟩ _) (cwV 1 hts (gV tw347 tw344 tw345 tw346 tw1) rfl rfl rfl (by decide +kernel) ⟨Nat.le_of_ble_eq_true rfl, Nat.le_of_ble_eq_true rfl⟩) (pvW 112 hK hP hE (by decide) xc112 rfl) rfl rfl hl.1 rfl (lv_room (Nat.le_of_ble_eq_true rfl)) dL_isLaterSo_73 ⟨Nat.le_of_ble_eq_true rfl, Nat.le_of_ble_eq_true rfl⟩) (fun r66 u67 H locs hr65 hP hS => ?_)
        obtain ⟨hr9, hok⟩ := hr65
        subst hr9
        refine lv_istore (lv' := [(7, .int (ticksA (tt - 1) s)), (6, .int 1), (5, .int (winF s d 9 1)), (4, .int (s 6 d)), (3, .int (qIn s d)), (2, .int (nI tt)), (0, .ref (a 112)), (1, .int (nI d))]) hx hb dL_isLaterSo_76 hl (by decide) rfl (fun ls hl => ?_)
        refine lv_iload hx hb dL_isLaterSo_78 (lv_at hl 1 rfl) ?_
        refine lv_if_eq (tgt := 103) hx hb dL_isLaterSo_80 (by decide) (fun h0 => absurd h0 (by decide)) (fun _ => ?_)
        refine lv_iload hx hb dL_isLaterSo_83 (lv_at hl 0 rfl) ?_
        refine lv_if_lt (tgt := 103) hx hb dL_isLaterSo_85 (by decide) (fun h0 => absurd h0 (tkA_nn hG.1 (by omega) (by omega))) (fun _ => ?_)
        refine lv_aload_n hx hb dL_isLaterSo_88 rfl (lv_at hl 6 rfl) ?_
        refine lv_iload_n hx hb dL_isLaterSo_89 rfl (lv_at hl 7 rfl) ?_
        refine lv_iconst (v := 4) hx hb dL_isLaterSo_90 (by decide) ?_
        refine ro_i (va_runV (As := [.int (nI d), .int 4]) (rest := []) ⟨hx, hb, hml, hown, hts⟩ (a_X6_dial l D cI cS a u67 (ticksS (tt - 1) s) (svQ sz + 1) (svH hf sz s) hok d 4 (by omega) (by omega)) (cwV 2 hts (gV tw522 tw519 tw520 tw521 tw1) rfl rfl rfl (by decide +kernel) ⟨Nat.le_of_ble_eq_true rfl, Nat.le_of_ble_eq_true rfl⟩) (pvR 112 hK hP (by decide) xc112 rfl) rfl rfl hl.1 rfl (lv_room (Nat.le_of_ble_eq_true rfl)) dL_isLaterSo_91 ⟨Nat.le_of_ble_eq_true rfl, Nat.le_of_ble_eq_true rfl⟩) (fun r69 hr68 => ?_)
        subst hr68
        refine lv_iload hx hb dL_isLaterSo_94 (lv_at hl 3 rfl) ?_
        refine lv_icmp_ne (tgt := 103) hx hb dL_isLaterSo_96 (by decide) (fun h0 => absurd h0 (fun q9 => q9 (tk_same hG.1 (by omega) hd hr1))) (fun _ => ?_)
        refine lv_iconst (v := 1) hx hb dL_isLaterSo_99 (by decide) ?_
        refine lv_goto (tgt := 104) hx hb dL_isLaterSo_100 (by decide) ?_
        refine lv_istore (lv' := [(6, .int 1), (7, .int (ticksA (tt - 1) s)), (5, .int (winF s d 9 1)), (4, .int (s 6 d)), (3, .int (qIn s d)), (2, .int (nI tt)), (0, .ref (a 112)), (1, .int (nI d))]) hx hb dL_isLaterSo_104 hl (by decide) rfl (fun ls hl => ?_)
        refine lv_aload_n hx hb dL_isLaterSo_106 rfl (lv_at hl 6 rfl) ?_
        refine lv_iconst (v := 1) hx hb dL_isLaterSo_107 (by decide) ?_
        refine rw_i hS (va_runV (As := [.int 1]) (rest := []) ⟨hx, hb, hml, hown, hts⟩ (a_X6_tick l D cI cS a u67 (ticksS (tt - 1) s) (svQ sz + 1) (svH hf sz s) hok 1 ⟨by omega, by omega⟩ _) (cwV 1 hts (gV tw347 tw344 tw345 tw346 tw1) rfl rfl rfl (by decide +kernel) ⟨Nat.le_of_ble_eq_true rfl, Nat.le_of_ble_eq_true rfl⟩) (pvW 112 hK hP hE (by decide) xc112 rfl) rfl rfl hl.1 rfl (lv_room (Nat.le_of_ble_eq_true rfl)) dL_isLaterSo_108 ⟨Nat.le_of_ble_eq_true rfl, Nat.le_of_ble_eq_true rfl⟩) (fun r72 u73 H locs hr71 hP hS => ?_)
        obtain ⟨hr9, hok⟩ := hr71
        subst hr9
        refine lv_istore (lv' := [(7, .int (ticksA 1 (ticksS (tt - 1) s))), (6, .int 1), (5, .int (winF s d 9 1)), (4, .int (s 6 d)), (3, .int (qIn s d)), (2, .int (nI tt)), (0, .ref (a 112)), (1, .int (nI d))]) hx hb dL_isLaterSo_111 hl (by decide) rfl (fun ls hl => ?_)
        refine lv_iload hx hb dL_isLaterSo_113 (lv_at hl 1 rfl) ?_
        refine lv_if_eq (tgt := 138) hx hb dL_isLaterSo_115 (by decide) (fun h0 => absurd h0 (by decide)) (fun _ => ?_)
        refine lv_iload hx hb dL_isLaterSo_118 (lv_at hl 0 rfl) ?_
        refine lv_if_le (tgt := 138) hx hb dL_isLaterSo_120 (by decide) (fun h0 => absurd h0 (tk_pos hG.1 (by omega) (by omega) hd hr1 hr2)) (fun _ => ?_)
        refine lv_aload_n hx hb dL_isLaterSo_123 rfl (lv_at hl 6 rfl) ?_
        refine lv_iload_n hx hb dL_isLaterSo_124 rfl (lv_at hl 7 rfl) ?_
        refine lv_iconst (v := 4) hx hb dL_isLaterSo_125 (by decide) ?_
        refine ro_i (va_runV (As := [.int (nI d), .int 4]) (rest := []) ⟨hx, hb, hml, hown, hts⟩ (a_X6_dial l D cI cS a u73 (ticksS 1 (ticksS (tt - 1) s)) (svQ (svQ sz + 1) + 1) (svH (svH hf sz s) (svQ sz + 1) (ticksS (tt - 1) s)) hok d 4 (by omega) (by omega)) (cwV 2 hts (gV tw522 tw519 tw520 tw521 tw1) rfl rfl rfl (by decide +kernel) ⟨Nat.le_of_ble_eq_true rfl, Nat.le_of_ble_eq_true rfl⟩) (pvR 112 hK hP (by decide) xc112 rfl) rfl rfl hl.1 rfl (lv_room (Nat.le_of_ble_eq_true rfl)) dL_isLaterSo_126 ⟨Nat.le_of_ble_eq_true rfl, Nat.le_of_ble_eq_true rfl⟩) (fun r75 hr74 => ?_)
        subst hr74
        refine lv_iload hx hb dL_isLaterSo_129 (lv_at hl 3 rfl) ?_
        refine lv_icmp_le (tgt := 138) hx hb dL_isLaterSo_131 (by decide) (fun h0 => absurd h0 (tk_up hG.1 hG.b6 (by omega) hd hr2)) (fun _ => ?_)
        refine lv_iconst (v := 1) hx hb dL_isLaterSo_134 (by decide) ?_
        refine lv_goto (tgt := 139) hx hb dL_isLaterSo_135 (by decide) ?_
        refine lv_istore (lv' := [(6, .int 1), (7, .int (ticksA 1 (ticksS (tt - 1) s))), (5, .int (winF s d 9 1)), (4, .int (s 6 d)), (3, .int (qIn s d)), (2, .int (nI tt)), (0, .ref (a 112)), (1, .int (nI d))]) hx hb dL_isLaterSo_139 hl (by decide) rfl (fun ls hl => ?_)
        refine lv_aload_n hx hb dL_isLaterSo_141 rfl (lv_at hl 6 rfl) ?_
        refine rw_i hS (va_runV (As := []) (rest := []) ⟨hx, hb, hml, hown, hts⟩ (a_X6_undo l D cI cS a u73 (ticksS 1 (ticksS (tt - 1) s)) (svQ (svQ sz + 1) + 1) (svH (svH hf sz s) (svQ sz + 1) (ticksS (tt - 1) s)) hok (by omega) _) (cwV 0 hts (gV tw510 tw507 tw508 tw509 tw1) rfl rfl rfl (by decide +kernel) ⟨Nat.le_of_ble_eq_true rfl, Nat.le_of_ble_eq_true rfl⟩) (pvW 112 hK hP hE (by decide) xc112 rfl) rfl rfl hl.1 rfl (lv_room (Nat.le_of_ble_eq_true rfl)) dL_isLaterSo_142 ⟨Nat.le_of_ble_eq_true rfl, Nat.le_of_ble_eq_true rfl⟩) (fun r78 u79 H locs hr77 hP hS => ?_)
        obtain ⟨hr9, hok⟩ := hr77
        subst hr9
        rw [svH_top] at hok
        refine lv_istore (lv' := [(8, .int (nI ((svQ (svQ sz + 1) + 1) - 1))), (6, .int 1), (7, .int (ticksA 1 (ticksS (tt - 1) s))), (5, .int (winF s d 9 1)), (4, .int (s 6 d)), (3, .int (qIn s d)), (2, .int (nI tt)), (0, .ref (a 112)), (1, .int (nI d))]) hx hb dL_isLaterSo_145 hl (by decide) rfl (fun ls hl => ?_)
        refine lv_iload_n hx hb dL_isLaterSo_147 rfl (lv_at hl 6 rfl) ?_
        refine lv_iconst (v := 1) hx hb dL_isLaterSo_148 (by decide) ?_
        refine lv_icmp_ne (tgt := 156) hx hb dL_isLaterSo_149 (by decide) (fun _ => ?_) (fun h0 => absurd h0 (fun q9 => by have := (nI_eq2 (p := tt) (q := 1) rfl rfl (by omega) (by omega)).mp q9; omega))
        refine lv_aload_n hx hb dL_isLaterSo_156 rfl (lv_at hl 7 rfl) ?_
        refine rw_i hS (va_runV (As := []) (rest := []) ⟨hx, hb, hml, hown, hts⟩ (a_X6_undo l D cI cS a u79 (ticksS (tt - 1) s) ((svQ (svQ sz + 1) + 1) - 1) (svH (svH hf sz s) (svQ sz + 1) (ticksS (tt - 1) s)) hok (by omega) _) (cwV 0 hts (gV tw510 tw507 tw508 tw509 tw1) rfl rfl rfl (by decide +kernel) ⟨Nat.le_of_ble_eq_true rfl, Nat.le_of_ble_eq_true rfl⟩) (pvW 112 hK hP hE (by decide) xc112 rfl) rfl rfl hl.1 rfl (lv_room (Nat.le_of_ble_eq_true rfl)) dL_isLaterSo_157 ⟨Nat.le_of_ble_eq_true rfl, Nat.le_of_ble_eq_true rfl⟩) (fun r81 u82 H locs hr80 hP hS => ?_)
        obtain ⟨hr9, hok⟩ := hr80
        subst hr9
        rw [(svH_2 hsz6)] at hok
        refine lv_istore (lv' := [(8, .int (nI (((svQ (svQ sz + 1) + 1) - 1) - 1))), (6, .int 1), (7, .int (ticksA 1 (ticksS (tt - 1) s))), (5, .int (winF s d 9 1)), (4, .int (s 6 d)), (3, .int (qIn s d)), (2, .int (nI tt)), (0, .ref (a 112)), (1, .int (nI d))]) hx hb dL_isLaterSo_160 hl (by decide) rfl (fun ls hl => ?_)
        refine lv_iload hx hb dL_isLaterSo_162 (lv_at hl 1 rfl) ?_
        refine lv_if_eq (tgt := 187) hx hb dL_isLaterSo_164 (by decide) (fun h0 => absurd h0 (by decide)) (fun _ => ?_)
        refine lv_iload hx hb dL_isLaterSo_167 (lv_at hl 0 rfl) ?_
        refine lv_if_lt (tgt := 187) hx hb dL_isLaterSo_169 (by decide) (fun h0 => absurd h0 (nI_n0 (by omega))) (fun _ => ?_)
        refine lv_aload_n hx hb dL_isLaterSo_172 rfl (lv_at hl 7 rfl) ?_
        refine lv_iload_n hx hb dL_isLaterSo_173 rfl (lv_at hl 8 rfl) ?_
        refine lv_iconst (v := 4) hx hb dL_isLaterSo_174 (by decide) ?_
        refine ro_i (va_runV (As := [.int (nI d), .int 4]) (rest := []) ⟨hx, hb, hml, hown, hts⟩ (a_X6_dial l D cI cS a u82 s (((svQ (svQ sz + 1) + 1) - 1) - 1) (svH (svH hf sz s) (svQ sz + 1) (ticksS (tt - 1) s)) hok d 4 (by omega) (by omega)) (cwV 2 hts (gV tw522 tw519 tw520 tw521 tw1) rfl rfl rfl (by decide +kernel) ⟨Nat.le_of_ble_eq_true rfl, Nat.le_of_ble_eq_true rfl⟩) (pvR 112 hK hP (by decide) xc112 rfl) rfl rfl hl.1 rfl (lv_room (Nat.le_of_ble_eq_true rfl)) dL_isLaterSo_175 ⟨Nat.le_of_ble_eq_true rfl, Nat.le_of_ble_eq_true rfl⟩) (fun r84 hr83 => ?_)
        subst hr83
        refine lv_iload hx hb dL_isLaterSo_178 (lv_at hl 4 rfl) ?_
        refine lv_icmp_ne (tgt := 187) hx hb dL_isLaterSo_180 (by decide) (fun h0 => absurd h0 (fun q9 => q9 rfl)) (fun _ => ?_)
        refine lv_iconst (v := 1) hx hb dL_isLaterSo_183 (by decide) ?_
        refine lv_goto (tgt := 188) hx hb dL_isLaterSo_184 (by decide) ?_
        refine lv_istore (lv' := [(6, .int 1), (8, .int (nI (((svQ (svQ sz + 1) + 1) - 1) - 1))), (7, .int (ticksA 1 (ticksS (tt - 1) s))), (5, .int (winF s d 9 1)), (4, .int (s 6 d)), (3, .int (qIn s d)), (2, .int (nI tt)), (0, .ref (a 112)), (1, .int (nI d))]) hx hb dL_isLaterSo_188 hl (by decide) rfl (fun ls hl => ?_)
        exact cut190 u82 (((svQ (svQ sz + 1) + 1) - 1) - 1) (svH (svH hf sz s) (svQ sz + 1) (ticksS (tt - 1) s)) hok (hH.sv2 hsz6 hG) _ _ hP hS ls (lv_sub hl [7, 8, 5, 3, 0] rfl)
      · skip
        have c64n := (nI_eq2 (p := tt) (q := 1) rfl rfl (by omega) (by omega)).mp c64
        have c64n : tt = 1 := c64n
        have hjq : 1 = tt := by omega
        subst hjq
        refine lv_iconst (v := 0) hx hb dL_isLaterSo_65 (by decide) ?_
        refine lv_goto (tgt := 76) hx hb dL_isLaterSo_66 (by decide) ?_
        refine lv_istore (lv' := [(7, .int 0), (6, .int 1), (5, .int (winF s d 9 1)), (4, .int (s 6 d)), (3, .int (qIn s d)), (2, .int (nI 1)), (0, .ref (a 112)), (1, .int (nI d))]) hx hb dL_isLaterSo_76 hl (by decide) rfl (fun ls hl => ?_)
        refine lv_iload hx hb dL_isLaterSo_78 (lv_at hl 1 rfl) ?_
        refine lv_if_eq (tgt := 103) hx hb dL_isLaterSo_80 (by decide) (fun h0 => absurd h0 (by decide)) (fun _ => ?_)
        refine lv_iload hx hb dL_isLaterSo_83 (lv_at hl 0 rfl) ?_
        refine lv_if_lt (tgt := 103) hx hb dL_isLaterSo_85 (by decide) (fun h0 => absurd h0 (by decide)) (fun _ => ?_)
        refine lv_aload_n hx hb dL_isLaterSo_88 rfl (lv_at hl 6 rfl) ?_
        refine lv_iload_n hx hb dL_isLaterSo_89 rfl (lv_at hl 7 rfl) ?_
        refine lv_iconst (v := 4) hx hb dL_isLaterSo_90 (by decide) ?_
        refine ro_i (va_runV (As := [.int (nI d), .int 4]) (rest := []) ⟨hx, hb, hml, hown, hts⟩ (a_X6_dial l D cI cS a u12 s sz hf hok d 4 (by omega) (by omega)) (cwV 2 hts (gV tw522 tw519 tw520 tw521 tw1) rfl rfl rfl (by decide +kernel) ⟨Nat.le_of_ble_eq_true rfl, Nat.le_of_ble_eq_true rfl⟩) (pvR 112 hK hP (by decide) xc112 rfl) rfl rfl hl.1 rfl (lv_room (Nat.le_of_ble_eq_true rfl)) dL_isLaterSo_91 ⟨Nat.le_of_ble_eq_true rfl, Nat.le_of_ble_eq_true rfl⟩) (fun r87 hr86 => ?_)
        subst hr86
        refine lv_iload hx hb dL_isLaterSo_94 (lv_at hl 3 rfl) ?_
        refine lv_icmp_ne (tgt := 103) hx hb dL_isLaterSo_96 (by decide) (fun h0 => absurd h0 (fun q9 => q9 rfl)) (fun _ => ?_)
        refine lv_iconst (v := 1) hx hb dL_isLaterSo_99 (by decide) ?_
        refine lv_goto (tgt := 104) hx hb dL_isLaterSo_100 (by decide) ?_
        refine lv_istore (lv' := [(6, .int 1), (7, .int 0), (5, .int (winF s d 9 1)), (4, .int (s 6 d)), (3, .int (qIn s d)), (2, .int (nI 1)), (0, .ref (a 112)), (1, .int (nI d))]) hx hb dL_isLaterSo_104 hl (by decide) rfl (fun ls hl => ?_)
        refine lv_aload_n hx hb dL_isLaterSo_106 rfl (lv_at hl 6 rfl) ?_
        refine lv_iconst (v := 1) hx hb dL_isLaterSo_107 (by decide) ?_
        refine rw_i hS (va_runV (As := [.int 1]) (rest := []) ⟨hx, hb, hml, hown, hts⟩ (a_X6_tick l D cI cS a u12 s sz hf hok 1 ⟨by omega, by omega⟩ _) (cwV 1 hts (gV tw347 tw344 tw345 tw346 tw1) rfl rfl rfl (by decide +kernel) ⟨Nat.le_of_ble_eq_true rfl, Nat.le_of_ble_eq_true rfl⟩) (pvW 112 hK hP hE (by decide) xc112 rfl) rfl rfl hl.1 rfl (lv_room (Nat.le_of_ble_eq_true rfl)) dL_isLaterSo_108 ⟨Nat.le_of_ble_eq_true rfl, Nat.le_of_ble_eq_true rfl⟩) (fun r90 u91 H locs hr89 hP hS => ?_)
        obtain ⟨hr9, hok⟩ := hr89
        subst hr9
        refine lv_istore (lv' := [(7, .int (ticksA 1 s)), (6, .int 1), (5, .int (winF s d 9 1)), (4, .int (s 6 d)), (3, .int (qIn s d)), (2, .int (nI 1)), (0, .ref (a 112)), (1, .int (nI d))]) hx hb dL_isLaterSo_111 hl (by decide) rfl (fun ls hl => ?_)
        refine lv_iload hx hb dL_isLaterSo_113 (lv_at hl 1 rfl) ?_
        refine lv_if_eq (tgt := 138) hx hb dL_isLaterSo_115 (by decide) (fun h0 => absurd h0 (by decide)) (fun _ => ?_)
        refine lv_iload hx hb dL_isLaterSo_118 (lv_at hl 0 rfl) ?_
        refine lv_if_le (tgt := 138) hx hb dL_isLaterSo_120 (by decide) (fun h0 => absurd h0 (tk_pos (t := 1) hG.1 (by omega) (by omega) hd hr1 hr2)) (fun _ => ?_)
        refine lv_aload_n hx hb dL_isLaterSo_123 rfl (lv_at hl 6 rfl) ?_
        refine lv_iload_n hx hb dL_isLaterSo_124 rfl (lv_at hl 7 rfl) ?_
        refine lv_iconst (v := 4) hx hb dL_isLaterSo_125 (by decide) ?_
        refine ro_i (va_runV (As := [.int (nI d), .int 4]) (rest := []) ⟨hx, hb, hml, hown, hts⟩ (a_X6_dial l D cI cS a u91 (ticksS 1 s) (svQ sz + 1) (svH hf sz s) hok d 4 (by omega) (by omega)) (cwV 2 hts (gV tw522 tw519 tw520 tw521 tw1) rfl rfl rfl (by decide +kernel) ⟨Nat.le_of_ble_eq_true rfl, Nat.le_of_ble_eq_true rfl⟩) (pvR 112 hK hP (by decide) xc112 rfl) rfl rfl hl.1 rfl (lv_room (Nat.le_of_ble_eq_true rfl)) dL_isLaterSo_126 ⟨Nat.le_of_ble_eq_true rfl, Nat.le_of_ble_eq_true rfl⟩) (fun r93 hr92 => ?_)
        subst hr92
        refine lv_iload hx hb dL_isLaterSo_129 (lv_at hl 3 rfl) ?_
        refine lv_icmp_le (tgt := 138) hx hb dL_isLaterSo_131 (by decide) (fun h0 => absurd h0 (tk_up (t := 1) hG.1 hG.b6 (by omega) hd hr2)) (fun _ => ?_)
        refine lv_iconst (v := 1) hx hb dL_isLaterSo_134 (by decide) ?_
        refine lv_goto (tgt := 139) hx hb dL_isLaterSo_135 (by decide) ?_
        refine lv_istore (lv' := [(6, .int 1), (7, .int (ticksA 1 s)), (5, .int (winF s d 9 1)), (4, .int (s 6 d)), (3, .int (qIn s d)), (2, .int (nI 1)), (0, .ref (a 112)), (1, .int (nI d))]) hx hb dL_isLaterSo_139 hl (by decide) rfl (fun ls hl => ?_)
        refine lv_aload_n hx hb dL_isLaterSo_141 rfl (lv_at hl 6 rfl) ?_
        refine rw_i hS (va_runV (As := []) (rest := []) ⟨hx, hb, hml, hown, hts⟩ (a_X6_undo l D cI cS a u91 (ticksS 1 s) (svQ sz + 1) (svH hf sz s) hok (by omega) _) (cwV 0 hts (gV tw510 tw507 tw508 tw509 tw1) rfl rfl rfl (by decide +kernel) ⟨Nat.le_of_ble_eq_true rfl, Nat.le_of_ble_eq_true rfl⟩) (pvW 112 hK hP hE (by decide) xc112 rfl) rfl rfl hl.1 rfl (lv_room (Nat.le_of_ble_eq_true rfl)) dL_isLaterSo_142 ⟨Nat.le_of_ble_eq_true rfl, Nat.le_of_ble_eq_true rfl⟩) (fun r96 u97 H locs hr95 hP hS => ?_)
        obtain ⟨hr9, hok⟩ := hr95
        subst hr9
        rw [svH_top] at hok
        refine lv_istore (lv' := [(8, .int (nI ((svQ sz + 1) - 1))), (6, .int 1), (7, .int (ticksA 1 s)), (5, .int (winF s d 9 1)), (4, .int (s 6 d)), (3, .int (qIn s d)), (2, .int (nI 1)), (0, .ref (a 112)), (1, .int (nI d))]) hx hb dL_isLaterSo_145 hl (by decide) rfl (fun ls hl => ?_)
        refine lv_iload_n hx hb dL_isLaterSo_147 rfl (lv_at hl 6 rfl) ?_
        refine lv_iconst (v := 1) hx hb dL_isLaterSo_148 (by decide) ?_
        refine lv_icmp_ne (tgt := 156) hx hb dL_isLaterSo_149 (by decide) (fun h0 => absurd h0 (fun q9 => q9 (by decide))) (fun _ => ?_)
        refine lv_iconst (v := 0) hx hb dL_isLaterSo_152 (by decide) ?_
        refine lv_goto (tgt := 160) hx hb dL_isLaterSo_153 (by decide) ?_
        refine lv_istore (lv' := [(8, .int 0), (6, .int 1), (7, .int (ticksA 1 s)), (5, .int (winF s d 9 1)), (4, .int (s 6 d)), (3, .int (qIn s d)), (2, .int (nI 1)), (0, .ref (a 112)), (1, .int (nI d))]) hx hb dL_isLaterSo_160 hl (by decide) rfl (fun ls hl => ?_)
        refine lv_iload hx hb dL_isLaterSo_162 (lv_at hl 1 rfl) ?_
        refine lv_if_eq (tgt := 187) hx hb dL_isLaterSo_164 (by decide) (fun h0 => absurd h0 (by decide)) (fun _ => ?_)
        refine lv_iload hx hb dL_isLaterSo_167 (lv_at hl 0 rfl) ?_
        refine lv_if_lt (tgt := 187) hx hb dL_isLaterSo_169 (by decide) (fun h0 => absurd h0 (by decide)) (fun _ => ?_)
        refine lv_aload_n hx hb dL_isLaterSo_172 rfl (lv_at hl 7 rfl) ?_
        refine lv_iload_n hx hb dL_isLaterSo_173 rfl (lv_at hl 8 rfl) ?_
        refine lv_iconst (v := 4) hx hb dL_isLaterSo_174 (by decide) ?_
        refine ro_i (va_runV (As := [.int (nI d), .int 4]) (rest := []) ⟨hx, hb, hml, hown, hts⟩ (a_X6_dial l D cI cS a u97 s ((svQ sz + 1) - 1) (svH hf sz s) hok d 4 (by omega) (by omega)) (cwV 2 hts (gV tw522 tw519 tw520 tw521 tw1) rfl rfl rfl (by decide +kernel) ⟨Nat.le_of_ble_eq_true rfl, Nat.le_of_ble_eq_true rfl⟩) (pvR 112 hK hP (by decide) xc112 rfl) rfl rfl hl.1 rfl (lv_room (Nat.le_of_ble_eq_true rfl)) dL_isLaterSo_175 ⟨Nat.le_of_ble_eq_true rfl, Nat.le_of_ble_eq_true rfl⟩) (fun r99 hr98 => ?_)
        subst hr98
        refine lv_iload hx hb dL_isLaterSo_178 (lv_at hl 4 rfl) ?_
        refine lv_icmp_ne (tgt := 187) hx hb dL_isLaterSo_180 (by decide) (fun h0 => absurd h0 (fun q9 => q9 rfl)) (fun _ => ?_)
        refine lv_iconst (v := 1) hx hb dL_isLaterSo_183 (by decide) ?_
        refine lv_goto (tgt := 188) hx hb dL_isLaterSo_184 (by decide) ?_
        refine lv_istore (lv' := [(6, .int 1), (8, .int 0), (7, .int (ticksA 1 s)), (5, .int (winF s d 9 1)), (4, .int (s 6 d)), (3, .int (qIn s d)), (2, .int (nI 1)), (0, .ref (a 112)), (1, .int (nI d))]) hx hb dL_isLaterSo_188 hl (by decide) rfl (fun ls hl => ?_)
        exact cut190 u97 ((svQ sz + 1) - 1) (svH hf sz s) hok ((hH.sv hsz6 hG).le (by omega)) _ _ hP hS ls (lv_sub hl [7, 8, 5, 3, 0] rfl)
