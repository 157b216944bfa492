set_option maxHeartbeats 4000000 in
set_option maxRecDepth 100000 in
theorem m_L_does (l : Launch) (D : va_G) (cI cS : ClassId) (a : Nat → Nat) (u : WT) (s : St) (T : Int) (hT : T ≤ 50000) (hO : OKG T u s) (v : Int32) (zz : Nat) : Met l yL_does (.code yL_does cL_does 3 (some .int) :: wsA) ({ frames := 6, cells := 0, slots := 0, locals := 130 } : Room) (va_Pc [.ref (a 112), .int v] (PW D cI cS 113 a (exU cI cS a u) zz)) (va_Qi (fun (r : Int32) (u : WT) => 0 ≤ r.toInt ∧ ∃ s1 sz1 hf1, UOk u s1 sz1 hf1 ∧ Gd (T + 1000) s1 ∧ GH (Gd (T + 1000)) sz1 hf1 ∧ (dQ v ≤ 13 → (s 0 1).toInt ≤ (s1 0 1).toInt)) (BW D 113 a (fun u => exU cI cS a u)) (AX 113 a zz)) 0 0 (AX 113 a zz) := by
  refine mgo (by decide) (Nat.le_of_ble_eq_true rfl) ?_
  intro p e z m below meth c hx hb hr hml hown hts hlocks hB ls hl
  obtain ⟨hsz, hP, hK, hE⟩ := hB
  subst hsz
  have hS : va_S (AX 113 a z.heap.size) z.heap z.heap [] := va_S.rf
  have hl : lv_has ls 3 [(0, .ref (a 112)), (1, .int v)] := hl
  obtain ⟨sz, hf, hok, hG, hH⟩ := hO
  have hsz6 := hok.2.1
  have hsq := svQ_lt hsz6
  refine lv_iload_n hx hb dL_does_0 rfl (lv_at hl 1 rfl) ?_
  refine lv_iconst (v := 4) hx hb dL_does_1 (by decide) ?_
  refine lv_ishr hx hb dL_does_2 ?_
  refine lv_bipush (v := 7) hx hb dL_does_3 (by decide) ?_
  refine ro_i (va_runS (As := [.int (v >>> (4 &&& 31)), .int 7]) (rest := []) ⟨hx, hb, hml, hown, hts⟩ (m_L_low l (v >>> (4 &&& 31)) 7 (by decide)) (va_cwS 2 hts (gS tw339 tw337 tw338 tw0) rfl rfl rfl (by decide +kernel) ⟨Nat.le_of_ble_eq_true rfl, Nat.le_of_ble_eq_true rfl⟩) ps0 rfl rfl hl.1 rfl (lv_room (Nat.le_of_ble_eq_true rfl)) dL_does_5 ⟨Nat.le_of_ble_eq_true rfl, Nat.le_of_ble_eq_true rfl⟩) (fun r2 hr1 => ?_)
  obtain ⟨k4, hk4, hr9⟩ := hr1
  subst hr9
  refine lv_istore_n (lv' := [(2, .int (nI k4)), (0, .ref (a 112)), (1, .int v)]) hx hb dL_does_8 rfl hl (by decide) rfl (fun ls hl => ?_)
  refine lv_iload_n hx hb dL_does_9 rfl (lv_at hl 2 rfl) ?_
  refine lv_bipush (v := 15) hx hb dL_does_10 (by decide) ?_
  refine lv_iand hx hb dL_does_12 ?_
  obtain ⟨q, hq9, hqv, hqd⟩ := and15 v
  refine lv_as (y := nI q) hqv ?_
  by_cases sw5 : nI q = 0
  · skip
    refine lv_tableIn (tgt := 84) hx hb dL_does_13 (by first | (rw [sw5]; done) | (rw [sw5]; decide)) (by first | (rw [sw5]; done) | (rw [sw5]; decide)) (off := 71) (by first | (rw [sw5]; done) | (rw [sw5]; decide)) (by decide) ?_
    have hjq : 0 = q := ((nI_eq2 (p := q) (q := 0) rfl rfl (by omega) (by omega)).mp sw5).symm
    subst hjq
    refine lv_aload_n hx hb dL_does_84 rfl (lv_at hl 1 rfl) ?_
    refine lv_iconst (v := 1) hx hb dL_does_85 (by decide) ?_
    refine lv_iload_n hx hb dL_does_86 rfl (lv_at hl 2 rfl) ?_
    refine lv_bipush (v := 7) hx hb dL_does_87 (by decide) ?_
    refine lv_ishr hx hb dL_does_89 ?_
    refine lv_iload_n hx hb dL_does_90 rfl (lv_at hl 2 rfl) ?_
    refine lv_iconst (v := 4) hx hb dL_does_91 (by decide) ?_
    refine lv_ishr hx hb dL_does_92 ?_
    refine lv_iconst (v := 1) hx hb dL_does_93 (by decide) ?_
    refine lv_iand hx hb dL_does_94 ?_
    refine lv_if_ne (tgt := 103) hx hb dL_does_95 (by decide) (fun c6 => ?_) (fun c6 => ?_)
    · skip
      refine lv_bipush (v := 40) hx hb dL_does_103 (by decide) ?_
      refine ro_i (va_runS (As := [.int (v >>> (7 &&& 31)), .int 40]) (rest := [.int 1, .ref (a 112)]) ⟨hx, hb, hml, hown, hts⟩ (m_L_low l (v >>> (7 &&& 31)) 40 (by decide)) (va_cwS 2 hts (gS tw339 tw337 tw338 tw0) rfl rfl rfl (by decide +kernel) ⟨Nat.le_of_ble_eq_true rfl, Nat.le_of_ble_eq_true rfl⟩) ps0 rfl rfl hl.1 rfl (lv_room (Nat.le_of_ble_eq_true rfl)) dL_does_105 ⟨Nat.le_of_ble_eq_true rfl, Nat.le_of_ble_eq_true rfl⟩) (fun r8 hr7 => ?_)
      obtain ⟨k10, hk10, hr9⟩ := hr7
      subst hr9
      refine lv_iadd hx hb dL_does_108 ?_
      refine lv_as (y := nI (1 + k10)) (nI_add2 (p := 1) (0 := k10) rfl rfl) ?_
      refine rw_i hS (va_runV (As := [.int (nI (1 + k10))]) (rest := []) ⟨hx, hb, hml, hown, hts⟩ (a_X6_tick l D cI cS a u s sz hf hok (1 + k10) ⟨by omega, by omega⟩ _) (cwV 1 hts (gV tw347 tw344 tw345 tw346 tw1) rfl rfl rfl (by decide +kernel) ⟨Nat.le_of_ble_eq_true rfl, Nat.le_of_ble_eq_true rfl⟩) (pvW 112 hK hP hE (by decide) xc112 rfl) rfl rfl hl.1 rfl (lv_room (Nat.le_of_ble_eq_true rfl)) dL_does_109 ⟨Nat.le_of_ble_eq_true rfl, Nat.le_of_ble_eq_true rfl⟩) (fun r12 u13 H locs hr11 hP hS => ?_)
      obtain ⟨hr9, hok⟩ := hr11
      subst hr9
      exact rw_ir hx hb hr rfl hlocks hS u13 hP ⟨(tkA_ge hG.1 (by omega) (by omega)), _, _, _, hok, hG.tick (by omega) (by omega), (hH.sv hsz6 hG).imp (fun _ q9 => q9.mono (by omega)), fun _ => tk_told⟩ dL_does_112
    · skip
      refine lv_bipush (v := 6) hx hb dL_does_98 (by decide) ?_
      refine lv_goto (tgt := 105) hx hb dL_does_100 (by decide) ?_
      refine ro_i (va_runS (As := [.int (v >>> (7 &&& 31)), .int 6]) (rest := [.int 1, .ref (a 112)]) ⟨hx, hb, hml, hown, hts⟩ (m_L_low l (v >>> (7 &&& 31)) 6 (by decide)) (va_cwS 2 hts (gS tw339 tw337 tw338 tw0) rfl rfl rfl (by decide +kernel) ⟨Nat.le_of_ble_eq_true rfl, Nat.le_of_ble_eq_true rfl⟩) ps0 rfl rfl hl.1 rfl (lv_room (Nat.le_of_ble_eq_true rfl)) dL_does_105 ⟨Nat.le_of_ble_eq_true rfl, Nat.le_of_ble_eq_true rfl⟩) (fun r15 hr14 => ?_)
      obtain ⟨k17, hk17, hr9⟩ := hr14
      subst hr9
      refine lv_iadd hx hb dL_does_108 ?_
      refine lv_as (y := nI (1 + k17)) (nI_add2 (p := 1) (0 := k17) rfl rfl) ?_
      refine rw_i hS (va_runV (As := [.int (nI (1 + k17))]) (rest := []) ⟨hx, hb, hml, hown, hts⟩ (a_X6_tick l D cI cS a u s sz hf hok (1 + k17) ⟨by omega, by omega⟩ _) (cwV 1 hts (gV tw347 tw344 tw345 tw346 tw1) rfl rfl rfl (by decide +kernel) ⟨Nat.le_of_ble_eq_true rfl, Nat.le_of_ble_eq_true rfl⟩) (pvW 112 hK hP hE (by decide) xc112 rfl) rfl rfl hl.1 rfl (lv_room (Nat.le_of_ble_eq_true rfl)) dL_does_109 ⟨Nat.le_of_ble_eq_true rfl, Nat.le_of_ble_eq_true rfl⟩) (fun r19 u20 H locs hr18 hP hS => ?_)
      obtain ⟨hr9, hok⟩ := hr18
      subst hr9
      exact rw_ir hx hb hr rfl hlocks hS u20 hP ⟨(tkA_ge hG.1 (by omega) (by omega)), _, _, _, hok, hG.tick (by omega) (by omega), (hH.sv hsz6 hG).imp (fun _ q9 => q9.mono (by omega)), fun _ => tk_told⟩ dL_does_112
  · skip
    have sw5n : ¬ q = 0 := fun hq0 => sw5 ((nI_eq2 (p := q) (q := 0) rfl rfl (by omega) (by omega)).mpr hq0)
    by_cases sw21 : nI q = 1
    · skip
      refine lv_tableIn (tgt := 84) hx hb dL_does_13 (by first | (rw [sw21]; done) | (rw [sw21]; decide)) (by first | (rw [sw21]; done) | (rw [sw21]; decide)) (off := 71) (by first | (rw [sw21]; done) | (rw [sw21]; decide)) (by decide) ?_
      have hjq : 1 = q := ((nI_eq2 (p := q) (q := 1) rfl rfl (by omega) (by omega)).mp sw21).symm
      subst hjq
      refine lv_aload_n hx hb dL_does_84 rfl (lv_at hl 1 rfl) ?_
      refine lv_iconst (v := 1) hx hb dL_does_85 (by decide) ?_
      refine lv_iload_n hx hb dL_does_86 rfl (lv_at hl 2 rfl) ?_
      refine lv_bipush (v := 7) hx hb dL_does_87 (by decide) ?_
      refine lv_ishr hx hb dL_does_89 ?_
      refine lv_iload_n hx hb dL_does_90 rfl (lv_at hl 2 rfl) ?_
      refine lv_iconst (v := 4) hx hb dL_does_91 (by decide) ?_
      refine lv_ishr hx hb dL_does_92 ?_
      refine lv_iconst (v := 1) hx hb dL_does_93 (by decide) ?_
      refine lv_iand hx hb dL_does_94 ?_
      refine lv_if_ne (tgt := 103) hx hb dL_does_95 (by decide) (fun c22 => ?_) (fun c22 => ?_)
      · skip
        refine lv_bipush (v := 40) hx hb dL_does_103 (by decide) ?_
        refine ro_i (va_runS (As := [.int (v >>> (7 &&& 31)), .int 40]) (rest := [.int 1, .ref (a 112)]) ⟨hx, hb, hml, hown, hts⟩ (m_L_low l (v >>> (7 &&& 31)) 40 (by decide)) (va_cwS 2 hts (gS tw339 tw337 tw338 tw0) rfl rfl rfl (by decide +kernel) ⟨Nat.le_of_ble_eq_true rfl, Nat.le_of_ble_eq_true rfl⟩) ps0 rfl rfl hl.1 rfl (lv_room (Nat.le_of_ble_eq_true rfl)) dL_does_105 ⟨Nat.le_of_ble_eq_true rfl, Nat.le_of_ble_eq_true rfl⟩) (fun r24 hr23 => ?_)
        obtain ⟨k26, hk26, hr9⟩ := hr23
        subst hr9
        refine lv_iadd hx hb dL_does_108 ?_
        refine lv_as (y := nI (1 + k26)) (nI_add2 (p := 1) (1 := k26) rfl rfl) ?_
        refine rw_i hS (va_runV (As := [.int (nI (1 + k26))]) (rest := []) ⟨hx, hb, hml, hown, hts⟩ (a_X6_tick l D cI cS a u s sz hf hok (1 + k26) ⟨by omega, by omega⟩ _) (cwV 1 hts (gV tw347 tw344 tw345 tw346 tw1) rfl rfl rfl (by decide +kernel) ⟨Nat.le_of_ble_eq_true rfl, Nat.le_of_ble_eq_true rfl⟩) (pvW 112 hK hP hE (by decide) xc112 rfl) rfl rfl hl.1 rfl (lv_room (Nat.le_of_ble_eq_true rfl)) dL_does_109 ⟨Nat.le_of_ble_eq_true rfl, Nat.le_of_ble_eq_true rfl⟩) (fun r28 u29 H locs hr27 hP hS => ?_)
        obtain ⟨hr9, hok⟩ := hr27
        subst hr9
        exact rw_ir hx hb hr rfl hlocks hS u29 hP ⟨(tkA_ge hG.1 (by omega) (by omega)), _, _, _, hok, hG.tick (by omega) (by omega), (hH.sv hsz6 hG).imp (fun _ q9 => q9.mono (by omega)), fun _ => tk_told⟩ dL_does_112
      · skip
        refine lv_bipush (v := 6) hx hb dL_does_98 (by decide) ?_
        refine lv_goto (tgt := 105) hx hb dL_does_100 (by decide) ?_
        refine ro_i (va_runS (As := [.int (v >>> (7 &&& 31)), .int 6]) (rest := [.int 1, .ref (a 112)]) ⟨hx, hb, hml, hown, hts⟩ (m_L_low l (v >>> (7 &&& 31)) 6 (by decide)) (va_cwS 2 hts (gS tw339 tw337 tw338 tw0) rfl rfl rfl (by decide +kernel) ⟨Nat.le_of_ble_eq_true rfl, Nat.le_of_ble_eq_true rfl⟩) ps0 rfl rfl hl.1 rfl (lv_room (Nat.le_of_ble_eq_true rfl)) dL_does_105 ⟨Nat.le_of_ble_eq_true rfl, Nat.le_of_ble_eq_true rfl⟩) (fun r31 hr30 => ?_)
        obtain ⟨k33, hk33, hr9⟩ := hr30
        subst hr9
        refine lv_iadd hx hb dL_does_108 ?_
        refine lv_as (y := nI (1 + k33)) (nI_add2 (p := 1) (1 := k33) rfl rfl) ?_
        refine rw_i hS (va_runV (As := [.int (nI (1 + k33))]) (rest := []) ⟨hx, hb, hml, hown, hts⟩ (a_X6_tick l D cI cS a u s sz hf hok (1 + k33) ⟨by omega, by omega⟩ _) (cwV 1 hts (gV tw347 tw344 tw345 tw346 tw1) rfl rfl rfl (by decide +kernel) ⟨Nat.le_of_ble_eq_true rfl, Nat.le_of_ble_eq_true rfl⟩) (pvW 112 hK hP hE (by decide) xc112 rfl) rfl rfl hl.1 rfl (lv_room (Nat.le_of_ble_eq_true rfl)) dL_does_109 ⟨Nat.le_of_ble_eq_true rfl, Nat.le_of_ble_eq_true rfl⟩) (fun r35 u36 H locs hr34 hP hS => ?_)
        obtain ⟨hr9, hok⟩ := hr34
        subst hr9
        exact rw_ir hx hb hr rfl hlocks hS u36 hP ⟨(tkA_ge hG.1 (by omega) (by omega)), _, _, _, hok, hG.tick (by omega) (by omega), (hH.sv hsz6 hG).imp (fun _ q9 => q9.mono (by omega)), fun _ => tk_told⟩ dL_does_112
    · skip
      have sw21n : ¬ q = 1 := fun hq0 => sw21 ((nI_eq2 (p := q) (q := 1) rfl rfl (by omega) (by omega)).mpr hq0)
      by_cases sw37 : nI q = 2
      · skip
        refine lv_tableIn (tgt := 84) hx hb dL_does_13 (by first | (rw [sw37]; done) | (rw [sw37]; decide)) (by first | (rw [sw37]; done) | (rw [sw37]; decide)) (off := 71) (by first | (rw [sw37]; done) | (rw [sw37]; decide)) (by decide) ?_
        have hjq : 2 = q := ((nI_eq2 (p := q) (q := 2) rfl rfl (by omega) (by omega)).mp sw37).symm
        subst hjq
        refine lv_aload_n hx hb dL_does_84 rfl (lv_at hl 1 rfl) ?_
        refine lv_iconst (v := 1) hx hb dL_does_85 (by decide) ?_
        refine lv_iload_n hx hb dL_does_86 rfl (lv_at hl 2 rfl) ?_
        refine lv_bipush (v := 7) hx hb dL_does_87 (by decide) ?_
        refine lv_ishr hx hb dL_does_89 ?_
        refine lv_iload_n hx hb dL_does_90 rfl (lv_at hl 2 rfl) ?_
        refine lv_iconst (v := 4) hx hb dL_does_91 (by decide) ?_
        refine lv_ishr hx hb dL_does_92 ?_
        refine lv_iconst (v := 1) hx hb dL_does_93 (by decide) ?_
        refine lv_iand hx hb dL_does_94 ?_
        refine lv_if_ne (tgt := 103) hx hb dL_does_95 (by decide) (fun c38 => ?_) (fun c38 => ?_)
        · skip
          refine lv_bipush (v := 40) hx hb dL_does_103 (by decide) ?_
          refine ro_i (va_runS (As := [.int (v >>> (7 &&& 31)), .int 40]) (rest := [.int 1, .ref (a 112)]) ⟨hx, hb, hml, hown, hts⟩ (m_L_low l (v >>> (7 &&& 31)) 40 (by decide)) (va_cwS 2 hts (gS tw339 tw337 tw338 tw0) rfl rfl rfl (by decide +kernel) ⟨Nat.le_of_ble_eq_true rfl, Nat.le_of_ble_eq_true rfl⟩) ps0 rfl rfl hl.1 rfl (lv_room (Nat.le_of_ble_eq_true rfl)) dL_does_105 ⟨Nat.le_of_ble_eq_true rfl, Nat.le_of_ble_eq_true rfl⟩) (fun r40 hr39 => ?_)
          obtain ⟨k42, hk42, hr9⟩ := hr39
          subst hr9
          refine lv_iadd hx hb dL_does_108 ?_
          refine lv_as (y := nI (1 + k42)) (nI_add2 (p := 1) (2 := k42) rfl rfl) ?_
          refine rw_i hS (va_runV (As := [.int (nI (1 + k42))]) (rest := []) ⟨hx, hb, hml, hown, hts⟩ (a_X6_tick l D cI cS a u s sz hf hok (1 + k42) ⟨by omega, by omega⟩ _) (cwV 1 hts (gV tw347 tw344 tw345 tw346 tw1) rfl rfl rfl (by decide +kernel) ⟨Nat.le_of_ble_eq_true rfl, Nat.le_of_ble_eq_true rfl⟩) (pvW 112 hK hP hE (by decide) xc112 rfl) rfl rfl hl.1 rfl (lv_room (Nat.le_of_ble_eq_true rfl)) dL_does_109 ⟨Nat.le_of_ble_eq_true rfl, Nat.le_of_ble_eq_true rfl⟩) (fun r44 u45 H locs hr43 hP hS => ?_)
          obtain ⟨hr9, hok⟩ := hr43
          subst hr9
          exact rw_ir hx hb hr rfl hlocks hS u45 hP ⟨(tkA_ge hG.1 (by omega) (by omega)), _, _, _, hok, hG.tick (by omega) (by omega), (hH.sv hsz6 hG).imp (fun _ q9 => q9.mono (by omega)), fun _ => tk_told⟩ dL_does_112
        · skip
          refine lv_bipush (v := 6) hx hb dL_does_98 (by decide) ?_
          refine lv_goto (tgt := 105) hx hb dL_does_100 (by decide) ?_
          refine ro_i (va_runS (As := [.int (v >>> (7 &&& 31)), .int 6]) (rest := [.int 1, .ref (a 112)]) ⟨hx, hb, hml, hown, hts⟩ (m_L_low l (v >>> (7 &&& 31)) 6 (by decide)) (va_cwS 2 hts (gS tw339 tw337 tw338 tw0) rfl rfl rfl (by decide +kernel) ⟨Nat.le_of_ble_eq_true rfl, Nat.le_of_ble_eq_true rfl⟩) ps0 rfl rfl hl.1 rfl (lv_room (Nat.le_of_ble_eq_true rfl)) dL_does_105 ⟨Nat.le_of_ble_eq_true rfl, Nat.le_of_ble_eq_true rfl⟩) (fun r47 hr46 => ?_)
          obtain ⟨k49, hk49, hr9⟩ := hr46
          subst hr9
          refine lv_iadd hx hb dL_does_108 ?_
          refine lv_as (y := nI (1 + k49)) (nI_add2 (p := 1) (2 := k49) rfl rfl) ?_
          refine rw_i hS (va_runV (As := [.int (nI (1 + k49))]) (rest := []) ⟨hx, hb, hml, hown, hts⟩ (a_X6_tick l D cI cS a u s sz hf hok (1 + k49) ⟨by omega, by omega⟩ _) (cwV 1 hts (gV tw347 tw344 tw345 tw346 tw1) rfl rfl rfl (by decide +kernel) ⟨Nat.le_of_ble_eq_true rfl, Nat.le_of_ble_eq_true rfl⟩) (pvW 112 hK hP hE (by decide) xc112 rfl) rfl rfl hl.1 rfl (lv_room (Nat.le_of_ble_eq_true rfl)) dL_does_109 ⟨Nat.le_of_ble_eq_true rfl, Nat.le_of_ble_eq_true rfl⟩) (fun r51 u52 H locs hr50 hP hS => ?_)
          obtain ⟨hr9, hok⟩ := hr50
          subst hr9
          exact rw_ir hx hb hr rfl hlocks hS u52 hP ⟨(tkA_ge hG.1 (by omega) (by omega)), _, _, _, hok, hG.tick (by omega) (by omega), (hH.sv hsz6 hG).imp (fun _ q9 => q9.mono (by omega)), fun _ => tk_told⟩ dL_does_112
      · skip
        have sw37n : ¬ q = 2 := fun hq0 => sw37 ((nI_eq2 (p := q) (q := 2) rfl rfl (by omega) (by omega)).mpr hq0)
        by_cases sw53 : nI q = 3
        · skip
          refine lv_tableIn (tgt := 113) hx hb dL_does_13 (by first | (rw [sw53]; done) | (rw [sw53]; decide)) (by first | (rw [sw53]; done) | (rw [sw53]; decide)) (off := 100) (by first | (rw [sw53]; done) | (rw [sw53]; decide)) (by decide) ?_
          have hjq : 3 = q := ((nI_eq2 (p := q) (q := 3) rfl rfl (by omega) (by omega)).mp sw53).symm
          subst hjq
          refine lv_aload_n hx hb dL_does_113 rfl (lv_at hl 1 rfl) ?_
          refine lv_iconst (v := 4) hx hb dL_does_114 (by decide) ?_
          refine rw_i hS (va_runV (As := [.int 4]) (rest := []) ⟨hx, hb, hml, hown, hts⟩ (a_X6_count l D cI cS a u s sz hf hok 4 (by omega) _) (cwV 1 hts (gV tw179 tw176 tw177 tw178 tw1) rfl rfl rfl (by decide +kernel) ⟨Nat.le_of_ble_eq_true rfl, Nat.le_of_ble_eq_true rfl⟩) (pvW 112 hK hP hE (by decide) xc112 rfl) rfl rfl hl.1 rfl (lv_room (Nat.le_of_ble_eq_true rfl)) dL_does_115 ⟨Nat.le_of_ble_eq_true rfl, Nat.le_of_ble_eq_true rfl⟩) (fun r55 u56 H locs hr54 hP hS => ?_)
          obtain ⟨hr9, hok⟩ := hr54
          subst hr9
          refine lv_if_ne (tgt := 125) hx hb dL_does_118 (by decide) (fun c57 => ?_) (fun c57 => ?_)
          · skip
            have hw0 := c57
            refine lv_aload_n hx hb dL_does_125 rfl (lv_at hl 1 rfl) ?_
            refine rw_i hS (va_runV (As := []) (rest := []) ⟨hx, hb, hml, hown, hts⟩ (a_X6_vote l D cI cS a u56 s sz hf hok hw0 _) (cwV 0 hts (gV tw398 tw395 tw396 tw397 tw1) rfl rfl rfl (by decide +kernel) ⟨Nat.le_of_ble_eq_true rfl, Nat.le_of_ble_eq_true rfl⟩) (pvW 112 hK hP hE (by decide) xc112 rfl) rfl rfl hl.1 rfl (lv_room (Nat.le_of_ble_eq_true rfl)) dL_does_126 ⟨Nat.le_of_ble_eq_true rfl, Nat.le_of_ble_eq_true rfl⟩) (fun r59 u60 H locs hr58 hP hS => ?_)
            obtain ⟨hr9, hok⟩ := hr58
            subst hr9
            exact rw_ir hx hb hr rfl hlocks hS u60 hP ⟨(vote_ge hG), _, _, _, hok, hG.vote (by omega), (hH.sv hsz6 hG).imp (fun _ q9 => q9.mono (by omega)), fun _ => vote_told hG⟩ dL_does_129
          · skip
            refine lv_iconst (v := 0) hx hb dL_does_121 (by decide) ?_
            refine lv_goto (tgt := 129) hx hb dL_does_122 (by decide) ?_
            exact rw_ir hx hb hr rfl hlocks hS u56 hP ⟨i_0le0, _, _, _, hok, hG.mono (by omega), hH.imp (fun _ q9 => q9.mono (by omega)), fun _ => Int.le_refl _⟩ dL_does_129
        · skip
          have sw53n : ¬ q = 3 := fun hq0 => sw53 ((nI_eq2 (p := q) (q := 3) rfl rfl (by omega) (by omega)).mpr hq0)
          by_cases sw61 : nI q = 4
          · skip
            refine lv_tableIn (tgt := 113) hx hb dL_does_13 (by first | (rw [sw61]; done) | (rw [sw61]; decide)) (by first | (rw [sw61]; done) | (rw [sw61]; decide)) (off := 100) (by first | (rw [sw61]; done) | (rw [sw61]; decide)) (by decide) ?_
            have hjq : 4 = q := ((nI_eq2 (p := q) (q := 4) rfl rfl (by omega) (by omega)).mp sw61).symm
            subst hjq
            refine lv_aload_n hx hb dL_does_113 rfl (lv_at hl 1 rfl) ?_
            refine lv_iconst (v := 4) hx hb dL_does_114 (by decide) ?_
            refine rw_i hS (va_runV (As := [.int 4]) (rest := []) ⟨hx, hb, hml, hown, hts⟩ (a_X6_count l D cI cS a u s sz hf hok 4 (by omega) _) (cwV 1 hts (gV tw179 tw176 tw177 tw178 tw1) rfl rfl rfl (by decide +kernel) ⟨Nat.le_of_ble_eq_true rfl, Nat.le_of_ble_eq_true rfl⟩) (pvW 112 hK hP hE (by decide) xc112 rfl) rfl rfl hl.1 rfl (lv_room (Nat.le_of_ble_eq_true rfl)) dL_does_115 ⟨Nat.le_of_ble_eq_true rfl, Nat.le_of_ble_eq_true rfl⟩) (fun r63 u64 H locs hr62 hP hS => ?_)
            obtain ⟨hr9, hok⟩ := hr62
            subst hr9
            refine lv_if_ne (tgt := 125) hx hb dL_does_118 (by decide) (fun c65 => ?_) (fun c65 => ?_)
            · skip
              have hw0 := c65
              refine lv_aload_n hx hb dL_does_125 rfl (lv_at hl 1 rfl) ?_
              refine rw_i hS (va_runV (As := []) (rest := []) ⟨hx, hb, hml, hown, hts⟩ (a_X6_vote l D cI cS a u64 s sz hf hok hw0 _) (cwV 0 hts (gV tw398 tw395 tw396 tw397 tw1) rfl rfl rfl (by decide +kernel) ⟨Nat.le_of_ble_eq_true rfl, Nat.le_of_ble_eq_true rfl⟩) (pvW 112 hK hP hE (by decide) xc112 rfl) rfl rfl hl.1 rfl (lv_room (Nat.le_of_ble_eq_true rfl)) dL_does_126 ⟨Nat.le_of_ble_eq_true rfl, Nat.le_of_ble_eq_true rfl⟩) (fun r67 u68 H locs hr66 hP hS => ?_)
              obtain ⟨hr9, hok⟩ := hr66
              subst hr9
              exact rw_ir hx hb hr rfl hlocks hS u68 hP ⟨(vote_ge hG), _, _, _, hok, hG.vote (by omega), (hH.sv hsz6 hG).imp (fun _ q9 => q9.mono (by omega)), fun _ => vote_told hG⟩ dL_does_129
            · skip
              refine lv_iconst (v := 0) hx hb dL_does_121 (by decide) ?_
              refine lv_goto (tgt := 129) hx hb dL_does_122 (by decide) ?_
              exact rw_ir hx hb hr rfl hlocks hS u64 hP ⟨i_0le0, _, _, _, hok, hG.mono (by omega), hH.imp (fun _ q9 => q9.mono (by omega)), fun _ => Int.le_refl _⟩ dL_does_129
          · skip
            have sw61n : ¬ q = 4 := fun hq0 => sw61 ((nI_eq2 (p := q) (q := 4) rfl rfl (by omega) (by omega)).mpr hq0)
            by_cases sw69 : nI q = 5
            · skip
              refine lv_tableIn (tgt := 113) hx hb dL_does_13 (by first | (rw [sw69]; done) | (rw [sw69]; decide)) (by first | (rw [sw69]; done) | (rw [sw69]; decide)) (off := 100) (by first | (rw [sw69]; done) | (rw [sw69]; decide)) (by decide) ?_
              have hjq : 5 = q := ((nI_eq2 (p := q) (q := 5) rfl rfl (by omega) (by omega)).mp sw69).symm
              subst hjq
              refine lv_aload_n hx hb dL_does_113 rfl (lv_at hl 1 rfl) ?_
              refine lv_iconst (v := 4) hx hb dL_does_114 (by decide) ?_
              refine rw_i hS (va_runV (As := [.int 4]) (rest := []) ⟨hx, hb, hml, hown, hts⟩ (a_X6_count l D cI cS a u s sz hf hok 4 (by omega) _) (cwV 1 hts (gV tw179 tw176 tw177 tw178 tw1) rfl rfl rfl (by decide +kernel) ⟨Nat.le_of_ble_eq_true rfl, Nat.le_of_ble_eq_true rfl⟩) (pvW 112 hK hP hE (by decide) xc112 rfl) rfl rfl hl.1 rfl (lv_room (Nat.le_of_ble_eq_true rfl)) dL_does_115 ⟨Nat.le_of_ble_eq_true rfl, Nat.le_of_ble_eq_true rfl⟩) (fun r71 u72 H locs hr70 hP hS => ?_)
              obtain ⟨hr9, hok⟩ := hr70
              subst hr9
              refine lv_if_ne (tgt := 125) hx hb dL_does_118 (by decide) (fun c73 => ?_) (fun c73 => ?_)
              · skip
                have hw0 := c73
                refine lv_aload_n hx hb dL_does_125 rfl (lv_at hl 1 rfl) ?_
                refine rw_i hS (va_runV (As := []) (rest := []) ⟨hx, hb, hml, hown, hts⟩ (a_X6_vote l D cI cS a u72 s sz hf hok hw0 _) (cwV 0 hts (gV tw398 tw395 tw396 tw397 tw1) rfl rfl rfl (by decide +kernel) ⟨Nat.le_of_ble_eq_true rfl, Nat.le_of_ble_eq_true rfl⟩) (pvW 112 hK hP hE (by decide) xc112 rfl) rfl rfl hl.1 rfl (lv_room (Nat.le_of_ble_eq_true rfl)) dL_does_126 ⟨Nat.le_of_ble_eq_true rfl, Nat.le_of_ble_eq_true rfl⟩) (fun r75 u76 H locs hr74 hP hS => ?_)
                obtain ⟨hr9, hok⟩ := hr74
                subst hr9
                exact rw_ir hx hb hr rfl hlocks hS u76 hP ⟨(vote_ge hG), _, _, _, hok, hG.vote (by omega), (hH.sv hsz6 hG).imp (fun _ q9 => q9.mono (by omega)), fun _ => vote_told hG⟩ dL_does_129
              · skip
                refine lv_iconst (v := 0) hx hb dL_does_121 (by decide) ?_
                refine lv_goto (tgt := 129) hx hb dL_does_122 (by decide) ?_
                exact rw_ir hx hb hr rfl hlocks hS u72 hP ⟨i_0le0, _, _, _, hok, hG.mono (by omega), hH.imp (fun _ q9 => q9.mono (by omega)), fun _ => Int.le_refl _⟩ dL_does_129
            · skip
              have sw69n : ¬ q = 5 := fun hq0 => sw69 ((nI_eq2 (p := q) (q := 5) rfl rfl (by omega) (by omega)).mpr hq0)
              by_cases sw77 : nI q = 6
              · skip
                refine lv_tableIn (tgt := 130) hx hb dL_does_13 (by first | (rw [sw77]; done) | (rw [sw77]; decide)) (by first | (rw [sw77]; done) | (rw [sw77]; decide)) (off := 117) (by first | (rw [sw77]; done) | (rw [sw77]; decide)) (by decide) ?_
                have hjq : 6 = q := ((nI_eq2 (p := q) (q := 6) rfl rfl (by omega) (by omega)).mp sw77).symm
                subst hjq
                refine lv_aload_n hx hb dL_does_130 rfl (lv_at hl 1 rfl) ?_
                refine rw_i hS (va_runV (As := []) (rest := []) ⟨hx, hb, hml, hown, hts⟩ (a_X6_correct l D cI cS a u s sz hf hok _) (cwV 0 hts (gV tw438 tw435 tw436 tw437 tw1) rfl rfl rfl (by decide +kernel) ⟨Nat.le_of_ble_eq_true rfl, Nat.le_of_ble_eq_true rfl⟩) (pvW 112 hK hP hE (by decide) xc112 rfl) rfl rfl hl.1 rfl (lv_room (Nat.le_of_ble_eq_true rfl)) dL_does_131 ⟨Nat.le_of_ble_eq_true rfl, Nat.le_of_ble_eq_true rfl⟩) (fun r79 u80 H locs hr78 hP hS => ?_)
                obtain ⟨hr9, hok⟩ := hr78
                subst hr9
                exact rw_ir hx hb hr rfl hlocks hS u80 hP ⟨(corA_ge hG.1), _, _, _, hok, hG.cor (by omega), (hH.sv hsz6 hG).imp (fun _ q9 => q9.mono (by omega)), fun _ => cor_told⟩ dL_does_134
              · skip
                have sw77n : ¬ q = 6 := fun hq0 => sw77 ((nI_eq2 (p := q) (q := 6) rfl rfl (by omega) (by omega)).mpr hq0)
                by_cases sw81 : nI q = 7
                · skip
                  refine lv_tableIn (tgt := 135) hx hb dL_does_13 (by first | (rw [sw81]; done) | (rw [sw81]; decide)) (by first | (rw [sw81]; done) | (rw [sw81]; decide)) (off := 122) (by first | (rw [sw81]; done) | (rw [sw81]; decide)) (by decide) ?_
                  have hjq : 7 = q := ((nI_eq2 (p := q) (q := 7) rfl rfl (by omega) (by omega)).mp sw81).symm
                  subst hjq
                  refine lv_aload_n hx hb dL_does_135 rfl (lv_at hl 1 rfl) ?_
                  refine lv_iload_n hx hb dL_does_136 rfl (lv_at hl 0 rfl) ?_
                  refine lv_iload_n hx hb dL_does_137 rfl (lv_at hl 2 rfl) ?_
                  refine lv_bipush (v := 12) hx hb dL_does_138 (by decide) ?_
                  refine lv_ishr hx hb dL_does_140 ?_
                  refine lv_iconst (v := 3) hx hb dL_does_141 (by decide) ?_
                  refine lv_iand hx hb dL_does_142 ?_
                  refine lv_if_ne (tgt := 161) hx hb dL_does_143 (by decide) (fun c82 => ?_) (fun c82 => ?_)
                  · skip
                    refine lv_iload_n hx hb dL_does_161 rfl (lv_at hl 2 rfl) ?_
                    refine lv_bipush (v := 7) hx hb dL_does_162 (by decide) ?_
                    refine lv_ishr hx hb dL_does_164 ?_
                    refine lv_sipush (v := 400) hx hb dL_does_165 (by decide) ?_
                    refine ro_i (va_runS (As := [.int (v >>> (7 &&& 31)), .int 400]) (rest := [.int (nI k4), .ref (a 112)]) ⟨hx, hb, hml, hown, hts⟩ (m_L_low l (v >>> (7 &&& 31)) 400 (by decide)) (va_cwS 2 hts (gS tw339 tw337 tw338 tw0) rfl rfl rfl (by decide +kernel) ⟨Nat.le_of_ble_eq_true rfl, Nat.le_of_ble_eq_true rfl⟩) ps0 rfl rfl hl.1 rfl (lv_room (Nat.le_of_ble_eq_true rfl)) dL_does_168 ⟨Nat.le_of_ble_eq_true rfl, Nat.le_of_ble_eq_true rfl⟩) (fun r84 hr83 => ?_)
                    obtain ⟨k86, hk86, hr9⟩ := hr83
                    subst hr9
                    refine rw_i hS (va_runV (As := [.int (nI k4), .int (nI k86)]) (rest := []) ⟨hx, hb, hml, hown, hts⟩ (a_X6_put l D cI cS a u s sz hf hok k4 (by omega) (nI k86) (nI_n0 (by omega)) (nI_le99999 (by omega)) _) (cwV 2 hts (gV tw455 tw452 tw453 tw454 tw1) rfl rfl rfl (by decide +kernel) ⟨Nat.le_of_ble_eq_true rfl, Nat.le_of_ble_eq_true rfl⟩) (pvW 112 hK hP hE (by decide) xc112 rfl) rfl rfl hl.1 rfl (lv_room (Nat.le_of_ble_eq_true rfl)) dL_does_171 ⟨Nat.le_of_ble_eq_true rfl, Nat.le_of_ble_eq_true rfl⟩) (fun r88 u89 H locs hr87 hP hS => ?_)
                    obtain ⟨hr9, hok⟩ := hr87
                    subst hr9
                    exact rw_ir hx hb hr rfl hlocks hS u89 hP ⟨(hG.n1 (by omega)), _, _, _, hok, hG.put (by omega) (by omega) (nI_w9 (by omega)), (hH.sv hsz6 hG).imp (fun _ q9 => q9.mono (by omega)), fun _ => put_told⟩ dL_does_174
                  · skip
                    refine lv_ldc hx hb hown (hts _ tw451) dL_does_146 ?_
                    refine lv_iload_n hx hb dL_does_148 rfl (lv_at hl 2 rfl) ?_
                    refine lv_bipush (v := 7) hx hb dL_does_149 (by decide) ?_
                    refine lv_ishr hx hb dL_does_151 ?_
                    refine lv_bipush (v := 90) hx hb dL_does_152 (by decide) ?_
                    refine ro_i (va_runS (As := [.int (v >>> (7 &&& 31)), .int 90]) (rest := [.int 99999, .int (nI k4), .ref (a 112)]) ⟨hx, hb, hml, hown, hts⟩ (m_L_low l (v >>> (7 &&& 31)) 90 (by decide)) (va_cwS 2 hts (gS tw339 tw337 tw338 tw0) rfl rfl rfl (by decide +kernel) ⟨Nat.le_of_ble_eq_true rfl, Nat.le_of_ble_eq_true rfl⟩) ps0 rfl rfl hl.1 rfl (lv_room (Nat.le_of_ble_eq_true rfl)) dL_does_154 ⟨Nat.le_of_ble_eq_true rfl, Nat.le_of_ble_eq_true rfl⟩) (fun r91 hr90 => ?_)
                    obtain ⟨k93, hk93, hr9⟩ := hr90
                    subst hr9
                    refine lv_isub hx hb dL_does_157 ?_
                    refine lv_as (y := nI (99999 - k93)) (nI_sub2 (p := 99999) (7 := k93) rfl rfl (by omega)) ?_
                    refine lv_goto (tgt := 171) hx hb dL_does_158 (by decide) ?_
                    refine rw_i hS (va_runV (As := [.int (nI k4), .int (nI (99999 - k93))]) (rest := []) ⟨hx, hb, hml, hown, hts⟩ (a_X6_put l D cI cS a u s sz hf hok k4 (by omega) (nI (99999 - k93)) (nI_n0 (by omega)) (nI_le99999 (by omega)) _) (cwV 2 hts (gV tw455 tw452 tw453 tw454 tw1) rfl rfl rfl (by decide +kernel) ⟨Nat.le_of_ble_eq_true rfl, Nat.le_of_ble_eq_true rfl⟩) (pvW 112 hK hP hE (by decide) xc112 rfl) rfl rfl hl.1 rfl (lv_room (Nat.le_of_ble_eq_true rfl)) dL_does_171 ⟨Nat.le_of_ble_eq_true rfl, Nat.le_of_ble_eq_true rfl⟩) (fun r95 u96 H locs hr94 hP hS => ?_)
                    obtain ⟨hr9, hok⟩ := hr94
                    subst hr9
                    exact rw_ir hx hb hr rfl hlocks hS u96 hP ⟨(hG.n1 (by omega)), _, _, _, hok, hG.put (by omega) (by omega) (nI_w9 (by omega)), (hH.sv hsz6 hG).imp (fun _ q9 => q9.mono (by omega)), fun _ => put_told⟩ dL_does_174
                · skip
                  have sw81n : ¬ q = 7 := fun hq0 => sw81 ((nI_eq2 (p := q) (q := 7) rfl rfl (by omega) (by omega)).mpr hq0)
                  by_cases sw97 : nI q = 8
                  · skip
                    refine lv_tableIn (tgt := 175) hx hb dL_does_13 (by first | (rw [sw97]; done) | (rw [sw97]; decide)) (by first | (rw [sw97]; done) | (rw [sw97]; decide)) (off := 162) (by first | (rw [sw97]; done) | (rw [sw97]; decide)) (by decide) ?_
                    have hjq : 8 = q := ((nI_eq2 (p := q) (q := 8) rfl rfl (by omega) (by omega)).mp sw97).symm
                    subst hjq
                    refine lv_aload_n hx hb dL_does_175 rfl (lv_at hl 1 rfl) ?_
                    refine lv_iload_n hx hb dL_does_176 rfl (lv_at hl 0 rfl) ?_
                    refine lv_iload_n hx hb dL_does_177 rfl (lv_at hl 2 rfl) ?_
                    refine lv_bipush (v := 7) hx hb dL_does_178 (by decide) ?_
                    refine lv_ishr hx hb dL_does_180 ?_
                    refine lv_bipush (v := 11) hx hb dL_does_181 (by decide) ?_
                    refine ro_i (va_runS (As := [.int (v >>> (7 &&& 31)), .int 11]) (rest := [.int (nI k4), .ref (a 112)]) ⟨hx, hb, hml, hown, hts⟩ (m_L_low l (v >>> (7 &&& 31)) 11 (by decide)) (va_cwS 2 hts (gS tw339 tw337 tw338 tw0) rfl rfl rfl (by decide +kernel) ⟨Nat.le_of_ble_eq_true rfl, Nat.le_of_ble_eq_true rfl⟩) ps0 rfl rfl hl.1 rfl (lv_room (Nat.le_of_ble_eq_true rfl)) dL_does_183 ⟨Nat.le_of_ble_eq_true rfl, Nat.le_of_ble_eq_true rfl⟩) (fun r99 hr98 => ?_)
                    obtain ⟨k101, hk101, hr9⟩ := hr98
                    subst hr9
                    refine lv_iconst (v := 5) hx hb dL_does_186 (by decide) ?_
                    refine lv_isub hx hb dL_does_187 ?_
                    refine rw_i hS (va_runV (As := [.int (nI k4), .int ((nI k101) - 5)]) (rest := []) ⟨hx, hb, hml, hown, hts⟩ (a_X6_drift l D cI cS a u s sz hf hok k4 (by omega) ((nI k101) - 5) (dr_ok (by omega)).1 (dr_ok (by omega)).2 _) (cwV 2 hts (gV tw481 tw478 tw479 tw480 tw1) rfl rfl rfl (by decide +kernel) ⟨Nat.le_of_ble_eq_true rfl, Nat.le_of_ble_eq_true rfl⟩) (pvW 112 hK hP hE (by decide) xc112 rfl) rfl rfl hl.1 rfl (lv_room (Nat.le_of_ble_eq_true rfl)) dL_does_188 ⟨Nat.le_of_ble_eq_true rfl, Nat.le_of_ble_eq_true rfl⟩) (fun r103 u104 H locs hr102 hP hS => ?_)
                    obtain ⟨hr9, hok⟩ := hr102
                    subst hr9
                    refine lv_bipush (v := (-5)) hx hb dL_does_191 (by decide) ?_
                    refine lv_icmp_ge (tgt := 200) hx hb dL_does_193 (by decide) (fun _ => ?_) (fun h0 => absurd (hG.g2 (by omega)) h0)
                    refine lv_iconst (v := 0) hx hb dL_does_200 (by decide) ?_
                    exact rw_ir hx hb hr rfl hlocks hS u104 hP ⟨i_0le0, _, _, _, hok, hG.drf (dr_ok (by omega)), (hH.sv hsz6 hG).imp (fun _ q9 => q9.mono (by omega)), fun _ => Int.le_refl _⟩ dL_does_201
                  · skip
                    have sw97n : ¬ q = 8 := fun hq0 => sw97 ((nI_eq2 (p := q) (q := 8) rfl rfl (by omega) (by omega)).mpr hq0)
                    by_cases sw105 : nI q = 9
                    · skip
                      refine lv_tableIn (tgt := 175) hx hb dL_does_13 (by first | (rw [sw105]; done) | (rw [sw105]; decide)) (by first | (rw [sw105]; done) | (rw [sw105]; decide)) (off := 162) (by first | (rw [sw105]; done) | (rw [sw105]; decide)) (by decide) ?_
                      have hjq : 9 = q := ((nI_eq2 (p := q) (q := 9) rfl rfl (by omega) (by omega)).mp sw105).symm
                      subst hjq
                      refine lv_aload_n hx hb dL_does_175 rfl (lv_at hl 1 rfl) ?_
                      refine lv_iload_n hx hb dL_does_176 rfl (lv_at hl 0 rfl) ?_
                      refine lv_iload_n hx hb dL_does_177 rfl (lv_at hl 2 rfl) ?_
                      refine lv_bipush (v := 7) hx hb dL_does_178 (by decide) ?_
                      refine lv_ishr hx hb dL_does_180 ?_
                      refine lv_bipush (v := 11) hx hb dL_does_181 (by decide) ?_
                      refine ro_i (va_runS (As := [.int (v >>> (7 &&& 31)), .int 11]) (rest := [.int (nI k4), .ref (a 112)]) ⟨hx, hb, hml, hown, hts⟩ (m_L_low l (v >>> (7 &&& 31)) 11 (by decide)) (va_cwS 2 hts (gS tw339 tw337 tw338 tw0) rfl rfl rfl (by decide +kernel) ⟨Nat.le_of_ble_eq_true rfl, Nat.le_of_ble_eq_true rfl⟩) ps0 rfl rfl hl.1 rfl (lv_room (Nat.le_of_ble_eq_true rfl)) dL_does_183 ⟨Nat.le_of_ble_eq_true rfl, Nat.le_of_ble_eq_true rfl⟩) (fun r107 hr106 => ?_)
                      obtain ⟨k109, hk109, hr9⟩ := hr106
                      subst hr9
                      refine lv_iconst (v := 5) hx hb dL_does_186 (by decide) ?_
                      refine lv_isub hx hb dL_does_187 ?_
                      refine rw_i hS (va_runV (As := [.int (nI k4), .int ((nI k109) - 5)]) (rest := []) ⟨hx, hb, hml, hown, hts⟩ (a_X6_drift l D cI cS a u s sz hf hok k4 (by omega) ((nI k109) - 5) (dr_ok (by omega)).1 (dr_ok (by omega)).2 _) (cwV 2 hts (gV tw481 tw478 tw479 tw480 tw1) rfl rfl rfl (by decide +kernel) ⟨Nat.le_of_ble_eq_true rfl, Nat.le_of_ble_eq_true rfl⟩) (pvW 112 hK hP hE (by decide) xc112 rfl) rfl rfl hl.1 rfl (lv_room (Nat.le_of_ble_eq_true rfl)) dL_does_188 ⟨Nat.le_of_ble_eq_true rfl, Nat.le_of_ble_eq_true rfl⟩) (fun r111 u112 H locs hr110 hP hS => ?_)
                      obtain ⟨hr9, hok⟩ := hr110
                      subst hr9
                      refine lv_bipush (v := (-5)) hx hb dL_does_191 (by decide) ?_
                      refine lv_icmp_ge (tgt := 200) hx hb dL_does_193 (by decide) (fun _ => ?_) (fun h0 => absurd (hG.g2 (by omega)) h0)
                      refine lv_iconst (v := 0) hx hb dL_does_200 (by decide) ?_
                      exact rw_ir hx hb hr rfl hlocks hS u112 hP ⟨i_0le0, _, _, _, hok, hG.drf (dr_ok (by omega)), (hH.sv hsz6 hG).imp (fun _ q9 => q9.mono (by omega)), fun _ => Int.le_refl _⟩ dL_does_201
                    · skip
                      have sw105n : ¬ q = 9 := fun hq0 => sw105 ((nI_eq2 (p := q) (q := 9) rfl rfl (by omega) (by omega)).mpr hq0)
                      by_cases sw113 : nI q = 10
                      · skip
                        refine lv_tableIn (tgt := 202) hx hb dL_does_13 (by first | (rw [sw113]; done) | (rw [sw113]; decide)) (by first | (rw [sw113]; done) | (rw [sw113]; decide)) (off := 189) (by first | (rw [sw113]; done) | (rw [sw113]; decide)) (by decide) ?_
                        have hjq : 10 = q := ((nI_eq2 (p := q) (q := 10) rfl rfl (by omega) (by omega)).mp sw113).symm
                        subst hjq
                        refine lv_aload_n hx hb dL_does_202 rfl (lv_at hl 1 rfl) ?_
                        refine lv_iload_n hx hb dL_does_203 rfl (lv_at hl 0 rfl) ?_
                        refine lv_iload_n hx hb dL_does_204 rfl (lv_at hl 2 rfl) ?_
                        refine lv_bipush (v := 7) hx hb dL_does_205 (by decide) ?_
                        refine lv_ishr hx hb dL_does_207 ?_
                        refine lv_bipush (v := 10) hx hb dL_does_208 (by decide) ?_
                        refine ro_i (va_runS (As := [.int (v >>> (7 &&& 31)), .int 10]) (rest := [.int (nI k4), .ref (a 112)]) ⟨hx, hb, hml, hown, hts⟩ (m_L_low l (v >>> (7 &&& 31)) 10 (by decide)) (va_cwS 2 hts (gS tw339 tw337 tw338 tw0) rfl rfl rfl (by decide +kernel) ⟨Nat.le_of_ble_eq_true rfl, Nat.le_of_ble_eq_true rfl⟩) ps0 rfl rfl hl.1 rfl (lv_room (Nat.le_of_ble_eq_true rfl)) dL_does_210 ⟨Nat.le_of_ble_eq_true rfl, Nat.le_of_ble_eq_true rfl⟩) (fun r115 hr114 => ?_)
                        obtain ⟨k117, hk117, hr9⟩ := hr114
                        subst hr9
                        refine lv_iload_n hx hb dL_does_213 rfl (lv_at hl 2 rfl) ?_
                        refine lv_bipush (v := 8) hx hb dL_does_214 (by decide) ?_
                        refine lv_ishr hx hb dL_does_216 ?_
                        refine lv_bipush (v := 121) hx hb dL_does_217 (by decide) ?_
                        refine ro_i (va_runS (As := [.int (v >>> (8 &&& 31)), .int 121]) (rest := [.int (nI k117), .int (nI k4), .ref (a 112)]) ⟨hx, hb, hml, hown, hts⟩ (m_L_low l (v >>> (8 &&& 31)) 121 (by decide)) (va_cwS 2 hts (gS tw339 tw337 tw338 tw0) rfl rfl rfl (by decide +kernel) ⟨Nat.le_of_ble_eq_true rfl, Nat.le_of_ble_eq_true rfl⟩) ps0 rfl rfl hl.1 rfl (lv_room (Nat.le_of_ble_eq_true rfl)) dL_does_219 ⟨Nat.le_of_ble_eq_true rfl, Nat.le_of_ble_eq_true rfl⟩) (fun r119 hr118 => ?_)
                        obtain ⟨k121, hk121, hr9⟩ := hr118
                        subst hr9
                        refine lv_bipush (v := 60) hx hb dL_does_222 (by decide) ?_
                        refine lv_isub hx hb dL_does_224 ?_
                        refine rw_i hS (va_runV (As := [.int (nI k4), .int (nI k117), .int ((nI k121) - 60)]) (rest := []) ⟨hx, hb, hml, hown, hts⟩ (a_X6_warden l D cI cS a u s sz hf hok k4 (by omega) (nI k117) ((nI k121) - 60) (nI_n0 (by omega)) (nI_le9 (by omega)) (li_ok (by omega)).1 (li_ok (by omega)).2 _) (cwV 3 hts (gV tw490 tw487 tw488 tw489 tw1) rfl rfl rfl (by decide +kernel) ⟨Nat.le_of_ble_eq_true rfl, Nat.le_of_ble_eq_true rfl⟩) (pvW 112 hK hP hE (by decide) xc112 rfl) rfl rfl hl.1 rfl (lv_room (Nat.le_of_ble_eq_true rfl)) dL_does_225 ⟨Nat.le_of_ble_eq_true rfl, Nat.le_of_ble_eq_true rfl⟩) (fun r123 u124 H locs hr122 hP hS => ?_)
                        obtain ⟨hr9, hok⟩ := hr122
                        subst hr9
                        exact rw_ir hx hb hr rfl hlocks hS u124 hP ⟨(hG.g7n (by omega)), _, _, _, hok, hG.wrd (by omega) (by omega) (li_ok (by omega)), (hH.sv hsz6 hG).imp (fun _ q9 => q9.mono (by omega)), fun _ => Int.le_refl _⟩ dL_does_228
                      · skip
                        have sw113n : ¬ q = 10 := fun hq0 => sw113 ((nI_eq2 (p := q) (q := 10) rfl rfl (by omega) (by omega)).mpr hq0)
                        by_cases sw125 : nI q = 11
                        · skip
                          refine lv_tableIn (tgt := 202) hx hb dL_does_13 (by first | (rw [sw125]; done) | (rw [sw125]; decide)) (by first | (rw [sw125]; done) | (rw [sw125]; decide)) (off := 189) (by first | (rw [sw125]; done) | (rw [sw125]; decide)) (by decide) ?_
                          have hjq : 11 = q := ((nI_eq2 (p := q) (q := 11) rfl rfl (by omega) (by omega)).mp sw125).symm
                          subst hjq
                          refine lv_aload_n hx hb dL_does_202 rfl (lv_at hl 1 rfl) ?_
                          refine lv_iload_n hx hb dL_does_203 rfl (lv_at hl 0 rfl) ?_
                          refine lv_iload_n hx hb dL_does_204 rfl (lv_at hl 2 rfl) ?_
                          refine lv_bipush (v := 7) hx hb dL_does_205 (by decide) ?_
                          refine lv_ishr hx hb dL_does_207 ?_
                          refine lv_bipush (v := 10) hx hb dL_does_208 (by decide) ?_
                          refine ro_i (va_runS (As := [.int (v >>> (7 &&& 31)), .int 10]) (rest := [.int (nI k4), .ref (a 112)]) ⟨hx, hb, hml, hown, hts⟩ (m_L_low l (v >>> (7 &&& 31)) 10 (by decide)) (va_cwS 2 hts (gS tw339 tw337 tw338 tw0) rfl rfl rfl (by decide +kernel) ⟨Nat.le_of_ble_eq_true rfl, Nat.le_of_ble_eq_true rfl⟩) ps0 rfl rfl hl.1 rfl (lv_room (Nat.le_of_ble_eq_true rfl)) dL_does_210 ⟨Nat.le_of_ble_eq_true rfl, Nat.le_of_ble_eq_true rfl⟩) (fun r127 hr126 => ?_)
                          obtain ⟨k129, hk129, hr9⟩ := hr126
                          subst hr9
                          refine lv_iload_n hx hb dL_does_213 rfl (lv_at hl 2 rfl) ?_
                          refine lv_bipush (v := 8) hx hb dL_does_214 (by decide) ?_
                          refine lv_ishr hx hb dL_does_216 ?_
                          refine lv_bipush (v := 121) hx hb dL_does_217 (by decide) ?_
                          refine ro_i (va_runS (As := [.int (v >>> (8 &&& 31)), .int 121]) (rest := [.int (nI k129), .int (nI k4), .ref (a 112)]) ⟨hx, hb, hml, hown, hts⟩ (m_L_low l (v >>> (8 &&& 31)) 121 (by decide)) (va_cwS 2 hts (gS tw339 tw337 tw338 tw0) rfl rfl rfl (by decide +kernel) ⟨Nat.le_of_ble_eq_true rfl, Nat.le_of_ble_eq_true rfl⟩) ps0 rfl rfl hl.1 rfl (lv_room (Nat.le_of_ble_eq_true rfl)) dL_does_219 ⟨Nat.le_of_ble_eq_true rfl, Nat.le_of_ble_eq_true rfl⟩) (fun r131 hr130 => ?_)
                          obtain ⟨k133, hk133, hr9⟩ := hr130
                          subst hr9
                          refine lv_bipush (v := 60) hx hb dL_does_222 (by decide) ?_
                          refine lv_isub hx hb dL_does_224 ?_
                          refine rw_i hS (va_runV (As := [.int (nI k4), .int (nI k129), .int ((nI k133) - 60)]) (rest := []) ⟨hx, hb, hml, hown, hts⟩ (a_X6_warden l D cI cS a u s sz hf hok k4 (by omega) (nI k129) ((nI k133) - 60) (nI_n0 (by omega)) (nI_le9 (by omega)) (li_ok (by omega)).1 (li_ok (by omega)).2 _) (cwV 3 hts (gV tw490 tw487 tw488 tw489 tw1) rfl rfl rfl (by decide +kernel) ⟨Nat.le_of_ble_eq_true rfl, Nat.le_of_ble_eq_true rfl⟩) (pvW 112 hK hP hE (by decide) xc112 rfl) rfl rfl hl.1 rfl (lv_room (Nat.le_of_ble_eq_true rfl)) dL_does_225 ⟨Nat.le_of_ble_eq_true rfl, Nat.le_of_ble_eq_true rfl⟩) (fun r135 u136 H locs hr134 hP hS => ?_)
                          obtain ⟨hr9, hok⟩ := hr134
                          subst hr9
                          exact rw_ir hx hb hr rfl hlocks hS u136 hP ⟨(hG.g7n (by omega)), _, _, _, hok, hG.wrd (by omega) (by omega) (li_ok (by omega)), (hH.sv hsz6 hG).imp (fun _ q9 => q9.mono (by omega)), fun _ => Int.le_refl _⟩ dL_does_228
                        · skip
                          have sw125n : ¬ q = 11 := fun hq0 => sw125 ((nI_eq2 (p := q) (q := 11) rfl rfl (by omega) (by omega)).mpr hq0)
                          by_cases sw137 : nI q = 12
                          · skip
                            refine lv_tableIn (tgt := 229) hx hb dL_does_13 (by first | (rw [sw137]; done) | (rw [sw137]; decide)) (by first | (rw [sw137]; done) | (rw [sw137]; decide)) (off := 216) (by first | (rw [sw137]; done) | (rw [sw137]; decide)) (by decide) ?_
                            have hjq : 12 = q := ((nI_eq2 (p := q) (q := 12) rfl rfl (by omega) (by omega)).mp sw137).symm
                            subst hjq
                            refine lv_aload_n hx hb dL_does_229 rfl (lv_at hl 1 rfl) ?_
                            refine lv_iload_n hx hb dL_does_230 rfl (lv_at hl 2 rfl) ?_
                            refine lv_iconst (v := 4) hx hb dL_does_231 (by decide) ?_
                            refine lv_ishr hx hb dL_does_232 ?_
                            refine lv_iconst (v := 1) hx hb dL_does_233 (by decide) ?_
                            refine lv_iand hx hb dL_does_234 ?_
                            obtain ⟨q2, hq2, hq3⟩ := and1 ((v >>> (4 &&& 31)))
                            refine lv_as (y := nI q2) hq3 ?_
                            refine lv_iload_n hx hb dL_does_235 rfl (lv_at hl 2 rfl) ?_
                            refine lv_iconst (v := 5) hx hb dL_does_236 (by decide) ?_
                            refine lv_ishr hx hb dL_does_237 ?_
                            refine lv_iload_n hx hb dL_does_238 rfl (lv_at hl 2 rfl) ?_
                            refine lv_bipush (v := 10) hx hb dL_does_239 (by decide) ?_
                            refine lv_ishr hx hb dL_does_241 ?_
                            refine lv_iconst (v := 1) hx hb dL_does_242 (by decide) ?_
                            refine lv_iand hx hb dL_does_243 ?_
                            refine lv_if_ne (tgt := 252) hx hb dL_does_244 (by decide) (fun c138 => ?_) (fun c138 => ?_)
                            · skip
                              refine lv_bipush (v := 100) hx hb dL_does_252 (by decide) ?_
                              refine ro_i (va_runS (As := [.int (v >>> (5 &&& 31)), .int 100]) (rest := [.int (nI q2), .ref (a 112)]) ⟨hx, hb, hml, hown, hts⟩ (m_L_low l (v >>> (5 &&& 31)) 100 (by decide)) (va_cwS 2 hts (gS tw339 tw337 tw338 tw0) rfl rfl rfl (by decide +kernel) ⟨Nat.le_of_ble_eq_true rfl, Nat.le_of_ble_eq_true rfl⟩) ps0 rfl rfl hl.1 rfl (lv_room (Nat.le_of_ble_eq_true rfl)) dL_does_254 ⟨Nat.le_of_ble_eq_true rfl, Nat.le_of_ble_eq_true rfl⟩) (fun r140 hr139 => ?_)
                              obtain ⟨k142, hk142, hr9⟩ := hr139
                              subst hr9
                              refine rw_i hS (va_runV (As := [.int (nI q2), .int (nI k142)]) (rest := []) ⟨hx, hb, hml, hown, hts⟩ (a_X6_set l D cI cS a u s sz hf hok q2 (by omega) (nI k142) (nI_n0 (by omega)) (nI_le99 (by omega)) _) (cwV 2 hts (gV tw496 tw493 tw494 tw495 tw1) rfl rfl rfl (by decide +kernel) ⟨Nat.le_of_ble_eq_true rfl, Nat.le_of_ble_eq_true rfl⟩) (pvW 112 hK hP hE (by decide) xc112 rfl) rfl rfl hl.1 rfl (lv_room (Nat.le_of_ble_eq_true rfl)) dL_does_257 ⟨Nat.le_of_ble_eq_true rfl, Nat.le_of_ble_eq_true rfl⟩) (fun r144 u145 H locs hr143 hP hS => ?_)
                              obtain ⟨hr9, hok⟩ := hr143
                              subst hr9
                              exact rw_ir hx hb hr rfl hlocks hS u145 hP ⟨(hG.n10 (by omega)), _, _, _, hok, hG.stg (by omega), (hH.sv hsz6 hG).imp (fun _ q9 => q9.mono (by omega)), fun _ => Int.le_refl _⟩ dL_does_260
                            · skip
                              refine lv_bipush (v := 12) hx hb dL_does_247 (by decide) ?_
                              refine lv_goto (tgt := 254) hx hb dL_does_249 (by decide) ?_
                              refine ro_i (va_runS (As := [.int (v >>> (5 &&& 31)), .int 12]) (rest := [.int (nI q2), .ref (a 112)]) ⟨hx, hb, hml, hown, hts⟩ (m_L_low l (v >>> (5 &&& 31)) 12 (by decide)) (va_cwS 2 hts (gS tw339 tw337 tw338 tw0) rfl rfl rfl (by decide +kernel) ⟨Nat.le_of_ble_eq_true rfl, Nat.le_of_ble_eq_true rfl⟩) ps0 rfl rfl hl.1 rfl (lv_room (Nat.le_of_ble_eq_true rfl)) dL_does_254 ⟨Nat.le_of_ble_eq_true rfl, Nat.le_of_ble_eq_true rfl⟩) (fun r147 hr146 => ?_)
                              obtain ⟨k149, hk149, hr9⟩ := hr146
                              subst hr9
                              refine rw_i hS (va_runV (As := [.int (nI q2), .int (nI k149)]) (rest := []) ⟨hx, hb, hml, hown, hts⟩ (a_X6_set l D cI cS a u s sz hf hok q2 (by omega) (nI k149) (nI_n0 (by omega)) (nI_le99 (by omega)) _) (cwV 2 hts (gV tw496 tw493 tw494 tw495 tw1) rfl rfl rfl (by decide +kernel) ⟨Nat.le_of_ble_eq_true rfl, Nat.le_of_ble_eq_true rfl⟩) (pvW 112 hK hP hE (by decide) xc112 rfl) rfl rfl hl.1 rfl (lv_room (Nat.le_of_ble_eq_true rfl)) dL_does_257 ⟨Nat.le_of_ble_eq_true rfl, Nat.le_of_ble_eq_true rfl⟩) (fun r151 u152 H locs hr150 hP hS => ?_)
                              obtain ⟨hr9, hok⟩ := hr150
                              subst hr9
                              exact rw_ir hx hb hr rfl hlocks hS u152 hP ⟨(hG.n10 (by omega)), _, _, _, hok, hG.stg (by omega), (hH.sv hsz6 hG).imp (fun _ q9 => q9.mono (by omega)), fun _ => Int.le_refl _⟩ dL_does_260
                          · skip
                            have sw137n : ¬ q = 12 := fun hq0 => sw137 ((nI_eq2 (p := q) (q := 12) rfl rfl (by omega) (by omega)).mpr hq0)
                            by_cases sw153 : nI q = 13
                            · skip
                              refine lv_tableIn (tgt := 261) hx hb dL_does_13 (by first | (rw [sw153]; done) | (rw [sw153]; decide)) (by first | (rw [sw153]; done) | (rw [sw153]; decide)) (off := 248) (by first | (rw [sw153]; done) | (rw [sw153]; decide)) (by decide) ?_
                              have hjq : 13 = q := ((nI_eq2 (p := q) (q := 13) rfl rfl (by omega) (by omega)).mp sw153).symm
                              subst hjq
                              refine lv_aload_n hx hb dL_does_261 rfl (lv_at hl 1 rfl) ?_
                              refine rw_i hS (va_runV (As := []) (rest := []) ⟨hx, hb, hml, hown, hts⟩ (a_X6_keep l D cI cS a u s sz hf hok _) (cwV 0 hts (gV tw505 tw502 tw503 tw504 tw1) rfl rfl rfl (by decide +kernel) ⟨Nat.le_of_ble_eq_true rfl, Nat.le_of_ble_eq_true rfl⟩) (pvW 112 hK hP hE (by decide) xc112 rfl) rfl rfl hl.1 rfl (lv_room (Nat.le_of_ble_eq_true rfl)) dL_does_262 ⟨Nat.le_of_ble_eq_true rfl, Nat.le_of_ble_eq_true rfl⟩) (fun r155 u156 H locs hr154 hP hS => ?_)
                              obtain ⟨hr9, hok⟩ := hr154
                              subst hr9
                              exact rw_ir hx hb hr rfl hlocks hS u156 hP ⟨hG.n01, _, _, _, hok, hG.mono (by omega), hH.imp (fun _ q9 => q9.mono (by omega)), fun _ => Int.le_refl _⟩ dL_does_265
                            · skip
                              have sw153n : ¬ q = 13 := fun hq0 => sw153 ((nI_eq2 (p := q) (q := 13) rfl rfl (by omega) (by omega)).mpr hq0)
                              refine lv_tableOut (tgt := 266) hx hb dL_does_13 (by have := lv_neT sw5 (a := 0) (by decide); have := lv_neT sw21 (a := 1) (by decide); have := lv_neT sw37 (a := 2) (by decide); have := lv_neT sw53 (a := 3) (by decide); have := lv_neT sw61 (a := 4) (by decide); have := lv_neT sw69 (a := 5) (by decide); have := lv_neT sw77 (a := 6) (by decide); have := lv_neT sw81 (a := 7) (by decide); have := lv_neT sw97 (a := 8) (by decide); have := lv_neT sw105 (a := 9) (by decide); have := lv_neT sw113 (a := 10) (by decide); have := lv_neT sw125 (a := 11) (by decide); have := lv_neT sw137 (a := 12) (by decide); have := lv_neT sw153 (a := 13) (by decide); omega) (by decide) ?_
                              refine lv_aload_n hx hb dL_does_266 rfl (lv_at hl 1 rfl) ?_
                              refine lv_bipush (v := 13) hx hb dL_does_267 (by decide) ?_
                              refine rw_i hS (va_runV (As := [.int 13]) (rest := []) ⟨hx, hb, hml, hown, hts⟩ (a_X6_count l D cI cS a u s sz hf hok 13 (by omega) _) (cwV 1 hts (gV tw179 tw176 tw177 tw178 tw1) rfl rfl rfl (by decide +kernel) ⟨Nat.le_of_ble_eq_true rfl, Nat.le_of_ble_eq_true rfl⟩) (pvW 112 hK hP hE (by decide) xc112 rfl) rfl rfl hl.1 rfl (lv_room (Nat.le_of_ble_eq_true rfl)) dL_does_269 ⟨Nat.le_of_ble_eq_true rfl, Nat.le_of_ble_eq_true rfl⟩) (fun r158 u159 H locs hr157 hP hS => ?_)
                              obtain ⟨hr9, hok⟩ := hr157
                              subst hr9
                              refine lv_if_ne (tgt := 279) hx hb dL_does_272 (by decide) (fun c160 => ?_) (fun c160 => ?_)
                              · skip
                                have c160n := fun hq0 => c160 ((nI_eq2 (p := sz) (q := 0) rfl rfl (by omega) (by omega)).mpr hq0)
                                have c160n : ¬ (sz = 0) := c160n
                                refine lv_aload_n hx hb dL_does_279 rfl (lv_at hl 1 rfl) ?_
                                refine rw_i hS (va_runV (As := []) (rest := []) ⟨hx, hb, hml, hown, hts⟩ (a_X6_undo l D cI cS a u159 s sz hf hok (by omega) _) (cwV 0 hts (gV tw510 tw507 tw508 tw509 tw1) rfl rfl rfl (by decide +kernel) ⟨Nat.le_of_ble_eq_true rfl, Nat.le_of_ble_eq_true rfl⟩) (pvW 112 hK hP hE (by decide) xc112 rfl) rfl rfl hl.1 rfl (lv_room (Nat.le_of_ble_eq_true rfl)) dL_does_280 ⟨Nat.le_of_ble_eq_true rfl, Nat.le_of_ble_eq_true rfl⟩) (fun r162 u163 H locs hr161 hP hS => ?_)
                                obtain ⟨hr9, hok⟩ := hr161
                                subst hr9
                                exact rw_ir hx hb hr rfl hlocks hS u163 hP ⟨(nI_0le (by omega)), _, _, _, hok, (hH _ (by omega)).mono (by omega), (hH.le (by omega)).imp (fun _ q9 => q9.mono (by omega)), fun q9 => absurd q9 (by omega)⟩ dL_does_283
                              · skip
                                have c160n := (nI_eq2 (p := sz) (q := 0) rfl rfl (by omega) (by omega)).mp c160
                                have c160n : sz = 0 := c160n
                                refine lv_iconst (v := 0) hx hb dL_does_275 (by decide) ?_
                                refine lv_goto (tgt := 283) hx hb dL_does_276 (by decide) ?_
                                exact rw_ir hx hb hr rfl hlocks hS u159 hP ⟨i_0le0, _, _, _, hok, hG.mono (by omega), hH.imp (fun _ q9 => q9.mono (by omega)), fun _ => Int.le_refl _⟩ dL_does_283
