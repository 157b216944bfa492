set_option maxHeartbeats 4000000 in
set_option maxRecDepth 100000 in
theorem m_L_does (l : Launch) (D : va_G) (cI cS : ClassId) (a : Nat → Nat) (u : WT) (s : St) (T : Int) (hT : T ≤ 50000) (hO : OKG T u s) (v : Int32) (zz : Nat) : Met l yL_does (.code yL_does cL_does 3 (some .int) :: wsA) ({ frames := 6, cells := 0, slots := 0, locals := 130 } : Room) (va_Pc [.ref (a 112), .int v] (PW D cI cS 113 a (exU cI cS a u) zz)) (va_Qi (fun (r : Int32) (u : WT) => 0 ≤ r.toInt ∧ ∃ s1 sz1 hf1, UOk u s1 sz1 hf1 ∧ Gd (T + 1000) s1 ∧ GH (Gd (T + 1000)) sz1 hf1 ∧ (dQ v ≤ 13 → (s 0 1).toInt ≤ (s1 0 1).toInt)) (BW D 113 a (fun u => exU cI cS a u)) (AX 113 a zz)) 0 0 (AX 113 a zz) := by
  refine mgo (by decide) (Nat.le_of_ble_eq_true rfl) ?_
  intro p e z m below meth c hx hb hr hml hown hts hlocks hB ls hl
  obtain ⟨hsz, hP, hK, hE⟩ := hB
  subst hsz
  have hS : va_S (AX 113 a z.heap.size) z.heap z.heap [] := va_S.rf
  have hl : lv_has ls 3 [(0, .ref (a 112)), (1, .int v)] := hl
  obtain ⟨sz, hf, hok, hG, hH⟩ := hO
  have hsz6 := hok.2.1
  have hsq := svQ_lt hsz6
  refine lv_iload_n hx hb dL_does_0 rfl (lv_at hl 1 rfl) ?_
  refine lv_iconst (v := 4) hx hb dL_does_1 (by decide) ?_
  refine lv_ishr hx hb dL_does_2 ?_
  refine lv_bipush (v := 7) hx hb dL_does_3 (by decide) ?_
  refine ro_i (va_runS (As := [.int (v >>> (4 &&& 31)), .int 7]) (rest := []) ⟨hx, hb, hml, hown, hts⟩ (m_L_low l (v >>> (4 &&& 31)) 7 (by decide)) (va_cwS 2 hts (gS tw339 tw337 tw338 tw0) rfl rfl rfl (by decide +kernel) ⟨Nat.le_of_ble_eq_true rfl, Nat.le_of_ble_eq_true rfl⟩) ps0 rfl rfl hl.1 rfl (lv_room (Nat.le_of_ble_eq_true rfl)) dL_does_5 ⟨Nat.le_of_ble_eq_true rfl, Nat.le_of_ble_eq_true rfl⟩) (fun r2 hr1 => ?_)
  obtain ⟨k4, hk4, hr9⟩ := hr1
  subst hr9
  refine lv_istore_n (lv' := [(2, .int (nI k4)), (0, .ref (a 112)), (1, .int v)]) hx hb dL_does_8 rfl hl (by decide) rfl (fun ls hl => ?_)
  refine lv_iload_n hx hb dL_does_9 rfl (lv_at hl 2 rfl) ?_
  refine lv_bipush (v := 15) hx hb dL_does_10 (by decide) ?_
  refine lv_iand hx hb dL_does_12 ?_
  obtain ⟨qv, hq9, hqv, hqd⟩ := and15 v
  refine lv_as (y := nI qv) hqv ?_
  by_cases sw5 : nI qv = 0
  · skip
    refine lv_tableIn (tgt := 84) hx hb dL_does_13 (by first | (rw [sw5]; done) | (rw [sw5]; decide)) (by first | (rw [sw5]; done) | (rw [sw5]; decide)) (off := 71) (by first | (rw [sw5]; done) | (rw [sw5]; decide)) (by decide) ?_
    have hjq : 0 = qv := ((nI_eq2 (p := qv) (q := 0) rfl rfl (by omega) (by omega)).mp sw5).symm
    subst hjq
    refine lv_aload_n hx hb dL_does_84 rfl (lv_at hl 1 rfl) ?_
    refine lv_iconst (v := 1) hx hb dL_does_85 (by decide) ?_
    refine lv_iload_n hx hb dL_does_86 rfl (lv_at hl 2 rfl) ?_
    refine lv_bipush (v := 7) hx hb dL_does_87 (by decide) ?_
    refine lv_ishr hx hb dL_does_89 ?_
    refine lv_iload_n hx hb dL_does_90 rfl (lv_at hl 2 rfl) ?_
    refine lv_iconst (v := 4) hx hb dL_does_91 (by decide) ?_
    refine lv_ishr hx hb dL_does_92 ?_
    refine lv_iconst (v := 1) hx hb dL_does_93 (by decide) ?_
    refine lv_iand hx hb dL_does_94 ?_
    refine lv_if_ne (tgt := 103) hx hb dL_does_95 (by decide) (fun c6 => ?_) (fun c6 => ?_)
    · skip
      refine lv_bipush (v := 40) hx hb dL_does_103 (by decide) ?_
      refine ro_i (va_runS (As := [.int (v >>> (7 &&& 31)), .int 40]) (rest := [.int 1, .ref (a 112)]) ⟨hx, hb, hml, hown, hts⟩ (m_L_low l (v >>> (7 &&& 31)) 40 (by decide)) (va_cwS 2 hts (gS tw339 tw337 tw338 tw0) rfl rfl rfl (by decide +kernel) ⟨Nat.le_of_ble_eq_true rfl, Nat.le_of_ble_eq_true rfl⟩) ps0 rfl rfl hl.1 rfl (lv_room (Nat.le_of_ble_eq_true rfl)) dL_does_105 ⟨Nat.le_of_ble_eq_true rfl, Nat.le_of_ble_eq_true rfl⟩) (fun r8 hr7 => ?_)
      obtain ⟨k10, hk10, hr9⟩ := hr7
      subst hr9
      refine lv_iadd hx hb dL_does_108 ?_
      refine lv_as (y := nI (1 + k10)) (nI_add2 (p := 1) (q := k10) rfl rfl) ?_
      refine rw_i hS (va_runV (As := [.int (nI (1 + k10))]) (rest := []) ⟨hx, hb, hml, hown, hts⟩ (a_X6_tick l D cI cS a u s sz hf hok (1 + k10) ⟨by omega, by omega⟩ _) (cwV 1 hts (gV tw347 tw344 tw345 tw346 tw1) rfl rfl rfl (by decide +kernel) ⟨Nat.le_of_ble_eq_true rfl, Nat.le_of_ble_eq_true rfl⟩) (pvW 112 hK hP hE (by decide) xc112 rfl) rfl rfl hl.1 rfl (lv_room (Nat.le_of_ble_eq_true rfl)) dL_does_109 ⟨Nat.le_of_ble_eq_true rfl, Nat.le_of_ble_eq_true rfl⟩) (fun r12 u13 H locs hr11 hP hS => ?_)
      obtain ⟨hr9, hok⟩ := hr11
      subst hr9
      exact rw_ir hx hb hr rfl hlocks hS u13 hP ⟨(tkA_ge hG (by omega) (by omega)), _, _, _, hok, hG.tick (by omega) (by omega), (hH.sv hsz6 hG).imp (fun _ q9 => q9.mono (by omega)), fun _ => tk_told⟩ dL_does_112
    · skip
      refine lv_bipush (v := 6) hx hb dL_does_98 (by decide) ?_
      refine lv_goto (tgt := 105) hx hb dL_does_100 (by decide) ?_
      refine ro_i (va_runS (As := [.int (v >>> (7 &&& 31)), .int 6]) (rest := [.int 1, .ref (a 112)]) ⟨hx, hb, hml, hown, hts⟩ (m_L_low l (v >>> (7 &&& 31)) 6 (by decide)) (va_cwS 2 hts (gS tw339 tw337 tw338 tw0) rfl rfl rfl (by decide +kernel) ⟨Nat.le_of_ble_eq_true rfl, Nat.le_of_ble_eq_true rfl⟩) ps0 rfl rfl hl.1 rfl (lv_room (Nat.le_of_ble_eq_true rfl)) dL_does_105 ⟨Nat.le_of_ble_eq_true rfl, Nat.le_of_ble_eq_true rfl⟩) (fun r15 hr14 => ?_)
      obtain ⟨k17, hk17, hr9⟩ := hr14
      subst hr9
      refine lv_iadd hx hb dL_does_108 ?_
      refine lv_as (y := nI (1 + k17)) (nI_add2 (p := 1) (q := k17) rfl rfl) ?_
      refine rw_i hS (va_runV (As := [.int (nI (1 + k17))]) (rest := []) ⟨hx, hb, hml, hown, hts⟩ (a_X6_tick l D cI cS a u s sz hf hok (1 + k17) ⟨by omega, by omega⟩ _) (cwV 1 hts (gV tw347 tw344 tw345 tw346 tw1) rfl rfl rfl (by decide +kernel) ⟨Nat.le_of_ble_eq_true rfl, Nat.le_of_ble_eq_true rfl⟩) (pvW 112 hK hP hE (by decide) xc112 rfl) rfl rfl hl.1 rfl (lv_room (Nat.le_of_ble_eq_true rfl)) dL_does_109 ⟨Nat.le_of_ble_eq_true rfl, Nat.le_of_ble_eq_true rfl⟩) (fun r19 u20 H locs hr18 hP hS => ?_)
      obtain ⟨hr9, hok⟩ := hr18
      subst hr9
      exact rw_ir hx hb hr rfl hlocks hS u20 hP ⟨(tkA_ge hG (by omega) (by omega)), _, _, _, hok, hG.tick (by omega) (by omega), (hH.sv hsz6 hG).imp (fun _ q9 => q9.mono (by omega)), fun _ => tk_told⟩ dL_does_112
  · skip
    have sw5n : ¬ qv = 0 := fun hq0 => sw5 ((nI_eq2 (p := qv) (q := 0) rfl rfl (by omega) (by omega)).mpr hq0)
    by_cases sw21 : nI qv = 1
    · skip
      refine lv_tableIn (tgt := 84) hx hb dL_does_13 (by first | (rw [sw21]; done) | (rw [sw21]; decide)) (by first | (rw [sw21]; done) | (rw [sw21]; decide)) (off := 71) (by first | (rw [sw21]; done) | (rw [sw21]; decide)) (by decide) ?_
      have hjq : 1 = qv := ((nI_eq2 (p := qv) (q := 1) rfl rfl (by omega) (by omega)).mp sw21).symm
      subst hjq
      refine lv_aload_n hx hb dL_does_84 rfl (lv_at hl 1 rfl) ?_
      refine lv_iconst (v := 1) hx hb dL_does_85 (by decide) ?_
      refine lv_iload_n hx hb dL_does_86 rfl (lv_at hl 2 rfl) ?_
      refine lv_bipush (v := 7) hx hb dL_does_87 (by decide) ?_
      refine lv_ishr hx hb dL_does_89 ?_
      refine lv_iload_n hx hb dL_does_90 rfl (lv_at hl 2 rfl) ?_
      refine lv_iconst (v := 4) hx hb dL_does_91 (by decide) ?_
      refine lv_ishr hx hb dL_does_92 ?_
      refine lv_iconst (v := 1) hx hb dL_does_93 (by decide) ?_
      refine lv_iand hx hb dL_does_94 ?_
      refine lv_if_ne (tgt := 103) hx hb dL_does_95 (by decide) (fun c22 => ?_) (fun c22 => ?_)
      · skip
        refine lv_bipush (v := 40) hx hb dL_does_103 (by decide) ?_
        refine ro_i (va_runS (As := [.int (v >>> (7 &&& 31)), .int 40]) (rest := [.int 1, .ref (a 112)]) ⟨hx, hb, hml, hown, hts⟩ (m_L_low l (v >>> (7 &&& 31)) 40 (by decide)) (va_cwS 2 hts (gS tw339 tw337 tw338 tw0) rfl rfl rfl (by decide +kernel) ⟨Nat.le_of_ble_eq_true rfl, Nat.le_of_ble_eq_true rfl⟩) ps0 rfl rfl hl.1 rfl (lv_room (Nat.le_of_ble_eq_true rfl)) dL_does_105 ⟨Nat.le_of_ble_eq_true rfl, Nat.le_of_ble_eq_true rfl⟩) (fun r24 hr23 => ?_)
        obtain ⟨k26, hk26, hr9⟩ := hr23
        subst hr9
        refine lv_iadd hx hb dL_does_108 ?_
        refine lv_as (y := nI (1 + k26)) (nI_add2 (p := 1) (q := k26) rfl rfl) ?_
        refine rw_i hS (va_runV (As := [.int (nI (1 + k26))]) (rest := []) ⟨hx, hb, hml, hown, hts⟩ (a_X6_tick l D cI cS a u s sz hf hok (1 + k26) ⟨by omega, by omega⟩ _) (cwV 1 hts (gV tw347 tw344 tw345 tw346 tw1) rfl rfl rfl (by decide +kernel) ⟨Nat.le_of_ble_eq_true rfl, Nat.le_of_ble_eq_true rfl⟩) (pvW 112 hK hP hE (by decide) xc112 rfl) rfl rfl hl.1 rfl (lv_room (Nat.le_of_ble_eq_true rfl)) dL_does_109 ⟨Nat.le_of_ble_eq_true rfl, Nat.le_of_ble_eq_true rfl⟩) (fun r28 u29 H locs hr27 hP hS => ?_)
        obtain ⟨hr9, hok⟩ := hr27
        subst hr9
        exact rw_ir hx hb hr rfl hlocks hS u29 hP ⟨(tkA_ge hG (by omega) (by omega)), _, _, _, hok, hG.tick (by omega) (by omega), (hH.sv hsz6 hG).imp (fun _ q9 => q9.mono (by omega)), fun _ => tk_told⟩ dL_does_112
      · skip
        refine lv_bipush (v := 6) hx hb dL_does_98 (by decide) ?_
        refine lv_goto (tgt := 105) hx hb dL_does_100 (by decide) ?_
        refine ro_i (va_runS (As := [.int (v >>> (7 &&& 31)), .int 6]) (rest := [.int 1, .ref (a 112)]) ⟨hx, hb, hml, hown, hts⟩ (m_L_low l (v >>> (7 &&& 31)) 6 (by decide)) (va_cwS 2 hts (gS tw339 tw337 tw338 tw0) rfl rfl rfl (by decide +kernel) ⟨Nat.le_of_ble_eq_true rfl, Nat.le_of_ble_eq_true rfl⟩) ps0 rfl rfl hl.1 rfl (lv_room (Nat.le_of_ble_eq_true rfl)) dL_does_105 ⟨Nat.le_of_ble_eq_true rfl, Nat.le_of_ble_eq_true rfl⟩) (fun r31 hr30 => ?_)
        obtain ⟨k33, hk33, hr9⟩ := hr30
        subst hr9
        refine lv_iadd hx hb dL_does_108 ?_
        refine lv_as (y := nI (1 + k33)) (nI_add2 (p := 1) (q := k33) rfl rfl) ?_
        refine rw_i hS (va_runV (As := [.int (nI (1 + k33))]) (rest := []) ⟨hx, hb, hml, hown, hts⟩ (a_X6_tick l D cI cS a u s sz hf hok (1 + k33) ⟨by omega, by omega⟩ _) (cwV 1 hts (gV tw347 tw344 tw345 tw346 tw1) rfl rfl rfl (by decide +kernel) ⟨Nat.le_of_ble_eq_true rfl, Nat.le_of_ble_eq_true rfl⟩) (pvW 112 hK hP hE (by decide) xc112 rfl) rfl rfl hl.1 rfl (lv_room (Nat.le_of_ble_eq_true rfl)) dL_does_109 ⟨Nat.le_of_ble_eq_true rfl, Nat.le_of_ble_eq_true rfl⟩) (fun r35 u36 H locs hr34 hP hS => ?_)
        obtain ⟨hr9, hok⟩ := hr34
        subst hr9
        exact rw_ir hx hb hr rfl hlocks hS u36 hP ⟨(tkA_ge hG (by omega) (by omega)), _, _, _, hok, hG.tick (by omega) (by omega), (hH.sv hsz6 hG).imp (fun _ q9 => q9.mono (by omega)), fun _ => tk_told⟩ dL_does_112
    · skip
      have sw21n : ¬ qv = 1 := fun hq0 => sw21 ((nI_eq2 (p := qv) (q := 1) rfl rfl (by omega) (by omega)).mpr hq0)
      by_cases sw37 : nI qv = 2
      · skip
        refine lv_tableIn (tgt := 84) hx hb dL_does_13 (by first | (rw [sw37]; done) | (rw [sw37]; decide)) (by first | (rw [sw37]; done) | (rw [sw37]; decide)) (off := 71) (by first | (rw [sw37]; done) | (rw [sw37]; decide)) (by decide) ?_
        have hjq : 2 = qv := ((nI_eq2 (p := qv) (q := 2) rfl rfl (by omega) (by omega)).mp sw37).symm
        subst hjq
        refine lv_aload_n hx hb dL_does_84 rfl (lv_at hl 1 rfl) ?_
        refine lv_iconst (v := 1) hx hb dL_does_85 (by decide) ?_
        refine lv_iload_n hx hb dL_does_86 rfl (lv_at hl 2 rfl) ?_
        refine lv_bipush (v := 7) hx hb dL_does_87 (by decide) ?_
        refine lv_ishr hx hb dL_does_89 ?_
        refine lv_iload_n hx hb dL_does_90 rfl (lv_at hl 2 rfl) ?_
        refine lv_iconst (v := 4) hx hb dL_does_91 (by decide) ?_
        refine lv_ishr hx hb dL_does_92 ?_
        refine lv_iconst (v := 1) hx hb dL_does_93 (by decide) ?_
        refine lv_iand hx hb dL_does_94 ?_
        refine lv_if_ne (tgt := 103) hx hb dL_does_95 (by decide) (fun c38 => ?_) (fun c38 => ?_)
        · skip
          refine lv_bipush (v := 40) hx hb dL_does_103 (by decide) ?_
          refine ro_i (va_runS (As := [.int (v >>> (7 &&& 31)), .int 40]) (rest := [.int 1, .ref (a 112)]) ⟨hx, hb, hml, hown, hts⟩ (m_L_low l (v >>> (7 &&& 31)) 40 (by decide)) (va_cwS 2 hts (gS tw339 tw337 tw338 tw0) rfl rfl rfl (by decide +kernel) ⟨Nat.le_of_ble_eq_true rfl, Nat.le_of_ble_eq_true rfl⟩) ps0 rfl rfl hl.1 rfl (lv_room (Nat.le_of_ble_eq_true rfl)) dL_does_105 ⟨Nat.le_of_ble_eq_true rfl, Nat.le_of_ble_eq_true rfl⟩) (fun r40 hr39 => ?_)
          obtain ⟨k42, hk42, hr9⟩ := hr39
          subst hr9
          refine lv_iadd hx hb dL_does_108 ?_
          refine lv_as (y := nI (1 + k42)) (nI_add2 (p := 1) (q := k42) rfl rfl) ?_
          refine rw_i hS (va_runV (As := [.int (nI (1 + k42))]) (rest := []) ⟨hx, hb, hml, hown, hts⟩ (a_X6_tick l D cI cS a u s sz hf hok (1 + k42) ⟨by omega, by omega⟩ _) (cwV 1 hts (gV tw347 tw344 tw345 tw346 tw1) rfl rfl rfl (by decide +kernel) ⟨Nat.le_of_ble_eq_true rfl, Nat.le_of_ble_eq_true rfl⟩) (pvW 112 hK hP hE (by decide) xc112 rfl) rfl rfl hl.1 rfl (lv_room (Nat.le_of_ble_eq_true rfl)) dL_does_109 ⟨Nat.le_of_ble_eq_true rfl, Nat.le_of_ble_eq_true rfl⟩) (fun r44 u45 H locs hr43 hP hS => ?_)
          obtain ⟨hr9, hok⟩ := hr43
          subst hr9
          exact rw_ir hx hb hr rfl hlocks hS u45 hP ⟨(tkA_ge hG (by omega) (by omega)), _, _, _, hok, hG.tick (by omega) (by omega), (hH.sv hsz6 hG).imp (fun _ q9 => q9.mono (by omega)), fun _ => tk_told⟩ dL_does_112
        · skip
          refine lv_bipush (v := 6) hx hb dL_does_98 (by decide) ?_
          refine lv_goto (tgt := 105) hx hb dL_does_100 (by decide) ?_
          refine ro_i (va_runS (As := [.int (v >>> (7 &&& 31)), .int 6]) (rest := [.int 1, .ref (a 112)]) ⟨hx, hb, hml, hown, hts⟩ (m_L_low l (v >>> (7 &&& 31)) 6 (by decide)) (va_cwS 2 hts (gS tw339 tw337 tw338 tw0) rfl rfl rfl (by decide +kernel) ⟨Nat.le_of_ble_eq_true rfl, Nat.le_of_ble_eq_true rfl⟩) ps0 rfl rfl hl.1 rfl (lv_room (Nat.le_of_ble_eq_true rfl)) dL_does_105 ⟨Nat.le_of_ble_eq_true rfl, Nat.le_of_ble_eq_true rfl⟩) (fun r47 hr46 => ?_)
          obtain ⟨k49, hk49, hr9⟩ := hr46
          subst hr9
          refine lv_iadd hx hb dL_does_108 ?_
          refine lv_as (y := nI (1 + k49)) (nI_add2 (p := 1) (q := k49) rfl rfl) ?_
          refine rw_i hS (va_runV (As := [.int (nI (1 + k49))]) (rest := []) ⟨hx, hb, hml, hown, hts⟩ (a_X6_tick l D cI cS a u s sz hf hok (1 + k49) ⟨by omega, by omega⟩ _) (cwV 1 hts (gV tw347 tw344 tw345 tw346 tw1) rfl rfl rfl (by decide +kernel) ⟨Nat.le_of_ble_eq_true rfl, Nat.le_of_ble_eq_true rfl⟩) (pvW 112 hK hP hE (by decide) xc112 rfl) rfl rfl hl.1 rfl (lv_room (Nat.le_of_ble_eq_true rfl)) dL_does_109 ⟨Nat.le_of_ble_eq_true rfl, Nat.le_of_ble_eq_true rfl⟩) (fun r51 u52 H locs hr50 hP hS => ?_)
          obtain ⟨hr9, hok⟩ := hr50
          subst hr9
          exact rw_ir hx hb hr rfl hlocks hS u52 hP ⟨(tkA_ge hG (by omega) (by omega)), _, _, _, hok, hG.tick (by omega) (by omega), (hH.sv hsz6 hG).imp (fun _ q9 => q9.mono (by omega)), fun _ => tk_told⟩ dL_does_112
      · skip
        have sw37n : ¬ qv = 2 := fun hq0 => sw37 ((nI_eq2 (p := qv) (q := 2) rfl rfl (by omega) (by omega)).mpr hq0)
        by_cases sw53 : nI qv = 3
        · skip
          refine lv_tableIn (tgt := 113) hx hb dL_does_13 (by first | (rw [sw53]; done) | (rw [sw53]; decide)) (by first | (rw [sw53]; done) | (rw [sw53]; decide)) (off := 100) (by first | (rw [sw53]; done) | (rw [sw53]; decide)) (by decide) ?_
          have hjq : 3 = qv := ((nI_eq2 (p := qv) (q := 3) rfl rfl (by omega) (by omega)).mp sw53).symm
          subst hjq
          refine lv_aload_n hx hb dL_does_113 rfl (lv_at hl 1 rfl) ?_
          refine lv_iconst (v := 4) hx hb dL_does_114 (by decide) ?_
          refine rw_i hS (va_runV (As := [.int 4]) (rest := []) ⟨hx, hb, hml, hown, hts⟩ (a_X6_count l D cI cS a u s sz hf hok 4 (by omega) _) (cwV 1 hts (gV tw179 tw176 tw177 tw178 tw1) rfl rfl rfl (by decide +kernel) ⟨Nat.le_of_ble_eq_true rfl, Nat.le_of_ble_eq_true rfl⟩) (pvW 112 hK hP hE (by decide) xc112 rfl) rfl rfl hl.1 rfl (lv_room (Nat.le_of_ble_eq_true rfl)) dL_does_115 ⟨Nat.le_of_ble_eq_true rfl, Nat.le_of_ble_eq_true rfl⟩) (fun r55 u56 H locs hr54 hP hS => ?_)
          obtain ⟨hr9, hok⟩ := hr54
          subst hr9
          refine lv_if_ne (tgt := 125) hx hb dL_does_118 (by decide) (fun c57 => ?_) (fun c57 => ?_)
          · skip
            have hw0 := c57
            refine lv_aload_n hx hb dL_does_125 rfl (lv_at hl 1 rfl) ?_
            refine rw_i hS (va_runV (As := []) (rest := []) ⟨hx, hb, hml, hown, hts⟩ (a_X6_vote l D cI cS a u56 s sz hf hok hw0 _) (cwV 0 hts (gV tw398 tw395 tw396 tw397 tw1) rfl rfl rfl (by decide +kernel) ⟨Nat.le_of_ble_eq_true rfl, Nat.le_of_ble_eq_true rfl⟩) (pvW 112 hK hP hE (by decide) xc112 rfl) rfl rfl hl.1 rfl (lv_room (Nat.le_of_ble_eq_true rfl)) dL_does_126 ⟨Nat.le_of_ble_eq_true rfl, Nat.le_of_ble_eq_true rfl⟩) (fun r59 u60 H locs hr58 hP hS => ?_)
            obtain ⟨hr9, hok⟩ := hr58
            subst hr9
            exact rw_ir hx hb hr rfl hlocks hS u60 hP ⟨(vote_ge hG), _, _, _, hok, hG.vote (by omega), (hH.sv hsz6 hG).imp (fun _ q9 => q9.mono (by omega)), fun _ => vote_told hG⟩ dL_does_129
          · skip
            refine lv_iconst (v := 0) hx hb dL_does_121 (by decide) ?_
            refine lv_goto (tgt := 129) hx hb dL_does_122 (by decide) ?_
            exact rw_ir hx hb hr rfl hlocks hS u56 hP ⟨i_0le0, _, _, _, hok, hG.mono (by omega), hH.imp (fun _ q9 => q9.mono (by omega)), fun _ => Int.le_refl _⟩ dL_does_129
        · skip
          have sw53n : ¬ qv = 3 := fun hq0 => sw53 ((nI_eq2 (p := qv) (q := 3) rfl rfl (by omega) (by omega)).mpr hq0)
          by_cases sw61 : nI qv = 4
          · skip
            refine lv_tableIn (tgt := 113) hx hb dL_does_13 (by first | (rw [sw61]; done) | (rw [sw61]; decide)) (by first | (rw [sw61]; done) | (rw [sw61]; decide)) (off := 100) (by first | (rw [sw61]; done) | (rw [sw61]; decide)) (by decide) ?_
            have hjq : 4 = qv := ((nI_eq2 (p := qv) (q := 4) rfl rfl (by omega) (by omega)).mp sw61).symm
            subst hjq
            refine lv_aload_n hx hb dL_does_113 rfl (lv_at hl 1 rfl) ?_
            refine lv_iconst (v := 4) hx hb dL_does_114 (by decide) ?_
            refine rw_i hS (va_runV (As := [.int 4]) (rest := []) ⟨hx, hb, hml, hown, hts⟩ (a_X6_count l D cI cS a u s sz hf hok 4 (by omega) _) (cwV 1 hts (gV tw179 tw176 tw177 tw178 tw1) rfl rfl rfl (by decide +kernel) ⟨Nat.le_of_ble_eq_true rfl, Nat.le_of_ble_eq_true rfl⟩) (pvW 112 hK hP hE (by decide) xc112 rfl) rfl rfl hl.1 rfl (lv_room (Nat.le_of_ble_eq_true rfl)) dL_does_115 ⟨Nat.le_of_ble_eq_true rfl, Nat.le_of_ble_eq_true rfl⟩) (fun r63 u64 H locs hr62 hP hS => ?_)
            obtain ⟨hr9, hok⟩ := hr62
            subst hr9
            refine lv_if_ne (tgt := 125) hx hb dL_does_118 (by decide) (fun c65 => ?_) (fun c65 => ?_)
            · skip
              have hw0 := c65
              refine lv_aload_n hx hb dL_does_125 rfl (lv_at hl 1 rfl) ?_
              refine rw_i hS (va_runV (As := []) (rest := []) ⟨hx, hb, hml, hown, hts⟩ (a_X6_vote l D cI cS a u64 s sz hf hok hw0 _) (cwV 0 hts (gV tw398 tw395 tw396 tw397 tw1) rfl rfl rfl (by decide +kernel) ⟨Nat.le_of_ble_eq_true rfl, Nat.le_of_ble_eq_true rfl⟩) (pvW 112 hK hP hE (by decide) xc112 rfl) rfl rfl hl.1 rfl (lv_room (Nat.le_of_ble_eq_true rfl)) dL_does_126 ⟨Nat.le_of_ble_eq_true rfl, Nat.le_of_ble_eq_true rfl⟩) (fun r67 u68 H locs hr66 hP hS => ?_)
              obtain ⟨hr9, hok⟩ := hr66
              subst hr9
              exact rw_ir hx hb hr rfl hlocks hS u68 hP ⟨(vote_ge hG), _, _, _, hok, hG.vote (by omega), (hH.sv hsz6 hG).imp (fun _ q9 => q9.mono (by omega)), fun _ => vote_told hG⟩ dL_does_129
            · skip
              refine lv_iconst (v := 0) hx hb dL_does_121 (by decide) ?_
              refine lv_goto (tgt := 129) hx hb dL_does_122 (by decide) ?_
              exact rw_ir hx hb hr rfl hlocks hS u64 hP ⟨i_0le0, _, _, _, hok, hG.mono (by omega), hH.imp (fun _ q9 => q9.mono (by omega)), fun _ => Int.le_refl _⟩ dL_does_129
          · skip
            have sw61n : ¬ qv = 4 := fun hq0 => sw61 ((nI_eq2 (p := qv) (q := 4) rfl rfl (by omega) (by omega)).mpr hq0)
            by_cases sw69 : nI qv = 5
            · skip
              refine lv_tableIn (tgt := 113) hx hb dL_does_13 (by first | (rw [sw69]; done) | (rw [sw69]; decide)) (by first | (rw [sw69]; done) | (rw [sw69]; decide)) (off := 100) (by first | (rw [sw69]; done) | (rw [sw69]; decide)) (by decide) ?_
              have hjq : 5 = qv := ((nI_eq2 (p := qv) (q := 5) rfl rfl (by omega) (by omega)).mp sw69).symm
              subst hjq
              refine lv_aload_n hx hb dL_does_113 rfl (lv_at hl 1 rfl) ?_
              refine lv_iconst (v := 4) hx hb dL_does_114 (by decide) ?_
              refine rw_i hS (va_runV (As := [.int 4]) (rest := []) ⟨hx, hb, hml, hown, hts⟩ (a_X6_count l D cI cS a u s sz hf hok 4 (by omega) _) (cwV 1 hts (gV tw179 tw176 tw177 tw178 tw1) rfl rfl rfl (by decide +kernel) ⟨Nat.le_of_ble_eq_true rfl, Nat.le_of_ble_eq_true rfl⟩) (pvW 112 hK hP hE (by decide) xc112 rfl) rfl rfl hl.1 rfl (lv_room (Nat.le_of_ble_eq_true rfl)) dL_does_115 ⟨Nat.le_of_ble_eq_true rfl, Nat.le_of_ble_eq_true rfl⟩) (fun r71 u72 H locs hr70 hP hS => ?_)
              obtain ⟨hr9, hok⟩ := hr70
              subst hr9
              refine lv_if_ne (tgt := 125) hx hb dL_does_118 (by decide) (fun c73 => ?_) (fun c73 => ?_)
              · skip
                have hw0 := c73
                refine lv_aload_n hx hb dL_does_125 rfl (lv_at hl 1 rfl) ?_
                refine rw_i hS (va_runV (As := []) (rest := []) ⟨hx, hb, hml, hown, hts⟩ (a_X6_vote l D cI cS a u72 s sz hf hok hw0 _) (cwV 0 hts (gV tw398 tw395 tw396 tw397 tw1) rfl rfl rfl (by decide +kernel) ⟨Nat.le_of_ble_eq_true rfl, Nat.le_of_ble_eq_true rfl⟩) (pvW 112 hK hP hE (by decide) xc112 rfl) rfl rfl hl.1 rfl (lv_room (Nat.le_of_ble_eq_true rfl)) dL_does_126 ⟨Nat.le_of_ble_eq_true rfl, Nat.le_of_ble_eq_true rfl⟩) (fun r75 u76 H locs hr74 hP hS => ?_)
                obtain ⟨hr9, hok⟩ := hr74
                subst hr9
                exact rw_ir hx hb hr rfl hlocks hS u76 hP ⟨(vote_ge hG), _, _, _, hok, hG.vote (by omega), (hH.sv hsz6 hG).imp (fun _ q9 => q9.mono (by omega)), fun _ => vote_told hG⟩ dL_does_129
              · skip
                refine lv_iconst (v := 0) hx hb dL_does_121 (by decide) ?_
                refine lv_goto (tgt := 129) hx hb dL_does_122 (by decide) ?_
                exact rw_ir hx hb hr rfl hlocks hS u72 hP ⟨i_0le0, _, _, _, hok, hG.mono (by omega), hH.imp (fun _ q9 => q9.mono (by omega)), fun _ => Int.le_refl _⟩ dL_does_129
            · skip
              have sw69n : ¬ qv = 5 := fun hq0 => sw69 ((nI_eq2 (p := qv) (q := 5) rfl rfl (by omega) (by omega)).mpr hq0)
              by_cases sw77 : nI qv = 6
              · skip
                refine lv_tableIn (tgt := 130) hx hb dL_does_13 (by first | (rw [sw77]; done) | (rw [sw77]; decide)) (by first | (rw [sw77]; done) | (rw [sw77]; decide)) (off := 117) (by first | (rw [sw77]; done) | (rw [sw77]; decide)) (by decide) ?_
                have hjq : 6 = qv := ((nI_eq2 (p := qv) (q := 6) rfl rfl (by omega) (by omega)).mp sw77).symm
                subst hjq
                refine lv_aload_n hx hb dL_does_130 rfl (lv_at hl 1 rfl) ?_
                refine rw_i hS (va_runV (As := []) (rest := []) ⟨hx, hb, hml, hown, hts⟩ (a_X6_correct l D cI cS a u s sz hf hok _) (cwV 0 hts (gV tw438 tw435 tw436 tw437 tw1) rfl rfl rfl (by decide +kernel) ⟨Nat.le_of_ble_eq_true rfl, Nat.le_of_ble_eq_true rfl⟩) (pvW 112 hK hP hE (by decide) xc112 rfl) rfl rfl hl.1 rfl (lv_room (Nat.le_of_ble_eq_true rfl)) dL_does_131 ⟨Nat.le_of_ble_eq_true rfl, Nat.le_of_ble_eq_true rfl⟩) (fun r79 u80 H locs hr78 hP hS => ?_)
                obtain ⟨hc81, hok⟩ := hr78
                exact rw_ir hx hb hr rfl hlocks hS u80 hP ⟨(by rw [hc81]; exact corA_ge hG.1), _, _, _, hok, hG.cor (by omega), (hH.sv hsz6 hG).imp (fun _ q9 => q9.mono (by omega)), fun _ => cor_told⟩ dL_does_134
              · skip
                have sw77n : ¬ qv = 6 := fun hq0 => sw77 ((nI_eq2 (p := qv) (q := 6) rfl rfl (by omega) (by omega)).mpr hq0)
                by_cases sw82 : nI qv = 7
                · skip
                  refine lv_tableIn (tgt := 135) hx hb dL_does_13 (by first | (rw [sw82]; done) | (rw [sw82]; decide)) (by first | (rw [sw82]; done) | (rw [sw82]; decide)) (off := 122) (by first | (rw [sw82]; done) | (rw [sw82]; decide)) (by decide) ?_
                  have hjq : 7 = qv := ((nI_eq2 (p := qv) (q := 7) rfl rfl (by omega) (by omega)).mp sw82).symm
                  subst hjq
                  refine lv_aload_n hx hb dL_does_135 rfl (lv_at hl 1 rfl) ?_
                  refine lv_iload_n hx hb dL_does_136 rfl (lv_at hl 0 rfl) ?_
                  refine lv_iload_n hx hb dL_does_137 rfl (lv_at hl 2 rfl) ?_
                  refine lv_bipush (v := 12) hx hb dL_does_138 (by decide) ?_
                  refine lv_ishr hx hb dL_does_140 ?_
                  refine lv_iconst (v := 3) hx hb dL_does_141 (by decide) ?_
                  refine lv_iand hx hb dL_does_142 ?_
                  refine lv_if_ne (tgt := 161) hx hb dL_does_143 (by decide) (fun c83 => ?_) (fun c83 => ?_)
                  · skip
                    refine lv_iload_n hx hb dL_does_161 rfl (lv_at hl 2 rfl) ?_
                    refine lv_bipush (v := 7) hx hb dL_does_162 (by decide) ?_
                    refine lv_ishr hx hb dL_does_164 ?_
                    refine lv_sipush (v := 400) hx hb dL_does_165 (by decide) ?_
                    refine ro_i (va_runS (As := [.int (v >>> (7 &&& 31)), .int 400]) (rest := [.int (nI k4), .ref (a 112)]) ⟨hx, hb, hml, hown, hts⟩ (m_L_low l (v >>> (7 &&& 31)) 400 (by decide)) (va_cwS 2 hts (gS tw339 tw337 tw338 tw0) rfl rfl rfl (by decide +kernel) ⟨Nat.le_of_ble_eq_true rfl, Nat.le_of_ble_eq_true rfl⟩) ps0 rfl rfl hl.1 rfl (lv_room (Nat.le_of_ble_eq_true rfl)) dL_does_168 ⟨Nat.le_of_ble_eq_true rfl, Nat.le_of_ble_eq_true rfl⟩) (fun r85 hr84 => ?_)
                    obtain ⟨k87, hk87, hr9⟩ := hr84
                    subst hr9
                    refine rw_i hS (va_runV (As := [.int (nI k4), .int (nI k87)]) (rest := []) ⟨hx, hb, hml, hown, hts⟩ (a_X6_put l D cI cS a u s sz hf hok k4 (by omega) (nI k87) (nI_n0 (by omega)) (nI_le99999 (by omega)) _) (cwV 2 hts (gV tw455 tw452 tw453 tw454 tw1) rfl rfl rfl (by decide +kernel) ⟨Nat.le_of_ble_eq_true rfl, Nat.le_of_ble_eq_true rfl⟩) (pvW 112 hK hP hE (by decide) xc112 rfl) rfl rfl hl.1 rfl (lv_room (Nat.le_of_ble_eq_true rfl)) dL_does_171 ⟨Nat.le_of_ble_eq_true rfl, Nat.le_of_ble_eq_true rfl⟩) (fun r89 u90 H locs hr88 hP hS => ?_)
                    obtain ⟨hr9, hok⟩ := hr88
                    subst hr9
                    exact rw_ir hx hb hr rfl hlocks hS u90 hP ⟨(hG.n1 (by omega)), _, _, _, hok, hG.put (by omega) (by omega) (nI_w9 (by omega)), (hH.sv hsz6 hG).imp (fun _ q9 => q9.mono (by omega)), fun _ => put_told⟩ dL_does_174
                  · skip
                    refine lv_ldc hx hb hown (hts _ tw451) dL_does_146 ?_
                    refine lv_iload_n hx hb dL_does_148 rfl (lv_at hl 2 rfl) ?_
                    refine lv_bipush (v := 7) hx hb dL_does_149 (by decide) ?_
                    refine lv_ishr hx hb dL_does_151 ?_
                    refine lv_bipush (v := 90) hx hb dL_does_152 (by decide) ?_
                    refine ro_i (va_runS (As := [.int (v >>> (7 &&& 31)), .int 90]) (rest := [.int 99999, .int (nI k4), .ref (a 112)]) ⟨hx, hb, hml, hown, hts⟩ (m_L_low l (v >>> (7 &&& 31)) 90 (by decide)) (va_cwS 2 hts (gS tw339 tw337 tw338 tw0) rfl rfl rfl (by decide +kernel) ⟨Nat.le_of_ble_eq_true rfl, Nat.le_of_ble_eq_true rfl⟩) ps0 rfl rfl hl.1 rfl (lv_room (Nat.le_of_ble_eq_true rfl)) dL_does_154 ⟨Nat.le_of_ble_eq_true rfl, Nat.le_of_ble_eq_true rfl⟩) (fun r92 hr91 => ?_)
                    obtain ⟨k94, hk94, hr9⟩ := hr91
                    subst hr9
                    refine lv_isub hx hb dL_does_157 ?_
                    refine lv_as (y := nI (99999 - k94)) (nI_sub2 (p := 99999) (q := k94) rfl rfl (by omega)) ?_
                    refine lv_goto (tgt := 171) hx hb dL_does_158 (by decide) ?_
                    refine rw_i hS (va_runV (As := [.int (nI k4), .int (nI (99999 - k94))]) (rest := []) ⟨hx, hb, hml, hown, hts⟩ (a_X6_put l D cI cS a u s sz hf hok k4 (by omega) (nI (99999 - k94)) (nI_n0 (by omega)) (nI_le99999 (by omega)) _) (cwV 2 hts (gV tw455 tw452 tw453 tw454 tw1) rfl rfl rfl (by decide +kernel) ⟨Nat.le_of_ble_eq_true rfl, Nat.le_of_ble_eq_true rfl⟩) (pvW 112 hK hP hE (by decide) xc112 rfl) rfl rfl hl.1 rfl (lv_room (Nat.le_of_ble_eq_true rfl)) dL_does_171 ⟨Nat.le_of_ble_eq_true rfl, Nat.le_of_ble_eq_true rfl⟩) (fun r96 u97 H locs hr95 hP hS => ?_)
                    obtain ⟨hr9, hok⟩ := hr95
                    subst hr9
                    exact rw_ir hx hb hr rfl hlocks hS u97 hP ⟨(hG.n1 (by omega)), _, _, _, hok, hG.put (by omega) (by omega) (nI_w9 (by omega)), (hH.sv hsz6 hG).imp (fun _ q9 => q9.mono (by omega)), fun _ => put_told⟩ dL_does_174
                · skip
                  have sw82n : ¬ qv = 7 := fun hq0 => sw82 ((nI_eq2 (p := qv) (q := 7) rfl rfl (by omega) (by omega)).mpr hq0)
                  by_cases sw98 : nI qv = 8
                  · skip
                    refine lv_tableIn (tgt := 175) hx hb dL_does_13 (by first | (rw [sw98]; done) | (rw [sw98]; decide)) (by first | (rw [sw98]; done) | (rw [sw98]; decide)) (off := 162) (by first | (rw [sw98]; done) | (rw [sw98]; decide)) (by decide) ?_
                    have hjq : 8 = qv := ((nI_eq2 (p := qv) (q := 8) rfl rfl (by omega) (by omega)).mp sw98).symm
                    subst hjq
                    refine lv_aload_n hx hb dL_does_175 rfl (lv_at hl 1 rfl) ?_
                    refine lv_iload_n hx hb dL_does_176 rfl (lv_at hl 0 rfl) ?_
                    refine lv_iload_n hx hb dL_does_177 rfl (lv_at hl 2 rfl) ?_
                    refine lv_bipush (v := 7) hx hb dL_does_178 (by decide) ?_
                    refine lv_ishr hx hb dL_does_180 ?_
                    refine lv_bipush (v := 11) hx hb dL_does_181 (by decide) ?_
                    refine ro_i (va_runS (As := [.int (v >>> (7 &&& 31)), .int 11]) (rest := [.int (nI k4), .ref (a 112)]) ⟨hx, hb, hml, hown, hts⟩ (m_L_low l (v >>> (7 &&& 31)) 11 (by decide)) (va_cwS 2 hts (gS tw339 tw337 tw338 tw0) rfl rfl rfl (by decide +kernel) ⟨Nat.le_of_ble_eq_true rfl, Nat.le_of_ble_eq_true rfl⟩) ps0 rfl rfl hl.1 rfl (lv_room (Nat.le_of_ble_eq_true rfl)) dL_does_183 ⟨Nat.le_of_ble_eq_true rfl, Nat.le_of_ble_eq_true rfl⟩) (fun r100 hr99 => ?_)
                    obtain ⟨k102, hk102, hr9⟩ := hr99
                    subst hr9
                    refine lv_iconst (v := 5) hx hb dL_does_186 (by decide) ?_
                    refine lv_isub hx hb dL_does_187 ?_
                    refine rw_i hS (va_runV (As := [.int (nI k4), .int ((nI k102) - 5)]) (rest := []) ⟨hx, hb, hml, hown, hts⟩ (a_X6_drift l D cI cS a u s sz hf hok k4 (by omega) ((nI k102) - 5) (dr_ok (by omega)).1 (dr_ok (by omega)).2 _) (cwV 2 hts (gV tw481 tw478 tw479 tw480 tw1) rfl rfl rfl (by decide +kernel) ⟨Nat.le_of_ble_eq_true rfl, Nat.le_of_ble_eq_true rfl⟩) (pvW 112 hK hP hE (by decide) xc112 rfl) rfl rfl hl.1 rfl (lv_room (Nat.le_of_ble_eq_true rfl)) dL_does_188 ⟨Nat.le_of_ble_eq_true rfl, Nat.le_of_ble_eq_true rfl⟩) (fun r104 u105 H locs hr103 hP hS => ?_)
                    obtain ⟨hr9, hok⟩ := hr103
                    subst hr9
                    refine lv_bipush (v := (-5)) hx hb dL_does_191 (by decide) ?_
                    refine lv_icmp_ge (tgt := 200) hx hb dL_does_193 (by decide) (fun _ => ?_) (fun h0 => absurd (hG.g2 (by omega)) h0)
                    refine lv_iconst (v := 0) hx hb dL_does_200 (by decide) ?_
                    exact rw_ir hx hb hr rfl hlocks hS u105 hP ⟨i_0le0, _, _, _, hok, hG.drf (dr_ok (by omega)), (hH.sv hsz6 hG).imp (fun _ q9 => q9.mono (by omega)), fun _ => Int.le_refl _⟩ dL_does_201
                  · skip
                    have sw98n : ¬ qv = 8 := fun hq0 => sw98 ((nI_eq2 (p := qv) (q := 8) rfl rfl (by omega) (by omega)).mpr hq0)
                    by_cases sw106 : nI qv = 9
                    · skip
                      refine lv_tableIn (tgt := 175) hx hb dL_does_13 (by first | (rw [sw106]; done) | (rw [sw106]; decide)) (by first | (rw [sw106]; done) | (rw [sw106]; decide)) (off := 162) (by first | (rw [sw106]; done) | (rw [sw106]; decide)) (by decide) ?_
                      have hjq : 9 = qv := ((nI_eq2 (p := qv) (q := 9) rfl rfl (by omega) (by omega)).mp sw106).symm
                      subst hjq
                      refine lv_aload_n hx hb dL_does_175 rfl (lv_at hl 1 rfl) ?_
                      refine lv_iload_n hx hb dL_does_176 rfl (lv_at hl 0 rfl) ?_
                      refine lv_iload_n hx hb dL_does_177 rfl (lv_at hl 2 rfl) ?_
                      refine lv_bipush (v := 7) hx hb dL_does_178 (by decide) ?_
                      refine lv_ishr hx hb dL_does_180 ?_
                      refine lv_bipush (v := 11) hx hb dL_does_181 (by decide) ?_
                      refine ro_i (va_runS (As := [.int (v >>> (7 &&& 31)), .int 11]) (rest := [.int (nI k4), .ref (a 112)]) ⟨hx, hb, hml, hown, hts⟩ (m_L_low l (v >>> (7 &&& 31)) 11 (by decide)) (va_cwS 2 hts (gS tw339 tw337 tw338 tw0) rfl rfl rfl (by decide +kernel) ⟨Nat.le_of_ble_eq_true rfl, Nat.le_of_ble_eq_true rfl⟩) ps0 rfl rfl hl.1 rfl (lv_room (Nat.le_of_ble_eq_true rfl)) dL_does_183 ⟨Nat.le_of_ble_eq_true rfl, Nat.le_of_ble_eq_true rfl⟩) (fun r108 hr107 => ?_)
                      obtain ⟨k110, hk110, hr9⟩ := hr107
                      subst hr9
                      refine lv_iconst (v := 5) hx hb dL_does_186 (by decide) ?_
                      refine lv_isub hx hb dL_does_187 ?_
                      refine rw_i hS (va_runV (As := [.int (nI k4), .int ((nI k110) - 5)]) (rest := []) ⟨hx, hb, hml, hown, hts⟩ (a_X6_drift l D cI cS a u s sz hf hok k4 (by omega) ((nI k110) - 5) (dr_ok (by omega)).1 (dr_ok (by omega)).2 _) (cwV 2 hts (gV tw481 tw478 tw479 tw480 tw1) rfl rfl rfl (by decide +kernel) ⟨Nat.le_of_ble_eq_true rfl, Nat.le_of_ble_eq_true rfl⟩) (pvW 112 hK hP hE (by decide) xc112 rfl) rfl rfl hl.1 rfl (lv_room (Nat.le_of_ble_eq_true rfl)) dL_does_188 ⟨Nat.le_of_ble_eq_true rfl, Nat.le_of_ble_eq_true rfl⟩) (fun r112 u113 H locs hr111 hP hS => ?_)
                      obtain ⟨hr9, hok⟩ := hr111
                      subst hr9
                      refine lv_bipush (v := (-5)) hx hb dL_does_191 (by decide) ?_
                      refine lv_icmp_ge (tgt := 200) hx hb dL_does_193 (by decide) (fun _ => ?_) (fun h0 => absurd (hG.g2 (by omega)) h0)
                      refine lv_iconst (v := 0) hx hb dL_does_200 (by decide) ?_
                      exact rw_ir hx hb hr rfl hlocks hS u113 hP ⟨i_0le0, _, _, _, hok, hG.drf (dr_ok (by omega)), (hH.sv hsz6 hG).imp (fun _ q9 => q9.mono (by omega)), fun _ => Int.le_refl _⟩ dL_does_201
                    · skip
                      have sw106n : ¬ qv = 9 := fun hq0 => sw106 ((nI_eq2 (p := qv) (q := 9) rfl rfl (by omega) (by omega)).mpr hq0)
                      by_cases sw114 : nI qv = 10
                      · skip
                        refine lv_tableIn (tgt := 202) hx hb dL_does_13 (by first | (rw [sw114]; done) | (rw [sw114]; decide)) (by first | (rw [sw114]; done) | (rw [sw114]; decide)) (off := 189) (by first | (rw [sw114]; done) | (rw [sw114]; decide)) (by decide) ?_
                        have hjq : 10 = qv := ((nI_eq2 (p := qv) (q := 10) rfl rfl (by omega) (by omega)).mp sw114).symm
                        subst hjq
                        refine lv_aload_n hx hb dL_does_202 rfl (lv_at hl 1 rfl) ?_
                        refine lv_iload_n hx hb dL_does_203 rfl (lv_at hl 0 rfl) ?_
                        refine lv_iload_n hx hb dL_does_204 rfl (lv_at hl 2 rfl) ?_
                        refine lv_bipush (v := 7) hx hb dL_does_205 (by decide) ?_
                        refine lv_ishr hx hb dL_does_207 ?_
                        refine lv_bipush (v := 10) hx hb dL_does_208 (by decide) ?_
                        refine ro_i (va_runS (As := [.int (v >>> (7 &&& 31)), .int 10]) (rest := [.int (nI k4), .ref (a 112)]) ⟨hx, hb, hml, hown, hts⟩ (m_L_low l (v >>> (7 &&& 31)) 10 (by decide)) (va_cwS 2 hts (gS tw339 tw337 tw338 tw0) rfl rfl rfl (by decide +kernel) ⟨Nat.le_of_ble_eq_true rfl, Nat.le_of_ble_eq_true rfl⟩) ps0 rfl rfl hl.1 rfl (lv_room (Nat.le_of_ble_eq_true rfl)) dL_does_210 ⟨Nat.le_of_ble_eq_true rfl, Nat.le_of_ble_eq_true rfl⟩) (fun r116 hr115 => ?_)
                        obtain ⟨k118, hk118, hr9⟩ := hr115
                        subst hr9
                        refine lv_iload_n hx hb dL_does_213 rfl (lv_at hl 2 rfl) ?_
                        refine lv_bipush (v := 8) hx hb dL_does_214 (by decide) ?_
                        refine lv_ishr hx hb dL_does_216 ?_
                        refine lv_bipush (v := 121) hx hb dL_does_217 (by decide) ?_
                        refine ro_i (va_runS (As := [.int (v >>> (8 &&& 31)), .int 121]) (rest := [.int (nI k118), .int (nI k4), .ref (a 112)]) ⟨hx, hb, hml, hown, hts⟩ (m_L_low l (v >>> (8 &&& 31)) 121 (by decide)) (va_cwS 2 hts (gS tw339 tw337 tw338 tw0) rfl rfl rfl (by decide +kernel) ⟨Nat.le_of_ble_eq_true rfl, Nat.le_of_ble_eq_true rfl⟩) ps0 rfl rfl hl.1 rfl (lv_room (Nat.le_of_ble_eq_true rfl)) dL_does_219 ⟨Nat.le_of_ble_eq_true rfl, Nat.le_of_ble_eq_true rfl⟩) (fun r120 hr119 => ?_)
                        obtain ⟨k122, hk122, hr9⟩ := hr119
                        subst hr9
                        refine lv_bipush (v := 60) hx hb dL_does_222 (by decide) ?_
                        refine lv_isub hx hb dL_does_224 ?_
                        refine rw_i hS (va_runV (As := [.int (nI k4), .int (nI k118), .int ((nI k122) - 60)]) (rest := []) ⟨hx, hb, hml, hown, hts⟩ (a_X6_warden l D cI cS a u s sz hf hok k4 (by omega) (nI k118) ((nI k122) - 60) (nI_n0 (by omega)) (nI_le9 (by omega)) (li_ok (by omega)).1 (li_ok (by omega)).2 _) (cwV 3 hts (gV tw490 tw487 tw488 tw489 tw1) rfl rfl rfl (by decide +kernel) ⟨Nat.le_of_ble_eq_true rfl, Nat.le_of_ble_eq_true rfl⟩) (pvW 112 hK hP hE (by decide) xc112 rfl) rfl rfl hl.1 rfl (lv_room (Nat.le_of_ble_eq_true rfl)) dL_does_225 ⟨Nat.le_of_ble_eq_true rfl, Nat.le_of_ble_eq_true rfl⟩) (fun r124 u125 H locs hr123 hP hS => ?_)
                        obtain ⟨hr9, hok⟩ := hr123
                        subst hr9
                        exact rw_ir hx hb hr rfl hlocks hS u125 hP ⟨(hG.g7n (by omega)), _, _, _, hok, hG.wrd (by omega) (by omega) (li_ok (by omega)), (hH.sv hsz6 hG).imp (fun _ q9 => q9.mono (by omega)), fun _ => Int.le_refl _⟩ dL_does_228
                      · skip
                        have sw114n : ¬ qv = 10 := fun hq0 => sw114 ((nI_eq2 (p := qv) (q := 10) rfl rfl (by omega) (by omega)).mpr hq0)
                        by_cases sw126 : nI qv = 11
                        · skip
                          refine lv_tableIn (tgt := 202) hx hb dL_does_13 (by first | (rw [sw126]; done) | (rw [sw126]; decide)) (by first | (rw [sw126]; done) | (rw [sw126]; decide)) (off := 189) (by first | (rw [sw126]; done) | (rw [sw126]; decide)) (by decide) ?_
                          have hjq : 11 = qv := ((nI_eq2 (p := qv) (q := 11) rfl rfl (by omega) (by omega)).mp sw126).symm
                          subst hjq
                          refine lv_aload_n hx hb dL_does_202 rfl (lv_at hl 1 rfl) ?_
                          refine lv_iload_n hx hb dL_does_203 rfl (lv_at hl 0 rfl) ?_
                          refine lv_iload_n hx hb dL_does_204 rfl (lv_at hl 2 rfl) ?_
                          refine lv_bipush (v := 7) hx hb dL_does_205 (by decide) ?_
                          refine lv_ishr hx hb dL_does_207 ?_
                          refine lv_bipush (v := 10) hx hb dL_does_208 (by decide) ?_
                          refine ro_i (va_runS (As := [.int (v >>> (7 &&& 31)), .int 10]) (rest := [.int (nI k4), .ref (a 112)]) ⟨hx, hb, hml, hown, hts⟩ (m_L_low l (v >>> (7 &&& 31)) 10 (by decide)) (va_cwS 2 hts (gS tw339 tw337 tw338 tw0) rfl rfl rfl (by decide +kernel) ⟨Nat.le_of_ble_eq_true rfl, Nat.le_of_ble_eq_true rfl⟩) ps0 rfl rfl hl.1 rfl (lv_room (Nat.le_of_ble_eq_true rfl)) dL_does_210 ⟨Nat.le_of_ble_eq_true rfl, Nat.le_of_ble_eq_true rfl⟩) (fun r128 hr127 => ?_)
                          obtain ⟨k130, hk130, hr9⟩ := hr127
                          subst hr9
                          refine lv_iload_n hx hb dL_does_213 rfl (lv_at hl 2 rfl) ?_
                          refine lv_bipush (v := 8) hx hb dL_does_214 (by decide) ?_
                          refine lv_ishr hx hb dL_does_216 ?_
                          refine lv_bipush (v := 121) hx hb dL_does_217 (by decide) ?_
                          refine ro_i (va_runS (As := [.int (v >>> (8 &&& 31)), .int 121]) (rest := [.int (nI k130), .int (nI k4), .ref (a 112)]) ⟨hx, hb, hml, hown, hts⟩ (m_L_low l (v >>> (8 &&& 31)) 121 (by decide)) (va_cwS 2 hts (gS tw339 tw337 tw338 tw0) rfl rfl rfl (by decide +kernel) ⟨Nat.le_of_ble_eq_true rfl, Nat.le_of_ble_eq_true rfl⟩) ps0 rfl rfl hl.1 rfl (lv_room (Nat.le_of_ble_eq_true rfl)) dL_does_219 ⟨Nat.le_of_ble_eq_true rfl, Nat.le_of_ble_eq_true rfl⟩) (fun r132 hr131 => ?_)
                          obtain ⟨k134, hk134, hr9⟩ := hr131
                          subst hr9
                          refine lv_bipush (v := 60) hx hb dL_does_222 (by decide) ?_
                          refine lv_isub hx hb dL_does_224 ?_
                          refine rw_i hS (va_runV (As := [.int (nI k4), .int (nI k130), .int ((nI k134) - 60)]) (rest := []) ⟨hx, hb, hml, hown, hts⟩ (a_X6_warden l D cI cS a u s sz hf hok k4 (by omega) (nI k130) ((nI k134) - 60) (nI_n0 (by omega)) (nI_le9 (by omega)) (li_ok (by omega)).1 (li_ok (by omega)).2 _) (cwV 3 hts (gV tw490 tw487 tw488 tw489 tw1) rfl rfl rfl (by decide +kernel) ⟨Nat.le_of_ble_eq_true rfl, Nat.le_of_ble_eq_true rfl⟩) (pvW 112 hK hP hE (by decide) xc112 rfl) rfl rfl hl.1 rfl (lv_room (Nat.le_of_ble_eq_true rfl)) dL_does_225 ⟨Nat.le_of_ble_eq_true rfl, Nat.le_of_ble_eq_true rfl⟩) (fun r136 u137 H locs hr135 hP hS => ?_)
                          obtain ⟨hr9, hok⟩ := hr135
                          subst hr9
                          exact rw_ir hx hb hr rfl hlocks hS u137 hP ⟨(hG.g7n (by omega)), _, _, _, hok, hG.wrd (by omega) (by omega) (li_ok (by omega)), (hH.sv hsz6 hG).imp (fun _ q9 => q9.mono (by omega)), fun _ => Int.le_refl _⟩ dL_does_228
                        · skip
                          have sw126n : ¬ qv = 11 := fun hq0 => sw126 ((nI_eq2 (p := qv) (q := 11) rfl rfl (by omega) (by omega)).mpr hq0)
                          by_cases sw138 : nI qv = 12
                          · skip
                            refine lv_tableIn (tgt := 229) hx hb dL_does_13 (by first | (rw [sw138]; done) | (rw [sw138]; decide)) (by first | (rw [sw138]; done) | (rw [sw138]; decide)) (off := 216) (by first | (rw [sw138]; done) | (rw [sw138]; decide)) (by decide) ?_
                            have hjq : 12 = qv := ((nI_eq2 (p := qv) (q := 12) rfl rfl (by omega) (by omega)).mp sw138).symm
                            subst hjq
                            refine lv_aload_n hx hb dL_does_229 rfl (lv_at hl 1 rfl) ?_
                            refine lv_iload_n hx hb dL_does_230 rfl (lv_at hl 2 rfl) ?_
                            refine lv_iconst (v := 4) hx hb dL_does_231 (by decide) ?_
                            refine lv_ishr hx hb dL_does_232 ?_
                            refine lv_iconst (v := 1) hx hb dL_does_233 (by decide) ?_
                            refine lv_iand hx hb dL_does_234 ?_
                            obtain ⟨q2, hq2, hq3⟩ := and1 ((v >>> (4 &&& 31)))
                            refine lv_as (y := nI q2) hq3 ?_
                            refine lv_iload_n hx hb dL_does_235 rfl (lv_at hl 2 rfl) ?_
                            refine lv_iconst (v := 5) hx hb dL_does_236 (by decide) ?_
                            refine lv_ishr hx hb dL_does_237 ?_
                            refine lv_iload_n hx hb dL_does_238 rfl (lv_at hl 2 rfl) ?_
                            refine lv_bipush (v := 10) hx hb dL_does_239 (by decide) ?_
                            refine lv_ishr hx hb dL_does_241 ?_
                            refine lv_iconst (v := 1) hx hb dL_does_242 (by decide) ?_
                            refine lv_iand hx hb dL_does_243 ?_
                            refine lv_if_ne (tgt := 252) hx hb dL_does_244 (by decide) (fun c139 => ?_) (fun c139 => ?_)
                            · skip
                              refine lv_bipush (v := 100) hx hb dL_does_252 (by decide) ?_
                              refine ro_i (va_runS (As := [.int (v >>> (5 &&& 31)), .int 100]) (rest := [.int (nI q2), .ref (a 112)]) ⟨hx, hb, hml, hown, hts⟩ (m_L_low l (v >>> (5 &&& 31)) 100 (by decide)) (va_cwS 2 hts (gS tw339 tw337 tw338 tw0) rfl rfl rfl (by decide +kernel) ⟨Nat.le_of_ble_eq_true rfl, Nat.le_of_ble_eq_true rfl⟩) ps0 rfl rfl hl.1 rfl (lv_room (Nat.le_of_ble_eq_true rfl)) dL_does_254 ⟨Nat.le_of_ble_eq_true rfl, Nat.le_of_ble_eq_true rfl⟩) (fun r141 hr140 => ?_)
                              obtain ⟨k143, hk143, hr9⟩ := hr140
                              subst hr9
                              refine rw_i hS (va_runV (As := [.int (nI q2), .int (nI k143)]) (rest := []) ⟨hx, hb, hml, hown, hts⟩ (a_X6_set l D cI cS a u s sz hf hok q2 (by omega) (nI k143) (nI_n0 (by omega)) (nI_le99 (by omega)) _) (cwV 2 hts (gV tw496 tw493 tw494 tw495 tw1) rfl rfl rfl (by decide +kernel) ⟨Nat.le_of_ble_eq_true rfl, Nat.le_of_ble_eq_true rfl⟩) (pvW 112 hK hP hE (by decide) xc112 rfl) rfl rfl hl.1 rfl (lv_room (Nat.le_of_ble_eq_true rfl)) dL_does_257 ⟨Nat.le_of_ble_eq_true rfl, Nat.le_of_ble_eq_true rfl⟩) (fun r145 u146 H locs hr144 hP hS => ?_)
                              obtain ⟨hr9, hok⟩ := hr144
                              subst hr9
                              exact rw_ir hx hb hr rfl hlocks hS u146 hP ⟨(hG.n10 (by omega)), _, _, _, hok, hG.stg (by omega), (hH.sv hsz6 hG).imp (fun _ q9 => q9.mono (by omega)), fun _ => Int.le_refl _⟩ dL_does_260
                            · skip
                              refine lv_bipush (v := 12) hx hb dL_does_247 (by decide) ?_
                              refine lv_goto (tgt := 254) hx hb dL_does_249 (by decide) ?_
                              refine ro_i (va_runS (As := [.int (v >>> (5 &&& 31)), .int 12]) (rest := [.int (nI q2), .ref (a 112)]) ⟨hx, hb, hml, hown, hts⟩ (m_L_low l (v >>> (5 &&& 31)) 12 (by decide)) (va_cwS 2 hts (gS tw339 tw337 tw338 tw0) rfl rfl rfl (by decide +kernel) ⟨Nat.le_of_ble_eq_true rfl, Nat.le_of_ble_eq_true rfl⟩) ps0 rfl rfl hl.1 rfl (lv_room (Nat.le_of_ble_eq_true rfl)) dL_does_254 ⟨Nat.le_of_ble_eq_true rfl, Nat.le_of_ble_eq_true rfl⟩) (fun r148 hr147 => ?_)
                              obtain ⟨k150, hk150, hr9⟩ := hr147
                              subst hr9
                              refine rw_i hS (va_runV (As := [.int (nI q2), .int (nI k150)]) (rest := []) ⟨hx, hb, hml, hown, hts⟩ (a_X6_set l D cI cS a u s sz hf hok q2 (by omega) (nI k150) (nI_n0 (by omega)) (nI_le99 (by omega)) _) (cwV 2 hts (gV tw496 tw493 tw494 tw495 tw1) rfl rfl rfl (by decide +kernel) ⟨Nat.le_of_ble_eq_true rfl, Nat.le_of_ble_eq_true rfl⟩) (pvW 112 hK hP hE (by decide) xc112 rfl) rfl rfl hl.1 rfl (lv_room (Nat.le_of_ble_eq_true rfl)) dL_does_257 ⟨Nat.le_of_ble_eq_true rfl, Nat.le_of_ble_eq_true rfl⟩) (fun r152 u153 H locs hr151 hP hS => ?_)
                              obtain ⟨hr9, hok⟩ := hr151
                              subst hr9
                              exact rw_ir hx hb hr rfl hlocks hS u153 hP ⟨(hG.n10 (by omega)), _, _, _, hok, hG.stg (by omega), (hH.sv hsz6 hG).imp (fun _ q9 => q9.mono (by omega)), fun _ => Int.le_refl _⟩ dL_does_260
                          · skip
                            have sw138n : ¬ qv = 12 := fun hq0 => sw138 ((nI_eq2 (p := qv) (q := 12) rfl rfl (by omega) (by omega)).mpr hq0)
                            by_cases sw154 : nI qv = 13
                            · skip
                              refine lv_tableIn (tgt := 261) hx hb dL_does_13 (by first | (rw [sw154]; done) | (rw [sw154]; decide)) (by first | (rw [sw154]; done) | (rw [sw154]; decide)) (off := 248) (by first | (rw [sw154]; done) | (rw [sw154]; decide)) (by decide) ?_
                              have hjq : 13 = qv := ((nI_eq2 (p := qv) (q := 13) rfl rfl (by omega) (by omega)).mp sw154).symm
                              subst hjq
                              refine lv_aload_n hx hb dL_does_261 rfl (lv_at hl 1 rfl) ?_
                              refine rw_i hS (va_runV (As := []) (rest := []) ⟨hx, hb, hml, hown, hts⟩ (a_X6_keep l D cI cS a u s sz hf hok _) (cwV 0 hts (gV tw505 tw502 tw503 tw504 tw1) rfl rfl rfl (by decide +kernel) ⟨Nat.le_of_ble_eq_true rfl, Nat.le_of_ble_eq_true rfl⟩) (pvW 112 hK hP hE (by decide) xc112 rfl) rfl rfl hl.1 rfl (lv_room (Nat.le_of_ble_eq_true rfl)) dL_does_262 ⟨Nat.le_of_ble_eq_true rfl, Nat.le_of_ble_eq_true rfl⟩) (fun r156 u157 H locs hr155 hP hS => ?_)
                              obtain ⟨hr9, hok⟩ := hr155
                              subst hr9
                              exact rw_ir hx hb hr rfl hlocks hS u157 hP ⟨hG.n01, _, _, _, hok, hG.mono (by omega), hH.imp (fun _ q9 => q9.mono (by omega)), fun _ => Int.le_refl _⟩ dL_does_265
                            · skip
                              have sw154n : ¬ qv = 13 := fun hq0 => sw154 ((nI_eq2 (p := qv) (q := 13) rfl rfl (by omega) (by omega)).mpr hq0)
                              refine lv_tableOut (tgt := 266) hx hb dL_does_13 (by have := lv_neT sw5 (a := 0) (by decide); have := lv_neT sw21 (a := 1) (by decide); have := lv_neT sw37 (a := 2) (by decide); have := lv_neT sw53 (a := 3) (by decide); have := lv_neT sw61 (a := 4) (by decide); have := lv_neT sw69 (a := 5) (by decide); have := lv_neT sw77 (a := 6) (by decide); have := lv_neT sw82 (a := 7) (by decide); have := lv_neT sw98 (a := 8) (by decide); have := lv_neT sw106 (a := 9) (by decide); have := lv_neT sw114 (a := 10) (by decide); have := lv_neT sw126 (a := 11) (by decide); have := lv_neT sw138 (a := 12) (by decide); have := lv_neT sw154 (a := 13) (by decide); omega) (by decide) ?_
                              refine lv_aload_n hx hb dL_does_266 rfl (lv_at hl 1 rfl) ?_
                              refine lv_bipush (v := 13) hx hb dL_does_267 (by decide) ?_
                              refine rw_i hS (va_runV (As := [.int 13]) (rest := []) ⟨hx, hb, hml, hown, hts⟩ (a_X6_count l D cI cS a u s sz hf hok 13 (by omega) _) (cwV 1 hts (gV tw179 tw176 tw177 tw178 tw1) rfl rfl rfl (by decide +kernel) ⟨Nat.le_of_ble_eq_true rfl, Nat.le_of_ble_eq_true rfl⟩) (pvW 112 hK hP hE (by decide) xc112 rfl) rfl rfl hl.1 rfl (lv_room (Nat.le_of_ble_eq_true rfl)) dL_does_269 ⟨Nat.le_of_ble_eq_true rfl, Nat.le_of_ble_eq_true rfl⟩) (fun r159 u160 H locs hr158 hP hS => ?_)
                              obtain ⟨hr9, hok⟩ := hr158
                              subst hr9
                              refine lv_if_ne (tgt := 279) hx hb dL_does_272 (by decide) (fun c161 => ?_) (fun c161 => ?_)
                              · skip
                                have c161n := fun hq0 => c161 ((nI_eq2 (p := sz) (q := 0) rfl rfl (by omega) (by omega)).mpr hq0)
                                have c161n : ¬ (sz = 0) := c161n
                                refine lv_aload_n hx hb dL_does_279 rfl (lv_at hl 1 rfl) ?_
                                refine rw_i hS (va_runV (As := []) (rest := []) ⟨hx, hb, hml, hown, hts⟩ (a_X6_undo l D cI cS a u160 s sz hf hok (by omega) _) (cwV 0 hts (gV tw510 tw507 tw508 tw509 tw1) rfl rfl rfl (by decide +kernel) ⟨Nat.le_of_ble_eq_true rfl, Nat.le_of_ble_eq_true rfl⟩) (pvW 112 hK hP hE (by decide) xc112 rfl) rfl rfl hl.1 rfl (lv_room (Nat.le_of_ble_eq_true rfl)) dL_does_280 ⟨Nat.le_of_ble_eq_true rfl, Nat.le_of_ble_eq_true rfl⟩) (fun r163 u164 H locs hr162 hP hS => ?_)
                                obtain ⟨hr9, hok⟩ := hr162
                                subst hr9
                                exact rw_ir hx hb hr rfl hlocks hS u164 hP ⟨(nI_0le (by omega)), _, _, _, hok, (hH _ (by omega)).mono (by omega), (hH.le (by omega)).imp (fun _ q9 => q9.mono (by omega)), fun q9 => absurd q9 (by omega)⟩ dL_does_283
                              · skip
                                have c161n := (nI_eq2 (p := sz) (q := 0) rfl rfl (by omega) (by omega)).mp c161
                                have c161n : sz = 0 := c161n
                                refine lv_iconst (v := 0) hx hb dL_does_275 (by decide) ?_
                                refine lv_goto (tgt := 283) hx hb dL_does_276 (by decide) ?_
                                exact rw_ir hx hb hr rfl hlocks hS u160 hP ⟨i_0le0, _, _, _, hok, hG.mono (by omega), hH.imp (fun _ q9 => q9.mono (by omega)), fun _ => Int.le_refl _⟩ dL_does_283
