theorem mid_A {T : Int} {s : St} (h : Bd T s) : midI (wordA s) (s 7) = midA (wordA s) (s 7) 7 0 :=
  (mm_mid (fun k hk => ⟨(h.1 k hk).2.2.2.2.1, (h.1 k hk).2.2.2.2.2.1⟩) (fun k hk => word_ok.1)).symm.trans (mm_midA (fun k hk => ⟨(h.1 k hk).2.2.2.2.1, (h.1 k hk).2.2.2.2.2.1⟩) (fun k hk => word_ok.1)).symm
theorem up2_back {s : St} {r w : Nat} {x : Int32} : up2 (up2 s r w x) r w (s r w) = s := by
  funext q k
  by_cases h : q = r
  · subst h
    by_cases h2 : k = w
    · subst h2; rw [up2_kk]
    · rw [up2_k h2, up2_k h2]
  · rw [up2_o h, up2_o h]
theorem word_up7 {s : St} {w : Nat} {x : Int32} : wordA (up2 s 7 w x) = wordA s := by
  funext k
  unfold wordA wordF
  rw [up2_o (by decide), up2_o (by decide)]
theorem Bd.wt {T : Int} {s : St} {w : Nat} {x : Int32} (h : Bd T s) (hw : w < 7) (hx : 0 ≤ x.toInt ∧ x.toInt ≤ 9) : Bd T (up2 s 7 w x) := by
  refine ⟨fun d hd => ?_, ?_, ?_, ?_⟩
  · have hd' := h.1 d hd
    rw [up2_o (show 1 ≠ 7 by decide), up2_o (show 2 ≠ 7 by decide), up2_o (show 8 ≠ 7 by decide), up2_e]
    by_cases hq : d = w
    · subst hq
      rw [show upd (s 7) d x d = x from if_pos rfl]
      exact ⟨hd'.1, hd'.2.1, hd'.2.2.1, hd'.2.2.2.1, hx.1, hx.2, hd'.2.2.2.2.2.2⟩
    · rw [show upd (s 7) w x d = s 7 d from if_neg hq]; exact hd'
  · rw [up2_o (by decide)]; exact h.2.1
  · rw [up2_o (by decide)]; exact h.2.2.1
  · rw [up2_o (by decide)]; exact h.2.2.2
theorem mm_nn {s : St} {g : Nat → Int32} : ∀ n, ¬ mmF (wordA s) g n = -1 → 0 ≤ (mmF (wordA s) g n).toInt
  | 0, h => absurd rfl h
  | n + 1, h => by
    have h2 := word_ok (s := s) (w := n)
    have e : mmF (wordA s) g (n + 1) = if okB (wordA s) g n ∧ (mmF (wordA s) g n = -1 ∨ wordA s n < mmF (wordA s) g n) then wordA s n else mmF (wordA s) g n := rfl
    rw [e] at h ⊢
    split
    · exact h2.1
    · rename_i hc
      rw [if_neg hc] at h
      exact mm_nn n h
theorem mid_mm {T : Int} {s : St} (h : Bd T s) : mmF (wordA s) (s 7) 7 = midI (wordA s) (s 7) := mm_mid (fun k hk => ⟨(h.1 k hk).2.2.2.2.1, (h.1 k hk).2.2.2.2.2.1⟩) (fun k hk => word_ok.1)
theorem mid_nn {T : Int} {s : St} (h : Bd T s) (h1 : ¬ midI (wordA s) (s 7) = -1) : 0 ≤ (midI (wordA s) (s 7)).toInt := by
  rw [← mid_mm h] at h1 ⊢
  exact mm_nn 7 h1
theorem midW_e {s : St} {w : Nat} {x : Int32} : midW s w x = midI (wordA (up2 s 7 w x)) (up2 s 7 w x 7) := by unfold midW; rw [word_up7, up2_e]
theorem midW_nn {T : Int} {s : St} {w : Nat} (h : Bd T s) (hw : w < 7) (h1 : ¬ midW s w 0 = -1) : 0 ≤ (midW s w 0).toInt := by
  rw [midW_e] at h1 ⊢
  exact mid_nn (h.wt hw (by decide)) h1
theorem piv_fin {s : St} {bv xv : Int32} (hv : pvF s (midI (wordA s) (s 7)) 7 = (bv, xv)) (h2 : midI (wordA s) (s 7) = -1 → bv = -1) : bv = pivI s := by
  unfold pivI
  by_cases h : midI (wordA s) (s 7) = -1
  · rw [if_pos h]; exact h2 h
  · rw [if_neg h, hv]
theorem nI_19 {q : Nat} (h : q ≤ 9) : 0 ≤ (nI q).toInt ∧ (nI q).toInt ≤ 9 := by
  have e : (nI q).toInt = (q : Int) := Int32.toInt_ofNat_of_lt (by omega)
  rw [e]; omega
theorem dist_ok {x y : Int32} {T : Int} (h1 : 0 ≤ x.toInt ∧ x.toInt ≤ 99999) (h2 : 0 ≤ y.toInt ∧ y.toInt ≤ T) (hT : T ≤ 2000000000) : 0 ≤ (distI x y).toInt ∧ (distI x y).toInt ≤ T + 99999 := by
  have e1 : (y - x).toInt = y.toInt - x.toInt := i_sub (by omega) (by omega)
  have e2 : (x - y).toInt = x.toInt - y.toInt := i_sub (by omega) (by omega)
  unfold distI
  split
  · rename_i h; rw [i_lt] at h; rw [e1]; omega
  · rename_i h; rw [i_lt] at h; rw [e2]; omega
theorem errC_ok {T : Int} {s : St} (h : Bd T s) (hT : T ≤ 200000000) : ∀ n : Nat, n ≤ 7 → 0 ≤ (errC s n).toInt ∧ (errC s n).toInt ≤ (n : Int) * 200099999
  | 0, _ => ⟨by show 0 ≤ (0 : Int32).toInt; decide, by show (0 : Int32).toInt ≤ ((0 : Nat) : Int) * 200099999; decide⟩
  | n + 1, hn => by
    have h1 := errC_ok h hT n (by omega)
    have h2 := dist_ok (x := s 1 n) (y := s 0 0) (T := T) ⟨(h.1 n (by omega)).1, (h.1 n (by omega)).2.1⟩ (h.2.2.2 0 (by decide) (by decide)) (by omega)
    have h3 : ((n : Int)) ≤ 6 := by omega
    show 0 ≤ (errC s n + errI s n).toInt ∧ _
    have e : (errC s n + errI s n).toInt = (errC s n).toInt + (errI s n).toInt := i_add (by unfold errI; omega) (by unfold errI; omega)
    show _ ∧ (errC s n + errI s n).toInt ≤ _
    rw [e]
    unfold errI
    omega
set_option maxHeartbeats 4000000 in
set_option maxRecDepth 100000 in
theorem m_X7_ofDial (l : Launch) (D : va_G) (cI cS : ClassId) (b : Nat → Nat) (s kp : St) (hf : Nat → St) (sc ad bf : Nat → Int32) (T : Int) (hBd : Bd T s) (hT : T ≤ 200000000) (d ix : Nat) (hd : d < 7) (hq : ix < 7) : Met l yX7_ofDial (.code yX7_ofDial cX7_ofDial 3 (some .int) :: wsA) ({ frames := 1, cells := 0, slots := 0, locals := 24 } : Room) (va_Pc [.ref (b 0), .int (nI d), .int (nI ix)] (PR D cI cS 6 b (emC cI b (mdl s kp hf sc ad bf)))) (vp_Si (fun r => r = dialN s d ix)) 0 0 (fun _ => False) := by
  refine mgo (by decide) (Nat.le_of_ble_eq_true rfl) ?_
  intro p e z m below meth c hx hb hr hml hown hts hlocks hB ls hl
  obtain ⟨hP, hK⟩ := hB
  have hl : lv_has ls 3 [(0, .ref (b 0)), (1, .int (nI d)), (2, .int (nI ix))] := hl
  refine lv_iload_n hx hb dX7_ofDial_0 rfl (lv_at hl 2 rfl) ?_
  by_cases sw1 : nI ix = 0
  · skip
    refine lv_tableIn (tgt := 40) hx hb dX7_ofDial_1 (by first | (rw [sw1]; done) | (rw [sw1]; decide)) (by first | (rw [sw1]; done) | (rw [sw1]; decide)) (off := 39) (by first | (rw [sw1]; done) | (rw [sw1]; decide)) (by decide) ?_
    have hjq : 0 = ix := ((nI_eq2 (p := ix) (q := 0) rfl rfl (by omega) (by omega)).mp sw1).symm
    subst hjq
    refine lv_aload_n hx hb dX7_ofDial_40 rfl (lv_at hl 0 rfl) ?_
    refine g_get hx hb hts hown inA7 hK hP 0 (by decide) rfl rfl 0 (by decide) tw760 rfl (v := .ref (b 1)) rfl dX7_ofDial_41 ?_
    refine lv_bipush (v := 6) hx hb dX7_ofDial_44 (by decide) ?_
    refine lv_iload_n hx hb dX7_ofDial_46 rfl (lv_at hl 1 rfl) ?_
    refine lv_iadd hx hb dX7_ofDial_47 ?_
    refine lv_as (y := nI (6 + d)) (nI_add2 (p := 6) (q := d) rfl rfl) ?_
    refine g_iald hx hb hK hP 1 (by decide) rfl (6 + d) rfl (by omega) (by decide) dX7_ofDial_48 (v := s 1 d) ((fl_g1 (s := s) (d := d) (by omega)).trans rfl) ?_
    exact ro_ir hx hb hr rfl hlocks rfl dX7_ofDial_49
  · skip
    have sw1n : ¬ ix = 0 := fun hq0 => sw1 ((nI_eq2 (p := ix) (q := 0) rfl rfl (by omega) (by omega)).mpr hq0)
    by_cases sw2 : nI ix = 1
    · skip
      refine lv_tableIn (tgt := 50) hx hb dX7_ofDial_1 (by first | (rw [sw2]; done) | (rw [sw2]; decide)) (by first | (rw [sw2]; done) | (rw [sw2]; decide)) (off := 49) (by first | (rw [sw2]; done) | (rw [sw2]; decide)) (by decide) ?_
      have hjq : 1 = ix := ((nI_eq2 (p := ix) (q := 1) rfl rfl (by omega) (by omega)).mp sw2).symm
      subst hjq
      refine lv_aload_n hx hb dX7_ofDial_50 rfl (lv_at hl 0 rfl) ?_
      refine g_get hx hb hts hown inA7 hK hP 0 (by decide) rfl rfl 0 (by decide) tw760 rfl (v := .ref (b 1)) rfl dX7_ofDial_51 ?_
      refine lv_bipush (v := 27) hx hb dX7_ofDial_54 (by decide) ?_
      refine lv_iload_n hx hb dX7_ofDial_56 rfl (lv_at hl 1 rfl) ?_
      refine lv_iadd hx hb dX7_ofDial_57 ?_
      refine lv_as (y := nI (27 + d)) (nI_add2 (p := 27) (q := d) rfl rfl) ?_
      refine g_iald hx hb hK hP 1 (by decide) rfl (27 + d) rfl (by omega) (by decide) dX7_ofDial_58 (v := s 3 d) ((fl_g3 (s := s) (d := d) (by omega)).trans rfl) ?_
      refine lv_aload_n hx hb dX7_ofDial_59 rfl (lv_at hl 0 rfl) ?_
      refine g_get hx hb hts hown inA7 hK hP 0 (by decide) rfl rfl 0 (by decide) tw760 rfl (v := .ref (b 1)) rfl dX7_ofDial_60 ?_
      refine lv_bipush (v := 34) hx hb dX7_ofDial_63 (by decide) ?_
      refine lv_iload_n hx hb dX7_ofDial_65 rfl (lv_at hl 1 rfl) ?_
      refine lv_iadd hx hb dX7_ofDial_66 ?_
      refine lv_as (y := nI (34 + d)) (nI_add2 (p := 34) (q := d) rfl rfl) ?_
      refine g_iald hx hb hK hP 1 (by decide) rfl (34 + d) rfl (by omega) (by decide) dX7_ofDial_67 (v := s 4 d) ((fl_g4 (s := s) (d := d) (by omega)).trans rfl) ?_
      refine lv_iadd hx hb dX7_ofDial_68 ?_
      refine lv_aload_n hx hb dX7_ofDial_69 rfl (lv_at hl 0 rfl) ?_
      refine g_get hx hb hts hown inA7 hK hP 0 (by decide) rfl rfl 0 (by decide) tw760 rfl (v := .ref (b 1)) rfl dX7_ofDial_70 ?_
      refine lv_bipush (v := 41) hx hb dX7_ofDial_73 (by decide) ?_
      refine lv_iload_n hx hb dX7_ofDial_75 rfl (lv_at hl 1 rfl) ?_
      refine lv_iadd hx hb dX7_ofDial_76 ?_
      refine lv_as (y := nI (41 + d)) (nI_add2 (p := 41) (q := d) rfl rfl) ?_
      refine g_iald hx hb hK hP 1 (by decide) rfl (41 + d) rfl (by omega) (by decide) dX7_ofDial_77 (v := s 5 d) ((fl_g5 (s := s) (d := d) (by omega)).trans rfl) ?_
      refine lv_isub hx hb dX7_ofDial_78 ?_
      exact ro_ir hx hb hr rfl hlocks rfl dX7_ofDial_79
    · skip
      have sw2n : ¬ ix = 1 := fun hq0 => sw2 ((nI_eq2 (p := ix) (q := 1) rfl rfl (by omega) (by omega)).mpr hq0)
      by_cases sw3 : nI ix = 2
      · skip
        refine lv_tableIn (tgt := 80) hx hb dX7_ofDial_1 (by first | (rw [sw3]; done) | (rw [sw3]; decide)) (by first | (rw [sw3]; done) | (rw [sw3]; decide)) (off := 79) (by first | (rw [sw3]; done) | (rw [sw3]; decide)) (by decide) ?_
        have hjq : 2 = ix := ((nI_eq2 (p := ix) (q := 2) rfl rfl (by omega) (by omega)).mp sw3).symm
        subst hjq
        refine lv_aload_n hx hb dX7_ofDial_80 rfl (lv_at hl 0 rfl) ?_
        refine g_get hx hb hts hown inA7 hK hP 0 (by decide) rfl rfl 0 (by decide) tw760 rfl (v := .ref (b 1)) rfl dX7_ofDial_81 ?_
        refine lv_bipush (v := 13) hx hb dX7_ofDial_84 (by decide) ?_
        refine lv_iload_n hx hb dX7_ofDial_86 rfl (lv_at hl 1 rfl) ?_
        refine lv_iadd hx hb dX7_ofDial_87 ?_
        refine lv_as (y := nI (13 + d)) (nI_add2 (p := 13) (q := d) rfl rfl) ?_
        refine g_iald hx hb hK hP 1 (by decide) rfl (13 + d) rfl (by omega) (by decide) dX7_ofDial_88 (v := s 2 d) ((fl_g2 (s := s) (d := d) (by omega)).trans rfl) ?_
        exact ro_ir hx hb hr rfl hlocks rfl dX7_ofDial_89
      · skip
        have sw3n : ¬ ix = 2 := fun hq0 => sw3 ((nI_eq2 (p := ix) (q := 2) rfl rfl (by omega) (by omega)).mpr hq0)
        by_cases sw4 : nI ix = 3
        · skip
          refine lv_tableIn (tgt := 90) hx hb dX7_ofDial_1 (by first | (rw [sw4]; done) | (rw [sw4]; decide)) (by first | (rw [sw4]; done) | (rw [sw4]; decide)) (off := 89) (by first | (rw [sw4]; done) | (rw [sw4]; decide)) (by decide) ?_
          have hjq : 3 = ix := ((nI_eq2 (p := ix) (q := 3) rfl rfl (by omega) (by omega)).mp sw4).symm
          subst hjq
          refine lv_aload_n hx hb dX7_ofDial_90 rfl (lv_at hl 0 rfl) ?_
          refine g_get hx hb hts hown inA7 hK hP 0 (by decide) rfl rfl 0 (by decide) tw760 rfl (v := .ref (b 1)) rfl dX7_ofDial_91 ?_
          refine lv_bipush (v := 6) hx hb dX7_ofDial_94 (by decide) ?_
          refine lv_iload_n hx hb dX7_ofDial_96 rfl (lv_at hl 1 rfl) ?_
          refine lv_iadd hx hb dX7_ofDial_97 ?_
          refine lv_as (y := nI (6 + d)) (nI_add2 (p := 6) (q := d) rfl rfl) ?_
          refine g_iald hx hb hK hP 1 (by decide) rfl (6 + d) rfl (by omega) (by decide) dX7_ofDial_98 (v := s 1 d) ((fl_g1 (s := s) (d := d) (by omega)).trans rfl) ?_
          refine lv_bipush (v := 60) hx hb dX7_ofDial_99 (by decide) ?_
          refine lv_idiv hx hb dX7_ofDial_101 (by decide) ?_
          exact ro_ir hx hb hr rfl hlocks rfl dX7_ofDial_102
        · skip
          have sw4n : ¬ ix = 3 := fun hq0 => sw4 ((nI_eq2 (p := ix) (q := 3) rfl rfl (by omega) (by omega)).mpr hq0)
          by_cases sw5 : nI ix = 4
          · skip
            refine lv_tableIn (tgt := 103) hx hb dX7_ofDial_1 (by first | (rw [sw5]; done) | (rw [sw5]; decide)) (by first | (rw [sw5]; done) | (rw [sw5]; decide)) (off := 102) (by first | (rw [sw5]; done) | (rw [sw5]; decide)) (by decide) ?_
            have hjq : 4 = ix := ((nI_eq2 (p := ix) (q := 4) rfl rfl (by omega) (by omega)).mp sw5).symm
            subst hjq
            refine lv_aload_n hx hb dX7_ofDial_103 rfl (lv_at hl 0 rfl) ?_
            refine g_get hx hb hts hown inA7 hK hP 0 (by decide) rfl rfl 0 (by decide) tw760 rfl (v := .ref (b 1)) rfl dX7_ofDial_104 ?_
            refine lv_bipush (v := 20) hx hb dX7_ofDial_107 (by decide) ?_
            refine lv_iload_n hx hb dX7_ofDial_109 rfl (lv_at hl 1 rfl) ?_
            refine lv_iadd hx hb dX7_ofDial_110 ?_
            refine lv_as (y := nI (20 + d)) (nI_add2 (p := 20) (q := d) rfl rfl) ?_
            refine g_iald hx hb hK hP 1 (by decide) rfl (20 + d) rfl (by omega) (by decide) dX7_ofDial_111 (v := s 6 d) ((fl_g6 (s := s) (d := d) (by omega)).trans rfl) ?_
            exact ro_ir hx hb hr rfl hlocks rfl dX7_ofDial_112
          · skip
            have sw5n : ¬ ix = 4 := fun hq0 => sw5 ((nI_eq2 (p := ix) (q := 4) rfl rfl (by omega) (by omega)).mpr hq0)
            by_cases sw6 : nI ix = 5
            · skip
              refine lv_tableIn (tgt := 113) hx hb dX7_ofDial_1 (by first | (rw [sw6]; done) | (rw [sw6]; decide)) (by first | (rw [sw6]; done) | (rw [sw6]; decide)) (off := 112) (by first | (rw [sw6]; done) | (rw [sw6]; decide)) (by decide) ?_
              have hjq : 5 = ix := ((nI_eq2 (p := ix) (q := 5) rfl rfl (by omega) (by omega)).mp sw6).symm
              subst hjq
              refine lv_aload_n hx hb dX7_ofDial_113 rfl (lv_at hl 0 rfl) ?_
              refine g_get hx hb hts hown inA7 hK hP 0 (by decide) rfl rfl 0 (by decide) tw760 rfl (v := .ref (b 1)) rfl dX7_ofDial_114 ?_
              refine lv_bipush (v := 6) hx hb dX7_ofDial_117 (by decide) ?_
              refine lv_iload_n hx hb dX7_ofDial_119 rfl (lv_at hl 1 rfl) ?_
              refine lv_iadd hx hb dX7_ofDial_120 ?_
              refine lv_as (y := nI (6 + d)) (nI_add2 (p := 6) (q := d) rfl rfl) ?_
              refine g_iald hx hb hK hP 1 (by decide) rfl (6 + d) rfl (by omega) (by decide) dX7_ofDial_121 (v := s 1 d) ((fl_g1 (s := s) (d := d) (by omega)).trans rfl) ?_
              refine lv_aload_n hx hb dX7_ofDial_122 rfl (lv_at hl 0 rfl) ?_
              refine g_get hx hb hts hown inA7 hK hP 0 (by decide) rfl rfl 0 (by decide) tw760 rfl (v := .ref (b 1)) rfl dX7_ofDial_123 ?_
              refine lv_iconst (v := 0) hx hb dX7_ofDial_126 (by decide) ?_
              refine g_iald hx hb hK hP 1 (by decide) rfl 0 rfl (by omega) (by decide) dX7_ofDial_127 (v := s 0 0) ((fl_g0 (s := s) (d := 0) (by omega)).trans rfl) ?_
              refine lv_isub hx hb dX7_ofDial_128 ?_
              refine ro_i (va_runS (As := [.int ((s 1 d) - (s 0 0))]) (rest := []) ⟨hx, hb, hml, hown, hts⟩ (m_X7_size l ((s 1 d) - (s 0 0))) (va_cwS 1 hts (gS tw855 tw853 tw854 tw8) rfl rfl rfl (by decide +kernel) ⟨Nat.le_of_ble_eq_true rfl, Nat.le_of_ble_eq_true rfl⟩) ps0 rfl rfl hl.1 rfl (lv_room (Nat.le_of_ble_eq_true rfl)) dX7_ofDial_129 ⟨Nat.le_of_ble_eq_true rfl, Nat.le_of_ble_eq_true rfl⟩) (fun r8 hr7 => ?_)
              subst hr7
              exact ro_ir hx hb hr rfl hlocks (abs_dist (hBd.1 d hd).1 (hBd.2.2.2 0 (by decide) (by decide)).1) dX7_ofDial_132
            · skip
              have sw6n : ¬ ix = 5 := fun hq0 => sw6 ((nI_eq2 (p := ix) (q := 5) rfl rfl (by omega) (by omega)).mpr hq0)
              refine lv_tableOut (tgt := 133) hx hb dX7_ofDial_1 (by have := lv_neT sw1 (a := 0) (by decide); have := lv_neT sw2 (a := 1) (by decide); have := lv_neT sw3 (a := 2) (by decide); have := lv_neT sw4 (a := 3) (by decide); have := lv_neT sw5 (a := 4) (by decide); have := lv_neT sw6 (a := 5) (by decide); omega) (by decide) ?_
              have hjq : 6 = ix := by omega
              subst hjq
              refine lv_aload_n hx hb dX7_ofDial_133 rfl (lv_at hl 0 rfl) ?_
              refine lv_iload_n hx hb dX7_ofDial_134 rfl (lv_at hl 1 rfl) ?_
              refine ro_i (va_runV (As := [.int (nI d)]) (rest := []) ⟨hx, hb, hml, hown, hts⟩ (m_X7_right l D cI cS b s kp hf sc ad bf d (by omega)) (cwV 1 hts (gV tw871 tw868 tw870 ts34 tw8) rfl rfl rfl (by decide +kernel) ⟨Nat.le_of_ble_eq_true rfl, Nat.le_of_ble_eq_true rfl⟩) (pvR 0 hK hP (by decide) rfl rfl) rfl rfl hl.1 rfl (lv_room (Nat.le_of_ble_eq_true rfl)) dX7_ofDial_135 ⟨Nat.le_of_ble_eq_true rfl, Nat.le_of_ble_eq_true rfl⟩) (fun r11 hr10 => ?_)
              subst hr10
              refine lv_aload_n hx hb dX7_ofDial_138 rfl (lv_at hl 0 rfl) ?_
              refine g_get hx hb hts hown inA7 hK hP 0 (by decide) rfl rfl 0 (by decide) tw760 rfl (v := .ref (b 1)) rfl dX7_ofDial_139 ?_
              refine lv_bipush (v := 6) hx hb dX7_ofDial_142 (by decide) ?_
              refine lv_iload_n hx hb dX7_ofDial_144 rfl (lv_at hl 1 rfl) ?_
              refine lv_iadd hx hb dX7_ofDial_145 ?_
              refine lv_as (y := nI (6 + d)) (nI_add2 (p := 6) (q := d) rfl rfl) ?_
              refine g_iald hx hb hK hP 1 (by decide) rfl (6 + d) rfl (by omega) (by decide) dX7_ofDial_146 (v := s 1 d) ((fl_g1 (s := s) (d := d) (by omega)).trans rfl) ?_
              refine lv_icmp_ne (tgt := 154) hx hb dX7_ofDial_147 (by decide) (fun c13 => ?_) (fun c13 => ?_)
              · skip
                have hq9 := c13
                refine lv_iconst (v := 1) hx hb dX7_ofDial_154 (by decide) ?_
                exact ro_ir hx hb hr rfl hlocks (if_pos (Decidable.not_not.mp (fun h => hq9 ((ri_off hBd hd).mpr h)))).symm dX7_ofDial_155
              · skip
                have hq9 := c13
                refine lv_iconst (v := 0) hx hb dX7_ofDial_150 (by decide) ?_
                refine lv_goto (tgt := 155) hx hb dX7_ofDial_151 (by decide) ?_
                exact ro_ir hx hb hr rfl hlocks (if_neg ((ri_off hBd hd).mp hq9)).symm dX7_ofDial_155

set_option maxHeartbeats 4000000 in
set_option maxRecDepth 100000 in
theorem m_X7_placeOf (l : Launch) (D : va_G) (cI cS : ClassId) (b : Nat → Nat) (s kp : St) (hf : Nat → St) (sc ad bf : Nat → Int32) (w : Nat) (hw : w < 7) : Met l yX7_placeOf (.code yX7_placeOf cX7_placeOf 4 (some .int) :: wsA) ({ frames := 1, cells := 0, slots := 0, locals := 22 } : Room) (va_Pc [.ref (b 0), .int (nI w)] (PR D cI cS 6 b (emC cI b (mdl s kp hf sc ad bf)))) (vp_Si (fun r => r = nI (plcN (wordA s) w 7))) 0 0 (fun _ => False) := by
  refine mgo (by decide) (Nat.le_of_ble_eq_true rfl) ?_
  intro p e z m below meth c hx hb hr hml hown hts hlocks hB ls hl
  obtain ⟨hP, hK⟩ := hB
  have hl : lv_has ls 4 [(0, .ref (b 0)), (1, .int (nI w))] := hl
  refine lv_iconst (v := 0) hx hb dX7_placeOf_0 (by decide) ?_
  refine lv_istore_n (lv' := [(2, .int 0), (0, .ref (b 0)), (1, .int (nI w))]) hx hb dX7_placeOf_1 rfl hl (by decide) rfl (fun ls hl => ?_)
  refine lv_iconst (v := 0) hx hb dX7_placeOf_2 (by decide) ?_
  refine lv_istore_n (lv' := [(3, .int 0), (2, .int 0), (0, .ref (b 0)), (1, .int (nI w))]) hx hb dX7_placeOf_3 rfl hl (by decide) rfl (fun ls hl => ?_)
  have loop4 : ∀ (fu : Nat) (j : Nat) (q : Nat), 7 + 1 ≤ j + fu → (j ≤ 7) → (q = plcN (wordA s) w j) → ∀ ls : Array Slot, lv_has ls 4 [(0, .ref (b 0)), (1, .int (nI w)), (2, .int (nI q)), (3, .int (nI j))] → W p l e ({ frames := 1, cells := 0, slots := 0, locals := 22 } : Room) z m ([.ref (b 0), .int (nI w)] : List Value).toArray below meth c z.heap [] 0 0 (MQ below (vp_Si (fun r => r = nI (plcN (wordA s) w 7))) ([.ref (b 0), .int (nI w)] : List Value).toArray z 0 0 (fun _ => False)) (F0 m 4 ls []) := by
    intro fu
    induction fu with
    | zero => intro j q hn hj hq; exact absurd hn (by omega)
    | succ fu ih4 =>
      intro j q hn hj hq ls hl
      refine lv_iload_n hx hb dX7_placeOf_4 rfl (lv_at hl 3 rfl) ?_
      refine lv_bipush (v := 7) hx hb dX7_placeOf_5 (by decide) ?_
      refine lv_icmp_ge (tgt := 55) hx hb dX7_placeOf_7 (by decide) (fun c1 => ?_) (fun c1 => ?_)
      · skip
        have c1x := Int32.not_lt.mpr c1
        have c1n := (nI_le2 (p := 7) (q := j) rfl rfl (by omega) (by omega)).mp c1
        have c1n : 7 ≤ j := c1n
        have hjq : 7 = j := by omega
        subst hjq
        refine lv_iload_n hx hb dX7_placeOf_55 rfl (lv_at hl 2 rfl) ?_
        exact ro_ir hx hb hr rfl hlocks (by rw [hq]) dX7_placeOf_56
      · skip
        have c1x := Int32.not_le.mp c1
        have c1n := fun hq0 => c1 ((nI_le2 (p := 7) (q := j) rfl rfl (by omega) (by omega)).mpr hq0)
        have c1n : ¬ (7 ≤ j) := c1n
        refine lv_iload_n hx hb dX7_placeOf_10 rfl (lv_at hl 2 rfl) ?_
        refine lv_aload_n hx hb dX7_placeOf_11 rfl (lv_at hl 0 rfl) ?_
        refine lv_iload_n hx hb dX7_placeOf_12 rfl (lv_at hl 3 rfl) ?_
        refine ro_i (va_runV (As := [.int (nI j)]) (rest := [.int (nI q)]) ⟨hx, hb, hml, hown, hts⟩ (m_X7_word l D cI cS b s kp hf sc ad bf j (by omega)) (cwV 1 hts (gV tw845 tw842 tw844 ts30 tw8) rfl rfl rfl (by decide +kernel) ⟨Nat.le_of_ble_eq_true rfl, Nat.le_of_ble_eq_true rfl⟩) (pvR 0 hK hP (by decide) rfl rfl) rfl rfl hl.1 rfl (lv_room (Nat.le_of_ble_eq_true rfl)) dX7_placeOf_13 ⟨Nat.le_of_ble_eq_true rfl, Nat.le_of_ble_eq_true rfl⟩) (fun r3 hr2 => ?_)
        subst hr2
        refine lv_aload_n hx hb dX7_placeOf_16 rfl (lv_at hl 0 rfl) ?_
        refine lv_iload_n hx hb dX7_placeOf_17 rfl (lv_at hl 1 rfl) ?_
        refine ro_i (va_runV (As := [.int (nI w)]) (rest := [.int (wordA s j), .int (nI q)]) ⟨hx, hb, hml, hown, hts⟩ (m_X7_word l D cI cS b s kp hf sc ad bf w (by omega)) (cwV 1 hts (gV tw845 tw842 tw844 ts30 tw8) rfl rfl rfl (by decide +kernel) ⟨Nat.le_of_ble_eq_true rfl, Nat.le_of_ble_eq_true rfl⟩) (pvR 0 hK hP (by decide) rfl rfl) rfl rfl hl.1 rfl (lv_room (Nat.le_of_ble_eq_true rfl)) dX7_placeOf_18 ⟨Nat.le_of_ble_eq_true rfl, Nat.le_of_ble_eq_true rfl⟩) (fun r6 hr5 => ?_)
        subst hr5
        refine lv_icmp_lt (tgt := 42) hx hb dX7_placeOf_21 (by decide) (fun c8 => ?_) (fun c8 => ?_)
        · skip
          have c8x := Int32.not_le.mpr c8
          refine lv_iconst (v := 1) hx hb dX7_placeOf_42 (by decide) ?_
          refine lv_goto (tgt := 47) hx hb dX7_placeOf_43 (by decide) ?_
          refine lv_iadd hx hb dX7_placeOf_47 ?_
          refine lv_as (y := nI (q + 1)) (nI_add2 (p := q) (q := 1) rfl rfl) ?_
          refine lv_istore_n (lv' := [(2, .int (nI (q + 1))), (0, .ref (b 0)), (1, .int (nI w)), (3, .int (nI j))]) hx hb dX7_placeOf_48 rfl hl (by decide) rfl (fun ls hl => ?_)
          refine lv_iinc (v := nI (j + 1)) (lv' := [(3, .int (nI (j + 1))), (2, .int (nI (q + 1))), (0, .ref (b 0)), (1, .int (nI w))]) hx hb dX7_placeOf_49 hl (k := 3) rfl (nI_add j 1) (by decide) rfl (fun ls hl => ?_)
          refine lv_goto (tgt := 4) hx hb dX7_placeOf_52 (by decide) ?_
          exact ih4 (j + 1) (q + 1) (by omega) (by omega) (by simp [plcN, ← hq, c1, c1x, c1n, c8, c8x]) ls (lv_sub hl [2, 3, 1, 0] rfl)
        · skip
          have c8x := Int32.not_lt.mp c8
          refine lv_aload_n hx hb dX7_placeOf_24 rfl (lv_at hl 0 rfl) ?_
          refine lv_iload_n hx hb dX7_placeOf_25 rfl (lv_at hl 3 rfl) ?_
          refine ro_i (va_runV (As := [.int (nI j)]) (rest := [.int (nI q)]) ⟨hx, hb, hml, hown, hts⟩ (m_X7_word l D cI cS b s kp hf sc ad bf j (by omega)) (cwV 1 hts (gV tw845 tw842 tw844 ts30 tw8) rfl rfl rfl (by decide +kernel) ⟨Nat.le_of_ble_eq_true rfl, Nat.le_of_ble_eq_true rfl⟩) (pvR 0 hK hP (by decide) rfl rfl) rfl rfl hl.1 rfl (lv_room (Nat.le_of_ble_eq_true rfl)) dX7_placeOf_26 ⟨Nat.le_of_ble_eq_true rfl, Nat.le_of_ble_eq_true rfl⟩) (fun r10 hr9 => ?_)
          subst hr9
          refine lv_aload_n hx hb dX7_placeOf_29 rfl (lv_at hl 0 rfl) ?_
          refine lv_iload_n hx hb dX7_placeOf_30 rfl (lv_at hl 1 rfl) ?_
          refine ro_i (va_runV (As := [.int (nI w)]) (rest := [.int (wordA s j), .int (nI q)]) ⟨hx, hb, hml, hown, hts⟩ (m_X7_word l D cI cS b s kp hf sc ad bf w (by omega)) (cwV 1 hts (gV tw845 tw842 tw844 ts30 tw8) rfl rfl rfl (by decide +kernel) ⟨Nat.le_of_ble_eq_true rfl, Nat.le_of_ble_eq_true rfl⟩) (pvR 0 hK hP (by decide) rfl rfl) rfl rfl hl.1 rfl (lv_room (Nat.le_of_ble_eq_true rfl)) dX7_placeOf_31 ⟨Nat.le_of_ble_eq_true rfl, Nat.le_of_ble_eq_true rfl⟩) (fun r13 hr12 => ?_)
          subst hr12
          refine lv_icmp_ne (tgt := 46) hx hb dX7_placeOf_34 (by decide) (fun c15 => ?_) (fun c15 => ?_)
          · skip
            refine lv_iconst (v := 0) hx hb dX7_placeOf_46 (by decide) ?_
            refine lv_iadd hx hb dX7_placeOf_47 ?_
            refine lv_as (y := nI (q + 0)) (nI_add2 (p := q) (q := 0) rfl rfl) ?_
            refine lv_istore_n (lv' := [(2, .int (nI (q + 0))), (0, .ref (b 0)), (1, .int (nI w)), (3, .int (nI j))]) hx hb dX7_placeOf_48 rfl hl (by decide) rfl (fun ls hl => ?_)
            refine lv_iinc (v := nI (j + 1)) (lv' := [(3, .int (nI (j + 1))), (2, .int (nI (q + 0))), (0, .ref (b 0)), (1, .int (nI w))]) hx hb dX7_placeOf_49 hl (k := 3) rfl (nI_add j 1) (by decide) rfl (fun ls hl => ?_)
            refine lv_goto (tgt := 4) hx hb dX7_placeOf_52 (by decide) ?_
            exact ih4 (j + 1) (q + 0) (by omega) (by omega) (by simp [plcN, ← hq, c1, c1x, c1n, c8, c8x, c15]) ls (lv_sub hl [2, 3, 1, 0] rfl)
          · skip
            refine lv_iload_n hx hb dX7_placeOf_37 rfl (lv_at hl 3 rfl) ?_
            refine lv_iload_n hx hb dX7_placeOf_38 rfl (lv_at hl 1 rfl) ?_
            refine lv_icmp_ge (tgt := 46) hx hb dX7_placeOf_39 (by decide) (fun c16 => ?_) (fun c16 => ?_)
            · skip
              have c16x := Int32.not_lt.mpr c16
              have c16n := (nI_le2 (p := w) (q := j) rfl rfl (by omega) (by omega)).mp c16
              have c16n : w ≤ j := c16n
              refine lv_iconst (v := 0) hx hb dX7_placeOf_46 (by decide) ?_
              refine lv_iadd hx hb dX7_placeOf_47 ?_
              refine lv_as (y := nI (q + 0)) (nI_add2 (p := q) (q := 0) rfl rfl) ?_
              refine lv_istore_n (lv' := [(2, .int (nI (q + 0))), (0, .ref (b 0)), (1, .int (nI w)), (3, .int (nI j))]) hx hb dX7_placeOf_48 rfl hl (by decide) rfl (fun ls hl => ?_)
              refine lv_iinc (v := nI (j + 1)) (lv' := [(3, .int (nI (j + 1))), (2, .int (nI (q + 0))), (0, .ref (b 0)), (1, .int (nI w))]) hx hb dX7_placeOf_49 hl (k := 3) rfl (nI_add j 1) (by decide) rfl (fun ls hl => ?_)
              refine lv_goto (tgt := 4) hx hb dX7_placeOf_52 (by decide) ?_
              exact ih4 (j + 1) (q + 0) (by omega) (by omega) (by simp [plcN, ← hq, c1, c1x, c1n, c8, c8x, c15, c16, c16x, c16n]) ls (lv_sub hl [2, 3, 1, 0] rfl)
            · skip
              have c16x := Int32.not_le.mp c16
              have c16n := fun hq0 => c16 ((nI_le2 (p := w) (q := j) rfl rfl (by omega) (by omega)).mpr hq0)
              have c16n : ¬ (w ≤ j) := c16n
              refine lv_iconst (v := 1) hx hb dX7_placeOf_42 (by decide) ?_
              refine lv_goto (tgt := 47) hx hb dX7_placeOf_43 (by decide) ?_
              refine lv_iadd hx hb dX7_placeOf_47 ?_
              refine lv_as (y := nI (q + 1)) (nI_add2 (p := q) (q := 1) rfl rfl) ?_
              refine lv_istore_n (lv' := [(2, .int (nI (q + 1))), (0, .ref (b 0)), (1, .int (nI w)), (3, .int (nI j))]) hx hb dX7_placeOf_48 rfl hl (by decide) rfl (fun ls hl => ?_)
              refine lv_iinc (v := nI (j + 1)) (lv' := [(3, .int (nI (j + 1))), (2, .int (nI (q + 1))), (0, .ref (b 0)), (1, .int (nI w))]) hx hb dX7_placeOf_49 hl (k := 3) rfl (nI_add j 1) (by decide) rfl (fun ls hl => ?_)
              refine lv_goto (tgt := 4) hx hb dX7_placeOf_52 (by decide) ?_
              exact ih4 (j + 1) (q + 1) (by omega) (by omega) (by simp [plcN, ← hq, c1, c1x, c1n, c8, c8x, c15, c16, c16x, c16n]) ls (lv_sub hl [2, 3, 1, 0] rfl)
  exact loop4 (7 + 1) 0 0 (by omega) (by omega) rfl ls (lv_sub hl [2, 3, 1, 0] rfl)

set_option maxHeartbeats 4000000 in
set_option maxRecDepth 100000 in
theorem m_X7_ofWarden (l : Launch) (D : va_G) (cI cS : ClassId) (b : Nat → Nat) (s kp : St) (hf : Nat → St) (sc ad bf : Nat → Int32) (w ix : Nat) (hw : w < 7) (hq : ix < 6) : Met l yX7_ofWarden (.code yX7_ofWarden cX7_ofWarden 3 (some .int) :: wsA) ({ frames := 2, cells := 0, slots := 0, locals := 45 } : Room) (va_Pc [.ref (b 0), .int (nI w), .int (nI ix)] (PR D cI cS 6 b (emC cI b (mdl s kp hf sc ad bf)))) (vp_Si (fun r => r = wardN s w ix)) 0 0 (fun _ => False) := by
  refine mgo (by decide) (Nat.le_of_ble_eq_true rfl) ?_
  intro p e z m below meth c hx hb hr hml hown hts hlocks hB ls hl
  obtain ⟨hP, hK⟩ := hB
  have hl : lv_has ls 3 [(0, .ref (b 0)), (1, .int (nI w)), (2, .int (nI ix))] := hl
  refine lv_iload_n hx hb dX7_ofWarden_0 rfl (lv_at hl 2 rfl) ?_
  by_cases sw1 : nI ix = 0
  · skip
    refine lv_tableIn (tgt := 36) hx hb dX7_ofWarden_1 (by first | (rw [sw1]; done) | (rw [sw1]; decide)) (by first | (rw [sw1]; done) | (rw [sw1]; decide)) (off := 35) (by first | (rw [sw1]; done) | (rw [sw1]; decide)) (by decide) ?_
    have hjq : 0 = ix := ((nI_eq2 (p := ix) (q := 0) rfl rfl (by omega) (by omega)).mp sw1).symm
    subst hjq
    refine lv_aload_n hx hb dX7_ofWarden_36 rfl (lv_at hl 0 rfl) ?_
    refine g_get hx hb hts hown inA7 hK hP 0 (by decide) rfl rfl 0 (by decide) tw760 rfl (v := .ref (b 1)) rfl dX7_ofWarden_37 ?_
    refine lv_bipush (v := 48) hx hb dX7_ofWarden_40 (by decide) ?_
    refine lv_iload_n hx hb dX7_ofWarden_42 rfl (lv_at hl 1 rfl) ?_
    refine lv_iadd hx hb dX7_ofWarden_43 ?_
    refine lv_as (y := nI (48 + w)) (nI_add2 (p := 48) (q := w) rfl rfl) ?_
    refine g_iald hx hb hK hP 1 (by decide) rfl (48 + w) rfl (by omega) (by decide) dX7_ofWarden_44 (v := s 7 w) ((fl_g7 (s := s) (d := w) (by omega)).trans rfl) ?_
    exact ro_ir hx hb hr rfl hlocks rfl dX7_ofWarden_45
  · skip
    have sw1n : ¬ ix = 0 := fun hq0 => sw1 ((nI_eq2 (p := ix) (q := 0) rfl rfl (by omega) (by omega)).mpr hq0)
    by_cases sw2 : nI ix = 1
    · skip
      refine lv_tableIn (tgt := 46) hx hb dX7_ofWarden_1 (by first | (rw [sw2]; done) | (rw [sw2]; decide)) (by first | (rw [sw2]; done) | (rw [sw2]; decide)) (off := 45) (by first | (rw [sw2]; done) | (rw [sw2]; decide)) (by decide) ?_
      have hjq : 1 = ix := ((nI_eq2 (p := ix) (q := 1) rfl rfl (by omega) (by omega)).mp sw2).symm
      subst hjq
      refine lv_aload_n hx hb dX7_ofWarden_46 rfl (lv_at hl 0 rfl) ?_
      refine g_get hx hb hts hown inA7 hK hP 0 (by decide) rfl rfl 0 (by decide) tw760 rfl (v := .ref (b 1)) rfl dX7_ofWarden_47 ?_
      refine lv_bipush (v := 55) hx hb dX7_ofWarden_50 (by decide) ?_
      refine lv_iload_n hx hb dX7_ofWarden_52 rfl (lv_at hl 1 rfl) ?_
      refine lv_iadd hx hb dX7_ofWarden_53 ?_
      refine lv_as (y := nI (55 + w)) (nI_add2 (p := 55) (q := w) rfl rfl) ?_
      refine g_iald hx hb hK hP 1 (by decide) rfl (55 + w) rfl (by omega) (by decide) dX7_ofWarden_54 (v := s 8 w) ((fl_g8 (s := s) (d := w) (by omega)).trans rfl) ?_
      exact ro_ir hx hb hr rfl hlocks rfl dX7_ofWarden_55
    · skip
      have sw2n : ¬ ix = 1 := fun hq0 => sw2 ((nI_eq2 (p := ix) (q := 1) rfl rfl (by omega) (by omega)).mpr hq0)
      by_cases sw3 : nI ix = 2
      · skip
        refine lv_tableIn (tgt := 56) hx hb dX7_ofWarden_1 (by first | (rw [sw3]; done) | (rw [sw3]; decide)) (by first | (rw [sw3]; done) | (rw [sw3]; decide)) (off := 55) (by first | (rw [sw3]; done) | (rw [sw3]; decide)) (by decide) ?_
        have hjq : 2 = ix := ((nI_eq2 (p := ix) (q := 2) rfl rfl (by omega) (by omega)).mp sw3).symm
        subst hjq
        refine lv_aload_n hx hb dX7_ofWarden_56 rfl (lv_at hl 0 rfl) ?_
        refine lv_iload_n hx hb dX7_ofWarden_57 rfl (lv_at hl 1 rfl) ?_
        refine ro_i (va_runV (As := [.int (nI w)]) (rest := []) ⟨hx, hb, hml, hown, hts⟩ (m_X7_word l D cI cS b s kp hf sc ad bf w (by omega)) (cwV 1 hts (gV tw845 tw842 tw844 ts30 tw8) rfl rfl rfl (by decide +kernel) ⟨Nat.le_of_ble_eq_true rfl, Nat.le_of_ble_eq_true rfl⟩) (pvR 0 hK hP (by decide) rfl rfl) rfl rfl hl.1 rfl (lv_room (Nat.le_of_ble_eq_true rfl)) dX7_ofWarden_58 ⟨Nat.le_of_ble_eq_true rfl, Nat.le_of_ble_eq_true rfl⟩) (fun r5 hr4 => ?_)
        subst hr4
        exact ro_ir hx hb hr rfl hlocks rfl dX7_ofWarden_61
      · skip
        have sw3n : ¬ ix = 2 := fun hq0 => sw3 ((nI_eq2 (p := ix) (q := 2) rfl rfl (by omega) (by omega)).mpr hq0)
        by_cases sw7 : nI ix = 3
        · skip
          refine lv_tableIn (tgt := 62) hx hb dX7_ofWarden_1 (by first | (rw [sw7]; done) | (rw [sw7]; decide)) (by first | (rw [sw7]; done) | (rw [sw7]; decide)) (off := 61) (by first | (rw [sw7]; done) | (rw [sw7]; decide)) (by decide) ?_
          have hjq : 3 = ix := ((nI_eq2 (p := ix) (q := 3) rfl rfl (by omega) (by omega)).mp sw7).symm
          subst hjq
          refine lv_aload_n hx hb dX7_ofWarden_62 rfl (lv_at hl 0 rfl) ?_
          refine g_get hx hb hts hown inA7 hK hP 0 (by decide) rfl rfl 0 (by decide) tw760 rfl (v := .ref (b 1)) rfl dX7_ofWarden_63 ?_
          refine lv_bipush (v := 62) hx hb dX7_ofWarden_66 (by decide) ?_
          refine lv_iload_n hx hb dX7_ofWarden_68 rfl (lv_at hl 1 rfl) ?_
          refine lv_iadd hx hb dX7_ofWarden_69 ?_
          refine lv_as (y := nI (62 + w)) (nI_add2 (p := 62) (q := w) rfl rfl) ?_
          refine g_iald hx hb hK hP 1 (by decide) rfl (62 + w) rfl (by omega) (by decide) dX7_ofWarden_70 (v := s 9 w) ((fl_g9 (s := s) (d := w) (by omega)).trans rfl) ?_
          exact ro_ir hx hb hr rfl hlocks rfl dX7_ofWarden_71
        · skip
          have sw7n : ¬ ix = 3 := fun hq0 => sw7 ((nI_eq2 (p := ix) (q := 3) rfl rfl (by omega) (by omega)).mpr hq0)
          by_cases sw8 : nI ix = 4
          · skip
            refine lv_tableIn (tgt := 72) hx hb dX7_ofWarden_1 (by first | (rw [sw8]; done) | (rw [sw8]; decide)) (by first | (rw [sw8]; done) | (rw [sw8]; decide)) (off := 71) (by first | (rw [sw8]; done) | (rw [sw8]; decide)) (by decide) ?_
            have hjq : 4 = ix := ((nI_eq2 (p := ix) (q := 4) rfl rfl (by omega) (by omega)).mp sw8).symm
            subst hjq
            refine lv_aload_n hx hb dX7_ofWarden_72 rfl (lv_at hl 0 rfl) ?_
            refine lv_iload_n hx hb dX7_ofWarden_73 rfl (lv_at hl 1 rfl) ?_
            refine ro_i (va_runV (As := [.int (nI w)]) (rest := []) ⟨hx, hb, hml, hown, hts⟩ (m_X7_placeOf l D cI cS b s kp hf sc ad bf w (by omega)) (cwV 1 hts (gV tw958 tw955 tw957 ts42 tw8) rfl rfl rfl (by decide +kernel) ⟨Nat.le_of_ble_eq_true rfl, Nat.le_of_ble_eq_true rfl⟩) (pvR 0 hK hP (by decide) rfl rfl) rfl rfl hl.1 rfl (lv_room (Nat.le_of_ble_eq_true rfl)) dX7_ofWarden_74 ⟨Nat.le_of_ble_eq_true rfl, Nat.le_of_ble_eq_true rfl⟩) (fun r10 hr9 => ?_)
            subst hr9
            exact ro_ir hx hb hr rfl hlocks rfl dX7_ofWarden_77
          · skip
            have sw8n : ¬ ix = 4 := fun hq0 => sw8 ((nI_eq2 (p := ix) (q := 4) rfl rfl (by omega) (by omega)).mpr hq0)
            refine lv_tableOut (tgt := 78) hx hb dX7_ofWarden_1 (by have := lv_neT sw1 (a := 0) (by decide); have := lv_neT sw2 (a := 1) (by decide); have := lv_neT sw3 (a := 2) (by decide); have := lv_neT sw7 (a := 3) (by decide); have := lv_neT sw8 (a := 4) (by decide); omega) (by decide) ?_
            have hjq : 5 = ix := by omega
            subst hjq
            refine lv_aload_n hx hb dX7_ofWarden_78 rfl (lv_at hl 0 rfl) ?_
            refine lv_iload_n hx hb dX7_ofWarden_79 rfl (lv_at hl 1 rfl) ?_
            refine ro_i (va_runV (As := [.int (nI w)]) (rest := []) ⟨hx, hb, hml, hown, hts⟩ (m_X7_quarrel l D cI cS b s kp hf sc ad bf w (by omega)) (cwV 1 hts (gV tw849 tw846 tw848 ts31 tw8) rfl rfl rfl (by decide +kernel) ⟨Nat.le_of_ble_eq_true rfl, Nat.le_of_ble_eq_true rfl⟩) (pvR 0 hK hP (by decide) rfl rfl) rfl rfl hl.1 rfl (lv_room (Nat.le_of_ble_eq_true rfl)) dX7_ofWarden_80 ⟨Nat.le_of_ble_eq_true rfl, Nat.le_of_ble_eq_true rfl⟩) (fun r13 hr12 => ?_)
            subst hr12
            refine lv_bI (fun c15 => ?_) (fun c15 => ?_)
            · skip
              refine lv_if_eq (tgt := 90) hx hb dX7_ofWarden_83 (by decide) (fun h0 => absurd h0 (by decide)) (fun _ => ?_)
              refine lv_iconst (v := 1) hx hb dX7_ofWarden_86 (by decide) ?_
              refine lv_goto (tgt := 91) hx hb dX7_ofWarden_87 (by decide) ?_
              refine lv_aload_n hx hb dX7_ofWarden_91 rfl (lv_at hl 0 rfl) ?_
              refine lv_iload_n hx hb dX7_ofWarden_92 rfl (lv_at hl 1 rfl) ?_
              refine lv_bipush (v := 7) hx hb dX7_ofWarden_93 (by decide) ?_
              refine lv_iadd hx hb dX7_ofWarden_95 ?_
              refine lv_as (y := nI (w + 7)) (nI_add2 (p := w) (q := 7) rfl rfl) ?_
              refine lv_iconst (v := 1) hx hb dX7_ofWarden_96 (by decide) ?_
              refine lv_isub hx hb dX7_ofWarden_97 ?_
              refine lv_as (y := nI (w + 7 - 1)) (nI_sub2 (p := w + 7) (q := 1) rfl rfl (by omega)) ?_
              refine lv_bipush (v := 7) hx hb dX7_ofWarden_98 (by decide) ?_
              refine lv_irem hx hb dX7_ofWarden_100 (by decide) ?_
              refine lv_as (y := nI ((w + 7 - 1) % 7)) (nI_rem2 (p := w + 7 - 1) (q := 7) rfl rfl (by omega) (by omega) (by omega)) ?_
              have hbf := befN_lt hw
              refine lv_as (y := nI (befN w)) (by rw [show (w + 7 - 1) % 7 = befN w by unfold befN; split <;> omega]) ?_
              refine ro_i (va_runV (As := [.int (nI (befN w))]) (rest := [.int 1]) ⟨hx, hb, hml, hown, hts⟩ (m_X7_quarrel l D cI cS b s kp hf sc ad bf (befN w) (by omega)) (cwV 1 hts (gV tw849 tw846 tw848 ts31 tw8) rfl rfl rfl (by decide +kernel) ⟨Nat.le_of_ble_eq_true rfl, Nat.le_of_ble_eq_true rfl⟩) (pvR 0 hK hP (by decide) rfl rfl) rfl rfl hl.1 rfl (lv_room (Nat.le_of_ble_eq_true rfl)) dX7_ofWarden_101 ⟨Nat.le_of_ble_eq_true rfl, Nat.le_of_ble_eq_true rfl⟩) (fun r17 hr16 => ?_)
              subst hr16
              refine lv_bI (fun c19 => ?_) (fun c19 => ?_)
              · skip
                refine lv_if_eq (tgt := 111) hx hb dX7_ofWarden_104 (by decide) (fun h0 => absurd h0 (by decide)) (fun _ => ?_)
                refine lv_iconst (v := 1) hx hb dX7_ofWarden_107 (by decide) ?_
                refine lv_goto (tgt := 112) hx hb dX7_ofWarden_108 (by decide) ?_
                refine lv_iadd hx hb dX7_ofWarden_112 ?_
                refine lv_as (y := 2) (by decide) ?_
                exact ro_ir hx hb hr rfl hlocks (by show _ = (if quarB s w then (1 : Int32) else 0) + (if quarB s (befN w) then 1 else 0); rw [if_pos c15, if_pos c19]; rfl) dX7_ofWarden_113
              · skip
                refine lv_if_eq (tgt := 111) hx hb dX7_ofWarden_104 (by decide) (fun _ => ?_) (fun h0 => absurd (by decide) h0)
                refine lv_iconst (v := 0) hx hb dX7_ofWarden_111 (by decide) ?_
                refine lv_iadd hx hb dX7_ofWarden_112 ?_
                refine lv_as (y := 1) (by decide) ?_
                exact ro_ir hx hb hr rfl hlocks (by show _ = (if quarB s w then (1 : Int32) else 0) + (if quarB s (befN w) then 1 else 0); rw [if_pos c15, if_neg c19]; rfl) dX7_ofWarden_113
            · skip
              refine lv_if_eq (tgt := 90) hx hb dX7_ofWarden_83 (by decide) (fun _ => ?_) (fun h0 => absurd (by decide) h0)
              refine lv_iconst (v := 0) hx hb dX7_ofWarden_90 (by decide) ?_
              refine lv_aload_n hx hb dX7_ofWarden_91 rfl (lv_at hl 0 rfl) ?_
              refine lv_iload_n hx hb dX7_ofWarden_92 rfl (lv_at hl 1 rfl) ?_
              refine lv_bipush (v := 7) hx hb dX7_ofWarden_93 (by decide) ?_
              refine lv_iadd hx hb dX7_ofWarden_95 ?_
              refine lv_as (y := nI (w + 7)) (nI_add2 (p := w) (q := 7) rfl rfl) ?_
              refine lv_iconst (v := 1) hx hb dX7_ofWarden_96 (by decide) ?_
              refine lv_isub hx hb dX7_ofWarden_97 ?_
              refine lv_as (y := nI (w + 7 - 1)) (nI_sub2 (p := w + 7) (q := 1) rfl rfl (by omega)) ?_
              refine lv_bipush (v := 7) hx hb dX7_ofWarden_98 (by decide) ?_
              refine lv_irem hx hb dX7_ofWarden_100 (by decide) ?_
              refine lv_as (y := nI ((w + 7 - 1) % 7)) (nI_rem2 (p := w + 7 - 1) (q := 7) rfl rfl (by omega) (by omega) (by omega)) ?_
              have hbf := befN_lt hw
              refine lv_as (y := nI (befN w)) (by rw [show (w + 7 - 1) % 7 = befN w by unfold befN; split <;> omega]) ?_
              refine ro_i (va_runV (As := [.int (nI (befN w))]) (rest := [.int 0]) ⟨hx, hb, hml, hown, hts⟩ (m_X7_quarrel l D cI cS b s kp hf sc ad bf (befN w) (by omega)) (cwV 1 hts (gV tw849 tw846 tw848 ts31 tw8) rfl rfl rfl (by decide +kernel) ⟨Nat.le_of_ble_eq_true rfl, Nat.le_of_ble_eq_true rfl⟩) (pvR 0 hK hP (by decide) rfl rfl) rfl rfl hl.1 rfl (lv_room (Nat.le_of_ble_eq_true rfl)) dX7_ofWarden_101 ⟨Nat.le_of_ble_eq_true rfl, Nat.le_of_ble_eq_true rfl⟩) (fun r21 hr20 => ?_)
              subst hr20
              refine lv_bI (fun c23 => ?_) (fun c23 => ?_)
              · skip
                refine lv_if_eq (tgt := 111) hx hb dX7_ofWarden_104 (by decide) (fun h0 => absurd h0 (by decide)) (fun _ => ?_)
                refine lv_iconst (v := 1) hx hb dX7_ofWarden_107 (by decide) ?_
                refine lv_goto (tgt := 112) hx hb dX7_ofWarden_108 (by decide) ?_
                refine lv_iadd hx hb dX7_ofWarden_112 ?_
                refine lv_as (y := 1) (by decide) ?_
                exact ro_ir hx hb hr rfl hlocks (by show _ = (if quarB s w then (1 : Int32) else 0) + (if quarB s (befN w) then 1 else 0); rw [if_neg c15, if_pos c23]; rfl) dX7_ofWarden_113
              · skip
                refine lv_if_eq (tgt := 111) hx hb dX7_ofWarden_104 (by decide) (fun _ => ?_) (fun h0 => absurd (by decide) h0)
                refine lv_iconst (v := 0) hx hb dX7_ofWarden_111 (by decide) ?_
                refine lv_iadd hx hb dX7_ofWarden_112 ?_
                refine lv_as (y := 0) (by decide) ?_
                exact ro_ir hx hb hr rfl hlocks (by show _ = (if quarB s w then (1 : Int32) else 0) + (if quarB s (befN w) then 1 else 0); rw [if_neg c15, if_neg c23]; rfl) dX7_ofWarden_113

set_option maxHeartbeats 4000000 in
set_option maxRecDepth 100000 in
theorem m_X7_all (l : Launch) (D : va_G) (cI cS : ClassId) (b : Nat → Nat) (s kp : St) (hf : Nat → St) (sc ad bf : Nat → Int32) (o : Nat) (ho : o ≤ 62) : Met l yX7_all (.code yX7_all cX7_all 4 (some .int) :: wsA) ({ frames := 0, cells := 0, slots := 0, locals := 0 } : Room) (va_Pc [.ref (b 0), .int (nI o)] (PR D cI cS 6 b (emC cI b (mdl s kp hf sc ad bf)))) (vp_Si (fun r => r = sumN (fun k => fl s (o + k)) 7)) 0 0 (fun _ => False) := by
  refine mgo (by decide) (Nat.le_of_ble_eq_true rfl) ?_
  intro p e z m below meth c hx hb hr hml hown hts hlocks hB ls hl
  obtain ⟨hP, hK⟩ := hB
  have hl : lv_has ls 4 [(0, .ref (b 0)), (1, .int (nI o))] := hl
  refine lv_iconst (v := 0) hx hb dX7_all_0 (by decide) ?_
  refine lv_istore_n (lv' := [(2, .int 0), (0, .ref (b 0)), (1, .int (nI o))]) hx hb dX7_all_1 rfl hl (by decide) rfl (fun ls hl => ?_)
  refine lv_iconst (v := 0) hx hb dX7_all_2 (by decide) ?_
  refine lv_istore_n (lv' := [(3, .int 0), (2, .int 0), (0, .ref (b 0)), (1, .int (nI o))]) hx hb dX7_all_3 rfl hl (by decide) rfl (fun ls hl => ?_)
  have loop4 : ∀ (fu : Nat) (j : Nat) (x : Int32), 7 + 1 ≤ j + fu → (j ≤ 7) → (x = sumN (fun k => fl s (o + k)) j) → ∀ ls : Array Slot, lv_has ls 4 [(0, .ref (b 0)), (1, .int (nI o)), (2, .int x), (3, .int (nI j))] → W p l e ({ frames := 0, cells := 0, slots := 0, locals := 0 } : Room) z m ([.ref (b 0), .int (nI o)] : List Value).toArray below meth c z.heap [] 0 0 (MQ below (vp_Si (fun r => r = sumN (fun k => fl s (o + k)) 7)) ([.ref (b 0), .int (nI o)] : List Value).toArray z 0 0 (fun _ => False)) (F0 m 4 ls []) := by
    intro fu
    induction fu with
    | zero => intro j x hn hj hx1; exact absurd hn (by omega)
    | succ fu ih4 =>
      intro j x hn hj hx1 ls hl
      refine lv_iload_n hx hb dX7_all_4 rfl (lv_at hl 3 rfl) ?_
      refine lv_bipush (v := 7) hx hb dX7_all_5 (by decide) ?_
      refine lv_icmp_ge (tgt := 27) hx hb dX7_all_7 (by decide) (fun c1 => ?_) (fun c1 => ?_)
      · skip
        have c1x := Int32.not_lt.mpr c1
        have c1n := (nI_le2 (p := 7) (q := j) rfl rfl (by omega) (by omega)).mp c1
        have c1n : 7 ≤ j := c1n
        have hjq : 7 = j := by omega
        subst hjq
        refine lv_iload_n hx hb dX7_all_27 rfl (lv_at hl 2 rfl) ?_
        exact ro_ir hx hb hr rfl hlocks hx1 dX7_all_28
      · skip
        have c1x := Int32.not_le.mp c1
        have c1n := fun hq0 => c1 ((nI_le2 (p := 7) (q := j) rfl rfl (by omega) (by omega)).mpr hq0)
        have c1n : ¬ (7 ≤ j) := c1n
        refine lv_iload_n hx hb dX7_all_10 rfl (lv_at hl 2 rfl) ?_
        refine lv_aload_n hx hb dX7_all_11 rfl (lv_at hl 0 rfl) ?_
        refine g_get hx hb hts hown inA7 hK hP 0 (by decide) rfl rfl 0 (by decide) tw760 rfl (v := .ref (b 1)) rfl dX7_all_12 ?_
        refine lv_iload_n hx hb dX7_all_15 rfl (lv_at hl 1 rfl) ?_
        refine lv_iload_n hx hb dX7_all_16 rfl (lv_at hl 3 rfl) ?_
        refine lv_iadd hx hb dX7_all_17 ?_
        refine lv_as (y := nI (o + j)) (nI_add2 (p := o) (q := j) rfl rfl) ?_
        refine g_iald hx hb hK hP 1 (by decide) rfl (o + j) rfl (by omega) (by decide) dX7_all_18 (v := fl s (o + j)) rfl ?_
        refine lv_iadd hx hb dX7_all_19 ?_
        refine lv_istore_n (lv' := [(2, .int (x + (fl s (o + j)))), (0, .ref (b 0)), (1, .int (nI o)), (3, .int (nI j))]) hx hb dX7_all_20 rfl hl (by decide) rfl (fun ls hl => ?_)
        refine lv_iinc (v := nI (j + 1)) (lv' := [(3, .int (nI (j + 1))), (2, .int (x + (fl s (o + j)))), (0, .ref (b 0)), (1, .int (nI o))]) hx hb dX7_all_21 hl (k := 3) rfl (nI_add j 1) (by decide) rfl (fun ls hl => ?_)
        refine lv_goto (tgt := 4) hx hb dX7_all_24 (by decide) ?_
        exact ih4 (j + 1) (x + (fl s (o + j))) (by omega) (by omega) (by rw [sumN, ← hx1]) ls (lv_sub hl [2, 3, 1, 0] rfl)
  exact loop4 (7 + 1) 0 0 (by omega) (by omega) rfl ls (lv_sub hl [2, 3, 1, 0] rfl)

set_option maxHeartbeats 4000000 in
set_option maxRecDepth 100000 in
theorem m_X7_number (l : Launch) (D : va_G) (cI cS : ClassId) (b : Nat → Nat) (s kp : St) (hf : Nat → St) (sc ad bf : Nat → Int32) (T : Int) (hBd : Bd T s) (hT : T ≤ 200000000) (kn : Nat) (hkn : kn ≤ 6) (hk0 : sc 0 = nI kn) (ix : Nat) (hq : ix < 14) : Met l yX7_number (.code yX7_number cX7_number 2 (some .int) :: wsA) ({ frames := 3, cells := 0, slots := 0, locals := 65 } : Room) (va_Pc [.ref (b 0), .int (nI ix)] (PR D cI cS 6 b (emC cI b (mdl s kp hf sc ad bf)))) (vp_Si (fun r => r = counN s kn ix)) 0 0 (fun _ => False) := by
  refine mgo (by decide) (Nat.le_of_ble_eq_true rfl) ?_
  intro p e z m below meth c hx hb hr hml hown hts hlocks hB ls hl
  obtain ⟨hP, hK⟩ := hB
  have hl : lv_has ls 2 [(0, .ref (b 0)), (1, .int (nI ix))] := hl
  refine lv_iload_n hx hb dX7_number_0 rfl (lv_at hl 1 rfl) ?_
  by_cases sw1 : nI ix = 0
  · skip
    refine lv_tableIn (tgt := 68) hx hb dX7_number_1 (by first | (rw [sw1]; done) | (rw [sw1]; decide)) (by first | (rw [sw1]; done) | (rw [sw1]; decide)) (off := 67) (by first | (rw [sw1]; done) | (rw [sw1]; decide)) (by decide) ?_
    have hjq : 0 = ix := ((nI_eq2 (p := ix) (q := 0) rfl rfl (by omega) (by omega)).mp sw1).symm
    subst hjq
    refine lv_aload_n hx hb dX7_number_68 rfl (lv_at hl 0 rfl) ?_
    refine g_get hx hb hts hown inA7 hK hP 0 (by decide) rfl rfl 0 (by decide) tw760 rfl (v := .ref (b 1)) rfl dX7_number_69 ?_
    refine lv_iconst (v := 0) hx hb dX7_number_72 (by decide) ?_
    refine g_iald hx hb hK hP 1 (by decide) rfl 0 rfl (by omega) (by decide) dX7_number_73 (v := s 0 0) ((fl_g0 (s := s) (d := 0) (by omega)).trans rfl) ?_
    exact ro_ir hx hb hr rfl hlocks rfl dX7_number_74
  · skip
    have sw1n : ¬ ix = 0 := fun hq0 => sw1 ((nI_eq2 (p := ix) (q := 0) rfl rfl (by omega) (by omega)).mpr hq0)
    by_cases sw2 : nI ix = 1
    · skip
      refine lv_tableIn (tgt := 75) hx hb dX7_number_1 (by first | (rw [sw2]; done) | (rw [sw2]; decide)) (by first | (rw [sw2]; done) | (rw [sw2]; decide)) (off := 74) (by first | (rw [sw2]; done) | (rw [sw2]; decide)) (by decide) ?_
      have hjq : 1 = ix := ((nI_eq2 (p := ix) (q := 1) rfl rfl (by omega) (by omega)).mp sw2).symm
      subst hjq
      refine lv_aload_n hx hb dX7_number_75 rfl (lv_at hl 0 rfl) ?_
      refine g_get hx hb hts hown inA7 hK hP 0 (by decide) rfl rfl 0 (by decide) tw760 rfl (v := .ref (b 1)) rfl dX7_number_76 ?_
      refine lv_iconst (v := 1) hx hb dX7_number_79 (by decide) ?_
      refine g_iald hx hb hK hP 1 (by decide) rfl 1 rfl (by omega) (by decide) dX7_number_80 (v := s 0 1) ((fl_g0 (s := s) (d := 1) (by omega)).trans rfl) ?_
      exact ro_ir hx hb hr rfl hlocks rfl dX7_number_81
    · skip
      have sw2n : ¬ ix = 1 := fun hq0 => sw2 ((nI_eq2 (p := ix) (q := 1) rfl rfl (by omega) (by omega)).mpr hq0)
      by_cases sw3 : nI ix = 2
      · skip
        refine lv_tableIn (tgt := 82) hx hb dX7_number_1 (by first | (rw [sw3]; done) | (rw [sw3]; decide)) (by first | (rw [sw3]; done) | (rw [sw3]; decide)) (off := 81) (by first | (rw [sw3]; done) | (rw [sw3]; decide)) (by decide) ?_
        have hjq : 2 = ix := ((nI_eq2 (p := ix) (q := 2) rfl rfl (by omega) (by omega)).mp sw3).symm
        subst hjq
        refine lv_aload_n hx hb dX7_number_82 rfl (lv_at hl 0 rfl) ?_
        refine ro_i (va_runV (As := []) (rest := []) ⟨hx, hb, hml, hown, hts⟩ (m_X7_middle l D cI cS b s kp hf sc ad bf T hBd (by omega)) (cwV 0 hts (gV tw841 tw838 tw840 ts29 tw8) rfl rfl rfl (by decide +kernel) ⟨Nat.le_of_ble_eq_true rfl, Nat.le_of_ble_eq_true rfl⟩) (pvR 0 hK hP (by decide) rfl rfl) rfl rfl hl.1 rfl (lv_room (Nat.le_of_ble_eq_true rfl)) dX7_number_83 ⟨Nat.le_of_ble_eq_true rfl, Nat.le_of_ble_eq_true rfl⟩) (fun r5 hr4 => ?_)
        subst hr4
        exact ro_ir hx hb hr rfl hlocks rfl dX7_number_86
      · skip
        have sw3n : ¬ ix = 2 := fun hq0 => sw3 ((nI_eq2 (p := ix) (q := 2) rfl rfl (by omega) (by omega)).mpr hq0)
        by_cases sw7 : nI ix = 3
        · skip
          refine lv_tableIn (tgt := 82) hx hb dX7_number_1 (by first | (rw [sw7]; done) | (rw [sw7]; decide)) (by first | (rw [sw7]; done) | (rw [sw7]; decide)) (off := 81) (by first | (rw [sw7]; done) | (rw [sw7]; decide)) (by decide) ?_
          have hjq : 3 = ix := ((nI_eq2 (p := ix) (q := 3) rfl rfl (by omega) (by omega)).mp sw7).symm
          subst hjq
          refine lv_aload_n hx hb dX7_number_82 rfl (lv_at hl 0 rfl) ?_
          refine ro_i (va_runV (As := []) (rest := []) ⟨hx, hb, hml, hown, hts⟩ (m_X7_middle l D cI cS b s kp hf sc ad bf T hBd (by omega)) (cwV 0 hts (gV tw841 tw838 tw840 ts29 tw8) rfl rfl rfl (by decide +kernel) ⟨Nat.le_of_ble_eq_true rfl, Nat.le_of_ble_eq_true rfl⟩) (pvR 0 hK hP (by decide) rfl rfl) rfl rfl hl.1 rfl (lv_room (Nat.le_of_ble_eq_true rfl)) dX7_number_83 ⟨Nat.le_of_ble_eq_true rfl, Nat.le_of_ble_eq_true rfl⟩) (fun r9 hr8 => ?_)
          subst hr8
          exact ro_ir hx hb hr rfl hlocks (mid_A hBd) dX7_number_86
        · skip
          have sw7n : ¬ ix = 3 := fun hq0 => sw7 ((nI_eq2 (p := ix) (q := 3) rfl rfl (by omega) (by omega)).mpr hq0)
          by_cases sw11 : nI ix = 4
          · skip
            refine lv_tableIn (tgt := 87) hx hb dX7_number_1 (by first | (rw [sw11]; done) | (rw [sw11]; decide)) (by first | (rw [sw11]; done) | (rw [sw11]; decide)) (off := 86) (by first | (rw [sw11]; done) | (rw [sw11]; decide)) (by decide) ?_
            have hjq : 4 = ix := ((nI_eq2 (p := ix) (q := 4) rfl rfl (by omega) (by omega)).mp sw11).symm
            subst hjq
            refine lv_aload_n hx hb dX7_number_87 rfl (lv_at hl 0 rfl) ?_
            refine ro_i (va_runV (As := []) (rest := []) ⟨hx, hb, hml, hown, hts⟩ (m_X7_weights l D cI cS b s kp hf sc ad bf) (cwV 0 hts (gV tw833 tw830 tw832 ts27 tw8) rfl rfl rfl (by decide +kernel) ⟨Nat.le_of_ble_eq_true rfl, Nat.le_of_ble_eq_true rfl⟩) (pvR 0 hK hP (by decide) rfl rfl) rfl rfl hl.1 rfl (lv_room (Nat.le_of_ble_eq_true rfl)) dX7_number_88 ⟨Nat.le_of_ble_eq_true rfl, Nat.le_of_ble_eq_true rfl⟩) (fun r13 hr12 => ?_)
            subst hr12
            exact ro_ir hx hb hr rfl hlocks rfl dX7_number_91
          · skip
            have sw11n : ¬ ix = 4 := fun hq0 => sw11 ((nI_eq2 (p := ix) (q := 4) rfl rfl (by omega) (by omega)).mpr hq0)
            by_cases sw15 : nI ix = 5
            · skip
              refine lv_tableIn (tgt := 92) hx hb dX7_number_1 (by first | (rw [sw15]; done) | (rw [sw15]; decide)) (by first | (rw [sw15]; done) | (rw [sw15]; decide)) (off := 91) (by first | (rw [sw15]; done) | (rw [sw15]; decide)) (by decide) ?_
              have hjq : 5 = ix := ((nI_eq2 (p := ix) (q := 5) rfl rfl (by omega) (by omega)).mp sw15).symm
              subst hjq
              refine lv_aload_n hx hb dX7_number_92 rfl (lv_at hl 0 rfl) ?_
              refine ro_i (va_runV (As := []) (rest := []) ⟨hx, hb, hml, hown, hts⟩ (m_X7_quarrels l D cI cS b s kp hf sc ad bf) (cwV 0 hts (gV tw970 tw967 tw969 ts44 tw8) rfl rfl rfl (by decide +kernel) ⟨Nat.le_of_ble_eq_true rfl, Nat.le_of_ble_eq_true rfl⟩) (pvR 0 hK hP (by decide) rfl rfl) rfl rfl hl.1 rfl (lv_room (Nat.le_of_ble_eq_true rfl)) dX7_number_93 ⟨Nat.le_of_ble_eq_true rfl, Nat.le_of_ble_eq_true rfl⟩) (fun r17 hr16 => ?_)
              subst hr16
              exact ro_ir hx hb hr rfl hlocks rfl dX7_number_96
            · skip
              have sw15n : ¬ ix = 5 := fun hq0 => sw15 ((nI_eq2 (p := ix) (q := 5) rfl rfl (by omega) (by omega)).mpr hq0)
              by_cases sw19 : nI ix = 6
              · skip
                refine lv_tableIn (tgt := 97) hx hb dX7_number_1 (by first | (rw [sw19]; done) | (rw [sw19]; decide)) (by first | (rw [sw19]; done) | (rw [sw19]; decide)) (off := 96) (by first | (rw [sw19]; done) | (rw [sw19]; decide)) (by decide) ?_
                have hjq : 6 = ix := ((nI_eq2 (p := ix) (q := 6) rfl rfl (by omega) (by omega)).mp sw19).symm
                subst hjq
                refine lv_aload_n hx hb dX7_number_97 rfl (lv_at hl 0 rfl) ?_
                refine g_get hx hb hts hown inA7 hK hP 0 (by decide) rfl rfl 0 (by decide) tw760 rfl (v := .ref (b 1)) rfl dX7_number_98 ?_
                refine lv_iconst (v := 4) hx hb dX7_number_101 (by decide) ?_
                refine g_iald hx hb hK hP 1 (by decide) rfl 4 rfl (by omega) (by decide) dX7_number_102 (v := s 0 2) ((fl_gv (s := s) (d := 0) (by omega)).trans rfl) ?_
                exact ro_ir hx hb hr rfl hlocks rfl dX7_number_103
              · skip
                have sw19n : ¬ ix = 6 := fun hq0 => sw19 ((nI_eq2 (p := ix) (q := 6) rfl rfl (by omega) (by omega)).mpr hq0)
                by_cases sw20 : nI ix = 7
                · skip
                  refine lv_tableIn (tgt := 104) hx hb dX7_number_1 (by first | (rw [sw20]; done) | (rw [sw20]; decide)) (by first | (rw [sw20]; done) | (rw [sw20]; decide)) (off := 103) (by first | (rw [sw20]; done) | (rw [sw20]; decide)) (by decide) ?_
                  have hjq : 7 = ix := ((nI_eq2 (p := ix) (q := 7) rfl rfl (by omega) (by omega)).mp sw20).symm
                  subst hjq
                  refine lv_aload_n hx hb dX7_number_104 rfl (lv_at hl 0 rfl) ?_
                  refine g_get hx hb hts hown inA7 hK hP 0 (by decide) rfl rfl 0 (by decide) tw760 rfl (v := .ref (b 1)) rfl dX7_number_105 ?_
                  refine lv_iconst (v := 5) hx hb dX7_number_108 (by decide) ?_
                  refine g_iald hx hb hK hP 1 (by decide) rfl 5 rfl (by omega) (by decide) dX7_number_109 (v := s 0 3) ((fl_gv (s := s) (d := 1) (by omega)).trans rfl) ?_
                  exact ro_ir hx hb hr rfl hlocks rfl dX7_number_110
                · skip
                  have sw20n : ¬ ix = 7 := fun hq0 => sw20 ((nI_eq2 (p := ix) (q := 7) rfl rfl (by omega) (by omega)).mpr hq0)
                  by_cases sw21 : nI ix = 8
                  · skip
                    refine lv_tableIn (tgt := 111) hx hb dX7_number_1 (by first | (rw [sw21]; done) | (rw [sw21]; decide)) (by first | (rw [sw21]; done) | (rw [sw21]; decide)) (off := 110) (by first | (rw [sw21]; done) | (rw [sw21]; decide)) (by decide) ?_
                    have hjq : 8 = ix := ((nI_eq2 (p := ix) (q := 8) rfl rfl (by omega) (by omega)).mp sw21).symm
                    subst hjq
                    refine lv_aload_n hx hb dX7_number_111 rfl (lv_at hl 0 rfl) ?_
                    refine lv_bipush (v := 20) hx hb dX7_number_112 (by decide) ?_
                    refine ro_i (va_runV (As := [.int 20]) (rest := []) ⟨hx, hb, hml, hown, hts⟩ (m_X7_all l D cI cS b s kp hf sc ad bf 20 (by omega)) (cwV 1 hts (gV tw974 tw971 tw973 ts45 tw8) rfl rfl rfl (by decide +kernel) ⟨Nat.le_of_ble_eq_true rfl, Nat.le_of_ble_eq_true rfl⟩) (pvR 0 hK hP (by decide) rfl rfl) rfl rfl hl.1 rfl (lv_room (Nat.le_of_ble_eq_true rfl)) dX7_number_114 ⟨Nat.le_of_ble_eq_true rfl, Nat.le_of_ble_eq_true rfl⟩) (fun r23 hr22 => ?_)
                    have hr22 := hr22.trans (sumN_cong 7 (fun k hk => fl_g6 hk)); subst hr22
                    exact ro_ir hx hb hr rfl hlocks rfl dX7_number_117
                  · skip
                    have sw21n : ¬ ix = 8 := fun hq0 => sw21 ((nI_eq2 (p := ix) (q := 8) rfl rfl (by omega) (by omega)).mpr hq0)
                    by_cases sw25 : nI ix = 9
                    · skip
                      refine lv_tableIn (tgt := 118) hx hb dX7_number_1 (by first | (rw [sw25]; done) | (rw [sw25]; decide)) (by first | (rw [sw25]; done) | (rw [sw25]; decide)) (off := 117) (by first | (rw [sw25]; done) | (rw [sw25]; decide)) (by decide) ?_
                      have hjq : 9 = ix := ((nI_eq2 (p := ix) (q := 9) rfl rfl (by omega) (by omega)).mp sw25).symm
                      subst hjq
                      refine lv_aload_n hx hb dX7_number_118 rfl (lv_at hl 0 rfl) ?_
                      refine lv_bipush (v := 34) hx hb dX7_number_119 (by decide) ?_
                      refine ro_i (va_runV (As := [.int 34]) (rest := []) ⟨hx, hb, hml, hown, hts⟩ (m_X7_all l D cI cS b s kp hf sc ad bf 34 (by omega)) (cwV 1 hts (gV tw974 tw971 tw973 ts45 tw8) rfl rfl rfl (by decide +kernel) ⟨Nat.le_of_ble_eq_true rfl, Nat.le_of_ble_eq_true rfl⟩) (pvR 0 hK hP (by decide) rfl rfl) rfl rfl hl.1 rfl (lv_room (Nat.le_of_ble_eq_true rfl)) dX7_number_121 ⟨Nat.le_of_ble_eq_true rfl, Nat.le_of_ble_eq_true rfl⟩) (fun r27 hr26 => ?_)
                      have hr26 := hr26.trans (sumN_cong 7 (fun k hk => fl_g4 hk)); subst hr26
                      exact ro_ir hx hb hr rfl hlocks rfl dX7_number_124
                    · skip
                      have sw25n : ¬ ix = 9 := fun hq0 => sw25 ((nI_eq2 (p := ix) (q := 9) rfl rfl (by omega) (by omega)).mpr hq0)
                      by_cases sw29 : nI ix = 10
                      · skip
                        refine lv_tableIn (tgt := 125) hx hb dX7_number_1 (by first | (rw [sw29]; done) | (rw [sw29]; decide)) (by first | (rw [sw29]; done) | (rw [sw29]; decide)) (off := 124) (by first | (rw [sw29]; done) | (rw [sw29]; decide)) (by decide) ?_
                        have hjq : 10 = ix := ((nI_eq2 (p := ix) (q := 10) rfl rfl (by omega) (by omega)).mp sw29).symm
                        subst hjq
                        refine lv_aload_n hx hb dX7_number_125 rfl (lv_at hl 0 rfl) ?_
                        refine lv_bipush (v := 41) hx hb dX7_number_126 (by decide) ?_
                        refine ro_i (va_runV (As := [.int 41]) (rest := []) ⟨hx, hb, hml, hown, hts⟩ (m_X7_all l D cI cS b s kp hf sc ad bf 41 (by omega)) (cwV 1 hts (gV tw974 tw971 tw973 ts45 tw8) rfl rfl rfl (by decide +kernel) ⟨Nat.le_of_ble_eq_true rfl, Nat.le_of_ble_eq_true rfl⟩) (pvR 0 hK hP (by decide) rfl rfl) rfl rfl hl.1 rfl (lv_room (Nat.le_of_ble_eq_true rfl)) dX7_number_128 ⟨Nat.le_of_ble_eq_true rfl, Nat.le_of_ble_eq_true rfl⟩) (fun r31 hr30 => ?_)
                        have hr30 := hr30.trans (sumN_cong 7 (fun k hk => fl_g5 hk)); subst hr30
                        exact ro_ir hx hb hr rfl hlocks rfl dX7_number_131
                      · skip
                        have sw29n : ¬ ix = 10 := fun hq0 => sw29 ((nI_eq2 (p := ix) (q := 10) rfl rfl (by omega) (by omega)).mpr hq0)
                        by_cases sw33 : nI ix = 11
                        · skip
                          refine lv_tableIn (tgt := 132) hx hb dX7_number_1 (by first | (rw [sw33]; done) | (rw [sw33]; decide)) (by first | (rw [sw33]; done) | (rw [sw33]; decide)) (off := 131) (by first | (rw [sw33]; done) | (rw [sw33]; decide)) (by decide) ?_
                          have hjq : 11 = ix := ((nI_eq2 (p := ix) (q := 11) rfl rfl (by omega) (by omega)).mp sw33).symm
                          subst hjq
                          refine lv_aload_n hx hb dX7_number_132 rfl (lv_at hl 0 rfl) ?_
                          refine ro_i (va_runV (As := []) (rest := []) ⟨hx, hb, hml, hown, hts⟩ (m_X7_wrongDials l D cI cS b s kp hf sc ad bf T hBd (by omega)) (cwV 0 hts (gV tw978 tw975 tw977 ts46 tw8) rfl rfl rfl (by decide +kernel) ⟨Nat.le_of_ble_eq_true rfl, Nat.le_of_ble_eq_true rfl⟩) (pvR 0 hK hP (by decide) rfl rfl) rfl rfl hl.1 rfl (lv_room (Nat.le_of_ble_eq_true rfl)) dX7_number_133 ⟨Nat.le_of_ble_eq_true rfl, Nat.le_of_ble_eq_true rfl⟩) (fun r35 hr34 => ?_)
                          subst hr34
                          exact ro_ir hx hb hr rfl hlocks rfl dX7_number_136
                        · skip
                          have sw33n : ¬ ix = 11 := fun hq0 => sw33 ((nI_eq2 (p := ix) (q := 11) rfl rfl (by omega) (by omega)).mpr hq0)
                          by_cases sw37 : nI ix = 12
                          · skip
                            refine lv_tableIn (tgt := 137) hx hb dX7_number_1 (by first | (rw [sw37]; done) | (rw [sw37]; decide)) (by first | (rw [sw37]; done) | (rw [sw37]; decide)) (off := 136) (by first | (rw [sw37]; done) | (rw [sw37]; decide)) (by decide) ?_
                            have hjq : 12 = ix := ((nI_eq2 (p := ix) (q := 12) rfl rfl (by omega) (by omega)).mp sw37).symm
                            subst hjq
                            refine lv_aload_n hx hb dX7_number_137 rfl (lv_at hl 0 rfl) ?_
                            refine g_get hx hb hts hown inA7 hK hP 0 (by decide) rfl rfl 0 (by decide) tw760 rfl (v := .ref (b 1)) rfl dX7_number_138 ?_
                            refine lv_iconst (v := 1) hx hb dX7_number_141 (by decide) ?_
                            refine g_iald hx hb hK hP 1 (by decide) rfl 1 rfl (by omega) (by decide) dX7_number_142 (v := s 0 1) ((fl_g0 (s := s) (d := 1) (by omega)).trans rfl) ?_
                            refine lv_aload_n hx hb dX7_number_143 rfl (lv_at hl 0 rfl) ?_
                            refine g_get hx hb hts hown inA7 hK hP 0 (by decide) rfl rfl 0 (by decide) tw760 rfl (v := .ref (b 1)) rfl dX7_number_144 ?_
                            refine lv_iconst (v := 0) hx hb dX7_number_147 (by decide) ?_
                            refine g_iald hx hb hK hP 1 (by decide) rfl 0 rfl (by omega) (by decide) dX7_number_148 (v := s 0 0) ((fl_g0 (s := s) (d := 0) (by omega)).trans rfl) ?_
                            refine lv_isub hx hb dX7_number_149 ?_
                            refine ro_i (va_runS (As := [.int ((s 0 1) - (s 0 0))]) (rest := []) ⟨hx, hb, hml, hown, hts⟩ (m_X7_size l ((s 0 1) - (s 0 0))) (va_cwS 1 hts (gS tw855 tw853 tw854 tw8) rfl rfl rfl (by decide +kernel) ⟨Nat.le_of_ble_eq_true rfl, Nat.le_of_ble_eq_true rfl⟩) ps0 rfl rfl hl.1 rfl (lv_room (Nat.le_of_ble_eq_true rfl)) dX7_number_150 ⟨Nat.le_of_ble_eq_true rfl, Nat.le_of_ble_eq_true rfl⟩) (fun r39 hr38 => ?_)
                            subst hr38
                            exact ro_ir hx hb hr rfl hlocks (abs_dist hBd.2.1.1 (hBd.2.2.2 0 (by decide) (by decide)).1) dX7_number_153
                          · skip
                            have sw37n : ¬ ix = 12 := fun hq0 => sw37 ((nI_eq2 (p := ix) (q := 12) rfl rfl (by omega) (by omega)).mpr hq0)
                            refine lv_tableOut (tgt := 154) hx hb dX7_number_1 (by have := lv_neT sw1 (a := 0) (by decide); have := lv_neT sw2 (a := 1) (by decide); have := lv_neT sw3 (a := 2) (by decide); have := lv_neT sw7 (a := 3) (by decide); have := lv_neT sw11 (a := 4) (by decide); have := lv_neT sw15 (a := 5) (by decide); have := lv_neT sw19 (a := 6) (by decide); have := lv_neT sw20 (a := 7) (by decide); have := lv_neT sw21 (a := 8) (by decide); have := lv_neT sw25 (a := 9) (by decide); have := lv_neT sw29 (a := 10) (by decide); have := lv_neT sw33 (a := 11) (by decide); have := lv_neT sw37 (a := 12) (by decide); omega) (by decide) ?_
                            have hjq : 13 = ix := by omega
                            subst hjq
                            refine lv_aload_n hx hb dX7_number_154 rfl (lv_at hl 0 rfl) ?_
                            refine g_get hx hb hts hown inA7 hK hP 0 (by decide) rfl rfl 3 (by decide) tw763 rfl (v := .int (sc 0)) rfl dX7_number_155 ?_
                            exact ro_ir hx hb hr rfl hlocks hk0 dX7_number_158

set_option maxHeartbeats 4000000 in
set_option maxRecDepth 100000 in
theorem m_X7_middleWith (l : Launch) (D : va_G) (cI cS : ClassId) (b : Nat → Nat) (s kp : St) (hf : Nat → St) (sc ad bf : Nat → Int32) (T : Int) (hBd : Bd T s) (hT : T ≤ 200000000) (w : Nat) (hw : w < 7) (x : Int32) (hx0 : 0 ≤ x.toInt ∧ x.toInt ≤ 9) (zz : Nat) : Met l yX7_middleWith (.code yX7_middleWith cX7_middleWith 5 (some .int) :: wsA) ({ frames := 2, cells := 0, slots := 0, locals := 46 } : Room) (va_Pc [.ref (b 0), .int (nI w), .int x] (PW D cI cS 6 b (emC cI b (mdl s kp hf sc ad bf)) zz)) (va_Qi (fun (r : Int32) (u : Unit) => r = midW s w x) (BW D 6 b (fun u => emC cI b (mdl s kp hf sc ad bf))) (AX 6 b zz)) 0 0 (AX 6 b zz) := by
  refine mgo (by decide) (Nat.le_of_ble_eq_true rfl) ?_
  intro p e z m below meth c hx hb hr hml hown hts hlocks hB ls hl
  obtain ⟨hsz, hP, hK, hE⟩ := hB
  subst hsz
  have hS : va_S (AX 6 b z.heap.size) z.heap z.heap [] := va_S.rf
  have hl : lv_has ls 5 [(0, .ref (b 0)), (1, .int (nI w)), (2, .int x)] := hl
  refine lv_aload_n hx hb dX7_middleWith_0 rfl (lv_at hl 0 rfl) ?_
  refine g_get hx hb hts hown inA7 hK hP 0 (by decide) rfl rfl 0 (by decide) tw760 rfl (v := .ref (b 1)) rfl dX7_middleWith_1 ?_
  refine lv_bipush (v := 48) hx hb dX7_middleWith_4 (by decide) ?_
  refine lv_iload_n hx hb dX7_middleWith_6 rfl (lv_at hl 1 rfl) ?_
  refine lv_iadd hx hb dX7_middleWith_7 ?_
  refine lv_as (y := nI (48 + w)) (nI_add2 (p := 48) (q := w) rfl rfl) ?_
  refine g_iald hx hb hK hP 1 (by decide) rfl (48 + w) rfl (by omega) (by decide) dX7_middleWith_8 (v := s 7 w) ((fl_g7 (s := s) (d := w) (by omega)).trans rfl) ?_
  refine lv_istore_n (lv' := [(3, .int (s 7 w)), (0, .ref (b 0)), (1, .int (nI w)), (2, .int x)]) hx hb dX7_middleWith_9 rfl hl (by decide) rfl (fun ls hl => ?_)
  refine lv_aload_n hx hb dX7_middleWith_10 rfl (lv_at hl 1 rfl) ?_
  refine g_get hx hb hts hown inA7 hK hP 0 (by decide) rfl rfl 0 (by decide) tw760 rfl (v := .ref (b 1)) rfl dX7_middleWith_11 ?_
  refine lv_bipush (v := 48) hx hb dX7_middleWith_14 (by decide) ?_
  refine lv_iload_n hx hb dX7_middleWith_16 rfl (lv_at hl 2 rfl) ?_
  refine lv_iadd hx hb dX7_middleWith_17 ?_
  refine lv_as (y := nI (48 + w)) (nI_add2 (p := 48) (q := w) rfl rfl) ?_
  refine lv_iload_n hx hb dX7_middleWith_18 rfl (lv_at hl 3 rfl) ?_
  refine g_iast hx hb hK hP hE hS 1 (by decide) rfl (48 + w) rfl (by omega) (by omega) dX7_middleWith_19 (ex' := emC cI b (mdl (up2 s 7 w x) kp hf sc ad bf)) (fl_e (fl_s7 (d := w) (by omega))) mm_s (fun H locs hP hS => ?_)
  refine lv_aload_n hx hb dX7_middleWith_20 rfl (lv_at hl 1 rfl) ?_
  refine ro_i (va_runV (As := []) (rest := []) ⟨hx, hb, hml, hown, hts⟩ (m_X7_middle l D cI cS b (up2 s 7 w x) kp hf sc ad bf T (hBd.wt hw hx0) (by omega)) (cwV 0 hts (gV tw841 tw838 tw840 ts29 tw8) rfl rfl rfl (by decide +kernel) ⟨Nat.le_of_ble_eq_true rfl, Nat.le_of_ble_eq_true rfl⟩) (pvR 0 hK hP (by decide) rfl rfl) rfl rfl hl.1 rfl (lv_room (Nat.le_of_ble_eq_true rfl)) dX7_middleWith_21 ⟨Nat.le_of_ble_eq_true rfl, Nat.le_of_ble_eq_true rfl⟩) (fun r2 hr1 => ?_)
  subst hr1
  refine lv_istore (lv' := [(4, .int (midI (wordA (up2 s 7 w x)) ((up2 s 7 w x) 7))), (3, .int (s 7 w)), (0, .ref (b 0)), (1, .int (nI w)), (2, .int x)]) hx hb dX7_middleWith_24 hl (by decide) rfl (fun ls hl => ?_)
  refine lv_aload_n hx hb dX7_middleWith_26 rfl (lv_at hl 2 rfl) ?_
  refine g_get hx hb hts hown inA7 hK hP 0 (by decide) rfl rfl 0 (by decide) tw760 rfl (v := .ref (b 1)) rfl dX7_middleWith_27 ?_
  refine lv_bipush (v := 48) hx hb dX7_middleWith_30 (by decide) ?_
  refine lv_iload_n hx hb dX7_middleWith_32 rfl (lv_at hl 3 rfl) ?_
  refine lv_iadd hx hb dX7_middleWith_33 ?_
  refine lv_as (y := nI (48 + w)) (nI_add2 (p := 48) (q := w) rfl rfl) ?_
  refine lv_iload_n hx hb dX7_middleWith_34 rfl (lv_at hl 1 rfl) ?_
  refine g_iast hx hb hK hP hE hS 1 (by decide) rfl (48 + w) rfl (by omega) (by omega) dX7_middleWith_35 (ex' := emC cI b (mdl (up2 (up2 s 7 w x) 7 w (s 7 w)) kp hf sc ad bf)) (fl_e (fl_s7 (d := w) (by omega))) mm_s (fun H locs hP hS => ?_)
  refine lv_iload hx hb dX7_middleWith_36 (lv_at hl 0 rfl) ?_
  have hWs : s = (up2 (up2 s 7 w x) 7 w (s 7 w)) := by exact (up2_back).symm
  have hP := hP.cast (congrArg (fun q9 => emC cI b (mdl q9 kp hf sc ad bf)) hWs)
  exact rw_ir hx hb hr rfl hlocks hS () hP midW_e.symm dX7_middleWith_38

set_option maxHeartbeats 4000000 in
set_option maxRecDepth 100000 in
theorem m_X7_matters (l : Launch) (D : va_G) (cI cS : ClassId) (b : Nat → Nat) (s kp : St) (hf : Nat → St) (sc ad bf : Nat → Int32) (T : Int) (hBd : Bd T s) (hT : T ≤ 200000000) (zz : Nat) : Met l yX7_matters (.code yX7_matters cX7_matters 7 (some .int) :: wsA) ({ frames := 3, cells := 0, slots := 0, locals := 70 } : Room) (va_Pc [.ref (b 0)] (PW D cI cS 6 b (emC cI b (mdl s kp hf sc ad bf)) zz)) (va_Qi (fun (r : Int32) (u : Unit) => r = pivI s) (BW D 6 b (fun u => emC cI b (mdl s kp hf sc ad bf))) (AX 6 b zz)) 0 0 (AX 6 b zz) := by
  refine mgo (by decide) (Nat.le_of_ble_eq_true rfl) ?_
  intro p e z m below meth c hx hb hr hml hown hts hlocks hB ls hl
  obtain ⟨hsz, hP, hK, hE⟩ := hB
  subst hsz
  have hS : va_S (AX 6 b z.heap.size) z.heap z.heap [] := va_S.rf
  have hl : lv_has ls 7 [(0, .ref (b 0))] := hl
  refine lv_aload_n hx hb dX7_matters_0 rfl (lv_at hl 0 rfl) ?_
  refine ro_i (va_runV (As := []) (rest := []) ⟨hx, hb, hml, hown, hts⟩ (m_X7_middle l D cI cS b s kp hf sc ad bf T hBd (by omega)) (cwV 0 hts (gV tw841 tw838 tw840 ts29 tw8) rfl rfl rfl (by decide +kernel) ⟨Nat.le_of_ble_eq_true rfl, Nat.le_of_ble_eq_true rfl⟩) (pvR 0 hK hP (by decide) rfl rfl) rfl rfl hl.1 rfl (lv_room (Nat.le_of_ble_eq_true rfl)) dX7_matters_1 ⟨Nat.le_of_ble_eq_true rfl, Nat.le_of_ble_eq_true rfl⟩) (fun r2 hr1 => ?_)
  subst hr1
  refine lv_istore_n (lv' := [(1, .int (midI (wordA s) (s 7))), (0, .ref (b 0))]) hx hb dX7_matters_4 rfl hl (by decide) rfl (fun ls hl => ?_)
  refine lv_iconst (v := (-1)) hx hb dX7_matters_5 (by decide) ?_
  refine lv_istore_n (lv' := [(2, .int (-1)), (1, .int (midI (wordA s) (s 7))), (0, .ref (b 0))]) hx hb dX7_matters_6 rfl hl (by decide) rfl (fun ls hl => ?_)
  refine lv_iconst (v := (-1)) hx hb dX7_matters_7 (by decide) ?_
  refine lv_istore_n (lv' := [(3, .int (-1)), (2, .int (-1)), (1, .int (midI (wordA s) (s 7))), (0, .ref (b 0))]) hx hb dX7_matters_8 rfl hl (by decide) rfl (fun ls hl => ?_)
  refine lv_iconst (v := 0) hx hb dX7_matters_9 (by decide) ?_
  refine lv_istore (lv' := [(4, .int 0), (3, .int (-1)), (2, .int (-1)), (1, .int (midI (wordA s) (s 7))), (0, .ref (b 0))]) hx hb dX7_matters_10 hl (by decide) rfl (fun ls hl => ?_)
  have loop12 : ∀ (fu : Nat) (j : Nat) (bv : Int32) (xv : Int32), 7 + 1 ≤ j + fu → (j ≤ 7) → (pvF s (midI (wordA s) (s 7)) j = (bv, xv)) → ((midI (wordA s) (s 7)) = -1 → bv = -1) → ∀ (H : Heap) (locs : List Loc), HP D 6 b (emC cI b (mdl s kp hf sc ad bf)) H → va_S (AX 6 b z.heap.size) z.heap H locs → ∀ ls : Array Slot, lv_has ls 7 [(0, .ref (b 0)), (1, .int (midI (wordA s) (s 7))), (2, .int bv), (3, .int xv), (4, .int (nI j))] → W p l e ({ frames := 3, cells := 0, slots := 0, locals := 70 } : Room) z m ([.ref (b 0)] : List Value).toArray below meth c H locs 0 0 (MQ below (va_Qi (fun (r : Int32) (u : Unit) => r = pivI s) (BW D 6 b (fun u => emC cI b (mdl s kp hf sc ad bf))) (AX 6 b z.heap.size)) ([.ref (b 0)] : List Value).toArray z 0 0 (AX 6 b z.heap.size)) (F0 m 12 ls []) := by
    intro fu
    induction fu with
    | zero => intro j bv xv hn hj hv hm2; exact absurd hn (by omega)
    | succ fu ih12 =>
      intro j bv xv hn hj hv hm2 H locs hP hS ls hl
      refine lv_iload hx hb dX7_matters_12 (lv_at hl 4 rfl) ?_
      refine lv_bipush (v := 7) hx hb dX7_matters_14 (by decide) ?_
      refine lv_icmp_ge (tgt := 92) hx hb dX7_matters_16 (by decide) (fun c4 => ?_) (fun c4 => ?_)
      · skip
        have c4x := Int32.not_lt.mpr c4
        have c4n := (nI_le2 (p := 7) (q := j) rfl rfl (by omega) (by omega)).mp c4
        have c4n : 7 ≤ j := c4n
        have hjq : 7 = j := by omega
        subst hjq
        refine lv_iload_n hx hb dX7_matters_92 rfl (lv_at hl 2 rfl) ?_
        exact rw_ir hx hb hr rfl hlocks hS () hP (piv_fin hv hm2) dX7_matters_93
      · skip
        have c4x := Int32.not_le.mp c4
        have c4n := fun hq0 => c4 ((nI_le2 (p := 7) (q := j) rfl rfl (by omega) (by omega)).mpr hq0)
        have c4n : ¬ (7 ≤ j) := c4n
        refine lv_iload_n hx hb dX7_matters_19 rfl (lv_at hl 1 rfl) ?_
        refine lv_iconst (v := (-1)) hx hb dX7_matters_20 (by decide) ?_
        refine lv_icmp_eq (tgt := 92) hx hb dX7_matters_21 (by decide) (fun c5 => ?_) (fun c5 => ?_)
        · skip
          have hm1 := c5
          refine lv_iload_n hx hb dX7_matters_92 rfl (lv_at hl 2 rfl) ?_
          exact rw_ir hx hb hr rfl hlocks hS () hP (by unfold pivI; rw [if_pos hm1]; exact hm2 hm1) dX7_matters_93
        · skip
          have hm1 := c5
          refine lv_aload_n hx hb dX7_matters_24 rfl (lv_at hl 0 rfl) ?_
          refine lv_iload hx hb dX7_matters_25 (lv_at hl 4 rfl) ?_
          refine lv_iconst (v := 0) hx hb dX7_matters_27 (by decide) ?_
          refine rw_i hS (va_runV (As := [.int (nI j), .int 0]) (rest := []) ⟨hx, hb, hml, hown, hts⟩ (m_X7_middleWith l D cI cS b s kp hf sc ad bf T hBd (by omega) j (by omega) 0 (by decide) _) (cwV 2 hts (gV tw990 tw987 tw989 ts47 tw8) rfl rfl rfl (by decide +kernel) ⟨Nat.le_of_ble_eq_true rfl, Nat.le_of_ble_eq_true rfl⟩) (pvW 0 hK hP hE (by decide) rfl rfl) rfl rfl hl.1 rfl (lv_room (Nat.le_of_ble_eq_true rfl)) dX7_matters_28 ⟨Nat.le_of_ble_eq_true rfl, Nat.le_of_ble_eq_true rfl⟩) (fun r7 u8 H locs hr6 hP hS => ?_)
          subst hr6
          refine lv_istore (lv' := [(5, .int (midW s j 0)), (0, .ref (b 0)), (1, .int (midI (wordA s) (s 7))), (2, .int bv), (3, .int xv), (4, .int (nI j))]) hx hb dX7_matters_31 hl (by decide) rfl (fun ls hl => ?_)
          refine lv_iload hx hb dX7_matters_33 (lv_at hl 0 rfl) ?_
          refine lv_iconst (v := (-1)) hx hb dX7_matters_35 (by decide) ?_
          refine lv_icmp_eq (tgt := 54) hx hb dX7_matters_36 (by decide) (fun c9 => ?_) (fun c9 => ?_)
          · skip
            refine lv_iconst (v := 0) hx hb dX7_matters_54 (by decide) ?_
            refine lv_istore (lv' := [(6, .int 0), (5, .int (midW s j 0)), (0, .ref (b 0)), (1, .int (midI (wordA s) (s 7))), (2, .int bv), (3, .int xv), (4, .int (nI j))]) hx hb dX7_matters_55 hl (by decide) rfl (fun ls hl => ?_)
            refine lv_iload hx hb dX7_matters_57 (lv_at hl 0 rfl) ?_
            refine lv_if_eq (tgt := 67) hx hb dX7_matters_59 (by decide) (fun _ => ?_) (fun h0 => absurd (by decide) h0)
            refine lv_iload_n hx hb dX7_matters_67 rfl (lv_at hl 4 rfl) ?_
            refine lv_istore_n (lv' := [(2, .int bv), (6, .int 0), (5, .int (midW s j 0)), (0, .ref (b 0)), (1, .int (midI (wordA s) (s 7))), (3, .int xv), (4, .int (nI j))]) hx hb dX7_matters_68 rfl hl (by decide) rfl (fun ls hl => ?_)
            refine lv_iload hx hb dX7_matters_69 (lv_at hl 1 rfl) ?_
            refine lv_if_eq (tgt := 84) hx hb dX7_matters_71 (by decide) (fun _ => ?_) (fun h0 => absurd (by decide) h0)
            refine lv_iload_n hx hb dX7_matters_84 rfl (lv_at hl 5 rfl) ?_
            refine lv_istore_n (lv' := [(3, .int xv), (2, .int bv), (6, .int 0), (5, .int (midW s j 0)), (0, .ref (b 0)), (1, .int (midI (wordA s) (s 7))), (4, .int (nI j))]) hx hb dX7_matters_85 rfl hl (by decide) rfl (fun ls hl => ?_)
            refine lv_iinc (v := nI (j + 1)) (lv' := [(4, .int (nI (j + 1))), (3, .int xv), (2, .int bv), (6, .int 0), (5, .int (midW s j 0)), (0, .ref (b 0)), (1, .int (midI (wordA s) (s 7)))]) hx hb dX7_matters_86 hl (k := 6) rfl (nI_add j 1) (by decide) rfl (fun ls hl => ?_)
            refine lv_goto (tgt := 12) hx hb dX7_matters_89 (by decide) ?_
            exact ih12 (j + 1) bv xv (by omega) (by omega) (by rw [pvF, hv]; simp [c4, c4x, c4n, c5, c9]) (fun h9 => absurd h9 hm1) _ _ hP hS ls (lv_sub hl [5, 6, 2, 1, 0] rfl)
          · skip
            have hw1 := c9
            refine lv_iload hx hb dX7_matters_39 (lv_at hl 0 rfl) ?_
            refine lv_iload_n hx hb dX7_matters_41 rfl (lv_at hl 2 rfl) ?_
            refine lv_isub hx hb dX7_matters_42 ?_
            refine ro_i (va_runS (As := [.int ((midW s j 0) - (midI (wordA s) (s 7)))]) (rest := []) ⟨hx, hb, hml, hown, hts⟩ (m_X7_size l ((midW s j 0) - (midI (wordA s) (s 7)))) (va_cwS 1 hts (gS tw855 tw853 tw854 tw8) rfl rfl rfl (by decide +kernel) ⟨Nat.le_of_ble_eq_true rfl, Nat.le_of_ble_eq_true rfl⟩) ps0 rfl rfl hl.1 rfl (lv_room (Nat.le_of_ble_eq_true rfl)) dX7_matters_43 ⟨Nat.le_of_ble_eq_true rfl, Nat.le_of_ble_eq_true rfl⟩) (fun r11 hr10 => ?_)
            subst hr10
            refine lv_as (y := distI (midW s j 0) (midI (wordA s) (s 7))) (abs_dist (midW_nn hBd (by omega) hw1) (mid_nn hBd hm1)) ?_
            refine lv_iload_n hx hb dX7_matters_46 rfl (lv_at hl 4 rfl) ?_
            refine lv_icmp_le (tgt := 54) hx hb dX7_matters_47 (by decide) (fun c13 => ?_) (fun c13 => ?_)
            · skip
              have c13x := Int32.not_lt.mpr c13
              refine lv_iconst (v := 0) hx hb dX7_matters_54 (by decide) ?_
              refine lv_istore (lv' := [(6, .int 0), (5, .int (midW s j 0)), (0, .ref (b 0)), (1, .int (midI (wordA s) (s 7))), (2, .int bv), (3, .int xv), (4, .int (nI j))]) hx hb dX7_matters_55 hl (by decide) rfl (fun ls hl => ?_)
              refine lv_iload hx hb dX7_matters_57 (lv_at hl 0 rfl) ?_
              refine lv_if_eq (tgt := 67) hx hb dX7_matters_59 (by decide) (fun _ => ?_) (fun h0 => absurd (by decide) h0)
              refine lv_iload_n hx hb dX7_matters_67 rfl (lv_at hl 4 rfl) ?_
              refine lv_istore_n (lv' := [(2, .int bv), (6, .int 0), (5, .int (midW s j 0)), (0, .ref (b 0)), (1, .int (midI (wordA s) (s 7))), (3, .int xv), (4, .int (nI j))]) hx hb dX7_matters_68 rfl hl (by decide) rfl (fun ls hl => ?_)
              refine lv_iload hx hb dX7_matters_69 (lv_at hl 1 rfl) ?_
              refine lv_if_eq (tgt := 84) hx hb dX7_matters_71 (by decide) (fun _ => ?_) (fun h0 => absurd (by decide) h0)
              refine lv_iload_n hx hb dX7_matters_84 rfl (lv_at hl 5 rfl) ?_
              refine lv_istore_n (lv' := [(3, .int xv), (2, .int bv), (6, .int 0), (5, .int (midW s j 0)), (0, .ref (b 0)), (1, .int (midI (wordA s) (s 7))), (4, .int (nI j))]) hx hb dX7_matters_85 rfl hl (by decide) rfl (fun ls hl => ?_)
              refine lv_iinc (v := nI (j + 1)) (lv' := [(4, .int (nI (j + 1))), (3, .int xv), (2, .int bv), (6, .int 0), (5, .int (midW s j 0)), (0, .ref (b 0)), (1, .int (midI (wordA s) (s 7)))]) hx hb dX7_matters_86 hl (k := 6) rfl (nI_add j 1) (by decide) rfl (fun ls hl => ?_)
              refine lv_goto (tgt := 12) hx hb dX7_matters_89 (by decide) ?_
              exact ih12 (j + 1) bv xv (by omega) (by omega) (by rw [pvF, hv]; simp [c4, c4x, c4n, c5, c9, c13, c13x]) (fun h9 => absurd h9 hm1) _ _ hP hS ls (lv_sub hl [5, 6, 2, 1, 0] rfl)
            · skip
              have c13x := Int32.not_le.mp c13
              refine lv_iconst (v := 1) hx hb dX7_matters_50 (by decide) ?_
              refine lv_goto (tgt := 55) hx hb dX7_matters_51 (by decide) ?_
              refine lv_istore (lv' := [(6, .int 1), (5, .int (midW s j 0)), (0, .ref (b 0)), (1, .int (midI (wordA s) (s 7))), (2, .int bv), (3, .int xv), (4, .int (nI j))]) hx hb dX7_matters_55 hl (by decide) rfl (fun ls hl => ?_)
              refine lv_iload hx hb dX7_matters_57 (lv_at hl 0 rfl) ?_
              refine lv_if_eq (tgt := 67) hx hb dX7_matters_59 (by decide) (fun h0 => absurd h0 (by decide)) (fun _ => ?_)
              refine lv_iload hx hb dX7_matters_62 (lv_at hl 6 rfl) ?_
              refine lv_goto (tgt := 68) hx hb dX7_matters_64 (by decide) ?_
              refine lv_istore_n (lv' := [(2, .int (nI j)), (6, .int 1), (5, .int (midW s j 0)), (0, .ref (b 0)), (1, .int (midI (wordA s) (s 7))), (3, .int xv), (4, .int (nI j))]) hx hb dX7_matters_68 rfl hl (by decide) rfl (fun ls hl => ?_)
              refine lv_iload hx hb dX7_matters_69 (lv_at hl 1 rfl) ?_
              refine lv_if_eq (tgt := 84) hx hb dX7_matters_71 (by decide) (fun h0 => absurd h0 (by decide)) (fun _ => ?_)
              refine lv_iload hx hb dX7_matters_74 (lv_at hl 2 rfl) ?_
              refine lv_iload_n hx hb dX7_matters_76 rfl (lv_at hl 4 rfl) ?_
              refine lv_isub hx hb dX7_matters_77 ?_
              refine ro_i (va_runS (As := [.int ((midW s j 0) - (midI (wordA s) (s 7)))]) (rest := []) ⟨hx, hb, hml, hown, hts⟩ (m_X7_size l ((midW s j 0) - (midI (wordA s) (s 7)))) (va_cwS 1 hts (gS tw855 tw853 tw854 tw8) rfl rfl rfl (by decide +kernel) ⟨Nat.le_of_ble_eq_true rfl, Nat.le_of_ble_eq_true rfl⟩) ps0 rfl rfl hl.1 rfl (lv_room (Nat.le_of_ble_eq_true rfl)) dX7_matters_78 ⟨Nat.le_of_ble_eq_true rfl, Nat.le_of_ble_eq_true rfl⟩) (fun r15 hr14 => ?_)
              subst hr14
              refine lv_as (y := distI (midW s j 0) (midI (wordA s) (s 7))) (abs_dist (midW_nn hBd (by omega) hw1) (mid_nn hBd hm1)) ?_
              refine lv_goto (tgt := 85) hx hb dX7_matters_81 (by decide) ?_
              refine lv_istore_n (lv' := [(3, .int (distI (midW s j 0) (midI (wordA s) (s 7)))), (2, .int (nI j)), (6, .int 1), (5, .int (midW s j 0)), (0, .ref (b 0)), (1, .int (midI (wordA s) (s 7))), (4, .int (nI j))]) hx hb dX7_matters_85 rfl hl (by decide) rfl (fun ls hl => ?_)
              refine lv_iinc (v := nI (j + 1)) (lv' := [(4, .int (nI (j + 1))), (3, .int (distI (midW s j 0) (midI (wordA s) (s 7)))), (2, .int (nI j)), (6, .int 1), (5, .int (midW s j 0)), (0, .ref (b 0)), (1, .int (midI (wordA s) (s 7)))]) hx hb dX7_matters_86 hl (k := 6) rfl (nI_add j 1) (by decide) rfl (fun ls hl => ?_)
              refine lv_goto (tgt := 12) hx hb dX7_matters_89 (by decide) ?_
              exact ih12 (j + 1) (nI j) (distI (midW s j 0) (midI (wordA s) (s 7))) (by omega) (by omega) (by rw [pvF, hv]; simp [c4, c4x, c4n, c5, c9, c13, c13x]) (fun h9 => absurd h9 hm1) _ _ hP hS ls (lv_sub hl [5, 6, 2, 1, 0] rfl)
  exact loop12 (7 + 1) 0 (-1) (-1) (by omega) (by omega) rfl (fun _ => rfl) _ _ hP hS ls (lv_sub hl [4, 3, 2, 1, 0] rfl)

set_option maxHeartbeats 4000000 in
set_option maxRecDepth 100000 in
theorem m_X7_winning (l : Launch) (D : va_G) (cI cS : ClassId) (b : Nat → Nat) (s kp : St) (hf : Nat → St) (sc ad bf : Nat → Int32) (T : Int) (hBd : Bd T s) (hT : T ≤ 200000000) (w : Nat) (hw : w < 7) (zz : Nat) : Met l yX7_winning (.code yX7_winning cX7_winning 3 (some .int) :: wsA) ({ frames := 3, cells := 0, slots := 0, locals := 70 } : Room) (va_Pc [.ref (b 0), .int (nI w)] (PW D cI cS 6 b (emC cI b (mdl s kp hf sc ad bf)) zz)) (va_Qi (fun (r : Int32) (u : Unit) => r = winF s w 9 1) (BW D 6 b (fun u => emC cI b (mdl s kp hf sc ad bf))) (AX 6 b zz)) 0 0 (AX 6 b zz) := by
  refine mgo (by decide) (Nat.le_of_ble_eq_true rfl) ?_
  intro p e z m below meth c hx hb hr hml hown hts hlocks hB ls hl
  obtain ⟨hsz, hP, hK, hE⟩ := hB
  subst hsz
  have hS : va_S (AX 6 b z.heap.size) z.heap z.heap [] := va_S.rf
  have hl : lv_has ls 3 [(0, .ref (b 0)), (1, .int (nI w))] := hl
  refine lv_iconst (v := 1) hx hb dX7_winning_0 (by decide) ?_
  refine lv_istore_n (lv' := [(2, .int 1), (0, .ref (b 0)), (1, .int (nI w))]) hx hb dX7_winning_1 rfl hl (by decide) rfl (fun ls hl => ?_)
  have loop2 : ∀ (fu : Nat) (q : Nat), 10 + 1 ≤ q + fu → (1 ≤ q ∧ q ≤ 10) → (winF s w 9 1 = winF s w (10 - q) q) → ∀ (H : Heap) (locs : List Loc), HP D 6 b (emC cI b (mdl s kp hf sc ad bf)) H → va_S (AX 6 b z.heap.size) z.heap H locs → ∀ ls : Array Slot, lv_has ls 3 [(0, .ref (b 0)), (1, .int (nI w)), (2, .int (nI q))] → W p l e ({ frames := 3, cells := 0, slots := 0, locals := 70 } : Room) z m ([.ref (b 0), .int (nI w)] : List Value).toArray below meth c H locs 0 0 (MQ below (va_Qi (fun (r : Int32) (u : Unit) => r = winF s w 9 1) (BW D 6 b (fun u => emC cI b (mdl s kp hf sc ad bf))) (AX 6 b z.heap.size)) ([.ref (b 0), .int (nI w)] : List Value).toArray z 0 0 (AX 6 b z.heap.size)) (F0 m 2 ls []) := by
    intro fu
    induction fu with
    | zero => intro q hn hq hR; exact absurd hn (by omega)
    | succ fu ih2 =>
      intro q hn hq hR H locs hP hS ls hl
      refine lv_iload_n hx hb dX7_winning_2 rfl (lv_at hl 2 rfl) ?_
      refine lv_bipush (v := 9) hx hb dX7_winning_3 (by decide) ?_
      refine lv_icmp_gt (tgt := 30) hx hb dX7_winning_5 (by decide) (fun c1 => ?_) (fun c1 => ?_)
      · skip
        have c1x := Int32.not_le.mpr c1
        have c1n := (nI_lt2 (p := 9) (q := q) rfl rfl (by omega) (by omega)).mp c1
        have c1n : 9 < q := c1n
        have hjq : 10 = q := by omega
        subst hjq
        refine lv_iconst (v := (-1)) hx hb dX7_winning_30 (by decide) ?_
        exact rw_ir hx hb hr rfl hlocks hS () hP (by rw [hR]; rfl) dX7_winning_31
      · skip
        have c1x := Int32.not_lt.mp c1
        have c1n := fun hq0 => c1 ((nI_lt2 (p := 9) (q := q) rfl rfl (by omega) (by omega)).mpr hq0)
        have c1n : ¬ (9 < q) := c1n
        refine lv_aload_n hx hb dX7_winning_8 rfl (lv_at hl 0 rfl) ?_
        refine lv_iload_n hx hb dX7_winning_9 rfl (lv_at hl 1 rfl) ?_
        refine lv_iload_n hx hb dX7_winning_10 rfl (lv_at hl 2 rfl) ?_
        refine rw_i hS (va_runV (As := [.int (nI w), .int (nI q)]) (rest := []) ⟨hx, hb, hml, hown, hts⟩ (m_X7_middleWith l D cI cS b s kp hf sc ad bf T hBd (by omega) w (by omega) (nI q) (nI_19 (by omega)) _) (cwV 2 hts (gV tw990 tw987 tw989 ts47 tw8) rfl rfl rfl (by decide +kernel) ⟨Nat.le_of_ble_eq_true rfl, Nat.le_of_ble_eq_true rfl⟩) (pvW 0 hK hP hE (by decide) rfl rfl) rfl rfl hl.1 rfl (lv_room (Nat.le_of_ble_eq_true rfl)) dX7_winning_11 ⟨Nat.le_of_ble_eq_true rfl, Nat.le_of_ble_eq_true rfl⟩) (fun r3 u4 H locs hr2 hP hS => ?_)
        subst hr2
        refine lv_aload_n hx hb dX7_winning_14 rfl (lv_at hl 0 rfl) ?_
        refine lv_iload_n hx hb dX7_winning_15 rfl (lv_at hl 1 rfl) ?_
        refine ro_i (va_runV (As := [.int (nI w)]) (rest := [.int (midW s w (nI q))]) ⟨hx, hb, hml, hown, hts⟩ (m_X7_word l D cI cS b s kp hf sc ad bf w (by omega)) (cwV 1 hts (gV tw845 tw842 tw844 ts30 tw8) rfl rfl rfl (by decide +kernel) ⟨Nat.le_of_ble_eq_true rfl, Nat.le_of_ble_eq_true rfl⟩) (pvR 0 hK hP (by decide) rfl rfl) rfl rfl hl.1 rfl (lv_room (Nat.le_of_ble_eq_true rfl)) dX7_winning_16 ⟨Nat.le_of_ble_eq_true rfl, Nat.le_of_ble_eq_true rfl⟩) (fun r6 hr5 => ?_)
        subst hr5
        refine lv_icmp_ne (tgt := 24) hx hb dX7_winning_19 (by decide) (fun c8 => ?_) (fun c8 => ?_)
        · skip
          refine lv_iinc (v := nI (q + 1)) (lv' := [(2, .int (nI (q + 1))), (0, .ref (b 0)), (1, .int (nI w))]) hx hb dX7_winning_24 hl (k := 2) rfl (nI_add q 1) (by decide) rfl (fun ls hl => ?_)
          refine lv_goto (tgt := 2) hx hb dX7_winning_27 (by decide) ?_
          exact ih2 (q + 1) (by omega) (⟨by omega, by omega⟩) (by rw [hR, show 10 - q = (10 - (q + 1)) + 1 by omega, winF, if_neg c8]) _ _ hP hS ls (lv_sub hl [1, 2, 0] rfl)
        · skip
          refine lv_iload_n hx hb dX7_winning_22 rfl (lv_at hl 2 rfl) ?_
          exact rw_ir hx hb hr rfl hlocks hS () hP (by rw [hR, show 10 - q = (10 - (q + 1)) + 1 by omega, winF, if_pos c8]) dX7_winning_23
  exact loop2 (10 + 1) 1 (by omega) (⟨by omega, by omega⟩) rfl _ _ hP hS ls (lv_sub hl [1, 2, 0] rfl)

set_option maxHeartbeats 4000000 in
set_option maxRecDepth 100000 in
theorem m_X7_share (l : Launch) (D : va_G) (cI cS : ClassId) (b : Nat → Nat) (s kp : St) (hf : Nat → St) (sc ad bf : Nat → Int32) (T : Int) (hBd : Bd T s) (hT : T ≤ 200000000) : Met l yX7_share (.code yX7_share cX7_share 1 (some .double) :: wsA) ({ frames := 0, cells := 0, slots := 0, locals := 0 } : Room) (va_Pc [.ref (b 0)] (PR D cI cS 6 b (emC cI b (mdl s kp hf sc ad bf)))) (vp_Sd (fun r => r = shareD s)) 0 0 (fun _ => False) := by
  refine mgo (by decide) (Nat.le_of_ble_eq_true rfl) ?_
  intro p e z m below meth c hx hb hr hml hown hts hlocks hB ls hl
  obtain ⟨hP, hK⟩ := hB
  have hl : lv_has ls 1 [(0, .ref (b 0))] := hl
  refine lv_aload_n hx hb dX7_share_0 rfl (lv_at hl 0 rfl) ?_
  refine g_get hx hb hts hown inA7 hK hP 0 (by decide) rfl rfl 0 (by decide) tw760 rfl (v := .ref (b 1)) rfl dX7_share_1 ?_
  refine lv_iconst (v := 4) hx hb dX7_share_4 (by decide) ?_
  refine g_iald hx hb hK hP 1 (by decide) rfl 4 rfl (by omega) (by decide) dX7_share_5 (v := s 0 2) ((fl_gv (s := s) (d := 0) (by omega)).trans rfl) ?_
  refine lv_if_ne (tgt := 13) hx hb dX7_share_6 (by decide) (fun c1 => ?_) (fun c1 => ?_)
  · skip
    have hz := c1
    have hv3 : 0 < (s 0 2).toInt := by have h9 : (s 0 2).toInt ≠ 0 := fun h => hz (Int32.toInt_inj.mp (h.trans (by decide))); have h8 := (hBd.2.2.2 2 (by decide) (by decide)).1; omega
    refine lv_aload_n hx hb dX7_share_13 rfl (lv_at hl 0 rfl) ?_
    refine g_get hx hb hts hown inA7 hK hP 0 (by decide) rfl rfl 0 (by decide) tw760 rfl (v := .ref (b 1)) rfl dX7_share_14 ?_
    refine lv_iconst (v := 5) hx hb dX7_share_17 (by decide) ?_
    refine g_iald hx hb hK hP 1 (by decide) rfl 5 rfl (by omega) (by decide) dX7_share_18 (v := s 0 3) ((fl_gv (s := s) (d := 1) (by omega)).trans rfl) ?_
    refine lv_i2d hx hb dX7_share_19 ?_
    refine lv_aload_n hx hb dX7_share_20 rfl (lv_at hl 0 rfl) ?_
    refine g_get hx hb hts hown inA7 hK hP 0 (by decide) rfl rfl 0 (by decide) tw760 rfl (v := .ref (b 1)) rfl dX7_share_21 ?_
    refine lv_iconst (v := 4) hx hb dX7_share_24 (by decide) ?_
    refine g_iald hx hb hK hP 1 (by decide) rfl 4 rfl (by omega) (by decide) dX7_share_25 (v := s 0 2) ((fl_gv (s := s) (d := 0) (by omega)).trans rfl) ?_
    refine lv_i2d hx hb dX7_share_26 ?_
    refine lv_ddiv hx hb dX7_share_27 (d_share (hBd.2.2.2 3 (by decide) (by decide)).1 hv3).vf ?_
    exact ro_dr hx hb hr hlocks (by unfold shareD; rw [if_neg hz]) dX7_share_28
  · skip
    have hz := c1
    refine lv_dconst0 hx hb dX7_share_9 ?_
    refine lv_goto (tgt := 28) hx hb dX7_share_10 (by decide) ?_
    exact ro_dr hx hb hr hlocks (by unfold shareD; rw [if_pos hz]) dX7_share_28

set_option maxHeartbeats 4000000 in
set_option maxRecDepth 100000 in
theorem m_X7_mean (l : Launch) (D : va_G) (cI cS : ClassId) (b : Nat → Nat) (s kp : St) (hf : Nat → St) (sc ad bf : Nat → Int32) (T : Int) (hBd : Bd T s) (hT : T ≤ 200000000) : Met l yX7_mean (.code yX7_mean cX7_mean 3 (some .float) :: wsA) ({ frames := 2, cells := 0, slots := 0, locals := 46 } : Room) (va_Pc [.ref (b 0)] (PR D cI cS 6 b (emC cI b (mdl s kp hf sc ad bf)))) (vp_Sf (fun r => r = meanF s)) 0 0 (fun _ => False) := by
  refine mgo (by decide) (Nat.le_of_ble_eq_true rfl) ?_
  intro p e z m below meth c hx hb hr hml hown hts hlocks hB ls hl
  obtain ⟨hP, hK⟩ := hB
  have hl : lv_has ls 3 [(0, .ref (b 0))] := hl
  refine lv_iconst (v := 0) hx hb dX7_mean_0 (by decide) ?_
  refine lv_istore_n (lv' := [(1, .int 0), (0, .ref (b 0))]) hx hb dX7_mean_1 rfl hl (by decide) rfl (fun ls hl => ?_)
  refine lv_iconst (v := 0) hx hb dX7_mean_2 (by decide) ?_
  refine lv_istore_n (lv' := [(2, .int 0), (1, .int 0), (0, .ref (b 0))]) hx hb dX7_mean_3 rfl hl (by decide) rfl (fun ls hl => ?_)
  have loop4 : ∀ (fu : Nat) (j : Nat) (x : Int32), 7 + 1 ≤ j + fu → (j ≤ 7) → (x = errC s j) → ∀ ls : Array Slot, lv_has ls 3 [(0, .ref (b 0)), (1, .int x), (2, .int (nI j))] → W p l e ({ frames := 2, cells := 0, slots := 0, locals := 46 } : Room) z m ([.ref (b 0)] : List Value).toArray below meth c z.heap [] 0 0 (MQ below (vp_Sf (fun r => r = meanF s)) ([.ref (b 0)] : List Value).toArray z 0 0 (fun _ => False)) (F0 m 4 ls []) := by
    intro fu
    induction fu with
    | zero => intro j x hn hj hx1; exact absurd hn (by omega)
    | succ fu ih4 =>
      intro j x hn hj hx1 ls hl
      refine lv_iload_n hx hb dX7_mean_4 rfl (lv_at hl 2 rfl) ?_
      refine lv_bipush (v := 7) hx hb dX7_mean_5 (by decide) ?_
      refine lv_icmp_ge (tgt := 25) hx hb dX7_mean_7 (by decide) (fun c1 => ?_) (fun c1 => ?_)
      · skip
        have c1x := Int32.not_lt.mpr c1
        have c1n := (nI_le2 (p := 7) (q := j) rfl rfl (by omega) (by omega)).mp c1
        have c1n : 7 ≤ j := c1n
        have hjq : 7 = j := by omega
        subst hjq
        refine lv_iload_n hx hb dX7_mean_25 rfl (lv_at hl 1 rfl) ?_
        refine lv_i2f hx hb dX7_mean_26 ?_
        refine lv_ldcf hx hb hown (hts _ tw1047) dX7_mean_27 ?_
        refine lv_fdiv hx hb dX7_mean_29 (f_mean (n := x) (by rw [hx1]; exact (errC_ok hBd (by omega) 7 (by omega)).1)).vf ?_
        exact ro_fr hx hb hr hlocks (by unfold meanF; rw [hx1]) dX7_mean_30
      · skip
        have c1x := Int32.not_le.mp c1
        have c1n := fun hq0 => c1 ((nI_le2 (p := 7) (q := j) rfl rfl (by omega) (by omega)).mpr hq0)
        have c1n : ¬ (7 ≤ j) := c1n
        refine lv_iload_n hx hb dX7_mean_10 rfl (lv_at hl 1 rfl) ?_
        refine lv_aload_n hx hb dX7_mean_11 rfl (lv_at hl 0 rfl) ?_
        refine lv_iload_n hx hb dX7_mean_12 rfl (lv_at hl 2 rfl) ?_
        refine lv_iconst (v := 5) hx hb dX7_mean_13 (by decide) ?_
        refine ro_i (va_runV (As := [.int (nI j), .int 5]) (rest := [.int x]) ⟨hx, hb, hml, hown, hts⟩ (m_X7_ofDial l D cI cS b s kp hf sc ad bf T hBd (by omega) j 5 (by omega) (by omega)) (cwV 2 hts (gV tw946 tw943 tw945 ts40 tw8) rfl rfl rfl (by decide +kernel) ⟨Nat.le_of_ble_eq_true rfl, Nat.le_of_ble_eq_true rfl⟩) (pvR 0 hK hP (by decide) rfl rfl) rfl rfl hl.1 rfl (lv_room (Nat.le_of_ble_eq_true rfl)) dX7_mean_14 ⟨Nat.le_of_ble_eq_true rfl, Nat.le_of_ble_eq_true rfl⟩) (fun r3 hr2 => ?_)
        subst hr2
        refine lv_iadd hx hb dX7_mean_17 ?_
        refine lv_istore_n (lv' := [(1, .int (x + (dialN s j 5))), (0, .ref (b 0)), (2, .int (nI j))]) hx hb dX7_mean_18 rfl hl (by decide) rfl (fun ls hl => ?_)
        refine lv_iinc (v := nI (j + 1)) (lv' := [(2, .int (nI (j + 1))), (1, .int (x + (dialN s j 5))), (0, .ref (b 0))]) hx hb dX7_mean_19 hl (k := 2) rfl (nI_add j 1) (by decide) rfl (fun ls hl => ?_)
        refine lv_goto (tgt := 4) hx hb dX7_mean_22 (by decide) ?_
        exact ih4 (j + 1) (x + (dialN s j 5)) (by omega) (by omega) (by rw [errC, ← hx1]; rfl) ls (lv_sub hl [2, 1, 0] rfl)
  exact loop4 (7 + 1) 0 0 (by omega) (by omega) rfl ls (lv_sub hl [2, 1, 0] rfl)

set_option maxHeartbeats 4000000 in
set_option maxRecDepth 100000 in
theorem m_X7_bellIn (l : Launch) (D : va_G) (cI cS : ClassId) (b : Nat → Nat) (s kp : St) (hf : Nat → St) (sc ad bf : Nat → Int32) (d : Nat) (hd : d < 7) : Met l yX7_bellIn (.code yX7_bellIn cX7_bellIn 4 (some .int) :: wsA) ({ frames := 0, cells := 0, slots := 0, locals := 0 } : Room) (va_Pc [.ref (b 0), .int (nI d)] (PR D cI cS 6 b (emC cI b (mdl s kp hf sc ad bf)))) (vp_Si (fun r => r = ringF s d (s 1 d / 60) 200 1 (s 1 d))) 0 0 (fun _ => False) := by
  refine mgo (by decide) (Nat.le_of_ble_eq_true rfl) ?_
  intro p e z m below meth c hx hb hr hml hown hts hlocks hB ls hl
  obtain ⟨hP, hK⟩ := hB
  have hl : lv_has ls 4 [(0, .ref (b 0)), (1, .int (nI d))] := hl
  refine lv_aload_n hx hb dX7_bellIn_0 rfl (lv_at hl 0 rfl) ?_
  refine g_get hx hb hts hown inA7 hK hP 0 (by decide) rfl rfl 0 (by decide) tw760 rfl (v := .ref (b 1)) rfl dX7_bellIn_1 ?_
  refine lv_bipush (v := 6) hx hb dX7_bellIn_4 (by decide) ?_
  refine lv_iload_n hx hb dX7_bellIn_6 rfl (lv_at hl 1 rfl) ?_
  refine lv_iadd hx hb dX7_bellIn_7 ?_
  refine lv_as (y := nI (6 + d)) (nI_add2 (p := 6) (q := d) rfl rfl) ?_
  refine g_iald hx hb hK hP 1 (by decide) rfl (6 + d) rfl (by omega) (by decide) dX7_bellIn_8 (v := s 1 d) ((fl_g1 (s := s) (d := d) (by omega)).trans rfl) ?_
  refine lv_istore_n (lv' := [(2, .int (s 1 d)), (0, .ref (b 0)), (1, .int (nI d))]) hx hb dX7_bellIn_9 rfl hl (by decide) rfl (fun ls hl => ?_)
  refine lv_iconst (v := 1) hx hb dX7_bellIn_10 (by decide) ?_
  refine lv_istore_n (lv' := [(3, .int 1), (2, .int (s 1 d)), (0, .ref (b 0)), (1, .int (nI d))]) hx hb dX7_bellIn_11 rfl hl (by decide) rfl (fun ls hl => ?_)
  have loop12 : ∀ (fu : Nat) (t : Nat) (x : Int32), 201 + 1 ≤ t + fu → (1 ≤ t ∧ t ≤ 201) → (ringF s d (s 1 d / 60) 200 1 (s 1 d) = ringF s d (s 1 d / 60) (201 - t) t x) → ∀ ls : Array Slot, lv_has ls 4 [(0, .ref (b 0)), (1, .int (nI d)), (2, .int x), (3, .int (nI t))] → W p l e ({ frames := 0, cells := 0, slots := 0, locals := 0 } : Room) z m ([.ref (b 0), .int (nI d)] : List Value).toArray below meth c z.heap [] 0 0 (MQ below (vp_Si (fun r => r = ringF s d (s 1 d / 60) 200 1 (s 1 d))) ([.ref (b 0), .int (nI d)] : List Value).toArray z 0 0 (fun _ => False)) (F0 m 12 ls []) := by
    intro fu
    induction fu with
    | zero => intro t x hn ht hR; exact absurd hn (by omega)
    | succ fu ih12 =>
      intro t x hn ht hR ls hl
      refine lv_iload_n hx hb dX7_bellIn_12 rfl (lv_at hl 3 rfl) ?_
      refine lv_sipush (v := 200) hx hb dX7_bellIn_13 (by decide) ?_
      refine lv_icmp_gt (tgt := 74) hx hb dX7_bellIn_16 (by decide) (fun c1 => ?_) (fun c1 => ?_)
      · skip
        have c1x := Int32.not_le.mpr c1
        have c1n := (nI_lt2 (p := 200) (q := t) rfl rfl (by omega) (by omega)).mp c1
        have c1n : 200 < t := c1n
        have hjq : 201 = t := by omega
        subst hjq
        refine lv_iconst (v := (-1)) hx hb dX7_bellIn_74 (by decide) ?_
        exact ro_ir hx hb hr rfl hlocks (by rw [hR]; rfl) dX7_bellIn_75
      · skip
        have c1x := Int32.not_lt.mp c1
        have c1n := fun hq0 => c1 ((nI_lt2 (p := 200) (q := t) rfl rfl (by omega) (by omega)).mpr hq0)
        have c1n : ¬ (200 < t) := c1n
        refine lv_iload_n hx hb dX7_bellIn_19 rfl (lv_at hl 2 rfl) ?_
        refine lv_bipush (v := 10) hx hb dX7_bellIn_20 (by decide) ?_
        refine lv_aload_n hx hb dX7_bellIn_22 rfl (lv_at hl 0 rfl) ?_
        refine g_get hx hb hts hown inA7 hK hP 0 (by decide) rfl rfl 0 (by decide) tw760 rfl (v := .ref (b 1)) rfl dX7_bellIn_23 ?_
        refine lv_bipush (v := 13) hx hb dX7_bellIn_26 (by decide) ?_
        refine lv_iload_n hx hb dX7_bellIn_28 rfl (lv_at hl 1 rfl) ?_
        refine lv_iadd hx hb dX7_bellIn_29 ?_
        refine lv_as (y := nI (13 + d)) (nI_add2 (p := 13) (q := d) rfl rfl) ?_
        refine g_iald hx hb hK hP 1 (by decide) rfl (13 + d) rfl (by omega) (by decide) dX7_bellIn_30 (v := s 2 d) ((fl_g2 (s := s) (d := d) (by omega)).trans rfl) ?_
        refine lv_iadd hx hb dX7_bellIn_31 ?_
        refine lv_iadd hx hb dX7_bellIn_32 ?_
        refine lv_istore_n (lv' := [(2, .int (x + (10 + (s 2 d)))), (0, .ref (b 0)), (1, .int (nI d)), (3, .int (nI t))]) hx hb dX7_bellIn_33 rfl hl (by decide) rfl (fun ls hl => ?_)
        refine lv_iload_n hx hb dX7_bellIn_34 rfl (lv_at hl 0 rfl) ?_
        refine lv_ldc hx hb hown (hts _ tw821) dX7_bellIn_35 ?_
        refine lv_icmp_le (tgt := 45) hx hb dX7_bellIn_37 (by decide) (fun c2 => ?_) (fun c2 => ?_)
        · skip
          have c2x := Int32.not_lt.mpr c2
          refine lv_iload_n hx hb dX7_bellIn_45 rfl (lv_at hl 0 rfl) ?_
          refine lv_as (y := aftI s d x) (by unfold aftI; rw [Int32.add_assoc, if_neg c2x]) ?_
          refine lv_istore_n (lv' := [(2, .int (aftI s d x)), (0, .ref (b 0)), (1, .int (nI d)), (3, .int (nI t))]) hx hb dX7_bellIn_46 rfl hl (by decide) rfl (fun ls hl => ?_)
          refine lv_iload_n hx hb dX7_bellIn_47 rfl (lv_at hl 0 rfl) ?_
          refine lv_bipush (v := 60) hx hb dX7_bellIn_48 (by decide) ?_
          refine lv_idiv hx hb dX7_bellIn_50 (by decide) ?_
          refine lv_aload_n hx hb dX7_bellIn_51 rfl (lv_at hl 1 rfl) ?_
          refine g_get hx hb hts hown inA7 hK hP 0 (by decide) rfl rfl 0 (by decide) tw760 rfl (v := .ref (b 1)) rfl dX7_bellIn_52 ?_
          refine lv_bipush (v := 6) hx hb dX7_bellIn_55 (by decide) ?_
          refine lv_iload_n hx hb dX7_bellIn_57 rfl (lv_at hl 2 rfl) ?_
          refine lv_iadd hx hb dX7_bellIn_58 ?_
          refine lv_as (y := nI (6 + d)) (nI_add2 (p := 6) (q := d) rfl rfl) ?_
          refine g_iald hx hb hK hP 1 (by decide) rfl (6 + d) rfl (by omega) (by decide) dX7_bellIn_59 (v := s 1 d) ((fl_g1 (s := s) (d := d) (by omega)).trans rfl) ?_
          refine lv_bipush (v := 60) hx hb dX7_bellIn_60 (by decide) ?_
          refine lv_idiv hx hb dX7_bellIn_62 (by decide) ?_
          refine lv_icmp_le (tgt := 68) hx hb dX7_bellIn_63 (by decide) (fun c3 => ?_) (fun c3 => ?_)
          · skip
            have c3x := Int32.not_lt.mpr c3
            refine lv_iinc (v := nI (t + 1)) (lv' := [(3, .int (nI (t + 1))), (2, .int (aftI s d x)), (0, .ref (b 0)), (1, .int (nI d))]) hx hb dX7_bellIn_68 hl (k := 3) rfl (nI_add t 1) (by decide) rfl (fun ls hl => ?_)
            refine lv_goto (tgt := 12) hx hb dX7_bellIn_71 (by decide) ?_
            exact ih12 (t + 1) (aftI s d x) (by omega) (⟨by omega, by omega⟩) (by rw [hR, show 201 - t = (201 - (t + 1)) + 1 by omega, ringF, if_neg c3x]) ls (lv_sub hl [2, 3, 1, 0] rfl)
          · skip
            have c3x := Int32.not_le.mp c3
            refine lv_iload_n hx hb dX7_bellIn_66 rfl (lv_at hl 3 rfl) ?_
            exact ro_ir hx hb hr rfl hlocks (by rw [hR, show 201 - t = (201 - (t + 1)) + 1 by omega, ringF, if_pos c3x]) dX7_bellIn_67
        · skip
          have c2x := Int32.not_le.mp c2
          refine lv_ldc hx hb hown (hts _ tw821) dX7_bellIn_40 ?_
          refine lv_goto (tgt := 46) hx hb dX7_bellIn_42 (by decide) ?_
          refine lv_as (y := aftI s d x) (by unfold aftI; rw [Int32.add_assoc, if_pos c2x]) ?_
          refine lv_istore_n (lv' := [(2, .int (aftI s d x)), (0, .ref (b 0)), (1, .int (nI d)), (3, .int (nI t))]) hx hb dX7_bellIn_46 rfl hl (by decide) rfl (fun ls hl => ?_)
          refine lv_iload_n hx hb dX7_bellIn_47 rfl (lv_at hl 0 rfl) ?_
          refine lv_bipush (v := 60) hx hb dX7_bellIn_48 (by decide) ?_
          refine lv_idiv hx hb dX7_bellIn_50 (by decide) ?_
          refine lv_aload_n hx hb dX7_bellIn_51 rfl (lv_at hl 1 rfl) ?_
          refine g_get hx hb hts hown inA7 hK hP 0 (by decide) rfl rfl 0 (by decide) tw760 rfl (v := .ref (b 1)) rfl dX7_bellIn_52 ?_
          refine lv_bipush (v := 6) hx hb dX7_bellIn_55 (by decide) ?_
          refine lv_iload_n hx hb dX7_bellIn_57 rfl (lv_at hl 2 rfl) ?_
          refine lv_iadd hx hb dX7_bellIn_58 ?_
          refine lv_as (y := nI (6 + d)) (nI_add2 (p := 6) (q := d) rfl rfl) ?_
          refine g_iald hx hb hK hP 1 (by decide) rfl (6 + d) rfl (by omega) (by decide) dX7_bellIn_59 (v := s 1 d) ((fl_g1 (s := s) (d := d) (by omega)).trans rfl) ?_
          refine lv_bipush (v := 60) hx hb dX7_bellIn_60 (by decide) ?_
          refine lv_idiv hx hb dX7_bellIn_62 (by decide) ?_
          refine lv_icmp_le (tgt := 68) hx hb dX7_bellIn_63 (by decide) (fun c4 => ?_) (fun c4 => ?_)
          · skip
            have c4x := Int32.not_lt.mpr c4
            refine lv_iinc (v := nI (t + 1)) (lv' := [(3, .int (nI (t + 1))), (2, .int (aftI s d x)), (0, .ref (b 0)), (1, .int (nI d))]) hx hb dX7_bellIn_68 hl (k := 3) rfl (nI_add t 1) (by decide) rfl (fun ls hl => ?_)
            refine lv_goto (tgt := 12) hx hb dX7_bellIn_71 (by decide) ?_
            exact ih12 (t + 1) (aftI s d x) (by omega) (⟨by omega, by omega⟩) (by rw [hR, show 201 - t = (201 - (t + 1)) + 1 by omega, ringF, if_neg c4x]) ls (lv_sub hl [2, 3, 1, 0] rfl)
          · skip
            have c4x := Int32.not_le.mp c4
            refine lv_iload_n hx hb dX7_bellIn_66 rfl (lv_at hl 3 rfl) ?_
            exact ro_ir hx hb hr rfl hlocks (by rw [hR, show 201 - t = (201 - (t + 1)) + 1 by omega, ringF, if_pos c4x]) dX7_bellIn_67
  exact loop12 (201 + 1) 1 (s 1 d) (by omega) (⟨by omega, by omega⟩) rfl ls (lv_sub hl [2, 3, 1, 0] rfl)
