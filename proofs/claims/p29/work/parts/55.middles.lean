set_option maxHeartbeats 4000000 in
set_option maxRecDepth 100000 in
theorem m_L_areMiddlesSo (l : Launch) (D : va_G) (cI cS : ClassId) (a : Nat → Nat) (u : WT) (s : St) (T : Int) (hT : T ≤ 50000) (hO : OKG T u s) (zz : Nat) : Met l yL_areMiddlesSo (.code yL_areMiddlesSo cL_areMiddlesSo 8 (some .boolean) :: wsA) ({ frames := 7, cells := 0, slots := 0, locals := 160 } : Room) (va_Pc [.ref (a 112)] (PW D cI cS 113 a (exU cI cS a u) zz)) (va_Qi (fun (r : Int32) (u : WT) => r = 1 ∧ OKG T u s) (BW D 113 a (fun u => exU cI cS a u)) (AX 113 a zz)) 0 0 (AX 113 a zz) := by
  refine mgo (by decide) (Nat.le_of_ble_eq_true rfl) ?_
  intro p e z m below meth c hx hb hr hml hown hts hlocks hB ls hl
  obtain ⟨hsz, hP, hK, hE⟩ := hB
  subst hsz
  have hS : va_S (AX 113 a z.heap.size) z.heap z.heap [] := va_S.rf
  have hl : lv_has ls 8 [(0, .ref (a 112))] := hl
  obtain ⟨sz, hf, hok, hG, hH⟩ := hO
  have hsz6 := hok.2.1
  have hsq := svQ_lt hsz6
  refine lv_aload_n hx hb dL_areMiddlesSo_0 rfl (lv_at hl 0 rfl) ?_
  refine lv_iconst (v := 2) hx hb dL_areMiddlesSo_1 (by decide) ?_
  refine rw_i hS (va_runV (As := [.int 2]) (rest := []) ⟨hx, hb, hml, hown, hts⟩ (a_X6_count l D cI cS a u s sz hf hok 2 (by omega) _) (cwV 1 hts (gV tw179 tw176 tw177 tw178 tw1) rfl rfl rfl (by decide +kernel) ⟨Nat.le_of_ble_eq_true rfl, Nat.le_of_ble_eq_true rfl⟩) (pvW 112 hK hP hE (by decide) xc112 rfl) rfl rfl hl.1 rfl (lv_room (Nat.le_of_ble_eq_true rfl)) dL_areMiddlesSo_2 ⟨Nat.le_of_ble_eq_true rfl, Nat.le_of_ble_eq_true rfl⟩) (fun r2 u3 H locs hr1 hP hS => ?_)
  obtain ⟨hr9, hok⟩ := hr1
  subst hr9
  refine lv_istore_n (lv' := [(1, .int (midI (wordA s) (s 7))), (0, .ref (a 112))]) hx hb dL_areMiddlesSo_5 rfl hl (by decide) rfl (fun ls hl => ?_)
  refine lv_aload_n hx hb dL_areMiddlesSo_6 rfl (lv_at hl 1 rfl) ?_
  refine rw_i hS (va_runV (As := []) (rest := []) ⟨hx, hb, hml, hown, hts⟩ (a_X6_pivot l D cI cS a u3 s sz hf hok _) (cwV 0 hts (gV tw586 tw583 tw584 tw585 tw1) rfl rfl rfl (by decide +kernel) ⟨Nat.le_of_ble_eq_true rfl, Nat.le_of_ble_eq_true rfl⟩) (pvW 112 hK hP hE (by decide) xc112 rfl) rfl rfl hl.1 rfl (lv_room (Nat.le_of_ble_eq_true rfl)) dL_areMiddlesSo_7 ⟨Nat.le_of_ble_eq_true rfl, Nat.le_of_ble_eq_true rfl⟩) (fun r5 u6 H locs hr4 hP hS => ?_)
  obtain ⟨hr9, hok⟩ := hr4
  subst hr9
  refine lv_istore_n (lv' := [(2, .int (pivI s)), (1, .int (midI (wordA s) (s 7))), (0, .ref (a 112))]) hx hb dL_areMiddlesSo_10 rfl hl (by decide) rfl (fun ls hl => ?_)
  refine lv_iconst (v := (-1)) hx hb dL_areMiddlesSo_11 (by decide) ?_
  refine lv_istore_n (lv' := [(3, .int (-1)), (2, .int (pivI s)), (1, .int (midI (wordA s) (s 7))), (0, .ref (a 112))]) hx hb dL_areMiddlesSo_12 rfl hl (by decide) rfl (fun ls hl => ?_)
  refine lv_iconst (v := (-1)) hx hb dL_areMiddlesSo_13 (by decide) ?_
  refine lv_istore (lv' := [(4, .int (-1)), (3, .int (-1)), (2, .int (pivI s)), (1, .int (midI (wordA s) (s 7))), (0, .ref (a 112))]) hx hb dL_areMiddlesSo_14 hl (by decide) rfl (fun ls hl => ?_)
  refine lv_iload_n hx hb dL_areMiddlesSo_16 rfl (lv_at hl 3 rfl) ?_
  refine lv_aload_n hx hb dL_areMiddlesSo_17 rfl (lv_at hl 4 rfl) ?_
  refine lv_iconst (v := 3) hx hb dL_areMiddlesSo_18 (by decide) ?_
  refine rw_i hS (va_runV (As := [.int 3]) (rest := [.int (midI (wordA s) (s 7))]) ⟨hx, hb, hml, hown, hts⟩ (a_X6_count l D cI cS a u6 s sz hf hok 3 (by omega) _) (cwV 1 hts (gV tw179 tw176 tw177 tw178 tw1) rfl rfl rfl (by decide +kernel) ⟨Nat.le_of_ble_eq_true rfl, Nat.le_of_ble_eq_true rfl⟩) (pvW 112 hK hP hE (by decide) xc112 rfl) rfl rfl hl.1 rfl (lv_room (Nat.le_of_ble_eq_true rfl)) dL_areMiddlesSo_19 ⟨Nat.le_of_ble_eq_true rfl, Nat.le_of_ble_eq_true rfl⟩) (fun r8 u9 H locs hr7 hP hS => ?_)
  obtain ⟨hr9, hok⟩ := hr7
  subst hr9
  refine lv_icmp_ne (tgt := 39) hx hb dL_areMiddlesSo_22 (by decide) (fun h0 => absurd h0 (fun q9 => q9 (mid_A hG.1))) (fun _ => ?_)
  refine lv_aload_n hx hb dL_areMiddlesSo_25 rfl (lv_at hl 4 rfl) ?_
  refine lv_iload_n hx hb dL_areMiddlesSo_26 rfl (lv_at hl 3 rfl) ?_
  refine lv_bipush (v := 9) hx hb dL_areMiddlesSo_27 (by decide) ?_
  refine rw_i hS (va_runS (As := [.ref (a 112), .int (midI (wordA s) (s 7)), .int 9]) (rest := []) ⟨hx, hb, hml, hown, hts⟩ (m_L_isMiddle l D cI cS a u9 s sz hf hok (midI (wordA s) (s 7)) 9 (by omega) (im_now hG.1) _) (va_cwS 3 hts (gS tw593 tw591 tw592 tw0) rfl rfl rfl (by decide +kernel) ⟨Nat.le_of_ble_eq_true rfl, Nat.le_of_ble_eq_true rfl⟩) (psW hK hP hE) rfl rfl hl.1 rfl (lv_room (Nat.le_of_ble_eq_true rfl)) dL_areMiddlesSo_29 ⟨Nat.le_of_ble_eq_true rfl, Nat.le_of_ble_eq_true rfl⟩) (fun r11 u12 H locs hr10 hP hS => ?_)
  obtain ⟨hr9, hok⟩ := hr10
  subst hr9
  refine lv_if_eq (tgt := 39) hx hb dL_areMiddlesSo_32 (by decide) (fun h0 => absurd h0 (by decide)) (fun _ => ?_)
  refine lv_iconst (v := 1) hx hb dL_areMiddlesSo_35 (by decide) ?_
  refine lv_goto (tgt := 40) hx hb dL_areMiddlesSo_36 (by decide) ?_
  refine lv_istore (lv' := [(5, .int 1), (4, .int (-1)), (3, .int (-1)), (2, .int (pivI s)), (1, .int (midI (wordA s) (s 7))), (0, .ref (a 112))]) hx hb dL_areMiddlesSo_40 hl (by decide) rfl (fun ls hl => ?_)
  refine lv_iconst (v := 0) hx hb dL_areMiddlesSo_42 (by decide) ?_
  refine lv_istore (lv' := [(6, .int 0), (5, .int 1), (4, .int (-1)), (3, .int (-1)), (2, .int (pivI s)), (1, .int (midI (wordA s) (s 7))), (0, .ref (a 112))]) hx hb dL_areMiddlesSo_43 hl (by decide) rfl (fun ls hl => ?_)
  have loop45 : ∀ (fu : Nat) (j : Nat) (bv : Int32) (xv : Int32) (u : WT), 7 + 1 ≤ j + fu → (j ≤ 7) → (UOk u s sz hf) → (fmF s j = (bv, xv)) → ∀ (H : Heap) (locs : List Loc), HP D 113 a (exU cI cS a u) H → va_S (AX 113 a z.heap.size) z.heap H locs → ∀ ls : Array Slot, lv_has ls 8 [(0, .ref (a 112)), (1, .int (midI (wordA s) (s 7))), (2, .int (pivI s)), (3, .int xv), (4, .int bv), (5, .int 1), (6, .int (nI j))] → W p l e ({ frames := 7, cells := 0, slots := 0, locals := 160 } : Room) z m ([.ref (a 112)] : List Value).toArray below meth c H locs 0 0 (MQ below (va_Qi (fun (r : Int32) (u : WT) => r = 1 ∧ OKG T u s) (BW D 113 a (fun u => exU cI cS a u)) (AX 113 a z.heap.size)) ([.ref (a 112)] : List Value).toArray z 0 0 (AX 113 a z.heap.size)) (F0 m 45 ls []) := by
    intro fu
    induction fu with
    | zero => intro j bv xv u hn hj hok hv; exact absurd hn (by omega)
    | succ fu ih45 =>
      intro j bv xv u hn hj hok hv H locs hP hS ls hl
      refine lv_iload hx hb dL_areMiddlesSo_45 (lv_at hl 6 rfl) ?_
      refine lv_bipush (v := 7) hx hb dL_areMiddlesSo_47 (by decide) ?_
      refine lv_icmp_ge (tgt := 123) hx hb dL_areMiddlesSo_49 (by decide) (fun c13 => ?_) (fun c13 => ?_)
      · skip
        have c13x := Int32.not_lt.mpr c13
        have c13n := (nI_le2 (p := 7) (q := j) rfl rfl (by omega) (by omega)).mp c13
        have c13n : 7 ≤ j := c13n
        have hjq : 7 = j := by omega
        subst hjq
        refine lv_iload hx hb dL_areMiddlesSo_123 (lv_at hl 5 rfl) ?_
        refine lv_if_eq (tgt := 138) hx hb dL_areMiddlesSo_125 (by decide) (fun h0 => absurd h0 (by decide)) (fun _ => ?_)
        refine lv_iload_n hx hb dL_areMiddlesSo_128 rfl (lv_at hl 2 rfl) ?_
        refine lv_iload hx hb dL_areMiddlesSo_129 (lv_at hl 4 rfl) ?_
        refine lv_icmp_ne (tgt := 138) hx hb dL_areMiddlesSo_131 (by decide) (fun h0 => absurd h0 (fun q9 => q9 (fm_piv hv))) (fun _ => ?_)
        refine lv_iconst (v := 1) hx hb dL_areMiddlesSo_134 (by decide) ?_
        refine lv_goto (tgt := 139) hx hb dL_areMiddlesSo_135 (by decide) ?_
        exact rw_ir hx hb hr rfl hlocks hS u hP ⟨rfl, _, _, hok, hG, hH⟩ dL_areMiddlesSo_139
      · skip
        have c13x := Int32.not_le.mp c13
        have c13n := fun hq0 => c13 ((nI_le2 (p := 7) (q := j) rfl rfl (by omega) (by omega)).mpr hq0)
        have c13n : ¬ (7 ≤ j) := c13n
        refine lv_aload_n hx hb dL_areMiddlesSo_52 rfl (lv_at hl 0 rfl) ?_
        refine lv_iload hx hb dL_areMiddlesSo_53 (lv_at hl 6 rfl) ?_
        refine rw_i hS (va_runV (As := [.int (nI j)]) (rest := []) ⟨hx, hb, hml, hown, hts⟩ (a_X6_without l D cI cS a u s sz hf hok j (by omega) _) (cwV 1 hts (gV tw597 tw594 tw595 tw596 tw1) rfl rfl rfl (by decide +kernel) ⟨Nat.le_of_ble_eq_true rfl, Nat.le_of_ble_eq_true rfl⟩) (pvW 112 hK hP hE (by decide) xc112 rfl) rfl rfl hl.1 rfl (lv_room (Nat.le_of_ble_eq_true rfl)) dL_areMiddlesSo_55 ⟨Nat.le_of_ble_eq_true rfl, Nat.le_of_ble_eq_true rfl⟩) (fun r15 u16 H locs hr14 hP hS => ?_)
        obtain ⟨hr9, hok⟩ := hr14
        subst hr9
        refine lv_istore (lv' := [(7, .int (midW s j 0)), (0, .ref (a 112)), (1, .int (midI (wordA s) (s 7))), (2, .int (pivI s)), (3, .int xv), (4, .int bv), (5, .int 1), (6, .int (nI j))]) hx hb dL_areMiddlesSo_58 hl (by decide) rfl (fun ls hl => ?_)
        refine lv_iload hx hb dL_areMiddlesSo_60 (lv_at hl 6 rfl) ?_
        refine lv_if_eq (tgt := 80) hx hb dL_areMiddlesSo_62 (by decide) (fun h0 => absurd h0 (by decide)) (fun _ => ?_)
        refine lv_aload_n hx hb dL_areMiddlesSo_65 rfl (lv_at hl 1 rfl) ?_
        refine lv_iload hx hb dL_areMiddlesSo_66 (lv_at hl 0 rfl) ?_
        refine lv_iload hx hb dL_areMiddlesSo_68 (lv_at hl 7 rfl) ?_
        refine rw_i hS (va_runS (As := [.ref (a 112), .int (midW s j 0), .int (nI j)]) (rest := []) ⟨hx, hb, hml, hown, hts⟩ (m_L_isMiddle l D cI cS a u16 s sz hf hok (midW s j 0) j (by omega) (im_wo hG.1 (by omega)) _) (va_cwS 3 hts (gS tw593 tw591 tw592 tw0) rfl rfl rfl (by decide +kernel) ⟨Nat.le_of_ble_eq_true rfl, Nat.le_of_ble_eq_true rfl⟩) (psW hK hP hE) rfl rfl hl.1 rfl (lv_room (Nat.le_of_ble_eq_true rfl)) dL_areMiddlesSo_70 ⟨Nat.le_of_ble_eq_true rfl, Nat.le_of_ble_eq_true rfl⟩) (fun r18 u19 H locs hr17 hP hS => ?_)
        obtain ⟨hr9, hok⟩ := hr17
        subst hr9
        refine lv_if_eq (tgt := 80) hx hb dL_areMiddlesSo_73 (by decide) (fun h0 => absurd h0 (by decide)) (fun _ => ?_)
        refine lv_iconst (v := 1) hx hb dL_areMiddlesSo_76 (by decide) ?_
        refine lv_goto (tgt := 81) hx hb dL_areMiddlesSo_77 (by decide) ?_
        refine lv_istore (lv' := [(5, .int 1), (7, .int (midW s j 0)), (0, .ref (a 112)), (1, .int (midI (wordA s) (s 7))), (2, .int (pivI s)), (3, .int xv), (4, .int bv), (6, .int (nI j))]) hx hb dL_areMiddlesSo_81 hl (by decide) rfl (fun ls hl => ?_)
        refine lv_iload_n hx hb dL_areMiddlesSo_83 rfl (lv_at hl 3 rfl) ?_
        refine lv_iconst (v := (-1)) hx hb dL_areMiddlesSo_84 (by decide) ?_
        refine lv_icmp_eq (tgt := 117) hx hb dL_areMiddlesSo_85 (by decide) (fun c20 => ?_) (fun c20 => ?_)
        · skip
          refine lv_iinc (v := nI (j + 1)) (lv' := [(6, .int (nI (j + 1))), (5, .int 1), (7, .int (midW s j 0)), (0, .ref (a 112)), (1, .int (midI (wordA s) (s 7))), (2, .int (pivI s)), (3, .int xv), (4, .int bv)]) hx hb dL_areMiddlesSo_117 hl (k := 7) rfl (nI_add j 1) (by decide) rfl (fun ls hl => ?_)
          refine lv_goto (tgt := 45) hx hb dL_areMiddlesSo_120 (by decide) ?_
          exact ih45 (j + 1) bv xv u19 (by omega) (by omega) hok (fm_a c20 hv) _ _ hP hS ls (lv_sub hl [3, 4, 5, 6, 7, 1, 0] rfl)
        · skip
          refine lv_iload hx hb dL_areMiddlesSo_88 (lv_at hl 1 rfl) ?_
          refine lv_iconst (v := (-1)) hx hb dL_areMiddlesSo_90 (by decide) ?_
          refine lv_icmp_eq (tgt := 117) hx hb dL_areMiddlesSo_91 (by decide) (fun c21 => ?_) (fun c21 => ?_)
          · skip
            refine lv_iinc (v := nI (j + 1)) (lv' := [(6, .int (nI (j + 1))), (5, .int 1), (7, .int (midW s j 0)), (0, .ref (a 112)), (1, .int (midI (wordA s) (s 7))), (2, .int (pivI s)), (3, .int xv), (4, .int bv)]) hx hb dL_areMiddlesSo_117 hl (k := 7) rfl (nI_add j 1) (by decide) rfl (fun ls hl => ?_)
            refine lv_goto (tgt := 45) hx hb dL_areMiddlesSo_120 (by decide) ?_
            exact ih45 (j + 1) bv xv u19 (by omega) (by omega) hok (fm_b c21 hv) _ _ hP hS ls (lv_sub hl [3, 4, 5, 6, 7, 1, 0] rfl)
          · skip
            refine lv_iload hx hb dL_areMiddlesSo_94 (lv_at hl 1 rfl) ?_
            refine lv_iload_n hx hb dL_areMiddlesSo_96 rfl (lv_at hl 3 rfl) ?_
            refine lv_isub hx hb dL_areMiddlesSo_97 ?_
            refine ro_i (va_runS (As := [.int ((midW s j 0) - (midI (wordA s) (s 7)))]) (rest := []) ⟨hx, hb, hml, hown, hts⟩ (m_L_size l (midW s j 0) (midI (wordA s) (s 7)) (midW_nn hG.1 (by omega) c21) (mid_nn hG.1 c20)) (va_cwS 1 hts (gS tw539 tw537 tw538 tw0) rfl rfl rfl (by decide +kernel) ⟨Nat.le_of_ble_eq_true rfl, Nat.le_of_ble_eq_true rfl⟩) ps0 rfl rfl hl.1 rfl (lv_room (Nat.le_of_ble_eq_true rfl)) dL_areMiddlesSo_98 ⟨Nat.le_of_ble_eq_true rfl, Nat.le_of_ble_eq_true rfl⟩) (fun r23 hr22 => ?_)
            subst hr22
            refine lv_iload_n hx hb dL_areMiddlesSo_101 rfl (lv_at hl 5 rfl) ?_
            refine lv_icmp_le (tgt := 117) hx hb dL_areMiddlesSo_102 (by decide) (fun c25 => ?_) (fun c25 => ?_)
            · skip
              have c25x := Int32.not_lt.mpr c25
              refine lv_iinc (v := nI (j + 1)) (lv' := [(6, .int (nI (j + 1))), (5, .int 1), (7, .int (midW s j 0)), (0, .ref (a 112)), (1, .int (midI (wordA s) (s 7))), (2, .int (pivI s)), (3, .int xv), (4, .int bv)]) hx hb dL_areMiddlesSo_117 hl (k := 7) rfl (nI_add j 1) (by decide) rfl (fun ls hl => ?_)
              refine lv_goto (tgt := 45) hx hb dL_areMiddlesSo_120 (by decide) ?_
              exact ih45 (j + 1) bv xv u19 (by omega) (by omega) hok (fm_c c25x hv) _ _ hP hS ls (lv_sub hl [3, 4, 5, 6, 7, 1, 0] rfl)
            · skip
              have c25x := Int32.not_le.mp c25
              refine lv_iload hx hb dL_areMiddlesSo_105 (lv_at hl 7 rfl) ?_
              refine lv_istore (lv' := [(4, .int (nI j)), (5, .int 1), (7, .int (midW s j 0)), (0, .ref (a 112)), (1, .int (midI (wordA s) (s 7))), (2, .int (pivI s)), (3, .int xv), (6, .int (nI j))]) hx hb dL_areMiddlesSo_107 hl (by decide) rfl (fun ls hl => ?_)
              refine lv_iload hx hb dL_areMiddlesSo_109 (lv_at hl 2 rfl) ?_
              refine lv_iload_n hx hb dL_areMiddlesSo_111 rfl (lv_at hl 4 rfl) ?_
              refine lv_isub hx hb dL_areMiddlesSo_112 ?_
              refine ro_i (va_runS (As := [.int ((midW s j 0) - (midI (wordA s) (s 7)))]) (rest := []) ⟨hx, hb, hml, hown, hts⟩ (m_L_size l (midW s j 0) (midI (wordA s) (s 7)) (midW_nn hG.1 (by omega) c21) (mid_nn hG.1 c20)) (va_cwS 1 hts (gS tw539 tw537 tw538 tw0) rfl rfl rfl (by decide +kernel) ⟨Nat.le_of_ble_eq_true rfl, Nat.le_of_ble_eq_true rfl⟩) ps0 rfl rfl hl.1 rfl (lv_room (Nat.le_of_ble_eq_true rfl)) dL_areMiddlesSo_113 ⟨Nat.le_of_ble_eq_true rfl, Nat.le_of_ble_eq_true rfl⟩) (fun r27 hr26 => ?_)
              subst hr26
              refine lv_istore_n (lv' := [(3, .int (distI (midW s j 0) (midI (wordA s) (s 7)))), (4, .int (nI j)), (5, .int 1), (7, .int (midW s j 0)), (0, .ref (a 112)), (1, .int (midI (wordA s) (s 7))), (2, .int (pivI s)), (6, .int (nI j))]) hx hb dL_areMiddlesSo_116 rfl hl (by decide) rfl (fun ls hl => ?_)
              refine lv_iinc (v := nI (j + 1)) (lv' := [(6, .int (nI (j + 1))), (3, .int (distI (midW s j 0) (midI (wordA s) (s 7)))), (4, .int (nI j)), (5, .int 1), (7, .int (midW s j 0)), (0, .ref (a 112)), (1, .int (midI (wordA s) (s 7))), (2, .int (pivI s))]) hx hb dL_areMiddlesSo_117 hl (k := 7) rfl (nI_add j 1) (by decide) rfl (fun ls hl => ?_)
              refine lv_goto (tgt := 45) hx hb dL_areMiddlesSo_120 (by decide) ?_
              exact ih45 (j + 1) (nI j) (distI (midW s j 0) (midI (wordA s) (s 7))) u19 (by omega) (by omega) hok (fm_d c20 c21 c25x hv) _ _ hP hS ls (lv_sub hl [5, 6, 7, 1, 2, 3, 0] rfl)
  exact loop45 (7 + 1) 0 (-1) (-1) u12 (by omega) (by omega) hok fm_0 _ _ hP hS ls (lv_sub hl [6, 5, 4, 3, 2, 1, 0] rfl)
