set_option maxHeartbeats 4000000 in
set_option maxRecDepth 100000 in
theorem m_L_isCorrectSo (l : Launch) (D : va_G) (cI cS : ClassId) (a : Nat → Nat) (u : WT) (s : St) (T : Int) (hT : T ≤ 50000) (hO : OKG T u s) (zz : Nat) : Met l yL_isCorrectSo (.code yL_isCorrectSo cL_isCorrectSo 7 (some .boolean) :: wsA) ({ frames := 6, cells := 0, slots := 0, locals := 129 } : Room) (va_Pc [.ref (a 112)] (PW D cI cS 113 a (exU cI cS a u) zz)) (va_Qi (fun (r : Int32) (u : WT) => r = 1 ∧ OKG T u s) (BW D 113 a (fun u => exU cI cS a u)) (AX 113 a zz)) 0 0 (AX 113 a zz) := by
  refine mgo (by decide) (Nat.le_of_ble_eq_true rfl) ?_
  intro p e z m below meth c hx hb hr hml hown hts hlocks hB ls hl
  obtain ⟨hsz, hP, hK, hE⟩ := hB
  subst hsz
  have hS : va_S (AX 113 a z.heap.size) z.heap z.heap [] := va_S.rf
  have hl : lv_has ls 7 [(0, .ref (a 112))] := hl
  obtain ⟨sz, hf, hok, hG, hH⟩ := hO
  have hsz6 := hok.2.1
  have hsq := svQ_lt hsz6
  have hsq2 := svQ_lt (sz := svQ sz + 1) (by omega)
  have hsq3 := svQ_1 (n := svQ sz)
  refine lv_iconst (v := 0) hx hb dL_isCorrectSo_0 (by decide) ?_
  refine lv_istore_n (lv' := [(1, .int 0), (0, .ref (a 112))]) hx hb dL_isCorrectSo_1 rfl hl (by decide) rfl (fun ls hl => ?_)
  refine lv_iconst (v := 0) hx hb dL_isCorrectSo_2 (by decide) ?_
  refine lv_istore_n (lv' := [(2, .int 0), (1, .int 0), (0, .ref (a 112))]) hx hb dL_isCorrectSo_3 rfl hl (by decide) rfl (fun ls hl => ?_)
  have loop4 : ∀ (fu : Nat) (j : Nat) (u : WT), 7 + 1 ≤ j + fu → (j ≤ 7) → (UOk u s sz hf) → ∀ (H : Heap) (locs : List Loc), HP D 113 a (exU cI cS a u) H → va_S (AX 113 a z.heap.size) z.heap H locs → ∀ ls : Array Slot, lv_has ls 7 [(0, .ref (a 112)), (1, .int (dsF s j)), (2, .int (nI j))] → W p l e ({ frames := 6, cells := 0, slots := 0, locals := 129 } : Room) z m ([.ref (a 112)] : List Value).toArray below meth c H locs 0 0 (MQ below (va_Qi (fun (r : Int32) (u : WT) => r = 1 ∧ OKG T u s) (BW D 113 a (fun u => exU cI cS a u)) (AX 113 a z.heap.size)) ([.ref (a 112)] : List Value).toArray z 0 0 (AX 113 a z.heap.size)) (F0 m 4 ls []) := by
    intro fu
    induction fu with
    | zero => intro j u hn hj hok; exact absurd hn (by omega)
    | succ fu ih4 =>
      intro j u hn hj hok H locs hP hS ls hl
      refine lv_iload_n hx hb dL_isCorrectSo_4 rfl (lv_at hl 2 rfl) ?_
      refine lv_bipush (v := 7) hx hb dL_isCorrectSo_5 (by decide) ?_
      refine lv_icmp_ge (tgt := 50) hx hb dL_isCorrectSo_7 (by decide) (fun c1 => ?_) (fun c1 => ?_)
      · skip
        have c1x := Int32.not_lt.mpr c1
        have c1n := (nI_le2 (p := 7) (q := j) rfl rfl (by omega) (by omega)).mp c1
        have c1n : 7 ≤ j := c1n
        have hjq : 7 = j := by omega
        subst hjq
        refine lv_aload_n hx hb dL_isCorrectSo_50 rfl (lv_at hl 0 rfl) ?_
        refine lv_bipush (v := 9) hx hb dL_isCorrectSo_51 (by decide) ?_
        refine rw_i hS (va_runV (As := [.int 9]) (rest := []) ⟨hx, hb, hml, hown, hts⟩ (a_X6_count l D cI cS a u s sz hf hok 9 (by omega) _) (cwV 1 hts (gV tw179 tw176 tw177 tw178 tw1) rfl rfl rfl (by decide +kernel) ⟨Nat.le_of_ble_eq_true rfl, Nat.le_of_ble_eq_true rfl⟩) (pvW 112 hK hP hE (by decide) xc112 rfl) rfl rfl hl.1 rfl (lv_room (Nat.le_of_ble_eq_true rfl)) dL_isCorrectSo_53 ⟨Nat.le_of_ble_eq_true rfl, Nat.le_of_ble_eq_true rfl⟩) (fun r3 u4 H locs hr2 hP hS => ?_)
        obtain ⟨hr9, hok⟩ := hr2
        subst hr9
        refine lv_istore_n (lv' := [(2, .int (sumN (s 4) 7)), (0, .ref (a 112)), (1, .int (dsF s 7))]) hx hb dL_isCorrectSo_56 rfl hl (by decide) rfl (fun ls hl => ?_)
        refine lv_aload_n hx hb dL_isCorrectSo_57 rfl (lv_at hl 1 rfl) ?_
        refine lv_bipush (v := 10) hx hb dL_isCorrectSo_58 (by decide) ?_
        refine rw_i hS (va_runV (As := [.int 10]) (rest := []) ⟨hx, hb, hml, hown, hts⟩ (a_X6_count l D cI cS a u4 s sz hf hok 10 (by omega) _) (cwV 1 hts (gV tw179 tw176 tw177 tw178 tw1) rfl rfl rfl (by decide +kernel) ⟨Nat.le_of_ble_eq_true rfl, Nat.le_of_ble_eq_true rfl⟩) (pvW 112 hK hP hE (by decide) xc112 rfl) rfl rfl hl.1 rfl (lv_room (Nat.le_of_ble_eq_true rfl)) dL_isCorrectSo_60 ⟨Nat.le_of_ble_eq_true rfl, Nat.le_of_ble_eq_true rfl⟩) (fun r6 u7 H locs hr5 hP hS => ?_)
        obtain ⟨hr9, hok⟩ := hr5
        subst hr9
        refine lv_istore_n (lv' := [(3, .int (sumN (s 5) 7)), (2, .int (sumN (s 4) 7)), (0, .ref (a 112)), (1, .int (dsF s 7))]) hx hb dL_isCorrectSo_63 rfl hl (by decide) rfl (fun ls hl => ?_)
        refine lv_aload_n hx hb dL_isCorrectSo_64 rfl (lv_at hl 2 rfl) ?_
        refine rw_i hS (va_runV (As := []) (rest := []) ⟨hx, hb, hml, hown, hts⟩ (a_X6_correct l D cI cS a u7 s sz hf hok _) (cwV 0 hts (gV tw438 tw435 tw436 tw437 tw1) rfl rfl rfl (by decide +kernel) ⟨Nat.le_of_ble_eq_true rfl, Nat.le_of_ble_eq_true rfl⟩) (pvW 112 hK hP hE (by decide) xc112 rfl) rfl rfl hl.1 rfl (lv_room (Nat.le_of_ble_eq_true rfl)) dL_isCorrectSo_65 ⟨Nat.le_of_ble_eq_true rfl, Nat.le_of_ble_eq_true rfl⟩) (fun r9 u10 H locs hr8 hP hS => ?_)
        obtain ⟨hc11, hok⟩ := hr8
        refine lv_istore (lv' := [(4, .int r9), (3, .int (sumN (s 5) 7)), (2, .int (sumN (s 4) 7)), (0, .ref (a 112)), (1, .int (dsF s 7))]) hx hb dL_isCorrectSo_68 hl (by decide) rfl (fun ls hl => ?_)
        refine lv_iload hx hb dL_isCorrectSo_70 (lv_at hl 0 rfl) ?_
        refine lv_iload_n hx hb dL_isCorrectSo_72 rfl (lv_at hl 4 rfl) ?_
        refine lv_icmp_ne (tgt := 118) hx hb dL_isCorrectSo_73 (by decide) (fun h0 => absurd h0 (fun q9 => q9 (hc11.trans (cor_due hG.1)))) (fun _ => ?_)
        refine lv_aload_n hx hb dL_isCorrectSo_76 rfl (lv_at hl 3 rfl) ?_
        refine lv_bipush (v := 9) hx hb dL_isCorrectSo_77 (by decide) ?_
        refine rw_i hS (va_runV (As := [.int 9]) (rest := []) ⟨hx, hb, hml, hown, hts⟩ (a_X6_count l D cI cS a u10 (corS 7 s) (svQ sz + 1) (svH hf sz s) hok 9 (by omega) _) (cwV 1 hts (gV tw179 tw176 tw177 tw178 tw1) rfl rfl rfl (by decide +kernel) ⟨Nat.le_of_ble_eq_true rfl, Nat.le_of_ble_eq_true rfl⟩) (pvW 112 hK hP hE (by decide) xc112 rfl) rfl rfl hl.1 rfl (lv_room (Nat.le_of_ble_eq_true rfl)) dL_isCorrectSo_79 ⟨Nat.le_of_ble_eq_true rfl, Nat.le_of_ble_eq_true rfl⟩) (fun r13 u14 H locs hr12 hP hS => ?_)
        obtain ⟨hr9, hok⟩ := hr12
        subst hr9
        refine lv_aload_n hx hb dL_isCorrectSo_82 rfl (lv_at hl 3 rfl) ?_
        refine lv_bipush (v := 10) hx hb dL_isCorrectSo_83 (by decide) ?_
        refine rw_i hS (va_runV (As := [.int 10]) (rest := [.int (sumN ((corS 7 s) 4) 7)]) ⟨hx, hb, hml, hown, hts⟩ (a_X6_count l D cI cS a u14 (corS 7 s) (svQ sz + 1) (svH hf sz s) hok 10 (by omega) _) (cwV 1 hts (gV tw179 tw176 tw177 tw178 tw1) rfl rfl rfl (by decide +kernel) ⟨Nat.le_of_ble_eq_true rfl, Nat.le_of_ble_eq_true rfl⟩) (pvW 112 hK hP hE (by decide) xc112 rfl) rfl rfl hl.1 rfl (lv_room (Nat.le_of_ble_eq_true rfl)) dL_isCorrectSo_85 ⟨Nat.le_of_ble_eq_true rfl, Nat.le_of_ble_eq_true rfl⟩) (fun r16 u17 H locs hr15 hP hS => ?_)
        obtain ⟨hr9, hok⟩ := hr15
        subst hr9
        refine lv_iadd hx hb dL_isCorrectSo_88 ?_
        refine lv_iload_n hx hb dL_isCorrectSo_89 rfl (lv_at hl 2 rfl) ?_
        refine lv_iload_n hx hb dL_isCorrectSo_90 rfl (lv_at hl 1 rfl) ?_
        refine lv_iadd hx hb dL_isCorrectSo_91 ?_
        refine lv_iload hx hb dL_isCorrectSo_92 (lv_at hl 0 rfl) ?_
        refine lv_iadd hx hb dL_isCorrectSo_94 ?_
        refine lv_icmp_ne (tgt := 118) hx hb dL_isCorrectSo_95 (by decide) (fun h0 => absurd h0 (fun q9 => q9 (by rw [hc11]; exact cor_sum))) (fun _ => ?_)
        refine lv_aload_n hx hb dL_isCorrectSo_98 rfl (lv_at hl 3 rfl) ?_
        refine lv_bipush (v := 11) hx hb dL_isCorrectSo_99 (by decide) ?_
        refine rw_i hS (va_runV (As := [.int 11]) (rest := []) ⟨hx, hb, hml, hown, hts⟩ (a_X6_count l D cI cS a u17 (corS 7 s) (svQ sz + 1) (svH hf sz s) hok 11 (by omega) _) (cwV 1 hts (gV tw179 tw176 tw177 tw178 tw1) rfl rfl rfl (by decide +kernel) ⟨Nat.le_of_ble_eq_true rfl, Nat.le_of_ble_eq_true rfl⟩) (pvW 112 hK hP hE (by decide) xc112 rfl) rfl rfl hl.1 rfl (lv_room (Nat.le_of_ble_eq_true rfl)) dL_isCorrectSo_101 ⟨Nat.le_of_ble_eq_true rfl, Nat.le_of_ble_eq_true rfl⟩) (fun r19 u20 H locs hr18 hP hS => ?_)
        obtain ⟨hr9, hok⟩ := hr18
        subst hr9
        refine lv_if_ne (tgt := 118) hx hb dL_isCorrectSo_104 (by decide) (fun h0 => absurd h0 (fun q9 => q9 (cor_off hG.1))) (fun _ => ?_)
        refine lv_aload_n hx hb dL_isCorrectSo_107 rfl (lv_at hl 3 rfl) ?_
        refine rw_i hS (va_runV (As := []) (rest := []) ⟨hx, hb, hml, hown, hts⟩ (a_X6_correct l D cI cS a u20 (corS 7 s) (svQ sz + 1) (svH hf sz s) hok _) (cwV 0 hts (gV tw438 tw435 tw436 tw437 tw1) rfl rfl rfl (by decide +kernel) ⟨Nat.le_of_ble_eq_true rfl, Nat.le_of_ble_eq_true rfl⟩) (pvW 112 hK hP hE (by decide) xc112 rfl) rfl rfl hl.1 rfl (lv_room (Nat.le_of_ble_eq_true rfl)) dL_isCorrectSo_108 ⟨Nat.le_of_ble_eq_true rfl, Nat.le_of_ble_eq_true rfl⟩) (fun r22 u23 H locs hr21 hP hS => ?_)
        obtain ⟨hc24, hok⟩ := hr21
        refine lv_if_ne (tgt := 118) hx hb dL_isCorrectSo_111 (by decide) (fun h0 => absurd h0 (fun q9 => q9 (hc24.trans (cor_2 hG.1)))) (fun _ => ?_)
        refine lv_iconst (v := 1) hx hb dL_isCorrectSo_114 (by decide) ?_
        refine lv_goto (tgt := 119) hx hb dL_isCorrectSo_115 (by decide) ?_
        refine lv_istore (lv' := [(5, .int 1), (4, .int r9), (3, .int (sumN (s 5) 7)), (2, .int (sumN (s 4) 7)), (0, .ref (a 112)), (1, .int (dsF s 7))]) hx hb dL_isCorrectSo_119 hl (by decide) rfl (fun ls hl => ?_)
        refine lv_aload_n hx hb dL_isCorrectSo_121 rfl (lv_at hl 4 rfl) ?_
        refine rw_i hS (va_runV (As := []) (rest := []) ⟨hx, hb, hml, hown, hts⟩ (a_X6_undo l D cI cS a u23 (corS 7 (corS 7 s)) (svQ (svQ sz + 1) + 1) (svH (svH hf sz s) (svQ sz + 1) (corS 7 s)) hok (by omega) _) (cwV 0 hts (gV tw510 tw507 tw508 tw509 tw1) rfl rfl rfl (by decide +kernel) ⟨Nat.le_of_ble_eq_true rfl, Nat.le_of_ble_eq_true rfl⟩) (pvW 112 hK hP hE (by decide) xc112 rfl) rfl rfl hl.1 rfl (lv_room (Nat.le_of_ble_eq_true rfl)) dL_isCorrectSo_122 ⟨Nat.le_of_ble_eq_true rfl, Nat.le_of_ble_eq_true rfl⟩) (fun r26 u27 H locs hr25 hP hS => ?_)
        obtain ⟨hr9, hok⟩ := hr25
        subst hr9
        rw [svH_top] at hok
        refine lv_istore (lv' := [(6, .int (nI ((svQ (svQ sz + 1) + 1) - 1))), (5, .int 1), (4, .int r9), (3, .int (sumN (s 5) 7)), (2, .int (sumN (s 4) 7)), (0, .ref (a 112)), (1, .int (dsF s 7))]) hx hb dL_isCorrectSo_125 hl (by decide) rfl (fun ls hl => ?_)
        refine lv_aload_n hx hb dL_isCorrectSo_127 rfl (lv_at hl 5 rfl) ?_
        refine rw_i hS (va_runV (As := []) (rest := []) ⟨hx, hb, hml, hown, hts⟩ (a_X6_undo l D cI cS a u27 (corS 7 s) ((svQ (svQ sz + 1) + 1) - 1) (svH (svH hf sz s) (svQ sz + 1) (corS 7 s)) hok (by omega) _) (cwV 0 hts (gV tw510 tw507 tw508 tw509 tw1) rfl rfl rfl (by decide +kernel) ⟨Nat.le_of_ble_eq_true rfl, Nat.le_of_ble_eq_true rfl⟩) (pvW 112 hK hP hE (by decide) xc112 rfl) rfl rfl hl.1 rfl (lv_room (Nat.le_of_ble_eq_true rfl)) dL_isCorrectSo_128 ⟨Nat.le_of_ble_eq_true rfl, Nat.le_of_ble_eq_true rfl⟩) (fun r29 u30 H locs hr28 hP hS => ?_)
        obtain ⟨hr9, hok⟩ := hr28
        subst hr9
        rw [(svH_2 hsz6)] at hok
        refine lv_istore (lv' := [(6, .int (nI (((svQ (svQ sz + 1) + 1) - 1) - 1))), (5, .int 1), (4, .int r9), (3, .int (sumN (s 5) 7)), (2, .int (sumN (s 4) 7)), (0, .ref (a 112)), (1, .int (dsF s 7))]) hx hb dL_isCorrectSo_131 hl (by decide) rfl (fun ls hl => ?_)
        refine lv_iload hx hb dL_isCorrectSo_133 (lv_at hl 1 rfl) ?_
        refine lv_if_eq (tgt := 167) hx hb dL_isCorrectSo_135 (by decide) (fun h0 => absurd h0 (by decide)) (fun _ => ?_)
        refine lv_iload hx hb dL_isCorrectSo_138 (lv_at hl 0 rfl) ?_
        refine lv_if_lt (tgt := 167) hx hb dL_isCorrectSo_140 (by decide) (fun h0 => absurd h0 (nI_n0 (by omega))) (fun _ => ?_)
        refine lv_aload_n hx hb dL_isCorrectSo_143 rfl (lv_at hl 5 rfl) ?_
        refine lv_bipush (v := 9) hx hb dL_isCorrectSo_144 (by decide) ?_
        refine rw_i hS (va_runV (As := [.int 9]) (rest := []) ⟨hx, hb, hml, hown, hts⟩ (a_X6_count l D cI cS a u30 s (((svQ (svQ sz + 1) + 1) - 1) - 1) (svH (svH hf sz s) (svQ sz + 1) (corS 7 s)) hok 9 (by omega) _) (cwV 1 hts (gV tw179 tw176 tw177 tw178 tw1) rfl rfl rfl (by decide +kernel) ⟨Nat.le_of_ble_eq_true rfl, Nat.le_of_ble_eq_true rfl⟩) (pvW 112 hK hP hE (by decide) xc112 rfl) rfl rfl hl.1 rfl (lv_room (Nat.le_of_ble_eq_true rfl)) dL_isCorrectSo_146 ⟨Nat.le_of_ble_eq_true rfl, Nat.le_of_ble_eq_true rfl⟩) (fun r32 u33 H locs hr31 hP hS => ?_)
        obtain ⟨hr9, hok⟩ := hr31
        subst hr9
        refine lv_iload_n hx hb dL_isCorrectSo_149 rfl (lv_at hl 4 rfl) ?_
        refine lv_icmp_ne (tgt := 167) hx hb dL_isCorrectSo_150 (by decide) (fun h0 => absurd h0 (fun q9 => q9 rfl)) (fun _ => ?_)
        refine lv_aload_n hx hb dL_isCorrectSo_153 rfl (lv_at hl 5 rfl) ?_
        refine lv_bipush (v := 10) hx hb dL_isCorrectSo_154 (by decide) ?_
        refine rw_i hS (va_runV (As := [.int 10]) (rest := []) ⟨hx, hb, hml, hown, hts⟩ (a_X6_count l D cI cS a u33 s (((svQ (svQ sz + 1) + 1) - 1) - 1) (svH (svH hf sz s) (svQ sz + 1) (corS 7 s)) hok 10 (by omega) _) (cwV 1 hts (gV tw179 tw176 tw177 tw178 tw1) rfl rfl rfl (by decide +kernel) ⟨Nat.le_of_ble_eq_true rfl, Nat.le_of_ble_eq_true rfl⟩) (pvW 112 hK hP hE (by decide) xc112 rfl) rfl rfl hl.1 rfl (lv_room (Nat.le_of_ble_eq_true rfl)) dL_isCorrectSo_156 ⟨Nat.le_of_ble_eq_true rfl, Nat.le_of_ble_eq_true rfl⟩) (fun r35 u36 H locs hr34 hP hS => ?_)
        obtain ⟨hr9, hok⟩ := hr34
        subst hr9
        refine lv_iload_n hx hb dL_isCorrectSo_159 rfl (lv_at hl 3 rfl) ?_
        refine lv_icmp_ne (tgt := 167) hx hb dL_isCorrectSo_160 (by decide) (fun h0 => absurd h0 (fun q9 => q9 rfl)) (fun _ => ?_)
        refine lv_iconst (v := 1) hx hb dL_isCorrectSo_163 (by decide) ?_
        refine lv_goto (tgt := 168) hx hb dL_isCorrectSo_164 (by decide) ?_
        exact rw_ir hx hb hr rfl hlocks hS u36 hP ⟨rfl, _, _, hok, hG, hH.sv2 hsz6 hG⟩ dL_isCorrectSo_168
      · skip
        have c1x := Int32.not_le.mp c1
        have c1n := fun hq0 => c1 ((nI_le2 (p := 7) (q := j) rfl rfl (by omega) (by omega)).mpr hq0)
        have c1n : ¬ (7 ≤ j) := c1n
        refine lv_aload_n hx hb dL_isCorrectSo_10 rfl (lv_at hl 0 rfl) ?_
        refine lv_iload_n hx hb dL_isCorrectSo_11 rfl (lv_at hl 2 rfl) ?_
        refine lv_iconst (v := 0) hx hb dL_isCorrectSo_12 (by decide) ?_
        refine ro_i (va_runV (As := [.int (nI j), .int 0]) (rest := []) ⟨hx, hb, hml, hown, hts⟩ (a_X6_dial l D cI cS a u s sz hf hok j 0 (by omega) (by omega)) (cwV 2 hts (gV tw522 tw519 tw520 tw521 tw1) rfl rfl rfl (by decide +kernel) ⟨Nat.le_of_ble_eq_true rfl, Nat.le_of_ble_eq_true rfl⟩) (pvR 112 hK hP (by decide) xc112 rfl) rfl rfl hl.1 rfl (lv_room (Nat.le_of_ble_eq_true rfl)) dL_isCorrectSo_13 ⟨Nat.le_of_ble_eq_true rfl, Nat.le_of_ble_eq_true rfl⟩) (fun r38 hr37 => ?_)
        subst hr37
        refine lv_aload_n hx hb dL_isCorrectSo_16 rfl (lv_at hl 0 rfl) ?_
        refine lv_iconst (v := 1) hx hb dL_isCorrectSo_17 (by decide) ?_
        refine rw_i hS (va_runV (As := [.int 1]) (rest := [.int (s 1 j)]) ⟨hx, hb, hml, hown, hts⟩ (a_X6_count l D cI cS a u s sz hf hok 1 (by omega) _) (cwV 1 hts (gV tw179 tw176 tw177 tw178 tw1) rfl rfl rfl (by decide +kernel) ⟨Nat.le_of_ble_eq_true rfl, Nat.le_of_ble_eq_true rfl⟩) (pvW 112 hK hP hE (by decide) xc112 rfl) rfl rfl hl.1 rfl (lv_room (Nat.le_of_ble_eq_true rfl)) dL_isCorrectSo_18 ⟨Nat.le_of_ble_eq_true rfl, Nat.le_of_ble_eq_true rfl⟩) (fun r41 u42 H locs hr40 hP hS => ?_)
        obtain ⟨hr9, hok⟩ := hr40
        subst hr9
        refine lv_isub hx hb dL_isCorrectSo_21 ?_
        refine ro_i (va_runS (As := [.int ((s 1 j) - (s 0 1))]) (rest := []) ⟨hx, hb, hml, hown, hts⟩ (m_L_size l (s 1 j) (s 0 1) (hG.n1 (by omega)) hG.n01) (va_cwS 1 hts (gS tw539 tw537 tw538 tw0) rfl rfl rfl (by decide +kernel) ⟨Nat.le_of_ble_eq_true rfl, Nat.le_of_ble_eq_true rfl⟩) ps0 rfl rfl hl.1 rfl (lv_room (Nat.le_of_ble_eq_true rfl)) dL_isCorrectSo_22 ⟨Nat.le_of_ble_eq_true rfl, Nat.le_of_ble_eq_true rfl⟩) (fun r44 hr43 => ?_)
        subst hr43
        refine lv_aload_n hx hb dL_isCorrectSo_25 rfl (lv_at hl 0 rfl) ?_
        refine lv_iconst (v := 1) hx hb dL_isCorrectSo_26 (by decide) ?_
        refine ro_i (va_runV (As := [.int 1]) (rest := [.int (distI (s 1 j) (s 0 1))]) ⟨hx, hb, hml, hown, hts⟩ (a_X6_setting l D cI cS a u42 s sz hf hok 1 (by omega)) (cwV 1 hts (gV tw543 tw540 tw541 tw542 tw1) rfl rfl rfl (by decide +kernel) ⟨Nat.le_of_ble_eq_true rfl, Nat.le_of_ble_eq_true rfl⟩) (pvR 112 hK hP (by decide) xc112 rfl) rfl rfl hl.1 rfl (lv_room (Nat.le_of_ble_eq_true rfl)) dL_isCorrectSo_27 ⟨Nat.le_of_ble_eq_true rfl, Nat.le_of_ble_eq_true rfl⟩) (fun r47 hr46 => ?_)
        subst hr46
        refine lv_isub hx hb dL_isCorrectSo_30 ?_
        refine lv_istore_n (lv' := [(3, .int ((distI (s 1 j) (s 0 1)) - (s 10 1))), (0, .ref (a 112)), (1, .int (dsF s j)), (2, .int (nI j))]) hx hb dL_isCorrectSo_31 rfl hl (by decide) rfl (fun ls hl => ?_)
        refine lv_iload_n hx hb dL_isCorrectSo_32 rfl (lv_at hl 2 rfl) ?_
        refine lv_iload_n hx hb dL_isCorrectSo_33 rfl (lv_at hl 0 rfl) ?_
        have cut42 : ∀ (H : Heap) (locs : List Loc), HP D 113 a (exU cI cS a u42) H → va_S (AX 113 a z.heap.size) z.heap H locs → ∀ ls : Array Slot, lv_has ls 7 [(3, .int ((distI (s 1 j) (s 0 1)) - (s 10 1))), (0, .ref (a 112)), (1, .int (dsF s j)), (2, .int (nI j))] → W p l e ({ frames := 6, cells := 0, slots := 0, locals := 129 } : Room) z m ([.ref (a 112)] : List Value).toArray below meth c H locs 0 0 (MQ below (va_Qi (fun (r : Int32) (u : WT) => r = 1 ∧ OKG T u s) (BW D 113 a (fun u => exU cI cS a u)) (AX 113 a z.heap.size)) ([.ref (a 112)] : List Value).toArray z 0 0 (AX 113 a z.heap.size)) (F0 m 42 ls [.int (if 0 < distI (s 1 j) (s 0 1) - s 10 1 then distI (s 1 j) (s 0 1) - s 10 1 else 0), .int (dsF s j)]) := by
          intro H locs hP hS ls hl
          refine lv_iadd hx hb dL_isCorrectSo_42 ?_
          refine lv_istore_n (lv' := [(1, .int ((dsF s j) + (if 0 < distI (s 1 j) (s 0 1) - s 10 1 then distI (s 1 j) (s 0 1) - s 10 1 else 0))), (3, .int ((distI (s 1 j) (s 0 1)) - (s 10 1))), (0, .ref (a 112)), (2, .int (nI j))]) hx hb dL_isCorrectSo_43 rfl hl (by decide) rfl (fun ls hl => ?_)
          refine lv_iinc (v := nI (j + 1)) (lv' := [(2, .int (nI (j + 1))), (1, .int ((dsF s j) + (if 0 < distI (s 1 j) (s 0 1) - s 10 1 then distI (s 1 j) (s 0 1) - s 10 1 else 0))), (3, .int ((distI (s 1 j) (s 0 1)) - (s 10 1))), (0, .ref (a 112))]) hx hb dL_isCorrectSo_44 hl (k := 3) rfl (nI_add j 1) (by decide) rfl (fun ls hl => ?_)
          refine lv_goto (tgt := 4) hx hb dL_isCorrectSo_47 (by decide) ?_
          exact ih4 (j + 1) u42 (by omega) (by omega) hok _ _ hP hS ls (lv_sub hl [3, 1, 0] rfl)
        refine lv_if_le (tgt := 41) hx hb dL_isCorrectSo_34 (by decide) (fun c49 => ?_) (fun c49 => ?_)
        · skip
          have c49x := Int32.not_lt.mpr c49
          refine lv_iconst (v := 0) hx hb dL_isCorrectSo_41 (by decide) ?_
          refine lv_as (y := if 0 < distI (s 1 j) (s 0 1) - s 10 1 then distI (s 1 j) (s 0 1) - s 10 1 else 0) (if_neg c49x).symm ?_
          exact cut42 _ _ hP hS ls (lv_sub hl [0, 1, 2, 3] rfl)
        · skip
          have c49x := Int32.not_le.mp c49
          refine lv_iload_n hx hb dL_isCorrectSo_37 rfl (lv_at hl 0 rfl) ?_
          refine lv_goto (tgt := 42) hx hb dL_isCorrectSo_38 (by decide) ?_
          refine lv_as (y := if 0 < distI (s 1 j) (s 0 1) - s 10 1 then distI (s 1 j) (s 0 1) - s 10 1 else 0) (if_pos c49x).symm ?_
          exact cut42 _ _ hP hS ls (lv_sub hl [0, 1, 2, 3] rfl)
  exact loop4 (7 + 1) 0 u (by omega) (by omega) hok _ _ hP hS ls (lv_sub hl [2, 1, 0] rfl)
