set_option maxHeartbeats 4000000 in
set_option maxRecDepth 100000 in
theorem m_L_isVoteSo (l : Launch) (D : va_G) (cI cS : ClassId) (a : Nat → Nat) (u : WT) (s : St) (T : Int) (hT : T ≤ 50000) (hO : OKG T u s) (zz : Nat) : Met l yL_isVoteSo (.code yL_isVoteSo cL_isVoteSo 11 (some .boolean) :: wsA) ({ frames := 6, cells := 0, slots := 0, locals := 131 } : Room) (va_Pc [.ref (a 112)] (PW D cI cS 113 a (exU cI cS a u) zz)) (va_Qi (fun (r : Int32) (u : WT) => r = 1 ∧ OKG T u s) (BW D 113 a (fun u => exU cI cS a u)) (AX 113 a zz)) 0 0 (AX 113 a zz) := by
  refine mgo (by decide) (Nat.le_of_ble_eq_true rfl) ?_
  intro p e z m below meth c hx hb hr hml hown hts hlocks hB ls hl
  obtain ⟨hsz, hP, hK, hE⟩ := hB
  subst hsz
  have hS : va_S (AX 113 a z.heap.size) z.heap z.heap [] := va_S.rf
  have hl : lv_has ls 11 [(0, .ref (a 112))] := hl
  obtain ⟨sz, hf, hok, hG, hH⟩ := hO
  have hsz6 := hok.2.1
  have hsq := svQ_lt hsz6
  refine lv_aload_n hx hb dL_isVoteSo_0 rfl (lv_at hl 0 rfl) ?_
  refine lv_iconst (v := 4) hx hb dL_isVoteSo_1 (by decide) ?_
  refine rw_i hS (va_runV (As := [.int 4]) (rest := []) ⟨hx, hb, hml, hown, hts⟩ (a_X6_count l D cI cS a u s sz hf hok 4 (by omega) _) (cwV 1 hts (gV tw179 tw176 tw177 tw178 tw1) rfl rfl rfl (by decide +kernel) ⟨Nat.le_of_ble_eq_true rfl, Nat.le_of_ble_eq_true rfl⟩) (pvW 112 hK hP hE (by decide) xc112 rfl) rfl rfl hl.1 rfl (lv_room (Nat.le_of_ble_eq_true rfl)) dL_isVoteSo_2 ⟨Nat.le_of_ble_eq_true rfl, Nat.le_of_ble_eq_true rfl⟩) (fun r2 u3 H locs hr1 hP hS => ?_)
  obtain ⟨hr9, hok⟩ := hr1
  subst hr9
  refine lv_if_ne (tgt := 10) hx hb dL_isVoteSo_5 (by decide) (fun c4 => ?_) (fun c4 => ?_)
  · skip
    have hw0 := c4
    refine lv_aload_n hx hb dL_isVoteSo_10 rfl (lv_at hl 0 rfl) ?_
    refine lv_iconst (v := 2) hx hb dL_isVoteSo_11 (by decide) ?_
    refine rw_i hS (va_runV (As := [.int 2]) (rest := []) ⟨hx, hb, hml, hown, hts⟩ (a_X6_count l D cI cS a u3 s sz hf hok 2 (by omega) _) (cwV 1 hts (gV tw179 tw176 tw177 tw178 tw1) rfl rfl rfl (by decide +kernel) ⟨Nat.le_of_ble_eq_true rfl, Nat.le_of_ble_eq_true rfl⟩) (pvW 112 hK hP hE (by decide) xc112 rfl) rfl rfl hl.1 rfl (lv_room (Nat.le_of_ble_eq_true rfl)) dL_isVoteSo_12 ⟨Nat.le_of_ble_eq_true rfl, Nat.le_of_ble_eq_true rfl⟩) (fun r6 u7 H locs hr5 hP hS => ?_)
    obtain ⟨hr9, hok⟩ := hr5
    subst hr9
    refine lv_istore_n (lv' := [(1, .int (midI (wordA s) (s 7))), (0, .ref (a 112))]) hx hb dL_isVoteSo_15 rfl hl (by decide) rfl (fun ls hl => ?_)
    refine lv_aload_n hx hb dL_isVoteSo_16 rfl (lv_at hl 1 rfl) ?_
    refine lv_iconst (v := 1) hx hb dL_isVoteSo_17 (by decide) ?_
    refine rw_i hS (va_runV (As := [.int 1]) (rest := []) ⟨hx, hb, hml, hown, hts⟩ (a_X6_count l D cI cS a u7 s sz hf hok 1 (by omega) _) (cwV 1 hts (gV tw179 tw176 tw177 tw178 tw1) rfl rfl rfl (by decide +kernel) ⟨Nat.le_of_ble_eq_true rfl, Nat.le_of_ble_eq_true rfl⟩) (pvW 112 hK hP hE (by decide) xc112 rfl) rfl rfl hl.1 rfl (lv_room (Nat.le_of_ble_eq_true rfl)) dL_isVoteSo_18 ⟨Nat.le_of_ble_eq_true rfl, Nat.le_of_ble_eq_true rfl⟩) (fun r9 u10 H locs hr8 hP hS => ?_)
    obtain ⟨hr9, hok⟩ := hr8
    subst hr9
    refine lv_istore_n (lv' := [(2, .int (s 0 1)), (1, .int (midI (wordA s) (s 7))), (0, .ref (a 112))]) hx hb dL_isVoteSo_21 rfl hl (by decide) rfl (fun ls hl => ?_)
    refine lv_aload_n hx hb dL_isVoteSo_22 rfl (lv_at hl 2 rfl) ?_
    refine lv_bipush (v := 7) hx hb dL_isVoteSo_23 (by decide) ?_
    refine rw_i hS (va_runV (As := [.int 7]) (rest := []) ⟨hx, hb, hml, hown, hts⟩ (a_X6_count l D cI cS a u10 s sz hf hok 7 (by omega) _) (cwV 1 hts (gV tw179 tw176 tw177 tw178 tw1) rfl rfl rfl (by decide +kernel) ⟨Nat.le_of_ble_eq_true rfl, Nat.le_of_ble_eq_true rfl⟩) (pvW 112 hK hP hE (by decide) xc112 rfl) rfl rfl hl.1 rfl (lv_room (Nat.le_of_ble_eq_true rfl)) dL_isVoteSo_25 ⟨Nat.le_of_ble_eq_true rfl, Nat.le_of_ble_eq_true rfl⟩) (fun r12 u13 H locs hr11 hP hS => ?_)
    obtain ⟨hr9, hok⟩ := hr11
    subst hr9
    refine lv_istore_n (lv' := [(3, .int (s 0 3)), (2, .int (s 0 1)), (1, .int (midI (wordA s) (s 7))), (0, .ref (a 112))]) hx hb dL_isVoteSo_28 rfl hl (by decide) rfl (fun ls hl => ?_)
    refine lv_aload_n hx hb dL_isVoteSo_29 rfl (lv_at hl 3 rfl) ?_
    refine lv_iconst (v := 5) hx hb dL_isVoteSo_30 (by decide) ?_
    refine rw_i hS (va_runV (As := [.int 5]) (rest := []) ⟨hx, hb, hml, hown, hts⟩ (a_X6_count l D cI cS a u13 s sz hf hok 5 (by omega) _) (cwV 1 hts (gV tw179 tw176 tw177 tw178 tw1) rfl rfl rfl (by decide +kernel) ⟨Nat.le_of_ble_eq_true rfl, Nat.le_of_ble_eq_true rfl⟩) (pvW 112 hK hP hE (by decide) xc112 rfl) rfl rfl hl.1 rfl (lv_room (Nat.le_of_ble_eq_true rfl)) dL_isVoteSo_31 ⟨Nat.le_of_ble_eq_true rfl, Nat.le_of_ble_eq_true rfl⟩) (fun r15 u16 H locs hr14 hP hS => ?_)
    obtain ⟨hr9, hok⟩ := hr14
    subst hr9
    refine lv_istore (lv' := [(4, .int (quarC s 7)), (3, .int (s 0 3)), (2, .int (s 0 1)), (1, .int (midI (wordA s) (s 7))), (0, .ref (a 112))]) hx hb dL_isVoteSo_34 hl (by decide) rfl (fun ls hl => ?_)
    refine lv_aload_n hx hb dL_isVoteSo_36 rfl (lv_at hl 4 rfl) ?_
    refine lv_iconst (v := 4) hx hb dL_isVoteSo_37 (by decide) ?_
    refine rw_i hS (va_runV (As := [.int 4]) (rest := []) ⟨hx, hb, hml, hown, hts⟩ (a_X6_count l D cI cS a u16 s sz hf hok 4 (by omega) _) (cwV 1 hts (gV tw179 tw176 tw177 tw178 tw1) rfl rfl rfl (by decide +kernel) ⟨Nat.le_of_ble_eq_true rfl, Nat.le_of_ble_eq_true rfl⟩) (pvW 112 hK hP hE (by decide) xc112 rfl) rfl rfl hl.1 rfl (lv_room (Nat.le_of_ble_eq_true rfl)) dL_isVoteSo_38 ⟨Nat.le_of_ble_eq_true rfl, Nat.le_of_ble_eq_true rfl⟩) (fun r18 u19 H locs hr17 hP hS => ?_)
    obtain ⟨hr9, hok⟩ := hr17
    subst hr9
    refine lv_istore (lv' := [(5, .int (sumN (s 7) 7)), (4, .int (quarC s 7)), (3, .int (s 0 3)), (2, .int (s 0 1)), (1, .int (midI (wordA s) (s 7))), (0, .ref (a 112))]) hx hb dL_isVoteSo_41 hl (by decide) rfl (fun ls hl => ?_)
    refine lv_iconst (v := 0) hx hb dL_isVoteSo_43 (by decide) ?_
    refine lv_istore (lv' := [(6, .int 0), (5, .int (sumN (s 7) 7)), (4, .int (quarC s 7)), (3, .int (s 0 3)), (2, .int (s 0 1)), (1, .int (midI (wordA s) (s 7))), (0, .ref (a 112))]) hx hb dL_isVoteSo_44 hl (by decide) rfl (fun ls hl => ?_)
    refine lv_iconst (v := 0) hx hb dL_isVoteSo_46 (by decide) ?_
    refine lv_istore (lv' := [(7, .int 0), (6, .int 0), (5, .int (sumN (s 7) 7)), (4, .int (quarC s 7)), (3, .int (s 0 3)), (2, .int (s 0 1)), (1, .int (midI (wordA s) (s 7))), (0, .ref (a 112))]) hx hb dL_isVoteSo_47 hl (by decide) rfl (fun ls hl => ?_)
    have loop49 : ∀ (fu : Nat) (j : Nat) (u : WT), 7 + 1 ≤ j + fu → (j ≤ 7) → (UOk u s sz hf) → ∀ (H : Heap) (locs : List Loc), HP D 113 a (exU cI cS a u) H → va_S (AX 113 a z.heap.size) z.heap H locs → ∀ ls : Array Slot, lv_has ls 11 [(0, .ref (a 112)), (1, .int (midI (wordA s) (s 7))), (2, .int (s 0 1)), (3, .int (s 0 3)), (4, .int (quarC s 7)), (5, .int (sumN (s 7) 7)), (6, .int (sumN (s 9) j)), (7, .int (nI j))] → W p l e ({ frames := 6, cells := 0, slots := 0, locals := 131 } : Room) z m ([.ref (a 112)] : List Value).toArray below meth c H locs 0 0 (MQ below (va_Qi (fun (r : Int32) (u : WT) => r = 1 ∧ OKG T u s) (BW D 113 a (fun u => exU cI cS a u)) (AX 113 a z.heap.size)) ([.ref (a 112)] : List Value).toArray z 0 0 (AX 113 a z.heap.size)) (F0 m 49 ls []) := by
      intro fu
      induction fu with
      | zero => intro j u hn hj hok; exact absurd hn (by omega)
      | succ fu ih49 =>
        intro j u hn hj hok H locs hP hS ls hl
        refine lv_iload hx hb dL_isVoteSo_49 (lv_at hl 7 rfl) ?_
        refine lv_bipush (v := 7) hx hb dL_isVoteSo_51 (by decide) ?_
        refine lv_icmp_ge (tgt := 74) hx hb dL_isVoteSo_53 (by decide) (fun c20 => ?_) (fun c20 => ?_)
        · skip
          have c20x := Int32.not_lt.mpr c20
          have c20n := (nI_le2 (p := 7) (q := j) rfl rfl (by omega) (by omega)).mp c20
          have c20n : 7 ≤ j := c20n
          have hjq : 7 = j := by omega
          subst hjq
          refine lv_aload_n hx hb dL_isVoteSo_74 rfl (lv_at hl 0 rfl) ?_
          refine rw_i hS (va_runV (As := []) (rest := []) ⟨hx, hb, hml, hown, hts⟩ (a_X6_vote l D cI cS a u s sz hf hok hw0 _) (cwV 0 hts (gV tw398 tw395 tw396 tw397 tw1) rfl rfl rfl (by decide +kernel) ⟨Nat.le_of_ble_eq_true rfl, Nat.le_of_ble_eq_true rfl⟩) (pvW 112 hK hP hE (by decide) xc112 rfl) rfl rfl hl.1 rfl (lv_room (Nat.le_of_ble_eq_true rfl)) dL_isVoteSo_75 ⟨Nat.le_of_ble_eq_true rfl, Nat.le_of_ble_eq_true rfl⟩) (fun r22 u23 H locs hr21 hP hS => ?_)
          obtain ⟨hr9, hok⟩ := hr21
          subst hr9
          refine lv_istore (lv' := [(7, .int (voteS s 0 1)), (0, .ref (a 112)), (1, .int (midI (wordA s) (s 7))), (2, .int (s 0 1)), (3, .int (s 0 3)), (4, .int (quarC s 7)), (5, .int (sumN (s 7) 7)), (6, .int (sumN (s 9) 7))]) hx hb dL_isVoteSo_78 hl (by decide) rfl (fun ls hl => ?_)
          refine lv_iconst (v := 0) hx hb dL_isVoteSo_80 (by decide) ?_
          refine lv_istore (lv' := [(8, .int 0), (7, .int (voteS s 0 1)), (0, .ref (a 112)), (1, .int (midI (wordA s) (s 7))), (2, .int (s 0 1)), (3, .int (s 0 3)), (4, .int (quarC s 7)), (5, .int (sumN (s 7) 7)), (6, .int (sumN (s 9) 7))]) hx hb dL_isVoteSo_81 hl (by decide) rfl (fun ls hl => ?_)
          refine lv_iconst (v := 0) hx hb dL_isVoteSo_83 (by decide) ?_
          refine lv_istore (lv' := [(9, .int 0), (8, .int 0), (7, .int (voteS s 0 1)), (0, .ref (a 112)), (1, .int (midI (wordA s) (s 7))), (2, .int (s 0 1)), (3, .int (s 0 3)), (4, .int (quarC s 7)), (5, .int (sumN (s 7) 7)), (6, .int (sumN (s 9) 7))]) hx hb dL_isVoteSo_84 hl (by decide) rfl (fun ls hl => ?_)
          have loop86 : ∀ (fu : Nat) (j : Nat) (u : WT), 7 + 1 ≤ j + fu → (j ≤ 7) → (UOk u (voteS s) (svQ sz + 1) (svH hf sz s)) → ∀ (H : Heap) (locs : List Loc), HP D 113 a (exU cI cS a u) H → va_S (AX 113 a z.heap.size) z.heap H locs → ∀ ls : Array Slot, lv_has ls 11 [(0, .ref (a 112)), (1, .int (midI (wordA s) (s 7))), (2, .int (s 0 1)), (3, .int (s 0 3)), (4, .int (quarC s 7)), (5, .int (sumN (s 7) 7)), (6, .int (sumN (s 9) 7)), (7, .int (voteS s 0 1)), (8, .int (sumN (voteS s 9) j)), (9, .int (nI j))] → W p l e ({ frames := 6, cells := 0, slots := 0, locals := 131 } : Room) z m ([.ref (a 112)] : List Value).toArray below meth c H locs 0 0 (MQ below (va_Qi (fun (r : Int32) (u : WT) => r = 1 ∧ OKG T u s) (BW D 113 a (fun u => exU cI cS a u)) (AX 113 a z.heap.size)) ([.ref (a 112)] : List Value).toArray z 0 0 (AX 113 a z.heap.size)) (F0 m 86 ls []) := by
            intro fu
            induction fu with
            | zero => intro j u hn hj hok; exact absurd hn (by omega)
            | succ fu ih86 =>
              intro j u hn hj hok H locs hP hS ls hl
              refine lv_iload hx hb dL_isVoteSo_86 (lv_at hl 9 rfl) ?_
              refine lv_bipush (v := 7) hx hb dL_isVoteSo_88 (by decide) ?_
              refine lv_icmp_ge (tgt := 111) hx hb dL_isVoteSo_90 (by decide) (fun c24 => ?_) (fun c24 => ?_)
              · skip
                have c24x := Int32.not_lt.mpr c24
                have c24n := (nI_le2 (p := 7) (q := j) rfl rfl (by omega) (by omega)).mp c24
                have c24n : 7 ≤ j := c24n
                have hjq : 7 = j := by omega
                subst hjq
                refine lv_iload hx hb dL_isVoteSo_111 (lv_at hl 7 rfl) ?_
                refine lv_iload_n hx hb dL_isVoteSo_113 rfl (lv_at hl 1 rfl) ?_
                refine lv_iload_n hx hb dL_isVoteSo_114 rfl (lv_at hl 2 rfl) ?_
                have cut123 : ∀ (H : Heap) (locs : List Loc), HP D 113 a (exU cI cS a u) H → va_S (AX 113 a z.heap.size) z.heap H locs → ∀ ls : Array Slot, lv_has ls 11 [(0, .ref (a 112)), (1, .int (midI (wordA s) (s 7))), (2, .int (s 0 1)), (3, .int (s 0 3)), (4, .int (quarC s 7)), (5, .int (sumN (s 7) 7)), (6, .int (sumN (s 9) 7)), (7, .int (voteS s 0 1)), (8, .int (sumN (voteS s 9) 7)), (9, .int (nI 7))] → W p l e ({ frames := 6, cells := 0, slots := 0, locals := 131 } : Room) z m ([.ref (a 112)] : List Value).toArray below meth c H locs 0 0 (MQ below (va_Qi (fun (r : Int32) (u : WT) => r = 1 ∧ OKG T u s) (BW D 113 a (fun u => exU cI cS a u)) (AX 113 a z.heap.size)) ([.ref (a 112)] : List Value).toArray z 0 0 (AX 113 a z.heap.size)) (F0 m 123 ls [.int (if s 0 1 < midI (wordA s) (s 7) then midI (wordA s) (s 7) else s 0 1), .int (voteS s 0 1)]) := by
                  intro H locs hP hS ls hl
                  refine lv_icmp_ne (tgt := 187) hx hb dL_isVoteSo_123 (by decide) (fun h0 => absurd h0 (fun q9 => q9 vote_01)) (fun _ => ?_)
                  refine lv_aload_n hx hb dL_isVoteSo_126 rfl (lv_at hl 0 rfl) ?_
                  refine lv_iconst (v := 1) hx hb dL_isVoteSo_127 (by decide) ?_
                  refine rw_i hS (va_runV (As := [.int 1]) (rest := []) ⟨hx, hb, hml, hown, hts⟩ (a_X6_count l D cI cS a u (voteS s) (svQ sz + 1) (svH hf sz s) hok 1 (by omega) _) (cwV 1 hts (gV tw179 tw176 tw177 tw178 tw1) rfl rfl rfl (by decide +kernel) ⟨Nat.le_of_ble_eq_true rfl, Nat.le_of_ble_eq_true rfl⟩) (pvW 112 hK hP hE (by decide) xc112 rfl) rfl rfl hl.1 rfl (lv_room (Nat.le_of_ble_eq_true rfl)) dL_isVoteSo_128 ⟨Nat.le_of_ble_eq_true rfl, Nat.le_of_ble_eq_true rfl⟩) (fun r26 u27 H locs hr25 hP hS => ?_)
                  obtain ⟨hr9, hok⟩ := hr25
                  subst hr9
                  refine lv_iload hx hb dL_isVoteSo_131 (lv_at hl 7 rfl) ?_
                  refine lv_icmp_ne (tgt := 187) hx hb dL_isVoteSo_133 (by decide) (fun h0 => absurd h0 (fun q9 => q9 rfl)) (fun _ => ?_)
                  refine lv_aload_n hx hb dL_isVoteSo_136 rfl (lv_at hl 0 rfl) ?_
                  refine lv_bipush (v := 7) hx hb dL_isVoteSo_137 (by decide) ?_
                  refine rw_i hS (va_runV (As := [.int 7]) (rest := []) ⟨hx, hb, hml, hown, hts⟩ (a_X6_count l D cI cS a u27 (voteS s) (svQ sz + 1) (svH hf sz s) hok 7 (by omega) _) (cwV 1 hts (gV tw179 tw176 tw177 tw178 tw1) rfl rfl rfl (by decide +kernel) ⟨Nat.le_of_ble_eq_true rfl, Nat.le_of_ble_eq_true rfl⟩) (pvW 112 hK hP hE (by decide) xc112 rfl) rfl rfl hl.1 rfl (lv_room (Nat.le_of_ble_eq_true rfl)) dL_isVoteSo_139 ⟨Nat.le_of_ble_eq_true rfl, Nat.le_of_ble_eq_true rfl⟩) (fun r29 u30 H locs hr28 hP hS => ?_)
                  obtain ⟨hr9, hok⟩ := hr28
                  subst hr9
                  refine lv_iload_n hx hb dL_isVoteSo_142 rfl (lv_at hl 3 rfl) ?_
                  refine lv_iload_n hx hb dL_isVoteSo_143 rfl (lv_at hl 1 rfl) ?_
                  refine lv_iload_n hx hb dL_isVoteSo_144 rfl (lv_at hl 2 rfl) ?_
                  have cut153 : ∀ (H : Heap) (locs : List Loc), HP D 113 a (exU cI cS a u30) H → va_S (AX 113 a z.heap.size) z.heap H locs → ∀ ls : Array Slot, lv_has ls 11 [(0, .ref (a 112)), (1, .int (midI (wordA s) (s 7))), (2, .int (s 0 1)), (3, .int (s 0 3)), (4, .int (quarC s 7)), (5, .int (sumN (s 7) 7)), (6, .int (sumN (s 9) 7)), (7, .int (voteS s 0 1)), (8, .int (sumN (voteS s 9) 7)), (9, .int (nI 7))] → W p l e ({ frames := 6, cells := 0, slots := 0, locals := 131 } : Room) z m ([.ref (a 112)] : List Value).toArray below meth c H locs 0 0 (MQ below (va_Qi (fun (r : Int32) (u : WT) => r = 1 ∧ OKG T u s) (BW D 113 a (fun u => exU cI cS a u)) (AX 113 a z.heap.size)) ([.ref (a 112)] : List Value).toArray z 0 0 (AX 113 a z.heap.size)) (F0 m 153 ls [.int (if s 0 1 < midI (wordA s) (s 7) then 0 else 1), .int (s 0 3), .int ((voteS s) 0 3)]) := by
                    intro H locs hP hS ls hl
                    refine lv_iadd hx hb dL_isVoteSo_153 ?_
                    refine lv_icmp_ne (tgt := 187) hx hb dL_isVoteSo_154 (by decide) (fun h0 => absurd h0 (fun q9 => q9 vote_03)) (fun _ => ?_)
                    refine lv_iload hx hb dL_isVoteSo_157 (lv_at hl 5 rfl) ?_
                    refine lv_aload_n hx hb dL_isVoteSo_159 rfl (lv_at hl 0 rfl) ?_
                    refine lv_iconst (v := 4) hx hb dL_isVoteSo_160 (by decide) ?_
                    refine rw_i hS (va_runV (As := [.int 4]) (rest := [.int (sumN (s 7) 7)]) ⟨hx, hb, hml, hown, hts⟩ (a_X6_count l D cI cS a u30 (voteS s) (svQ sz + 1) (svH hf sz s) hok 4 (by omega) _) (cwV 1 hts (gV tw179 tw176 tw177 tw178 tw1) rfl rfl rfl (by decide +kernel) ⟨Nat.le_of_ble_eq_true rfl, Nat.le_of_ble_eq_true rfl⟩) (pvW 112 hK hP hE (by decide) xc112 rfl) rfl rfl hl.1 rfl (lv_room (Nat.le_of_ble_eq_true rfl)) dL_isVoteSo_161 ⟨Nat.le_of_ble_eq_true rfl, Nat.le_of_ble_eq_true rfl⟩) (fun r32 u33 H locs hr31 hP hS => ?_)
                    obtain ⟨hr9, hok⟩ := hr31
                    subst hr9
                    refine lv_isub hx hb dL_isVoteSo_164 ?_
                    refine lv_iload hx hb dL_isVoteSo_165 (lv_at hl 8 rfl) ?_
                    refine lv_iload hx hb dL_isVoteSo_167 (lv_at hl 6 rfl) ?_
                    refine lv_isub hx hb dL_isVoteSo_169 ?_
                    refine lv_icmp_ne (tgt := 187) hx hb dL_isVoteSo_170 (by decide) (fun h0 => absurd h0 (fun q9 => q9 (vote_w s))) (fun _ => ?_)
                    refine lv_iload hx hb dL_isVoteSo_173 (lv_at hl 8 rfl) ?_
                    refine lv_iload hx hb dL_isVoteSo_175 (lv_at hl 6 rfl) ?_
                    refine lv_isub hx hb dL_isVoteSo_177 ?_
                    refine lv_iload hx hb dL_isVoteSo_178 (lv_at hl 4 rfl) ?_
                    refine lv_icmp_gt (tgt := 187) hx hb dL_isVoteSo_180 (by decide) (fun h0 => absurd h0 vote_q) (fun _ => ?_)
                    refine lv_iconst (v := 1) hx hb dL_isVoteSo_183 (by decide) ?_
                    refine lv_goto (tgt := 188) hx hb dL_isVoteSo_184 (by decide) ?_
                    refine lv_istore (lv' := [(9, .int 1), (0, .ref (a 112)), (1, .int (midI (wordA s) (s 7))), (2, .int (s 0 1)), (3, .int (s 0 3)), (4, .int (quarC s 7)), (5, .int (sumN (s 7) 7)), (6, .int (sumN (s 9) 7)), (7, .int (voteS s 0 1)), (8, .int (sumN (voteS s 9) 7))]) hx hb dL_isVoteSo_188 hl (by decide) rfl (fun ls hl => ?_)
                    refine lv_aload_n hx hb dL_isVoteSo_190 rfl (lv_at hl 1 rfl) ?_
                    refine rw_i hS (va_runV (As := []) (rest := []) ⟨hx, hb, hml, hown, hts⟩ (a_X6_undo l D cI cS a u33 (voteS s) (svQ sz + 1) (svH hf sz s) hok (by omega) _) (cwV 0 hts (gV tw510 tw507 tw508 tw509 tw1) rfl rfl rfl (by decide +kernel) ⟨Nat.le_of_ble_eq_true rfl, Nat.le_of_ble_eq_true rfl⟩) (pvW 112 hK hP hE (by decide) xc112 rfl) rfl rfl hl.1 rfl (lv_room (Nat.le_of_ble_eq_true rfl)) dL_isVoteSo_191 ⟨Nat.le_of_ble_eq_true rfl, Nat.le_of_ble_eq_true rfl⟩) (fun r35 u36 H locs hr34 hP hS => ?_)
                    obtain ⟨hr9, hok⟩ := hr34
                    subst hr9
                    rw [svH_top] at hok
                    refine lv_istore (lv' := [(10, .int (nI ((svQ sz + 1) - 1))), (9, .int 1), (0, .ref (a 112)), (1, .int (midI (wordA s) (s 7))), (2, .int (s 0 1)), (3, .int (s 0 3)), (4, .int (quarC s 7)), (5, .int (sumN (s 7) 7)), (6, .int (sumN (s 9) 7)), (7, .int (voteS s 0 1)), (8, .int (sumN (voteS s 9) 7))]) hx hb dL_isVoteSo_194 hl (by decide) rfl (fun ls hl => ?_)
                    refine lv_iload hx hb dL_isVoteSo_196 (lv_at hl 1 rfl) ?_
                    refine lv_if_eq (tgt := 229) hx hb dL_isVoteSo_198 (by decide) (fun h0 => absurd h0 (by decide)) (fun _ => ?_)
                    refine lv_iload hx hb dL_isVoteSo_201 (lv_at hl 0 rfl) ?_
                    refine lv_if_lt (tgt := 229) hx hb dL_isVoteSo_203 (by decide) (fun h0 => absurd h0 (nI_n0 (by omega))) (fun _ => ?_)
                    refine lv_aload_n hx hb dL_isVoteSo_206 rfl (lv_at hl 2 rfl) ?_
                    refine lv_iconst (v := 1) hx hb dL_isVoteSo_207 (by decide) ?_
                    refine rw_i hS (va_runV (As := [.int 1]) (rest := []) ⟨hx, hb, hml, hown, hts⟩ (a_X6_count l D cI cS a u36 s ((svQ sz + 1) - 1) (svH hf sz s) hok 1 (by omega) _) (cwV 1 hts (gV tw179 tw176 tw177 tw178 tw1) rfl rfl rfl (by decide +kernel) ⟨Nat.le_of_ble_eq_true rfl, Nat.le_of_ble_eq_true rfl⟩) (pvW 112 hK hP hE (by decide) xc112 rfl) rfl rfl hl.1 rfl (lv_room (Nat.le_of_ble_eq_true rfl)) dL_isVoteSo_208 ⟨Nat.le_of_ble_eq_true rfl, Nat.le_of_ble_eq_true rfl⟩) (fun r38 u39 H locs hr37 hP hS => ?_)
                    obtain ⟨hr9, hok⟩ := hr37
                    subst hr9
                    refine lv_iload_n hx hb dL_isVoteSo_211 rfl (lv_at hl 4 rfl) ?_
                    refine lv_icmp_ne (tgt := 229) hx hb dL_isVoteSo_212 (by decide) (fun h0 => absurd h0 (fun q9 => q9 rfl)) (fun _ => ?_)
                    refine lv_aload_n hx hb dL_isVoteSo_215 rfl (lv_at hl 2 rfl) ?_
                    refine lv_iconst (v := 4) hx hb dL_isVoteSo_216 (by decide) ?_
                    refine rw_i hS (va_runV (As := [.int 4]) (rest := []) ⟨hx, hb, hml, hown, hts⟩ (a_X6_count l D cI cS a u39 s ((svQ sz + 1) - 1) (svH hf sz s) hok 4 (by omega) _) (cwV 1 hts (gV tw179 tw176 tw177 tw178 tw1) rfl rfl rfl (by decide +kernel) ⟨Nat.le_of_ble_eq_true rfl, Nat.le_of_ble_eq_true rfl⟩) (pvW 112 hK hP hE (by decide) xc112 rfl) rfl rfl hl.1 rfl (lv_room (Nat.le_of_ble_eq_true rfl)) dL_isVoteSo_217 ⟨Nat.le_of_ble_eq_true rfl, Nat.le_of_ble_eq_true rfl⟩) (fun r41 u42 H locs hr40 hP hS => ?_)
                    obtain ⟨hr9, hok⟩ := hr40
                    subst hr9
                    refine lv_iload hx hb dL_isVoteSo_220 (lv_at hl 7 rfl) ?_
                    refine lv_icmp_ne (tgt := 229) hx hb dL_isVoteSo_222 (by decide) (fun h0 => absurd h0 (fun q9 => q9 rfl)) (fun _ => ?_)
                    refine lv_iconst (v := 1) hx hb dL_isVoteSo_225 (by decide) ?_
                    refine lv_goto (tgt := 230) hx hb dL_isVoteSo_226 (by decide) ?_
                    exact rw_ir hx hb hr rfl hlocks hS u42 hP ⟨rfl, _, _, hok, hG, (hH.sv hsz6 hG).le (by omega)⟩ dL_isVoteSo_230
                  refine lv_icmp_le (tgt := 152) hx hb dL_isVoteSo_145 (by decide) (fun c43 => ?_) (fun c43 => ?_)
                  · skip
                    have c43x := Int32.not_lt.mpr c43
                    refine lv_iconst (v := 1) hx hb dL_isVoteSo_152 (by decide) ?_
                    refine lv_as (y := if s 0 1 < midI (wordA s) (s 7) then 0 else 1) (if_neg c43x).symm ?_
                    exact cut153 _ _ hP hS ls (lv_sub hl [0, 1, 2, 3, 4, 5, 6, 7, 8, 9] rfl)
                  · skip
                    have c43x := Int32.not_le.mp c43
                    refine lv_iconst (v := 0) hx hb dL_isVoteSo_148 (by decide) ?_
                    refine lv_goto (tgt := 153) hx hb dL_isVoteSo_149 (by decide) ?_
                    refine lv_as (y := if s 0 1 < midI (wordA s) (s 7) then 0 else 1) (if_pos c43x).symm ?_
                    exact cut153 _ _ hP hS ls (lv_sub hl [0, 1, 2, 3, 4, 5, 6, 7, 8, 9] rfl)
                refine lv_icmp_le (tgt := 122) hx hb dL_isVoteSo_115 (by decide) (fun c44 => ?_) (fun c44 => ?_)
                · skip
                  have c44x := Int32.not_lt.mpr c44
                  refine lv_iload_n hx hb dL_isVoteSo_122 rfl (lv_at hl 2 rfl) ?_
                  refine lv_as (y := if s 0 1 < midI (wordA s) (s 7) then midI (wordA s) (s 7) else s 0 1) (if_neg c44x).symm ?_
                  exact cut123 _ _ hP hS ls (lv_sub hl [0, 1, 2, 3, 4, 5, 6, 7, 8, 9] rfl)
                · skip
                  have c44x := Int32.not_le.mp c44
                  refine lv_iload_n hx hb dL_isVoteSo_118 rfl (lv_at hl 1 rfl) ?_
                  refine lv_goto (tgt := 123) hx hb dL_isVoteSo_119 (by decide) ?_
                  refine lv_as (y := if s 0 1 < midI (wordA s) (s 7) then midI (wordA s) (s 7) else s 0 1) (if_pos c44x).symm ?_
                  exact cut123 _ _ hP hS ls (lv_sub hl [0, 1, 2, 3, 4, 5, 6, 7, 8, 9] rfl)
              · skip
                have c24x := Int32.not_le.mp c24
                have c24n := fun hq0 => c24 ((nI_le2 (p := 7) (q := j) rfl rfl (by omega) (by omega)).mpr hq0)
                have c24n : ¬ (7 ≤ j) := c24n
                refine lv_iload hx hb dL_isVoteSo_93 (lv_at hl 8 rfl) ?_
                refine lv_aload_n hx hb dL_isVoteSo_95 rfl (lv_at hl 0 rfl) ?_
                refine lv_iload hx hb dL_isVoteSo_96 (lv_at hl 9 rfl) ?_
                refine lv_iconst (v := 3) hx hb dL_isVoteSo_98 (by decide) ?_
                refine rw_i hS (va_runV (As := [.int (nI j), .int 3]) (rest := [.int (sumN (voteS s 9) j)]) ⟨hx, hb, hml, hown, hts⟩ (a_X6_says l D cI cS a u (voteS s) (svQ sz + 1) (svH hf sz s) hok j 3 (by omega) (by omega) _) (cwV 2 hts (gV tw547 tw544 tw545 tw546 tw1) rfl rfl rfl (by decide +kernel) ⟨Nat.le_of_ble_eq_true rfl, Nat.le_of_ble_eq_true rfl⟩) (pvW 112 hK hP hE (by decide) xc112 rfl) rfl rfl hl.1 rfl (lv_room (Nat.le_of_ble_eq_true rfl)) dL_isVoteSo_99 ⟨Nat.le_of_ble_eq_true rfl, Nat.le_of_ble_eq_true rfl⟩) (fun r46 u47 H locs hr45 hP hS => ?_)
                obtain ⟨hr9, hok⟩ := hr45
                subst hr9
                refine lv_iadd hx hb dL_isVoteSo_102 ?_
                refine lv_istore (lv' := [(8, .int ((sumN (voteS s 9) j) + ((voteS s) 9 j))), (0, .ref (a 112)), (1, .int (midI (wordA s) (s 7))), (2, .int (s 0 1)), (3, .int (s 0 3)), (4, .int (quarC s 7)), (5, .int (sumN (s 7) 7)), (6, .int (sumN (s 9) 7)), (7, .int (voteS s 0 1)), (9, .int (nI j))]) hx hb dL_isVoteSo_103 hl (by decide) rfl (fun ls hl => ?_)
                refine lv_iinc (v := nI (j + 1)) (lv' := [(9, .int (nI (j + 1))), (8, .int ((sumN (voteS s 9) j) + ((voteS s) 9 j))), (0, .ref (a 112)), (1, .int (midI (wordA s) (s 7))), (2, .int (s 0 1)), (3, .int (s 0 3)), (4, .int (quarC s 7)), (5, .int (sumN (s 7) 7)), (6, .int (sumN (s 9) 7)), (7, .int (voteS s 0 1))]) hx hb dL_isVoteSo_105 hl (k := 9) rfl (nI_add j 1) (by decide) rfl (fun ls hl => ?_)
                refine lv_goto (tgt := 86) hx hb dL_isVoteSo_108 (by decide) ?_
                exact ih86 (j + 1) u47 (by omega) (by omega) hok _ _ hP hS ls (lv_sub hl [2, 3, 4, 5, 6, 7, 8, 9, 1, 0] rfl)
          exact loop86 (7 + 1) 0 u23 (by omega) (by omega) hok _ _ hP hS ls (lv_sub hl [3, 4, 5, 6, 7, 8, 9, 2, 1, 0] rfl)
        · skip
          have c20x := Int32.not_le.mp c20
          have c20n := fun hq0 => c20 ((nI_le2 (p := 7) (q := j) rfl rfl (by omega) (by omega)).mpr hq0)
          have c20n : ¬ (7 ≤ j) := c20n
          refine lv_iload hx hb dL_isVoteSo_56 (lv_at hl 6 rfl) ?_
          refine lv_aload_n hx hb dL_isVoteSo_58 rfl (lv_at hl 0 rfl) ?_
          refine lv_iload hx hb dL_isVoteSo_59 (lv_at hl 7 rfl) ?_
          refine lv_iconst (v := 3) hx hb dL_isVoteSo_61 (by decide) ?_
          refine rw_i hS (va_runV (As := [.int (nI j), .int 3]) (rest := [.int (sumN (s 9) j)]) ⟨hx, hb, hml, hown, hts⟩ (a_X6_says l D cI cS a u s sz hf hok j 3 (by omega) (by omega) _) (cwV 2 hts (gV tw547 tw544 tw545 tw546 tw1) rfl rfl rfl (by decide +kernel) ⟨Nat.le_of_ble_eq_true rfl, Nat.le_of_ble_eq_true rfl⟩) (pvW 112 hK hP hE (by decide) xc112 rfl) rfl rfl hl.1 rfl (lv_room (Nat.le_of_ble_eq_true rfl)) dL_isVoteSo_62 ⟨Nat.le_of_ble_eq_true rfl, Nat.le_of_ble_eq_true rfl⟩) (fun r49 u50 H locs hr48 hP hS => ?_)
          obtain ⟨hr9, hok⟩ := hr48
          subst hr9
          refine lv_iadd hx hb dL_isVoteSo_65 ?_
          refine lv_istore (lv' := [(6, .int ((sumN (s 9) j) + (s 9 j))), (0, .ref (a 112)), (1, .int (midI (wordA s) (s 7))), (2, .int (s 0 1)), (3, .int (s 0 3)), (4, .int (quarC s 7)), (5, .int (sumN (s 7) 7)), (7, .int (nI j))]) hx hb dL_isVoteSo_66 hl (by decide) rfl (fun ls hl => ?_)
          refine lv_iinc (v := nI (j + 1)) (lv' := [(7, .int (nI (j + 1))), (6, .int ((sumN (s 9) j) + (s 9 j))), (0, .ref (a 112)), (1, .int (midI (wordA s) (s 7))), (2, .int (s 0 1)), (3, .int (s 0 3)), (4, .int (quarC s 7)), (5, .int (sumN (s 7) 7))]) hx hb dL_isVoteSo_68 hl (k := 7) rfl (nI_add j 1) (by decide) rfl (fun ls hl => ?_)
          refine lv_goto (tgt := 49) hx hb dL_isVoteSo_71 (by decide) ?_
          exact ih49 (j + 1) u50 (by omega) (by omega) hok _ _ hP hS ls (lv_sub hl [2, 3, 4, 5, 6, 7, 1, 0] rfl)
    exact loop49 (7 + 1) 0 u19 (by omega) (by omega) hok _ _ hP hS ls (lv_sub hl [7, 6, 5, 4, 3, 2, 1, 0] rfl)
  · skip
    refine lv_iconst (v := 1) hx hb dL_isVoteSo_8 (by decide) ?_
    exact rw_ir hx hb hr rfl hlocks hS u3 hP ⟨rfl, _, _, hok, hG, hH⟩ dL_isVoteSo_9
