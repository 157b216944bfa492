theorem i_ltne {x y : Int32} (h1 : x ≤ y) (h2 : ¬ x = y) : x < y := by
  rw [i_le] at h1
  rw [i_eq] at h2
  rw [i_lt]
  omega
theorem hear_w {s : St} {v : Int32} {k : Nat} : wordA (hearS s v) k = wordA s k := by
  unfold wordA wordF hearS
  split
  · rw [up2_o (by decide), up2_o (by decide), up2_o (by decide), up2_o (by decide)]
  · rw [up2_o (by decide), up2_o (by decide), up2_o (by decide), up2_o (by decide)]
set_option maxHeartbeats 4000000 in
set_option maxRecDepth 100000 in
theorem m_X7_middle (l : Launch) (D : va_G) (cI cS : ClassId) (b : Nat → Nat) (s kp : St) (hf : Nat → St) (sc ad bf : Nat → Int32) (T : Int) (hBd : Bd T s) (hT : T ≤ 900000000) : Met l yX7_middle (.code yX7_middle cX7_middle 5 (some .int) :: wsA) ({ frames := 1, cells := 0, slots := 0, locals := 22 } : Room) (va_Pc [.ref (b 0)] (PR D cI cS 6 b (emC cI b (mdl s kp hf sc ad bf)))) (vp_Si (fun r => r = midI (wordA s) (s 7))) 0 0 (fun _ => False) := by
  refine mgo (by decide) (Nat.le_of_ble_eq_true rfl) ?_
  intro p e z m below meth c hx hb hr hml hown hts hlocks hB ls hl
  obtain ⟨hP, hK⟩ := hB
  have hl : lv_has ls 5 [(0, .ref (b 0))] := hl
  refine lv_iconst (v := (-1)) hx hb dX7_middle_0 (by decide) ?_
  refine lv_istore_n (lv' := [(1, .int (-1)), (0, .ref (b 0))]) hx hb dX7_middle_1 rfl hl (by decide) rfl (fun ls hl => ?_)
  refine lv_iconst (v := 0) hx hb dX7_middle_2 (by decide) ?_
  refine lv_istore_n (lv' := [(2, .int 0), (1, .int (-1)), (0, .ref (b 0))]) hx hb dX7_middle_3 rfl hl (by decide) rfl (fun ls hl => ?_)
  have loop4 : ∀ (fu : Nat) (i : Nat) (bv : Int32), 7 + 1 ≤ i + fu → (i ≤ 7) → (bv = mmF (wordA s) (s 7) i) → ∀ ls : Array Slot, lv_has ls 5 [(0, .ref (b 0)), (1, .int bv), (2, .int (nI i))] → W p l e ({ frames := 1, cells := 0, slots := 0, locals := 22 } : Room) z m ([.ref (b 0)] : List Value).toArray below meth c z.heap [] 0 0 (MQ below (vp_Si (fun r => r = midI (wordA s) (s 7))) ([.ref (b 0)] : List Value).toArray z 0 0 (fun _ => False)) (F0 m 4 ls []) := by
    intro fu
    induction fu with
    | zero => intro i bv hn hi hbv; exact absurd hn (by omega)
    | succ fu ih4 =>
      intro i bv hn hi hbv ls hl
      refine lv_iload_n hx hb dX7_middle_4 rfl (lv_at hl 2 rfl) ?_
      refine lv_bipush (v := 7) hx hb dX7_middle_5 (by decide) ?_
      refine lv_icmp_ge (tgt := 123) hx hb dX7_middle_7 (by decide) (fun c1 => ?_) (fun c1 => ?_)
      · skip
        have c1x := Int32.not_lt.mpr c1
        have c1n := (nI_le2 (p := 7) (q := i) rfl rfl (by omega) (by omega)).mp c1
        have c1n : 7 ≤ i := c1n
        have hjq : 7 = i := by omega
        subst hjq
        refine lv_iload_n hx hb dX7_middle_123 rfl (lv_at hl 1 rfl) ?_
        exact ro_ir hx hb hr rfl hlocks (by rw [hbv]; exact mm_mid (fun k hk => ⟨(hBd.1 k hk).2.2.2.2.1, (hBd.1 k hk).2.2.2.2.2.1⟩) (fun k hk => word_ok.1)) dX7_middle_124
      · skip
        have c1x := Int32.not_le.mp c1
        have c1n := fun hq0 => c1 ((nI_le2 (p := 7) (q := i) rfl rfl (by omega) (by omega)).mpr hq0)
        have c1n : ¬ (7 ≤ i) := c1n
        refine lv_iconst (v := 0) hx hb dX7_middle_10 (by decide) ?_
        refine lv_istore_n (lv' := [(3, .int 0), (0, .ref (b 0)), (1, .int bv), (2, .int (nI i))]) hx hb dX7_middle_11 rfl hl (by decide) rfl (fun ls hl => ?_)
        refine lv_iconst (v := 0) hx hb dX7_middle_12 (by decide) ?_
        refine lv_istore (lv' := [(4, .int 0), (3, .int 0), (0, .ref (b 0)), (1, .int bv), (2, .int (nI i))]) hx hb dX7_middle_13 hl (by decide) rfl (fun ls hl => ?_)
        have loop15 : ∀ (fu : Nat) (j : Nat) (x : Int32), 7 + 1 ≤ j + fu → (j ≤ 7) → (x = beL (wordA s) (s 7) (wordA s i) j) → ∀ ls : Array Slot, lv_has ls 5 [(0, .ref (b 0)), (1, .int bv), (2, .int (nI i)), (3, .int x), (4, .int (nI j))] → W p l e ({ frames := 1, cells := 0, slots := 0, locals := 22 } : Room) z m ([.ref (b 0)] : List Value).toArray below meth c z.heap [] 0 0 (MQ below (vp_Si (fun r => r = midI (wordA s) (s 7))) ([.ref (b 0)] : List Value).toArray z 0 0 (fun _ => False)) (F0 m 15 ls []) := by
          intro fu
          induction fu with
          | zero => intro j x hn hj hx1; exact absurd hn (by omega)
          | succ fu ih15 =>
            intro j x hn hj hx1 ls hl
            refine lv_iload hx hb dX7_middle_15 (lv_at hl 4 rfl) ?_
            refine lv_bipush (v := 7) hx hb dX7_middle_17 (by decide) ?_
            refine lv_icmp_ge (tgt := 59) hx hb dX7_middle_19 (by decide) (fun c2 => ?_) (fun c2 => ?_)
            · skip
              have c2x := Int32.not_lt.mpr c2
              have c2n := (nI_le2 (p := 7) (q := j) rfl rfl (by omega) (by omega)).mp c2
              have c2n : 7 ≤ j := c2n
              have hjq : 7 = j := by omega
              subst hjq
              refine lv_aload_n hx hb dX7_middle_59 rfl (lv_at hl 0 rfl) ?_
              refine g_get hx hb hts hown inA7 hK hP 0 (by decide) rfl rfl 0 (by decide) tw760 rfl (v := .ref (b 1)) rfl dX7_middle_60 ?_
              refine lv_bipush (v := 48) hx hb dX7_middle_63 (by decide) ?_
              refine lv_iload_n hx hb dX7_middle_65 rfl (lv_at hl 2 rfl) ?_
              refine lv_iadd hx hb dX7_middle_66 ?_
              refine lv_as (y := nI (48 + i)) (nI_add2 (p := 48) (q := i) rfl rfl) ?_
              refine g_iald hx hb hK hP 1 (by decide) rfl (48 + i) rfl (by omega) (by decide) dX7_middle_67 (v := s 7 i) ((fl_g7 (s := s) (d := i) (by omega)).trans rfl) ?_
              refine lv_if_le (tgt := 85) hx hb dX7_middle_68 (by decide) (fun c3 => ?_) (fun c3 => ?_)
              · skip
                have c3x := Int32.not_lt.mpr c3
                refine lv_iconst (v := 0) hx hb dX7_middle_85 (by decide) ?_
                refine lv_istore (lv' := [(4, .int 0), (0, .ref (b 0)), (1, .int bv), (2, .int (nI i)), (3, .int x)]) hx hb dX7_middle_86 hl (by decide) rfl (fun ls hl => ?_)
                refine lv_iload hx hb dX7_middle_88 (lv_at hl 0 rfl) ?_
                refine lv_if_eq (tgt := 115) hx hb dX7_middle_90 (by decide) (fun _ => ?_) (fun h0 => absurd (by decide) h0)
                refine lv_iload_n hx hb dX7_middle_115 rfl (lv_at hl 2 rfl) ?_
                refine lv_istore_n (lv' := [(1, .int bv), (4, .int 0), (0, .ref (b 0)), (2, .int (nI i)), (3, .int x)]) hx hb dX7_middle_116 rfl hl (by decide) rfl (fun ls hl => ?_)
                refine lv_iinc (v := nI (i + 1)) (lv' := [(2, .int (nI (i + 1))), (1, .int bv), (4, .int 0), (0, .ref (b 0)), (3, .int x)]) hx hb dX7_middle_117 hl (k := 3) rfl (nI_add i 1) (by decide) rfl (fun ls hl => ?_)
                refine lv_goto (tgt := 4) hx hb dX7_middle_120 (by decide) ?_
                exact ih4 (i + 1) bv (by omega) (by omega) (by simp [mmF, ← hbv, ← hx1, c2, c2x, c2n, c3, c3x]) ls (lv_sub hl [3, 1, 0] rfl)
              · skip
                have c3x := Int32.not_le.mp c3
                refine lv_iconst (v := 2) hx hb dX7_middle_71 (by decide) ?_
                refine lv_iload_n hx hb dX7_middle_72 rfl (lv_at hl 3 rfl) ?_
                refine lv_imul hx hb dX7_middle_73 ?_
                refine lv_aload_n hx hb dX7_middle_74 rfl (lv_at hl 0 rfl) ?_
                refine ro_i (va_runV (As := []) (rest := [.int (2 * x)]) ⟨hx, hb, hml, hown, hts⟩ (m_X7_weights l D cI cS b s kp hf sc ad bf) (cwV 0 hts (gV tw833 tw830 tw832 ts27 tw8) rfl rfl rfl (by decide +kernel) ⟨Nat.le_of_ble_eq_true rfl, Nat.le_of_ble_eq_true rfl⟩) (pvR 0 hK hP (by decide) rfl rfl) rfl rfl hl.1 rfl (lv_room (Nat.le_of_ble_eq_true rfl)) dX7_middle_75 ⟨Nat.le_of_ble_eq_true rfl, Nat.le_of_ble_eq_true rfl⟩) (fun r5 hr4 => ?_)
                subst hr4
                refine lv_icmp_lt (tgt := 85) hx hb dX7_middle_78 (by decide) (fun c7 => ?_) (fun c7 => ?_)
                · skip
                  have c7x := Int32.not_le.mpr c7
                  refine lv_iconst (v := 0) hx hb dX7_middle_85 (by decide) ?_
                  refine lv_istore (lv' := [(4, .int 0), (0, .ref (b 0)), (1, .int bv), (2, .int (nI i)), (3, .int x)]) hx hb dX7_middle_86 hl (by decide) rfl (fun ls hl => ?_)
                  refine lv_iload hx hb dX7_middle_88 (lv_at hl 0 rfl) ?_
                  refine lv_if_eq (tgt := 115) hx hb dX7_middle_90 (by decide) (fun _ => ?_) (fun h0 => absurd (by decide) h0)
                  refine lv_iload_n hx hb dX7_middle_115 rfl (lv_at hl 2 rfl) ?_
                  refine lv_istore_n (lv' := [(1, .int bv), (4, .int 0), (0, .ref (b 0)), (2, .int (nI i)), (3, .int x)]) hx hb dX7_middle_116 rfl hl (by decide) rfl (fun ls hl => ?_)
                  refine lv_iinc (v := nI (i + 1)) (lv' := [(2, .int (nI (i + 1))), (1, .int bv), (4, .int 0), (0, .ref (b 0)), (3, .int x)]) hx hb dX7_middle_117 hl (k := 3) rfl (nI_add i 1) (by decide) rfl (fun ls hl => ?_)
                  refine lv_goto (tgt := 4) hx hb dX7_middle_120 (by decide) ?_
                  exact ih4 (i + 1) bv (by omega) (by omega) (by simp [mmF, ← hbv, ← hx1, c2, c2x, c2n, c3, c3x, c7, c7x]) ls (lv_sub hl [3, 1, 0] rfl)
                · skip
                  have c7x := Int32.not_lt.mp c7
                  refine lv_iconst (v := 1) hx hb dX7_middle_81 (by decide) ?_
                  refine lv_goto (tgt := 86) hx hb dX7_middle_82 (by decide) ?_
                  refine lv_istore (lv' := [(4, .int 1), (0, .ref (b 0)), (1, .int bv), (2, .int (nI i)), (3, .int x)]) hx hb dX7_middle_86 hl (by decide) rfl (fun ls hl => ?_)
                  refine lv_iload hx hb dX7_middle_88 (lv_at hl 0 rfl) ?_
                  refine lv_if_eq (tgt := 115) hx hb dX7_middle_90 (by decide) (fun h0 => absurd h0 (by decide)) (fun _ => ?_)
                  refine lv_iload_n hx hb dX7_middle_93 rfl (lv_at hl 2 rfl) ?_
                  refine lv_iconst (v := (-1)) hx hb dX7_middle_94 (by decide) ?_
                  refine lv_icmp_eq (tgt := 107) hx hb dX7_middle_95 (by decide) (fun c8 => ?_) (fun c8 => ?_)
                  · skip
                    refine lv_aload_n hx hb dX7_middle_107 rfl (lv_at hl 1 rfl) ?_
                    refine lv_iload_n hx hb dX7_middle_108 rfl (lv_at hl 3 rfl) ?_
                    refine ro_i (va_runV (As := [.int (nI i)]) (rest := []) ⟨hx, hb, hml, hown, hts⟩ (m_X7_word l D cI cS b s kp hf sc ad bf i (by omega)) (cwV 1 hts (gV tw845 tw842 tw844 ts30 tw8) rfl rfl rfl (by decide +kernel) ⟨Nat.le_of_ble_eq_true rfl, Nat.le_of_ble_eq_true rfl⟩) (pvR 0 hK hP (by decide) rfl rfl) rfl rfl hl.1 rfl (lv_room (Nat.le_of_ble_eq_true rfl)) dX7_middle_109 ⟨Nat.le_of_ble_eq_true rfl, Nat.le_of_ble_eq_true rfl⟩) (fun r10 hr9 => ?_)
                    subst hr9
                    refine lv_goto (tgt := 116) hx hb dX7_middle_112 (by decide) ?_
                    refine lv_istore_n (lv' := [(1, .int (wordA s i)), (4, .int 1), (0, .ref (b 0)), (2, .int (nI i)), (3, .int x)]) hx hb dX7_middle_116 rfl hl (by decide) rfl (fun ls hl => ?_)
                    refine lv_iinc (v := nI (i + 1)) (lv' := [(2, .int (nI (i + 1))), (1, .int (wordA s i)), (4, .int 1), (0, .ref (b 0)), (3, .int x)]) hx hb dX7_middle_117 hl (k := 3) rfl (nI_add i 1) (by decide) rfl (fun ls hl => ?_)
                    refine lv_goto (tgt := 4) hx hb dX7_middle_120 (by decide) ?_
                    exact ih4 (i + 1) (wordA s i) (by omega) (by omega) (by simp [mmF, ← hbv, ← hx1, c2, c2x, c2n, c3, c3x, c7, c7x, c8]) ls (lv_sub hl [3, 1, 0] rfl)
                  · skip
                    refine lv_aload_n hx hb dX7_middle_98 rfl (lv_at hl 1 rfl) ?_
                    refine lv_iload_n hx hb dX7_middle_99 rfl (lv_at hl 3 rfl) ?_
                    refine ro_i (va_runV (As := [.int (nI i)]) (rest := []) ⟨hx, hb, hml, hown, hts⟩ (m_X7_word l D cI cS b s kp hf sc ad bf i (by omega)) (cwV 1 hts (gV tw845 tw842 tw844 ts30 tw8) rfl rfl rfl (by decide +kernel) ⟨Nat.le_of_ble_eq_true rfl, Nat.le_of_ble_eq_true rfl⟩) (pvR 0 hK hP (by decide) rfl rfl) rfl rfl hl.1 rfl (lv_room (Nat.le_of_ble_eq_true rfl)) dX7_middle_100 ⟨Nat.le_of_ble_eq_true rfl, Nat.le_of_ble_eq_true rfl⟩) (fun r13 hr12 => ?_)
                    subst hr12
                    refine lv_iload_n hx hb dX7_middle_103 rfl (lv_at hl 2 rfl) ?_
                    refine lv_icmp_ge (tgt := 115) hx hb dX7_middle_104 (by decide) (fun c15 => ?_) (fun c15 => ?_)
                    · skip
                      have c15x := Int32.not_lt.mpr c15
                      refine lv_iload_n hx hb dX7_middle_115 rfl (lv_at hl 2 rfl) ?_
                      refine lv_istore_n (lv' := [(1, .int bv), (4, .int 1), (0, .ref (b 0)), (2, .int (nI i)), (3, .int x)]) hx hb dX7_middle_116 rfl hl (by decide) rfl (fun ls hl => ?_)
                      refine lv_iinc (v := nI (i + 1)) (lv' := [(2, .int (nI (i + 1))), (1, .int bv), (4, .int 1), (0, .ref (b 0)), (3, .int x)]) hx hb dX7_middle_117 hl (k := 3) rfl (nI_add i 1) (by decide) rfl (fun ls hl => ?_)
                      refine lv_goto (tgt := 4) hx hb dX7_middle_120 (by decide) ?_
                      exact ih4 (i + 1) bv (by omega) (by omega) (by simp [mmF, ← hbv, ← hx1, c2, c2x, c2n, c3, c3x, c7, c7x, c8, c15, c15x]) ls (lv_sub hl [3, 1, 0] rfl)
                    · skip
                      have c15x := Int32.not_le.mp c15
                      refine lv_aload_n hx hb dX7_middle_107 rfl (lv_at hl 1 rfl) ?_
                      refine lv_iload_n hx hb dX7_middle_108 rfl (lv_at hl 3 rfl) ?_
                      refine ro_i (va_runV (As := [.int (nI i)]) (rest := []) ⟨hx, hb, hml, hown, hts⟩ (m_X7_word l D cI cS b s kp hf sc ad bf i (by omega)) (cwV 1 hts (gV tw845 tw842 tw844 ts30 tw8) rfl rfl rfl (by decide +kernel) ⟨Nat.le_of_ble_eq_true rfl, Nat.le_of_ble_eq_true rfl⟩) (pvR 0 hK hP (by decide) rfl rfl) rfl rfl hl.1 rfl (lv_room (Nat.le_of_ble_eq_true rfl)) dX7_middle_109 ⟨Nat.le_of_ble_eq_true rfl, Nat.le_of_ble_eq_true rfl⟩) (fun r17 hr16 => ?_)
                      subst hr16
                      refine lv_goto (tgt := 116) hx hb dX7_middle_112 (by decide) ?_
                      refine lv_istore_n (lv' := [(1, .int (wordA s i)), (4, .int 1), (0, .ref (b 0)), (2, .int (nI i)), (3, .int x)]) hx hb dX7_middle_116 rfl hl (by decide) rfl (fun ls hl => ?_)
                      refine lv_iinc (v := nI (i + 1)) (lv' := [(2, .int (nI (i + 1))), (1, .int (wordA s i)), (4, .int 1), (0, .ref (b 0)), (3, .int x)]) hx hb dX7_middle_117 hl (k := 3) rfl (nI_add i 1) (by decide) rfl (fun ls hl => ?_)
                      refine lv_goto (tgt := 4) hx hb dX7_middle_120 (by decide) ?_
                      exact ih4 (i + 1) (wordA s i) (by omega) (by omega) (by simp [mmF, ← hbv, ← hx1, c2, c2x, c2n, c3, c3x, c7, c7x, c8, c15, c15x]) ls (lv_sub hl [3, 1, 0] rfl)
            · skip
              have c2x := Int32.not_le.mp c2
              have c2n := fun hq0 => c2 ((nI_le2 (p := 7) (q := j) rfl rfl (by omega) (by omega)).mpr hq0)
              have c2n : ¬ (7 ≤ j) := c2n
              refine lv_iload_n hx hb dX7_middle_22 rfl (lv_at hl 3 rfl) ?_
              refine lv_aload_n hx hb dX7_middle_23 rfl (lv_at hl 0 rfl) ?_
              refine lv_iload hx hb dX7_middle_24 (lv_at hl 4 rfl) ?_
              refine ro_i (va_runV (As := [.int (nI j)]) (rest := [.int x]) ⟨hx, hb, hml, hown, hts⟩ (m_X7_word l D cI cS b s kp hf sc ad bf j (by omega)) (cwV 1 hts (gV tw845 tw842 tw844 ts30 tw8) rfl rfl rfl (by decide +kernel) ⟨Nat.le_of_ble_eq_true rfl, Nat.le_of_ble_eq_true rfl⟩) (pvR 0 hK hP (by decide) rfl rfl) rfl rfl hl.1 rfl (lv_room (Nat.le_of_ble_eq_true rfl)) dX7_middle_26 ⟨Nat.le_of_ble_eq_true rfl, Nat.le_of_ble_eq_true rfl⟩) (fun r20 hr19 => ?_)
              subst hr19
              refine lv_aload_n hx hb dX7_middle_29 rfl (lv_at hl 0 rfl) ?_
              refine lv_iload_n hx hb dX7_middle_30 rfl (lv_at hl 2 rfl) ?_
              refine ro_i (va_runV (As := [.int (nI i)]) (rest := [.int (wordA s j), .int x]) ⟨hx, hb, hml, hown, hts⟩ (m_X7_word l D cI cS b s kp hf sc ad bf i (by omega)) (cwV 1 hts (gV tw845 tw842 tw844 ts30 tw8) rfl rfl rfl (by decide +kernel) ⟨Nat.le_of_ble_eq_true rfl, Nat.le_of_ble_eq_true rfl⟩) (pvR 0 hK hP (by decide) rfl rfl) rfl rfl hl.1 rfl (lv_room (Nat.le_of_ble_eq_true rfl)) dX7_middle_31 ⟨Nat.le_of_ble_eq_true rfl, Nat.le_of_ble_eq_true rfl⟩) (fun r23 hr22 => ?_)
              subst hr22
              refine lv_icmp_gt (tgt := 50) hx hb dX7_middle_34 (by decide) (fun c25 => ?_) (fun c25 => ?_)
              · skip
                have c25x := Int32.not_le.mpr c25
                refine lv_iconst (v := 0) hx hb dX7_middle_50 (by decide) ?_
                refine lv_iadd hx hb dX7_middle_51 ?_
                refine lv_istore_n (lv' := [(3, .int (x + 0)), (0, .ref (b 0)), (1, .int bv), (2, .int (nI i)), (4, .int (nI j))]) hx hb dX7_middle_52 rfl hl (by decide) rfl (fun ls hl => ?_)
                refine lv_iinc (v := nI (j + 1)) (lv' := [(4, .int (nI (j + 1))), (3, .int (x + 0)), (0, .ref (b 0)), (1, .int bv), (2, .int (nI i))]) hx hb dX7_middle_53 hl (k := 4) rfl (nI_add j 1) (by decide) rfl (fun ls hl => ?_)
                refine lv_goto (tgt := 15) hx hb dX7_middle_56 (by decide) ?_
                exact ih15 (j + 1) (x + 0) (by omega) (by omega) (by simp [beL, ← hx1, c2, c2x, c2n, c25, c25x]) ls (lv_sub hl [2, 3, 4, 1, 0] rfl)
              · skip
                have c25x := Int32.not_lt.mp c25
                refine lv_aload_n hx hb dX7_middle_37 rfl (lv_at hl 0 rfl) ?_
                refine g_get hx hb hts hown inA7 hK hP 0 (by decide) rfl rfl 0 (by decide) tw760 rfl (v := .ref (b 1)) rfl dX7_middle_38 ?_
                refine lv_bipush (v := 48) hx hb dX7_middle_41 (by decide) ?_
                refine lv_iload hx hb dX7_middle_43 (lv_at hl 4 rfl) ?_
                refine lv_iadd hx hb dX7_middle_45 ?_
                refine lv_as (y := nI (48 + j)) (nI_add2 (p := 48) (q := j) rfl rfl) ?_
                refine g_iald hx hb hK hP 1 (by decide) rfl (48 + j) rfl (by omega) (by decide) dX7_middle_46 (v := s 7 j) ((fl_g7 (s := s) (d := j) (by omega)).trans rfl) ?_
                refine lv_goto (tgt := 51) hx hb dX7_middle_47 (by decide) ?_
                refine lv_iadd hx hb dX7_middle_51 ?_
                refine lv_istore_n (lv' := [(3, .int (x + (s 7 j))), (0, .ref (b 0)), (1, .int bv), (2, .int (nI i)), (4, .int (nI j))]) hx hb dX7_middle_52 rfl hl (by decide) rfl (fun ls hl => ?_)
                refine lv_iinc (v := nI (j + 1)) (lv' := [(4, .int (nI (j + 1))), (3, .int (x + (s 7 j))), (0, .ref (b 0)), (1, .int bv), (2, .int (nI i))]) hx hb dX7_middle_53 hl (k := 4) rfl (nI_add j 1) (by decide) rfl (fun ls hl => ?_)
                refine lv_goto (tgt := 15) hx hb dX7_middle_56 (by decide) ?_
                exact ih15 (j + 1) (x + (s 7 j)) (by omega) (by omega) (by simp [beL, ← hx1, c2, c2x, c2n, c25, c25x]) ls (lv_sub hl [2, 3, 4, 1, 0] rfl)
        exact loop15 (7 + 1) 0 0 (by omega) (by omega) rfl ls (lv_sub hl [2, 3, 4, 1, 0] rfl)
  exact loop4 (7 + 1) 0 (-1) (by omega) (by omega) rfl ls (lv_sub hl [2, 1, 0] rfl)

set_option maxHeartbeats 4000000 in
set_option maxRecDepth 100000 in
theorem m_X7_votes (l : Launch) (D : va_G) (cI cS : ClassId) (b : Nat → Nat) (s kp : St) (hf : Nat → St) (sc ad bf : Nat → Int32) (T : Int) (hBd : Bd T s) (hT : T ≤ 900000000) (zz : Nat) : Met l yX7_votes (.code yX7_votes cX7_votes 5 (some .int) :: wsA) ({ frames := 2, cells := 0, slots := 0, locals := 46 } : Room) (va_Pc [.ref (b 0)] (PW D cI cS 6 b (emC cI b (mdl s kp hf sc ad bf)) zz)) (va_Qi (fun (r : Int32) (u : Unit) => r = voteS s 0 1) (BW D 6 b (fun u => emC cI b (mdl (voteS s) kp hf sc ad bf))) (AX 6 b zz)) 0 0 (AX 6 b zz) := by
  refine mgo (by decide) (Nat.le_of_ble_eq_true rfl) ?_
  intro p e z m below meth c hx hb hr hml hown hts hlocks hB ls hl
  obtain ⟨hsz, hP, hK, hE⟩ := hB
  subst hsz
  have hS : va_S (AX 6 b z.heap.size) z.heap z.heap [] := va_S.rf
  have hl : lv_has ls 5 [(0, .ref (b 0))] := hl
  have hm9 : (midI (wordA s) (s 7)).toInt ≤ 99999 := by rw [← mm_mid (fun k hk => ⟨(hBd.1 k hk).2.2.2.2.1, (hBd.1 k hk).2.2.2.2.2.1⟩) (fun k hk => word_ok.1)]; exact (mm_ok 7).2
  refine lv_aload_n hx hb dX7_votes_0 rfl (lv_at hl 0 rfl) ?_
  refine ro_i (va_runV (As := []) (rest := []) ⟨hx, hb, hml, hown, hts⟩ (m_X7_middle l D cI cS b s kp hf sc ad bf T hBd (by omega)) (cwV 0 hts (gV tw841 tw838 tw840 ts29 tw8) rfl rfl rfl (by decide +kernel) ⟨Nat.le_of_ble_eq_true rfl, Nat.le_of_ble_eq_true rfl⟩) (pvR 0 hK hP (by decide) rfl rfl) rfl rfl hl.1 rfl (lv_room (Nat.le_of_ble_eq_true rfl)) dX7_votes_1 ⟨Nat.le_of_ble_eq_true rfl, Nat.le_of_ble_eq_true rfl⟩) (fun r2 hr1 => ?_)
  subst hr1
  refine lv_istore_n (lv' := [(1, .int (midI (wordA s) (s 7))), (0, .ref (b 0))]) hx hb dX7_votes_4 rfl hl (by decide) rfl (fun ls hl => ?_)
  refine lv_aload_n hx hb dX7_votes_5 rfl (lv_at hl 1 rfl) ?_
  refine g_get hx hb hts hown inA7 hK hP 0 (by decide) rfl rfl 0 (by decide) tw760 rfl (v := .ref (b 1)) rfl dX7_votes_6 ?_
  refine lv_iconst (v := 4) hx hb dX7_votes_9 (by decide) ?_
  refine lv_dup2_11 hx hb dX7_votes_10 rfl rfl ?_
  refine g_iald hx hb hK hP 1 (by decide) rfl 4 rfl (by omega) (by decide) dX7_votes_11 (v := s 0 2) ((fl_gv (s := s) (d := 0) (by omega)).trans rfl) ?_
  refine lv_iconst (v := 1) hx hb dX7_votes_12 (by decide) ?_
  refine lv_iadd hx hb dX7_votes_13 ?_
  refine g_iast hx hb hK hP hE hS 1 (by decide) rfl 4 rfl (by omega) (by omega) dX7_votes_14 (ex' := emC cI b (mdl (up2 s 0 2 ((s 0 2) + 1)) kp hf sc ad bf)) (fl_e (fl_sv (d := 0) (by omega))) mm_s (fun H locs hP hS => ?_)
  refine lv_aload_n hx hb dX7_votes_15 rfl (lv_at hl 1 rfl) ?_
  refine g_get hx hb hts hown inA7 hK hP 0 (by decide) rfl rfl 0 (by decide) tw760 rfl (v := .ref (b 1)) rfl dX7_votes_16 ?_
  refine lv_iconst (v := 5) hx hb dX7_votes_19 (by decide) ?_
  refine lv_dup2_11 hx hb dX7_votes_20 rfl rfl ?_
  refine g_iald hx hb hK hP 1 (by decide) rfl 5 rfl (by omega) (by decide) dX7_votes_21 (v := s 0 3) ((fl_gv (s := (up2 s 0 2 ((s 0 2) + 1))) (d := 1) (by omega)).trans (by simp [up2, upR, upd])) ?_
  refine lv_iload_n hx hb dX7_votes_22 rfl (lv_at hl 0 rfl) ?_
  refine lv_aload_n hx hb dX7_votes_23 rfl (lv_at hl 1 rfl) ?_
  refine g_get hx hb hts hown inA7 hK hP 0 (by decide) rfl rfl 0 (by decide) tw760 rfl (v := .ref (b 1)) rfl dX7_votes_24 ?_
  refine lv_iconst (v := 1) hx hb dX7_votes_27 (by decide) ?_
  refine g_iald hx hb hK hP 1 (by decide) rfl 1 rfl (by omega) (by decide) dX7_votes_28 (v := s 0 1) ((fl_g0 (s := (up2 s 0 2 ((s 0 2) + 1))) (d := 1) (by omega)).trans (by simp [up2, upR, upd])) ?_
  refine lv_icmp_le (tgt := 36) hx hb dX7_votes_29 (by decide) (fun c4 => ?_) (fun c4 => ?_)
  · skip
    have c4x := Int32.not_lt.mpr c4
    have hno : ¬ s 0 1 < midI (wordA s) (s 7) := Int32.not_lt.mpr c4
    refine lv_iconst (v := 1) hx hb dX7_votes_36 (by decide) ?_
    refine lv_iadd hx hb dX7_votes_37 ?_
    refine g_iast hx hb hK hP hE hS 1 (by decide) rfl 5 rfl (by omega) (by omega) dX7_votes_38 (ex' := emC cI b (mdl (up2 (up2 s 0 2 ((s 0 2) + 1)) 0 3 ((s 0 3) + 1)) kp hf sc ad bf)) (fl_e (fl_sv (d := 1) (by omega))) mm_s (fun H locs hP hS => ?_)
    refine lv_aload_n hx hb dX7_votes_39 rfl (lv_at hl 1 rfl) ?_
    refine g_get hx hb hts hown inA7 hK hP 0 (by decide) rfl rfl 0 (by decide) tw760 rfl (v := .ref (b 1)) rfl dX7_votes_40 ?_
    refine lv_iconst (v := 1) hx hb dX7_votes_43 (by decide) ?_
    refine lv_iload_n hx hb dX7_votes_44 rfl (lv_at hl 0 rfl) ?_
    refine lv_aload_n hx hb dX7_votes_45 rfl (lv_at hl 1 rfl) ?_
    refine g_get hx hb hts hown inA7 hK hP 0 (by decide) rfl rfl 0 (by decide) tw760 rfl (v := .ref (b 1)) rfl dX7_votes_46 ?_
    refine lv_iconst (v := 1) hx hb dX7_votes_49 (by decide) ?_
    refine g_iald hx hb hK hP 1 (by decide) rfl 1 rfl (by omega) (by decide) dX7_votes_50 (v := s 0 1) ((fl_g0 (s := (up2 (up2 s 0 2 ((s 0 2) + 1)) 0 3 ((s 0 3) + 1))) (d := 1) (by omega)).trans (by simp [up2, upR, upd])) ?_
    refine lv_icmp_le (tgt := 58) hx hb dX7_votes_51 (by decide) (fun _ => ?_) (fun h0 => absurd (Int32.not_lt.mp hno) h0)
    refine lv_aload_n hx hb dX7_votes_58 rfl (lv_at hl 1 rfl) ?_
    refine g_get hx hb hts hown inA7 hK hP 0 (by decide) rfl rfl 0 (by decide) tw760 rfl (v := .ref (b 1)) rfl dX7_votes_59 ?_
    refine lv_iconst (v := 1) hx hb dX7_votes_62 (by decide) ?_
    refine g_iald hx hb hK hP 1 (by decide) rfl 1 rfl (by omega) (by decide) dX7_votes_63 (v := s 0 1) ((fl_g0 (s := (up2 (up2 s 0 2 ((s 0 2) + 1)) 0 3 ((s 0 3) + 1))) (d := 1) (by omega)).trans (by simp [up2, upR, upd])) ?_
    refine g_iast hx hb hK hP hE hS 1 (by decide) rfl 1 rfl (by omega) (by omega) dX7_votes_64 (ex' := emC cI b (mdl (up2 (up2 (up2 s 0 2 ((s 0 2) + 1)) 0 3 ((s 0 3) + 1)) 0 1 (s 0 1)) kp hf sc ad bf)) (fl_e (fl_s0 (d := 1) (by omega))) mm_s (fun H locs hP hS => ?_)
    refine lv_iconst (v := 0) hx hb dX7_votes_65 (by decide) ?_
    refine lv_istore_n (lv' := [(2, .int 0), (1, .int (midI (wordA s) (s 7))), (0, .ref (b 0))]) hx hb dX7_votes_66 rfl hl (by decide) rfl (fun ls hl => ?_)
    have loop67 : ∀ (fu : Nat) (j : Nat) (t : St), 7 + 1 ≤ j + fu → (j ≤ 7) → (t = setlN (wordA s) j (hearS s (midI (wordA s) (s 7)))) → (∀ k, wordA t k = wordA s k) → (Bd (T + 1) t) → ∀ (H : Heap) (locs : List Loc), HP D 6 b (emC cI b (mdl t kp hf sc ad bf)) H → va_S (AX 6 b z.heap.size) z.heap H locs → ∀ ls : Array Slot, lv_has ls 5 [(0, .ref (b 0)), (2, .int (nI j))] → W p l e ({ frames := 2, cells := 0, slots := 0, locals := 46 } : Room) z m ([.ref (b 0)] : List Value).toArray below meth c H locs 0 0 (MQ below (va_Qi (fun (r : Int32) (u : Unit) => r = voteS s 0 1) (BW D 6 b (fun u => emC cI b (mdl (voteS s) kp hf sc ad bf))) (AX 6 b z.heap.size)) ([.ref (b 0)] : List Value).toArray z 0 0 (AX 6 b z.heap.size)) (F0 m 67 ls []) := by
      intro fu
      induction fu with
      | zero => intro j t hn hj ht hwt hBt; exact absurd hn (by omega)
      | succ fu ih67 =>
        intro j t hn hj ht hwt hBt H locs hP hS ls hl
        refine lv_iload_n hx hb dX7_votes_67 rfl (lv_at hl 1 rfl) ?_
        refine lv_bipush (v := 7) hx hb dX7_votes_68 (by decide) ?_
        refine lv_icmp_ge (tgt := 147) hx hb dX7_votes_70 (by decide) (fun c5 => ?_) (fun c5 => ?_)
        · skip
          have c5x := Int32.not_lt.mpr c5
          have c5n := (nI_le2 (p := 7) (q := j) rfl rfl (by omega) (by omega)).mp c5
          have c5n : 7 ≤ j := c5n
          have hjq : 7 = j := by omega
          subst hjq
          refine lv_aload_n hx hb dX7_votes_147 rfl (lv_at hl 0 rfl) ?_
          refine g_get hx hb hts hown inA7 hK hP 0 (by decide) rfl rfl 0 (by decide) tw760 rfl (v := .ref (b 1)) rfl dX7_votes_148 ?_
          refine lv_iconst (v := 1) hx hb dX7_votes_151 (by decide) ?_
          refine g_iald hx hb hK hP 1 (by decide) rfl 1 rfl (by omega) (by decide) dX7_votes_152 (v := t 0 1) ((fl_g0 (s := t) (d := 1) (by omega)).trans rfl) ?_
          have hWs : (voteS s) = t := by rw [ht]; rfl
          have hP := hP.cast (e' := emC cI b (mdl (voteS s) kp hf sc ad bf)) (by rw [hWs])
          exact rw_ir hx hb hr rfl hlocks hS () hP (by rw [ht]; rfl) dX7_votes_153
        · skip
          have c5x := Int32.not_le.mp c5
          have c5n := fun hq0 => c5 ((nI_le2 (p := 7) (q := j) rfl rfl (by omega) (by omega)).mpr hq0)
          have c5n : ¬ (7 ≤ j) := c5n
          refine lv_aload_n hx hb dX7_votes_73 rfl (lv_at hl 0 rfl) ?_
          refine lv_iload_n hx hb dX7_votes_74 rfl (lv_at hl 1 rfl) ?_
          refine ro_i (va_runV (As := [.int (nI j)]) (rest := []) ⟨hx, hb, hml, hown, hts⟩ (m_X7_quarrel l D cI cS b t kp hf sc ad bf j (by omega)) (cwV 1 hts (gV tw849 tw846 tw848 ts31 tw8) rfl rfl rfl (by decide +kernel) ⟨Nat.le_of_ble_eq_true rfl, Nat.le_of_ble_eq_true rfl⟩) (pvR 0 hK hP (by decide) rfl rfl) rfl rfl hl.1 rfl (lv_room (Nat.le_of_ble_eq_true rfl)) dX7_votes_75 ⟨Nat.le_of_ble_eq_true rfl, Nat.le_of_ble_eq_true rfl⟩) (fun r7 hr6 => ?_)
          subst hr6
          refine lv_bI (fun c9 => ?_) (fun c9 => ?_)
          · skip
            have cqq : (quarB t j) := c9
            refine lv_if_eq (tgt := 141) hx hb dX7_votes_78 (by decide) (fun h0 => absurd h0 (by decide)) (fun _ => ?_)
            refine lv_aload_n hx hb dX7_votes_81 rfl (lv_at hl 0 rfl) ?_
            refine lv_iload_n hx hb dX7_votes_82 rfl (lv_at hl 1 rfl) ?_
            refine ro_i (va_runV (As := [.int (nI j)]) (rest := []) ⟨hx, hb, hml, hown, hts⟩ (m_X7_word l D cI cS b t kp hf sc ad bf j (by omega)) (cwV 1 hts (gV tw845 tw842 tw844 ts30 tw8) rfl rfl rfl (by decide +kernel) ⟨Nat.le_of_ble_eq_true rfl, Nat.le_of_ble_eq_true rfl⟩) (pvR 0 hK hP (by decide) rfl rfl) rfl rfl hl.1 rfl (lv_room (Nat.le_of_ble_eq_true rfl)) dX7_votes_83 ⟨Nat.le_of_ble_eq_true rfl, Nat.le_of_ble_eq_true rfl⟩) (fun r11 hr10 => ?_)
            subst hr10
            refine lv_aload_n hx hb dX7_votes_86 rfl (lv_at hl 0 rfl) ?_
            refine g_get hx hb hts hown inA7 hK hP 0 (by decide) rfl rfl 0 (by decide) tw760 rfl (v := .ref (b 1)) rfl dX7_votes_87 ?_
            refine lv_iconst (v := 1) hx hb dX7_votes_90 (by decide) ?_
            refine g_iald hx hb hK hP 1 (by decide) rfl 1 rfl (by omega) (by decide) dX7_votes_91 (v := t 0 1) ((fl_g0 (s := t) (d := 1) (by omega)).trans rfl) ?_
            refine lv_isub hx hb dX7_votes_92 ?_
            refine ro_i (va_runS (As := [.int ((wordA t j) - (t 0 1))]) (rest := []) ⟨hx, hb, hml, hown, hts⟩ (m_X7_size l ((wordA t j) - (t 0 1))) (va_cwS 1 hts (gS tw855 tw853 tw854 tw8) rfl rfl rfl (by decide +kernel) ⟨Nat.le_of_ble_eq_true rfl, Nat.le_of_ble_eq_true rfl⟩) ps0 rfl rfl hl.1 rfl (lv_room (Nat.le_of_ble_eq_true rfl)) dX7_votes_93 ⟨Nat.le_of_ble_eq_true rfl, Nat.le_of_ble_eq_true rfl⟩) (fun r14 hr13 => ?_)
            subst hr13
            refine lv_as (y := distI (wordA t j) (t 0 1)) (abs_dist word_ok.1 hBt.2.1.1) ?_
            refine lv_istore_n (lv' := [(3, .int (distI (wordA t j) (t 0 1))), (0, .ref (b 0)), (2, .int (nI j))]) hx hb dX7_votes_96 rfl hl (by decide) rfl (fun ls hl => ?_)
            refine lv_aload_n hx hb dX7_votes_97 rfl (lv_at hl 1 rfl) ?_
            have hbj := behN_lt (d := j)
            refine lv_iload_n hx hb dX7_votes_98 rfl (lv_at hl 2 rfl) ?_
            refine ro_i (va_runS (As := [.int (nI j)]) (rest := [.ref (b 0)]) ⟨hx, hb, hml, hown, hts⟩ (m_X7_behind l j (by omega)) (va_cwS 1 hts (gS tw852 tw850 tw851 tw8) rfl rfl rfl (by decide +kernel) ⟨Nat.le_of_ble_eq_true rfl, Nat.le_of_ble_eq_true rfl⟩) ps0 rfl rfl hl.1 rfl (lv_room (Nat.le_of_ble_eq_true rfl)) dX7_votes_99 ⟨Nat.le_of_ble_eq_true rfl, Nat.le_of_ble_eq_true rfl⟩) (fun r17 hr16 => ?_)
            subst hr16
            refine ro_i (va_runV (As := [.int (nI (behN j))]) (rest := []) ⟨hx, hb, hml, hown, hts⟩ (m_X7_word l D cI cS b t kp hf sc ad bf (behN j) (by omega)) (cwV 1 hts (gV tw845 tw842 tw844 ts30 tw8) rfl rfl rfl (by decide +kernel) ⟨Nat.le_of_ble_eq_true rfl, Nat.le_of_ble_eq_true rfl⟩) (pvR 0 hK hP (by decide) rfl rfl) rfl rfl hl.1 rfl (lv_room (Nat.le_of_ble_eq_true rfl)) dX7_votes_102 ⟨Nat.le_of_ble_eq_true rfl, Nat.le_of_ble_eq_true rfl⟩) (fun r20 hr19 => ?_)
            subst hr19
            refine lv_aload_n hx hb dX7_votes_105 rfl (lv_at hl 1 rfl) ?_
            refine g_get hx hb hts hown inA7 hK hP 0 (by decide) rfl rfl 0 (by decide) tw760 rfl (v := .ref (b 1)) rfl dX7_votes_106 ?_
            refine lv_iconst (v := 1) hx hb dX7_votes_109 (by decide) ?_
            refine g_iald hx hb hK hP 1 (by decide) rfl 1 rfl (by omega) (by decide) dX7_votes_110 (v := t 0 1) ((fl_g0 (s := t) (d := 1) (by omega)).trans rfl) ?_
            refine lv_isub hx hb dX7_votes_111 ?_
            refine ro_i (va_runS (As := [.int ((wordA t (behN j)) - (t 0 1))]) (rest := []) ⟨hx, hb, hml, hown, hts⟩ (m_X7_size l ((wordA t (behN j)) - (t 0 1))) (va_cwS 1 hts (gS tw855 tw853 tw854 tw8) rfl rfl rfl (by decide +kernel) ⟨Nat.le_of_ble_eq_true rfl, Nat.le_of_ble_eq_true rfl⟩) ps0 rfl rfl hl.1 rfl (lv_room (Nat.le_of_ble_eq_true rfl)) dX7_votes_112 ⟨Nat.le_of_ble_eq_true rfl, Nat.le_of_ble_eq_true rfl⟩) (fun r23 hr22 => ?_)
            subst hr22
            refine lv_as (y := distI (wordA t (behN j)) (t 0 1)) (abs_dist word_ok.1 hBt.2.1.1) ?_
            refine lv_istore (lv' := [(4, .int (distI (wordA t (behN j)) (t 0 1))), (3, .int (distI (wordA t j) (t 0 1))), (0, .ref (b 0)), (2, .int (nI j))]) hx hb dX7_votes_115 hl (by decide) rfl (fun ls hl => ?_)
            refine lv_iload_n hx hb dX7_votes_117 rfl (lv_at hl 1 rfl) ?_
            refine lv_iload hx hb dX7_votes_118 (lv_at hl 0 rfl) ?_
            refine lv_icmp_eq (tgt := 141) hx hb dX7_votes_120 (by decide) (fun c25 => ?_) (fun c25 => ?_)
            · skip
              have ceq := c25
              refine lv_iinc (v := nI (j + 1)) (lv' := [(2, .int (nI (j + 1))), (4, .int (distI (wordA t (behN j)) (t 0 1))), (3, .int (distI (wordA t j) (t 0 1))), (0, .ref (b 0))]) hx hb dX7_votes_141 hl (k := 3) rfl (nI_add j 1) (by decide) rfl (fun ls hl => ?_)
              refine lv_goto (tgt := 67) hx hb dX7_votes_144 (by decide) ?_
              exact ih67 (j + 1) t (by omega) (by omega) (by first | (show _ = setl (setlN (wordA s) j (hearS s (midI (wordA s) (s 7)))) (wordA s) j (behN j); rw [← ht]; unfold setl; rw [← hwt j, ← hwt (behN j)]; rw [if_neg cqn]; done) | (show _ = setl (setlN (wordA s) j (hearS s (midI (wordA s) (s 7)))) (wordA s) j (behN j); rw [← ht]; unfold setl; rw [← hwt j, ← hwt (behN j)]; rw [if_pos cqq, if_neg (fun q9 => i32_irr _ (ceq ▸ q9)), if_neg (fun q9 => i32_irr _ (ceq ▸ q9))]; done)) hwt hBt _ _ hP hS ls (lv_sub hl [3, 0] rfl)
            · skip
              have cne := c25
              refine lv_aload_n hx hb dX7_votes_123 rfl (lv_at hl 2 rfl) ?_
              refine lv_iload_n hx hb dX7_votes_124 rfl (lv_at hl 1 rfl) ?_
              refine lv_iload hx hb dX7_votes_125 (lv_at hl 0 rfl) ?_
              refine lv_icmp_le (tgt := 134) hx hb dX7_votes_127 (by decide) (fun c26 => ?_) (fun c26 => ?_)
              · skip
                have c26x := Int32.not_lt.mpr c26
                have clt : distI (wordA t j) (t 0 1) < distI (wordA t (behN j)) (t 0 1) := i_ltne c26 cne
                have clt2 := Int32.not_lt.mpr c26
                refine lv_iload_n hx hb dX7_votes_134 rfl (lv_at hl 3 rfl) ?_
                refine ro_i (va_runS (As := [.int (nI j)]) (rest := [.ref (b 0)]) ⟨hx, hb, hml, hown, hts⟩ (m_X7_behind l j (by omega)) (va_cwS 1 hts (gS tw852 tw850 tw851 tw8) rfl rfl rfl (by decide +kernel) ⟨Nat.le_of_ble_eq_true rfl, Nat.le_of_ble_eq_true rfl⟩) ps0 rfl rfl hl.1 rfl (lv_room (Nat.le_of_ble_eq_true rfl)) dX7_votes_135 ⟨Nat.le_of_ble_eq_true rfl, Nat.le_of_ble_eq_true rfl⟩) (fun r28 hr27 => ?_)
                subst hr27
                refine rw_v hS (va_runV (As := [.int (nI (behN j))]) (rest := []) ⟨hx, hb, hml, hown, hts⟩ (m_X7_loses l D cI cS b t kp hf sc ad bf (behN j) (by omega) _) (cwV 1 hts (gV tw859 tw856 tw858 ts32 tw8) rfl rfl rfl (by decide +kernel) ⟨Nat.le_of_ble_eq_true rfl, Nat.le_of_ble_eq_true rfl⟩) (pvW 0 hK hP hE (by decide) rfl rfl) rfl rfl hl.1 rfl (lv_room (Nat.le_of_ble_eq_true rfl)) dX7_votes_138 ⟨Nat.le_of_ble_eq_true rfl, Nat.le_of_ble_eq_true rfl⟩) (fun u32 H locs hr30 hP hS => ?_)
                refine lv_iinc (v := nI (j + 1)) (lv' := [(2, .int (nI (j + 1))), (4, .int (distI (wordA t (behN j)) (t 0 1))), (3, .int (distI (wordA t j) (t 0 1))), (0, .ref (b 0))]) hx hb dX7_votes_141 hl (k := 3) rfl (nI_add j 1) (by decide) rfl (fun ls hl => ?_)
                refine lv_goto (tgt := 67) hx hb dX7_votes_144 (by decide) ?_
                exact ih67 (j + 1) (lessS t (behN j)) (by omega) (by omega) (by show _ = setl (setlN (wordA s) j (hearS s (midI (wordA s) (s 7)))) (wordA s) j (behN j); rw [← ht]; unfold setl; rw [← hwt j, ← hwt (behN j)]; rw [if_pos cqq, if_neg clt2, if_pos clt]) (fun k => less_w.trans (hwt k)) (hBt.less (by omega)) _ _ hP hS ls (lv_sub hl [3, 0] rfl)
              · skip
                have c26x := Int32.not_le.mp c26
                have cgt := Int32.not_le.mp c26
                refine lv_iload_n hx hb dX7_votes_130 rfl (lv_at hl 3 rfl) ?_
                refine lv_goto (tgt := 138) hx hb dX7_votes_131 (by decide) ?_
                refine rw_v hS (va_runV (As := [.int (nI j)]) (rest := []) ⟨hx, hb, hml, hown, hts⟩ (m_X7_loses l D cI cS b t kp hf sc ad bf j (by omega) _) (cwV 1 hts (gV tw859 tw856 tw858 ts32 tw8) rfl rfl rfl (by decide +kernel) ⟨Nat.le_of_ble_eq_true rfl, Nat.le_of_ble_eq_true rfl⟩) (pvW 0 hK hP hE (by decide) rfl rfl) rfl rfl hl.1 rfl (lv_room (Nat.le_of_ble_eq_true rfl)) dX7_votes_138 ⟨Nat.le_of_ble_eq_true rfl, Nat.le_of_ble_eq_true rfl⟩) (fun u35 H locs hr33 hP hS => ?_)
                refine lv_iinc (v := nI (j + 1)) (lv' := [(2, .int (nI (j + 1))), (4, .int (distI (wordA t (behN j)) (t 0 1))), (3, .int (distI (wordA t j) (t 0 1))), (0, .ref (b 0))]) hx hb dX7_votes_141 hl (k := 3) rfl (nI_add j 1) (by decide) rfl (fun ls hl => ?_)
                refine lv_goto (tgt := 67) hx hb dX7_votes_144 (by decide) ?_
                exact ih67 (j + 1) (lessS t j) (by omega) (by omega) (by show _ = setl (setlN (wordA s) j (hearS s (midI (wordA s) (s 7)))) (wordA s) j (behN j); rw [← ht]; unfold setl; rw [← hwt j, ← hwt (behN j)]; rw [if_pos cqq, if_pos cgt]) (fun k => less_w.trans (hwt k)) (hBt.less (by omega)) _ _ hP hS ls (lv_sub hl [3, 0] rfl)
          · skip
            have cqn : ¬ (quarB t j) := c9
            refine lv_if_eq (tgt := 141) hx hb dX7_votes_78 (by decide) (fun _ => ?_) (fun h0 => absurd (by decide) h0)
            refine lv_iinc (v := nI (j + 1)) (lv' := [(2, .int (nI (j + 1))), (0, .ref (b 0))]) hx hb dX7_votes_141 hl (k := 1) rfl (nI_add j 1) (by decide) rfl (fun ls hl => ?_)
            refine lv_goto (tgt := 67) hx hb dX7_votes_144 (by decide) ?_
            exact ih67 (j + 1) t (by omega) (by omega) (by first | (show _ = setl (setlN (wordA s) j (hearS s (midI (wordA s) (s 7)))) (wordA s) j (behN j); rw [← ht]; unfold setl; rw [← hwt j, ← hwt (behN j)]; rw [if_neg cqn]; done) | (show _ = setl (setlN (wordA s) j (hearS s (midI (wordA s) (s 7)))) (wordA s) j (behN j); rw [← ht]; unfold setl; rw [← hwt j, ← hwt (behN j)]; rw [if_pos cqq, if_neg (fun q9 => i32_irr _ (ceq ▸ q9)), if_neg (fun q9 => i32_irr _ (ceq ▸ q9))]; done)) hwt hBt _ _ hP hS ls (lv_sub hl [1, 0] rfl)
    exact loop67 (7 + 1) 0 (up2 (up2 (up2 s 0 2 ((s 0 2) + 1)) 0 3 ((s 0 3) + 1)) 0 1 (s 0 1)) (by omega) (by omega) (hear_eq (by first | rw [if_pos hyes] | rw [if_neg hno]) (by first | rw [if_pos hyes] | rw [if_neg hno])) (fun k => (congrArg (fun q => wordA q k) (hear_eq (by first | rw [if_pos hyes] | rw [if_neg hno]) (by first | rw [if_pos hyes] | rw [if_neg hno]))).trans hear_w) ((hear_eq (by first | rw [if_pos hyes] | rw [if_neg hno]) (by first | rw [if_pos hyes] | rw [if_neg hno])) ▸ hBd.hear (by omega) hm9) _ _ hP hS ls (lv_sub hl [2, 0] rfl)
  · skip
    have c4x := Int32.not_le.mp c4
    have hyes : s 0 1 < midI (wordA s) (s 7) := Int32.not_le.mp c4
    refine lv_iconst (v := 0) hx hb dX7_votes_32 (by decide) ?_
    refine lv_goto (tgt := 37) hx hb dX7_votes_33 (by decide) ?_
    refine lv_iadd hx hb dX7_votes_37 ?_
    refine g_iast hx hb hK hP hE hS 1 (by decide) rfl 5 rfl (by omega) (by omega) dX7_votes_38 (ex' := emC cI b (mdl (up2 (up2 s 0 2 ((s 0 2) + 1)) 0 3 ((s 0 3) + 0)) kp hf sc ad bf)) (fl_e (fl_sv (d := 1) (by omega))) mm_s (fun H locs hP hS => ?_)
    refine lv_aload_n hx hb dX7_votes_39 rfl (lv_at hl 1 rfl) ?_
    refine g_get hx hb hts hown inA7 hK hP 0 (by decide) rfl rfl 0 (by decide) tw760 rfl (v := .ref (b 1)) rfl dX7_votes_40 ?_
    refine lv_iconst (v := 1) hx hb dX7_votes_43 (by decide) ?_
    refine lv_iload_n hx hb dX7_votes_44 rfl (lv_at hl 0 rfl) ?_
    refine lv_aload_n hx hb dX7_votes_45 rfl (lv_at hl 1 rfl) ?_
    refine g_get hx hb hts hown inA7 hK hP 0 (by decide) rfl rfl 0 (by decide) tw760 rfl (v := .ref (b 1)) rfl dX7_votes_46 ?_
    refine lv_iconst (v := 1) hx hb dX7_votes_49 (by decide) ?_
    refine g_iald hx hb hK hP 1 (by decide) rfl 1 rfl (by omega) (by decide) dX7_votes_50 (v := s 0 1) ((fl_g0 (s := (up2 (up2 s 0 2 ((s 0 2) + 1)) 0 3 ((s 0 3) + 0))) (d := 1) (by omega)).trans (by simp [up2, upR, upd])) ?_
    refine lv_icmp_le (tgt := 58) hx hb dX7_votes_51 (by decide) (fun h0 => absurd h0 (Int32.not_le.mpr hyes)) (fun _ => ?_)
    refine lv_iload_n hx hb dX7_votes_54 rfl (lv_at hl 0 rfl) ?_
    refine lv_goto (tgt := 64) hx hb dX7_votes_55 (by decide) ?_
    refine g_iast hx hb hK hP hE hS 1 (by decide) rfl 1 rfl (by omega) (by omega) dX7_votes_64 (ex' := emC cI b (mdl (up2 (up2 (up2 s 0 2 ((s 0 2) + 1)) 0 3 ((s 0 3) + 0)) 0 1 (midI (wordA s) (s 7))) kp hf sc ad bf)) (fl_e (fl_s0 (d := 1) (by omega))) mm_s (fun H locs hP hS => ?_)
    refine lv_iconst (v := 0) hx hb dX7_votes_65 (by decide) ?_
    refine lv_istore_n (lv' := [(2, .int 0), (1, .int (midI (wordA s) (s 7))), (0, .ref (b 0))]) hx hb dX7_votes_66 rfl hl (by decide) rfl (fun ls hl => ?_)
    have loop67 : ∀ (fu : Nat) (j : Nat) (t : St), 7 + 1 ≤ j + fu → (j ≤ 7) → (t = setlN (wordA s) j (hearS s (midI (wordA s) (s 7)))) → (∀ k, wordA t k = wordA s k) → (Bd (T + 1) t) → ∀ (H : Heap) (locs : List Loc), HP D 6 b (emC cI b (mdl t kp hf sc ad bf)) H → va_S (AX 6 b z.heap.size) z.heap H locs → ∀ ls : Array Slot, lv_has ls 5 [(0, .ref (b 0)), (2, .int (nI j))] → W p l e ({ frames := 2, cells := 0, slots := 0, locals := 46 } : Room) z m ([.ref (b 0)] : List Value).toArray below meth c H locs 0 0 (MQ below (va_Qi (fun (r : Int32) (u : Unit) => r = voteS s 0 1) (BW D 6 b (fun u => emC cI b (mdl (voteS s) kp hf sc ad bf))) (AX 6 b z.heap.size)) ([.ref (b 0)] : List Value).toArray z 0 0 (AX 6 b z.heap.size)) (F0 m 67 ls []) := by
      intro fu
      induction fu with
      | zero => intro j t hn hj ht hwt hBt; exact absurd hn (by omega)
      | succ fu ih67 =>
        intro j t hn hj ht hwt hBt H locs hP hS ls hl
        refine lv_iload_n hx hb dX7_votes_67 rfl (lv_at hl 1 rfl) ?_
        refine lv_bipush (v := 7) hx hb dX7_votes_68 (by decide) ?_
        refine lv_icmp_ge (tgt := 147) hx hb dX7_votes_70 (by decide) (fun c36 => ?_) (fun c36 => ?_)
        · skip
          have c36x := Int32.not_lt.mpr c36
          have c36n := (nI_le2 (p := 7) (q := j) rfl rfl (by omega) (by omega)).mp c36
          have c36n : 7 ≤ j := c36n
          have hjq : 7 = j := by omega
          subst hjq
          refine lv_aload_n hx hb dX7_votes_147 rfl (lv_at hl 0 rfl) ?_
          refine g_get hx hb hts hown inA7 hK hP 0 (by decide) rfl rfl 0 (by decide) tw760 rfl (v := .ref (b 1)) rfl dX7_votes_148 ?_
          refine lv_iconst (v := 1) hx hb dX7_votes_151 (by decide) ?_
          refine g_iald hx hb hK hP 1 (by decide) rfl 1 rfl (by omega) (by decide) dX7_votes_152 (v := t 0 1) ((fl_g0 (s := t) (d := 1) (by omega)).trans rfl) ?_
          have hWs : (voteS s) = t := by rw [ht]; rfl
          have hP := hP.cast (e' := emC cI b (mdl (voteS s) kp hf sc ad bf)) (by rw [hWs])
          exact rw_ir hx hb hr rfl hlocks hS () hP (by rw [ht]; rfl) dX7_votes_153
        · skip
          have c36x := Int32.not_le.mp c36
          have c36n := fun hq0 => c36 ((nI_le2 (p := 7) (q := j) rfl rfl (by omega) (by omega)).mpr hq0)
          have c36n : ¬ (7 ≤ j) := c36n
          refine lv_aload_n hx hb dX7_votes_73 rfl (lv_at hl 0 rfl) ?_
          refine lv_iload_n hx hb dX7_votes_74 rfl (lv_at hl 1 rfl) ?_
          refine ro_i (va_runV (As := [.int (nI j)]) (rest := []) ⟨hx, hb, hml, hown, hts⟩ (m_X7_quarrel l D cI cS b t kp hf sc ad bf j (by omega)) (cwV 1 hts (gV tw849 tw846 tw848 ts31 tw8) rfl rfl rfl (by decide +kernel) ⟨Nat.le_of_ble_eq_true rfl, Nat.le_of_ble_eq_true rfl⟩) (pvR 0 hK hP (by decide) rfl rfl) rfl rfl hl.1 rfl (lv_room (Nat.le_of_ble_eq_true rfl)) dX7_votes_75 ⟨Nat.le_of_ble_eq_true rfl, Nat.le_of_ble_eq_true rfl⟩) (fun r38 hr37 => ?_)
          subst hr37
          refine lv_bI (fun c40 => ?_) (fun c40 => ?_)
          · skip
            have cqq : (quarB t j) := c40
            refine lv_if_eq (tgt := 141) hx hb dX7_votes_78 (by decide) (fun h0 => absurd h0 (by decide)) (fun _ => ?_)
            refine lv_aload_n hx hb dX7_votes_81 rfl (lv_at hl 0 rfl) ?_
            refine lv_iload_n hx hb dX7_votes_82 rfl (lv_at hl 1 rfl) ?_
            refine ro_i (va_runV (As := [.int (nI j)]) (rest := []) ⟨hx, hb, hml, hown, hts⟩ (m_X7_word l D cI cS b t kp hf sc ad bf j (by omega)) (cwV 1 hts (gV tw845 tw842 tw844 ts30 tw8) rfl rfl rfl (by decide +kernel) ⟨Nat.le_of_ble_eq_true rfl, Nat.le_of_ble_eq_true rfl⟩) (pvR 0 hK hP (by decide) rfl rfl) rfl rfl hl.1 rfl (lv_room (Nat.le_of_ble_eq_true rfl)) dX7_votes_83 ⟨Nat.le_of_ble_eq_true rfl, Nat.le_of_ble_eq_true rfl⟩) (fun r42 hr41 => ?_)
            subst hr41
            refine lv_aload_n hx hb dX7_votes_86 rfl (lv_at hl 0 rfl) ?_
            refine g_get hx hb hts hown inA7 hK hP 0 (by decide) rfl rfl 0 (by decide) tw760 rfl (v := .ref (b 1)) rfl dX7_votes_87 ?_
            refine lv_iconst (v := 1) hx hb dX7_votes_90 (by decide) ?_
            refine g_iald hx hb hK hP 1 (by decide) rfl 1 rfl (by omega) (by decide) dX7_votes_91 (v := t 0 1) ((fl_g0 (s := t) (d := 1) (by omega)).trans rfl) ?_
            refine lv_isub hx hb dX7_votes_92 ?_
            refine ro_i (va_runS (As := [.int ((wordA t j) - (t 0 1))]) (rest := []) ⟨hx, hb, hml, hown, hts⟩ (m_X7_size l ((wordA t j) - (t 0 1))) (va_cwS 1 hts (gS tw855 tw853 tw854 tw8) rfl rfl rfl (by decide +kernel) ⟨Nat.le_of_ble_eq_true rfl, Nat.le_of_ble_eq_true rfl⟩) ps0 rfl rfl hl.1 rfl (lv_room (Nat.le_of_ble_eq_true rfl)) dX7_votes_93 ⟨Nat.le_of_ble_eq_true rfl, Nat.le_of_ble_eq_true rfl⟩) (fun r45 hr44 => ?_)
            subst hr44
            refine lv_as (y := distI (wordA t j) (t 0 1)) (abs_dist word_ok.1 hBt.2.1.1) ?_
            refine lv_istore_n (lv' := [(3, .int (distI (wordA t j) (t 0 1))), (0, .ref (b 0)), (2, .int (nI j))]) hx hb dX7_votes_96 rfl hl (by decide) rfl (fun ls hl => ?_)
            refine lv_aload_n hx hb dX7_votes_97 rfl (lv_at hl 1 rfl) ?_
            have hbj := behN_lt (d := j)
            refine lv_iload_n hx hb dX7_votes_98 rfl (lv_at hl 2 rfl) ?_
            refine ro_i (va_runS (As := [.int (nI j)]) (rest := [.ref (b 0)]) ⟨hx, hb, hml, hown, hts⟩ (m_X7_behind l j (by omega)) (va_cwS 1 hts (gS tw852 tw850 tw851 tw8) rfl rfl rfl (by decide +kernel) ⟨Nat.le_of_ble_eq_true rfl, Nat.le_of_ble_eq_true rfl⟩) ps0 rfl rfl hl.1 rfl (lv_room (Nat.le_of_ble_eq_true rfl)) dX7_votes_99 ⟨Nat.le_of_ble_eq_true rfl, Nat.le_of_ble_eq_true rfl⟩) (fun r48 hr47 => ?_)
            subst hr47
            refine ro_i (va_runV (As := [.int (nI (behN j))]) (rest := []) ⟨hx, hb, hml, hown, hts⟩ (m_X7_word l D cI cS b t kp hf sc ad bf (behN j) (by omega)) (cwV 1 hts (gV tw845 tw842 tw844 ts30 tw8) rfl rfl rfl (by decide +kernel) ⟨Nat.le_of_ble_eq_true rfl, Nat.le_of_ble_eq_true rfl⟩) (pvR 0 hK hP (by decide) rfl rfl) rfl rfl hl.1 rfl (lv_room (Nat.le_of_ble_eq_true rfl)) dX7_votes_102 ⟨Nat.le_of_ble_eq_true rfl, Nat.le_of_ble_eq_true rfl⟩) (fun r51 hr50 => ?_)
            subst hr50
            refine lv_aload_n hx hb dX7_votes_105 rfl (lv_at hl 1 rfl) ?_
            refine g_get hx hb hts hown inA7 hK hP 0 (by decide) rfl rfl 0 (by decide) tw760 rfl (v := .ref (b 1)) rfl dX7_votes_106 ?_
            refine lv_iconst (v := 1) hx hb dX7_votes_109 (by decide) ?_
            refine g_iald hx hb hK hP 1 (by decide) rfl 1 rfl (by omega) (by decide) dX7_votes_110 (v := t 0 1) ((fl_g0 (s := t) (d := 1) (by omega)).trans rfl) ?_
            refine lv_isub hx hb dX7_votes_111 ?_
            refine ro_i (va_runS (As := [.int ((wordA t (behN j)) - (t 0 1))]) (rest := []) ⟨hx, hb, hml, hown, hts⟩ (m_X7_size l ((wordA t (behN j)) - (t 0 1))) (va_cwS 1 hts (gS tw855 tw853 tw854 tw8) rfl rfl rfl (by decide +kernel) ⟨Nat.le_of_ble_eq_true rfl, Nat.le_of_ble_eq_true rfl⟩) ps0 rfl rfl hl.1 rfl (lv_room (Nat.le_of_ble_eq_true rfl)) dX7_votes_112 ⟨Nat.le_of_ble_eq_true rfl, Nat.le_of_ble_eq_true rfl⟩) (fun r54 hr53 => ?_)
            subst hr53
            refine lv_as (y := distI (wordA t (behN j)) (t 0 1)) (abs_dist word_ok.1 hBt.2.1.1) ?_
            refine lv_istore (lv' := [(4, .int (distI (wordA t (behN j)) (t 0 1))), (3, .int (distI (wordA t j) (t 0 1))), (0, .ref (b 0)), (2, .int (nI j))]) hx hb dX7_votes_115 hl (by decide) rfl (fun ls hl => ?_)
            refine lv_iload_n hx hb dX7_votes_117 rfl (lv_at hl 1 rfl) ?_
            refine lv_iload hx hb dX7_votes_118 (lv_at hl 0 rfl) ?_
            refine lv_icmp_eq (tgt := 141) hx hb dX7_votes_120 (by decide) (fun c56 => ?_) (fun c56 => ?_)
            · skip
              have ceq := c56
              refine lv_iinc (v := nI (j + 1)) (lv' := [(2, .int (nI (j + 1))), (4, .int (distI (wordA t (behN j)) (t 0 1))), (3, .int (distI (wordA t j) (t 0 1))), (0, .ref (b 0))]) hx hb dX7_votes_141 hl (k := 3) rfl (nI_add j 1) (by decide) rfl (fun ls hl => ?_)
              refine lv_goto (tgt := 67) hx hb dX7_votes_144 (by decide) ?_
              exact ih67 (j + 1) t (by omega) (by omega) (by first | (show _ = setl (setlN (wordA s) j (hearS s (midI (wordA s) (s 7)))) (wordA s) j (behN j); rw [← ht]; unfold setl; rw [← hwt j, ← hwt (behN j)]; rw [if_neg cqn]; done) | (show _ = setl (setlN (wordA s) j (hearS s (midI (wordA s) (s 7)))) (wordA s) j (behN j); rw [← ht]; unfold setl; rw [← hwt j, ← hwt (behN j)]; rw [if_pos cqq, if_neg (fun q9 => i32_irr _ (ceq ▸ q9)), if_neg (fun q9 => i32_irr _ (ceq ▸ q9))]; done)) hwt hBt _ _ hP hS ls (lv_sub hl [3, 0] rfl)
            · skip
              have cne := c56
              refine lv_aload_n hx hb dX7_votes_123 rfl (lv_at hl 2 rfl) ?_
              refine lv_iload_n hx hb dX7_votes_124 rfl (lv_at hl 1 rfl) ?_
              refine lv_iload hx hb dX7_votes_125 (lv_at hl 0 rfl) ?_
              refine lv_icmp_le (tgt := 134) hx hb dX7_votes_127 (by decide) (fun c57 => ?_) (fun c57 => ?_)
              · skip
                have c57x := Int32.not_lt.mpr c57
                have clt : distI (wordA t j) (t 0 1) < distI (wordA t (behN j)) (t 0 1) := i_ltne c57 cne
                have clt2 := Int32.not_lt.mpr c57
                refine lv_iload_n hx hb dX7_votes_134 rfl (lv_at hl 3 rfl) ?_
                refine ro_i (va_runS (As := [.int (nI j)]) (rest := [.ref (b 0)]) ⟨hx, hb, hml, hown, hts⟩ (m_X7_behind l j (by omega)) (va_cwS 1 hts (gS tw852 tw850 tw851 tw8) rfl rfl rfl (by decide +kernel) ⟨Nat.le_of_ble_eq_true rfl, Nat.le_of_ble_eq_true rfl⟩) ps0 rfl rfl hl.1 rfl (lv_room (Nat.le_of_ble_eq_true rfl)) dX7_votes_135 ⟨Nat.le_of_ble_eq_true rfl, Nat.le_of_ble_eq_true rfl⟩) (fun r59 hr58 => ?_)
                subst hr58
                refine rw_v hS (va_runV (As := [.int (nI (behN j))]) (rest := []) ⟨hx, hb, hml, hown, hts⟩ (m_X7_loses l D cI cS b t kp hf sc ad bf (behN j) (by omega) _) (cwV 1 hts (gV tw859 tw856 tw858 ts32 tw8) rfl rfl rfl (by decide +kernel) ⟨Nat.le_of_ble_eq_true rfl, Nat.le_of_ble_eq_true rfl⟩) (pvW 0 hK hP hE (by decide) rfl rfl) rfl rfl hl.1 rfl (lv_room (Nat.le_of_ble_eq_true rfl)) dX7_votes_138 ⟨Nat.le_of_ble_eq_true rfl, Nat.le_of_ble_eq_true rfl⟩) (fun u63 H locs hr61 hP hS => ?_)
                refine lv_iinc (v := nI (j + 1)) (lv' := [(2, .int (nI (j + 1))), (4, .int (distI (wordA t (behN j)) (t 0 1))), (3, .int (distI (wordA t j) (t 0 1))), (0, .ref (b 0))]) hx hb dX7_votes_141 hl (k := 3) rfl (nI_add j 1) (by decide) rfl (fun ls hl => ?_)
                refine lv_goto (tgt := 67) hx hb dX7_votes_144 (by decide) ?_
                exact ih67 (j + 1) (lessS t (behN j)) (by omega) (by omega) (by show _ = setl (setlN (wordA s) j (hearS s (midI (wordA s) (s 7)))) (wordA s) j (behN j); rw [← ht]; unfold setl; rw [← hwt j, ← hwt (behN j)]; rw [if_pos cqq, if_neg clt2, if_pos clt]) (fun k => less_w.trans (hwt k)) (hBt.less (by omega)) _ _ hP hS ls (lv_sub hl [3, 0] rfl)
              · skip
                have c57x := Int32.not_le.mp c57
                have cgt := Int32.not_le.mp c57
                refine lv_iload_n hx hb dX7_votes_130 rfl (lv_at hl 3 rfl) ?_
                refine lv_goto (tgt := 138) hx hb dX7_votes_131 (by decide) ?_
                refine rw_v hS (va_runV (As := [.int (nI j)]) (rest := []) ⟨hx, hb, hml, hown, hts⟩ (m_X7_loses l D cI cS b t kp hf sc ad bf j (by omega) _) (cwV 1 hts (gV tw859 tw856 tw858 ts32 tw8) rfl rfl rfl (by decide +kernel) ⟨Nat.le_of_ble_eq_true rfl, Nat.le_of_ble_eq_true rfl⟩) (pvW 0 hK hP hE (by decide) rfl rfl) rfl rfl hl.1 rfl (lv_room (Nat.le_of_ble_eq_true rfl)) dX7_votes_138 ⟨Nat.le_of_ble_eq_true rfl, Nat.le_of_ble_eq_true rfl⟩) (fun u66 H locs hr64 hP hS => ?_)
                refine lv_iinc (v := nI (j + 1)) (lv' := [(2, .int (nI (j + 1))), (4, .int (distI (wordA t (behN j)) (t 0 1))), (3, .int (distI (wordA t j) (t 0 1))), (0, .ref (b 0))]) hx hb dX7_votes_141 hl (k := 3) rfl (nI_add j 1) (by decide) rfl (fun ls hl => ?_)
                refine lv_goto (tgt := 67) hx hb dX7_votes_144 (by decide) ?_
                exact ih67 (j + 1) (lessS t j) (by omega) (by omega) (by show _ = setl (setlN (wordA s) j (hearS s (midI (wordA s) (s 7)))) (wordA s) j (behN j); rw [← ht]; unfold setl; rw [← hwt j, ← hwt (behN j)]; rw [if_pos cqq, if_pos cgt]) (fun k => less_w.trans (hwt k)) (hBt.less (by omega)) _ _ hP hS ls (lv_sub hl [3, 0] rfl)
          · skip
            have cqn : ¬ (quarB t j) := c40
            refine lv_if_eq (tgt := 141) hx hb dX7_votes_78 (by decide) (fun _ => ?_) (fun h0 => absurd (by decide) h0)
            refine lv_iinc (v := nI (j + 1)) (lv' := [(2, .int (nI (j + 1))), (0, .ref (b 0))]) hx hb dX7_votes_141 hl (k := 1) rfl (nI_add j 1) (by decide) rfl (fun ls hl => ?_)
            refine lv_goto (tgt := 67) hx hb dX7_votes_144 (by decide) ?_
            exact ih67 (j + 1) t (by omega) (by omega) (by first | (show _ = setl (setlN (wordA s) j (hearS s (midI (wordA s) (s 7)))) (wordA s) j (behN j); rw [← ht]; unfold setl; rw [← hwt j, ← hwt (behN j)]; rw [if_neg cqn]; done) | (show _ = setl (setlN (wordA s) j (hearS s (midI (wordA s) (s 7)))) (wordA s) j (behN j); rw [← ht]; unfold setl; rw [← hwt j, ← hwt (behN j)]; rw [if_pos cqq, if_neg (fun q9 => i32_irr _ (ceq ▸ q9)), if_neg (fun q9 => i32_irr _ (ceq ▸ q9))]; done)) hwt hBt _ _ hP hS ls (lv_sub hl [1, 0] rfl)
    exact loop67 (7 + 1) 0 (up2 (up2 (up2 s 0 2 ((s 0 2) + 1)) 0 3 ((s 0 3) + 0)) 0 1 (midI (wordA s) (s 7))) (by omega) (by omega) (hear_eq (by first | rw [if_pos hyes] | rw [if_neg hno]) (by first | rw [if_pos hyes] | rw [if_neg hno])) (fun k => (congrArg (fun q => wordA q k) (hear_eq (by first | rw [if_pos hyes] | rw [if_neg hno]) (by first | rw [if_pos hyes] | rw [if_neg hno]))).trans hear_w) ((hear_eq (by first | rw [if_pos hyes] | rw [if_neg hno]) (by first | rw [if_pos hyes] | rw [if_neg hno])) ▸ hBd.hear (by omega) hm9) _ _ hP hS ls (lv_sub hl [2, 0] rfl)
