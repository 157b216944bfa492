set_option maxHeartbeats 4000000 in
set_option maxRecDepth 100000 in
theorem m_X7_quarrelsIn (l : Launch) (D : va_G) (cI cS : ClassId) (b : Nat → Nat) (s kp : St) (hf : Nat → St) (sc ad bf : Nat → Int32) (T : Int) (hBd : Bd T s) (hT : T ≤ 100000000) (d : Nat) (hd : d < 7) (zz : Nat) : Met l yX7_quarrelsIn (.code yX7_quarrelsIn cX7_quarrelsIn 5 (some .int) :: wsA) ({ frames := 2, cells := 0, slots := 0, locals := 48 } : Room) (va_Pc [.ref (b 0), .int (nI d)] (PW D cI cS 6 b (emC cI b (mdl s kp hf sc ad bf)) zz)) (va_Qi (fun (r : Int32) (u : Nat → Int32) => r = qF s d (behN d) 201 0 (s 1 d) (s 1 (behN d))) (BW D 6 b (fun u => emC cI b (mdl s kp hf sc u bf))) (AX 6 b zz)) 0 0 (AX 6 b zz) := by
  refine mgo (by decide) (Nat.le_of_ble_eq_true rfl) ?_
  intro p e z m below meth c hx hb hr hml hown hts hlocks hB ls hl
  obtain ⟨hsz, hP, hK, hE⟩ := hB
  subst hsz
  have hS : va_S (AX 6 b z.heap.size) z.heap z.heap [] := va_S.rf
  have hl : lv_has ls 5 [(0, .ref (b 0)), (1, .int (nI d))] := hl
  refine lv_aload_n hx hb dX7_quarrelsIn_0 rfl (lv_at hl 0 rfl) ?_
  refine rw_v hS (va_runV (As := []) (rest := []) ⟨hx, hb, hml, hown, hts⟩ (m_X7_putAside l D cI cS b (mdl s kp hf sc ad bf) _) (cwV 0 hts (gV tw1018 tw1015 tw1017 ts51 tw8) rfl rfl rfl (by decide +kernel) ⟨Nat.le_of_ble_eq_true rfl, Nat.le_of_ble_eq_true rfl⟩) (pvW 0 hK hP hE (by decide) rfl rfl) rfl rfl hl.1 rfl (lv_room (Nat.le_of_ble_eq_true rfl)) dX7_quarrelsIn_1 ⟨Nat.le_of_ble_eq_true rfl, Nat.le_of_ble_eq_true rfl⟩) (fun u3 H locs hr1 hP hS => ?_)
  have hP : HP D 6 b (emC cI b (mdl s kp hf sc (cpN (fl s) ad 69) bf)) H := hP.cast (congrArg (emC cI b) mdl_2).symm
  refine lv_aload_n hx hb dX7_quarrelsIn_4 rfl (lv_at hl 0 rfl) ?_
  refine lv_iload_n hx hb dX7_quarrelsIn_5 rfl (lv_at hl 1 rfl) ?_
  refine ro_i (va_runV (As := [.int (nI d)]) (rest := []) ⟨hx, hb, hml, hown, hts⟩ (m_X7_quarrel l D cI cS b s kp hf sc (cpN (fl s) ad 69) bf d (by omega)) (cwV 1 hts (gV tw849 tw846 tw848 ts31 tw8) rfl rfl rfl (by decide +kernel) ⟨Nat.le_of_ble_eq_true rfl, Nat.le_of_ble_eq_true rfl⟩) (pvR 0 hK hP (by decide) rfl rfl) rfl rfl hl.1 rfl (lv_room (Nat.le_of_ble_eq_true rfl)) dX7_quarrelsIn_6 ⟨Nat.le_of_ble_eq_true rfl, Nat.le_of_ble_eq_true rfl⟩) (fun r5 hr4 => ?_)
  subst hr4
  refine lv_bI (fun c7 => ?_) (fun c7 => ?_)
  · skip
    refine lv_if_eq (tgt := 16) hx hb dX7_quarrelsIn_9 (by decide) (fun h0 => absurd h0 (by decide)) (fun _ => ?_)
    refine lv_iconst (v := 0) hx hb dX7_quarrelsIn_12 (by decide) ?_
    refine lv_goto (tgt := 17) hx hb dX7_quarrelsIn_13 (by decide) ?_
    refine lv_istore_n (lv' := [(2, .int 0), (0, .ref (b 0)), (1, .int (nI d))]) hx hb dX7_quarrelsIn_17 rfl hl (by decide) rfl (fun ls hl => ?_)
    refine lv_iconst (v := 1) hx hb dX7_quarrelsIn_18 (by decide) ?_
    refine lv_istore_n (lv' := [(3, .int 1), (2, .int 0), (0, .ref (b 0)), (1, .int (nI d))]) hx hb dX7_quarrelsIn_19 rfl hl (by decide) rfl (fun ls hl => ?_)
    have loop20 : ∀ (fu : Nat) (k : Nat) (x : Int32) (t : St), 200 + 1 ≤ k + fu → (k ≤ 200) → (t = ticksS k s) → (x = -1 → qS s d 0 201 = qS s d (k + 1) (200 - k)) → (¬ x = -1 → qS s d 0 201 = x) → ∀ (H : Heap) (locs : List Loc), HP D 6 b (emC cI b (mdl t kp hf sc (cpN (fl s) ad 69) bf)) H → va_S (AX 6 b z.heap.size) z.heap H locs → ∀ ls : Array Slot, lv_has ls 5 [(0, .ref (b 0)), (1, .int (nI d)), (2, .int x), (3, .int (nI (k + 1)))] → W p l e ({ frames := 2, cells := 0, slots := 0, locals := 48 } : Room) z m ([.ref (b 0), .int (nI d)] : List Value).toArray below meth c H locs 0 0 (MQ below (va_Qi (fun (r : Int32) (u : Nat → Int32) => r = qF s d (behN d) 201 0 (s 1 d) (s 1 (behN d))) (BW D 6 b (fun u => emC cI b (mdl s kp hf sc u bf))) (AX 6 b z.heap.size)) ([.ref (b 0), .int (nI d)] : List Value).toArray z 0 0 (AX 6 b z.heap.size)) (F0 m 20 ls []) := by
      intro fu
      induction fu with
      | zero => intro k x t hn hk ht hR1 hR2; exact absurd hn (by omega)
      | succ fu ih20 =>
        intro k x t hn hk ht hR1 hR2 H locs hP hS ls hl
        refine lv_iload_n hx hb dX7_quarrelsIn_20 rfl (lv_at hl 3 rfl) ?_
        refine lv_sipush (v := 200) hx hb dX7_quarrelsIn_21 (by decide) ?_
        refine lv_icmp_gt (tgt := 58) hx hb dX7_quarrelsIn_24 (by decide) (fun c8 => ?_) (fun c8 => ?_)
        · skip
          have c8x := Int32.not_le.mpr c8
          have c8n := (nI_lt2 (p := 200) (q := k + 1) rfl rfl (by omega) (by omega)).mp c8
          have c8n : 200 < k + 1 := c8n
          have hjq : 200 = k := by omega
          subst hjq
          refine lv_aload_n hx hb dX7_quarrelsIn_58 rfl (lv_at hl 0 rfl) ?_
          refine rw_v hS (va_runV (As := []) (rest := []) ⟨hx, hb, hml, hown, hts⟩ (m_X7_putBack l D cI cS b (mdl t kp hf sc (cpN (fl s) ad 69) bf) _) (cwV 0 hts (gV tw1022 tw1019 tw1021 ts52 tw8) rfl rfl rfl (by decide +kernel) ⟨Nat.le_of_ble_eq_true rfl, Nat.le_of_ble_eq_true rfl⟩) (pvW 0 hK hP hE (by decide) rfl rfl) rfl rfl hl.1 rfl (lv_room (Nat.le_of_ble_eq_true rfl)) dX7_quarrelsIn_59 ⟨Nat.le_of_ble_eq_true rfl, Nat.le_of_ble_eq_true rfl⟩) (fun u11 H locs hr9 hP hS => ?_)
          have hP : HP D 6 b (emC cI b (mdl s kp hf sc (cpN (fl s) ad 69) bf)) H := back_cv hP
          refine lv_iload_n hx hb dX7_quarrelsIn_62 rfl (lv_at hl 2 rfl) ?_
          exact rw_ir hx hb hr rfl hlocks hS (cpN (fl s) ad 69) hP (q_fin (y := qS s d 0 201) (fun h9 => (hR1 h9).trans rfl) hR2) dX7_quarrelsIn_63
        · skip
          have c8x := Int32.not_lt.mp c8
          have c8n := fun hq0 => c8 ((nI_lt2 (p := 200) (q := k + 1) rfl rfl (by omega) (by omega)).mpr hq0)
          have c8n : ¬ (200 < k + 1) := c8n
          refine lv_iload_n hx hb dX7_quarrelsIn_27 rfl (lv_at hl 2 rfl) ?_
          refine lv_iconst (v := (-1)) hx hb dX7_quarrelsIn_28 (by decide) ?_
          refine lv_icmp_ne (tgt := 58) hx hb dX7_quarrelsIn_29 (by decide) (fun c12 => ?_) (fun c12 => ?_)
          · skip
            have cx := c12
            refine lv_aload_n hx hb dX7_quarrelsIn_58 rfl (lv_at hl 0 rfl) ?_
            refine rw_v hS (va_runV (As := []) (rest := []) ⟨hx, hb, hml, hown, hts⟩ (m_X7_putBack l D cI cS b (mdl t kp hf sc (cpN (fl s) ad 69) bf) _) (cwV 0 hts (gV tw1022 tw1019 tw1021 ts52 tw8) rfl rfl rfl (by decide +kernel) ⟨Nat.le_of_ble_eq_true rfl, Nat.le_of_ble_eq_true rfl⟩) (pvW 0 hK hP hE (by decide) rfl rfl) rfl rfl hl.1 rfl (lv_room (Nat.le_of_ble_eq_true rfl)) dX7_quarrelsIn_59 ⟨Nat.le_of_ble_eq_true rfl, Nat.le_of_ble_eq_true rfl⟩) (fun u15 H locs hr13 hP hS => ?_)
            have hP : HP D 6 b (emC cI b (mdl s kp hf sc (cpN (fl s) ad 69) bf)) H := back_cv hP
            refine lv_iload_n hx hb dX7_quarrelsIn_62 rfl (lv_at hl 2 rfl) ?_
            exact rw_ir hx hb hr rfl hlocks hS (cpN (fl s) ad 69) hP (hR2 cx).symm dX7_quarrelsIn_63
          · skip
            have cx := c12
            refine lv_aload_n hx hb dX7_quarrelsIn_32 rfl (lv_at hl 0 rfl) ?_
            refine rw_i hS (va_runV (As := []) (rest := []) ⟨hx, hb, hml, hown, hts⟩ (m_X7_tickOnce l D cI cS b t kp hf sc (cpN (fl s) ad 69) bf (T + 10 * (k : Int)) (by rw [ht]; exact hBd.ticks k (by omega)) (by omega) _) (cwV 0 hts (gV tw820 tw817 tw819 ts25 tw8) rfl rfl rfl (by decide +kernel) ⟨Nat.le_of_ble_eq_true rfl, Nat.le_of_ble_eq_true rfl⟩) (pvW 0 hK hP hE (by decide) rfl rfl) rfl rfl hl.1 rfl (lv_room (Nat.le_of_ble_eq_true rfl)) dX7_quarrelsIn_33 ⟨Nat.le_of_ble_eq_true rfl, Nat.le_of_ble_eq_true rfl⟩) (fun r17 u18 H locs hr16 hP hS => ?_)
            refine lv_istore (lv' := [(4, .int r17), (0, .ref (b 0)), (1, .int (nI d)), (2, .int x), (3, .int (nI (k + 1)))]) hx hb dX7_quarrelsIn_36 hl (by decide) rfl (fun ls hl => ?_)
            refine lv_aload_n hx hb dX7_quarrelsIn_38 rfl (lv_at hl 1 rfl) ?_
            refine lv_iload_n hx hb dX7_quarrelsIn_39 rfl (lv_at hl 2 rfl) ?_
            refine ro_i (va_runV (As := [.int (nI d)]) (rest := []) ⟨hx, hb, hml, hown, hts⟩ (m_X7_quarrel l D cI cS b (ptN 7 (up2 t 0 0 (t 0 0 + 10))) kp hf sc (cpN (fl s) ad 69) bf d (by omega)) (cwV 1 hts (gV tw849 tw846 tw848 ts31 tw8) rfl rfl rfl (by decide +kernel) ⟨Nat.le_of_ble_eq_true rfl, Nat.le_of_ble_eq_true rfl⟩) (pvR 0 hK hP (by decide) rfl rfl) rfl rfl hl.1 rfl (lv_room (Nat.le_of_ble_eq_true rfl)) dX7_quarrelsIn_40 ⟨Nat.le_of_ble_eq_true rfl, Nat.le_of_ble_eq_true rfl⟩) (fun r20 hr19 => ?_)
            subst hr19
            refine lv_bI (fun c22 => ?_) (fun c22 => ?_)
            · skip
              refine lv_if_eq (tgt := 50) hx hb dX7_quarrelsIn_43 (by decide) (fun h0 => absurd h0 (by decide)) (fun _ => ?_)
              refine lv_iload_n hx hb dX7_quarrelsIn_46 rfl (lv_at hl 4 rfl) ?_
              refine lv_goto (tgt := 51) hx hb dX7_quarrelsIn_47 (by decide) ?_
              refine lv_istore_n (lv' := [(2, .int (nI (k + 1))), (4, .int r17), (0, .ref (b 0)), (1, .int (nI d)), (3, .int (nI (k + 1)))]) hx hb dX7_quarrelsIn_51 rfl hl (by decide) rfl (fun ls hl => ?_)
              refine lv_iinc (v := nI (k + 1 + 1)) (lv' := [(3, .int (nI (k + 1 + 1))), (2, .int (nI (k + 1))), (4, .int r17), (0, .ref (b 0)), (1, .int (nI d))]) hx hb dX7_quarrelsIn_52 hl (k := 4) rfl (nI_add (k + 1) 1) (by decide) rfl (fun ls hl => ?_)
              refine lv_goto (tgt := 20) hx hb dX7_quarrelsIn_55 (by decide) ?_
              exact ih20 (k + 1) (nI (k + 1)) (ptN 7 (up2 t 0 0 (t 0 0 + 10))) (by omega) (by omega) (by rw [ht]; rfl) (fun h9 => absurd h9 (nI_m1 (by omega))) (fun h9 => (hR1 cx).trans (by rw [show 200 - k = (200 - (k + 1)) + 1 by omega]; exact qS_t (by have h8 := c22; rw [ht] at h8; exact h8))) _ _ hP hS ls (lv_sub hl [3, 4, 1, 0] rfl)
            · skip
              refine lv_if_eq (tgt := 50) hx hb dX7_quarrelsIn_43 (by decide) (fun _ => ?_) (fun h0 => absurd (by decide) h0)
              refine lv_iconst (v := (-1)) hx hb dX7_quarrelsIn_50 (by decide) ?_
              refine lv_istore_n (lv' := [(2, .int (-1)), (4, .int r17), (0, .ref (b 0)), (1, .int (nI d)), (3, .int (nI (k + 1)))]) hx hb dX7_quarrelsIn_51 rfl hl (by decide) rfl (fun ls hl => ?_)
              refine lv_iinc (v := nI (k + 1 + 1)) (lv' := [(3, .int (nI (k + 1 + 1))), (2, .int (-1)), (4, .int r17), (0, .ref (b 0)), (1, .int (nI d))]) hx hb dX7_quarrelsIn_52 hl (k := 4) rfl (nI_add (k + 1) 1) (by decide) rfl (fun ls hl => ?_)
              refine lv_goto (tgt := 20) hx hb dX7_quarrelsIn_55 (by decide) ?_
              exact ih20 (k + 1) (-1) (ptN 7 (up2 t 0 0 (t 0 0 + 10))) (by omega) (by omega) (by rw [ht]; rfl) (fun h9 => (hR1 cx).trans (by rw [show 200 - k = (200 - (k + 1)) + 1 by omega]; exact qS_f hd (by have h8 := c22; rw [ht] at h8; exact h8))) (fun h9 => absurd rfl h9) _ _ hP hS ls (lv_sub hl [3, 4, 1, 0] rfl)
    exact loop20 (200 + 1) 0 0 s (by omega) (by omega) rfl (fun h9 => absurd h9 (by decide)) (fun h9 => qS_t (n := 0) c7) _ _ hP hS ls (lv_sub hl [2, 3, 1, 0] rfl)
  · skip
    refine lv_if_eq (tgt := 16) hx hb dX7_quarrelsIn_9 (by decide) (fun _ => ?_) (fun h0 => absurd (by decide) h0)
    refine lv_iconst (v := (-1)) hx hb dX7_quarrelsIn_16 (by decide) ?_
    refine lv_istore_n (lv' := [(2, .int (-1)), (0, .ref (b 0)), (1, .int (nI d))]) hx hb dX7_quarrelsIn_17 rfl hl (by decide) rfl (fun ls hl => ?_)
    refine lv_iconst (v := 1) hx hb dX7_quarrelsIn_18 (by decide) ?_
    refine lv_istore_n (lv' := [(3, .int 1), (2, .int (-1)), (0, .ref (b 0)), (1, .int (nI d))]) hx hb dX7_quarrelsIn_19 rfl hl (by decide) rfl (fun ls hl => ?_)
    have loop20 : ∀ (fu : Nat) (k : Nat) (x : Int32) (t : St), 200 + 1 ≤ k + fu → (k ≤ 200) → (t = ticksS k s) → (x = -1 → qS s d 0 201 = qS s d (k + 1) (200 - k)) → (¬ x = -1 → qS s d 0 201 = x) → ∀ (H : Heap) (locs : List Loc), HP D 6 b (emC cI b (mdl t kp hf sc (cpN (fl s) ad 69) bf)) H → va_S (AX 6 b z.heap.size) z.heap H locs → ∀ ls : Array Slot, lv_has ls 5 [(0, .ref (b 0)), (1, .int (nI d)), (2, .int x), (3, .int (nI (k + 1)))] → W p l e ({ frames := 2, cells := 0, slots := 0, locals := 48 } : Room) z m ([.ref (b 0), .int (nI d)] : List Value).toArray below meth c H locs 0 0 (MQ below (va_Qi (fun (r : Int32) (u : Nat → Int32) => r = qF s d (behN d) 201 0 (s 1 d) (s 1 (behN d))) (BW D 6 b (fun u => emC cI b (mdl s kp hf sc u bf))) (AX 6 b z.heap.size)) ([.ref (b 0), .int (nI d)] : List Value).toArray z 0 0 (AX 6 b z.heap.size)) (F0 m 20 ls []) := by
      intro fu
      induction fu with
      | zero => intro k x t hn hk ht hR1 hR2; exact absurd hn (by omega)
      | succ fu ih20 =>
        intro k x t hn hk ht hR1 hR2 H locs hP hS ls hl
        refine lv_iload_n hx hb dX7_quarrelsIn_20 rfl (lv_at hl 3 rfl) ?_
        refine lv_sipush (v := 200) hx hb dX7_quarrelsIn_21 (by decide) ?_
        refine lv_icmp_gt (tgt := 58) hx hb dX7_quarrelsIn_24 (by decide) (fun c23 => ?_) (fun c23 => ?_)
        · skip
          have c23x := Int32.not_le.mpr c23
          have c23n := (nI_lt2 (p := 200) (q := k + 1) rfl rfl (by omega) (by omega)).mp c23
          have c23n : 200 < k + 1 := c23n
          have hjq : 200 = k := by omega
          subst hjq
          refine lv_aload_n hx hb dX7_quarrelsIn_58 rfl (lv_at hl 0 rfl) ?_
          refine rw_v hS (va_runV (As := []) (rest := []) ⟨hx, hb, hml, hown, hts⟩ (m_X7_putBack l D cI cS b (mdl t kp hf sc (cpN (fl s) ad 69) bf) _) (cwV 0 hts (gV tw1022 tw1019 tw1021 ts52 tw8) rfl rfl rfl (by decide +kernel) ⟨Nat.le_of_ble_eq_true rfl, Nat.le_of_ble_eq_true rfl⟩) (pvW 0 hK hP hE (by decide) rfl rfl) rfl rfl hl.1 rfl (lv_room (Nat.le_of_ble_eq_true rfl)) dX7_quarrelsIn_59 ⟨Nat.le_of_ble_eq_true rfl, Nat.le_of_ble_eq_true rfl⟩) (fun u26 H locs hr24 hP hS => ?_)
          have hP : HP D 6 b (emC cI b (mdl s kp hf sc (cpN (fl s) ad 69) bf)) H := back_cv hP
          refine lv_iload_n hx hb dX7_quarrelsIn_62 rfl (lv_at hl 2 rfl) ?_
          exact rw_ir hx hb hr rfl hlocks hS (cpN (fl s) ad 69) hP (q_fin (y := qS s d 0 201) (fun h9 => (hR1 h9).trans rfl) hR2) dX7_quarrelsIn_63
        · skip
          have c23x := Int32.not_lt.mp c23
          have c23n := fun hq0 => c23 ((nI_lt2 (p := 200) (q := k + 1) rfl rfl (by omega) (by omega)).mpr hq0)
          have c23n : ¬ (200 < k + 1) := c23n
          refine lv_iload_n hx hb dX7_quarrelsIn_27 rfl (lv_at hl 2 rfl) ?_
          refine lv_iconst (v := (-1)) hx hb dX7_quarrelsIn_28 (by decide) ?_
          refine lv_icmp_ne (tgt := 58) hx hb dX7_quarrelsIn_29 (by decide) (fun c27 => ?_) (fun c27 => ?_)
          · skip
            have cx := c27
            refine lv_aload_n hx hb dX7_quarrelsIn_58 rfl (lv_at hl 0 rfl) ?_
            refine rw_v hS (va_runV (As := []) (rest := []) ⟨hx, hb, hml, hown, hts⟩ (m_X7_putBack l D cI cS b (mdl t kp hf sc (cpN (fl s) ad 69) bf) _) (cwV 0 hts (gV tw1022 tw1019 tw1021 ts52 tw8) rfl rfl rfl (by decide +kernel) ⟨Nat.le_of_ble_eq_true rfl, Nat.le_of_ble_eq_true rfl⟩) (pvW 0 hK hP hE (by decide) rfl rfl) rfl rfl hl.1 rfl (lv_room (Nat.le_of_ble_eq_true rfl)) dX7_quarrelsIn_59 ⟨Nat.le_of_ble_eq_true rfl, Nat.le_of_ble_eq_true rfl⟩) (fun u30 H locs hr28 hP hS => ?_)
            have hP : HP D 6 b (emC cI b (mdl s kp hf sc (cpN (fl s) ad 69) bf)) H := back_cv hP
            refine lv_iload_n hx hb dX7_quarrelsIn_62 rfl (lv_at hl 2 rfl) ?_
            exact rw_ir hx hb hr rfl hlocks hS (cpN (fl s) ad 69) hP (hR2 cx).symm dX7_quarrelsIn_63
          · skip
            have cx := c27
            refine lv_aload_n hx hb dX7_quarrelsIn_32 rfl (lv_at hl 0 rfl) ?_
            refine rw_i hS (va_runV (As := []) (rest := []) ⟨hx, hb, hml, hown, hts⟩ (m_X7_tickOnce l D cI cS b t kp hf sc (cpN (fl s) ad 69) bf (T + 10 * (k : Int)) (by rw [ht]; exact hBd.ticks k (by omega)) (by omega) _) (cwV 0 hts (gV tw820 tw817 tw819 ts25 tw8) rfl rfl rfl (by decide +kernel) ⟨Nat.le_of_ble_eq_true rfl, Nat.le_of_ble_eq_true rfl⟩) (pvW 0 hK hP hE (by decide) rfl rfl) rfl rfl hl.1 rfl (lv_room (Nat.le_of_ble_eq_true rfl)) dX7_quarrelsIn_33 ⟨Nat.le_of_ble_eq_true rfl, Nat.le_of_ble_eq_true rfl⟩) (fun r32 u33 H locs hr31 hP hS => ?_)
            refine lv_istore (lv' := [(4, .int r32), (0, .ref (b 0)), (1, .int (nI d)), (2, .int x), (3, .int (nI (k + 1)))]) hx hb dX7_quarrelsIn_36 hl (by decide) rfl (fun ls hl => ?_)
            refine lv_aload_n hx hb dX7_quarrelsIn_38 rfl (lv_at hl 1 rfl) ?_
            refine lv_iload_n hx hb dX7_quarrelsIn_39 rfl (lv_at hl 2 rfl) ?_
            refine ro_i (va_runV (As := [.int (nI d)]) (rest := []) ⟨hx, hb, hml, hown, hts⟩ (m_X7_quarrel l D cI cS b (ptN 7 (up2 t 0 0 (t 0 0 + 10))) kp hf sc (cpN (fl s) ad 69) bf d (by omega)) (cwV 1 hts (gV tw849 tw846 tw848 ts31 tw8) rfl rfl rfl (by decide +kernel) ⟨Nat.le_of_ble_eq_true rfl, Nat.le_of_ble_eq_true rfl⟩) (pvR 0 hK hP (by decide) rfl rfl) rfl rfl hl.1 rfl (lv_room (Nat.le_of_ble_eq_true rfl)) dX7_quarrelsIn_40 ⟨Nat.le_of_ble_eq_true rfl, Nat.le_of_ble_eq_true rfl⟩) (fun r35 hr34 => ?_)
            subst hr34
            refine lv_bI (fun c37 => ?_) (fun c37 => ?_)
            · skip
              refine lv_if_eq (tgt := 50) hx hb dX7_quarrelsIn_43 (by decide) (fun h0 => absurd h0 (by decide)) (fun _ => ?_)
              refine lv_iload_n hx hb dX7_quarrelsIn_46 rfl (lv_at hl 4 rfl) ?_
              refine lv_goto (tgt := 51) hx hb dX7_quarrelsIn_47 (by decide) ?_
              refine lv_istore_n (lv' := [(2, .int (nI (k + 1))), (4, .int r32), (0, .ref (b 0)), (1, .int (nI d)), (3, .int (nI (k + 1)))]) hx hb dX7_quarrelsIn_51 rfl hl (by decide) rfl (fun ls hl => ?_)
              refine lv_iinc (v := nI (k + 1 + 1)) (lv' := [(3, .int (nI (k + 1 + 1))), (2, .int (nI (k + 1))), (4, .int r32), (0, .ref (b 0)), (1, .int (nI d))]) hx hb dX7_quarrelsIn_52 hl (k := 4) rfl (nI_add (k + 1) 1) (by decide) rfl (fun ls hl => ?_)
              refine lv_goto (tgt := 20) hx hb dX7_quarrelsIn_55 (by decide) ?_
              exact ih20 (k + 1) (nI (k + 1)) (ptN 7 (up2 t 0 0 (t 0 0 + 10))) (by omega) (by omega) (by rw [ht]; rfl) (fun h9 => absurd h9 (nI_m1 (by omega))) (fun h9 => (hR1 cx).trans (by rw [show 200 - k = (200 - (k + 1)) + 1 by omega]; exact qS_t (by have h8 := c37; rw [ht] at h8; exact h8))) _ _ hP hS ls (lv_sub hl [3, 4, 1, 0] rfl)
            · skip
              refine lv_if_eq (tgt := 50) hx hb dX7_quarrelsIn_43 (by decide) (fun _ => ?_) (fun h0 => absurd (by decide) h0)
              refine lv_iconst (v := (-1)) hx hb dX7_quarrelsIn_50 (by decide) ?_
              refine lv_istore_n (lv' := [(2, .int (-1)), (4, .int r32), (0, .ref (b 0)), (1, .int (nI d)), (3, .int (nI (k + 1)))]) hx hb dX7_quarrelsIn_51 rfl hl (by decide) rfl (fun ls hl => ?_)
              refine lv_iinc (v := nI (k + 1 + 1)) (lv' := [(3, .int (nI (k + 1 + 1))), (2, .int (-1)), (4, .int r32), (0, .ref (b 0)), (1, .int (nI d))]) hx hb dX7_quarrelsIn_52 hl (k := 4) rfl (nI_add (k + 1) 1) (by decide) rfl (fun ls hl => ?_)
              refine lv_goto (tgt := 20) hx hb dX7_quarrelsIn_55 (by decide) ?_
              exact ih20 (k + 1) (-1) (ptN 7 (up2 t 0 0 (t 0 0 + 10))) (by omega) (by omega) (by rw [ht]; rfl) (fun h9 => (hR1 cx).trans (by rw [show 200 - k = (200 - (k + 1)) + 1 by omega]; exact qS_f hd (by have h8 := c37; rw [ht] at h8; exact h8))) (fun h9 => absurd rfl h9) _ _ hP hS ls (lv_sub hl [3, 4, 1, 0] rfl)
    exact loop20 (200 + 1) 0 (-1) s (by omega) (by omega) rfl (fun h9 => qS_f (n := 0) hd c7) (fun h9 => absurd rfl h9) _ _ hP hS ls (lv_sub hl [2, 3, 1, 0] rfl)

set_option maxHeartbeats 4000000 in
set_option maxRecDepth 100000 in
theorem m_X7_bits (l : Launch) (x : UInt64) (b : Int32) (k : Nat) (hdx : dOk x) (hk : k ≤ 100) (hU : FP.Core.decode FP.Core.b64 (FP.l2d (unitL (nI k))).toNat = .fin false 4503599627370496 ((k : Int) - 52)) : Met l yX7_bits (.code yX7_bits cX7_bits 10 (some .long) :: wsA) ({ frames := 0, cells := 0, slots := 0, locals := 0 } : Room) (va_Pc [.double x, .int b, .int (nI k)] (fun _ => True)) (vp_Sl (fun r => r = bitsX x (nI k) b)) 0 0 (fun _ => False) := by
  refine mgo (by decide) (Nat.le_of_ble_eq_true rfl) ?_
  intro p e z m below meth c hx hb hr hml hown hts hlocks hB ls hl
  have hl : lv_has ls 10 [(0, .double x), (2, .int b), (3, .int (nI k))] := hl
  refine lv_dload_n hx hb dX7_bits_0 rfl (lv_at hl 0 rfl) ?_
  refine lv_dconst0 hx hb dX7_bits_1 ?_
  refine lv_dcmp hx hb dX7_bits_2 ?_
  refine lv_if_ne (tgt := 8) hx hb dX7_bits_3 (by decide) (fun c1 => ?_) (fun c1 => ?_)
  · skip
    obtain ⟨c9, q9, hn9, hq1, hq2⟩ := c_nl hdx c1
    refine lv_dload_n hx hb dX7_bits_8 rfl (lv_at hl 0 rfl) ?_
    refine lv_dstore (lv' := [(4, .double x), (0, .double x), (2, .int b), (3, .int (nI k))]) hx hb dX7_bits_9 hl (by decide) rfl (fun ls hl => ?_)
    refine lv_iload_n hx hb dX7_bits_11 rfl (lv_at hl 2 rfl) ?_
    refine lv_istore (lv' := [(6, .int b), (4, .double x), (0, .double x), (2, .int b), (3, .int (nI k))]) hx hb dX7_bits_12 hl (by decide) rfl (fun ls hl => ?_)
    have loop14 : ∀ (fu : Nat) (i : Nat) (xd : UInt64) (ev : Int32), 1100 + 1 ≤ i + fu → (i ≤ 1100) → (dNrm xd c9 (q9 - (i : Int))) → (ev = Int32.ofInt (i : Int) + b) → (i = 0 ∨ -52 ≤ q9 - (i : Int)) → ∀ ls : Array Slot, lv_has ls 10 [(0, .double x), (2, .int b), (3, .int (nI k)), (4, .double xd), (6, .int ev)] → W p l e ({ frames := 0, cells := 0, slots := 0, locals := 0 } : Room) z m ([.double x, .int b, .int (nI k)] : List Value).toArray below meth c z.heap [] 0 0 (MQ below (vp_Sl (fun r => r = bitsX x (nI k) b)) ([.double x, .int b, .int (nI k)] : List Value).toArray z 0 0 (fun _ => False)) (F0 m 14 ls []) := by
      intro fu
      induction fu with
      | zero => intro i xd ev hn hi hd2 he2 hlo; exact absurd hn (by omega)
      | succ fu ih14 =>
        intro i xd ev hn hi hd2 he2 hlo ls hl
        refine lv_dload hx hb dX7_bits_14 (lv_at hl 3 rfl) ?_
        refine lv_ldc2d hx hb hown (hts _ tw1057) dX7_bits_16 ?_
        refine lv_dcmp hx hb dX7_bits_19 ?_
        refine lv_if_lt (tgt := 37) hx hb dX7_bits_20 (by decide) (fun c2 => ?_) (fun c2 => ?_)
        · skip
          have c2x := Int32.not_le.mpr c2
          have hlt := c_lt2 hd2 c2
          have loop37 : ∀ (fu : Nat) (j : Nat) (yd : UInt64) (ew : Int32), 1100 + 1 ≤ j + fu → (j ≤ 1100) → (dNrm yd c9 (q9 - (i : Int) + (j : Int))) → (ew = Int32.ofInt ((i : Int) - (j : Int)) + b) → (q9 - (i : Int) + (j : Int) ≤ -52) → ∀ ls : Array Slot, lv_has ls 10 [(0, .double x), (2, .int b), (3, .int (nI k)), (4, .double yd), (6, .int ew)] → W p l e ({ frames := 0, cells := 0, slots := 0, locals := 0 } : Room) z m ([.double x, .int b, .int (nI k)] : List Value).toArray below meth c z.heap [] 0 0 (MQ below (vp_Sl (fun r => r = bitsX x (nI k) b)) ([.double x, .int b, .int (nI k)] : List Value).toArray z 0 0 (fun _ => False)) (F0 m 37 ls []) := by
            intro fu
            induction fu with
            | zero => intro j yd ew hn hj hd3 he3 hup; exact absurd hn (by omega)
            | succ fu ih37 =>
              intro j yd ew hn hj hd3 he3 hup ls hl
              refine lv_dload hx hb dX7_bits_37 (lv_at hl 3 rfl) ?_
              refine lv_dconst1 hx hb dX7_bits_39 ?_
              refine lv_dcmp hx hb dX7_bits_40 ?_
              refine lv_if_ge (tgt := 58) hx hb dX7_bits_41 (by decide) (fun c3 => ?_) (fun c3 => ?_)
              · skip
                have c3x := Int32.not_lt.mpr c3
                have hge1 := c_ge1 hd3 c3
                have hfi : q9 - (i : Int) + (j : Int) = -52 := by omega
                rw [hfi] at hd3
                refine lv_dload hx hb dX7_bits_58 (lv_at hl 3 rfl) ?_
                refine lv_dconst1 hx hb dX7_bits_60 ?_
                refine lv_dsub hx hb dX7_bits_61 (sub_vf hd3) ?_
                refine lv_dstore (lv' := [(7, .double (FP.dsub yd FP.dconst1)), (0, .double x), (2, .int b), (3, .int (nI k)), (4, .double yd), (6, .int ew)]) hx hb dX7_bits_62 hl (by decide) rfl (fun ls hl => ?_)
                refine lv_iconst (v := 0) hx hb dX7_bits_64 (by decide) ?_
                refine lv_istore (lv' := [(9, .int 0), (7, .double (FP.dsub yd FP.dconst1)), (0, .double x), (2, .int b), (3, .int (nI k)), (4, .double yd), (6, .int ew)]) hx hb dX7_bits_65 hl (by decide) rfl (fun ls hl => ?_)
                have loop67 : ∀ (fu : Nat) (n : Nat) (zd : UInt64), k + 1 ≤ n + fu → (n ≤ k) → (dblP (FP.dsub (mk64 c9) FP.dconst1) zd n) → ∀ ls : Array Slot, lv_has ls 10 [(0, .double x), (2, .int b), (3, .int (nI k)), (4, .double yd), (6, .int ew), (7, .double zd), (9, .int (nI n))] → W p l e ({ frames := 0, cells := 0, slots := 0, locals := 0 } : Room) z m ([.double x, .int b, .int (nI k)] : List Value).toArray below meth c z.heap [] 0 0 (MQ below (vp_Sl (fun r => r = bitsX x (nI k) b)) ([.double x, .int b, .int (nI k)] : List Value).toArray z 0 0 (fun _ => False)) (F0 m 67 ls []) := by
                  intro fu
                  induction fu with
                  | zero => intro n zd hn hn hz; exact absurd hn (by omega)
                  | succ fu ih67 =>
                    intro n zd hn hn hz ls hl
                    refine lv_iload hx hb dX7_bits_67 (lv_at hl 6 rfl) ?_
                    refine lv_iload_n hx hb dX7_bits_69 rfl (lv_at hl 2 rfl) ?_
                    refine lv_icmp_ge (tgt := 87) hx hb dX7_bits_70 (by decide) (fun c4 => ?_) (fun c4 => ?_)
                    · skip
                      have c4x := Int32.not_lt.mpr c4
                      have c4n := (nI_le2 (p := k) (q := n) rfl rfl (by omega) (by omega)).mp c4
                      have c4n : k ≤ n := c4n
                      have hjq : k = n := by omega
                      subst hjq
                      refine lv_iload hx hb dX7_bits_87 (lv_at hl 4 rfl) ?_
                      refine lv_i2l hx hb dX7_bits_89 rfl ?_
                      refine lv_iload_n hx hb dX7_bits_90 rfl (lv_at hl 2 rfl) ?_
                      refine lv_lshl hx hb dX7_bits_91 rfl ?_
                      refine lv_dload hx hb dX7_bits_92 (lv_at hl 5 rfl) ?_
                      refine lv_d2l hx hb dX7_bits_94 ?_
                      refine lv_ladd hx hb dX7_bits_95 ?_
                      exact ro_lr hx hb hr hlocks (by rw [he3]; exact bits_fin hn9 hfi hz hk hU) dX7_bits_96
                    · skip
                      have c4x := Int32.not_le.mp c4
                      have c4n := fun hq0 => c4 ((nI_le2 (p := k) (q := n) rfl rfl (by omega) (by omega)).mpr hq0)
                      have c4n : ¬ (k ≤ n) := c4n
                      refine lv_dload hx hb dX7_bits_73 (lv_at hl 5 rfl) ?_
                      refine lv_ldc2d hx hb hown (hts _ tw1057) dX7_bits_75 ?_
                      refine lv_dmul hx hb dX7_bits_78 (dbl_vf (dbl_s hz (by omega))) ?_
                      refine lv_dstore (lv' := [(7, .double (FP.dmul zd (4611686018427387904 : UInt64))), (0, .double x), (2, .int b), (3, .int (nI k)), (4, .double yd), (6, .int ew), (9, .int (nI n))]) hx hb dX7_bits_79 hl (by decide) rfl (fun ls hl => ?_)
                      refine lv_iinc (v := nI (n + 1)) (lv' := [(9, .int (nI (n + 1))), (7, .double (FP.dmul zd (4611686018427387904 : UInt64))), (0, .double x), (2, .int b), (3, .int (nI k)), (4, .double yd), (6, .int ew)]) hx hb dX7_bits_81 hl (k := 6) rfl (nI_add n 1) (by decide) rfl (fun ls hl => ?_)
                      refine lv_goto (tgt := 67) hx hb dX7_bits_84 (by decide) ?_
                      exact ih67 (n + 1) (FP.dmul zd (4611686018427387904 : UInt64)) (by omega) (by omega) (dbl_s hz (by omega)) ls (lv_sub hl [2, 3, 4, 5, 6, 1, 0] rfl)
                exact loop67 (k + 1) 0 (FP.dsub yd FP.dconst1) (by omega) (by omega) (by rw [show mk64 c9 = yd from hd3.1.symm]; exact dbl_0 hd3) ls (lv_sub hl [2, 3, 4, 5, 6, 1, 0] rfl)
              · skip
                have c3x := Int32.not_le.mp c3
                have hlt1 := c_lt1 hd3 c3
                refine lv_dload hx hb dX7_bits_44 (lv_at hl 3 rfl) ?_
                refine lv_ldc2d hx hb hown (hts _ tw1057) dX7_bits_46 ?_
                refine lv_dmul hx hb dX7_bits_49 (d_mul2 hd3 (by omega)).vf ?_
                refine lv_dstore (lv' := [(4, .double (FP.dmul yd (4611686018427387904 : UInt64))), (0, .double x), (2, .int b), (3, .int (nI k)), (6, .int ew)]) hx hb dX7_bits_50 hl (by decide) rfl (fun ls hl => ?_)
                refine lv_iinc (v := ew + (-1)) (lv' := [(6, .int (ew + (-1))), (4, .double (FP.dmul yd (4611686018427387904 : UInt64))), (0, .double x), (2, .int b), (3, .int (nI k))]) hx hb dX7_bits_52 hl (k := 4) rfl rfl (by decide) rfl (fun ls hl => ?_)
                refine lv_goto (tgt := 37) hx hb dX7_bits_55 (by decide) ?_
                exact ih37 (j + 1) (FP.dmul yd (4611686018427387904 : UInt64)) (ew + (-1)) (by omega) (by omega) (by have h9 := d_mul2 hd3 (by omega); rw [show q9 - (i : Int) + (j : Int) + 1 = q9 - (i : Int) + ((j + 1 : Nat) : Int) by omega] at h9; exact h9) (by rw [he3]; exact oi_p1) (by omega) ls (lv_sub hl [2, 3, 4, 1, 0] rfl)
          exact loop37 (1100 + 1) 0 xd ev (by omega) (by omega) (by simpa using hd2) (by rw [he2]; simp) (by omega) ls (lv_sub hl [0, 1, 2, 3, 4] rfl)
        · skip
          have c2x := Int32.not_lt.mp c2
          have hge := c_ge2 hd2 c2
          refine lv_dload hx hb dX7_bits_23 (lv_at hl 3 rfl) ?_
          refine lv_ldc2d hx hb hown (hts _ tw1057) dX7_bits_25 ?_
          refine lv_ddiv hx hb dX7_bits_28 (d_half hd2 (by omega)).vf ?_
          refine lv_dstore (lv' := [(4, .double (FP.ddiv xd (4611686018427387904 : UInt64))), (0, .double x), (2, .int b), (3, .int (nI k)), (6, .int ev)]) hx hb dX7_bits_29 hl (by decide) rfl (fun ls hl => ?_)
          refine lv_iinc (v := ev + 1) (lv' := [(6, .int (ev + 1)), (4, .double (FP.ddiv xd (4611686018427387904 : UInt64))), (0, .double x), (2, .int b), (3, .int (nI k))]) hx hb dX7_bits_31 hl (k := 4) rfl rfl (by decide) rfl (fun ls hl => ?_)
          refine lv_goto (tgt := 14) hx hb dX7_bits_34 (by decide) ?_
          exact ih14 (i + 1) (FP.ddiv xd (4611686018427387904 : UInt64)) (ev + 1) (by omega) (by omega) (by have h9 := d_half hd2 (by omega); rw [show q9 - (i : Int) - 1 = q9 - ((i + 1 : Nat) : Int) by omega] at h9; exact h9) (by rw [he2]; exact oi_s1) (Or.inr (by omega)) ls (lv_sub hl [2, 3, 4, 1, 0] rfl)
    exact loop14 (1100 + 1) 0 x b (by omega) (by omega) (by simpa using hn9) (by rw [show Int32.ofInt ((0 : Nat) : Int) = 0 from rfl, Int32.zero_add]) (Or.inl rfl) ls (lv_sub hl [2, 3, 4, 1, 0] rfl)
  · skip
    have hz0 := c_zl hdx c1
    refine lv_lconst (v := 0) hx hb dX7_bits_6 (by decide) ?_
    exact ro_lr hx hb hr hlocks (by rw [hz0, bitsX_0]) dX7_bits_7
