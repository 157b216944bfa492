set_option maxHeartbeats 4000000 in
set_option maxRecDepth 100000 in
theorem m_X7_dial (l : Launch) (D : va_G) (cI cS : ClassId) (b : Nat → Nat) (s kp : St) (hf : Nat → St) (sc ad bf : Nat → Int32) (T : Int) (hBd : Bd T s) (hT : T ≤ 100000000) (d : Nat) (hd : d < 7) (ix : Nat) (hi9 : ix < 7) (zz : Nat) : Met l yX7_dial (.code yX7_dial cX7_dial 3 (some .int) :: wsA) ({ frames := 2, cells := 0, slots := 0, locals := 46 } : Room) (va_Pc [.ref (b 0), .int (nI d), .int (nI ix)] (PW D cI cS 6 b (emC cI b (mdl s kp hf sc ad bf)) zz)) (va_Qi (fun (r : Int32) (u : Unit) => r = dialN s d ix) (BW D 6 b (fun u => emC cI b (mdl s kp hf (upd sc 3 0) ad bf))) (AX 6 b zz)) 0 0 (AX 6 b zz) := by
  refine mgo (by decide) (Nat.le_of_ble_eq_true rfl) ?_
  intro p e z m below meth c hx hb hr hml hown hts hlocks hB ls hl
  obtain ⟨hsz, hP, hK, hE⟩ := hB
  subst hsz
  have hS : va_S (AX 6 b z.heap.size) z.heap z.heap [] := va_S.rf
  have hl : lv_has ls 3 [(0, .ref (b 0)), (1, .int (nI d)), (2, .int (nI ix))] := hl
  have hin : witB (nI d) 0 6 := wit_n (lo := 0) (hi := 6) (by omega) (by omega) (by decide)
  have hin2 : witB (nI ix) 0 6 := wit_n (lo := 0) (hi := 6) (by omega) (by omega) (by decide)
  refine lv_aload_n hx hb dX7_dial_0 rfl (lv_at hl 0 rfl) ?_
  refine lv_iconst (v := 0) hx hb dX7_dial_1 (by decide) ?_
  refine g_put hx hb hts hown inA7 tyX7 tyX7_ok nmX7 hK hP hE hS 0 (by decide) rfl rfl 8 (by decide) tw768 rfl rfl (ty := .int) (by decide +kernel) rfl rfl (Nat.le_of_ble_eq_true rfl) dX7_dial_2 (ex' := emC cI b (mdl s kp hf (upd sc 3 0) ad bf)) rfl mm_sc (fun H locs hP hS => ?_)
  refine lv_iload_n hx hb dX7_dial_5 rfl (lv_at hl 1 rfl) ?_
  refine ro_i (va_runS (As := [.int (nI d)]) (rest := []) ⟨hx, hb, hml, hown, hts⟩ (m_X7_isDial l (nI d)) (va_cwS 1 hts (gS tw882 tw880 tw881 tw8) rfl rfl rfl (by decide +kernel) ⟨Nat.le_of_ble_eq_true rfl, Nat.le_of_ble_eq_true rfl⟩) ps0 rfl rfl hl.1 rfl (lv_room (Nat.le_of_ble_eq_true rfl)) dX7_dial_6 ⟨Nat.le_of_ble_eq_true rfl, Nat.le_of_ble_eq_true rfl⟩) (fun r2 hr1 => ?_)
  subst hr1
  refine lv_bI (fun c4 => ?_) (fun c4 => ?_)
  · skip
    refine lv_if_ne (tgt := 20) hx hb dX7_dial_9 (by decide) (fun _ => ?_) (fun h0 => absurd h0 (by decide))
    refine lv_iload_n hx hb dX7_dial_20 rfl (lv_at hl 2 rfl) ?_
    refine lv_iconst (v := 0) hx hb dX7_dial_21 (by decide) ?_
    refine lv_bipush (v := 6) hx hb dX7_dial_22 (by decide) ?_
    refine ro_i (va_runS (As := [.int (nI ix), .int 0, .int 6]) (rest := []) ⟨hx, hb, hml, hown, hts⟩ (m_X7_in l (nI ix) 0 6) (va_cwS 3 hts (gS tw804 tw802 tw803 tw8) rfl rfl rfl (by decide +kernel) ⟨Nat.le_of_ble_eq_true rfl, Nat.le_of_ble_eq_true rfl⟩) ps0 rfl rfl hl.1 rfl (lv_room (Nat.le_of_ble_eq_true rfl)) dX7_dial_24 ⟨Nat.le_of_ble_eq_true rfl, Nat.le_of_ble_eq_true rfl⟩) (fun r6 hr5 => ?_)
    subst hr5
    refine lv_bI (fun c8 => ?_) (fun c8 => ?_)
    · skip
      refine lv_if_eq (tgt := 39) hx hb dX7_dial_27 (by decide) (fun h0 => absurd h0 (by decide)) (fun _ => ?_)
      refine lv_aload_n hx hb dX7_dial_30 rfl (lv_at hl 0 rfl) ?_
      refine lv_iload_n hx hb dX7_dial_31 rfl (lv_at hl 1 rfl) ?_
      refine lv_iload_n hx hb dX7_dial_32 rfl (lv_at hl 2 rfl) ?_
      refine ro_i (va_runV (As := [.int (nI d), .int (nI ix)]) (rest := []) ⟨hx, hb, hml, hown, hts⟩ (m_X7_ofDial l D cI cS b s kp hf (upd sc 3 0) ad bf T hBd (by omega) d ix (by omega) (by omega)) (cwV 2 hts (gV tw946 tw943 tw945 ts40 tw8) rfl rfl rfl (by decide +kernel) ⟨Nat.le_of_ble_eq_true rfl, Nat.le_of_ble_eq_true rfl⟩) (pvR 0 hK hP (by decide) rfl rfl) rfl rfl hl.1 rfl (lv_room (Nat.le_of_ble_eq_true rfl)) dX7_dial_33 ⟨Nat.le_of_ble_eq_true rfl, Nat.le_of_ble_eq_true rfl⟩) (fun r10 hr9 => ?_)
      subst hr9
      refine lv_goto (tgt := 44) hx hb dX7_dial_36 (by decide) ?_
      exact rw_ir hx hb hr rfl hlocks hS () hP rfl dX7_dial_44
    · skip
      exact absurd hin2 c8
  · skip
    exact absurd hin c4

set_option maxHeartbeats 4000000 in
set_option maxRecDepth 100000 in
theorem mx_X7_dial (l : Launch) (D : va_G) (cI cS : ClassId) (b : Nat → Nat) (s kp : St) (hf : Nat → St) (sc ad bf : Nat → Int32) (x y : Int32) (hx9 : ¬ witB x 0 6) (zz : Nat) : Met l yX7_dial (.code yX7_dial cX7_dial 3 (some .int) :: wsA) ({ frames := 2, cells := 0, slots := 0, locals := 42 } : Room) (va_Pc [.ref (b 0), .int x, .int y] (PW D cI cS 6 b (emC cI b (mdl s kp hf sc ad bf)) zz)) (va_Qi (fun (r : Int32) (u : Unit) => r = 0) (BW D 6 b (fun u => emC cI b (mdl s kp hf (upd (upd sc 3 0) 3 1) ad bf))) (AX 6 b zz)) 0 0 (AX 6 b zz) := by
  refine mgo (by decide) (Nat.le_of_ble_eq_true rfl) ?_
  intro p e z m below meth c hx hb hr hml hown hts hlocks hB ls hl
  obtain ⟨hsz, hP, hK, hE⟩ := hB
  subst hsz
  have hS : va_S (AX 6 b z.heap.size) z.heap z.heap [] := va_S.rf
  have hl : lv_has ls 3 [(0, .ref (b 0)), (1, .int x), (2, .int y)] := hl
  refine lv_aload_n hx hb dX7_dial_0 rfl (lv_at hl 0 rfl) ?_
  refine lv_iconst (v := 0) hx hb dX7_dial_1 (by decide) ?_
  refine g_put hx hb hts hown inA7 tyX7 tyX7_ok nmX7 hK hP hE hS 0 (by decide) rfl rfl 8 (by decide) tw768 rfl rfl (ty := .int) (by decide +kernel) rfl rfl (Nat.le_of_ble_eq_true rfl) dX7_dial_2 (ex' := emC cI b (mdl s kp hf (upd sc 3 0) ad bf)) rfl mm_sc (fun H locs hP hS => ?_)
  refine lv_iload_n hx hb dX7_dial_5 rfl (lv_at hl 1 rfl) ?_
  refine ro_i (va_runS (As := [.int x]) (rest := []) ⟨hx, hb, hml, hown, hts⟩ (m_X7_isDial l x) (va_cwS 1 hts (gS tw882 tw880 tw881 tw8) rfl rfl rfl (by decide +kernel) ⟨Nat.le_of_ble_eq_true rfl, Nat.le_of_ble_eq_true rfl⟩) ps0 rfl rfl hl.1 rfl (lv_room (Nat.le_of_ble_eq_true rfl)) dX7_dial_6 ⟨Nat.le_of_ble_eq_true rfl, Nat.le_of_ble_eq_true rfl⟩) (fun r2 hr1 => ?_)
  subst hr1
  refine lv_bI (fun c4 => ?_) (fun c4 => ?_)
  · skip
    exact absurd c4 hx9
  · skip
    refine lv_if_ne (tgt := 20) hx hb dX7_dial_9 (by decide) (fun h0 => absurd (by decide) h0) (fun _ => ?_)
    refine lv_aload_n hx hb dX7_dial_12 rfl (lv_at hl 0 rfl) ?_
    refine lv_iconst (v := 1) hx hb dX7_dial_13 (by decide) ?_
    refine rw_i hS (va_runV (As := [.int 1]) (rest := []) ⟨hx, hb, hml, hown, hts⟩ (m_X7_throwing l D cI cS b s kp hf (upd sc 3 0) ad bf 1 _) (cwV 1 hts (gV tw808 tw805 tw807 ts22 tw8) rfl rfl rfl (by decide +kernel) ⟨Nat.le_of_ble_eq_true rfl, Nat.le_of_ble_eq_true rfl⟩) (pvW 0 hK hP hE (by decide) rfl rfl) rfl rfl hl.1 rfl (lv_room (Nat.le_of_ble_eq_true rfl)) dX7_dial_14 ⟨Nat.le_of_ble_eq_true rfl, Nat.le_of_ble_eq_true rfl⟩) (fun r6 u7 H locs hr5 hP hS => ?_)
    subst hr5
    refine lv_goto (tgt := 44) hx hb dX7_dial_17 (by decide) ?_
    exact rw_ir hx hb hr rfl hlocks hS () hP rfl dX7_dial_44

set_option maxHeartbeats 4000000 in
set_option maxRecDepth 100000 in
theorem mx2_X7_dial (l : Launch) (D : va_G) (cI cS : ClassId) (b : Nat → Nat) (s kp : St) (hf : Nat → St) (sc ad bf : Nat → Int32) (x y : Int32) (hx9 : witB x 0 6) (hy9 : ¬ witB y 0 6) (zz : Nat) : Met l yX7_dial (.code yX7_dial cX7_dial 3 (some .int) :: wsA) ({ frames := 2, cells := 0, slots := 0, locals := 42 } : Room) (va_Pc [.ref (b 0), .int x, .int y] (PW D cI cS 6 b (emC cI b (mdl s kp hf sc ad bf)) zz)) (va_Qi (fun (r : Int32) (u : Unit) => r = 0) (BW D 6 b (fun u => emC cI b (mdl s kp hf (upd (upd sc 3 0) 3 2) ad bf))) (AX 6 b zz)) 0 0 (AX 6 b zz) := by
  refine mgo (by decide) (Nat.le_of_ble_eq_true rfl) ?_
  intro p e z m below meth c hx hb hr hml hown hts hlocks hB ls hl
  obtain ⟨hsz, hP, hK, hE⟩ := hB
  subst hsz
  have hS : va_S (AX 6 b z.heap.size) z.heap z.heap [] := va_S.rf
  have hl : lv_has ls 3 [(0, .ref (b 0)), (1, .int x), (2, .int y)] := hl
  refine lv_aload_n hx hb dX7_dial_0 rfl (lv_at hl 0 rfl) ?_
  refine lv_iconst (v := 0) hx hb dX7_dial_1 (by decide) ?_
  refine g_put hx hb hts hown inA7 tyX7 tyX7_ok nmX7 hK hP hE hS 0 (by decide) rfl rfl 8 (by decide) tw768 rfl rfl (ty := .int) (by decide +kernel) rfl rfl (Nat.le_of_ble_eq_true rfl) dX7_dial_2 (ex' := emC cI b (mdl s kp hf (upd sc 3 0) ad bf)) rfl mm_sc (fun H locs hP hS => ?_)
  refine lv_iload_n hx hb dX7_dial_5 rfl (lv_at hl 1 rfl) ?_
  refine ro_i (va_runS (As := [.int x]) (rest := []) ⟨hx, hb, hml, hown, hts⟩ (m_X7_isDial l x) (va_cwS 1 hts (gS tw882 tw880 tw881 tw8) rfl rfl rfl (by decide +kernel) ⟨Nat.le_of_ble_eq_true rfl, Nat.le_of_ble_eq_true rfl⟩) ps0 rfl rfl hl.1 rfl (lv_room (Nat.le_of_ble_eq_true rfl)) dX7_dial_6 ⟨Nat.le_of_ble_eq_true rfl, Nat.le_of_ble_eq_true rfl⟩) (fun r2 hr1 => ?_)
  subst hr1
  refine lv_bI (fun c4 => ?_) (fun c4 => ?_)
  · skip
    refine lv_if_ne (tgt := 20) hx hb dX7_dial_9 (by decide) (fun _ => ?_) (fun h0 => absurd h0 (by decide))
    refine lv_iload_n hx hb dX7_dial_20 rfl (lv_at hl 2 rfl) ?_
    refine lv_iconst (v := 0) hx hb dX7_dial_21 (by decide) ?_
    refine lv_bipush (v := 6) hx hb dX7_dial_22 (by decide) ?_
    refine ro_i (va_runS (As := [.int y, .int 0, .int 6]) (rest := []) ⟨hx, hb, hml, hown, hts⟩ (m_X7_in l y 0 6) (va_cwS 3 hts (gS tw804 tw802 tw803 tw8) rfl rfl rfl (by decide +kernel) ⟨Nat.le_of_ble_eq_true rfl, Nat.le_of_ble_eq_true rfl⟩) ps0 rfl rfl hl.1 rfl (lv_room (Nat.le_of_ble_eq_true rfl)) dX7_dial_24 ⟨Nat.le_of_ble_eq_true rfl, Nat.le_of_ble_eq_true rfl⟩) (fun r6 hr5 => ?_)
    subst hr5
    refine lv_bI (fun c8 => ?_) (fun c8 => ?_)
    · skip
      exact absurd c8 hy9
    · skip
      refine lv_if_eq (tgt := 39) hx hb dX7_dial_27 (by decide) (fun _ => ?_) (fun h0 => absurd (by decide) h0)
      refine lv_aload_n hx hb dX7_dial_39 rfl (lv_at hl 0 rfl) ?_
      refine lv_iconst (v := 2) hx hb dX7_dial_40 (by decide) ?_
      refine rw_i hS (va_runV (As := [.int 2]) (rest := []) ⟨hx, hb, hml, hown, hts⟩ (m_X7_throwing l D cI cS b s kp hf (upd sc 3 0) ad bf 2 _) (cwV 1 hts (gV tw808 tw805 tw807 ts22 tw8) rfl rfl rfl (by decide +kernel) ⟨Nat.le_of_ble_eq_true rfl, Nat.le_of_ble_eq_true rfl⟩) (pvW 0 hK hP hE (by decide) rfl rfl) rfl rfl hl.1 rfl (lv_room (Nat.le_of_ble_eq_true rfl)) dX7_dial_41 ⟨Nat.le_of_ble_eq_true rfl, Nat.le_of_ble_eq_true rfl⟩) (fun r10 u11 H locs hr9 hP hS => ?_)
      subst hr9
      exact rw_ir hx hb hr rfl hlocks hS () hP rfl dX7_dial_44
  · skip
    exact absurd hx9 c4

set_option maxHeartbeats 4000000 in
set_option maxRecDepth 100000 in
theorem m_X7_says (l : Launch) (D : va_G) (cI cS : ClassId) (b : Nat → Nat) (s kp : St) (hf : Nat → St) (sc ad bf : Nat → Int32) (T : Int) (hBd : Bd T s) (hT : T ≤ 100000000) (d : Nat) (hd : d < 7) (ix : Nat) (hi9 : ix < 6) (zz : Nat) : Met l yX7_says (.code yX7_says cX7_says 3 (some .int) :: wsA) ({ frames := 3, cells := 0, slots := 0, locals := 67 } : Room) (va_Pc [.ref (b 0), .int (nI d), .int (nI ix)] (PW D cI cS 6 b (emC cI b (mdl s kp hf sc ad bf)) zz)) (va_Qi (fun (r : Int32) (u : Unit) => r = wardN s d ix) (BW D 6 b (fun u => emC cI b (mdl s kp hf (upd sc 3 0) ad bf))) (AX 6 b zz)) 0 0 (AX 6 b zz) := by
  refine mgo (by decide) (Nat.le_of_ble_eq_true rfl) ?_
  intro p e z m below meth c hx hb hr hml hown hts hlocks hB ls hl
  obtain ⟨hsz, hP, hK, hE⟩ := hB
  subst hsz
  have hS : va_S (AX 6 b z.heap.size) z.heap z.heap [] := va_S.rf
  have hl : lv_has ls 3 [(0, .ref (b 0)), (1, .int (nI d)), (2, .int (nI ix))] := hl
  have hin : witB (nI d) 0 6 := wit_n (lo := 0) (hi := 6) (by omega) (by omega) (by decide)
  have hin2 : witB (nI ix) 0 5 := wit_n (lo := 0) (hi := 5) (by omega) (by omega) (by decide)
  refine lv_aload_n hx hb dX7_says_0 rfl (lv_at hl 0 rfl) ?_
  refine lv_iconst (v := 0) hx hb dX7_says_1 (by decide) ?_
  refine g_put hx hb hts hown inA7 tyX7 tyX7_ok nmX7 hK hP hE hS 0 (by decide) rfl rfl 8 (by decide) tw768 rfl rfl (ty := .int) (by decide +kernel) rfl rfl (Nat.le_of_ble_eq_true rfl) dX7_says_2 (ex' := emC cI b (mdl s kp hf (upd sc 3 0) ad bf)) rfl mm_sc (fun H locs hP hS => ?_)
  refine lv_iload_n hx hb dX7_says_5 rfl (lv_at hl 1 rfl) ?_
  refine ro_i (va_runS (As := [.int (nI d)]) (rest := []) ⟨hx, hb, hml, hown, hts⟩ (m_X7_isDial l (nI d)) (va_cwS 1 hts (gS tw882 tw880 tw881 tw8) rfl rfl rfl (by decide +kernel) ⟨Nat.le_of_ble_eq_true rfl, Nat.le_of_ble_eq_true rfl⟩) ps0 rfl rfl hl.1 rfl (lv_room (Nat.le_of_ble_eq_true rfl)) dX7_says_6 ⟨Nat.le_of_ble_eq_true rfl, Nat.le_of_ble_eq_true rfl⟩) (fun r2 hr1 => ?_)
  subst hr1
  refine lv_bI (fun c4 => ?_) (fun c4 => ?_)
  · skip
    refine lv_if_ne (tgt := 20) hx hb dX7_says_9 (by decide) (fun _ => ?_) (fun h0 => absurd h0 (by decide))
    refine lv_iload_n hx hb dX7_says_20 rfl (lv_at hl 2 rfl) ?_
    refine lv_iconst (v := 0) hx hb dX7_says_21 (by decide) ?_
    refine lv_iconst (v := 5) hx hb dX7_says_22 (by decide) ?_
    refine ro_i (va_runS (As := [.int (nI ix), .int 0, .int 5]) (rest := []) ⟨hx, hb, hml, hown, hts⟩ (m_X7_in l (nI ix) 0 5) (va_cwS 3 hts (gS tw804 tw802 tw803 tw8) rfl rfl rfl (by decide +kernel) ⟨Nat.le_of_ble_eq_true rfl, Nat.le_of_ble_eq_true rfl⟩) ps0 rfl rfl hl.1 rfl (lv_room (Nat.le_of_ble_eq_true rfl)) dX7_says_23 ⟨Nat.le_of_ble_eq_true rfl, Nat.le_of_ble_eq_true rfl⟩) (fun r6 hr5 => ?_)
    subst hr5
    refine lv_bI (fun c8 => ?_) (fun c8 => ?_)
    · skip
      refine lv_if_eq (tgt := 38) hx hb dX7_says_26 (by decide) (fun h0 => absurd h0 (by decide)) (fun _ => ?_)
      refine lv_aload_n hx hb dX7_says_29 rfl (lv_at hl 0 rfl) ?_
      refine lv_iload_n hx hb dX7_says_30 rfl (lv_at hl 1 rfl) ?_
      refine lv_iload_n hx hb dX7_says_31 rfl (lv_at hl 2 rfl) ?_
      refine ro_i (va_runV (As := [.int (nI d), .int (nI ix)]) (rest := []) ⟨hx, hb, hml, hown, hts⟩ (m_X7_ofWarden l D cI cS b s kp hf (upd sc 3 0) ad bf d ix (by omega) (by omega)) (cwV 2 hts (gV tw954 tw951 tw953 ts41 tw8) rfl rfl rfl (by decide +kernel) ⟨Nat.le_of_ble_eq_true rfl, Nat.le_of_ble_eq_true rfl⟩) (pvR 0 hK hP (by decide) rfl rfl) rfl rfl hl.1 rfl (lv_room (Nat.le_of_ble_eq_true rfl)) dX7_says_32 ⟨Nat.le_of_ble_eq_true rfl, Nat.le_of_ble_eq_true rfl⟩) (fun r10 hr9 => ?_)
      subst hr9
      refine lv_goto (tgt := 43) hx hb dX7_says_35 (by decide) ?_
      exact rw_ir hx hb hr rfl hlocks hS () hP rfl dX7_says_43
    · skip
      exact absurd hin2 c8
  · skip
    exact absurd hin c4

set_option maxHeartbeats 4000000 in
set_option maxRecDepth 100000 in
theorem mx_X7_says (l : Launch) (D : va_G) (cI cS : ClassId) (b : Nat → Nat) (s kp : St) (hf : Nat → St) (sc ad bf : Nat → Int32) (x y : Int32) (hx9 : ¬ witB x 0 6) (zz : Nat) : Met l yX7_says (.code yX7_says cX7_says 3 (some .int) :: wsA) ({ frames := 2, cells := 0, slots := 0, locals := 42 } : Room) (va_Pc [.ref (b 0), .int x, .int y] (PW D cI cS 6 b (emC cI b (mdl s kp hf sc ad bf)) zz)) (va_Qi (fun (r : Int32) (u : Unit) => r = 0) (BW D 6 b (fun u => emC cI b (mdl s kp hf (upd (upd sc 3 0) 3 1) ad bf))) (AX 6 b zz)) 0 0 (AX 6 b zz) := by
  refine mgo (by decide) (Nat.le_of_ble_eq_true rfl) ?_
  intro p e z m below meth c hx hb hr hml hown hts hlocks hB ls hl
  obtain ⟨hsz, hP, hK, hE⟩ := hB
  subst hsz
  have hS : va_S (AX 6 b z.heap.size) z.heap z.heap [] := va_S.rf
  have hl : lv_has ls 3 [(0, .ref (b 0)), (1, .int x), (2, .int y)] := hl
  refine lv_aload_n hx hb dX7_says_0 rfl (lv_at hl 0 rfl) ?_
  refine lv_iconst (v := 0) hx hb dX7_says_1 (by decide) ?_
  refine g_put hx hb hts hown inA7 tyX7 tyX7_ok nmX7 hK hP hE hS 0 (by decide) rfl rfl 8 (by decide) tw768 rfl rfl (ty := .int) (by decide +kernel) rfl rfl (Nat.le_of_ble_eq_true rfl) dX7_says_2 (ex' := emC cI b (mdl s kp hf (upd sc 3 0) ad bf)) rfl mm_sc (fun H locs hP hS => ?_)
  refine lv_iload_n hx hb dX7_says_5 rfl (lv_at hl 1 rfl) ?_
  refine ro_i (va_runS (As := [.int x]) (rest := []) ⟨hx, hb, hml, hown, hts⟩ (m_X7_isDial l x) (va_cwS 1 hts (gS tw882 tw880 tw881 tw8) rfl rfl rfl (by decide +kernel) ⟨Nat.le_of_ble_eq_true rfl, Nat.le_of_ble_eq_true rfl⟩) ps0 rfl rfl hl.1 rfl (lv_room (Nat.le_of_ble_eq_true rfl)) dX7_says_6 ⟨Nat.le_of_ble_eq_true rfl, Nat.le_of_ble_eq_true rfl⟩) (fun r2 hr1 => ?_)
  subst hr1
  refine lv_bI (fun c4 => ?_) (fun c4 => ?_)
  · skip
    exact absurd c4 hx9
  · skip
    refine lv_if_ne (tgt := 20) hx hb dX7_says_9 (by decide) (fun h0 => absurd (by decide) h0) (fun _ => ?_)
    refine lv_aload_n hx hb dX7_says_12 rfl (lv_at hl 0 rfl) ?_
    refine lv_iconst (v := 1) hx hb dX7_says_13 (by decide) ?_
    refine rw_i hS (va_runV (As := [.int 1]) (rest := []) ⟨hx, hb, hml, hown, hts⟩ (m_X7_throwing l D cI cS b s kp hf (upd sc 3 0) ad bf 1 _) (cwV 1 hts (gV tw808 tw805 tw807 ts22 tw8) rfl rfl rfl (by decide +kernel) ⟨Nat.le_of_ble_eq_true rfl, Nat.le_of_ble_eq_true rfl⟩) (pvW 0 hK hP hE (by decide) rfl rfl) rfl rfl hl.1 rfl (lv_room (Nat.le_of_ble_eq_true rfl)) dX7_says_14 ⟨Nat.le_of_ble_eq_true rfl, Nat.le_of_ble_eq_true rfl⟩) (fun r6 u7 H locs hr5 hP hS => ?_)
    subst hr5
    refine lv_goto (tgt := 43) hx hb dX7_says_17 (by decide) ?_
    exact rw_ir hx hb hr rfl hlocks hS () hP rfl dX7_says_43

set_option maxHeartbeats 4000000 in
set_option maxRecDepth 100000 in
theorem mx2_X7_says (l : Launch) (D : va_G) (cI cS : ClassId) (b : Nat → Nat) (s kp : St) (hf : Nat → St) (sc ad bf : Nat → Int32) (x y : Int32) (hx9 : witB x 0 6) (hy9 : ¬ witB y 0 5) (zz : Nat) : Met l yX7_says (.code yX7_says cX7_says 3 (some .int) :: wsA) ({ frames := 2, cells := 0, slots := 0, locals := 42 } : Room) (va_Pc [.ref (b 0), .int x, .int y] (PW D cI cS 6 b (emC cI b (mdl s kp hf sc ad bf)) zz)) (va_Qi (fun (r : Int32) (u : Unit) => r = 0) (BW D 6 b (fun u => emC cI b (mdl s kp hf (upd (upd sc 3 0) 3 2) ad bf))) (AX 6 b zz)) 0 0 (AX 6 b zz) := by
  refine mgo (by decide) (Nat.le_of_ble_eq_true rfl) ?_
  intro p e z m below meth c hx hb hr hml hown hts hlocks hB ls hl
  obtain ⟨hsz, hP, hK, hE⟩ := hB
  subst hsz
  have hS : va_S (AX 6 b z.heap.size) z.heap z.heap [] := va_S.rf
  have hl : lv_has ls 3 [(0, .ref (b 0)), (1, .int x), (2, .int y)] := hl
  refine lv_aload_n hx hb dX7_says_0 rfl (lv_at hl 0 rfl) ?_
  refine lv_iconst (v := 0) hx hb dX7_says_1 (by decide) ?_
  refine g_put hx hb hts hown inA7 tyX7 tyX7_ok nmX7 hK hP hE hS 0 (by decide) rfl rfl 8 (by decide) tw768 rfl rfl (ty := .int) (by decide +kernel) rfl rfl (Nat.le_of_ble_eq_true rfl) dX7_says_2 (ex' := emC cI b (mdl s kp hf (upd sc 3 0) ad bf)) rfl mm_sc (fun H locs hP hS => ?_)
  refine lv_iload_n hx hb dX7_says_5 rfl (lv_at hl 1 rfl) ?_
  refine ro_i (va_runS (As := [.int x]) (rest := []) ⟨hx, hb, hml, hown, hts⟩ (m_X7_isDial l x) (va_cwS 1 hts (gS tw882 tw880 tw881 tw8) rfl rfl rfl (by decide +kernel) ⟨Nat.le_of_ble_eq_true rfl, Nat.le_of_ble_eq_true rfl⟩) ps0 rfl rfl hl.1 rfl (lv_room (Nat.le_of_ble_eq_true rfl)) dX7_says_6 ⟨Nat.le_of_ble_eq_true rfl, Nat.le_of_ble_eq_true rfl⟩) (fun r2 hr1 => ?_)
  subst hr1
  refine lv_bI (fun c4 => ?_) (fun c4 => ?_)
  · skip
    refine lv_if_ne (tgt := 20) hx hb dX7_says_9 (by decide) (fun _ => ?_) (fun h0 => absurd h0 (by decide))
    refine lv_iload_n hx hb dX7_says_20 rfl (lv_at hl 2 rfl) ?_
    refine lv_iconst (v := 0) hx hb dX7_says_21 (by decide) ?_
    refine lv_iconst (v := 5) hx hb dX7_says_22 (by decide) ?_
    refine ro_i (va_runS (As := [.int y, .int 0, .int 5]) (rest := []) ⟨hx, hb, hml, hown, hts⟩ (m_X7_in l y 0 5) (va_cwS 3 hts (gS tw804 tw802 tw803 tw8) rfl rfl rfl (by decide +kernel) ⟨Nat.le_of_ble_eq_true rfl, Nat.le_of_ble_eq_true rfl⟩) ps0 rfl rfl hl.1 rfl (lv_room (Nat.le_of_ble_eq_true rfl)) dX7_says_23 ⟨Nat.le_of_ble_eq_true rfl, Nat.le_of_ble_eq_true rfl⟩) (fun r6 hr5 => ?_)
    subst hr5
    refine lv_bI (fun c8 => ?_) (fun c8 => ?_)
    · skip
      exact absurd c8 hy9
    · skip
      refine lv_if_eq (tgt := 38) hx hb dX7_says_26 (by decide) (fun _ => ?_) (fun h0 => absurd (by decide) h0)
      refine lv_aload_n hx hb dX7_says_38 rfl (lv_at hl 0 rfl) ?_
      refine lv_iconst (v := 2) hx hb dX7_says_39 (by decide) ?_
      refine rw_i hS (va_runV (As := [.int 2]) (rest := []) ⟨hx, hb, hml, hown, hts⟩ (m_X7_throwing l D cI cS b s kp hf (upd sc 3 0) ad bf 2 _) (cwV 1 hts (gV tw808 tw805 tw807 ts22 tw8) rfl rfl rfl (by decide +kernel) ⟨Nat.le_of_ble_eq_true rfl, Nat.le_of_ble_eq_true rfl⟩) (pvW 0 hK hP hE (by decide) rfl rfl) rfl rfl hl.1 rfl (lv_room (Nat.le_of_ble_eq_true rfl)) dX7_says_40 ⟨Nat.le_of_ble_eq_true rfl, Nat.le_of_ble_eq_true rfl⟩) (fun r10 u11 H locs hr9 hP hS => ?_)
      subst hr9
      exact rw_ir hx hb hr rfl hlocks hS () hP rfl dX7_says_43
  · skip
    exact absurd hx9 c4

set_option maxHeartbeats 4000000 in
set_option maxRecDepth 100000 in
theorem m_X7_count (l : Launch) (D : va_G) (cI cS : ClassId) (b : Nat → Nat) (s kp : St) (hf : Nat → St) (sc ad bf : Nat → Int32) (T : Int) (hBd : Bd T s) (hT : T ≤ 100000000) (kn : Nat) (hkn : kn ≤ 6) (hk0 : sc 0 = nI kn) (ix : Nat) (hi9 : ix < 14) (zz : Nat) : Met l yX7_count (.code yX7_count cX7_count 2 (some .int) :: wsA) ({ frames := 4, cells := 0, slots := 0, locals := 86 } : Room) (va_Pc [.ref (b 0), .int (nI ix)] (PW D cI cS 6 b (emC cI b (mdl s kp hf sc ad bf)) zz)) (va_Qi (fun (r : Int32) (u : Unit) => r = counN s kn ix) (BW D 6 b (fun u => emC cI b (mdl s kp hf (upd sc 3 0) ad bf))) (AX 6 b zz)) 0 0 (AX 6 b zz) := by
  refine mgo (by decide) (Nat.le_of_ble_eq_true rfl) ?_
  intro p e z m below meth c hx hb hr hml hown hts hlocks hB ls hl
  obtain ⟨hsz, hP, hK, hE⟩ := hB
  subst hsz
  have hS : va_S (AX 6 b z.heap.size) z.heap z.heap [] := va_S.rf
  have hl : lv_has ls 2 [(0, .ref (b 0)), (1, .int (nI ix))] := hl
  have hin : witB (nI ix) 0 13 := wit_n (lo := 0) (hi := 13) (by omega) (by omega) (by decide)
  refine lv_aload_n hx hb dX7_count_0 rfl (lv_at hl 0 rfl) ?_
  refine lv_iconst (v := 0) hx hb dX7_count_1 (by decide) ?_
  refine g_put hx hb hts hown inA7 tyX7 tyX7_ok nmX7 hK hP hE hS 0 (by decide) rfl rfl 8 (by decide) tw768 rfl rfl (ty := .int) (by decide +kernel) rfl rfl (Nat.le_of_ble_eq_true rfl) dX7_count_2 (ex' := emC cI b (mdl s kp hf (upd sc 3 0) ad bf)) rfl mm_sc (fun H locs hP hS => ?_)
  refine lv_iload_n hx hb dX7_count_5 rfl (lv_at hl 1 rfl) ?_
  refine lv_iconst (v := 0) hx hb dX7_count_6 (by decide) ?_
  refine lv_bipush (v := 13) hx hb dX7_count_7 (by decide) ?_
  refine ro_i (va_runS (As := [.int (nI ix), .int 0, .int 13]) (rest := []) ⟨hx, hb, hml, hown, hts⟩ (m_X7_in l (nI ix) 0 13) (va_cwS 3 hts (gS tw804 tw802 tw803 tw8) rfl rfl rfl (by decide +kernel) ⟨Nat.le_of_ble_eq_true rfl, Nat.le_of_ble_eq_true rfl⟩) ps0 rfl rfl hl.1 rfl (lv_room (Nat.le_of_ble_eq_true rfl)) dX7_count_9 ⟨Nat.le_of_ble_eq_true rfl, Nat.le_of_ble_eq_true rfl⟩) (fun r2 hr1 => ?_)
  subst hr1
  refine lv_bI (fun c4 => ?_) (fun c4 => ?_)
  · skip
    refine lv_if_eq (tgt := 23) hx hb dX7_count_12 (by decide) (fun h0 => absurd h0 (by decide)) (fun _ => ?_)
    refine lv_aload_n hx hb dX7_count_15 rfl (lv_at hl 0 rfl) ?_
    refine lv_iload_n hx hb dX7_count_16 rfl (lv_at hl 1 rfl) ?_
    refine ro_i (va_runV (As := [.int (nI ix)]) (rest := []) ⟨hx, hb, hml, hown, hts⟩ (m_X7_number l D cI cS b s kp hf (upd sc 3 0) ad bf T hBd (by omega) kn (by omega) hk0 ix (by omega)) (cwV 1 hts (gV tw966 tw963 tw965 ts43 tw8) rfl rfl rfl (by decide +kernel) ⟨Nat.le_of_ble_eq_true rfl, Nat.le_of_ble_eq_true rfl⟩) (pvR 0 hK hP (by decide) rfl rfl) rfl rfl hl.1 rfl (lv_room (Nat.le_of_ble_eq_true rfl)) dX7_count_17 ⟨Nat.le_of_ble_eq_true rfl, Nat.le_of_ble_eq_true rfl⟩) (fun r6 hr5 => ?_)
    subst hr5
    refine lv_goto (tgt := 28) hx hb dX7_count_20 (by decide) ?_
    exact rw_ir hx hb hr rfl hlocks hS () hP rfl dX7_count_28
  · skip
    exact absurd hin c4

set_option maxHeartbeats 4000000 in
set_option maxRecDepth 100000 in
theorem mx_X7_count (l : Launch) (D : va_G) (cI cS : ClassId) (b : Nat → Nat) (s kp : St) (hf : Nat → St) (sc ad bf : Nat → Int32) (x : Int32) (hx9 : ¬ witB x 0 13) (zz : Nat) : Met l yX7_count (.code yX7_count cX7_count 2 (some .int) :: wsA) ({ frames := 1, cells := 0, slots := 0, locals := 22 } : Room) (va_Pc [.ref (b 0), .int x] (PW D cI cS 6 b (emC cI b (mdl s kp hf sc ad bf)) zz)) (va_Qi (fun (r : Int32) (u : Unit) => r = 0) (BW D 6 b (fun u => emC cI b (mdl s kp hf (upd (upd sc 3 0) 3 1) ad bf))) (AX 6 b zz)) 0 0 (AX 6 b zz) := by
  refine mgo (by decide) (Nat.le_of_ble_eq_true rfl) ?_
  intro p e z m below meth c hx hb hr hml hown hts hlocks hB ls hl
  obtain ⟨hsz, hP, hK, hE⟩ := hB
  subst hsz
  have hS : va_S (AX 6 b z.heap.size) z.heap z.heap [] := va_S.rf
  have hl : lv_has ls 2 [(0, .ref (b 0)), (1, .int x)] := hl
  refine lv_aload_n hx hb dX7_count_0 rfl (lv_at hl 0 rfl) ?_
  refine lv_iconst (v := 0) hx hb dX7_count_1 (by decide) ?_
  refine g_put hx hb hts hown inA7 tyX7 tyX7_ok nmX7 hK hP hE hS 0 (by decide) rfl rfl 8 (by decide) tw768 rfl rfl (ty := .int) (by decide +kernel) rfl rfl (Nat.le_of_ble_eq_true rfl) dX7_count_2 (ex' := emC cI b (mdl s kp hf (upd sc 3 0) ad bf)) rfl mm_sc (fun H locs hP hS => ?_)
  refine lv_iload_n hx hb dX7_count_5 rfl (lv_at hl 1 rfl) ?_
  refine lv_iconst (v := 0) hx hb dX7_count_6 (by decide) ?_
  refine lv_bipush (v := 13) hx hb dX7_count_7 (by decide) ?_
  refine ro_i (va_runS (As := [.int x, .int 0, .int 13]) (rest := []) ⟨hx, hb, hml, hown, hts⟩ (m_X7_in l x 0 13) (va_cwS 3 hts (gS tw804 tw802 tw803 tw8) rfl rfl rfl (by decide +kernel) ⟨Nat.le_of_ble_eq_true rfl, Nat.le_of_ble_eq_true rfl⟩) ps0 rfl rfl hl.1 rfl (lv_room (Nat.le_of_ble_eq_true rfl)) dX7_count_9 ⟨Nat.le_of_ble_eq_true rfl, Nat.le_of_ble_eq_true rfl⟩) (fun r2 hr1 => ?_)
  subst hr1
  refine lv_bI (fun c4 => ?_) (fun c4 => ?_)
  · skip
    exact absurd c4 hx9
  · skip
    refine lv_if_eq (tgt := 23) hx hb dX7_count_12 (by decide) (fun _ => ?_) (fun h0 => absurd (by decide) h0)
    refine lv_aload_n hx hb dX7_count_23 rfl (lv_at hl 0 rfl) ?_
    refine lv_iconst (v := 1) hx hb dX7_count_24 (by decide) ?_
    refine rw_i hS (va_runV (As := [.int 1]) (rest := []) ⟨hx, hb, hml, hown, hts⟩ (m_X7_throwing l D cI cS b s kp hf (upd sc 3 0) ad bf 1 _) (cwV 1 hts (gV tw808 tw805 tw807 ts22 tw8) rfl rfl rfl (by decide +kernel) ⟨Nat.le_of_ble_eq_true rfl, Nat.le_of_ble_eq_true rfl⟩) (pvW 0 hK hP hE (by decide) rfl rfl) rfl rfl hl.1 rfl (lv_room (Nat.le_of_ble_eq_true rfl)) dX7_count_25 ⟨Nat.le_of_ble_eq_true rfl, Nat.le_of_ble_eq_true rfl⟩) (fun r6 u7 H locs hr5 hP hS => ?_)
    subst hr5
    exact rw_ir hx hb hr rfl hlocks hS () hP rfl dX7_count_28

set_option maxHeartbeats 4000000 in
set_option maxRecDepth 100000 in
theorem m_X7_setting (l : Launch) (D : va_G) (cI cS : ClassId) (b : Nat → Nat) (s kp : St) (hf : Nat → St) (sc ad bf : Nat → Int32) (T : Int) (hBd : Bd T s) (hT : T ≤ 100000000) (q : Nat) (hq : q < 2) (zz : Nat) : Met l yX7_setting (.code yX7_setting cX7_setting 2 (some .int) :: wsA) ({ frames := 1, cells := 0, slots := 0, locals := 22 } : Room) (va_Pc [.ref (b 0), .int (nI q)] (PW D cI cS 6 b (emC cI b (mdl s kp hf sc ad bf)) zz)) (va_Qi (fun (r : Int32) (u : Unit) => r = s 10 q) (BW D 6 b (fun u => emC cI b (mdl s kp hf (upd sc 3 0) ad bf))) (AX 6 b zz)) 0 0 (AX 6 b zz) := by
  refine mgo (by decide) (Nat.le_of_ble_eq_true rfl) ?_
  intro p e z m below meth c hx hb hr hml hown hts hlocks hB ls hl
  obtain ⟨hsz, hP, hK, hE⟩ := hB
  subst hsz
  have hS : va_S (AX 6 b z.heap.size) z.heap z.heap [] := va_S.rf
  have hl : lv_has ls 2 [(0, .ref (b 0)), (1, .int (nI q))] := hl
  have hin : witB (nI q) 0 1 := wit_n (lo := 0) (hi := 1) (by omega) (by omega) (by decide)
  refine lv_aload_n hx hb dX7_setting_0 rfl (lv_at hl 0 rfl) ?_
  refine lv_iconst (v := 0) hx hb dX7_setting_1 (by decide) ?_
  refine g_put hx hb hts hown inA7 tyX7 tyX7_ok nmX7 hK hP hE hS 0 (by decide) rfl rfl 8 (by decide) tw768 rfl rfl (ty := .int) (by decide +kernel) rfl rfl (Nat.le_of_ble_eq_true rfl) dX7_setting_2 (ex' := emC cI b (mdl s kp hf (upd sc 3 0) ad bf)) rfl mm_sc (fun H locs hP hS => ?_)
  refine lv_iload_n hx hb dX7_setting_5 rfl (lv_at hl 1 rfl) ?_
  refine lv_iconst (v := 0) hx hb dX7_setting_6 (by decide) ?_
  refine lv_iconst (v := 1) hx hb dX7_setting_7 (by decide) ?_
  refine ro_i (va_runS (As := [.int (nI q), .int 0, .int 1]) (rest := []) ⟨hx, hb, hml, hown, hts⟩ (m_X7_in l (nI q) 0 1) (va_cwS 3 hts (gS tw804 tw802 tw803 tw8) rfl rfl rfl (by decide +kernel) ⟨Nat.le_of_ble_eq_true rfl, Nat.le_of_ble_eq_true rfl⟩) ps0 rfl rfl hl.1 rfl (lv_room (Nat.le_of_ble_eq_true rfl)) dX7_setting_8 ⟨Nat.le_of_ble_eq_true rfl, Nat.le_of_ble_eq_true rfl⟩) (fun r2 hr1 => ?_)
  subst hr1
  refine lv_bI (fun c4 => ?_) (fun c4 => ?_)
  · skip
    refine lv_if_eq (tgt := 25) hx hb dX7_setting_11 (by decide) (fun h0 => absurd h0 (by decide)) (fun _ => ?_)
    refine lv_aload_n hx hb dX7_setting_14 rfl (lv_at hl 0 rfl) ?_
    refine g_get hx hb hts hown inA7 hK hP 0 (by decide) rfl rfl 0 (by decide) tw760 rfl (v := .ref (b 1)) rfl dX7_setting_15 ?_
    refine lv_iconst (v := 2) hx hb dX7_setting_18 (by decide) ?_
    refine lv_iload_n hx hb dX7_setting_19 rfl (lv_at hl 1 rfl) ?_
    refine lv_iadd hx hb dX7_setting_20 ?_
    refine lv_as (y := nI (2 + q)) (nI_add2 (p := 2) (q := q) rfl rfl) ?_
    refine g_iald hx hb hK hP 1 (by decide) rfl (2 + q) rfl (by omega) (by decide) dX7_setting_21 (v := s 10 q) ((fl_g10 (s := s) (d := q) (by omega)).trans rfl) ?_
    refine lv_goto (tgt := 30) hx hb dX7_setting_22 (by decide) ?_
    exact rw_ir hx hb hr rfl hlocks hS () hP rfl dX7_setting_30
  · skip
    exact absurd hin c4

set_option maxHeartbeats 4000000 in
set_option maxRecDepth 100000 in
theorem mx_X7_setting (l : Launch) (D : va_G) (cI cS : ClassId) (b : Nat → Nat) (s kp : St) (hf : Nat → St) (sc ad bf : Nat → Int32) (x : Int32) (hx9 : ¬ witB x 0 1) (zz : Nat) : Met l yX7_setting (.code yX7_setting cX7_setting 2 (some .int) :: wsA) ({ frames := 1, cells := 0, slots := 0, locals := 22 } : Room) (va_Pc [.ref (b 0), .int x] (PW D cI cS 6 b (emC cI b (mdl s kp hf sc ad bf)) zz)) (va_Qi (fun (r : Int32) (u : Unit) => r = 0) (BW D 6 b (fun u => emC cI b (mdl s kp hf (upd (upd sc 3 0) 3 1) ad bf))) (AX 6 b zz)) 0 0 (AX 6 b zz) := by
  refine mgo (by decide) (Nat.le_of_ble_eq_true rfl) ?_
  intro p e z m below meth c hx hb hr hml hown hts hlocks hB ls hl
  obtain ⟨hsz, hP, hK, hE⟩ := hB
  subst hsz
  have hS : va_S (AX 6 b z.heap.size) z.heap z.heap [] := va_S.rf
  have hl : lv_has ls 2 [(0, .ref (b 0)), (1, .int x)] := hl
  refine lv_aload_n hx hb dX7_setting_0 rfl (lv_at hl 0 rfl) ?_
  refine lv_iconst (v := 0) hx hb dX7_setting_1 (by decide) ?_
  refine g_put hx hb hts hown inA7 tyX7 tyX7_ok nmX7 hK hP hE hS 0 (by decide) rfl rfl 8 (by decide) tw768 rfl rfl (ty := .int) (by decide +kernel) rfl rfl (Nat.le_of_ble_eq_true rfl) dX7_setting_2 (ex' := emC cI b (mdl s kp hf (upd sc 3 0) ad bf)) rfl mm_sc (fun H locs hP hS => ?_)
  refine lv_iload_n hx hb dX7_setting_5 rfl (lv_at hl 1 rfl) ?_
  refine lv_iconst (v := 0) hx hb dX7_setting_6 (by decide) ?_
  refine lv_iconst (v := 1) hx hb dX7_setting_7 (by decide) ?_
  refine ro_i (va_runS (As := [.int x, .int 0, .int 1]) (rest := []) ⟨hx, hb, hml, hown, hts⟩ (m_X7_in l x 0 1) (va_cwS 3 hts (gS tw804 tw802 tw803 tw8) rfl rfl rfl (by decide +kernel) ⟨Nat.le_of_ble_eq_true rfl, Nat.le_of_ble_eq_true rfl⟩) ps0 rfl rfl hl.1 rfl (lv_room (Nat.le_of_ble_eq_true rfl)) dX7_setting_8 ⟨Nat.le_of_ble_eq_true rfl, Nat.le_of_ble_eq_true rfl⟩) (fun r2 hr1 => ?_)
  subst hr1
  refine lv_bI (fun c4 => ?_) (fun c4 => ?_)
  · skip
    exact absurd c4 hx9
  · skip
    refine lv_if_eq (tgt := 25) hx hb dX7_setting_11 (by decide) (fun _ => ?_) (fun h0 => absurd (by decide) h0)
    refine lv_aload_n hx hb dX7_setting_25 rfl (lv_at hl 0 rfl) ?_
    refine lv_iconst (v := 1) hx hb dX7_setting_26 (by decide) ?_
    refine rw_i hS (va_runV (As := [.int 1]) (rest := []) ⟨hx, hb, hml, hown, hts⟩ (m_X7_throwing l D cI cS b s kp hf (upd sc 3 0) ad bf 1 _) (cwV 1 hts (gV tw808 tw805 tw807 ts22 tw8) rfl rfl rfl (by decide +kernel) ⟨Nat.le_of_ble_eq_true rfl, Nat.le_of_ble_eq_true rfl⟩) (pvW 0 hK hP hE (by decide) rfl rfl) rfl rfl hl.1 rfl (lv_room (Nat.le_of_ble_eq_true rfl)) dX7_setting_27 ⟨Nat.le_of_ble_eq_true rfl, Nat.le_of_ble_eq_true rfl⟩) (fun r6 u7 H locs hr5 hP hS => ?_)
    subst hr5
    exact rw_ir hx hb hr rfl hlocks hS () hP rfl dX7_setting_30

set_option maxHeartbeats 4000000 in
set_option maxRecDepth 100000 in
theorem m_X7_without (l : Launch) (D : va_G) (cI cS : ClassId) (b : Nat → Nat) (s kp : St) (hf : Nat → St) (sc ad bf : Nat → Int32) (T : Int) (hBd : Bd T s) (hT : T ≤ 100000000) (d : Nat) (hd : d < 7) (zz : Nat) : Met l yX7_without (.code yX7_without cX7_without 2 (some .int) :: wsA) ({ frames := 3, cells := 0, slots := 0, locals := 70 } : Room) (va_Pc [.ref (b 0), .int (nI d)] (PW D cI cS 6 b (emC cI b (mdl s kp hf sc ad bf)) zz)) (va_Qi (fun (r : Int32) (u : Unit) => r = midW s d 0) (BW D 6 b (fun u => emC cI b (mdl s kp hf (upd sc 3 0) ad bf))) (AX 6 b zz)) 0 0 (AX 6 b zz) := by
  refine mgo (by decide) (Nat.le_of_ble_eq_true rfl) ?_
  intro p e z m below meth c hx hb hr hml hown hts hlocks hB ls hl
  obtain ⟨hsz, hP, hK, hE⟩ := hB
  subst hsz
  have hS : va_S (AX 6 b z.heap.size) z.heap z.heap [] := va_S.rf
  have hl : lv_has ls 2 [(0, .ref (b 0)), (1, .int (nI d))] := hl
  have hin : witB (nI d) 0 6 := wit_n (lo := 0) (hi := 6) (by omega) (by omega) (by decide)
  refine lv_aload_n hx hb dX7_without_0 rfl (lv_at hl 0 rfl) ?_
  refine lv_iconst (v := 0) hx hb dX7_without_1 (by decide) ?_
  refine g_put hx hb hts hown inA7 tyX7 tyX7_ok nmX7 hK hP hE hS 0 (by decide) rfl rfl 8 (by decide) tw768 rfl rfl (ty := .int) (by decide +kernel) rfl rfl (Nat.le_of_ble_eq_true rfl) dX7_without_2 (ex' := emC cI b (mdl s kp hf (upd sc 3 0) ad bf)) rfl mm_sc (fun H locs hP hS => ?_)
  refine lv_iload_n hx hb dX7_without_5 rfl (lv_at hl 1 rfl) ?_
  refine ro_i (va_runS (As := [.int (nI d)]) (rest := []) ⟨hx, hb, hml, hown, hts⟩ (m_X7_isDial l (nI d)) (va_cwS 1 hts (gS tw882 tw880 tw881 tw8) rfl rfl rfl (by decide +kernel) ⟨Nat.le_of_ble_eq_true rfl, Nat.le_of_ble_eq_true rfl⟩) ps0 rfl rfl hl.1 rfl (lv_room (Nat.le_of_ble_eq_true rfl)) dX7_without_6 ⟨Nat.le_of_ble_eq_true rfl, Nat.le_of_ble_eq_true rfl⟩) (fun r2 hr1 => ?_)
  subst hr1
  refine lv_bI (fun c4 => ?_) (fun c4 => ?_)
  · skip
    refine lv_if_eq (tgt := 21) hx hb dX7_without_9 (by decide) (fun h0 => absurd h0 (by decide)) (fun _ => ?_)
    refine lv_aload_n hx hb dX7_without_12 rfl (lv_at hl 0 rfl) ?_
    refine lv_iload_n hx hb dX7_without_13 rfl (lv_at hl 1 rfl) ?_
    refine lv_iconst (v := 0) hx hb dX7_without_14 (by decide) ?_
    refine rw_i hS (va_runV (As := [.int (nI d), .int 0]) (rest := []) ⟨hx, hb, hml, hown, hts⟩ (m_X7_middleWith l D cI cS b s kp hf (upd sc 3 0) ad bf T hBd (by omega) d (by omega) 0 (by decide) _) (cwV 2 hts (gV tw990 tw987 tw989 ts47 tw8) rfl rfl rfl (by decide +kernel) ⟨Nat.le_of_ble_eq_true rfl, Nat.le_of_ble_eq_true rfl⟩) (pvW 0 hK hP hE (by decide) rfl rfl) rfl rfl hl.1 rfl (lv_room (Nat.le_of_ble_eq_true rfl)) dX7_without_15 ⟨Nat.le_of_ble_eq_true rfl, Nat.le_of_ble_eq_true rfl⟩) (fun r6 u7 H locs hr5 hP hS => ?_)
    subst hr5
    refine lv_goto (tgt := 26) hx hb dX7_without_18 (by decide) ?_
    exact rw_ir hx hb hr rfl hlocks hS () hP rfl dX7_without_26
  · skip
    exact absurd hin c4

set_option maxHeartbeats 4000000 in
set_option maxRecDepth 100000 in
theorem mx_X7_without (l : Launch) (D : va_G) (cI cS : ClassId) (b : Nat → Nat) (s kp : St) (hf : Nat → St) (sc ad bf : Nat → Int32) (x : Int32) (hx9 : ¬ witB x 0 6) (zz : Nat) : Met l yX7_without (.code yX7_without cX7_without 2 (some .int) :: wsA) ({ frames := 2, cells := 0, slots := 0, locals := 42 } : Room) (va_Pc [.ref (b 0), .int x] (PW D cI cS 6 b (emC cI b (mdl s kp hf sc ad bf)) zz)) (va_Qi (fun (r : Int32) (u : Unit) => r = 0) (BW D 6 b (fun u => emC cI b (mdl s kp hf (upd (upd sc 3 0) 3 1) ad bf))) (AX 6 b zz)) 0 0 (AX 6 b zz) := by
  refine mgo (by decide) (Nat.le_of_ble_eq_true rfl) ?_
  intro p e z m below meth c hx hb hr hml hown hts hlocks hB ls hl
  obtain ⟨hsz, hP, hK, hE⟩ := hB
  subst hsz
  have hS : va_S (AX 6 b z.heap.size) z.heap z.heap [] := va_S.rf
  have hl : lv_has ls 2 [(0, .ref (b 0)), (1, .int x)] := hl
  refine lv_aload_n hx hb dX7_without_0 rfl (lv_at hl 0 rfl) ?_
  refine lv_iconst (v := 0) hx hb dX7_without_1 (by decide) ?_
  refine g_put hx hb hts hown inA7 tyX7 tyX7_ok nmX7 hK hP hE hS 0 (by decide) rfl rfl 8 (by decide) tw768 rfl rfl (ty := .int) (by decide +kernel) rfl rfl (Nat.le_of_ble_eq_true rfl) dX7_without_2 (ex' := emC cI b (mdl s kp hf (upd sc 3 0) ad bf)) rfl mm_sc (fun H locs hP hS => ?_)
  refine lv_iload_n hx hb dX7_without_5 rfl (lv_at hl 1 rfl) ?_
  refine ro_i (va_runS (As := [.int x]) (rest := []) ⟨hx, hb, hml, hown, hts⟩ (m_X7_isDial l x) (va_cwS 1 hts (gS tw882 tw880 tw881 tw8) rfl rfl rfl (by decide +kernel) ⟨Nat.le_of_ble_eq_true rfl, Nat.le_of_ble_eq_true rfl⟩) ps0 rfl rfl hl.1 rfl (lv_room (Nat.le_of_ble_eq_true rfl)) dX7_without_6 ⟨Nat.le_of_ble_eq_true rfl, Nat.le_of_ble_eq_true rfl⟩) (fun r2 hr1 => ?_)
  subst hr1
  refine lv_bI (fun c4 => ?_) (fun c4 => ?_)
  · skip
    exact absurd c4 hx9
  · skip
    refine lv_if_eq (tgt := 21) hx hb dX7_without_9 (by decide) (fun _ => ?_) (fun h0 => absurd (by decide) h0)
    refine lv_aload_n hx hb dX7_without_21 rfl (lv_at hl 0 rfl) ?_
    refine lv_iconst (v := 1) hx hb dX7_without_22 (by decide) ?_
    refine rw_i hS (va_runV (As := [.int 1]) (rest := []) ⟨hx, hb, hml, hown, hts⟩ (m_X7_throwing l D cI cS b s kp hf (upd sc 3 0) ad bf 1 _) (cwV 1 hts (gV tw808 tw805 tw807 ts22 tw8) rfl rfl rfl (by decide +kernel) ⟨Nat.le_of_ble_eq_true rfl, Nat.le_of_ble_eq_true rfl⟩) (pvW 0 hK hP hE (by decide) rfl rfl) rfl rfl hl.1 rfl (lv_room (Nat.le_of_ble_eq_true rfl)) dX7_without_23 ⟨Nat.le_of_ble_eq_true rfl, Nat.le_of_ble_eq_true rfl⟩) (fun r6 u7 H locs hr5 hP hS => ?_)
    subst hr5
    exact rw_ir hx hb hr rfl hlocks hS () hP rfl dX7_without_26

set_option maxHeartbeats 4000000 in
set_option maxRecDepth 100000 in
theorem m_X7_wins (l : Launch) (D : va_G) (cI cS : ClassId) (b : Nat → Nat) (s kp : St) (hf : Nat → St) (sc ad bf : Nat → Int32) (T : Int) (hBd : Bd T s) (hT : T ≤ 100000000) (d : Nat) (hd : d < 7) (zz : Nat) : Met l yX7_wins (.code yX7_wins cX7_wins 2 (some .int) :: wsA) ({ frames := 4, cells := 0, slots := 0, locals := 92 } : Room) (va_Pc [.ref (b 0), .int (nI d)] (PW D cI cS 6 b (emC cI b (mdl s kp hf sc ad bf)) zz)) (va_Qi (fun (r : Int32) (u : Unit) => r = winF s d 9 1) (BW D 6 b (fun u => emC cI b (mdl s kp hf (upd sc 3 0) ad bf))) (AX 6 b zz)) 0 0 (AX 6 b zz) := by
  refine mgo (by decide) (Nat.le_of_ble_eq_true rfl) ?_
  intro p e z m below meth c hx hb hr hml hown hts hlocks hB ls hl
  obtain ⟨hsz, hP, hK, hE⟩ := hB
  subst hsz
  have hS : va_S (AX 6 b z.heap.size) z.heap z.heap [] := va_S.rf
  have hl : lv_has ls 2 [(0, .ref (b 0)), (1, .int (nI d))] := hl
  have hin : witB (nI d) 0 6 := wit_n (lo := 0) (hi := 6) (by omega) (by omega) (by decide)
  refine lv_aload_n hx hb dX7_wins_0 rfl (lv_at hl 0 rfl) ?_
  refine lv_iconst (v := 0) hx hb dX7_wins_1 (by decide) ?_
  refine g_put hx hb hts hown inA7 tyX7 tyX7_ok nmX7 hK hP hE hS 0 (by decide) rfl rfl 8 (by decide) tw768 rfl rfl (ty := .int) (by decide +kernel) rfl rfl (Nat.le_of_ble_eq_true rfl) dX7_wins_2 (ex' := emC cI b (mdl s kp hf (upd sc 3 0) ad bf)) rfl mm_sc (fun H locs hP hS => ?_)
  refine lv_iload_n hx hb dX7_wins_5 rfl (lv_at hl 1 rfl) ?_
  refine ro_i (va_runS (As := [.int (nI d)]) (rest := []) ⟨hx, hb, hml, hown, hts⟩ (m_X7_isDial l (nI d)) (va_cwS 1 hts (gS tw882 tw880 tw881 tw8) rfl rfl rfl (by decide +kernel) ⟨Nat.le_of_ble_eq_true rfl, Nat.le_of_ble_eq_true rfl⟩) ps0 rfl rfl hl.1 rfl (lv_room (Nat.le_of_ble_eq_true rfl)) dX7_wins_6 ⟨Nat.le_of_ble_eq_true rfl, Nat.le_of_ble_eq_true rfl⟩) (fun r2 hr1 => ?_)
  subst hr1
  refine lv_bI (fun c4 => ?_) (fun c4 => ?_)
  · skip
    refine lv_if_eq (tgt := 20) hx hb dX7_wins_9 (by decide) (fun h0 => absurd h0 (by decide)) (fun _ => ?_)
    refine lv_aload_n hx hb dX7_wins_12 rfl (lv_at hl 0 rfl) ?_
    refine lv_iload_n hx hb dX7_wins_13 rfl (lv_at hl 1 rfl) ?_
    refine rw_i hS (va_runV (As := [.int (nI d)]) (rest := []) ⟨hx, hb, hml, hown, hts⟩ (m_X7_winning l D cI cS b s kp hf (upd sc 3 0) ad bf T hBd (by omega) d (by omega) _) (cwV 1 hts (gV tw1006 tw1003 tw1005 ts49 tw8) rfl rfl rfl (by decide +kernel) ⟨Nat.le_of_ble_eq_true rfl, Nat.le_of_ble_eq_true rfl⟩) (pvW 0 hK hP hE (by decide) rfl rfl) rfl rfl hl.1 rfl (lv_room (Nat.le_of_ble_eq_true rfl)) dX7_wins_14 ⟨Nat.le_of_ble_eq_true rfl, Nat.le_of_ble_eq_true rfl⟩) (fun r6 u7 H locs hr5 hP hS => ?_)
    subst hr5
    refine lv_goto (tgt := 25) hx hb dX7_wins_17 (by decide) ?_
    exact rw_ir hx hb hr rfl hlocks hS () hP rfl dX7_wins_25
  · skip
    exact absurd hin c4

set_option maxHeartbeats 4000000 in
set_option maxRecDepth 100000 in
theorem mx_X7_wins (l : Launch) (D : va_G) (cI cS : ClassId) (b : Nat → Nat) (s kp : St) (hf : Nat → St) (sc ad bf : Nat → Int32) (x : Int32) (hx9 : ¬ witB x 0 6) (zz : Nat) : Met l yX7_wins (.code yX7_wins cX7_wins 2 (some .int) :: wsA) ({ frames := 2, cells := 0, slots := 0, locals := 42 } : Room) (va_Pc [.ref (b 0), .int x] (PW D cI cS 6 b (emC cI b (mdl s kp hf sc ad bf)) zz)) (va_Qi (fun (r : Int32) (u : Unit) => r = 0) (BW D 6 b (fun u => emC cI b (mdl s kp hf (upd (upd sc 3 0) 3 1) ad bf))) (AX 6 b zz)) 0 0 (AX 6 b zz) := by
  refine mgo (by decide) (Nat.le_of_ble_eq_true rfl) ?_
  intro p e z m below meth c hx hb hr hml hown hts hlocks hB ls hl
  obtain ⟨hsz, hP, hK, hE⟩ := hB
  subst hsz
  have hS : va_S (AX 6 b z.heap.size) z.heap z.heap [] := va_S.rf
  have hl : lv_has ls 2 [(0, .ref (b 0)), (1, .int x)] := hl
  refine lv_aload_n hx hb dX7_wins_0 rfl (lv_at hl 0 rfl) ?_
  refine lv_iconst (v := 0) hx hb dX7_wins_1 (by decide) ?_
  refine g_put hx hb hts hown inA7 tyX7 tyX7_ok nmX7 hK hP hE hS 0 (by decide) rfl rfl 8 (by decide) tw768 rfl rfl (ty := .int) (by decide +kernel) rfl rfl (Nat.le_of_ble_eq_true rfl) dX7_wins_2 (ex' := emC cI b (mdl s kp hf (upd sc 3 0) ad bf)) rfl mm_sc (fun H locs hP hS => ?_)
  refine lv_iload_n hx hb dX7_wins_5 rfl (lv_at hl 1 rfl) ?_
  refine ro_i (va_runS (As := [.int x]) (rest := []) ⟨hx, hb, hml, hown, hts⟩ (m_X7_isDial l x) (va_cwS 1 hts (gS tw882 tw880 tw881 tw8) rfl rfl rfl (by decide +kernel) ⟨Nat.le_of_ble_eq_true rfl, Nat.le_of_ble_eq_true rfl⟩) ps0 rfl rfl hl.1 rfl (lv_room (Nat.le_of_ble_eq_true rfl)) dX7_wins_6 ⟨Nat.le_of_ble_eq_true rfl, Nat.le_of_ble_eq_true rfl⟩) (fun r2 hr1 => ?_)
  subst hr1
  refine lv_bI (fun c4 => ?_) (fun c4 => ?_)
  · skip
    exact absurd c4 hx9
  · skip
    refine lv_if_eq (tgt := 20) hx hb dX7_wins_9 (by decide) (fun _ => ?_) (fun h0 => absurd (by decide) h0)
    refine lv_aload_n hx hb dX7_wins_20 rfl (lv_at hl 0 rfl) ?_
    refine lv_iconst (v := 1) hx hb dX7_wins_21 (by decide) ?_
    refine rw_i hS (va_runV (As := [.int 1]) (rest := []) ⟨hx, hb, hml, hown, hts⟩ (m_X7_throwing l D cI cS b s kp hf (upd sc 3 0) ad bf 1 _) (cwV 1 hts (gV tw808 tw805 tw807 ts22 tw8) rfl rfl rfl (by decide +kernel) ⟨Nat.le_of_ble_eq_true rfl, Nat.le_of_ble_eq_true rfl⟩) (pvW 0 hK hP hE (by decide) rfl rfl) rfl rfl hl.1 rfl (lv_room (Nat.le_of_ble_eq_true rfl)) dX7_wins_22 ⟨Nat.le_of_ble_eq_true rfl, Nat.le_of_ble_eq_true rfl⟩) (fun r6 u7 H locs hr5 hP hS => ?_)
    subst hr5
    exact rw_ir hx hb hr rfl hlocks hS () hP rfl dX7_wins_25

set_option maxHeartbeats 4000000 in
set_option maxRecDepth 100000 in
theorem m_X7_quarrelIn (l : Launch) (D : va_G) (cI cS : ClassId) (b : Nat → Nat) (s kp : St) (hf : Nat → St) (sc ad bf : Nat → Int32) (T : Int) (hBd : Bd T s) (hT : T ≤ 100000000) (d : Nat) (hd : d < 7) (zz : Nat) : Met l yX7_quarrelIn (.code yX7_quarrelIn cX7_quarrelIn 2 (some .int) :: wsA) ({ frames := 3, cells := 0, slots := 0, locals := 72 } : Room) (va_Pc [.ref (b 0), .int (nI d)] (PW D cI cS 6 b (emC cI b (mdl s kp hf sc ad bf)) zz)) (va_Qi (fun (r : Int32) (u : Nat → Int32) => r = qF s d (behN d) 201 0 (s 1 d) (s 1 (behN d))) (BW D 6 b (fun u => emC cI b (mdl s kp hf (upd sc 3 0) u bf))) (AX 6 b zz)) 0 0 (AX 6 b zz) := by
  refine mgo (by decide) (Nat.le_of_ble_eq_true rfl) ?_
  intro p e z m below meth c hx hb hr hml hown hts hlocks hB ls hl
  obtain ⟨hsz, hP, hK, hE⟩ := hB
  subst hsz
  have hS : va_S (AX 6 b z.heap.size) z.heap z.heap [] := va_S.rf
  have hl : lv_has ls 2 [(0, .ref (b 0)), (1, .int (nI d))] := hl
  have hin : witB (nI d) 0 6 := wit_n (lo := 0) (hi := 6) (by omega) (by omega) (by decide)
  refine lv_aload_n hx hb dX7_quarrelIn_0 rfl (lv_at hl 0 rfl) ?_
  refine lv_iconst (v := 0) hx hb dX7_quarrelIn_1 (by decide) ?_
  refine g_put hx hb hts hown inA7 tyX7 tyX7_ok nmX7 hK hP hE hS 0 (by decide) rfl rfl 8 (by decide) tw768 rfl rfl (ty := .int) (by decide +kernel) rfl rfl (Nat.le_of_ble_eq_true rfl) dX7_quarrelIn_2 (ex' := emC cI b (mdl s kp hf (upd sc 3 0) ad bf)) rfl mm_sc (fun H locs hP hS => ?_)
  refine lv_iload_n hx hb dX7_quarrelIn_5 rfl (lv_at hl 1 rfl) ?_
  refine ro_i (va_runS (As := [.int (nI d)]) (rest := []) ⟨hx, hb, hml, hown, hts⟩ (m_X7_isDial l (nI d)) (va_cwS 1 hts (gS tw882 tw880 tw881 tw8) rfl rfl rfl (by decide +kernel) ⟨Nat.le_of_ble_eq_true rfl, Nat.le_of_ble_eq_true rfl⟩) ps0 rfl rfl hl.1 rfl (lv_room (Nat.le_of_ble_eq_true rfl)) dX7_quarrelIn_6 ⟨Nat.le_of_ble_eq_true rfl, Nat.le_of_ble_eq_true rfl⟩) (fun r2 hr1 => ?_)
  subst hr1
  refine lv_bI (fun c4 => ?_) (fun c4 => ?_)
  · skip
    refine lv_if_eq (tgt := 20) hx hb dX7_quarrelIn_9 (by decide) (fun h0 => absurd h0 (by decide)) (fun _ => ?_)
    refine lv_aload_n hx hb dX7_quarrelIn_12 rfl (lv_at hl 0 rfl) ?_
    refine lv_iload_n hx hb dX7_quarrelIn_13 rfl (lv_at hl 1 rfl) ?_
    refine rw_i hS (va_runV (As := [.int (nI d)]) (rest := []) ⟨hx, hb, hml, hown, hts⟩ (m_X7_quarrelsIn l D cI cS b s kp hf (upd sc 3 0) ad bf T hBd (by omega) d (by omega) _) (cwV 1 hts (gV tw1014 tw1011 tw1013 ts50 tw8) rfl rfl rfl (by decide +kernel) ⟨Nat.le_of_ble_eq_true rfl, Nat.le_of_ble_eq_true rfl⟩) (pvW 0 hK hP hE (by decide) rfl rfl) rfl rfl hl.1 rfl (lv_room (Nat.le_of_ble_eq_true rfl)) dX7_quarrelIn_14 ⟨Nat.le_of_ble_eq_true rfl, Nat.le_of_ble_eq_true rfl⟩) (fun r6 u7 H locs hr5 hP hS => ?_)
    subst hr5
    refine lv_goto (tgt := 25) hx hb dX7_quarrelIn_17 (by decide) ?_
    exact rw_ir hx hb hr rfl hlocks hS u7 hP rfl dX7_quarrelIn_25
  · skip
    exact absurd hin c4

set_option maxHeartbeats 4000000 in
set_option maxRecDepth 100000 in
theorem mx_X7_quarrelIn (l : Launch) (D : va_G) (cI cS : ClassId) (b : Nat → Nat) (s kp : St) (hf : Nat → St) (sc ad bf : Nat → Int32) (x : Int32) (hx9 : ¬ witB x 0 6) (zz : Nat) : Met l yX7_quarrelIn (.code yX7_quarrelIn cX7_quarrelIn 2 (some .int) :: wsA) ({ frames := 2, cells := 0, slots := 0, locals := 42 } : Room) (va_Pc [.ref (b 0), .int x] (PW D cI cS 6 b (emC cI b (mdl s kp hf sc ad bf)) zz)) (va_Qi (fun (r : Int32) (u : Unit) => r = 0) (BW D 6 b (fun u => emC cI b (mdl s kp hf (upd (upd sc 3 0) 3 1) ad bf))) (AX 6 b zz)) 0 0 (AX 6 b zz) := by
  refine mgo (by decide) (Nat.le_of_ble_eq_true rfl) ?_
  intro p e z m below meth c hx hb hr hml hown hts hlocks hB ls hl
  obtain ⟨hsz, hP, hK, hE⟩ := hB
  subst hsz
  have hS : va_S (AX 6 b z.heap.size) z.heap z.heap [] := va_S.rf
  have hl : lv_has ls 2 [(0, .ref (b 0)), (1, .int x)] := hl
  refine lv_aload_n hx hb dX7_quarrelIn_0 rfl (lv_at hl 0 rfl) ?_
  refine lv_iconst (v := 0) hx hb dX7_quarrelIn_1 (by decide) ?_
  refine g_put hx hb hts hown inA7 tyX7 tyX7_ok nmX7 hK hP hE hS 0 (by decide) rfl rfl 8 (by decide) tw768 rfl rfl (ty := .int) (by decide +kernel) rfl rfl (Nat.le_of_ble_eq_true rfl) dX7_quarrelIn_2 (ex' := emC cI b (mdl s kp hf (upd sc 3 0) ad bf)) rfl mm_sc (fun H locs hP hS => ?_)
  refine lv_iload_n hx hb dX7_quarrelIn_5 rfl (lv_at hl 1 rfl) ?_
  refine ro_i (va_runS (As := [.int x]) (rest := []) ⟨hx, hb, hml, hown, hts⟩ (m_X7_isDial l x) (va_cwS 1 hts (gS tw882 tw880 tw881 tw8) rfl rfl rfl (by decide +kernel) ⟨Nat.le_of_ble_eq_true rfl, Nat.le_of_ble_eq_true rfl⟩) ps0 rfl rfl hl.1 rfl (lv_room (Nat.le_of_ble_eq_true rfl)) dX7_quarrelIn_6 ⟨Nat.le_of_ble_eq_true rfl, Nat.le_of_ble_eq_true rfl⟩) (fun r2 hr1 => ?_)
  subst hr1
  refine lv_bI (fun c4 => ?_) (fun c4 => ?_)
  · skip
    exact absurd c4 hx9
  · skip
    refine lv_if_eq (tgt := 20) hx hb dX7_quarrelIn_9 (by decide) (fun _ => ?_) (fun h0 => absurd (by decide) h0)
    refine lv_aload_n hx hb dX7_quarrelIn_20 rfl (lv_at hl 0 rfl) ?_
    refine lv_iconst (v := 1) hx hb dX7_quarrelIn_21 (by decide) ?_
    refine rw_i hS (va_runV (As := [.int 1]) (rest := []) ⟨hx, hb, hml, hown, hts⟩ (m_X7_throwing l D cI cS b s kp hf (upd sc 3 0) ad bf 1 _) (cwV 1 hts (gV tw808 tw805 tw807 ts22 tw8) rfl rfl rfl (by decide +kernel) ⟨Nat.le_of_ble_eq_true rfl, Nat.le_of_ble_eq_true rfl⟩) (pvW 0 hK hP hE (by decide) rfl rfl) rfl rfl hl.1 rfl (lv_room (Nat.le_of_ble_eq_true rfl)) dX7_quarrelIn_22 ⟨Nat.le_of_ble_eq_true rfl, Nat.le_of_ble_eq_true rfl⟩) (fun r6 u7 H locs hr5 hP hS => ?_)
    subst hr5
    exact rw_ir hx hb hr rfl hlocks hS () hP rfl dX7_quarrelIn_25

set_option maxHeartbeats 4000000 in
set_option maxRecDepth 100000 in
theorem m_X7_ringsIn (l : Launch) (D : va_G) (cI cS : ClassId) (b : Nat → Nat) (s kp : St) (hf : Nat → St) (sc ad bf : Nat → Int32) (T : Int) (hBd : Bd T s) (hT : T ≤ 100000000) (d : Nat) (hd : d < 7) (zz : Nat) : Met l yX7_ringsIn (.code yX7_ringsIn cX7_ringsIn 2 (some .int) :: wsA) ({ frames := 2, cells := 0, slots := 0, locals := 42 } : Room) (va_Pc [.ref (b 0), .int (nI d)] (PW D cI cS 6 b (emC cI b (mdl s kp hf sc ad bf)) zz)) (va_Qi (fun (r : Int32) (u : Unit) => r = ringF s d (s 1 d / 60) 200 1 (s 1 d)) (BW D 6 b (fun u => emC cI b (mdl s kp hf (upd sc 3 0) ad bf))) (AX 6 b zz)) 0 0 (AX 6 b zz) := by
  refine mgo (by decide) (Nat.le_of_ble_eq_true rfl) ?_
  intro p e z m below meth c hx hb hr hml hown hts hlocks hB ls hl
  obtain ⟨hsz, hP, hK, hE⟩ := hB
  subst hsz
  have hS : va_S (AX 6 b z.heap.size) z.heap z.heap [] := va_S.rf
  have hl : lv_has ls 2 [(0, .ref (b 0)), (1, .int (nI d))] := hl
  have hin : witB (nI d) 0 6 := wit_n (lo := 0) (hi := 6) (by omega) (by omega) (by decide)
  refine lv_aload_n hx hb dX7_ringsIn_0 rfl (lv_at hl 0 rfl) ?_
  refine lv_iconst (v := 0) hx hb dX7_ringsIn_1 (by decide) ?_
  refine g_put hx hb hts hown inA7 tyX7 tyX7_ok nmX7 hK hP hE hS 0 (by decide) rfl rfl 8 (by decide) tw768 rfl rfl (ty := .int) (by decide +kernel) rfl rfl (Nat.le_of_ble_eq_true rfl) dX7_ringsIn_2 (ex' := emC cI b (mdl s kp hf (upd sc 3 0) ad bf)) rfl mm_sc (fun H locs hP hS => ?_)
  refine lv_iload_n hx hb dX7_ringsIn_5 rfl (lv_at hl 1 rfl) ?_
  refine ro_i (va_runS (As := [.int (nI d)]) (rest := []) ⟨hx, hb, hml, hown, hts⟩ (m_X7_isDial l (nI d)) (va_cwS 1 hts (gS tw882 tw880 tw881 tw8) rfl rfl rfl (by decide +kernel) ⟨Nat.le_of_ble_eq_true rfl, Nat.le_of_ble_eq_true rfl⟩) ps0 rfl rfl hl.1 rfl (lv_room (Nat.le_of_ble_eq_true rfl)) dX7_ringsIn_6 ⟨Nat.le_of_ble_eq_true rfl, Nat.le_of_ble_eq_true rfl⟩) (fun r2 hr1 => ?_)
  subst hr1
  refine lv_bI (fun c4 => ?_) (fun c4 => ?_)
  · skip
    refine lv_if_eq (tgt := 20) hx hb dX7_ringsIn_9 (by decide) (fun h0 => absurd h0 (by decide)) (fun _ => ?_)
    refine lv_aload_n hx hb dX7_ringsIn_12 rfl (lv_at hl 0 rfl) ?_
    refine lv_iload_n hx hb dX7_ringsIn_13 rfl (lv_at hl 1 rfl) ?_
    refine ro_i (va_runV (As := [.int (nI d)]) (rest := []) ⟨hx, hb, hml, hown, hts⟩ (m_X7_bellIn l D cI cS b s kp hf (upd sc 3 0) ad bf d (by omega)) (cwV 1 hts (gV tw1030 tw1027 tw1029 ts53 tw8) rfl rfl rfl (by decide +kernel) ⟨Nat.le_of_ble_eq_true rfl, Nat.le_of_ble_eq_true rfl⟩) (pvR 0 hK hP (by decide) rfl rfl) rfl rfl hl.1 rfl (lv_room (Nat.le_of_ble_eq_true rfl)) dX7_ringsIn_14 ⟨Nat.le_of_ble_eq_true rfl, Nat.le_of_ble_eq_true rfl⟩) (fun r6 hr5 => ?_)
    subst hr5
    refine lv_goto (tgt := 25) hx hb dX7_ringsIn_17 (by decide) ?_
    exact rw_ir hx hb hr rfl hlocks hS () hP rfl dX7_ringsIn_25
  · skip
    exact absurd hin c4

set_option maxHeartbeats 4000000 in
set_option maxRecDepth 100000 in
theorem mx_X7_ringsIn (l : Launch) (D : va_G) (cI cS : ClassId) (b : Nat → Nat) (s kp : St) (hf : Nat → St) (sc ad bf : Nat → Int32) (x : Int32) (hx9 : ¬ witB x 0 6) (zz : Nat) : Met l yX7_ringsIn (.code yX7_ringsIn cX7_ringsIn 2 (some .int) :: wsA) ({ frames := 2, cells := 0, slots := 0, locals := 42 } : Room) (va_Pc [.ref (b 0), .int x] (PW D cI cS 6 b (emC cI b (mdl s kp hf sc ad bf)) zz)) (va_Qi (fun (r : Int32) (u : Unit) => r = 0) (BW D 6 b (fun u => emC cI b (mdl s kp hf (upd (upd sc 3 0) 3 1) ad bf))) (AX 6 b zz)) 0 0 (AX 6 b zz) := by
  refine mgo (by decide) (Nat.le_of_ble_eq_true rfl) ?_
  intro p e z m below meth c hx hb hr hml hown hts hlocks hB ls hl
  obtain ⟨hsz, hP, hK, hE⟩ := hB
  subst hsz
  have hS : va_S (AX 6 b z.heap.size) z.heap z.heap [] := va_S.rf
  have hl : lv_has ls 2 [(0, .ref (b 0)), (1, .int x)] := hl
  refine lv_aload_n hx hb dX7_ringsIn_0 rfl (lv_at hl 0 rfl) ?_
  refine lv_iconst (v := 0) hx hb dX7_ringsIn_1 (by decide) ?_
  refine g_put hx hb hts hown inA7 tyX7 tyX7_ok nmX7 hK hP hE hS 0 (by decide) rfl rfl 8 (by decide) tw768 rfl rfl (ty := .int) (by decide +kernel) rfl rfl (Nat.le_of_ble_eq_true rfl) dX7_ringsIn_2 (ex' := emC cI b (mdl s kp hf (upd sc 3 0) ad bf)) rfl mm_sc (fun H locs hP hS => ?_)
  refine lv_iload_n hx hb dX7_ringsIn_5 rfl (lv_at hl 1 rfl) ?_
  refine ro_i (va_runS (As := [.int x]) (rest := []) ⟨hx, hb, hml, hown, hts⟩ (m_X7_isDial l x) (va_cwS 1 hts (gS tw882 tw880 tw881 tw8) rfl rfl rfl (by decide +kernel) ⟨Nat.le_of_ble_eq_true rfl, Nat.le_of_ble_eq_true rfl⟩) ps0 rfl rfl hl.1 rfl (lv_room (Nat.le_of_ble_eq_true rfl)) dX7_ringsIn_6 ⟨Nat.le_of_ble_eq_true rfl, Nat.le_of_ble_eq_true rfl⟩) (fun r2 hr1 => ?_)
  subst hr1
  refine lv_bI (fun c4 => ?_) (fun c4 => ?_)
  · skip
    exact absurd c4 hx9
  · skip
    refine lv_if_eq (tgt := 20) hx hb dX7_ringsIn_9 (by decide) (fun _ => ?_) (fun h0 => absurd (by decide) h0)
    refine lv_aload_n hx hb dX7_ringsIn_20 rfl (lv_at hl 0 rfl) ?_
    refine lv_iconst (v := 1) hx hb dX7_ringsIn_21 (by decide) ?_
    refine rw_i hS (va_runV (As := [.int 1]) (rest := []) ⟨hx, hb, hml, hown, hts⟩ (m_X7_throwing l D cI cS b s kp hf (upd sc 3 0) ad bf 1 _) (cwV 1 hts (gV tw808 tw805 tw807 ts22 tw8) rfl rfl rfl (by decide +kernel) ⟨Nat.le_of_ble_eq_true rfl, Nat.le_of_ble_eq_true rfl⟩) (pvW 0 hK hP hE (by decide) rfl rfl) rfl rfl hl.1 rfl (lv_room (Nat.le_of_ble_eq_true rfl)) dX7_ringsIn_22 ⟨Nat.le_of_ble_eq_true rfl, Nat.le_of_ble_eq_true rfl⟩) (fun r6 u7 H locs hr5 hP hS => ?_)
    subst hr5
    exact rw_ir hx hb hr rfl hlocks hS () hP rfl dX7_ringsIn_25

set_option maxHeartbeats 4000000 in
set_option maxRecDepth 100000 in
theorem m_X7_pivot (l : Launch) (D : va_G) (cI cS : ClassId) (b : Nat → Nat) (s kp : St) (hf : Nat → St) (sc ad bf : Nat → Int32) (T : Int) (hBd : Bd T s) (hT : T ≤ 100000000) (zz : Nat) : Met l yX7_pivot (.code yX7_pivot cX7_pivot 1 (some .int) :: wsA) ({ frames := 4, cells := 0, slots := 0, locals := 96 } : Room) (va_Pc [.ref (b 0)] (PW D cI cS 6 b (emC cI b (mdl s kp hf sc ad bf)) zz)) (va_Qi (fun (r : Int32) (u : Unit) => r = pivI s) (BW D 6 b (fun u => emC cI b (mdl s kp hf (upd sc 3 0) ad bf))) (AX 6 b zz)) 0 0 (AX 6 b zz) := by
  refine mgo (by decide) (Nat.le_of_ble_eq_true rfl) ?_
  intro p e z m below meth c hx hb hr hml hown hts hlocks hB ls hl
  obtain ⟨hsz, hP, hK, hE⟩ := hB
  subst hsz
  have hS : va_S (AX 6 b z.heap.size) z.heap z.heap [] := va_S.rf
  have hl : lv_has ls 1 [(0, .ref (b 0))] := hl
  refine lv_aload_n hx hb dX7_pivot_0 rfl (lv_at hl 0 rfl) ?_
  refine lv_iconst (v := 0) hx hb dX7_pivot_1 (by decide) ?_
  refine g_put hx hb hts hown inA7 tyX7 tyX7_ok nmX7 hK hP hE hS 0 (by decide) rfl rfl 8 (by decide) tw768 rfl rfl (ty := .int) (by decide +kernel) rfl rfl (Nat.le_of_ble_eq_true rfl) dX7_pivot_2 (ex' := emC cI b (mdl s kp hf (upd sc 3 0) ad bf)) rfl mm_sc (fun H locs hP hS => ?_)
  refine lv_aload_n hx hb dX7_pivot_5 rfl (lv_at hl 0 rfl) ?_
  refine rw_i hS (va_runV (As := []) (rest := []) ⟨hx, hb, hml, hown, hts⟩ (m_X7_matters l D cI cS b s kp hf (upd sc 3 0) ad bf T hBd (by omega) _) (cwV 0 hts (gV tw998 tw995 tw997 ts48 tw8) rfl rfl rfl (by decide +kernel) ⟨Nat.le_of_ble_eq_true rfl, Nat.le_of_ble_eq_true rfl⟩) (pvW 0 hK hP hE (by decide) rfl rfl) rfl rfl hl.1 rfl (lv_room (Nat.le_of_ble_eq_true rfl)) dX7_pivot_6 ⟨Nat.le_of_ble_eq_true rfl, Nat.le_of_ble_eq_true rfl⟩) (fun r2 u3 H locs hr1 hP hS => ?_)
  subst hr1
  exact rw_ir hx hb hr rfl hlocks hS () hP rfl dX7_pivot_9

set_option maxHeartbeats 4000000 in
set_option maxRecDepth 100000 in
theorem m_X7_heldShare (l : Launch) (D : va_G) (cI cS : ClassId) (b : Nat → Nat) (s kp : St) (hf : Nat → St) (sc ad bf : Nat → Int32) (T : Int) (hBd : Bd T s) (hT : T ≤ 100000000) (zz : Nat) : Met l yX7_heldShare (.code yX7_heldShare cX7_heldShare 1 (some .double) :: wsA) ({ frames := 1, cells := 0, slots := 0, locals := 20 } : Room) (va_Pc [.ref (b 0)] (PW D cI cS 6 b (emC cI b (mdl s kp hf sc ad bf)) zz)) (va_Qd (fun (r : UInt64) (u : Unit) => r = shareD s) (BW D 6 b (fun u => emC cI b (mdl s kp hf (upd sc 3 0) ad bf))) (AX 6 b zz)) 0 0 (AX 6 b zz) := by
  refine mgo (by decide) (Nat.le_of_ble_eq_true rfl) ?_
  intro p e z m below meth c hx hb hr hml hown hts hlocks hB ls hl
  obtain ⟨hsz, hP, hK, hE⟩ := hB
  subst hsz
  have hS : va_S (AX 6 b z.heap.size) z.heap z.heap [] := va_S.rf
  have hl : lv_has ls 1 [(0, .ref (b 0))] := hl
  refine lv_aload_n hx hb dX7_heldShare_0 rfl (lv_at hl 0 rfl) ?_
  refine lv_iconst (v := 0) hx hb dX7_heldShare_1 (by decide) ?_
  refine g_put hx hb hts hown inA7 tyX7 tyX7_ok nmX7 hK hP hE hS 0 (by decide) rfl rfl 8 (by decide) tw768 rfl rfl (ty := .int) (by decide +kernel) rfl rfl (Nat.le_of_ble_eq_true rfl) dX7_heldShare_2 (ex' := emC cI b (mdl s kp hf (upd sc 3 0) ad bf)) rfl mm_sc (fun H locs hP hS => ?_)
  refine lv_aload_n hx hb dX7_heldShare_5 rfl (lv_at hl 0 rfl) ?_
  refine ro_d (va_runV (As := []) (rest := []) ⟨hx, hb, hml, hown, hts⟩ (m_X7_share l D cI cS b s kp hf (upd sc 3 0) ad bf T hBd (by omega)) (cwV 0 hts (gV tw1038 tw1035 tw1037 ts54 tw8) rfl rfl rfl (by decide +kernel) ⟨Nat.le_of_ble_eq_true rfl, Nat.le_of_ble_eq_true rfl⟩) (pvR 0 hK hP (by decide) rfl rfl) rfl rfl hl.1 rfl (lv_room (Nat.le_of_ble_eq_true rfl)) dX7_heldShare_6 ⟨Nat.le_of_ble_eq_true rfl, Nat.le_of_ble_eq_true rfl⟩) (fun r2 hr1 => ?_)
  subst hr1
  exact rw_dr hx hb hr hlocks hS () hP rfl dX7_heldShare_9

set_option maxHeartbeats 4000000 in
set_option maxRecDepth 100000 in
theorem m_X7_meanError (l : Launch) (D : va_G) (cI cS : ClassId) (b : Nat → Nat) (s kp : St) (hf : Nat → St) (sc ad bf : Nat → Int32) (T : Int) (hBd : Bd T s) (hT : T ≤ 100000000) (zz : Nat) : Met l yX7_meanError (.code yX7_meanError cX7_meanError 1 (some .float) :: wsA) ({ frames := 3, cells := 0, slots := 0, locals := 68 } : Room) (va_Pc [.ref (b 0)] (PW D cI cS 6 b (emC cI b (mdl s kp hf sc ad bf)) zz)) (va_Qf (fun (r : UInt32) (u : Unit) => r = meanF s) (BW D 6 b (fun u => emC cI b (mdl s kp hf (upd sc 3 0) ad bf))) (AX 6 b zz)) 0 0 (AX 6 b zz) := by
  refine mgo (by decide) (Nat.le_of_ble_eq_true rfl) ?_
  intro p e z m below meth c hx hb hr hml hown hts hlocks hB ls hl
  obtain ⟨hsz, hP, hK, hE⟩ := hB
  subst hsz
  have hS : va_S (AX 6 b z.heap.size) z.heap z.heap [] := va_S.rf
  have hl : lv_has ls 1 [(0, .ref (b 0))] := hl
  refine lv_aload_n hx hb dX7_meanError_0 rfl (lv_at hl 0 rfl) ?_
  refine lv_iconst (v := 0) hx hb dX7_meanError_1 (by decide) ?_
  refine g_put hx hb hts hown inA7 tyX7 tyX7_ok nmX7 hK hP hE hS 0 (by decide) rfl rfl 8 (by decide) tw768 rfl rfl (ty := .int) (by decide +kernel) rfl rfl (Nat.le_of_ble_eq_true rfl) dX7_meanError_2 (ex' := emC cI b (mdl s kp hf (upd sc 3 0) ad bf)) rfl mm_sc (fun H locs hP hS => ?_)
  refine lv_aload_n hx hb dX7_meanError_5 rfl (lv_at hl 0 rfl) ?_
  refine ro_f (va_runV (As := []) (rest := []) ⟨hx, hb, hml, hown, hts⟩ (m_X7_mean l D cI cS b s kp hf (upd sc 3 0) ad bf T hBd (by omega)) (cwV 0 hts (gV tw1046 tw1043 tw1045 ts55 tw8) rfl rfl rfl (by decide +kernel) ⟨Nat.le_of_ble_eq_true rfl, Nat.le_of_ble_eq_true rfl⟩) (pvR 0 hK hP (by decide) rfl rfl) rfl rfl hl.1 rfl (lv_room (Nat.le_of_ble_eq_true rfl)) dX7_meanError_6 ⟨Nat.le_of_ble_eq_true rfl, Nat.le_of_ble_eq_true rfl⟩) (fun r2 hr1 => ?_)
  subst hr1
  exact rw_fr hx hb hr hlocks hS () hP rfl dX7_meanError_9

set_option maxHeartbeats 4000000 in
set_option maxRecDepth 100000 in
theorem m_X7_thrown (l : Launch) (D : va_G) (cI cS : ClassId) (b : Nat → Nat) (s kp : St) (hf : Nat → St) (sc ad bf : Nat → Int32) : Met l yX7_thrown (.code yX7_thrown cX7_thrown 1 (some .int) :: wsA) ({ frames := 0, cells := 0, slots := 0, locals := 0 } : Room) (va_Pc [.ref (b 0)] (PR D cI cS 6 b (emC cI b (mdl s kp hf sc ad bf)))) (vp_Si (fun r => r = sc 3)) 0 0 (fun _ => False) := by
  refine mgo (by decide) (Nat.le_of_ble_eq_true rfl) ?_
  intro p e z m below meth c hx hb hr hml hown hts hlocks hB ls hl
  obtain ⟨hP, hK⟩ := hB
  have hl : lv_has ls 1 [(0, .ref (b 0))] := hl
  refine lv_aload_n hx hb dX7_thrown_0 rfl (lv_at hl 0 rfl) ?_
  refine g_get hx hb hts hown inA7 hK hP 0 (by decide) rfl rfl 8 (by decide) tw768 rfl (v := .int (sc 3)) rfl dX7_thrown_1 ?_
  exact ro_ir hx hb hr rfl hlocks rfl dX7_thrown_4
