theorem wit_n {n lo hi : Nat} (h1 : lo ≤ n) (h2 : n ≤ hi) (h : hi < 2 ^ 31) : witB (nI n) (nI lo) (nI hi) := ⟨(nI_leI (by omega) (by omega)).mpr h1, (nI_leI (by omega) (by omega)).mpr h2⟩
section RWD
variable {p : Program} {l : Launch} {e : Env} {R : Room} {s : State} {m : MethodId} {args : Array Value} {below : List Frame} {meth : Method} {c : Code} {H : Heap} {locs : List Loc} {cells slots : Nat}
variable {pc : Nat} {ls : Array Slot} {cc : ByteArray} {D : va_G} {nn : Nat} {a : Nat → Nat}
theorem rw_dr {S : Type} {post : UInt64 → S → Prop} {e' : S → Nat → va_E} {v : UInt64} (hx : p.tables.exec = Jvm.exec) (hb : c.code = cc) (hr : meth.sig.returnType = some .double) (hlocks : meth.locks = false) (hS : va_S (AX nn a s.heap.size) s.heap H locs) (u : S) (hP : HP D nn a (e' u) H) (hp : post v u) (hdg : decode cc pc = .ok (.dreturn, 1)) : W p l e R s m args below meth c H locs cells slots (MQ below (va_Qd post (BW D nn a e') (AX nn a s.heap.size)) args s cells slots (AX nn a s.heap.size)) (F0 m pc ls [.double v]) :=
  W.dret hx hb hr (fun t ht _ => ⟨⟨v, u, rfl, hp, by show HP _ _ _ _ t.heap; rw [ht]; exact hP⟩, hS.F ht⟩) hS.2.2 hdg hlocks
theorem rw_fr {S : Type} {post : UInt32 → S → Prop} {e' : S → Nat → va_E} {v : UInt32} (hx : p.tables.exec = Jvm.exec) (hb : c.code = cc) (hr : meth.sig.returnType = some .float) (hlocks : meth.locks = false) (hS : va_S (AX nn a s.heap.size) s.heap H locs) (u : S) (hP : HP D nn a (e' u) H) (hp : post v u) (hdg : decode cc pc = .ok (.freturn, 1)) : W p l e R s m args below meth c H locs cells slots (MQ below (va_Qf post (BW D nn a e') (AX nn a s.heap.size)) args s cells slots (AX nn a s.heap.size)) (F0 m pc ls [.float v]) :=
  W.fret hx hb hr (fun t ht _ => ⟨⟨v, u, rfl, hp, by show HP _ _ _ _ t.heap; rw [ht]; exact hP⟩, hS.F ht⟩) hS.2.2 hdg hlocks
end RWD
set_option maxHeartbeats 4000000 in
set_option maxRecDepth 100000 in
theorem m_X7_tick (l : Launch) (D : va_G) (cI cS : ClassId) (b : Nat → Nat) (s kp : St) (hf : Nat → St) (sc ad bf : Nat → Int32) (T : Int) (hBd : Bd T s) (hT : T ≤ 400000000) (kn : Nat) (hkn : kn ≤ 6) (hk0 : sc 0 = nI kn) (n : Nat) (hn : 1 ≤ n ∧ n ≤ 99) (zz : Nat) : Met l yX7_tick (.code yX7_tick cX7_tick 2 (some .int) :: wsA) ({ frames := 3, cells := 0, slots := 0, locals := 71 } : Room) (va_Pc [.ref (b 0), .int (nI n)] (PW D cI cS 6 b (emC cI b (mdl s kp hf sc ad bf)) zz)) (va_Qi (fun (r : Int32) (u : Unit) => r = ticksA n s) (BW D 6 b (fun u => emC cI b (mdl (ticksS n s) kp (svH hf kn s) (upd (upd sc 3 0) 0 (nI (svK kn))) ad bf))) (AX 6 b zz)) 0 0 (AX 6 b zz) := by
  refine mgo (by decide) (Nat.le_of_ble_eq_true rfl) ?_
  intro p e z m below meth c hx hb hr hml hown hts hlocks hB ls hl
  obtain ⟨hsz, hP, hK, hE⟩ := hB
  subst hsz
  have hS : va_S (AX 6 b z.heap.size) z.heap z.heap [] := va_S.rf
  have hl : lv_has ls 2 [(0, .ref (b 0)), (1, .int (nI n))] := hl
  have hin : witB (nI n) 1 99 := wit_n (lo := 1) (hi := 99) (by omega) (by omega) (by decide)
  refine lv_aload_n hx hb dX7_tick_0 rfl (lv_at hl 0 rfl) ?_
  refine lv_iconst (v := 0) hx hb dX7_tick_1 (by decide) ?_
  refine g_put hx hb hts hown inA7 tyX7 tyX7_ok nmX7 hK hP hE hS 0 (by decide) rfl rfl 8 (by decide) tw768 rfl rfl (ty := .int) (by decide +kernel) rfl rfl (Nat.le_of_ble_eq_true rfl) dX7_tick_2 (ex' := emC cI b (mdl s kp hf (upd sc 3 0) ad bf)) rfl mm_sc (fun H locs hP hS => ?_)
  refine lv_iload_n hx hb dX7_tick_5 rfl (lv_at hl 1 rfl) ?_
  refine lv_iconst (v := 1) hx hb dX7_tick_6 (by decide) ?_
  refine lv_bipush (v := 99) hx hb dX7_tick_7 (by decide) ?_
  refine ro_i (va_runS (As := [.int (nI n), .int 1, .int 99]) (rest := []) ⟨hx, hb, hml, hown, hts⟩ (m_X7_in l (nI n) 1 99) (va_cwS 3 hts (gS tw804 tw802 tw803 tw8) rfl rfl rfl (by decide +kernel) ⟨Nat.le_of_ble_eq_true rfl, Nat.le_of_ble_eq_true rfl⟩) ps0 rfl rfl hl.1 rfl (lv_room (Nat.le_of_ble_eq_true rfl)) dX7_tick_9 ⟨Nat.le_of_ble_eq_true rfl, Nat.le_of_ble_eq_true rfl⟩) (fun r2 hr1 => ?_)
  subst hr1
  refine lv_bI (fun c4 => ?_) (fun c4 => ?_)
  · skip
    refine lv_if_ne (tgt := 21) hx hb dX7_tick_12 (by decide) (fun _ => ?_) (fun h0 => absurd h0 (by decide))
    refine lv_aload_n hx hb dX7_tick_21 rfl (lv_at hl 0 rfl) ?_
    refine rw_v hS (va_runV (As := []) (rest := []) ⟨hx, hb, hml, hown, hts⟩ (m_X7_save l D cI cS b (mdl s kp hf (upd sc 3 0) ad bf) kn (by omega) hk0 _) (cwV 0 hts (gV tw812 tw809 tw811 ts23 tw8) rfl rfl rfl (by decide +kernel) ⟨Nat.le_of_ble_eq_true rfl, Nat.le_of_ble_eq_true rfl⟩) (pvW 0 hK hP hE (by decide) rfl rfl) rfl rfl hl.1 rfl (lv_room (Nat.le_of_ble_eq_true rfl)) dX7_tick_22 ⟨Nat.le_of_ble_eq_true rfl, Nat.le_of_ble_eq_true rfl⟩) (fun u7 H locs hr5 hP hS => ?_)
    have hP : HP D 6 b (emC cI b (mdl s kp (svH hf kn s) (upd (upd sc 3 0) 0 (nI (svK kn))) ad bf)) H := svM_cv (by omega) hP
    refine lv_aload_n hx hb dX7_tick_25 rfl (lv_at hl 0 rfl) ?_
    refine lv_iload_n hx hb dX7_tick_26 rfl (lv_at hl 1 rfl) ?_
    refine rw_i hS (va_runV (As := [.int (nI n)]) (rest := []) ⟨hx, hb, hml, hown, hts⟩ (m_X7_ticks l D cI cS b s kp (svH hf kn s) (upd (upd sc 3 0) 0 (nI (svK kn))) ad bf T hBd (by omega) n (by omega) _) (cwV 1 hts (gV tw816 tw813 tw815 ts24 tw8) rfl rfl rfl (by decide +kernel) ⟨Nat.le_of_ble_eq_true rfl, Nat.le_of_ble_eq_true rfl⟩) (pvW 0 hK hP hE (by decide) rfl rfl) rfl rfl hl.1 rfl (lv_room (Nat.le_of_ble_eq_true rfl)) dX7_tick_27 ⟨Nat.le_of_ble_eq_true rfl, Nat.le_of_ble_eq_true rfl⟩) (fun r9 u10 H locs hr8 hP hS => ?_)
    subst hr8
    exact rw_ir hx hb hr rfl hlocks hS () hP rfl dX7_tick_30
  · skip
    exact absurd hin c4

set_option maxHeartbeats 4000000 in
set_option maxRecDepth 100000 in
theorem mx_X7_tick (l : Launch) (D : va_G) (cI cS : ClassId) (b : Nat → Nat) (s kp : St) (hf : Nat → St) (sc ad bf : Nat → Int32) (x : Int32) (hx9 : ¬ witB x 1 99) (zz : Nat) : Met l yX7_tick (.code yX7_tick cX7_tick 2 (some .int) :: wsA) ({ frames := 1, cells := 0, slots := 0, locals := 22 } : Room) (va_Pc [.ref (b 0), .int x] (PW D cI cS 6 b (emC cI b (mdl s kp hf sc ad bf)) zz)) (va_Qi (fun (r : Int32) (u : Unit) => r = 0) (BW D 6 b (fun u => emC cI b (mdl s kp hf (upd (upd sc 3 0) 3 1) ad bf))) (AX 6 b zz)) 0 0 (AX 6 b zz) := by
  refine mgo (by decide) (Nat.le_of_ble_eq_true rfl) ?_
  intro p e z m below meth c hx hb hr hml hown hts hlocks hB ls hl
  obtain ⟨hsz, hP, hK, hE⟩ := hB
  subst hsz
  have hS : va_S (AX 6 b z.heap.size) z.heap z.heap [] := va_S.rf
  have hl : lv_has ls 2 [(0, .ref (b 0)), (1, .int x)] := hl
  refine lv_aload_n hx hb dX7_tick_0 rfl (lv_at hl 0 rfl) ?_
  refine lv_iconst (v := 0) hx hb dX7_tick_1 (by decide) ?_
  refine g_put hx hb hts hown inA7 tyX7 tyX7_ok nmX7 hK hP hE hS 0 (by decide) rfl rfl 8 (by decide) tw768 rfl rfl (ty := .int) (by decide +kernel) rfl rfl (Nat.le_of_ble_eq_true rfl) dX7_tick_2 (ex' := emC cI b (mdl s kp hf (upd sc 3 0) ad bf)) rfl mm_sc (fun H locs hP hS => ?_)
  refine lv_iload_n hx hb dX7_tick_5 rfl (lv_at hl 1 rfl) ?_
  refine lv_iconst (v := 1) hx hb dX7_tick_6 (by decide) ?_
  refine lv_bipush (v := 99) hx hb dX7_tick_7 (by decide) ?_
  refine ro_i (va_runS (As := [.int x, .int 1, .int 99]) (rest := []) ⟨hx, hb, hml, hown, hts⟩ (m_X7_in l x 1 99) (va_cwS 3 hts (gS tw804 tw802 tw803 tw8) rfl rfl rfl (by decide +kernel) ⟨Nat.le_of_ble_eq_true rfl, Nat.le_of_ble_eq_true rfl⟩) ps0 rfl rfl hl.1 rfl (lv_room (Nat.le_of_ble_eq_true rfl)) dX7_tick_9 ⟨Nat.le_of_ble_eq_true rfl, Nat.le_of_ble_eq_true rfl⟩) (fun r2 hr1 => ?_)
  subst hr1
  refine lv_bI (fun c4 => ?_) (fun c4 => ?_)
  · skip
    exact absurd c4 hx9
  · skip
    refine lv_if_ne (tgt := 21) hx hb dX7_tick_12 (by decide) (fun h0 => absurd (by decide) h0) (fun _ => ?_)
    refine lv_aload_n hx hb dX7_tick_15 rfl (lv_at hl 0 rfl) ?_
    refine lv_iconst (v := 1) hx hb dX7_tick_16 (by decide) ?_
    refine rw_i hS (va_runV (As := [.int 1]) (rest := []) ⟨hx, hb, hml, hown, hts⟩ (m_X7_throwing l D cI cS b s kp hf (upd sc 3 0) ad bf 1 _) (cwV 1 hts (gV tw808 tw805 tw807 ts22 tw8) rfl rfl rfl (by decide +kernel) ⟨Nat.le_of_ble_eq_true rfl, Nat.le_of_ble_eq_true rfl⟩) (pvW 0 hK hP hE (by decide) rfl rfl) rfl rfl hl.1 rfl (lv_room (Nat.le_of_ble_eq_true rfl)) dX7_tick_17 ⟨Nat.le_of_ble_eq_true rfl, Nat.le_of_ble_eq_true rfl⟩) (fun r6 u7 H locs hr5 hP hS => ?_)
    subst hr5
    exact rw_ir hx hb hr rfl hlocks hS () hP rfl dX7_tick_20

set_option maxHeartbeats 4000000 in
set_option maxRecDepth 100000 in
theorem m_X7_vote (l : Launch) (D : va_G) (cI cS : ClassId) (b : Nat → Nat) (s kp : St) (hf : Nat → St) (sc ad bf : Nat → Int32) (T : Int) (hBd : Bd T s) (hT : T ≤ 400000000) (kn : Nat) (hkn : kn ≤ 6) (hk0 : sc 0 = nI kn) (hw0 : ¬ sumN (s 7) 7 = 0) (zz : Nat) : Met l yX7_vote (.code yX7_vote cX7_vote 1 (some .int) :: wsA) ({ frames := 3, cells := 0, slots := 0, locals := 70 } : Room) (va_Pc [.ref (b 0)] (PW D cI cS 6 b (emC cI b (mdl s kp hf sc ad bf)) zz)) (va_Qi (fun (r : Int32) (u : Unit) => r = voteS s 0 1) (BW D 6 b (fun u => emC cI b (mdl (voteS s) kp (svH hf kn s) (upd (upd sc 3 0) 0 (nI (svK kn))) ad bf))) (AX 6 b zz)) 0 0 (AX 6 b zz) := by
  refine mgo (by decide) (Nat.le_of_ble_eq_true rfl) ?_
  intro p e z m below meth c hx hb hr hml hown hts hlocks hB ls hl
  obtain ⟨hsz, hP, hK, hE⟩ := hB
  subst hsz
  have hS : va_S (AX 6 b z.heap.size) z.heap z.heap [] := va_S.rf
  have hl : lv_has ls 1 [(0, .ref (b 0))] := hl
  refine lv_aload_n hx hb dX7_vote_0 rfl (lv_at hl 0 rfl) ?_
  refine lv_iconst (v := 0) hx hb dX7_vote_1 (by decide) ?_
  refine g_put hx hb hts hown inA7 tyX7 tyX7_ok nmX7 hK hP hE hS 0 (by decide) rfl rfl 8 (by decide) tw768 rfl rfl (ty := .int) (by decide +kernel) rfl rfl (Nat.le_of_ble_eq_true rfl) dX7_vote_2 (ex' := emC cI b (mdl s kp hf (upd sc 3 0) ad bf)) rfl mm_sc (fun H locs hP hS => ?_)
  refine lv_aload_n hx hb dX7_vote_5 rfl (lv_at hl 0 rfl) ?_
  refine ro_i (va_runV (As := []) (rest := []) ⟨hx, hb, hml, hown, hts⟩ (m_X7_weights l D cI cS b s kp hf (upd sc 3 0) ad bf) (cwV 0 hts (gV tw833 tw830 tw832 ts27 tw8) rfl rfl rfl (by decide +kernel) ⟨Nat.le_of_ble_eq_true rfl, Nat.le_of_ble_eq_true rfl⟩) (pvR 0 hK hP (by decide) rfl rfl) rfl rfl hl.1 rfl (lv_room (Nat.le_of_ble_eq_true rfl)) dX7_vote_6 ⟨Nat.le_of_ble_eq_true rfl, Nat.le_of_ble_eq_true rfl⟩) (fun r2 hr1 => ?_)
  subst hr1
  refine lv_if_ne (tgt := 18) hx hb dX7_vote_9 (by decide) (fun _ => ?_) (fun h0 => absurd h0 hw0)
  refine lv_aload_n hx hb dX7_vote_18 rfl (lv_at hl 0 rfl) ?_
  refine rw_v hS (va_runV (As := []) (rest := []) ⟨hx, hb, hml, hown, hts⟩ (m_X7_save l D cI cS b (mdl s kp hf (upd sc 3 0) ad bf) kn (by omega) hk0 _) (cwV 0 hts (gV tw812 tw809 tw811 ts23 tw8) rfl rfl rfl (by decide +kernel) ⟨Nat.le_of_ble_eq_true rfl, Nat.le_of_ble_eq_true rfl⟩) (pvW 0 hK hP hE (by decide) rfl rfl) rfl rfl hl.1 rfl (lv_room (Nat.le_of_ble_eq_true rfl)) dX7_vote_19 ⟨Nat.le_of_ble_eq_true rfl, Nat.le_of_ble_eq_true rfl⟩) (fun u6 H locs hr4 hP hS => ?_)
  have hP : HP D 6 b (emC cI b (mdl s kp (svH hf kn s) (upd (upd sc 3 0) 0 (nI (svK kn))) ad bf)) H := svM_cv (by omega) hP
  refine lv_aload_n hx hb dX7_vote_22 rfl (lv_at hl 0 rfl) ?_
  refine rw_i hS (va_runV (As := []) (rest := []) ⟨hx, hb, hml, hown, hts⟩ (m_X7_votes l D cI cS b s kp (svH hf kn s) (upd (upd sc 3 0) 0 (nI (svK kn))) ad bf T hBd (by omega) _) (cwV 0 hts (gV tw837 tw834 tw836 ts28 tw8) rfl rfl rfl (by decide +kernel) ⟨Nat.le_of_ble_eq_true rfl, Nat.le_of_ble_eq_true rfl⟩) (pvW 0 hK hP hE (by decide) rfl rfl) rfl rfl hl.1 rfl (lv_room (Nat.le_of_ble_eq_true rfl)) dX7_vote_23 ⟨Nat.le_of_ble_eq_true rfl, Nat.le_of_ble_eq_true rfl⟩) (fun r8 u9 H locs hr7 hP hS => ?_)
  exact rw_ir hx hb hr rfl hlocks hS () hP hr7 dX7_vote_26

set_option maxHeartbeats 4000000 in
set_option maxRecDepth 100000 in
theorem mx_X7_vote (l : Launch) (D : va_G) (cI cS : ClassId) (b : Nat → Nat) (s kp : St) (hf : Nat → St) (sc ad bf : Nat → Int32) (hw0 : sumN (s 7) 7 = 0) (zz : Nat) : Met l yX7_vote (.code yX7_vote cX7_vote 1 (some .int) :: wsA) ({ frames := 1, cells := 0, slots := 0, locals := 22 } : Room) (va_Pc [.ref (b 0)] (PW D cI cS 6 b (emC cI b (mdl s kp hf sc ad bf)) zz)) (va_Qi (fun (r : Int32) (u : Unit) => r = 0) (BW D 6 b (fun u => emC cI b (mdl s kp hf (upd (upd sc 3 0) 3 1) ad bf))) (AX 6 b zz)) 0 0 (AX 6 b zz) := by
  refine mgo (by decide) (Nat.le_of_ble_eq_true rfl) ?_
  intro p e z m below meth c hx hb hr hml hown hts hlocks hB ls hl
  obtain ⟨hsz, hP, hK, hE⟩ := hB
  subst hsz
  have hS : va_S (AX 6 b z.heap.size) z.heap z.heap [] := va_S.rf
  have hl : lv_has ls 1 [(0, .ref (b 0))] := hl
  refine lv_aload_n hx hb dX7_vote_0 rfl (lv_at hl 0 rfl) ?_
  refine lv_iconst (v := 0) hx hb dX7_vote_1 (by decide) ?_
  refine g_put hx hb hts hown inA7 tyX7 tyX7_ok nmX7 hK hP hE hS 0 (by decide) rfl rfl 8 (by decide) tw768 rfl rfl (ty := .int) (by decide +kernel) rfl rfl (Nat.le_of_ble_eq_true rfl) dX7_vote_2 (ex' := emC cI b (mdl s kp hf (upd sc 3 0) ad bf)) rfl mm_sc (fun H locs hP hS => ?_)
  refine lv_aload_n hx hb dX7_vote_5 rfl (lv_at hl 0 rfl) ?_
  refine ro_i (va_runV (As := []) (rest := []) ⟨hx, hb, hml, hown, hts⟩ (m_X7_weights l D cI cS b s kp hf (upd sc 3 0) ad bf) (cwV 0 hts (gV tw833 tw830 tw832 ts27 tw8) rfl rfl rfl (by decide +kernel) ⟨Nat.le_of_ble_eq_true rfl, Nat.le_of_ble_eq_true rfl⟩) (pvR 0 hK hP (by decide) rfl rfl) rfl rfl hl.1 rfl (lv_room (Nat.le_of_ble_eq_true rfl)) dX7_vote_6 ⟨Nat.le_of_ble_eq_true rfl, Nat.le_of_ble_eq_true rfl⟩) (fun r2 hr1 => ?_)
  subst hr1
  refine lv_if_ne (tgt := 18) hx hb dX7_vote_9 (by decide) (fun h0 => absurd h0 (fun h => h hw0)) (fun _ => ?_)
  refine lv_aload_n hx hb dX7_vote_12 rfl (lv_at hl 0 rfl) ?_
  refine lv_iconst (v := 1) hx hb dX7_vote_13 (by decide) ?_
  refine rw_i hS (va_runV (As := [.int 1]) (rest := []) ⟨hx, hb, hml, hown, hts⟩ (m_X7_throwing l D cI cS b s kp hf (upd sc 3 0) ad bf 1 _) (cwV 1 hts (gV tw808 tw805 tw807 ts22 tw8) rfl rfl rfl (by decide +kernel) ⟨Nat.le_of_ble_eq_true rfl, Nat.le_of_ble_eq_true rfl⟩) (pvW 0 hK hP hE (by decide) rfl rfl) rfl rfl hl.1 rfl (lv_room (Nat.le_of_ble_eq_true rfl)) dX7_vote_14 ⟨Nat.le_of_ble_eq_true rfl, Nat.le_of_ble_eq_true rfl⟩) (fun r5 u6 H locs hr4 hP hS => ?_)
  subst hr4
  exact rw_ir hx hb hr rfl hlocks hS () hP rfl dX7_vote_17

set_option maxHeartbeats 4000000 in
set_option maxRecDepth 100000 in
theorem m_X7_correct (l : Launch) (D : va_G) (cI cS : ClassId) (b : Nat → Nat) (s kp : St) (hf : Nat → St) (sc ad bf : Nat → Int32) (T : Int) (hBd : Bd T s) (hT : T ≤ 400000000) (kn : Nat) (hkn : kn ≤ 6) (hk0 : sc 0 = nI kn) (zz : Nat) : Met l yX7_correct (.code yX7_correct cX7_correct 1 (some .int) :: wsA) ({ frames := 3, cells := 0, slots := 0, locals := 71 } : Room) (va_Pc [.ref (b 0)] (PW D cI cS 6 b (emC cI b (mdl s kp hf sc ad bf)) zz)) (va_Qi (fun (r : Int32) (u : Unit) => r = corA 7 s) (BW D 6 b (fun u => emC cI b (mdl (corS 7 s) kp (svH hf kn s) (upd (upd sc 3 0) 0 (nI (svK kn))) ad bf))) (AX 6 b zz)) 0 0 (AX 6 b zz) := by
  refine mgo (by decide) (Nat.le_of_ble_eq_true rfl) ?_
  intro p e z m below meth c hx hb hr hml hown hts hlocks hB ls hl
  obtain ⟨hsz, hP, hK, hE⟩ := hB
  subst hsz
  have hS : va_S (AX 6 b z.heap.size) z.heap z.heap [] := va_S.rf
  have hl : lv_has ls 1 [(0, .ref (b 0))] := hl
  refine lv_aload_n hx hb dX7_correct_0 rfl (lv_at hl 0 rfl) ?_
  refine lv_iconst (v := 0) hx hb dX7_correct_1 (by decide) ?_
  refine g_put hx hb hts hown inA7 tyX7 tyX7_ok nmX7 hK hP hE hS 0 (by decide) rfl rfl 8 (by decide) tw768 rfl rfl (ty := .int) (by decide +kernel) rfl rfl (Nat.le_of_ble_eq_true rfl) dX7_correct_2 (ex' := emC cI b (mdl s kp hf (upd sc 3 0) ad bf)) rfl mm_sc (fun H locs hP hS => ?_)
  refine lv_aload_n hx hb dX7_correct_5 rfl (lv_at hl 0 rfl) ?_
  refine rw_v hS (va_runV (As := []) (rest := []) ⟨hx, hb, hml, hown, hts⟩ (m_X7_save l D cI cS b (mdl s kp hf (upd sc 3 0) ad bf) kn (by omega) hk0 _) (cwV 0 hts (gV tw812 tw809 tw811 ts23 tw8) rfl rfl rfl (by decide +kernel) ⟨Nat.le_of_ble_eq_true rfl, Nat.le_of_ble_eq_true rfl⟩) (pvW 0 hK hP hE (by decide) rfl rfl) rfl rfl hl.1 rfl (lv_room (Nat.le_of_ble_eq_true rfl)) dX7_correct_6 ⟨Nat.le_of_ble_eq_true rfl, Nat.le_of_ble_eq_true rfl⟩) (fun u3 H locs hr1 hP hS => ?_)
  have hP : HP D 6 b (emC cI b (mdl s kp (svH hf kn s) (upd (upd sc 3 0) 0 (nI (svK kn))) ad bf)) H := svM_cv (by omega) hP
  refine lv_aload_n hx hb dX7_correct_9 rfl (lv_at hl 0 rfl) ?_
  refine rw_i hS (va_runV (As := []) (rest := []) ⟨hx, hb, hml, hown, hts⟩ (m_X7_corrects l D cI cS b s kp (svH hf kn s) (upd (upd sc 3 0) 0 (nI (svK kn))) ad bf T hBd (by omega) _) (cwV 0 hts (gV tw867 tw864 tw866 ts33 tw8) rfl rfl rfl (by decide +kernel) ⟨Nat.le_of_ble_eq_true rfl, Nat.le_of_ble_eq_true rfl⟩) (pvW 0 hK hP hE (by decide) rfl rfl) rfl rfl hl.1 rfl (lv_room (Nat.le_of_ble_eq_true rfl)) dX7_correct_10 ⟨Nat.le_of_ble_eq_true rfl, Nat.le_of_ble_eq_true rfl⟩) (fun r5 u6 H locs hr4 hP hS => ?_)
  exact rw_ir hx hb hr rfl hlocks hS () hP hr4 dX7_correct_13

set_option maxHeartbeats 4000000 in
set_option maxRecDepth 100000 in
theorem m_X7_put (l : Launch) (D : va_G) (cI cS : ClassId) (b : Nat → Nat) (s kp : St) (hf : Nat → St) (sc ad bf : Nat → Int32) (T : Int) (hBd : Bd T s) (hT : T ≤ 400000000) (kn : Nat) (hkn : kn ≤ 6) (hk0 : sc 0 = nI kn) (d : Nat) (hd : d < 7) (y : Int32) (hy9 : witB y 0 99999) (zz : Nat) : Met l yX7_put (.code yX7_put cX7_put 4 (some .int) :: wsA) ({ frames := 2, cells := 0, slots := 0, locals := 48 } : Room) (va_Pc [.ref (b 0), .int (nI d), .int y] (PW D cI cS 6 b (emC cI b (mdl s kp hf sc ad bf)) zz)) (va_Qi (fun (r : Int32) (u : Unit) => r = s 1 d) (BW D 6 b (fun u => emC cI b (mdl (mvS s d y) kp (svH hf kn s) (upd (upd sc 3 0) 0 (nI (svK kn))) ad bf))) (AX 6 b zz)) 0 0 (AX 6 b zz) := by
  refine mgo (by decide) (Nat.le_of_ble_eq_true rfl) ?_
  intro p e z m below meth c hx hb hr hml hown hts hlocks hB ls hl
  obtain ⟨hsz, hP, hK, hE⟩ := hB
  subst hsz
  have hS : va_S (AX 6 b z.heap.size) z.heap z.heap [] := va_S.rf
  have hl : lv_has ls 4 [(0, .ref (b 0)), (1, .int (nI d)), (2, .int y)] := hl
  have hin : witB (nI d) 0 6 := wit_n (lo := 0) (hi := 6) (by omega) (by omega) (by decide)
  refine lv_aload_n hx hb dX7_put_0 rfl (lv_at hl 0 rfl) ?_
  refine lv_iconst (v := 0) hx hb dX7_put_1 (by decide) ?_
  refine g_put hx hb hts hown inA7 tyX7 tyX7_ok nmX7 hK hP hE hS 0 (by decide) rfl rfl 8 (by decide) tw768 rfl rfl (ty := .int) (by decide +kernel) rfl rfl (Nat.le_of_ble_eq_true rfl) dX7_put_2 (ex' := emC cI b (mdl s kp hf (upd sc 3 0) ad bf)) rfl mm_sc (fun H locs hP hS => ?_)
  refine lv_iload_n hx hb dX7_put_5 rfl (lv_at hl 1 rfl) ?_
  refine ro_i (va_runS (As := [.int (nI d)]) (rest := []) ⟨hx, hb, hml, hown, hts⟩ (m_X7_isDial l (nI d)) (va_cwS 1 hts (gS tw882 tw880 tw881 tw8) rfl rfl rfl (by decide +kernel) ⟨Nat.le_of_ble_eq_true rfl, Nat.le_of_ble_eq_true rfl⟩) ps0 rfl rfl hl.1 rfl (lv_room (Nat.le_of_ble_eq_true rfl)) dX7_put_6 ⟨Nat.le_of_ble_eq_true rfl, Nat.le_of_ble_eq_true rfl⟩) (fun r2 hr1 => ?_)
  subst hr1
  refine lv_bI (fun c4 => ?_) (fun c4 => ?_)
  · skip
    refine lv_if_ne (tgt := 18) hx hb dX7_put_9 (by decide) (fun _ => ?_) (fun h0 => absurd h0 (by decide))
    refine lv_iload_n hx hb dX7_put_18 rfl (lv_at hl 2 rfl) ?_
    refine lv_iconst (v := 0) hx hb dX7_put_19 (by decide) ?_
    refine lv_ldc hx hb hown (hts _ tw821) dX7_put_20 ?_
    refine ro_i (va_runS (As := [.int y, .int 0, .int 99999]) (rest := []) ⟨hx, hb, hml, hown, hts⟩ (m_X7_in l y 0 99999) (va_cwS 3 hts (gS tw804 tw802 tw803 tw8) rfl rfl rfl (by decide +kernel) ⟨Nat.le_of_ble_eq_true rfl, Nat.le_of_ble_eq_true rfl⟩) ps0 rfl rfl hl.1 rfl (lv_room (Nat.le_of_ble_eq_true rfl)) dX7_put_22 ⟨Nat.le_of_ble_eq_true rfl, Nat.le_of_ble_eq_true rfl⟩) (fun r6 hr5 => ?_)
    subst hr5
    refine lv_bI (fun c8 => ?_) (fun c8 => ?_)
    · skip
      refine lv_if_ne (tgt := 34) hx hb dX7_put_25 (by decide) (fun _ => ?_) (fun h0 => absurd h0 (by decide))
      refine lv_aload_n hx hb dX7_put_34 rfl (lv_at hl 0 rfl) ?_
      refine rw_v hS (va_runV (As := []) (rest := []) ⟨hx, hb, hml, hown, hts⟩ (m_X7_save l D cI cS b (mdl s kp hf (upd sc 3 0) ad bf) kn (by omega) hk0 _) (cwV 0 hts (gV tw812 tw809 tw811 ts23 tw8) rfl rfl rfl (by decide +kernel) ⟨Nat.le_of_ble_eq_true rfl, Nat.le_of_ble_eq_true rfl⟩) (pvW 0 hK hP hE (by decide) rfl rfl) rfl rfl hl.1 rfl (lv_room (Nat.le_of_ble_eq_true rfl)) dX7_put_35 ⟨Nat.le_of_ble_eq_true rfl, Nat.le_of_ble_eq_true rfl⟩) (fun u11 H locs hr9 hP hS => ?_)
      have hP : HP D 6 b (emC cI b (mdl s kp (svH hf kn s) (upd (upd sc 3 0) 0 (nI (svK kn))) ad bf)) H := svM_cv (by omega) hP
      refine lv_aload_n hx hb dX7_put_38 rfl (lv_at hl 0 rfl) ?_
      refine g_get hx hb hts hown inA7 hK hP 0 (by decide) rfl rfl 0 (by decide) tw760 rfl (v := .ref (b 1)) rfl dX7_put_39 ?_
      refine lv_bipush (v := 6) hx hb dX7_put_42 (by decide) ?_
      refine lv_iload_n hx hb dX7_put_44 rfl (lv_at hl 1 rfl) ?_
      refine lv_iadd hx hb dX7_put_45 ?_
      refine lv_as (y := nI (6 + d)) (nI_add2 (p := 6) (q := d) rfl rfl) ?_
      refine g_iald hx hb hK hP 1 (by decide) rfl (6 + d) rfl (by omega) (by decide) dX7_put_46 (v := s 1 d) ((fl_g1 (s := s) (d := d) (by omega)).trans rfl) ?_
      refine lv_istore_n (lv' := [(3, .int (s 1 d)), (0, .ref (b 0)), (1, .int (nI d)), (2, .int y)]) hx hb dX7_put_47 rfl hl (by decide) rfl (fun ls hl => ?_)
      refine lv_aload_n hx hb dX7_put_48 rfl (lv_at hl 1 rfl) ?_
      refine lv_iload_n hx hb dX7_put_49 rfl (lv_at hl 2 rfl) ?_
      refine lv_iload_n hx hb dX7_put_50 rfl (lv_at hl 3 rfl) ?_
      refine rw_v hS (va_runV (As := [.int (nI d), .int y]) (rest := []) ⟨hx, hb, hml, hown, hts⟩ (m_X7_moves l D cI cS b s kp (svH hf kn s) (upd (upd sc 3 0) 0 (nI (svK kn))) ad bf d (by omega) y _) (cwV 2 hts (gV tw875 tw872 tw874 ts35 tw8) rfl rfl rfl (by decide +kernel) ⟨Nat.le_of_ble_eq_true rfl, Nat.le_of_ble_eq_true rfl⟩) (pvW 0 hK hP hE (by decide) rfl rfl) rfl rfl hl.1 rfl (lv_room (Nat.le_of_ble_eq_true rfl)) dX7_put_51 ⟨Nat.le_of_ble_eq_true rfl, Nat.le_of_ble_eq_true rfl⟩) (fun u14 H locs hr12 hP hS => ?_)
      refine lv_iload_n hx hb dX7_put_54 rfl (lv_at hl 0 rfl) ?_
      exact rw_ir hx hb hr rfl hlocks hS () hP rfl dX7_put_55
    · skip
      exact absurd hy9 c8
  · skip
    exact absurd hin c4

set_option maxHeartbeats 4000000 in
set_option maxRecDepth 100000 in
theorem mx_X7_put (l : Launch) (D : va_G) (cI cS : ClassId) (b : Nat → Nat) (s kp : St) (hf : Nat → St) (sc ad bf : Nat → Int32) (x y : Int32) (hx9 : ¬ witB x 0 6) (zz : Nat) : Met l yX7_put (.code yX7_put cX7_put 4 (some .int) :: wsA) ({ frames := 2, cells := 0, slots := 0, locals := 42 } : Room) (va_Pc [.ref (b 0), .int x, .int y] (PW D cI cS 6 b (emC cI b (mdl s kp hf sc ad bf)) zz)) (va_Qi (fun (r : Int32) (u : Unit) => r = 0) (BW D 6 b (fun u => emC cI b (mdl s kp hf (upd (upd sc 3 0) 3 1) ad bf))) (AX 6 b zz)) 0 0 (AX 6 b zz) := by
  refine mgo (by decide) (Nat.le_of_ble_eq_true rfl) ?_
  intro p e z m below meth c hx hb hr hml hown hts hlocks hB ls hl
  obtain ⟨hsz, hP, hK, hE⟩ := hB
  subst hsz
  have hS : va_S (AX 6 b z.heap.size) z.heap z.heap [] := va_S.rf
  have hl : lv_has ls 4 [(0, .ref (b 0)), (1, .int x), (2, .int y)] := hl
  refine lv_aload_n hx hb dX7_put_0 rfl (lv_at hl 0 rfl) ?_
  refine lv_iconst (v := 0) hx hb dX7_put_1 (by decide) ?_
  refine g_put hx hb hts hown inA7 tyX7 tyX7_ok nmX7 hK hP hE hS 0 (by decide) rfl rfl 8 (by decide) tw768 rfl rfl (ty := .int) (by decide +kernel) rfl rfl (Nat.le_of_ble_eq_true rfl) dX7_put_2 (ex' := emC cI b (mdl s kp hf (upd sc 3 0) ad bf)) rfl mm_sc (fun H locs hP hS => ?_)
  refine lv_iload_n hx hb dX7_put_5 rfl (lv_at hl 1 rfl) ?_
  refine ro_i (va_runS (As := [.int x]) (rest := []) ⟨hx, hb, hml, hown, hts⟩ (m_X7_isDial l x) (va_cwS 1 hts (gS tw882 tw880 tw881 tw8) rfl rfl rfl (by decide +kernel) ⟨Nat.le_of_ble_eq_true rfl, Nat.le_of_ble_eq_true rfl⟩) ps0 rfl rfl hl.1 rfl (lv_room (Nat.le_of_ble_eq_true rfl)) dX7_put_6 ⟨Nat.le_of_ble_eq_true rfl, Nat.le_of_ble_eq_true rfl⟩) (fun r2 hr1 => ?_)
  subst hr1
  refine lv_bI (fun c4 => ?_) (fun c4 => ?_)
  · skip
    exact absurd c4 hx9
  · skip
    refine lv_if_ne (tgt := 18) hx hb dX7_put_9 (by decide) (fun h0 => absurd (by decide) h0) (fun _ => ?_)
    refine lv_aload_n hx hb dX7_put_12 rfl (lv_at hl 0 rfl) ?_
    refine lv_iconst (v := 1) hx hb dX7_put_13 (by decide) ?_
    refine rw_i hS (va_runV (As := [.int 1]) (rest := []) ⟨hx, hb, hml, hown, hts⟩ (m_X7_throwing l D cI cS b s kp hf (upd sc 3 0) ad bf 1 _) (cwV 1 hts (gV tw808 tw805 tw807 ts22 tw8) rfl rfl rfl (by decide +kernel) ⟨Nat.le_of_ble_eq_true rfl, Nat.le_of_ble_eq_true rfl⟩) (pvW 0 hK hP hE (by decide) rfl rfl) rfl rfl hl.1 rfl (lv_room (Nat.le_of_ble_eq_true rfl)) dX7_put_14 ⟨Nat.le_of_ble_eq_true rfl, Nat.le_of_ble_eq_true rfl⟩) (fun r6 u7 H locs hr5 hP hS => ?_)
    subst hr5
    exact rw_ir hx hb hr rfl hlocks hS () hP rfl dX7_put_17

set_option maxHeartbeats 4000000 in
set_option maxRecDepth 100000 in
theorem mx2_X7_put (l : Launch) (D : va_G) (cI cS : ClassId) (b : Nat → Nat) (s kp : St) (hf : Nat → St) (sc ad bf : Nat → Int32) (x y : Int32) (hx9 : witB x 0 6) (hy9 : ¬ witB y 0 99999) (zz : Nat) : Met l yX7_put (.code yX7_put cX7_put 4 (some .int) :: wsA) ({ frames := 2, cells := 0, slots := 0, locals := 42 } : Room) (va_Pc [.ref (b 0), .int x, .int y] (PW D cI cS 6 b (emC cI b (mdl s kp hf sc ad bf)) zz)) (va_Qi (fun (r : Int32) (u : Unit) => r = 0) (BW D 6 b (fun u => emC cI b (mdl s kp hf (upd (upd sc 3 0) 3 2) ad bf))) (AX 6 b zz)) 0 0 (AX 6 b zz) := by
  refine mgo (by decide) (Nat.le_of_ble_eq_true rfl) ?_
  intro p e z m below meth c hx hb hr hml hown hts hlocks hB ls hl
  obtain ⟨hsz, hP, hK, hE⟩ := hB
  subst hsz
  have hS : va_S (AX 6 b z.heap.size) z.heap z.heap [] := va_S.rf
  have hl : lv_has ls 4 [(0, .ref (b 0)), (1, .int x), (2, .int y)] := hl
  refine lv_aload_n hx hb dX7_put_0 rfl (lv_at hl 0 rfl) ?_
  refine lv_iconst (v := 0) hx hb dX7_put_1 (by decide) ?_
  refine g_put hx hb hts hown inA7 tyX7 tyX7_ok nmX7 hK hP hE hS 0 (by decide) rfl rfl 8 (by decide) tw768 rfl rfl (ty := .int) (by decide +kernel) rfl rfl (Nat.le_of_ble_eq_true rfl) dX7_put_2 (ex' := emC cI b (mdl s kp hf (upd sc 3 0) ad bf)) rfl mm_sc (fun H locs hP hS => ?_)
  refine lv_iload_n hx hb dX7_put_5 rfl (lv_at hl 1 rfl) ?_
  refine ro_i (va_runS (As := [.int x]) (rest := []) ⟨hx, hb, hml, hown, hts⟩ (m_X7_isDial l x) (va_cwS 1 hts (gS tw882 tw880 tw881 tw8) rfl rfl rfl (by decide +kernel) ⟨Nat.le_of_ble_eq_true rfl, Nat.le_of_ble_eq_true rfl⟩) ps0 rfl rfl hl.1 rfl (lv_room (Nat.le_of_ble_eq_true rfl)) dX7_put_6 ⟨Nat.le_of_ble_eq_true rfl, Nat.le_of_ble_eq_true rfl⟩) (fun r2 hr1 => ?_)
  subst hr1
  refine lv_bI (fun c4 => ?_) (fun c4 => ?_)
  · skip
    refine lv_if_ne (tgt := 18) hx hb dX7_put_9 (by decide) (fun _ => ?_) (fun h0 => absurd h0 (by decide))
    refine lv_iload_n hx hb dX7_put_18 rfl (lv_at hl 2 rfl) ?_
    refine lv_iconst (v := 0) hx hb dX7_put_19 (by decide) ?_
    refine lv_ldc hx hb hown (hts _ tw821) dX7_put_20 ?_
    refine ro_i (va_runS (As := [.int y, .int 0, .int 99999]) (rest := []) ⟨hx, hb, hml, hown, hts⟩ (m_X7_in l y 0 99999) (va_cwS 3 hts (gS tw804 tw802 tw803 tw8) rfl rfl rfl (by decide +kernel) ⟨Nat.le_of_ble_eq_true rfl, Nat.le_of_ble_eq_true rfl⟩) ps0 rfl rfl hl.1 rfl (lv_room (Nat.le_of_ble_eq_true rfl)) dX7_put_22 ⟨Nat.le_of_ble_eq_true rfl, Nat.le_of_ble_eq_true rfl⟩) (fun r6 hr5 => ?_)
    subst hr5
    refine lv_bI (fun c8 => ?_) (fun c8 => ?_)
    · skip
      exact absurd c8 hy9
    · skip
      refine lv_if_ne (tgt := 34) hx hb dX7_put_25 (by decide) (fun h0 => absurd (by decide) h0) (fun _ => ?_)
      refine lv_aload_n hx hb dX7_put_28 rfl (lv_at hl 0 rfl) ?_
      refine lv_iconst (v := 2) hx hb dX7_put_29 (by decide) ?_
      refine rw_i hS (va_runV (As := [.int 2]) (rest := []) ⟨hx, hb, hml, hown, hts⟩ (m_X7_throwing l D cI cS b s kp hf (upd sc 3 0) ad bf 2 _) (cwV 1 hts (gV tw808 tw805 tw807 ts22 tw8) rfl rfl rfl (by decide +kernel) ⟨Nat.le_of_ble_eq_true rfl, Nat.le_of_ble_eq_true rfl⟩) (pvW 0 hK hP hE (by decide) rfl rfl) rfl rfl hl.1 rfl (lv_room (Nat.le_of_ble_eq_true rfl)) dX7_put_30 ⟨Nat.le_of_ble_eq_true rfl, Nat.le_of_ble_eq_true rfl⟩) (fun r10 u11 H locs hr9 hP hS => ?_)
      subst hr9
      exact rw_ir hx hb hr rfl hlocks hS () hP rfl dX7_put_33
  · skip
    exact absurd hx9 c4

set_option maxHeartbeats 4000000 in
set_option maxRecDepth 100000 in
theorem m_X7_drift (l : Launch) (D : va_G) (cI cS : ClassId) (b : Nat → Nat) (s kp : St) (hf : Nat → St) (sc ad bf : Nat → Int32) (T : Int) (hBd : Bd T s) (hT : T ≤ 400000000) (kn : Nat) (hkn : kn ≤ 6) (hk0 : sc 0 = nI kn) (d : Nat) (hd : d < 7) (y : Int32) (hy9 : witB y (-5) 5) (zz : Nat) : Met l yX7_drift (.code yX7_drift cX7_drift 4 (some .int) :: wsA) ({ frames := 2, cells := 0, slots := 0, locals := 42 } : Room) (va_Pc [.ref (b 0), .int (nI d), .int y] (PW D cI cS 6 b (emC cI b (mdl s kp hf sc ad bf)) zz)) (va_Qi (fun (r : Int32) (u : Unit) => r = s 2 d) (BW D 6 b (fun u => emC cI b (mdl (up2 s 2 d y) kp (svH hf kn s) (upd (upd sc 3 0) 0 (nI (svK kn))) ad bf))) (AX 6 b zz)) 0 0 (AX 6 b zz) := by
  refine mgo (by decide) (Nat.le_of_ble_eq_true rfl) ?_
  intro p e z m below meth c hx hb hr hml hown hts hlocks hB ls hl
  obtain ⟨hsz, hP, hK, hE⟩ := hB
  subst hsz
  have hS : va_S (AX 6 b z.heap.size) z.heap z.heap [] := va_S.rf
  have hl : lv_has ls 4 [(0, .ref (b 0)), (1, .int (nI d)), (2, .int y)] := hl
  have hin : witB (nI d) 0 6 := wit_n (lo := 0) (hi := 6) (by omega) (by omega) (by decide)
  refine lv_aload_n hx hb dX7_drift_0 rfl (lv_at hl 0 rfl) ?_
  refine lv_iconst (v := 0) hx hb dX7_drift_1 (by decide) ?_
  refine g_put hx hb hts hown inA7 tyX7 tyX7_ok nmX7 hK hP hE hS 0 (by decide) rfl rfl 8 (by decide) tw768 rfl rfl (ty := .int) (by decide +kernel) rfl rfl (Nat.le_of_ble_eq_true rfl) dX7_drift_2 (ex' := emC cI b (mdl s kp hf (upd sc 3 0) ad bf)) rfl mm_sc (fun H locs hP hS => ?_)
  refine lv_iload_n hx hb dX7_drift_5 rfl (lv_at hl 1 rfl) ?_
  refine ro_i (va_runS (As := [.int (nI d)]) (rest := []) ⟨hx, hb, hml, hown, hts⟩ (m_X7_isDial l (nI d)) (va_cwS 1 hts (gS tw882 tw880 tw881 tw8) rfl rfl rfl (by decide +kernel) ⟨Nat.le_of_ble_eq_true rfl, Nat.le_of_ble_eq_true rfl⟩) ps0 rfl rfl hl.1 rfl (lv_room (Nat.le_of_ble_eq_true rfl)) dX7_drift_6 ⟨Nat.le_of_ble_eq_true rfl, Nat.le_of_ble_eq_true rfl⟩) (fun r2 hr1 => ?_)
  subst hr1
  refine lv_bI (fun c4 => ?_) (fun c4 => ?_)
  · skip
    refine lv_if_ne (tgt := 18) hx hb dX7_drift_9 (by decide) (fun _ => ?_) (fun h0 => absurd h0 (by decide))
    refine lv_iload_n hx hb dX7_drift_18 rfl (lv_at hl 2 rfl) ?_
    refine lv_bipush (v := (-5)) hx hb dX7_drift_19 (by decide) ?_
    refine lv_iconst (v := 5) hx hb dX7_drift_21 (by decide) ?_
    refine ro_i (va_runS (As := [.int y, .int (-5), .int 5]) (rest := []) ⟨hx, hb, hml, hown, hts⟩ (m_X7_in l y (-5) 5) (va_cwS 3 hts (gS tw804 tw802 tw803 tw8) rfl rfl rfl (by decide +kernel) ⟨Nat.le_of_ble_eq_true rfl, Nat.le_of_ble_eq_true rfl⟩) ps0 rfl rfl hl.1 rfl (lv_room (Nat.le_of_ble_eq_true rfl)) dX7_drift_22 ⟨Nat.le_of_ble_eq_true rfl, Nat.le_of_ble_eq_true rfl⟩) (fun r6 hr5 => ?_)
    subst hr5
    refine lv_bI (fun c8 => ?_) (fun c8 => ?_)
    · skip
      refine lv_if_ne (tgt := 34) hx hb dX7_drift_25 (by decide) (fun _ => ?_) (fun h0 => absurd h0 (by decide))
      refine lv_aload_n hx hb dX7_drift_34 rfl (lv_at hl 0 rfl) ?_
      refine rw_v hS (va_runV (As := []) (rest := []) ⟨hx, hb, hml, hown, hts⟩ (m_X7_save l D cI cS b (mdl s kp hf (upd sc 3 0) ad bf) kn (by omega) hk0 _) (cwV 0 hts (gV tw812 tw809 tw811 ts23 tw8) rfl rfl rfl (by decide +kernel) ⟨Nat.le_of_ble_eq_true rfl, Nat.le_of_ble_eq_true rfl⟩) (pvW 0 hK hP hE (by decide) rfl rfl) rfl rfl hl.1 rfl (lv_room (Nat.le_of_ble_eq_true rfl)) dX7_drift_35 ⟨Nat.le_of_ble_eq_true rfl, Nat.le_of_ble_eq_true rfl⟩) (fun u11 H locs hr9 hP hS => ?_)
      have hP : HP D 6 b (emC cI b (mdl s kp (svH hf kn s) (upd (upd sc 3 0) 0 (nI (svK kn))) ad bf)) H := svM_cv (by omega) hP
      refine lv_aload_n hx hb dX7_drift_38 rfl (lv_at hl 0 rfl) ?_
      refine g_get hx hb hts hown inA7 hK hP 0 (by decide) rfl rfl 0 (by decide) tw760 rfl (v := .ref (b 1)) rfl dX7_drift_39 ?_
      refine lv_bipush (v := 13) hx hb dX7_drift_42 (by decide) ?_
      refine lv_iload_n hx hb dX7_drift_44 rfl (lv_at hl 1 rfl) ?_
      refine lv_iadd hx hb dX7_drift_45 ?_
      refine lv_as (y := nI (13 + d)) (nI_add2 (p := 13) (q := d) rfl rfl) ?_
      refine g_iald hx hb hK hP 1 (by decide) rfl (13 + d) rfl (by omega) (by decide) dX7_drift_46 (v := s 2 d) ((fl_g2 (s := s) (d := d) (by omega)).trans rfl) ?_
      refine lv_istore_n (lv' := [(3, .int (s 2 d)), (0, .ref (b 0)), (1, .int (nI d)), (2, .int y)]) hx hb dX7_drift_47 rfl hl (by decide) rfl (fun ls hl => ?_)
      refine lv_aload_n hx hb dX7_drift_48 rfl (lv_at hl 1 rfl) ?_
      refine g_get hx hb hts hown inA7 hK hP 0 (by decide) rfl rfl 0 (by decide) tw760 rfl (v := .ref (b 1)) rfl dX7_drift_49 ?_
      refine lv_bipush (v := 13) hx hb dX7_drift_52 (by decide) ?_
      refine lv_iload_n hx hb dX7_drift_54 rfl (lv_at hl 2 rfl) ?_
      refine lv_iadd hx hb dX7_drift_55 ?_
      refine lv_as (y := nI (13 + d)) (nI_add2 (p := 13) (q := d) rfl rfl) ?_
      refine lv_iload_n hx hb dX7_drift_56 rfl (lv_at hl 3 rfl) ?_
      refine g_iast hx hb hK hP hE hS 1 (by decide) rfl (13 + d) rfl (by omega) (by omega) dX7_drift_57 (ex' := emC cI b (mdl (up2 s 2 d y) kp (svH hf kn s) (upd (upd sc 3 0) 0 (nI (svK kn))) ad bf)) (fl_e (fl_s2 (d := d) (by omega))) mm_s (fun H locs hP hS => ?_)
      refine lv_iload_n hx hb dX7_drift_58 rfl (lv_at hl 0 rfl) ?_
      exact rw_ir hx hb hr rfl hlocks hS () hP rfl dX7_drift_59
    · skip
      exact absurd hy9 c8
  · skip
    exact absurd hin c4

set_option maxHeartbeats 4000000 in
set_option maxRecDepth 100000 in
theorem mx_X7_drift (l : Launch) (D : va_G) (cI cS : ClassId) (b : Nat → Nat) (s kp : St) (hf : Nat → St) (sc ad bf : Nat → Int32) (x y : Int32) (hx9 : ¬ witB x 0 6) (zz : Nat) : Met l yX7_drift (.code yX7_drift cX7_drift 4 (some .int) :: wsA) ({ frames := 2, cells := 0, slots := 0, locals := 42 } : Room) (va_Pc [.ref (b 0), .int x, .int y] (PW D cI cS 6 b (emC cI b (mdl s kp hf sc ad bf)) zz)) (va_Qi (fun (r : Int32) (u : Unit) => r = 0) (BW D 6 b (fun u => emC cI b (mdl s kp hf (upd (upd sc 3 0) 3 1) ad bf))) (AX 6 b zz)) 0 0 (AX 6 b zz) := by
  refine mgo (by decide) (Nat.le_of_ble_eq_true rfl) ?_
  intro p e z m below meth c hx hb hr hml hown hts hlocks hB ls hl
  obtain ⟨hsz, hP, hK, hE⟩ := hB
  subst hsz
  have hS : va_S (AX 6 b z.heap.size) z.heap z.heap [] := va_S.rf
  have hl : lv_has ls 4 [(0, .ref (b 0)), (1, .int x), (2, .int y)] := hl
  refine lv_aload_n hx hb dX7_drift_0 rfl (lv_at hl 0 rfl) ?_
  refine lv_iconst (v := 0) hx hb dX7_drift_1 (by decide) ?_
  refine g_put hx hb hts hown inA7 tyX7 tyX7_ok nmX7 hK hP hE hS 0 (by decide) rfl rfl 8 (by decide) tw768 rfl rfl (ty := .int) (by decide +kernel) rfl rfl (Nat.le_of_ble_eq_true rfl) dX7_drift_2 (ex' := emC cI b (mdl s kp hf (upd sc 3 0) ad bf)) rfl mm_sc (fun H locs hP hS => ?_)
  refine lv_iload_n hx hb dX7_drift_5 rfl (lv_at hl 1 rfl) ?_
  refine ro_i (va_runS (As := [.int x]) (rest := []) ⟨hx, hb, hml, hown, hts⟩ (m_X7_isDial l x) (va_cwS 1 hts (gS tw882 tw880 tw881 tw8) rfl rfl rfl (by decide +kernel) ⟨Nat.le_of_ble_eq_true rfl, Nat.le_of_ble_eq_true rfl⟩) ps0 rfl rfl hl.1 rfl (lv_room (Nat.le_of_ble_eq_true rfl)) dX7_drift_6 ⟨Nat.le_of_ble_eq_true rfl, Nat.le_of_ble_eq_true rfl⟩) (fun r2 hr1 => ?_)
  subst hr1
  refine lv_bI (fun c4 => ?_) (fun c4 => ?_)
  · skip
    exact absurd c4 hx9
  · skip
    refine lv_if_ne (tgt := 18) hx hb dX7_drift_9 (by decide) (fun h0 => absurd (by decide) h0) (fun _ => ?_)
    refine lv_aload_n hx hb dX7_drift_12 rfl (lv_at hl 0 rfl) ?_
    refine lv_iconst (v := 1) hx hb dX7_drift_13 (by decide) ?_
    refine rw_i hS (va_runV (As := [.int 1]) (rest := []) ⟨hx, hb, hml, hown, hts⟩ (m_X7_throwing l D cI cS b s kp hf (upd sc 3 0) ad bf 1 _) (cwV 1 hts (gV tw808 tw805 tw807 ts22 tw8) rfl rfl rfl (by decide +kernel) ⟨Nat.le_of_ble_eq_true rfl, Nat.le_of_ble_eq_true rfl⟩) (pvW 0 hK hP hE (by decide) rfl rfl) rfl rfl hl.1 rfl (lv_room (Nat.le_of_ble_eq_true rfl)) dX7_drift_14 ⟨Nat.le_of_ble_eq_true rfl, Nat.le_of_ble_eq_true rfl⟩) (fun r6 u7 H locs hr5 hP hS => ?_)
    subst hr5
    exact rw_ir hx hb hr rfl hlocks hS () hP rfl dX7_drift_17

set_option maxHeartbeats 4000000 in
set_option maxRecDepth 100000 in
theorem mx2_X7_drift (l : Launch) (D : va_G) (cI cS : ClassId) (b : Nat → Nat) (s kp : St) (hf : Nat → St) (sc ad bf : Nat → Int32) (x y : Int32) (hx9 : witB x 0 6) (hy9 : ¬ witB y (-5) 5) (zz : Nat) : Met l yX7_drift (.code yX7_drift cX7_drift 4 (some .int) :: wsA) ({ frames := 2, cells := 0, slots := 0, locals := 42 } : Room) (va_Pc [.ref (b 0), .int x, .int y] (PW D cI cS 6 b (emC cI b (mdl s kp hf sc ad bf)) zz)) (va_Qi (fun (r : Int32) (u : Unit) => r = 0) (BW D 6 b (fun u => emC cI b (mdl s kp hf (upd (upd sc 3 0) 3 2) ad bf))) (AX 6 b zz)) 0 0 (AX 6 b zz) := by
  refine mgo (by decide) (Nat.le_of_ble_eq_true rfl) ?_
  intro p e z m below meth c hx hb hr hml hown hts hlocks hB ls hl
  obtain ⟨hsz, hP, hK, hE⟩ := hB
  subst hsz
  have hS : va_S (AX 6 b z.heap.size) z.heap z.heap [] := va_S.rf
  have hl : lv_has ls 4 [(0, .ref (b 0)), (1, .int x), (2, .int y)] := hl
  refine lv_aload_n hx hb dX7_drift_0 rfl (lv_at hl 0 rfl) ?_
  refine lv_iconst (v := 0) hx hb dX7_drift_1 (by decide) ?_
  refine g_put hx hb hts hown inA7 tyX7 tyX7_ok nmX7 hK hP hE hS 0 (by decide) rfl rfl 8 (by decide) tw768 rfl rfl (ty := .int) (by decide +kernel) rfl rfl (Nat.le_of_ble_eq_true rfl) dX7_drift_2 (ex' := emC cI b (mdl s kp hf (upd sc 3 0) ad bf)) rfl mm_sc (fun H locs hP hS => ?_)
  refine lv_iload_n hx hb dX7_drift_5 rfl (lv_at hl 1 rfl) ?_
  refine ro_i (va_runS (As := [.int x]) (rest := []) ⟨hx, hb, hml, hown, hts⟩ (m_X7_isDial l x) (va_cwS 1 hts (gS tw882 tw880 tw881 tw8) rfl rfl rfl (by decide +kernel) ⟨Nat.le_of_ble_eq_true rfl, Nat.le_of_ble_eq_true rfl⟩) ps0 rfl rfl hl.1 rfl (lv_room (Nat.le_of_ble_eq_true rfl)) dX7_drift_6 ⟨Nat.le_of_ble_eq_true rfl, Nat.le_of_ble_eq_true rfl⟩) (fun r2 hr1 => ?_)
  subst hr1
  refine lv_bI (fun c4 => ?_) (fun c4 => ?_)
  · skip
    refine lv_if_ne (tgt := 18) hx hb dX7_drift_9 (by decide) (fun _ => ?_) (fun h0 => absurd h0 (by decide))
    refine lv_iload_n hx hb dX7_drift_18 rfl (lv_at hl 2 rfl) ?_
    refine lv_bipush (v := (-5)) hx hb dX7_drift_19 (by decide) ?_
    refine lv_iconst (v := 5) hx hb dX7_drift_21 (by decide) ?_
    refine ro_i (va_runS (As := [.int y, .int (-5), .int 5]) (rest := []) ⟨hx, hb, hml, hown, hts⟩ (m_X7_in l y (-5) 5) (va_cwS 3 hts (gS tw804 tw802 tw803 tw8) rfl rfl rfl (by decide +kernel) ⟨Nat.le_of_ble_eq_true rfl, Nat.le_of_ble_eq_true rfl⟩) ps0 rfl rfl hl.1 rfl (lv_room (Nat.le_of_ble_eq_true rfl)) dX7_drift_22 ⟨Nat.le_of_ble_eq_true rfl, Nat.le_of_ble_eq_true rfl⟩) (fun r6 hr5 => ?_)
    subst hr5
    refine lv_bI (fun c8 => ?_) (fun c8 => ?_)
    · skip
      exact absurd c8 hy9
    · skip
      refine lv_if_ne (tgt := 34) hx hb dX7_drift_25 (by decide) (fun h0 => absurd (by decide) h0) (fun _ => ?_)
      refine lv_aload_n hx hb dX7_drift_28 rfl (lv_at hl 0 rfl) ?_
      refine lv_iconst (v := 2) hx hb dX7_drift_29 (by decide) ?_
      refine rw_i hS (va_runV (As := [.int 2]) (rest := []) ⟨hx, hb, hml, hown, hts⟩ (m_X7_throwing l D cI cS b s kp hf (upd sc 3 0) ad bf 2 _) (cwV 1 hts (gV tw808 tw805 tw807 ts22 tw8) rfl rfl rfl (by decide +kernel) ⟨Nat.le_of_ble_eq_true rfl, Nat.le_of_ble_eq_true rfl⟩) (pvW 0 hK hP hE (by decide) rfl rfl) rfl rfl hl.1 rfl (lv_room (Nat.le_of_ble_eq_true rfl)) dX7_drift_30 ⟨Nat.le_of_ble_eq_true rfl, Nat.le_of_ble_eq_true rfl⟩) (fun r10 u11 H locs hr9 hP hS => ?_)
      subst hr9
      exact rw_ir hx hb hr rfl hlocks hS () hP rfl dX7_drift_33
  · skip
    exact absurd hx9 c4

set_option maxHeartbeats 4000000 in
set_option maxRecDepth 100000 in
theorem m_X7_set (l : Launch) (D : va_G) (cI cS : ClassId) (b : Nat → Nat) (s kp : St) (hf : Nat → St) (sc ad bf : Nat → Int32) (T : Int) (hBd : Bd T s) (hT : T ≤ 400000000) (kn : Nat) (hkn : kn ≤ 6) (hk0 : sc 0 = nI kn) (q : Nat) (hq : q < 2) (y : Int32) (hy9 : witB y 0 99) (zz : Nat) : Met l yX7_set (.code yX7_set cX7_set 4 (some .int) :: wsA) ({ frames := 1, cells := 0, slots := 0, locals := 22 } : Room) (va_Pc [.ref (b 0), .int (nI q), .int y] (PW D cI cS 6 b (emC cI b (mdl s kp hf sc ad bf)) zz)) (va_Qi (fun (r : Int32) (u : Unit) => r = s 10 q) (BW D 6 b (fun u => emC cI b (mdl (up2 s 10 q y) kp (svH hf kn s) (upd (upd sc 3 0) 0 (nI (svK kn))) ad bf))) (AX 6 b zz)) 0 0 (AX 6 b zz) := by
  refine mgo (by decide) (Nat.le_of_ble_eq_true rfl) ?_
  intro p e z m below meth c hx hb hr hml hown hts hlocks hB ls hl
  obtain ⟨hsz, hP, hK, hE⟩ := hB
  subst hsz
  have hS : va_S (AX 6 b z.heap.size) z.heap z.heap [] := va_S.rf
  have hl : lv_has ls 4 [(0, .ref (b 0)), (1, .int (nI q)), (2, .int y)] := hl
  have hin : witB (nI q) 0 1 := wit_n (lo := 0) (hi := 1) (by omega) (by omega) (by decide)
  refine lv_aload_n hx hb dX7_set_0 rfl (lv_at hl 0 rfl) ?_
  refine lv_iconst (v := 0) hx hb dX7_set_1 (by decide) ?_
  refine g_put hx hb hts hown inA7 tyX7 tyX7_ok nmX7 hK hP hE hS 0 (by decide) rfl rfl 8 (by decide) tw768 rfl rfl (ty := .int) (by decide +kernel) rfl rfl (Nat.le_of_ble_eq_true rfl) dX7_set_2 (ex' := emC cI b (mdl s kp hf (upd sc 3 0) ad bf)) rfl mm_sc (fun H locs hP hS => ?_)
  refine lv_iload_n hx hb dX7_set_5 rfl (lv_at hl 1 rfl) ?_
  refine lv_iconst (v := 0) hx hb dX7_set_6 (by decide) ?_
  refine lv_iconst (v := 1) hx hb dX7_set_7 (by decide) ?_
  refine ro_i (va_runS (As := [.int (nI q), .int 0, .int 1]) (rest := []) ⟨hx, hb, hml, hown, hts⟩ (m_X7_in l (nI q) 0 1) (va_cwS 3 hts (gS tw804 tw802 tw803 tw8) rfl rfl rfl (by decide +kernel) ⟨Nat.le_of_ble_eq_true rfl, Nat.le_of_ble_eq_true rfl⟩) ps0 rfl rfl hl.1 rfl (lv_room (Nat.le_of_ble_eq_true rfl)) dX7_set_8 ⟨Nat.le_of_ble_eq_true rfl, Nat.le_of_ble_eq_true rfl⟩) (fun r2 hr1 => ?_)
  subst hr1
  refine lv_bI (fun c4 => ?_) (fun c4 => ?_)
  · skip
    refine lv_if_ne (tgt := 20) hx hb dX7_set_11 (by decide) (fun _ => ?_) (fun h0 => absurd h0 (by decide))
    refine lv_iload_n hx hb dX7_set_20 rfl (lv_at hl 2 rfl) ?_
    refine lv_iconst (v := 0) hx hb dX7_set_21 (by decide) ?_
    refine lv_bipush (v := 99) hx hb dX7_set_22 (by decide) ?_
    refine ro_i (va_runS (As := [.int y, .int 0, .int 99]) (rest := []) ⟨hx, hb, hml, hown, hts⟩ (m_X7_in l y 0 99) (va_cwS 3 hts (gS tw804 tw802 tw803 tw8) rfl rfl rfl (by decide +kernel) ⟨Nat.le_of_ble_eq_true rfl, Nat.le_of_ble_eq_true rfl⟩) ps0 rfl rfl hl.1 rfl (lv_room (Nat.le_of_ble_eq_true rfl)) dX7_set_24 ⟨Nat.le_of_ble_eq_true rfl, Nat.le_of_ble_eq_true rfl⟩) (fun r6 hr5 => ?_)
    subst hr5
    refine lv_bI (fun c8 => ?_) (fun c8 => ?_)
    · skip
      refine lv_if_ne (tgt := 36) hx hb dX7_set_27 (by decide) (fun _ => ?_) (fun h0 => absurd h0 (by decide))
      refine lv_aload_n hx hb dX7_set_36 rfl (lv_at hl 0 rfl) ?_
      refine rw_v hS (va_runV (As := []) (rest := []) ⟨hx, hb, hml, hown, hts⟩ (m_X7_save l D cI cS b (mdl s kp hf (upd sc 3 0) ad bf) kn (by omega) hk0 _) (cwV 0 hts (gV tw812 tw809 tw811 ts23 tw8) rfl rfl rfl (by decide +kernel) ⟨Nat.le_of_ble_eq_true rfl, Nat.le_of_ble_eq_true rfl⟩) (pvW 0 hK hP hE (by decide) rfl rfl) rfl rfl hl.1 rfl (lv_room (Nat.le_of_ble_eq_true rfl)) dX7_set_37 ⟨Nat.le_of_ble_eq_true rfl, Nat.le_of_ble_eq_true rfl⟩) (fun u11 H locs hr9 hP hS => ?_)
      have hP : HP D 6 b (emC cI b (mdl s kp (svH hf kn s) (upd (upd sc 3 0) 0 (nI (svK kn))) ad bf)) H := svM_cv (by omega) hP
      refine lv_aload_n hx hb dX7_set_40 rfl (lv_at hl 0 rfl) ?_
      refine g_get hx hb hts hown inA7 hK hP 0 (by decide) rfl rfl 0 (by decide) tw760 rfl (v := .ref (b 1)) rfl dX7_set_41 ?_
      refine lv_iconst (v := 2) hx hb dX7_set_44 (by decide) ?_
      refine lv_iload_n hx hb dX7_set_45 rfl (lv_at hl 1 rfl) ?_
      refine lv_iadd hx hb dX7_set_46 ?_
      refine lv_as (y := nI (2 + q)) (nI_add2 (p := 2) (q := q) rfl rfl) ?_
      refine g_iald hx hb hK hP 1 (by decide) rfl (2 + q) rfl (by omega) (by decide) dX7_set_47 (v := s 10 q) ((fl_g10 (s := s) (d := q) (by omega)).trans rfl) ?_
      refine lv_istore_n (lv' := [(3, .int (s 10 q)), (0, .ref (b 0)), (1, .int (nI q)), (2, .int y)]) hx hb dX7_set_48 rfl hl (by decide) rfl (fun ls hl => ?_)
      refine lv_aload_n hx hb dX7_set_49 rfl (lv_at hl 1 rfl) ?_
      refine g_get hx hb hts hown inA7 hK hP 0 (by decide) rfl rfl 0 (by decide) tw760 rfl (v := .ref (b 1)) rfl dX7_set_50 ?_
      refine lv_iconst (v := 2) hx hb dX7_set_53 (by decide) ?_
      refine lv_iload_n hx hb dX7_set_54 rfl (lv_at hl 2 rfl) ?_
      refine lv_iadd hx hb dX7_set_55 ?_
      refine lv_as (y := nI (2 + q)) (nI_add2 (p := 2) (q := q) rfl rfl) ?_
      refine lv_iload_n hx hb dX7_set_56 rfl (lv_at hl 3 rfl) ?_
      refine g_iast hx hb hK hP hE hS 1 (by decide) rfl (2 + q) rfl (by omega) (by omega) dX7_set_57 (ex' := emC cI b (mdl (up2 s 10 q y) kp (svH hf kn s) (upd (upd sc 3 0) 0 (nI (svK kn))) ad bf)) (fl_e (fl_s10 (d := q) (by omega))) mm_s (fun H locs hP hS => ?_)
      refine lv_iload_n hx hb dX7_set_58 rfl (lv_at hl 0 rfl) ?_
      exact rw_ir hx hb hr rfl hlocks hS () hP rfl dX7_set_59
    · skip
      exact absurd hy9 c8
  · skip
    exact absurd hin c4

set_option maxHeartbeats 4000000 in
set_option maxRecDepth 100000 in
theorem mx_X7_set (l : Launch) (D : va_G) (cI cS : ClassId) (b : Nat → Nat) (s kp : St) (hf : Nat → St) (sc ad bf : Nat → Int32) (x y : Int32) (hx9 : ¬ witB x 0 1) (zz : Nat) : Met l yX7_set (.code yX7_set cX7_set 4 (some .int) :: wsA) ({ frames := 1, cells := 0, slots := 0, locals := 22 } : Room) (va_Pc [.ref (b 0), .int x, .int y] (PW D cI cS 6 b (emC cI b (mdl s kp hf sc ad bf)) zz)) (va_Qi (fun (r : Int32) (u : Unit) => r = 0) (BW D 6 b (fun u => emC cI b (mdl s kp hf (upd (upd sc 3 0) 3 1) ad bf))) (AX 6 b zz)) 0 0 (AX 6 b zz) := by
  refine mgo (by decide) (Nat.le_of_ble_eq_true rfl) ?_
  intro p e z m below meth c hx hb hr hml hown hts hlocks hB ls hl
  obtain ⟨hsz, hP, hK, hE⟩ := hB
  subst hsz
  have hS : va_S (AX 6 b z.heap.size) z.heap z.heap [] := va_S.rf
  have hl : lv_has ls 4 [(0, .ref (b 0)), (1, .int x), (2, .int y)] := hl
  refine lv_aload_n hx hb dX7_set_0 rfl (lv_at hl 0 rfl) ?_
  refine lv_iconst (v := 0) hx hb dX7_set_1 (by decide) ?_
  refine g_put hx hb hts hown inA7 tyX7 tyX7_ok nmX7 hK hP hE hS 0 (by decide) rfl rfl 8 (by decide) tw768 rfl rfl (ty := .int) (by decide +kernel) rfl rfl (Nat.le_of_ble_eq_true rfl) dX7_set_2 (ex' := emC cI b (mdl s kp hf (upd sc 3 0) ad bf)) rfl mm_sc (fun H locs hP hS => ?_)
  refine lv_iload_n hx hb dX7_set_5 rfl (lv_at hl 1 rfl) ?_
  refine lv_iconst (v := 0) hx hb dX7_set_6 (by decide) ?_
  refine lv_iconst (v := 1) hx hb dX7_set_7 (by decide) ?_
  refine ro_i (va_runS (As := [.int x, .int 0, .int 1]) (rest := []) ⟨hx, hb, hml, hown, hts⟩ (m_X7_in l x 0 1) (va_cwS 3 hts (gS tw804 tw802 tw803 tw8) rfl rfl rfl (by decide +kernel) ⟨Nat.le_of_ble_eq_true rfl, Nat.le_of_ble_eq_true rfl⟩) ps0 rfl rfl hl.1 rfl (lv_room (Nat.le_of_ble_eq_true rfl)) dX7_set_8 ⟨Nat.le_of_ble_eq_true rfl, Nat.le_of_ble_eq_true rfl⟩) (fun r2 hr1 => ?_)
  subst hr1
  refine lv_bI (fun c4 => ?_) (fun c4 => ?_)
  · skip
    exact absurd c4 hx9
  · skip
    refine lv_if_ne (tgt := 20) hx hb dX7_set_11 (by decide) (fun h0 => absurd (by decide) h0) (fun _ => ?_)
    refine lv_aload_n hx hb dX7_set_14 rfl (lv_at hl 0 rfl) ?_
    refine lv_iconst (v := 1) hx hb dX7_set_15 (by decide) ?_
    refine rw_i hS (va_runV (As := [.int 1]) (rest := []) ⟨hx, hb, hml, hown, hts⟩ (m_X7_throwing l D cI cS b s kp hf (upd sc 3 0) ad bf 1 _) (cwV 1 hts (gV tw808 tw805 tw807 ts22 tw8) rfl rfl rfl (by decide +kernel) ⟨Nat.le_of_ble_eq_true rfl, Nat.le_of_ble_eq_true rfl⟩) (pvW 0 hK hP hE (by decide) rfl rfl) rfl rfl hl.1 rfl (lv_room (Nat.le_of_ble_eq_true rfl)) dX7_set_16 ⟨Nat.le_of_ble_eq_true rfl, Nat.le_of_ble_eq_true rfl⟩) (fun r6 u7 H locs hr5 hP hS => ?_)
    subst hr5
    exact rw_ir hx hb hr rfl hlocks hS () hP rfl dX7_set_19

set_option maxHeartbeats 4000000 in
set_option maxRecDepth 100000 in
theorem mx2_X7_set (l : Launch) (D : va_G) (cI cS : ClassId) (b : Nat → Nat) (s kp : St) (hf : Nat → St) (sc ad bf : Nat → Int32) (x y : Int32) (hx9 : witB x 0 1) (hy9 : ¬ witB y 0 99) (zz : Nat) : Met l yX7_set (.code yX7_set cX7_set 4 (some .int) :: wsA) ({ frames := 1, cells := 0, slots := 0, locals := 22 } : Room) (va_Pc [.ref (b 0), .int x, .int y] (PW D cI cS 6 b (emC cI b (mdl s kp hf sc ad bf)) zz)) (va_Qi (fun (r : Int32) (u : Unit) => r = 0) (BW D 6 b (fun u => emC cI b (mdl s kp hf (upd (upd sc 3 0) 3 2) ad bf))) (AX 6 b zz)) 0 0 (AX 6 b zz) := by
  refine mgo (by decide) (Nat.le_of_ble_eq_true rfl) ?_
  intro p e z m below meth c hx hb hr hml hown hts hlocks hB ls hl
  obtain ⟨hsz, hP, hK, hE⟩ := hB
  subst hsz
  have hS : va_S (AX 6 b z.heap.size) z.heap z.heap [] := va_S.rf
  have hl : lv_has ls 4 [(0, .ref (b 0)), (1, .int x), (2, .int y)] := hl
  refine lv_aload_n hx hb dX7_set_0 rfl (lv_at hl 0 rfl) ?_
  refine lv_iconst (v := 0) hx hb dX7_set_1 (by decide) ?_
  refine g_put hx hb hts hown inA7 tyX7 tyX7_ok nmX7 hK hP hE hS 0 (by decide) rfl rfl 8 (by decide) tw768 rfl rfl (ty := .int) (by decide +kernel) rfl rfl (Nat.le_of_ble_eq_true rfl) dX7_set_2 (ex' := emC cI b (mdl s kp hf (upd sc 3 0) ad bf)) rfl mm_sc (fun H locs hP hS => ?_)
  refine lv_iload_n hx hb dX7_set_5 rfl (lv_at hl 1 rfl) ?_
  refine lv_iconst (v := 0) hx hb dX7_set_6 (by decide) ?_
  refine lv_iconst (v := 1) hx hb dX7_set_7 (by decide) ?_
  refine ro_i (va_runS (As := [.int x, .int 0, .int 1]) (rest := []) ⟨hx, hb, hml, hown, hts⟩ (m_X7_in l x 0 1) (va_cwS 3 hts (gS tw804 tw802 tw803 tw8) rfl rfl rfl (by decide +kernel) ⟨Nat.le_of_ble_eq_true rfl, Nat.le_of_ble_eq_true rfl⟩) ps0 rfl rfl hl.1 rfl (lv_room (Nat.le_of_ble_eq_true rfl)) dX7_set_8 ⟨Nat.le_of_ble_eq_true rfl, Nat.le_of_ble_eq_true rfl⟩) (fun r2 hr1 => ?_)
  subst hr1
  refine lv_bI (fun c4 => ?_) (fun c4 => ?_)
  · skip
    refine lv_if_ne (tgt := 20) hx hb dX7_set_11 (by decide) (fun _ => ?_) (fun h0 => absurd h0 (by decide))
    refine lv_iload_n hx hb dX7_set_20 rfl (lv_at hl 2 rfl) ?_
    refine lv_iconst (v := 0) hx hb dX7_set_21 (by decide) ?_
    refine lv_bipush (v := 99) hx hb dX7_set_22 (by decide) ?_
    refine ro_i (va_runS (As := [.int y, .int 0, .int 99]) (rest := []) ⟨hx, hb, hml, hown, hts⟩ (m_X7_in l y 0 99) (va_cwS 3 hts (gS tw804 tw802 tw803 tw8) rfl rfl rfl (by decide +kernel) ⟨Nat.le_of_ble_eq_true rfl, Nat.le_of_ble_eq_true rfl⟩) ps0 rfl rfl hl.1 rfl (lv_room (Nat.le_of_ble_eq_true rfl)) dX7_set_24 ⟨Nat.le_of_ble_eq_true rfl, Nat.le_of_ble_eq_true rfl⟩) (fun r6 hr5 => ?_)
    subst hr5
    refine lv_bI (fun c8 => ?_) (fun c8 => ?_)
    · skip
      exact absurd c8 hy9
    · skip
      refine lv_if_ne (tgt := 36) hx hb dX7_set_27 (by decide) (fun h0 => absurd (by decide) h0) (fun _ => ?_)
      refine lv_aload_n hx hb dX7_set_30 rfl (lv_at hl 0 rfl) ?_
      refine lv_iconst (v := 2) hx hb dX7_set_31 (by decide) ?_
      refine rw_i hS (va_runV (As := [.int 2]) (rest := []) ⟨hx, hb, hml, hown, hts⟩ (m_X7_throwing l D cI cS b s kp hf (upd sc 3 0) ad bf 2 _) (cwV 1 hts (gV tw808 tw805 tw807 ts22 tw8) rfl rfl rfl (by decide +kernel) ⟨Nat.le_of_ble_eq_true rfl, Nat.le_of_ble_eq_true rfl⟩) (pvW 0 hK hP hE (by decide) rfl rfl) rfl rfl hl.1 rfl (lv_room (Nat.le_of_ble_eq_true rfl)) dX7_set_32 ⟨Nat.le_of_ble_eq_true rfl, Nat.le_of_ble_eq_true rfl⟩) (fun r10 u11 H locs hr9 hP hS => ?_)
      subst hr9
      exact rw_ir hx hb hr rfl hlocks hS () hP rfl dX7_set_35
  · skip
    exact absurd hx9 c4

set_option maxHeartbeats 4000000 in
set_option maxRecDepth 100000 in
theorem m_X7_warden (l : Launch) (D : va_G) (cI cS : ClassId) (b : Nat → Nat) (s kp : St) (hf : Nat → St) (sc ad bf : Nat → Int32) (T : Int) (hBd : Bd T s) (hT : T ≤ 400000000) (kn : Nat) (hkn : kn ≤ 6) (hk0 : sc 0 = nI kn) (w : Nat) (hw : w < 7) (x y : Int32) (hx9 : witB x 0 9) (hy9 : witB y (-60) 60) (zz : Nat) : Met l yX7_warden (.code yX7_warden cX7_warden 5 (some .int) :: wsA) ({ frames := 2, cells := 0, slots := 0, locals := 42 } : Room) (va_Pc [.ref (b 0), .int (nI w), .int x, .int y] (PW D cI cS 6 b (emC cI b (mdl s kp hf sc ad bf)) zz)) (va_Qi (fun (r : Int32) (u : Unit) => r = s 7 w) (BW D 6 b (fun u => emC cI b (mdl (up2 (up2 s 7 w x) 8 w y) kp (svH hf kn s) (upd (upd sc 3 0) 0 (nI (svK kn))) ad bf))) (AX 6 b zz)) 0 0 (AX 6 b zz) := by
  refine mgo (by decide) (Nat.le_of_ble_eq_true rfl) ?_
  intro p e z m below meth c hx hb hr hml hown hts hlocks hB ls hl
  obtain ⟨hsz, hP, hK, hE⟩ := hB
  subst hsz
  have hS : va_S (AX 6 b z.heap.size) z.heap z.heap [] := va_S.rf
  have hl : lv_has ls 5 [(0, .ref (b 0)), (1, .int (nI w)), (2, .int x), (3, .int y)] := hl
  have hin : witB (nI w) 0 6 := wit_n (lo := 0) (hi := 6) (by omega) (by omega) (by decide)
  refine lv_aload_n hx hb dX7_warden_0 rfl (lv_at hl 0 rfl) ?_
  refine lv_iconst (v := 0) hx hb dX7_warden_1 (by decide) ?_
  refine g_put hx hb hts hown inA7 tyX7 tyX7_ok nmX7 hK hP hE hS 0 (by decide) rfl rfl 8 (by decide) tw768 rfl rfl (ty := .int) (by decide +kernel) rfl rfl (Nat.le_of_ble_eq_true rfl) dX7_warden_2 (ex' := emC cI b (mdl s kp hf (upd sc 3 0) ad bf)) rfl mm_sc (fun H locs hP hS => ?_)
  refine lv_iload_n hx hb dX7_warden_5 rfl (lv_at hl 1 rfl) ?_
  refine ro_i (va_runS (As := [.int (nI w)]) (rest := []) ⟨hx, hb, hml, hown, hts⟩ (m_X7_isDial l (nI w)) (va_cwS 1 hts (gS tw882 tw880 tw881 tw8) rfl rfl rfl (by decide +kernel) ⟨Nat.le_of_ble_eq_true rfl, Nat.le_of_ble_eq_true rfl⟩) ps0 rfl rfl hl.1 rfl (lv_room (Nat.le_of_ble_eq_true rfl)) dX7_warden_6 ⟨Nat.le_of_ble_eq_true rfl, Nat.le_of_ble_eq_true rfl⟩) (fun r2 hr1 => ?_)
  subst hr1
  refine lv_bI (fun c4 => ?_) (fun c4 => ?_)
  · skip
    refine lv_if_ne (tgt := 18) hx hb dX7_warden_9 (by decide) (fun _ => ?_) (fun h0 => absurd h0 (by decide))
    refine lv_iload_n hx hb dX7_warden_18 rfl (lv_at hl 2 rfl) ?_
    refine lv_iconst (v := 0) hx hb dX7_warden_19 (by decide) ?_
    refine lv_bipush (v := 9) hx hb dX7_warden_20 (by decide) ?_
    refine ro_i (va_runS (As := [.int x, .int 0, .int 9]) (rest := []) ⟨hx, hb, hml, hown, hts⟩ (m_X7_in l x 0 9) (va_cwS 3 hts (gS tw804 tw802 tw803 tw8) rfl rfl rfl (by decide +kernel) ⟨Nat.le_of_ble_eq_true rfl, Nat.le_of_ble_eq_true rfl⟩) ps0 rfl rfl hl.1 rfl (lv_room (Nat.le_of_ble_eq_true rfl)) dX7_warden_22 ⟨Nat.le_of_ble_eq_true rfl, Nat.le_of_ble_eq_true rfl⟩) (fun r6 hr5 => ?_)
    subst hr5
    refine lv_bI (fun c8 => ?_) (fun c8 => ?_)
    · skip
      refine lv_if_eq (tgt := 39) hx hb dX7_warden_25 (by decide) (fun h0 => absurd h0 (by decide)) (fun _ => ?_)
      refine lv_iload_n hx hb dX7_warden_28 rfl (lv_at hl 3 rfl) ?_
      refine lv_bipush (v := (-60)) hx hb dX7_warden_29 (by decide) ?_
      refine lv_bipush (v := 60) hx hb dX7_warden_31 (by decide) ?_
      refine ro_i (va_runS (As := [.int y, .int (-60), .int 60]) (rest := []) ⟨hx, hb, hml, hown, hts⟩ (m_X7_in l y (-60) 60) (va_cwS 3 hts (gS tw804 tw802 tw803 tw8) rfl rfl rfl (by decide +kernel) ⟨Nat.le_of_ble_eq_true rfl, Nat.le_of_ble_eq_true rfl⟩) ps0 rfl rfl hl.1 rfl (lv_room (Nat.le_of_ble_eq_true rfl)) dX7_warden_33 ⟨Nat.le_of_ble_eq_true rfl, Nat.le_of_ble_eq_true rfl⟩) (fun r10 hr9 => ?_)
      subst hr9
      refine lv_bI (fun c12 => ?_) (fun c12 => ?_)
      · skip
        refine lv_if_ne (tgt := 45) hx hb dX7_warden_36 (by decide) (fun _ => ?_) (fun h0 => absurd h0 (by decide))
        refine lv_aload_n hx hb dX7_warden_45 rfl (lv_at hl 0 rfl) ?_
        refine rw_v hS (va_runV (As := []) (rest := []) ⟨hx, hb, hml, hown, hts⟩ (m_X7_save l D cI cS b (mdl s kp hf (upd sc 3 0) ad bf) kn (by omega) hk0 _) (cwV 0 hts (gV tw812 tw809 tw811 ts23 tw8) rfl rfl rfl (by decide +kernel) ⟨Nat.le_of_ble_eq_true rfl, Nat.le_of_ble_eq_true rfl⟩) (pvW 0 hK hP hE (by decide) rfl rfl) rfl rfl hl.1 rfl (lv_room (Nat.le_of_ble_eq_true rfl)) dX7_warden_46 ⟨Nat.le_of_ble_eq_true rfl, Nat.le_of_ble_eq_true rfl⟩) (fun u15 H locs hr13 hP hS => ?_)
        have hP : HP D 6 b (emC cI b (mdl s kp (svH hf kn s) (upd (upd sc 3 0) 0 (nI (svK kn))) ad bf)) H := svM_cv (by omega) hP
        refine lv_aload_n hx hb dX7_warden_49 rfl (lv_at hl 0 rfl) ?_
        refine g_get hx hb hts hown inA7 hK hP 0 (by decide) rfl rfl 0 (by decide) tw760 rfl (v := .ref (b 1)) rfl dX7_warden_50 ?_
        refine lv_bipush (v := 48) hx hb dX7_warden_53 (by decide) ?_
        refine lv_iload_n hx hb dX7_warden_55 rfl (lv_at hl 1 rfl) ?_
        refine lv_iadd hx hb dX7_warden_56 ?_
        refine lv_as (y := nI (48 + w)) (nI_add2 (p := 48) (q := w) rfl rfl) ?_
        refine g_iald hx hb hK hP 1 (by decide) rfl (48 + w) rfl (by omega) (by decide) dX7_warden_57 (v := s 7 w) ((fl_g7 (s := s) (d := w) (by omega)).trans rfl) ?_
        refine lv_istore (lv' := [(4, .int (s 7 w)), (0, .ref (b 0)), (1, .int (nI w)), (2, .int x), (3, .int y)]) hx hb dX7_warden_58 hl (by decide) rfl (fun ls hl => ?_)
        refine lv_aload_n hx hb dX7_warden_60 rfl (lv_at hl 1 rfl) ?_
        refine g_get hx hb hts hown inA7 hK hP 0 (by decide) rfl rfl 0 (by decide) tw760 rfl (v := .ref (b 1)) rfl dX7_warden_61 ?_
        refine lv_bipush (v := 48) hx hb dX7_warden_64 (by decide) ?_
        refine lv_iload_n hx hb dX7_warden_66 rfl (lv_at hl 2 rfl) ?_
        refine lv_iadd hx hb dX7_warden_67 ?_
        refine lv_as (y := nI (48 + w)) (nI_add2 (p := 48) (q := w) rfl rfl) ?_
        refine lv_iload_n hx hb dX7_warden_68 rfl (lv_at hl 3 rfl) ?_
        refine g_iast hx hb hK hP hE hS 1 (by decide) rfl (48 + w) rfl (by omega) (by omega) dX7_warden_69 (ex' := emC cI b (mdl (up2 s 7 w x) kp (svH hf kn s) (upd (upd sc 3 0) 0 (nI (svK kn))) ad bf)) (fl_e (fl_s7 (d := w) (by omega))) mm_s (fun H locs hP hS => ?_)
        refine lv_aload_n hx hb dX7_warden_70 rfl (lv_at hl 1 rfl) ?_
        refine g_get hx hb hts hown inA7 hK hP 0 (by decide) rfl rfl 0 (by decide) tw760 rfl (v := .ref (b 1)) rfl dX7_warden_71 ?_
        refine lv_bipush (v := 55) hx hb dX7_warden_74 (by decide) ?_
        refine lv_iload_n hx hb dX7_warden_76 rfl (lv_at hl 2 rfl) ?_
        refine lv_iadd hx hb dX7_warden_77 ?_
        refine lv_as (y := nI (55 + w)) (nI_add2 (p := 55) (q := w) rfl rfl) ?_
        refine lv_iload_n hx hb dX7_warden_78 rfl (lv_at hl 4 rfl) ?_
        refine g_iast hx hb hK hP hE hS 1 (by decide) rfl (55 + w) rfl (by omega) (by omega) dX7_warden_79 (ex' := emC cI b (mdl (up2 (up2 s 7 w x) 8 w y) kp (svH hf kn s) (upd (upd sc 3 0) 0 (nI (svK kn))) ad bf)) (fl_e (fl_s8 (d := w) (by omega))) mm_s (fun H locs hP hS => ?_)
        refine lv_iload hx hb dX7_warden_80 (lv_at hl 0 rfl) ?_
        exact rw_ir hx hb hr rfl hlocks hS () hP rfl dX7_warden_82
      · skip
        exact absurd hy9 c12
    · skip
      exact absurd hx9 c8
  · skip
    exact absurd hin c4

set_option maxHeartbeats 4000000 in
set_option maxRecDepth 100000 in
theorem mx_X7_warden (l : Launch) (D : va_G) (cI cS : ClassId) (b : Nat → Nat) (s kp : St) (hf : Nat → St) (sc ad bf : Nat → Int32) (v x y : Int32) (hv9 : ¬ witB v 0 6) (zz : Nat) : Met l yX7_warden (.code yX7_warden cX7_warden 5 (some .int) :: wsA) ({ frames := 2, cells := 0, slots := 0, locals := 42 } : Room) (va_Pc [.ref (b 0), .int v, .int x, .int y] (PW D cI cS 6 b (emC cI b (mdl s kp hf sc ad bf)) zz)) (va_Qi (fun (r : Int32) (u : Unit) => r = 0) (BW D 6 b (fun u => emC cI b (mdl s kp hf (upd (upd sc 3 0) 3 1) ad bf))) (AX 6 b zz)) 0 0 (AX 6 b zz) := by
  refine mgo (by decide) (Nat.le_of_ble_eq_true rfl) ?_
  intro p e z m below meth c hx hb hr hml hown hts hlocks hB ls hl
  obtain ⟨hsz, hP, hK, hE⟩ := hB
  subst hsz
  have hS : va_S (AX 6 b z.heap.size) z.heap z.heap [] := va_S.rf
  have hl : lv_has ls 5 [(0, .ref (b 0)), (1, .int v), (2, .int x), (3, .int y)] := hl
  refine lv_aload_n hx hb dX7_warden_0 rfl (lv_at hl 0 rfl) ?_
  refine lv_iconst (v := 0) hx hb dX7_warden_1 (by decide) ?_
  refine g_put hx hb hts hown inA7 tyX7 tyX7_ok nmX7 hK hP hE hS 0 (by decide) rfl rfl 8 (by decide) tw768 rfl rfl (ty := .int) (by decide +kernel) rfl rfl (Nat.le_of_ble_eq_true rfl) dX7_warden_2 (ex' := emC cI b (mdl s kp hf (upd sc 3 0) ad bf)) rfl mm_sc (fun H locs hP hS => ?_)
  refine lv_iload_n hx hb dX7_warden_5 rfl (lv_at hl 1 rfl) ?_
  refine ro_i (va_runS (As := [.int v]) (rest := []) ⟨hx, hb, hml, hown, hts⟩ (m_X7_isDial l v) (va_cwS 1 hts (gS tw882 tw880 tw881 tw8) rfl rfl rfl (by decide +kernel) ⟨Nat.le_of_ble_eq_true rfl, Nat.le_of_ble_eq_true rfl⟩) ps0 rfl rfl hl.1 rfl (lv_room (Nat.le_of_ble_eq_true rfl)) dX7_warden_6 ⟨Nat.le_of_ble_eq_true rfl, Nat.le_of_ble_eq_true rfl⟩) (fun r2 hr1 => ?_)
  subst hr1
  refine lv_bI (fun c4 => ?_) (fun c4 => ?_)
  · skip
    exact absurd c4 hv9
  · skip
    refine lv_if_ne (tgt := 18) hx hb dX7_warden_9 (by decide) (fun h0 => absurd (by decide) h0) (fun _ => ?_)
    refine lv_aload_n hx hb dX7_warden_12 rfl (lv_at hl 0 rfl) ?_
    refine lv_iconst (v := 1) hx hb dX7_warden_13 (by decide) ?_
    refine rw_i hS (va_runV (As := [.int 1]) (rest := []) ⟨hx, hb, hml, hown, hts⟩ (m_X7_throwing l D cI cS b s kp hf (upd sc 3 0) ad bf 1 _) (cwV 1 hts (gV tw808 tw805 tw807 ts22 tw8) rfl rfl rfl (by decide +kernel) ⟨Nat.le_of_ble_eq_true rfl, Nat.le_of_ble_eq_true rfl⟩) (pvW 0 hK hP hE (by decide) rfl rfl) rfl rfl hl.1 rfl (lv_room (Nat.le_of_ble_eq_true rfl)) dX7_warden_14 ⟨Nat.le_of_ble_eq_true rfl, Nat.le_of_ble_eq_true rfl⟩) (fun r6 u7 H locs hr5 hP hS => ?_)
    subst hr5
    exact rw_ir hx hb hr rfl hlocks hS () hP rfl dX7_warden_17

set_option maxHeartbeats 4000000 in
set_option maxRecDepth 100000 in
theorem mx2_X7_warden (l : Launch) (D : va_G) (cI cS : ClassId) (b : Nat → Nat) (s kp : St) (hf : Nat → St) (sc ad bf : Nat → Int32) (v x y : Int32) (hv9 : witB v 0 6) (hx9 : ¬ witB x 0 9) (zz : Nat) : Met l yX7_warden (.code yX7_warden cX7_warden 5 (some .int) :: wsA) ({ frames := 2, cells := 0, slots := 0, locals := 42 } : Room) (va_Pc [.ref (b 0), .int v, .int x, .int y] (PW D cI cS 6 b (emC cI b (mdl s kp hf sc ad bf)) zz)) (va_Qi (fun (r : Int32) (u : Unit) => r = 0) (BW D 6 b (fun u => emC cI b (mdl s kp hf (upd (upd sc 3 0) 3 2) ad bf))) (AX 6 b zz)) 0 0 (AX 6 b zz) := by
  refine mgo (by decide) (Nat.le_of_ble_eq_true rfl) ?_
  intro p e z m below meth c hx hb hr hml hown hts hlocks hB ls hl
  obtain ⟨hsz, hP, hK, hE⟩ := hB
  subst hsz
  have hS : va_S (AX 6 b z.heap.size) z.heap z.heap [] := va_S.rf
  have hl : lv_has ls 5 [(0, .ref (b 0)), (1, .int v), (2, .int x), (3, .int y)] := hl
  refine lv_aload_n hx hb dX7_warden_0 rfl (lv_at hl 0 rfl) ?_
  refine lv_iconst (v := 0) hx hb dX7_warden_1 (by decide) ?_
  refine g_put hx hb hts hown inA7 tyX7 tyX7_ok nmX7 hK hP hE hS 0 (by decide) rfl rfl 8 (by decide) tw768 rfl rfl (ty := .int) (by decide +kernel) rfl rfl (Nat.le_of_ble_eq_true rfl) dX7_warden_2 (ex' := emC cI b (mdl s kp hf (upd sc 3 0) ad bf)) rfl mm_sc (fun H locs hP hS => ?_)
  refine lv_iload_n hx hb dX7_warden_5 rfl (lv_at hl 1 rfl) ?_
  refine ro_i (va_runS (As := [.int v]) (rest := []) ⟨hx, hb, hml, hown, hts⟩ (m_X7_isDial l v) (va_cwS 1 hts (gS tw882 tw880 tw881 tw8) rfl rfl rfl (by decide +kernel) ⟨Nat.le_of_ble_eq_true rfl, Nat.le_of_ble_eq_true rfl⟩) ps0 rfl rfl hl.1 rfl (lv_room (Nat.le_of_ble_eq_true rfl)) dX7_warden_6 ⟨Nat.le_of_ble_eq_true rfl, Nat.le_of_ble_eq_true rfl⟩) (fun r2 hr1 => ?_)
  subst hr1
  refine lv_bI (fun c4 => ?_) (fun c4 => ?_)
  · skip
    refine lv_if_ne (tgt := 18) hx hb dX7_warden_9 (by decide) (fun _ => ?_) (fun h0 => absurd h0 (by decide))
    refine lv_iload_n hx hb dX7_warden_18 rfl (lv_at hl 2 rfl) ?_
    refine lv_iconst (v := 0) hx hb dX7_warden_19 (by decide) ?_
    refine lv_bipush (v := 9) hx hb dX7_warden_20 (by decide) ?_
    refine ro_i (va_runS (As := [.int x, .int 0, .int 9]) (rest := []) ⟨hx, hb, hml, hown, hts⟩ (m_X7_in l x 0 9) (va_cwS 3 hts (gS tw804 tw802 tw803 tw8) rfl rfl rfl (by decide +kernel) ⟨Nat.le_of_ble_eq_true rfl, Nat.le_of_ble_eq_true rfl⟩) ps0 rfl rfl hl.1 rfl (lv_room (Nat.le_of_ble_eq_true rfl)) dX7_warden_22 ⟨Nat.le_of_ble_eq_true rfl, Nat.le_of_ble_eq_true rfl⟩) (fun r6 hr5 => ?_)
    subst hr5
    refine lv_bI (fun c8 => ?_) (fun c8 => ?_)
    · skip
      exact absurd c8 hx9
    · skip
      refine lv_if_eq (tgt := 39) hx hb dX7_warden_25 (by decide) (fun _ => ?_) (fun h0 => absurd (by decide) h0)
      refine lv_aload_n hx hb dX7_warden_39 rfl (lv_at hl 0 rfl) ?_
      refine lv_iconst (v := 2) hx hb dX7_warden_40 (by decide) ?_
      refine rw_i hS (va_runV (As := [.int 2]) (rest := []) ⟨hx, hb, hml, hown, hts⟩ (m_X7_throwing l D cI cS b s kp hf (upd sc 3 0) ad bf 2 _) (cwV 1 hts (gV tw808 tw805 tw807 ts22 tw8) rfl rfl rfl (by decide +kernel) ⟨Nat.le_of_ble_eq_true rfl, Nat.le_of_ble_eq_true rfl⟩) (pvW 0 hK hP hE (by decide) rfl rfl) rfl rfl hl.1 rfl (lv_room (Nat.le_of_ble_eq_true rfl)) dX7_warden_41 ⟨Nat.le_of_ble_eq_true rfl, Nat.le_of_ble_eq_true rfl⟩) (fun r10 u11 H locs hr9 hP hS => ?_)
      subst hr9
      exact rw_ir hx hb hr rfl hlocks hS () hP rfl dX7_warden_44
  · skip
    exact absurd hv9 c4

set_option maxHeartbeats 4000000 in
set_option maxRecDepth 100000 in
theorem mx3_X7_warden (l : Launch) (D : va_G) (cI cS : ClassId) (b : Nat → Nat) (s kp : St) (hf : Nat → St) (sc ad bf : Nat → Int32) (v x y : Int32) (hv9 : witB v 0 6) (hx9 : witB x 0 9) (hy9 : ¬ witB y (-60) 60) (zz : Nat) : Met l yX7_warden (.code yX7_warden cX7_warden 5 (some .int) :: wsA) ({ frames := 2, cells := 0, slots := 0, locals := 42 } : Room) (va_Pc [.ref (b 0), .int v, .int x, .int y] (PW D cI cS 6 b (emC cI b (mdl s kp hf sc ad bf)) zz)) (va_Qi (fun (r : Int32) (u : Unit) => r = 0) (BW D 6 b (fun u => emC cI b (mdl s kp hf (upd (upd sc 3 0) 3 2) ad bf))) (AX 6 b zz)) 0 0 (AX 6 b zz) := by
  refine mgo (by decide) (Nat.le_of_ble_eq_true rfl) ?_
  intro p e z m below meth c hx hb hr hml hown hts hlocks hB ls hl
  obtain ⟨hsz, hP, hK, hE⟩ := hB
  subst hsz
  have hS : va_S (AX 6 b z.heap.size) z.heap z.heap [] := va_S.rf
  have hl : lv_has ls 5 [(0, .ref (b 0)), (1, .int v), (2, .int x), (3, .int y)] := hl
  refine lv_aload_n hx hb dX7_warden_0 rfl (lv_at hl 0 rfl) ?_
  refine lv_iconst (v := 0) hx hb dX7_warden_1 (by decide) ?_
  refine g_put hx hb hts hown inA7 tyX7 tyX7_ok nmX7 hK hP hE hS 0 (by decide) rfl rfl 8 (by decide) tw768 rfl rfl (ty := .int) (by decide +kernel) rfl rfl (Nat.le_of_ble_eq_true rfl) dX7_warden_2 (ex' := emC cI b (mdl s kp hf (upd sc 3 0) ad bf)) rfl mm_sc (fun H locs hP hS => ?_)
  refine lv_iload_n hx hb dX7_warden_5 rfl (lv_at hl 1 rfl) ?_
  refine ro_i (va_runS (As := [.int v]) (rest := []) ⟨hx, hb, hml, hown, hts⟩ (m_X7_isDial l v) (va_cwS 1 hts (gS tw882 tw880 tw881 tw8) rfl rfl rfl (by decide +kernel) ⟨Nat.le_of_ble_eq_true rfl, Nat.le_of_ble_eq_true rfl⟩) ps0 rfl rfl hl.1 rfl (lv_room (Nat.le_of_ble_eq_true rfl)) dX7_warden_6 ⟨Nat.le_of_ble_eq_true rfl, Nat.le_of_ble_eq_true rfl⟩) (fun r2 hr1 => ?_)
  subst hr1
  refine lv_bI (fun c4 => ?_) (fun c4 => ?_)
  · skip
    refine lv_if_ne (tgt := 18) hx hb dX7_warden_9 (by decide) (fun _ => ?_) (fun h0 => absurd h0 (by decide))
    refine lv_iload_n hx hb dX7_warden_18 rfl (lv_at hl 2 rfl) ?_
    refine lv_iconst (v := 0) hx hb dX7_warden_19 (by decide) ?_
    refine lv_bipush (v := 9) hx hb dX7_warden_20 (by decide) ?_
    refine ro_i (va_runS (As := [.int x, .int 0, .int 9]) (rest := []) ⟨hx, hb, hml, hown, hts⟩ (m_X7_in l x 0 9) (va_cwS 3 hts (gS tw804 tw802 tw803 tw8) rfl rfl rfl (by decide +kernel) ⟨Nat.le_of_ble_eq_true rfl, Nat.le_of_ble_eq_true rfl⟩) ps0 rfl rfl hl.1 rfl (lv_room (Nat.le_of_ble_eq_true rfl)) dX7_warden_22 ⟨Nat.le_of_ble_eq_true rfl, Nat.le_of_ble_eq_true rfl⟩) (fun r6 hr5 => ?_)
    subst hr5
    refine lv_bI (fun c8 => ?_) (fun c8 => ?_)
    · skip
      refine lv_if_eq (tgt := 39) hx hb dX7_warden_25 (by decide) (fun h0 => absurd h0 (by decide)) (fun _ => ?_)
      refine lv_iload_n hx hb dX7_warden_28 rfl (lv_at hl 3 rfl) ?_
      refine lv_bipush (v := (-60)) hx hb dX7_warden_29 (by decide) ?_
      refine lv_bipush (v := 60) hx hb dX7_warden_31 (by decide) ?_
      refine ro_i (va_runS (As := [.int y, .int (-60), .int 60]) (rest := []) ⟨hx, hb, hml, hown, hts⟩ (m_X7_in l y (-60) 60) (va_cwS 3 hts (gS tw804 tw802 tw803 tw8) rfl rfl rfl (by decide +kernel) ⟨Nat.le_of_ble_eq_true rfl, Nat.le_of_ble_eq_true rfl⟩) ps0 rfl rfl hl.1 rfl (lv_room (Nat.le_of_ble_eq_true rfl)) dX7_warden_33 ⟨Nat.le_of_ble_eq_true rfl, Nat.le_of_ble_eq_true rfl⟩) (fun r10 hr9 => ?_)
      subst hr9
      refine lv_bI (fun c12 => ?_) (fun c12 => ?_)
      · skip
        exact absurd c12 hy9
      · skip
        refine lv_if_ne (tgt := 45) hx hb dX7_warden_36 (by decide) (fun h0 => absurd (by decide) h0) (fun _ => ?_)
        refine lv_aload_n hx hb dX7_warden_39 rfl (lv_at hl 0 rfl) ?_
        refine lv_iconst (v := 2) hx hb dX7_warden_40 (by decide) ?_
        refine rw_i hS (va_runV (As := [.int 2]) (rest := []) ⟨hx, hb, hml, hown, hts⟩ (m_X7_throwing l D cI cS b s kp hf (upd sc 3 0) ad bf 2 _) (cwV 1 hts (gV tw808 tw805 tw807 ts22 tw8) rfl rfl rfl (by decide +kernel) ⟨Nat.le_of_ble_eq_true rfl, Nat.le_of_ble_eq_true rfl⟩) (pvW 0 hK hP hE (by decide) rfl rfl) rfl rfl hl.1 rfl (lv_room (Nat.le_of_ble_eq_true rfl)) dX7_warden_41 ⟨Nat.le_of_ble_eq_true rfl, Nat.le_of_ble_eq_true rfl⟩) (fun r14 u15 H locs hr13 hP hS => ?_)
        subst hr13
        exact rw_ir hx hb hr rfl hlocks hS () hP rfl dX7_warden_44
    · skip
      exact absurd hx9 c8
  · skip
    exact absurd hv9 c4

set_option maxHeartbeats 4000000 in
set_option maxRecDepth 100000 in
theorem m_X7_append (l : Launch) (D : va_G) (cI cS : ClassId) (b : Nat → Nat) (s kp : St) (hf : Nat → St) (sc ad bf : Nat → Int32) (ln : Nat) (hln : ln ≤ 60) (hl0 : sc 2 = nI ln) (hl6 : ln < 60) (x : Int32) (hx9 : witB x 33 126) (zz : Nat) : Met l yX7_append (.code yX7_append cX7_append 2 (some .int) :: wsA) ({ frames := 1, cells := 0, slots := 0, locals := 22 } : Room) (va_Pc [.ref (b 0), .int x] (PW D cI cS 6 b (emC cI b (mdl s kp hf sc ad bf)) zz)) (va_Qi (fun (r : Int32) (u : Unit) => r = nI (ln + 1)) (BW D 6 b (fun u => emC cI b (mdl s kp hf (upd (upd sc 3 0) 2 (nI (ln + 1))) ad (upd bf ln x)))) (AX 6 b zz)) 0 0 (AX 6 b zz) := by
  refine mgo (by decide) (Nat.le_of_ble_eq_true rfl) ?_
  intro p e z m below meth c hx hb hr hml hown hts hlocks hB ls hl
  obtain ⟨hsz, hP, hK, hE⟩ := hB
  subst hsz
  have hS : va_S (AX 6 b z.heap.size) z.heap z.heap [] := va_S.rf
  have hl : lv_has ls 2 [(0, .ref (b 0)), (1, .int x)] := hl
  refine lv_aload_n hx hb dX7_append_0 rfl (lv_at hl 0 rfl) ?_
  refine lv_iconst (v := 0) hx hb dX7_append_1 (by decide) ?_
  refine g_put hx hb hts hown inA7 tyX7 tyX7_ok nmX7 hK hP hE hS 0 (by decide) rfl rfl 8 (by decide) tw768 rfl rfl (ty := .int) (by decide +kernel) rfl rfl (Nat.le_of_ble_eq_true rfl) dX7_append_2 (ex' := emC cI b (mdl s kp hf (upd sc 3 0) ad bf)) rfl mm_sc (fun H locs hP hS => ?_)
  refine lv_iload_n hx hb dX7_append_5 rfl (lv_at hl 1 rfl) ?_
  refine lv_bipush (v := 33) hx hb dX7_append_6 (by decide) ?_
  refine lv_bipush (v := 126) hx hb dX7_append_8 (by decide) ?_
  refine ro_i (va_runS (As := [.int x, .int 33, .int 126]) (rest := []) ⟨hx, hb, hml, hown, hts⟩ (m_X7_in l x 33 126) (va_cwS 3 hts (gS tw804 tw802 tw803 tw8) rfl rfl rfl (by decide +kernel) ⟨Nat.le_of_ble_eq_true rfl, Nat.le_of_ble_eq_true rfl⟩) ps0 rfl rfl hl.1 rfl (lv_room (Nat.le_of_ble_eq_true rfl)) dX7_append_10 ⟨Nat.le_of_ble_eq_true rfl, Nat.le_of_ble_eq_true rfl⟩) (fun r2 hr1 => ?_)
  subst hr1
  refine lv_bI (fun c4 => ?_) (fun c4 => ?_)
  · skip
    refine lv_if_ne (tgt := 22) hx hb dX7_append_13 (by decide) (fun _ => ?_) (fun h0 => absurd h0 (by decide))
    refine lv_aload_n hx hb dX7_append_22 rfl (lv_at hl 0 rfl) ?_
    refine g_get hx hb hts hown inA7 hK hP 0 (by decide) rfl rfl 7 (by decide) tw767 rfl (v := .int (sc 2)) rfl dX7_append_23 ?_
    refine lv_bipush (v := 60) hx hb dX7_append_26 (by decide) ?_
    refine lv_icmp_ne (tgt := 37) hx hb dX7_append_28 (by decide) (fun _ => ?_) (fun h0 => absurd h0 (fun h => by have := (nI_eq2 (p := ln) (q := 60) hl0 rfl (by omega) (by omega)).mp h; omega))
    refine lv_aload_n hx hb dX7_append_37 rfl (lv_at hl 0 rfl) ?_
    refine g_get hx hb hts hown inA7 hK hP 0 (by decide) rfl rfl 6 (by decide) tw766 rfl (v := .ref (b 5)) rfl dX7_append_38 ?_
    refine lv_aload_n hx hb dX7_append_41 rfl (lv_at hl 0 rfl) ?_
    refine g_get hx hb hts hown inA7 hK hP 0 (by decide) rfl rfl 7 (by decide) tw767 rfl (v := .int (sc 2)) rfl dX7_append_42 ?_
    refine lv_iload_n hx hb dX7_append_45 rfl (lv_at hl 1 rfl) ?_
    refine g_iast hx hb hK hP hE hS 5 (by decide) rfl ln hl0 (by omega) (by omega) dX7_append_46 (ex' := emC cI b (mdl s kp hf (upd sc 3 0) ad (upd bf ln x))) rfl mm_bf (fun H locs hP hS => ?_)
    refine lv_aload_n hx hb dX7_append_47 rfl (lv_at hl 0 rfl) ?_
    refine lv_dup hx hb dX7_append_48 rfl ?_
    refine g_get hx hb hts hown inA7 hK hP 0 (by decide) rfl rfl 7 (by decide) tw767 rfl (v := .int (sc 2)) rfl dX7_append_49 ?_
    refine lv_iconst (v := 1) hx hb dX7_append_52 (by decide) ?_
    refine lv_iadd hx hb dX7_append_53 ?_
    refine lv_as (y := nI (ln + 1)) (nI_add2 (p := ln) (q := 1) hl0 rfl) ?_
    refine g_put hx hb hts hown inA7 tyX7 tyX7_ok nmX7 hK hP hE hS 0 (by decide) rfl rfl 7 (by decide) tw767 rfl rfl (ty := .int) (by decide +kernel) rfl rfl (Nat.le_of_ble_eq_true rfl) dX7_append_54 (ex' := emC cI b (mdl s kp hf (upd (upd sc 3 0) 2 (nI (ln + 1))) ad (upd bf ln x))) rfl mm_sc (fun H locs hP hS => ?_)
    refine lv_aload_n hx hb dX7_append_57 rfl (lv_at hl 0 rfl) ?_
    refine g_get hx hb hts hown inA7 hK hP 0 (by decide) rfl rfl 7 (by decide) tw767 rfl (v := .int (nI (ln + 1))) rfl dX7_append_58 ?_
    exact rw_ir hx hb hr rfl hlocks hS () hP rfl dX7_append_61
  · skip
    exact absurd hx9 c4

set_option maxHeartbeats 4000000 in
set_option maxRecDepth 100000 in
theorem mx_X7_append (l : Launch) (D : va_G) (cI cS : ClassId) (b : Nat → Nat) (s kp : St) (hf : Nat → St) (sc ad bf : Nat → Int32) (x : Int32) (hx9 : ¬ witB x 33 126) (zz : Nat) : Met l yX7_append (.code yX7_append cX7_append 2 (some .int) :: wsA) ({ frames := 1, cells := 0, slots := 0, locals := 22 } : Room) (va_Pc [.ref (b 0), .int x] (PW D cI cS 6 b (emC cI b (mdl s kp hf sc ad bf)) zz)) (va_Qi (fun (r : Int32) (u : Unit) => r = 0) (BW D 6 b (fun u => emC cI b (mdl s kp hf (upd (upd sc 3 0) 3 1) ad bf))) (AX 6 b zz)) 0 0 (AX 6 b zz) := by
  refine mgo (by decide) (Nat.le_of_ble_eq_true rfl) ?_
  intro p e z m below meth c hx hb hr hml hown hts hlocks hB ls hl
  obtain ⟨hsz, hP, hK, hE⟩ := hB
  subst hsz
  have hS : va_S (AX 6 b z.heap.size) z.heap z.heap [] := va_S.rf
  have hl : lv_has ls 2 [(0, .ref (b 0)), (1, .int x)] := hl
  refine lv_aload_n hx hb dX7_append_0 rfl (lv_at hl 0 rfl) ?_
  refine lv_iconst (v := 0) hx hb dX7_append_1 (by decide) ?_
  refine g_put hx hb hts hown inA7 tyX7 tyX7_ok nmX7 hK hP hE hS 0 (by decide) rfl rfl 8 (by decide) tw768 rfl rfl (ty := .int) (by decide +kernel) rfl rfl (Nat.le_of_ble_eq_true rfl) dX7_append_2 (ex' := emC cI b (mdl s kp hf (upd sc 3 0) ad bf)) rfl mm_sc (fun H locs hP hS => ?_)
  refine lv_iload_n hx hb dX7_append_5 rfl (lv_at hl 1 rfl) ?_
  refine lv_bipush (v := 33) hx hb dX7_append_6 (by decide) ?_
  refine lv_bipush (v := 126) hx hb dX7_append_8 (by decide) ?_
  refine ro_i (va_runS (As := [.int x, .int 33, .int 126]) (rest := []) ⟨hx, hb, hml, hown, hts⟩ (m_X7_in l x 33 126) (va_cwS 3 hts (gS tw804 tw802 tw803 tw8) rfl rfl rfl (by decide +kernel) ⟨Nat.le_of_ble_eq_true rfl, Nat.le_of_ble_eq_true rfl⟩) ps0 rfl rfl hl.1 rfl (lv_room (Nat.le_of_ble_eq_true rfl)) dX7_append_10 ⟨Nat.le_of_ble_eq_true rfl, Nat.le_of_ble_eq_true rfl⟩) (fun r2 hr1 => ?_)
  subst hr1
  refine lv_bI (fun c4 => ?_) (fun c4 => ?_)
  · skip
    exact absurd c4 hx9
  · skip
    refine lv_if_ne (tgt := 22) hx hb dX7_append_13 (by decide) (fun h0 => absurd (by decide) h0) (fun _ => ?_)
    refine lv_aload_n hx hb dX7_append_16 rfl (lv_at hl 0 rfl) ?_
    refine lv_iconst (v := 1) hx hb dX7_append_17 (by decide) ?_
    refine rw_i hS (va_runV (As := [.int 1]) (rest := []) ⟨hx, hb, hml, hown, hts⟩ (m_X7_throwing l D cI cS b s kp hf (upd sc 3 0) ad bf 1 _) (cwV 1 hts (gV tw808 tw805 tw807 ts22 tw8) rfl rfl rfl (by decide +kernel) ⟨Nat.le_of_ble_eq_true rfl, Nat.le_of_ble_eq_true rfl⟩) (pvW 0 hK hP hE (by decide) rfl rfl) rfl rfl hl.1 rfl (lv_room (Nat.le_of_ble_eq_true rfl)) dX7_append_18 ⟨Nat.le_of_ble_eq_true rfl, Nat.le_of_ble_eq_true rfl⟩) (fun r6 u7 H locs hr5 hP hS => ?_)
    subst hr5
    exact rw_ir hx hb hr rfl hlocks hS () hP rfl dX7_append_21

set_option maxHeartbeats 4000000 in
set_option maxRecDepth 100000 in
theorem mx2_X7_append (l : Launch) (D : va_G) (cI cS : ClassId) (b : Nat → Nat) (s kp : St) (hf : Nat → St) (sc ad bf : Nat → Int32) (ln : Nat) (hln : ln = 60) (hl0 : sc 2 = nI ln) (x : Int32) (hx9 : witB x 33 126) (zz : Nat) : Met l yX7_append (.code yX7_append cX7_append 2 (some .int) :: wsA) ({ frames := 1, cells := 0, slots := 0, locals := 22 } : Room) (va_Pc [.ref (b 0), .int x] (PW D cI cS 6 b (emC cI b (mdl s kp hf sc ad bf)) zz)) (va_Qi (fun (r : Int32) (u : Unit) => r = 0) (BW D 6 b (fun u => emC cI b (mdl s kp hf (upd (upd sc 3 0) 3 2) ad bf))) (AX 6 b zz)) 0 0 (AX 6 b zz) := by
  refine mgo (by decide) (Nat.le_of_ble_eq_true rfl) ?_
  intro p e z m below meth c hx hb hr hml hown hts hlocks hB ls hl
  obtain ⟨hsz, hP, hK, hE⟩ := hB
  subst hsz
  have hS : va_S (AX 6 b z.heap.size) z.heap z.heap [] := va_S.rf
  have hl : lv_has ls 2 [(0, .ref (b 0)), (1, .int x)] := hl
  refine lv_aload_n hx hb dX7_append_0 rfl (lv_at hl 0 rfl) ?_
  refine lv_iconst (v := 0) hx hb dX7_append_1 (by decide) ?_
  refine g_put hx hb hts hown inA7 tyX7 tyX7_ok nmX7 hK hP hE hS 0 (by decide) rfl rfl 8 (by decide) tw768 rfl rfl (ty := .int) (by decide +kernel) rfl rfl (Nat.le_of_ble_eq_true rfl) dX7_append_2 (ex' := emC cI b (mdl s kp hf (upd sc 3 0) ad bf)) rfl mm_sc (fun H locs hP hS => ?_)
  refine lv_iload_n hx hb dX7_append_5 rfl (lv_at hl 1 rfl) ?_
  refine lv_bipush (v := 33) hx hb dX7_append_6 (by decide) ?_
  refine lv_bipush (v := 126) hx hb dX7_append_8 (by decide) ?_
  refine ro_i (va_runS (As := [.int x, .int 33, .int 126]) (rest := []) ⟨hx, hb, hml, hown, hts⟩ (m_X7_in l x 33 126) (va_cwS 3 hts (gS tw804 tw802 tw803 tw8) rfl rfl rfl (by decide +kernel) ⟨Nat.le_of_ble_eq_true rfl, Nat.le_of_ble_eq_true rfl⟩) ps0 rfl rfl hl.1 rfl (lv_room (Nat.le_of_ble_eq_true rfl)) dX7_append_10 ⟨Nat.le_of_ble_eq_true rfl, Nat.le_of_ble_eq_true rfl⟩) (fun r2 hr1 => ?_)
  subst hr1
  refine lv_bI (fun c4 => ?_) (fun c4 => ?_)
  · skip
    refine lv_if_ne (tgt := 22) hx hb dX7_append_13 (by decide) (fun _ => ?_) (fun h0 => absurd h0 (by decide))
    refine lv_aload_n hx hb dX7_append_22 rfl (lv_at hl 0 rfl) ?_
    refine g_get hx hb hts hown inA7 hK hP 0 (by decide) rfl rfl 7 (by decide) tw767 rfl (v := .int (sc 2)) rfl dX7_append_23 ?_
    refine lv_bipush (v := 60) hx hb dX7_append_26 (by decide) ?_
    refine lv_icmp_ne (tgt := 37) hx hb dX7_append_28 (by decide) (fun h0 => absurd h0 (fun h => h ((nI_eq2 (p := ln) (q := 60) hl0 rfl (by omega) (by omega)).mpr (by omega)))) (fun _ => ?_)
    refine lv_aload_n hx hb dX7_append_31 rfl (lv_at hl 0 rfl) ?_
    refine lv_iconst (v := 2) hx hb dX7_append_32 (by decide) ?_
    refine rw_i hS (va_runV (As := [.int 2]) (rest := []) ⟨hx, hb, hml, hown, hts⟩ (m_X7_throwing l D cI cS b s kp hf (upd sc 3 0) ad bf 2 _) (cwV 1 hts (gV tw808 tw805 tw807 ts22 tw8) rfl rfl rfl (by decide +kernel) ⟨Nat.le_of_ble_eq_true rfl, Nat.le_of_ble_eq_true rfl⟩) (pvW 0 hK hP hE (by decide) rfl rfl) rfl rfl hl.1 rfl (lv_room (Nat.le_of_ble_eq_true rfl)) dX7_append_33 ⟨Nat.le_of_ble_eq_true rfl, Nat.le_of_ble_eq_true rfl⟩) (fun r6 u7 H locs hr5 hP hS => ?_)
    subst hr5
    exact rw_ir hx hb hr rfl hlocks hS () hP rfl dX7_append_36
  · skip
    exact absurd hx9 c4

set_option maxHeartbeats 4000000 in
set_option maxRecDepth 100000 in
theorem m_X7_clearBuffer (l : Launch) (D : va_G) (cI cS : ClassId) (b : Nat → Nat) (s kp : St) (hf : Nat → St) (sc ad bf : Nat → Int32) (ln : Nat) (hln : ln ≤ 60) (hl0 : sc 2 = nI ln) (zz : Nat) : Met l yX7_clearBuffer (.code yX7_clearBuffer cX7_clearBuffer 2 (some .int) :: wsA) ({ frames := 0, cells := 0, slots := 0, locals := 0 } : Room) (va_Pc [.ref (b 0)] (PW D cI cS 6 b (emC cI b (mdl s kp hf sc ad bf)) zz)) (va_Qi (fun (r : Int32) (u : Unit) => r = nI ln) (BW D 6 b (fun u => emC cI b (mdl s kp hf (upd (upd sc 3 0) 2 0) ad bf))) (AX 6 b zz)) 0 0 (AX 6 b zz) := by
  refine mgo (by decide) (Nat.le_of_ble_eq_true rfl) ?_
  intro p e z m below meth c hx hb hr hml hown hts hlocks hB ls hl
  obtain ⟨hsz, hP, hK, hE⟩ := hB
  subst hsz
  have hS : va_S (AX 6 b z.heap.size) z.heap z.heap [] := va_S.rf
  have hl : lv_has ls 2 [(0, .ref (b 0))] := hl
  refine lv_aload_n hx hb dX7_clearBuffer_0 rfl (lv_at hl 0 rfl) ?_
  refine lv_iconst (v := 0) hx hb dX7_clearBuffer_1 (by decide) ?_
  refine g_put hx hb hts hown inA7 tyX7 tyX7_ok nmX7 hK hP hE hS 0 (by decide) rfl rfl 8 (by decide) tw768 rfl rfl (ty := .int) (by decide +kernel) rfl rfl (Nat.le_of_ble_eq_true rfl) dX7_clearBuffer_2 (ex' := emC cI b (mdl s kp hf (upd sc 3 0) ad bf)) rfl mm_sc (fun H locs hP hS => ?_)
  refine lv_aload_n hx hb dX7_clearBuffer_5 rfl (lv_at hl 0 rfl) ?_
  refine g_get hx hb hts hown inA7 hK hP 0 (by decide) rfl rfl 7 (by decide) tw767 rfl (v := .int (sc 2)) rfl dX7_clearBuffer_6 ?_
  refine lv_istore_n (lv' := [(1, .int (sc 2)), (0, .ref (b 0))]) hx hb dX7_clearBuffer_9 rfl hl (by decide) rfl (fun ls hl => ?_)
  refine lv_aload_n hx hb dX7_clearBuffer_10 rfl (lv_at hl 1 rfl) ?_
  refine lv_iconst (v := 0) hx hb dX7_clearBuffer_11 (by decide) ?_
  refine g_put hx hb hts hown inA7 tyX7 tyX7_ok nmX7 hK hP hE hS 0 (by decide) rfl rfl 7 (by decide) tw767 rfl rfl (ty := .int) (by decide +kernel) rfl rfl (Nat.le_of_ble_eq_true rfl) dX7_clearBuffer_12 (ex' := emC cI b (mdl s kp hf (upd (upd sc 3 0) 2 0) ad bf)) rfl mm_sc (fun H locs hP hS => ?_)
  refine lv_iload_n hx hb dX7_clearBuffer_15 rfl (lv_at hl 0 rfl) ?_
  exact rw_ir hx hb hr rfl hlocks hS () hP hl0 dX7_clearBuffer_16

set_option maxHeartbeats 4000000 in
set_option maxRecDepth 100000 in
theorem mx_X7_goBack (l : Launch) (D : va_G) (cI cS : ClassId) (b : Nat → Nat) (s kp : St) (hf : Nat → St) (sc ad bf : Nat → Int32) (hik : sc 1 = 0) (zz : Nat) : Met l yX7_goBack (.code yX7_goBack cX7_goBack 2 (some .int) :: wsA) ({ frames := 1, cells := 0, slots := 0, locals := 21 } : Room) (va_Pc [.ref (b 0)] (PW D cI cS 6 b (emC cI b (mdl s kp hf sc ad bf)) zz)) (va_Qi (fun (r : Int32) (u : Unit) => r = 0) (BW D 6 b (fun u => emC cI b (mdl s kp hf (upd (upd sc 3 0) 3 1) ad bf))) (AX 6 b zz)) 0 0 (AX 6 b zz) := by
  refine mgo (by decide) (Nat.le_of_ble_eq_true rfl) ?_
  intro p e z m below meth c hx hb hr hml hown hts hlocks hB ls hl
  obtain ⟨hsz, hP, hK, hE⟩ := hB
  subst hsz
  have hS : va_S (AX 6 b z.heap.size) z.heap z.heap [] := va_S.rf
  have hl : lv_has ls 2 [(0, .ref (b 0))] := hl
  refine lv_aload_n hx hb dX7_goBack_0 rfl (lv_at hl 0 rfl) ?_
  refine lv_iconst (v := 0) hx hb dX7_goBack_1 (by decide) ?_
  refine g_put hx hb hts hown inA7 tyX7 tyX7_ok nmX7 hK hP hE hS 0 (by decide) rfl rfl 8 (by decide) tw768 rfl rfl (ty := .int) (by decide +kernel) rfl rfl (Nat.le_of_ble_eq_true rfl) dX7_goBack_2 (ex' := emC cI b (mdl s kp hf (upd sc 3 0) ad bf)) rfl mm_sc (fun H locs hP hS => ?_)
  refine lv_aload_n hx hb dX7_goBack_5 rfl (lv_at hl 0 rfl) ?_
  refine g_get hx hb hts hown inA7 hK hP 0 (by decide) rfl rfl 5 (by decide) tw765 rfl (v := .int (sc 1)) rfl dX7_goBack_6 ?_
  refine lv_if_ne (tgt := 18) hx hb dX7_goBack_9 (by decide) (fun h0 => absurd h0 (fun h => h hik)) (fun _ => ?_)
  refine lv_aload_n hx hb dX7_goBack_12 rfl (lv_at hl 0 rfl) ?_
  refine lv_iconst (v := 1) hx hb dX7_goBack_13 (by decide) ?_
  refine rw_i hS (va_runV (As := [.int 1]) (rest := []) ⟨hx, hb, hml, hown, hts⟩ (m_X7_throwing l D cI cS b s kp hf (upd sc 3 0) ad bf 1 _) (cwV 1 hts (gV tw808 tw805 tw807 ts22 tw8) rfl rfl rfl (by decide +kernel) ⟨Nat.le_of_ble_eq_true rfl, Nat.le_of_ble_eq_true rfl⟩) (pvW 0 hK hP hE (by decide) rfl rfl) rfl rfl hl.1 rfl (lv_room (Nat.le_of_ble_eq_true rfl)) dX7_goBack_14 ⟨Nat.le_of_ble_eq_true rfl, Nat.le_of_ble_eq_true rfl⟩) (fun r2 u3 H locs hr1 hP hS => ?_)
  subst hr1
  exact rw_ir hx hb hr rfl hlocks hS () hP rfl dX7_goBack_17

set_option maxHeartbeats 4000000 in
set_option maxRecDepth 100000 in
theorem mx_X7_undo (l : Launch) (D : va_G) (cI cS : ClassId) (b : Nat → Nat) (s kp : St) (hf : Nat → St) (sc ad bf : Nat → Int32) (hk0 : sc 0 = 0) (zz : Nat) : Met l yX7_undo (.code yX7_undo cX7_undo 2 (some .int) :: wsA) ({ frames := 1, cells := 0, slots := 0, locals := 21 } : Room) (va_Pc [.ref (b 0)] (PW D cI cS 6 b (emC cI b (mdl s kp hf sc ad bf)) zz)) (va_Qi (fun (r : Int32) (u : Unit) => r = 0) (BW D 6 b (fun u => emC cI b (mdl s kp hf (upd (upd sc 3 0) 3 1) ad bf))) (AX 6 b zz)) 0 0 (AX 6 b zz) := by
  refine mgo (by decide) (Nat.le_of_ble_eq_true rfl) ?_
  intro p e z m below meth c hx hb hr hml hown hts hlocks hB ls hl
  obtain ⟨hsz, hP, hK, hE⟩ := hB
  subst hsz
  have hS : va_S (AX 6 b z.heap.size) z.heap z.heap [] := va_S.rf
  have hl : lv_has ls 2 [(0, .ref (b 0))] := hl
  refine lv_aload_n hx hb dX7_undo_0 rfl (lv_at hl 0 rfl) ?_
  refine lv_iconst (v := 0) hx hb dX7_undo_1 (by decide) ?_
  refine g_put hx hb hts hown inA7 tyX7 tyX7_ok nmX7 hK hP hE hS 0 (by decide) rfl rfl 8 (by decide) tw768 rfl rfl (ty := .int) (by decide +kernel) rfl rfl (Nat.le_of_ble_eq_true rfl) dX7_undo_2 (ex' := emC cI b (mdl s kp hf (upd sc 3 0) ad bf)) rfl mm_sc (fun H locs hP hS => ?_)
  refine lv_aload_n hx hb dX7_undo_5 rfl (lv_at hl 0 rfl) ?_
  refine g_get hx hb hts hown inA7 hK hP 0 (by decide) rfl rfl 3 (by decide) tw763 rfl (v := .int (sc 0)) rfl dX7_undo_6 ?_
  refine lv_if_ne (tgt := 18) hx hb dX7_undo_9 (by decide) (fun h0 => absurd h0 (fun h => h hk0)) (fun _ => ?_)
  refine lv_aload_n hx hb dX7_undo_12 rfl (lv_at hl 0 rfl) ?_
  refine lv_iconst (v := 1) hx hb dX7_undo_13 (by decide) ?_
  refine rw_i hS (va_runV (As := [.int 1]) (rest := []) ⟨hx, hb, hml, hown, hts⟩ (m_X7_throwing l D cI cS b s kp hf (upd sc 3 0) ad bf 1 _) (cwV 1 hts (gV tw808 tw805 tw807 ts22 tw8) rfl rfl rfl (by decide +kernel) ⟨Nat.le_of_ble_eq_true rfl, Nat.le_of_ble_eq_true rfl⟩) (pvW 0 hK hP hE (by decide) rfl rfl) rfl rfl hl.1 rfl (lv_room (Nat.le_of_ble_eq_true rfl)) dX7_undo_14 ⟨Nat.le_of_ble_eq_true rfl, Nat.le_of_ble_eq_true rfl⟩) (fun r2 u3 H locs hr1 hP hS => ?_)
  subst hr1
  exact rw_ir hx hb hr rfl hlocks hS () hP rfl dX7_undo_17
