/-! the law, call by call -/
def LWd (D : va_G) (cI cS cL : ClassId) (a b : Nat → Nat) (T : Int) (H : Heap) : Prop :=
  ∃ (s : St) (st : Nat → St) (pi : Nat → Nat) (mi po : St) (ov : Nat → Int64) (kp : St) (hf : Nat → St) (sc ad : Nat → Int32) (sz ln : Nat), HP D 114 a (exOf (exC cI cS a s st pi mi po) cL ov) H ∧ HP D 6 b (emC cI b (mdl s kp hf sc ad (mi 1))) H ∧ LI T s st pi mi kp hf sc sz ln
def LF (p : Program) (l : Launch) (s : State) (m : MethodId) (meth : Method) (c : Code) (D : va_G) (cI cS cL : ClassId) (a b : Nat → Nat) (bs L : Nat) (xs : Nat → Int32) : Prop :=
  p.tables.exec = Jvm.exec ∧ c.code = code ∧ c.maxLocals = 9 ∧ s.vm.findClass RL = some m.cls ∧ (∀ w ∈ wsA, w.before #[Value.ref bs] s = true) ∧ KX D cI cS s ∧ KL D cL s ∧ EV s ∧ EH (LA s.heap.size) s s.heap ∧ va_X bs L xs s s.heap ∧ bs < s.heap.size ∧ L ≤ 2048 ∧ LC a b s.heap.size ∧ l.stackTraces = false
theorem gb_v {s kp : St} {hf : Nat → St} {sc ad bf : Nat → Int32} {kn : Nat} : cpN ((svM (mdl s kp hf sc ad bf) kn) 4) ((svM (mdl s kp hf sc ad bf) kn) 1) 69 1 = kp 0 1 := by
  rw [cpN_at 69 (by omega)]
  unfold svM
  split
  · rfl
  · rfl
set_option maxHeartbeats 4000000 in
set_option maxRecDepth 100000 in
theorem law_tick {p : Program} {l : Launch} {e : Env} {z : State} {m : MethodId} {below : List Frame} {meth : Method} {c : Code} {Q : State → Prop} {D : va_G} {cI cS cL : ClassId} {a b : Nat → Nat} {bs L : Nat} {xs : Nat → Int32} {T : Int} {j cells slots : Nat} {H : Heap} {locs : List Loc} {ls : Array Slot} (hC : LF p l z m meth c D cI cS cL a b bs L xs) (hj : 4 * j + 3 < L) (hT : T ≤ 99000000) (h0T : 0 ≤ T) (hc1 : cells + 1 ≤ room_1.cells ∧ slots + 6 ≤ room_1.slots) (hW : LWd D cI cS cL a b T H) (hS : va_S (LA z.heap.size) z.heap H locs) (hl : lv_has ls 9 [(0, .ref bs), (1, .ref (a 112)), (2, .ref (b 0)), (3, .ref (a 113)), (4, .int (nI (4 * j)))])
    (kk : ∀ (H1 : Heap) (locs1 : List Loc) (ls1 : Array Slot), LWd D cI cS cL a b (T + 100000) H1 → va_S (LA z.heap.size) z.heap H1 locs1 → lv_has ls1 9 [(0, .ref bs), (1, .ref (a 112)), (2, .ref (b 0)), (3, .ref (a 113)), (4, .int (nI (4 * j)))] → W p l e room_1 z m #[Value.ref bs] below meth c H1 locs1 (cells + 1) (slots + 6) Q (F0 m 1363 ls1 [])) : W p l e room_1 z m #[Value.ref bs] below meth c H locs cells slots Q (F0 m 156 ls []) := by
  obtain ⟨hx, hb, hml, hown, hts, hK, hKL, hEV, hEH, hXs, hbl, hL9, hL, hst⟩ := hC
  obtain ⟨s, st, pi, mi, po, ov, kp, hf, sc, ad, sz, ln, hPx, hPm, hLI⟩ := hW
  obtain ⟨hsz, hpi, hpj, hh, hBd, hln, hs0, hl0, hk0, hlm, hkm, hkk⟩ := id hLI
  have hEm := hL.2.1
  have hc0 : cells + 0 ≤ room_1.cells ∧ slots + 0 ≤ room_1.slots := ⟨by omega, by omega⟩
  by_cases h1 : witB (xs (4 * j + 1)) 1 99
  · skip
    obtain ⟨n, hn, hx1⟩ := wit_nat1 h1
    refine lv_aload_n hx hb dL_law_156 rfl (lv_at hl 1 rfl) ?_
    refine lv_aload_n hx hb dL_law_157 rfl (lv_at hl 0 rfl) ?_
    refine lv_iload hx hb dL_law_158 (lv_at hl 4 rfl) ?_
    refine lv_iconst (v := 1) hx hb dL_law_160 (by decide) ?_
    refine lv_iadd hx hb dL_law_161 ?_
    refine lv_as (y := nI (4 * j + 1)) (nI_add2 (p := 4 * j) (q := 1) rfl rfl) ?_
    refine g_sld hx hb hXs hbl hS (4 * j + 1) rfl (by omega) (by omega) dL_law_162 ?_
    refine lv_as (y := nI n) hx1 ?_
    refine lv_aload_n hx hb dL_law_163 rfl (lv_at hl 3 rfl) ?_
    refine lwL_i hL hS hPm (vx_runSW (As := [.ref (a 112), .int (nI n), .ref (a 113)]) (rest := []) ⟨hx, hb, hml, hown, hts⟩ (m_L_tick l D cI cS cL a s st pi mi po ov sz hsz hs0 hpi n hn _) (vx_cwSW 3 hts (gS tw544 tw542 tw543 tw0) rfl rfl rfl (by decide +kernel) ⟨Nat.le_of_ble_eq_true rfl, Nat.le_of_ble_eq_true rfl⟩) (psO hK hPx hL.1 hKL hEV ((hEH.kept hS.2.1).narrow (fun _ h => h.elim))) rfl rfl hl.1 rfl (lv_room (Nat.le_of_ble_eq_true rfl)) dL_law_164 hc0) (fun rA u1 H locs hrA hPx hPm hS => ?_)
    subst hrA
    refine lv_istore (lv' := [(5, .int 0), (0, .ref bs), (1, .ref (a 112)), (2, .ref (b 0)), (3, .ref (a 113)), (4, .int (nI (4 * j)))]) hx hb dL_law_167 hl (by decide) rfl (fun ls hl => ?_)
    refine lv_aload_n hx hb dL_law_169 rfl (lv_at hl 3 rfl) ?_
    refine lv_aload_n hx hb dL_law_170 rfl (lv_at hl 1 rfl) ?_
    refine lv_iload hx hb dL_law_171 (lv_at hl 5 rfl) ?_
    refine lv_iconst (v := 1) hx hb dL_law_173 (by decide) ?_
    refine lv_iadd hx hb dL_law_174 ?_
    refine lv_as (y := nI (4 * j + 1)) (nI_add2 (p := 4 * j) (q := 1) rfl rfl) ?_
    refine g_sld hx hb hXs hbl hS (4 * j + 1) rfl (by omega) (by omega) dL_law_175 ?_
    refine lv_as (y := nI n) hx1 ?_
    refine lwM_i hL hS hPx (va_runV (As := [.int (nI n)]) (rest := []) ⟨hx, hb, hml, hown, hts⟩ (m_X7_tick l D cI cS b s kp hf sc ad (mi 1) T hBd (by omega) sz hsz hk0 n hn _) (cwV 1 hts (gV tw801 tw798 tw799 tw800 tw8) rfl rfl rfl (by decide +kernel) ⟨Nat.le_of_ble_eq_true rfl, Nat.le_of_ble_eq_true rfl⟩) (pvW 0 hK hPm hEm (by decide) rfl rfl) rfl rfl hl.1 rfl (lv_room (Nat.le_of_ble_eq_true rfl)) dL_law_176 hc0) (fun rB u2 H locs hrB hPx hPm hS => ?_)
    refine lv_istore (lv' := [(6, .int rB), (5, .int 0), (0, .ref bs), (1, .ref (a 112)), (2, .ref (b 0)), (3, .ref (a 113)), (4, .int (nI (4 * j)))]) hx hb dL_law_179 hl (by decide) rfl (fun ls hl => ?_)
    refine lv_aload_n hx hb dL_law_181 rfl (lv_at hl 4 rfl) ?_
    refine ro_i (va_runV (As := []) (rest := []) ⟨hx, hb, hml, hown, hts⟩ (m_X7_thrown l D cI cS b (ticksS n s) kp (svH hf sz s) (upd (upd sc 3 0) 0 (nI (svK sz))) ad (mi 1)) (cwV 0 hts (gV tw797 tw794 tw795 tw796 tw8) rfl rfl rfl (by decide +kernel) ⟨Nat.le_of_ble_eq_true rfl, Nat.le_of_ble_eq_true rfl⟩) (pvR 0 hK hPm (by decide) rfl rfl) rfl rfl hl.1 rfl (lv_room (Nat.le_of_ble_eq_true rfl)) dL_law_182 hc0) (fun r7 hr7 => ?_)
    have hr7 : r7 = 0 := hr7
    subst hr7
    refine lv_iload hx hb dL_law_185 (lv_at hl 1 rfl) ?_
    refine lv_icmp_eq (tgt := 192) hx hb dL_law_187 (by decide) (fun _ => ?_) (fun h0 => absurd (by decide) h0)
    refine lv_iload hx hb dL_law_192 (lv_at hl 1 rfl) ?_
    refine lv_if_ne (tgt := 209) hx hb dL_law_194 (by decide) (fun h0 => absurd (by decide) h0) (fun _ => ?_)
    refine lv_aload_n hx hb dL_law_197 rfl (lv_at hl 5 rfl) ?_
    refine lv_iconst (v := 0) hx hb dL_law_198 (by decide) ?_
    refine g_lald hx hb hKL hPx (v := (ticksA n s).toInt64) rfl dL_law_199 ?_
    refine lv_iload hx hb dL_law_200 (lv_at hl 0 rfl) ?_
    refine lv_i2l hx hb dL_law_202 rfl ?_
    refine g_lcmp0 hx hb (by rw [hrB]) dL_law_203 ?_
    refine lv_if_eq (tgt := 209) hx hb dL_law_204 (by decide) (fun _ => ?_) (fun h0 => absurd (by decide) h0)
    refine lv_goto (tgt := 1363) hx hb dL_law_209 (by decide) ?_
    refine W.widen (k := cells + 1) (n := slots + 6) (by omega) (by omega) ?_
    exact kk H locs ls ⟨(ticksS n s), (va_up st (svPi pi sz (svQ sz) + 1) s), (svPi pi sz), (up2 mi 0 0 (nI (svQ sz + 1))), po, (vp_updL ov 0 (ticksA n s).toInt64), kp, (svH hf sz s), (upd (upd sc 3 0) 0 (nI (svK sz))), ad, svQ sz + 1, ln, hPx, hPm, hLI.sv (by omega) ((hBd.ticks n (by omega)).mono (by omega)) hln rfl hl0 rfl rfl rfl hlm⟩ hS (lv_sub hl [2, 3, 4, 5, 6] rfl)
  · skip
    refine lv_aload_n hx hb dL_law_156 rfl (lv_at hl 1 rfl) ?_
    refine lv_aload_n hx hb dL_law_157 rfl (lv_at hl 0 rfl) ?_
    refine lv_iload hx hb dL_law_158 (lv_at hl 4 rfl) ?_
    refine lv_iconst (v := 1) hx hb dL_law_160 (by decide) ?_
    refine lv_iadd hx hb dL_law_161 ?_
    refine lv_as (y := nI (4 * j + 1)) (nI_add2 (p := 4 * j) (q := 1) rfl rfl) ?_
    refine g_sld hx hb hXs hbl hS (4 * j + 1) rfl (by omega) (by omega) dL_law_162 ?_
    refine lv_aload_n hx hb dL_law_163 rfl (lv_at hl 3 rfl) ?_
    refine lwL_i hL hS hPm (vx_runSW (As := [.ref (a 112), .int (xs (4 * j + 1)), .ref (a 113)]) (rest := []) ⟨hx, hb, hml, hown, hts⟩ (mt_L_tick l hst D cI cS cL a s st pi mi po ov (xs (4 * j + 1)) h1 _) (vx_cwSW 3 hts (gS tw544 tw542 tw543 tw0) rfl rfl rfl (by decide +kernel) ⟨Nat.le_of_ble_eq_true rfl, Nat.le_of_ble_eq_true rfl⟩) (psO hK hPx hL.1 hKL hEV ((hEH.kept hS.2.1).narrow (fun _ h => h.elim))) rfl rfl hl.1 rfl (lv_room (Nat.le_of_ble_eq_true rfl)) dL_law_164 hc1) (fun rA u1 H locs hrA hPx hPm hS => ?_)
    subst hrA
    refine lv_istore (lv' := [(5, .int 1), (0, .ref bs), (1, .ref (a 112)), (2, .ref (b 0)), (3, .ref (a 113)), (4, .int (nI (4 * j)))]) hx hb dL_law_167 hl (by decide) rfl (fun ls hl => ?_)
    refine lv_aload_n hx hb dL_law_169 rfl (lv_at hl 3 rfl) ?_
    refine lv_aload_n hx hb dL_law_170 rfl (lv_at hl 1 rfl) ?_
    refine lv_iload hx hb dL_law_171 (lv_at hl 5 rfl) ?_
    refine lv_iconst (v := 1) hx hb dL_law_173 (by decide) ?_
    refine lv_iadd hx hb dL_law_174 ?_
    refine lv_as (y := nI (4 * j + 1)) (nI_add2 (p := 4 * j) (q := 1) rfl rfl) ?_
    refine g_sld hx hb hXs hbl hS (4 * j + 1) rfl (by omega) (by omega) dL_law_175 ?_
    refine lwM_i hL hS hPx (va_runV (As := [.int (xs (4 * j + 1))]) (rest := []) ⟨hx, hb, hml, hown, hts⟩ (mx_X7_tick l D cI cS b s kp hf sc ad (mi 1) (xs (4 * j + 1)) h1 _) (cwV 1 hts (gV tw801 tw798 tw799 tw800 tw8) rfl rfl rfl (by decide +kernel) ⟨Nat.le_of_ble_eq_true rfl, Nat.le_of_ble_eq_true rfl⟩) (pvW 0 hK hPm hEm (by decide) rfl rfl) rfl rfl hl.1 rfl (lv_room (Nat.le_of_ble_eq_true rfl)) dL_law_176 hc1) (fun rB u2 H locs hrB hPx hPm hS => ?_)
    refine lv_istore (lv' := [(6, .int rB), (5, .int 1), (0, .ref bs), (1, .ref (a 112)), (2, .ref (b 0)), (3, .ref (a 113)), (4, .int (nI (4 * j)))]) hx hb dL_law_179 hl (by decide) rfl (fun ls hl => ?_)
    refine lv_aload_n hx hb dL_law_181 rfl (lv_at hl 4 rfl) ?_
    refine ro_i (va_runV (As := []) (rest := []) ⟨hx, hb, hml, hown, hts⟩ (m_X7_thrown l D cI cS b s kp hf (upd (upd sc 3 0) 3 1) ad (mi 1)) (cwV 0 hts (gV tw797 tw794 tw795 tw796 tw8) rfl rfl rfl (by decide +kernel) ⟨Nat.le_of_ble_eq_true rfl, Nat.le_of_ble_eq_true rfl⟩) (pvR 0 hK hPm (by decide) rfl rfl) rfl rfl hl.1 rfl (lv_room (Nat.le_of_ble_eq_true rfl)) dL_law_182 hc1) (fun r7 hr7 => ?_)
    have hr7 : r7 = 1 := hr7
    subst hr7
    refine lv_iload hx hb dL_law_185 (lv_at hl 1 rfl) ?_
    refine lv_icmp_eq (tgt := 192) hx hb dL_law_187 (by decide) (fun _ => ?_) (fun h0 => absurd (by decide) h0)
    refine lv_iload hx hb dL_law_192 (lv_at hl 1 rfl) ?_
    refine lv_if_ne (tgt := 209) hx hb dL_law_194 (by decide) (fun _ => ?_) (fun h0 => absurd h0 (by decide))
    refine lv_goto (tgt := 1363) hx hb dL_law_209 (by decide) ?_
    refine W.widen (k := cells + 1) (n := slots + 6) (by omega) (by omega) ?_
    exact kk H locs ls ⟨s, st, pi, mi, po, ov, kp, hf, (upd (upd sc 3 0) 3 1), ad, sz, ln, hPx, hPm, hLI.lk (by omega) hln rfl hl0 rfl rfl rfl hlm⟩ hS (lv_sub hl [2, 3, 4, 5, 6] rfl)

set_option maxHeartbeats 4000000 in
set_option maxRecDepth 100000 in
theorem law_vote {p : Program} {l : Launch} {e : Env} {z : State} {m : MethodId} {below : List Frame} {meth : Method} {c : Code} {Q : State → Prop} {D : va_G} {cI cS cL : ClassId} {a b : Nat → Nat} {bs L : Nat} {xs : Nat → Int32} {T : Int} {j cells slots : Nat} {H : Heap} {locs : List Loc} {ls : Array Slot} (hC : LF p l z m meth c D cI cS cL a b bs L xs) (hj : 4 * j + 3 < L) (hT : T ≤ 99000000) (h0T : 0 ≤ T) (hc1 : cells + 1 ≤ room_1.cells ∧ slots + 6 ≤ room_1.slots) (hW : LWd D cI cS cL a b T H) (hS : va_S (LA z.heap.size) z.heap H locs) (hl : lv_has ls 9 [(0, .ref bs), (1, .ref (a 112)), (2, .ref (b 0)), (3, .ref (a 113)), (4, .int (nI (4 * j)))])
    (kk : ∀ (H1 : Heap) (locs1 : List Loc) (ls1 : Array Slot), LWd D cI cS cL a b (T + 100000) H1 → va_S (LA z.heap.size) z.heap H1 locs1 → lv_has ls1 9 [(0, .ref bs), (1, .ref (a 112)), (2, .ref (b 0)), (3, .ref (a 113)), (4, .int (nI (4 * j)))] → W p l e room_1 z m #[Value.ref bs] below meth c H1 locs1 (cells + 1) (slots + 6) Q (F0 m 1363 ls1 [])) : W p l e room_1 z m #[Value.ref bs] below meth c H locs cells slots Q (F0 m 212 ls []) := by
  obtain ⟨hx, hb, hml, hown, hts, hK, hKL, hEV, hEH, hXs, hbl, hL9, hL, hst⟩ := hC
  obtain ⟨s, st, pi, mi, po, ov, kp, hf, sc, ad, sz, ln, hPx, hPm, hLI⟩ := hW
  obtain ⟨hsz, hpi, hpj, hh, hBd, hln, hs0, hl0, hk0, hlm, hkm, hkk⟩ := id hLI
  have hEm := hL.2.1
  have hc0 : cells + 0 ≤ room_1.cells ∧ slots + 0 ≤ room_1.slots := ⟨by omega, by omega⟩
  by_cases h1 : sumN (s 7) 7 = 0
  · skip
    refine lv_aload_n hx hb dL_law_212 rfl (lv_at hl 1 rfl) ?_
    refine lv_aload_n hx hb dL_law_213 rfl (lv_at hl 3 rfl) ?_
    refine lwL_i hL hS hPm (vx_runSW (As := [.ref (a 112), .ref (a 113)]) (rest := []) ⟨hx, hb, hml, hown, hts⟩ (mt_L_vote l hst D cI cS cL a s st pi mi po ov h1 _) (vx_cwSW 2 hts (gS tw561 tw559 tw560 tw0) rfl rfl rfl (by decide +kernel) ⟨Nat.le_of_ble_eq_true rfl, Nat.le_of_ble_eq_true rfl⟩) (psO hK hPx hL.1 hKL hEV ((hEH.kept hS.2.1).narrow (fun _ h => h.elim))) rfl rfl hl.1 rfl (lv_room (Nat.le_of_ble_eq_true rfl)) dL_law_214 hc1) (fun rA u1 H locs hrA hPx hPm hS => ?_)
    subst hrA
    refine lv_istore (lv' := [(5, .int 1), (0, .ref bs), (1, .ref (a 112)), (2, .ref (b 0)), (3, .ref (a 113)), (4, .int (nI (4 * j)))]) hx hb dL_law_217 hl (by decide) rfl (fun ls hl => ?_)
    refine lv_aload_n hx hb dL_law_219 rfl (lv_at hl 3 rfl) ?_
    refine lwM_i hL hS hPx (va_runV (As := []) (rest := []) ⟨hx, hb, hml, hown, hts⟩ (mx_X7_vote l D cI cS b s kp hf sc ad (mi 1) h1 _) (cwV 0 hts (gV tw829 tw826 tw827 tw828 tw8) rfl rfl rfl (by decide +kernel) ⟨Nat.le_of_ble_eq_true rfl, Nat.le_of_ble_eq_true rfl⟩) (pvW 0 hK hPm hEm (by decide) rfl rfl) rfl rfl hl.1 rfl (lv_room (Nat.le_of_ble_eq_true rfl)) dL_law_220 hc1) (fun rB u2 H locs hrB hPx hPm hS => ?_)
    refine lv_istore (lv' := [(6, .int rB), (5, .int 1), (0, .ref bs), (1, .ref (a 112)), (2, .ref (b 0)), (3, .ref (a 113)), (4, .int (nI (4 * j)))]) hx hb dL_law_223 hl (by decide) rfl (fun ls hl => ?_)
    refine lv_aload_n hx hb dL_law_225 rfl (lv_at hl 4 rfl) ?_
    refine ro_i (va_runV (As := []) (rest := []) ⟨hx, hb, hml, hown, hts⟩ (m_X7_thrown l D cI cS b s kp hf (upd (upd sc 3 0) 3 1) ad (mi 1)) (cwV 0 hts (gV tw797 tw794 tw795 tw796 tw8) rfl rfl rfl (by decide +kernel) ⟨Nat.le_of_ble_eq_true rfl, Nat.le_of_ble_eq_true rfl⟩) (pvR 0 hK hPm (by decide) rfl rfl) rfl rfl hl.1 rfl (lv_room (Nat.le_of_ble_eq_true rfl)) dL_law_226 hc1) (fun r7 hr7 => ?_)
    have hr7 : r7 = 1 := hr7
    subst hr7
    refine lv_iload hx hb dL_law_229 (lv_at hl 1 rfl) ?_
    refine lv_icmp_eq (tgt := 236) hx hb dL_law_231 (by decide) (fun _ => ?_) (fun h0 => absurd (by decide) h0)
    refine lv_iload hx hb dL_law_236 (lv_at hl 1 rfl) ?_
    refine lv_if_ne (tgt := 253) hx hb dL_law_238 (by decide) (fun _ => ?_) (fun h0 => absurd h0 (by decide))
    refine lv_goto (tgt := 1363) hx hb dL_law_253 (by decide) ?_
    refine W.widen (k := cells + 1) (n := slots + 6) (by omega) (by omega) ?_
    exact kk H locs ls ⟨s, st, pi, mi, po, ov, kp, hf, (upd (upd sc 3 0) 3 1), ad, sz, ln, hPx, hPm, hLI.lk (by omega) hln rfl hl0 rfl rfl rfl hlm⟩ hS (lv_sub hl [2, 3, 4, 5, 6] rfl)
  · skip
    refine lv_aload_n hx hb dL_law_212 rfl (lv_at hl 1 rfl) ?_
    refine lv_aload_n hx hb dL_law_213 rfl (lv_at hl 3 rfl) ?_
    refine lwL_i hL hS hPm (vx_runSW (As := [.ref (a 112), .ref (a 113)]) (rest := []) ⟨hx, hb, hml, hown, hts⟩ (m_L_vote l D cI cS cL a s st pi mi po ov sz hsz hs0 hpi h1 _) (vx_cwSW 2 hts (gS tw561 tw559 tw560 tw0) rfl rfl rfl (by decide +kernel) ⟨Nat.le_of_ble_eq_true rfl, Nat.le_of_ble_eq_true rfl⟩) (psO hK hPx hL.1 hKL hEV ((hEH.kept hS.2.1).narrow (fun _ h => h.elim))) rfl rfl hl.1 rfl (lv_room (Nat.le_of_ble_eq_true rfl)) dL_law_214 hc0) (fun rA u1 H locs hrA hPx hPm hS => ?_)
    subst hrA
    refine lv_istore (lv' := [(5, .int 0), (0, .ref bs), (1, .ref (a 112)), (2, .ref (b 0)), (3, .ref (a 113)), (4, .int (nI (4 * j)))]) hx hb dL_law_217 hl (by decide) rfl (fun ls hl => ?_)
    refine lv_aload_n hx hb dL_law_219 rfl (lv_at hl 3 rfl) ?_
    refine lwM_i hL hS hPx (va_runV (As := []) (rest := []) ⟨hx, hb, hml, hown, hts⟩ (m_X7_vote l D cI cS b s kp hf sc ad (mi 1) T hBd (by omega) sz hsz hk0 h1 _) (cwV 0 hts (gV tw829 tw826 tw827 tw828 tw8) rfl rfl rfl (by decide +kernel) ⟨Nat.le_of_ble_eq_true rfl, Nat.le_of_ble_eq_true rfl⟩) (pvW 0 hK hPm hEm (by decide) rfl rfl) rfl rfl hl.1 rfl (lv_room (Nat.le_of_ble_eq_true rfl)) dL_law_220 hc0) (fun rB u2 H locs hrB hPx hPm hS => ?_)
    refine lv_istore (lv' := [(6, .int rB), (5, .int 0), (0, .ref bs), (1, .ref (a 112)), (2, .ref (b 0)), (3, .ref (a 113)), (4, .int (nI (4 * j)))]) hx hb dL_law_223 hl (by decide) rfl (fun ls hl => ?_)
    refine lv_aload_n hx hb dL_law_225 rfl (lv_at hl 4 rfl) ?_
    refine ro_i (va_runV (As := []) (rest := []) ⟨hx, hb, hml, hown, hts⟩ (m_X7_thrown l D cI cS b (voteS s) kp (svH hf sz s) (upd (upd sc 3 0) 0 (nI (svK sz))) ad (mi 1)) (cwV 0 hts (gV tw797 tw794 tw795 tw796 tw8) rfl rfl rfl (by decide +kernel) ⟨Nat.le_of_ble_eq_true rfl, Nat.le_of_ble_eq_true rfl⟩) (pvR 0 hK hPm (by decide) rfl rfl) rfl rfl hl.1 rfl (lv_room (Nat.le_of_ble_eq_true rfl)) dL_law_226 hc0) (fun r7 hr7 => ?_)
    have hr7 : r7 = 0 := hr7
    subst hr7
    refine lv_iload hx hb dL_law_229 (lv_at hl 1 rfl) ?_
    refine lv_icmp_eq (tgt := 236) hx hb dL_law_231 (by decide) (fun _ => ?_) (fun h0 => absurd (by decide) h0)
    refine lv_iload hx hb dL_law_236 (lv_at hl 1 rfl) ?_
    refine lv_if_ne (tgt := 253) hx hb dL_law_238 (by decide) (fun h0 => absurd (by decide) h0) (fun _ => ?_)
    refine lv_aload_n hx hb dL_law_241 rfl (lv_at hl 5 rfl) ?_
    refine lv_iconst (v := 0) hx hb dL_law_242 (by decide) ?_
    refine g_lald hx hb hKL hPx (v := (voteS s 0 1).toInt64) rfl dL_law_243 ?_
    refine lv_iload hx hb dL_law_244 (lv_at hl 0 rfl) ?_
    refine lv_i2l hx hb dL_law_246 rfl ?_
    refine g_lcmp0 hx hb (by rw [hrB]) dL_law_247 ?_
    refine lv_if_eq (tgt := 253) hx hb dL_law_248 (by decide) (fun _ => ?_) (fun h0 => absurd (by decide) h0)
    refine lv_goto (tgt := 1363) hx hb dL_law_253 (by decide) ?_
    refine W.widen (k := cells + 1) (n := slots + 6) (by omega) (by omega) ?_
    exact kk H locs ls ⟨(voteS s), (va_up st (svPi pi sz (svQ sz) + 1) s), (svPi pi sz), (up2 mi 0 0 (nI (svQ sz + 1))), u1, (vp_updL ov 0 (voteS s 0 1).toInt64), kp, (svH hf sz s), (upd (upd sc 3 0) 0 (nI (svK sz))), ad, svQ sz + 1, ln, hPx, hPm, hLI.sv (by omega) ((hBd.vote (by omega)).mono (by omega)) hln rfl hl0 rfl rfl rfl hlm⟩ hS (lv_sub hl [2, 3, 4, 5, 6] rfl)

set_option maxHeartbeats 4000000 in
set_option maxRecDepth 100000 in
theorem law_correct {p : Program} {l : Launch} {e : Env} {z : State} {m : MethodId} {below : List Frame} {meth : Method} {c : Code} {Q : State → Prop} {D : va_G} {cI cS cL : ClassId} {a b : Nat → Nat} {bs L : Nat} {xs : Nat → Int32} {T : Int} {j cells slots : Nat} {H : Heap} {locs : List Loc} {ls : Array Slot} (hC : LF p l z m meth c D cI cS cL a b bs L xs) (hj : 4 * j + 3 < L) (hT : T ≤ 99000000) (h0T : 0 ≤ T) (hc1 : cells + 1 ≤ room_1.cells ∧ slots + 6 ≤ room_1.slots) (hW : LWd D cI cS cL a b T H) (hS : va_S (LA z.heap.size) z.heap H locs) (hl : lv_has ls 9 [(0, .ref bs), (1, .ref (a 112)), (2, .ref (b 0)), (3, .ref (a 113)), (4, .int (nI (4 * j)))])
    (kk : ∀ (H1 : Heap) (locs1 : List Loc) (ls1 : Array Slot), LWd D cI cS cL a b (T + 100000) H1 → va_S (LA z.heap.size) z.heap H1 locs1 → lv_has ls1 9 [(0, .ref bs), (1, .ref (a 112)), (2, .ref (b 0)), (3, .ref (a 113)), (4, .int (nI (4 * j)))] → W p l e room_1 z m #[Value.ref bs] below meth c H1 locs1 (cells + 1) (slots + 6) Q (F0 m 1363 ls1 [])) : W p l e room_1 z m #[Value.ref bs] below meth c H locs cells slots Q (F0 m 256 ls []) := by
  obtain ⟨hx, hb, hml, hown, hts, hK, hKL, hEV, hEH, hXs, hbl, hL9, hL, hst⟩ := hC
  obtain ⟨s, st, pi, mi, po, ov, kp, hf, sc, ad, sz, ln, hPx, hPm, hLI⟩ := hW
  obtain ⟨hsz, hpi, hpj, hh, hBd, hln, hs0, hl0, hk0, hlm, hkm, hkk⟩ := id hLI
  have hEm := hL.2.1
  have hc0 : cells + 0 ≤ room_1.cells ∧ slots + 0 ≤ room_1.slots := ⟨by omega, by omega⟩
  refine lv_aload_n hx hb dL_law_256 rfl (lv_at hl 1 rfl) ?_
  refine lwX_i hL hS hPx hPm (va_runV (As := []) (rest := []) ⟨hx, hb, hml, hown, hts⟩ (m_X6_correct l D cI cS a s st pi mi po sz hsz hs0 hpi _) (cwV 0 hts (gV tw182 tw179 tw180 tw181 tw1) rfl rfl rfl (by decide +kernel) ⟨Nat.le_of_ble_eq_true rfl, Nat.le_of_ble_eq_true rfl⟩) (pvW' 112 rfl hK hPx (by decide) rfl rfl (exO_s hPx) (DI_s hL.1)) rfl rfl hl.1 rfl (lv_room (Nat.le_of_ble_eq_true rfl)) dL_law_257 hc0) (fun rA u1 H locs hrA hPx hPm hS => ?_)
  refine lv_aload_n hx hb dL_law_260 rfl (lv_at hl 2 rfl) ?_
  refine lwM_i hL hS hPx (va_runV (As := []) (rest := [.int rA]) ⟨hx, hb, hml, hown, hts⟩ (m_X7_correct l D cI cS b s kp hf sc ad (mi 1) T hBd (by omega) sz hsz hk0 _) (cwV 0 hts (gV tw863 tw860 tw861 tw862 tw8) rfl rfl rfl (by decide +kernel) ⟨Nat.le_of_ble_eq_true rfl, Nat.le_of_ble_eq_true rfl⟩) (pvW 0 hK hPm hEm (by decide) rfl rfl) rfl rfl hl.1 rfl (lv_room (Nat.le_of_ble_eq_true rfl)) dL_law_261 hc0) (fun rB u2 H locs hrB hPx hPm hS => ?_)
  refine lv_icmp_eq (tgt := 1363) hx hb dL_law_264 (by decide) (fun _ => ?_) (fun h0 => absurd (hrA.trans hrB.symm) h0)
  refine W.widen (k := cells + 1) (n := slots + 6) (by omega) (by omega) ?_
  exact kk H locs ls ⟨(corS 7 s), (va_up st (svPi pi sz (svQ sz) + 1) s), (svPi pi sz), (up2 mi 0 0 (nI (svQ sz + 1))), po, ov, kp, (svH hf sz s), (upd (upd sc 3 0) 0 (nI (svK sz))), ad, svQ sz + 1, ln, hPx, hPm, hLI.sv (by omega) ((hBd.cors 7 (Nat.le_refl _)).mono (by omega)) hln rfl hl0 rfl rfl rfl hlm⟩ hS (lv_sub hl [0, 1, 2, 3, 4] rfl)

set_option maxHeartbeats 4000000 in
set_option maxRecDepth 100000 in
theorem law_put {p : Program} {l : Launch} {e : Env} {z : State} {m : MethodId} {below : List Frame} {meth : Method} {c : Code} {Q : State → Prop} {D : va_G} {cI cS cL : ClassId} {a b : Nat → Nat} {bs L : Nat} {xs : Nat → Int32} {T : Int} {j cells slots : Nat} {H : Heap} {locs : List Loc} {ls : Array Slot} (hC : LF p l z m meth c D cI cS cL a b bs L xs) (hj : 4 * j + 3 < L) (hT : T ≤ 99000000) (h0T : 0 ≤ T) (hc1 : cells + 1 ≤ room_1.cells ∧ slots + 6 ≤ room_1.slots) (hW : LWd D cI cS cL a b T H) (hS : va_S (LA z.heap.size) z.heap H locs) (hl : lv_has ls 9 [(0, .ref bs), (1, .ref (a 112)), (2, .ref (b 0)), (3, .ref (a 113)), (4, .int (nI (4 * j)))])
    (kk : ∀ (H1 : Heap) (locs1 : List Loc) (ls1 : Array Slot), LWd D cI cS cL a b (T + 100000) H1 → va_S (LA z.heap.size) z.heap H1 locs1 → lv_has ls1 9 [(0, .ref bs), (1, .ref (a 112)), (2, .ref (b 0)), (3, .ref (a 113)), (4, .int (nI (4 * j)))] → W p l e room_1 z m #[Value.ref bs] below meth c H1 locs1 (cells + 1) (slots + 6) Q (F0 m 1363 ls1 [])) : W p l e room_1 z m #[Value.ref bs] below meth c H locs cells slots Q (F0 m 269 ls []) := by
  obtain ⟨hx, hb, hml, hown, hts, hK, hKL, hEV, hEH, hXs, hbl, hL9, hL, hst⟩ := hC
  obtain ⟨s, st, pi, mi, po, ov, kp, hf, sc, ad, sz, ln, hPx, hPm, hLI⟩ := hW
  obtain ⟨hsz, hpi, hpj, hh, hBd, hln, hs0, hl0, hk0, hlm, hkm, hkk⟩ := id hLI
  have hEm := hL.2.1
  have hc0 : cells + 0 ≤ room_1.cells ∧ slots + 0 ≤ room_1.slots := ⟨by omega, by omega⟩
  by_cases h1 : witB (xs (4 * j + 1)) 0 6
  · skip
    obtain ⟨d, hd0, hx1⟩ := wit_nat (hi := 6) rfl (by decide) h1
    have hd : d < 7 := by omega
    by_cases h2 : witB (xs (4 * j + 2)) 0 99999
    · skip
      refine lv_aload_n hx hb dL_law_269 rfl (lv_at hl 1 rfl) ?_
      refine lv_aload_n hx hb dL_law_270 rfl (lv_at hl 0 rfl) ?_
      refine lv_iload hx hb dL_law_271 (lv_at hl 4 rfl) ?_
      refine lv_iconst (v := 1) hx hb dL_law_273 (by decide) ?_
      refine lv_iadd hx hb dL_law_274 ?_
      refine lv_as (y := nI (4 * j + 1)) (nI_add2 (p := 4 * j) (q := 1) rfl rfl) ?_
      refine g_sld hx hb hXs hbl hS (4 * j + 1) rfl (by omega) (by omega) dL_law_275 ?_
      refine lv_as (y := nI d) hx1 ?_
      refine lv_aload_n hx hb dL_law_276 rfl (lv_at hl 0 rfl) ?_
      refine lv_iload hx hb dL_law_277 (lv_at hl 4 rfl) ?_
      refine lv_iconst (v := 2) hx hb dL_law_279 (by decide) ?_
      refine lv_iadd hx hb dL_law_280 ?_
      refine lv_as (y := nI (4 * j + 2)) (nI_add2 (p := 4 * j) (q := 2) rfl rfl) ?_
      refine g_sld hx hb hXs hbl hS (4 * j + 2) rfl (by omega) (by omega) dL_law_281 ?_
      refine lv_aload_n hx hb dL_law_282 rfl (lv_at hl 3 rfl) ?_
      refine lwL_i hL hS hPm (vx_runSW (As := [.ref (a 112), .int (nI d), .int (xs (4 * j + 2)), .ref (a 113)]) (rest := []) ⟨hx, hb, hml, hown, hts⟩ (m_L_put l D cI cS cL a s st pi mi po ov sz hsz hs0 hpi d hd (xs (4 * j + 2)) (Int32.not_lt.mpr h2.1) h2.2 _) (vx_cwSW 4 hts (gS tw605 tw603 tw604 tw0) rfl rfl rfl (by decide +kernel) ⟨Nat.le_of_ble_eq_true rfl, Nat.le_of_ble_eq_true rfl⟩) (psO hK hPx hL.1 hKL hEV ((hEH.kept hS.2.1).narrow (fun _ h => h.elim))) rfl rfl hl.1 rfl (lv_room (Nat.le_of_ble_eq_true rfl)) dL_law_283 hc0) (fun rA u1 H locs hrA hPx hPm hS => ?_)
      subst hrA
      refine lv_istore (lv' := [(5, .int 0), (0, .ref bs), (1, .ref (a 112)), (2, .ref (b 0)), (3, .ref (a 113)), (4, .int (nI (4 * j)))]) hx hb dL_law_286 hl (by decide) rfl (fun ls hl => ?_)
      refine lv_aload_n hx hb dL_law_288 rfl (lv_at hl 3 rfl) ?_
      refine lv_aload_n hx hb dL_law_289 rfl (lv_at hl 1 rfl) ?_
      refine lv_iload hx hb dL_law_290 (lv_at hl 5 rfl) ?_
      refine lv_iconst (v := 1) hx hb dL_law_292 (by decide) ?_
      refine lv_iadd hx hb dL_law_293 ?_
      refine lv_as (y := nI (4 * j + 1)) (nI_add2 (p := 4 * j) (q := 1) rfl rfl) ?_
      refine g_sld hx hb hXs hbl hS (4 * j + 1) rfl (by omega) (by omega) dL_law_294 ?_
      refine lv_as (y := nI d) hx1 ?_
      refine lv_aload_n hx hb dL_law_295 rfl (lv_at hl 1 rfl) ?_
      refine lv_iload hx hb dL_law_296 (lv_at hl 5 rfl) ?_
      refine lv_iconst (v := 2) hx hb dL_law_298 (by decide) ?_
      refine lv_iadd hx hb dL_law_299 ?_
      refine lv_as (y := nI (4 * j + 2)) (nI_add2 (p := 4 * j) (q := 2) rfl rfl) ?_
      refine g_sld hx hb hXs hbl hS (4 * j + 2) rfl (by omega) (by omega) dL_law_300 ?_
      refine lwM_i hL hS hPx (va_runV (As := [.int (nI d), .int (xs (4 * j + 2))]) (rest := []) ⟨hx, hb, hml, hown, hts⟩ (m_X7_put l D cI cS b s kp hf sc ad (mi 1) T hBd (by omega) sz hsz hk0 d hd (xs (4 * j + 2)) h2 _) (cwV 2 hts (gV tw879 tw876 tw877 tw878 tw8) rfl rfl rfl (by decide +kernel) ⟨Nat.le_of_ble_eq_true rfl, Nat.le_of_ble_eq_true rfl⟩) (pvW 0 hK hPm hEm (by decide) rfl rfl) rfl rfl hl.1 rfl (lv_room (Nat.le_of_ble_eq_true rfl)) dL_law_301 hc0) (fun rB u2 H locs hrB hPx hPm hS => ?_)
      refine lv_istore (lv' := [(6, .int rB), (5, .int 0), (0, .ref bs), (1, .ref (a 112)), (2, .ref (b 0)), (3, .ref (a 113)), (4, .int (nI (4 * j)))]) hx hb dL_law_304 hl (by decide) rfl (fun ls hl => ?_)
      refine lv_aload_n hx hb dL_law_306 rfl (lv_at hl 4 rfl) ?_
      refine ro_i (va_runV (As := []) (rest := []) ⟨hx, hb, hml, hown, hts⟩ (m_X7_thrown l D cI cS b (mvS s d (xs (4 * j + 2))) kp (svH hf sz s) (upd (upd sc 3 0) 0 (nI (svK sz))) ad (mi 1)) (cwV 0 hts (gV tw797 tw794 tw795 tw796 tw8) rfl rfl rfl (by decide +kernel) ⟨Nat.le_of_ble_eq_true rfl, Nat.le_of_ble_eq_true rfl⟩) (pvR 0 hK hPm (by decide) rfl rfl) rfl rfl hl.1 rfl (lv_room (Nat.le_of_ble_eq_true rfl)) dL_law_307 hc0) (fun r7 hr7 => ?_)
      have hr7 : r7 = 0 := hr7
      subst hr7
      refine lv_iload hx hb dL_law_310 (lv_at hl 1 rfl) ?_
      refine lv_icmp_eq (tgt := 317) hx hb dL_law_312 (by decide) (fun _ => ?_) (fun h0 => absurd (by decide) h0)
      refine lv_iload hx hb dL_law_317 (lv_at hl 1 rfl) ?_
      refine lv_if_ne (tgt := 334) hx hb dL_law_319 (by decide) (fun h0 => absurd (by decide) h0) (fun _ => ?_)
      refine lv_aload_n hx hb dL_law_322 rfl (lv_at hl 5 rfl) ?_
      refine lv_iconst (v := 0) hx hb dL_law_323 (by decide) ?_
      refine g_lald hx hb hKL hPx (v := (s 1 d).toInt64) rfl dL_law_324 ?_
      refine lv_iload hx hb dL_law_325 (lv_at hl 0 rfl) ?_
      refine lv_i2l hx hb dL_law_327 rfl ?_
      refine g_lcmp0 hx hb (by rw [hrB]) dL_law_328 ?_
      refine lv_if_eq (tgt := 334) hx hb dL_law_329 (by decide) (fun _ => ?_) (fun h0 => absurd (by decide) h0)
      refine lv_goto (tgt := 1363) hx hb dL_law_334 (by decide) ?_
      refine W.widen (k := cells + 1) (n := slots + 6) (by omega) (by omega) ?_
      exact kk H locs ls ⟨(mvS s d (xs (4 * j + 2))), (va_up st (svPi pi sz (svQ sz) + 1) s), (svPi pi sz), (up2 mi 0 0 (nI (svQ sz + 1))), po, (vp_updL ov 0 (s 1 d).toInt64), kp, (svH hf sz s), (upd (upd sc 3 0) 0 (nI (svK sz))), ad, svQ sz + 1, ln, hPx, hPm, hLI.sv (by omega) ((hBd.put hd h2).mono (by omega)) hln rfl hl0 rfl rfl rfl hlm⟩ hS (lv_sub hl [2, 3, 4, 5, 6] rfl)
    · skip
      refine lv_aload_n hx hb dL_law_269 rfl (lv_at hl 1 rfl) ?_
      refine lv_aload_n hx hb dL_law_270 rfl (lv_at hl 0 rfl) ?_
      refine lv_iload hx hb dL_law_271 (lv_at hl 4 rfl) ?_
      refine lv_iconst (v := 1) hx hb dL_law_273 (by decide) ?_
      refine lv_iadd hx hb dL_law_274 ?_
      refine lv_as (y := nI (4 * j + 1)) (nI_add2 (p := 4 * j) (q := 1) rfl rfl) ?_
      refine g_sld hx hb hXs hbl hS (4 * j + 1) rfl (by omega) (by omega) dL_law_275 ?_
      refine lv_as (y := nI d) hx1 ?_
      refine lv_aload_n hx hb dL_law_276 rfl (lv_at hl 0 rfl) ?_
      refine lv_iload hx hb dL_law_277 (lv_at hl 4 rfl) ?_
      refine lv_iconst (v := 2) hx hb dL_law_279 (by decide) ?_
      refine lv_iadd hx hb dL_law_280 ?_
      refine lv_as (y := nI (4 * j + 2)) (nI_add2 (p := 4 * j) (q := 2) rfl rfl) ?_
      refine g_sld hx hb hXs hbl hS (4 * j + 2) rfl (by omega) (by omega) dL_law_281 ?_
      refine lv_aload_n hx hb dL_law_282 rfl (lv_at hl 3 rfl) ?_
      refine lwL_i hL hS hPm (vx_runSW (As := [.ref (a 112), .int (nI d), .int (xs (4 * j + 2)), .ref (a 113)]) (rest := []) ⟨hx, hb, hml, hown, hts⟩ (mt2_L_put l hst D cI cS cL a s st pi mi po ov d hd (xs (4 * j + 2)) h2 _) (vx_cwSW 4 hts (gS tw605 tw603 tw604 tw0) rfl rfl rfl (by decide +kernel) ⟨Nat.le_of_ble_eq_true rfl, Nat.le_of_ble_eq_true rfl⟩) (psO hK hPx hL.1 hKL hEV ((hEH.kept hS.2.1).narrow (fun _ h => h.elim))) rfl rfl hl.1 rfl (lv_room (Nat.le_of_ble_eq_true rfl)) dL_law_283 hc1) (fun rA u1 H locs hrA hPx hPm hS => ?_)
      subst hrA
      refine lv_istore (lv' := [(5, .int 2), (0, .ref bs), (1, .ref (a 112)), (2, .ref (b 0)), (3, .ref (a 113)), (4, .int (nI (4 * j)))]) hx hb dL_law_286 hl (by decide) rfl (fun ls hl => ?_)
      refine lv_aload_n hx hb dL_law_288 rfl (lv_at hl 3 rfl) ?_
      refine lv_aload_n hx hb dL_law_289 rfl (lv_at hl 1 rfl) ?_
      refine lv_iload hx hb dL_law_290 (lv_at hl 5 rfl) ?_
      refine lv_iconst (v := 1) hx hb dL_law_292 (by decide) ?_
      refine lv_iadd hx hb dL_law_293 ?_
      refine lv_as (y := nI (4 * j + 1)) (nI_add2 (p := 4 * j) (q := 1) rfl rfl) ?_
      refine g_sld hx hb hXs hbl hS (4 * j + 1) rfl (by omega) (by omega) dL_law_294 ?_
      refine lv_as (y := nI d) hx1 ?_
      refine lv_aload_n hx hb dL_law_295 rfl (lv_at hl 1 rfl) ?_
      refine lv_iload hx hb dL_law_296 (lv_at hl 5 rfl) ?_
      refine lv_iconst (v := 2) hx hb dL_law_298 (by decide) ?_
      refine lv_iadd hx hb dL_law_299 ?_
      refine lv_as (y := nI (4 * j + 2)) (nI_add2 (p := 4 * j) (q := 2) rfl rfl) ?_
      refine g_sld hx hb hXs hbl hS (4 * j + 2) rfl (by omega) (by omega) dL_law_300 ?_
      refine lwM_i hL hS hPx (va_runV (As := [.int (nI d), .int (xs (4 * j + 2))]) (rest := []) ⟨hx, hb, hml, hown, hts⟩ (mx2_X7_put l D cI cS b s kp hf sc ad (mi 1) (nI d) (xs (4 * j + 2)) (hx1 ▸ h1) h2 _) (cwV 2 hts (gV tw879 tw876 tw877 tw878 tw8) rfl rfl rfl (by decide +kernel) ⟨Nat.le_of_ble_eq_true rfl, Nat.le_of_ble_eq_true rfl⟩) (pvW 0 hK hPm hEm (by decide) rfl rfl) rfl rfl hl.1 rfl (lv_room (Nat.le_of_ble_eq_true rfl)) dL_law_301 hc1) (fun rB u2 H locs hrB hPx hPm hS => ?_)
      refine lv_istore (lv' := [(6, .int rB), (5, .int 2), (0, .ref bs), (1, .ref (a 112)), (2, .ref (b 0)), (3, .ref (a 113)), (4, .int (nI (4 * j)))]) hx hb dL_law_304 hl (by decide) rfl (fun ls hl => ?_)
      refine lv_aload_n hx hb dL_law_306 rfl (lv_at hl 4 rfl) ?_
      refine ro_i (va_runV (As := []) (rest := []) ⟨hx, hb, hml, hown, hts⟩ (m_X7_thrown l D cI cS b s kp hf (upd (upd sc 3 0) 3 2) ad (mi 1)) (cwV 0 hts (gV tw797 tw794 tw795 tw796 tw8) rfl rfl rfl (by decide +kernel) ⟨Nat.le_of_ble_eq_true rfl, Nat.le_of_ble_eq_true rfl⟩) (pvR 0 hK hPm (by decide) rfl rfl) rfl rfl hl.1 rfl (lv_room (Nat.le_of_ble_eq_true rfl)) dL_law_307 hc1) (fun r7 hr7 => ?_)
      have hr7 : r7 = 2 := hr7
      subst hr7
      refine lv_iload hx hb dL_law_310 (lv_at hl 1 rfl) ?_
      refine lv_icmp_eq (tgt := 317) hx hb dL_law_312 (by decide) (fun _ => ?_) (fun h0 => absurd (by decide) h0)
      refine lv_iload hx hb dL_law_317 (lv_at hl 1 rfl) ?_
      refine lv_if_ne (tgt := 334) hx hb dL_law_319 (by decide) (fun _ => ?_) (fun h0 => absurd h0 (by decide))
      refine lv_goto (tgt := 1363) hx hb dL_law_334 (by decide) ?_
      refine W.widen (k := cells + 1) (n := slots + 6) (by omega) (by omega) ?_
      exact kk H locs ls ⟨s, st, pi, mi, po, ov, kp, hf, (upd (upd sc 3 0) 3 2), ad, sz, ln, hPx, hPm, hLI.lk (by omega) hln rfl hl0 rfl rfl rfl hlm⟩ hS (lv_sub hl [2, 3, 4, 5, 6] rfl)
  · skip
    refine lv_aload_n hx hb dL_law_269 rfl (lv_at hl 1 rfl) ?_
    refine lv_aload_n hx hb dL_law_270 rfl (lv_at hl 0 rfl) ?_
    refine lv_iload hx hb dL_law_271 (lv_at hl 4 rfl) ?_
    refine lv_iconst (v := 1) hx hb dL_law_273 (by decide) ?_
    refine lv_iadd hx hb dL_law_274 ?_
    refine lv_as (y := nI (4 * j + 1)) (nI_add2 (p := 4 * j) (q := 1) rfl rfl) ?_
    refine g_sld hx hb hXs hbl hS (4 * j + 1) rfl (by omega) (by omega) dL_law_275 ?_
    refine lv_aload_n hx hb dL_law_276 rfl (lv_at hl 0 rfl) ?_
    refine lv_iload hx hb dL_law_277 (lv_at hl 4 rfl) ?_
    refine lv_iconst (v := 2) hx hb dL_law_279 (by decide) ?_
    refine lv_iadd hx hb dL_law_280 ?_
    refine lv_as (y := nI (4 * j + 2)) (nI_add2 (p := 4 * j) (q := 2) rfl rfl) ?_
    refine g_sld hx hb hXs hbl hS (4 * j + 2) rfl (by omega) (by omega) dL_law_281 ?_
    refine lv_aload_n hx hb dL_law_282 rfl (lv_at hl 3 rfl) ?_
    refine lwL_i hL hS hPm (vx_runSW (As := [.ref (a 112), .int (xs (4 * j + 1)), .int (xs (4 * j + 2)), .ref (a 113)]) (rest := []) ⟨hx, hb, hml, hown, hts⟩ (mt_L_put l hst D cI cS cL a s st pi mi po ov (xs (4 * j + 1)) (xs (4 * j + 2)) h1 _) (vx_cwSW 4 hts (gS tw605 tw603 tw604 tw0) rfl rfl rfl (by decide +kernel) ⟨Nat.le_of_ble_eq_true rfl, Nat.le_of_ble_eq_true rfl⟩) (psO hK hPx hL.1 hKL hEV ((hEH.kept hS.2.1).narrow (fun _ h => h.elim))) rfl rfl hl.1 rfl (lv_room (Nat.le_of_ble_eq_true rfl)) dL_law_283 hc1) (fun rA u1 H locs hrA hPx hPm hS => ?_)
    subst hrA
    refine lv_istore (lv' := [(5, .int 1), (0, .ref bs), (1, .ref (a 112)), (2, .ref (b 0)), (3, .ref (a 113)), (4, .int (nI (4 * j)))]) hx hb dL_law_286 hl (by decide) rfl (fun ls hl => ?_)
    refine lv_aload_n hx hb dL_law_288 rfl (lv_at hl 3 rfl) ?_
    refine lv_aload_n hx hb dL_law_289 rfl (lv_at hl 1 rfl) ?_
    refine lv_iload hx hb dL_law_290 (lv_at hl 5 rfl) ?_
    refine lv_iconst (v := 1) hx hb dL_law_292 (by decide) ?_
    refine lv_iadd hx hb dL_law_293 ?_
    refine lv_as (y := nI (4 * j + 1)) (nI_add2 (p := 4 * j) (q := 1) rfl rfl) ?_
    refine g_sld hx hb hXs hbl hS (4 * j + 1) rfl (by omega) (by omega) dL_law_294 ?_
    refine lv_aload_n hx hb dL_law_295 rfl (lv_at hl 1 rfl) ?_
    refine lv_iload hx hb dL_law_296 (lv_at hl 5 rfl) ?_
    refine lv_iconst (v := 2) hx hb dL_law_298 (by decide) ?_
    refine lv_iadd hx hb dL_law_299 ?_
    refine lv_as (y := nI (4 * j + 2)) (nI_add2 (p := 4 * j) (q := 2) rfl rfl) ?_
    refine g_sld hx hb hXs hbl hS (4 * j + 2) rfl (by omega) (by omega) dL_law_300 ?_
    refine lwM_i hL hS hPx (va_runV (As := [.int (xs (4 * j + 1)), .int (xs (4 * j + 2))]) (rest := []) ⟨hx, hb, hml, hown, hts⟩ (mx_X7_put l D cI cS b s kp hf sc ad (mi 1) (xs (4 * j + 1)) (xs (4 * j + 2)) h1 _) (cwV 2 hts (gV tw879 tw876 tw877 tw878 tw8) rfl rfl rfl (by decide +kernel) ⟨Nat.le_of_ble_eq_true rfl, Nat.le_of_ble_eq_true rfl⟩) (pvW 0 hK hPm hEm (by decide) rfl rfl) rfl rfl hl.1 rfl (lv_room (Nat.le_of_ble_eq_true rfl)) dL_law_301 hc1) (fun rB u2 H locs hrB hPx hPm hS => ?_)
    refine lv_istore (lv' := [(6, .int rB), (5, .int 1), (0, .ref bs), (1, .ref (a 112)), (2, .ref (b 0)), (3, .ref (a 113)), (4, .int (nI (4 * j)))]) hx hb dL_law_304 hl (by decide) rfl (fun ls hl => ?_)
    refine lv_aload_n hx hb dL_law_306 rfl (lv_at hl 4 rfl) ?_
    refine ro_i (va_runV (As := []) (rest := []) ⟨hx, hb, hml, hown, hts⟩ (m_X7_thrown l D cI cS b s kp hf (upd (upd sc 3 0) 3 1) ad (mi 1)) (cwV 0 hts (gV tw797 tw794 tw795 tw796 tw8) rfl rfl rfl (by decide +kernel) ⟨Nat.le_of_ble_eq_true rfl, Nat.le_of_ble_eq_true rfl⟩) (pvR 0 hK hPm (by decide) rfl rfl) rfl rfl hl.1 rfl (lv_room (Nat.le_of_ble_eq_true rfl)) dL_law_307 hc1) (fun r7 hr7 => ?_)
    have hr7 : r7 = 1 := hr7
    subst hr7
    refine lv_iload hx hb dL_law_310 (lv_at hl 1 rfl) ?_
    refine lv_icmp_eq (tgt := 317) hx hb dL_law_312 (by decide) (fun _ => ?_) (fun h0 => absurd (by decide) h0)
    refine lv_iload hx hb dL_law_317 (lv_at hl 1 rfl) ?_
    refine lv_if_ne (tgt := 334) hx hb dL_law_319 (by decide) (fun _ => ?_) (fun h0 => absurd h0 (by decide))
    refine lv_goto (tgt := 1363) hx hb dL_law_334 (by decide) ?_
    refine W.widen (k := cells + 1) (n := slots + 6) (by omega) (by omega) ?_
    exact kk H locs ls ⟨s, st, pi, mi, po, ov, kp, hf, (upd (upd sc 3 0) 3 1), ad, sz, ln, hPx, hPm, hLI.lk (by omega) hln rfl hl0 rfl rfl rfl hlm⟩ hS (lv_sub hl [2, 3, 4, 5, 6] rfl)

set_option maxHeartbeats 4000000 in
set_option maxRecDepth 100000 in
theorem law_drift {p : Program} {l : Launch} {e : Env} {z : State} {m : MethodId} {below : List Frame} {meth : Method} {c : Code} {Q : State → Prop} {D : va_G} {cI cS cL : ClassId} {a b : Nat → Nat} {bs L : Nat} {xs : Nat → Int32} {T : Int} {j cells slots : Nat} {H : Heap} {locs : List Loc} {ls : Array Slot} (hC : LF p l z m meth c D cI cS cL a b bs L xs) (hj : 4 * j + 3 < L) (hT : T ≤ 99000000) (h0T : 0 ≤ T) (hc1 : cells + 1 ≤ room_1.cells ∧ slots + 6 ≤ room_1.slots) (hW : LWd D cI cS cL a b T H) (hS : va_S (LA z.heap.size) z.heap H locs) (hl : lv_has ls 9 [(0, .ref bs), (1, .ref (a 112)), (2, .ref (b 0)), (3, .ref (a 113)), (4, .int (nI (4 * j)))])
    (kk : ∀ (H1 : Heap) (locs1 : List Loc) (ls1 : Array Slot), LWd D cI cS cL a b (T + 100000) H1 → va_S (LA z.heap.size) z.heap H1 locs1 → lv_has ls1 9 [(0, .ref bs), (1, .ref (a 112)), (2, .ref (b 0)), (3, .ref (a 113)), (4, .int (nI (4 * j)))] → W p l e room_1 z m #[Value.ref bs] below meth c H1 locs1 (cells + 1) (slots + 6) Q (F0 m 1363 ls1 [])) : W p l e room_1 z m #[Value.ref bs] below meth c H locs cells slots Q (F0 m 337 ls []) := by
  obtain ⟨hx, hb, hml, hown, hts, hK, hKL, hEV, hEH, hXs, hbl, hL9, hL, hst⟩ := hC
  obtain ⟨s, st, pi, mi, po, ov, kp, hf, sc, ad, sz, ln, hPx, hPm, hLI⟩ := hW
  obtain ⟨hsz, hpi, hpj, hh, hBd, hln, hs0, hl0, hk0, hlm, hkm, hkk⟩ := id hLI
  have hEm := hL.2.1
  have hc0 : cells + 0 ≤ room_1.cells ∧ slots + 0 ≤ room_1.slots := ⟨by omega, by omega⟩
  by_cases h1 : witB (xs (4 * j + 1)) 0 6
  · skip
    obtain ⟨d, hd0, hx1⟩ := wit_nat (hi := 6) rfl (by decide) h1
    have hd : d < 7 := by omega
    by_cases h2 : witB (xs (4 * j + 2)) (-5) 5
    · skip
      refine lv_aload_n hx hb dL_law_337 rfl (lv_at hl 1 rfl) ?_
      refine lv_aload_n hx hb dL_law_338 rfl (lv_at hl 0 rfl) ?_
      refine lv_iload hx hb dL_law_339 (lv_at hl 4 rfl) ?_
      refine lv_iconst (v := 1) hx hb dL_law_341 (by decide) ?_
      refine lv_iadd hx hb dL_law_342 ?_
      refine lv_as (y := nI (4 * j + 1)) (nI_add2 (p := 4 * j) (q := 1) rfl rfl) ?_
      refine g_sld hx hb hXs hbl hS (4 * j + 1) rfl (by omega) (by omega) dL_law_343 ?_
      refine lv_as (y := nI d) hx1 ?_
      refine lv_aload_n hx hb dL_law_344 rfl (lv_at hl 0 rfl) ?_
      refine lv_iload hx hb dL_law_345 (lv_at hl 4 rfl) ?_
      refine lv_iconst (v := 2) hx hb dL_law_347 (by decide) ?_
      refine lv_iadd hx hb dL_law_348 ?_
      refine lv_as (y := nI (4 * j + 2)) (nI_add2 (p := 4 * j) (q := 2) rfl rfl) ?_
      refine g_sld hx hb hXs hbl hS (4 * j + 2) rfl (by omega) (by omega) dL_law_349 ?_
      refine lv_aload_n hx hb dL_law_350 rfl (lv_at hl 3 rfl) ?_
      refine lwL_i hL hS hPm (vx_runSW (As := [.ref (a 112), .int (nI d), .int (xs (4 * j + 2)), .ref (a 113)]) (rest := []) ⟨hx, hb, hml, hown, hts⟩ (m_L_drift l D cI cS cL a s st pi mi po ov sz hsz hs0 hpi d hd (xs (4 * j + 2)) (Int32.not_lt.mpr h2.1) h2.2 _) (vx_cwSW 4 hts (gS tw616 tw614 tw615 tw0) rfl rfl rfl (by decide +kernel) ⟨Nat.le_of_ble_eq_true rfl, Nat.le_of_ble_eq_true rfl⟩) (psO hK hPx hL.1 hKL hEV ((hEH.kept hS.2.1).narrow (fun _ h => h.elim))) rfl rfl hl.1 rfl (lv_room (Nat.le_of_ble_eq_true rfl)) dL_law_351 hc0) (fun rA u1 H locs hrA hPx hPm hS => ?_)
      subst hrA
      refine lv_istore (lv' := [(5, .int 0), (0, .ref bs), (1, .ref (a 112)), (2, .ref (b 0)), (3, .ref (a 113)), (4, .int (nI (4 * j)))]) hx hb dL_law_354 hl (by decide) rfl (fun ls hl => ?_)
      refine lv_aload_n hx hb dL_law_356 rfl (lv_at hl 3 rfl) ?_
      refine lv_aload_n hx hb dL_law_357 rfl (lv_at hl 1 rfl) ?_
      refine lv_iload hx hb dL_law_358 (lv_at hl 5 rfl) ?_
      refine lv_iconst (v := 1) hx hb dL_law_360 (by decide) ?_
      refine lv_iadd hx hb dL_law_361 ?_
      refine lv_as (y := nI (4 * j + 1)) (nI_add2 (p := 4 * j) (q := 1) rfl rfl) ?_
      refine g_sld hx hb hXs hbl hS (4 * j + 1) rfl (by omega) (by omega) dL_law_362 ?_
      refine lv_as (y := nI d) hx1 ?_
      refine lv_aload_n hx hb dL_law_363 rfl (lv_at hl 1 rfl) ?_
      refine lv_iload hx hb dL_law_364 (lv_at hl 5 rfl) ?_
      refine lv_iconst (v := 2) hx hb dL_law_366 (by decide) ?_
      refine lv_iadd hx hb dL_law_367 ?_
      refine lv_as (y := nI (4 * j + 2)) (nI_add2 (p := 4 * j) (q := 2) rfl rfl) ?_
      refine g_sld hx hb hXs hbl hS (4 * j + 2) rfl (by omega) (by omega) dL_law_368 ?_
      refine lwM_i hL hS hPx (va_runV (As := [.int (nI d), .int (xs (4 * j + 2))]) (rest := []) ⟨hx, hb, hml, hown, hts⟩ (m_X7_drift l D cI cS b s kp hf sc ad (mi 1) T hBd (by omega) sz hsz hk0 d hd (xs (4 * j + 2)) h2 _) (cwV 2 hts (gV tw886 tw883 tw884 tw885 tw8) rfl rfl rfl (by decide +kernel) ⟨Nat.le_of_ble_eq_true rfl, Nat.le_of_ble_eq_true rfl⟩) (pvW 0 hK hPm hEm (by decide) rfl rfl) rfl rfl hl.1 rfl (lv_room (Nat.le_of_ble_eq_true rfl)) dL_law_369 hc0) (fun rB u2 H locs hrB hPx hPm hS => ?_)
      refine lv_istore (lv' := [(6, .int rB), (5, .int 0), (0, .ref bs), (1, .ref (a 112)), (2, .ref (b 0)), (3, .ref (a 113)), (4, .int (nI (4 * j)))]) hx hb dL_law_372 hl (by decide) rfl (fun ls hl => ?_)
      refine lv_aload_n hx hb dL_law_374 rfl (lv_at hl 4 rfl) ?_
      refine ro_i (va_runV (As := []) (rest := []) ⟨hx, hb, hml, hown, hts⟩ (m_X7_thrown l D cI cS b (up2 s 2 d (xs (4 * j + 2))) kp (svH hf sz s) (upd (upd sc 3 0) 0 (nI (svK sz))) ad (mi 1)) (cwV 0 hts (gV tw797 tw794 tw795 tw796 tw8) rfl rfl rfl (by decide +kernel) ⟨Nat.le_of_ble_eq_true rfl, Nat.le_of_ble_eq_true rfl⟩) (pvR 0 hK hPm (by decide) rfl rfl) rfl rfl hl.1 rfl (lv_room (Nat.le_of_ble_eq_true rfl)) dL_law_375 hc0) (fun r7 hr7 => ?_)
      have hr7 : r7 = 0 := hr7
      subst hr7
      refine lv_iload hx hb dL_law_378 (lv_at hl 1 rfl) ?_
      refine lv_icmp_eq (tgt := 385) hx hb dL_law_380 (by decide) (fun _ => ?_) (fun h0 => absurd (by decide) h0)
      refine lv_iload hx hb dL_law_385 (lv_at hl 1 rfl) ?_
      refine lv_if_ne (tgt := 402) hx hb dL_law_387 (by decide) (fun h0 => absurd (by decide) h0) (fun _ => ?_)
      refine lv_aload_n hx hb dL_law_390 rfl (lv_at hl 5 rfl) ?_
      refine lv_iconst (v := 0) hx hb dL_law_391 (by decide) ?_
      refine g_lald hx hb hKL hPx (v := (s 2 d).toInt64) rfl dL_law_392 ?_
      refine lv_iload hx hb dL_law_393 (lv_at hl 0 rfl) ?_
      refine lv_i2l hx hb dL_law_395 rfl ?_
      refine g_lcmp0 hx hb (by rw [hrB]) dL_law_396 ?_
      refine lv_if_eq (tgt := 402) hx hb dL_law_397 (by decide) (fun _ => ?_) (fun h0 => absurd (by decide) h0)
      refine lv_goto (tgt := 1363) hx hb dL_law_402 (by decide) ?_
      refine W.widen (k := cells + 1) (n := slots + 6) (by omega) (by omega) ?_
      exact kk H locs ls ⟨(up2 s 2 d (xs (4 * j + 2))), (va_up st (svPi pi sz (svQ sz) + 1) s), (svPi pi sz), (up2 mi 0 0 (nI (svQ sz + 1))), po, (vp_updL ov 0 (s 2 d).toInt64), kp, (svH hf sz s), (upd (upd sc 3 0) 0 (nI (svK sz))), ad, svQ sz + 1, ln, hPx, hPm, hLI.sv (by omega) ((hBd.drf h2).mono (by omega)) hln rfl hl0 rfl rfl rfl hlm⟩ hS (lv_sub hl [2, 3, 4, 5, 6] rfl)
    · skip
      refine lv_aload_n hx hb dL_law_337 rfl (lv_at hl 1 rfl) ?_
      refine lv_aload_n hx hb dL_law_338 rfl (lv_at hl 0 rfl) ?_
      refine lv_iload hx hb dL_law_339 (lv_at hl 4 rfl) ?_
      refine lv_iconst (v := 1) hx hb dL_law_341 (by decide) ?_
      refine lv_iadd hx hb dL_law_342 ?_
      refine lv_as (y := nI (4 * j + 1)) (nI_add2 (p := 4 * j) (q := 1) rfl rfl) ?_
      refine g_sld hx hb hXs hbl hS (4 * j + 1) rfl (by omega) (by omega) dL_law_343 ?_
      refine lv_as (y := nI d) hx1 ?_
      refine lv_aload_n hx hb dL_law_344 rfl (lv_at hl 0 rfl) ?_
      refine lv_iload hx hb dL_law_345 (lv_at hl 4 rfl) ?_
      refine lv_iconst (v := 2) hx hb dL_law_347 (by decide) ?_
      refine lv_iadd hx hb dL_law_348 ?_
      refine lv_as (y := nI (4 * j + 2)) (nI_add2 (p := 4 * j) (q := 2) rfl rfl) ?_
      refine g_sld hx hb hXs hbl hS (4 * j + 2) rfl (by omega) (by omega) dL_law_349 ?_
      refine lv_aload_n hx hb dL_law_350 rfl (lv_at hl 3 rfl) ?_
      refine lwL_i hL hS hPm (vx_runSW (As := [.ref (a 112), .int (nI d), .int (xs (4 * j + 2)), .ref (a 113)]) (rest := []) ⟨hx, hb, hml, hown, hts⟩ (mt2_L_drift l hst D cI cS cL a s st pi mi po ov d hd (xs (4 * j + 2)) h2 _) (vx_cwSW 4 hts (gS tw616 tw614 tw615 tw0) rfl rfl rfl (by decide +kernel) ⟨Nat.le_of_ble_eq_true rfl, Nat.le_of_ble_eq_true rfl⟩) (psO hK hPx hL.1 hKL hEV ((hEH.kept hS.2.1).narrow (fun _ h => h.elim))) rfl rfl hl.1 rfl (lv_room (Nat.le_of_ble_eq_true rfl)) dL_law_351 hc1) (fun rA u1 H locs hrA hPx hPm hS => ?_)
      subst hrA
      refine lv_istore (lv' := [(5, .int 2), (0, .ref bs), (1, .ref (a 112)), (2, .ref (b 0)), (3, .ref (a 113)), (4, .int (nI (4 * j)))]) hx hb dL_law_354 hl (by decide) rfl (fun ls hl => ?_)
      refine lv_aload_n hx hb dL_law_356 rfl (lv_at hl 3 rfl) ?_
      refine lv_aload_n hx hb dL_law_357 rfl (lv_at hl 1 rfl) ?_
      refine lv_iload hx hb dL_law_358 (lv_at hl 5 rfl) ?_
      refine lv_iconst (v := 1) hx hb dL_law_360 (by decide) ?_
      refine lv_iadd hx hb dL_law_361 ?_
      refine lv_as (y := nI (4 * j + 1)) (nI_add2 (p := 4 * j) (q := 1) rfl rfl) ?_
      refine g_sld hx hb hXs hbl hS (4 * j + 1) rfl (by omega) (by omega) dL_law_362 ?_
      refine lv_as (y := nI d) hx1 ?_
      refine lv_aload_n hx hb dL_law_363 rfl (lv_at hl 1 rfl) ?_
      refine lv_iload hx hb dL_law_364 (lv_at hl 5 rfl) ?_
      refine lv_iconst (v := 2) hx hb dL_law_366 (by decide) ?_
      refine lv_iadd hx hb dL_law_367 ?_
      refine lv_as (y := nI (4 * j + 2)) (nI_add2 (p := 4 * j) (q := 2) rfl rfl) ?_
      refine g_sld hx hb hXs hbl hS (4 * j + 2) rfl (by omega) (by omega) dL_law_368 ?_
      refine lwM_i hL hS hPx (va_runV (As := [.int (nI d), .int (xs (4 * j + 2))]) (rest := []) ⟨hx, hb, hml, hown, hts⟩ (mx2_X7_drift l D cI cS b s kp hf sc ad (mi 1) (nI d) (xs (4 * j + 2)) (hx1 ▸ h1) h2 _) (cwV 2 hts (gV tw886 tw883 tw884 tw885 tw8) rfl rfl rfl (by decide +kernel) ⟨Nat.le_of_ble_eq_true rfl, Nat.le_of_ble_eq_true rfl⟩) (pvW 0 hK hPm hEm (by decide) rfl rfl) rfl rfl hl.1 rfl (lv_room (Nat.le_of_ble_eq_true rfl)) dL_law_369 hc1) (fun rB u2 H locs hrB hPx hPm hS => ?_)
      refine lv_istore (lv' := [(6, .int rB), (5, .int 2), (0, .ref bs), (1, .ref (a 112)), (2, .ref (b 0)), (3, .ref (a 113)), (4, .int (nI (4 * j)))]) hx hb dL_law_372 hl (by decide) rfl (fun ls hl => ?_)
      refine lv_aload_n hx hb dL_law_374 rfl (lv_at hl 4 rfl) ?_
      refine ro_i (va_runV (As := []) (rest := []) ⟨hx, hb, hml, hown, hts⟩ (m_X7_thrown l D cI cS b s kp hf (upd (upd sc 3 0) 3 2) ad (mi 1)) (cwV 0 hts (gV tw797 tw794 tw795 tw796 tw8) rfl rfl rfl (by decide +kernel) ⟨Nat.le_of_ble_eq_true rfl, Nat.le_of_ble_eq_true rfl⟩) (pvR 0 hK hPm (by decide) rfl rfl) rfl rfl hl.1 rfl (lv_room (Nat.le_of_ble_eq_true rfl)) dL_law_375 hc1) (fun r7 hr7 => ?_)
      have hr7 : r7 = 2 := hr7
      subst hr7
      refine lv_iload hx hb dL_law_378 (lv_at hl 1 rfl) ?_
      refine lv_icmp_eq (tgt := 385) hx hb dL_law_380 (by decide) (fun _ => ?_) (fun h0 => absurd (by decide) h0)
      refine lv_iload hx hb dL_law_385 (lv_at hl 1 rfl) ?_
      refine lv_if_ne (tgt := 402) hx hb dL_law_387 (by decide) (fun _ => ?_) (fun h0 => absurd h0 (by decide))
      refine lv_goto (tgt := 1363) hx hb dL_law_402 (by decide) ?_
      refine W.widen (k := cells + 1) (n := slots + 6) (by omega) (by omega) ?_
      exact kk H locs ls ⟨s, st, pi, mi, po, ov, kp, hf, (upd (upd sc 3 0) 3 2), ad, sz, ln, hPx, hPm, hLI.lk (by omega) hln rfl hl0 rfl rfl rfl hlm⟩ hS (lv_sub hl [2, 3, 4, 5, 6] rfl)
  · skip
    refine lv_aload_n hx hb dL_law_337 rfl (lv_at hl 1 rfl) ?_
    refine lv_aload_n hx hb dL_law_338 rfl (lv_at hl 0 rfl) ?_
    refine lv_iload hx hb dL_law_339 (lv_at hl 4 rfl) ?_
    refine lv_iconst (v := 1) hx hb dL_law_341 (by decide) ?_
    refine lv_iadd hx hb dL_law_342 ?_
    refine lv_as (y := nI (4 * j + 1)) (nI_add2 (p := 4 * j) (q := 1) rfl rfl) ?_
    refine g_sld hx hb hXs hbl hS (4 * j + 1) rfl (by omega) (by omega) dL_law_343 ?_
    refine lv_aload_n hx hb dL_law_344 rfl (lv_at hl 0 rfl) ?_
    refine lv_iload hx hb dL_law_345 (lv_at hl 4 rfl) ?_
    refine lv_iconst (v := 2) hx hb dL_law_347 (by decide) ?_
    refine lv_iadd hx hb dL_law_348 ?_
    refine lv_as (y := nI (4 * j + 2)) (nI_add2 (p := 4 * j) (q := 2) rfl rfl) ?_
    refine g_sld hx hb hXs hbl hS (4 * j + 2) rfl (by omega) (by omega) dL_law_349 ?_
    refine lv_aload_n hx hb dL_law_350 rfl (lv_at hl 3 rfl) ?_
    refine lwL_i hL hS hPm (vx_runSW (As := [.ref (a 112), .int (xs (4 * j + 1)), .int (xs (4 * j + 2)), .ref (a 113)]) (rest := []) ⟨hx, hb, hml, hown, hts⟩ (mt_L_drift l hst D cI cS cL a s st pi mi po ov (xs (4 * j + 1)) (xs (4 * j + 2)) h1 _) (vx_cwSW 4 hts (gS tw616 tw614 tw615 tw0) rfl rfl rfl (by decide +kernel) ⟨Nat.le_of_ble_eq_true rfl, Nat.le_of_ble_eq_true rfl⟩) (psO hK hPx hL.1 hKL hEV ((hEH.kept hS.2.1).narrow (fun _ h => h.elim))) rfl rfl hl.1 rfl (lv_room (Nat.le_of_ble_eq_true rfl)) dL_law_351 hc1) (fun rA u1 H locs hrA hPx hPm hS => ?_)
    subst hrA
    refine lv_istore (lv' := [(5, .int 1), (0, .ref bs), (1, .ref (a 112)), (2, .ref (b 0)), (3, .ref (a 113)), (4, .int (nI (4 * j)))]) hx hb dL_law_354 hl (by decide) rfl (fun ls hl => ?_)
    refine lv_aload_n hx hb dL_law_356 rfl (lv_at hl 3 rfl) ?_
    refine lv_aload_n hx hb dL_law_357 rfl (lv_at hl 1 rfl) ?_
    refine lv_iload hx hb dL_law_358 (lv_at hl 5 rfl) ?_
    refine lv_iconst (v := 1) hx hb dL_law_360 (by decide) ?_
    refine lv_iadd hx hb dL_law_361 ?_
    refine lv_as (y := nI (4 * j + 1)) (nI_add2 (p := 4 * j) (q := 1) rfl rfl) ?_
    refine g_sld hx hb hXs hbl hS (4 * j + 1) rfl (by omega) (by omega) dL_law_362 ?_
    refine lv_aload_n hx hb dL_law_363 rfl (lv_at hl 1 rfl) ?_
    refine lv_iload hx hb dL_law_364 (lv_at hl 5 rfl) ?_
    refine lv_iconst (v := 2) hx hb dL_law_366 (by decide) ?_
    refine lv_iadd hx hb dL_law_367 ?_
    refine lv_as (y := nI (4 * j + 2)) (nI_add2 (p := 4 * j) (q := 2) rfl rfl) ?_
    refine g_sld hx hb hXs hbl hS (4 * j + 2) rfl (by omega) (by omega) dL_law_368 ?_
    refine lwM_i hL hS hPx (va_runV (As := [.int (xs (4 * j + 1)), .int (xs (4 * j + 2))]) (rest := []) ⟨hx, hb, hml, hown, hts⟩ (mx_X7_drift l D cI cS b s kp hf sc ad (mi 1) (xs (4 * j + 1)) (xs (4 * j + 2)) h1 _) (cwV 2 hts (gV tw886 tw883 tw884 tw885 tw8) rfl rfl rfl (by decide +kernel) ⟨Nat.le_of_ble_eq_true rfl, Nat.le_of_ble_eq_true rfl⟩) (pvW 0 hK hPm hEm (by decide) rfl rfl) rfl rfl hl.1 rfl (lv_room (Nat.le_of_ble_eq_true rfl)) dL_law_369 hc1) (fun rB u2 H locs hrB hPx hPm hS => ?_)
    refine lv_istore (lv' := [(6, .int rB), (5, .int 1), (0, .ref bs), (1, .ref (a 112)), (2, .ref (b 0)), (3, .ref (a 113)), (4, .int (nI (4 * j)))]) hx hb dL_law_372 hl (by decide) rfl (fun ls hl => ?_)
    refine lv_aload_n hx hb dL_law_374 rfl (lv_at hl 4 rfl) ?_
    refine ro_i (va_runV (As := []) (rest := []) ⟨hx, hb, hml, hown, hts⟩ (m_X7_thrown l D cI cS b s kp hf (upd (upd sc 3 0) 3 1) ad (mi 1)) (cwV 0 hts (gV tw797 tw794 tw795 tw796 tw8) rfl rfl rfl (by decide +kernel) ⟨Nat.le_of_ble_eq_true rfl, Nat.le_of_ble_eq_true rfl⟩) (pvR 0 hK hPm (by decide) rfl rfl) rfl rfl hl.1 rfl (lv_room (Nat.le_of_ble_eq_true rfl)) dL_law_375 hc1) (fun r7 hr7 => ?_)
    have hr7 : r7 = 1 := hr7
    subst hr7
    refine lv_iload hx hb dL_law_378 (lv_at hl 1 rfl) ?_
    refine lv_icmp_eq (tgt := 385) hx hb dL_law_380 (by decide) (fun _ => ?_) (fun h0 => absurd (by decide) h0)
    refine lv_iload hx hb dL_law_385 (lv_at hl 1 rfl) ?_
    refine lv_if_ne (tgt := 402) hx hb dL_law_387 (by decide) (fun _ => ?_) (fun h0 => absurd h0 (by decide))
    refine lv_goto (tgt := 1363) hx hb dL_law_402 (by decide) ?_
    refine W.widen (k := cells + 1) (n := slots + 6) (by omega) (by omega) ?_
    exact kk H locs ls ⟨s, st, pi, mi, po, ov, kp, hf, (upd (upd sc 3 0) 3 1), ad, sz, ln, hPx, hPm, hLI.lk (by omega) hln rfl hl0 rfl rfl rfl hlm⟩ hS (lv_sub hl [2, 3, 4, 5, 6] rfl)

set_option maxHeartbeats 4000000 in
set_option maxRecDepth 100000 in
theorem law_warden {p : Program} {l : Launch} {e : Env} {z : State} {m : MethodId} {below : List Frame} {meth : Method} {c : Code} {Q : State → Prop} {D : va_G} {cI cS cL : ClassId} {a b : Nat → Nat} {bs L : Nat} {xs : Nat → Int32} {T : Int} {j cells slots : Nat} {H : Heap} {locs : List Loc} {ls : Array Slot} (hC : LF p l z m meth c D cI cS cL a b bs L xs) (hj : 4 * j + 3 < L) (hT : T ≤ 99000000) (h0T : 0 ≤ T) (hc1 : cells + 1 ≤ room_1.cells ∧ slots + 6 ≤ room_1.slots) (hW : LWd D cI cS cL a b T H) (hS : va_S (LA z.heap.size) z.heap H locs) (hl : lv_has ls 9 [(0, .ref bs), (1, .ref (a 112)), (2, .ref (b 0)), (3, .ref (a 113)), (4, .int (nI (4 * j)))])
    (kk : ∀ (H1 : Heap) (locs1 : List Loc) (ls1 : Array Slot), LWd D cI cS cL a b (T + 100000) H1 → va_S (LA z.heap.size) z.heap H1 locs1 → lv_has ls1 9 [(0, .ref bs), (1, .ref (a 112)), (2, .ref (b 0)), (3, .ref (a 113)), (4, .int (nI (4 * j)))] → W p l e room_1 z m #[Value.ref bs] below meth c H1 locs1 (cells + 1) (slots + 6) Q (F0 m 1363 ls1 [])) : W p l e room_1 z m #[Value.ref bs] below meth c H locs cells slots Q (F0 m 405 ls []) := by
  obtain ⟨hx, hb, hml, hown, hts, hK, hKL, hEV, hEH, hXs, hbl, hL9, hL, hst⟩ := hC
  obtain ⟨s, st, pi, mi, po, ov, kp, hf, sc, ad, sz, ln, hPx, hPm, hLI⟩ := hW
  obtain ⟨hsz, hpi, hpj, hh, hBd, hln, hs0, hl0, hk0, hlm, hkm, hkk⟩ := id hLI
  have hEm := hL.2.1
  have hc0 : cells + 0 ≤ room_1.cells ∧ slots + 0 ≤ room_1.slots := ⟨by omega, by omega⟩
  by_cases h1 : witB (xs (4 * j + 1)) 0 6
  · skip
    obtain ⟨w, hw0, hx1⟩ := wit_nat (hi := 6) rfl (by decide) h1
    have hw : w < 7 := by omega
    by_cases h2 : witB (xs (4 * j + 2)) 0 9
    · skip
      by_cases h3 : witB (xs (4 * j + 3)) (-60) 60
      · skip
        refine lv_aload_n hx hb dL_law_405 rfl (lv_at hl 1 rfl) ?_
        refine lv_aload_n hx hb dL_law_406 rfl (lv_at hl 0 rfl) ?_
        refine lv_iload hx hb dL_law_407 (lv_at hl 4 rfl) ?_
        refine lv_iconst (v := 1) hx hb dL_law_409 (by decide) ?_
        refine lv_iadd hx hb dL_law_410 ?_
        refine lv_as (y := nI (4 * j + 1)) (nI_add2 (p := 4 * j) (q := 1) rfl rfl) ?_
        refine g_sld hx hb hXs hbl hS (4 * j + 1) rfl (by omega) (by omega) dL_law_411 ?_
        refine lv_as (y := nI w) hx1 ?_
        refine lv_aload_n hx hb dL_law_412 rfl (lv_at hl 0 rfl) ?_
        refine lv_iload hx hb dL_law_413 (lv_at hl 4 rfl) ?_
        refine lv_iconst (v := 2) hx hb dL_law_415 (by decide) ?_
        refine lv_iadd hx hb dL_law_416 ?_
        refine lv_as (y := nI (4 * j + 2)) (nI_add2 (p := 4 * j) (q := 2) rfl rfl) ?_
        refine g_sld hx hb hXs hbl hS (4 * j + 2) rfl (by omega) (by omega) dL_law_417 ?_
        refine lv_aload_n hx hb dL_law_418 rfl (lv_at hl 0 rfl) ?_
        refine lv_iload hx hb dL_law_419 (lv_at hl 4 rfl) ?_
        refine lv_iconst (v := 3) hx hb dL_law_421 (by decide) ?_
        refine lv_iadd hx hb dL_law_422 ?_
        refine lv_as (y := nI (4 * j + 3)) (nI_add2 (p := 4 * j) (q := 3) rfl rfl) ?_
        refine g_sld hx hb hXs hbl hS (4 * j + 3) rfl (by omega) (by omega) dL_law_423 ?_
        refine lv_aload_n hx hb dL_law_424 rfl (lv_at hl 3 rfl) ?_
        refine lwL_i hL hS hPm (vx_runSW (As := [.ref (a 112), .int (nI w), .int (xs (4 * j + 2)), .int (xs (4 * j + 3)), .ref (a 113)]) (rest := []) ⟨hx, hb, hml, hown, hts⟩ (m_L_warden l D cI cS cL a s st pi mi po ov sz hsz hs0 hpi w hw (xs (4 * j + 2)) (xs (4 * j + 3)) (Int32.not_lt.mpr h2.1) h2.2 (Int32.not_lt.mpr h3.1) h3.2 _) (vx_cwSW 5 hts (gS tw628 tw626 tw627 tw0) rfl rfl rfl (by decide +kernel) ⟨Nat.le_of_ble_eq_true rfl, Nat.le_of_ble_eq_true rfl⟩) (psO hK hPx hL.1 hKL hEV ((hEH.kept hS.2.1).narrow (fun _ h => h.elim))) rfl rfl hl.1 rfl (lv_room (Nat.le_of_ble_eq_true rfl)) dL_law_425 hc0) (fun rA u1 H locs hrA hPx hPm hS => ?_)
        subst hrA
        refine lv_istore (lv' := [(5, .int 0), (0, .ref bs), (1, .ref (a 112)), (2, .ref (b 0)), (3, .ref (a 113)), (4, .int (nI (4 * j)))]) hx hb dL_law_428 hl (by decide) rfl (fun ls hl => ?_)
        refine lv_aload_n hx hb dL_law_430 rfl (lv_at hl 3 rfl) ?_
        refine lv_aload_n hx hb dL_law_431 rfl (lv_at hl 1 rfl) ?_
        refine lv_iload hx hb dL_law_432 (lv_at hl 5 rfl) ?_
        refine lv_iconst (v := 1) hx hb dL_law_434 (by decide) ?_
        refine lv_iadd hx hb dL_law_435 ?_
        refine lv_as (y := nI (4 * j + 1)) (nI_add2 (p := 4 * j) (q := 1) rfl rfl) ?_
        refine g_sld hx hb hXs hbl hS (4 * j + 1) rfl (by omega) (by omega) dL_law_436 ?_
        refine lv_as (y := nI w) hx1 ?_
        refine lv_aload_n hx hb dL_law_437 rfl (lv_at hl 1 rfl) ?_
        refine lv_iload hx hb dL_law_438 (lv_at hl 5 rfl) ?_
        refine lv_iconst (v := 2) hx hb dL_law_440 (by decide) ?_
        refine lv_iadd hx hb dL_law_441 ?_
        refine lv_as (y := nI (4 * j + 2)) (nI_add2 (p := 4 * j) (q := 2) rfl rfl) ?_
        refine g_sld hx hb hXs hbl hS (4 * j + 2) rfl (by omega) (by omega) dL_law_442 ?_
        refine lv_aload_n hx hb dL_law_443 rfl (lv_at hl 1 rfl) ?_
        refine lv_iload hx hb dL_law_444 (lv_at hl 5 rfl) ?_
        refine lv_iconst (v := 3) hx hb dL_law_446 (by decide) ?_
        refine lv_iadd hx hb dL_law_447 ?_
        refine lv_as (y := nI (4 * j + 3)) (nI_add2 (p := 4 * j) (q := 3) rfl rfl) ?_
        refine g_sld hx hb hXs hbl hS (4 * j + 3) rfl (by omega) (by omega) dL_law_448 ?_
        refine lwM_i hL hS hPx (va_runV (As := [.int (nI w), .int (xs (4 * j + 2)), .int (xs (4 * j + 3))]) (rest := []) ⟨hx, hb, hml, hown, hts⟩ (m_X7_warden l D cI cS b s kp hf sc ad (mi 1) T hBd (by omega) sz hsz hk0 w hw (xs (4 * j + 2)) (xs (4 * j + 3)) h2 h3 _) (cwV 3 hts (gV tw890 tw887 tw888 tw889 tw8) rfl rfl rfl (by decide +kernel) ⟨Nat.le_of_ble_eq_true rfl, Nat.le_of_ble_eq_true rfl⟩) (pvW 0 hK hPm hEm (by decide) rfl rfl) rfl rfl hl.1 rfl (lv_room (Nat.le_of_ble_eq_true rfl)) dL_law_449 hc0) (fun rB u2 H locs hrB hPx hPm hS => ?_)
        refine lv_istore (lv' := [(6, .int rB), (5, .int 0), (0, .ref bs), (1, .ref (a 112)), (2, .ref (b 0)), (3, .ref (a 113)), (4, .int (nI (4 * j)))]) hx hb dL_law_452 hl (by decide) rfl (fun ls hl => ?_)
        refine lv_aload_n hx hb dL_law_454 rfl (lv_at hl 4 rfl) ?_
        refine ro_i (va_runV (As := []) (rest := []) ⟨hx, hb, hml, hown, hts⟩ (m_X7_thrown l D cI cS b (up2 (up2 s 7 w (xs (4 * j + 2))) 8 w (xs (4 * j + 3))) kp (svH hf sz s) (upd (upd sc 3 0) 0 (nI (svK sz))) ad (mi 1)) (cwV 0 hts (gV tw797 tw794 tw795 tw796 tw8) rfl rfl rfl (by decide +kernel) ⟨Nat.le_of_ble_eq_true rfl, Nat.le_of_ble_eq_true rfl⟩) (pvR 0 hK hPm (by decide) rfl rfl) rfl rfl hl.1 rfl (lv_room (Nat.le_of_ble_eq_true rfl)) dL_law_455 hc0) (fun r7 hr7 => ?_)
        have hr7 : r7 = 0 := hr7
        subst hr7
        refine lv_iload hx hb dL_law_458 (lv_at hl 1 rfl) ?_
        refine lv_icmp_eq (tgt := 465) hx hb dL_law_460 (by decide) (fun _ => ?_) (fun h0 => absurd (by decide) h0)
        refine lv_iload hx hb dL_law_465 (lv_at hl 1 rfl) ?_
        refine lv_if_ne (tgt := 482) hx hb dL_law_467 (by decide) (fun h0 => absurd (by decide) h0) (fun _ => ?_)
        refine lv_aload_n hx hb dL_law_470 rfl (lv_at hl 5 rfl) ?_
        refine lv_iconst (v := 0) hx hb dL_law_471 (by decide) ?_
        refine g_lald hx hb hKL hPx (v := (s 7 w).toInt64) rfl dL_law_472 ?_
        refine lv_iload hx hb dL_law_473 (lv_at hl 0 rfl) ?_
        refine lv_i2l hx hb dL_law_475 rfl ?_
        refine g_lcmp0 hx hb (by rw [hrB]) dL_law_476 ?_
        refine lv_if_eq (tgt := 482) hx hb dL_law_477 (by decide) (fun _ => ?_) (fun h0 => absurd (by decide) h0)
        refine lv_goto (tgt := 1363) hx hb dL_law_482 (by decide) ?_
        refine W.widen (k := cells + 1) (n := slots + 6) (by omega) (by omega) ?_
        exact kk H locs ls ⟨(up2 (up2 s 7 w (xs (4 * j + 2))) 8 w (xs (4 * j + 3))), (va_up st (svPi pi sz (svQ sz) + 1) s), (svPi pi sz), (up2 mi 0 0 (nI (svQ sz + 1))), po, (vp_updL ov 0 (s 7 w).toInt64), kp, (svH hf sz s), (upd (upd sc 3 0) 0 (nI (svK sz))), ad, svQ sz + 1, ln, hPx, hPm, hLI.sv (by omega) ((hBd.wrd hw h2 h3).mono (by omega)) hln rfl hl0 rfl rfl rfl hlm⟩ hS (lv_sub hl [2, 3, 4, 5, 6] rfl)
      · skip
        refine lv_aload_n hx hb dL_law_405 rfl (lv_at hl 1 rfl) ?_
        refine lv_aload_n hx hb dL_law_406 rfl (lv_at hl 0 rfl) ?_
        refine lv_iload hx hb dL_law_407 (lv_at hl 4 rfl) ?_
        refine lv_iconst (v := 1) hx hb dL_law_409 (by decide) ?_
        refine lv_iadd hx hb dL_law_410 ?_
        refine lv_as (y := nI (4 * j + 1)) (nI_add2 (p := 4 * j) (q := 1) rfl rfl) ?_
        refine g_sld hx hb hXs hbl hS (4 * j + 1) rfl (by omega) (by omega) dL_law_411 ?_
        refine lv_as (y := nI w) hx1 ?_
        refine lv_aload_n hx hb dL_law_412 rfl (lv_at hl 0 rfl) ?_
        refine lv_iload hx hb dL_law_413 (lv_at hl 4 rfl) ?_
        refine lv_iconst (v := 2) hx hb dL_law_415 (by decide) ?_
        refine lv_iadd hx hb dL_law_416 ?_
        refine lv_as (y := nI (4 * j + 2)) (nI_add2 (p := 4 * j) (q := 2) rfl rfl) ?_
        refine g_sld hx hb hXs hbl hS (4 * j + 2) rfl (by omega) (by omega) dL_law_417 ?_
        refine lv_aload_n hx hb dL_law_418 rfl (lv_at hl 0 rfl) ?_
        refine lv_iload hx hb dL_law_419 (lv_at hl 4 rfl) ?_
        refine lv_iconst (v := 3) hx hb dL_law_421 (by decide) ?_
        refine lv_iadd hx hb dL_law_422 ?_
        refine lv_as (y := nI (4 * j + 3)) (nI_add2 (p := 4 * j) (q := 3) rfl rfl) ?_
        refine g_sld hx hb hXs hbl hS (4 * j + 3) rfl (by omega) (by omega) dL_law_423 ?_
        refine lv_aload_n hx hb dL_law_424 rfl (lv_at hl 3 rfl) ?_
        refine lwL_i hL hS hPm (vx_runSW (As := [.ref (a 112), .int (nI w), .int (xs (4 * j + 2)), .int (xs (4 * j + 3)), .ref (a 113)]) (rest := []) ⟨hx, hb, hml, hown, hts⟩ (mt3_L_warden l hst D cI cS cL a s st pi mi po ov w hw (xs (4 * j + 2)) (xs (4 * j + 3)) h2 h3 _) (vx_cwSW 5 hts (gS tw628 tw626 tw627 tw0) rfl rfl rfl (by decide +kernel) ⟨Nat.le_of_ble_eq_true rfl, Nat.le_of_ble_eq_true rfl⟩) (psO hK hPx hL.1 hKL hEV ((hEH.kept hS.2.1).narrow (fun _ h => h.elim))) rfl rfl hl.1 rfl (lv_room (Nat.le_of_ble_eq_true rfl)) dL_law_425 hc1) (fun rA u1 H locs hrA hPx hPm hS => ?_)
        subst hrA
        refine lv_istore (lv' := [(5, .int 2), (0, .ref bs), (1, .ref (a 112)), (2, .ref (b 0)), (3, .ref (a 113)), (4, .int (nI (4 * j)))]) hx hb dL_law_428 hl (by decide) rfl (fun ls hl => ?_)
        refine lv_aload_n hx hb dL_law_430 rfl (lv_at hl 3 rfl) ?_
        refine lv_aload_n hx hb dL_law_431 rfl (lv_at hl 1 rfl) ?_
        refine lv_iload hx hb dL_law_432 (lv_at hl 5 rfl) ?_
        refine lv_iconst (v := 1) hx hb dL_law_434 (by decide) ?_
        refine lv_iadd hx hb dL_law_435 ?_
        refine lv_as (y := nI (4 * j + 1)) (nI_add2 (p := 4 * j) (q := 1) rfl rfl) ?_
        refine g_sld hx hb hXs hbl hS (4 * j + 1) rfl (by omega) (by omega) dL_law_436 ?_
        refine lv_as (y := nI w) hx1 ?_
        refine lv_aload_n hx hb dL_law_437 rfl (lv_at hl 1 rfl) ?_
        refine lv_iload hx hb dL_law_438 (lv_at hl 5 rfl) ?_
        refine lv_iconst (v := 2) hx hb dL_law_440 (by decide) ?_
        refine lv_iadd hx hb dL_law_441 ?_
        refine lv_as (y := nI (4 * j + 2)) (nI_add2 (p := 4 * j) (q := 2) rfl rfl) ?_
        refine g_sld hx hb hXs hbl hS (4 * j + 2) rfl (by omega) (by omega) dL_law_442 ?_
        refine lv_aload_n hx hb dL_law_443 rfl (lv_at hl 1 rfl) ?_
        refine lv_iload hx hb dL_law_444 (lv_at hl 5 rfl) ?_
        refine lv_iconst (v := 3) hx hb dL_law_446 (by decide) ?_
        refine lv_iadd hx hb dL_law_447 ?_
        refine lv_as (y := nI (4 * j + 3)) (nI_add2 (p := 4 * j) (q := 3) rfl rfl) ?_
        refine g_sld hx hb hXs hbl hS (4 * j + 3) rfl (by omega) (by omega) dL_law_448 ?_
        refine lwM_i hL hS hPx (va_runV (As := [.int (nI w), .int (xs (4 * j + 2)), .int (xs (4 * j + 3))]) (rest := []) ⟨hx, hb, hml, hown, hts⟩ (mx3_X7_warden l D cI cS b s kp hf sc ad (mi 1) (nI w) (xs (4 * j + 2)) (xs (4 * j + 3)) (hx1 ▸ h1) h2 h3 _) (cwV 3 hts (gV tw890 tw887 tw888 tw889 tw8) rfl rfl rfl (by decide +kernel) ⟨Nat.le_of_ble_eq_true rfl, Nat.le_of_ble_eq_true rfl⟩) (pvW 0 hK hPm hEm (by decide) rfl rfl) rfl rfl hl.1 rfl (lv_room (Nat.le_of_ble_eq_true rfl)) dL_law_449 hc1) (fun rB u2 H locs hrB hPx hPm hS => ?_)
        refine lv_istore (lv' := [(6, .int rB), (5, .int 2), (0, .ref bs), (1, .ref (a 112)), (2, .ref (b 0)), (3, .ref (a 113)), (4, .int (nI (4 * j)))]) hx hb dL_law_452 hl (by decide) rfl (fun ls hl => ?_)
        refine lv_aload_n hx hb dL_law_454 rfl (lv_at hl 4 rfl) ?_
        refine ro_i (va_runV (As := []) (rest := []) ⟨hx, hb, hml, hown, hts⟩ (m_X7_thrown l D cI cS b s kp hf (upd (upd sc 3 0) 3 2) ad (mi 1)) (cwV 0 hts (gV tw797 tw794 tw795 tw796 tw8) rfl rfl rfl (by decide +kernel) ⟨Nat.le_of_ble_eq_true rfl, Nat.le_of_ble_eq_true rfl⟩) (pvR 0 hK hPm (by decide) rfl rfl) rfl rfl hl.1 rfl (lv_room (Nat.le_of_ble_eq_true rfl)) dL_law_455 hc1) (fun r7 hr7 => ?_)
        have hr7 : r7 = 2 := hr7
        subst hr7
        refine lv_iload hx hb dL_law_458 (lv_at hl 1 rfl) ?_
        refine lv_icmp_eq (tgt := 465) hx hb dL_law_460 (by decide) (fun _ => ?_) (fun h0 => absurd (by decide) h0)
        refine lv_iload hx hb dL_law_465 (lv_at hl 1 rfl) ?_
        refine lv_if_ne (tgt := 482) hx hb dL_law_467 (by decide) (fun _ => ?_) (fun h0 => absurd h0 (by decide))
        refine lv_goto (tgt := 1363) hx hb dL_law_482 (by decide) ?_
        refine W.widen (k := cells + 1) (n := slots + 6) (by omega) (by omega) ?_
        exact kk H locs ls ⟨s, st, pi, mi, po, ov, kp, hf, (upd (upd sc 3 0) 3 2), ad, sz, ln, hPx, hPm, hLI.lk (by omega) hln rfl hl0 rfl rfl rfl hlm⟩ hS (lv_sub hl [2, 3, 4, 5, 6] rfl)
    · skip
      refine lv_aload_n hx hb dL_law_405 rfl (lv_at hl 1 rfl) ?_
      refine lv_aload_n hx hb dL_law_406 rfl (lv_at hl 0 rfl) ?_
      refine lv_iload hx hb dL_law_407 (lv_at hl 4 rfl) ?_
      refine lv_iconst (v := 1) hx hb dL_law_409 (by decide) ?_
      refine lv_iadd hx hb dL_law_410 ?_
      refine lv_as (y := nI (4 * j + 1)) (nI_add2 (p := 4 * j) (q := 1) rfl rfl) ?_
      refine g_sld hx hb hXs hbl hS (4 * j + 1) rfl (by omega) (by omega) dL_law_411 ?_
      refine lv_as (y := nI w) hx1 ?_
      refine lv_aload_n hx hb dL_law_412 rfl (lv_at hl 0 rfl) ?_
      refine lv_iload hx hb dL_law_413 (lv_at hl 4 rfl) ?_
      refine lv_iconst (v := 2) hx hb dL_law_415 (by decide) ?_
      refine lv_iadd hx hb dL_law_416 ?_
      refine lv_as (y := nI (4 * j + 2)) (nI_add2 (p := 4 * j) (q := 2) rfl rfl) ?_
      refine g_sld hx hb hXs hbl hS (4 * j + 2) rfl (by omega) (by omega) dL_law_417 ?_
      refine lv_aload_n hx hb dL_law_418 rfl (lv_at hl 0 rfl) ?_
      refine lv_iload hx hb dL_law_419 (lv_at hl 4 rfl) ?_
      refine lv_iconst (v := 3) hx hb dL_law_421 (by decide) ?_
      refine lv_iadd hx hb dL_law_422 ?_
      refine lv_as (y := nI (4 * j + 3)) (nI_add2 (p := 4 * j) (q := 3) rfl rfl) ?_
      refine g_sld hx hb hXs hbl hS (4 * j + 3) rfl (by omega) (by omega) dL_law_423 ?_
      refine lv_aload_n hx hb dL_law_424 rfl (lv_at hl 3 rfl) ?_
      refine lwL_i hL hS hPm (vx_runSW (As := [.ref (a 112), .int (nI w), .int (xs (4 * j + 2)), .int (xs (4 * j + 3)), .ref (a 113)]) (rest := []) ⟨hx, hb, hml, hown, hts⟩ (mt2_L_warden l hst D cI cS cL a s st pi mi po ov w hw (xs (4 * j + 2)) (xs (4 * j + 3)) h2 _) (vx_cwSW 5 hts (gS tw628 tw626 tw627 tw0) rfl rfl rfl (by decide +kernel) ⟨Nat.le_of_ble_eq_true rfl, Nat.le_of_ble_eq_true rfl⟩) (psO hK hPx hL.1 hKL hEV ((hEH.kept hS.2.1).narrow (fun _ h => h.elim))) rfl rfl hl.1 rfl (lv_room (Nat.le_of_ble_eq_true rfl)) dL_law_425 hc1) (fun rA u1 H locs hrA hPx hPm hS => ?_)
      subst hrA
      refine lv_istore (lv' := [(5, .int 2), (0, .ref bs), (1, .ref (a 112)), (2, .ref (b 0)), (3, .ref (a 113)), (4, .int (nI (4 * j)))]) hx hb dL_law_428 hl (by decide) rfl (fun ls hl => ?_)
      refine lv_aload_n hx hb dL_law_430 rfl (lv_at hl 3 rfl) ?_
      refine lv_aload_n hx hb dL_law_431 rfl (lv_at hl 1 rfl) ?_
      refine lv_iload hx hb dL_law_432 (lv_at hl 5 rfl) ?_
      refine lv_iconst (v := 1) hx hb dL_law_434 (by decide) ?_
      refine lv_iadd hx hb dL_law_435 ?_
      refine lv_as (y := nI (4 * j + 1)) (nI_add2 (p := 4 * j) (q := 1) rfl rfl) ?_
      refine g_sld hx hb hXs hbl hS (4 * j + 1) rfl (by omega) (by omega) dL_law_436 ?_
      refine lv_as (y := nI w) hx1 ?_
      refine lv_aload_n hx hb dL_law_437 rfl (lv_at hl 1 rfl) ?_
      refine lv_iload hx hb dL_law_438 (lv_at hl 5 rfl) ?_
      refine lv_iconst (v := 2) hx hb dL_law_440 (by decide) ?_
      refine lv_iadd hx hb dL_law_441 ?_
      refine lv_as (y := nI (4 * j + 2)) (nI_add2 (p := 4 * j) (q := 2) rfl rfl) ?_
      refine g_sld hx hb hXs hbl hS (4 * j + 2) rfl (by omega) (by omega) dL_law_442 ?_
      refine lv_aload_n hx hb dL_law_443 rfl (lv_at hl 1 rfl) ?_
      refine lv_iload hx hb dL_law_444 (lv_at hl 5 rfl) ?_
      refine lv_iconst (v := 3) hx hb dL_law_446 (by decide) ?_
      refine lv_iadd hx hb dL_law_447 ?_
      refine lv_as (y := nI (4 * j + 3)) (nI_add2 (p := 4 * j) (q := 3) rfl rfl) ?_
      refine g_sld hx hb hXs hbl hS (4 * j + 3) rfl (by omega) (by omega) dL_law_448 ?_
      refine lwM_i hL hS hPx (va_runV (As := [.int (nI w), .int (xs (4 * j + 2)), .int (xs (4 * j + 3))]) (rest := []) ⟨hx, hb, hml, hown, hts⟩ (mx2_X7_warden l D cI cS b s kp hf sc ad (mi 1) (nI w) (xs (4 * j + 2)) (xs (4 * j + 3)) (hx1 ▸ h1) h2 _) (cwV 3 hts (gV tw890 tw887 tw888 tw889 tw8) rfl rfl rfl (by decide +kernel) ⟨Nat.le_of_ble_eq_true rfl, Nat.le_of_ble_eq_true rfl⟩) (pvW 0 hK hPm hEm (by decide) rfl rfl) rfl rfl hl.1 rfl (lv_room (Nat.le_of_ble_eq_true rfl)) dL_law_449 hc1) (fun rB u2 H locs hrB hPx hPm hS => ?_)
      refine lv_istore (lv' := [(6, .int rB), (5, .int 2), (0, .ref bs), (1, .ref (a 112)), (2, .ref (b 0)), (3, .ref (a 113)), (4, .int (nI (4 * j)))]) hx hb dL_law_452 hl (by decide) rfl (fun ls hl => ?_)
      refine lv_aload_n hx hb dL_law_454 rfl (lv_at hl 4 rfl) ?_
      refine ro_i (va_runV (As := []) (rest := []) ⟨hx, hb, hml, hown, hts⟩ (m_X7_thrown l D cI cS b s kp hf (upd (upd sc 3 0) 3 2) ad (mi 1)) (cwV 0 hts (gV tw797 tw794 tw795 tw796 tw8) rfl rfl rfl (by decide +kernel) ⟨Nat.le_of_ble_eq_true rfl, Nat.le_of_ble_eq_true rfl⟩) (pvR 0 hK hPm (by decide) rfl rfl) rfl rfl hl.1 rfl (lv_room (Nat.le_of_ble_eq_true rfl)) dL_law_455 hc1) (fun r7 hr7 => ?_)
      have hr7 : r7 = 2 := hr7
      subst hr7
      refine lv_iload hx hb dL_law_458 (lv_at hl 1 rfl) ?_
      refine lv_icmp_eq (tgt := 465) hx hb dL_law_460 (by decide) (fun _ => ?_) (fun h0 => absurd (by decide) h0)
      refine lv_iload hx hb dL_law_465 (lv_at hl 1 rfl) ?_
      refine lv_if_ne (tgt := 482) hx hb dL_law_467 (by decide) (fun _ => ?_) (fun h0 => absurd h0 (by decide))
      refine lv_goto (tgt := 1363) hx hb dL_law_482 (by decide) ?_
      refine W.widen (k := cells + 1) (n := slots + 6) (by omega) (by omega) ?_
      exact kk H locs ls ⟨s, st, pi, mi, po, ov, kp, hf, (upd (upd sc 3 0) 3 2), ad, sz, ln, hPx, hPm, hLI.lk (by omega) hln rfl hl0 rfl rfl rfl hlm⟩ hS (lv_sub hl [2, 3, 4, 5, 6] rfl)
  · skip
    refine lv_aload_n hx hb dL_law_405 rfl (lv_at hl 1 rfl) ?_
    refine lv_aload_n hx hb dL_law_406 rfl (lv_at hl 0 rfl) ?_
    refine lv_iload hx hb dL_law_407 (lv_at hl 4 rfl) ?_
    refine lv_iconst (v := 1) hx hb dL_law_409 (by decide) ?_
    refine lv_iadd hx hb dL_law_410 ?_
    refine lv_as (y := nI (4 * j + 1)) (nI_add2 (p := 4 * j) (q := 1) rfl rfl) ?_
    refine g_sld hx hb hXs hbl hS (4 * j + 1) rfl (by omega) (by omega) dL_law_411 ?_
    refine lv_aload_n hx hb dL_law_412 rfl (lv_at hl 0 rfl) ?_
    refine lv_iload hx hb dL_law_413 (lv_at hl 4 rfl) ?_
    refine lv_iconst (v := 2) hx hb dL_law_415 (by decide) ?_
    refine lv_iadd hx hb dL_law_416 ?_
    refine lv_as (y := nI (4 * j + 2)) (nI_add2 (p := 4 * j) (q := 2) rfl rfl) ?_
    refine g_sld hx hb hXs hbl hS (4 * j + 2) rfl (by omega) (by omega) dL_law_417 ?_
    refine lv_aload_n hx hb dL_law_418 rfl (lv_at hl 0 rfl) ?_
    refine lv_iload hx hb dL_law_419 (lv_at hl 4 rfl) ?_
    refine lv_iconst (v := 3) hx hb dL_law_421 (by decide) ?_
    refine lv_iadd hx hb dL_law_422 ?_
    refine lv_as (y := nI (4 * j + 3)) (nI_add2 (p := 4 * j) (q := 3) rfl rfl) ?_
    refine g_sld hx hb hXs hbl hS (4 * j + 3) rfl (by omega) (by omega) dL_law_423 ?_
    refine lv_aload_n hx hb dL_law_424 rfl (lv_at hl 3 rfl) ?_
    refine lwL_i hL hS hPm (vx_runSW (As := [.ref (a 112), .int (xs (4 * j + 1)), .int (xs (4 * j + 2)), .int (xs (4 * j + 3)), .ref (a 113)]) (rest := []) ⟨hx, hb, hml, hown, hts⟩ (mt_L_warden l hst D cI cS cL a s st pi mi po ov (xs (4 * j + 1)) (xs (4 * j + 2)) (xs (4 * j + 3)) h1 _) (vx_cwSW 5 hts (gS tw628 tw626 tw627 tw0) rfl rfl rfl (by decide +kernel) ⟨Nat.le_of_ble_eq_true rfl, Nat.le_of_ble_eq_true rfl⟩) (psO hK hPx hL.1 hKL hEV ((hEH.kept hS.2.1).narrow (fun _ h => h.elim))) rfl rfl hl.1 rfl (lv_room (Nat.le_of_ble_eq_true rfl)) dL_law_425 hc1) (fun rA u1 H locs hrA hPx hPm hS => ?_)
    subst hrA
    refine lv_istore (lv' := [(5, .int 1), (0, .ref bs), (1, .ref (a 112)), (2, .ref (b 0)), (3, .ref (a 113)), (4, .int (nI (4 * j)))]) hx hb dL_law_428 hl (by decide) rfl (fun ls hl => ?_)
    refine lv_aload_n hx hb dL_law_430 rfl (lv_at hl 3 rfl) ?_
    refine lv_aload_n hx hb dL_law_431 rfl (lv_at hl 1 rfl) ?_
    refine lv_iload hx hb dL_law_432 (lv_at hl 5 rfl) ?_
    refine lv_iconst (v := 1) hx hb dL_law_434 (by decide) ?_
    refine lv_iadd hx hb dL_law_435 ?_
    refine lv_as (y := nI (4 * j + 1)) (nI_add2 (p := 4 * j) (q := 1) rfl rfl) ?_
    refine g_sld hx hb hXs hbl hS (4 * j + 1) rfl (by omega) (by omega) dL_law_436 ?_
    refine lv_aload_n hx hb dL_law_437 rfl (lv_at hl 1 rfl) ?_
    refine lv_iload hx hb dL_law_438 (lv_at hl 5 rfl) ?_
    refine lv_iconst (v := 2) hx hb dL_law_440 (by decide) ?_
    refine lv_iadd hx hb dL_law_441 ?_
    refine lv_as (y := nI (4 * j + 2)) (nI_add2 (p := 4 * j) (q := 2) rfl rfl) ?_
    refine g_sld hx hb hXs hbl hS (4 * j + 2) rfl (by omega) (by omega) dL_law_442 ?_
    refine lv_aload_n hx hb dL_law_443 rfl (lv_at hl 1 rfl) ?_
    refine lv_iload hx hb dL_law_444 (lv_at hl 5 rfl) ?_
    refine lv_iconst (v := 3) hx hb dL_law_446 (by decide) ?_
    refine lv_iadd hx hb dL_law_447 ?_
    refine lv_as (y := nI (4 * j + 3)) (nI_add2 (p := 4 * j) (q := 3) rfl rfl) ?_
    refine g_sld hx hb hXs hbl hS (4 * j + 3) rfl (by omega) (by omega) dL_law_448 ?_
    refine lwM_i hL hS hPx (va_runV (As := [.int (xs (4 * j + 1)), .int (xs (4 * j + 2)), .int (xs (4 * j + 3))]) (rest := []) ⟨hx, hb, hml, hown, hts⟩ (mx_X7_warden l D cI cS b s kp hf sc ad (mi 1) (xs (4 * j + 1)) (xs (4 * j + 2)) (xs (4 * j + 3)) h1 _) (cwV 3 hts (gV tw890 tw887 tw888 tw889 tw8) rfl rfl rfl (by decide +kernel) ⟨Nat.le_of_ble_eq_true rfl, Nat.le_of_ble_eq_true rfl⟩) (pvW 0 hK hPm hEm (by decide) rfl rfl) rfl rfl hl.1 rfl (lv_room (Nat.le_of_ble_eq_true rfl)) dL_law_449 hc1) (fun rB u2 H locs hrB hPx hPm hS => ?_)
    refine lv_istore (lv' := [(6, .int rB), (5, .int 1), (0, .ref bs), (1, .ref (a 112)), (2, .ref (b 0)), (3, .ref (a 113)), (4, .int (nI (4 * j)))]) hx hb dL_law_452 hl (by decide) rfl (fun ls hl => ?_)
    refine lv_aload_n hx hb dL_law_454 rfl (lv_at hl 4 rfl) ?_
    refine ro_i (va_runV (As := []) (rest := []) ⟨hx, hb, hml, hown, hts⟩ (m_X7_thrown l D cI cS b s kp hf (upd (upd sc 3 0) 3 1) ad (mi 1)) (cwV 0 hts (gV tw797 tw794 tw795 tw796 tw8) rfl rfl rfl (by decide +kernel) ⟨Nat.le_of_ble_eq_true rfl, Nat.le_of_ble_eq_true rfl⟩) (pvR 0 hK hPm (by decide) rfl rfl) rfl rfl hl.1 rfl (lv_room (Nat.le_of_ble_eq_true rfl)) dL_law_455 hc1) (fun r7 hr7 => ?_)
    have hr7 : r7 = 1 := hr7
    subst hr7
    refine lv_iload hx hb dL_law_458 (lv_at hl 1 rfl) ?_
    refine lv_icmp_eq (tgt := 465) hx hb dL_law_460 (by decide) (fun _ => ?_) (fun h0 => absurd (by decide) h0)
    refine lv_iload hx hb dL_law_465 (lv_at hl 1 rfl) ?_
    refine lv_if_ne (tgt := 482) hx hb dL_law_467 (by decide) (fun _ => ?_) (fun h0 => absurd h0 (by decide))
    refine lv_goto (tgt := 1363) hx hb dL_law_482 (by decide) ?_
    refine W.widen (k := cells + 1) (n := slots + 6) (by omega) (by omega) ?_
    exact kk H locs ls ⟨s, st, pi, mi, po, ov, kp, hf, (upd (upd sc 3 0) 3 1), ad, sz, ln, hPx, hPm, hLI.lk (by omega) hln rfl hl0 rfl rfl rfl hlm⟩ hS (lv_sub hl [2, 3, 4, 5, 6] rfl)

set_option maxHeartbeats 4000000 in
set_option maxRecDepth 100000 in
theorem law_set {p : Program} {l : Launch} {e : Env} {z : State} {m : MethodId} {below : List Frame} {meth : Method} {c : Code} {Q : State → Prop} {D : va_G} {cI cS cL : ClassId} {a b : Nat → Nat} {bs L : Nat} {xs : Nat → Int32} {T : Int} {j cells slots : Nat} {H : Heap} {locs : List Loc} {ls : Array Slot} (hC : LF p l z m meth c D cI cS cL a b bs L xs) (hj : 4 * j + 3 < L) (hT : T ≤ 99000000) (h0T : 0 ≤ T) (hc1 : cells + 1 ≤ room_1.cells ∧ slots + 6 ≤ room_1.slots) (hW : LWd D cI cS cL a b T H) (hS : va_S (LA z.heap.size) z.heap H locs) (hl : lv_has ls 9 [(0, .ref bs), (1, .ref (a 112)), (2, .ref (b 0)), (3, .ref (a 113)), (4, .int (nI (4 * j)))])
    (kk : ∀ (H1 : Heap) (locs1 : List Loc) (ls1 : Array Slot), LWd D cI cS cL a b (T + 100000) H1 → va_S (LA z.heap.size) z.heap H1 locs1 → lv_has ls1 9 [(0, .ref bs), (1, .ref (a 112)), (2, .ref (b 0)), (3, .ref (a 113)), (4, .int (nI (4 * j)))] → W p l e room_1 z m #[Value.ref bs] below meth c H1 locs1 (cells + 1) (slots + 6) Q (F0 m 1363 ls1 [])) : W p l e room_1 z m #[Value.ref bs] below meth c H locs cells slots Q (F0 m 485 ls []) := by
  obtain ⟨hx, hb, hml, hown, hts, hK, hKL, hEV, hEH, hXs, hbl, hL9, hL, hst⟩ := hC
  obtain ⟨s, st, pi, mi, po, ov, kp, hf, sc, ad, sz, ln, hPx, hPm, hLI⟩ := hW
  obtain ⟨hsz, hpi, hpj, hh, hBd, hln, hs0, hl0, hk0, hlm, hkm, hkk⟩ := id hLI
  have hEm := hL.2.1
  have hc0 : cells + 0 ≤ room_1.cells ∧ slots + 0 ≤ room_1.slots := ⟨by omega, by omega⟩
  by_cases h1 : witB (xs (4 * j + 1)) 0 1
  · skip
    obtain ⟨q, hq0, hx1⟩ := wit_nat (hi := 1) rfl (by decide) h1
    have hq : q < 2 := by omega
    by_cases h2 : witB (xs (4 * j + 2)) 0 99
    · skip
      refine lv_aload_n hx hb dL_law_485 rfl (lv_at hl 1 rfl) ?_
      refine lv_aload_n hx hb dL_law_486 rfl (lv_at hl 0 rfl) ?_
      refine lv_iload hx hb dL_law_487 (lv_at hl 4 rfl) ?_
      refine lv_iconst (v := 1) hx hb dL_law_489 (by decide) ?_
      refine lv_iadd hx hb dL_law_490 ?_
      refine lv_as (y := nI (4 * j + 1)) (nI_add2 (p := 4 * j) (q := 1) rfl rfl) ?_
      refine g_sld hx hb hXs hbl hS (4 * j + 1) rfl (by omega) (by omega) dL_law_491 ?_
      refine lv_as (y := nI q) hx1 ?_
      refine lv_aload_n hx hb dL_law_492 rfl (lv_at hl 0 rfl) ?_
      refine lv_iload hx hb dL_law_493 (lv_at hl 4 rfl) ?_
      refine lv_iconst (v := 2) hx hb dL_law_495 (by decide) ?_
      refine lv_iadd hx hb dL_law_496 ?_
      refine lv_as (y := nI (4 * j + 2)) (nI_add2 (p := 4 * j) (q := 2) rfl rfl) ?_
      refine g_sld hx hb hXs hbl hS (4 * j + 2) rfl (by omega) (by omega) dL_law_497 ?_
      refine lv_aload_n hx hb dL_law_498 rfl (lv_at hl 3 rfl) ?_
      refine lwL_i hL hS hPm (vx_runSW (As := [.ref (a 112), .int (nI q), .int (xs (4 * j + 2)), .ref (a 113)]) (rest := []) ⟨hx, hb, hml, hown, hts⟩ (m_L_set l D cI cS cL a s st pi mi po ov sz hsz hs0 hpi q hq (xs (4 * j + 2)) (Int32.not_lt.mpr h2.1) h2.2 _) (vx_cwSW 4 hts (gS tw637 tw635 tw636 tw0) rfl rfl rfl (by decide +kernel) ⟨Nat.le_of_ble_eq_true rfl, Nat.le_of_ble_eq_true rfl⟩) (psO hK hPx hL.1 hKL hEV ((hEH.kept hS.2.1).narrow (fun _ h => h.elim))) rfl rfl hl.1 rfl (lv_room (Nat.le_of_ble_eq_true rfl)) dL_law_499 hc0) (fun rA u1 H locs hrA hPx hPm hS => ?_)
      subst hrA
      refine lv_istore (lv' := [(5, .int 0), (0, .ref bs), (1, .ref (a 112)), (2, .ref (b 0)), (3, .ref (a 113)), (4, .int (nI (4 * j)))]) hx hb dL_law_502 hl (by decide) rfl (fun ls hl => ?_)
      refine lv_aload_n hx hb dL_law_504 rfl (lv_at hl 3 rfl) ?_
      refine lv_aload_n hx hb dL_law_505 rfl (lv_at hl 1 rfl) ?_
      refine lv_iload hx hb dL_law_506 (lv_at hl 5 rfl) ?_
      refine lv_iconst (v := 1) hx hb dL_law_508 (by decide) ?_
      refine lv_iadd hx hb dL_law_509 ?_
      refine lv_as (y := nI (4 * j + 1)) (nI_add2 (p := 4 * j) (q := 1) rfl rfl) ?_
      refine g_sld hx hb hXs hbl hS (4 * j + 1) rfl (by omega) (by omega) dL_law_510 ?_
      refine lv_as (y := nI q) hx1 ?_
      refine lv_aload_n hx hb dL_law_511 rfl (lv_at hl 1 rfl) ?_
      refine lv_iload hx hb dL_law_512 (lv_at hl 5 rfl) ?_
      refine lv_iconst (v := 2) hx hb dL_law_514 (by decide) ?_
      refine lv_iadd hx hb dL_law_515 ?_
      refine lv_as (y := nI (4 * j + 2)) (nI_add2 (p := 4 * j) (q := 2) rfl rfl) ?_
      refine g_sld hx hb hXs hbl hS (4 * j + 2) rfl (by omega) (by omega) dL_law_516 ?_
      refine lwM_i hL hS hPx (va_runV (As := [.int (nI q), .int (xs (4 * j + 2))]) (rest := []) ⟨hx, hb, hml, hown, hts⟩ (m_X7_set l D cI cS b s kp hf sc ad (mi 1) T hBd (by omega) sz hsz hk0 q hq (xs (4 * j + 2)) h2 _) (cwV 2 hts (gV tw894 tw891 tw892 tw893 tw8) rfl rfl rfl (by decide +kernel) ⟨Nat.le_of_ble_eq_true rfl, Nat.le_of_ble_eq_true rfl⟩) (pvW 0 hK hPm hEm (by decide) rfl rfl) rfl rfl hl.1 rfl (lv_room (Nat.le_of_ble_eq_true rfl)) dL_law_517 hc0) (fun rB u2 H locs hrB hPx hPm hS => ?_)
      refine lv_istore (lv' := [(6, .int rB), (5, .int 0), (0, .ref bs), (1, .ref (a 112)), (2, .ref (b 0)), (3, .ref (a 113)), (4, .int (nI (4 * j)))]) hx hb dL_law_520 hl (by decide) rfl (fun ls hl => ?_)
      refine lv_aload_n hx hb dL_law_522 rfl (lv_at hl 4 rfl) ?_
      refine ro_i (va_runV (As := []) (rest := []) ⟨hx, hb, hml, hown, hts⟩ (m_X7_thrown l D cI cS b (up2 s 10 q (xs (4 * j + 2))) kp (svH hf sz s) (upd (upd sc 3 0) 0 (nI (svK sz))) ad (mi 1)) (cwV 0 hts (gV tw797 tw794 tw795 tw796 tw8) rfl rfl rfl (by decide +kernel) ⟨Nat.le_of_ble_eq_true rfl, Nat.le_of_ble_eq_true rfl⟩) (pvR 0 hK hPm (by decide) rfl rfl) rfl rfl hl.1 rfl (lv_room (Nat.le_of_ble_eq_true rfl)) dL_law_523 hc0) (fun r7 hr7 => ?_)
      have hr7 : r7 = 0 := hr7
      subst hr7
      refine lv_iload hx hb dL_law_526 (lv_at hl 1 rfl) ?_
      refine lv_icmp_eq (tgt := 533) hx hb dL_law_528 (by decide) (fun _ => ?_) (fun h0 => absurd (by decide) h0)
      refine lv_iload hx hb dL_law_533 (lv_at hl 1 rfl) ?_
      refine lv_if_ne (tgt := 550) hx hb dL_law_535 (by decide) (fun h0 => absurd (by decide) h0) (fun _ => ?_)
      refine lv_aload_n hx hb dL_law_538 rfl (lv_at hl 5 rfl) ?_
      refine lv_iconst (v := 0) hx hb dL_law_539 (by decide) ?_
      refine g_lald hx hb hKL hPx (v := (s 10 q).toInt64) rfl dL_law_540 ?_
      refine lv_iload hx hb dL_law_541 (lv_at hl 0 rfl) ?_
      refine lv_i2l hx hb dL_law_543 rfl ?_
      refine g_lcmp0 hx hb (by rw [hrB]) dL_law_544 ?_
      refine lv_if_eq (tgt := 550) hx hb dL_law_545 (by decide) (fun _ => ?_) (fun h0 => absurd (by decide) h0)
      refine lv_goto (tgt := 1363) hx hb dL_law_550 (by decide) ?_
      refine W.widen (k := cells + 1) (n := slots + 6) (by omega) (by omega) ?_
      exact kk H locs ls ⟨(up2 s 10 q (xs (4 * j + 2))), (va_up st (svPi pi sz (svQ sz) + 1) s), (svPi pi sz), (up2 mi 0 0 (nI (svQ sz + 1))), po, (vp_updL ov 0 (s 10 q).toInt64), kp, (svH hf sz s), (upd (upd sc 3 0) 0 (nI (svK sz))), ad, svQ sz + 1, ln, hPx, hPm, hLI.sv (by omega) ((hBd.stg h2).mono (by omega)) hln rfl hl0 rfl rfl rfl hlm⟩ hS (lv_sub hl [2, 3, 4, 5, 6] rfl)
    · skip
      refine lv_aload_n hx hb dL_law_485 rfl (lv_at hl 1 rfl) ?_
      refine lv_aload_n hx hb dL_law_486 rfl (lv_at hl 0 rfl) ?_
      refine lv_iload hx hb dL_law_487 (lv_at hl 4 rfl) ?_
      refine lv_iconst (v := 1) hx hb dL_law_489 (by decide) ?_
      refine lv_iadd hx hb dL_law_490 ?_
      refine lv_as (y := nI (4 * j + 1)) (nI_add2 (p := 4 * j) (q := 1) rfl rfl) ?_
      refine g_sld hx hb hXs hbl hS (4 * j + 1) rfl (by omega) (by omega) dL_law_491 ?_
      refine lv_as (y := nI q) hx1 ?_
      refine lv_aload_n hx hb dL_law_492 rfl (lv_at hl 0 rfl) ?_
      refine lv_iload hx hb dL_law_493 (lv_at hl 4 rfl) ?_
      refine lv_iconst (v := 2) hx hb dL_law_495 (by decide) ?_
      refine lv_iadd hx hb dL_law_496 ?_
      refine lv_as (y := nI (4 * j + 2)) (nI_add2 (p := 4 * j) (q := 2) rfl rfl) ?_
      refine g_sld hx hb hXs hbl hS (4 * j + 2) rfl (by omega) (by omega) dL_law_497 ?_
      refine lv_aload_n hx hb dL_law_498 rfl (lv_at hl 3 rfl) ?_
      refine lwL_i hL hS hPm (vx_runSW (As := [.ref (a 112), .int (nI q), .int (xs (4 * j + 2)), .ref (a 113)]) (rest := []) ⟨hx, hb, hml, hown, hts⟩ (mt2_L_set l hst D cI cS cL a s st pi mi po ov q hq (xs (4 * j + 2)) h2 _) (vx_cwSW 4 hts (gS tw637 tw635 tw636 tw0) rfl rfl rfl (by decide +kernel) ⟨Nat.le_of_ble_eq_true rfl, Nat.le_of_ble_eq_true rfl⟩) (psO hK hPx hL.1 hKL hEV ((hEH.kept hS.2.1).narrow (fun _ h => h.elim))) rfl rfl hl.1 rfl (lv_room (Nat.le_of_ble_eq_true rfl)) dL_law_499 hc1) (fun rA u1 H locs hrA hPx hPm hS => ?_)
      subst hrA
      refine lv_istore (lv' := [(5, .int 2), (0, .ref bs), (1, .ref (a 112)), (2, .ref (b 0)), (3, .ref (a 113)), (4, .int (nI (4 * j)))]) hx hb dL_law_502 hl (by decide) rfl (fun ls hl => ?_)
      refine lv_aload_n hx hb dL_law_504 rfl (lv_at hl 3 rfl) ?_
      refine lv_aload_n hx hb dL_law_505 rfl (lv_at hl 1 rfl) ?_
      refine lv_iload hx hb dL_law_506 (lv_at hl 5 rfl) ?_
      refine lv_iconst (v := 1) hx hb dL_law_508 (by decide) ?_
      refine lv_iadd hx hb dL_law_509 ?_
      refine lv_as (y := nI (4 * j + 1)) (nI_add2 (p := 4 * j) (q := 1) rfl rfl) ?_
      refine g_sld hx hb hXs hbl hS (4 * j + 1) rfl (by omega) (by omega) dL_law_510 ?_
      refine lv_as (y := nI q) hx1 ?_
      refine lv_aload_n hx hb dL_law_511 rfl (lv_at hl 1 rfl) ?_
      refine lv_iload hx hb dL_law_512 (lv_at hl 5 rfl) ?_
      refine lv_iconst (v := 2) hx hb dL_law_514 (by decide) ?_
      refine lv_iadd hx hb dL_law_515 ?_
      refine lv_as (y := nI (4 * j + 2)) (nI_add2 (p := 4 * j) (q := 2) rfl rfl) ?_
      refine g_sld hx hb hXs hbl hS (4 * j + 2) rfl (by omega) (by omega) dL_law_516 ?_
      refine lwM_i hL hS hPx (va_runV (As := [.int (nI q), .int (xs (4 * j + 2))]) (rest := []) ⟨hx, hb, hml, hown, hts⟩ (mx2_X7_set l D cI cS b s kp hf sc ad (mi 1) (nI q) (xs (4 * j + 2)) (hx1 ▸ h1) h2 _) (cwV 2 hts (gV tw894 tw891 tw892 tw893 tw8) rfl rfl rfl (by decide +kernel) ⟨Nat.le_of_ble_eq_true rfl, Nat.le_of_ble_eq_true rfl⟩) (pvW 0 hK hPm hEm (by decide) rfl rfl) rfl rfl hl.1 rfl (lv_room (Nat.le_of_ble_eq_true rfl)) dL_law_517 hc1) (fun rB u2 H locs hrB hPx hPm hS => ?_)
      refine lv_istore (lv' := [(6, .int rB), (5, .int 2), (0, .ref bs), (1, .ref (a 112)), (2, .ref (b 0)), (3, .ref (a 113)), (4, .int (nI (4 * j)))]) hx hb dL_law_520 hl (by decide) rfl (fun ls hl => ?_)
      refine lv_aload_n hx hb dL_law_522 rfl (lv_at hl 4 rfl) ?_
      refine ro_i (va_runV (As := []) (rest := []) ⟨hx, hb, hml, hown, hts⟩ (m_X7_thrown l D cI cS b s kp hf (upd (upd sc 3 0) 3 2) ad (mi 1)) (cwV 0 hts (gV tw797 tw794 tw795 tw796 tw8) rfl rfl rfl (by decide +kernel) ⟨Nat.le_of_ble_eq_true rfl, Nat.le_of_ble_eq_true rfl⟩) (pvR 0 hK hPm (by decide) rfl rfl) rfl rfl hl.1 rfl (lv_room (Nat.le_of_ble_eq_true rfl)) dL_law_523 hc1) (fun r7 hr7 => ?_)
      have hr7 : r7 = 2 := hr7
      subst hr7
      refine lv_iload hx hb dL_law_526 (lv_at hl 1 rfl) ?_
      refine lv_icmp_eq (tgt := 533) hx hb dL_law_528 (by decide) (fun _ => ?_) (fun h0 => absurd (by decide) h0)
      refine lv_iload hx hb dL_law_533 (lv_at hl 1 rfl) ?_
      refine lv_if_ne (tgt := 550) hx hb dL_law_535 (by decide) (fun _ => ?_) (fun h0 => absurd h0 (by decide))
      refine lv_goto (tgt := 1363) hx hb dL_law_550 (by decide) ?_
      refine W.widen (k := cells + 1) (n := slots + 6) (by omega) (by omega) ?_
      exact kk H locs ls ⟨s, st, pi, mi, po, ov, kp, hf, (upd (upd sc 3 0) 3 2), ad, sz, ln, hPx, hPm, hLI.lk (by omega) hln rfl hl0 rfl rfl rfl hlm⟩ hS (lv_sub hl [2, 3, 4, 5, 6] rfl)
  · skip
    refine lv_aload_n hx hb dL_law_485 rfl (lv_at hl 1 rfl) ?_
    refine lv_aload_n hx hb dL_law_486 rfl (lv_at hl 0 rfl) ?_
    refine lv_iload hx hb dL_law_487 (lv_at hl 4 rfl) ?_
    refine lv_iconst (v := 1) hx hb dL_law_489 (by decide) ?_
    refine lv_iadd hx hb dL_law_490 ?_
    refine lv_as (y := nI (4 * j + 1)) (nI_add2 (p := 4 * j) (q := 1) rfl rfl) ?_
    refine g_sld hx hb hXs hbl hS (4 * j + 1) rfl (by omega) (by omega) dL_law_491 ?_
    refine lv_aload_n hx hb dL_law_492 rfl (lv_at hl 0 rfl) ?_
    refine lv_iload hx hb dL_law_493 (lv_at hl 4 rfl) ?_
    refine lv_iconst (v := 2) hx hb dL_law_495 (by decide) ?_
    refine lv_iadd hx hb dL_law_496 ?_
    refine lv_as (y := nI (4 * j + 2)) (nI_add2 (p := 4 * j) (q := 2) rfl rfl) ?_
    refine g_sld hx hb hXs hbl hS (4 * j + 2) rfl (by omega) (by omega) dL_law_497 ?_
    refine lv_aload_n hx hb dL_law_498 rfl (lv_at hl 3 rfl) ?_
    refine lwL_i hL hS hPm (vx_runSW (As := [.ref (a 112), .int (xs (4 * j + 1)), .int (xs (4 * j + 2)), .ref (a 113)]) (rest := []) ⟨hx, hb, hml, hown, hts⟩ (mt_L_set l hst D cI cS cL a s st pi mi po ov (xs (4 * j + 1)) (xs (4 * j + 2)) h1 _) (vx_cwSW 4 hts (gS tw637 tw635 tw636 tw0) rfl rfl rfl (by decide +kernel) ⟨Nat.le_of_ble_eq_true rfl, Nat.le_of_ble_eq_true rfl⟩) (psO hK hPx hL.1 hKL hEV ((hEH.kept hS.2.1).narrow (fun _ h => h.elim))) rfl rfl hl.1 rfl (lv_room (Nat.le_of_ble_eq_true rfl)) dL_law_499 hc1) (fun rA u1 H locs hrA hPx hPm hS => ?_)
    subst hrA
    refine lv_istore (lv' := [(5, .int 1), (0, .ref bs), (1, .ref (a 112)), (2, .ref (b 0)), (3, .ref (a 113)), (4, .int (nI (4 * j)))]) hx hb dL_law_502 hl (by decide) rfl (fun ls hl => ?_)
    refine lv_aload_n hx hb dL_law_504 rfl (lv_at hl 3 rfl) ?_
    refine lv_aload_n hx hb dL_law_505 rfl (lv_at hl 1 rfl) ?_
    refine lv_iload hx hb dL_law_506 (lv_at hl 5 rfl) ?_
    refine lv_iconst (v := 1) hx hb dL_law_508 (by decide) ?_
    refine lv_iadd hx hb dL_law_509 ?_
    refine lv_as (y := nI (4 * j + 1)) (nI_add2 (p := 4 * j) (q := 1) rfl rfl) ?_
    refine g_sld hx hb hXs hbl hS (4 * j + 1) rfl (by omega) (by omega) dL_law_510 ?_
    refine lv_aload_n hx hb dL_law_511 rfl (lv_at hl 1 rfl) ?_
    refine lv_iload hx hb dL_law_512 (lv_at hl 5 rfl) ?_
    refine lv_iconst (v := 2) hx hb dL_law_514 (by decide) ?_
    refine lv_iadd hx hb dL_law_515 ?_
    refine lv_as (y := nI (4 * j + 2)) (nI_add2 (p := 4 * j) (q := 2) rfl rfl) ?_
    refine g_sld hx hb hXs hbl hS (4 * j + 2) rfl (by omega) (by omega) dL_law_516 ?_
    refine lwM_i hL hS hPx (va_runV (As := [.int (xs (4 * j + 1)), .int (xs (4 * j + 2))]) (rest := []) ⟨hx, hb, hml, hown, hts⟩ (mx_X7_set l D cI cS b s kp hf sc ad (mi 1) (xs (4 * j + 1)) (xs (4 * j + 2)) h1 _) (cwV 2 hts (gV tw894 tw891 tw892 tw893 tw8) rfl rfl rfl (by decide +kernel) ⟨Nat.le_of_ble_eq_true rfl, Nat.le_of_ble_eq_true rfl⟩) (pvW 0 hK hPm hEm (by decide) rfl rfl) rfl rfl hl.1 rfl (lv_room (Nat.le_of_ble_eq_true rfl)) dL_law_517 hc1) (fun rB u2 H locs hrB hPx hPm hS => ?_)
    refine lv_istore (lv' := [(6, .int rB), (5, .int 1), (0, .ref bs), (1, .ref (a 112)), (2, .ref (b 0)), (3, .ref (a 113)), (4, .int (nI (4 * j)))]) hx hb dL_law_520 hl (by decide) rfl (fun ls hl => ?_)
    refine lv_aload_n hx hb dL_law_522 rfl (lv_at hl 4 rfl) ?_
    refine ro_i (va_runV (As := []) (rest := []) ⟨hx, hb, hml, hown, hts⟩ (m_X7_thrown l D cI cS b s kp hf (upd (upd sc 3 0) 3 1) ad (mi 1)) (cwV 0 hts (gV tw797 tw794 tw795 tw796 tw8) rfl rfl rfl (by decide +kernel) ⟨Nat.le_of_ble_eq_true rfl, Nat.le_of_ble_eq_true rfl⟩) (pvR 0 hK hPm (by decide) rfl rfl) rfl rfl hl.1 rfl (lv_room (Nat.le_of_ble_eq_true rfl)) dL_law_523 hc1) (fun r7 hr7 => ?_)
    have hr7 : r7 = 1 := hr7
    subst hr7
    refine lv_iload hx hb dL_law_526 (lv_at hl 1 rfl) ?_
    refine lv_icmp_eq (tgt := 533) hx hb dL_law_528 (by decide) (fun _ => ?_) (fun h0 => absurd (by decide) h0)
    refine lv_iload hx hb dL_law_533 (lv_at hl 1 rfl) ?_
    refine lv_if_ne (tgt := 550) hx hb dL_law_535 (by decide) (fun _ => ?_) (fun h0 => absurd h0 (by decide))
    refine lv_goto (tgt := 1363) hx hb dL_law_550 (by decide) ?_
    refine W.widen (k := cells + 1) (n := slots + 6) (by omega) (by omega) ?_
    exact kk H locs ls ⟨s, st, pi, mi, po, ov, kp, hf, (upd (upd sc 3 0) 3 1), ad, sz, ln, hPx, hPm, hLI.lk (by omega) hln rfl hl0 rfl rfl rfl hlm⟩ hS (lv_sub hl [2, 3, 4, 5, 6] rfl)

set_option maxHeartbeats 4000000 in
set_option maxRecDepth 100000 in
theorem law_append {p : Program} {l : Launch} {e : Env} {z : State} {m : MethodId} {below : List Frame} {meth : Method} {c : Code} {Q : State → Prop} {D : va_G} {cI cS cL : ClassId} {a b : Nat → Nat} {bs L : Nat} {xs : Nat → Int32} {T : Int} {j cells slots : Nat} {H : Heap} {locs : List Loc} {ls : Array Slot} (hC : LF p l z m meth c D cI cS cL a b bs L xs) (hj : 4 * j + 3 < L) (hT : T ≤ 99000000) (h0T : 0 ≤ T) (hc1 : cells + 1 ≤ room_1.cells ∧ slots + 6 ≤ room_1.slots) (hW : LWd D cI cS cL a b T H) (hS : va_S (LA z.heap.size) z.heap H locs) (hl : lv_has ls 9 [(0, .ref bs), (1, .ref (a 112)), (2, .ref (b 0)), (3, .ref (a 113)), (4, .int (nI (4 * j)))])
    (kk : ∀ (H1 : Heap) (locs1 : List Loc) (ls1 : Array Slot), LWd D cI cS cL a b (T + 100000) H1 → va_S (LA z.heap.size) z.heap H1 locs1 → lv_has ls1 9 [(0, .ref bs), (1, .ref (a 112)), (2, .ref (b 0)), (3, .ref (a 113)), (4, .int (nI (4 * j)))] → W p l e room_1 z m #[Value.ref bs] below meth c H1 locs1 (cells + 1) (slots + 6) Q (F0 m 1363 ls1 [])) : W p l e room_1 z m #[Value.ref bs] below meth c H locs cells slots Q (F0 m 553 ls []) := by
  obtain ⟨hx, hb, hml, hown, hts, hK, hKL, hEV, hEH, hXs, hbl, hL9, hL, hst⟩ := hC
  obtain ⟨s, st, pi, mi, po, ov, kp, hf, sc, ad, sz, ln, hPx, hPm, hLI⟩ := hW
  obtain ⟨hsz, hpi, hpj, hh, hBd, hln, hs0, hl0, hk0, hlm, hkm, hkk⟩ := id hLI
  have hEm := hL.2.1
  have hc0 : cells + 0 ≤ room_1.cells ∧ slots + 0 ≤ room_1.slots := ⟨by omega, by omega⟩
  by_cases h1 : witB (xs (4 * j + 1)) 33 126
  · skip
    by_cases h2 : ln < 60
    · skip
      refine lv_aload_n hx hb dL_law_553 rfl (lv_at hl 1 rfl) ?_
      refine lv_aload_n hx hb dL_law_554 rfl (lv_at hl 0 rfl) ?_
      refine lv_iload hx hb dL_law_555 (lv_at hl 4 rfl) ?_
      refine lv_iconst (v := 1) hx hb dL_law_557 (by decide) ?_
      refine lv_iadd hx hb dL_law_558 ?_
      refine lv_as (y := nI (4 * j + 1)) (nI_add2 (p := 4 * j) (q := 1) rfl rfl) ?_
      refine g_sld hx hb hXs hbl hS (4 * j + 1) rfl (by omega) (by omega) dL_law_559 ?_
      refine lv_aload_n hx hb dL_law_560 rfl (lv_at hl 3 rfl) ?_
      refine lwL_i hL hS hPm (vx_runSW (As := [.ref (a 112), .int (xs (4 * j + 1)), .ref (a 113)]) (rest := []) ⟨hx, hb, hml, hown, hts⟩ (m_L_append l D cI cS cL a s st pi mi po ov ln hln hl0 h2 (xs (4 * j + 1)) (Int32.not_lt.mpr h1.1) h1.2 _) (vx_cwSW 3 hts (gS tw649 tw647 tw648 tw0) rfl rfl rfl (by decide +kernel) ⟨Nat.le_of_ble_eq_true rfl, Nat.le_of_ble_eq_true rfl⟩) (psO hK hPx hL.1 hKL hEV ((hEH.kept hS.2.1).narrow (fun _ h => h.elim))) rfl rfl hl.1 rfl (lv_room (Nat.le_of_ble_eq_true rfl)) dL_law_561 hc0) (fun rA u1 H locs hrA hPx hPm hS => ?_)
      subst hrA
      refine lv_istore (lv' := [(5, .int 0), (0, .ref bs), (1, .ref (a 112)), (2, .ref (b 0)), (3, .ref (a 113)), (4, .int (nI (4 * j)))]) hx hb dL_law_564 hl (by decide) rfl (fun ls hl => ?_)
      refine lv_aload_n hx hb dL_law_566 rfl (lv_at hl 3 rfl) ?_
      refine lv_aload_n hx hb dL_law_567 rfl (lv_at hl 1 rfl) ?_
      refine lv_iload hx hb dL_law_568 (lv_at hl 5 rfl) ?_
      refine lv_iconst (v := 1) hx hb dL_law_570 (by decide) ?_
      refine lv_iadd hx hb dL_law_571 ?_
      refine lv_as (y := nI (4 * j + 1)) (nI_add2 (p := 4 * j) (q := 1) rfl rfl) ?_
      refine g_sld hx hb hXs hbl hS (4 * j + 1) rfl (by omega) (by omega) dL_law_572 ?_
      refine lwM_i hL hS hPx (va_runV (As := [.int (xs (4 * j + 1))]) (rest := []) ⟨hx, hb, hml, hown, hts⟩ (m_X7_append l D cI cS b s kp hf sc ad (mi 1) ln hln hlm h2 (xs (4 * j + 1)) h1 _) (cwV 1 hts (gV tw898 tw895 tw896 tw897 tw8) rfl rfl rfl (by decide +kernel) ⟨Nat.le_of_ble_eq_true rfl, Nat.le_of_ble_eq_true rfl⟩) (pvW 0 hK hPm hEm (by decide) rfl rfl) rfl rfl hl.1 rfl (lv_room (Nat.le_of_ble_eq_true rfl)) dL_law_573 hc0) (fun rB u2 H locs hrB hPx hPm hS => ?_)
      refine lv_istore (lv' := [(6, .int rB), (5, .int 0), (0, .ref bs), (1, .ref (a 112)), (2, .ref (b 0)), (3, .ref (a 113)), (4, .int (nI (4 * j)))]) hx hb dL_law_576 hl (by decide) rfl (fun ls hl => ?_)
      refine lv_aload_n hx hb dL_law_578 rfl (lv_at hl 4 rfl) ?_
      refine ro_i (va_runV (As := []) (rest := []) ⟨hx, hb, hml, hown, hts⟩ (m_X7_thrown l D cI cS b s kp hf (upd (upd sc 3 0) 2 (nI (ln + 1))) ad (upd (mi 1) ln (xs (4 * j + 1)))) (cwV 0 hts (gV tw797 tw794 tw795 tw796 tw8) rfl rfl rfl (by decide +kernel) ⟨Nat.le_of_ble_eq_true rfl, Nat.le_of_ble_eq_true rfl⟩) (pvR 0 hK hPm (by decide) rfl rfl) rfl rfl hl.1 rfl (lv_room (Nat.le_of_ble_eq_true rfl)) dL_law_579 hc0) (fun r7 hr7 => ?_)
      have hr7 : r7 = 0 := hr7
      subst hr7
      refine lv_iload hx hb dL_law_582 (lv_at hl 1 rfl) ?_
      refine lv_icmp_eq (tgt := 589) hx hb dL_law_584 (by decide) (fun _ => ?_) (fun h0 => absurd (by decide) h0)
      refine lv_iload hx hb dL_law_589 (lv_at hl 1 rfl) ?_
      refine lv_if_ne (tgt := 606) hx hb dL_law_591 (by decide) (fun h0 => absurd (by decide) h0) (fun _ => ?_)
      refine lv_aload_n hx hb dL_law_594 rfl (lv_at hl 5 rfl) ?_
      refine lv_iconst (v := 0) hx hb dL_law_595 (by decide) ?_
      refine g_lald hx hb hKL hPx (v := (nI (ln + 1)).toInt64) rfl dL_law_596 ?_
      refine lv_iload hx hb dL_law_597 (lv_at hl 0 rfl) ?_
      refine lv_i2l hx hb dL_law_599 rfl ?_
      refine g_lcmp0 hx hb (by rw [hrB]) dL_law_600 ?_
      refine lv_if_eq (tgt := 606) hx hb dL_law_601 (by decide) (fun _ => ?_) (fun h0 => absurd (by decide) h0)
      refine lv_goto (tgt := 1363) hx hb dL_law_606 (by decide) ?_
      refine W.widen (k := cells + 1) (n := slots + 6) (by omega) (by omega) ?_
      exact kk H locs ls ⟨s, st, pi, (up2 (up2 mi 1 ln (xs (4 * j + 1))) 0 1 (nI (ln + 1))), po, (vp_updL ov 0 (nI (ln + 1)).toInt64), kp, hf, (upd (upd sc 3 0) 2 (nI (ln + 1))), ad, sz, ln + 1, hPx, hPm, hLI.lk (by omega) (by omega) rfl rfl rfl rfl rfl rfl⟩ hS (lv_sub hl [2, 3, 4, 5, 6] rfl)
    · skip
      refine lv_aload_n hx hb dL_law_553 rfl (lv_at hl 1 rfl) ?_
      refine lv_aload_n hx hb dL_law_554 rfl (lv_at hl 0 rfl) ?_
      refine lv_iload hx hb dL_law_555 (lv_at hl 4 rfl) ?_
      refine lv_iconst (v := 1) hx hb dL_law_557 (by decide) ?_
      refine lv_iadd hx hb dL_law_558 ?_
      refine lv_as (y := nI (4 * j + 1)) (nI_add2 (p := 4 * j) (q := 1) rfl rfl) ?_
      refine g_sld hx hb hXs hbl hS (4 * j + 1) rfl (by omega) (by omega) dL_law_559 ?_
      refine lv_aload_n hx hb dL_law_560 rfl (lv_at hl 3 rfl) ?_
      refine lwL_i hL hS hPm (vx_runSW (As := [.ref (a 112), .int (xs (4 * j + 1)), .ref (a 113)]) (rest := []) ⟨hx, hb, hml, hown, hts⟩ (mt2_L_append l hst D cI cS cL a s st pi mi po ov ln (by omega) hl0 (xs (4 * j + 1)) h1 _) (vx_cwSW 3 hts (gS tw649 tw647 tw648 tw0) rfl rfl rfl (by decide +kernel) ⟨Nat.le_of_ble_eq_true rfl, Nat.le_of_ble_eq_true rfl⟩) (psO hK hPx hL.1 hKL hEV ((hEH.kept hS.2.1).narrow (fun _ h => h.elim))) rfl rfl hl.1 rfl (lv_room (Nat.le_of_ble_eq_true rfl)) dL_law_561 hc1) (fun rA u1 H locs hrA hPx hPm hS => ?_)
      subst hrA
      refine lv_istore (lv' := [(5, .int 2), (0, .ref bs), (1, .ref (a 112)), (2, .ref (b 0)), (3, .ref (a 113)), (4, .int (nI (4 * j)))]) hx hb dL_law_564 hl (by decide) rfl (fun ls hl => ?_)
      refine lv_aload_n hx hb dL_law_566 rfl (lv_at hl 3 rfl) ?_
      refine lv_aload_n hx hb dL_law_567 rfl (lv_at hl 1 rfl) ?_
      refine lv_iload hx hb dL_law_568 (lv_at hl 5 rfl) ?_
      refine lv_iconst (v := 1) hx hb dL_law_570 (by decide) ?_
      refine lv_iadd hx hb dL_law_571 ?_
      refine lv_as (y := nI (4 * j + 1)) (nI_add2 (p := 4 * j) (q := 1) rfl rfl) ?_
      refine g_sld hx hb hXs hbl hS (4 * j + 1) rfl (by omega) (by omega) dL_law_572 ?_
      refine lwM_i hL hS hPx (va_runV (As := [.int (xs (4 * j + 1))]) (rest := []) ⟨hx, hb, hml, hown, hts⟩ (mx2_X7_append l D cI cS b s kp hf sc ad (mi 1) ln (by omega) hlm (xs (4 * j + 1)) h1 _) (cwV 1 hts (gV tw898 tw895 tw896 tw897 tw8) rfl rfl rfl (by decide +kernel) ⟨Nat.le_of_ble_eq_true rfl, Nat.le_of_ble_eq_true rfl⟩) (pvW 0 hK hPm hEm (by decide) rfl rfl) rfl rfl hl.1 rfl (lv_room (Nat.le_of_ble_eq_true rfl)) dL_law_573 hc1) (fun rB u2 H locs hrB hPx hPm hS => ?_)
      refine lv_istore (lv' := [(6, .int rB), (5, .int 2), (0, .ref bs), (1, .ref (a 112)), (2, .ref (b 0)), (3, .ref (a 113)), (4, .int (nI (4 * j)))]) hx hb dL_law_576 hl (by decide) rfl (fun ls hl => ?_)
      refine lv_aload_n hx hb dL_law_578 rfl (lv_at hl 4 rfl) ?_
      refine ro_i (va_runV (As := []) (rest := []) ⟨hx, hb, hml, hown, hts⟩ (m_X7_thrown l D cI cS b s kp hf (upd (upd sc 3 0) 3 2) ad (mi 1)) (cwV 0 hts (gV tw797 tw794 tw795 tw796 tw8) rfl rfl rfl (by decide +kernel) ⟨Nat.le_of_ble_eq_true rfl, Nat.le_of_ble_eq_true rfl⟩) (pvR 0 hK hPm (by decide) rfl rfl) rfl rfl hl.1 rfl (lv_room (Nat.le_of_ble_eq_true rfl)) dL_law_579 hc1) (fun r7 hr7 => ?_)
      have hr7 : r7 = 2 := hr7
      subst hr7
      refine lv_iload hx hb dL_law_582 (lv_at hl 1 rfl) ?_
      refine lv_icmp_eq (tgt := 589) hx hb dL_law_584 (by decide) (fun _ => ?_) (fun h0 => absurd (by decide) h0)
      refine lv_iload hx hb dL_law_589 (lv_at hl 1 rfl) ?_
      refine lv_if_ne (tgt := 606) hx hb dL_law_591 (by decide) (fun _ => ?_) (fun h0 => absurd h0 (by decide))
      refine lv_goto (tgt := 1363) hx hb dL_law_606 (by decide) ?_
      refine W.widen (k := cells + 1) (n := slots + 6) (by omega) (by omega) ?_
      exact kk H locs ls ⟨s, st, pi, mi, po, ov, kp, hf, (upd (upd sc 3 0) 3 2), ad, sz, ln, hPx, hPm, hLI.lk (by omega) hln rfl hl0 rfl rfl rfl hlm⟩ hS (lv_sub hl [2, 3, 4, 5, 6] rfl)
  · skip
    refine lv_aload_n hx hb dL_law_553 rfl (lv_at hl 1 rfl) ?_
    refine lv_aload_n hx hb dL_law_554 rfl (lv_at hl 0 rfl) ?_
    refine lv_iload hx hb dL_law_555 (lv_at hl 4 rfl) ?_
    refine lv_iconst (v := 1) hx hb dL_law_557 (by decide) ?_
    refine lv_iadd hx hb dL_law_558 ?_
    refine lv_as (y := nI (4 * j + 1)) (nI_add2 (p := 4 * j) (q := 1) rfl rfl) ?_
    refine g_sld hx hb hXs hbl hS (4 * j + 1) rfl (by omega) (by omega) dL_law_559 ?_
    refine lv_aload_n hx hb dL_law_560 rfl (lv_at hl 3 rfl) ?_
    refine lwL_i hL hS hPm (vx_runSW (As := [.ref (a 112), .int (xs (4 * j + 1)), .ref (a 113)]) (rest := []) ⟨hx, hb, hml, hown, hts⟩ (mt_L_append l hst D cI cS cL a s st pi mi po ov (xs (4 * j + 1)) h1 _) (vx_cwSW 3 hts (gS tw649 tw647 tw648 tw0) rfl rfl rfl (by decide +kernel) ⟨Nat.le_of_ble_eq_true rfl, Nat.le_of_ble_eq_true rfl⟩) (psO hK hPx hL.1 hKL hEV ((hEH.kept hS.2.1).narrow (fun _ h => h.elim))) rfl rfl hl.1 rfl (lv_room (Nat.le_of_ble_eq_true rfl)) dL_law_561 hc1) (fun rA u1 H locs hrA hPx hPm hS => ?_)
    subst hrA
    refine lv_istore (lv' := [(5, .int 1), (0, .ref bs), (1, .ref (a 112)), (2, .ref (b 0)), (3, .ref (a 113)), (4, .int (nI (4 * j)))]) hx hb dL_law_564 hl (by decide) rfl (fun ls hl => ?_)
    refine lv_aload_n hx hb dL_law_566 rfl (lv_at hl 3 rfl) ?_
    refine lv_aload_n hx hb dL_law_567 rfl (lv_at hl 1 rfl) ?_
    refine lv_iload hx hb dL_law_568 (lv_at hl 5 rfl) ?_
    refine lv_iconst (v := 1) hx hb dL_law_570 (by decide) ?_
    refine lv_iadd hx hb dL_law_571 ?_
    refine lv_as (y := nI (4 * j + 1)) (nI_add2 (p := 4 * j) (q := 1) rfl rfl) ?_
    refine g_sld hx hb hXs hbl hS (4 * j + 1) rfl (by omega) (by omega) dL_law_572 ?_
    refine lwM_i hL hS hPx (va_runV (As := [.int (xs (4 * j + 1))]) (rest := []) ⟨hx, hb, hml, hown, hts⟩ (mx_X7_append l D cI cS b s kp hf sc ad (mi 1) (xs (4 * j + 1)) h1 _) (cwV 1 hts (gV tw898 tw895 tw896 tw897 tw8) rfl rfl rfl (by decide +kernel) ⟨Nat.le_of_ble_eq_true rfl, Nat.le_of_ble_eq_true rfl⟩) (pvW 0 hK hPm hEm (by decide) rfl rfl) rfl rfl hl.1 rfl (lv_room (Nat.le_of_ble_eq_true rfl)) dL_law_573 hc1) (fun rB u2 H locs hrB hPx hPm hS => ?_)
    refine lv_istore (lv' := [(6, .int rB), (5, .int 1), (0, .ref bs), (1, .ref (a 112)), (2, .ref (b 0)), (3, .ref (a 113)), (4, .int (nI (4 * j)))]) hx hb dL_law_576 hl (by decide) rfl (fun ls hl => ?_)
    refine lv_aload_n hx hb dL_law_578 rfl (lv_at hl 4 rfl) ?_
    refine ro_i (va_runV (As := []) (rest := []) ⟨hx, hb, hml, hown, hts⟩ (m_X7_thrown l D cI cS b s kp hf (upd (upd sc 3 0) 3 1) ad (mi 1)) (cwV 0 hts (gV tw797 tw794 tw795 tw796 tw8) rfl rfl rfl (by decide +kernel) ⟨Nat.le_of_ble_eq_true rfl, Nat.le_of_ble_eq_true rfl⟩) (pvR 0 hK hPm (by decide) rfl rfl) rfl rfl hl.1 rfl (lv_room (Nat.le_of_ble_eq_true rfl)) dL_law_579 hc1) (fun r7 hr7 => ?_)
    have hr7 : r7 = 1 := hr7
    subst hr7
    refine lv_iload hx hb dL_law_582 (lv_at hl 1 rfl) ?_
    refine lv_icmp_eq (tgt := 589) hx hb dL_law_584 (by decide) (fun _ => ?_) (fun h0 => absurd (by decide) h0)
    refine lv_iload hx hb dL_law_589 (lv_at hl 1 rfl) ?_
    refine lv_if_ne (tgt := 606) hx hb dL_law_591 (by decide) (fun _ => ?_) (fun h0 => absurd h0 (by decide))
    refine lv_goto (tgt := 1363) hx hb dL_law_606 (by decide) ?_
    refine W.widen (k := cells + 1) (n := slots + 6) (by omega) (by omega) ?_
    exact kk H locs ls ⟨s, st, pi, mi, po, ov, kp, hf, (upd (upd sc 3 0) 3 1), ad, sz, ln, hPx, hPm, hLI.lk (by omega) hln rfl hl0 rfl rfl rfl hlm⟩ hS (lv_sub hl [2, 3, 4, 5, 6] rfl)

set_option maxHeartbeats 4000000 in
set_option maxRecDepth 100000 in
theorem law_clearBuffer {p : Program} {l : Launch} {e : Env} {z : State} {m : MethodId} {below : List Frame} {meth : Method} {c : Code} {Q : State → Prop} {D : va_G} {cI cS cL : ClassId} {a b : Nat → Nat} {bs L : Nat} {xs : Nat → Int32} {T : Int} {j cells slots : Nat} {H : Heap} {locs : List Loc} {ls : Array Slot} (hC : LF p l z m meth c D cI cS cL a b bs L xs) (hj : 4 * j + 3 < L) (hT : T ≤ 99000000) (h0T : 0 ≤ T) (hc1 : cells + 1 ≤ room_1.cells ∧ slots + 6 ≤ room_1.slots) (hW : LWd D cI cS cL a b T H) (hS : va_S (LA z.heap.size) z.heap H locs) (hl : lv_has ls 9 [(0, .ref bs), (1, .ref (a 112)), (2, .ref (b 0)), (3, .ref (a 113)), (4, .int (nI (4 * j)))])
    (kk : ∀ (H1 : Heap) (locs1 : List Loc) (ls1 : Array Slot), LWd D cI cS cL a b (T + 100000) H1 → va_S (LA z.heap.size) z.heap H1 locs1 → lv_has ls1 9 [(0, .ref bs), (1, .ref (a 112)), (2, .ref (b 0)), (3, .ref (a 113)), (4, .int (nI (4 * j)))] → W p l e room_1 z m #[Value.ref bs] below meth c H1 locs1 (cells + 1) (slots + 6) Q (F0 m 1363 ls1 [])) : W p l e room_1 z m #[Value.ref bs] below meth c H locs cells slots Q (F0 m 609 ls []) := by
  obtain ⟨hx, hb, hml, hown, hts, hK, hKL, hEV, hEH, hXs, hbl, hL9, hL, hst⟩ := hC
  obtain ⟨s, st, pi, mi, po, ov, kp, hf, sc, ad, sz, ln, hPx, hPm, hLI⟩ := hW
  obtain ⟨hsz, hpi, hpj, hh, hBd, hln, hs0, hl0, hk0, hlm, hkm, hkk⟩ := id hLI
  have hEm := hL.2.1
  have hc0 : cells + 0 ≤ room_1.cells ∧ slots + 0 ≤ room_1.slots := ⟨by omega, by omega⟩
  refine lv_aload_n hx hb dL_law_609 rfl (lv_at hl 1 rfl) ?_
  refine lwX_i hL hS hPx hPm (va_runV (As := []) (rest := []) ⟨hx, hb, hml, hown, hts⟩ (m_X6_clearBuffer l D cI cS a s st pi mi po ln hln hl0 _) (cwV 0 hts (gV tw238 tw235 tw236 tw237 tw1) rfl rfl rfl (by decide +kernel) ⟨Nat.le_of_ble_eq_true rfl, Nat.le_of_ble_eq_true rfl⟩) (pvW' 112 rfl hK hPx (by decide) rfl rfl (exO_s hPx) (DI_s hL.1)) rfl rfl hl.1 rfl (lv_room (Nat.le_of_ble_eq_true rfl)) dL_law_610 hc0) (fun rA u1 H locs hrA hPx hPm hS => ?_)
  refine lv_aload_n hx hb dL_law_613 rfl (lv_at hl 2 rfl) ?_
  refine lwM_i hL hS hPx (va_runV (As := []) (rest := [.int rA]) ⟨hx, hb, hml, hown, hts⟩ (m_X7_clearBuffer l D cI cS b s kp hf sc ad (mi 1) ln hln hlm _) (cwV 0 hts (gV tw902 tw899 tw900 tw901 tw8) rfl rfl rfl (by decide +kernel) ⟨Nat.le_of_ble_eq_true rfl, Nat.le_of_ble_eq_true rfl⟩) (pvW 0 hK hPm hEm (by decide) rfl rfl) rfl rfl hl.1 rfl (lv_room (Nat.le_of_ble_eq_true rfl)) dL_law_614 hc0) (fun rB u2 H locs hrB hPx hPm hS => ?_)
  refine lv_icmp_eq (tgt := 1363) hx hb dL_law_617 (by decide) (fun _ => ?_) (fun h0 => absurd (hrA.trans hrB.symm) h0)
  refine W.widen (k := cells + 1) (n := slots + 6) (by omega) (by omega) ?_
  exact kk H locs ls ⟨s, st, pi, (up2 mi 0 1 0), po, ov, kp, hf, (upd (upd sc 3 0) 2 0), ad, sz, 0, hPx, hPm, hLI.lk (by omega) (by omega) rfl rfl rfl rfl rfl rfl⟩ hS (lv_sub hl [0, 1, 2, 3, 4] rfl)
