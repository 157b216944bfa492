/-! the law's helpers: the class's world, and the row 'out' behind it -/
def exOf (ex : Nat → va_E) (cL : ClassId) (ov : Nat → Int64) (n : Nat) : va_E := if n < 113 then ex n else .inl (cL, 1, .inr (.inl ov))
abbrev KL (D : va_G) (cL : ClassId) (U : State) : Prop := va_K D vwCl [(cL, .long)] U
def PO (D : va_G) (cI cS cL : ClassId) (nn : Nat) (a : Nat → Nat) (e : Nat → va_E) (sz : Nat) : State → Prop := fun U => U.heap.size = sz ∧ HP D nn a e U.heap ∧ KX D cI cS U ∧ DI nn a ∧ KL D cL U ∧ EX0 U
theorem pbO {D : va_G} {cI cS cL : ClassId} {nn sz : Nat} {a : Nat → Nat} {e : Nat → va_E} {av : List Value} : FrameBlind (va_Pc av (PO D cI cS cL nn a e sz)) := fun a U g mk h => ⟨h.1, h.2.1, h.2.2.1, KX.same (u := U) (U := U.calling g mk a) rfl h.2.2.2.1, h.2.2.2.2.1, va_K.moved (u := U) (U := U.calling g mk a) (Vm.Alike.refl U.vm) h.2.2.2.2.2.1, EX0.same (u := U) (U := U.calling g mk a) rfl rfl h.2.2.2.2.2.2⟩
theorem ex_l {ex : Nat → va_E} {cL : ClassId} {ov : Nat → Int64} {k : Nat} (h : k < 113) : exOf ex cL ov k = ex k := if_pos h
theorem exO_s {D : va_G} {a : Nat → Nat} {H : Heap} {ex : Nat → va_E} {cL : ClassId} {ov : Nat → Int64} (h : HP D 114 a (exOf ex cL ov) H) : HP D 113 a ex H := fun k hk => by
  have h1 := h k (by omega)
  rw [ex_l hk] at h1
  exact h1
theorem DI_s {a : Nat → Nat} (h : DI 114 a) : DI 113 a := fun i j hi hj => h i j (by omega) (by omega)
section LH
variable {p : Program} {l : Launch} {e : Env} {R : Room} {s : State} {m : MethodId} {args : Array Value} {below : List Frame} {meth : Method} {c : Code} {H : Heap} {locs : List Loc} {cells slots : Nat} {Q : State → Prop}
variable {pc : Nat} {ls : Array Slot} {rest st0 : List Value} {cc : ByteArray} {D : va_G} {cI cS cL : ClassId} {a : Nat → Nat} {ex : Nat → va_E} {ov : Nat → Int64} {H0 : Heap}
theorem mgl {y : MethodName} {maxL : Nat} {ret : Option FieldType} {hh : List (Nat × Nat × Nat × Nat)} {rm : Room} {av : List Value} {B : State → Prop} {Qc : Array Value → State → Outcome → State → Prop} {mc ms : Nat} {free : Addr → Prop} (hy : plainName y.cls = true) (hn : (lg_sl av).length ≤ maxL)
    (body : ∀ (p : Program) (e : Env) (s : State) (m : MethodId) (below : List Frame) (meth : Method) (c : Code), p.tables.exec = Jvm.exec → c.code = cc → meth.sig.returnType = ret → c.maxLocals = maxL → s.vm.findClass y.cls = some m.cls → (∀ w ∈ wsA, w.before av.toArray s = true) → meth.locks = false → c.exceptionTable.toList = tableOf hh → B s → ∀ ls : Array Slot, lv_has ls maxL (lv_args 0 av) → W p l e rm s m av.toArray below meth c s.heap [] 0 0 (MQ below Qc av.toArray s mc ms free) (F0 m 0 ls [])) : Met l y (.codeWith y cc maxL ret hh :: wsA) rm (va_Pc av B) Qc mc ms free := by
  refine MetFree.of_bodyS (code := cc) (maxLocals := maxL) (ret := ret) hy ?_ ?_
  · intro args s m h hn
    obtain ⟨m9, meth, c, hn9, h1, h2, h3, h4, -, h5, h6, -⟩ := Cond.codeWith_spec (atoms_spec (ws := .codeWith y cc maxL ret hh :: wsA) h _ List.mem_cons_self)
    cases hn.symm.trans hn9
    exact ⟨meth, c, h1, h2, h3, h4, h5, h6⟩
  · intro p e s m args below meth c s₁ B0 hml hP _
    obtain ⟨rfl, hB⟩ := hP
    have hh0 : s₁.heap = s.heap := by rw [B0.state]; rfl
    have hts := atoms_spec (ws := .codeWith y cc maxL ret hh :: wsA) B0.pre
    have htab := vx_table (x := y) B0 (hts _ List.mem_cons_self)
    have K : W p l e rm s m av.toArray below meth c s.heap [] 0 0 (MQ below Qc av.toArray s mc ms free) (entryFrame m av.toArray maxL) := by
      rw [lg_entry_eq]
      exact body p e s m below meth c B0.exec B0.bytes B0.returns hml (findClass_of_methodNamed B0.named) (fun w h => hts w (List.mem_cons_of_mem _ h)) B0.notSynchronized htab hB _ (lv_entry av hn)
    obtain ⟨t, a1, o, b1, b2, b3⟩ := K s₁ hh0 (Stand.of_body B0)
    exact ⟨t, o, a1, b1, b2, b3⟩
theorem rwo_i {S : Type} {post : Int32 → S → Prop} {e' : S → Nat → va_E} {aa : Array Value} (hS : va_S (AX 114 a H0.size) H0 H locs) (hP : HP D 114 a (exOf ex cL ov) H) (hE : DI 114 a) (hr : va_Run p l e R s m args below meth c H locs cells slots 0 0 (F0 m pc ls st0) rest (va_Qi post (BW D 113 a e') (AX 113 a H.size) aa) (AX 113 a H.size))
    (kk : ∀ (r : Int32) (u : S) (H1 : Heap) (locs1 : List Loc), post r u → HP D 114 a (exOf (e' u) cL ov) H1 → va_S (AX 114 a H0.size) H0 H1 locs1 → W p l e R s m args below meth c H1 locs1 cells slots Q (F0 m (pc + 3) ls (.int r :: rest))) : W p l e R s m args below meth c H locs cells slots Q (F0 m pc ls st0) :=
  va_calli hr hS (fun q _ h => AX_sub (sub := fun k => k) (fun k hk => by omega) hS.1 h) (fun q h => AX_sub (sub := fun k => k) (fun k hk => by omega) hS.1 h) (fun r u t H1 locs1 ht _ hp hB _ hk hS1 => kk r u H1 locs1 hp
    (HP.join (sub := fun k => k) (e' := e' u) hP hE (fun k hk => by omega) hk (ht ▸ hB) (fun k hk => ex_l hk) (fun j hj hq => by
      have h113 : ¬ j < 113 := fun q => hq j q rfl
      unfold exOf
      rw [if_neg h113, if_neg h113])) hS1)
theorem g_last (hexec : p.tables.exec = Jvm.exec) (hb : c.code = cc) (hK : KL D cL s) (hP : HP D 114 a (exOf ex cL ov) H) (hE : DI 114 a) (hS : va_S (AX 114 a H0.size) H0 H locs) {x : Int64} (hdg : decode cc pc = .ok (.lastore, 1))
    (kk : ∀ (H1 : Heap) (locs1 : List Loc), HP D 114 a (exOf ex cL (vp_updL ov 0 x)) H1 → va_S (AX 114 a H0.size) H0 H1 locs1 → W p l e R s m args below meth c H1 locs1 cells slots Q (F0 m (pc + 1) ls rest)) : W p l e R s m args below meth c H locs cells slots Q (F0 m pc ls (.long x :: .int 0 :: .ref (a 113) :: rest)) :=
  va_last hexec hb hK hP.l (hE.D (sz := H0.size)) hS 113 0 (by rw [wl_get (by decide)]; rfl) rfl (vp_in_nI (n := 0) (N := 1) (by decide) (by decide)) hdg (fun H1 locs1 h1 _ h3 => kk H1 locs1 (HP.set (k := 113) (by decide) rfl (fun j hj hq => by
    have h113 : j < 113 := by omega
    rw [ex_l h113, ex_l h113]) h1) h3)
theorem tx_c1 {Qa : Array Value} {A0 : Nat → Prop} {own name E0 : String} {st en hp ct : Nat} {suf : List ExceptionTableEntry} (hr : vx_Run p l e R s m args below meth c H locs cells slots 1 6 (F0 m pc ls st0) rest (QN Qa) (XP E0) (fun _ => False)) (hS : va_S A0 H0 H locs) (hown : s.vm.findClass own = some m.cls) (htab : c.exceptionTable.toList = ⟨st, en, hp, ct⟩ :: suf) (hcv : covers ⟨st, en, hp, ct⟩ pc = true) (hct : ct ≠ 0) (hts : ∀ w ∈ wsA, w.before args s = true) (hlink : Cond.classLink own ct name ∈ wsA) (hcast : va_Nw (.castable E0 name) s)
    (kk : ∀ (q : Nat) (H1 : Heap) (locs1 : List Loc), (∀ z : Nat, z < H.size → H1[z]? = H[z]?) → va_S A0 H0 H1 locs1 → W p l e R s m args below meth c H1 locs1 (cells + 1) (slots + 6) Q (F0 m hp ls [.ref q])) : W p l e R s m args below meth c H locs cells slots Q (F0 m pc ls st0) :=
  tx_catch hr hS hown [] ⟨st, en, hp, ct⟩ suf htab (fun z hz => absurd hz List.not_mem_nil) hcv hct (hts _ hlink) (va_Nw.use rfl hcast) kk
theorem tx_c2 {Qa : Array Value} {A0 : Nat → Prop} {own name nm1 E0 : String} {st en hp ct st1 en1 hp1 ct1 : Nat} {suf : List ExceptionTableEntry} (hr : vx_Run p l e R s m args below meth c H locs cells slots 1 6 (F0 m pc ls st0) rest (QN Qa) (XP E0) (fun _ => False)) (hS : va_S A0 H0 H locs) (hown : s.vm.findClass own = some m.cls) (htab : c.exceptionTable.toList = ⟨st1, en1, hp1, ct1⟩ :: ⟨st, en, hp, ct⟩ :: suf) (hct1 : ct1 ≠ 0) (hcv : covers ⟨st, en, hp, ct⟩ pc = true) (hct : ct ≠ 0) (hts : ∀ w ∈ wsA, w.before args s = true) (hlink1 : Cond.classLink own ct1 nm1 ∈ wsA) (hnc : va_Nc E0 nm1 s) (hlink : Cond.classLink own ct name ∈ wsA) (hcast : va_Nw (.castable E0 name) s)
    (kk : ∀ (q : Nat) (H1 : Heap) (locs1 : List Loc), (∀ z : Nat, z < H.size → H1[z]? = H[z]?) → va_S A0 H0 H1 locs1 → W p l e R s m args below meth c H1 locs1 (cells + 1) (slots + 6) Q (F0 m hp ls [.ref q])) : W p l e R s m args below meth c H locs cells slots Q (F0 m pc ls st0) :=
  tx_catch hr hS hown [⟨st1, en1, hp1, ct1⟩] ⟨st, en, hp, ct⟩ suf htab (fun z hz => by
    rcases List.mem_cons.mp hz with rfl | hz
    · exact Or.inr ⟨hct1, nm1, hts _ hlink1, hnc⟩
    · cases hz) hcv hct (hts _ hlink) (va_Nw.use rfl hcast) kk
theorem HP.same {nn : Nat} {e' : Nat → va_E} {H1 : Heap} (hP : HP D nn a e' H) (hq : ∀ z : Nat, z < H.size → H1[z]? = H[z]?) : HP D nn a e' H1 := hP.kept (fun k hk => hq _ (hP.lt hk))
end LH
set_option maxHeartbeats 4000000 in
set_option maxRecDepth 100000 in
theorem m_L_tick (l : Launch) (D : va_G) (cI cS cL : ClassId) (a : Nat → Nat) (s : St) (st : Nat → St) (pi : Nat → Nat) (mi po : St) (ov : Nat → Int64) (sz : Nat) (hsz : sz ≤ 6) (hs0 : mi 0 0 = nI sz) (hpi : ∀ k, k < 6 → pi k < 6) (n : Nat) (hn : 1 ≤ n ∧ n ≤ 99) (zz : Nat) : Met l yL_tick (.codeWith yL_tick cL_tick 4 (some .int) [(0, 9, 12, 13)] :: wsA) ({ frames := 5, cells := 0, slots := 0, locals := 107 } : Room) (va_Pc [.ref (a 112), .int (nI n), .ref (a 113)] (PO D cI cS cL 114 a (exOf (exC cI cS a s st pi mi po) cL ov) zz)) (va_Qi (fun (r : Int32) (u : Unit) => r = 0) (BW D 114 a (fun u => (exOf (exC cI cS a (ticksS n s) (va_up st (svPi pi sz (svQ sz) + 1) s) (svPi pi sz) (up2 mi 0 0 (nI (svQ sz + 1))) po) cL (vp_updL ov 0 (ticksA n s).toInt64)))) (AX 114 a zz)) 0 0 (AX 114 a zz) := by
  refine mgl (by decide) (Nat.le_of_ble_eq_true rfl) ?_
  intro p e z m below meth c hx hb hr hml hown hts hlocks htab hB ls hl
  obtain ⟨hsz, hP, hK, hE, hKL, hX⟩ := hB
  subst hsz
  have hS : va_S (AX 114 a z.heap.size) z.heap z.heap [] := va_S.rf
  have hl : lv_has ls 4 [(0, .ref (a 112)), (1, .int (nI n)), (2, .ref (a 113))] := hl
  refine lv_aload_n hx hb dL_tick_0 rfl (lv_at hl 2 rfl) ?_
  refine lv_iconst (v := 0) hx hb dL_tick_1 (by decide) ?_
  refine lv_aload_n hx hb dL_tick_2 rfl (lv_at hl 0 rfl) ?_
  refine lv_iload_n hx hb dL_tick_3 rfl (lv_at hl 1 rfl) ?_
  refine rwo_i hS hP hE (va_runV (As := [.int (nI n)]) (rest := [.int 0, .ref (a 113)]) ⟨hx, hb, hml, hown, hts⟩ (m_X6_tick l D cI cS a s st pi mi po sz hsz hs0 hpi n hn _) (cwV 1 hts (gV tw549 tw546 tw547 tw548 tw1) rfl rfl rfl (by decide +kernel) ⟨Nat.le_of_ble_eq_true rfl, Nat.le_of_ble_eq_true rfl⟩) (pvW' 112 rfl hK hP (by decide) rfl rfl (exO_s hP) (DI_s hE)) rfl rfl hl.1 rfl (lv_room (Nat.le_of_ble_eq_true rfl)) dL_tick_4 ⟨Nat.le_of_ble_eq_true rfl, Nat.le_of_ble_eq_true rfl⟩) (fun r9 u H locs hr9 hP hS => ?_)
  refine lv_i2l hx hb dL_tick_7 rfl ?_
  refine g_last hx hb hKL hP hE hS dL_tick_8 (fun H locs hP hS => ?_)
  refine lv_goto (tgt := 15) hx hb dL_tick_9 (by decide) ?_
  refine lv_iconst (v := 0) hx hb dL_tick_15 (by decide) ?_
  have hP := hP.cast (e' := (exOf (exC cI cS a (ticksS n s) (va_up st (svPi pi sz (svQ sz) + 1) s) (svPi pi sz) (up2 mi 0 0 (nI (svQ sz + 1))) po) cL (vp_updL ov 0 (ticksA n s).toInt64))) (by rw [hr9])
  exact rw_ir hx hb hr rfl hlocks hS u hP rfl dL_tick_16

set_option maxHeartbeats 4000000 in
set_option maxRecDepth 100000 in
theorem mt_L_tick (l : Launch) (hst : l.stackTraces = false) (D : va_G) (cI cS cL : ClassId) (a : Nat → Nat) (s : St) (st : Nat → St) (pi : Nat → Nat) (mi po : St) (ov : Nat → Int64) (x : Int32) (hx9 : ¬ witB x 1 99) (zz : Nat) : Met l yL_tick (.codeWith yL_tick cL_tick 4 (some .int) [(0, 9, 12, 13)] :: wsA) ({ frames := 7, cells := 1, slots := 6, locals := 103 } : Room) (va_Pc [.ref (a 112), .int x, .ref (a 113)] (PO D cI cS cL 114 a (exOf (exC cI cS a s st pi mi po) cL ov) zz)) (va_Qi (fun (r : Int32) (u : Unit) => r = 1) (BW D 114 a (fun u => (exOf (exC cI cS a s st pi mi po) cL ov))) (AX 114 a zz)) 1 6 (AX 114 a zz) := by
  refine mgl (by decide) (Nat.le_of_ble_eq_true rfl) ?_
  intro p e z m below meth c hx hb hr hml hown hts hlocks htab hB ls hl
  obtain ⟨hsz, hP, hK, hE, hKL, hX⟩ := hB
  subst hsz
  have hS : va_S (AX 114 a z.heap.size) z.heap z.heap [] := va_S.rf
  have hl : lv_has ls 4 [(0, .ref (a 112)), (1, .int x), (2, .ref (a 113))] := hl
  refine lv_aload_n hx hb dL_tick_0 rfl (lv_at hl 2 rfl) ?_
  refine lv_iconst (v := 0) hx hb dL_tick_1 (by decide) ?_
  refine lv_aload_n hx hb dL_tick_2 rfl (lv_at hl 0 rfl) ?_
  refine lv_iload_n hx hb dL_tick_3 rfl (lv_at hl 1 rfl) ?_
  refine tx_c1 (vx_runV (As := [.int x]) (rest := [.int 0, .ref (a 113)]) ⟨hx, hb, hml, hown, hts⟩ (mt_X6_tick l a hst x hx9) (cwV 1 hts (gV tw549 tw546 tw547 tw548 tw1) rfl rfl rfl (by decide +kernel) ⟨Nat.le_of_ble_eq_true rfl, Nat.le_of_ble_eq_true rfl⟩) (pvX0 112 hK hP hX (by decide) rfl rfl) rfl rfl hl.1 rfl (lv_room (Nat.le_of_ble_eq_true rfl)) dL_tick_4 ⟨Nat.le_of_ble_eq_true rfl, Nat.le_of_ble_eq_true rfl⟩) hS hown htab (by decide) (by decide) hts tw545 (hX.1.2.1 _ (by decide)) (fun q9 H locs hq9 hS => ?_)
  have hP : HP D 114 a (exOf (exC cI cS a s st pi mi po) cL ov) H := hP.same hq9
  refine lv_astore_n (lv' := [(3, .ref q9), (0, .ref (a 112)), (1, .int x), (2, .ref (a 113))]) hx hb dL_tick_12 rfl hl (by decide) rfl (fun ls hl => ?_)
  refine lv_iconst (v := 1) hx hb dL_tick_13 (by decide) ?_
  exact rw_ir hx hb hr rfl hlocks hS () hP rfl dL_tick_14

set_option maxHeartbeats 4000000 in
set_option maxRecDepth 100000 in
theorem m_L_vote (l : Launch) (D : va_G) (cI cS cL : ClassId) (a : Nat → Nat) (s : St) (st : Nat → St) (pi : Nat → Nat) (mi po : St) (ov : Nat → Int64) (sz : Nat) (hsz : sz ≤ 6) (hs0 : mi 0 0 = nI sz) (hpi : ∀ k, k < 6 → pi k < 6) (hw0 : ¬ sumN (s 7) 7 = 0) (zz : Nat) : Met l yL_vote (.codeWith yL_vote cL_vote 3 (some .int) [(0, 8, 11, 19)] :: wsA) ({ frames := 6, cells := 0, slots := 0, locals := 130 } : Room) (va_Pc [.ref (a 112), .ref (a 113)] (PO D cI cS cL 114 a (exOf (exC cI cS a s st pi mi po) cL ov) zz)) (va_Qi (fun (r : Int32) (u : St) => r = 0) (BW D 114 a (fun u => (exOf (exC cI cS a (voteS s) (va_up st (svPi pi sz (svQ sz) + 1) s) (svPi pi sz) (up2 mi 0 0 (nI (svQ sz + 1))) u) cL (vp_updL ov 0 (voteS s 0 1).toInt64)))) (AX 114 a zz)) 0 0 (AX 114 a zz) := by
  refine mgl (by decide) (Nat.le_of_ble_eq_true rfl) ?_
  intro p e z m below meth c hx hb hr hml hown hts hlocks htab hB ls hl
  obtain ⟨hsz, hP, hK, hE, hKL, hX⟩ := hB
  subst hsz
  have hS : va_S (AX 114 a z.heap.size) z.heap z.heap [] := va_S.rf
  have hl : lv_has ls 3 [(0, .ref (a 112)), (1, .ref (a 113))] := hl
  refine lv_aload_n hx hb dL_vote_0 rfl (lv_at hl 1 rfl) ?_
  refine lv_iconst (v := 0) hx hb dL_vote_1 (by decide) ?_
  refine lv_aload_n hx hb dL_vote_2 rfl (lv_at hl 0 rfl) ?_
  refine rwo_i hS hP hE (va_runV (As := []) (rest := [.int 0, .ref (a 113)]) ⟨hx, hb, hml, hown, hts⟩ (m_X6_vote l D cI cS a s st pi mi po sz hsz hs0 hpi hw0 _) (cwV 0 hts (gV tw566 tw563 tw564 tw565 tw1) rfl rfl rfl (by decide +kernel) ⟨Nat.le_of_ble_eq_true rfl, Nat.le_of_ble_eq_true rfl⟩) (pvW' 112 rfl hK hP (by decide) rfl rfl (exO_s hP) (DI_s hE)) rfl rfl hl.1 rfl (lv_room (Nat.le_of_ble_eq_true rfl)) dL_vote_3 ⟨Nat.le_of_ble_eq_true rfl, Nat.le_of_ble_eq_true rfl⟩) (fun r9 u H locs hr9 hP hS => ?_)
  refine lv_i2l hx hb dL_vote_6 rfl ?_
  refine g_last hx hb hKL hP hE hS dL_vote_7 (fun H locs hP hS => ?_)
  refine lv_goto (tgt := 14) hx hb dL_vote_8 (by decide) ?_
  refine lv_iconst (v := 0) hx hb dL_vote_14 (by decide) ?_
  have hP := hP.cast (e' := (exOf (exC cI cS a (voteS s) (va_up st (svPi pi sz (svQ sz) + 1) s) (svPi pi sz) (up2 mi 0 0 (nI (svQ sz + 1))) u) cL (vp_updL ov 0 (voteS s 0 1).toInt64))) (by rw [hr9])
  exact rw_ir hx hb hr rfl hlocks hS u hP rfl dL_vote_15

set_option maxHeartbeats 4000000 in
set_option maxRecDepth 100000 in
theorem mt_L_vote (l : Launch) (hst : l.stackTraces = false) (D : va_G) (cI cS cL : ClassId) (a : Nat → Nat) (s : St) (st : Nat → St) (pi : Nat → Nat) (mi po : St) (ov : Nat → Int64) (hw0 : sumN (s 7) 7 = 0) (zz : Nat) : Met l yL_vote (.codeWith yL_vote cL_vote 3 (some .int) [(0, 8, 11, 19)] :: wsA) ({ frames := 7, cells := 1, slots := 6, locals := 102 } : Room) (va_Pc [.ref (a 112), .ref (a 113)] (PO D cI cS cL 114 a (exOf (exC cI cS a s st pi mi po) cL ov) zz)) (va_Qi (fun (r : Int32) (u : Unit) => r = 1) (BW D 114 a (fun u => (exOf (exC cI cS a s st pi mi po) cL ov))) (AX 114 a zz)) 1 6 (AX 114 a zz) := by
  refine mgl (by decide) (Nat.le_of_ble_eq_true rfl) ?_
  intro p e z m below meth c hx hb hr hml hown hts hlocks htab hB ls hl
  obtain ⟨hsz, hP, hK, hE, hKL, hX⟩ := hB
  subst hsz
  have hS : va_S (AX 114 a z.heap.size) z.heap z.heap [] := va_S.rf
  have hl : lv_has ls 3 [(0, .ref (a 112)), (1, .ref (a 113))] := hl
  refine lv_aload_n hx hb dL_vote_0 rfl (lv_at hl 1 rfl) ?_
  refine lv_iconst (v := 0) hx hb dL_vote_1 (by decide) ?_
  refine lv_aload_n hx hb dL_vote_2 rfl (lv_at hl 0 rfl) ?_
  refine tx_c1 (vx_runV (As := []) (rest := [.int 0, .ref (a 113)]) ⟨hx, hb, hml, hown, hts⟩ (mt_X6_vote l D cI cS a s st pi mi po hst hw0) (cwV 0 hts (gV tw566 tw563 tw564 tw565 tw1) rfl rfl rfl (by decide +kernel) ⟨Nat.le_of_ble_eq_true rfl, Nat.le_of_ble_eq_true rfl⟩) (pvXE 112 hK hP (exO_s hP) hX (by decide) rfl rfl) rfl rfl hl.1 rfl (lv_room (Nat.le_of_ble_eq_true rfl)) dL_vote_3 ⟨Nat.le_of_ble_eq_true rfl, Nat.le_of_ble_eq_true rfl⟩) hS hown htab (by decide) (by decide) hts tw562 (hX.1.2.1 _ (by decide)) (fun q9 H locs hq9 hS => ?_)
  have hP : HP D 114 a (exOf (exC cI cS a s st pi mi po) cL ov) H := hP.same hq9
  refine lv_astore_n (lv' := [(2, .ref q9), (0, .ref (a 112)), (1, .ref (a 113))]) hx hb dL_vote_11 rfl hl (by decide) rfl (fun ls hl => ?_)
  refine lv_iconst (v := 1) hx hb dL_vote_12 (by decide) ?_
  exact rw_ir hx hb hr rfl hlocks hS () hP rfl dL_vote_13

set_option maxHeartbeats 4000000 in
set_option maxRecDepth 100000 in
theorem m_L_put (l : Launch) (D : va_G) (cI cS cL : ClassId) (a : Nat → Nat) (s : St) (st : Nat → St) (pi : Nat → Nat) (mi po : St) (ov : Nat → Int64) (sz : Nat) (hsz : sz ≤ 6) (hs0 : mi 0 0 = nI sz) (hpi : ∀ k, k < 6 → pi k < 6) (d : Nat) (hd : d < 7) (y : Int32) (hy0 : ¬ y < 0) (hy9 : y ≤ 99999) (zz : Nat) : Met l yL_put (.codeWith yL_put cL_put 5 (some .int) [(0, 10, 13, 25), (0, 10, 17, 13)] :: wsA) ({ frames := 5, cells := 0, slots := 0, locals := 109 } : Room) (va_Pc [.ref (a 112), .int (nI d), .int y, .ref (a 113)] (PO D cI cS cL 114 a (exOf (exC cI cS a s st pi mi po) cL ov) zz)) (va_Qi (fun (r : Int32) (u : Unit) => r = 0) (BW D 114 a (fun u => (exOf (exC cI cS a (mvS s d y) (va_up st (svPi pi sz (svQ sz) + 1) s) (svPi pi sz) (up2 mi 0 0 (nI (svQ sz + 1))) po) cL (vp_updL ov 0 (s 1 d).toInt64)))) (AX 114 a zz)) 0 0 (AX 114 a zz) := by
  refine mgl (by decide) (Nat.le_of_ble_eq_true rfl) ?_
  intro p e z m below meth c hx hb hr hml hown hts hlocks htab hB ls hl
  obtain ⟨hsz, hP, hK, hE, hKL, hX⟩ := hB
  subst hsz
  have hS : va_S (AX 114 a z.heap.size) z.heap z.heap [] := va_S.rf
  have hl : lv_has ls 5 [(0, .ref (a 112)), (1, .int (nI d)), (2, .int y), (3, .ref (a 113))] := hl
  refine lv_aload_n hx hb dL_put_0 rfl (lv_at hl 3 rfl) ?_
  refine lv_iconst (v := 0) hx hb dL_put_1 (by decide) ?_
  refine lv_aload_n hx hb dL_put_2 rfl (lv_at hl 0 rfl) ?_
  refine lv_iload_n hx hb dL_put_3 rfl (lv_at hl 1 rfl) ?_
  refine lv_iload_n hx hb dL_put_4 rfl (lv_at hl 2 rfl) ?_
  refine rwo_i hS hP hE (va_runV (As := [.int (nI d), .int y]) (rest := [.int 0, .ref (a 113)]) ⟨hx, hb, hml, hown, hts⟩ (m_X6_put l D cI cS a s st pi mi po sz hsz hs0 hpi d hd y hy0 hy9 _) (cwV 2 hts (gV tw610 tw607 tw608 tw609 tw1) rfl rfl rfl (by decide +kernel) ⟨Nat.le_of_ble_eq_true rfl, Nat.le_of_ble_eq_true rfl⟩) (pvW' 112 rfl hK hP (by decide) rfl rfl (exO_s hP) (DI_s hE)) rfl rfl hl.1 rfl (lv_room (Nat.le_of_ble_eq_true rfl)) dL_put_5 ⟨Nat.le_of_ble_eq_true rfl, Nat.le_of_ble_eq_true rfl⟩) (fun r9 u H locs hr9 hP hS => ?_)
  refine lv_i2l hx hb dL_put_8 rfl ?_
  refine g_last hx hb hKL hP hE hS dL_put_9 (fun H locs hP hS => ?_)
  refine lv_goto (tgt := 21) hx hb dL_put_10 (by decide) ?_
  refine lv_iconst (v := 0) hx hb dL_put_21 (by decide) ?_
  have hP := hP.cast (e' := (exOf (exC cI cS a (mvS s d y) (va_up st (svPi pi sz (svQ sz) + 1) s) (svPi pi sz) (up2 mi 0 0 (nI (svQ sz + 1))) po) cL (vp_updL ov 0 (s 1 d).toInt64))) (by rw [hr9])
  exact rw_ir hx hb hr rfl hlocks hS u hP rfl dL_put_22

set_option maxHeartbeats 4000000 in
set_option maxRecDepth 100000 in
theorem mt_L_put (l : Launch) (hst : l.stackTraces = false) (D : va_G) (cI cS cL : ClassId) (a : Nat → Nat) (s : St) (st : Nat → St) (pi : Nat → Nat) (mi po : St) (ov : Nat → Int64) (x y : Int32) (hx9 : ¬ witB x 0 6) (zz : Nat) : Met l yL_put (.codeWith yL_put cL_put 5 (some .int) [(0, 10, 13, 25), (0, 10, 17, 13)] :: wsA) ({ frames := 8, cells := 1, slots := 6, locals := 125 } : Room) (va_Pc [.ref (a 112), .int x, .int y, .ref (a 113)] (PO D cI cS cL 114 a (exOf (exC cI cS a s st pi mi po) cL ov) zz)) (va_Qi (fun (r : Int32) (u : Unit) => r = 1) (BW D 114 a (fun u => (exOf (exC cI cS a s st pi mi po) cL ov))) (AX 114 a zz)) 1 6 (AX 114 a zz) := by
  refine mgl (by decide) (Nat.le_of_ble_eq_true rfl) ?_
  intro p e z m below meth c hx hb hr hml hown hts hlocks htab hB ls hl
  obtain ⟨hsz, hP, hK, hE, hKL, hX⟩ := hB
  subst hsz
  have hS : va_S (AX 114 a z.heap.size) z.heap z.heap [] := va_S.rf
  have hl : lv_has ls 5 [(0, .ref (a 112)), (1, .int x), (2, .int y), (3, .ref (a 113))] := hl
  refine lv_aload_n hx hb dL_put_0 rfl (lv_at hl 3 rfl) ?_
  refine lv_iconst (v := 0) hx hb dL_put_1 (by decide) ?_
  refine lv_aload_n hx hb dL_put_2 rfl (lv_at hl 0 rfl) ?_
  refine lv_iload_n hx hb dL_put_3 rfl (lv_at hl 1 rfl) ?_
  refine lv_iload_n hx hb dL_put_4 rfl (lv_at hl 2 rfl) ?_
  refine tx_c1 (vx_runV (As := [.int x, .int y]) (rest := [.int 0, .ref (a 113)]) ⟨hx, hb, hml, hown, hts⟩ (mt_X6_put l a hst x y hx9) (cwV 2 hts (gV tw610 tw607 tw608 tw609 tw1) rfl rfl rfl (by decide +kernel) ⟨Nat.le_of_ble_eq_true rfl, Nat.le_of_ble_eq_true rfl⟩) (pvX0 112 hK hP hX (by decide) rfl rfl) rfl rfl hl.1 rfl (lv_room (Nat.le_of_ble_eq_true rfl)) dL_put_5 ⟨Nat.le_of_ble_eq_true rfl, Nat.le_of_ble_eq_true rfl⟩) hS hown htab (by decide) (by decide) hts tw606 (hX.1.2.1 _ (by decide)) (fun q9 H locs hq9 hS => ?_)
  have hP : HP D 114 a (exOf (exC cI cS a s st pi mi po) cL ov) H := hP.same hq9
  refine lv_astore (lv' := [(4, .ref q9), (0, .ref (a 112)), (1, .int x), (2, .int y), (3, .ref (a 113))]) hx hb dL_put_13 hl (by decide) rfl (fun ls hl => ?_)
  refine lv_iconst (v := 1) hx hb dL_put_15 (by decide) ?_
  exact rw_ir hx hb hr rfl hlocks hS () hP rfl dL_put_16

set_option maxHeartbeats 4000000 in
set_option maxRecDepth 100000 in
theorem mt2_L_put (l : Launch) (hst : l.stackTraces = false) (D : va_G) (cI cS cL : ClassId) (a : Nat → Nat) (s : St) (st : Nat → St) (pi : Nat → Nat) (mi po : St) (ov : Nat → Int64) (d : Nat) (hd : d < 7) (x : Int32) (hx9 : ¬ witB x 0 99999) (zz : Nat) : Met l yL_put (.codeWith yL_put cL_put 5 (some .int) [(0, 10, 13, 25), (0, 10, 17, 13)] :: wsA) ({ frames := 7, cells := 1, slots := 6, locals := 105 } : Room) (va_Pc [.ref (a 112), .int (nI d), .int x, .ref (a 113)] (PO D cI cS cL 114 a (exOf (exC cI cS a s st pi mi po) cL ov) zz)) (va_Qi (fun (r : Int32) (u : Unit) => r = 2) (BW D 114 a (fun u => (exOf (exC cI cS a s st pi mi po) cL ov))) (AX 114 a zz)) 1 6 (AX 114 a zz) := by
  refine mgl (by decide) (Nat.le_of_ble_eq_true rfl) ?_
  intro p e z m below meth c hx hb hr hml hown hts hlocks htab hB ls hl
  obtain ⟨hsz, hP, hK, hE, hKL, hX⟩ := hB
  subst hsz
  have hS : va_S (AX 114 a z.heap.size) z.heap z.heap [] := va_S.rf
  have hl : lv_has ls 5 [(0, .ref (a 112)), (1, .int (nI d)), (2, .int x), (3, .ref (a 113))] := hl
  refine lv_aload_n hx hb dL_put_0 rfl (lv_at hl 3 rfl) ?_
  refine lv_iconst (v := 0) hx hb dL_put_1 (by decide) ?_
  refine lv_aload_n hx hb dL_put_2 rfl (lv_at hl 0 rfl) ?_
  refine lv_iload_n hx hb dL_put_3 rfl (lv_at hl 1 rfl) ?_
  refine lv_iload_n hx hb dL_put_4 rfl (lv_at hl 2 rfl) ?_
  refine tx_c2 (vx_runV (As := [.int (nI d), .int x]) (rest := [.int 0, .ref (a 113)]) ⟨hx, hb, hml, hown, hts⟩ (mt2_X6_put l a hst d hd x hx9) (cwV 2 hts (gV tw610 tw607 tw608 tw609 tw1) rfl rfl rfl (by decide +kernel) ⟨Nat.le_of_ble_eq_true rfl, Nat.le_of_ble_eq_true rfl⟩) (pvX0 112 hK hP hX (by decide) rfl rfl) rfl rfl hl.1 rfl (lv_room (Nat.le_of_ble_eq_true rfl)) dL_put_5 ⟨Nat.le_of_ble_eq_true rfl, Nat.le_of_ble_eq_true rfl⟩) hS hown htab (by decide) (by decide) (by decide) hts tw606 hX.1.2.2.1 tw545 (hX.1.2.1 _ (by decide)) (fun q9 H locs hq9 hS => ?_)
  have hP : HP D 114 a (exOf (exC cI cS a s st pi mi po) cL ov) H := hP.same hq9
  refine lv_astore (lv' := [(4, .ref q9), (0, .ref (a 112)), (1, .int (nI d)), (2, .int x), (3, .ref (a 113))]) hx hb dL_put_17 hl (by decide) rfl (fun ls hl => ?_)
  refine lv_iconst (v := 2) hx hb dL_put_19 (by decide) ?_
  exact rw_ir hx hb hr rfl hlocks hS () hP rfl dL_put_20

set_option maxHeartbeats 4000000 in
set_option maxRecDepth 100000 in
theorem m_L_drift (l : Launch) (D : va_G) (cI cS cL : ClassId) (a : Nat → Nat) (s : St) (st : Nat → St) (pi : Nat → Nat) (mi po : St) (ov : Nat → Int64) (sz : Nat) (hsz : sz ≤ 6) (hs0 : mi 0 0 = nI sz) (hpi : ∀ k, k < 6 → pi k < 6) (d : Nat) (hd : d < 7) (y : Int32) (hy0 : ¬ y < (-5)) (hy9 : y ≤ 5) (zz : Nat) : Met l yL_drift (.codeWith yL_drift cL_drift 5 (some .int) [(0, 10, 13, 25), (0, 10, 17, 13)] :: wsA) ({ frames := 5, cells := 0, slots := 0, locals := 109 } : Room) (va_Pc [.ref (a 112), .int (nI d), .int y, .ref (a 113)] (PO D cI cS cL 114 a (exOf (exC cI cS a s st pi mi po) cL ov) zz)) (va_Qi (fun (r : Int32) (u : Unit) => r = 0) (BW D 114 a (fun u => (exOf (exC cI cS a (up2 s 2 d y) (va_up st (svPi pi sz (svQ sz) + 1) s) (svPi pi sz) (up2 mi 0 0 (nI (svQ sz + 1))) po) cL (vp_updL ov 0 (s 2 d).toInt64)))) (AX 114 a zz)) 0 0 (AX 114 a zz) := by
  refine mgl (by decide) (Nat.le_of_ble_eq_true rfl) ?_
  intro p e z m below meth c hx hb hr hml hown hts hlocks htab hB ls hl
  obtain ⟨hsz, hP, hK, hE, hKL, hX⟩ := hB
  subst hsz
  have hS : va_S (AX 114 a z.heap.size) z.heap z.heap [] := va_S.rf
  have hl : lv_has ls 5 [(0, .ref (a 112)), (1, .int (nI d)), (2, .int y), (3, .ref (a 113))] := hl
  refine lv_aload_n hx hb dL_drift_0 rfl (lv_at hl 3 rfl) ?_
  refine lv_iconst (v := 0) hx hb dL_drift_1 (by decide) ?_
  refine lv_aload_n hx hb dL_drift_2 rfl (lv_at hl 0 rfl) ?_
  refine lv_iload_n hx hb dL_drift_3 rfl (lv_at hl 1 rfl) ?_
  refine lv_iload_n hx hb dL_drift_4 rfl (lv_at hl 2 rfl) ?_
  refine rwo_i hS hP hE (va_runV (As := [.int (nI d), .int y]) (rest := [.int 0, .ref (a 113)]) ⟨hx, hb, hml, hown, hts⟩ (m_X6_drift l D cI cS a s st pi mi po sz hsz hs0 hpi d hd y hy0 hy9 _) (cwV 2 hts (gV tw620 tw617 tw618 tw619 tw1) rfl rfl rfl (by decide +kernel) ⟨Nat.le_of_ble_eq_true rfl, Nat.le_of_ble_eq_true rfl⟩) (pvW' 112 rfl hK hP (by decide) rfl rfl (exO_s hP) (DI_s hE)) rfl rfl hl.1 rfl (lv_room (Nat.le_of_ble_eq_true rfl)) dL_drift_5 ⟨Nat.le_of_ble_eq_true rfl, Nat.le_of_ble_eq_true rfl⟩) (fun r9 u H locs hr9 hP hS => ?_)
  refine lv_i2l hx hb dL_drift_8 rfl ?_
  refine g_last hx hb hKL hP hE hS dL_drift_9 (fun H locs hP hS => ?_)
  refine lv_goto (tgt := 21) hx hb dL_drift_10 (by decide) ?_
  refine lv_iconst (v := 0) hx hb dL_drift_21 (by decide) ?_
  have hP := hP.cast (e' := (exOf (exC cI cS a (up2 s 2 d y) (va_up st (svPi pi sz (svQ sz) + 1) s) (svPi pi sz) (up2 mi 0 0 (nI (svQ sz + 1))) po) cL (vp_updL ov 0 (s 2 d).toInt64))) (by rw [hr9])
  exact rw_ir hx hb hr rfl hlocks hS u hP rfl dL_drift_22

set_option maxHeartbeats 4000000 in
set_option maxRecDepth 100000 in
theorem mt_L_drift (l : Launch) (hst : l.stackTraces = false) (D : va_G) (cI cS cL : ClassId) (a : Nat → Nat) (s : St) (st : Nat → St) (pi : Nat → Nat) (mi po : St) (ov : Nat → Int64) (x y : Int32) (hx9 : ¬ witB x 0 6) (zz : Nat) : Met l yL_drift (.codeWith yL_drift cL_drift 5 (some .int) [(0, 10, 13, 25), (0, 10, 17, 13)] :: wsA) ({ frames := 8, cells := 1, slots := 6, locals := 125 } : Room) (va_Pc [.ref (a 112), .int x, .int y, .ref (a 113)] (PO D cI cS cL 114 a (exOf (exC cI cS a s st pi mi po) cL ov) zz)) (va_Qi (fun (r : Int32) (u : Unit) => r = 1) (BW D 114 a (fun u => (exOf (exC cI cS a s st pi mi po) cL ov))) (AX 114 a zz)) 1 6 (AX 114 a zz) := by
  refine mgl (by decide) (Nat.le_of_ble_eq_true rfl) ?_
  intro p e z m below meth c hx hb hr hml hown hts hlocks htab hB ls hl
  obtain ⟨hsz, hP, hK, hE, hKL, hX⟩ := hB
  subst hsz
  have hS : va_S (AX 114 a z.heap.size) z.heap z.heap [] := va_S.rf
  have hl : lv_has ls 5 [(0, .ref (a 112)), (1, .int x), (2, .int y), (3, .ref (a 113))] := hl
  refine lv_aload_n hx hb dL_drift_0 rfl (lv_at hl 3 rfl) ?_
  refine lv_iconst (v := 0) hx hb dL_drift_1 (by decide) ?_
  refine lv_aload_n hx hb dL_drift_2 rfl (lv_at hl 0 rfl) ?_
  refine lv_iload_n hx hb dL_drift_3 rfl (lv_at hl 1 rfl) ?_
  refine lv_iload_n hx hb dL_drift_4 rfl (lv_at hl 2 rfl) ?_
  refine tx_c1 (vx_runV (As := [.int x, .int y]) (rest := [.int 0, .ref (a 113)]) ⟨hx, hb, hml, hown, hts⟩ (mt_X6_drift l a hst x y hx9) (cwV 2 hts (gV tw620 tw617 tw618 tw619 tw1) rfl rfl rfl (by decide +kernel) ⟨Nat.le_of_ble_eq_true rfl, Nat.le_of_ble_eq_true rfl⟩) (pvX0 112 hK hP hX (by decide) rfl rfl) rfl rfl hl.1 rfl (lv_room (Nat.le_of_ble_eq_true rfl)) dL_drift_5 ⟨Nat.le_of_ble_eq_true rfl, Nat.le_of_ble_eq_true rfl⟩) hS hown htab (by decide) (by decide) hts tw606 (hX.1.2.1 _ (by decide)) (fun q9 H locs hq9 hS => ?_)
  have hP : HP D 114 a (exOf (exC cI cS a s st pi mi po) cL ov) H := hP.same hq9
  refine lv_astore (lv' := [(4, .ref q9), (0, .ref (a 112)), (1, .int x), (2, .int y), (3, .ref (a 113))]) hx hb dL_drift_13 hl (by decide) rfl (fun ls hl => ?_)
  refine lv_iconst (v := 1) hx hb dL_drift_15 (by decide) ?_
  exact rw_ir hx hb hr rfl hlocks hS () hP rfl dL_drift_16

set_option maxHeartbeats 4000000 in
set_option maxRecDepth 100000 in
theorem mt2_L_drift (l : Launch) (hst : l.stackTraces = false) (D : va_G) (cI cS cL : ClassId) (a : Nat → Nat) (s : St) (st : Nat → St) (pi : Nat → Nat) (mi po : St) (ov : Nat → Int64) (d : Nat) (hd : d < 7) (x : Int32) (hx9 : ¬ witB x (-5) 5) (zz : Nat) : Met l yL_drift (.codeWith yL_drift cL_drift 5 (some .int) [(0, 10, 13, 25), (0, 10, 17, 13)] :: wsA) ({ frames := 7, cells := 1, slots := 6, locals := 105 } : Room) (va_Pc [.ref (a 112), .int (nI d), .int x, .ref (a 113)] (PO D cI cS cL 114 a (exOf (exC cI cS a s st pi mi po) cL ov) zz)) (va_Qi (fun (r : Int32) (u : Unit) => r = 2) (BW D 114 a (fun u => (exOf (exC cI cS a s st pi mi po) cL ov))) (AX 114 a zz)) 1 6 (AX 114 a zz) := by
  refine mgl (by decide) (Nat.le_of_ble_eq_true rfl) ?_
  intro p e z m below meth c hx hb hr hml hown hts hlocks htab hB ls hl
  obtain ⟨hsz, hP, hK, hE, hKL, hX⟩ := hB
  subst hsz
  have hS : va_S (AX 114 a z.heap.size) z.heap z.heap [] := va_S.rf
  have hl : lv_has ls 5 [(0, .ref (a 112)), (1, .int (nI d)), (2, .int x), (3, .ref (a 113))] := hl
  refine lv_aload_n hx hb dL_drift_0 rfl (lv_at hl 3 rfl) ?_
  refine lv_iconst (v := 0) hx hb dL_drift_1 (by decide) ?_
  refine lv_aload_n hx hb dL_drift_2 rfl (lv_at hl 0 rfl) ?_
  refine lv_iload_n hx hb dL_drift_3 rfl (lv_at hl 1 rfl) ?_
  refine lv_iload_n hx hb dL_drift_4 rfl (lv_at hl 2 rfl) ?_
  refine tx_c2 (vx_runV (As := [.int (nI d), .int x]) (rest := [.int 0, .ref (a 113)]) ⟨hx, hb, hml, hown, hts⟩ (mt2_X6_drift l a hst d hd x hx9) (cwV 2 hts (gV tw620 tw617 tw618 tw619 tw1) rfl rfl rfl (by decide +kernel) ⟨Nat.le_of_ble_eq_true rfl, Nat.le_of_ble_eq_true rfl⟩) (pvX0 112 hK hP hX (by decide) rfl rfl) rfl rfl hl.1 rfl (lv_room (Nat.le_of_ble_eq_true rfl)) dL_drift_5 ⟨Nat.le_of_ble_eq_true rfl, Nat.le_of_ble_eq_true rfl⟩) hS hown htab (by decide) (by decide) (by decide) hts tw606 hX.1.2.2.1 tw545 (hX.1.2.1 _ (by decide)) (fun q9 H locs hq9 hS => ?_)
  have hP : HP D 114 a (exOf (exC cI cS a s st pi mi po) cL ov) H := hP.same hq9
  refine lv_astore (lv' := [(4, .ref q9), (0, .ref (a 112)), (1, .int (nI d)), (2, .int x), (3, .ref (a 113))]) hx hb dL_drift_17 hl (by decide) rfl (fun ls hl => ?_)
  refine lv_iconst (v := 2) hx hb dL_drift_19 (by decide) ?_
  exact rw_ir hx hb hr rfl hlocks hS () hP rfl dL_drift_20

set_option maxHeartbeats 4000000 in
set_option maxRecDepth 100000 in
theorem m_L_warden (l : Launch) (D : va_G) (cI cS cL : ClassId) (a : Nat → Nat) (s : St) (st : Nat → St) (pi : Nat → Nat) (mi po : St) (ov : Nat → Int64) (sz : Nat) (hsz : sz ≤ 6) (hs0 : mi 0 0 = nI sz) (hpi : ∀ k, k < 6 → pi k < 6) (w : Nat) (hw : w < 7) (x y : Int32) (hx0 : ¬ x < 0) (hx9 : x ≤ 9) (hy0 : ¬ y < (-60)) (hy9 : y ≤ 60) (zz : Nat) : Met l yL_warden (.codeWith yL_warden cL_warden 6 (some .int) [(0, 12, 15, 25), (0, 12, 19, 13)] :: wsA) ({ frames := 5, cells := 0, slots := 0, locals := 110 } : Room) (va_Pc [.ref (a 112), .int (nI w), .int x, .int y, .ref (a 113)] (PO D cI cS cL 114 a (exOf (exC cI cS a s st pi mi po) cL ov) zz)) (va_Qi (fun (r : Int32) (u : Unit) => r = 0) (BW D 114 a (fun u => (exOf (exC cI cS a (up2 (up2 s 7 w x) 8 w y) (va_up st (svPi pi sz (svQ sz) + 1) s) (svPi pi sz) (up2 mi 0 0 (nI (svQ sz + 1))) po) cL (vp_updL ov 0 (s 7 w).toInt64)))) (AX 114 a zz)) 0 0 (AX 114 a zz) := by
  refine mgl (by decide) (Nat.le_of_ble_eq_true rfl) ?_
  intro p e z m below meth c hx hb hr hml hown hts hlocks htab hB ls hl
  obtain ⟨hsz, hP, hK, hE, hKL, hX⟩ := hB
  subst hsz
  have hS : va_S (AX 114 a z.heap.size) z.heap z.heap [] := va_S.rf
  have hl : lv_has ls 6 [(0, .ref (a 112)), (1, .int (nI w)), (2, .int x), (3, .int y), (4, .ref (a 113))] := hl
  refine lv_aload hx hb dL_warden_0 (lv_at hl 4 rfl) ?_
  refine lv_iconst (v := 0) hx hb dL_warden_2 (by decide) ?_
  refine lv_aload_n hx hb dL_warden_3 rfl (lv_at hl 0 rfl) ?_
  refine lv_iload_n hx hb dL_warden_4 rfl (lv_at hl 1 rfl) ?_
  refine lv_iload_n hx hb dL_warden_5 rfl (lv_at hl 2 rfl) ?_
  refine lv_iload_n hx hb dL_warden_6 rfl (lv_at hl 3 rfl) ?_
  refine rwo_i hS hP hE (va_runV (As := [.int (nI w), .int x, .int y]) (rest := [.int 0, .ref (a 113)]) ⟨hx, hb, hml, hown, hts⟩ (m_X6_warden l D cI cS a s st pi mi po sz hsz hs0 hpi w hw x y hx0 hx9 hy0 hy9 _) (cwV 3 hts (gV tw632 tw629 tw630 tw631 tw1) rfl rfl rfl (by decide +kernel) ⟨Nat.le_of_ble_eq_true rfl, Nat.le_of_ble_eq_true rfl⟩) (pvW' 112 rfl hK hP (by decide) rfl rfl (exO_s hP) (DI_s hE)) rfl rfl hl.1 rfl (lv_room (Nat.le_of_ble_eq_true rfl)) dL_warden_7 ⟨Nat.le_of_ble_eq_true rfl, Nat.le_of_ble_eq_true rfl⟩) (fun r9 u H locs hr9 hP hS => ?_)
  refine lv_i2l hx hb dL_warden_10 rfl ?_
  refine g_last hx hb hKL hP hE hS dL_warden_11 (fun H locs hP hS => ?_)
  refine lv_goto (tgt := 23) hx hb dL_warden_12 (by decide) ?_
  refine lv_iconst (v := 0) hx hb dL_warden_23 (by decide) ?_
  have hP := hP.cast (e' := (exOf (exC cI cS a (up2 (up2 s 7 w x) 8 w y) (va_up st (svPi pi sz (svQ sz) + 1) s) (svPi pi sz) (up2 mi 0 0 (nI (svQ sz + 1))) po) cL (vp_updL ov 0 (s 7 w).toInt64))) (by rw [hr9])
  exact rw_ir hx hb hr rfl hlocks hS u hP rfl dL_warden_24

set_option maxHeartbeats 4000000 in
set_option maxRecDepth 100000 in
theorem mt_L_warden (l : Launch) (hst : l.stackTraces = false) (D : va_G) (cI cS cL : ClassId) (a : Nat → Nat) (s : St) (st : Nat → St) (pi : Nat → Nat) (mi po : St) (ov : Nat → Int64) (x y v : Int32) (hx9 : ¬ witB x 0 6) (zz : Nat) : Met l yL_warden (.codeWith yL_warden cL_warden 6 (some .int) [(0, 12, 15, 25), (0, 12, 19, 13)] :: wsA) ({ frames := 8, cells := 1, slots := 6, locals := 126 } : Room) (va_Pc [.ref (a 112), .int x, .int y, .int v, .ref (a 113)] (PO D cI cS cL 114 a (exOf (exC cI cS a s st pi mi po) cL ov) zz)) (va_Qi (fun (r : Int32) (u : Unit) => r = 1) (BW D 114 a (fun u => (exOf (exC cI cS a s st pi mi po) cL ov))) (AX 114 a zz)) 1 6 (AX 114 a zz) := by
  refine mgl (by decide) (Nat.le_of_ble_eq_true rfl) ?_
  intro p e z m below meth c hx hb hr hml hown hts hlocks htab hB ls hl
  obtain ⟨hsz, hP, hK, hE, hKL, hX⟩ := hB
  subst hsz
  have hS : va_S (AX 114 a z.heap.size) z.heap z.heap [] := va_S.rf
  have hl : lv_has ls 6 [(0, .ref (a 112)), (1, .int x), (2, .int y), (3, .int v), (4, .ref (a 113))] := hl
  refine lv_aload hx hb dL_warden_0 (lv_at hl 4 rfl) ?_
  refine lv_iconst (v := 0) hx hb dL_warden_2 (by decide) ?_
  refine lv_aload_n hx hb dL_warden_3 rfl (lv_at hl 0 rfl) ?_
  refine lv_iload_n hx hb dL_warden_4 rfl (lv_at hl 1 rfl) ?_
  refine lv_iload_n hx hb dL_warden_5 rfl (lv_at hl 2 rfl) ?_
  refine lv_iload_n hx hb dL_warden_6 rfl (lv_at hl 3 rfl) ?_
  refine tx_c1 (vx_runV (As := [.int x, .int y, .int v]) (rest := [.int 0, .ref (a 113)]) ⟨hx, hb, hml, hown, hts⟩ (mt_X6_warden l a hst x y v hx9) (cwV 3 hts (gV tw632 tw629 tw630 tw631 tw1) rfl rfl rfl (by decide +kernel) ⟨Nat.le_of_ble_eq_true rfl, Nat.le_of_ble_eq_true rfl⟩) (pvX0 112 hK hP hX (by decide) rfl rfl) rfl rfl hl.1 rfl (lv_room (Nat.le_of_ble_eq_true rfl)) dL_warden_7 ⟨Nat.le_of_ble_eq_true rfl, Nat.le_of_ble_eq_true rfl⟩) hS hown htab (by decide) (by decide) hts tw606 (hX.1.2.1 _ (by decide)) (fun q9 H locs hq9 hS => ?_)
  have hP : HP D 114 a (exOf (exC cI cS a s st pi mi po) cL ov) H := hP.same hq9
  refine lv_astore (lv' := [(5, .ref q9), (0, .ref (a 112)), (1, .int x), (2, .int y), (3, .int v), (4, .ref (a 113))]) hx hb dL_warden_15 hl (by decide) rfl (fun ls hl => ?_)
  refine lv_iconst (v := 1) hx hb dL_warden_17 (by decide) ?_
  exact rw_ir hx hb hr rfl hlocks hS () hP rfl dL_warden_18

set_option maxHeartbeats 4000000 in
set_option maxRecDepth 100000 in
theorem mt2_L_warden (l : Launch) (hst : l.stackTraces = false) (D : va_G) (cI cS cL : ClassId) (a : Nat → Nat) (s : St) (st : Nat → St) (pi : Nat → Nat) (mi po : St) (ov : Nat → Int64) (d : Nat) (hd : d < 7) (x y : Int32) (hx9 : ¬ witB x 0 9) (zz : Nat) : Met l yL_warden (.codeWith yL_warden cL_warden 6 (some .int) [(0, 12, 15, 25), (0, 12, 19, 13)] :: wsA) ({ frames := 7, cells := 1, slots := 6, locals := 106 } : Room) (va_Pc [.ref (a 112), .int (nI d), .int x, .int y, .ref (a 113)] (PO D cI cS cL 114 a (exOf (exC cI cS a s st pi mi po) cL ov) zz)) (va_Qi (fun (r : Int32) (u : Unit) => r = 2) (BW D 114 a (fun u => (exOf (exC cI cS a s st pi mi po) cL ov))) (AX 114 a zz)) 1 6 (AX 114 a zz) := by
  refine mgl (by decide) (Nat.le_of_ble_eq_true rfl) ?_
  intro p e z m below meth c hx hb hr hml hown hts hlocks htab hB ls hl
  obtain ⟨hsz, hP, hK, hE, hKL, hX⟩ := hB
  subst hsz
  have hS : va_S (AX 114 a z.heap.size) z.heap z.heap [] := va_S.rf
  have hl : lv_has ls 6 [(0, .ref (a 112)), (1, .int (nI d)), (2, .int x), (3, .int y), (4, .ref (a 113))] := hl
  refine lv_aload hx hb dL_warden_0 (lv_at hl 4 rfl) ?_
  refine lv_iconst (v := 0) hx hb dL_warden_2 (by decide) ?_
  refine lv_aload_n hx hb dL_warden_3 rfl (lv_at hl 0 rfl) ?_
  refine lv_iload_n hx hb dL_warden_4 rfl (lv_at hl 1 rfl) ?_
  refine lv_iload_n hx hb dL_warden_5 rfl (lv_at hl 2 rfl) ?_
  refine lv_iload_n hx hb dL_warden_6 rfl (lv_at hl 3 rfl) ?_
  refine tx_c2 (vx_runV (As := [.int (nI d), .int x, .int y]) (rest := [.int 0, .ref (a 113)]) ⟨hx, hb, hml, hown, hts⟩ (mt2_X6_warden l a hst d hd x y hx9) (cwV 3 hts (gV tw632 tw629 tw630 tw631 tw1) rfl rfl rfl (by decide +kernel) ⟨Nat.le_of_ble_eq_true rfl, Nat.le_of_ble_eq_true rfl⟩) (pvX0 112 hK hP hX (by decide) rfl rfl) rfl rfl hl.1 rfl (lv_room (Nat.le_of_ble_eq_true rfl)) dL_warden_7 ⟨Nat.le_of_ble_eq_true rfl, Nat.le_of_ble_eq_true rfl⟩) hS hown htab (by decide) (by decide) (by decide) hts tw606 hX.1.2.2.1 tw545 (hX.1.2.1 _ (by decide)) (fun q9 H locs hq9 hS => ?_)
  have hP : HP D 114 a (exOf (exC cI cS a s st pi mi po) cL ov) H := hP.same hq9
  refine lv_astore (lv' := [(5, .ref q9), (0, .ref (a 112)), (1, .int (nI d)), (2, .int x), (3, .int y), (4, .ref (a 113))]) hx hb dL_warden_19 hl (by decide) rfl (fun ls hl => ?_)
  refine lv_iconst (v := 2) hx hb dL_warden_21 (by decide) ?_
  exact rw_ir hx hb hr rfl hlocks hS () hP rfl dL_warden_22

set_option maxHeartbeats 4000000 in
set_option maxRecDepth 100000 in
theorem mt3_L_warden (l : Launch) (hst : l.stackTraces = false) (D : va_G) (cI cS cL : ClassId) (a : Nat → Nat) (s : St) (st : Nat → St) (pi : Nat → Nat) (mi po : St) (ov : Nat → Int64) (d : Nat) (hd : d < 7) (y x : Int32) (hy9 : witB y 0 9) (hx9 : ¬ witB x (-60) 60) (zz : Nat) : Met l yL_warden (.codeWith yL_warden cL_warden 6 (some .int) [(0, 12, 15, 25), (0, 12, 19, 13)] :: wsA) ({ frames := 7, cells := 1, slots := 6, locals := 106 } : Room) (va_Pc [.ref (a 112), .int (nI d), .int y, .int x, .ref (a 113)] (PO D cI cS cL 114 a (exOf (exC cI cS a s st pi mi po) cL ov) zz)) (va_Qi (fun (r : Int32) (u : Unit) => r = 2) (BW D 114 a (fun u => (exOf (exC cI cS a s st pi mi po) cL ov))) (AX 114 a zz)) 1 6 (AX 114 a zz) := by
  refine mgl (by decide) (Nat.le_of_ble_eq_true rfl) ?_
  intro p e z m below meth c hx hb hr hml hown hts hlocks htab hB ls hl
  obtain ⟨hsz, hP, hK, hE, hKL, hX⟩ := hB
  subst hsz
  have hS : va_S (AX 114 a z.heap.size) z.heap z.heap [] := va_S.rf
  have hl : lv_has ls 6 [(0, .ref (a 112)), (1, .int (nI d)), (2, .int y), (3, .int x), (4, .ref (a 113))] := hl
  refine lv_aload hx hb dL_warden_0 (lv_at hl 4 rfl) ?_
  refine lv_iconst (v := 0) hx hb dL_warden_2 (by decide) ?_
  refine lv_aload_n hx hb dL_warden_3 rfl (lv_at hl 0 rfl) ?_
  refine lv_iload_n hx hb dL_warden_4 rfl (lv_at hl 1 rfl) ?_
  refine lv_iload_n hx hb dL_warden_5 rfl (lv_at hl 2 rfl) ?_
  refine lv_iload_n hx hb dL_warden_6 rfl (lv_at hl 3 rfl) ?_
  refine tx_c2 (vx_runV (As := [.int (nI d), .int y, .int x]) (rest := [.int 0, .ref (a 113)]) ⟨hx, hb, hml, hown, hts⟩ (mt3_X6_warden l a hst d hd y x hy9 hx9) (cwV 3 hts (gV tw632 tw629 tw630 tw631 tw1) rfl rfl rfl (by decide +kernel) ⟨Nat.le_of_ble_eq_true rfl, Nat.le_of_ble_eq_true rfl⟩) (pvX0 112 hK hP hX (by decide) rfl rfl) rfl rfl hl.1 rfl (lv_room (Nat.le_of_ble_eq_true rfl)) dL_warden_7 ⟨Nat.le_of_ble_eq_true rfl, Nat.le_of_ble_eq_true rfl⟩) hS hown htab (by decide) (by decide) (by decide) hts tw606 hX.1.2.2.1 tw545 (hX.1.2.1 _ (by decide)) (fun q9 H locs hq9 hS => ?_)
  have hP : HP D 114 a (exOf (exC cI cS a s st pi mi po) cL ov) H := hP.same hq9
  refine lv_astore (lv' := [(5, .ref q9), (0, .ref (a 112)), (1, .int (nI d)), (2, .int y), (3, .int x), (4, .ref (a 113))]) hx hb dL_warden_19 hl (by decide) rfl (fun ls hl => ?_)
  refine lv_iconst (v := 2) hx hb dL_warden_21 (by decide) ?_
  exact rw_ir hx hb hr rfl hlocks hS () hP rfl dL_warden_22

set_option maxHeartbeats 4000000 in
set_option maxRecDepth 100000 in
theorem m_L_set (l : Launch) (D : va_G) (cI cS cL : ClassId) (a : Nat → Nat) (s : St) (st : Nat → St) (pi : Nat → Nat) (mi po : St) (ov : Nat → Int64) (sz : Nat) (hsz : sz ≤ 6) (hs0 : mi 0 0 = nI sz) (hpi : ∀ k, k < 6 → pi k < 6) (q : Nat) (hq : q < 2) (y : Int32) (hy0 : ¬ y < 0) (hy9 : y ≤ 99) (zz : Nat) : Met l yL_set (.codeWith yL_set cL_set 5 (some .int) [(0, 10, 13, 25), (0, 10, 17, 13)] :: wsA) ({ frames := 5, cells := 0, slots := 0, locals := 109 } : Room) (va_Pc [.ref (a 112), .int (nI q), .int y, .ref (a 113)] (PO D cI cS cL 114 a (exOf (exC cI cS a s st pi mi po) cL ov) zz)) (va_Qi (fun (r : Int32) (u : Unit) => r = 0) (BW D 114 a (fun u => (exOf (exC cI cS a (up2 s 10 q y) (va_up st (svPi pi sz (svQ sz) + 1) s) (svPi pi sz) (up2 mi 0 0 (nI (svQ sz + 1))) po) cL (vp_updL ov 0 (s 10 q).toInt64)))) (AX 114 a zz)) 0 0 (AX 114 a zz) := by
  refine mgl (by decide) (Nat.le_of_ble_eq_true rfl) ?_
  intro p e z m below meth c hx hb hr hml hown hts hlocks htab hB ls hl
  obtain ⟨hsz, hP, hK, hE, hKL, hX⟩ := hB
  subst hsz
  have hS : va_S (AX 114 a z.heap.size) z.heap z.heap [] := va_S.rf
  have hl : lv_has ls 5 [(0, .ref (a 112)), (1, .int (nI q)), (2, .int y), (3, .ref (a 113))] := hl
  refine lv_aload_n hx hb dL_set_0 rfl (lv_at hl 3 rfl) ?_
  refine lv_iconst (v := 0) hx hb dL_set_1 (by decide) ?_
  refine lv_aload_n hx hb dL_set_2 rfl (lv_at hl 0 rfl) ?_
  refine lv_iload_n hx hb dL_set_3 rfl (lv_at hl 1 rfl) ?_
  refine lv_iload_n hx hb dL_set_4 rfl (lv_at hl 2 rfl) ?_
  refine rwo_i hS hP hE (va_runV (As := [.int (nI q), .int y]) (rest := [.int 0, .ref (a 113)]) ⟨hx, hb, hml, hown, hts⟩ (m_X6_set l D cI cS a s st pi mi po sz hsz hs0 hpi q hq y hy0 hy9 _) (cwV 2 hts (gV tw641 tw638 tw639 tw640 tw1) rfl rfl rfl (by decide +kernel) ⟨Nat.le_of_ble_eq_true rfl, Nat.le_of_ble_eq_true rfl⟩) (pvW' 112 rfl hK hP (by decide) rfl rfl (exO_s hP) (DI_s hE)) rfl rfl hl.1 rfl (lv_room (Nat.le_of_ble_eq_true rfl)) dL_set_5 ⟨Nat.le_of_ble_eq_true rfl, Nat.le_of_ble_eq_true rfl⟩) (fun r9 u H locs hr9 hP hS => ?_)
  refine lv_i2l hx hb dL_set_8 rfl ?_
  refine g_last hx hb hKL hP hE hS dL_set_9 (fun H locs hP hS => ?_)
  refine lv_goto (tgt := 21) hx hb dL_set_10 (by decide) ?_
  refine lv_iconst (v := 0) hx hb dL_set_21 (by decide) ?_
  have hP := hP.cast (e' := (exOf (exC cI cS a (up2 s 10 q y) (va_up st (svPi pi sz (svQ sz) + 1) s) (svPi pi sz) (up2 mi 0 0 (nI (svQ sz + 1))) po) cL (vp_updL ov 0 (s 10 q).toInt64))) (by rw [hr9])
  exact rw_ir hx hb hr rfl hlocks hS u hP rfl dL_set_22

set_option maxHeartbeats 4000000 in
set_option maxRecDepth 100000 in
theorem mt_L_set (l : Launch) (hst : l.stackTraces = false) (D : va_G) (cI cS cL : ClassId) (a : Nat → Nat) (s : St) (st : Nat → St) (pi : Nat → Nat) (mi po : St) (ov : Nat → Int64) (x y : Int32) (hx9 : ¬ witB x 0 1) (zz : Nat) : Met l yL_set (.codeWith yL_set cL_set 5 (some .int) [(0, 10, 13, 25), (0, 10, 17, 13)] :: wsA) ({ frames := 8, cells := 1, slots := 6, locals := 125 } : Room) (va_Pc [.ref (a 112), .int x, .int y, .ref (a 113)] (PO D cI cS cL 114 a (exOf (exC cI cS a s st pi mi po) cL ov) zz)) (va_Qi (fun (r : Int32) (u : Unit) => r = 1) (BW D 114 a (fun u => (exOf (exC cI cS a s st pi mi po) cL ov))) (AX 114 a zz)) 1 6 (AX 114 a zz) := by
  refine mgl (by decide) (Nat.le_of_ble_eq_true rfl) ?_
  intro p e z m below meth c hx hb hr hml hown hts hlocks htab hB ls hl
  obtain ⟨hsz, hP, hK, hE, hKL, hX⟩ := hB
  subst hsz
  have hS : va_S (AX 114 a z.heap.size) z.heap z.heap [] := va_S.rf
  have hl : lv_has ls 5 [(0, .ref (a 112)), (1, .int x), (2, .int y), (3, .ref (a 113))] := hl
  refine lv_aload_n hx hb dL_set_0 rfl (lv_at hl 3 rfl) ?_
  refine lv_iconst (v := 0) hx hb dL_set_1 (by decide) ?_
  refine lv_aload_n hx hb dL_set_2 rfl (lv_at hl 0 rfl) ?_
  refine lv_iload_n hx hb dL_set_3 rfl (lv_at hl 1 rfl) ?_
  refine lv_iload_n hx hb dL_set_4 rfl (lv_at hl 2 rfl) ?_
  refine tx_c1 (vx_runV (As := [.int x, .int y]) (rest := [.int 0, .ref (a 113)]) ⟨hx, hb, hml, hown, hts⟩ (mt_X6_set l a hst x y hx9) (cwV 2 hts (gV tw641 tw638 tw639 tw640 tw1) rfl rfl rfl (by decide +kernel) ⟨Nat.le_of_ble_eq_true rfl, Nat.le_of_ble_eq_true rfl⟩) (pvX0 112 hK hP hX (by decide) rfl rfl) rfl rfl hl.1 rfl (lv_room (Nat.le_of_ble_eq_true rfl)) dL_set_5 ⟨Nat.le_of_ble_eq_true rfl, Nat.le_of_ble_eq_true rfl⟩) hS hown htab (by decide) (by decide) hts tw606 (hX.1.2.1 _ (by decide)) (fun q9 H locs hq9 hS => ?_)
  have hP : HP D 114 a (exOf (exC cI cS a s st pi mi po) cL ov) H := hP.same hq9
  refine lv_astore (lv' := [(4, .ref q9), (0, .ref (a 112)), (1, .int x), (2, .int y), (3, .ref (a 113))]) hx hb dL_set_13 hl (by decide) rfl (fun ls hl => ?_)
  refine lv_iconst (v := 1) hx hb dL_set_15 (by decide) ?_
  exact rw_ir hx hb hr rfl hlocks hS () hP rfl dL_set_16

set_option maxHeartbeats 4000000 in
set_option maxRecDepth 100000 in
theorem mt2_L_set (l : Launch) (hst : l.stackTraces = false) (D : va_G) (cI cS cL : ClassId) (a : Nat → Nat) (s : St) (st : Nat → St) (pi : Nat → Nat) (mi po : St) (ov : Nat → Int64) (d : Nat) (hd : d < 2) (x : Int32) (hx9 : ¬ witB x 0 99) (zz : Nat) : Met l yL_set (.codeWith yL_set cL_set 5 (some .int) [(0, 10, 13, 25), (0, 10, 17, 13)] :: wsA) ({ frames := 7, cells := 1, slots := 6, locals := 105 } : Room) (va_Pc [.ref (a 112), .int (nI d), .int x, .ref (a 113)] (PO D cI cS cL 114 a (exOf (exC cI cS a s st pi mi po) cL ov) zz)) (va_Qi (fun (r : Int32) (u : Unit) => r = 2) (BW D 114 a (fun u => (exOf (exC cI cS a s st pi mi po) cL ov))) (AX 114 a zz)) 1 6 (AX 114 a zz) := by
  refine mgl (by decide) (Nat.le_of_ble_eq_true rfl) ?_
  intro p e z m below meth c hx hb hr hml hown hts hlocks htab hB ls hl
  obtain ⟨hsz, hP, hK, hE, hKL, hX⟩ := hB
  subst hsz
  have hS : va_S (AX 114 a z.heap.size) z.heap z.heap [] := va_S.rf
  have hl : lv_has ls 5 [(0, .ref (a 112)), (1, .int (nI d)), (2, .int x), (3, .ref (a 113))] := hl
  refine lv_aload_n hx hb dL_set_0 rfl (lv_at hl 3 rfl) ?_
  refine lv_iconst (v := 0) hx hb dL_set_1 (by decide) ?_
  refine lv_aload_n hx hb dL_set_2 rfl (lv_at hl 0 rfl) ?_
  refine lv_iload_n hx hb dL_set_3 rfl (lv_at hl 1 rfl) ?_
  refine lv_iload_n hx hb dL_set_4 rfl (lv_at hl 2 rfl) ?_
  refine tx_c2 (vx_runV (As := [.int (nI d), .int x]) (rest := [.int 0, .ref (a 113)]) ⟨hx, hb, hml, hown, hts⟩ (mt2_X6_set l a hst d hd x hx9) (cwV 2 hts (gV tw641 tw638 tw639 tw640 tw1) rfl rfl rfl (by decide +kernel) ⟨Nat.le_of_ble_eq_true rfl, Nat.le_of_ble_eq_true rfl⟩) (pvX0 112 hK hP hX (by decide) rfl rfl) rfl rfl hl.1 rfl (lv_room (Nat.le_of_ble_eq_true rfl)) dL_set_5 ⟨Nat.le_of_ble_eq_true rfl, Nat.le_of_ble_eq_true rfl⟩) hS hown htab (by decide) (by decide) (by decide) hts tw606 hX.1.2.2.1 tw545 (hX.1.2.1 _ (by decide)) (fun q9 H locs hq9 hS => ?_)
  have hP : HP D 114 a (exOf (exC cI cS a s st pi mi po) cL ov) H := hP.same hq9
  refine lv_astore (lv' := [(4, .ref q9), (0, .ref (a 112)), (1, .int (nI d)), (2, .int x), (3, .ref (a 113))]) hx hb dL_set_17 hl (by decide) rfl (fun ls hl => ?_)
  refine lv_iconst (v := 2) hx hb dL_set_19 (by decide) ?_
  exact rw_ir hx hb hr rfl hlocks hS () hP rfl dL_set_20

set_option maxHeartbeats 4000000 in
set_option maxRecDepth 100000 in
theorem m_L_append (l : Launch) (D : va_G) (cI cS cL : ClassId) (a : Nat → Nat) (s : St) (st : Nat → St) (pi : Nat → Nat) (mi po : St) (ov : Nat → Int64) (ln : Nat) (hln : ln ≤ 60) (hl0 : mi 0 1 = nI ln) (hl6 : ln < 60) (x : Int32) (hx0 : ¬ x < 33) (hx9 : x ≤ 126) (zz : Nat) : Met l yL_append (.codeWith yL_append cL_append 4 (some .int) [(0, 9, 12, 13), (0, 9, 15, 19)] :: wsA) ({ frames := 2, cells := 0, slots := 0, locals := 42 } : Room) (va_Pc [.ref (a 112), .int x, .ref (a 113)] (PO D cI cS cL 114 a (exOf (exC cI cS a s st pi mi po) cL ov) zz)) (va_Qi (fun (r : Int32) (u : Unit) => r = 0) (BW D 114 a (fun u => (exOf (exC cI cS a s st pi (up2 (up2 mi 1 ln x) 0 1 (nI (ln + 1))) po) cL (vp_updL ov 0 (nI (ln + 1)).toInt64)))) (AX 114 a zz)) 0 0 (AX 114 a zz) := by
  refine mgl (by decide) (Nat.le_of_ble_eq_true rfl) ?_
  intro p e z m below meth c hx hb hr hml hown hts hlocks htab hB ls hl
  obtain ⟨hsz, hP, hK, hE, hKL, hX⟩ := hB
  subst hsz
  have hS : va_S (AX 114 a z.heap.size) z.heap z.heap [] := va_S.rf
  have hl : lv_has ls 4 [(0, .ref (a 112)), (1, .int x), (2, .ref (a 113))] := hl
  refine lv_aload_n hx hb dL_append_0 rfl (lv_at hl 2 rfl) ?_
  refine lv_iconst (v := 0) hx hb dL_append_1 (by decide) ?_
  refine lv_aload_n hx hb dL_append_2 rfl (lv_at hl 0 rfl) ?_
  refine lv_iload_n hx hb dL_append_3 rfl (lv_at hl 1 rfl) ?_
  refine rwo_i hS hP hE (va_runV (As := [.int x]) (rest := [.int 0, .ref (a 113)]) ⟨hx, hb, hml, hown, hts⟩ (m_X6_append l D cI cS a s st pi mi po ln hln hl0 hl6 x hx0 hx9 _) (cwV 1 hts (gV tw653 tw650 tw651 tw652 tw1) rfl rfl rfl (by decide +kernel) ⟨Nat.le_of_ble_eq_true rfl, Nat.le_of_ble_eq_true rfl⟩) (pvW' 112 rfl hK hP (by decide) rfl rfl (exO_s hP) (DI_s hE)) rfl rfl hl.1 rfl (lv_room (Nat.le_of_ble_eq_true rfl)) dL_append_4 ⟨Nat.le_of_ble_eq_true rfl, Nat.le_of_ble_eq_true rfl⟩) (fun r9 u H locs hr9 hP hS => ?_)
  refine lv_i2l hx hb dL_append_7 rfl ?_
  refine g_last hx hb hKL hP hE hS dL_append_8 (fun H locs hP hS => ?_)
  refine lv_goto (tgt := 18) hx hb dL_append_9 (by decide) ?_
  refine lv_iconst (v := 0) hx hb dL_append_18 (by decide) ?_
  have hP := hP.cast (e' := (exOf (exC cI cS a s st pi (up2 (up2 mi 1 ln x) 0 1 (nI (ln + 1))) po) cL (vp_updL ov 0 (nI (ln + 1)).toInt64))) (by rw [hr9])
  exact rw_ir hx hb hr rfl hlocks hS u hP rfl dL_append_19

set_option maxHeartbeats 4000000 in
set_option maxRecDepth 100000 in
theorem mt_L_append (l : Launch) (hst : l.stackTraces = false) (D : va_G) (cI cS cL : ClassId) (a : Nat → Nat) (s : St) (st : Nat → St) (pi : Nat → Nat) (mi po : St) (ov : Nat → Int64) (x : Int32) (hx9 : ¬ witB x 33 126) (zz : Nat) : Met l yL_append (.codeWith yL_append cL_append 4 (some .int) [(0, 9, 12, 13), (0, 9, 15, 19)] :: wsA) ({ frames := 7, cells := 1, slots := 6, locals := 103 } : Room) (va_Pc [.ref (a 112), .int x, .ref (a 113)] (PO D cI cS cL 114 a (exOf (exC cI cS a s st pi mi po) cL ov) zz)) (va_Qi (fun (r : Int32) (u : Unit) => r = 1) (BW D 114 a (fun u => (exOf (exC cI cS a s st pi mi po) cL ov))) (AX 114 a zz)) 1 6 (AX 114 a zz) := by
  refine mgl (by decide) (Nat.le_of_ble_eq_true rfl) ?_
  intro p e z m below meth c hx hb hr hml hown hts hlocks htab hB ls hl
  obtain ⟨hsz, hP, hK, hE, hKL, hX⟩ := hB
  subst hsz
  have hS : va_S (AX 114 a z.heap.size) z.heap z.heap [] := va_S.rf
  have hl : lv_has ls 4 [(0, .ref (a 112)), (1, .int x), (2, .ref (a 113))] := hl
  refine lv_aload_n hx hb dL_append_0 rfl (lv_at hl 2 rfl) ?_
  refine lv_iconst (v := 0) hx hb dL_append_1 (by decide) ?_
  refine lv_aload_n hx hb dL_append_2 rfl (lv_at hl 0 rfl) ?_
  refine lv_iload_n hx hb dL_append_3 rfl (lv_at hl 1 rfl) ?_
  refine tx_c1 (vx_runV (As := [.int x]) (rest := [.int 0, .ref (a 113)]) ⟨hx, hb, hml, hown, hts⟩ (mt_X6_append l a hst x hx9) (cwV 1 hts (gV tw653 tw650 tw651 tw652 tw1) rfl rfl rfl (by decide +kernel) ⟨Nat.le_of_ble_eq_true rfl, Nat.le_of_ble_eq_true rfl⟩) (pvX0 112 hK hP hX (by decide) rfl rfl) rfl rfl hl.1 rfl (lv_room (Nat.le_of_ble_eq_true rfl)) dL_append_4 ⟨Nat.le_of_ble_eq_true rfl, Nat.le_of_ble_eq_true rfl⟩) hS hown htab (by decide) (by decide) hts tw545 (hX.1.2.1 _ (by decide)) (fun q9 H locs hq9 hS => ?_)
  have hP : HP D 114 a (exOf (exC cI cS a s st pi mi po) cL ov) H := hP.same hq9
  refine lv_astore_n (lv' := [(3, .ref q9), (0, .ref (a 112)), (1, .int x), (2, .ref (a 113))]) hx hb dL_append_12 rfl hl (by decide) rfl (fun ls hl => ?_)
  refine lv_iconst (v := 1) hx hb dL_append_13 (by decide) ?_
  exact rw_ir hx hb hr rfl hlocks hS () hP rfl dL_append_14

set_option maxHeartbeats 4000000 in
set_option maxRecDepth 100000 in
theorem mt2_L_append (l : Launch) (hst : l.stackTraces = false) (D : va_G) (cI cS cL : ClassId) (a : Nat → Nat) (s : St) (st : Nat → St) (pi : Nat → Nat) (mi po : St) (ov : Nat → Int64) (ln : Nat) (hln : ln = 60) (hl0 : mi 0 1 = nI ln) (x : Int32) (hx9 : witB x 33 126) (zz : Nat) : Met l yL_append (.codeWith yL_append cL_append 4 (some .int) [(0, 9, 12, 13), (0, 9, 15, 19)] :: wsA) ({ frames := 7, cells := 1, slots := 6, locals := 103 } : Room) (va_Pc [.ref (a 112), .int x, .ref (a 113)] (PO D cI cS cL 114 a (exOf (exC cI cS a s st pi mi po) cL ov) zz)) (va_Qi (fun (r : Int32) (u : Unit) => r = 2) (BW D 114 a (fun u => (exOf (exC cI cS a s st pi mi po) cL ov))) (AX 114 a zz)) 1 6 (AX 114 a zz) := by
  refine mgl (by decide) (Nat.le_of_ble_eq_true rfl) ?_
  intro p e z m below meth c hx hb hr hml hown hts hlocks htab hB ls hl
  obtain ⟨hsz, hP, hK, hE, hKL, hX⟩ := hB
  subst hsz
  have hS : va_S (AX 114 a z.heap.size) z.heap z.heap [] := va_S.rf
  have hl : lv_has ls 4 [(0, .ref (a 112)), (1, .int x), (2, .ref (a 113))] := hl
  refine lv_aload_n hx hb dL_append_0 rfl (lv_at hl 2 rfl) ?_
  refine lv_iconst (v := 0) hx hb dL_append_1 (by decide) ?_
  refine lv_aload_n hx hb dL_append_2 rfl (lv_at hl 0 rfl) ?_
  refine lv_iload_n hx hb dL_append_3 rfl (lv_at hl 1 rfl) ?_
  refine tx_c2 (vx_runV (As := [.int x]) (rest := [.int 0, .ref (a 113)]) ⟨hx, hb, hml, hown, hts⟩ (mt2_X6_append l D cI cS a s st pi mi po hst ln hln hl0 x hx9) (cwV 1 hts (gV tw653 tw650 tw651 tw652 tw1) rfl rfl rfl (by decide +kernel) ⟨Nat.le_of_ble_eq_true rfl, Nat.le_of_ble_eq_true rfl⟩) (pvXE 112 hK hP (exO_s hP) hX (by decide) rfl rfl) rfl rfl hl.1 rfl (lv_room (Nat.le_of_ble_eq_true rfl)) dL_append_4 ⟨Nat.le_of_ble_eq_true rfl, Nat.le_of_ble_eq_true rfl⟩) hS hown htab (by decide) (by decide) (by decide) hts tw545 hX.1.2.2.2 tw562 (hX.1.2.1 _ (by decide)) (fun q9 H locs hq9 hS => ?_)
  have hP : HP D 114 a (exOf (exC cI cS a s st pi mi po) cL ov) H := hP.same hq9
  refine lv_astore_n (lv' := [(3, .ref q9), (0, .ref (a 112)), (1, .int x), (2, .ref (a 113))]) hx hb dL_append_15 rfl hl (by decide) rfl (fun ls hl => ?_)
  refine lv_iconst (v := 2) hx hb dL_append_16 (by decide) ?_
  exact rw_ir hx hb hr rfl hlocks hS () hP rfl dL_append_17

set_option maxHeartbeats 4000000 in
set_option maxRecDepth 100000 in
theorem m_L_obey (l : Launch) (D : va_G) (cI cS cL : ClassId) (a : Nat → Nat) (s : St) (st : Nat → St) (pi : Nat → Nat) (mi po : St) (ov : Nat → Int64) (sz : Nat) (hsz : sz ≤ 6) (hs0 : mi 0 0 = nI sz) (hpi : ∀ k, k < 6 → pi k < 6) (ln : Nat) (hln : ln ≤ 60) (hl0 : mi 0 1 = nI ln) (hcm : cmpB (mi 1) ln) (hpo : ∀ j, j < ln → psB (mi 1) ln j → partO (mi 1) ln j) (zz : Nat) : Met l yL_obey (.codeWith yL_obey cL_obey 3 (some .int) [(0, 8, 11, 13)] :: wsA) ({ frames := 7, cells := 0, slots := 0, locals := 154 } : Room) (va_Pc [.ref (a 112), .ref (a 113)] (PO D cI cS cL 114 a (exOf (exC cI cS a s st pi mi po) cL ov) zz)) (va_Qi (fun (r : Int32) (u : St) => r = 0) (BW D 114 a (fun u => (exOf (exC cI cS a ((obF (mi 1) ln ln 0 s 0).1) (va_up st (svPi pi sz (svQ sz) + 1) s) (svPi pi sz) (up2 (up2 mi 0 0 (nI (svQ sz + 1))) 0 1 0) u) cL (vp_updL ov 0 ((obF (mi 1) ln ln 0 s 0).2).toInt64)))) (AX 114 a zz)) 0 0 (AX 114 a zz) := by
  refine mgl (by decide) (Nat.le_of_ble_eq_true rfl) ?_
  intro p e z m below meth c hx hb hr hml hown hts hlocks htab hB ls hl
  obtain ⟨hsz, hP, hK, hE, hKL, hX⟩ := hB
  subst hsz
  have hS : va_S (AX 114 a z.heap.size) z.heap z.heap [] := va_S.rf
  have hl : lv_has ls 3 [(0, .ref (a 112)), (1, .ref (a 113))] := hl
  refine lv_aload_n hx hb dL_obey_0 rfl (lv_at hl 1 rfl) ?_
  refine lv_iconst (v := 0) hx hb dL_obey_1 (by decide) ?_
  refine lv_aload_n hx hb dL_obey_2 rfl (lv_at hl 0 rfl) ?_
  refine rwo_i hS hP hE (va_runV (As := []) (rest := [.int 0, .ref (a 113)]) ⟨hx, hb, hml, hown, hts⟩ (m_X6_obey l D cI cS a s st pi mi po sz hsz hs0 hpi ln hln hl0 hcm hpo _) (cwV 0 hts (gV tw666 tw663 tw664 tw665 tw1) rfl rfl rfl (by decide +kernel) ⟨Nat.le_of_ble_eq_true rfl, Nat.le_of_ble_eq_true rfl⟩) (pvW' 112 rfl hK hP (by decide) rfl rfl (exO_s hP) (DI_s hE)) rfl rfl hl.1 rfl (lv_room (Nat.le_of_ble_eq_true rfl)) dL_obey_3 ⟨Nat.le_of_ble_eq_true rfl, Nat.le_of_ble_eq_true rfl⟩) (fun r9 u H locs hr9 hP hS => ?_)
  refine lv_i2l hx hb dL_obey_6 rfl ?_
  refine g_last hx hb hKL hP hE hS dL_obey_7 (fun H locs hP hS => ?_)
  refine lv_goto (tgt := 14) hx hb dL_obey_8 (by decide) ?_
  refine lv_iconst (v := 0) hx hb dL_obey_14 (by decide) ?_
  have hP := hP.cast (e' := (exOf (exC cI cS a ((obF (mi 1) ln ln 0 s 0).1) (va_up st (svPi pi sz (svQ sz) + 1) s) (svPi pi sz) (up2 (up2 mi 0 0 (nI (svQ sz + 1))) 0 1 0) u) cL (vp_updL ov 0 ((obF (mi 1) ln ln 0 s 0).2).toInt64))) (by rw [hr9])
  exact rw_ir hx hb hr rfl hlocks hS u hP rfl dL_obey_15

set_option maxHeartbeats 4000000 in
set_option maxRecDepth 100000 in
theorem mt_L_obey (l : Launch) (hst : l.stackTraces = false) (D : va_G) (cI cS cL : ClassId) (a : Nat → Nat) (s : St) (st : Nat → St) (pi : Nat → Nat) (mi po : St) (ov : Nat → Int64) (ln : Nat) (hln : ln ≤ 60) (hl0 : mi 0 1 = nI ln) (hcm : ¬ cmpB (mi 1) ln) (zz : Nat) : Met l yL_obey (.codeWith yL_obey cL_obey 3 (some .int) [(0, 8, 11, 13)] :: wsA) ({ frames := 7, cells := 1, slots := 6, locals := 105 } : Room) (va_Pc [.ref (a 112), .ref (a 113)] (PO D cI cS cL 114 a (exOf (exC cI cS a s st pi mi po) cL ov) zz)) (va_Qi (fun (r : Int32) (u : Unit) => r = 1) (BW D 114 a (fun u => (exOf (exC cI cS a s st pi mi po) cL ov))) (AX 114 a zz)) 1 6 (AX 114 a zz) := by
  refine mgl (by decide) (Nat.le_of_ble_eq_true rfl) ?_
  intro p e z m below meth c hx hb hr hml hown hts hlocks htab hB ls hl
  obtain ⟨hsz, hP, hK, hE, hKL, hX⟩ := hB
  subst hsz
  have hS : va_S (AX 114 a z.heap.size) z.heap z.heap [] := va_S.rf
  have hl : lv_has ls 3 [(0, .ref (a 112)), (1, .ref (a 113))] := hl
  refine lv_aload_n hx hb dL_obey_0 rfl (lv_at hl 1 rfl) ?_
  refine lv_iconst (v := 0) hx hb dL_obey_1 (by decide) ?_
  refine lv_aload_n hx hb dL_obey_2 rfl (lv_at hl 0 rfl) ?_
  refine tx_c1 (vx_runV (As := []) (rest := [.int 0, .ref (a 113)]) ⟨hx, hb, hml, hown, hts⟩ (mt_X6_obey l D cI cS a s st pi mi po hst ln hln hl0 hcm) (cwV 0 hts (gV tw666 tw663 tw664 tw665 tw1) rfl rfl rfl (by decide +kernel) ⟨Nat.le_of_ble_eq_true rfl, Nat.le_of_ble_eq_true rfl⟩) (pvXE 112 hK hP (exO_s hP) hX (by decide) rfl rfl) rfl rfl hl.1 rfl (lv_room (Nat.le_of_ble_eq_true rfl)) dL_obey_3 ⟨Nat.le_of_ble_eq_true rfl, Nat.le_of_ble_eq_true rfl⟩) hS hown htab (by decide) (by decide) hts tw545 (hX.1.2.1 _ (by decide)) (fun q9 H locs hq9 hS => ?_)
  have hP : HP D 114 a (exOf (exC cI cS a s st pi mi po) cL ov) H := hP.same hq9
  refine lv_astore_n (lv' := [(2, .ref q9), (0, .ref (a 112)), (1, .ref (a 113))]) hx hb dL_obey_11 rfl hl (by decide) rfl (fun ls hl => ?_)
  refine lv_iconst (v := 1) hx hb dL_obey_12 (by decide) ?_
  exact rw_ir hx hb hr rfl hlocks hS () hP rfl dL_obey_13

set_option maxHeartbeats 4000000 in
set_option maxRecDepth 100000 in
theorem m_L_goBack (l : Launch) (D : va_G) (cI cS cL : ClassId) (a : Nat → Nat) (s : St) (st : Nat → St) (pi : Nat → Nat) (mi po : St) (ov : Nat → Int64) (sz : Nat) (hsz : sz ≤ 6) (hs0 : mi 0 0 = nI sz) (hpi : ∀ k, k < 6 → pi k < 6) (hsn : ¬ mi 0 2 = 0) (zz : Nat) : Met l yL_goBack (.codeWith yL_goBack cL_goBack 3 (some .int) [(0, 8, 11, 19)] :: wsA) ({ frames := 5, cells := 0, slots := 0, locals := 106 } : Room) (va_Pc [.ref (a 112), .ref (a 113)] (PO D cI cS cL 114 a (exOf (exC cI cS a s st pi mi po) cL ov) zz)) (va_Qi (fun (r : Int32) (u : Unit) => r = 0) (BW D 114 a (fun u => (exOf (exC cI cS a (st 0) (va_up st (svPi pi sz (svQ sz) + 1) s) (svPi pi sz) (up2 mi 0 0 (nI (svQ sz + 1))) po) cL (vp_updL ov 0 (st 0 0 1).toInt64)))) (AX 114 a zz)) 0 0 (AX 114 a zz) := by
  refine mgl (by decide) (Nat.le_of_ble_eq_true rfl) ?_
  intro p e z m below meth c hx hb hr hml hown hts hlocks htab hB ls hl
  obtain ⟨hsz, hP, hK, hE, hKL, hX⟩ := hB
  subst hsz
  have hS : va_S (AX 114 a z.heap.size) z.heap z.heap [] := va_S.rf
  have hl : lv_has ls 3 [(0, .ref (a 112)), (1, .ref (a 113))] := hl
  refine lv_aload_n hx hb dL_goBack_0 rfl (lv_at hl 1 rfl) ?_
  refine lv_iconst (v := 0) hx hb dL_goBack_1 (by decide) ?_
  refine lv_aload_n hx hb dL_goBack_2 rfl (lv_at hl 0 rfl) ?_
  refine rwo_i hS hP hE (va_runV (As := []) (rest := [.int 0, .ref (a 113)]) ⟨hx, hb, hml, hown, hts⟩ (m_X6_goBack l D cI cS a s st pi mi po sz hsz hs0 hpi hsn _) (cwV 0 hts (gV tw699 tw696 tw697 tw698 tw1) rfl rfl rfl (by decide +kernel) ⟨Nat.le_of_ble_eq_true rfl, Nat.le_of_ble_eq_true rfl⟩) (pvW' 112 rfl hK hP (by decide) rfl rfl (exO_s hP) (DI_s hE)) rfl rfl hl.1 rfl (lv_room (Nat.le_of_ble_eq_true rfl)) dL_goBack_3 ⟨Nat.le_of_ble_eq_true rfl, Nat.le_of_ble_eq_true rfl⟩) (fun r9 u H locs hr9 hP hS => ?_)
  refine lv_i2l hx hb dL_goBack_6 rfl ?_
  refine g_last hx hb hKL hP hE hS dL_goBack_7 (fun H locs hP hS => ?_)
  refine lv_goto (tgt := 14) hx hb dL_goBack_8 (by decide) ?_
  refine lv_iconst (v := 0) hx hb dL_goBack_14 (by decide) ?_
  have hP := hP.cast (e' := (exOf (exC cI cS a (st 0) (va_up st (svPi pi sz (svQ sz) + 1) s) (svPi pi sz) (up2 mi 0 0 (nI (svQ sz + 1))) po) cL (vp_updL ov 0 (st 0 0 1).toInt64))) (by rw [hr9])
  exact rw_ir hx hb hr rfl hlocks hS u hP rfl dL_goBack_15

set_option maxHeartbeats 4000000 in
set_option maxRecDepth 100000 in
theorem mt_L_goBack (l : Launch) (hst : l.stackTraces = false) (D : va_G) (cI cS cL : ClassId) (a : Nat → Nat) (s : St) (st : Nat → St) (pi : Nat → Nat) (mi po : St) (ov : Nat → Int64) (hsn : mi 0 2 = 0) (zz : Nat) : Met l yL_goBack (.codeWith yL_goBack cL_goBack 3 (some .int) [(0, 8, 11, 19)] :: wsA) ({ frames := 7, cells := 1, slots := 6, locals := 102 } : Room) (va_Pc [.ref (a 112), .ref (a 113)] (PO D cI cS cL 114 a (exOf (exC cI cS a s st pi mi po) cL ov) zz)) (va_Qi (fun (r : Int32) (u : Unit) => r = 1) (BW D 114 a (fun u => (exOf (exC cI cS a s st pi mi po) cL ov))) (AX 114 a zz)) 1 6 (AX 114 a zz) := by
  refine mgl (by decide) (Nat.le_of_ble_eq_true rfl) ?_
  intro p e z m below meth c hx hb hr hml hown hts hlocks htab hB ls hl
  obtain ⟨hsz, hP, hK, hE, hKL, hX⟩ := hB
  subst hsz
  have hS : va_S (AX 114 a z.heap.size) z.heap z.heap [] := va_S.rf
  have hl : lv_has ls 3 [(0, .ref (a 112)), (1, .ref (a 113))] := hl
  refine lv_aload_n hx hb dL_goBack_0 rfl (lv_at hl 1 rfl) ?_
  refine lv_iconst (v := 0) hx hb dL_goBack_1 (by decide) ?_
  refine lv_aload_n hx hb dL_goBack_2 rfl (lv_at hl 0 rfl) ?_
  refine tx_c1 (vx_runV (As := []) (rest := [.int 0, .ref (a 113)]) ⟨hx, hb, hml, hown, hts⟩ (mt_X6_goBack l D cI cS a s st pi mi po hst hsn) (cwV 0 hts (gV tw699 tw696 tw697 tw698 tw1) rfl rfl rfl (by decide +kernel) ⟨Nat.le_of_ble_eq_true rfl, Nat.le_of_ble_eq_true rfl⟩) (pvXE 112 hK hP (exO_s hP) hX (by decide) rfl rfl) rfl rfl hl.1 rfl (lv_room (Nat.le_of_ble_eq_true rfl)) dL_goBack_3 ⟨Nat.le_of_ble_eq_true rfl, Nat.le_of_ble_eq_true rfl⟩) hS hown htab (by decide) (by decide) hts tw562 (hX.1.2.1 _ (by decide)) (fun q9 H locs hq9 hS => ?_)
  have hP : HP D 114 a (exOf (exC cI cS a s st pi mi po) cL ov) H := hP.same hq9
  refine lv_astore_n (lv' := [(2, .ref q9), (0, .ref (a 112)), (1, .ref (a 113))]) hx hb dL_goBack_11 rfl hl (by decide) rfl (fun ls hl => ?_)
  refine lv_iconst (v := 1) hx hb dL_goBack_12 (by decide) ?_
  exact rw_ir hx hb hr rfl hlocks hS () hP rfl dL_goBack_13

set_option maxHeartbeats 4000000 in
set_option maxRecDepth 100000 in
theorem m_L_undo (l : Launch) (D : va_G) (cI cS cL : ClassId) (a : Nat → Nat) (s : St) (st : Nat → St) (pi : Nat → Nat) (mi po : St) (ov : Nat → Int64) (sz : Nat) (hsz : sz ≤ 6) (hs0 : mi 0 0 = nI sz) (hpi : ∀ k, k < 6 → pi k < 6) (h1 : 1 ≤ sz) (zz : Nat) : Met l yL_undo (.codeWith yL_undo cL_undo 3 (some .int) [(0, 8, 11, 19)] :: wsA) ({ frames := 5, cells := 0, slots := 0, locals := 106 } : Room) (va_Pc [.ref (a 112), .ref (a 113)] (PO D cI cS cL 114 a (exOf (exC cI cS a s st pi mi po) cL ov) zz)) (va_Qi (fun (r : Int32) (u : Unit) => r = 0) (BW D 114 a (fun u => (exOf (exC cI cS a (st (pi (sz - 1) + 1)) st pi (up2 mi 0 0 (nI (sz - 1))) po) cL (vp_updL ov 0 (nI (sz - 1)).toInt64)))) (AX 114 a zz)) 0 0 (AX 114 a zz) := by
  refine mgl (by decide) (Nat.le_of_ble_eq_true rfl) ?_
  intro p e z m below meth c hx hb hr hml hown hts hlocks htab hB ls hl
  obtain ⟨hsz, hP, hK, hE, hKL, hX⟩ := hB
  subst hsz
  have hS : va_S (AX 114 a z.heap.size) z.heap z.heap [] := va_S.rf
  have hl : lv_has ls 3 [(0, .ref (a 112)), (1, .ref (a 113))] := hl
  refine lv_aload_n hx hb dL_undo_0 rfl (lv_at hl 1 rfl) ?_
  refine lv_iconst (v := 0) hx hb dL_undo_1 (by decide) ?_
  refine lv_aload_n hx hb dL_undo_2 rfl (lv_at hl 0 rfl) ?_
  refine rwo_i hS hP hE (va_runV (As := []) (rest := [.int 0, .ref (a 113)]) ⟨hx, hb, hml, hown, hts⟩ (m_X6_undo l D cI cS a s st pi mi po sz hsz hs0 hpi h1 _) (cwV 0 hts (gV tw707 tw704 tw705 tw706 tw1) rfl rfl rfl (by decide +kernel) ⟨Nat.le_of_ble_eq_true rfl, Nat.le_of_ble_eq_true rfl⟩) (pvW' 112 rfl hK hP (by decide) rfl rfl (exO_s hP) (DI_s hE)) rfl rfl hl.1 rfl (lv_room (Nat.le_of_ble_eq_true rfl)) dL_undo_3 ⟨Nat.le_of_ble_eq_true rfl, Nat.le_of_ble_eq_true rfl⟩) (fun r9 u H locs hr9 hP hS => ?_)
  refine lv_i2l hx hb dL_undo_6 rfl ?_
  refine g_last hx hb hKL hP hE hS dL_undo_7 (fun H locs hP hS => ?_)
  refine lv_goto (tgt := 14) hx hb dL_undo_8 (by decide) ?_
  refine lv_iconst (v := 0) hx hb dL_undo_14 (by decide) ?_
  have hP := hP.cast (e' := (exOf (exC cI cS a (st (pi (sz - 1) + 1)) st pi (up2 mi 0 0 (nI (sz - 1))) po) cL (vp_updL ov 0 (nI (sz - 1)).toInt64))) (by rw [hr9])
  exact rw_ir hx hb hr rfl hlocks hS u hP rfl dL_undo_15

set_option maxHeartbeats 4000000 in
set_option maxRecDepth 100000 in
theorem mt_L_undo (l : Launch) (hst : l.stackTraces = false) (D : va_G) (cI cS cL : ClassId) (a : Nat → Nat) (s : St) (st : Nat → St) (pi : Nat → Nat) (mi po : St) (ov : Nat → Int64) (hs0 : mi 0 0 = 0) (zz : Nat) : Met l yL_undo (.codeWith yL_undo cL_undo 3 (some .int) [(0, 8, 11, 19)] :: wsA) ({ frames := 7, cells := 1, slots := 6, locals := 102 } : Room) (va_Pc [.ref (a 112), .ref (a 113)] (PO D cI cS cL 114 a (exOf (exC cI cS a s st pi mi po) cL ov) zz)) (va_Qi (fun (r : Int32) (u : Unit) => r = 1) (BW D 114 a (fun u => (exOf (exC cI cS a s st pi mi po) cL ov))) (AX 114 a zz)) 1 6 (AX 114 a zz) := by
  refine mgl (by decide) (Nat.le_of_ble_eq_true rfl) ?_
  intro p e z m below meth c hx hb hr hml hown hts hlocks htab hB ls hl
  obtain ⟨hsz, hP, hK, hE, hKL, hX⟩ := hB
  subst hsz
  have hS : va_S (AX 114 a z.heap.size) z.heap z.heap [] := va_S.rf
  have hl : lv_has ls 3 [(0, .ref (a 112)), (1, .ref (a 113))] := hl
  refine lv_aload_n hx hb dL_undo_0 rfl (lv_at hl 1 rfl) ?_
  refine lv_iconst (v := 0) hx hb dL_undo_1 (by decide) ?_
  refine lv_aload_n hx hb dL_undo_2 rfl (lv_at hl 0 rfl) ?_
  refine tx_c1 (vx_runV (As := []) (rest := [.int 0, .ref (a 113)]) ⟨hx, hb, hml, hown, hts⟩ (mt_X6_undo l D cI cS a s st pi mi po hst hs0) (cwV 0 hts (gV tw707 tw704 tw705 tw706 tw1) rfl rfl rfl (by decide +kernel) ⟨Nat.le_of_ble_eq_true rfl, Nat.le_of_ble_eq_true rfl⟩) (pvXE 112 hK hP (exO_s hP) hX (by decide) rfl rfl) rfl rfl hl.1 rfl (lv_room (Nat.le_of_ble_eq_true rfl)) dL_undo_3 ⟨Nat.le_of_ble_eq_true rfl, Nat.le_of_ble_eq_true rfl⟩) hS hown htab (by decide) (by decide) hts tw562 (hX.1.2.1 _ (by decide)) (fun q9 H locs hq9 hS => ?_)
  have hP : HP D 114 a (exOf (exC cI cS a s st pi mi po) cL ov) H := hP.same hq9
  refine lv_astore_n (lv' := [(2, .ref q9), (0, .ref (a 112)), (1, .ref (a 113))]) hx hb dL_undo_11 rfl hl (by decide) rfl (fun ls hl => ?_)
  refine lv_iconst (v := 1) hx hb dL_undo_12 (by decide) ?_
  exact rw_ir hx hb hr rfl hlocks hS () hP rfl dL_undo_13

set_option maxHeartbeats 4000000 in
set_option maxRecDepth 100000 in
theorem m_L_dial (l : Launch) (D : va_G) (cI cS cL : ClassId) (a : Nat → Nat) (s : St) (st : Nat → St) (pi : Nat → Nat) (mi po : St) (ov : Nat → Int64) (d q : Nat) (hd : d < 7) (hq : q < 7) (zz : Nat) : Met l yL_dial (.codeWith yL_dial cL_dial 5 (some .int) [(0, 10, 13, 25), (0, 10, 17, 13)] :: wsA) ({ frames := 4, cells := 0, slots := 0, locals := 86 } : Room) (va_Pc [.ref (a 112), .int (nI d), .int (nI q), .ref (a 113)] (PO D cI cS cL 114 a (exOf (exC cI cS a s st pi mi po) cL ov) zz)) (va_Qi (fun (r : Int32) (u : Unit) => r = 0) (BW D 114 a (fun u => (exOf (exC cI cS a s st pi mi po) cL (vp_updL ov 0 (dialN s d q).toInt64)))) (AX 114 a zz)) 0 0 (AX 114 a zz) := by
  refine mgl (by decide) (Nat.le_of_ble_eq_true rfl) ?_
  intro p e z m below meth c hx hb hr hml hown hts hlocks htab hB ls hl
  obtain ⟨hsz, hP, hK, hE, hKL, hX⟩ := hB
  subst hsz
  have hS : va_S (AX 114 a z.heap.size) z.heap z.heap [] := va_S.rf
  have hl : lv_has ls 5 [(0, .ref (a 112)), (1, .int (nI d)), (2, .int (nI q)), (3, .ref (a 113))] := hl
  refine lv_aload_n hx hb dL_dial_0 rfl (lv_at hl 3 rfl) ?_
  refine lv_iconst (v := 0) hx hb dL_dial_1 (by decide) ?_
  refine lv_aload_n hx hb dL_dial_2 rfl (lv_at hl 0 rfl) ?_
  refine lv_iload_n hx hb dL_dial_3 rfl (lv_at hl 1 rfl) ?_
  refine lv_iload_n hx hb dL_dial_4 rfl (lv_at hl 2 rfl) ?_
  refine ro_i (va_runV (As := [.int (nI d), .int (nI q)]) (rest := [.int 0, .ref (a 113)]) ⟨hx, hb, hml, hown, hts⟩ (m_X6_dial l D cI cS a s st pi mi po d q hd hq) (cwV 2 hts (gV tw719 tw716 tw717 tw718 tw1) rfl rfl rfl (by decide +kernel) ⟨Nat.le_of_ble_eq_true rfl, Nat.le_of_ble_eq_true rfl⟩) (pvR' 112 rfl hK hP (by decide) rfl rfl (exO_s hP)) rfl rfl hl.1 rfl (lv_room (Nat.le_of_ble_eq_true rfl)) dL_dial_5 ⟨Nat.le_of_ble_eq_true rfl, Nat.le_of_ble_eq_true rfl⟩) (fun r9 hr9 => ?_)
  refine lv_i2l hx hb dL_dial_8 rfl ?_
  refine g_last hx hb hKL hP hE hS dL_dial_9 (fun H locs hP hS => ?_)
  refine lv_goto (tgt := 21) hx hb dL_dial_10 (by decide) ?_
  refine lv_iconst (v := 0) hx hb dL_dial_21 (by decide) ?_
  have hP := hP.cast (e' := (exOf (exC cI cS a s st pi mi po) cL (vp_updL ov 0 (dialN s d q).toInt64))) (by rw [hr9])
  exact rw_ir hx hb hr rfl hlocks hS () hP rfl dL_dial_22

set_option maxHeartbeats 4000000 in
set_option maxRecDepth 100000 in
theorem mt_L_dial (l : Launch) (hst : l.stackTraces = false) (D : va_G) (cI cS cL : ClassId) (a : Nat → Nat) (s : St) (st : Nat → St) (pi : Nat → Nat) (mi po : St) (ov : Nat → Int64) (x y : Int32) (hx9 : ¬ witB x 0 6) (zz : Nat) : Met l yL_dial (.codeWith yL_dial cL_dial 5 (some .int) [(0, 10, 13, 25), (0, 10, 17, 13)] :: wsA) ({ frames := 8, cells := 1, slots := 6, locals := 124 } : Room) (va_Pc [.ref (a 112), .int x, .int y, .ref (a 113)] (PO D cI cS cL 114 a (exOf (exC cI cS a s st pi mi po) cL ov) zz)) (va_Qi (fun (r : Int32) (u : Unit) => r = 1) (BW D 114 a (fun u => (exOf (exC cI cS a s st pi mi po) cL ov))) (AX 114 a zz)) 1 6 (AX 114 a zz) := by
  refine mgl (by decide) (Nat.le_of_ble_eq_true rfl) ?_
  intro p e z m below meth c hx hb hr hml hown hts hlocks htab hB ls hl
  obtain ⟨hsz, hP, hK, hE, hKL, hX⟩ := hB
  subst hsz
  have hS : va_S (AX 114 a z.heap.size) z.heap z.heap [] := va_S.rf
  have hl : lv_has ls 5 [(0, .ref (a 112)), (1, .int x), (2, .int y), (3, .ref (a 113))] := hl
  refine lv_aload_n hx hb dL_dial_0 rfl (lv_at hl 3 rfl) ?_
  refine lv_iconst (v := 0) hx hb dL_dial_1 (by decide) ?_
  refine lv_aload_n hx hb dL_dial_2 rfl (lv_at hl 0 rfl) ?_
  refine lv_iload_n hx hb dL_dial_3 rfl (lv_at hl 1 rfl) ?_
  refine lv_iload_n hx hb dL_dial_4 rfl (lv_at hl 2 rfl) ?_
  refine tx_c1 (vx_runV (As := [.int x, .int y]) (rest := [.int 0, .ref (a 113)]) ⟨hx, hb, hml, hown, hts⟩ (mt_X6_dial l a hst x y hx9) (cwV 2 hts (gV tw719 tw716 tw717 tw718 tw1) rfl rfl rfl (by decide +kernel) ⟨Nat.le_of_ble_eq_true rfl, Nat.le_of_ble_eq_true rfl⟩) (pvX0 112 hK hP hX (by decide) rfl rfl) rfl rfl hl.1 rfl (lv_room (Nat.le_of_ble_eq_true rfl)) dL_dial_5 ⟨Nat.le_of_ble_eq_true rfl, Nat.le_of_ble_eq_true rfl⟩) hS hown htab (by decide) (by decide) hts tw606 (hX.1.2.1 _ (by decide)) (fun q9 H locs hq9 hS => ?_)
  have hP : HP D 114 a (exOf (exC cI cS a s st pi mi po) cL ov) H := hP.same hq9
  refine lv_astore (lv' := [(4, .ref q9), (0, .ref (a 112)), (1, .int x), (2, .int y), (3, .ref (a 113))]) hx hb dL_dial_13 hl (by decide) rfl (fun ls hl => ?_)
  refine lv_iconst (v := 1) hx hb dL_dial_15 (by decide) ?_
  exact rw_ir hx hb hr rfl hlocks hS () hP rfl dL_dial_16

set_option maxHeartbeats 4000000 in
set_option maxRecDepth 100000 in
theorem mt2_L_dial (l : Launch) (hst : l.stackTraces = false) (D : va_G) (cI cS cL : ClassId) (a : Nat → Nat) (s : St) (st : Nat → St) (pi : Nat → Nat) (mi po : St) (ov : Nat → Int64) (d : Nat) (hd : d < 7) (x : Int32) (hx9 : ¬ witB x 0 6) (zz : Nat) : Met l yL_dial (.codeWith yL_dial cL_dial 5 (some .int) [(0, 10, 13, 25), (0, 10, 17, 13)] :: wsA) ({ frames := 7, cells := 1, slots := 6, locals := 104 } : Room) (va_Pc [.ref (a 112), .int (nI d), .int x, .ref (a 113)] (PO D cI cS cL 114 a (exOf (exC cI cS a s st pi mi po) cL ov) zz)) (va_Qi (fun (r : Int32) (u : Unit) => r = 2) (BW D 114 a (fun u => (exOf (exC cI cS a s st pi mi po) cL ov))) (AX 114 a zz)) 1 6 (AX 114 a zz) := by
  refine mgl (by decide) (Nat.le_of_ble_eq_true rfl) ?_
  intro p e z m below meth c hx hb hr hml hown hts hlocks htab hB ls hl
  obtain ⟨hsz, hP, hK, hE, hKL, hX⟩ := hB
  subst hsz
  have hS : va_S (AX 114 a z.heap.size) z.heap z.heap [] := va_S.rf
  have hl : lv_has ls 5 [(0, .ref (a 112)), (1, .int (nI d)), (2, .int x), (3, .ref (a 113))] := hl
  refine lv_aload_n hx hb dL_dial_0 rfl (lv_at hl 3 rfl) ?_
  refine lv_iconst (v := 0) hx hb dL_dial_1 (by decide) ?_
  refine lv_aload_n hx hb dL_dial_2 rfl (lv_at hl 0 rfl) ?_
  refine lv_iload_n hx hb dL_dial_3 rfl (lv_at hl 1 rfl) ?_
  refine lv_iload_n hx hb dL_dial_4 rfl (lv_at hl 2 rfl) ?_
  refine tx_c2 (vx_runV (As := [.int (nI d), .int x]) (rest := [.int 0, .ref (a 113)]) ⟨hx, hb, hml, hown, hts⟩ (mt2_X6_dial l a hst d hd x hx9) (cwV 2 hts (gV tw719 tw716 tw717 tw718 tw1) rfl rfl rfl (by decide +kernel) ⟨Nat.le_of_ble_eq_true rfl, Nat.le_of_ble_eq_true rfl⟩) (pvX0 112 hK hP hX (by decide) rfl rfl) rfl rfl hl.1 rfl (lv_room (Nat.le_of_ble_eq_true rfl)) dL_dial_5 ⟨Nat.le_of_ble_eq_true rfl, Nat.le_of_ble_eq_true rfl⟩) hS hown htab (by decide) (by decide) (by decide) hts tw606 hX.1.2.2.1 tw545 (hX.1.2.1 _ (by decide)) (fun q9 H locs hq9 hS => ?_)
  have hP : HP D 114 a (exOf (exC cI cS a s st pi mi po) cL ov) H := hP.same hq9
  refine lv_astore (lv' := [(4, .ref q9), (0, .ref (a 112)), (1, .int (nI d)), (2, .int x), (3, .ref (a 113))]) hx hb dL_dial_17 hl (by decide) rfl (fun ls hl => ?_)
  refine lv_iconst (v := 2) hx hb dL_dial_19 (by decide) ?_
  exact rw_ir hx hb hr rfl hlocks hS () hP rfl dL_dial_20

set_option maxHeartbeats 4000000 in
set_option maxRecDepth 100000 in
theorem m_L_says (l : Launch) (D : va_G) (cI cS cL : ClassId) (a : Nat → Nat) (s : St) (st : Nat → St) (pi : Nat → Nat) (mi po : St) (ov : Nat → Int64) (w q : Nat) (hw : w < 7) (hq : q < 6) (zz : Nat) : Met l yL_says (.codeWith yL_says cL_says 5 (some .int) [(0, 10, 13, 25), (0, 10, 17, 13)] :: wsA) ({ frames := 6, cells := 0, slots := 0, locals := 131 } : Room) (va_Pc [.ref (a 112), .int (nI w), .int (nI q), .ref (a 113)] (PO D cI cS cL 114 a (exOf (exC cI cS a s st pi mi po) cL ov) zz)) (va_Qi (fun (r : Int32) (u : St) => r = 0) (BW D 114 a (fun u => (exOf (exC cI cS a s st pi mi u) cL (vp_updL ov 0 (wardN s w q).toInt64)))) (AX 114 a zz)) 0 0 (AX 114 a zz) := by
  refine mgl (by decide) (Nat.le_of_ble_eq_true rfl) ?_
  intro p e z m below meth c hx hb hr hml hown hts hlocks htab hB ls hl
  obtain ⟨hsz, hP, hK, hE, hKL, hX⟩ := hB
  subst hsz
  have hS : va_S (AX 114 a z.heap.size) z.heap z.heap [] := va_S.rf
  have hl : lv_has ls 5 [(0, .ref (a 112)), (1, .int (nI w)), (2, .int (nI q)), (3, .ref (a 113))] := hl
  refine lv_aload_n hx hb dL_says_0 rfl (lv_at hl 3 rfl) ?_
  refine lv_iconst (v := 0) hx hb dL_says_1 (by decide) ?_
  refine lv_aload_n hx hb dL_says_2 rfl (lv_at hl 0 rfl) ?_
  refine lv_iload_n hx hb dL_says_3 rfl (lv_at hl 1 rfl) ?_
  refine lv_iload_n hx hb dL_says_4 rfl (lv_at hl 2 rfl) ?_
  refine rwo_i hS hP hE (va_runV (As := [.int (nI w), .int (nI q)]) (rest := [.int 0, .ref (a 113)]) ⟨hx, hb, hml, hown, hts⟩ (m_X6_says l D cI cS a s st pi mi po w q hw hq _) (cwV 2 hts (gV tw726 tw723 tw724 tw725 tw1) rfl rfl rfl (by decide +kernel) ⟨Nat.le_of_ble_eq_true rfl, Nat.le_of_ble_eq_true rfl⟩) (pvW' 112 rfl hK hP (by decide) rfl rfl (exO_s hP) (DI_s hE)) rfl rfl hl.1 rfl (lv_room (Nat.le_of_ble_eq_true rfl)) dL_says_5 ⟨Nat.le_of_ble_eq_true rfl, Nat.le_of_ble_eq_true rfl⟩) (fun r9 u H locs hr9 hP hS => ?_)
  refine lv_i2l hx hb dL_says_8 rfl ?_
  refine g_last hx hb hKL hP hE hS dL_says_9 (fun H locs hP hS => ?_)
  refine lv_goto (tgt := 21) hx hb dL_says_10 (by decide) ?_
  refine lv_iconst (v := 0) hx hb dL_says_21 (by decide) ?_
  have hP := hP.cast (e' := (exOf (exC cI cS a s st pi mi u) cL (vp_updL ov 0 (wardN s w q).toInt64))) (by rw [hr9])
  exact rw_ir hx hb hr rfl hlocks hS u hP rfl dL_says_22

set_option maxHeartbeats 4000000 in
set_option maxRecDepth 100000 in
theorem mt_L_says (l : Launch) (hst : l.stackTraces = false) (D : va_G) (cI cS cL : ClassId) (a : Nat → Nat) (s : St) (st : Nat → St) (pi : Nat → Nat) (mi po : St) (ov : Nat → Int64) (x y : Int32) (hx9 : ¬ witB x 0 6) (zz : Nat) : Met l yL_says (.codeWith yL_says cL_says 5 (some .int) [(0, 10, 13, 25), (0, 10, 17, 13)] :: wsA) ({ frames := 8, cells := 1, slots := 6, locals := 124 } : Room) (va_Pc [.ref (a 112), .int x, .int y, .ref (a 113)] (PO D cI cS cL 114 a (exOf (exC cI cS a s st pi mi po) cL ov) zz)) (va_Qi (fun (r : Int32) (u : Unit) => r = 1) (BW D 114 a (fun u => (exOf (exC cI cS a s st pi mi po) cL ov))) (AX 114 a zz)) 1 6 (AX 114 a zz) := by
  refine mgl (by decide) (Nat.le_of_ble_eq_true rfl) ?_
  intro p e z m below meth c hx hb hr hml hown hts hlocks htab hB ls hl
  obtain ⟨hsz, hP, hK, hE, hKL, hX⟩ := hB
  subst hsz
  have hS : va_S (AX 114 a z.heap.size) z.heap z.heap [] := va_S.rf
  have hl : lv_has ls 5 [(0, .ref (a 112)), (1, .int x), (2, .int y), (3, .ref (a 113))] := hl
  refine lv_aload_n hx hb dL_says_0 rfl (lv_at hl 3 rfl) ?_
  refine lv_iconst (v := 0) hx hb dL_says_1 (by decide) ?_
  refine lv_aload_n hx hb dL_says_2 rfl (lv_at hl 0 rfl) ?_
  refine lv_iload_n hx hb dL_says_3 rfl (lv_at hl 1 rfl) ?_
  refine lv_iload_n hx hb dL_says_4 rfl (lv_at hl 2 rfl) ?_
  refine tx_c1 (vx_runV (As := [.int x, .int y]) (rest := [.int 0, .ref (a 113)]) ⟨hx, hb, hml, hown, hts⟩ (mt_X6_says l a hst x y hx9) (cwV 2 hts (gV tw726 tw723 tw724 tw725 tw1) rfl rfl rfl (by decide +kernel) ⟨Nat.le_of_ble_eq_true rfl, Nat.le_of_ble_eq_true rfl⟩) (pvX0 112 hK hP hX (by decide) rfl rfl) rfl rfl hl.1 rfl (lv_room (Nat.le_of_ble_eq_true rfl)) dL_says_5 ⟨Nat.le_of_ble_eq_true rfl, Nat.le_of_ble_eq_true rfl⟩) hS hown htab (by decide) (by decide) hts tw606 (hX.1.2.1 _ (by decide)) (fun q9 H locs hq9 hS => ?_)
  have hP : HP D 114 a (exOf (exC cI cS a s st pi mi po) cL ov) H := hP.same hq9
  refine lv_astore (lv' := [(4, .ref q9), (0, .ref (a 112)), (1, .int x), (2, .int y), (3, .ref (a 113))]) hx hb dL_says_13 hl (by decide) rfl (fun ls hl => ?_)
  refine lv_iconst (v := 1) hx hb dL_says_15 (by decide) ?_
  exact rw_ir hx hb hr rfl hlocks hS () hP rfl dL_says_16

set_option maxHeartbeats 4000000 in
set_option maxRecDepth 100000 in
theorem mt2_L_says (l : Launch) (hst : l.stackTraces = false) (D : va_G) (cI cS cL : ClassId) (a : Nat → Nat) (s : St) (st : Nat → St) (pi : Nat → Nat) (mi po : St) (ov : Nat → Int64) (d : Nat) (hd : d < 7) (x : Int32) (hx9 : ¬ witB x 0 5) (zz : Nat) : Met l yL_says (.codeWith yL_says cL_says 5 (some .int) [(0, 10, 13, 25), (0, 10, 17, 13)] :: wsA) ({ frames := 7, cells := 1, slots := 6, locals := 104 } : Room) (va_Pc [.ref (a 112), .int (nI d), .int x, .ref (a 113)] (PO D cI cS cL 114 a (exOf (exC cI cS a s st pi mi po) cL ov) zz)) (va_Qi (fun (r : Int32) (u : Unit) => r = 2) (BW D 114 a (fun u => (exOf (exC cI cS a s st pi mi po) cL ov))) (AX 114 a zz)) 1 6 (AX 114 a zz) := by
  refine mgl (by decide) (Nat.le_of_ble_eq_true rfl) ?_
  intro p e z m below meth c hx hb hr hml hown hts hlocks htab hB ls hl
  obtain ⟨hsz, hP, hK, hE, hKL, hX⟩ := hB
  subst hsz
  have hS : va_S (AX 114 a z.heap.size) z.heap z.heap [] := va_S.rf
  have hl : lv_has ls 5 [(0, .ref (a 112)), (1, .int (nI d)), (2, .int x), (3, .ref (a 113))] := hl
  refine lv_aload_n hx hb dL_says_0 rfl (lv_at hl 3 rfl) ?_
  refine lv_iconst (v := 0) hx hb dL_says_1 (by decide) ?_
  refine lv_aload_n hx hb dL_says_2 rfl (lv_at hl 0 rfl) ?_
  refine lv_iload_n hx hb dL_says_3 rfl (lv_at hl 1 rfl) ?_
  refine lv_iload_n hx hb dL_says_4 rfl (lv_at hl 2 rfl) ?_
  refine tx_c2 (vx_runV (As := [.int (nI d), .int x]) (rest := [.int 0, .ref (a 113)]) ⟨hx, hb, hml, hown, hts⟩ (mt2_X6_says l a hst d hd x hx9) (cwV 2 hts (gV tw726 tw723 tw724 tw725 tw1) rfl rfl rfl (by decide +kernel) ⟨Nat.le_of_ble_eq_true rfl, Nat.le_of_ble_eq_true rfl⟩) (pvX0 112 hK hP hX (by decide) rfl rfl) rfl rfl hl.1 rfl (lv_room (Nat.le_of_ble_eq_true rfl)) dL_says_5 ⟨Nat.le_of_ble_eq_true rfl, Nat.le_of_ble_eq_true rfl⟩) hS hown htab (by decide) (by decide) (by decide) hts tw606 hX.1.2.2.1 tw545 (hX.1.2.1 _ (by decide)) (fun q9 H locs hq9 hS => ?_)
  have hP : HP D 114 a (exOf (exC cI cS a s st pi mi po) cL ov) H := hP.same hq9
  refine lv_astore (lv' := [(4, .ref q9), (0, .ref (a 112)), (1, .int (nI d)), (2, .int x), (3, .ref (a 113))]) hx hb dL_says_17 hl (by decide) rfl (fun ls hl => ?_)
  refine lv_iconst (v := 2) hx hb dL_says_19 (by decide) ?_
  exact rw_ir hx hb hr rfl hlocks hS () hP rfl dL_says_20

set_option maxHeartbeats 4000000 in
set_option maxRecDepth 100000 in
theorem m_L_count (l : Launch) (D : va_G) (cI cS cL : ClassId) (a : Nat → Nat) (s : St) (st : Nat → St) (pi : Nat → Nat) (mi po : St) (ov : Nat → Int64) (sz q : Nat) (hq : q < 14) (hs0 : mi 0 0 = nI sz) (zz : Nat) : Met l yL_count (.codeWith yL_count cL_count 4 (some .int) [(0, 9, 12, 13)] :: wsA) ({ frames := 6, cells := 0, slots := 0, locals := 129 } : Room) (va_Pc [.ref (a 112), .int (nI q), .ref (a 113)] (PO D cI cS cL 114 a (exOf (exC cI cS a s st pi mi po) cL ov) zz)) (va_Qi (fun (r : Int32) (u : St) => r = 0) (BW D 114 a (fun u => (exOf (exC cI cS a s st pi mi u) cL (vp_updL ov 0 (counN s sz q).toInt64)))) (AX 114 a zz)) 0 0 (AX 114 a zz) := by
  refine mgl (by decide) (Nat.le_of_ble_eq_true rfl) ?_
  intro p e z m below meth c hx hb hr hml hown hts hlocks htab hB ls hl
  obtain ⟨hsz, hP, hK, hE, hKL, hX⟩ := hB
  subst hsz
  have hS : va_S (AX 114 a z.heap.size) z.heap z.heap [] := va_S.rf
  have hl : lv_has ls 4 [(0, .ref (a 112)), (1, .int (nI q)), (2, .ref (a 113))] := hl
  refine lv_aload_n hx hb dL_count_0 rfl (lv_at hl 2 rfl) ?_
  refine lv_iconst (v := 0) hx hb dL_count_1 (by decide) ?_
  refine lv_aload_n hx hb dL_count_2 rfl (lv_at hl 0 rfl) ?_
  refine lv_iload_n hx hb dL_count_3 rfl (lv_at hl 1 rfl) ?_
  refine rwo_i hS hP hE (va_runV (As := [.int (nI q)]) (rest := [.int 0, .ref (a 113)]) ⟨hx, hb, hml, hown, hts⟩ (m_X6_count l D cI cS a s st pi mi po sz q hq hs0 _) (cwV 1 hts (gV tw331 tw730 tw329 tw330 tw1) rfl rfl rfl (by decide +kernel) ⟨Nat.le_of_ble_eq_true rfl, Nat.le_of_ble_eq_true rfl⟩) (pvW' 112 rfl hK hP (by decide) rfl rfl (exO_s hP) (DI_s hE)) rfl rfl hl.1 rfl (lv_room (Nat.le_of_ble_eq_true rfl)) dL_count_4 ⟨Nat.le_of_ble_eq_true rfl, Nat.le_of_ble_eq_true rfl⟩) (fun r9 u H locs hr9 hP hS => ?_)
  refine lv_i2l hx hb dL_count_7 rfl ?_
  refine g_last hx hb hKL hP hE hS dL_count_8 (fun H locs hP hS => ?_)
  refine lv_goto (tgt := 15) hx hb dL_count_9 (by decide) ?_
  refine lv_iconst (v := 0) hx hb dL_count_15 (by decide) ?_
  have hP := hP.cast (e' := (exOf (exC cI cS a s st pi mi u) cL (vp_updL ov 0 (counN s sz q).toInt64))) (by rw [hr9])
  exact rw_ir hx hb hr rfl hlocks hS u hP rfl dL_count_16

set_option maxHeartbeats 4000000 in
set_option maxRecDepth 100000 in
theorem mt_L_count (l : Launch) (hst : l.stackTraces = false) (D : va_G) (cI cS cL : ClassId) (a : Nat → Nat) (s : St) (st : Nat → St) (pi : Nat → Nat) (mi po : St) (ov : Nat → Int64) (x : Int32) (hx9 : ¬ witB x 0 13) (zz : Nat) : Met l yL_count (.codeWith yL_count cL_count 4 (some .int) [(0, 9, 12, 13)] :: wsA) ({ frames := 7, cells := 1, slots := 6, locals := 103 } : Room) (va_Pc [.ref (a 112), .int x, .ref (a 113)] (PO D cI cS cL 114 a (exOf (exC cI cS a s st pi mi po) cL ov) zz)) (va_Qi (fun (r : Int32) (u : Unit) => r = 1) (BW D 114 a (fun u => (exOf (exC cI cS a s st pi mi po) cL ov))) (AX 114 a zz)) 1 6 (AX 114 a zz) := by
  refine mgl (by decide) (Nat.le_of_ble_eq_true rfl) ?_
  intro p e z m below meth c hx hb hr hml hown hts hlocks htab hB ls hl
  obtain ⟨hsz, hP, hK, hE, hKL, hX⟩ := hB
  subst hsz
  have hS : va_S (AX 114 a z.heap.size) z.heap z.heap [] := va_S.rf
  have hl : lv_has ls 4 [(0, .ref (a 112)), (1, .int x), (2, .ref (a 113))] := hl
  refine lv_aload_n hx hb dL_count_0 rfl (lv_at hl 2 rfl) ?_
  refine lv_iconst (v := 0) hx hb dL_count_1 (by decide) ?_
  refine lv_aload_n hx hb dL_count_2 rfl (lv_at hl 0 rfl) ?_
  refine lv_iload_n hx hb dL_count_3 rfl (lv_at hl 1 rfl) ?_
  refine tx_c1 (vx_runV (As := [.int x]) (rest := [.int 0, .ref (a 113)]) ⟨hx, hb, hml, hown, hts⟩ (mt_X6_count l a hst x hx9) (cwV 1 hts (gV tw331 tw730 tw329 tw330 tw1) rfl rfl rfl (by decide +kernel) ⟨Nat.le_of_ble_eq_true rfl, Nat.le_of_ble_eq_true rfl⟩) (pvX0 112 hK hP hX (by decide) rfl rfl) rfl rfl hl.1 rfl (lv_room (Nat.le_of_ble_eq_true rfl)) dL_count_4 ⟨Nat.le_of_ble_eq_true rfl, Nat.le_of_ble_eq_true rfl⟩) hS hown htab (by decide) (by decide) hts tw545 (hX.1.2.1 _ (by decide)) (fun q9 H locs hq9 hS => ?_)
  have hP : HP D 114 a (exOf (exC cI cS a s st pi mi po) cL ov) H := hP.same hq9
  refine lv_astore_n (lv' := [(3, .ref q9), (0, .ref (a 112)), (1, .int x), (2, .ref (a 113))]) hx hb dL_count_12 rfl hl (by decide) rfl (fun ls hl => ?_)
  refine lv_iconst (v := 1) hx hb dL_count_13 (by decide) ?_
  exact rw_ir hx hb hr rfl hlocks hS () hP rfl dL_count_14

set_option maxHeartbeats 4000000 in
set_option maxRecDepth 100000 in
theorem m_L_setting (l : Launch) (D : va_G) (cI cS cL : ClassId) (a : Nat → Nat) (s : St) (st : Nat → St) (pi : Nat → Nat) (mi po : St) (ov : Nat → Int64) (q : Nat) (hq : q < 2) (zz : Nat) : Met l yL_setting (.codeWith yL_setting cL_setting 4 (some .int) [(0, 9, 12, 25)] :: wsA) ({ frames := 2, cells := 0, slots := 0, locals := 41 } : Room) (va_Pc [.ref (a 112), .int (nI q), .ref (a 113)] (PO D cI cS cL 114 a (exOf (exC cI cS a s st pi mi po) cL ov) zz)) (va_Qi (fun (r : Int32) (u : Unit) => r = 0) (BW D 114 a (fun u => (exOf (exC cI cS a s st pi mi po) cL (vp_updL ov 0 (s 10 q).toInt64)))) (AX 114 a zz)) 0 0 (AX 114 a zz) := by
  refine mgl (by decide) (Nat.le_of_ble_eq_true rfl) ?_
  intro p e z m below meth c hx hb hr hml hown hts hlocks htab hB ls hl
  obtain ⟨hsz, hP, hK, hE, hKL, hX⟩ := hB
  subst hsz
  have hS : va_S (AX 114 a z.heap.size) z.heap z.heap [] := va_S.rf
  have hl : lv_has ls 4 [(0, .ref (a 112)), (1, .int (nI q)), (2, .ref (a 113))] := hl
  refine lv_aload_n hx hb dL_setting_0 rfl (lv_at hl 2 rfl) ?_
  refine lv_iconst (v := 0) hx hb dL_setting_1 (by decide) ?_
  refine lv_aload_n hx hb dL_setting_2 rfl (lv_at hl 0 rfl) ?_
  refine lv_iload_n hx hb dL_setting_3 rfl (lv_at hl 1 rfl) ?_
  refine ro_i (va_runV (As := [.int (nI q)]) (rest := [.int 0, .ref (a 113)]) ⟨hx, hb, hml, hown, hts⟩ (m_X6_setting l D cI cS a s st pi mi po q hq) (cwV 1 hts (gV tw737 tw734 tw735 tw736 tw1) rfl rfl rfl (by decide +kernel) ⟨Nat.le_of_ble_eq_true rfl, Nat.le_of_ble_eq_true rfl⟩) (pvR' 112 rfl hK hP (by decide) rfl rfl (exO_s hP)) rfl rfl hl.1 rfl (lv_room (Nat.le_of_ble_eq_true rfl)) dL_setting_4 ⟨Nat.le_of_ble_eq_true rfl, Nat.le_of_ble_eq_true rfl⟩) (fun r9 hr9 => ?_)
  refine lv_i2l hx hb dL_setting_7 rfl ?_
  refine g_last hx hb hKL hP hE hS dL_setting_8 (fun H locs hP hS => ?_)
  refine lv_goto (tgt := 15) hx hb dL_setting_9 (by decide) ?_
  refine lv_iconst (v := 0) hx hb dL_setting_15 (by decide) ?_
  have hP := hP.cast (e' := (exOf (exC cI cS a s st pi mi po) cL (vp_updL ov 0 (s 10 q).toInt64))) (by rw [hr9])
  exact rw_ir hx hb hr rfl hlocks hS () hP rfl dL_setting_16

set_option maxHeartbeats 4000000 in
set_option maxRecDepth 100000 in
theorem mt_L_setting (l : Launch) (hst : l.stackTraces = false) (D : va_G) (cI cS cL : ClassId) (a : Nat → Nat) (s : St) (st : Nat → St) (pi : Nat → Nat) (mi po : St) (ov : Nat → Int64) (x : Int32) (hx9 : ¬ witB x 0 1) (zz : Nat) : Met l yL_setting (.codeWith yL_setting cL_setting 4 (some .int) [(0, 9, 12, 25)] :: wsA) ({ frames := 8, cells := 1, slots := 6, locals := 123 } : Room) (va_Pc [.ref (a 112), .int x, .ref (a 113)] (PO D cI cS cL 114 a (exOf (exC cI cS a s st pi mi po) cL ov) zz)) (va_Qi (fun (r : Int32) (u : Unit) => r = 1) (BW D 114 a (fun u => (exOf (exC cI cS a s st pi mi po) cL ov))) (AX 114 a zz)) 1 6 (AX 114 a zz) := by
  refine mgl (by decide) (Nat.le_of_ble_eq_true rfl) ?_
  intro p e z m below meth c hx hb hr hml hown hts hlocks htab hB ls hl
  obtain ⟨hsz, hP, hK, hE, hKL, hX⟩ := hB
  subst hsz
  have hS : va_S (AX 114 a z.heap.size) z.heap z.heap [] := va_S.rf
  have hl : lv_has ls 4 [(0, .ref (a 112)), (1, .int x), (2, .ref (a 113))] := hl
  refine lv_aload_n hx hb dL_setting_0 rfl (lv_at hl 2 rfl) ?_
  refine lv_iconst (v := 0) hx hb dL_setting_1 (by decide) ?_
  refine lv_aload_n hx hb dL_setting_2 rfl (lv_at hl 0 rfl) ?_
  refine lv_iload_n hx hb dL_setting_3 rfl (lv_at hl 1 rfl) ?_
  refine tx_c1 (vx_runV (As := [.int x]) (rest := [.int 0, .ref (a 113)]) ⟨hx, hb, hml, hown, hts⟩ (mt_X6_setting l a hst x hx9) (cwV 1 hts (gV tw737 tw734 tw735 tw736 tw1) rfl rfl rfl (by decide +kernel) ⟨Nat.le_of_ble_eq_true rfl, Nat.le_of_ble_eq_true rfl⟩) (pvX0 112 hK hP hX (by decide) rfl rfl) rfl rfl hl.1 rfl (lv_room (Nat.le_of_ble_eq_true rfl)) dL_setting_4 ⟨Nat.le_of_ble_eq_true rfl, Nat.le_of_ble_eq_true rfl⟩) hS hown htab (by decide) (by decide) hts tw606 (hX.1.2.1 _ (by decide)) (fun q9 H locs hq9 hS => ?_)
  have hP : HP D 114 a (exOf (exC cI cS a s st pi mi po) cL ov) H := hP.same hq9
  refine lv_astore_n (lv' := [(3, .ref q9), (0, .ref (a 112)), (1, .int x), (2, .ref (a 113))]) hx hb dL_setting_12 rfl hl (by decide) rfl (fun ls hl => ?_)
  refine lv_iconst (v := 1) hx hb dL_setting_13 (by decide) ?_
  exact rw_ir hx hb hr rfl hlocks hS () hP rfl dL_setting_14

set_option maxHeartbeats 4000000 in
set_option maxRecDepth 100000 in
theorem m_L_without (l : Launch) (D : va_G) (cI cS cL : ClassId) (a : Nat → Nat) (s : St) (st : Nat → St) (pi : Nat → Nat) (mi po : St) (ov : Nat → Int64) (w : Nat) (hw : w < 7) (zz : Nat) : Met l yL_without (.codeWith yL_without cL_without 4 (some .int) [(0, 9, 12, 25)] :: wsA) ({ frames := 5, cells := 0, slots := 0, locals := 109 } : Room) (va_Pc [.ref (a 112), .int (nI w), .ref (a 113)] (PO D cI cS cL 114 a (exOf (exC cI cS a s st pi mi po) cL ov) zz)) (va_Qi (fun (r : Int32) (u : St) => r = 0) (BW D 114 a (fun u => (exOf (exC cI cS a s st pi mi u) cL (vp_updL ov 0 (midW s w 0).toInt64)))) (AX 114 a zz)) 0 0 (AX 114 a zz) := by
  refine mgl (by decide) (Nat.le_of_ble_eq_true rfl) ?_
  intro p e z m below meth c hx hb hr hml hown hts hlocks htab hB ls hl
  obtain ⟨hsz, hP, hK, hE, hKL, hX⟩ := hB
  subst hsz
  have hS : va_S (AX 114 a z.heap.size) z.heap z.heap [] := va_S.rf
  have hl : lv_has ls 4 [(0, .ref (a 112)), (1, .int (nI w)), (2, .ref (a 113))] := hl
  refine lv_aload_n hx hb dL_without_0 rfl (lv_at hl 2 rfl) ?_
  refine lv_iconst (v := 0) hx hb dL_without_1 (by decide) ?_
  refine lv_aload_n hx hb dL_without_2 rfl (lv_at hl 0 rfl) ?_
  refine lv_iload_n hx hb dL_without_3 rfl (lv_at hl 1 rfl) ?_
  refine rwo_i hS hP hE (va_runV (As := [.int (nI w)]) (rest := [.int 0, .ref (a 113)]) ⟨hx, hb, hml, hown, hts⟩ (m_X6_without l D cI cS a s st pi mi po w hw _) (cwV 1 hts (gV tw529 tw741 tw527 tw528 tw1) rfl rfl rfl (by decide +kernel) ⟨Nat.le_of_ble_eq_true rfl, Nat.le_of_ble_eq_true rfl⟩) (pvW' 112 rfl hK hP (by decide) rfl rfl (exO_s hP) (DI_s hE)) rfl rfl hl.1 rfl (lv_room (Nat.le_of_ble_eq_true rfl)) dL_without_4 ⟨Nat.le_of_ble_eq_true rfl, Nat.le_of_ble_eq_true rfl⟩) (fun r9 u H locs hr9 hP hS => ?_)
  refine lv_i2l hx hb dL_without_7 rfl ?_
  refine g_last hx hb hKL hP hE hS dL_without_8 (fun H locs hP hS => ?_)
  refine lv_goto (tgt := 15) hx hb dL_without_9 (by decide) ?_
  refine lv_iconst (v := 0) hx hb dL_without_15 (by decide) ?_
  have hP := hP.cast (e' := (exOf (exC cI cS a s st pi mi u) cL (vp_updL ov 0 (midW s w 0).toInt64))) (by rw [hr9])
  exact rw_ir hx hb hr rfl hlocks hS u hP rfl dL_without_16

set_option maxHeartbeats 4000000 in
set_option maxRecDepth 100000 in
theorem mt_L_without (l : Launch) (hst : l.stackTraces = false) (D : va_G) (cI cS cL : ClassId) (a : Nat → Nat) (s : St) (st : Nat → St) (pi : Nat → Nat) (mi po : St) (ov : Nat → Int64) (x : Int32) (hx9 : ¬ witB x 0 6) (zz : Nat) : Met l yL_without (.codeWith yL_without cL_without 4 (some .int) [(0, 9, 12, 25)] :: wsA) ({ frames := 8, cells := 1, slots := 6, locals := 123 } : Room) (va_Pc [.ref (a 112), .int x, .ref (a 113)] (PO D cI cS cL 114 a (exOf (exC cI cS a s st pi mi po) cL ov) zz)) (va_Qi (fun (r : Int32) (u : Unit) => r = 1) (BW D 114 a (fun u => (exOf (exC cI cS a s st pi mi po) cL ov))) (AX 114 a zz)) 1 6 (AX 114 a zz) := by
  refine mgl (by decide) (Nat.le_of_ble_eq_true rfl) ?_
  intro p e z m below meth c hx hb hr hml hown hts hlocks htab hB ls hl
  obtain ⟨hsz, hP, hK, hE, hKL, hX⟩ := hB
  subst hsz
  have hS : va_S (AX 114 a z.heap.size) z.heap z.heap [] := va_S.rf
  have hl : lv_has ls 4 [(0, .ref (a 112)), (1, .int x), (2, .ref (a 113))] := hl
  refine lv_aload_n hx hb dL_without_0 rfl (lv_at hl 2 rfl) ?_
  refine lv_iconst (v := 0) hx hb dL_without_1 (by decide) ?_
  refine lv_aload_n hx hb dL_without_2 rfl (lv_at hl 0 rfl) ?_
  refine lv_iload_n hx hb dL_without_3 rfl (lv_at hl 1 rfl) ?_
  refine tx_c1 (vx_runV (As := [.int x]) (rest := [.int 0, .ref (a 113)]) ⟨hx, hb, hml, hown, hts⟩ (mt_X6_without l a hst x hx9) (cwV 1 hts (gV tw529 tw741 tw527 tw528 tw1) rfl rfl rfl (by decide +kernel) ⟨Nat.le_of_ble_eq_true rfl, Nat.le_of_ble_eq_true rfl⟩) (pvX0 112 hK hP hX (by decide) rfl rfl) rfl rfl hl.1 rfl (lv_room (Nat.le_of_ble_eq_true rfl)) dL_without_4 ⟨Nat.le_of_ble_eq_true rfl, Nat.le_of_ble_eq_true rfl⟩) hS hown htab (by decide) (by decide) hts tw606 (hX.1.2.1 _ (by decide)) (fun q9 H locs hq9 hS => ?_)
  have hP : HP D 114 a (exOf (exC cI cS a s st pi mi po) cL ov) H := hP.same hq9
  refine lv_astore_n (lv' := [(3, .ref q9), (0, .ref (a 112)), (1, .int x), (2, .ref (a 113))]) hx hb dL_without_12 rfl hl (by decide) rfl (fun ls hl => ?_)
  refine lv_iconst (v := 1) hx hb dL_without_13 (by decide) ?_
  exact rw_ir hx hb hr rfl hlocks hS () hP rfl dL_without_14

set_option maxHeartbeats 4000000 in
set_option maxRecDepth 100000 in
theorem m_L_wins (l : Launch) (D : va_G) (cI cS cL : ClassId) (a : Nat → Nat) (s : St) (st : Nat → St) (pi : Nat → Nat) (mi po : St) (ov : Nat → Int64) (w : Nat) (hw : w < 7) (zz : Nat) : Met l yL_wins (.codeWith yL_wins cL_wins 4 (some .int) [(0, 9, 12, 25)] :: wsA) ({ frames := 5, cells := 0, slots := 0, locals := 111 } : Room) (va_Pc [.ref (a 112), .int (nI w), .ref (a 113)] (PO D cI cS cL 114 a (exOf (exC cI cS a s st pi mi po) cL ov) zz)) (va_Qi (fun (r : Int32) (u : St) => r = 0) (BW D 114 a (fun u => (exOf (exC cI cS a s st pi mi u) cL (vp_updL ov 0 (winF s w 9 1).toInt64)))) (AX 114 a zz)) 0 0 (AX 114 a zz) := by
  refine mgl (by decide) (Nat.le_of_ble_eq_true rfl) ?_
  intro p e z m below meth c hx hb hr hml hown hts hlocks htab hB ls hl
  obtain ⟨hsz, hP, hK, hE, hKL, hX⟩ := hB
  subst hsz
  have hS : va_S (AX 114 a z.heap.size) z.heap z.heap [] := va_S.rf
  have hl : lv_has ls 4 [(0, .ref (a 112)), (1, .int (nI w)), (2, .ref (a 113))] := hl
  refine lv_aload_n hx hb dL_wins_0 rfl (lv_at hl 2 rfl) ?_
  refine lv_iconst (v := 0) hx hb dL_wins_1 (by decide) ?_
  refine lv_aload_n hx hb dL_wins_2 rfl (lv_at hl 0 rfl) ?_
  refine lv_iload_n hx hb dL_wins_3 rfl (lv_at hl 1 rfl) ?_
  refine rwo_i hS hP hE (va_runV (As := [.int (nI w)]) (rest := [.int 0, .ref (a 113)]) ⟨hx, hb, hml, hown, hts⟩ (m_X6_wins l D cI cS a s st pi mi po w hw _) (cwV 1 hts (gV tw533 tw745 tw531 tw532 tw1) rfl rfl rfl (by decide +kernel) ⟨Nat.le_of_ble_eq_true rfl, Nat.le_of_ble_eq_true rfl⟩) (pvW' 112 rfl hK hP (by decide) rfl rfl (exO_s hP) (DI_s hE)) rfl rfl hl.1 rfl (lv_room (Nat.le_of_ble_eq_true rfl)) dL_wins_4 ⟨Nat.le_of_ble_eq_true rfl, Nat.le_of_ble_eq_true rfl⟩) (fun r9 u H locs hr9 hP hS => ?_)
  refine lv_i2l hx hb dL_wins_7 rfl ?_
  refine g_last hx hb hKL hP hE hS dL_wins_8 (fun H locs hP hS => ?_)
  refine lv_goto (tgt := 15) hx hb dL_wins_9 (by decide) ?_
  refine lv_iconst (v := 0) hx hb dL_wins_15 (by decide) ?_
  have hP := hP.cast (e' := (exOf (exC cI cS a s st pi mi u) cL (vp_updL ov 0 (winF s w 9 1).toInt64))) (by rw [hr9])
  exact rw_ir hx hb hr rfl hlocks hS u hP rfl dL_wins_16

set_option maxHeartbeats 4000000 in
set_option maxRecDepth 100000 in
theorem mt_L_wins (l : Launch) (hst : l.stackTraces = false) (D : va_G) (cI cS cL : ClassId) (a : Nat → Nat) (s : St) (st : Nat → St) (pi : Nat → Nat) (mi po : St) (ov : Nat → Int64) (x : Int32) (hx9 : ¬ witB x 0 6) (zz : Nat) : Met l yL_wins (.codeWith yL_wins cL_wins 4 (some .int) [(0, 9, 12, 25)] :: wsA) ({ frames := 8, cells := 1, slots := 6, locals := 125 } : Room) (va_Pc [.ref (a 112), .int x, .ref (a 113)] (PO D cI cS cL 114 a (exOf (exC cI cS a s st pi mi po) cL ov) zz)) (va_Qi (fun (r : Int32) (u : Unit) => r = 1) (BW D 114 a (fun u => (exOf (exC cI cS a s st pi mi po) cL ov))) (AX 114 a zz)) 1 6 (AX 114 a zz) := by
  refine mgl (by decide) (Nat.le_of_ble_eq_true rfl) ?_
  intro p e z m below meth c hx hb hr hml hown hts hlocks htab hB ls hl
  obtain ⟨hsz, hP, hK, hE, hKL, hX⟩ := hB
  subst hsz
  have hS : va_S (AX 114 a z.heap.size) z.heap z.heap [] := va_S.rf
  have hl : lv_has ls 4 [(0, .ref (a 112)), (1, .int x), (2, .ref (a 113))] := hl
  refine lv_aload_n hx hb dL_wins_0 rfl (lv_at hl 2 rfl) ?_
  refine lv_iconst (v := 0) hx hb dL_wins_1 (by decide) ?_
  refine lv_aload_n hx hb dL_wins_2 rfl (lv_at hl 0 rfl) ?_
  refine lv_iload_n hx hb dL_wins_3 rfl (lv_at hl 1 rfl) ?_
  refine tx_c1 (vx_runV (As := [.int x]) (rest := [.int 0, .ref (a 113)]) ⟨hx, hb, hml, hown, hts⟩ (mt_X6_wins l a hst x hx9) (cwV 1 hts (gV tw533 tw745 tw531 tw532 tw1) rfl rfl rfl (by decide +kernel) ⟨Nat.le_of_ble_eq_true rfl, Nat.le_of_ble_eq_true rfl⟩) (pvX0 112 hK hP hX (by decide) rfl rfl) rfl rfl hl.1 rfl (lv_room (Nat.le_of_ble_eq_true rfl)) dL_wins_4 ⟨Nat.le_of_ble_eq_true rfl, Nat.le_of_ble_eq_true rfl⟩) hS hown htab (by decide) (by decide) hts tw606 (hX.1.2.1 _ (by decide)) (fun q9 H locs hq9 hS => ?_)
  have hP : HP D 114 a (exOf (exC cI cS a s st pi mi po) cL ov) H := hP.same hq9
  refine lv_astore_n (lv' := [(3, .ref q9), (0, .ref (a 112)), (1, .int x), (2, .ref (a 113))]) hx hb dL_wins_12 rfl hl (by decide) rfl (fun ls hl => ?_)
  refine lv_iconst (v := 1) hx hb dL_wins_13 (by decide) ?_
  exact rw_ir hx hb hr rfl hlocks hS () hP rfl dL_wins_14

set_option maxHeartbeats 4000000 in
set_option maxRecDepth 100000 in
theorem m_L_quarrelIn (l : Launch) (D : va_G) (cI cS cL : ClassId) (a : Nat → Nat) (s : St) (st : Nat → St) (pi : Nat → Nat) (mi po : St) (ov : Nat → Int64) (d : Nat) (hd : d < 7) (zz : Nat) : Met l yL_quarrelIn (.codeWith yL_quarrelIn cL_quarrelIn 4 (some .int) [(0, 9, 12, 25)] :: wsA) ({ frames := 4, cells := 0, slots := 0, locals := 89 } : Room) (va_Pc [.ref (a 112), .int (nI d), .ref (a 113)] (PO D cI cS cL 114 a (exOf (exC cI cS a s st pi mi po) cL ov) zz)) (va_Qi (fun (r : Int32) (u : Unit) => r = 0) (BW D 114 a (fun u => (exOf (exC cI cS a s st pi mi po) cL (vp_updL ov 0 (qF s d (behN d) 201 0 (s 1 d) (s 1 (behN d))).toInt64)))) (AX 114 a zz)) 0 0 (AX 114 a zz) := by
  refine mgl (by decide) (Nat.le_of_ble_eq_true rfl) ?_
  intro p e z m below meth c hx hb hr hml hown hts hlocks htab hB ls hl
  obtain ⟨hsz, hP, hK, hE, hKL, hX⟩ := hB
  subst hsz
  have hS : va_S (AX 114 a z.heap.size) z.heap z.heap [] := va_S.rf
  have hl : lv_has ls 4 [(0, .ref (a 112)), (1, .int (nI d)), (2, .ref (a 113))] := hl
  refine lv_aload_n hx hb dL_quarrelIn_0 rfl (lv_at hl 2 rfl) ?_
  refine lv_iconst (v := 0) hx hb dL_quarrelIn_1 (by decide) ?_
  refine lv_aload_n hx hb dL_quarrelIn_2 rfl (lv_at hl 0 rfl) ?_
  refine lv_iload_n hx hb dL_quarrelIn_3 rfl (lv_at hl 1 rfl) ?_
  refine ro_i (va_runV (As := [.int (nI d)]) (rest := [.int 0, .ref (a 113)]) ⟨hx, hb, hml, hown, hts⟩ (m_X6_quarrelIn l D cI cS a s st pi mi po d hd) (cwV 1 hts (gV tw470 tw749 tw468 tw469 tw1) rfl rfl rfl (by decide +kernel) ⟨Nat.le_of_ble_eq_true rfl, Nat.le_of_ble_eq_true rfl⟩) (pvR' 112 rfl hK hP (by decide) rfl rfl (exO_s hP)) rfl rfl hl.1 rfl (lv_room (Nat.le_of_ble_eq_true rfl)) dL_quarrelIn_4 ⟨Nat.le_of_ble_eq_true rfl, Nat.le_of_ble_eq_true rfl⟩) (fun r9 hr9 => ?_)
  refine lv_i2l hx hb dL_quarrelIn_7 rfl ?_
  refine g_last hx hb hKL hP hE hS dL_quarrelIn_8 (fun H locs hP hS => ?_)
  refine lv_goto (tgt := 15) hx hb dL_quarrelIn_9 (by decide) ?_
  refine lv_iconst (v := 0) hx hb dL_quarrelIn_15 (by decide) ?_
  have hP := hP.cast (e' := (exOf (exC cI cS a s st pi mi po) cL (vp_updL ov 0 (qF s d (behN d) 201 0 (s 1 d) (s 1 (behN d))).toInt64))) (by rw [hr9])
  exact rw_ir hx hb hr rfl hlocks hS () hP rfl dL_quarrelIn_16

set_option maxHeartbeats 4000000 in
set_option maxRecDepth 100000 in
theorem mt_L_quarrelIn (l : Launch) (hst : l.stackTraces = false) (D : va_G) (cI cS cL : ClassId) (a : Nat → Nat) (s : St) (st : Nat → St) (pi : Nat → Nat) (mi po : St) (ov : Nat → Int64) (x : Int32) (hx9 : ¬ witB x 0 6) (zz : Nat) : Met l yL_quarrelIn (.codeWith yL_quarrelIn cL_quarrelIn 4 (some .int) [(0, 9, 12, 25)] :: wsA) ({ frames := 8, cells := 1, slots := 6, locals := 123 } : Room) (va_Pc [.ref (a 112), .int x, .ref (a 113)] (PO D cI cS cL 114 a (exOf (exC cI cS a s st pi mi po) cL ov) zz)) (va_Qi (fun (r : Int32) (u : Unit) => r = 1) (BW D 114 a (fun u => (exOf (exC cI cS a s st pi mi po) cL ov))) (AX 114 a zz)) 1 6 (AX 114 a zz) := by
  refine mgl (by decide) (Nat.le_of_ble_eq_true rfl) ?_
  intro p e z m below meth c hx hb hr hml hown hts hlocks htab hB ls hl
  obtain ⟨hsz, hP, hK, hE, hKL, hX⟩ := hB
  subst hsz
  have hS : va_S (AX 114 a z.heap.size) z.heap z.heap [] := va_S.rf
  have hl : lv_has ls 4 [(0, .ref (a 112)), (1, .int x), (2, .ref (a 113))] := hl
  refine lv_aload_n hx hb dL_quarrelIn_0 rfl (lv_at hl 2 rfl) ?_
  refine lv_iconst (v := 0) hx hb dL_quarrelIn_1 (by decide) ?_
  refine lv_aload_n hx hb dL_quarrelIn_2 rfl (lv_at hl 0 rfl) ?_
  refine lv_iload_n hx hb dL_quarrelIn_3 rfl (lv_at hl 1 rfl) ?_
  refine tx_c1 (vx_runV (As := [.int x]) (rest := [.int 0, .ref (a 113)]) ⟨hx, hb, hml, hown, hts⟩ (mt_X6_quarrelIn l a hst x hx9) (cwV 1 hts (gV tw470 tw749 tw468 tw469 tw1) rfl rfl rfl (by decide +kernel) ⟨Nat.le_of_ble_eq_true rfl, Nat.le_of_ble_eq_true rfl⟩) (pvX0 112 hK hP hX (by decide) rfl rfl) rfl rfl hl.1 rfl (lv_room (Nat.le_of_ble_eq_true rfl)) dL_quarrelIn_4 ⟨Nat.le_of_ble_eq_true rfl, Nat.le_of_ble_eq_true rfl⟩) hS hown htab (by decide) (by decide) hts tw606 (hX.1.2.1 _ (by decide)) (fun q9 H locs hq9 hS => ?_)
  have hP : HP D 114 a (exOf (exC cI cS a s st pi mi po) cL ov) H := hP.same hq9
  refine lv_astore_n (lv' := [(3, .ref q9), (0, .ref (a 112)), (1, .int x), (2, .ref (a 113))]) hx hb dL_quarrelIn_12 rfl hl (by decide) rfl (fun ls hl => ?_)
  refine lv_iconst (v := 1) hx hb dL_quarrelIn_13 (by decide) ?_
  exact rw_ir hx hb hr rfl hlocks hS () hP rfl dL_quarrelIn_14

set_option maxHeartbeats 4000000 in
set_option maxRecDepth 100000 in
theorem m_L_ringsIn (l : Launch) (D : va_G) (cI cS cL : ClassId) (a : Nat → Nat) (s : St) (st : Nat → St) (pi : Nat → Nat) (mi po : St) (ov : Nat → Int64) (d : Nat) (hd : d < 7) (zz : Nat) : Met l yL_ringsIn (.codeWith yL_ringsIn cL_ringsIn 4 (some .int) [(0, 9, 12, 25)] :: wsA) ({ frames := 3, cells := 0, slots := 0, locals := 68 } : Room) (va_Pc [.ref (a 112), .int (nI d), .ref (a 113)] (PO D cI cS cL 114 a (exOf (exC cI cS a s st pi mi po) cL ov) zz)) (va_Qi (fun (r : Int32) (u : Unit) => r = 0) (BW D 114 a (fun u => (exOf (exC cI cS a s st pi mi po) cL (vp_updL ov 0 (ringF s d (s 1 d / 60) 200 1 (s 1 d)).toInt64)))) (AX 114 a zz)) 0 0 (AX 114 a zz) := by
  refine mgl (by decide) (Nat.le_of_ble_eq_true rfl) ?_
  intro p e z m below meth c hx hb hr hml hown hts hlocks htab hB ls hl
  obtain ⟨hsz, hP, hK, hE, hKL, hX⟩ := hB
  subst hsz
  have hS : va_S (AX 114 a z.heap.size) z.heap z.heap [] := va_S.rf
  have hl : lv_has ls 4 [(0, .ref (a 112)), (1, .int (nI d)), (2, .ref (a 113))] := hl
  refine lv_aload_n hx hb dL_ringsIn_0 rfl (lv_at hl 2 rfl) ?_
  refine lv_iconst (v := 0) hx hb dL_ringsIn_1 (by decide) ?_
  refine lv_aload_n hx hb dL_ringsIn_2 rfl (lv_at hl 0 rfl) ?_
  refine lv_iload_n hx hb dL_ringsIn_3 rfl (lv_at hl 1 rfl) ?_
  refine ro_i (va_runV (As := [.int (nI d)]) (rest := [.int 0, .ref (a 113)]) ⟨hx, hb, hml, hown, hts⟩ (m_X6_ringsIn l D cI cS a s st pi mi po d hd) (cwV 1 hts (gV tw502 tw753 tw500 tw501 tw1) rfl rfl rfl (by decide +kernel) ⟨Nat.le_of_ble_eq_true rfl, Nat.le_of_ble_eq_true rfl⟩) (pvR' 112 rfl hK hP (by decide) rfl rfl (exO_s hP)) rfl rfl hl.1 rfl (lv_room (Nat.le_of_ble_eq_true rfl)) dL_ringsIn_4 ⟨Nat.le_of_ble_eq_true rfl, Nat.le_of_ble_eq_true rfl⟩) (fun r9 hr9 => ?_)
  refine lv_i2l hx hb dL_ringsIn_7 rfl ?_
  refine g_last hx hb hKL hP hE hS dL_ringsIn_8 (fun H locs hP hS => ?_)
  refine lv_goto (tgt := 15) hx hb dL_ringsIn_9 (by decide) ?_
  refine lv_iconst (v := 0) hx hb dL_ringsIn_15 (by decide) ?_
  have hP := hP.cast (e' := (exOf (exC cI cS a s st pi mi po) cL (vp_updL ov 0 (ringF s d (s 1 d / 60) 200 1 (s 1 d)).toInt64))) (by rw [hr9])
  exact rw_ir hx hb hr rfl hlocks hS () hP rfl dL_ringsIn_16

set_option maxHeartbeats 4000000 in
set_option maxRecDepth 100000 in
theorem mt_L_ringsIn (l : Launch) (hst : l.stackTraces = false) (D : va_G) (cI cS cL : ClassId) (a : Nat → Nat) (s : St) (st : Nat → St) (pi : Nat → Nat) (mi po : St) (ov : Nat → Int64) (x : Int32) (hx9 : ¬ witB x 0 6) (zz : Nat) : Met l yL_ringsIn (.codeWith yL_ringsIn cL_ringsIn 4 (some .int) [(0, 9, 12, 25)] :: wsA) ({ frames := 8, cells := 1, slots := 6, locals := 123 } : Room) (va_Pc [.ref (a 112), .int x, .ref (a 113)] (PO D cI cS cL 114 a (exOf (exC cI cS a s st pi mi po) cL ov) zz)) (va_Qi (fun (r : Int32) (u : Unit) => r = 1) (BW D 114 a (fun u => (exOf (exC cI cS a s st pi mi po) cL ov))) (AX 114 a zz)) 1 6 (AX 114 a zz) := by
  refine mgl (by decide) (Nat.le_of_ble_eq_true rfl) ?_
  intro p e z m below meth c hx hb hr hml hown hts hlocks htab hB ls hl
  obtain ⟨hsz, hP, hK, hE, hKL, hX⟩ := hB
  subst hsz
  have hS : va_S (AX 114 a z.heap.size) z.heap z.heap [] := va_S.rf
  have hl : lv_has ls 4 [(0, .ref (a 112)), (1, .int x), (2, .ref (a 113))] := hl
  refine lv_aload_n hx hb dL_ringsIn_0 rfl (lv_at hl 2 rfl) ?_
  refine lv_iconst (v := 0) hx hb dL_ringsIn_1 (by decide) ?_
  refine lv_aload_n hx hb dL_ringsIn_2 rfl (lv_at hl 0 rfl) ?_
  refine lv_iload_n hx hb dL_ringsIn_3 rfl (lv_at hl 1 rfl) ?_
  refine tx_c1 (vx_runV (As := [.int x]) (rest := [.int 0, .ref (a 113)]) ⟨hx, hb, hml, hown, hts⟩ (mt_X6_ringsIn l a hst x hx9) (cwV 1 hts (gV tw502 tw753 tw500 tw501 tw1) rfl rfl rfl (by decide +kernel) ⟨Nat.le_of_ble_eq_true rfl, Nat.le_of_ble_eq_true rfl⟩) (pvX0 112 hK hP hX (by decide) rfl rfl) rfl rfl hl.1 rfl (lv_room (Nat.le_of_ble_eq_true rfl)) dL_ringsIn_4 ⟨Nat.le_of_ble_eq_true rfl, Nat.le_of_ble_eq_true rfl⟩) hS hown htab (by decide) (by decide) hts tw606 (hX.1.2.1 _ (by decide)) (fun q9 H locs hq9 hS => ?_)
  have hP : HP D 114 a (exOf (exC cI cS a s st pi mi po) cL ov) H := hP.same hq9
  refine lv_astore_n (lv' := [(3, .ref q9), (0, .ref (a 112)), (1, .int x), (2, .ref (a 113))]) hx hb dL_ringsIn_12 rfl hl (by decide) rfl (fun ls hl => ?_)
  refine lv_iconst (v := 1) hx hb dL_ringsIn_13 (by decide) ?_
  exact rw_ir hx hb hr rfl hlocks hS () hP rfl dL_ringsIn_14
