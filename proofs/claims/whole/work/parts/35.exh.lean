/-! what the class throws: the words, the texts, the two statics -/
abbrev eI : String := "java/lang/IndexOutOfBoundsException"
abbrev eA : String := "java/lang/IllegalArgumentException"
abbrev eS : String := "java/lang/IllegalStateException"
abbrev exNm : List String := ["java/lang/RuntimeException", "java/lang/Exception"]
def nwW : List Cond := [.declares (Bundle.initS "java/lang/RuntimeException"), .declares (Bundle.initS "java/lang/Exception"), .declares (Bundle.initS Bundle.tN), .castable eI eI, .castable eA eA, .castable eS eS]
set_option maxRecDepth 100000 in
theorem at_I0 : ∀ w ∈ vx_atS RX6 253 eI exNm, w ∈ lw_tbl ∧ (goodWord w = true ∨ w ∈ nwW) ∧ vx_ot w = true := by decide +kernel
set_option maxRecDepth 100000 in
theorem at_A0 : ∀ w ∈ vx_atS RX6 48 eA exNm, w ∈ lw_tbl ∧ (goodWord w = true ∨ w ∈ nwW) ∧ vx_ot w = true := by decide +kernel
set_option maxRecDepth 100000 in
theorem at_S0 : ∀ w ∈ vx_atS RX6 79 eS exNm, w ∈ lw_tbl ∧ (goodWord w = true ∨ w ∈ nwW) ∧ vx_ot w = true := by decide +kernel
theorem nw_tab : ∀ w ∈ nwW, w.onTables = true := by decide +kernel
def XStr : List (Nat × String) := [(46, "ticks"), (77, "all weights are 0"), (95, "minutes"), (104, "drift"), (113, "weight"), (115, "lie"), (126, "value"), (131, "code"), (136, "the buffer is full"), (151, "no complete orders"), (163, "no snapshot"), (168, "no saved state"), (173, "what"), (251, "no such dial or warden"), (254, "no such setting")]
def EV (U : State) : Prop := (∀ q ∈ XStr, ∃ sa, vk_R RX6 q.1 q.2 sa U) ∧ (∀ w ∈ nwW, va_Nw w U) ∧ va_Nc eA eI U ∧ va_Nc eS eA U
def EH (A : Nat → Prop) (U : State) (H : Heap) : Prop := vx_Zq Bundle.tN "UNASSIGNED_STACK" Bundle.steD A U H ∧ vx_Zq Bundle.tN "SUPPRESSED_SENTINEL" Bundle.listD A U H
theorem EV.same {u U : State} (h : u.vm = U.vm) (hX : EV u) : EV U :=
  ⟨fun q hq => (hX.1 q hq).elim (fun sa hs => ⟨sa, vk_R.same h.symm hs⟩), fun w hw => va_Nw.same (nw_tab w hw) h (hX.2.1 w hw), va_Nc.moved (by rw [h]; exact Vm.Alike.refl _) hX.2.2.1, va_Nc.moved (by rw [h]; exact Vm.Alike.refl _) hX.2.2.2⟩
theorem nw_warm {s U : State} (hW : s.WarmedH U.vm) : ∀ w ∈ nwW, va_Nw w s → va_Nw w U := by
  intro w hw h
  simp only [nwW, List.mem_cons, List.not_mem_nil, or_false] at hw
  rcases hw with rfl | rfl | rfl | rfl | rfl | rfl
  · exact va_Nw.warmD hW h
  · exact va_Nw.warmD hW h
  · exact va_Nw.warmD hW h
  · exact va_Nw.warmC hW h
  · exact va_Nw.warmC hW h
  · exact va_Nw.warmC hW h
theorem EV.warm {s U : State} (hW : s.WarmedH U.vm) (hX : EV s) : EV U :=
  ⟨fun q hq => (hX.1 q hq).elim (fun sa hs => ⟨sa, vk_R.warm hW hs⟩), fun w hw => nw_warm hW w hw (hX.2.1 w hw), va_Nc.moved hW.alike hX.2.2.1, va_Nc.moved hW.alike hX.2.2.2⟩
theorem EH.moved {A : Nat → Prop} {u U : State} {H : Heap} (h : u.vm.Alike U.vm) (hX : EH A u H) : EH A U H := ⟨vx_Zq.moved h hX.1, vx_Zq.moved h hX.2⟩
theorem EH.kept {A : Nat → Prop} {U : State} {H H1 : Heap} (hX : EH A U H) (hq : ∀ a : Nat, a < H.size → ¬ A a → H1[a]? = H[a]?) : EH A U H1 := ⟨vx_Zq.kept hX.1 hq, vx_Zq.kept hX.2 hq⟩
theorem EH.narrow {A B : Nat → Prop} {U : State} {H : Heap} (hX : EH A U H) (hAB : ∀ q, B q → A q) : EH B U H := ⟨vx_Zq.narrow hX.1 hAB, vx_Zq.narrow hX.2 hAB⟩
def EX0 (U : State) : Prop := EV U ∧ EH (fun _ => False) U U.heap
theorem EX0.same {u U : State} (h : u.vm = U.vm) (hh : U.heap = u.heap) (hX : EX0 u) : EX0 U := ⟨hX.1.same h, by rw [hh]; exact hX.2.moved (by rw [h]; exact Vm.Alike.refl _)⟩
theorem EX0.warm {s U : State} (hW : s.WarmedH U.vm) (hh : U.heap = s.heap) (hX : EX0 s) : EX0 U := ⟨hX.1.warm hW, by rw [hh]; exact hX.2.moved hW.alike⟩
/-- what a method that throws is given: the world to read; nothing but the throw's own -/
def PE (D : va_G) (cI cS : ClassId) (nn : Nat) (a : Nat → Nat) (e : Nat → va_E) : State → Prop := fun U => HP D nn a e U.heap ∧ KX D cI cS U ∧ EX0 U
theorem pbE {D : va_G} {cI cS : ClassId} {nn : Nat} {a : Nat → Nat} {e : Nat → va_E} {av : List Value} : FrameBlind (va_Pc av (PE D cI cS nn a e)) := fun a U g mk h => ⟨h.1, h.2.1, KX.same (u := U) (U := U.calling g mk a) rfl h.2.2.1, EX0.same (u := U) (U := U.calling g mk a) rfl rfl h.2.2.2⟩
theorem pb00 {av : List Value} : FrameBlind (va_Pc av EX0) := fun a U g mk h => ⟨h.1, EX0.same (u := U) (U := U.calling g mk a) rfl rfl h.2⟩
def QN : Array Value → State → Outcome → State → Prop := fun _ _ _ _ => False
def XP (E0 : String) : String → State → State → Prop := vx_X (fun _ : Unit => True) (fun E _ _ => E = E0) (fun _ : Nat => False)
theorem psX {s : State} {As : List Value} (hX : EX0 s) : PreS s s.heap (va_Pc As EX0) As := ⟨pb00, fun U hU hW => ⟨rfl, hX.warm hW hU⟩⟩
theorem pvX0 {D : va_G} {cI cS : ClassId} {s : State} {nn : Nat} {a : Nat → Nat} {e : Nat → va_E} {C : String} {T : u_T} {N ci : Nat} {fs As : List Value} (n : Nat) (hK : KX D cI cS s) (hP : HP D nn a e s.heap) (hX : EX0 s) (hn : n < nn) (he : e n = .inr (ci, fs)) (hc : vwCl[ci]? = some (C, T, N)) : PreV s s.heap C (a n) (va_Pc (.ref (a n) :: As) EX0) As :=
  ⟨pb00, g_recv hK hP hn he hc, fun U hU hW => ⟨rfl, hX.warm hW hU⟩⟩
theorem pvXE {D : va_G} {cI cS : ClassId} {s : State} {nn nn' : Nat} {a : Nat → Nat} {e e' : Nat → va_E} {C : String} {T : u_T} {N ci : Nat} {fs As : List Value} (n : Nat) (hK : KX D cI cS s) (hP : HP D nn a e s.heap) (hP' : HP D nn' a e' s.heap) (hX : EX0 s) (hn : n < nn) (he : e n = .inr (ci, fs)) (hc : vwCl[ci]? = some (C, T, N)) : PreV s s.heap C (a n) (va_Pc (.ref (a n) :: As) (PE D cI cS nn' a e')) As :=
  ⟨pbE, g_recv hK hP hn he hc, fun U hU hW => ⟨rfl, by rw [hU]; exact hP', hK.moved hW, hX.warm hW hU⟩⟩
section TX
variable {p : Program} {l : Launch} {e : Env} {R : Room} {s : State} {m : MethodId} {args : Array Value} {below : List Frame} {meth : Method} {c : Code} {H : Heap} {locs : List Loc} {cells slots : Nat} {Q : State → Prop}
variable {pc : Nat} {ls : Array Slot} {rest st0 : List Value} {cc : ByteArray} {Qc : Array Value → State → Outcome → State → Prop} {E0 : String}
/-- a method that throws, from its entry -/
theorem mgx {y : MethodName} {maxL : Nat} {ret : Option FieldType} {rm : Room} {av : List Value} {B : State → Prop} {XC : String → State → State → Prop} {mc ms : Nat} {free : Addr → Prop} (hy : plainName y.cls = true) (hn : (lg_sl av).length ≤ maxL)
    (body : ∀ (p : Program) (e : Env) (s : State) (m : MethodId) (below : List Frame) (meth : Method) (c : Code), p.tables.exec = Jvm.exec → c.code = cc → meth.sig.returnType = ret → c.maxLocals = maxL → s.vm.findClass y.cls = some m.cls → (∀ w ∈ wsA, w.before av.toArray s = true) → meth.locks = false → (∀ x ∈ c.exceptionTable.toList, False) → B s → ∀ ls : Array Slot, lv_has ls maxL (lv_args 0 av) → W p l e rm s m av.toArray below meth c s.heap [] 0 0 (vx_MQ below Qc XC av.toArray s mc ms free) (F0 m 0 ls [])) : vx_Met l y (.code y cc maxL ret :: wsA) rm (va_Pc av B) Qc XC mc ms free := by
  refine vx_ofW (cc := cc) (maxL := maxL) (ret := ret) hy rfl ?_
  intro p e s m args below meth c s₁ B0 hml ht hv
  obtain ⟨rfl, hB⟩ := hv
  have hts := atoms_spec (ws := .code y cc maxL ret :: wsA) B0.pre
  rw [lg_entry_eq]
  exact body p e s m below meth c B0.exec B0.bytes B0.returns hml (findClass_of_methodNamed B0.named) (fun w h => hts w (List.mem_cons_of_mem _ h)) B0.notSynchronized ht hB _ (lv_entry av hn)
theorem va_F0 {st t s u : State} (h : va_F (fun _ => False) st t) (h0 : st.heap = s.heap) (e1 : u.heap = t.heap) : va_F (fun _ => False) s u := by
  obtain ⟨hz, hk⟩ := h
  rw [h0] at hz hk
  exact ⟨by rw [e1]; exact hz, fun q h1 h2 => by rw [e1]; exact hk q h1 h2⟩
/-- a callee's throw, passed on -/
theorem tx_out {Qa : Array Value} (hr : vx_Run p l e R s m args below meth c s.heap [] 0 0 1 6 (F0 m pc ls st0) rest (QN Qa) (XP E0) (fun _ => False)) (ht : ∀ x ∈ c.exceptionTable.toList, False) (hlocks : meth.locks = false) : W p l e R s m args below meth c s.heap [] 0 0 (vx_MQ below Qc (XP E0) args s 1 6 (fun _ => False)) (F0 m pc ls st0) := by
  intro T hT X
  rcases hr T hT X with ⟨v, st₀, t, T', L, h0, X', hL, e1, e2, hf, st⟩ | ⟨q, st₀, t, T', L, E, ce, h0, X', hL, e1, e2, ⟨u, hp, hb, hF⟩, hce, hcv, hcl, st⟩
  · exact hf.elim
  · have hL0 : L = [] := by
      cases L with
      | nil => rfl
      | cons z r => exact (hL z List.mem_cons_self).elim
    subst hL0
    have K : vx_W p l e R s m args below meth c T'.heap ([] ++ []) (0 + 1) (0 + 6) (vx_MQ below Qc (XP E0) args s 1 6 (fun _ => False)) (F0 m pc ls rest) q :=
      vx_out (E := E) (ce := ce) (fun x hx => (ht x hx).elim) hlocks (by rw [e1]; exact hce) hcv hcl (fun t2 ht2 _ => ⟨(), trivial, hb, va_F0 hF h0 (ht2.trans e1)⟩) (fun z hz => absurd hz List.not_mem_nil) (Nat.le_refl _) (Nat.le_refl _)
    obtain ⟨t2, a1, b1⟩ := K T' rfl X'
    exact ⟨t2, st.trans a1, b1⟩
/-- a callee's throw, caught here -/
theorem tx_catch {Qa : Array Value} {A0 : Nat → Prop} {H0 : Heap} {own name : String} (hr : vx_Run p l e R s m args below meth c H locs cells slots 1 6 (F0 m pc ls st0) rest (QN Qa) (XP E0) (fun _ => False)) (hS : va_S A0 H0 H locs) (hown : s.vm.findClass own = some m.cls) (pre : List ExceptionTableEntry) (x : ExceptionTableEntry) (suf : List ExceptionTableEntry) (hsplit : c.exceptionTable.toList = pre ++ x :: suf)
    (hpass : ∀ z ∈ pre, covers z pc = false ∨ (z.catchType ≠ 0 ∧ ∃ nm : String, (Cond.classLink own z.catchType nm).before args s = true ∧ va_Nc E0 nm s)) (hx : covers x pc = true) (h0 : x.catchType ≠ 0)
    (hlink : (Cond.classLink own x.catchType name).before args s = true) (hcast : (Cond.castable E0 name).before args s = true)
    (kk : ∀ (q : Nat) (H1 : Heap) (locs1 : List Loc), (∀ z : Nat, z < H.size → H1[z]? = H[z]?) → va_S A0 H0 H1 locs1 → W p l e R s m args below meth c H1 locs1 (cells + 1) (slots + 6) Q (F0 m x.handlerPc ls [.ref q])) : W p l e R s m args below meth c H locs cells slots Q (F0 m pc ls st0) := by
  intro T hT X
  rcases hr T hT X with ⟨v, st₀, t, T', L, h1, X', hL, e1, e2, hf, st⟩ | ⟨q, st₀, t, T', L, E, ce, h1, X', hL, e1, e2, ⟨u, hp, hb, hF⟩, hce, hcv, hcl, st⟩
  · exact hf.elim
  · have hb : E = E0 := hb
    subst hb
    obtain ⟨k1, k2, k3⟩ := vx_keep (A0 := A0) (A1 := fun _ => False) (free := fun _ => False) h1 e1 hS (fun _ _ h => h.elim) (fun _ h => h.elim) hL hF
    have K : vx_W p l e R s m args below meth c T'.heap (locs ++ L) (cells + 1) (slots + 6) Q (F0 m pc ls rest) q :=
      vx_catch hown pre x suf hsplit hpass hx h0 hlink hcast (by rw [e1]; exact hce) hcv hcl (kk q T'.heap (locs ++ L) (fun z hz => k2 z hz (fun h => h)) k3)
    obtain ⟨t2, a1, b1⟩ := K T' rfl X'
    exact ⟨t2, st.trans a1, b1⟩
/-- 'throw new E("text")' of the class -/
theorem tx_new {a0 : Nat → Prop} {ik is ic : Nat} {cls text : String} (hx : p.tables.exec = Jvm.exec) (hb : c.code = cc) (hst : l.stackTraces = false) (hown : s.vm.findClass RX6 = some m.cls) (hts : ∀ w ∈ wsA, w.before args s = true) (hX : EX0 s) (hcls : Bundle.fit cls = true) (hk : Cond.classLink RX6 ik cls ∈ wsA) (hini : Cond.initialized cls ∈ wsA) (hat : ∀ w ∈ vx_atS RX6 ic cls exNm, w ∈ lw_tbl ∧ (goodWord w = true ∨ w ∈ nwW) ∧ vx_ot w = true) (htx : (is, text) ∈ XStr) (hsize : ls.size = c.maxLocals)
    (d0 : decode cc pc = .ok (.new ik, 3)) (d3 : decode cc (pc + 3) = .ok (.dup, 1)) (d4 : decode cc (pc + 4) = .ok (.ldc is, 2)) (d6 : decode cc (pc + 6) = .ok (.invokespecial ic, 3)) (d9 : decode cc (pc + 9) = .ok (.athrow, 1)) (ht : ∀ x ∈ c.exceptionTable.toList, False) (hlocks : meth.locks = false)
    (hR : 6 ≤ R.frames ∧ 82 ≤ R.locals ∧ 1 ≤ R.cells ∧ 6 ≤ R.slots) : W p l e R s m args below meth c s.heap [] 0 0 (vx_MQ below Qc (XP cls) args s 1 6 (fun _ => False)) (F0 m pc ls []) := by
  obtain ⟨sa, hsa⟩ := hX.1.1 _ htx
  refine vx_throwS (sa := sa) (names := exNm) (A := fun _ => False) hx hb hst hown hcls (by decide +kernel) (hts _ hk) (hts _ hini) hsa (fun w hw => ?_) (fun w hw => ?_) hX.2.1 hX.2.2 va_S.rf hsize d0 d3 d4 d6 d9 (fun x hx => (ht x hx).elim) ?_ ?_ ?_ ?_ hlocks (fun t _ h1 h2 => ⟨(), trivial, rfl, h1, fun q h3 _ => h2 q h3⟩) (fun z hz => absurd hz List.not_mem_nil) (Nat.le_refl _) (Nat.le_refl _)
  · rcases (hat w hw).2.1 with h | h
    · exact hts w (List.mem_filter.mpr ⟨(hat w hw).1, h⟩)
    · exact va_Nw.use (nw_tab w h) (hX.1.2.1 w h)
  · rcases List.mem_cons.mp hw with rfl | hw
    · rfl
    · rcases List.mem_cons.mp hw with rfl | hw
      · rfl
      · exact (hat w hw).2.2
  · show 2 + 3 < R.frames; omega
  · show 0 + (13 * (2 + 1) + 43) ≤ R.locals; omega
  · omega
  · omega
end TX
theorem nwit {x lo hi : Int32} (h : ¬ witB x lo hi) (h1 : ¬ x < lo) : ¬ x ≤ hi := fun h2 => h ⟨Int32.not_lt.mp h1, h2⟩
theorem nwit7 {x lo : Int32} {k : Int32} (hi : Int32) (hk : k.toInt = hi.toInt + 1) (h : ¬ witB x lo hi) (h1 : ¬ x < lo) : ¬ x < k := fun h2 => h ⟨Int32.not_lt.mp h1, by rw [i_lt, hk] at h2; rw [i_le]; omega⟩
