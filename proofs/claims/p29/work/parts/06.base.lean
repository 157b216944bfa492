/-! own rows: a world is 'nn cells at the addresses a k, holding e k'; one context KX for all methods; words out of one list wsA -/
section BASE0
abbrev St : Type := Nat → Nat → Int32
def up2 (s : St) (r k : Nat) (v : Int32) : St := fun r' => if r' = r then upd (s r) k v else s r'
def upR (s : St) (r : Nat) (f : Nat → Int32) : St := fun r' => if r' = r then f else s r'
theorem up2_eq (s : St) (r k : Nat) (v : Int32) : up2 s r k v = upR s r (upd (s r) k v) := rfl
def HP (D : va_G) (nn : Nat) (a : Nat → Nat) (e : Nat → va_E) (H : Heap) : Prop := ∀ k, k < nn → va_at D vwCl (a k, e k) H
def wl (nn : Nat) (a : Nat → Nat) (e : Nat → va_E) : va_W := (List.range nn).map (fun k => (a k, e k))
theorem wl_len {nn : Nat} {a : Nat → Nat} {e : Nat → va_E} : (wl nn a e).length = nn := by simp [wl]
theorem wl_get {nn : Nat} {a : Nat → Nat} {e : Nat → va_E} {k : Nat} (hk : k < nn) : (wl nn a e)[k]? = some (a k, e k) := by simp [wl, hk]
theorem wl_get2 {nn : Nat} {a : Nat → Nat} {e : Nat → va_E} {k : Nat} {q : Nat × va_E} (h : (wl nn a e)[k]? = some q) : k < nn ∧ q = (a k, e k) := by
  have hk : k < nn := by
    have := (List.getElem?_eq_some_iff.mp h).1
    rwa [wl_len] at this
  rw [wl_get hk] at h
  exact ⟨hk, (Option.some.inj h).symm⟩
theorem HP.l {D : va_G} {nn : Nat} {a : Nat → Nat} {e : Nat → va_E} {H : Heap} (h : HP D nn a e H) : va_P D vwCl (wl nn a e) H := by
  intro k q hq
  obtain ⟨hk, rfl⟩ := wl_get2 hq
  exact h k hk
theorem HP.set {D : va_G} {nn : Nat} {a : Nat → Nat} {e e' : Nat → va_E} {H : Heap} {k : Nat} {x : va_E} (hk : k < nn) (hs : e' k = x) (ho : ∀ j, j < nn → j ≠ k → e' j = e j) (h : va_P D vwCl ((wl nn a e).set k (a k, x)) H) : HP D nn a e' H := by
  intro j hj
  by_cases hjk : j = k
  · subst hjk
    refine h j (a j, e' j) ?_
    rw [List.getElem?_set_self (by rw [wl_len]; exact hj), hs]
  · have h1 := h j (a j, e j) (by rw [List.getElem?_set_ne (Ne.symm hjk)]; exact wl_get hj)
    rw [ho j hj hjk]
    exact h1
theorem HP.kept {D : va_G} {nn : Nat} {a : Nat → Nat} {e : Nat → va_E} {H H1 : Heap} (h : HP D nn a e H) (hq : ∀ k, k < nn → H1[a k]? = H[a k]?) : HP D nn a e H1 := fun k hk => (h k hk).kept (hq k hk)
theorem HP.lt {D : va_G} {nn : Nat} {a : Nat → Nat} {e : Nat → va_E} {H : Heap} (h : HP D nn a e H) {k : Nat} (hk : k < nn) : a k < H.size := (h k hk).lt
def DI (nn : Nat) (a : Nat → Nat) : Prop := ∀ i j, i < nn → j < nn → a i = a j → i = j
def AX (nn : Nat) (a : Nat → Nat) (sz : Nat) : Nat → Prop := fun q => (∃ k, k < nn ∧ q = a k) ∨ sz ≤ q
theorem DI.D {nn : Nat} {a : Nat → Nat} {e : Nat → va_E} {sz : Nat} (h : DI nn a) : va_D (AX nn a sz) (wl nn a e) := by
  refine ⟨fun i j p q hi hj hpq => ?_, fun k q hk => ?_⟩
  · obtain ⟨h1, rfl⟩ := wl_get2 hi
    obtain ⟨h2, rfl⟩ := wl_get2 hj
    exact h i j h1 h2 hpq
  · obtain ⟨h1, rfl⟩ := wl_get2 hk
    exact Or.inl ⟨k, h1, rfl⟩
theorem AX_mono {nn : Nat} {a : Nat → Nat} {sz sz' : Nat} (h : sz ≤ sz') {q : Nat} (hq : AX nn a sz' q) : AX nn a sz q := by
  rcases hq with hq | hq
  · exact Or.inl hq
  · exact Or.inr (Nat.le_trans h hq)
def KX (D : va_G) (cI cS : ClassId) (U : State) : Prop := va_K D vwCl [(cI, .int), (cS, .object RX4)] U ∧ ∀ w ∈ nestW, va_Nw w U
theorem KX.same {D : va_G} {cI cS : ClassId} {u U : State} (h : u.vm = U.vm) (hK : KX D cI cS u) : KX D cI cS U := by
  refine ⟨va_K.moved (by rw [h]; exact Vm.Alike.refl _) hK.1, fun w hw => ?_⟩
  have h1 := hK.2 w hw
  rcases nestW_keep w hw with ⟨a, b, c, d, e, f, rfl⟩ | ⟨a, b, c, d, rfl⟩
  · exact va_Nw.same rfl h h1
  · exact va_Nw.same rfl h h1
theorem KX.moved {D : va_G} {cI cS : ClassId} {s U : State} (hW : s.WarmedH U.vm) (hK : KX D cI cS s) : KX D cI cS U := by
  refine ⟨va_K.moved hW.alike hK.1, fun w hw => ?_⟩
  have h1 := hK.2 w hw
  rcases nestW_keep w hw with ⟨a, b, c, d, e, f, rfl⟩ | ⟨a, b, c, d, rfl⟩
  · exact va_Nw.warmF hW h1
  · exact va_Nw.warmM hW h1
/-- what a method is given: to read alone; to write -/
def PR (D : va_G) (cI cS : ClassId) (nn : Nat) (a : Nat → Nat) (e : Nat → va_E) : State → Prop := fun U => HP D nn a e U.heap ∧ KX D cI cS U
def PW (D : va_G) (cI cS : ClassId) (nn : Nat) (a : Nat → Nat) (e : Nat → va_E) (sz : Nat) : State → Prop := fun U => U.heap.size = sz ∧ HP D nn a e U.heap ∧ KX D cI cS U ∧ DI nn a
theorem pb0 {av : List Value} : FrameBlind (va_Pc av (fun _ => True)) := fun _ _ _ _ h => h
theorem pbR {D : va_G} {cI cS : ClassId} {nn : Nat} {a : Nat → Nat} {e : Nat → va_E} {av : List Value} : FrameBlind (va_Pc av (PR D cI cS nn a e)) := fun a U g mk h => ⟨h.1, h.2.1, KX.same (u := U) (U := U.calling g mk a) rfl h.2.2⟩
theorem pbW {D : va_G} {cI cS : ClassId} {nn sz : Nat} {a : Nat → Nat} {e : Nat → va_E} {av : List Value} : FrameBlind (va_Pc av (PW D cI cS nn a e sz)) := fun a U g mk h => ⟨h.1, h.2.1, h.2.2.1, KX.same (u := U) (U := U.calling g mk a) rfl h.2.2.2.1, h.2.2.2.2⟩
theorem g_recv {D : va_G} {cI cS : ClassId} {s : State} {nn : Nat} {a : Nat → Nat} {e : Nat → va_E} {H : Heap} {C : String} {T : u_T} {N ci n : Nat} {fs : List Value} (hK : KX D cI cS s) (hP : HP D nn a e H) (hn : n < nn) (he : e n = .inr (ci, fs)) (hc : vwCl[ci]? = some (C, T, N)) : ∃ cell : Cell, H[a n]? = some cell ∧ cell.vm.isStatics = false ∧ s.vm.findClass C = some cell.cls :=
  va_recv (q := (C, T, N)) hK.1 hP.l hc (by rw [wl_get hn, he])
theorem pvR {D : va_G} {cI cS : ClassId} {s : State} {nn : Nat} {a : Nat → Nat} {e : Nat → va_E} {H : Heap} {C : String} {T : u_T} {N ci : Nat} {fs As : List Value} (n : Nat) (hK : KX D cI cS s) (hP : HP D nn a e H) (hn : n < nn) (he : e n = .inr (ci, fs)) (hc : vwCl[ci]? = some (C, T, N)) : PreV s H C (a n) (va_Pc (.ref (a n) :: As) (PR D cI cS nn a e)) As :=
  ⟨pbR, g_recv hK hP hn he hc, fun U hU hW => ⟨rfl, by rw [hU]; exact hP, hK.moved hW⟩⟩
/-- .. for a callee that looks at another world, a part of this one -/
theorem pvR' {D : va_G} {cI cS : ClassId} {s : State} {nn nn' : Nat} {a a' : Nat → Nat} {e e' : Nat → va_E} {H : Heap} {C : String} {T : u_T} {N ci : Nat} {fs As : List Value} {b : Nat} (n : Nat) (hb : a n = b) (hK : KX D cI cS s) (hP : HP D nn a e H) (hn : n < nn) (he : e n = .inr (ci, fs)) (hc : vwCl[ci]? = some (C, T, N)) (hP' : HP D nn' a' e' H) : PreV s H C b (va_Pc (.ref b :: As) (PR D cI cS nn' a' e')) As :=
  ⟨pbR, by rw [← hb]; exact g_recv hK hP hn he hc, fun U hU hW => ⟨rfl, by rw [hU]; exact hP', hK.moved hW⟩⟩
theorem pv0 {D : va_G} {cI cS : ClassId} {s : State} {nn : Nat} {a : Nat → Nat} {e : Nat → va_E} {H : Heap} {C : String} {T : u_T} {N ci : Nat} {fs As : List Value} (n : Nat) (hK : KX D cI cS s) (hP : HP D nn a e H) (hn : n < nn) (he : e n = .inr (ci, fs)) (hc : vwCl[ci]? = some (C, T, N)) : PreV s H C (a n) (va_Pc (.ref (a n) :: As) (fun _ => True)) As :=
  ⟨pb0, g_recv hK hP hn he hc, fun U hU hW => ⟨rfl, trivial⟩⟩
theorem pvW {D : va_G} {cI cS : ClassId} {s : State} {nn : Nat} {a : Nat → Nat} {e : Nat → va_E} {H : Heap} {C : String} {T : u_T} {N ci : Nat} {fs As : List Value} (n : Nat) (hK : KX D cI cS s) (hP : HP D nn a e H) (hE : DI nn a) (hn : n < nn) (he : e n = .inr (ci, fs)) (hc : vwCl[ci]? = some (C, T, N)) : PreV s H C (a n) (va_Pc (.ref (a n) :: As) (PW D cI cS nn a e H.size)) As :=
  ⟨pbW, g_recv hK hP hn he hc, fun U hU hW => ⟨rfl, by rw [hU], by rw [hU]; exact hP, hK.moved hW, hE⟩⟩
theorem pvW' {D : va_G} {cI cS : ClassId} {s : State} {nn nn' : Nat} {a a' : Nat → Nat} {e e' : Nat → va_E} {H : Heap} {C : String} {T : u_T} {N ci : Nat} {fs As : List Value} {b : Nat} (n : Nat) (hb : a n = b) (hK : KX D cI cS s) (hP : HP D nn a e H) (hn : n < nn) (he : e n = .inr (ci, fs)) (hc : vwCl[ci]? = some (C, T, N)) (hP' : HP D nn' a' e' H) (hE : DI nn' a') : PreV s H C b (va_Pc (.ref b :: As) (PW D cI cS nn' a' e' H.size)) As :=
  ⟨pbW, by rw [← hb]; exact g_recv hK hP hn he hc, fun U hU hW => ⟨rfl, by rw [hU], by rw [hU]; exact hP', hK.moved hW, hE⟩⟩
theorem ps0 {s : State} {H : Heap} {As : List Value} : PreS s H (va_Pc As (fun _ => True)) As := ⟨pb0, fun U hU hW => ⟨rfl, trivial⟩⟩
theorem psR {D : va_G} {cI cS : ClassId} {s : State} {nn : Nat} {a : Nat → Nat} {e : Nat → va_E} {H : Heap} {As : List Value} (hK : KX D cI cS s) (hP : HP D nn a e H) : PreS s H (va_Pc As (PR D cI cS nn a e)) As := ⟨pbR, fun U hU hW => ⟨rfl, by rw [hU]; exact hP, hK.moved hW⟩⟩
theorem psW {D : va_G} {cI cS : ClassId} {s : State} {nn : Nat} {a : Nat → Nat} {e : Nat → va_E} {H : Heap} {As : List Value} (hK : KX D cI cS s) (hP : HP D nn a e H) (hE : DI nn a) : PreS s H (va_Pc As (PW D cI cS nn a e H.size)) As := ⟨pbW, fun U hU hW => ⟨rfl, by rw [hU], by rw [hU]; exact hP, hK.moved hW, hE⟩⟩
/-- words of a call out of wsA -/
theorem wgood {w : Cond} (h : w ∈ wsA) : w ∈ wsA ∧ ((w.onTables && w.keeps) = true ∨ ∃ ty, w = .arrayClass ty) := ⟨h, good_of_word (List.mem_filter.mp h).2⟩
theorem gA {c : Cond} (h : c ∈ wsA) : GoodIn wsA (c :: wsA) := by
  intro w hw
  rcases List.mem_cons.mp hw with rfl | hw
  · exact wgood h
  · exact wgood hw
theorem gV {own C : String} {idx : Nat} {y : MethodName} {c : Cond} (hc : c ∈ wsA) (h1 : Cond.methodLink own idx y ∈ wsA) (h2 : Cond.instanceMethod y ∈ wsA) (h3 : Cond.selects C y y ∈ wsA) (h4 : Cond.initialized C ∈ wsA) : GoodIn wsA (wsV own idx C y (c :: wsA)) := by
  intro w hw
  unfold wsV at hw
  rcases List.mem_append.mp hw with hw | hw
  · rcases List.mem_cons.mp hw with rfl | hw
    · exact wgood h1
    · rcases List.mem_cons.mp hw with rfl | hw
      · exact wgood h2
      · rcases List.mem_cons.mp hw with rfl | hw
        · exact wgood h3
        · rcases List.mem_cons.mp hw with rfl | hw
          · exact wgood h4
          · cases hw
  · exact gA hc w hw
theorem gS {own : String} {idx : Nat} {y : MethodName} {c : Cond} (hc : c ∈ wsA) (h1 : Cond.methodLink own idx y ∈ wsA) (h2 : Cond.static y ∈ wsA) (h4 : Cond.initialized y.cls ∈ wsA) : GoodIn wsA (va_wsS own idx y (c :: wsA)) := by
  intro w hw
  unfold va_wsS at hw
  rcases List.mem_append.mp hw with hw | hw
  · rcases List.mem_cons.mp hw with rfl | hw
    · exact wgood h1
    · rcases List.mem_cons.mp hw with rfl | hw
      · exact wgood h2
      · rcases List.mem_cons.mp hw with rfl | hw
        · exact wgood h4
        · cases hw
  · exact gA hc w hw
end BASE0
/-- a method that hands back a cell that is there, and writes nothing -/
def sr_Q (x : Nat) : Array Value → State → Outcome → State → Prop := fun _ st o t => o = .returned (some (.ref x)) ∧ t.heap = st.heap
section BASE1
variable {p : Program} {l : Launch} {e : Env} {R : Room} {s : State} {m : MethodId} {args : Array Value} {below : List Frame} {meth : Method} {c : Code} {H : Heap} {locs : List Loc} {cells slots : Nat} {Q : State → Prop}
variable {pc : Nat} {ls : Array Slot} {rest : List Value} {cc : ByteArray} {D : va_G} {cI cS : ClassId} {nn : Nat} {a : Nat → Nat} {ex ex' : Nat → va_E} {H0 : Heap}
theorem g_get (hexec : p.tables.exec = Jvm.exec) (hb : c.code = cc) (hts : ∀ w ∈ wsA, w.before args s = true) {own ref C : String} {T : u_T} {N ci index : Nat} (hown : s.vm.findClass own = some m.cls) (hin : ∀ w ∈ u_ws C T N, w ∈ wsA) (hK : KX D cI cS s) (hP : HP D nn a ex H) (n : Nat) (hn : n < nn) {fs : List Value} (he : ex n = .inr (ci, fs)) (hc : vwCl[ci]? = some (C, T, N)) (k : Nat) (hk : k < N) (hlink : Cond.fieldLink own index ref (T k).2.1 (T k).2.2.1 ∈ wsA) (hsame : (T k).1 = ref) {v : Value} (hv : fs[k]? = some v) (hdg : decode cc pc = .ok (.getfield index, 3))
    (kk : W p l e R s m args below meth c H locs cells slots Q (F0 m (pc + 3) ls (v :: rest))) : W p l e R s m args below meth c H locs cells slots Q (F0 m pc ls (.ref (a n) :: rest)) :=
  va_get hexec hb hts hin hown hK.1 hP.l n (by rw [wl_get hn, he]) hc k hk (hts _ hlink) (by subst hsame; exact fun _ h => h) hv hdg kk
theorem g_getN (hexec : p.tables.exec = Jvm.exec) (hb : c.code = cc) (hts : ∀ w ∈ wsA, w.before args s = true) {own ref C host : String} {T : u_T} {N ci index : Nat} (hown : s.vm.findClass own = some m.cls) (hin : ∀ w ∈ u_ws C T N, w ∈ wsA) (hK : KX D cI cS s) (hP : HP D nn a ex H) (n : Nat) (hn : n < nn) {fs : List Value} (he : ex n = .inr (ci, fs)) (hc : vwCl[ci]? = some (C, T, N)) (k : Nat) (hk : k < N) (hlink : Cond.fieldLinkNest own index ref (T k).2.1 (T k).2.2.1 host ∈ nestW) (hsame : (T k).1 = ref) {v : Value} (hv : fs[k]? = some v) (hdg : decode cc pc = .ok (.getfield index, 3))
    (kk : W p l e R s m args below meth c H locs cells slots Q (F0 m (pc + 3) ls (v :: rest))) : W p l e R s m args below meth c H locs cells slots Q (F0 m pc ls (.ref (a n) :: rest)) :=
  va_getN hexec hb hts hin hown hK.1 hP.l n (by rw [wl_get hn, he]) hc k hk (va_Nw.use rfl (hK.2 _ hlink)) (by subst hsame; exact fun _ h => h) hv hdg kk
theorem g_put (hexec : p.tables.exec = Jvm.exec) (hb : c.code = cc) (hts : ∀ w ∈ wsA, w.before args s = true) {own ref C : String} {T : u_T} {N ci index : Nat} (hown : s.vm.findClass own = some m.cls) (hin : ∀ w ∈ u_ws C T N, w ∈ wsA) (ty0 : Nat → FieldType) (hty : ∀ k, k < N → parseFieldDescriptor (T k).2.2.1 = some (ty0 k)) (hnm : ∀ a, a < N → ∀ b, b < N → a ≠ b → (T a).2.1 ≠ (T b).2.1) (hK : KX D cI cS s) (hP : HP D nn a ex H) (hE : DI nn a) (hS : va_S (AX nn a H0.size) H0 H locs) (n : Nat) (hn : n < nn) {fs : List Value} (he : ex n = .inr (ci, fs)) (hc : vwCl[ci]? = some (C, T, N)) (k : Nat) (hk : k < N) (hlink : Cond.fieldLink own index ref (T k).2.1 (T k).2.2.1 ∈ wsA) (hsame : (T k).1 = ref) (hfin : (T k).2.2.2 = false) {ty : FieldType} {v : Value} (hd : parseFieldDescriptor (T k).2.2.1 = some ty) (hnr : narrow ty v = v) (hfit : fits ty v = true) (hl : k < fs.length) (hdg : decode cc pc = .ok (.putfield index, 3)) (hs : ex' n = .inr (ci, fs.set k v)) (ho : ∀ j, j < nn → j ≠ n → ex' j = ex j)
    (kk : ∀ (H1 : Heap) (locs1 : List Loc), HP D nn a ex' H1 → va_S (AX nn a H0.size) H0 H1 locs1 → W p l e R s m args below meth c H1 locs1 cells slots Q (F0 m (pc + 3) ls rest)) : W p l e R s m args below meth c H locs cells slots Q (F0 m pc ls (v :: .ref (a n) :: rest)) :=
  va_put hexec hb hts hin ty0 hty hnm hown hK.1 hP.l (hE.D (sz := H0.size)) hS n (by rw [wl_get hn, he]) hc k hk (hts _ hlink) (by subst hsame; exact fun _ h => h) hfin hd hnr hfit hl hdg (fun H1 locs1 h1 _ h3 => kk H1 locs1 (HP.set hn hs ho h1) h3)
theorem g_putN (hexec : p.tables.exec = Jvm.exec) (hb : c.code = cc) (hts : ∀ w ∈ wsA, w.before args s = true) {own ref C host : String} {T : u_T} {N ci index : Nat} (hown : s.vm.findClass own = some m.cls) (hin : ∀ w ∈ u_ws C T N, w ∈ wsA) (ty0 : Nat → FieldType) (hty : ∀ k, k < N → parseFieldDescriptor (T k).2.2.1 = some (ty0 k)) (hnm : ∀ a, a < N → ∀ b, b < N → a ≠ b → (T a).2.1 ≠ (T b).2.1) (hK : KX D cI cS s) (hP : HP D nn a ex H) (hE : DI nn a) (hS : va_S (AX nn a H0.size) H0 H locs) (n : Nat) (hn : n < nn) {fs : List Value} (he : ex n = .inr (ci, fs)) (hc : vwCl[ci]? = some (C, T, N)) (k : Nat) (hk : k < N) (hlink : Cond.fieldLinkNest own index ref (T k).2.1 (T k).2.2.1 host ∈ nestW) (hsame : (T k).1 = ref) (hfin : (T k).2.2.2 = false) {ty : FieldType} {v : Value} (hd : parseFieldDescriptor (T k).2.2.1 = some ty) (hnr : narrow ty v = v) (hfit : fits ty v = true) (hl : k < fs.length) (hdg : decode cc pc = .ok (.putfield index, 3)) (hs : ex' n = .inr (ci, fs.set k v)) (ho : ∀ j, j < nn → j ≠ n → ex' j = ex j)
    (kk : ∀ (H1 : Heap) (locs1 : List Loc), HP D nn a ex' H1 → va_S (AX nn a H0.size) H0 H1 locs1 → W p l e R s m args below meth c H1 locs1 cells slots Q (F0 m (pc + 3) ls rest)) : W p l e R s m args below meth c H locs cells slots Q (F0 m pc ls (v :: .ref (a n) :: rest)) :=
  va_putN hexec hb hts hin ty0 hty hnm hown hK.1 hP.l (hE.D (sz := H0.size)) hS n (by rw [wl_get hn, he]) hc k hk (va_Nw.use rfl (hK.2 _ hlink)) (by subst hsame; exact fun _ h => h) hfin hd hnr hfit hl hdg (fun H1 locs1 h1 _ h3 => kk H1 locs1 (HP.set hn hs ho h1) h3)
theorem g_iald (hexec : p.tables.exec = Jvm.exec) (hb : c.code = cc) (hK : KX D cI cS s) (hP : HP D nn a ex H) (n : Nat) (hn : n < nn) {len : Nat} {f : Nat → Int32} (he : ex n = .inl (cI, len, .inl f)) {i : Int32} (k : Nat) (hi : i = nI k) (hk : k < len) (hl : len < 2 ^ 31) (hdg : decode cc pc = .ok (.iaload, 1)) {v : Int32} (hv : f k = v)
    (kk : W p l e R s m args below meth c H locs cells slots Q (F0 m (pc + 1) ls (.int v :: rest))) : W p l e R s m args below meth c H locs cells slots Q (F0 m pc ls (.int i :: .ref (a n) :: rest)) := by
  subst hi
  subst hv
  refine va_iald hexec hb hK.1 hP.l n 0 (by rw [wl_get hn, he]) rfl (vp_in_nI hk hl) hdg ?_
  rw [nI_clamp (by omega)]
  exact kk
theorem g_iast (hexec : p.tables.exec = Jvm.exec) (hb : c.code = cc) (hK : KX D cI cS s) (hP : HP D nn a ex H) (hE : DI nn a) (hS : va_S (AX nn a H0.size) H0 H locs) (n : Nat) (hn : n < nn) {len : Nat} {f : Nat → Int32} (he : ex n = .inl (cI, len, .inl f)) {i x : Int32} (k : Nat) (hi : i = nI k) (hk : k < len) (hl : len < 2 ^ 31) (hdg : decode cc pc = .ok (.iastore, 1)) (hs : ex' n = .inl (cI, len, .inl (upd f k x))) (ho : ∀ j, j < nn → j ≠ n → ex' j = ex j)
    (kk : ∀ (H1 : Heap) (locs1 : List Loc), HP D nn a ex' H1 → va_S (AX nn a H0.size) H0 H1 locs1 → W p l e R s m args below meth c H1 locs1 cells slots Q (F0 m (pc + 1) ls rest)) : W p l e R s m args below meth c H locs cells slots Q (F0 m pc ls (.int x :: .int i :: .ref (a n) :: rest)) := by
  subst hi
  refine va_iast hexec hb hK.1 hP.l (hE.D (sz := H0.size)) hS n 0 (by rw [wl_get hn, he]) rfl (vp_in_nI hk hl) hdg (fun H1 locs1 h1 _ h3 => ?_)
  rw [nI_clamp (by omega)] at h1
  exact kk H1 locs1 (HP.set hn hs ho h1) h3
theorem g_alen (hexec : p.tables.exec = Jvm.exec) (hb : c.code = cc) (hK : KX D cI cS s) (hP : HP D nn a ex H) (n : Nat) (hn : n < nn) {len : Nat} {f : Nat → Int32} (he : ex n = .inl (cI, len, .inl f)) {v : Int32} (hv : nI len = v) (hdg : decode cc pc = .ok (.arraylength, 1))
    (kk : W p l e R s m args below meth c H locs cells slots Q (F0 m (pc + 1) ls (.int v :: rest))) : W p l e R s m args below meth c H locs cells slots Q (F0 m pc ls (.ref (a n) :: rest)) :=
  va_alen (x := (len, .inl f)) hexec hb hK.1 hP.l n 0 (by rw [wl_get hn, he]) rfl hv hdg kk
theorem g_aldq (hexec : p.tables.exec = Jvm.exec) (hb : c.code = cc) (hK : KX D cI cS s) (hP : HP D nn a ex H) (n : Nat) (hn : n < nn) {len : Nat} {f : Nat → Option Nat} (he : ex n = .inl (cS, len, .inr (.inr (.inr (.inr f))))) {i : Int32} (k : Nat) (hi : i = nI k) (hk : k < len) (hl : len < 2 ^ 31) (hdg : decode cc pc = .ok (.aaload, 1)) {q : Nat} (hv : f k = some q)
    (kk : W p l e R s m args below meth c H locs cells slots Q (F0 m (pc + 1) ls (.ref q :: rest))) : W p l e R s m args below meth c H locs cells slots Q (F0 m pc ls (.int i :: .ref (a n) :: rest)) := by
  subst hi
  refine va_aldq hexec hb hK.1 hP.l n 1 (by rw [wl_get hn, he]) rfl (vp_in_nI hk hl) hdg ?_
  rw [nI_clamp (by omega), hv]
  exact kk
theorem g_alenq (hexec : p.tables.exec = Jvm.exec) (hb : c.code = cc) (hK : KX D cI cS s) (hP : HP D nn a ex H) (n : Nat) (hn : n < nn) {len : Nat} {f : Nat → Option Nat} (he : ex n = .inl (cS, len, .inr (.inr (.inr (.inr f))))) {v : Int32} (hv : nI len = v) (hdg : decode cc pc = .ok (.arraylength, 1))
    (kk : W p l e R s m args below meth c H locs cells slots Q (F0 m (pc + 1) ls (.int v :: rest))) : W p l e R s m args below meth c H locs cells slots Q (F0 m pc ls (.ref (a n) :: rest)) :=
  va_alen (x := (len, .inr (.inr (.inr (.inr f))))) hexec hb hK.1 hP.l n 1 (by rw [wl_get hn, he]) rfl hv hdg kk
/-! a callee that writes nothing -/
theorem ro_r {x : Nat} {aa : Array Value} {st0 : List Value} (hr : va_Run p l e R s m args below meth c H locs cells slots 0 0 (F0 m pc ls st0) rest (sr_Q x aa) (fun _ => False))
    (kk : W p l e R s m args below meth c H locs cells slots Q (F0 m (pc + 3) ls (.ref x :: rest))) : W p l e R s m args below meth c H locs cells slots Q (F0 m pc ls st0) := by
  intro T hT X
  obtain ⟨v, st₀, t, T', L, h0, X', hL, e1, e2, ⟨hv, hh⟩, st⟩ := hr T hT X
  cases hv
  obtain ⟨t2, a1, b1⟩ := kk T' (by rw [e1, hh, h0]) (Stand.forget X' (fun q h => (hL q h).elim))
  exact ⟨t2, st t2 a1, b1⟩
theorem ro_rr {x : Nat} {n : String} (hx : p.tables.exec = Jvm.exec) (hb : c.code = cc) (hr : meth.sig.returnType = some (.object n)) (hlocks : meth.locks = false) (hdg : decode cc pc = .ok (.areturn, 1)) : W p l e R s m args below meth c s.heap [] 0 0 (MQ below (sr_Q x) args s 0 0 (fun _ => False)) (F0 m pc ls [.ref x]) :=
  W.aret hx hb hr (Or.inl ⟨_, rfl⟩) (Or.inr ⟨_, rfl⟩) (fun t ht _ => ⟨rfl, ht⟩) (fun q hq => absurd hq List.not_mem_nil) hdg hlocks
theorem ro_i {post : Int32 → Prop} {aa : Array Value} {st0 : List Value} (hr : va_Run p l e R s m args below meth c H locs cells slots 0 0 (F0 m pc ls st0) rest (vp_Si post aa) (fun _ => False))
    (kk : ∀ r : Int32, post r → W p l e R s m args below meth c H locs cells slots Q (F0 m (pc + 3) ls (.int r :: rest))) : W p l e R s m args below meth c H locs cells slots Q (F0 m pc ls st0) := by
  intro T hT X
  obtain ⟨v, st₀, t, T', L, h0, X', hL, e1, e2, ⟨r, hv, hp, hh⟩, st⟩ := hr T hT X
  cases hv
  obtain ⟨t2, a1, b1⟩ := kk r hp T' (by rw [e1, hh, h0]) (Stand.forget X' (fun q h => (hL q h).elim))
  exact ⟨t2, st t2 a1, b1⟩
theorem ro_l {post : Int64 → Prop} {aa : Array Value} {st0 : List Value} (hr : va_Run p l e R s m args below meth c H locs cells slots 0 0 (F0 m pc ls st0) rest (vp_Sl post aa) (fun _ => False))
    (kk : ∀ r : Int64, post r → W p l e R s m args below meth c H locs cells slots Q (F0 m (pc + 3) ls (.long r :: rest))) : W p l e R s m args below meth c H locs cells slots Q (F0 m pc ls st0) := by
  intro T hT X
  obtain ⟨v, st₀, t, T', L, h0, X', hL, e1, e2, ⟨r, hv, hp, hh⟩, st⟩ := hr T hT X
  cases hv
  obtain ⟨t2, a1, b1⟩ := kk r hp T' (by rw [e1, hh, h0]) (Stand.forget X' (fun q h => (hL q h).elim))
  exact ⟨t2, st t2 a1, b1⟩
theorem ro_f {post : UInt32 → Prop} {aa : Array Value} {st0 : List Value} (hr : va_Run p l e R s m args below meth c H locs cells slots 0 0 (F0 m pc ls st0) rest (vp_Sf post aa) (fun _ => False))
    (kk : ∀ r : UInt32, post r → W p l e R s m args below meth c H locs cells slots Q (F0 m (pc + 3) ls (.float r :: rest))) : W p l e R s m args below meth c H locs cells slots Q (F0 m pc ls st0) := by
  intro T hT X
  obtain ⟨v, st₀, t, T', L, h0, X', hL, e1, e2, ⟨r, hv, hp, hh⟩, st⟩ := hr T hT X
  cases hv
  obtain ⟨t2, a1, b1⟩ := kk r hp T' (by rw [e1, hh, h0]) (Stand.forget X' (fun q h => (hL q h).elim))
  exact ⟨t2, st t2 a1, b1⟩
theorem ro_d {post : UInt64 → Prop} {aa : Array Value} {st0 : List Value} (hr : va_Run p l e R s m args below meth c H locs cells slots 0 0 (F0 m pc ls st0) rest (vp_Sd post aa) (fun _ => False))
    (kk : ∀ r : UInt64, post r → W p l e R s m args below meth c H locs cells slots Q (F0 m (pc + 3) ls (.double r :: rest))) : W p l e R s m args below meth c H locs cells slots Q (F0 m pc ls st0) := by
  intro T hT X
  obtain ⟨v, st₀, t, T', L, h0, X', hL, e1, e2, ⟨r, hv, hp, hh⟩, st⟩ := hr T hT X
  cases hv
  obtain ⟨t2, a1, b1⟩ := kk r hp T' (by rw [e1, hh, h0]) (Stand.forget X' (fun q h => (hL q h).elim))
  exact ⟨t2, st t2 a1, b1⟩
/-! its end -/
theorem ro_ir {post : Int32 → Prop} {v : Int32} {ty : FieldType} (hx : p.tables.exec = Jvm.exec) (hb : c.code = cc) (hr : meth.sig.returnType = some ty) (hn : narrow ty (.int v) = .int v) (hlocks : meth.locks = false) (hp : post v) (hdg : decode cc pc = .ok (.ireturn, 1)) : W p l e R s m args below meth c s.heap [] 0 0 (MQ below (vp_Si post) args s 0 0 (fun _ => False)) (F0 m pc ls [.int v]) :=
  W.zret hx hb hr hn (fun t ht _ => ⟨v, rfl, hp, ht⟩) (fun q hq => absurd hq List.not_mem_nil) hdg hlocks
theorem ro_lr {post : Int64 → Prop} {v : Int64} (hx : p.tables.exec = Jvm.exec) (hb : c.code = cc) (hr : meth.sig.returnType = some .long) (hlocks : meth.locks = false) (hp : post v) (hdg : decode cc pc = .ok (.lreturn, 1)) : W p l e R s m args below meth c s.heap [] 0 0 (MQ below (vp_Sl post) args s 0 0 (fun _ => False)) (F0 m pc ls [.long v]) :=
  W.lret hx hb hr (fun t ht _ => ⟨v, rfl, hp, ht⟩) (fun q hq => absurd hq List.not_mem_nil) hdg hlocks
theorem ro_fr {post : UInt32 → Prop} {v : UInt32} (hx : p.tables.exec = Jvm.exec) (hb : c.code = cc) (hr : meth.sig.returnType = some .float) (hlocks : meth.locks = false) (hp : post v) (hdg : decode cc pc = .ok (.freturn, 1)) : W p l e R s m args below meth c s.heap [] 0 0 (MQ below (vp_Sf post) args s 0 0 (fun _ => False)) (F0 m pc ls [.float v]) :=
  W.fret hx hb hr (fun t ht _ => ⟨v, rfl, hp, ht⟩) (fun q hq => absurd hq List.not_mem_nil) hdg hlocks
theorem ro_dr {post : UInt64 → Prop} {v : UInt64} (hx : p.tables.exec = Jvm.exec) (hb : c.code = cc) (hr : meth.sig.returnType = some .double) (hlocks : meth.locks = false) (hp : post v) (hdg : decode cc pc = .ok (.dreturn, 1)) : W p l e R s m args below meth c s.heap [] 0 0 (MQ below (vp_Sd post) args s 0 0 (fun _ => False)) (F0 m pc ls [.double v]) :=
  W.dret hx hb hr (fun t ht _ => ⟨v, rfl, hp, ht⟩) (fun q hq => absurd hq List.not_mem_nil) hdg hlocks
/-! a callee that writes: in the caller's own world; in another one -/
abbrev BW (D : va_G) (nn : Nat) (a : Nat → Nat) {S : Type} (e' : S → Nat → va_E) : S → State → Prop := fun u t => HP D nn a (e' u) t.heap
theorem rw_i {S : Type} {post : Int32 → S → Prop} {e' : S → Nat → va_E} {aa : Array Value} {st0 : List Value} {mc ms : Nat} (hS : va_S (AX nn a H0.size) H0 H locs) (hr : va_Run p l e R s m args below meth c H locs cells slots mc ms (F0 m pc ls st0) rest (va_Qi post (BW D nn a e') (AX nn a H.size) aa) (AX nn a H.size))
    (kk : ∀ (r : Int32) (u : S) (H1 : Heap) (locs1 : List Loc), post r u → HP D nn a (e' u) H1 → va_S (AX nn a H0.size) H0 H1 locs1 → W p l e R s m args below meth c H1 locs1 (cells + mc) (slots + ms) Q (F0 m (pc + 3) ls (.int r :: rest))) : W p l e R s m args below meth c H locs cells slots Q (F0 m pc ls st0) :=
  va_calli hr hS (fun q _ h => AX_mono hS.1 h) (fun q h => AX_mono hS.1 h) (fun r u t H1 locs1 ht _ hp hB _ _ hS1 => kk r u H1 locs1 hp (ht ▸ hB) hS1)
theorem rw_l {S : Type} {post : Int64 → S → Prop} {e' : S → Nat → va_E} {aa : Array Value} {st0 : List Value} {mc ms : Nat} (hS : va_S (AX nn a H0.size) H0 H locs) (hr : va_Run p l e R s m args below meth c H locs cells slots mc ms (F0 m pc ls st0) rest (va_Ql post (BW D nn a e') (AX nn a H.size) aa) (AX nn a H.size))
    (kk : ∀ (r : Int64) (u : S) (H1 : Heap) (locs1 : List Loc), post r u → HP D nn a (e' u) H1 → va_S (AX nn a H0.size) H0 H1 locs1 → W p l e R s m args below meth c H1 locs1 (cells + mc) (slots + ms) Q (F0 m (pc + 3) ls (.long r :: rest))) : W p l e R s m args below meth c H locs cells slots Q (F0 m pc ls st0) :=
  va_calll hr hS (fun q _ h => AX_mono hS.1 h) (fun q h => AX_mono hS.1 h) (fun r u t H1 locs1 ht _ hp hB _ _ hS1 => kk r u H1 locs1 hp (ht ▸ hB) hS1)
theorem rw_v {S : Type} {post : S → Prop} {e' : S → Nat → va_E} {aa : Array Value} {st0 : List Value} {mc ms : Nat} (hS : va_S (AX nn a H0.size) H0 H locs) (hr : va_Run p l e R s m args below meth c H locs cells slots mc ms (F0 m pc ls st0) rest (va_Qv post (BW D nn a e') (AX nn a H.size) aa) (AX nn a H.size))
    (kk : ∀ (u : S) (H1 : Heap) (locs1 : List Loc), post u → HP D nn a (e' u) H1 → va_S (AX nn a H0.size) H0 H1 locs1 → W p l e R s m args below meth c H1 locs1 (cells + mc) (slots + ms) Q (F0 m (pc + 3) ls rest)) : W p l e R s m args below meth c H locs cells slots Q (F0 m pc ls st0) :=
  va_callv hr hS (fun q _ h => AX_mono hS.1 h) (fun q h => AX_mono hS.1 h) (fun u t H1 locs1 ht _ hp hB _ _ hS1 => kk u H1 locs1 hp (ht ▸ hB) hS1)
theorem rw_ir {S : Type} {post : Int32 → S → Prop} {e' : S → Nat → va_E} {v : Int32} {ty : FieldType} (hx : p.tables.exec = Jvm.exec) (hb : c.code = cc) (hr : meth.sig.returnType = some ty) (hn : narrow ty (.int v) = .int v) (hlocks : meth.locks = false) (hS : va_S (AX nn a s.heap.size) s.heap H locs) (u : S) (hP : HP D nn a (e' u) H) (hp : post v u) (hdg : decode cc pc = .ok (.ireturn, 1)) : W p l e R s m args below meth c H locs cells slots (MQ below (va_Qi post (BW D nn a e') (AX nn a s.heap.size)) args s cells slots (AX nn a s.heap.size)) (F0 m pc ls [.int v]) :=
  W.zret hx hb hr hn (fun t ht _ => ⟨⟨v, u, rfl, hp, by show HP _ _ _ _ t.heap; rw [ht]; exact hP⟩, hS.F ht⟩) hS.2.2 hdg hlocks
theorem rw_lr {S : Type} {post : Int64 → S → Prop} {e' : S → Nat → va_E} {v : Int64} (hx : p.tables.exec = Jvm.exec) (hb : c.code = cc) (hr : meth.sig.returnType = some .long) (hlocks : meth.locks = false) (hS : va_S (AX nn a s.heap.size) s.heap H locs) (u : S) (hP : HP D nn a (e' u) H) (hp : post v u) (hdg : decode cc pc = .ok (.lreturn, 1)) : W p l e R s m args below meth c H locs cells slots (MQ below (va_Ql post (BW D nn a e') (AX nn a s.heap.size)) args s cells slots (AX nn a s.heap.size)) (F0 m pc ls [.long v]) :=
  W.lret hx hb hr (fun t ht _ => ⟨⟨v, u, rfl, hp, by show HP _ _ _ _ t.heap; rw [ht]; exact hP⟩, hS.F ht⟩) hS.2.2 hdg hlocks
theorem rw_vr {S : Type} {post : S → Prop} {e' : S → Nat → va_E} (hx : p.tables.exec = Jvm.exec) (hb : c.code = cc) (hr : meth.sig.returnType = none) (hlocks : meth.locks = false) (hS : va_S (AX nn a s.heap.size) s.heap H locs) (u : S) (hP : HP D nn a (e' u) H) (hp : post u) (hdg : decode cc pc = .ok (.return_, 1)) : W p l e R s m args below meth c H locs cells slots (MQ below (va_Qv post (BW D nn a e') (AX nn a s.heap.size)) args s cells slots (AX nn a s.heap.size)) (F0 m pc ls []) :=
  W.vret hx hb hr (fun t ht _ => ⟨⟨u, rfl, hp, by show HP _ _ _ _ t.heap; rw [ht]; exact hP⟩, hS.F ht⟩) hS.2.2 hdg hlocks
end BASE1
/-- a method from its entry -/
theorem mgo {l : Launch} {y : MethodName} {cc : ByteArray} {maxL : Nat} {ret : Option FieldType} {rm : Room} {av : List Value} {B : State → Prop} {Qc : Array Value → State → Outcome → State → Prop} {mc ms : Nat} {free : Addr → Prop} (hy : plainName y.cls = true) (hn : (lg_sl av).length ≤ maxL)
    (body : ∀ (p : Program) (e : Env) (s : State) (m : MethodId) (below : List Frame) (meth : Method) (c : Code), p.tables.exec = Jvm.exec → c.code = cc → meth.sig.returnType = ret → c.maxLocals = maxL → s.vm.findClass y.cls = some m.cls → (∀ w ∈ wsA, w.before av.toArray s = true) → meth.locks = false → B s → ∀ ls : Array Slot, lv_has ls maxL (lv_args 0 av) → W p l e rm s m av.toArray below meth c s.heap [] 0 0 (MQ below Qc av.toArray s mc ms free) (F0 m 0 ls [])) : Met l y (.code y cc maxL ret :: wsA) rm (va_Pc av B) Qc mc ms free := by
  refine Met.ofW (cc := cc) (maxL := maxL) (ret := ret) hy rfl ?_
  intro p e s m args below meth c s₁ B0 hml hv
  obtain ⟨rfl, hB⟩ := hv
  have hts := atoms_spec (ws := .code y cc maxL ret :: wsA) B0.pre
  rw [lg_entry_eq]
  exact body p e s m below meth c B0.exec B0.bytes B0.returns hml (findClass_of_methodNamed B0.named) (fun w h => hts w (List.mem_cons_of_mem _ h)) B0.notSynchronized hB _ (lv_entry av hn)
