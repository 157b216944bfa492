/-! constructors: worlds that grow -/
def DX (A : Nat → Prop) (n : Nat) (a : Nat → Nat) : Prop := DI n a ∧ ∀ k, k < n → A (a k)
def apA (a : Nat → Nat) (n : Nat) (u : Nat → Nat) : Nat → Nat := fun k => if k < n then a k else u (k - n)
def apE (e : Nat → va_E) (n : Nat) (f : Nat → va_E) : Nat → va_E := fun k => if k < n then e k else f (k - n)
theorem apA_l {a u : Nat → Nat} {n k : Nat} (h : k < n) : apA a n u k = a k := if_pos h
theorem apA_r {a u : Nat → Nat} {n k : Nat} : apA a n u (n + k) = u k := by unfold apA; rw [if_neg (by omega), show n + k - n = k by omega]
theorem apE_l {a u : Nat → va_E} {n k : Nat} (h : k < n) : apE a n u k = a k := if_pos h
theorem apE_r {a u : Nat → va_E} {n k : Nat} : apE a n u (n + k) = u k := by unfold apE; rw [if_neg (by omega), show n + k - n = k by omega]
section GROW
variable {D : va_G} {n m : Nat} {a u : Nat → Nat} {e f e' : Nat → va_E} {H H1 : Heap} {A : Nat → Prop}
theorem DX.vd (h : DX A n a) : va_D A (wl n a e) := by
  refine ⟨fun i j p q hi hj hpq => ?_, fun k q hk => ?_⟩
  · obtain ⟨h1, rfl⟩ := wl_get2 hi
    obtain ⟨h2, rfl⟩ := wl_get2 hj
    exact h.1 i j h1 h2 hpq
  · obtain ⟨h1, rfl⟩ := wl_get2 hk
    exact h.2 k h1
theorem HP.of (h : va_P D vwCl (wl n a e) H) : HP D n a e H := fun k hk => h k (a k, e k) (wl_get hk)
theorem DX.of (h : va_D A (wl n a e)) : DX A n a := ⟨fun i j hi hj hq => h.1 i j _ _ (wl_get hi) (wl_get hj) hq, fun k hk => h.2 k _ (wl_get hk)⟩
theorem wl_push {q : Nat} {x : va_E} : wl (n + 1) (va_up a n q) (va_up e n x) = wl n a e ++ [(q, x)] := by
  unfold wl
  rw [List.range_succ, List.map_append]
  congr 1
  · refine List.map_congr_left (fun k hk => ?_)
    have hk : k < n := List.mem_range.mp hk
    rw [va_up_ne _ _ (by omega), va_up_ne _ _ (by omega)]
  · simp [va_up_self]
theorem HP.ext {a' : Nat → Nat} (h : HP D n a e H) (hk : ∀ k, k < n → a' k = a k ∧ e' k = e k) : HP D n a' e' H := fun k h1 => by
  rw [(hk k h1).1, (hk k h1).2]; exact h k h1
theorem HP.ap (h : HP D n a e H) (h2 : HP D m u f H) : HP D (n + m) (apA a n u) (apE e n f) H := fun k hk => by
  by_cases h3 : k < n
  · rw [apA_l h3, apE_l h3]; exact h k h3
  · obtain ⟨j, rfl⟩ : ∃ j, k = n + j := ⟨k - n, by omega⟩
    rw [apA_r, apE_r]; exact h2 j (by omega)
theorem DX.ap (h : DX A n a) (h2 : DX A m u) (hd : ∀ i j, i < n → j < m → a i ≠ u j) : DX A (n + m) (apA a n u) := by
  refine ⟨fun i j hi hj hq => ?_, fun k hk => ?_⟩
  · by_cases h3 : i < n
    · rw [apA_l h3] at hq
      by_cases h4 : j < n
      · rw [apA_l h4] at hq; exact h.1 i j h3 h4 hq
      · obtain ⟨j', rfl⟩ : ∃ j', j = n + j' := ⟨j - n, by omega⟩
        rw [apA_r] at hq
        exact absurd hq (hd i j' h3 (by omega))
    · obtain ⟨i', rfl⟩ : ∃ i', i = n + i' := ⟨i - n, by omega⟩
      rw [apA_r] at hq
      by_cases h4 : j < n
      · rw [apA_l h4] at hq
        exact absurd hq.symm (hd j i' h4 (by omega))
      · obtain ⟨j', rfl⟩ : ∃ j', j = n + j' := ⟨j - n, by omega⟩
        rw [apA_r] at hq
        have := h2.1 i' j' (by omega) (by omega) hq
        omega
  · by_cases h3 : k < n
    · rw [apA_l h3]; exact h.2 k h3
    · obtain ⟨j, rfl⟩ : ∃ j, k = n + j := ⟨k - n, by omega⟩
      rw [apA_r]; exact h2.2 j (by omega)
theorem cell_congq {cA : ClassId} {len : Nat} {f g : Nat → Option Nat} (h : ∀ j, j < len → f j = g j) : vp_cell cA (len, .inr (.inr (.inr (.inr f)))) = vp_cell cA (len, .inr (.inr (.inr (.inr g)))) := by
  rw [vp_cell_q, vp_cell_q]
  unfold arrV
  congr 2
  funext j
  show va_rf (f j.val) = va_rf (g j.val)
  rw [h j.val j.isLt]
end GROW
/-- what a constructor is given, what it leaves -/
def PI (D : va_G) (cI cS : ClassId) (h0 : Nat) (x : va_E) (sz : Nat) : State → Prop := fun U => U.heap.size = sz ∧ HP D 1 (fun _ => h0) (fun _ => x) U.heap ∧ KX D cI cS U ∧ va_AO RX4 U
theorem pbI {D : va_G} {cI cS : ClassId} {h0 sz : Nat} {x : va_E} {av : List Value} : FrameBlind (va_Pc av (PI D cI cS h0 x sz)) := fun a U g mk h => ⟨h.1, h.2.1, h.2.2.1, KX.same (u := U) (U := U.calling g mk a) rfl h.2.2.2.1, va_AO.moved (u := U) (U := U.calling g mk a) (Vm.Alike.refl U.vm) h.2.2.2.2⟩
abbrev AI (h0 sz : Nat) : Nat → Prop := AX 1 (fun _ => h0) sz
abbrev QI (D : va_G) (n h0 sz : Nat) (f : (Nat → Nat) → Nat → va_E) : Array Value → State → Outcome → State → Prop := va_Qv (fun (u : Nat → Nat) => u 0 = h0 ∧ DX (AI h0 sz) n u) (fun u t => HP D n u (f u) t.heap) (AI h0 sz)
section INI
variable {p : Program} {l : Launch} {e : Env} {R : Room} {s : State} {m : MethodId} {args : Array Value} {below : List Frame} {meth : Method} {c : Code} {H : Heap} {locs : List Loc} {cells slots : Nat} {Q : State → Prop}
variable {pc : Nat} {ls : Array Slot} {rest : List Value} {cc : ByteArray} {D : va_G} {cI cS : ClassId} {n : Nat} {a : Nat → Nat} {ex : Nat → va_E} {H0 : Heap} {A : Nat → Prop}
theorem mgc {y : MethodName} {maxL : Nat} {rm : Room} {av : List Value} {B : State → Prop} {Qc : Array Value → State → Outcome → State → Prop} {mc ms : Nat} {free : Addr → Prop} (hy : plainName y.cls = true) (hyn : y.name = "<init>") (hn : (lg_sl av).length ≤ maxL)
    (body : ∀ (p : Program) (e : Env) (s : State) (m : MethodId) (below : List Frame) (meth : Method) (c : Code), p.tables.exec = Jvm.exec → c.code = cc → meth.sig.returnType = none → c.maxLocals = maxL → s.vm.findClass y.cls = some m.cls → (∀ w ∈ wsA, w.before av.toArray s = true) → meth.locks = false → meth.name = "<init>" → B s → ∀ ls : Array Slot, lv_has ls maxL (lv_args 0 av) → W p l e rm s m av.toArray below meth c s.heap [] 0 0 (MQ below Qc av.toArray s mc ms free) (F0 m 0 ls [])) : Met l y (.code y cc maxL none :: wsA) rm (va_Pc av B) Qc mc ms free := by
  refine Met.ofW (cc := cc) (maxL := maxL) (ret := none) hy rfl ?_
  intro p e s m args below meth c s₁ B0 hml hv
  obtain ⟨rfl, hB⟩ := hv
  have hts := atoms_spec (ws := .code y cc maxL none :: wsA) B0.pre
  rw [lg_entry_eq]
  exact body p e s m below meth c B0.exec B0.bytes B0.returns hml (findClass_of_methodNamed B0.named) (fun w h => hts w (List.mem_cons_of_mem _ h)) B0.notSynchronized ((name_of_methodNamed B0.named B0.method).1.trans hyn) hB _ (lv_entry av hn)
theorem g_obj (hexec : p.tables.exec = Jvm.exec) (hb : c.code = cc) {own : String} (hown : s.vm.findClass own = some m.cls) (hts : ∀ w ∈ wsA, w.before args s = true) {idx : Nat} (hlink : Cond.methodLink own idx ⟨"java/lang/Object", "<init>", "()V"⟩ ∈ wsA) (hsize : ls.size = c.maxLocals) {r : Nat} (hd : decode cc pc = .ok (.invokespecial idx, 3)) (hR : 1 ≤ R.frames ∧ 12 ≤ R.locals)
    (kk : W p l e R s m args below meth c H locs cells slots Q (F0 m (pc + 3) ls [])) : W p l e R s m args below meth c H locs cells slots Q (F0 m pc ls [.ref r]) :=
  W.objInit hexec hb hown (hts _ hlink) (hts _ tw20) (hts _ tw21) rfl hsize rfl hd hR.1 (by show 0 + 12 ≤ R.locals; omega) kk
theorem g_newaU (hexec : p.tables.exec = Jvm.exec) (hb : c.code = cc) (hts : ∀ w ∈ wsA, w.before args s = true) (hK : KX D cI cS s) (hP : HP D n a ex H) (hE : DX A n a) (hS : va_S A H0 H locs) (hA : ∀ q, H0.size ≤ q → A q) {v : Int32} {len : Nat} (hn : ¬ v < 0) (hv : v.toNatClampNeg = len) (hlen : len * componentBytes .int ≤ 536870912) (hcells : cells + 1 ≤ R.cells) (hslots : slots + len ≤ R.slots) (hdg : decode cc pc = .ok (.newarray .int, 2))
    (kk : ∀ (q : Nat) (H1 : Heap), HP D (n + 1) (va_up a n q) (va_up ex n (.inl (cI, len, .inl (fun _ => 0)))) H1 → DX A (n + 1) (va_up a n q) → va_S A H0 H1 locs → W p l e R s m args below meth c H1 locs (cells + 1) (slots + len) Q (F0 m (pc + 2) ls (.ref q :: rest))) : W p l e R s m args below meth c H locs cells slots Q (F0 m pc ls (.int v :: rest)) := by
  refine va_newa (atype := .int) (ty := .int) hexec hb (hts _ tw63) rfl hK.1 hP.l hE.vd hS hA (a0 := (len, .inl (fun _ => 0))) (fun cA => rfl) hn hv hlen hcells hslots hdg (fun q cA H1 hK1 hP1 hD1 hS1 => ?_)
  have e1 := (hK1.2 2 (cA, .int) rfl).2
  have e2 := (hK.1.2 0 (cI, .int) rfl).2
  have e3 : cA = cI := Option.some.inj (e1.symm.trans e2)
  subst e3
  rw [← wl_push] at hP1 hD1
  exact kk q H1 (HP.of hP1) (DX.of hD1) hS1
theorem g_putFU (hexec : p.tables.exec = Jvm.exec) (hb : c.code = cc) (hts : ∀ w ∈ wsA, w.before args s = true) {own ref C : String} {T : u_T} {N ci index : Nat} (hown : s.vm.findClass own = some m.cls) (hin : ∀ w ∈ u_ws C T N, w ∈ wsA) (ty0 : Nat → FieldType) (hty : ∀ k, k < N → parseFieldDescriptor (T k).2.2.1 = some (ty0 k)) (hnm : ∀ a, a < N → ∀ b, b < N → a ≠ b → (T a).2.1 ≠ (T b).2.1) (hin2 : meth.name = "<init>") (hK : KX D cI cS s) (hP : HP D n a ex H) (hE : DX A n a) (hS : va_S A H0 H locs) (j : Nat) (hj : j < n) {r : Nat} (hr : a j = r) {fs : List Value} (he : ex j = .inr (ci, fs)) (hc : vwCl[ci]? = some (C, T, N)) (k : Nat) (hk : k < N) (hlink : Cond.fieldLink own index ref (T k).2.1 (T k).2.2.1 ∈ wsA) (hsame : (T k).1 = ref) (hfin : (T k).2.2.2 = true) (hdecl : (T k).1 = own) {ty : FieldType} {v : Value} (hd : parseFieldDescriptor (T k).2.2.1 = some ty) (hnr : narrow ty v = v) (hfit : fits ty v = true) (hl : k < fs.length) (hdg : decode cc pc = .ok (.putfield index, 3))
    (kk : ∀ (H1 : Heap) (locs1 : List Loc), HP D n a (va_up ex j (.inr (ci, fs.set k v))) H1 → va_S A H0 H1 locs1 → W p l e R s m args below meth c H1 locs1 cells slots Q (F0 m (pc + 3) ls rest)) : W p l e R s m args below meth c H locs cells slots Q (F0 m pc ls (v :: .ref r :: rest)) := by
  subst hr
  exact va_putF hexec hb hts hin ty0 hty hnm hown hK.1 hP.l hE.vd hS j (by rw [wl_get hj, he]) hc k hk (hts _ hlink) (by subst hsame; exact fun _ h => h) hfin hin2 hdecl hd hnr hfit hl hdg (fun H1 locs1 h1 _ h3 => kk H1 locs1 (HP.set hj (va_up_self _ _ _) (fun j' _ hq => va_up_ne _ _ hq) h1) h3)
theorem g_putU (hexec : p.tables.exec = Jvm.exec) (hb : c.code = cc) (hts : ∀ w ∈ wsA, w.before args s = true) {own ref C : String} {T : u_T} {N ci index : Nat} (hown : s.vm.findClass own = some m.cls) (hin : ∀ w ∈ u_ws C T N, w ∈ wsA) (ty0 : Nat → FieldType) (hty : ∀ k, k < N → parseFieldDescriptor (T k).2.2.1 = some (ty0 k)) (hnm : ∀ a, a < N → ∀ b, b < N → a ≠ b → (T a).2.1 ≠ (T b).2.1) (hK : KX D cI cS s) (hP : HP D n a ex H) (hE : DX A n a) (hS : va_S A H0 H locs) (j : Nat) (hj : j < n) {r : Nat} (hr : a j = r) {fs : List Value} (he : ex j = .inr (ci, fs)) (hc : vwCl[ci]? = some (C, T, N)) (k : Nat) (hk : k < N) (hlink : Cond.fieldLink own index ref (T k).2.1 (T k).2.2.1 ∈ wsA) (hsame : (T k).1 = ref) (hfin : (T k).2.2.2 = false) {ty : FieldType} {v : Value} (hd : parseFieldDescriptor (T k).2.2.1 = some ty) (hnr : narrow ty v = v) (hfit : fits ty v = true) (hl : k < fs.length) (hdg : decode cc pc = .ok (.putfield index, 3))
    (kk : ∀ (H1 : Heap) (locs1 : List Loc), HP D n a (va_up ex j (.inr (ci, fs.set k v))) H1 → va_S A H0 H1 locs1 → W p l e R s m args below meth c H1 locs1 cells slots Q (F0 m (pc + 3) ls rest)) : W p l e R s m args below meth c H locs cells slots Q (F0 m pc ls (v :: .ref r :: rest)) := by
  subst hr
  exact va_put hexec hb hts hin ty0 hty hnm hown hK.1 hP.l hE.vd hS j (by rw [wl_get hj, he]) hc k hk (hts _ hlink) (by subst hsame; exact fun _ h => h) hfin hd hnr hfit hl hdg (fun H1 locs1 h1 _ h3 => kk H1 locs1 (HP.set hj (va_up_self _ _ _) (fun j' _ hq => va_up_ne _ _ hq) h1) h3)
theorem g_getU (hexec : p.tables.exec = Jvm.exec) (hb : c.code = cc) (hts : ∀ w ∈ wsA, w.before args s = true) {own ref C : String} {T : u_T} {N ci index : Nat} (hown : s.vm.findClass own = some m.cls) (hin : ∀ w ∈ u_ws C T N, w ∈ wsA) (hK : KX D cI cS s) (hP : HP D n a ex H) (j : Nat) (hj : j < n) {r : Nat} (hr : a j = r) {fs : List Value} (he : ex j = .inr (ci, fs)) (hc : vwCl[ci]? = some (C, T, N)) (k : Nat) (hk : k < N) (hlink : Cond.fieldLink own index ref (T k).2.1 (T k).2.2.1 ∈ wsA) (hsame : (T k).1 = ref) {v : Value} (hv : fs[k]? = some v) (hdg : decode cc pc = .ok (.getfield index, 3))
    (kk : W p l e R s m args below meth c H locs cells slots Q (F0 m (pc + 3) ls (v :: rest))) : W p l e R s m args below meth c H locs cells slots Q (F0 m pc ls (.ref r :: rest)) := by
  subst hr
  exact g_get hexec hb hts hown hin hK hP j hj he hc k hk hlink hsame hv hdg kk
theorem g_iastU (hexec : p.tables.exec = Jvm.exec) (hb : c.code = cc) (hK : KX D cI cS s) (hP : HP D n a ex H) (hE : DX A n a) (hS : va_S A H0 H locs) (j : Nat) (hj : j < n) {r : Nat} (hr : a j = r) {len : Nat} {f : Nat → Int32} (he : ex j = .inl (cI, len, .inl f)) {i x : Int32} (k : Nat) (hi : i = nI k) (hk : k < len) (hl : len < 2 ^ 31) (hdg : decode cc pc = .ok (.iastore, 1))
    (kk : ∀ (H1 : Heap) (locs1 : List Loc), HP D n a (va_up ex j (.inl (cI, len, .inl (upd f k x)))) H1 → va_S A H0 H1 locs1 → W p l e R s m args below meth c H1 locs1 cells slots Q (F0 m (pc + 1) ls rest)) : W p l e R s m args below meth c H locs cells slots Q (F0 m pc ls (.int x :: .int i :: .ref r :: rest)) := by
  subst hr
  subst hi
  refine va_iast hexec hb hK.1 hP.l hE.vd hS j 0 (by rw [wl_get hj, he]) rfl (vp_in_nI hk hl) hdg (fun H1 locs1 h1 _ h3 => ?_)
  rw [nI_clamp (by omega)] at h1
  exact kk H1 locs1 (HP.set hj (va_up_self _ _ _) (fun j' _ hq => va_up_ne _ _ hq) h1) h3
/-- 'new C()': new; dup; invokespecial -/
theorem g_mk (hexec : p.tables.exec = Jvm.exec) (hb : c.code = cc) (hts : ∀ w ∈ wsA, w.before args s = true) {own C : String} {T : u_T} {N ci index mm mc ms : Nat} {fs : List Value} {f : (Nat → Nat) → Nat → va_E} (hown : s.vm.findClass own = some m.cls) (hin : ∀ w ∈ u_ws C T N, w ∈ wsA) (ty0 : Nat → FieldType) (hty : ∀ k, k < N → parseFieldDescriptor (T k).2.2.1 = some (ty0 k)) (hcl : Cond.classLink own index C ∈ wsA) (hinst : Cond.instantiable C N ∈ wsA) (hini : Cond.initialized C ∈ wsA) (hK : KX D cI cS s) (hP : HP D n a ex H) (hE : DX A n a) (hS : va_S A H0 H locs) (hA : ∀ q, H0.size ≤ q → A q) (hc : vwCl[ci]? = some (C, T, N)) (hfs : ∀ j, j < N → defaultValue (ty0 j) = vp_V fs j) (hcells : cells + 1 ≤ R.cells) (hslots : slots + N ≤ R.slots) (d0 : decode cc pc = .ok (.new index, 3)) (d3 : decode cc (pc + 3) = .ok (.dup, 1)) (hm : 0 < mm)
    (hcall : ∀ (q : Nat) (H1 : Heap), HP D 1 (fun _ => q) (fun _ => .inr (ci, fs)) H1 → va_Run p l e R s m args below meth c H1 locs (cells + 1) (slots + N) mc ms (F0 m (pc + 4) ls (.ref q :: .ref q :: rest)) (.ref q :: rest) (QI D mm q H1.size f #[Value.ref q]) (AI q H1.size))
    (kk : ∀ (u : Nat → Nat) (H1 : Heap) (locs1 : List Loc), HP D (n + mm) (apA a n u) (apE ex n (f u)) H1 → DX A (n + mm) (apA a n u) → va_S A H0 H1 locs1 → W p l e R s m args below meth c H1 locs1 (cells + 1 + mc) (slots + N + ms) Q (F0 m (pc + 7) ls (.ref (u 0) :: rest))) : W p l e R s m args below meth c H locs cells slots Q (F0 m pc ls rest) := by
  refine va_new (ci := ci) (fs := fs) hexec hb hts hin ty0 hty hown (hts _ hcl) (hts _ hinst) (hts _ hini) hK.1 hP.l hE.vd hS hA hc hfs hcells hslots d0 (fun q H1 hP1 hD1 hS1 => ?_)
  rw [← wl_push] at hP1 hD1
  have hP2 : HP D (n + 1) (va_up a n q) (va_up ex n (.inr (ci, fs))) H1 := HP.of hP1
  have hE2 : DX A (n + 1) (va_up a n q) := DX.of hD1
  have hq1 : HP D 1 (fun _ => q) (fun _ => .inr (ci, fs)) H1 := fun k hk => by
    have := hP2 n (by omega)
    rw [va_up_self, va_up_self] at this
    exact this
  have hqA : A q := by
    have := hE2.2 n (by omega)
    rwa [va_up_self] at this
  have hqn : ∀ i, i < n → a i ≠ q := fun i hi hq => by
    have := hE2.1 i n (by omega) (by omega) (by rw [va_up_ne _ _ (by omega), va_up_self]; exact hq)
    omega
  have hPa : HP D n a ex H1 := fun k hk => by
    have := hP2 k (by omega)
    rw [va_up_ne _ _ (by omega), va_up_ne _ _ (by omega)] at this
    exact this
  refine lv_dup hexec hb d3 rfl ?_
  have hAA : ∀ z, AI q H1.size z → A z := by
    rintro z (⟨k, -, rfl⟩ | hz)
    · exact hqA
    · exact hA z (Nat.le_trans hS1.1 hz)
  refine va_callv (hcall q H1 hq1) hS1 (fun z _ h => hAA z h) hAA (fun u t H2 locs2 ht _ hu hB hz hk hS2 => ?_)
  obtain ⟨hu0, hDu⟩ := hu
  have hPa2 : HP D n a ex H2 := hPa.kept (fun k hk1 => hk _ (hPa.lt hk1) (by
    rintro (⟨i, -, hi⟩ | hi)
    · exact hqn k hk1 hi
    · have := hPa.lt hk1; omega))
  have hd : ∀ i j, i < n → j < mm → a i ≠ u j := fun i j hi hj hq => by
    rcases hDu.2 j hj with ⟨i', -, hi'⟩ | hi'
    · exact hqn i hi (hq.trans hi')
    · have := hPa.lt hi; rw [← hq] at hi'; omega
  rw [← hu0]
  exact kk u H2 locs2 (hPa2.ap (ht ▸ hB)) (hE.ap ⟨hDu.1, fun k hk => hAA _ (hDu.2 k hk)⟩ hd) hS2
/-- a constructor's end -/
theorem c_vr {h0 mm : Nat} {f : (Nat → Nat) → Nat → va_E} (hx : p.tables.exec = Jvm.exec) (hb : c.code = cc) (hr : meth.sig.returnType = none) (hlocks : meth.locks = false) (hS : va_S (AI h0 s.heap.size) s.heap H locs) (u : Nat → Nat) (hu : u 0 = h0) (hE : DX (AI h0 s.heap.size) mm u) (hP : HP D mm u (f u) H) (hdg : decode cc pc = .ok (.return_, 1)) : W p l e R s m args below meth c H locs cells slots (MQ below (QI D mm h0 s.heap.size f) args s cells slots (AI h0 s.heap.size)) (F0 m pc ls []) :=
  W.vret hx hb hr (fun t ht _ => ⟨⟨u, rfl, ⟨hu, hE⟩, by show HP _ _ _ _ t.heap; rw [ht]; exact hP⟩, hS.F ht⟩) hS.2.2 hdg hlocks
end INI
theorem psI {D : va_G} {cI cS : ClassId} {s : State} {h0 : Nat} {x : va_E} {H : Heap} {As : List Value} (hK : KX D cI cS s) (hAO : va_AO RX4 s) (hP : HP D 1 (fun _ => h0) (fun _ => x) H) : PreS s H (va_Pc As (PI D cI cS h0 x H.size)) As := ⟨pbI, fun U hU hW => ⟨rfl, by rw [hU], by rw [hU]; exact hP, hK.moved hW, va_AO.moved hW.alike hAO⟩⟩
