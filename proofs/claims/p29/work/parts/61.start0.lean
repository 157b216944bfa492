/-! THE CLAIM OUT OF ONE WALK OF THE LAW'S BODY. Your part is whole_start (and what it stands on); all else here is the same for every law, but numbers. -/
def R_law : String := "DialWardensLaw"
def lw_P (b : Addr) (xs : List Int32) (args : Array Value) (s : State) : Prop := args = #[.ref b] ∧ s.IntsAt b xs ∧ xs.length ≤ 260 ∧ (Jvm.Cond.and given_1 narrow_1).before args s = true
/-- what a walk over the start with the record d0 says of its end, said of the start itself -/
theorem lw_closed {s t : State} {o : Outcome} {d0 : Drawn} {L : List Loc} {k n : Nat} (hd0 : s.drawn.sameBut d0 lw_cs) (hv : ∃ v, o = .returned v) (hW : (s.setDrawn d0).WarmedH t.vm) (hs : (s.setDrawn d0).sameButNew ({ t with vm := s.vm } : State) L k n) : State.butDraws s t lw_cs (fun t1 => Framed s o t1 L k n) := by
  have h2 : t.drawn = d0 := congrArg State.drawn hs.1
  refine ⟨⟨hv, hW, State.sameButNew.setDrawn hs s.drawn⟩, ?_, by decide⟩
  rw [h2]
  exact hd0
def lw_Q (_ : Array Value) (s : State) (o : Outcome) (t : State) : Prop := o = .returned (some (.int 1)) ∧ State.butDraws s t lw_cs (fun t1 => Framed s o t1 [] 619590 7242698)
def lw_Z (below : List Frame) (a : Array Value) (s : State) : State → Prop := fun t => ∃ o, t.status = .running ∧ Ended t below o ∧ lw_Q a s o t
/-- the law's own end, with 1 on the stack, nothing written that was there before, its room as the claim has it; d0: the record of draws at this point (at the entry s.drawn: begin with 'refine W.base ?_' and 'have hd0 := Drawn.sameBut.refl s.drawn lw_cs') -/
theorem lw_ret {p : Program} {l : Launch} {e : Env} {s : State} {m : MethodId} {below : List Frame} {meth : Method} {c : Code} {b : Nat} {d0 : Drawn} (hd0 : s.drawn.sameBut d0 lw_cs) (hx : p.tables.exec = Jvm.exec) (hb : c.code = code) (hr : meth.sig.returnType = ret) (hlocks : meth.locks = false) {pc : Nat} {H : Heap} {ls : Array Slot} (hdg : decode code pc = .ok (.ireturn, 1)) : W p l e room_1 (s.setDrawn d0) m #[Value.ref b] below meth c H [] 619590 7242698 (lw_Z below #[Value.ref b] s) (F0 m pc ls [.int 1]) := by
  intro T hT X
  obtain ⟨fs, hret, hrun, hended, hW, hframe⟩ := X.leave (v := some (.int 1)) (hlocks := hlocks) (fun h => by rw [hr] at h; cases h)
  have hmeth' : T.vm.method? m = some meth := X.method'
  refine ⟨T.setFrames fs, ?_, .returned (some (.int 1)), hrun, hended, rfl, lw_closed hd0 ⟨_, rfl⟩ hW hframe⟩
  jvm_step X.here [X.here.top, hx, hb, hdg, hmeth', hr, ret, narrow_b1]
  (try refine ⟨rfl, ?_⟩); (try refine ⟨rfl, ?_⟩)
  first | (intro acts; rw [hret _ acts rfl rfl rfl]) | rw [hret _ _ rfl rfl rfl]
  exact Steps.refl _
/-- what holds at the law's entry: the machine, the code, the tables' words (any of lw_tbl by 'hts w (by decide +kernel)'), the script of L ints xs at the cell b, what the Statement gives of the start (any of its parts by flat_of_before) -/
def lw_At (p : Program) (s : State) (m : MethodId) (meth : Method) (c : Code) (b L : Nat) (xs : Nat → Int32) : Prop :=
  p.tables.exec = Jvm.exec ∧ c.code = code ∧ meth.sig.returnType = ret ∧ c.maxLocals = 6 ∧ s.vm.findClass R_law = some m.cls ∧ (∀ w ∈ lw_tbl, w.before #[Value.ref b] s = true) ∧ va_X b L xs s s.heap ∧ b < s.heap.size ∧ meth.locks = false ∧ (Jvm.Cond.and given_1 narrow_1).before #[Value.ref b] s = true
/-! own rows of the law's entry -/
theorem st_cls {s : State} {args : Array Value} (hts : ∀ w ∈ wsA, w.before args s = true) : ∃ (dC : Nat → ClassId) (dI : Nat → Nat → Nat), ∀ (k : Nat) (q : vw_C), vwCl[k]? = some q → u_Kn s q.1 q.2.1 q.2.2 (dC k) (dI k) := by
  obtain ⟨c0, i0, h0⟩ := u_known (C := RX0) (T := TX0) (N := 7) (n := 7) hts inA0 (hts _ tw29)
  obtain ⟨c1, i1, h1⟩ := u_known (C := RX1) (T := TX1) (N := 2) (n := 2) hts inA1 (hts _ tw111)
  obtain ⟨c2, i2, h2⟩ := u_known (C := RX2) (T := TX2) (N := 2) (n := 2) hts inA2 (hts _ tw128)
  obtain ⟨c3, i3, h3⟩ := u_known (C := RX3) (T := TX3) (N := 3) (n := 3) hts inA3 (hts _ tw140)
  obtain ⟨c4, i4, h4⟩ := u_known (C := RX4) (T := TX4) (N := 6) (n := 6) hts inA4 (hts _ tw23)
  obtain ⟨c5, i5, h5⟩ := u_known (C := RX5) (T := TX5) (N := 3) (n := 3) hts inA5 (hts _ tw65)
  obtain ⟨c6, i6, h6⟩ := u_known (C := RX6) (T := TX6) (N := 6) (n := 6) hts inA6 (hts _ tw15)
  refine ⟨fun k => match k with | 0 => c0 | 1 => c1 | 2 => c2 | 3 => c3 | 4 => c4 | 5 => c5 | _ => c6, fun k => match k with | 0 => i0 | 1 => i1 | 2 => i2 | 3 => i3 | 4 => i4 | 5 => i5 | _ => i6, ?_⟩
  intro k q hq
  match k, hq with
  | 0, hq => cases hq; exact h0
  | 1, hq => cases hq; exact h1
  | 2, hq => cases hq; exact h2
  | 3, hq => cases hq; exact h3
  | 4, hq => cases hq; exact h4
  | 5, hq => cases hq; exact h5
  | 6, hq => cases hq; exact h6
  | k + 7, hq => simp at hq
theorem st_arr {s : State} {args : Array Value} {ty : FieldType} (h : (Cond.arrayClass ty).before args s = true) (hr : ∀ c, s.vm.findClass ("[" ++ ty.toString) = some c → va_RA s c ty) : ∃ cA : ClassId, ArrOfT s cA ty ∧ va_RA s cA ty := by
  obtain ⟨c, k, comp, h1, h2, h3⟩ := Cond.arrayClass_spec h
  exact ⟨c, fun N z => ⟨fun k h => (by cases h), k, h2, comp, h3⟩, hr c h1⟩
theorem st_arrO {s : State} {args : Array Value} {C : String} (h : (Cond.arrayOver (.object C)).before args s = true) : ∃ cA : ClassId, ArrOfT s cA (.object C) ∧ va_RA s cA (.object C) := by
  obtain ⟨comp, c, k, h1, h2, h3, h4, h5⟩ := Cond.arrayOver_spec h
  exact ⟨c, fun N z => ⟨fun k h => (by cases h), k, h3, comp, h4⟩, k, comp, h3, h4, h1, h5⟩
theorem st_ao : Cond.arrayOver (.object RX4) ∈ lw_tbl := by decide +kernel
theorem st_nk {w : Cond} (hw : w ∈ nestW) : w.onTables = true := by
  rcases nestW_keep w hw with ⟨a, b, c, d, e, f, rfl⟩ | ⟨a, b, c, d, rfl⟩ <;> rfl
theorem st_KX {s : State} {b : Nat} (hts : ∀ w ∈ lw_tbl, w.before #[Value.ref b] s = true) : ∃ (D : va_G) (cI cS : ClassId), KX D cI cS s ∧ va_AO RX4 s := by
  have htsA : ∀ w ∈ wsA, w.before #[Value.ref b] s = true := fun w h => hts w (List.mem_filter.mp h).1
  obtain ⟨dC, dI, hKc⟩ := st_cls htsA
  obtain ⟨cI, ai, ri⟩ := st_arr (ty := .int) (htsA _ tw63) (fun c h => h)
  obtain ⟨cS, as, rs⟩ := st_arrO (hts _ st_ao)
  refine ⟨(dC, dI), cI, cS, ⟨⟨hKc, fun k q hq => ?_⟩, fun w hw => va_Nw.of (st_nk hw) (hts w (nestW_tbl w hw))⟩, va_AO.of (hts _ st_ao)⟩
  match k, hq with
  | 0, hq => cases hq; exact ⟨ai, ri⟩
  | 1, hq => cases hq; exact ⟨as, rs⟩
  | k + 2, hq => simp at hq
theorem apA_0 {a u : Nat → Nat} : apA a 0 u = u := by
  funext k
  unfold apA
  rw [if_neg (Nat.not_lt_zero k)]
  rfl
theorem apE_0 {a u : Nat → va_E} : apE a 0 u = u := by
  funext k
  unfold apE
  rw [if_neg (Nat.not_lt_zero k)]
  rfl
theorem st_x2 {D : va_G} {cI cS : ClassId} {u1 : Nat → Nat} {H : Heap} (h1 : HP D 113 u1 (dC6 cI cS u1) H) : HP D 113 (fun j => u1 (pmN j)) (exU cI cS (fun j => u1 (pmN j)) (s0, fun _ => s0, fun k => k, fun _ => z0, fun _ => z0)) H := by
  intro k hk
  obtain ⟨e1, e2⟩ := pm_ok k hk
  have h2 := h1 (pmN k) e2
  unfold dC6 at h2
  rw [e1] at h2
  exact h2
theorem st_DI {z : Nat} {u1 : Nat → Nat} (h : DX (LA z) 113 u1) : DI 113 (fun j => u1 (pmN j)) := by
  intro i j hi hj e
  have h1 := pm_ok i hi
  have h2 := pm_ok j hj
  have h3 := h.1 _ _ h1.2 h2.2 e
  rw [← h1.1, ← h2.1, h3]
theorem st_Bd : Bd 0 s0 := by
  unfold Bd
  decide +kernel
theorem st_Gd : Gd 0 s0 := ⟨st_Bd, by decide +kernel, by decide +kernel, by decide +kernel, by decide +kernel⟩
theorem st_OK : OKG (1000 * ((0 : Nat) : Int)) (s0, fun _ => s0, fun k => k, fun _ => z0, fun _ => z0) s0 :=
  ⟨0, fun _ => s0, ⟨rfl, Nat.zero_le _, rfl, fun _ h => h, fun _ _ _ _ h => h, fun k h => absurd h (Nat.not_lt_zero k)⟩, st_Gd, fun k h => absurd h (Nat.not_lt_zero k)⟩
