/-! THE CLAIM OUT OF ONE WALK OF THE LAW'S BODY. Your part is whole_start (and what it stands on); all else here is the same for every law, but numbers. -/
def R_law : String := "DialWardensLaw"
def lw_P (b : Addr) (xs : List Int32) (args : Array Value) (s : State) : Prop := args = #[.ref b] ∧ s.IntsAt b xs ∧ xs.length ≤ 2048 ∧ (Jvm.Cond.and given_1 narrow_1).before args s = true
/-- what a walk over the start with the record d0 says of its end, said of the start itself -/
theorem lw_closed {s t : State} {o : Outcome} {d0 : Drawn} {L : List Loc} {k n : Nat} (hd0 : s.drawn.sameBut d0 lw_cs) (hv : ∃ v, o = .returned v) (hW : (s.setDrawn d0).WarmedH t.vm) (hs : (s.setDrawn d0).sameButNew ({ t with vm := s.vm } : State) L k n) : State.butDraws s t lw_cs (fun t1 => Framed s o t1 L k n) := by
  have h2 : t.drawn = d0 := congrArg State.drawn hs.1
  refine ⟨⟨hv, hW, State.sameButNew.setDrawn hs s.drawn⟩, ?_, by decide⟩
  rw [h2]
  exact hd0
def lw_Q (_ : Array Value) (s : State) (o : Outcome) (t : State) : Prop := o = .returned (some (.int 1)) ∧ State.butDraws s t lw_cs (fun t1 => Framed s o t1 [] 622184 7229551)
def lw_Z (below : List Frame) (a : Array Value) (s : State) : State → Prop := fun t => ∃ o, t.status = .running ∧ Ended t below o ∧ lw_Q a s o t
/-- the law's own end, with 1 on the stack, nothing written that was there before, its room as the claim has it; d0: the record of draws at this point (at the entry s.drawn: begin with 'refine W.base ?_' and 'have hd0 := Drawn.sameBut.refl s.drawn lw_cs') -/
theorem lw_ret {p : Program} {l : Launch} {e : Env} {s : State} {m : MethodId} {below : List Frame} {meth : Method} {c : Code} {b : Nat} {d0 : Drawn} (hd0 : s.drawn.sameBut d0 lw_cs) (hx : p.tables.exec = Jvm.exec) (hb : c.code = code) (hr : meth.sig.returnType = ret) (hlocks : meth.locks = false) {pc : Nat} {H : Heap} {ls : Array Slot} (hdg : decode code pc = .ok (.ireturn, 1)) : W p l e room_1 (s.setDrawn d0) m #[Value.ref b] below meth c H [] 622184 7229551 (lw_Z below #[Value.ref b] s) (F0 m pc ls [.int 1]) := by
  intro T hT X
  obtain ⟨fs, hret, hrun, hended, hW, hframe⟩ := X.leave (v := some (.int 1)) (hlocks := hlocks) (fun h => by rw [hr] at h; cases h)
  have hmeth' : T.vm.method? m = some meth := X.method'
  refine ⟨T.setFrames fs, ?_, .returned (some (.int 1)), hrun, hended, rfl, lw_closed hd0 ⟨_, rfl⟩ hW hframe⟩
  jvm_step X.here [X.here.top, hx, hb, hdg, hmeth', hr, ret, narrow_b1]
  (try refine ⟨rfl, ?_⟩); (try refine ⟨rfl, ?_⟩)
  first | (intro acts; rw [hret _ acts rfl rfl rfl]) | rw [hret _ _ rfl rfl rfl]
  exact Steps.refl _
/-- what holds at the law's entry: the machine, the code, the tables' words (any of lw_tbl by 'hts w (by decide +kernel)'), the script of L ints xs at the cell b, what the Statement gives of the start (any of its parts by flat_of_before) -/
def lw_At (p : Program) (s : State) (m : MethodId) (meth : Method) (c : Code) (b L : Nat) (xs : Nat → Int32) : Prop :=
  p.tables.exec = Jvm.exec ∧ c.code = code ∧ meth.sig.returnType = ret ∧ c.maxLocals = 9 ∧ s.vm.findClass R_law = some m.cls ∧ (∀ w ∈ lw_tbl, w.before #[Value.ref b] s = true) ∧ va_X b L xs s s.heap ∧ b < s.heap.size ∧ meth.locks = false ∧ (Jvm.Cond.and given_1 narrow_1).before #[Value.ref b] s = true
/-! own rows of the law's entry -/
theorem st_cls {s : State} {args : Array Value} (hts : ∀ w ∈ wsA, w.before args s = true) : ∃ (dC : Nat → ClassId) (dI : Nat → Nat → Nat), ∀ (k : Nat) (q : vw_C), vwCl[k]? = some q → u_Kn s q.1 q.2.1 q.2.2 (dC k) (dI k) := by
  obtain ⟨c0, i0, h0⟩ := u_known (C := RX0) (T := TX0) (N := 7) (n := 7) hts inA0 (hts _ tw30)
  obtain ⟨c1, i1, h1⟩ := u_known (C := RX1) (T := TX1) (N := 2) (n := 2) hts inA1 (hts _ tw112)
  obtain ⟨c2, i2, h2⟩ := u_known (C := RX2) (T := TX2) (N := 2) (n := 2) hts inA2 (hts _ tw129)
  obtain ⟨c3, i3, h3⟩ := u_known (C := RX3) (T := TX3) (N := 3) (n := 3) hts inA3 (hts _ tw143)
  obtain ⟨c4, i4, h4⟩ := u_known (C := RX4) (T := TX4) (N := 6) (n := 6) hts inA4 (hts _ tw24)
  obtain ⟨c5, i5, h5⟩ := u_known (C := RX5) (T := TX5) (N := 3) (n := 3) hts inA5 (hts _ tw66)
  obtain ⟨c6, i6, h6⟩ := u_known (C := RX6) (T := TX6) (N := 6) (n := 6) hts inA6 (hts _ tw16)
  obtain ⟨c7, i7, h7⟩ := u_known (C := RX7) (T := TX7) (N := 11) (n := 11) hts inA7 (hts _ tw755)
  refine ⟨fun k => match k with | 0 => c0 | 1 => c1 | 2 => c2 | 3 => c3 | 4 => c4 | 5 => c5 | 6 => c6 | _ => c7, fun k => match k with | 0 => i0 | 1 => i1 | 2 => i2 | 3 => i3 | 4 => i4 | 5 => i5 | 6 => i6 | _ => i7, ?_⟩
  intro k q hq
  match k, hq with
  | 0, hq => cases hq; exact h0
  | 1, hq => cases hq; exact h1
  | 2, hq => cases hq; exact h2
  | 3, hq => cases hq; exact h3
  | 4, hq => cases hq; exact h4
  | 5, hq => cases hq; exact h5
  | 6, hq => cases hq; exact h6
  | 7, hq => cases hq; exact h7
  | k + 8, hq => simp at hq
theorem st_arr {s : State} {args : Array Value} {ty : FieldType} (h : (Cond.arrayClass ty).before args s = true) (hr : ∀ c, s.vm.findClass ("[" ++ ty.toString) = some c → va_RA s c ty) : ∃ cA : ClassId, ArrOfT s cA ty ∧ va_RA s cA ty := by
  obtain ⟨c, k, comp, h1, h2, h3⟩ := Cond.arrayClass_spec h
  exact ⟨c, fun N z => ⟨fun k h => (by cases h), k, h2, comp, h3⟩, hr c h1⟩
theorem st_arrO {s : State} {args : Array Value} {C : String} (h : (Cond.arrayOver (.object C)).before args s = true) : ∃ cA : ClassId, ArrOfT s cA (.object C) ∧ va_RA s cA (.object C) := by
  obtain ⟨comp, c, k, h1, h2, h3, h4, h5⟩ := Cond.arrayOver_spec h
  exact ⟨c, fun N z => ⟨fun k h => (by cases h), k, h3, comp, h4⟩, k, comp, h3, h4, h1, h5⟩
theorem st_ao : Cond.arrayOver (.object RX4) ∈ lw_tbl := by decide +kernel
theorem st_sr : ∀ q ∈ XStr, Cond.stringRef RX6 q.1 q.2 ∈ lw_tbl := by decide +kernel
theorem st_nw : ∀ w ∈ nwW, w ∈ lw_tbl := by decide +kernel
theorem st_nk {w : Cond} (hw : w ∈ nestW) : w.onTables = true := by
  rcases nestW_keep w hw with ⟨a, b, c, d, e, f, rfl⟩ | ⟨a, b, c, d, rfl⟩ <;> rfl
theorem st_KX {s : State} {b : Nat} (hts : ∀ w ∈ lw_tbl, w.before #[Value.ref b] s = true) : ∃ (D : va_G) (cI cS cL : ClassId), KX D cI cS s ∧ KL D cL s ∧ va_AO RX4 s := by
  have htsA : ∀ w ∈ wsA, w.before #[Value.ref b] s = true := fun w h => hts w (List.mem_filter.mp h).1
  obtain ⟨dC, dI, hKc⟩ := st_cls htsA
  obtain ⟨cI, ai, ri⟩ := st_arr (ty := .int) (htsA _ tw64) (fun c h => h)
  obtain ⟨cL, al, rl⟩ := st_arr (ty := .long) (htsA _ tw1058) (fun c h => h)
  obtain ⟨cS, as, rs⟩ := st_arrO (hts _ st_ao)
  refine ⟨(dC, dI), cI, cS, cL, ⟨⟨hKc, fun k q hq => ?_⟩, fun w hw => va_Nw.of (st_nk hw) (hts w (nestW_tbl w hw))⟩, ⟨hKc, fun k q hq => ?_⟩, va_AO.of (hts _ st_ao)⟩
  · match k, hq with
    | 0, hq => cases hq; exact ⟨ai, ri⟩
    | 1, hq => cases hq; exact ⟨as, rs⟩
    | k + 2, hq => simp at hq
  · match k, hq with
    | 0, hq => cases hq; exact ⟨al, rl⟩
    | k + 1, hq => simp at hq
set_option maxRecDepth 100000 in
theorem st_EV {s : State} {b : Nat} (hts : ∀ w ∈ lw_tbl, w.before #[Value.ref b] s = true) (hgv : (Jvm.Cond.and given_1 narrow_1).before #[Value.ref b] s = true) : EV s := by
  have hs := flat_of_before _ hgv
  refine ⟨fun q hq => ?_, fun w hw => va_Nw.of (nw_tab w hw) (hts w (st_nw w hw)), va_Nc.of (hs _ (by decide +kernel)), va_Nc.of (hs _ (by decide +kernel))⟩
  have h1 : (Cond.exactly (.string RX6 q.1) "java/lang/String").before #[Value.ref b] s = true := hs _ (by revert q; decide +kernel)
  obtain ⟨a, c, cell, k, h2, -⟩ := Cond.exactly_spec h1
  exact ⟨a, vk_R.of (hts _ (st_sr q hq)) h2⟩
set_option maxRecDepth 100000 in
theorem st_EH {s : State} {b : Nat} (hts : ∀ w ∈ lw_tbl, w.before #[Value.ref b] s = true) (hgv : (Jvm.Cond.and given_1 narrow_1).before #[Value.ref b] s = true) : EH (LA s.heap.size) s s.heap := by
  have hs := flat_of_before _ hgv
  exact ⟨vx_Zqof (hts _ (by decide +kernel)) (hts _ (List.mem_filter.mp tw9).1) (hs _ (by decide +kernel)) (fun a ha => Nat.not_le.mpr ha), vx_Zqof (hts _ (by decide +kernel)) (hts _ (List.mem_filter.mp tw9).1) (hs _ (by decide +kernel)) (fun a ha => Nat.not_le.mpr ha)⟩
theorem st_tr {l : Launch} (h : l.flags = flags0) : l.stackTraces = false := by
  unfold Launch.stackTraces
  rw [h]
  decide +kernel
theorem apA_0 {a u : Nat → Nat} : apA a 0 u = u := by
  funext k
  unfold apA
  rw [if_neg (Nat.not_lt_zero k)]
  rfl
theorem apE_0 {a u : Nat → va_E} : apE a 0 u = u := by
  funext k
  unfold apE
  rw [if_neg (Nat.not_lt_zero k)]
  rfl
theorem exC_a {cI cS : ClassId} {a a' : Nat → Nat} {s : St} {st : Nat → St} {pi : Nat → Nat} {mi po : St} (h : ∀ j, j ≠ 113 → a j = a' j) {n : Nat} (hn : n < 113) : exC cI cS a s st pi mi po n = exC cI cS a' s st pi mi po n := by
  unfold exC
  by_cases h1 : n < 13
  · rw [if_pos h1, if_pos h1]
    exact stC_sub (o := 0) (fun k hk => by rw [Nat.zero_add]; exact h k (by omega)) h1
  · rw [if_neg h1, if_neg h1]
    unfold exH
    by_cases h2 : n < 104
    · rw [if_pos h2, if_pos h2]
      have hm : n % 13 < 13 := Nat.mod_lt _ (by omega)
      have hd : n / 13 < 8 := by omega
      have e1 := stC_sub (cI := cI) (a := a) (b := fun k => a (13 * (n / 13) + k)) (o := 13 * (n / 13)) (s := st (n / 13 - 1)) (fun k hk => rfl) hm
      have e2 := stC_sub (cI := cI) (a := a') (b := fun k => a (13 * (n / 13) + k)) (o := 13 * (n / 13)) (s := st (n / 13 - 1)) (fun k hk => h _ (by omega)) hm
      exact e1.symm.trans e2
    · rw [if_neg h2, if_neg h2]
      obtain ⟨j, rfl⟩ : ∃ j, n = 104 + j := ⟨n - 104, by omega⟩
      rw [show 104 + j - 104 = j by omega]
      match j, hn with
      | 0, _ => exact congrArg (fun z => (Sum.inr (1, [Value.ref z, .int (mi 0 0)]) : va_E)) (h 105 (by decide))
      | 1, _ => exact congrArg (fun f => (Sum.inl (cS, 6, .inr (.inr (.inr (.inr f)))) : va_E)) (funext fun k => congrArg some (h _ (by omega)))
      | 2, _ => exact congrArg (fun z => (Sum.inr (2, [Value.ref z, .int (mi 0 1)]) : va_E)) (h 107 (by decide))
      | 3, _ => rfl
      | 4, _ =>
        show (Sum.inr (3, [Value.ref (a 109), .ref (a 110), .ref (a 111)]) : va_E) = Sum.inr (3, [Value.ref (a' 109), .ref (a' 110), .ref (a' 111)])
        rw [h 109 (by decide), h 110 (by decide), h 111 (by decide)]
      | 5, _ => rfl
      | 6, _ => rfl
      | 7, _ => rfl
      | j + 8, _ =>
        show (Sum.inr (6, [Value.ref (a 0), .ref (a 13), .int (mi 0 2), .ref (a 104), .ref (a 106), .ref (a 108)]) : va_E) = Sum.inr (6, [Value.ref (a' 0), .ref (a' 13), .int (mi 0 2), .ref (a' 104), .ref (a' 106), .ref (a' 108)])
        rw [h 0 (by decide), h 13 (by decide), h 104 (by decide), h 106 (by decide), h 108 (by decide)]
theorem st_x {D : va_G} {cI cS cL : ClassId} {u1 : Nat → Nat} {q : Nat} {H : Heap} (h1 : HP D 113 u1 (dC6 cI cS u1) H) (hq : va_at D vwCl (q, .inl (cL, 1, .inr (.inl (fun _ => 0)))) H) : HP D 114 (va_up (fun j => u1 (pmN j)) 113 q) (exOf (exC cI cS (va_up (fun j => u1 (pmN j)) 113 q) s0 (fun _ => s0) (fun k => k) (fun _ => z0) (fun _ => z0)) cL (fun _ => 0)) H := by
  intro k hk
  by_cases h : k < 113
  · obtain ⟨e1, e2⟩ := pm_ok k h
    have h2 := h1 (pmN k) e2
    unfold dC6 at h2
    rw [e1] at h2
    rw [ex_l h, va_up_ne _ _ (by omega), exC_a (a' := fun j => u1 (pmN j)) (fun j hj => va_up_ne (fun j => u1 (pmN j)) q hj) h]
    exact h2
  · have e : k = 113 := by omega
    subst e
    rw [va_up_self]
    unfold exOf
    rw [if_neg (by omega)]
    exact hq
def iaN (j : Nat) : Nat := if j < 113 then pmN j else 119
theorem ia_lt {j : Nat} : iaN j < 113 ∨ iaN j = 119 := by
  unfold iaN
  split
  · rename_i h; exact Or.inl (pm_ok j h).2
  · exact Or.inr rfl
theorem ia_inj {i j : Nat} (hi : i < 114) (hj : j < 114) (e : iaN i = iaN j) : i = j := by
  unfold iaN at e
  by_cases h1 : i < 113 <;> by_cases h2 : j < 113
  · rw [if_pos h1, if_pos h2] at e
    have e1 := (pm_ok i h1).1
    have e2 := (pm_ok j h2).1
    rw [← e1, ← e2, e]
  · rw [if_pos h1, if_neg h2] at e
    have := (pm_ok i h1).2; omega
  · rw [if_neg h1, if_pos h2] at e
    have := (pm_ok j h2).2; omega
  · omega
theorem st_LC {z q : Nat} {u1 u2 : Nat → Nat} (h : DX (LA z) 120 (va_up (apA u1 113 u2) 119 q)) : LC (va_up (fun j => u1 (pmN j)) 113 q) u2 z := by
  have ea : ∀ j, j < 114 → va_up (fun j => u1 (pmN j)) 113 q j = va_up (apA u1 113 u2) 119 q (iaN j) := by
    intro j hj
    unfold iaN
    by_cases h1 : j < 113
    · have := (pm_ok j h1).2
      rw [if_pos h1, va_up_ne _ _ (by omega), va_up_ne _ _ (by omega), apA_l this]
    · rw [if_neg h1, va_up_self, show j = 113 by omega, va_up_self]
  have eb : ∀ j, j < 6 → u2 j = va_up (apA u1 113 u2) 119 q (113 + j) := by
    intro j hj
    rw [va_up_ne _ _ (by omega), apA_r]
  have il : ∀ j, iaN j < 120 := fun j => by rcases ia_lt (j := j) with h | h <;> omega
  refine ⟨fun i j hi hj e => ?_, fun i j hi hj e => ?_, fun i j hi hj e => ?_, fun i hi => ?_, fun j hj => ?_⟩
  · rw [ea i hi, ea j hj] at e
    exact ia_inj hi hj (h.1 _ _ (il i) (il j) e)
  · rw [eb i hi, eb j hj] at e
    have := h.1 _ _ (by omega) (by omega) e
    omega
  · rw [ea i hi, eb j hj] at e
    have := h.1 _ _ (il i) (by omega) e
    rcases ia_lt (j := i) with h | h <;> omega
  · rw [ea i hi]; exact h.2 _ (il i)
  · rw [eb j hj]; exact h.2 _ (by omega)
theorem st_Bd : Bd 0 s0 := by
  unfold Bd
  decide +kernel
theorem st_LI : LI 0 s0 (fun _ => s0) (fun k => k) (fun _ => z0) (fun _ => z0) (fun _ _ => z0) z0 0 0 :=
  ⟨Nat.zero_le _, fun _ h => h, fun _ _ _ _ h => h, fun k h => absurd h (Nat.not_lt_zero k), st_Bd, Nat.zero_le _, nI_0.symm, nI_0.symm, nI_0.symm, nI_0.symm, rfl, fun h => absurd rfl h⟩
theorem st_W {D : va_G} {cI cS cL : ClassId} {u1 u2 : Nat → Nat} {q : Nat} {H : Heap} (h : HP D 120 (va_up (apA u1 113 u2) 119 q) (va_up (apE (dC6 cI cS u1) 113 (emC cI u2 (mdl s0 (fun _ => z0) (fun _ _ => z0) z0 z0 z0))) 119 (.inl (cL, 1, .inr (.inl (fun _ => 0))))) H) : LWd D cI cS cL (va_up (fun j => u1 (pmN j)) 113 q) u2 0 H := by
  refine ⟨s0, fun _ => s0, fun k => k, fun _ => z0, fun _ => z0, fun _ => 0, fun _ => z0, fun _ _ => z0, z0, z0, 0, 0, st_x (fun k hk => ?_) ?_, fun k hk => ?_, st_LI⟩
  · have h1 := h k (by omega)
    rw [va_up_ne _ _ (by omega), va_up_ne _ _ (by omega), apA_l hk, apE_l hk] at h1
    exact h1
  · have h1 := h 119 (by omega)
    rw [va_up_self, va_up_self] at h1
    exact h1
  · have h1 := h (113 + k) (by omega)
    rw [va_up_ne _ _ (by omega), va_up_ne _ _ (by omega), apA_r, apE_r] at h1
    exact h1
section STL
variable {p : Program} {l : Launch} {e : Env} {R : Room} {s : State} {m : MethodId} {args : Array Value} {below : List Frame} {meth : Method} {c : Code} {H : Heap} {locs : List Loc} {cells slots : Nat} {Q : State → Prop}
variable {pc : Nat} {ls : Array Slot} {rest : List Value} {cc : ByteArray} {D : va_G} {cI cS cL : ClassId} {n : Nat} {a : Nat → Nat} {ex : Nat → va_E} {H0 : Heap} {A : Nat → Prop}
theorem g_newaL (hexec : p.tables.exec = Jvm.exec) (hb : c.code = cc) (hts : ∀ w ∈ wsA, w.before args s = true) (hK : KL D cL s) (hP : HP D n a ex H) (hE : DX A n a) (hS : va_S A H0 H locs) (hA : ∀ q, H0.size ≤ q → A q) {v : Int32} {len : Nat} (hn : ¬ v < 0) (hv : v.toNatClampNeg = len) (hlen : len * componentBytes .long ≤ 536870912) (hcells : cells + 1 ≤ R.cells) (hslots : slots + len ≤ R.slots) (hdg : decode cc pc = .ok (.newarray .long, 2))
    (kk : ∀ (q : Nat) (H1 : Heap), HP D (n + 1) (va_up a n q) (va_up ex n (.inl (cL, len, .inr (.inl (fun _ => 0))))) H1 → DX A (n + 1) (va_up a n q) → va_S A H0 H1 locs → W p l e R s m args below meth c H1 locs (cells + 1) (slots + len) Q (F0 m (pc + 2) ls (.ref q :: rest))) : W p l e R s m args below meth c H locs cells slots Q (F0 m pc ls (.int v :: rest)) := by
  refine va_newa (atype := .long) (ty := .long) hexec hb (hts _ tw1058) rfl hK hP.l hE.vd hS hA (a0 := (len, .inr (.inl (fun _ => 0)))) (fun cA => rfl) hn hv hlen hcells hslots hdg (fun q cA H1 hK1 hP1 hD1 hS1 => ?_)
  have e1 := (hK1.2 1 (cA, .long) rfl).2
  have e2 := (hK.2 0 (cL, .long) rfl).2
  have e3 : cA = cL := Option.some.inj (e1.symm.trans e2)
  subst e3
  rw [← wl_push] at hP1 hD1
  exact kk q H1 (HP.of hP1) (DX.of hD1) hS1
end STL
