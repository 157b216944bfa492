/-! a callee that sees a part of the world; copies of rows and of states -/
section SUB0
variable {D : va_G} {nn nn' : Nat} {a : Nat → Nat} {sub : Nat → Nat} {e e' e1 : Nat → va_E} {H H1 H0 : Heap}
theorem hp_sub (h : HP D nn a e H) (hs : ∀ k, k < nn' → sub k < nn) (he : ∀ k, k < nn' → e' k = e (sub k)) : HP D nn' (fun k => a (sub k)) e' H := fun k hk => by
  show va_at D vwCl (a (sub k), e' k) H
  rw [he k hk]
  exact h (sub k) (hs k hk)
theorem di_sub (h : DI nn a) (hs : ∀ k, k < nn' → sub k < nn) (hi : ∀ k l, k < nn' → l < nn' → sub k = sub l → k = l) : DI nn' (fun k => a (sub k)) := fun i j h1 h2 h3 => hi i j h1 h2 (h _ _ (hs i h1) (hs j h2) h3)
theorem AX_sub (hs : ∀ k, k < nn' → sub k < nn) (hz : H0.size ≤ H.size) {q : Nat} (h : AX nn' (fun k => a (sub k)) H.size q) : AX nn a H0.size q := by
  rcases h with ⟨k, hk, rfl⟩ | h
  · exact Or.inl ⟨sub k, hs k hk, rfl⟩
  · exact Or.inr (Nat.le_trans hz h)
theorem HP.join (hP : HP D nn a e H) (hE : DI nn a) (hs : ∀ k, k < nn' → sub k < nn) (hk : ∀ q : Nat, q < H.size → ¬ AX nn' (fun k => a (sub k)) H.size q → H1[q]? = H[q]?) (hP1 : HP D nn' (fun k => a (sub k)) e' H1) (h1 : ∀ k, k < nn' → e1 (sub k) = e' k) (h2 : ∀ j, j < nn → (∀ k, k < nn' → sub k ≠ j) → e1 j = e j) : HP D nn a e1 H1 := by
  intro j hj
  by_cases hx : ∃ k, k < nn' ∧ sub k = j
  · obtain ⟨k, hk1, rfl⟩ := hx
    rw [h1 k hk1]
    exact hP1 k hk1
  · have hx : ∀ k, k < nn' → sub k ≠ j := fun k h3 h4 => hx ⟨k, h3, h4⟩
    rw [h2 j hj hx]
    refine (hP j hj).kept (hk _ (hP.lt hj) ?_)
    rintro (⟨k, h3, h4⟩ | h3)
    · exact hx k h3 (hE _ _ hj (hs k h3) h4).symm
    · have := hP.lt hj; omega
theorem cell_cong {cA : ClassId} {len : Nat} {f g : Nat → Int32} (h : ∀ j, j < len → f j = g j) : vp_cell cA (len, .inl f) = vp_cell cA (len, .inl g) := by
  rw [vp_cell_i, vp_cell_i]
  unfold arrV
  congr 2
  funext j
  show Value.int (f j.val) = Value.int (g j.val)
  rw [h j.val j.isLt]
theorem HP.cong {cA : ClassId} (h : HP D nn a e H) (hc : ∀ k, k < nn → e' k = e k ∨ ∃ (len : Nat) (f g : Nat → Int32), e k = .inl (cA, len, .inl f) ∧ e' k = .inl (cA, len, .inl g) ∧ ∀ j, j < len → f j = g j) : HP D nn a e' H := by
  intro k hk
  have h1 := h k hk
  rcases hc k hk with h2 | ⟨len, f, g, h2, h3, h4⟩
  · rw [h2]; exact h1
  · rw [h2] at h1
    rw [h3]
    have h5 : H[a k]? = some (vp_cell cA (len, .inl f)) := h1
    show H[a k]? = some (vp_cell cA (len, .inl g))
    rw [← cell_cong h4]; exact h5
end SUB0
/-- two rows: the one that is read, the one that is written -/
def ecp (cI : ClassId) (len : Nat) (f g : Nat → Int32) (n : Nat) : va_E := match n with
  | 0 => .inl (cI, len, .inl f)
  | _ => .inl (cI, len, .inl g)
def cpa (a : Nat → Nat) (i j : Nat) : Nat → Nat := fun k => match k with
  | 0 => a i
  | _ => a j
def cpN (f g : Nat → Int32) : Nat → Nat → Int32
  | 0 => g
  | n + 1 => upd (cpN f g n) n (f n)
theorem cpN_at {f g : Nat → Int32} {k : Nat} : ∀ n, k < n → cpN f g n k = f k := by
  intro n
  induction n with
  | zero => intro h; exact absurd h (by omega)
  | succ n ih =>
    intro h
    show upd (cpN f g n) n (f n) k = f k
    by_cases h1 : k = n
    · subst h1; simp [upd]
    · simp only [upd, if_neg h1]; exact ih (by omega)
theorem ecp_o {cI : ClassId} {len : Nat} {f g g' : Nat → Int32} : ∀ j, j < 2 → j ≠ 1 → ecp cI len f g' j = ecp cI len f g j := by
  intro j h1 h2
  have h3 : j = 0 := by omega
  subst h3; rfl
theorem ecp_end {D : va_G} {a : Nat → Nat} {H : Heap} {cI : ClassId} {len : Nat} {f g : Nat → Int32} (h : HP D 2 a (ecp cI len f (cpN f g len)) H) : HP D 2 a (ecp cI len f f) H := by
  refine h.cong (cA := cI) fun k hk => ?_
  match k, hk with
  | 0, _ => exact Or.inl rfl
  | 1, _ => exact Or.inr ⟨len, _, _, rfl, rfl, fun j hj => cpN_at len hj⟩
  | k + 2, hk => exact absurd hk (by omega)
section SUB1
variable {p : Program} {l : Launch} {e : Env} {R : Room} {s : State} {m : MethodId} {args : Array Value} {below : List Frame} {meth : Method} {c : Code} {H : Heap} {locs : List Loc} {cells slots : Nat} {Q : State → Prop}
variable {pc : Nat} {ls : Array Slot} {rest : List Value} {cc : ByteArray} {D : va_G} {cI cS : ClassId} {nn nn' : Nat} {a : Nat → Nat} {sub : Nat → Nat} {ex ex' : Nat → va_E} {H0 : Heap}
theorem rw_vS {e' : Nat → va_E} {aa : Array Value} {st0 : List Value} {mc ms : Nat} (hS : va_S (AX nn a H0.size) H0 H locs) (hP : HP D nn a ex H) (hE : DI nn a) (hs : ∀ k, k < nn' → sub k < nn) (h1 : ∀ k, k < nn' → ex' (sub k) = e' k) (h2 : ∀ j, j < nn → (∀ k, k < nn' → sub k ≠ j) → ex' j = ex j)
    (hr : va_Run p l e R s m args below meth c H locs cells slots mc ms (F0 m pc ls st0) rest (va_Qv (fun _ : Unit => True) (BW D nn' (fun k => a (sub k)) (fun _ => e')) (AX nn' (fun k => a (sub k)) H.size) aa) (AX nn' (fun k => a (sub k)) H.size))
    (kk : ∀ (H1 : Heap) (locs1 : List Loc), HP D nn a ex' H1 → va_S (AX nn a H0.size) H0 H1 locs1 → W p l e R s m args below meth c H1 locs1 (cells + mc) (slots + ms) Q (F0 m (pc + 3) ls rest)) : W p l e R s m args below meth c H locs cells slots Q (F0 m pc ls st0) :=
  va_callv hr hS (fun q _ h => AX_sub hs hS.1 h) (fun q h => AX_sub hs hS.1 h) (fun _ t H1 locs1 ht _ _ hB _ hk hS1 => kk H1 locs1 (HP.join hP hE hs hk (ht ▸ hB) h1 h2) hS1)
theorem HP.cp {i j len : Nat} {f g : Nat → Int32} (hP : HP D nn a ex H) (hi : i < nn) (hj : j < nn) (ei : ex i = .inl (cI, len, .inl f)) (ej : ex j = .inl (cI, len, .inl g)) : HP D 2 (cpa a i j) (ecp cI len f g) H := by
  intro k hk
  match k, hk with
  | 0, _ => show va_at D vwCl (a i, .inl (cI, len, .inl f)) H; rw [← ei]; exact hP i hi
  | 1, _ => show va_at D vwCl (a j, .inl (cI, len, .inl g)) H; rw [← ej]; exact hP j hj
  | k + 2, hk => exact absurd hk (by omega)
theorem ps_cp {i j len : Nat} {f g : Nat → Int32} {As : List Value} (hK : KX D cI cS s) (hP : HP D nn a ex H) (hE : DI nn a) (hi : i < nn) (hj : j < nn) (hij : i ≠ j) (ei : ex i = .inl (cI, len, .inl f)) (ej : ex j = .inl (cI, len, .inl g)) : PreS s H (va_Pc As (PW D cI cS 2 (cpa a i j) (ecp cI len f g) H.size)) As := by
  refine psW hK (hP.cp hi hj ei ej) ?_
  intro x y hx hy h
  match x, y, hx, hy, h with
  | 0, 0, _, _, _ => rfl
  | 1, 1, _, _, _ => rfl
  | 0, 1, _, _, h => exact absurd (hE i j hi hj h) hij
  | 1, 0, _, _, h => exact absurd (hE j i hj hi h).symm hij
  | x + 2, _, hx, _, _ => exact absurd hx (by omega)
  | _, y + 2, _, hy, _ => exact absurd hy (by omega)
theorem rw_cp {i j len : Nat} {f : Nat → Int32} {aa : Array Value} {st0 : List Value} {mc ms : Nat} (hS : va_S (AX nn a H0.size) H0 H locs) (hP : HP D nn a ex H) (hE : DI nn a) (hi : i < nn) (hj : j < nn) (ei : ex' i = .inl (cI, len, .inl f)) (ej : ex' j = .inl (cI, len, .inl f)) (ho : ∀ q, q < nn → q ≠ j → ex' q = ex q)
    (hr : va_Run p l e R s m args below meth c H locs cells slots mc ms (F0 m pc ls st0) rest (va_Qv (fun _ : Unit => True) (BW D 2 (cpa a i j) (fun _ => ecp cI len f f)) (AX 2 (cpa a i j) H.size) aa) (AX 2 (cpa a i j) H.size))
    (kk : ∀ (H1 : Heap) (locs1 : List Loc), HP D nn a ex' H1 → va_S (AX nn a H0.size) H0 H1 locs1 → W p l e R s m args below meth c H1 locs1 (cells + mc) (slots + ms) Q (F0 m (pc + 3) ls rest)) : W p l e R s m args below meth c H locs cells slots Q (F0 m pc ls st0) := by
  have hA : ∀ q, AX 2 (cpa a i j) H.size q → AX nn a H0.size q := by
    rintro q (⟨k, hk, rfl⟩ | h)
    · match k, hk with
      | 0, _ => exact Or.inl ⟨i, hi, rfl⟩
      | 1, _ => exact Or.inl ⟨j, hj, rfl⟩
      | k + 2, hk => exact absurd hk (by omega)
    · exact Or.inr (Nat.le_trans hS.1 h)
  refine va_callv hr hS (fun q _ h => hA q h) hA (fun _ t H1 locs1 ht _ _ hB _ hk hS1 => kk H1 locs1 ?_ hS1)
  have hB : HP D 2 (cpa a i j) (ecp cI len f f) H1 := ht ▸ hB
  intro q hq
  by_cases h1 : q = j
  · subst h1; rw [ej]; exact hB 1 (by decide)
  · by_cases h2 : q = i
    · subst h2; rw [ei]; exact hB 0 (by decide)
    · rw [ho q hq h1]
      refine (hP q hq).kept (hk _ (hP.lt hq) ?_)
      rintro (⟨k, hk, h⟩ | h)
      · match k, hk, h with
        | 0, _, h => exact h2 (hE _ _ hq hi h)
        | 1, _, h => exact h1 (hE _ _ hq hj h)
        | k + 2, hk, _ => exact absurd hk (by omega)
      · have := hP.lt hq; omega
theorem g_astq (hexec : p.tables.exec = Jvm.exec) (hb : c.code = cc) (hK : KX D cI cS s) (hP : HP D nn a ex H) (hE : DI nn a) (hS : va_S (AX nn a H0.size) H0 H locs) (n : Nat) (hn : n < nn) {len : Nat} {f : Nat → Option Nat} (he : ex n = .inl (cS, len, .inr (.inr (.inr (.inr f))))) (j : Nat) (hj : j < nn) {vs : List Value} (hv : ex j = .inr (4, vs)) {i : Int32} (k : Nat) (hi : i = nI k) (hk : k < len) (hl : len < 2 ^ 31) (hdg : decode cc pc = .ok (.aastore, 1)) (hs : ex' n = .inl (cS, len, .inr (.inr (.inr (.inr (va_up f k (some (a j)))))))) (ho : ∀ j, j < nn → j ≠ n → ex' j = ex j)
    (kk : ∀ (H1 : Heap) (locs1 : List Loc), HP D nn a ex' H1 → va_S (AX nn a H0.size) H0 H1 locs1 → W p l e R s m args below meth c H1 locs1 cells slots Q (F0 m (pc + 1) ls rest)) : W p l e R s m args below meth c H locs cells slots Q (F0 m pc ls (.ref (a j) :: .int i :: .ref (a n) :: rest)) := by
  subst hi
  refine va_astq (r := (RX4, TX4, 6)) hexec hb hK.1 hP.l (hE.D (sz := H0.size)) hS n 1 j 4 (by rw [wl_get hn, he]) rfl (by rw [wl_get hj, hv]) rfl (vp_in_nI hk hl) hdg (fun H1 locs1 h1 _ h3 => ?_)
  rw [nI_clamp (by omega)] at h1
  exact kk H1 locs1 (HP.set hn hs ho h1) h3
end SUB1
/-- two states -/
def e2C (cI : ClassId) (b : Nat → Nat) (s r : St) (n : Nat) : va_E := if n < 13 then stC cI b 0 s n else stC cI b 13 r (n - 13)
section YX
variable {cI cS : ClassId} {a b : Nat → Nat} {s r : St} {st : Nat → St} {pi : Nat → Nat} {mi po : St}
theorem y2C_row {q : Nat} {f : Nat → Int32} {n : Nat} (hn : n < 13) (hr : (1 ≤ q ∧ q ≤ 6 ∧ n = q + 1) ∨ (7 ≤ q ∧ q ≤ 9 ∧ n = q + 2) ∨ (q = 10 ∧ n = 12)) : ∀ j, j < 26 → j ≠ n → e2C cI b (upR s q f) r j = e2C cI b s r j := by
  intro j _ hj
  by_cases h : j < 13
  · simp only [e2C, if_pos h]
    exact stC_o j (by omega)
  · simp only [e2C, if_neg h]
theorem y2C_sc {k : Nat} {v : Int32} {n : Nat} (hr : (k = 0 ∧ n = 1) ∨ (1 ≤ k ∧ n = 0)) : ∀ j, j < 26 → j ≠ n → e2C cI b (up2 s 0 k v) r j = e2C cI b s r j := by
  intro j _ hj
  by_cases h : j < 13
  · simp only [e2C, if_pos h]
    exact stC_o0 j h (by omega)
  · simp only [e2C, if_neg h]
theorem stC_cong {o : Nat} (h : ∀ q, 1 ≤ q → q ≤ 10 → s q = r q) (h0 : ∀ k, k < 4 → s 0 k = r 0 k) (n : Nat) : stC cI a o s n = stC cI a o r n := by
  match n with
  | 0 => simp only [stC]; rw [h0 1 (by omega), h0 2 (by omega), h0 3 (by omega)]
  | 1 => simp only [stC]; rw [h0 0 (by omega)]
  | 2 => simp only [stC]; rw [h 1 (by omega) (by omega)]
  | 3 => simp only [stC]; rw [h 2 (by omega) (by omega)]
  | 4 => simp only [stC]; rw [h 3 (by omega) (by omega)]
  | 5 => simp only [stC]; rw [h 4 (by omega) (by omega)]
  | 6 => simp only [stC]; rw [h 5 (by omega) (by omega)]
  | 7 => simp only [stC]; rw [h 6 (by omega) (by omega)]
  | 8 => rfl
  | 9 => simp only [stC]; rw [h 7 (by omega) (by omega)]
  | 10 => simp only [stC]; rw [h 8 (by omega) (by omega)]
  | 11 => simp only [stC]; rw [h 9 (by omega) (by omega)]
  | n + 12 => simp only [stC]; rw [h 10 (by omega) (by omega)]
theorem y2C_cong {s' : St} (h : ∀ q, 1 ≤ q → q ≤ 10 → s q = s' q) (h0 : ∀ k, k < 4 → s 0 k = s' 0 k) : e2C cI b s r = e2C cI b s' r := by
  funext n
  unfold e2C
  split
  · exact stC_cong h h0 n
  · rfl
def cpDi (s r : St) : St := upR (upR (upR (upR (upR (upR (up2 s 0 0 (r 0 0)) 1 (r 1)) 2 (r 2)) 3 (r 3)) 4 (r 4)) 5 (r 5)) 6 (r 6)
def cpWa (s r : St) : St := upR (upR (upR s 7 (r 7)) 8 (r 8)) 9 (r 9)
def cpSt (s r : St) : St := up2 (up2 (up2 (upR (cpWa (cpDi s r) r) 10 (r 10)) 0 1 (r 0 1)) 0 2 (r 0 2)) 0 3 (r 0 3)
theorem cpSt_r : e2C cI b (cpSt s r) r = e2C cI b r r := by
  refine y2C_cong (fun q h1 h2 => ?_) (fun k hk => ?_)
  · have h : q = 1 ∨ q = 2 ∨ q = 3 ∨ q = 4 ∨ q = 5 ∨ q = 6 ∨ q = 7 ∨ q = 8 ∨ q = 9 ∨ q = 10 := by omega
    rcases h with rfl | rfl | rfl | rfl | rfl | rfl | rfl | rfl | rfl | rfl <;> rfl
  · have h : k = 0 ∨ k = 1 ∨ k = 2 ∨ k = 3 := by omega
    rcases h with rfl | rfl | rfl | rfl <;> rfl
/-- the eight states of the class's world -/
def S8 (s : St) (st : Nat → St) (i : Nat) : St := if i = 0 then s else st (i - 1)
theorem exC_S8 {i k : Nat} (hi : i < 8) (hk : k < 13) : exC cI cS a s st pi mi po (13 * i + k) = stC cI a (13 * i) (S8 s st i) k := by
  by_cases h : i = 0
  · subst h
    have e1 : 13 * 0 + k = k := by omega
    rw [e1]
    unfold exC
    rw [if_pos hk]
    rfl
  · simp only [exC, exH, S8]
    rw [if_neg (by omega), if_pos (by omega), if_neg h, show (13 * i + k) / 13 = i by omega, show (13 * i + k) % 13 = k by omega]
/-- which cells the states i and j have -/
def subS (i j k : Nat) : Nat := if k < 13 then 13 * i + k else 13 * j + (k - 13)
theorem subS_lt {i j : Nat} (hi : i < 8) (hj : j < 8) : ∀ k, k < 26 → subS i j k < 113 := by
  intro k hk; unfold subS; split <;> omega
theorem subS_inj {i j : Nat} (hij : i ≠ j) : ∀ k l, k < 26 → l < 26 → subS i j k = subS i j l → k = l := by
  intro k l hk hl h
  unfold subS at h
  split at h <;> split at h <;> omega
theorem stC_sub {o : Nat} {s : St} (h : ∀ k, k < 13 → b k = a (o + k)) {n : Nat} (hn : n < 13) : stC cI b 0 s n = stC cI a o s n := by
  match n, hn with
  | 0, _ => simp only [stC]; rw [h (0 + 1) (by omega), h (0 + 8) (by omega), h (0 + 12) (by omega)]
  | 1, _ => simp only [stC]; rw [h (0 + 2) (by omega), h (0 + 3) (by omega), h (0 + 4) (by omega), h (0 + 5) (by omega), h (0 + 6) (by omega), h (0 + 7) (by omega)]
  | 2, _ => rfl
  | 3, _ => rfl
  | 4, _ => rfl
  | 5, _ => rfl
  | 6, _ => rfl
  | 7, _ => rfl
  | 8, _ => simp only [stC]; rw [h (0 + 9) (by omega), h (0 + 10) (by omega), h (0 + 11) (by omega)]
  | 9, _ => rfl
  | 10, _ => rfl
  | 11, _ => rfl
  | n + 12, _ => rfl
theorem stC_sub13 {o : Nat} {s : St} (h : ∀ k, k < 13 → b (13 + k) = a (o + k)) {n : Nat} (hn : n < 13) : stC cI b 13 s n = stC cI a o s n := by
  match n, hn with
  | 0, _ => simp only [stC]; rw [h 1 (by omega), h 8 (by omega), h 12 (by omega)]
  | 1, _ => simp only [stC]; rw [h 2 (by omega), h 3 (by omega), h 4 (by omega), h 5 (by omega), h 6 (by omega), h 7 (by omega)]
  | 2, _ => rfl
  | 3, _ => rfl
  | 4, _ => rfl
  | 5, _ => rfl
  | 6, _ => rfl
  | 7, _ => rfl
  | 8, _ => simp only [stC]; rw [h 9 (by omega), h 10 (by omega), h 11 (by omega)]
  | 9, _ => rfl
  | 10, _ => rfl
  | 11, _ => rfl
  | n + 12, _ => rfl
/-- the two states' cells, seen alone -/
theorem e2C_sub {i j : Nat} (hi : i < 8) (hj : j < 8) : ∀ k, k < 26 → e2C cI (fun k => a (subS i j k)) (S8 s st i) (S8 s st j) k = exC cI cS a s st pi mi po (subS i j k) := by
  intro k hk
  unfold e2C
  by_cases h : k < 13
  · rw [if_pos h]
    have h1 : subS i j k = 13 * i + k := by unfold subS; rw [if_pos h]
    rw [h1, exC_S8 hi h]
    exact stC_sub (fun q hq => by show a (subS i j q) = _; unfold subS; rw [if_pos hq]) h
  · rw [if_neg h]
    have h1 : subS i j k = 13 * j + (k - 13) := by unfold subS; rw [if_neg h]
    rw [h1, exC_S8 hj (by omega)]
    exact stC_sub13 (fun q hq => by show a (subS i j (13 + q)) = _; unfold subS; rw [if_neg (by omega), show 13 + q - 13 = q by omega]) (by omega)
/-- state i becomes x -/
def up8s (s : St) (i : Nat) (x : St) : St := if i = 0 then x else s
def up8t (st : Nat → St) (i : Nat) (x : St) : Nat → St := if i = 0 then st else va_up st (i - 1) x
theorem S8_up {i k : Nat} {x : St} : S8 (up8s s i x) (up8t st i x) k = if k = i then x else S8 s st k := by
  unfold S8 up8s up8t
  by_cases h1 : i = 0
  · subst h1
    by_cases h2 : k = 0
    · subst h2; simp
    · simp [h2]
  · by_cases h2 : k = 0
    · subst h2
      have : ¬ (0 = i) := fun h => h1 h.symm
      simp [h1, this]
    · by_cases h3 : k = i
      · subst h3; simp [h1, va_up]
      · have : ¬ (k - 1 = i - 1) := by omega
        simp [h1, h2, h3, va_up, this]
theorem e2C_up {i j : Nat} {x : St} (hi : i < 8) (hj : j < 8) (hij : i ≠ j) (hx : x = S8 s st j) : ∀ k, k < 26 → exC cI cS a (up8s s i x) (up8t st i x) pi mi po (subS i j k) = e2C cI (fun k => a (subS i j k)) x x k := by
  intro k hk
  rw [← e2C_sub hi hj k hk, S8_up, S8_up, if_pos rfl, if_neg (fun h => hij h.symm), hx]
theorem e2C_un {i j : Nat} {x : St} (hi : i < 8) : ∀ q, q < 113 → (∀ k, k < 26 → subS i j k ≠ q) → exC cI cS a (up8s s i x) (up8t st i x) pi mi po q = exC cI cS a s st pi mi po q := by
  intro q hq h
  by_cases h1 : q < 104
  · obtain ⟨i', c, h2, h3, h4⟩ : ∃ i' c, i' < 8 ∧ c < 13 ∧ q = 13 * i' + c := ⟨q / 13, q % 13, by omega, by omega, by omega⟩
    subst h4
    rw [exC_S8 h2 h3, exC_S8 h2 h3, S8_up]
    by_cases h5 : i' = i
    · subst h5
      exact absurd (by unfold subS; rw [if_pos h3]) (h c (by omega))
    · rw [if_neg h5]
  · simp only [exC, exH, if_neg h1, if_neg (show ¬ q < 13 by omega)]
end YX
