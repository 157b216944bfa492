/-! the worlds: 8 states of 13 cells (0: the one of now; 1: the snapshot; 2..7: saved ones), history, orders, poll, the object itself; the reference's 6 cells. Rows of a state: 0: true time, told, votes, held; 1 minutes, 2 drifts, 3 brought, 4 forward, 5 back, 6 bells, 7 weights, 8 lies, 9 losses, 10 settings -/
def stC (cI : ClassId) (a : Nat → Nat) (o : Nat) (s : St) (c : Nat) : va_E :=
  match c with
  | 0 => .inr (4, [.ref (a (o + 1)), .ref (a (o + 8)), .ref (a (o + 12)), .int (s 0 1), .int (s 0 2), .int (s 0 3)])
  | 1 => .inr (0, [.int (s 0 0), .ref (a (o + 2)), .ref (a (o + 3)), .ref (a (o + 4)), .ref (a (o + 5)), .ref (a (o + 6)), .ref (a (o + 7))])
  | 2 => .inl (cI, 7, .inl (s 1))
  | 3 => .inl (cI, 7, .inl (s 2))
  | 4 => .inl (cI, 7, .inl (s 3))
  | 5 => .inl (cI, 7, .inl (s 4))
  | 6 => .inl (cI, 7, .inl (s 5))
  | 7 => .inl (cI, 7, .inl (s 6))
  | 8 => .inr (5, [.ref (a (o + 9)), .ref (a (o + 10)), .ref (a (o + 11))])
  | 9 => .inl (cI, 7, .inl (s 7))
  | 10 => .inl (cI, 7, .inl (s 8))
  | 11 => .inl (cI, 7, .inl (s 9))
  | _ => .inl (cI, 2, .inl (s 10))
def exH (cI cS : ClassId) (a : Nat → Nat) (st : Nat → St) (pi : Nat → Nat) (mi po : St) (n : Nat) : va_E :=
  if n < 104 then stC cI a (13 * (n / 13)) (st (n / 13 - 1)) (n % 13)
  else match n - 104 with
  | 0 => .inr (1, [.ref (a 105), .int (mi 0 0)])
  | 1 => .inl (cS, 6, .inr (.inr (.inr (.inr (fun k => some (a (13 * (pi k + 2))))))))
  | 2 => .inr (2, [.ref (a 107), .int (mi 0 1)])
  | 3 => .inl (cI, 60, .inl (mi 1))
  | 4 => .inr (3, [.ref (a 109), .ref (a 110), .ref (a 111)])
  | 5 => .inl (cI, 7, .inl (po 0))
  | 6 => .inl (cI, 7, .inl (po 1))
  | 7 => .inl (cI, 7, .inl (po 2))
  | _ => .inr (6, [.ref (a 0), .ref (a 13), .int (mi 0 2), .ref (a 104), .ref (a 106), .ref (a 108)])
def exC (cI cS : ClassId) (a : Nat → Nat) (s : St) (st : Nat → St) (pi : Nat → Nat) (mi po : St) (n : Nat) : va_E :=
  if n < 13 then stC cI a 0 s n else exH cI cS a st pi mi po n
/-- the reference: g the row s, then aside, before, kept, buffer; sc: known, isKept, length, thrown, place, isWrong -/
def emC (cI : ClassId) (b : Nat → Nat) (M : Nat → Nat → Int32) (n : Nat) : va_E :=
  match n with
  | 0 => .inr (7, [.ref (b 1), .ref (b 2), .ref (b 3), .int (M 0 0), .ref (b 4), .int (M 0 1), .ref (b 5), .int (M 0 2), .int (M 0 3), .int (M 0 4), .int (M 0 5)])
  | 1 => .inl (cI, 69, .inl (M 1))
  | 2 => .inl (cI, 69, .inl (M 2))
  | 3 => .inl (cI, 414, .inl (M 3))
  | 4 => .inl (cI, 69, .inl (M 4))
  | _ => .inl (cI, 60, .inl (M 5))
section WX
variable {cI cS : ClassId} {a : Nat → Nat} {s : St} {st : Nat → St} {pi : Nat → Nat} {mi po : St}
theorem xc0 : exC cI cS a s st pi mi po 0 = .inr (4, [.ref (a 1), .ref (a 8), .ref (a 12), .int (s 0 1), .int (s 0 2), .int (s 0 3)]) := rfl
theorem xc1 : exC cI cS a s st pi mi po 1 = .inr (0, [.int (s 0 0), .ref (a 2), .ref (a 3), .ref (a 4), .ref (a 5), .ref (a 6), .ref (a 7)]) := rfl
theorem xc2 : exC cI cS a s st pi mi po 2 = .inl (cI, 7, .inl (s 1)) := rfl
theorem xc3 : exC cI cS a s st pi mi po 3 = .inl (cI, 7, .inl (s 2)) := rfl
theorem xc4 : exC cI cS a s st pi mi po 4 = .inl (cI, 7, .inl (s 3)) := rfl
theorem xc5 : exC cI cS a s st pi mi po 5 = .inl (cI, 7, .inl (s 4)) := rfl
theorem xc6 : exC cI cS a s st pi mi po 6 = .inl (cI, 7, .inl (s 5)) := rfl
theorem xc7 : exC cI cS a s st pi mi po 7 = .inl (cI, 7, .inl (s 6)) := rfl
theorem xc8 : exC cI cS a s st pi mi po 8 = .inr (5, [.ref (a 9), .ref (a 10), .ref (a 11)]) := rfl
theorem xc9 : exC cI cS a s st pi mi po 9 = .inl (cI, 7, .inl (s 7)) := rfl
theorem xc10 : exC cI cS a s st pi mi po 10 = .inl (cI, 7, .inl (s 8)) := rfl
theorem xc11 : exC cI cS a s st pi mi po 11 = .inl (cI, 7, .inl (s 9)) := rfl
theorem xc12 : exC cI cS a s st pi mi po 12 = .inl (cI, 2, .inl (s 10)) := rfl
theorem xc104 : exC cI cS a s st pi mi po 104 = .inr (1, [.ref (a 105), .int (mi 0 0)]) := rfl
theorem xc105 : exC cI cS a s st pi mi po 105 = .inl (cS, 6, .inr (.inr (.inr (.inr (fun k => some (a (13 * (pi k + 2)))))))) := rfl
theorem xc106 : exC cI cS a s st pi mi po 106 = .inr (2, [.ref (a 107), .int (mi 0 1)]) := rfl
theorem xc107 : exC cI cS a s st pi mi po 107 = .inl (cI, 60, .inl (mi 1)) := rfl
theorem xc108 : exC cI cS a s st pi mi po 108 = .inr (3, [.ref (a 109), .ref (a 110), .ref (a 111)]) := rfl
theorem xc109 : exC cI cS a s st pi mi po 109 = .inl (cI, 7, .inl (po 0)) := rfl
theorem xc110 : exC cI cS a s st pi mi po 110 = .inl (cI, 7, .inl (po 1)) := rfl
theorem xc111 : exC cI cS a s st pi mi po 111 = .inl (cI, 7, .inl (po 2)) := rfl
theorem xc112 : exC cI cS a s st pi mi po 112 = .inr (6, [.ref (a 0), .ref (a 13), .int (mi 0 2), .ref (a 104), .ref (a 106), .ref (a 108)]) := rfl
/-- which cells of a state a row touches -/
theorem stC_o {r : Nat} {f : Nat → Int32} {o : Nat} (n : Nat) (hr : (1 ≤ r ∧ r ≤ 6 ∧ n ≠ r + 1) ∨ (7 ≤ r ∧ r ≤ 9 ∧ n ≠ r + 2) ∨ (r = 10 ∧ n < 12)) : stC cI a o (upR s r f) n = stC cI a o s n := by
  have h0 : upR s r f 0 = s 0 := by simp only [upR]; rw [if_neg (by omega)]
  have key : ∀ q, q ≠ r → upR s r f q = s q := fun q hq => by simp only [upR]; rw [if_neg hq]
  match n, hr with
  | 0, hr => simp only [stC, h0]
  | 1, hr => simp only [stC, h0]
  | 2, hr => simp only [stC]; rw [key 1 (by omega)]
  | 3, hr => simp only [stC]; rw [key 2 (by omega)]
  | 4, hr => simp only [stC]; rw [key 3 (by omega)]
  | 5, hr => simp only [stC]; rw [key 4 (by omega)]
  | 6, hr => simp only [stC]; rw [key 5 (by omega)]
  | 7, hr => simp only [stC]; rw [key 6 (by omega)]
  | 8, hr => rfl
  | 9, hr => simp only [stC]; rw [key 7 (by omega)]
  | 10, hr => simp only [stC]; rw [key 8 (by omega)]
  | 11, hr => simp only [stC]; rw [key 9 (by omega)]
  | n + 12, hr => simp only [stC]; rw [key 10 (by omega)]
theorem stC_o0 {k : Nat} {v : Int32} {o : Nat} (n : Nat) (hn : n < 13) (hr : (k = 0 ∧ n ≠ 1) ∨ (1 ≤ k ∧ n ≠ 0)) : stC cI a o (up2 s 0 k v) n = stC cI a o s n := by
  have key : ∀ q, q ≠ 0 → up2 s 0 k v q = s q := fun q hq => by simp only [up2]; rw [if_neg hq]
  have key0 : ∀ j, j ≠ k → up2 s 0 k v 0 j = s 0 j := fun j hj => by show upd _ k v j = _; simp only [upd]; rw [if_neg hj]
  match n, hr with
  | 0, hr => simp only [stC]; rcases hr with ⟨hk, -⟩ | ⟨-, hr⟩
             · subst hk; rw [key0 1 (by omega), key0 2 (by omega), key0 3 (by omega)]
             · exact absurd rfl hr
  | 1, hr => simp only [stC]; rcases hr with ⟨-, hr⟩ | ⟨hk, -⟩
             · exact absurd rfl hr
             · rw [key0 0 (by omega)]
  | 2, hr => simp only [stC]; rw [key 1 (by omega)]
  | 3, hr => simp only [stC]; rw [key 2 (by omega)]
  | 4, hr => simp only [stC]; rw [key 3 (by omega)]
  | 5, hr => simp only [stC]; rw [key 4 (by omega)]
  | 6, hr => simp only [stC]; rw [key 5 (by omega)]
  | 7, hr => simp only [stC]; rw [key 6 (by omega)]
  | 8, hr => rfl
  | 9, hr => simp only [stC]; rw [key 7 (by omega)]
  | 10, hr => simp only [stC]; rw [key 8 (by omega)]
  | 11, hr => simp only [stC]; rw [key 9 (by omega)]
  | n + 12, hr => simp only [stC]; rw [key 10 (by omega)]
theorem xo_row {r : Nat} {f : Nat → Int32} {n : Nat} (hn : n < 13) (hr : (1 ≤ r ∧ r ≤ 6 ∧ n = r + 1) ∨ (7 ≤ r ∧ r ≤ 9 ∧ n = r + 2) ∨ (r = 10 ∧ n = 12)) : ∀ j, j < 113 → j ≠ n → exC cI cS a (upR s r f) st pi mi po j = exC cI cS a s st pi mi po j := by
  intro j _ hj
  by_cases h : j < 13
  · simp only [exC, if_pos h]
    exact stC_o j (by omega)
  · simp only [exC, if_neg h]
theorem xo_sc {k : Nat} {v : Int32} {n : Nat} (hr : (k = 0 ∧ n = 1) ∨ (1 ≤ k ∧ n = 0)) : ∀ j, j < 113 → j ≠ n → exC cI cS a (up2 s 0 k v) st pi mi po j = exC cI cS a s st pi mi po j := by
  intro j _ hj
  by_cases h : j < 13
  · simp only [exC, if_pos h]
    exact stC_o0 j h (by omega)
  · simp only [exC, if_neg h]
theorem xo_hi {st' : Nat → St} {pi' : Nat → Nat} {mi' po' : St} {n : Nat} (hn : 13 ≤ n) (h9 : ∀ j, j < 113 → j ≠ n → 13 ≤ j → exH cI cS a st' pi' mi' po' j = exH cI cS a st pi mi po j) : ∀ j, j < 113 → j ≠ n → exC cI cS a s st' pi' mi' po' j = exC cI cS a s st pi mi po j := by
  intro j h1 hj
  by_cases h : j < 13
  · simp only [exC, if_pos h]
  · simp only [exC, if_neg h]
    exact h9 j h1 hj (by omega)
theorem xo_tail {pi' : Nat → Nat} {mi' po' : St} {n : Nat} (hn : 104 ≤ n) (h9 : ∀ j, j < 9 → j + 104 ≠ n → exH cI cS a st pi' mi' po' (j + 104) = exH cI cS a st pi mi po (j + 104)) : ∀ j, j < 113 → j ≠ n → exC cI cS a s st pi' mi' po' j = exC cI cS a s st pi mi po j := by
  refine xo_hi (by omega) fun j h1 h2 h3 => ?_
  by_cases h : j < 104
  · simp only [exH, if_pos h]
  · have h5 := h9 (j - 104) (by omega) (by omega)
    rw [show j - 104 + 104 = j by omega] at h5
    exact h5
theorem xo_po {r : Nat} {f : Nat → Int32} {n : Nat} (hr : r < 3) (hn : n = 109 + r) : ∀ j, j < 113 → j ≠ n → exC cI cS a s st pi mi (upR po r f) j = exC cI cS a s st pi mi po j := by
  refine xo_tail (by omega) fun j h1 h2 => ?_
  have key : ∀ q, q ≠ r → upR po r f q = po q := fun q hq => by simp only [upR]; rw [if_neg hq]
  simp only [exH]
  match j, h1, h2 with
  | 0, _, _ => rfl
  | 1, _, _ => rfl
  | 2, _, _ => rfl
  | 3, _, _ => rfl
  | 4, _, _ => rfl
  | 5, _, h2 => simp; exact key 0 (by omega)
  | 6, _, h2 => simp; exact key 1 (by omega)
  | 7, _, h2 => simp; exact key 2 (by omega)
  | 8, _, _ => rfl
  | n + 9, h, _ => exact absurd h (by omega)
theorem xo_codes {f : Nat → Int32} : ∀ j, j < 113 → j ≠ 107 → exC cI cS a s st pi (upR mi 1 f) po j = exC cI cS a s st pi mi po j := by
  refine xo_tail (by omega) fun j h1 h2 => ?_
  simp only [exH]
  match j, h1, h2 with
  | 0, _, _ => rfl
  | 1, _, _ => rfl
  | 2, _, _ => rfl
  | 3, _, h2 => exact absurd rfl h2
  | 4, _, _ => rfl
  | 5, _, h2 => rfl
  | 6, _, h2 => rfl
  | 7, _, h2 => rfl
  | 8, _, _ => rfl
  | n + 9, h, _ => exact absurd h (by omega)
theorem xo_mi {k n : Nat} {v : Int32} (hr : (k = 0 ∧ n = 104) ∨ (k = 1 ∧ n = 106) ∨ (k = 2 ∧ n = 112)) : ∀ j, j < 113 → j ≠ n → exC cI cS a s st pi (up2 mi 0 k v) po j = exC cI cS a s st pi mi po j := by
  refine xo_tail (by omega) fun j h1 h2 => ?_
  have key0 : ∀ j, j ≠ k → up2 mi 0 k v 0 j = mi 0 j := fun j hj => by show upd _ k v j = _; simp only [upd]; rw [if_neg hj]
  simp only [exH]
  match j, h1, h2 with
  | 0, _, _ => simp; exact key0 0 (by omega)
  | 1, _, _ => rfl
  | 2, _, _ => simp; exact key0 1 (by omega)
  | 3, _, h2 => rfl
  | 4, _, _ => rfl
  | 5, _, h2 => rfl
  | 6, _, h2 => rfl
  | 7, _, h2 => rfl
  | 8, _, _ => simp; exact key0 2 (by omega)
  | n + 9, h, _ => exact absurd h (by omega)
theorem mo_row {M : Nat → Nat → Int32} {r : Nat} {f : Nat → Int32} (hr : 1 ≤ r ∧ r ≤ 5) : ∀ j, j < 6 → j ≠ r → emC cI a (upR M r f) j = emC cI a M j := by
  intro j h1 h2
  have key : ∀ q, q ≠ r → upR M r f q = M q := fun q hq => by simp only [upR]; rw [if_neg hq]
  match j, h1, h2 with
  | 0, _, _ => simp only [emC]; rw [key 0 (by omega)]
  | 1, _, _ => simp only [emC]; rw [key 1 (by omega)]
  | 2, _, _ => simp only [emC]; rw [key 2 (by omega)]
  | 3, _, _ => simp only [emC]; rw [key 3 (by omega)]
  | 4, _, _ => simp only [emC]; rw [key 4 (by omega)]
  | 5, _, _ => simp only [emC]; rw [key 5 (by omega)]
  | n + 6, h, _ => exact absurd h (by omega)
theorem mo_sc {M : Nat → Nat → Int32} {k : Nat} {v : Int32} : ∀ j, j < 6 → j ≠ 0 → emC cI a (up2 M 0 k v) j = emC cI a M j := by
  intro j h1 h2
  match j, h1, h2 with
  | 0, _, h => exact absurd rfl h
  | 1, _, _ => rfl
  | 2, _, _ => rfl
  | 3, _, _ => rfl
  | 4, _, _ => rfl
  | 5, _, _ => rfl
  | n + 6, h, _ => exact absurd h (by omega)
end WX
