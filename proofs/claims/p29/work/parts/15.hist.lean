/-! saved states: which object stands at a place -/
def rotN (pi : Nat → Nat) : Nat → Nat → Nat
  | 0 => pi
  | 1 => pi
  | n + 2 => va_up (rotN pi (n + 1)) n (rotN pi (n + 1) (n + 1))
theorem rotN_s {pi : Nat → Nat} {j : Nat} (h : 1 ≤ j) : va_up (rotN pi j) (j - 1) (rotN pi j j) = rotN pi (j + 1) := by
  obtain ⟨n, rfl⟩ : ∃ n, j = n + 1 := ⟨j - 1, by omega⟩
  rfl
theorem rotN_lt {pi : Nat → Nat} (h : ∀ k, k < 6 → pi k < 6) : ∀ j, j ≤ 6 → ∀ k, k < 6 → rotN pi j k < 6
  | 0, _, k, hk => h k hk
  | 1, _, k, hk => h k hk
  | n + 2, hj, k, hk => by
    show va_up (rotN pi (n + 1)) n (rotN pi (n + 1) (n + 1)) k < 6
    have h1 := rotN_lt h (n + 1) (by omega)
    unfold va_up
    split
    · exact h1 _ (by omega)
    · exact h1 k hk
def rotP (pi : Nat → Nat) : Nat → Nat := va_up (rotN pi 6) 5 (pi 0)
theorem rotP_lt {pi : Nat → Nat} (h : ∀ k, k < 6 → pi k < 6) : ∀ k, k < 6 → rotP pi k < 6 := by
  intro k hk
  unfold rotP va_up
  split
  · exact h 0 (by omega)
  · exact rotN_lt h 6 (by omega) k hk
theorem rotN_at {pi : Nat → Nat} : ∀ j, 1 ≤ j → ∀ k, rotN pi j k = if k + 1 < j then pi (k + 1) else pi k
  | 0, h, _ => absurd h (by omega)
  | 1, _, k => by rw [if_neg (by omega)]; rfl
  | n + 2, _, k => by
    have ih := rotN_at (pi := pi) (n + 1) (by omega)
    show va_up (rotN pi (n + 1)) n (rotN pi (n + 1) (n + 1)) k = _
    unfold va_up
    by_cases h : k = n
    · subst h
      rw [if_pos rfl, ih, if_neg (by omega), if_pos (by omega)]
    · rw [if_neg h, ih]
      by_cases h2 : k + 1 < n + 1
      · rw [if_pos h2, if_pos (by omega)]
      · rw [if_neg h2, if_neg (by omega)]
theorem rotP_at {pi : Nat → Nat} {k : Nat} (hk : k < 6) : rotP pi k = if k < 5 then pi (k + 1) else pi 0 := by
  unfold rotP va_up
  by_cases h : k = 5
  · subst h; simp
  · rw [if_neg h, rotN_at 6 (by omega), if_pos (by omega), if_pos (by omega)]
def svPi (pi : Nat → Nat) (sz : Nat) : Nat → Nat := if sz = 6 then rotP pi else pi
def svQ (sz : Nat) : Nat := if sz = 6 then 5 else sz
theorem up2_up2 {s : St} {r k : Nat} {v w : Int32} : up2 (up2 s r k v) r k w = up2 s r k w := by
  funext q j
  unfold up2 upd
  by_cases h : q = r
  · subst h
    simp only [if_true]
    by_cases h2 : j = k
    · simp [h2]
    · simp [h2]
  · simp [h]
section HX
variable {cI cS : ClassId} {a : Nat → Nat} {s : St} {st : Nat → St} {pi : Nat → Nat} {mi po : St}
theorem xq_set {q x : Nat} : exC cI cS a s st (va_up pi q x) mi po 105 = .inl (cS, 6, .inr (.inr (.inr (.inr (va_up (fun k => some (a (13 * (pi k + 2)))) q (some (a (13 * (x + 2)))))))))  := by
  rw [xc105]
  congr 7
  funext k
  unfold va_up
  split <;> rfl
theorem xo_pi {pi' : Nat → Nat} : ∀ j, j < 113 → j ≠ 105 → exC cI cS a s st pi' mi po j = exC cI cS a s st pi mi po j := by
  refine xo_tail (by omega) fun j h1 h2 => ?_
  simp only [exH]
  match j, h1, h2 with
  | 0, _, _ => rfl
  | 1, _, h2 => exact absurd rfl h2
  | 2, _, _ => rfl
  | 3, _, _ => rfl
  | 4, _, _ => rfl
  | 5, _, _ => rfl
  | 6, _, _ => rfl
  | 7, _, _ => rfl
  | 8, _, _ => rfl
  | n + 9, h, _ => exact absurd h (by omega)
end HX
theorem up8_s {s x : St} {n : Nat} : up8s s (n + 1) x = s := if_neg (by omega)
theorem up8_t {st : Nat → St} {x : St} {n : Nat} : up8t st (n + 1) x = va_up st n x := if_neg (by omega)
theorem S8_n {s : St} {st : Nat → St} {n : Nat} : S8 s st (n + 1) = st n := if_neg (by omega)
