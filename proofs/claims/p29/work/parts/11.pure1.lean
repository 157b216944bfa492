/-! order and places of seven words -/
theorem i32_irr (x : Int32) : ¬ x < x := by rw [Int32.lt_iff_toInt_lt]; omega
theorem i32_tr {x y z : Int32} (h1 : x < y) (h2 : y < z) : x < z := by rw [Int32.lt_iff_toInt_lt] at *; omega
theorem i32_tri (x y : Int32) : x < y ∨ x = y ∨ y < x := by
  rw [Int32.lt_iff_toInt_lt, Int32.lt_iff_toInt_lt, ← Int32.toInt_inj]; omega
/-- v stands ahead of w -/
abbrev lexB (f : Nat → Int32) (v w : Nat) : Prop := f v < f w ∨ (f v = f w ∧ v < w)
theorem lex_irr {f : Nat → Int32} {w : Nat} : ¬ lexB f w w := by
  rintro (h | ⟨-, h⟩)
  · exact i32_irr _ h
  · omega
theorem lex_tr {f : Nat → Int32} {u v w : Nat} (h1 : lexB f u v) (h2 : lexB f v w) : lexB f u w := by
  rcases h1 with h1 | ⟨e1, h1⟩ <;> rcases h2 with h2 | ⟨e2, h2⟩
  · exact Or.inl (i32_tr h1 h2)
  · exact Or.inl (e2 ▸ h1)
  · exact Or.inl (e1.symm ▸ h2)
  · exact Or.inr ⟨e1.trans e2, by omega⟩
theorem lex_tri {f : Nat → Int32} {v w : Nat} (h : v ≠ w) : lexB f v w ∨ lexB f w v := by
  rcases i32_tri (f v) (f w) with h1 | h1 | h1
  · exact Or.inl (Or.inl h1)
  · by_cases h2 : v < w
    · exact Or.inl (Or.inr ⟨h1, h2⟩)
    · exact Or.inr (Or.inr ⟨h1.symm, by omega⟩)
  · exact Or.inr (Or.inl h1)
theorem plcN_le {f : Nat → Int32} {w : Nat} : ∀ n, plcN f w n ≤ n ∧ (w < n → plcN f w n + 1 ≤ n) := by
  intro n
  induction n with
  | zero => exact ⟨Nat.le_refl _, fun h => absurd h (by omega)⟩
  | succ n ih =>
    have h1 : plcN f w (n + 1) = plcN f w n + (if lexB f n w then 1 else 0) := rfl
    refine ⟨?_, fun h => ?_⟩
    · rw [h1]; split <;> omega
    · by_cases h2 : w = n
      · subst h2
        rw [h1, if_neg lex_irr]; omega
      · have := ih.2 (by omega)
        rw [h1]; split <;> omega
theorem plcN_lt {f : Nat → Int32} {w : Nat} (h : w < 7) : plcN f w 7 < 7 := (plcN_le 7).2 h
theorem plcN_mono {f : Nat → Int32} {v w : Nat} (h : lexB f v w) : ∀ n, plcN f v n ≤ plcN f w n ∧ (v < n → plcN f v n < plcN f w n) := by
  intro n
  induction n with
  | zero => exact ⟨Nat.le_refl _, fun h => absurd h (by omega)⟩
  | succ n ih =>
    have h1 : plcN f v (n + 1) = plcN f v n + (if lexB f n v then 1 else 0) := rfl
    have h2 : plcN f w (n + 1) = plcN f w n + (if lexB f n w then 1 else 0) := rfl
    by_cases h3 : lexB f n v
    · have h4 := lex_tr h3 h
      rw [h1, h2, if_pos h3, if_pos h4]
      refine ⟨by omega, fun h5 => ?_⟩
      by_cases h6 : v = n
      · subst h6; exact absurd h3 lex_irr
      · have := ih.2 (by omega); omega
    · rw [h1, h2, if_neg h3]
      refine ⟨by split <;> omega, fun h5 => ?_⟩
      by_cases h6 : v = n
      · subst h6; rw [if_pos h]; omega
      · have := ih.2 (by omega); split <;> omega
theorem plcN_inj {f : Nat → Int32} {v w : Nat} (hv : v < 7) (hw : w < 7) (h : plcN f v 7 = plcN f w 7) : v = w := by
  by_cases h1 : v = w
  · exact h1
  · rcases lex_tri (f := f) h1 with h2 | h2
    · have := (plcN_mono h2 7).2 hv; omega
    · have := (plcN_mono h2 7).2 hw; omega
theorem pigeon : ∀ (n : Nat) (g : Nat → Nat), (∀ k, k < n → g k < n) → (∀ k l, k < n → l < n → g k = g l → k = l) → ∀ i, i < n → ∃ k, k < n ∧ g k = i := by
  intro n
  induction n with
  | zero => intro g _ _ i h; exact absurd h (by omega)
  | succ n ih =>
    intro g h1 h2 i hi
    by_cases h3 : g n = n
    · by_cases h4 : i = n
      · exact ⟨n, by omega, by omega⟩
      · obtain ⟨k, hk, h5⟩ := ih g (fun k hk => by
          have := h1 k (by omega)
          have h6 : g k ≠ n := fun h => by have := h2 k n (by omega) (by omega) (by omega); omega
          omega) (fun k l hk hl h => h2 k l (by omega) (by omega) h) i (by omega)
        exact ⟨k, by omega, h5⟩
    · have h4 : g n < n := by have := h1 n (by omega); omega
      have h7 : ∀ i, i < n → ∃ k, k < n ∧ (if g k = n then g n else g k) = i := ih (fun k => if g k = n then g n else g k) (fun k hk => by
          show (if g k = n then g n else g k) < n
          have := h1 k (by omega)
          split <;> omega) (fun k l hk hl h => by
          have h : (if g k = n then g n else g k) = (if g l = n then g n else g l) := h
          by_cases a1 : g k = n <;> by_cases a2 : g l = n
          · exact h2 k l (by omega) (by omega) (by omega)
          · rw [if_pos a1, if_neg a2] at h
            have := h2 n l (by omega) (by omega) h; omega
          · rw [if_neg a1, if_pos a2] at h
            have := h2 k n (by omega) (by omega) h; omega
          · rw [if_neg a1, if_neg a2] at h
            exact h2 k l (by omega) (by omega) h)
      by_cases h5 : i = n
      · obtain ⟨k, hk, h6⟩ := h7 (g n) h4
        by_cases a1 : g k = n
        · exact ⟨k, by omega, by omega⟩
        · rw [if_neg a1] at h6
          have := h2 k n (by omega) (by omega) h6; omega
      · obtain ⟨k, hk, h6⟩ := h7 i (by omega)
        by_cases a1 : g k = n
        · rw [if_pos a1] at h6
          exact ⟨n, by omega, h6⟩
        · rw [if_neg a1] at h6
          exact ⟨k, by omega, h6⟩
def fnd (P : Nat → Bool) : Nat → Nat
  | 0 => 0
  | n + 1 => if P n then n else fnd P n
theorem fnd_ok {P : Nat → Bool} : ∀ n, (∃ k, k < n ∧ P k = true) → fnd P n < n ∧ P (fnd P n) = true := by
  intro n
  induction n with
  | zero => rintro ⟨k, h, -⟩; exact absurd h (by omega)
  | succ n ih =>
    rintro ⟨k, h1, h2⟩
    by_cases h3 : P n = true
    · rw [fnd, if_pos h3]; exact ⟨by omega, h3⟩
    · rw [fnd, if_neg h3]
      have h4 : k ≠ n := fun h => h3 (h ▸ h2)
      obtain ⟨h5, h6⟩ := ih ⟨k, by omega, h2⟩
      exact ⟨by omega, h6⟩
/-- who stands at place i -/
def invN (f : Nat → Int32) (i : Nat) : Nat := fnd (fun w => plcN f w 7 == i) 7
theorem invN_ok (f : Nat → Int32) {i : Nat} (hi : i < 7) : invN f i < 7 ∧ plcN f (invN f i) 7 = i := by
  obtain ⟨k, h1, h2⟩ := pigeon 7 (fun w => plcN f w 7) (fun k hk => plcN_lt hk) (fun k l hk hl h => plcN_inj hk hl h) i hi
  obtain ⟨h3, h4⟩ := fnd_ok (P := fun w => plcN f w 7 == i) 7 ⟨k, h1, beq_iff_eq.mpr h2⟩
  exact ⟨h3, beq_iff_eq.mp h4⟩
def ordR (f : Nat → Int32) (b : Nat → Int32) : Nat → Nat → Int32
  | 0 => b
  | n + 1 => upd (ordR f b n) (plcN f n 7) (nI n)
theorem ordR_at {f b : Nat → Int32} {w : Nat} : ∀ n, n ≤ 7 → w < n → ordR f b n (plcN f w 7) = nI w := by
  intro n
  induction n with
  | zero => intro _ h; exact absurd h (by omega)
  | succ n ih =>
    intro h1 h2
    show upd (ordR f b n) (plcN f n 7) (nI n) (plcN f w 7) = nI w
    by_cases h3 : w = n
    · subst h3; simp [upd]
    · have h4 : plcN f w 7 ≠ plcN f n 7 := fun h => h3 (plcN_inj (by omega) (by omega) h)
      simp only [upd, if_neg h4]
      exact ih (by omega) (by omega)
theorem ordR_inv {f b : Nat → Int32} {i : Nat} (hi : i < 7) : ordR f b 7 i = nI (invN f i) := by
  obtain ⟨h1, h2⟩ := invN_ok f hi
  have := ordR_at (f := f) (b := b) 7 (by omega) h1
  rwa [h2] at this
def midO (f g : Nat → Int32) (al : Int32) : Nat → Nat → Int32 → Int32
  | 0, _, _ => -1
  | k + 1, i, x => if 0 < g (invN f i) ∧ al ≤ 2 * (x + g (invN f i)) then f (invN f i) else midO f g al k (i + 1) (x + g (invN f i))
/-! texts: the state that is due behind a sign (-1 wrong, 0 a part, 1 ticks, 2 more ticks, 3 the part's end, 4 a dial, 5 a sign, 6 a figure) -/
abbrev witB (x lo hi : Int32) : Prop := lo ≤ x ∧ x ≤ hi
def kindF (x : Int32) : Int32 := if x = 116 then 1 else if x = 118 then 3 else if x = 99 then 3 else if x = 100 then 4 else -1
def partF (x : Int32) : Int32 := if x = 59 then 0 else -1
def dueF (due x : Int32) : Int32 :=
  if due = 0 then kindF x else if due = 1 then (if witB x 49 57 then 2 else -1) else if due = 2 then (if witB x 48 57 then 3 else partF x) else if due = 3 then partF x
  else if due = 4 then (if witB x 48 54 then 5 else -1) else if due = 5 then (if x = 43 ∨ x = 45 then 6 else -1) else if due = 6 then (if witB x 48 53 then 3 else -1) else -1
def cdA (b : Nat → Int32) (ln p : Nat) : Int32 := if p < ln then b p else 0
def errF (b : Nat → Int32) (ln : Nat) : Nat → Nat → Int32 → Int32
  | 0, _, _ => nI ln
  | f + 1, j, due => if dueF due (b j) = -1 then nI j else errF b ln f (j + 1) (dueF due (b j))
def dN (b : Nat → Int32) : Nat → Nat → Int32 → Int32
  | 0, _, due => due
  | f + 1, j, due => if due = -1 then due else dN b f (j + 1) (dueF due (b j))
abbrev cmpB (b : Nat → Int32) (ln : Nat) : Prop := dN b ln 0 0 = 2 ∨ dN b ln 0 0 = 3
abbrev psB (b : Nat → Int32) (ln p : Nat) : Prop := p = 0 ∨ cdA b ln (p - 1) = 59
def figI (b : Nat → Int32) (ln p : Nat) : Int32 := cdA b ln p - 48
def tkI (b : Nat → Int32) (ln p : Nat) : Int32 := if witB (cdA b ln (p + 1)) 48 57 then 10 * figI b ln p + figI b ln (p + 1) else figI b ln p
def drI (b : Nat → Int32) (ln p : Nat) : Int32 := if cdA b ln p = 45 then -figI b ln (p + 1) else figI b ln (p + 1)
