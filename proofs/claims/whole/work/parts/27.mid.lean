/-! the middle of a vote, told three ways -/
def zS (h : Nat → Int) : Nat → Int
  | 0 => 0
  | n + 1 => zS h n + h n
theorem zS_le {h h' : Nat → Int} : ∀ n, (∀ k, k < n → h k ≤ h' k) → zS h n ≤ zS h' n
  | 0, _ => Int.le_refl _
  | n + 1, hk => by
    have h1 := zS_le n (fun k h => hk k (by omega))
    have h2 := hk n (by omega)
    show zS h n + h n ≤ zS h' n + h' n
    omega
theorem zS_eq {h h' : Nat → Int} : ∀ n, (∀ k, k < n → h k = h' k) → zS h n = zS h' n
  | 0, _ => rfl
  | n + 1, hk => by
    show zS h n + h n = zS h' n + h' n
    rw [zS_eq n (fun k h => hk k (by omega)), hk n (by omega)]
theorem zS_add {h h' : Nat → Int} : ∀ n, zS (fun k => h k + h' k) n = zS h n + zS h' n
  | 0 => rfl
  | n + 1 => by
    show zS (fun k => h k + h' k) n + (h n + h' n) = zS h n + h n + (zS h' n + h' n)
    rw [zS_add n]; omega
theorem zS_0 {h : Nat → Int} : ∀ n, (∀ k, k < n → h k = 0) → zS h n = 0
  | 0, _ => rfl
  | n + 1, hk => by
    show zS h n + h n = 0
    rw [zS_0 n (fun k h => hk k (by omega)), hk n (by omega)]; rfl
theorem zS_1 {c : Nat → Int} {v : Nat} : ∀ n, v < n → zS (fun w => if w = v then c w else 0) n = c v
  | 0, h => absurd h (by omega)
  | n + 1, h => by
    show zS (fun w => if w = v then c w else 0) n + (if n = v then c n else 0) = c v
    by_cases h1 : n = v
    · rw [if_pos h1, zS_0 n (fun k hk => if_neg (by omega)), h1]; omega
    · rw [if_neg h1, zS_1 n (by omega)]; omega
theorem sum_z {f : Nat → Int32} : ∀ n : Nat, n ≤ 7 → (∀ k, k < n → 0 ≤ (f k).toInt ∧ (f k).toInt ≤ 9) → (sumN f n).toInt = zS (fun k => (f k).toInt) n ∧ 0 ≤ zS (fun k => (f k).toInt) n ∧ zS (fun k => (f k).toInt) n ≤ 9 * (n : Int)
  | 0, _, _ => ⟨rfl, Int.le_refl _, by show (0 : Int) ≤ 9 * ((0 : Nat) : Int); omega⟩
  | n + 1, hn, hk => by
    have h1 := sum_z n (by omega) (fun k h => hk k (by omega))
    have h2 := hk n (by omega)
    show (sumN f n + f n).toInt = zS (fun k => (f k).toInt) n + (f n).toInt ∧ 0 ≤ zS (fun k => (f k).toInt) n + (f n).toInt ∧ zS (fun k => (f k).toInt) n + (f n).toInt ≤ 9 * ((n + 1 : Nat) : Int)
    rw [i_add (by omega) (by omega), h1.1]
    omega
/-- the largest by a measure, of those that hold -/
theorem argmax {P : Nat → Prop} {q : Nat → Int} : ∀ n, (∃ w, w < n ∧ P w) → ∃ v, v < n ∧ P v ∧ ∀ w, w < n → P w → q w ≤ q v
  | 0, ⟨w, h, _⟩ => absurd h (by omega)
  | n + 1, ⟨w, hw, hp⟩ => by
    by_cases h1 : ∃ w, w < n ∧ P w
    · obtain ⟨v, hv, pv, mv⟩ := argmax (P := P) (q := q) n h1
      by_cases h2 : P n ∧ q v < q n
      · exact ⟨n, by omega, h2.1, fun w hw pw => by
          by_cases h3 : w = n
          · subst h3; exact Int.le_refl _
          · have := mv w (by omega) pw; omega⟩
      · exact ⟨v, by omega, pv, fun w hw pw => by
          by_cases h3 : w = n
          · subst h3
            by_cases h4 : q v < q w
            · exact absurd ⟨pw, h4⟩ h2
            · omega
          · exact mv w (by omega) pw⟩
    · have e : w = n := by
        by_cases h3 : w = n
        · exact h3
        · exact absurd ⟨w, by omega, hp⟩ h1
      subst e
      exact ⟨w, by omega, hp, fun u hu pu => by
        by_cases h3 : u = w
        · subst h3; exact Int.le_refl _
        · exact absurd ⟨u, by omega, pu⟩ h1⟩
theorem be_s {f g : Nat → Int32} {x : Int32} : ∀ n, beL f g x n = sumN (fun k => if x < f k then 0 else g k) n
  | 0 => rfl
  | n + 1 => by show beL f g x n + _ = sumN _ n + _; rw [be_s n]
theorem wb_s {f g : Nat → Int32} {x : Int32} : ∀ n, wBel f g x n = sumN (fun k => if f k < x then g k else 0) n
  | 0 => rfl
  | n + 1 => by show wBel f g x n + _ = sumN _ n + _; rw [wb_s n]
theorem wa_s {f g : Nat → Int32} {x : Int32} : ∀ n, wAt f g x n = sumN (fun k => if f k = x then g k else 0) n
  | 0 => rfl
  | n + 1 => by show wAt f g x n + _ = sumN _ n + _; rw [wa_s n]
section MID
variable {f g : Nat → Int32}
/-- the weight of the words that hold -/
def zW (g : Nat → Int32) (P : Nat → Bool) : Int := zS (fun k => if P k then (g k).toInt else 0) 7
theorem zW_s (hg : ∀ k, k < 7 → 0 ≤ (g k).toInt ∧ (g k).toInt ≤ 9) (P : Nat → Bool) : (sumN (fun k => if P k then g k else 0) 7).toInt = zW g P ∧ 0 ≤ zW g P ∧ zW g P ≤ 63 := by
  have h := sum_z (f := fun k => if P k then g k else 0) 7 (by omega) (fun k hk => by
    show 0 ≤ (if P k then g k else (0 : Int32)).toInt ∧ (if P k then g k else (0 : Int32)).toInt ≤ 9
    split
    · exact hg k hk
    · decide)
  have e : zS (fun k => (if P k then g k else (0 : Int32)).toInt) 7 = zW g P := zS_eq 7 (fun k hk => by split <;> rfl)
  have e2 : zS (fun k => ((fun k => if P k then g k else 0) k).toInt) 7 = zW g P := e
  rw [e2] at h
  exact ⟨h.1, h.2.1, by omega⟩
theorem zW_le (hg : ∀ k, k < 7 → 0 ≤ (g k).toInt ∧ (g k).toInt ≤ 9) {P Q : Nat → Bool} (h : ∀ k, k < 7 → P k = true → 0 < (g k).toInt → Q k = true) : zW g P ≤ zW g Q := by
  refine zS_le 7 (fun k hk => ?_)
  have := hg k hk
  by_cases h1 : P k = true
  · rw [if_pos h1]
    by_cases h2 : 0 < (g k).toInt
    · rw [if_pos (h k hk h1 h2)]; exact Int.le_refl _
    · split <;> omega
  · rw [if_neg h1]
    split <;> omega
theorem tot_z (hg : ∀ k, k < 7 → 0 ≤ (g k).toInt ∧ (g k).toInt ≤ 9) : (sumN g 7).toInt = zW g (fun _ => true) ∧ 0 ≤ zW g (fun _ => true) ∧ zW g (fun _ => true) ≤ 63 := by
  have h := zW_s hg (fun _ => true)
  exact h
theorem be_z (hg : ∀ k, k < 7 → 0 ≤ (g k).toInt ∧ (g k).toInt ≤ 9) (x : Int32) : (beL f g x 7).toInt = zW g (fun k => decide (f k ≤ x)) ∧ 0 ≤ zW g (fun k => decide (f k ≤ x)) ∧ zW g (fun k => decide (f k ≤ x)) ≤ 63 := by
  have h := zW_s hg (fun k => decide (f k ≤ x))
  rw [be_s]
  have e : (fun k => if x < f k then (0 : Int32) else g k) = (fun k => if decide (f k ≤ x) = true then g k else 0) := by
    funext k
    by_cases h1 : x < f k
    · rw [if_pos h1, if_neg (by rw [decide_eq_true_iff, i_le]; rw [i_lt] at h1; omega)]
    · rw [if_neg h1, if_pos (by rw [decide_eq_true_iff, i_le]; rw [i_lt] at h1; omega)]
  rw [e]; exact h
theorem wb_z (hg : ∀ k, k < 7 → 0 ≤ (g k).toInt ∧ (g k).toInt ≤ 9) (x : Int32) : (wBel f g x 7).toInt = zW g (fun k => decide (f k < x)) ∧ 0 ≤ zW g (fun k => decide (f k < x)) ∧ zW g (fun k => decide (f k < x)) ≤ 63 := by
  have h := zW_s hg (fun k => decide (f k < x))
  rw [wb_s]
  have e : (fun k => if f k < x then g k else (0 : Int32)) = (fun k => if decide (f k < x) = true then g k else 0) := by
    funext k
    by_cases h1 : f k < x
    · rw [if_pos h1, if_pos (decide_eq_true h1)]
    · rw [if_neg h1, if_neg (by rw [decide_eq_true_iff]; exact h1)]
  rw [e]; exact h
end MID
section MIDB
variable {f g : Nat → Int32}
theorem ok_z (hg : ∀ k, k < 7 → 0 ≤ (g k).toInt ∧ (g k).toInt ≤ 9) {n : Nat} : okB f g n ↔ 0 < (g n).toInt ∧ zW g (fun _ => true) ≤ 2 * zW g (fun k => decide (f k ≤ f n)) := by
  have h1 := tot_z hg
  have h2 := be_z hg (f := f) (f n)
  have e2 : (2 : Int32).toInt = 2 := by decide
  have e : (2 * beL f g (f n) 7).toInt = 2 * zW g (fun k => decide (f k ≤ f n)) := by
    rw [Int32.toInt_mul, e2, h2.1]
    exact i_bm (by omega) (by omega)
  unfold okB
  rw [i_lt, i_0, i_le, h1.1, e]
/-- the weight of the first i places -/
def cuZ (f g : Nat → Int32) (i : Nat) : Int := zW g (fun k => decide (plcN f k 7 < i))
theorem cu_s (hg : ∀ k, k < 7 → 0 ≤ (g k).toInt ∧ (g k).toInt ≤ 9) {i : Nat} (hi : i < 7) : cuZ f g (i + 1) = cuZ f g i + (g (invN f i)).toInt := by
  have hv := invN_ok f hi
  unfold cuZ zW
  rw [← zS_1 (c := fun k => (g k).toInt) 7 hv.1, ← zS_add]
  refine zS_eq 7 (fun k hk => ?_)
  by_cases h : k = invN f i
  · rw [if_pos h, if_pos (decide_eq_true (by rw [h, hv.2]; omega)), if_neg (by rw [decide_eq_true_iff, h, hv.2]; omega)]
    omega
  · have hne : plcN f k 7 ≠ i := fun q => h (plcN_inj hk hv.1 (q.trans hv.2.symm))
    rw [if_neg h]
    by_cases h2 : plcN f k 7 < i
    · rw [if_pos (decide_eq_true (by omega)), if_pos (decide_eq_true h2)]; omega
    · rw [if_neg (by rw [decide_eq_true_iff]; omega), if_neg (by rw [decide_eq_true_iff]; exact h2)]; rfl
end MIDB
