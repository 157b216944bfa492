/-! the middle of a vote, told three ways -/
def zS (h : Nat → Int) : Nat → Int
  | 0 => 0
  | n + 1 => zS h n + h n
theorem zS_le {h h' : Nat → Int} : ∀ n, (∀ k, k < n → h k ≤ h' k) → zS h n ≤ zS h' n
  | 0, _ => Int.le_refl _
  | n + 1, hk => by
    have h1 := zS_le n (fun k h => hk k (by omega))
    have h2 := hk n (by omega)
    show zS h n + h n ≤ zS h' n + h' n
    omega
theorem zS_eq {h h' : Nat → Int} : ∀ n, (∀ k, k < n → h k = h' k) → zS h n = zS h' n
  | 0, _ => rfl
  | n + 1, hk => by
    show zS h n + h n = zS h' n + h' n
    rw [zS_eq n (fun k h => hk k (by omega)), hk n (by omega)]
theorem zS_add {h h' : Nat → Int} : ∀ n, zS (fun k => h k + h' k) n = zS h n + zS h' n
  | 0 => rfl
  | n + 1 => by
    show zS (fun k => h k + h' k) n + (h n + h' n) = zS h n + h n + (zS h' n + h' n)
    rw [zS_add n]; omega
theorem zS_0 {h : Nat → Int} : ∀ n, (∀ k, k < n → h k = 0) → zS h n = 0
  | 0, _ => rfl
  | n + 1, hk => by
    show zS h n + h n = 0
    rw [zS_0 n (fun k h => hk k (by omega)), hk n (by omega)]; rfl
theorem zS_1 {c : Nat → Int} {v : Nat} : ∀ n, v < n → zS (fun w => if w = v then c w else 0) n = c v
  | 0, h => absurd h (by omega)
  | n + 1, h => by
    show zS (fun w => if w = v then c w else 0) n + (if n = v then c n else 0) = c v
    by_cases h1 : n = v
    · rw [if_pos h1, zS_0 n (fun k hk => if_neg (by omega)), h1]; omega
    · rw [if_neg h1, zS_1 n (by omega)]; omega
theorem sum_z {f : Nat → Int32} : ∀ n : Nat, n ≤ 7 → (∀ k, k < n → 0 ≤ (f k).toInt ∧ (f k).toInt ≤ 9) → (sumN f n).toInt = zS (fun k => (f k).toInt) n ∧ 0 ≤ zS (fun k => (f k).toInt) n ∧ zS (fun k => (f k).toInt) n ≤ 9 * (n : Int)
  | 0, _, _ => ⟨rfl, Int.le_refl _, by show (0 : Int) ≤ 9 * ((0 : Nat) : Int); omega⟩
  | n + 1, hn, hk => by
    have h1 := sum_z n (by omega) (fun k h => hk k (by omega))
    have h2 := hk n (by omega)
    show (sumN f n + f n).toInt = zS (fun k => (f k).toInt) n + (f n).toInt ∧ 0 ≤ zS (fun k => (f k).toInt) n + (f n).toInt ∧ zS (fun k => (f k).toInt) n + (f n).toInt ≤ 9 * ((n + 1 : Nat) : Int)
    rw [i_add (by omega) (by omega), h1.1]
    omega
/-- the largest by a measure, of those that hold -/
theorem argmax {P : Nat → Prop} {q : Nat → Int} : ∀ n, (∃ w, w < n ∧ P w) → ∃ v, v < n ∧ P v ∧ ∀ w, w < n → P w → q w ≤ q v
  | 0, ⟨w, h, _⟩ => absurd h (by omega)
  | n + 1, ⟨w, hw, hp⟩ => by
    by_cases h1 : ∃ w, w < n ∧ P w
    · obtain ⟨v, hv, pv, mv⟩ := argmax (P := P) (q := q) n h1
      by_cases h2 : P n ∧ q v < q n
      · exact ⟨n, by omega, h2.1, fun w hw pw => by
          by_cases h3 : w = n
          · subst h3; exact Int.le_refl _
          · have := mv w (by omega) pw; omega⟩
      · exact ⟨v, by omega, pv, fun w hw pw => by
          by_cases h3 : w = n
          · subst h3
            by_cases h4 : q v < q w
            · exact absurd ⟨pw, h4⟩ h2
            · omega
          · exact mv w (by omega) pw⟩
    · have e : w = n := by
        by_cases h3 : w = n
        · exact h3
        · exact absurd ⟨w, by omega, hp⟩ h1
      subst e
      exact ⟨w, by omega, hp, fun u hu pu => by
        by_cases h3 : u = w
        · subst h3; exact Int.le_refl _
        · exact absurd ⟨u, by omega, pu⟩ h1⟩
theorem be_s {f g : Nat → Int32} {x : Int32} : ∀ n, beL f g x n = sumN (fun k => if x < f k then 0 else g k) n
  | 0 => rfl
  | n + 1 => by show beL f g x n + _ = sumN _ n + _; rw [be_s n]
theorem wb_s {f g : Nat → Int32} {x : Int32} : ∀ n, wBel f g x n = sumN (fun k => if f k < x then g k else 0) n
  | 0 => rfl
  | n + 1 => by show wBel f g x n + _ = sumN _ n + _; rw [wb_s n]
theorem wa_s {f g : Nat → Int32} {x : Int32} : ∀ n, wAt f g x n = sumN (fun k => if f k = x then g k else 0) n
  | 0 => rfl
  | n + 1 => by show wAt f g x n + _ = sumN _ n + _; rw [wa_s n]
section MID
variable {f g : Nat → Int32}
/-- the weight of the words that hold -/
def zW (g : Nat → Int32) (P : Nat → Bool) : Int := zS (fun k => if P k then (g k).toInt else 0) 7
theorem zW_s (hg : ∀ k, k < 7 → 0 ≤ (g k).toInt ∧ (g k).toInt ≤ 9) (P : Nat → Bool) : (sumN (fun k => if P k then g k else 0) 7).toInt = zW g P ∧ 0 ≤ zW g P ∧ zW g P ≤ 63 := by
  have h := sum_z (f := fun k => if P k then g k else 0) 7 (by omega) (fun k hk => by
    show 0 ≤ (if P k then g k else (0 : Int32)).toInt ∧ (if P k then g k else (0 : Int32)).toInt ≤ 9
    split
    · exact hg k hk
    · decide)
  have e : zS (fun k => (if P k then g k else (0 : Int32)).toInt) 7 = zW g P := zS_eq 7 (fun k hk => by split <;> rfl)
  have e2 : zS (fun k => ((fun k => if P k then g k else 0) k).toInt) 7 = zW g P := e
  rw [e2] at h
  exact ⟨h.1, h.2.1, by omega⟩
theorem zW_le (hg : ∀ k, k < 7 → 0 ≤ (g k).toInt ∧ (g k).toInt ≤ 9) {P Q : Nat → Bool} (h : ∀ k, k < 7 → P k = true → 0 < (g k).toInt → Q k = true) : zW g P ≤ zW g Q := by
  refine zS_le 7 (fun k hk => ?_)
  have := hg k hk
  by_cases h1 : P k = true
  · rw [if_pos h1]
    by_cases h2 : 0 < (g k).toInt
    · rw [if_pos (h k hk h1 h2)]; exact Int.le_refl _
    · split <;> omega
  · rw [if_neg h1]
    split <;> omega
theorem tot_z (hg : ∀ k, k < 7 → 0 ≤ (g k).toInt ∧ (g k).toInt ≤ 9) : (sumN g 7).toInt = zW g (fun _ => true) ∧ 0 ≤ zW g (fun _ => true) ∧ zW g (fun _ => true) ≤ 63 := by
  have h := zW_s hg (fun _ => true)
  exact h
theorem be_z (hg : ∀ k, k < 7 → 0 ≤ (g k).toInt ∧ (g k).toInt ≤ 9) (x : Int32) : (beL f g x 7).toInt = zW g (fun k => decide (f k ≤ x)) ∧ 0 ≤ zW g (fun k => decide (f k ≤ x)) ∧ zW g (fun k => decide (f k ≤ x)) ≤ 63 := by
  have h := zW_s hg (fun k => decide (f k ≤ x))
  rw [be_s]
  have e : (fun k => if x < f k then (0 : Int32) else g k) = (fun k => if decide (f k ≤ x) = true then g k else 0) := by
    funext k
    by_cases h1 : x < f k
    · rw [if_pos h1, if_neg (by rw [decide_eq_true_iff, i_le]; rw [i_lt] at h1; omega)]
    · rw [if_neg h1, if_pos (by rw [decide_eq_true_iff, i_le]; rw [i_lt] at h1; omega)]
  rw [e]; exact h
theorem wb_z (hg : ∀ k, k < 7 → 0 ≤ (g k).toInt ∧ (g k).toInt ≤ 9) (x : Int32) : (wBel f g x 7).toInt = zW g (fun k => decide (f k < x)) ∧ 0 ≤ zW g (fun k => decide (f k < x)) ∧ zW g (fun k => decide (f k < x)) ≤ 63 := by
  have h := zW_s hg (fun k => decide (f k < x))
  rw [wb_s]
  have e : (fun k => if f k < x then g k else (0 : Int32)) = (fun k => if decide (f k < x) = true then g k else 0) := by
    funext k
    by_cases h1 : f k < x
    · rw [if_pos h1, if_pos (decide_eq_true h1)]
    · rw [if_neg h1, if_neg (by rw [decide_eq_true_iff]; exact h1)]
  rw [e]; exact h
end MID
section MIDB
variable {f g : Nat → Int32}
theorem ok_z (hg : ∀ k, k < 7 → 0 ≤ (g k).toInt ∧ (g k).toInt ≤ 9) {n : Nat} : okB f g n ↔ 0 < (g n).toInt ∧ zW g (fun _ => true) ≤ 2 * zW g (fun k => decide (f k ≤ f n)) := by
  have h1 := tot_z hg
  have h2 := be_z hg (f := f) (f n)
  have e2 : (2 : Int32).toInt = 2 := by decide
  have e : (2 * beL f g (f n) 7).toInt = 2 * zW g (fun k => decide (f k ≤ f n)) := by
    rw [Int32.toInt_mul, e2, h2.1]
    exact i_bm (by omega) (by omega)
  unfold okB
  rw [i_lt, i_0, i_le, h1.1, e]
/-- the weight of the first i places -/
def cuZ (f g : Nat → Int32) (i : Nat) : Int := zW g (fun k => decide (plcN f k 7 < i))
theorem cu_s (hg : ∀ k, k < 7 → 0 ≤ (g k).toInt ∧ (g k).toInt ≤ 9) {i : Nat} (hi : i < 7) : cuZ f g (i + 1) = cuZ f g i + (g (invN f i)).toInt := by
  have hv := invN_ok f hi
  unfold cuZ zW
  rw [← zS_1 (c := fun k => (g k).toInt) 7 hv.1, ← zS_add]
  refine zS_eq 7 (fun k hk => ?_)
  by_cases h : k = invN f i
  · rw [if_pos h, if_pos (decide_eq_true (by rw [h, hv.2]; omega)), if_neg (by rw [decide_eq_true_iff, h, hv.2]; omega)]
    omega
  · have hne : plcN f k 7 ≠ i := fun q => h (plcN_inj hk hv.1 (q.trans hv.2.symm))
    rw [if_neg h]
    by_cases h2 : plcN f k 7 < i
    · rw [if_pos (decide_eq_true (by omega)), if_pos (decide_eq_true h2)]; omega
    · rw [if_neg (by rw [decide_eq_true_iff]; omega), if_neg (by rw [decide_eq_true_iff]; exact h2)]; rfl
end MIDB
section MIDC
variable {f g : Nat → Int32}
def stB (f g : Nat → Int32) (i : Nat) : Prop := 0 < (g (invN f i)).toInt ∧ zW g (fun _ => true) ≤ 2 * cuZ f g (i + 1)
theorem cu_ok (hg : ∀ k, k < 7 → 0 ≤ (g k).toInt ∧ (g k).toInt ≤ 9) (i : Nat) : 0 ≤ cuZ f g i ∧ cuZ f g i ≤ 63 := (zW_s hg (fun k => decide (plcN f k 7 < i))).2
theorem mo_char (hg : ∀ k, k < 7 → 0 ≤ (g k).toInt ∧ (g k).toInt ≤ 9) : ∀ (k i : Nat) (x : Int32), i + k = 7 → x.toInt = cuZ f g i →
    (midO f g (sumN g 7) k i x = -1 ∧ ∀ j, i ≤ j → j < 7 → ¬ stB f g j) ∨ (∃ j, i ≤ j ∧ j < 7 ∧ stB f g j ∧ midO f g (sumN g 7) k i x = f (invN f j) ∧ ∀ j', i ≤ j' → j' < j → ¬ stB f g j')
  | 0, i, x, hi, _ => Or.inl ⟨rfl, fun j h1 h2 => absurd h2 (by omega)⟩
  | k + 1, i, x, hi, hx => by
    have hc := cu_s hg (f := f) (i := i) (by omega)
    have ho := cu_ok hg (f := f) (i + 1)
    have ho2 := cu_ok hg (f := f) i
    have hgi := hg (invN f i) (invN_ok f (by omega)).1
    have e1 : (x + g (invN f i)).toInt = cuZ f g (i + 1) := by rw [i_add (by omega) (by omega), hx, hc]
    have e2 : (2 * (x + g (invN f i))).toInt = 2 * cuZ f g (i + 1) := by
      rw [Int32.toInt_mul, e1, show (2 : Int32).toInt = 2 by decide]
      exact i_bm (by omega) (by omega)
    have hs : (0 < g (invN f i) ∧ sumN g 7 ≤ 2 * (x + g (invN f i))) ↔ stB f g i := by
      unfold stB
      rw [i_lt, i_0, i_le, (tot_z hg).1, e2]
    by_cases h : 0 < g (invN f i) ∧ sumN g 7 ≤ 2 * (x + g (invN f i))
    · exact Or.inr ⟨i, by omega, by omega, hs.mp h, if_pos h, fun j' h1 h2 => absurd h2 (by omega)⟩
    · have hm : midO f g (sumN g 7) (k + 1) i x = midO f g (sumN g 7) k (i + 1) (x + g (invN f i)) := if_neg h
      rw [hm]
      rcases mo_char hg k (i + 1) (x + g (invN f i)) (by omega) e1 with ⟨a1, a2⟩ | ⟨j, b1, b2, b3, b4, b5⟩
      · refine Or.inl ⟨a1, fun j h1 h2 => ?_⟩
        by_cases h3 : j = i
        · subst h3; exact fun q => h (hs.mpr q)
        · exact a2 j (by omega) h2
      · refine Or.inr ⟨j, by omega, b2, b3, b4, fun j' h1 h2 => ?_⟩
        by_cases h3 : j' = i
        · subst h3; exact fun q => h (hs.mpr q)
        · exact b5 j' (by omega) h2
theorem mm_char : ∀ n, n ≤ 7 → (∀ k, k < 7 → 0 ≤ (f k).toInt) → (mmF f g n = -1 ∧ ∀ k, k < n → ¬ okB f g k) ∨ (∃ k, k < n ∧ okB f g k ∧ mmF f g n = f k ∧ ∀ j, j < n → okB f g j → (f k).toInt ≤ (f j).toInt)
  | 0, _, _ => Or.inl ⟨rfl, fun k h => absurd h (by omega)⟩
  | n + 1, hn, hf => by
    have e : mmF f g (n + 1) = if okB f g n ∧ (mmF f g n = -1 ∨ f n < mmF f g n) then f n else mmF f g n := rfl
    rw [e]
    rcases mm_char n (by omega) hf with ⟨a1, a2⟩ | ⟨k, b1, b2, b3, b4⟩
    · by_cases h : okB f g n
      · rw [if_pos ⟨h, Or.inl a1⟩]
        refine Or.inr ⟨n, by omega, h, rfl, fun j hj ho => ?_⟩
        by_cases h3 : j = n
        · subst h3; exact Int.le_refl _
        · exact absurd ho (a2 j (by omega))
      · rw [if_neg (fun q => h q.1)]
        refine Or.inl ⟨a1, fun k hk => ?_⟩
        by_cases h3 : k = n
        · subst h3; exact h
        · exact a2 k (by omega)
    · have hk := hf k (by omega)
      have hne : ¬ f k = -1 := fun q => by rw [q] at hk; exact absurd hk (by decide)
      rw [b3]
      by_cases h : okB f g n ∧ (f k = -1 ∨ f n < f k)
      · rw [if_pos h]
        have hlt := i_lt.mp (h.2.resolve_left hne)
        refine Or.inr ⟨n, by omega, h.1, rfl, fun j hj ho => ?_⟩
        by_cases h3 : j = n
        · subst h3; exact Int.le_refl _
        · have := b4 j (by omega) ho; omega
      · rw [if_neg h]
        refine Or.inr ⟨k, by omega, b2, rfl, fun j hj ho => ?_⟩
        by_cases h3 : j = n
        · subst h3
          by_cases h4 : f j < f k
          · exact absurd ⟨ho, Or.inr h4⟩ h
          · rw [i_lt] at h4; omega
        · exact b4 j (by omega) ho
end MIDC
section MIDD
variable {f g : Nat → Int32}
theorem plc_f {k v : Nat} (hk : k < 7) (hv : v < 7) (h : plcN f k 7 ≤ plcN f v 7) : (f k).toInt ≤ (f v).toInt := by
  by_cases h1 : k = v
  · subst h1; exact Int.le_refl _
  · rcases lex_tri (f := f) h1 with h2 | h2
    · rcases h2 with h3 | h3
      · rw [i_lt] at h3; omega
      · rw [h3.1]; exact Int.le_refl _
    · have := (plcN_mono h2 7).2 hv
      omega
theorem inv_plc {v : Nat} (hv : v < 7) : invN f (plcN f v 7) = v := by
  have h := invN_ok f (plcN_lt (f := f) hv)
  exact plcN_inj h.1 hv h.2
theorem ok_of_st (hg : ∀ k, k < 7 → 0 ≤ (g k).toInt ∧ (g k).toInt ≤ 9) {i : Nat} (hi : i < 7) (h : stB f g i) : okB f g (invN f i) := by
  have hv := invN_ok f hi
  rw [ok_z hg]
  refine ⟨h.1, ?_⟩
  have h2 := h.2
  have h3 : cuZ f g (i + 1) ≤ zW g (fun k => decide (f k ≤ f (invN f i))) := zW_le hg (fun k hk h4 _ => by
    have h5 := of_decide_eq_true h4
    exact decide_eq_true (i_le.mpr (plc_f hk hv.1 (by rw [hv.2]; omega))))
  omega
theorem st_of_ok (hg : ∀ k, k < 7 → 0 ≤ (g k).toInt ∧ (g k).toInt ≤ 9) {n : Nat} (hn : n < 7) (h : okB f g n) : ∃ i, i < 7 ∧ stB f g i ∧ (f (invN f i)).toInt ≤ (f n).toInt := by
  rw [ok_z hg] at h
  obtain ⟨v, hv, pv, mv⟩ := argmax (P := fun w => (f w).toInt ≤ (f n).toInt ∧ 0 < (g w).toInt) (q := fun w => (plcN f w 7 : Int)) 7 ⟨n, hn, Int.le_refl _, h.1⟩
  refine ⟨plcN f v 7, plcN_lt hv, ?_, by rw [inv_plc hv]; exact pv.1⟩
  unfold stB
  rw [inv_plc hv]
  refine ⟨pv.2, ?_⟩
  have h2 := h.2
  have h3 : zW g (fun k => decide (f k ≤ f n)) ≤ cuZ f g (plcN f v 7 + 1) := zW_le hg (fun k hk h4 h5 => by
    have h6 := mv k hk ⟨i_le.mp (of_decide_eq_true h4), h5⟩
    exact decide_eq_true (by omega))
  omega
theorem mm_mid (hg : ∀ k, k < 7 → 0 ≤ (g k).toInt ∧ (g k).toInt ≤ 9) (hf : ∀ k, k < 7 → 0 ≤ (f k).toInt) : mmF f g 7 = midI f g := by
  have c0 : (0 : Int32).toInt = cuZ f g 0 := (zS_0 7 (fun k hk => if_neg (by rw [decide_eq_true_iff]; omega))).symm
  unfold midI
  rcases mo_char hg 7 0 0 (by omega) c0 with ⟨a1, a2⟩ | ⟨j, b1, b2, b3, b4, b5⟩
  · rw [a1]
    rcases mm_char (g := g) 7 (by omega) hf with ⟨d1, _⟩ | ⟨k, e1, e2, e3, e4⟩
    · exact d1
    · obtain ⟨i, hi, hs, _⟩ := st_of_ok hg e1 e2
      exact absurd hs (a2 i (by omega) hi)
  · rw [b4]
    rcases mm_char (g := g) 7 (by omega) hf with ⟨d1, d2⟩ | ⟨k, e1, e2, e3, e4⟩
    · exact absurd (ok_of_st hg b2 b3) (d2 _ (invN_ok f b2).1)
    · rw [e3]
      have h1 := e4 _ (invN_ok f b2).1 (ok_of_st hg b2 b3)
      obtain ⟨i, hi, hs, hl⟩ := st_of_ok hg e1 e2
      have hji : j ≤ i := by
        by_cases h : j ≤ i
        · exact h
        · exact absurd hs (b5 i (by omega) (by omega))
      have h2 := plc_f (f := f) (invN_ok f b2).1 (invN_ok f hi).1 (by rw [(invN_ok f b2).2, (invN_ok f hi).2]; exact hji)
      rw [i_eq]
      omega
end MIDD
section MIDE
variable {f g : Nat → Int32}
def aB (f g : Nat → Int32) (w : Nat) : Prop := okB f g w ∧ 2 * zW g (fun k => decide (f k < f w)) < zW g (fun _ => true)
theorem a_iff (hg : ∀ k, k < 7 → 0 ≤ (g k).toInt ∧ (g k).toInt ≤ 9) {w : Nat} : (0 < g w ∧ 2 * wBel f g (f w) 7 < sumN g 7 ∧ sumN g 7 ≤ 2 * (wBel f g (f w) 7 + wAt f g (f w) 7)) ↔ aB f g w := by
  have hb := wb_z hg (f := f) (f w)
  have hA := tot_z hg
  have hw : (wAt f g (f w) 7).toInt = zW g (fun k => decide (f k = f w)) ∧ 0 ≤ zW g (fun k => decide (f k = f w)) ∧ zW g (fun k => decide (f k = f w)) ≤ 63 := by
    have h := zW_s hg (fun k => decide (f k = f w))
    rw [wa_s]
    have e : (fun k => if f k = f w then g k else (0 : Int32)) = (fun k => if decide (f k = f w) = true then g k else 0) := by
      funext k
      by_cases h1 : f k = f w
      · rw [if_pos h1, if_pos (decide_eq_true h1)]
      · rw [if_neg h1, if_neg (by rw [decide_eq_true_iff]; exact h1)]
    rw [e]; exact h
  have hs : zW g (fun k => decide (f k < f w)) + zW g (fun k => decide (f k = f w)) = zW g (fun k => decide (f k ≤ f w)) := by
    unfold zW
    rw [← zS_add]
    refine zS_eq 7 (fun k hk => ?_)
    by_cases h1 : f k < f w
    · have h2 := i_lt.mp h1
      rw [if_pos (decide_eq_true h1), if_neg (by rw [decide_eq_true_iff, i_eq]; omega), if_pos (decide_eq_true (i_le.mpr (by omega)))]
      omega
    · rw [if_neg (by rw [decide_eq_true_iff]; exact h1)]
      rw [i_lt] at h1
      by_cases h2 : f k = f w
      · rw [if_pos (decide_eq_true h2), if_pos (decide_eq_true (i_le.mpr (by rw [h2]; exact Int.le_refl _)))]; omega
      · rw [if_neg (by rw [decide_eq_true_iff]; exact h2), if_neg (by rw [decide_eq_true_iff, i_le]; rw [i_eq] at h2; omega)]; rfl
  have e2 : (2 : Int32).toInt = 2 := by decide
  have c1 : (2 * wBel f g (f w) 7).toInt = 2 * zW g (fun k => decide (f k < f w)) := by
    rw [Int32.toInt_mul, e2, hb.1]; exact i_bm (by omega) (by omega)
  have c2 : (wBel f g (f w) 7 + wAt f g (f w) 7).toInt = zW g (fun k => decide (f k ≤ f w)) := by
    rw [i_add (by omega) (by omega), hb.1, hw.1, hs]
  have c3 : (2 * (wBel f g (f w) 7 + wAt f g (f w) 7)).toInt = 2 * zW g (fun k => decide (f k ≤ f w)) := by
    rw [Int32.toInt_mul, e2, c2]; exact i_bm (by omega) (by omega)
  unfold aB
  rw [ok_z hg, i_lt, i_0, i_lt, i_le, c1, c3, hA.1]
  omega
theorem ma_char (hg : ∀ k, k < 7 → 0 ≤ (g k).toInt ∧ (g k).toInt ≤ 9) : ∀ (k w : Nat), w + k = 7 → (midA f g k w = -1 ∧ ∀ j, w ≤ j → j < 7 → ¬ aB f g j) ∨ (∃ j, j < 7 ∧ aB f g j ∧ midA f g k w = f j)
  | 0, w, h => Or.inl ⟨rfl, fun j h1 h2 => absurd h2 (by omega)⟩
  | k + 1, w, h => by
    by_cases h1 : 0 < g w ∧ 2 * wBel f g (f w) 7 < sumN g 7 ∧ sumN g 7 ≤ 2 * (wBel f g (f w) 7 + wAt f g (f w) 7)
    · exact Or.inr ⟨w, by omega, (a_iff hg).mp h1, if_pos h1⟩
    · have e : midA f g (k + 1) w = midA f g k (w + 1) := if_neg h1
      rw [e]
      rcases ma_char hg k (w + 1) (by omega) with ⟨a1, a2⟩ | h2
      · refine Or.inl ⟨a1, fun j h3 h4 => ?_⟩
        by_cases h5 : j = w
        · subst h5; exact fun q => h1 ((a_iff hg).mpr q)
        · exact a2 j (by omega) h4
      · exact Or.inr h2
theorem mm_midA (hg : ∀ k, k < 7 → 0 ≤ (g k).toInt ∧ (g k).toInt ≤ 9) (hf : ∀ k, k < 7 → 0 ≤ (f k).toInt) : midA f g 7 0 = mmF f g 7 := by
  rcases mm_char (g := g) 7 (by omega) hf with ⟨d1, d2⟩ | ⟨k, e1, e2, e3, e4⟩
  · rw [d1]
    rcases ma_char hg (f := f) 7 0 (by omega) with ⟨a1, _⟩ | ⟨j, b1, b2, _⟩
    · exact a1
    · exact absurd b2.1 (d2 j b1)
  · rw [e3]
    have hk := (ok_z hg).mp e2
    have hA : 0 < zW g (fun _ => true) := by
      have h1 : zW g (fun w => decide (w = k)) ≤ zW g (fun _ => true) := zW_le hg (fun _ _ _ _ => rfl)
      have h2 : zW g (fun w => decide (w = k)) = (g k).toInt := by
        have := zS_1 (c := fun w => (g w).toInt) (v := k) 7 e1
        rw [← this]
        refine zS_eq 7 (fun w hw => ?_)
        by_cases h : w = k
        · rw [if_pos (decide_eq_true h), if_pos h]
        · rw [if_neg (by rw [decide_eq_true_iff]; exact h), if_neg h]
      omega
    have hak : aB f g k := by
      refine ⟨e2, ?_⟩
      by_cases hx : ∃ v, v < 7 ∧ ((f v).toInt < (f k).toInt ∧ 0 < (g v).toInt)
      · obtain ⟨v, hv, pv, mv⟩ := argmax (P := fun w => (f w).toInt < (f k).toInt ∧ 0 < (g w).toInt) (q := fun w => (f w).toInt) 7 hx
        have h3 : zW g (fun w => decide (f w < f k)) ≤ zW g (fun w => decide (f w ≤ f v)) := zW_le hg (fun w hw h4 h5 => decide_eq_true (i_le.mpr (mv w hw ⟨i_lt.mp (of_decide_eq_true h4), h5⟩)))
        by_cases h6 : 2 * zW g (fun w => decide (f w < f k)) < zW g (fun _ => true)
        · exact h6
        · have h7 := e4 v hv ((ok_z hg).mpr ⟨pv.2, by omega⟩)
          have h8 := pv.1
          omega
      · have h3 : zW g (fun w => decide (f w < f k)) ≤ zW g (fun _ => false) := zW_le hg (fun w hw h4 h5 => absurd ⟨w, hw, i_lt.mp (of_decide_eq_true h4), h5⟩ hx)
        have h4 : zW g (fun _ => false) = 0 := zS_0 7 (fun _ _ => rfl)
        omega
    rcases ma_char hg (f := f) 7 0 (by omega) with ⟨_, a2⟩ | ⟨j, b1, b2, b3⟩
    · exact absurd hak (a2 k (by omega) e1)
    · rw [b3]
      have h1 := e4 j b1 b2.1
      by_cases h2 : (f k).toInt < (f j).toInt
      · have h3 : zW g (fun w => decide (f w ≤ f k)) ≤ zW g (fun w => decide (f w < f j)) := zW_le hg (fun w hw h4 _ => decide_eq_true (i_lt.mpr (by have := i_le.mp (of_decide_eq_true h4); omega)))
        have h5 := b2.2
        have h6 := hk.2
        omega
      · rw [i_eq]; omega
end MIDE
