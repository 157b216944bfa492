/-! corrections -/
def dsF (s : St) : Nat → Int32
  | 0 => 0
  | n + 1 => dsF s n + (if 0 < distI (s 1 n) (s 0 1) - s 10 1 then distI (s 1 n) (s 0 1) - s 10 1 else 0)
theorem cor_r {s : St} {r : Nat} (h1 : r ≠ 1) (h4 : r ≠ 4) (h5 : r ≠ 5) (h6 : r ≠ 6) : ∀ n, corS n s r = s r
  | 0 => rfl
  | n + 1 => by
    show (if offB (corS n s) n then mvS (corS n s) n (nearI (corS n s) n) else corS n s) r = s r
    split
    · rw [mv_r h1 h4 h5 h6, cor_r h1 h4 h5 h6 n]
    · exact cor_r h1 h4 h5 h6 n
theorem off_e {s t : St} {n : Nat} (h1 : t 1 n = s 1 n) (h0 : t 0 = s 0) (h10 : t 10 = s 10) : offB t n ↔ offB s n := by
  show t 10 1 < distI (t 1 n) (t 0 1) ↔ s 10 1 < distI (s 1 n) (s 0 1)
  rw [h1, h0, h10]
theorem near_q {s t : St} {n : Nat} (h1 : t 1 n = s 1 n) (h0 : t 0 = s 0) (h10 : t 10 = s 10) : nearI t n = nearI s n := by
  unfold nearI
  rw [h1, h0, h10]
theorem cor_1 {s : St} : ∀ (n d : Nat), corS n s 1 d = if d < n ∧ offB s d then nearI s d else s 1 d
  | 0, d => (if_neg (fun h => absurd h.1 (by omega))).symm
  | n + 1, d => by
    have e1 : corS n s 1 n = s 1 n := by rw [cor_1 n n, if_neg (fun h => absurd h.1 (by omega))]
    have e0 := off_e e1 (cor_r (by decide) (by decide) (by decide) (by decide) n) (cor_r (by decide) (by decide) (by decide) (by decide) n)
    have e2 := near_q e1 (cor_r (by decide) (by decide) (by decide) (by decide) n) (cor_r (by decide) (by decide) (by decide) (by decide) n)
    show (if offB (corS n s) n then mvS (corS n s) n (nearI (corS n s) n) else corS n s) 1 d = _
    by_cases h : offB s n
    · rw [if_pos (e0.mpr h), mv_1, e2]
      by_cases hd : d = n
      · subst hd
        rw [upd_s, if_pos ⟨by omega, h⟩]
      · rw [upd_n hd, cor_1 n d]
        by_cases hx : d < n ∧ offB s d
        · rw [if_pos hx, if_pos ⟨by omega, hx.2⟩]
        · rw [if_neg hx, if_neg (fun q => hx ⟨by omega, q.2⟩)]
    · rw [if_neg (fun q => h (e0.mp q)), cor_1 n d]
      by_cases hd : d = n
      · subst hd
        rw [if_neg (fun q => h q.2), if_neg (fun q => h q.2)]
      · by_cases hx : d < n ∧ offB s d
        · rw [if_pos hx, if_pos ⟨by omega, hx.2⟩]
        · rw [if_neg hx, if_neg (fun q => hx ⟨by omega, q.2⟩)]
theorem cor_n {s : St} {n : Nat} : corS n s 1 n = s 1 n := by rw [cor_1 n n, if_neg (fun h => absurd h.1 (by omega))]
theorem cor_o {s : St} {n : Nat} : offB (corS n s) n ↔ offB s n := off_e cor_n (cor_r (by decide) (by decide) (by decide) (by decide) n) (cor_r (by decide) (by decide) (by decide) (by decide) n)
theorem cor_k {s : St} {n : Nat} : nearI (corS n s) n = nearI s n := near_q cor_n (cor_r (by decide) (by decide) (by decide) (by decide) n) (cor_r (by decide) (by decide) (by decide) (by decide) n)
theorem dist_lo {x y : Int32} (h : x < y) : distI x y = y - x := if_pos h
theorem dist_hi {x y : Int32} (h : ¬ x < y) : distI x y = x - y := if_neg h
theorem r_d1 {m t k : Int32} : t - k - m = t - m - k := by grind
theorem r_d2 {m t k : Int32} : m - (t + k) = m - t - k := by grind
theorem due_1 {T : Int} {s : St} {d : Nat} (h : Bd T s) (hd : d < 7) : (if offB s d then mvR s d (nearI s d) else 0) = (if 0 < distI (s 1 d) (s 0 1) - s 10 1 then distI (s 1 d) (s 0 1) - s 10 1 else 0) := by
  have hm := h.1 d hd
  have ht := h.2.1
  have hk := h.2.2.1 1 (by decide)
  have hD := dist_ok (x := s 1 d) (y := s 0 1) (T := 99999) ⟨hm.1, hm.2.1⟩ ht (by decide)
  have e1 : (distI (s 1 d) (s 0 1) - s 10 1).toInt = (distI (s 1 d) (s 0 1)).toInt - (s 10 1).toInt := i_sub (by omega) (by omega)
  by_cases hc : offB s d
  · have hc2 : (s 10 1).toInt < (distI (s 1 d) (s 0 1)).toInt := i_lt.mp hc
    rw [if_pos hc, if_pos (by rw [i_lt, i_0]; omega)]
    unfold mvR nearI
    by_cases hl : s 1 d < s 0 1
    · rw [if_pos hl]
      rw [dist_lo hl] at hc2 ⊢
      have hl2 := i_lt.mp hl
      have a1 : (s 0 1 - s 1 d).toInt = (s 0 1).toInt - (s 1 d).toInt := i_sub (by omega) (by omega)
      have a2 : (s 0 1 - s 10 1).toInt = (s 0 1).toInt - (s 10 1).toInt := i_sub (by omega) (by omega)
      rw [if_neg (by rw [i_lt]; omega)]
      exact r_d1
    · rw [if_neg hl]
      rw [dist_hi hl] at hc2 ⊢
      rw [i_lt] at hl
      have a1 : (s 1 d - s 0 1).toInt = (s 1 d).toInt - (s 0 1).toInt := i_sub (by omega) (by omega)
      have a2 : (s 0 1 + s 10 1).toInt = (s 0 1).toInt + (s 10 1).toInt := i_add (by omega) (by omega)
      rw [if_pos (by rw [i_lt]; omega)]
      exact r_d2
  · have hc2 : ¬ (s 10 1).toInt < (distI (s 1 d) (s 0 1)).toInt := fun q => hc (i_lt.mpr q)
    rw [if_neg hc, if_neg (by rw [i_lt, i_0]; omega)]
theorem mvR_e {s t : St} {d : Nat} {y : Int32} (h : t 1 d = s 1 d) : mvR t d y = mvR s d y := by unfold mvR; rw [h]
theorem cor_a2 {T : Int} {s : St} (h : Bd T s) : ∀ n, n ≤ 7 → corA n s = dsF s n
  | 0, _ => rfl
  | n + 1, hn => by
    show (if offB (corS n s) n then corA n s + mvR (corS n s) n (nearI (corS n s) n) else corA n s) = dsF s n + _
    rw [← due_1 h (by omega), cor_a2 h n (by omega), cor_k, mvR_e cor_n]
    by_cases hc : offB s n
    · rw [if_pos (cor_o.mpr hc), if_pos hc]
    · rw [if_neg (fun q => hc (cor_o.mp q)), if_neg hc, Int32.add_zero]
theorem cor_due {T : Int} {s : St} (h : Bd T s) : corA 7 s = dsF s 7 := cor_a2 h 7 (Nat.le_refl _)
theorem due_b {T : Int} {s : St} (h : Bd T s) : ∀ n : Nat, n ≤ 7 → 0 ≤ (dsF s n).toInt ∧ (dsF s n).toInt ≤ 200000 * (n : Int)
  | 0, _ => by show 0 ≤ (0 : Int32).toInt ∧ (0 : Int32).toInt ≤ _; rw [i_0]; omega
  | n + 1, hn => by
    have ih := due_b h n (by omega)
    have hm := h.1 n (by omega)
    have hk := h.2.2.1 1 (by decide)
    have hD := dist_ok (x := s 1 n) (y := s 0 1) (T := 99999) ⟨hm.1, hm.2.1⟩ h.2.1 (by decide)
    have e1 : (distI (s 1 n) (s 0 1) - s 10 1).toInt = (distI (s 1 n) (s 0 1)).toInt - (s 10 1).toInt := i_sub (by omega) (by omega)
    show 0 ≤ (dsF s n + (if 0 < distI (s 1 n) (s 0 1) - s 10 1 then distI (s 1 n) (s 0 1) - s 10 1 else 0)).toInt ∧ (dsF s n + (if 0 < distI (s 1 n) (s 0 1) - s 10 1 then distI (s 1 n) (s 0 1) - s 10 1 else 0)).toInt ≤ 200000 * ((n + 1 : Nat) : Int)
    split
    · rename_i hc
      rw [i_lt, i_0] at hc
      rw [i_add (by omega) (by omega)]
      omega
    · rw [Int32.add_zero]; omega
theorem corA_ge {T : Int} {s : St} (h : Bd T s) : 0 ≤ (corA 7 s).toInt := by rw [cor_due h]; exact (due_b h 7 (Nat.le_refl _)).1
theorem r_s1 {a b x m y : Int32} : a + (b + (x + (m - y) - x)) = a + b + (m - y) := by grind
theorem r_s2 {a b x m y : Int32} : a + (x + (y - m) - x) + b = a + b + (y - m) := by grind
theorem mv_s {s : St} {d : Nat} {y : Int32} (hd : d < 7) : sumN (mvS s d y 4) 7 + sumN (mvS s d y 5) 7 = sumN (s 4) 7 + sumN (s 5) 7 + mvR s d y := by
  rw [mv_4, mv_5]
  unfold mvR
  by_cases hc : y < s 1 d
  · rw [if_pos hc, if_pos hc, if_pos hc, sum_u, if_pos hd]; exact r_s1
  · rw [if_neg hc, if_neg hc, if_neg hc, sum_u, if_pos hd]; exact r_s2
theorem cor_s9 {s : St} : ∀ n, n ≤ 7 → sumN (corS n s 4) 7 + sumN (corS n s 5) 7 = sumN (s 4) 7 + sumN (s 5) 7 + corA n s
  | 0, _ => (Int32.add_zero _).symm
  | n + 1, hn => by
    have ih := cor_s9 (s := s) n (by omega)
    show sumN ((if offB (corS n s) n then mvS (corS n s) n (nearI (corS n s) n) else corS n s) 4) 7 + sumN ((if offB (corS n s) n then mvS (corS n s) n (nearI (corS n s) n) else corS n s) 5) 7 = sumN (s 4) 7 + sumN (s 5) 7 + (if offB (corS n s) n then corA n s + mvR (corS n s) n (nearI (corS n s) n) else corA n s)
    split
    · rw [mv_s (by omega), ih, Int32.add_assoc]
    · exact ih
theorem cor_sum {s : St} : sumN (corS 7 s 4) 7 + sumN (corS 7 s 5) 7 = sumN (s 4) 7 + sumN (s 5) 7 + corA 7 s := cor_s9 7 (Nat.le_refl _)
theorem cor_in {T : Int} {s : St} {d : Nat} (h : Bd T s) (hd : d < 7) : ¬ offB (corS 7 s) d := by
  have hm := h.1 d hd
  have ht := h.2.1
  have hk := h.2.2.1 1 (by decide)
  show ¬ corS 7 s 10 1 < distI (corS 7 s 1 d) (corS 7 s 0 1)
  rw [cor_r (r := 10) (by decide) (by decide) (by decide) (by decide), cor_r (r := 0) (by decide) (by decide) (by decide) (by decide), cor_1 7 d]
  by_cases hc : offB s d
  · rw [if_pos ⟨hd, hc⟩]
    unfold nearI
    by_cases hl : s 1 d < s 0 1
    · rw [if_pos hl]
      have a2 : (s 0 1 - s 10 1).toInt = (s 0 1).toInt - (s 10 1).toInt := i_sub (by omega) (by omega)
      have hD := dist_ok (x := s 0 1) (y := s 0 1 - s 10 1) (T := 99999) ht
      unfold distI
      split
      · have a3 : (s 0 1 - (s 0 1 - s 10 1)).toInt = (s 0 1).toInt - (s 0 1 - s 10 1).toInt := i_sub (by omega) (by omega)
        rw [i_lt]; omega
      · have a3 : (s 0 1 - s 10 1 - s 0 1).toInt = (s 0 1 - s 10 1).toInt - (s 0 1).toInt := i_sub (by omega) (by omega)
        rw [i_lt]; omega
    · rw [if_neg hl]
      have a2 : (s 0 1 + s 10 1).toInt = (s 0 1).toInt + (s 10 1).toInt := i_add (by omega) (by omega)
      unfold distI
      split
      · have a3 : (s 0 1 - (s 0 1 + s 10 1)).toInt = (s 0 1).toInt - (s 0 1 + s 10 1).toInt := i_sub (by omega) (by omega)
        rw [i_lt]; omega
      · have a3 : (s 0 1 + s 10 1 - s 0 1).toInt = (s 0 1 + s 10 1).toInt - (s 0 1).toInt := i_sub (by omega) (by omega)
        rw [i_lt]; omega
  · rw [if_neg (fun q => hc q.2)]
    exact hc
theorem off_0 {X : St} : ∀ n, (∀ d, d < n → ¬ offB X d) → offC X n = 0
  | 0, _ => rfl
  | n + 1, h => by
    show offC X n + (if offB X n then 1 else 0) = 0
    rw [if_neg (h n (by omega)), Int32.add_zero]
    exact off_0 n (fun d hd => h d (by omega))
theorem cor_off {T : Int} {s : St} (h : Bd T s) : offC (corS 7 s) 7 = 0 := off_0 7 (fun d hd => cor_in h hd)
theorem cor_no {X : St} : ∀ n, (∀ d, d < n → ¬ offB X d) → corS n X = X ∧ corA n X = 0
  | 0, _ => ⟨rfl, rfl⟩
  | n + 1, h => by
    have ih := cor_no (X := X) n (fun d hd => h d (by omega))
    have hn : ¬ offB (corS n X) n := by rw [ih.1]; exact h n (by omega)
    refine ⟨?_, ?_⟩
    · show (if offB (corS n X) n then mvS (corS n X) n (nearI (corS n X) n) else corS n X) = X
      rw [if_neg hn]; exact ih.1
    · show (if offB (corS n X) n then corA n X + mvR (corS n X) n (nearI (corS n X) n) else corA n X) = 0
      rw [if_neg hn]; exact ih.2
theorem cor_2 {T : Int} {s : St} (h : Bd T s) : corA 7 (corS 7 s) = 0 := (cor_no 7 (fun d hd => cor_in h hd)).2
theorem cor_told {s : St} : (s 0 1).toInt ≤ (corS 7 s 0 1).toInt := by rw [cor_r (by decide) (by decide) (by decide) (by decide)]; exact Int.le_refl _
theorem cor_acc {s : St} (h : ∀ j, j < 7 → accI s j = s 1 j) : ∀ n, n ≤ 7 → ∀ j, j < 7 → accI (corS n s) j = corS n s 1 j
  | 0, _ => h
  | n + 1, hn => by
    have ih := cor_acc h n (by omega)
    show ∀ j, j < 7 → accI (if offB (corS n s) n then mvS (corS n s) n (nearI (corS n s) n) else corS n s) j = (if offB (corS n s) n then mvS (corS n s) n (nearI (corS n s) n) else corS n s) 1 j
    split
    · exact fun j hj => mv_acc ih (by omega) hj
    · exact ih
theorem cor_6 {T : Int} {s : St} (h : Bd T s) (hT : T ≤ 1000000) (h6 : ∀ d, d < 7 → 0 ≤ (s 6 d).toInt ∧ (s 6 d).toInt ≤ 2 * T) : ∀ n, n ≤ 7 → ∀ d, d < 7 → 0 ≤ (corS n s 6 d).toInt ∧ (corS n s 6 d).toInt ≤ 2 * T + (if d < n then 1667 else 0)
  | 0, _, d, hd => by rw [if_neg (by omega)]; have := h6 d hd; exact ⟨this.1, by show (s 6 d).toInt ≤ _; omega⟩
  | n + 1, hn, d, hd => by
    have ih := cor_6 h hT h6 n (by omega) d hd
    have hB := h.cors n (by omega)
    have hB2 := h.cors (n + 1) hn
    by_cases hc : offB (corS n s) n
    · have e : corS (n + 1) s = mvS (corS n s) n (nearI (corS n s) n) := if_pos hc
      have hy : (nearI (corS n s) n).toInt ≤ 99999 := by
        have := (hB2.1 n (by omega)).2.1
        rw [e, mv_1, upd_s] at this
        exact this
      rw [e]
      have h9 := mv_b6 (k := d) hB (d := n) (by omega) hy ⟨ih.1, by have := ih.2; split at this <;> omega⟩
      by_cases hq : d = n
      · subst hq
        rw [if_pos rfl] at h9
        rw [if_neg (by omega)] at ih
        rw [if_pos (by omega)]
        omega
      · rw [if_neg hq] at h9
        by_cases h2 : d < n
        · rw [if_pos h2] at ih
          rw [if_pos (by omega)]; omega
        · rw [if_neg h2] at ih
          rw [if_neg (by omega)]; omega
    · have e : corS (n + 1) s = corS n s := if_neg hc
      rw [e]
      by_cases h2 : d < n
      · rw [if_pos h2] at ih
        rw [if_pos (by omega)]; omega
      · rw [if_neg h2] at ih
        split <;> omega
theorem Gd.cor {T : Int} {s : St} (h : Gd T s) (hT : T ≤ 1000000) : Gd (T + 1000) (corS 7 s) := by
  refine ⟨(h.1.cors 7 (Nat.le_refl _)).mono (by omega), cor_acc h.2.1 7 (Nat.le_refl _), ?_, ?_, fun d hd => ?_⟩
  · rw [cor_r (by decide) (by decide) (by decide) (by decide)]; exact h.2.2.1
  · rw [cor_r (by decide) (by decide) (by decide) (by decide)]; have := h.2.2.2.1; omega
  · have := cor_6 h.1 hT h.b6 7 (Nat.le_refl _) d hd
    rw [if_pos hd] at this
    omega
/-! middles -/
def gW (s : St) (w k : Nat) : Int32 := if k = w then 0 else s 7 k
def sdF (f g : Nat → Int32) (x : Int32) : Nat → Int32
  | 0 => 0
  | n + 1 => if ¬ sdF f g x n = 0 ∨ (f n = x ∧ 0 < g n) then 1 else 0
def IM (f g : Nat → Int32) (x : Int32) : Prop := (sumN g 7 = 0 → x = -1) ∧ (¬ sumN g 7 = 0 → ¬ sdF f g x 7 = 0 ∧ ¬ 2 * beL f g x 7 < sumN g 7 ∧ ¬ sumN g 7 ≤ 2 * wBel f g x 7)
theorem sd_n {f g : Nat → Int32} {x : Int32} {k : Nat} (h1 : f k = x) (h2 : 0 < g k) : ∀ n, k < n → ¬ sdF f g x n = 0
  | 0, h => absurd h (by omega)
  | n + 1, h => by
    show ¬ (if ¬ sdF f g x n = 0 ∨ (f n = x ∧ 0 < g n) then (1 : Int32) else 0) = 0
    by_cases hq : k = n
    · subst hq
      rw [if_pos (Or.inr ⟨h1, h2⟩)]; decide
    · rw [if_pos (Or.inl (sd_n h1 h2 n (by omega)))]; decide
theorem IM_mid {f g : Nat → Int32} (hg : ∀ k, k < 7 → 0 ≤ (g k).toInt ∧ (g k).toInt ≤ 9) (hf : ∀ k, k < 7 → 0 ≤ (f k).toInt) : IM f g (midA f g 7 0) := by
  have ht := tot_z hg
  rcases ma_char (f := f) hg 7 0 (by omega) with ⟨h1, h2⟩ | ⟨j, hj, h3, h4⟩
  · refine ⟨fun _ => h1, fun hs => ?_⟩
    exfalso
    have hne : ∃ w, w < 7 ∧ 0 < (g w).toInt := by
      apply Classical.byContradiction
      intro hno
      have hz : ∀ k, k < 7 → (g k).toInt = 0 := fun k hk => by
        have h9 := hg k hk
        by_cases hp : 0 < (g k).toInt
        · exact absurd ⟨k, hk, hp⟩ hno
        · omega
      have e := (sum_z (f := g) 7 (Nat.le_refl _) (fun k hk => hg k hk)).1
      rw [zS_0 7 hz] at e
      exact hs (by rw [i_eq, e, i_0])
    obtain ⟨v, hv, hv1, hv2⟩ := argmax (q := fun k => (f k).toInt) 7 hne
    have hok : okB f g v := by
      rw [ok_z hg]
      have h5 := zW_le (g := g) hg (P := fun _ => true) (Q := fun k => decide (f k ≤ f v)) (fun k hk _ hp => decide_eq_true (i_le.mpr (hv2 k hk hp)))
      have h6 := (zW_s hg (fun k => decide (f k ≤ f v))).2.1
      exact ⟨hv1, by omega⟩
    have hm := mm_midA hg hf
    rw [h1] at hm
    rcases mm_char (f := f) (g := g) 7 (Nat.le_refl _) hf with ⟨-, h7⟩ | ⟨k, hk, -, h8, -⟩
    · exact h7 v hv hok
    · rw [← hm] at h8
      have h9 := hf k hk
      rw [← h8] at h9
      exact absurd h9 (by decide)
  · have hA := (a_iff hg (w := j)).mpr h3
    have hb := zW_s hg (fun k => decide (f k < f j))
    have h5 := h3.2
    refine ⟨fun hs => ?_, fun _ => ?_⟩
    · exfalso
      have : (sumN g 7).toInt = 0 := by rw [hs, i_0]
      have := ht.1
      have := hb.2.1
      omega
    · rw [h4]
      exact ⟨sd_n rfl hA.1 7 hj, Int32.not_lt.mpr h3.1.2, Int32.not_le.mpr hA.2.1⟩
theorem mid_dA {f g : Nat → Int32} (hg : ∀ k, k < 7 → 0 ≤ (g k).toInt ∧ (g k).toInt ≤ 9) (hf : ∀ k, k < 7 → 0 ≤ (f k).toInt) : midI f g = midA f g 7 0 := (mm_mid hg hf).symm.trans (mm_midA hg hf).symm
theorem gW_b {T : Int} {s : St} {w : Nat} (h : Bd T s) : ∀ k, k < 7 → 0 ≤ (gW s w k).toInt ∧ (gW s w k).toInt ≤ 9 := by
  intro k hk
  unfold gW
  split
  · decide
  · exact ⟨(h.1 k hk).2.2.2.2.1, (h.1 k hk).2.2.2.2.2.1⟩
theorem im_now {T : Int} {s : St} (h : Bd T s) : IM (wordA s) (gW s 9) (midI (wordA s) (s 7)) := by
  have e : midI (wordA s) (s 7) = midI (wordA s) (gW s 9) := midI_cong (fun _ _ => rfl) (fun k hk => by unfold gW; rw [if_neg (by omega)])
  rw [e, mid_dA (gW_b h) (fun k hk => word_ok.1)]
  exact IM_mid (gW_b h) (fun k hk => word_ok.1)
theorem im_wo {T : Int} {s : St} {j : Nat} (h : Bd T s) (hj : j < 7) : IM (wordA s) (gW s j) (midW s j 0) := by
  have e : midW s j 0 = midI (wordA s) (gW s j) := midI_cong (fun _ _ => rfl) (fun k hk => rfl)
  rw [e, mid_dA (gW_b h) (fun k hk => word_ok.1)]
  exact IM_mid (gW_b h) (fun k hk => word_ok.1)
def fmF (s : St) (n : Nat) : Int32 × Int32 := if midI (wordA s) (s 7) = -1 then (-1, -1) else pvF s (midI (wordA s) (s 7)) n
section FMF
variable {s : St} {n : Nat} {bv xv : Int32}
theorem fm_0 : fmF s 0 = (-1, -1) := by unfold fmF; split <;> rfl
theorem fm_a (h : midI (wordA s) (s 7) = -1) (hv : fmF s n = (bv, xv)) : fmF s (n + 1) = (bv, xv) := by
  unfold fmF at hv ⊢
  rw [if_pos h] at hv ⊢
  exact hv
theorem pv_s : pvF s (midI (wordA s) (s 7)) (n + 1) = if ¬ midW s n 0 = -1 ∧ (pvF s (midI (wordA s) (s 7)) n).2 < distI (midW s n 0) (midI (wordA s) (s 7)) then (nI n, distI (midW s n 0) (midI (wordA s) (s 7))) else pvF s (midI (wordA s) (s 7)) n := rfl
theorem fm_b (h : midW s n 0 = -1) (hv : fmF s n = (bv, xv)) : fmF s (n + 1) = (bv, xv) := by
  by_cases hm : midI (wordA s) (s 7) = -1
  · exact fm_a hm hv
  · unfold fmF at hv ⊢
    rw [if_neg hm] at hv ⊢
    rw [pv_s, if_neg (fun q => q.1 h)]
    exact hv
theorem fm_c (h : ¬ xv < distI (midW s n 0) (midI (wordA s) (s 7))) (hv : fmF s n = (bv, xv)) : fmF s (n + 1) = (bv, xv) := by
  by_cases hm : midI (wordA s) (s 7) = -1
  · exact fm_a hm hv
  · unfold fmF at hv ⊢
    rw [if_neg hm] at hv ⊢
    rw [pv_s, hv, if_neg (fun q => h q.2)]
theorem fm_d (h1 : ¬ midI (wordA s) (s 7) = -1) (h2 : ¬ midW s n 0 = -1) (h : xv < distI (midW s n 0) (midI (wordA s) (s 7))) (hv : fmF s n = (bv, xv)) : fmF s (n + 1) = (nI n, distI (midW s n 0) (midI (wordA s) (s 7))) := by
  unfold fmF at hv ⊢
  rw [if_neg h1] at hv ⊢
  rw [pv_s, hv, if_pos ⟨h2, h⟩]
theorem fm_piv (hv : fmF s 7 = (bv, xv)) : pivI s = bv := by
  unfold pivI
  unfold fmF at hv
  by_cases hm : midI (wordA s) (s 7) = -1
  · rw [if_pos hm] at hv ⊢
    exact (congrArg Prod.fst hv)
  · rw [if_neg hm] at hv ⊢
    rw [hv]
end FMF
/-! places, quarrels, shares -/
def qsF (s : St) : Nat → Int32
  | 0 => 0
  | n + 1 => qsF s n + wardN s n 5
def plM (s : St) : Nat → Int32
  | 0 => 0
  | n + 1 => plM s n ||| ((1 : Int32) <<< (nI (plcN (wordA s) n 7) &&& 31))
theorem r_q {a b c x y z w : Int32} : 0 + (a + w) + (b + a) + (c + b) + (x + c) + (y + x) + (z + y) + (w + z) = 2 * (0 + a + b + c + x + y + z + w) := by grind
theorem qs_eq {s : St} : qsF s 7 = 2 * quarC s 7 := by
  show 0 + ((if quarB s 0 then (1 : Int32) else 0) + (if quarB s 6 then 1 else 0)) + ((if quarB s 1 then 1 else 0) + (if quarB s 0 then 1 else 0)) + ((if quarB s 2 then 1 else 0) + (if quarB s 1 then 1 else 0)) + ((if quarB s 3 then 1 else 0) + (if quarB s 2 then 1 else 0)) + ((if quarB s 4 then 1 else 0) + (if quarB s 3 then 1 else 0)) + ((if quarB s 5 then 1 else 0) + (if quarB s 4 then 1 else 0)) + ((if quarB s 6 then 1 else 0) + (if quarB s 5 then 1 else 0)) = 2 * (0 + (if quarB s 0 then (1 : Int32) else 0) + (if quarB s 1 then 1 else 0) + (if quarB s 2 then 1 else 0) + (if quarB s 3 then 1 else 0) + (if quarB s 4 then 1 else 0) + (if quarB s 5 then 1 else 0) + (if quarB s 6 then 1 else 0))
  exact r_q
theorem plc_cmp {s : St} {j k : Nat} (hj : j < 7) (hk : k < 7) : (if plcN (wordA s) k 7 < plcN (wordA s) j 7 then (1 : Int32) else 0) = if wordA s k < wordA s j ∨ (wordA s j = wordA s k ∧ k < j) then 1 else 0 := by
  by_cases h : lexB (wordA s) k j
  · rw [if_pos ((plcN_mono h 7).2 hk), if_pos (h.imp (fun q => q) (fun q => ⟨q.1.symm, q.2⟩))]
  · rw [if_neg, if_neg (fun q => h (q.imp (fun q => q) (fun q => ⟨q.1.symm, q.2⟩)))]
    by_cases hq : j = k
    · rw [hq]; exact Nat.lt_irrefl _
    · rcases lex_tri (f := wordA s) hq with h2 | h2
      · have := (plcN_mono h2 7).2 hj
        omega
      · exact absurd h2 h
theorem or_n (a b : Nat) (ha : a < 2147483648) (hb : b < 2147483648) : nI a ||| nI b = nI (a ||| b) := by
  rw [← Int32.toBitVec_inj, Int32.toBitVec_or]
  show (Int32.ofNat a).toBitVec ||| (Int32.ofNat b).toBitVec = (Int32.ofNat (a ||| b)).toBitVec
  rw [Int32.toBitVec_ofNat', Int32.toBitVec_ofNat', Int32.toBitVec_ofNat']
  apply BitVec.eq_of_toNat_eq
  have h3 : a ||| b < 2 ^ 31 := Nat.or_lt_two_pow (by omega) (by omega)
  rw [BitVec.toNat_or, BitVec.toNat_ofNat, BitVec.toNat_ofNat, BitVec.toNat_ofNat, Nat.mod_eq_of_lt (by omega), Nat.mod_eq_of_lt (by omega), Nat.mod_eq_of_lt (by omega)]
theorem shl_n : ∀ m : Nat, m < 7 → (1 : Int32) <<< (nI m &&& 31) = nI (2 ^ m) := by decide +kernel
def plZ (f : Nat → Int32) : Nat → Nat
  | 0 => 0
  | n + 1 => plZ f n ||| 2 ^ plcN f n 7
theorem plZ_lt {f : Nat → Int32} : ∀ n, n ≤ 7 → plZ f n < 2 ^ 7
  | 0, _ => by show 0 < 2 ^ 7; decide
  | n + 1, h => Nat.or_lt_two_pow (plZ_lt n (by omega)) (Nat.pow_lt_pow_right (by decide) (plcN_lt (by omega)))
theorem plM_z {s : St} : ∀ n, n ≤ 7 → plM s n = nI (plZ (wordA s) n)
  | 0, _ => rfl
  | n + 1, h => by
    have h1 := plZ_lt (f := wordA s) n (by omega)
    have h2 := plcN_lt (f := wordA s) (w := n) (by omega)
    have h3 : 2 ^ plcN (wordA s) n 7 < 2 ^ 7 := Nat.pow_lt_pow_right (by decide) h2
    show plM s n ||| ((1 : Int32) <<< (nI (plcN (wordA s) n 7) &&& 31)) = nI (plZ (wordA s) n ||| 2 ^ plcN (wordA s) n 7)
    rw [plM_z n (by omega), shl_n _ h2, or_n _ _ (by omega) (by omega)]
theorem plZ_b {f : Nat → Int32} {i k : Nat} (hk : plcN f k 7 = i) : ∀ n, k < n → (plZ f n).testBit i = true
  | 0, h => absurd h (by omega)
  | n + 1, h => by
    show (plZ f n ||| 2 ^ plcN f n 7).testBit i = true
    rw [Nat.testBit_or]
    by_cases hq : k = n
    · subst hq
      rw [hk, Nat.testBit_two_pow_self, Bool.or_true]
    · rw [plZ_b hk n (by omega), Bool.true_or]
theorem pl_all {s : St} : plM s 7 = 127 := by
  rw [plM_z 7 (Nat.le_refl _)]
  have e : plZ (wordA s) 7 = 2 ^ 7 - 1 := by
    apply Nat.eq_of_testBit_eq
    intro i
    rw [Nat.testBit_two_pow_sub_one]
    by_cases hi : i < 7
    · rw [decide_eq_true hi]
      have := invN_ok (wordA s) hi
      exact plZ_b this.2 7 this.1
    · rw [decide_eq_false hi]
      exact Nat.testBit_lt_two_pow (Nat.lt_of_lt_of_le (plZ_lt 7 (Nat.le_refl _)) (Nat.pow_le_pow_right (by decide) (by omega)))
  rw [e]; rfl
theorem hs_0 {T : Int} {s : St} (h : Gd T s) : ¬ Op.cmpValue (FP.dcmp (shareD s) FP.dconst0) .l < 0 := by
  rcases sh_dOk h.1 with h0 | ⟨c, q, h1, -⟩
  · rw [h0, d_zer]; decide
  · rw [d_pos h1]; decide
theorem sh_le1 : ∀ v : Nat, v < 52 → ∀ k : Nat, k ≤ v → 1 ≤ v → ¬ 0 < Op.cmpValue (FP.dcmp (FP.ddiv (FP.i2d (nI k)) (FP.i2d (nI v))) FP.dconst1) .g := by decide +kernel
theorem hs_1 {T : Int} {s : St} (h : Gd T s) (hT : T ≤ 51000) : ¬ 0 < Op.cmpValue (FP.dcmp (shareD s) FP.dconst1) .g := by
  have h3 := h.2.2.1
  have h4 := h.2.2.2.1
  obtain ⟨k, e1, k1, -⟩ := nat_of h.n03
  obtain ⟨v, e2, v1, -⟩ := nat_of h.n02
  unfold shareD
  split
  · decide +kernel
  · rename_i hz
    rw [e1, e2]
    refine sh_le1 v (by omega) k (by omega) ?_
    apply Nat.one_le_iff_ne_zero.mpr
    intro h0
    subst h0
    exact hz e2
theorem f_cm {x y : UInt32} {c d : Nat} {q r : Int} (hx : FP.Core.decode FP.Core.b32 x.toNat = .fin false c q) (hy : FP.Core.decode FP.Core.b32 y.toNat = .fin false d r) : FP.fcmp x y = some (compare ((c * 2 ^ (q - min q r).toNat : Nat) : Int) ((d * 2 ^ (r - min q r).toNat : Nat) : Int)) := by
  show FP.Core.order (FP.Core.decode FP.Core.b32 x.toNat) (FP.Core.decode FP.Core.b32 y.toNat) = _
  rw [hx, hy]
  rfl
theorem dec_f0 : FP.Core.decode FP.Core.b32 (FP.fconst0).toNat = .fin false 0 (-149) := by decide +kernel
theorem f_zer : FP.fcmp 0 FP.fconst0 = some .eq := by decide +kernel
theorem f_pos {x : UInt32} {c : Nat} {q : Int} (h : fNrm x c q) : FP.fcmp x FP.fconst0 = some .gt := by
  rw [f_cm h.dec dec_f0]
  obtain ⟨-, h1, h2, h3, h4⟩ := h
  congr 1
  refine ord_gt ?_
  rw [Nat.zero_mul]
  have h5 : 0 < 2 ^ (q - min q (-149)).toNat := Nat.pow_pos (by decide)
  have h6 := Nat.mul_pos (show 0 < c by omega) h5
  omega
theorem me_0 {s : St} (h : 0 ≤ (errC s 7).toInt) : ¬ Op.cmpValue (FP.fcmp (meanF s) FP.fconst0) .l < 0 := by
  rcases f_mean h with h0 | ⟨c, q, h1, -⟩
  · unfold meanF
    rw [h0, f_zer]; decide
  · unfold meanF
    rw [f_pos h1]; decide
