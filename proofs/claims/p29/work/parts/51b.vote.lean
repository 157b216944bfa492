/-! votes -/
theorem hear_r {s : St} {x : Int32} {r : Nat} (h0 : r ≠ 0) : hearS s x r = s r := by
  unfold hearS
  split
  · rw [up2_o h0, up2_o h0]
  · rw [up2_o h0, up2_o h0]
theorem less_r {s : St} {w r : Nat} (h7 : r ≠ 7) (h9 : r ≠ 9) : lessS s w r = s r := by
  unfold lessS
  split
  · rw [up2_o h9, up2_o h7]
  · rfl
theorem setl_r {s : St} {w : Nat → Int32} {i j r : Nat} (h7 : r ≠ 7) (h9 : r ≠ 9) : setl s w i j r = s r := by
  unfold setl
  split
  · split
    · exact less_r h7 h9
    · split
      · exact less_r h7 h9
      · rfl
  · rfl
theorem stlN_r {s : St} {w : Nat → Int32} {r : Nat} (h7 : r ≠ 7) (h9 : r ≠ 9) : ∀ n, setlN w n s r = s r
  | 0 => rfl
  | n + 1 => (setl_r h7 h9).trans (stlN_r h7 h9 n)
theorem vote_r {s : St} {r : Nat} (h0 : r ≠ 0) (h7 : r ≠ 7) (h9 : r ≠ 9) : voteS s r = s r := (stlN_r h7 h9 7).trans (hear_r h0)
theorem vote_01 {s : St} : voteS s 0 1 = if s 0 1 < midI (wordA s) (s 7) then midI (wordA s) (s 7) else s 0 1 := by
  unfold voteS
  rw [stlN_r (by decide) (by decide)]
  unfold hearS
  by_cases h : s 0 1 < midI (wordA s) (s 7)
  · rw [if_pos h, if_pos h]; exact up2_kk
  · rw [if_neg h, if_neg h, up2_k (by decide), up2_k (by decide)]
theorem vote_02 {s : St} : voteS s 0 2 = s 0 2 + 1 := by
  unfold voteS
  rw [stlN_r (by decide) (by decide)]
  unfold hearS
  by_cases h : s 0 1 < midI (wordA s) (s 7)
  · rw [if_pos h, up2_k (by decide), up2_kk]
  · rw [if_neg h, up2_k (by decide), up2_kk]
theorem vote_03 {s : St} : voteS s 0 3 = s 0 3 + if s 0 1 < midI (wordA s) (s 7) then 0 else 1 := by
  unfold voteS
  rw [stlN_r (by decide) (by decide)]
  unfold hearS
  by_cases h : s 0 1 < midI (wordA s) (s 7)
  · rw [if_pos h, if_pos h, up2_k (by decide), up2_k (by decide), Int32.add_zero]
  · rw [if_neg h, if_neg h, up2_kk]
theorem r_u1 {a v b : Int32} : a + v = a + b + (v - b) := by grind
theorem r_u2 {a v b c : Int32} : a + (v - b) + c = a + c + (v - b) := by grind
theorem sum_u {f : Nat → Int32} {w : Nat} {v : Int32} : ∀ n, sumN (upd f w v) n = if w < n then sumN f n + (v - f w) else sumN f n
  | 0 => (if_neg (by omega)).symm
  | n + 1 => by
    show sumN (upd f w v) n + upd f w v n = _
    rw [sum_u n]
    by_cases h : n = w
    · subst h
      rw [if_neg (by omega), if_pos (by omega), show upd f n v n = v from if_pos rfl]
      exact r_u1
    · rw [show upd f w v n = f n from if_neg h]
      by_cases h2 : w < n
      · rw [if_pos h2, if_pos (by omega)]; exact r_u2
      · rw [if_neg h2, if_neg (by omega)]; rfl
theorem less_7 {s : St} {w : Nat} (h : 0 < s 7 w) : lessS s w 7 = upd (s 7) w (s 7 w - 1) := by unfold lessS; rw [if_pos h, up2_o (by decide), up2_e]
theorem less_9 {s : St} {w : Nat} (h : 0 < s 7 w) : lessS s w 9 = upd (s 9) w (s 9 w + 1) := by unfold lessS; rw [if_pos h, up2_e, up2_o (by decide)]
theorem r_l1 {a b x y : Int32} : a + (x - 1 - x) + (b + (y + 1 - y)) = a + b := by grind
theorem less_s {s : St} {w : Nat} (hw : w < 7) : sumN (lessS s w 7) 7 + sumN (lessS s w 9) 7 = sumN (s 7) 7 + sumN (s 9) 7 := by
  by_cases h : 0 < s 7 w
  · rw [less_7 h, less_9 h, sum_u, sum_u, if_pos hw, if_pos hw]; exact r_l1
  · unfold lessS; rw [if_neg h]
theorem setl_s {s : St} {w : Nat → Int32} {i j : Nat} (hi : i < 7) (hj : j < 7) : sumN (setl s w i j 7) 7 + sumN (setl s w i j 9) 7 = sumN (s 7) 7 + sumN (s 9) 7 := by
  unfold setl
  split
  · split
    · exact less_s hi
    · split
      · exact less_s hj
      · rfl
  · rfl
theorem stlN_s {s : St} {w : Nat → Int32} : ∀ n, n ≤ 7 → sumN (setlN w n s 7) 7 + sumN (setlN w n s 9) 7 = sumN (s 7) 7 + sumN (s 9) 7
  | 0, _ => rfl
  | n + 1, h => (setl_s (by omega) behN_lt).trans (stlN_s n (by omega))
theorem r_w {a b c e : Int32} (h : a + b = c + e) : c - a = b - e := by grind
theorem vote_w (s : St) : sumN (s 7) 7 - sumN (voteS s 7) 7 = sumN (voteS s 9) 7 - sumN (s 9) 7 := by
  have h := stlN_s (s := hearS s (midI (wordA s) (s 7))) (w := wordA s) 7 (Nat.le_refl _)
  rw [hear_r (r := 7) (by decide), hear_r (r := 9) (by decide)] at h
  exact r_w h
theorem r_l2 {a y : Int32} : a + (y + 1 - y) = a + 1 := by grind
theorem less_q {s : St} {w : Nat} (hw : w < 7) : ∃ c, c ≤ 1 ∧ sumN (lessS s w 9) 7 = sumN (s 9) 7 + nI c := by
  by_cases h : 0 < s 7 w
  · refine ⟨1, Nat.le_refl _, ?_⟩
    rw [less_9 h, sum_u, if_pos hw]; exact r_l2
  · refine ⟨0, by decide, ?_⟩
    unfold lessS; rw [if_neg h]; exact (Int32.add_zero _).symm
theorem setl_q {s : St} {w : Nat → Int32} {i j : Nat} (hi : i < 7) (hj : j < 7) : ∃ c, c ≤ (if wqB s (w i) (w j) then 1 else 0) ∧ sumN (setl s w i j 9) 7 = sumN (s 9) 7 + nI c := by
  unfold setl
  by_cases h : wqB s (w i) (w j)
  · rw [if_pos h, if_pos h]
    split
    · exact less_q hi
    · split
      · exact less_q hj
      · exact ⟨0, by decide, (Int32.add_zero _).symm⟩
  · rw [if_neg h, if_neg h]
    exact ⟨0, by decide, (Int32.add_zero _).symm⟩
theorem stlN_q {s t : St} (ht : t 10 = s 10) : ∀ n, n ≤ 7 → ∃ c q : Nat, c ≤ q ∧ q ≤ n ∧ sumN (setlN (wordA s) n t 9) 7 = sumN (t 9) 7 + nI c ∧ quarC s n = nI q
  | 0, _ => ⟨0, 0, Nat.le_refl _, Nat.le_refl _, (Int32.add_zero _).symm, rfl⟩
  | n + 1, hn => by
    obtain ⟨c, q, h1, h2, h3, h4⟩ := stlN_q ht n (by omega)
    obtain ⟨c2, h5, h6⟩ := setl_q (s := setlN (wordA s) n t) (w := wordA s) (i := n) (j := behN n) (by omega) behN_lt
    have e : wqB (setlN (wordA s) n t) (wordA s n) (wordA s (behN n)) ↔ quarB s n := by
      show setlN (wordA s) n t 10 0 < _ ↔ s 10 0 < _
      rw [stlN_r (by decide) (by decide), ht]
    have e9 : sumN (setlN (wordA s) (n + 1) t 9) 7 = sumN (t 9) 7 + nI (c + c2) := by
      show sumN (setl (setlN (wordA s) n t) (wordA s) n (behN n) 9) 7 = _
      rw [h6, h3, Int32.add_assoc, nI_add]
    by_cases hc : quarB s n
    · rw [if_pos (e.mpr hc)] at h5
      refine ⟨c + c2, q + 1, by omega, by omega, e9, ?_⟩
      show quarC s n + (if quarB s n then 1 else 0) = _
      rw [if_pos hc, h4]; exact nI_add q 1
    · rw [if_neg (fun q => hc (e.mp q))] at h5
      refine ⟨c + c2, q, by omega, by omega, e9, ?_⟩
      show quarC s n + (if quarB s n then 1 else 0) = _
      rw [if_neg hc, h4]; exact Int32.add_zero _
theorem r_c {a c : Int32} : a + c - a = c := by grind
theorem vote_q {s : St} : ¬ quarC s 7 < sumN (voteS s 9) 7 - sumN (s 9) 7 := by
  obtain ⟨c, q, h1, h2, h3, h4⟩ := stlN_q (s := s) (t := hearS s (midI (wordA s) (s 7))) (hear_r (by decide)) 7 (Nat.le_refl _)
  have e : sumN (voteS s 9) 7 - sumN (s 9) 7 = nI c := by
    unfold voteS
    rw [h3, hear_r (by decide)]; exact r_c
  rw [e, h4, i_lt, nI_int (by omega), nI_int (by omega)]
  omega
theorem vote_told {T : Int} {s : St} (h : Gd T s) : (s 0 1).toInt ≤ (voteS s 0 1).toInt := by
  rw [vote_01]
  split
  · rename_i hc; rw [i_lt] at hc; omega
  · exact Int.le_refl _
theorem vote_ge {T : Int} {s : St} (h : Gd T s) : 0 ≤ (voteS s 0 1).toInt := by
  have := vote_told h
  have := h.n01
  omega
theorem Gd.vote {T : Int} {s : St} (h : Gd T s) (hT : T ≤ 1000000) : Gd (T + 1000) (voteS s) := by
  have h2 := h.n02
  have h3 := h.n03
  have h23 := h.2.2.1
  have h2T := h.2.2.2.1
  have e2 : (s 0 2 + 1).toInt = (s 0 2).toInt + 1 := by rw [i_add (by rw [i_1]; omega) (by rw [i_1]; omega), i_1]
  refine ⟨(h.1.vote (by omega)).mono (by omega), fun d hd => ?_, ?_, ?_, fun d hd => ?_⟩
  · unfold accI
    rw [vote_r (r := 3) (by decide) (by decide) (by decide), vote_r (r := 4) (by decide) (by decide) (by decide), vote_r (r := 5) (by decide) (by decide) (by decide), vote_r (r := 1) (by decide) (by decide) (by decide)]
    exact h.2.1 d hd
  · rw [vote_02, vote_03, e2]
    split
    · rw [Int32.add_zero]; omega
    · rw [i_add (by rw [i_1]; omega) (by rw [i_1]; omega), i_1]; omega
  · rw [vote_02, e2]; omega
  · rw [vote_r (by decide) (by decide) (by decide)]
    have := h.b6 d hd
    omega
/-! moves -/
theorem mv_r {s : St} {d r : Nat} {y : Int32} (h1 : r ≠ 1) (h4 : r ≠ 4) (h5 : r ≠ 5) (h6 : r ≠ 6) : mvS s d y r = s r := by
  unfold mvS
  split
  · rw [up2_o h5, up2_o h1]
  · rw [up2_o h6, up2_o h4, up2_o h1]
theorem mv_1 {s : St} {d : Nat} {y : Int32} : mvS s d y 1 = upd (s 1) d y := by
  unfold mvS
  split
  · rw [up2_o (by decide), up2_e]
  · rw [up2_o (by decide), up2_o (by decide), up2_e]
theorem mv_4 {s : St} {d : Nat} {y : Int32} : mvS s d y 4 = if y < s 1 d then s 4 else upd (s 4) d (s 4 d + (y - s 1 d)) := by
  unfold mvS
  split
  · rw [up2_o (by decide), up2_o (by decide)]
  · rw [up2_o (by decide), up2_e, up2_o (by decide)]
theorem mv_5 {s : St} {d : Nat} {y : Int32} : mvS s d y 5 = if y < s 1 d then upd (s 5) d (s 5 d + (s 1 d - y)) else s 5 := by
  unfold mvS
  split
  · rw [up2_e, up2_o (by decide)]
  · rw [up2_o (by decide), up2_o (by decide), up2_o (by decide)]
theorem mv_6 {s : St} {d : Nat} {y : Int32} : mvS s d y 6 = if y < s 1 d then s 6 else upd (s 6) d (s 6 d + (y / 60 - s 1 d / 60)) := by
  unfold mvS
  split
  · rw [up2_o (by decide), up2_o (by decide)]
  · rw [up2_e, up2_o (by decide), up2_o (by decide)]
theorem upd_s {f : Nat → Int32} {k : Nat} {v : Int32} : upd f k v k = v := if_pos rfl
theorem upd_n {f : Nat → Int32} {k j : Nat} {v : Int32} (h : j ≠ k) : upd f k v j = f j := if_neg h
theorem r_m1 {a b c m y : Int32} (h : a + b - c = m) : a + b - (c + (m - y)) = y := by subst h; grind
theorem r_m2 {a b c m y : Int32} (h : a + b - c = m) : a + (b + (y - m)) - c = y := by subst h; grind
theorem mv_acc {s : St} {d k : Nat} {y : Int32} (h : ∀ j, j < 7 → accI s j = s 1 j) (hd : d < 7) (hk : k < 7) : accI (mvS s d y) k = mvS s d y 1 k := by
  have hk2 := h k hk
  unfold accI at hk2 ⊢
  rw [mv_1, mv_r (r := 3) (by decide) (by decide) (by decide) (by decide), mv_4, mv_5]
  by_cases hq : k = d
  · subst hq
    rw [upd_s]
    split
    · rw [upd_s]; exact r_m1 hk2
    · rw [upd_s]; exact r_m2 hk2
  · rw [upd_n hq]
    split
    · rw [upd_n hq]; exact hk2
    · rw [upd_n hq]; exact hk2
theorem mv_b6 {T : Int} {s : St} {d k : Nat} {y : Int32} (h : Bd T s) (hd : d < 7) (h9 : y.toInt ≤ 99999) (h6 : 0 ≤ (s 6 k).toInt ∧ (s 6 k).toInt ≤ 100000000) : (s 6 k).toInt ≤ (mvS s d y 6 k).toInt ∧ (mvS s d y 6 k).toInt ≤ (s 6 k).toInt + (if k = d then 1667 else 0) := by
  rw [mv_6]
  by_cases hc : y < s 1 d
  · rw [if_pos hc]; split <;> omega
  · rw [if_neg hc]
    by_cases hq : k = d
    · subst hq
      rw [upd_s, if_pos rfl]
      rw [i_lt] at hc
      have h2 := sub60 (h.1 k hd).1 (y := y) (by omega) h9
      rw [i_add (by omega) (by omega)]
      omega
    · rw [upd_n hq, if_neg hq]; omega
theorem nI_w9 {k : Nat} (h : k ≤ 99999) : witB (nI k) 0 99999 := ⟨Int32.not_lt.mp (nI_n0 (by omega)), nI_le99999 h⟩
theorem wit_9 {y : Int32} (h : witB y 0 99999) : 0 ≤ y.toInt ∧ y.toInt ≤ 99999 := by
  have h1 := h.1
  have h2 := h.2
  rw [i_le, i_0] at h1
  rw [i_le, i_9] at h2
  exact ⟨h1, h2⟩
theorem Gd.put {T : Int} {s : St} {d : Nat} {y : Int32} (h : Gd T s) (hT : T ≤ 1000000) (hd : d < 7) (hy : witB y 0 99999) : Gd (T + 1000) (mvS s d y) := by
  refine ⟨(h.1.put hd hy).mono (by omega), fun k hk => mv_acc h.2.1 hd hk, ?_, ?_, fun k hk => ?_⟩
  · rw [mv_r (by decide) (by decide) (by decide) (by decide)]; exact h.2.2.1
  · rw [mv_r (by decide) (by decide) (by decide) (by decide)]; have := h.2.2.2.1; omega
  · have h6 := h.b6 k hk
    have := mv_b6 (k := k) h.1 hd (wit_9 hy).2 ⟨h6.1, by omega⟩
    split at this <;> omega
theorem put_told {s : St} {d : Nat} {y : Int32} : (s 0 1).toInt ≤ (mvS s d y 0 1).toInt := by rw [mv_r (by decide) (by decide) (by decide) (by decide)]; exact Int.le_refl _
theorem Gd.same {T T' : Int} {s s' : St} (h : Gd T s) (hB : Bd T' s') (hT : T ≤ T') (e : ∀ r, r ≠ 2 → r ≠ 7 → r ≠ 8 → r ≠ 10 → s' r = s r) : Gd T' s' := by
  refine ⟨hB, fun d hd => ?_, ?_, ?_, fun d hd => ?_⟩
  · unfold accI
    rw [e 3 (by decide) (by decide) (by decide) (by decide), e 4 (by decide) (by decide) (by decide) (by decide), e 5 (by decide) (by decide) (by decide) (by decide), e 1 (by decide) (by decide) (by decide) (by decide)]
    exact h.2.1 d hd
  · rw [e 0 (by decide) (by decide) (by decide) (by decide)]; exact h.2.2.1
  · rw [e 0 (by decide) (by decide) (by decide) (by decide)]; have := h.2.2.2.1; omega
  · rw [e 6 (by decide) (by decide) (by decide) (by decide)]; have := h.b6 d hd; omega
theorem Gd.drf {T : Int} {s : St} {d : Nat} {y : Int32} (h : Gd T s) (hy : ¬ y < (-5) ∧ y ≤ 5) : Gd (T + 1000) (up2 s 2 d y) := h.same ((h.1.drf ⟨Int32.not_lt.mp hy.1, hy.2⟩).mono (by omega)) (by omega) (fun r h2 _ _ _ => up2_o h2)
theorem Gd.wrd {T : Int} {s : St} {w k : Nat} {y : Int32} (h : Gd T s) (hw : w < 7) (hk : k ≤ 9) (hy : ¬ y < (-60) ∧ y ≤ 60) : Gd (T + 1000) (up2 (up2 s 7 w (nI k)) 8 w y) := h.same ((h.1.wrd hw ⟨Int32.not_lt.mp (nI_n0 (by omega)), nI_le9 hk⟩ ⟨Int32.not_lt.mp hy.1, hy.2⟩).mono (by omega)) (by omega) (fun r _ h7 h8 _ => (up2_o h8).trans (up2_o h7))
theorem Gd.stg {T : Int} {s : St} {q k : Nat} (h : Gd T s) (hk : k ≤ 99) : Gd (T + 1000) (up2 s 10 q (nI k)) := h.same ((h.1.stg ⟨Int32.not_lt.mp (nI_n0 (by omega)), nI_le99 hk⟩).mono (by omega)) (by omega) (fun r _ _ _ h10 => up2_o h10)
