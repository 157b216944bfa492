theorem rotP_inj {pi : Nat → Nat} (h : ∀ i j, i < 6 → j < 6 → pi i = pi j → i = j) : ∀ i j, i < 6 → j < 6 → rotP pi i = rotP pi j → i = j := by
  intro i j hi hj e
  rw [rotP_at hi, rotP_at hj] at e
  by_cases h1 : i < 5 <;> by_cases h2 : j < 5
  · rw [if_pos h1, if_pos h2] at e
    have := h _ _ (by omega) (by omega) e; omega
  · rw [if_pos h1, if_neg h2] at e
    have := h _ _ (by omega) (by omega) e; omega
  · rw [if_neg h1, if_pos h2] at e
    have := h _ _ (by omega) (by omega) e; omega
  · omega
theorem svPi_lt {pi : Nat → Nat} {sz : Nat} (h : ∀ k, k < 6 → pi k < 6) : ∀ k, k < 6 → svPi pi sz k < 6 := by
  unfold svPi; split
  · exact rotP_lt h
  · exact h
theorem svPi_inj {pi : Nat → Nat} {sz : Nat} (h : ∀ i j, i < 6 → j < 6 → pi i = pi j → i = j) : ∀ i j, i < 6 → j < 6 → svPi pi sz i = svPi pi sz j → i = j := by
  unfold svPi; split
  · exact rotP_inj h
  · exact h
theorem svQ_lt {sz : Nat} (h : sz ≤ 6) : svQ sz < 6 := by unfold svQ; split <;> omega
theorem va_up_k {f : Nat → St} {k : Nat} {v : St} : va_up f k v k = v := if_pos rfl
theorem va_up_o {f : Nat → St} {k j : Nat} {v : St} (h : j ≠ k) : va_up f k v j = f j := if_neg h
/-! bounds of what the calls make -/
theorem Bd.put {T : Int} {s : St} {d : Nat} {y : Int32} (h : Bd T s) (hd : d < 7) (hy : witB y 0 99999) : Bd T (mvS s d y) := by
  have h1 := wit_i.mp hy
  rw [show (0 : Int32).toInt = 0 by decide, show (99999 : Int32).toInt = 99999 by decide] at h1
  exact h.mv hd h1.1 h1.2
theorem Bd.drf {T : Int} {s : St} {d : Nat} {y : Int32} (h : Bd T s) (hy : witB y (-5) 5) : Bd T (up2 s 2 d y) := by
  have h1 := wit_i.mp hy
  rw [show (-5 : Int32).toInt = -5 by decide, show (5 : Int32).toInt = 5 by decide] at h1
  exact h.dr h1
theorem Bd.lie {T : Int} {s : St} {w : Nat} {y : Int32} (h : Bd T s) (hy : witB y (-60) 60) : Bd T (up2 s 8 w y) := by
  have h1 := wit_i.mp hy
  rw [show (-60 : Int32).toInt = -60 by decide, show (60 : Int32).toInt = 60 by decide] at h1
  refine ⟨fun k hk => ?_, ?_, ?_, ?_⟩
  · have hb := h.1 k hk
    rw [up2_o (show 1 ≠ 8 by decide), up2_o (show 2 ≠ 8 by decide), up2_o (show 7 ≠ 8 by decide), up2_e]
    by_cases hq : k = w
    · subst hq; rw [show upd (s 8) k y k = y from if_pos rfl]; exact ⟨hb.1, hb.2.1, hb.2.2.1, hb.2.2.2.1, hb.2.2.2.2.1, hb.2.2.2.2.2.1, h1⟩
    · rw [show upd (s 8) w y k = s 8 k from if_neg hq]; exact hb
  · rw [up2_o (by decide)]; exact h.2.1
  · rw [up2_o (by decide)]; exact h.2.2.1
  · rw [up2_o (by decide)]; exact h.2.2.2
theorem Bd.wrd {T : Int} {s : St} {w : Nat} {x y : Int32} (h : Bd T s) (hw : w < 7) (hx : witB x 0 9) (hy : witB y (-60) 60) : Bd T (up2 (up2 s 7 w x) 8 w y) := by
  have h1 := wit_i.mp hx
  rw [show (0 : Int32).toInt = 0 by decide, show (9 : Int32).toInt = 9 by decide] at h1
  exact (h.wt hw h1).lie hy
theorem Bd.stg {T : Int} {s : St} {q : Nat} {y : Int32} (h : Bd T s) (hy : witB y 0 99) : Bd T (up2 s 10 q y) := by
  have h1 := wit_i.mp hy
  rw [show (0 : Int32).toInt = 0 by decide, show (99 : Int32).toInt = 99 by decide] at h1
  refine ⟨fun k hk => ?_, ?_, fun k hk => ?_, ?_⟩
  · rw [up2_o (by decide), up2_o (by decide), up2_o (by decide), up2_o (by decide)]; exact h.1 k hk
  · rw [up2_o (by decide)]; exact h.2.1
  · rw [up2_e]
    by_cases hq : k = q
    · subst hq; rw [show upd (s 10) k y k = y from if_pos rfl]; exact h1
    · rw [show upd (s 10) q y k = s 10 k from if_neg hq]; exact h.2.2.1 k hk
  · rw [up2_o (by decide)]; exact h.2.2.2
theorem wit_nat {x : Int32} {hi : Nat} {h9 : Int32} (he : h9 = nI hi) (hh : hi < 2 ^ 31) (h : witB x 0 h9) : ∃ d, d ≤ hi ∧ x = nI d := by
  subst he
  have h1 := wit_i.mp h
  have e : (nI hi).toInt = (hi : Int) := Int32.toInt_ofNat_of_lt (by omega)
  rw [i_0, e] at h1
  refine ⟨x.toInt.toNat, by omega, ?_⟩
  rw [i_eq]
  have e2 : (nI x.toInt.toNat).toInt = (x.toInt.toNat : Int) := Int32.toInt_ofNat_of_lt (by omega)
  rw [e2]; omega
theorem wit_nat1 {x : Int32} (h : witB x 1 99) : ∃ n, (1 ≤ n ∧ n ≤ 99) ∧ x = nI n := by
  have h1 := wit_i.mp h
  rw [show (1 : Int32).toInt = 1 by decide, show (99 : Int32).toInt = 99 by decide] at h1
  refine ⟨x.toInt.toNat, by omega, ?_⟩
  rw [i_eq]
  have e2 : (nI x.toInt.toNat).toInt = (x.toInt.toNat : Int) := Int32.toInt_ofNat_of_lt (by omega)
  rw [e2]; omega
theorem ord_eq {a : Int} : compare a a = .eq := by show compareOfLessAndEq a a = _; unfold compareOfLessAndEq; rw [if_neg (by omega), if_pos rfl]
theorem dcmp_s {v : UInt64} (h : dOk v) : Op.cmpValue (FP.dcmp v v) .l = 0 := by
  rcases h with h | ⟨c, q, h, -⟩
  · subst h; rw [d_zer0]; rfl
  · rw [d_cmp h.dec h.dec, ord_eq]; rfl
where
  d_zer0 : FP.dcmp 0 0 = some .eq := by decide +kernel
