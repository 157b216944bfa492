/-! the reference's arithmetic, within the bounds that hold of every state -/
theorem i_bm {x : Int} (h1 : -2147483648 ≤ x) (h2 : x ≤ 2147483647) : x.bmod 4294967296 = x := by
  rw [Int.bmod_def]
  omega
theorem i_add {x y : Int32} (h1 : -2147483648 ≤ x.toInt + y.toInt) (h2 : x.toInt + y.toInt ≤ 2147483647) : (x + y).toInt = x.toInt + y.toInt := by
  rw [Int32.toInt_add]; exact i_bm h1 h2
theorem i_sub {x y : Int32} (h1 : -2147483648 ≤ x.toInt - y.toInt) (h2 : x.toInt - y.toInt ≤ 2147483647) : (x - y).toInt = x.toInt - y.toInt := by
  rw [Int32.toInt_sub]; exact i_bm h1 h2
theorem i_neg {x : Int32} (h1 : -2147483647 ≤ x.toInt) : (-x).toInt = -x.toInt := by
  rw [Int32.toInt_neg]
  have := Int32.toInt_lt x
  exact i_bm (by omega) (by omega)
theorem i_lt {x y : Int32} : x < y ↔ x.toInt < y.toInt := Int32.lt_iff_toInt_lt
theorem i_le {x y : Int32} : x ≤ y ↔ x.toInt ≤ y.toInt := Int32.le_iff_toInt_le
theorem i_eq {x y : Int32} : x = y ↔ x.toInt = y.toInt := ⟨fun h => by rw [h], Int32.toInt_inj.mp⟩
theorem i_0 : (0 : Int32).toInt = 0 := by decide
theorem i_10 : (10 : Int32).toInt = 10 := by decide
theorem i_1 : (1 : Int32).toInt = 1 := by decide
theorem i_9 : (99999 : Int32).toInt = 99999 := by decide
def absI (x : Int32) : Int32 := if 0 ≤ x then x else -x
theorem abs_dist {x y : Int32} (h1 : 0 ≤ x.toInt) (h2 : 0 ≤ y.toInt) : absI (x - y) = distI x y := by
  have hx := Int32.toInt_lt x
  have hy := Int32.toInt_lt y
  have hs : (x - y).toInt = x.toInt - y.toInt := i_sub (by omega) (by omega)
  unfold absI distI
  by_cases h : x < y
  · have h' := i_lt.mp h
    rw [if_pos h, if_neg (by rw [i_le, i_0, hs]; omega)]
    rw [i_eq, i_neg (by rw [hs]; omega), hs, i_sub (by omega) (by omega)]
    omega
  · have h' : ¬ x.toInt < y.toInt := fun q => h (i_lt.mpr q)
    rw [if_neg h, if_pos (by rw [i_le, i_0, hs]; omega)]
def Bd (T : Int) (s : St) : Prop :=
  (∀ d, d < 7 → 0 ≤ (s 1 d).toInt ∧ (s 1 d).toInt ≤ 99999 ∧ -5 ≤ (s 2 d).toInt ∧ (s 2 d).toInt ≤ 5 ∧ 0 ≤ (s 7 d).toInt ∧ (s 7 d).toInt ≤ 9 ∧ -60 ≤ (s 8 d).toInt ∧ (s 8 d).toInt ≤ 60)
  ∧ (0 ≤ (s 0 1).toInt ∧ (s 0 1).toInt ≤ 99999) ∧ (∀ k, k < 2 → 0 ≤ (s 10 k).toInt ∧ (s 10 k).toInt ≤ 99) ∧ (∀ k, k < 4 → k ≠ 1 → 0 ≤ (s 0 k).toInt ∧ (s 0 k).toInt ≤ T)
theorem clamp_ok {x : Int32} : 0 ≤ (clampW x).toInt ∧ (clampW x).toInt ≤ 99999 := by
  unfold clampW
  split
  · rw [i_0]; omega
  · rename_i h
    split
    · rw [i_9]; omega
    · rename_i h2
      rw [i_lt, i_0] at h
      rw [i_lt, i_9] at h2
      omega
theorem word_ok {s : St} {w : Nat} : 0 ≤ (wordA s w).toInt ∧ (wordA s w).toInt ≤ 99999 := clamp_ok
theorem aft_t {T : Int} {s : St} {d : Nat} {x : Int32} (h : Bd T s) (hd : d < 7) (h0 : 0 ≤ x.toInt) (h9 : x.toInt ≤ 99999) : (x + 10 + s 2 d).toInt = x.toInt + 10 + (s 2 d).toInt := by
  have hb := h.1 d hd
  have h1 : (x + 10).toInt = x.toInt + 10 := by rw [i_add (by rw [i_10]; omega) (by rw [i_10]; omega), i_10]
  rw [i_add (by rw [h1]; omega) (by rw [h1]; omega), h1]
theorem aft_ok {T : Int} {s : St} {d : Nat} {x : Int32} (h : Bd T s) (hd : d < 7) (h0 : 0 ≤ x.toInt) (h9 : x.toInt ≤ 99999) : x.toInt ≤ (aftI s d x).toInt ∧ (aftI s d x).toInt ≤ 99999 := by
  have hb := h.1 d hd
  have ht := aft_t h hd h0 h9
  unfold aftI
  split
  · rw [i_9]; omega
  · rename_i h2
    rw [i_lt, i_9] at h2
    omega
def shF (x y : Int32) : Int32 := if x < y then y / 60 - x / 60 else 0
theorem sh_ge {x y : Int32} (h : x.toInt ≤ y.toInt) : shF x y = y / 60 - x / 60 := by
  unfold shF
  by_cases h1 : x < y
  · rw [if_pos h1]
  · rw [if_neg h1]
    have : x = y := by rw [i_eq]; rw [i_lt] at h1; omega
    rw [this, Int32.sub_self]
theorem up2_same {s : St} {r c : Nat} {v : Int32} (h : v = s r c) : up2 s r c v = s := by
  funext q k
  by_cases h1 : q = r
  · subst h1
    by_cases h2 : k = c
    · subst h2; rw [up2_kk, h]
    · rw [up2_k h2]
  · rw [up2_o h1]
theorem up2_add0 {s : St} {r c : Nat} : up2 s r c (s r c + 0) = s := up2_same (Int32.add_zero _)
theorem up2_sw {s : St} {r r' c c' : Nat} {v v' : Int32} (h : r ≠ r') : up2 (up2 s r c v) r' c' v' = up2 (up2 s r' c' v') r c v := by
  funext q k
  by_cases h1 : q = r
  · subst h1
    rw [up2_o h, up2_e, up2_e, up2_o h]
  · by_cases h2 : q = r'
    · subst h2
      rw [up2_e, up2_o h1, up2_o h1, up2_e]
    · rw [up2_o h2, up2_o h1, up2_o h1, up2_o h2]
/-- one dial's tick, in the reference's order -/
theorem pt_eq {T : Int} {s : St} {d : Nat} (h : Bd T s) (hd : d < 7) : up2 (up2 (up2 s 3 d (s 3 d + (aftI s d (s 1 d) - s 1 d))) 1 d (aftI s d (s 1 d))) 6 d (s 6 d + shF (s 1 d) (aftI s d (s 1 d))) = ptS s d := by
  unfold ptS
  rw [sh_ge (aft_ok h hd (h.1 d hd).1 (h.1 d hd).2.1).1, up2_sw (show 3 ≠ 1 by decide)]
theorem pt_r {T : Int} {s : St} {d : Nat} (h : Bd T s) (hd : d < 7) : shF (s 1 d) (aftI s d (s 1 d)) = ptR s d := sh_ge (aft_ok h hd (h.1 d hd).1 (h.1 d hd).2.1).1
theorem mv_eq {s : St} {d : Nat} {y p q w : Int32} (hp : p = shF (s 1 d) y) (hq : q = if s 1 d < y then y - s 1 d else 0) (hw : w = if y < s 1 d then s 1 d - y else 0) : up2 (up2 (up2 (up2 s 1 d y) 6 d (s 6 d + p)) 4 d (s 4 d + q)) 5 d (s 5 d + w) = mvS s d y := by
  have a6 : ∀ t : St, (∀ r, r ≠ 1 → t r = s r) → up2 t 6 d (s 6 d + 0) = t := fun t ht => up2_same (by rw [Int32.add_zero, ht 6 (by decide)])
  have a4 : ∀ t : St, (∀ r, r ≠ 1 → t r = s r) → up2 t 4 d (s 4 d + 0) = t := fun t ht => up2_same (by rw [Int32.add_zero, ht 4 (by decide)])
  have e1 : ∀ r, r ≠ 1 → up2 s 1 d y r = s r := fun r hr => up2_o hr
  unfold mvS
  by_cases h : y < s 1 d
  · have hn : ¬ s 1 d < y := by rw [i_lt] at h ⊢; omega
    rw [hp, hq, hw, if_pos h, if_pos h, if_neg hn, show shF (s 1 d) y = 0 from if_neg hn, a6 _ e1, a4 _ e1]
  · rw [if_neg h, hw, if_neg h]
    have h' : (s 1 d).toInt ≤ y.toInt := by rw [i_lt] at h; omega
    rw [up2_sw (show 6 ≠ 4 by decide), hp, sh_ge h']
    have hq' : q = y - s 1 d := by
      rw [hq]
      split
      · rfl
      · rename_i h1
        have : s 1 d = y := by rw [i_eq]; rw [i_lt] at h1; omega
        rw [this, Int32.sub_self]
    rw [hq']
    exact up2_same (by rw [Int32.add_zero, up2_o (by decide), up2_o (by decide), up2_o (by decide)])
/-! bounds are kept -/
theorem Bd.pt {T : Int} {s : St} {d : Nat} (h : Bd T s) (hd : d < 7) : Bd T (ptS s d) := by
  have hr : ∀ r, r ≠ 1 → r ≠ 3 → r ≠ 6 → ptS s d r = s r := fun r h1 h3 h6 => by unfold ptS; rw [up2_o h6, up2_o h3, up2_o h1]
  have h1 : ptS s d 1 = upd (s 1) d (aftI s d (s 1 d)) := by unfold ptS; rw [up2_o (by decide), up2_o (by decide), up2_e]
  refine ⟨fun k hk => ?_, ?_, ?_, ?_⟩
  · rw [hr 2 (by decide) (by decide) (by decide), hr 7 (by decide) (by decide) (by decide), hr 8 (by decide) (by decide) (by decide), h1]
    have hb := h.1 k hk
    by_cases hq : k = d
    · subst hq
      have := aft_ok h hd hb.1 hb.2.1
      rw [show upd (s 1) k (aftI s k (s 1 k)) k = aftI s k (s 1 k) from if_pos rfl]
      exact ⟨by omega, this.2, hb.2.2⟩
    · rw [show upd (s 1) d (aftI s d (s 1 d)) k = s 1 k from if_neg hq]; exact hb
  · rw [hr 0 (by decide) (by decide) (by decide)]; exact h.2.1
  · rw [hr 10 (by decide) (by decide) (by decide)]; exact h.2.2.1
  · rw [hr 0 (by decide) (by decide) (by decide)]; exact h.2.2.2
theorem Bd.ptN {T : Int} {s : St} (h : Bd T s) : ∀ n, n ≤ 7 → Bd T (ptN n s)
  | 0, _ => h
  | n + 1, hn => (Bd.ptN h n (by omega)).pt (by omega)
theorem Bd.up0 {T T' : Int} {s : St} {k : Nat} {v : Int32} (h : Bd T s) (hk : k ≠ 1) (hT : T ≤ T') (h0 : 0 ≤ v.toInt) (h9 : v.toInt ≤ T') : Bd T' (up2 s 0 k v) := by
  refine ⟨fun d hd => ?_, ?_, ?_, fun j hj h1 => ?_⟩
  · rw [up2_o (by decide), up2_o (by decide), up2_o (by decide), up2_o (by decide)]; exact h.1 d hd
  · rw [up2_k (Ne.symm hk)]; exact h.2.1
  · rw [up2_o (by decide)]; exact h.2.2.1
  · by_cases hq : j = k
    · subst hq; rw [up2_kk]; exact ⟨h0, h9⟩
    · rw [up2_k hq]; have := h.2.2.2 j hj h1; omega
theorem Bd.t10 {T : Int} {s : St} (h : Bd T s) (hT : T ≤ 2000000000) : Bd (T + 10) (up2 s 0 0 (s 0 0 + 10)) := by
  have h0 := h.2.2.2 0 (by decide) (by decide)
  have e : (s 0 0 + 10).toInt = (s 0 0).toInt + 10 := by rw [i_add (by rw [i_10]; omega) (by rw [i_10]; omega), i_10]
  exact h.up0 (by decide) (by omega) (by rw [e]; omega) (by rw [e]; omega)
theorem Bd.ticks {T : Int} {s : St} (h : Bd T s) : ∀ n : Nat, T + 10 * n ≤ 2000000000 → Bd (T + 10 * n) (ticksS n s)
  | 0, _ => by rw [show T + 10 * ((0 : Nat) : Int) = T by omega]; exact h
  | n + 1, hn => by
    have h1 := (Bd.ticks h n (by omega)).t10 (by omega)
    have h2 := h1.ptN 7 (by omega)
    rw [show T + 10 * ((n + 1 : Nat) : Int) = T + 10 * (n : Int) + 10 by omega]
    exact h2
theorem Bd.mv {T : Int} {s : St} {d : Nat} {y : Int32} (h : Bd T s) (hd : d < 7) (h0 : 0 ≤ y.toInt) (h9 : y.toInt ≤ 99999) : Bd T (mvS s d y) := by
  have hr : ∀ r, r ≠ 1 → r ≠ 4 → r ≠ 5 → r ≠ 6 → mvS s d y r = s r := fun r h1 h4 h5 h6 => by
    unfold mvS
    split
    · rw [up2_o h5, up2_o h1]
    · rw [up2_o h6, up2_o h4, up2_o h1]
  have h1 : mvS s d y 1 = upd (s 1) d y := by
    unfold mvS
    split
    · rw [up2_o (by decide), up2_e]
    · rw [up2_o (by decide), up2_o (by decide), up2_e]
  refine ⟨fun k hk => ?_, ?_, ?_, ?_⟩
  · rw [hr 2 (by decide) (by decide) (by decide) (by decide), hr 7 (by decide) (by decide) (by decide) (by decide), hr 8 (by decide) (by decide) (by decide) (by decide), h1]
    have hb := h.1 k hk
    by_cases hq : k = d
    · subst hq
      rw [show upd (s 1) k y k = y from if_pos rfl]
      exact ⟨h0, h9, hb.2.2⟩
    · rw [show upd (s 1) d y k = s 1 k from if_neg hq]; exact hb
  · rw [hr 0 (by decide) (by decide) (by decide) (by decide)]; exact h.2.1
  · rw [hr 10 (by decide) (by decide) (by decide) (by decide)]; exact h.2.2.1
  · rw [hr 0 (by decide) (by decide) (by decide) (by decide)]; exact h.2.2.2
