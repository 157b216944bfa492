theorem i_ltne {x y : Int32} (h1 : x ≤ y) (h2 : ¬ x = y) : x < y := by
  rw [i_le] at h1
  rw [i_eq] at h2
  rw [i_lt]
  omega
theorem hear_w {s : St} {v : Int32} {k : Nat} : wordA (hearS s v) k = wordA s k := by
  unfold wordA wordF hearS
  split
  · rw [up2_o (by decide), up2_o (by decide), up2_o (by decide), up2_o (by decide)]
  · rw [up2_o (by decide), up2_o (by decide), up2_o (by decide), up2_o (by decide)]
theorem mid_A {T : Int} {s : St} (h : Bd T s) : midI (wordA s) (s 7) = midA (wordA s) (s 7) 7 0 :=
  (mm_mid (fun k hk => ⟨(h.1 k hk).2.2.2.2.1, (h.1 k hk).2.2.2.2.2.1⟩) (fun k hk => word_ok.1)).symm.trans (mm_midA (fun k hk => ⟨(h.1 k hk).2.2.2.2.1, (h.1 k hk).2.2.2.2.2.1⟩) (fun k hk => word_ok.1)).symm
theorem up2_back {s : St} {r w : Nat} {x : Int32} : up2 (up2 s r w x) r w (s r w) = s := by
  funext q k
  by_cases h : q = r
  · subst h
    by_cases h2 : k = w
    · subst h2; rw [up2_kk]
    · rw [up2_k h2, up2_k h2]
  · rw [up2_o h, up2_o h]
theorem word_up7 {s : St} {w : Nat} {x : Int32} : wordA (up2 s 7 w x) = wordA s := by
  funext k
  unfold wordA wordF
  rw [up2_o (by decide), up2_o (by decide)]
theorem Bd.wt {T : Int} {s : St} {w : Nat} {x : Int32} (h : Bd T s) (hw : w < 7) (hx : 0 ≤ x.toInt ∧ x.toInt ≤ 9) : Bd T (up2 s 7 w x) := by
  refine ⟨fun d hd => ?_, ?_, ?_, ?_⟩
  · have hd' := h.1 d hd
    rw [up2_o (show 1 ≠ 7 by decide), up2_o (show 2 ≠ 7 by decide), up2_o (show 8 ≠ 7 by decide), up2_e]
    by_cases hq : d = w
    · subst hq
      rw [show upd (s 7) d x d = x from if_pos rfl]
      exact ⟨hd'.1, hd'.2.1, hd'.2.2.1, hd'.2.2.2.1, hx.1, hx.2, hd'.2.2.2.2.2.2⟩
    · rw [show upd (s 7) w x d = s 7 d from if_neg hq]; exact hd'
  · rw [up2_o (by decide)]; exact h.2.1
  · rw [up2_o (by decide)]; exact h.2.2.1
  · rw [up2_o (by decide)]; exact h.2.2.2
theorem mm_nn {s : St} {g : Nat → Int32} : ∀ n, ¬ mmF (wordA s) g n = -1 → 0 ≤ (mmF (wordA s) g n).toInt
  | 0, h => absurd rfl h
  | n + 1, h => by
    have h2 := word_ok (s := s) (w := n)
    have e : mmF (wordA s) g (n + 1) = if okB (wordA s) g n ∧ (mmF (wordA s) g n = -1 ∨ wordA s n < mmF (wordA s) g n) then wordA s n else mmF (wordA s) g n := rfl
    rw [e] at h ⊢
    split
    · exact h2.1
    · rename_i hc
      rw [if_neg hc] at h
      exact mm_nn n h
theorem mid_mm {T : Int} {s : St} (h : Bd T s) : mmF (wordA s) (s 7) 7 = midI (wordA s) (s 7) := mm_mid (fun k hk => ⟨(h.1 k hk).2.2.2.2.1, (h.1 k hk).2.2.2.2.2.1⟩) (fun k hk => word_ok.1)
theorem mid_nn {T : Int} {s : St} (h : Bd T s) (h1 : ¬ midI (wordA s) (s 7) = -1) : 0 ≤ (midI (wordA s) (s 7)).toInt := by
  rw [← mid_mm h] at h1 ⊢
  exact mm_nn 7 h1
theorem midW_e {s : St} {w : Nat} {x : Int32} : midW s w x = midI (wordA (up2 s 7 w x)) (up2 s 7 w x 7) := by unfold midW; rw [word_up7, up2_e]
theorem midW_nn {T : Int} {s : St} {w : Nat} (h : Bd T s) (hw : w < 7) (h1 : ¬ midW s w 0 = -1) : 0 ≤ (midW s w 0).toInt := by
  rw [midW_e] at h1 ⊢
  exact mid_nn (h.wt hw (by decide)) h1
theorem piv_fin {s : St} {bv xv : Int32} (hv : pvF s (midI (wordA s) (s 7)) 7 = (bv, xv)) (h2 : midI (wordA s) (s 7) = -1 → bv = -1) : bv = pivI s := by
  unfold pivI
  by_cases h : midI (wordA s) (s 7) = -1
  · rw [if_pos h]; exact h2 h
  · rw [if_neg h, hv]
theorem nI_19 {q : Nat} (h : q ≤ 9) : 0 ≤ (nI q).toInt ∧ (nI q).toInt ≤ 9 := by
  have e : (nI q).toInt = (q : Int) := Int32.toInt_ofNat_of_lt (by omega)
  rw [e]; omega
theorem dist_ok {x y : Int32} {T : Int} (h1 : 0 ≤ x.toInt ∧ x.toInt ≤ 99999) (h2 : 0 ≤ y.toInt ∧ y.toInt ≤ T) (hT : T ≤ 2000000000) : 0 ≤ (distI x y).toInt ∧ (distI x y).toInt ≤ T + 99999 := by
  have e1 : (y - x).toInt = y.toInt - x.toInt := i_sub (by omega) (by omega)
  have e2 : (x - y).toInt = x.toInt - y.toInt := i_sub (by omega) (by omega)
  unfold distI
  split
  · rename_i h; rw [i_lt] at h; rw [e1]; omega
  · rename_i h; rw [i_lt] at h; rw [e2]; omega
theorem errC_ok {T : Int} {s : St} (h : Bd T s) (hT : T ≤ 200000000) : ∀ n : Nat, n ≤ 7 → 0 ≤ (errC s n).toInt ∧ (errC s n).toInt ≤ (n : Int) * 200099999
  | 0, _ => ⟨by show 0 ≤ (0 : Int32).toInt; decide, by show (0 : Int32).toInt ≤ ((0 : Nat) : Int) * 200099999; decide⟩
  | n + 1, hn => by
    have h1 := errC_ok h hT n (by omega)
    have h2 := dist_ok (x := s 1 n) (y := s 0 0) (T := T) ⟨(h.1 n (by omega)).1, (h.1 n (by omega)).2.1⟩ (h.2.2.2 0 (by decide) (by decide)) (by omega)
    have h3 : ((n : Int)) ≤ 6 := by omega
    show 0 ≤ (errC s n + errI s n).toInt ∧ _
    have e : (errC s n + errI s n).toInt = (errC s n).toInt + (errI s n).toInt := i_add (by unfold errI; omega) (by unfold errI; omega)
    show _ ∧ (errC s n + errI s n).toInt ≤ _
    rw [e]
    unfold errI
    omega
