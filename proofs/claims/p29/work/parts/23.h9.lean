theorem ptA_add {s : St} {x : Int32} : ∀ n, ptA n s x = x + ptA n s 0
  | 0 => (Int32.add_zero x).symm
  | n + 1 => by
    show ptA n s x + ptR (ptN n s) n = x + (ptA n s 0 + ptR (ptN n s) n)
    rw [ptA_add n, Int32.add_assoc]
def riI (s : St) (d : Nat) : Int32 := if s 1 d < s 0 1 - s 10 1 then s 0 1 - s 10 1 else if s 0 1 + s 10 1 < s 1 d then s 0 1 + s 10 1 else s 1 d
theorem ri_t {T : Int} {s : St} (h : Bd T s) : (s 0 1 - s 10 1).toInt = (s 0 1).toInt - (s 10 1).toInt ∧ (s 0 1 + s 10 1).toInt = (s 0 1).toInt + (s 10 1).toInt := by
  have h1 := h.2.1
  have h2 := h.2.2.1 1 (by omega)
  exact ⟨i_sub (by omega) (by omega), i_add (by omega) (by omega)⟩
theorem off_i {T : Int} {s : St} {d : Nat} (h : Bd T s) (hd : d < 7) : offB s d ↔ (s 1 d).toInt < (s 0 1).toInt - (s 10 1).toInt ∨ (s 0 1).toInt + (s 10 1).toInt < (s 1 d).toInt := by
  have hb := h.1 d hd
  have h1 := h.2.1
  have h2 := h.2.2.1 1 (by omega)
  have e1 : (s 0 1 - s 1 d).toInt = (s 0 1).toInt - (s 1 d).toInt := i_sub (by omega) (by omega)
  have e2 : (s 1 d - s 0 1).toInt = (s 1 d).toInt - (s 0 1).toInt := i_sub (by omega) (by omega)
  unfold offB distI
  by_cases h3 : s 1 d < s 0 1
  · rw [if_pos h3, i_lt, e1]
    rw [i_lt] at h3
    omega
  · rw [if_neg h3, i_lt, e2]
    rw [i_lt] at h3
    omega
theorem ri_eq {T : Int} {s : St} {d : Nat} (h : Bd T s) (hd : d < 7) : riI s d = if offB s d then nearI s d else s 1 d := by
  have hb := h.1 d hd
  have h1 := h.2.1
  have h2 := h.2.2.1 1 (by omega)
  have ht := ri_t h
  have ho := off_i h hd
  unfold riI nearI
  by_cases h3 : s 1 d < s 0 1 - s 10 1
  · have h3' := i_lt.mp h3
    rw [ht.1] at h3'
    rw [if_pos h3, if_pos (ho.mpr (Or.inl h3')), if_pos (i_lt.mpr (by omega))]
  · have h3' : ¬ (s 1 d).toInt < (s 0 1).toInt - (s 10 1).toInt := fun q => h3 (i_lt.mpr (by rw [ht.1]; exact q))
    rw [if_neg h3]
    by_cases h4 : s 0 1 + s 10 1 < s 1 d
    · have h4' := i_lt.mp h4
      rw [ht.2] at h4'
      rw [if_pos h4, if_pos (ho.mpr (Or.inr h4')), if_neg (fun q => by have := i_lt.mp q; omega)]
    · have h4' : ¬ (s 0 1).toInt + (s 10 1).toInt < (s 1 d).toInt := fun q => h4 (i_lt.mpr (by rw [ht.2]; exact q))
      rw [if_neg h4, if_neg (fun q => (ho.mp q).elim h3' h4')]
theorem ri_ok {T : Int} {s : St} {d : Nat} (h : Bd T s) (hd : d < 7) : 0 ≤ (riI s d).toInt ∧ (riI s d).toInt ≤ 99999 := by
  have hb := h.1 d hd
  have h1 := h.2.1
  have h2 := h.2.2.1 1 (by omega)
  have ht := ri_t h
  unfold riI
  split
  · rename_i h3
    rw [i_lt, ht.1] at h3
    rw [ht.1]; omega
  · split
    · rename_i h3
      rw [i_lt, ht.2] at h3
      rw [ht.2]; omega
    · omega
theorem ri_off {T : Int} {s : St} {d : Nat} (h : Bd T s) (hd : d < 7) : riI s d = s 1 d ↔ ¬ offB s d := by
  have hb := h.1 d hd
  have h1 := h.2.1
  have h2 := h.2.2.1 1 (by omega)
  have ht := ri_t h
  have ho := off_i h hd
  constructor
  · intro e q
    have q' := ho.mp q
    have e' := i_eq.mp e
    unfold riI at e'
    rcases q' with q' | q'
    · rw [if_pos (i_lt.mpr (by rw [ht.1]; exact q')), ht.1] at e'
      omega
    · rw [if_neg (fun q9 => by have := i_lt.mp q9; rw [ht.1] at this; omega), if_pos (i_lt.mpr (by rw [ht.2]; exact q')), ht.2] at e'
      omega
  · intro q
    rw [ri_eq h hd, if_neg q]
theorem mvS_id {s : St} {d : Nat} : mvS s d (s 1 d) = s := by
  unfold mvS
  rw [if_neg (fun q => by rw [i_lt] at q; omega), Int32.sub_self, Int32.sub_self, up2_same (s := s) (r := 1) (c := d) rfl, up2_add0, up2_add0]
theorem cor_s {T : Int} {s : St} {d : Nat} (h : Bd T s) (hd : d < 7) : mvS s d (riI s d) = if offB s d then mvS s d (nearI s d) else s := by
  rw [ri_eq h hd]
  by_cases q : offB s d
  · rw [if_pos q, if_pos q]
  · rw [if_neg q, if_neg q]; exact mvS_id
theorem cor_a {T : Int} {s : St} {d : Nat} {x : Int32} (h : Bd T s) (hd : d < 7) : x + absI (riI s d - s 1 d) = if offB s d then x + mvR s d (nearI s d) else x := by
  rw [abs_dist (ri_ok h hd).1 (h.1 d hd).1, ri_eq h hd]
  by_cases q : offB s d
  · rw [if_pos q, if_pos q]; unfold distI mvR; rfl
  · rw [if_neg q, if_neg q]
    unfold distI
    rw [if_neg (fun q => by rw [i_lt] at q; omega), Int32.sub_self, Int32.add_zero]
theorem Bd.cor {T : Int} {s : St} {d : Nat} (h : Bd T s) (hd : d < 7) : Bd T (mvS s d (riI s d)) := h.mv hd (ri_ok h hd).1 (ri_ok h hd).2
