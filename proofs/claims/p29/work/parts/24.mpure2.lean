/-! the reference's saving; its middle; its vote -/
theorem stN_at {f g : Nat → Int32} {k j : Nat} : ∀ n, stN f g k n j = if 69 * k ≤ j ∧ j < 69 * k + n then g (j - 69 * k) else f j := by
  intro n
  induction n with
  | zero => rw [if_neg (by omega)]; rfl
  | succ n ih =>
    show (if j = 69 * k + n then g n else stN f g k n j) = _
    by_cases h : j = 69 * k + n
    · rw [if_pos h, if_pos (by omega), show j - 69 * k = n by omega]
    · rw [if_neg h, ih]
      by_cases h2 : 69 * k ≤ j ∧ j < 69 * k + n
      · rw [if_pos h2, if_pos (by omega)]
      · rw [if_neg h2, if_neg (by omega)]
theorem shN_at {f : Nat → Int32} : ∀ n j, shN f n j = if j < n then f (69 + j) else f j := by
  intro n
  induction n with
  | zero => intro j; rw [if_neg (by omega)]; rfl
  | succ n ih =>
    intro j
    show (if j = n then shN f n (69 + n) else shN f n j) = _
    rw [ih (69 + n), ih j, if_neg (show ¬ 69 + n < n by omega)]
    by_cases h : j = n
    · rw [if_pos h, if_pos (by omega), h]
    · rw [if_neg h]
      by_cases h2 : j < n
      · rw [if_pos h2, if_pos (by omega)]
      · rw [if_neg h2, if_neg (by omega)]
theorem unN_at {f g : Nat → Int32} {k j : Nat} : ∀ n, j < n → unN f g k n j = g (69 * k + j) := by
  intro n
  induction n with
  | zero => intro h; omega
  | succ n ih =>
    intro h
    show (if j = n then g (69 * k + n) else unN f g k n j) = _
    by_cases h2 : j = n
    · rw [if_pos h2, h2]
    · rw [if_neg h2, ih (by omega)]
def svH (hf : Nat → St) (kn : Nat) (s : St) (k : Nat) : St := if kn = 6 then (if k < 5 then hf (k + 1) else s) else (if k = kn then s else hf k)
theorem svM_cv {D : va_G} {H : Heap} {cI : ClassId} {b : Nat → Nat} {s kp : St} {hf : Nat → St} {sc ad bf : Nat → Int32} {kn : Nat} (hkn : kn ≤ 6) (hP : HP D 6 b (emC cI b (svM (mdl s kp hf sc ad bf) kn)) H) : HP D 6 b (emC cI b (mdl s kp (svH hf kn s) (upd sc 0 (nI (svQ kn + 1))) ad bf)) H := by
  by_cases h : kn = 6
  · subst h
    refine HP.cong (cA := cI) hP (fun k hk => ?_)
    unfold svM
    rw [if_pos rfl]
    match k, hk with
    | 0, _ => exact Or.inl rfl
    | 1, _ => exact Or.inl rfl
    | 2, _ => exact Or.inl rfl
    | 3, _ =>
      refine Or.inr ⟨414, _, _, rfl, rfl, fun j hj => ?_⟩
      show stN (shN (mdl s kp hf sc ad bf 3) 345) (mdl s kp hf sc ad bf 1) 5 69 j = fl (svH hf 6 s (j / 69)) (j % 69)
      rw [stN_at, shN_at]
      unfold svH
      rw [if_pos rfl]
      by_cases h1 : j < 345
      · rw [if_neg (by omega), if_pos h1, if_pos (by omega)]
        show fl (hf ((69 + j) / 69)) ((69 + j) % 69) = _
        rw [show (69 + j) / 69 = j / 69 + 1 by omega, show (69 + j) % 69 = j % 69 by omega]
      · rw [if_pos (by omega), if_neg (by omega)]
        show fl s (j - 69 * 5) = fl s (j % 69)
        rw [show j - 69 * 5 = j % 69 by omega]
    | 4, _ => exact Or.inl rfl
    | 5, _ => exact Or.inl rfl
    | n + 6, hk => exact absurd hk (by omega)
  · refine HP.cong (cA := cI) hP (fun k hk => ?_)
    unfold svM
    rw [if_neg h, show svQ kn = kn from if_neg h]
    match k, hk with
    | 0, _ => exact Or.inl rfl
    | 1, _ => exact Or.inl rfl
    | 2, _ => exact Or.inl rfl
    | 3, _ =>
      refine Or.inr ⟨414, _, _, rfl, rfl, fun j hj => ?_⟩
      show stN (mdl s kp hf sc ad bf 3) (mdl s kp hf sc ad bf 1) kn 69 j = fl (svH hf kn s (j / 69)) (j % 69)
      rw [stN_at]
      unfold svH
      rw [if_neg h]
      by_cases h1 : 69 * kn ≤ j ∧ j < 69 * kn + 69
      · rw [if_pos h1, if_pos (by omega)]
        show fl s (j - 69 * kn) = fl s (j % 69)
        rw [show j - 69 * kn = j % 69 by omega]
      · rw [if_neg h1, if_neg (by omega)]
        rfl
    | 4, _ => exact Or.inl rfl
    | 5, _ => exact Or.inl rfl
    | n + 6, hk => exact absurd hk (by omega)
def beL (f g : Nat → Int32) (x : Int32) : Nat → Int32
  | 0 => 0
  | n + 1 => beL f g x n + (if x < f n then 0 else g n)
abbrev okB (f g : Nat → Int32) (i : Nat) : Prop := 0 < g i ∧ sumN g 7 ≤ 2 * beL f g (f i) 7
def mmF (f g : Nat → Int32) : Nat → Int32
  | 0 => -1
  | n + 1 => if okB f g n ∧ (mmF f g n = -1 ∨ f n < mmF f g n) then f n else mmF f g n
theorem mm_ok {s : St} {g : Nat → Int32} : ∀ n, -1 ≤ (mmF (wordA s) g n).toInt ∧ (mmF (wordA s) g n).toInt ≤ 99999
  | 0 => by
    show -1 ≤ (-1 : Int32).toInt ∧ (-1 : Int32).toInt ≤ 99999
    decide
  | n + 1 => by
    have h := mm_ok (s := s) (g := g) n
    have h2 := word_ok (s := s) (w := n)
    show -1 ≤ (if okB (wordA s) g n ∧ (mmF (wordA s) g n = -1 ∨ wordA s n < mmF (wordA s) g n) then wordA s n else mmF (wordA s) g n).toInt ∧ (if okB (wordA s) g n ∧ (mmF (wordA s) g n = -1 ∨ wordA s n < mmF (wordA s) g n) then wordA s n else mmF (wordA s) g n).toInt ≤ 99999
    split
    · omega
    · exact h
theorem hear_eq {s : St} {v p q : Int32} (hp : p = if s 0 1 < v then 0 else 1) (hq : q = if s 0 1 < v then v else s 0 1) : up2 (up2 (up2 s 0 2 (s 0 2 + 1)) 0 3 (s 0 3 + p)) 0 1 q = hearS s v := by
  unfold hearS
  by_cases h : s 0 1 < v
  · rw [if_pos h, hp, hq, if_pos h, if_pos h]
    congr 1
    exact up2_same (by rw [Int32.add_zero]; exact (up2_k (by decide)).symm)
  · rw [if_neg h, hp, hq, if_neg h, if_neg h]
    exact up2_same (by rw [up2_k (by decide), up2_k (by decide)])
theorem Bd.hear {T : Int} {s : St} {v : Int32} (h : Bd T s) (hT : T ≤ 2000000000) (h9 : v.toInt ≤ 99999) : Bd (T + 1) (hearS s v) := by
  have h2 := h.2.2.2 2 (by decide) (by decide)
  have h3 := h.2.2.2 3 (by decide) (by decide)
  have e2 : (s 0 2 + 1).toInt = (s 0 2).toInt + 1 := by rw [i_add (by rw [i_1]; omega) (by rw [i_1]; omega), i_1]
  have e3 : (s 0 3 + 1).toInt = (s 0 3).toInt + 1 := by rw [i_add (by rw [i_1]; omega) (by rw [i_1]; omega), i_1]
  have hA : Bd (T + 1) (up2 s 0 2 (s 0 2 + 1)) := h.up0 (by decide) (by omega) (by rw [e2]; omega) (by rw [e2]; omega)
  unfold hearS
  split
  · rename_i hv
    rw [i_lt] at hv
    refine ⟨fun d hd => ?_, ?_, ?_, fun j hj h1 => ?_⟩
    · have := hA.1 d hd
      rw [up2_o (by decide), up2_o (by decide), up2_o (by decide), up2_o (by decide)]; exact this
    · rw [up2_kk]; have := h.2.1; omega
    · rw [up2_o (by decide)]; exact hA.2.2.1
    · rw [up2_k h1]; exact hA.2.2.2 j hj h1
  · exact hA.up0 (by decide) (by omega) (by rw [e3]; omega) (by rw [e3]; omega)
theorem Bd.less {T : Int} {s : St} {w : Nat} (h : Bd T s) (hw : w < 7) : Bd T (lessS s w) := by
  unfold lessS
  split
  · rename_i hv
    rw [i_lt, i_0] at hv
    have hb := h.1 w hw
    have e : (s 7 w - 1).toInt = (s 7 w).toInt - 1 := by rw [i_sub (by rw [i_1]; omega) (by rw [i_1]; omega), i_1]
    refine ⟨fun d hd => ?_, ?_, ?_, ?_⟩
    · have hd' := h.1 d hd
      rw [up2_o (by decide), up2_o (by decide), up2_o (by decide), up2_o (by decide), up2_o (show 7 ≠ 9 by decide), up2_o (show 8 ≠ 9 by decide), up2_o (show 8 ≠ 7 by decide)]
      rw [up2_e]
      by_cases hq : d = w
      · subst hq
        rw [show upd (s 7) d (s 7 d - 1) d = s 7 d - 1 from if_pos rfl, e]
        omega
      · rw [show upd (s 7) w (s 7 w - 1) d = s 7 d from if_neg hq]; exact hd'
    · rw [up2_o (by decide), up2_o (by decide)]; exact h.2.1
    · rw [up2_o (by decide), up2_o (by decide)]; exact h.2.2.1
    · rw [up2_o (by decide), up2_o (by decide)]; exact h.2.2.2
  · exact h
theorem less_w {s : St} {w k : Nat} : wordA (lessS s w) k = wordA s k := by
  unfold wordA wordF lessS
  split
  · rw [up2_o (by decide), up2_o (by decide), up2_o (by decide), up2_o (by decide)]
  · rfl
