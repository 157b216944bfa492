/-! p29: what the law asks, purely -/
def Gd (T : Int) (s : St) : Prop := Bd T s ∧ (∀ d, d < 7 → accI s d = s 1 d) ∧ (s 0 3).toInt ≤ (s 0 2).toInt ∧ (s 0 2).toInt * 1000 ≤ T ∧ (∀ d, d < 7 → 0 ≤ (s 6 d).toInt ∧ (s 6 d).toInt ≤ 2 * T)
def OKG (T : Int) (u : WT) (s : St) : Prop := ∃ sz hf, UOk u s sz hf ∧ Gd T s ∧ GH (Gd T) sz hf
theorem GH.sv2 {P : St → Prop} {sz : Nat} {hf : Nat → St} {s t : St} (h : GH P sz hf) (h6 : sz ≤ 6) (hs : P s) : GH P (svQ (svQ sz + 1) + 1 - 1 - 1) (svH (svH hf sz s) (svQ sz + 1) t) := by
  have h1 := h.sv h6 hs
  intro k hk
  have hq := svQ_lt h6
  unfold svQ at hk
  by_cases h2 : svQ sz + 1 = 6
  · have hk4 : k < 4 := by
      have : (if sz = 6 then 5 else sz) + 1 = 6 := h2
      rw [if_pos this] at hk; omega
    unfold svH
    rw [if_pos h2, if_pos (by omega)]
    exact h1 (k + 1) (by omega)
  · have hk4 : k < svQ sz := by
      have h3 : ¬ (if sz = 6 then 5 else sz) + 1 = 6 := h2
      rw [if_neg h3] at hk
      show k < (if sz = 6 then 5 else sz)
      omega
    rw [show svH (svH hf sz s) (svQ sz + 1) t k = (if svQ sz + 1 = 6 then (if k < 5 then svH hf sz s (k + 1) else t) else (if k = svQ sz + 1 then t else svH hf sz s k)) from rfl, if_neg h2, if_neg (by omega)]
    exact h1 k (by omega)
section GD0
variable {T : Int} {s : St} {d q : Nat}
theorem Gd.mono {T' : Int} (h : Gd T s) (hT : T ≤ T') : Gd T' s := ⟨h.1.mono hT, h.2.1, h.2.2.1, by have := h.2.2.2.1; omega, fun d hd => by have := h.2.2.2.2 d hd; omega⟩
theorem Gd.n1 (h : Gd T s) (hd : d < 7) : 0 ≤ (s 1 d).toInt := (h.1.1 d hd).1
theorem Gd.n01 (h : Gd T s) : 0 ≤ (s 0 1).toInt := h.1.2.1.1
theorem Gd.n00 (h : Gd T s) : 0 ≤ (s 0 0).toInt := (h.1.2.2.2 0 (by decide) (by decide)).1
theorem Gd.n02 (h : Gd T s) : 0 ≤ (s 0 2).toInt := (h.1.2.2.2 2 (by decide) (by decide)).1
theorem Gd.n03 (h : Gd T s) : 0 ≤ (s 0 3).toInt := (h.1.2.2.2 3 (by decide) (by decide)).1
theorem Gd.acc (h : Gd T s) (hd : d < 7) : accI s d = s 1 d := h.2.1 d hd
theorem Gd.g1 (h : Gd T s) (hd : d < 7) : ¬ s 1 d < 0 ∧ ¬ 99999 < s 1 d := by
  have := h.1.1 d hd
  rw [i_lt, i_lt, i_0, i_9]; omega
theorem Gd.g7 (h : Gd T s) (hd : d < 7) : ¬ s 7 d < 0 ∧ ¬ 10 ≤ s 7 d := by
  have := h.1.1 d hd
  rw [i_lt, i_le, i_0, i_10]; omega
theorem Gd.g7n (h : Gd T s) (hd : d < 7) : 0 ≤ (s 7 d).toInt := (h.1.1 d hd).2.2.2.2.1
theorem Gd.g2 (h : Gd T s) (hd : d < 7) : (-5) ≤ s 2 d := by
  have := h.1.1 d hd
  rw [i_le, show (-5 : Int32).toInt = -5 by decide]; omega
theorem Gd.g8 (h : Gd T s) (hd : d < 7) : ¬ s 8 d < (-60) ∧ s 8 d ≤ 60 := by
  have := h.1.1 d hd
  rw [i_lt, i_le, show (-60 : Int32).toInt = -60 by decide, show (60 : Int32).toInt = 60 by decide]; omega
theorem Gd.n10 (h : Gd T s) (hq : q < 2) : 0 ≤ (s 10 q).toInt := (h.1.2.2.1 q hq).1
theorem Gd.b6 (h : Gd T s) : ∀ d, d < 7 → 0 ≤ (s 6 d).toInt ∧ (s 6 d).toInt ≤ 2 * T := h.2.2.2.2
end GD0
/-! numbers -/
theorem i_0le0 : 0 ≤ (0 : Int32).toInt := by decide
theorem nI_int {k : Nat} (h : k < 2147483648) : (nI k).toInt = (k : Int) := Int32.toInt_ofNat_of_lt (by omega)
theorem nI_n0 {k : Nat} (h : k < 1000000) : ¬ nI k < 0 := by rw [i_lt, i_0, nI_int (by omega)]; omega
theorem nI_0le {k : Nat} (h : k < 1000000) : 0 ≤ (nI k).toInt := by rw [nI_int (by omega)]; omega
theorem nI_le9 {k : Nat} (h : k ≤ 9) : nI k ≤ 9 := by rw [i_le, nI_int (by omega), show (9 : Int32).toInt = 9 by decide]; omega
theorem nI_le99 {k : Nat} (h : k ≤ 99) : nI k ≤ 99 := by rw [i_le, nI_int (by omega), show (99 : Int32).toInt = 99 by decide]; omega
theorem nI_le99999 {k : Nat} (h : k ≤ 99999) : nI k ≤ 99999 := by rw [i_le, nI_int (by omega), i_9]; omega
theorem dr_ok : ∀ {k : Nat}, k < 11 → ¬ nI k - 5 < (-5) ∧ nI k - 5 ≤ 5 := by
  have h : ∀ k : Nat, k < 11 → ¬ nI k - 5 < (-5) ∧ nI k - 5 ≤ 5 := by decide +kernel
  exact fun {k} => h k
theorem li_ok : ∀ {k : Nat}, k < 121 → ¬ nI k - 60 < (-60) ∧ nI k - 60 ≤ 60 := by
  have h : ∀ k : Nat, k < 121 → ¬ nI k - 60 < (-60) ∧ nI k - 60 ≤ 60 := by decide +kernel
  exact fun {k} => h k
theorem and_n (x : Int32) (m : Nat) (hm : m < 2147483648) : x &&& nI m = nI (x.toBitVec.toNat &&& m) := by
  rw [← Int32.toBitVec_inj, Int32.toBitVec_and]
  show x.toBitVec &&& (Int32.ofNat m).toBitVec = (Int32.ofNat (x.toBitVec.toNat &&& m)).toBitVec
  rw [Int32.toBitVec_ofNat', Int32.toBitVec_ofNat']
  apply BitVec.eq_of_toNat_eq
  rw [BitVec.toNat_and, BitVec.toNat_ofNat, BitVec.toNat_ofNat, Nat.mod_eq_of_lt (by omega), Nat.mod_eq_of_lt]
  exact Nat.lt_of_le_of_lt Nat.and_le_right (by omega)
theorem and1 (x : Int32) : ∃ q, q < 2 ∧ x &&& 1 = nI q := ⟨_, Nat.lt_of_le_of_lt Nat.and_le_right (by decide), and_n x 1 (by decide)⟩
def dQ (v : Int32) : Nat := v.toBitVec.toNat &&& 15
theorem and15 (v : Int32) : ∃ q, q < 16 ∧ v &&& 15 = nI q ∧ dQ v = q := ⟨_, Nat.lt_of_le_of_lt Nat.and_le_right (by decide), and_n v 15 (by decide), rfl⟩
theorem low_ne {n : Nat} (hn : 0 < n ∧ n < 1000) : ¬ nI n = 0 := fun h => by
  have := (nI_eq2 (p := n) (q := 0) rfl rfl (by omega) (by omega)).mp h
  omega
theorem low_ok {x : Int32} {n : Nat} (hn : 0 < n ∧ n < 1000) : ∃ k, k < n ∧ (x &&& 2147483647) - (x &&& 2147483647) / nI n * nI n = nI k := by
  have e : x &&& 2147483647 = nI (x.toBitVec.toNat &&& 2147483647) := and_n x 2147483647 (by decide)
  rw [e]
  exact ⟨_, Nat.mod_lt _ hn.1, nI_rem2 rfl rfl (Nat.lt_of_le_of_lt Nat.and_le_right (by decide)) hn.1 (by omega)⟩
theorem nat_of {x : Int32} (h : 0 ≤ x.toInt) : ∃ n : Nat, x = nI n ∧ (n : Int) = x.toInt ∧ n < 2147483648 := by
  have h1 := Int32.toInt_lt x
  refine ⟨x.toInt.toNat, ?_, by omega, by omega⟩
  rw [i_eq, nI_int (by omega)]; omega
theorem d60 {x : Int32} (h : 0 ≤ x.toInt) : (x / 60).toInt = x.toInt / 60 := by
  rw [Int32.toInt_div_of_ne_right _ _ (by decide), show (60 : Int32).toInt = 60 by decide, Int.tdiv_eq_ediv_of_nonneg h]
theorem sub60 {x y : Int32} (hx : 0 ≤ x.toInt) (hxy : x.toInt ≤ y.toInt) (hy : y.toInt ≤ 99999) : 0 ≤ (y / 60 - x / 60).toInt ∧ (y / 60 - x / 60).toInt ≤ 1667 ∧ (x / 60 < y / 60 → 0 < (y / 60 - x / 60).toInt) ∧ (¬ x / 60 < y / 60 → y / 60 - x / 60 = 0) := by
  have h1 := d60 hx
  have h2 := d60 (x := y) (by omega)
  have h3 : (y / 60 - x / 60).toInt = y.toInt / 60 - x.toInt / 60 := by rw [i_sub (by omega) (by omega), h1, h2]
  refine ⟨by omega, by omega, fun h => ?_, fun h => ?_⟩
  · rw [i_lt] at h; omega
  · rw [i_lt] at h
    rw [i_eq, i_0]; omega
/-! ticks -/
theorem tk_0 {s : St} {k : Nat} (hk : k ≠ 0) : ∀ n, ticksS n s 0 k = s 0 k
  | 0 => rfl
  | n + 1 => by
    show ptN 7 (up2 (ticksS n s) 0 0 (ticksS n s 0 0 + 10)) 0 k = s 0 k
    rw [ptN_r (by decide) (by decide) (by decide), up2_k hk, tk_0 hk n]
theorem pt_3 {s : St} {d : Nat} : ptS s d 3 = upd (s 3) d (s 3 d + (aftI s d (s 1 d) - s 1 d)) := by unfold ptS; rw [up2_o (by decide), up2_e, up2_o (by decide)]
theorem pt_6 {s : St} {d : Nat} : ptS s d 6 = upd (s 6) d (s 6 d + (aftI s d (s 1 d) / 60 - s 1 d / 60)) := by unfold ptS; rw [up2_e, up2_o (by decide), up2_o (by decide)]
theorem ptN_3 {s : St} {d : Nat} : ∀ n, ptN n s 3 d = if d < n then s 3 d + (aftI s d (s 1 d) - s 1 d) else s 3 d
  | 0 => (if_neg (by omega)).symm
  | n + 1 => by
    show ptS (ptN n s) n 3 d = _
    rw [pt_3]
    by_cases h : d = n
    · subst h
      rw [show upd (ptN d s 3) d (ptN d s 3 d + (aftI (ptN d s) d (ptN d s 1 d) - ptN d s 1 d)) d = ptN d s 3 d + (aftI (ptN d s) d (ptN d s 1 d) - ptN d s 1 d) from if_pos rfl, if_pos (by omega), ptN_3 d, if_neg (by omega), ptN_1, if_neg (by omega), aft_r (ptN_r (by decide) (by decide) (by decide) d)]
    · rw [show upd (ptN n s 3) n (ptN n s 3 n + (aftI (ptN n s) n (ptN n s 1 n) - ptN n s 1 n)) d = ptN n s 3 d from if_neg h, ptN_3 n]
      by_cases h2 : d < n
      · rw [if_pos h2, if_pos (by omega)]
      · rw [if_neg h2, if_neg (by omega)]
theorem ptN_6 {s : St} {d : Nat} : ∀ n, ptN n s 6 d = if d < n then s 6 d + (aftI s d (s 1 d) / 60 - s 1 d / 60) else s 6 d
  | 0 => (if_neg (by omega)).symm
  | n + 1 => by
    show ptS (ptN n s) n 6 d = _
    rw [pt_6]
    by_cases h : d = n
    · subst h
      rw [show upd (ptN d s 6) d (ptN d s 6 d + (aftI (ptN d s) d (ptN d s 1 d) / 60 - ptN d s 1 d / 60)) d = ptN d s 6 d + (aftI (ptN d s) d (ptN d s 1 d) / 60 - ptN d s 1 d / 60) from if_pos rfl, if_pos (by omega), ptN_6 d, if_neg (by omega), ptN_1, if_neg (by omega), aft_r (ptN_r (by decide) (by decide) (by decide) d)]
    · rw [show upd (ptN n s 6) n (ptN n s 6 n + (aftI (ptN n s) n (ptN n s 1 n) / 60 - ptN n s 1 n / 60)) d = ptN n s 6 d from if_neg h, ptN_6 n]
      by_cases h2 : d < n
      · rw [if_pos h2, if_pos (by omega)]
      · rw [if_neg h2, if_neg (by omega)]
theorem r_tel {a b c x y : Int32} (h : a = b + (x - c)) : a + (y - x) = b + (y - c) := by subst h; grind
theorem tk_3 {s : St} {d : Nat} (hd : d < 7) : ∀ n, ticksS n s 3 d = s 3 d + (ticksS n s 1 d - s 1 d)
  | 0 => by show s 3 d = s 3 d + (s 1 d - s 1 d); rw [Int32.sub_self, Int32.add_zero]
  | n + 1 => by
    rw [tk_1 hd]
    show ptN 7 (up2 (ticksS n s) 0 0 (ticksS n s 0 0 + 10)) 3 d = _
    rw [ptN_3, if_pos hd, up2_o (by decide), up2_o (by decide), aft_r (s := s) (by rw [up2_o (by decide)]; exact tk_r (by decide) (by decide) (by decide) (by decide) n)]
    exact r_tel (tk_3 hd n)
theorem tk_6 {s : St} {d : Nat} (hd : d < 7) : ∀ n, ticksS n s 6 d = s 6 d + (ticksS n s 1 d / 60 - s 1 d / 60)
  | 0 => by show s 6 d = s 6 d + (s 1 d / 60 - s 1 d / 60); rw [Int32.sub_self, Int32.add_zero]
  | n + 1 => by
    rw [tk_1 hd]
    show ptN 7 (up2 (ticksS n s) 0 0 (ticksS n s 0 0 + 10)) 6 d = _
    rw [ptN_6, if_pos hd, up2_o (by decide), up2_o (by decide), aft_r (s := s) (by rw [up2_o (by decide)]; exact tk_r (by decide) (by decide) (by decide) (by decide) n)]
    exact r_tel (tk_6 hd n)
theorem tk_rng {T : Int} {s : St} {d : Nat} (h : Bd T s) (hd : d < 7) : ∀ n, (s 1 d).toInt ≤ (ticksS n s 1 d).toInt ∧ (ticksS n s 1 d).toInt ≤ 99999
  | 0 => ⟨Int.le_refl _, (h.1 d hd).2.1⟩
  | n + 1 => by
    have ih := tk_rng h hd n
    have h0 := (h.1 d hd).1
    rw [tk_1 hd]
    have := aft_ok h hd (x := ticksS n s 1 d) (by omega) ih.2
    omega
theorem r_acc {a b c e x y : Int32} (h : a + c - e = b) (h3 : x = a + (y - b)) : x + c - e = y := by subst h3; subst h; grind
theorem Gd.tick {T : Int} {s : St} {n : Nat} (h : Gd T s) (hn : n ≤ 40) (hT : T ≤ 1000000) : Gd (T + 1000) (ticksS n s) := by
  have hB := h.1.ticks n (by omega)
  refine ⟨hB.mono (by omega), fun d hd => ?_, ?_, ?_, fun d hd => ?_⟩
  · unfold accI
    rw [tk_r (r := 4) (by decide) (by decide) (by decide) (by decide) n, tk_r (r := 5) (by decide) (by decide) (by decide) (by decide) n]
    exact r_acc (h.2.1 d hd) (tk_3 hd n)
  · rw [tk_0 (by decide), tk_0 (by decide)]; exact h.2.2.1
  · rw [tk_0 (by decide)]; have := h.2.2.2.1; omega
  · have h1 := tk_rng h.1 hd n
    have h2 := sub60 (h.n1 hd) h1.1 h1.2
    have h3 := h.b6 d hd
    rw [tk_6 hd, i_add (by omega) (by omega)]
    omega
theorem tk_told {s : St} {n : Nat} : (s 0 1).toInt ≤ (ticksS n s 0 1).toInt := by rw [tk_0 (by decide)]; exact Int.le_refl _
theorem ptR_b {T : Int} {s : St} {d : Nat} (h : Bd T s) (hd : d < 7) : 0 ≤ (ptR s d).toInt ∧ (ptR s d).toInt ≤ 1667 := by
  have h1 := aft_ok h hd (h.1 d hd).1 (h.1 d hd).2.1
  have h2 := sub60 (h.1 d hd).1 h1.1 h1.2
  exact ⟨h2.1, h2.2.1⟩
theorem pta_b {T : Int} {s : St} {x : Int32} (h : Bd T s) (h0 : 0 ≤ x.toInt) (h9 : x.toInt ≤ 2000000) : ∀ m : Nat, m ≤ 7 → x.toInt ≤ (ptA m s x).toInt ∧ (ptA m s x).toInt ≤ x.toInt + 1667 * (m : Int)
  | 0, _ => ⟨Int.le_refl _, by show x.toInt ≤ _; omega⟩
  | m + 1, hm => by
    have ih := pta_b h h0 h9 m (by omega)
    have h1 := ptR_b (h.ptN m (by omega)) (d := m) (by omega)
    show x.toInt ≤ (ptA m s x + ptR (ptN m s) m).toInt ∧ (ptA m s x + ptR (ptN m s) m).toInt ≤ x.toInt + 1667 * ((m + 1 : Nat) : Int)
    rw [i_add (by omega) (by omega)]
    omega
theorem tkA_b {T : Int} {s : St} (h : Bd T s) (hT : T ≤ 1000000) : ∀ n : Nat, n ≤ 150 → 0 ≤ (ticksA n s).toInt ∧ (ticksA n s).toInt ≤ 11669 * (n : Int)
  | 0, _ => by show 0 ≤ (0 : Int32).toInt ∧ (0 : Int32).toInt ≤ _; rw [i_0]; omega
  | n + 1, hn => by
    have ih := tkA_b h hT n (by omega)
    have h1 := pta_b (x := ticksA n s) ((h.ticks n (by omega)).t10 (by omega)) (by omega) (by omega) 7 (Nat.le_refl _)
    show 0 ≤ (ptA 7 (up2 (ticksS n s) 0 0 (ticksS n s 0 0 + 10)) (ticksA n s)).toInt ∧ (ptA 7 (up2 (ticksS n s) 0 0 (ticksS n s 0 0 + 10)) (ticksA n s)).toInt ≤ 11669 * ((n + 1 : Nat) : Int)
    omega
theorem tkA_ge {T : Int} {s : St} {n : Nat} (h : Gd T s) (hT : T ≤ 1000000) (hn : n ≤ 150) : 0 ≤ (ticksA n s).toInt := (tkA_b h.1 hT n hn).1
theorem tkA_nn {T : Int} {s : St} {n : Nat} (h : Bd T s) (hT : T ≤ 1000000) (hn : n ≤ 150) : ¬ ticksA n s < 0 := by
  have := (tkA_b h hT n hn).1
  rw [i_lt, i_0]; omega
theorem pta_pos {T : Int} {s : St} {d : Nat} (h : Bd T s) (hd : d < 7) (hp : 0 < (ptR s d).toInt) : ∀ m : Nat, m ≤ 7 → d < m → 0 < (ptA m s 0).toInt
  | 0, _, h0 => absurd h0 (by omega)
  | m + 1, hm, hdm => by
    have h1 := ptR_b (h.ptN m (by omega)) (d := m) (by omega)
    have h2 := pta_b (x := 0) h (by decide) (by decide) m (by omega)
    rw [i_0] at h2
    show 0 < (ptA m s 0 + ptR (ptN m s) m).toInt
    rw [i_add (by omega) (by omega)]
    by_cases hq : d = m
    · subst hq
      have e : ptR (ptN d s) d = ptR s d := by
        unfold ptR
        rw [ptN_1, if_neg (by omega), aft_r (ptN_r (by decide) (by decide) (by decide) d)]
      rw [e]; omega
    · have := pta_pos h hd hp m (by omega) (by omega)
      omega
theorem tk_pos {T : Int} {s : St} {t d : Nat} (h : Bd T s) (hT : T ≤ 1000000) (ht : 1 ≤ t ∧ t ≤ 200) (hd : d < 7) (hr1 : ∀ i, i < t → ¬ s 1 d / 60 < ticksS i s 1 d / 60) (hr2 : s 1 d / 60 < ticksS t s 1 d / 60) : ¬ ticksA 1 (ticksS (t - 1) s) ≤ 0 := by
  obtain ⟨n, rfl⟩ : ∃ n, t = n + 1 := ⟨t - 1, by omega⟩
  rw [Nat.add_sub_cancel]
  have hB : Bd (T + 10 * n) (ticksS n s) := h.ticks n (by omega)
  have hB2 := hB.t10 (by omega)
  have hX := tk_rng h hd n
  have h0 := (h.1 d hd).1
  have hX2 := aft_ok h hd (x := ticksS n s 1 d) (by omega) hX.2
  have e0 := sub60 h0 hX.1 hX.2
  have e1 : ticksS n s 1 d / 60 = s 1 d / 60 := by
    have := e0.2.2.2 (hr1 n (by omega))
    have e9 : ticksS n s 1 d / 60 = (ticksS n s 1 d / 60 - s 1 d / 60) + s 1 d / 60 := (Int32.sub_add_cancel _ _).symm
    rw [this, Int32.zero_add] at e9
    exact e9
  have hp : 0 < (ptR (up2 (ticksS n s) 0 0 (ticksS n s 0 0 + 10)) d).toInt := by
    have e : ptR (up2 (ticksS n s) 0 0 (ticksS n s 0 0 + 10)) d = ticksS (n + 1) s 1 d / 60 - ticksS n s 1 d / 60 := by
      unfold ptR
      rw [tk_1 hd, up2_o (by decide), aft_r (s := s) (by rw [up2_o (by decide)]; exact tk_r (by decide) (by decide) (by decide) (by decide) n)]
    rw [e, tk_1 hd]
    rw [tk_1 hd] at hr2
    exact (sub60 (x := ticksS n s 1 d) (by omega) hX2.1 hX2.2).2.2.1 (by rw [e1]; exact hr2)
  have h9 := pta_pos hB2 hd hp 7 (Nat.le_refl _) hd
  show ¬ ptA 7 (up2 (ticksS n s) 0 0 (ticksS n s 0 0 + 10)) 0 ≤ 0
  rw [i_le, i_0]; omega
theorem tk_same {T : Int} {s : St} {t d : Nat} (h : Bd T s) (ht : 1 ≤ t) (hd : d < 7) (hr1 : ∀ i, i < t → ¬ s 1 d / 60 < ticksS i s 1 d / 60) : ticksS (t - 1) s 6 d = s 6 d := by
  have hX := tk_rng h hd (t - 1)
  rw [tk_6 hd, (sub60 (h.1 d hd).1 hX.1 hX.2).2.2.2 (hr1 _ (by omega)), Int32.add_zero]
theorem tk_up {T : Int} {s : St} {t d : Nat} (h : Bd T s) (h6 : ∀ d, d < 7 → 0 ≤ (s 6 d).toInt ∧ (s 6 d).toInt ≤ 2 * T) (hT : T ≤ 1000000 ∧ 1 ≤ t) (hd : d < 7) (hr2 : s 1 d / 60 < ticksS t s 1 d / 60) : ¬ ticksS 1 (ticksS (t - 1) s) 6 d ≤ s 6 d := by
  obtain ⟨n, rfl⟩ : ∃ n, t = n + 1 := ⟨t - 1, by omega⟩
  rw [Nat.add_sub_cancel]
  show ¬ ticksS (n + 1) s 6 d ≤ s 6 d
  have hX := tk_rng h hd (n + 1)
  have h2 := sub60 (h.1 d hd).1 hX.1 hX.2
  have h3 := h2.2.2.1 hr2
  have h4 := h6 d hd
  rw [tk_6 hd, i_le, i_add (by omega) (by omega)]
  omega
/-! looking ahead -/
theorem rF {s : St} {d : Nat} (hd : d < 7) : ∀ (f t : Nat) (x : Int32), 1 ≤ t → (∀ i, i < t → ¬ s 1 d / 60 < ticksS i s 1 d / 60) → x = ticksS (t - 1) s 1 d → ringF s d (s 1 d / 60) f t x = -1 ∨ ∃ k, t ≤ k ∧ k < t + f ∧ ringF s d (s 1 d / 60) f t x = nI k ∧ (∀ i, i < k → ¬ s 1 d / 60 < ticksS i s 1 d / 60) ∧ s 1 d / 60 < ticksS k s 1 d / 60
  | 0, _, _, _, _, _ => Or.inl rfl
  | f + 1, t, x, ht, h1, hx => by
    have e : aftI s d x = ticksS t s 1 d := by
      obtain ⟨n, rfl⟩ : ∃ n, t = n + 1 := ⟨t - 1, by omega⟩
      rw [hx, tk_1 hd]; rfl
    have e2 : ringF s d (s 1 d / 60) (f + 1) t x = if s 1 d / 60 < aftI s d x / 60 then nI t else ringF s d (s 1 d / 60) f (t + 1) (aftI s d x) := rfl
    rw [e2, e]
    by_cases hc : s 1 d / 60 < ticksS t s 1 d / 60
    · rw [if_pos hc]
      exact Or.inr ⟨t, Nat.le_refl _, by omega, rfl, h1, hc⟩
    · rw [if_neg hc]
      rcases rF hd f (t + 1) (ticksS t s 1 d) (by omega) (fun i hi => by
        by_cases hq : i = t
        · rw [hq]; exact hc
        · exact h1 i (by omega)) rfl with h | ⟨k, h2, h3, h4, h5, h6⟩
      · exact Or.inl h
      · exact Or.inr ⟨k, by omega, by omega, h4, h5, h6⟩
theorem rIn_spec {s : St} {d : Nat} (hd : d < 7) : rIn s d = -1 ∨ ∃ t, 1 ≤ t ∧ t ≤ 200 ∧ rIn s d = nI t ∧ (∀ i, i < t → ¬ s 1 d / 60 < ticksS i s 1 d / 60) ∧ s 1 d / 60 < ticksS t s 1 d / 60 := by
  rcases rF hd 200 1 (s 1 d) (Nat.le_refl _) (fun i hi => by
    have : i = 0 := by omega
    subst this
    exact i32_irr _) rfl with h | ⟨k, h1, h2, h3, h4, h5⟩
  · exact Or.inl h
  · exact Or.inr ⟨k, h1, by omega, h3, h4, h5⟩
theorem qFs {s : St} {d : Nat} (hd : d < 7) : ∀ (f t : Nat), qF s d (behN d) f t (ticksS t s 1 d) (ticksS t s 1 (behN d)) = -1 ∨ ∃ k, t ≤ k ∧ k < t + f ∧ qF s d (behN d) f t (ticksS t s 1 d) (ticksS t s 1 (behN d)) = nI k ∧ quarB (ticksS k s) d
  | 0, _ => Or.inl rfl
  | f + 1, t => by
    have e2 : qF s d (behN d) (f + 1) t (ticksS t s 1 d) (ticksS t s 1 (behN d)) = if wqB s (wordF s d (ticksS t s 1 d)) (wordF s (behN d) (ticksS t s 1 (behN d))) then nI t else qF s d (behN d) f (t + 1) (aftI s d (ticksS t s 1 d)) (aftI s (behN d) (ticksS t s 1 (behN d))) := rfl
    rw [e2]
    by_cases hc : wqB s (wordF s d (ticksS t s 1 d)) (wordF s (behN d) (ticksS t s 1 (behN d)))
    · rw [if_pos hc]
      exact Or.inr ⟨t, Nat.le_refl _, by omega, rfl, quar_tk.mpr hc⟩
    · rw [if_neg hc, ← tk_1 hd, ← tk_1 behN_lt]
      rcases qFs hd f (t + 1) with h | ⟨k, h2, h3, h4, h5⟩
      · exact Or.inl h
      · exact Or.inr ⟨k, by omega, by omega, h4, h5⟩
theorem qIn_spec {s : St} {d : Nat} (hd : d < 7) : qIn s d = -1 ∨ ∃ t, t ≤ 200 ∧ qIn s d = nI t ∧ quarB (ticksS t s) d := by
  rcases qFs (s := s) hd 201 0 with h | ⟨k, h1, h2, h3, h4⟩
  · exact Or.inl h
  · exact Or.inr ⟨k, by omega, h3, h4⟩
theorem qIn_0 {s : St} {d : Nat} (h : quarB s d) : qIn s d = 0 := by
  have h : wqB s (wordF s d (s 1 d)) (wordF s (behN d) (s 1 (behN d))) := h
  show (if wqB s (wordF s d (s 1 d)) (wordF s (behN d) (s 1 (behN d))) then nI 0 else _) = 0
  rw [if_pos h]; rfl
theorem qIn_n {s : St} {d : Nat} (hd : d < 7) (h : ¬ quarB s d) : ¬ qIn s d = 0 := by
  have e : qIn s d = qF s d (behN d) 200 1 (ticksS 1 s 1 d) (ticksS 1 s 1 (behN d)) := by
    rw [tk_1 hd, tk_1 behN_lt]
    have h : ¬ wqB s (wordF s d (s 1 d)) (wordF s (behN d) (s 1 (behN d))) := h
    show (if wqB s (wordF s d (s 1 d)) (wordF s (behN d) (s 1 (behN d))) then nI 0 else _) = _
    rw [if_neg h]; rfl
  rw [e]
  rcases qFs (s := s) hd 200 1 with h1 | ⟨k, h1, h2, h3, h4⟩
  · rw [h1]; decide
  · rw [h3]
    intro h5
    have := (nI_eq2 (p := k) (q := 0) rfl rfl (by omega) (by omega)).mp h5
    omega
theorem beh_m {j : Nat} (h : j < 7) : (j + 1) % 7 = behN j := by
  unfold behN
  split
  · rw [Nat.mod_eq_of_lt (by omega)]
  · have : j = 6 := by omega
    subst this; rfl
theorem q0_if {s : St} {j : Nat} (hj : j < 7) : (if qIn s j = 0 then (1 : Int32) else 0) = if wqB s (wordA s j) (wordA s ((j + 1) % 7)) then 1 else 0 := by
  rw [beh_m hj]
  by_cases h : quarB s j
  · rw [if_pos (qIn_0 h), if_pos h]
  · rw [if_neg (qIn_n hj h), if_neg h]
theorem wF {s : St} {d : Nat} : ∀ (f g : Nat), (winF s d f g = -1 ∧ ∀ k, g ≤ k → k < g + f → ¬ midW s d (nI k) = wordA s d) ∨ ∃ w, g ≤ w ∧ w < g + f ∧ winF s d f g = nI w ∧ (∀ k, g ≤ k → k < w → ¬ midW s d (nI k) = wordA s d) ∧ midW s d (nI w) = wordA s d
  | 0, _ => Or.inl ⟨rfl, fun k h1 h2 => absurd h1 (by omega)⟩
  | f + 1, g => by
    have e : winF s d (f + 1) g = if midW s d (nI g) = wordA s d then nI g else winF s d f (g + 1) := rfl
    rw [e]
    by_cases hc : midW s d (nI g) = wordA s d
    · rw [if_pos hc]
      exact Or.inr ⟨g, Nat.le_refl _, by omega, rfl, fun k h1 h2 => absurd h1 (by omega), hc⟩
    · rw [if_neg hc]
      rcases wF f (g + 1) with ⟨h1, h2⟩ | ⟨w, h1, h2, h3, h4, h5⟩
      · refine Or.inl ⟨h1, fun k h3 h4 => ?_⟩
        by_cases hq : k = g
        · rw [hq]; exact hc
        · exact h2 k (by omega) (by omega)
      · refine Or.inr ⟨w, by omega, by omega, h3, fun k h6 h7 => ?_, h5⟩
        by_cases hq : k = g
        · rw [hq]; exact hc
        · exact h4 k (by omega) (by omega)
theorem winF_spec {s : St} {d : Nat} : (winF s d 9 1 = -1 ∧ ∀ k, 1 ≤ k → k ≤ 9 → ¬ midW s d (nI k) = wordA s d) ∨ ∃ w, 1 ≤ w ∧ w ≤ 9 ∧ winF s d 9 1 = nI w ∧ (∀ k, 1 ≤ k → k < w → ¬ midW s d (nI k) = wordA s d) ∧ midW s d (nI w) = wordA s d := by
  rcases wF (s := s) (d := d) 9 1 with ⟨h1, h2⟩ | ⟨w, h1, h2, h3, h4, h5⟩
  · exact Or.inl ⟨h1, fun k h3 h4 => h2 k h3 (by omega)⟩
  · exact Or.inr ⟨w, h1, by omega, h3, h4, h5⟩
theorem wn_eq {s : St} {d k w : Nat} (hk : 1 ≤ k ∧ k ≤ w) (h1 : ∀ k, 1 ≤ k → k < w → ¬ midW s d (nI k) = wordA s d) (h2 : midW s d (nI w) = wordA s d) : (if midW s d (nI k) = wordA s d then (1 : Int32) else 0) = if k = w then 1 else 0 := by
  by_cases h : k = w
  · subst h; rw [if_pos h2, if_pos rfl]
  · rw [if_neg (h1 k hk.1 (by omega)), if_neg h]
theorem wd_s {s : St} {d : Nat} {x : Int32} : up2 (up2 s 7 d x) 8 d (s 8 d) = up2 s 7 d x := up2_same (by rw [up2_o (by decide)])
theorem wd_mid {s : St} {d : Nat} {x : Int32} : midI (wordA (up2 (up2 s 7 d x) 8 d (s 8 d))) (up2 (up2 s 7 d x) 8 d (s 8 d) 7) = midW s d x := by rw [wd_s]; exact midW_e.symm
theorem wd_word {s : St} {d k : Nat} {x : Int32} : wordA (up2 (up2 s 7 d x) 8 d (s 8 d)) k = wordA s k := by rw [wd_s, word_up7]
