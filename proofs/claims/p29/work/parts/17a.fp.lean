/-! floating numbers: positive normal ones, by their significand and exponent -/
theorem t64 : FP.Core.Fmt.tails FP.Core.b64 = 4503599627370496 := rfl
theorem x64 : FP.Core.Fmt.exps FP.Core.b64 = 2048 := rfl
theorem qn64 : FP.Core.Fmt.qmin FP.Core.b64 = -1074 := rfl
theorem qx64 : FP.Core.Fmt.qmax FP.Core.b64 = 971 := rfl
theorem p64 : (2 : Nat) ^ FP.Core.b64.p = 9007199254740992 := rfl
theorem enc64 {c : Nat} {q : Int} (h1 : 4503599627370496 ≤ c) : FP.Core.encode FP.Core.b64 (.fin false c q) = ((q + 1074).toNat + 1) * 4503599627370496 + (c - 4503599627370496) := by
  show (if c < FP.Core.Fmt.tails FP.Core.b64 then FP.Core.assemble FP.Core.b64 false 0 c else FP.Core.assemble FP.Core.b64 false ((q - FP.Core.Fmt.qmin FP.Core.b64).toNat + 1) (c - FP.Core.Fmt.tails FP.Core.b64)) = _
  rw [t64, if_neg (by omega), qn64]
  unfold FP.Core.assemble
  rw [x64, t64, show q - -1074 = q + 1074 by omega, show false.toNat = 0 from rfl, Nat.zero_mul, Nat.zero_add]
theorem dec64 {E t : Nat} (hE : 1 ≤ E) (hE2 : E ≤ 2046) (ht : t < 4503599627370496) : FP.Core.decode FP.Core.b64 (E * 4503599627370496 + t) = .fin false (4503599627370496 + t) ((E : Int) - 1075) := by
  unfold FP.Core.decode FP.Core.fieldE FP.Core.fieldT FP.Core.fieldS
  rw [t64, x64, qn64]
  have h1 : (E * 4503599627370496 + t) % 4503599627370496 = t := by omega
  have h2 : (E * 4503599627370496 + t) / 4503599627370496 = E := by omega
  rw [h1, h2, Nat.mod_eq_of_lt (show E < 2048 by omega), if_neg (by omega), if_neg (by omega), Nat.div_eq_of_lt (show E < 2048 by omega)]
  rw [show (-1074 : Int) + ((E : Int) - 1) = (E : Int) - 1075 by omega]
  rfl
/-- x is the number c * 2^q, c with 53 digits -/
def dNrm (x : UInt64) (c : Nat) (q : Int) : Prop := x = UInt64.ofNat (FP.Core.encode FP.Core.b64 (.fin false c q)) ∧ 4503599627370496 ≤ c ∧ c < 9007199254740992 ∧ -1074 ≤ q ∧ q ≤ 971
theorem dNrm.nat {x : UInt64} {c : Nat} {q : Int} (h : dNrm x c q) : x.toNat = ((q + 1074).toNat + 1) * 4503599627370496 + (c - 4503599627370496) := by
  obtain ⟨h0, h1, h2, h3, h4⟩ := h
  rw [h0, enc64 h1, UInt64.toNat_ofNat']
  exact Nat.mod_eq_of_lt (by omega)
theorem dNrm.dec {x : UInt64} {c : Nat} {q : Int} (h : dNrm x c q) : FP.Core.decode FP.Core.b64 x.toNat = .fin false c q := by
  rw [h.nat]
  obtain ⟨h0, h1, h2, h3, h4⟩ := h
  rw [dec64 (by omega) (by omega) (by omega)]
  rw [show 4503599627370496 + (c - 4503599627370496) = c by omega, show (((q + 1074).toNat + 1 : Nat) : Int) - 1075 = q by omega]
theorem dNrm.one {x y : UInt64} {c : Nat} {q : Int} (h : dNrm x c q) (h' : dNrm y c q) : x = y := h.1.trans h'.1.symm
theorem vf_of {r : UInt64} (h : r.toNat ≤ 9218868437227405312) : vf_n64 r := by
  unfold vf_n64
  rw [UInt64.le_iff_toNat_le, UInt64.toNat_and]
  exact Nat.le_trans Nat.and_le_left h
theorem dNrm.vf {x : UInt64} {c : Nat} {q : Int} (h : dNrm x c q) : vf_n64 x := by
  refine vf_of ?_
  rw [h.nat]
  obtain ⟨h0, h1, h2, h3, h4⟩ := h
  omega
theorem vf_0 : vf_n64 0 := vf_of (by decide)
/-! rounding -/
theorem lead_ok {num den : Nat} (hn : num ≠ 0) (hd : den ≠ 0) : den * 2 ^ (FP.Core.leading num den).toNat ≤ num * 2 ^ (-(FP.Core.leading num den)).toNat ∧ num * 2 ^ (-(FP.Core.leading num den)).toNat < den * 2 ^ (FP.Core.leading num den).toNat * 2 := by
  have a1 := Nat.log2_self_le hn
  have a2 := Nat.lt_log2_self (n := num)
  have b1 := Nat.log2_self_le hd
  have b2 := Nat.lt_log2_self (n := den)
  unfold FP.Core.leading
  generalize num.log2 = A at *
  generalize den.log2 = B at *
  show _ ∧ _
  by_cases h : den * 2 ^ ((A : Int) - (B : Int)).toNat ≤ num * 2 ^ (-((A : Int) - (B : Int))).toNat
  · simp only [if_pos h]
    refine ⟨h, ?_⟩
    by_cases hk : B ≤ A
    · have e1 : ((A : Int) - (B : Int)).toNat = A - B := by omega
      have e2 : (-((A : Int) - (B : Int))).toNat = 0 := by omega
      rw [e1, e2, Nat.pow_zero, Nat.mul_one]
      have h3 : 2 ^ B * 2 ^ (A - B) * 2 = 2 ^ (A + 1) := by rw [← Nat.pow_add, ← Nat.pow_succ]; congr 1; omega
      calc num < 2 ^ (A + 1) := a2
        _ = 2 ^ B * 2 ^ (A - B) * 2 := h3.symm
        _ ≤ den * 2 ^ (A - B) * 2 := Nat.mul_le_mul_right _ (Nat.mul_le_mul_right _ b1)
    · have e1 : ((A : Int) - (B : Int)).toNat = 0 := by omega
      have e2 : (-((A : Int) - (B : Int))).toNat = B - A := by omega
      rw [e1, e2, Nat.pow_zero, Nat.mul_one]
      have h3 : 2 ^ (A + 1) * 2 ^ (B - A) = 2 ^ B * 2 := by rw [← Nat.pow_add, ← Nat.pow_succ]; congr 1; omega
      calc num * 2 ^ (B - A) < 2 ^ (A + 1) * 2 ^ (B - A) := Nat.mul_lt_mul_of_pos_right a2 (Nat.pow_pos (by decide))
        _ = 2 ^ B * 2 := h3
        _ ≤ den * 2 := Nat.mul_le_mul_right _ b1
  · simp only [if_neg h]
    have h := Nat.not_le.mp h
    by_cases hk : B + 1 ≤ A
    · have e1 : ((A : Int) - (B : Int)).toNat = A - B := by omega
      have e2 : (-((A : Int) - (B : Int))).toNat = 0 := by omega
      have e3 : ((A : Int) - (B : Int) - 1).toNat = A - B - 1 := by omega
      have e4 : (-((A : Int) - (B : Int) - 1)).toNat = 0 := by omega
      rw [e1, e2, Nat.pow_zero, Nat.mul_one] at h
      rw [e3, e4, Nat.pow_zero, Nat.mul_one]
      have h5 : 2 ^ (A - B) = 2 ^ (A - B - 1) * 2 := by rw [← Nat.pow_succ]; congr 1; omega
      refine ⟨?_, by rw [h5] at h; rw [Nat.mul_assoc]; exact h⟩
      have h6 : 2 ^ (B + 1) * 2 ^ (A - B - 1) = 2 ^ A := by rw [← Nat.pow_add]; congr 1; omega
      calc den * 2 ^ (A - B - 1) ≤ 2 ^ (B + 1) * 2 ^ (A - B - 1) := Nat.mul_le_mul_right _ (Nat.le_of_lt b2)
        _ = 2 ^ A := h6
        _ ≤ num := a1
    · have e1 : ((A : Int) - (B : Int)).toNat = 0 := by omega
      have e2 : (-((A : Int) - (B : Int))).toNat = B - A := by omega
      have e3 : ((A : Int) - (B : Int) - 1).toNat = 0 := by omega
      have e4 : (-((A : Int) - (B : Int) - 1)).toNat = B - A + 1 := by omega
      rw [e1, e2, Nat.pow_zero, Nat.mul_one] at h
      rw [e3, e4, Nat.pow_zero, Nat.mul_one, Nat.pow_succ, ← Nat.mul_assoc]
      refine ⟨?_, by omega⟩
      have h6 : 2 ^ A * 2 ^ (B - A) * 2 = 2 ^ (B + 1) := by rw [← Nat.pow_add, ← Nat.pow_succ]; congr 1; omega
      calc den ≤ 2 ^ (B + 1) := Nat.le_of_lt b2
        _ = 2 ^ A * 2 ^ (B - A) * 2 := h6.symm
        _ ≤ num * 2 ^ (B - A) * 2 := Nat.mul_le_mul_right _ (Nat.mul_le_mul_right _ a1)
theorem near_lo {n d : Nat} : n / d ≤ FP.Core.nearest n d := by
  unfold FP.Core.nearest
  split
  · exact Nat.le_refl _
  · split
    · omega
    · omega
theorem near_hi {n d : Nat} : FP.Core.nearest n d ≤ n / d + 1 := by
  unfold FP.Core.nearest
  split
  · omega
  · split
    · omega
    · have := Nat.mod_lt (n / d) (show 0 < 2 by decide); omega
theorem near_e {c d : Nat} (hd : 0 < d) : FP.Core.nearest (c * d) d = c := by
  unfold FP.Core.nearest
  rw [Nat.mul_mod_left, if_pos (by omega), Nat.mul_div_cancel _ hd]
/-- what a positive ratio is rounded to, in the range of the normal numbers -/
theorem rr_norm (f : FP.Core.Fmt) {P num den : Nat} {e : Int} (hP : f.p = P + 1) (hn : num ≠ 0) (hd : den ≠ 0) (h1 : FP.Core.Fmt.qmin f ≤ FP.Core.leading num den + e - P) (h2 : FP.Core.leading num den + e - P + 1 ≤ FP.Core.Fmt.qmax f) :
    ∃ (c : Nat) (q : Int), FP.Core.roundRatio f false num den e = .fin false c q ∧ 2 ^ P ≤ c ∧ c < 2 ^ (P + 1) ∧ FP.Core.leading num den + e - P ≤ q ∧ q ≤ FP.Core.leading num den + e - P + 1 := by
  obtain ⟨l1, l2⟩ := lead_ok hn hd
  unfold FP.Core.roundRatio
  rw [if_neg hn]
  have hq : FP.Core.quantum f num den e = FP.Core.leading num den + e - P := by
    unfold FP.Core.quantum
    rw [hP, show (((P + 1 : Nat) : Int) - 1) = (P : Int) by omega]
    omega
  rw [hq]
  unfold FP.Core.roundAt
  generalize hk : FP.Core.leading num den = k at *
  unfold FP.Core.unitsNum FP.Core.unitsDen
  rw [show e - (k + e - (P : Int)) = (P : Int) - k by omega, show k + e - (P : Int) - e = k - (P : Int) by omega]
  generalize hA : k.toNat = A at *
  generalize hB : (-k).toNat = B at *
  generalize hC : ((P : Int) - k).toNat = C
  generalize hD : (k - (P : Int)).toNat = D'
  have hx : D' + P + B = C + A := by omega
  have pB : 0 < 2 ^ B := Nat.pow_pos (by decide)
  have n1 : den * 2 ^ D' * 2 ^ P ≤ num * 2 ^ C := by
    refine Nat.le_of_mul_le_mul_right ?_ pB
    calc den * 2 ^ D' * 2 ^ P * 2 ^ B = den * 2 ^ A * 2 ^ C := by rw [Nat.mul_assoc, Nat.mul_assoc, ← Nat.pow_add, ← Nat.pow_add, Nat.mul_assoc den, ← Nat.pow_add]; congr 2; omega
      _ ≤ num * 2 ^ B * 2 ^ C := Nat.mul_le_mul_right _ l1
      _ = num * 2 ^ C * 2 ^ B := Nat.mul_right_comm _ _ _
  have n2 : num * 2 ^ C < den * 2 ^ D' * 2 ^ (P + 1) := by
    refine Nat.lt_of_mul_lt_mul_right (a := 2 ^ B) ?_
    calc num * 2 ^ C * 2 ^ B = num * 2 ^ B * 2 ^ C := Nat.mul_right_comm _ _ _
      _ < den * 2 ^ A * 2 * 2 ^ C := Nat.mul_lt_mul_of_pos_right l2 (Nat.pow_pos (by decide))
      _ = den * 2 ^ D' * 2 ^ (P + 1) * 2 ^ B := by rw [Nat.mul_assoc den, ← Nat.pow_succ, Nat.mul_assoc den, ← Nat.pow_add, Nat.mul_assoc den, ← Nat.pow_add, Nat.mul_assoc den, ← Nat.pow_add]; congr 2; omega
  have pD : 0 < den * 2 ^ D' := Nat.mul_pos (by omega) (Nat.pow_pos (by decide))
  have m1 : 2 ^ P ≤ num * 2 ^ C / (den * 2 ^ D') := by rw [Nat.le_div_iff_mul_le pD, Nat.mul_comm]; exact n1
  have m2 : num * 2 ^ C / (den * 2 ^ D') < 2 ^ (P + 1) := by rw [Nat.div_lt_iff_lt_mul pD, Nat.mul_comm (2 ^ (P + 1))]; exact n2
  have g1 := near_lo (n := num * 2 ^ C) (d := den * 2 ^ D')
  have g2 := near_hi (n := num * 2 ^ C) (d := den * 2 ^ D')
  unfold FP.Core.settle FP.Core.bound
  rw [hP]
  by_cases hc : FP.Core.nearest (num * 2 ^ C) (den * 2 ^ D') < 2 ^ (P + 1)
  · rw [if_pos hc, if_pos (by omega)]
    exact ⟨_, _, rfl, by omega, hc, by omega, by omega⟩
  · rw [if_neg hc, if_pos (by omega)]
    refine ⟨_, _, rfl, ?_, ?_, by omega, by omega⟩
    · unfold FP.Core.Fmt.tails; rw [hP]; exact Nat.le_refl _
    · unfold FP.Core.Fmt.tails; rw [hP]; exact Nat.pow_lt_pow_right (by decide) (by omega)
theorem lead1 {n : Nat} (hn : n ≠ 0) : FP.Core.leading n 1 = (n.log2 : Int) := by
  unfold FP.Core.leading
  rw [show (1 : Nat).log2 = 0 from by decide]
  have h := Nat.log2_self_le hn
  generalize n.log2 = L at *
  have e1 : ((L : Int) - ((0 : Nat) : Int)).toNat = L := by omega
  have e2 : (-((L : Int) - ((0 : Nat) : Int))).toNat = 0 := by omega
  simp only [e1, e2]
  rw [if_pos (by rw [Nat.one_mul, Nat.pow_zero, Nat.mul_one]; exact h)]
  omega
theorem quant1 {n : Nat} {e : Int} (hn : n ≠ 0) (h : -1074 ≤ (n.log2 : Int) + e - 52) : FP.Core.quantum FP.Core.b64 n 1 e = (n.log2 : Int) + e - 52 := by
  unfold FP.Core.quantum
  rw [lead1 hn, qn64, show ((FP.Core.b64.p : Int) - 1) = 52 from rfl]
  omega
theorem lg_b {t L : Nat} (hL : t.log2 = L) (ht : t ≠ 0) (h : L ≤ 52) : 4503599627370496 ≤ t * 2 ^ (52 - L) ∧ t * 2 ^ (52 - L) < 9007199254740992 := by
  obtain ⟨h1, h2⟩ := (Nat.log2_eq_iff ht).mp hL
  have h3 : 2 ^ L * 2 ^ (52 - L) = 4503599627370496 := by rw [← Nat.pow_add, show L + (52 - L) = 52 by omega]
  have h4 : 2 ^ (L + 1) * 2 ^ (52 - L) = 9007199254740992 := by rw [← Nat.pow_add, show L + 1 + (52 - L) = 53 by omega]
  have h5 : 0 < 2 ^ (52 - L) := Nat.pow_pos (by decide)
  exact ⟨h3 ▸ Nat.mul_le_mul_right _ h1, h4 ▸ Nat.mul_lt_mul_of_pos_right h2 h5⟩
theorem lg_le {t : Nat} (ht : t ≠ 0) (h : t < 9007199254740992) : t.log2 ≤ 52 := by
  have := (Nat.log2_lt (k := 53) ht).mpr h
  omega
theorem set64 {c : Nat} {q : Int} (h : c < 9007199254740992) (h2 : q ≤ 971) : FP.Core.settle FP.Core.b64 false c q = .fin false c q := by
  unfold FP.Core.settle FP.Core.bound
  rw [p64, if_pos h, qx64, if_pos h2]
theorem round_t {t : Nat} {e : Int} (ht : t ≠ 0) (ht2 : t < 9007199254740992) (r1 : -1074 ≤ (t.log2 : Int) + e - 52) (r2 : (t.log2 : Int) + e - 52 ≤ 971) : FP.Core.round FP.Core.b64 (.fin false t e) = .fin false (t * 2 ^ (52 - t.log2)) ((t.log2 : Int) + e - 52) := by
  show FP.Core.roundRatio FP.Core.b64 false t 1 e = _
  have hL := lg_le ht ht2
  unfold FP.Core.roundRatio
  rw [if_neg ht, quant1 ht r1]
  unfold FP.Core.roundAt FP.Core.unitsNum FP.Core.unitsDen
  have hb := (lg_b rfl ht hL).2
  generalize t.log2 = L at *
  rw [show (e - ((L : Int) + e - 52)).toNat = 52 - L by omega, show ((L : Int) + e - 52 - e).toNat = 0 by omega, Nat.pow_zero, Nat.mul_one]
  have h1 := near_e (c := t * 2 ^ (52 - L)) (d := 1) (by decide)
  rw [Nat.mul_one] at h1
  rw [h1, set64 hb r2]
theorem round_c {c k : Nat} {e : Int} (h1 : 4503599627370496 ≤ c) (h2 : c < 9007199254740992) (r1 : -1074 ≤ e + k) (r2 : e + k ≤ 971) : FP.Core.round FP.Core.b64 (.fin false (c * 2 ^ k) e) = .fin false c (e + k) := by
  show FP.Core.roundRatio FP.Core.b64 false (c * 2 ^ k) 1 e = _
  have pk : 0 < 2 ^ k := Nat.pow_pos (by decide)
  have hn : c * 2 ^ k ≠ 0 := by have := Nat.mul_pos (show 0 < c by omega) pk; omega
  have hl : (c * 2 ^ k).log2 = 52 + k := (Nat.log2_eq_iff hn).mpr ⟨by rw [Nat.pow_add]; exact Nat.mul_le_mul_right _ h1, by rw [show 52 + k + 1 = 53 + k by omega, Nat.pow_add]; exact Nat.mul_lt_mul_of_pos_right h2 pk⟩
  unfold FP.Core.roundRatio
  rw [if_neg hn, quant1 hn (by rw [hl]; omega), hl]
  unfold FP.Core.roundAt FP.Core.unitsNum FP.Core.unitsDen
  rw [show ((52 + k : Nat) : Int) + e - 52 = e + k by omega, show (e - (e + (k : Int))).toNat = 0 by omega, show (e + (k : Int) - e).toNat = k by omega, Nat.pow_zero, Nat.mul_one, Nat.one_mul, near_e pk, set64 h2 r2]
theorem nrm_mk {x : UInt64} {d : FP.Core.Datum} {c : Nat} {q : Int} (hx : x = UInt64.ofNat (FP.Core.encode FP.Core.b64 d)) (hd : d = .fin false c q) (h1 : 4503599627370496 ≤ c) (h2 : c < 9007199254740992) (h3 : -1074 ≤ q) (h4 : q ≤ 971) : dNrm x c q := ⟨by rw [hx, hd], h1, h2, h3, h4⟩
/-! twice, half, compared with 1 and 2 -/
theorem dec_2 : FP.Core.decode FP.Core.b64 (4611686018427387904 : UInt64).toNat = .fin false 4503599627370496 (-51) := by decide +kernel
theorem dec_1 : FP.Core.decode FP.Core.b64 (FP.dconst1).toNat = .fin false 4503599627370496 (-52) := by decide +kernel
theorem dec_0 : FP.Core.decode FP.Core.b64 (FP.dconst0).toNat = .fin false 0 (-1074) := by decide +kernel
theorem dec_z : FP.Core.decode FP.Core.b64 (0 : UInt64).toNat = .fin false 0 (-1074) := by decide +kernel
theorem d_mul2 {x : UInt64} {c : Nat} {q : Int} (h : dNrm x c q) (hq : q ≤ 970) : dNrm (FP.dmul x 4611686018427387904) c (q + 1) := by
  have h0 := h.dec
  obtain ⟨-, h1, h2, h3, h4⟩ := h
  refine nrm_mk (d := FP.Core.round FP.Core.b64 (FP.Core.exactProduct (FP.Core.decode FP.Core.b64 x.toNat) (FP.Core.decode FP.Core.b64 (4611686018427387904 : UInt64).toNat))) rfl ?_ h1 h2 (by omega) (by omega)
  rw [h0, dec_2]
  show FP.Core.round FP.Core.b64 (.fin false (c * 2 ^ 52) (q + -51)) = _
  rw [round_c h1 h2 (by omega) (by omega)]
  congr 1
  omega
theorem d_half {x : UInt64} {c : Nat} {q : Int} (h : dNrm x c q) (hq : -1073 ≤ q) : dNrm (FP.ddiv x 4611686018427387904) c (q - 1) := by
  have h0 := h.dec
  obtain ⟨-, h1, h2, h3, h4⟩ := h
  refine nrm_mk (d := FP.Core.quotient FP.Core.b64 (FP.Core.decode FP.Core.b64 x.toNat) (FP.Core.decode FP.Core.b64 (4611686018427387904 : UInt64).toNat)) rfl ?_ h1 h2 (by omega) (by omega)
  rw [h0, dec_2]
  show FP.Core.roundRatio FP.Core.b64 false c 4503599627370496 (q - -51) = _
  have hc : c.log2 = 52 := (Nat.log2_eq_iff (by omega)).mpr ⟨h1, h2⟩
  have hl : FP.Core.leading c 4503599627370496 = 0 := by
    unfold FP.Core.leading
    rw [hc, show (4503599627370496 : Nat).log2 = 52 from (Nat.log2_eq_iff (by decide)).mpr (by decide)]
    simp only [Int.sub_self]
    rw [if_pos (by show 4503599627370496 * 2 ^ 0 ≤ c * 2 ^ 0; omega)]
  unfold FP.Core.roundRatio
  rw [if_neg (by omega)]
  have hq9 : FP.Core.quantum FP.Core.b64 c 4503599627370496 (q - -51) = q - 1 := by
    unfold FP.Core.quantum
    rw [hl, qn64, show ((FP.Core.b64.p : Int) - 1) = 52 from rfl]
    omega
  rw [hq9]
  unfold FP.Core.roundAt FP.Core.unitsNum FP.Core.unitsDen
  rw [show (q - -51 - (q - 1)).toNat = 52 by omega, show (q - 1 - (q - -51)).toNat = 0 by omega, Nat.pow_zero, Nat.mul_one]
  have := near_e (c := c) (d := 4503599627370496) (by decide)
  rw [show (2 : Nat) ^ 52 = 4503599627370496 from rfl, this, set64 h2 (by omega)]
theorem ord_lt {a b : Int} (h : a < b) : compare a b = .lt := by show compareOfLessAndEq a b = _; unfold compareOfLessAndEq; rw [if_pos h]
theorem ord_ge {a b : Int} (h : b ≤ a) : compare a b = .eq ∨ compare a b = .gt := by
  show compareOfLessAndEq a b = _ ∨ compareOfLessAndEq a b = _
  unfold compareOfLessAndEq
  rw [if_neg (by omega)]
  split
  · exact Or.inl rfl
  · exact Or.inr rfl
theorem ord_gt {a b : Int} (h : b < a) : compare a b = .gt := by
  show compareOfLessAndEq a b = _
  unfold compareOfLessAndEq
  rw [if_neg (by omega), if_neg (by omega)]
theorem d_cmp {x y : UInt64} {c d : Nat} {q r : Int} (hx : FP.Core.decode FP.Core.b64 x.toNat = .fin false c q) (hy : FP.Core.decode FP.Core.b64 y.toNat = .fin false d r) : FP.dcmp x y = some (compare ((c * 2 ^ (q - min q r).toNat : Nat) : Int) ((d * 2 ^ (r - min q r).toNat : Nat) : Int)) := by
  show FP.Core.order (FP.Core.decode FP.Core.b64 x.toNat) (FP.Core.decode FP.Core.b64 y.toNat) = _
  rw [hx, hy]
  rfl
/-- below 2^(r+52) -/
theorem d_lt {x y : UInt64} {c : Nat} {q r : Int} (h : dNrm x c q) (hy : FP.Core.decode FP.Core.b64 y.toNat = .fin false 4503599627370496 r) (hq : q < r) : FP.dcmp x y = some .lt := by
  rw [d_cmp h.dec hy]
  obtain ⟨-, h1, h2, h3, h4⟩ := h
  congr 1
  refine ord_lt ?_
  rw [show (q - min q r).toNat = 0 by omega, Nat.pow_zero, Nat.mul_one]
  have h5 : 2 ≤ 2 ^ (r - min q r).toNat := by
    have : 2 ^ 1 ≤ 2 ^ (r - min q r).toNat := Nat.pow_le_pow_right (by decide) (by omega)
    exact this
  have h6 := Nat.mul_le_mul_left 4503599627370496 h5
  omega
theorem d_ge {x y : UInt64} {c : Nat} {q r : Int} (h : dNrm x c q) (hy : FP.Core.decode FP.Core.b64 y.toNat = .fin false 4503599627370496 r) (hq : r ≤ q) : FP.dcmp x y = some .eq ∨ FP.dcmp x y = some .gt := by
  rw [d_cmp h.dec hy]
  obtain ⟨-, h1, h2, h3, h4⟩ := h
  have h7 : ((4503599627370496 * 2 ^ (r - min q r).toNat : Nat) : Int) ≤ ((c * 2 ^ (q - min q r).toNat : Nat) : Int) := by
    rw [show (r - min q r).toNat = 0 by omega, Nat.pow_zero, Nat.mul_one]
    have h5 : 0 < 2 ^ (q - min q r).toNat := Nat.pow_pos (by decide)
    have h6 := Nat.mul_le_mul_left c h5
    omega
  rcases ord_ge h7 with h | h
  · exact Or.inl (by rw [h])
  · exact Or.inr (by rw [h])
theorem d_pos {x : UInt64} {c : Nat} {q : Int} (h : dNrm x c q) : FP.dcmp x FP.dconst0 = some .gt := by
  rw [d_cmp h.dec dec_0]
  obtain ⟨-, h1, h2, h3, h4⟩ := h
  congr 1
  refine ord_gt ?_
  rw [Nat.zero_mul]
  have h5 : 0 < 2 ^ (q - min q (-1074)).toNat := Nat.pow_pos (by decide)
  have h6 := Nat.mul_pos (show 0 < c by omega) h5
  omega
theorem d_zer : FP.dcmp 0 FP.dconst0 = some .eq := by decide +kernel
/-- one less: zero, or some number again -/
theorem d_sub1 {x : UInt64} {c : Nat} (h : dNrm x c (-52)) : FP.dsub x FP.dconst1 = 0 ∨ ∃ (d : Nat) (r : Int), dNrm (FP.dsub x FP.dconst1) d r ∧ -104 ≤ r ∧ r ≤ -52 := by
  have h0 := h.dec
  obtain ⟨-, h1, h2, h3, h4⟩ := h
  have hs : FP.dsub x FP.dconst1 = UInt64.ofNat (FP.Core.encode FP.Core.b64 (FP.Core.round FP.Core.b64 (.fin false (c - 4503599627370496) (-52)))) := by
    show UInt64.ofNat (FP.Core.encode FP.Core.b64 (FP.Core.round FP.Core.b64 (FP.Core.exactSum (FP.Core.decode FP.Core.b64 x.toNat) (FP.Core.negate (FP.Core.decode FP.Core.b64 (FP.dconst1).toNat))))) = _
    rw [h0, dec_1]
    congr 3
    show FP.Core.Datum.fin _ _ _ = _
    have hv : FP.Core.sumUnits false c (-52) true 4503599627370496 (-52) (min (-52) (-52)) = ((c - 4503599627370496 : Nat) : Int) := by
      show ((c * 2 ^ (0 : Nat) : Nat) : Int) + -((4503599627370496 * 2 ^ (0 : Nat) : Nat) : Int) = _
      omega
    rw [show (!false) = true from rfl, hv]
    have hs : FP.Core.sumSign false true ((c - 4503599627370496 : Nat) : Int) = false := by
      unfold FP.Core.sumSign
      split
      · rfl
      · exact decide_eq_false (by omega)
    rw [hs, Int.natAbs_natCast]
    rfl
  by_cases ht : c - 4503599627370496 = 0
  · refine Or.inl ?_
    rw [hs, ht]
    decide +kernel
  · have hL := lg_le ht (by omega)
    have hb := lg_b rfl ht hL
    refine Or.inr ⟨(c - 4503599627370496) * 2 ^ (52 - (c - 4503599627370496).log2), ((c - 4503599627370496).log2 : Int) + (-52) - 52, ?_, ?_, ?_⟩
    · refine nrm_mk hs (round_t ht (by omega) ?_ ?_) hb.1 hb.2 ?_ ?_ <;> omega
    · omega
    · omega
/-- times 2^k, at once -/
theorem d_mulU {x u : UInt64} {c k : Nat} {q : Int} (h : dNrm x c q) (hu : FP.Core.decode FP.Core.b64 u.toNat = .fin false 4503599627370496 ((k : Int) - 52)) (hq : q + k ≤ 971) : dNrm (FP.dmul x u) c (q + k) := by
  have h0 := h.dec
  obtain ⟨-, h1, h2, h3, h4⟩ := h
  refine nrm_mk (d := FP.Core.round FP.Core.b64 (FP.Core.exactProduct (FP.Core.decode FP.Core.b64 x.toNat) (FP.Core.decode FP.Core.b64 u.toNat))) rfl ?_ h1 h2 (by omega) (by omega)
  rw [h0, hu]
  show FP.Core.round FP.Core.b64 (.fin false (c * 2 ^ 52) (q + ((k : Int) - 52))) = _
  rw [round_c h1 h2 (by omega) (by omega)]
  congr 1
  omega
theorem d_mul0 {u : UInt64} {d : Nat} {r : Int} (hu : FP.Core.decode FP.Core.b64 u.toNat = .fin false d r) : FP.dmul 0 u = 0 := by
  show UInt64.ofNat (FP.Core.encode FP.Core.b64 (FP.Core.round FP.Core.b64 (FP.Core.exactProduct (FP.Core.decode FP.Core.b64 (0 : UInt64).toNat) (FP.Core.decode FP.Core.b64 u.toNat)))) = _
  rw [dec_z, hu]
  show UInt64.ofNat (FP.Core.encode FP.Core.b64 (FP.Core.roundRatio FP.Core.b64 false (0 * d) 1 (-1074 + r))) = _
  rw [Nat.zero_mul]
  unfold FP.Core.roundRatio
  rw [if_pos rfl]
  decide +kernel
/-! shares -/
theorem d_i2d {x : Int32} (h : 0 < x.toInt) : ∃ (c : Nat) (q : Int), dNrm (FP.i2d x) c q ∧ -52 ≤ q ∧ q ≤ 0 := by
  have hx : x.toInt < 2147483648 := by have := Int32.toInt_lt x; omega
  have hn : x.toInt.natAbs ≠ 0 := by omega
  have hL := lg_le hn (by omega)
  have hb := lg_b rfl hn hL
  refine ⟨x.toInt.natAbs * 2 ^ (52 - x.toInt.natAbs.log2), (x.toInt.natAbs.log2 : Int) + 0 - 52, nrm_mk (d := FP.Core.round FP.Core.b64 (FP.Core.ofInt x.toInt)) rfl ?_ hb.1 hb.2 (by omega) (by omega), by omega, by omega⟩
  unfold FP.Core.ofInt
  rw [decide_eq_false (by omega)]
  exact round_t hn (by omega) (by omega) (by omega)
theorem d_i2d0 : FP.i2d 0 = 0 := by decide +kernel
theorem lead52 {c d : Nat} (h1 : 4503599627370496 ≤ c) (h2 : c < 9007199254740992) (h3 : 4503599627370496 ≤ d) (h4 : d < 9007199254740992) : -1 ≤ FP.Core.leading c d ∧ FP.Core.leading c d ≤ 0 := by
  unfold FP.Core.leading
  rw [(Nat.log2_eq_iff (by omega)).mpr (⟨h1, h2⟩ : 2 ^ 52 ≤ c ∧ c < 2 ^ (52 + 1)), (Nat.log2_eq_iff (by omega)).mpr (⟨h3, h4⟩ : 2 ^ 52 ≤ d ∧ d < 2 ^ (52 + 1))]
  simp only [Int.sub_self]
  split <;> omega
theorem d_quo {x y : UInt64} {c d : Nat} {q r : Int} (hx : dNrm x c q) (hy : dNrm y d r) (h1 : -900 ≤ q - r) (h2 : q - r ≤ 900) : ∃ (k : Nat) (n : Int), dNrm (FP.ddiv x y) k n ∧ q - r - 53 ≤ n ∧ n ≤ q - r - 51 := by
  have hx0 := hx.dec
  have hy0 := hy.dec
  obtain ⟨-, a1, a2, a3, a4⟩ := hx
  obtain ⟨-, b1, b2, b3, b4⟩ := hy
  have hl := lead52 a1 a2 b1 b2
  obtain ⟨k, n, h3, h4, h5, h6, h7⟩ := rr_norm FP.Core.b64 (P := 52) (num := c) (den := d) (e := q - r) rfl (by omega) (by omega) (by rw [qn64]; omega) (by rw [qx64]; omega)
  refine ⟨k, n, nrm_mk (d := FP.Core.quotient FP.Core.b64 (FP.Core.decode FP.Core.b64 x.toNat) (FP.Core.decode FP.Core.b64 y.toNat)) rfl ?_ h4 h5 (by omega) (by omega), by omega, by omega⟩
  rw [hx0, hy0]
  show (if d = 0 then (if c = 0 then FP.Core.Datum.nan else .inf (false != false)) else FP.Core.roundRatio FP.Core.b64 (false != false) c d (q - r)) = _
  rw [if_neg (by omega)]
  exact h3
theorem d_quo0 {y : UInt64} {d : Nat} {r : Int} (hy : dNrm y d r) : FP.ddiv 0 y = 0 := by
  have hy0 := hy.dec
  obtain ⟨-, b1, b2, b3, b4⟩ := hy
  show UInt64.ofNat (FP.Core.encode FP.Core.b64 (FP.Core.quotient FP.Core.b64 (FP.Core.decode FP.Core.b64 (0 : UInt64).toNat) (FP.Core.decode FP.Core.b64 y.toNat))) = _
  rw [dec_z, hy0]
  show UInt64.ofNat (FP.Core.encode FP.Core.b64 (if d = 0 then (if (0 : Nat) = 0 then FP.Core.Datum.nan else .inf (false != false)) else FP.Core.roundRatio FP.Core.b64 (false != false) 0 d (-1074 - r))) = _
  rw [if_neg (by omega)]
  unfold FP.Core.roundRatio
  rw [if_pos rfl]
  decide +kernel
/-- zero, or a number with room above and below -/
def dOk (x : UInt64) : Prop := x = 0 ∨ ∃ (c : Nat) (q : Int), dNrm x c q ∧ -500 ≤ q ∧ q ≤ 500
theorem dOk.vf {x : UInt64} (h : dOk x) : vf_n64 x := by
  rcases h with rfl | ⟨c, q, h, -⟩
  · exact vf_0
  · exact h.vf
theorem d_share {h v : Int32} (h0 : 0 ≤ h.toInt) (hv : 0 < v.toInt) : dOk (FP.ddiv (FP.i2d h) (FP.i2d v)) := by
  obtain ⟨d, r, hd, r1, r2⟩ := d_i2d hv
  by_cases hh : 0 < h.toInt
  · obtain ⟨c, q, hc, q1, q2⟩ := d_i2d hh
    obtain ⟨k, n, h1, h2, h3⟩ := d_quo hc hd (by omega) (by omega)
    exact Or.inr ⟨k, n, h1, by omega, by omega⟩
  · have : h = 0 := by rw [← Int32.toInt_inj]; show h.toInt = 0; omega
    subst this
    rw [d_i2d0, d_quo0 hd]
    exact Or.inl rfl
/-! single precision -/
theorem t32 : FP.Core.Fmt.tails FP.Core.b32 = 8388608 := rfl
theorem x32 : FP.Core.Fmt.exps FP.Core.b32 = 256 := rfl
theorem qn32 : FP.Core.Fmt.qmin FP.Core.b32 = -149 := rfl
theorem qx32 : FP.Core.Fmt.qmax FP.Core.b32 = 104 := rfl
def fNrm (x : UInt32) (c : Nat) (q : Int) : Prop := x = UInt32.ofNat (FP.Core.encode FP.Core.b32 (.fin false c q)) ∧ 8388608 ≤ c ∧ c < 16777216 ∧ -149 ≤ q ∧ q ≤ 104
theorem enc32 {c : Nat} {q : Int} (h1 : 8388608 ≤ c) : FP.Core.encode FP.Core.b32 (.fin false c q) = ((q + 149).toNat + 1) * 8388608 + (c - 8388608) := by
  show (if c < FP.Core.Fmt.tails FP.Core.b32 then FP.Core.assemble FP.Core.b32 false 0 c else FP.Core.assemble FP.Core.b32 false ((q - FP.Core.Fmt.qmin FP.Core.b32).toNat + 1) (c - FP.Core.Fmt.tails FP.Core.b32)) = _
  rw [t32, if_neg (by omega), qn32]
  unfold FP.Core.assemble
  rw [x32, t32, show q - -149 = q + 149 by omega, show false.toNat = 0 from rfl, Nat.zero_mul, Nat.zero_add]
theorem dec32 {E t : Nat} (hE : 1 ≤ E) (hE2 : E ≤ 254) (ht : t < 8388608) : FP.Core.decode FP.Core.b32 (E * 8388608 + t) = .fin false (8388608 + t) ((E : Int) - 150) := by
  unfold FP.Core.decode FP.Core.fieldE FP.Core.fieldT FP.Core.fieldS
  rw [t32, x32, qn32]
  have h1 : (E * 8388608 + t) % 8388608 = t := by omega
  have h2 : (E * 8388608 + t) / 8388608 = E := by omega
  rw [h1, h2, Nat.mod_eq_of_lt (show E < 256 by omega), if_neg (by omega), if_neg (by omega), Nat.div_eq_of_lt (show E < 256 by omega)]
  rw [show (-149 : Int) + ((E : Int) - 1) = (E : Int) - 150 by omega]
  rfl
theorem fNrm.nat {x : UInt32} {c : Nat} {q : Int} (h : fNrm x c q) : x.toNat = ((q + 149).toNat + 1) * 8388608 + (c - 8388608) := by
  obtain ⟨h0, h1, h2, h3, h4⟩ := h
  rw [h0, enc32 h1, UInt32.toNat_ofNat']
  exact Nat.mod_eq_of_lt (by omega)
theorem fNrm.dec {x : UInt32} {c : Nat} {q : Int} (h : fNrm x c q) : FP.Core.decode FP.Core.b32 x.toNat = .fin false c q := by
  rw [h.nat]
  obtain ⟨h0, h1, h2, h3, h4⟩ := h
  rw [dec32 (by omega) (by omega) (by omega)]
  rw [show 8388608 + (c - 8388608) = c by omega, show (((q + 149).toNat + 1 : Nat) : Int) - 150 = q by omega]
theorem fvf_of {r : UInt32} (h : r.toNat ≤ 2139095040) : vf_n32 r := by
  unfold vf_n32
  rw [UInt32.le_iff_toNat_le, UInt32.toNat_and]
  exact Nat.le_trans Nat.and_le_left h
def fOk (x : UInt32) : Prop := x = 0 ∨ ∃ (c : Nat) (q : Int), fNrm x c q ∧ -100 ≤ q ∧ q ≤ 100
theorem fOk.vf {x : UInt32} (h : fOk x) : vf_n32 x := by
  rcases h with rfl | ⟨c, q, h, -⟩
  · exact fvf_of (by decide)
  · refine fvf_of ?_
    rw [h.nat]
    obtain ⟨h0, h1, h2, h3, h4⟩ := h
    omega
theorem f_i2f {x : Int32} (h : 0 < x.toInt) : ∃ (c : Nat) (q : Int), fNrm (FP.i2f x) c q ∧ -23 ≤ q ∧ q ≤ 9 := by
  have hx : x.toInt < 2147483648 := by have := Int32.toInt_lt x; omega
  have hn : x.toInt.natAbs ≠ 0 := by omega
  have hl : x.toInt.natAbs.log2 < 31 := (Nat.log2_lt hn).mpr (by omega)
  obtain ⟨k, n, h3, h4, h5, h6, h7⟩ := rr_norm FP.Core.b32 (P := 23) (num := x.toInt.natAbs) (den := 1) (e := 0) rfl hn (by omega) (by rw [qn32, lead1 hn]; omega) (by rw [qx32, lead1 hn]; omega)
  rw [lead1 hn] at h6 h7
  refine ⟨k, n, ⟨?_, h4, h5, by omega, by omega⟩, by omega, by omega⟩
  show UInt32.ofNat (FP.Core.encode FP.Core.b32 (FP.Core.round FP.Core.b32 (FP.Core.ofInt x.toInt))) = _
  unfold FP.Core.ofInt
  rw [decide_eq_false (by omega)]
  show UInt32.ofNat (FP.Core.encode FP.Core.b32 (FP.Core.roundRatio FP.Core.b32 false x.toInt.natAbs 1 0)) = _
  rw [h3]
theorem dec_7 : FP.Core.decode FP.Core.b32 (1088421888 : UInt32).toNat = .fin false 14680064 (-21) := by decide +kernel
theorem f_mean {n : Int32} (h : 0 ≤ n.toInt) : fOk (FP.fdiv (FP.i2f n) (1088421888 : UInt32)) := by
  by_cases hh : 0 < n.toInt
  · obtain ⟨c, q, hc, q1, q2⟩ := f_i2f hh
    have hc0 := hc.dec
    obtain ⟨-, a1, a2, a3, a4⟩ := hc
    have hl : -1 ≤ FP.Core.leading c 14680064 ∧ FP.Core.leading c 14680064 ≤ 0 := by
      unfold FP.Core.leading
      rw [(Nat.log2_eq_iff (by omega)).mpr (⟨a1, a2⟩ : 2 ^ 23 ≤ c ∧ c < 2 ^ (23 + 1)), (Nat.log2_eq_iff (by decide)).mpr (by decide : 2 ^ 23 ≤ 14680064 ∧ 14680064 < 2 ^ (23 + 1))]
      simp only [Int.sub_self]
      split <;> omega
    obtain ⟨k, r, h3, h4, h5, h6, h7⟩ := rr_norm FP.Core.b32 (P := 23) (num := c) (den := 14680064) (e := q - -21) rfl (by omega) (by decide) (by rw [qn32]; omega) (by rw [qx32]; omega)
    refine Or.inr ⟨k, r, ⟨?_, h4, h5, by omega, by omega⟩, by omega, by omega⟩
    show UInt32.ofNat (FP.Core.encode FP.Core.b32 (FP.Core.quotient FP.Core.b32 (FP.Core.decode FP.Core.b32 (FP.i2f n).toNat) (FP.Core.decode FP.Core.b32 (1088421888 : UInt32).toNat))) = _
    rw [hc0, dec_7]
    show UInt32.ofNat (FP.Core.encode FP.Core.b32 (FP.Core.roundRatio FP.Core.b32 false c 14680064 (q - -21))) = _
    rw [h3]
  · have : n = 0 := by rw [← Int32.toInt_inj]; show n.toInt = 0; omega
    subst this
    exact Or.inl (by decide +kernel)
theorem f_f2d {x : UInt32} (h : fOk x) : dOk (FP.f2d x) := by
  rcases h with rfl | ⟨c, q, h, q1, q2⟩
  · exact Or.inl (by decide +kernel)
  · have h0 := h.dec
    obtain ⟨-, a1, a2, a3, a4⟩ := h
    have hn : FP.Core.fIsNaN x = false := by
      unfold FP.Core.fIsNaN FP.Core.isNaN
      rw [h0]
      exact decide_eq_false (fun h => by cases h)
    have hc : c ≠ 0 := by omega
    have hL := lg_le hc (by omega)
    have hL2 : 23 ≤ c.log2 := (Nat.le_log2 hc).mpr a1
    have hb := lg_b rfl hc hL
    refine Or.inr ⟨c * 2 ^ (52 - c.log2), (c.log2 : Int) + q - 52, nrm_mk (d := FP.Core.round FP.Core.b64 (FP.Core.decode FP.Core.b32 x.toNat)) ?_ (by rw [h0]; exact round_t hc (by omega) (by omega) (by omega)) hb.1 hb.2 (by omega) (by omega), by omega, by omega⟩
    unfold FP.f2d
    rw [hn]
    rfl
