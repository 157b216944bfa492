/-! the bits of a share, as the class makes them -/
def mk64 (c : Nat) : UInt64 := UInt64.ofNat (FP.Core.encode FP.Core.b64 (.fin false c (-52)))
def unitL (fb : Int32) : Int64 := (1 : Int64) <<< (fb.toInt64 &&& 63)
def bitsX (x : UInt64) (fb b : Int32) : Int64 := match FP.Core.decode FP.Core.b64 x.toNat with
  | .fin _ c q => if c = 0 then 0 else (Int32.ofInt (q + 52) + b).toInt64 * unitL fb + FP.d2l (FP.dmul (FP.dsub (mk64 c) FP.dconst1) (FP.l2d (unitL fb)))
  | _ => 0
theorem bitsX_0 {fb b : Int32} : bitsX 0 fb b = 0 := by
  unfold bitsX
  rw [dec_z]
  rfl
theorem bitsX_n {x : UInt64} {c : Nat} {q : Int} {fb b : Int32} (h : dNrm x c q) : bitsX x fb b = (Int32.ofInt (q + 52) + b).toInt64 * unitL fb + FP.d2l (FP.dmul (FP.dsub (mk64 c) FP.dconst1) (FP.l2d (unitL fb))) := by
  unfold bitsX
  rw [h.dec]
  have := h.2.1
  show (if c = 0 then _ else _) = _
  rw [if_neg (by omega)]
theorem c_ge1 {x : UInt64} {c : Nat} {r : Int} (h : dNrm x c r) (hv : 0 ≤ Op.cmpValue (FP.dcmp x FP.dconst1) .g) : -52 ≤ r := by
  by_cases h1 : r < -52
  · rw [d_lt h dec_1 h1] at hv
    exact absurd hv (by decide)
  · omega
theorem c_lt1 {x : UInt64} {c : Nat} {r : Int} (h : dNrm x c r) (hv : ¬ 0 ≤ Op.cmpValue (FP.dcmp x FP.dconst1) .g) : r < -52 := by
  by_cases h1 : r < -52
  · exact h1
  · rcases d_ge h dec_1 (by omega) with h2 | h2 <;> rw [h2] at hv <;> exact absurd (by decide) hv
theorem c_lt2 {x : UInt64} {c : Nat} {r : Int} (h : dNrm x c r) (hv : Op.cmpValue (FP.dcmp x (4611686018427387904 : UInt64)) .l < 0) : r < -51 := by
  by_cases h1 : r < -51
  · exact h1
  · rcases d_ge h dec_2 (by omega) with h2 | h2 <;> rw [h2] at hv <;> exact absurd hv (by decide)
theorem c_ge2 {x : UInt64} {c : Nat} {r : Int} (h : dNrm x c r) (hv : ¬ Op.cmpValue (FP.dcmp x (4611686018427387904 : UInt64)) .l < 0) : -51 ≤ r := by
  by_cases h1 : r < -51
  · rw [d_lt h dec_2 h1] at hv
    exact absurd (by decide) hv
  · omega
theorem c_z0 {x : UInt64} (h : dOk x) (hv : ¬ 0 < Op.cmpValue (FP.dcmp x FP.dconst0) .g) : x = 0 := by
  rcases h with h | ⟨c, q, h, -⟩
  · exact h
  · rw [d_pos h] at hv
    exact absurd (by decide) hv
theorem c_n0 {x : UInt64} (h : dOk x) (hv : 0 < Op.cmpValue (FP.dcmp x FP.dconst0) .g) : ∃ (c : Nat) (q : Int), dNrm x c q ∧ -500 ≤ q ∧ q ≤ 500 := by
  rcases h with h | h
  · subst h
    rw [d_zer] at hv
    exact absurd hv (by decide)
  · exact h
theorem sub_vf {x : UInt64} {c : Nat} (h : dNrm x c (-52)) : vf_n64 (FP.dsub x FP.dconst1) := by
  rcases d_sub1 h with h1 | ⟨d, r, h1, -⟩
  · rw [h1]; exact vf_0
  · exact h1.vf
theorem mulU_vf {x u : UInt64} {c k : Nat} (h : dNrm x c (-52)) (hu : FP.Core.decode FP.Core.b64 u.toNat = .fin false 4503599627370496 ((k : Int) - 52)) (hk : k ≤ 100) : vf_n64 (FP.dmul (FP.dsub x FP.dconst1) u) := by
  rcases d_sub1 h with h1 | ⟨d, r, h1, h2, h3⟩
  · rw [h1, d_mul0 hu]; exact vf_0
  · exact (d_mulU h1 hu (by omega)).vf
theorem unit52 : FP.Core.decode FP.Core.b64 (FP.l2d (unitL 52)).toNat = .fin false 4503599627370496 (((52 : Nat) : Int) - 52) := by decide +kernel
theorem unit23 : FP.Core.decode FP.Core.b64 (FP.l2d (unitL 23)).toNat = .fin false 4503599627370496 (((23 : Nat) : Int) - 52) := by decide +kernel
theorem oi_pred {j : Nat} : Int32.ofInt (-(j : Int)) + (-1) = Int32.ofInt (-((j + 1 : Nat) : Int)) := by
  rw [show (-1 : Int32) = Int32.ofInt (-1) from by decide, ← Int32.ofInt_add]
  congr 1
  omega
theorem oi_succ {i : Int} {j : Nat} : Int32.ofInt (i + (j : Int)) + 1 = Int32.ofInt (i + ((j + 1 : Nat) : Int)) := by
  rw [show (1 : Int32) = Int32.ofInt 1 from by decide, ← Int32.ofInt_add]
  congr 1
  omega
/-- the whole state's hash, part by part -/
def dgDial (s : St) (d : Nat) (h : Int64) : Int64 := mxL (mxL (dgN (dialN s d) 7 h) (qF s d (behN d) 201 0 (s 1 d) (s 1 (behN d))).toInt64) (ringF s d (s 1 d / 60) 200 1 (s 1 d)).toInt64
def dgWard (s : St) (w : Nat) (h : Int64) : Int64 := mxL (mxL (dgN (wardN s w) 6 h) (midW s w 0).toInt64) (winF s w 9 1).toInt64
def dgDs (s : St) : Nat → Int64 → Int64
  | 0, h => h
  | n + 1, h => dgDial s n (dgDs s n h)
def dgWs (s : St) : Nat → Int64 → Int64
  | 0, h => h
  | n + 1, h => dgWard s n (dgWs s n h)
def dgAll (s : St) (sz : Nat) (hs : Int32) (b : Nat → Int32) (ln : Nat) : Int64 :=
  dgN b ln (mxL (mxL (mxL (mxL (mxL (dgWs s 7 (dgDs s 7 (dgN (s 10) 2 (dgN (counN s sz) 14 3863)))) (pivI s).toInt64) (bitsX (shareD s) 52 1023)) (bitsX (FP.f2d (meanF s)) 23 127)) (if hs = 0 then 0 else 1)) (nI ln).toInt64)
