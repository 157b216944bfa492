/-! the reference's looking ahead -/
theorem pt_row {s : St} {d r : Nat} (h1 : r ≠ 1) (h3 : r ≠ 3) (h6 : r ≠ 6) : ptS s d r = s r := by unfold ptS; rw [up2_o h6, up2_o h3, up2_o h1]
theorem ptN_r {s : St} {r : Nat} (h1 : r ≠ 1) (h3 : r ≠ 3) (h6 : r ≠ 6) : ∀ n, ptN n s r = s r
  | 0 => rfl
  | n + 1 => (pt_row h1 h3 h6).trans (ptN_r h1 h3 h6 n)
theorem pt_1 {s : St} {d : Nat} : ptS s d 1 = upd (s 1) d (aftI s d (s 1 d)) := by unfold ptS; rw [up2_o (by decide), up2_o (by decide), up2_e]
theorem aft_r {s t : St} {d : Nat} {x : Int32} (h : t 2 = s 2) : aftI t d x = aftI s d x := by unfold aftI; rw [h]
theorem ptN_1 {s : St} {d : Nat} : ∀ n, ptN n s 1 d = if d < n then aftI s d (s 1 d) else s 1 d
  | 0 => (if_neg (by omega)).symm
  | n + 1 => by
    show ptS (ptN n s) n 1 d = _
    rw [pt_1]
    by_cases h : d = n
    · subst h
      rw [show upd (ptN d s 1) d (aftI (ptN d s) d (ptN d s 1 d)) d = aftI (ptN d s) d (ptN d s 1 d) from if_pos rfl, if_pos (by omega), ptN_1 d, if_neg (by omega), aft_r (ptN_r (by decide) (by decide) (by decide) d)]
    · rw [show upd (ptN n s 1) n (aftI (ptN n s) n (ptN n s 1 n)) d = ptN n s 1 d from if_neg h, ptN_1 n]
      by_cases h2 : d < n
      · rw [if_pos h2, if_pos (by omega)]
      · rw [if_neg h2, if_neg (by omega)]
theorem tk_r {s : St} {r : Nat} (h0 : r ≠ 0) (h1 : r ≠ 1) (h3 : r ≠ 3) (h6 : r ≠ 6) : ∀ n, ticksS n s r = s r
  | 0 => rfl
  | n + 1 => by
    show ptN 7 (up2 (ticksS n s) 0 0 (ticksS n s 0 0 + 10)) r = s r
    rw [ptN_r h1 h3 h6, up2_o h0, tk_r h0 h1 h3 h6 n]
theorem tk_1 {s : St} {n d : Nat} (hd : d < 7) : ticksS (n + 1) s 1 d = aftI s d (ticksS n s 1 d) := by
  show ptN 7 (up2 (ticksS n s) 0 0 (ticksS n s 0 0 + 10)) 1 d = _
  rw [ptN_1, if_pos hd, up2_o (by decide)]
  exact aft_r (by rw [up2_o (by decide)]; exact tk_r (by decide) (by decide) (by decide) (by decide) n)
theorem word_tk {s : St} {n w : Nat} : wordA (ticksS n s) w = wordF s w (ticksS n s 1 w) := by
  unfold wordA wordF
  rw [tk_r (r := 8) (by decide) (by decide) (by decide) (by decide) n]
def qS (s : St) (d n f : Nat) : Int32 := qF s d (behN d) f n (ticksS n s 1 d) (ticksS n s 1 (behN d))
theorem quar_tk {s : St} {n d : Nat} : quarB (ticksS n s) d ↔ wqB s (wordF s d (ticksS n s 1 d)) (wordF s (behN d) (ticksS n s 1 (behN d))) := by
  show ticksS n s 10 0 < _ ↔ s 10 0 < _
  rw [tk_r (r := 10) (by decide) (by decide) (by decide) (by decide) n, word_tk, word_tk]
theorem qS_t {s : St} {d n f : Nat} (h : quarB (ticksS n s) d) : qS s d n (f + 1) = nI n := by
  unfold qS
  rw [qF, if_pos (quar_tk.mp h)]
theorem qS_f {s : St} {d n f : Nat} (hd : d < 7) (h : ¬ quarB (ticksS n s) d) : qS s d n (f + 1) = qS s d (n + 1) f := by
  unfold qS
  rw [qF, if_neg (fun q => h (quar_tk.mpr q)), tk_1 hd, tk_1 behN_lt]
theorem q_fin {x y : Int32} (h1 : x = -1 → y = -1) (h2 : ¬ x = -1 → y = x) : x = y := by
  by_cases h : x = -1
  · rw [h1 h, h]
  · exact (h2 h).symm
theorem nI_m1 {n : Nat} (h : n < 1000) : ¬ nI n = -1 := by
  intro q
  have e : (nI n).toInt = (n : Int) := Int32.toInt_ofNat_of_lt (by omega)
  have := congrArg Int32.toInt q
  rw [e, show (-1 : Int32).toInt = -1 by decide] at this
  omega
theorem back_cv {D : va_G} {H : Heap} {cI : ClassId} {b : Nat → Nat} {s t kp : St} {hf : Nat → St} {sc ad bf : Nat → Int32} (hP : HP D 6 b (emC cI b (upR (mdl t kp hf sc (cpN (fl s) ad 69) bf) 1 (cpN ((mdl t kp hf sc (cpN (fl s) ad 69) bf) 2) ((mdl t kp hf sc (cpN (fl s) ad 69) bf) 1) 69))) H) : HP D 6 b (emC cI b (mdl s kp hf sc (cpN (fl s) ad 69) bf)) H := by
  refine HP.cong (cA := cI) hP (fun k hk => ?_)
  match k, hk with
  | 0, _ => exact Or.inl rfl
  | 1, _ =>
    refine Or.inr ⟨69, _, _, rfl, rfl, fun j hj => ?_⟩
    show cpN (cpN (fl s) ad 69) (fl t) 69 j = fl s j
    rw [cpN_at 69 hj, cpN_at 69 hj]
  | 2, _ => exact Or.inl rfl
  | 3, _ => exact Or.inl rfl
  | 4, _ => exact Or.inl rfl
  | 5, _ => exact Or.inl rfl
  | n + 6, hk => exact absurd hk (by omega)
/-! the bits of a share, as the reference makes them -/
theorem shl_mul {x : Int64} {k : Int32} : x <<< (k.toInt64 &&& 63) = x * unitL k := by
  unfold unitL
  apply Int64.toBitVec_inj.mp
  rw [Int64.toBitVec_mul, Int64.toBitVec_shiftLeft, Int64.toBitVec_shiftLeft]
  generalize (k.toInt64 &&& 63).toBitVec.smod 64 = y
  show x.toBitVec <<< y.toNat = x.toBitVec * ((1 : Int64).toBitVec <<< y.toNat)
  rw [show (1 : Int64).toBitVec = 1#64 from rfl, BitVec.shiftLeft_eq_mul_twoPow, BitVec.twoPow_eq]
theorem oi_s1 {i : Nat} {b : Int32} : Int32.ofInt (i : Int) + b + 1 = Int32.ofInt ((i + 1 : Nat) : Int) + b := by
  have h := oi_succ (i := 0) (j := i)
  rw [Int.zero_add, Int.zero_add] at h
  rw [← h, Int32.add_assoc, Int32.add_comm b 1, ← Int32.add_assoc]
theorem oi_p1 {i j : Nat} {b : Int32} : Int32.ofInt ((i : Int) - (j : Int)) + b + (-1) = Int32.ofInt ((i : Int) - ((j + 1 : Nat) : Int)) + b := by
  rw [Int32.add_assoc, Int32.add_comm b (-1), ← Int32.add_assoc, show (-1 : Int32) = Int32.ofInt (-1) from by decide, ← Int32.ofInt_add]
  congr 2
  omega
theorem c_zl {x : UInt64} (h : dOk x) (hv : Op.cmpValue (FP.dcmp x FP.dconst0) .l = 0) : x = 0 := by
  rcases h with h | ⟨c, q, h, -⟩
  · exact h
  · rw [d_pos h] at hv
    exact absurd hv (by decide)
theorem c_nl {x : UInt64} (h : dOk x) (hv : ¬ Op.cmpValue (FP.dcmp x FP.dconst0) .l = 0) : ∃ (c : Nat) (q : Int), dNrm x c q ∧ -500 ≤ q ∧ q ≤ 500 := by
  rcases h with h | h
  · subst h
    rw [d_zer] at hv
    exact absurd (by decide) hv
  · exact h
/-- what is left of a share above 1, made larger step by step -/
def dblP (x z : UInt64) (n : Nat) : Prop := (x = 0 ∧ z = 0) ∨ ∃ (d : Nat) (r : Int), dNrm x d r ∧ -104 ≤ r ∧ r ≤ -52 ∧ dNrm z d (r + (n : Int))
theorem dbl_0 {x : UInt64} {c : Nat} (h : dNrm x c (-52)) : dblP (FP.dsub x FP.dconst1) (FP.dsub x FP.dconst1) 0 := by
  rcases d_sub1 h with h1 | ⟨d, r, h1, h2, h3⟩
  · exact Or.inl ⟨h1, h1⟩
  · exact Or.inr ⟨d, r, h1, h2, h3, by rw [show r + ((0 : Nat) : Int) = r by omega]; exact h1⟩
theorem dbl_s {x z : UInt64} {n : Nat} (h : dblP x z n) (hn : n ≤ 900) : dblP x (FP.dmul z 4611686018427387904) (n + 1) := by
  rcases h with ⟨h1, h2⟩ | ⟨d, r, h1, h2, h3, h4⟩
  · exact Or.inl ⟨h1, by rw [h2]; exact d_mul0 dec_2⟩
  · refine Or.inr ⟨d, r, h1, h2, h3, ?_⟩
    have h9 := d_mul2 h4 (by omega)
    rw [show r + (n : Int) + 1 = r + ((n + 1 : Nat) : Int) by omega] at h9
    exact h9
theorem dbl_vf {x z : UInt64} {n : Nat} (h : dblP x z n) : vf_n64 z := by
  rcases h with ⟨h1, h2⟩ | ⟨d, r, h1, h2, h3, h4⟩
  · rw [h2]; exact vf_0
  · exact h4.vf
theorem dbl_u {x z u : UInt64} {k : Nat} (h : dblP x z k) (hk : k ≤ 100) (hu : FP.Core.decode FP.Core.b64 u.toNat = .fin false 4503599627370496 ((k : Int) - 52)) : z = FP.dmul x u := by
  rcases h with ⟨h1, h2⟩ | ⟨d, r, h1, h2, h3, h4⟩
  · rw [h1, h2]; exact (d_mul0 hu).symm
  · exact h4.one (d_mulU h1 hu (by omega))
theorem bits_fin {x z : UInt64} {c k i j : Nat} {q : Int} {b : Int32} (hn : dNrm x c q) (hq : q - (i : Int) + (j : Int) = -52) (hz : dblP (FP.dsub (mk64 c) FP.dconst1) z k) (hk : k ≤ 100) (hU : FP.Core.decode FP.Core.b64 (FP.l2d (unitL (nI k))).toNat = .fin false 4503599627370496 ((k : Int) - 52)) : (Int32.ofInt ((i : Int) - (j : Int)) + b).toInt64 <<< ((nI k).toInt64 &&& 63) + FP.d2l z = bitsX x (nI k) b := by
  rw [bitsX_n hn, shl_mul, show q + 52 = (i : Int) - (j : Int) by omega, dbl_u hz hk hU]
def kI (x : Int32) : Int32 := if x = 0 then 0 else 1
theorem kI_l {x : Int32} : (kI x).toInt64 = if x = 0 then (0 : Int64) else 1 := by
  unfold kI
  split
  · rfl
  · rfl
/-! the reference's worlds behind keep, goBack, undo -/
theorem mdl_sc {s kp : St} {hf : Nat → St} {sc ad bf : Nat → Int32} {k : Nat} {v : Int32} : up2 (mdl s kp hf sc ad bf) 0 k v = mdl s kp hf (upd sc k v) ad bf := by
  funext r
  match r with
  | 0 => rfl
  | 1 => rfl
  | 2 => rfl
  | 3 => rfl
  | 4 => rfl
  | n + 5 => rfl
theorem keep_cv {D : va_G} {H : Heap} {cI : ClassId} {b : Nat → Nat} {s kp : St} {hf : Nat → St} {sc ad bf : Nat → Int32} (hP : HP D 6 b (emC cI b (up2 (upR (up2 (mdl s kp hf sc ad bf) 0 3 0) 4 (cpN ((mdl s kp hf sc ad bf) 1) ((mdl s kp hf sc ad bf) 4) 69)) 0 1 1)) H) : HP D 6 b (emC cI b (mdl s s hf (upd (upd sc 3 0) 1 1) ad bf)) H := by
  refine HP.cong (cA := cI) hP (fun k hk => ?_)
  match k, hk with
  | 0, _ => exact Or.inl rfl
  | 1, _ => exact Or.inl rfl
  | 2, _ => exact Or.inl rfl
  | 3, _ => exact Or.inl rfl
  | 4, _ =>
    refine Or.inr ⟨69, _, _, rfl, rfl, fun j hj => ?_⟩
    show cpN (fl s) (fl kp) 69 j = fl s j
    rw [cpN_at 69 hj]
  | 5, _ => exact Or.inl rfl
  | n + 6, hk => exact absurd hk (by omega)
theorem undo_cv {D : va_G} {H : Heap} {cI : ClassId} {b : Nat → Nat} {s kp : St} {hf : Nat → St} {sc ad bf : Nat → Int32} {kn : Nat} (hP : HP D 6 b (emC cI b (upR (up2 (up2 (mdl s kp hf sc ad bf) 0 3 0) 0 0 (nI kn)) 1 (unN ((mdl s kp hf sc ad bf) 1) ((mdl s kp hf sc ad bf) 3) kn 69))) H) : HP D 6 b (emC cI b (mdl (hf kn) kp hf (upd (upd sc 3 0) 0 (nI kn)) ad bf)) H := by
  refine HP.cong (cA := cI) hP (fun k hk => ?_)
  match k, hk with
  | 0, _ => exact Or.inl rfl
  | 1, _ =>
    refine Or.inr ⟨69, _, _, rfl, rfl, fun j hj => ?_⟩
    show unN (fl s) (mdl s kp hf sc ad bf 3) kn 69 j = fl (hf kn) j
    rw [unN_at 69 hj]
    show fl (hf ((69 * kn + j) / 69)) ((69 * kn + j) % 69) = _
    rw [show (69 * kn + j) / 69 = kn by omega, show (69 * kn + j) % 69 = j by omega]
  | 2, _ => exact Or.inl rfl
  | 3, _ => exact Or.inl rfl
  | 4, _ => exact Or.inl rfl
  | 5, _ => exact Or.inl rfl
  | n + 6, hk => exact absurd hk (by omega)
theorem gb_cv {D : va_G} {H : Heap} {cI : ClassId} {b : Nat → Nat} {s kp : St} {hf : Nat → St} {sc ad bf : Nat → Int32} {kn : Nat} (hkn : kn ≤ 6) (hP : HP D 6 b (emC cI b (upR (svM (mdl s kp hf sc ad bf) kn) 1 (cpN ((svM (mdl s kp hf sc ad bf) kn) 4) ((svM (mdl s kp hf sc ad bf) kn) 1) 69))) H) : HP D 6 b (emC cI b (mdl kp kp (svH hf kn s) (upd sc 0 (nI (svQ kn + 1))) ad bf)) H := by
  by_cases h : kn = 6
  · subst h
    refine HP.cong (cA := cI) hP (fun k hk => ?_)
    unfold svM
    rw [if_pos rfl]
    match k, hk with
    | 0, _ => exact Or.inl rfl
    | 1, _ =>
      refine Or.inr ⟨69, _, _, rfl, rfl, fun j hj => ?_⟩
      show cpN (fl kp) (fl s) 69 j = fl kp j
      rw [cpN_at 69 hj]
    | 2, _ => exact Or.inl rfl
    | 3, _ =>
      refine Or.inr ⟨414, _, _, rfl, rfl, fun j hj => ?_⟩
      show stN (shN (mdl s kp hf sc ad bf 3) 345) (mdl s kp hf sc ad bf 1) 5 69 j = fl (svH hf 6 s (j / 69)) (j % 69)
      rw [stN_at, shN_at]
      unfold svH
      rw [if_pos rfl]
      by_cases h1 : j < 345
      · rw [if_neg (by omega), if_pos h1, if_pos (by omega)]
        show fl (hf ((69 + j) / 69)) ((69 + j) % 69) = _
        rw [show (69 + j) / 69 = j / 69 + 1 by omega, show (69 + j) % 69 = j % 69 by omega]
      · rw [if_pos (by omega), if_neg (by omega)]
        show fl s (j - 69 * 5) = fl s (j % 69)
        rw [show j - 69 * 5 = j % 69 by omega]
    | 4, _ => exact Or.inl rfl
    | 5, _ => exact Or.inl rfl
    | n + 6, hk => exact absurd hk (by omega)
  · refine HP.cong (cA := cI) hP (fun k hk => ?_)
    unfold svM
    rw [if_neg h, show svQ kn = kn from if_neg h]
    match k, hk with
    | 0, _ => exact Or.inl rfl
    | 1, _ =>
      refine Or.inr ⟨69, _, _, rfl, rfl, fun j hj => ?_⟩
      show cpN (fl kp) (fl s) 69 j = fl kp j
      rw [cpN_at 69 hj]
    | 2, _ => exact Or.inl rfl
    | 3, _ =>
      refine Or.inr ⟨414, _, _, rfl, rfl, fun j hj => ?_⟩
      show stN (mdl s kp hf sc ad bf 3) (mdl s kp hf sc ad bf 1) kn 69 j = fl (svH hf kn s (j / 69)) (j % 69)
      rw [stN_at]
      unfold svH
      rw [if_neg h]
      by_cases h1 : 69 * kn ≤ j ∧ j < 69 * kn + 69
      · rw [if_pos h1, if_pos (by omega)]
        show fl s (j - 69 * kn) = fl s (j % 69)
        rw [show j - 69 * kn = j % 69 by omega]
      · rw [if_neg h1, if_neg (by omega)]
        rfl
    | 4, _ => exact Or.inl rfl
    | 5, _ => exact Or.inl rfl
    | n + 6, hk => exact absurd hk (by omega)
