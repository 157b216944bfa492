/-! the law: what holds between the class and the reference after each call; the law's rows -/
def LI (T : Int) (s : St) (st : Nat → St) (pi : Nat → Nat) (mi kp : St) (hf : Nat → St) (sc : Nat → Int32) (sz ln : Nat) : Prop :=
  sz ≤ 6 ∧ (∀ k, k < 6 → pi k < 6) ∧ (∀ i j, i < 6 → j < 6 → pi i = pi j → i = j) ∧ (∀ k, k < sz → hf k = st (pi k + 1) ∧ Bd T (hf k)) ∧ Bd T s ∧ ln ≤ 60 ∧ mi 0 0 = nI sz ∧ mi 0 1 = nI ln ∧ sc 0 = nI sz ∧ sc 2 = nI ln ∧ sc 1 = mi 0 2 ∧ (¬ mi 0 2 = 0 → kp = st 0 ∧ Bd T kp)
theorem rotP_inj {pi : Nat → Nat} (h : ∀ i j, i < 6 → j < 6 → pi i = pi j → i = j) : ∀ i j, i < 6 → j < 6 → rotP pi i = rotP pi j → i = j := by
  intro i j hi hj e
  rw [rotP_at hi, rotP_at hj] at e
  by_cases h1 : i < 5 <;> by_cases h2 : j < 5
  · rw [if_pos h1, if_pos h2] at e
    have := h _ _ (by omega) (by omega) e; omega
  · rw [if_pos h1, if_neg h2] at e
    have := h _ _ (by omega) (by omega) e; omega
  · rw [if_neg h1, if_pos h2] at e
    have := h _ _ (by omega) (by omega) e; omega
  · omega
theorem svPi_lt {pi : Nat → Nat} {sz : Nat} (h : ∀ k, k < 6 → pi k < 6) : ∀ k, k < 6 → svPi pi sz k < 6 := by
  unfold svPi; split
  · exact rotP_lt h
  · exact h
theorem svPi_inj {pi : Nat → Nat} {sz : Nat} (h : ∀ i j, i < 6 → j < 6 → pi i = pi j → i = j) : ∀ i j, i < 6 → j < 6 → svPi pi sz i = svPi pi sz j → i = j := by
  unfold svPi; split
  · exact rotP_inj h
  · exact h
theorem svQ_lt {sz : Nat} (h : sz ≤ 6) : svQ sz < 6 := by unfold svQ; split <;> omega
theorem va_up_k {f : Nat → St} {k : Nat} {v : St} : va_up f k v k = v := if_pos rfl
theorem va_up_o {f : Nat → St} {k j : Nat} {v : St} (h : j ≠ k) : va_up f k v j = f j := if_neg h
theorem LI.hist {T : Int} {s : St} {st : Nat → St} {pi : Nat → Nat} {mi kp : St} {hf : Nat → St} {sc : Nat → Int32} {sz ln : Nat} (h : LI T s st pi mi kp hf sc sz ln) {T' : Int} (hT : T ≤ T') : ∀ k, k < svQ sz + 1 → svH hf sz s k = va_up st (svPi pi sz (svQ sz) + 1) s (svPi pi sz k + 1) ∧ Bd T' (svH hf sz s k) := by
  intro k hk
  obtain ⟨h1, h2, h3, h4, h5, h6, h7, h8, h9, h10, h11, h12⟩ := h
  have hq := svQ_lt h1
  have hinj := svPi_inj (sz := sz) h3
  by_cases h6' : sz = 6
  · subst h6'
    have e5 : svQ 6 = 5 := rfl
    rw [e5] at hk ⊢
    unfold svH
    rw [if_pos rfl]
    by_cases hk5 : k < 5
    · rw [if_pos hk5, va_up_o (fun q => by have := hinj k 5 (by omega) (by omega) (by omega); omega)]
      have e : svPi pi 6 k = pi (k + 1) := by
        show (if (6 : Nat) = 6 then rotP pi else pi) k = _
        rw [if_pos rfl, rotP_at (by omega), if_pos hk5]
      rw [e]
      exact ⟨(h4 (k + 1) (by omega)).1, (h4 (k + 1) (by omega)).2.mono hT⟩
    · have e : k = 5 := by omega
      subst e
      rw [if_neg (by omega), va_up_k]
      exact ⟨rfl, h5.mono hT⟩
  · have e5 : svQ sz = sz := if_neg h6'
    have ep : svPi pi sz = pi := if_neg h6'
    rw [e5] at hk ⊢
    rw [ep]
    unfold svH
    rw [if_neg h6']
    by_cases hk5 : k = sz
    · subst hk5
      rw [if_pos rfl, va_up_k]
      exact ⟨rfl, h5.mono hT⟩
    · rw [if_neg hk5, va_up_o (fun q => by have := h3 k sz (by omega) (by omega) (by omega); omega)]
      exact ⟨(h4 k (by omega)).1, (h4 k (by omega)).2.mono hT⟩
/-- behind a call that saves -/
theorem LI.sv {T : Int} {s : St} {st : Nat → St} {pi : Nat → Nat} {mi kp : St} {hf : Nat → St} {sc : Nat → Int32} {sz ln : Nat} (h : LI T s st pi mi kp hf sc sz ln) {T' : Int} {s' mi' : St} {sc' : Nat → Int32} {ln' : Nat} (hT : T ≤ T') (hB : Bd T' s') (hln : ln' ≤ 60) (e0 : mi' 0 0 = nI (svQ sz + 1)) (e1 : mi' 0 1 = nI ln') (e2 : mi' 0 2 = mi 0 2) (f0 : sc' 0 = nI (svQ sz + 1)) (f1 : sc' 1 = sc 1) (f2 : sc' 2 = nI ln') :
    LI T' s' (va_up st (svPi pi sz (svQ sz) + 1) s) (svPi pi sz) mi' kp (svH hf sz s) sc' (svQ sz + 1) ln' := by
  have hh := h.hist hT
  obtain ⟨h1, h2, h3, h4, h5, h6, h7, h8, h9, h10, h11, h12⟩ := h
  have hq := svQ_lt h1
  refine ⟨by omega, svPi_lt h2, svPi_inj h3, hh, hB, hln, e0, e1, f0, f2, by rw [f1, e2]; exact h11, fun hn => ?_⟩
  rw [e2] at hn
  have h9' := h12 hn
  exact ⟨h9'.1.trans (va_up_o (by omega)).symm, h9'.2.mono hT⟩
/-- behind a call that looks alone, or that touches the buffer -/
theorem LI.lk {T : Int} {s : St} {st : Nat → St} {pi : Nat → Nat} {mi kp : St} {hf : Nat → St} {sc : Nat → Int32} {sz ln : Nat} (h : LI T s st pi mi kp hf sc sz ln) {T' : Int} {mi' : St} {sc' : Nat → Int32} {ln' : Nat} (hT : T ≤ T') (hln : ln' ≤ 60) (e0 : mi' 0 0 = mi 0 0) (e1 : mi' 0 1 = nI ln') (e2 : mi' 0 2 = mi 0 2) (f0 : sc' 0 = sc 0) (f1 : sc' 1 = sc 1) (f2 : sc' 2 = nI ln') :
    LI T' s st pi mi' kp hf sc' sz ln' := by
  obtain ⟨h1, h2, h3, h4, h5, h6, h7, h8, h9, h10, h11, h12⟩ := h
  refine ⟨h1, h2, h3, fun k hk => ⟨(h4 k hk).1, (h4 k hk).2.mono hT⟩, h5.mono hT, hln, e0.trans h7, e1, f0.trans h9, f2, by rw [f1, e2]; exact h11, fun hn => ?_⟩
  rw [e2] at hn
  exact ⟨(h12 hn).1, (h12 hn).2.mono hT⟩
theorem LI.kp {T : Int} {s : St} {st : Nat → St} {pi : Nat → Nat} {mi kp : St} {hf : Nat → St} {sc : Nat → Int32} {sz ln : Nat} (h : LI T s st pi mi kp hf sc sz ln) {T' : Int} {mi' : St} {sc' : Nat → Int32} (hT : T ≤ T') (e0 : mi' 0 0 = mi 0 0) (e1 : mi' 0 1 = mi 0 1) (e2 : mi' 0 2 = 1) (f0 : sc' 0 = sc 0) (f1 : sc' 1 = 1) (f2 : sc' 2 = sc 2) :
    LI T' s (va_up st 0 s) pi mi' s hf sc' sz ln := by
  obtain ⟨h1, h2, h3, h4, h5, h6, h7, h8, h9, h10, h11, h12⟩ := h
  exact ⟨h1, h2, h3, fun k hk => ⟨(h4 k hk).1.trans (va_up_o (by omega)).symm, (h4 k hk).2.mono hT⟩, h5.mono hT, h6, e0.trans h7, e1.trans h8, f0.trans h9, f2.trans h10, f1.trans e2.symm, fun _ => ⟨va_up_k.symm, h5.mono hT⟩⟩
theorem LI.un {T : Int} {s : St} {st : Nat → St} {pi : Nat → Nat} {mi kp : St} {hf : Nat → St} {sc : Nat → Int32} {sz ln : Nat} (h : LI T s st pi mi kp hf sc sz ln) {T' : Int} {mi' : St} {sc' : Nat → Int32} (hT : T ≤ T') (h0 : 1 ≤ sz) (e0 : mi' 0 0 = nI (sz - 1)) (e1 : mi' 0 1 = mi 0 1) (e2 : mi' 0 2 = mi 0 2) (f0 : sc' 0 = nI (sz - 1)) (f1 : sc' 1 = sc 1) (f2 : sc' 2 = sc 2) :
    LI T' (st (pi (sz - 1) + 1)) st pi mi' kp hf sc' (sz - 1) ln := by
  obtain ⟨h1, h2, h3, h4, h5, h6, h7, h8, h9, h10, h11, h12⟩ := h
  refine ⟨by omega, h2, h3, fun k hk => ⟨(h4 k (by omega)).1, (h4 k (by omega)).2.mono hT⟩, ?_, h6, e0, e1.trans h8, f0, f2.trans h10, by rw [f1, e2]; exact h11, fun hn => ?_⟩
  · have := h4 (sz - 1) (by omega)
    rw [← this.1]; exact this.2.mono hT
  · rw [e2] at hn
    exact ⟨(h12 hn).1, (h12 hn).2.mono hT⟩
/-! bounds of what the calls make -/
theorem Bd.put {T : Int} {s : St} {d : Nat} {y : Int32} (h : Bd T s) (hd : d < 7) (hy : witB y 0 99999) : Bd T (mvS s d y) := by
  have h1 := wit_i.mp hy
  rw [show (0 : Int32).toInt = 0 by decide, show (99999 : Int32).toInt = 99999 by decide] at h1
  exact h.mv hd h1.1 h1.2
theorem Bd.drf {T : Int} {s : St} {d : Nat} {y : Int32} (h : Bd T s) (hy : witB y (-5) 5) : Bd T (up2 s 2 d y) := by
  have h1 := wit_i.mp hy
  rw [show (-5 : Int32).toInt = -5 by decide, show (5 : Int32).toInt = 5 by decide] at h1
  exact h.dr h1
theorem Bd.lie {T : Int} {s : St} {w : Nat} {y : Int32} (h : Bd T s) (hy : witB y (-60) 60) : Bd T (up2 s 8 w y) := by
  have h1 := wit_i.mp hy
  rw [show (-60 : Int32).toInt = -60 by decide, show (60 : Int32).toInt = 60 by decide] at h1
  refine ⟨fun k hk => ?_, ?_, ?_, ?_⟩
  · have hb := h.1 k hk
    rw [up2_o (show 1 ≠ 8 by decide), up2_o (show 2 ≠ 8 by decide), up2_o (show 7 ≠ 8 by decide), up2_e]
    by_cases hq : k = w
    · subst hq; rw [show upd (s 8) k y k = y from if_pos rfl]; exact ⟨hb.1, hb.2.1, hb.2.2.1, hb.2.2.2.1, hb.2.2.2.2.1, hb.2.2.2.2.2.1, h1⟩
    · rw [show upd (s 8) w y k = s 8 k from if_neg hq]; exact hb
  · rw [up2_o (by decide)]; exact h.2.1
  · rw [up2_o (by decide)]; exact h.2.2.1
  · rw [up2_o (by decide)]; exact h.2.2.2
theorem Bd.wrd {T : Int} {s : St} {w : Nat} {x y : Int32} (h : Bd T s) (hw : w < 7) (hx : witB x 0 9) (hy : witB y (-60) 60) : Bd T (up2 (up2 s 7 w x) 8 w y) := by
  have h1 := wit_i.mp hx
  rw [show (0 : Int32).toInt = 0 by decide, show (9 : Int32).toInt = 9 by decide] at h1
  exact (h.wt hw h1).lie hy
theorem Bd.stg {T : Int} {s : St} {q : Nat} {y : Int32} (h : Bd T s) (hy : witB y 0 99) : Bd T (up2 s 10 q y) := by
  have h1 := wit_i.mp hy
  rw [show (0 : Int32).toInt = 0 by decide, show (99 : Int32).toInt = 99 by decide] at h1
  refine ⟨fun k hk => ?_, ?_, fun k hk => ?_, ?_⟩
  · rw [up2_o (by decide), up2_o (by decide), up2_o (by decide), up2_o (by decide)]; exact h.1 k hk
  · rw [up2_o (by decide)]; exact h.2.1
  · rw [up2_e]
    by_cases hq : k = q
    · subst hq; rw [show upd (s 10) k y k = y from if_pos rfl]; exact h1
    · rw [show upd (s 10) q y k = s 10 k from if_neg hq]; exact h.2.2.1 k hk
  · rw [up2_o (by decide)]; exact h.2.2.2
theorem Bd.ob {s : St} {b : Nat → Int32} {ln : Nat} : ∀ (f p : Nat) {T : Int} {t : St} {n : Int32}, ln - p ≤ f → p ≤ ln → T + 1000 * f ≤ 1000000000 → Bd T t → psB b ln p → (dN b (ln - p) p 0 = 2 ∨ dN b (ln - p) p 0 = 3) → Bd (T + 1000 * f) (obF b ln (ln - p) p t n).1
  | 0, p, T, t, n, hf, hp, hT, hB, hs, hd => by
    have e : p = ln := by omega
    subst e
    rw [ob_en]; exact hB.mono (by omega)
  | f + 1, p, T, t, n, hf, hp, hT, hB, hs, hd => by
    obtain ⟨E, h4, h5⟩ := pt_of hp hd
    obtain ⟨h6, h7, h8⟩ := pt_lt h4
    have hB2 := hB.part (by omega) h4
    by_cases hb : partB b ln p t
    · rw [ob_go h4 hs hb]
      by_cases hE : E < ln
      · have h11 := pk_go h5 hd hE
        rw [ob_nx h4 hE]
        have := Bd.ob (s := s) f (E + 1) (T := T + 1000) (t := partS b ln p t) (n := n + 1) (by omega) (by omega) (by omega) hB2 (ps_59 hE h11.1) h11.2
        exact this.mono (by omega)
      · rw [ob_en2 (by omega)]; exact hB2.mono (by omega)
    · rw [ob_no h8 hs hb]; exact hB2.mono (by omega)
theorem Bd.obey {T : Int} {s : St} {b : Nat → Int32} {ln : Nat} (h : Bd T s) (hT : T ≤ 400000000) (hln : ln ≤ 60) (hc : cmpB b ln) : Bd (T + 60000) (obF b ln ln 0 s 0).1 := by
  have := Bd.ob (s := s) (b := b) (ln := ln) ln 0 (T := T) (t := s) (n := 0) (by omega) (by omega) (by omega) h (Or.inl rfl) hc
  exact this.mono (by omega)
theorem wit_nat {x : Int32} {hi : Nat} {h9 : Int32} (he : h9 = nI hi) (hh : hi < 2 ^ 31) (h : witB x 0 h9) : ∃ d, d ≤ hi ∧ x = nI d := by
  subst he
  have h1 := wit_i.mp h
  have e : (nI hi).toInt = (hi : Int) := Int32.toInt_ofNat_of_lt (by omega)
  rw [i_0, e] at h1
  refine ⟨x.toInt.toNat, by omega, ?_⟩
  rw [i_eq]
  have e2 : (nI x.toInt.toNat).toInt = (x.toInt.toNat : Int) := Int32.toInt_ofNat_of_lt (by omega)
  rw [e2]; omega
theorem wit_nat1 {x : Int32} (h : witB x 1 99) : ∃ n, (1 ≤ n ∧ n ≤ 99) ∧ x = nI n := by
  have h1 := wit_i.mp h
  rw [show (1 : Int32).toInt = 1 by decide, show (99 : Int32).toInt = 99 by decide] at h1
  refine ⟨x.toInt.toNat, by omega, ?_⟩
  rw [i_eq]
  have e2 : (nI x.toInt.toNat).toInt = (x.toInt.toNat : Int) := Int32.toInt_ofNat_of_lt (by omega)
  rw [e2]; omega
theorem ord_eq {a : Int} : compare a a = .eq := by show compareOfLessAndEq a a = _; unfold compareOfLessAndEq; rw [if_neg (by omega), if_pos rfl]
theorem dcmp_s {v : UInt64} (h : dOk v) : Op.cmpValue (FP.dcmp v v) .l = 0 := by
  rcases h with h | ⟨c, q, h, -⟩
  · subst h; rw [d_zer0]; rfl
  · rw [d_cmp h.dec h.dec, ord_eq]; rfl
where
  d_zer0 : FP.dcmp 0 0 = some .eq := by decide +kernel
/-! the law's world: the class's cells with the row 'out' at a, the reference's at b, all new since the law began -/
def LC (a b : Nat → Nat) (z0 : Nat) : Prop := DI 114 a ∧ DI 6 b ∧ (∀ i j, i < 114 → j < 6 → a i ≠ b j) ∧ (∀ i, i < 114 → z0 ≤ a i) ∧ (∀ j, j < 6 → z0 ≤ b j)
abbrev LA (z0 : Nat) : Nat → Prop := fun q => z0 ≤ q
section LR
variable {p : Program} {l : Launch} {e : Env} {R : Room} {s : State} {m : MethodId} {args : Array Value} {below : List Frame} {meth : Method} {c : Code} {H : Heap} {locs : List Loc} {cells slots : Nat} {Q : State → Prop}
variable {pc : Nat} {ls : Array Slot} {rest st0 : List Value} {cc : ByteArray} {D : va_G} {cI cS cL : ClassId} {a b : Nat → Nat} {ex em : Nat → va_E} {ov : Nat → Int64} {H0 : Heap} {mc ms : Nat} {aa : Array Value} {S : Type} {e' : S → Nat → va_E}
theorem LC.fa {nn : Nat} {q : Nat} (h : LC a b H0.size) (hz : H0.size ≤ H.size) (hn : nn ≤ 114) (hq : AX nn a H.size q) : LA H0.size q := by
  rcases hq with ⟨k, hk, rfl⟩ | hq
  · exact h.2.2.2.1 k (by omega)
  · exact Nat.le_trans hz hq
theorem LC.fb {q : Nat} (h : LC a b H0.size) (hz : H0.size ≤ H.size) (hq : AX 6 b H.size q) : LA H0.size q := by
  rcases hq with ⟨k, hk, rfl⟩ | hq
  · exact h.2.2.2.2 k hk
  · exact Nat.le_trans hz hq
theorem LC.km {H1 : Heap} {nn : Nat} (h : LC a b H0.size) (hn : nn ≤ 114) (hP : HP D 6 b em H) (hk : ∀ q : Nat, q < H.size → ¬ AX nn a H.size q → H1[q]? = H[q]?) : HP D 6 b em H1 := hP.kept (fun k h6 => hk _ (hP.lt h6) (by
  rintro (⟨i, hi, he⟩ | hq)
  · exact h.2.2.1 i k (by omega) h6 he.symm
  · have := hP.lt h6; omega))
theorem LC.kx {H1 : Heap} (h : LC a b H0.size) (hP : HP D 114 a ex H) (hk : ∀ q : Nat, q < H.size → ¬ AX 6 b H.size q → H1[q]? = H[q]?) : HP D 114 a ex H1 := hP.kept (fun k h6 => hk _ (hP.lt h6) (by
  rintro (⟨i, hi, he⟩ | hq)
  · exact h.2.2.1 k i h6 hi he
  · have := hP.lt h6; omega))
/-- a helper of the law: the class's cells and 'out' -/
theorem lwL_i {post : Int32 → S → Prop} (hL : LC a b H0.size) (hS : va_S (LA H0.size) H0 H locs) (hPm : HP D 6 b em H) (hr : va_Run p l e R s m args below meth c H locs cells slots mc ms (F0 m pc ls st0) rest (va_Qi post (BW D 114 a e') (AX 114 a H.size) aa) (AX 114 a H.size))
    (kk : ∀ (r : Int32) (u : S) (H1 : Heap) (locs1 : List Loc), post r u → HP D 114 a (e' u) H1 → HP D 6 b em H1 → va_S (LA H0.size) H0 H1 locs1 → W p l e R s m args below meth c H1 locs1 (cells + mc) (slots + ms) Q (F0 m (pc + 3) ls (.int r :: rest))) : W p l e R s m args below meth c H locs cells slots Q (F0 m pc ls st0) :=
  va_calli hr hS (fun q _ h => hL.fa hS.1 (Nat.le_refl _) h) (fun q h => hL.fa hS.1 (Nat.le_refl _) h) (fun r u t H1 locs1 ht _ hp hB _ hk hS1 => kk r u H1 locs1 hp (ht ▸ hB) (hL.km (Nat.le_refl _) hPm hk) hS1)
theorem lwX_j {H1 : Heap} (hL : LC a b H0.size) (hPx : HP D 114 a (exOf ex cL ov) H) {e1 : Nat → va_E} (hB : HP D 113 a e1 H1) (hk : ∀ q : Nat, q < H.size → ¬ AX 113 a H.size q → H1[q]? = H[q]?) : HP D 114 a (exOf e1 cL ov) H1 :=
  HP.join (sub := fun k => k) (e' := e1) hPx hL.1 (fun k hk => by omega) hk hB (fun k hk => ex_l hk) (fun j hj hq => by
      have h113 : ¬ j < 113 := fun q => hq j q rfl
      unfold exOf
      rw [if_neg h113, if_neg h113])
/-- a method of the class, called by the law itself -/
theorem lwX_i {post : Int32 → S → Prop} (hL : LC a b H0.size) (hS : va_S (LA H0.size) H0 H locs) (hPx : HP D 114 a (exOf ex cL ov) H) (hPm : HP D 6 b em H) (hr : va_Run p l e R s m args below meth c H locs cells slots 0 0 (F0 m pc ls st0) rest (va_Qi post (BW D 113 a e') (AX 113 a H.size) aa) (AX 113 a H.size))
    (kk : ∀ (r : Int32) (u : S) (H1 : Heap) (locs1 : List Loc), post r u → HP D 114 a (exOf (e' u) cL ov) H1 → HP D 6 b em H1 → va_S (LA H0.size) H0 H1 locs1 → W p l e R s m args below meth c H1 locs1 cells slots Q (F0 m (pc + 3) ls (.int r :: rest))) : W p l e R s m args below meth c H locs cells slots Q (F0 m pc ls st0) :=
  va_calli hr hS (fun q _ h => hL.fa hS.1 (by decide) h) (fun q h => hL.fa hS.1 (by decide) h) (fun r u t H1 locs1 ht _ hp hB _ hk hS1 => kk r u H1 locs1 hp (lwX_j hL hPx (ht ▸ hB) hk) (hL.km (by decide) hPm hk) hS1)
theorem lwX_l {post : Int64 → S → Prop} (hL : LC a b H0.size) (hS : va_S (LA H0.size) H0 H locs) (hPx : HP D 114 a (exOf ex cL ov) H) (hPm : HP D 6 b em H) (hr : va_Run p l e R s m args below meth c H locs cells slots 0 0 (F0 m pc ls st0) rest (va_Ql post (BW D 113 a e') (AX 113 a H.size) aa) (AX 113 a H.size))
    (kk : ∀ (r : Int64) (u : S) (H1 : Heap) (locs1 : List Loc), post r u → HP D 114 a (exOf (e' u) cL ov) H1 → HP D 6 b em H1 → va_S (LA H0.size) H0 H1 locs1 → W p l e R s m args below meth c H1 locs1 cells slots Q (F0 m (pc + 3) ls (.long r :: rest))) : W p l e R s m args below meth c H locs cells slots Q (F0 m pc ls st0) :=
  va_calll hr hS (fun q _ h => hL.fa hS.1 (by decide) h) (fun q h => hL.fa hS.1 (by decide) h) (fun r u t H1 locs1 ht _ hp hB _ hk hS1 => kk r u H1 locs1 hp (lwX_j hL hPx (ht ▸ hB) hk) (hL.km (by decide) hPm hk) hS1)
/-- a method of the reference -/
theorem lwM_i {post : Int32 → S → Prop} (hL : LC a b H0.size) (hS : va_S (LA H0.size) H0 H locs) (hPx : HP D 114 a ex H) (hr : va_Run p l e R s m args below meth c H locs cells slots 0 0 (F0 m pc ls st0) rest (va_Qi post (BW D 6 b e') (AX 6 b H.size) aa) (AX 6 b H.size))
    (kk : ∀ (r : Int32) (u : S) (H1 : Heap) (locs1 : List Loc), post r u → HP D 114 a ex H1 → HP D 6 b (e' u) H1 → va_S (LA H0.size) H0 H1 locs1 → W p l e R s m args below meth c H1 locs1 cells slots Q (F0 m (pc + 3) ls (.int r :: rest))) : W p l e R s m args below meth c H locs cells slots Q (F0 m pc ls st0) :=
  va_calli hr hS (fun q _ h => hL.fb hS.1 h) (fun q h => hL.fb hS.1 h) (fun r u t H1 locs1 ht _ hp hB _ hk hS1 => kk r u H1 locs1 hp (hL.kx hPx hk) (ht ▸ hB) hS1)
theorem lwM_l {post : Int64 → S → Prop} (hL : LC a b H0.size) (hS : va_S (LA H0.size) H0 H locs) (hPx : HP D 114 a ex H) (hr : va_Run p l e R s m args below meth c H locs cells slots 0 0 (F0 m pc ls st0) rest (va_Ql post (BW D 6 b e') (AX 6 b H.size) aa) (AX 6 b H.size))
    (kk : ∀ (r : Int64) (u : S) (H1 : Heap) (locs1 : List Loc), post r u → HP D 114 a ex H1 → HP D 6 b (e' u) H1 → va_S (LA H0.size) H0 H1 locs1 → W p l e R s m args below meth c H1 locs1 cells slots Q (F0 m (pc + 3) ls (.long r :: rest))) : W p l e R s m args below meth c H locs cells slots Q (F0 m pc ls st0) :=
  va_calll hr hS (fun q _ h => hL.fb hS.1 h) (fun q h => hL.fb hS.1 h) (fun r u t H1 locs1 ht _ hp hB _ hk hS1 => kk r u H1 locs1 hp (hL.kx hPx hk) (ht ▸ hB) hS1)
theorem lwM_d {post : UInt64 → S → Prop} (hL : LC a b H0.size) (hS : va_S (LA H0.size) H0 H locs) (hPx : HP D 114 a ex H) (hr : va_Run p l e R s m args below meth c H locs cells slots 0 0 (F0 m pc ls st0) rest (va_Qd post (BW D 6 b e') (AX 6 b H.size) aa) (AX 6 b H.size))
    (kk : ∀ (r : UInt64) (u : S) (H1 : Heap) (locs1 : List Loc), post r u → HP D 114 a ex H1 → HP D 6 b (e' u) H1 → va_S (LA H0.size) H0 H1 locs1 → W p l e R s m args below meth c H1 locs1 cells slots Q (F0 m (pc + 3) ls (.double r :: rest))) : W p l e R s m args below meth c H locs cells slots Q (F0 m pc ls st0) :=
  va_calld hr hS (fun q _ h => hL.fb hS.1 h) (fun q h => hL.fb hS.1 h) (fun r u t H1 locs1 ht _ hp hB _ hk hS1 => kk r u H1 locs1 hp (hL.kx hPx hk) (ht ▸ hB) hS1)
theorem lwM_f {post : UInt32 → S → Prop} (hL : LC a b H0.size) (hS : va_S (LA H0.size) H0 H locs) (hPx : HP D 114 a ex H) (hr : va_Run p l e R s m args below meth c H locs cells slots 0 0 (F0 m pc ls st0) rest (va_Qf post (BW D 6 b e') (AX 6 b H.size) aa) (AX 6 b H.size))
    (kk : ∀ (r : UInt32) (u : S) (H1 : Heap) (locs1 : List Loc), post r u → HP D 114 a ex H1 → HP D 6 b (e' u) H1 → va_S (LA H0.size) H0 H1 locs1 → W p l e R s m args below meth c H1 locs1 cells slots Q (F0 m (pc + 3) ls (.float r :: rest))) : W p l e R s m args below meth c H locs cells slots Q (F0 m pc ls st0) :=
  va_callf hr hS (fun q _ h => hL.fb hS.1 h) (fun q h => hL.fb hS.1 h) (fun r u t H1 locs1 ht _ hp hB _ hk hS1 => kk r u H1 locs1 hp (hL.kx hPx hk) (ht ▸ hB) hS1)
theorem g_lcmp0 (hexec : p.tables.exec = Jvm.exec) (hb : c.code = cc) {x y : Int64} (h : x = y) (hdg : decode cc pc = .ok (.lcmp, 1)) (k : W p l e R s m args below meth c H locs cells slots Q (F0 m (pc + 1) ls (.int 0 :: rest))) : W p l e R s m args below meth c H locs cells slots Q (F0 m pc ls (.long y :: .long x :: rest)) := by
  subst h
  have h1 : ¬ x > x := Int64.lt_irrefl
  intro T hT X
  obtain ⟨t, a, b⟩ := k T hT X
  refine ⟨t, ?_, b⟩
  jvm_step X.here [X.here.top, hexec, hb, hdg, h1]
  exact a
theorem g_lald (hexec : p.tables.exec = Jvm.exec) (hb : c.code = cc) (hK : KL D cL s) (hP : HP D 114 a (exOf ex cL ov) H) {v : Int64} (hv : ov 0 = v) (hdg : decode cc pc = .ok (.laload, 1))
    (kk : W p l e R s m args below meth c H locs cells slots Q (F0 m (pc + 1) ls (.long v :: rest))) : W p l e R s m args below meth c H locs cells slots Q (F0 m pc ls (.int 0 :: .ref (a 113) :: rest)) := by
  subst hv
  exact va_lald hexec hb hK hP.l 113 0 (by rw [wl_get (by decide)]; rfl) rfl (vp_in_nI (n := 0) (N := 1) (by decide) (by decide)) hdg kk
theorem g_sld (hexec : p.tables.exec = Jvm.exec) (hb : c.code = cc) {bs L : Nat} {xs : Nat → Int32} (hX : va_X bs L xs s H0) (hbl : bs < H0.size) (hS : va_S (LA H0.size) H0 H locs) {i : Int32} (k : Nat) (hi : i = nI k) (hk : k < L) (hL : L < 2 ^ 31) (hdg : decode cc pc = .ok (.iaload, 1))
    (kk : W p l e R s m args below meth c H locs cells slots Q (F0 m (pc + 1) ls (.int (xs k) :: rest))) : W p l e R s m args below meth c H locs cells slots Q (F0 m pc ls (.int i :: .ref bs :: rest)) := by
  subst hi
  refine va_sld hexec hb hX hbl (Nat.not_le.mpr hbl) hS (vp_in_nI hk hL) hdg ?_
  rw [nI_clamp (by omega)]
  exact kk
end LR
theorem psO {D : va_G} {cI cS cL : ClassId} {s : State} {nn : Nat} {a : Nat → Nat} {e : Nat → va_E} {H : Heap} {As : List Value} (hK : KX D cI cS s) (hP : HP D nn a e H) (hE : DI nn a) (hKL : KL D cL s) (hV : EV s) (hH : EH (fun _ => False) s H) : PreS s H (va_Pc As (PO D cI cS cL nn a e H.size)) As := ⟨pbO, fun U hU hW => ⟨rfl, by rw [hU], by rw [hU]; exact hP, hK.moved hW, hE, va_K.moved hW.alike hKL, hV.warm hW, by rw [hU]; exact hH.moved hW.alike⟩⟩
