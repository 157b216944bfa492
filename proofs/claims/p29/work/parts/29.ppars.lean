/-! orders: the reference's reading, part by part -/
theorem wit1 {x k : Int32} (h : witB x k k) : x = k := by
  rw [i_eq]; have h1 := i_le.mp h.1; have h2 := i_le.mp h.2; omega
theorem wit_i {x lo hi : Int32} : witB x lo hi ↔ lo.toInt ≤ x.toInt ∧ x.toInt ≤ hi.toInt := and_congr i_le i_le
theorem du0 {x : Int32} : dueF 0 x = kindF x := if_pos rfl
theorem du1 {x : Int32} : dueF 1 x = if witB x 49 57 then 2 else -1 := by unfold dueF; rw [if_neg (by decide), if_pos rfl]
theorem du2 {x : Int32} : dueF 2 x = if witB x 48 57 then 3 else partF x := by unfold dueF; rw [if_neg (by decide), if_neg (by decide), if_pos rfl]
theorem du3 {x : Int32} : dueF 3 x = partF x := by unfold dueF; rw [if_neg (by decide), if_neg (by decide), if_neg (by decide), if_pos rfl]
theorem du4 {x : Int32} : dueF 4 x = if witB x 48 54 then 5 else -1 := by unfold dueF; rw [if_neg (by decide), if_neg (by decide), if_neg (by decide), if_neg (by decide), if_pos rfl]
theorem du5 {x : Int32} : dueF 5 x = if x = 43 ∨ x = 45 then 6 else -1 := by unfold dueF; rw [if_neg (by decide), if_neg (by decide), if_neg (by decide), if_neg (by decide), if_neg (by decide), if_pos rfl]
theorem du6 {x : Int32} : dueF 6 x = if witB x 48 53 then 3 else -1 := by unfold dueF; rw [if_neg (by decide), if_neg (by decide), if_neg (by decide), if_neg (by decide), if_neg (by decide), if_neg (by decide), if_pos rfl]
section PARS
variable {b : Nat → Int32} {ln p E : Nat}
def stJ (b : Nat → Int32) (ln p : Nat) (due : Int32) (q : Nat) (due' : Int32) : Prop := errF b ln (ln - p) p due = errF b ln (ln - q) q due' ∧ dN b (ln - p) p due = dN b (ln - q) q due'
theorem stJ_s {due due' : Int32} (hp : p < ln) (h0 : ¬ due = -1) (h : dueF due (b p) = due') (h1 : ¬ due' = -1) : stJ b ln p due (p + 1) due' := by
  unfold stJ
  rw [show ln - p = (ln - (p + 1)) + 1 by omega, errF, dN, h, if_neg h1, if_neg h0]
  exact ⟨rfl, rfl⟩
theorem stJ_t {q r : Nat} {d1 d2 d3 : Int32} (h1 : stJ b ln p d1 q d2) (h2 : stJ b ln q d2 r d3) : stJ b ln p d1 r d3 := ⟨h1.1.trans h2.1, h1.2.trans h2.2⟩
theorem dn_w : ∀ f j, dN b f j (-1) = -1
  | 0, _ => rfl
  | f + 1, j => by rw [dN, if_pos rfl]
def PX (b : Nat → Int32) (ln p E : Nat) : Prop := errF b ln (ln - p) p 0 = nI E ∧ ¬ (dN b (ln - p) p 0 = 2 ∨ dN b (ln - p) p 0 = 3)
def PK (b : Nat → Int32) (ln p E : Nat) : Prop := p < E ∧ E ≤ ln ∧ ∃ due, (due = 2 ∨ due = 3) ∧ stJ b ln p 0 E due ∧ (E < ln → dueF due (b E) = partF (b E))
theorem px_of {due : Int32} (h : stJ b ln p 0 E due) (hE : E ≤ ln) (h0 : ¬ due = -1) (h2 : ¬ (due = 2 ∨ due = 3)) (hx : E < ln → dueF due (b E) = -1) : PX b ln p E := by
  unfold PX
  rw [h.1, h.2]
  by_cases h3 : E < ln
  · rw [show ln - E = (ln - (E + 1)) + 1 by omega, errF, dN, hx h3, if_pos rfl, if_neg h0, dn_w]
    exact ⟨rfl, by decide⟩
  · have e : E = ln := by omega
    subst e
    rw [Nat.sub_self]
    exact ⟨rfl, h2⟩
theorem stJ_0 {due : Int32} : stJ b ln p due p due := ⟨rfl, rfl⟩
theorem s_t (h : p < ln ∧ witB (b p) 116 116) : stJ b ln p 0 (p + 1) 1 := stJ_s h.1 (by decide) (by rw [du0, wit1 h.2]; decide) (by decide)
theorem s_d (h : p < ln ∧ witB (b p) 100 100) : stJ b ln p 0 (p + 1) 4 := stJ_s h.1 (by decide) (by rw [du0, wit1 h.2]; decide) (by decide)
theorem px_t (h1 : p < ln ∧ witB (b p) 116 116) (h2 : ¬ (p + 1 < ln ∧ witB (b (p + 1)) 49 57)) : PX b ln p (p + 1) :=
  px_of (s_t h1) (by omega) (by decide) (by decide) (fun h => by rw [du1, if_neg (fun q => h2 ⟨h, q⟩)])
theorem s_t1 (h1 : p < ln ∧ witB (b p) 116 116) (h2 : p + 1 < ln ∧ witB (b (p + 1)) 49 57) : stJ b ln p 0 (p + 2) 2 :=
  stJ_t (s_t h1) (stJ_s h2.1 (by decide) (by rw [du1, if_pos h2.2]) (by decide))
theorem pk_t1 (h1 : p < ln ∧ witB (b p) 116 116) (h2 : p + 1 < ln ∧ witB (b (p + 1)) 49 57) (h3 : ¬ (p + 2 < ln ∧ witB (b (p + 2)) 48 57)) : PK b ln p (p + 2) :=
  ⟨by omega, by omega, 2, Or.inl rfl, s_t1 h1 h2, fun h => by rw [du2, if_neg (fun q => h3 ⟨h, q⟩)]⟩
theorem pk_t2 (h1 : p < ln ∧ witB (b p) 116 116) (h2 : p + 1 < ln ∧ witB (b (p + 1)) 49 57) (h3 : p + 2 < ln ∧ witB (b (p + 2)) 48 57) : PK b ln p (p + 3) :=
  ⟨by omega, by omega, 3, Or.inr rfl, stJ_t (s_t1 h1 h2) (stJ_s h3.1 (by decide) (by rw [du2, if_pos h3.2]) (by decide)), fun _ => du3⟩
theorem pk_v (h1 : p < ln ∧ witB (b p) 118 118) : PK b ln p (p + 1) :=
  ⟨by omega, by omega, 3, Or.inr rfl, stJ_s h1.1 (by decide) (by rw [du0, wit1 h1.2]; decide) (by decide), fun _ => du3⟩
theorem pk_c (h1 : p < ln ∧ witB (b p) 99 99) : PK b ln p (p + 1) :=
  ⟨by omega, by omega, 3, Or.inr rfl, stJ_s h1.1 (by decide) (by rw [du0, wit1 h1.2]; decide) (by decide), fun _ => du3⟩
theorem wit_s (k : Int32) : witB k k k := ⟨Int32.le_refl _, Int32.le_refl _⟩
theorem px_0 (hp : p ≤ ln) (h1 : ¬ (p < ln ∧ witB (b p) 116 116)) (h2 : ¬ (p < ln ∧ witB (b p) 118 118)) (h3 : ¬ (p < ln ∧ witB (b p) 99 99)) (h4 : ¬ (p < ln ∧ witB (b p) 100 100)) : PX b ln p p :=
  px_of stJ_0 hp (by decide) (by decide) (fun h => by
    rw [du0]
    unfold kindF
    rw [if_neg (fun q : b p = 116 => h1 ⟨h, by rw [q]; exact wit_s _⟩), if_neg (fun q : b p = 118 => h2 ⟨h, by rw [q]; exact wit_s _⟩), if_neg (fun q : b p = 99 => h3 ⟨h, by rw [q]; exact wit_s _⟩), if_neg (fun q : b p = 100 => h4 ⟨h, by rw [q]; exact wit_s _⟩)])
theorem px_d1 (h1 : p < ln ∧ witB (b p) 100 100) (h2 : ¬ (p + 1 < ln ∧ witB (b (p + 1)) 48 54)) : PX b ln p (p + 1) :=
  px_of (s_d h1) (by omega) (by decide) (by decide) (fun h => by rw [du4, if_neg (fun q => h2 ⟨h, q⟩)])
theorem s_d1 (h1 : p < ln ∧ witB (b p) 100 100) (h2 : p + 1 < ln ∧ witB (b (p + 1)) 48 54) : stJ b ln p 0 (p + 2) 5 :=
  stJ_t (s_d h1) (stJ_s h2.1 (by decide) (by rw [du4, if_pos h2.2]) (by decide))
theorem px_d2 (h1 : p < ln ∧ witB (b p) 100 100) (h2 : p + 1 < ln ∧ witB (b (p + 1)) 48 54) (h3 : ¬ (p + 2 < ln ∧ witB (b (p + 2)) 45 45)) (h4 : ¬ (p + 2 < ln ∧ witB (b (p + 2)) 43 43)) : PX b ln p (p + 2) :=
  px_of (s_d1 h1 h2) (by omega) (by decide) (by decide) (fun h => by
    rw [du5, if_neg]
    rintro (q | q)
    · exact h4 ⟨h, by rw [q]; exact wit_s _⟩
    · exact h3 ⟨h, by rw [q]; exact wit_s _⟩)
theorem s_d2 (h1 : p < ln ∧ witB (b p) 100 100) (h2 : p + 1 < ln ∧ witB (b (p + 1)) 48 54) (h3 : p + 2 < ln ∧ (b (p + 2) = 43 ∨ b (p + 2) = 45)) : stJ b ln p 0 (p + 3) 6 :=
  stJ_t (s_d1 h1 h2) (stJ_s h3.1 (by decide) (by rw [du5, if_pos h3.2]) (by decide))
theorem px_d3 (h1 : p < ln ∧ witB (b p) 100 100) (h2 : p + 1 < ln ∧ witB (b (p + 1)) 48 54) (h3 : p + 2 < ln ∧ (b (p + 2) = 43 ∨ b (p + 2) = 45)) (h4 : ¬ (p + 3 < ln ∧ witB (b (p + 3)) 48 53)) : PX b ln p (p + 3) :=
  px_of (s_d2 h1 h2 h3) (by omega) (by decide) (by decide) (fun h => by rw [du6, if_neg (fun q => h4 ⟨h, q⟩)])
theorem pk_d (h1 : p < ln ∧ witB (b p) 100 100) (h2 : p + 1 < ln ∧ witB (b (p + 1)) 48 54) (h3 : p + 2 < ln ∧ (b (p + 2) = 43 ∨ b (p + 2) = 45)) (h4 : p + 3 < ln ∧ witB (b (p + 3)) 48 53) : PK b ln p (p + 4) :=
  ⟨by omega, by omega, 3, Or.inr rfl, stJ_t (s_d2 h1 h2 h3) (stJ_s h4.1 (by decide) (by rw [du6, if_pos h4.2]) (by decide)), fun _ => du3⟩
theorem sg_m (h : p < ln ∧ witB (b p) 45 45) : p < ln ∧ (b p = 43 ∨ b p = 45) := ⟨h.1, Or.inr (wit1 h.2)⟩
theorem sg_p (h : p < ln ∧ witB (b p) 43 43) : p < ln ∧ (b p = 43 ∨ b p = 45) := ⟨h.1, Or.inl (wit1 h.2)⟩
/-! behind a part -/
theorem pk_n (h : PK b ln p E) (hE : E < ln) (h59 : b E = 59) : stJ b ln p 0 (E + 1) 0 := by
  obtain ⟨h1, h2, due, h3, h4, h5⟩ := h
  refine stJ_t h4 (stJ_s hE (by rcases h3 with rfl | rfl <;> decide) ?_ (by decide))
  rw [h5 hE, h59]; decide
theorem pk_x (h : PK b ln p E) (hE : E < ln) (h59 : ¬ b E = 59) : PX b ln p E := by
  obtain ⟨h1, h2, due, h3, h4, h5⟩ := h
  have h6 : dueF due (b E) = -1 := by rw [h5 hE]; exact if_neg h59
  unfold PX
  rw [h4.1, h4.2, show ln - E = (ln - (E + 1)) + 1 by omega, errF, dN, h6, if_pos rfl, if_neg (by rcases h3 with rfl | rfl <;> decide), dn_w]
  exact ⟨rfl, by decide⟩
theorem pk_e (h : PK b ln p ln) : errF b ln (ln - p) p 0 = nI ln ∧ (dN b (ln - p) p 0 = 2 ∨ dN b (ln - p) p 0 = 3) := by
  obtain ⟨h1, h2, due, h3, h4, h5⟩ := h
  rw [h4.1, h4.2, Nat.sub_self]
  exact ⟨rfl, h3⟩
/-- how a part stands in the text -/
def PT (b : Nat → Int32) (ln p E : Nat) : Prop :=
  ((p < ln ∧ witB (b p) 116 116) ∧ (p + 1 < ln ∧ witB (b (p + 1)) 49 57) ∧ ¬ (p + 2 < ln ∧ witB (b (p + 2)) 48 57) ∧ E = p + 2) ∨
  ((p < ln ∧ witB (b p) 116 116) ∧ (p + 1 < ln ∧ witB (b (p + 1)) 49 57) ∧ (p + 2 < ln ∧ witB (b (p + 2)) 48 57) ∧ E = p + 3) ∨
  ((p < ln ∧ witB (b p) 118 118) ∧ E = p + 1) ∨ ((p < ln ∧ witB (b p) 99 99) ∧ E = p + 1) ∨
  ((p < ln ∧ witB (b p) 100 100) ∧ (p + 1 < ln ∧ witB (b (p + 1)) 48 54) ∧ (p + 2 < ln ∧ witB (b (p + 2)) 45 45) ∧ (p + 3 < ln ∧ witB (b (p + 3)) 48 53) ∧ E = p + 4) ∨
  ((p < ln ∧ witB (b p) 100 100) ∧ (p + 1 < ln ∧ witB (b (p + 1)) 48 54) ∧ (p + 2 < ln ∧ witB (b (p + 2)) 43 43) ∧ (p + 3 < ln ∧ witB (b (p + 3)) 48 53) ∧ E = p + 4)
theorem pt_of (hp : p ≤ ln) (h : dN b (ln - p) p 0 = 2 ∨ dN b (ln - p) p 0 = 3) : ∃ E, PT b ln p E ∧ PK b ln p E := by
  by_cases h1 : p < ln ∧ witB (b p) 116 116
  · by_cases h2 : p + 1 < ln ∧ witB (b (p + 1)) 49 57
    · by_cases h3 : p + 2 < ln ∧ witB (b (p + 2)) 48 57
      · exact ⟨p + 3, Or.inr (Or.inl ⟨h1, h2, h3, rfl⟩), pk_t2 h1 h2 h3⟩
      · exact ⟨p + 2, Or.inl ⟨h1, h2, h3, rfl⟩, pk_t1 h1 h2 h3⟩
    · exact absurd h (px_t h1 h2).2
  · by_cases h2 : p < ln ∧ witB (b p) 118 118
    · exact ⟨p + 1, Or.inr (Or.inr (Or.inl ⟨h2, rfl⟩)), pk_v h2⟩
    · by_cases h3 : p < ln ∧ witB (b p) 99 99
      · exact ⟨p + 1, Or.inr (Or.inr (Or.inr (Or.inl ⟨h3, rfl⟩))), pk_c h3⟩
      · by_cases h4 : p < ln ∧ witB (b p) 100 100
        · by_cases h5 : p + 1 < ln ∧ witB (b (p + 1)) 48 54
          · by_cases h6 : p + 2 < ln ∧ witB (b (p + 2)) 45 45
            · by_cases h8 : p + 3 < ln ∧ witB (b (p + 3)) 48 53
              · exact ⟨p + 4, Or.inr (Or.inr (Or.inr (Or.inr (Or.inl ⟨h4, h5, h6, h8, rfl⟩)))), pk_d h4 h5 (sg_m h6) h8⟩
              · exact absurd h (px_d3 h4 h5 (sg_m h6) h8).2
            · by_cases h7 : p + 2 < ln ∧ witB (b (p + 2)) 43 43
              · by_cases h8 : p + 3 < ln ∧ witB (b (p + 3)) 48 53
                · exact ⟨p + 4, Or.inr (Or.inr (Or.inr (Or.inr (Or.inr ⟨h4, h5, h7, h8, rfl⟩)))), pk_d h4 h5 (sg_p h7) h8⟩
                · exact absurd h (px_d3 h4 h5 (sg_p h7) h8).2
              · exact absurd h (px_d2 h4 h5 h6 h7).2
          · exact absurd h (px_d1 h4 h5).2
        · exact absurd h (px_0 hp h1 h2 h3 h4).2
/-- no part begins inside a part, nor at its end -/
theorem wit_59 {x lo hi : Int32} (h : witB x lo hi) (h2 : (59 : Int32) < lo ∨ hi < 59) : ¬ x = 59 := by
  rintro rfl
  have h1 := wit_i.mp h
  rcases h2 with h2 | h2 <;> (rw [i_lt] at h2; omega)
theorem ps_s {i : Nat} (hi : i < ln) (h : ¬ b i = 59) : ¬ psB b ln (i + 1) := by
  rintro (h1 | h1)
  · omega
  · rw [show i + 1 - 1 = i by omega] at h1
    have e : cdA b ln i = b i := if_pos hi
    exact h (e ▸ h1)
theorem pt_np (h : PT b ln p E) : ∀ i, p < i → i ≤ E → ¬ psB b ln i := by
  intro i h1 h2
  obtain ⟨j, rfl⟩ : ∃ j, i = j + 1 := ⟨i - 1, by omega⟩
  rcases h with ⟨a1, a2, a3, rfl⟩ | ⟨a1, a2, a3, rfl⟩ | ⟨a1, rfl⟩ | ⟨a1, rfl⟩ | ⟨a1, a2, a3, a4, rfl⟩ | ⟨a1, a2, a3, a4, rfl⟩
  · rcases (show j = p ∨ j = p + 1 by omega) with rfl | rfl
    · exact ps_s a1.1 (wit_59 a1.2 (by decide))
    · exact ps_s a2.1 (wit_59 a2.2 (by decide))
  · rcases (show j = p ∨ j = p + 1 ∨ j = p + 2 by omega) with rfl | rfl | rfl
    · exact ps_s a1.1 (wit_59 a1.2 (by decide))
    · exact ps_s a2.1 (wit_59 a2.2 (by decide))
    · exact ps_s a3.1 (wit_59 a3.2 (by decide))
  · rcases (show j = p by omega) with rfl
    exact ps_s a1.1 (wit_59 a1.2 (by decide))
  · rcases (show j = p by omega) with rfl
    exact ps_s a1.1 (wit_59 a1.2 (by decide))
  · rcases (show j = p ∨ j = p + 1 ∨ j = p + 2 ∨ j = p + 3 by omega) with rfl | rfl | rfl | rfl
    · exact ps_s a1.1 (wit_59 a1.2 (by decide))
    · exact ps_s a2.1 (wit_59 a2.2 (by decide))
    · exact ps_s a3.1 (wit_59 a3.2 (by decide))
    · exact ps_s a4.1 (wit_59 a4.2 (by decide))
  · rcases (show j = p ∨ j = p + 1 ∨ j = p + 2 ∨ j = p + 3 by omega) with rfl | rfl | rfl | rfl
    · exact ps_s a1.1 (wit_59 a1.2 (by decide))
    · exact ps_s a2.1 (wit_59 a2.2 (by decide))
    · exact ps_s a3.1 (wit_59 a3.2 (by decide))
    · exact ps_s a4.1 (wit_59 a4.2 (by decide))
theorem ob_run {t : St} {n : Int32} (hE : E ≤ ln) (h : ∀ i, p < i → i ≤ E → ¬ psB b ln i) : ∀ k, p + 1 + k ≤ E → obF b ln (ln - (p + 1)) (p + 1) t n = obF b ln (ln - (p + 1 + k)) (p + 1 + k) t n
  | 0, _ => rfl
  | k + 1, hk => by
    rw [ob_run hE h k (by omega), show ln - (p + 1 + k) = (ln - (p + 1 + (k + 1))) + 1 by omega, obF, if_neg (h (p + 1 + k) (by omega) (by omega))]
    rfl
theorem pt_lt (h : PT b ln p E) : p < E ∧ E ≤ ln ∧ p < ln := by
  rcases h with ⟨a1, a2, a3, rfl⟩ | ⟨a1, a2, a3, rfl⟩ | ⟨a1, rfl⟩ | ⟨a1, rfl⟩ | ⟨a1, a2, a3, a4, rfl⟩ | ⟨a1, a2, a3, a4, rfl⟩ <;> omega
theorem ob_go {t : St} {n : Int32} (h : PT b ln p E) (hs : psB b ln p) (hb : partB b ln p t) : obF b ln (ln - p) p t n = obF b ln (ln - E) E (partS b ln p t) (n + 1) := by
  obtain ⟨h1, h2, h3⟩ := pt_lt h
  rw [show ln - p = (ln - (p + 1)) + 1 by omega, obF, if_pos hs, if_pos hb, ob_run h2 (pt_np h) (E - (p + 1)) (by omega), show p + 1 + (E - (p + 1)) = E by omega]
theorem ob_no {t : St} {n : Int32} (hp : p < ln) (hs : psB b ln p) (hb : ¬ partB b ln p t) : obF b ln (ln - p) p t n = (partS b ln p t, n) := by
  rw [show ln - p = (ln - (p + 1)) + 1 by omega, obF, if_pos hs, if_neg hb]
theorem ob_nx {t : St} {n : Int32} (h : PT b ln p E) (hE : E < ln) : obF b ln (ln - E) E t n = obF b ln (ln - (E + 1)) (E + 1) t n := by
  obtain ⟨h1, h2, h3⟩ := pt_lt h
  rw [show ln - E = (ln - (E + 1)) + 1 by omega, obF, if_neg (pt_np h E h1 (Nat.le_refl _))]
theorem ob_en {t : St} {n : Int32} : obF b ln (ln - ln) ln t n = (t, n) := by rw [Nat.sub_self]; rfl
/-! what a part is -/
theorem dg_n {x : Int32} (h : witB x 48 57) : ∃ n, n ≤ 9 ∧ x - 48 = nI n := by
  have h1 := wit_i.mp h
  rw [show (48 : Int32).toInt = 48 by decide, show (57 : Int32).toInt = 57 by decide] at h1
  refine ⟨(x.toInt - 48).toNat, by omega, ?_⟩
  rw [i_eq, i_sub (by rw [show (48 : Int32).toInt = 48 by decide]; omega) (by rw [show (48 : Int32).toInt = 48 by decide]; omega), show (48 : Int32).toInt = 48 by decide]
  have e : (nI (x.toInt - 48).toNat).toInt = ((x.toInt - 48).toNat : Int) := Int32.toInt_ofNat_of_lt (by omega)
  rw [e]; omega
theorem wit_up {x lo hi lo' hi' : Int32} (h : witB x lo hi) (h1 : lo' ≤ lo) (h2 : hi ≤ hi') : witB x lo' hi' := by
  rw [wit_i] at *; rw [i_le] at h1 h2; omega
theorem cd_in (h : p < ln) : cdA b ln p = b p := if_pos h
theorem dg_7 {x : Int32} (h : witB x 48 54) : ∃ n, n < 7 ∧ x - 48 = nI n := by
  have h1 := wit_i.mp h
  rw [show (48 : Int32).toInt = 48 by decide, show (54 : Int32).toInt = 54 by decide] at h1
  refine ⟨(x.toInt - 48).toNat, by omega, ?_⟩
  rw [i_eq, i_sub (by rw [show (48 : Int32).toInt = 48 by decide]; omega) (by rw [show (48 : Int32).toInt = 48 by decide]; omega), show (48 : Int32).toInt = 48 by decide]
  have e : (nI (x.toInt - 48).toNat).toInt = ((x.toInt - 48).toNat : Int) := Int32.toInt_ofNat_of_lt (by omega)
  rw [e]; omega
theorem dg_5 {x : Int32} (h : witB x 48 53) : 0 ≤ (x - 48).toInt ∧ (x - 48).toInt ≤ 5 := by
  have h1 := wit_i.mp h
  rw [show (48 : Int32).toInt = 48 by decide, show (53 : Int32).toInt = 53 by decide] at h1
  rw [i_sub (by rw [show (48 : Int32).toInt = 48 by decide]; omega) (by rw [show (48 : Int32).toInt = 48 by decide]; omega), show (48 : Int32).toInt = 48 by decide]
  omega
theorem tk_1d (h2 : p + 1 < ln ∧ witB (b (p + 1)) 49 57) (h3 : ¬ (p + 2 < ln ∧ witB (b (p + 2)) 48 57)) : ∃ n, n < 100 ∧ b (p + 1) - 48 = nI n ∧ tkI b ln (p + 1) = nI n := by
  obtain ⟨n, hn, e⟩ := dg_n (wit_up h2.2 (by decide) (by decide))
  refine ⟨n, by omega, e, ?_⟩
  unfold tkI figI
  rw [if_neg, cd_in h2.1, e]
  intro q
  unfold cdA at q
  by_cases h4 : p + 1 + 1 < ln
  · rw [if_pos h4] at q; exact h3 ⟨h4, q⟩
  · rw [if_neg h4] at q; exact absurd q (by decide)
theorem tk_2d (h2 : p + 1 < ln ∧ witB (b (p + 1)) 49 57) (h3 : p + 2 < ln ∧ witB (b (p + 2)) 48 57) : ∃ n k, n < 100 ∧ k < 10 ∧ b (p + 1) - 48 = nI k ∧ nI (10 * k) + b (p + 2) - 48 = nI n ∧ tkI b ln (p + 1) = nI n := by
  obtain ⟨k, hk, e⟩ := dg_n (wit_up h2.2 (by decide) (by decide))
  obtain ⟨j, hj, e2⟩ := dg_n h3.2
  have e3 : nI (10 * k) + (b (p + 2) - 48) = nI (10 * k + j) := by rw [e2]; exact nI_add2 rfl rfl
  refine ⟨10 * k + j, k, by omega, by omega, e, ?_, ?_⟩
  · rw [← e3]; show nI (10 * k) + b (p + 2) - 48 = _
    rw [Int32.sub_eq_add_neg, Int32.sub_eq_add_neg, Int32.add_assoc]
  · unfold tkI figI
    rw [cd_in h2.1, show p + 1 + 1 = p + 2 from rfl, cd_in h3.1, if_pos h3.2, e, ← e3]
    rw [show (10 : Int32) * nI k = nI (10 * k) from nI_mul2 (p := 10) rfl rfl]
theorem pa_t {n : Nat} (h1 : p < ln ∧ witB (b p) 116 116) (hn : n < 100) (hk : tkI b ln (p + 1) = nI n) {s : St} : partS b ln p s = ticksS n s ∧ partB b ln p s := by
  have e : cdA b ln p = 116 := by rw [cd_in h1.1]; exact wit1 h1.2
  unfold partS partB
  rw [e, if_neg (by decide), if_pos rfl, hk, nI_cl (by omega)]
  exact ⟨rfl, fun q => absurd q.1 (by decide)⟩
theorem pa_v (h1 : p < ln ∧ witB (b p) 118 118) {s : St} : partS b ln p s = (if sumN (s 7) 7 = 0 then s else voteS s) ∧ (partB b ln p s ↔ ¬ sumN (s 7) 7 = 0) := by
  have e : cdA b ln p = 118 := by rw [cd_in h1.1]; exact wit1 h1.2
  unfold partS partB
  rw [e, if_neg (by decide), if_neg (by decide), if_pos rfl]
  exact ⟨rfl, ⟨fun q w => q ⟨rfl, w⟩, fun q w => q w.2⟩⟩
theorem pa_c (h1 : p < ln ∧ witB (b p) 99 99) {s : St} : partS b ln p s = corS 7 s ∧ partB b ln p s := by
  have e : cdA b ln p = 99 := by rw [cd_in h1.1]; exact wit1 h1.2
  unfold partS partB
  rw [e, if_pos rfl]
  exact ⟨rfl, fun q => absurd q.1 (by decide)⟩
theorem pa_d {d : Nat} (h1 : p < ln ∧ witB (b p) 100 100) (hd : d < 7) (hl : p + 1 < ln) (e1 : b (p + 1) - 48 = nI d) {s : St} : partS b ln p s = up2 s 2 d (drI b ln (p + 2)) ∧ partB b ln p s := by
  have e : cdA b ln p = 100 := by rw [cd_in h1.1]; exact wit1 h1.2
  unfold partS partB
  rw [e, if_neg (by decide), if_neg (by decide), if_neg (by decide)]
  unfold figI
  rw [cd_in hl, e1, nI_cl (by omega)]
  exact ⟨rfl, fun q => absurd q.1 (by decide)⟩
theorem dr_m (h3 : p + 2 < ln ∧ witB (b (p + 2)) 45 45) (h4 : p + 3 < ln) : drI b ln (p + 2) = -(b (p + 3) - 48) := by
  unfold drI figI
  rw [cd_in h3.1, if_pos (wit1 h3.2), show p + 2 + 1 = p + 3 from rfl, cd_in h4]
theorem dr_p (h3 : p + 2 < ln ∧ witB (b (p + 2)) 43 43) (h4 : p + 3 < ln) : drI b ln (p + 2) = b (p + 3) - 48 := by
  unfold drI figI
  rw [cd_in h3.1, if_neg (by rw [wit1 h3.2]; decide), show p + 2 + 1 = p + 3 from rfl, cd_in h4]
theorem pt_O (h : PT b ln p E) : partO b ln p := by
  rcases h with ⟨a1, a2, a3, rfl⟩ | ⟨a1, a2, a3, rfl⟩ | ⟨a1, rfl⟩ | ⟨a1, rfl⟩ | ⟨a1, a2, a3, a4, rfl⟩ | ⟨a1, a2, a3, a4, rfl⟩
  · have e : cdA b ln p = 116 := by rw [cd_in a1.1]; exact wit1 a1.2
    obtain ⟨n, h1, h2, h3⟩ := tk_1d a2 a3
    exact ⟨fun _ => ⟨n, by omega, h3⟩, fun _ q => absurd e q⟩
  · have e : cdA b ln p = 116 := by rw [cd_in a1.1]; exact wit1 a1.2
    obtain ⟨n, k, h1, h2, h3, h4, h5⟩ := tk_2d a2 a3
    exact ⟨fun _ => ⟨n, by omega, h5⟩, fun _ q => absurd e q⟩
  · have e : cdA b ln p = 118 := by rw [cd_in a1.1]; exact wit1 a1.2
    exact ⟨fun q => absurd (e.symm.trans q) (by decide), fun _ _ q => absurd e q⟩
  · have e : cdA b ln p = 99 := by rw [cd_in a1.1]; exact wit1 a1.2
    exact ⟨fun q => absurd (e.symm.trans q) (by decide), fun q _ _ => absurd e q⟩
  · have e : cdA b ln p = 100 := by rw [cd_in a1.1]; exact wit1 a1.2
    obtain ⟨d, h1, h2⟩ := dg_7 a2.2
    exact ⟨fun q => absurd (e.symm.trans q) (by decide), fun _ _ _ => ⟨d, h1, by unfold figI; rw [cd_in a2.1, h2]⟩⟩
  · have e : cdA b ln p = 100 := by rw [cd_in a1.1]; exact wit1 a1.2
    obtain ⟨d, h1, h2⟩ := dg_7 a2.2
    exact ⟨fun q => absurd (e.symm.trans q) (by decide), fun _ _ _ => ⟨d, h1, by unfold figI; rw [cd_in a2.1, h2]⟩⟩
theorem ps_59 {i : Nat} (hi : i < ln) (h : b i = 59) : psB b ln (i + 1) := Or.inr (by rw [show i + 1 - 1 = i by omega, cd_in hi]; exact h)
theorem pk_go (h : PK b ln p E) (hd : dN b (ln - p) p 0 = 2 ∨ dN b (ln - p) p 0 = 3) (hE : E < ln) : b E = 59 ∧ (dN b (ln - (E + 1)) (E + 1) 0 = 2 ∨ dN b (ln - (E + 1)) (E + 1) 0 = 3) := by
  by_cases h1 : b E = 59
  · refine ⟨h1, ?_⟩
    rw [← (pk_n h hE h1).2]; exact hd
  · exact absurd hd (pk_x h hE h1).2
/-- every beginning of a part in a whole text is one that can be obeyed -/
theorem po_all : ∀ (f p : Nat), ln - p ≤ f → p ≤ ln → (dN b (ln - p) p 0 = 2 ∨ dN b (ln - p) p 0 = 3) → ∀ j, p ≤ j → j < ln → psB b ln j → partO b ln j
  | 0, p, hf, hp, hd, j, h1, h2, _ => by omega
  | f + 1, p, hf, hp, hd, j, h1, h2, h3 => by
    obtain ⟨E, h4, h5⟩ := pt_of hp hd
    obtain ⟨h6, h7, h8⟩ := pt_lt h4
    by_cases h9 : j = p
    · subst h9; exact pt_O h4
    · by_cases h10 : j ≤ E
      · exact absurd h3 (pt_np h4 j (by omega) h10)
      · have h11 := pk_go h5 hd (by omega)
        exact po_all f (E + 1) (by omega) (by omega) h11.2 j (by omega) h2 h3
theorem hpo_of (h : cmpB b ln) : ∀ j, j < ln → psB b ln j → partO b ln j := fun j h1 h2 => po_all ln 0 (by omega) (by omega) h j (by omega) h1 h2
/-- what the reading of the whole text says -/
def GO (b : Nat → Int32) (ln q : Nat) (w : Int32) : Prop := (w = 0 ∧ cmpB b ln ∧ errF b ln ln 0 0 = nI ln) ∨ (w = 1 ∧ ¬ cmpB b ln ∧ errF b ln ln 0 0 = nI q)
theorem go_x (hJ : stJ b ln 0 0 p 0) (h : PX b ln p E) : GO b ln E 1 := by
  refine Or.inr ⟨rfl, ?_, ?_⟩
  · intro q
    have q2 : dN b (ln - 0) 0 0 = 2 ∨ dN b (ln - 0) 0 0 = 3 := q
    rw [hJ.2] at q2
    exact h.2 q2
  · exact hJ.1.trans h.1
theorem go_e (hJ : stJ b ln 0 0 p 0) (h : PK b ln p ln) : GO b ln ln 0 := by
  obtain ⟨h1, h2⟩ := pk_e h
  refine Or.inl ⟨rfl, ?_, hJ.1.trans h1⟩
  show dN b (ln - 0) 0 0 = 2 ∨ dN b (ln - 0) 0 0 = 3
  rw [hJ.2]; exact h2
end PARS
/-! bounds behind a part, behind a vote -/
theorem Bd.mono {T T' : Int} {s : St} (h : Bd T s) (hT : T ≤ T') : Bd T' s := ⟨h.1, h.2.1, h.2.2.1, fun k h1 h2 => by have := h.2.2.2 k h1 h2; omega⟩
theorem Bd.stl {T : Int} {s : St} {w : Nat → Int32} {i j : Nat} (h : Bd T s) (hi : i < 7) (hj : j < 7) : Bd T (setl s w i j) := by
  unfold setl
  split
  · split
    · exact h.less hi
    · split
      · exact h.less hj
      · exact h
  · exact h
theorem Bd.stlN {T : Int} {s : St} {w : Nat → Int32} (h : Bd T s) : ∀ n, n ≤ 7 → Bd T (setlN w n s)
  | 0, _ => h
  | n + 1, hn => (Bd.stlN h n (by omega)).stl (by omega) behN_lt
theorem mid_9 {T : Int} {s : St} (h : Bd T s) : (midI (wordA s) (s 7)).toInt ≤ 99999 := by rw [← mid_mm h]; exact (mm_ok 7).2
theorem Bd.vote {T : Int} {s : St} (h : Bd T s) (hT : T ≤ 2000000000) : Bd (T + 1) (voteS s) := (h.hear hT (mid_9 h)).stlN 7 (Nat.le_refl _)
theorem Bd.cors {T : Int} {s : St} (h : Bd T s) : ∀ n, n ≤ 7 → Bd T (corS n s)
  | 0, _ => h
  | n + 1, hn => by
    have h1 := Bd.cors h n (by omega)
    show Bd T (if offB (corS n s) n then mvS (corS n s) n (nearI (corS n s) n) else corS n s)
    rw [← cor_s h1 (by omega)]
    exact h1.cor (by omega)
theorem Bd.dr {T : Int} {s : St} {d : Nat} {v : Int32} (h : Bd T s) (hv : -5 ≤ v.toInt ∧ v.toInt ≤ 5) : Bd T (up2 s 2 d v) := by
  refine ⟨fun k hk => ?_, ?_, ?_, ?_⟩
  · have hb := h.1 k hk
    rw [up2_o (show 1 ≠ 2 by decide), up2_o (show 7 ≠ 2 by decide), up2_o (show 8 ≠ 2 by decide), up2_e]
    by_cases hq : k = d
    · subst hq; rw [show upd (s 2) k v k = v from if_pos rfl]; exact ⟨hb.1, hb.2.1, hv.1, hv.2, hb.2.2.2.2⟩
    · rw [show upd (s 2) d v k = s 2 k from if_neg hq]; exact hb
  · rw [up2_o (by decide)]; exact h.2.1
  · rw [up2_o (by decide)]; exact h.2.2.1
  · rw [up2_o (by decide)]; exact h.2.2.2
theorem Bd.part {T : Int} {s : St} {b : Nat → Int32} {ln p E : Nat} (h : Bd T s) (hT : T ≤ 1000000000) (hp : PT b ln p E) : Bd (T + 1000) (partS b ln p s) := by
  rcases hp with ⟨a1, a2, a3, rfl⟩ | ⟨a1, a2, a3, rfl⟩ | ⟨a1, rfl⟩ | ⟨a1, rfl⟩ | ⟨a1, a2, a3, a4, rfl⟩ | ⟨a1, a2, a3, a4, rfl⟩
  · obtain ⟨n, h1, h2, h3⟩ := tk_1d a2 a3
    rw [(pa_t a1 h1 h3).1]
    exact (h.ticks n (by omega)).mono (by omega)
  · obtain ⟨n, k, h1, h2, h3, h4, h5⟩ := tk_2d a2 a3
    rw [(pa_t a1 h1 h5).1]
    exact (h.ticks n (by omega)).mono (by omega)
  · rw [(pa_v a1).1]
    split
    · exact h.mono (by omega)
    · exact (h.vote (by omega)).mono (by omega)
  · rw [(pa_c a1).1]
    exact (h.cors 7 (Nat.le_refl _)).mono (by omega)
  · obtain ⟨d, h1, h2⟩ := dg_7 a2.2
    rw [(pa_d a1 h1 a2.1 h2).1, dr_m a3 a4.1]
    have h5 := dg_5 a4.2
    refine (h.dr ?_).mono (by omega)
    rw [i_neg (by omega)]; omega
  · obtain ⟨d, h1, h2⟩ := dg_7 a2.2
    rw [(pa_d a1 h1 a2.1 h2).1, dr_p a3 a4.1]
    have h5 := dg_5 a4.2
    exact (h.dr (by omega)).mono (by omega)
theorem sum_pos {T : Int} {s : St} (h : Bd T s) : ¬ sumN (s 7) 7 = 0 ↔ 0 < sumN (s 7) 7 := by
  have h1 := sum_z (f := s 7) 7 (Nat.le_refl _) (fun k hk => ⟨(h.1 k hk).2.2.2.2.1, (h.1 k hk).2.2.2.2.2.1⟩)
  rw [i_lt, i_0, i_eq, i_0]
  omega
