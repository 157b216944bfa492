/-! the object: its texts as one, the state that it shows, the states that undo() would bring back -/
abbrev WT : Type := St × (Nat → St) × (Nat → Nat) × St × St
abbrev exU (cI cS : ClassId) (a : Nat → Nat) (u : WT) : Nat → va_E := exC cI cS a u.1 u.2.1 u.2.2.1 u.2.2.2.1 u.2.2.2.2
theorem exU_mk {cI cS : ClassId} {a : Nat → Nat} {s : St} {st : Nat → St} {pi : Nat → Nat} {mi po : St} : exU cI cS a (s, st, pi, mi, po) = exC cI cS a s st pi mi po := rfl
def UOk (u : WT) (s : St) (sz : Nat) (hf : Nat → St) : Prop := u.1 = s ∧ sz ≤ 6 ∧ u.2.2.2.1 0 0 = nI sz ∧ (∀ k, k < 6 → u.2.2.1 k < 6) ∧ (∀ i j, i < 6 → j < 6 → u.2.2.1 i = u.2.2.1 j → i = j) ∧ ∀ k, k < sz → hf k = u.2.1 (u.2.2.1 k + 1)
theorem UOk.sv {s : St} {st : Nat → St} {pi : Nat → Nat} {mi po : St} {sz : Nat} {hf : Nat → St} (h : UOk (s, st, pi, mi, po) s sz hf) {s' po' : St} : UOk (s', va_up st (svPi pi sz (svQ sz) + 1) s, svPi pi sz, up2 mi 0 0 (nI (svQ sz + 1)), po') s' (svQ sz + 1) (svH hf sz s) := by
  obtain ⟨-, h1, -, h2, h3, h4⟩ := h
  have h2 : ∀ k, k < 6 → pi k < 6 := h2
  have h3 : ∀ i j, i < 6 → j < 6 → pi i = pi j → i = j := h3
  have h4 : ∀ k, k < sz → hf k = st (pi k + 1) := h4
  have hq := svQ_lt h1
  have hinj := svPi_inj (sz := sz) h3
  have e0 : up2 mi 0 0 (nI (svQ sz + 1)) 0 0 = nI (svQ sz + 1) := up2_kk
  refine ⟨rfl, by omega, e0, svPi_lt h2, hinj, fun k hk => ?_⟩
  show svH hf sz s k = va_up st (svPi pi sz (svQ sz) + 1) s (svPi pi sz k + 1)
  by_cases h6' : sz = 6
  · subst h6'
    have e5 : svQ 6 = 5 := rfl
    rw [e5] at hk ⊢
    unfold svH
    rw [if_pos rfl]
    by_cases hk5 : k < 5
    · rw [if_pos hk5, va_up_o (fun q => by have := hinj k 5 (by omega) (by omega) (by omega); omega)]
      have e : svPi pi 6 k = pi (k + 1) := by
        show (if (6 : Nat) = 6 then rotP pi else pi) k = _
        rw [if_pos rfl, rotP_at (by omega), if_pos hk5]
      rw [e]
      exact h4 (k + 1) (by omega)
    · have e : k = 5 := by omega
      subst e
      rw [if_neg (by omega), va_up_k]
  · have e5 : svQ sz = sz := if_neg h6'
    have ep : svPi pi sz = pi := if_neg h6'
    rw [e5] at hk ⊢
    rw [ep]
    unfold svH
    rw [if_neg h6']
    by_cases hk5 : k = sz
    · subst hk5
      rw [if_pos rfl, va_up_k]
    · rw [if_neg hk5, va_up_o (fun q => by have := h3 k sz (by omega) (by omega) (by omega); omega)]
      exact h4 k (by omega)
theorem UOk.po {s : St} {st : Nat → St} {pi : Nat → Nat} {mi po : St} {sz : Nat} {hf : Nat → St} (h : UOk (s, st, pi, mi, po) s sz hf) {po' : St} : UOk (s, st, pi, mi, po') s sz hf := h
theorem UOk.kp {s : St} {st : Nat → St} {pi : Nat → Nat} {mi po : St} {sz : Nat} {hf : Nat → St} (h : UOk (s, st, pi, mi, po) s sz hf) {x : St} {v : Int32} : UOk (s, va_up st 0 x, pi, up2 mi 0 2 v, po) s sz hf := by
  obtain ⟨-, h1, h0, h2, h3, h4⟩ := h
  have h0 : mi 0 0 = nI sz := h0
  have h4 : ∀ k, k < sz → hf k = st (pi k + 1) := h4
  have e0 : up2 mi 0 2 v 0 0 = nI sz := (up2_k (by decide)).trans h0
  have e4 : ∀ k, k < sz → hf k = va_up st 0 x (pi k + 1) := fun k hk => (h4 k hk).trans (va_up_o (by omega)).symm
  exact ⟨rfl, h1, e0, h2, h3, e4⟩
theorem UOk.un {s : St} {st : Nat → St} {pi : Nat → Nat} {mi po : St} {sz : Nat} {hf : Nat → St} (h : UOk (s, st, pi, mi, po) s sz hf) (h1 : 1 ≤ sz) : UOk (st (pi (sz - 1) + 1), st, pi, up2 mi 0 0 (nI (sz - 1)), po) (hf (sz - 1)) (sz - 1) hf := by
  obtain ⟨-, h9, h0, h2, h3, h4⟩ := h
  have e0 : up2 mi 0 0 (nI (sz - 1)) 0 0 = nI (sz - 1) := up2_kk
  exact ⟨(h4 (sz - 1) (by omega)).symm, by omega, e0, h2, h3, fun k hk => h4 k (by omega)⟩
theorem svQ_1 {n : Nat} : 1 ≤ svQ (n + 1) := by unfold svQ; split <;> omega
theorem svH_top {hf : Nat → St} {sz : Nat} {s : St} : svH hf sz s (svQ sz + 1 - 1) = s := by
  unfold svH svQ
  by_cases h : sz = 6
  · rw [if_pos h, if_pos h, if_neg (by omega)]
  · rw [if_neg h, if_neg h, if_pos (by omega)]
theorem svH_2 {hf : Nat → St} {sz : Nat} {s t : St} (h6 : sz ≤ 6) : svH (svH hf sz s) (svQ sz + 1) t (svQ (svQ sz + 1) + 1 - 1 - 1) = s := by
  unfold svH svQ
  by_cases h : sz = 6
  · simp [h]
  · by_cases h5 : sz = 5
    · simp [h5]
    · simp [h, show ¬ sz + 1 = 6 by omega]
def GH (P : St → Prop) (sz : Nat) (hf : Nat → St) : Prop := ∀ k, k < sz → P (hf k)
theorem GH.sv {P : St → Prop} {sz : Nat} {hf : Nat → St} {s : St} (h : GH P sz hf) (h6 : sz ≤ 6) (hs : P s) : GH P (svQ sz + 1) (svH hf sz s) := by
  intro k hk
  unfold svQ at hk
  unfold svH
  by_cases h1 : sz = 6
  · rw [if_pos h1] at hk ⊢
    split
    · exact h _ (by omega)
    · exact hs
  · rw [if_neg h1] at hk ⊢
    split
    · exact hs
    · exact h _ (by omega)
theorem GH.le {P : St → Prop} {sz n : Nat} {hf : Nat → St} (h : GH P sz hf) (hn : n ≤ sz) : GH P n hf := fun k hk => h k (by omega)
theorem GH.imp {P Q : St → Prop} {sz : Nat} {hf : Nat → St} (h : GH P sz hf) (hq : ∀ s, P s → Q s) : GH Q sz hf := fun k hk => hq _ (h k hk)
/-- a contract's end, said less sharply -/
theorem met_cq {l : Launch} {y : MethodName} {ws : List Cond} {rm : Room} {Pc : Array Value → State → Prop} {Qc Qd : Array Value → State → Outcome → State → Prop} {mc ms : Nat} {free : Addr → Prop} (h : Met l y ws rm Pc Qc mc ms free) (hq : ∀ aa z o t, Qc aa z o t → Qd aa z o t) : Met l y ws rm Pc Qd mc ms free := by
  intro p e ha hc hk s m args below hf happ hP hK
  obtain ⟨n, o, h1, h2, h3, h4, h5⟩ := h p e ha hc hk s m args below hf happ hP hK
  exact ⟨n, o, h1, h2, h3, hq _ _ _ _ h4, h5⟩
theorem qi_cq {D : va_G} {nn : Nat} {a : Nat → Nat} {S S' : Type} {post : Int32 → S → Prop} {post' : Int32 → S' → Prop} {e' : S → Nat → va_E} {e'' : S' → Nat → va_E} {A : Nat → Prop} {aa : Array Value} {z t : State} {o : Outcome} (f : S → S') (h : ∀ r x, post r x → post' r (f x)) (he : ∀ x, e'' (f x) = e' x) (hq : va_Qi post (BW D nn a e') A aa z o t) : va_Qi post' (BW D nn a e'') A aa z o t := by
  obtain ⟨⟨r, x, h1, h2, h3⟩, h4⟩ := hq
  exact ⟨⟨r, f x, h1, h _ _ h2, by show HP D nn a (e'' (f x)) t.heap; rw [he]; exact h3⟩, h4⟩
abbrev qIn (s : St) (d : Nat) : Int32 := qF s d (behN d) 201 0 (s 1 d) (s 1 (behN d))
abbrev rIn (s : St) (d : Nat) : Int32 := ringF s d (s 1 d / 60) 200 1 (s 1 d)
