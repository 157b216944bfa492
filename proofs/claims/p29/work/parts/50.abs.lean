/-! the object: its texts as one, the state that it shows, the states that undo() would bring back -/
abbrev WT : Type := St × (Nat → St) × (Nat → Nat) × St × St
abbrev exU (cI cS : ClassId) (a : Nat → Nat) (u : WT) : Nat → va_E := exC cI cS a u.1 u.2.1 u.2.2.1 u.2.2.2.1 u.2.2.2.2
def UOk (u : WT) (s : St) (sz : Nat) (hf : Nat → St) : Prop := u.1 = s ∧ sz ≤ 6 ∧ u.2.2.2.1 0 0 = nI sz ∧ (∀ k, k < 6 → u.2.2.1 k < 6) ∧ (∀ i j, i < 6 → j < 6 → u.2.2.1 i = u.2.2.1 j → i = j) ∧ ∀ k, k < sz → hf k = u.2.1 (u.2.2.1 k + 1)
theorem UOk.sv {s : St} {st : Nat → St} {pi : Nat → Nat} {mi po : St} {sz : Nat} {hf : Nat → St} (h : UOk (s, st, pi, mi, po) s sz hf) {s' po' : St} : UOk (s', va_up st (svPi pi sz (svQ sz) + 1) s, svPi pi sz, up2 mi 0 0 (nI (svQ sz + 1)), po') s' (svQ sz + 1) (svH hf sz s) := by
  obtain ⟨-, h1, -, h2, h3, h4⟩ := h
  have h2 : ∀ k, k < 6 → pi k < 6 := h2
  have h3 : ∀ i j, i < 6 → j < 6 → pi i = pi j → i = j := h3
  have h4 : ∀ k, k < sz → hf k = st (pi k + 1) := h4
  have hq := svQ_lt h1
  have hinj := svPi_inj (sz := sz) h3
  refine ⟨rfl, by omega, up2_kk, svPi_lt h2, hinj, fun k hk => ?_⟩
  show svH hf sz s k = va_up st (svPi pi sz (svQ sz) + 1) s (svPi pi sz k + 1)
  by_cases h6' : sz = 6
  · subst h6'
    have e5 : svQ 6 = 5 := rfl
    rw [e5] at hk ⊢
    unfold svH
    rw [if_pos rfl]
    by_cases hk5 : k < 5
    · rw [if_pos hk5, va_up_o (fun q => by have := hinj k 5 (by omega) (by omega) (by omega); omega)]
      have e : svPi pi 6 k = pi (k + 1) := by
        show (if (6 : Nat) = 6 then rotP pi else pi) k = _
        rw [if_pos rfl, rotP_at (by omega), if_pos hk5]
      rw [e]
      exact h4 (k + 1) (by omega)
    · have e : k = 5 := by omega
      subst e
      rw [if_neg (by omega), va_up_k]
  · have e5 : svQ sz = sz := if_neg h6'
    have ep : svPi pi sz = pi := if_neg h6'
    rw [e5] at hk ⊢
    rw [ep]
    unfold svH
    rw [if_neg h6']
    by_cases hk5 : k = sz
    · subst hk5
      rw [if_pos rfl, va_up_k]
    · rw [if_neg hk5, va_up_o (fun q => by have := h3 k sz (by omega) (by omega) (by omega); omega)]
      exact h4 k (by omega)
theorem UOk.po {s : St} {st : Nat → St} {pi : Nat → Nat} {mi po : St} {sz : Nat} {hf : Nat → St} (h : UOk (s, st, pi, mi, po) s sz hf) {po' : St} : UOk (s, st, pi, mi, po') s sz hf := h
theorem UOk.kp {s : St} {st : Nat → St} {pi : Nat → Nat} {mi po : St} {sz : Nat} {hf : Nat → St} (h : UOk (s, st, pi, mi, po) s sz hf) {x : St} {v : Int32} : UOk (s, va_up st 0 x, pi, up2 mi 0 2 v, po) s sz hf := by
  obtain ⟨-, h1, h0, h2, h3, h4⟩ := h
  exact ⟨rfl, h1, (up2_k (by decide)).trans h0, h2, h3, fun k hk => (h4 k hk).trans (va_up_o (by omega)).symm⟩
theorem UOk.un {s : St} {st : Nat → St} {pi : Nat → Nat} {mi po : St} {sz : Nat} {hf : Nat → St} (h : UOk (s, st, pi, mi, po) s sz hf) (h1 : 1 ≤ sz) : UOk (st (pi (sz - 1) + 1), st, pi, up2 mi 0 0 (nI (sz - 1)), po) (hf (sz - 1)) (sz - 1) hf := by
  obtain ⟨-, h9, h0, h2, h3, h4⟩ := h
  exact ⟨(h4 (sz - 1) (by omega)).symm, by omega, up2_kk, h2, h3, fun k hk => h4 k (by omega)⟩
theorem svH_top {hf : Nat → St} {sz : Nat} {s : St} : svH hf sz s (svQ sz + 1 - 1) = s := by
  unfold svH svQ
  by_cases h : sz = 6
  · rw [if_pos h, if_pos h, if_neg (by omega)]
  · rw [if_neg h, if_neg h, if_pos (by omega)]
theorem svH_2 {hf : Nat → St} {sz : Nat} {s t : St} (h6 : sz ≤ 6) : svH (svH hf sz s) (svQ sz + 1) t (svQ (svQ sz + 1) + 1 - 1 - 1) = s := by
  unfold svH svQ
  by_cases h : sz = 6
  · simp [h]
  · by_cases h5 : sz = 5
    · simp [h5]
    · simp [h, show ¬ sz + 1 = 6 by omega]
def GH (P : St → Prop) (sz : Nat) (hf : Nat → St) : Prop := ∀ k, k < sz → P (hf k)
theorem GH.sv {P : St → Prop} {sz : Nat} {hf : Nat → St} {s : St} (h : GH P sz hf) (h6 : sz ≤ 6) (hs : P s) : GH P (svQ sz + 1) (svH hf sz s) := by
  intro k hk
  unfold svQ at hk
  unfold svH
  by_cases h1 : sz = 6
  · rw [if_pos h1] at hk ⊢
    split
    · exact h _ (by omega)
    · exact hs
  · rw [if_neg h1] at hk ⊢
    split
    · exact hs
    · exact h _ (by omega)
theorem GH.le {P : St → Prop} {sz n : Nat} {hf : Nat → St} (h : GH P sz hf) (hn : n ≤ sz) : GH P n hf := fun k hk => h k (by omega)
theorem GH.imp {P Q : St → Prop} {sz : Nat} {hf : Nat → St} (h : GH P sz hf) (hq : ∀ s, P s → Q s) : GH Q sz hf := fun k hk => hq _ (h k hk)
/-- a contract's end, said less sharply -/
theorem met_cq {l : Launch} {y : MethodName} {ws : List Cond} {rm : Room} {Pc : Array Value → State → Prop} {Qc Qd : Array Value → State → Outcome → State → Prop} {mc ms : Nat} {free : Addr → Prop} (h : Met l y ws rm Pc Qc mc ms free) (hq : ∀ aa z o t, Qc aa z o t → Qd aa z o t) : Met l y ws rm Pc Qd mc ms free := by
  intro p e ha hc hk s m args below hf happ hP hK
  obtain ⟨n, o, h1, h2, h3, h4, h5⟩ := h p e ha hc hk s m args below hf happ hP hK
  exact ⟨n, o, h1, h2, h3, hq _ _ _ _ h4, h5⟩
theorem qi_cq {D : va_G} {nn : Nat} {a : Nat → Nat} {S S' : Type} {post : Int32 → S → Prop} {post' : Int32 → S' → Prop} {e' : S → Nat → va_E} {e'' : S' → Nat → va_E} {A : Nat → Prop} {aa : Array Value} {z t : State} {o : Outcome} (f : S → S') (h : ∀ r x, post r x → post' r (f x)) (he : ∀ x, e'' (f x) = e' x) (hq : va_Qi post (BW D nn a e') A aa z o t) : va_Qi post' (BW D nn a e'') A aa z o t := by
  obtain ⟨⟨r, x, h1, h2, h3⟩, h4⟩ := hq
  exact ⟨⟨r, f x, h1, h _ _ h2, by show HP D nn a (e'' (f x)) t.heap; rw [he]; exact h3⟩, h4⟩
abbrev qIn (s : St) (d : Nat) : Int32 := qF s d (behN d) 201 0 (s 1 d) (s 1 (behN d))
abbrev rIn (s : St) (d : Nat) : Int32 := ringF s d (s 1 d / 60) 200 1 (s 1 d)
set_option maxHeartbeats 4000000 in
set_option maxRecDepth 100000 in
theorem a_X6_tick (l : Launch) (D : va_G) (cI cS : ClassId) (a : Nat → Nat) (u : WT) (s : St) (sz : Nat) (hf : Nat → St) (hok : UOk u s sz hf) (n : Nat) (hn : 1 ≤ n ∧ n ≤ 99) (zz : Nat) : Met l yX6_tick (.code yX6_tick cX6_tick 2 (some .int) :: wsA) ({ frames := 4, cells := 0, slots := 0, locals := 86 } : Room) (va_Pc [.ref (a 112), .int (nI n)] (PW D cI cS 113 a (exU cI cS a u) zz)) (va_Qi (fun r (w : WT) => r = ticksA n s ∧ UOk w (ticksS n s) (svQ sz + 1) (svH hf sz s)) (BW D 113 a (fun w => exU cI cS a w)) (AX 113 a zz)) 0 0 (AX 113 a zz) := by
  obtain ⟨s9, st, pi, mi, po⟩ := u
  obtain ⟨q1, q2, q3, q4, q5, q6⟩ := id hok
  have q1 : s9 = s := q1
  subst q1
  exact met_cq (m_X6_tick l D cI cS a s9 st pi mi po sz q2 q3 q4 n hn zz) (fun aa z o t hq => qi_cq (fun x => (ticksS n s9, va_up st (svPi pi sz (svQ sz) + 1) s9, svPi pi sz, up2 mi 0 0 (nI (svQ sz + 1)), po)) (fun r x hr => ⟨hr, hok.sv⟩) (fun x => rfl) hq)

set_option maxHeartbeats 4000000 in
set_option maxRecDepth 100000 in
theorem a_X6_vote (l : Launch) (D : va_G) (cI cS : ClassId) (a : Nat → Nat) (u : WT) (s : St) (sz : Nat) (hf : Nat → St) (hok : UOk u s sz hf) (hw0 : ¬ sumN (s 7) 7 = 0) (zz : Nat) : Met l yX6_vote (.code yX6_vote cX6_vote 1 (some .int) :: wsA) ({ frames := 5, cells := 0, slots := 0, locals := 110 } : Room) (va_Pc [.ref (a 112)] (PW D cI cS 113 a (exU cI cS a u) zz)) (va_Qi (fun r (w : WT) => r = voteS s 0 1 ∧ UOk w (voteS s) (svQ sz + 1) (svH hf sz s)) (BW D 113 a (fun w => exU cI cS a w)) (AX 113 a zz)) 0 0 (AX 113 a zz) := by
  obtain ⟨s9, st, pi, mi, po⟩ := u
  obtain ⟨q1, q2, q3, q4, q5, q6⟩ := id hok
  have q1 : s9 = s := q1
  subst q1
  exact met_cq (m_X6_vote l D cI cS a s9 st pi mi po sz q2 q3 q4 hw0 zz) (fun aa z o t hq => qi_cq (fun x => (voteS s9, va_up st (svPi pi sz (svQ sz) + 1) s9, svPi pi sz, up2 mi 0 0 (nI (svQ sz + 1)), x)) (fun r x hr => ⟨hr, hok.sv⟩) (fun x => rfl) hq)

set_option maxHeartbeats 4000000 in
set_option maxRecDepth 100000 in
theorem a_X6_correct (l : Launch) (D : va_G) (cI cS : ClassId) (a : Nat → Nat) (u : WT) (s : St) (sz : Nat) (hf : Nat → St) (hok : UOk u s sz hf) (zz : Nat) : Met l yX6_correct (.code yX6_correct cX6_correct 1 (some .int) :: wsA) ({ frames := 4, cells := 0, slots := 0, locals := 86 } : Room) (va_Pc [.ref (a 112)] (PW D cI cS 113 a (exU cI cS a u) zz)) (va_Qi (fun r (w : WT) => r = corA 7 s ∧ UOk w (corS 7 s) (svQ sz + 1) (svH hf sz s)) (BW D 113 a (fun w => exU cI cS a w)) (AX 113 a zz)) 0 0 (AX 113 a zz) := by
  obtain ⟨s9, st, pi, mi, po⟩ := u
  obtain ⟨q1, q2, q3, q4, q5, q6⟩ := id hok
  have q1 : s9 = s := q1
  subst q1
  exact met_cq (m_X6_correct l D cI cS a s9 st pi mi po sz q2 q3 q4 zz) (fun aa z o t hq => qi_cq (fun x => (corS 7 s9, va_up st (svPi pi sz (svQ sz) + 1) s9, svPi pi sz, up2 mi 0 0 (nI (svQ sz + 1)), po)) (fun r x hr => ⟨hr, hok.sv⟩) (fun x => rfl) hq)

set_option maxHeartbeats 4000000 in
set_option maxRecDepth 100000 in
theorem a_X6_put (l : Launch) (D : va_G) (cI cS : ClassId) (a : Nat → Nat) (u : WT) (s : St) (sz : Nat) (hf : Nat → St) (hok : UOk u s sz hf) (d : Nat) (hd : d < 7) (y : Int32) (hy0 : ¬ y < 0) (hy9 : y ≤ 99999) (zz : Nat) : Met l yX6_put (.code yX6_put cX6_put 4 (some .int) :: wsA) ({ frames := 4, cells := 0, slots := 0, locals := 86 } : Room) (va_Pc [.ref (a 112), .int (nI d), .int y] (PW D cI cS 113 a (exU cI cS a u) zz)) (va_Qi (fun r (w : WT) => r = s 1 d ∧ UOk w (mvS s d y) (svQ sz + 1) (svH hf sz s)) (BW D 113 a (fun w => exU cI cS a w)) (AX 113 a zz)) 0 0 (AX 113 a zz) := by
  obtain ⟨s9, st, pi, mi, po⟩ := u
  obtain ⟨q1, q2, q3, q4, q5, q6⟩ := id hok
  have q1 : s9 = s := q1
  subst q1
  exact met_cq (m_X6_put l D cI cS a s9 st pi mi po sz q2 q3 q4 d hd y hy0 hy9 zz) (fun aa z o t hq => qi_cq (fun x => (mvS s9 d y, va_up st (svPi pi sz (svQ sz) + 1) s9, svPi pi sz, up2 mi 0 0 (nI (svQ sz + 1)), po)) (fun r x hr => ⟨hr, hok.sv⟩) (fun x => rfl) hq)

set_option maxHeartbeats 4000000 in
set_option maxRecDepth 100000 in
theorem a_X6_drift (l : Launch) (D : va_G) (cI cS : ClassId) (a : Nat → Nat) (u : WT) (s : St) (sz : Nat) (hf : Nat → St) (hok : UOk u s sz hf) (d : Nat) (hd : d < 7) (y : Int32) (hy0 : ¬ y < (-5)) (hy9 : y ≤ 5) (zz : Nat) : Met l yX6_drift (.code yX6_drift cX6_drift 4 (some .int) :: wsA) ({ frames := 4, cells := 0, slots := 0, locals := 86 } : Room) (va_Pc [.ref (a 112), .int (nI d), .int y] (PW D cI cS 113 a (exU cI cS a u) zz)) (va_Qi (fun r (w : WT) => r = s 2 d ∧ UOk w (up2 s 2 d y) (svQ sz + 1) (svH hf sz s)) (BW D 113 a (fun w => exU cI cS a w)) (AX 113 a zz)) 0 0 (AX 113 a zz) := by
  obtain ⟨s9, st, pi, mi, po⟩ := u
  obtain ⟨q1, q2, q3, q4, q5, q6⟩ := id hok
  have q1 : s9 = s := q1
  subst q1
  exact met_cq (m_X6_drift l D cI cS a s9 st pi mi po sz q2 q3 q4 d hd y hy0 hy9 zz) (fun aa z o t hq => qi_cq (fun x => (up2 s9 2 d y, va_up st (svPi pi sz (svQ sz) + 1) s9, svPi pi sz, up2 mi 0 0 (nI (svQ sz + 1)), po)) (fun r x hr => ⟨hr, hok.sv⟩) (fun x => rfl) hq)

set_option maxHeartbeats 4000000 in
set_option maxRecDepth 100000 in
theorem a_X6_warden (l : Launch) (D : va_G) (cI cS : ClassId) (a : Nat → Nat) (u : WT) (s : St) (sz : Nat) (hf : Nat → St) (hok : UOk u s sz hf) (w : Nat) (hw : w < 7) (x y : Int32) (hx0 : ¬ x < 0) (hx9 : x ≤ 9) (hy0 : ¬ y < (-60)) (hy9 : y ≤ 60) (zz : Nat) : Met l yX6_warden (.code yX6_warden cX6_warden 5 (some .int) :: wsA) ({ frames := 4, cells := 0, slots := 0, locals := 86 } : Room) (va_Pc [.ref (a 112), .int (nI w), .int x, .int y] (PW D cI cS 113 a (exU cI cS a u) zz)) (va_Qi (fun r (w : WT) => r = s 7 w ∧ UOk w (up2 (up2 s 7 w x) 8 w y) (svQ sz + 1) (svH hf sz s)) (BW D 113 a (fun w => exU cI cS a w)) (AX 113 a zz)) 0 0 (AX 113 a zz) := by
  obtain ⟨s9, st, pi, mi, po⟩ := u
  obtain ⟨q1, q2, q3, q4, q5, q6⟩ := id hok
  have q1 : s9 = s := q1
  subst q1
  exact met_cq (m_X6_warden l D cI cS a s9 st pi mi po sz q2 q3 q4 w hw x y hx0 hx9 hy0 hy9 zz) (fun aa z o t hq => qi_cq (fun x => (up2 (up2 s9 7 w x) 8 w y, va_up st (svPi pi sz (svQ sz) + 1) s9, svPi pi sz, up2 mi 0 0 (nI (svQ sz + 1)), po)) (fun r x hr => ⟨hr, hok.sv⟩) (fun x => rfl) hq)

set_option maxHeartbeats 4000000 in
set_option maxRecDepth 100000 in
theorem a_X6_set (l : Launch) (D : va_G) (cI cS : ClassId) (a : Nat → Nat) (u : WT) (s : St) (sz : Nat) (hf : Nat → St) (hok : UOk u s sz hf) (q : Nat) (hq : q < 2) (y : Int32) (hy0 : ¬ y < 0) (hy9 : y ≤ 99) (zz : Nat) : Met l yX6_set (.code yX6_set cX6_set 4 (some .int) :: wsA) ({ frames := 4, cells := 0, slots := 0, locals := 86 } : Room) (va_Pc [.ref (a 112), .int (nI q), .int y] (PW D cI cS 113 a (exU cI cS a u) zz)) (va_Qi (fun r (w : WT) => r = s 10 q ∧ UOk w (up2 s 10 q y) (svQ sz + 1) (svH hf sz s)) (BW D 113 a (fun w => exU cI cS a w)) (AX 113 a zz)) 0 0 (AX 113 a zz) := by
  obtain ⟨s9, st, pi, mi, po⟩ := u
  obtain ⟨q1, q2, q3, q4, q5, q6⟩ := id hok
  have q1 : s9 = s := q1
  subst q1
  exact met_cq (m_X6_set l D cI cS a s9 st pi mi po sz q2 q3 q4 q hq y hy0 hy9 zz) (fun aa z o t hq => qi_cq (fun x => (up2 s9 10 q y, va_up st (svPi pi sz (svQ sz) + 1) s9, svPi pi sz, up2 mi 0 0 (nI (svQ sz + 1)), po)) (fun r x hr => ⟨hr, hok.sv⟩) (fun x => rfl) hq)

set_option maxHeartbeats 4000000 in
set_option maxRecDepth 100000 in
theorem a_X6_keep (l : Launch) (D : va_G) (cI cS : ClassId) (a : Nat → Nat) (u : WT) (s : St) (sz : Nat) (hf : Nat → St) (hok : UOk u s sz hf) (zz : Nat) : Met l yX6_keep (.code yX6_keep cX6_keep 1 (some .int) :: wsA) ({ frames := 3, cells := 0, slots := 0, locals := 64 } : Room) (va_Pc [.ref (a 112)] (PW D cI cS 113 a (exU cI cS a u) zz)) (va_Qi (fun r (w : WT) => r = s 0 1 ∧ UOk w s sz hf) (BW D 113 a (fun w => exU cI cS a w)) (AX 113 a zz)) 0 0 (AX 113 a zz) := by
  obtain ⟨s9, st, pi, mi, po⟩ := u
  obtain ⟨q1, q2, q3, q4, q5, q6⟩ := id hok
  have q1 : s9 = s := q1
  subst q1
  exact met_cq (m_X6_keep l D cI cS a s9 st pi mi po  zz) (fun aa z o t hq => qi_cq (fun x => (s9, va_up st 0 s9, pi, up2 mi 0 2 1, po)) (fun r x hr => ⟨hr, hok.kp⟩) (fun x => rfl) hq)

set_option maxHeartbeats 4000000 in
set_option maxRecDepth 100000 in
theorem a_X6_undo (l : Launch) (D : va_G) (cI cS : ClassId) (a : Nat → Nat) (u : WT) (s : St) (sz : Nat) (hf : Nat → St) (hok : UOk u s sz hf) (h1 : 1 ≤ sz) (zz : Nat) : Met l yX6_undo (.code yX6_undo cX6_undo 1 (some .int) :: wsA) ({ frames := 4, cells := 0, slots := 0, locals := 86 } : Room) (va_Pc [.ref (a 112)] (PW D cI cS 113 a (exU cI cS a u) zz)) (va_Qi (fun r (w : WT) => r = nI (sz - 1) ∧ UOk w (hf (sz - 1)) (sz - 1) hf) (BW D 113 a (fun w => exU cI cS a w)) (AX 113 a zz)) 0 0 (AX 113 a zz) := by
  obtain ⟨s9, st, pi, mi, po⟩ := u
  obtain ⟨q1, q2, q3, q4, q5, q6⟩ := id hok
  have q1 : s9 = s := q1
  subst q1
  exact met_cq (m_X6_undo l D cI cS a s9 st pi mi po sz q2 q3 q4 h1 zz) (fun aa z o t hq => qi_cq (fun x => (st (pi (sz - 1) + 1), st, pi, up2 mi 0 0 (nI (sz - 1)), po)) (fun r x hr => ⟨hr, hok.un h1⟩) (fun x => rfl) hq)

set_option maxHeartbeats 4000000 in
set_option maxRecDepth 100000 in
theorem a_X6_says (l : Launch) (D : va_G) (cI cS : ClassId) (a : Nat → Nat) (u : WT) (s : St) (sz : Nat) (hf : Nat → St) (hok : UOk u s sz hf) (w q : Nat) (hw : w < 7) (hq : q < 6) (zz : Nat) : Met l yX6_says (.code yX6_says cX6_says 3 (some .int) :: wsA) ({ frames := 5, cells := 0, slots := 0, locals := 109 } : Room) (va_Pc [.ref (a 112), .int (nI w), .int (nI q)] (PW D cI cS 113 a (exU cI cS a u) zz)) (va_Qi (fun r (w : WT) => r = wardN s w q ∧ UOk w s sz hf) (BW D 113 a (fun w => exU cI cS a w)) (AX 113 a zz)) 0 0 (AX 113 a zz) := by
  obtain ⟨s9, st, pi, mi, po⟩ := u
  obtain ⟨q1, q2, q3, q4, q5, q6⟩ := id hok
  have q1 : s9 = s := q1
  subst q1
  exact met_cq (m_X6_says l D cI cS a s9 st pi mi po w q hw hq zz) (fun aa z o t hq => qi_cq (fun x => (s9, st, pi, mi, x)) (fun r x hr => ⟨hr, hok.po⟩) (fun x => rfl) hq)

set_option maxHeartbeats 4000000 in
set_option maxRecDepth 100000 in
theorem a_X6_count (l : Launch) (D : va_G) (cI cS : ClassId) (a : Nat → Nat) (u : WT) (s : St) (sz : Nat) (hf : Nat → St) (hok : UOk u s sz hf) (q : Nat) (hq : q < 14) (zz : Nat) : Met l yX6_count (.code yX6_count cX6_count 2 (some .int) :: wsA) ({ frames := 5, cells := 0, slots := 0, locals := 108 } : Room) (va_Pc [.ref (a 112), .int (nI q)] (PW D cI cS 113 a (exU cI cS a u) zz)) (va_Qi (fun r (w : WT) => r = counN s sz q ∧ UOk w s sz hf) (BW D 113 a (fun w => exU cI cS a w)) (AX 113 a zz)) 0 0 (AX 113 a zz) := by
  obtain ⟨s9, st, pi, mi, po⟩ := u
  obtain ⟨q1, q2, q3, q4, q5, q6⟩ := id hok
  have q1 : s9 = s := q1
  subst q1
  exact met_cq (m_X6_count l D cI cS a s9 st pi mi po sz q hq q3 zz) (fun aa z o t hq => qi_cq (fun x => (s9, st, pi, mi, x)) (fun r x hr => ⟨hr, hok.po⟩) (fun x => rfl) hq)

set_option maxHeartbeats 4000000 in
set_option maxRecDepth 100000 in
theorem a_X6_without (l : Launch) (D : va_G) (cI cS : ClassId) (a : Nat → Nat) (u : WT) (s : St) (sz : Nat) (hf : Nat → St) (hok : UOk u s sz hf) (w : Nat) (hw : w < 7) (zz : Nat) : Met l yX6_without (.code yX6_without cX6_without 2 (some .int) :: wsA) ({ frames := 4, cells := 0, slots := 0, locals := 88 } : Room) (va_Pc [.ref (a 112), .int (nI w)] (PW D cI cS 113 a (exU cI cS a u) zz)) (va_Qi (fun r (w : WT) => r = midW s w 0 ∧ UOk w s sz hf) (BW D 113 a (fun w => exU cI cS a w)) (AX 113 a zz)) 0 0 (AX 113 a zz) := by
  obtain ⟨s9, st, pi, mi, po⟩ := u
  obtain ⟨q1, q2, q3, q4, q5, q6⟩ := id hok
  have q1 : s9 = s := q1
  subst q1
  exact met_cq (m_X6_without l D cI cS a s9 st pi mi po w hw zz) (fun aa z o t hq => qi_cq (fun x => (s9, st, pi, mi, x)) (fun r x hr => ⟨hr, hok.po⟩) (fun x => rfl) hq)

set_option maxHeartbeats 4000000 in
set_option maxRecDepth 100000 in
theorem a_X6_pivot (l : Launch) (D : va_G) (cI cS : ClassId) (a : Nat → Nat) (u : WT) (s : St) (sz : Nat) (hf : Nat → St) (hok : UOk u s sz hf) (zz : Nat) : Met l yX6_pivot (.code yX6_pivot cX6_pivot 7 (some .int) :: wsA) ({ frames := 4, cells := 0, slots := 0, locals := 88 } : Room) (va_Pc [.ref (a 112)] (PW D cI cS 113 a (exU cI cS a u) zz)) (va_Qi (fun r (w : WT) => r = pivI s ∧ UOk w s sz hf) (BW D 113 a (fun w => exU cI cS a w)) (AX 113 a zz)) 0 0 (AX 113 a zz) := by
  obtain ⟨s9, st, pi, mi, po⟩ := u
  obtain ⟨q1, q2, q3, q4, q5, q6⟩ := id hok
  have q1 : s9 = s := q1
  subst q1
  exact met_cq (m_X6_pivot l D cI cS a s9 st pi mi po  zz) (fun aa z o t hq => qi_cq (fun x => (s9, st, pi, mi, x)) (fun r x hr => ⟨hr, hok.po⟩) (fun x => rfl) hq)

set_option maxHeartbeats 4000000 in
set_option maxRecDepth 100000 in
theorem a_X6_wins (l : Launch) (D : va_G) (cI cS : ClassId) (a : Nat → Nat) (u : WT) (s : St) (sz : Nat) (hf : Nat → St) (hok : UOk u s sz hf) (w : Nat) (hw : w < 7) (zz : Nat) : Met l yX6_wins (.code yX6_wins cX6_wins 4 (some .int) :: wsA) ({ frames := 4, cells := 0, slots := 0, locals := 88 } : Room) (va_Pc [.ref (a 112), .int (nI w)] (PW D cI cS 113 a (exU cI cS a u) zz)) (va_Qi (fun r (w : WT) => r = winF s w 9 1 ∧ UOk w s sz hf) (BW D 113 a (fun w => exU cI cS a w)) (AX 113 a zz)) 0 0 (AX 113 a zz) := by
  obtain ⟨s9, st, pi, mi, po⟩ := u
  obtain ⟨q1, q2, q3, q4, q5, q6⟩ := id hok
  have q1 : s9 = s := q1
  subst q1
  exact met_cq (m_X6_wins l D cI cS a s9 st pi mi po w hw zz) (fun aa z o t hq => qi_cq (fun x => (s9, st, pi, mi, x)) (fun r x hr => ⟨hr, hok.po⟩) (fun x => rfl) hq)

set_option maxHeartbeats 4000000 in
set_option maxRecDepth 100000 in
theorem a_X6_dial (l : Launch) (D : va_G) (cI cS : ClassId) (a : Nat → Nat) (u : WT) (s : St) (sz : Nat) (hf : Nat → St) (hok : UOk u s sz hf) (d q : Nat) (hd : d < 7) (hq : q < 7) : Met l yX6_dial (.code yX6_dial cX6_dial 3 (some .int) :: wsA) ({ frames := 3, cells := 0, slots := 0, locals := 64 } : Room) (va_Pc [.ref (a 112), .int (nI d), .int (nI q)] (PR D cI cS 113 a (exU cI cS a u))) (vp_Si (fun r => r = dialN s d q)) 0 0 (fun _ => False) := by
  obtain ⟨s9, st, pi, mi, po⟩ := u
  have q1 : s9 = s := hok.1
  subst q1
  exact m_X6_dial l D cI cS a s9 st pi mi po d q hd hq

set_option maxHeartbeats 4000000 in
set_option maxRecDepth 100000 in
theorem a_X6_setting (l : Launch) (D : va_G) (cI cS : ClassId) (a : Nat → Nat) (u : WT) (s : St) (sz : Nat) (hf : Nat → St) (hok : UOk u s sz hf) (q : Nat) (hq : q < 2) : Met l yX6_setting (.code yX6_setting cX6_setting 2 (some .int) :: wsA) ({ frames := 1, cells := 0, slots := 0, locals := 20 } : Room) (va_Pc [.ref (a 112), .int (nI q)] (PR D cI cS 113 a (exU cI cS a u))) (vp_Si (fun r => r = s 10 q)) 0 0 (fun _ => False) := by
  obtain ⟨s9, st, pi, mi, po⟩ := u
  have q1 : s9 = s := hok.1
  subst q1
  exact m_X6_setting l D cI cS a s9 st pi mi po q hq

set_option maxHeartbeats 4000000 in
set_option maxRecDepth 100000 in
theorem a_X6_quarrelIn (l : Launch) (D : va_G) (cI cS : ClassId) (a : Nat → Nat) (u : WT) (s : St) (sz : Nat) (hf : Nat → St) (hok : UOk u s sz hf) (d : Nat) (hd : d < 7) : Met l yX6_quarrelIn (.code yX6_quarrelIn cX6_quarrelIn 2 (some .int) :: wsA) ({ frames := 3, cells := 0, slots := 0, locals := 68 } : Room) (va_Pc [.ref (a 112), .int (nI d)] (PR D cI cS 113 a (exU cI cS a u))) (vp_Si (fun r => r = qF s d (behN d) 201 0 (s 1 d) (s 1 (behN d)))) 0 0 (fun _ => False) := by
  obtain ⟨s9, st, pi, mi, po⟩ := u
  have q1 : s9 = s := hok.1
  subst q1
  exact m_X6_quarrelIn l D cI cS a s9 st pi mi po d hd

set_option maxHeartbeats 4000000 in
set_option maxRecDepth 100000 in
theorem a_X6_ringsIn (l : Launch) (D : va_G) (cI cS : ClassId) (a : Nat → Nat) (u : WT) (s : St) (sz : Nat) (hf : Nat → St) (hok : UOk u s sz hf) (d : Nat) (hd : d < 7) : Met l yX6_ringsIn (.code yX6_ringsIn cX6_ringsIn 2 (some .int) :: wsA) ({ frames := 2, cells := 0, slots := 0, locals := 47 } : Room) (va_Pc [.ref (a 112), .int (nI d)] (PR D cI cS 113 a (exU cI cS a u))) (vp_Si (fun r => r = ringF s d (s 1 d / 60) 200 1 (s 1 d))) 0 0 (fun _ => False) := by
  obtain ⟨s9, st, pi, mi, po⟩ := u
  have q1 : s9 = s := hok.1
  subst q1
  exact m_X6_ringsIn l D cI cS a s9 st pi mi po d hd

set_option maxHeartbeats 4000000 in
set_option maxRecDepth 100000 in
theorem a_X6_heldShare (l : Launch) (D : va_G) (cI cS : ClassId) (a : Nat → Nat) (u : WT) (s : St) (sz : Nat) (hf : Nat → St) (hok : UOk u s sz hf) (hh2 : 0 ≤ (s 0 3).toInt) (hv2 : 0 ≤ (s 0 2).toInt) : Met l yX6_heldShare (.code yX6_heldShare cX6_heldShare 1 (some .double) :: wsA) ({ frames := 0, cells := 0, slots := 0, locals := 0 } : Room) (va_Pc [.ref (a 112)] (PR D cI cS 113 a (exU cI cS a u))) (vp_Sd (fun r => r = shareD s)) 0 0 (fun _ => False) := by
  obtain ⟨s9, st, pi, mi, po⟩ := u
  have q1 : s9 = s := hok.1
  subst q1
  exact m_X6_heldShare l D cI cS a s9 st pi mi po hh2 hv2

set_option maxHeartbeats 4000000 in
set_option maxRecDepth 100000 in
theorem a_X6_meanError (l : Launch) (D : va_G) (cI cS : ClassId) (a : Nat → Nat) (u : WT) (s : St) (sz : Nat) (hf : Nat → St) (hok : UOk u s sz hf) (hE0 : 0 ≤ (errC s 7).toInt) : Met l yX6_meanError (.code yX6_meanError cX6_meanError 3 (some .float) :: wsA) ({ frames := 2, cells := 0, slots := 0, locals := 42 } : Room) (va_Pc [.ref (a 112)] (PR D cI cS 113 a (exU cI cS a u))) (vp_Sf (fun r => r = meanF s)) 0 0 (fun _ => False) := by
  obtain ⟨s9, st, pi, mi, po⟩ := u
  have q1 : s9 = s := hok.1
  subst q1
  exact m_X6_meanError l D cI cS a s9 st pi mi po hE0
