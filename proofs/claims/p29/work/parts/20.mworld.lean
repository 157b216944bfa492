/-! the reference: its flat row as a state, its world by parts -/
def fl (s : St) (i : Nat) : Int32 := if i < 2 then s 0 i else if i < 4 then s 10 (i - 2) else if i < 6 then s 0 (i - 2) else if i < 13 then s 1 (i - 6) else if i < 20 then s 2 (i - 13) else if i < 27 then s 6 (i - 20) else if i < 34 then s 3 (i - 27) else if i < 41 then s 4 (i - 34) else if i < 48 then s 5 (i - 41) else if i < 55 then s 7 (i - 48) else if i < 62 then s 8 (i - 55) else if i < 69 then s 9 (i - 62) else 0
def mdl (s kp : St) (hf : Nat → St) (sc ad bf : Nat → Int32) : St := fun r => match r with
  | 0 => sc
  | 1 => fl s
  | 2 => ad
  | 3 => fun i => fl (hf (i / 69)) (i % 69)
  | 4 => fl kp
  | _ => bf
theorem fl_g1 {s : St} {d : Nat} (hd : d < 7) : fl s (6 + d) = s 1 d := by
  unfold fl
  rw [if_neg (by omega), if_neg (by omega), if_neg (by omega), if_pos (by omega), show 6 + d - 6 = d by omega]
theorem fl_g2 {s : St} {d : Nat} (hd : d < 7) : fl s (13 + d) = s 2 d := by
  unfold fl
  rw [if_neg (by omega), if_neg (by omega), if_neg (by omega), if_neg (by omega), if_pos (by omega), show 13 + d - 13 = d by omega]
theorem fl_g6 {s : St} {d : Nat} (hd : d < 7) : fl s (20 + d) = s 6 d := by
  unfold fl
  rw [if_neg (by omega), if_neg (by omega), if_neg (by omega), if_neg (by omega), if_neg (by omega), if_pos (by omega), show 20 + d - 20 = d by omega]
theorem fl_g3 {s : St} {d : Nat} (hd : d < 7) : fl s (27 + d) = s 3 d := by
  unfold fl
  rw [if_neg (by omega), if_neg (by omega), if_neg (by omega), if_neg (by omega), if_neg (by omega), if_neg (by omega), if_pos (by omega), show 27 + d - 27 = d by omega]
theorem fl_g4 {s : St} {d : Nat} (hd : d < 7) : fl s (34 + d) = s 4 d := by
  unfold fl
  rw [if_neg (by omega), if_neg (by omega), if_neg (by omega), if_neg (by omega), if_neg (by omega), if_neg (by omega), if_neg (by omega), if_pos (by omega), show 34 + d - 34 = d by omega]
theorem fl_g5 {s : St} {d : Nat} (hd : d < 7) : fl s (41 + d) = s 5 d := by
  unfold fl
  rw [if_neg (by omega), if_neg (by omega), if_neg (by omega), if_neg (by omega), if_neg (by omega), if_neg (by omega), if_neg (by omega), if_neg (by omega), if_pos (by omega), show 41 + d - 41 = d by omega]
theorem fl_g7 {s : St} {d : Nat} (hd : d < 7) : fl s (48 + d) = s 7 d := by
  unfold fl
  rw [if_neg (by omega), if_neg (by omega), if_neg (by omega), if_neg (by omega), if_neg (by omega), if_neg (by omega), if_neg (by omega), if_neg (by omega), if_neg (by omega), if_pos (by omega), show 48 + d - 48 = d by omega]
theorem fl_g8 {s : St} {d : Nat} (hd : d < 7) : fl s (55 + d) = s 8 d := by
  unfold fl
  rw [if_neg (by omega), if_neg (by omega), if_neg (by omega), if_neg (by omega), if_neg (by omega), if_neg (by omega), if_neg (by omega), if_neg (by omega), if_neg (by omega), if_neg (by omega), if_pos (by omega), show 55 + d - 55 = d by omega]
theorem fl_g9 {s : St} {d : Nat} (hd : d < 7) : fl s (62 + d) = s 9 d := by
  unfold fl
  rw [if_neg (by omega), if_neg (by omega), if_neg (by omega), if_neg (by omega), if_neg (by omega), if_neg (by omega), if_neg (by omega), if_neg (by omega), if_neg (by omega), if_neg (by omega), if_neg (by omega), if_pos (by omega), show 62 + d - 62 = d by omega]
theorem fl_g10 {s : St} {d : Nat} (hd : d < 2) : fl s (2 + d) = s 10 d := by
  unfold fl
  rw [if_neg (by omega), if_pos (by omega), show 2 + d - 2 = d by omega]
theorem fl_g0 {s : St} {d : Nat} (hd : d < 2) : fl s d = s 0 d := by
  unfold fl
  rw [if_pos hd]
theorem fl_gv {s : St} {d : Nat} (hd : d < 2) : fl s (4 + d) = s 0 (2 + d) := by
  unfold fl
  rw [if_neg (by omega), if_neg (by omega), if_pos (by omega), show 4 + d - 2 = 2 + d by omega]
theorem up2_k {s : St} {r c : Nat} {v : Int32} {k : Nat} (h : k ≠ c) : up2 s r c v r k = s r k := by rw [up2_e]; exact if_neg h
theorem up2_kk {s : St} {r c : Nat} {v : Int32} : up2 s r c v r c = v := by rw [up2_e]; exact if_pos rfl
theorem flc {p : Prop} [Decidable p] {x y x2 y2 : Int32} (h1 : p → x = x2) (h2 : ¬ p → y = y2) : (if p then x else y) = (if p then x2 else y2) := by
  by_cases h : p
  · rw [if_pos h, if_pos h]; exact h1 h
  · rw [if_neg h, if_neg h]; exact h2 h
theorem fl_st {s : St} {r c i : Nat} {v : Int32} (hi : fl (up2 s r c v) i = v) (h : ∀ r' k, (r' ≠ r ∨ k ≠ c) → up2 s r c v r' k = s r' k) (hj : ∀ j, j ≠ i → (∀ s' : St, (∀ r' k, (r' ≠ r ∨ k ≠ c) → s' r' k = s r' k) → fl s' j = fl s j)) : fl (up2 s r c v) = upd (fl s) i v := by
  funext j
  by_cases hq : j = i
  · subst hq; rw [hi]; exact (if_pos rfl).symm
  · rw [hj j hq _ h]; exact (if_neg hq).symm
theorem up2_x {s : St} {r c : Nat} {v : Int32} : ∀ r' k, (r' ≠ r ∨ k ≠ c) → up2 s r c v r' k = s r' k := by
  intro r' k h
  by_cases h1 : r' = r
  · subst h1; exact up2_k (h.resolve_left (fun h => h rfl))
  · rw [up2_o h1]
theorem fl_s1 {s : St} {d : Nat} { v : Int32} (hd : d < 7) : fl (up2 s 1 d v) = upd (fl s) (6 + d) v := by
  refine fl_st (by rw [fl_g1 hd]; exact up2_kk) up2_x (fun j hj s' h => ?_)
  unfold fl
  exact flc (fun h0 => h _ _ (by omega)) (fun h0 => flc (fun h1 => h _ _ (by omega)) (fun h1 => flc (fun h2 => h _ _ (by omega)) (fun h2 => flc (fun h3 => h _ _ (by omega)) (fun h3 => flc (fun h4 => h _ _ (by omega)) (fun h4 => flc (fun h5 => h _ _ (by omega)) (fun h5 => flc (fun h6 => h _ _ (by omega)) (fun h6 => flc (fun h7 => h _ _ (by omega)) (fun h7 => flc (fun h8 => h _ _ (by omega)) (fun h8 => flc (fun h9 => h _ _ (by omega)) (fun h9 => flc (fun h10 => h _ _ (by omega)) (fun h10 => flc (fun h11 => h _ _ (by omega)) (fun h11 => rfl))))))))))))
theorem fl_s2 {s : St} {d : Nat} { v : Int32} (hd : d < 7) : fl (up2 s 2 d v) = upd (fl s) (13 + d) v := by
  refine fl_st (by rw [fl_g2 hd]; exact up2_kk) up2_x (fun j hj s' h => ?_)
  unfold fl
  exact flc (fun h0 => h _ _ (by omega)) (fun h0 => flc (fun h1 => h _ _ (by omega)) (fun h1 => flc (fun h2 => h _ _ (by omega)) (fun h2 => flc (fun h3 => h _ _ (by omega)) (fun h3 => flc (fun h4 => h _ _ (by omega)) (fun h4 => flc (fun h5 => h _ _ (by omega)) (fun h5 => flc (fun h6 => h _ _ (by omega)) (fun h6 => flc (fun h7 => h _ _ (by omega)) (fun h7 => flc (fun h8 => h _ _ (by omega)) (fun h8 => flc (fun h9 => h _ _ (by omega)) (fun h9 => flc (fun h10 => h _ _ (by omega)) (fun h10 => flc (fun h11 => h _ _ (by omega)) (fun h11 => rfl))))))))))))
theorem fl_s6 {s : St} {d : Nat} { v : Int32} (hd : d < 7) : fl (up2 s 6 d v) = upd (fl s) (20 + d) v := by
  refine fl_st (by rw [fl_g6 hd]; exact up2_kk) up2_x (fun j hj s' h => ?_)
  unfold fl
  exact flc (fun h0 => h _ _ (by omega)) (fun h0 => flc (fun h1 => h _ _ (by omega)) (fun h1 => flc (fun h2 => h _ _ (by omega)) (fun h2 => flc (fun h3 => h _ _ (by omega)) (fun h3 => flc (fun h4 => h _ _ (by omega)) (fun h4 => flc (fun h5 => h _ _ (by omega)) (fun h5 => flc (fun h6 => h _ _ (by omega)) (fun h6 => flc (fun h7 => h _ _ (by omega)) (fun h7 => flc (fun h8 => h _ _ (by omega)) (fun h8 => flc (fun h9 => h _ _ (by omega)) (fun h9 => flc (fun h10 => h _ _ (by omega)) (fun h10 => flc (fun h11 => h _ _ (by omega)) (fun h11 => rfl))))))))))))
theorem fl_s3 {s : St} {d : Nat} { v : Int32} (hd : d < 7) : fl (up2 s 3 d v) = upd (fl s) (27 + d) v := by
  refine fl_st (by rw [fl_g3 hd]; exact up2_kk) up2_x (fun j hj s' h => ?_)
  unfold fl
  exact flc (fun h0 => h _ _ (by omega)) (fun h0 => flc (fun h1 => h _ _ (by omega)) (fun h1 => flc (fun h2 => h _ _ (by omega)) (fun h2 => flc (fun h3 => h _ _ (by omega)) (fun h3 => flc (fun h4 => h _ _ (by omega)) (fun h4 => flc (fun h5 => h _ _ (by omega)) (fun h5 => flc (fun h6 => h _ _ (by omega)) (fun h6 => flc (fun h7 => h _ _ (by omega)) (fun h7 => flc (fun h8 => h _ _ (by omega)) (fun h8 => flc (fun h9 => h _ _ (by omega)) (fun h9 => flc (fun h10 => h _ _ (by omega)) (fun h10 => flc (fun h11 => h _ _ (by omega)) (fun h11 => rfl))))))))))))
theorem fl_s4 {s : St} {d : Nat} { v : Int32} (hd : d < 7) : fl (up2 s 4 d v) = upd (fl s) (34 + d) v := by
  refine fl_st (by rw [fl_g4 hd]; exact up2_kk) up2_x (fun j hj s' h => ?_)
  unfold fl
  exact flc (fun h0 => h _ _ (by omega)) (fun h0 => flc (fun h1 => h _ _ (by omega)) (fun h1 => flc (fun h2 => h _ _ (by omega)) (fun h2 => flc (fun h3 => h _ _ (by omega)) (fun h3 => flc (fun h4 => h _ _ (by omega)) (fun h4 => flc (fun h5 => h _ _ (by omega)) (fun h5 => flc (fun h6 => h _ _ (by omega)) (fun h6 => flc (fun h7 => h _ _ (by omega)) (fun h7 => flc (fun h8 => h _ _ (by omega)) (fun h8 => flc (fun h9 => h _ _ (by omega)) (fun h9 => flc (fun h10 => h _ _ (by omega)) (fun h10 => flc (fun h11 => h _ _ (by omega)) (fun h11 => rfl))))))))))))
theorem fl_s5 {s : St} {d : Nat} { v : Int32} (hd : d < 7) : fl (up2 s 5 d v) = upd (fl s) (41 + d) v := by
  refine fl_st (by rw [fl_g5 hd]; exact up2_kk) up2_x (fun j hj s' h => ?_)
  unfold fl
  exact flc (fun h0 => h _ _ (by omega)) (fun h0 => flc (fun h1 => h _ _ (by omega)) (fun h1 => flc (fun h2 => h _ _ (by omega)) (fun h2 => flc (fun h3 => h _ _ (by omega)) (fun h3 => flc (fun h4 => h _ _ (by omega)) (fun h4 => flc (fun h5 => h _ _ (by omega)) (fun h5 => flc (fun h6 => h _ _ (by omega)) (fun h6 => flc (fun h7 => h _ _ (by omega)) (fun h7 => flc (fun h8 => h _ _ (by omega)) (fun h8 => flc (fun h9 => h _ _ (by omega)) (fun h9 => flc (fun h10 => h _ _ (by omega)) (fun h10 => flc (fun h11 => h _ _ (by omega)) (fun h11 => rfl))))))))))))
theorem fl_s7 {s : St} {d : Nat} { v : Int32} (hd : d < 7) : fl (up2 s 7 d v) = upd (fl s) (48 + d) v := by
  refine fl_st (by rw [fl_g7 hd]; exact up2_kk) up2_x (fun j hj s' h => ?_)
  unfold fl
  exact flc (fun h0 => h _ _ (by omega)) (fun h0 => flc (fun h1 => h _ _ (by omega)) (fun h1 => flc (fun h2 => h _ _ (by omega)) (fun h2 => flc (fun h3 => h _ _ (by omega)) (fun h3 => flc (fun h4 => h _ _ (by omega)) (fun h4 => flc (fun h5 => h _ _ (by omega)) (fun h5 => flc (fun h6 => h _ _ (by omega)) (fun h6 => flc (fun h7 => h _ _ (by omega)) (fun h7 => flc (fun h8 => h _ _ (by omega)) (fun h8 => flc (fun h9 => h _ _ (by omega)) (fun h9 => flc (fun h10 => h _ _ (by omega)) (fun h10 => flc (fun h11 => h _ _ (by omega)) (fun h11 => rfl))))))))))))
theorem fl_s8 {s : St} {d : Nat} { v : Int32} (hd : d < 7) : fl (up2 s 8 d v) = upd (fl s) (55 + d) v := by
  refine fl_st (by rw [fl_g8 hd]; exact up2_kk) up2_x (fun j hj s' h => ?_)
  unfold fl
  exact flc (fun h0 => h _ _ (by omega)) (fun h0 => flc (fun h1 => h _ _ (by omega)) (fun h1 => flc (fun h2 => h _ _ (by omega)) (fun h2 => flc (fun h3 => h _ _ (by omega)) (fun h3 => flc (fun h4 => h _ _ (by omega)) (fun h4 => flc (fun h5 => h _ _ (by omega)) (fun h5 => flc (fun h6 => h _ _ (by omega)) (fun h6 => flc (fun h7 => h _ _ (by omega)) (fun h7 => flc (fun h8 => h _ _ (by omega)) (fun h8 => flc (fun h9 => h _ _ (by omega)) (fun h9 => flc (fun h10 => h _ _ (by omega)) (fun h10 => flc (fun h11 => h _ _ (by omega)) (fun h11 => rfl))))))))))))
theorem fl_s9 {s : St} {d : Nat} { v : Int32} (hd : d < 7) : fl (up2 s 9 d v) = upd (fl s) (62 + d) v := by
  refine fl_st (by rw [fl_g9 hd]; exact up2_kk) up2_x (fun j hj s' h => ?_)
  unfold fl
  exact flc (fun h0 => h _ _ (by omega)) (fun h0 => flc (fun h1 => h _ _ (by omega)) (fun h1 => flc (fun h2 => h _ _ (by omega)) (fun h2 => flc (fun h3 => h _ _ (by omega)) (fun h3 => flc (fun h4 => h _ _ (by omega)) (fun h4 => flc (fun h5 => h _ _ (by omega)) (fun h5 => flc (fun h6 => h _ _ (by omega)) (fun h6 => flc (fun h7 => h _ _ (by omega)) (fun h7 => flc (fun h8 => h _ _ (by omega)) (fun h8 => flc (fun h9 => h _ _ (by omega)) (fun h9 => flc (fun h10 => h _ _ (by omega)) (fun h10 => flc (fun h11 => h _ _ (by omega)) (fun h11 => rfl))))))))))))
theorem fl_s10 {s : St} {d : Nat} { v : Int32} (hd : d < 2) : fl (up2 s 10 d v) = upd (fl s) (2 + d) v := by
  refine fl_st (by rw [fl_g10 hd]; exact up2_kk) up2_x (fun j hj s' h => ?_)
  unfold fl
  exact flc (fun h0 => h _ _ (by omega)) (fun h0 => flc (fun h1 => h _ _ (by omega)) (fun h1 => flc (fun h2 => h _ _ (by omega)) (fun h2 => flc (fun h3 => h _ _ (by omega)) (fun h3 => flc (fun h4 => h _ _ (by omega)) (fun h4 => flc (fun h5 => h _ _ (by omega)) (fun h5 => flc (fun h6 => h _ _ (by omega)) (fun h6 => flc (fun h7 => h _ _ (by omega)) (fun h7 => flc (fun h8 => h _ _ (by omega)) (fun h8 => flc (fun h9 => h _ _ (by omega)) (fun h9 => flc (fun h10 => h _ _ (by omega)) (fun h10 => flc (fun h11 => h _ _ (by omega)) (fun h11 => rfl))))))))))))
theorem fl_s0 {s : St} {d : Nat} { v : Int32} (hd : d < 2) : fl (up2 s 0 d v) = upd (fl s) (d) v := by
  refine fl_st (by rw [fl_g0 hd]; exact up2_kk) up2_x (fun j hj s' h => ?_)
  unfold fl
  exact flc (fun h0 => h _ _ (by omega)) (fun h0 => flc (fun h1 => h _ _ (by omega)) (fun h1 => flc (fun h2 => h _ _ (by omega)) (fun h2 => flc (fun h3 => h _ _ (by omega)) (fun h3 => flc (fun h4 => h _ _ (by omega)) (fun h4 => flc (fun h5 => h _ _ (by omega)) (fun h5 => flc (fun h6 => h _ _ (by omega)) (fun h6 => flc (fun h7 => h _ _ (by omega)) (fun h7 => flc (fun h8 => h _ _ (by omega)) (fun h8 => flc (fun h9 => h _ _ (by omega)) (fun h9 => flc (fun h10 => h _ _ (by omega)) (fun h10 => flc (fun h11 => h _ _ (by omega)) (fun h11 => rfl))))))))))))
theorem fl_sv {s : St} {d : Nat} { v : Int32} (hd : d < 2) : fl (up2 s 0 (2 + d) v) = upd (fl s) (4 + d) v := by
  refine fl_st (by rw [fl_gv hd]; exact up2_kk) up2_x (fun j hj s' h => ?_)
  unfold fl
  exact flc (fun h0 => h _ _ (by omega)) (fun h0 => flc (fun h1 => h _ _ (by omega)) (fun h1 => flc (fun h2 => h _ _ (by omega)) (fun h2 => flc (fun h3 => h _ _ (by omega)) (fun h3 => flc (fun h4 => h _ _ (by omega)) (fun h4 => flc (fun h5 => h _ _ (by omega)) (fun h5 => flc (fun h6 => h _ _ (by omega)) (fun h6 => flc (fun h7 => h _ _ (by omega)) (fun h7 => flc (fun h8 => h _ _ (by omega)) (fun h8 => flc (fun h9 => h _ _ (by omega)) (fun h9 => flc (fun h10 => h _ _ (by omega)) (fun h10 => flc (fun h11 => h _ _ (by omega)) (fun h11 => rfl))))))))))))
theorem fl_e {cI : ClassId} {f g : Nat → Int32} (h : f = g) : (Sum.inl (cI, 69, Sum.inl f) : va_E) = Sum.inl (cI, 69, Sum.inl g) := by rw [h]
theorem mm_s {cI : ClassId} {b : Nat → Nat} {s kp : St} {hf : Nat → St} {sc ad bf : Nat → Int32} {s' : St} : ∀ j, j < 6 → j ≠ 1 → emC cI b (mdl s' kp hf sc ad bf) j = emC cI b (mdl s kp hf sc ad bf) j := by
  intro j h1 h2
  match j, h1, h2 with
  | 0, _, _ => rfl
  | 1, _, h => exact absurd rfl h
  | 2, _, _ => rfl
  | 3, _, _ => rfl
  | 4, _, _ => rfl
  | 5, _, _ => rfl
  | n + 6, h, _ => exact absurd h (by omega)
theorem mm_sc {cI : ClassId} {b : Nat → Nat} {s kp : St} {hf : Nat → St} {sc ad bf : Nat → Int32} {sc' : Nat → Int32} : ∀ j, j < 6 → j ≠ 0 → emC cI b (mdl s kp hf sc' ad bf) j = emC cI b (mdl s kp hf sc ad bf) j := by
  intro j h1 h2
  match j, h1, h2 with
  | 0, _, h => exact absurd rfl h
  | 1, _, _ => rfl
  | 2, _, _ => rfl
  | 3, _, _ => rfl
  | 4, _, _ => rfl
  | 5, _, _ => rfl
  | n + 6, h, _ => exact absurd h (by omega)
theorem mm_ad {cI : ClassId} {b : Nat → Nat} {s kp : St} {hf : Nat → St} {sc ad bf : Nat → Int32} {ad' : Nat → Int32} : ∀ j, j < 6 → j ≠ 2 → emC cI b (mdl s kp hf sc ad' bf) j = emC cI b (mdl s kp hf sc ad bf) j := by
  intro j h1 h2
  match j, h1, h2 with
  | 0, _, _ => rfl
  | 1, _, _ => rfl
  | 2, _, h => exact absurd rfl h
  | 3, _, _ => rfl
  | 4, _, _ => rfl
  | 5, _, _ => rfl
  | n + 6, h, _ => exact absurd h (by omega)
theorem mm_bf {cI : ClassId} {b : Nat → Nat} {s kp : St} {hf : Nat → St} {sc ad bf : Nat → Int32} {bf' : Nat → Int32} : ∀ j, j < 6 → j ≠ 5 → emC cI b (mdl s kp hf sc ad bf') j = emC cI b (mdl s kp hf sc ad bf) j := by
  intro j h1 h2
  match j, h1, h2 with
  | 0, _, _ => rfl
  | 1, _, _ => rfl
  | 2, _, _ => rfl
  | 3, _, _ => rfl
  | 4, _, _ => rfl
  | 5, _, h => exact absurd rfl h
  | n + 6, h, _ => exact absurd h (by omega)
