theorem upR_id {s : St} {r : Nat} : upR s r (s r) = s := by
  funext q
  by_cases h : q = r
  · subst h; exact if_pos rfl
  · exact if_neg h
theorem mdl_2 {s kp : St} {hf : Nat → St} {sc ad bf X : Nat → Int32} : upR (mdl s kp hf sc ad bf) 2 X = mdl s kp hf sc X bf := by
  funext r
  match r with
  | 0 => rfl
  | 1 => rfl
  | 2 => rfl
  | 3 => rfl
  | 4 => rfl
  | n + 5 => rfl
def shN (f : Nat → Int32) : Nat → Nat → Int32
  | 0 => f
  | n + 1 => upd (shN f n) n (shN f n (69 + n))
def stN (f g : Nat → Int32) (k : Nat) : Nat → Nat → Int32
  | 0 => f
  | n + 1 => upd (stN f g k n) (69 * k + n) (g n)
def unN (f g : Nat → Int32) (k : Nat) : Nat → Nat → Int32
  | 0 => f
  | n + 1 => upd (unN f g k n) n (g (69 * k + n))
def svM (M : St) (kn : Nat) : St :=
  if kn = 6 then up2 (upR (up2 (upR M 3 (shN (M 3) 345)) 0 0 5) 3 (stN (shN (M 3) 345) (M 1) 5 69)) 0 0 6
  else up2 (upR M 3 (stN (M 3) (M 1) kn 69)) 0 0 (nI (kn + 1))
