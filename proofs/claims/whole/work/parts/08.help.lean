/-! numbers, truth values -/
theorem nI_add2 {x y : Int32} {p q : Nat} (hx : x = nI p) (hy : y = nI q) : x + y = nI (p + q) := by rw [hx, hy]; exact nI_add p q
theorem nI_mul2 {x y : Int32} {p q : Nat} (hx : x = nI p) (hy : y = nI q) : x * y = nI (p * q) := by rw [hx, hy]; exact pk_mul p q
theorem nI_sub2 {x y : Int32} {p q : Nat} (hx : x = nI p) (hy : y = nI q) (h : q ≤ p) : x - y = nI (p - q) := by rw [hx, hy]; exact pk_sub h
theorem nI_rem2 {x y : Int32} {p q : Nat} (hx : x = nI p) (hy : y = nI q) (hp : p < 2 ^ 31) (h0 : 0 < q) (hq : q < 2 ^ 31) : x - x / y * y = nI (p % q) := by rw [hx, hy]; exact pk_rem hp h0 hq
theorem nI_eq2 {x y : Int32} {p q : Nat} (hx : x = nI p) (hy : y = nI q) (hp : p < 2 ^ 31) (hq : q < 2 ^ 31) : x = y ↔ p = q := by rw [hx, hy]; exact nI_eq hp hq
theorem nI_lt2 {x y : Int32} {p q : Nat} (hx : x = nI p) (hy : y = nI q) (hp : p < 2 ^ 31) (hq : q < 2 ^ 31) : x < y ↔ p < q := by rw [hx, hy]; exact nI_ltI hp hq
theorem nI_le2 {x y : Int32} {p q : Nat} (hx : x = nI p) (hy : y = nI q) (hp : p < 2 ^ 31) (hq : q < 2 ^ 31) : x ≤ y ↔ p ≤ q := by rw [hx, hy]; exact nI_leI hp hq
def bI (P : Prop) [Decidable P] : Int32 := if P then 1 else 0
theorem bI_t {P : Prop} [Decidable P] (h : P) : bI P = 1 := if_pos h
theorem bI_f {P : Prop} [Decidable P] (h : ¬ P) : bI P = 0 := if_neg h
theorem lv_bI {p : Program} {l : Launch} {e : Env} {R : Room} {s : State} {m : MethodId} {args : Array Value} {below : List Frame} {meth : Method} {c : Code} {H : Heap} {locs : List Loc} {cells slots : Nat} {Q : State → Prop} {pc : Nat} {ls : Array Slot} {rest : List Value} {P : Prop} [Decidable P]
    (kt : P → W p l e R s m args below meth c H locs cells slots Q (F0 m pc ls (.int 1 :: rest))) (kf : ¬ P → W p l e R s m args below meth c H locs cells slots Q (F0 m pc ls (.int 0 :: rest))) : W p l e R s m args below meth c H locs cells slots Q (F0 m pc ls (.int (bI P) :: rest)) := by
  by_cases h : P
  · rw [bI_t h]; exact kt h
  · rw [bI_f h]; exact kf h
/-- the top of the stack under another name -/
theorem lv_as {p : Program} {l : Launch} {e : Env} {R : Room} {s : State} {m : MethodId} {args : Array Value} {below : List Frame} {meth : Method} {c : Code} {H : Heap} {locs : List Loc} {cells slots : Nat} {Q : State → Prop} {pc : Nat} {ls : Array Slot} {rest : List Value} {x y : Int32} (h : x = y)
    (kk : W p l e R s m args below meth c H locs cells slots Q (F0 m pc ls (.int y :: rest))) : W p l e R s m args below meth c H locs cells slots Q (F0 m pc ls (.int x :: rest)) := h ▸ kk
def sumN (f : Nat → Int32) : Nat → Int32
  | 0 => 0
  | n + 1 => sumN f n + f n
/-! what the class's own methods answer -/
def distI (x y : Int32) : Int32 := if x < y then y - x else x - y
def behN (d : Nat) : Nat := if d + 1 < 7 then d + 1 else 0
def befN (d : Nat) : Nat := if 0 < d then d - 1 else 6
theorem behN_lt {d : Nat} : behN d < 7 := by unfold behN; split <;> omega
theorem befN_lt {d : Nat} (h : d < 7) : befN d < 7 := by unfold befN; split <;> omega
def clampW (x : Int32) : Int32 := if x < 0 then 0 else if 99999 < x then 99999 else x
def wordF (s : St) (w : Nat) (x : Int32) : Int32 := clampW (x + s 8 w)
def wordA (s : St) (w : Nat) : Int32 := wordF s w (s 1 w)
def aftI (s : St) (d : Nat) (x : Int32) : Int32 := if 99999 < x + 10 + s 2 d then 99999 else x + 10 + s 2 d
