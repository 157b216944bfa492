/-! numbers, truth values -/
theorem nI_add2 {x y : Int32} {p q : Nat} (hx : x = nI p) (hy : y = nI q) : x + y = nI (p + q) := by rw [hx, hy]; exact nI_add p q
theorem nI_mul2 {x y : Int32} {p q : Nat} (hx : x = nI p) (hy : y = nI q) : x * y = nI (p * q) := by rw [hx, hy]; exact pk_mul p q
theorem nI_sub2 {x y : Int32} {p q : Nat} (hx : x = nI p) (hy : y = nI q) (h : q ≤ p) : x - y = nI (p - q) := by rw [hx, hy]; exact pk_sub h
theorem nI_rem2 {x y : Int32} {p q : Nat} (hx : x = nI p) (hy : y = nI q) (hp : p < 2 ^ 31) (h0 : 0 < q) (hq : q < 2 ^ 31) : x - x / y * y = nI (p % q) := by rw [hx, hy]; exact pk_rem hp h0 hq
theorem nI_eq2 {x y : Int32} {p q : Nat} (hx : x = nI p) (hy : y = nI q) (hp : p < 2 ^ 31) (hq : q < 2 ^ 31) : x = y ↔ p = q := by rw [hx, hy]; exact nI_eq hp hq
theorem nI_lt2 {x y : Int32} {p q : Nat} (hx : x = nI p) (hy : y = nI q) (hp : p < 2 ^ 31) (hq : q < 2 ^ 31) : x < y ↔ p < q := by rw [hx, hy]; exact nI_ltI hp hq
theorem nI_le2 {x y : Int32} {p q : Nat} (hx : x = nI p) (hy : y = nI q) (hp : p < 2 ^ 31) (hq : q < 2 ^ 31) : x ≤ y ↔ p ≤ q := by rw [hx, hy]; exact nI_leI hp hq
def bI (P : Prop) [Decidable P] : Int32 := if P then 1 else 0
theorem bI_t {P : Prop} [Decidable P] (h : P) : bI P = 1 := if_pos h
theorem bI_f {P : Prop} [Decidable P] (h : ¬ P) : bI P = 0 := if_neg h
theorem lv_bI {p : Program} {l : Launch} {e : Env} {R : Room} {s : State} {m : MethodId} {args : Array Value} {below : List Frame} {meth : Method} {c : Code} {H : Heap} {locs : List Loc} {cells slots : Nat} {Q : State → Prop} {pc : Nat} {ls : Array Slot} {rest : List Value} {P : Prop} [Decidable P]
    (kt : P → W p l e R s m args below meth c H locs cells slots Q (F0 m pc ls (.int 1 :: rest))) (kf : ¬ P → W p l e R s m args below meth c H locs cells slots Q (F0 m pc ls (.int 0 :: rest))) : W p l e R s m args below meth c H locs cells slots Q (F0 m pc ls (.int (bI P) :: rest)) := by
  by_cases h : P
  · rw [bI_t h]; exact kt h
  · rw [bI_f h]; exact kf h
/-- the top of the stack under another name -/
theorem lv_as {p : Program} {l : Launch} {e : Env} {R : Room} {s : State} {m : MethodId} {args : Array Value} {below : List Frame} {meth : Method} {c : Code} {H : Heap} {locs : List Loc} {cells slots : Nat} {Q : State → Prop} {pc : Nat} {ls : Array Slot} {rest : List Value} {x y : Int32} (h : x = y)
    (kk : W p l e R s m args below meth c H locs cells slots Q (F0 m pc ls (.int y :: rest))) : W p l e R s m args below meth c H locs cells slots Q (F0 m pc ls (.int x :: rest)) := h ▸ kk
def sumN (f : Nat → Int32) : Nat → Int32
  | 0 => 0
  | n + 1 => sumN f n + f n
/-! what the class's own methods answer -/
def distI (x y : Int32) : Int32 := if x < y then y - x else x - y
def behN (d : Nat) : Nat := if d + 1 < 7 then d + 1 else 0
def befN (d : Nat) : Nat := if 0 < d then d - 1 else 6
theorem behN_lt {d : Nat} : behN d < 7 := by unfold behN; split <;> omega
theorem befN_lt {d : Nat} (h : d < 7) : befN d < 7 := by unfold befN; split <;> omega
def clampW (x : Int32) : Int32 := if x < 0 then 0 else if 99999 < x then 99999 else x
def wordF (s : St) (w : Nat) (x : Int32) : Int32 := clampW (x + s 8 w)
def wordA (s : St) (w : Nat) : Int32 := wordF s w (s 1 w)
def aftI (s : St) (d : Nat) (x : Int32) : Int32 := if 99999 < x + 10 + s 2 d then 99999 else x + 10 + s 2 d
def ringS (s : St) (d : Nat) (x y : Int32) : St := up2 s 6 d (s 6 d + (y / 60 - x / 60))
def ptR (s : St) (d : Nat) : Int32 := aftI s d (s 1 d) / 60 - s 1 d / 60
def ptS (s : St) (d : Nat) : St := up2 (up2 (up2 s 1 d (aftI s d (s 1 d))) 3 d (s 3 d + (aftI s d (s 1 d) - s 1 d))) 6 d (s 6 d + (aftI s d (s 1 d) / 60 - s 1 d / 60))
def ptN : Nat → St → St
  | 0, s => s
  | n + 1, s => ptS (ptN n s) n
def ptA : Nat → St → Int32 → Int32
  | 0, _, x => x
  | n + 1, s, x => ptA n s x + ptR (ptN n s) n
def ticksS : Nat → St → St
  | 0, s => s
  | n + 1, s => ptN 7 (up2 (ticksS n s) 0 0 (ticksS n s 0 0 + 10))
def ticksA : Nat → St → Int32
  | 0, _ => 0
  | n + 1, s => ptA 7 (up2 (ticksS n s) 0 0 (ticksS n s 0 0 + 10)) (ticksA n s)
def mvS (s : St) (d : Nat) (y : Int32) : St := if y < s 1 d then up2 (up2 s 1 d y) 5 d (s 5 d + (s 1 d - y)) else up2 (up2 (up2 s 1 d y) 4 d (s 4 d + (y - s 1 d))) 6 d (s 6 d + (y / 60 - s 1 d / 60))
def mvR (s : St) (d : Nat) (y : Int32) : Int32 := if y < s 1 d then s 1 d - y else y - s 1 d
def accI (s : St) (d : Nat) : Int32 := s 3 d + s 4 d - s 5 d
def errI (s : St) (d : Nat) : Int32 := distI (s 1 d) (s 0 0)
def ringF (s : St) (d : Nat) (h : Int32) : Nat → Nat → Int32 → Int32
  | 0, _, _ => -1
  | f + 1, t, x => if h < aftI s d x / 60 then nI t else ringF s d h f (t + 1) (aftI s d x)
def lessS (s : St) (w : Nat) : St := if 0 < s 7 w then up2 (up2 s 7 w (s 7 w - 1)) 9 w (s 9 w + 1) else s
def hearS (s : St) (x : Int32) : St := if s 0 1 < x then up2 (up2 s 0 2 (s 0 2 + 1)) 0 1 x else up2 (up2 s 0 2 (s 0 2 + 1)) 0 3 (s 0 3 + 1)
abbrev wqB (s : St) (x y : Int32) : Prop := s 10 0 < distI x y
abbrev quarB (s : St) (d : Nat) : Prop := wqB s (wordA s d) (wordA s (behN d))
def quarC (s : St) : Nat → Int32
  | 0 => 0
  | n + 1 => quarC s n + (if quarB s n then 1 else 0)
abbrev offB (s : St) (d : Nat) : Prop := s 10 1 < distI (s 1 d) (s 0 1)
def offC (s : St) : Nat → Int32
  | 0 => 0
  | n + 1 => offC s n + (if offB s n then 1 else 0)
def nearI (s : St) (d : Nat) : Int32 := if s 1 d < s 0 1 then s 0 1 - s 10 1 else s 0 1 + s 10 1
def corS : Nat → St → St
  | 0, s => s
  | n + 1, s => if offB (corS n s) n then mvS (corS n s) n (nearI (corS n s) n) else corS n s
def corA : Nat → St → Int32
  | 0, _ => 0
  | n + 1, s => if offB (corS n s) n then corA n s + mvR (corS n s) n (nearI (corS n s) n) else corA n s
def qF (s : St) (d e : Nat) : Nat → Nat → Int32 → Int32 → Int32
  | 0, _, _, _ => -1
  | f + 1, t, x, y => if wqB s (wordF s d x) (wordF s e y) then nI t else qF s d e f (t + 1) (aftI s d x) (aftI s e y)
def setl (s : St) (w : Nat → Int32) (i j : Nat) : St :=
  if wqB s (w i) (w j) then (if distI (w j) (s 0 1) < distI (w i) (s 0 1) then lessS s i else if distI (w i) (s 0 1) < distI (w j) (s 0 1) then lessS s j else s) else s
def setlN (w : Nat → Int32) : Nat → St → St
  | 0, s => s
  | n + 1, s => setl (setlN w n s) w n (behN n)
def takeP (s : St) (po : St) : Nat → St
  | 0 => po
  | n + 1 => up2 (up2 (takeP s po n) 0 n (wordA s n)) 1 n (s 7 n)
def plcN (f : Nat → Int32) (w : Nat) : Nat → Nat
  | 0 => 0
  | n + 1 => plcN f w n + (if f n < f w ∨ (f n = f w ∧ n < w) then 1 else 0)
def wBel (f g : Nat → Int32) (x : Int32) : Nat → Int32
  | 0 => 0
  | n + 1 => wBel f g x n + (if f n < x then g n else 0)
def wAt (f g : Nat → Int32) (x : Int32) : Nat → Int32
  | 0 => 0
  | n + 1 => wAt f g x n + (if f n = x then g n else 0)
def midA (f g : Nat → Int32) : Nat → Nat → Int32
  | 0, _ => -1
  | k + 1, w => if 0 < g w ∧ 2 * wBel f g (f w) 7 < sumN g 7 ∧ sumN g 7 ≤ 2 * (wBel f g (f w) 7 + wAt f g (f w) 7) then f w else midA f g k (w + 1)
theorem HP.cast {D : va_G} {nn : Nat} {a : Nat → Nat} {e e' : Nat → va_E} {H : Heap} (h : HP D nn a e H) (he : e' = e) : HP D nn a e' H := he ▸ h
