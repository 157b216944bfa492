/-! middles: by the seven words and weights alone -/
theorem plcN_cong {f f' : Nat → Int32} {w : Nat} (h : ∀ k, k < 7 → f k = f' k) (hw : w < 7) : ∀ n, n ≤ 7 → plcN f w n = plcN f' w n := by
  intro n
  induction n with
  | zero => intro _; rfl
  | succ n ih =>
    intro hn
    simp only [plcN]
    rw [ih (by omega), h n (by omega), h w hw]
theorem fnd_cong {P P' : Nat → Bool} : ∀ n, (∀ k, k < n → P k = P' k) → fnd P n = fnd P' n := by
  intro n
  induction n with
  | zero => intro _; rfl
  | succ n ih =>
    intro h
    simp only [fnd]
    rw [h n (by omega), ih (fun k hk => h k (by omega))]
theorem invN_cong {f f' : Nat → Int32} (h : ∀ k, k < 7 → f k = f' k) (i : Nat) : invN f i = invN f' i := by
  unfold invN
  exact fnd_cong 7 (fun k hk => by show (plcN f k 7 == i) = (plcN f' k 7 == i); rw [plcN_cong h hk 7 (Nat.le_refl _)])
theorem sumN_cong {f f' : Nat → Int32} : ∀ n, (∀ k, k < n → f k = f' k) → sumN f n = sumN f' n := by
  intro n
  induction n with
  | zero => intro _; rfl
  | succ n ih =>
    intro h
    simp only [sumN]
    rw [h n (by omega), ih (fun k hk => h k (by omega))]
theorem midO_cong {f f' g g' : Nat → Int32} {al : Int32} (hf : ∀ k, k < 7 → f k = f' k) (hg : ∀ k, k < 7 → g k = g' k) : ∀ (k i : Nat) (x : Int32), i + k ≤ 7 → midO f g al k i x = midO f' g' al k i x := by
  intro k
  induction k with
  | zero => intro i x _; rfl
  | succ k ih =>
    intro i x h
    have h1 := (invN_ok f (i := i) (by omega)).1
    simp only [midO]
    rw [← invN_cong hf i, ← hg _ h1, ← hf _ h1, ih (i + 1) _ (by omega)]
def midI (f g : Nat → Int32) : Int32 := midO f g (sumN g 7) 7 0 0
theorem midI_cong {f f' g g' : Nat → Int32} (hf : ∀ k, k < 7 → f k = f' k) (hg : ∀ k, k < 7 → g k = g' k) : midI f g = midI f' g' := by
  unfold midI
  rw [sumN_cong 7 hg]
  exact midO_cong hf hg 7 0 0 (by omega)
theorem wBel_cong {f f' g g' : Nat → Int32} {x : Int32} : ∀ n, (∀ k, k < n → f k = f' k) → (∀ k, k < n → g k = g' k) → wBel f g x n = wBel f' g' x n := by
  intro n
  induction n with
  | zero => intro _ _; rfl
  | succ n ih =>
    intro h1 h2
    simp only [wBel]
    rw [h1 n (by omega), h2 n (by omega), ih (fun k hk => h1 k (by omega)) (fun k hk => h2 k (by omega))]
theorem wAt_cong {f f' g g' : Nat → Int32} {x : Int32} : ∀ n, (∀ k, k < n → f k = f' k) → (∀ k, k < n → g k = g' k) → wAt f g x n = wAt f' g' x n := by
  intro n
  induction n with
  | zero => intro _ _; rfl
  | succ n ih =>
    intro h1 h2
    simp only [wAt]
    rw [h1 n (by omega), h2 n (by omega), ih (fun k hk => h1 k (by omega)) (fun k hk => h2 k (by omega))]
theorem midA_cong {f f' g g' : Nat → Int32} (hf : ∀ k, k < 7 → f k = f' k) (hg : ∀ k, k < 7 → g k = g' k) : ∀ (k w : Nat), w + k ≤ 7 → midA f g k w = midA f' g' k w := by
  intro k
  induction k with
  | zero => intro w _; rfl
  | succ k ih =>
    intro w h
    simp only [midA]
    rw [hg w (by omega), hf w (by omega), sumN_cong 7 hg, wBel_cong 7 hf hg, wAt_cong 7 hf hg, ih (w + 1) (by omega)]
theorem takeP_0 {s po : St} {k : Nat} : ∀ n, k < n → takeP s po n 0 k = wordA s k := by
  intro n
  induction n with
  | zero => intro h; exact absurd h (by omega)
  | succ n ih =>
    intro h
    show upd (takeP s po n 0) n (wordA s n) k = wordA s k
    by_cases h1 : k = n
    · subst h1; simp [upd]
    · simp only [upd, if_neg h1]; exact ih (by omega)
theorem takeP_1 {s po : St} {k : Nat} : ∀ n, k < n → takeP s po n 1 k = s 7 k := by
  intro n
  induction n with
  | zero => intro h; exact absurd h (by omega)
  | succ n ih =>
    intro h
    show upd (takeP s po n 1) n (s 7 n) k = s 7 k
    by_cases h1 : k = n
    · subst h1; simp [upd]
    · simp only [upd, if_neg h1]; exact ih (by omega)
theorem setlN_cong {w w' : Nat → Int32} (h : ∀ k, k < 7 → w k = w' k) : ∀ n, n ≤ 7 → ∀ s, setlN w n s = setlN w' n s := by
  intro n
  induction n with
  | zero => intro _ s; rfl
  | succ n ih =>
    intro hn s
    simp only [setlN, setl]
    rw [ih (by omega) s, h n (by omega), h (behN n) behN_lt]
theorem midT {s po : St} : midO (takeP s po 7 0) (takeP s po 7 1) (sumN (takeP s po 7 1) 7) 7 0 0 = midI (wordA s) (s 7) :=
  midI_cong (f := takeP s po 7 0) (g := takeP s po 7 1) (fun k hk => takeP_0 7 hk) (fun k hk => takeP_1 7 hk)
def midW (s : St) (w : Nat) (x : Int32) : Int32 := midI (wordA s) (upd (s 7) w x)
theorem upR_o {s : St} {r q : Nat} {f : Nat → Int32} (h : q ≠ r) : upR s r f q = s q := if_neg h
theorem upR_e {s : St} {r : Nat} {f : Nat → Int32} : upR s r f r = f := if_pos rfl
theorem up2_o {s : St} {r q k : Nat} {x : Int32} (h : q ≠ r) : up2 s r k x q = s q := if_neg h
theorem up2_e {s : St} {r k : Nat} {x : Int32} : up2 s r k x r = upd (s r) k x := if_pos rfl
theorem midTW {s po : St} {w : Nat} {x : Int32} : midO (up2 (takeP s po 7) 1 w x 0) (up2 (takeP s po 7) 1 w x 1) (sumN (up2 (takeP s po 7) 1 w x 1) 7) 7 0 0 = midW s w x := by
  rw [up2_o (show 0 ≠ 1 by decide), up2_e]
  exact midI_cong (f := takeP s po 7 0) (g := upd (takeP s po 7 1) w x) (fun k hk => takeP_0 7 hk) (fun k hk => by unfold upd; split; rfl; exact takeP_1 7 hk)
theorem midPw {s po : St} {f : Nat → Int32} {k : Nat} (hk : k < 7) : upR (takeP s po 7) 2 f 0 k = wordA s k := by
  rw [upR_o (show 0 ≠ 2 by decide)]
  exact takeP_0 7 hk
theorem midAT {s po : St} : midA (takeP s po 7 0) (takeP s po 7 1) 7 0 = midA (wordA s) (s 7) 7 0 := midA_cong (fun k hk => takeP_0 7 hk) (fun k hk => takeP_1 7 hk) 7 0 (by omega)
theorem plcT {s po : St} {w : Nat} (hw : w < 7) : plcN (takeP s po 7 0) w 7 = plcN (wordA s) w 7 := plcN_cong (fun k hk => takeP_0 7 hk) hw 7 (Nat.le_refl _)
def voteS (s : St) : St := setlN (wordA s) 7 (hearS s (midI (wordA s) (s 7)))
theorem voteT {s po : St} : setlN (takeP s po 7 0) 7 (hearS s (midI (wordA s) (s 7))) = voteS s := setlN_cong (fun k hk => takeP_0 7 hk) 7 (Nat.le_refl _) _
def pvF (s : St) (m : Int32) : Nat → Int32 × Int32
  | 0 => (-1, -1)
  | n + 1 => if ¬ midW s n 0 = -1 ∧ (pvF s m n).2 < distI (midW s n 0) m then (nI n, distI (midW s n 0) m) else pvF s m n
def pivI (s : St) : Int32 := if midI (wordA s) (s 7) = -1 then -1 else (pvF s (midI (wordA s) (s 7)) 7).1
def winF (s : St) (w : Nat) : Nat → Nat → Int32
  | 0, _ => -1
  | f + 1, g => if midW s w (nI g) = wordA s w then nI g else winF s w f (g + 1)
def dialN (s : St) (d q : Nat) : Int32 := match q with
  | 0 => s 1 d
  | 1 => accI s d
  | 2 => s 2 d
  | 3 => s 1 d / 60
  | 4 => s 6 d
  | 5 => errI s d
  | _ => if offB s d then 1 else 0
def wardN (s : St) (w q : Nat) : Int32 := match q with
  | 0 => s 7 w
  | 1 => s 8 w
  | 2 => wordA s w
  | 3 => s 9 w
  | 4 => nI (plcN (wordA s) w 7)
  | _ => (if quarB s w then 1 else 0) + (if quarB s (befN w) then 1 else 0)
def counN (s : St) (sz q : Nat) : Int32 := match q with
  | 0 => s 0 0
  | 1 => s 0 1
  | 2 => midI (wordA s) (s 7)
  | 3 => midA (wordA s) (s 7) 7 0
  | 4 => sumN (s 7) 7
  | 5 => quarC s 7
  | 6 => s 0 2
  | 7 => s 0 3
  | 8 => sumN (s 6) 7
  | 9 => sumN (s 4) 7
  | 10 => sumN (s 5) 7
  | 11 => offC s 7
  | 12 => distI (s 0 1) (s 0 0)
  | _ => nI sz
/-- an order, where its text begins at q: what becomes of the state; whether it goes on -/
def partS (b : Nat → Int32) (ln q : Nat) (s : St) : St :=
  if cdA b ln q = 99 then corS 7 s else if cdA b ln q = 116 then ticksS (tkI b ln (q + 1)).toNatClampNeg s else if cdA b ln q = 118 then (if sumN (s 7) 7 = 0 then s else voteS s) else up2 s 2 (figI b ln (q + 1)).toNatClampNeg (drI b ln (q + 2))
abbrev partB (b : Nat → Int32) (ln q : Nat) (s : St) : Prop := ¬ (cdA b ln q = 118 ∧ sumN (s 7) 7 = 0)
def partO (b : Nat → Int32) (ln q : Nat) : Prop :=
  (cdA b ln q = 116 → ∃ n, n < 1000 ∧ tkI b ln (q + 1) = nI n) ∧ (¬ cdA b ln q = 99 → ¬ cdA b ln q = 116 → ¬ cdA b ln q = 118 → ∃ d, d < 7 ∧ figI b ln (q + 1) = nI d)
def obF (b : Nat → Int32) (ln : Nat) : Nat → Nat → St → Int32 → St × Int32
  | 0, _, s, n => (s, n)
  | f + 1, j, s, n => if psB b ln j then (if partB b ln j s then obF b ln f (j + 1) (partS b ln j s) (n + 1) else (partS b ln j s, n)) else obF b ln f (j + 1) s n
def errC (s : St) : Nat → Int32
  | 0 => 0
  | n + 1 => errC s n + errI s n
def shareD (s : St) : UInt64 := if s 0 2 = 0 then FP.dconst0 else FP.ddiv (FP.i2d (s 0 3)) (FP.i2d (s 0 2))
def meanF (s : St) : UInt32 := FP.fdiv (FP.i2f (errC s 7)) (1088421888 : UInt32)
def mxL (h v : Int64) : Int64 := 31 * h + v
def dgN (f : Nat → Int32) : Nat → Int64 → Int64
  | 0, h => h
  | n + 1, h => mxL (dgN f n h) (f n).toInt64
section ROV
variable {p : Program} {l : Launch} {e : Env} {R : Room} {s : State} {m : MethodId} {args : Array Value} {below : List Frame} {meth : Method} {c : Code} {H : Heap} {locs : List Loc} {cells slots : Nat} {Q : State → Prop}
variable {pc : Nat} {ls : Array Slot} {rest : List Value} {cc : ByteArray}
theorem ro_v {post : Unit → Prop} {aa : Array Value} {st0 : List Value} (hr : va_Run p l e R s m args below meth c H locs cells slots 0 0 (F0 m pc ls st0) rest (va_Sv post aa) (fun _ => False))
    (kk : post () → W p l e R s m args below meth c H locs cells slots Q (F0 m (pc + 3) ls rest)) : W p l e R s m args below meth c H locs cells slots Q (F0 m pc ls st0) := by
  intro T hT X
  obtain ⟨v, st₀, t, T', L, h0, X', hL, e1, e2, ⟨hv, hp, hh⟩, st⟩ := hr T hT X
  cases hv
  obtain ⟨t2, a1, b1⟩ := kk hp T' (by rw [e1, hh, h0]) (Stand.forget X' (fun q h => (hL q h).elim))
  exact ⟨t2, st t2 a1, b1⟩
theorem ro_vr {post : Unit → Prop} (hx : p.tables.exec = Jvm.exec) (hb : c.code = cc) (hr : meth.sig.returnType = none) (hlocks : meth.locks = false) (hp : post ()) (hdg : decode cc pc = .ok (.return_, 1)) : W p l e R s m args below meth c s.heap [] 0 0 (MQ below (va_Sv post) args s 0 0 (fun _ => False)) (F0 m pc ls []) :=
  W.vret hx hb hr (fun t ht _ => ⟨rfl, hp, ht⟩) (fun q hq => absurd hq List.not_mem_nil) hdg hlocks
end ROV
