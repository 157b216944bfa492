/-! the constructors -/
def w7 : Nat → Int32 := upd (upd (upd (upd (upd (upd (upd (fun _ => 0) 0 3) 1 3) 2 3) 3 3) 4 3) 5 3) 6 3
def t2 : Nat → Int32 := upd (upd (fun _ => 0) 0 15) 1 5
def z0 : Nat → Int32 := fun _ => 0
def s0 : St := fun r => match r with
  | 7 => w7
  | 10 => t2
  | _ => z0
def dC0 (cI : ClassId) (u : Nat → Nat) (n : Nat) : va_E := match n with
  | 0 => .inr (0, [.int 0, .ref (u 1), .ref (u 2), .ref (u 3), .ref (u 4), .ref (u 5), .ref (u 6)])
  | _ => .inl (cI, 7, .inl z0)
def dC5 (cI : ClassId) (u : Nat → Nat) (n : Nat) : va_E := match n with
  | 0 => .inr (5, [.ref (u 1), .ref (u 2), .ref (u 3)])
  | 1 => .inl (cI, 7, .inl w7)
  | _ => .inl (cI, 7, .inl z0)
def dC2 (cI : ClassId) (u : Nat → Nat) (n : Nat) : va_E := match n with
  | 0 => .inr (2, [.ref (u 1), .int 0])
  | _ => .inl (cI, 60, .inl z0)
def dC3 (cI : ClassId) (u : Nat → Nat) (n : Nat) : va_E := match n with
  | 0 => .inr (3, [.ref (u 1), .ref (u 2), .ref (u 3)])
  | _ => .inl (cI, 7, .inl z0)
def dC1 (cI cS : ClassId) (u : Nat → Nat) (n : Nat) : va_E := match n with
  | 0 => .inr (1, [.ref (u 1), .int 0])
  | 1 => .inl (cS, 6, .inr (.inr (.inr (.inr (va_up (va_up (va_up (va_up (va_up (va_up (fun _ => none) 0 (some (u 2))) 1 (some (u 15))) 2 (some (u 28))) 3 (some (u 41))) 4 (some (u 54))) 5 (some (u 67)))))))
  | k + 2 => stC cI u (2 + 13 * (k / 13)) s0 (k % 13)
def pmN (n : Nat) : Nat := if n < 26 then n + 1 else if n < 104 then n + 3 else if n < 106 then n - 77 else if n < 112 then n + 1 else 0
def pmI (k : Nat) : Nat := if k = 0 then 112 else if k < 27 then k - 1 else if k < 29 then k + 77 else if k < 107 then k - 3 else k - 1
theorem pm_ok : ∀ n, n < 113 → pmI (pmN n) = n ∧ pmN n < 113 := by
  intro n h
  unfold pmN
  split
  · unfold pmI; repeat (first | (split; omega) | split | omega)
    all_goals omega
  · split
    · unfold pmI; repeat (first | (split; omega) | split | omega)
      all_goals omega
    · split
      · unfold pmI; repeat (first | (split; omega) | split | omega)
        all_goals omega
      · split
        · unfold pmI; repeat (first | (split; omega) | split | omega)
          all_goals omega
        · unfold pmI; rw [if_pos rfl]; omega
section INQ
variable {p : Program} {l : Launch} {e : Env} {R : Room} {s : State} {m : MethodId} {args : Array Value} {below : List Frame} {meth : Method} {c : Code} {H : Heap} {locs : List Loc} {cells slots : Nat} {Q : State → Prop}
variable {pc : Nat} {ls : Array Slot} {rest : List Value} {cc : ByteArray} {D : va_G} {cI cS : ClassId} {n : Nat} {a : Nat → Nat} {ex : Nat → va_E} {H0 : Heap} {A : Nat → Prop}
theorem g_newqU (hexec : p.tables.exec = Jvm.exec) (hb : c.code = cc) (hts : ∀ w ∈ wsA, w.before args s = true) {own : String} {index : Nat} (hown : s.vm.findClass own = some m.cls) (hcl : Cond.classLink own index RX4 ∈ wsA) (hAO : va_AO RX4 s) (hK : KX D cI cS s) (hP : HP D n a ex H) (hE : DX A n a) (hS : va_S A H0 H locs) (hA : ∀ q, H0.size ≤ q → A q) {v : Int32} {len : Nat} (hn : ¬ v < 0) (hv : v.toNatClampNeg = len) (hlen : len * 4 ≤ 536870912) (hcells : cells + 1 ≤ R.cells) (hslots : slots + len ≤ R.slots) (hdg : decode cc pc = .ok (.anewarray index, 3))
    (kk : ∀ (q : Nat) (H1 : Heap), HP D (n + 1) (va_up a n q) (va_up ex n (.inl (cS, len, .inr (.inr (.inr (.inr (fun _ => none))))))) H1 → DX A (n + 1) (va_up a n q) → va_S A H0 H1 locs → W p l e R s m args below meth c H1 locs (cells + 1) (slots + len) Q (F0 m (pc + 3) ls (.ref q :: rest))) : W p l e R s m args below meth c H locs cells slots Q (F0 m pc ls (.int v :: rest)) := by
  refine va_newq hexec hb hown (hts _ hcl) hAO hK.1 hP.l hE.vd hS hA hn hv hlen hcells hslots hdg (fun q cA H1 hK1 hP1 hD1 hS1 => ?_)
  obtain ⟨k1, k2, k3, k4, k5, e1⟩ := (hK1.2 2 (cA, .object RX4) rfl).2
  obtain ⟨j1, j2, j3, j4, j5, e2⟩ := (hK.1.2 1 (cS, .object RX4) rfl).2
  have e3 : cA = cS := Option.some.inj (e1.symm.trans e2)
  subst e3
  rw [← wl_push] at hP1 hD1
  exact kk q H1 (HP.of hP1) (DX.of hD1) hS1
theorem g_astqU (hexec : p.tables.exec = Jvm.exec) (hb : c.code = cc) (hK : KX D cI cS s) (hP : HP D n a ex H) (hE : DX A n a) (hS : va_S A H0 H locs) (j : Nat) (hj : j < n) {r : Nat} (hr : a j = r) {len : Nat} {f : Nat → Option Nat} (he : ex j = .inl (cS, len, .inr (.inr (.inr (.inr f))))) (j2 : Nat) (hj2 : j2 < n) {r2 : Nat} (hr2 : a j2 = r2) {vs : List Value} (hv : ex j2 = .inr (4, vs)) {i : Int32} (k : Nat) (hi : i = nI k) (hk : k < len) (hl : len < 2 ^ 31) (hdg : decode cc pc = .ok (.aastore, 1))
    (kk : ∀ (H1 : Heap) (locs1 : List Loc), HP D n a (va_up ex j (.inl (cS, len, .inr (.inr (.inr (.inr (va_up f k (some r2)))))))) H1 → va_S A H0 H1 locs1 → W p l e R s m args below meth c H1 locs1 cells slots Q (F0 m (pc + 1) ls rest)) : W p l e R s m args below meth c H locs cells slots Q (F0 m pc ls (.ref r2 :: .int i :: .ref r :: rest)) := by
  subst hr
  subst hr2
  subst hi
  refine va_astq (r := (RX4, TX4, 6)) hexec hb hK.1 hP.l hE.vd hS j 1 j2 4 (by rw [wl_get hj, he]) rfl (by rw [wl_get hj2, hv]) rfl (vp_in_nI hk hl) hdg (fun H1 locs1 h1 _ h3 => ?_)
  rw [nI_clamp (by omega)] at h1
  exact kk H1 locs1 (HP.set hj (va_up_self _ _ _) (fun j' _ hq => va_up_ne _ _ hq) h1) h3
end INQ
theorem lv_lt2 {P : Nat → Prop} (h0 : P 0) (h1 : P 1) : ∀ j, j < 2 → P j := fun j hj => match j, hj with
  | 0, _ => h0
  | 1, _ => h1
  | n + 2, hj => absurd hj (by omega)
theorem lv_lt3 {P : Nat → Prop} (h0 : P 0) (h1 : P 1) (h2 : P 2) : ∀ j, j < 3 → P j := fun j hj => match j, hj with
  | 0, _ => h0
  | 1, _ => h1
  | 2, _ => h2
  | n + 3, hj => absurd hj (by omega)
theorem lv_lt6 {P : Nat → Prop} (h0 : P 0) (h1 : P 1) (h2 : P 2) (h3 : P 3) (h4 : P 4) (h5 : P 5) : ∀ j, j < 6 → P j := fun j hj => match j, hj with
  | 0, _ => h0
  | 1, _ => h1
  | 2, _ => h2
  | 3, _ => h3
  | 4, _ => h4
  | 5, _ => h5
  | n + 6, hj => absurd hj (by omega)
theorem lv_lt7 {P : Nat → Prop} (h0 : P 0) (h1 : P 1) (h2 : P 2) (h3 : P 3) (h4 : P 4) (h5 : P 5) (h6 : P 6) : ∀ j, j < 7 → P j := fun j hj => match j, hj with
  | 0, _ => h0
  | 1, _ => h1
  | 2, _ => h2
  | 3, _ => h3
  | 4, _ => h4
  | 5, _ => h5
  | 6, _ => h6
  | n + 7, hj => absurd hj (by omega)
set_option maxHeartbeats 4000000 in
set_option maxRecDepth 100000 in
theorem m_X0_init (l : Launch) (D : va_G) (cI cS : ClassId) (h0 zz : Nat) : Met l yX0_init (.code yX0_init cX0_init 1 none :: wsA) ({ frames := 1, cells := 6, slots := 42, locals := 12 } : Room) (va_Pc [.ref h0] (PI D cI cS h0 (.inr (0, [.int 0, .null, .null, .null, .null, .null, .null])) zz)) (QI D 7 h0 zz (dC0 cI)) 6 42 (AI h0 zz) := by
  refine mgc (by decide) rfl (Nat.le_of_ble_eq_true rfl) ?_
  intro p e z m below meth c hx hb hr hml hown hts hlocks hin2 hB ls hl
  obtain ⟨hsz, hP, hK, hAO⟩ := hB
  subst hsz
  have hl : lv_has ls 1 [(0, .ref h0)] := hl
  have hS : va_S (AI h0 z.heap.size) z.heap z.heap [] := va_S.rf
  have hA : ∀ q, z.heap.size ≤ q → AI h0 z.heap.size q := fun _ h => Or.inr h
  have hE : DX (AI h0 z.heap.size) 1 (fun _ => h0) := ⟨fun i j hi hj _ => by omega, fun k hk => Or.inl ⟨0, by decide, rfl⟩⟩
  have hP : HP D 1 (fun _ => h0) (fun _ => .inr (0, [.int 0, .null, .null, .null, .null, .null, .null])) z.heap := hP
  refine lv_aload_n hx hb dX0_init_0 rfl (lv_at hl 0 rfl) ?_
  refine g_obj hx hb hown hts tw33 (hl.1.trans hml.symm) dX0_init_1 ⟨(Nat.le_of_ble_eq_true rfl), (Nat.le_of_ble_eq_true rfl)⟩ ?_
  refine lv_aload_n hx hb dX0_init_4 rfl (lv_at hl 0 rfl) ?_
  refine lv_bipush (v := 7) hx hb dX0_init_5 (by decide) ?_
  refine g_newaU hx hb hts hK hP hE hS hA (len := 7) (by decide) (by decide) (by decide) (Nat.le_of_ble_eq_true rfl) (Nat.le_of_ble_eq_true rfl) dX0_init_7 (fun q1 H hP hE hS => ?_)
  have hP : HP D 2 (va_up (fun _ => h0) 1 q1) (va_up (fun _ => .inr (0, [.int 0, .null, .null, .null, .null, .null, .null])) 1 (.inl (cI, 7, .inl z0))) H := hP
  refine g_putFU hx hb hts hown inA0 tyX0 tyX0_ok nmX0 hin2 hK hP hE hS 0 (by decide) (r := h0) rfl (fs := [.int 0, .null, .null, .null, .null, .null, .null]) rfl rfl 1 (by decide) tw36 rfl rfl rfl (ty := (.array .int)) (by decide +kernel) rfl rfl (Nat.le_of_ble_eq_true rfl) dX0_init_9 (fun H locs hP hS => ?_)
  have hP : HP D 2 (va_up (fun _ => h0) 1 q1) (va_up (va_up (fun _ => .inr (0, [.int 0, .null, .null, .null, .null, .null, .null])) 1 (.inl (cI, 7, .inl z0))) 0 (.inr (0, [.int 0, .ref q1, .null, .null, .null, .null, .null]))) H := hP
  refine lv_aload_n hx hb dX0_init_12 rfl (lv_at hl 0 rfl) ?_
  refine lv_bipush (v := 7) hx hb dX0_init_13 (by decide) ?_
  refine g_newaU hx hb hts hK hP hE hS hA (len := 7) (by decide) (by decide) (by decide) (Nat.le_of_ble_eq_true rfl) (Nat.le_of_ble_eq_true rfl) dX0_init_15 (fun q2 H hP hE hS => ?_)
  have hP : HP D 3 (va_up (va_up (fun _ => h0) 1 q1) 2 q2) (va_up (va_up (va_up (fun _ => .inr (0, [.int 0, .null, .null, .null, .null, .null, .null])) 1 (.inl (cI, 7, .inl z0))) 0 (.inr (0, [.int 0, .ref q1, .null, .null, .null, .null, .null]))) 2 (.inl (cI, 7, .inl z0))) H := hP
  refine g_putFU hx hb hts hown inA0 tyX0 tyX0_ok nmX0 hin2 hK hP hE hS 0 (by decide) (r := h0) rfl (fs := [.int 0, .ref q1, .null, .null, .null, .null, .null]) rfl rfl 2 (by decide) tw39 rfl rfl rfl (ty := (.array .int)) (by decide +kernel) rfl rfl (Nat.le_of_ble_eq_true rfl) dX0_init_17 (fun H locs hP hS => ?_)
  have hP : HP D 3 (va_up (va_up (fun _ => h0) 1 q1) 2 q2) (va_up (va_up (va_up (va_up (fun _ => .inr (0, [.int 0, .null, .null, .null, .null, .null, .null])) 1 (.inl (cI, 7, .inl z0))) 0 (.inr (0, [.int 0, .ref q1, .null, .null, .null, .null, .null]))) 2 (.inl (cI, 7, .inl z0))) 0 (.inr (0, [.int 0, .ref q1, .ref q2, .null, .null, .null, .null]))) H := hP
  refine lv_aload_n hx hb dX0_init_20 rfl (lv_at hl 0 rfl) ?_
  refine lv_bipush (v := 7) hx hb dX0_init_21 (by decide) ?_
  refine g_newaU hx hb hts hK hP hE hS hA (len := 7) (by decide) (by decide) (by decide) (Nat.le_of_ble_eq_true rfl) (Nat.le_of_ble_eq_true rfl) dX0_init_23 (fun q3 H hP hE hS => ?_)
  have hP : HP D 4 (va_up (va_up (va_up (fun _ => h0) 1 q1) 2 q2) 3 q3) (va_up (va_up (va_up (va_up (va_up (fun _ => .inr (0, [.int 0, .null, .null, .null, .null, .null, .null])) 1 (.inl (cI, 7, .inl z0))) 0 (.inr (0, [.int 0, .ref q1, .null, .null, .null, .null, .null]))) 2 (.inl (cI, 7, .inl z0))) 0 (.inr (0, [.int 0, .ref q1, .ref q2, .null, .null, .null, .null]))) 3 (.inl (cI, 7, .inl z0))) H := hP
  refine g_putFU hx hb hts hown inA0 tyX0 tyX0_ok nmX0 hin2 hK hP hE hS 0 (by decide) (r := h0) rfl (fs := [.int 0, .ref q1, .ref q2, .null, .null, .null, .null]) rfl rfl 3 (by decide) tw41 rfl rfl rfl (ty := (.array .int)) (by decide +kernel) rfl rfl (Nat.le_of_ble_eq_true rfl) dX0_init_25 (fun H locs hP hS => ?_)
  have hP : HP D 4 (va_up (va_up (va_up (fun _ => h0) 1 q1) 2 q2) 3 q3) (va_up (va_up (va_up (va_up (va_up (va_up (fun _ => .inr (0, [.int 0, .null, .null, .null, .null, .null, .null])) 1 (.inl (cI, 7, .inl z0))) 0 (.inr (0, [.int 0, .ref q1, .null, .null, .null, .null, .null]))) 2 (.inl (cI, 7, .inl z0))) 0 (.inr (0, [.int 0, .ref q1, .ref q2, .null, .null, .null, .null]))) 3 (.inl (cI, 7, .inl z0))) 0 (.inr (0, [.int 0, .ref q1, .ref q2, .ref q3, .null, .null, .null]))) H := hP
  refine lv_aload_n hx hb dX0_init_28 rfl (lv_at hl 0 rfl) ?_
  refine lv_bipush (v := 7) hx hb dX0_init_29 (by decide) ?_
  refine g_newaU hx hb hts hK hP hE hS hA (len := 7) (by decide) (by decide) (by decide) (Nat.le_of_ble_eq_true rfl) (Nat.le_of_ble_eq_true rfl) dX0_init_31 (fun q4 H hP hE hS => ?_)
  have hP : HP D 5 (va_up (va_up (va_up (va_up (fun _ => h0) 1 q1) 2 q2) 3 q3) 4 q4) (va_up (va_up (va_up (va_up (va_up (va_up (va_up (fun _ => .inr (0, [.int 0, .null, .null, .null, .null, .null, .null])) 1 (.inl (cI, 7, .inl z0))) 0 (.inr (0, [.int 0, .ref q1, .null, .null, .null, .null, .null]))) 2 (.inl (cI, 7, .inl z0))) 0 (.inr (0, [.int 0, .ref q1, .ref q2, .null, .null, .null, .null]))) 3 (.inl (cI, 7, .inl z0))) 0 (.inr (0, [.int 0, .ref q1, .ref q2, .ref q3, .null, .null, .null]))) 4 (.inl (cI, 7, .inl z0))) H := hP
  refine g_putFU hx hb hts hown inA0 tyX0 tyX0_ok nmX0 hin2 hK hP hE hS 0 (by decide) (r := h0) rfl (fs := [.int 0, .ref q1, .ref q2, .ref q3, .null, .null, .null]) rfl rfl 4 (by decide) tw42 rfl rfl rfl (ty := (.array .int)) (by decide +kernel) rfl rfl (Nat.le_of_ble_eq_true rfl) dX0_init_33 (fun H locs hP hS => ?_)
  have hP : HP D 5 (va_up (va_up (va_up (va_up (fun _ => h0) 1 q1) 2 q2) 3 q3) 4 q4) (va_up (va_up (va_up (va_up (va_up (va_up (va_up (va_up (fun _ => .inr (0, [.int 0, .null, .null, .null, .null, .null, .null])) 1 (.inl (cI, 7, .inl z0))) 0 (.inr (0, [.int 0, .ref q1, .null, .null, .null, .null, .null]))) 2 (.inl (cI, 7, .inl z0))) 0 (.inr (0, [.int 0, .ref q1, .ref q2, .null, .null, .null, .null]))) 3 (.inl (cI, 7, .inl z0))) 0 (.inr (0, [.int 0, .ref q1, .ref q2, .ref q3, .null, .null, .null]))) 4 (.inl (cI, 7, .inl z0))) 0 (.inr (0, [.int 0, .ref q1, .ref q2, .ref q3, .ref q4, .null, .null]))) H := hP
  refine lv_aload_n hx hb dX0_init_36 rfl (lv_at hl 0 rfl) ?_
  refine lv_bipush (v := 7) hx hb dX0_init_37 (by decide) ?_
  refine g_newaU hx hb hts hK hP hE hS hA (len := 7) (by decide) (by decide) (by decide) (Nat.le_of_ble_eq_true rfl) (Nat.le_of_ble_eq_true rfl) dX0_init_39 (fun q5 H hP hE hS => ?_)
  have hP : HP D 6 (va_up (va_up (va_up (va_up (va_up (fun _ => h0) 1 q1) 2 q2) 3 q3) 4 q4) 5 q5) (va_up (va_up (va_up (va_up (va_up (va_up (va_up (va_up (va_up (fun _ => .inr (0, [.int 0, .null, .null, .null, .null, .null, .null])) 1 (.inl (cI, 7, .inl z0))) 0 (.inr (0, [.int 0, .ref q1, .null, .null, .null, .null, .null]))) 2 (.inl (cI, 7, .inl z0))) 0 (.inr (0, [.int 0, .ref q1, .ref q2, .null, .null, .null, .null]))) 3 (.inl (cI, 7, .inl z0))) 0 (.inr (0, [.int 0, .ref q1, .ref q2, .ref q3, .null, .null, .null]))) 4 (.inl (cI, 7, .inl z0))) 0 (.inr (0, [.int 0, .ref q1, .ref q2, .ref q3, .ref q4, .null, .null]))) 5 (.inl (cI, 7, .inl z0))) H := hP
  refine g_putFU hx hb hts hown inA0 tyX0 tyX0_ok nmX0 hin2 hK hP hE hS 0 (by decide) (r := h0) rfl (fs := [.int 0, .ref q1, .ref q2, .ref q3, .ref q4, .null, .null]) rfl rfl 5 (by decide) tw44 rfl rfl rfl (ty := (.array .int)) (by decide +kernel) rfl rfl (Nat.le_of_ble_eq_true rfl) dX0_init_41 (fun H locs hP hS => ?_)
  have hP : HP D 6 (va_up (va_up (va_up (va_up (va_up (fun _ => h0) 1 q1) 2 q2) 3 q3) 4 q4) 5 q5) (va_up (va_up (va_up (va_up (va_up (va_up (va_up (va_up (va_up (va_up (fun _ => .inr (0, [.int 0, .null, .null, .null, .null, .null, .null])) 1 (.inl (cI, 7, .inl z0))) 0 (.inr (0, [.int 0, .ref q1, .null, .null, .null, .null, .null]))) 2 (.inl (cI, 7, .inl z0))) 0 (.inr (0, [.int 0, .ref q1, .ref q2, .null, .null, .null, .null]))) 3 (.inl (cI, 7, .inl z0))) 0 (.inr (0, [.int 0, .ref q1, .ref q2, .ref q3, .null, .null, .null]))) 4 (.inl (cI, 7, .inl z0))) 0 (.inr (0, [.int 0, .ref q1, .ref q2, .ref q3, .ref q4, .null, .null]))) 5 (.inl (cI, 7, .inl z0))) 0 (.inr (0, [.int 0, .ref q1, .ref q2, .ref q3, .ref q4, .ref q5, .null]))) H := hP
  refine lv_aload_n hx hb dX0_init_44 rfl (lv_at hl 0 rfl) ?_
  refine lv_bipush (v := 7) hx hb dX0_init_45 (by decide) ?_
  refine g_newaU hx hb hts hK hP hE hS hA (len := 7) (by decide) (by decide) (by decide) (Nat.le_of_ble_eq_true rfl) (Nat.le_of_ble_eq_true rfl) dX0_init_47 (fun q6 H hP hE hS => ?_)
  have hP : HP D 7 (va_up (va_up (va_up (va_up (va_up (va_up (fun _ => h0) 1 q1) 2 q2) 3 q3) 4 q4) 5 q5) 6 q6) (va_up (va_up (va_up (va_up (va_up (va_up (va_up (va_up (va_up (va_up (va_up (fun _ => .inr (0, [.int 0, .null, .null, .null, .null, .null, .null])) 1 (.inl (cI, 7, .inl z0))) 0 (.inr (0, [.int 0, .ref q1, .null, .null, .null, .null, .null]))) 2 (.inl (cI, 7, .inl z0))) 0 (.inr (0, [.int 0, .ref q1, .ref q2, .null, .null, .null, .null]))) 3 (.inl (cI, 7, .inl z0))) 0 (.inr (0, [.int 0, .ref q1, .ref q2, .ref q3, .null, .null, .null]))) 4 (.inl (cI, 7, .inl z0))) 0 (.inr (0, [.int 0, .ref q1, .ref q2, .ref q3, .ref q4, .null, .null]))) 5 (.inl (cI, 7, .inl z0))) 0 (.inr (0, [.int 0, .ref q1, .ref q2, .ref q3, .ref q4, .ref q5, .null]))) 6 (.inl (cI, 7, .inl z0))) H := hP
  refine g_putFU hx hb hts hown inA0 tyX0 tyX0_ok nmX0 hin2 hK hP hE hS 0 (by decide) (r := h0) rfl (fs := [.int 0, .ref q1, .ref q2, .ref q3, .ref q4, .ref q5, .null]) rfl rfl 6 (by decide) tw46 rfl rfl rfl (ty := (.array .int)) (by decide +kernel) rfl rfl (Nat.le_of_ble_eq_true rfl) dX0_init_49 (fun H locs hP hS => ?_)
  have hP : HP D 7 (va_up (va_up (va_up (va_up (va_up (va_up (fun _ => h0) 1 q1) 2 q2) 3 q3) 4 q4) 5 q5) 6 q6) (va_up (va_up (va_up (va_up (va_up (va_up (va_up (va_up (va_up (va_up (va_up (va_up (fun _ => .inr (0, [.int 0, .null, .null, .null, .null, .null, .null])) 1 (.inl (cI, 7, .inl z0))) 0 (.inr (0, [.int 0, .ref q1, .null, .null, .null, .null, .null]))) 2 (.inl (cI, 7, .inl z0))) 0 (.inr (0, [.int 0, .ref q1, .ref q2, .null, .null, .null, .null]))) 3 (.inl (cI, 7, .inl z0))) 0 (.inr (0, [.int 0, .ref q1, .ref q2, .ref q3, .null, .null, .null]))) 4 (.inl (cI, 7, .inl z0))) 0 (.inr (0, [.int 0, .ref q1, .ref q2, .ref q3, .ref q4, .null, .null]))) 5 (.inl (cI, 7, .inl z0))) 0 (.inr (0, [.int 0, .ref q1, .ref q2, .ref q3, .ref q4, .ref q5, .null]))) 6 (.inl (cI, 7, .inl z0))) 0 (.inr (0, [.int 0, .ref q1, .ref q2, .ref q3, .ref q4, .ref q5, .ref q6]))) H := hP
  refine c_vr (f := dC0 cI) hx hb hr hlocks hS (va_up (va_up (va_up (va_up (va_up (va_up (fun _ => h0) 1 q1) 2 q2) 3 q3) 4 q4) 5 q5) 6 q6) rfl hE ?_ dX0_init_52
  refine hP.ext (fun k hk => ?_)
  match k, hk with
  | 0, _ => exact ⟨rfl, rfl⟩
  | 1, _ => exact ⟨rfl, rfl⟩
  | 2, _ => exact ⟨rfl, rfl⟩
  | 3, _ => exact ⟨rfl, rfl⟩
  | 4, _ => exact ⟨rfl, rfl⟩
  | 5, _ => exact ⟨rfl, rfl⟩
  | 6, _ => exact ⟨rfl, rfl⟩
  | n + 7, hk => exact absurd hk (by omega)

set_option maxHeartbeats 4000000 in
set_option maxRecDepth 100000 in
theorem m_X5_init (l : Launch) (D : va_G) (cI cS : ClassId) (h0 zz : Nat) : Met l yX5_init (.code yX5_init cX5_init 2 none :: wsA) ({ frames := 1, cells := 3, slots := 21, locals := 12 } : Room) (va_Pc [.ref h0] (PI D cI cS h0 (.inr (5, [.null, .null, .null])) zz)) (QI D 4 h0 zz (dC5 cI)) 3 21 (AI h0 zz) := by
  refine mgc (by decide) rfl (Nat.le_of_ble_eq_true rfl) ?_
  intro p e z m below meth c hx hb hr hml hown hts hlocks hin2 hB ls hl
  obtain ⟨hsz, hP, hK, hAO⟩ := hB
  subst hsz
  have hl : lv_has ls 2 [(0, .ref h0)] := hl
  have hS : va_S (AI h0 z.heap.size) z.heap z.heap [] := va_S.rf
  have hA : ∀ q, z.heap.size ≤ q → AI h0 z.heap.size q := fun _ h => Or.inr h
  have hE : DX (AI h0 z.heap.size) 1 (fun _ => h0) := ⟨fun i j hi hj _ => by omega, fun k hk => Or.inl ⟨0, by decide, rfl⟩⟩
  have hP : HP D 1 (fun _ => h0) (fun _ => .inr (5, [.null, .null, .null])) z.heap := hP
  refine lv_aload_n hx hb dX5_init_0 rfl (lv_at hl 0 rfl) ?_
  refine g_obj hx hb hown hts tw69 (hl.1.trans hml.symm) dX5_init_1 ⟨(Nat.le_of_ble_eq_true rfl), (Nat.le_of_ble_eq_true rfl)⟩ ?_
  refine lv_aload_n hx hb dX5_init_4 rfl (lv_at hl 0 rfl) ?_
  refine lv_bipush (v := 7) hx hb dX5_init_5 (by decide) ?_
  refine g_newaU hx hb hts hK hP hE hS hA (len := 7) (by decide) (by decide) (by decide) (Nat.le_of_ble_eq_true rfl) (Nat.le_of_ble_eq_true rfl) dX5_init_7 (fun q1 H hP hE hS => ?_)
  have hP : HP D 2 (va_up (fun _ => h0) 1 q1) (va_up (fun _ => .inr (5, [.null, .null, .null])) 1 (.inl (cI, 7, .inl z0))) H := hP
  refine g_putFU hx hb hts hown inA5 tyX5 tyX5_ok nmX5 hin2 hK hP hE hS 0 (by decide) (r := h0) rfl (fs := [.null, .null, .null]) rfl rfl 0 (by decide) tw70 rfl rfl rfl (ty := (.array .int)) (by decide +kernel) rfl rfl (Nat.le_of_ble_eq_true rfl) dX5_init_9 (fun H locs hP hS => ?_)
  have hP : HP D 2 (va_up (fun _ => h0) 1 q1) (va_up (va_up (fun _ => .inr (5, [.null, .null, .null])) 1 (.inl (cI, 7, .inl z0))) 0 (.inr (5, [.ref q1, .null, .null]))) H := hP
  refine lv_aload_n hx hb dX5_init_12 rfl (lv_at hl 0 rfl) ?_
  refine lv_bipush (v := 7) hx hb dX5_init_13 (by decide) ?_
  refine g_newaU hx hb hts hK hP hE hS hA (len := 7) (by decide) (by decide) (by decide) (Nat.le_of_ble_eq_true rfl) (Nat.le_of_ble_eq_true rfl) dX5_init_15 (fun q2 H hP hE hS => ?_)
  have hP : HP D 3 (va_up (va_up (fun _ => h0) 1 q1) 2 q2) (va_up (va_up (va_up (fun _ => .inr (5, [.null, .null, .null])) 1 (.inl (cI, 7, .inl z0))) 0 (.inr (5, [.ref q1, .null, .null]))) 2 (.inl (cI, 7, .inl z0))) H := hP
  refine g_putFU hx hb hts hown inA5 tyX5 tyX5_ok nmX5 hin2 hK hP hE hS 0 (by decide) (r := h0) rfl (fs := [.ref q1, .null, .null]) rfl rfl 1 (by decide) tw73 rfl rfl rfl (ty := (.array .int)) (by decide +kernel) rfl rfl (Nat.le_of_ble_eq_true rfl) dX5_init_17 (fun H locs hP hS => ?_)
  have hP : HP D 3 (va_up (va_up (fun _ => h0) 1 q1) 2 q2) (va_up (va_up (va_up (va_up (fun _ => .inr (5, [.null, .null, .null])) 1 (.inl (cI, 7, .inl z0))) 0 (.inr (5, [.ref q1, .null, .null]))) 2 (.inl (cI, 7, .inl z0))) 0 (.inr (5, [.ref q1, .ref q2, .null]))) H := hP
  refine lv_aload_n hx hb dX5_init_20 rfl (lv_at hl 0 rfl) ?_
  refine lv_bipush (v := 7) hx hb dX5_init_21 (by decide) ?_
  refine g_newaU hx hb hts hK hP hE hS hA (len := 7) (by decide) (by decide) (by decide) (Nat.le_of_ble_eq_true rfl) (Nat.le_of_ble_eq_true rfl) dX5_init_23 (fun q3 H hP hE hS => ?_)
  have hP : HP D 4 (va_up (va_up (va_up (fun _ => h0) 1 q1) 2 q2) 3 q3) (va_up (va_up (va_up (va_up (va_up (fun _ => .inr (5, [.null, .null, .null])) 1 (.inl (cI, 7, .inl z0))) 0 (.inr (5, [.ref q1, .null, .null]))) 2 (.inl (cI, 7, .inl z0))) 0 (.inr (5, [.ref q1, .ref q2, .null]))) 3 (.inl (cI, 7, .inl z0))) H := hP
  refine g_putFU hx hb hts hown inA5 tyX5 tyX5_ok nmX5 hin2 hK hP hE hS 0 (by decide) (r := h0) rfl (fs := [.ref q1, .ref q2, .null]) rfl rfl 2 (by decide) tw75 rfl rfl rfl (ty := (.array .int)) (by decide +kernel) rfl rfl (Nat.le_of_ble_eq_true rfl) dX5_init_25 (fun H locs hP hS => ?_)
  have hP : HP D 4 (va_up (va_up (va_up (fun _ => h0) 1 q1) 2 q2) 3 q3) (va_up (va_up (va_up (va_up (va_up (va_up (fun _ => .inr (5, [.null, .null, .null])) 1 (.inl (cI, 7, .inl z0))) 0 (.inr (5, [.ref q1, .null, .null]))) 2 (.inl (cI, 7, .inl z0))) 0 (.inr (5, [.ref q1, .ref q2, .null]))) 3 (.inl (cI, 7, .inl z0))) 0 (.inr (5, [.ref q1, .ref q2, .ref q3]))) H := hP
  refine lv_iconst (v := 0) hx hb dX5_init_28 (by decide) ?_
  refine lv_istore_n (lv' := [(1, .int 0), (0, .ref h0)]) hx hb dX5_init_29 rfl hl (by decide) rfl (fun ls hl => ?_)
  refine lv_iload_n hx hb dX5_init_30 rfl (lv_at hl 0 rfl) ?_
  refine lv_bipush (v := 7) hx hb dX5_init_31 (by decide) ?_
  refine lv_icmp_ge (tgt := 49) hx hb dX5_init_33 (by decide) (fun h0 => absurd h0 (by decide)) (fun _ => ?_)
  refine lv_aload_n hx hb dX5_init_36 rfl (lv_at hl 1 rfl) ?_
  refine g_getU hx hb hts hown inA5 hK hP 0 (by decide) (r := h0) rfl (fs := [.ref q1, .ref q2, .ref q3]) rfl rfl 0 (by decide) tw70 rfl (v := .ref q1) rfl dX5_init_37 ?_
  refine lv_iload_n hx hb dX5_init_40 rfl (lv_at hl 0 rfl) ?_
  refine lv_iconst (v := 3) hx hb dX5_init_41 (by decide) ?_
  refine g_iastU hx hb hK hP hE hS 1 (by decide) (r := q1) rfl (len := 7) (f := z0) rfl 0 (by decide) (by decide) (by decide) dX5_init_42 (fun H locs hP hS => ?_)
  have hP : HP D 4 (va_up (va_up (va_up (fun _ => h0) 1 q1) 2 q2) 3 q3) (va_up (va_up (va_up (va_up (va_up (va_up (va_up (fun _ => .inr (5, [.null, .null, .null])) 1 (.inl (cI, 7, .inl z0))) 0 (.inr (5, [.ref q1, .null, .null]))) 2 (.inl (cI, 7, .inl z0))) 0 (.inr (5, [.ref q1, .ref q2, .null]))) 3 (.inl (cI, 7, .inl z0))) 0 (.inr (5, [.ref q1, .ref q2, .ref q3]))) 1 (.inl (cI, 7, .inl (upd z0 0 3)))) H := hP
  refine lv_iinc (v := 1) (lv' := [(1, .int 1), (0, .ref h0)]) hx hb dX5_init_43 hl (k := 0) rfl (by decide) (by decide) rfl (fun ls hl => ?_)
  refine lv_goto (tgt := 30) hx hb dX5_init_46 (by decide) ?_
  refine lv_iload_n hx hb dX5_init_30 rfl (lv_at hl 0 rfl) ?_
  refine lv_bipush (v := 7) hx hb dX5_init_31 (by decide) ?_
  refine lv_icmp_ge (tgt := 49) hx hb dX5_init_33 (by decide) (fun h0 => absurd h0 (by decide)) (fun _ => ?_)
  refine lv_aload_n hx hb dX5_init_36 rfl (lv_at hl 1 rfl) ?_
  refine g_getU hx hb hts hown inA5 hK hP 0 (by decide) (r := h0) rfl (fs := [.ref q1, .ref q2, .ref q3]) rfl rfl 0 (by decide) tw70 rfl (v := .ref q1) rfl dX5_init_37 ?_
  refine lv_iload_n hx hb dX5_init_40 rfl (lv_at hl 0 rfl) ?_
  refine lv_iconst (v := 3) hx hb dX5_init_41 (by decide) ?_
  refine g_iastU hx hb hK hP hE hS 1 (by decide) (r := q1) rfl (len := 7) (f := (upd z0 0 3)) rfl 1 (by decide) (by decide) (by decide) dX5_init_42 (fun H locs hP hS => ?_)
  have hP : HP D 4 (va_up (va_up (va_up (fun _ => h0) 1 q1) 2 q2) 3 q3) (va_up (va_up (va_up (va_up (va_up (va_up (va_up (va_up (fun _ => .inr (5, [.null, .null, .null])) 1 (.inl (cI, 7, .inl z0))) 0 (.inr (5, [.ref q1, .null, .null]))) 2 (.inl (cI, 7, .inl z0))) 0 (.inr (5, [.ref q1, .ref q2, .null]))) 3 (.inl (cI, 7, .inl z0))) 0 (.inr (5, [.ref q1, .ref q2, .ref q3]))) 1 (.inl (cI, 7, .inl (upd z0 0 3)))) 1 (.inl (cI, 7, .inl (upd (upd z0 0 3) 1 3)))) H := hP
  refine lv_iinc (v := 2) (lv' := [(1, .int 2), (0, .ref h0)]) hx hb dX5_init_43 hl (k := 0) rfl (by decide) (by decide) rfl (fun ls hl => ?_)
  refine lv_goto (tgt := 30) hx hb dX5_init_46 (by decide) ?_
  refine lv_iload_n hx hb dX5_init_30 rfl (lv_at hl 0 rfl) ?_
  refine lv_bipush (v := 7) hx hb dX5_init_31 (by decide) ?_
  refine lv_icmp_ge (tgt := 49) hx hb dX5_init_33 (by decide) (fun h0 => absurd h0 (by decide)) (fun _ => ?_)
  refine lv_aload_n hx hb dX5_init_36 rfl (lv_at hl 1 rfl) ?_
  refine g_getU hx hb hts hown inA5 hK hP 0 (by decide) (r := h0) rfl (fs := [.ref q1, .ref q2, .ref q3]) rfl rfl 0 (by decide) tw70 rfl (v := .ref q1) rfl dX5_init_37 ?_
  refine lv_iload_n hx hb dX5_init_40 rfl (lv_at hl 0 rfl) ?_
  refine lv_iconst (v := 3) hx hb dX5_init_41 (by decide) ?_
  refine g_iastU hx hb hK hP hE hS 1 (by decide) (r := q1) rfl (len := 7) (f := (upd (upd z0 0 3) 1 3)) rfl 2 (by decide) (by decide) (by decide) dX5_init_42 (fun H locs hP hS => ?_)
  have hP : HP D 4 (va_up (va_up (va_up (fun _ => h0) 1 q1) 2 q2) 3 q3) (va_up (va_up (va_up (va_up (va_up (va_up (va_up (va_up (va_up (fun _ => .inr (5, [.null, .null, .null])) 1 (.inl (cI, 7, .inl z0))) 0 (.inr (5, [.ref q1, .null, .null]))) 2 (.inl (cI, 7, .inl z0))) 0 (.inr (5, [.ref q1, .ref q2, .null]))) 3 (.inl (cI, 7, .inl z0))) 0 (.inr (5, [.ref q1, .ref q2, .ref q3]))) 1 (.inl (cI, 7, .inl (upd z0 0 3)))) 1 (.inl (cI, 7, .inl (upd (upd z0 0 3) 1 3)))) 1 (.inl (cI, 7, .inl (upd (upd (upd z0 0 3) 1 3) 2 3)))) H := hP
  refine lv_iinc (v := 3) (lv' := [(1, .int 3), (0, .ref h0)]) hx hb dX5_init_43 hl (k := 0) rfl (by decide) (by decide) rfl (fun ls hl => ?_)
  refine lv_goto (tgt := 30) hx hb dX5_init_46 (by decide) ?_
  refine lv_iload_n hx hb dX5_init_30 rfl (lv_at hl 0 rfl) ?_
  refine lv_bipush (v := 7) hx hb dX5_init_31 (by decide) ?_
  refine lv_icmp_ge (tgt := 49) hx hb dX5_init_33 (by decide) (fun h0 => absurd h0 (by decide)) (fun _ => ?_)
  refine lv_aload_n hx hb dX5_init_36 rfl (lv_at hl 1 rfl) ?_
  refine g_getU hx hb hts hown inA5 hK hP 0 (by decide) (r := h0) rfl (fs := [.ref q1, .ref q2, .ref q3]) rfl rfl 0 (by decide) tw70 rfl (v := .ref q1) rfl dX5_init_37 ?_
  refine lv_iload_n hx hb dX5_init_40 rfl (lv_at hl 0 rfl) ?_
  refine lv_iconst (v := 3) hx hb dX5_init_41 (by decide) ?_
  refine g_iastU hx hb hK hP hE hS 1 (by decide) (r := q1) rfl (len := 7) (f := (upd (upd (upd z0 0 3) 1 3) 2 3)) rfl 3 (by decide) (by decide) (by decide) dX5_init_42 (fun H locs hP hS => ?_)
  have hP : HP D 4 (va_up (va_up (va_up (fun _ => h0) 1 q1) 2 q2) 3 q3) (va_up (va_up (va_up (va_up (va_up (va_up (va_up (va_up (va_up (va_up (fun _ => .inr (5, [.null, .null, .null])) 1 (.inl (cI, 7, .inl z0))) 0 (.inr (5, [.ref q1, .null, .null]))) 2 (.inl (cI, 7, .inl z0))) 0 (.inr (5, [.ref q1, .ref q2, .null]))) 3 (.inl (cI, 7, .inl z0))) 0 (.inr (5, [.ref q1, .ref q2, .ref q3]))) 1 (.inl (cI, 7, .inl (upd z0 0 3)))) 1 (.inl (cI, 7, .inl (upd (upd z0 0 3) 1 3)))) 1 (.inl (cI, 7, .inl (upd (upd (upd z0 0 3) 1 3) 2 3)))) 1 (.inl (cI, 7, .inl (upd (upd (upd (upd z0 0 3) 1 3) 2 3) 3 3)))) H := hP
  refine lv_iinc (v := 4) (lv' := [(1, .int 4), (0, .ref h0)]) hx hb dX5_init_43 hl (k := 0) rfl (by decide) (by decide) rfl (fun ls hl => ?_)
  refine lv_goto (tgt := 30) hx hb dX5_init_46 (by decide) ?_
  refine lv_iload_n hx hb dX5_init_30 rfl (lv_at hl 0 rfl) ?_
  refine lv_bipush (v := 7) hx hb dX5_init_31 (by decide) ?_
  refine lv_icmp_ge (tgt := 49) hx hb dX5_init_33 (by decide) (fun h0 => absurd h0 (by decide)) (fun _ => ?_)
  refine lv_aload_n hx hb dX5_init_36 rfl (lv_at hl 1 rfl) ?_
  refine g_getU hx hb hts hown inA5 hK hP 0 (by decide) (r := h0) rfl (fs := [.ref q1, .ref q2, .ref q3]) rfl rfl 0 (by decide) tw70 rfl (v := .ref q1) rfl dX5_init_37 ?_
  refine lv_iload_n hx hb dX5_init_40 rfl (lv_at hl 0 rfl) ?_
  refine lv_iconst (v := 3) hx hb dX5_init_41 (by decide) ?_
  refine g_iastU hx hb hK hP hE hS 1 (by decide) (r := q1) rfl (len := 7) (f := (upd (upd (upd (upd z0 0 3) 1 3) 2 3) 3 3)) rfl 4 (by decide) (by decide) (by decide) dX5_init_42 (fun H locs hP hS => ?_)
  have hP : HP D 4 (va_up (va_up (va_up (fun _ => h0) 1 q1) 2 q2) 3 q3) (va_up (va_up (va_up (va_up (va_up (va_up (va_up (va_up (va_up (va_up (va_up (fun _ => .inr (5, [.null, .null, .null])) 1 (.inl (cI, 7, .inl z0))) 0 (.inr (5, [.ref q1, .null, .null]))) 2 (.inl (cI, 7, .inl z0))) 0 (.inr (5, [.ref q1, .ref q2, .null]))) 3 (.inl (cI, 7, .inl z0))) 0 (.inr (5, [.ref q1, .ref q2, .ref q3]))) 1 (.inl (cI, 7, .inl (upd z0 0 3)))) 1 (.inl (cI, 7, .inl (upd (upd z0 0 3) 1 3)))) 1 (.inl (cI, 7, .inl (upd (upd (upd z0 0 3) 1 3) 2 3)))) 1 (.inl (cI, 7, .inl (upd (upd (upd (upd z0 0 3) 1 3) 2 3) 3 3)))) 1 (.inl (cI, 7, .inl (upd (upd (upd (upd (upd z0 0 3) 1 3) 2 3) 3 3) 4 3)))) H := hP
  refine lv_iinc (v := 5) (lv' := [(1, .int 5), (0, .ref h0)]) hx hb dX5_init_43 hl (k := 0) rfl (by decide) (by decide) rfl (fun ls hl => ?_)
  refine lv_goto (tgt := 30) hx hb dX5_init_46 (by decide) ?_
  refine lv_iload_n hx hb dX5_init_30 rfl (lv_at hl 0 rfl) ?_
  refine lv_bipush (v := 7) hx hb dX5_init_31 (by decide) ?_
  refine lv_icmp_ge (tgt := 49) hx hb dX5_init_33 (by decide) (fun h0 => absurd h0 (by decide)) (fun _ => ?_)
  refine lv_aload_n hx hb dX5_init_36 rfl (lv_at hl 1 rfl) ?_
  refine g_getU hx hb hts hown inA5 hK hP 0 (by decide) (r := h0) rfl (fs := [.ref q1, .ref q2, .ref q3]) rfl rfl 0 (by decide) tw70 rfl (v := .ref q1) rfl dX5_init_37 ?_
  refine lv_iload_n hx hb dX5_init_40 rfl (lv_at hl 0 rfl) ?_
  refine lv_iconst (v := 3) hx hb dX5_init_41 (by decide) ?_
  refine g_iastU hx hb hK hP hE hS 1 (by decide) (r := q1) rfl (len := 7) (f := (upd (upd (upd (upd (upd z0 0 3) 1 3) 2 3) 3 3) 4 3)) rfl 5 (by decide) (by decide) (by decide) dX5_init_42 (fun H locs hP hS => ?_)
  have hP : HP D 4 (va_up (va_up (va_up (fun _ => h0) 1 q1) 2 q2) 3 q3) (va_up (va_up (va_up (va_up (va_up (va_up (va_up (va_up (va_up (va_up (va_up (va_up (fun _ => .inr (5, [.null, .null, .null])) 1 (.inl (cI, 7, .inl z0))) 0 (.inr (5, [.ref q1, .null, .null]))) 2 (.inl (cI, 7, .inl z0))) 0 (.inr (5, [.ref q1, .ref q2, .null]))) 3 (.inl (cI, 7, .inl z0))) 0 (.inr (5, [.ref q1, .ref q2, .ref q3]))) 1 (.inl (cI, 7, .inl (upd z0 0 3)))) 1 (.inl (cI, 7, .inl (upd (upd z0 0 3) 1 3)))) 1 (.inl (cI, 7, .inl (upd (upd (upd z0 0 3) 1 3) 2 3)))) 1 (.inl (cI, 7, .inl (upd (upd (upd (upd z0 0 3) 1 3) 2 3) 3 3)))) 1 (.inl (cI, 7, .inl (upd (upd (upd (upd (upd z0 0 3) 1 3) 2 3) 3 3) 4 3)))) 1 (.inl (cI, 7, .inl (upd (upd (upd (upd (upd (upd z0 0 3) 1 3) 2 3) 3 3) 4 3) 5 3)))) H := hP
  refine lv_iinc (v := 6) (lv' := [(1, .int 6), (0, .ref h0)]) hx hb dX5_init_43 hl (k := 0) rfl (by decide) (by decide) rfl (fun ls hl => ?_)
  refine lv_goto (tgt := 30) hx hb dX5_init_46 (by decide) ?_
  refine lv_iload_n hx hb dX5_init_30 rfl (lv_at hl 0 rfl) ?_
  refine lv_bipush (v := 7) hx hb dX5_init_31 (by decide) ?_
  refine lv_icmp_ge (tgt := 49) hx hb dX5_init_33 (by decide) (fun h0 => absurd h0 (by decide)) (fun _ => ?_)
  refine lv_aload_n hx hb dX5_init_36 rfl (lv_at hl 1 rfl) ?_
  refine g_getU hx hb hts hown inA5 hK hP 0 (by decide) (r := h0) rfl (fs := [.ref q1, .ref q2, .ref q3]) rfl rfl 0 (by decide) tw70 rfl (v := .ref q1) rfl dX5_init_37 ?_
  refine lv_iload_n hx hb dX5_init_40 rfl (lv_at hl 0 rfl) ?_
  refine lv_iconst (v := 3) hx hb dX5_init_41 (by decide) ?_
  refine g_iastU hx hb hK hP hE hS 1 (by decide) (r := q1) rfl (len := 7) (f := (upd (upd (upd (upd (upd (upd z0 0 3) 1 3) 2 3) 3 3) 4 3) 5 3)) rfl 6 (by decide) (by decide) (by decide) dX5_init_42 (fun H locs hP hS => ?_)
  have hP : HP D 4 (va_up (va_up (va_up (fun _ => h0) 1 q1) 2 q2) 3 q3) (va_up (va_up (va_up (va_up (va_up (va_up (va_up (va_up (va_up (va_up (va_up (va_up (va_up (fun _ => .inr (5, [.null, .null, .null])) 1 (.inl (cI, 7, .inl z0))) 0 (.inr (5, [.ref q1, .null, .null]))) 2 (.inl (cI, 7, .inl z0))) 0 (.inr (5, [.ref q1, .ref q2, .null]))) 3 (.inl (cI, 7, .inl z0))) 0 (.inr (5, [.ref q1, .ref q2, .ref q3]))) 1 (.inl (cI, 7, .inl (upd z0 0 3)))) 1 (.inl (cI, 7, .inl (upd (upd z0 0 3) 1 3)))) 1 (.inl (cI, 7, .inl (upd (upd (upd z0 0 3) 1 3) 2 3)))) 1 (.inl (cI, 7, .inl (upd (upd (upd (upd z0 0 3) 1 3) 2 3) 3 3)))) 1 (.inl (cI, 7, .inl (upd (upd (upd (upd (upd z0 0 3) 1 3) 2 3) 3 3) 4 3)))) 1 (.inl (cI, 7, .inl (upd (upd (upd (upd (upd (upd z0 0 3) 1 3) 2 3) 3 3) 4 3) 5 3)))) 1 (.inl (cI, 7, .inl (upd (upd (upd (upd (upd (upd (upd z0 0 3) 1 3) 2 3) 3 3) 4 3) 5 3) 6 3)))) H := hP
  refine lv_iinc (v := 7) (lv' := [(1, .int 7), (0, .ref h0)]) hx hb dX5_init_43 hl (k := 0) rfl (by decide) (by decide) rfl (fun ls hl => ?_)
  refine lv_goto (tgt := 30) hx hb dX5_init_46 (by decide) ?_
  refine lv_iload_n hx hb dX5_init_30 rfl (lv_at hl 0 rfl) ?_
  refine lv_bipush (v := 7) hx hb dX5_init_31 (by decide) ?_
  refine lv_icmp_ge (tgt := 49) hx hb dX5_init_33 (by decide) (fun _ => ?_) (fun h0 => absurd (by decide) h0)
  refine c_vr (f := dC5 cI) hx hb hr hlocks hS (va_up (va_up (va_up (fun _ => h0) 1 q1) 2 q2) 3 q3) rfl hE ?_ dX5_init_49
  refine hP.ext (fun k hk => ?_)
  match k, hk with
  | 0, _ => exact ⟨rfl, rfl⟩
  | 1, _ => exact ⟨rfl, rfl⟩
  | 2, _ => exact ⟨rfl, rfl⟩
  | 3, _ => exact ⟨rfl, rfl⟩
  | n + 4, hk => exact absurd hk (by omega)

set_option maxHeartbeats 4000000 in
set_option maxRecDepth 100000 in
theorem m_X2_init (l : Launch) (D : va_G) (cI cS : ClassId) (h0 zz : Nat) : Met l yX2_init (.code yX2_init cX2_init 1 none :: wsA) ({ frames := 1, cells := 1, slots := 60, locals := 12 } : Room) (va_Pc [.ref h0] (PI D cI cS h0 (.inr (2, [.null, .int 0])) zz)) (QI D 2 h0 zz (dC2 cI)) 1 60 (AI h0 zz) := by
  refine mgc (by decide) rfl (Nat.le_of_ble_eq_true rfl) ?_
  intro p e z m below meth c hx hb hr hml hown hts hlocks hin2 hB ls hl
  obtain ⟨hsz, hP, hK, hAO⟩ := hB
  subst hsz
  have hl : lv_has ls 1 [(0, .ref h0)] := hl
  have hS : va_S (AI h0 z.heap.size) z.heap z.heap [] := va_S.rf
  have hA : ∀ q, z.heap.size ≤ q → AI h0 z.heap.size q := fun _ h => Or.inr h
  have hE : DX (AI h0 z.heap.size) 1 (fun _ => h0) := ⟨fun i j hi hj _ => by omega, fun k hk => Or.inl ⟨0, by decide, rfl⟩⟩
  have hP : HP D 1 (fun _ => h0) (fun _ => .inr (2, [.null, .int 0])) z.heap := hP
  refine lv_aload_n hx hb dX2_init_0 rfl (lv_at hl 0 rfl) ?_
  refine g_obj hx hb hown hts tw132 (hl.1.trans hml.symm) dX2_init_1 ⟨(Nat.le_of_ble_eq_true rfl), (Nat.le_of_ble_eq_true rfl)⟩ ?_
  refine lv_aload_n hx hb dX2_init_4 rfl (lv_at hl 0 rfl) ?_
  refine lv_bipush (v := 60) hx hb dX2_init_5 (by decide) ?_
  refine g_newaU hx hb hts hK hP hE hS hA (len := 60) (by decide) (by decide) (by decide) (Nat.le_of_ble_eq_true rfl) (Nat.le_of_ble_eq_true rfl) dX2_init_7 (fun q1 H hP hE hS => ?_)
  have hP : HP D 2 (va_up (fun _ => h0) 1 q1) (va_up (fun _ => .inr (2, [.null, .int 0])) 1 (.inl (cI, 60, .inl z0))) H := hP
  refine g_putFU hx hb hts hown inA2 tyX2 tyX2_ok nmX2 hin2 hK hP hE hS 0 (by decide) (r := h0) rfl (fs := [.null, .int 0]) rfl rfl 0 (by decide) tw133 rfl rfl rfl (ty := (.array .int)) (by decide +kernel) rfl rfl (Nat.le_of_ble_eq_true rfl) dX2_init_9 (fun H locs hP hS => ?_)
  have hP : HP D 2 (va_up (fun _ => h0) 1 q1) (va_up (va_up (fun _ => .inr (2, [.null, .int 0])) 1 (.inl (cI, 60, .inl z0))) 0 (.inr (2, [.ref q1, .int 0]))) H := hP
  refine c_vr (f := dC2 cI) hx hb hr hlocks hS (va_up (fun _ => h0) 1 q1) rfl hE ?_ dX2_init_12
  refine hP.ext (fun k hk => ?_)
  match k, hk with
  | 0, _ => exact ⟨rfl, rfl⟩
  | 1, _ => exact ⟨rfl, rfl⟩
  | n + 2, hk => exact absurd hk (by omega)

set_option maxHeartbeats 4000000 in
set_option maxRecDepth 100000 in
theorem m_X3_init (l : Launch) (D : va_G) (cI cS : ClassId) (h0 zz : Nat) : Met l yX3_init (.code yX3_init cX3_init 1 none :: wsA) ({ frames := 1, cells := 3, slots := 21, locals := 12 } : Room) (va_Pc [.ref h0] (PI D cI cS h0 (.inr (3, [.null, .null, .null])) zz)) (QI D 4 h0 zz (dC3 cI)) 3 21 (AI h0 zz) := by
  refine mgc (by decide) rfl (Nat.le_of_ble_eq_true rfl) ?_
  intro p e z m below meth c hx hb hr hml hown hts hlocks hin2 hB ls hl
  obtain ⟨hsz, hP, hK, hAO⟩ := hB
  subst hsz
  have hl : lv_has ls 1 [(0, .ref h0)] := hl
  have hS : va_S (AI h0 z.heap.size) z.heap z.heap [] := va_S.rf
  have hA : ∀ q, z.heap.size ≤ q → AI h0 z.heap.size q := fun _ h => Or.inr h
  have hE : DX (AI h0 z.heap.size) 1 (fun _ => h0) := ⟨fun i j hi hj _ => by omega, fun k hk => Or.inl ⟨0, by decide, rfl⟩⟩
  have hP : HP D 1 (fun _ => h0) (fun _ => .inr (3, [.null, .null, .null])) z.heap := hP
  refine lv_aload_n hx hb dX3_init_0 rfl (lv_at hl 0 rfl) ?_
  refine g_obj hx hb hown hts tw144 (hl.1.trans hml.symm) dX3_init_1 ⟨(Nat.le_of_ble_eq_true rfl), (Nat.le_of_ble_eq_true rfl)⟩ ?_
  refine lv_aload_n hx hb dX3_init_4 rfl (lv_at hl 0 rfl) ?_
  refine lv_bipush (v := 7) hx hb dX3_init_5 (by decide) ?_
  refine g_newaU hx hb hts hK hP hE hS hA (len := 7) (by decide) (by decide) (by decide) (Nat.le_of_ble_eq_true rfl) (Nat.le_of_ble_eq_true rfl) dX3_init_7 (fun q1 H hP hE hS => ?_)
  have hP : HP D 2 (va_up (fun _ => h0) 1 q1) (va_up (fun _ => .inr (3, [.null, .null, .null])) 1 (.inl (cI, 7, .inl z0))) H := hP
  refine g_putFU hx hb hts hown inA3 tyX3 tyX3_ok nmX3 hin2 hK hP hE hS 0 (by decide) (r := h0) rfl (fs := [.null, .null, .null]) rfl rfl 0 (by decide) tw145 rfl rfl rfl (ty := (.array .int)) (by decide +kernel) rfl rfl (Nat.le_of_ble_eq_true rfl) dX3_init_9 (fun H locs hP hS => ?_)
  have hP : HP D 2 (va_up (fun _ => h0) 1 q1) (va_up (va_up (fun _ => .inr (3, [.null, .null, .null])) 1 (.inl (cI, 7, .inl z0))) 0 (.inr (3, [.ref q1, .null, .null]))) H := hP
  refine lv_aload_n hx hb dX3_init_12 rfl (lv_at hl 0 rfl) ?_
  refine lv_bipush (v := 7) hx hb dX3_init_13 (by decide) ?_
  refine g_newaU hx hb hts hK hP hE hS hA (len := 7) (by decide) (by decide) (by decide) (Nat.le_of_ble_eq_true rfl) (Nat.le_of_ble_eq_true rfl) dX3_init_15 (fun q2 H hP hE hS => ?_)
  have hP : HP D 3 (va_up (va_up (fun _ => h0) 1 q1) 2 q2) (va_up (va_up (va_up (fun _ => .inr (3, [.null, .null, .null])) 1 (.inl (cI, 7, .inl z0))) 0 (.inr (3, [.ref q1, .null, .null]))) 2 (.inl (cI, 7, .inl z0))) H := hP
  refine g_putFU hx hb hts hown inA3 tyX3 tyX3_ok nmX3 hin2 hK hP hE hS 0 (by decide) (r := h0) rfl (fs := [.ref q1, .null, .null]) rfl rfl 1 (by decide) tw147 rfl rfl rfl (ty := (.array .int)) (by decide +kernel) rfl rfl (Nat.le_of_ble_eq_true rfl) dX3_init_17 (fun H locs hP hS => ?_)
  have hP : HP D 3 (va_up (va_up (fun _ => h0) 1 q1) 2 q2) (va_up (va_up (va_up (va_up (fun _ => .inr (3, [.null, .null, .null])) 1 (.inl (cI, 7, .inl z0))) 0 (.inr (3, [.ref q1, .null, .null]))) 2 (.inl (cI, 7, .inl z0))) 0 (.inr (3, [.ref q1, .ref q2, .null]))) H := hP
  refine lv_aload_n hx hb dX3_init_20 rfl (lv_at hl 0 rfl) ?_
  refine lv_bipush (v := 7) hx hb dX3_init_21 (by decide) ?_
  refine g_newaU hx hb hts hK hP hE hS hA (len := 7) (by decide) (by decide) (by decide) (Nat.le_of_ble_eq_true rfl) (Nat.le_of_ble_eq_true rfl) dX3_init_23 (fun q3 H hP hE hS => ?_)
  have hP : HP D 4 (va_up (va_up (va_up (fun _ => h0) 1 q1) 2 q2) 3 q3) (va_up (va_up (va_up (va_up (va_up (fun _ => .inr (3, [.null, .null, .null])) 1 (.inl (cI, 7, .inl z0))) 0 (.inr (3, [.ref q1, .null, .null]))) 2 (.inl (cI, 7, .inl z0))) 0 (.inr (3, [.ref q1, .ref q2, .null]))) 3 (.inl (cI, 7, .inl z0))) H := hP
  refine g_putFU hx hb hts hown inA3 tyX3 tyX3_ok nmX3 hin2 hK hP hE hS 0 (by decide) (r := h0) rfl (fs := [.ref q1, .ref q2, .null]) rfl rfl 2 (by decide) tw149 rfl rfl rfl (ty := (.array .int)) (by decide +kernel) rfl rfl (Nat.le_of_ble_eq_true rfl) dX3_init_25 (fun H locs hP hS => ?_)
  have hP : HP D 4 (va_up (va_up (va_up (fun _ => h0) 1 q1) 2 q2) 3 q3) (va_up (va_up (va_up (va_up (va_up (va_up (fun _ => .inr (3, [.null, .null, .null])) 1 (.inl (cI, 7, .inl z0))) 0 (.inr (3, [.ref q1, .null, .null]))) 2 (.inl (cI, 7, .inl z0))) 0 (.inr (3, [.ref q1, .ref q2, .null]))) 3 (.inl (cI, 7, .inl z0))) 0 (.inr (3, [.ref q1, .ref q2, .ref q3]))) H := hP
  refine c_vr (f := dC3 cI) hx hb hr hlocks hS (va_up (va_up (va_up (fun _ => h0) 1 q1) 2 q2) 3 q3) rfl hE ?_ dX3_init_28
  refine hP.ext (fun k hk => ?_)
  match k, hk with
  | 0, _ => exact ⟨rfl, rfl⟩
  | 1, _ => exact ⟨rfl, rfl⟩
  | 2, _ => exact ⟨rfl, rfl⟩
  | 3, _ => exact ⟨rfl, rfl⟩
  | n + 4, hk => exact absurd hk (by omega)

set_option maxHeartbeats 4000000 in
set_option maxRecDepth 100000 in
theorem m_X4_init (l : Launch) (D : va_G) (cI cS : ClassId) (h0 zz : Nat) : Met l yX4_init (.code yX4_init cX4_init 1 none :: wsA) ({ frames := 2, cells := 12, slots := 75, locals := 33 } : Room) (va_Pc [.ref h0] (PI D cI cS h0 (.inr (4, [.null, .null, .null, .int 0, .int 0, .int 0])) zz)) (QI D 13 h0 zz (fun u => stC cI u 0 s0)) 12 75 (AI h0 zz) := by
  refine mgc (by decide) rfl (Nat.le_of_ble_eq_true rfl) ?_
  intro p e z m below meth c hx hb hr hml hown hts hlocks hin2 hB ls hl
  obtain ⟨hsz, hP, hK, hAO⟩ := hB
  subst hsz
  have hl : lv_has ls 1 [(0, .ref h0)] := hl
  have hS : va_S (AI h0 z.heap.size) z.heap z.heap [] := va_S.rf
  have hA : ∀ q, z.heap.size ≤ q → AI h0 z.heap.size q := fun _ h => Or.inr h
  have hE : DX (AI h0 z.heap.size) 1 (fun _ => h0) := ⟨fun i j hi hj _ => by omega, fun k hk => Or.inl ⟨0, by decide, rfl⟩⟩
  have hP : HP D 1 (fun _ => h0) (fun _ => .inr (4, [.null, .null, .null, .int 0, .int 0, .int 0])) z.heap := hP
  refine lv_aload_n hx hb dX4_init_0 rfl (lv_at hl 0 rfl) ?_
  refine g_obj hx hb hown hts tw27 (hl.1.trans hml.symm) dX4_init_1 ⟨(Nat.le_of_ble_eq_true rfl), (Nat.le_of_ble_eq_true rfl)⟩ ?_
  refine lv_aload_n hx hb dX4_init_4 rfl (lv_at hl 0 rfl) ?_
  refine g_mk (f := dC0 cI) (fs := [.int 0, .null, .null, .null, .null, .null, .null]) (mm := 7) hx hb hts hown inA0 tyX0 tyX0_ok tw28 tw29 tw3 hK hP hE hS hA rfl (fun j hj => by revert j; exact lv_lt7 rfl rfl rfl rfl rfl rfl rfl) (Nat.le_of_ble_eq_true rfl) (Nat.le_of_ble_eq_true rfl) dX4_init_5 dX4_init_8 (by decide) (fun q9 H9 hq9 => va_runIN (As := []) (rest := [.ref q9, .ref h0]) ⟨hx, hb, hml, hown, hts⟩ (m_X0_init l D cI cS q9 _) ⟨va_cnB 0 hts (gA tw32) rfl rfl rfl (hK.2 _ tn30) (hts _ tw3) (by decide +kernel) ⟨(Nat.le_of_ble_eq_true rfl), (Nat.le_of_ble_eq_true rfl)⟩, rfl, hts _ tw31⟩ (psI hK hAO hq9) rfl rfl hl.1 rfl (lv_room (Nat.le_of_ble_eq_true rfl)) dX4_init_9 ⟨(Nat.le_of_ble_eq_true rfl), (Nat.le_of_ble_eq_true rfl)⟩) (fun u1 H locs hP hE hS => ?_)
  have hP : HP D 8 (apA (fun _ => h0) 1 u1) (apE (fun _ => .inr (4, [.null, .null, .null, .int 0, .int 0, .int 0])) 1 (dC0 cI u1)) H := hP
  refine g_putFU hx hb hts hown inA4 tyX4 tyX4_ok nmX4 hin2 hK hP hE hS 0 (by decide) (r := h0) rfl (fs := [.null, .null, .null, .int 0, .int 0, .int 0]) rfl rfl 0 (by decide) tw84 rfl rfl rfl (ty := (.object "DialWardens$Dials")) (by decide +kernel) rfl rfl (Nat.le_of_ble_eq_true rfl) dX4_init_12 (fun H locs hP hS => ?_)
  have hP : HP D 8 (apA (fun _ => h0) 1 u1) (va_up (apE (fun _ => .inr (4, [.null, .null, .null, .int 0, .int 0, .int 0])) 1 (dC0 cI u1)) 0 (.inr (4, [.ref (u1 0), .null, .null, .int 0, .int 0, .int 0]))) H := hP
  refine lv_aload_n hx hb dX4_init_15 rfl (lv_at hl 0 rfl) ?_
  refine g_mk (f := dC5 cI) (fs := [.null, .null, .null]) (mm := 4) hx hb hts hown inA5 tyX5 tyX5_ok tw64 tw65 tw4 hK hP hE hS hA rfl (fun j hj => by revert j; exact lv_lt3 rfl rfl rfl) (Nat.le_of_ble_eq_true rfl) (Nat.le_of_ble_eq_true rfl) dX4_init_16 dX4_init_19 (by decide) (fun q9 H9 hq9 => va_runI (As := []) (rest := [.ref q9, .ref h0]) ⟨hx, hb, hml, hown, hts⟩ (m_X5_init l D cI cS q9 _) (cwI 0 hts (gA tw68) rfl rfl rfl (hts _ tw4) (hts _ tw66) (hts _ tw67) rfl (by decide +kernel) ⟨(Nat.le_of_ble_eq_true rfl), (Nat.le_of_ble_eq_true rfl)⟩) (psI hK hAO hq9) rfl rfl hl.1 rfl (lv_room (Nat.le_of_ble_eq_true rfl)) dX4_init_20 ⟨(Nat.le_of_ble_eq_true rfl), (Nat.le_of_ble_eq_true rfl)⟩) (fun u2 H locs hP hE hS => ?_)
  have hP : HP D 12 (apA (apA (fun _ => h0) 1 u1) 8 u2) (apE (va_up (apE (fun _ => .inr (4, [.null, .null, .null, .int 0, .int 0, .int 0])) 1 (dC0 cI u1)) 0 (.inr (4, [.ref (u1 0), .null, .null, .int 0, .int 0, .int 0]))) 8 (dC5 cI u2)) H := hP
  refine g_putFU hx hb hts hown inA4 tyX4 tyX4_ok nmX4 hin2 hK hP hE hS 0 (by decide) (r := h0) rfl (fs := [.ref (u1 0), .null, .null, .int 0, .int 0, .int 0]) rfl rfl 1 (by decide) tw86 rfl rfl rfl (ty := (.object "DialWardens$Wardens")) (by decide +kernel) rfl rfl (Nat.le_of_ble_eq_true rfl) dX4_init_23 (fun H locs hP hS => ?_)
  have hP : HP D 12 (apA (apA (fun _ => h0) 1 u1) 8 u2) (va_up (apE (va_up (apE (fun _ => .inr (4, [.null, .null, .null, .int 0, .int 0, .int 0])) 1 (dC0 cI u1)) 0 (.inr (4, [.ref (u1 0), .null, .null, .int 0, .int 0, .int 0]))) 8 (dC5 cI u2)) 0 (.inr (4, [.ref (u1 0), .ref (u2 0), .null, .int 0, .int 0, .int 0]))) H := hP
  refine lv_aload_n hx hb dX4_init_26 rfl (lv_at hl 0 rfl) ?_
  refine lv_iconst (v := 2) hx hb dX4_init_27 (by decide) ?_
  refine g_newaU hx hb hts hK hP hE hS hA (len := 2) (by decide) (by decide) (by decide) (Nat.le_of_ble_eq_true rfl) (Nat.le_of_ble_eq_true rfl) dX4_init_28 (fun q1 H hP hE hS => ?_)
  have hP : HP D 13 (va_up (apA (apA (fun _ => h0) 1 u1) 8 u2) 12 q1) (va_up (va_up (apE (va_up (apE (fun _ => .inr (4, [.null, .null, .null, .int 0, .int 0, .int 0])) 1 (dC0 cI u1)) 0 (.inr (4, [.ref (u1 0), .null, .null, .int 0, .int 0, .int 0]))) 8 (dC5 cI u2)) 0 (.inr (4, [.ref (u1 0), .ref (u2 0), .null, .int 0, .int 0, .int 0]))) 12 (.inl (cI, 2, .inl z0))) H := hP
  refine g_putFU hx hb hts hown inA4 tyX4 tyX4_ok nmX4 hin2 hK hP hE hS 0 (by decide) (r := h0) rfl (fs := [.ref (u1 0), .ref (u2 0), .null, .int 0, .int 0, .int 0]) rfl rfl 2 (by decide) tw89 rfl rfl rfl (ty := (.array .int)) (by decide +kernel) rfl rfl (Nat.le_of_ble_eq_true rfl) dX4_init_30 (fun H locs hP hS => ?_)
  have hP : HP D 13 (va_up (apA (apA (fun _ => h0) 1 u1) 8 u2) 12 q1) (va_up (va_up (va_up (apE (va_up (apE (fun _ => .inr (4, [.null, .null, .null, .int 0, .int 0, .int 0])) 1 (dC0 cI u1)) 0 (.inr (4, [.ref (u1 0), .null, .null, .int 0, .int 0, .int 0]))) 8 (dC5 cI u2)) 0 (.inr (4, [.ref (u1 0), .ref (u2 0), .null, .int 0, .int 0, .int 0]))) 12 (.inl (cI, 2, .inl z0))) 0 (.inr (4, [.ref (u1 0), .ref (u2 0), .ref q1, .int 0, .int 0, .int 0]))) H := hP
  refine lv_aload_n hx hb dX4_init_33 rfl (lv_at hl 0 rfl) ?_
  refine g_getU hx hb hts hown inA4 hK hP 0 (by decide) (r := h0) rfl (fs := [.ref (u1 0), .ref (u2 0), .ref q1, .int 0, .int 0, .int 0]) rfl rfl 2 (by decide) tw89 rfl (v := .ref q1) rfl dX4_init_34 ?_
  refine lv_iconst (v := 0) hx hb dX4_init_37 (by decide) ?_
  refine lv_bipush (v := 15) hx hb dX4_init_38 (by decide) ?_
  refine g_iastU hx hb hK hP hE hS 12 (by decide) (r := q1) rfl (len := 2) (f := z0) rfl 0 (by decide) (by decide) (by decide) dX4_init_40 (fun H locs hP hS => ?_)
  have hP : HP D 13 (va_up (apA (apA (fun _ => h0) 1 u1) 8 u2) 12 q1) (va_up (va_up (va_up (va_up (apE (va_up (apE (fun _ => .inr (4, [.null, .null, .null, .int 0, .int 0, .int 0])) 1 (dC0 cI u1)) 0 (.inr (4, [.ref (u1 0), .null, .null, .int 0, .int 0, .int 0]))) 8 (dC5 cI u2)) 0 (.inr (4, [.ref (u1 0), .ref (u2 0), .null, .int 0, .int 0, .int 0]))) 12 (.inl (cI, 2, .inl z0))) 0 (.inr (4, [.ref (u1 0), .ref (u2 0), .ref q1, .int 0, .int 0, .int 0]))) 12 (.inl (cI, 2, .inl (upd z0 0 15)))) H := hP
  refine lv_aload_n hx hb dX4_init_41 rfl (lv_at hl 0 rfl) ?_
  refine g_getU hx hb hts hown inA4 hK hP 0 (by decide) (r := h0) rfl (fs := [.ref (u1 0), .ref (u2 0), .ref q1, .int 0, .int 0, .int 0]) rfl rfl 2 (by decide) tw89 rfl (v := .ref q1) rfl dX4_init_42 ?_
  refine lv_iconst (v := 1) hx hb dX4_init_45 (by decide) ?_
  refine lv_iconst (v := 5) hx hb dX4_init_46 (by decide) ?_
  refine g_iastU hx hb hK hP hE hS 12 (by decide) (r := q1) rfl (len := 2) (f := (upd z0 0 15)) rfl 1 (by decide) (by decide) (by decide) dX4_init_47 (fun H locs hP hS => ?_)
  have hP : HP D 13 (va_up (apA (apA (fun _ => h0) 1 u1) 8 u2) 12 q1) (va_up (va_up (va_up (va_up (va_up (apE (va_up (apE (fun _ => .inr (4, [.null, .null, .null, .int 0, .int 0, .int 0])) 1 (dC0 cI u1)) 0 (.inr (4, [.ref (u1 0), .null, .null, .int 0, .int 0, .int 0]))) 8 (dC5 cI u2)) 0 (.inr (4, [.ref (u1 0), .ref (u2 0), .null, .int 0, .int 0, .int 0]))) 12 (.inl (cI, 2, .inl z0))) 0 (.inr (4, [.ref (u1 0), .ref (u2 0), .ref q1, .int 0, .int 0, .int 0]))) 12 (.inl (cI, 2, .inl (upd z0 0 15)))) 12 (.inl (cI, 2, .inl (upd (upd z0 0 15) 1 5)))) H := hP
  refine c_vr (f := (fun u => stC cI u 0 s0)) hx hb hr hlocks hS (va_up (apA (apA (fun _ => h0) 1 u1) 8 u2) 12 q1) rfl hE ?_ dX4_init_48
  refine hP.ext (fun k hk => ?_)
  match k, hk with
  | 0, _ => exact ⟨rfl, rfl⟩
  | 1, _ => exact ⟨rfl, rfl⟩
  | 2, _ => exact ⟨rfl, rfl⟩
  | 3, _ => exact ⟨rfl, rfl⟩
  | 4, _ => exact ⟨rfl, rfl⟩
  | 5, _ => exact ⟨rfl, rfl⟩
  | 6, _ => exact ⟨rfl, rfl⟩
  | 7, _ => exact ⟨rfl, rfl⟩
  | 8, _ => exact ⟨rfl, rfl⟩
  | 9, _ => exact ⟨rfl, rfl⟩
  | 10, _ => exact ⟨rfl, rfl⟩
  | 11, _ => exact ⟨rfl, rfl⟩
  | 12, _ => exact ⟨rfl, rfl⟩
  | n + 13, hk => exact absurd hk (by omega)
