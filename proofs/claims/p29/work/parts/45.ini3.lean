def dC6 (cI cS : ClassId) (u : Nat → Nat) (k : Nat) : va_E := exC cI cS (fun j => u (pmN j)) s0 (fun _ => s0) (fun k => k) (fun _ => z0) (fun _ => z0) (pmI k)
set_option maxHeartbeats 4000000 in
set_option maxRecDepth 100000 in
theorem m_X6_init (l : Launch) (D : va_G) (cI cS : ClassId) (h0 zz : Nat) : Met l yX6_init (.code yX6_init cX6_init 1 none :: wsA) ({ frames := 4, cells := 112, slots := 742, locals := 74 } : Room) (va_Pc [.ref h0] (PI D cI cS h0 (.inr (6, [.null, .null, .int 0, .null, .null, .null])) zz)) (QI D 113 h0 zz (dC6 cI cS)) 112 742 (AI h0 zz) := by
  refine mgc (by decide) rfl (Nat.le_of_ble_eq_true rfl) ?_
  intro p e z m below meth c hx hb hr hml hown hts hlocks hin2 hB ls hl
  obtain ⟨hsz, hP, hK, hAO⟩ := hB
  subst hsz
  have hl : lv_has ls 1 [(0, .ref h0)] := hl
  have hS : va_S (AI h0 z.heap.size) z.heap z.heap [] := va_S.rf
  have hA : ∀ q, z.heap.size ≤ q → AI h0 z.heap.size q := fun _ h => Or.inr h
  have hE : DX (AI h0 z.heap.size) 1 (fun _ => h0) := ⟨fun i j hi hj _ => by omega, fun k hk => Or.inl ⟨0, by decide, rfl⟩⟩
  have hP : HP D 1 (fun _ => h0) (fun _ => .inr (6, [.null, .null, .int 0, .null, .null, .null])) z.heap := hP
  refine lv_aload_n hx hb dX6_init_0 rfl (lv_at hl 0 rfl) ?_
  refine g_obj hx hb hown hts tw19 (hl.1.trans hml.symm) dX6_init_1 ⟨(Nat.le_of_ble_eq_true rfl), (Nat.le_of_ble_eq_true rfl)⟩ ?_
  refine lv_aload_n hx hb dX6_init_4 rfl (lv_at hl 0 rfl) ?_
  refine g_mk (f := (fun u => stC cI u 0 s0)) (fs := [.null, .null, .null, .int 0, .int 0, .int 0]) (mm := 13) hx hb hts hown inA4 tyX4 tyX4_ok tw22 tw23 tw2 hK hP hE hS hA rfl (fun j hj => by revert j; exact lv_lt6 rfl rfl rfl rfl rfl rfl) (Nat.le_of_ble_eq_true rfl) (Nat.le_of_ble_eq_true rfl) dX6_init_5 dX6_init_8 (by decide) (fun q9 H9 hq9 => va_runI (As := []) (rest := [.ref q9, .ref h0]) ⟨hx, hb, hml, hown, hts⟩ (m_X4_init l D cI cS q9 _) (cwI 0 hts (gA tw26) rfl rfl rfl (hts _ tw2) (hts _ tw24) (hts _ tw25) rfl (by decide +kernel) ⟨(Nat.le_of_ble_eq_true rfl), (Nat.le_of_ble_eq_true rfl)⟩) (psI hK hAO hq9) rfl rfl hl.1 rfl (lv_room (Nat.le_of_ble_eq_true rfl)) dX6_init_9 ⟨(Nat.le_of_ble_eq_true rfl), (Nat.le_of_ble_eq_true rfl)⟩) (fun u1 H locs hP hE hS => ?_)
  have hP : HP D 14 (apA (fun _ => h0) 1 u1) (apE (fun _ => .inr (6, [.null, .null, .int 0, .null, .null, .null])) 1 ((fun u => stC cI u 0 s0) u1)) H := hP
  refine g_putFU hx hb hts hown inA6 tyX6 tyX6_ok nmX6 hin2 hK hP hE hS 0 (by decide) (r := h0) rfl (fs := [.null, .null, .int 0, .null, .null, .null]) rfl rfl 0 (by decide) tw157 rfl rfl rfl (ty := (.object "DialWardens$State")) (by decide +kernel) rfl rfl (Nat.le_of_ble_eq_true rfl) dX6_init_12 (fun H locs hP hS => ?_)
  have hP : HP D 14 (apA (fun _ => h0) 1 u1) (va_up (apE (fun _ => .inr (6, [.null, .null, .int 0, .null, .null, .null])) 1 ((fun u => stC cI u 0 s0) u1)) 0 (.inr (6, [.ref (u1 0), .null, .int 0, .null, .null, .null]))) H := hP
  refine lv_aload_n hx hb dX6_init_15 rfl (lv_at hl 0 rfl) ?_
  refine g_mk (f := (fun u => stC cI u 0 s0)) (fs := [.null, .null, .null, .int 0, .int 0, .int 0]) (mm := 13) hx hb hts hown inA4 tyX4 tyX4_ok tw22 tw23 tw2 hK hP hE hS hA rfl (fun j hj => by revert j; exact lv_lt6 rfl rfl rfl rfl rfl rfl) (Nat.le_of_ble_eq_true rfl) (Nat.le_of_ble_eq_true rfl) dX6_init_16 dX6_init_19 (by decide) (fun q9 H9 hq9 => va_runI (As := []) (rest := [.ref q9, .ref h0]) ⟨hx, hb, hml, hown, hts⟩ (m_X4_init l D cI cS q9 _) (cwI 0 hts (gA tw26) rfl rfl rfl (hts _ tw2) (hts _ tw24) (hts _ tw25) rfl (by decide +kernel) ⟨(Nat.le_of_ble_eq_true rfl), (Nat.le_of_ble_eq_true rfl)⟩) (psI hK hAO hq9) rfl rfl hl.1 rfl (lv_room (Nat.le_of_ble_eq_true rfl)) dX6_init_20 ⟨(Nat.le_of_ble_eq_true rfl), (Nat.le_of_ble_eq_true rfl)⟩) (fun u2 H locs hP hE hS => ?_)
  have hP : HP D 27 (apA (apA (fun _ => h0) 1 u1) 14 u2) (apE (va_up (apE (fun _ => .inr (6, [.null, .null, .int 0, .null, .null, .null])) 1 ((fun u => stC cI u 0 s0) u1)) 0 (.inr (6, [.ref (u1 0), .null, .int 0, .null, .null, .null]))) 14 ((fun u => stC cI u 0 s0) u2)) H := hP
  refine g_putFU hx hb hts hown inA6 tyX6 tyX6_ok nmX6 hin2 hK hP hE hS 0 (by decide) (r := h0) rfl (fs := [.ref (u1 0), .null, .int 0, .null, .null, .null]) rfl rfl 1 (by decide) tw158 rfl rfl rfl (ty := (.object "DialWardens$State")) (by decide +kernel) rfl rfl (Nat.le_of_ble_eq_true rfl) dX6_init_23 (fun H locs hP hS => ?_)
  have hP : HP D 27 (apA (apA (fun _ => h0) 1 u1) 14 u2) (va_up (apE (va_up (apE (fun _ => .inr (6, [.null, .null, .int 0, .null, .null, .null])) 1 ((fun u => stC cI u 0 s0) u1)) 0 (.inr (6, [.ref (u1 0), .null, .int 0, .null, .null, .null]))) 14 ((fun u => stC cI u 0 s0) u2)) 0 (.inr (6, [.ref (u1 0), .ref (u2 0), .int 0, .null, .null, .null]))) H := hP
  refine lv_aload_n hx hb dX6_init_26 rfl (lv_at hl 0 rfl) ?_
  refine lv_iconst (v := 0) hx hb dX6_init_27 (by decide) ?_
  refine g_putU hx hb hts hown inA6 tyX6 tyX6_ok nmX6 hK hP hE hS 0 (by decide) (r := h0) rfl (fs := [.ref (u1 0), .ref (u2 0), .int 0, .null, .null, .null]) rfl rfl 2 (by decide) tw159 rfl rfl (ty := .boolean) (by decide +kernel) rfl rfl (Nat.le_of_ble_eq_true rfl) dX6_init_28 (fun H locs hP hS => ?_)
  have hP : HP D 27 (apA (apA (fun _ => h0) 1 u1) 14 u2) (va_up (va_up (apE (va_up (apE (fun _ => .inr (6, [.null, .null, .int 0, .null, .null, .null])) 1 ((fun u => stC cI u 0 s0) u1)) 0 (.inr (6, [.ref (u1 0), .null, .int 0, .null, .null, .null]))) 14 ((fun u => stC cI u 0 s0) u2)) 0 (.inr (6, [.ref (u1 0), .ref (u2 0), .int 0, .null, .null, .null]))) 0 (.inr (6, [.ref (u1 0), .ref (u2 0), .int 0, .null, .null, .null]))) H := hP
  refine lv_aload_n hx hb dX6_init_31 rfl (lv_at hl 0 rfl) ?_
  refine g_mk (f := dC1 cI cS) (fs := [.null, .int 0]) (mm := 80) hx hb hts hown inA1 tyX1 tyX1_ok tw110 tw111 tw5 hK hP hE hS hA rfl (fun j hj => by revert j; exact lv_lt2 rfl rfl) (Nat.le_of_ble_eq_true rfl) (Nat.le_of_ble_eq_true rfl) dX6_init_32 dX6_init_35 (by decide) (fun q9 H9 hq9 => va_runI (As := []) (rest := [.ref q9, .ref h0]) ⟨hx, hb, hml, hown, hts⟩ (m_X1_init l D cI cS q9 _) (cwI 0 hts (gA tw114) rfl rfl rfl (hts _ tw5) (hts _ tw112) (hts _ tw113) rfl (by decide +kernel) ⟨(Nat.le_of_ble_eq_true rfl), (Nat.le_of_ble_eq_true rfl)⟩) (psI hK hAO hq9) rfl rfl hl.1 rfl (lv_room (Nat.le_of_ble_eq_true rfl)) dX6_init_36 ⟨(Nat.le_of_ble_eq_true rfl), (Nat.le_of_ble_eq_true rfl)⟩) (fun u3 H locs hP hE hS => ?_)
  have hP : HP D 107 (apA (apA (apA (fun _ => h0) 1 u1) 14 u2) 27 u3) (apE (va_up (va_up (apE (va_up (apE (fun _ => .inr (6, [.null, .null, .int 0, .null, .null, .null])) 1 ((fun u => stC cI u 0 s0) u1)) 0 (.inr (6, [.ref (u1 0), .null, .int 0, .null, .null, .null]))) 14 ((fun u => stC cI u 0 s0) u2)) 0 (.inr (6, [.ref (u1 0), .ref (u2 0), .int 0, .null, .null, .null]))) 0 (.inr (6, [.ref (u1 0), .ref (u2 0), .int 0, .null, .null, .null]))) 27 (dC1 cI cS u3)) H := hP
  refine g_putFU hx hb hts hown inA6 tyX6 tyX6_ok nmX6 hin2 hK hP hE hS 0 (by decide) (r := h0) rfl (fs := [.ref (u1 0), .ref (u2 0), .int 0, .null, .null, .null]) rfl rfl 3 (by decide) tw160 rfl rfl rfl (ty := (.object "DialWardens$History")) (by decide +kernel) rfl rfl (Nat.le_of_ble_eq_true rfl) dX6_init_39 (fun H locs hP hS => ?_)
  have hP : HP D 107 (apA (apA (apA (fun _ => h0) 1 u1) 14 u2) 27 u3) (va_up (apE (va_up (va_up (apE (va_up (apE (fun _ => .inr (6, [.null, .null, .int 0, .null, .null, .null])) 1 ((fun u => stC cI u 0 s0) u1)) 0 (.inr (6, [.ref (u1 0), .null, .int 0, .null, .null, .null]))) 14 ((fun u => stC cI u 0 s0) u2)) 0 (.inr (6, [.ref (u1 0), .ref (u2 0), .int 0, .null, .null, .null]))) 0 (.inr (6, [.ref (u1 0), .ref (u2 0), .int 0, .null, .null, .null]))) 27 (dC1 cI cS u3)) 0 (.inr (6, [.ref (u1 0), .ref (u2 0), .int 0, .ref (u3 0), .null, .null]))) H := hP
  refine lv_aload_n hx hb dX6_init_42 rfl (lv_at hl 0 rfl) ?_
  refine g_mk (f := dC2 cI) (fs := [.null, .int 0]) (mm := 2) hx hb hts hown inA2 tyX2 tyX2_ok tw127 tw128 tw6 hK hP hE hS hA rfl (fun j hj => by revert j; exact lv_lt2 rfl rfl) (Nat.le_of_ble_eq_true rfl) (Nat.le_of_ble_eq_true rfl) dX6_init_43 dX6_init_46 (by decide) (fun q9 H9 hq9 => va_runIN (As := []) (rest := [.ref q9, .ref h0]) ⟨hx, hb, hml, hown, hts⟩ (m_X2_init l D cI cS q9 _) ⟨va_cnB 0 hts (gA tw131) rfl rfl rfl (hK.2 _ tn129) (hts _ tw6) (by decide +kernel) ⟨(Nat.le_of_ble_eq_true rfl), (Nat.le_of_ble_eq_true rfl)⟩, rfl, hts _ tw130⟩ (psI hK hAO hq9) rfl rfl hl.1 rfl (lv_room (Nat.le_of_ble_eq_true rfl)) dX6_init_47 ⟨(Nat.le_of_ble_eq_true rfl), (Nat.le_of_ble_eq_true rfl)⟩) (fun u4 H locs hP hE hS => ?_)
  have hP : HP D 109 (apA (apA (apA (apA (fun _ => h0) 1 u1) 14 u2) 27 u3) 107 u4) (apE (va_up (apE (va_up (va_up (apE (va_up (apE (fun _ => .inr (6, [.null, .null, .int 0, .null, .null, .null])) 1 ((fun u => stC cI u 0 s0) u1)) 0 (.inr (6, [.ref (u1 0), .null, .int 0, .null, .null, .null]))) 14 ((fun u => stC cI u 0 s0) u2)) 0 (.inr (6, [.ref (u1 0), .ref (u2 0), .int 0, .null, .null, .null]))) 0 (.inr (6, [.ref (u1 0), .ref (u2 0), .int 0, .null, .null, .null]))) 27 (dC1 cI cS u3)) 0 (.inr (6, [.ref (u1 0), .ref (u2 0), .int 0, .ref (u3 0), .null, .null]))) 107 (dC2 cI u4)) H := hP
  refine g_putFU hx hb hts hown inA6 tyX6 tyX6_ok nmX6 hin2 hK hP hE hS 0 (by decide) (r := h0) rfl (fs := [.ref (u1 0), .ref (u2 0), .int 0, .ref (u3 0), .null, .null]) rfl rfl 4 (by decide) tw161 rfl rfl rfl (ty := (.object "DialWardens$Orders")) (by decide +kernel) rfl rfl (Nat.le_of_ble_eq_true rfl) dX6_init_50 (fun H locs hP hS => ?_)
  have hP : HP D 109 (apA (apA (apA (apA (fun _ => h0) 1 u1) 14 u2) 27 u3) 107 u4) (va_up (apE (va_up (apE (va_up (va_up (apE (va_up (apE (fun _ => .inr (6, [.null, .null, .int 0, .null, .null, .null])) 1 ((fun u => stC cI u 0 s0) u1)) 0 (.inr (6, [.ref (u1 0), .null, .int 0, .null, .null, .null]))) 14 ((fun u => stC cI u 0 s0) u2)) 0 (.inr (6, [.ref (u1 0), .ref (u2 0), .int 0, .null, .null, .null]))) 0 (.inr (6, [.ref (u1 0), .ref (u2 0), .int 0, .null, .null, .null]))) 27 (dC1 cI cS u3)) 0 (.inr (6, [.ref (u1 0), .ref (u2 0), .int 0, .ref (u3 0), .null, .null]))) 107 (dC2 cI u4)) 0 (.inr (6, [.ref (u1 0), .ref (u2 0), .int 0, .ref (u3 0), .ref (u4 0), .null]))) H := hP
  refine lv_aload_n hx hb dX6_init_53 rfl (lv_at hl 0 rfl) ?_
  refine g_mk (f := dC3 cI) (fs := [.null, .null, .null]) (mm := 4) hx hb hts hown inA3 tyX3 tyX3_ok tw139 tw140 tw7 hK hP hE hS hA rfl (fun j hj => by revert j; exact lv_lt3 rfl rfl rfl) (Nat.le_of_ble_eq_true rfl) (Nat.le_of_ble_eq_true rfl) dX6_init_54 dX6_init_57 (by decide) (fun q9 H9 hq9 => va_runIN (As := []) (rest := [.ref q9, .ref h0]) ⟨hx, hb, hml, hown, hts⟩ (m_X3_init l D cI cS q9 _) ⟨va_cnB 0 hts (gA tw143) rfl rfl rfl (hK.2 _ tn141) (hts _ tw7) (by decide +kernel) ⟨(Nat.le_of_ble_eq_true rfl), (Nat.le_of_ble_eq_true rfl)⟩, rfl, hts _ tw142⟩ (psI hK hAO hq9) rfl rfl hl.1 rfl (lv_room (Nat.le_of_ble_eq_true rfl)) dX6_init_58 ⟨(Nat.le_of_ble_eq_true rfl), (Nat.le_of_ble_eq_true rfl)⟩) (fun u5 H locs hP hE hS => ?_)
  have hP : HP D 113 (apA (apA (apA (apA (apA (fun _ => h0) 1 u1) 14 u2) 27 u3) 107 u4) 109 u5) (apE (va_up (apE (va_up (apE (va_up (va_up (apE (va_up (apE (fun _ => .inr (6, [.null, .null, .int 0, .null, .null, .null])) 1 ((fun u => stC cI u 0 s0) u1)) 0 (.inr (6, [.ref (u1 0), .null, .int 0, .null, .null, .null]))) 14 ((fun u => stC cI u 0 s0) u2)) 0 (.inr (6, [.ref (u1 0), .ref (u2 0), .int 0, .null, .null, .null]))) 0 (.inr (6, [.ref (u1 0), .ref (u2 0), .int 0, .null, .null, .null]))) 27 (dC1 cI cS u3)) 0 (.inr (6, [.ref (u1 0), .ref (u2 0), .int 0, .ref (u3 0), .null, .null]))) 107 (dC2 cI u4)) 0 (.inr (6, [.ref (u1 0), .ref (u2 0), .int 0, .ref (u3 0), .ref (u4 0), .null]))) 109 (dC3 cI u5)) H := hP
  refine g_putFU hx hb hts hown inA6 tyX6 tyX6_ok nmX6 hin2 hK hP hE hS 0 (by decide) (r := h0) rfl (fs := [.ref (u1 0), .ref (u2 0), .int 0, .ref (u3 0), .ref (u4 0), .null]) rfl rfl 5 (by decide) tw162 rfl rfl rfl (ty := (.object "DialWardens$Poll")) (by decide +kernel) rfl rfl (Nat.le_of_ble_eq_true rfl) dX6_init_61 (fun H locs hP hS => ?_)
  have hP : HP D 113 (apA (apA (apA (apA (apA (fun _ => h0) 1 u1) 14 u2) 27 u3) 107 u4) 109 u5) (va_up (apE (va_up (apE (va_up (apE (va_up (va_up (apE (va_up (apE (fun _ => .inr (6, [.null, .null, .int 0, .null, .null, .null])) 1 ((fun u => stC cI u 0 s0) u1)) 0 (.inr (6, [.ref (u1 0), .null, .int 0, .null, .null, .null]))) 14 ((fun u => stC cI u 0 s0) u2)) 0 (.inr (6, [.ref (u1 0), .ref (u2 0), .int 0, .null, .null, .null]))) 0 (.inr (6, [.ref (u1 0), .ref (u2 0), .int 0, .null, .null, .null]))) 27 (dC1 cI cS u3)) 0 (.inr (6, [.ref (u1 0), .ref (u2 0), .int 0, .ref (u3 0), .null, .null]))) 107 (dC2 cI u4)) 0 (.inr (6, [.ref (u1 0), .ref (u2 0), .int 0, .ref (u3 0), .ref (u4 0), .null]))) 109 (dC3 cI u5)) 0 (.inr (6, [.ref (u1 0), .ref (u2 0), .int 0, .ref (u3 0), .ref (u4 0), .ref (u5 0)]))) H := hP
  have hP : HP D 113 (apA (apA (apA (apA (apA (fun _ => h0) 1 u1) 14 u2) 27 u3) 107 u4) 109 u5) (dC6 cI cS (apA (apA (apA (apA (apA (fun _ => h0) 1 u1) 14 u2) 27 u3) 107 u4) 109 u5)) H := by
    intro k hk
    have h9 := hP k hk
    match k, hk, h9 with
    | 0, _, h9 => exact h9
    | 1, _, h9 => exact h9
    | 2, _, h9 => exact h9
    | 3, _, h9 => exact h9
    | 4, _, h9 => exact h9
    | 5, _, h9 => exact h9
    | 6, _, h9 => exact h9
    | 7, _, h9 => exact h9
    | 8, _, h9 => exact h9
    | 9, _, h9 => exact h9
    | 10, _, h9 => exact h9
    | 11, _, h9 => exact h9
    | 12, _, h9 => exact h9
    | 13, _, h9 => exact h9
    | 14, _, h9 => exact h9
    | 15, _, h9 => exact h9
    | 16, _, h9 => exact h9
    | 17, _, h9 => exact h9
    | 18, _, h9 => exact h9
    | 19, _, h9 => exact h9
    | 20, _, h9 => exact h9
    | 21, _, h9 => exact h9
    | 22, _, h9 => exact h9
    | 23, _, h9 => exact h9
    | 24, _, h9 => exact h9
    | 25, _, h9 => exact h9
    | 26, _, h9 => exact h9
    | 27, _, h9 => exact h9
    | 28, _, h9 =>
      have h8 : H[(apA (apA (apA (apA (apA (fun _ => h0) 1 u1) 14 u2) 27 u3) 107 u4) 109 u5) 28]? = some (vp_cell cS (6, .inr (.inr (.inr (.inr (va_up (va_up (va_up (va_up (va_up (va_up (fun _ => none) 0 (some (u3 2))) 1 (some (u3 15))) 2 (some (u3 28))) 3 (some (u3 41))) 4 (some (u3 54))) 5 (some (u3 67)))))))) := h9
      rw [cell_congq (g := fun k => some (u3 (2 + 13 * k))) (lv_lt6 rfl rfl rfl rfl rfl rfl)] at h8
      have h7 : vp_cell cS (6, .inr (.inr (.inr (.inr (fun k => some (u3 (2 + 13 * k))))))) = vp_cell cS (6, .inr (.inr (.inr (.inr (fun k => some ((apA (apA (apA (apA (apA (fun _ => h0) 1 u1) 14 u2) 27 u3) 107 u4) 109 u5) (pmN (13 * (k + 2))))))))) := cell_congq (lv_lt6 rfl rfl rfl rfl rfl rfl)
      rw [h7] at h8
      exact h8
    | 29, _, h9 => exact h9
    | 30, _, h9 => exact h9
    | 31, _, h9 => exact h9
    | 32, _, h9 => exact h9
    | 33, _, h9 => exact h9
    | 34, _, h9 => exact h9
    | 35, _, h9 => exact h9
    | 36, _, h9 => exact h9
    | 37, _, h9 => exact h9
    | 38, _, h9 => exact h9
    | 39, _, h9 => exact h9
    | 40, _, h9 => exact h9
    | 41, _, h9 => exact h9
    | 42, _, h9 => exact h9
    | 43, _, h9 => exact h9
    | 44, _, h9 => exact h9
    | 45, _, h9 => exact h9
    | 46, _, h9 => exact h9
    | 47, _, h9 => exact h9
    | 48, _, h9 => exact h9
    | 49, _, h9 => exact h9
    | 50, _, h9 => exact h9
    | 51, _, h9 => exact h9
    | 52, _, h9 => exact h9
    | 53, _, h9 => exact h9
    | 54, _, h9 => exact h9
    | 55, _, h9 => exact h9
    | 56, _, h9 => exact h9
    | 57, _, h9 => exact h9
    | 58, _, h9 => exact h9
    | 59, _, h9 => exact h9
    | 60, _, h9 => exact h9
    | 61, _, h9 => exact h9
    | 62, _, h9 => exact h9
    | 63, _, h9 => exact h9
    | 64, _, h9 => exact h9
    | 65, _, h9 => exact h9
    | 66, _, h9 => exact h9
    | 67, _, h9 => exact h9
    | 68, _, h9 => exact h9
    | 69, _, h9 => exact h9
    | 70, _, h9 => exact h9
    | 71, _, h9 => exact h9
    | 72, _, h9 => exact h9
    | 73, _, h9 => exact h9
    | 74, _, h9 => exact h9
    | 75, _, h9 => exact h9
    | 76, _, h9 => exact h9
    | 77, _, h9 => exact h9
    | 78, _, h9 => exact h9
    | 79, _, h9 => exact h9
    | 80, _, h9 => exact h9
    | 81, _, h9 => exact h9
    | 82, _, h9 => exact h9
    | 83, _, h9 => exact h9
    | 84, _, h9 => exact h9
    | 85, _, h9 => exact h9
    | 86, _, h9 => exact h9
    | 87, _, h9 => exact h9
    | 88, _, h9 => exact h9
    | 89, _, h9 => exact h9
    | 90, _, h9 => exact h9
    | 91, _, h9 => exact h9
    | 92, _, h9 => exact h9
    | 93, _, h9 => exact h9
    | 94, _, h9 => exact h9
    | 95, _, h9 => exact h9
    | 96, _, h9 => exact h9
    | 97, _, h9 => exact h9
    | 98, _, h9 => exact h9
    | 99, _, h9 => exact h9
    | 100, _, h9 => exact h9
    | 101, _, h9 => exact h9
    | 102, _, h9 => exact h9
    | 103, _, h9 => exact h9
    | 104, _, h9 => exact h9
    | 105, _, h9 => exact h9
    | 106, _, h9 => exact h9
    | 107, _, h9 => exact h9
    | 108, _, h9 => exact h9
    | 109, _, h9 => exact h9
    | 110, _, h9 => exact h9
    | 111, _, h9 => exact h9
    | 112, _, h9 => exact h9
    | n + 113, hk, _ => exact absurd hk (by omega)
  refine c_vr (f := dC6 cI cS) hx hb hr hlocks hS (apA (apA (apA (apA (apA (fun _ => h0) 1 u1) 14 u2) 27 u3) 107 u4) 109 u5) rfl hE ?_ dX6_init_64
  exact hP

