set_option maxHeartbeats 4000000 in
set_option maxRecDepth 100000 in
theorem m_X1_init (l : Launch) (D : va_G) (cI cS : ClassId) (h0 zz : Nat) : Met l yX1_init (.code yX1_init cX1_init 2 none :: wsA) ({ frames := 3, cells := 79, slots := 492, locals := 53 } : Room) (va_Pc [.ref h0] (PI D cI cS h0 (.inr (1, [.null, .int 0])) zz)) (QI D 80 h0 zz (dC1 cI cS)) 79 492 (AI h0 zz) := by
  refine mgc (by decide) rfl (Nat.le_of_ble_eq_true rfl) ?_
  intro p e z m below meth c hx hb hr hml hown hts hlocks hin2 hB ls hl
  obtain ⟨hsz, hP, hK, hAO⟩ := hB
  subst hsz
  have hl : lv_has ls 2 [(0, .ref h0)] := hl
  have hS : va_S (AI h0 z.heap.size) z.heap z.heap [] := va_S.rf
  have hA : ∀ q, z.heap.size ≤ q → AI h0 z.heap.size q := fun _ h => Or.inr h
  have hE : DX (AI h0 z.heap.size) 1 (fun _ => h0) := ⟨fun i j hi hj _ => by omega, fun k hk => Or.inl ⟨0, by decide, rfl⟩⟩
  have hP : HP D 1 (fun _ => h0) (fun _ => .inr (1, [.null, .int 0])) z.heap := hP
  refine lv_aload_n hx hb dX1_init_0 rfl (lv_at hl 0 rfl) ?_
  refine g_obj hx hb hown hts tw115 (hl.1.trans hml.symm) dX1_init_1 ⟨(Nat.le_of_ble_eq_true rfl), (Nat.le_of_ble_eq_true rfl)⟩ ?_
  refine lv_aload_n hx hb dX1_init_4 rfl (lv_at hl 0 rfl) ?_
  refine lv_bipush (v := 6) hx hb dX1_init_5 (by decide) ?_
  refine g_newqU hx hb hts hown tw116 hAO hK hP hE hS hA (len := 6) (by decide) (by decide) (by decide) (Nat.le_of_ble_eq_true rfl) (Nat.le_of_ble_eq_true rfl) dX1_init_7 (fun q1 H hP hE hS => ?_)
  have hP : HP D 2 (va_up (fun _ => h0) 1 q1) (va_up (fun _ => .inr (1, [.null, .int 0])) 1 (.inl (cS, 6, .inr (.inr (.inr (.inr (fun _ => none))))))) H := hP
  refine g_putFU hx hb hts hown inA1 tyX1 tyX1_ok nmX1 hin2 hK hP hE hS 0 (by decide) (r := h0) rfl (fs := [.null, .int 0]) rfl rfl 0 (by decide) tw119 rfl rfl rfl (ty := (.array (.object "DialWardens$State"))) (by decide +kernel) rfl rfl (Nat.le_of_ble_eq_true rfl) dX1_init_10 (fun H locs hP hS => ?_)
  have hP : HP D 2 (va_up (fun _ => h0) 1 q1) (va_up (va_up (fun _ => .inr (1, [.null, .int 0])) 1 (.inl (cS, 6, .inr (.inr (.inr (.inr (fun _ => none))))))) 0 (.inr (1, [.ref q1, .int 0]))) H := hP
  refine lv_iconst (v := 0) hx hb dX1_init_13 (by decide) ?_
  refine lv_istore_n (lv' := [(1, .int 0), (0, .ref h0)]) hx hb dX1_init_14 rfl hl (by decide) rfl (fun ls hl => ?_)
  refine lv_iload_n hx hb dX1_init_15 rfl (lv_at hl 0 rfl) ?_
  refine lv_bipush (v := 6) hx hb dX1_init_16 (by decide) ?_
  refine lv_icmp_ge (tgt := 40) hx hb dX1_init_18 (by decide) (fun h0 => absurd h0 (by decide)) (fun _ => ?_)
  refine lv_aload_n hx hb dX1_init_21 rfl (lv_at hl 1 rfl) ?_
  refine g_getU hx hb hts hown inA1 hK hP 0 (by decide) (r := h0) rfl (fs := [.ref q1, .int 0]) rfl rfl 0 (by decide) tw119 rfl (v := .ref q1) rfl dX1_init_22 ?_
  refine lv_iload_n hx hb dX1_init_25 rfl (lv_at hl 0 rfl) ?_
  refine g_mk (f := (fun u => stC cI u 0 s0)) (fs := [.null, .null, .null, .int 0, .int 0, .int 0]) (mm := 13) hx hb hts hown inA4 tyX4 tyX4_ok tw116 tw23 tw2 hK hP hE hS hA rfl (fun j hj => by revert j; exact lv_lt6 rfl rfl rfl rfl rfl rfl) (Nat.le_of_ble_eq_true rfl) (Nat.le_of_ble_eq_true rfl) dX1_init_26 dX1_init_29 (by decide) (fun q9 H9 hq9 => va_runI (As := []) (rest := [.ref q9, .int 0, .ref q1]) ⟨hx, hb, hml, hown, hts⟩ (m_X4_init l D cI cS q9 _) (cwI 0 hts (gA tw26) rfl rfl rfl (hts _ tw2) (hts _ tw118) (hts _ tw25) rfl (by decide +kernel) ⟨(Nat.le_of_ble_eq_true rfl), (Nat.le_of_ble_eq_true rfl)⟩) (psI hK hAO hq9) rfl rfl hl.1 rfl (lv_room (Nat.le_of_ble_eq_true rfl)) dX1_init_30 ⟨(Nat.le_of_ble_eq_true rfl), (Nat.le_of_ble_eq_true rfl)⟩) (fun u1 H locs hP hE hS => ?_)
  have hP : HP D 15 (apA (va_up (fun _ => h0) 1 q1) 2 u1) (apE (va_up (va_up (fun _ => .inr (1, [.null, .int 0])) 1 (.inl (cS, 6, .inr (.inr (.inr (.inr (fun _ => none))))))) 0 (.inr (1, [.ref q1, .int 0]))) 2 ((fun u => stC cI u 0 s0) u1)) H := hP
  refine g_astqU hx hb hK hP hE hS 1 (by decide) (r := q1) rfl (len := 6) (f := (fun _ => none)) rfl 2 (by decide) (r2 := u1 0) rfl rfl 0 (by decide) (by decide) (by decide) dX1_init_33 (fun H locs hP hS => ?_)
  have hP : HP D 15 (apA (va_up (fun _ => h0) 1 q1) 2 u1) (va_up (apE (va_up (va_up (fun _ => .inr (1, [.null, .int 0])) 1 (.inl (cS, 6, .inr (.inr (.inr (.inr (fun _ => none))))))) 0 (.inr (1, [.ref q1, .int 0]))) 2 ((fun u => stC cI u 0 s0) u1)) 1 (.inl (cS, 6, .inr (.inr (.inr (.inr (va_up (fun _ => none) 0 (some (u1 0))))))))) H := hP
  refine lv_iinc (v := 1) (lv' := [(1, .int 1), (0, .ref h0)]) hx hb dX1_init_34 hl (k := 0) rfl (by decide) (by decide) rfl (fun ls hl => ?_)
  refine lv_goto (tgt := 15) hx hb dX1_init_37 (by decide) ?_
  refine lv_iload_n hx hb dX1_init_15 rfl (lv_at hl 0 rfl) ?_
  refine lv_bipush (v := 6) hx hb dX1_init_16 (by decide) ?_
  refine lv_icmp_ge (tgt := 40) hx hb dX1_init_18 (by decide) (fun h0 => absurd h0 (by decide)) (fun _ => ?_)
  refine lv_aload_n hx hb dX1_init_21 rfl (lv_at hl 1 rfl) ?_
  refine g_getU hx hb hts hown inA1 hK hP 0 (by decide) (r := h0) rfl (fs := [.ref q1, .int 0]) rfl rfl 0 (by decide) tw119 rfl (v := .ref q1) rfl dX1_init_22 ?_
  refine lv_iload_n hx hb dX1_init_25 rfl (lv_at hl 0 rfl) ?_
  refine g_mk (f := (fun u => stC cI u 0 s0)) (fs := [.null, .null, .null, .int 0, .int 0, .int 0]) (mm := 13) hx hb hts hown inA4 tyX4 tyX4_ok tw116 tw23 tw2 hK hP hE hS hA rfl (fun j hj => by revert j; exact lv_lt6 rfl rfl rfl rfl rfl rfl) (Nat.le_of_ble_eq_true rfl) (Nat.le_of_ble_eq_true rfl) dX1_init_26 dX1_init_29 (by decide) (fun q9 H9 hq9 => va_runI (As := []) (rest := [.ref q9, .int 1, .ref q1]) ⟨hx, hb, hml, hown, hts⟩ (m_X4_init l D cI cS q9 _) (cwI 0 hts (gA tw26) rfl rfl rfl (hts _ tw2) (hts _ tw118) (hts _ tw25) rfl (by decide +kernel) ⟨(Nat.le_of_ble_eq_true rfl), (Nat.le_of_ble_eq_true rfl)⟩) (psI hK hAO hq9) rfl rfl hl.1 rfl (lv_room (Nat.le_of_ble_eq_true rfl)) dX1_init_30 ⟨(Nat.le_of_ble_eq_true rfl), (Nat.le_of_ble_eq_true rfl)⟩) (fun u2 H locs hP hE hS => ?_)
  have hP : HP D 28 (apA (apA (va_up (fun _ => h0) 1 q1) 2 u1) 15 u2) (apE (va_up (apE (va_up (va_up (fun _ => .inr (1, [.null, .int 0])) 1 (.inl (cS, 6, .inr (.inr (.inr (.inr (fun _ => none))))))) 0 (.inr (1, [.ref q1, .int 0]))) 2 ((fun u => stC cI u 0 s0) u1)) 1 (.inl (cS, 6, .inr (.inr (.inr (.inr (va_up (fun _ => none) 0 (some (u1 0))))))))) 15 ((fun u => stC cI u 0 s0) u2)) H := hP
  refine g_astqU hx hb hK hP hE hS 1 (by decide) (r := q1) rfl (len := 6) (f := (va_up (fun _ => none) 0 (some (u1 0)))) rfl 15 (by decide) (r2 := u2 0) rfl rfl 1 (by decide) (by decide) (by decide) dX1_init_33 (fun H locs hP hS => ?_)
  have hP : HP D 28 (apA (apA (va_up (fun _ => h0) 1 q1) 2 u1) 15 u2) (va_up (apE (va_up (apE (va_up (va_up (fun _ => .inr (1, [.null, .int 0])) 1 (.inl (cS, 6, .inr (.inr (.inr (.inr (fun _ => none))))))) 0 (.inr (1, [.ref q1, .int 0]))) 2 ((fun u => stC cI u 0 s0) u1)) 1 (.inl (cS, 6, .inr (.inr (.inr (.inr (va_up (fun _ => none) 0 (some (u1 0))))))))) 15 ((fun u => stC cI u 0 s0) u2)) 1 (.inl (cS, 6, .inr (.inr (.inr (.inr (va_up (va_up (fun _ => none) 0 (some (u1 0))) 1 (some (u2 0))))))))) H := hP
  refine lv_iinc (v := 2) (lv' := [(1, .int 2), (0, .ref h0)]) hx hb dX1_init_34 hl (k := 0) rfl (by decide) (by decide) rfl (fun ls hl => ?_)
  refine lv_goto (tgt := 15) hx hb dX1_init_37 (by decide) ?_
  refine lv_iload_n hx hb dX1_init_15 rfl (lv_at hl 0 rfl) ?_
  refine lv_bipush (v := 6) hx hb dX1_init_16 (by decide) ?_
  refine lv_icmp_ge (tgt := 40) hx hb dX1_init_18 (by decide) (fun h0 => absurd h0 (by decide)) (fun _ => ?_)
  refine lv_aload_n hx hb dX1_init_21 rfl (lv_at hl 1 rfl) ?_
  refine g_getU hx hb hts hown inA1 hK hP 0 (by decide) (r := h0) rfl (fs := [.ref q1, .int 0]) rfl rfl 0 (by decide) tw119 rfl (v := .ref q1) rfl dX1_init_22 ?_
  refine lv_iload_n hx hb dX1_init_25 rfl (lv_at hl 0 rfl) ?_
  refine g_mk (f := (fun u => stC cI u 0 s0)) (fs := [.null, .null, .null, .int 0, .int 0, .int 0]) (mm := 13) hx hb hts hown inA4 tyX4 tyX4_ok tw116 tw23 tw2 hK hP hE hS hA rfl (fun j hj => by revert j; exact lv_lt6 rfl rfl rfl rfl rfl rfl) (Nat.le_of_ble_eq_true rfl) (Nat.le_of_ble_eq_true rfl) dX1_init_26 dX1_init_29 (by decide) (fun q9 H9 hq9 => va_runI (As := []) (rest := [.ref q9, .int 2, .ref q1]) ⟨hx, hb, hml, hown, hts⟩ (m_X4_init l D cI cS q9 _) (cwI 0 hts (gA tw26) rfl rfl rfl (hts _ tw2) (hts _ tw118) (hts _ tw25) rfl (by decide +kernel) ⟨(Nat.le_of_ble_eq_true rfl), (Nat.le_of_ble_eq_true rfl)⟩) (psI hK hAO hq9) rfl rfl hl.1 rfl (lv_room (Nat.le_of_ble_eq_true rfl)) dX1_init_30 ⟨(Nat.le_of_ble_eq_true rfl), (Nat.le_of_ble_eq_true rfl)⟩) (fun u3 H locs hP hE hS => ?_)
  have hP : HP D 41 (apA (apA (apA (va_up (fun _ => h0) 1 q1) 2 u1) 15 u2) 28 u3) (apE (va_up (apE (va_up (apE (va_up (va_up (fun _ => .inr (1, [.null, .int 0])) 1 (.inl (cS, 6, .inr (.inr (.inr (.inr (fun _ => none))))))) 0 (.inr (1, [.ref q1, .int 0]))) 2 ((fun u => stC cI u 0 s0) u1)) 1 (.inl (cS, 6, .inr (.inr (.inr (.inr (va_up (fun _ => none) 0 (some (u1 0))))))))) 15 ((fun u => stC cI u 0 s0) u2)) 1 (.inl (cS, 6, .inr (.inr (.inr (.inr (va_up (va_up (fun _ => none) 0 (some (u1 0))) 1 (some (u2 0))))))))) 28 ((fun u => stC cI u 0 s0) u3)) H := hP
  refine g_astqU hx hb hK hP hE hS 1 (by decide) (r := q1) rfl (len := 6) (f := (va_up (va_up (fun _ => none) 0 (some (u1 0))) 1 (some (u2 0)))) rfl 28 (by decide) (r2 := u3 0) rfl rfl 2 (by decide) (by decide) (by decide) dX1_init_33 (fun H locs hP hS => ?_)
  have hP : HP D 41 (apA (apA (apA (va_up (fun _ => h0) 1 q1) 2 u1) 15 u2) 28 u3) (va_up (apE (va_up (apE (va_up (apE (va_up (va_up (fun _ => .inr (1, [.null, .int 0])) 1 (.inl (cS, 6, .inr (.inr (.inr (.inr (fun _ => none))))))) 0 (.inr (1, [.ref q1, .int 0]))) 2 ((fun u => stC cI u 0 s0) u1)) 1 (.inl (cS, 6, .inr (.inr (.inr (.inr (va_up (fun _ => none) 0 (some (u1 0))))))))) 15 ((fun u => stC cI u 0 s0) u2)) 1 (.inl (cS, 6, .inr (.inr (.inr (.inr (va_up (va_up (fun _ => none) 0 (some (u1 0))) 1 (some (u2 0))))))))) 28 ((fun u => stC cI u 0 s0) u3)) 1 (.inl (cS, 6, .inr (.inr (.inr (.inr (va_up (va_up (va_up (fun _ => none) 0 (some (u1 0))) 1 (some (u2 0))) 2 (some (u3 0))))))))) H := hP
  refine lv_iinc (v := 3) (lv' := [(1, .int 3), (0, .ref h0)]) hx hb dX1_init_34 hl (k := 0) rfl (by decide) (by decide) rfl (fun ls hl => ?_)
  refine lv_goto (tgt := 15) hx hb dX1_init_37 (by decide) ?_
  refine lv_iload_n hx hb dX1_init_15 rfl (lv_at hl 0 rfl) ?_
  refine lv_bipush (v := 6) hx hb dX1_init_16 (by decide) ?_
  refine lv_icmp_ge (tgt := 40) hx hb dX1_init_18 (by decide) (fun h0 => absurd h0 (by decide)) (fun _ => ?_)
  refine lv_aload_n hx hb dX1_init_21 rfl (lv_at hl 1 rfl) ?_
  refine g_getU hx hb hts hown inA1 hK hP 0 (by decide) (r := h0) rfl (fs := [.ref q1, .int 0]) rfl rfl 0 (by decide) tw119 rfl (v := .ref q1) rfl dX1_init_22 ?_
  refine lv_iload_n hx hb dX1_init_25 rfl (lv_at hl 0 rfl) ?_
  refine g_mk (f := (fun u => stC cI u 0 s0)) (fs := [.null, .null, .null, .int 0, .int 0, .int 0]) (mm := 13) hx hb hts hown inA4 tyX4 tyX4_ok tw116 tw23 tw2 hK hP hE hS hA rfl (fun j hj => by revert j; exact lv_lt6 rfl rfl rfl rfl rfl rfl) (Nat.le_of_ble_eq_true rfl) (Nat.le_of_ble_eq_true rfl) dX1_init_26 dX1_init_29 (by decide) (fun q9 H9 hq9 => va_runI (As := []) (rest := [.ref q9, .int 3, .ref q1]) ⟨hx, hb, hml, hown, hts⟩ (m_X4_init l D cI cS q9 _) (cwI 0 hts (gA tw26) rfl rfl rfl (hts _ tw2) (hts _ tw118) (hts _ tw25) rfl (by decide +kernel) ⟨(Nat.le_of_ble_eq_true rfl), (Nat.le_of_ble_eq_true rfl)⟩) (psI hK hAO hq9) rfl rfl hl.1 rfl (lv_room (Nat.le_of_ble_eq_true rfl)) dX1_init_30 ⟨(Nat.le_of_ble_eq_true rfl), (Nat.le_of_ble_eq_true rfl)⟩) (fun u4 H locs hP hE hS => ?_)
  have hP : HP D 54 (apA (apA (apA (apA (va_up (fun _ => h0) 1 q1) 2 u1) 15 u2) 28 u3) 41 u4) (apE (va_up (apE (va_up (apE (va_up (apE (va_up (va_up (fun _ => .inr (1, [.null, .int 0])) 1 (.inl (cS, 6, .inr (.inr (.inr (.inr (fun _ => none))))))) 0 (.inr (1, [.ref q1, .int 0]))) 2 ((fun u => stC cI u 0 s0) u1)) 1 (.inl (cS, 6, .inr (.inr (.inr (.inr (va_up (fun _ => none) 0 (some (u1 0))))))))) 15 ((fun u => stC cI u 0 s0) u2)) 1 (.inl (cS, 6, .inr (.inr (.inr (.inr (va_up (va_up (fun _ => none) 0 (some (u1 0))) 1 (some (u2 0))))))))) 28 ((fun u => stC cI u 0 s0) u3)) 1 (.inl (cS, 6, .inr (.inr (.inr (.inr (va_up (va_up (va_up (fun _ => none) 0 (some (u1 0))) 1 (some (u2 0))) 2 (some (u3 0))))))))) 41 ((fun u => stC cI u 0 s0) u4)) H := hP
  refine g_astqU hx hb hK hP hE hS 1 (by decide) (r := q1) rfl (len := 6) (f := (va_up (va_up (va_up (fun _ => none) 0 (some (u1 0))) 1 (some (u2 0))) 2 (some (u3 0)))) rfl 41 (by decide) (r2 := u4 0) rfl rfl 3 (by decide) (by decide) (by decide) dX1_init_33 (fun H locs hP hS => ?_)
  have hP : HP D 54 (apA (apA (apA (apA (va_up (fun _ => h0) 1 q1) 2 u1) 15 u2) 28 u3) 41 u4) (va_up (apE (va_up (apE (va_up (apE (va_up (apE (va_up (va_up (fun _ => .inr (1, [.null, .int 0])) 1 (.inl (cS, 6, .inr (.inr (.inr (.inr (fun _ => none))))))) 0 (.inr (1, [.ref q1, .int 0]))) 2 ((fun u => stC cI u 0 s0) u1)) 1 (.inl (cS, 6, .inr (.inr (.inr (.inr (va_up (fun _ => none) 0 (some (u1 0))))))))) 15 ((fun u => stC cI u 0 s0) u2)) 1 (.inl (cS, 6, .inr (.inr (.inr (.inr (va_up (va_up (fun _ => none) 0 (some (u1 0))) 1 (some (u2 0))))))))) 28 ((fun u => stC cI u 0 s0) u3)) 1 (.inl (cS, 6, .inr (.inr (.inr (.inr (va_up (va_up (va_up (fun _ => none) 0 (some (u1 0))) 1 (some (u2 0))) 2 (some (u3 0))))))))) 41 ((fun u => stC cI u 0 s0) u4)) 1 (.inl (cS, 6, .inr (.inr (.inr (.inr (va_up (va_up (va_up (va_up (fun _ => none) 0 (some (u1 0))) 1 (some (u2 0))) 2 (some (u3 0))) 3 (some (u4 0))))))))) H := hP
  refine lv_iinc (v := 4) (lv' := [(1, .int 4), (0, .ref h0)]) hx hb dX1_init_34 hl (k := 0) rfl (by decide) (by decide) rfl (fun ls hl => ?_)
  refine lv_goto (tgt := 15) hx hb dX1_init_37 (by decide) ?_
  refine lv_iload_n hx hb dX1_init_15 rfl (lv_at hl 0 rfl) ?_
  refine lv_bipush (v := 6) hx hb dX1_init_16 (by decide) ?_
  refine lv_icmp_ge (tgt := 40) hx hb dX1_init_18 (by decide) (fun h0 => absurd h0 (by decide)) (fun _ => ?_)
  refine lv_aload_n hx hb dX1_init_21 rfl (lv_at hl 1 rfl) ?_
  refine g_getU hx hb hts hown inA1 hK hP 0 (by decide) (r := h0) rfl (fs := [.ref q1, .int 0]) rfl rfl 0 (by decide) tw119 rfl (v := .ref q1) rfl dX1_init_22 ?_
  refine lv_iload_n hx hb dX1_init_25 rfl (lv_at hl 0 rfl) ?_
  refine g_mk (f := (fun u => stC cI u 0 s0)) (fs := [.null, .null, .null, .int 0, .int 0, .int 0]) (mm := 13) hx hb hts hown inA4 tyX4 tyX4_ok tw116 tw23 tw2 hK hP hE hS hA rfl (fun j hj => by revert j; exact lv_lt6 rfl rfl rfl rfl rfl rfl) (Nat.le_of_ble_eq_true rfl) (Nat.le_of_ble_eq_true rfl) dX1_init_26 dX1_init_29 (by decide) (fun q9 H9 hq9 => va_runI (As := []) (rest := [.ref q9, .int 4, .ref q1]) ⟨hx, hb, hml, hown, hts⟩ (m_X4_init l D cI cS q9 _) (cwI 0 hts (gA tw26) rfl rfl rfl (hts _ tw2) (hts _ tw118) (hts _ tw25) rfl (by decide +kernel) ⟨(Nat.le_of_ble_eq_true rfl), (Nat.le_of_ble_eq_true rfl)⟩) (psI hK hAO hq9) rfl rfl hl.1 rfl (lv_room (Nat.le_of_ble_eq_true rfl)) dX1_init_30 ⟨(Nat.le_of_ble_eq_true rfl), (Nat.le_of_ble_eq_true rfl)⟩) (fun u5 H locs hP hE hS => ?_)
  have hP : HP D 67 (apA (apA (apA (apA (apA (va_up (fun _ => h0) 1 q1) 2 u1) 15 u2) 28 u3) 41 u4) 54 u5) (apE (va_up (apE (va_up (apE (va_up (apE (va_up (apE (va_up (va_up (fun _ => .inr (1, [.null, .int 0])) 1 (.inl (cS, 6, .inr (.inr (.inr (.inr (fun _ => none))))))) 0 (.inr (1, [.ref q1, .int 0]))) 2 ((fun u => stC cI u 0 s0) u1)) 1 (.inl (cS, 6, .inr (.inr (.inr (.inr (va_up (fun _ => none) 0 (some (u1 0))))))))) 15 ((fun u => stC cI u 0 s0) u2)) 1 (.inl (cS, 6, .inr (.inr (.inr (.inr (va_up (va_up (fun _ => none) 0 (some (u1 0))) 1 (some (u2 0))))))))) 28 ((fun u => stC cI u 0 s0) u3)) 1 (.inl (cS, 6, .inr (.inr (.inr (.inr (va_up (va_up (va_up (fun _ => none) 0 (some (u1 0))) 1 (some (u2 0))) 2 (some (u3 0))))))))) 41 ((fun u => stC cI u 0 s0) u4)) 1 (.inl (cS, 6, .inr (.inr (.inr (.inr (va_up (va_up (va_up (va_up (fun _ => none) 0 (some (u1 0))) 1 (some (u2 0))) 2 (some (u3 0))) 3 (some (u4 0))))))))) 54 ((fun u => stC cI u 0 s0) u5)) H := hP
  refine g_astqU hx hb hK hP hE hS 1 (by decide) (r := q1) rfl (len := 6) (f := (va_up (va_up (va_up (va_up (fun _ => none) 0 (some (u1 0))) 1 (some (u2 0))) 2 (some (u3 0))) 3 (some (u4 0)))) rfl 54 (by decide) (r2 := u5 0) rfl rfl 4 (by decide) (by decide) (by decide) dX1_init_33 (fun H locs hP hS => ?_)
  have hP : HP D 67 (apA (apA (apA (apA (apA (va_up (fun _ => h0) 1 q1) 2 u1) 15 u2) 28 u3) 41 u4) 54 u5) (va_up (apE (va_up (apE (va_up (apE (va_up (apE (va_up (apE (va_up (va_up (fun _ => .inr (1, [.null, .int 0])) 1 (.inl (cS, 6, .inr (.inr (.inr (.inr (fun _ => none))))))) 0 (.inr (1, [.ref q1, .int 0]))) 2 ((fun u => stC cI u 0 s0) u1)) 1 (.inl (cS, 6, .inr (.inr (.inr (.inr (va_up (fun _ => none) 0 (some (u1 0))))))))) 15 ((fun u => stC cI u 0 s0) u2)) 1 (.inl (cS, 6, .inr (.inr (.inr (.inr (va_up (va_up (fun _ => none) 0 (some (u1 0))) 1 (some (u2 0))))))))) 28 ((fun u => stC cI u 0 s0) u3)) 1 (.inl (cS, 6, .inr (.inr (.inr (.inr (va_up (va_up (va_up (fun _ => none) 0 (some (u1 0))) 1 (some (u2 0))) 2 (some (u3 0))))))))) 41 ((fun u => stC cI u 0 s0) u4)) 1 (.inl (cS, 6, .inr (.inr (.inr (.inr (va_up (va_up (va_up (va_up (fun _ => none) 0 (some (u1 0))) 1 (some (u2 0))) 2 (some (u3 0))) 3 (some (u4 0))))))))) 54 ((fun u => stC cI u 0 s0) u5)) 1 (.inl (cS, 6, .inr (.inr (.inr (.inr (va_up (va_up (va_up (va_up (va_up (fun _ => none) 0 (some (u1 0))) 1 (some (u2 0))) 2 (some (u3 0))) 3 (some (u4 0))) 4 (some (u5 0))))))))) H := hP
  refine lv_iinc (v := 5) (lv' := [(1, .int 5), (0, .ref h0)]) hx hb dX1_init_34 hl (k := 0) rfl (by decide) (by decide) rfl (fun ls hl => ?_)
  refine lv_goto (tgt := 15) hx hb dX1_init_37 (by decide) ?_
  refine lv_iload_n hx hb dX1_init_15 rfl (lv_at hl 0 rfl) ?_
  refine lv_bipush (v := 6) hx hb dX1_init_16 (by decide) ?_
  refine lv_icmp_ge (tgt := 40) hx hb dX1_init_18 (by decide) (fun h0 => absurd h0 (by decide)) (fun _ => ?_)
  refine lv_aload_n hx hb dX1_init_21 rfl (lv_at hl 1 rfl) ?_
  refine g_getU hx hb hts hown inA1 hK hP 0 (by decide) (r := h0) rfl (fs := [.ref q1, .int 0]) rfl rfl 0 (by decide) tw119 rfl (v := .ref q1) rfl dX1_init_22 ?_
  refine lv_iload_n hx hb dX1_init_25 rfl (lv_at hl 0 rfl) ?_
  refine g_mk (f := (fun u => stC cI u 0 s0)) (fs := [.null, .null, .null, .int 0, .int 0, .int 0]) (mm := 13) hx hb hts hown inA4 tyX4 tyX4_ok tw116 tw23 tw2 hK hP hE hS hA rfl (fun j hj => by revert j; exact lv_lt6 rfl rfl rfl rfl rfl rfl) (Nat.le_of_ble_eq_true rfl) (Nat.le_of_ble_eq_true rfl) dX1_init_26 dX1_init_29 (by decide) (fun q9 H9 hq9 => va_runI (As := []) (rest := [.ref q9, .int 5, .ref q1]) ⟨hx, hb, hml, hown, hts⟩ (m_X4_init l D cI cS q9 _) (cwI 0 hts (gA tw26) rfl rfl rfl (hts _ tw2) (hts _ tw118) (hts _ tw25) rfl (by decide +kernel) ⟨(Nat.le_of_ble_eq_true rfl), (Nat.le_of_ble_eq_true rfl)⟩) (psI hK hAO hq9) rfl rfl hl.1 rfl (lv_room (Nat.le_of_ble_eq_true rfl)) dX1_init_30 ⟨(Nat.le_of_ble_eq_true rfl), (Nat.le_of_ble_eq_true rfl)⟩) (fun u6 H locs hP hE hS => ?_)
  have hP : HP D 80 (apA (apA (apA (apA (apA (apA (va_up (fun _ => h0) 1 q1) 2 u1) 15 u2) 28 u3) 41 u4) 54 u5) 67 u6) (apE (va_up (apE (va_up (apE (va_up (apE (va_up (apE (va_up (apE (va_up (va_up (fun _ => .inr (1, [.null, .int 0])) 1 (.inl (cS, 6, .inr (.inr (.inr (.inr (fun _ => none))))))) 0 (.inr (1, [.ref q1, .int 0]))) 2 ((fun u => stC cI u 0 s0) u1)) 1 (.inl (cS, 6, .inr (.inr (.inr (.inr (va_up (fun _ => none) 0 (some (u1 0))))))))) 15 ((fun u => stC cI u 0 s0) u2)) 1 (.inl (cS, 6, .inr (.inr (.inr (.inr (va_up (va_up (fun _ => none) 0 (some (u1 0))) 1 (some (u2 0))))))))) 28 ((fun u => stC cI u 0 s0) u3)) 1 (.inl (cS, 6, .inr (.inr (.inr (.inr (va_up (va_up (va_up (fun _ => none) 0 (some (u1 0))) 1 (some (u2 0))) 2 (some (u3 0))))))))) 41 ((fun u => stC cI u 0 s0) u4)) 1 (.inl (cS, 6, .inr (.inr (.inr (.inr (va_up (va_up (va_up (va_up (fun _ => none) 0 (some (u1 0))) 1 (some (u2 0))) 2 (some (u3 0))) 3 (some (u4 0))))))))) 54 ((fun u => stC cI u 0 s0) u5)) 1 (.inl (cS, 6, .inr (.inr (.inr (.inr (va_up (va_up (va_up (va_up (va_up (fun _ => none) 0 (some (u1 0))) 1 (some (u2 0))) 2 (some (u3 0))) 3 (some (u4 0))) 4 (some (u5 0))))))))) 67 ((fun u => stC cI u 0 s0) u6)) H := hP
  refine g_astqU hx hb hK hP hE hS 1 (by decide) (r := q1) rfl (len := 6) (f := (va_up (va_up (va_up (va_up (va_up (fun _ => none) 0 (some (u1 0))) 1 (some (u2 0))) 2 (some (u3 0))) 3 (some (u4 0))) 4 (some (u5 0)))) rfl 67 (by decide) (r2 := u6 0) rfl rfl 5 (by decide) (by decide) (by decide) dX1_init_33 (fun H locs hP hS => ?_)
  have hP : HP D 80 (apA (apA (apA (apA (apA (apA (va_up (fun _ => h0) 1 q1) 2 u1) 15 u2) 28 u3) 41 u4) 54 u5) 67 u6) (va_up (apE (va_up (apE (va_up (apE (va_up (apE (va_up (apE (va_up (apE (va_up (va_up (fun _ => .inr (1, [.null, .int 0])) 1 (.inl (cS, 6, .inr (.inr (.inr (.inr (fun _ => none))))))) 0 (.inr (1, [.ref q1, .int 0]))) 2 ((fun u => stC cI u 0 s0) u1)) 1 (.inl (cS, 6, .inr (.inr (.inr (.inr (va_up (fun _ => none) 0 (some (u1 0))))))))) 15 ((fun u => stC cI u 0 s0) u2)) 1 (.inl (cS, 6, .inr (.inr (.inr (.inr (va_up (va_up (fun _ => none) 0 (some (u1 0))) 1 (some (u2 0))))))))) 28 ((fun u => stC cI u 0 s0) u3)) 1 (.inl (cS, 6, .inr (.inr (.inr (.inr (va_up (va_up (va_up (fun _ => none) 0 (some (u1 0))) 1 (some (u2 0))) 2 (some (u3 0))))))))) 41 ((fun u => stC cI u 0 s0) u4)) 1 (.inl (cS, 6, .inr (.inr (.inr (.inr (va_up (va_up (va_up (va_up (fun _ => none) 0 (some (u1 0))) 1 (some (u2 0))) 2 (some (u3 0))) 3 (some (u4 0))))))))) 54 ((fun u => stC cI u 0 s0) u5)) 1 (.inl (cS, 6, .inr (.inr (.inr (.inr (va_up (va_up (va_up (va_up (va_up (fun _ => none) 0 (some (u1 0))) 1 (some (u2 0))) 2 (some (u3 0))) 3 (some (u4 0))) 4 (some (u5 0))))))))) 67 ((fun u => stC cI u 0 s0) u6)) 1 (.inl (cS, 6, .inr (.inr (.inr (.inr (va_up (va_up (va_up (va_up (va_up (va_up (fun _ => none) 0 (some (u1 0))) 1 (some (u2 0))) 2 (some (u3 0))) 3 (some (u4 0))) 4 (some (u5 0))) 5 (some (u6 0))))))))) H := hP
  refine lv_iinc (v := 6) (lv' := [(1, .int 6), (0, .ref h0)]) hx hb dX1_init_34 hl (k := 0) rfl (by decide) (by decide) rfl (fun ls hl => ?_)
  refine lv_goto (tgt := 15) hx hb dX1_init_37 (by decide) ?_
  refine lv_iload_n hx hb dX1_init_15 rfl (lv_at hl 0 rfl) ?_
  refine lv_bipush (v := 6) hx hb dX1_init_16 (by decide) ?_
  refine lv_icmp_ge (tgt := 40) hx hb dX1_init_18 (by decide) (fun _ => ?_) (fun h0 => absurd (by decide) h0)
  refine c_vr (f := dC1 cI cS) hx hb hr hlocks hS (apA (apA (apA (apA (apA (apA (va_up (fun _ => h0) 1 q1) 2 u1) 15 u2) 28 u3) 41 u4) 54 u5) 67 u6) rfl hE ?_ dX1_init_40
  refine hP.ext (fun k hk => ?_)
  match k, hk with
  | 0, _ => exact ⟨rfl, rfl⟩
  | 1, _ => exact ⟨rfl, rfl⟩
  | 2, _ => exact ⟨rfl, rfl⟩
  | 3, _ => exact ⟨rfl, rfl⟩
  | 4, _ => exact ⟨rfl, rfl⟩
  | 5, _ => exact ⟨rfl, rfl⟩
  | 6, _ => exact ⟨rfl, rfl⟩
  | 7, _ => exact ⟨rfl, rfl⟩
  | 8, _ => exact ⟨rfl, rfl⟩
  | 9, _ => exact ⟨rfl, rfl⟩
  | 10, _ => exact ⟨rfl, rfl⟩
  | 11, _ => exact ⟨rfl, rfl⟩
  | 12, _ => exact ⟨rfl, rfl⟩
  | 13, _ => exact ⟨rfl, rfl⟩
  | 14, _ => exact ⟨rfl, rfl⟩
  | 15, _ => exact ⟨rfl, rfl⟩
  | 16, _ => exact ⟨rfl, rfl⟩
  | 17, _ => exact ⟨rfl, rfl⟩
  | 18, _ => exact ⟨rfl, rfl⟩
  | 19, _ => exact ⟨rfl, rfl⟩
  | 20, _ => exact ⟨rfl, rfl⟩
  | 21, _ => exact ⟨rfl, rfl⟩
  | 22, _ => exact ⟨rfl, rfl⟩
  | 23, _ => exact ⟨rfl, rfl⟩
  | 24, _ => exact ⟨rfl, rfl⟩
  | 25, _ => exact ⟨rfl, rfl⟩
  | 26, _ => exact ⟨rfl, rfl⟩
  | 27, _ => exact ⟨rfl, rfl⟩
  | 28, _ => exact ⟨rfl, rfl⟩
  | 29, _ => exact ⟨rfl, rfl⟩
  | 30, _ => exact ⟨rfl, rfl⟩
  | 31, _ => exact ⟨rfl, rfl⟩
  | 32, _ => exact ⟨rfl, rfl⟩
  | 33, _ => exact ⟨rfl, rfl⟩
  | 34, _ => exact ⟨rfl, rfl⟩
  | 35, _ => exact ⟨rfl, rfl⟩
  | 36, _ => exact ⟨rfl, rfl⟩
  | 37, _ => exact ⟨rfl, rfl⟩
  | 38, _ => exact ⟨rfl, rfl⟩
  | 39, _ => exact ⟨rfl, rfl⟩
  | 40, _ => exact ⟨rfl, rfl⟩
  | 41, _ => exact ⟨rfl, rfl⟩
  | 42, _ => exact ⟨rfl, rfl⟩
  | 43, _ => exact ⟨rfl, rfl⟩
  | 44, _ => exact ⟨rfl, rfl⟩
  | 45, _ => exact ⟨rfl, rfl⟩
  | 46, _ => exact ⟨rfl, rfl⟩
  | 47, _ => exact ⟨rfl, rfl⟩
  | 48, _ => exact ⟨rfl, rfl⟩
  | 49, _ => exact ⟨rfl, rfl⟩
  | 50, _ => exact ⟨rfl, rfl⟩
  | 51, _ => exact ⟨rfl, rfl⟩
  | 52, _ => exact ⟨rfl, rfl⟩
  | 53, _ => exact ⟨rfl, rfl⟩
  | 54, _ => exact ⟨rfl, rfl⟩
  | 55, _ => exact ⟨rfl, rfl⟩
  | 56, _ => exact ⟨rfl, rfl⟩
  | 57, _ => exact ⟨rfl, rfl⟩
  | 58, _ => exact ⟨rfl, rfl⟩
  | 59, _ => exact ⟨rfl, rfl⟩
  | 60, _ => exact ⟨rfl, rfl⟩
  | 61, _ => exact ⟨rfl, rfl⟩
  | 62, _ => exact ⟨rfl, rfl⟩
  | 63, _ => exact ⟨rfl, rfl⟩
  | 64, _ => exact ⟨rfl, rfl⟩
  | 65, _ => exact ⟨rfl, rfl⟩
  | 66, _ => exact ⟨rfl, rfl⟩
  | 67, _ => exact ⟨rfl, rfl⟩
  | 68, _ => exact ⟨rfl, rfl⟩
  | 69, _ => exact ⟨rfl, rfl⟩
  | 70, _ => exact ⟨rfl, rfl⟩
  | 71, _ => exact ⟨rfl, rfl⟩
  | 72, _ => exact ⟨rfl, rfl⟩
  | 73, _ => exact ⟨rfl, rfl⟩
  | 74, _ => exact ⟨rfl, rfl⟩
  | 75, _ => exact ⟨rfl, rfl⟩
  | 76, _ => exact ⟨rfl, rfl⟩
  | 77, _ => exact ⟨rfl, rfl⟩
  | 78, _ => exact ⟨rfl, rfl⟩
  | 79, _ => exact ⟨rfl, rfl⟩
  | n + 80, hk => exact absurd hk (by omega)
