set_option maxHeartbeats 4000000 in
set_option maxRecDepth 100000 in
theorem m_X6_copyRow (l : Launch) (D : va_G) (cI cS : ClassId) (b : Nat → Nat) (len : Nat) (f g : Nat → Int32) (hlen : len < 1000) (zz : Nat) : Met l yX6_copyRow (.code yX6_copyRow cX6_copyRow 3 none :: wsA) ({ frames := 0, cells := 0, slots := 0, locals := 0 } : Room) (va_Pc [.ref (b 0), .ref (b 1)] (PW D cI cS 2 b (ecp cI len f g) zz)) (va_Qv (fun (u : Unit) => True) (BW D 2 b (fun u => ecp cI len f f)) (AX 2 b zz)) 0 0 (AX 2 b zz) := by
  refine mgo (by decide) (Nat.le_of_ble_eq_true rfl) ?_
  intro p e z m below meth c hx hb hr hml hown hts hlocks hB ls hl
  obtain ⟨hsz, hP, hK, hE⟩ := hB
  subst hsz
  have hS : va_S (AX 2 b z.heap.size) z.heap z.heap [] := va_S.rf
  have hl : lv_has ls 3 [(0, .ref (b 0)), (1, .ref (b 1))] := hl
  refine lv_iconst (v := 0) hx hb dX6_copyRow_0 (by decide) ?_
  refine lv_istore_n (lv' := [(2, .int 0), (0, .ref (b 0)), (1, .ref (b 1))]) hx hb dX6_copyRow_1 rfl hl (by decide) rfl (fun ls hl => ?_)
  have loop2 : ∀ (fu : Nat) (j : Nat), len + 1 ≤ j + fu → (j ≤ len) → ∀ (H : Heap) (locs : List Loc), HP D 2 b (ecp cI len f (cpN f g j)) H → va_S (AX 2 b z.heap.size) z.heap H locs → ∀ ls : Array Slot, lv_has ls 3 [(0, .ref (b 0)), (1, .ref (b 1)), (2, .int (nI j))] → W p l e ({ frames := 0, cells := 0, slots := 0, locals := 0 } : Room) z m ([.ref (b 0), .ref (b 1)] : List Value).toArray below meth c H locs 0 0 (MQ below (va_Qv (fun (u : Unit) => True) (BW D 2 b (fun u => ecp cI len f f)) (AX 2 b z.heap.size)) ([.ref (b 0), .ref (b 1)] : List Value).toArray z 0 0 (AX 2 b z.heap.size)) (F0 m 2 ls []) := by
    intro fu
    induction fu with
    | zero => intro j hn hj; exact absurd hn (by omega)
    | succ fu ih2 =>
      intro j hn hj H locs hP hS ls hl
      refine lv_iload_n hx hb dX6_copyRow_2 rfl (lv_at hl 2 rfl) ?_
      refine lv_aload_n hx hb dX6_copyRow_3 rfl (lv_at hl 1 rfl) ?_
      refine g_alen hx hb hK hP 1 (by decide) rfl (v := nI len) rfl dX6_copyRow_4 ?_
      refine lv_icmp_ge (tgt := 26) hx hb dX6_copyRow_5 (by decide) (fun c1 => ?_) (fun c1 => ?_)
      · skip
        have c1x := Int32.not_lt.mpr c1
        have c1n := (nI_le2 (p := len) (q := j) rfl rfl (by omega) (by omega)).mp c1
        have c1n : len ≤ j := c1n
        have hjq : len = j := by omega
        subst hjq
        have hP := ecp_end hP
        exact rw_vr hx hb hr hlocks hS () hP trivial dX6_copyRow_26
      · skip
        have c1x := Int32.not_le.mp c1
        have c1n := fun hq0 => c1 ((nI_le2 (p := len) (q := j) rfl rfl (by omega) (by omega)).mpr hq0)
        have c1n : ¬ (len ≤ j) := c1n
        refine lv_iload_n hx hb dX6_copyRow_8 rfl (lv_at hl 2 rfl) ?_
        refine lv_aload_n hx hb dX6_copyRow_9 rfl (lv_at hl 0 rfl) ?_
        refine g_alen hx hb hK hP 0 (by decide) rfl (v := nI len) rfl dX6_copyRow_10 ?_
        refine lv_icmp_ge (tgt := 26) hx hb dX6_copyRow_11 (by decide) (fun h0 => absurd h0 (fun h => by have := (nI_le2 (p := len) (q := j) rfl rfl (by omega) (by omega)).mp h; omega)) (fun _ => ?_)
        refine lv_aload_n hx hb dX6_copyRow_14 rfl (lv_at hl 1 rfl) ?_
        refine lv_iload_n hx hb dX6_copyRow_15 rfl (lv_at hl 2 rfl) ?_
        refine lv_aload_n hx hb dX6_copyRow_16 rfl (lv_at hl 0 rfl) ?_
        refine lv_iload_n hx hb dX6_copyRow_17 rfl (lv_at hl 2 rfl) ?_
        refine g_iald hx hb hK hP 0 (by decide) rfl j rfl (by omega) (by omega) dX6_copyRow_18 (v := f j) rfl ?_
        refine g_iast hx hb hK hP hE hS 1 (by decide) rfl j rfl (by omega) (by omega) dX6_copyRow_19 (ex' := ecp cI len f (upd (cpN f g j) j (f j))) rfl ecp_o (fun H locs hP hS => ?_)
        refine lv_iinc (v := nI (j + 1)) (lv' := [(2, .int (nI (j + 1))), (0, .ref (b 0)), (1, .ref (b 1))]) hx hb dX6_copyRow_20 hl (k := 2) rfl (nI_add j 1) (by decide) rfl (fun ls hl => ?_)
        refine lv_goto (tgt := 2) hx hb dX6_copyRow_23 (by decide) ?_
        exact ih2 (j + 1) (by omega) (by omega) _ _ hP hS ls (lv_sub hl [1, 2, 0] rfl)
  exact loop2 (len + 1) 0 (by omega) (by omega) _ _ hP hS ls (lv_sub hl [1, 2, 0] rfl)

set_option maxHeartbeats 4000000 in
set_option maxRecDepth 100000 in
theorem m_X0_copyFrom (l : Launch) (D : va_G) (cI cS : ClassId) (b : Nat → Nat) (s r : St) (zz : Nat) : Met l yX0_copyFrom (.code yX0_copyFrom cX0_copyFrom 2 none :: wsA) ({ frames := 1, cells := 0, slots := 0, locals := 22 } : Room) (va_Pc [.ref (b 1), .ref (b 14)] (PW D cI cS 26 b (e2C cI b s r) zz)) (va_Qv (fun (u : Unit) => True) (BW D 26 b (fun u => e2C cI b (cpDi s r) r)) (AX 26 b zz)) 0 0 (AX 26 b zz) := by
  refine mgo (by decide) (Nat.le_of_ble_eq_true rfl) ?_
  intro p e z m below meth c hx hb hr hml hown hts hlocks hB ls hl
  obtain ⟨hsz, hP, hK, hE⟩ := hB
  subst hsz
  have hS : va_S (AX 26 b z.heap.size) z.heap z.heap [] := va_S.rf
  have hl : lv_has ls 2 [(0, .ref (b 1)), (1, .ref (b 14))] := hl
  refine lv_aload_n hx hb dX0_copyFrom_0 rfl (lv_at hl 0 rfl) ?_
  refine lv_aload_n hx hb dX0_copyFrom_1 rfl (lv_at hl 1 rfl) ?_
  refine g_get hx hb hts hown inA0 hK hP 14 (by decide) rfl rfl 0 (by decide) tw34 rfl (v := .int (r 0 0)) rfl dX0_copyFrom_2 ?_
  refine g_put hx hb hts hown inA0 tyX0 tyX0_ok nmX0 hK hP hE hS 1 (by decide) rfl rfl 0 (by decide) tw34 rfl rfl (ty := .int) (by decide +kernel) rfl rfl (Nat.le_of_ble_eq_true rfl) dX0_copyFrom_5 (ex' := e2C cI b (up2 s 0 0 (r 0 0)) r) rfl (y2C_sc (by decide)) (fun H locs hP hS => ?_)
  refine lv_aload_n hx hb dX0_copyFrom_8 rfl (lv_at hl 1 rfl) ?_
  refine g_get hx hb hts hown inA0 hK hP 14 (by decide) rfl rfl 1 (by decide) tw36 rfl (v := .ref (b 15)) rfl dX0_copyFrom_9 ?_
  refine lv_aload_n hx hb dX0_copyFrom_12 rfl (lv_at hl 0 rfl) ?_
  refine g_get hx hb hts hown inA0 hK hP 1 (by decide) rfl rfl 1 (by decide) tw36 rfl (v := .ref (b 2)) rfl dX0_copyFrom_13 ?_
  refine rw_cp (i := 15) (j := 2) (len := 7) (f := (r 1)) (ex' := e2C cI b (upR (up2 s 0 0 (r 0 0)) 1 (r 1)) r) hS hP hE (by decide) (by decide) rfl rfl (y2C_row (by decide) (by decide)) (va_runSN (As := [.ref (b 15), .ref (b 2)]) (rest := []) ⟨hx, hb, hml, hown, hts⟩ (m_X6_copyRow l D cI cS (cpa b 15 2) 7 (r 1) (s 1) (by decide) _) ⟨va_cnB 2 hts (gA tw371) rfl rfl rfl (hK.2 _ tn369) (hts _ tw1) (by decide +kernel) ⟨Nat.le_of_ble_eq_true rfl, Nat.le_of_ble_eq_true rfl⟩, hts _ tw370, trivial⟩ (ps_cp hK hP hE (i := 15) (j := 2) (len := 7) (f := (r 1)) (g := (s 1)) (by decide) (by decide) (by decide) rfl rfl) rfl rfl hl.1 rfl (lv_room (Nat.le_of_ble_eq_true rfl)) dX0_copyFrom_16 ⟨Nat.le_of_ble_eq_true rfl, Nat.le_of_ble_eq_true rfl⟩) (fun H locs hP hS => ?_)
  refine lv_aload_n hx hb dX0_copyFrom_19 rfl (lv_at hl 1 rfl) ?_
  refine g_get hx hb hts hown inA0 hK hP 14 (by decide) rfl rfl 2 (by decide) tw39 rfl (v := .ref (b 16)) rfl dX0_copyFrom_20 ?_
  refine lv_aload_n hx hb dX0_copyFrom_23 rfl (lv_at hl 0 rfl) ?_
  refine g_get hx hb hts hown inA0 hK hP 1 (by decide) rfl rfl 2 (by decide) tw39 rfl (v := .ref (b 3)) rfl dX0_copyFrom_24 ?_
  refine rw_cp (i := 16) (j := 3) (len := 7) (f := (r 2)) (ex' := e2C cI b (upR (upR (up2 s 0 0 (r 0 0)) 1 (r 1)) 2 (r 2)) r) hS hP hE (by decide) (by decide) rfl rfl (y2C_row (by decide) (by decide)) (va_runSN (As := [.ref (b 16), .ref (b 3)]) (rest := []) ⟨hx, hb, hml, hown, hts⟩ (m_X6_copyRow l D cI cS (cpa b 16 3) 7 (r 2) (s 2) (by decide) _) ⟨va_cnB 2 hts (gA tw371) rfl rfl rfl (hK.2 _ tn369) (hts _ tw1) (by decide +kernel) ⟨Nat.le_of_ble_eq_true rfl, Nat.le_of_ble_eq_true rfl⟩, hts _ tw370, trivial⟩ (ps_cp hK hP hE (i := 16) (j := 3) (len := 7) (f := (r 2)) (g := (s 2)) (by decide) (by decide) (by decide) rfl rfl) rfl rfl hl.1 rfl (lv_room (Nat.le_of_ble_eq_true rfl)) dX0_copyFrom_27 ⟨Nat.le_of_ble_eq_true rfl, Nat.le_of_ble_eq_true rfl⟩) (fun H locs hP hS => ?_)
  refine lv_aload_n hx hb dX0_copyFrom_30 rfl (lv_at hl 1 rfl) ?_
  refine g_get hx hb hts hown inA0 hK hP 14 (by decide) rfl rfl 3 (by decide) tw41 rfl (v := .ref (b 17)) rfl dX0_copyFrom_31 ?_
  refine lv_aload_n hx hb dX0_copyFrom_34 rfl (lv_at hl 0 rfl) ?_
  refine g_get hx hb hts hown inA0 hK hP 1 (by decide) rfl rfl 3 (by decide) tw41 rfl (v := .ref (b 4)) rfl dX0_copyFrom_35 ?_
  refine rw_cp (i := 17) (j := 4) (len := 7) (f := (r 3)) (ex' := e2C cI b (upR (upR (upR (up2 s 0 0 (r 0 0)) 1 (r 1)) 2 (r 2)) 3 (r 3)) r) hS hP hE (by decide) (by decide) rfl rfl (y2C_row (by decide) (by decide)) (va_runSN (As := [.ref (b 17), .ref (b 4)]) (rest := []) ⟨hx, hb, hml, hown, hts⟩ (m_X6_copyRow l D cI cS (cpa b 17 4) 7 (r 3) (s 3) (by decide) _) ⟨va_cnB 2 hts (gA tw371) rfl rfl rfl (hK.2 _ tn369) (hts _ tw1) (by decide +kernel) ⟨Nat.le_of_ble_eq_true rfl, Nat.le_of_ble_eq_true rfl⟩, hts _ tw370, trivial⟩ (ps_cp hK hP hE (i := 17) (j := 4) (len := 7) (f := (r 3)) (g := (s 3)) (by decide) (by decide) (by decide) rfl rfl) rfl rfl hl.1 rfl (lv_room (Nat.le_of_ble_eq_true rfl)) dX0_copyFrom_38 ⟨Nat.le_of_ble_eq_true rfl, Nat.le_of_ble_eq_true rfl⟩) (fun H locs hP hS => ?_)
  refine lv_aload_n hx hb dX0_copyFrom_41 rfl (lv_at hl 1 rfl) ?_
  refine g_get hx hb hts hown inA0 hK hP 14 (by decide) rfl rfl 4 (by decide) tw42 rfl (v := .ref (b 18)) rfl dX0_copyFrom_42 ?_
  refine lv_aload_n hx hb dX0_copyFrom_45 rfl (lv_at hl 0 rfl) ?_
  refine g_get hx hb hts hown inA0 hK hP 1 (by decide) rfl rfl 4 (by decide) tw42 rfl (v := .ref (b 5)) rfl dX0_copyFrom_46 ?_
  refine rw_cp (i := 18) (j := 5) (len := 7) (f := (r 4)) (ex' := e2C cI b (upR (upR (upR (upR (up2 s 0 0 (r 0 0)) 1 (r 1)) 2 (r 2)) 3 (r 3)) 4 (r 4)) r) hS hP hE (by decide) (by decide) rfl rfl (y2C_row (by decide) (by decide)) (va_runSN (As := [.ref (b 18), .ref (b 5)]) (rest := []) ⟨hx, hb, hml, hown, hts⟩ (m_X6_copyRow l D cI cS (cpa b 18 5) 7 (r 4) (s 4) (by decide) _) ⟨va_cnB 2 hts (gA tw371) rfl rfl rfl (hK.2 _ tn369) (hts _ tw1) (by decide +kernel) ⟨Nat.le_of_ble_eq_true rfl, Nat.le_of_ble_eq_true rfl⟩, hts _ tw370, trivial⟩ (ps_cp hK hP hE (i := 18) (j := 5) (len := 7) (f := (r 4)) (g := (s 4)) (by decide) (by decide) (by decide) rfl rfl) rfl rfl hl.1 rfl (lv_room (Nat.le_of_ble_eq_true rfl)) dX0_copyFrom_49 ⟨Nat.le_of_ble_eq_true rfl, Nat.le_of_ble_eq_true rfl⟩) (fun H locs hP hS => ?_)
  refine lv_aload_n hx hb dX0_copyFrom_52 rfl (lv_at hl 1 rfl) ?_
  refine g_get hx hb hts hown inA0 hK hP 14 (by decide) rfl rfl 5 (by decide) tw44 rfl (v := .ref (b 19)) rfl dX0_copyFrom_53 ?_
  refine lv_aload_n hx hb dX0_copyFrom_56 rfl (lv_at hl 0 rfl) ?_
  refine g_get hx hb hts hown inA0 hK hP 1 (by decide) rfl rfl 5 (by decide) tw44 rfl (v := .ref (b 6)) rfl dX0_copyFrom_57 ?_
  refine rw_cp (i := 19) (j := 6) (len := 7) (f := (r 5)) (ex' := e2C cI b (upR (upR (upR (upR (upR (up2 s 0 0 (r 0 0)) 1 (r 1)) 2 (r 2)) 3 (r 3)) 4 (r 4)) 5 (r 5)) r) hS hP hE (by decide) (by decide) rfl rfl (y2C_row (by decide) (by decide)) (va_runSN (As := [.ref (b 19), .ref (b 6)]) (rest := []) ⟨hx, hb, hml, hown, hts⟩ (m_X6_copyRow l D cI cS (cpa b 19 6) 7 (r 5) (s 5) (by decide) _) ⟨va_cnB 2 hts (gA tw371) rfl rfl rfl (hK.2 _ tn369) (hts _ tw1) (by decide +kernel) ⟨Nat.le_of_ble_eq_true rfl, Nat.le_of_ble_eq_true rfl⟩, hts _ tw370, trivial⟩ (ps_cp hK hP hE (i := 19) (j := 6) (len := 7) (f := (r 5)) (g := (s 5)) (by decide) (by decide) (by decide) rfl rfl) rfl rfl hl.1 rfl (lv_room (Nat.le_of_ble_eq_true rfl)) dX0_copyFrom_60 ⟨Nat.le_of_ble_eq_true rfl, Nat.le_of_ble_eq_true rfl⟩) (fun H locs hP hS => ?_)
  refine lv_aload_n hx hb dX0_copyFrom_63 rfl (lv_at hl 1 rfl) ?_
  refine g_get hx hb hts hown inA0 hK hP 14 (by decide) rfl rfl 6 (by decide) tw46 rfl (v := .ref (b 20)) rfl dX0_copyFrom_64 ?_
  refine lv_aload_n hx hb dX0_copyFrom_67 rfl (lv_at hl 0 rfl) ?_
  refine g_get hx hb hts hown inA0 hK hP 1 (by decide) rfl rfl 6 (by decide) tw46 rfl (v := .ref (b 7)) rfl dX0_copyFrom_68 ?_
  refine rw_cp (i := 20) (j := 7) (len := 7) (f := (r 6)) (ex' := e2C cI b (upR (upR (upR (upR (upR (upR (up2 s 0 0 (r 0 0)) 1 (r 1)) 2 (r 2)) 3 (r 3)) 4 (r 4)) 5 (r 5)) 6 (r 6)) r) hS hP hE (by decide) (by decide) rfl rfl (y2C_row (by decide) (by decide)) (va_runSN (As := [.ref (b 20), .ref (b 7)]) (rest := []) ⟨hx, hb, hml, hown, hts⟩ (m_X6_copyRow l D cI cS (cpa b 20 7) 7 (r 6) (s 6) (by decide) _) ⟨va_cnB 2 hts (gA tw371) rfl rfl rfl (hK.2 _ tn369) (hts _ tw1) (by decide +kernel) ⟨Nat.le_of_ble_eq_true rfl, Nat.le_of_ble_eq_true rfl⟩, hts _ tw370, trivial⟩ (ps_cp hK hP hE (i := 20) (j := 7) (len := 7) (f := (r 6)) (g := (s 6)) (by decide) (by decide) (by decide) rfl rfl) rfl rfl hl.1 rfl (lv_room (Nat.le_of_ble_eq_true rfl)) dX0_copyFrom_71 ⟨Nat.le_of_ble_eq_true rfl, Nat.le_of_ble_eq_true rfl⟩) (fun H locs hP hS => ?_)
  exact rw_vr hx hb hr hlocks hS () hP trivial dX0_copyFrom_74

set_option maxHeartbeats 4000000 in
set_option maxRecDepth 100000 in
theorem m_X5_copyFrom (l : Launch) (D : va_G) (cI cS : ClassId) (b : Nat → Nat) (s r : St) (zz : Nat) : Met l yX5_copyFrom (.code yX5_copyFrom cX5_copyFrom 2 none :: wsA) ({ frames := 1, cells := 0, slots := 0, locals := 22 } : Room) (va_Pc [.ref (b 8), .ref (b 21)] (PW D cI cS 26 b (e2C cI b s r) zz)) (va_Qv (fun (u : Unit) => True) (BW D 26 b (fun u => e2C cI b (cpWa s r) r)) (AX 26 b zz)) 0 0 (AX 26 b zz) := by
  refine mgo (by decide) (Nat.le_of_ble_eq_true rfl) ?_
  intro p e z m below meth c hx hb hr hml hown hts hlocks hB ls hl
  obtain ⟨hsz, hP, hK, hE⟩ := hB
  subst hsz
  have hS : va_S (AX 26 b z.heap.size) z.heap z.heap [] := va_S.rf
  have hl : lv_has ls 2 [(0, .ref (b 8)), (1, .ref (b 21))] := hl
  refine lv_aload_n hx hb dX5_copyFrom_0 rfl (lv_at hl 1 rfl) ?_
  refine g_get hx hb hts hown inA5 hK hP 21 (by decide) rfl rfl 0 (by decide) tw70 rfl (v := .ref (b 22)) rfl dX5_copyFrom_1 ?_
  refine lv_aload_n hx hb dX5_copyFrom_4 rfl (lv_at hl 0 rfl) ?_
  refine g_get hx hb hts hown inA5 hK hP 8 (by decide) rfl rfl 0 (by decide) tw70 rfl (v := .ref (b 9)) rfl dX5_copyFrom_5 ?_
  refine rw_cp (i := 22) (j := 9) (len := 7) (f := (r 7)) (ex' := e2C cI b (upR s 7 (r 7)) r) hS hP hE (by decide) (by decide) rfl rfl (y2C_row (by decide) (by decide)) (va_runSN (As := [.ref (b 22), .ref (b 9)]) (rest := []) ⟨hx, hb, hml, hown, hts⟩ (m_X6_copyRow l D cI cS (cpa b 22 9) 7 (r 7) (s 7) (by decide) _) ⟨va_cnB 2 hts (gA tw371) rfl rfl rfl (hK.2 _ tn376) (hts _ tw1) (by decide +kernel) ⟨Nat.le_of_ble_eq_true rfl, Nat.le_of_ble_eq_true rfl⟩, hts _ tw370, trivial⟩ (ps_cp hK hP hE (i := 22) (j := 9) (len := 7) (f := (r 7)) (g := (s 7)) (by decide) (by decide) (by decide) rfl rfl) rfl rfl hl.1 rfl (lv_room (Nat.le_of_ble_eq_true rfl)) dX5_copyFrom_8 ⟨Nat.le_of_ble_eq_true rfl, Nat.le_of_ble_eq_true rfl⟩) (fun H locs hP hS => ?_)
  refine lv_aload_n hx hb dX5_copyFrom_11 rfl (lv_at hl 1 rfl) ?_
  refine g_get hx hb hts hown inA5 hK hP 21 (by decide) rfl rfl 1 (by decide) tw73 rfl (v := .ref (b 23)) rfl dX5_copyFrom_12 ?_
  refine lv_aload_n hx hb dX5_copyFrom_15 rfl (lv_at hl 0 rfl) ?_
  refine g_get hx hb hts hown inA5 hK hP 8 (by decide) rfl rfl 1 (by decide) tw73 rfl (v := .ref (b 10)) rfl dX5_copyFrom_16 ?_
  refine rw_cp (i := 23) (j := 10) (len := 7) (f := (r 8)) (ex' := e2C cI b (upR (upR s 7 (r 7)) 8 (r 8)) r) hS hP hE (by decide) (by decide) rfl rfl (y2C_row (by decide) (by decide)) (va_runSN (As := [.ref (b 23), .ref (b 10)]) (rest := []) ⟨hx, hb, hml, hown, hts⟩ (m_X6_copyRow l D cI cS (cpa b 23 10) 7 (r 8) (s 8) (by decide) _) ⟨va_cnB 2 hts (gA tw371) rfl rfl rfl (hK.2 _ tn376) (hts _ tw1) (by decide +kernel) ⟨Nat.le_of_ble_eq_true rfl, Nat.le_of_ble_eq_true rfl⟩, hts _ tw370, trivial⟩ (ps_cp hK hP hE (i := 23) (j := 10) (len := 7) (f := (r 8)) (g := (s 8)) (by decide) (by decide) (by decide) rfl rfl) rfl rfl hl.1 rfl (lv_room (Nat.le_of_ble_eq_true rfl)) dX5_copyFrom_19 ⟨Nat.le_of_ble_eq_true rfl, Nat.le_of_ble_eq_true rfl⟩) (fun H locs hP hS => ?_)
  refine lv_aload_n hx hb dX5_copyFrom_22 rfl (lv_at hl 1 rfl) ?_
  refine g_get hx hb hts hown inA5 hK hP 21 (by decide) rfl rfl 2 (by decide) tw75 rfl (v := .ref (b 24)) rfl dX5_copyFrom_23 ?_
  refine lv_aload_n hx hb dX5_copyFrom_26 rfl (lv_at hl 0 rfl) ?_
  refine g_get hx hb hts hown inA5 hK hP 8 (by decide) rfl rfl 2 (by decide) tw75 rfl (v := .ref (b 11)) rfl dX5_copyFrom_27 ?_
  refine rw_cp (i := 24) (j := 11) (len := 7) (f := (r 9)) (ex' := e2C cI b (upR (upR (upR s 7 (r 7)) 8 (r 8)) 9 (r 9)) r) hS hP hE (by decide) (by decide) rfl rfl (y2C_row (by decide) (by decide)) (va_runSN (As := [.ref (b 24), .ref (b 11)]) (rest := []) ⟨hx, hb, hml, hown, hts⟩ (m_X6_copyRow l D cI cS (cpa b 24 11) 7 (r 9) (s 9) (by decide) _) ⟨va_cnB 2 hts (gA tw371) rfl rfl rfl (hK.2 _ tn376) (hts _ tw1) (by decide +kernel) ⟨Nat.le_of_ble_eq_true rfl, Nat.le_of_ble_eq_true rfl⟩, hts _ tw370, trivial⟩ (ps_cp hK hP hE (i := 24) (j := 11) (len := 7) (f := (r 9)) (g := (s 9)) (by decide) (by decide) (by decide) rfl rfl) rfl rfl hl.1 rfl (lv_room (Nat.le_of_ble_eq_true rfl)) dX5_copyFrom_30 ⟨Nat.le_of_ble_eq_true rfl, Nat.le_of_ble_eq_true rfl⟩) (fun H locs hP hS => ?_)
  exact rw_vr hx hb hr hlocks hS () hP trivial dX5_copyFrom_33

set_option maxHeartbeats 4000000 in
set_option maxRecDepth 100000 in
theorem m_X4_copyFrom (l : Launch) (D : va_G) (cI cS : ClassId) (b : Nat → Nat) (s r : St) (zz : Nat) : Met l yX4_copyFrom (.code yX4_copyFrom cX4_copyFrom 2 none :: wsA) ({ frames := 2, cells := 0, slots := 0, locals := 43 } : Room) (va_Pc [.ref (b 0), .ref (b 13)] (PW D cI cS 26 b (e2C cI b s r) zz)) (va_Qv (fun (u : Unit) => True) (BW D 26 b (fun u => e2C cI b r r)) (AX 26 b zz)) 0 0 (AX 26 b zz) := by
  refine mgo (by decide) (Nat.le_of_ble_eq_true rfl) ?_
  intro p e z m below meth c hx hb hr hml hown hts hlocks hB ls hl
  obtain ⟨hsz, hP, hK, hE⟩ := hB
  subst hsz
  have hS : va_S (AX 26 b z.heap.size) z.heap z.heap [] := va_S.rf
  have hl : lv_has ls 2 [(0, .ref (b 0)), (1, .ref (b 13))] := hl
  refine lv_aload_n hx hb dX4_copyFrom_0 rfl (lv_at hl 0 rfl) ?_
  refine g_get hx hb hts hown inA4 hK hP 0 (by decide) rfl rfl 0 (by decide) tw84 rfl (v := .ref (b 1)) rfl dX4_copyFrom_1 ?_
  refine lv_aload_n hx hb dX4_copyFrom_4 rfl (lv_at hl 1 rfl) ?_
  refine g_get hx hb hts hown inA4 hK hP 13 (by decide) rfl rfl 0 (by decide) tw84 rfl (v := .ref (b 14)) rfl dX4_copyFrom_5 ?_
  refine rw_v hS (va_runV (As := [.ref (b 14)]) (rest := []) ⟨hx, hb, hml, hown, hts⟩ (m_X0_copyFrom l D cI cS b s r _) (cwV 1 hts (gV tw368 tw365 tw366 tw367 tw3) rfl rfl rfl (by decide +kernel) ⟨Nat.le_of_ble_eq_true rfl, Nat.le_of_ble_eq_true rfl⟩) (pvW 1 hK hP hE (by decide) rfl rfl) rfl rfl hl.1 rfl (lv_room (Nat.le_of_ble_eq_true rfl)) dX4_copyFrom_8 ⟨Nat.le_of_ble_eq_true rfl, Nat.le_of_ble_eq_true rfl⟩) (fun u3 H locs hr1 hP hS => ?_)
  refine lv_aload_n hx hb dX4_copyFrom_11 rfl (lv_at hl 0 rfl) ?_
  refine g_get hx hb hts hown inA4 hK hP 0 (by decide) rfl rfl 1 (by decide) tw86 rfl (v := .ref (b 8)) rfl dX4_copyFrom_12 ?_
  refine lv_aload_n hx hb dX4_copyFrom_15 rfl (lv_at hl 1 rfl) ?_
  refine g_get hx hb hts hown inA4 hK hP 13 (by decide) rfl rfl 1 (by decide) tw86 rfl (v := .ref (b 21)) rfl dX4_copyFrom_16 ?_
  refine rw_v hS (va_runV (As := [.ref (b 21)]) (rest := []) ⟨hx, hb, hml, hown, hts⟩ (m_X5_copyFrom l D cI cS b (cpDi s r) r _) (cwV 1 hts (gV tw375 tw372 tw373 tw374 tw4) rfl rfl rfl (by decide +kernel) ⟨Nat.le_of_ble_eq_true rfl, Nat.le_of_ble_eq_true rfl⟩) (pvW 8 hK hP hE (by decide) rfl rfl) rfl rfl hl.1 rfl (lv_room (Nat.le_of_ble_eq_true rfl)) dX4_copyFrom_19 ⟨Nat.le_of_ble_eq_true rfl, Nat.le_of_ble_eq_true rfl⟩) (fun u6 H locs hr4 hP hS => ?_)
  refine lv_aload_n hx hb dX4_copyFrom_22 rfl (lv_at hl 1 rfl) ?_
  refine g_get hx hb hts hown inA4 hK hP 13 (by decide) rfl rfl 2 (by decide) tw89 rfl (v := .ref (b 25)) rfl dX4_copyFrom_23 ?_
  refine lv_aload_n hx hb dX4_copyFrom_26 rfl (lv_at hl 0 rfl) ?_
  refine g_get hx hb hts hown inA4 hK hP 0 (by decide) rfl rfl 2 (by decide) tw89 rfl (v := .ref (b 12)) rfl dX4_copyFrom_27 ?_
  refine rw_cp (i := 25) (j := 12) (len := 2) (f := (r 10)) (ex' := e2C cI b (upR (cpWa (cpDi s r) r) 10 (r 10)) r) hS hP hE (by decide) (by decide) rfl rfl (y2C_row (by decide) (by decide)) (va_runSN (As := [.ref (b 25), .ref (b 12)]) (rest := []) ⟨hx, hb, hml, hown, hts⟩ (m_X6_copyRow l D cI cS (cpa b 25 12) 2 (r 10) ((cpWa (cpDi s r) r) 10) (by decide) _) ⟨va_cnB 2 hts (gA tw371) rfl rfl rfl (hK.2 _ tn377) (hts _ tw1) (by decide +kernel) ⟨Nat.le_of_ble_eq_true rfl, Nat.le_of_ble_eq_true rfl⟩, hts _ tw370, trivial⟩ (ps_cp hK hP hE (i := 25) (j := 12) (len := 2) (f := (r 10)) (g := ((cpWa (cpDi s r) r) 10)) (by decide) (by decide) (by decide) rfl rfl) rfl rfl hl.1 rfl (lv_room (Nat.le_of_ble_eq_true rfl)) dX4_copyFrom_30 ⟨Nat.le_of_ble_eq_true rfl, Nat.le_of_ble_eq_true rfl⟩) (fun H locs hP hS => ?_)
  refine lv_aload_n hx hb dX4_copyFrom_33 rfl (lv_at hl 0 rfl) ?_
  refine lv_aload_n hx hb dX4_copyFrom_34 rfl (lv_at hl 1 rfl) ?_
  refine g_get hx hb hts hown inA4 hK hP 13 (by decide) rfl rfl 3 (by decide) tw91 rfl (v := .int (r 0 1)) rfl dX4_copyFrom_35 ?_
  refine g_put hx hb hts hown inA4 tyX4 tyX4_ok nmX4 hK hP hE hS 0 (by decide) rfl rfl 3 (by decide) tw91 rfl rfl (ty := .int) (by decide +kernel) rfl rfl (Nat.le_of_ble_eq_true rfl) dX4_copyFrom_38 (ex' := e2C cI b (up2 (upR (cpWa (cpDi s r) r) 10 (r 10)) 0 1 (r 0 1)) r) rfl (y2C_sc (by decide)) (fun H locs hP hS => ?_)
  refine lv_aload_n hx hb dX4_copyFrom_41 rfl (lv_at hl 0 rfl) ?_
  refine lv_aload_n hx hb dX4_copyFrom_42 rfl (lv_at hl 1 rfl) ?_
  refine g_get hx hb hts hown inA4 hK hP 13 (by decide) rfl rfl 4 (by decide) tw93 rfl (v := .int (r 0 2)) rfl dX4_copyFrom_43 ?_
  refine g_put hx hb hts hown inA4 tyX4 tyX4_ok nmX4 hK hP hE hS 0 (by decide) rfl rfl 4 (by decide) tw93 rfl rfl (ty := .int) (by decide +kernel) rfl rfl (Nat.le_of_ble_eq_true rfl) dX4_copyFrom_46 (ex' := e2C cI b (up2 (up2 (upR (cpWa (cpDi s r) r) 10 (r 10)) 0 1 (r 0 1)) 0 2 (r 0 2)) r) rfl (y2C_sc (by decide)) (fun H locs hP hS => ?_)
  refine lv_aload_n hx hb dX4_copyFrom_49 rfl (lv_at hl 0 rfl) ?_
  refine lv_aload_n hx hb dX4_copyFrom_50 rfl (lv_at hl 1 rfl) ?_
  refine g_get hx hb hts hown inA4 hK hP 13 (by decide) rfl rfl 5 (by decide) tw95 rfl (v := .int (r 0 3)) rfl dX4_copyFrom_51 ?_
  refine g_put hx hb hts hown inA4 tyX4 tyX4_ok nmX4 hK hP hE hS 0 (by decide) rfl rfl 5 (by decide) tw95 rfl rfl (ty := .int) (by decide +kernel) rfl rfl (Nat.le_of_ble_eq_true rfl) dX4_copyFrom_54 (ex' := e2C cI b (up2 (up2 (up2 (upR (cpWa (cpDi s r) r) 10 (r 10)) 0 1 (r 0 1)) 0 2 (r 0 2)) 0 3 (r 0 3)) r) rfl (y2C_sc (by decide)) (fun H locs hP hS => ?_)
  have hP : HP D 26 b (e2C cI b r r) H := by rw [← cpSt_r (s := s)]; exact hP
  exact rw_vr hx hb hr hlocks hS () hP trivial dX4_copyFrom_57
