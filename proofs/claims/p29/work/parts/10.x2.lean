set_option maxHeartbeats 4000000 in
set_option maxRecDepth 100000 in
theorem m_X0_afterTick (l : Launch) (D : va_G) (cI cS : ClassId) (a : Nat → Nat) (s : St) (st : Nat → St) (pi : Nat → Nat) (mi po : St) (d : Nat) (hd : d < 7) (x : Int32) : Met l yX0_afterTick (.code yX0_afterTick cX0_afterTick 4 (some .int) :: wsA) ({ frames := 0, cells := 0, slots := 0, locals := 0 } : Room) (va_Pc [.ref (a 1), .int (nI d), .int x] (PR D cI cS 113 a (exC cI cS a s st pi mi po))) (vp_Si (fun r => r = aftI s d x)) 0 0 (fun _ => False) := by
  refine mgo (by decide) (Nat.le_of_ble_eq_true rfl) ?_
  intro p e z m below meth c hx hb hr hml hown hts hlocks hB ls hl
  obtain ⟨hP, hK⟩ := hB
  have hl : lv_has ls 4 [(0, .ref (a 1)), (1, .int (nI d)), (2, .int x)] := hl
  refine lv_iload_n hx hb dX0_afterTick_0 rfl (lv_at hl 2 rfl) ?_
  refine lv_bipush (v := 10) hx hb dX0_afterTick_1 (by decide) ?_
  refine lv_iadd hx hb dX0_afterTick_3 ?_
  refine lv_aload_n hx hb dX0_afterTick_4 rfl (lv_at hl 0 rfl) ?_
  refine g_get hx hb hts hown inA0 hK hP 1 (by decide) xc1 rfl 2 (by decide) tw39 rfl (v := .ref (a 3)) rfl dX0_afterTick_5 ?_
  refine lv_iload_n hx hb dX0_afterTick_8 rfl (lv_at hl 1 rfl) ?_
  refine g_iald hx hb hK hP 3 (by decide) xc3 d rfl (by omega) (by decide) dX0_afterTick_9 (v := s 2 d) rfl ?_
  refine lv_iadd hx hb dX0_afterTick_10 ?_
  refine lv_istore_n (lv' := [(3, .int ((x + 10) + (s 2 d))), (0, .ref (a 1)), (1, .int (nI d)), (2, .int x)]) hx hb dX0_afterTick_11 rfl hl (by decide) rfl (fun ls hl => ?_)
  refine lv_iload_n hx hb dX0_afterTick_12 rfl (lv_at hl 0 rfl) ?_
  refine lv_ldc hx hb hown (hts _ tw390) dX0_afterTick_13 ?_
  refine lv_icmp_le (tgt := 23) hx hb dX0_afterTick_15 (by decide) (fun c1 => ?_) (fun c1 => ?_)
  · skip
    have c1x := Int32.not_lt.mpr c1
    refine lv_iload_n hx hb dX0_afterTick_23 rfl (lv_at hl 0 rfl) ?_
    exact ro_ir hx hb hr rfl hlocks (by simp [aftI, c1, c1x]) dX0_afterTick_24
  · skip
    have c1x := Int32.not_le.mp c1
    refine lv_ldc hx hb hown (hts _ tw390) dX0_afterTick_18 ?_
    refine lv_goto (tgt := 24) hx hb dX0_afterTick_20 (by decide) ?_
    exact ro_ir hx hb hr rfl hlocks (by simp [aftI, c1, c1x]) dX0_afterTick_24

set_option maxHeartbeats 4000000 in
set_option maxRecDepth 100000 in
theorem m_X0_ring (l : Launch) (D : va_G) (cI cS : ClassId) (a : Nat → Nat) (s : St) (st : Nat → St) (pi : Nat → Nat) (mi po : St) (d : Nat) (hd : d < 7) (x y : Int32) (zz : Nat) : Met l yX0_ring (.code yX0_ring cX0_ring 5 (some .int) :: wsA) ({ frames := 0, cells := 0, slots := 0, locals := 0 } : Room) (va_Pc [.ref (a 1), .int (nI d), .int x, .int y] (PW D cI cS 113 a (exC cI cS a s st pi mi po) zz)) (va_Qi (fun (r : Int32) (u : Unit) => r = y / 60 - x / 60) (BW D 113 a (fun u => exC cI cS a (ringS s d x y) st pi mi po)) (AX 113 a zz)) 0 0 (AX 113 a zz) := by
  refine mgo (by decide) (Nat.le_of_ble_eq_true rfl) ?_
  intro p e z m below meth c hx hb hr hml hown hts hlocks hB ls hl
  obtain ⟨hsz, hP, hK, hE⟩ := hB
  subst hsz
  have hS : va_S (AX 113 a z.heap.size) z.heap z.heap [] := va_S.rf
  have hl : lv_has ls 5 [(0, .ref (a 1)), (1, .int (nI d)), (2, .int x), (3, .int y)] := hl
  refine lv_iload_n hx hb dX0_ring_0 rfl (lv_at hl 3 rfl) ?_
  refine lv_bipush (v := 60) hx hb dX0_ring_1 (by decide) ?_
  refine lv_idiv hx hb dX0_ring_3 (by decide) ?_
  refine lv_iload_n hx hb dX0_ring_4 rfl (lv_at hl 2 rfl) ?_
  refine lv_bipush (v := 60) hx hb dX0_ring_5 (by decide) ?_
  refine lv_idiv hx hb dX0_ring_7 (by decide) ?_
  refine lv_isub hx hb dX0_ring_8 ?_
  refine lv_istore (lv' := [(4, .int ((y / 60) - (x / 60))), (0, .ref (a 1)), (1, .int (nI d)), (2, .int x), (3, .int y)]) hx hb dX0_ring_9 hl (by decide) rfl (fun ls hl => ?_)
  refine lv_aload_n hx hb dX0_ring_11 rfl (lv_at hl 1 rfl) ?_
  refine g_get hx hb hts hown inA0 hK hP 1 (by decide) xc1 rfl 6 (by decide) tw46 rfl (v := .ref (a 7)) rfl dX0_ring_12 ?_
  refine lv_iload_n hx hb dX0_ring_15 rfl (lv_at hl 2 rfl) ?_
  refine lv_dup2_11 hx hb dX0_ring_16 rfl rfl ?_
  refine g_iald hx hb hK hP 7 (by decide) xc7 d rfl (by omega) (by decide) dX0_ring_17 (v := s 6 d) rfl ?_
  refine lv_iload hx hb dX0_ring_18 (lv_at hl 0 rfl) ?_
  refine lv_iadd hx hb dX0_ring_20 ?_
  refine g_iast hx hb hK hP hE hS 7 (by decide) xc7 d rfl (by omega) (by omega) dX0_ring_21 (ex' := exC cI cS a (up2 s 6 d ((s 6 d) + ((y / 60) - (x / 60)))) st pi mi po) rfl (xo_row (by decide) (by decide)) (fun H locs hP hS => ?_)
  refine lv_iload hx hb dX0_ring_22 (lv_at hl 0 rfl) ?_
  exact rw_ir hx hb hr rfl hlocks hS () hP rfl dX0_ring_24

set_option maxHeartbeats 4000000 in
set_option maxRecDepth 100000 in
theorem m_X0_passTick (l : Launch) (D : va_G) (cI cS : ClassId) (a : Nat → Nat) (s : St) (st : Nat → St) (pi : Nat → Nat) (mi po : St) (d : Nat) (hd : d < 7) (zz : Nat) : Met l yX0_passTick (.code yX0_passTick cX0_passTick 4 (some .int) :: wsA) ({ frames := 1, cells := 0, slots := 0, locals := 24 } : Room) (va_Pc [.ref (a 1), .int (nI d)] (PW D cI cS 113 a (exC cI cS a s st pi mi po) zz)) (va_Qi (fun (r : Int32) (u : Unit) => r = ptR s d) (BW D 113 a (fun u => exC cI cS a (ptS s d) st pi mi po)) (AX 113 a zz)) 0 0 (AX 113 a zz) := by
  refine mgo (by decide) (Nat.le_of_ble_eq_true rfl) ?_
  intro p e z m below meth c hx hb hr hml hown hts hlocks hB ls hl
  obtain ⟨hsz, hP, hK, hE⟩ := hB
  subst hsz
  have hS : va_S (AX 113 a z.heap.size) z.heap z.heap [] := va_S.rf
  have hl : lv_has ls 4 [(0, .ref (a 1)), (1, .int (nI d))] := hl
  refine lv_aload_n hx hb dX0_passTick_0 rfl (lv_at hl 0 rfl) ?_
  refine g_get hx hb hts hown inA0 hK hP 1 (by decide) xc1 rfl 1 (by decide) tw36 rfl (v := .ref (a 2)) rfl dX0_passTick_1 ?_
  refine lv_iload_n hx hb dX0_passTick_4 rfl (lv_at hl 1 rfl) ?_
  refine g_iald hx hb hK hP 2 (by decide) xc2 d rfl (by omega) (by decide) dX0_passTick_5 (v := s 1 d) rfl ?_
  refine lv_istore_n (lv' := [(2, .int (s 1 d)), (0, .ref (a 1)), (1, .int (nI d))]) hx hb dX0_passTick_6 rfl hl (by decide) rfl (fun ls hl => ?_)
  refine lv_aload_n hx hb dX0_passTick_7 rfl (lv_at hl 1 rfl) ?_
  refine lv_iload_n hx hb dX0_passTick_8 rfl (lv_at hl 2 rfl) ?_
  refine lv_iload_n hx hb dX0_passTick_9 rfl (lv_at hl 0 rfl) ?_
  refine ro_i (va_runV (As := [.int (nI d), .int (s 1 d)]) (rest := []) ⟨hx, hb, hml, hown, hts⟩ (m_X0_afterTick l D cI cS a s st pi mi po d (by omega) (s 1 d)) (cwV 2 hts (gV tw389 tw386 tw387 tw388 tw3) rfl rfl rfl (by decide +kernel) ⟨Nat.le_of_ble_eq_true rfl, Nat.le_of_ble_eq_true rfl⟩) (pvR 1 hK hP (by decide) xc1 rfl) rfl rfl hl.1 rfl (lv_room (Nat.le_of_ble_eq_true rfl)) dX0_passTick_10 ⟨Nat.le_of_ble_eq_true rfl, Nat.le_of_ble_eq_true rfl⟩) (fun r2 hr1 => ?_)
  subst hr1
  refine lv_istore_n (lv' := [(3, .int (aftI s d (s 1 d))), (2, .int (s 1 d)), (0, .ref (a 1)), (1, .int (nI d))]) hx hb dX0_passTick_13 rfl hl (by decide) rfl (fun ls hl => ?_)
  refine lv_aload_n hx hb dX0_passTick_14 rfl (lv_at hl 2 rfl) ?_
  refine g_get hx hb hts hown inA0 hK hP 1 (by decide) xc1 rfl 1 (by decide) tw36 rfl (v := .ref (a 2)) rfl dX0_passTick_15 ?_
  refine lv_iload_n hx hb dX0_passTick_18 rfl (lv_at hl 3 rfl) ?_
  refine lv_iload_n hx hb dX0_passTick_19 rfl (lv_at hl 0 rfl) ?_
  refine g_iast hx hb hK hP hE hS 2 (by decide) xc2 d rfl (by omega) (by omega) dX0_passTick_20 (ex' := exC cI cS a (up2 s 1 d (aftI s d (s 1 d))) st pi mi po) rfl (xo_row (by decide) (by decide)) (fun H locs hP hS => ?_)
  refine lv_aload_n hx hb dX0_passTick_21 rfl (lv_at hl 2 rfl) ?_
  refine g_get hx hb hts hown inA0 hK hP 1 (by decide) xc1 rfl 3 (by decide) tw41 rfl (v := .ref (a 4)) rfl dX0_passTick_22 ?_
  refine lv_iload_n hx hb dX0_passTick_25 rfl (lv_at hl 3 rfl) ?_
  refine lv_dup2_11 hx hb dX0_passTick_26 rfl rfl ?_
  refine g_iald hx hb hK hP 4 (by decide) xc4 d rfl (by omega) (by decide) dX0_passTick_27 (v := s 3 d) (by simp [up2, upR, upd]) ?_
  refine lv_iload_n hx hb dX0_passTick_28 rfl (lv_at hl 0 rfl) ?_
  refine lv_iload_n hx hb dX0_passTick_29 rfl (lv_at hl 1 rfl) ?_
  refine lv_isub hx hb dX0_passTick_30 ?_
  refine lv_iadd hx hb dX0_passTick_31 ?_
  refine g_iast hx hb hK hP hE hS 4 (by decide) xc4 d rfl (by omega) (by omega) dX0_passTick_32 (ex' := exC cI cS a (up2 (up2 s 1 d (aftI s d (s 1 d))) 3 d ((s 3 d) + ((aftI s d (s 1 d)) - (s 1 d)))) st pi mi po) rfl (xo_row (by decide) (by decide)) (fun H locs hP hS => ?_)
  refine lv_aload_n hx hb dX0_passTick_33 rfl (lv_at hl 2 rfl) ?_
  refine lv_iload_n hx hb dX0_passTick_34 rfl (lv_at hl 3 rfl) ?_
  refine lv_iload_n hx hb dX0_passTick_35 rfl (lv_at hl 1 rfl) ?_
  refine lv_iload_n hx hb dX0_passTick_36 rfl (lv_at hl 0 rfl) ?_
  refine rw_i hS (va_runV (As := [.int (nI d), .int (s 1 d), .int (aftI s d (s 1 d))]) (rest := []) ⟨hx, hb, hml, hown, hts⟩ (m_X0_ring l D cI cS a (up2 (up2 s 1 d (aftI s d (s 1 d))) 3 d ((s 3 d) + ((aftI s d (s 1 d)) - (s 1 d)))) st pi mi po d (by omega) (s 1 d) (aftI s d (s 1 d)) _) (cwV 3 hts (gV tw394 tw391 tw393 ts11 tw3) rfl rfl rfl (by decide +kernel) ⟨Nat.le_of_ble_eq_true rfl, Nat.le_of_ble_eq_true rfl⟩) (pvW 1 hK hP hE (by decide) xc1 rfl) rfl rfl hl.1 rfl (lv_room (Nat.le_of_ble_eq_true rfl)) dX0_passTick_37 ⟨Nat.le_of_ble_eq_true rfl, Nat.le_of_ble_eq_true rfl⟩) (fun r5 u6 H locs hr4 hP hS => ?_)
  subst hr4
  exact rw_ir hx hb hr rfl hlocks hS () hP rfl dX0_passTick_40

set_option maxHeartbeats 4000000 in
set_option maxRecDepth 100000 in
theorem m_X0_passTicks (l : Launch) (D : va_G) (cI cS : ClassId) (a : Nat → Nat) (s : St) (st : Nat → St) (pi : Nat → Nat) (mi po : St) (n : Nat) (hn : n < 1000) (zz : Nat) : Met l yX0_passTicks (.code yX0_passTicks cX0_passTicks 5 (some .int) :: wsA) ({ frames := 2, cells := 0, slots := 0, locals := 47 } : Room) (va_Pc [.ref (a 1), .int (nI n)] (PW D cI cS 113 a (exC cI cS a s st pi mi po) zz)) (va_Qi (fun (r : Int32) (u : Unit) => r = ticksA n s) (BW D 113 a (fun u => exC cI cS a (ticksS n s) st pi mi po)) (AX 113 a zz)) 0 0 (AX 113 a zz) := by
  refine mgo (by decide) (Nat.le_of_ble_eq_true rfl) ?_
  intro p e z m below meth c hx hb hr hml hown hts hlocks hB ls hl
  obtain ⟨hsz, hP, hK, hE⟩ := hB
  subst hsz
  have hS : va_S (AX 113 a z.heap.size) z.heap z.heap [] := va_S.rf
  have hl : lv_has ls 5 [(0, .ref (a 1)), (1, .int (nI n))] := hl
  refine lv_iconst (v := 0) hx hb dX0_passTicks_0 (by decide) ?_
  refine lv_istore_n (lv' := [(2, .int 0), (0, .ref (a 1)), (1, .int (nI n))]) hx hb dX0_passTicks_1 rfl hl (by decide) rfl (fun ls hl => ?_)
  refine lv_iconst (v := 0) hx hb dX0_passTicks_2 (by decide) ?_
  refine lv_istore_n (lv' := [(3, .int 0), (2, .int 0), (0, .ref (a 1)), (1, .int (nI n))]) hx hb dX0_passTicks_3 rfl hl (by decide) rfl (fun ls hl => ?_)
  have loop4 : ∀ (fu : Nat) (j : Nat), n + 1 ≤ j + fu → (j ≤ n) → ∀ (H : Heap) (locs : List Loc), HP D 113 a (exC cI cS a (ticksS j s) st pi mi po) H → va_S (AX 113 a z.heap.size) z.heap H locs → ∀ ls : Array Slot, lv_has ls 5 [(0, .ref (a 1)), (1, .int (nI n)), (2, .int (ticksA j s)), (3, .int (nI j))] → W p l e ({ frames := 2, cells := 0, slots := 0, locals := 47 } : Room) z m ([.ref (a 1), .int (nI n)] : List Value).toArray below meth c H locs 0 0 (MQ below (va_Qi (fun (r : Int32) (u : Unit) => r = ticksA n s) (BW D 113 a (fun u => exC cI cS a (ticksS n s) st pi mi po)) (AX 113 a z.heap.size)) ([.ref (a 1), .int (nI n)] : List Value).toArray z 0 0 (AX 113 a z.heap.size)) (F0 m 4 ls []) := by
    intro fu
    induction fu with
    | zero => intro j hn hj; exact absurd hn (by omega)
    | succ fu ih4 =>
      intro j hn hj H locs hP hS ls hl
      refine lv_iload_n hx hb dX0_passTicks_4 rfl (lv_at hl 3 rfl) ?_
      refine lv_iload_n hx hb dX0_passTicks_5 rfl (lv_at hl 1 rfl) ?_
      refine lv_icmp_ge (tgt := 51) hx hb dX0_passTicks_6 (by decide) (fun c1 => ?_) (fun c1 => ?_)
      · skip
        have c1x := Int32.not_lt.mpr c1
        have c1n := (nI_le2 (p := n) (q := j) rfl rfl (by omega) (by omega)).mp c1
        have c1n : n ≤ j := c1n
        have hjq : n = j := by omega
        subst hjq
        refine lv_iload_n hx hb dX0_passTicks_51 rfl (lv_at hl 2 rfl) ?_
        exact rw_ir hx hb hr rfl hlocks hS () hP rfl dX0_passTicks_52
      · skip
        have c1x := Int32.not_le.mp c1
        have c1n := fun hq0 => c1 ((nI_le2 (p := n) (q := j) rfl rfl (by omega) (by omega)).mpr hq0)
        have c1n : ¬ (n ≤ j) := c1n
        refine lv_aload_n hx hb dX0_passTicks_9 rfl (lv_at hl 0 rfl) ?_
        refine lv_dup hx hb dX0_passTicks_10 rfl ?_
        refine g_get hx hb hts hown inA0 hK hP 1 (by decide) xc1 rfl 0 (by decide) tw34 rfl (v := .int ((ticksS j s) 0 0)) rfl dX0_passTicks_11 ?_
        refine lv_bipush (v := 10) hx hb dX0_passTicks_14 (by decide) ?_
        refine lv_iadd hx hb dX0_passTicks_16 ?_
        refine g_put hx hb hts hown inA0 tyX0 tyX0_ok nmX0 hK hP hE hS 1 (by decide) xc1 rfl 0 (by decide) tw34 rfl rfl (ty := .int) (by decide +kernel) rfl rfl (Nat.le_of_ble_eq_true rfl) dX0_passTicks_17 (ex' := exC cI cS a (up2 (ticksS j s) 0 0 (((ticksS j s) 0 0) + 10)) st pi mi po) rfl (xo_sc (by decide)) (fun H locs hP hS => ?_)
        refine lv_iconst (v := 0) hx hb dX0_passTicks_20 (by decide) ?_
        refine lv_istore (lv' := [(4, .int 0), (0, .ref (a 1)), (1, .int (nI n)), (2, .int (ticksA j s)), (3, .int (nI j))]) hx hb dX0_passTicks_21 hl (by decide) rfl (fun ls hl => ?_)
        have loop23 : ∀ (fu : Nat) (q : Nat), 7 + 1 ≤ q + fu → (q ≤ 7) → ∀ (H : Heap) (locs : List Loc), HP D 113 a (exC cI cS a (ptN q (up2 (ticksS j s) 0 0 (ticksS j s 0 0 + 10))) st pi mi po) H → va_S (AX 113 a z.heap.size) z.heap H locs → ∀ ls : Array Slot, lv_has ls 5 [(0, .ref (a 1)), (1, .int (nI n)), (2, .int (ptA q (up2 (ticksS j s) 0 0 (ticksS j s 0 0 + 10)) (ticksA j s))), (3, .int (nI j)), (4, .int (nI q))] → W p l e ({ frames := 2, cells := 0, slots := 0, locals := 47 } : Room) z m ([.ref (a 1), .int (nI n)] : List Value).toArray below meth c H locs 0 0 (MQ below (va_Qi (fun (r : Int32) (u : Unit) => r = ticksA n s) (BW D 113 a (fun u => exC cI cS a (ticksS n s) st pi mi po)) (AX 113 a z.heap.size)) ([.ref (a 1), .int (nI n)] : List Value).toArray z 0 0 (AX 113 a z.heap.size)) (F0 m 23 ls []) := by
          intro fu
          induction fu with
          | zero => intro q hn hq; exact absurd hn (by omega)
          | succ fu ih23 =>
            intro q hn hq H locs hP hS ls hl
            refine lv_iload hx hb dX0_passTicks_23 (lv_at hl 4 rfl) ?_
            refine lv_bipush (v := 7) hx hb dX0_passTicks_25 (by decide) ?_
            refine lv_icmp_ge (tgt := 45) hx hb dX0_passTicks_27 (by decide) (fun c2 => ?_) (fun c2 => ?_)
            · skip
              have c2x := Int32.not_lt.mpr c2
              have c2n := (nI_le2 (p := 7) (q := q) rfl rfl (by omega) (by omega)).mp c2
              have c2n : 7 ≤ q := c2n
              have hjq : 7 = q := by omega
              subst hjq
              refine lv_iinc (v := nI (j + 1)) (lv' := [(3, .int (nI (j + 1))), (0, .ref (a 1)), (1, .int (nI n)), (2, .int (ptA 7 (up2 (ticksS j s) 0 0 (ticksS j s 0 0 + 10)) (ticksA j s))), (4, .int (nI 7))]) hx hb dX0_passTicks_45 hl (k := 3) rfl (nI_add j 1) (by decide) rfl (fun ls hl => ?_)
              refine lv_goto (tgt := 4) hx hb dX0_passTicks_48 (by decide) ?_
              exact ih4 (j + 1) (by omega) (by omega) _ _ hP hS ls (lv_sub hl [1, 2, 3, 0] rfl)
            · skip
              have c2x := Int32.not_le.mp c2
              have c2n := fun hq0 => c2 ((nI_le2 (p := 7) (q := q) rfl rfl (by omega) (by omega)).mpr hq0)
              have c2n : ¬ (7 ≤ q) := c2n
              refine lv_iload_n hx hb dX0_passTicks_30 rfl (lv_at hl 2 rfl) ?_
              refine lv_aload_n hx hb dX0_passTicks_31 rfl (lv_at hl 0 rfl) ?_
              refine lv_iload hx hb dX0_passTicks_32 (lv_at hl 4 rfl) ?_
              refine rw_i hS (va_runV (As := [.int (nI q)]) (rest := [.int (ptA q (up2 (ticksS j s) 0 0 (ticksS j s 0 0 + 10)) (ticksA j s))]) ⟨hx, hb, hml, hown, hts⟩ (m_X0_passTick l D cI cS a (ptN q (up2 (ticksS j s) 0 0 (ticksS j s 0 0 + 10))) st pi mi po q (by omega) _) (cwV 1 hts (gV tw385 tw382 tw384 ts10 tw3) rfl rfl rfl (by decide +kernel) ⟨Nat.le_of_ble_eq_true rfl, Nat.le_of_ble_eq_true rfl⟩) (pvW 1 hK hP hE (by decide) xc1 rfl) rfl rfl hl.1 rfl (lv_room (Nat.le_of_ble_eq_true rfl)) dX0_passTicks_34 ⟨Nat.le_of_ble_eq_true rfl, Nat.le_of_ble_eq_true rfl⟩) (fun r4 u5 H locs hr3 hP hS => ?_)
              subst hr3
              refine lv_iadd hx hb dX0_passTicks_37 ?_
              refine lv_istore_n (lv' := [(2, .int ((ptA q (up2 (ticksS j s) 0 0 (ticksS j s 0 0 + 10)) (ticksA j s)) + (ptR (ptN q (up2 (ticksS j s) 0 0 (ticksS j s 0 0 + 10))) q))), (0, .ref (a 1)), (1, .int (nI n)), (3, .int (nI j)), (4, .int (nI q))]) hx hb dX0_passTicks_38 rfl hl (by decide) rfl (fun ls hl => ?_)
              refine lv_iinc (v := nI (q + 1)) (lv' := [(4, .int (nI (q + 1))), (2, .int ((ptA q (up2 (ticksS j s) 0 0 (ticksS j s 0 0 + 10)) (ticksA j s)) + (ptR (ptN q (up2 (ticksS j s) 0 0 (ticksS j s 0 0 + 10))) q))), (0, .ref (a 1)), (1, .int (nI n)), (3, .int (nI j))]) hx hb dX0_passTicks_39 hl (k := 4) rfl (nI_add q 1) (by decide) rfl (fun ls hl => ?_)
              refine lv_goto (tgt := 23) hx hb dX0_passTicks_42 (by decide) ?_
              exact ih23 (q + 1) (by omega) (by omega) _ _ hP hS ls (lv_sub hl [2, 3, 1, 4, 0] rfl)
        exact loop23 (7 + 1) 0 (by omega) (by omega) _ _ hP hS ls (lv_sub hl [1, 2, 3, 4, 0] rfl)
  exact loop4 (n + 1) 0 (by omega) (by omega) _ _ hP hS ls (lv_sub hl [2, 3, 1, 0] rfl)

set_option maxHeartbeats 4000000 in
set_option maxRecDepth 100000 in
theorem m_X0_moveTo (l : Launch) (D : va_G) (cI cS : ClassId) (a : Nat → Nat) (s : St) (st : Nat → St) (pi : Nat → Nat) (mi po : St) (d : Nat) (hd : d < 7) (y : Int32) (zz : Nat) : Met l yX0_moveTo (.code yX0_moveTo cX0_moveTo 4 (some .int) :: wsA) ({ frames := 1, cells := 0, slots := 0, locals := 24 } : Room) (va_Pc [.ref (a 1), .int (nI d), .int y] (PW D cI cS 113 a (exC cI cS a s st pi mi po) zz)) (va_Qi (fun (r : Int32) (u : Unit) => r = mvR s d y) (BW D 113 a (fun u => exC cI cS a (mvS s d y) st pi mi po)) (AX 113 a zz)) 0 0 (AX 113 a zz) := by
  refine mgo (by decide) (Nat.le_of_ble_eq_true rfl) ?_
  intro p e z m below meth c hx hb hr hml hown hts hlocks hB ls hl
  obtain ⟨hsz, hP, hK, hE⟩ := hB
  subst hsz
  have hS : va_S (AX 113 a z.heap.size) z.heap z.heap [] := va_S.rf
  have hl : lv_has ls 4 [(0, .ref (a 1)), (1, .int (nI d)), (2, .int y)] := hl
  refine lv_aload_n hx hb dX0_moveTo_0 rfl (lv_at hl 0 rfl) ?_
  refine g_get hx hb hts hown inA0 hK hP 1 (by decide) xc1 rfl 1 (by decide) tw36 rfl (v := .ref (a 2)) rfl dX0_moveTo_1 ?_
  refine lv_iload_n hx hb dX0_moveTo_4 rfl (lv_at hl 1 rfl) ?_
  refine g_iald hx hb hK hP 2 (by decide) xc2 d rfl (by omega) (by decide) dX0_moveTo_5 (v := s 1 d) rfl ?_
  refine lv_istore_n (lv' := [(3, .int (s 1 d)), (0, .ref (a 1)), (1, .int (nI d)), (2, .int y)]) hx hb dX0_moveTo_6 rfl hl (by decide) rfl (fun ls hl => ?_)
  refine lv_aload_n hx hb dX0_moveTo_7 rfl (lv_at hl 1 rfl) ?_
  refine g_get hx hb hts hown inA0 hK hP 1 (by decide) xc1 rfl 1 (by decide) tw36 rfl (v := .ref (a 2)) rfl dX0_moveTo_8 ?_
  refine lv_iload_n hx hb dX0_moveTo_11 rfl (lv_at hl 2 rfl) ?_
  refine lv_iload_n hx hb dX0_moveTo_12 rfl (lv_at hl 3 rfl) ?_
  refine g_iast hx hb hK hP hE hS 2 (by decide) xc2 d rfl (by omega) (by omega) dX0_moveTo_13 (ex' := exC cI cS a (up2 s 1 d y) st pi mi po) rfl (xo_row (by decide) (by decide)) (fun H locs hP hS => ?_)
  refine lv_iload_n hx hb dX0_moveTo_14 rfl (lv_at hl 3 rfl) ?_
  refine lv_iload_n hx hb dX0_moveTo_15 rfl (lv_at hl 0 rfl) ?_
  refine lv_icmp_ge (tgt := 35) hx hb dX0_moveTo_16 (by decide) (fun c1 => ?_) (fun c1 => ?_)
  · skip
    have c1x := Int32.not_lt.mpr c1
    refine lv_aload_n hx hb dX0_moveTo_35 rfl (lv_at hl 1 rfl) ?_
    refine g_get hx hb hts hown inA0 hK hP 1 (by decide) xc1 rfl 4 (by decide) tw42 rfl (v := .ref (a 5)) rfl dX0_moveTo_36 ?_
    refine lv_iload_n hx hb dX0_moveTo_39 rfl (lv_at hl 2 rfl) ?_
    refine lv_dup2_11 hx hb dX0_moveTo_40 rfl rfl ?_
    refine g_iald hx hb hK hP 5 (by decide) xc5 d rfl (by omega) (by decide) dX0_moveTo_41 (v := s 4 d) (by simp [up2, upR, upd]) ?_
    refine lv_iload_n hx hb dX0_moveTo_42 rfl (lv_at hl 3 rfl) ?_
    refine lv_iload_n hx hb dX0_moveTo_43 rfl (lv_at hl 0 rfl) ?_
    refine lv_isub hx hb dX0_moveTo_44 ?_
    refine lv_iadd hx hb dX0_moveTo_45 ?_
    refine g_iast hx hb hK hP hE hS 5 (by decide) xc5 d rfl (by omega) (by omega) dX0_moveTo_46 (ex' := exC cI cS a (up2 (up2 s 1 d y) 4 d ((s 4 d) + (y - (s 1 d)))) st pi mi po) rfl (xo_row (by decide) (by decide)) (fun H locs hP hS => ?_)
    refine lv_aload_n hx hb dX0_moveTo_47 rfl (lv_at hl 1 rfl) ?_
    refine lv_iload_n hx hb dX0_moveTo_48 rfl (lv_at hl 2 rfl) ?_
    refine lv_iload_n hx hb dX0_moveTo_49 rfl (lv_at hl 0 rfl) ?_
    refine lv_iload_n hx hb dX0_moveTo_50 rfl (lv_at hl 3 rfl) ?_
    refine rw_i hS (va_runV (As := [.int (nI d), .int (s 1 d), .int y]) (rest := []) ⟨hx, hb, hml, hown, hts⟩ (m_X0_ring l D cI cS a (up2 (up2 s 1 d y) 4 d ((s 4 d) + (y - (s 1 d)))) st pi mi po d (by omega) (s 1 d) y _) (cwV 3 hts (gV tw394 tw391 tw393 ts11 tw3) rfl rfl rfl (by decide +kernel) ⟨Nat.le_of_ble_eq_true rfl, Nat.le_of_ble_eq_true rfl⟩) (pvW 1 hK hP hE (by decide) xc1 rfl) rfl rfl hl.1 rfl (lv_room (Nat.le_of_ble_eq_true rfl)) dX0_moveTo_51 ⟨Nat.le_of_ble_eq_true rfl, Nat.le_of_ble_eq_true rfl⟩) (fun r3 u4 H locs hr2 hP hS => ?_)
    subst hr2
    refine lv_pop hx hb dX0_moveTo_54 rfl ?_
    refine lv_iload_n hx hb dX0_moveTo_55 rfl (lv_at hl 3 rfl) ?_
    refine lv_iload_n hx hb dX0_moveTo_56 rfl (lv_at hl 0 rfl) ?_
    refine lv_isub hx hb dX0_moveTo_57 ?_
    have hWs : (mvS s d y) = (ringS (up2 (up2 s 1 d y) 4 d ((s 4 d) + (y - (s 1 d)))) d (s 1 d) y) := by unfold mvS; rw [if_neg c1x]; rfl
    have hP := hP.cast (e' := exC cI cS a (mvS s d y) st pi mi po) (by rw [hWs])
    exact rw_ir hx hb hr rfl hlocks hS () hP (by unfold mvR; rw [if_neg c1x]) dX0_moveTo_58
  · skip
    have c1x := Int32.not_le.mp c1
    refine lv_aload_n hx hb dX0_moveTo_19 rfl (lv_at hl 1 rfl) ?_
    refine g_get hx hb hts hown inA0 hK hP 1 (by decide) xc1 rfl 5 (by decide) tw44 rfl (v := .ref (a 6)) rfl dX0_moveTo_20 ?_
    refine lv_iload_n hx hb dX0_moveTo_23 rfl (lv_at hl 2 rfl) ?_
    refine lv_dup2_11 hx hb dX0_moveTo_24 rfl rfl ?_
    refine g_iald hx hb hK hP 6 (by decide) xc6 d rfl (by omega) (by decide) dX0_moveTo_25 (v := s 5 d) (by simp [up2, upR, upd]) ?_
    refine lv_iload_n hx hb dX0_moveTo_26 rfl (lv_at hl 0 rfl) ?_
    refine lv_iload_n hx hb dX0_moveTo_27 rfl (lv_at hl 3 rfl) ?_
    refine lv_isub hx hb dX0_moveTo_28 ?_
    refine lv_iadd hx hb dX0_moveTo_29 ?_
    refine g_iast hx hb hK hP hE hS 6 (by decide) xc6 d rfl (by omega) (by omega) dX0_moveTo_30 (ex' := exC cI cS a (up2 (up2 s 1 d y) 5 d ((s 5 d) + ((s 1 d) - y))) st pi mi po) rfl (xo_row (by decide) (by decide)) (fun H locs hP hS => ?_)
    refine lv_iload_n hx hb dX0_moveTo_31 rfl (lv_at hl 0 rfl) ?_
    refine lv_iload_n hx hb dX0_moveTo_32 rfl (lv_at hl 3 rfl) ?_
    refine lv_isub hx hb dX0_moveTo_33 ?_
    have hWs : (mvS s d y) = (up2 (up2 s 1 d y) 5 d ((s 5 d) + ((s 1 d) - y))) := by unfold mvS; rw [if_pos c1x]
    have hP := hP.cast (e' := exC cI cS a (mvS s d y) st pi mi po) (by rw [hWs])
    exact rw_ir hx hb hr rfl hlocks hS () hP (by unfold mvR; rw [if_pos c1x]) dX0_moveTo_34

set_option maxHeartbeats 4000000 in
set_option maxRecDepth 100000 in
theorem m_X0_changeDrift (l : Launch) (D : va_G) (cI cS : ClassId) (a : Nat → Nat) (s : St) (st : Nat → St) (pi : Nat → Nat) (mi po : St) (d : Nat) (hd : d < 7) (y : Int32) (zz : Nat) : Met l yX0_changeDrift (.code yX0_changeDrift cX0_changeDrift 3 none :: wsA) ({ frames := 0, cells := 0, slots := 0, locals := 0 } : Room) (va_Pc [.ref (a 1), .int (nI d), .int y] (PW D cI cS 113 a (exC cI cS a s st pi mi po) zz)) (va_Qv (fun (u : Unit) => True) (BW D 113 a (fun u => exC cI cS a (up2 s 2 d y) st pi mi po)) (AX 113 a zz)) 0 0 (AX 113 a zz) := by
  refine mgo (by decide) (Nat.le_of_ble_eq_true rfl) ?_
  intro p e z m below meth c hx hb hr hml hown hts hlocks hB ls hl
  obtain ⟨hsz, hP, hK, hE⟩ := hB
  subst hsz
  have hS : va_S (AX 113 a z.heap.size) z.heap z.heap [] := va_S.rf
  have hl : lv_has ls 3 [(0, .ref (a 1)), (1, .int (nI d)), (2, .int y)] := hl
  refine lv_iload_n hx hb dX0_changeDrift_0 rfl (lv_at hl 1 rfl) ?_
  refine lv_if_lt (tgt := 17) hx hb dX0_changeDrift_1 (by decide) (fun h0 => absurd h0 (fun h => by have := (nI_lt2 (p := d) (q := 0) rfl rfl (by omega) (by omega)).mp h; omega)) (fun _ => ?_)
  refine lv_iload_n hx hb dX0_changeDrift_4 rfl (lv_at hl 1 rfl) ?_
  refine lv_bipush (v := 7) hx hb dX0_changeDrift_5 (by decide) ?_
  refine lv_icmp_ge (tgt := 17) hx hb dX0_changeDrift_7 (by decide) (fun h0 => absurd h0 (fun h => by have := (nI_le2 (p := 7) (q := d) rfl rfl (by omega) (by omega)).mp h; omega)) (fun _ => ?_)
  refine lv_aload_n hx hb dX0_changeDrift_10 rfl (lv_at hl 0 rfl) ?_
  refine g_get hx hb hts hown inA0 hK hP 1 (by decide) xc1 rfl 2 (by decide) tw39 rfl (v := .ref (a 3)) rfl dX0_changeDrift_11 ?_
  refine lv_iload_n hx hb dX0_changeDrift_14 rfl (lv_at hl 1 rfl) ?_
  refine lv_iload_n hx hb dX0_changeDrift_15 rfl (lv_at hl 2 rfl) ?_
  refine g_iast hx hb hK hP hE hS 3 (by decide) xc3 d rfl (by omega) (by omega) dX0_changeDrift_16 (ex' := exC cI cS a (up2 s 2 d y) st pi mi po) rfl (xo_row (by decide) (by decide)) (fun H locs hP hS => ?_)
  exact rw_vr hx hb hr hlocks hS () hP trivial dX0_changeDrift_17

set_option maxHeartbeats 4000000 in
set_option maxRecDepth 100000 in
theorem m_X0_accountOf (l : Launch) (D : va_G) (cI cS : ClassId) (a : Nat → Nat) (s : St) (st : Nat → St) (pi : Nat → Nat) (mi po : St) (d : Nat) (hd : d < 7) : Met l yX0_accountOf (.code yX0_accountOf cX0_accountOf 2 (some .int) :: wsA) ({ frames := 0, cells := 0, slots := 0, locals := 0 } : Room) (va_Pc [.ref (a 1), .int (nI d)] (PR D cI cS 113 a (exC cI cS a s st pi mi po))) (vp_Si (fun r => r = accI s d)) 0 0 (fun _ => False) := by
  refine mgo (by decide) (Nat.le_of_ble_eq_true rfl) ?_
  intro p e z m below meth c hx hb hr hml hown hts hlocks hB ls hl
  obtain ⟨hP, hK⟩ := hB
  have hl : lv_has ls 2 [(0, .ref (a 1)), (1, .int (nI d))] := hl
  refine lv_aload_n hx hb dX0_accountOf_0 rfl (lv_at hl 0 rfl) ?_
  refine g_get hx hb hts hown inA0 hK hP 1 (by decide) xc1 rfl 3 (by decide) tw41 rfl (v := .ref (a 4)) rfl dX0_accountOf_1 ?_
  refine lv_iload_n hx hb dX0_accountOf_4 rfl (lv_at hl 1 rfl) ?_
  refine g_iald hx hb hK hP 4 (by decide) xc4 d rfl (by omega) (by decide) dX0_accountOf_5 (v := s 3 d) rfl ?_
  refine lv_aload_n hx hb dX0_accountOf_6 rfl (lv_at hl 0 rfl) ?_
  refine g_get hx hb hts hown inA0 hK hP 1 (by decide) xc1 rfl 4 (by decide) tw42 rfl (v := .ref (a 5)) rfl dX0_accountOf_7 ?_
  refine lv_iload_n hx hb dX0_accountOf_10 rfl (lv_at hl 1 rfl) ?_
  refine g_iald hx hb hK hP 5 (by decide) xc5 d rfl (by omega) (by decide) dX0_accountOf_11 (v := s 4 d) rfl ?_
  refine lv_iadd hx hb dX0_accountOf_12 ?_
  refine lv_aload_n hx hb dX0_accountOf_13 rfl (lv_at hl 0 rfl) ?_
  refine g_get hx hb hts hown inA0 hK hP 1 (by decide) xc1 rfl 5 (by decide) tw44 rfl (v := .ref (a 6)) rfl dX0_accountOf_14 ?_
  refine lv_iload_n hx hb dX0_accountOf_17 rfl (lv_at hl 1 rfl) ?_
  refine g_iald hx hb hK hP 6 (by decide) xc6 d rfl (by omega) (by decide) dX0_accountOf_18 (v := s 5 d) rfl ?_
  refine lv_isub hx hb dX0_accountOf_19 ?_
  exact ro_ir hx hb hr rfl hlocks rfl dX0_accountOf_20

set_option maxHeartbeats 4000000 in
set_option maxRecDepth 100000 in
theorem m_X0_errorOf (l : Launch) (D : va_G) (cI cS : ClassId) (a : Nat → Nat) (s : St) (st : Nat → St) (pi : Nat → Nat) (mi po : St) (d : Nat) (hd : d < 7) : Met l yX0_errorOf (.code yX0_errorOf cX0_errorOf 2 (some .int) :: wsA) ({ frames := 1, cells := 0, slots := 0, locals := 21 } : Room) (va_Pc [.ref (a 1), .int (nI d)] (PR D cI cS 113 a (exC cI cS a s st pi mi po))) (vp_Si (fun r => r = errI s d)) 0 0 (fun _ => False) := by
  refine mgo (by decide) (Nat.le_of_ble_eq_true rfl) ?_
  intro p e z m below meth c hx hb hr hml hown hts hlocks hB ls hl
  obtain ⟨hP, hK⟩ := hB
  have hl : lv_has ls 2 [(0, .ref (a 1)), (1, .int (nI d))] := hl
  refine lv_aload_n hx hb dX0_errorOf_0 rfl (lv_at hl 0 rfl) ?_
  refine g_get hx hb hts hown inA0 hK hP 1 (by decide) xc1 rfl 1 (by decide) tw36 rfl (v := .ref (a 2)) rfl dX0_errorOf_1 ?_
  refine lv_iload_n hx hb dX0_errorOf_4 rfl (lv_at hl 1 rfl) ?_
  refine g_iald hx hb hK hP 2 (by decide) xc2 d rfl (by omega) (by decide) dX0_errorOf_5 (v := s 1 d) rfl ?_
  refine lv_aload_n hx hb dX0_errorOf_6 rfl (lv_at hl 0 rfl) ?_
  refine g_get hx hb hts hown inA0 hK hP 1 (by decide) xc1 rfl 0 (by decide) tw34 rfl (v := .int (s 0 0)) rfl dX0_errorOf_7 ?_
  refine ro_i (va_runSN (As := [.int (s 1 d), .int (s 0 0)]) (rest := []) ⟨hx, hb, hml, hown, hts⟩ (m_X6_distance l (s 1 d) (s 0 0)) ⟨va_cnB 2 hts (gA tw319) rfl rfl rfl (hK.2 _ tn535) (hts _ tw1) (by decide +kernel) ⟨Nat.le_of_ble_eq_true rfl, Nat.le_of_ble_eq_true rfl⟩, hts _ tw318, trivial⟩ ps0 rfl rfl hl.1 rfl (lv_room (Nat.le_of_ble_eq_true rfl)) dX0_errorOf_10 ⟨Nat.le_of_ble_eq_true rfl, Nat.le_of_ble_eq_true rfl⟩) (fun r2 hr1 => ?_)
  subst hr1
  exact ro_ir hx hb hr rfl hlocks rfl dX0_errorOf_13

set_option maxHeartbeats 4000000 in
set_option maxRecDepth 100000 in
theorem m_X0_ticksToRing (l : Launch) (D : va_G) (cI cS : ClassId) (a : Nat → Nat) (s : St) (st : Nat → St) (pi : Nat → Nat) (mi po : St) (d : Nat) (hd : d < 7) : Met l yX0_ticksToRing (.code yX0_ticksToRing cX0_ticksToRing 5 (some .int) :: wsA) ({ frames := 1, cells := 0, slots := 0, locals := 23 } : Room) (va_Pc [.ref (a 1), .int (nI d)] (PR D cI cS 113 a (exC cI cS a s st pi mi po))) (vp_Si (fun r => r = ringF s d (s 1 d / 60) 200 1 (s 1 d))) 0 0 (fun _ => False) := by
  refine mgo (by decide) (Nat.le_of_ble_eq_true rfl) ?_
  intro p e z m below meth c hx hb hr hml hown hts hlocks hB ls hl
  obtain ⟨hP, hK⟩ := hB
  have hl : lv_has ls 5 [(0, .ref (a 1)), (1, .int (nI d))] := hl
  refine lv_aload_n hx hb dX0_ticksToRing_0 rfl (lv_at hl 0 rfl) ?_
  refine g_get hx hb hts hown inA0 hK hP 1 (by decide) xc1 rfl 1 (by decide) tw36 rfl (v := .ref (a 2)) rfl dX0_ticksToRing_1 ?_
  refine lv_iload_n hx hb dX0_ticksToRing_4 rfl (lv_at hl 1 rfl) ?_
  refine g_iald hx hb hK hP 2 (by decide) xc2 d rfl (by omega) (by decide) dX0_ticksToRing_5 (v := s 1 d) rfl ?_
  refine lv_bipush (v := 60) hx hb dX0_ticksToRing_6 (by decide) ?_
  refine lv_idiv hx hb dX0_ticksToRing_8 (by decide) ?_
  refine lv_istore_n (lv' := [(2, .int ((s 1 d) / 60)), (0, .ref (a 1)), (1, .int (nI d))]) hx hb dX0_ticksToRing_9 rfl hl (by decide) rfl (fun ls hl => ?_)
  refine lv_aload_n hx hb dX0_ticksToRing_10 rfl (lv_at hl 1 rfl) ?_
  refine g_get hx hb hts hown inA0 hK hP 1 (by decide) xc1 rfl 1 (by decide) tw36 rfl (v := .ref (a 2)) rfl dX0_ticksToRing_11 ?_
  refine lv_iload_n hx hb dX0_ticksToRing_14 rfl (lv_at hl 2 rfl) ?_
  refine g_iald hx hb hK hP 2 (by decide) xc2 d rfl (by omega) (by decide) dX0_ticksToRing_15 (v := s 1 d) rfl ?_
  refine lv_istore_n (lv' := [(3, .int (s 1 d)), (2, .int ((s 1 d) / 60)), (0, .ref (a 1)), (1, .int (nI d))]) hx hb dX0_ticksToRing_16 rfl hl (by decide) rfl (fun ls hl => ?_)
  refine lv_iconst (v := 1) hx hb dX0_ticksToRing_17 (by decide) ?_
  refine lv_istore (lv' := [(4, .int 1), (3, .int (s 1 d)), (2, .int ((s 1 d) / 60)), (0, .ref (a 1)), (1, .int (nI d))]) hx hb dX0_ticksToRing_18 hl (by decide) rfl (fun ls hl => ?_)
  have loop20 : ∀ (fu : Nat) (t : Nat) (x : Int32), 201 + 1 ≤ t + fu → (1 ≤ t ∧ t ≤ 201) → (ringF s d (s 1 d / 60) 200 1 (s 1 d) = ringF s d (s 1 d / 60) (201 - t) t x) → ∀ ls : Array Slot, lv_has ls 5 [(0, .ref (a 1)), (1, .int (nI d)), (2, .int ((s 1 d) / 60)), (3, .int x), (4, .int (nI t))] → W p l e ({ frames := 1, cells := 0, slots := 0, locals := 23 } : Room) z m ([.ref (a 1), .int (nI d)] : List Value).toArray below meth c z.heap [] 0 0 (MQ below (vp_Si (fun r => r = ringF s d (s 1 d / 60) 200 1 (s 1 d))) ([.ref (a 1), .int (nI d)] : List Value).toArray z 0 0 (fun _ => False)) (F0 m 20 ls []) := by
    intro fu
    induction fu with
    | zero => intro t x hn ht hR; exact absurd hn (by omega)
    | succ fu ih20 =>
      intro t x hn ht hR ls hl
      refine lv_iload hx hb dX0_ticksToRing_20 (lv_at hl 4 rfl) ?_
      refine lv_sipush (v := 200) hx hb dX0_ticksToRing_22 (by decide) ?_
      refine lv_icmp_gt (tgt := 52) hx hb dX0_ticksToRing_25 (by decide) (fun c1 => ?_) (fun c1 => ?_)
      · skip
        have c1x := Int32.not_le.mpr c1
        have c1n := (nI_lt2 (p := 200) (q := t) rfl rfl (by omega) (by omega)).mp c1
        have c1n : 200 < t := c1n
        have hjq : 201 = t := by omega
        subst hjq
        refine lv_iconst (v := (-1)) hx hb dX0_ticksToRing_52 (by decide) ?_
        exact ro_ir hx hb hr rfl hlocks (by rw [hR]; rfl) dX0_ticksToRing_53
      · skip
        have c1x := Int32.not_lt.mp c1
        have c1n := fun hq0 => c1 ((nI_lt2 (p := 200) (q := t) rfl rfl (by omega) (by omega)).mpr hq0)
        have c1n : ¬ (200 < t) := c1n
        refine lv_aload_n hx hb dX0_ticksToRing_28 rfl (lv_at hl 0 rfl) ?_
        refine lv_iload_n hx hb dX0_ticksToRing_29 rfl (lv_at hl 1 rfl) ?_
        refine lv_iload_n hx hb dX0_ticksToRing_30 rfl (lv_at hl 3 rfl) ?_
        refine ro_i (va_runV (As := [.int (nI d), .int x]) (rest := []) ⟨hx, hb, hml, hown, hts⟩ (m_X0_afterTick l D cI cS a s st pi mi po d (by omega) x) (cwV 2 hts (gV tw389 tw386 tw387 tw388 tw3) rfl rfl rfl (by decide +kernel) ⟨Nat.le_of_ble_eq_true rfl, Nat.le_of_ble_eq_true rfl⟩) (pvR 1 hK hP (by decide) xc1 rfl) rfl rfl hl.1 rfl (lv_room (Nat.le_of_ble_eq_true rfl)) dX0_ticksToRing_31 ⟨Nat.le_of_ble_eq_true rfl, Nat.le_of_ble_eq_true rfl⟩) (fun r3 hr2 => ?_)
        subst hr2
        refine lv_istore_n (lv' := [(3, .int (aftI s d x)), (0, .ref (a 1)), (1, .int (nI d)), (2, .int ((s 1 d) / 60)), (4, .int (nI t))]) hx hb dX0_ticksToRing_34 rfl hl (by decide) rfl (fun ls hl => ?_)
        refine lv_iload_n hx hb dX0_ticksToRing_35 rfl (lv_at hl 0 rfl) ?_
        refine lv_bipush (v := 60) hx hb dX0_ticksToRing_36 (by decide) ?_
        refine lv_idiv hx hb dX0_ticksToRing_38 (by decide) ?_
        refine lv_iload_n hx hb dX0_ticksToRing_39 rfl (lv_at hl 3 rfl) ?_
        refine lv_icmp_le (tgt := 46) hx hb dX0_ticksToRing_40 (by decide) (fun c5 => ?_) (fun c5 => ?_)
        · skip
          have c5x := Int32.not_lt.mpr c5
          refine lv_iinc (v := nI (t + 1)) (lv' := [(4, .int (nI (t + 1))), (3, .int (aftI s d x)), (0, .ref (a 1)), (1, .int (nI d)), (2, .int ((s 1 d) / 60))]) hx hb dX0_ticksToRing_46 hl (k := 4) rfl (nI_add t 1) (by decide) rfl (fun ls hl => ?_)
          refine lv_goto (tgt := 20) hx hb dX0_ticksToRing_49 (by decide) ?_
          exact ih20 (t + 1) (aftI s d x) (by omega) (⟨by omega, by omega⟩) (by rw [hR, show 201 - t = (201 - (t + 1)) + 1 by omega, ringF, if_neg c5x]) ls (lv_sub hl [2, 3, 4, 1, 0] rfl)
        · skip
          have c5x := Int32.not_le.mp c5
          refine lv_iload hx hb dX0_ticksToRing_43 (lv_at hl 4 rfl) ?_
          exact ro_ir hx hb hr rfl hlocks (by rw [hR, show 201 - t = (201 - (t + 1)) + 1 by omega, ringF, if_pos c5x]) dX0_ticksToRing_45
  exact loop20 (201 + 1) 1 (s 1 d) (by omega) (⟨by omega, by omega⟩) rfl ls (lv_sub hl [3, 4, 2, 1, 0] rfl)

set_option maxHeartbeats 4000000 in
set_option maxRecDepth 100000 in
theorem m_X5_lessen (l : Launch) (D : va_G) (cI cS : ClassId) (a : Nat → Nat) (s : St) (st : Nat → St) (pi : Nat → Nat) (mi po : St) (w : Nat) (hw : w < 7) (zz : Nat) : Met l yX5_lessen (.code yX5_lessen cX5_lessen 2 none :: wsA) ({ frames := 0, cells := 0, slots := 0, locals := 0 } : Room) (va_Pc [.ref (a 8), .int (nI w)] (PW D cI cS 113 a (exC cI cS a s st pi mi po) zz)) (va_Qv (fun (u : Unit) => True) (BW D 113 a (fun u => exC cI cS a (lessS s w) st pi mi po)) (AX 113 a zz)) 0 0 (AX 113 a zz) := by
  refine mgo (by decide) (Nat.le_of_ble_eq_true rfl) ?_
  intro p e z m below meth c hx hb hr hml hown hts hlocks hB ls hl
  obtain ⟨hsz, hP, hK, hE⟩ := hB
  subst hsz
  have hS : va_S (AX 113 a z.heap.size) z.heap z.heap [] := va_S.rf
  have hl : lv_has ls 2 [(0, .ref (a 8)), (1, .int (nI w))] := hl
  refine lv_aload_n hx hb dX5_lessen_0 rfl (lv_at hl 0 rfl) ?_
  refine g_get hx hb hts hown inA5 hK hP 8 (by decide) xc8 rfl 0 (by decide) tw70 rfl (v := .ref (a 9)) rfl dX5_lessen_1 ?_
  refine lv_iload_n hx hb dX5_lessen_4 rfl (lv_at hl 1 rfl) ?_
  refine g_iald hx hb hK hP 9 (by decide) xc9 w rfl (by omega) (by decide) dX5_lessen_5 (v := s 7 w) rfl ?_
  refine lv_if_le (tgt := 29) hx hb dX5_lessen_6 (by decide) (fun c1 => ?_) (fun c1 => ?_)
  · skip
    have c1x := Int32.not_lt.mpr c1
    have hWs : (lessS s w) = s := by unfold lessS; rw [if_neg c1x]
    have hP := hP.cast (e' := exC cI cS a (lessS s w) st pi mi po) (by rw [hWs])
    exact rw_vr hx hb hr hlocks hS () hP trivial dX5_lessen_29
  · skip
    have c1x := Int32.not_le.mp c1
    refine lv_aload_n hx hb dX5_lessen_9 rfl (lv_at hl 0 rfl) ?_
    refine g_get hx hb hts hown inA5 hK hP 8 (by decide) xc8 rfl 0 (by decide) tw70 rfl (v := .ref (a 9)) rfl dX5_lessen_10 ?_
    refine lv_iload_n hx hb dX5_lessen_13 rfl (lv_at hl 1 rfl) ?_
    refine lv_dup2_11 hx hb dX5_lessen_14 rfl rfl ?_
    refine g_iald hx hb hK hP 9 (by decide) xc9 w rfl (by omega) (by decide) dX5_lessen_15 (v := s 7 w) rfl ?_
    refine lv_iconst (v := 1) hx hb dX5_lessen_16 (by decide) ?_
    refine lv_isub hx hb dX5_lessen_17 ?_
    refine g_iast hx hb hK hP hE hS 9 (by decide) xc9 w rfl (by omega) (by omega) dX5_lessen_18 (ex' := exC cI cS a (up2 s 7 w ((s 7 w) - 1)) st pi mi po) rfl (xo_row (by decide) (by decide)) (fun H locs hP hS => ?_)
    refine lv_aload_n hx hb dX5_lessen_19 rfl (lv_at hl 0 rfl) ?_
    refine g_get hx hb hts hown inA5 hK hP 8 (by decide) xc8 rfl 2 (by decide) tw75 rfl (v := .ref (a 11)) rfl dX5_lessen_20 ?_
    refine lv_iload_n hx hb dX5_lessen_23 rfl (lv_at hl 1 rfl) ?_
    refine lv_dup2_11 hx hb dX5_lessen_24 rfl rfl ?_
    refine g_iald hx hb hK hP 11 (by decide) xc11 w rfl (by omega) (by decide) dX5_lessen_25 (v := s 9 w) (by simp [up2, upR, upd]) ?_
    refine lv_iconst (v := 1) hx hb dX5_lessen_26 (by decide) ?_
    refine lv_iadd hx hb dX5_lessen_27 ?_
    refine g_iast hx hb hK hP hE hS 11 (by decide) xc11 w rfl (by omega) (by omega) dX5_lessen_28 (ex' := exC cI cS a (up2 (up2 s 7 w ((s 7 w) - 1)) 9 w ((s 9 w) + 1)) st pi mi po) rfl (xo_row (by decide) (by decide)) (fun H locs hP hS => ?_)
    have hWs : (lessS s w) = (up2 (up2 s 7 w ((s 7 w) - 1)) 9 w ((s 9 w) + 1)) := by unfold lessS; rw [if_pos c1x]
    have hP := hP.cast (e' := exC cI cS a (lessS s w) st pi mi po) (by rw [hWs])
    exact rw_vr hx hb hr hlocks hS () hP trivial dX5_lessen_29

set_option maxHeartbeats 4000000 in
set_option maxRecDepth 100000 in
theorem m_X4_wordOf (l : Launch) (D : va_G) (cI cS : ClassId) (a : Nat → Nat) (s : St) (st : Nat → St) (pi : Nat → Nat) (mi po : St) (w : Nat) (hw : w < 7) : Met l yX4_wordOf (.code yX4_wordOf cX4_wordOf 2 (some .int) :: wsA) ({ frames := 1, cells := 0, slots := 0, locals := 23 } : Room) (va_Pc [.ref (a 0), .int (nI w)] (PR D cI cS 113 a (exC cI cS a s st pi mi po))) (vp_Si (fun r => r = wordA s w)) 0 0 (fun _ => False) := by
  refine mgo (by decide) (Nat.le_of_ble_eq_true rfl) ?_
  intro p e z m below meth c hx hb hr hml hown hts hlocks hB ls hl
  obtain ⟨hP, hK⟩ := hB
  have hl : lv_has ls 2 [(0, .ref (a 0)), (1, .int (nI w))] := hl
  refine lv_aload_n hx hb dX4_wordOf_0 rfl (lv_at hl 0 rfl) ?_
  refine g_get hx hb hts hown inA4 hK hP 0 (by decide) xc0 rfl 1 (by decide) tw86 rfl (v := .ref (a 8)) rfl dX4_wordOf_1 ?_
  refine lv_iload_n hx hb dX4_wordOf_4 rfl (lv_at hl 1 rfl) ?_
  refine lv_aload_n hx hb dX4_wordOf_5 rfl (lv_at hl 0 rfl) ?_
  refine g_get hx hb hts hown inA4 hK hP 0 (by decide) xc0 rfl 0 (by decide) tw84 rfl (v := .ref (a 1)) rfl dX4_wordOf_6 ?_
  refine g_getN hx hb hts hown inA0 hK hP 1 (by decide) xc1 rfl 1 (by decide) tn37 rfl (v := .ref (a 2)) rfl dX4_wordOf_9 ?_
  refine lv_iload_n hx hb dX4_wordOf_12 rfl (lv_at hl 1 rfl) ?_
  refine g_iald hx hb hK hP 2 (by decide) xc2 w rfl (by omega) (by decide) dX4_wordOf_13 (v := s 1 w) rfl ?_
  refine ro_i (va_runV (As := [.int (nI w), .int (s 1 w)]) (rest := []) ⟨hx, hb, hml, hown, hts⟩ (m_X5_wordFor l D cI cS a s st pi mi po w (by omega) (s 1 w)) (cwV 2 hts (gV tw267 tw264 tw265 tw266 tw4) rfl rfl rfl (by decide +kernel) ⟨Nat.le_of_ble_eq_true rfl, Nat.le_of_ble_eq_true rfl⟩) (pvR 8 hK hP (by decide) xc8 rfl) rfl rfl hl.1 rfl (lv_room (Nat.le_of_ble_eq_true rfl)) dX4_wordOf_14 ⟨Nat.le_of_ble_eq_true rfl, Nat.le_of_ble_eq_true rfl⟩) (fun r2 hr1 => ?_)
  subst hr1
  exact ro_ir hx hb hr rfl hlocks rfl dX4_wordOf_17

set_option maxHeartbeats 4000000 in
set_option maxRecDepth 100000 in
theorem m_X4_hear (l : Launch) (D : va_G) (cI cS : ClassId) (a : Nat → Nat) (s : St) (st : Nat → St) (pi : Nat → Nat) (mi po : St) (x : Int32) (zz : Nat) : Met l yX4_hear (.code yX4_hear cX4_hear 2 none :: wsA) ({ frames := 0, cells := 0, slots := 0, locals := 0 } : Room) (va_Pc [.ref (a 0), .int x] (PW D cI cS 113 a (exC cI cS a s st pi mi po) zz)) (va_Qv (fun (u : Unit) => True) (BW D 113 a (fun u => exC cI cS a (hearS s x) st pi mi po)) (AX 113 a zz)) 0 0 (AX 113 a zz) := by
  refine mgo (by decide) (Nat.le_of_ble_eq_true rfl) ?_
  intro p e z m below meth c hx hb hr hml hown hts hlocks hB ls hl
  obtain ⟨hsz, hP, hK, hE⟩ := hB
  subst hsz
  have hS : va_S (AX 113 a z.heap.size) z.heap z.heap [] := va_S.rf
  have hl : lv_has ls 2 [(0, .ref (a 0)), (1, .int x)] := hl
  refine lv_aload_n hx hb dX4_hear_0 rfl (lv_at hl 0 rfl) ?_
  refine lv_dup hx hb dX4_hear_1 rfl ?_
  refine g_get hx hb hts hown inA4 hK hP 0 (by decide) xc0 rfl 4 (by decide) tw93 rfl (v := .int (s 0 2)) rfl dX4_hear_2 ?_
  refine lv_iconst (v := 1) hx hb dX4_hear_5 (by decide) ?_
  refine lv_iadd hx hb dX4_hear_6 ?_
  refine g_put hx hb hts hown inA4 tyX4 tyX4_ok nmX4 hK hP hE hS 0 (by decide) xc0 rfl 4 (by decide) tw93 rfl rfl (ty := .int) (by decide +kernel) rfl rfl (Nat.le_of_ble_eq_true rfl) dX4_hear_7 (ex' := exC cI cS a (up2 s 0 2 ((s 0 2) + 1)) st pi mi po) rfl (xo_sc (by decide)) (fun H locs hP hS => ?_)
  refine lv_iload_n hx hb dX4_hear_10 rfl (lv_at hl 1 rfl) ?_
  refine lv_aload_n hx hb dX4_hear_11 rfl (lv_at hl 0 rfl) ?_
  refine g_get hx hb hts hown inA4 hK hP 0 (by decide) xc0 rfl 3 (by decide) tw91 rfl (v := .int (s 0 1)) rfl dX4_hear_12 ?_
  refine lv_icmp_le (tgt := 26) hx hb dX4_hear_15 (by decide) (fun c1 => ?_) (fun c1 => ?_)
  · skip
    have c1x := Int32.not_lt.mpr c1
    refine lv_aload_n hx hb dX4_hear_26 rfl (lv_at hl 0 rfl) ?_
    refine lv_dup hx hb dX4_hear_27 rfl ?_
    refine g_get hx hb hts hown inA4 hK hP 0 (by decide) xc0 rfl 5 (by decide) tw95 rfl (v := .int (s 0 3)) rfl dX4_hear_28 ?_
    refine lv_iconst (v := 1) hx hb dX4_hear_31 (by decide) ?_
    refine lv_iadd hx hb dX4_hear_32 ?_
    refine g_put hx hb hts hown inA4 tyX4 tyX4_ok nmX4 hK hP hE hS 0 (by decide) xc0 rfl 5 (by decide) tw95 rfl rfl (ty := .int) (by decide +kernel) rfl rfl (Nat.le_of_ble_eq_true rfl) dX4_hear_33 (ex' := exC cI cS a (up2 (up2 s 0 2 ((s 0 2) + 1)) 0 3 ((s 0 3) + 1)) st pi mi po) rfl (xo_sc (by decide)) (fun H locs hP hS => ?_)
    have hWs : (hearS s x) = (up2 (up2 s 0 2 ((s 0 2) + 1)) 0 3 ((s 0 3) + 1)) := by unfold hearS; rw [if_neg c1x]
    have hP := hP.cast (e' := exC cI cS a (hearS s x) st pi mi po) (by rw [hWs])
    exact rw_vr hx hb hr hlocks hS () hP trivial dX4_hear_36
  · skip
    have c1x := Int32.not_le.mp c1
    refine lv_aload_n hx hb dX4_hear_18 rfl (lv_at hl 0 rfl) ?_
    refine lv_iload_n hx hb dX4_hear_19 rfl (lv_at hl 1 rfl) ?_
    refine g_put hx hb hts hown inA4 tyX4 tyX4_ok nmX4 hK hP hE hS 0 (by decide) xc0 rfl 3 (by decide) tw91 rfl rfl (ty := .int) (by decide +kernel) rfl rfl (Nat.le_of_ble_eq_true rfl) dX4_hear_20 (ex' := exC cI cS a (up2 (up2 s 0 2 ((s 0 2) + 1)) 0 1 x) st pi mi po) rfl (xo_sc (by decide)) (fun H locs hP hS => ?_)
    refine lv_goto (tgt := 36) hx hb dX4_hear_23 (by decide) ?_
    have hWs : (hearS s x) = (up2 (up2 s 0 2 ((s 0 2) + 1)) 0 1 x) := by unfold hearS; rw [if_pos c1x]
    have hP := hP.cast (e' := exC cI cS a (hearS s x) st pi mi po) (by rw [hWs])
    exact rw_vr hx hb hr hlocks hS () hP trivial dX4_hear_36

set_option maxHeartbeats 4000000 in
set_option maxRecDepth 100000 in
theorem m_X4_wordsQuarrel (l : Launch) (D : va_G) (cI cS : ClassId) (a : Nat → Nat) (s : St) (st : Nat → St) (pi : Nat → Nat) (mi po : St) (x y : Int32) : Met l yX4_wordsQuarrel (.code yX4_wordsQuarrel cX4_wordsQuarrel 3 (some .boolean) :: wsA) ({ frames := 1, cells := 0, slots := 0, locals := 21 } : Room) (va_Pc [.ref (a 0), .int x, .int y] (PR D cI cS 113 a (exC cI cS a s st pi mi po))) (vp_Si (fun r => r = bI (wqB s x y))) 0 0 (fun _ => False) := by
  refine mgo (by decide) (Nat.le_of_ble_eq_true rfl) ?_
  intro p e z m below meth c hx hb hr hml hown hts hlocks hB ls hl
  obtain ⟨hP, hK⟩ := hB
  have hl : lv_has ls 3 [(0, .ref (a 0)), (1, .int x), (2, .int y)] := hl
  refine lv_iload_n hx hb dX4_wordsQuarrel_0 rfl (lv_at hl 1 rfl) ?_
  refine lv_iload_n hx hb dX4_wordsQuarrel_1 rfl (lv_at hl 2 rfl) ?_
  refine ro_i (va_runSN (As := [.int x, .int y]) (rest := []) ⟨hx, hb, hml, hown, hts⟩ (m_X6_distance l x y) ⟨va_cnB 2 hts (gA tw319) rfl rfl rfl (hK.2 _ tn317) (hts _ tw1) (by decide +kernel) ⟨Nat.le_of_ble_eq_true rfl, Nat.le_of_ble_eq_true rfl⟩, hts _ tw318, trivial⟩ ps0 rfl rfl hl.1 rfl (lv_room (Nat.le_of_ble_eq_true rfl)) dX4_wordsQuarrel_2 ⟨Nat.le_of_ble_eq_true rfl, Nat.le_of_ble_eq_true rfl⟩) (fun r2 hr1 => ?_)
  subst hr1
  refine lv_aload_n hx hb dX4_wordsQuarrel_5 rfl (lv_at hl 0 rfl) ?_
  refine g_get hx hb hts hown inA4 hK hP 0 (by decide) xc0 rfl 2 (by decide) tw89 rfl (v := .ref (a 12)) rfl dX4_wordsQuarrel_6 ?_
  refine lv_iconst (v := 0) hx hb dX4_wordsQuarrel_9 (by decide) ?_
  refine g_iald hx hb hK hP 12 (by decide) xc12 0 rfl (by omega) (by decide) dX4_wordsQuarrel_10 (v := s 10 0) rfl ?_
  refine lv_icmp_le (tgt := 18) hx hb dX4_wordsQuarrel_11 (by decide) (fun c4 => ?_) (fun c4 => ?_)
  · skip
    have c4x := Int32.not_lt.mpr c4
    refine lv_iconst (v := 0) hx hb dX4_wordsQuarrel_18 (by decide) ?_
    exact ro_ir hx hb hr rfl hlocks (bI_f (by first | assumption | simp [wqB, c4, c4x])).symm dX4_wordsQuarrel_19
  · skip
    have c4x := Int32.not_le.mp c4
    refine lv_iconst (v := 1) hx hb dX4_wordsQuarrel_14 (by decide) ?_
    refine lv_goto (tgt := 19) hx hb dX4_wordsQuarrel_15 (by decide) ?_
    exact ro_ir hx hb hr rfl hlocks (bI_t (by first | assumption | simp [wqB, c4, c4x])).symm dX4_wordsQuarrel_19

set_option maxHeartbeats 4000000 in
set_option maxRecDepth 100000 in
theorem m_X4_quarrelsBehind (l : Launch) (D : va_G) (cI cS : ClassId) (a : Nat → Nat) (s : St) (st : Nat → St) (pi : Nat → Nat) (mi po : St) (d : Nat) (hd : d < 7) : Met l yX4_quarrelsBehind (.code yX4_quarrelsBehind cX4_quarrelsBehind 2 (some .boolean) :: wsA) ({ frames := 2, cells := 0, slots := 0, locals := 44 } : Room) (va_Pc [.ref (a 0), .int (nI d)] (PR D cI cS 113 a (exC cI cS a s st pi mi po))) (vp_Si (fun r => r = bI (quarB s d))) 0 0 (fun _ => False) := by
  refine mgo (by decide) (Nat.le_of_ble_eq_true rfl) ?_
  intro p e z m below meth c hx hb hr hml hown hts hlocks hB ls hl
  obtain ⟨hP, hK⟩ := hB
  have hl : lv_has ls 2 [(0, .ref (a 0)), (1, .int (nI d))] := hl
  refine lv_aload_n hx hb dX4_quarrelsBehind_0 rfl (lv_at hl 0 rfl) ?_
  refine lv_aload_n hx hb dX4_quarrelsBehind_1 rfl (lv_at hl 0 rfl) ?_
  refine lv_iload_n hx hb dX4_quarrelsBehind_2 rfl (lv_at hl 1 rfl) ?_
  refine ro_i (va_runV (As := [.int (nI d)]) (rest := [.ref (a 0)]) ⟨hx, hb, hml, hown, hts⟩ (m_X4_wordOf l D cI cS a s st pi mi po d (by omega)) (cwV 1 hts (gV tw263 tw309 tw261 tw262 tw2) rfl rfl rfl (by decide +kernel) ⟨Nat.le_of_ble_eq_true rfl, Nat.le_of_ble_eq_true rfl⟩) (pvR 0 hK hP (by decide) xc0 rfl) rfl rfl hl.1 rfl (lv_room (Nat.le_of_ble_eq_true rfl)) dX4_quarrelsBehind_3 ⟨Nat.le_of_ble_eq_true rfl, Nat.le_of_ble_eq_true rfl⟩) (fun r2 hr1 => ?_)
  subst hr1
  refine lv_aload_n hx hb dX4_quarrelsBehind_6 rfl (lv_at hl 0 rfl) ?_
  refine lv_iload_n hx hb dX4_quarrelsBehind_7 rfl (lv_at hl 1 rfl) ?_
  refine ro_i (va_runSN (As := [.int (nI d)]) (rest := [.ref (a 0), .int (wordA s d), .ref (a 0)]) ⟨hx, hb, hml, hown, hts⟩ (m_X6_dialBehind l d (by omega)) ⟨va_cnB 1 hts (gA tw312) rfl rfl rfl (hK.2 _ tn310) (hts _ tw1) (by decide +kernel) ⟨Nat.le_of_ble_eq_true rfl, Nat.le_of_ble_eq_true rfl⟩, hts _ tw311, trivial⟩ ps0 rfl rfl hl.1 rfl (lv_room (Nat.le_of_ble_eq_true rfl)) dX4_quarrelsBehind_8 ⟨Nat.le_of_ble_eq_true rfl, Nat.le_of_ble_eq_true rfl⟩) (fun r5 hr4 => ?_)
  subst hr4
  have hbd := behN_lt (d := d)
  refine ro_i (va_runV (As := [.int (nI (behN d))]) (rest := [.int (wordA s d), .ref (a 0)]) ⟨hx, hb, hml, hown, hts⟩ (m_X4_wordOf l D cI cS a s st pi mi po (behN d) (by omega)) (cwV 1 hts (gV tw263 tw309 tw261 tw262 tw2) rfl rfl rfl (by decide +kernel) ⟨Nat.le_of_ble_eq_true rfl, Nat.le_of_ble_eq_true rfl⟩) (pvR 0 hK hP (by decide) xc0 rfl) rfl rfl hl.1 rfl (lv_room (Nat.le_of_ble_eq_true rfl)) dX4_quarrelsBehind_11 ⟨Nat.le_of_ble_eq_true rfl, Nat.le_of_ble_eq_true rfl⟩) (fun r8 hr7 => ?_)
  subst hr7
  refine ro_i (va_runV (As := [.int (wordA s d), .int (wordA s (behN d))]) (rest := []) ⟨hx, hb, hml, hown, hts⟩ (m_X4_wordsQuarrel l D cI cS a s st pi mi po (wordA s d) (wordA s (behN d))) (cwV 2 hts (gV tw316 tw313 tw315 ts6 tw2) rfl rfl rfl (by decide +kernel) ⟨Nat.le_of_ble_eq_true rfl, Nat.le_of_ble_eq_true rfl⟩) (pvR 0 hK hP (by decide) xc0 rfl) rfl rfl hl.1 rfl (lv_room (Nat.le_of_ble_eq_true rfl)) dX4_quarrelsBehind_14 ⟨Nat.le_of_ble_eq_true rfl, Nat.le_of_ble_eq_true rfl⟩) (fun r11 hr10 => ?_)
  subst hr10
  refine lv_bI (fun c13 => ?_) (fun c13 => ?_)
  · skip
    exact ro_ir hx hb hr rfl hlocks (bI_t (by first | assumption | simp [quarB, c13])).symm dX4_quarrelsBehind_17
  · skip
    exact ro_ir hx hb hr rfl hlocks (bI_f (by first | assumption | simp [quarB, c13])).symm dX4_quarrelsBehind_17

set_option maxHeartbeats 4000000 in
set_option maxRecDepth 100000 in
theorem m_X4_quarrels (l : Launch) (D : va_G) (cI cS : ClassId) (a : Nat → Nat) (s : St) (st : Nat → St) (pi : Nat → Nat) (mi po : St) : Met l yX4_quarrels (.code yX4_quarrels cX4_quarrels 3 (some .int) :: wsA) ({ frames := 3, cells := 0, slots := 0, locals := 65 } : Room) (va_Pc [.ref (a 0)] (PR D cI cS 113 a (exC cI cS a s st pi mi po))) (vp_Si (fun r => r = quarC s 7)) 0 0 (fun _ => False) := by
  refine mgo (by decide) (Nat.le_of_ble_eq_true rfl) ?_
  intro p e z m below meth c hx hb hr hml hown hts hlocks hB ls hl
  obtain ⟨hP, hK⟩ := hB
  have hl : lv_has ls 3 [(0, .ref (a 0))] := hl
  refine lv_iconst (v := 0) hx hb dX4_quarrels_0 (by decide) ?_
  refine lv_istore_n (lv' := [(1, .int 0), (0, .ref (a 0))]) hx hb dX4_quarrels_1 rfl hl (by decide) rfl (fun ls hl => ?_)
  refine lv_iconst (v := 0) hx hb dX4_quarrels_2 (by decide) ?_
  refine lv_istore_n (lv' := [(2, .int 0), (1, .int 0), (0, .ref (a 0))]) hx hb dX4_quarrels_3 rfl hl (by decide) rfl (fun ls hl => ?_)
  have loop4 : ∀ (fu : Nat) (j : Nat) (x : Int32), 7 + 1 ≤ j + fu → (j ≤ 7) → (x = quarC s j) → ∀ ls : Array Slot, lv_has ls 3 [(0, .ref (a 0)), (1, .int x), (2, .int (nI j))] → W p l e ({ frames := 3, cells := 0, slots := 0, locals := 65 } : Room) z m ([.ref (a 0)] : List Value).toArray below meth c z.heap [] 0 0 (MQ below (vp_Si (fun r => r = quarC s 7)) ([.ref (a 0)] : List Value).toArray z 0 0 (fun _ => False)) (F0 m 4 ls []) := by
    intro fu
    induction fu with
    | zero => intro j x hn hj hx1; exact absurd hn (by omega)
    | succ fu ih4 =>
      intro j x hn hj hx1 ls hl
      refine lv_iload_n hx hb dX4_quarrels_4 rfl (lv_at hl 2 rfl) ?_
      refine lv_bipush (v := 7) hx hb dX4_quarrels_5 (by decide) ?_
      refine lv_icmp_ge (tgt := 32) hx hb dX4_quarrels_7 (by decide) (fun c1 => ?_) (fun c1 => ?_)
      · skip
        have c1x := Int32.not_lt.mpr c1
        have c1n := (nI_le2 (p := 7) (q := j) rfl rfl (by omega) (by omega)).mp c1
        have c1n : 7 ≤ j := c1n
        have hjq : 7 = j := by omega
        subst hjq
        refine lv_iload_n hx hb dX4_quarrels_32 rfl (lv_at hl 1 rfl) ?_
        exact ro_ir hx hb hr rfl hlocks hx1 dX4_quarrels_33
      · skip
        have c1x := Int32.not_le.mp c1
        have c1n := fun hq0 => c1 ((nI_le2 (p := 7) (q := j) rfl rfl (by omega) (by omega)).mpr hq0)
        have c1n : ¬ (7 ≤ j) := c1n
        refine lv_iload_n hx hb dX4_quarrels_10 rfl (lv_at hl 1 rfl) ?_
        refine lv_aload_n hx hb dX4_quarrels_11 rfl (lv_at hl 0 rfl) ?_
        refine lv_iload_n hx hb dX4_quarrels_12 rfl (lv_at hl 2 rfl) ?_
        refine ro_i (va_runV (As := [.int (nI j)]) (rest := [.int x]) ⟨hx, hb, hml, hown, hts⟩ (m_X4_quarrelsBehind l D cI cS a s st pi mi po j (by omega)) (cwV 1 hts (gV tw308 tw305 tw306 tw307 tw2) rfl rfl rfl (by decide +kernel) ⟨Nat.le_of_ble_eq_true rfl, Nat.le_of_ble_eq_true rfl⟩) (pvR 0 hK hP (by decide) xc0 rfl) rfl rfl hl.1 rfl (lv_room (Nat.le_of_ble_eq_true rfl)) dX4_quarrels_13 ⟨Nat.le_of_ble_eq_true rfl, Nat.le_of_ble_eq_true rfl⟩) (fun r3 hr2 => ?_)
        subst hr2
        refine lv_bI (fun c5 => ?_) (fun c5 => ?_)
        · skip
          refine lv_if_eq (tgt := 23) hx hb dX4_quarrels_16 (by decide) (fun h0 => absurd h0 (by decide)) (fun _ => ?_)
          refine lv_iconst (v := 1) hx hb dX4_quarrels_19 (by decide) ?_
          refine lv_goto (tgt := 24) hx hb dX4_quarrels_20 (by decide) ?_
          refine lv_iadd hx hb dX4_quarrels_24 ?_
          refine lv_istore_n (lv' := [(1, .int (x + 1)), (0, .ref (a 0)), (2, .int (nI j))]) hx hb dX4_quarrels_25 rfl hl (by decide) rfl (fun ls hl => ?_)
          refine lv_iinc (v := nI (j + 1)) (lv' := [(2, .int (nI (j + 1))), (1, .int (x + 1)), (0, .ref (a 0))]) hx hb dX4_quarrels_26 hl (k := 2) rfl (nI_add j 1) (by decide) rfl (fun ls hl => ?_)
          refine lv_goto (tgt := 4) hx hb dX4_quarrels_29 (by decide) ?_
          exact ih4 (j + 1) (x + 1) (by omega) (by omega) (by simp [quarC, hx1, c1, c1x, c1n, c5]) ls (lv_sub hl [2, 1, 0] rfl)
        · skip
          refine lv_if_eq (tgt := 23) hx hb dX4_quarrels_16 (by decide) (fun _ => ?_) (fun h0 => absurd (by decide) h0)
          refine lv_iconst (v := 0) hx hb dX4_quarrels_23 (by decide) ?_
          refine lv_iadd hx hb dX4_quarrels_24 ?_
          refine lv_istore_n (lv' := [(1, .int (x + 0)), (0, .ref (a 0)), (2, .int (nI j))]) hx hb dX4_quarrels_25 rfl hl (by decide) rfl (fun ls hl => ?_)
          refine lv_iinc (v := nI (j + 1)) (lv' := [(2, .int (nI (j + 1))), (1, .int (x + 0)), (0, .ref (a 0))]) hx hb dX4_quarrels_26 hl (k := 2) rfl (nI_add j 1) (by decide) rfl (fun ls hl => ?_)
          refine lv_goto (tgt := 4) hx hb dX4_quarrels_29 (by decide) ?_
          exact ih4 (j + 1) (x + 0) (by omega) (by omega) (by simp [quarC, hx1, c1, c1x, c1n, c5]) ls (lv_sub hl [2, 1, 0] rfl)
  exact loop4 (7 + 1) 0 0 (by omega) (by omega) rfl ls (lv_sub hl [2, 1, 0] rfl)

set_option maxHeartbeats 4000000 in
set_option maxRecDepth 100000 in
theorem m_X4_isOff (l : Launch) (D : va_G) (cI cS : ClassId) (a : Nat → Nat) (s : St) (st : Nat → St) (pi : Nat → Nat) (mi po : St) (d : Nat) (hd : d < 7) : Met l yX4_isOff (.code yX4_isOff cX4_isOff 2 (some .boolean) :: wsA) ({ frames := 1, cells := 0, slots := 0, locals := 21 } : Room) (va_Pc [.ref (a 0), .int (nI d)] (PR D cI cS 113 a (exC cI cS a s st pi mi po))) (vp_Si (fun r => r = bI (offB s d))) 0 0 (fun _ => False) := by
  refine mgo (by decide) (Nat.le_of_ble_eq_true rfl) ?_
  intro p e z m below meth c hx hb hr hml hown hts hlocks hB ls hl
  obtain ⟨hP, hK⟩ := hB
  have hl : lv_has ls 2 [(0, .ref (a 0)), (1, .int (nI d))] := hl
  refine lv_aload_n hx hb dX4_isOff_0 rfl (lv_at hl 0 rfl) ?_
  refine g_get hx hb hts hown inA4 hK hP 0 (by decide) xc0 rfl 0 (by decide) tw84 rfl (v := .ref (a 1)) rfl dX4_isOff_1 ?_
  refine g_getN hx hb hts hown inA0 hK hP 1 (by decide) xc1 rfl 1 (by decide) tn37 rfl (v := .ref (a 2)) rfl dX4_isOff_4 ?_
  refine lv_iload_n hx hb dX4_isOff_7 rfl (lv_at hl 1 rfl) ?_
  refine g_iald hx hb hK hP 2 (by decide) xc2 d rfl (by omega) (by decide) dX4_isOff_8 (v := s 1 d) rfl ?_
  refine lv_aload_n hx hb dX4_isOff_9 rfl (lv_at hl 0 rfl) ?_
  refine g_get hx hb hts hown inA4 hK hP 0 (by decide) xc0 rfl 3 (by decide) tw91 rfl (v := .int (s 0 1)) rfl dX4_isOff_10 ?_
  refine ro_i (va_runSN (As := [.int (s 1 d), .int (s 0 1)]) (rest := []) ⟨hx, hb, hml, hown, hts⟩ (m_X6_distance l (s 1 d) (s 0 1)) ⟨va_cnB 2 hts (gA tw319) rfl rfl rfl (hK.2 _ tn317) (hts _ tw1) (by decide +kernel) ⟨Nat.le_of_ble_eq_true rfl, Nat.le_of_ble_eq_true rfl⟩, hts _ tw318, trivial⟩ ps0 rfl rfl hl.1 rfl (lv_room (Nat.le_of_ble_eq_true rfl)) dX4_isOff_13 ⟨Nat.le_of_ble_eq_true rfl, Nat.le_of_ble_eq_true rfl⟩) (fun r2 hr1 => ?_)
  subst hr1
  refine lv_aload_n hx hb dX4_isOff_16 rfl (lv_at hl 0 rfl) ?_
  refine g_get hx hb hts hown inA4 hK hP 0 (by decide) xc0 rfl 2 (by decide) tw89 rfl (v := .ref (a 12)) rfl dX4_isOff_17 ?_
  refine lv_iconst (v := 1) hx hb dX4_isOff_20 (by decide) ?_
  refine g_iald hx hb hK hP 12 (by decide) xc12 1 rfl (by omega) (by decide) dX4_isOff_21 (v := s 10 1) rfl ?_
  refine lv_icmp_le (tgt := 29) hx hb dX4_isOff_22 (by decide) (fun c4 => ?_) (fun c4 => ?_)
  · skip
    have c4x := Int32.not_lt.mpr c4
    refine lv_iconst (v := 0) hx hb dX4_isOff_29 (by decide) ?_
    exact ro_ir hx hb hr rfl hlocks (bI_f (by first | assumption | simp [offB, c4, c4x])).symm dX4_isOff_30
  · skip
    have c4x := Int32.not_le.mp c4
    refine lv_iconst (v := 1) hx hb dX4_isOff_25 (by decide) ?_
    refine lv_goto (tgt := 30) hx hb dX4_isOff_26 (by decide) ?_
    exact ro_ir hx hb hr rfl hlocks (bI_t (by first | assumption | simp [offB, c4, c4x])).symm dX4_isOff_30

set_option maxHeartbeats 4000000 in
set_option maxRecDepth 100000 in
theorem m_X4_dialsOff (l : Launch) (D : va_G) (cI cS : ClassId) (a : Nat → Nat) (s : St) (st : Nat → St) (pi : Nat → Nat) (mi po : St) : Met l yX4_dialsOff (.code yX4_dialsOff cX4_dialsOff 3 (some .int) :: wsA) ({ frames := 2, cells := 0, slots := 0, locals := 42 } : Room) (va_Pc [.ref (a 0)] (PR D cI cS 113 a (exC cI cS a s st pi mi po))) (vp_Si (fun r => r = offC s 7)) 0 0 (fun _ => False) := by
  refine mgo (by decide) (Nat.le_of_ble_eq_true rfl) ?_
  intro p e z m below meth c hx hb hr hml hown hts hlocks hB ls hl
  obtain ⟨hP, hK⟩ := hB
  have hl : lv_has ls 3 [(0, .ref (a 0))] := hl
  refine lv_iconst (v := 0) hx hb dX4_dialsOff_0 (by decide) ?_
  refine lv_istore_n (lv' := [(1, .int 0), (0, .ref (a 0))]) hx hb dX4_dialsOff_1 rfl hl (by decide) rfl (fun ls hl => ?_)
  refine lv_iconst (v := 0) hx hb dX4_dialsOff_2 (by decide) ?_
  refine lv_istore_n (lv' := [(2, .int 0), (1, .int 0), (0, .ref (a 0))]) hx hb dX4_dialsOff_3 rfl hl (by decide) rfl (fun ls hl => ?_)
  have loop4 : ∀ (fu : Nat) (j : Nat) (x : Int32), 7 + 1 ≤ j + fu → (j ≤ 7) → (x = offC s j) → ∀ ls : Array Slot, lv_has ls 3 [(0, .ref (a 0)), (1, .int x), (2, .int (nI j))] → W p l e ({ frames := 2, cells := 0, slots := 0, locals := 42 } : Room) z m ([.ref (a 0)] : List Value).toArray below meth c z.heap [] 0 0 (MQ below (vp_Si (fun r => r = offC s 7)) ([.ref (a 0)] : List Value).toArray z 0 0 (fun _ => False)) (F0 m 4 ls []) := by
    intro fu
    induction fu with
    | zero => intro j x hn hj hx1; exact absurd hn (by omega)
    | succ fu ih4 =>
      intro j x hn hj hx1 ls hl
      refine lv_iload_n hx hb dX4_dialsOff_4 rfl (lv_at hl 2 rfl) ?_
      refine lv_bipush (v := 7) hx hb dX4_dialsOff_5 (by decide) ?_
      refine lv_icmp_ge (tgt := 32) hx hb dX4_dialsOff_7 (by decide) (fun c1 => ?_) (fun c1 => ?_)
      · skip
        have c1x := Int32.not_lt.mpr c1
        have c1n := (nI_le2 (p := 7) (q := j) rfl rfl (by omega) (by omega)).mp c1
        have c1n : 7 ≤ j := c1n
        have hjq : 7 = j := by omega
        subst hjq
        refine lv_iload_n hx hb dX4_dialsOff_32 rfl (lv_at hl 1 rfl) ?_
        exact ro_ir hx hb hr rfl hlocks hx1 dX4_dialsOff_33
      · skip
        have c1x := Int32.not_le.mp c1
        have c1n := fun hq0 => c1 ((nI_le2 (p := 7) (q := j) rfl rfl (by omega) (by omega)).mpr hq0)
        have c1n : ¬ (7 ≤ j) := c1n
        refine lv_iload_n hx hb dX4_dialsOff_10 rfl (lv_at hl 1 rfl) ?_
        refine lv_aload_n hx hb dX4_dialsOff_11 rfl (lv_at hl 0 rfl) ?_
        refine lv_iload_n hx hb dX4_dialsOff_12 rfl (lv_at hl 2 rfl) ?_
        refine ro_i (va_runV (As := [.int (nI j)]) (rest := [.int x]) ⟨hx, hb, hml, hown, hts⟩ (m_X4_isOff l D cI cS a s st pi mi po j (by omega)) (cwV 1 hts (gV tw332 tw329 tw330 tw331 tw2) rfl rfl rfl (by decide +kernel) ⟨Nat.le_of_ble_eq_true rfl, Nat.le_of_ble_eq_true rfl⟩) (pvR 0 hK hP (by decide) xc0 rfl) rfl rfl hl.1 rfl (lv_room (Nat.le_of_ble_eq_true rfl)) dX4_dialsOff_13 ⟨Nat.le_of_ble_eq_true rfl, Nat.le_of_ble_eq_true rfl⟩) (fun r3 hr2 => ?_)
        subst hr2
        refine lv_bI (fun c5 => ?_) (fun c5 => ?_)
        · skip
          refine lv_if_eq (tgt := 23) hx hb dX4_dialsOff_16 (by decide) (fun h0 => absurd h0 (by decide)) (fun _ => ?_)
          refine lv_iconst (v := 1) hx hb dX4_dialsOff_19 (by decide) ?_
          refine lv_goto (tgt := 24) hx hb dX4_dialsOff_20 (by decide) ?_
          refine lv_iadd hx hb dX4_dialsOff_24 ?_
          refine lv_istore_n (lv' := [(1, .int (x + 1)), (0, .ref (a 0)), (2, .int (nI j))]) hx hb dX4_dialsOff_25 rfl hl (by decide) rfl (fun ls hl => ?_)
          refine lv_iinc (v := nI (j + 1)) (lv' := [(2, .int (nI (j + 1))), (1, .int (x + 1)), (0, .ref (a 0))]) hx hb dX4_dialsOff_26 hl (k := 2) rfl (nI_add j 1) (by decide) rfl (fun ls hl => ?_)
          refine lv_goto (tgt := 4) hx hb dX4_dialsOff_29 (by decide) ?_
          exact ih4 (j + 1) (x + 1) (by omega) (by omega) (by simp [offC, hx1, c1, c1x, c1n, c5]) ls (lv_sub hl [2, 1, 0] rfl)
        · skip
          refine lv_if_eq (tgt := 23) hx hb dX4_dialsOff_16 (by decide) (fun _ => ?_) (fun h0 => absurd (by decide) h0)
          refine lv_iconst (v := 0) hx hb dX4_dialsOff_23 (by decide) ?_
          refine lv_iadd hx hb dX4_dialsOff_24 ?_
          refine lv_istore_n (lv' := [(1, .int (x + 0)), (0, .ref (a 0)), (2, .int (nI j))]) hx hb dX4_dialsOff_25 rfl hl (by decide) rfl (fun ls hl => ?_)
          refine lv_iinc (v := nI (j + 1)) (lv' := [(2, .int (nI (j + 1))), (1, .int (x + 0)), (0, .ref (a 0))]) hx hb dX4_dialsOff_26 hl (k := 2) rfl (nI_add j 1) (by decide) rfl (fun ls hl => ?_)
          refine lv_goto (tgt := 4) hx hb dX4_dialsOff_29 (by decide) ?_
          exact ih4 (j + 1) (x + 0) (by omega) (by omega) (by simp [offC, hx1, c1, c1x, c1n, c5]) ls (lv_sub hl [2, 1, 0] rfl)
  exact loop4 (7 + 1) 0 0 (by omega) (by omega) rfl ls (lv_sub hl [2, 1, 0] rfl)

set_option maxHeartbeats 4000000 in
set_option maxRecDepth 100000 in
theorem m_X4_nearestAllowed (l : Launch) (D : va_G) (cI cS : ClassId) (a : Nat → Nat) (s : St) (st : Nat → St) (pi : Nat → Nat) (mi po : St) (d : Nat) (hd : d < 7) : Met l yX4_nearestAllowed (.code yX4_nearestAllowed cX4_nearestAllowed 3 (some .int) :: wsA) ({ frames := 0, cells := 0, slots := 0, locals := 0 } : Room) (va_Pc [.ref (a 0), .int (nI d)] (PR D cI cS 113 a (exC cI cS a s st pi mi po))) (vp_Si (fun r => r = nearI s d)) 0 0 (fun _ => False) := by
  refine mgo (by decide) (Nat.le_of_ble_eq_true rfl) ?_
  intro p e z m below meth c hx hb hr hml hown hts hlocks hB ls hl
  obtain ⟨hP, hK⟩ := hB
  have hl : lv_has ls 3 [(0, .ref (a 0)), (1, .int (nI d))] := hl
  refine lv_aload_n hx hb dX4_nearestAllowed_0 rfl (lv_at hl 0 rfl) ?_
  refine g_get hx hb hts hown inA4 hK hP 0 (by decide) xc0 rfl 2 (by decide) tw89 rfl (v := .ref (a 12)) rfl dX4_nearestAllowed_1 ?_
  refine lv_iconst (v := 1) hx hb dX4_nearestAllowed_4 (by decide) ?_
  refine g_iald hx hb hK hP 12 (by decide) xc12 1 rfl (by omega) (by decide) dX4_nearestAllowed_5 (v := s 10 1) rfl ?_
  refine lv_istore_n (lv' := [(2, .int (s 10 1)), (0, .ref (a 0)), (1, .int (nI d))]) hx hb dX4_nearestAllowed_6 rfl hl (by decide) rfl (fun ls hl => ?_)
  refine lv_aload_n hx hb dX4_nearestAllowed_7 rfl (lv_at hl 1 rfl) ?_
  refine g_get hx hb hts hown inA4 hK hP 0 (by decide) xc0 rfl 0 (by decide) tw84 rfl (v := .ref (a 1)) rfl dX4_nearestAllowed_8 ?_
  refine g_getN hx hb hts hown inA0 hK hP 1 (by decide) xc1 rfl 1 (by decide) tn37 rfl (v := .ref (a 2)) rfl dX4_nearestAllowed_11 ?_
  refine lv_iload_n hx hb dX4_nearestAllowed_14 rfl (lv_at hl 2 rfl) ?_
  refine g_iald hx hb hK hP 2 (by decide) xc2 d rfl (by omega) (by decide) dX4_nearestAllowed_15 (v := s 1 d) rfl ?_
  refine lv_aload_n hx hb dX4_nearestAllowed_16 rfl (lv_at hl 1 rfl) ?_
  refine g_get hx hb hts hown inA4 hK hP 0 (by decide) xc0 rfl 3 (by decide) tw91 rfl (v := .int (s 0 1)) rfl dX4_nearestAllowed_17 ?_
  refine lv_icmp_ge (tgt := 32) hx hb dX4_nearestAllowed_20 (by decide) (fun c1 => ?_) (fun c1 => ?_)
  · skip
    have c1x := Int32.not_lt.mpr c1
    refine lv_aload_n hx hb dX4_nearestAllowed_32 rfl (lv_at hl 1 rfl) ?_
    refine g_get hx hb hts hown inA4 hK hP 0 (by decide) xc0 rfl 3 (by decide) tw91 rfl (v := .int (s 0 1)) rfl dX4_nearestAllowed_33 ?_
    refine lv_iload_n hx hb dX4_nearestAllowed_36 rfl (lv_at hl 0 rfl) ?_
    refine lv_iadd hx hb dX4_nearestAllowed_37 ?_
    exact ro_ir hx hb hr rfl hlocks (by simp [nearI, c1, c1x]) dX4_nearestAllowed_38
  · skip
    have c1x := Int32.not_le.mp c1
    refine lv_aload_n hx hb dX4_nearestAllowed_23 rfl (lv_at hl 1 rfl) ?_
    refine g_get hx hb hts hown inA4 hK hP 0 (by decide) xc0 rfl 3 (by decide) tw91 rfl (v := .int (s 0 1)) rfl dX4_nearestAllowed_24 ?_
    refine lv_iload_n hx hb dX4_nearestAllowed_27 rfl (lv_at hl 0 rfl) ?_
    refine lv_isub hx hb dX4_nearestAllowed_28 ?_
    refine lv_goto (tgt := 38) hx hb dX4_nearestAllowed_29 (by decide) ?_
    exact ro_ir hx hb hr rfl hlocks (by simp [nearI, c1, c1x]) dX4_nearestAllowed_38

set_option maxHeartbeats 4000000 in
set_option maxRecDepth 100000 in
theorem m_X4_correctDials (l : Launch) (D : va_G) (cI cS : ClassId) (a : Nat → Nat) (s : St) (st : Nat → St) (pi : Nat → Nat) (mi po : St) (zz : Nat) : Met l yX4_correctDials (.code yX4_correctDials cX4_correctDials 3 (some .int) :: wsA) ({ frames := 2, cells := 0, slots := 0, locals := 47 } : Room) (va_Pc [.ref (a 0)] (PW D cI cS 113 a (exC cI cS a s st pi mi po) zz)) (va_Qi (fun (r : Int32) (u : Unit) => r = corA 7 s) (BW D 113 a (fun u => exC cI cS a (corS 7 s) st pi mi po)) (AX 113 a zz)) 0 0 (AX 113 a zz) := by
  refine mgo (by decide) (Nat.le_of_ble_eq_true rfl) ?_
  intro p e z m below meth c hx hb hr hml hown hts hlocks hB ls hl
  obtain ⟨hsz, hP, hK, hE⟩ := hB
  subst hsz
  have hS : va_S (AX 113 a z.heap.size) z.heap z.heap [] := va_S.rf
  have hl : lv_has ls 3 [(0, .ref (a 0))] := hl
  refine lv_iconst (v := 0) hx hb dX4_correctDials_0 (by decide) ?_
  refine lv_istore_n (lv' := [(1, .int 0), (0, .ref (a 0))]) hx hb dX4_correctDials_1 rfl hl (by decide) rfl (fun ls hl => ?_)
  refine lv_iconst (v := 0) hx hb dX4_correctDials_2 (by decide) ?_
  refine lv_istore_n (lv' := [(2, .int 0), (1, .int 0), (0, .ref (a 0))]) hx hb dX4_correctDials_3 rfl hl (by decide) rfl (fun ls hl => ?_)
  have loop4 : ∀ (fu : Nat) (j : Nat) (x : Int32) (t : St), 7 + 1 ≤ j + fu → (j ≤ 7) → (x = corA j s) → (t = corS j s) → ∀ (H : Heap) (locs : List Loc), HP D 113 a (exC cI cS a t st pi mi po) H → va_S (AX 113 a z.heap.size) z.heap H locs → ∀ ls : Array Slot, lv_has ls 3 [(0, .ref (a 0)), (1, .int x), (2, .int (nI j))] → W p l e ({ frames := 2, cells := 0, slots := 0, locals := 47 } : Room) z m ([.ref (a 0)] : List Value).toArray below meth c H locs 0 0 (MQ below (va_Qi (fun (r : Int32) (u : Unit) => r = corA 7 s) (BW D 113 a (fun u => exC cI cS a (corS 7 s) st pi mi po)) (AX 113 a z.heap.size)) ([.ref (a 0)] : List Value).toArray z 0 0 (AX 113 a z.heap.size)) (F0 m 4 ls []) := by
    intro fu
    induction fu with
    | zero => intro j x t hn hj hx1 ht; exact absurd hn (by omega)
    | succ fu ih4 =>
      intro j x t hn hj hx1 ht H locs hP hS ls hl
      refine lv_iload_n hx hb dX4_correctDials_4 rfl (lv_at hl 2 rfl) ?_
      refine lv_bipush (v := 7) hx hb dX4_correctDials_5 (by decide) ?_
      refine lv_icmp_ge (tgt := 40) hx hb dX4_correctDials_7 (by decide) (fun c1 => ?_) (fun c1 => ?_)
      · skip
        have c1x := Int32.not_lt.mpr c1
        have c1n := (nI_le2 (p := 7) (q := j) rfl rfl (by omega) (by omega)).mp c1
        have c1n : 7 ≤ j := c1n
        have hjq : 7 = j := by omega
        subst hjq
        refine lv_iload_n hx hb dX4_correctDials_40 rfl (lv_at hl 1 rfl) ?_
        have hWs : (corS 7 s) = t := by exact ht.symm
        have hP := hP.cast (e' := exC cI cS a (corS 7 s) st pi mi po) (by rw [hWs])
        exact rw_ir hx hb hr rfl hlocks hS () hP hx1 dX4_correctDials_41
      · skip
        have c1x := Int32.not_le.mp c1
        have c1n := fun hq0 => c1 ((nI_le2 (p := 7) (q := j) rfl rfl (by omega) (by omega)).mpr hq0)
        have c1n : ¬ (7 ≤ j) := c1n
        refine lv_aload_n hx hb dX4_correctDials_10 rfl (lv_at hl 0 rfl) ?_
        refine lv_iload_n hx hb dX4_correctDials_11 rfl (lv_at hl 2 rfl) ?_
        refine ro_i (va_runV (As := [.int (nI j)]) (rest := []) ⟨hx, hb, hml, hown, hts⟩ (m_X4_isOff l D cI cS a t st pi mi po j (by omega)) (cwV 1 hts (gV tw332 tw329 tw330 tw331 tw2) rfl rfl rfl (by decide +kernel) ⟨Nat.le_of_ble_eq_true rfl, Nat.le_of_ble_eq_true rfl⟩) (pvR 0 hK hP (by decide) xc0 rfl) rfl rfl hl.1 rfl (lv_room (Nat.le_of_ble_eq_true rfl)) dX4_correctDials_12 ⟨Nat.le_of_ble_eq_true rfl, Nat.le_of_ble_eq_true rfl⟩) (fun r3 hr2 => ?_)
        subst hr2
        refine lv_bI (fun c5 => ?_) (fun c5 => ?_)
        · skip
          refine lv_if_eq (tgt := 34) hx hb dX4_correctDials_15 (by decide) (fun h0 => absurd h0 (by decide)) (fun _ => ?_)
          refine lv_iload_n hx hb dX4_correctDials_18 rfl (lv_at hl 1 rfl) ?_
          refine lv_aload_n hx hb dX4_correctDials_19 rfl (lv_at hl 0 rfl) ?_
          refine g_get hx hb hts hown inA4 hK hP 0 (by decide) xc0 rfl 0 (by decide) tw84 rfl (v := .ref (a 1)) rfl dX4_correctDials_20 ?_
          refine lv_iload_n hx hb dX4_correctDials_23 rfl (lv_at hl 2 rfl) ?_
          refine lv_aload_n hx hb dX4_correctDials_24 rfl (lv_at hl 0 rfl) ?_
          refine lv_iload_n hx hb dX4_correctDials_25 rfl (lv_at hl 2 rfl) ?_
          refine ro_i (va_runV (As := [.int (nI j)]) (rest := [.int (nI j), .ref (a 1), .int x]) ⟨hx, hb, hml, hown, hts⟩ (m_X4_nearestAllowed l D cI cS a t st pi mi po j (by omega)) (cwV 1 hts (gV tw446 tw443 tw445 ts14 tw2) rfl rfl rfl (by decide +kernel) ⟨Nat.le_of_ble_eq_true rfl, Nat.le_of_ble_eq_true rfl⟩) (pvR 0 hK hP (by decide) xc0 rfl) rfl rfl hl.1 rfl (lv_room (Nat.le_of_ble_eq_true rfl)) dX4_correctDials_26 ⟨Nat.le_of_ble_eq_true rfl, Nat.le_of_ble_eq_true rfl⟩) (fun r7 hr6 => ?_)
          subst hr6
          refine rw_i hS (va_runV (As := [.int (nI j), .int (nearI t j)]) (rest := [.int x]) ⟨hx, hb, hml, hown, hts⟩ (m_X0_moveTo l D cI cS a t st pi mi po j (by omega) (nearI t j) _) (cwV 2 hts (gV tw450 tw447 tw448 tw449 tw3) rfl rfl rfl (by decide +kernel) ⟨Nat.le_of_ble_eq_true rfl, Nat.le_of_ble_eq_true rfl⟩) (pvW 1 hK hP hE (by decide) xc1 rfl) rfl rfl hl.1 rfl (lv_room (Nat.le_of_ble_eq_true rfl)) dX4_correctDials_29 ⟨Nat.le_of_ble_eq_true rfl, Nat.le_of_ble_eq_true rfl⟩) (fun r10 u11 H locs hr9 hP hS => ?_)
          subst hr9
          refine lv_iadd hx hb dX4_correctDials_32 ?_
          refine lv_istore_n (lv' := [(1, .int (x + (mvR t j (nearI t j)))), (0, .ref (a 0)), (2, .int (nI j))]) hx hb dX4_correctDials_33 rfl hl (by decide) rfl (fun ls hl => ?_)
          refine lv_iinc (v := nI (j + 1)) (lv' := [(2, .int (nI (j + 1))), (1, .int (x + (mvR t j (nearI t j)))), (0, .ref (a 0))]) hx hb dX4_correctDials_34 hl (k := 2) rfl (nI_add j 1) (by decide) rfl (fun ls hl => ?_)
          refine lv_goto (tgt := 4) hx hb dX4_correctDials_37 (by decide) ?_
          exact ih4 (j + 1) (x + (mvR t j (nearI t j))) (mvS t j (nearI t j)) (by omega) (by omega) (by rw [corA, ← ht, ← hx1]; simp [c1, c1x, c1n, c5]) (by rw [corS, ← ht]; simp [c1, c1x, c1n, c5]) _ _ hP hS ls (lv_sub hl [2, 1, 0] rfl)
        · skip
          refine lv_if_eq (tgt := 34) hx hb dX4_correctDials_15 (by decide) (fun _ => ?_) (fun h0 => absurd (by decide) h0)
          refine lv_iinc (v := nI (j + 1)) (lv' := [(2, .int (nI (j + 1))), (0, .ref (a 0)), (1, .int x)]) hx hb dX4_correctDials_34 hl (k := 2) rfl (nI_add j 1) (by decide) rfl (fun ls hl => ?_)
          refine lv_goto (tgt := 4) hx hb dX4_correctDials_37 (by decide) ?_
          exact ih4 (j + 1) x t (by omega) (by omega) (by rw [corA, ← ht, ← hx1]; simp [c1, c1x, c1n, c5]) (by rw [corS, ← ht]; simp [c1, c1x, c1n, c5]) _ _ hP hS ls (lv_sub hl [1, 2, 0] rfl)
  exact loop4 (7 + 1) 0 0 s (by omega) (by omega) rfl rfl _ _ hP hS ls (lv_sub hl [2, 1, 0] rfl)

set_option maxHeartbeats 4000000 in
set_option maxRecDepth 100000 in
theorem m_X4_ticksToQuarrel (l : Launch) (D : va_G) (cI cS : ClassId) (a : Nat → Nat) (s : St) (st : Nat → St) (pi : Nat → Nat) (mi po : St) (d : Nat) (hd : d < 7) : Met l yX4_ticksToQuarrel (.code yX4_ticksToQuarrel cX4_ticksToQuarrel 6 (some .int) :: wsA) ({ frames := 2, cells := 0, slots := 0, locals := 43 } : Room) (va_Pc [.ref (a 0), .int (nI d)] (PR D cI cS 113 a (exC cI cS a s st pi mi po))) (vp_Si (fun r => r = qF s d (behN d) 201 0 (s 1 d) (s 1 (behN d)))) 0 0 (fun _ => False) := by
  refine mgo (by decide) (Nat.le_of_ble_eq_true rfl) ?_
  intro p e z m below meth c hx hb hr hml hown hts hlocks hB ls hl
  obtain ⟨hP, hK⟩ := hB
  have hl : lv_has ls 6 [(0, .ref (a 0)), (1, .int (nI d))] := hl
  refine lv_iload_n hx hb dX4_ticksToQuarrel_0 rfl (lv_at hl 1 rfl) ?_
  refine ro_i (va_runSN (As := [.int (nI d)]) (rest := []) ⟨hx, hb, hml, hown, hts⟩ (m_X6_dialBehind l d (by omega)) ⟨va_cnB 1 hts (gA tw312) rfl rfl rfl (hK.2 _ tn310) (hts _ tw1) (by decide +kernel) ⟨Nat.le_of_ble_eq_true rfl, Nat.le_of_ble_eq_true rfl⟩, hts _ tw311, trivial⟩ ps0 rfl rfl hl.1 rfl (lv_room (Nat.le_of_ble_eq_true rfl)) dX4_ticksToQuarrel_1 ⟨Nat.le_of_ble_eq_true rfl, Nat.le_of_ble_eq_true rfl⟩) (fun r2 hr1 => ?_)
  subst hr1
  have hbd := behN_lt (d := d)
  refine lv_istore_n (lv' := [(2, .int (nI (behN d))), (0, .ref (a 0)), (1, .int (nI d))]) hx hb dX4_ticksToQuarrel_4 rfl hl (by decide) rfl (fun ls hl => ?_)
  refine lv_aload_n hx hb dX4_ticksToQuarrel_5 rfl (lv_at hl 1 rfl) ?_
  refine g_get hx hb hts hown inA4 hK hP 0 (by decide) xc0 rfl 0 (by decide) tw84 rfl (v := .ref (a 1)) rfl dX4_ticksToQuarrel_6 ?_
  refine g_getN hx hb hts hown inA0 hK hP 1 (by decide) xc1 rfl 1 (by decide) tn37 rfl (v := .ref (a 2)) rfl dX4_ticksToQuarrel_9 ?_
  refine lv_iload_n hx hb dX4_ticksToQuarrel_12 rfl (lv_at hl 2 rfl) ?_
  refine g_iald hx hb hK hP 2 (by decide) xc2 d rfl (by omega) (by decide) dX4_ticksToQuarrel_13 (v := s 1 d) rfl ?_
  refine lv_istore_n (lv' := [(3, .int (s 1 d)), (2, .int (nI (behN d))), (0, .ref (a 0)), (1, .int (nI d))]) hx hb dX4_ticksToQuarrel_14 rfl hl (by decide) rfl (fun ls hl => ?_)
  refine lv_aload_n hx hb dX4_ticksToQuarrel_15 rfl (lv_at hl 2 rfl) ?_
  refine g_get hx hb hts hown inA4 hK hP 0 (by decide) xc0 rfl 0 (by decide) tw84 rfl (v := .ref (a 1)) rfl dX4_ticksToQuarrel_16 ?_
  refine g_getN hx hb hts hown inA0 hK hP 1 (by decide) xc1 rfl 1 (by decide) tn37 rfl (v := .ref (a 2)) rfl dX4_ticksToQuarrel_19 ?_
  refine lv_iload_n hx hb dX4_ticksToQuarrel_22 rfl (lv_at hl 1 rfl) ?_
  refine g_iald hx hb hK hP 2 (by decide) xc2 (behN d) rfl (by omega) (by decide) dX4_ticksToQuarrel_23 (v := s 1 (behN d)) rfl ?_
  refine lv_istore (lv' := [(4, .int (s 1 (behN d))), (3, .int (s 1 d)), (2, .int (nI (behN d))), (0, .ref (a 0)), (1, .int (nI d))]) hx hb dX4_ticksToQuarrel_24 hl (by decide) rfl (fun ls hl => ?_)
  refine lv_iconst (v := 0) hx hb dX4_ticksToQuarrel_26 (by decide) ?_
  refine lv_istore (lv' := [(5, .int 0), (4, .int (s 1 (behN d))), (3, .int (s 1 d)), (2, .int (nI (behN d))), (0, .ref (a 0)), (1, .int (nI d))]) hx hb dX4_ticksToQuarrel_27 hl (by decide) rfl (fun ls hl => ?_)
  have loop29 : ∀ (fu : Nat) (t : Nat) (x : Int32) (y : Int32), 201 + 1 ≤ t + fu → (t ≤ 201) → (qF s d (behN d) 201 0 (s 1 d) (s 1 (behN d)) = qF s d (behN d) (201 - t) t x y) → ∀ ls : Array Slot, lv_has ls 6 [(0, .ref (a 0)), (1, .int (nI d)), (2, .int (nI (behN d))), (3, .int x), (4, .int y), (5, .int (nI t))] → W p l e ({ frames := 2, cells := 0, slots := 0, locals := 43 } : Room) z m ([.ref (a 0), .int (nI d)] : List Value).toArray below meth c z.heap [] 0 0 (MQ below (vp_Si (fun r => r = qF s d (behN d) 201 0 (s 1 d) (s 1 (behN d)))) ([.ref (a 0), .int (nI d)] : List Value).toArray z 0 0 (fun _ => False)) (F0 m 29 ls []) := by
    intro fu
    induction fu with
    | zero => intro t x y hn ht hR; exact absurd hn (by omega)
    | succ fu ih29 =>
      intro t x y hn ht hR ls hl
      refine lv_iload hx hb dX4_ticksToQuarrel_29 (lv_at hl 5 rfl) ?_
      refine lv_sipush (v := 200) hx hb dX4_ticksToQuarrel_31 (by decide) ?_
      refine lv_icmp_gt (tgt := 94) hx hb dX4_ticksToQuarrel_34 (by decide) (fun c4 => ?_) (fun c4 => ?_)
      · skip
        have c4x := Int32.not_le.mpr c4
        have c4n := (nI_lt2 (p := 200) (q := t) rfl rfl (by omega) (by omega)).mp c4
        have c4n : 200 < t := c4n
        have hjq : 201 = t := by omega
        subst hjq
        refine lv_iconst (v := (-1)) hx hb dX4_ticksToQuarrel_94 (by decide) ?_
        exact ro_ir hx hb hr rfl hlocks (by rw [hR]; rfl) dX4_ticksToQuarrel_95
      · skip
        have c4x := Int32.not_lt.mp c4
        have c4n := fun hq0 => c4 ((nI_lt2 (p := 200) (q := t) rfl rfl (by omega) (by omega)).mpr hq0)
        have c4n : ¬ (200 < t) := c4n
        refine lv_aload_n hx hb dX4_ticksToQuarrel_37 rfl (lv_at hl 0 rfl) ?_
        refine lv_aload_n hx hb dX4_ticksToQuarrel_38 rfl (lv_at hl 0 rfl) ?_
        refine g_get hx hb hts hown inA4 hK hP 0 (by decide) xc0 rfl 1 (by decide) tw86 rfl (v := .ref (a 8)) rfl dX4_ticksToQuarrel_39 ?_
        refine lv_iload_n hx hb dX4_ticksToQuarrel_42 rfl (lv_at hl 1 rfl) ?_
        refine lv_iload_n hx hb dX4_ticksToQuarrel_43 rfl (lv_at hl 3 rfl) ?_
        refine ro_i (va_runV (As := [.int (nI d), .int x]) (rest := [.ref (a 0)]) ⟨hx, hb, hml, hown, hts⟩ (m_X5_wordFor l D cI cS a s st pi mi po d (by omega) x) (cwV 2 hts (gV tw267 tw264 tw265 tw266 tw4) rfl rfl rfl (by decide +kernel) ⟨Nat.le_of_ble_eq_true rfl, Nat.le_of_ble_eq_true rfl⟩) (pvR 8 hK hP (by decide) xc8 rfl) rfl rfl hl.1 rfl (lv_room (Nat.le_of_ble_eq_true rfl)) dX4_ticksToQuarrel_44 ⟨Nat.le_of_ble_eq_true rfl, Nat.le_of_ble_eq_true rfl⟩) (fun r6 hr5 => ?_)
        subst hr5
        refine lv_aload_n hx hb dX4_ticksToQuarrel_47 rfl (lv_at hl 0 rfl) ?_
        refine g_get hx hb hts hown inA4 hK hP 0 (by decide) xc0 rfl 1 (by decide) tw86 rfl (v := .ref (a 8)) rfl dX4_ticksToQuarrel_48 ?_
        refine lv_iload_n hx hb dX4_ticksToQuarrel_51 rfl (lv_at hl 2 rfl) ?_
        refine lv_iload hx hb dX4_ticksToQuarrel_52 (lv_at hl 4 rfl) ?_
        refine ro_i (va_runV (As := [.int (nI (behN d)), .int y]) (rest := [.int (wordF s d x), .ref (a 0)]) ⟨hx, hb, hml, hown, hts⟩ (m_X5_wordFor l D cI cS a s st pi mi po (behN d) (by omega) y) (cwV 2 hts (gV tw267 tw264 tw265 tw266 tw4) rfl rfl rfl (by decide +kernel) ⟨Nat.le_of_ble_eq_true rfl, Nat.le_of_ble_eq_true rfl⟩) (pvR 8 hK hP (by decide) xc8 rfl) rfl rfl hl.1 rfl (lv_room (Nat.le_of_ble_eq_true rfl)) dX4_ticksToQuarrel_54 ⟨Nat.le_of_ble_eq_true rfl, Nat.le_of_ble_eq_true rfl⟩) (fun r9 hr8 => ?_)
        subst hr8
        refine ro_i (va_runV (As := [.int (wordF s d x), .int (wordF s (behN d) y)]) (rest := []) ⟨hx, hb, hml, hown, hts⟩ (m_X4_wordsQuarrel l D cI cS a s st pi mi po (wordF s d x) (wordF s (behN d) y)) (cwV 2 hts (gV tw316 tw313 tw315 ts6 tw2) rfl rfl rfl (by decide +kernel) ⟨Nat.le_of_ble_eq_true rfl, Nat.le_of_ble_eq_true rfl⟩) (pvR 0 hK hP (by decide) xc0 rfl) rfl rfl hl.1 rfl (lv_room (Nat.le_of_ble_eq_true rfl)) dX4_ticksToQuarrel_57 ⟨Nat.le_of_ble_eq_true rfl, Nat.le_of_ble_eq_true rfl⟩) (fun r12 hr11 => ?_)
        subst hr11
        refine lv_bI (fun c14 => ?_) (fun c14 => ?_)
        · skip
          refine lv_if_eq (tgt := 66) hx hb dX4_ticksToQuarrel_60 (by decide) (fun h0 => absurd h0 (by decide)) (fun _ => ?_)
          refine lv_iload hx hb dX4_ticksToQuarrel_63 (lv_at hl 5 rfl) ?_
          exact ro_ir hx hb hr rfl hlocks (by rw [hR, show 201 - t = (201 - (t + 1)) + 1 by omega, qF, if_pos c14]) dX4_ticksToQuarrel_65
        · skip
          refine lv_if_eq (tgt := 66) hx hb dX4_ticksToQuarrel_60 (by decide) (fun _ => ?_) (fun h0 => absurd (by decide) h0)
          refine lv_aload_n hx hb dX4_ticksToQuarrel_66 rfl (lv_at hl 0 rfl) ?_
          refine g_get hx hb hts hown inA4 hK hP 0 (by decide) xc0 rfl 0 (by decide) tw84 rfl (v := .ref (a 1)) rfl dX4_ticksToQuarrel_67 ?_
          refine lv_iload_n hx hb dX4_ticksToQuarrel_70 rfl (lv_at hl 1 rfl) ?_
          refine lv_iload_n hx hb dX4_ticksToQuarrel_71 rfl (lv_at hl 3 rfl) ?_
          refine ro_i (va_runV (As := [.int (nI d), .int x]) (rest := []) ⟨hx, hb, hml, hown, hts⟩ (m_X0_afterTick l D cI cS a s st pi mi po d (by omega) x) (cwV 2 hts (gV tw389 tw570 tw387 tw388 tw3) rfl rfl rfl (by decide +kernel) ⟨Nat.le_of_ble_eq_true rfl, Nat.le_of_ble_eq_true rfl⟩) (pvR 1 hK hP (by decide) xc1 rfl) rfl rfl hl.1 rfl (lv_room (Nat.le_of_ble_eq_true rfl)) dX4_ticksToQuarrel_72 ⟨Nat.le_of_ble_eq_true rfl, Nat.le_of_ble_eq_true rfl⟩) (fun r16 hr15 => ?_)
          subst hr15
          refine lv_istore_n (lv' := [(3, .int (aftI s d x)), (0, .ref (a 0)), (1, .int (nI d)), (2, .int (nI (behN d))), (4, .int y), (5, .int (nI t))]) hx hb dX4_ticksToQuarrel_75 rfl hl (by decide) rfl (fun ls hl => ?_)
          refine lv_aload_n hx hb dX4_ticksToQuarrel_76 rfl (lv_at hl 1 rfl) ?_
          refine g_get hx hb hts hown inA4 hK hP 0 (by decide) xc0 rfl 0 (by decide) tw84 rfl (v := .ref (a 1)) rfl dX4_ticksToQuarrel_77 ?_
          refine lv_iload_n hx hb dX4_ticksToQuarrel_80 rfl (lv_at hl 3 rfl) ?_
          refine lv_iload hx hb dX4_ticksToQuarrel_81 (lv_at hl 4 rfl) ?_
          refine ro_i (va_runV (As := [.int (nI (behN d)), .int y]) (rest := []) ⟨hx, hb, hml, hown, hts⟩ (m_X0_afterTick l D cI cS a s st pi mi po (behN d) (by omega) y) (cwV 2 hts (gV tw389 tw570 tw387 tw388 tw3) rfl rfl rfl (by decide +kernel) ⟨Nat.le_of_ble_eq_true rfl, Nat.le_of_ble_eq_true rfl⟩) (pvR 1 hK hP (by decide) xc1 rfl) rfl rfl hl.1 rfl (lv_room (Nat.le_of_ble_eq_true rfl)) dX4_ticksToQuarrel_83 ⟨Nat.le_of_ble_eq_true rfl, Nat.le_of_ble_eq_true rfl⟩) (fun r19 hr18 => ?_)
          subst hr18
          refine lv_istore (lv' := [(4, .int (aftI s (behN d) y)), (3, .int (aftI s d x)), (0, .ref (a 0)), (1, .int (nI d)), (2, .int (nI (behN d))), (5, .int (nI t))]) hx hb dX4_ticksToQuarrel_86 hl (by decide) rfl (fun ls hl => ?_)
          refine lv_iinc (v := nI (t + 1)) (lv' := [(5, .int (nI (t + 1))), (4, .int (aftI s (behN d) y)), (3, .int (aftI s d x)), (0, .ref (a 0)), (1, .int (nI d)), (2, .int (nI (behN d)))]) hx hb dX4_ticksToQuarrel_88 hl (k := 5) rfl (nI_add t 1) (by decide) rfl (fun ls hl => ?_)
          refine lv_goto (tgt := 29) hx hb dX4_ticksToQuarrel_91 (by decide) ?_
          exact ih29 (t + 1) (aftI s d x) (aftI s (behN d) y) (by omega) (by omega) (by rw [hR, show 201 - t = (201 - (t + 1)) + 1 by omega, qF, if_neg c14]) ls (lv_sub hl [3, 4, 5, 2, 1, 0] rfl)
  exact loop29 (201 + 1) 0 (s 1 d) (s 1 (behN d)) (by omega) (by omega) rfl ls (lv_sub hl [4, 5, 3, 2, 1, 0] rfl)

set_option maxHeartbeats 4000000 in
set_option maxRecDepth 100000 in
theorem m_X4_settleQuarrel (l : Launch) (D : va_G) (cI cS : ClassId) (a : Nat → Nat) (s : St) (st : Nat → St) (pi : Nat → Nat) (mi po : St) (i j : Nat) (hi : i < 7) (hj : j < 7) (zz : Nat) : Met l yX4_settleQuarrel (.code yX4_settleQuarrel cX4_settleQuarrel 6 none :: wsA) ({ frames := 2, cells := 0, slots := 0, locals := 43 } : Room) (va_Pc [.ref (a 0), .ref (a 109), .int (nI i), .int (nI j)] (PW D cI cS 113 a (exC cI cS a s st pi mi po) zz)) (va_Qv (fun (u : Unit) => True) (BW D 113 a (fun u => exC cI cS a (setl s (po 0) i j) st pi mi po)) (AX 113 a zz)) 0 0 (AX 113 a zz) := by
  refine mgo (by decide) (Nat.le_of_ble_eq_true rfl) ?_
  intro p e z m below meth c hx hb hr hml hown hts hlocks hB ls hl
  obtain ⟨hsz, hP, hK, hE⟩ := hB
  subst hsz
  have hS : va_S (AX 113 a z.heap.size) z.heap z.heap [] := va_S.rf
  have hl : lv_has ls 6 [(0, .ref (a 0)), (1, .ref (a 109)), (2, .int (nI i)), (3, .int (nI j))] := hl
  refine lv_aload_n hx hb dX4_settleQuarrel_0 rfl (lv_at hl 0 rfl) ?_
  refine lv_aload_n hx hb dX4_settleQuarrel_1 rfl (lv_at hl 1 rfl) ?_
  refine lv_iload_n hx hb dX4_settleQuarrel_2 rfl (lv_at hl 2 rfl) ?_
  refine g_iald hx hb hK hP 109 (by decide) xc109 i rfl (by omega) (by decide) dX4_settleQuarrel_3 (v := po 0 i) rfl ?_
  refine lv_aload_n hx hb dX4_settleQuarrel_4 rfl (lv_at hl 1 rfl) ?_
  refine lv_iload_n hx hb dX4_settleQuarrel_5 rfl (lv_at hl 3 rfl) ?_
  refine g_iald hx hb hK hP 109 (by decide) xc109 j rfl (by omega) (by decide) dX4_settleQuarrel_6 (v := po 0 j) rfl ?_
  refine ro_i (va_runV (As := [.int (po 0 i), .int (po 0 j)]) (rest := []) ⟨hx, hb, hml, hown, hts⟩ (m_X4_wordsQuarrel l D cI cS a s st pi mi po (po 0 i) (po 0 j)) (cwV 2 hts (gV tw316 tw313 tw315 ts6 tw2) rfl rfl rfl (by decide +kernel) ⟨Nat.le_of_ble_eq_true rfl, Nat.le_of_ble_eq_true rfl⟩) (pvR 0 hK hP (by decide) xc0 rfl) rfl rfl hl.1 rfl (lv_room (Nat.le_of_ble_eq_true rfl)) dX4_settleQuarrel_7 ⟨Nat.le_of_ble_eq_true rfl, Nat.le_of_ble_eq_true rfl⟩) (fun r2 hr1 => ?_)
  subst hr1
  refine lv_bI (fun c4 => ?_) (fun c4 => ?_)
  · skip
    refine lv_if_ne (tgt := 14) hx hb dX4_settleQuarrel_10 (by decide) (fun _ => ?_) (fun h0 => absurd h0 (by decide))
    refine lv_aload_n hx hb dX4_settleQuarrel_14 rfl (lv_at hl 1 rfl) ?_
    refine lv_iload_n hx hb dX4_settleQuarrel_15 rfl (lv_at hl 2 rfl) ?_
    refine g_iald hx hb hK hP 109 (by decide) xc109 i rfl (by omega) (by decide) dX4_settleQuarrel_16 (v := po 0 i) rfl ?_
    refine lv_aload_n hx hb dX4_settleQuarrel_17 rfl (lv_at hl 0 rfl) ?_
    refine g_get hx hb hts hown inA4 hK hP 0 (by decide) xc0 rfl 3 (by decide) tw91 rfl (v := .int (s 0 1)) rfl dX4_settleQuarrel_18 ?_
    refine ro_i (va_runSN (As := [.int (po 0 i), .int (s 0 1)]) (rest := []) ⟨hx, hb, hml, hown, hts⟩ (m_X6_distance l (po 0 i) (s 0 1)) ⟨va_cnB 2 hts (gA tw319) rfl rfl rfl (hK.2 _ tn317) (hts _ tw1) (by decide +kernel) ⟨Nat.le_of_ble_eq_true rfl, Nat.le_of_ble_eq_true rfl⟩, hts _ tw318, trivial⟩ ps0 rfl rfl hl.1 rfl (lv_room (Nat.le_of_ble_eq_true rfl)) dX4_settleQuarrel_21 ⟨Nat.le_of_ble_eq_true rfl, Nat.le_of_ble_eq_true rfl⟩) (fun r6 hr5 => ?_)
    subst hr5
    refine lv_istore (lv' := [(4, .int (distI (po 0 i) (s 0 1))), (0, .ref (a 0)), (1, .ref (a 109)), (2, .int (nI i)), (3, .int (nI j))]) hx hb dX4_settleQuarrel_24 hl (by decide) rfl (fun ls hl => ?_)
    refine lv_aload_n hx hb dX4_settleQuarrel_26 rfl (lv_at hl 2 rfl) ?_
    refine lv_iload_n hx hb dX4_settleQuarrel_27 rfl (lv_at hl 4 rfl) ?_
    refine g_iald hx hb hK hP 109 (by decide) xc109 j rfl (by omega) (by decide) dX4_settleQuarrel_28 (v := po 0 j) rfl ?_
    refine lv_aload_n hx hb dX4_settleQuarrel_29 rfl (lv_at hl 1 rfl) ?_
    refine g_get hx hb hts hown inA4 hK hP 0 (by decide) xc0 rfl 3 (by decide) tw91 rfl (v := .int (s 0 1)) rfl dX4_settleQuarrel_30 ?_
    refine ro_i (va_runSN (As := [.int (po 0 j), .int (s 0 1)]) (rest := []) ⟨hx, hb, hml, hown, hts⟩ (m_X6_distance l (po 0 j) (s 0 1)) ⟨va_cnB 2 hts (gA tw319) rfl rfl rfl (hK.2 _ tn317) (hts _ tw1) (by decide +kernel) ⟨Nat.le_of_ble_eq_true rfl, Nat.le_of_ble_eq_true rfl⟩, hts _ tw318, trivial⟩ ps0 rfl rfl hl.1 rfl (lv_room (Nat.le_of_ble_eq_true rfl)) dX4_settleQuarrel_33 ⟨Nat.le_of_ble_eq_true rfl, Nat.le_of_ble_eq_true rfl⟩) (fun r9 hr8 => ?_)
    subst hr8
    refine lv_istore (lv' := [(5, .int (distI (po 0 j) (s 0 1))), (4, .int (distI (po 0 i) (s 0 1))), (0, .ref (a 0)), (1, .ref (a 109)), (2, .int (nI i)), (3, .int (nI j))]) hx hb dX4_settleQuarrel_36 hl (by decide) rfl (fun ls hl => ?_)
    refine lv_iload hx hb dX4_settleQuarrel_38 (lv_at hl 1 rfl) ?_
    refine lv_iload hx hb dX4_settleQuarrel_40 (lv_at hl 0 rfl) ?_
    refine lv_icmp_le (tgt := 56) hx hb dX4_settleQuarrel_42 (by decide) (fun c11 => ?_) (fun c11 => ?_)
    · skip
      have c11x := Int32.not_lt.mpr c11
      refine lv_iload hx hb dX4_settleQuarrel_56 (lv_at hl 0 rfl) ?_
      refine lv_iload hx hb dX4_settleQuarrel_58 (lv_at hl 1 rfl) ?_
      refine lv_icmp_le (tgt := 71) hx hb dX4_settleQuarrel_60 (by decide) (fun c12 => ?_) (fun c12 => ?_)
      · skip
        have c12x := Int32.not_lt.mpr c12
        have hWs : (setl s (po 0) i j) = s := by simp [setl, c4, c11, c11x, c12, c12x]
        have hP := hP.cast (e' := exC cI cS a (setl s (po 0) i j) st pi mi po) (by rw [hWs])
        exact rw_vr hx hb hr hlocks hS () hP trivial dX4_settleQuarrel_71
      · skip
        have c12x := Int32.not_le.mp c12
        refine lv_aload_n hx hb dX4_settleQuarrel_63 rfl (lv_at hl 2 rfl) ?_
        refine g_get hx hb hts hown inA4 hK hP 0 (by decide) xc0 rfl 1 (by decide) tw86 rfl (v := .ref (a 8)) rfl dX4_settleQuarrel_64 ?_
        refine lv_iload_n hx hb dX4_settleQuarrel_67 rfl (lv_at hl 5 rfl) ?_
        refine rw_v hS (va_runV (As := [.int (nI j)]) (rest := []) ⟨hx, hb, hml, hown, hts⟩ (m_X5_lessen l D cI cS a s st pi mi po j (by omega) _) (cwV 1 hts (gV tw434 tw431 tw432 tw433 tw4) rfl rfl rfl (by decide +kernel) ⟨Nat.le_of_ble_eq_true rfl, Nat.le_of_ble_eq_true rfl⟩) (pvW 8 hK hP hE (by decide) xc8 rfl) rfl rfl hl.1 rfl (lv_room (Nat.le_of_ble_eq_true rfl)) dX4_settleQuarrel_68 ⟨Nat.le_of_ble_eq_true rfl, Nat.le_of_ble_eq_true rfl⟩) (fun u15 H locs hr13 hP hS => ?_)
        have hWs : (setl s (po 0) i j) = (lessS s j) := by simp [setl, c4, c11, c11x, c12, c12x]
        have hP := hP.cast (e' := exC cI cS a (setl s (po 0) i j) st pi mi po) (by rw [hWs])
        exact rw_vr hx hb hr hlocks hS () hP trivial dX4_settleQuarrel_71
    · skip
      have c11x := Int32.not_le.mp c11
      refine lv_aload_n hx hb dX4_settleQuarrel_45 rfl (lv_at hl 2 rfl) ?_
      refine g_get hx hb hts hown inA4 hK hP 0 (by decide) xc0 rfl 1 (by decide) tw86 rfl (v := .ref (a 8)) rfl dX4_settleQuarrel_46 ?_
      refine lv_iload_n hx hb dX4_settleQuarrel_49 rfl (lv_at hl 4 rfl) ?_
      refine rw_v hS (va_runV (As := [.int (nI i)]) (rest := []) ⟨hx, hb, hml, hown, hts⟩ (m_X5_lessen l D cI cS a s st pi mi po i (by omega) _) (cwV 1 hts (gV tw434 tw431 tw432 tw433 tw4) rfl rfl rfl (by decide +kernel) ⟨Nat.le_of_ble_eq_true rfl, Nat.le_of_ble_eq_true rfl⟩) (pvW 8 hK hP hE (by decide) xc8 rfl) rfl rfl hl.1 rfl (lv_room (Nat.le_of_ble_eq_true rfl)) dX4_settleQuarrel_50 ⟨Nat.le_of_ble_eq_true rfl, Nat.le_of_ble_eq_true rfl⟩) (fun u18 H locs hr16 hP hS => ?_)
      refine lv_goto (tgt := 71) hx hb dX4_settleQuarrel_53 (by decide) ?_
      have hWs : (setl s (po 0) i j) = (lessS s i) := by simp [setl, c4, c11, c11x]
      have hP := hP.cast (e' := exC cI cS a (setl s (po 0) i j) st pi mi po) (by rw [hWs])
      exact rw_vr hx hb hr hlocks hS () hP trivial dX4_settleQuarrel_71
  · skip
    refine lv_if_ne (tgt := 14) hx hb dX4_settleQuarrel_10 (by decide) (fun h0 => absurd (by decide) h0) (fun _ => ?_)
    have hWs : (setl s (po 0) i j) = s := by simp [setl, c4]
    have hP := hP.cast (e' := exC cI cS a (setl s (po 0) i j) st pi mi po) (by rw [hWs])
    exact rw_vr hx hb hr hlocks hS () hP trivial dX4_settleQuarrel_13

set_option maxHeartbeats 4000000 in
set_option maxRecDepth 100000 in
theorem m_X4_settleQuarrels (l : Launch) (D : va_G) (cI cS : ClassId) (a : Nat → Nat) (s : St) (st : Nat → St) (pi : Nat → Nat) (mi po : St) (zz : Nat) : Met l yX4_settleQuarrels (.code yX4_settleQuarrels cX4_settleQuarrels 3 none :: wsA) ({ frames := 3, cells := 0, slots := 0, locals := 68 } : Room) (va_Pc [.ref (a 0), .ref (a 109)] (PW D cI cS 113 a (exC cI cS a s st pi mi po) zz)) (va_Qv (fun (u : Unit) => True) (BW D 113 a (fun u => exC cI cS a (setlN (po 0) 7 s) st pi mi po)) (AX 113 a zz)) 0 0 (AX 113 a zz) := by
  refine mgo (by decide) (Nat.le_of_ble_eq_true rfl) ?_
  intro p e z m below meth c hx hb hr hml hown hts hlocks hB ls hl
  obtain ⟨hsz, hP, hK, hE⟩ := hB
  subst hsz
  have hS : va_S (AX 113 a z.heap.size) z.heap z.heap [] := va_S.rf
  have hl : lv_has ls 3 [(0, .ref (a 0)), (1, .ref (a 109))] := hl
  refine lv_iconst (v := 0) hx hb dX4_settleQuarrels_0 (by decide) ?_
  refine lv_istore_n (lv' := [(2, .int 0), (0, .ref (a 0)), (1, .ref (a 109))]) hx hb dX4_settleQuarrels_1 rfl hl (by decide) rfl (fun ls hl => ?_)
  have loop2 : ∀ (fu : Nat) (j : Nat), 7 + 1 ≤ j + fu → (j ≤ 7) → ∀ (H : Heap) (locs : List Loc), HP D 113 a (exC cI cS a (setlN (po 0) j s) st pi mi po) H → va_S (AX 113 a z.heap.size) z.heap H locs → ∀ ls : Array Slot, lv_has ls 3 [(0, .ref (a 0)), (1, .ref (a 109)), (2, .int (nI j))] → W p l e ({ frames := 3, cells := 0, slots := 0, locals := 68 } : Room) z m ([.ref (a 0), .ref (a 109)] : List Value).toArray below meth c H locs 0 0 (MQ below (va_Qv (fun (u : Unit) => True) (BW D 113 a (fun u => exC cI cS a (setlN (po 0) 7 s) st pi mi po)) (AX 113 a z.heap.size)) ([.ref (a 0), .ref (a 109)] : List Value).toArray z 0 0 (AX 113 a z.heap.size)) (F0 m 2 ls []) := by
    intro fu
    induction fu with
    | zero => intro j hn hj; exact absurd hn (by omega)
    | succ fu ih2 =>
      intro j hn hj H locs hP hS ls hl
      refine lv_iload_n hx hb dX4_settleQuarrels_2 rfl (lv_at hl 2 rfl) ?_
      refine lv_bipush (v := 7) hx hb dX4_settleQuarrels_3 (by decide) ?_
      refine lv_icmp_ge (tgt := 24) hx hb dX4_settleQuarrels_5 (by decide) (fun c1 => ?_) (fun c1 => ?_)
      · skip
        have c1x := Int32.not_lt.mpr c1
        have c1n := (nI_le2 (p := 7) (q := j) rfl rfl (by omega) (by omega)).mp c1
        have c1n : 7 ≤ j := c1n
        have hjq : 7 = j := by omega
        subst hjq
        exact rw_vr hx hb hr hlocks hS () hP trivial dX4_settleQuarrels_24
      · skip
        have c1x := Int32.not_le.mp c1
        have c1n := fun hq0 => c1 ((nI_le2 (p := 7) (q := j) rfl rfl (by omega) (by omega)).mpr hq0)
        have c1n : ¬ (7 ≤ j) := c1n
        refine lv_aload_n hx hb dX4_settleQuarrels_8 rfl (lv_at hl 0 rfl) ?_
        refine lv_aload_n hx hb dX4_settleQuarrels_9 rfl (lv_at hl 1 rfl) ?_
        refine lv_iload_n hx hb dX4_settleQuarrels_10 rfl (lv_at hl 2 rfl) ?_
        refine lv_iload_n hx hb dX4_settleQuarrels_11 rfl (lv_at hl 2 rfl) ?_
        refine ro_i (va_runSN (As := [.int (nI j)]) (rest := [.int (nI j), .ref (a 109), .ref (a 0)]) ⟨hx, hb, hml, hown, hts⟩ (m_X6_dialBehind l j (by omega)) ⟨va_cnB 1 hts (gA tw312) rfl rfl rfl (hK.2 _ tn310) (hts _ tw1) (by decide +kernel) ⟨Nat.le_of_ble_eq_true rfl, Nat.le_of_ble_eq_true rfl⟩, hts _ tw311, trivial⟩ ps0 rfl rfl hl.1 rfl (lv_room (Nat.le_of_ble_eq_true rfl)) dX4_settleQuarrels_12 ⟨Nat.le_of_ble_eq_true rfl, Nat.le_of_ble_eq_true rfl⟩) (fun r3 hr2 => ?_)
        subst hr2
        have hbd := behN_lt (d := j)
        refine rw_v hS (va_runV (As := [.ref (a 109), .int (nI j), .int (nI (behN j))]) (rest := []) ⟨hx, hb, hml, hown, hts⟩ (m_X4_settleQuarrel l D cI cS a (setlN (po 0) j s) st pi mi po j (behN j) (by omega) (by omega) _) (cwV 3 hts (gV tw430 tw427 tw429 ts13 tw2) rfl rfl rfl (by decide +kernel) ⟨Nat.le_of_ble_eq_true rfl, Nat.le_of_ble_eq_true rfl⟩) (pvW 0 hK hP hE (by decide) xc0 rfl) rfl rfl hl.1 rfl (lv_room (Nat.le_of_ble_eq_true rfl)) dX4_settleQuarrels_15 ⟨Nat.le_of_ble_eq_true rfl, Nat.le_of_ble_eq_true rfl⟩) (fun u7 H locs hr5 hP hS => ?_)
        refine lv_iinc (v := nI (j + 1)) (lv' := [(2, .int (nI (j + 1))), (0, .ref (a 0)), (1, .ref (a 109))]) hx hb dX4_settleQuarrels_18 hl (k := 2) rfl (nI_add j 1) (by decide) rfl (fun ls hl => ?_)
        refine lv_goto (tgt := 2) hx hb dX4_settleQuarrels_21 (by decide) ?_
        exact ih2 (j + 1) (by omega) (by omega) _ _ hP hS ls (lv_sub hl [1, 2, 0] rfl)
  exact loop2 (7 + 1) 0 (by omega) (by omega) _ _ hP hS ls (lv_sub hl [1, 2, 0] rfl)
