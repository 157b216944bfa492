set_option maxHeartbeats 4000000 in
set_option maxRecDepth 100000 in
theorem m_X3_take (l : Launch) (D : va_G) (cI cS : ClassId) (a : Nat → Nat) (s : St) (st : Nat → St) (pi : Nat → Nat) (mi po : St) (zz : Nat) : Met l yX3_take (.code yX3_take cX3_take 3 none :: wsA) ({ frames := 2, cells := 0, slots := 0, locals := 44 } : Room) (va_Pc [.ref (a 108), .ref (a 0)] (PW D cI cS 113 a (exC cI cS a s st pi mi po) zz)) (va_Qv (fun (u : Unit) => True) (BW D 113 a (fun u => exC cI cS a s st pi mi (takeP s po 7))) (AX 113 a zz)) 0 0 (AX 113 a zz) := by
  refine mgo (by decide) (Nat.le_of_ble_eq_true rfl) ?_
  intro p e z m below meth c hx hb hr hml hown hts hlocks hB ls hl
  obtain ⟨hsz, hP, hK, hE⟩ := hB
  subst hsz
  have hS : va_S (AX 113 a z.heap.size) z.heap z.heap [] := va_S.rf
  have hl : lv_has ls 3 [(0, .ref (a 108)), (1, .ref (a 0))] := hl
  refine lv_iconst (v := 0) hx hb dX3_take_0 (by decide) ?_
  refine lv_istore_n (lv' := [(2, .int 0), (0, .ref (a 108)), (1, .ref (a 0))]) hx hb dX3_take_1 rfl hl (by decide) rfl (fun ls hl => ?_)
  have loop2 : ∀ (fu : Nat) (j : Nat), 7 + 1 ≤ j + fu → (j ≤ 7) → ∀ (H : Heap) (locs : List Loc), HP D 113 a (exC cI cS a s st pi mi (takeP s po j)) H → va_S (AX 113 a z.heap.size) z.heap H locs → ∀ ls : Array Slot, lv_has ls 3 [(0, .ref (a 108)), (1, .ref (a 0)), (2, .int (nI j))] → W p l e ({ frames := 2, cells := 0, slots := 0, locals := 44 } : Room) z m ([.ref (a 108), .ref (a 0)] : List Value).toArray below meth c H locs 0 0 (MQ below (va_Qv (fun (u : Unit) => True) (BW D 113 a (fun u => exC cI cS a s st pi mi (takeP s po 7))) (AX 113 a z.heap.size)) ([.ref (a 108), .ref (a 0)] : List Value).toArray z 0 0 (AX 113 a z.heap.size)) (F0 m 2 ls []) := by
    intro fu
    induction fu with
    | zero => intro j hn hj; exact absurd hn (by omega)
    | succ fu ih2 =>
      intro j hn hj H locs hP hS ls hl
      refine lv_iload_n hx hb dX3_take_2 rfl (lv_at hl 2 rfl) ?_
      refine lv_bipush (v := 7) hx hb dX3_take_3 (by decide) ?_
      refine lv_icmp_ge (tgt := 40) hx hb dX3_take_5 (by decide) (fun c1 => ?_) (fun c1 => ?_)
      · skip
        have c1x := Int32.not_lt.mpr c1
        have c1n := (nI_le2 (p := 7) (q := j) rfl rfl (by omega) (by omega)).mp c1
        have c1n : 7 ≤ j := c1n
        have hjq : 7 = j := by omega
        subst hjq
        exact rw_vr hx hb hr hlocks hS () hP trivial dX3_take_40
      · skip
        have c1x := Int32.not_le.mp c1
        have c1n := fun hq0 => c1 ((nI_le2 (p := 7) (q := j) rfl rfl (by omega) (by omega)).mpr hq0)
        have c1n : ¬ (7 ≤ j) := c1n
        refine lv_aload_n hx hb dX3_take_8 rfl (lv_at hl 0 rfl) ?_
        refine g_get hx hb hts hown inA3 hK hP 108 (by decide) xc108 rfl 0 (by decide) tw148 rfl (v := .ref (a 109)) rfl dX3_take_9 ?_
        refine lv_iload_n hx hb dX3_take_12 rfl (lv_at hl 2 rfl) ?_
        refine lv_aload_n hx hb dX3_take_13 rfl (lv_at hl 1 rfl) ?_
        refine lv_iload_n hx hb dX3_take_14 rfl (lv_at hl 2 rfl) ?_
        refine ro_i (va_runV (As := [.int (nI j)]) (rest := [.int (nI j), .ref (a 109)]) ⟨hx, hb, hml, hown, hts⟩ (m_X4_wordOf l D cI cS a s st pi mi (takeP s po j) j (by omega)) (cwV 1 hts (gV tw287 tw284 tw285 tw286 tw2) rfl rfl rfl (by decide +kernel) ⟨Nat.le_of_ble_eq_true rfl, Nat.le_of_ble_eq_true rfl⟩) (pvR 0 hK hP (by decide) xc0 rfl) rfl rfl hl.1 rfl (lv_room (Nat.le_of_ble_eq_true rfl)) dX3_take_15 ⟨Nat.le_of_ble_eq_true rfl, Nat.le_of_ble_eq_true rfl⟩) (fun r3 hr2 => ?_)
        subst hr2
        refine g_iast hx hb hK hP hE hS 109 (by decide) xc109 j rfl (by omega) (by omega) dX3_take_18 (ex' := exC cI cS a s st pi mi (up2 (takeP s po j) 0 j (wordA s j))) rfl (xo_po (by decide) rfl) (fun H locs hP hS => ?_)
        refine lv_aload_n hx hb dX3_take_19 rfl (lv_at hl 0 rfl) ?_
        refine g_get hx hb hts hown inA3 hK hP 108 (by decide) xc108 rfl 1 (by decide) tw150 rfl (v := .ref (a 110)) rfl dX3_take_20 ?_
        refine lv_iload_n hx hb dX3_take_23 rfl (lv_at hl 2 rfl) ?_
        refine lv_aload_n hx hb dX3_take_24 rfl (lv_at hl 1 rfl) ?_
        refine g_getN hx hb hts hown inA4 hK hP 0 (by decide) xc0 rfl 1 (by decide) tn88 rfl (v := .ref (a 8)) rfl dX3_take_25 ?_
        refine g_getN hx hb hts hown inA5 hK hP 8 (by decide) xc8 rfl 0 (by decide) tn72 rfl (v := .ref (a 9)) rfl dX3_take_28 ?_
        refine lv_iload_n hx hb dX3_take_31 rfl (lv_at hl 2 rfl) ?_
        refine g_iald hx hb hK hP 9 (by decide) xc9 j rfl (by omega) (by decide) dX3_take_32 (v := s 7 j) rfl ?_
        refine g_iast hx hb hK hP hE hS 110 (by decide) xc110 j rfl (by omega) (by omega) dX3_take_33 (ex' := exC cI cS a s st pi mi (up2 (up2 (takeP s po j) 0 j (wordA s j)) 1 j (s 7 j))) rfl (xo_po (by decide) rfl) (fun H locs hP hS => ?_)
        refine lv_iinc (v := nI (j + 1)) (lv' := [(2, .int (nI (j + 1))), (0, .ref (a 108)), (1, .ref (a 0))]) hx hb dX3_take_34 hl (k := 2) rfl (nI_add j 1) (by decide) rfl (fun ls hl => ?_)
        refine lv_goto (tgt := 2) hx hb dX3_take_37 (by decide) ?_
        exact ih2 (j + 1) (by omega) (by omega) _ _ hP hS ls (lv_sub hl [1, 2, 0] rfl)
  exact loop2 (7 + 1) 0 (by omega) (by omega) _ _ hP hS ls (lv_sub hl [1, 2, 0] rfl)

set_option maxHeartbeats 4000000 in
set_option maxRecDepth 100000 in
theorem m_X3_placeOf (l : Launch) (D : va_G) (cI cS : ClassId) (a : Nat → Nat) (s : St) (st : Nat → St) (pi : Nat → Nat) (mi po : St) (w : Nat) (hw : w < 7) : Met l yX3_placeOf (.code yX3_placeOf cX3_placeOf 4 (some .int) :: wsA) ({ frames := 0, cells := 0, slots := 0, locals := 0 } : Room) (va_Pc [.ref (a 108), .int (nI w)] (PR D cI cS 113 a (exC cI cS a s st pi mi po))) (vp_Si (fun r => r = nI (plcN (po 0) w 7))) 0 0 (fun _ => False) := by
  refine mgo (by decide) (Nat.le_of_ble_eq_true rfl) ?_
  intro p e z m below meth c hx hb hr hml hown hts hlocks hB ls hl
  obtain ⟨hP, hK⟩ := hB
  have hl : lv_has ls 4 [(0, .ref (a 108)), (1, .int (nI w))] := hl
  refine lv_iconst (v := 0) hx hb dX3_placeOf_0 (by decide) ?_
  refine lv_istore_n (lv' := [(2, .int 0), (0, .ref (a 108)), (1, .int (nI w))]) hx hb dX3_placeOf_1 rfl hl (by decide) rfl (fun ls hl => ?_)
  refine lv_iconst (v := 0) hx hb dX3_placeOf_2 (by decide) ?_
  refine lv_istore_n (lv' := [(3, .int 0), (2, .int 0), (0, .ref (a 108)), (1, .int (nI w))]) hx hb dX3_placeOf_3 rfl hl (by decide) rfl (fun ls hl => ?_)
  have loop4 : ∀ (fu : Nat) (j : Nat) (q : Nat), 7 + 1 ≤ j + fu → (j ≤ 7) → (q = plcN (po 0) w j) → ∀ ls : Array Slot, lv_has ls 4 [(0, .ref (a 108)), (1, .int (nI w)), (2, .int (nI q)), (3, .int (nI j))] → W p l e ({ frames := 0, cells := 0, slots := 0, locals := 0 } : Room) z m ([.ref (a 108), .int (nI w)] : List Value).toArray below meth c z.heap [] 0 0 (MQ below (vp_Si (fun r => r = nI (plcN (po 0) w 7))) ([.ref (a 108), .int (nI w)] : List Value).toArray z 0 0 (fun _ => False)) (F0 m 4 ls []) := by
    intro fu
    induction fu with
    | zero => intro j q hn hj hq; exact absurd hn (by omega)
    | succ fu ih4 =>
      intro j q hn hj hq ls hl
      refine lv_iload_n hx hb dX3_placeOf_4 rfl (lv_at hl 3 rfl) ?_
      refine lv_bipush (v := 7) hx hb dX3_placeOf_5 (by decide) ?_
      refine lv_icmp_ge (tgt := 54) hx hb dX3_placeOf_7 (by decide) (fun c1 => ?_) (fun c1 => ?_)
      · skip
        have c1x := Int32.not_lt.mpr c1
        have c1n := (nI_le2 (p := 7) (q := j) rfl rfl (by omega) (by omega)).mp c1
        have c1n : 7 ≤ j := c1n
        have hjq : 7 = j := by omega
        subst hjq
        refine lv_iload_n hx hb dX3_placeOf_54 rfl (lv_at hl 2 rfl) ?_
        exact ro_ir hx hb hr rfl hlocks (by rw [hq]) dX3_placeOf_55
      · skip
        have c1x := Int32.not_le.mp c1
        have c1n := fun hq0 => c1 ((nI_le2 (p := 7) (q := j) rfl rfl (by omega) (by omega)).mpr hq0)
        have c1n : ¬ (7 ≤ j) := c1n
        refine lv_aload_n hx hb dX3_placeOf_10 rfl (lv_at hl 0 rfl) ?_
        refine g_get hx hb hts hown inA3 hK hP 108 (by decide) xc108 rfl 0 (by decide) tw148 rfl (v := .ref (a 109)) rfl dX3_placeOf_11 ?_
        refine lv_iload_n hx hb dX3_placeOf_14 rfl (lv_at hl 3 rfl) ?_
        refine g_iald hx hb hK hP 109 (by decide) xc109 j rfl (by omega) (by decide) dX3_placeOf_15 (v := po 0 j) rfl ?_
        refine lv_aload_n hx hb dX3_placeOf_16 rfl (lv_at hl 0 rfl) ?_
        refine g_get hx hb hts hown inA3 hK hP 108 (by decide) xc108 rfl 0 (by decide) tw148 rfl (v := .ref (a 109)) rfl dX3_placeOf_17 ?_
        refine lv_iload_n hx hb dX3_placeOf_20 rfl (lv_at hl 1 rfl) ?_
        refine g_iald hx hb hK hP 109 (by decide) xc109 w rfl (by omega) (by decide) dX3_placeOf_21 (v := po 0 w) rfl ?_
        refine lv_icmp_lt (tgt := 45) hx hb dX3_placeOf_22 (by decide) (fun c2 => ?_) (fun c2 => ?_)
        · skip
          have c2x := Int32.not_le.mpr c2
          refine lv_iinc (v := nI (q + 1)) (lv' := [(2, .int (nI (q + 1))), (0, .ref (a 108)), (1, .int (nI w)), (3, .int (nI j))]) hx hb dX3_placeOf_45 hl (k := 2) rfl (nI_add q 1) (by decide) rfl (fun ls hl => ?_)
          refine lv_iinc (v := nI (j + 1)) (lv' := [(3, .int (nI (j + 1))), (2, .int (nI (q + 1))), (0, .ref (a 108)), (1, .int (nI w))]) hx hb dX3_placeOf_48 hl (k := 3) rfl (nI_add j 1) (by decide) rfl (fun ls hl => ?_)
          refine lv_goto (tgt := 4) hx hb dX3_placeOf_51 (by decide) ?_
          exact ih4 (j + 1) (q + 1) (by omega) (by omega) (by simp [plcN, ← hq, c1, c1x, c1n, c2, c2x]) ls (lv_sub hl [2, 3, 1, 0] rfl)
        · skip
          have c2x := Int32.not_lt.mp c2
          refine lv_aload_n hx hb dX3_placeOf_25 rfl (lv_at hl 0 rfl) ?_
          refine g_get hx hb hts hown inA3 hK hP 108 (by decide) xc108 rfl 0 (by decide) tw148 rfl (v := .ref (a 109)) rfl dX3_placeOf_26 ?_
          refine lv_iload_n hx hb dX3_placeOf_29 rfl (lv_at hl 3 rfl) ?_
          refine g_iald hx hb hK hP 109 (by decide) xc109 j rfl (by omega) (by decide) dX3_placeOf_30 (v := po 0 j) rfl ?_
          refine lv_aload_n hx hb dX3_placeOf_31 rfl (lv_at hl 0 rfl) ?_
          refine g_get hx hb hts hown inA3 hK hP 108 (by decide) xc108 rfl 0 (by decide) tw148 rfl (v := .ref (a 109)) rfl dX3_placeOf_32 ?_
          refine lv_iload_n hx hb dX3_placeOf_35 rfl (lv_at hl 1 rfl) ?_
          refine g_iald hx hb hK hP 109 (by decide) xc109 w rfl (by omega) (by decide) dX3_placeOf_36 (v := po 0 w) rfl ?_
          refine lv_icmp_ne (tgt := 48) hx hb dX3_placeOf_37 (by decide) (fun c3 => ?_) (fun c3 => ?_)
          · skip
            refine lv_iinc (v := nI (j + 1)) (lv' := [(3, .int (nI (j + 1))), (0, .ref (a 108)), (1, .int (nI w)), (2, .int (nI q))]) hx hb dX3_placeOf_48 hl (k := 3) rfl (nI_add j 1) (by decide) rfl (fun ls hl => ?_)
            refine lv_goto (tgt := 4) hx hb dX3_placeOf_51 (by decide) ?_
            exact ih4 (j + 1) q (by omega) (by omega) (by simp [plcN, ← hq, c1, c1x, c1n, c2, c2x, c3]) ls (lv_sub hl [1, 2, 3, 0] rfl)
          · skip
            refine lv_iload_n hx hb dX3_placeOf_40 rfl (lv_at hl 3 rfl) ?_
            refine lv_iload_n hx hb dX3_placeOf_41 rfl (lv_at hl 1 rfl) ?_
            refine lv_icmp_ge (tgt := 48) hx hb dX3_placeOf_42 (by decide) (fun c4 => ?_) (fun c4 => ?_)
            · skip
              have c4x := Int32.not_lt.mpr c4
              have c4n := (nI_le2 (p := w) (q := j) rfl rfl (by omega) (by omega)).mp c4
              have c4n : w ≤ j := c4n
              refine lv_iinc (v := nI (j + 1)) (lv' := [(3, .int (nI (j + 1))), (0, .ref (a 108)), (1, .int (nI w)), (2, .int (nI q))]) hx hb dX3_placeOf_48 hl (k := 3) rfl (nI_add j 1) (by decide) rfl (fun ls hl => ?_)
              refine lv_goto (tgt := 4) hx hb dX3_placeOf_51 (by decide) ?_
              exact ih4 (j + 1) q (by omega) (by omega) (by simp [plcN, ← hq, c1, c1x, c1n, c2, c2x, c3, c4, c4x, c4n]) ls (lv_sub hl [1, 2, 3, 0] rfl)
            · skip
              have c4x := Int32.not_le.mp c4
              have c4n := fun hq0 => c4 ((nI_le2 (p := w) (q := j) rfl rfl (by omega) (by omega)).mpr hq0)
              have c4n : ¬ (w ≤ j) := c4n
              refine lv_iinc (v := nI (q + 1)) (lv' := [(2, .int (nI (q + 1))), (0, .ref (a 108)), (1, .int (nI w)), (3, .int (nI j))]) hx hb dX3_placeOf_45 hl (k := 2) rfl (nI_add q 1) (by decide) rfl (fun ls hl => ?_)
              refine lv_iinc (v := nI (j + 1)) (lv' := [(3, .int (nI (j + 1))), (2, .int (nI (q + 1))), (0, .ref (a 108)), (1, .int (nI w))]) hx hb dX3_placeOf_48 hl (k := 3) rfl (nI_add j 1) (by decide) rfl (fun ls hl => ?_)
              refine lv_goto (tgt := 4) hx hb dX3_placeOf_51 (by decide) ?_
              exact ih4 (j + 1) (q + 1) (by omega) (by omega) (by simp [plcN, ← hq, c1, c1x, c1n, c2, c2x, c3, c4, c4x, c4n]) ls (lv_sub hl [2, 3, 1, 0] rfl)
  exact loop4 (7 + 1) 0 0 (by omega) (by omega) rfl ls (lv_sub hl [2, 3, 1, 0] rfl)

set_option maxHeartbeats 4000000 in
set_option maxRecDepth 100000 in
theorem m_X3_weightBelow (l : Launch) (D : va_G) (cI cS : ClassId) (a : Nat → Nat) (s : St) (st : Nat → St) (pi : Nat → Nat) (mi po : St) (y : Int32) : Met l yX3_weightBelow (.code yX3_weightBelow cX3_weightBelow 4 (some .int) :: wsA) ({ frames := 0, cells := 0, slots := 0, locals := 0 } : Room) (va_Pc [.ref (a 108), .int y] (PR D cI cS 113 a (exC cI cS a s st pi mi po))) (vp_Si (fun r => r = wBel (po 0) (po 1) y 7)) 0 0 (fun _ => False) := by
  refine mgo (by decide) (Nat.le_of_ble_eq_true rfl) ?_
  intro p e z m below meth c hx hb hr hml hown hts hlocks hB ls hl
  obtain ⟨hP, hK⟩ := hB
  have hl : lv_has ls 4 [(0, .ref (a 108)), (1, .int y)] := hl
  refine lv_iconst (v := 0) hx hb dX3_weightBelow_0 (by decide) ?_
  refine lv_istore_n (lv' := [(2, .int 0), (0, .ref (a 108)), (1, .int y)]) hx hb dX3_weightBelow_1 rfl hl (by decide) rfl (fun ls hl => ?_)
  refine lv_iconst (v := 0) hx hb dX3_weightBelow_2 (by decide) ?_
  refine lv_istore_n (lv' := [(3, .int 0), (2, .int 0), (0, .ref (a 108)), (1, .int y)]) hx hb dX3_weightBelow_3 rfl hl (by decide) rfl (fun ls hl => ?_)
  have loop4 : ∀ (fu : Nat) (j : Nat) (x : Int32), 7 + 1 ≤ j + fu → (j ≤ 7) → (x = wBel (po 0) (po 1) y j) → ∀ ls : Array Slot, lv_has ls 4 [(0, .ref (a 108)), (1, .int y), (2, .int x), (3, .int (nI j))] → W p l e ({ frames := 0, cells := 0, slots := 0, locals := 0 } : Room) z m ([.ref (a 108), .int y] : List Value).toArray below meth c z.heap [] 0 0 (MQ below (vp_Si (fun r => r = wBel (po 0) (po 1) y 7)) ([.ref (a 108), .int y] : List Value).toArray z 0 0 (fun _ => False)) (F0 m 4 ls []) := by
    intro fu
    induction fu with
    | zero => intro j x hn hj hx1; exact absurd hn (by omega)
    | succ fu ih4 =>
      intro j x hn hj hx1 ls hl
      refine lv_iload_n hx hb dX3_weightBelow_4 rfl (lv_at hl 3 rfl) ?_
      refine lv_bipush (v := 7) hx hb dX3_weightBelow_5 (by decide) ?_
      refine lv_icmp_ge (tgt := 39) hx hb dX3_weightBelow_7 (by decide) (fun c1 => ?_) (fun c1 => ?_)
      · skip
        have c1x := Int32.not_lt.mpr c1
        have c1n := (nI_le2 (p := 7) (q := j) rfl rfl (by omega) (by omega)).mp c1
        have c1n : 7 ≤ j := c1n
        have hjq : 7 = j := by omega
        subst hjq
        refine lv_iload_n hx hb dX3_weightBelow_39 rfl (lv_at hl 2 rfl) ?_
        exact ro_ir hx hb hr rfl hlocks hx1 dX3_weightBelow_40
      · skip
        have c1x := Int32.not_le.mp c1
        have c1n := fun hq0 => c1 ((nI_le2 (p := 7) (q := j) rfl rfl (by omega) (by omega)).mpr hq0)
        have c1n : ¬ (7 ≤ j) := c1n
        refine lv_iload_n hx hb dX3_weightBelow_10 rfl (lv_at hl 2 rfl) ?_
        refine lv_aload_n hx hb dX3_weightBelow_11 rfl (lv_at hl 0 rfl) ?_
        refine g_get hx hb hts hown inA3 hK hP 108 (by decide) xc108 rfl 0 (by decide) tw148 rfl (v := .ref (a 109)) rfl dX3_weightBelow_12 ?_
        refine lv_iload_n hx hb dX3_weightBelow_15 rfl (lv_at hl 3 rfl) ?_
        refine g_iald hx hb hK hP 109 (by decide) xc109 j rfl (by omega) (by decide) dX3_weightBelow_16 (v := po 0 j) rfl ?_
        refine lv_iload_n hx hb dX3_weightBelow_17 rfl (lv_at hl 1 rfl) ?_
        refine lv_icmp_ge (tgt := 30) hx hb dX3_weightBelow_18 (by decide) (fun c2 => ?_) (fun c2 => ?_)
        · skip
          have c2x := Int32.not_lt.mpr c2
          refine lv_iconst (v := 0) hx hb dX3_weightBelow_30 (by decide) ?_
          refine lv_iadd hx hb dX3_weightBelow_31 ?_
          refine lv_istore_n (lv' := [(2, .int (x + 0)), (0, .ref (a 108)), (1, .int y), (3, .int (nI j))]) hx hb dX3_weightBelow_32 rfl hl (by decide) rfl (fun ls hl => ?_)
          refine lv_iinc (v := nI (j + 1)) (lv' := [(3, .int (nI (j + 1))), (2, .int (x + 0)), (0, .ref (a 108)), (1, .int y)]) hx hb dX3_weightBelow_33 hl (k := 3) rfl (nI_add j 1) (by decide) rfl (fun ls hl => ?_)
          refine lv_goto (tgt := 4) hx hb dX3_weightBelow_36 (by decide) ?_
          exact ih4 (j + 1) (x + 0) (by omega) (by omega) (by simp [wBel, ← hx1, c1, c1x, c1n, c2, c2x]) ls (lv_sub hl [2, 3, 1, 0] rfl)
        · skip
          have c2x := Int32.not_le.mp c2
          refine lv_aload_n hx hb dX3_weightBelow_21 rfl (lv_at hl 0 rfl) ?_
          refine g_get hx hb hts hown inA3 hK hP 108 (by decide) xc108 rfl 1 (by decide) tw150 rfl (v := .ref (a 110)) rfl dX3_weightBelow_22 ?_
          refine lv_iload_n hx hb dX3_weightBelow_25 rfl (lv_at hl 3 rfl) ?_
          refine g_iald hx hb hK hP 110 (by decide) xc110 j rfl (by omega) (by decide) dX3_weightBelow_26 (v := po 1 j) rfl ?_
          refine lv_goto (tgt := 31) hx hb dX3_weightBelow_27 (by decide) ?_
          refine lv_iadd hx hb dX3_weightBelow_31 ?_
          refine lv_istore_n (lv' := [(2, .int (x + (po 1 j))), (0, .ref (a 108)), (1, .int y), (3, .int (nI j))]) hx hb dX3_weightBelow_32 rfl hl (by decide) rfl (fun ls hl => ?_)
          refine lv_iinc (v := nI (j + 1)) (lv' := [(3, .int (nI (j + 1))), (2, .int (x + (po 1 j))), (0, .ref (a 108)), (1, .int y)]) hx hb dX3_weightBelow_33 hl (k := 3) rfl (nI_add j 1) (by decide) rfl (fun ls hl => ?_)
          refine lv_goto (tgt := 4) hx hb dX3_weightBelow_36 (by decide) ?_
          exact ih4 (j + 1) (x + (po 1 j)) (by omega) (by omega) (by simp [wBel, ← hx1, c1, c1x, c1n, c2, c2x]) ls (lv_sub hl [2, 3, 1, 0] rfl)
  exact loop4 (7 + 1) 0 0 (by omega) (by omega) rfl ls (lv_sub hl [2, 3, 1, 0] rfl)

set_option maxHeartbeats 4000000 in
set_option maxRecDepth 100000 in
theorem m_X3_weightAt (l : Launch) (D : va_G) (cI cS : ClassId) (a : Nat → Nat) (s : St) (st : Nat → St) (pi : Nat → Nat) (mi po : St) (y : Int32) : Met l yX3_weightAt (.code yX3_weightAt cX3_weightAt 4 (some .int) :: wsA) ({ frames := 0, cells := 0, slots := 0, locals := 0 } : Room) (va_Pc [.ref (a 108), .int y] (PR D cI cS 113 a (exC cI cS a s st pi mi po))) (vp_Si (fun r => r = wAt (po 0) (po 1) y 7)) 0 0 (fun _ => False) := by
  refine mgo (by decide) (Nat.le_of_ble_eq_true rfl) ?_
  intro p e z m below meth c hx hb hr hml hown hts hlocks hB ls hl
  obtain ⟨hP, hK⟩ := hB
  have hl : lv_has ls 4 [(0, .ref (a 108)), (1, .int y)] := hl
  refine lv_iconst (v := 0) hx hb dX3_weightAt_0 (by decide) ?_
  refine lv_istore_n (lv' := [(2, .int 0), (0, .ref (a 108)), (1, .int y)]) hx hb dX3_weightAt_1 rfl hl (by decide) rfl (fun ls hl => ?_)
  refine lv_iconst (v := 0) hx hb dX3_weightAt_2 (by decide) ?_
  refine lv_istore_n (lv' := [(3, .int 0), (2, .int 0), (0, .ref (a 108)), (1, .int y)]) hx hb dX3_weightAt_3 rfl hl (by decide) rfl (fun ls hl => ?_)
  have loop4 : ∀ (fu : Nat) (j : Nat) (x : Int32), 7 + 1 ≤ j + fu → (j ≤ 7) → (x = wAt (po 0) (po 1) y j) → ∀ ls : Array Slot, lv_has ls 4 [(0, .ref (a 108)), (1, .int y), (2, .int x), (3, .int (nI j))] → W p l e ({ frames := 0, cells := 0, slots := 0, locals := 0 } : Room) z m ([.ref (a 108), .int y] : List Value).toArray below meth c z.heap [] 0 0 (MQ below (vp_Si (fun r => r = wAt (po 0) (po 1) y 7)) ([.ref (a 108), .int y] : List Value).toArray z 0 0 (fun _ => False)) (F0 m 4 ls []) := by
    intro fu
    induction fu with
    | zero => intro j x hn hj hx1; exact absurd hn (by omega)
    | succ fu ih4 =>
      intro j x hn hj hx1 ls hl
      refine lv_iload_n hx hb dX3_weightAt_4 rfl (lv_at hl 3 rfl) ?_
      refine lv_bipush (v := 7) hx hb dX3_weightAt_5 (by decide) ?_
      refine lv_icmp_ge (tgt := 39) hx hb dX3_weightAt_7 (by decide) (fun c1 => ?_) (fun c1 => ?_)
      · skip
        have c1x := Int32.not_lt.mpr c1
        have c1n := (nI_le2 (p := 7) (q := j) rfl rfl (by omega) (by omega)).mp c1
        have c1n : 7 ≤ j := c1n
        have hjq : 7 = j := by omega
        subst hjq
        refine lv_iload_n hx hb dX3_weightAt_39 rfl (lv_at hl 2 rfl) ?_
        exact ro_ir hx hb hr rfl hlocks hx1 dX3_weightAt_40
      · skip
        have c1x := Int32.not_le.mp c1
        have c1n := fun hq0 => c1 ((nI_le2 (p := 7) (q := j) rfl rfl (by omega) (by omega)).mpr hq0)
        have c1n : ¬ (7 ≤ j) := c1n
        refine lv_iload_n hx hb dX3_weightAt_10 rfl (lv_at hl 2 rfl) ?_
        refine lv_aload_n hx hb dX3_weightAt_11 rfl (lv_at hl 0 rfl) ?_
        refine g_get hx hb hts hown inA3 hK hP 108 (by decide) xc108 rfl 0 (by decide) tw148 rfl (v := .ref (a 109)) rfl dX3_weightAt_12 ?_
        refine lv_iload_n hx hb dX3_weightAt_15 rfl (lv_at hl 3 rfl) ?_
        refine g_iald hx hb hK hP 109 (by decide) xc109 j rfl (by omega) (by decide) dX3_weightAt_16 (v := po 0 j) rfl ?_
        refine lv_iload_n hx hb dX3_weightAt_17 rfl (lv_at hl 1 rfl) ?_
        refine lv_icmp_ne (tgt := 30) hx hb dX3_weightAt_18 (by decide) (fun c2 => ?_) (fun c2 => ?_)
        · skip
          refine lv_iconst (v := 0) hx hb dX3_weightAt_30 (by decide) ?_
          refine lv_iadd hx hb dX3_weightAt_31 ?_
          refine lv_istore_n (lv' := [(2, .int (x + 0)), (0, .ref (a 108)), (1, .int y), (3, .int (nI j))]) hx hb dX3_weightAt_32 rfl hl (by decide) rfl (fun ls hl => ?_)
          refine lv_iinc (v := nI (j + 1)) (lv' := [(3, .int (nI (j + 1))), (2, .int (x + 0)), (0, .ref (a 108)), (1, .int y)]) hx hb dX3_weightAt_33 hl (k := 3) rfl (nI_add j 1) (by decide) rfl (fun ls hl => ?_)
          refine lv_goto (tgt := 4) hx hb dX3_weightAt_36 (by decide) ?_
          exact ih4 (j + 1) (x + 0) (by omega) (by omega) (by simp [wAt, ← hx1, c1, c1x, c1n, c2]) ls (lv_sub hl [2, 3, 1, 0] rfl)
        · skip
          refine lv_aload_n hx hb dX3_weightAt_21 rfl (lv_at hl 0 rfl) ?_
          refine g_get hx hb hts hown inA3 hK hP 108 (by decide) xc108 rfl 1 (by decide) tw150 rfl (v := .ref (a 110)) rfl dX3_weightAt_22 ?_
          refine lv_iload_n hx hb dX3_weightAt_25 rfl (lv_at hl 3 rfl) ?_
          refine g_iald hx hb hK hP 110 (by decide) xc110 j rfl (by omega) (by decide) dX3_weightAt_26 (v := po 1 j) rfl ?_
          refine lv_goto (tgt := 31) hx hb dX3_weightAt_27 (by decide) ?_
          refine lv_iadd hx hb dX3_weightAt_31 ?_
          refine lv_istore_n (lv' := [(2, .int (x + (po 1 j))), (0, .ref (a 108)), (1, .int y), (3, .int (nI j))]) hx hb dX3_weightAt_32 rfl hl (by decide) rfl (fun ls hl => ?_)
          refine lv_iinc (v := nI (j + 1)) (lv' := [(3, .int (nI (j + 1))), (2, .int (x + (po 1 j))), (0, .ref (a 108)), (1, .int y)]) hx hb dX3_weightAt_33 hl (k := 3) rfl (nI_add j 1) (by decide) rfl (fun ls hl => ?_)
          refine lv_goto (tgt := 4) hx hb dX3_weightAt_36 (by decide) ?_
          exact ih4 (j + 1) (x + (po 1 j)) (by omega) (by omega) (by simp [wAt, ← hx1, c1, c1x, c1n, c2]) ls (lv_sub hl [2, 3, 1, 0] rfl)
  exact loop4 (7 + 1) 0 0 (by omega) (by omega) rfl ls (lv_sub hl [2, 3, 1, 0] rfl)

set_option maxHeartbeats 4000000 in
set_option maxRecDepth 100000 in
theorem m_X3_middleByAdding (l : Launch) (D : va_G) (cI cS : ClassId) (a : Nat → Nat) (s : St) (st : Nat → St) (pi : Nat → Nat) (mi po : St) : Met l yX3_middleByAdding (.code yX3_middleByAdding cX3_middleByAdding 5 (some .int) :: wsA) ({ frames := 1, cells := 0, slots := 0, locals := 25 } : Room) (va_Pc [.ref (a 108)] (PR D cI cS 113 a (exC cI cS a s st pi mi po))) (vp_Si (fun r => r = midA (po 0) (po 1) 7 0)) 0 0 (fun _ => False) := by
  refine mgo (by decide) (Nat.le_of_ble_eq_true rfl) ?_
  intro p e z m below meth c hx hb hr hml hown hts hlocks hB ls hl
  obtain ⟨hP, hK⟩ := hB
  have hl : lv_has ls 5 [(0, .ref (a 108))] := hl
  refine lv_aload_n hx hb dX3_middleByAdding_0 rfl (lv_at hl 0 rfl) ?_
  refine g_get hx hb hts hown inA3 hK hP 108 (by decide) xc108 rfl 1 (by decide) tw150 rfl (v := .ref (a 110)) rfl dX3_middleByAdding_1 ?_
  refine ro_i (va_runSN (As := [.ref (a 110)]) (rest := []) ⟨hx, hb, hml, hown, hts⟩ (m_X6_sum l D cI cS 113 a (exC cI cS a s st pi mi po) 110 (by decide) (po 1) rfl) ⟨va_cnB 1 hts (gA tw303) rfl rfl rfl (hK.2 _ tn301) (hts _ tw1) (by decide +kernel) ⟨Nat.le_of_ble_eq_true rfl, Nat.le_of_ble_eq_true rfl⟩, hts _ tw302, trivial⟩ (psR hK hP) rfl rfl hl.1 rfl (lv_room (Nat.le_of_ble_eq_true rfl)) dX3_middleByAdding_4 ⟨Nat.le_of_ble_eq_true rfl, Nat.le_of_ble_eq_true rfl⟩) (fun r2 hr1 => ?_)
  subst hr1
  refine lv_istore_n (lv' := [(1, .int (sumN (po 1) 7)), (0, .ref (a 108))]) hx hb dX3_middleByAdding_7 rfl hl (by decide) rfl (fun ls hl => ?_)
  refine lv_iconst (v := 0) hx hb dX3_middleByAdding_8 (by decide) ?_
  refine lv_istore_n (lv' := [(2, .int 0), (1, .int (sumN (po 1) 7)), (0, .ref (a 108))]) hx hb dX3_middleByAdding_9 rfl hl (by decide) rfl (fun ls hl => ?_)
  have loop10 : ∀ (fu : Nat) (j : Nat), 7 + 1 ≤ j + fu → (j ≤ 7) → (midA (po 0) (po 1) 7 0 = midA (po 0) (po 1) (7 - j) j) → ∀ ls : Array Slot, lv_has ls 5 [(0, .ref (a 108)), (1, .int (sumN (po 1) 7)), (2, .int (nI j))] → W p l e ({ frames := 1, cells := 0, slots := 0, locals := 25 } : Room) z m ([.ref (a 108)] : List Value).toArray below meth c z.heap [] 0 0 (MQ below (vp_Si (fun r => r = midA (po 0) (po 1) 7 0)) ([.ref (a 108)] : List Value).toArray z 0 0 (fun _ => False)) (F0 m 10 ls []) := by
    intro fu
    induction fu with
    | zero => intro j hn hj hR; exact absurd hn (by omega)
    | succ fu ih10 =>
      intro j hn hj hR ls hl
      refine lv_iload_n hx hb dX3_middleByAdding_10 rfl (lv_at hl 2 rfl) ?_
      refine lv_bipush (v := 7) hx hb dX3_middleByAdding_11 (by decide) ?_
      refine lv_icmp_ge (tgt := 78) hx hb dX3_middleByAdding_13 (by decide) (fun c4 => ?_) (fun c4 => ?_)
      · skip
        have c4x := Int32.not_lt.mpr c4
        have c4n := (nI_le2 (p := 7) (q := j) rfl rfl (by omega) (by omega)).mp c4
        have c4n : 7 ≤ j := c4n
        have hjq : 7 = j := by omega
        subst hjq
        refine lv_iconst (v := (-1)) hx hb dX3_middleByAdding_78 (by decide) ?_
        exact ro_ir hx hb hr rfl hlocks (by rw [hR]; rfl) dX3_middleByAdding_79
      · skip
        have c4x := Int32.not_le.mp c4
        have c4n := fun hq0 => c4 ((nI_le2 (p := 7) (q := j) rfl rfl (by omega) (by omega)).mpr hq0)
        have c4n : ¬ (7 ≤ j) := c4n
        refine lv_aload_n hx hb dX3_middleByAdding_16 rfl (lv_at hl 0 rfl) ?_
        refine lv_aload_n hx hb dX3_middleByAdding_17 rfl (lv_at hl 0 rfl) ?_
        refine g_get hx hb hts hown inA3 hK hP 108 (by decide) xc108 rfl 0 (by decide) tw148 rfl (v := .ref (a 109)) rfl dX3_middleByAdding_18 ?_
        refine lv_iload_n hx hb dX3_middleByAdding_21 rfl (lv_at hl 2 rfl) ?_
        refine g_iald hx hb hK hP 109 (by decide) xc109 j rfl (by omega) (by decide) dX3_middleByAdding_22 (v := po 0 j) rfl ?_
        refine ro_i (va_runV (As := [.int (po 0 j)]) (rest := []) ⟨hx, hb, hml, hown, hts⟩ (m_X3_weightBelow l D cI cS a s st pi mi po (po 0 j)) (cwV 1 hts (gV tw415 tw412 tw414 ts9 tw7) rfl rfl rfl (by decide +kernel) ⟨Nat.le_of_ble_eq_true rfl, Nat.le_of_ble_eq_true rfl⟩) (pvR 108 hK hP (by decide) xc108 rfl) rfl rfl hl.1 rfl (lv_room (Nat.le_of_ble_eq_true rfl)) dX3_middleByAdding_23 ⟨Nat.le_of_ble_eq_true rfl, Nat.le_of_ble_eq_true rfl⟩) (fun r6 hr5 => ?_)
        subst hr5
        refine lv_istore_n (lv' := [(3, .int (wBel (po 0) (po 1) (po 0 j) 7)), (0, .ref (a 108)), (1, .int (sumN (po 1) 7)), (2, .int (nI j))]) hx hb dX3_middleByAdding_26 rfl hl (by decide) rfl (fun ls hl => ?_)
        refine lv_iload_n hx hb dX3_middleByAdding_27 rfl (lv_at hl 0 rfl) ?_
        refine lv_aload_n hx hb dX3_middleByAdding_28 rfl (lv_at hl 1 rfl) ?_
        refine lv_aload_n hx hb dX3_middleByAdding_29 rfl (lv_at hl 1 rfl) ?_
        refine g_get hx hb hts hown inA3 hK hP 108 (by decide) xc108 rfl 0 (by decide) tw148 rfl (v := .ref (a 109)) rfl dX3_middleByAdding_30 ?_
        refine lv_iload_n hx hb dX3_middleByAdding_33 rfl (lv_at hl 3 rfl) ?_
        refine g_iald hx hb hK hP 109 (by decide) xc109 j rfl (by omega) (by decide) dX3_middleByAdding_34 (v := po 0 j) rfl ?_
        refine ro_i (va_runV (As := [.int (po 0 j)]) (rest := [.int (wBel (po 0) (po 1) (po 0 j) 7)]) ⟨hx, hb, hml, hown, hts⟩ (m_X3_weightAt l D cI cS a s st pi mi po (po 0 j)) (cwV 1 hts (gV tw419 tw416 tw418 ts10 tw7) rfl rfl rfl (by decide +kernel) ⟨Nat.le_of_ble_eq_true rfl, Nat.le_of_ble_eq_true rfl⟩) (pvR 108 hK hP (by decide) xc108 rfl) rfl rfl hl.1 rfl (lv_room (Nat.le_of_ble_eq_true rfl)) dX3_middleByAdding_35 ⟨Nat.le_of_ble_eq_true rfl, Nat.le_of_ble_eq_true rfl⟩) (fun r9 hr8 => ?_)
        subst hr8
        refine lv_iadd hx hb dX3_middleByAdding_38 ?_
        refine lv_istore (lv' := [(4, .int ((wBel (po 0) (po 1) (po 0 j) 7) + (wAt (po 0) (po 1) (po 0 j) 7))), (3, .int (wBel (po 0) (po 1) (po 0 j) 7)), (0, .ref (a 108)), (1, .int (sumN (po 1) 7)), (2, .int (nI j))]) hx hb dX3_middleByAdding_39 hl (by decide) rfl (fun ls hl => ?_)
        refine lv_aload_n hx hb dX3_middleByAdding_41 rfl (lv_at hl 2 rfl) ?_
        refine g_get hx hb hts hown inA3 hK hP 108 (by decide) xc108 rfl 1 (by decide) tw150 rfl (v := .ref (a 110)) rfl dX3_middleByAdding_42 ?_
        refine lv_iload_n hx hb dX3_middleByAdding_45 rfl (lv_at hl 4 rfl) ?_
        refine g_iald hx hb hK hP 110 (by decide) xc110 j rfl (by omega) (by decide) dX3_middleByAdding_46 (v := po 1 j) rfl ?_
        refine lv_if_le (tgt := 72) hx hb dX3_middleByAdding_47 (by decide) (fun c11 => ?_) (fun c11 => ?_)
        · skip
          have c11x := Int32.not_lt.mpr c11
          refine lv_iinc (v := nI (j + 1)) (lv' := [(2, .int (nI (j + 1))), (4, .int ((wBel (po 0) (po 1) (po 0 j) 7) + (wAt (po 0) (po 1) (po 0 j) 7))), (3, .int (wBel (po 0) (po 1) (po 0 j) 7)), (0, .ref (a 108)), (1, .int (sumN (po 1) 7))]) hx hb dX3_middleByAdding_72 hl (k := 4) rfl (nI_add j 1) (by decide) rfl (fun ls hl => ?_)
          refine lv_goto (tgt := 10) hx hb dX3_middleByAdding_75 (by decide) ?_
          exact ih10 (j + 1) (by omega) (by omega) (by rw [hR, show 7 - j = (7 - (j + 1)) + 1 by omega, midA, if_neg (fun h => absurd h (by simp [c4, c4x, c4n, c11, c11x]))]) ls (lv_sub hl [3, 4, 0] rfl)
        · skip
          have c11x := Int32.not_le.mp c11
          refine lv_iconst (v := 2) hx hb dX3_middleByAdding_50 (by decide) ?_
          refine lv_iload_n hx hb dX3_middleByAdding_51 rfl (lv_at hl 1 rfl) ?_
          refine lv_imul hx hb dX3_middleByAdding_52 ?_
          refine lv_iload_n hx hb dX3_middleByAdding_53 rfl (lv_at hl 3 rfl) ?_
          refine lv_icmp_ge (tgt := 72) hx hb dX3_middleByAdding_54 (by decide) (fun c12 => ?_) (fun c12 => ?_)
          · skip
            have c12x := Int32.not_lt.mpr c12
            refine lv_iinc (v := nI (j + 1)) (lv' := [(2, .int (nI (j + 1))), (4, .int ((wBel (po 0) (po 1) (po 0 j) 7) + (wAt (po 0) (po 1) (po 0 j) 7))), (3, .int (wBel (po 0) (po 1) (po 0 j) 7)), (0, .ref (a 108)), (1, .int (sumN (po 1) 7))]) hx hb dX3_middleByAdding_72 hl (k := 4) rfl (nI_add j 1) (by decide) rfl (fun ls hl => ?_)
            refine lv_goto (tgt := 10) hx hb dX3_middleByAdding_75 (by decide) ?_
            exact ih10 (j + 1) (by omega) (by omega) (by rw [hR, show 7 - j = (7 - (j + 1)) + 1 by omega, midA, if_neg (fun h => absurd h (by simp [c4, c4x, c4n, c11, c11x, c12, c12x]))]) ls (lv_sub hl [3, 4, 0] rfl)
          · skip
            have c12x := Int32.not_le.mp c12
            refine lv_iconst (v := 2) hx hb dX3_middleByAdding_57 (by decide) ?_
            refine lv_iload hx hb dX3_middleByAdding_58 (lv_at hl 0 rfl) ?_
            refine lv_imul hx hb dX3_middleByAdding_60 ?_
            refine lv_iload_n hx hb dX3_middleByAdding_61 rfl (lv_at hl 3 rfl) ?_
            refine lv_icmp_lt (tgt := 72) hx hb dX3_middleByAdding_62 (by decide) (fun c13 => ?_) (fun c13 => ?_)
            · skip
              have c13x := Int32.not_le.mpr c13
              refine lv_iinc (v := nI (j + 1)) (lv' := [(2, .int (nI (j + 1))), (4, .int ((wBel (po 0) (po 1) (po 0 j) 7) + (wAt (po 0) (po 1) (po 0 j) 7))), (3, .int (wBel (po 0) (po 1) (po 0 j) 7)), (0, .ref (a 108)), (1, .int (sumN (po 1) 7))]) hx hb dX3_middleByAdding_72 hl (k := 4) rfl (nI_add j 1) (by decide) rfl (fun ls hl => ?_)
              refine lv_goto (tgt := 10) hx hb dX3_middleByAdding_75 (by decide) ?_
              exact ih10 (j + 1) (by omega) (by omega) (by rw [hR, show 7 - j = (7 - (j + 1)) + 1 by omega, midA, if_neg (fun h => absurd h (by simp [c4, c4x, c4n, c11, c11x, c12, c12x, c13, c13x]))]) ls (lv_sub hl [3, 4, 0] rfl)
            · skip
              have c13x := Int32.not_lt.mp c13
              refine lv_aload_n hx hb dX3_middleByAdding_65 rfl (lv_at hl 2 rfl) ?_
              refine g_get hx hb hts hown inA3 hK hP 108 (by decide) xc108 rfl 0 (by decide) tw148 rfl (v := .ref (a 109)) rfl dX3_middleByAdding_66 ?_
              refine lv_iload_n hx hb dX3_middleByAdding_69 rfl (lv_at hl 4 rfl) ?_
              refine g_iald hx hb hK hP 109 (by decide) xc109 j rfl (by omega) (by decide) dX3_middleByAdding_70 (v := po 0 j) rfl ?_
              exact ro_ir hx hb hr rfl hlocks (by rw [hR, show 7 - j = (7 - (j + 1)) + 1 by omega, midA, if_pos (by simp [c4, c4x, c4n, c11, c11x, c12, c12x, c13, c13x])]) dX3_middleByAdding_71
  exact loop10 (7 + 1) 0 (by omega) (by omega) rfl ls (lv_sub hl [2, 1, 0] rfl)

set_option maxHeartbeats 4000000 in
set_option maxRecDepth 100000 in
theorem m_X3_middleByOrder (l : Launch) (D : va_G) (cI cS : ClassId) (a : Nat → Nat) (s : St) (st : Nat → St) (pi : Nat → Nat) (mi po : St) (zz : Nat) : Met l yX3_middleByOrder (.code yX3_middleByOrder cX3_middleByOrder 7 (some .int) :: wsA) ({ frames := 1, cells := 0, slots := 0, locals := 25 } : Room) (va_Pc [.ref (a 108)] (PW D cI cS 113 a (exC cI cS a s st pi mi po) zz)) (va_Qi (fun (r : Int32) (u : Unit) => r = midO (po 0) (po 1) (sumN (po 1) 7) 7 0 0) (BW D 113 a (fun u => exC cI cS a s st pi mi (upR po 2 (ordR (po 0) (po 2) 7)))) (AX 113 a zz)) 0 0 (AX 113 a zz) := by
  refine mgo (by decide) (Nat.le_of_ble_eq_true rfl) ?_
  intro p e z m below meth c hx hb hr hml hown hts hlocks hB ls hl
  obtain ⟨hsz, hP, hK, hE⟩ := hB
  subst hsz
  have hS : va_S (AX 113 a z.heap.size) z.heap z.heap [] := va_S.rf
  have hl : lv_has ls 7 [(0, .ref (a 108))] := hl
  refine lv_iconst (v := 0) hx hb dX3_middleByOrder_0 (by decide) ?_
  refine lv_istore_n (lv' := [(1, .int 0), (0, .ref (a 108))]) hx hb dX3_middleByOrder_1 rfl hl (by decide) rfl (fun ls hl => ?_)
  have loop2 : ∀ (fu : Nat) (j : Nat), 7 + 1 ≤ j + fu → (j ≤ 7) → ∀ (H : Heap) (locs : List Loc), HP D 113 a (exC cI cS a s st pi mi (upR po 2 (ordR (po 0) (po 2) j))) H → va_S (AX 113 a z.heap.size) z.heap H locs → ∀ ls : Array Slot, lv_has ls 7 [(0, .ref (a 108)), (1, .int (nI j))] → W p l e ({ frames := 1, cells := 0, slots := 0, locals := 25 } : Room) z m ([.ref (a 108)] : List Value).toArray below meth c H locs 0 0 (MQ below (va_Qi (fun (r : Int32) (u : Unit) => r = midO (po 0) (po 1) (sumN (po 1) 7) 7 0 0) (BW D 113 a (fun u => exC cI cS a s st pi mi (upR po 2 (ordR (po 0) (po 2) 7)))) (AX 113 a z.heap.size)) ([.ref (a 108)] : List Value).toArray z 0 0 (AX 113 a z.heap.size)) (F0 m 2 ls []) := by
    intro fu
    induction fu with
    | zero => intro j hn hj; exact absurd hn (by omega)
    | succ fu ih2 =>
      intro j hn hj H locs hP hS ls hl
      refine lv_iload_n hx hb dX3_middleByOrder_2 rfl (lv_at hl 1 rfl) ?_
      refine lv_bipush (v := 7) hx hb dX3_middleByOrder_3 (by decide) ?_
      refine lv_icmp_ge (tgt := 36) hx hb dX3_middleByOrder_5 (by decide) (fun c1 => ?_) (fun c1 => ?_)
      · skip
        have c1x := Int32.not_lt.mpr c1
        have c1n := (nI_le2 (p := 7) (q := j) rfl rfl (by omega) (by omega)).mp c1
        have c1n : 7 ≤ j := c1n
        have hjq : 7 = j := by omega
        subst hjq
        refine lv_aload_n hx hb dX3_middleByOrder_36 rfl (lv_at hl 0 rfl) ?_
        refine g_get hx hb hts hown inA3 hK hP 108 (by decide) xc108 rfl 1 (by decide) tw150 rfl (v := .ref (a 110)) rfl dX3_middleByOrder_37 ?_
        refine ro_i (va_runSN (As := [.ref (a 110)]) (rest := []) ⟨hx, hb, hml, hown, hts⟩ (m_X6_sum l D cI cS 113 a (exC cI cS a s st pi mi (upR po 2 (ordR (po 0) (po 2) 7))) 110 (by decide) (po 1) rfl) ⟨va_cnB 1 hts (gA tw303) rfl rfl rfl (hK.2 _ tn301) (hts _ tw1) (by decide +kernel) ⟨Nat.le_of_ble_eq_true rfl, Nat.le_of_ble_eq_true rfl⟩, hts _ tw302, trivial⟩ (psR hK hP) rfl rfl hl.1 rfl (lv_room (Nat.le_of_ble_eq_true rfl)) dX3_middleByOrder_40 ⟨Nat.le_of_ble_eq_true rfl, Nat.le_of_ble_eq_true rfl⟩) (fun r3 hr2 => ?_)
        subst hr2
        refine lv_istore_n (lv' := [(1, .int (sumN (po 1) 7)), (0, .ref (a 108))]) hx hb dX3_middleByOrder_43 rfl hl (by decide) rfl (fun ls hl => ?_)
        refine lv_iconst (v := 0) hx hb dX3_middleByOrder_44 (by decide) ?_
        refine lv_istore_n (lv' := [(2, .int 0), (1, .int (sumN (po 1) 7)), (0, .ref (a 108))]) hx hb dX3_middleByOrder_45 rfl hl (by decide) rfl (fun ls hl => ?_)
        refine lv_aload_n hx hb dX3_middleByOrder_46 rfl (lv_at hl 2 rfl) ?_
        refine g_get hx hb hts hown inA3 hK hP 108 (by decide) xc108 rfl 2 (by decide) tw152 rfl (v := .ref (a 111)) rfl dX3_middleByOrder_47 ?_
        refine lv_astore_n (lv' := [(3, .ref (a 111)), (2, .int 0), (1, .int (sumN (po 1) 7)), (0, .ref (a 108))]) hx hb dX3_middleByOrder_50 rfl hl (by decide) rfl (fun ls hl => ?_)
        refine lv_aload_n hx hb dX3_middleByOrder_51 rfl (lv_at hl 0 rfl) ?_
        refine g_alen hx hb hK hP 111 (by decide) xc111 (v := 7) (by decide) dX3_middleByOrder_52 ?_
        refine lv_istore (lv' := [(4, .int 7), (3, .ref (a 111)), (2, .int 0), (1, .int (sumN (po 1) 7)), (0, .ref (a 108))]) hx hb dX3_middleByOrder_53 hl (by decide) rfl (fun ls hl => ?_)
        refine lv_iconst (v := 0) hx hb dX3_middleByOrder_55 (by decide) ?_
        refine lv_istore (lv' := [(5, .int 0), (4, .int 7), (3, .ref (a 111)), (2, .int 0), (1, .int (sumN (po 1) 7)), (0, .ref (a 108))]) hx hb dX3_middleByOrder_56 hl (by decide) rfl (fun ls hl => ?_)
        have loop58 : ∀ (fu : Nat) (j : Nat) (x : Int32), 7 + 1 ≤ j + fu → (j ≤ 7) → (midO (po 0) (po 1) (sumN (po 1) 7) 7 0 0 = midO (po 0) (po 1) (sumN (po 1) 7) (7 - j) j x) → ∀ (H : Heap) (locs : List Loc), HP D 113 a (exC cI cS a s st pi mi (upR po 2 (ordR (po 0) (po 2) 7))) H → va_S (AX 113 a z.heap.size) z.heap H locs → ∀ ls : Array Slot, lv_has ls 7 [(0, .ref (a 108)), (1, .int (sumN (po 1) 7)), (2, .int x), (3, .ref (a 111)), (4, .int 7), (5, .int (nI j))] → W p l e ({ frames := 1, cells := 0, slots := 0, locals := 25 } : Room) z m ([.ref (a 108)] : List Value).toArray below meth c H locs 0 0 (MQ below (va_Qi (fun (r : Int32) (u : Unit) => r = midO (po 0) (po 1) (sumN (po 1) 7) 7 0 0) (BW D 113 a (fun u => exC cI cS a s st pi mi (upR po 2 (ordR (po 0) (po 2) 7)))) (AX 113 a z.heap.size)) ([.ref (a 108)] : List Value).toArray z 0 0 (AX 113 a z.heap.size)) (F0 m 58 ls []) := by
          intro fu
          induction fu with
          | zero => intro j x hn hj hR; exact absurd hn (by omega)
          | succ fu ih58 =>
            intro j x hn hj hR H locs hP hS ls hl
            refine lv_iload hx hb dX3_middleByOrder_58 (lv_at hl 5 rfl) ?_
            refine lv_iload hx hb dX3_middleByOrder_60 (lv_at hl 4 rfl) ?_
            refine lv_icmp_ge (tgt := 112) hx hb dX3_middleByOrder_62 (by decide) (fun c5 => ?_) (fun c5 => ?_)
            · skip
              have c5x := Int32.not_lt.mpr c5
              have c5n := (nI_le2 (p := 7) (q := j) rfl rfl (by omega) (by omega)).mp c5
              have c5n : 7 ≤ j := c5n
              have hjq : 7 = j := by omega
              subst hjq
              refine lv_iconst (v := (-1)) hx hb dX3_middleByOrder_112 (by decide) ?_
              exact rw_ir hx hb hr rfl hlocks hS () hP (by rw [hR]; rfl) dX3_middleByOrder_113
            · skip
              have c5x := Int32.not_le.mp c5
              have c5n := fun hq0 => c5 ((nI_le2 (p := 7) (q := j) rfl rfl (by omega) (by omega)).mpr hq0)
              have c5n : ¬ (7 ≤ j) := c5n
              refine lv_aload_n hx hb dX3_middleByOrder_65 rfl (lv_at hl 3 rfl) ?_
              refine lv_iload hx hb dX3_middleByOrder_66 (lv_at hl 5 rfl) ?_
              have hinv := (invN_ok (po 0) (i := j) (by omega)).1
              refine g_iald hx hb hK hP 111 (by decide) xc111 j rfl (by omega) (by decide) dX3_middleByOrder_68 (v := nI (invN (po 0) j)) (ordR_inv (by omega)) ?_
              refine lv_istore (lv' := [(6, .int (nI (invN (po 0) j))), (0, .ref (a 108)), (1, .int (sumN (po 1) 7)), (2, .int x), (3, .ref (a 111)), (4, .int 7), (5, .int (nI j))]) hx hb dX3_middleByOrder_69 hl (by decide) rfl (fun ls hl => ?_)
              refine lv_iload_n hx hb dX3_middleByOrder_71 rfl (lv_at hl 3 rfl) ?_
              refine lv_aload_n hx hb dX3_middleByOrder_72 rfl (lv_at hl 1 rfl) ?_
              refine g_get hx hb hts hown inA3 hK hP 108 (by decide) xc108 rfl 1 (by decide) tw150 rfl (v := .ref (a 110)) rfl dX3_middleByOrder_73 ?_
              refine lv_iload hx hb dX3_middleByOrder_76 (lv_at hl 0 rfl) ?_
              refine g_iald hx hb hK hP 110 (by decide) xc110 (invN (po 0) j) rfl (by omega) (by decide) dX3_middleByOrder_78 (v := po 1 (invN (po 0) j)) rfl ?_
              refine lv_iadd hx hb dX3_middleByOrder_79 ?_
              refine lv_istore_n (lv' := [(2, .int (x + (po 1 (invN (po 0) j)))), (6, .int (nI (invN (po 0) j))), (0, .ref (a 108)), (1, .int (sumN (po 1) 7)), (3, .ref (a 111)), (4, .int 7), (5, .int (nI j))]) hx hb dX3_middleByOrder_80 rfl hl (by decide) rfl (fun ls hl => ?_)
              refine lv_aload_n hx hb dX3_middleByOrder_81 rfl (lv_at hl 2 rfl) ?_
              refine g_get hx hb hts hown inA3 hK hP 108 (by decide) xc108 rfl 1 (by decide) tw150 rfl (v := .ref (a 110)) rfl dX3_middleByOrder_82 ?_
              refine lv_iload hx hb dX3_middleByOrder_85 (lv_at hl 1 rfl) ?_
              refine g_iald hx hb hK hP 110 (by decide) xc110 (invN (po 0) j) rfl (by omega) (by decide) dX3_middleByOrder_87 (v := po 1 (invN (po 0) j)) rfl ?_
              refine lv_if_le (tgt := 106) hx hb dX3_middleByOrder_88 (by decide) (fun c6 => ?_) (fun c6 => ?_)
              · skip
                have c6x := Int32.not_lt.mpr c6
                refine lv_iinc (v := nI (j + 1)) (lv' := [(5, .int (nI (j + 1))), (2, .int (x + (po 1 (invN (po 0) j)))), (6, .int (nI (invN (po 0) j))), (0, .ref (a 108)), (1, .int (sumN (po 1) 7)), (3, .ref (a 111)), (4, .int 7)]) hx hb dX3_middleByOrder_106 hl (k := 6) rfl (nI_add j 1) (by decide) rfl (fun ls hl => ?_)
                refine lv_goto (tgt := 58) hx hb dX3_middleByOrder_109 (by decide) ?_
                exact ih58 (j + 1) (x + (po 1 (invN (po 0) j))) (by omega) (by omega) (by rw [hR, show 7 - j = (7 - (j + 1)) + 1 by omega, midO, if_neg (fun h => absurd h (by simp [c5, c5x, c5n, c6, c6x]))]) _ _ hP hS ls (lv_sub hl [3, 4, 1, 5, 6, 0] rfl)
              · skip
                have c6x := Int32.not_le.mp c6
                refine lv_iconst (v := 2) hx hb dX3_middleByOrder_91 (by decide) ?_
                refine lv_iload_n hx hb dX3_middleByOrder_92 rfl (lv_at hl 0 rfl) ?_
                refine lv_imul hx hb dX3_middleByOrder_93 ?_
                refine lv_iload_n hx hb dX3_middleByOrder_94 rfl (lv_at hl 3 rfl) ?_
                refine lv_icmp_lt (tgt := 106) hx hb dX3_middleByOrder_95 (by decide) (fun c7 => ?_) (fun c7 => ?_)
                · skip
                  have c7x := Int32.not_le.mpr c7
                  refine lv_iinc (v := nI (j + 1)) (lv' := [(5, .int (nI (j + 1))), (2, .int (x + (po 1 (invN (po 0) j)))), (6, .int (nI (invN (po 0) j))), (0, .ref (a 108)), (1, .int (sumN (po 1) 7)), (3, .ref (a 111)), (4, .int 7)]) hx hb dX3_middleByOrder_106 hl (k := 6) rfl (nI_add j 1) (by decide) rfl (fun ls hl => ?_)
                  refine lv_goto (tgt := 58) hx hb dX3_middleByOrder_109 (by decide) ?_
                  exact ih58 (j + 1) (x + (po 1 (invN (po 0) j))) (by omega) (by omega) (by rw [hR, show 7 - j = (7 - (j + 1)) + 1 by omega, midO, if_neg (fun h => absurd h (by simp [c5, c5x, c5n, c6, c6x, c7, c7x]))]) _ _ hP hS ls (lv_sub hl [3, 4, 1, 5, 6, 0] rfl)
                · skip
                  have c7x := Int32.not_lt.mp c7
                  refine lv_aload_n hx hb dX3_middleByOrder_98 rfl (lv_at hl 2 rfl) ?_
                  refine g_get hx hb hts hown inA3 hK hP 108 (by decide) xc108 rfl 0 (by decide) tw148 rfl (v := .ref (a 109)) rfl dX3_middleByOrder_99 ?_
                  refine lv_iload hx hb dX3_middleByOrder_102 (lv_at hl 1 rfl) ?_
                  refine g_iald hx hb hK hP 109 (by decide) xc109 (invN (po 0) j) rfl (by omega) (by decide) dX3_middleByOrder_104 (v := po 0 (invN (po 0) j)) rfl ?_
                  exact rw_ir hx hb hr rfl hlocks hS () hP (by rw [hR, show 7 - j = (7 - (j + 1)) + 1 by omega, midO, if_pos (by simp [c5, c5x, c5n, c6, c6x, c7, c7x])]) dX3_middleByOrder_105
        exact loop58 (7 + 1) 0 0 (by omega) (by omega) rfl _ _ hP hS ls (lv_sub hl [5, 4, 3, 2, 1, 0] rfl)
      · skip
        have c1x := Int32.not_le.mp c1
        have c1n := fun hq0 => c1 ((nI_le2 (p := 7) (q := j) rfl rfl (by omega) (by omega)).mpr hq0)
        have c1n : ¬ (7 ≤ j) := c1n
        refine lv_aload_n hx hb dX3_middleByOrder_8 rfl (lv_at hl 0 rfl) ?_
        refine lv_iload_n hx hb dX3_middleByOrder_9 rfl (lv_at hl 1 rfl) ?_
        refine ro_i (va_runV (As := [.int (nI j)]) (rest := []) ⟨hx, hb, hml, hown, hts⟩ (m_X3_placeOf l D cI cS a s st pi mi (upR po 2 (ordR (po 0) (po 2) j)) j (by omega)) (cwV 1 hts (gV tw300 tw297 tw298 tw299 tw7) rfl rfl rfl (by decide +kernel) ⟨Nat.le_of_ble_eq_true rfl, Nat.le_of_ble_eq_true rfl⟩) (pvR 108 hK hP (by decide) xc108 rfl) rfl rfl hl.1 rfl (lv_room (Nat.le_of_ble_eq_true rfl)) dX3_middleByOrder_10 ⟨Nat.le_of_ble_eq_true rfl, Nat.le_of_ble_eq_true rfl⟩) (fun r9 hr8 => ?_)
        subst hr8
        refine lv_istore_n (lv' := [(2, .int (nI (plcN (po 0) j 7))), (0, .ref (a 108)), (1, .int (nI j))]) hx hb dX3_middleByOrder_13 rfl hl (by decide) rfl (fun ls hl => ?_)
        have hpl := plcN_lt (f := po 0) (w := j) (by omega)
        refine lv_iload_n hx hb dX3_middleByOrder_14 rfl (lv_at hl 0 rfl) ?_
        refine lv_aload_n hx hb dX3_middleByOrder_15 rfl (lv_at hl 1 rfl) ?_
        refine g_get hx hb hts hown inA3 hK hP 108 (by decide) xc108 rfl 2 (by decide) tw152 rfl (v := .ref (a 111)) rfl dX3_middleByOrder_16 ?_
        refine g_alen hx hb hK hP 111 (by decide) xc111 (v := 7) (by decide) dX3_middleByOrder_19 ?_
        refine lv_icmp_ge (tgt := 30) hx hb dX3_middleByOrder_20 (by decide) (fun h0 => absurd h0 (fun h => by have := (nI_le2 (p := 7) (q := plcN (po 0) j 7) rfl rfl (by omega) (by omega)).mp h; omega)) (fun _ => ?_)
        refine lv_aload_n hx hb dX3_middleByOrder_23 rfl (lv_at hl 1 rfl) ?_
        refine g_get hx hb hts hown inA3 hK hP 108 (by decide) xc108 rfl 2 (by decide) tw152 rfl (v := .ref (a 111)) rfl dX3_middleByOrder_24 ?_
        refine lv_iload_n hx hb dX3_middleByOrder_27 rfl (lv_at hl 0 rfl) ?_
        refine lv_iload_n hx hb dX3_middleByOrder_28 rfl (lv_at hl 2 rfl) ?_
        refine g_iast hx hb hK hP hE hS 111 (by decide) xc111 (plcN (po 0) j 7) rfl (by omega) (by omega) dX3_middleByOrder_29 (ex' := exC cI cS a s st pi mi (upR po 2 (ordR (po 0) (po 2) (j + 1)))) rfl (fun q h1 h2 => (xo_po (by decide) rfl q h1 h2).trans (xo_po (by decide) rfl q h1 h2).symm) (fun H locs hP hS => ?_)
        refine lv_iinc (v := nI (j + 1)) (lv' := [(1, .int (nI (j + 1))), (2, .int (nI (plcN (po 0) j 7))), (0, .ref (a 108))]) hx hb dX3_middleByOrder_30 hl (k := 2) rfl (nI_add j 1) (by decide) rfl (fun ls hl => ?_)
        refine lv_goto (tgt := 2) hx hb dX3_middleByOrder_33 (by decide) ?_
        exact ih2 (j + 1) (by omega) (by omega) _ _ hP hS ls (lv_sub hl [2, 0] rfl)
  exact loop2 (7 + 1) 0 (by omega) (by omega) _ _ hP hS ls (lv_sub hl [1, 0] rfl)

set_option maxHeartbeats 4000000 in
set_option maxRecDepth 100000 in
theorem m_X2_isWithin (l : Launch) (x lo hi : Int32) : Met l yX2_isWithin (.code yX2_isWithin cX2_isWithin 3 (some .boolean) :: wsA) ({ frames := 0, cells := 0, slots := 0, locals := 0 } : Room) (va_Pc [.int x, .int lo, .int hi] (fun _ => True)) (vp_Si (fun r => r = bI (witB x lo hi))) 0 0 (fun _ => False) := by
  refine mgo (by decide) (Nat.le_of_ble_eq_true rfl) ?_
  intro p e z m below meth c hx hb hr hml hown hts hlocks hB ls hl
  have hl : lv_has ls 3 [(0, .int x), (1, .int lo), (2, .int hi)] := hl
  refine lv_iload_n hx hb dX2_isWithin_0 rfl (lv_at hl 0 rfl) ?_
  refine lv_iload_n hx hb dX2_isWithin_1 rfl (lv_at hl 1 rfl) ?_
  refine lv_icmp_lt (tgt := 14) hx hb dX2_isWithin_2 (by decide) (fun c1 => ?_) (fun c1 => ?_)
  · skip
    have c1x := Int32.not_le.mpr c1
    refine lv_iconst (v := 0) hx hb dX2_isWithin_14 (by decide) ?_
    exact ro_ir hx hb hr rfl hlocks (bI_f (by first | assumption | simp [witB, c1, c1x])).symm dX2_isWithin_15
  · skip
    have c1x := Int32.not_lt.mp c1
    refine lv_iload_n hx hb dX2_isWithin_5 rfl (lv_at hl 0 rfl) ?_
    refine lv_iload_n hx hb dX2_isWithin_6 rfl (lv_at hl 2 rfl) ?_
    refine lv_icmp_gt (tgt := 14) hx hb dX2_isWithin_7 (by decide) (fun c2 => ?_) (fun c2 => ?_)
    · skip
      have c2x := Int32.not_le.mpr c2
      refine lv_iconst (v := 0) hx hb dX2_isWithin_14 (by decide) ?_
      exact ro_ir hx hb hr rfl hlocks (bI_f (by first | assumption | simp [witB, c1, c1x, c2, c2x])).symm dX2_isWithin_15
    · skip
      have c2x := Int32.not_lt.mp c2
      refine lv_iconst (v := 1) hx hb dX2_isWithin_10 (by decide) ?_
      refine lv_goto (tgt := 15) hx hb dX2_isWithin_11 (by decide) ?_
      exact ro_ir hx hb hr rfl hlocks (bI_t (by first | assumption | simp [witB, c1, c1x, c2, c2x])).symm dX2_isWithin_15

set_option maxHeartbeats 4000000 in
set_option maxRecDepth 100000 in
theorem m_X2_dueAfterKind (l : Launch) (x : Int32) : Met l yX2_dueAfterKind (.code yX2_dueAfterKind cX2_dueAfterKind 1 (some .int) :: wsA) ({ frames := 0, cells := 0, slots := 0, locals := 0 } : Room) (va_Pc [.int x] (fun _ => True)) (vp_Si (fun r => r = kindF x)) 0 0 (fun _ => False) := by
  refine mgo (by decide) (Nat.le_of_ble_eq_true rfl) ?_
  intro p e z m below meth c hx hb hr hml hown hts hlocks hB ls hl
  have hl : lv_has ls 1 [(0, .int x)] := hl
  refine lv_iload_n hx hb dX2_dueAfterKind_0 rfl (lv_at hl 0 rfl) ?_
  by_cases sw1 : x = 99
  · skip
    refine lv_lookup (tgt := 48) hx hb dX2_dueAfterKind_1 (by decide) (off := 47) (by first | (rw [sw1]; done) | (rw [sw1]; decide)) (by decide) ?_
    refine lv_iconst (v := 3) hx hb dX2_dueAfterKind_48 (by decide) ?_
    exact ro_ir hx hb hr rfl hlocks (by simp [kindF, sw1]) dX2_dueAfterKind_49
  · skip
    by_cases sw2 : x = 100
    · skip
      refine lv_lookup (tgt := 50) hx hb dX2_dueAfterKind_1 (by decide) (off := 49) (by first | (rw [sw2]; done) | (rw [sw2]; decide)) (by decide) ?_
      refine lv_iconst (v := 4) hx hb dX2_dueAfterKind_50 (by decide) ?_
      exact ro_ir hx hb hr rfl hlocks (by simp [kindF, sw1, sw2]) dX2_dueAfterKind_51
    · skip
      by_cases sw3 : x = 116
      · skip
        refine lv_lookup (tgt := 44) hx hb dX2_dueAfterKind_1 (by decide) (off := 43) (by first | (rw [sw3]; done) | (rw [sw3]; decide)) (by decide) ?_
        refine lv_iconst (v := 1) hx hb dX2_dueAfterKind_44 (by decide) ?_
        exact ro_ir hx hb hr rfl hlocks (by simp [kindF, sw1, sw2, sw3]) dX2_dueAfterKind_45
      · skip
        by_cases sw4 : x = 118
        · skip
          refine lv_lookup (tgt := 46) hx hb dX2_dueAfterKind_1 (by decide) (off := 45) (by first | (rw [sw4]; done) | (rw [sw4]; decide)) (by decide) ?_
          refine lv_iconst (v := 3) hx hb dX2_dueAfterKind_46 (by decide) ?_
          exact ro_ir hx hb hr rfl hlocks (by simp [kindF, sw1, sw2, sw3, sw4]) dX2_dueAfterKind_47
        · skip
          refine lv_lookup (tgt := 52) hx hb dX2_dueAfterKind_1 (by decide) (off := 51) (by show Op.lookupswitch.offset [(99, 47), (100, 49), (116, 43), (118, 45)] 51 _ = _; rw [lv_osw sw1 (by decide), lv_osw sw2 (by decide), lv_osw sw3 (by decide), lv_osw sw4 (by decide)]; rfl) (by decide) ?_
          refine lv_iconst (v := (-1)) hx hb dX2_dueAfterKind_52 (by decide) ?_
          exact ro_ir hx hb hr rfl hlocks (by simp [kindF, sw1, sw2, sw3, sw4]) dX2_dueAfterKind_53

set_option maxHeartbeats 4000000 in
set_option maxRecDepth 100000 in
theorem m_X2_dueAfterPart (l : Launch) (x : Int32) : Met l yX2_dueAfterPart (.code yX2_dueAfterPart cX2_dueAfterPart 1 (some .int) :: wsA) ({ frames := 0, cells := 0, slots := 0, locals := 0 } : Room) (va_Pc [.int x] (fun _ => True)) (vp_Si (fun r => r = partF x)) 0 0 (fun _ => False) := by
  refine mgo (by decide) (Nat.le_of_ble_eq_true rfl) ?_
  intro p e z m below meth c hx hb hr hml hown hts hlocks hB ls hl
  have hl : lv_has ls 1 [(0, .int x)] := hl
  refine lv_iload_n hx hb dX2_dueAfterPart_0 rfl (lv_at hl 0 rfl) ?_
  refine lv_bipush (v := 59) hx hb dX2_dueAfterPart_1 (by decide) ?_
  refine lv_icmp_ne (tgt := 10) hx hb dX2_dueAfterPart_3 (by decide) (fun c1 => ?_) (fun c1 => ?_)
  · skip
    refine lv_iconst (v := (-1)) hx hb dX2_dueAfterPart_10 (by decide) ?_
    exact ro_ir hx hb hr rfl hlocks (by simp [partF, c1]) dX2_dueAfterPart_11
  · skip
    refine lv_iconst (v := 0) hx hb dX2_dueAfterPart_6 (by decide) ?_
    refine lv_goto (tgt := 11) hx hb dX2_dueAfterPart_7 (by decide) ?_
    exact ro_ir hx hb hr rfl hlocks (by simp [partF, c1]) dX2_dueAfterPart_11

set_option maxHeartbeats 4000000 in
set_option maxRecDepth 100000 in
theorem m_X2_dueAfter (l : Launch) (du x : Int32) : Met l yX2_dueAfter (.code yX2_dueAfter cX2_dueAfter 2 (some .int) :: wsA) ({ frames := 1, cells := 0, slots := 0, locals := 22 } : Room) (va_Pc [.int du, .int x] (fun _ => True)) (vp_Si (fun r => r = dueF du x)) 0 0 (fun _ => False) := by
  refine mgo (by decide) (Nat.le_of_ble_eq_true rfl) ?_
  intro p e z m below meth c hx hb hr hml hown hts hlocks hB ls hl
  have hl : lv_has ls 2 [(0, .int du), (1, .int x)] := hl
  refine lv_iload_n hx hb dX2_dueAfter_0 rfl (lv_at hl 0 rfl) ?_
  by_cases sw1 : du = 0
  · skip
    refine lv_tableIn (tgt := 44) hx hb dX2_dueAfter_1 (by first | (rw [sw1]; done) | (rw [sw1]; decide)) (by first | (rw [sw1]; done) | (rw [sw1]; decide)) (off := 43) (by first | (rw [sw1]; done) | (rw [sw1]; decide)) (by decide) ?_
    refine lv_iload_n hx hb dX2_dueAfter_44 rfl (lv_at hl 1 rfl) ?_
    refine ro_i (va_runS (As := [.int x]) (rest := []) ⟨hx, hb, hml, hown, hts⟩ (m_X2_dueAfterKind l x) (va_cwS 1 hts (gS tw260 tw258 tw259 tw6) rfl rfl rfl (by decide +kernel) ⟨Nat.le_of_ble_eq_true rfl, Nat.le_of_ble_eq_true rfl⟩) ps0 rfl rfl hl.1 rfl (lv_room (Nat.le_of_ble_eq_true rfl)) dX2_dueAfter_45 ⟨Nat.le_of_ble_eq_true rfl, Nat.le_of_ble_eq_true rfl⟩) (fun r3 hr2 => ?_)
    subst hr2
    exact ro_ir hx hb hr rfl hlocks (by simp [dueF, sw1]) dX2_dueAfter_48
  · skip
    by_cases sw5 : du = 1
    · skip
      refine lv_tableIn (tgt := 49) hx hb dX2_dueAfter_1 (by first | (rw [sw5]; done) | (rw [sw5]; decide)) (by first | (rw [sw5]; done) | (rw [sw5]; decide)) (off := 48) (by first | (rw [sw5]; done) | (rw [sw5]; decide)) (by decide) ?_
      refine lv_iload_n hx hb dX2_dueAfter_49 rfl (lv_at hl 1 rfl) ?_
      refine lv_bipush (v := 49) hx hb dX2_dueAfter_50 (by decide) ?_
      refine lv_bipush (v := 57) hx hb dX2_dueAfter_52 (by decide) ?_
      refine ro_i (va_runS (As := [.int x, .int 49, .int 57]) (rest := []) ⟨hx, hb, hml, hown, hts⟩ (m_X2_isWithin l x 49 57) (va_cwS 3 hts (gS tw263 tw261 tw262 tw6) rfl rfl rfl (by decide +kernel) ⟨Nat.le_of_ble_eq_true rfl, Nat.le_of_ble_eq_true rfl⟩) ps0 rfl rfl hl.1 rfl (lv_room (Nat.le_of_ble_eq_true rfl)) dX2_dueAfter_54 ⟨Nat.le_of_ble_eq_true rfl, Nat.le_of_ble_eq_true rfl⟩) (fun r7 hr6 => ?_)
      subst hr6
      refine lv_bI (fun c9 => ?_) (fun c9 => ?_)
      · skip
        refine lv_if_eq (tgt := 64) hx hb dX2_dueAfter_57 (by decide) (fun h0 => absurd h0 (by decide)) (fun _ => ?_)
        refine lv_iconst (v := 2) hx hb dX2_dueAfter_60 (by decide) ?_
        refine lv_goto (tgt := 65) hx hb dX2_dueAfter_61 (by decide) ?_
        exact ro_ir hx hb hr rfl hlocks (by simp [dueF, sw1, sw5, c9]) dX2_dueAfter_65
      · skip
        refine lv_if_eq (tgt := 64) hx hb dX2_dueAfter_57 (by decide) (fun _ => ?_) (fun h0 => absurd (by decide) h0)
        refine lv_iconst (v := (-1)) hx hb dX2_dueAfter_64 (by decide) ?_
        exact ro_ir hx hb hr rfl hlocks (by simp [dueF, sw1, sw5, c9]) dX2_dueAfter_65
    · skip
      by_cases sw10 : du = 2
      · skip
        refine lv_tableIn (tgt := 66) hx hb dX2_dueAfter_1 (by first | (rw [sw10]; done) | (rw [sw10]; decide)) (by first | (rw [sw10]; done) | (rw [sw10]; decide)) (off := 65) (by first | (rw [sw10]; done) | (rw [sw10]; decide)) (by decide) ?_
        refine lv_iload_n hx hb dX2_dueAfter_66 rfl (lv_at hl 1 rfl) ?_
        refine lv_bipush (v := 48) hx hb dX2_dueAfter_67 (by decide) ?_
        refine lv_bipush (v := 57) hx hb dX2_dueAfter_69 (by decide) ?_
        refine ro_i (va_runS (As := [.int x, .int 48, .int 57]) (rest := []) ⟨hx, hb, hml, hown, hts⟩ (m_X2_isWithin l x 48 57) (va_cwS 3 hts (gS tw263 tw261 tw262 tw6) rfl rfl rfl (by decide +kernel) ⟨Nat.le_of_ble_eq_true rfl, Nat.le_of_ble_eq_true rfl⟩) ps0 rfl rfl hl.1 rfl (lv_room (Nat.le_of_ble_eq_true rfl)) dX2_dueAfter_71 ⟨Nat.le_of_ble_eq_true rfl, Nat.le_of_ble_eq_true rfl⟩) (fun r12 hr11 => ?_)
        subst hr11
        refine lv_bI (fun c14 => ?_) (fun c14 => ?_)
        · skip
          refine lv_if_eq (tgt := 81) hx hb dX2_dueAfter_74 (by decide) (fun h0 => absurd h0 (by decide)) (fun _ => ?_)
          refine lv_iconst (v := 3) hx hb dX2_dueAfter_77 (by decide) ?_
          refine lv_goto (tgt := 85) hx hb dX2_dueAfter_78 (by decide) ?_
          exact ro_ir hx hb hr rfl hlocks (by simp [dueF, sw1, sw5, sw10, c14]) dX2_dueAfter_85
        · skip
          refine lv_if_eq (tgt := 81) hx hb dX2_dueAfter_74 (by decide) (fun _ => ?_) (fun h0 => absurd (by decide) h0)
          refine lv_iload_n hx hb dX2_dueAfter_81 rfl (lv_at hl 1 rfl) ?_
          refine ro_i (va_runS (As := [.int x]) (rest := []) ⟨hx, hb, hml, hown, hts⟩ (m_X2_dueAfterPart l x) (va_cwS 1 hts (gS tw266 tw264 tw265 tw6) rfl rfl rfl (by decide +kernel) ⟨Nat.le_of_ble_eq_true rfl, Nat.le_of_ble_eq_true rfl⟩) ps0 rfl rfl hl.1 rfl (lv_room (Nat.le_of_ble_eq_true rfl)) dX2_dueAfter_82 ⟨Nat.le_of_ble_eq_true rfl, Nat.le_of_ble_eq_true rfl⟩) (fun r16 hr15 => ?_)
          subst hr15
          exact ro_ir hx hb hr rfl hlocks (by simp [dueF, sw1, sw5, sw10, c14]) dX2_dueAfter_85
      · skip
        by_cases sw18 : du = 3
        · skip
          refine lv_tableIn (tgt := 86) hx hb dX2_dueAfter_1 (by first | (rw [sw18]; done) | (rw [sw18]; decide)) (by first | (rw [sw18]; done) | (rw [sw18]; decide)) (off := 85) (by first | (rw [sw18]; done) | (rw [sw18]; decide)) (by decide) ?_
          refine lv_iload_n hx hb dX2_dueAfter_86 rfl (lv_at hl 1 rfl) ?_
          refine ro_i (va_runS (As := [.int x]) (rest := []) ⟨hx, hb, hml, hown, hts⟩ (m_X2_dueAfterPart l x) (va_cwS 1 hts (gS tw266 tw264 tw265 tw6) rfl rfl rfl (by decide +kernel) ⟨Nat.le_of_ble_eq_true rfl, Nat.le_of_ble_eq_true rfl⟩) ps0 rfl rfl hl.1 rfl (lv_room (Nat.le_of_ble_eq_true rfl)) dX2_dueAfter_87 ⟨Nat.le_of_ble_eq_true rfl, Nat.le_of_ble_eq_true rfl⟩) (fun r20 hr19 => ?_)
          subst hr19
          exact ro_ir hx hb hr rfl hlocks (by simp [dueF, sw1, sw5, sw10, sw18]) dX2_dueAfter_90
        · skip
          by_cases sw22 : du = 4
          · skip
            refine lv_tableIn (tgt := 91) hx hb dX2_dueAfter_1 (by first | (rw [sw22]; done) | (rw [sw22]; decide)) (by first | (rw [sw22]; done) | (rw [sw22]; decide)) (off := 90) (by first | (rw [sw22]; done) | (rw [sw22]; decide)) (by decide) ?_
            refine lv_iload_n hx hb dX2_dueAfter_91 rfl (lv_at hl 1 rfl) ?_
            refine lv_bipush (v := 48) hx hb dX2_dueAfter_92 (by decide) ?_
            refine lv_bipush (v := 54) hx hb dX2_dueAfter_94 (by decide) ?_
            refine ro_i (va_runS (As := [.int x, .int 48, .int 54]) (rest := []) ⟨hx, hb, hml, hown, hts⟩ (m_X2_isWithin l x 48 54) (va_cwS 3 hts (gS tw263 tw261 tw262 tw6) rfl rfl rfl (by decide +kernel) ⟨Nat.le_of_ble_eq_true rfl, Nat.le_of_ble_eq_true rfl⟩) ps0 rfl rfl hl.1 rfl (lv_room (Nat.le_of_ble_eq_true rfl)) dX2_dueAfter_96 ⟨Nat.le_of_ble_eq_true rfl, Nat.le_of_ble_eq_true rfl⟩) (fun r24 hr23 => ?_)
            subst hr23
            refine lv_bI (fun c26 => ?_) (fun c26 => ?_)
            · skip
              refine lv_if_eq (tgt := 106) hx hb dX2_dueAfter_99 (by decide) (fun h0 => absurd h0 (by decide)) (fun _ => ?_)
              refine lv_iconst (v := 5) hx hb dX2_dueAfter_102 (by decide) ?_
              refine lv_goto (tgt := 107) hx hb dX2_dueAfter_103 (by decide) ?_
              exact ro_ir hx hb hr rfl hlocks (by simp [dueF, sw1, sw5, sw10, sw18, sw22, c26]) dX2_dueAfter_107
            · skip
              refine lv_if_eq (tgt := 106) hx hb dX2_dueAfter_99 (by decide) (fun _ => ?_) (fun h0 => absurd (by decide) h0)
              refine lv_iconst (v := (-1)) hx hb dX2_dueAfter_106 (by decide) ?_
              exact ro_ir hx hb hr rfl hlocks (by simp [dueF, sw1, sw5, sw10, sw18, sw22, c26]) dX2_dueAfter_107
          · skip
            by_cases sw27 : du = 5
            · skip
              refine lv_tableIn (tgt := 108) hx hb dX2_dueAfter_1 (by first | (rw [sw27]; done) | (rw [sw27]; decide)) (by first | (rw [sw27]; done) | (rw [sw27]; decide)) (off := 107) (by first | (rw [sw27]; done) | (rw [sw27]; decide)) (by decide) ?_
              refine lv_iload_n hx hb dX2_dueAfter_108 rfl (lv_at hl 1 rfl) ?_
              refine lv_bipush (v := 43) hx hb dX2_dueAfter_109 (by decide) ?_
              refine lv_icmp_eq (tgt := 120) hx hb dX2_dueAfter_111 (by decide) (fun c28 => ?_) (fun c28 => ?_)
              · skip
                refine lv_bipush (v := 6) hx hb dX2_dueAfter_120 (by decide) ?_
                refine lv_goto (tgt := 126) hx hb dX2_dueAfter_122 (by decide) ?_
                exact ro_ir hx hb hr rfl hlocks (by simp [dueF, sw1, sw5, sw10, sw18, sw22, sw27, c28]) dX2_dueAfter_126
              · skip
                refine lv_iload_n hx hb dX2_dueAfter_114 rfl (lv_at hl 1 rfl) ?_
                refine lv_bipush (v := 45) hx hb dX2_dueAfter_115 (by decide) ?_
                refine lv_icmp_ne (tgt := 125) hx hb dX2_dueAfter_117 (by decide) (fun c29 => ?_) (fun c29 => ?_)
                · skip
                  refine lv_iconst (v := (-1)) hx hb dX2_dueAfter_125 (by decide) ?_
                  exact ro_ir hx hb hr rfl hlocks (by simp [dueF, sw1, sw5, sw10, sw18, sw22, sw27, c28, c29]) dX2_dueAfter_126
                · skip
                  refine lv_bipush (v := 6) hx hb dX2_dueAfter_120 (by decide) ?_
                  refine lv_goto (tgt := 126) hx hb dX2_dueAfter_122 (by decide) ?_
                  exact ro_ir hx hb hr rfl hlocks (by simp [dueF, sw1, sw5, sw10, sw18, sw22, sw27, c28, c29]) dX2_dueAfter_126
            · skip
              by_cases sw30 : du = 6
              · skip
                refine lv_tableIn (tgt := 127) hx hb dX2_dueAfter_1 (by first | (rw [sw30]; done) | (rw [sw30]; decide)) (by first | (rw [sw30]; done) | (rw [sw30]; decide)) (off := 126) (by first | (rw [sw30]; done) | (rw [sw30]; decide)) (by decide) ?_
                refine lv_iload_n hx hb dX2_dueAfter_127 rfl (lv_at hl 1 rfl) ?_
                refine lv_bipush (v := 48) hx hb dX2_dueAfter_128 (by decide) ?_
                refine lv_bipush (v := 53) hx hb dX2_dueAfter_130 (by decide) ?_
                refine ro_i (va_runS (As := [.int x, .int 48, .int 53]) (rest := []) ⟨hx, hb, hml, hown, hts⟩ (m_X2_isWithin l x 48 53) (va_cwS 3 hts (gS tw263 tw261 tw262 tw6) rfl rfl rfl (by decide +kernel) ⟨Nat.le_of_ble_eq_true rfl, Nat.le_of_ble_eq_true rfl⟩) ps0 rfl rfl hl.1 rfl (lv_room (Nat.le_of_ble_eq_true rfl)) dX2_dueAfter_132 ⟨Nat.le_of_ble_eq_true rfl, Nat.le_of_ble_eq_true rfl⟩) (fun r32 hr31 => ?_)
                subst hr31
                refine lv_bI (fun c34 => ?_) (fun c34 => ?_)
                · skip
                  refine lv_if_eq (tgt := 142) hx hb dX2_dueAfter_135 (by decide) (fun h0 => absurd h0 (by decide)) (fun _ => ?_)
                  refine lv_iconst (v := 3) hx hb dX2_dueAfter_138 (by decide) ?_
                  refine lv_goto (tgt := 143) hx hb dX2_dueAfter_139 (by decide) ?_
                  exact ro_ir hx hb hr rfl hlocks (by simp [dueF, sw1, sw5, sw10, sw18, sw22, sw27, sw30, c34]) dX2_dueAfter_143
                · skip
                  refine lv_if_eq (tgt := 142) hx hb dX2_dueAfter_135 (by decide) (fun _ => ?_) (fun h0 => absurd (by decide) h0)
                  refine lv_iconst (v := (-1)) hx hb dX2_dueAfter_142 (by decide) ?_
                  exact ro_ir hx hb hr rfl hlocks (by simp [dueF, sw1, sw5, sw10, sw18, sw22, sw27, sw30, c34]) dX2_dueAfter_143
              · skip
                refine lv_tableOut (tgt := 144) hx hb dX2_dueAfter_1 (by have := lv_neT sw1 (a := 0) (by decide); have := lv_neT sw5 (a := 1) (by decide); have := lv_neT sw10 (a := 2) (by decide); have := lv_neT sw18 (a := 3) (by decide); have := lv_neT sw22 (a := 4) (by decide); have := lv_neT sw27 (a := 5) (by decide); have := lv_neT sw30 (a := 6) (by decide); omega) (by decide) ?_
                refine lv_iconst (v := (-1)) hx hb dX2_dueAfter_144 (by decide) ?_
                exact ro_ir hx hb hr rfl hlocks (by simp [dueF, sw1, sw5, sw10, sw18, sw22, sw27, sw30]) dX2_dueAfter_145

set_option maxHeartbeats 4000000 in
set_option maxRecDepth 100000 in
theorem m_X2_codeAt (l : Launch) (D : va_G) (cI cS : ClassId) (a : Nat → Nat) (s : St) (st : Nat → St) (pi : Nat → Nat) (mi po : St) (ln : Nat) (hln : ln ≤ 60) (hl0 : mi 0 1 = nI ln) (q : Nat) (hq : q < 100) : Met l yX2_codeAt (.code yX2_codeAt cX2_codeAt 2 (some .int) :: wsA) ({ frames := 0, cells := 0, slots := 0, locals := 0 } : Room) (va_Pc [.ref (a 106), .int (nI q)] (PR D cI cS 113 a (exC cI cS a s st pi mi po))) (vp_Si (fun r => r = cdA (mi 1) ln q)) 0 0 (fun _ => False) := by
  refine mgo (by decide) (Nat.le_of_ble_eq_true rfl) ?_
  intro p e z m below meth c hx hb hr hml hown hts hlocks hB ls hl
  obtain ⟨hP, hK⟩ := hB
  have hl : lv_has ls 2 [(0, .ref (a 106)), (1, .int (nI q))] := hl
  refine lv_iload_n hx hb dX2_codeAt_0 rfl (lv_at hl 1 rfl) ?_
  refine lv_if_lt (tgt := 30) hx hb dX2_codeAt_1 (by decide) (fun h0 => absurd h0 (fun h => by have := (nI_lt2 (p := q) (q := 0) rfl rfl (by omega) (by omega)).mp h; omega)) (fun _ => ?_)
  refine lv_iload_n hx hb dX2_codeAt_4 rfl (lv_at hl 1 rfl) ?_
  refine lv_aload_n hx hb dX2_codeAt_5 rfl (lv_at hl 0 rfl) ?_
  refine g_get hx hb hts hown inA2 hK hP 106 (by decide) xc106 rfl 1 (by decide) tw135 rfl (v := .int (mi 0 1)) rfl dX2_codeAt_6 ?_
  refine lv_icmp_ge (tgt := 30) hx hb dX2_codeAt_9 (by decide) (fun c1 => ?_) (fun c1 => ?_)
  · skip
    have c1x := Int32.not_lt.mpr c1
    have c1n := (nI_le2 (p := ln) (q := q) hl0 rfl (by omega) (by omega)).mp c1
    have c1n : ln ≤ q := c1n
    refine lv_iconst (v := 0) hx hb dX2_codeAt_30 (by decide) ?_
    exact ro_ir hx hb hr rfl hlocks (by unfold cdA; rw [if_neg (by omega)]) dX2_codeAt_31
  · skip
    have c1x := Int32.not_le.mp c1
    have c1n := fun hq0 => c1 ((nI_le2 (p := ln) (q := q) hl0 rfl (by omega) (by omega)).mpr hq0)
    have c1n : ¬ (ln ≤ q) := c1n
    refine lv_iload_n hx hb dX2_codeAt_12 rfl (lv_at hl 1 rfl) ?_
    refine lv_aload_n hx hb dX2_codeAt_13 rfl (lv_at hl 0 rfl) ?_
    refine g_get hx hb hts hown inA2 hK hP 106 (by decide) xc106 rfl 0 (by decide) tw134 rfl (v := .ref (a 107)) rfl dX2_codeAt_14 ?_
    refine g_alen hx hb hK hP 107 (by decide) xc107 (v := 60) (by decide) dX2_codeAt_17 ?_
    refine lv_icmp_ge (tgt := 30) hx hb dX2_codeAt_18 (by decide) (fun h0 => absurd h0 (fun h => by have := (nI_le2 (p := 60) (q := q) rfl rfl (by omega) (by omega)).mp h; omega)) (fun _ => ?_)
    refine lv_aload_n hx hb dX2_codeAt_21 rfl (lv_at hl 0 rfl) ?_
    refine g_get hx hb hts hown inA2 hK hP 106 (by decide) xc106 rfl 0 (by decide) tw134 rfl (v := .ref (a 107)) rfl dX2_codeAt_22 ?_
    refine lv_iload_n hx hb dX2_codeAt_25 rfl (lv_at hl 1 rfl) ?_
    refine g_iald hx hb hK hP 107 (by decide) xc107 q rfl (by omega) (by decide) dX2_codeAt_26 (v := mi 1 q) rfl ?_
    refine lv_goto (tgt := 31) hx hb dX2_codeAt_27 (by decide) ?_
    exact ro_ir hx hb hr rfl hlocks (by unfold cdA; rw [if_pos (by omega)]) dX2_codeAt_31

set_option maxHeartbeats 4000000 in
set_option maxRecDepth 100000 in
theorem m_X2_isPartStart (l : Launch) (D : va_G) (cI cS : ClassId) (a : Nat → Nat) (s : St) (st : Nat → St) (pi : Nat → Nat) (mi po : St) (ln : Nat) (hln : ln ≤ 60) (hl0 : mi 0 1 = nI ln) (q : Nat) (hq : q < 100) : Met l yX2_isPartStart (.code yX2_isPartStart cX2_isPartStart 2 (some .boolean) :: wsA) ({ frames := 1, cells := 0, slots := 0, locals := 21 } : Room) (va_Pc [.ref (a 106), .int (nI q)] (PR D cI cS 113 a (exC cI cS a s st pi mi po))) (vp_Si (fun r => r = bI (psB (mi 1) ln q))) 0 0 (fun _ => False) := by
  refine mgo (by decide) (Nat.le_of_ble_eq_true rfl) ?_
  intro p e z m below meth c hx hb hr hml hown hts hlocks hB ls hl
  obtain ⟨hP, hK⟩ := hB
  have hl : lv_has ls 2 [(0, .ref (a 106)), (1, .int (nI q))] := hl
  refine lv_iload_n hx hb dX2_isPartStart_0 rfl (lv_at hl 1 rfl) ?_
  refine lv_if_eq (tgt := 16) hx hb dX2_isPartStart_1 (by decide) (fun c1 => ?_) (fun c1 => ?_)
  · skip
    have c1n := (nI_eq2 (p := q) (q := 0) rfl rfl (by omega) (by omega)).mp c1
    have c1n : q = 0 := c1n
    refine lv_iconst (v := 1) hx hb dX2_isPartStart_16 (by decide) ?_
    refine lv_goto (tgt := 21) hx hb dX2_isPartStart_17 (by decide) ?_
    exact ro_ir hx hb hr rfl hlocks (bI_t (by first | assumption | simp [psB, c1, c1n])).symm dX2_isPartStart_21
  · skip
    have c1n := fun hq0 => c1 ((nI_eq2 (p := q) (q := 0) rfl rfl (by omega) (by omega)).mpr hq0)
    have c1n : ¬ (q = 0) := c1n
    refine lv_aload_n hx hb dX2_isPartStart_4 rfl (lv_at hl 0 rfl) ?_
    refine lv_iload_n hx hb dX2_isPartStart_5 rfl (lv_at hl 1 rfl) ?_
    refine lv_iconst (v := 1) hx hb dX2_isPartStart_6 (by decide) ?_
    refine lv_isub hx hb dX2_isPartStart_7 ?_
    refine lv_as (y := nI (q - 1)) (nI_sub2 (p := q) (q := 1) rfl rfl (by omega)) ?_
    refine ro_i (va_runV (As := [.int (nI (q - 1))]) (rest := []) ⟨hx, hb, hml, hown, hts⟩ (m_X2_codeAt l D cI cS a s st pi mi po ln (by omega) hl0 (q - 1) (by omega)) (cwV 1 hts (gV tw254 tw251 tw252 tw253 tw6) rfl rfl rfl (by decide +kernel) ⟨Nat.le_of_ble_eq_true rfl, Nat.le_of_ble_eq_true rfl⟩) (pvR 106 hK hP (by decide) xc106 rfl) rfl rfl hl.1 rfl (lv_room (Nat.le_of_ble_eq_true rfl)) dX2_isPartStart_8 ⟨Nat.le_of_ble_eq_true rfl, Nat.le_of_ble_eq_true rfl⟩) (fun r3 hr2 => ?_)
    subst hr2
    refine lv_bipush (v := 59) hx hb dX2_isPartStart_11 (by decide) ?_
    refine lv_icmp_ne (tgt := 20) hx hb dX2_isPartStart_13 (by decide) (fun c5 => ?_) (fun c5 => ?_)
    · skip
      refine lv_iconst (v := 0) hx hb dX2_isPartStart_20 (by decide) ?_
      exact ro_ir hx hb hr rfl hlocks (bI_f (by first | assumption | simp [psB, c1, c1n, c5])).symm dX2_isPartStart_21
    · skip
      refine lv_iconst (v := 1) hx hb dX2_isPartStart_16 (by decide) ?_
      refine lv_goto (tgt := 21) hx hb dX2_isPartStart_17 (by decide) ?_
      exact ro_ir hx hb hr rfl hlocks (bI_t (by first | assumption | simp [psB, c1, c1n, c5])).symm dX2_isPartStart_21

set_option maxHeartbeats 4000000 in
set_option maxRecDepth 100000 in
theorem m_X2_figureAt (l : Launch) (D : va_G) (cI cS : ClassId) (a : Nat → Nat) (s : St) (st : Nat → St) (pi : Nat → Nat) (mi po : St) (ln : Nat) (hln : ln ≤ 60) (hl0 : mi 0 1 = nI ln) (q : Nat) (hq : q < 100) : Met l yX2_figureAt (.code yX2_figureAt cX2_figureAt 2 (some .int) :: wsA) ({ frames := 1, cells := 0, slots := 0, locals := 21 } : Room) (va_Pc [.ref (a 106), .int (nI q)] (PR D cI cS 113 a (exC cI cS a s st pi mi po))) (vp_Si (fun r => r = figI (mi 1) ln q)) 0 0 (fun _ => False) := by
  refine mgo (by decide) (Nat.le_of_ble_eq_true rfl) ?_
  intro p e z m below meth c hx hb hr hml hown hts hlocks hB ls hl
  obtain ⟨hP, hK⟩ := hB
  have hl : lv_has ls 2 [(0, .ref (a 106)), (1, .int (nI q))] := hl
  refine lv_aload_n hx hb dX2_figureAt_0 rfl (lv_at hl 0 rfl) ?_
  refine lv_iload_n hx hb dX2_figureAt_1 rfl (lv_at hl 1 rfl) ?_
  refine ro_i (va_runV (As := [.int (nI q)]) (rest := []) ⟨hx, hb, hml, hown, hts⟩ (m_X2_codeAt l D cI cS a s st pi mi po ln (by omega) hl0 q (by omega)) (cwV 1 hts (gV tw254 tw251 tw252 tw253 tw6) rfl rfl rfl (by decide +kernel) ⟨Nat.le_of_ble_eq_true rfl, Nat.le_of_ble_eq_true rfl⟩) (pvR 106 hK hP (by decide) xc106 rfl) rfl rfl hl.1 rfl (lv_room (Nat.le_of_ble_eq_true rfl)) dX2_figureAt_2 ⟨Nat.le_of_ble_eq_true rfl, Nat.le_of_ble_eq_true rfl⟩) (fun r2 hr1 => ?_)
  subst hr1
  refine lv_bipush (v := 48) hx hb dX2_figureAt_5 (by decide) ?_
  refine lv_isub hx hb dX2_figureAt_7 ?_
  exact ro_ir hx hb hr rfl hlocks rfl dX2_figureAt_8

set_option maxHeartbeats 4000000 in
set_option maxRecDepth 100000 in
theorem m_X2_ticksAt (l : Launch) (D : va_G) (cI cS : ClassId) (a : Nat → Nat) (s : St) (st : Nat → St) (pi : Nat → Nat) (mi po : St) (ln : Nat) (hln : ln ≤ 60) (hl0 : mi 0 1 = nI ln) (q : Nat) (hq : q < 99) : Met l yX2_ticksAt (.code yX2_ticksAt cX2_ticksAt 3 (some .int) :: wsA) ({ frames := 2, cells := 0, slots := 0, locals := 42 } : Room) (va_Pc [.ref (a 106), .int (nI q)] (PR D cI cS 113 a (exC cI cS a s st pi mi po))) (vp_Si (fun r => r = tkI (mi 1) ln q)) 0 0 (fun _ => False) := by
  refine mgo (by decide) (Nat.le_of_ble_eq_true rfl) ?_
  intro p e z m below meth c hx hb hr hml hown hts hlocks hB ls hl
  obtain ⟨hP, hK⟩ := hB
  have hl : lv_has ls 3 [(0, .ref (a 106)), (1, .int (nI q))] := hl
  refine lv_aload_n hx hb dX2_ticksAt_0 rfl (lv_at hl 0 rfl) ?_
  refine lv_iload_n hx hb dX2_ticksAt_1 rfl (lv_at hl 1 rfl) ?_
  refine ro_i (va_runV (As := [.int (nI q)]) (rest := []) ⟨hx, hb, hml, hown, hts⟩ (m_X2_figureAt l D cI cS a s st pi mi po ln (by omega) hl0 q (by omega)) (cwV 1 hts (gV tw687 tw684 tw685 tw686 tw6) rfl rfl rfl (by decide +kernel) ⟨Nat.le_of_ble_eq_true rfl, Nat.le_of_ble_eq_true rfl⟩) (pvR 106 hK hP (by decide) xc106 rfl) rfl rfl hl.1 rfl (lv_room (Nat.le_of_ble_eq_true rfl)) dX2_ticksAt_2 ⟨Nat.le_of_ble_eq_true rfl, Nat.le_of_ble_eq_true rfl⟩) (fun r2 hr1 => ?_)
  subst hr1
  refine lv_istore_n (lv' := [(2, .int (figI (mi 1) ln q)), (0, .ref (a 106)), (1, .int (nI q))]) hx hb dX2_ticksAt_5 rfl hl (by decide) rfl (fun ls hl => ?_)
  refine lv_aload_n hx hb dX2_ticksAt_6 rfl (lv_at hl 1 rfl) ?_
  refine lv_iload_n hx hb dX2_ticksAt_7 rfl (lv_at hl 2 rfl) ?_
  refine lv_iconst (v := 1) hx hb dX2_ticksAt_8 (by decide) ?_
  refine lv_iadd hx hb dX2_ticksAt_9 ?_
  refine lv_as (y := nI (q + 1)) (nI_add2 (p := q) (q := 1) rfl rfl) ?_
  refine ro_i (va_runV (As := [.int (nI (q + 1))]) (rest := []) ⟨hx, hb, hml, hown, hts⟩ (m_X2_codeAt l D cI cS a s st pi mi po ln (by omega) hl0 (q + 1) (by omega)) (cwV 1 hts (gV tw254 tw251 tw252 tw253 tw6) rfl rfl rfl (by decide +kernel) ⟨Nat.le_of_ble_eq_true rfl, Nat.le_of_ble_eq_true rfl⟩) (pvR 106 hK hP (by decide) xc106 rfl) rfl rfl hl.1 rfl (lv_room (Nat.le_of_ble_eq_true rfl)) dX2_ticksAt_10 ⟨Nat.le_of_ble_eq_true rfl, Nat.le_of_ble_eq_true rfl⟩) (fun r5 hr4 => ?_)
  subst hr4
  refine lv_bipush (v := 48) hx hb dX2_ticksAt_13 (by decide) ?_
  refine lv_bipush (v := 57) hx hb dX2_ticksAt_15 (by decide) ?_
  refine ro_i (va_runS (As := [.int (cdA (mi 1) ln (q + 1)), .int 48, .int 57]) (rest := []) ⟨hx, hb, hml, hown, hts⟩ (m_X2_isWithin l (cdA (mi 1) ln (q + 1)) 48 57) (va_cwS 3 hts (gS tw263 tw261 tw262 tw6) rfl rfl rfl (by decide +kernel) ⟨Nat.le_of_ble_eq_true rfl, Nat.le_of_ble_eq_true rfl⟩) ps0 rfl rfl hl.1 rfl (lv_room (Nat.le_of_ble_eq_true rfl)) dX2_ticksAt_17 ⟨Nat.le_of_ble_eq_true rfl, Nat.le_of_ble_eq_true rfl⟩) (fun r8 hr7 => ?_)
  subst hr7
  refine lv_bI (fun c10 => ?_) (fun c10 => ?_)
  · skip
    refine lv_if_eq (tgt := 38) hx hb dX2_ticksAt_20 (by decide) (fun h0 => absurd h0 (by decide)) (fun _ => ?_)
    refine lv_bipush (v := 10) hx hb dX2_ticksAt_23 (by decide) ?_
    refine lv_iload_n hx hb dX2_ticksAt_25 rfl (lv_at hl 0 rfl) ?_
    refine lv_imul hx hb dX2_ticksAt_26 ?_
    refine lv_aload_n hx hb dX2_ticksAt_27 rfl (lv_at hl 1 rfl) ?_
    refine lv_iload_n hx hb dX2_ticksAt_28 rfl (lv_at hl 2 rfl) ?_
    refine lv_iconst (v := 1) hx hb dX2_ticksAt_29 (by decide) ?_
    refine lv_iadd hx hb dX2_ticksAt_30 ?_
    refine lv_as (y := nI (q + 1)) (nI_add2 (p := q) (q := 1) rfl rfl) ?_
    refine ro_i (va_runV (As := [.int (nI (q + 1))]) (rest := [.int (10 * (figI (mi 1) ln q))]) ⟨hx, hb, hml, hown, hts⟩ (m_X2_figureAt l D cI cS a s st pi mi po ln (by omega) hl0 (q + 1) (by omega)) (cwV 1 hts (gV tw687 tw684 tw685 tw686 tw6) rfl rfl rfl (by decide +kernel) ⟨Nat.le_of_ble_eq_true rfl, Nat.le_of_ble_eq_true rfl⟩) (pvR 106 hK hP (by decide) xc106 rfl) rfl rfl hl.1 rfl (lv_room (Nat.le_of_ble_eq_true rfl)) dX2_ticksAt_31 ⟨Nat.le_of_ble_eq_true rfl, Nat.le_of_ble_eq_true rfl⟩) (fun r12 hr11 => ?_)
    subst hr11
    refine lv_iadd hx hb dX2_ticksAt_34 ?_
    refine lv_goto (tgt := 39) hx hb dX2_ticksAt_35 (by decide) ?_
    exact ro_ir hx hb hr rfl hlocks (by simp [tkI, c10]) dX2_ticksAt_39
  · skip
    refine lv_if_eq (tgt := 38) hx hb dX2_ticksAt_20 (by decide) (fun _ => ?_) (fun h0 => absurd (by decide) h0)
    refine lv_iload_n hx hb dX2_ticksAt_38 rfl (lv_at hl 0 rfl) ?_
    exact ro_ir hx hb hr rfl hlocks (by simp [tkI, c10]) dX2_ticksAt_39

set_option maxHeartbeats 4000000 in
set_option maxRecDepth 100000 in
theorem m_X2_driftAt (l : Launch) (D : va_G) (cI cS : ClassId) (a : Nat → Nat) (s : St) (st : Nat → St) (pi : Nat → Nat) (mi po : St) (ln : Nat) (hln : ln ≤ 60) (hl0 : mi 0 1 = nI ln) (q : Nat) (hq : q < 99) : Met l yX2_driftAt (.code yX2_driftAt cX2_driftAt 3 (some .int) :: wsA) ({ frames := 2, cells := 0, slots := 0, locals := 42 } : Room) (va_Pc [.ref (a 106), .int (nI q)] (PR D cI cS 113 a (exC cI cS a s st pi mi po))) (vp_Si (fun r => r = drI (mi 1) ln q)) 0 0 (fun _ => False) := by
  refine mgo (by decide) (Nat.le_of_ble_eq_true rfl) ?_
  intro p e z m below meth c hx hb hr hml hown hts hlocks hB ls hl
  obtain ⟨hP, hK⟩ := hB
  have hl : lv_has ls 3 [(0, .ref (a 106)), (1, .int (nI q))] := hl
  refine lv_aload_n hx hb dX2_driftAt_0 rfl (lv_at hl 0 rfl) ?_
  refine lv_iload_n hx hb dX2_driftAt_1 rfl (lv_at hl 1 rfl) ?_
  refine lv_iconst (v := 1) hx hb dX2_driftAt_2 (by decide) ?_
  refine lv_iadd hx hb dX2_driftAt_3 ?_
  refine lv_as (y := nI (q + 1)) (nI_add2 (p := q) (q := 1) rfl rfl) ?_
  refine ro_i (va_runV (As := [.int (nI (q + 1))]) (rest := []) ⟨hx, hb, hml, hown, hts⟩ (m_X2_figureAt l D cI cS a s st pi mi po ln (by omega) hl0 (q + 1) (by omega)) (cwV 1 hts (gV tw687 tw684 tw685 tw686 tw6) rfl rfl rfl (by decide +kernel) ⟨Nat.le_of_ble_eq_true rfl, Nat.le_of_ble_eq_true rfl⟩) (pvR 106 hK hP (by decide) xc106 rfl) rfl rfl hl.1 rfl (lv_room (Nat.le_of_ble_eq_true rfl)) dX2_driftAt_4 ⟨Nat.le_of_ble_eq_true rfl, Nat.le_of_ble_eq_true rfl⟩) (fun r2 hr1 => ?_)
  subst hr1
  refine lv_istore_n (lv' := [(2, .int (figI (mi 1) ln (q + 1))), (0, .ref (a 106)), (1, .int (nI q))]) hx hb dX2_driftAt_7 rfl hl (by decide) rfl (fun ls hl => ?_)
  refine lv_aload_n hx hb dX2_driftAt_8 rfl (lv_at hl 1 rfl) ?_
  refine lv_iload_n hx hb dX2_driftAt_9 rfl (lv_at hl 2 rfl) ?_
  refine ro_i (va_runV (As := [.int (nI q)]) (rest := []) ⟨hx, hb, hml, hown, hts⟩ (m_X2_codeAt l D cI cS a s st pi mi po ln (by omega) hl0 q (by omega)) (cwV 1 hts (gV tw254 tw251 tw252 tw253 tw6) rfl rfl rfl (by decide +kernel) ⟨Nat.le_of_ble_eq_true rfl, Nat.le_of_ble_eq_true rfl⟩) (pvR 106 hK hP (by decide) xc106 rfl) rfl rfl hl.1 rfl (lv_room (Nat.le_of_ble_eq_true rfl)) dX2_driftAt_10 ⟨Nat.le_of_ble_eq_true rfl, Nat.le_of_ble_eq_true rfl⟩) (fun r5 hr4 => ?_)
  subst hr4
  refine lv_bipush (v := 45) hx hb dX2_driftAt_13 (by decide) ?_
  refine lv_icmp_ne (tgt := 23) hx hb dX2_driftAt_15 (by decide) (fun c7 => ?_) (fun c7 => ?_)
  · skip
    refine lv_iload_n hx hb dX2_driftAt_23 rfl (lv_at hl 0 rfl) ?_
    exact ro_ir hx hb hr rfl hlocks (by simp [drI, c7]) dX2_driftAt_24
  · skip
    refine lv_iload_n hx hb dX2_driftAt_18 rfl (lv_at hl 0 rfl) ?_
    refine lv_ineg hx hb dX2_driftAt_19 ?_
    refine lv_goto (tgt := 24) hx hb dX2_driftAt_20 (by decide) ?_
    exact ro_ir hx hb hr rfl hlocks (by simp [drI, c7]) dX2_driftAt_24

set_option maxHeartbeats 4000000 in
set_option maxRecDepth 100000 in
theorem m_X2_errorPlace (l : Launch) (D : va_G) (cI cS : ClassId) (a : Nat → Nat) (s : St) (st : Nat → St) (pi : Nat → Nat) (mi po : St) (ln : Nat) (hln : ln ≤ 60) (hl0 : mi 0 1 = nI ln) : Met l yX2_errorPlace (.code yX2_errorPlace cX2_errorPlace 3 (some .int) :: wsA) ({ frames := 2, cells := 0, slots := 0, locals := 43 } : Room) (va_Pc [.ref (a 106)] (PR D cI cS 113 a (exC cI cS a s st pi mi po))) (vp_Si (fun r => r = errF (mi 1) ln ln 0 0)) 0 0 (fun _ => False) := by
  refine mgo (by decide) (Nat.le_of_ble_eq_true rfl) ?_
  intro p e z m below meth c hx hb hr hml hown hts hlocks hB ls hl
  obtain ⟨hP, hK⟩ := hB
  have hl : lv_has ls 3 [(0, .ref (a 106))] := hl
  refine lv_iconst (v := 0) hx hb dX2_errorPlace_0 (by decide) ?_
  refine lv_istore_n (lv' := [(1, .int 0), (0, .ref (a 106))]) hx hb dX2_errorPlace_1 rfl hl (by decide) rfl (fun ls hl => ?_)
  refine lv_iconst (v := 0) hx hb dX2_errorPlace_2 (by decide) ?_
  refine lv_istore_n (lv' := [(2, .int 0), (1, .int 0), (0, .ref (a 106))]) hx hb dX2_errorPlace_3 rfl hl (by decide) rfl (fun ls hl => ?_)
  have loop4 : ∀ (fu : Nat) (j : Nat) (x : Int32), ln + 1 ≤ j + fu → (j ≤ ln) → (errF (mi 1) ln ln 0 0 = errF (mi 1) ln (ln - j) j x) → ∀ ls : Array Slot, lv_has ls 3 [(0, .ref (a 106)), (1, .int x), (2, .int (nI j))] → W p l e ({ frames := 2, cells := 0, slots := 0, locals := 43 } : Room) z m ([.ref (a 106)] : List Value).toArray below meth c z.heap [] 0 0 (MQ below (vp_Si (fun r => r = errF (mi 1) ln ln 0 0)) ([.ref (a 106)] : List Value).toArray z 0 0 (fun _ => False)) (F0 m 4 ls []) := by
    intro fu
    induction fu with
    | zero => intro j x hn hj hR; exact absurd hn (by omega)
    | succ fu ih4 =>
      intro j x hn hj hR ls hl
      refine lv_iload_n hx hb dX2_errorPlace_4 rfl (lv_at hl 2 rfl) ?_
      refine lv_aload_n hx hb dX2_errorPlace_5 rfl (lv_at hl 0 rfl) ?_
      refine g_get hx hb hts hown inA2 hK hP 106 (by decide) xc106 rfl 1 (by decide) tw135 rfl (v := .int (mi 0 1)) rfl dX2_errorPlace_6 ?_
      refine lv_icmp_ge (tgt := 35) hx hb dX2_errorPlace_9 (by decide) (fun c1 => ?_) (fun c1 => ?_)
      · skip
        have c1x := Int32.not_lt.mpr c1
        have c1n := (nI_le2 (p := ln) (q := j) hl0 rfl (by omega) (by omega)).mp c1
        have c1n : ln ≤ j := c1n
        have hjq : ln = j := by omega
        subst hjq
        refine lv_aload_n hx hb dX2_errorPlace_35 rfl (lv_at hl 0 rfl) ?_
        refine g_get hx hb hts hown inA2 hK hP 106 (by decide) xc106 rfl 1 (by decide) tw135 rfl (v := .int (mi 0 1)) rfl dX2_errorPlace_36 ?_
        exact ro_ir hx hb hr rfl hlocks (by rw [hR, Nat.sub_self, errF]; exact hl0) dX2_errorPlace_39
      · skip
        have c1x := Int32.not_le.mp c1
        have c1n := fun hq0 => c1 ((nI_le2 (p := ln) (q := j) hl0 rfl (by omega) (by omega)).mpr hq0)
        have c1n : ¬ (ln ≤ j) := c1n
        have hcd : cdA (mi 1) ln j = mi 1 j := if_pos (by omega)
        refine lv_iload_n hx hb dX2_errorPlace_12 rfl (lv_at hl 1 rfl) ?_
        refine lv_aload_n hx hb dX2_errorPlace_13 rfl (lv_at hl 0 rfl) ?_
        refine lv_iload_n hx hb dX2_errorPlace_14 rfl (lv_at hl 2 rfl) ?_
        refine ro_i (va_runV (As := [.int (nI j)]) (rest := [.int x]) ⟨hx, hb, hml, hown, hts⟩ (m_X2_codeAt l D cI cS a s st pi mi po ln (by omega) hl0 j (by omega)) (cwV 1 hts (gV tw254 tw251 tw252 tw253 tw6) rfl rfl rfl (by decide +kernel) ⟨Nat.le_of_ble_eq_true rfl, Nat.le_of_ble_eq_true rfl⟩) (pvR 106 hK hP (by decide) xc106 rfl) rfl rfl hl.1 rfl (lv_room (Nat.le_of_ble_eq_true rfl)) dX2_errorPlace_15 ⟨Nat.le_of_ble_eq_true rfl, Nat.le_of_ble_eq_true rfl⟩) (fun r3 hr2 => ?_)
        subst hr2
        refine ro_i (va_runS (As := [.int x, .int (cdA (mi 1) ln j)]) (rest := []) ⟨hx, hb, hml, hown, hts⟩ (m_X2_dueAfter l x (cdA (mi 1) ln j)) (va_cwS 2 hts (gS tw257 tw255 tw256 tw6) rfl rfl rfl (by decide +kernel) ⟨Nat.le_of_ble_eq_true rfl, Nat.le_of_ble_eq_true rfl⟩) ps0 rfl rfl hl.1 rfl (lv_room (Nat.le_of_ble_eq_true rfl)) dX2_errorPlace_18 ⟨Nat.le_of_ble_eq_true rfl, Nat.le_of_ble_eq_true rfl⟩) (fun r6 hr5 => ?_)
        subst hr5
        refine lv_istore_n (lv' := [(1, .int (dueF x (cdA (mi 1) ln j))), (0, .ref (a 106)), (2, .int (nI j))]) hx hb dX2_errorPlace_21 rfl hl (by decide) rfl (fun ls hl => ?_)
        refine lv_iload_n hx hb dX2_errorPlace_22 rfl (lv_at hl 0 rfl) ?_
        refine lv_iconst (v := (-1)) hx hb dX2_errorPlace_23 (by decide) ?_
        refine lv_icmp_ne (tgt := 29) hx hb dX2_errorPlace_24 (by decide) (fun c8 => ?_) (fun c8 => ?_)
        · skip
          refine lv_iinc (v := nI (j + 1)) (lv' := [(2, .int (nI (j + 1))), (1, .int (dueF x (cdA (mi 1) ln j))), (0, .ref (a 106))]) hx hb dX2_errorPlace_29 hl (k := 2) rfl (nI_add j 1) (by decide) rfl (fun ls hl => ?_)
          refine lv_goto (tgt := 4) hx hb dX2_errorPlace_32 (by decide) ?_
          exact ih4 (j + 1) (dueF x (cdA (mi 1) ln j)) (by omega) (by omega) (by rw [hR, show ln - j = (ln - (j + 1)) + 1 by omega, errF, ← hcd, if_neg c8]) ls (lv_sub hl [2, 1, 0] rfl)
        · skip
          refine lv_iload_n hx hb dX2_errorPlace_27 rfl (lv_at hl 2 rfl) ?_
          exact ro_ir hx hb hr rfl hlocks (by rw [hR, show ln - j = (ln - (j + 1)) + 1 by omega, errF, ← hcd, if_pos c8]) dX2_errorPlace_28
  exact loop4 (ln + 1) 0 0 (by omega) (by omega) rfl ls (lv_sub hl [2, 1, 0] rfl)

set_option maxHeartbeats 4000000 in
set_option maxRecDepth 100000 in
theorem m_X2_areComplete (l : Launch) (D : va_G) (cI cS : ClassId) (a : Nat → Nat) (s : St) (st : Nat → St) (pi : Nat → Nat) (mi po : St) (ln : Nat) (hln : ln ≤ 60) (hl0 : mi 0 1 = nI ln) : Met l yX2_areComplete (.code yX2_areComplete cX2_areComplete 3 (some .boolean) :: wsA) ({ frames := 2, cells := 0, slots := 0, locals := 43 } : Room) (va_Pc [.ref (a 106)] (PR D cI cS 113 a (exC cI cS a s st pi mi po))) (vp_Si (fun r => r = bI (cmpB (mi 1) ln))) 0 0 (fun _ => False) := by
  refine mgo (by decide) (Nat.le_of_ble_eq_true rfl) ?_
  intro p e z m below meth c hx hb hr hml hown hts hlocks hB ls hl
  obtain ⟨hP, hK⟩ := hB
  have hl : lv_has ls 3 [(0, .ref (a 106))] := hl
  refine lv_iconst (v := 0) hx hb dX2_areComplete_0 (by decide) ?_
  refine lv_istore_n (lv' := [(1, .int 0), (0, .ref (a 106))]) hx hb dX2_areComplete_1 rfl hl (by decide) rfl (fun ls hl => ?_)
  refine lv_iconst (v := 0) hx hb dX2_areComplete_2 (by decide) ?_
  refine lv_istore_n (lv' := [(2, .int 0), (1, .int 0), (0, .ref (a 106))]) hx hb dX2_areComplete_3 rfl hl (by decide) rfl (fun ls hl => ?_)
  have loop4 : ∀ (fu : Nat) (j : Nat) (x : Int32), ln + 1 ≤ j + fu → (j ≤ ln) → (dN (mi 1) ln 0 0 = dN (mi 1) (ln - j) j x) → ∀ ls : Array Slot, lv_has ls 3 [(0, .ref (a 106)), (1, .int x), (2, .int (nI j))] → W p l e ({ frames := 2, cells := 0, slots := 0, locals := 43 } : Room) z m ([.ref (a 106)] : List Value).toArray below meth c z.heap [] 0 0 (MQ below (vp_Si (fun r => r = bI (cmpB (mi 1) ln))) ([.ref (a 106)] : List Value).toArray z 0 0 (fun _ => False)) (F0 m 4 ls []) := by
    intro fu
    induction fu with
    | zero => intro j x hn hj hR; exact absurd hn (by omega)
    | succ fu ih4 =>
      intro j x hn hj hR ls hl
      refine lv_iload_n hx hb dX2_areComplete_4 rfl (lv_at hl 2 rfl) ?_
      refine lv_aload_n hx hb dX2_areComplete_5 rfl (lv_at hl 0 rfl) ?_
      refine g_get hx hb hts hown inA2 hK hP 106 (by decide) xc106 rfl 1 (by decide) tw135 rfl (v := .int (mi 0 1)) rfl dX2_areComplete_6 ?_
      refine lv_icmp_ge (tgt := 33) hx hb dX2_areComplete_9 (by decide) (fun c1 => ?_) (fun c1 => ?_)
      · skip
        have c1x := Int32.not_lt.mpr c1
        have c1n := (nI_le2 (p := ln) (q := j) hl0 rfl (by omega) (by omega)).mp c1
        have c1n : ln ≤ j := c1n
        have hjq : ln = j := by omega
        subst hjq
        have hR : dN (mi 1) ln 0 0 = x := by rw [hR, Nat.sub_self, dN]
        refine lv_iload_n hx hb dX2_areComplete_33 rfl (lv_at hl 1 rfl) ?_
        refine lv_iconst (v := 2) hx hb dX2_areComplete_34 (by decide) ?_
        refine lv_icmp_eq (tgt := 43) hx hb dX2_areComplete_35 (by decide) (fun c2 => ?_) (fun c2 => ?_)
        · skip
          refine lv_iconst (v := 1) hx hb dX2_areComplete_43 (by decide) ?_
          refine lv_goto (tgt := 48) hx hb dX2_areComplete_44 (by decide) ?_
          exact ro_ir hx hb hr rfl hlocks (bI_t (by first | (simp [cmpB, hR, c1, c1x, c1n, c2]; done) | exact absurd (c4.symm.trans c2) (by decide))).symm dX2_areComplete_48
        · skip
          refine lv_iload_n hx hb dX2_areComplete_38 rfl (lv_at hl 1 rfl) ?_
          refine lv_iconst (v := 3) hx hb dX2_areComplete_39 (by decide) ?_
          refine lv_icmp_ne (tgt := 47) hx hb dX2_areComplete_40 (by decide) (fun c3 => ?_) (fun c3 => ?_)
          · skip
            refine lv_iconst (v := 0) hx hb dX2_areComplete_47 (by decide) ?_
            exact ro_ir hx hb hr rfl hlocks (bI_f (by first | (simp [cmpB, hR, c1, c1x, c1n, c2, c3]; done) | exact absurd (c4.symm.trans c3) (by decide))).symm dX2_areComplete_48
          · skip
            refine lv_iconst (v := 1) hx hb dX2_areComplete_43 (by decide) ?_
            refine lv_goto (tgt := 48) hx hb dX2_areComplete_44 (by decide) ?_
            exact ro_ir hx hb hr rfl hlocks (bI_t (by first | (simp [cmpB, hR, c1, c1x, c1n, c2, c3]; done) | exact absurd (c4.symm.trans c3) (by decide))).symm dX2_areComplete_48
      · skip
        have c1x := Int32.not_le.mp c1
        have c1n := fun hq0 => c1 ((nI_le2 (p := ln) (q := j) hl0 rfl (by omega) (by omega)).mpr hq0)
        have c1n : ¬ (ln ≤ j) := c1n
        have hcd : cdA (mi 1) ln j = mi 1 j := if_pos (by omega)
        refine lv_iload_n hx hb dX2_areComplete_12 rfl (lv_at hl 1 rfl) ?_
        refine lv_iconst (v := (-1)) hx hb dX2_areComplete_13 (by decide) ?_
        refine lv_icmp_eq (tgt := 33) hx hb dX2_areComplete_14 (by decide) (fun c4 => ?_) (fun c4 => ?_)
        · skip
          have hR : dN (mi 1) ln 0 0 = x := by rw [hR, show ln - j = (ln - (j + 1)) + 1 by omega, dN, if_pos c4]
          refine lv_iload_n hx hb dX2_areComplete_33 rfl (lv_at hl 1 rfl) ?_
          refine lv_iconst (v := 2) hx hb dX2_areComplete_34 (by decide) ?_
          refine lv_icmp_eq (tgt := 43) hx hb dX2_areComplete_35 (by decide) (fun c5 => ?_) (fun c5 => ?_)
          · skip
            refine lv_iconst (v := 1) hx hb dX2_areComplete_43 (by decide) ?_
            refine lv_goto (tgt := 48) hx hb dX2_areComplete_44 (by decide) ?_
            exact ro_ir hx hb hr rfl hlocks (bI_t (by first | (simp [cmpB, hR, c1, c1x, c1n, c4, c5]; done) | exact absurd (c4.symm.trans c5) (by decide))).symm dX2_areComplete_48
          · skip
            refine lv_iload_n hx hb dX2_areComplete_38 rfl (lv_at hl 1 rfl) ?_
            refine lv_iconst (v := 3) hx hb dX2_areComplete_39 (by decide) ?_
            refine lv_icmp_ne (tgt := 47) hx hb dX2_areComplete_40 (by decide) (fun c6 => ?_) (fun c6 => ?_)
            · skip
              refine lv_iconst (v := 0) hx hb dX2_areComplete_47 (by decide) ?_
              exact ro_ir hx hb hr rfl hlocks (bI_f (by first | (simp [cmpB, hR, c1, c1x, c1n, c4, c5, c6]; done) | exact absurd (c4.symm.trans c6) (by decide))).symm dX2_areComplete_48
            · skip
              refine lv_iconst (v := 1) hx hb dX2_areComplete_43 (by decide) ?_
              refine lv_goto (tgt := 48) hx hb dX2_areComplete_44 (by decide) ?_
              exact ro_ir hx hb hr rfl hlocks (bI_t (by first | (simp [cmpB, hR, c1, c1x, c1n, c4, c5, c6]; done) | exact absurd (c4.symm.trans c6) (by decide))).symm dX2_areComplete_48
        · skip
          refine lv_iload_n hx hb dX2_areComplete_17 rfl (lv_at hl 1 rfl) ?_
          refine lv_aload_n hx hb dX2_areComplete_18 rfl (lv_at hl 0 rfl) ?_
          refine lv_iload_n hx hb dX2_areComplete_19 rfl (lv_at hl 2 rfl) ?_
          refine ro_i (va_runV (As := [.int (nI j)]) (rest := [.int x]) ⟨hx, hb, hml, hown, hts⟩ (m_X2_codeAt l D cI cS a s st pi mi po ln (by omega) hl0 j (by omega)) (cwV 1 hts (gV tw254 tw251 tw252 tw253 tw6) rfl rfl rfl (by decide +kernel) ⟨Nat.le_of_ble_eq_true rfl, Nat.le_of_ble_eq_true rfl⟩) (pvR 106 hK hP (by decide) xc106 rfl) rfl rfl hl.1 rfl (lv_room (Nat.le_of_ble_eq_true rfl)) dX2_areComplete_20 ⟨Nat.le_of_ble_eq_true rfl, Nat.le_of_ble_eq_true rfl⟩) (fun r8 hr7 => ?_)
          subst hr7
          refine ro_i (va_runS (As := [.int x, .int (cdA (mi 1) ln j)]) (rest := []) ⟨hx, hb, hml, hown, hts⟩ (m_X2_dueAfter l x (cdA (mi 1) ln j)) (va_cwS 2 hts (gS tw257 tw255 tw256 tw6) rfl rfl rfl (by decide +kernel) ⟨Nat.le_of_ble_eq_true rfl, Nat.le_of_ble_eq_true rfl⟩) ps0 rfl rfl hl.1 rfl (lv_room (Nat.le_of_ble_eq_true rfl)) dX2_areComplete_23 ⟨Nat.le_of_ble_eq_true rfl, Nat.le_of_ble_eq_true rfl⟩) (fun r11 hr10 => ?_)
          subst hr10
          refine lv_istore_n (lv' := [(1, .int (dueF x (cdA (mi 1) ln j))), (0, .ref (a 106)), (2, .int (nI j))]) hx hb dX2_areComplete_26 rfl hl (by decide) rfl (fun ls hl => ?_)
          refine lv_iinc (v := nI (j + 1)) (lv' := [(2, .int (nI (j + 1))), (1, .int (dueF x (cdA (mi 1) ln j))), (0, .ref (a 106))]) hx hb dX2_areComplete_27 hl (k := 2) rfl (nI_add j 1) (by decide) rfl (fun ls hl => ?_)
          refine lv_goto (tgt := 4) hx hb dX2_areComplete_30 (by decide) ?_
          exact ih4 (j + 1) (dueF x (cdA (mi 1) ln j)) (by omega) (by omega) (by rw [hR, show ln - j = (ln - (j + 1)) + 1 by omega, dN, ← hcd, if_neg (by assumption)]) ls (lv_sub hl [2, 1, 0] rfl)
  exact loop4 (ln + 1) 0 0 (by omega) (by omega) rfl ls (lv_sub hl [2, 1, 0] rfl)
