set_option maxHeartbeats 4000000 in
set_option maxRecDepth 100000 in
theorem m_X3_take (l : Launch) (D : va_G) (cI cS : ClassId) (a : Nat → Nat) (s : St) (st : Nat → St) (pi : Nat → Nat) (mi po : St) (zz : Nat) : Met l yX3_take (.code yX3_take cX3_take 3 none :: wsA) ({ frames := 2, cells := 0, slots := 0, locals := 44 } : Room) (va_Pc [.ref (a 108), .ref (a 0)] (PW D cI cS 113 a (exC cI cS a s st pi mi po) zz)) (va_Qv (fun (u : Unit) => True) (BW D 113 a (fun u => exC cI cS a s st pi mi (takeP s po 7))) (AX 113 a zz)) 0 0 (AX 113 a zz) := by
  refine mgo (by decide) (Nat.le_of_ble_eq_true rfl) ?_
  intro p e z m below meth c hx hb hr hml hown hts hlocks hB ls hl
  obtain ⟨hsz, hP, hK, hE⟩ := hB
  subst hsz
  have hS : va_S (AX 113 a z.heap.size) z.heap z.heap [] := va_S.rf
  have hl : lv_has ls 3 [(0, .ref (a 108)), (1, .ref (a 0))] := hl
  refine lv_iconst (v := 0) hx hb dX3_take_0 (by decide) ?_
  refine lv_istore_n (lv' := [(2, .int 0), (0, .ref (a 108)), (1, .ref (a 0))]) hx hb dX3_take_1 rfl hl (by decide) rfl (fun ls hl => ?_)
  have loop2 : ∀ (fu : Nat) (j : Nat), 7 + 1 ≤ j + fu → (j ≤ 7) → ∀ (H : Heap) (locs : List Loc), HP D 113 a (exC cI cS a s st pi mi (takeP s po j)) H → va_S (AX 113 a z.heap.size) z.heap H locs → ∀ ls : Array Slot, lv_has ls 3 [(0, .ref (a 108)), (1, .ref (a 0)), (2, .int (nI j))] → W p l e ({ frames := 2, cells := 0, slots := 0, locals := 44 } : Room) z m ([.ref (a 108), .ref (a 0)] : List Value).toArray below meth c H locs 0 0 (MQ below (va_Qv (fun (u : Unit) => True) (BW D 113 a (fun u => exC cI cS a s st pi mi (takeP s po 7))) (AX 113 a z.heap.size)) ([.ref (a 108), .ref (a 0)] : List Value).toArray z 0 0 (AX 113 a z.heap.size)) (F0 m 2 ls []) := by
    intro fu
    induction fu with
    | zero => intro j hn hj; exact absurd hn (by omega)
    | succ fu ih2 =>
      intro j hn hj H locs hP hS ls hl
      refine lv_iload_n hx hb dX3_take_2 rfl (lv_at hl 2 rfl) ?_
      refine lv_bipush (v := 7) hx hb dX3_take_3 (by decide) ?_
      refine lv_icmp_ge (tgt := 40) hx hb dX3_take_5 (by decide) (fun c1 => ?_) (fun c1 => ?_)
      · skip
        have c1x := Int32.not_lt.mpr c1
        have c1n := (nI_le2 (p := 7) (q := j) rfl rfl (by omega) (by omega)).mp c1
        have c1n : 7 ≤ j := c1n
        have hjq : 7 = j := by omega
        subst hjq
        exact rw_vr hx hb hr hlocks hS () hP trivial dX3_take_40
      · skip
        have c1x := Int32.not_le.mp c1
        have c1n := fun hq0 => c1 ((nI_le2 (p := 7) (q := j) rfl rfl (by omega) (by omega)).mpr hq0)
        have c1n : ¬ (7 ≤ j) := c1n
        refine lv_aload_n hx hb dX3_take_8 rfl (lv_at hl 0 rfl) ?_
        refine g_get hx hb hts hown inA3 hK hP 108 (by decide) xc108 rfl 0 (by decide) tw145 rfl (v := .ref (a 109)) rfl dX3_take_9 ?_
        refine lv_iload_n hx hb dX3_take_12 rfl (lv_at hl 2 rfl) ?_
        refine lv_aload_n hx hb dX3_take_13 rfl (lv_at hl 1 rfl) ?_
        refine lv_iload_n hx hb dX3_take_14 rfl (lv_at hl 2 rfl) ?_
        refine ro_i (va_runV (As := [.int (nI j)]) (rest := [.int (nI j), .ref (a 109)]) ⟨hx, hb, hml, hown, hts⟩ (m_X4_wordOf l D cI cS a s st pi mi (takeP s po j) j (by omega)) (cwV 1 hts (gV tw263 tw260 tw261 tw262 tw2) rfl rfl rfl (by decide +kernel) ⟨Nat.le_of_ble_eq_true rfl, Nat.le_of_ble_eq_true rfl⟩) (pvR 0 hK hP (by decide) xc0 rfl) rfl rfl hl.1 rfl (lv_room (Nat.le_of_ble_eq_true rfl)) dX3_take_15 ⟨Nat.le_of_ble_eq_true rfl, Nat.le_of_ble_eq_true rfl⟩) (fun r3 hr2 => ?_)
        subst hr2
        refine g_iast hx hb hK hP hE hS 109 (by decide) xc109 j rfl (by omega) (by omega) dX3_take_18 (ex' := exC cI cS a s st pi mi (up2 (takeP s po j) 0 j (wordA s j))) rfl (xo_po (by decide) rfl) (fun H locs hP hS => ?_)
        refine lv_aload_n hx hb dX3_take_19 rfl (lv_at hl 0 rfl) ?_
        refine g_get hx hb hts hown inA3 hK hP 108 (by decide) xc108 rfl 1 (by decide) tw147 rfl (v := .ref (a 110)) rfl dX3_take_20 ?_
        refine lv_iload_n hx hb dX3_take_23 rfl (lv_at hl 2 rfl) ?_
        refine lv_aload_n hx hb dX3_take_24 rfl (lv_at hl 1 rfl) ?_
        refine g_getN hx hb hts hown inA4 hK hP 0 (by decide) xc0 rfl 1 (by decide) tn87 rfl (v := .ref (a 8)) rfl dX3_take_25 ?_
        refine g_getN hx hb hts hown inA5 hK hP 8 (by decide) xc8 rfl 0 (by decide) tn71 rfl (v := .ref (a 9)) rfl dX3_take_28 ?_
        refine lv_iload_n hx hb dX3_take_31 rfl (lv_at hl 2 rfl) ?_
        refine g_iald hx hb hK hP 9 (by decide) xc9 j rfl (by omega) (by decide) dX3_take_32 (v := s 7 j) rfl ?_
        refine g_iast hx hb hK hP hE hS 110 (by decide) xc110 j rfl (by omega) (by omega) dX3_take_33 (ex' := exC cI cS a s st pi mi (up2 (up2 (takeP s po j) 0 j (wordA s j)) 1 j (s 7 j))) rfl (xo_po (by decide) rfl) (fun H locs hP hS => ?_)
        refine lv_iinc (v := nI (j + 1)) (lv' := [(2, .int (nI (j + 1))), (0, .ref (a 108)), (1, .ref (a 0))]) hx hb dX3_take_34 hl (k := 2) rfl (nI_add j 1) (by decide) rfl (fun ls hl => ?_)
        refine lv_goto (tgt := 2) hx hb dX3_take_37 (by decide) ?_
        exact ih2 (j + 1) (by omega) (by omega) _ _ hP hS ls (lv_sub hl [1, 2, 0] rfl)
  exact loop2 (7 + 1) 0 (by omega) (by omega) _ _ hP hS ls (lv_sub hl [1, 2, 0] rfl)

set_option maxHeartbeats 4000000 in
set_option maxRecDepth 100000 in
theorem m_X3_placeOf (l : Launch) (D : va_G) (cI cS : ClassId) (a : Nat → Nat) (s : St) (st : Nat → St) (pi : Nat → Nat) (mi po : St) (w : Nat) (hw : w < 7) : Met l yX3_placeOf (.code yX3_placeOf cX3_placeOf 4 (some .int) :: wsA) ({ frames := 0, cells := 0, slots := 0, locals := 0 } : Room) (va_Pc [.ref (a 108), .int (nI w)] (PR D cI cS 113 a (exC cI cS a s st pi mi po))) (vp_Si (fun r => r = nI (plcN (po 0) w 7))) 0 0 (fun _ => False) := by
  refine mgo (by decide) (Nat.le_of_ble_eq_true rfl) ?_
  intro p e z m below meth c hx hb hr hml hown hts hlocks hB ls hl
  obtain ⟨hP, hK⟩ := hB
  have hl : lv_has ls 4 [(0, .ref (a 108)), (1, .int (nI w))] := hl
  refine lv_iconst (v := 0) hx hb dX3_placeOf_0 (by decide) ?_
  refine lv_istore_n (lv' := [(2, .int 0), (0, .ref (a 108)), (1, .int (nI w))]) hx hb dX3_placeOf_1 rfl hl (by decide) rfl (fun ls hl => ?_)
  refine lv_iconst (v := 0) hx hb dX3_placeOf_2 (by decide) ?_
  refine lv_istore_n (lv' := [(3, .int 0), (2, .int 0), (0, .ref (a 108)), (1, .int (nI w))]) hx hb dX3_placeOf_3 rfl hl (by decide) rfl (fun ls hl => ?_)
  have loop4 : ∀ (fu : Nat) (j : Nat) (q : Nat), 7 + 1 ≤ j + fu → (j ≤ 7) → (q = plcN (po 0) w j) → ∀ ls : Array Slot, lv_has ls 4 [(0, .ref (a 108)), (1, .int (nI w)), (2, .int (nI q)), (3, .int (nI j))] → W p l e ({ frames := 0, cells := 0, slots := 0, locals := 0 } : Room) z m ([.ref (a 108), .int (nI w)] : List Value).toArray below meth c z.heap [] 0 0 (MQ below (vp_Si (fun r => r = nI (plcN (po 0) w 7))) ([.ref (a 108), .int (nI w)] : List Value).toArray z 0 0 (fun _ => False)) (F0 m 4 ls []) := by
    intro fu
    induction fu with
    | zero => intro j q hn hj hq; exact absurd hn (by omega)
    | succ fu ih4 =>
      intro j q hn hj hq ls hl
      refine lv_iload_n hx hb dX3_placeOf_4 rfl (lv_at hl 3 rfl) ?_
      refine lv_bipush (v := 7) hx hb dX3_placeOf_5 (by decide) ?_
      refine lv_icmp_ge (tgt := 54) hx hb dX3_placeOf_7 (by decide) (fun c1 => ?_) (fun c1 => ?_)
      · skip
        have c1x := Int32.not_lt.mpr c1
        have c1n := (nI_le2 (p := 7) (q := j) rfl rfl (by omega) (by omega)).mp c1
        have c1n : 7 ≤ j := c1n
        have hjq : 7 = j := by omega
        subst hjq
        refine lv_iload_n hx hb dX3_placeOf_54 rfl (lv_at hl 2 rfl) ?_
        exact ro_ir hx hb hr rfl hlocks (by rw [hq]) dX3_placeOf_55
      · skip
        have c1x := Int32.not_le.mp c1
        have c1n := fun hq0 => c1 ((nI_le2 (p := 7) (q := j) rfl rfl (by omega) (by omega)).mpr hq0)
        have c1n : ¬ (7 ≤ j) := c1n
        refine lv_aload_n hx hb dX3_placeOf_10 rfl (lv_at hl 0 rfl) ?_
        refine g_get hx hb hts hown inA3 hK hP 108 (by decide) xc108 rfl 0 (by decide) tw145 rfl (v := .ref (a 109)) rfl dX3_placeOf_11 ?_
        refine lv_iload_n hx hb dX3_placeOf_14 rfl (lv_at hl 3 rfl) ?_
        refine g_iald hx hb hK hP 109 (by decide) xc109 j rfl (by omega) (by decide) dX3_placeOf_15 (v := po 0 j) rfl ?_
        refine lv_aload_n hx hb dX3_placeOf_16 rfl (lv_at hl 0 rfl) ?_
        refine g_get hx hb hts hown inA3 hK hP 108 (by decide) xc108 rfl 0 (by decide) tw145 rfl (v := .ref (a 109)) rfl dX3_placeOf_17 ?_
        refine lv_iload_n hx hb dX3_placeOf_20 rfl (lv_at hl 1 rfl) ?_
        refine g_iald hx hb hK hP 109 (by decide) xc109 w rfl (by omega) (by decide) dX3_placeOf_21 (v := po 0 w) rfl ?_
        refine lv_icmp_lt (tgt := 45) hx hb dX3_placeOf_22 (by decide) (fun c2 => ?_) (fun c2 => ?_)
        · skip
          have c2x := Int32.not_le.mpr c2
          refine lv_iinc (v := nI (q + 1)) (lv' := [(2, .int (nI (q + 1))), (0, .ref (a 108)), (1, .int (nI w)), (3, .int (nI j))]) hx hb dX3_placeOf_45 hl (k := 2) rfl (nI_add q 1) (by decide) rfl (fun ls hl => ?_)
          refine lv_iinc (v := nI (j + 1)) (lv' := [(3, .int (nI (j + 1))), (2, .int (nI (q + 1))), (0, .ref (a 108)), (1, .int (nI w))]) hx hb dX3_placeOf_48 hl (k := 3) rfl (nI_add j 1) (by decide) rfl (fun ls hl => ?_)
          refine lv_goto (tgt := 4) hx hb dX3_placeOf_51 (by decide) ?_
          exact ih4 (j + 1) (q + 1) (by omega) (by omega) (by simp [plcN, ← hq, c1, c1x, c1n, c2, c2x]) ls (lv_sub hl [2, 3, 1, 0] rfl)
        · skip
          have c2x := Int32.not_lt.mp c2
          refine lv_aload_n hx hb dX3_placeOf_25 rfl (lv_at hl 0 rfl) ?_
          refine g_get hx hb hts hown inA3 hK hP 108 (by decide) xc108 rfl 0 (by decide) tw145 rfl (v := .ref (a 109)) rfl dX3_placeOf_26 ?_
          refine lv_iload_n hx hb dX3_placeOf_29 rfl (lv_at hl 3 rfl) ?_
          refine g_iald hx hb hK hP 109 (by decide) xc109 j rfl (by omega) (by decide) dX3_placeOf_30 (v := po 0 j) rfl ?_
          refine lv_aload_n hx hb dX3_placeOf_31 rfl (lv_at hl 0 rfl) ?_
          refine g_get hx hb hts hown inA3 hK hP 108 (by decide) xc108 rfl 0 (by decide) tw145 rfl (v := .ref (a 109)) rfl dX3_placeOf_32 ?_
          refine lv_iload_n hx hb dX3_placeOf_35 rfl (lv_at hl 1 rfl) ?_
          refine g_iald hx hb hK hP 109 (by decide) xc109 w rfl (by omega) (by decide) dX3_placeOf_36 (v := po 0 w) rfl ?_
          refine lv_icmp_ne (tgt := 48) hx hb dX3_placeOf_37 (by decide) (fun c3 => ?_) (fun c3 => ?_)
          · skip
            refine lv_iinc (v := nI (j + 1)) (lv' := [(3, .int (nI (j + 1))), (0, .ref (a 108)), (1, .int (nI w)), (2, .int (nI q))]) hx hb dX3_placeOf_48 hl (k := 3) rfl (nI_add j 1) (by decide) rfl (fun ls hl => ?_)
            refine lv_goto (tgt := 4) hx hb dX3_placeOf_51 (by decide) ?_
            exact ih4 (j + 1) q (by omega) (by omega) (by simp [plcN, ← hq, c1, c1x, c1n, c2, c2x, c3]) ls (lv_sub hl [1, 2, 3, 0] rfl)
          · skip
            refine lv_iload_n hx hb dX3_placeOf_40 rfl (lv_at hl 3 rfl) ?_
            refine lv_iload_n hx hb dX3_placeOf_41 rfl (lv_at hl 1 rfl) ?_
            refine lv_icmp_ge (tgt := 48) hx hb dX3_placeOf_42 (by decide) (fun c4 => ?_) (fun c4 => ?_)
            · skip
              have c4x := Int32.not_lt.mpr c4
              have c4n := (nI_le2 (p := w) (q := j) rfl rfl (by omega) (by omega)).mp c4
              have c4n : w ≤ j := c4n
              refine lv_iinc (v := nI (j + 1)) (lv' := [(3, .int (nI (j + 1))), (0, .ref (a 108)), (1, .int (nI w)), (2, .int (nI q))]) hx hb dX3_placeOf_48 hl (k := 3) rfl (nI_add j 1) (by decide) rfl (fun ls hl => ?_)
              refine lv_goto (tgt := 4) hx hb dX3_placeOf_51 (by decide) ?_
              exact ih4 (j + 1) q (by omega) (by omega) (by simp [plcN, ← hq, c1, c1x, c1n, c2, c2x, c3, c4, c4x, c4n]) ls (lv_sub hl [1, 2, 3, 0] rfl)
            · skip
              have c4x := Int32.not_le.mp c4
              have c4n := fun hq0 => c4 ((nI_le2 (p := w) (q := j) rfl rfl (by omega) (by omega)).mpr hq0)
              have c4n : ¬ (w ≤ j) := c4n
              refine lv_iinc (v := nI (q + 1)) (lv' := [(2, .int (nI (q + 1))), (0, .ref (a 108)), (1, .int (nI w)), (3, .int (nI j))]) hx hb dX3_placeOf_45 hl (k := 2) rfl (nI_add q 1) (by decide) rfl (fun ls hl => ?_)
              refine lv_iinc (v := nI (j + 1)) (lv' := [(3, .int (nI (j + 1))), (2, .int (nI (q + 1))), (0, .ref (a 108)), (1, .int (nI w))]) hx hb dX3_placeOf_48 hl (k := 3) rfl (nI_add j 1) (by decide) rfl (fun ls hl => ?_)
              refine lv_goto (tgt := 4) hx hb dX3_placeOf_51 (by decide) ?_
              exact ih4 (j + 1) (q + 1) (by omega) (by omega) (by simp [plcN, ← hq, c1, c1x, c1n, c2, c2x, c3, c4, c4x, c4n]) ls (lv_sub hl [2, 3, 1, 0] rfl)
  exact loop4 (7 + 1) 0 0 (by omega) (by omega) rfl ls (lv_sub hl [2, 3, 1, 0] rfl)

set_option maxHeartbeats 4000000 in
set_option maxRecDepth 100000 in
theorem m_X3_weightBelow (l : Launch) (D : va_G) (cI cS : ClassId) (a : Nat → Nat) (s : St) (st : Nat → St) (pi : Nat → Nat) (mi po : St) (y : Int32) : Met l yX3_weightBelow (.code yX3_weightBelow cX3_weightBelow 4 (some .int) :: wsA) ({ frames := 0, cells := 0, slots := 0, locals := 0 } : Room) (va_Pc [.ref (a 108), .int y] (PR D cI cS 113 a (exC cI cS a s st pi mi po))) (vp_Si (fun r => r = wBel (po 0) (po 1) y 7)) 0 0 (fun _ => False) := by
  refine mgo (by decide) (Nat.le_of_ble_eq_true rfl) ?_
  intro p e z m below meth c hx hb hr hml hown hts hlocks hB ls hl
  obtain ⟨hP, hK⟩ := hB
  have hl : lv_has ls 4 [(0, .ref (a 108)), (1, .int y)] := hl
  refine lv_iconst (v := 0) hx hb dX3_weightBelow_0 (by decide) ?_
  refine lv_istore_n (lv' := [(2, .int 0), (0, .ref (a 108)), (1, .int y)]) hx hb dX3_weightBelow_1 rfl hl (by decide) rfl (fun ls hl => ?_)
  refine lv_iconst (v := 0) hx hb dX3_weightBelow_2 (by decide) ?_
  refine lv_istore_n (lv' := [(3, .int 0), (2, .int 0), (0, .ref (a 108)), (1, .int y)]) hx hb dX3_weightBelow_3 rfl hl (by decide) rfl (fun ls hl => ?_)
  have loop4 : ∀ (fu : Nat) (j : Nat) (x : Int32), 7 + 1 ≤ j + fu → (j ≤ 7) → (x = wBel (po 0) (po 1) y j) → ∀ ls : Array Slot, lv_has ls 4 [(0, .ref (a 108)), (1, .int y), (2, .int x), (3, .int (nI j))] → W p l e ({ frames := 0, cells := 0, slots := 0, locals := 0 } : Room) z m ([.ref (a 108), .int y] : List Value).toArray below meth c z.heap [] 0 0 (MQ below (vp_Si (fun r => r = wBel (po 0) (po 1) y 7)) ([.ref (a 108), .int y] : List Value).toArray z 0 0 (fun _ => False)) (F0 m 4 ls []) := by
    intro fu
    induction fu with
    | zero => intro j x hn hj hx1; exact absurd hn (by omega)
    | succ fu ih4 =>
      intro j x hn hj hx1 ls hl
      refine lv_iload_n hx hb dX3_weightBelow_4 rfl (lv_at hl 3 rfl) ?_
      refine lv_bipush (v := 7) hx hb dX3_weightBelow_5 (by decide) ?_
      refine lv_icmp_ge (tgt := 39) hx hb dX3_weightBelow_7 (by decide) (fun c1 => ?_) (fun c1 => ?_)
      · skip
        have c1x := Int32.not_lt.mpr c1
        have c1n := (nI_le2 (p := 7) (q := j) rfl rfl (by omega) (by omega)).mp c1
        have c1n : 7 ≤ j := c1n
        have hjq : 7 = j := by omega
        subst hjq
        refine lv_iload_n hx hb dX3_weightBelow_39 rfl (lv_at hl 2 rfl) ?_
        exact ro_ir hx hb hr rfl hlocks hx1 dX3_weightBelow_40
      · skip
        have c1x := Int32.not_le.mp c1
        have c1n := fun hq0 => c1 ((nI_le2 (p := 7) (q := j) rfl rfl (by omega) (by omega)).mpr hq0)
        have c1n : ¬ (7 ≤ j) := c1n
        refine lv_iload_n hx hb dX3_weightBelow_10 rfl (lv_at hl 2 rfl) ?_
        refine lv_aload_n hx hb dX3_weightBelow_11 rfl (lv_at hl 0 rfl) ?_
        refine g_get hx hb hts hown inA3 hK hP 108 (by decide) xc108 rfl 0 (by decide) tw145 rfl (v := .ref (a 109)) rfl dX3_weightBelow_12 ?_
        refine lv_iload_n hx hb dX3_weightBelow_15 rfl (lv_at hl 3 rfl) ?_
        refine g_iald hx hb hK hP 109 (by decide) xc109 j rfl (by omega) (by decide) dX3_weightBelow_16 (v := po 0 j) rfl ?_
        refine lv_iload_n hx hb dX3_weightBelow_17 rfl (lv_at hl 1 rfl) ?_
        refine lv_icmp_ge (tgt := 30) hx hb dX3_weightBelow_18 (by decide) (fun c2 => ?_) (fun c2 => ?_)
        · skip
          have c2x := Int32.not_lt.mpr c2
          refine lv_iconst (v := 0) hx hb dX3_weightBelow_30 (by decide) ?_
          refine lv_iadd hx hb dX3_weightBelow_31 ?_
          refine lv_istore_n (lv' := [(2, .int (x + 0)), (0, .ref (a 108)), (1, .int y), (3, .int (nI j))]) hx hb dX3_weightBelow_32 rfl hl (by decide) rfl (fun ls hl => ?_)
          refine lv_iinc (v := nI (j + 1)) (lv' := [(3, .int (nI (j + 1))), (2, .int (x + 0)), (0, .ref (a 108)), (1, .int y)]) hx hb dX3_weightBelow_33 hl (k := 3) rfl (nI_add j 1) (by decide) rfl (fun ls hl => ?_)
          refine lv_goto (tgt := 4) hx hb dX3_weightBelow_36 (by decide) ?_
          exact ih4 (j + 1) (x + 0) (by omega) (by omega) (by simp [wBel, ← hx1, c1, c1x, c1n, c2, c2x]) ls (lv_sub hl [2, 3, 1, 0] rfl)
        · skip
          have c2x := Int32.not_le.mp c2
          refine lv_aload_n hx hb dX3_weightBelow_21 rfl (lv_at hl 0 rfl) ?_
          refine g_get hx hb hts hown inA3 hK hP 108 (by decide) xc108 rfl 1 (by decide) tw147 rfl (v := .ref (a 110)) rfl dX3_weightBelow_22 ?_
          refine lv_iload_n hx hb dX3_weightBelow_25 rfl (lv_at hl 3 rfl) ?_
          refine g_iald hx hb hK hP 110 (by decide) xc110 j rfl (by omega) (by decide) dX3_weightBelow_26 (v := po 1 j) rfl ?_
          refine lv_goto (tgt := 31) hx hb dX3_weightBelow_27 (by decide) ?_
          refine lv_iadd hx hb dX3_weightBelow_31 ?_
          refine lv_istore_n (lv' := [(2, .int (x + (po 1 j))), (0, .ref (a 108)), (1, .int y), (3, .int (nI j))]) hx hb dX3_weightBelow_32 rfl hl (by decide) rfl (fun ls hl => ?_)
          refine lv_iinc (v := nI (j + 1)) (lv' := [(3, .int (nI (j + 1))), (2, .int (x + (po 1 j))), (0, .ref (a 108)), (1, .int y)]) hx hb dX3_weightBelow_33 hl (k := 3) rfl (nI_add j 1) (by decide) rfl (fun ls hl => ?_)
          refine lv_goto (tgt := 4) hx hb dX3_weightBelow_36 (by decide) ?_
          exact ih4 (j + 1) (x + (po 1 j)) (by omega) (by omega) (by simp [wBel, ← hx1, c1, c1x, c1n, c2, c2x]) ls (lv_sub hl [2, 3, 1, 0] rfl)
  exact loop4 (7 + 1) 0 0 (by omega) (by omega) rfl ls (lv_sub hl [2, 3, 1, 0] rfl)

set_option maxHeartbeats 4000000 in
set_option maxRecDepth 100000 in
theorem m_X3_weightAt (l : Launch) (D : va_G) (cI cS : ClassId) (a : Nat → Nat) (s : St) (st : Nat → St) (pi : Nat → Nat) (mi po : St) (y : Int32) : Met l yX3_weightAt (.code yX3_weightAt cX3_weightAt 4 (some .int) :: wsA) ({ frames := 0, cells := 0, slots := 0, locals := 0 } : Room) (va_Pc [.ref (a 108), .int y] (PR D cI cS 113 a (exC cI cS a s st pi mi po))) (vp_Si (fun r => r = wAt (po 0) (po 1) y 7)) 0 0 (fun _ => False) := by
  refine mgo (by decide) (Nat.le_of_ble_eq_true rfl) ?_
  intro p e z m below meth c hx hb hr hml hown hts hlocks hB ls hl
  obtain ⟨hP, hK⟩ := hB
  have hl : lv_has ls 4 [(0, .ref (a 108)), (1, .int y)] := hl
  refine lv_iconst (v := 0) hx hb dX3_weightAt_0 (by decide) ?_
  refine lv_istore_n (lv' := [(2, .int 0), (0, .ref (a 108)), (1, .int y)]) hx hb dX3_weightAt_1 rfl hl (by decide) rfl (fun ls hl => ?_)
  refine lv_iconst (v := 0) hx hb dX3_weightAt_2 (by decide) ?_
  refine lv_istore_n (lv' := [(3, .int 0), (2, .int 0), (0, .ref (a 108)), (1, .int y)]) hx hb dX3_weightAt_3 rfl hl (by decide) rfl (fun ls hl => ?_)
  have loop4 : ∀ (fu : Nat) (j : Nat) (x : Int32), 7 + 1 ≤ j + fu → (j ≤ 7) → (x = wAt (po 0) (po 1) y j) → ∀ ls : Array Slot, lv_has ls 4 [(0, .ref (a 108)), (1, .int y), (2, .int x), (3, .int (nI j))] → W p l e ({ frames := 0, cells := 0, slots := 0, locals := 0 } : Room) z m ([.ref (a 108), .int y] : List Value).toArray below meth c z.heap [] 0 0 (MQ below (vp_Si (fun r => r = wAt (po 0) (po 1) y 7)) ([.ref (a 108), .int y] : List Value).toArray z 0 0 (fun _ => False)) (F0 m 4 ls []) := by
    intro fu
    induction fu with
    | zero => intro j x hn hj hx1; exact absurd hn (by omega)
    | succ fu ih4 =>
      intro j x hn hj hx1 ls hl
      refine lv_iload_n hx hb dX3_weightAt_4 rfl (lv_at hl 3 rfl) ?_
      refine lv_bipush (v := 7) hx hb dX3_weightAt_5 (by decide) ?_
      refine lv_icmp_ge (tgt := 39) hx hb dX3_weightAt_7 (by decide) (fun c1 => ?_) (fun c1 => ?_)
      · skip
        have c1x := Int32.not_lt.mpr c1
        have c1n := (nI_le2 (p := 7) (q := j) rfl rfl (by omega) (by omega)).mp c1
        have c1n : 7 ≤ j := c1n
        have hjq : 7 = j := by omega
        subst hjq
        refine lv_iload_n hx hb dX3_weightAt_39 rfl (lv_at hl 2 rfl) ?_
        exact ro_ir hx hb hr rfl hlocks hx1 dX3_weightAt_40
      · skip
        have c1x := Int32.not_le.mp c1
        have c1n := fun hq0 => c1 ((nI_le2 (p := 7) (q := j) rfl rfl (by omega) (by omega)).mpr hq0)
        have c1n : ¬ (7 ≤ j) := c1n
        refine lv_iload_n hx hb dX3_weightAt_10 rfl (lv_at hl 2 rfl) ?_
        refine lv_aload_n hx hb dX3_weightAt_11 rfl (lv_at hl 0 rfl) ?_
        refine g_get hx hb hts hown inA3 hK hP 108 (by decide) xc108 rfl 0 (by decide) tw145 rfl (v := .ref (a 109)) rfl dX3_weightAt_12 ?_
        refine lv_iload_n hx hb dX3_weightAt_15 rfl (lv_at hl 3 rfl) ?_
        refine g_iald hx hb hK hP 109 (by decide) xc109 j rfl (by omega) (by decide) dX3_weightAt_16 (v := po 0 j) rfl ?_
        refine lv_iload_n hx hb dX3_weightAt_17 rfl (lv_at hl 1 rfl) ?_
        refine lv_icmp_ne (tgt := 30) hx hb dX3_weightAt_18 (by decide) (fun c2 => ?_) (fun c2 => ?_)
        · skip
          refine lv_iconst (v := 0) hx hb dX3_weightAt_30 (by decide) ?_
          refine lv_iadd hx hb dX3_weightAt_31 ?_
          refine lv_istore_n (lv' := [(2, .int (x + 0)), (0, .ref (a 108)), (1, .int y), (3, .int (nI j))]) hx hb dX3_weightAt_32 rfl hl (by decide) rfl (fun ls hl => ?_)
          refine lv_iinc (v := nI (j + 1)) (lv' := [(3, .int (nI (j + 1))), (2, .int (x + 0)), (0, .ref (a 108)), (1, .int y)]) hx hb dX3_weightAt_33 hl (k := 3) rfl (nI_add j 1) (by decide) rfl (fun ls hl => ?_)
          refine lv_goto (tgt := 4) hx hb dX3_weightAt_36 (by decide) ?_
          exact ih4 (j + 1) (x + 0) (by omega) (by omega) (by simp [wAt, ← hx1, c1, c1x, c1n, c2]) ls (lv_sub hl [2, 3, 1, 0] rfl)
        · skip
          refine lv_aload_n hx hb dX3_weightAt_21 rfl (lv_at hl 0 rfl) ?_
          refine g_get hx hb hts hown inA3 hK hP 108 (by decide) xc108 rfl 1 (by decide) tw147 rfl (v := .ref (a 110)) rfl dX3_weightAt_22 ?_
          refine lv_iload_n hx hb dX3_weightAt_25 rfl (lv_at hl 3 rfl) ?_
          refine g_iald hx hb hK hP 110 (by decide) xc110 j rfl (by omega) (by decide) dX3_weightAt_26 (v := po 1 j) rfl ?_
          refine lv_goto (tgt := 31) hx hb dX3_weightAt_27 (by decide) ?_
          refine lv_iadd hx hb dX3_weightAt_31 ?_
          refine lv_istore_n (lv' := [(2, .int (x + (po 1 j))), (0, .ref (a 108)), (1, .int y), (3, .int (nI j))]) hx hb dX3_weightAt_32 rfl hl (by decide) rfl (fun ls hl => ?_)
          refine lv_iinc (v := nI (j + 1)) (lv' := [(3, .int (nI (j + 1))), (2, .int (x + (po 1 j))), (0, .ref (a 108)), (1, .int y)]) hx hb dX3_weightAt_33 hl (k := 3) rfl (nI_add j 1) (by decide) rfl (fun ls hl => ?_)
          refine lv_goto (tgt := 4) hx hb dX3_weightAt_36 (by decide) ?_
          exact ih4 (j + 1) (x + (po 1 j)) (by omega) (by omega) (by simp [wAt, ← hx1, c1, c1x, c1n, c2]) ls (lv_sub hl [2, 3, 1, 0] rfl)
  exact loop4 (7 + 1) 0 0 (by omega) (by omega) rfl ls (lv_sub hl [2, 3, 1, 0] rfl)

set_option maxHeartbeats 4000000 in
set_option maxRecDepth 100000 in
theorem m_X3_middleByAdding (l : Launch) (D : va_G) (cI cS : ClassId) (a : Nat → Nat) (s : St) (st : Nat → St) (pi : Nat → Nat) (mi po : St) : Met l yX3_middleByAdding (.code yX3_middleByAdding cX3_middleByAdding 5 (some .int) :: wsA) ({ frames := 1, cells := 0, slots := 0, locals := 25 } : Room) (va_Pc [.ref (a 108)] (PR D cI cS 113 a (exC cI cS a s st pi mi po))) (vp_Si (fun r => r = midA (po 0) (po 1) 7 0)) 0 0 (fun _ => False) := by
  refine mgo (by decide) (Nat.le_of_ble_eq_true rfl) ?_
  intro p e z m below meth c hx hb hr hml hown hts hlocks hB ls hl
  obtain ⟨hP, hK⟩ := hB
  have hl : lv_has ls 5 [(0, .ref (a 108))] := hl
  refine lv_aload_n hx hb dX3_middleByAdding_0 rfl (lv_at hl 0 rfl) ?_
  refine g_get hx hb hts hown inA3 hK hP 108 (by decide) xc108 rfl 1 (by decide) tw147 rfl (v := .ref (a 110)) rfl dX3_middleByAdding_1 ?_
  refine ro_i (va_runSN (As := [.ref (a 110)]) (rest := []) ⟨hx, hb, hml, hown, hts⟩ (m_X6_sum l D cI cS 113 a (exC cI cS a s st pi mi po) 110 (by decide) (po 1) rfl) ⟨va_cnB 1 hts (gA tw279) rfl rfl rfl (hK.2 _ tn277) (hts _ tw1) (by decide +kernel) ⟨Nat.le_of_ble_eq_true rfl, Nat.le_of_ble_eq_true rfl⟩, hts _ tw278, trivial⟩ (psR hK hP) rfl rfl hl.1 rfl (lv_room (Nat.le_of_ble_eq_true rfl)) dX3_middleByAdding_4 ⟨Nat.le_of_ble_eq_true rfl, Nat.le_of_ble_eq_true rfl⟩) (fun r2 hr1 => ?_)
  subst hr1
  refine lv_istore_n (lv' := [(1, .int (sumN (po 1) 7)), (0, .ref (a 108))]) hx hb dX3_middleByAdding_7 rfl hl (by decide) rfl (fun ls hl => ?_)
  refine lv_iconst (v := 0) hx hb dX3_middleByAdding_8 (by decide) ?_
  refine lv_istore_n (lv' := [(2, .int 0), (1, .int (sumN (po 1) 7)), (0, .ref (a 108))]) hx hb dX3_middleByAdding_9 rfl hl (by decide) rfl (fun ls hl => ?_)
  have loop10 : ∀ (fu : Nat) (j : Nat), 7 + 1 ≤ j + fu → (j ≤ 7) → (midA (po 0) (po 1) 7 0 = midA (po 0) (po 1) (7 - j) j) → ∀ ls : Array Slot, lv_has ls 5 [(0, .ref (a 108)), (1, .int (sumN (po 1) 7)), (2, .int (nI j))] → W p l e ({ frames := 1, cells := 0, slots := 0, locals := 25 } : Room) z m ([.ref (a 108)] : List Value).toArray below meth c z.heap [] 0 0 (MQ below (vp_Si (fun r => r = midA (po 0) (po 1) 7 0)) ([.ref (a 108)] : List Value).toArray z 0 0 (fun _ => False)) (F0 m 10 ls []) := by
    intro fu
    induction fu with
    | zero => intro j hn hj hR; exact absurd hn (by omega)
    | succ fu ih10 =>
      intro j hn hj hR ls hl
      refine lv_iload_n hx hb dX3_middleByAdding_10 rfl (lv_at hl 2 rfl) ?_
      refine lv_bipush (v := 7) hx hb dX3_middleByAdding_11 (by decide) ?_
      refine lv_icmp_ge (tgt := 78) hx hb dX3_middleByAdding_13 (by decide) (fun c4 => ?_) (fun c4 => ?_)
      · skip
        have c4x := Int32.not_lt.mpr c4
        have c4n := (nI_le2 (p := 7) (q := j) rfl rfl (by omega) (by omega)).mp c4
        have c4n : 7 ≤ j := c4n
        have hjq : 7 = j := by omega
        subst hjq
        refine lv_iconst (v := (-1)) hx hb dX3_middleByAdding_78 (by decide) ?_
        exact ro_ir hx hb hr rfl hlocks (by rw [hR]; rfl) dX3_middleByAdding_79
      · skip
        have c4x := Int32.not_le.mp c4
        have c4n := fun hq0 => c4 ((nI_le2 (p := 7) (q := j) rfl rfl (by omega) (by omega)).mpr hq0)
        have c4n : ¬ (7 ≤ j) := c4n
        refine lv_aload_n hx hb dX3_middleByAdding_16 rfl (lv_at hl 0 rfl) ?_
        refine lv_aload_n hx hb dX3_middleByAdding_17 rfl (lv_at hl 0 rfl) ?_
        refine g_get hx hb hts hown inA3 hK hP 108 (by decide) xc108 rfl 0 (by decide) tw145 rfl (v := .ref (a 109)) rfl dX3_middleByAdding_18 ?_
        refine lv_iload_n hx hb dX3_middleByAdding_21 rfl (lv_at hl 2 rfl) ?_
        refine g_iald hx hb hK hP 109 (by decide) xc109 j rfl (by omega) (by decide) dX3_middleByAdding_22 (v := po 0 j) rfl ?_
        refine ro_i (va_runV (As := [.int (po 0 j)]) (rest := []) ⟨hx, hb, hml, hown, hts⟩ (m_X3_weightBelow l D cI cS a s st pi mi po (po 0 j)) (cwV 1 hts (gV tw291 tw288 tw290 ts4 tw7) rfl rfl rfl (by decide +kernel) ⟨Nat.le_of_ble_eq_true rfl, Nat.le_of_ble_eq_true rfl⟩) (pvR 108 hK hP (by decide) xc108 rfl) rfl rfl hl.1 rfl (lv_room (Nat.le_of_ble_eq_true rfl)) dX3_middleByAdding_23 ⟨Nat.le_of_ble_eq_true rfl, Nat.le_of_ble_eq_true rfl⟩) (fun r6 hr5 => ?_)
        subst hr5
        refine lv_istore_n (lv' := [(3, .int (wBel (po 0) (po 1) (po 0 j) 7)), (0, .ref (a 108)), (1, .int (sumN (po 1) 7)), (2, .int (nI j))]) hx hb dX3_middleByAdding_26 rfl hl (by decide) rfl (fun ls hl => ?_)
        refine lv_iload_n hx hb dX3_middleByAdding_27 rfl (lv_at hl 0 rfl) ?_
        refine lv_aload_n hx hb dX3_middleByAdding_28 rfl (lv_at hl 1 rfl) ?_
        refine lv_aload_n hx hb dX3_middleByAdding_29 rfl (lv_at hl 1 rfl) ?_
        refine g_get hx hb hts hown inA3 hK hP 108 (by decide) xc108 rfl 0 (by decide) tw145 rfl (v := .ref (a 109)) rfl dX3_middleByAdding_30 ?_
        refine lv_iload_n hx hb dX3_middleByAdding_33 rfl (lv_at hl 3 rfl) ?_
        refine g_iald hx hb hK hP 109 (by decide) xc109 j rfl (by omega) (by decide) dX3_middleByAdding_34 (v := po 0 j) rfl ?_
        refine ro_i (va_runV (As := [.int (po 0 j)]) (rest := [.int (wBel (po 0) (po 1) (po 0 j) 7)]) ⟨hx, hb, hml, hown, hts⟩ (m_X3_weightAt l D cI cS a s st pi mi po (po 0 j)) (cwV 1 hts (gV tw295 tw292 tw294 ts5 tw7) rfl rfl rfl (by decide +kernel) ⟨Nat.le_of_ble_eq_true rfl, Nat.le_of_ble_eq_true rfl⟩) (pvR 108 hK hP (by decide) xc108 rfl) rfl rfl hl.1 rfl (lv_room (Nat.le_of_ble_eq_true rfl)) dX3_middleByAdding_35 ⟨Nat.le_of_ble_eq_true rfl, Nat.le_of_ble_eq_true rfl⟩) (fun r9 hr8 => ?_)
        subst hr8
        refine lv_iadd hx hb dX3_middleByAdding_38 ?_
        refine lv_istore (lv' := [(4, .int ((wBel (po 0) (po 1) (po 0 j) 7) + (wAt (po 0) (po 1) (po 0 j) 7))), (3, .int (wBel (po 0) (po 1) (po 0 j) 7)), (0, .ref (a 108)), (1, .int (sumN (po 1) 7)), (2, .int (nI j))]) hx hb dX3_middleByAdding_39 hl (by decide) rfl (fun ls hl => ?_)
        refine lv_aload_n hx hb dX3_middleByAdding_41 rfl (lv_at hl 2 rfl) ?_
        refine g_get hx hb hts hown inA3 hK hP 108 (by decide) xc108 rfl 1 (by decide) tw147 rfl (v := .ref (a 110)) rfl dX3_middleByAdding_42 ?_
        refine lv_iload_n hx hb dX3_middleByAdding_45 rfl (lv_at hl 4 rfl) ?_
        refine g_iald hx hb hK hP 110 (by decide) xc110 j rfl (by omega) (by decide) dX3_middleByAdding_46 (v := po 1 j) rfl ?_
        refine lv_if_le (tgt := 72) hx hb dX3_middleByAdding_47 (by decide) (fun c11 => ?_) (fun c11 => ?_)
        · skip
          have c11x := Int32.not_lt.mpr c11
          refine lv_iinc (v := nI (j + 1)) (lv' := [(2, .int (nI (j + 1))), (4, .int ((wBel (po 0) (po 1) (po 0 j) 7) + (wAt (po 0) (po 1) (po 0 j) 7))), (3, .int (wBel (po 0) (po 1) (po 0 j) 7)), (0, .ref (a 108)), (1, .int (sumN (po 1) 7))]) hx hb dX3_middleByAdding_72 hl (k := 4) rfl (nI_add j 1) (by decide) rfl (fun ls hl => ?_)
          refine lv_goto (tgt := 10) hx hb dX3_middleByAdding_75 (by decide) ?_
          exact ih10 (j + 1) (by omega) (by omega) (by rw [hR, show 7 - j = (7 - (j + 1)) + 1 by omega, midA, if_neg (fun h => absurd h (by simp [c4, c4x, c4n, c11, c11x]))]) ls (lv_sub hl [3, 4, 0] rfl)
        · skip
          have c11x := Int32.not_le.mp c11
          refine lv_iconst (v := 2) hx hb dX3_middleByAdding_50 (by decide) ?_
          refine lv_iload_n hx hb dX3_middleByAdding_51 rfl (lv_at hl 1 rfl) ?_
          refine lv_imul hx hb dX3_middleByAdding_52 ?_
          refine lv_iload_n hx hb dX3_middleByAdding_53 rfl (lv_at hl 3 rfl) ?_
          refine lv_icmp_ge (tgt := 72) hx hb dX3_middleByAdding_54 (by decide) (fun c12 => ?_) (fun c12 => ?_)
          · skip
            have c12x := Int32.not_lt.mpr c12
            refine lv_iinc (v := nI (j + 1)) (lv' := [(2, .int (nI (j + 1))), (4, .int ((wBel (po 0) (po 1) (po 0 j) 7) + (wAt (po 0) (po 1) (po 0 j) 7))), (3, .int (wBel (po 0) (po 1) (po 0 j) 7)), (0, .ref (a 108)), (1, .int (sumN (po 1) 7))]) hx hb dX3_middleByAdding_72 hl (k := 4) rfl (nI_add j 1) (by decide) rfl (fun ls hl => ?_)
            refine lv_goto (tgt := 10) hx hb dX3_middleByAdding_75 (by decide) ?_
            exact ih10 (j + 1) (by omega) (by omega) (by rw [hR, show 7 - j = (7 - (j + 1)) + 1 by omega, midA, if_neg (fun h => absurd h (by simp [c4, c4x, c4n, c11, c11x, c12, c12x]))]) ls (lv_sub hl [3, 4, 0] rfl)
          · skip
            have c12x := Int32.not_le.mp c12
            refine lv_iconst (v := 2) hx hb dX3_middleByAdding_57 (by decide) ?_
            refine lv_iload hx hb dX3_middleByAdding_58 (lv_at hl 0 rfl) ?_
            refine lv_imul hx hb dX3_middleByAdding_60 ?_
            refine lv_iload_n hx hb dX3_middleByAdding_61 rfl (lv_at hl 3 rfl) ?_
            refine lv_icmp_lt (tgt := 72) hx hb dX3_middleByAdding_62 (by decide) (fun c13 => ?_) (fun c13 => ?_)
            · skip
              have c13x := Int32.not_le.mpr c13
              refine lv_iinc (v := nI (j + 1)) (lv' := [(2, .int (nI (j + 1))), (4, .int ((wBel (po 0) (po 1) (po 0 j) 7) + (wAt (po 0) (po 1) (po 0 j) 7))), (3, .int (wBel (po 0) (po 1) (po 0 j) 7)), (0, .ref (a 108)), (1, .int (sumN (po 1) 7))]) hx hb dX3_middleByAdding_72 hl (k := 4) rfl (nI_add j 1) (by decide) rfl (fun ls hl => ?_)
              refine lv_goto (tgt := 10) hx hb dX3_middleByAdding_75 (by decide) ?_
              exact ih10 (j + 1) (by omega) (by omega) (by rw [hR, show 7 - j = (7 - (j + 1)) + 1 by omega, midA, if_neg (fun h => absurd h (by simp [c4, c4x, c4n, c11, c11x, c12, c12x, c13, c13x]))]) ls (lv_sub hl [3, 4, 0] rfl)
            · skip
              have c13x := Int32.not_lt.mp c13
              refine lv_aload_n hx hb dX3_middleByAdding_65 rfl (lv_at hl 2 rfl) ?_
              refine g_get hx hb hts hown inA3 hK hP 108 (by decide) xc108 rfl 0 (by decide) tw145 rfl (v := .ref (a 109)) rfl dX3_middleByAdding_66 ?_
              refine lv_iload_n hx hb dX3_middleByAdding_69 rfl (lv_at hl 4 rfl) ?_
              refine g_iald hx hb hK hP 109 (by decide) xc109 j rfl (by omega) (by decide) dX3_middleByAdding_70 (v := po 0 j) rfl ?_
              exact ro_ir hx hb hr rfl hlocks (by rw [hR, show 7 - j = (7 - (j + 1)) + 1 by omega, midA, if_pos (by simp [c4, c4x, c4n, c11, c11x, c12, c12x, c13, c13x])]) dX3_middleByAdding_71
  exact loop10 (7 + 1) 0 (by omega) (by omega) rfl ls (lv_sub hl [2, 1, 0] rfl)

set_option maxHeartbeats 4000000 in
set_option maxRecDepth 100000 in
theorem m_X3_middleByOrder (l : Launch) (D : va_G) (cI cS : ClassId) (a : Nat → Nat) (s : St) (st : Nat → St) (pi : Nat → Nat) (mi po : St) (zz : Nat) : Met l yX3_middleByOrder (.code yX3_middleByOrder cX3_middleByOrder 7 (some .int) :: wsA) ({ frames := 1, cells := 0, slots := 0, locals := 25 } : Room) (va_Pc [.ref (a 108)] (PW D cI cS 113 a (exC cI cS a s st pi mi po) zz)) (va_Qi (fun (r : Int32) (u : Unit) => r = midO (po 0) (po 1) (sumN (po 1) 7) 7 0 0) (BW D 113 a (fun u => exC cI cS a s st pi mi (upR po 2 (ordR (po 0) (po 2) 7)))) (AX 113 a zz)) 0 0 (AX 113 a zz) := by
  refine mgo (by decide) (Nat.le_of_ble_eq_true rfl) ?_
  intro p e z m below meth c hx hb hr hml hown hts hlocks hB ls hl
  obtain ⟨hsz, hP, hK, hE⟩ := hB
  subst hsz
  have hS : va_S (AX 113 a z.heap.size) z.heap z.heap [] := va_S.rf
  have hl : lv_has ls 7 [(0, .ref (a 108))] := hl
  refine lv_iconst (v := 0) hx hb dX3_middleByOrder_0 (by decide) ?_
  refine lv_istore_n (lv' := [(1, .int 0), (0, .ref (a 108))]) hx hb dX3_middleByOrder_1 rfl hl (by decide) rfl (fun ls hl => ?_)
  have loop2 : ∀ (fu : Nat) (j : Nat), 7 + 1 ≤ j + fu → (j ≤ 7) → ∀ (H : Heap) (locs : List Loc), HP D 113 a (exC cI cS a s st pi mi (upR po 2 (ordR (po 0) (po 2) j))) H → va_S (AX 113 a z.heap.size) z.heap H locs → ∀ ls : Array Slot, lv_has ls 7 [(0, .ref (a 108)), (1, .int (nI j))] → W p l e ({ frames := 1, cells := 0, slots := 0, locals := 25 } : Room) z m ([.ref (a 108)] : List Value).toArray below meth c H locs 0 0 (MQ below (va_Qi (fun (r : Int32) (u : Unit) => r = midO (po 0) (po 1) (sumN (po 1) 7) 7 0 0) (BW D 113 a (fun u => exC cI cS a s st pi mi (upR po 2 (ordR (po 0) (po 2) 7)))) (AX 113 a z.heap.size)) ([.ref (a 108)] : List Value).toArray z 0 0 (AX 113 a z.heap.size)) (F0 m 2 ls []) := by
    intro fu
    induction fu with
    | zero => intro j hn hj; exact absurd hn (by omega)
    | succ fu ih2 =>
      intro j hn hj H locs hP hS ls hl
      refine lv_iload_n hx hb dX3_middleByOrder_2 rfl (lv_at hl 1 rfl) ?_
      refine lv_bipush (v := 7) hx hb dX3_middleByOrder_3 (by decide) ?_
      refine lv_icmp_ge (tgt := 36) hx hb dX3_middleByOrder_5 (by decide) (fun c1 => ?_) (fun c1 => ?_)
      · skip
        have c1x := Int32.not_lt.mpr c1
        have c1n := (nI_le2 (p := 7) (q := j) rfl rfl (by omega) (by omega)).mp c1
        have c1n : 7 ≤ j := c1n
        have hjq : 7 = j := by omega
        subst hjq
        refine lv_aload_n hx hb dX3_middleByOrder_36 rfl (lv_at hl 0 rfl) ?_
        refine g_get hx hb hts hown inA3 hK hP 108 (by decide) xc108 rfl 1 (by decide) tw147 rfl (v := .ref (a 110)) rfl dX3_middleByOrder_37 ?_
        refine ro_i (va_runSN (As := [.ref (a 110)]) (rest := []) ⟨hx, hb, hml, hown, hts⟩ (m_X6_sum l D cI cS 113 a (exC cI cS a s st pi mi (upR po 2 (ordR (po 0) (po 2) 7))) 110 (by decide) (po 1) rfl) ⟨va_cnB 1 hts (gA tw279) rfl rfl rfl (hK.2 _ tn277) (hts _ tw1) (by decide +kernel) ⟨Nat.le_of_ble_eq_true rfl, Nat.le_of_ble_eq_true rfl⟩, hts _ tw278, trivial⟩ (psR hK hP) rfl rfl hl.1 rfl (lv_room (Nat.le_of_ble_eq_true rfl)) dX3_middleByOrder_40 ⟨Nat.le_of_ble_eq_true rfl, Nat.le_of_ble_eq_true rfl⟩) (fun r3 hr2 => ?_)
        subst hr2
        refine lv_istore_n (lv' := [(1, .int (sumN (po 1) 7)), (0, .ref (a 108))]) hx hb dX3_middleByOrder_43 rfl hl (by decide) rfl (fun ls hl => ?_)
        refine lv_iconst (v := 0) hx hb dX3_middleByOrder_44 (by decide) ?_
        refine lv_istore_n (lv' := [(2, .int 0), (1, .int (sumN (po 1) 7)), (0, .ref (a 108))]) hx hb dX3_middleByOrder_45 rfl hl (by decide) rfl (fun ls hl => ?_)
        refine lv_aload_n hx hb dX3_middleByOrder_46 rfl (lv_at hl 2 rfl) ?_
        refine g_get hx hb hts hown inA3 hK hP 108 (by decide) xc108 rfl 2 (by decide) tw149 rfl (v := .ref (a 111)) rfl dX3_middleByOrder_47 ?_
        refine lv_astore_n (lv' := [(3, .ref (a 111)), (2, .int 0), (1, .int (sumN (po 1) 7)), (0, .ref (a 108))]) hx hb dX3_middleByOrder_50 rfl hl (by decide) rfl (fun ls hl => ?_)
        refine lv_aload_n hx hb dX3_middleByOrder_51 rfl (lv_at hl 0 rfl) ?_
        refine g_alen hx hb hK hP 111 (by decide) xc111 (v := 7) (by decide) dX3_middleByOrder_52 ?_
        refine lv_istore (lv' := [(4, .int 7), (3, .ref (a 111)), (2, .int 0), (1, .int (sumN (po 1) 7)), (0, .ref (a 108))]) hx hb dX3_middleByOrder_53 hl (by decide) rfl (fun ls hl => ?_)
        refine lv_iconst (v := 0) hx hb dX3_middleByOrder_55 (by decide) ?_
        refine lv_istore (lv' := [(5, .int 0), (4, .int 7), (3, .ref (a 111)), (2, .int 0), (1, .int (sumN (po 1) 7)), (0, .ref (a 108))]) hx hb dX3_middleByOrder_56 hl (by decide) rfl (fun ls hl => ?_)
        have loop58 : ∀ (fu : Nat) (j : Nat) (x : Int32), 7 + 1 ≤ j + fu → (j ≤ 7) → (midO (po 0) (po 1) (sumN (po 1) 7) 7 0 0 = midO (po 0) (po 1) (sumN (po 1) 7) (7 - j) j x) → ∀ (H : Heap) (locs : List Loc), HP D 113 a (exC cI cS a s st pi mi (upR po 2 (ordR (po 0) (po 2) 7))) H → va_S (AX 113 a z.heap.size) z.heap H locs → ∀ ls : Array Slot, lv_has ls 7 [(0, .ref (a 108)), (1, .int (sumN (po 1) 7)), (2, .int x), (3, .ref (a 111)), (4, .int 7), (5, .int (nI j))] → W p l e ({ frames := 1, cells := 0, slots := 0, locals := 25 } : Room) z m ([.ref (a 108)] : List Value).toArray below meth c H locs 0 0 (MQ below (va_Qi (fun (r : Int32) (u : Unit) => r = midO (po 0) (po 1) (sumN (po 1) 7) 7 0 0) (BW D 113 a (fun u => exC cI cS a s st pi mi (upR po 2 (ordR (po 0) (po 2) 7)))) (AX 113 a z.heap.size)) ([.ref (a 108)] : List Value).toArray z 0 0 (AX 113 a z.heap.size)) (F0 m 58 ls []) := by
          intro fu
          induction fu with
          | zero => intro j x hn hj hR; exact absurd hn (by omega)
          | succ fu ih58 =>
            intro j x hn hj hR H locs hP hS ls hl
            refine lv_iload hx hb dX3_middleByOrder_58 (lv_at hl 5 rfl) ?_
            refine lv_iload hx hb dX3_middleByOrder_60 (lv_at hl 4 rfl) ?_
            refine lv_icmp_ge (tgt := 112) hx hb dX3_middleByOrder_62 (by decide) (fun c5 => ?_) (fun c5 => ?_)
            · skip
              have c5x := Int32.not_lt.mpr c5
              have c5n := (nI_le2 (p := 7) (q := j) rfl rfl (by omega) (by omega)).mp c5
              have c5n : 7 ≤ j := c5n
              have hjq : 7 = j := by omega
              subst hjq
              refine lv_iconst (v := (-1)) hx hb dX3_middleByOrder_112 (by decide) ?_
              exact rw_ir hx hb hr rfl hlocks hS () hP (by rw [hR]; rfl) dX3_middleByOrder_113
            · skip
              have c5x := Int32.not_le.mp c5
              have c5n := fun hq0 => c5 ((nI_le2 (p := 7) (q := j) rfl rfl (by omega) (by omega)).mpr hq0)
              have c5n : ¬ (7 ≤ j) := c5n
              refine lv_aload_n hx hb dX3_middleByOrder_65 rfl (lv_at hl 3 rfl) ?_
              refine lv_iload hx hb dX3_middleByOrder_66 (lv_at hl 5 rfl) ?_
              have hinv := (invN_ok (po 0) (i := j) (by omega)).1
              refine g_iald hx hb hK hP 111 (by decide) xc111 j rfl (by omega) (by decide) dX3_middleByOrder_68 (v := nI (invN (po 0) j)) (ordR_inv (by omega)) ?_
              refine lv_istore (lv' := [(6, .int (nI (invN (po 0) j))), (0, .ref (a 108)), (1, .int (sumN (po 1) 7)), (2, .int x), (3, .ref (a 111)), (4, .int 7), (5, .int (nI j))]) hx hb dX3_middleByOrder_69 hl (by decide) rfl (fun ls hl => ?_)
              refine lv_iload_n hx hb dX3_middleByOrder_71 rfl (lv_at hl 3 rfl) ?_
              refine lv_aload_n hx hb dX3_middleByOrder_72 rfl (lv_at hl 1 rfl) ?_
              refine g_get hx hb hts hown inA3 hK hP 108 (by decide) xc108 rfl 1 (by decide) tw147 rfl (v := .ref (a 110)) rfl dX3_middleByOrder_73 ?_
              refine lv_iload hx hb dX3_middleByOrder_76 (lv_at hl 0 rfl) ?_
              refine g_iald hx hb hK hP 110 (by decide) xc110 (invN (po 0) j) rfl (by omega) (by decide) dX3_middleByOrder_78 (v := po 1 (invN (po 0) j)) rfl ?_
              refine lv_iadd hx hb dX3_middleByOrder_79 ?_
              refine lv_istore_n (lv' := [(2, .int (x + (po 1 (invN (po 0) j)))), (6, .int (nI (invN (po 0) j))), (0, .ref (a 108)), (1, .int (sumN (po 1) 7)), (3, .ref (a 111)), (4, .int 7), (5, .int (nI j))]) hx hb dX3_middleByOrder_80 rfl hl (by decide) rfl (fun ls hl => ?_)
              refine lv_aload_n hx hb dX3_middleByOrder_81 rfl (lv_at hl 2 rfl) ?_
              refine g_get hx hb hts hown inA3 hK hP 108 (by decide) xc108 rfl 1 (by decide) tw147 rfl (v := .ref (a 110)) rfl dX3_middleByOrder_82 ?_
              refine lv_iload hx hb dX3_middleByOrder_85 (lv_at hl 1 rfl) ?_
              refine g_iald hx hb hK hP 110 (by decide) xc110 (invN (po 0) j) rfl (by omega) (by decide) dX3_middleByOrder_87 (v := po 1 (invN (po 0) j)) rfl ?_
              refine lv_if_le (tgt := 106) hx hb dX3_middleByOrder_88 (by decide) (fun c6 => ?_) (fun c6 => ?_)
              · skip
                have c6x := Int32.not_lt.mpr c6
                refine lv_iinc (v := nI (j + 1)) (lv' := [(5, .int (nI (j + 1))), (2, .int (x + (po 1 (invN (po 0) j)))), (6, .int (nI (invN (po 0) j))), (0, .ref (a 108)), (1, .int (sumN (po 1) 7)), (3, .ref (a 111)), (4, .int 7)]) hx hb dX3_middleByOrder_106 hl (k := 6) rfl (nI_add j 1) (by decide) rfl (fun ls hl => ?_)
                refine lv_goto (tgt := 58) hx hb dX3_middleByOrder_109 (by decide) ?_
                exact ih58 (j + 1) (x + (po 1 (invN (po 0) j))) (by omega) (by omega) (by rw [hR, show 7 - j = (7 - (j + 1)) + 1 by omega, midO, if_neg (fun h => absurd h (by simp [c5, c5x, c5n, c6, c6x]))]) _ _ hP hS ls (lv_sub hl [3, 4, 1, 5, 6, 0] rfl)
              · skip
                have c6x := Int32.not_le.mp c6
                refine lv_iconst (v := 2) hx hb dX3_middleByOrder_91 (by decide) ?_
                refine lv_iload_n hx hb dX3_middleByOrder_92 rfl (lv_at hl 0 rfl) ?_
                refine lv_imul hx hb dX3_middleByOrder_93 ?_
                refine lv_iload_n hx hb dX3_middleByOrder_94 rfl (lv_at hl 3 rfl) ?_
                refine lv_icmp_lt (tgt := 106) hx hb dX3_middleByOrder_95 (by decide) (fun c7 => ?_) (fun c7 => ?_)
                · skip
                  have c7x := Int32.not_le.mpr c7
                  refine lv_iinc (v := nI (j + 1)) (lv' := [(5, .int (nI (j + 1))), (2, .int (x + (po 1 (invN (po 0) j)))), (6, .int (nI (invN (po 0) j))), (0, .ref (a 108)), (1, .int (sumN (po 1) 7)), (3, .ref (a 111)), (4, .int 7)]) hx hb dX3_middleByOrder_106 hl (k := 6) rfl (nI_add j 1) (by decide) rfl (fun ls hl => ?_)
                  refine lv_goto (tgt := 58) hx hb dX3_middleByOrder_109 (by decide) ?_
                  exact ih58 (j + 1) (x + (po 1 (invN (po 0) j))) (by omega) (by omega) (by rw [hR, show 7 - j = (7 - (j + 1)) + 1 by omega, midO, if_neg (fun h => absurd h (by simp [c5, c5x, c5n, c6, c6x, c7, c7x]))]) _ _ hP hS ls (lv_sub hl [3, 4, 1, 5, 6, 0] rfl)
                · skip
                  have c7x := Int32.not_lt.mp c7
                  refine lv_aload_n hx hb dX3_middleByOrder_98 rfl (lv_at hl 2 rfl) ?_
                  refine g_get hx hb hts hown inA3 hK hP 108 (by decide) xc108 rfl 0 (by decide) tw145 rfl (v := .ref (a 109)) rfl dX3_middleByOrder_99 ?_
                  refine lv_iload hx hb dX3_middleByOrder_102 (lv_at hl 1 rfl) ?_
                  refine g_iald hx hb hK hP 109 (by decide) xc109 (invN (po 0) j) rfl (by omega) (by decide) dX3_middleByOrder_104 (v := po 0 (invN (po 0) j)) rfl ?_
                  exact rw_ir hx hb hr rfl hlocks hS () hP (by rw [hR, show 7 - j = (7 - (j + 1)) + 1 by omega, midO, if_pos (by simp [c5, c5x, c5n, c6, c6x, c7, c7x])]) dX3_middleByOrder_105
        exact loop58 (7 + 1) 0 0 (by omega) (by omega) rfl _ _ hP hS ls (lv_sub hl [5, 4, 3, 2, 1, 0] rfl)
      · skip
        have c1x := Int32.not_le.mp c1
        have c1n := fun hq0 => c1 ((nI_le2 (p := 7) (q := j) rfl rfl (by omega) (by omega)).mpr hq0)
        have c1n : ¬ (7 ≤ j) := c1n
        refine lv_aload_n hx hb dX3_middleByOrder_8 rfl (lv_at hl 0 rfl) ?_
        refine lv_iload_n hx hb dX3_middleByOrder_9 rfl (lv_at hl 1 rfl) ?_
        refine ro_i (va_runV (As := [.int (nI j)]) (rest := []) ⟨hx, hb, hml, hown, hts⟩ (m_X3_placeOf l D cI cS a s st pi mi (upR po 2 (ordR (po 0) (po 2) j)) j (by omega)) (cwV 1 hts (gV tw276 tw273 tw274 tw275 tw7) rfl rfl rfl (by decide +kernel) ⟨Nat.le_of_ble_eq_true rfl, Nat.le_of_ble_eq_true rfl⟩) (pvR 108 hK hP (by decide) xc108 rfl) rfl rfl hl.1 rfl (lv_room (Nat.le_of_ble_eq_true rfl)) dX3_middleByOrder_10 ⟨Nat.le_of_ble_eq_true rfl, Nat.le_of_ble_eq_true rfl⟩) (fun r9 hr8 => ?_)
        subst hr8
        refine lv_istore_n (lv' := [(2, .int (nI (plcN (po 0) j 7))), (0, .ref (a 108)), (1, .int (nI j))]) hx hb dX3_middleByOrder_13 rfl hl (by decide) rfl (fun ls hl => ?_)
        have hpl := plcN_lt (f := po 0) (w := j) (by omega)
        refine lv_iload_n hx hb dX3_middleByOrder_14 rfl (lv_at hl 0 rfl) ?_
        refine lv_aload_n hx hb dX3_middleByOrder_15 rfl (lv_at hl 1 rfl) ?_
        refine g_get hx hb hts hown inA3 hK hP 108 (by decide) xc108 rfl 2 (by decide) tw149 rfl (v := .ref (a 111)) rfl dX3_middleByOrder_16 ?_
        refine g_alen hx hb hK hP 111 (by decide) xc111 (v := 7) (by decide) dX3_middleByOrder_19 ?_
        refine lv_icmp_ge (tgt := 30) hx hb dX3_middleByOrder_20 (by decide) (fun h0 => absurd h0 (fun h => by have := (nI_le2 (p := 7) (q := plcN (po 0) j 7) rfl rfl (by omega) (by omega)).mp h; omega)) (fun _ => ?_)
        refine lv_aload_n hx hb dX3_middleByOrder_23 rfl (lv_at hl 1 rfl) ?_
        refine g_get hx hb hts hown inA3 hK hP 108 (by decide) xc108 rfl 2 (by decide) tw149 rfl (v := .ref (a 111)) rfl dX3_middleByOrder_24 ?_
        refine lv_iload_n hx hb dX3_middleByOrder_27 rfl (lv_at hl 0 rfl) ?_
        refine lv_iload_n hx hb dX3_middleByOrder_28 rfl (lv_at hl 2 rfl) ?_
        refine g_iast hx hb hK hP hE hS 111 (by decide) xc111 (plcN (po 0) j 7) rfl (by omega) (by omega) dX3_middleByOrder_29 (ex' := exC cI cS a s st pi mi (upR po 2 (ordR (po 0) (po 2) (j + 1)))) rfl (fun q h1 h2 => (xo_po (by decide) rfl q h1 h2).trans (xo_po (by decide) rfl q h1 h2).symm) (fun H locs hP hS => ?_)
        refine lv_iinc (v := nI (j + 1)) (lv' := [(1, .int (nI (j + 1))), (2, .int (nI (plcN (po 0) j 7))), (0, .ref (a 108))]) hx hb dX3_middleByOrder_30 hl (k := 2) rfl (nI_add j 1) (by decide) rfl (fun ls hl => ?_)
        refine lv_goto (tgt := 2) hx hb dX3_middleByOrder_33 (by decide) ?_
        exact ih2 (j + 1) (by omega) (by omega) _ _ hP hS ls (lv_sub hl [2, 0] rfl)
  exact loop2 (7 + 1) 0 (by omega) (by omega) _ _ hP hS ls (lv_sub hl [1, 0] rfl)
