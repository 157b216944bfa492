set_option maxHeartbeats 4000000 in
set_option maxRecDepth 100000 in
theorem m_L_isMiddle (l : Launch) (D : va_G) (cI cS : ClassId) (a : Nat → Nat) (u : WT) (s : St) (sz : Nat) (hf : Nat → St) (hok : UOk u s sz hf) (mid : Int32) (w : Nat) (hw : w < 10) (hIM : IM (wordA s) (gW s w) mid) (zz : Nat) : Met l yL_isMiddle (.code yL_isMiddle cL_isMiddle 10 (some .boolean) :: wsA) ({ frames := 6, cells := 0, slots := 0, locals := 131 } : Room) (va_Pc [.ref (a 112), .int mid, .int (nI w)] (PW D cI cS 113 a (exU cI cS a u) zz)) (va_Qi (fun (r : Int32) (u : WT) => r = 1 ∧ UOk u s sz hf) (BW D 113 a (fun u => exU cI cS a u)) (AX 113 a zz)) 0 0 (AX 113 a zz) := by
  refine mgo (by decide) (Nat.le_of_ble_eq_true rfl) ?_
  intro p e z m below meth c hx hb hr hml hown hts hlocks hB ls hl
  obtain ⟨hsz, hP, hK, hE⟩ := hB
  subst hsz
  have hS : va_S (AX 113 a z.heap.size) z.heap z.heap [] := va_S.rf
  have hl : lv_has ls 10 [(0, .ref (a 112)), (1, .int mid), (2, .int (nI w))] := hl
  refine lv_iconst (v := 0) hx hb dL_isMiddle_0 (by decide) ?_
  refine lv_istore_n (lv' := [(3, .int 0), (0, .ref (a 112)), (1, .int mid), (2, .int (nI w))]) hx hb dL_isMiddle_1 rfl hl (by decide) rfl (fun ls hl => ?_)
  refine lv_iconst (v := 0) hx hb dL_isMiddle_2 (by decide) ?_
  refine lv_istore (lv' := [(4, .int 0), (3, .int 0), (0, .ref (a 112)), (1, .int mid), (2, .int (nI w))]) hx hb dL_isMiddle_3 hl (by decide) rfl (fun ls hl => ?_)
  refine lv_iconst (v := 0) hx hb dL_isMiddle_5 (by decide) ?_
  refine lv_istore (lv' := [(5, .int 0), (4, .int 0), (3, .int 0), (0, .ref (a 112)), (1, .int mid), (2, .int (nI w))]) hx hb dL_isMiddle_6 hl (by decide) rfl (fun ls hl => ?_)
  refine lv_iconst (v := 0) hx hb dL_isMiddle_8 (by decide) ?_
  refine lv_istore (lv' := [(6, .int 0), (5, .int 0), (4, .int 0), (3, .int 0), (0, .ref (a 112)), (1, .int mid), (2, .int (nI w))]) hx hb dL_isMiddle_9 hl (by decide) rfl (fun ls hl => ?_)
  refine lv_iconst (v := 0) hx hb dL_isMiddle_11 (by decide) ?_
  refine lv_istore (lv' := [(7, .int 0), (6, .int 0), (5, .int 0), (4, .int 0), (3, .int 0), (0, .ref (a 112)), (1, .int mid), (2, .int (nI w))]) hx hb dL_isMiddle_12 hl (by decide) rfl (fun ls hl => ?_)
  have loop14 : ∀ (fu : Nat) (j : Nat) (u : WT), 7 + 1 ≤ j + fu → (j ≤ 7) → (UOk u s sz hf) → ∀ (H : Heap) (locs : List Loc), HP D 113 a (exU cI cS a u) H → va_S (AX 113 a z.heap.size) z.heap H locs → ∀ ls : Array Slot, lv_has ls 10 [(0, .ref (a 112)), (1, .int mid), (2, .int (nI w)), (3, .int (beL (wordA s) (gW s w) mid j)), (4, .int (wBel (wordA s) (gW s w) mid j)), (5, .int (sumN (gW s w) j)), (6, .int (sdF (wordA s) (gW s w) mid j)), (7, .int (nI j))] → W p l e ({ frames := 6, cells := 0, slots := 0, locals := 131 } : Room) z m ([.ref (a 112), .int mid, .int (nI w)] : List Value).toArray below meth c H locs 0 0 (MQ below (va_Qi (fun (r : Int32) (u : WT) => r = 1 ∧ UOk u s sz hf) (BW D 113 a (fun u => exU cI cS a u)) (AX 113 a z.heap.size)) ([.ref (a 112), .int mid, .int (nI w)] : List Value).toArray z 0 0 (AX 113 a z.heap.size)) (F0 m 14 ls []) := by
    intro fu
    induction fu with
    | zero => intro j u hn hj hok; exact absurd hn (by omega)
    | succ fu ih14 =>
      intro j u hn hj hok H locs hP hS ls hl
      refine lv_iload hx hb dL_isMiddle_14 (lv_at hl 7 rfl) ?_
      refine lv_bipush (v := 7) hx hb dL_isMiddle_16 (by decide) ?_
      refine lv_icmp_ge (tgt := 117) hx hb dL_isMiddle_18 (by decide) (fun c1 => ?_) (fun c1 => ?_)
      · skip
        have c1x := Int32.not_lt.mpr c1
        have c1n := (nI_le2 (p := 7) (q := j) rfl rfl (by omega) (by omega)).mp c1
        have c1n : 7 ≤ j := c1n
        have hjq : 7 = j := by omega
        subst hjq
        refine lv_iload hx hb dL_isMiddle_117 (lv_at hl 5 rfl) ?_
        refine lv_if_ne (tgt := 135) hx hb dL_isMiddle_119 (by decide) (fun c2 => ?_) (fun c2 => ?_)
        · skip
          refine lv_iload hx hb dL_isMiddle_135 (lv_at hl 6 rfl) ?_
          refine lv_if_eq (tgt := 161) hx hb dL_isMiddle_137 (by decide) (fun h0 => absurd h0 (hIM.2 c2).1) (fun _ => ?_)
          refine lv_iconst (v := 2) hx hb dL_isMiddle_140 (by decide) ?_
          refine lv_iload_n hx hb dL_isMiddle_141 rfl (lv_at hl 3 rfl) ?_
          refine lv_imul hx hb dL_isMiddle_142 ?_
          refine lv_iload hx hb dL_isMiddle_143 (lv_at hl 5 rfl) ?_
          refine lv_icmp_lt (tgt := 161) hx hb dL_isMiddle_145 (by decide) (fun h0 => absurd h0 (hIM.2 c2).2.1) (fun _ => ?_)
          refine lv_iconst (v := 2) hx hb dL_isMiddle_148 (by decide) ?_
          refine lv_iload hx hb dL_isMiddle_149 (lv_at hl 4 rfl) ?_
          refine lv_imul hx hb dL_isMiddle_151 ?_
          refine lv_iload hx hb dL_isMiddle_152 (lv_at hl 5 rfl) ?_
          refine lv_icmp_ge (tgt := 161) hx hb dL_isMiddle_154 (by decide) (fun h0 => absurd h0 (hIM.2 c2).2.2) (fun _ => ?_)
          refine lv_iconst (v := 1) hx hb dL_isMiddle_157 (by decide) ?_
          refine lv_goto (tgt := 162) hx hb dL_isMiddle_158 (by decide) ?_
          exact rw_ir hx hb hr rfl hlocks hS u hP ⟨rfl, hok⟩ dL_isMiddle_162
        · skip
          refine lv_iload_n hx hb dL_isMiddle_122 rfl (lv_at hl 1 rfl) ?_
          refine lv_iconst (v := (-1)) hx hb dL_isMiddle_123 (by decide) ?_
          refine lv_icmp_ne (tgt := 131) hx hb dL_isMiddle_124 (by decide) (fun h0 => absurd h0 (fun q9 => q9 (hIM.1 c2))) (fun _ => ?_)
          refine lv_iconst (v := 1) hx hb dL_isMiddle_127 (by decide) ?_
          refine lv_goto (tgt := 162) hx hb dL_isMiddle_128 (by decide) ?_
          exact rw_ir hx hb hr rfl hlocks hS u hP ⟨rfl, hok⟩ dL_isMiddle_162
      · skip
        have c1x := Int32.not_le.mp c1
        have c1n := fun hq0 => c1 ((nI_le2 (p := 7) (q := j) rfl rfl (by omega) (by omega)).mpr hq0)
        have c1n : ¬ (7 ≤ j) := c1n
        refine lv_iload hx hb dL_isMiddle_21 (lv_at hl 7 rfl) ?_
        refine lv_iload_n hx hb dL_isMiddle_23 rfl (lv_at hl 2 rfl) ?_
        have cut38 : ∀ (u : WT), (UOk u s sz hf) → ∀ (H : Heap) (locs : List Loc), HP D 113 a (exU cI cS a u) H → va_S (AX 113 a z.heap.size) z.heap H locs → ∀ ls : Array Slot, lv_has ls 10 [(0, .ref (a 112)), (1, .int mid), (2, .int (nI w)), (3, .int (beL (wordA s) (gW s w) mid j)), (4, .int (wBel (wordA s) (gW s w) mid j)), (5, .int (sumN (gW s w) j)), (6, .int (sdF (wordA s) (gW s w) mid j)), (7, .int (nI j))] → W p l e ({ frames := 6, cells := 0, slots := 0, locals := 131 } : Room) z m ([.ref (a 112), .int mid, .int (nI w)] : List Value).toArray below meth c H locs 0 0 (MQ below (va_Qi (fun (r : Int32) (u : WT) => r = 1 ∧ UOk u s sz hf) (BW D 113 a (fun u => exU cI cS a u)) (AX 113 a z.heap.size)) ([.ref (a 112), .int mid, .int (nI w)] : List Value).toArray z 0 0 (AX 113 a z.heap.size)) (F0 m 38 ls [.int (gW s w j)]) := by
          intro u hok H locs hP hS ls hl
          refine lv_istore (lv' := [(8, .int (gW s w j)), (0, .ref (a 112)), (1, .int mid), (2, .int (nI w)), (3, .int (beL (wordA s) (gW s w) mid j)), (4, .int (wBel (wordA s) (gW s w) mid j)), (5, .int (sumN (gW s w) j)), (6, .int (sdF (wordA s) (gW s w) mid j)), (7, .int (nI j))]) hx hb dL_isMiddle_38 hl (by decide) rfl (fun ls hl => ?_)
          refine lv_aload_n hx hb dL_isMiddle_40 rfl (lv_at hl 1 rfl) ?_
          refine lv_iload hx hb dL_isMiddle_41 (lv_at hl 8 rfl) ?_
          refine lv_iconst (v := 2) hx hb dL_isMiddle_43 (by decide) ?_
          refine rw_i hS (va_runV (As := [.int (nI j), .int 2]) (rest := []) ⟨hx, hb, hml, hown, hts⟩ (a_X6_says l D cI cS a u s sz hf hok j 2 (by omega) (by omega) _) (cwV 2 hts (gV tw547 tw544 tw545 tw546 tw1) rfl rfl rfl (by decide +kernel) ⟨Nat.le_of_ble_eq_true rfl, Nat.le_of_ble_eq_true rfl⟩) (pvW 112 hK hP hE (by decide) xc112 rfl) rfl rfl hl.1 rfl (lv_room (Nat.le_of_ble_eq_true rfl)) dL_isMiddle_44 ⟨Nat.le_of_ble_eq_true rfl, Nat.le_of_ble_eq_true rfl⟩) (fun r4 u5 H locs hr3 hP hS => ?_)
          obtain ⟨hr9, hok⟩ := hr3
          subst hr9
          refine lv_istore (lv' := [(9, .int (wordA s j)), (8, .int (gW s w j)), (0, .ref (a 112)), (1, .int mid), (2, .int (nI w)), (3, .int (beL (wordA s) (gW s w) mid j)), (4, .int (wBel (wordA s) (gW s w) mid j)), (5, .int (sumN (gW s w) j)), (6, .int (sdF (wordA s) (gW s w) mid j)), (7, .int (nI j))]) hx hb dL_isMiddle_47 hl (by decide) rfl (fun ls hl => ?_)
          refine lv_iload hx hb dL_isMiddle_49 (lv_at hl 7 rfl) ?_
          refine lv_iload hx hb dL_isMiddle_51 (lv_at hl 1 rfl) ?_
          refine lv_iadd hx hb dL_isMiddle_53 ?_
          refine lv_istore (lv' := [(5, .int ((sumN (gW s w) j) + (gW s w j))), (9, .int (wordA s j)), (8, .int (gW s w j)), (0, .ref (a 112)), (1, .int mid), (2, .int (nI w)), (3, .int (beL (wordA s) (gW s w) mid j)), (4, .int (wBel (wordA s) (gW s w) mid j)), (6, .int (sdF (wordA s) (gW s w) mid j)), (7, .int (nI j))]) hx hb dL_isMiddle_54 hl (by decide) rfl (fun ls hl => ?_)
          refine lv_iload_n hx hb dL_isMiddle_56 rfl (lv_at hl 6 rfl) ?_
          refine lv_iload hx hb dL_isMiddle_57 (lv_at hl 1 rfl) ?_
          refine lv_iload_n hx hb dL_isMiddle_59 rfl (lv_at hl 4 rfl) ?_
          have cut69 : ∀ (H : Heap) (locs : List Loc), HP D 113 a (exU cI cS a u5) H → va_S (AX 113 a z.heap.size) z.heap H locs → ∀ ls : Array Slot, lv_has ls 10 [(5, .int ((sumN (gW s w) j) + (gW s w j))), (9, .int (wordA s j)), (8, .int (gW s w j)), (0, .ref (a 112)), (1, .int mid), (2, .int (nI w)), (3, .int (beL (wordA s) (gW s w) mid j)), (4, .int (wBel (wordA s) (gW s w) mid j)), (6, .int (sdF (wordA s) (gW s w) mid j)), (7, .int (nI j))] → W p l e ({ frames := 6, cells := 0, slots := 0, locals := 131 } : Room) z m ([.ref (a 112), .int mid, .int (nI w)] : List Value).toArray below meth c H locs 0 0 (MQ below (va_Qi (fun (r : Int32) (u : WT) => r = 1 ∧ UOk u s sz hf) (BW D 113 a (fun u => exU cI cS a u)) (AX 113 a z.heap.size)) ([.ref (a 112), .int mid, .int (nI w)] : List Value).toArray z 0 0 (AX 113 a z.heap.size)) (F0 m 69 ls [.int (if mid < wordA s j then 0 else gW s w j), .int (beL (wordA s) (gW s w) mid j)]) := by
            intro H locs hP hS ls hl
            refine lv_iadd hx hb dL_isMiddle_69 ?_
            refine lv_istore_n (lv' := [(3, .int ((beL (wordA s) (gW s w) mid j) + (if mid < wordA s j then 0 else gW s w j))), (5, .int ((sumN (gW s w) j) + (gW s w j))), (9, .int (wordA s j)), (8, .int (gW s w j)), (0, .ref (a 112)), (1, .int mid), (2, .int (nI w)), (4, .int (wBel (wordA s) (gW s w) mid j)), (6, .int (sdF (wordA s) (gW s w) mid j)), (7, .int (nI j))]) hx hb dL_isMiddle_70 rfl hl (by decide) rfl (fun ls hl => ?_)
            refine lv_iload hx hb dL_isMiddle_71 (lv_at hl 7 rfl) ?_
            refine lv_iload hx hb dL_isMiddle_73 (lv_at hl 2 rfl) ?_
            refine lv_iload_n hx hb dL_isMiddle_75 rfl (lv_at hl 5 rfl) ?_
            have cut85 : ∀ (H : Heap) (locs : List Loc), HP D 113 a (exU cI cS a u5) H → va_S (AX 113 a z.heap.size) z.heap H locs → ∀ ls : Array Slot, lv_has ls 10 [(3, .int ((beL (wordA s) (gW s w) mid j) + (if mid < wordA s j then 0 else gW s w j))), (5, .int ((sumN (gW s w) j) + (gW s w j))), (9, .int (wordA s j)), (8, .int (gW s w j)), (0, .ref (a 112)), (1, .int mid), (2, .int (nI w)), (4, .int (wBel (wordA s) (gW s w) mid j)), (6, .int (sdF (wordA s) (gW s w) mid j)), (7, .int (nI j))] → W p l e ({ frames := 6, cells := 0, slots := 0, locals := 131 } : Room) z m ([.ref (a 112), .int mid, .int (nI w)] : List Value).toArray below meth c H locs 0 0 (MQ below (va_Qi (fun (r : Int32) (u : WT) => r = 1 ∧ UOk u s sz hf) (BW D 113 a (fun u => exU cI cS a u)) (AX 113 a z.heap.size)) ([.ref (a 112), .int mid, .int (nI w)] : List Value).toArray z 0 0 (AX 113 a z.heap.size)) (F0 m 85 ls [.int (if wordA s j < mid then gW s w j else 0), .int (wBel (wordA s) (gW s w) mid j)]) := by
              intro H locs hP hS ls hl
              refine lv_iadd hx hb dL_isMiddle_85 ?_
              refine lv_istore (lv' := [(4, .int ((wBel (wordA s) (gW s w) mid j) + (if wordA s j < mid then gW s w j else 0))), (3, .int ((beL (wordA s) (gW s w) mid j) + (if mid < wordA s j then 0 else gW s w j))), (5, .int ((sumN (gW s w) j) + (gW s w j))), (9, .int (wordA s j)), (8, .int (gW s w j)), (0, .ref (a 112)), (1, .int mid), (2, .int (nI w)), (6, .int (sdF (wordA s) (gW s w) mid j)), (7, .int (nI j))]) hx hb dL_isMiddle_86 hl (by decide) rfl (fun ls hl => ?_)
              refine lv_iload hx hb dL_isMiddle_88 (lv_at hl 8 rfl) ?_
              have cut109 : ∀ (H : Heap) (locs : List Loc), HP D 113 a (exU cI cS a u5) H → va_S (AX 113 a z.heap.size) z.heap H locs → ∀ ls : Array Slot, lv_has ls 10 [(4, .int ((wBel (wordA s) (gW s w) mid j) + (if wordA s j < mid then gW s w j else 0))), (3, .int ((beL (wordA s) (gW s w) mid j) + (if mid < wordA s j then 0 else gW s w j))), (5, .int ((sumN (gW s w) j) + (gW s w j))), (9, .int (wordA s j)), (8, .int (gW s w j)), (0, .ref (a 112)), (1, .int mid), (2, .int (nI w)), (6, .int (sdF (wordA s) (gW s w) mid j)), (7, .int (nI j))] → W p l e ({ frames := 6, cells := 0, slots := 0, locals := 131 } : Room) z m ([.ref (a 112), .int mid, .int (nI w)] : List Value).toArray below meth c H locs 0 0 (MQ below (va_Qi (fun (r : Int32) (u : WT) => r = 1 ∧ UOk u s sz hf) (BW D 113 a (fun u => exU cI cS a u)) (AX 113 a z.heap.size)) ([.ref (a 112), .int mid, .int (nI w)] : List Value).toArray z 0 0 (AX 113 a z.heap.size)) (F0 m 109 ls [.int (sdF (wordA s) (gW s w) mid (j + 1))]) := by
                intro H locs hP hS ls hl
                refine lv_istore (lv' := [(6, .int (sdF (wordA s) (gW s w) mid (j + 1))), (4, .int ((wBel (wordA s) (gW s w) mid j) + (if wordA s j < mid then gW s w j else 0))), (3, .int ((beL (wordA s) (gW s w) mid j) + (if mid < wordA s j then 0 else gW s w j))), (5, .int ((sumN (gW s w) j) + (gW s w j))), (9, .int (wordA s j)), (8, .int (gW s w j)), (0, .ref (a 112)), (1, .int mid), (2, .int (nI w)), (7, .int (nI j))]) hx hb dL_isMiddle_109 hl (by decide) rfl (fun ls hl => ?_)
                refine lv_iinc (v := nI (j + 1)) (lv' := [(7, .int (nI (j + 1))), (6, .int (sdF (wordA s) (gW s w) mid (j + 1))), (4, .int ((wBel (wordA s) (gW s w) mid j) + (if wordA s j < mid then gW s w j else 0))), (3, .int ((beL (wordA s) (gW s w) mid j) + (if mid < wordA s j then 0 else gW s w j))), (5, .int ((sumN (gW s w) j) + (gW s w j))), (9, .int (wordA s j)), (8, .int (gW s w j)), (0, .ref (a 112)), (1, .int mid), (2, .int (nI w))]) hx hb dL_isMiddle_111 hl (k := 9) rfl (nI_add j 1) (by decide) rfl (fun ls hl => ?_)
                refine lv_goto (tgt := 14) hx hb dL_isMiddle_114 (by decide) ?_
                exact ih14 (j + 1) u5 (by omega) (by omega) hok _ _ hP hS ls (lv_sub hl [7, 8, 9, 3, 2, 4, 1, 0] rfl)
              refine lv_if_ne (tgt := 104) hx hb dL_isMiddle_90 (by decide) (fun c6 => ?_) (fun c6 => ?_)
              · skip
                refine lv_iconst (v := 1) hx hb dL_isMiddle_104 (by decide) ?_
                refine lv_goto (tgt := 109) hx hb dL_isMiddle_105 (by decide) ?_
                refine lv_as (y := sdF (wordA s) (gW s w) mid (j + 1)) (show (1 : Int32) = sdF (wordA s) (gW s w) mid (j + 1) from (if_pos (Or.inl c6)).symm) ?_
                exact cut109 _ _ hP hS ls (lv_sub hl [0, 1, 2, 3, 4, 5, 6, 7, 8, 9] rfl)
              · skip
                refine lv_iload hx hb dL_isMiddle_93 (lv_at hl 3 rfl) ?_
                refine lv_iload_n hx hb dL_isMiddle_95 rfl (lv_at hl 6 rfl) ?_
                refine lv_icmp_ne (tgt := 108) hx hb dL_isMiddle_96 (by decide) (fun c7 => ?_) (fun c7 => ?_)
                · skip
                  refine lv_iconst (v := 0) hx hb dL_isMiddle_108 (by decide) ?_
                  refine lv_as (y := sdF (wordA s) (gW s w) mid (j + 1)) (show (0 : Int32) = sdF (wordA s) (gW s w) mid (j + 1) from (if_neg (fun q9 => q9.elim (fun q8 => q8 c6) (fun q8 => c7 q8.1))).symm) ?_
                  exact cut109 _ _ hP hS ls (lv_sub hl [0, 1, 2, 3, 4, 5, 6, 7, 8, 9] rfl)
                · skip
                  refine lv_iload hx hb dL_isMiddle_99 (lv_at hl 4 rfl) ?_
                  refine lv_if_le (tgt := 108) hx hb dL_isMiddle_101 (by decide) (fun c8 => ?_) (fun c8 => ?_)
                  · skip
                    have c8x := Int32.not_lt.mpr c8
                    refine lv_iconst (v := 0) hx hb dL_isMiddle_108 (by decide) ?_
                    refine lv_as (y := sdF (wordA s) (gW s w) mid (j + 1)) (show (0 : Int32) = sdF (wordA s) (gW s w) mid (j + 1) from (if_neg (fun q9 => q9.elim (fun q8 => q8 c6) (fun q8 => c8x q8.2))).symm) ?_
                    exact cut109 _ _ hP hS ls (lv_sub hl [0, 1, 2, 3, 4, 5, 6, 7, 8, 9] rfl)
                  · skip
                    have c8x := Int32.not_le.mp c8
                    refine lv_iconst (v := 1) hx hb dL_isMiddle_104 (by decide) ?_
                    refine lv_goto (tgt := 109) hx hb dL_isMiddle_105 (by decide) ?_
                    refine lv_as (y := sdF (wordA s) (gW s w) mid (j + 1)) (show (1 : Int32) = sdF (wordA s) (gW s w) mid (j + 1) from (if_pos (Or.inr ⟨c7, c8x⟩)).symm) ?_
                    exact cut109 _ _ hP hS ls (lv_sub hl [0, 1, 2, 3, 4, 5, 6, 7, 8, 9] rfl)
            refine lv_icmp_ge (tgt := 84) hx hb dL_isMiddle_76 (by decide) (fun c9 => ?_) (fun c9 => ?_)
            · skip
              have c9x := Int32.not_lt.mpr c9
              refine lv_iconst (v := 0) hx hb dL_isMiddle_84 (by decide) ?_
              refine lv_as (y := if wordA s j < mid then gW s w j else 0) (if_neg c9x).symm ?_
              exact cut85 _ _ hP hS ls (lv_sub hl [0, 1, 2, 3, 4, 5, 6, 7, 8, 9] rfl)
            · skip
              have c9x := Int32.not_le.mp c9
              refine lv_iload hx hb dL_isMiddle_79 (lv_at hl 3 rfl) ?_
              refine lv_goto (tgt := 85) hx hb dL_isMiddle_81 (by decide) ?_
              refine lv_as (y := if wordA s j < mid then gW s w j else 0) (if_pos c9x).symm ?_
              exact cut85 _ _ hP hS ls (lv_sub hl [0, 1, 2, 3, 4, 5, 6, 7, 8, 9] rfl)
          refine lv_icmp_gt (tgt := 68) hx hb dL_isMiddle_60 (by decide) (fun c10 => ?_) (fun c10 => ?_)
          · skip
            have c10x := Int32.not_le.mpr c10
            refine lv_iconst (v := 0) hx hb dL_isMiddle_68 (by decide) ?_
            refine lv_as (y := if mid < wordA s j then 0 else gW s w j) (if_pos c10).symm ?_
            exact cut69 _ _ hP hS ls (lv_sub hl [0, 1, 2, 3, 4, 5, 6, 7, 8, 9] rfl)
          · skip
            have c10x := Int32.not_lt.mp c10
            refine lv_iload hx hb dL_isMiddle_63 (lv_at hl 2 rfl) ?_
            refine lv_goto (tgt := 69) hx hb dL_isMiddle_65 (by decide) ?_
            refine lv_as (y := if mid < wordA s j then 0 else gW s w j) (if_neg c10).symm ?_
            exact cut69 _ _ hP hS ls (lv_sub hl [0, 1, 2, 3, 4, 5, 6, 7, 8, 9] rfl)
        refine lv_icmp_ne (tgt := 31) hx hb dL_isMiddle_24 (by decide) (fun c11 => ?_) (fun c11 => ?_)
        · skip
          have c11n := fun hq0 => c11 ((nI_eq2 (p := j) (q := w) rfl rfl (by omega) (by omega)).mpr hq0)
          have c11n : ¬ (j = w) := c11n
          refine lv_aload_n hx hb dL_isMiddle_31 rfl (lv_at hl 0 rfl) ?_
          refine lv_iload hx hb dL_isMiddle_32 (lv_at hl 7 rfl) ?_
          refine lv_iconst (v := 0) hx hb dL_isMiddle_34 (by decide) ?_
          refine rw_i hS (va_runV (As := [.int (nI j), .int 0]) (rest := []) ⟨hx, hb, hml, hown, hts⟩ (a_X6_says l D cI cS a u s sz hf hok j 0 (by omega) (by omega) _) (cwV 2 hts (gV tw547 tw544 tw545 tw546 tw1) rfl rfl rfl (by decide +kernel) ⟨Nat.le_of_ble_eq_true rfl, Nat.le_of_ble_eq_true rfl⟩) (pvW 112 hK hP hE (by decide) xc112 rfl) rfl rfl hl.1 rfl (lv_room (Nat.le_of_ble_eq_true rfl)) dL_isMiddle_35 ⟨Nat.le_of_ble_eq_true rfl, Nat.le_of_ble_eq_true rfl⟩) (fun r13 u14 H locs hr12 hP hS => ?_)
          obtain ⟨hr9, hok⟩ := hr12
          subst hr9
          refine lv_as (y := gW s w j) (show s 7 j = gW s w j from (if_neg c11n).symm) ?_
          exact cut38 u14 hok _ _ hP hS ls (lv_sub hl [0, 1, 2, 3, 4, 5, 6, 7] rfl)
        · skip
          have c11n := (nI_eq2 (p := j) (q := w) rfl rfl (by omega) (by omega)).mp c11
          have c11n : j = w := c11n
          refine lv_iconst (v := 0) hx hb dL_isMiddle_27 (by decide) ?_
          refine lv_goto (tgt := 38) hx hb dL_isMiddle_28 (by decide) ?_
          refine lv_as (y := gW s w j) (show (0 : Int32) = gW s w j from (if_pos c11n).symm) ?_
          exact cut38 u hok _ _ hP hS ls (lv_sub hl [0, 1, 2, 3, 4, 5, 6, 7] rfl)
  exact loop14 (7 + 1) 0 u (by omega) (by omega) hok _ _ hP hS ls (lv_sub hl [5, 6, 7, 4, 3, 2, 1, 0] rfl)
