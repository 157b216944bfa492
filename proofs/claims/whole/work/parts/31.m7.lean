set_option maxHeartbeats 4000000 in
set_option maxRecDepth 100000 in
theorem m_X7_go0 (l : Launch) (D : va_G) (cI cS : ClassId) (b : Nat → Nat) (s kp : St) (hf : Nat → St) (sc ad bf : Nat → Int32) (ln : Nat) (hln : ln ≤ 60) (hl0 : sc 2 = nI ln) (zz : Nat) : Met l yX7_go (.code yX7_go cX7_go 5 (some .int) :: wsA) ({ frames := 3, cells := 0, slots := 0, locals := 71 } : Room) (va_Pc [.ref (b 0), .int 0] (PW D cI cS 6 b (emC cI b (mdl s kp hf sc ad bf)) zz)) (va_Qi (fun (r : Int32) (u : Nat × Int32) => GO bf ln u.1 u.2) (BW D 6 b (fun u => emC cI b (mdl s kp hf (pq sc u.1 u.2) ad bf))) (AX 6 b zz)) 0 0 (AX 6 b zz) := by
  refine mgo (by decide) (Nat.le_of_ble_eq_true rfl) ?_
  intro p e z m below meth c hx hb hr hml hown hts hlocks hB ls hl
  obtain ⟨hsz, hP, hK, hE⟩ := hB
  subst hsz
  have hS : va_S (AX 6 b z.heap.size) z.heap z.heap [] := va_S.rf
  have hl : lv_has ls 5 [(0, .ref (b 0)), (1, .int 0)] := hl
  refine lv_aload_n hx hb dX7_go_0 rfl (lv_at hl 0 rfl) ?_
  refine lv_iconst (v := 0) hx hb dX7_go_1 (by decide) ?_
  refine g_put hx hb hts hown inA7 tyX7 tyX7_ok nmX7 hK hP hE hS 0 (by decide) rfl rfl 9 (by decide) tw769 rfl rfl (ty := .int) (by decide +kernel) rfl rfl (Nat.le_of_ble_eq_true rfl) dX7_go_2 (ex' := emC cI b (mdl s kp hf (upd sc 4 0) ad bf)) rfl mm_sc (fun H locs hP hS => ?_)
  refine lv_aload_n hx hb dX7_go_5 rfl (lv_at hl 0 rfl) ?_
  refine lv_iconst (v := 0) hx hb dX7_go_6 (by decide) ?_
  refine g_put hx hb hts hown inA7 tyX7 tyX7_ok nmX7 hK hP hE hS 0 (by decide) rfl rfl 10 (by decide) tw770 rfl rfl (ty := .boolean) (by decide +kernel) rfl rfl (Nat.le_of_ble_eq_true rfl) dX7_go_7 (ex' := emC cI b (mdl s kp hf (upd (upd sc 4 0) 5 0) ad bf)) rfl mm_sc (fun H locs hP hS => ?_)
  have hP : HP D 6 b (emC cI b (mdl s kp hf (pq sc 0 0) ad bf)) H := hP
  refine lv_iconst (v := 0) hx hb dX7_go_10 (by decide) ?_
  refine lv_istore_n (lv' := [(2, .int 0), (0, .ref (b 0)), (1, .int 0)]) hx hb dX7_go_11 rfl hl (by decide) rfl (fun ls hl => ?_)
  refine lv_iconst (v := 1) hx hb dX7_go_12 (by decide) ?_
  refine lv_istore_n (lv' := [(3, .int 1), (2, .int 0), (0, .ref (b 0)), (1, .int 0)]) hx hb dX7_go_13 rfl hl (by decide) rfl (fun ls hl => ?_)
  have loop14 : ∀ (fu : Nat) (g : Nat) (cnt : Int32) (mo : Int32) (q : Nat) (w : Int32), ln + 1 + 1 ≤ g + fu → (g ≤ ln + 1) → (¬ mo = 0 → w = 0 ∧ q ≤ ln ∧ g ≤ q ∧ stJ bf ln 0 0 q 0) → (mo = 0 → GO bf ln q w) → ∀ (H : Heap) (locs : List Loc), HP D 6 b (emC cI b (mdl s kp hf (pq sc q w) ad bf)) H → va_S (AX 6 b z.heap.size) z.heap H locs → ∀ ls : Array Slot, lv_has ls 5 [(0, .ref (b 0)), (1, .int 0), (2, .int cnt), (3, .int mo)] → W p l e ({ frames := 3, cells := 0, slots := 0, locals := 71 } : Room) z m ([.ref (b 0), .int 0] : List Value).toArray below meth c H locs 0 0 (MQ below (va_Qi (fun (r : Int32) (u : Nat × Int32) => GO bf ln u.1 u.2) (BW D 6 b (fun u => emC cI b (mdl s kp hf (pq sc u.1 u.2) ad bf))) (AX 6 b z.heap.size)) ([.ref (b 0), .int 0] : List Value).toArray z 0 0 (AX 6 b z.heap.size)) (F0 m 14 ls []) := by
    intro fu
    induction fu with
    | zero => intro g cnt mo q w hn hg h1 h2; exact absurd hn (by omega)
    | succ fu ih14 =>
      intro g cnt mo q w hn hg h1 h2 H locs hP hS ls hl
      refine lv_iload_n hx hb dX7_go_14 rfl (lv_at hl 3 rfl) ?_
      refine lv_if_eq (tgt := 85) hx hb dX7_go_15 (by decide) (fun c1 => ?_) (fun c1 => ?_)
      · skip
        have c0 := c1
        refine lv_iload_n hx hb dX7_go_85 rfl (lv_at hl 2 rfl) ?_
        exact rw_ir hx hb hr rfl hlocks hS (q, w) hP (h2 c0) dX7_go_86
      · skip
        obtain ⟨hw0, hq1, hq2, hJ⟩ := h1 c1
        subst hw0
        refine lv_aload_n hx hb dX7_go_18 rfl (lv_at hl 0 rfl) ?_
        refine lv_iload_n hx hb dX7_go_19 rfl (lv_at hl 1 rfl) ?_
        refine rw_i hS (va_runV (As := [.int 0]) (rest := []) ⟨hx, hb, hml, hown, hts⟩ (m_X7_part0 l D cI cS b s kp hf sc ad bf ln (by omega) hl0 q (by omega) _) (cwV 1 hts (gV tw914 tw911 tw913 ts37 tw8) rfl rfl rfl (by decide +kernel) ⟨Nat.le_of_ble_eq_true rfl, Nat.le_of_ble_eq_true rfl⟩) (pvW 0 hK hP hE (by decide) rfl rfl) rfl rfl hl.1 rfl (lv_room (Nat.le_of_ble_eq_true rfl)) dX7_go_20 ⟨Nat.le_of_ble_eq_true rfl, Nat.le_of_ble_eq_true rfl⟩) (fun r3 u4 H locs hr2 hP hS => ?_)
        obtain ⟨hr9, hz9⟩ := hr2; subst hr9; obtain ⟨p1, w1⟩ := u4; rcases hz9 with ⟨hw1, hk1⟩ | ⟨hw1, hk1⟩
        · skip
          have hw1 : w1 = 0 := hw1
          subst hw1
          have hk1 : PK bf ln q p1 := hk1
          have hk2 := hk1.1
          have hk3 := hk1.2.1
          have hP : HP D 6 b (emC cI b (mdl s kp hf (pq sc p1 0) ad bf)) H := hP
          refine lv_if_ne (tgt := 28) hx hb dX7_go_23 (by decide) (fun _ => ?_) (fun h0 => absurd h0 (by decide))
          refine lv_iinc (v := cnt + 1) (lv' := [(2, .int (cnt + 1)), (0, .ref (b 0)), (1, .int 0), (3, .int mo)]) hx hb dX7_go_28 hl (k := 2) rfl rfl (by decide) rfl (fun ls hl => ?_)
          refine lv_aload_n hx hb dX7_go_31 rfl (lv_at hl 1 rfl) ?_
          refine g_get hx hb hts hown inA7 hK hP 0 (by decide) rfl rfl 10 (by decide) tw770 rfl (v := .int 0) rfl dX7_go_32 ?_
          refine lv_if_ne (tgt := 53) hx hb dX7_go_35 (by decide) (fun h0 => absurd (by decide) h0) (fun _ => ?_)
          refine lv_aload_n hx hb dX7_go_38 rfl (lv_at hl 1 rfl) ?_
          refine g_get hx hb hts hown inA7 hK hP 0 (by decide) rfl rfl 9 (by decide) tw769 rfl (v := .int (nI p1)) rfl dX7_go_39 ?_
          refine lv_aload_n hx hb dX7_go_42 rfl (lv_at hl 1 rfl) ?_
          refine g_get hx hb hts hown inA7 hK hP 0 (by decide) rfl rfl 7 (by decide) tw767 rfl (v := .int (sc 2)) rfl dX7_go_43 ?_
          refine lv_icmp_ge (tgt := 53) hx hb dX7_go_46 (by decide) (fun c5 => ?_) (fun c5 => ?_)
          · skip
            have c5x := Int32.not_lt.mpr c5
            have c5n := (nI_le2 (p := ln) (q := p1) hl0 rfl (by omega) (by omega)).mp c5
            have c5n : ln ≤ p1 := c5n
            refine lv_iconst (v := 0) hx hb dX7_go_53 (by decide) ?_
            refine lv_istore_n (lv' := [(3, .int 0), (2, .int (cnt + 1)), (0, .ref (b 0)), (1, .int 0)]) hx hb dX7_go_54 rfl hl (by decide) rfl (fun ls hl => ?_)
            refine lv_iload_n hx hb dX7_go_55 rfl (lv_at hl 0 rfl) ?_
            refine lv_if_eq (tgt := 14) hx hb dX7_go_56 (by decide) (fun _ => ?_) (fun h0 => absurd (by decide) h0)
            exact ih14 (g + 1) (cnt + 1) 0 p1 0 (by omega) (by omega) (fun h9 => absurd rfl h9) (fun _ => go_e2 hJ hk1 (by omega)) _ _ hP hS ls (lv_sub hl [2, 3, 1, 0] rfl)
          · skip
            have c5x := Int32.not_le.mp c5
            have c5n := fun hq0 => c5 ((nI_le2 (p := ln) (q := p1) hl0 rfl (by omega) (by omega)).mpr hq0)
            have c5n : ¬ (ln ≤ p1) := c5n
            refine lv_iconst (v := 1) hx hb dX7_go_49 (by decide) ?_
            refine lv_goto (tgt := 54) hx hb dX7_go_50 (by decide) ?_
            refine lv_istore_n (lv' := [(3, .int 1), (2, .int (cnt + 1)), (0, .ref (b 0)), (1, .int 0)]) hx hb dX7_go_54 rfl hl (by decide) rfl (fun ls hl => ?_)
            refine lv_iload_n hx hb dX7_go_55 rfl (lv_at hl 0 rfl) ?_
            refine lv_if_eq (tgt := 14) hx hb dX7_go_56 (by decide) (fun h0 => absurd h0 (by decide)) (fun _ => ?_)
            refine lv_aload_n hx hb dX7_go_59 rfl (lv_at hl 2 rfl) ?_
            refine lv_bipush (v := 59) hx hb dX7_go_60 (by decide) ?_
            refine lv_bipush (v := 59) hx hb dX7_go_62 (by decide) ?_
            by_cases s64 : p1 < ln ∧ witB (bf p1) 59 59
            · skip
              refine rw_i hS (va_runV (As := [.int 59, .int 59]) (rest := []) ⟨hx, hb, hml, hown, hts⟩ (m_X7_sign_ok l D cI cS b s kp hf sc ad bf ln (by omega) hl0 p1 (by omega) 59 59 s64 _) (cwV 2 hts (gV tw922 tw919 tw921 ts39 tw8) rfl rfl rfl (by decide +kernel) ⟨Nat.le_of_ble_eq_true rfl, Nat.le_of_ble_eq_true rfl⟩) (pvW 0 hK hP hE (by decide) rfl rfl) rfl rfl hl.1 rfl (lv_room (Nat.le_of_ble_eq_true rfl)) dX7_go_64 ⟨Nat.le_of_ble_eq_true rfl, Nat.le_of_ble_eq_true rfl⟩) (fun r7 u8 H locs hr6 hP hS => ?_)
              subst hr6
              refine lv_istore (lv' := [(4, .int (bf p1)), (3, .int 1), (2, .int (cnt + 1)), (0, .ref (b 0)), (1, .int 0)]) hx hb dX7_go_67 hl (by decide) rfl (fun ls hl => ?_)
              refine lv_aload_n hx hb dX7_go_69 rfl (lv_at hl 3 rfl) ?_
              refine g_get hx hb hts hown inA7 hK hP 0 (by decide) rfl rfl 10 (by decide) tw770 rfl (v := .int 0) rfl dX7_go_70 ?_
              refine lv_if_ne (tgt := 80) hx hb dX7_go_73 (by decide) (fun h0 => absurd (by decide) h0) (fun _ => ?_)
              refine lv_iconst (v := 1) hx hb dX7_go_76 (by decide) ?_
              refine lv_goto (tgt := 81) hx hb dX7_go_77 (by decide) ?_
              refine lv_istore_n (lv' := [(3, .int 1), (4, .int (bf p1)), (2, .int (cnt + 1)), (0, .ref (b 0)), (1, .int 0)]) hx hb dX7_go_81 rfl hl (by decide) rfl (fun ls hl => ?_)
              refine lv_goto (tgt := 14) hx hb dX7_go_82 (by decide) ?_
              exact ih14 (g + 1) (cnt + 1) 1 (p1 + 1) 0 (by omega) (by omega) (fun _ => ⟨rfl, by omega, by omega, stJ_t hJ (pk_n hk1 s64.1 (wit1 s64.2))⟩) (fun h9 => absurd h9 (by decide)) _ _ hP hS ls (lv_sub hl [3, 4, 2, 0] rfl)
            · skip
              refine rw_i hS (va_runV (As := [.int 59, .int 59]) (rest := []) ⟨hx, hb, hml, hown, hts⟩ (m_X7_sign_no l D cI cS b s kp hf sc ad bf ln (by omega) hl0 p1 (by omega) 59 59 s64 _) (cwV 2 hts (gV tw922 tw919 tw921 ts39 tw8) rfl rfl rfl (by decide +kernel) ⟨Nat.le_of_ble_eq_true rfl, Nat.le_of_ble_eq_true rfl⟩) (pvW 0 hK hP hE (by decide) rfl rfl) rfl rfl hl.1 rfl (lv_room (Nat.le_of_ble_eq_true rfl)) dX7_go_64 ⟨Nat.le_of_ble_eq_true rfl, Nat.le_of_ble_eq_true rfl⟩) (fun r10 u11 H locs hr9 hP hS => ?_)
              subst hr9
              refine lv_istore (lv' := [(4, .int (cdA bf ln p1)), (3, .int 1), (2, .int (cnt + 1)), (0, .ref (b 0)), (1, .int 0)]) hx hb dX7_go_67 hl (by decide) rfl (fun ls hl => ?_)
              refine lv_aload_n hx hb dX7_go_69 rfl (lv_at hl 3 rfl) ?_
              refine g_get hx hb hts hown inA7 hK hP 0 (by decide) rfl rfl 10 (by decide) tw770 rfl (v := .int 1) rfl dX7_go_70 ?_
              refine lv_if_ne (tgt := 80) hx hb dX7_go_73 (by decide) (fun _ => ?_) (fun h0 => absurd h0 (by decide))
              refine lv_iconst (v := 0) hx hb dX7_go_80 (by decide) ?_
              refine lv_istore_n (lv' := [(3, .int 0), (4, .int (cdA bf ln p1)), (2, .int (cnt + 1)), (0, .ref (b 0)), (1, .int 0)]) hx hb dX7_go_81 rfl hl (by decide) rfl (fun ls hl => ?_)
              refine lv_goto (tgt := 14) hx hb dX7_go_82 (by decide) ?_
              exact ih14 (g + 1) (cnt + 1) 0 p1 1 (by omega) (by omega) (fun h9 => absurd rfl h9) (fun _ => go_x hJ (pk_x hk1 (by omega) (fun q9 => s64 ⟨by omega, by rw [q9]; exact wit_s _⟩))) _ _ hP hS ls (lv_sub hl [3, 4, 2, 0] rfl)
        · skip
          have hw1 : w1 = 1 := hw1
          subst hw1
          have hk1 : PX bf ln q p1 := hk1
          have hP : HP D 6 b (emC cI b (mdl s kp hf (pq sc p1 1) ad bf)) H := hP
          refine lv_if_ne (tgt := 28) hx hb dX7_go_23 (by decide) (fun _ => ?_) (fun h0 => absurd h0 (by decide))
          refine lv_iinc (v := cnt + 1) (lv' := [(2, .int (cnt + 1)), (0, .ref (b 0)), (1, .int 0), (3, .int mo)]) hx hb dX7_go_28 hl (k := 2) rfl rfl (by decide) rfl (fun ls hl => ?_)
          refine lv_aload_n hx hb dX7_go_31 rfl (lv_at hl 1 rfl) ?_
          refine g_get hx hb hts hown inA7 hK hP 0 (by decide) rfl rfl 10 (by decide) tw770 rfl (v := .int 1) rfl dX7_go_32 ?_
          refine lv_if_ne (tgt := 53) hx hb dX7_go_35 (by decide) (fun _ => ?_) (fun h0 => absurd h0 (by decide))
          refine lv_iconst (v := 0) hx hb dX7_go_53 (by decide) ?_
          refine lv_istore_n (lv' := [(3, .int 0), (2, .int (cnt + 1)), (0, .ref (b 0)), (1, .int 0)]) hx hb dX7_go_54 rfl hl (by decide) rfl (fun ls hl => ?_)
          refine lv_iload_n hx hb dX7_go_55 rfl (lv_at hl 0 rfl) ?_
          refine lv_if_eq (tgt := 14) hx hb dX7_go_56 (by decide) (fun _ => ?_) (fun h0 => absurd (by decide) h0)
          exact ih14 (g + 1) (cnt + 1) 0 p1 1 (by omega) (by omega) (fun h9 => absurd rfl h9) (fun _ => go_x hJ hk1) _ _ hP hS ls (lv_sub hl [2, 3, 1, 0] rfl)
  exact loop14 ((ln + 1) + 1) 0 0 1 0 0 (by omega) (by omega) (fun _ => ⟨rfl, by omega, by omega, stJ_0⟩) (fun h9 => absurd h9 (by decide)) _ _ hP hS ls (lv_sub hl [2, 3, 1, 0] rfl)

set_option maxHeartbeats 4000000 in
set_option maxRecDepth 100000 in
theorem m_X7_go1 (l : Launch) (D : va_G) (cI cS : ClassId) (b : Nat → Nat) (s kp : St) (hf : Nat → St) (sc ad bf : Nat → Int32) (ln : Nat) (hln : ln ≤ 60) (hl0 : sc 2 = nI ln) (T : Int) (hBd : Bd T s) (hT : T ≤ 400000000) (hcm : cmpB bf ln) (zz : Nat) : Met l yX7_go (.code yX7_go cX7_go 5 (some .int) :: wsA) ({ frames := 4, cells := 0, slots := 0, locals := 97 } : Room) (va_Pc [.ref (b 0), .int 1] (PW D cI cS 6 b (emC cI b (mdl s kp hf sc ad bf)) zz)) (va_Qi (fun (r : Int32) (u : Nat × Int32) => r = (obF bf ln ln 0 s 0).2) (BW D 6 b (fun u => emC cI b (mdl ((obF bf ln ln 0 s 0).1) kp hf (pq sc u.1 u.2) ad bf))) (AX 6 b zz)) 0 0 (AX 6 b zz) := by
  refine mgo (by decide) (Nat.le_of_ble_eq_true rfl) ?_
  intro p e z m below meth c hx hb hr hml hown hts hlocks hB ls hl
  obtain ⟨hsz, hP, hK, hE⟩ := hB
  subst hsz
  have hS : va_S (AX 6 b z.heap.size) z.heap z.heap [] := va_S.rf
  have hl : lv_has ls 5 [(0, .ref (b 0)), (1, .int 1)] := hl
  refine lv_aload_n hx hb dX7_go_0 rfl (lv_at hl 0 rfl) ?_
  refine lv_iconst (v := 0) hx hb dX7_go_1 (by decide) ?_
  refine g_put hx hb hts hown inA7 tyX7 tyX7_ok nmX7 hK hP hE hS 0 (by decide) rfl rfl 9 (by decide) tw769 rfl rfl (ty := .int) (by decide +kernel) rfl rfl (Nat.le_of_ble_eq_true rfl) dX7_go_2 (ex' := emC cI b (mdl s kp hf (upd sc 4 0) ad bf)) rfl mm_sc (fun H locs hP hS => ?_)
  refine lv_aload_n hx hb dX7_go_5 rfl (lv_at hl 0 rfl) ?_
  refine lv_iconst (v := 0) hx hb dX7_go_6 (by decide) ?_
  refine g_put hx hb hts hown inA7 tyX7 tyX7_ok nmX7 hK hP hE hS 0 (by decide) rfl rfl 10 (by decide) tw770 rfl rfl (ty := .boolean) (by decide +kernel) rfl rfl (Nat.le_of_ble_eq_true rfl) dX7_go_7 (ex' := emC cI b (mdl s kp hf (upd (upd sc 4 0) 5 0) ad bf)) rfl mm_sc (fun H locs hP hS => ?_)
  have hP : HP D 6 b (emC cI b (mdl s kp hf (pq sc 0 0) ad bf)) H := hP
  refine lv_iconst (v := 0) hx hb dX7_go_10 (by decide) ?_
  refine lv_istore_n (lv' := [(2, .int 0), (0, .ref (b 0)), (1, .int 1)]) hx hb dX7_go_11 rfl hl (by decide) rfl (fun ls hl => ?_)
  refine lv_iconst (v := 1) hx hb dX7_go_12 (by decide) ?_
  refine lv_istore_n (lv' := [(3, .int 1), (2, .int 0), (0, .ref (b 0)), (1, .int 1)]) hx hb dX7_go_13 rfl hl (by decide) rfl (fun ls hl => ?_)
  have loop14 : ∀ (fu : Nat) (g : Nat) (cnt : Int32) (mo : Int32) (q : Nat) (t : St), ln + 1 + 1 ≤ g + fu → (g ≤ ln + 1) → (¬ mo = 0 → q ≤ ln ∧ g ≤ q ∧ (dN bf (ln - q) q 0 = 2 ∨ dN bf (ln - q) q 0 = 3) ∧ psB bf ln q ∧ obF bf ln ln 0 s 0 = obF bf ln (ln - q) q t cnt) → (mo = 0 → obF bf ln ln 0 s 0 = (t, cnt)) → (Bd (T + 1000 * (g : Int)) t) → ∀ (H : Heap) (locs : List Loc), HP D 6 b (emC cI b (mdl t kp hf (pq sc q 0) ad bf)) H → va_S (AX 6 b z.heap.size) z.heap H locs → ∀ ls : Array Slot, lv_has ls 5 [(0, .ref (b 0)), (1, .int 1), (2, .int cnt), (3, .int mo)] → W p l e ({ frames := 4, cells := 0, slots := 0, locals := 97 } : Room) z m ([.ref (b 0), .int 1] : List Value).toArray below meth c H locs 0 0 (MQ below (va_Qi (fun (r : Int32) (u : Nat × Int32) => r = (obF bf ln ln 0 s 0).2) (BW D 6 b (fun u => emC cI b (mdl ((obF bf ln ln 0 s 0).1) kp hf (pq sc u.1 u.2) ad bf))) (AX 6 b z.heap.size)) ([.ref (b 0), .int 1] : List Value).toArray z 0 0 (AX 6 b z.heap.size)) (F0 m 14 ls []) := by
    intro fu
    induction fu with
    | zero => intro g cnt mo q t hn hg h1 h2 hBt; exact absurd hn (by omega)
    | succ fu ih14 =>
      intro g cnt mo q t hn hg h1 h2 hBt H locs hP hS ls hl
      refine lv_iload_n hx hb dX7_go_14 rfl (lv_at hl 3 rfl) ?_
      refine lv_if_eq (tgt := 85) hx hb dX7_go_15 (by decide) (fun c1 => ?_) (fun c1 => ?_)
      · skip
        have hEE := h2 c1
        refine lv_iload_n hx hb dX7_go_85 rfl (lv_at hl 2 rfl) ?_
        have hWs : (obF bf ln ln 0 s 0).1 = t := by rw [hEE]
        have hP := hP.cast (e' := emC cI b (mdl ((obF bf ln ln 0 s 0).1) kp hf (pq sc q 0) ad bf)) (by rw [hWs])
        exact rw_ir hx hb hr rfl hlocks hS (q, 0) hP (by rw [hEE]) dX7_go_86
      · skip
        obtain ⟨hq1, hq2, hd9, hps, hob⟩ := h1 c1
        obtain ⟨E9, hpt, hpk⟩ := pt_of hq1 hd9
        have hE1 := (pt_lt hpt).1
        have hE2 := (pt_lt hpt).2.1
        refine lv_aload_n hx hb dX7_go_18 rfl (lv_at hl 0 rfl) ?_
        refine lv_iload_n hx hb dX7_go_19 rfl (lv_at hl 1 rfl) ?_
        refine rw_i hS (va_runV (As := [.int 1]) (rest := []) ⟨hx, hb, hml, hown, hts⟩ (m_X7_part1 l D cI cS b t kp hf sc ad bf ln (by omega) hl0 q (by omega) (T + 1000 * (g : Int)) hBt (by omega) E9 hpt _) (cwV 1 hts (gV tw914 tw911 tw913 ts37 tw8) rfl rfl rfl (by decide +kernel) ⟨Nat.le_of_ble_eq_true rfl, Nat.le_of_ble_eq_true rfl⟩) (pvW 0 hK hP hE (by decide) rfl rfl) rfl rfl hl.1 rfl (lv_room (Nat.le_of_ble_eq_true rfl)) dX7_go_20 ⟨Nat.le_of_ble_eq_true rfl, Nat.le_of_ble_eq_true rfl⟩) (fun r3 u4 H locs hr2 hP hS => ?_)
        subst hr2
        refine lv_bI (fun c5 => ?_) (fun c5 => ?_)
        · skip
          have cqq : (partB bf ln q t) := c5
          refine lv_if_ne (tgt := 28) hx hb dX7_go_23 (by decide) (fun _ => ?_) (fun h0 => absurd h0 (by decide))
          refine lv_iinc (v := cnt + 1) (lv' := [(2, .int (cnt + 1)), (0, .ref (b 0)), (1, .int 1), (3, .int mo)]) hx hb dX7_go_28 hl (k := 2) rfl rfl (by decide) rfl (fun ls hl => ?_)
          refine lv_aload_n hx hb dX7_go_31 rfl (lv_at hl 1 rfl) ?_
          refine g_get hx hb hts hown inA7 hK hP 0 (by decide) rfl rfl 10 (by decide) tw770 rfl (v := .int 0) rfl dX7_go_32 ?_
          refine lv_if_ne (tgt := 53) hx hb dX7_go_35 (by decide) (fun h0 => absurd (by decide) h0) (fun _ => ?_)
          refine lv_aload_n hx hb dX7_go_38 rfl (lv_at hl 1 rfl) ?_
          refine g_get hx hb hts hown inA7 hK hP 0 (by decide) rfl rfl 9 (by decide) tw769 rfl (v := .int (nI E9)) rfl dX7_go_39 ?_
          refine lv_aload_n hx hb dX7_go_42 rfl (lv_at hl 1 rfl) ?_
          refine g_get hx hb hts hown inA7 hK hP 0 (by decide) rfl rfl 7 (by decide) tw767 rfl (v := .int (sc 2)) rfl dX7_go_43 ?_
          refine lv_icmp_ge (tgt := 53) hx hb dX7_go_46 (by decide) (fun c6 => ?_) (fun c6 => ?_)
          · skip
            have c6x := Int32.not_lt.mpr c6
            have c6n := (nI_le2 (p := ln) (q := E9) hl0 rfl (by omega) (by omega)).mp c6
            have c6n : ln ≤ E9 := c6n
            refine lv_iconst (v := 0) hx hb dX7_go_53 (by decide) ?_
            refine lv_istore_n (lv' := [(3, .int 0), (2, .int (cnt + 1)), (0, .ref (b 0)), (1, .int 1)]) hx hb dX7_go_54 rfl hl (by decide) rfl (fun ls hl => ?_)
            refine lv_iload_n hx hb dX7_go_55 rfl (lv_at hl 0 rfl) ?_
            refine lv_if_eq (tgt := 14) hx hb dX7_go_56 (by decide) (fun _ => ?_) (fun h0 => absurd (by decide) h0)
            exact ih14 (g + 1) (cnt + 1) 0 E9 (partS bf ln q t) (by omega) (by omega) (fun h9 => absurd rfl h9) (fun _ => by rw [hob, ob_go hpt hps cqq]; exact ob_en2 (by omega)) (by have h8 := hBt.part (by omega) hpt; rw [show T + 1000 * (g : Int) + 1000 = T + 1000 * ((g + 1 : Nat) : Int) by omega] at h8; exact h8) _ _ hP hS ls (lv_sub hl [2, 3, 1, 0] rfl)
          · skip
            have c6x := Int32.not_le.mp c6
            have c6n := fun hq0 => c6 ((nI_le2 (p := ln) (q := E9) hl0 rfl (by omega) (by omega)).mpr hq0)
            have c6n : ¬ (ln ≤ E9) := c6n
            refine lv_iconst (v := 1) hx hb dX7_go_49 (by decide) ?_
            refine lv_goto (tgt := 54) hx hb dX7_go_50 (by decide) ?_
            refine lv_istore_n (lv' := [(3, .int 1), (2, .int (cnt + 1)), (0, .ref (b 0)), (1, .int 1)]) hx hb dX7_go_54 rfl hl (by decide) rfl (fun ls hl => ?_)
            refine lv_iload_n hx hb dX7_go_55 rfl (lv_at hl 0 rfl) ?_
            refine lv_if_eq (tgt := 14) hx hb dX7_go_56 (by decide) (fun h0 => absurd h0 (by decide)) (fun _ => ?_)
            refine lv_aload_n hx hb dX7_go_59 rfl (lv_at hl 2 rfl) ?_
            refine lv_bipush (v := 59) hx hb dX7_go_60 (by decide) ?_
            refine lv_bipush (v := 59) hx hb dX7_go_62 (by decide) ?_
            refine rw_i hS (va_runV (As := [.int 59, .int 59]) (rest := []) ⟨hx, hb, hml, hown, hts⟩ (m_X7_sign_ok l D cI cS b (partS bf ln q t) kp hf sc ad bf ln (by omega) hl0 E9 (by omega) 59 59 (⟨by omega, by rw [(pk_go hpk hd9 (by omega)).1]; exact wit_s _⟩) _) (cwV 2 hts (gV tw922 tw919 tw921 ts39 tw8) rfl rfl rfl (by decide +kernel) ⟨Nat.le_of_ble_eq_true rfl, Nat.le_of_ble_eq_true rfl⟩) (pvW 0 hK hP hE (by decide) rfl rfl) rfl rfl hl.1 rfl (lv_room (Nat.le_of_ble_eq_true rfl)) dX7_go_64 ⟨Nat.le_of_ble_eq_true rfl, Nat.le_of_ble_eq_true rfl⟩) (fun r8 u9 H locs hr7 hP hS => ?_)
            subst hr7
            refine lv_istore (lv' := [(4, .int (bf E9)), (3, .int 1), (2, .int (cnt + 1)), (0, .ref (b 0)), (1, .int 1)]) hx hb dX7_go_67 hl (by decide) rfl (fun ls hl => ?_)
            refine lv_aload_n hx hb dX7_go_69 rfl (lv_at hl 3 rfl) ?_
            refine g_get hx hb hts hown inA7 hK hP 0 (by decide) rfl rfl 10 (by decide) tw770 rfl (v := .int 0) rfl dX7_go_70 ?_
            refine lv_if_ne (tgt := 80) hx hb dX7_go_73 (by decide) (fun h0 => absurd (by decide) h0) (fun _ => ?_)
            refine lv_iconst (v := 1) hx hb dX7_go_76 (by decide) ?_
            refine lv_goto (tgt := 81) hx hb dX7_go_77 (by decide) ?_
            refine lv_istore_n (lv' := [(3, .int 1), (4, .int (bf E9)), (2, .int (cnt + 1)), (0, .ref (b 0)), (1, .int 1)]) hx hb dX7_go_81 rfl hl (by decide) rfl (fun ls hl => ?_)
            refine lv_goto (tgt := 14) hx hb dX7_go_82 (by decide) ?_
            exact ih14 (g + 1) (cnt + 1) 1 (E9 + 1) (partS bf ln q t) (by omega) (by omega) (fun _ => ⟨by omega, by omega, (pk_go hpk hd9 (by omega)).2, ps_59 (by omega) (pk_go hpk hd9 (by omega)).1, by rw [hob, ob_go hpt hps cqq]; exact ob_nx hpt (by omega)⟩) (fun h9 => absurd h9 (by decide)) (by have h8 := hBt.part (by omega) hpt; rw [show T + 1000 * (g : Int) + 1000 = T + 1000 * ((g + 1 : Nat) : Int) by omega] at h8; exact h8) _ _ hP hS ls (lv_sub hl [3, 4, 2, 0] rfl)
        · skip
          have cqn : ¬ (partB bf ln q t) := c5
          refine lv_if_ne (tgt := 28) hx hb dX7_go_23 (by decide) (fun h0 => absurd (by decide) h0) (fun _ => ?_)
          refine lv_iload_n hx hb dX7_go_26 rfl (lv_at hl 2 rfl) ?_
          have hWs : (obF bf ln ln 0 s 0).1 = (partS bf ln q t) := by rw [hob, ob_no (pt_lt hpt).2.2 hps cqn]
          have hP := hP.cast (e' := emC cI b (mdl ((obF bf ln ln 0 s 0).1) kp hf (pq sc E9 0) ad bf)) (by rw [hWs])
          exact rw_ir hx hb hr rfl hlocks hS (E9, 0) hP (by rw [hob, ob_no (pt_lt hpt).2.2 hps cqn]) dX7_go_27
  exact loop14 ((ln + 1) + 1) 0 0 1 0 s (by omega) (by omega) (fun _ => ⟨by omega, by omega, hcm, Or.inl rfl, rfl⟩) (fun h9 => absurd h9 (by decide)) (by rw [show T + 1000 * ((0 : Nat) : Int) = T by omega]; exact hBd) _ _ hP hS ls (lv_sub hl [2, 3, 1, 0] rfl)

set_option maxHeartbeats 4000000 in
set_option maxRecDepth 100000 in
theorem m_X7_firstError (l : Launch) (D : va_G) (cI cS : ClassId) (b : Nat → Nat) (s kp : St) (hf : Nat → St) (sc ad bf : Nat → Int32) (ln : Nat) (hln : ln ≤ 60) (hl0 : sc 2 = nI ln) (zz : Nat) : Met l yX7_firstError (.code yX7_firstError cX7_firstError 2 (some .int) :: wsA) ({ frames := 4, cells := 0, slots := 0, locals := 95 } : Room) (va_Pc [.ref (b 0)] (PW D cI cS 6 b (emC cI b (mdl s kp hf sc ad bf)) zz)) (va_Qi (fun (r : Int32) (u : Nat → Int32) => r = errF bf ln ln 0 0 ∧ u 0 = sc 0 ∧ u 1 = sc 1 ∧ u 2 = sc 2 ∧ u 3 = 0) (BW D 6 b (fun u => emC cI b (mdl s kp hf u ad bf))) (AX 6 b zz)) 0 0 (AX 6 b zz) := by
  refine mgo (by decide) (Nat.le_of_ble_eq_true rfl) ?_
  intro p e z m below meth c hx hb hr hml hown hts hlocks hB ls hl
  obtain ⟨hsz, hP, hK, hE⟩ := hB
  subst hsz
  have hS : va_S (AX 6 b z.heap.size) z.heap z.heap [] := va_S.rf
  have hl : lv_has ls 2 [(0, .ref (b 0))] := hl
  refine lv_aload_n hx hb dX7_firstError_0 rfl (lv_at hl 0 rfl) ?_
  refine lv_iconst (v := 0) hx hb dX7_firstError_1 (by decide) ?_
  refine g_put hx hb hts hown inA7 tyX7 tyX7_ok nmX7 hK hP hE hS 0 (by decide) rfl rfl 8 (by decide) tw768 rfl rfl (ty := .int) (by decide +kernel) rfl rfl (Nat.le_of_ble_eq_true rfl) dX7_firstError_2 (ex' := emC cI b (mdl s kp hf (upd sc 3 0) ad bf)) rfl mm_sc (fun H locs hP hS => ?_)
  refine lv_aload_n hx hb dX7_firstError_5 rfl (lv_at hl 0 rfl) ?_
  refine lv_iconst (v := 0) hx hb dX7_firstError_6 (by decide) ?_
  refine rw_i hS (va_runV (As := [.int 0]) (rest := []) ⟨hx, hb, hml, hown, hts⟩ (m_X7_go0 l D cI cS b s kp hf (upd sc 3 0) ad bf ln (by omega) hl0 _) (cwV 1 hts (gV tw910 tw907 tw909 ts36 tw8) rfl rfl rfl (by decide +kernel) ⟨Nat.le_of_ble_eq_true rfl, Nat.le_of_ble_eq_true rfl⟩) (pvW 0 hK hP hE (by decide) rfl rfl) rfl rfl hl.1 rfl (lv_room (Nat.le_of_ble_eq_true rfl)) dX7_firstError_7 ⟨Nat.le_of_ble_eq_true rfl, Nat.le_of_ble_eq_true rfl⟩) (fun r9 u2 H locs hr1 hP hS => ?_)
  obtain ⟨p1, w1⟩ := u2; rcases hr1 with ⟨hw1, hc1, he1⟩ | ⟨hw1, hc1, he1⟩
  · skip
    have hw1 : w1 = 0 := hw1
    subst hw1
    have hP : HP D 6 b (emC cI b (mdl s kp hf (pq (upd sc 3 0) p1 0) ad bf)) H := hP
    refine lv_istore_n (lv' := [(1, .int r9), (0, .ref (b 0))]) hx hb dX7_firstError_10 rfl hl (by decide) rfl (fun ls hl => ?_)
    refine lv_aload_n hx hb dX7_firstError_11 rfl (lv_at hl 1 rfl) ?_
    refine g_get hx hb hts hown inA7 hK hP 0 (by decide) rfl rfl 10 (by decide) tw770 rfl (v := .int 0) rfl dX7_firstError_12 ?_
    refine lv_if_eq (tgt := 25) hx hb dX7_firstError_15 (by decide) (fun _ => ?_) (fun h0 => absurd (by decide) h0)
    refine lv_aload_n hx hb dX7_firstError_25 rfl (lv_at hl 1 rfl) ?_
    refine g_get hx hb hts hown inA7 hK hP 0 (by decide) rfl rfl 7 (by decide) tw767 rfl (v := .int (sc 2)) rfl dX7_firstError_26 ?_
    exact rw_ir hx hb hr rfl hlocks hS (pq (upd sc 3 0) p1 0) hP ⟨(by rw [he1]; exact hl0), rfl, rfl, rfl, rfl⟩ dX7_firstError_29
  · skip
    have he1 : errF bf ln ln 0 0 = nI p1 := he1
    have hw1 : w1 = 1 := hw1
    subst hw1
    have hP : HP D 6 b (emC cI b (mdl s kp hf (pq (upd sc 3 0) p1 1) ad bf)) H := hP
    refine lv_istore_n (lv' := [(1, .int r9), (0, .ref (b 0))]) hx hb dX7_firstError_10 rfl hl (by decide) rfl (fun ls hl => ?_)
    refine lv_aload_n hx hb dX7_firstError_11 rfl (lv_at hl 1 rfl) ?_
    refine g_get hx hb hts hown inA7 hK hP 0 (by decide) rfl rfl 10 (by decide) tw770 rfl (v := .int 1) rfl dX7_firstError_12 ?_
    refine lv_if_eq (tgt := 25) hx hb dX7_firstError_15 (by decide) (fun h0 => absurd h0 (by decide)) (fun _ => ?_)
    refine lv_aload_n hx hb dX7_firstError_18 rfl (lv_at hl 1 rfl) ?_
    refine g_get hx hb hts hown inA7 hK hP 0 (by decide) rfl rfl 9 (by decide) tw769 rfl (v := .int (nI p1)) rfl dX7_firstError_19 ?_
    refine lv_goto (tgt := 29) hx hb dX7_firstError_22 (by decide) ?_
    exact rw_ir hx hb hr rfl hlocks hS (pq (upd sc 3 0) p1 1) hP ⟨(by rw [he1]), rfl, rfl, rfl, rfl⟩ dX7_firstError_29

set_option maxHeartbeats 4000000 in
set_option maxRecDepth 100000 in
theorem m_X7_obey (l : Launch) (D : va_G) (cI cS : ClassId) (b : Nat → Nat) (s kp : St) (hf : Nat → St) (sc ad bf : Nat → Int32) (kn : Nat) (hkn : kn ≤ 6) (hk0 : sc 0 = nI kn) (ln : Nat) (hln : ln ≤ 60) (hl0 : sc 2 = nI ln) (T : Int) (hBd : Bd T s) (hT : T ≤ 400000000) (hcm : cmpB bf ln) (zz : Nat) : Met l yX7_obey (.code yX7_obey cX7_obey 3 (some .int) :: wsA) ({ frames := 5, cells := 0, slots := 0, locals := 121 } : Room) (va_Pc [.ref (b 0)] (PW D cI cS 6 b (emC cI b (mdl s kp hf sc ad bf)) zz)) (va_Qi (fun (r : Int32) (u : Nat → Int32) => r = (obF bf ln ln 0 s 0).2 ∧ u 0 = nI (svK kn) ∧ u 1 = sc 1 ∧ u 2 = 0 ∧ u 3 = 0) (BW D 6 b (fun u => emC cI b (mdl ((obF bf ln ln 0 s 0).1) kp (svH hf kn s) u ad bf))) (AX 6 b zz)) 0 0 (AX 6 b zz) := by
  refine mgo (by decide) (Nat.le_of_ble_eq_true rfl) ?_
  intro p e z m below meth c hx hb hr hml hown hts hlocks hB ls hl
  obtain ⟨hsz, hP, hK, hE⟩ := hB
  subst hsz
  have hS : va_S (AX 6 b z.heap.size) z.heap z.heap [] := va_S.rf
  have hl : lv_has ls 3 [(0, .ref (b 0))] := hl
  refine lv_aload_n hx hb dX7_obey_0 rfl (lv_at hl 0 rfl) ?_
  refine lv_iconst (v := 0) hx hb dX7_obey_1 (by decide) ?_
  refine g_put hx hb hts hown inA7 tyX7 tyX7_ok nmX7 hK hP hE hS 0 (by decide) rfl rfl 8 (by decide) tw768 rfl rfl (ty := .int) (by decide +kernel) rfl rfl (Nat.le_of_ble_eq_true rfl) dX7_obey_2 (ex' := emC cI b (mdl s kp hf (upd sc 3 0) ad bf)) rfl mm_sc (fun H locs hP hS => ?_)
  refine lv_aload_n hx hb dX7_obey_5 rfl (lv_at hl 0 rfl) ?_
  refine lv_iconst (v := 0) hx hb dX7_obey_6 (by decide) ?_
  refine rw_i hS (va_runV (As := [.int 0]) (rest := []) ⟨hx, hb, hml, hown, hts⟩ (m_X7_go0 l D cI cS b s kp hf (upd sc 3 0) ad bf ln (by omega) hl0 _) (cwV 1 hts (gV tw910 tw907 tw909 ts36 tw8) rfl rfl rfl (by decide +kernel) ⟨Nat.le_of_ble_eq_true rfl, Nat.le_of_ble_eq_true rfl⟩) (pvW 0 hK hP hE (by decide) rfl rfl) rfl rfl hl.1 rfl (lv_room (Nat.le_of_ble_eq_true rfl)) dX7_obey_7 ⟨Nat.le_of_ble_eq_true rfl, Nat.le_of_ble_eq_true rfl⟩) (fun r9 u2 H locs hr1 hP hS => ?_)
  obtain ⟨p1, w1⟩ := u2; rcases hr1 with ⟨hw1, hc1, he1⟩ | ⟨hw1, hc1, he1⟩
  · skip
    have hw1 : w1 = 0 := hw1
    subst hw1
    have hP : HP D 6 b (emC cI b (mdl s kp hf (pq (upd sc 3 0) p1 0) ad bf)) H := hP
    refine lv_istore_n (lv' := [(1, .int r9), (0, .ref (b 0))]) hx hb dX7_obey_10 rfl hl (by decide) rfl (fun ls hl => ?_)
    refine lv_aload_n hx hb dX7_obey_11 rfl (lv_at hl 1 rfl) ?_
    refine g_get hx hb hts hown inA7 hK hP 0 (by decide) rfl rfl 10 (by decide) tw770 rfl (v := .int 0) rfl dX7_obey_12 ?_
    refine lv_if_eq (tgt := 24) hx hb dX7_obey_15 (by decide) (fun _ => ?_) (fun h0 => absurd (by decide) h0)
    refine lv_aload_n hx hb dX7_obey_24 rfl (lv_at hl 1 rfl) ?_
    refine rw_v hS (va_runV (As := []) (rest := []) ⟨hx, hb, hml, hown, hts⟩ (m_X7_save l D cI cS b (mdl s kp hf (pq (upd sc 3 0) p1 0) ad bf) kn (by omega) hk0 _) (cwV 0 hts (gV tw812 tw809 tw811 ts23 tw8) rfl rfl rfl (by decide +kernel) ⟨Nat.le_of_ble_eq_true rfl, Nat.le_of_ble_eq_true rfl⟩) (pvW 0 hK hP hE (by decide) rfl rfl) rfl rfl hl.1 rfl (lv_room (Nat.le_of_ble_eq_true rfl)) dX7_obey_25 ⟨Nat.le_of_ble_eq_true rfl, Nat.le_of_ble_eq_true rfl⟩) (fun u5 H locs hr3 hP hS => ?_)
    have hP : HP D 6 b (emC cI b (mdl s kp (svH hf kn s) (upd (pq (upd sc 3 0) p1 0) 0 (nI (svK kn))) ad bf)) H := svM_cv (by omega) hP
    refine lv_aload_n hx hb dX7_obey_28 rfl (lv_at hl 1 rfl) ?_
    refine lv_iconst (v := 1) hx hb dX7_obey_29 (by decide) ?_
    refine rw_i hS (va_runV (As := [.int 1]) (rest := []) ⟨hx, hb, hml, hown, hts⟩ (m_X7_go1 l D cI cS b s kp (svH hf kn s) (upd (pq (upd sc 3 0) p1 0) 0 (nI (svK kn))) ad bf ln (by omega) hl0 T hBd (by omega) hcm _) (cwV 1 hts (gV tw910 tw907 tw909 ts36 tw8) rfl rfl rfl (by decide +kernel) ⟨Nat.le_of_ble_eq_true rfl, Nat.le_of_ble_eq_true rfl⟩) (pvW 0 hK hP hE (by decide) rfl rfl) rfl rfl hl.1 rfl (lv_room (Nat.le_of_ble_eq_true rfl)) dX7_obey_30 ⟨Nat.le_of_ble_eq_true rfl, Nat.le_of_ble_eq_true rfl⟩) (fun r7 u8 H locs hr6 hP hS => ?_)
    subst hr6
    obtain ⟨p2, w2⟩ := u8
    have hP : HP D 6 b (emC cI b (mdl ((obF bf ln ln 0 s 0).1) kp (svH hf kn s) (pq (upd (pq (upd sc 3 0) p1 0) 0 (nI (svK kn))) p2 w2) ad bf)) H := hP
    refine lv_istore_n (lv' := [(2, .int ((obF bf ln ln 0 s 0).2)), (1, .int r9), (0, .ref (b 0))]) hx hb dX7_obey_33 rfl hl (by decide) rfl (fun ls hl => ?_)
    refine lv_aload_n hx hb dX7_obey_34 rfl (lv_at hl 2 rfl) ?_
    refine lv_iconst (v := 0) hx hb dX7_obey_35 (by decide) ?_
    refine g_put hx hb hts hown inA7 tyX7 tyX7_ok nmX7 hK hP hE hS 0 (by decide) rfl rfl 7 (by decide) tw767 rfl rfl (ty := .int) (by decide +kernel) rfl rfl (Nat.le_of_ble_eq_true rfl) dX7_obey_36 (ex' := emC cI b (mdl ((obF bf ln ln 0 s 0).1) kp (svH hf kn s) (upd (pq (upd (pq (upd sc 3 0) p1 0) 0 (nI (svK kn))) p2 w2) 2 0) ad bf)) rfl mm_sc (fun H locs hP hS => ?_)
    refine lv_iload_n hx hb dX7_obey_39 rfl (lv_at hl 0 rfl) ?_
    exact rw_ir hx hb hr rfl hlocks hS (upd (pq (upd (pq (upd sc 3 0) p1 0) 0 (nI (svK kn))) p2 w2) 2 0) hP ⟨rfl, rfl, rfl, rfl, rfl⟩ dX7_obey_40
  · skip
    exact absurd hcm hc1

set_option maxHeartbeats 4000000 in
set_option maxRecDepth 100000 in
theorem mx_X7_obey (l : Launch) (D : va_G) (cI cS : ClassId) (b : Nat → Nat) (s kp : St) (hf : Nat → St) (sc ad bf : Nat → Int32) (kn : Nat) (hk0 : sc 0 = nI kn) (ln : Nat) (hln : ln ≤ 60) (hl0 : sc 2 = nI ln) (hcm : ¬ cmpB bf ln) (zz : Nat) : Met l yX7_obey (.code yX7_obey cX7_obey 3 (some .int) :: wsA) ({ frames := 4, cells := 0, slots := 0, locals := 95 } : Room) (va_Pc [.ref (b 0)] (PW D cI cS 6 b (emC cI b (mdl s kp hf sc ad bf)) zz)) (va_Qi (fun (r : Int32) (u : Nat → Int32) => r = 0 ∧ u 0 = sc 0 ∧ u 1 = sc 1 ∧ u 2 = sc 2 ∧ u 3 = 1) (BW D 6 b (fun u => emC cI b (mdl s kp hf u ad bf))) (AX 6 b zz)) 0 0 (AX 6 b zz) := by
  refine mgo (by decide) (Nat.le_of_ble_eq_true rfl) ?_
  intro p e z m below meth c hx hb hr hml hown hts hlocks hB ls hl
  obtain ⟨hsz, hP, hK, hE⟩ := hB
  subst hsz
  have hS : va_S (AX 6 b z.heap.size) z.heap z.heap [] := va_S.rf
  have hl : lv_has ls 3 [(0, .ref (b 0))] := hl
  refine lv_aload_n hx hb dX7_obey_0 rfl (lv_at hl 0 rfl) ?_
  refine lv_iconst (v := 0) hx hb dX7_obey_1 (by decide) ?_
  refine g_put hx hb hts hown inA7 tyX7 tyX7_ok nmX7 hK hP hE hS 0 (by decide) rfl rfl 8 (by decide) tw768 rfl rfl (ty := .int) (by decide +kernel) rfl rfl (Nat.le_of_ble_eq_true rfl) dX7_obey_2 (ex' := emC cI b (mdl s kp hf (upd sc 3 0) ad bf)) rfl mm_sc (fun H locs hP hS => ?_)
  refine lv_aload_n hx hb dX7_obey_5 rfl (lv_at hl 0 rfl) ?_
  refine lv_iconst (v := 0) hx hb dX7_obey_6 (by decide) ?_
  refine rw_i hS (va_runV (As := [.int 0]) (rest := []) ⟨hx, hb, hml, hown, hts⟩ (m_X7_go0 l D cI cS b s kp hf (upd sc 3 0) ad bf ln (by omega) hl0 _) (cwV 1 hts (gV tw910 tw907 tw909 ts36 tw8) rfl rfl rfl (by decide +kernel) ⟨Nat.le_of_ble_eq_true rfl, Nat.le_of_ble_eq_true rfl⟩) (pvW 0 hK hP hE (by decide) rfl rfl) rfl rfl hl.1 rfl (lv_room (Nat.le_of_ble_eq_true rfl)) dX7_obey_7 ⟨Nat.le_of_ble_eq_true rfl, Nat.le_of_ble_eq_true rfl⟩) (fun r9 u2 H locs hr1 hP hS => ?_)
  obtain ⟨p1, w1⟩ := u2; rcases hr1 with ⟨hw1, hc1, he1⟩ | ⟨hw1, hc1, he1⟩
  · skip
    exact absurd hc1 hcm
  · skip
    have he1 : errF bf ln ln 0 0 = nI p1 := he1
    have hw1 : w1 = 1 := hw1
    subst hw1
    have hP : HP D 6 b (emC cI b (mdl s kp hf (pq (upd sc 3 0) p1 1) ad bf)) H := hP
    refine lv_istore_n (lv' := [(1, .int r9), (0, .ref (b 0))]) hx hb dX7_obey_10 rfl hl (by decide) rfl (fun ls hl => ?_)
    refine lv_aload_n hx hb dX7_obey_11 rfl (lv_at hl 1 rfl) ?_
    refine g_get hx hb hts hown inA7 hK hP 0 (by decide) rfl rfl 10 (by decide) tw770 rfl (v := .int 1) rfl dX7_obey_12 ?_
    refine lv_if_eq (tgt := 24) hx hb dX7_obey_15 (by decide) (fun h0 => absurd h0 (by decide)) (fun _ => ?_)
    refine lv_aload_n hx hb dX7_obey_18 rfl (lv_at hl 1 rfl) ?_
    refine lv_iconst (v := 1) hx hb dX7_obey_19 (by decide) ?_
    refine rw_i hS (va_runV (As := [.int 1]) (rest := []) ⟨hx, hb, hml, hown, hts⟩ (m_X7_throwing l D cI cS b s kp hf (pq (upd sc 3 0) p1 1) ad bf 1 _) (cwV 1 hts (gV tw808 tw805 tw807 ts22 tw8) rfl rfl rfl (by decide +kernel) ⟨Nat.le_of_ble_eq_true rfl, Nat.le_of_ble_eq_true rfl⟩) (pvW 0 hK hP hE (by decide) rfl rfl) rfl rfl hl.1 rfl (lv_room (Nat.le_of_ble_eq_true rfl)) dX7_obey_20 ⟨Nat.le_of_ble_eq_true rfl, Nat.le_of_ble_eq_true rfl⟩) (fun r4 u5 H locs hr3 hP hS => ?_)
    subst hr3
    exact rw_ir hx hb hr rfl hlocks hS (upd (pq (upd sc 3 0) p1 1) 3 1) hP ⟨rfl, rfl, rfl, rfl, rfl⟩ dX7_obey_23
