set_option maxHeartbeats 4000000 in
set_option maxRecDepth 100000 in
/-- YOUR PART: from the entry, for every script of at most 260 ints, the law comes to its end with true ('hflags': the launch's flags, for a law that throws: no stack traces) -/
theorem whole_start {p : Program} {e : Env} {s : State} {m : MethodId} {below : List Frame} {meth : Method} {c : Code} (l : Launch) (hflags : l.flags = flags0) {b L : Nat} {xs : Nat → Int32} (hL : L ≤ 260) (C0 : lw_At p s m meth c b L xs) : W p l e room_1 s m #[Value.ref b] below meth c s.heap [] 0 0 (lw_Z below #[Value.ref b] s) (entryFrame m ([Value.ref b] : List Value).toArray 6) := by
  obtain ⟨hx, hb, hr, hml, hown, hts9, hX, hbl, hlocks, hgv⟩ := id C0
  have hown : s.vm.findClass "DialWardensLaw" = some m.cls := hown
  have hts : ∀ w ∈ wsA, w.before #[Value.ref b] s = true := fun w h => hts9 w (List.mem_filter.mp h).1
  obtain ⟨D, cI, cS, hK, hAO⟩ := st_KX hts9
  have hend : ∀ (H1 : Heap) (locs1 : List Loc) (ls1 : Array Slot), va_S (LA s.heap.size) s.heap H1 locs1 → W p l e room_1 s m #[Value.ref b] below meth c H1 locs1 619590 7242698 (lw_Z below #[Value.ref b] s) (F0 m 136 ls1 []) := by
    intro H1 locs1 ls1 hS1
    refine va_forget (fun q hq => hS1.2.2 q hq) ?_
    refine lv_iconst (v := 1) hx hb dL_law_136 (by decide) ?_
    exact W.base (lw_ret (d0 := s.drawn) (Drawn.sameBut.refl s.drawn lw_cs) hx hb hr hlocks dL_law_137)
  have hA : ∀ q, s.heap.size ≤ q → LA s.heap.size q := fun _ h => h
  have hS : va_S (LA s.heap.size) s.heap s.heap [] := va_S.rf
  have hP : HP D 0 (fun _ => 0) (fun _ => .inr (0, [])) s.heap := fun k hk => absurd hk (Nat.not_lt_zero k)
  have hE : DX (LA s.heap.size) 0 (fun _ => 0) := ⟨fun i j hi _ _ => absurd hi (Nat.not_lt_zero i), fun k hk => absurd hk (Nat.not_lt_zero k)⟩
  have hl := lv_entry ([.ref b]) (n := 6) (Nat.le_of_ble_eq_true rfl)
  rw [lg_entry_eq]
  generalize (lg_sl ([.ref b]) ++ List.replicate (6 - (lg_sl ([.ref b])).length) Slot.unset).toArray = ls at hl ⊢
  have hl : lv_has ls 6 [(0, .ref b)] := hl
  refine g_mk (f := dC6 cI cS) (fs := [.null, .null, .int 0, .null, .null, .null]) (mm := 113) hx hb hts hown inA6 tyX6 tyX6_ok tw14 tw15 tw1 hK hP hE hS hA rfl (fun j hj => by revert j; exact lv_lt6 rfl rfl rfl rfl rfl rfl) (Nat.le_of_ble_eq_true rfl) (Nat.le_of_ble_eq_true rfl) dL_law_0 dL_law_3 (by decide) (fun q9 H9 hq9 => va_runI (As := []) (rest := [.ref q9]) ⟨hx, hb, hml, hown, hts⟩ (m_X6_init l D cI cS q9 _) (cwI 0 hts (gA tw18) rfl rfl rfl (hts _ tw1) (hts _ tw16) (hts _ tw17) rfl (by decide +kernel) ⟨(Nat.le_of_ble_eq_true rfl), (Nat.le_of_ble_eq_true rfl)⟩) (psI hK hAO hq9) rfl rfl hl.1 rfl (lv_room (Nat.le_of_ble_eq_true rfl)) dL_law_4 ⟨(Nat.le_of_ble_eq_true rfl), (Nat.le_of_ble_eq_true rfl)⟩) (fun u1 H locs hP hE hS => ?_)
  rw [apA_0, apE_0] at hP
  rw [apA_0] at hE
  refine W.widen (k := 619590) (n := 7242698) (Nat.le_of_ble_eq_true rfl) (Nat.le_of_ble_eq_true rfl) ?_
  have hP : HP D 113 (fun j => u1 (pmN j)) (exU cI cS (fun j => u1 (pmN j)) (s0, fun _ => s0, fun k => k, fun _ => z0, fun _ => z0)) H := st_x2 hP
  have hL1 : ∀ i, i < 113 → s.heap.size ≤ u1 (pmN i) := fun i hi => hE.2 _ (pm_ok i hi).2
  have hE : DI 113 (fun j => u1 (pmN j)) := st_DI hE
  refine lv_astore_n (lv' := [(1, .ref (u1 0)), (0, .ref b)]) hx hb dL_law_7 rfl hl (by decide) rfl (fun ls hl => ?_)
  refine lv_iconst (v := 0) hx hb dL_law_8 (by decide) ?_
  refine lv_istore_n (lv' := [(2, .int 0), (1, .ref (u1 0)), (0, .ref b)]) hx hb dL_law_9 rfl hl (by decide) rfl (fun ls hl => ?_)
  refine lv_iconst (v := 0) hx hb dL_law_10 (by decide) ?_
  refine lv_istore_n (lv' := [(3, .int 0), (2, .int 0), (1, .ref (u1 0)), (0, .ref b)]) hx hb dL_law_11 rfl hl (by decide) rfl (fun ls hl => ?_)
  have ea : u1 (pmN 112) = u1 0 := by rw [show pmN 112 = 0 by decide]
  have hok : OKG (1000 * ((0 : Nat) : Int)) (s0, fun _ => s0, fun k => k, fun _ => z0, fun _ => z0) s0 := st_OK
  have hl : lv_has ls 6 [(3, .int 0), (2, .int 0), (1, .ref (u1 (pmN 112))), (0, .ref b)] := by rw [ea]; exact hl
  generalize hu0 : ((s0, fun _ => s0, fun k => k, fun _ => z0, fun _ => z0) : WT) = u0 at hP hok
  generalize ha9 : (fun j => u1 (pmN j)) = a at hP hE
  have hL1 : ∀ i, i < 113 → s.heap.size ≤ a i := by rw [← ha9]; exact hL1
  have hl : lv_has ls 6 [(3, .int 0), (2, .int 0), (1, .ref (a 112)), (0, .ref b)] := by rw [← ha9]; exact hl
  have loop12 : ∀ (fu : Nat) (j : Nat) (u : WT) (sv : St), 48 + 1 ≤ j + fu → (j ≤ 48) → (OKG (1000 * (j : Int)) u sv) → ∀ (H : Heap) (locs : List Loc), HP D 113 a (exU cI cS a u) H → va_S (LA s.heap.size) s.heap H locs → ∀ ls : Array Slot, lv_has ls 6 [(0, .ref b), (1, .ref (a 112)), (2, .int (sv 0 1)), (3, .int (nI j))] → W p l e room_1 s m #[Value.ref b] below meth c H locs 619590 7242698 (lw_Z below #[Value.ref b] s) (F0 m 12 ls []) := by
    intro fu
    induction fu with
    | zero => intro j u sv hn hj hok; exact absurd hn (by omega)
    | succ fu ih12 =>
      intro j u sv hn hj hok H locs hP hS ls hl
      refine lv_iload_n hx hb dL_law_12 rfl (lv_at hl 3 rfl) ?_
      refine lv_bipush (v := 48) hx hb dL_law_13 (by decide) ?_
      refine lv_icmp_ge (tgt := 136) hx hb dL_law_15 (by decide) (fun c1 => ?_) (fun c1 => ?_)
      · skip
        have c1x := Int32.not_lt.mpr c1
        have c1n := (nI_le2 (p := 48) (q := j) rfl rfl (by omega) (by omega)).mp c1
        have c1n : 48 ≤ j := c1n
        exact hend H locs ls hS
      · skip
        have c1x := Int32.not_le.mp c1
        have c1n := fun hq0 => c1 ((nI_le2 (p := 48) (q := j) rfl rfl (by omega) (by omega)).mpr hq0)
        have c1n : ¬ (48 ≤ j) := c1n
        refine lv_aload_n hx hb dL_law_18 rfl (lv_at hl 0 rfl) ?_
        refine lv_iload_n hx hb dL_law_19 rfl (lv_at hl 3 rfl) ?_
        refine ro_i (va_runS (As := [.ref b, .int (nI j)]) (rest := []) ⟨hx, hb, hml, hown, hts⟩ (m_L_cell l b L xs hL j (by omega)) (va_cwS 2 hts (gS tw336 tw334 tw335 tw0) rfl rfl rfl (by decide +kernel) ⟨Nat.le_of_ble_eq_true rfl, Nat.le_of_ble_eq_true rfl⟩) (ps_X hX hbl hS) rfl rfl hl.1 rfl (lv_room (Nat.le_of_ble_eq_true rfl)) dL_law_20 ⟨Nat.le_of_ble_eq_true rfl, Nat.le_of_ble_eq_true rfl⟩) (fun r3 hr2 => ?_)
        refine lv_istore (lv' := [(4, .int r3), (0, .ref b), (1, .ref (a 112)), (2, .int (sv 0 1)), (3, .int (nI j))]) hx hb dL_law_23 hl (by decide) rfl (fun ls hl => ?_)
        refine lv_iload hx hb dL_law_25 (lv_at hl 0 rfl) ?_
        refine lv_bipush (v := 15) hx hb dL_law_27 (by decide) ?_
        refine lv_iand hx hb dL_law_29 ?_
        obtain ⟨q, hq9, hqv, hqd⟩ := and15 (r3)
        refine lv_as (y := nI q) hqv ?_
        refine lv_bipush (v := 13) hx hb dL_law_30 (by decide) ?_
        have cut40 : ∀ (H : Heap) (locs : List Loc), HP D 113 a (exU cI cS a u) H → va_S (LA s.heap.size) s.heap H locs → ∀ ls : Array Slot, lv_has ls 6 [(4, .int r3), (0, .ref b), (1, .ref (a 112)), (2, .int (sv 0 1)), (3, .int (nI j))] → W p l e room_1 s m #[Value.ref b] below meth c H locs 619590 7242698 (lw_Z below #[Value.ref b] s) (F0 m 40 ls [.int (if 13 < q then 1 else 0)]) := by
          intro H locs hP hS ls hl
          refine lv_istore (lv' := [(5, .int (if 13 < q then 1 else 0)), (4, .int r3), (0, .ref b), (1, .ref (a 112)), (2, .int (sv 0 1)), (3, .int (nI j))]) hx hb dL_law_40 hl (by decide) rfl (fun ls hl => ?_)
          refine lv_aload_n hx hb dL_law_42 rfl (lv_at hl 3 rfl) ?_
          refine lv_iload hx hb dL_law_43 (lv_at hl 1 rfl) ?_
          refine lw_i hL1 hS (va_runS (As := [.ref (a 112), .int r3]) (rest := []) ⟨hx, hb, hml, hown, hts⟩ (m_L_does l D cI cS a u sv (1000 * (j : Int)) (by omega) hok r3 _) (va_cwS 2 hts (gS tw343 tw341 tw342 tw0) rfl rfl rfl (by decide +kernel) ⟨Nat.le_of_ble_eq_true rfl, Nat.le_of_ble_eq_true rfl⟩) (psW hK hP hE) rfl rfl hl.1 rfl (lv_room (Nat.le_of_ble_eq_true rfl)) dL_law_45 ⟨Nat.le_of_ble_eq_true rfl, Nat.le_of_ble_eq_true rfl⟩) (fun r6 u7 H locs hr5 hP hS => ?_)
          obtain ⟨hr9, s1, sz1, hf1, hk1, hG1, hH1, hmo⟩ := hr5
          have hok : OKG (1000 * (j : Int) + 1000) u7 s1 := ⟨sz1, hf1, hk1, hG1, hH1⟩
          refine lv_if_lt (tgt := 122) hx hb dL_law_48 (by decide) (fun h0 => absurd h0 (fun q9 => by rw [i_lt, i_0] at q9; omega)) (fun _ => ?_)
          have cut65 : ∀ (u : WT), (OKG (1000 * (j : Int) + 1000) u s1) → ∀ (H : Heap) (locs : List Loc), HP D 113 a (exU cI cS a u) H → va_S (LA s.heap.size) s.heap H locs → ∀ ls : Array Slot, lv_has ls 6 [(0, .ref b), (1, .ref (a 112)), (3, .int (nI j)), (4, .int r3)] → W p l e room_1 s m #[Value.ref b] below meth c H locs 619590 7242698 (lw_Z below #[Value.ref b] s) (F0 m 65 ls []) := by
            intro u hok H locs hP hS ls hl
            refine lv_aload_n hx hb dL_law_65 rfl (lv_at hl 1 rfl) ?_
            refine lw_i hL1 hS (va_runS (As := [.ref (a 112)]) (rest := []) ⟨hx, hb, hml, hown, hts⟩ (m_L_areDialsSo l D cI cS a u s1 (1000 * (j : Int) + 1000) (by omega) hok _) (va_cwS 1 hts (gS tw518 tw516 tw517 tw0) rfl rfl rfl (by decide +kernel) ⟨Nat.le_of_ble_eq_true rfl, Nat.le_of_ble_eq_true rfl⟩) (psW hK hP hE) rfl rfl hl.1 rfl (lv_room (Nat.le_of_ble_eq_true rfl)) dL_law_66 ⟨Nat.le_of_ble_eq_true rfl, Nat.le_of_ble_eq_true rfl⟩) (fun r9 u10 H locs hr8 hP hS => ?_)
            obtain ⟨hr9, hok⟩ := hr8
            subst hr9
            refine lv_if_eq (tgt := 122) hx hb dL_law_69 (by decide) (fun h0 => absurd h0 (by decide)) (fun _ => ?_)
            refine lv_aload_n hx hb dL_law_72 rfl (lv_at hl 1 rfl) ?_
            refine lw_i hL1 hS (va_runS (As := [.ref (a 112)]) (rest := []) ⟨hx, hb, hml, hown, hts⟩ (m_L_areMiddlesSo l D cI cS a u10 s1 (1000 * (j : Int) + 1000) (by omega) hok _) (va_cwS 1 hts (gS tw582 tw580 tw581 tw0) rfl rfl rfl (by decide +kernel) ⟨Nat.le_of_ble_eq_true rfl, Nat.le_of_ble_eq_true rfl⟩) (psW hK hP hE) rfl rfl hl.1 rfl (lv_room (Nat.le_of_ble_eq_true rfl)) dL_law_73 ⟨Nat.le_of_ble_eq_true rfl, Nat.le_of_ble_eq_true rfl⟩) (fun r12 u13 H locs hr11 hP hS => ?_)
            obtain ⟨hr9, hok⟩ := hr11
            subst hr9
            refine lv_if_eq (tgt := 122) hx hb dL_law_76 (by decide) (fun h0 => absurd h0 (by decide)) (fun _ => ?_)
            refine lv_aload_n hx hb dL_law_79 rfl (lv_at hl 1 rfl) ?_
            refine lw_i hL1 hS (va_runS (As := [.ref (a 112)]) (rest := []) ⟨hx, hb, hml, hown, hts⟩ (m_L_isVoteSo l D cI cS a u13 s1 (1000 * (j : Int) + 1000) (by omega) hok _) (va_cwS 1 hts (gS tw600 tw598 tw599 tw0) rfl rfl rfl (by decide +kernel) ⟨Nat.le_of_ble_eq_true rfl, Nat.le_of_ble_eq_true rfl⟩) (psW hK hP hE) rfl rfl hl.1 rfl (lv_room (Nat.le_of_ble_eq_true rfl)) dL_law_80 ⟨Nat.le_of_ble_eq_true rfl, Nat.le_of_ble_eq_true rfl⟩) (fun r15 u16 H locs hr14 hP hS => ?_)
            obtain ⟨hr9, hok⟩ := hr14
            subst hr9
            refine lv_if_eq (tgt := 122) hx hb dL_law_83 (by decide) (fun h0 => absurd h0 (by decide)) (fun _ => ?_)
            refine lv_iload_n hx hb dL_law_86 rfl (lv_at hl 2 rfl) ?_
            refine lv_iconst (v := 3) hx hb dL_law_87 (by decide) ?_
            refine lv_irem hx hb dL_law_88 (by decide) ?_
            refine lv_as (y := nI (j % 3)) (nI_rem2 (p := j) (q := 3) rfl rfl (by omega) (by omega) (by omega)) ?_
            have cut99 : ∀ (u : WT), (OKG (1000 * (j : Int) + 1000) u s1) → ∀ (H : Heap) (locs : List Loc), HP D 113 a (exU cI cS a u) H → va_S (LA s.heap.size) s.heap H locs → ∀ ls : Array Slot, lv_has ls 6 [(0, .ref b), (1, .ref (a 112)), (3, .int (nI j)), (4, .int r3)] → W p l e room_1 s m #[Value.ref b] below meth c H locs 619590 7242698 (lw_Z below #[Value.ref b] s) (F0 m 99 ls []) := by
              intro u hok H locs hP hS ls hl
              refine lv_iload_n hx hb dL_law_99 rfl (lv_at hl 2 rfl) ?_
              refine lv_iconst (v := 3) hx hb dL_law_100 (by decide) ?_
              refine lv_irem hx hb dL_law_101 (by decide) ?_
              refine lv_as (y := nI (j % 3)) (nI_rem2 (p := j) (q := 3) rfl rfl (by omega) (by omega) (by omega)) ?_
              refine lv_iconst (v := 1) hx hb dL_law_102 (by decide) ?_
              have cut124 : ∀ (u : WT), (OKG (1000 * (j : Int) + 1000) u s1) → ∀ (H : Heap) (locs : List Loc), HP D 113 a (exU cI cS a u) H → va_S (LA s.heap.size) s.heap H locs → ∀ ls : Array Slot, lv_has ls 6 [(0, .ref b), (1, .ref (a 112)), (3, .int (nI j))] → W p l e room_1 s m #[Value.ref b] below meth c H locs 619590 7242698 (lw_Z below #[Value.ref b] s) (F0 m 124 ls []) := by
                intro u hok H locs hP hS ls hl
                refine lv_aload_n hx hb dL_law_124 rfl (lv_at hl 1 rfl) ?_
                refine lv_iconst (v := 1) hx hb dL_law_125 (by decide) ?_
                obtain ⟨sz, hf, hok, hG, hH⟩ := hok
                refine lw_i hL1 hS (va_runV (As := [.int 1]) (rest := []) ⟨hx, hb, hml, hown, hts⟩ (a_X6_count l D cI cS a u s1 sz hf hok 1 (by omega) _) (cwV 1 hts (gV tw179 tw176 tw177 tw178 tw1) rfl rfl rfl (by decide +kernel) ⟨Nat.le_of_ble_eq_true rfl, Nat.le_of_ble_eq_true rfl⟩) (pvW 112 hK hP hE (by decide) xc112 rfl) rfl rfl hl.1 rfl (lv_room (Nat.le_of_ble_eq_true rfl)) dL_law_126 ⟨Nat.le_of_ble_eq_true rfl, Nat.le_of_ble_eq_true rfl⟩) (fun r18 u19 H locs hr17 hP hS => ?_)
                obtain ⟨hr9, hok⟩ := hr17
                subst hr9
                have hok : OKG (1000 * (j : Int) + 1000) u19 s1 := ⟨sz, hf, hok, hG, hH⟩
                refine lv_istore_n (lv' := [(2, .int (s1 0 1)), (0, .ref b), (1, .ref (a 112)), (3, .int (nI j))]) hx hb dL_law_129 rfl hl (by decide) rfl (fun ls hl => ?_)
                refine lv_iinc (v := nI (j + 1)) (lv' := [(3, .int (nI (j + 1))), (2, .int (s1 0 1)), (0, .ref b), (1, .ref (a 112))]) hx hb dL_law_130 hl (k := 3) rfl (nI_add j 1) (by decide) rfl (fun ls hl => ?_)
                refine lv_goto (tgt := 12) hx hb dL_law_133 (by decide) ?_
                exact ih12 (j + 1) u19 s1 (by omega) (by omega) (hok.cast (by omega)) _ _ hP hS ls (lv_sub hl [2, 3, 1, 0] rfl)
              refine lv_icmp_ne (tgt := 124) hx hb dL_law_103 (by decide) (fun c20 => ?_) (fun c20 => ?_)
              · skip
                have c20n := fun hq0 => c20 ((nI_eq2 (p := j % 3) (q := 1) rfl rfl (by omega) (by omega)).mpr hq0)
                have c20n : ¬ (j % 3 = 1) := c20n
                exact cut124 u hok _ _ hP hS ls (lv_sub hl [0, 1, 2] rfl)
              · skip
                have c20n := (nI_eq2 (p := j % 3) (q := 1) rfl rfl (by omega) (by omega)).mp c20
                have c20n : j % 3 = 1 := c20n
                refine lv_aload_n hx hb dL_law_106 rfl (lv_at hl 1 rfl) ?_
                refine lv_iload hx hb dL_law_107 (lv_at hl 3 rfl) ?_
                refine lv_iconst (v := 5) hx hb dL_law_109 (by decide) ?_
                refine lv_ishr hx hb dL_law_110 ?_
                refine lv_bipush (v := 7) hx hb dL_law_111 (by decide) ?_
                refine ro_i (va_runS (As := [.int (r3 >>> (5 &&& 31)), .int 7]) (rest := [.ref (a 112)]) ⟨hx, hb, hml, hown, hts⟩ (m_L_low l (r3 >>> (5 &&& 31)) 7 (by decide)) (va_cwS 2 hts (gS tw339 tw337 tw338 tw0) rfl rfl rfl (by decide +kernel) ⟨Nat.le_of_ble_eq_true rfl, Nat.le_of_ble_eq_true rfl⟩) ps0 rfl rfl hl.1 rfl (lv_room (Nat.le_of_ble_eq_true rfl)) dL_law_113 ⟨Nat.le_of_ble_eq_true rfl, Nat.le_of_ble_eq_true rfl⟩) (fun r22 hr21 => ?_)
                obtain ⟨k24, hk24, hr9⟩ := hr21
                subst hr9
                refine lw_i hL1 hS (va_runS (As := [.ref (a 112), .int (nI k24)]) (rest := []) ⟨hx, hb, hml, hown, hts⟩ (m_L_isLaterSo l D cI cS a u s1 (1000 * (j : Int) + 1000) (by omega) hok k24 (by omega) _) (va_cwS 2 hts (gS tw606 tw604 tw605 tw0) rfl rfl rfl (by decide +kernel) ⟨Nat.le_of_ble_eq_true rfl, Nat.le_of_ble_eq_true rfl⟩) (psW hK hP hE) rfl rfl hl.1 rfl (lv_room (Nat.le_of_ble_eq_true rfl)) dL_law_116 ⟨Nat.le_of_ble_eq_true rfl, Nat.le_of_ble_eq_true rfl⟩) (fun r26 u27 H locs hr25 hP hS => ?_)
                obtain ⟨hr9, hok⟩ := hr25
                subst hr9
                refine lv_if_ne (tgt := 124) hx hb dL_law_119 (by decide) (fun _ => ?_) (fun h0 => absurd h0 (by decide))
                exact cut124 u27 hok _ _ hP hS ls (lv_sub hl [0, 1, 2] rfl)
            refine lv_if_ne (tgt := 99) hx hb dL_law_89 (by decide) (fun c28 => ?_) (fun c28 => ?_)
            · skip
              have c28n := fun hq0 => c28 ((nI_eq2 (p := j % 3) (q := 0) rfl rfl (by omega) (by omega)).mpr hq0)
              have c28n : ¬ (j % 3 = 0) := c28n
              exact cut99 u16 hok _ _ hP hS ls (lv_sub hl [0, 1, 2, 3] rfl)
            · skip
              have c28n := (nI_eq2 (p := j % 3) (q := 0) rfl rfl (by omega) (by omega)).mp c28
              have c28n : j % 3 = 0 := c28n
              refine lv_aload_n hx hb dL_law_92 rfl (lv_at hl 1 rfl) ?_
              refine lw_i hL1 hS (va_runS (As := [.ref (a 112)]) (rest := []) ⟨hx, hb, hml, hown, hts⟩ (m_L_isCorrectSo l D cI cS a u16 s1 (1000 * (j : Int) + 1000) (by omega) hok _) (va_cwS 1 hts (gS tw603 tw601 tw602 tw0) rfl rfl rfl (by decide +kernel) ⟨Nat.le_of_ble_eq_true rfl, Nat.le_of_ble_eq_true rfl⟩) (psW hK hP hE) rfl rfl hl.1 rfl (lv_room (Nat.le_of_ble_eq_true rfl)) dL_law_93 ⟨Nat.le_of_ble_eq_true rfl, Nat.le_of_ble_eq_true rfl⟩) (fun r30 u31 H locs hr29 hP hS => ?_)
              obtain ⟨hr9, hok⟩ := hr29
              subst hr9
              refine lv_if_eq (tgt := 122) hx hb dL_law_96 (by decide) (fun h0 => absurd h0 (by decide)) (fun _ => ?_)
              exact cut99 u31 hok _ _ hP hS ls (lv_sub hl [0, 1, 2, 3] rfl)
          refine lv_iload hx hb dL_law_51 (lv_at hl 0 rfl) ?_
          refine lv_if_ne (tgt := 65) hx hb dL_law_53 (by decide) (fun c32 => ?_) (fun c32 => ?_)
          · skip
            exact cut65 u7 hok _ _ hP hS ls (lv_sub hl [2, 3, 5, 1] rfl)
          · skip
            have hq13 : dQ r3 ≤ 13 := Nat.not_lt.mp (fun h9 => by rw [if_pos (by omega)] at c32; exact absurd c32 (by decide))
            refine lv_aload_n hx hb dL_law_56 rfl (lv_at hl 3 rfl) ?_
            refine lv_iconst (v := 1) hx hb dL_law_57 (by decide) ?_
            obtain ⟨sz, hf, hok, hG, hH⟩ := hok
            refine lw_i hL1 hS (va_runV (As := [.int 1]) (rest := []) ⟨hx, hb, hml, hown, hts⟩ (a_X6_count l D cI cS a u7 s1 sz hf hok 1 (by omega) _) (cwV 1 hts (gV tw179 tw176 tw177 tw178 tw1) rfl rfl rfl (by decide +kernel) ⟨Nat.le_of_ble_eq_true rfl, Nat.le_of_ble_eq_true rfl⟩) (pvW 112 hK hP hE (by decide) xc112 rfl) rfl rfl hl.1 rfl (lv_room (Nat.le_of_ble_eq_true rfl)) dL_law_58 ⟨Nat.le_of_ble_eq_true rfl, Nat.le_of_ble_eq_true rfl⟩) (fun r34 u35 H locs hr33 hP hS => ?_)
            obtain ⟨hr9, hok⟩ := hr33
            subst hr9
            have hok : OKG (1000 * (j : Int) + 1000) u35 s1 := ⟨sz, hf, hok, hG, hH⟩
            refine lv_iload_n hx hb dL_law_61 rfl (lv_at hl 4 rfl) ?_
            refine lv_icmp_lt (tgt := 122) hx hb dL_law_62 (by decide) (fun h0 => absurd h0 (Int32.not_lt.mpr (i_le.mpr (hmo hq13)))) (fun _ => ?_)
            exact cut65 u35 hok _ _ hP hS ls (lv_sub hl [2, 3, 5, 1] rfl)
        refine lv_icmp_le (tgt := 39) hx hb dL_law_32 (by decide) (fun c36 => ?_) (fun c36 => ?_)
        · skip
          have c36x := Int32.not_lt.mpr c36
          have c36n := (nI_le2 (p := q) (q := 13) rfl rfl (by omega) (by omega)).mp c36
          have c36n : q ≤ 13 := c36n
          refine lv_iconst (v := 0) hx hb dL_law_39 (by decide) ?_
          refine lv_as (y := if 13 < q then 1 else 0) (if_neg (by omega)).symm ?_
          exact cut40 _ _ hP hS ls (lv_sub hl [0, 1, 2, 3, 4] rfl)
        · skip
          have c36x := Int32.not_le.mp c36
          have c36n := fun hq0 => c36 ((nI_le2 (p := q) (q := 13) rfl rfl (by omega) (by omega)).mpr hq0)
          have c36n : ¬ (q ≤ 13) := c36n
          refine lv_iconst (v := 1) hx hb dL_law_35 (by decide) ?_
          refine lv_goto (tgt := 40) hx hb dL_law_36 (by decide) ?_
          refine lv_as (y := if 13 < q then 1 else 0) (if_pos (by omega)).symm ?_
          exact cut40 _ _ hP hS ls (lv_sub hl [0, 1, 2, 3, 4] rfl)
  exact loop12 (48 + 1) 0 u0 s0 (by omega) (by omega) hok _ _ hP hS ls (lv_sub hl [3, 2, 1, 0] rfl)
-- ===== YOUR PART ENDS =====
