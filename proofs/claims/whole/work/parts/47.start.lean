set_option maxHeartbeats 4000000 in
set_option maxRecDepth 100000 in
/-- YOUR PART: from the entry, for every script of at most 2048 ints, the law comes to its end with true ('hflags': the launch's flags, for a law that throws: no stack traces) -/
theorem whole_start {p : Program} {e : Env} {s : State} {m : MethodId} {below : List Frame} {meth : Method} {c : Code} (l : Launch) (hflags : l.flags = flags0) {b L : Nat} {xs : Nat → Int32} (hL : L ≤ 2048) (C0 : lw_At p s m meth c b L xs) : W p l e room_1 s m #[Value.ref b] below meth c s.heap [] 0 0 (lw_Z below #[Value.ref b] s) (entryFrame m ([Value.ref b] : List Value).toArray 9) := by
  obtain ⟨hx, hb, hr, hml, hown, hts, hX, hbl, hlocks, hgv⟩ := id C0
  have hown : s.vm.findClass "DialWardensLaw" = some m.cls := hown
  have htsA : ∀ w ∈ wsA, w.before #[Value.ref b] s = true := fun w h => hts w (List.mem_filter.mp h).1
  obtain ⟨D, cI, cS, cL, hK, hKL, hAO⟩ := st_KX hts
  have hEV := st_EV hts hgv
  have hEH := st_EH hts hgv
  have hst := st_tr hflags
  have hend : ∀ (H1 : Heap) (locs1 : List Loc) (ls1 : Array Slot) (c1 s1 : Nat), c1 ≤ 622184 → s1 ≤ 7229551 → va_S (LA s.heap.size) s.heap H1 locs1 → W p l e room_1 s m #[Value.ref b] below meth c H1 locs1 c1 s1 (lw_Z below #[Value.ref b] s) (F0 m 1369 ls1 []) := by
    intro H1 locs1 ls1 c1 s1 h1 h2 hS1
    refine va_forget (fun q hq => hS1.2.2 q hq) ?_
    refine W.widen (k := 622184) (n := 7229551) h1 h2 ?_
    refine lv_iconst (v := 1) hx hb dL_law_1369 (by decide) ?_
    exact W.base (lw_ret (d0 := s.drawn) (Drawn.sameBut.refl s.drawn lw_cs) hx hb hr hlocks dL_law_1370)
  have hA : ∀ q, s.heap.size ≤ q → LA s.heap.size q := fun _ h => h
  have hS : va_S (LA s.heap.size) s.heap s.heap [] := va_S.rf
  have hP : HP D 0 (fun _ => 0) (fun _ => .inr (0, [])) s.heap := fun k hk => absurd hk (Nat.not_lt_zero k)
  have hE : DX (LA s.heap.size) 0 (fun _ => 0) := ⟨fun i j hi _ _ => absurd hi (Nat.not_lt_zero i), fun k hk => absurd hk (Nat.not_lt_zero k)⟩
  have hl := lv_entry ([.ref b]) (n := 9) (Nat.le_of_ble_eq_true rfl)
  rw [lg_entry_eq]
  generalize (lg_sl ([.ref b]) ++ List.replicate (9 - (lg_sl ([.ref b])).length) Slot.unset).toArray = ls at hl ⊢
  have hl : lv_has ls 9 [(0, .ref b)] := hl
  refine g_mk (f := dC6 cI cS) (fs := [.null, .null, .int 0, .null, .null, .null]) (mm := 113) hx hb htsA hown inA6 tyX6 tyX6_ok tw15 tw16 tw1 hK hP hE hS hA rfl (fun j hj => by revert j; exact lv_lt6 rfl rfl rfl rfl rfl rfl) (Nat.le_of_ble_eq_true rfl) (Nat.le_of_ble_eq_true rfl) dL_law_0 dL_law_3 (by decide) (fun q9 H9 hq9 => va_runI (As := []) (rest := [.ref q9]) ⟨hx, hb, hml, hown, htsA⟩ (m_X6_init l D cI cS q9 _) (cwI 0 htsA (gA tw19) rfl rfl rfl (htsA _ tw1) (htsA _ tw17) (htsA _ tw18) rfl (by decide +kernel) ⟨(Nat.le_of_ble_eq_true rfl), (Nat.le_of_ble_eq_true rfl)⟩) (psI hK hAO hq9) rfl rfl hl.1 rfl (lv_room (Nat.le_of_ble_eq_true rfl)) dL_law_4 ⟨(Nat.le_of_ble_eq_true rfl), (Nat.le_of_ble_eq_true rfl)⟩) (fun u1 H locs hP hE hS => ?_)
  rw [apA_0, apE_0] at hP
  rw [apA_0] at hE
  have hP : HP D 113 u1 (dC6 cI cS u1) H := hP
  have hE : DX (LA s.heap.size) 113 u1 := hE
  refine lv_astore_n (lv' := [(1, .ref (u1 0)), (0, .ref b)]) hx hb dL_law_7 rfl hl (by decide) rfl (fun ls hl => ?_)
  refine g_mk (f := fun u => emC cI u (mdl s0 (fun _ => z0) (fun _ _ => z0) z0 z0 z0)) (fs := [.null, .null, .null, .int 0, .null, .int 0, .null, .int 0, .int 0, .int 0, .int 0]) (mm := 6) hx hb htsA hown inA7 tyX7 tyX7_ok tw754 tw755 tw8 hK hP hE hS hA rfl (fun j hj => by revert j; exact lv_lt11 rfl rfl rfl rfl rfl rfl rfl rfl rfl rfl rfl) (Nat.le_of_ble_eq_true rfl) (Nat.le_of_ble_eq_true rfl) dL_law_8 dL_law_11 (by decide) (fun q9 H9 hq9 => va_runI (As := []) (rest := [.ref q9]) ⟨hx, hb, hml, hown, htsA⟩ (m_X7_init l D cI cS q9 _) (cwI 0 htsA (gA tw758) rfl rfl rfl (htsA _ tw8) (htsA _ tw756) (htsA _ tw757) rfl (by decide +kernel) ⟨(Nat.le_of_ble_eq_true rfl), (Nat.le_of_ble_eq_true rfl)⟩) (psI hK hAO hq9) rfl rfl hl.1 rfl (lv_room (Nat.le_of_ble_eq_true rfl)) dL_law_12 ⟨(Nat.le_of_ble_eq_true rfl), (Nat.le_of_ble_eq_true rfl)⟩) (fun u2 H locs hP hE hS => ?_)
  have hP : HP D 119 (apA u1 113 u2) (apE (dC6 cI cS u1) 113 (emC cI u2 (mdl s0 (fun _ => z0) (fun _ _ => z0) z0 z0 z0))) H := hP
  have hE : DX (LA s.heap.size) 119 (apA u1 113 u2) := hE
  refine lv_astore_n (lv' := [(2, .ref (u2 0)), (1, .ref (u1 0)), (0, .ref b)]) hx hb dL_law_15 rfl hl (by decide) rfl (fun ls hl => ?_)
  refine lv_iconst (v := 1) hx hb dL_law_16 (by decide) ?_
  refine g_newaL hx hb htsA hKL hP hE hS hA (v := 1) (len := 1) (by decide) (by decide) (by decide) (Nat.le_of_ble_eq_true rfl) (Nat.le_of_ble_eq_true rfl) dL_law_17 (fun q H hP hE hS => ?_)
  have hW := st_W hP
  have hLC := st_LC hE
  refine lv_astore_n (lv' := [(3, .ref q), (2, .ref (u2 0)), (1, .ref (u1 0)), (0, .ref b)]) hx hb dL_law_19 rfl hl (by decide) rfl (fun ls hl => ?_)
  refine lv_iconst (v := 0) hx hb dL_law_20 (by decide) ?_
  refine lv_istore (lv' := [(4, .int 0), (3, .ref q), (2, .ref (u2 0)), (1, .ref (u1 0)), (0, .ref b)]) hx hb dL_law_21 hl (by decide) rfl (fun ls hl => ?_)
  have e2 : va_up (fun j => u1 (pmN j)) 113 q 112 = u1 0 := by
    rw [va_up_ne _ _ (by decide)]
    show u1 (pmN 112) = u1 0
    rw [show pmN 112 = 0 by decide]
  have e3 : va_up (fun j => u1 (pmN j)) 113 q 113 = q := va_up_self _ _ _
  have hl : lv_has ls 9 [(0, .ref b), (1, .ref (va_up (fun j => u1 (pmN j)) 113 q 112)), (2, .ref (u2 0)), (3, .ref (va_up (fun j => u1 (pmN j)) 113 q 113)), (4, .int (nI (4 * 0)))] := by
    rw [e2, e3, show nI (4 * 0) = 0 from nI_0]
    exact lv_sub hl [4, 3, 2, 1, 0] rfl
  have hC : LF p l s m meth c D cI cS cL (va_up (fun j => u1 (pmN j)) 113 q) u2 b L xs := ⟨hx, hb, hml, hown, htsA, hK, hKL, hEV, hEH, hX, hbl, hL, hLC, hst⟩
  exact law_loop hC hend 513 0 _ _ H locs ls (by decide) (by decide) (by decide) (by decide) (hW.mono (by decide)) hS hl
-- ===== YOUR PART ENDS =====
