theorem sh_dOk {T : Int} {s : St} (h : Bd T s) : dOk (shareD s) := by
  unfold shareD
  split
  · exact Or.inl (by decide)
  · rename_i hz
    have h9 : (s 0 2).toInt ≠ 0 := fun q => hz (Int32.toInt_inj.mp (q.trans (by decide)))
    have h8 := (h.2.2.2 2 (by decide) (by decide)).1
    exact d_share (h.2.2.2 3 (by decide) (by decide)).1 (by omega)
set_option maxHeartbeats 4000000 in
set_option maxRecDepth 100000 in
theorem m_X7_digest (l : Launch) (D : va_G) (cI cS : ClassId) (b : Nat → Nat) (s kp : St) (hf : Nat → St) (sc ad bf : Nat → Int32) (T : Int) (hBd : Bd T s) (hT : T ≤ 100000000) (kn : Nat) (hkn : kn ≤ 6) (hk0 : sc 0 = nI kn) (ln : Nat) (hln : ln ≤ 60) (hl0 : sc 2 = nI ln) (zz : Nat) : Met l yX7_digest (.code yX7_digest cX7_digest 5 (some .long) :: wsA) ({ frames := 4, cells := 0, slots := 0, locals := 96 } : Room) (va_Pc [.ref (b 0)] (PW D cI cS 6 b (emC cI b (mdl s kp hf sc ad bf)) zz)) (va_Ql (fun (r : Int64) (u : Nat → Int32) => r = dgAll s kn (sc 1) bf ln) (BW D 6 b (fun u => emC cI b (mdl s kp hf (upd sc 3 0) u bf))) (AX 6 b zz)) 0 0 (AX 6 b zz) := by
  refine mgo (by decide) (Nat.le_of_ble_eq_true rfl) ?_
  intro p e z m below meth c hx hb hr hml hown hts hlocks hB ls hl
  obtain ⟨hsz, hP, hK, hE⟩ := hB
  subst hsz
  have hS : va_S (AX 6 b z.heap.size) z.heap z.heap [] := va_S.rf
  have hl : lv_has ls 5 [(0, .ref (b 0))] := hl
  have hdS : dOk (shareD s) := sh_dOk hBd
  have hfM : fOk (meanF s) := f_mean (errC_ok hBd (by omega) 7 (by omega)).1
  have hdM := f_f2d hfM
  refine lv_aload_n hx hb dX7_digest_0 rfl (lv_at hl 0 rfl) ?_
  refine lv_iconst (v := 0) hx hb dX7_digest_1 (by decide) ?_
  refine g_put hx hb hts hown inA7 tyX7 tyX7_ok nmX7 hK hP hE hS 0 (by decide) rfl rfl 8 (by decide) tw768 rfl rfl (ty := .int) (by decide +kernel) rfl rfl (Nat.le_of_ble_eq_true rfl) dX7_digest_2 (ex' := emC cI b (mdl s kp hf (upd sc 3 0) ad bf)) rfl mm_sc (fun H locs hP hS => ?_)
  refine lv_ldc2 hx hb hown (hts _ tw1052) dX7_digest_5 ?_
  refine lv_lstore_n (lv' := [(1, .long (3863 : Int64)), (0, .ref (b 0))]) hx hb dX7_digest_8 rfl hl (by decide) rfl (fun ls hl => ?_)
  refine lv_iconst (v := 0) hx hb dX7_digest_9 (by decide) ?_
  refine lv_istore_n (lv' := [(3, .int 0), (1, .long (3863 : Int64)), (0, .ref (b 0))]) hx hb dX7_digest_10 rfl hl (by decide) rfl (fun ls hl => ?_)
  have loop11 : ∀ (fu : Nat) (j : Nat) (g1 : Int64), 14 + 1 ≤ j + fu → (j ≤ 14) → (g1 = dgN (counN s kn) j 3863) → ∀ (H : Heap) (locs : List Loc), HP D 6 b (emC cI b (mdl s kp hf (upd sc 3 0) ad bf)) H → va_S (AX 6 b z.heap.size) z.heap H locs → ∀ ls : Array Slot, lv_has ls 5 [(0, .ref (b 0)), (1, .long g1), (3, .int (nI j))] → W p l e ({ frames := 4, cells := 0, slots := 0, locals := 96 } : Room) z m ([.ref (b 0)] : List Value).toArray below meth c H locs 0 0 (MQ below (va_Ql (fun (r : Int64) (u : Nat → Int32) => r = dgAll s kn (sc 1) bf ln) (BW D 6 b (fun u => emC cI b (mdl s kp hf (upd sc 3 0) u bf))) (AX 6 b z.heap.size)) ([.ref (b 0)] : List Value).toArray z 0 0 (AX 6 b z.heap.size)) (F0 m 11 ls []) := by
    intro fu
    induction fu with
    | zero => intro j g1 hn hj hg; exact absurd hn (by omega)
    | succ fu ih11 =>
      intro j g1 hn hj hg H locs hP hS ls hl
      refine lv_iload_n hx hb dX7_digest_11 rfl (lv_at hl 2 rfl) ?_
      refine lv_bipush (v := 14) hx hb dX7_digest_12 (by decide) ?_
      refine lv_icmp_ge (tgt := 36) hx hb dX7_digest_14 (by decide) (fun c1 => ?_) (fun c1 => ?_)
      · skip
        have c1x := Int32.not_lt.mpr c1
        have c1n := (nI_le2 (p := 14) (q := j) rfl rfl (by omega) (by omega)).mp c1
        have c1n : 14 ≤ j := c1n
        have hjq : 14 = j := by omega
        subst hjq
        refine lv_ldc2 hx hb hown (hts _ tw1053) dX7_digest_36 ?_
        refine lv_lload_n hx hb dX7_digest_39 rfl (lv_at hl 1 rfl) ?_
        refine lv_lmul hx hb dX7_digest_40 ?_
        refine lv_aload_n hx hb dX7_digest_41 rfl (lv_at hl 0 rfl) ?_
        refine g_get hx hb hts hown inA7 hK hP 0 (by decide) rfl rfl 0 (by decide) tw760 rfl (v := .ref (b 1)) rfl dX7_digest_42 ?_
        refine lv_iconst (v := 2) hx hb dX7_digest_45 (by decide) ?_
        refine g_iald hx hb hK hP 1 (by decide) rfl 2 rfl (by omega) (by decide) dX7_digest_46 (v := s 10 0) ((fl_g10 (s := s) (d := 0) (by omega)).trans rfl) ?_
        refine lv_i2l hx hb dX7_digest_47 rfl ?_
        refine lv_ladd hx hb dX7_digest_48 ?_
        refine lv_lstore_n (lv' := [(1, .long (((31 : Int64) * g1) + ((s 10 0).toInt64))), (0, .ref (b 0)), (3, .int (nI 14))]) hx hb dX7_digest_49 rfl hl (by decide) rfl (fun ls hl => ?_)
        refine lv_ldc2 hx hb hown (hts _ tw1053) dX7_digest_50 ?_
        refine lv_lload_n hx hb dX7_digest_53 rfl (lv_at hl 0 rfl) ?_
        refine lv_lmul hx hb dX7_digest_54 ?_
        refine lv_aload_n hx hb dX7_digest_55 rfl (lv_at hl 1 rfl) ?_
        refine g_get hx hb hts hown inA7 hK hP 0 (by decide) rfl rfl 0 (by decide) tw760 rfl (v := .ref (b 1)) rfl dX7_digest_56 ?_
        refine lv_iconst (v := 3) hx hb dX7_digest_59 (by decide) ?_
        refine g_iald hx hb hK hP 1 (by decide) rfl 3 rfl (by omega) (by decide) dX7_digest_60 (v := s 10 1) ((fl_g10 (s := s) (d := 1) (by omega)).trans rfl) ?_
        refine lv_i2l hx hb dX7_digest_61 rfl ?_
        refine lv_ladd hx hb dX7_digest_62 ?_
        refine lv_lstore_n (lv' := [(1, .long (((31 : Int64) * (((31 : Int64) * g1) + ((s 10 0).toInt64))) + ((s 10 1).toInt64))), (0, .ref (b 0)), (3, .int (nI 14))]) hx hb dX7_digest_63 rfl hl (by decide) rfl (fun ls hl => ?_)
        refine lv_iconst (v := 0) hx hb dX7_digest_64 (by decide) ?_
        refine lv_istore_n (lv' := [(3, .int 0), (1, .long (((31 : Int64) * (((31 : Int64) * g1) + ((s 10 0).toInt64))) + ((s 10 1).toInt64))), (0, .ref (b 0))]) hx hb dX7_digest_65 rfl hl (by decide) rfl (fun ls hl => ?_)
        have loop66 : ∀ (fu : Nat) (j : Nat) (g1 : Int64) (z9 : Nat → Int32), 7 + 1 ≤ j + fu → (j ≤ 7) → (g1 = dgDs s j (dgN (s 10) 2 (dgN (counN s kn) 14 3863))) → ∀ (H : Heap) (locs : List Loc), HP D 6 b (emC cI b (mdl s kp hf (upd sc 3 0) z9 bf)) H → va_S (AX 6 b z.heap.size) z.heap H locs → ∀ ls : Array Slot, lv_has ls 5 [(0, .ref (b 0)), (1, .long g1), (3, .int (nI j))] → W p l e ({ frames := 4, cells := 0, slots := 0, locals := 96 } : Room) z m ([.ref (b 0)] : List Value).toArray below meth c H locs 0 0 (MQ below (va_Ql (fun (r : Int64) (u : Nat → Int32) => r = dgAll s kn (sc 1) bf ln) (BW D 6 b (fun u => emC cI b (mdl s kp hf (upd sc 3 0) u bf))) (AX 6 b z.heap.size)) ([.ref (b 0)] : List Value).toArray z 0 0 (AX 6 b z.heap.size)) (F0 m 66 ls []) := by
          intro fu
          induction fu with
          | zero => intro j g1 z9 hn hj hg2; exact absurd hn (by omega)
          | succ fu ih66 =>
            intro j g1 z9 hn hj hg2 H locs hP hS ls hl
            refine lv_iload_n hx hb dX7_digest_66 rfl (lv_at hl 2 rfl) ?_
            refine lv_bipush (v := 7) hx hb dX7_digest_67 (by decide) ?_
            refine lv_icmp_ge (tgt := 135) hx hb dX7_digest_69 (by decide) (fun c2 => ?_) (fun c2 => ?_)
            · skip
              have c2x := Int32.not_lt.mpr c2
              have c2n := (nI_le2 (p := 7) (q := j) rfl rfl (by omega) (by omega)).mp c2
              have c2n : 7 ≤ j := c2n
              have hjq : 7 = j := by omega
              subst hjq
              refine lv_iconst (v := 0) hx hb dX7_digest_135 (by decide) ?_
              refine lv_istore_n (lv' := [(3, .int 0), (0, .ref (b 0)), (1, .long g1)]) hx hb dX7_digest_136 rfl hl (by decide) rfl (fun ls hl => ?_)
              have loop137 : ∀ (fu : Nat) (j : Nat) (g1 : Int64), 7 + 1 ≤ j + fu → (j ≤ 7) → (g1 = dgWs s j (dgDs s 7 (dgN (s 10) 2 (dgN (counN s kn) 14 3863)))) → ∀ (H : Heap) (locs : List Loc), HP D 6 b (emC cI b (mdl s kp hf (upd sc 3 0) z9 bf)) H → va_S (AX 6 b z.heap.size) z.heap H locs → ∀ ls : Array Slot, lv_has ls 5 [(0, .ref (b 0)), (1, .long g1), (3, .int (nI j))] → W p l e ({ frames := 4, cells := 0, slots := 0, locals := 96 } : Room) z m ([.ref (b 0)] : List Value).toArray below meth c H locs 0 0 (MQ below (va_Ql (fun (r : Int64) (u : Nat → Int32) => r = dgAll s kn (sc 1) bf ln) (BW D 6 b (fun u => emC cI b (mdl s kp hf (upd sc 3 0) u bf))) (AX 6 b z.heap.size)) ([.ref (b 0)] : List Value).toArray z 0 0 (AX 6 b z.heap.size)) (F0 m 137 ls []) := by
                intro fu
                induction fu with
                | zero => intro j g1 hn hj hg3; exact absurd hn (by omega)
                | succ fu ih137 =>
                  intro j g1 hn hj hg3 H locs hP hS ls hl
                  refine lv_iload_n hx hb dX7_digest_137 rfl (lv_at hl 2 rfl) ?_
                  refine lv_bipush (v := 7) hx hb dX7_digest_138 (by decide) ?_
                  refine lv_icmp_ge (tgt := 207) hx hb dX7_digest_140 (by decide) (fun c3 => ?_) (fun c3 => ?_)
                  · skip
                    have c3x := Int32.not_lt.mpr c3
                    have c3n := (nI_le2 (p := 7) (q := j) rfl rfl (by omega) (by omega)).mp c3
                    have c3n : 7 ≤ j := c3n
                    have hjq : 7 = j := by omega
                    subst hjq
                    refine lv_ldc2 hx hb hown (hts _ tw1053) dX7_digest_207 ?_
                    refine lv_lload_n hx hb dX7_digest_210 rfl (lv_at hl 1 rfl) ?_
                    refine lv_lmul hx hb dX7_digest_211 ?_
                    refine lv_aload_n hx hb dX7_digest_212 rfl (lv_at hl 0 rfl) ?_
                    refine rw_i hS (va_runV (As := []) (rest := [.long ((31 : Int64) * g1)]) ⟨hx, hb, hml, hown, hts⟩ (m_X7_matters l D cI cS b s kp hf (upd sc 3 0) z9 bf T hBd (by omega) _) (cwV 0 hts (gV tw998 tw995 tw997 ts48 tw8) rfl rfl rfl (by decide +kernel) ⟨Nat.le_of_ble_eq_true rfl, Nat.le_of_ble_eq_true rfl⟩) (pvW 0 hK hP hE (by decide) rfl rfl) rfl rfl hl.1 rfl (lv_room (Nat.le_of_ble_eq_true rfl)) dX7_digest_213 ⟨Nat.le_of_ble_eq_true rfl, Nat.le_of_ble_eq_true rfl⟩) (fun r5 u6 H locs hr4 hP hS => ?_)
                    subst hr4
                    refine lv_i2l hx hb dX7_digest_216 rfl ?_
                    refine lv_ladd hx hb dX7_digest_217 ?_
                    refine lv_lstore_n (lv' := [(1, .long (((31 : Int64) * g1) + ((pivI s).toInt64))), (0, .ref (b 0)), (3, .int (nI 7))]) hx hb dX7_digest_218 rfl hl (by decide) rfl (fun ls hl => ?_)
                    refine lv_ldc2 hx hb hown (hts _ tw1053) dX7_digest_219 ?_
                    refine lv_lload_n hx hb dX7_digest_222 rfl (lv_at hl 0 rfl) ?_
                    refine lv_lmul hx hb dX7_digest_223 ?_
                    refine lv_aload_n hx hb dX7_digest_224 rfl (lv_at hl 1 rfl) ?_
                    refine ro_d (va_runV (As := []) (rest := [.long ((31 : Int64) * (((31 : Int64) * g1) + ((pivI s).toInt64)))]) ⟨hx, hb, hml, hown, hts⟩ (m_X7_share l D cI cS b s kp hf (upd sc 3 0) z9 bf T hBd (by omega)) (cwV 0 hts (gV tw1038 tw1035 tw1037 ts54 tw8) rfl rfl rfl (by decide +kernel) ⟨Nat.le_of_ble_eq_true rfl, Nat.le_of_ble_eq_true rfl⟩) (pvR 0 hK hP (by decide) rfl rfl) rfl rfl hl.1 rfl (lv_room (Nat.le_of_ble_eq_true rfl)) dX7_digest_225 ⟨Nat.le_of_ble_eq_true rfl, Nat.le_of_ble_eq_true rfl⟩) (fun r8 hr7 => ?_)
                    subst hr7
                    refine lv_sipush (v := 1023) hx hb dX7_digest_228 (by decide) ?_
                    refine lv_bipush (v := 52) hx hb dX7_digest_231 (by decide) ?_
                    refine ro_l (va_runS (As := [.double (shareD s), .int 1023, .int 52]) (rest := [.long ((31 : Int64) * (((31 : Int64) * g1) + ((pivI s).toInt64)))]) ⟨hx, hb, hml, hown, hts⟩ (m_X7_bits l (shareD s) 1023 52 hdS (by omega) unit52) (va_cwS 3 hts (gS tw1056 tw1054 tw1055 tw8) rfl rfl rfl (by decide +kernel) ⟨Nat.le_of_ble_eq_true rfl, Nat.le_of_ble_eq_true rfl⟩) ps0 rfl rfl hl.1 rfl (lv_room (Nat.le_of_ble_eq_true rfl)) dX7_digest_233 ⟨Nat.le_of_ble_eq_true rfl, Nat.le_of_ble_eq_true rfl⟩) (fun r11 hr10 => ?_)
                    subst hr10
                    refine lv_ladd hx hb dX7_digest_236 ?_
                    refine lv_lstore_n (lv' := [(1, .long (((31 : Int64) * (((31 : Int64) * g1) + ((pivI s).toInt64))) + (bitsX (shareD s) (nI 52) 1023))), (0, .ref (b 0)), (3, .int (nI 7))]) hx hb dX7_digest_237 rfl hl (by decide) rfl (fun ls hl => ?_)
                    refine lv_ldc2 hx hb hown (hts _ tw1053) dX7_digest_238 ?_
                    refine lv_lload_n hx hb dX7_digest_241 rfl (lv_at hl 0 rfl) ?_
                    refine lv_lmul hx hb dX7_digest_242 ?_
                    refine lv_aload_n hx hb dX7_digest_243 rfl (lv_at hl 1 rfl) ?_
                    refine ro_f (va_runV (As := []) (rest := [.long ((31 : Int64) * (((31 : Int64) * (((31 : Int64) * g1) + ((pivI s).toInt64))) + (bitsX (shareD s) (nI 52) 1023)))]) ⟨hx, hb, hml, hown, hts⟩ (m_X7_mean l D cI cS b s kp hf (upd sc 3 0) z9 bf T hBd (by omega)) (cwV 0 hts (gV tw1046 tw1043 tw1045 ts55 tw8) rfl rfl rfl (by decide +kernel) ⟨Nat.le_of_ble_eq_true rfl, Nat.le_of_ble_eq_true rfl⟩) (pvR 0 hK hP (by decide) rfl rfl) rfl rfl hl.1 rfl (lv_room (Nat.le_of_ble_eq_true rfl)) dX7_digest_244 ⟨Nat.le_of_ble_eq_true rfl, Nat.le_of_ble_eq_true rfl⟩) (fun r14 hr13 => ?_)
                    subst hr13
                    refine lv_f2d hx hb dX7_digest_247 hdM.vf ?_
                    refine lv_bipush (v := 127) hx hb dX7_digest_248 (by decide) ?_
                    refine lv_bipush (v := 23) hx hb dX7_digest_250 (by decide) ?_
                    refine ro_l (va_runS (As := [.double (FP.f2d (meanF s)), .int 127, .int 23]) (rest := [.long ((31 : Int64) * (((31 : Int64) * (((31 : Int64) * g1) + ((pivI s).toInt64))) + (bitsX (shareD s) (nI 52) 1023)))]) ⟨hx, hb, hml, hown, hts⟩ (m_X7_bits l (FP.f2d (meanF s)) 127 23 hdM (by omega) unit23) (va_cwS 3 hts (gS tw1056 tw1054 tw1055 tw8) rfl rfl rfl (by decide +kernel) ⟨Nat.le_of_ble_eq_true rfl, Nat.le_of_ble_eq_true rfl⟩) ps0 rfl rfl hl.1 rfl (lv_room (Nat.le_of_ble_eq_true rfl)) dX7_digest_252 ⟨Nat.le_of_ble_eq_true rfl, Nat.le_of_ble_eq_true rfl⟩) (fun r17 hr16 => ?_)
                    subst hr16
                    refine lv_ladd hx hb dX7_digest_255 ?_
                    refine lv_lstore_n (lv' := [(1, .long (((31 : Int64) * (((31 : Int64) * (((31 : Int64) * g1) + ((pivI s).toInt64))) + (bitsX (shareD s) (nI 52) 1023))) + (bitsX (FP.f2d (meanF s)) (nI 23) 127))), (0, .ref (b 0)), (3, .int (nI 7))]) hx hb dX7_digest_256 rfl hl (by decide) rfl (fun ls hl => ?_)
                    refine lv_ldc2 hx hb hown (hts _ tw1053) dX7_digest_257 ?_
                    refine lv_lload_n hx hb dX7_digest_260 rfl (lv_at hl 0 rfl) ?_
                    refine lv_lmul hx hb dX7_digest_261 ?_
                    refine lv_aload_n hx hb dX7_digest_262 rfl (lv_at hl 1 rfl) ?_
                    refine g_get hx hb hts hown inA7 hK hP 0 (by decide) rfl rfl 5 (by decide) tw765 rfl (v := .int (sc 1)) rfl dX7_digest_263 ?_
                    refine lv_if_eq (tgt := 273) hx hb dX7_digest_266 (by decide) (fun c19 => ?_) (fun c19 => ?_)
                    · skip
                      refine lv_iconst (v := 0) hx hb dX7_digest_273 (by decide) ?_
                      refine lv_as (y := kI (sc 1)) (by unfold kI; rw [if_pos c19]) ?_
                      refine lv_i2l hx hb dX7_digest_274 rfl ?_
                      refine lv_ladd hx hb dX7_digest_275 ?_
                      refine lv_lstore_n (lv' := [(1, .long (((31 : Int64) * (((31 : Int64) * (((31 : Int64) * (((31 : Int64) * g1) + ((pivI s).toInt64))) + (bitsX (shareD s) (nI 52) 1023))) + (bitsX (FP.f2d (meanF s)) (nI 23) 127))) + ((kI (sc 1)).toInt64))), (0, .ref (b 0)), (3, .int (nI 7))]) hx hb dX7_digest_276 rfl hl (by decide) rfl (fun ls hl => ?_)
                      refine lv_ldc2 hx hb hown (hts _ tw1053) dX7_digest_277 ?_
                      refine lv_lload_n hx hb dX7_digest_280 rfl (lv_at hl 0 rfl) ?_
                      refine lv_lmul hx hb dX7_digest_281 ?_
                      refine lv_aload_n hx hb dX7_digest_282 rfl (lv_at hl 1 rfl) ?_
                      refine g_get hx hb hts hown inA7 hK hP 0 (by decide) rfl rfl 7 (by decide) tw767 rfl (v := .int (sc 2)) rfl dX7_digest_283 ?_
                      refine lv_as (y := nI ln) hl0 ?_
                      refine lv_i2l hx hb dX7_digest_286 rfl ?_
                      refine lv_ladd hx hb dX7_digest_287 ?_
                      refine lv_lstore_n (lv' := [(1, .long (((31 : Int64) * (((31 : Int64) * (((31 : Int64) * (((31 : Int64) * (((31 : Int64) * g1) + ((pivI s).toInt64))) + (bitsX (shareD s) (nI 52) 1023))) + (bitsX (FP.f2d (meanF s)) (nI 23) 127))) + ((kI (sc 1)).toInt64))) + ((nI ln).toInt64))), (0, .ref (b 0)), (3, .int (nI 7))]) hx hb dX7_digest_288 rfl hl (by decide) rfl (fun ls hl => ?_)
                      refine lv_iconst (v := 0) hx hb dX7_digest_289 (by decide) ?_
                      refine lv_istore_n (lv' := [(3, .int 0), (1, .long (((31 : Int64) * (((31 : Int64) * (((31 : Int64) * (((31 : Int64) * (((31 : Int64) * g1) + ((pivI s).toInt64))) + (bitsX (shareD s) (nI 52) 1023))) + (bitsX (FP.f2d (meanF s)) (nI 23) 127))) + ((kI (sc 1)).toInt64))) + ((nI ln).toInt64))), (0, .ref (b 0))]) hx hb dX7_digest_290 rfl hl (by decide) rfl (fun ls hl => ?_)
                      have loop291 : ∀ (fu : Nat) (j : Nat) (g1 : Int64), ln + 1 ≤ j + fu → (j ≤ ln) → (g1 = dgN bf j (mxL (mxL (mxL (mxL (mxL (dgWs s 7 (dgDs s 7 (dgN (s 10) 2 (dgN (counN s kn) 14 3863)))) (pivI s).toInt64) (bitsX (shareD s) 52 1023)) (bitsX (FP.f2d (meanF s)) 23 127)) (if sc 1 = 0 then 0 else 1)) (nI ln).toInt64)) → ∀ (H : Heap) (locs : List Loc), HP D 6 b (emC cI b (mdl s kp hf (upd sc 3 0) z9 bf)) H → va_S (AX 6 b z.heap.size) z.heap H locs → ∀ ls : Array Slot, lv_has ls 5 [(0, .ref (b 0)), (1, .long g1), (3, .int (nI j))] → W p l e ({ frames := 4, cells := 0, slots := 0, locals := 96 } : Room) z m ([.ref (b 0)] : List Value).toArray below meth c H locs 0 0 (MQ below (va_Ql (fun (r : Int64) (u : Nat → Int32) => r = dgAll s kn (sc 1) bf ln) (BW D 6 b (fun u => emC cI b (mdl s kp hf (upd sc 3 0) u bf))) (AX 6 b z.heap.size)) ([.ref (b 0)] : List Value).toArray z 0 0 (AX 6 b z.heap.size)) (F0 m 291 ls []) := by
                        intro fu
                        induction fu with
                        | zero => intro j g1 hn hj hg4; exact absurd hn (by omega)
                        | succ fu ih291 =>
                          intro j g1 hn hj hg4 H locs hP hS ls hl
                          refine lv_iload_n hx hb dX7_digest_291 rfl (lv_at hl 2 rfl) ?_
                          refine lv_aload_n hx hb dX7_digest_292 rfl (lv_at hl 0 rfl) ?_
                          refine g_get hx hb hts hown inA7 hK hP 0 (by decide) rfl rfl 7 (by decide) tw767 rfl (v := .int (sc 2)) rfl dX7_digest_293 ?_
                          refine lv_icmp_ge (tgt := 319) hx hb dX7_digest_296 (by decide) (fun c20 => ?_) (fun c20 => ?_)
                          · skip
                            have c20x := Int32.not_lt.mpr c20
                            have c20n := (nI_le2 (p := ln) (q := j) hl0 rfl (by omega) (by omega)).mp c20
                            have c20n : ln ≤ j := c20n
                            have hjq : ln = j := by omega
                            subst hjq
                            refine lv_lload_n hx hb dX7_digest_319 rfl (lv_at hl 1 rfl) ?_
                            exact rw_lr hx hb hr hlocks hS z9 hP (by rw [hg4]; rfl) dX7_digest_320
                          · skip
                            have c20x := Int32.not_le.mp c20
                            have c20n := fun hq0 => c20 ((nI_le2 (p := ln) (q := j) hl0 rfl (by omega) (by omega)).mpr hq0)
                            have c20n : ¬ (ln ≤ j) := c20n
                            refine lv_ldc2 hx hb hown (hts _ tw1053) dX7_digest_299 ?_
                            refine lv_lload_n hx hb dX7_digest_302 rfl (lv_at hl 1 rfl) ?_
                            refine lv_lmul hx hb dX7_digest_303 ?_
                            refine lv_aload_n hx hb dX7_digest_304 rfl (lv_at hl 0 rfl) ?_
                            refine g_get hx hb hts hown inA7 hK hP 0 (by decide) rfl rfl 6 (by decide) tw766 rfl (v := .ref (b 5)) rfl dX7_digest_305 ?_
                            refine lv_iload_n hx hb dX7_digest_308 rfl (lv_at hl 2 rfl) ?_
                            refine g_iald hx hb hK hP 5 (by decide) rfl j rfl (by omega) (by decide) dX7_digest_309 (v := bf j) rfl ?_
                            refine lv_i2l hx hb dX7_digest_310 rfl ?_
                            refine lv_ladd hx hb dX7_digest_311 ?_
                            refine lv_lstore_n (lv' := [(1, .long (((31 : Int64) * g1) + ((bf j).toInt64))), (0, .ref (b 0)), (3, .int (nI j))]) hx hb dX7_digest_312 rfl hl (by decide) rfl (fun ls hl => ?_)
                            refine lv_iinc (v := nI (j + 1)) (lv' := [(3, .int (nI (j + 1))), (1, .long (((31 : Int64) * g1) + ((bf j).toInt64))), (0, .ref (b 0))]) hx hb dX7_digest_313 hl (k := 2) rfl (nI_add j 1) (by decide) rfl (fun ls hl => ?_)
                            refine lv_goto (tgt := 291) hx hb dX7_digest_316 (by decide) ?_
                            exact ih291 (j + 1) (((31 : Int64) * g1) + ((bf j).toInt64)) (by omega) (by omega) (by rw [dgN, ← hg4]; rfl) _ _ hP hS ls (lv_sub hl [2, 1, 0] rfl)
                      exact loop291 (ln + 1) 0 (((31 : Int64) * (((31 : Int64) * (((31 : Int64) * (((31 : Int64) * (((31 : Int64) * g1) + ((pivI s).toInt64))) + (bitsX (shareD s) (nI 52) 1023))) + (bitsX (FP.f2d (meanF s)) (nI 23) 127))) + ((kI (sc 1)).toInt64))) + ((nI ln).toInt64)) (by omega) (by omega) (by rw [hg3, ← kI_l]; rfl) _ _ hP hS ls (lv_sub hl [2, 1, 0] rfl)
                    · skip
                      refine lv_iconst (v := 1) hx hb dX7_digest_269 (by decide) ?_
                      refine lv_goto (tgt := 274) hx hb dX7_digest_270 (by decide) ?_
                      refine lv_as (y := kI (sc 1)) (by unfold kI; rw [if_neg c19]) ?_
                      refine lv_i2l hx hb dX7_digest_274 rfl ?_
                      refine lv_ladd hx hb dX7_digest_275 ?_
                      refine lv_lstore_n (lv' := [(1, .long (((31 : Int64) * (((31 : Int64) * (((31 : Int64) * (((31 : Int64) * g1) + ((pivI s).toInt64))) + (bitsX (shareD s) (nI 52) 1023))) + (bitsX (FP.f2d (meanF s)) (nI 23) 127))) + ((kI (sc 1)).toInt64))), (0, .ref (b 0)), (3, .int (nI 7))]) hx hb dX7_digest_276 rfl hl (by decide) rfl (fun ls hl => ?_)
                      refine lv_ldc2 hx hb hown (hts _ tw1053) dX7_digest_277 ?_
                      refine lv_lload_n hx hb dX7_digest_280 rfl (lv_at hl 0 rfl) ?_
                      refine lv_lmul hx hb dX7_digest_281 ?_
                      refine lv_aload_n hx hb dX7_digest_282 rfl (lv_at hl 1 rfl) ?_
                      refine g_get hx hb hts hown inA7 hK hP 0 (by decide) rfl rfl 7 (by decide) tw767 rfl (v := .int (sc 2)) rfl dX7_digest_283 ?_
                      refine lv_as (y := nI ln) hl0 ?_
                      refine lv_i2l hx hb dX7_digest_286 rfl ?_
                      refine lv_ladd hx hb dX7_digest_287 ?_
                      refine lv_lstore_n (lv' := [(1, .long (((31 : Int64) * (((31 : Int64) * (((31 : Int64) * (((31 : Int64) * (((31 : Int64) * g1) + ((pivI s).toInt64))) + (bitsX (shareD s) (nI 52) 1023))) + (bitsX (FP.f2d (meanF s)) (nI 23) 127))) + ((kI (sc 1)).toInt64))) + ((nI ln).toInt64))), (0, .ref (b 0)), (3, .int (nI 7))]) hx hb dX7_digest_288 rfl hl (by decide) rfl (fun ls hl => ?_)
                      refine lv_iconst (v := 0) hx hb dX7_digest_289 (by decide) ?_
                      refine lv_istore_n (lv' := [(3, .int 0), (1, .long (((31 : Int64) * (((31 : Int64) * (((31 : Int64) * (((31 : Int64) * (((31 : Int64) * g1) + ((pivI s).toInt64))) + (bitsX (shareD s) (nI 52) 1023))) + (bitsX (FP.f2d (meanF s)) (nI 23) 127))) + ((kI (sc 1)).toInt64))) + ((nI ln).toInt64))), (0, .ref (b 0))]) hx hb dX7_digest_290 rfl hl (by decide) rfl (fun ls hl => ?_)
                      have loop291 : ∀ (fu : Nat) (j : Nat) (g1 : Int64), ln + 1 ≤ j + fu → (j ≤ ln) → (g1 = dgN bf j (mxL (mxL (mxL (mxL (mxL (dgWs s 7 (dgDs s 7 (dgN (s 10) 2 (dgN (counN s kn) 14 3863)))) (pivI s).toInt64) (bitsX (shareD s) 52 1023)) (bitsX (FP.f2d (meanF s)) 23 127)) (if sc 1 = 0 then 0 else 1)) (nI ln).toInt64)) → ∀ (H : Heap) (locs : List Loc), HP D 6 b (emC cI b (mdl s kp hf (upd sc 3 0) z9 bf)) H → va_S (AX 6 b z.heap.size) z.heap H locs → ∀ ls : Array Slot, lv_has ls 5 [(0, .ref (b 0)), (1, .long g1), (3, .int (nI j))] → W p l e ({ frames := 4, cells := 0, slots := 0, locals := 96 } : Room) z m ([.ref (b 0)] : List Value).toArray below meth c H locs 0 0 (MQ below (va_Ql (fun (r : Int64) (u : Nat → Int32) => r = dgAll s kn (sc 1) bf ln) (BW D 6 b (fun u => emC cI b (mdl s kp hf (upd sc 3 0) u bf))) (AX 6 b z.heap.size)) ([.ref (b 0)] : List Value).toArray z 0 0 (AX 6 b z.heap.size)) (F0 m 291 ls []) := by
                        intro fu
                        induction fu with
                        | zero => intro j g1 hn hj hg4; exact absurd hn (by omega)
                        | succ fu ih291 =>
                          intro j g1 hn hj hg4 H locs hP hS ls hl
                          refine lv_iload_n hx hb dX7_digest_291 rfl (lv_at hl 2 rfl) ?_
                          refine lv_aload_n hx hb dX7_digest_292 rfl (lv_at hl 0 rfl) ?_
                          refine g_get hx hb hts hown inA7 hK hP 0 (by decide) rfl rfl 7 (by decide) tw767 rfl (v := .int (sc 2)) rfl dX7_digest_293 ?_
                          refine lv_icmp_ge (tgt := 319) hx hb dX7_digest_296 (by decide) (fun c21 => ?_) (fun c21 => ?_)
                          · skip
                            have c21x := Int32.not_lt.mpr c21
                            have c21n := (nI_le2 (p := ln) (q := j) hl0 rfl (by omega) (by omega)).mp c21
                            have c21n : ln ≤ j := c21n
                            have hjq : ln = j := by omega
                            subst hjq
                            refine lv_lload_n hx hb dX7_digest_319 rfl (lv_at hl 1 rfl) ?_
                            exact rw_lr hx hb hr hlocks hS z9 hP (by rw [hg4]; rfl) dX7_digest_320
                          · skip
                            have c21x := Int32.not_le.mp c21
                            have c21n := fun hq0 => c21 ((nI_le2 (p := ln) (q := j) hl0 rfl (by omega) (by omega)).mpr hq0)
                            have c21n : ¬ (ln ≤ j) := c21n
                            refine lv_ldc2 hx hb hown (hts _ tw1053) dX7_digest_299 ?_
                            refine lv_lload_n hx hb dX7_digest_302 rfl (lv_at hl 1 rfl) ?_
                            refine lv_lmul hx hb dX7_digest_303 ?_
                            refine lv_aload_n hx hb dX7_digest_304 rfl (lv_at hl 0 rfl) ?_
                            refine g_get hx hb hts hown inA7 hK hP 0 (by decide) rfl rfl 6 (by decide) tw766 rfl (v := .ref (b 5)) rfl dX7_digest_305 ?_
                            refine lv_iload_n hx hb dX7_digest_308 rfl (lv_at hl 2 rfl) ?_
                            refine g_iald hx hb hK hP 5 (by decide) rfl j rfl (by omega) (by decide) dX7_digest_309 (v := bf j) rfl ?_
                            refine lv_i2l hx hb dX7_digest_310 rfl ?_
                            refine lv_ladd hx hb dX7_digest_311 ?_
                            refine lv_lstore_n (lv' := [(1, .long (((31 : Int64) * g1) + ((bf j).toInt64))), (0, .ref (b 0)), (3, .int (nI j))]) hx hb dX7_digest_312 rfl hl (by decide) rfl (fun ls hl => ?_)
                            refine lv_iinc (v := nI (j + 1)) (lv' := [(3, .int (nI (j + 1))), (1, .long (((31 : Int64) * g1) + ((bf j).toInt64))), (0, .ref (b 0))]) hx hb dX7_digest_313 hl (k := 2) rfl (nI_add j 1) (by decide) rfl (fun ls hl => ?_)
                            refine lv_goto (tgt := 291) hx hb dX7_digest_316 (by decide) ?_
                            exact ih291 (j + 1) (((31 : Int64) * g1) + ((bf j).toInt64)) (by omega) (by omega) (by rw [dgN, ← hg4]; rfl) _ _ hP hS ls (lv_sub hl [2, 1, 0] rfl)
                      exact loop291 (ln + 1) 0 (((31 : Int64) * (((31 : Int64) * (((31 : Int64) * (((31 : Int64) * (((31 : Int64) * g1) + ((pivI s).toInt64))) + (bitsX (shareD s) (nI 52) 1023))) + (bitsX (FP.f2d (meanF s)) (nI 23) 127))) + ((kI (sc 1)).toInt64))) + ((nI ln).toInt64)) (by omega) (by omega) (by rw [hg3, ← kI_l]; rfl) _ _ hP hS ls (lv_sub hl [2, 1, 0] rfl)
                  · skip
                    have c3x := Int32.not_le.mp c3
                    have c3n := fun hq0 => c3 ((nI_le2 (p := 7) (q := j) rfl rfl (by omega) (by omega)).mpr hq0)
                    have c3n : ¬ (7 ≤ j) := c3n
                    refine lv_iconst (v := 0) hx hb dX7_digest_143 (by decide) ?_
                    refine lv_istore (lv' := [(4, .int 0), (0, .ref (b 0)), (1, .long g1), (3, .int (nI j))]) hx hb dX7_digest_144 hl (by decide) rfl (fun ls hl => ?_)
                    have loop146 : ∀ (fu : Nat) (i : Nat) (g2 : Int64), 6 + 1 ≤ i + fu → (i ≤ 6) → (g2 = dgN (wardN s j) i g1) → ∀ (H : Heap) (locs : List Loc), HP D 6 b (emC cI b (mdl s kp hf (upd sc 3 0) z9 bf)) H → va_S (AX 6 b z.heap.size) z.heap H locs → ∀ ls : Array Slot, lv_has ls 5 [(0, .ref (b 0)), (1, .long g2), (3, .int (nI j)), (4, .int (nI i))] → W p l e ({ frames := 4, cells := 0, slots := 0, locals := 96 } : Room) z m ([.ref (b 0)] : List Value).toArray below meth c H locs 0 0 (MQ below (va_Ql (fun (r : Int64) (u : Nat → Int32) => r = dgAll s kn (sc 1) bf ln) (BW D 6 b (fun u => emC cI b (mdl s kp hf (upd sc 3 0) u bf))) (AX 6 b z.heap.size)) ([.ref (b 0)] : List Value).toArray z 0 0 (AX 6 b z.heap.size)) (F0 m 146 ls []) := by
                      intro fu
                      induction fu with
                      | zero => intro i g2 hn hi hi3; exact absurd hn (by omega)
                      | succ fu ih146 =>
                        intro i g2 hn hi hi3 H locs hP hS ls hl
                        refine lv_iload hx hb dX7_digest_146 (lv_at hl 3 rfl) ?_
                        refine lv_bipush (v := 6) hx hb dX7_digest_148 (by decide) ?_
                        refine lv_icmp_ge (tgt := 174) hx hb dX7_digest_150 (by decide) (fun c22 => ?_) (fun c22 => ?_)
                        · skip
                          have c22x := Int32.not_lt.mpr c22
                          have c22n := (nI_le2 (p := 6) (q := i) rfl rfl (by omega) (by omega)).mp c22
                          have c22n : 6 ≤ i := c22n
                          have hjq : 6 = i := by omega
                          subst hjq
                          refine lv_ldc2 hx hb hown (hts _ tw1053) dX7_digest_174 ?_
                          refine lv_lload_n hx hb dX7_digest_177 rfl (lv_at hl 1 rfl) ?_
                          refine lv_lmul hx hb dX7_digest_178 ?_
                          refine lv_aload_n hx hb dX7_digest_179 rfl (lv_at hl 0 rfl) ?_
                          refine lv_iload_n hx hb dX7_digest_180 rfl (lv_at hl 2 rfl) ?_
                          refine lv_iconst (v := 0) hx hb dX7_digest_181 (by decide) ?_
                          refine rw_i hS (va_runV (As := [.int (nI j), .int 0]) (rest := [.long ((31 : Int64) * g2)]) ⟨hx, hb, hml, hown, hts⟩ (m_X7_middleWith l D cI cS b s kp hf (upd sc 3 0) z9 bf T hBd (by omega) j (by omega) 0 (by decide) _) (cwV 2 hts (gV tw990 tw987 tw989 ts47 tw8) rfl rfl rfl (by decide +kernel) ⟨Nat.le_of_ble_eq_true rfl, Nat.le_of_ble_eq_true rfl⟩) (pvW 0 hK hP hE (by decide) rfl rfl) rfl rfl hl.1 rfl (lv_room (Nat.le_of_ble_eq_true rfl)) dX7_digest_182 ⟨Nat.le_of_ble_eq_true rfl, Nat.le_of_ble_eq_true rfl⟩) (fun r24 u25 H locs hr23 hP hS => ?_)
                          subst hr23
                          refine lv_i2l hx hb dX7_digest_185 rfl ?_
                          refine lv_ladd hx hb dX7_digest_186 ?_
                          refine lv_lstore_n (lv' := [(1, .long (((31 : Int64) * g2) + ((midW s j 0).toInt64))), (0, .ref (b 0)), (3, .int (nI j)), (4, .int (nI 6))]) hx hb dX7_digest_187 rfl hl (by decide) rfl (fun ls hl => ?_)
                          refine lv_ldc2 hx hb hown (hts _ tw1053) dX7_digest_188 ?_
                          refine lv_lload_n hx hb dX7_digest_191 rfl (lv_at hl 0 rfl) ?_
                          refine lv_lmul hx hb dX7_digest_192 ?_
                          refine lv_aload_n hx hb dX7_digest_193 rfl (lv_at hl 1 rfl) ?_
                          refine lv_iload_n hx hb dX7_digest_194 rfl (lv_at hl 2 rfl) ?_
                          refine rw_i hS (va_runV (As := [.int (nI j)]) (rest := [.long ((31 : Int64) * (((31 : Int64) * g2) + ((midW s j 0).toInt64)))]) ⟨hx, hb, hml, hown, hts⟩ (m_X7_winning l D cI cS b s kp hf (upd sc 3 0) z9 bf T hBd (by omega) j (by omega) _) (cwV 1 hts (gV tw1006 tw1003 tw1005 ts49 tw8) rfl rfl rfl (by decide +kernel) ⟨Nat.le_of_ble_eq_true rfl, Nat.le_of_ble_eq_true rfl⟩) (pvW 0 hK hP hE (by decide) rfl rfl) rfl rfl hl.1 rfl (lv_room (Nat.le_of_ble_eq_true rfl)) dX7_digest_195 ⟨Nat.le_of_ble_eq_true rfl, Nat.le_of_ble_eq_true rfl⟩) (fun r27 u28 H locs hr26 hP hS => ?_)
                          subst hr26
                          refine lv_i2l hx hb dX7_digest_198 rfl ?_
                          refine lv_ladd hx hb dX7_digest_199 ?_
                          refine lv_lstore_n (lv' := [(1, .long (((31 : Int64) * (((31 : Int64) * g2) + ((midW s j 0).toInt64))) + ((winF s j 9 1).toInt64))), (0, .ref (b 0)), (3, .int (nI j)), (4, .int (nI 6))]) hx hb dX7_digest_200 rfl hl (by decide) rfl (fun ls hl => ?_)
                          refine lv_iinc (v := nI (j + 1)) (lv' := [(3, .int (nI (j + 1))), (1, .long (((31 : Int64) * (((31 : Int64) * g2) + ((midW s j 0).toInt64))) + ((winF s j 9 1).toInt64))), (0, .ref (b 0)), (4, .int (nI 6))]) hx hb dX7_digest_201 hl (k := 2) rfl (nI_add j 1) (by decide) rfl (fun ls hl => ?_)
                          refine lv_goto (tgt := 137) hx hb dX7_digest_204 (by decide) ?_
                          exact ih137 (j + 1) (((31 : Int64) * (((31 : Int64) * g2) + ((midW s j 0).toInt64))) + ((winF s j 9 1).toInt64)) (by omega) (by omega) (by rw [dgWs, ← hg3]; unfold dgWard; rw [← hi3]; rfl) _ _ hP hS ls (lv_sub hl [2, 1, 0] rfl)
                        · skip
                          have c22x := Int32.not_le.mp c22
                          have c22n := fun hq0 => c22 ((nI_le2 (p := 6) (q := i) rfl rfl (by omega) (by omega)).mpr hq0)
                          have c22n : ¬ (6 ≤ i) := c22n
                          refine lv_ldc2 hx hb hown (hts _ tw1053) dX7_digest_153 ?_
                          refine lv_lload_n hx hb dX7_digest_156 rfl (lv_at hl 1 rfl) ?_
                          refine lv_lmul hx hb dX7_digest_157 ?_
                          refine lv_aload_n hx hb dX7_digest_158 rfl (lv_at hl 0 rfl) ?_
                          refine lv_iload_n hx hb dX7_digest_159 rfl (lv_at hl 2 rfl) ?_
                          refine lv_iload hx hb dX7_digest_160 (lv_at hl 3 rfl) ?_
                          refine ro_i (va_runV (As := [.int (nI j), .int (nI i)]) (rest := [.long ((31 : Int64) * g2)]) ⟨hx, hb, hml, hown, hts⟩ (m_X7_ofWarden l D cI cS b s kp hf (upd sc 3 0) z9 bf j i (by omega) (by omega)) (cwV 2 hts (gV tw954 tw951 tw953 ts41 tw8) rfl rfl rfl (by decide +kernel) ⟨Nat.le_of_ble_eq_true rfl, Nat.le_of_ble_eq_true rfl⟩) (pvR 0 hK hP (by decide) rfl rfl) rfl rfl hl.1 rfl (lv_room (Nat.le_of_ble_eq_true rfl)) dX7_digest_162 ⟨Nat.le_of_ble_eq_true rfl, Nat.le_of_ble_eq_true rfl⟩) (fun r30 hr29 => ?_)
                          subst hr29
                          refine lv_i2l hx hb dX7_digest_165 rfl ?_
                          refine lv_ladd hx hb dX7_digest_166 ?_
                          refine lv_lstore_n (lv' := [(1, .long (((31 : Int64) * g2) + ((wardN s j i).toInt64))), (0, .ref (b 0)), (3, .int (nI j)), (4, .int (nI i))]) hx hb dX7_digest_167 rfl hl (by decide) rfl (fun ls hl => ?_)
                          refine lv_iinc (v := nI (i + 1)) (lv' := [(4, .int (nI (i + 1))), (1, .long (((31 : Int64) * g2) + ((wardN s j i).toInt64))), (0, .ref (b 0)), (3, .int (nI j))]) hx hb dX7_digest_168 hl (k := 3) rfl (nI_add i 1) (by decide) rfl (fun ls hl => ?_)
                          refine lv_goto (tgt := 146) hx hb dX7_digest_171 (by decide) ?_
                          exact ih146 (i + 1) (((31 : Int64) * g2) + ((wardN s j i).toInt64)) (by omega) (by omega) (by rw [dgN, ← hi3]; rfl) _ _ hP hS ls (lv_sub hl [2, 1, 3, 0] rfl)
                    exact loop146 (6 + 1) 0 g1 (by omega) (by omega) rfl _ _ hP hS ls (lv_sub hl [1, 2, 3, 0] rfl)
              exact loop137 (7 + 1) 0 g1 (by omega) (by omega) hg2 _ _ hP hS ls (lv_sub hl [1, 2, 0] rfl)
            · skip
              have c2x := Int32.not_le.mp c2
              have c2n := fun hq0 => c2 ((nI_le2 (p := 7) (q := j) rfl rfl (by omega) (by omega)).mpr hq0)
              have c2n : ¬ (7 ≤ j) := c2n
              refine lv_iconst (v := 0) hx hb dX7_digest_72 (by decide) ?_
              refine lv_istore (lv' := [(4, .int 0), (0, .ref (b 0)), (1, .long g1), (3, .int (nI j))]) hx hb dX7_digest_73 hl (by decide) rfl (fun ls hl => ?_)
              have loop75 : ∀ (fu : Nat) (i : Nat) (g2 : Int64), 7 + 1 ≤ i + fu → (i ≤ 7) → (g2 = dgN (dialN s j) i g1) → ∀ (H : Heap) (locs : List Loc), HP D 6 b (emC cI b (mdl s kp hf (upd sc 3 0) z9 bf)) H → va_S (AX 6 b z.heap.size) z.heap H locs → ∀ ls : Array Slot, lv_has ls 5 [(0, .ref (b 0)), (1, .long g2), (3, .int (nI j)), (4, .int (nI i))] → W p l e ({ frames := 4, cells := 0, slots := 0, locals := 96 } : Room) z m ([.ref (b 0)] : List Value).toArray below meth c H locs 0 0 (MQ below (va_Ql (fun (r : Int64) (u : Nat → Int32) => r = dgAll s kn (sc 1) bf ln) (BW D 6 b (fun u => emC cI b (mdl s kp hf (upd sc 3 0) u bf))) (AX 6 b z.heap.size)) ([.ref (b 0)] : List Value).toArray z 0 0 (AX 6 b z.heap.size)) (F0 m 75 ls []) := by
                intro fu
                induction fu with
                | zero => intro i g2 hn hi hi2; exact absurd hn (by omega)
                | succ fu ih75 =>
                  intro i g2 hn hi hi2 H locs hP hS ls hl
                  refine lv_iload hx hb dX7_digest_75 (lv_at hl 3 rfl) ?_
                  refine lv_bipush (v := 7) hx hb dX7_digest_77 (by decide) ?_
                  refine lv_icmp_ge (tgt := 103) hx hb dX7_digest_79 (by decide) (fun c32 => ?_) (fun c32 => ?_)
                  · skip
                    have c32x := Int32.not_lt.mpr c32
                    have c32n := (nI_le2 (p := 7) (q := i) rfl rfl (by omega) (by omega)).mp c32
                    have c32n : 7 ≤ i := c32n
                    have hjq : 7 = i := by omega
                    subst hjq
                    refine lv_ldc2 hx hb hown (hts _ tw1053) dX7_digest_103 ?_
                    refine lv_lload_n hx hb dX7_digest_106 rfl (lv_at hl 1 rfl) ?_
                    refine lv_lmul hx hb dX7_digest_107 ?_
                    refine lv_aload_n hx hb dX7_digest_108 rfl (lv_at hl 0 rfl) ?_
                    refine lv_iload_n hx hb dX7_digest_109 rfl (lv_at hl 2 rfl) ?_
                    refine rw_i hS (va_runV (As := [.int (nI j)]) (rest := [.long ((31 : Int64) * g2)]) ⟨hx, hb, hml, hown, hts⟩ (m_X7_quarrelsIn l D cI cS b s kp hf (upd sc 3 0) z9 bf T hBd (by omega) j (by omega) _) (cwV 1 hts (gV tw1014 tw1011 tw1013 ts50 tw8) rfl rfl rfl (by decide +kernel) ⟨Nat.le_of_ble_eq_true rfl, Nat.le_of_ble_eq_true rfl⟩) (pvW 0 hK hP hE (by decide) rfl rfl) rfl rfl hl.1 rfl (lv_room (Nat.le_of_ble_eq_true rfl)) dX7_digest_110 ⟨Nat.le_of_ble_eq_true rfl, Nat.le_of_ble_eq_true rfl⟩) (fun r34 u35 H locs hr33 hP hS => ?_)
                    subst hr33
                    refine lv_i2l hx hb dX7_digest_113 rfl ?_
                    refine lv_ladd hx hb dX7_digest_114 ?_
                    refine lv_lstore_n (lv' := [(1, .long (((31 : Int64) * g2) + ((qF s j (behN j) 201 0 (s 1 j) (s 1 (behN j))).toInt64))), (0, .ref (b 0)), (3, .int (nI j)), (4, .int (nI 7))]) hx hb dX7_digest_115 rfl hl (by decide) rfl (fun ls hl => ?_)
                    refine lv_ldc2 hx hb hown (hts _ tw1053) dX7_digest_116 ?_
                    refine lv_lload_n hx hb dX7_digest_119 rfl (lv_at hl 0 rfl) ?_
                    refine lv_lmul hx hb dX7_digest_120 ?_
                    refine lv_aload_n hx hb dX7_digest_121 rfl (lv_at hl 1 rfl) ?_
                    refine lv_iload_n hx hb dX7_digest_122 rfl (lv_at hl 2 rfl) ?_
                    refine ro_i (va_runV (As := [.int (nI j)]) (rest := [.long ((31 : Int64) * (((31 : Int64) * g2) + ((qF s j (behN j) 201 0 (s 1 j) (s 1 (behN j))).toInt64)))]) ⟨hx, hb, hml, hown, hts⟩ (m_X7_bellIn l D cI cS b s kp hf (upd sc 3 0) u35 bf j (by omega)) (cwV 1 hts (gV tw1030 tw1027 tw1029 ts53 tw8) rfl rfl rfl (by decide +kernel) ⟨Nat.le_of_ble_eq_true rfl, Nat.le_of_ble_eq_true rfl⟩) (pvR 0 hK hP (by decide) rfl rfl) rfl rfl hl.1 rfl (lv_room (Nat.le_of_ble_eq_true rfl)) dX7_digest_123 ⟨Nat.le_of_ble_eq_true rfl, Nat.le_of_ble_eq_true rfl⟩) (fun r37 hr36 => ?_)
                    subst hr36
                    refine lv_i2l hx hb dX7_digest_126 rfl ?_
                    refine lv_ladd hx hb dX7_digest_127 ?_
                    refine lv_lstore_n (lv' := [(1, .long (((31 : Int64) * (((31 : Int64) * g2) + ((qF s j (behN j) 201 0 (s 1 j) (s 1 (behN j))).toInt64))) + ((ringF s j (s 1 j / 60) 200 1 (s 1 j)).toInt64))), (0, .ref (b 0)), (3, .int (nI j)), (4, .int (nI 7))]) hx hb dX7_digest_128 rfl hl (by decide) rfl (fun ls hl => ?_)
                    refine lv_iinc (v := nI (j + 1)) (lv' := [(3, .int (nI (j + 1))), (1, .long (((31 : Int64) * (((31 : Int64) * g2) + ((qF s j (behN j) 201 0 (s 1 j) (s 1 (behN j))).toInt64))) + ((ringF s j (s 1 j / 60) 200 1 (s 1 j)).toInt64))), (0, .ref (b 0)), (4, .int (nI 7))]) hx hb dX7_digest_129 hl (k := 2) rfl (nI_add j 1) (by decide) rfl (fun ls hl => ?_)
                    refine lv_goto (tgt := 66) hx hb dX7_digest_132 (by decide) ?_
                    exact ih66 (j + 1) (((31 : Int64) * (((31 : Int64) * g2) + ((qF s j (behN j) 201 0 (s 1 j) (s 1 (behN j))).toInt64))) + ((ringF s j (s 1 j / 60) 200 1 (s 1 j)).toInt64)) u35 (by omega) (by omega) (by rw [dgDs, ← hg2]; unfold dgDial; rw [← hi2]; rfl) _ _ hP hS ls (lv_sub hl [2, 1, 0] rfl)
                  · skip
                    have c32x := Int32.not_le.mp c32
                    have c32n := fun hq0 => c32 ((nI_le2 (p := 7) (q := i) rfl rfl (by omega) (by omega)).mpr hq0)
                    have c32n : ¬ (7 ≤ i) := c32n
                    refine lv_ldc2 hx hb hown (hts _ tw1053) dX7_digest_82 ?_
                    refine lv_lload_n hx hb dX7_digest_85 rfl (lv_at hl 1 rfl) ?_
                    refine lv_lmul hx hb dX7_digest_86 ?_
                    refine lv_aload_n hx hb dX7_digest_87 rfl (lv_at hl 0 rfl) ?_
                    refine lv_iload_n hx hb dX7_digest_88 rfl (lv_at hl 2 rfl) ?_
                    refine lv_iload hx hb dX7_digest_89 (lv_at hl 3 rfl) ?_
                    refine ro_i (va_runV (As := [.int (nI j), .int (nI i)]) (rest := [.long ((31 : Int64) * g2)]) ⟨hx, hb, hml, hown, hts⟩ (m_X7_ofDial l D cI cS b s kp hf (upd sc 3 0) z9 bf T hBd (by omega) j i (by omega) (by omega)) (cwV 2 hts (gV tw946 tw943 tw945 ts40 tw8) rfl rfl rfl (by decide +kernel) ⟨Nat.le_of_ble_eq_true rfl, Nat.le_of_ble_eq_true rfl⟩) (pvR 0 hK hP (by decide) rfl rfl) rfl rfl hl.1 rfl (lv_room (Nat.le_of_ble_eq_true rfl)) dX7_digest_91 ⟨Nat.le_of_ble_eq_true rfl, Nat.le_of_ble_eq_true rfl⟩) (fun r40 hr39 => ?_)
                    subst hr39
                    refine lv_i2l hx hb dX7_digest_94 rfl ?_
                    refine lv_ladd hx hb dX7_digest_95 ?_
                    refine lv_lstore_n (lv' := [(1, .long (((31 : Int64) * g2) + ((dialN s j i).toInt64))), (0, .ref (b 0)), (3, .int (nI j)), (4, .int (nI i))]) hx hb dX7_digest_96 rfl hl (by decide) rfl (fun ls hl => ?_)
                    refine lv_iinc (v := nI (i + 1)) (lv' := [(4, .int (nI (i + 1))), (1, .long (((31 : Int64) * g2) + ((dialN s j i).toInt64))), (0, .ref (b 0)), (3, .int (nI j))]) hx hb dX7_digest_97 hl (k := 3) rfl (nI_add i 1) (by decide) rfl (fun ls hl => ?_)
                    refine lv_goto (tgt := 75) hx hb dX7_digest_100 (by decide) ?_
                    exact ih75 (i + 1) (((31 : Int64) * g2) + ((dialN s j i).toInt64)) (by omega) (by omega) (by rw [dgN, ← hi2]; rfl) _ _ hP hS ls (lv_sub hl [2, 1, 3, 0] rfl)
              exact loop75 (7 + 1) 0 g1 (by omega) (by omega) rfl _ _ hP hS ls (lv_sub hl [1, 2, 3, 0] rfl)
        exact loop66 (7 + 1) 0 (((31 : Int64) * (((31 : Int64) * g1) + ((s 10 0).toInt64))) + ((s 10 1).toInt64)) ad (by omega) (by omega) (by rw [hg]; rfl) _ _ hP hS ls (lv_sub hl [2, 1, 0] rfl)
      · skip
        have c1x := Int32.not_le.mp c1
        have c1n := fun hq0 => c1 ((nI_le2 (p := 14) (q := j) rfl rfl (by omega) (by omega)).mpr hq0)
        have c1n : ¬ (14 ≤ j) := c1n
        refine lv_ldc2 hx hb hown (hts _ tw1053) dX7_digest_17 ?_
        refine lv_lload_n hx hb dX7_digest_20 rfl (lv_at hl 1 rfl) ?_
        refine lv_lmul hx hb dX7_digest_21 ?_
        refine lv_aload_n hx hb dX7_digest_22 rfl (lv_at hl 0 rfl) ?_
        refine lv_iload_n hx hb dX7_digest_23 rfl (lv_at hl 2 rfl) ?_
        refine ro_i (va_runV (As := [.int (nI j)]) (rest := [.long ((31 : Int64) * g1)]) ⟨hx, hb, hml, hown, hts⟩ (m_X7_number l D cI cS b s kp hf (upd sc 3 0) ad bf T hBd (by omega) kn (by omega) hk0 j (by omega)) (cwV 1 hts (gV tw966 tw963 tw965 ts43 tw8) rfl rfl rfl (by decide +kernel) ⟨Nat.le_of_ble_eq_true rfl, Nat.le_of_ble_eq_true rfl⟩) (pvR 0 hK hP (by decide) rfl rfl) rfl rfl hl.1 rfl (lv_room (Nat.le_of_ble_eq_true rfl)) dX7_digest_24 ⟨Nat.le_of_ble_eq_true rfl, Nat.le_of_ble_eq_true rfl⟩) (fun r43 hr42 => ?_)
        subst hr42
        refine lv_i2l hx hb dX7_digest_27 rfl ?_
        refine lv_ladd hx hb dX7_digest_28 ?_
        refine lv_lstore_n (lv' := [(1, .long (((31 : Int64) * g1) + ((counN s kn j).toInt64))), (0, .ref (b 0)), (3, .int (nI j))]) hx hb dX7_digest_29 rfl hl (by decide) rfl (fun ls hl => ?_)
        refine lv_iinc (v := nI (j + 1)) (lv' := [(3, .int (nI (j + 1))), (1, .long (((31 : Int64) * g1) + ((counN s kn j).toInt64))), (0, .ref (b 0))]) hx hb dX7_digest_30 hl (k := 2) rfl (nI_add j 1) (by decide) rfl (fun ls hl => ?_)
        refine lv_goto (tgt := 11) hx hb dX7_digest_33 (by decide) ?_
        exact ih11 (j + 1) (((31 : Int64) * g1) + ((counN s kn j).toInt64)) (by omega) (by omega) (by rw [dgN, ← hg]; rfl) _ _ hP hS ls (lv_sub hl [2, 1, 0] rfl)
  exact loop11 (14 + 1) 0 (3863 : Int64) (by omega) (by omega) rfl _ _ hP hS ls (lv_sub hl [2, 1, 0] rfl)
