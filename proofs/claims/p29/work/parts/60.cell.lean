/-! the script's ints, and the law's own calls -/
def XB (bs L : Nat) (xs : Nat → Int32) : State → Prop := fun U => va_X bs L xs U U.heap ∧ bs < U.heap.size
abbrev LA (z0 : Nat) : Nat → Prop := fun q => z0 ≤ q
theorem ps_X {s : State} {H0 H : Heap} {locs : List Loc} {bs L : Nat} {xs : Nat → Int32} {As : List Value} (hX : va_X bs L xs s H0) (hbl : bs < H0.size) (hS : va_S (LA H0.size) H0 H locs) : PreS s H (va_Pc As (XB bs L xs)) As := ⟨fun a U g mk h => ⟨h.1, va_X.moved (u := U) (U := U.calling g mk a) (Vm.Alike.refl U.vm) h.2.1, h.2.2⟩, fun U hU hW => ⟨rfl, va_X.moved hW.alike (by rw [hU]; exact hX.kept (hS.2.1 bs hbl (Nat.not_le.mpr hbl))), by rw [hU]; exact Nat.lt_of_lt_of_le hbl hS.1⟩⟩
section LWI
variable {p : Program} {l : Launch} {e : Env} {R : Room} {s : State} {m : MethodId} {args : Array Value} {below : List Frame} {meth : Method} {c : Code} {H : Heap} {locs : List Loc} {cells slots : Nat} {Q : State → Prop}
variable {pc : Nat} {ls : Array Slot} {rest st0 : List Value} {D : va_G} {a : Nat → Nat} {H0 : Heap} {mc ms : Nat} {aa : Array Value} {S : Type} {e' : S → Nat → va_E}
theorem lw_i {post : Int32 → S → Prop} (hL : ∀ i, i < 113 → H0.size ≤ a i) (hS : va_S (LA H0.size) H0 H locs) (hr : va_Run p l e R s m args below meth c H locs cells slots mc ms (F0 m pc ls st0) rest (va_Qi post (BW D 113 a e') (AX 113 a H.size) aa) (AX 113 a H.size))
    (kk : ∀ (r : Int32) (u : S) (H1 : Heap) (locs1 : List Loc), post r u → HP D 113 a (e' u) H1 → va_S (LA H0.size) H0 H1 locs1 → W p l e R s m args below meth c H1 locs1 (cells + mc) (slots + ms) Q (F0 m (pc + 3) ls (.int r :: rest))) : W p l e R s m args below meth c H locs cells slots Q (F0 m pc ls st0) :=
  have fa : ∀ q, AX 113 a H.size q → LA H0.size q := fun q hq => by
    rcases hq with ⟨k, hk, rfl⟩ | hq
    · exact hL k hk
    · exact Nat.le_trans hS.1 hq
  va_calli hr hS (fun q _ h => fa q h) (fun q h => fa q h) (fun r u t H1 locs1 ht _ hp hB _ hk hS1 => kk r u H1 locs1 hp (ht ▸ hB) hS1)
end LWI
theorem OKG.cast {T T' : Int} {u : WT} {s : St} (h : OKG T u s) (e : T = T') : OKG T' u s := e ▸ h
set_option maxHeartbeats 4000000 in
set_option maxRecDepth 100000 in
theorem m_L_cell (l : Launch) (bs L : Nat) (xs : Nat → Int32) (hL : L ≤ 260) (j : Nat) (hj : j < 48) : Met l yL_cell (.code yL_cell cL_cell 2 (some .int) :: wsA) ({ frames := 0, cells := 0, slots := 0, locals := 0 } : Room) (va_Pc [.ref bs, .int (nI j)] (XB bs L xs)) (vp_Si (fun r => True)) 0 0 (fun _ => False) := by
  refine mgo (by decide) (Nat.le_of_ble_eq_true rfl) ?_
  intro p e z m below meth c hx hb hr hml hown hts hlocks hB ls hl
  have hl : lv_has ls 2 [(0, .ref bs), (1, .int (nI j))] := hl
  obtain ⟨hX, hbl⟩ := hB
  have hS : va_S (fun _ => False) z.heap z.heap [] := va_S.rf
  refine lv_iload_n hx hb dL_cell_0 rfl (lv_at hl 1 rfl) ?_
  refine lv_aload_n hx hb dL_cell_1 rfl (lv_at hl 0 rfl) ?_
  refine va_slen (A := fun _ => False) hx hb hX hbl (fun q => q) hS dL_cell_2 ?_
  refine lv_as (y := nI L) rfl ?_
  refine lv_icmp_ge (tgt := 12) hx hb dL_cell_3 (by decide) (fun c1 => ?_) (fun c1 => ?_)
  · skip
    have c1x := Int32.not_lt.mpr c1
    have c1n := (nI_le2 (p := L) (q := j) rfl rfl (by omega) (by omega)).mp c1
    have c1n : L ≤ j := c1n
    refine lv_sipush (v := 7919) hx hb dL_cell_12 (by decide) ?_
    refine lv_iload_n hx hb dL_cell_15 rfl (lv_at hl 1 rfl) ?_
    refine lv_iconst (v := 3) hx hb dL_cell_16 (by decide) ?_
    refine lv_iadd hx hb dL_cell_17 ?_
    refine lv_as (y := nI (j + 3)) (nI_add2 (p := j) (q := 3) rfl rfl) ?_
    refine lv_imul hx hb dL_cell_18 ?_
    refine lv_as (y := nI (7919 * (j + 3))) (nI_mul2 (p := 7919) (q := j + 3) rfl rfl) ?_
    refine lv_iload_n hx hb dL_cell_19 rfl (lv_at hl 1 rfl) ?_
    refine lv_bipush (v := 11) hx hb dL_cell_20 (by decide) ?_
    refine lv_iadd hx hb dL_cell_22 ?_
    refine lv_as (y := nI (j + 11)) (nI_add2 (p := j) (q := 11) rfl rfl) ?_
    refine lv_imul hx hb dL_cell_23 ?_
    refine lv_as (y := nI ((7919 * (j + 3)) * (j + 11))) (nI_mul2 (p := 7919 * (j + 3)) (q := j + 11) rfl rfl) ?_
    exact ro_ir hx hb hr rfl hlocks trivial dL_cell_24
  · skip
    have c1x := Int32.not_le.mp c1
    have c1n := fun hq0 => c1 ((nI_le2 (p := L) (q := j) rfl rfl (by omega) (by omega)).mpr hq0)
    have c1n : ¬ (L ≤ j) := c1n
    refine lv_aload_n hx hb dL_cell_6 rfl (lv_at hl 0 rfl) ?_
    refine lv_iload_n hx hb dL_cell_7 rfl (lv_at hl 1 rfl) ?_
    refine va_sld (A := fun _ => False) hx hb hX hbl (fun q => q) hS (vp_in_nI (by omega) (by omega)) dL_cell_8 ?_
    refine lv_goto (tgt := 24) hx hb dL_cell_9 (by decide) ?_
    exact ro_ir hx hb hr rfl hlocks trivial dL_cell_24
