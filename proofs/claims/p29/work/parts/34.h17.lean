theorem wit_n {n lo hi : Nat} (h1 : lo ≤ n) (h2 : n ≤ hi) (h : hi < 2 ^ 31) : witB (nI n) (nI lo) (nI hi) := ⟨(nI_leI (by omega) (by omega)).mpr h1, (nI_leI (by omega) (by omega)).mpr h2⟩
section RWD
variable {p : Program} {l : Launch} {e : Env} {R : Room} {s : State} {m : MethodId} {args : Array Value} {below : List Frame} {meth : Method} {c : Code} {H : Heap} {locs : List Loc} {cells slots : Nat}
variable {pc : Nat} {ls : Array Slot} {cc : ByteArray} {D : va_G} {nn : Nat} {a : Nat → Nat}
theorem rw_dr {S : Type} {post : UInt64 → S → Prop} {e' : S → Nat → va_E} {v : UInt64} (hx : p.tables.exec = Jvm.exec) (hb : c.code = cc) (hr : meth.sig.returnType = some .double) (hlocks : meth.locks = false) (hS : va_S (AX nn a s.heap.size) s.heap H locs) (u : S) (hP : HP D nn a (e' u) H) (hp : post v u) (hdg : decode cc pc = .ok (.dreturn, 1)) : W p l e R s m args below meth c H locs cells slots (MQ below (va_Qd post (BW D nn a e') (AX nn a s.heap.size)) args s cells slots (AX nn a s.heap.size)) (F0 m pc ls [.double v]) :=
  W.dret hx hb hr (fun t ht _ => ⟨⟨v, u, rfl, hp, by show HP _ _ _ _ t.heap; rw [ht]; exact hP⟩, hS.F ht⟩) hS.2.2 hdg hlocks
theorem rw_fr {S : Type} {post : UInt32 → S → Prop} {e' : S → Nat → va_E} {v : UInt32} (hx : p.tables.exec = Jvm.exec) (hb : c.code = cc) (hr : meth.sig.returnType = some .float) (hlocks : meth.locks = false) (hS : va_S (AX nn a s.heap.size) s.heap H locs) (u : S) (hP : HP D nn a (e' u) H) (hp : post v u) (hdg : decode cc pc = .ok (.freturn, 1)) : W p l e R s m args below meth c H locs cells slots (MQ below (va_Qf post (BW D nn a e') (AX nn a s.heap.size)) args s cells slots (AX nn a s.heap.size)) (F0 m pc ls [.float v]) :=
  W.fret hx hb hr (fun t ht _ => ⟨⟨v, u, rfl, hp, by show HP _ _ _ _ t.heap; rw [ht]; exact hP⟩, hS.F ht⟩) hS.2.2 hdg hlocks
end RWD
theorem sh_dOk {T : Int} {s : St} (h : Bd T s) : dOk (shareD s) := by
  unfold shareD
  split
  · exact Or.inl (by decide)
  · rename_i hz
    have h9 : (s 0 2).toInt ≠ 0 := fun q => hz (Int32.toInt_inj.mp (q.trans (by decide)))
    have h8 := (h.2.2.2 2 (by decide) (by decide)).1
    exact d_share (h.2.2.2 3 (by decide) (by decide)).1 (by omega)
