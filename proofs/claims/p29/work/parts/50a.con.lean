set_option maxHeartbeats 400000 in
set_option maxRecDepth 100000 in
theorem a_X6_tick (l : Launch) (D : va_G) (cI cS : ClassId) (a : Nat → Nat) (u : WT) (s : St) (sz : Nat) (hf : Nat → St) (hok : UOk u s sz hf) (n : Nat) (hn : 1 ≤ n ∧ n ≤ 99) (zz : Nat) : Met l yX6_tick (.code yX6_tick cX6_tick 2 (some .int) :: wsA) ({ frames := 4, cells := 0, slots := 0, locals := 86 } : Room) (va_Pc [.ref (a 112), .int (nI n)] (PW D cI cS 113 a (exU cI cS a u) zz)) (va_Qi (fun (r : Int32) (uw : WT) => r = ticksA n s ∧ UOk uw (ticksS n s) (svQ sz + 1) (svH hf sz s)) (BW D 113 a (fun uw => exU cI cS a uw)) (AX 113 a zz)) 0 0 (AX 113 a zz) := by
  obtain ⟨s9, st, pi, mi, po⟩ := u
  obtain ⟨q1, q2, q3, q4, q5, q6⟩ := id hok
  have q1 : s9 = s := q1
  subst q1
  exact met_cq (m_X6_tick l D cI cS a s9 st pi mi po sz q2 q3 q4 n hn zz) (fun aa z o t hq => qi_cq (fun ux => (ticksS n s9, va_up st (svPi pi sz (svQ sz) + 1) s9, svPi pi sz, up2 mi 0 0 (nI (svQ sz + 1)), po)) (fun r ux hr => ⟨hr, hok.sv⟩) (fun ux => exU_mk) hq)


set_option maxHeartbeats 400000 in
set_option maxRecDepth 100000 in
theorem a_X6_vote (l : Launch) (D : va_G) (cI cS : ClassId) (a : Nat → Nat) (u : WT) (s : St) (sz : Nat) (hf : Nat → St) (hok : UOk u s sz hf) (hw0 : ¬ sumN (s 7) 7 = 0) (zz : Nat) : Met l yX6_vote (.code yX6_vote cX6_vote 1 (some .int) :: wsA) ({ frames := 5, cells := 0, slots := 0, locals := 110 } : Room) (va_Pc [.ref (a 112)] (PW D cI cS 113 a (exU cI cS a u) zz)) (va_Qi (fun (r : Int32) (uw : WT) => r = voteS s 0 1 ∧ UOk uw (voteS s) (svQ sz + 1) (svH hf sz s)) (BW D 113 a (fun uw => exU cI cS a uw)) (AX 113 a zz)) 0 0 (AX 113 a zz) := by
  obtain ⟨s9, st, pi, mi, po⟩ := u
  obtain ⟨q1, q2, q3, q4, q5, q6⟩ := id hok
  have q1 : s9 = s := q1
  subst q1
  exact met_cq (m_X6_vote l D cI cS a s9 st pi mi po sz q2 q3 q4 hw0 zz) (fun aa z o t hq => qi_cq (fun ux => (voteS s9, va_up st (svPi pi sz (svQ sz) + 1) s9, svPi pi sz, up2 mi 0 0 (nI (svQ sz + 1)), ux)) (fun r ux hr => ⟨hr, hok.sv⟩) (fun ux => exU_mk) hq)


set_option maxHeartbeats 400000 in
set_option maxRecDepth 100000 in
theorem a_X6_correct (l : Launch) (D : va_G) (cI cS : ClassId) (a : Nat → Nat) (u : WT) (s : St) (sz : Nat) (hf : Nat → St) (hok : UOk u s sz hf) (zz : Nat) : Met l yX6_correct (.code yX6_correct cX6_correct 1 (some .int) :: wsA) ({ frames := 4, cells := 0, slots := 0, locals := 86 } : Room) (va_Pc [.ref (a 112)] (PW D cI cS 113 a (exU cI cS a u) zz)) (va_Qi (fun (r : Int32) (uw : WT) => r = corA 7 s ∧ UOk uw (corS 7 s) (svQ sz + 1) (svH hf sz s)) (BW D 113 a (fun uw => exU cI cS a uw)) (AX 113 a zz)) 0 0 (AX 113 a zz) := by
  obtain ⟨s9, st, pi, mi, po⟩ := u
  obtain ⟨q1, q2, q3, q4, q5, q6⟩ := id hok
  have q1 : s9 = s := q1
  subst q1
  exact met_cq (m_X6_correct l D cI cS a s9 st pi mi po sz q2 q3 q4 zz) (fun aa z o t hq => qi_cq (fun ux => (corS 7 s9, va_up st (svPi pi sz (svQ sz) + 1) s9, svPi pi sz, up2 mi 0 0 (nI (svQ sz + 1)), po)) (fun r ux hr => ⟨hr, hok.sv⟩) (fun ux => exU_mk) hq)


set_option maxHeartbeats 400000 in
set_option maxRecDepth 100000 in
theorem a_X6_put (l : Launch) (D : va_G) (cI cS : ClassId) (a : Nat → Nat) (u : WT) (s : St) (sz : Nat) (hf : Nat → St) (hok : UOk u s sz hf) (d : Nat) (hd : d < 7) (y : Int32) (hy0 : ¬ y < 0) (hy9 : y ≤ 99999) (zz : Nat) : Met l yX6_put (.code yX6_put cX6_put 4 (some .int) :: wsA) ({ frames := 4, cells := 0, slots := 0, locals := 86 } : Room) (va_Pc [.ref (a 112), .int (nI d), .int y] (PW D cI cS 113 a (exU cI cS a u) zz)) (va_Qi (fun (r : Int32) (uw : WT) => r = s 1 d ∧ UOk uw (mvS s d y) (svQ sz + 1) (svH hf sz s)) (BW D 113 a (fun uw => exU cI cS a uw)) (AX 113 a zz)) 0 0 (AX 113 a zz) := by
  obtain ⟨s9, st, pi, mi, po⟩ := u
  obtain ⟨q1, q2, q3, q4, q5, q6⟩ := id hok
  have q1 : s9 = s := q1
  subst q1
  exact met_cq (m_X6_put l D cI cS a s9 st pi mi po sz q2 q3 q4 d hd y hy0 hy9 zz) (fun aa z o t hq => qi_cq (fun ux => (mvS s9 d y, va_up st (svPi pi sz (svQ sz) + 1) s9, svPi pi sz, up2 mi 0 0 (nI (svQ sz + 1)), po)) (fun r ux hr => ⟨hr, hok.sv⟩) (fun ux => exU_mk) hq)


set_option maxHeartbeats 400000 in
set_option maxRecDepth 100000 in
theorem a_X6_drift (l : Launch) (D : va_G) (cI cS : ClassId) (a : Nat → Nat) (u : WT) (s : St) (sz : Nat) (hf : Nat → St) (hok : UOk u s sz hf) (d : Nat) (hd : d < 7) (y : Int32) (hy0 : ¬ y < (-5)) (hy9 : y ≤ 5) (zz : Nat) : Met l yX6_drift (.code yX6_drift cX6_drift 4 (some .int) :: wsA) ({ frames := 4, cells := 0, slots := 0, locals := 86 } : Room) (va_Pc [.ref (a 112), .int (nI d), .int y] (PW D cI cS 113 a (exU cI cS a u) zz)) (va_Qi (fun (r : Int32) (uw : WT) => r = s 2 d ∧ UOk uw (up2 s 2 d y) (svQ sz + 1) (svH hf sz s)) (BW D 113 a (fun uw => exU cI cS a uw)) (AX 113 a zz)) 0 0 (AX 113 a zz) := by
  obtain ⟨s9, st, pi, mi, po⟩ := u
  obtain ⟨q1, q2, q3, q4, q5, q6⟩ := id hok
  have q1 : s9 = s := q1
  subst q1
  exact met_cq (m_X6_drift l D cI cS a s9 st pi mi po sz q2 q3 q4 d hd y hy0 hy9 zz) (fun aa z o t hq => qi_cq (fun ux => (up2 s9 2 d y, va_up st (svPi pi sz (svQ sz) + 1) s9, svPi pi sz, up2 mi 0 0 (nI (svQ sz + 1)), po)) (fun r ux hr => ⟨hr, hok.sv⟩) (fun ux => exU_mk) hq)


set_option maxHeartbeats 400000 in
set_option maxRecDepth 100000 in
theorem a_X6_warden (l : Launch) (D : va_G) (cI cS : ClassId) (a : Nat → Nat) (u : WT) (s : St) (sz : Nat) (hf : Nat → St) (hok : UOk u s sz hf) (w : Nat) (hw : w < 7) (x y : Int32) (hx0 : ¬ x < 0) (hx9 : x ≤ 9) (hy0 : ¬ y < (-60)) (hy9 : y ≤ 60) (zz : Nat) : Met l yX6_warden (.code yX6_warden cX6_warden 5 (some .int) :: wsA) ({ frames := 4, cells := 0, slots := 0, locals := 86 } : Room) (va_Pc [.ref (a 112), .int (nI w), .int x, .int y] (PW D cI cS 113 a (exU cI cS a u) zz)) (va_Qi (fun (r : Int32) (uw : WT) => r = s 7 w ∧ UOk uw (up2 (up2 s 7 w x) 8 w y) (svQ sz + 1) (svH hf sz s)) (BW D 113 a (fun uw => exU cI cS a uw)) (AX 113 a zz)) 0 0 (AX 113 a zz) := by
  obtain ⟨s9, st, pi, mi, po⟩ := u
  obtain ⟨q1, q2, q3, q4, q5, q6⟩ := id hok
  have q1 : s9 = s := q1
  subst q1
  exact met_cq (m_X6_warden l D cI cS a s9 st pi mi po sz q2 q3 q4 w hw x y hx0 hx9 hy0 hy9 zz) (fun aa z o t hq => qi_cq (fun ux => (up2 (up2 s9 7 w x) 8 w y, va_up st (svPi pi sz (svQ sz) + 1) s9, svPi pi sz, up2 mi 0 0 (nI (svQ sz + 1)), po)) (fun r ux hr => ⟨hr, hok.sv⟩) (fun ux => exU_mk) hq)


set_option maxHeartbeats 400000 in
set_option maxRecDepth 100000 in
theorem a_X6_set (l : Launch) (D : va_G) (cI cS : ClassId) (a : Nat → Nat) (u : WT) (s : St) (sz : Nat) (hf : Nat → St) (hok : UOk u s sz hf) (q : Nat) (hq : q < 2) (y : Int32) (hy0 : ¬ y < 0) (hy9 : y ≤ 99) (zz : Nat) : Met l yX6_set (.code yX6_set cX6_set 4 (some .int) :: wsA) ({ frames := 4, cells := 0, slots := 0, locals := 86 } : Room) (va_Pc [.ref (a 112), .int (nI q), .int y] (PW D cI cS 113 a (exU cI cS a u) zz)) (va_Qi (fun (r : Int32) (uw : WT) => r = s 10 q ∧ UOk uw (up2 s 10 q y) (svQ sz + 1) (svH hf sz s)) (BW D 113 a (fun uw => exU cI cS a uw)) (AX 113 a zz)) 0 0 (AX 113 a zz) := by
  obtain ⟨s9, st, pi, mi, po⟩ := u
  obtain ⟨q1, q2, q3, q4, q5, q6⟩ := id hok
  have q1 : s9 = s := q1
  subst q1
  exact met_cq (m_X6_set l D cI cS a s9 st pi mi po sz q2 q3 q4 q hq y hy0 hy9 zz) (fun aa z o t hq => qi_cq (fun ux => (up2 s9 10 q y, va_up st (svPi pi sz (svQ sz) + 1) s9, svPi pi sz, up2 mi 0 0 (nI (svQ sz + 1)), po)) (fun r ux hr => ⟨hr, hok.sv⟩) (fun ux => exU_mk) hq)


set_option maxHeartbeats 400000 in
set_option maxRecDepth 100000 in
theorem a_X6_keep (l : Launch) (D : va_G) (cI cS : ClassId) (a : Nat → Nat) (u : WT) (s : St) (sz : Nat) (hf : Nat → St) (hok : UOk u s sz hf) (zz : Nat) : Met l yX6_keep (.code yX6_keep cX6_keep 1 (some .int) :: wsA) ({ frames := 3, cells := 0, slots := 0, locals := 64 } : Room) (va_Pc [.ref (a 112)] (PW D cI cS 113 a (exU cI cS a u) zz)) (va_Qi (fun (r : Int32) (uw : WT) => r = s 0 1 ∧ UOk uw s sz hf) (BW D 113 a (fun uw => exU cI cS a uw)) (AX 113 a zz)) 0 0 (AX 113 a zz) := by
  obtain ⟨s9, st, pi, mi, po⟩ := u
  obtain ⟨q1, q2, q3, q4, q5, q6⟩ := id hok
  have q1 : s9 = s := q1
  subst q1
  exact met_cq (m_X6_keep l D cI cS a s9 st pi mi po  zz) (fun aa z o t hq => qi_cq (fun ux => (s9, va_up st 0 s9, pi, up2 mi 0 2 1, po)) (fun r ux hr => ⟨hr, hok.kp⟩) (fun ux => exU_mk) hq)


set_option maxHeartbeats 400000 in
set_option maxRecDepth 100000 in
theorem a_X6_undo (l : Launch) (D : va_G) (cI cS : ClassId) (a : Nat → Nat) (u : WT) (s : St) (sz : Nat) (hf : Nat → St) (hok : UOk u s sz hf) (h1 : 1 ≤ sz) (zz : Nat) : Met l yX6_undo (.code yX6_undo cX6_undo 1 (some .int) :: wsA) ({ frames := 4, cells := 0, slots := 0, locals := 86 } : Room) (va_Pc [.ref (a 112)] (PW D cI cS 113 a (exU cI cS a u) zz)) (va_Qi (fun (r : Int32) (uw : WT) => r = nI (sz - 1) ∧ UOk uw (hf (sz - 1)) (sz - 1) hf) (BW D 113 a (fun uw => exU cI cS a uw)) (AX 113 a zz)) 0 0 (AX 113 a zz) := by
  obtain ⟨s9, st, pi, mi, po⟩ := u
  obtain ⟨q1, q2, q3, q4, q5, q6⟩ := id hok
  have q1 : s9 = s := q1
  subst q1
  exact met_cq (m_X6_undo l D cI cS a s9 st pi mi po sz q2 q3 q4 h1 zz) (fun aa z o t hq => qi_cq (fun ux => (st (pi (sz - 1) + 1), st, pi, up2 mi 0 0 (nI (sz - 1)), po)) (fun r ux hr => ⟨hr, hok.un h1⟩) (fun ux => exU_mk) hq)


set_option maxHeartbeats 400000 in
set_option maxRecDepth 100000 in
theorem a_X6_says (l : Launch) (D : va_G) (cI cS : ClassId) (a : Nat → Nat) (u : WT) (s : St) (sz : Nat) (hf : Nat → St) (hok : UOk u s sz hf) (w q : Nat) (hw : w < 7) (hq : q < 6) (zz : Nat) : Met l yX6_says (.code yX6_says cX6_says 3 (some .int) :: wsA) ({ frames := 5, cells := 0, slots := 0, locals := 109 } : Room) (va_Pc [.ref (a 112), .int (nI w), .int (nI q)] (PW D cI cS 113 a (exU cI cS a u) zz)) (va_Qi (fun (r : Int32) (uw : WT) => r = wardN s w q ∧ UOk uw s sz hf) (BW D 113 a (fun uw => exU cI cS a uw)) (AX 113 a zz)) 0 0 (AX 113 a zz) := by
  obtain ⟨s9, st, pi, mi, po⟩ := u
  obtain ⟨q1, q2, q3, q4, q5, q6⟩ := id hok
  have q1 : s9 = s := q1
  subst q1
  exact met_cq (m_X6_says l D cI cS a s9 st pi mi po w q hw hq zz) (fun aa z o t hq => qi_cq (fun ux => (s9, st, pi, mi, ux)) (fun r ux hr => ⟨hr, hok.po⟩) (fun ux => exU_mk) hq)


set_option maxHeartbeats 400000 in
set_option maxRecDepth 100000 in
theorem a_X6_count (l : Launch) (D : va_G) (cI cS : ClassId) (a : Nat → Nat) (u : WT) (s : St) (sz : Nat) (hf : Nat → St) (hok : UOk u s sz hf) (q : Nat) (hq : q < 14) (zz : Nat) : Met l yX6_count (.code yX6_count cX6_count 2 (some .int) :: wsA) ({ frames := 5, cells := 0, slots := 0, locals := 108 } : Room) (va_Pc [.ref (a 112), .int (nI q)] (PW D cI cS 113 a (exU cI cS a u) zz)) (va_Qi (fun (r : Int32) (uw : WT) => r = counN s sz q ∧ UOk uw s sz hf) (BW D 113 a (fun uw => exU cI cS a uw)) (AX 113 a zz)) 0 0 (AX 113 a zz) := by
  obtain ⟨s9, st, pi, mi, po⟩ := u
  obtain ⟨q1, q2, q3, q4, q5, q6⟩ := id hok
  have q1 : s9 = s := q1
  subst q1
  exact met_cq (m_X6_count l D cI cS a s9 st pi mi po sz q hq q3 zz) (fun aa z o t hq => qi_cq (fun ux => (s9, st, pi, mi, ux)) (fun r ux hr => ⟨hr, hok.po⟩) (fun ux => exU_mk) hq)


set_option maxHeartbeats 400000 in
set_option maxRecDepth 100000 in
theorem a_X6_without (l : Launch) (D : va_G) (cI cS : ClassId) (a : Nat → Nat) (u : WT) (s : St) (sz : Nat) (hf : Nat → St) (hok : UOk u s sz hf) (w : Nat) (hw : w < 7) (zz : Nat) : Met l yX6_without (.code yX6_without cX6_without 2 (some .int) :: wsA) ({ frames := 4, cells := 0, slots := 0, locals := 88 } : Room) (va_Pc [.ref (a 112), .int (nI w)] (PW D cI cS 113 a (exU cI cS a u) zz)) (va_Qi (fun (r : Int32) (uw : WT) => r = midW s w 0 ∧ UOk uw s sz hf) (BW D 113 a (fun uw => exU cI cS a uw)) (AX 113 a zz)) 0 0 (AX 113 a zz) := by
  obtain ⟨s9, st, pi, mi, po⟩ := u
  obtain ⟨q1, q2, q3, q4, q5, q6⟩ := id hok
  have q1 : s9 = s := q1
  subst q1
  exact met_cq (m_X6_without l D cI cS a s9 st pi mi po w hw zz) (fun aa z o t hq => qi_cq (fun ux => (s9, st, pi, mi, ux)) (fun r ux hr => ⟨hr, hok.po⟩) (fun ux => exU_mk) hq)


set_option maxHeartbeats 400000 in
set_option maxRecDepth 100000 in
theorem a_X6_pivot (l : Launch) (D : va_G) (cI cS : ClassId) (a : Nat → Nat) (u : WT) (s : St) (sz : Nat) (hf : Nat → St) (hok : UOk u s sz hf) (zz : Nat) : Met l yX6_pivot (.code yX6_pivot cX6_pivot 7 (some .int) :: wsA) ({ frames := 4, cells := 0, slots := 0, locals := 88 } : Room) (va_Pc [.ref (a 112)] (PW D cI cS 113 a (exU cI cS a u) zz)) (va_Qi (fun (r : Int32) (uw : WT) => r = pivI s ∧ UOk uw s sz hf) (BW D 113 a (fun uw => exU cI cS a uw)) (AX 113 a zz)) 0 0 (AX 113 a zz) := by
  obtain ⟨s9, st, pi, mi, po⟩ := u
  obtain ⟨q1, q2, q3, q4, q5, q6⟩ := id hok
  have q1 : s9 = s := q1
  subst q1
  exact met_cq (m_X6_pivot l D cI cS a s9 st pi mi po  zz) (fun aa z o t hq => qi_cq (fun ux => (s9, st, pi, mi, ux)) (fun r ux hr => ⟨hr, hok.po⟩) (fun ux => exU_mk) hq)


set_option maxHeartbeats 400000 in
set_option maxRecDepth 100000 in
theorem a_X6_wins (l : Launch) (D : va_G) (cI cS : ClassId) (a : Nat → Nat) (u : WT) (s : St) (sz : Nat) (hf : Nat → St) (hok : UOk u s sz hf) (w : Nat) (hw : w < 7) (zz : Nat) : Met l yX6_wins (.code yX6_wins cX6_wins 4 (some .int) :: wsA) ({ frames := 4, cells := 0, slots := 0, locals := 88 } : Room) (va_Pc [.ref (a 112), .int (nI w)] (PW D cI cS 113 a (exU cI cS a u) zz)) (va_Qi (fun (r : Int32) (uw : WT) => r = winF s w 9 1 ∧ UOk uw s sz hf) (BW D 113 a (fun uw => exU cI cS a uw)) (AX 113 a zz)) 0 0 (AX 113 a zz) := by
  obtain ⟨s9, st, pi, mi, po⟩ := u
  obtain ⟨q1, q2, q3, q4, q5, q6⟩ := id hok
  have q1 : s9 = s := q1
  subst q1
  exact met_cq (m_X6_wins l D cI cS a s9 st pi mi po w hw zz) (fun aa z o t hq => qi_cq (fun ux => (s9, st, pi, mi, ux)) (fun r ux hr => ⟨hr, hok.po⟩) (fun ux => exU_mk) hq)


set_option maxHeartbeats 400000 in
set_option maxRecDepth 100000 in
theorem a_X6_dial (l : Launch) (D : va_G) (cI cS : ClassId) (a : Nat → Nat) (u : WT) (s : St) (sz : Nat) (hf : Nat → St) (hok : UOk u s sz hf) (d q : Nat) (hd : d < 7) (hq : q < 7) : Met l yX6_dial (.code yX6_dial cX6_dial 3 (some .int) :: wsA) ({ frames := 3, cells := 0, slots := 0, locals := 64 } : Room) (va_Pc [.ref (a 112), .int (nI d), .int (nI q)] (PR D cI cS 113 a (exU cI cS a u))) (vp_Si (fun r => r = dialN s d q)) 0 0 (fun _ => False) := by
  obtain ⟨s9, st, pi, mi, po⟩ := u
  have q1 : s9 = s := hok.1
  subst q1
  exact m_X6_dial l D cI cS a s9 st pi mi po d q hd hq


set_option maxHeartbeats 400000 in
set_option maxRecDepth 100000 in
theorem a_X6_setting (l : Launch) (D : va_G) (cI cS : ClassId) (a : Nat → Nat) (u : WT) (s : St) (sz : Nat) (hf : Nat → St) (hok : UOk u s sz hf) (q : Nat) (hq : q < 2) : Met l yX6_setting (.code yX6_setting cX6_setting 2 (some .int) :: wsA) ({ frames := 1, cells := 0, slots := 0, locals := 20 } : Room) (va_Pc [.ref (a 112), .int (nI q)] (PR D cI cS 113 a (exU cI cS a u))) (vp_Si (fun r => r = s 10 q)) 0 0 (fun _ => False) := by
  obtain ⟨s9, st, pi, mi, po⟩ := u
  have q1 : s9 = s := hok.1
  subst q1
  exact m_X6_setting l D cI cS a s9 st pi mi po q hq


set_option maxHeartbeats 400000 in
set_option maxRecDepth 100000 in
theorem a_X6_quarrelIn (l : Launch) (D : va_G) (cI cS : ClassId) (a : Nat → Nat) (u : WT) (s : St) (sz : Nat) (hf : Nat → St) (hok : UOk u s sz hf) (d : Nat) (hd : d < 7) : Met l yX6_quarrelIn (.code yX6_quarrelIn cX6_quarrelIn 2 (some .int) :: wsA) ({ frames := 3, cells := 0, slots := 0, locals := 68 } : Room) (va_Pc [.ref (a 112), .int (nI d)] (PR D cI cS 113 a (exU cI cS a u))) (vp_Si (fun r => r = qF s d (behN d) 201 0 (s 1 d) (s 1 (behN d)))) 0 0 (fun _ => False) := by
  obtain ⟨s9, st, pi, mi, po⟩ := u
  have q1 : s9 = s := hok.1
  subst q1
  exact m_X6_quarrelIn l D cI cS a s9 st pi mi po d hd


set_option maxHeartbeats 400000 in
set_option maxRecDepth 100000 in
theorem a_X6_ringsIn (l : Launch) (D : va_G) (cI cS : ClassId) (a : Nat → Nat) (u : WT) (s : St) (sz : Nat) (hf : Nat → St) (hok : UOk u s sz hf) (d : Nat) (hd : d < 7) : Met l yX6_ringsIn (.code yX6_ringsIn cX6_ringsIn 2 (some .int) :: wsA) ({ frames := 2, cells := 0, slots := 0, locals := 47 } : Room) (va_Pc [.ref (a 112), .int (nI d)] (PR D cI cS 113 a (exU cI cS a u))) (vp_Si (fun r => r = ringF s d (s 1 d / 60) 200 1 (s 1 d))) 0 0 (fun _ => False) := by
  obtain ⟨s9, st, pi, mi, po⟩ := u
  have q1 : s9 = s := hok.1
  subst q1
  exact m_X6_ringsIn l D cI cS a s9 st pi mi po d hd


set_option maxHeartbeats 400000 in
set_option maxRecDepth 100000 in
theorem a_X6_heldShare (l : Launch) (D : va_G) (cI cS : ClassId) (a : Nat → Nat) (u : WT) (s : St) (sz : Nat) (hf : Nat → St) (hok : UOk u s sz hf) (hh2 : 0 ≤ (s 0 3).toInt) (hv2 : 0 ≤ (s 0 2).toInt) : Met l yX6_heldShare (.code yX6_heldShare cX6_heldShare 1 (some .double) :: wsA) ({ frames := 0, cells := 0, slots := 0, locals := 0 } : Room) (va_Pc [.ref (a 112)] (PR D cI cS 113 a (exU cI cS a u))) (vp_Sd (fun r => r = shareD s)) 0 0 (fun _ => False) := by
  obtain ⟨s9, st, pi, mi, po⟩ := u
  have q1 : s9 = s := hok.1
  subst q1
  exact m_X6_heldShare l D cI cS a s9 st pi mi po hh2 hv2


set_option maxHeartbeats 400000 in
set_option maxRecDepth 100000 in
theorem a_X6_meanError (l : Launch) (D : va_G) (cI cS : ClassId) (a : Nat → Nat) (u : WT) (s : St) (sz : Nat) (hf : Nat → St) (hok : UOk u s sz hf) (hE0 : 0 ≤ (errC s 7).toInt) : Met l yX6_meanError (.code yX6_meanError cX6_meanError 3 (some .float) :: wsA) ({ frames := 2, cells := 0, slots := 0, locals := 42 } : Room) (va_Pc [.ref (a 112)] (PR D cI cS 113 a (exU cI cS a u))) (vp_Sf (fun r => r = meanF s)) 0 0 (fun _ => False) := by
  obtain ⟨s9, st, pi, mi, po⟩ := u
  have q1 : s9 = s := hok.1
  subst q1
  exact m_X6_meanError l D cI cS a s9 st pi mi po hE0

