/-! THE LAW'S OWN METHODS: one call of the class, what it throws as a number -/
section WRAP
def rmL_joint : Room := { frames := 8, cells := 2, slots := 12, locals := 125 }
theorem mL_joint_k13 : Cond.classLink RL 13 IAE ∈ wsL_joint := by decide +kernel
theorem mL_joint_k15 : Cond.classLink RL 15 ISE ∈ wsL_joint := by decide +kernel
set_option maxRecDepth 100000 in
set_option maxHeartbeats 4000000 in
theorem ct_L_joint {a0 a1 : Int} {S : St} {o c r : Int} {V' : St} (ra0 : r32 a0) (ra1 : r32 a1) (hc : 0 ≤ c ∧ c ≤ 2) (hC : DoC [IAE, ISE] c r V' (M_X6_joint a0 a1 S)) : ML yL_joint wsL_joint rmL_joint (fun G => [.ref (G.2.2 0), iV a0, iV a1, .ref (G.2.2 90)]) (S, o) (fun q u => q = c ∧ vw u.1 = V' ∧ (c = 0 → u.2 = r)) := by
  refine ML_of (by decide +kernel) rfl (Lf := fun G => [some (.ref (G.2.2 0)), some (iV a0), some (iV a1), some (.ref (G.2.2 90)), none]) (fun G => by show _ ≤ _; exact Nat.le_of_ble_eq_true rfl) (fun G => rfl) ?_
  intro p l e s m args below meth cd G A C hn hok
  replace C : Cx wX cL_joint 5 RL wsL_joint (some .int) [(0, 10, 13, 13), (0, 10, 17, 15)] p l s m args meth cd G A := C
  have M := hC (fun r1 S1 => c = 0 ∧ r1 = r ∧ vw S1 = V') (fun N S1 => c ≠ 0 ∧ vw S1 = V' ∧ N = [IAE, ISE].getD (c.toNat - 1) "") (fun z S1 h => ⟨z, rfl, h⟩) (fun z S1 h => ⟨z, h, rfl⟩) ra0 ra1
  show J wX 5 rmL_joint p l e s m args below meth cd G A (QQ 1 wX okX G (fun q u => q = c ∧ vw u.1 = V' ∧ (c = 0 → u.2 = r)) (fun _ _ => False) A below args s rmL_joint.cells rmL_joint.slots) 0 0 (S, o) [some (.ref (G.2.2 0)), some (iV a0), some (iV a1), some (.ref (G.2.2 90)), none] [] 0
  refine J_aload_n (pc := 0) C dL_joint_0 rfl ?_
  refine J_iconst (pc := 1) C dL_joint_1 ?_
  refine J_aload_n (pc := 2) C dL_joint_2 rfl ?_
  refine J_iload_n (pc := 3) C dL_joint_3 rfl ?_
  refine J_iload_n (pc := 4) C dL_joint_4 rfl ?_
  refine J_e1 (pc := 5) C (emb_XC G S o) (J_eV (pc := 5) C (emb_XC G S o) M dL_joint_5 rfl rfl 0 rfl rfl (cwV 2 C.1.2.2.2.2 gL_joint_X6_joint rfl rfl rfl (by decide +kernel) ⟨Nat.le_of_ble_eq_true rfl, Nat.le_of_ble_eq_true rfl⟩) hok (Nat.le_of_ble_eq_true rfl) ⟨Nat.le_of_ble_eq_true rfl, Nat.le_of_ble_eq_true rfl⟩) (fun N S1 hok1 q1 => ?_) (fun r1 S1 hr1 hok1 q1 => ?_)
  · obtain ⟨hc0, hv, hN⟩ := q1
    rcases (show c = 1 ∨ c = 2 by omega) with rfl | rfl
    · have hN : N = IAE := hN
      subst hN
      refine J_catch (pc := 5) C hn [] (0, 10, 13, 13) [(0, 10, 17, 15)] rfl (by decide) (fun z hz => nomatch hz) (by decide) mL_joint_k13 (by decide) (fun q9 => ?_)
      refine J_astore (pc := 13) C dL_joint_13 (by decide) ?_
      refine J_iconst (pc := 15) C dL_joint_15 ?_
      exact J_iret (pc := 16) C dL_joint_16 (by decide) hok1 ⟨rfl, hv, fun z => absurd z (by decide)⟩ (Nat.le_of_ble_eq_true rfl) (Nat.le_of_ble_eq_true rfl)
    · have hN : N = ISE := hN
      subst hN
      refine J_catch (pc := 5) C hn [(0, 10, 13, 13)] (0, 10, 17, 15) [] rfl (by decide) (fun z hz => by
        simp only [List.mem_cons, List.not_mem_nil, or_false] at hz
        rcases hz with rfl
        · exact ⟨by decide, _, mL_joint_k13, by decide⟩) (by decide) mL_joint_k15 (by decide) (fun q9 => ?_)
      refine J_astore (pc := 17) C dL_joint_17 (by decide) ?_
      refine J_iconst (pc := 19) C dL_joint_19 ?_
      exact J_iret (pc := 20) C dL_joint_20 (by decide) hok1 ⟨rfl, hv, fun z => absurd z (by decide)⟩ (Nat.le_of_ble_eq_true rfl) (Nat.le_of_ble_eq_true rfl)
  · obtain ⟨hc0, hr0, hv⟩ := q1
    subst hc0
    refine J_i2l (pc := 8) C dL_joint_8 hr1 ?_
    refine J_outst (pc := 9) C dL_joint_9 ?_
    refine J_goto (pc := 10) (tgt := 21) C dL_joint_10 (by decide) ?_
    refine J_iconst (pc := 21) C dL_joint_21 ?_
    exact J_iret (pc := 22) C dL_joint_22 (by decide) hok1 ⟨rfl, hv, fun _ => hr0⟩ (Nat.le_of_ble_eq_true rfl) (Nat.le_of_ble_eq_true rfl)
def rmL_move : Room := { frames := 8, cells := 2, slots := 12, locals := 126 }
theorem mL_move_k21 : Cond.classLink RL 21 IOOBE ∈ wsL_move := by decide +kernel
theorem mL_move_k13 : Cond.classLink RL 13 IAE ∈ wsL_move := by decide +kernel
set_option maxRecDepth 100000 in
set_option maxHeartbeats 4000000 in
theorem ct_L_move {a0 a1 a2 : Int} {S : St} {o c r : Int} {V' : St} (ra0 : r32 a0) (ra1 : r32 a1) (ra2 : r32 a2) (hc : 0 ≤ c ∧ c ≤ 2) (hC : DoC [IOOBE, IAE] c r V' (M_X6_move a0 a1 a2 S)) : ML yL_move wsL_move rmL_move (fun G => [.ref (G.2.2 0), iV a0, iV a1, iV a2]) (S, o) (fun q u => q = c ∧ vw u.1 = V') := by
  refine ML_of (by decide +kernel) rfl (Lf := fun G => [some (.ref (G.2.2 0)), some (iV a0), some (iV a1), some (iV a2), none]) (fun G => by show _ ≤ _; exact Nat.le_of_ble_eq_true rfl) (fun G => rfl) ?_
  intro p l e s m args below meth cd G A C hn hok
  replace C : Cx wX cL_move 5 RL wsL_move (some .int) [(0, 7, 10, 21), (0, 7, 14, 13)] p l s m args meth cd G A := C
  have M := hC (fun r1 S1 => c = 0 ∧ r1 = r ∧ vw S1 = V') (fun N S1 => c ≠ 0 ∧ vw S1 = V' ∧ N = [IOOBE, IAE].getD (c.toNat - 1) "") (fun z S1 h => ⟨z, rfl, h⟩) (fun z S1 h => ⟨z, h, rfl⟩) ra0 ra1 ra2
  show J wX 5 rmL_move p l e s m args below meth cd G A (QQ 1 wX okX G (fun q u => q = c ∧ vw u.1 = V') (fun _ _ => False) A below args s rmL_move.cells rmL_move.slots) 0 0 (S, o) [some (.ref (G.2.2 0)), some (iV a0), some (iV a1), some (iV a2), none] [] 0
  refine J_aload_n (pc := 0) C dL_move_0 rfl ?_
  refine J_iload_n (pc := 1) C dL_move_1 rfl ?_
  refine J_iload_n (pc := 2) C dL_move_2 rfl ?_
  refine J_iload_n (pc := 3) C dL_move_3 rfl ?_
  refine J_e0 (pc := 4) C (emb_XC G S o) (J_eV (pc := 4) C (emb_XC G S o) M dL_move_4 rfl rfl 0 rfl rfl (cwV 3 C.1.2.2.2.2 gL_move_X6_move rfl rfl rfl (by decide +kernel) ⟨Nat.le_of_ble_eq_true rfl, Nat.le_of_ble_eq_true rfl⟩) hok (Nat.le_of_ble_eq_true rfl) ⟨Nat.le_of_ble_eq_true rfl, Nat.le_of_ble_eq_true rfl⟩) (fun N S1 hok1 q1 => ?_) (fun S1 hok1 q1 => ?_)
  · obtain ⟨hc0, hv, hN⟩ := q1
    rcases (show c = 1 ∨ c = 2 by omega) with rfl | rfl
    · have hN : N = IOOBE := hN
      subst hN
      refine J_catch (pc := 4) C hn [] (0, 7, 10, 21) [(0, 7, 14, 13)] rfl (by decide) (fun z hz => nomatch hz) (by decide) mL_move_k21 (by decide) (fun q9 => ?_)
      refine J_astore (pc := 10) C dL_move_10 (by decide) ?_
      refine J_iconst (pc := 12) C dL_move_12 ?_
      exact J_iret (pc := 13) C dL_move_13 (by decide) hok1 ⟨rfl, hv⟩ (Nat.le_of_ble_eq_true rfl) (Nat.le_of_ble_eq_true rfl)
    · have hN : N = IAE := hN
      subst hN
      refine J_catch (pc := 4) C hn [(0, 7, 10, 21)] (0, 7, 14, 13) [] rfl (by decide) (fun z hz => by
        simp only [List.mem_cons, List.not_mem_nil, or_false] at hz
        rcases hz with rfl
        · exact ⟨by decide, _, mL_move_k21, by decide⟩) (by decide) mL_move_k13 (by decide) (fun q9 => ?_)
      refine J_astore (pc := 14) C dL_move_14 (by decide) ?_
      refine J_iconst (pc := 16) C dL_move_16 ?_
      exact J_iret (pc := 17) C dL_move_17 (by decide) hok1 ⟨rfl, hv⟩ (Nat.le_of_ble_eq_true rfl) (Nat.le_of_ble_eq_true rfl)
  · obtain ⟨hc0, -, hv⟩ := q1
    subst hc0
    refine J_goto (pc := 7) (tgt := 18) C dL_move_7 (by decide) ?_
    refine J_iconst (pc := 18) C dL_move_18 ?_
    exact J_iret (pc := 19) C dL_move_19 (by decide) hok1 ⟨rfl, hv⟩ (Nat.le_of_ble_eq_true rfl) (Nat.le_of_ble_eq_true rfl)
def rmL_pin : Room := { frames := 8, cells := 1, slots := 6, locals := 126 }
theorem mL_pin_k21 : Cond.classLink RL 21 IOOBE ∈ wsL_pin := by decide +kernel
set_option maxRecDepth 100000 in
set_option maxHeartbeats 4000000 in
theorem ct_L_pin {a0 a1 : Int} {S : St} {o c r : Int} {V' : St} (ra0 : r32 a0) (ra1 : r32 a1) (hc : 0 ≤ c ∧ c ≤ 1) (hC : DoC [IOOBE] c r V' (M_X6_pin a0 a1 S)) : ML yL_pin wsL_pin rmL_pin (fun G => [.ref (G.2.2 0), iV a0, iV a1, .ref (G.2.2 90)]) (S, o) (fun q u => q = c ∧ vw u.1 = V' ∧ (c = 0 → u.2 = (if r = 0 then 0 else 1))) := by
  refine ML_of (by decide +kernel) rfl (Lf := fun G => [some (.ref (G.2.2 0)), some (iV a0), some (iV a1), some (.ref (G.2.2 90)), none]) (fun G => by show _ ≤ _; exact Nat.le_of_ble_eq_true rfl) (fun G => rfl) ?_
  intro p l e s m args below meth cd G A C hn hok
  replace C : Cx wX cL_pin 5 RL wsL_pin (some .int) [(0, 17, 20, 21)] p l s m args meth cd G A := C
  have M := hC (fun r1 S1 => c = 0 ∧ r1 = r ∧ vw S1 = V') (fun N S1 => c ≠ 0 ∧ vw S1 = V' ∧ N = [IOOBE].getD (c.toNat - 1) "") (fun z S1 h => ⟨z, rfl, h⟩) (fun z S1 h => ⟨z, h, rfl⟩) ra0 ra1
  show J wX 5 rmL_pin p l e s m args below meth cd G A (QQ 1 wX okX G (fun q u => q = c ∧ vw u.1 = V' ∧ (c = 0 → u.2 = (if r = 0 then 0 else 1))) (fun _ _ => False) A below args s rmL_pin.cells rmL_pin.slots) 0 0 (S, o) [some (.ref (G.2.2 0)), some (iV a0), some (iV a1), some (.ref (G.2.2 90)), none] [] 0
  refine J_aload_n (pc := 0) C dL_pin_0 rfl ?_
  refine J_iconst (pc := 1) C dL_pin_1 ?_
  refine J_aload_n (pc := 2) C dL_pin_2 rfl ?_
  refine J_iload_n (pc := 3) C dL_pin_3 rfl ?_
  refine J_iload_n (pc := 4) C dL_pin_4 rfl ?_
  refine J_e1 (pc := 5) C (emb_XC G S o) (J_eV (pc := 5) C (emb_XC G S o) M dL_pin_5 rfl rfl 0 rfl rfl (cwV 2 C.1.2.2.2.2 gL_pin_X6_pin rfl rfl rfl (by decide +kernel) ⟨Nat.le_of_ble_eq_true rfl, Nat.le_of_ble_eq_true rfl⟩) hok (Nat.le_of_ble_eq_true rfl) ⟨Nat.le_of_ble_eq_true rfl, Nat.le_of_ble_eq_true rfl⟩) (fun N S1 hok1 q1 => ?_) (fun r1 S1 hr1 hok1 q1 => ?_)
  · obtain ⟨hc0, hv, hN⟩ := q1
    rcases (show c = 1 by omega) with rfl
    · have hN : N = IOOBE := hN
      subst hN
      refine J_catch (pc := 5) C hn [] (0, 17, 20, 21) [] rfl (by decide) (fun z hz => nomatch hz) (by decide) mL_pin_k21 (by decide) (fun q9 => ?_)
      refine J_astore (pc := 20) C dL_pin_20 (by decide) ?_
      refine J_iconst (pc := 22) C dL_pin_22 ?_
      exact J_iret (pc := 23) C dL_pin_23 (by decide) hok1 ⟨rfl, hv, fun z => absurd z (by decide)⟩ (Nat.le_of_ble_eq_true rfl) (Nat.le_of_ble_eq_true rfl)
  · obtain ⟨hc0, hr0, hv⟩ := q1
    subst hc0
    refine J_if_eq (pc := 8) (tgt := 15) C dL_pin_8 (by decide) hr1 (fun cb => ?_) (fun cb => ?_)
    · rw [hr0] at cb
      refine J_lconst (pc := 15) C dL_pin_15 ?_
      refine J_outst (pc := 16) C dL_pin_16 ?_
      refine J_goto (pc := 17) (tgt := 24) C dL_pin_17 (by decide) ?_
      refine J_iconst (pc := 24) C dL_pin_24 ?_
      exact J_iret (pc := 25) C dL_pin_25 (by decide) hok1 ⟨rfl, hv, fun _ => by rw [if_pos cb]; rfl⟩ (Nat.le_of_ble_eq_true rfl) (Nat.le_of_ble_eq_true rfl)
    · rw [hr0] at cb
      refine J_lconst (pc := 11) C dL_pin_11 ?_
      refine J_goto (pc := 12) (tgt := 16) C dL_pin_12 (by decide) ?_
      refine J_outst (pc := 16) C dL_pin_16 ?_
      refine J_goto (pc := 17) (tgt := 24) C dL_pin_17 (by decide) ?_
      refine J_iconst (pc := 24) C dL_pin_24 ?_
      exact J_iret (pc := 25) C dL_pin_25 (by decide) hok1 ⟨rfl, hv, fun _ => by rw [if_neg cb]; rfl⟩ (Nat.le_of_ble_eq_true rfl) (Nat.le_of_ble_eq_true rfl)
def rmL_member : Room := { frames := 8, cells := 4, slots := 24, locals := 126 }
theorem mL_member_k21 : Cond.classLink RL 21 IOOBE ∈ wsL_member := by decide +kernel
theorem mL_member_k13 : Cond.classLink RL 13 IAE ∈ wsL_member := by decide +kernel
theorem mL_member_k15 : Cond.classLink RL 15 ISE ∈ wsL_member := by decide +kernel
set_option maxRecDepth 100000 in
set_option maxHeartbeats 4000000 in
theorem ct_L_member {a0 a1 a2 : Int} {S : St} {o c r : Int} {V' : St} (ra0 : r32 a0) (ra1 : r32 a1) (ra2 : r32 a2) (hc : 0 ≤ c ∧ c ≤ 3) (hC : DoC [IOOBE, IAE, ISE] c r V' (M_X6_member a0 a1 a2 S)) : ML yL_member wsL_member rmL_member (fun G => [.ref (G.2.2 0), iV a0, iV a1, iV a2, .ref (G.2.2 90)]) (S, o) (fun q u => q = c ∧ vw u.1 = V' ∧ (c = 0 → u.2 = r)) := by
  refine ML_of (by decide +kernel) rfl (Lf := fun G => [some (.ref (G.2.2 0)), some (iV a0), some (iV a1), some (iV a2), some (.ref (G.2.2 90)), none]) (fun G => by show _ ≤ _; exact Nat.le_of_ble_eq_true rfl) (fun G => rfl) ?_
  intro p l e s m args below meth cd G A C hn hok
  replace C : Cx wX cL_member 6 RL wsL_member (some .int) [(0, 12, 15, 21), (0, 12, 19, 13), (0, 12, 23, 15)] p l s m args meth cd G A := C
  have M := hC (fun r1 S1 => c = 0 ∧ r1 = r ∧ vw S1 = V') (fun N S1 => c ≠ 0 ∧ vw S1 = V' ∧ N = [IOOBE, IAE, ISE].getD (c.toNat - 1) "") (fun z S1 h => ⟨z, rfl, h⟩) (fun z S1 h => ⟨z, h, rfl⟩) ra0 ra1 ra2
  show J wX 6 rmL_member p l e s m args below meth cd G A (QQ 1 wX okX G (fun q u => q = c ∧ vw u.1 = V' ∧ (c = 0 → u.2 = r)) (fun _ _ => False) A below args s rmL_member.cells rmL_member.slots) 0 0 (S, o) [some (.ref (G.2.2 0)), some (iV a0), some (iV a1), some (iV a2), some (.ref (G.2.2 90)), none] [] 0
  refine J_aload (pc := 0) C dL_member_0 rfl ?_
  refine J_iconst (pc := 2) C dL_member_2 ?_
  refine J_aload_n (pc := 3) C dL_member_3 rfl ?_
  refine J_iload_n (pc := 4) C dL_member_4 rfl ?_
  refine J_iload_n (pc := 5) C dL_member_5 rfl ?_
  refine J_iload_n (pc := 6) C dL_member_6 rfl ?_
  refine J_e1 (pc := 7) C (emb_XC G S o) (J_eV (pc := 7) C (emb_XC G S o) M dL_member_7 rfl rfl 0 rfl rfl (cwV 3 C.1.2.2.2.2 gL_member_X6_member rfl rfl rfl (by decide +kernel) ⟨Nat.le_of_ble_eq_true rfl, Nat.le_of_ble_eq_true rfl⟩) hok (Nat.le_of_ble_eq_true rfl) ⟨Nat.le_of_ble_eq_true rfl, Nat.le_of_ble_eq_true rfl⟩) (fun N S1 hok1 q1 => ?_) (fun r1 S1 hr1 hok1 q1 => ?_)
  · obtain ⟨hc0, hv, hN⟩ := q1
    rcases (show c = 1 ∨ c = 2 ∨ c = 3 by omega) with rfl | rfl | rfl
    · have hN : N = IOOBE := hN
      subst hN
      refine J_catch (pc := 7) C hn [] (0, 12, 15, 21) [(0, 12, 19, 13), (0, 12, 23, 15)] rfl (by decide) (fun z hz => nomatch hz) (by decide) mL_member_k21 (by decide) (fun q9 => ?_)
      refine J_astore (pc := 15) C dL_member_15 (by decide) ?_
      refine J_iconst (pc := 17) C dL_member_17 ?_
      exact J_iret (pc := 18) C dL_member_18 (by decide) hok1 ⟨rfl, hv, fun z => absurd z (by decide)⟩ (Nat.le_of_ble_eq_true rfl) (Nat.le_of_ble_eq_true rfl)
    · have hN : N = IAE := hN
      subst hN
      refine J_catch (pc := 7) C hn [(0, 12, 15, 21)] (0, 12, 19, 13) [(0, 12, 23, 15)] rfl (by decide) (fun z hz => by
        simp only [List.mem_cons, List.not_mem_nil, or_false] at hz
        rcases hz with rfl
        · exact ⟨by decide, _, mL_member_k21, by decide⟩) (by decide) mL_member_k13 (by decide) (fun q9 => ?_)
      refine J_astore (pc := 19) C dL_member_19 (by decide) ?_
      refine J_iconst (pc := 21) C dL_member_21 ?_
      exact J_iret (pc := 22) C dL_member_22 (by decide) hok1 ⟨rfl, hv, fun z => absurd z (by decide)⟩ (Nat.le_of_ble_eq_true rfl) (Nat.le_of_ble_eq_true rfl)
    · have hN : N = ISE := hN
      subst hN
      refine J_catch (pc := 7) C hn [(0, 12, 15, 21), (0, 12, 19, 13)] (0, 12, 23, 15) [] rfl (by decide) (fun z hz => by
        simp only [List.mem_cons, List.not_mem_nil, or_false] at hz
        rcases hz with rfl | rfl
        · exact ⟨by decide, _, mL_member_k21, by decide⟩
        · exact ⟨by decide, _, mL_member_k13, by decide⟩) (by decide) mL_member_k15 (by decide) (fun q9 => ?_)
      refine J_astore (pc := 23) C dL_member_23 (by decide) ?_
      refine J_iconst (pc := 25) C dL_member_25 ?_
      exact J_iret (pc := 26) C dL_member_26 (by decide) hok1 ⟨rfl, hv, fun z => absurd z (by decide)⟩ (Nat.le_of_ble_eq_true rfl) (Nat.le_of_ble_eq_true rfl)
  · obtain ⟨hc0, hr0, hv⟩ := q1
    subst hc0
    refine J_i2l (pc := 10) C dL_member_10 hr1 ?_
    refine J_outst (pc := 11) C dL_member_11 ?_
    refine J_goto (pc := 12) (tgt := 27) C dL_member_12 (by decide) ?_
    refine J_iconst (pc := 27) C dL_member_27 ?_
    exact J_iret (pc := 28) C dL_member_28 (by decide) hok1 ⟨rfl, hv, fun _ => hr0⟩ (Nat.le_of_ble_eq_true rfl) (Nat.le_of_ble_eq_true rfl)
def rmL_remove : Room := { frames := 8, cells := 1, slots := 6, locals := 124 }
theorem mL_remove_k21 : Cond.classLink RL 21 IOOBE ∈ wsL_remove := by decide +kernel
set_option maxRecDepth 100000 in
set_option maxHeartbeats 4000000 in
theorem ct_L_remove {a0 : Int} {S : St} {o c r : Int} {V' : St} (ra0 : r32 a0) (hc : 0 ≤ c ∧ c ≤ 1) (hC : DoC [IOOBE] c r V' (M_X6_remove a0 S)) : ML yL_remove wsL_remove rmL_remove (fun G => [.ref (G.2.2 0), iV a0, .ref (G.2.2 90)]) (S, o) (fun q u => q = c ∧ vw u.1 = V' ∧ (c = 0 → u.2 = r)) := by
  refine ML_of (by decide +kernel) rfl (Lf := fun G => [some (.ref (G.2.2 0)), some (iV a0), some (.ref (G.2.2 90)), none]) (fun G => by show _ ≤ _; exact Nat.le_of_ble_eq_true rfl) (fun G => rfl) ?_
  intro p l e s m args below meth cd G A C hn hok
  replace C : Cx wX cL_remove 4 RL wsL_remove (some .int) [(0, 9, 12, 21)] p l s m args meth cd G A := C
  have M := hC (fun r1 S1 => c = 0 ∧ r1 = r ∧ vw S1 = V') (fun N S1 => c ≠ 0 ∧ vw S1 = V' ∧ N = [IOOBE].getD (c.toNat - 1) "") (fun z S1 h => ⟨z, rfl, h⟩) (fun z S1 h => ⟨z, h, rfl⟩) ra0
  show J wX 4 rmL_remove p l e s m args below meth cd G A (QQ 1 wX okX G (fun q u => q = c ∧ vw u.1 = V' ∧ (c = 0 → u.2 = r)) (fun _ _ => False) A below args s rmL_remove.cells rmL_remove.slots) 0 0 (S, o) [some (.ref (G.2.2 0)), some (iV a0), some (.ref (G.2.2 90)), none] [] 0
  refine J_aload_n (pc := 0) C dL_remove_0 rfl ?_
  refine J_iconst (pc := 1) C dL_remove_1 ?_
  refine J_aload_n (pc := 2) C dL_remove_2 rfl ?_
  refine J_iload_n (pc := 3) C dL_remove_3 rfl ?_
  refine J_e1 (pc := 4) C (emb_XC G S o) (J_eV (pc := 4) C (emb_XC G S o) M dL_remove_4 rfl rfl 0 rfl rfl (cwV 1 C.1.2.2.2.2 gL_remove_X6_remove rfl rfl rfl (by decide +kernel) ⟨Nat.le_of_ble_eq_true rfl, Nat.le_of_ble_eq_true rfl⟩) hok (Nat.le_of_ble_eq_true rfl) ⟨Nat.le_of_ble_eq_true rfl, Nat.le_of_ble_eq_true rfl⟩) (fun N S1 hok1 q1 => ?_) (fun r1 S1 hr1 hok1 q1 => ?_)
  · obtain ⟨hc0, hv, hN⟩ := q1
    rcases (show c = 1 by omega) with rfl
    · have hN : N = IOOBE := hN
      subst hN
      refine J_catch (pc := 4) C hn [] (0, 9, 12, 21) [] rfl (by decide) (fun z hz => nomatch hz) (by decide) mL_remove_k21 (by decide) (fun q9 => ?_)
      refine J_astore_n (pc := 12) C dL_remove_12 (by decide) ?_
      refine J_iconst (pc := 13) C dL_remove_13 ?_
      exact J_iret (pc := 14) C dL_remove_14 (by decide) hok1 ⟨rfl, hv, fun z => absurd z (by decide)⟩ (Nat.le_of_ble_eq_true rfl) (Nat.le_of_ble_eq_true rfl)
  · obtain ⟨hc0, hr0, hv⟩ := q1
    subst hc0
    refine J_i2l (pc := 7) C dL_remove_7 hr1 ?_
    refine J_outst (pc := 8) C dL_remove_8 ?_
    refine J_goto (pc := 9) (tgt := 15) C dL_remove_9 (by decide) ?_
    refine J_iconst (pc := 15) C dL_remove_15 ?_
    exact J_iret (pc := 16) C dL_remove_16 (by decide) hok1 ⟨rfl, hv, fun _ => hr0⟩ (Nat.le_of_ble_eq_true rfl) (Nat.le_of_ble_eq_true rfl)
def rmL_isRedundant : Room := { frames := 8, cells := 1, slots := 6, locals := 163 }
theorem mL_isRedundant_k21 : Cond.classLink RL 21 IOOBE ∈ wsL_isRedundant := by decide +kernel
set_option maxRecDepth 100000 in
set_option maxHeartbeats 4000000 in
theorem ct_L_isRedundant {a0 : Int} {S : St} {o c r : Int} {V' : St} (ra0 : r32 a0) (hc : 0 ≤ c ∧ c ≤ 1) (hC : DoC [IOOBE] c r V' (M_X6_isRedundant a0 S)) : ML yL_isRedundant wsL_isRedundant rmL_isRedundant (fun G => [.ref (G.2.2 0), iV a0, .ref (G.2.2 90)]) (S, o) (fun q u => q = c ∧ vw u.1 = V' ∧ (c = 0 → u.2 = (if r = 0 then 0 else 1))) := by
  refine ML_of (by decide +kernel) rfl (Lf := fun G => [some (.ref (G.2.2 0)), some (iV a0), some (.ref (G.2.2 90)), none]) (fun G => by show _ ≤ _; exact Nat.le_of_ble_eq_true rfl) (fun G => rfl) ?_
  intro p l e s m args below meth cd G A C hn hok
  replace C : Cx wX cL_isRedundant 4 RL wsL_isRedundant (some .int) [(0, 16, 19, 21)] p l s m args meth cd G A := C
  have M := hC (fun r1 S1 => c = 0 ∧ r1 = r ∧ vw S1 = V') (fun N S1 => c ≠ 0 ∧ vw S1 = V' ∧ N = [IOOBE].getD (c.toNat - 1) "") (fun z S1 h => ⟨z, rfl, h⟩) (fun z S1 h => ⟨z, h, rfl⟩) ra0
  show J wX 4 rmL_isRedundant p l e s m args below meth cd G A (QQ 1 wX okX G (fun q u => q = c ∧ vw u.1 = V' ∧ (c = 0 → u.2 = (if r = 0 then 0 else 1))) (fun _ _ => False) A below args s rmL_isRedundant.cells rmL_isRedundant.slots) 0 0 (S, o) [some (.ref (G.2.2 0)), some (iV a0), some (.ref (G.2.2 90)), none] [] 0
  refine J_aload_n (pc := 0) C dL_isRedundant_0 rfl ?_
  refine J_iconst (pc := 1) C dL_isRedundant_1 ?_
  refine J_aload_n (pc := 2) C dL_isRedundant_2 rfl ?_
  refine J_iload_n (pc := 3) C dL_isRedundant_3 rfl ?_
  refine J_e1 (pc := 4) C (emb_XC G S o) (J_eV (pc := 4) C (emb_XC G S o) M dL_isRedundant_4 rfl rfl 0 rfl rfl (cwV 1 C.1.2.2.2.2 gL_isRedundant_X6_isRedundant rfl rfl rfl (by decide +kernel) ⟨Nat.le_of_ble_eq_true rfl, Nat.le_of_ble_eq_true rfl⟩) hok (Nat.le_of_ble_eq_true rfl) ⟨Nat.le_of_ble_eq_true rfl, Nat.le_of_ble_eq_true rfl⟩) (fun N S1 hok1 q1 => ?_) (fun r1 S1 hr1 hok1 q1 => ?_)
  · obtain ⟨hc0, hv, hN⟩ := q1
    rcases (show c = 1 by omega) with rfl
    · have hN : N = IOOBE := hN
      subst hN
      refine J_catch (pc := 4) C hn [] (0, 16, 19, 21) [] rfl (by decide) (fun z hz => nomatch hz) (by decide) mL_isRedundant_k21 (by decide) (fun q9 => ?_)
      refine J_astore_n (pc := 19) C dL_isRedundant_19 (by decide) ?_
      refine J_iconst (pc := 20) C dL_isRedundant_20 ?_
      exact J_iret (pc := 21) C dL_isRedundant_21 (by decide) hok1 ⟨rfl, hv, fun z => absurd z (by decide)⟩ (Nat.le_of_ble_eq_true rfl) (Nat.le_of_ble_eq_true rfl)
  · obtain ⟨hc0, hr0, hv⟩ := q1
    subst hc0
    refine J_if_eq (pc := 7) (tgt := 14) C dL_isRedundant_7 (by decide) hr1 (fun cb => ?_) (fun cb => ?_)
    · rw [hr0] at cb
      refine J_lconst (pc := 14) C dL_isRedundant_14 ?_
      refine J_outst (pc := 15) C dL_isRedundant_15 ?_
      refine J_goto (pc := 16) (tgt := 22) C dL_isRedundant_16 (by decide) ?_
      refine J_iconst (pc := 22) C dL_isRedundant_22 ?_
      exact J_iret (pc := 23) C dL_isRedundant_23 (by decide) hok1 ⟨rfl, hv, fun _ => by rw [if_pos cb]; rfl⟩ (Nat.le_of_ble_eq_true rfl) (Nat.le_of_ble_eq_true rfl)
    · rw [hr0] at cb
      refine J_lconst (pc := 10) C dL_isRedundant_10 ?_
      refine J_goto (pc := 11) (tgt := 15) C dL_isRedundant_11 (by decide) ?_
      refine J_outst (pc := 15) C dL_isRedundant_15 ?_
      refine J_goto (pc := 16) (tgt := 22) C dL_isRedundant_16 (by decide) ?_
      refine J_iconst (pc := 22) C dL_isRedundant_22 ?_
      exact J_iret (pc := 23) C dL_isRedundant_23 (by decide) hok1 ⟨rfl, hv, fun _ => by rw [if_neg cb]; rfl⟩ (Nat.le_of_ble_eq_true rfl) (Nat.le_of_ble_eq_true rfl)
def rmL_flex : Room := { frames := 8, cells := 2, slots := 12, locals := 146 }
theorem mL_flex_k21 : Cond.classLink RL 21 IOOBE ∈ wsL_flex := by decide +kernel
set_option maxRecDepth 100000 in
set_option maxHeartbeats 4000000 in
theorem ct_L_flex {a0 a1 a2 : Int} {S : St} {o c r : Int} {V' : St} (ra0 : r32 a0) (ra1 : r32 a1) (ra2 : r32 a2) (hc : 0 ≤ c ∧ c ≤ 1) (hC : DoC [IOOBE] c r V' (M_X6_flex a0 a1 a2 S)) : ML yL_flex wsL_flex rmL_flex (fun G => [.ref (G.2.2 0), iV a0, iV a1, iV a2, .ref (G.2.2 90)]) (S, o) (fun q u => q = c ∧ vw u.1 = V' ∧ (c = 0 → u.2 = r)) := by
  refine ML_of (by decide +kernel) rfl (Lf := fun G => [some (.ref (G.2.2 0)), some (iV a0), some (iV a1), some (iV a2), some (.ref (G.2.2 90)), none]) (fun G => by show _ ≤ _; exact Nat.le_of_ble_eq_true rfl) (fun G => rfl) ?_
  intro p l e s m args below meth cd G A C hn hok
  replace C : Cx wX cL_flex 6 RL wsL_flex (some .int) [(0, 12, 15, 21)] p l s m args meth cd G A := C
  have M := hC (fun r1 S1 => c = 0 ∧ r1 = r ∧ vw S1 = V') (fun N S1 => c ≠ 0 ∧ vw S1 = V' ∧ N = [IOOBE].getD (c.toNat - 1) "") (fun z S1 h => ⟨z, rfl, h⟩) (fun z S1 h => ⟨z, h, rfl⟩) ra0 ra1 ra2
  show J wX 6 rmL_flex p l e s m args below meth cd G A (QQ 1 wX okX G (fun q u => q = c ∧ vw u.1 = V' ∧ (c = 0 → u.2 = r)) (fun _ _ => False) A below args s rmL_flex.cells rmL_flex.slots) 0 0 (S, o) [some (.ref (G.2.2 0)), some (iV a0), some (iV a1), some (iV a2), some (.ref (G.2.2 90)), none] [] 0
  refine J_aload (pc := 0) C dL_flex_0 rfl ?_
  refine J_iconst (pc := 2) C dL_flex_2 ?_
  refine J_aload_n (pc := 3) C dL_flex_3 rfl ?_
  refine J_iload_n (pc := 4) C dL_flex_4 rfl ?_
  refine J_iload_n (pc := 5) C dL_flex_5 rfl ?_
  refine J_iload_n (pc := 6) C dL_flex_6 rfl ?_
  refine J_e1 (pc := 7) C (emb_XC G S o) (J_eV (pc := 7) C (emb_XC G S o) M dL_flex_7 rfl rfl 0 rfl rfl (cwV 3 C.1.2.2.2.2 gL_flex_X6_flex rfl rfl rfl (by decide +kernel) ⟨Nat.le_of_ble_eq_true rfl, Nat.le_of_ble_eq_true rfl⟩) hok (Nat.le_of_ble_eq_true rfl) ⟨Nat.le_of_ble_eq_true rfl, Nat.le_of_ble_eq_true rfl⟩) (fun N S1 hok1 q1 => ?_) (fun r1 S1 hr1 hok1 q1 => ?_)
  · obtain ⟨hc0, hv, hN⟩ := q1
    rcases (show c = 1 by omega) with rfl
    · have hN : N = IOOBE := hN
      subst hN
      refine J_catch (pc := 7) C hn [] (0, 12, 15, 21) [] rfl (by decide) (fun z hz => nomatch hz) (by decide) mL_flex_k21 (by decide) (fun q9 => ?_)
      refine J_astore (pc := 15) C dL_flex_15 (by decide) ?_
      refine J_iconst (pc := 17) C dL_flex_17 ?_
      exact J_iret (pc := 18) C dL_flex_18 (by decide) hok1 ⟨rfl, hv, fun z => absurd z (by decide)⟩ (Nat.le_of_ble_eq_true rfl) (Nat.le_of_ble_eq_true rfl)
  · obtain ⟨hc0, hr0, hv⟩ := q1
    subst hc0
    refine J_i2l (pc := 10) C dL_flex_10 hr1 ?_
    refine J_outst (pc := 11) C dL_flex_11 ?_
    refine J_goto (pc := 12) (tgt := 19) C dL_flex_12 (by decide) ?_
    refine J_iconst (pc := 19) C dL_flex_19 ?_
    exact J_iret (pc := 20) C dL_flex_20 (by decide) hok1 ⟨rfl, hv, fun _ => hr0⟩ (Nat.le_of_ble_eq_true rfl) (Nat.le_of_ble_eq_true rfl)
def rmL_balance : Room := { frames := 8, cells := 2, slots := 12, locals := 144 }
theorem mL_balance_k21 : Cond.classLink RL 21 IOOBE ∈ wsL_balance := by decide +kernel
set_option maxRecDepth 100000 in
set_option maxHeartbeats 4000000 in
theorem ct_L_balance {a0 a1 : Int} {S : St} {o c r : Int} {V' : St} (ra0 : r32 a0) (ra1 : r32 a1) (hc : 0 ≤ c ∧ c ≤ 1) (hC : DoC [IOOBE] c r V' (M_X6_balance a0 a1 S)) : ML yL_balance wsL_balance rmL_balance (fun G => [.ref (G.2.2 0), iV a0, iV a1, .ref (G.2.2 90)]) (S, o) (fun q u => q = c ∧ vw u.1 = V' ∧ (c = 0 → u.2 = r)) := by
  refine ML_of (by decide +kernel) rfl (Lf := fun G => [some (.ref (G.2.2 0)), some (iV a0), some (iV a1), some (.ref (G.2.2 90)), none]) (fun G => by show _ ≤ _; exact Nat.le_of_ble_eq_true rfl) (fun G => rfl) ?_
  intro p l e s m args below meth cd G A C hn hok
  replace C : Cx wX cL_balance 5 RL wsL_balance (some .int) [(0, 10, 13, 21)] p l s m args meth cd G A := C
  have M := hC (fun r1 S1 => c = 0 ∧ r1 = r ∧ vw S1 = V') (fun N S1 => c ≠ 0 ∧ vw S1 = V' ∧ N = [IOOBE].getD (c.toNat - 1) "") (fun z S1 h => ⟨z, rfl, h⟩) (fun z S1 h => ⟨z, h, rfl⟩) ra0 ra1
  show J wX 5 rmL_balance p l e s m args below meth cd G A (QQ 1 wX okX G (fun q u => q = c ∧ vw u.1 = V' ∧ (c = 0 → u.2 = r)) (fun _ _ => False) A below args s rmL_balance.cells rmL_balance.slots) 0 0 (S, o) [some (.ref (G.2.2 0)), some (iV a0), some (iV a1), some (.ref (G.2.2 90)), none] [] 0
  refine J_aload_n (pc := 0) C dL_balance_0 rfl ?_
  refine J_iconst (pc := 1) C dL_balance_1 ?_
  refine J_aload_n (pc := 2) C dL_balance_2 rfl ?_
  refine J_iload_n (pc := 3) C dL_balance_3 rfl ?_
  refine J_iload_n (pc := 4) C dL_balance_4 rfl ?_
  refine J_e1 (pc := 5) C (emb_XC G S o) (J_eV (pc := 5) C (emb_XC G S o) M dL_balance_5 rfl rfl 0 rfl rfl (cwV 2 C.1.2.2.2.2 gL_balance_X6_balance rfl rfl rfl (by decide +kernel) ⟨Nat.le_of_ble_eq_true rfl, Nat.le_of_ble_eq_true rfl⟩) hok (Nat.le_of_ble_eq_true rfl) ⟨Nat.le_of_ble_eq_true rfl, Nat.le_of_ble_eq_true rfl⟩) (fun N S1 hok1 q1 => ?_) (fun r1 S1 hr1 hok1 q1 => ?_)
  · obtain ⟨hc0, hv, hN⟩ := q1
    rcases (show c = 1 by omega) with rfl
    · have hN : N = IOOBE := hN
      subst hN
      refine J_catch (pc := 5) C hn [] (0, 10, 13, 21) [] rfl (by decide) (fun z hz => nomatch hz) (by decide) mL_balance_k21 (by decide) (fun q9 => ?_)
      refine J_astore (pc := 13) C dL_balance_13 (by decide) ?_
      refine J_iconst (pc := 15) C dL_balance_15 ?_
      exact J_iret (pc := 16) C dL_balance_16 (by decide) hok1 ⟨rfl, hv, fun z => absurd z (by decide)⟩ (Nat.le_of_ble_eq_true rfl) (Nat.le_of_ble_eq_true rfl)
  · obtain ⟨hc0, hr0, hv⟩ := q1
    subst hc0
    refine J_i2l (pc := 8) C dL_balance_8 hr1 ?_
    refine J_outst (pc := 9) C dL_balance_9 ?_
    refine J_goto (pc := 10) (tgt := 17) C dL_balance_10 (by decide) ?_
    refine J_iconst (pc := 17) C dL_balance_17 ?_
    exact J_iret (pc := 18) C dL_balance_18 (by decide) hok1 ⟨rfl, hv, fun _ => hr0⟩ (Nat.le_of_ble_eq_true rfl) (Nat.le_of_ble_eq_true rfl)
def rmL_rankAt : Room := { frames := 7, cells := 1, slots := 6, locals := 163 }
theorem mL_rankAt_k13 : Cond.classLink RL 13 IAE ∈ wsL_rankAt := by decide +kernel
set_option maxRecDepth 100000 in
set_option maxHeartbeats 4000000 in
theorem ct_L_rankAt {a0 : Int} {S : St} {o c r : Int} {V' : St} (ra0 : r32 a0) (hc : 0 ≤ c ∧ c ≤ 1) (hC : DoC [IAE] c r V' (M_X6_rankAt a0 S)) : ML yL_rankAt wsL_rankAt rmL_rankAt (fun G => [.ref (G.2.2 0), iV a0, .ref (G.2.2 90)]) (S, o) (fun q u => q = c ∧ vw u.1 = V' ∧ (c = 0 → u.2 = r)) := by
  refine ML_of (by decide +kernel) rfl (Lf := fun G => [some (.ref (G.2.2 0)), some (iV a0), some (.ref (G.2.2 90)), none]) (fun G => by show _ ≤ _; exact Nat.le_of_ble_eq_true rfl) (fun G => rfl) ?_
  intro p l e s m args below meth cd G A C hn hok
  replace C : Cx wX cL_rankAt 4 RL wsL_rankAt (some .int) [(0, 9, 12, 13)] p l s m args meth cd G A := C
  have M := hC (fun r1 S1 => c = 0 ∧ r1 = r ∧ vw S1 = V') (fun N S1 => c ≠ 0 ∧ vw S1 = V' ∧ N = [IAE].getD (c.toNat - 1) "") (fun z S1 h => ⟨z, rfl, h⟩) (fun z S1 h => ⟨z, h, rfl⟩) ra0
  show J wX 4 rmL_rankAt p l e s m args below meth cd G A (QQ 1 wX okX G (fun q u => q = c ∧ vw u.1 = V' ∧ (c = 0 → u.2 = r)) (fun _ _ => False) A below args s rmL_rankAt.cells rmL_rankAt.slots) 0 0 (S, o) [some (.ref (G.2.2 0)), some (iV a0), some (.ref (G.2.2 90)), none] [] 0
  refine J_aload_n (pc := 0) C dL_rankAt_0 rfl ?_
  refine J_iconst (pc := 1) C dL_rankAt_1 ?_
  refine J_aload_n (pc := 2) C dL_rankAt_2 rfl ?_
  refine J_iload_n (pc := 3) C dL_rankAt_3 rfl ?_
  refine J_e1 (pc := 4) C (emb_XC G S o) (J_eV (pc := 4) C (emb_XC G S o) M dL_rankAt_4 rfl rfl 0 rfl rfl (cwV 1 C.1.2.2.2.2 gL_rankAt_X6_rankAt rfl rfl rfl (by decide +kernel) ⟨Nat.le_of_ble_eq_true rfl, Nat.le_of_ble_eq_true rfl⟩) hok (Nat.le_of_ble_eq_true rfl) ⟨Nat.le_of_ble_eq_true rfl, Nat.le_of_ble_eq_true rfl⟩) (fun N S1 hok1 q1 => ?_) (fun r1 S1 hr1 hok1 q1 => ?_)
  · obtain ⟨hc0, hv, hN⟩ := q1
    rcases (show c = 1 by omega) with rfl
    · have hN : N = IAE := hN
      subst hN
      refine J_catch (pc := 4) C hn [] (0, 9, 12, 13) [] rfl (by decide) (fun z hz => nomatch hz) (by decide) mL_rankAt_k13 (by decide) (fun q9 => ?_)
      refine J_astore_n (pc := 12) C dL_rankAt_12 (by decide) ?_
      refine J_iconst (pc := 13) C dL_rankAt_13 ?_
      exact J_iret (pc := 14) C dL_rankAt_14 (by decide) hok1 ⟨rfl, hv, fun z => absurd z (by decide)⟩ (Nat.le_of_ble_eq_true rfl) (Nat.le_of_ble_eq_true rfl)
  · obtain ⟨hc0, hr0, hv⟩ := q1
    subst hc0
    refine J_i2l (pc := 7) C dL_rankAt_7 hr1 ?_
    refine J_outst (pc := 8) C dL_rankAt_8 ?_
    refine J_goto (pc := 9) (tgt := 15) C dL_rankAt_9 (by decide) ?_
    refine J_iconst (pc := 15) C dL_rankAt_15 ?_
    exact J_iret (pc := 16) C dL_rankAt_16 (by decide) hok1 ⟨rfl, hv, fun _ => hr0⟩ (Nat.le_of_ble_eq_true rfl) (Nat.le_of_ble_eq_true rfl)
def rmL_isKept : Room := { frames := 8, cells := 1, slots := 6, locals := 143 }
theorem mL_isKept_k21 : Cond.classLink RL 21 IOOBE ∈ wsL_isKept := by decide +kernel
set_option maxRecDepth 100000 in
set_option maxHeartbeats 4000000 in
theorem ct_L_isKept {a0 : Int} {S : St} {o c r : Int} {V' : St} (ra0 : r32 a0) (hc : 0 ≤ c ∧ c ≤ 1) (hC : DoC [IOOBE] c r V' (M_X6_isKept a0 S)) : ML yL_isKept wsL_isKept rmL_isKept (fun G => [.ref (G.2.2 0), iV a0, .ref (G.2.2 90)]) (S, o) (fun q u => q = c ∧ vw u.1 = V' ∧ (c = 0 → u.2 = (if r = 0 then 0 else 1))) := by
  refine ML_of (by decide +kernel) rfl (Lf := fun G => [some (.ref (G.2.2 0)), some (iV a0), some (.ref (G.2.2 90)), none]) (fun G => by show _ ≤ _; exact Nat.le_of_ble_eq_true rfl) (fun G => rfl) ?_
  intro p l e s m args below meth cd G A C hn hok
  replace C : Cx wX cL_isKept 4 RL wsL_isKept (some .int) [(0, 16, 19, 21)] p l s m args meth cd G A := C
  have M := hC (fun r1 S1 => c = 0 ∧ r1 = r ∧ vw S1 = V') (fun N S1 => c ≠ 0 ∧ vw S1 = V' ∧ N = [IOOBE].getD (c.toNat - 1) "") (fun z S1 h => ⟨z, rfl, h⟩) (fun z S1 h => ⟨z, h, rfl⟩) ra0
  show J wX 4 rmL_isKept p l e s m args below meth cd G A (QQ 1 wX okX G (fun q u => q = c ∧ vw u.1 = V' ∧ (c = 0 → u.2 = (if r = 0 then 0 else 1))) (fun _ _ => False) A below args s rmL_isKept.cells rmL_isKept.slots) 0 0 (S, o) [some (.ref (G.2.2 0)), some (iV a0), some (.ref (G.2.2 90)), none] [] 0
  refine J_aload_n (pc := 0) C dL_isKept_0 rfl ?_
  refine J_iconst (pc := 1) C dL_isKept_1 ?_
  refine J_aload_n (pc := 2) C dL_isKept_2 rfl ?_
  refine J_iload_n (pc := 3) C dL_isKept_3 rfl ?_
  refine J_e1 (pc := 4) C (emb_XC G S o) (J_eV (pc := 4) C (emb_XC G S o) M dL_isKept_4 rfl rfl 0 rfl rfl (cwV 1 C.1.2.2.2.2 gL_isKept_X6_isKept rfl rfl rfl (by decide +kernel) ⟨Nat.le_of_ble_eq_true rfl, Nat.le_of_ble_eq_true rfl⟩) hok (Nat.le_of_ble_eq_true rfl) ⟨Nat.le_of_ble_eq_true rfl, Nat.le_of_ble_eq_true rfl⟩) (fun N S1 hok1 q1 => ?_) (fun r1 S1 hr1 hok1 q1 => ?_)
  · obtain ⟨hc0, hv, hN⟩ := q1
    rcases (show c = 1 by omega) with rfl
    · have hN : N = IOOBE := hN
      subst hN
      refine J_catch (pc := 4) C hn [] (0, 16, 19, 21) [] rfl (by decide) (fun z hz => nomatch hz) (by decide) mL_isKept_k21 (by decide) (fun q9 => ?_)
      refine J_astore_n (pc := 19) C dL_isKept_19 (by decide) ?_
      refine J_iconst (pc := 20) C dL_isKept_20 ?_
      exact J_iret (pc := 21) C dL_isKept_21 (by decide) hok1 ⟨rfl, hv, fun z => absurd z (by decide)⟩ (Nat.le_of_ble_eq_true rfl) (Nat.le_of_ble_eq_true rfl)
  · obtain ⟨hc0, hr0, hv⟩ := q1
    subst hc0
    refine J_if_eq (pc := 7) (tgt := 14) C dL_isKept_7 (by decide) hr1 (fun cb => ?_) (fun cb => ?_)
    · rw [hr0] at cb
      refine J_lconst (pc := 14) C dL_isKept_14 ?_
      refine J_outst (pc := 15) C dL_isKept_15 ?_
      refine J_goto (pc := 16) (tgt := 22) C dL_isKept_16 (by decide) ?_
      refine J_iconst (pc := 22) C dL_isKept_22 ?_
      exact J_iret (pc := 23) C dL_isKept_23 (by decide) hok1 ⟨rfl, hv, fun _ => by rw [if_pos cb]; rfl⟩ (Nat.le_of_ble_eq_true rfl) (Nat.le_of_ble_eq_true rfl)
    · rw [hr0] at cb
      refine J_lconst (pc := 10) C dL_isKept_10 ?_
      refine J_goto (pc := 11) (tgt := 15) C dL_isKept_11 (by decide) ?_
      refine J_outst (pc := 15) C dL_isKept_15 ?_
      refine J_goto (pc := 16) (tgt := 22) C dL_isKept_16 (by decide) ?_
      refine J_iconst (pc := 22) C dL_isKept_22 ?_
      exact J_iret (pc := 23) C dL_isKept_23 (by decide) hok1 ⟨rfl, hv, fun _ => by rw [if_neg cb]; rfl⟩ (Nat.le_of_ble_eq_true rfl) (Nat.le_of_ble_eq_true rfl)
def rmL_block : Room := { frames := 8, cells := 1, slots := 6, locals := 147 }
theorem mL_block_k21 : Cond.classLink RL 21 IOOBE ∈ wsL_block := by decide +kernel
set_option maxRecDepth 100000 in
set_option maxHeartbeats 4000000 in
theorem ct_L_block {a0 : Int} {S : St} {o c r : Int} {V' : St} (ra0 : r32 a0) (hc : 0 ≤ c ∧ c ≤ 1) (hC : DoC [IOOBE] c r V' (M_X6_block a0 S)) : ML yL_block wsL_block rmL_block (fun G => [.ref (G.2.2 0), iV a0, .ref (G.2.2 90)]) (S, o) (fun q u => q = c ∧ vw u.1 = V' ∧ (c = 0 → u.2 = r)) := by
  refine ML_of (by decide +kernel) rfl (Lf := fun G => [some (.ref (G.2.2 0)), some (iV a0), some (.ref (G.2.2 90)), none]) (fun G => by show _ ≤ _; exact Nat.le_of_ble_eq_true rfl) (fun G => rfl) ?_
  intro p l e s m args below meth cd G A C hn hok
  replace C : Cx wX cL_block 4 RL wsL_block (some .int) [(0, 9, 12, 21)] p l s m args meth cd G A := C
  have M := hC (fun r1 S1 => c = 0 ∧ r1 = r ∧ vw S1 = V') (fun N S1 => c ≠ 0 ∧ vw S1 = V' ∧ N = [IOOBE].getD (c.toNat - 1) "") (fun z S1 h => ⟨z, rfl, h⟩) (fun z S1 h => ⟨z, h, rfl⟩) ra0
  show J wX 4 rmL_block p l e s m args below meth cd G A (QQ 1 wX okX G (fun q u => q = c ∧ vw u.1 = V' ∧ (c = 0 → u.2 = r)) (fun _ _ => False) A below args s rmL_block.cells rmL_block.slots) 0 0 (S, o) [some (.ref (G.2.2 0)), some (iV a0), some (.ref (G.2.2 90)), none] [] 0
  refine J_aload_n (pc := 0) C dL_block_0 rfl ?_
  refine J_iconst (pc := 1) C dL_block_1 ?_
  refine J_aload_n (pc := 2) C dL_block_2 rfl ?_
  refine J_iload_n (pc := 3) C dL_block_3 rfl ?_
  refine J_e1 (pc := 4) C (emb_XC G S o) (J_eV (pc := 4) C (emb_XC G S o) M dL_block_4 rfl rfl 0 rfl rfl (cwV 1 C.1.2.2.2.2 gL_block_X6_block rfl rfl rfl (by decide +kernel) ⟨Nat.le_of_ble_eq_true rfl, Nat.le_of_ble_eq_true rfl⟩) hok (Nat.le_of_ble_eq_true rfl) ⟨Nat.le_of_ble_eq_true rfl, Nat.le_of_ble_eq_true rfl⟩) (fun N S1 hok1 q1 => ?_) (fun r1 S1 hr1 hok1 q1 => ?_)
  · obtain ⟨hc0, hv, hN⟩ := q1
    rcases (show c = 1 by omega) with rfl
    · have hN : N = IOOBE := hN
      subst hN
      refine J_catch (pc := 4) C hn [] (0, 9, 12, 21) [] rfl (by decide) (fun z hz => nomatch hz) (by decide) mL_block_k21 (by decide) (fun q9 => ?_)
      refine J_astore_n (pc := 12) C dL_block_12 (by decide) ?_
      refine J_iconst (pc := 13) C dL_block_13 ?_
      exact J_iret (pc := 14) C dL_block_14 (by decide) hok1 ⟨rfl, hv, fun z => absurd z (by decide)⟩ (Nat.le_of_ble_eq_true rfl) (Nat.le_of_ble_eq_true rfl)
  · obtain ⟨hc0, hr0, hv⟩ := q1
    subst hc0
    refine J_i2l (pc := 7) C dL_block_7 hr1 ?_
    refine J_outst (pc := 8) C dL_block_8 ?_
    refine J_goto (pc := 9) (tgt := 15) C dL_block_9 (by decide) ?_
    refine J_iconst (pc := 15) C dL_block_15 ?_
    exact J_iret (pc := 16) C dL_block_16 (by decide) hok1 ⟨rfl, hv, fun _ => hr0⟩ (Nat.le_of_ble_eq_true rfl) (Nat.le_of_ble_eq_true rfl)
def rmL_grow : Room := { frames := 8, cells := 6, slots := 36, locals := 129 }
theorem mL_grow_k21 : Cond.classLink RL 21 IOOBE ∈ wsL_grow := by decide +kernel
theorem mL_grow_k13 : Cond.classLink RL 13 IAE ∈ wsL_grow := by decide +kernel
theorem mL_grow_k15 : Cond.classLink RL 15 ISE ∈ wsL_grow := by decide +kernel
set_option maxRecDepth 100000 in
set_option maxHeartbeats 4000000 in
theorem ct_L_grow {a0 a1 a2 a3 : Int} {S : St} {o c r : Int} {V' : St} (ra0 : r32 a0) (ra1 : r32 a1) (ra2 : r32 a2) (ra3 : r32 a3) (hc : 0 ≤ c ∧ c ≤ 3) (hC : DoC [IOOBE, IAE, ISE] c r V' (M_X6_grow a0 a1 a2 a3 S)) : ML yL_grow wsL_grow rmL_grow (fun G => [.ref (G.2.2 0), iV a0, iV a1, iV a2, iV a3, .ref (G.2.2 90)]) (S, o) (fun q u => q = c ∧ vw u.1 = V' ∧ (c = 0 → u.2 = r)) := by
  refine ML_of (by decide +kernel) rfl (Lf := fun G => [some (.ref (G.2.2 0)), some (iV a0), some (iV a1), some (iV a2), some (iV a3), some (.ref (G.2.2 90)), none]) (fun G => by show _ ≤ _; exact Nat.le_of_ble_eq_true rfl) (fun G => rfl) ?_
  intro p l e s m args below meth cd G A C hn hok
  replace C : Cx wX cL_grow 7 RL wsL_grow (some .int) [(0, 14, 17, 21), (0, 14, 21, 13), (0, 14, 25, 15)] p l s m args meth cd G A := C
  have M := hC (fun r1 S1 => c = 0 ∧ r1 = r ∧ vw S1 = V') (fun N S1 => c ≠ 0 ∧ vw S1 = V' ∧ N = [IOOBE, IAE, ISE].getD (c.toNat - 1) "") (fun z S1 h => ⟨z, rfl, h⟩) (fun z S1 h => ⟨z, h, rfl⟩) ra0 ra1 ra2 ra3
  show J wX 7 rmL_grow p l e s m args below meth cd G A (QQ 1 wX okX G (fun q u => q = c ∧ vw u.1 = V' ∧ (c = 0 → u.2 = r)) (fun _ _ => False) A below args s rmL_grow.cells rmL_grow.slots) 0 0 (S, o) [some (.ref (G.2.2 0)), some (iV a0), some (iV a1), some (iV a2), some (iV a3), some (.ref (G.2.2 90)), none] [] 0
  refine J_aload (pc := 0) C dL_grow_0 rfl ?_
  refine J_iconst (pc := 2) C dL_grow_2 ?_
  refine J_aload_n (pc := 3) C dL_grow_3 rfl ?_
  refine J_iload_n (pc := 4) C dL_grow_4 rfl ?_
  refine J_iload_n (pc := 5) C dL_grow_5 rfl ?_
  refine J_iload_n (pc := 6) C dL_grow_6 rfl ?_
  refine J_iload (pc := 7) C dL_grow_7 rfl ?_
  refine J_e1 (pc := 9) C (emb_XC G S o) (J_eV (pc := 9) C (emb_XC G S o) M dL_grow_9 rfl rfl 0 rfl rfl (cwV 4 C.1.2.2.2.2 gL_grow_X6_grow rfl rfl rfl (by decide +kernel) ⟨Nat.le_of_ble_eq_true rfl, Nat.le_of_ble_eq_true rfl⟩) hok (Nat.le_of_ble_eq_true rfl) ⟨Nat.le_of_ble_eq_true rfl, Nat.le_of_ble_eq_true rfl⟩) (fun N S1 hok1 q1 => ?_) (fun r1 S1 hr1 hok1 q1 => ?_)
  · obtain ⟨hc0, hv, hN⟩ := q1
    rcases (show c = 1 ∨ c = 2 ∨ c = 3 by omega) with rfl | rfl | rfl
    · have hN : N = IOOBE := hN
      subst hN
      refine J_catch (pc := 9) C hn [] (0, 14, 17, 21) [(0, 14, 21, 13), (0, 14, 25, 15)] rfl (by decide) (fun z hz => nomatch hz) (by decide) mL_grow_k21 (by decide) (fun q9 => ?_)
      refine J_astore (pc := 17) C dL_grow_17 (by decide) ?_
      refine J_iconst (pc := 19) C dL_grow_19 ?_
      exact J_iret (pc := 20) C dL_grow_20 (by decide) hok1 ⟨rfl, hv, fun z => absurd z (by decide)⟩ (Nat.le_of_ble_eq_true rfl) (Nat.le_of_ble_eq_true rfl)
    · have hN : N = IAE := hN
      subst hN
      refine J_catch (pc := 9) C hn [(0, 14, 17, 21)] (0, 14, 21, 13) [(0, 14, 25, 15)] rfl (by decide) (fun z hz => by
        simp only [List.mem_cons, List.not_mem_nil, or_false] at hz
        rcases hz with rfl
        · exact ⟨by decide, _, mL_grow_k21, by decide⟩) (by decide) mL_grow_k13 (by decide) (fun q9 => ?_)
      refine J_astore (pc := 21) C dL_grow_21 (by decide) ?_
      refine J_iconst (pc := 23) C dL_grow_23 ?_
      exact J_iret (pc := 24) C dL_grow_24 (by decide) hok1 ⟨rfl, hv, fun z => absurd z (by decide)⟩ (Nat.le_of_ble_eq_true rfl) (Nat.le_of_ble_eq_true rfl)
    · have hN : N = ISE := hN
      subst hN
      refine J_catch (pc := 9) C hn [(0, 14, 17, 21), (0, 14, 21, 13)] (0, 14, 25, 15) [] rfl (by decide) (fun z hz => by
        simp only [List.mem_cons, List.not_mem_nil, or_false] at hz
        rcases hz with rfl | rfl
        · exact ⟨by decide, _, mL_grow_k21, by decide⟩
        · exact ⟨by decide, _, mL_grow_k13, by decide⟩) (by decide) mL_grow_k15 (by decide) (fun q9 => ?_)
      refine J_astore (pc := 25) C dL_grow_25 (by decide) ?_
      refine J_iconst (pc := 27) C dL_grow_27 ?_
      exact J_iret (pc := 28) C dL_grow_28 (by decide) hok1 ⟨rfl, hv, fun z => absurd z (by decide)⟩ (Nat.le_of_ble_eq_true rfl) (Nat.le_of_ble_eq_true rfl)
  · obtain ⟨hc0, hr0, hv⟩ := q1
    subst hc0
    refine J_i2l (pc := 12) C dL_grow_12 hr1 ?_
    refine J_outst (pc := 13) C dL_grow_13 ?_
    refine J_goto (pc := 14) (tgt := 29) C dL_grow_14 (by decide) ?_
    refine J_iconst (pc := 29) C dL_grow_29 ?_
    exact J_iret (pc := 30) C dL_grow_30 (by decide) hok1 ⟨rfl, hv, fun _ => hr0⟩ (Nat.le_of_ble_eq_true rfl) (Nat.le_of_ble_eq_true rfl)
def rmL_split : Room := { frames := 8, cells := 5, slots := 30, locals := 129 }
theorem mL_split_k21 : Cond.classLink RL 21 IOOBE ∈ wsL_split := by decide +kernel
theorem mL_split_k13 : Cond.classLink RL 13 IAE ∈ wsL_split := by decide +kernel
theorem mL_split_k15 : Cond.classLink RL 15 ISE ∈ wsL_split := by decide +kernel
set_option maxRecDepth 100000 in
set_option maxHeartbeats 4000000 in
theorem ct_L_split {a0 a1 a2 a3 : Int} {S : St} {o c r : Int} {V' : St} (ra0 : r32 a0) (ra1 : r32 a1) (ra2 : r32 a2) (ra3 : r32 a3) (hc : 0 ≤ c ∧ c ≤ 3) (hC : DoC [IOOBE, IAE, ISE] c r V' (M_X6_split a0 a1 a2 a3 S)) : ML yL_split wsL_split rmL_split (fun G => [.ref (G.2.2 0), iV a0, iV a1, iV a2, iV a3, .ref (G.2.2 90)]) (S, o) (fun q u => q = c ∧ vw u.1 = V' ∧ (c = 0 → u.2 = r)) := by
  refine ML_of (by decide +kernel) rfl (Lf := fun G => [some (.ref (G.2.2 0)), some (iV a0), some (iV a1), some (iV a2), some (iV a3), some (.ref (G.2.2 90)), none]) (fun G => by show _ ≤ _; exact Nat.le_of_ble_eq_true rfl) (fun G => rfl) ?_
  intro p l e s m args below meth cd G A C hn hok
  replace C : Cx wX cL_split 7 RL wsL_split (some .int) [(0, 14, 17, 21), (0, 14, 21, 13), (0, 14, 25, 15)] p l s m args meth cd G A := C
  have M := hC (fun r1 S1 => c = 0 ∧ r1 = r ∧ vw S1 = V') (fun N S1 => c ≠ 0 ∧ vw S1 = V' ∧ N = [IOOBE, IAE, ISE].getD (c.toNat - 1) "") (fun z S1 h => ⟨z, rfl, h⟩) (fun z S1 h => ⟨z, h, rfl⟩) ra0 ra1 ra2 ra3
  show J wX 7 rmL_split p l e s m args below meth cd G A (QQ 1 wX okX G (fun q u => q = c ∧ vw u.1 = V' ∧ (c = 0 → u.2 = r)) (fun _ _ => False) A below args s rmL_split.cells rmL_split.slots) 0 0 (S, o) [some (.ref (G.2.2 0)), some (iV a0), some (iV a1), some (iV a2), some (iV a3), some (.ref (G.2.2 90)), none] [] 0
  refine J_aload (pc := 0) C dL_split_0 rfl ?_
  refine J_iconst (pc := 2) C dL_split_2 ?_
  refine J_aload_n (pc := 3) C dL_split_3 rfl ?_
  refine J_iload_n (pc := 4) C dL_split_4 rfl ?_
  refine J_iload_n (pc := 5) C dL_split_5 rfl ?_
  refine J_iload_n (pc := 6) C dL_split_6 rfl ?_
  refine J_iload (pc := 7) C dL_split_7 rfl ?_
  refine J_e1 (pc := 9) C (emb_XC G S o) (J_eV (pc := 9) C (emb_XC G S o) M dL_split_9 rfl rfl 0 rfl rfl (cwV 4 C.1.2.2.2.2 gL_split_X6_split rfl rfl rfl (by decide +kernel) ⟨Nat.le_of_ble_eq_true rfl, Nat.le_of_ble_eq_true rfl⟩) hok (Nat.le_of_ble_eq_true rfl) ⟨Nat.le_of_ble_eq_true rfl, Nat.le_of_ble_eq_true rfl⟩) (fun N S1 hok1 q1 => ?_) (fun r1 S1 hr1 hok1 q1 => ?_)
  · obtain ⟨hc0, hv, hN⟩ := q1
    rcases (show c = 1 ∨ c = 2 ∨ c = 3 by omega) with rfl | rfl | rfl
    · have hN : N = IOOBE := hN
      subst hN
      refine J_catch (pc := 9) C hn [] (0, 14, 17, 21) [(0, 14, 21, 13), (0, 14, 25, 15)] rfl (by decide) (fun z hz => nomatch hz) (by decide) mL_split_k21 (by decide) (fun q9 => ?_)
      refine J_astore (pc := 17) C dL_split_17 (by decide) ?_
      refine J_iconst (pc := 19) C dL_split_19 ?_
      exact J_iret (pc := 20) C dL_split_20 (by decide) hok1 ⟨rfl, hv, fun z => absurd z (by decide)⟩ (Nat.le_of_ble_eq_true rfl) (Nat.le_of_ble_eq_true rfl)
    · have hN : N = IAE := hN
      subst hN
      refine J_catch (pc := 9) C hn [(0, 14, 17, 21)] (0, 14, 21, 13) [(0, 14, 25, 15)] rfl (by decide) (fun z hz => by
        simp only [List.mem_cons, List.not_mem_nil, or_false] at hz
        rcases hz with rfl
        · exact ⟨by decide, _, mL_split_k21, by decide⟩) (by decide) mL_split_k13 (by decide) (fun q9 => ?_)
      refine J_astore (pc := 21) C dL_split_21 (by decide) ?_
      refine J_iconst (pc := 23) C dL_split_23 ?_
      exact J_iret (pc := 24) C dL_split_24 (by decide) hok1 ⟨rfl, hv, fun z => absurd z (by decide)⟩ (Nat.le_of_ble_eq_true rfl) (Nat.le_of_ble_eq_true rfl)
    · have hN : N = ISE := hN
      subst hN
      refine J_catch (pc := 9) C hn [(0, 14, 17, 21), (0, 14, 21, 13)] (0, 14, 25, 15) [] rfl (by decide) (fun z hz => by
        simp only [List.mem_cons, List.not_mem_nil, or_false] at hz
        rcases hz with rfl | rfl
        · exact ⟨by decide, _, mL_split_k21, by decide⟩
        · exact ⟨by decide, _, mL_split_k13, by decide⟩) (by decide) mL_split_k15 (by decide) (fun q9 => ?_)
      refine J_astore (pc := 25) C dL_split_25 (by decide) ?_
      refine J_iconst (pc := 27) C dL_split_27 ?_
      exact J_iret (pc := 28) C dL_split_28 (by decide) hok1 ⟨rfl, hv, fun z => absurd z (by decide)⟩ (Nat.le_of_ble_eq_true rfl) (Nat.le_of_ble_eq_true rfl)
  · obtain ⟨hc0, hr0, hv⟩ := q1
    subst hc0
    refine J_i2l (pc := 12) C dL_split_12 hr1 ?_
    refine J_outst (pc := 13) C dL_split_13 ?_
    refine J_goto (pc := 14) (tgt := 29) C dL_split_14 (by decide) ?_
    refine J_iconst (pc := 29) C dL_split_29 ?_
    exact J_iret (pc := 30) C dL_split_30 (by decide) hok1 ⟨rfl, hv, fun _ => hr0⟩ (Nat.le_of_ble_eq_true rfl) (Nat.le_of_ble_eq_true rfl)
def rmL_undo : Room := { frames := 7, cells := 1, slots := 6, locals := 104 }
theorem mL_undo_k15 : Cond.classLink RL 15 ISE ∈ wsL_undo := by decide +kernel
set_option maxRecDepth 100000 in
set_option maxHeartbeats 4000000 in
theorem ct_L_undo {S : St} {o c r : Int} {V' : St}  (hc : 0 ≤ c ∧ c ≤ 1) (hC : DoC [ISE] c r V' (M_X6_undo S)) : ML yL_undo wsL_undo rmL_undo (fun G => [.ref (G.2.2 0), .ref (G.2.2 90)]) (S, o) (fun q u => q = c ∧ vw u.1 = V' ∧ (c = 0 → u.2 = r)) := by
  refine ML_of (by decide +kernel) rfl (Lf := fun G => [some (.ref (G.2.2 0)), some (.ref (G.2.2 90)), none]) (fun G => by show _ ≤ _; exact Nat.le_of_ble_eq_true rfl) (fun G => rfl) ?_
  intro p l e s m args below meth cd G A C hn hok
  replace C : Cx wX cL_undo 3 RL wsL_undo (some .int) [(0, 8, 11, 15)] p l s m args meth cd G A := C
  have M := hC (fun r1 S1 => c = 0 ∧ r1 = r ∧ vw S1 = V') (fun N S1 => c ≠ 0 ∧ vw S1 = V' ∧ N = [ISE].getD (c.toNat - 1) "") (fun z S1 h => ⟨z, rfl, h⟩) (fun z S1 h => ⟨z, h, rfl⟩)
  show J wX 3 rmL_undo p l e s m args below meth cd G A (QQ 1 wX okX G (fun q u => q = c ∧ vw u.1 = V' ∧ (c = 0 → u.2 = r)) (fun _ _ => False) A below args s rmL_undo.cells rmL_undo.slots) 0 0 (S, o) [some (.ref (G.2.2 0)), some (.ref (G.2.2 90)), none] [] 0
  refine J_aload_n (pc := 0) C dL_undo_0 rfl ?_
  refine J_iconst (pc := 1) C dL_undo_1 ?_
  refine J_aload_n (pc := 2) C dL_undo_2 rfl ?_
  refine J_e1 (pc := 3) C (emb_XC G S o) (J_eV (pc := 3) C (emb_XC G S o) M dL_undo_3 rfl rfl 0 rfl rfl (cwV 0 C.1.2.2.2.2 gL_undo_X6_undo rfl rfl rfl (by decide +kernel) ⟨Nat.le_of_ble_eq_true rfl, Nat.le_of_ble_eq_true rfl⟩) hok (Nat.le_of_ble_eq_true rfl) ⟨Nat.le_of_ble_eq_true rfl, Nat.le_of_ble_eq_true rfl⟩) (fun N S1 hok1 q1 => ?_) (fun r1 S1 hr1 hok1 q1 => ?_)
  · obtain ⟨hc0, hv, hN⟩ := q1
    rcases (show c = 1 by omega) with rfl
    · have hN : N = ISE := hN
      subst hN
      refine J_catch (pc := 3) C hn [] (0, 8, 11, 15) [] rfl (by decide) (fun z hz => nomatch hz) (by decide) mL_undo_k15 (by decide) (fun q9 => ?_)
      refine J_astore_n (pc := 11) C dL_undo_11 (by decide) ?_
      refine J_iconst (pc := 12) C dL_undo_12 ?_
      exact J_iret (pc := 13) C dL_undo_13 (by decide) hok1 ⟨rfl, hv, fun z => absurd z (by decide)⟩ (Nat.le_of_ble_eq_true rfl) (Nat.le_of_ble_eq_true rfl)
  · obtain ⟨hc0, hr0, hv⟩ := q1
    subst hc0
    refine J_i2l (pc := 6) C dL_undo_6 hr1 ?_
    refine J_outst (pc := 7) C dL_undo_7 ?_
    refine J_goto (pc := 8) (tgt := 14) C dL_undo_8 (by decide) ?_
    refine J_iconst (pc := 14) C dL_undo_14 ?_
    exact J_iret (pc := 15) C dL_undo_15 (by decide) hok1 ⟨rfl, hv, fun _ => hr0⟩ (Nat.le_of_ble_eq_true rfl) (Nat.le_of_ble_eq_true rfl)
def rmL_stress : Room := { frames := 8, cells := 2, slots := 12, locals := 126 }
theorem mL_stress_k21 : Cond.classLink RL 21 IOOBE ∈ wsL_stress := by decide +kernel
theorem mL_stress_k13 : Cond.classLink RL 13 IAE ∈ wsL_stress := by decide +kernel
set_option maxRecDepth 100000 in
set_option maxHeartbeats 4000000 in
theorem ct_L_stress {a0 a1 : Int} {S : St} {o c r : Int} {V' : St} (ra0 : r32 a0) (ra1 : r32 a1) (hc : 0 ≤ c ∧ c ≤ 2) (hC : DoC [IOOBE, IAE] c r V' (M_X6_stress a0 a1 S)) : ML yL_stress wsL_stress rmL_stress (fun G => [.ref (G.2.2 0), iV a0, iV a1, .ref (G.2.2 90)]) (S, o) (fun q u => q = c ∧ vw u.1 = V' ∧ (c = 0 → u.2 = r)) := by
  refine ML_of (by decide +kernel) rfl (Lf := fun G => [some (.ref (G.2.2 0)), some (iV a0), some (iV a1), some (.ref (G.2.2 90)), none]) (fun G => by show _ ≤ _; exact Nat.le_of_ble_eq_true rfl) (fun G => rfl) ?_
  intro p l e s m args below meth cd G A C hn hok
  replace C : Cx wX cL_stress 5 RL wsL_stress (some .int) [(0, 10, 13, 21), (0, 10, 17, 13)] p l s m args meth cd G A := C
  have M := hC (fun r1 S1 => c = 0 ∧ r1 = r ∧ vw S1 = V') (fun N S1 => c ≠ 0 ∧ vw S1 = V' ∧ N = [IOOBE, IAE].getD (c.toNat - 1) "") (fun z S1 h => ⟨z, rfl, h⟩) (fun z S1 h => ⟨z, h, rfl⟩) ra0 ra1
  show J wX 5 rmL_stress p l e s m args below meth cd G A (QQ 1 wX okX G (fun q u => q = c ∧ vw u.1 = V' ∧ (c = 0 → u.2 = r)) (fun _ _ => False) A below args s rmL_stress.cells rmL_stress.slots) 0 0 (S, o) [some (.ref (G.2.2 0)), some (iV a0), some (iV a1), some (.ref (G.2.2 90)), none] [] 0
  refine J_aload_n (pc := 0) C dL_stress_0 rfl ?_
  refine J_iconst (pc := 1) C dL_stress_1 ?_
  refine J_aload_n (pc := 2) C dL_stress_2 rfl ?_
  refine J_iload_n (pc := 3) C dL_stress_3 rfl ?_
  refine J_iload_n (pc := 4) C dL_stress_4 rfl ?_
  refine J_e1 (pc := 5) C (emb_XC G S o) (J_eV (pc := 5) C (emb_XC G S o) M dL_stress_5 rfl rfl 0 rfl rfl (cwV 2 C.1.2.2.2.2 gL_stress_X6_stress rfl rfl rfl (by decide +kernel) ⟨Nat.le_of_ble_eq_true rfl, Nat.le_of_ble_eq_true rfl⟩) hok (Nat.le_of_ble_eq_true rfl) ⟨Nat.le_of_ble_eq_true rfl, Nat.le_of_ble_eq_true rfl⟩) (fun N S1 hok1 q1 => ?_) (fun r1 S1 hr1 hok1 q1 => ?_)
  · obtain ⟨hc0, hv, hN⟩ := q1
    rcases (show c = 1 ∨ c = 2 by omega) with rfl | rfl
    · have hN : N = IOOBE := hN
      subst hN
      refine J_catch (pc := 5) C hn [] (0, 10, 13, 21) [(0, 10, 17, 13)] rfl (by decide) (fun z hz => nomatch hz) (by decide) mL_stress_k21 (by decide) (fun q9 => ?_)
      refine J_astore (pc := 13) C dL_stress_13 (by decide) ?_
      refine J_iconst (pc := 15) C dL_stress_15 ?_
      exact J_iret (pc := 16) C dL_stress_16 (by decide) hok1 ⟨rfl, hv, fun z => absurd z (by decide)⟩ (Nat.le_of_ble_eq_true rfl) (Nat.le_of_ble_eq_true rfl)
    · have hN : N = IAE := hN
      subst hN
      refine J_catch (pc := 5) C hn [(0, 10, 13, 21)] (0, 10, 17, 13) [] rfl (by decide) (fun z hz => by
        simp only [List.mem_cons, List.not_mem_nil, or_false] at hz
        rcases hz with rfl
        · exact ⟨by decide, _, mL_stress_k21, by decide⟩) (by decide) mL_stress_k13 (by decide) (fun q9 => ?_)
      refine J_astore (pc := 17) C dL_stress_17 (by decide) ?_
      refine J_iconst (pc := 19) C dL_stress_19 ?_
      exact J_iret (pc := 20) C dL_stress_20 (by decide) hok1 ⟨rfl, hv, fun z => absurd z (by decide)⟩ (Nat.le_of_ble_eq_true rfl) (Nat.le_of_ble_eq_true rfl)
  · obtain ⟨hc0, hr0, hv⟩ := q1
    subst hc0
    refine J_i2l (pc := 8) C dL_stress_8 hr1 ?_
    refine J_outst (pc := 9) C dL_stress_9 ?_
    refine J_goto (pc := 10) (tgt := 21) C dL_stress_10 (by decide) ?_
    refine J_iconst (pc := 21) C dL_stress_21 ?_
    exact J_iret (pc := 22) C dL_stress_22 (by decide) hok1 ⟨rfl, hv, fun _ => hr0⟩ (Nat.le_of_ble_eq_true rfl) (Nat.le_of_ble_eq_true rfl)
def rmL_reaches : Room := { frames := 8, cells := 4, slots := 24, locals := 128 }
theorem mL_reaches_k13 : Cond.classLink RL 13 IAE ∈ wsL_reaches := by decide +kernel
set_option maxRecDepth 100000 in
set_option maxHeartbeats 4000000 in
theorem ct_L_reaches {a0 a1 a2 a3 : Int} {S : St} {o c r : Int} {V' : St} (ra0 : r32 a0) (ra1 : r32 a1) (ra2 : r32 a2) (ra3 : r32 a3) (hc : 0 ≤ c ∧ c ≤ 1) (hC : DoC [IAE] c r V' (M_X6_reaches a0 a1 a2 a3 S)) : ML yL_reaches wsL_reaches rmL_reaches (fun G => [.ref (G.2.2 0), iV a0, iV a1, iV a2, iV a3, .ref (G.2.2 90)]) (S, o) (fun q u => q = c ∧ vw u.1 = V' ∧ (c = 0 → u.2 = (if r = 0 then 0 else 1))) := by
  refine ML_of (by decide +kernel) rfl (Lf := fun G => [some (.ref (G.2.2 0)), some (iV a0), some (iV a1), some (iV a2), some (iV a3), some (.ref (G.2.2 90)), none]) (fun G => by show _ ≤ _; exact Nat.le_of_ble_eq_true rfl) (fun G => rfl) ?_
  intro p l e s m args below meth cd G A C hn hok
  replace C : Cx wX cL_reaches 7 RL wsL_reaches (some .int) [(0, 21, 24, 13)] p l s m args meth cd G A := C
  have M := hC (fun r1 S1 => c = 0 ∧ r1 = r ∧ vw S1 = V') (fun N S1 => c ≠ 0 ∧ vw S1 = V' ∧ N = [IAE].getD (c.toNat - 1) "") (fun z S1 h => ⟨z, rfl, h⟩) (fun z S1 h => ⟨z, h, rfl⟩) ra0 ra1 ra2 ra3
  show J wX 7 rmL_reaches p l e s m args below meth cd G A (QQ 1 wX okX G (fun q u => q = c ∧ vw u.1 = V' ∧ (c = 0 → u.2 = (if r = 0 then 0 else 1))) (fun _ _ => False) A below args s rmL_reaches.cells rmL_reaches.slots) 0 0 (S, o) [some (.ref (G.2.2 0)), some (iV a0), some (iV a1), some (iV a2), some (iV a3), some (.ref (G.2.2 90)), none] [] 0
  refine J_aload (pc := 0) C dL_reaches_0 rfl ?_
  refine J_iconst (pc := 2) C dL_reaches_2 ?_
  refine J_aload_n (pc := 3) C dL_reaches_3 rfl ?_
  refine J_iload_n (pc := 4) C dL_reaches_4 rfl ?_
  refine J_iload_n (pc := 5) C dL_reaches_5 rfl ?_
  refine J_iload_n (pc := 6) C dL_reaches_6 rfl ?_
  refine J_iload (pc := 7) C dL_reaches_7 rfl ?_
  refine J_e1 (pc := 9) C (emb_XC G S o) (J_eV (pc := 9) C (emb_XC G S o) M dL_reaches_9 rfl rfl 0 rfl rfl (cwV 4 C.1.2.2.2.2 gL_reaches_X6_reaches rfl rfl rfl (by decide +kernel) ⟨Nat.le_of_ble_eq_true rfl, Nat.le_of_ble_eq_true rfl⟩) hok (Nat.le_of_ble_eq_true rfl) ⟨Nat.le_of_ble_eq_true rfl, Nat.le_of_ble_eq_true rfl⟩) (fun N S1 hok1 q1 => ?_) (fun r1 S1 hr1 hok1 q1 => ?_)
  · obtain ⟨hc0, hv, hN⟩ := q1
    rcases (show c = 1 by omega) with rfl
    · have hN : N = IAE := hN
      subst hN
      refine J_catch (pc := 9) C hn [] (0, 21, 24, 13) [] rfl (by decide) (fun z hz => nomatch hz) (by decide) mL_reaches_k13 (by decide) (fun q9 => ?_)
      refine J_astore (pc := 24) C dL_reaches_24 (by decide) ?_
      refine J_iconst (pc := 26) C dL_reaches_26 ?_
      exact J_iret (pc := 27) C dL_reaches_27 (by decide) hok1 ⟨rfl, hv, fun z => absurd z (by decide)⟩ (Nat.le_of_ble_eq_true rfl) (Nat.le_of_ble_eq_true rfl)
  · obtain ⟨hc0, hr0, hv⟩ := q1
    subst hc0
    refine J_if_eq (pc := 12) (tgt := 19) C dL_reaches_12 (by decide) hr1 (fun cb => ?_) (fun cb => ?_)
    · rw [hr0] at cb
      refine J_lconst (pc := 19) C dL_reaches_19 ?_
      refine J_outst (pc := 20) C dL_reaches_20 ?_
      refine J_goto (pc := 21) (tgt := 28) C dL_reaches_21 (by decide) ?_
      refine J_iconst (pc := 28) C dL_reaches_28 ?_
      exact J_iret (pc := 29) C dL_reaches_29 (by decide) hok1 ⟨rfl, hv, fun _ => by rw [if_pos cb]; rfl⟩ (Nat.le_of_ble_eq_true rfl) (Nat.le_of_ble_eq_true rfl)
    · rw [hr0] at cb
      refine J_lconst (pc := 15) C dL_reaches_15 ?_
      refine J_goto (pc := 16) (tgt := 20) C dL_reaches_16 (by decide) ?_
      refine J_outst (pc := 20) C dL_reaches_20 ?_
      refine J_goto (pc := 21) (tgt := 28) C dL_reaches_21 (by decide) ?_
      refine J_iconst (pc := 28) C dL_reaches_28 ?_
      exact J_iret (pc := 29) C dL_reaches_29 (by decide) hok1 ⟨rfl, hv, fun _ => by rw [if_neg cb]; rfl⟩ (Nat.le_of_ble_eq_true rfl) (Nat.le_of_ble_eq_true rfl)
def rmL_folds : Room := { frames := 8, cells := 5, slots := 30, locals := 128 }
theorem mL_folds_k13 : Cond.classLink RL 13 IAE ∈ wsL_folds := by decide +kernel
set_option maxRecDepth 100000 in
set_option maxHeartbeats 4000000 in
theorem ct_L_folds {a0 a1 a2 a3 a4 : Int} {S : St} {o c r : Int} {V' : St} (ra0 : r32 a0) (ra1 : r32 a1) (ra2 : r32 a2) (ra3 : r32 a3) (ra4 : r32 a4) (hc : 0 ≤ c ∧ c ≤ 1) (hC : DoC [IAE] c r V' (M_X6_folds a0 a1 a2 a3 a4 S)) : ML yL_folds wsL_folds rmL_folds (fun G => [.ref (G.2.2 0), iV a0, iV a1, iV a2, iV a3, iV a4, .ref (G.2.2 90)]) (S, o) (fun q u => q = c ∧ vw u.1 = V' ∧ (c = 0 → u.2 = r)) := by
  refine ML_of (by decide +kernel) rfl (Lf := fun G => [some (.ref (G.2.2 0)), some (iV a0), some (iV a1), some (iV a2), some (iV a3), some (iV a4), some (.ref (G.2.2 90)), none]) (fun G => by show _ ≤ _; exact Nat.le_of_ble_eq_true rfl) (fun G => rfl) ?_
  intro p l e s m args below meth cd G A C hn hok
  replace C : Cx wX cL_folds 8 RL wsL_folds (some .int) [(0, 16, 19, 13)] p l s m args meth cd G A := C
  have M := hC (fun r1 S1 => c = 0 ∧ r1 = r ∧ vw S1 = V') (fun N S1 => c ≠ 0 ∧ vw S1 = V' ∧ N = [IAE].getD (c.toNat - 1) "") (fun z S1 h => ⟨z, rfl, h⟩) (fun z S1 h => ⟨z, h, rfl⟩) ra0 ra1 ra2 ra3 ra4
  show J wX 8 rmL_folds p l e s m args below meth cd G A (QQ 1 wX okX G (fun q u => q = c ∧ vw u.1 = V' ∧ (c = 0 → u.2 = r)) (fun _ _ => False) A below args s rmL_folds.cells rmL_folds.slots) 0 0 (S, o) [some (.ref (G.2.2 0)), some (iV a0), some (iV a1), some (iV a2), some (iV a3), some (iV a4), some (.ref (G.2.2 90)), none] [] 0
  refine J_aload (pc := 0) C dL_folds_0 rfl ?_
  refine J_iconst (pc := 2) C dL_folds_2 ?_
  refine J_aload_n (pc := 3) C dL_folds_3 rfl ?_
  refine J_iload_n (pc := 4) C dL_folds_4 rfl ?_
  refine J_iload_n (pc := 5) C dL_folds_5 rfl ?_
  refine J_iload_n (pc := 6) C dL_folds_6 rfl ?_
  refine J_iload (pc := 7) C dL_folds_7 rfl ?_
  refine J_iload (pc := 9) C dL_folds_9 rfl ?_
  refine J_e1 (pc := 11) C (emb_XC G S o) (J_eV (pc := 11) C (emb_XC G S o) M dL_folds_11 rfl rfl 0 rfl rfl (cwV 5 C.1.2.2.2.2 gL_folds_X6_folds rfl rfl rfl (by decide +kernel) ⟨Nat.le_of_ble_eq_true rfl, Nat.le_of_ble_eq_true rfl⟩) hok (Nat.le_of_ble_eq_true rfl) ⟨Nat.le_of_ble_eq_true rfl, Nat.le_of_ble_eq_true rfl⟩) (fun N S1 hok1 q1 => ?_) (fun r1 S1 hr1 hok1 q1 => ?_)
  · obtain ⟨hc0, hv, hN⟩ := q1
    rcases (show c = 1 by omega) with rfl
    · have hN : N = IAE := hN
      subst hN
      refine J_catch (pc := 11) C hn [] (0, 16, 19, 13) [] rfl (by decide) (fun z hz => nomatch hz) (by decide) mL_folds_k13 (by decide) (fun q9 => ?_)
      refine J_astore (pc := 19) C dL_folds_19 (by decide) ?_
      refine J_iconst (pc := 21) C dL_folds_21 ?_
      exact J_iret (pc := 22) C dL_folds_22 (by decide) hok1 ⟨rfl, hv, fun z => absurd z (by decide)⟩ (Nat.le_of_ble_eq_true rfl) (Nat.le_of_ble_eq_true rfl)
  · obtain ⟨hc0, hr0, hv⟩ := q1
    subst hc0
    refine J_i2l (pc := 14) C dL_folds_14 hr1 ?_
    refine J_outst (pc := 15) C dL_folds_15 ?_
    refine J_goto (pc := 16) (tgt := 23) C dL_folds_16 (by decide) ?_
    refine J_iconst (pc := 23) C dL_folds_23 ?_
    exact J_iret (pc := 24) C dL_folds_24 (by decide) hok1 ⟨rfl, hv, fun _ => hr0⟩ (Nat.le_of_ble_eq_true rfl) (Nat.le_of_ble_eq_true rfl)
def rmL_range : Room := { frames := 8, cells := 2, slots := 12, locals := 126 }
theorem mL_range_k21 : Cond.classLink RL 21 IOOBE ∈ wsL_range := by decide +kernel
theorem mL_range_k13 : Cond.classLink RL 13 IAE ∈ wsL_range := by decide +kernel
set_option maxRecDepth 100000 in
set_option maxHeartbeats 4000000 in
theorem ct_L_range {a0 a1 : Int} {S : St} {o c r : Int} {V' : St} (ra0 : r32 a0) (ra1 : r32 a1) (hc : 0 ≤ c ∧ c ≤ 2) (hC : DoC [IOOBE, IAE] c r V' (M_X6_range a0 a1 S)) : ML yL_range wsL_range rmL_range (fun G => [.ref (G.2.2 0), iV a0, iV a1, .ref (G.2.2 90)]) (S, o) (fun q u => q = c ∧ vw u.1 = V' ∧ (c = 0 → u.2 = r)) := by
  refine ML_of (by decide +kernel) rfl (Lf := fun G => [some (.ref (G.2.2 0)), some (iV a0), some (iV a1), some (.ref (G.2.2 90)), none]) (fun G => by show _ ≤ _; exact Nat.le_of_ble_eq_true rfl) (fun G => rfl) ?_
  intro p l e s m args below meth cd G A C hn hok
  replace C : Cx wX cL_range 5 RL wsL_range (some .int) [(0, 10, 13, 21), (0, 10, 17, 13)] p l s m args meth cd G A := C
  have M := hC (fun r1 S1 => c = 0 ∧ r1 = r ∧ vw S1 = V') (fun N S1 => c ≠ 0 ∧ vw S1 = V' ∧ N = [IOOBE, IAE].getD (c.toNat - 1) "") (fun z S1 h => ⟨z, rfl, h⟩) (fun z S1 h => ⟨z, h, rfl⟩) ra0 ra1
  show J wX 5 rmL_range p l e s m args below meth cd G A (QQ 1 wX okX G (fun q u => q = c ∧ vw u.1 = V' ∧ (c = 0 → u.2 = r)) (fun _ _ => False) A below args s rmL_range.cells rmL_range.slots) 0 0 (S, o) [some (.ref (G.2.2 0)), some (iV a0), some (iV a1), some (.ref (G.2.2 90)), none] [] 0
  refine J_aload_n (pc := 0) C dL_range_0 rfl ?_
  refine J_iconst (pc := 1) C dL_range_1 ?_
  refine J_aload_n (pc := 2) C dL_range_2 rfl ?_
  refine J_iload_n (pc := 3) C dL_range_3 rfl ?_
  refine J_iload_n (pc := 4) C dL_range_4 rfl ?_
  refine J_e1 (pc := 5) C (emb_XC G S o) (J_eV (pc := 5) C (emb_XC G S o) M dL_range_5 rfl rfl 0 rfl rfl (cwV 2 C.1.2.2.2.2 gL_range_X6_range rfl rfl rfl (by decide +kernel) ⟨Nat.le_of_ble_eq_true rfl, Nat.le_of_ble_eq_true rfl⟩) hok (Nat.le_of_ble_eq_true rfl) ⟨Nat.le_of_ble_eq_true rfl, Nat.le_of_ble_eq_true rfl⟩) (fun N S1 hok1 q1 => ?_) (fun r1 S1 hr1 hok1 q1 => ?_)
  · obtain ⟨hc0, hv, hN⟩ := q1
    rcases (show c = 1 ∨ c = 2 by omega) with rfl | rfl
    · have hN : N = IOOBE := hN
      subst hN
      refine J_catch (pc := 5) C hn [] (0, 10, 13, 21) [(0, 10, 17, 13)] rfl (by decide) (fun z hz => nomatch hz) (by decide) mL_range_k21 (by decide) (fun q9 => ?_)
      refine J_astore (pc := 13) C dL_range_13 (by decide) ?_
      refine J_iconst (pc := 15) C dL_range_15 ?_
      exact J_iret (pc := 16) C dL_range_16 (by decide) hok1 ⟨rfl, hv, fun z => absurd z (by decide)⟩ (Nat.le_of_ble_eq_true rfl) (Nat.le_of_ble_eq_true rfl)
    · have hN : N = IAE := hN
      subst hN
      refine J_catch (pc := 5) C hn [(0, 10, 13, 21)] (0, 10, 17, 13) [] rfl (by decide) (fun z hz => by
        simp only [List.mem_cons, List.not_mem_nil, or_false] at hz
        rcases hz with rfl
        · exact ⟨by decide, _, mL_range_k21, by decide⟩) (by decide) mL_range_k13 (by decide) (fun q9 => ?_)
      refine J_astore (pc := 17) C dL_range_17 (by decide) ?_
      refine J_iconst (pc := 19) C dL_range_19 ?_
      exact J_iret (pc := 20) C dL_range_20 (by decide) hok1 ⟨rfl, hv, fun z => absurd z (by decide)⟩ (Nat.le_of_ble_eq_true rfl) (Nat.le_of_ble_eq_true rfl)
  · obtain ⟨hc0, hr0, hv⟩ := q1
    subst hc0
    refine J_i2l (pc := 8) C dL_range_8 hr1 ?_
    refine J_outst (pc := 9) C dL_range_9 ?_
    refine J_goto (pc := 10) (tgt := 21) C dL_range_10 (by decide) ?_
    refine J_iconst (pc := 21) C dL_range_21 ?_
    exact J_iret (pc := 22) C dL_range_22 (by decide) hok1 ⟨rfl, hv, fun _ => hr0⟩ (Nat.le_of_ble_eq_true rfl) (Nat.le_of_ble_eq_true rfl)
def rmL_places : Room := { frames := 8, cells := 1, slots := 6, locals := 126 }
theorem mL_places_k13 : Cond.classLink RL 13 IAE ∈ wsL_places := by decide +kernel
set_option maxRecDepth 100000 in
set_option maxHeartbeats 4000000 in
theorem ct_L_places {a0 : Int} {S : St} {o c r : Int} {V' : St} (ra0 : r32 a0) (hc : 0 ≤ c ∧ c ≤ 1) (hC : DoC [IAE] c r V' (M_X6_places a0 S)) : ML yL_places wsL_places rmL_places (fun G => [.ref (G.2.2 0), iV a0, .ref (G.2.2 90)]) (S, o) (fun q u => q = c ∧ vw u.1 = V' ∧ (c = 0 → u.2 = r)) := by
  refine ML_of (by decide +kernel) rfl (Lf := fun G => [some (.ref (G.2.2 0)), some (iV a0), some (.ref (G.2.2 90)), none]) (fun G => by show _ ≤ _; exact Nat.le_of_ble_eq_true rfl) (fun G => rfl) ?_
  intro p l e s m args below meth cd G A C hn hok
  replace C : Cx wX cL_places 4 RL wsL_places (some .int) [(0, 9, 12, 13)] p l s m args meth cd G A := C
  have M := hC (fun r1 S1 => c = 0 ∧ r1 = r ∧ vw S1 = V') (fun N S1 => c ≠ 0 ∧ vw S1 = V' ∧ N = [IAE].getD (c.toNat - 1) "") (fun z S1 h => ⟨z, rfl, h⟩) (fun z S1 h => ⟨z, h, rfl⟩) ra0
  show J wX 4 rmL_places p l e s m args below meth cd G A (QQ 1 wX okX G (fun q u => q = c ∧ vw u.1 = V' ∧ (c = 0 → u.2 = r)) (fun _ _ => False) A below args s rmL_places.cells rmL_places.slots) 0 0 (S, o) [some (.ref (G.2.2 0)), some (iV a0), some (.ref (G.2.2 90)), none] [] 0
  refine J_aload_n (pc := 0) C dL_places_0 rfl ?_
  refine J_iconst (pc := 1) C dL_places_1 ?_
  refine J_aload_n (pc := 2) C dL_places_2 rfl ?_
  refine J_iload_n (pc := 3) C dL_places_3 rfl ?_
  refine J_e1 (pc := 4) C (emb_XC G S o) (J_eV (pc := 4) C (emb_XC G S o) M dL_places_4 rfl rfl 0 rfl rfl (cwV 1 C.1.2.2.2.2 gL_places_X6_places rfl rfl rfl (by decide +kernel) ⟨Nat.le_of_ble_eq_true rfl, Nat.le_of_ble_eq_true rfl⟩) hok (Nat.le_of_ble_eq_true rfl) ⟨Nat.le_of_ble_eq_true rfl, Nat.le_of_ble_eq_true rfl⟩) (fun N S1 hok1 q1 => ?_) (fun r1 S1 hr1 hok1 q1 => ?_)
  · obtain ⟨hc0, hv, hN⟩ := q1
    rcases (show c = 1 by omega) with rfl
    · have hN : N = IAE := hN
      subst hN
      refine J_catch (pc := 4) C hn [] (0, 9, 12, 13) [] rfl (by decide) (fun z hz => nomatch hz) (by decide) mL_places_k13 (by decide) (fun q9 => ?_)
      refine J_astore_n (pc := 12) C dL_places_12 (by decide) ?_
      refine J_iconst (pc := 13) C dL_places_13 ?_
      exact J_iret (pc := 14) C dL_places_14 (by decide) hok1 ⟨rfl, hv, fun z => absurd z (by decide)⟩ (Nat.le_of_ble_eq_true rfl) (Nat.le_of_ble_eq_true rfl)
  · obtain ⟨hc0, hr0, hv⟩ := q1
    subst hc0
    refine J_i2l (pc := 7) C dL_places_7 hr1 ?_
    refine J_outst (pc := 8) C dL_places_8 ?_
    refine J_goto (pc := 9) (tgt := 15) C dL_places_9 (by decide) ?_
    refine J_iconst (pc := 15) C dL_places_15 ?_
    exact J_iret (pc := 16) C dL_places_16 (by decide) hok1 ⟨rfl, hv, fun _ => hr0⟩ (Nat.le_of_ble_eq_true rfl) (Nat.le_of_ble_eq_true rfl)
def rmL_place : Room := { frames := 8, cells := 2, slots := 12, locals := 127 }
theorem mL_place_k21 : Cond.classLink RL 21 IOOBE ∈ wsL_place := by decide +kernel
theorem mL_place_k13 : Cond.classLink RL 13 IAE ∈ wsL_place := by decide +kernel
set_option maxRecDepth 100000 in
set_option maxHeartbeats 4000000 in
theorem ct_L_place {a0 a1 : Int} {S : St} {o c r : Int} {V' : St} (ra0 : r32 a0) (ra1 : r32 a1) (hc : 0 ≤ c ∧ c ≤ 2) (hC : DoC [IOOBE, IAE] c r V' (M_X6_place a0 a1 S)) : ML yL_place wsL_place rmL_place (fun G => [.ref (G.2.2 0), iV a0, iV a1, .ref (G.2.2 90)]) (S, o) (fun q u => q = c ∧ vw u.1 = V' ∧ (c = 0 → u.2 = r)) := by
  refine ML_of (by decide +kernel) rfl (Lf := fun G => [some (.ref (G.2.2 0)), some (iV a0), some (iV a1), some (.ref (G.2.2 90)), none]) (fun G => by show _ ≤ _; exact Nat.le_of_ble_eq_true rfl) (fun G => rfl) ?_
  intro p l e s m args below meth cd G A C hn hok
  replace C : Cx wX cL_place 5 RL wsL_place (some .int) [(0, 10, 13, 21), (0, 10, 17, 13)] p l s m args meth cd G A := C
  have M := hC (fun r1 S1 => c = 0 ∧ r1 = r ∧ vw S1 = V') (fun N S1 => c ≠ 0 ∧ vw S1 = V' ∧ N = [IOOBE, IAE].getD (c.toNat - 1) "") (fun z S1 h => ⟨z, rfl, h⟩) (fun z S1 h => ⟨z, h, rfl⟩) ra0 ra1
  show J wX 5 rmL_place p l e s m args below meth cd G A (QQ 1 wX okX G (fun q u => q = c ∧ vw u.1 = V' ∧ (c = 0 → u.2 = r)) (fun _ _ => False) A below args s rmL_place.cells rmL_place.slots) 0 0 (S, o) [some (.ref (G.2.2 0)), some (iV a0), some (iV a1), some (.ref (G.2.2 90)), none] [] 0
  refine J_aload_n (pc := 0) C dL_place_0 rfl ?_
  refine J_iconst (pc := 1) C dL_place_1 ?_
  refine J_aload_n (pc := 2) C dL_place_2 rfl ?_
  refine J_iload_n (pc := 3) C dL_place_3 rfl ?_
  refine J_iload_n (pc := 4) C dL_place_4 rfl ?_
  refine J_e1 (pc := 5) C (emb_XC G S o) (J_eV (pc := 5) C (emb_XC G S o) M dL_place_5 rfl rfl 0 rfl rfl (cwV 2 C.1.2.2.2.2 gL_place_X6_place rfl rfl rfl (by decide +kernel) ⟨Nat.le_of_ble_eq_true rfl, Nat.le_of_ble_eq_true rfl⟩) hok (Nat.le_of_ble_eq_true rfl) ⟨Nat.le_of_ble_eq_true rfl, Nat.le_of_ble_eq_true rfl⟩) (fun N S1 hok1 q1 => ?_) (fun r1 S1 hr1 hok1 q1 => ?_)
  · obtain ⟨hc0, hv, hN⟩ := q1
    rcases (show c = 1 ∨ c = 2 by omega) with rfl | rfl
    · have hN : N = IOOBE := hN
      subst hN
      refine J_catch (pc := 5) C hn [] (0, 10, 13, 21) [(0, 10, 17, 13)] rfl (by decide) (fun z hz => nomatch hz) (by decide) mL_place_k21 (by decide) (fun q9 => ?_)
      refine J_astore (pc := 13) C dL_place_13 (by decide) ?_
      refine J_iconst (pc := 15) C dL_place_15 ?_
      exact J_iret (pc := 16) C dL_place_16 (by decide) hok1 ⟨rfl, hv, fun z => absurd z (by decide)⟩ (Nat.le_of_ble_eq_true rfl) (Nat.le_of_ble_eq_true rfl)
    · have hN : N = IAE := hN
      subst hN
      refine J_catch (pc := 5) C hn [(0, 10, 13, 21)] (0, 10, 17, 13) [] rfl (by decide) (fun z hz => by
        simp only [List.mem_cons, List.not_mem_nil, or_false] at hz
        rcases hz with rfl
        · exact ⟨by decide, _, mL_place_k21, by decide⟩) (by decide) mL_place_k13 (by decide) (fun q9 => ?_)
      refine J_astore (pc := 17) C dL_place_17 (by decide) ?_
      refine J_iconst (pc := 19) C dL_place_19 ?_
      exact J_iret (pc := 20) C dL_place_20 (by decide) hok1 ⟨rfl, hv, fun z => absurd z (by decide)⟩ (Nat.le_of_ble_eq_true rfl) (Nat.le_of_ble_eq_true rfl)
  · obtain ⟨hc0, hr0, hv⟩ := q1
    subst hc0
    refine J_i2l (pc := 8) C dL_place_8 hr1 ?_
    refine J_outst (pc := 9) C dL_place_9 ?_
    refine J_goto (pc := 10) (tgt := 21) C dL_place_10 (by decide) ?_
    refine J_iconst (pc := 21) C dL_place_21 ?_
    exact J_iret (pc := 22) C dL_place_22 (by decide) hok1 ⟨rfl, hv, fun _ => hr0⟩ (Nat.le_of_ble_eq_true rfl) (Nat.le_of_ble_eq_true rfl)
def rmL_ofJoint : Room := { frames := 8, cells := 2, slots := 12, locals := 125 }
theorem mL_ofJoint_k21 : Cond.classLink RL 21 IOOBE ∈ wsL_ofJoint := by decide +kernel
theorem mL_ofJoint_k13 : Cond.classLink RL 13 IAE ∈ wsL_ofJoint := by decide +kernel
set_option maxRecDepth 100000 in
set_option maxHeartbeats 4000000 in
theorem ct_L_ofJoint {a0 a1 : Int} {S : St} {o c r : Int} {V' : St} (ra0 : r32 a0) (ra1 : r32 a1) (hc : 0 ≤ c ∧ c ≤ 2) (hC : DoC [IOOBE, IAE] c r V' (M_X6_ofJoint a0 a1 S)) : ML yL_ofJoint wsL_ofJoint rmL_ofJoint (fun G => [.ref (G.2.2 0), iV a0, iV a1, .ref (G.2.2 90)]) (S, o) (fun q u => q = c ∧ vw u.1 = V' ∧ (c = 0 → u.2 = r)) := by
  refine ML_of (by decide +kernel) rfl (Lf := fun G => [some (.ref (G.2.2 0)), some (iV a0), some (iV a1), some (.ref (G.2.2 90)), none]) (fun G => by show _ ≤ _; exact Nat.le_of_ble_eq_true rfl) (fun G => rfl) ?_
  intro p l e s m args below meth cd G A C hn hok
  replace C : Cx wX cL_ofJoint 5 RL wsL_ofJoint (some .int) [(0, 10, 13, 21), (0, 10, 17, 13)] p l s m args meth cd G A := C
  have M := hC (fun r1 S1 => c = 0 ∧ r1 = r ∧ vw S1 = V') (fun N S1 => c ≠ 0 ∧ vw S1 = V' ∧ N = [IOOBE, IAE].getD (c.toNat - 1) "") (fun z S1 h => ⟨z, rfl, h⟩) (fun z S1 h => ⟨z, h, rfl⟩) ra0 ra1
  show J wX 5 rmL_ofJoint p l e s m args below meth cd G A (QQ 1 wX okX G (fun q u => q = c ∧ vw u.1 = V' ∧ (c = 0 → u.2 = r)) (fun _ _ => False) A below args s rmL_ofJoint.cells rmL_ofJoint.slots) 0 0 (S, o) [some (.ref (G.2.2 0)), some (iV a0), some (iV a1), some (.ref (G.2.2 90)), none] [] 0
  refine J_aload_n (pc := 0) C dL_ofJoint_0 rfl ?_
  refine J_iconst (pc := 1) C dL_ofJoint_1 ?_
  refine J_aload_n (pc := 2) C dL_ofJoint_2 rfl ?_
  refine J_iload_n (pc := 3) C dL_ofJoint_3 rfl ?_
  refine J_iload_n (pc := 4) C dL_ofJoint_4 rfl ?_
  refine J_e1 (pc := 5) C (emb_XC G S o) (J_eV (pc := 5) C (emb_XC G S o) M dL_ofJoint_5 rfl rfl 0 rfl rfl (cwV 2 C.1.2.2.2.2 gL_ofJoint_X6_ofJoint rfl rfl rfl (by decide +kernel) ⟨Nat.le_of_ble_eq_true rfl, Nat.le_of_ble_eq_true rfl⟩) hok (Nat.le_of_ble_eq_true rfl) ⟨Nat.le_of_ble_eq_true rfl, Nat.le_of_ble_eq_true rfl⟩) (fun N S1 hok1 q1 => ?_) (fun r1 S1 hr1 hok1 q1 => ?_)
  · obtain ⟨hc0, hv, hN⟩ := q1
    rcases (show c = 1 ∨ c = 2 by omega) with rfl | rfl
    · have hN : N = IOOBE := hN
      subst hN
      refine J_catch (pc := 5) C hn [] (0, 10, 13, 21) [(0, 10, 17, 13)] rfl (by decide) (fun z hz => nomatch hz) (by decide) mL_ofJoint_k21 (by decide) (fun q9 => ?_)
      refine J_astore (pc := 13) C dL_ofJoint_13 (by decide) ?_
      refine J_iconst (pc := 15) C dL_ofJoint_15 ?_
      exact J_iret (pc := 16) C dL_ofJoint_16 (by decide) hok1 ⟨rfl, hv, fun z => absurd z (by decide)⟩ (Nat.le_of_ble_eq_true rfl) (Nat.le_of_ble_eq_true rfl)
    · have hN : N = IAE := hN
      subst hN
      refine J_catch (pc := 5) C hn [(0, 10, 13, 21)] (0, 10, 17, 13) [] rfl (by decide) (fun z hz => by
        simp only [List.mem_cons, List.not_mem_nil, or_false] at hz
        rcases hz with rfl
        · exact ⟨by decide, _, mL_ofJoint_k21, by decide⟩) (by decide) mL_ofJoint_k13 (by decide) (fun q9 => ?_)
      refine J_astore (pc := 17) C dL_ofJoint_17 (by decide) ?_
      refine J_iconst (pc := 19) C dL_ofJoint_19 ?_
      exact J_iret (pc := 20) C dL_ofJoint_20 (by decide) hok1 ⟨rfl, hv, fun z => absurd z (by decide)⟩ (Nat.le_of_ble_eq_true rfl) (Nat.le_of_ble_eq_true rfl)
  · obtain ⟨hc0, hr0, hv⟩ := q1
    subst hc0
    refine J_i2l (pc := 8) C dL_ofJoint_8 hr1 ?_
    refine J_outst (pc := 9) C dL_ofJoint_9 ?_
    refine J_goto (pc := 10) (tgt := 21) C dL_ofJoint_10 (by decide) ?_
    refine J_iconst (pc := 21) C dL_ofJoint_21 ?_
    exact J_iret (pc := 22) C dL_ofJoint_22 (by decide) hok1 ⟨rfl, hv, fun _ => hr0⟩ (Nat.le_of_ble_eq_true rfl) (Nat.le_of_ble_eq_true rfl)
end WRAP
