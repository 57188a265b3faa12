def rmX6_requireMember : Room := { frames := 6, cells := 1, slots := 6, locals := 82 }
theorem mX6_requireMember_f19 : Cond.fieldLink RX6 19 "Stresswork" "members" "LStresswork$Members;" ∈ wsX6_requireMember := by decide +kernel
theorem nX6_requireMember_X6 : ∀ x ∈ wsX60, x ∈ wsX6_requireMember := by decide +kernel
theorem mX6_requireMember_xI : Cond.classLink RX6 288 "java/lang/IndexOutOfBoundsException" ∈ wsX6_requireMember := by decide +kernel
theorem mX6_requireMember_yI : Cond.initialized "java/lang/IndexOutOfBoundsException" ∈ wsX6_requireMember := by decide +kernel
theorem mX6_requireMember_zI : ∀ x ∈ (vx_atS RX6 292 "java/lang/IndexOutOfBoundsException" exP).filter goodWord, x ∈ wsX6_requireMember := by decide +kernel
def M_X6_requireMember (a0 : Int) (S : St) (Qr : Int → St → Prop) (Qx : String → St → Prop) : Prop := r32 a0 → MM 0 wC okC yX6_requireMember wsX6_requireMember rmX6_requireMember (fun G => [.ref (G.2.2 0), iV a0]) S Qr Qx
set_option maxRecDepth 100000 in
set_option maxHeartbeats 4000000 in
theorem vc_X6_requireMember {a0 : Int} {S : St} {Qr : Int → St → Prop} {Qx : String → St → Prop} (h : r32 a0 → okC S → M_X3_has a0 S (fun rv4 S2 => r32 rv4 → okC S2 → ((rv4 ≠ 0 → Qr 0 S2) ∧ (rv4 = 0 → Qx "java/lang/IndexOutOfBoundsException" S2))) Qx) : M_X6_requireMember a0 S Qr Qx := by
  intro ra0
  refine MM_of adC (by decide +kernel) rfl (Lf := fun G => [some (.ref (G.2.2 0)), some (iV a0)]) (fun G => by show _ ≤ _; exact Nat.le_of_ble_eq_true rfl) (fun G => rfl) ?_
  intro p l e s m args below meth c G A C hok
  have h := h ra0 hok
  replace C : Cx wC cX6_requireMember 2 RX6 wsX6_requireMember none [] p l s m args meth c G A := C
  show J wC 2 rmX6_requireMember p l e s m args below meth c G A (QQ 0 wC okC G Qr Qx A below args s rmX6_requireMember.cells rmX6_requireMember.slots) 0 0 S [some (.ref (G.2.2 0)), some (iV a0)] [] 0
  refine J_aload_n (pc := 0) C dX6_requireMember_0 rfl ?_
  refine J_get (pc := 1) C dX6_requireMember_1 0 rfl rfl nX6_requireMember_X6 1 (by decide) mX6_requireMember_f19 rfl (v := .ref (G.2.2 2)) rfl ?_
  refine J_iload_n (pc := 4) C dX6_requireMember_4 rfl ?_
  refine J_c1 (pc := 5) C (J_rV (pc := 5) C (h ra0) dX6_requireMember_5 rfl rfl 2 rfl rfl (cwV 1 C.1.2.2.2.2 gX6_requireMember_X3_has rfl rfl rfl (by decide +kernel) ⟨Nat.le_of_ble_eq_true rfl, Nat.le_of_ble_eq_true rfl⟩) hok (Nat.le_of_ble_eq_true rfl) ⟨Nat.le_of_ble_eq_true rfl, Nat.le_of_ble_eq_true rfl⟩) (fun E9 S9 ok9 q9 => JX_out C ok9 q9 (by decide) (by decide)) (fun rv4 S2 hr5 hok3 h1 => ?_)
  have h1 := h1 hr5 hok3
  obtain ⟨h6, h7⟩ := h1
  refine J_if_ne (pc := 8) (tgt := 22) C dX6_requireMember_8 (by decide) hr5 (fun cb => ?_) (fun cb => ?_)
  · have h6 := h6 cb
    exact J_vret (pc := 22) C dX6_requireMember_22 hok3 h6 (by decide) (by decide)
  · have h7 := h7 cb
    exact J_throwW (pc := 11) C exW_I mX6_requireMember_xI mX6_requireMember_yI (text := "no such member") (by decide +kernel) mX6_requireMember_zI dX6_requireMember_11 dX6_requireMember_14 dX6_requireMember_15 dX6_requireMember_18 dX6_requireMember_21 (by decide) (by decide) (by decide) (by decide) hok3 h7
def rmX6_requireCount : Room := { frames := 6, cells := 1, slots := 6, locals := 82 }
theorem mX6_requireCount_xI : Cond.classLink RX6 288 "java/lang/IndexOutOfBoundsException" ∈ wsX6_requireCount := by decide +kernel
theorem mX6_requireCount_yI : Cond.initialized "java/lang/IndexOutOfBoundsException" ∈ wsX6_requireCount := by decide +kernel
theorem mX6_requireCount_zI : ∀ x ∈ (vx_atS RX6 292 "java/lang/IndexOutOfBoundsException" exP).filter goodWord, x ∈ wsX6_requireCount := by decide +kernel
def M_X6_requireCount (a0 : Int) (S : St) (Qr : Int → St → Prop) (Qx : String → St → Prop) : Prop := r32 a0 → MM 0 wC okC yX6_requireCount wsX6_requireCount rmX6_requireCount (fun G => [iV a0]) S Qr Qx
set_option maxRecDepth 100000 in
set_option maxHeartbeats 4000000 in
theorem vc_X6_requireCount {a0 : Int} {S : St} {Qr : Int → St → Prop} {Qx : String → St → Prop} (h : r32 a0 → okC S → ((0 ≤ a0 → Qr 0 S) ∧ (a0 < 0 → Qx "java/lang/IndexOutOfBoundsException" S))) : M_X6_requireCount a0 S Qr Qx := by
  intro ra0
  refine MM_of adC (by decide +kernel) rfl (Lf := fun G => [some (iV a0)]) (fun G => by show _ ≤ _; exact Nat.le_of_ble_eq_true rfl) (fun G => rfl) ?_
  intro p l e s m args below meth c G A C hok
  have h := h ra0 hok
  replace C : Cx wC cX6_requireCount 1 RX6 wsX6_requireCount none [] p l s m args meth c G A := C
  show J wC 1 rmX6_requireCount p l e s m args below meth c G A (QQ 0 wC okC G Qr Qx A below args s rmX6_requireCount.cells rmX6_requireCount.slots) 0 0 S [some (iV a0)] [] 0
  refine J_iload_n (pc := 0) C dX6_requireCount_0 rfl ?_
  obtain ⟨h1, h2⟩ := h
  refine J_if_ge (pc := 1) (tgt := 15) C dX6_requireCount_1 (by decide) ra0 (fun cb => ?_) (fun cb => ?_)
  · have h1 := h1 cb
    exact J_vret (pc := 15) C dX6_requireCount_15 hok h1 (by decide) (by decide)
  · have h2 := h2 cb
    exact J_throwW (pc := 4) C exW_I mX6_requireCount_xI mX6_requireCount_yI (text := "a count from 0 is below 0") (by decide +kernel) mX6_requireCount_zI dX6_requireCount_4 dX6_requireCount_7 dX6_requireCount_8 dX6_requireCount_11 dX6_requireCount_14 (by decide) (by decide) (by decide) (by decide) hok h2
def rmX6_writeEnd : Room := { frames := 2, cells := 0, slots := 0, locals := 48 }
theorem mX6_writeEnd_f40 : Cond.fieldLink RX6 40 "Stresswork" "grid" "LStresswork$Grid;" ∈ wsX6_writeEnd := by decide +kernel
theorem nX6_writeEnd_X6 : ∀ x ∈ wsX60, x ∈ wsX6_writeEnd := by decide +kernel
def M_X6_writeEnd (a0 a1 a2 a3 : Int) (S : St) (Qr : Int → St → Prop) (Qx : String → St → Prop) : Prop := r32 a0 → r32 a1 → r32 a2 → r32 a3 → MM 0 wC okC yX6_writeEnd wsX6_writeEnd rmX6_writeEnd (fun G => [.ref (G.2.2 0), iV a0, iV a1, iV a2, iV a3]) S Qr Qx
set_option maxRecDepth 100000 in
set_option maxHeartbeats 4000000 in
theorem vc_X6_writeEnd {a0 a1 a2 a3 : Int} {S : St} {Qr : Int → St → Prop} {Qx : String → St → Prop} (h : r32 a0 → r32 a1 → r32 a2 → r32 a3 → okC S → ((a1 = (-1) → Qr 0 S) ∧ (a1 ≠ (-1) → M_X0_add a0 a1 a2 S (fun _ S4 => okC S4 → (r32 (a1 + 1) ∧ M_X0_add a0 (a1 + 1) a3 S4 (fun _ S11 => okC S11 → Qr 0 S11) Qx)) Qx))) : M_X6_writeEnd a0 a1 a2 a3 S Qr Qx := by
  intro ra0 ra1 ra2 ra3
  refine MM_of adC (by decide +kernel) rfl (Lf := fun G => [some (.ref (G.2.2 0)), some (iV a0), some (iV a1), some (iV a2), some (iV a3)]) (fun G => by show _ ≤ _; exact Nat.le_of_ble_eq_true rfl) (fun G => rfl) ?_
  intro p l e s m args below meth c G A C hok
  have h := h ra0 ra1 ra2 ra3 hok
  replace C : Cx wC cX6_writeEnd 5 RX6 wsX6_writeEnd none [] p l s m args meth c G A := C
  show J wC 5 rmX6_writeEnd p l e s m args below meth c G A (QQ 0 wC okC G Qr Qx A below args s rmX6_writeEnd.cells rmX6_writeEnd.slots) 0 0 S [some (.ref (G.2.2 0)), some (iV a0), some (iV a1), some (iV a2), some (iV a3)] [] 0
  refine J_iload_n (pc := 0) C dX6_writeEnd_0 rfl ?_
  refine J_iconst (pc := 1) C dX6_writeEnd_1 ?_
  obtain ⟨h1, h2⟩ := h
  refine J_icmp_eq (pc := 2) (tgt := 28) C dX6_writeEnd_2 (by decide) ra1 (by decide) (fun cb => ?_) (fun cb => ?_)
  · have h1 := h1 cb
    exact J_vret (pc := 28) C dX6_writeEnd_28 hok h1 (by decide) (by decide)
  · have h2 := h2 cb
    refine J_aload_n (pc := 5) C dX6_writeEnd_5 rfl ?_
    refine J_get (pc := 6) C dX6_writeEnd_6 0 rfl rfl nX6_writeEnd_X6 4 (by decide) mX6_writeEnd_f40 rfl (v := .ref (G.2.2 5)) rfl ?_
    refine J_iload_n (pc := 9) C dX6_writeEnd_9 rfl ?_
    refine J_iload_n (pc := 10) C dX6_writeEnd_10 rfl ?_
    refine J_iload_n (pc := 11) C dX6_writeEnd_11 rfl ?_
    refine J_c0 (pc := 12) C (J_rV (pc := 12) C (h2 ra0 ra1 ra2) dX6_writeEnd_12 rfl rfl 5 rfl rfl (cwV 3 C.1.2.2.2.2 gX6_writeEnd_X0_add rfl rfl rfl (by decide +kernel) ⟨Nat.le_of_ble_eq_true rfl, Nat.le_of_ble_eq_true rfl⟩) hok (Nat.le_of_ble_eq_true rfl) ⟨Nat.le_of_ble_eq_true rfl, Nat.le_of_ble_eq_true rfl⟩) (fun E9 S9 ok9 q9 => JX_out C ok9 q9 (by decide) (by decide)) (fun S4 hok5 h3 => ?_)
    have h3 := h3 hok5
    refine J_aload_n (pc := 15) C dX6_writeEnd_15 rfl ?_
    refine J_get (pc := 16) C dX6_writeEnd_16 0 rfl rfl nX6_writeEnd_X6 4 (by decide) mX6_writeEnd_f40 rfl (v := .ref (G.2.2 5)) rfl ?_
    refine J_iload_n (pc := 19) C dX6_writeEnd_19 rfl ?_
    refine J_iload_n (pc := 20) C dX6_writeEnd_20 rfl ?_
    refine J_iconst (pc := 21) C dX6_writeEnd_21 ?_
    refine J_iadd (pc := 22) C dX6_writeEnd_22 ?_
    refine J_iload (pc := 23) C dX6_writeEnd_23 rfl ?_
    obtain ⟨o8, h9⟩ := h3
    refine J_c0 (pc := 25) C (J_rV (pc := 25) C (h9 ra0 o8 ra3) dX6_writeEnd_25 rfl rfl 5 rfl rfl (cwV 3 C.1.2.2.2.2 gX6_writeEnd_X0_add rfl rfl rfl (by decide +kernel) ⟨Nat.le_of_ble_eq_true rfl, Nat.le_of_ble_eq_true rfl⟩) hok5 (Nat.le_of_ble_eq_true rfl) ⟨Nat.le_of_ble_eq_true rfl, Nat.le_of_ble_eq_true rfl⟩) (fun E9 S9 ok9 q9 => JX_out C ok9 q9 (by decide) (by decide)) (fun S11 hok12 h10 => ?_)
    have h10 := h10 hok12
    exact J_vret (pc := 28) C dX6_writeEnd_28 hok12 h10 (by decide) (by decide)
def rmX6_writeRow : Room := { frames := 3, cells := 0, slots := 0, locals := 72 }
theorem mX6_writeRow_f33 : Cond.fieldLink RX6 33 "Stresswork" "layout" "LStresswork$Layout;" ∈ wsX6_writeRow := by decide +kernel
theorem nX6_writeRow_X6 : ∀ x ∈ wsX60, x ∈ wsX6_writeRow := by decide +kernel
theorem mX6_writeRow_f315 : Cond.fieldLink RX6 315 "Stresswork$Layout" "x" "[I" ∈ wsX6_writeRow := by decide +kernel
theorem nX6_writeRow_X2 : ∀ x ∈ wsX20, x ∈ wsX6_writeRow := by decide +kernel
theorem mX6_writeRow_f316 : Cond.fieldLink RX6 316 "Stresswork$Layout" "y" "[I" ∈ wsX6_writeRow := by decide +kernel
theorem mX6_writeRow_f140 : Cond.fieldLink RX6 140 "Stresswork$Layout" "column" "[I" ∈ wsX6_writeRow := by decide +kernel
def M_X6_writeRow (a0 a1 a2 : Int) (S : St) (Qr : Int → St → Prop) (Qx : String → St → Prop) : Prop := r32 a0 → r32 a1 → r32 a2 → MM 0 wC okC yX6_writeRow wsX6_writeRow rmX6_writeRow (fun G => [.ref (G.2.2 0), iV a0, iV a1, iV a2]) S Qr Qx
set_option maxRecDepth 100000 in
set_option maxHeartbeats 4000000 in
theorem vc_X6_writeRow {a0 a1 a2 : Int} {S : St} {Qr : Int → St → Prop} {Qx : String → St → Prop} (h : r32 a0 → r32 a1 → r32 a2 → okC S → (ix a1 10 ∧ (ix a2 10 ∧ (r32 ((S 19 a1) - (S 19 a2)) ∧ (r32 ((S 20 a1) - (S 20 a2)) ∧ M_X6_writeEnd a0 (S 21 a1) ((S 19 a1) - (S 19 a2)) ((S 20 a1) - (S 20 a2)) S (fun _ S10 => okC S10 → (r32 (-((S 19 a1) - (S 19 a2))) ∧ (r32 (-((S 20 a1) - (S 20 a2))) ∧ M_X6_writeEnd a0 (S10 21 a2) (-((S 19 a1) - (S 19 a2))) (-((S 20 a1) - (S 20 a2))) S10 (fun _ S19 => okC S19 → Qr 0 S19) Qx))) Qx))))) : M_X6_writeRow a0 a1 a2 S Qr Qx := by
  intro ra0 ra1 ra2
  refine MM_of adC (by decide +kernel) rfl (Lf := fun G => [some (.ref (G.2.2 0)), some (iV a0), some (iV a1), some (iV a2), none, none]) (fun G => by show _ ≤ _; exact Nat.le_of_ble_eq_true rfl) (fun G => rfl) ?_
  intro p l e s m args below meth c G A C hok
  have h := h ra0 ra1 ra2 hok
  replace C : Cx wC cX6_writeRow 6 RX6 wsX6_writeRow none [] p l s m args meth c G A := C
  show J wC 6 rmX6_writeRow p l e s m args below meth c G A (QQ 0 wC okC G Qr Qx A below args s rmX6_writeRow.cells rmX6_writeRow.slots) 0 0 S [some (.ref (G.2.2 0)), some (iV a0), some (iV a1), some (iV a2), none, none] [] 0
  refine J_aload_n (pc := 0) C dX6_writeRow_0 rfl ?_
  refine J_get (pc := 1) C dX6_writeRow_1 0 rfl rfl nX6_writeRow_X6 3 (by decide) mX6_writeRow_f33 rfl (v := .ref (G.2.2 4)) rfl ?_
  refine J_get (pc := 4) C dX6_writeRow_4 4 rfl rfl nX6_writeRow_X2 0 (by decide) mX6_writeRow_f315 rfl (v := .ref (G.2.2 19)) rfl ?_
  refine J_iload_n (pc := 7) C dX6_writeRow_7 rfl ?_
  obtain ⟨o1, h2⟩ := h
  refine J_iald (pc := 8) C dX6_writeRow_8 19 19 rfl (by decide) o1 ?_
  refine J_aload_n (pc := 9) C dX6_writeRow_9 rfl ?_
  refine J_get (pc := 10) C dX6_writeRow_10 0 rfl rfl nX6_writeRow_X6 3 (by decide) mX6_writeRow_f33 rfl (v := .ref (G.2.2 4)) rfl ?_
  refine J_get (pc := 13) C dX6_writeRow_13 4 rfl rfl nX6_writeRow_X2 0 (by decide) mX6_writeRow_f315 rfl (v := .ref (G.2.2 19)) rfl ?_
  refine J_iload_n (pc := 16) C dX6_writeRow_16 rfl ?_
  obtain ⟨o3, h4⟩ := h2
  refine J_iald (pc := 17) C dX6_writeRow_17 19 19 rfl (by decide) o3 ?_
  refine J_isub (pc := 18) C dX6_writeRow_18 ?_
  refine J_istore (pc := 19) C dX6_writeRow_19 (by decide) ?_
  refine J_aload_n (pc := 21) C dX6_writeRow_21 rfl ?_
  refine J_get (pc := 22) C dX6_writeRow_22 0 rfl rfl nX6_writeRow_X6 3 (by decide) mX6_writeRow_f33 rfl (v := .ref (G.2.2 4)) rfl ?_
  refine J_get (pc := 25) C dX6_writeRow_25 4 rfl rfl nX6_writeRow_X2 1 (by decide) mX6_writeRow_f316 rfl (v := .ref (G.2.2 20)) rfl ?_
  refine J_iload_n (pc := 28) C dX6_writeRow_28 rfl ?_
  refine J_iald (pc := 29) C dX6_writeRow_29 20 20 rfl (by decide) o1 ?_
  refine J_aload_n (pc := 30) C dX6_writeRow_30 rfl ?_
  refine J_get (pc := 31) C dX6_writeRow_31 0 rfl rfl nX6_writeRow_X6 3 (by decide) mX6_writeRow_f33 rfl (v := .ref (G.2.2 4)) rfl ?_
  refine J_get (pc := 34) C dX6_writeRow_34 4 rfl rfl nX6_writeRow_X2 1 (by decide) mX6_writeRow_f316 rfl (v := .ref (G.2.2 20)) rfl ?_
  refine J_iload_n (pc := 37) C dX6_writeRow_37 rfl ?_
  refine J_iald (pc := 38) C dX6_writeRow_38 20 20 rfl (by decide) o3 ?_
  refine J_isub (pc := 39) C dX6_writeRow_39 ?_
  refine J_istore (pc := 40) C dX6_writeRow_40 (by decide) ?_
  refine J_aload_n (pc := 42) C dX6_writeRow_42 rfl ?_
  refine J_iload_n (pc := 43) C dX6_writeRow_43 rfl ?_
  refine J_aload_n (pc := 44) C dX6_writeRow_44 rfl ?_
  refine J_get (pc := 45) C dX6_writeRow_45 0 rfl rfl nX6_writeRow_X6 3 (by decide) mX6_writeRow_f33 rfl (v := .ref (G.2.2 4)) rfl ?_
  refine J_get (pc := 48) C dX6_writeRow_48 4 rfl rfl nX6_writeRow_X2 2 (by decide) mX6_writeRow_f140 rfl (v := .ref (G.2.2 21)) rfl ?_
  refine J_iload_n (pc := 51) C dX6_writeRow_51 rfl ?_
  refine J_iald (pc := 52) C dX6_writeRow_52 21 21 rfl (by decide) o1 ?_
  refine J_iload (pc := 53) C dX6_writeRow_53 rfl ?_
  refine J_iload (pc := 55) C dX6_writeRow_55 rfl ?_
  obtain ⟨o5, h6⟩ := h4
  obtain ⟨o7, h8⟩ := h6
  refine J_c0 (pc := 57) C (J_rV (pc := 57) C (h8 ra0 (hok 21 a1) o5 o7) dX6_writeRow_57 rfl rfl 0 rfl rfl (cwV 4 C.1.2.2.2.2 gX6_writeRow_X6_writeEnd rfl rfl rfl (by decide +kernel) ⟨Nat.le_of_ble_eq_true rfl, Nat.le_of_ble_eq_true rfl⟩) hok (Nat.le_of_ble_eq_true rfl) ⟨Nat.le_of_ble_eq_true rfl, Nat.le_of_ble_eq_true rfl⟩) (fun E9 S9 ok9 q9 => JX_out C ok9 q9 (by decide) (by decide)) (fun S10 hok11 h9 => ?_)
  have h9 := h9 hok11
  refine J_aload_n (pc := 60) C dX6_writeRow_60 rfl ?_
  refine J_iload_n (pc := 61) C dX6_writeRow_61 rfl ?_
  refine J_aload_n (pc := 62) C dX6_writeRow_62 rfl ?_
  refine J_get (pc := 63) C dX6_writeRow_63 0 rfl rfl nX6_writeRow_X6 3 (by decide) mX6_writeRow_f33 rfl (v := .ref (G.2.2 4)) rfl ?_
  refine J_get (pc := 66) C dX6_writeRow_66 4 rfl rfl nX6_writeRow_X2 2 (by decide) mX6_writeRow_f140 rfl (v := .ref (G.2.2 21)) rfl ?_
  refine J_iload_n (pc := 69) C dX6_writeRow_69 rfl ?_
  refine J_iald (pc := 70) C dX6_writeRow_70 21 21 rfl (by decide) o3 ?_
  refine J_iload (pc := 71) C dX6_writeRow_71 rfl ?_
  refine J_ineg (pc := 73) C dX6_writeRow_73 ?_
  refine J_iload (pc := 74) C dX6_writeRow_74 rfl ?_
  refine J_ineg (pc := 76) C dX6_writeRow_76 ?_
  obtain ⟨o14, h15⟩ := h9
  obtain ⟨o16, h17⟩ := h15
  refine J_c0 (pc := 77) C (J_rV (pc := 77) C (h17 ra0 (hok11 21 a2) o14 o16) dX6_writeRow_77 rfl rfl 0 rfl rfl (cwV 4 C.1.2.2.2.2 gX6_writeRow_X6_writeEnd rfl rfl rfl (by decide +kernel) ⟨Nat.le_of_ble_eq_true rfl, Nat.le_of_ble_eq_true rfl⟩) hok11 (Nat.le_of_ble_eq_true rfl) ⟨Nat.le_of_ble_eq_true rfl, Nat.le_of_ble_eq_true rfl⟩) (fun E9 S9 ok9 q9 => JX_out C ok9 q9 (by decide) (by decide)) (fun S19 hok20 h18 => ?_)
  have h18 := h18 hok20
  exact J_vret (pc := 80) C dX6_writeRow_80 hok20 h18 (by decide) (by decide)
def rmX6_writeRows : Room := { frames := 4, cells := 0, slots := 0, locals := 97 }
theorem mX6_writeRows_f19 : Cond.fieldLink RX6 19 "Stresswork" "members" "LStresswork$Members;" ∈ wsX6_writeRows := by decide +kernel
theorem nX6_writeRows_X6 : ∀ x ∈ wsX60, x ∈ wsX6_writeRows := by decide +kernel
theorem mX6_writeRows_f40 : Cond.fieldLink RX6 40 "Stresswork" "grid" "LStresswork$Grid;" ∈ wsX6_writeRows := by decide +kernel
theorem mX6_writeRows_f33 : Cond.fieldLink RX6 33 "Stresswork" "layout" "LStresswork$Layout;" ∈ wsX6_writeRows := by decide +kernel
theorem mX6_writeRows_f124 : Cond.fieldLink RX6 124 "Stresswork$Layout" "width" "I" ∈ wsX6_writeRows := by decide +kernel
theorem nX6_writeRows_X2 : ∀ x ∈ wsX20, x ∈ wsX6_writeRows := by decide +kernel
theorem mX6_writeRows_f235 : Cond.fieldLink RX6 235 "Stresswork$Members" "count" "I" ∈ wsX6_writeRows := by decide +kernel
theorem nX6_writeRows_X3 : ∀ x ∈ wsX30, x ∈ wsX6_writeRows := by decide +kernel
theorem mX6_writeRows_f168 : Cond.fieldLink RX6 168 "Stresswork$Members" "from" "[I" ∈ wsX6_writeRows := by decide +kernel
theorem mX6_writeRows_f171 : Cond.fieldLink RX6 171 "Stresswork$Members" "to" "[I" ∈ wsX6_writeRows := by decide +kernel
def M_X6_writeRows (a0 : Int) (S : St) (Qr : Int → St → Prop) (Qx : String → St → Prop) : Prop := r32 a0 → MM 0 wC okC yX6_writeRows wsX6_writeRows rmX6_writeRows (fun G => [.ref (G.2.2 0), iV a0]) S Qr Qx
def R_X6_writeRows_45 (x1 x3 x4 : Int) (S : St) (Qr : Int → St → Prop) (Qx : String → St → Prop) : Prop := r32 x1 → r32 x3 → r32 x4 → RR 0 wC okC wsX6_writeRows rmX6_writeRows cX6_writeRows 5 RX6 none [] 0 0 (fun G => [some (.ref (G.2.2 0)), some (iV x1), none, some (iV x3), some (iV x4)]) (fun G => []) 45 S Qr Qx
set_option maxRecDepth 100000 in
set_option maxHeartbeats 4000000 in
theorem vc_X6_writeRows {a0 : Int} {S : St} {Qr : Int → St → Prop} {Qx : String → St → Prop} (h : r32 a0 → okC S → M_X3_present S (fun rv4 S2 => r32 rv4 → okC S2 → M_X3_has a0 S2 (fun rv9 S7 => r32 rv9 → okC S7 → ((rv9 = 0 → (r32 (rv4 - 0) ∧ M_X0_begin (rv4 - 0) (S7 4 3) S7 (fun _ S16 => okC S16 → R_X6_writeRows_45 a0 0 0 S16 Qr Qx) Qx)) ∧ (rv9 ≠ 0 → (r32 (rv4 - 1) ∧ M_X0_begin (rv4 - 1) (S7 4 3) S7 (fun _ S23 => okC S23 → R_X6_writeRows_45 a0 0 0 S23 Qr Qx) Qx)))) Qx) Qx) : M_X6_writeRows a0 S Qr Qx := by
  intro ra0
  refine MM_of adC (by decide +kernel) rfl (Lf := fun G => [some (.ref (G.2.2 0)), some (iV a0), none, none, none]) (fun G => by show _ ≤ _; exact Nat.le_of_ble_eq_true rfl) (fun G => rfl) ?_
  intro p l e s m args below meth c G A C hok
  have h := h ra0 hok
  replace C : Cx wC cX6_writeRows 5 RX6 wsX6_writeRows none [] p l s m args meth c G A := C
  show J wC 5 rmX6_writeRows p l e s m args below meth c G A (QQ 0 wC okC G Qr Qx A below args s rmX6_writeRows.cells rmX6_writeRows.slots) 0 0 S [some (.ref (G.2.2 0)), some (iV a0), none, none, none] [] 0
  refine J_aload_n (pc := 0) C dX6_writeRows_0 rfl ?_
  refine J_get (pc := 1) C dX6_writeRows_1 0 rfl rfl nX6_writeRows_X6 1 (by decide) mX6_writeRows_f19 rfl (v := .ref (G.2.2 2)) rfl ?_
  refine J_c1 (pc := 4) C (J_rV (pc := 4) C h dX6_writeRows_4 rfl rfl 2 rfl rfl (cwV 0 C.1.2.2.2.2 gX6_writeRows_X3_present rfl rfl rfl (by decide +kernel) ⟨Nat.le_of_ble_eq_true rfl, Nat.le_of_ble_eq_true rfl⟩) hok (Nat.le_of_ble_eq_true rfl) ⟨Nat.le_of_ble_eq_true rfl, Nat.le_of_ble_eq_true rfl⟩) (fun E9 S9 ok9 q9 => JX_out C ok9 q9 (by decide) (by decide)) (fun rv4 S2 hr5 hok3 h1 => ?_)
  have h1 := h1 hr5 hok3
  refine J_aload_n (pc := 7) C dX6_writeRows_7 rfl ?_
  refine J_get (pc := 8) C dX6_writeRows_8 0 rfl rfl nX6_writeRows_X6 1 (by decide) mX6_writeRows_f19 rfl (v := .ref (G.2.2 2)) rfl ?_
  refine J_iload_n (pc := 11) C dX6_writeRows_11 rfl ?_
  refine J_c1 (pc := 12) C (J_rV (pc := 12) C (h1 ra0) dX6_writeRows_12 rfl rfl 2 rfl rfl (cwV 1 C.1.2.2.2.2 gX6_writeRows_X3_has rfl rfl rfl (by decide +kernel) ⟨Nat.le_of_ble_eq_true rfl, Nat.le_of_ble_eq_true rfl⟩) hok3 (Nat.le_of_ble_eq_true rfl) ⟨Nat.le_of_ble_eq_true rfl, Nat.le_of_ble_eq_true rfl⟩) (fun E9 S9 ok9 q9 => JX_out C ok9 q9 (by decide) (by decide)) (fun rv9 S7 hr10 hok8 h6 => ?_)
  have h6 := h6 hr10 hok8
  obtain ⟨h11, h12⟩ := h6
  refine J_if_eq (pc := 15) (tgt := 22) C dX6_writeRows_15 (by decide) hr10 (fun cb => ?_) (fun cb => ?_)
  · have h11 := h11 cb
    refine J_iconst (pc := 22) C dX6_writeRows_22 ?_
    refine J_isub (pc := 23) C dX6_writeRows_23 ?_
    refine J_istore_n (pc := 24) C dX6_writeRows_24 (by decide) ?_
    refine J_aload_n (pc := 25) C dX6_writeRows_25 rfl ?_
    refine J_get (pc := 26) C dX6_writeRows_26 0 rfl rfl nX6_writeRows_X6 4 (by decide) mX6_writeRows_f40 rfl (v := .ref (G.2.2 5)) rfl ?_
    refine J_iload_n (pc := 29) C dX6_writeRows_29 rfl ?_
    refine J_aload_n (pc := 30) C dX6_writeRows_30 rfl ?_
    refine J_get (pc := 31) C dX6_writeRows_31 0 rfl rfl nX6_writeRows_X6 3 (by decide) mX6_writeRows_f33 rfl (v := .ref (G.2.2 4)) rfl ?_
    refine J_get (pc := 34) C dX6_writeRows_34 4 rfl rfl nX6_writeRows_X2 3 (by decide) mX6_writeRows_f124 rfl (v := iV (S7 4 3)) rfl ?_
    obtain ⟨o13, h14⟩ := h11
    refine J_c0 (pc := 37) C (J_rV (pc := 37) C (h14 o13 (hok8 4 3)) dX6_writeRows_37 rfl rfl 5 rfl rfl (cwV 2 C.1.2.2.2.2 gX6_writeRows_X0_begin rfl rfl rfl (by decide +kernel) ⟨Nat.le_of_ble_eq_true rfl, Nat.le_of_ble_eq_true rfl⟩) hok8 (Nat.le_of_ble_eq_true rfl) ⟨Nat.le_of_ble_eq_true rfl, Nat.le_of_ble_eq_true rfl⟩) (fun E9 S9 ok9 q9 => JX_out C ok9 q9 (by decide) (by decide)) (fun S16 hok17 h15 => ?_)
    have h15 := h15 hok17
    refine J_iconst (pc := 40) C dX6_writeRows_40 ?_
    refine J_istore_n (pc := 41) C dX6_writeRows_41 (by decide) ?_
    refine J_iconst (pc := 42) C dX6_writeRows_42 ?_
    refine J_istore (pc := 43) C dX6_writeRows_43 (by decide) ?_
    exact J_sub (L1 := [some (.ref (G.2.2 0)), some (iV a0), none, some (iV 0), some (iV 0)]) ⟨rfl, ⟨rfl, ⟨rfl, ⟨rfl, trivial⟩⟩⟩⟩ (h15 ra0 (by decide) (by decide) p l e s m args below meth c G A C hok17)
  · have h12 := h12 cb
    refine J_iconst (pc := 18) C dX6_writeRows_18 ?_
    refine J_goto (pc := 19) (tgt := 23) C dX6_writeRows_19 (by decide) ?_
    refine J_isub (pc := 23) C dX6_writeRows_23 ?_
    refine J_istore_n (pc := 24) C dX6_writeRows_24 (by decide) ?_
    refine J_aload_n (pc := 25) C dX6_writeRows_25 rfl ?_
    refine J_get (pc := 26) C dX6_writeRows_26 0 rfl rfl nX6_writeRows_X6 4 (by decide) mX6_writeRows_f40 rfl (v := .ref (G.2.2 5)) rfl ?_
    refine J_iload_n (pc := 29) C dX6_writeRows_29 rfl ?_
    refine J_aload_n (pc := 30) C dX6_writeRows_30 rfl ?_
    refine J_get (pc := 31) C dX6_writeRows_31 0 rfl rfl nX6_writeRows_X6 3 (by decide) mX6_writeRows_f33 rfl (v := .ref (G.2.2 4)) rfl ?_
    refine J_get (pc := 34) C dX6_writeRows_34 4 rfl rfl nX6_writeRows_X2 3 (by decide) mX6_writeRows_f124 rfl (v := iV (S7 4 3)) rfl ?_
    obtain ⟨o20, h21⟩ := h12
    refine J_c0 (pc := 37) C (J_rV (pc := 37) C (h21 o20 (hok8 4 3)) dX6_writeRows_37 rfl rfl 5 rfl rfl (cwV 2 C.1.2.2.2.2 gX6_writeRows_X0_begin rfl rfl rfl (by decide +kernel) ⟨Nat.le_of_ble_eq_true rfl, Nat.le_of_ble_eq_true rfl⟩) hok8 (Nat.le_of_ble_eq_true rfl) ⟨Nat.le_of_ble_eq_true rfl, Nat.le_of_ble_eq_true rfl⟩) (fun E9 S9 ok9 q9 => JX_out C ok9 q9 (by decide) (by decide)) (fun S23 hok24 h22 => ?_)
    have h22 := h22 hok24
    refine J_iconst (pc := 40) C dX6_writeRows_40 ?_
    refine J_istore_n (pc := 41) C dX6_writeRows_41 (by decide) ?_
    refine J_iconst (pc := 42) C dX6_writeRows_42 ?_
    refine J_istore (pc := 43) C dX6_writeRows_43 (by decide) ?_
    exact J_sub (L1 := [some (.ref (G.2.2 0)), some (iV a0), none, some (iV 0), some (iV 0)]) ⟨rfl, ⟨rfl, ⟨rfl, ⟨rfl, trivial⟩⟩⟩⟩ (h22 ra0 (by decide) (by decide) p l e s m args below meth c G A C hok24)
set_option maxRecDepth 100000 in
set_option maxHeartbeats 4000000 in
theorem vc_X6_writeRows_45 {x1 x3 x4 : Int} {S : St} {Qr : Int → St → Prop} {Qx : String → St → Prop} (h : r32 x1 → r32 x3 → r32 x4 → okC S → (((S 2 5) ≤ x4 → Qr 0 S) ∧ (x4 < (S 2 5) → M_X3_has x4 S (fun rv6 S4 => r32 rv6 → okC S4 → ((rv6 = 0 → (r32 (x4 + 1) ∧ R_X6_writeRows_45 x1 x3 (x4 + 1) S4 Qr Qx)) ∧ (rv6 ≠ 0 → ((x4 = x1 → (r32 (x4 + 1) ∧ R_X6_writeRows_45 x1 x3 (x4 + 1) S4 Qr Qx)) ∧ (x4 ≠ x1 → (ix x4 40 ∧ M_X6_writeRow x3 (S4 11 x4) (S4 12 x4) S4 (fun _ S19 => okC S19 → (r32 (x3 + 1) ∧ (r32 (x4 + 1) ∧ R_X6_writeRows_45 x1 (x3 + 1) (x4 + 1) S19 Qr Qx))) Qx)))))) Qx))) : R_X6_writeRows_45 x1 x3 x4 S Qr Qx := by
  intro rx1 rx3 rx4
  intro p l e s m args below meth c G A C hok
  have h := h rx1 rx3 rx4 hok
  replace C : Cx wC cX6_writeRows 5 RX6 wsX6_writeRows none [] p l s m args meth c G A := C
  show J wC 5 rmX6_writeRows p l e s m args below meth c G A (QQ 0 wC okC G Qr Qx A below args s rmX6_writeRows.cells rmX6_writeRows.slots) 0 0 S [some (.ref (G.2.2 0)), some (iV x1), none, some (iV x3), some (iV x4)] [] 45
  refine J_iload (pc := 45) C dX6_writeRows_45 rfl ?_
  refine J_aload_n (pc := 47) C dX6_writeRows_47 rfl ?_
  refine J_get (pc := 48) C dX6_writeRows_48 0 rfl rfl nX6_writeRows_X6 1 (by decide) mX6_writeRows_f19 rfl (v := .ref (G.2.2 2)) rfl ?_
  refine J_get (pc := 51) C dX6_writeRows_51 2 rfl rfl nX6_writeRows_X3 5 (by decide) mX6_writeRows_f235 rfl (v := iV (S 2 5)) rfl ?_
  obtain ⟨h1, h2⟩ := h
  refine J_icmp_ge (pc := 54) (tgt := 109) C dX6_writeRows_54 (by decide) rx4 (hok 2 5) (fun cb => ?_) (fun cb => ?_)
  · have h1 := h1 cb
    exact J_vret (pc := 109) C dX6_writeRows_109 hok h1 (by decide) (by decide)
  · have h2 := h2 cb
    refine J_aload_n (pc := 57) C dX6_writeRows_57 rfl ?_
    refine J_get (pc := 58) C dX6_writeRows_58 0 rfl rfl nX6_writeRows_X6 1 (by decide) mX6_writeRows_f19 rfl (v := .ref (G.2.2 2)) rfl ?_
    refine J_iload (pc := 61) C dX6_writeRows_61 rfl ?_
    refine J_c1 (pc := 63) C (J_rV (pc := 63) C (h2 rx4) dX6_writeRows_63 rfl rfl 2 rfl rfl (cwV 1 C.1.2.2.2.2 gX6_writeRows_X3_has rfl rfl rfl (by decide +kernel) ⟨Nat.le_of_ble_eq_true rfl, Nat.le_of_ble_eq_true rfl⟩) hok (Nat.le_of_ble_eq_true rfl) ⟨Nat.le_of_ble_eq_true rfl, Nat.le_of_ble_eq_true rfl⟩) (fun E9 S9 ok9 q9 => JX_out C ok9 q9 (by decide) (by decide)) (fun rv6 S4 hr7 hok5 h3 => ?_)
    have h3 := h3 hr7 hok5
    obtain ⟨h8, h9⟩ := h3
    refine J_if_eq (pc := 66) (tgt := 103) C dX6_writeRows_66 (by decide) hr7 (fun cb => ?_) (fun cb => ?_)
    · have h8 := h8 cb
      refine J_iinc (pc := 103) C dX6_writeRows_103 rfl (by decide) ?_
      refine J_goto (pc := 106) (tgt := 45) C dX6_writeRows_106 (by decide) ?_
      obtain ⟨o10, h11⟩ := h8
      exact J_sub (L1 := [some (.ref (G.2.2 0)), some (iV x1), none, some (iV x3), some (iV (x4 + 1))]) ⟨rfl, ⟨rfl, ⟨rfl, ⟨rfl, trivial⟩⟩⟩⟩ (h11 rx1 rx3 o10 p l e s m args below meth c G A C hok5)
    · have h9 := h9 cb
      refine J_iload (pc := 69) C dX6_writeRows_69 rfl ?_
      refine J_iload_n (pc := 71) C dX6_writeRows_71 rfl ?_
      obtain ⟨h12, h13⟩ := h9
      refine J_icmp_eq (pc := 72) (tgt := 103) C dX6_writeRows_72 (by decide) rx4 rx1 (fun cb => ?_) (fun cb => ?_)
      · have h12 := h12 cb
        refine J_iinc (pc := 103) C dX6_writeRows_103 rfl (by decide) ?_
        refine J_goto (pc := 106) (tgt := 45) C dX6_writeRows_106 (by decide) ?_
        obtain ⟨o14, h15⟩ := h12
        exact J_sub (L1 := [some (.ref (G.2.2 0)), some (iV x1), none, some (iV x3), some (iV (x4 + 1))]) ⟨rfl, ⟨rfl, ⟨rfl, ⟨rfl, trivial⟩⟩⟩⟩ (h15 rx1 rx3 o14 p l e s m args below meth c G A C hok5)
      · have h13 := h13 cb
        refine J_aload_n (pc := 75) C dX6_writeRows_75 rfl ?_
        refine J_iload_n (pc := 76) C dX6_writeRows_76 rfl ?_
        refine J_aload_n (pc := 77) C dX6_writeRows_77 rfl ?_
        refine J_get (pc := 78) C dX6_writeRows_78 0 rfl rfl nX6_writeRows_X6 1 (by decide) mX6_writeRows_f19 rfl (v := .ref (G.2.2 2)) rfl ?_
        refine J_get (pc := 81) C dX6_writeRows_81 2 rfl rfl nX6_writeRows_X3 0 (by decide) mX6_writeRows_f168 rfl (v := .ref (G.2.2 11)) rfl ?_
        refine J_iload (pc := 84) C dX6_writeRows_84 rfl ?_
        obtain ⟨o16, h17⟩ := h13
        refine J_iald (pc := 86) C dX6_writeRows_86 11 11 rfl (by decide) o16 ?_
        refine J_aload_n (pc := 87) C dX6_writeRows_87 rfl ?_
        refine J_get (pc := 88) C dX6_writeRows_88 0 rfl rfl nX6_writeRows_X6 1 (by decide) mX6_writeRows_f19 rfl (v := .ref (G.2.2 2)) rfl ?_
        refine J_get (pc := 91) C dX6_writeRows_91 2 rfl rfl nX6_writeRows_X3 1 (by decide) mX6_writeRows_f171 rfl (v := .ref (G.2.2 12)) rfl ?_
        refine J_iload (pc := 94) C dX6_writeRows_94 rfl ?_
        refine J_iald (pc := 96) C dX6_writeRows_96 12 12 rfl (by decide) o16 ?_
        refine J_c0 (pc := 97) C (J_rV (pc := 97) C (h17 rx3 (hok5 11 x4) (hok5 12 x4)) dX6_writeRows_97 rfl rfl 0 rfl rfl (cwV 3 C.1.2.2.2.2 gX6_writeRows_X6_writeRow rfl rfl rfl (by decide +kernel) ⟨Nat.le_of_ble_eq_true rfl, Nat.le_of_ble_eq_true rfl⟩) hok5 (Nat.le_of_ble_eq_true rfl) ⟨Nat.le_of_ble_eq_true rfl, Nat.le_of_ble_eq_true rfl⟩) (fun E9 S9 ok9 q9 => JX_out C ok9 q9 (by decide) (by decide)) (fun S19 hok20 h18 => ?_)
        have h18 := h18 hok20
        refine J_iinc (pc := 100) C dX6_writeRows_100 rfl (by decide) ?_
        refine J_iinc (pc := 103) C dX6_writeRows_103 rfl (by decide) ?_
        refine J_goto (pc := 106) (tgt := 45) C dX6_writeRows_106 (by decide) ?_
        obtain ⟨o23, h24⟩ := h18
        obtain ⟨o25, h26⟩ := h24
        exact J_sub (L1 := [some (.ref (G.2.2 0)), some (iV x1), none, some (iV (x3 + 1)), some (iV (x4 + 1))]) ⟨rfl, ⟨rfl, ⟨rfl, ⟨rfl, trivial⟩⟩⟩⟩ (h26 rx1 o23 o25 p l e s m args below meth c G A C hok20)
def rmX6_balance : Room := { frames := 7, cells := 2, slots := 12, locals := 121 }
theorem mX6_balance_f33 : Cond.fieldLink RX6 33 "Stresswork" "layout" "LStresswork$Layout;" ∈ wsX6_balance := by decide +kernel
theorem nX6_balance_X6 : ∀ x ∈ wsX60, x ∈ wsX6_balance := by decide +kernel
theorem mX6_balance_f10 : Cond.fieldLink RX6 10 "Stresswork" "joints" "LStresswork$Joints;" ∈ wsX6_balance := by decide +kernel
theorem mX6_balance_f40 : Cond.fieldLink RX6 40 "Stresswork" "grid" "LStresswork$Grid;" ∈ wsX6_balance := by decide +kernel
theorem mX6_balance_f19 : Cond.fieldLink RX6 19 "Stresswork" "members" "LStresswork$Members;" ∈ wsX6_balance := by decide +kernel
def M_X6_balance (a0 a1 : Int) (S : St) (Qr : Int → St → Prop) (Qx : String → St → Prop) : Prop := r32 a0 → r32 a1 → MM 1 wC okC yX6_balance wsX6_balance rmX6_balance (fun G => [.ref (G.2.2 0), iV a0, iV a1]) S Qr Qx
set_option maxRecDepth 100000 in
set_option maxHeartbeats 4000000 in
theorem vc_X6_balance {a0 a1 : Int} {S : St} {Qr : Int → St → Prop} {Qx : String → St → Prop} (h : r32 a0 → r32 a1 → okC S → M_X6_requireMember a1 S (fun _ S2 => okC S2 → M_X6_requireCount a0 S2 (fun _ S7 => okC S7 → M_X2_takeJoints S7 (fun _ S12 => okC S12 → M_X6_writeRows (-1) S12 (fun _ S17 => okC S17 → M_X0_turn S17 (fun _ S22 => okC S22 → M_X0_reduce S22 (fun rv29 S27 => r32 rv29 → okC S27 → M_X0_freeColumn a0 S27 (fun rv34 S32 => r32 rv34 → okC S32 → ((rv34 ≠ (-1) → M_X3_presentAhead a1 S32 (fun rv41 S39 => r32 rv41 → okC S39 → M_X0_solution rv34 rv41 S39 (fun rv46 S44 => r32 rv46 → okC S44 → Qr rv46 S44) Qx) Qx) ∧ (rv34 = (-1) → Qr (-1) S32))) Qx) Qx) Qx) Qx) Qx) Qx) Qx) : M_X6_balance a0 a1 S Qr Qx := by
  intro ra0 ra1
  refine MM_of adC (by decide +kernel) rfl (Lf := fun G => [some (.ref (G.2.2 0)), some (iV a0), some (iV a1), none]) (fun G => by show _ ≤ _; exact Nat.le_of_ble_eq_true rfl) (fun G => rfl) ?_
  intro p l e s m args below meth c G A C hok
  have h := h ra0 ra1 hok
  replace C : Cx wC cX6_balance 4 RX6 wsX6_balance (some .int) [] p l s m args meth c G A := C
  show J wC 4 rmX6_balance p l e s m args below meth c G A (QQ 1 wC okC G Qr Qx A below args s rmX6_balance.cells rmX6_balance.slots) 0 0 S [some (.ref (G.2.2 0)), some (iV a0), some (iV a1), none] [] 0
  refine J_aload_n (pc := 0) C dX6_balance_0 rfl ?_
  refine J_iload_n (pc := 1) C dX6_balance_1 rfl ?_
  refine J_c0 (pc := 2) C (J_rV (pc := 2) C (h ra1) dX6_balance_2 rfl rfl 0 rfl rfl (cwV 1 C.1.2.2.2.2 gX6_balance_X6_requireMember rfl rfl rfl (by decide +kernel) ⟨Nat.le_of_ble_eq_true rfl, Nat.le_of_ble_eq_true rfl⟩) hok (Nat.le_of_ble_eq_true rfl) ⟨Nat.le_of_ble_eq_true rfl, Nat.le_of_ble_eq_true rfl⟩) (fun E9 S9 ok9 q9 => JX_out C ok9 q9 (by decide) (by decide)) (fun S2 hok3 h1 => ?_)
  have h1 := h1 hok3
  refine J_iload_n (pc := 5) C dX6_balance_5 rfl ?_
  refine J_c0 (pc := 6) C (J_rS (pc := 6) C (h1 ra0) dX6_balance_6 rfl rfl (va_cwS 1 C.1.2.2.2.2 gX6_balance_X6_requireCount rfl rfl rfl (by decide +kernel) ⟨Nat.le_of_ble_eq_true rfl, Nat.le_of_ble_eq_true rfl⟩) hok3 (Nat.le_of_ble_eq_true rfl) ⟨Nat.le_of_ble_eq_true rfl, Nat.le_of_ble_eq_true rfl⟩) (fun E9 S9 ok9 q9 => JX_out C ok9 q9 (by decide) (by decide)) (fun S7 hok8 h6 => ?_)
  have h6 := h6 hok8
  refine J_aload_n (pc := 9) C dX6_balance_9 rfl ?_
  refine J_get (pc := 10) C dX6_balance_10 0 rfl rfl nX6_balance_X6 3 (by decide) mX6_balance_f33 rfl (v := .ref (G.2.2 4)) rfl ?_
  refine J_aload_n (pc := 13) C dX6_balance_13 rfl ?_
  refine J_get (pc := 14) C dX6_balance_14 0 rfl rfl nX6_balance_X6 0 (by decide) mX6_balance_f10 rfl (v := .ref (G.2.2 1)) rfl ?_
  refine J_c0 (pc := 17) C (J_rV (pc := 17) C h6 dX6_balance_17 rfl rfl 4 rfl rfl (cwV 1 C.1.2.2.2.2 gX6_balance_X2_takeJoints rfl rfl rfl (by decide +kernel) ⟨Nat.le_of_ble_eq_true rfl, Nat.le_of_ble_eq_true rfl⟩) hok8 (Nat.le_of_ble_eq_true rfl) ⟨Nat.le_of_ble_eq_true rfl, Nat.le_of_ble_eq_true rfl⟩) (fun E9 S9 ok9 q9 => JX_out C ok9 q9 (by decide) (by decide)) (fun S12 hok13 h11 => ?_)
  have h11 := h11 hok13
  refine J_aload_n (pc := 20) C dX6_balance_20 rfl ?_
  refine J_iconst (pc := 21) C dX6_balance_21 ?_
  refine J_c0 (pc := 22) C (J_rV (pc := 22) C (h11 (by decide)) dX6_balance_22 rfl rfl 0 rfl rfl (cwV 1 C.1.2.2.2.2 gX6_balance_X6_writeRows rfl rfl rfl (by decide +kernel) ⟨Nat.le_of_ble_eq_true rfl, Nat.le_of_ble_eq_true rfl⟩) hok13 (Nat.le_of_ble_eq_true rfl) ⟨Nat.le_of_ble_eq_true rfl, Nat.le_of_ble_eq_true rfl⟩) (fun E9 S9 ok9 q9 => JX_out C ok9 q9 (by decide) (by decide)) (fun S17 hok18 h16 => ?_)
  have h16 := h16 hok18
  refine J_aload_n (pc := 25) C dX6_balance_25 rfl ?_
  refine J_get (pc := 26) C dX6_balance_26 0 rfl rfl nX6_balance_X6 4 (by decide) mX6_balance_f40 rfl (v := .ref (G.2.2 5)) rfl ?_
  refine J_c0 (pc := 29) C (J_rV (pc := 29) C h16 dX6_balance_29 rfl rfl 5 rfl rfl (cwV 0 C.1.2.2.2.2 gX6_balance_X0_turn rfl rfl rfl (by decide +kernel) ⟨Nat.le_of_ble_eq_true rfl, Nat.le_of_ble_eq_true rfl⟩) hok18 (Nat.le_of_ble_eq_true rfl) ⟨Nat.le_of_ble_eq_true rfl, Nat.le_of_ble_eq_true rfl⟩) (fun E9 S9 ok9 q9 => JX_out C ok9 q9 (by decide) (by decide)) (fun S22 hok23 h21 => ?_)
  have h21 := h21 hok23
  refine J_aload_n (pc := 32) C dX6_balance_32 rfl ?_
  refine J_get (pc := 33) C dX6_balance_33 0 rfl rfl nX6_balance_X6 4 (by decide) mX6_balance_f40 rfl (v := .ref (G.2.2 5)) rfl ?_
  refine J_c1 (pc := 36) C (J_rV (pc := 36) C h21 dX6_balance_36 rfl rfl 5 rfl rfl (cwV 0 C.1.2.2.2.2 gX6_balance_X0_reduce rfl rfl rfl (by decide +kernel) ⟨Nat.le_of_ble_eq_true rfl, Nat.le_of_ble_eq_true rfl⟩) hok23 (Nat.le_of_ble_eq_true rfl) ⟨Nat.le_of_ble_eq_true rfl, Nat.le_of_ble_eq_true rfl⟩) (fun E9 S9 ok9 q9 => JX_out C ok9 q9 (by decide) (by decide)) (fun rv29 S27 hr30 hok28 h26 => ?_)
  have h26 := h26 hr30 hok28
  refine J_pop (pc := 39) C dX6_balance_39 rfl ?_
  refine J_aload_n (pc := 40) C dX6_balance_40 rfl ?_
  refine J_get (pc := 41) C dX6_balance_41 0 rfl rfl nX6_balance_X6 4 (by decide) mX6_balance_f40 rfl (v := .ref (G.2.2 5)) rfl ?_
  refine J_iload_n (pc := 44) C dX6_balance_44 rfl ?_
  refine J_c1 (pc := 45) C (J_rV (pc := 45) C (h26 ra0) dX6_balance_45 rfl rfl 5 rfl rfl (cwV 1 C.1.2.2.2.2 gX6_balance_X0_freeColumn rfl rfl rfl (by decide +kernel) ⟨Nat.le_of_ble_eq_true rfl, Nat.le_of_ble_eq_true rfl⟩) hok28 (Nat.le_of_ble_eq_true rfl) ⟨Nat.le_of_ble_eq_true rfl, Nat.le_of_ble_eq_true rfl⟩) (fun E9 S9 ok9 q9 => JX_out C ok9 q9 (by decide) (by decide)) (fun rv34 S32 hr35 hok33 h31 => ?_)
  have h31 := h31 hr35 hok33
  refine J_istore_n (pc := 48) C dX6_balance_48 (by decide) ?_
  refine J_iload_n (pc := 49) C dX6_balance_49 rfl ?_
  refine J_iconst (pc := 50) C dX6_balance_50 ?_
  obtain ⟨h36, h37⟩ := h31
  refine J_icmp_ne (pc := 51) (tgt := 56) C dX6_balance_51 (by decide) hr35 (by decide) (fun cb => ?_) (fun cb => ?_)
  · have h36 := h36 cb
    refine J_aload_n (pc := 56) C dX6_balance_56 rfl ?_
    refine J_get (pc := 57) C dX6_balance_57 0 rfl rfl nX6_balance_X6 4 (by decide) mX6_balance_f40 rfl (v := .ref (G.2.2 5)) rfl ?_
    refine J_iload_n (pc := 60) C dX6_balance_60 rfl ?_
    refine J_aload_n (pc := 61) C dX6_balance_61 rfl ?_
    refine J_get (pc := 62) C dX6_balance_62 0 rfl rfl nX6_balance_X6 1 (by decide) mX6_balance_f19 rfl (v := .ref (G.2.2 2)) rfl ?_
    refine J_iload_n (pc := 65) C dX6_balance_65 rfl ?_
    refine J_c1 (pc := 66) C (J_rV (pc := 66) C (h36 ra1) dX6_balance_66 rfl rfl 2 rfl rfl (cwV 1 C.1.2.2.2.2 gX6_balance_X3_presentAhead rfl rfl rfl (by decide +kernel) ⟨Nat.le_of_ble_eq_true rfl, Nat.le_of_ble_eq_true rfl⟩) hok33 (Nat.le_of_ble_eq_true rfl) ⟨Nat.le_of_ble_eq_true rfl, Nat.le_of_ble_eq_true rfl⟩) (fun E9 S9 ok9 q9 => JX_out C ok9 q9 (by decide) (by decide)) (fun rv41 S39 hr42 hok40 h38 => ?_)
    have h38 := h38 hr42 hok40
    refine J_c1 (pc := 69) C (J_rV (pc := 69) C (h38 hr35 hr42) dX6_balance_69 rfl rfl 5 rfl rfl (cwV 2 C.1.2.2.2.2 gX6_balance_X0_solution rfl rfl rfl (by decide +kernel) ⟨Nat.le_of_ble_eq_true rfl, Nat.le_of_ble_eq_true rfl⟩) hok40 (Nat.le_of_ble_eq_true rfl) ⟨Nat.le_of_ble_eq_true rfl, Nat.le_of_ble_eq_true rfl⟩) (fun E9 S9 ok9 q9 => JX_out C ok9 q9 (by decide) (by decide)) (fun rv46 S44 hr47 hok45 h43 => ?_)
    have h43 := h43 hr47 hok45
    exact J_iret (pc := 72) C dX6_balance_72 hr47 hok45 h43 (by decide) (by decide)
  · have h37 := h37 cb
    refine J_iconst (pc := 54) C dX6_balance_54 ?_
    exact J_iret (pc := 55) C dX6_balance_55 (by decide) hok33 h37 (by decide) (by decide)
def rmX6_bringBack : Room := { frames := 2, cells := 0, slots := 0, locals := 45 }
theorem mX6_bringBack_f19 : Cond.fieldLink RX6 19 "Stresswork" "members" "LStresswork$Members;" ∈ wsX6_bringBack := by decide +kernel
theorem nX6_bringBack_X6 : ∀ x ∈ wsX60, x ∈ wsX6_bringBack := by decide +kernel
theorem mX6_bringBack_f168 : Cond.fieldLink RX6 168 "Stresswork$Members" "from" "[I" ∈ wsX6_bringBack := by decide +kernel
theorem nX6_bringBack_X3 : ∀ x ∈ wsX30, x ∈ wsX6_bringBack := by decide +kernel
theorem mX6_bringBack_f171 : Cond.fieldLink RX6 171 "Stresswork$Members" "to" "[I" ∈ wsX6_bringBack := by decide +kernel
theorem mX6_bringBack_f109 : Cond.fieldLink RX6 109 "Stresswork$Members" "gone" "[Z" ∈ wsX6_bringBack := by decide +kernel
def M_X6_bringBack (a0 : Int) (S : St) (Qr : Int → St → Prop) (Qx : String → St → Prop) : Prop := r32 a0 → MM 0 wC okC yX6_bringBack wsX6_bringBack rmX6_bringBack (fun G => [.ref (G.2.2 0), iV a0]) S Qr Qx
set_option maxRecDepth 100000 in
set_option maxHeartbeats 4000000 in
theorem vc_X6_bringBack {a0 : Int} {S : St} {Qr : Int → St → Prop} {Qx : String → St → Prop} (h : r32 a0 → okC S → ((a0 = (-1) → Qr 0 S) ∧ (a0 ≠ (-1) → (ix a0 40 ∧ M_X3_join (S 11 a0) (S 12 a0) S (fun rv8 S6 => r32 rv8 → okC S6 → ((rv8 ≠ 0 → Qr 0 S6) ∧ (rv8 = 0 → Qr 0 (up S6 15 a0 0)))) Qx)))) : M_X6_bringBack a0 S Qr Qx := by
  intro ra0
  refine MM_of adC (by decide +kernel) rfl (Lf := fun G => [some (.ref (G.2.2 0)), some (iV a0)]) (fun G => by show _ ≤ _; exact Nat.le_of_ble_eq_true rfl) (fun G => rfl) ?_
  intro p l e s m args below meth c G A C hok
  have h := h ra0 hok
  replace C : Cx wC cX6_bringBack 2 RX6 wsX6_bringBack none [] p l s m args meth c G A := C
  show J wC 2 rmX6_bringBack p l e s m args below meth c G A (QQ 0 wC okC G Qr Qx A below args s rmX6_bringBack.cells rmX6_bringBack.slots) 0 0 S [some (.ref (G.2.2 0)), some (iV a0)] [] 0
  refine J_iload_n (pc := 0) C dX6_bringBack_0 rfl ?_
  refine J_iconst (pc := 1) C dX6_bringBack_1 ?_
  obtain ⟨h1, h2⟩ := h
  refine J_icmp_eq (pc := 2) (tgt := 43) C dX6_bringBack_2 (by decide) ra0 (by decide) (fun cb => ?_) (fun cb => ?_)
  · have h1 := h1 cb
    exact J_vret (pc := 43) C dX6_bringBack_43 hok h1 (by decide) (by decide)
  · have h2 := h2 cb
    refine J_aload_n (pc := 5) C dX6_bringBack_5 rfl ?_
    refine J_get (pc := 6) C dX6_bringBack_6 0 rfl rfl nX6_bringBack_X6 1 (by decide) mX6_bringBack_f19 rfl (v := .ref (G.2.2 2)) rfl ?_
    refine J_aload_n (pc := 9) C dX6_bringBack_9 rfl ?_
    refine J_get (pc := 10) C dX6_bringBack_10 0 rfl rfl nX6_bringBack_X6 1 (by decide) mX6_bringBack_f19 rfl (v := .ref (G.2.2 2)) rfl ?_
    refine J_get (pc := 13) C dX6_bringBack_13 2 rfl rfl nX6_bringBack_X3 0 (by decide) mX6_bringBack_f168 rfl (v := .ref (G.2.2 11)) rfl ?_
    refine J_iload_n (pc := 16) C dX6_bringBack_16 rfl ?_
    obtain ⟨o3, h4⟩ := h2
    refine J_iald (pc := 17) C dX6_bringBack_17 11 11 rfl (by decide) o3 ?_
    refine J_aload_n (pc := 18) C dX6_bringBack_18 rfl ?_
    refine J_get (pc := 19) C dX6_bringBack_19 0 rfl rfl nX6_bringBack_X6 1 (by decide) mX6_bringBack_f19 rfl (v := .ref (G.2.2 2)) rfl ?_
    refine J_get (pc := 22) C dX6_bringBack_22 2 rfl rfl nX6_bringBack_X3 1 (by decide) mX6_bringBack_f171 rfl (v := .ref (G.2.2 12)) rfl ?_
    refine J_iload_n (pc := 25) C dX6_bringBack_25 rfl ?_
    refine J_iald (pc := 26) C dX6_bringBack_26 12 12 rfl (by decide) o3 ?_
    refine J_c1 (pc := 27) C (J_rV (pc := 27) C (h4 (hok 11 a0) (hok 12 a0)) dX6_bringBack_27 rfl rfl 2 rfl rfl (cwV 2 C.1.2.2.2.2 gX6_bringBack_X3_join rfl rfl rfl (by decide +kernel) ⟨Nat.le_of_ble_eq_true rfl, Nat.le_of_ble_eq_true rfl⟩) hok (Nat.le_of_ble_eq_true rfl) ⟨Nat.le_of_ble_eq_true rfl, Nat.le_of_ble_eq_true rfl⟩) (fun E9 S9 ok9 q9 => JX_out C ok9 q9 (by decide) (by decide)) (fun rv8 S6 hr9 hok7 h5 => ?_)
    have h5 := h5 hr9 hok7
    obtain ⟨h10, h11⟩ := h5
    refine J_if_ne (pc := 30) (tgt := 43) C dX6_bringBack_30 (by decide) hr9 (fun cb => ?_) (fun cb => ?_)
    · have h10 := h10 cb
      exact J_vret (pc := 43) C dX6_bringBack_43 hok7 h10 (by decide) (by decide)
    · have h11 := h11 cb
      refine J_aload_n (pc := 33) C dX6_bringBack_33 rfl ?_
      refine J_get (pc := 34) C dX6_bringBack_34 0 rfl rfl nX6_bringBack_X6 1 (by decide) mX6_bringBack_f19 rfl (v := .ref (G.2.2 2)) rfl ?_
      refine J_get (pc := 37) C dX6_bringBack_37 2 rfl rfl nX6_bringBack_X3 4 (by decide) mX6_bringBack_f109 rfl (v := .ref (G.2.2 15)) rfl ?_
      refine J_iload_n (pc := 40) C dX6_bringBack_40 rfl ?_
      refine J_iconst (pc := 41) C dX6_bringBack_41 ?_
      refine J_zast (pc := 42) C dX6_bringBack_42 15 15 rfl (by decide) o3 (by decide) (sC_15 G S6 a0 0) ?_
      have hok12 := okC_up (k := 15) (j := a0) hok7 (show rngC 15 0 from (by decide : (0:Int) ≤ 0 ∧ (0:Int) ≤ 1))
      exact J_vret (pc := 43) C dX6_bringBack_43 hok12 h11 (by decide) (by decide)
def rmX6_canBeUndone : Room := { frames := 2, cells := 0, slots := 0, locals := 45 }
theorem mX6_canBeUndone_f26 : Cond.fieldLink RX6 26 "Stresswork" "steps" "LStresswork$Steps;" ∈ wsX6_canBeUndone := by decide +kernel
theorem nX6_canBeUndone_X6 : ∀ x ∈ wsX60, x ∈ wsX6_canBeUndone := by decide +kernel
theorem mX6_canBeUndone_f344 : Cond.fieldLink RX6 344 "Stresswork$Steps" "joint" "[I" ∈ wsX6_canBeUndone := by decide +kernel
theorem nX6_canBeUndone_X5 : ∀ x ∈ wsX50, x ∈ wsX6_canBeUndone := by decide +kernel
theorem mX6_canBeUndone_f10 : Cond.fieldLink RX6 10 "Stresswork" "joints" "LStresswork$Joints;" ∈ wsX6_canBeUndone := by decide +kernel
theorem mX6_canBeUndone_f155 : Cond.fieldLink RX6 155 "Stresswork$Joints" "count" "I" ∈ wsX6_canBeUndone := by decide +kernel
theorem nX6_canBeUndone_X1 : ∀ x ∈ wsX10, x ∈ wsX6_canBeUndone := by decide +kernel
theorem mX6_canBeUndone_f77 : Cond.fieldLink RX6 77 "Stresswork$Joints" "pinned" "[Z" ∈ wsX6_canBeUndone := by decide +kernel
theorem mX6_canBeUndone_f19 : Cond.fieldLink RX6 19 "Stresswork" "members" "LStresswork$Members;" ∈ wsX6_canBeUndone := by decide +kernel
theorem mX6_canBeUndone_f214 : Cond.fieldLink RX6 214 "Stresswork$Steps" "firstBar" "[I" ∈ wsX6_canBeUndone := by decide +kernel
def M_X6_canBeUndone (a0 : Int) (S : St) (Qr : Int → St → Prop) (Qx : String → St → Prop) : Prop := r32 a0 → MM 1 wC okC yX6_canBeUndone wsX6_canBeUndone rmX6_canBeUndone (fun G => [.ref (G.2.2 0), iV a0]) S Qr Qx
def R_X6_canBeUndone_49 (x1 x2 x3 x4 : Int) (S : St) (Qr : Int → St → Prop) (Qx : String → St → Prop) : Prop := r32 x1 → r32 x2 → r32 x3 → r32 x4 → RR 1 wC okC wsX6_canBeUndone rmX6_canBeUndone cX6_canBeUndone 5 RX6 (some .boolean) [] 0 0 (fun G => [some (.ref (G.2.2 0)), some (iV x1), some (iV x2), some (iV x3), some (iV x4)]) (fun G => []) 49 S Qr Qx
set_option maxRecDepth 100000 in
set_option maxHeartbeats 4000000 in
theorem vc_X6_canBeUndone {a0 : Int} {S : St} {Qr : Int → St → Prop} {Qx : String → St → Prop} (h : r32 a0 → okC S → (ix a0 10 ∧ (r32 ((S 1 4) - 1) ∧ (((S 16 a0) ≠ ((S 1 4) - 1) → Qr 0 S) ∧ ((S 16 a0) = ((S 1 4) - 1) → (ix (S 16 a0) 10 ∧ (((S 9 (S 16 a0)) = 0 → M_X5_bars a0 S (fun rv14 S12 => r32 rv14 → okC S12 → R_X6_canBeUndone_49 a0 (S 16 a0) rv14 0 S12 Qr Qx) Qx) ∧ ((S 9 (S 16 a0)) ≠ 0 → Qr 0 S)))))))) : M_X6_canBeUndone a0 S Qr Qx := by
  intro ra0
  refine MM_of adC (by decide +kernel) rfl (Lf := fun G => [some (.ref (G.2.2 0)), some (iV a0), none, none, none]) (fun G => by show _ ≤ _; exact Nat.le_of_ble_eq_true rfl) (fun G => rfl) ?_
  intro p l e s m args below meth c G A C hok
  have h := h ra0 hok
  replace C : Cx wC cX6_canBeUndone 5 RX6 wsX6_canBeUndone (some .boolean) [] p l s m args meth c G A := C
  show J wC 5 rmX6_canBeUndone p l e s m args below meth c G A (QQ 1 wC okC G Qr Qx A below args s rmX6_canBeUndone.cells rmX6_canBeUndone.slots) 0 0 S [some (.ref (G.2.2 0)), some (iV a0), none, none, none] [] 0
  refine J_aload_n (pc := 0) C dX6_canBeUndone_0 rfl ?_
  refine J_get (pc := 1) C dX6_canBeUndone_1 0 rfl rfl nX6_canBeUndone_X6 2 (by decide) mX6_canBeUndone_f26 rfl (v := .ref (G.2.2 3)) rfl ?_
  refine J_get (pc := 4) C dX6_canBeUndone_4 3 rfl rfl nX6_canBeUndone_X5 0 (by decide) mX6_canBeUndone_f344 rfl (v := .ref (G.2.2 16)) rfl ?_
  refine J_iload_n (pc := 7) C dX6_canBeUndone_7 rfl ?_
  obtain ⟨o1, h2⟩ := h
  refine J_iald (pc := 8) C dX6_canBeUndone_8 16 16 rfl (by decide) o1 ?_
  refine J_istore_n (pc := 9) C dX6_canBeUndone_9 (by decide) ?_
  refine J_iload_n (pc := 10) C dX6_canBeUndone_10 rfl ?_
  refine J_aload_n (pc := 11) C dX6_canBeUndone_11 rfl ?_
  refine J_get (pc := 12) C dX6_canBeUndone_12 0 rfl rfl nX6_canBeUndone_X6 0 (by decide) mX6_canBeUndone_f10 rfl (v := .ref (G.2.2 1)) rfl ?_
  refine J_get (pc := 15) C dX6_canBeUndone_15 1 rfl rfl nX6_canBeUndone_X1 4 (by decide) mX6_canBeUndone_f155 rfl (v := iV (S 1 4)) rfl ?_
  refine J_iconst (pc := 18) C dX6_canBeUndone_18 ?_
  refine J_isub (pc := 19) C dX6_canBeUndone_19 ?_
  obtain ⟨o3, h4⟩ := h2
  obtain ⟨h5, h6⟩ := h4
  refine J_icmp_ne (pc := 20) (tgt := 35) C dX6_canBeUndone_20 (by decide) (hok 16 a0) o3 (fun cb => ?_) (fun cb => ?_)
  · have h5 := h5 cb
    refine J_iconst (pc := 35) C dX6_canBeUndone_35 ?_
    exact J_zret (pc := 36) C dX6_canBeUndone_36 (by decide) hok h5 (by decide) (by decide)
  · have h6 := h6 cb
    refine J_aload_n (pc := 23) C dX6_canBeUndone_23 rfl ?_
    refine J_get (pc := 24) C dX6_canBeUndone_24 0 rfl rfl nX6_canBeUndone_X6 0 (by decide) mX6_canBeUndone_f10 rfl (v := .ref (G.2.2 1)) rfl ?_
    refine J_get (pc := 27) C dX6_canBeUndone_27 1 rfl rfl nX6_canBeUndone_X1 2 (by decide) mX6_canBeUndone_f77 rfl (v := .ref (G.2.2 9)) rfl ?_
    refine J_iload_n (pc := 30) C dX6_canBeUndone_30 rfl ?_
    obtain ⟨o7, h8⟩ := h6
    refine J_zald (pc := 31) C dX6_canBeUndone_31 9 9 rfl (by decide) o7 ?_
    obtain ⟨h9, h10⟩ := h8
    refine J_if_eq (pc := 32) (tgt := 37) C dX6_canBeUndone_32 (by decide) (r01 (hok 9 (S 16 a0))) (fun cb => ?_) (fun cb => ?_)
    · have h9 := h9 cb
      refine J_aload_n (pc := 37) C dX6_canBeUndone_37 rfl ?_
      refine J_get (pc := 38) C dX6_canBeUndone_38 0 rfl rfl nX6_canBeUndone_X6 2 (by decide) mX6_canBeUndone_f26 rfl (v := .ref (G.2.2 3)) rfl ?_
      refine J_iload_n (pc := 41) C dX6_canBeUndone_41 rfl ?_
      refine J_c1 (pc := 42) C (J_rV (pc := 42) C (h9 ra0) dX6_canBeUndone_42 rfl rfl 3 rfl rfl (cwV 1 C.1.2.2.2.2 gX6_canBeUndone_X5_bars rfl rfl rfl (by decide +kernel) ⟨Nat.le_of_ble_eq_true rfl, Nat.le_of_ble_eq_true rfl⟩) hok (Nat.le_of_ble_eq_true rfl) ⟨Nat.le_of_ble_eq_true rfl, Nat.le_of_ble_eq_true rfl⟩) (fun E9 S9 ok9 q9 => JX_out C ok9 q9 (by decide) (by decide)) (fun rv14 S12 hr15 hok13 h11 => ?_)
      have h11 := h11 hr15 hok13
      refine J_istore_n (pc := 45) C dX6_canBeUndone_45 (by decide) ?_
      refine J_iconst (pc := 46) C dX6_canBeUndone_46 ?_
      refine J_istore (pc := 47) C dX6_canBeUndone_47 (by decide) ?_
      exact J_sub (L1 := [some (.ref (G.2.2 0)), some (iV a0), some (iV (S 16 a0)), some (iV rv14), some (iV 0)]) ⟨rfl, ⟨rfl, ⟨rfl, ⟨rfl, ⟨rfl, trivial⟩⟩⟩⟩⟩ (h11 ra0 (hok 16 a0) hr15 (by decide) p l e s m args below meth c G A C hok13)
    · have h10 := h10 cb
      refine J_iconst (pc := 35) C dX6_canBeUndone_35 ?_
      exact J_zret (pc := 36) C dX6_canBeUndone_36 (by decide) hok h10 (by decide) (by decide)
set_option maxRecDepth 100000 in
set_option maxHeartbeats 4000000 in
theorem vc_X6_canBeUndone_49 {x1 x2 x3 x4 : Int} {S : St} {Qr : Int → St → Prop} {Qx : String → St → Prop} (h : r32 x1 → r32 x2 → r32 x3 → r32 x4 → okC S → ((x3 ≤ x4 → M_X3_endingAt x2 S (fun rv6 S4 => r32 rv6 → okC S4 → ((rv6 ≠ x3 → Qr 0 S4) ∧ (rv6 = x3 → Qr 1 S4))) Qx) ∧ (x4 < x3 → (ix x1 10 ∧ (r32 ((S 17 x1) + x4) ∧ M_X3_has ((S 17 x1) + x4) S (fun rv17 S15 => r32 rv17 → okC S15 → ((rv17 ≠ 0 → (r32 (x4 + 1) ∧ R_X6_canBeUndone_49 x1 x2 x3 (x4 + 1) S15 Qr Qx)) ∧ (rv17 = 0 → Qr 0 S15))) Qx))))) : R_X6_canBeUndone_49 x1 x2 x3 x4 S Qr Qx := by
  intro rx1 rx2 rx3 rx4
  intro p l e s m args below meth c G A C hok
  have h := h rx1 rx2 rx3 rx4 hok
  replace C : Cx wC cX6_canBeUndone 5 RX6 wsX6_canBeUndone (some .boolean) [] p l s m args meth c G A := C
  show J wC 5 rmX6_canBeUndone p l e s m args below meth c G A (QQ 1 wC okC G Qr Qx A below args s rmX6_canBeUndone.cells rmX6_canBeUndone.slots) 0 0 S [some (.ref (G.2.2 0)), some (iV x1), some (iV x2), some (iV x3), some (iV x4)] [] 49
  refine J_iload (pc := 49) C dX6_canBeUndone_49 rfl ?_
  refine J_iload_n (pc := 51) C dX6_canBeUndone_51 rfl ?_
  obtain ⟨h1, h2⟩ := h
  refine J_icmp_ge (pc := 52) (tgt := 85) C dX6_canBeUndone_52 (by decide) rx4 rx3 (fun cb => ?_) (fun cb => ?_)
  · have h1 := h1 cb
    refine J_aload_n (pc := 85) C dX6_canBeUndone_85 rfl ?_
    refine J_get (pc := 86) C dX6_canBeUndone_86 0 rfl rfl nX6_canBeUndone_X6 1 (by decide) mX6_canBeUndone_f19 rfl (v := .ref (G.2.2 2)) rfl ?_
    refine J_iload_n (pc := 89) C dX6_canBeUndone_89 rfl ?_
    refine J_c1 (pc := 90) C (J_rV (pc := 90) C (h1 rx2) dX6_canBeUndone_90 rfl rfl 2 rfl rfl (cwV 1 C.1.2.2.2.2 gX6_canBeUndone_X3_endingAt rfl rfl rfl (by decide +kernel) ⟨Nat.le_of_ble_eq_true rfl, Nat.le_of_ble_eq_true rfl⟩) hok (Nat.le_of_ble_eq_true rfl) ⟨Nat.le_of_ble_eq_true rfl, Nat.le_of_ble_eq_true rfl⟩) (fun E9 S9 ok9 q9 => JX_out C ok9 q9 (by decide) (by decide)) (fun rv6 S4 hr7 hok5 h3 => ?_)
    have h3 := h3 hr7 hok5
    refine J_iload_n (pc := 93) C dX6_canBeUndone_93 rfl ?_
    obtain ⟨h8, h9⟩ := h3
    refine J_icmp_ne (pc := 94) (tgt := 101) C dX6_canBeUndone_94 (by decide) hr7 rx3 (fun cb => ?_) (fun cb => ?_)
    · have h8 := h8 cb
      refine J_iconst (pc := 101) C dX6_canBeUndone_101 ?_
      exact J_zret (pc := 102) C dX6_canBeUndone_102 (by decide) hok5 h8 (by decide) (by decide)
    · have h9 := h9 cb
      refine J_iconst (pc := 97) C dX6_canBeUndone_97 ?_
      refine J_goto (pc := 98) (tgt := 102) C dX6_canBeUndone_98 (by decide) ?_
      exact J_zret (pc := 102) C dX6_canBeUndone_102 (by decide) hok5 h9 (by decide) (by decide)
  · have h2 := h2 cb
    refine J_aload_n (pc := 55) C dX6_canBeUndone_55 rfl ?_
    refine J_get (pc := 56) C dX6_canBeUndone_56 0 rfl rfl nX6_canBeUndone_X6 1 (by decide) mX6_canBeUndone_f19 rfl (v := .ref (G.2.2 2)) rfl ?_
    refine J_aload_n (pc := 59) C dX6_canBeUndone_59 rfl ?_
    refine J_get (pc := 60) C dX6_canBeUndone_60 0 rfl rfl nX6_canBeUndone_X6 2 (by decide) mX6_canBeUndone_f26 rfl (v := .ref (G.2.2 3)) rfl ?_
    refine J_get (pc := 63) C dX6_canBeUndone_63 3 rfl rfl nX6_canBeUndone_X5 1 (by decide) mX6_canBeUndone_f214 rfl (v := .ref (G.2.2 17)) rfl ?_
    refine J_iload_n (pc := 66) C dX6_canBeUndone_66 rfl ?_
    obtain ⟨o10, h11⟩ := h2
    refine J_iald (pc := 67) C dX6_canBeUndone_67 17 17 rfl (by decide) o10 ?_
    refine J_iload (pc := 68) C dX6_canBeUndone_68 rfl ?_
    refine J_iadd (pc := 70) C dX6_canBeUndone_70 ?_
    obtain ⟨o12, h13⟩ := h11
    refine J_c1 (pc := 71) C (J_rV (pc := 71) C (h13 o12) dX6_canBeUndone_71 rfl rfl 2 rfl rfl (cwV 1 C.1.2.2.2.2 gX6_canBeUndone_X3_has rfl rfl rfl (by decide +kernel) ⟨Nat.le_of_ble_eq_true rfl, Nat.le_of_ble_eq_true rfl⟩) hok (Nat.le_of_ble_eq_true rfl) ⟨Nat.le_of_ble_eq_true rfl, Nat.le_of_ble_eq_true rfl⟩) (fun E9 S9 ok9 q9 => JX_out C ok9 q9 (by decide) (by decide)) (fun rv17 S15 hr18 hok16 h14 => ?_)
    have h14 := h14 hr18 hok16
    obtain ⟨h19, h20⟩ := h14
    refine J_if_ne (pc := 74) (tgt := 79) C dX6_canBeUndone_74 (by decide) hr18 (fun cb => ?_) (fun cb => ?_)
    · have h19 := h19 cb
      refine J_iinc (pc := 79) C dX6_canBeUndone_79 rfl (by decide) ?_
      refine J_goto (pc := 82) (tgt := 49) C dX6_canBeUndone_82 (by decide) ?_
      obtain ⟨o21, h22⟩ := h19
      exact J_sub (L1 := [some (.ref (G.2.2 0)), some (iV x1), some (iV x2), some (iV x3), some (iV (x4 + 1))]) ⟨rfl, ⟨rfl, ⟨rfl, ⟨rfl, ⟨rfl, trivial⟩⟩⟩⟩⟩ (h22 rx1 rx2 rx3 o21 p l e s m args below meth c G A C hok16)
    · have h20 := h20 cb
      refine J_iconst (pc := 77) C dX6_canBeUndone_77 ?_
      exact J_zret (pc := 78) C dX6_canBeUndone_78 (by decide) hok16 h20 (by decide) (by decide)
def rmX6_requireJoint : Room := { frames := 6, cells := 1, slots := 6, locals := 82 }
theorem mX6_requireJoint_f10 : Cond.fieldLink RX6 10 "Stresswork" "joints" "LStresswork$Joints;" ∈ wsX6_requireJoint := by decide +kernel
theorem nX6_requireJoint_X6 : ∀ x ∈ wsX60, x ∈ wsX6_requireJoint := by decide +kernel
theorem mX6_requireJoint_xI : Cond.classLink RX6 288 "java/lang/IndexOutOfBoundsException" ∈ wsX6_requireJoint := by decide +kernel
theorem mX6_requireJoint_yI : Cond.initialized "java/lang/IndexOutOfBoundsException" ∈ wsX6_requireJoint := by decide +kernel
theorem mX6_requireJoint_zI : ∀ x ∈ (vx_atS RX6 292 "java/lang/IndexOutOfBoundsException" exP).filter goodWord, x ∈ wsX6_requireJoint := by decide +kernel
def M_X6_requireJoint (a0 : Int) (S : St) (Qr : Int → St → Prop) (Qx : String → St → Prop) : Prop := r32 a0 → MM 0 wC okC yX6_requireJoint wsX6_requireJoint rmX6_requireJoint (fun G => [.ref (G.2.2 0), iV a0]) S Qr Qx
set_option maxRecDepth 100000 in
set_option maxHeartbeats 4000000 in
theorem vc_X6_requireJoint {a0 : Int} {S : St} {Qr : Int → St → Prop} {Qx : String → St → Prop} (h : r32 a0 → okC S → M_X1_has a0 S (fun rv4 S2 => r32 rv4 → okC S2 → ((rv4 ≠ 0 → Qr 0 S2) ∧ (rv4 = 0 → Qx "java/lang/IndexOutOfBoundsException" S2))) Qx) : M_X6_requireJoint a0 S Qr Qx := by
  intro ra0
  refine MM_of adC (by decide +kernel) rfl (Lf := fun G => [some (.ref (G.2.2 0)), some (iV a0)]) (fun G => by show _ ≤ _; exact Nat.le_of_ble_eq_true rfl) (fun G => rfl) ?_
  intro p l e s m args below meth c G A C hok
  have h := h ra0 hok
  replace C : Cx wC cX6_requireJoint 2 RX6 wsX6_requireJoint none [] p l s m args meth c G A := C
  show J wC 2 rmX6_requireJoint p l e s m args below meth c G A (QQ 0 wC okC G Qr Qx A below args s rmX6_requireJoint.cells rmX6_requireJoint.slots) 0 0 S [some (.ref (G.2.2 0)), some (iV a0)] [] 0
  refine J_aload_n (pc := 0) C dX6_requireJoint_0 rfl ?_
  refine J_get (pc := 1) C dX6_requireJoint_1 0 rfl rfl nX6_requireJoint_X6 0 (by decide) mX6_requireJoint_f10 rfl (v := .ref (G.2.2 1)) rfl ?_
  refine J_iload_n (pc := 4) C dX6_requireJoint_4 rfl ?_
  refine J_c1 (pc := 5) C (J_rV (pc := 5) C (h ra0) dX6_requireJoint_5 rfl rfl 1 rfl rfl (cwV 1 C.1.2.2.2.2 gX6_requireJoint_X1_has rfl rfl rfl (by decide +kernel) ⟨Nat.le_of_ble_eq_true rfl, Nat.le_of_ble_eq_true rfl⟩) hok (Nat.le_of_ble_eq_true rfl) ⟨Nat.le_of_ble_eq_true rfl, Nat.le_of_ble_eq_true rfl⟩) (fun E9 S9 ok9 q9 => JX_out C ok9 q9 (by decide) (by decide)) (fun rv4 S2 hr5 hok3 h1 => ?_)
  have h1 := h1 hr5 hok3
  obtain ⟨h6, h7⟩ := h1
  refine J_if_ne (pc := 8) (tgt := 22) C dX6_requireJoint_8 (by decide) hr5 (fun cb => ?_) (fun cb => ?_)
  · have h6 := h6 cb
    exact J_vret (pc := 22) C dX6_requireJoint_22 hok3 h6 (by decide) (by decide)
  · have h7 := h7 cb
    exact J_throwW (pc := 11) C exW_I mX6_requireJoint_xI mX6_requireJoint_yI (text := "no such joint") (by decide +kernel) mX6_requireJoint_zI dX6_requireJoint_11 dX6_requireJoint_14 dX6_requireJoint_15 dX6_requireJoint_18 dX6_requireJoint_21 (by decide) (by decide) (by decide) (by decide) hok3 h7
def rmX6_flex : Room := { frames := 7, cells := 2, slots := 12, locals := 121 }
theorem mX6_flex_f33 : Cond.fieldLink RX6 33 "Stresswork" "layout" "LStresswork$Layout;" ∈ wsX6_flex := by decide +kernel
theorem nX6_flex_X6 : ∀ x ∈ wsX60, x ∈ wsX6_flex := by decide +kernel
theorem mX6_flex_f10 : Cond.fieldLink RX6 10 "Stresswork" "joints" "LStresswork$Joints;" ∈ wsX6_flex := by decide +kernel
theorem mX6_flex_f40 : Cond.fieldLink RX6 40 "Stresswork" "grid" "LStresswork$Grid;" ∈ wsX6_flex := by decide +kernel
theorem mX6_flex_f140 : Cond.fieldLink RX6 140 "Stresswork$Layout" "column" "[I" ∈ wsX6_flex := by decide +kernel
theorem nX6_flex_X2 : ∀ x ∈ wsX20, x ∈ wsX6_flex := by decide +kernel
def M_X6_flex (a0 a1 a2 : Int) (S : St) (Qr : Int → St → Prop) (Qx : String → St → Prop) : Prop := r32 a0 → r32 a1 → r32 a2 → MM 1 wC okC yX6_flex wsX6_flex rmX6_flex (fun G => [.ref (G.2.2 0), iV a0, iV a1, iV a2]) S Qr Qx
set_option maxRecDepth 100000 in
set_option maxHeartbeats 4000000 in
theorem vc_X6_flex {a0 a1 a2 : Int} {S : St} {Qr : Int → St → Prop} {Qx : String → St → Prop} (h : r32 a0 → r32 a1 → r32 a2 → okC S → M_X6_requireJoint a1 S (fun _ S2 => okC S2 → M_X6_requireCount a0 S2 (fun _ S7 => okC S7 → M_X2_takeJoints S7 (fun _ S12 => okC S12 → M_X6_writeRows (-1) S12 (fun _ S17 => okC S17 → M_X0_reduce S17 (fun rv24 S22 => r32 rv24 → okC S22 → M_X0_freeColumn a0 S22 (fun rv29 S27 => r32 rv29 → okC S27 → ((rv29 ≠ (-1) → (ix a1 10 ∧ (((S27 21 a1) ≠ (-1) → ((a2 = 0 → M_X0_solution rv29 (S27 21 a1) S27 (fun rv42 S40 => r32 rv42 → okC S40 → Qr rv42 S40) Qx) ∧ (a2 ≠ 0 → (r32 ((S27 21 a1) + 1) ∧ M_X0_solution rv29 ((S27 21 a1) + 1) S27 (fun rv49 S47 => r32 rv49 → okC S47 → Qr rv49 S47) Qx)))) ∧ ((S27 21 a1) = (-1) → Qr 0 S27)))) ∧ (rv29 = (-1) → Qr (-1) S27))) Qx) Qx) Qx) Qx) Qx) Qx) : M_X6_flex a0 a1 a2 S Qr Qx := by
  intro ra0 ra1 ra2
  refine MM_of adC (by decide +kernel) rfl (Lf := fun G => [some (.ref (G.2.2 0)), some (iV a0), some (iV a1), some (iV a2), none, none]) (fun G => by show _ ≤ _; exact Nat.le_of_ble_eq_true rfl) (fun G => rfl) ?_
  intro p l e s m args below meth c G A C hok
  have h := h ra0 ra1 ra2 hok
  replace C : Cx wC cX6_flex 6 RX6 wsX6_flex (some .int) [] p l s m args meth c G A := C
  show J wC 6 rmX6_flex p l e s m args below meth c G A (QQ 1 wC okC G Qr Qx A below args s rmX6_flex.cells rmX6_flex.slots) 0 0 S [some (.ref (G.2.2 0)), some (iV a0), some (iV a1), some (iV a2), none, none] [] 0
  refine J_aload_n (pc := 0) C dX6_flex_0 rfl ?_
  refine J_iload_n (pc := 1) C dX6_flex_1 rfl ?_
  refine J_c0 (pc := 2) C (J_rV (pc := 2) C (h ra1) dX6_flex_2 rfl rfl 0 rfl rfl (cwV 1 C.1.2.2.2.2 gX6_flex_X6_requireJoint rfl rfl rfl (by decide +kernel) ⟨Nat.le_of_ble_eq_true rfl, Nat.le_of_ble_eq_true rfl⟩) hok (Nat.le_of_ble_eq_true rfl) ⟨Nat.le_of_ble_eq_true rfl, Nat.le_of_ble_eq_true rfl⟩) (fun E9 S9 ok9 q9 => JX_out C ok9 q9 (by decide) (by decide)) (fun S2 hok3 h1 => ?_)
  have h1 := h1 hok3
  refine J_iload_n (pc := 5) C dX6_flex_5 rfl ?_
  refine J_c0 (pc := 6) C (J_rS (pc := 6) C (h1 ra0) dX6_flex_6 rfl rfl (va_cwS 1 C.1.2.2.2.2 gX6_flex_X6_requireCount rfl rfl rfl (by decide +kernel) ⟨Nat.le_of_ble_eq_true rfl, Nat.le_of_ble_eq_true rfl⟩) hok3 (Nat.le_of_ble_eq_true rfl) ⟨Nat.le_of_ble_eq_true rfl, Nat.le_of_ble_eq_true rfl⟩) (fun E9 S9 ok9 q9 => JX_out C ok9 q9 (by decide) (by decide)) (fun S7 hok8 h6 => ?_)
  have h6 := h6 hok8
  refine J_aload_n (pc := 9) C dX6_flex_9 rfl ?_
  refine J_get (pc := 10) C dX6_flex_10 0 rfl rfl nX6_flex_X6 3 (by decide) mX6_flex_f33 rfl (v := .ref (G.2.2 4)) rfl ?_
  refine J_aload_n (pc := 13) C dX6_flex_13 rfl ?_
  refine J_get (pc := 14) C dX6_flex_14 0 rfl rfl nX6_flex_X6 0 (by decide) mX6_flex_f10 rfl (v := .ref (G.2.2 1)) rfl ?_
  refine J_c0 (pc := 17) C (J_rV (pc := 17) C h6 dX6_flex_17 rfl rfl 4 rfl rfl (cwV 1 C.1.2.2.2.2 gX6_flex_X2_takeJoints rfl rfl rfl (by decide +kernel) ⟨Nat.le_of_ble_eq_true rfl, Nat.le_of_ble_eq_true rfl⟩) hok8 (Nat.le_of_ble_eq_true rfl) ⟨Nat.le_of_ble_eq_true rfl, Nat.le_of_ble_eq_true rfl⟩) (fun E9 S9 ok9 q9 => JX_out C ok9 q9 (by decide) (by decide)) (fun S12 hok13 h11 => ?_)
  have h11 := h11 hok13
  refine J_aload_n (pc := 20) C dX6_flex_20 rfl ?_
  refine J_iconst (pc := 21) C dX6_flex_21 ?_
  refine J_c0 (pc := 22) C (J_rV (pc := 22) C (h11 (by decide)) dX6_flex_22 rfl rfl 0 rfl rfl (cwV 1 C.1.2.2.2.2 gX6_flex_X6_writeRows rfl rfl rfl (by decide +kernel) ⟨Nat.le_of_ble_eq_true rfl, Nat.le_of_ble_eq_true rfl⟩) hok13 (Nat.le_of_ble_eq_true rfl) ⟨Nat.le_of_ble_eq_true rfl, Nat.le_of_ble_eq_true rfl⟩) (fun E9 S9 ok9 q9 => JX_out C ok9 q9 (by decide) (by decide)) (fun S17 hok18 h16 => ?_)
  have h16 := h16 hok18
  refine J_aload_n (pc := 25) C dX6_flex_25 rfl ?_
  refine J_get (pc := 26) C dX6_flex_26 0 rfl rfl nX6_flex_X6 4 (by decide) mX6_flex_f40 rfl (v := .ref (G.2.2 5)) rfl ?_
  refine J_c1 (pc := 29) C (J_rV (pc := 29) C h16 dX6_flex_29 rfl rfl 5 rfl rfl (cwV 0 C.1.2.2.2.2 gX6_flex_X0_reduce rfl rfl rfl (by decide +kernel) ⟨Nat.le_of_ble_eq_true rfl, Nat.le_of_ble_eq_true rfl⟩) hok18 (Nat.le_of_ble_eq_true rfl) ⟨Nat.le_of_ble_eq_true rfl, Nat.le_of_ble_eq_true rfl⟩) (fun E9 S9 ok9 q9 => JX_out C ok9 q9 (by decide) (by decide)) (fun rv24 S22 hr25 hok23 h21 => ?_)
  have h21 := h21 hr25 hok23
  refine J_pop (pc := 32) C dX6_flex_32 rfl ?_
  refine J_aload_n (pc := 33) C dX6_flex_33 rfl ?_
  refine J_get (pc := 34) C dX6_flex_34 0 rfl rfl nX6_flex_X6 4 (by decide) mX6_flex_f40 rfl (v := .ref (G.2.2 5)) rfl ?_
  refine J_iload_n (pc := 37) C dX6_flex_37 rfl ?_
  refine J_c1 (pc := 38) C (J_rV (pc := 38) C (h21 ra0) dX6_flex_38 rfl rfl 5 rfl rfl (cwV 1 C.1.2.2.2.2 gX6_flex_X0_freeColumn rfl rfl rfl (by decide +kernel) ⟨Nat.le_of_ble_eq_true rfl, Nat.le_of_ble_eq_true rfl⟩) hok23 (Nat.le_of_ble_eq_true rfl) ⟨Nat.le_of_ble_eq_true rfl, Nat.le_of_ble_eq_true rfl⟩) (fun E9 S9 ok9 q9 => JX_out C ok9 q9 (by decide) (by decide)) (fun rv29 S27 hr30 hok28 h26 => ?_)
  have h26 := h26 hr30 hok28
  refine J_istore (pc := 41) C dX6_flex_41 (by decide) ?_
  refine J_iload (pc := 43) C dX6_flex_43 rfl ?_
  refine J_iconst (pc := 45) C dX6_flex_45 ?_
  obtain ⟨h31, h32⟩ := h26
  refine J_icmp_ne (pc := 46) (tgt := 51) C dX6_flex_46 (by decide) hr30 (by decide) (fun cb => ?_) (fun cb => ?_)
  · have h31 := h31 cb
    refine J_aload_n (pc := 51) C dX6_flex_51 rfl ?_
    refine J_get (pc := 52) C dX6_flex_52 0 rfl rfl nX6_flex_X6 3 (by decide) mX6_flex_f33 rfl (v := .ref (G.2.2 4)) rfl ?_
    refine J_get (pc := 55) C dX6_flex_55 4 rfl rfl nX6_flex_X2 2 (by decide) mX6_flex_f140 rfl (v := .ref (G.2.2 21)) rfl ?_
    refine J_iload_n (pc := 58) C dX6_flex_58 rfl ?_
    obtain ⟨o33, h34⟩ := h31
    refine J_iald (pc := 59) C dX6_flex_59 21 21 rfl (by decide) o33 ?_
    refine J_istore (pc := 60) C dX6_flex_60 (by decide) ?_
    refine J_iload (pc := 62) C dX6_flex_62 rfl ?_
    refine J_iconst (pc := 64) C dX6_flex_64 ?_
    obtain ⟨h35, h36⟩ := h34
    refine J_icmp_ne (pc := 65) (tgt := 70) C dX6_flex_65 (by decide) (hok28 21 a1) (by decide) (fun cb => ?_) (fun cb => ?_)
    · have h35 := h35 cb
      refine J_aload_n (pc := 70) C dX6_flex_70 rfl ?_
      refine J_get (pc := 71) C dX6_flex_71 0 rfl rfl nX6_flex_X6 4 (by decide) mX6_flex_f40 rfl (v := .ref (G.2.2 5)) rfl ?_
      refine J_iload (pc := 74) C dX6_flex_74 rfl ?_
      refine J_iload_n (pc := 76) C dX6_flex_76 rfl ?_
      obtain ⟨h37, h38⟩ := h35
      refine J_if_eq (pc := 77) (tgt := 87) C dX6_flex_77 (by decide) ra2 (fun cb => ?_) (fun cb => ?_)
      · have h37 := h37 cb
        refine J_iload (pc := 87) C dX6_flex_87 rfl ?_
        refine J_c1 (pc := 89) C (J_rV (pc := 89) C (h37 hr30 (hok28 21 a1)) dX6_flex_89 rfl rfl 5 rfl rfl (cwV 2 C.1.2.2.2.2 gX6_flex_X0_solution rfl rfl rfl (by decide +kernel) ⟨Nat.le_of_ble_eq_true rfl, Nat.le_of_ble_eq_true rfl⟩) hok28 (Nat.le_of_ble_eq_true rfl) ⟨Nat.le_of_ble_eq_true rfl, Nat.le_of_ble_eq_true rfl⟩) (fun E9 S9 ok9 q9 => JX_out C ok9 q9 (by decide) (by decide)) (fun rv42 S40 hr43 hok41 h39 => ?_)
        have h39 := h39 hr43 hok41
        exact J_iret (pc := 92) C dX6_flex_92 hr43 hok41 h39 (by decide) (by decide)
      · have h38 := h38 cb
        refine J_iload (pc := 80) C dX6_flex_80 rfl ?_
        refine J_iconst (pc := 82) C dX6_flex_82 ?_
        refine J_iadd (pc := 83) C dX6_flex_83 ?_
        refine J_goto (pc := 84) (tgt := 89) C dX6_flex_84 (by decide) ?_
        obtain ⟨o44, h45⟩ := h38
        refine J_c1 (pc := 89) C (J_rV (pc := 89) C (h45 hr30 o44) dX6_flex_89 rfl rfl 5 rfl rfl (cwV 2 C.1.2.2.2.2 gX6_flex_X0_solution rfl rfl rfl (by decide +kernel) ⟨Nat.le_of_ble_eq_true rfl, Nat.le_of_ble_eq_true rfl⟩) hok28 (Nat.le_of_ble_eq_true rfl) ⟨Nat.le_of_ble_eq_true rfl, Nat.le_of_ble_eq_true rfl⟩) (fun E9 S9 ok9 q9 => JX_out C ok9 q9 (by decide) (by decide)) (fun rv49 S47 hr50 hok48 h46 => ?_)
        have h46 := h46 hr50 hok48
        exact J_iret (pc := 92) C dX6_flex_92 hr50 hok48 h46 (by decide) (by decide)
    · have h36 := h36 cb
      refine J_iconst (pc := 68) C dX6_flex_68 ?_
      exact J_iret (pc := 69) C dX6_flex_69 (by decide) hok28 h36 (by decide) (by decide)
  · have h32 := h32 cb
    refine J_iconst (pc := 49) C dX6_flex_49 ?_
    exact J_iret (pc := 50) C dX6_flex_50 (by decide) hok28 h32 (by decide) (by decide)
def rmX6_requireTwo : Room := { frames := 6, cells := 1, slots := 6, locals := 82 }
theorem mX6_requireTwo_xA : Cond.classLink RX6 84 "java/lang/IllegalArgumentException" ∈ wsX6_requireTwo := by decide +kernel
theorem mX6_requireTwo_yA : Cond.initialized "java/lang/IllegalArgumentException" ∈ wsX6_requireTwo := by decide +kernel
theorem mX6_requireTwo_zA : ∀ x ∈ (vx_atS RX6 88 "java/lang/IllegalArgumentException" exP).filter goodWord, x ∈ wsX6_requireTwo := by decide +kernel
def M_X6_requireTwo (a0 a1 : Int) (S : St) (Qr : Int → St → Prop) (Qx : String → St → Prop) : Prop := r32 a0 → r32 a1 → MM 0 wC okC yX6_requireTwo wsX6_requireTwo rmX6_requireTwo (fun G => [iV a0, iV a1]) S Qr Qx
set_option maxRecDepth 100000 in
set_option maxHeartbeats 4000000 in
theorem vc_X6_requireTwo {a0 a1 : Int} {S : St} {Qr : Int → St → Prop} {Qx : String → St → Prop} (h : r32 a0 → r32 a1 → okC S → ((a0 ≠ a1 → Qr 0 S) ∧ (a0 = a1 → Qx "java/lang/IllegalArgumentException" S))) : M_X6_requireTwo a0 a1 S Qr Qx := by
  intro ra0 ra1
  refine MM_of adC (by decide +kernel) rfl (Lf := fun G => [some (iV a0), some (iV a1)]) (fun G => by show _ ≤ _; exact Nat.le_of_ble_eq_true rfl) (fun G => rfl) ?_
  intro p l e s m args below meth c G A C hok
  have h := h ra0 ra1 hok
  replace C : Cx wC cX6_requireTwo 2 RX6 wsX6_requireTwo none [] p l s m args meth c G A := C
  show J wC 2 rmX6_requireTwo p l e s m args below meth c G A (QQ 0 wC okC G Qr Qx A below args s rmX6_requireTwo.cells rmX6_requireTwo.slots) 0 0 S [some (iV a0), some (iV a1)] [] 0
  refine J_iload_n (pc := 0) C dX6_requireTwo_0 rfl ?_
  refine J_iload_n (pc := 1) C dX6_requireTwo_1 rfl ?_
  obtain ⟨h1, h2⟩ := h
  refine J_icmp_ne (pc := 2) (tgt := 16) C dX6_requireTwo_2 (by decide) ra0 ra1 (fun cb => ?_) (fun cb => ?_)
  · have h1 := h1 cb
    exact J_vret (pc := 16) C dX6_requireTwo_16 hok h1 (by decide) (by decide)
  · have h2 := h2 cb
    exact J_throwW (pc := 5) C exW_A mX6_requireTwo_xA mX6_requireTwo_yA (text := "both joints are one") (by decide +kernel) mX6_requireTwo_zA dX6_requireTwo_5 dX6_requireTwo_8 dX6_requireTwo_9 dX6_requireTwo_12 dX6_requireTwo_15 (by decide) (by decide) (by decide) (by decide) hok h2
def rmX6_requirePoint : Room := { frames := 6, cells := 1, slots := 6, locals := 82 }
theorem mX6_requirePoint_xA : Cond.classLink RX6 84 "java/lang/IllegalArgumentException" ∈ wsX6_requirePoint := by decide +kernel
theorem mX6_requirePoint_yA : Cond.initialized "java/lang/IllegalArgumentException" ∈ wsX6_requirePoint := by decide +kernel
theorem mX6_requirePoint_zA : ∀ x ∈ (vx_atS RX6 88 "java/lang/IllegalArgumentException" exP).filter goodWord, x ∈ wsX6_requirePoint := by decide +kernel
def M_X6_requirePoint (a0 a1 : Int) (S : St) (Qr : Int → St → Prop) (Qx : String → St → Prop) : Prop := r32 a0 → r32 a1 → MM 0 wC okC yX6_requirePoint wsX6_requirePoint rmX6_requirePoint (fun G => [iV a0, iV a1]) S Qr Qx
set_option maxRecDepth 100000 in
set_option maxHeartbeats 4000000 in
theorem vc_X6_requirePoint {a0 a1 : Int} {S : St} {Qr : Int → St → Prop} {Qx : String → St → Prop} (h : r32 a0 → r32 a1 → okC S → ((a0 < (-50) → Qx "java/lang/IllegalArgumentException" S) ∧ ((-50) ≤ a0 → ((50 < a0 → Qx "java/lang/IllegalArgumentException" S) ∧ (a0 ≤ 50 → ((a1 < (-50) → Qx "java/lang/IllegalArgumentException" S) ∧ ((-50) ≤ a1 → ((a1 ≤ 50 → Qr 0 S) ∧ (50 < a1 → Qx "java/lang/IllegalArgumentException" S))))))))) : M_X6_requirePoint a0 a1 S Qr Qx := by
  intro ra0 ra1
  refine MM_of adC (by decide +kernel) rfl (Lf := fun G => [some (iV a0), some (iV a1)]) (fun G => by show _ ≤ _; exact Nat.le_of_ble_eq_true rfl) (fun G => rfl) ?_
  intro p l e s m args below meth c G A C hok
  have h := h ra0 ra1 hok
  replace C : Cx wC cX6_requirePoint 2 RX6 wsX6_requirePoint none [] p l s m args meth c G A := C
  show J wC 2 rmX6_requirePoint p l e s m args below meth c G A (QQ 0 wC okC G Qr Qx A below args s rmX6_requirePoint.cells rmX6_requirePoint.slots) 0 0 S [some (iV a0), some (iV a1)] [] 0
  refine J_iload_n (pc := 0) C dX6_requirePoint_0 rfl ?_
  refine J_bipush (pc := 1) C dX6_requirePoint_1 (by decide) ?_
  obtain ⟨h1, h2⟩ := h
  refine J_icmp_lt (pc := 3) (tgt := 24) C dX6_requirePoint_3 (by decide) ra0 (by decide) (fun cb => ?_) (fun cb => ?_)
  · have h1 := h1 cb
    exact J_throwW (pc := 24) C exW_A mX6_requirePoint_xA mX6_requirePoint_yA (text := "x or y is out of range") (by decide +kernel) mX6_requirePoint_zA dX6_requirePoint_24 dX6_requirePoint_27 dX6_requirePoint_28 dX6_requirePoint_31 dX6_requirePoint_34 (by decide) (by decide) (by decide) (by decide) hok h1
  · have h2 := h2 cb
    refine J_iload_n (pc := 6) C dX6_requirePoint_6 rfl ?_
    refine J_bipush (pc := 7) C dX6_requirePoint_7 (by decide) ?_
    obtain ⟨h3, h4⟩ := h2
    refine J_icmp_gt (pc := 9) (tgt := 24) C dX6_requirePoint_9 (by decide) ra0 (by decide) (fun cb => ?_) (fun cb => ?_)
    · have h3 := h3 cb
      exact J_throwW (pc := 24) C exW_A mX6_requirePoint_xA mX6_requirePoint_yA (text := "x or y is out of range") (by decide +kernel) mX6_requirePoint_zA dX6_requirePoint_24 dX6_requirePoint_27 dX6_requirePoint_28 dX6_requirePoint_31 dX6_requirePoint_34 (by decide) (by decide) (by decide) (by decide) hok h3
    · have h4 := h4 cb
      refine J_iload_n (pc := 12) C dX6_requirePoint_12 rfl ?_
      refine J_bipush (pc := 13) C dX6_requirePoint_13 (by decide) ?_
      obtain ⟨h5, h6⟩ := h4
      refine J_icmp_lt (pc := 15) (tgt := 24) C dX6_requirePoint_15 (by decide) ra1 (by decide) (fun cb => ?_) (fun cb => ?_)
      · have h5 := h5 cb
        exact J_throwW (pc := 24) C exW_A mX6_requirePoint_xA mX6_requirePoint_yA (text := "x or y is out of range") (by decide +kernel) mX6_requirePoint_zA dX6_requirePoint_24 dX6_requirePoint_27 dX6_requirePoint_28 dX6_requirePoint_31 dX6_requirePoint_34 (by decide) (by decide) (by decide) (by decide) hok h5
      · have h6 := h6 cb
        refine J_iload_n (pc := 18) C dX6_requirePoint_18 rfl ?_
        refine J_bipush (pc := 19) C dX6_requirePoint_19 (by decide) ?_
        obtain ⟨h7, h8⟩ := h6
        refine J_icmp_le (pc := 21) (tgt := 35) C dX6_requirePoint_21 (by decide) ra1 (by decide) (fun cb => ?_) (fun cb => ?_)
        · have h7 := h7 cb
          exact J_vret (pc := 35) C dX6_requirePoint_35 hok h7 (by decide) (by decide)
        · have h8 := h8 cb
          exact J_throwW (pc := 24) C exW_A mX6_requirePoint_xA mX6_requirePoint_yA (text := "x or y is out of range") (by decide +kernel) mX6_requirePoint_zA dX6_requirePoint_24 dX6_requirePoint_27 dX6_requirePoint_28 dX6_requirePoint_31 dX6_requirePoint_34 (by decide) (by decide) (by decide) (by decide) hok h8
def rmX6_requireRoomForJoint : Room := { frames := 6, cells := 1, slots := 6, locals := 82 }
theorem mX6_requireRoomForJoint_f10 : Cond.fieldLink RX6 10 "Stresswork" "joints" "LStresswork$Joints;" ∈ wsX6_requireRoomForJoint := by decide +kernel
theorem nX6_requireRoomForJoint_X6 : ∀ x ∈ wsX60, x ∈ wsX6_requireRoomForJoint := by decide +kernel
theorem mX6_requireRoomForJoint_f155 : Cond.fieldLink RX6 155 "Stresswork$Joints" "count" "I" ∈ wsX6_requireRoomForJoint := by decide +kernel
theorem nX6_requireRoomForJoint_X1 : ∀ x ∈ wsX10, x ∈ wsX6_requireRoomForJoint := by decide +kernel
theorem mX6_requireRoomForJoint_xS : Cond.classLink RX6 95 "java/lang/IllegalStateException" ∈ wsX6_requireRoomForJoint := by decide +kernel
theorem mX6_requireRoomForJoint_yS : Cond.initialized "java/lang/IllegalStateException" ∈ wsX6_requireRoomForJoint := by decide +kernel
theorem mX6_requireRoomForJoint_zS : ∀ x ∈ (vx_atS RX6 99 "java/lang/IllegalStateException" exP).filter goodWord, x ∈ wsX6_requireRoomForJoint := by decide +kernel
def M_X6_requireRoomForJoint (S : St) (Qr : Int → St → Prop) (Qx : String → St → Prop) : Prop := MM 0 wC okC yX6_requireRoomForJoint wsX6_requireRoomForJoint rmX6_requireRoomForJoint (fun G => [.ref (G.2.2 0)]) S Qr Qx
set_option maxRecDepth 100000 in
set_option maxHeartbeats 4000000 in
theorem vc_X6_requireRoomForJoint {S : St} {Qr : Int → St → Prop} {Qx : String → St → Prop} (h : okC S → (((S 1 4) < 10 → Qr 0 S) ∧ (10 ≤ (S 1 4) → Qx "java/lang/IllegalStateException" S))) : M_X6_requireRoomForJoint S Qr Qx := by
  refine MM_of adC (by decide +kernel) rfl (Lf := fun G => [some (.ref (G.2.2 0))]) (fun G => by show _ ≤ _; exact Nat.le_of_ble_eq_true rfl) (fun G => rfl) ?_
  intro p l e s m args below meth c G A C hok
  have h := h hok
  replace C : Cx wC cX6_requireRoomForJoint 1 RX6 wsX6_requireRoomForJoint none [] p l s m args meth c G A := C
  show J wC 1 rmX6_requireRoomForJoint p l e s m args below meth c G A (QQ 0 wC okC G Qr Qx A below args s rmX6_requireRoomForJoint.cells rmX6_requireRoomForJoint.slots) 0 0 S [some (.ref (G.2.2 0))] [] 0
  refine J_aload_n (pc := 0) C dX6_requireRoomForJoint_0 rfl ?_
  refine J_get (pc := 1) C dX6_requireRoomForJoint_1 0 rfl rfl nX6_requireRoomForJoint_X6 0 (by decide) mX6_requireRoomForJoint_f10 rfl (v := .ref (G.2.2 1)) rfl ?_
  refine J_get (pc := 4) C dX6_requireRoomForJoint_4 1 rfl rfl nX6_requireRoomForJoint_X1 4 (by decide) mX6_requireRoomForJoint_f155 rfl (v := iV (S 1 4)) rfl ?_
  refine J_bipush (pc := 7) C dX6_requireRoomForJoint_7 (by decide) ?_
  obtain ⟨h1, h2⟩ := h
  refine J_icmp_lt (pc := 9) (tgt := 23) C dX6_requireRoomForJoint_9 (by decide) (hok 1 4) (by decide) (fun cb => ?_) (fun cb => ?_)
  · have h1 := h1 cb
    exact J_vret (pc := 23) C dX6_requireRoomForJoint_23 hok h1 (by decide) (by decide)
  · have h2 := h2 cb
    exact J_throwW (pc := 12) C exW_S mX6_requireRoomForJoint_xS mX6_requireRoomForJoint_yS (text := "there are 10 joints") (by decide +kernel) mX6_requireRoomForJoint_zS dX6_requireRoomForJoint_12 dX6_requireRoomForJoint_15 dX6_requireRoomForJoint_16 dX6_requireRoomForJoint_19 dX6_requireRoomForJoint_22 (by decide) (by decide) (by decide) (by decide) hok h2
def rmX6_requireRoomForMembers : Room := { frames := 6, cells := 1, slots := 6, locals := 82 }
theorem mX6_requireRoomForMembers_f19 : Cond.fieldLink RX6 19 "Stresswork" "members" "LStresswork$Members;" ∈ wsX6_requireRoomForMembers := by decide +kernel
theorem nX6_requireRoomForMembers_X6 : ∀ x ∈ wsX60, x ∈ wsX6_requireRoomForMembers := by decide +kernel
theorem mX6_requireRoomForMembers_f235 : Cond.fieldLink RX6 235 "Stresswork$Members" "count" "I" ∈ wsX6_requireRoomForMembers := by decide +kernel
theorem nX6_requireRoomForMembers_X3 : ∀ x ∈ wsX30, x ∈ wsX6_requireRoomForMembers := by decide +kernel
theorem mX6_requireRoomForMembers_xS : Cond.classLink RX6 95 "java/lang/IllegalStateException" ∈ wsX6_requireRoomForMembers := by decide +kernel
theorem mX6_requireRoomForMembers_yS : Cond.initialized "java/lang/IllegalStateException" ∈ wsX6_requireRoomForMembers := by decide +kernel
theorem mX6_requireRoomForMembers_zS : ∀ x ∈ (vx_atS RX6 99 "java/lang/IllegalStateException" exP).filter goodWord, x ∈ wsX6_requireRoomForMembers := by decide +kernel
def M_X6_requireRoomForMembers (a0 : Int) (S : St) (Qr : Int → St → Prop) (Qx : String → St → Prop) : Prop := r32 a0 → MM 0 wC okC yX6_requireRoomForMembers wsX6_requireRoomForMembers rmX6_requireRoomForMembers (fun G => [.ref (G.2.2 0), iV a0]) S Qr Qx
set_option maxRecDepth 100000 in
set_option maxHeartbeats 4000000 in
theorem vc_X6_requireRoomForMembers {a0 : Int} {S : St} {Qr : Int → St → Prop} {Qx : String → St → Prop} (h : r32 a0 → okC S → (r32 (40 - a0) ∧ (((S 2 5) ≤ (40 - a0) → Qr 0 S) ∧ ((40 - a0) < (S 2 5) → Qx "java/lang/IllegalStateException" S)))) : M_X6_requireRoomForMembers a0 S Qr Qx := by
  intro ra0
  refine MM_of adC (by decide +kernel) rfl (Lf := fun G => [some (.ref (G.2.2 0)), some (iV a0)]) (fun G => by show _ ≤ _; exact Nat.le_of_ble_eq_true rfl) (fun G => rfl) ?_
  intro p l e s m args below meth c G A C hok
  have h := h ra0 hok
  replace C : Cx wC cX6_requireRoomForMembers 2 RX6 wsX6_requireRoomForMembers none [] p l s m args meth c G A := C
  show J wC 2 rmX6_requireRoomForMembers p l e s m args below meth c G A (QQ 0 wC okC G Qr Qx A below args s rmX6_requireRoomForMembers.cells rmX6_requireRoomForMembers.slots) 0 0 S [some (.ref (G.2.2 0)), some (iV a0)] [] 0
  refine J_aload_n (pc := 0) C dX6_requireRoomForMembers_0 rfl ?_
  refine J_get (pc := 1) C dX6_requireRoomForMembers_1 0 rfl rfl nX6_requireRoomForMembers_X6 1 (by decide) mX6_requireRoomForMembers_f19 rfl (v := .ref (G.2.2 2)) rfl ?_
  refine J_get (pc := 4) C dX6_requireRoomForMembers_4 2 rfl rfl nX6_requireRoomForMembers_X3 5 (by decide) mX6_requireRoomForMembers_f235 rfl (v := iV (S 2 5)) rfl ?_
  refine J_bipush (pc := 7) C dX6_requireRoomForMembers_7 (by decide) ?_
  refine J_iload_n (pc := 9) C dX6_requireRoomForMembers_9 rfl ?_
  refine J_isub (pc := 10) C dX6_requireRoomForMembers_10 ?_
  obtain ⟨o1, h2⟩ := h
  obtain ⟨h3, h4⟩ := h2
  refine J_icmp_le (pc := 11) (tgt := 25) C dX6_requireRoomForMembers_11 (by decide) (hok 2 5) o1 (fun cb => ?_) (fun cb => ?_)
  · have h3 := h3 cb
    exact J_vret (pc := 25) C dX6_requireRoomForMembers_25 hok h3 (by decide) (by decide)
  · have h4 := h4 cb
    exact J_throwW (pc := 14) C exW_S mX6_requireRoomForMembers_xS mX6_requireRoomForMembers_yS (text := "too many members were set") (by decide +kernel) mX6_requireRoomForMembers_zS dX6_requireRoomForMembers_14 dX6_requireRoomForMembers_17 dX6_requireRoomForMembers_18 dX6_requireRoomForMembers_21 dX6_requireRoomForMembers_24 (by decide) (by decide) (by decide) (by decide) hok h4
def rmX6_grow : Room := { frames := 7, cells := 6, slots := 36, locals := 103 }
theorem mX6_grow_f10 : Cond.fieldLink RX6 10 "Stresswork" "joints" "LStresswork$Joints;" ∈ wsX6_grow := by decide +kernel
theorem nX6_grow_X6 : ∀ x ∈ wsX60, x ∈ wsX6_grow := by decide +kernel
theorem mX6_grow_f19 : Cond.fieldLink RX6 19 "Stresswork" "members" "LStresswork$Members;" ∈ wsX6_grow := by decide +kernel
theorem mX6_grow_f26 : Cond.fieldLink RX6 26 "Stresswork" "steps" "LStresswork$Steps;" ∈ wsX6_grow := by decide +kernel
def M_X6_grow (a0 a1 a2 a3 : Int) (S : St) (Qr : Int → St → Prop) (Qx : String → St → Prop) : Prop := r32 a0 → r32 a1 → r32 a2 → r32 a3 → MM 1 wC okC yX6_grow wsX6_grow rmX6_grow (fun G => [.ref (G.2.2 0), iV a0, iV a1, iV a2, iV a3]) S Qr Qx
set_option maxRecDepth 100000 in
set_option maxHeartbeats 4000000 in
theorem vc_X6_grow {a0 a1 a2 a3 : Int} {S : St} {Qr : Int → St → Prop} {Qx : String → St → Prop} (h : r32 a0 → r32 a1 → r32 a2 → r32 a3 → okC S → M_X6_requireJoint a0 S (fun _ S2 => okC S2 → M_X6_requireJoint a1 S2 (fun _ S7 => okC S7 → M_X6_requireTwo a0 a1 S7 (fun _ S12 => okC S12 → M_X6_requirePoint a2 a3 S12 (fun _ S17 => okC S17 → M_X6_requireRoomForJoint S17 (fun _ S22 => okC S22 → M_X6_requireRoomForMembers 2 S22 (fun _ S27 => okC S27 → M_X1_add a2 a3 S27 (fun rv34 S32 => r32 rv34 → okC S32 → M_X3_add a0 rv34 0 S32 (fun rv39 S37 => r32 rv39 → okC S37 → M_X3_add a1 rv34 0 S37 (fun rv44 S42 => r32 rv44 → okC S42 → M_X5_add rv34 rv39 (-1) S42 (fun _ S47 => okC S47 → Qr rv34 S47) Qx) Qx) Qx) Qx) Qx) Qx) Qx) Qx) Qx) Qx) : M_X6_grow a0 a1 a2 a3 S Qr Qx := by
  intro ra0 ra1 ra2 ra3
  refine MM_of adC (by decide +kernel) rfl (Lf := fun G => [some (.ref (G.2.2 0)), some (iV a0), some (iV a1), some (iV a2), some (iV a3), none, none]) (fun G => by show _ ≤ _; exact Nat.le_of_ble_eq_true rfl) (fun G => rfl) ?_
  intro p l e s m args below meth c G A C hok
  have h := h ra0 ra1 ra2 ra3 hok
  replace C : Cx wC cX6_grow 7 RX6 wsX6_grow (some .int) [] p l s m args meth c G A := C
  show J wC 7 rmX6_grow p l e s m args below meth c G A (QQ 1 wC okC G Qr Qx A below args s rmX6_grow.cells rmX6_grow.slots) 0 0 S [some (.ref (G.2.2 0)), some (iV a0), some (iV a1), some (iV a2), some (iV a3), none, none] [] 0
  refine J_aload_n (pc := 0) C dX6_grow_0 rfl ?_
  refine J_iload_n (pc := 1) C dX6_grow_1 rfl ?_
  refine J_c0 (pc := 2) C (J_rV (pc := 2) C (h ra0) dX6_grow_2 rfl rfl 0 rfl rfl (cwV 1 C.1.2.2.2.2 gX6_grow_X6_requireJoint rfl rfl rfl (by decide +kernel) ⟨Nat.le_of_ble_eq_true rfl, Nat.le_of_ble_eq_true rfl⟩) hok (Nat.le_of_ble_eq_true rfl) ⟨Nat.le_of_ble_eq_true rfl, Nat.le_of_ble_eq_true rfl⟩) (fun E9 S9 ok9 q9 => JX_out C ok9 q9 (by decide) (by decide)) (fun S2 hok3 h1 => ?_)
  have h1 := h1 hok3
  refine J_aload_n (pc := 5) C dX6_grow_5 rfl ?_
  refine J_iload_n (pc := 6) C dX6_grow_6 rfl ?_
  refine J_c0 (pc := 7) C (J_rV (pc := 7) C (h1 ra1) dX6_grow_7 rfl rfl 0 rfl rfl (cwV 1 C.1.2.2.2.2 gX6_grow_X6_requireJoint rfl rfl rfl (by decide +kernel) ⟨Nat.le_of_ble_eq_true rfl, Nat.le_of_ble_eq_true rfl⟩) hok3 (Nat.le_of_ble_eq_true rfl) ⟨Nat.le_of_ble_eq_true rfl, Nat.le_of_ble_eq_true rfl⟩) (fun E9 S9 ok9 q9 => JX_out C ok9 q9 (by decide) (by decide)) (fun S7 hok8 h6 => ?_)
  have h6 := h6 hok8
  refine J_iload_n (pc := 10) C dX6_grow_10 rfl ?_
  refine J_iload_n (pc := 11) C dX6_grow_11 rfl ?_
  refine J_c0 (pc := 12) C (J_rS (pc := 12) C (h6 ra0 ra1) dX6_grow_12 rfl rfl (va_cwS 2 C.1.2.2.2.2 gX6_grow_X6_requireTwo rfl rfl rfl (by decide +kernel) ⟨Nat.le_of_ble_eq_true rfl, Nat.le_of_ble_eq_true rfl⟩) hok8 (Nat.le_of_ble_eq_true rfl) ⟨Nat.le_of_ble_eq_true rfl, Nat.le_of_ble_eq_true rfl⟩) (fun E9 S9 ok9 q9 => JX_out C ok9 q9 (by decide) (by decide)) (fun S12 hok13 h11 => ?_)
  have h11 := h11 hok13
  refine J_iload_n (pc := 15) C dX6_grow_15 rfl ?_
  refine J_iload (pc := 16) C dX6_grow_16 rfl ?_
  refine J_c0 (pc := 18) C (J_rS (pc := 18) C (h11 ra2 ra3) dX6_grow_18 rfl rfl (va_cwS 2 C.1.2.2.2.2 gX6_grow_X6_requirePoint rfl rfl rfl (by decide +kernel) ⟨Nat.le_of_ble_eq_true rfl, Nat.le_of_ble_eq_true rfl⟩) hok13 (Nat.le_of_ble_eq_true rfl) ⟨Nat.le_of_ble_eq_true rfl, Nat.le_of_ble_eq_true rfl⟩) (fun E9 S9 ok9 q9 => JX_out C ok9 q9 (by decide) (by decide)) (fun S17 hok18 h16 => ?_)
  have h16 := h16 hok18
  refine J_aload_n (pc := 21) C dX6_grow_21 rfl ?_
  refine J_c0 (pc := 22) C (J_rV (pc := 22) C h16 dX6_grow_22 rfl rfl 0 rfl rfl (cwV 0 C.1.2.2.2.2 gX6_grow_X6_requireRoomForJoint rfl rfl rfl (by decide +kernel) ⟨Nat.le_of_ble_eq_true rfl, Nat.le_of_ble_eq_true rfl⟩) hok18 (Nat.le_of_ble_eq_true rfl) ⟨Nat.le_of_ble_eq_true rfl, Nat.le_of_ble_eq_true rfl⟩) (fun E9 S9 ok9 q9 => JX_out C ok9 q9 (by decide) (by decide)) (fun S22 hok23 h21 => ?_)
  have h21 := h21 hok23
  refine J_aload_n (pc := 25) C dX6_grow_25 rfl ?_
  refine J_iconst (pc := 26) C dX6_grow_26 ?_
  refine J_c0 (pc := 27) C (J_rV (pc := 27) C (h21 (by decide)) dX6_grow_27 rfl rfl 0 rfl rfl (cwV 1 C.1.2.2.2.2 gX6_grow_X6_requireRoomForMembers rfl rfl rfl (by decide +kernel) ⟨Nat.le_of_ble_eq_true rfl, Nat.le_of_ble_eq_true rfl⟩) hok23 (Nat.le_of_ble_eq_true rfl) ⟨Nat.le_of_ble_eq_true rfl, Nat.le_of_ble_eq_true rfl⟩) (fun E9 S9 ok9 q9 => JX_out C ok9 q9 (by decide) (by decide)) (fun S27 hok28 h26 => ?_)
  have h26 := h26 hok28
  refine J_aload_n (pc := 30) C dX6_grow_30 rfl ?_
  refine J_get (pc := 31) C dX6_grow_31 0 rfl rfl nX6_grow_X6 0 (by decide) mX6_grow_f10 rfl (v := .ref (G.2.2 1)) rfl ?_
  refine J_iload_n (pc := 34) C dX6_grow_34 rfl ?_
  refine J_iload (pc := 35) C dX6_grow_35 rfl ?_
  refine J_c1 (pc := 37) C (J_rV (pc := 37) C (h26 ra2 ra3) dX6_grow_37 rfl rfl 1 rfl rfl (cwV 2 C.1.2.2.2.2 gX6_grow_X1_add rfl rfl rfl (by decide +kernel) ⟨Nat.le_of_ble_eq_true rfl, Nat.le_of_ble_eq_true rfl⟩) hok28 (Nat.le_of_ble_eq_true rfl) ⟨Nat.le_of_ble_eq_true rfl, Nat.le_of_ble_eq_true rfl⟩) (fun E9 S9 ok9 q9 => JX_out C ok9 q9 (by decide) (by decide)) (fun rv34 S32 hr35 hok33 h31 => ?_)
  have h31 := h31 hr35 hok33
  refine J_istore (pc := 40) C dX6_grow_40 (by decide) ?_
  refine J_aload_n (pc := 42) C dX6_grow_42 rfl ?_
  refine J_get (pc := 43) C dX6_grow_43 0 rfl rfl nX6_grow_X6 1 (by decide) mX6_grow_f19 rfl (v := .ref (G.2.2 2)) rfl ?_
  refine J_iload_n (pc := 46) C dX6_grow_46 rfl ?_
  refine J_iload (pc := 47) C dX6_grow_47 rfl ?_
  refine J_iconst (pc := 49) C dX6_grow_49 ?_
  refine J_c1 (pc := 50) C (J_rV (pc := 50) C (h31 ra0 hr35 (by decide)) dX6_grow_50 rfl rfl 2 rfl rfl (cwV 3 C.1.2.2.2.2 gX6_grow_X3_add rfl rfl rfl (by decide +kernel) ⟨Nat.le_of_ble_eq_true rfl, Nat.le_of_ble_eq_true rfl⟩) hok33 (Nat.le_of_ble_eq_true rfl) ⟨Nat.le_of_ble_eq_true rfl, Nat.le_of_ble_eq_true rfl⟩) (fun E9 S9 ok9 q9 => JX_out C ok9 q9 (by decide) (by decide)) (fun rv39 S37 hr40 hok38 h36 => ?_)
  have h36 := h36 hr40 hok38
  refine J_istore (pc := 53) C dX6_grow_53 (by decide) ?_
  refine J_aload_n (pc := 55) C dX6_grow_55 rfl ?_
  refine J_get (pc := 56) C dX6_grow_56 0 rfl rfl nX6_grow_X6 1 (by decide) mX6_grow_f19 rfl (v := .ref (G.2.2 2)) rfl ?_
  refine J_iload_n (pc := 59) C dX6_grow_59 rfl ?_
  refine J_iload (pc := 60) C dX6_grow_60 rfl ?_
  refine J_iconst (pc := 62) C dX6_grow_62 ?_
  refine J_c1 (pc := 63) C (J_rV (pc := 63) C (h36 ra1 hr35 (by decide)) dX6_grow_63 rfl rfl 2 rfl rfl (cwV 3 C.1.2.2.2.2 gX6_grow_X3_add rfl rfl rfl (by decide +kernel) ⟨Nat.le_of_ble_eq_true rfl, Nat.le_of_ble_eq_true rfl⟩) hok38 (Nat.le_of_ble_eq_true rfl) ⟨Nat.le_of_ble_eq_true rfl, Nat.le_of_ble_eq_true rfl⟩) (fun E9 S9 ok9 q9 => JX_out C ok9 q9 (by decide) (by decide)) (fun rv44 S42 hr45 hok43 h41 => ?_)
  have h41 := h41 hr45 hok43
  refine J_pop (pc := 66) C dX6_grow_66 rfl ?_
  refine J_aload_n (pc := 67) C dX6_grow_67 rfl ?_
  refine J_get (pc := 68) C dX6_grow_68 0 rfl rfl nX6_grow_X6 2 (by decide) mX6_grow_f26 rfl (v := .ref (G.2.2 3)) rfl ?_
  refine J_iload (pc := 71) C dX6_grow_71 rfl ?_
  refine J_iload (pc := 73) C dX6_grow_73 rfl ?_
  refine J_iconst (pc := 75) C dX6_grow_75 ?_
  refine J_c0 (pc := 76) C (J_rV (pc := 76) C (h41 hr35 hr40 (by decide)) dX6_grow_76 rfl rfl 3 rfl rfl (cwV 3 C.1.2.2.2.2 gX6_grow_X5_add rfl rfl rfl (by decide +kernel) ⟨Nat.le_of_ble_eq_true rfl, Nat.le_of_ble_eq_true rfl⟩) hok43 (Nat.le_of_ble_eq_true rfl) ⟨Nat.le_of_ble_eq_true rfl, Nat.le_of_ble_eq_true rfl⟩) (fun E9 S9 ok9 q9 => JX_out C ok9 q9 (by decide) (by decide)) (fun S47 hok48 h46 => ?_)
  have h46 := h46 hok48
  refine J_iload (pc := 79) C dX6_grow_79 rfl ?_
  exact J_iret (pc := 81) C dX6_grow_81 hr35 hok48 h46 (by decide) (by decide)
def rmX6_hangsTogether : Room := { frames := 2, cells := 0, slots := 0, locals := 46 }
theorem mX6_hangsTogether_f10 : Cond.fieldLink RX6 10 "Stresswork" "joints" "LStresswork$Joints;" ∈ wsX6_hangsTogether := by decide +kernel
theorem nX6_hangsTogether_X6 : ∀ x ∈ wsX60, x ∈ wsX6_hangsTogether := by decide +kernel
theorem mX6_hangsTogether_f155 : Cond.fieldLink RX6 155 "Stresswork$Joints" "count" "I" ∈ wsX6_hangsTogether := by decide +kernel
theorem nX6_hangsTogether_X1 : ∀ x ∈ wsX10, x ∈ wsX6_hangsTogether := by decide +kernel
theorem mX6_hangsTogether_f19 : Cond.fieldLink RX6 19 "Stresswork" "members" "LStresswork$Members;" ∈ wsX6_hangsTogether := by decide +kernel
def M_X6_hangsTogether (a0 : Int) (S : St) (Qr : Int → St → Prop) (Qx : String → St → Prop) : Prop := r32 a0 → MM 1 wC okC yX6_hangsTogether wsX6_hangsTogether rmX6_hangsTogether (fun G => [.ref (G.2.2 0), iV a0]) S Qr Qx
def R_X6_hangsTogether_7 (x1 x2 x3 : Int) (S : St) (Qr : Int → St → Prop) (Qx : String → St → Prop) : Prop := r32 x1 → r32 x2 → r32 x3 → RR 1 wC okC wsX6_hangsTogether rmX6_hangsTogether cX6_hangsTogether 4 RX6 (some .boolean) [] 0 0 (fun G => [some (.ref (G.2.2 0)), some (iV x1), some (iV x2), some (iV x3)]) (fun G => []) 7 S Qr Qx
set_option maxRecDepth 100000 in
set_option maxHeartbeats 4000000 in
theorem vc_X6_hangsTogether {a0 : Int} {S : St} {Qr : Int → St → Prop} {Qx : String → St → Prop} (h : r32 a0 → okC S → R_X6_hangsTogether_7 a0 (zand a0 (-a0)) 0 S Qr Qx) : M_X6_hangsTogether a0 S Qr Qx := by
  intro ra0
  refine MM_of adC (by decide +kernel) rfl (Lf := fun G => [some (.ref (G.2.2 0)), some (iV a0), none, none]) (fun G => by show _ ≤ _; exact Nat.le_of_ble_eq_true rfl) (fun G => rfl) ?_
  intro p l e s m args below meth c G A C hok
  have h := h ra0 hok
  replace C : Cx wC cX6_hangsTogether 4 RX6 wsX6_hangsTogether (some .boolean) [] p l s m args meth c G A := C
  show J wC 4 rmX6_hangsTogether p l e s m args below meth c G A (QQ 1 wC okC G Qr Qx A below args s rmX6_hangsTogether.cells rmX6_hangsTogether.slots) 0 0 S [some (.ref (G.2.2 0)), some (iV a0), none, none] [] 0
  refine J_iload_n (pc := 0) C dX6_hangsTogether_0 rfl ?_
  refine J_iload_n (pc := 1) C dX6_hangsTogether_1 rfl ?_
  refine J_ineg (pc := 2) C dX6_hangsTogether_2 ?_
  refine J_iand (pc := 3) C dX6_hangsTogether_3 ?_
  refine J_istore_n (pc := 4) C dX6_hangsTogether_4 (by decide) ?_
  refine J_iconst (pc := 5) C dX6_hangsTogether_5 ?_
  refine J_istore_n (pc := 6) C dX6_hangsTogether_6 (by decide) ?_
  exact J_sub (L1 := [some (.ref (G.2.2 0)), some (iV a0), some (iV (zand a0 (-a0))), some (iV 0)]) ⟨rfl, ⟨rfl, ⟨rfl, ⟨rfl, trivial⟩⟩⟩⟩ (h ra0 (r_zand _ _) (by decide) p l e s m args below meth c G A C hok)
set_option maxRecDepth 100000 in
set_option maxHeartbeats 4000000 in
theorem vc_X6_hangsTogether_7 {x1 x2 x3 : Int} {S : St} {Qr : Int → St → Prop} {Qx : String → St → Prop} (h : r32 x1 → r32 x2 → r32 x3 → okC S → (((S 1 4) ≤ x3 → ((x2 ≠ x1 → Qr 0 S) ∧ (x2 = x1 → Qr 1 S))) ∧ (x3 < (S 1 4) → ((x2 = x1 → ((x2 ≠ x1 → Qr 0 S) ∧ (x2 = x1 → Qr 1 S))) ∧ (x2 ≠ x1 → M_X3_spread x2 x1 S (fun rv12 S10 => r32 rv12 → okC S10 → (r32 (x3 + 1) ∧ R_X6_hangsTogether_7 x1 rv12 (x3 + 1) S10 Qr Qx)) Qx))))) : R_X6_hangsTogether_7 x1 x2 x3 S Qr Qx := by
  intro rx1 rx2 rx3
  intro p l e s m args below meth c G A C hok
  have h := h rx1 rx2 rx3 hok
  replace C : Cx wC cX6_hangsTogether 4 RX6 wsX6_hangsTogether (some .boolean) [] p l s m args meth c G A := C
  show J wC 4 rmX6_hangsTogether p l e s m args below meth c G A (QQ 1 wC okC G Qr Qx A below args s rmX6_hangsTogether.cells rmX6_hangsTogether.slots) 0 0 S [some (.ref (G.2.2 0)), some (iV x1), some (iV x2), some (iV x3)] [] 7
  refine J_iload_n (pc := 7) C dX6_hangsTogether_7 rfl ?_
  refine J_aload_n (pc := 8) C dX6_hangsTogether_8 rfl ?_
  refine J_get (pc := 9) C dX6_hangsTogether_9 0 rfl rfl nX6_hangsTogether_X6 0 (by decide) mX6_hangsTogether_f10 rfl (v := .ref (G.2.2 1)) rfl ?_
  refine J_get (pc := 12) C dX6_hangsTogether_12 1 rfl rfl nX6_hangsTogether_X1 4 (by decide) mX6_hangsTogether_f155 rfl (v := iV (S 1 4)) rfl ?_
  obtain ⟨h1, h2⟩ := h
  refine J_icmp_ge (pc := 15) (tgt := 39) C dX6_hangsTogether_15 (by decide) rx3 (hok 1 4) (fun cb => ?_) (fun cb => ?_)
  · have h1 := h1 cb
    refine J_iload_n (pc := 39) C dX6_hangsTogether_39 rfl ?_
    refine J_iload_n (pc := 40) C dX6_hangsTogether_40 rfl ?_
    obtain ⟨h3, h4⟩ := h1
    refine J_icmp_ne (pc := 41) (tgt := 48) C dX6_hangsTogether_41 (by decide) rx2 rx1 (fun cb => ?_) (fun cb => ?_)
    · have h3 := h3 cb
      refine J_iconst (pc := 48) C dX6_hangsTogether_48 ?_
      exact J_zret (pc := 49) C dX6_hangsTogether_49 (by decide) hok h3 (by decide) (by decide)
    · have h4 := h4 cb
      refine J_iconst (pc := 44) C dX6_hangsTogether_44 ?_
      refine J_goto (pc := 45) (tgt := 49) C dX6_hangsTogether_45 (by decide) ?_
      exact J_zret (pc := 49) C dX6_hangsTogether_49 (by decide) hok h4 (by decide) (by decide)
  · have h2 := h2 cb
    refine J_iload_n (pc := 18) C dX6_hangsTogether_18 rfl ?_
    refine J_iload_n (pc := 19) C dX6_hangsTogether_19 rfl ?_
    obtain ⟨h5, h6⟩ := h2
    refine J_icmp_eq (pc := 20) (tgt := 39) C dX6_hangsTogether_20 (by decide) rx2 rx1 (fun cb => ?_) (fun cb => ?_)
    · have h5 := h5 cb
      refine J_iload_n (pc := 39) C dX6_hangsTogether_39 rfl ?_
      refine J_iload_n (pc := 40) C dX6_hangsTogether_40 rfl ?_
      obtain ⟨h7, h8⟩ := h5
      refine J_icmp_ne (pc := 41) (tgt := 48) C dX6_hangsTogether_41 (by decide) rx2 rx1 (fun cb => ?_) (fun cb => ?_)
      · have h7 := h7 cb
        refine J_iconst (pc := 48) C dX6_hangsTogether_48 ?_
        exact J_zret (pc := 49) C dX6_hangsTogether_49 (by decide) hok h7 (by decide) (by decide)
      · have h8 := h8 cb
        refine J_iconst (pc := 44) C dX6_hangsTogether_44 ?_
        refine J_goto (pc := 45) (tgt := 49) C dX6_hangsTogether_45 (by decide) ?_
        exact J_zret (pc := 49) C dX6_hangsTogether_49 (by decide) hok h8 (by decide) (by decide)
    · have h6 := h6 cb
      refine J_aload_n (pc := 23) C dX6_hangsTogether_23 rfl ?_
      refine J_get (pc := 24) C dX6_hangsTogether_24 0 rfl rfl nX6_hangsTogether_X6 1 (by decide) mX6_hangsTogether_f19 rfl (v := .ref (G.2.2 2)) rfl ?_
      refine J_iload_n (pc := 27) C dX6_hangsTogether_27 rfl ?_
      refine J_iload_n (pc := 28) C dX6_hangsTogether_28 rfl ?_
      refine J_c1 (pc := 29) C (J_rV (pc := 29) C (h6 rx2 rx1) dX6_hangsTogether_29 rfl rfl 2 rfl rfl (cwV 2 C.1.2.2.2.2 gX6_hangsTogether_X3_spread rfl rfl rfl (by decide +kernel) ⟨Nat.le_of_ble_eq_true rfl, Nat.le_of_ble_eq_true rfl⟩) hok (Nat.le_of_ble_eq_true rfl) ⟨Nat.le_of_ble_eq_true rfl, Nat.le_of_ble_eq_true rfl⟩) (fun E9 S9 ok9 q9 => JX_out C ok9 q9 (by decide) (by decide)) (fun rv12 S10 hr13 hok11 h9 => ?_)
      have h9 := h9 hr13 hok11
      refine J_istore_n (pc := 32) C dX6_hangsTogether_32 (by decide) ?_
      refine J_iinc (pc := 33) C dX6_hangsTogether_33 rfl (by decide) ?_
      refine J_goto (pc := 36) (tgt := 7) C dX6_hangsTogether_36 (by decide) ?_
      obtain ⟨o14, h15⟩ := h9
      exact J_sub (L1 := [some (.ref (G.2.2 0)), some (iV x1), some (iV rv12), some (iV (x3 + 1))]) ⟨rfl, ⟨rfl, ⟨rfl, ⟨rfl, trivial⟩⟩⟩⟩ (h15 rx1 hr13 o14 p l e s m args below meth c G A C hok11)
def rmX6_hangsWithoutAnyTwo : Room := { frames := 3, cells := 0, slots := 0, locals := 69 }
theorem mX6_hangsWithoutAnyTwo_f10 : Cond.fieldLink RX6 10 "Stresswork" "joints" "LStresswork$Joints;" ∈ wsX6_hangsWithoutAnyTwo := by decide +kernel
theorem nX6_hangsWithoutAnyTwo_X6 : ∀ x ∈ wsX60, x ∈ wsX6_hangsWithoutAnyTwo := by decide +kernel
theorem mX6_hangsWithoutAnyTwo_f155 : Cond.fieldLink RX6 155 "Stresswork$Joints" "count" "I" ∈ wsX6_hangsWithoutAnyTwo := by decide +kernel
theorem nX6_hangsWithoutAnyTwo_X1 : ∀ x ∈ wsX10, x ∈ wsX6_hangsWithoutAnyTwo := by decide +kernel
def M_X6_hangsWithoutAnyTwo (S : St) (Qr : Int → St → Prop) (Qx : String → St → Prop) : Prop := MM 1 wC okC yX6_hangsWithoutAnyTwo wsX6_hangsWithoutAnyTwo rmX6_hangsWithoutAnyTwo (fun G => [.ref (G.2.2 0)]) S Qr Qx
def R_X6_hangsWithoutAnyTwo_2 (x1 : Int) (S : St) (Qr : Int → St → Prop) (Qx : String → St → Prop) : Prop := r32 x1 → RR 1 wC okC wsX6_hangsWithoutAnyTwo rmX6_hangsWithoutAnyTwo cX6_hangsWithoutAnyTwo 3 RX6 (some .boolean) [] 0 0 (fun G => [some (.ref (G.2.2 0)), some (iV x1), none]) (fun G => []) 2 S Qr Qx
def R_X6_hangsWithoutAnyTwo_17 (x1 x2 : Int) (S : St) (Qr : Int → St → Prop) (Qx : String → St → Prop) : Prop := r32 x1 → r32 x2 → RR 1 wC okC wsX6_hangsWithoutAnyTwo rmX6_hangsWithoutAnyTwo cX6_hangsWithoutAnyTwo 3 RX6 (some .boolean) [] 0 0 (fun G => [some (.ref (G.2.2 0)), some (iV x1), some (iV x2)]) (fun G => []) 17 S Qr Qx
set_option maxRecDepth 100000 in
set_option maxHeartbeats 4000000 in
theorem vc_X6_hangsWithoutAnyTwo {S : St} {Qr : Int → St → Prop} {Qx : String → St → Prop} (h : okC S → R_X6_hangsWithoutAnyTwo_2 0 S Qr Qx) : M_X6_hangsWithoutAnyTwo S Qr Qx := by
  refine MM_of adC (by decide +kernel) rfl (Lf := fun G => [some (.ref (G.2.2 0)), none, none]) (fun G => by show _ ≤ _; exact Nat.le_of_ble_eq_true rfl) (fun G => rfl) ?_
  intro p l e s m args below meth c G A C hok
  have h := h hok
  replace C : Cx wC cX6_hangsWithoutAnyTwo 3 RX6 wsX6_hangsWithoutAnyTwo (some .boolean) [] p l s m args meth c G A := C
  show J wC 3 rmX6_hangsWithoutAnyTwo p l e s m args below meth c G A (QQ 1 wC okC G Qr Qx A below args s rmX6_hangsWithoutAnyTwo.cells rmX6_hangsWithoutAnyTwo.slots) 0 0 S [some (.ref (G.2.2 0)), none, none] [] 0
  refine J_iconst (pc := 0) C dX6_hangsWithoutAnyTwo_0 ?_
  refine J_istore_n (pc := 1) C dX6_hangsWithoutAnyTwo_1 (by decide) ?_
  exact J_sub (L1 := [some (.ref (G.2.2 0)), some (iV 0), none]) ⟨rfl, ⟨rfl, trivial⟩⟩ (h (by decide) p l e s m args below meth c G A C hok)
set_option maxRecDepth 100000 in
set_option maxHeartbeats 4000000 in
theorem vc_X6_hangsWithoutAnyTwo_2 {x1 : Int} {S : St} {Qr : Int → St → Prop} {Qx : String → St → Prop} (h : r32 x1 → okC S → (((S 1 4) ≤ x1 → Qr 1 S) ∧ (x1 < (S 1 4) → (r32 (x1 + 1) ∧ R_X6_hangsWithoutAnyTwo_17 x1 (x1 + 1) S Qr Qx)))) : R_X6_hangsWithoutAnyTwo_2 x1 S Qr Qx := by
  intro rx1
  intro p l e s m args below meth c G A C hok
  have h := h rx1 hok
  replace C : Cx wC cX6_hangsWithoutAnyTwo 3 RX6 wsX6_hangsWithoutAnyTwo (some .boolean) [] p l s m args meth c G A := C
  show J wC 3 rmX6_hangsWithoutAnyTwo p l e s m args below meth c G A (QQ 1 wC okC G Qr Qx A below args s rmX6_hangsWithoutAnyTwo.cells rmX6_hangsWithoutAnyTwo.slots) 0 0 S [some (.ref (G.2.2 0)), some (iV x1), none] [] 2
  refine J_iload_n (pc := 2) C dX6_hangsWithoutAnyTwo_2 rfl ?_
  refine J_aload_n (pc := 3) C dX6_hangsWithoutAnyTwo_3 rfl ?_
  refine J_get (pc := 4) C dX6_hangsWithoutAnyTwo_4 0 rfl rfl nX6_hangsWithoutAnyTwo_X6 0 (by decide) mX6_hangsWithoutAnyTwo_f10 rfl (v := .ref (G.2.2 1)) rfl ?_
  refine J_get (pc := 7) C dX6_hangsWithoutAnyTwo_7 1 rfl rfl nX6_hangsWithoutAnyTwo_X1 4 (by decide) mX6_hangsWithoutAnyTwo_f155 rfl (v := iV (S 1 4)) rfl ?_
  obtain ⟨h1, h2⟩ := h
  refine J_icmp_ge (pc := 10) (tgt := 70) C dX6_hangsWithoutAnyTwo_10 (by decide) rx1 (hok 1 4) (fun cb => ?_) (fun cb => ?_)
  · have h1 := h1 cb
    refine J_iconst (pc := 70) C dX6_hangsWithoutAnyTwo_70 ?_
    exact J_zret (pc := 71) C dX6_hangsWithoutAnyTwo_71 (by decide) hok h1 (by decide) (by decide)
  · have h2 := h2 cb
    refine J_iload_n (pc := 13) C dX6_hangsWithoutAnyTwo_13 rfl ?_
    refine J_iconst (pc := 14) C dX6_hangsWithoutAnyTwo_14 ?_
    refine J_iadd (pc := 15) C dX6_hangsWithoutAnyTwo_15 ?_
    refine J_istore_n (pc := 16) C dX6_hangsWithoutAnyTwo_16 (by decide) ?_
    obtain ⟨o3, h4⟩ := h2
    exact J_sub (L1 := [some (.ref (G.2.2 0)), some (iV x1), some (iV (x1 + 1))]) ⟨rfl, ⟨rfl, ⟨rfl, trivial⟩⟩⟩ (h4 rx1 o3 p l e s m args below meth c G A C hok)
set_option maxRecDepth 100000 in
set_option maxHeartbeats 4000000 in
theorem vc_X6_hangsWithoutAnyTwo_17 {x1 x2 : Int} {S : St} {Qr : Int → St → Prop} {Qx : String → St → Prop} (h : r32 x1 → r32 x2 → okC S → (((S 1 4) ≤ x2 → (r32 (x1 + 1) ∧ R_X6_hangsWithoutAnyTwo_2 (x1 + 1) S Qr Qx)) ∧ (x2 < (S 1 4) → M_X1_all S (fun rv8 S6 => r32 rv8 → okC S6 → M_X6_bit x1 S6 (fun rv13 S11 => r32 rv13 → okC S11 → M_X6_bit x2 S11 (fun rv18 S16 => r32 rv18 → okC S16 → M_X6_hangsTogether (zand (zand rv8 (zxor rv13 (-1))) (zxor rv18 (-1))) S16 (fun rv23 S21 => r32 rv23 → okC S21 → ((rv23 ≠ 0 → (r32 (x2 + 1) ∧ R_X6_hangsWithoutAnyTwo_17 x1 (x2 + 1) S21 Qr Qx)) ∧ (rv23 = 0 → Qr 0 S21))) Qx) Qx) Qx) Qx))) : R_X6_hangsWithoutAnyTwo_17 x1 x2 S Qr Qx := by
  intro rx1 rx2
  intro p l e s m args below meth c G A C hok
  have h := h rx1 rx2 hok
  replace C : Cx wC cX6_hangsWithoutAnyTwo 3 RX6 wsX6_hangsWithoutAnyTwo (some .boolean) [] p l s m args meth c G A := C
  show J wC 3 rmX6_hangsWithoutAnyTwo p l e s m args below meth c G A (QQ 1 wC okC G Qr Qx A below args s rmX6_hangsWithoutAnyTwo.cells rmX6_hangsWithoutAnyTwo.slots) 0 0 S [some (.ref (G.2.2 0)), some (iV x1), some (iV x2)] [] 17
  refine J_iload_n (pc := 17) C dX6_hangsWithoutAnyTwo_17 rfl ?_
  refine J_aload_n (pc := 18) C dX6_hangsWithoutAnyTwo_18 rfl ?_
  refine J_get (pc := 19) C dX6_hangsWithoutAnyTwo_19 0 rfl rfl nX6_hangsWithoutAnyTwo_X6 0 (by decide) mX6_hangsWithoutAnyTwo_f10 rfl (v := .ref (G.2.2 1)) rfl ?_
  refine J_get (pc := 22) C dX6_hangsWithoutAnyTwo_22 1 rfl rfl nX6_hangsWithoutAnyTwo_X1 4 (by decide) mX6_hangsWithoutAnyTwo_f155 rfl (v := iV (S 1 4)) rfl ?_
  obtain ⟨h1, h2⟩ := h
  refine J_icmp_ge (pc := 25) (tgt := 64) C dX6_hangsWithoutAnyTwo_25 (by decide) rx2 (hok 1 4) (fun cb => ?_) (fun cb => ?_)
  · have h1 := h1 cb
    refine J_iinc (pc := 64) C dX6_hangsWithoutAnyTwo_64 rfl (by decide) ?_
    refine J_goto (pc := 67) (tgt := 2) C dX6_hangsWithoutAnyTwo_67 (by decide) ?_
    obtain ⟨o3, h4⟩ := h1
    exact J_sub (L1 := [some (.ref (G.2.2 0)), some (iV (x1 + 1)), none]) ⟨rfl, ⟨rfl, trivial⟩⟩ (h4 o3 p l e s m args below meth c G A C hok)
  · have h2 := h2 cb
    refine J_aload_n (pc := 28) C dX6_hangsWithoutAnyTwo_28 rfl ?_
    refine J_aload_n (pc := 29) C dX6_hangsWithoutAnyTwo_29 rfl ?_
    refine J_get (pc := 30) C dX6_hangsWithoutAnyTwo_30 0 rfl rfl nX6_hangsWithoutAnyTwo_X6 0 (by decide) mX6_hangsWithoutAnyTwo_f10 rfl (v := .ref (G.2.2 1)) rfl ?_
    refine J_c1 (pc := 33) C (J_rV (pc := 33) C h2 dX6_hangsWithoutAnyTwo_33 rfl rfl 1 rfl rfl (cwV 0 C.1.2.2.2.2 gX6_hangsWithoutAnyTwo_X1_all rfl rfl rfl (by decide +kernel) ⟨Nat.le_of_ble_eq_true rfl, Nat.le_of_ble_eq_true rfl⟩) hok (Nat.le_of_ble_eq_true rfl) ⟨Nat.le_of_ble_eq_true rfl, Nat.le_of_ble_eq_true rfl⟩) (fun E9 S9 ok9 q9 => JX_out C ok9 q9 (by decide) (by decide)) (fun rv8 S6 hr9 hok7 h5 => ?_)
    have h5 := h5 hr9 hok7
    refine J_iload_n (pc := 36) C dX6_hangsWithoutAnyTwo_36 rfl ?_
    refine J_c1 (pc := 37) C (J_rS (pc := 37) C (h5 rx1) dX6_hangsWithoutAnyTwo_37 rfl rfl (va_cwS 1 C.1.2.2.2.2 gX6_hangsWithoutAnyTwo_X6_bit rfl rfl rfl (by decide +kernel) ⟨Nat.le_of_ble_eq_true rfl, Nat.le_of_ble_eq_true rfl⟩) hok7 (Nat.le_of_ble_eq_true rfl) ⟨Nat.le_of_ble_eq_true rfl, Nat.le_of_ble_eq_true rfl⟩) (fun E9 S9 ok9 q9 => JX_out C ok9 q9 (by decide) (by decide)) (fun rv13 S11 hr14 hok12 h10 => ?_)
    have h10 := h10 hr14 hok12
    refine J_iconst (pc := 40) C dX6_hangsWithoutAnyTwo_40 ?_
    refine J_ixor (pc := 41) C dX6_hangsWithoutAnyTwo_41 ?_
    refine J_iand (pc := 42) C dX6_hangsWithoutAnyTwo_42 ?_
    refine J_iload_n (pc := 43) C dX6_hangsWithoutAnyTwo_43 rfl ?_
    refine J_c1 (pc := 44) C (J_rS (pc := 44) C (h10 rx2) dX6_hangsWithoutAnyTwo_44 rfl rfl (va_cwS 1 C.1.2.2.2.2 gX6_hangsWithoutAnyTwo_X6_bit rfl rfl rfl (by decide +kernel) ⟨Nat.le_of_ble_eq_true rfl, Nat.le_of_ble_eq_true rfl⟩) hok12 (Nat.le_of_ble_eq_true rfl) ⟨Nat.le_of_ble_eq_true rfl, Nat.le_of_ble_eq_true rfl⟩) (fun E9 S9 ok9 q9 => JX_out C ok9 q9 (by decide) (by decide)) (fun rv18 S16 hr19 hok17 h15 => ?_)
    have h15 := h15 hr19 hok17
    refine J_iconst (pc := 47) C dX6_hangsWithoutAnyTwo_47 ?_
    refine J_ixor (pc := 48) C dX6_hangsWithoutAnyTwo_48 ?_
    refine J_iand (pc := 49) C dX6_hangsWithoutAnyTwo_49 ?_
    refine J_c1 (pc := 50) C (J_rV (pc := 50) C (h15 (r_zand _ _)) dX6_hangsWithoutAnyTwo_50 rfl rfl 0 rfl rfl (cwV 1 C.1.2.2.2.2 gX6_hangsWithoutAnyTwo_X6_hangsTogether rfl rfl rfl (by decide +kernel) ⟨Nat.le_of_ble_eq_true rfl, Nat.le_of_ble_eq_true rfl⟩) hok17 (Nat.le_of_ble_eq_true rfl) ⟨Nat.le_of_ble_eq_true rfl, Nat.le_of_ble_eq_true rfl⟩) (fun E9 S9 ok9 q9 => JX_out C ok9 q9 (by decide) (by decide)) (fun rv23 S21 hr24 hok22 h20 => ?_)
    have h20 := h20 hr24 hok22
    obtain ⟨h25, h26⟩ := h20
    refine J_if_ne (pc := 53) (tgt := 58) C dX6_hangsWithoutAnyTwo_53 (by decide) hr24 (fun cb => ?_) (fun cb => ?_)
    · have h25 := h25 cb
      refine J_iinc (pc := 58) C dX6_hangsWithoutAnyTwo_58 rfl (by decide) ?_
      refine J_goto (pc := 61) (tgt := 17) C dX6_hangsWithoutAnyTwo_61 (by decide) ?_
      obtain ⟨o27, h28⟩ := h25
      exact J_sub (L1 := [some (.ref (G.2.2 0)), some (iV x1), some (iV (x2 + 1))]) ⟨rfl, ⟨rfl, ⟨rfl, trivial⟩⟩⟩ (h28 rx1 o27 p l e s m args below meth c G A C hok22)
    · have h26 := h26 cb
      refine J_iconst (pc := 56) C dX6_hangsWithoutAnyTwo_56 ?_
      exact J_zret (pc := 57) C dX6_hangsWithoutAnyTwo_57 (by decide) hok22 h26 (by decide) (by decide)
def rmX6_isBalanced : Room := { frames := 1, cells := 0, slots := 0, locals := 22 }
theorem mX6_isBalanced_f19 : Cond.fieldLink RX6 19 "Stresswork" "members" "LStresswork$Members;" ∈ wsX6_isBalanced := by decide +kernel
theorem nX6_isBalanced_X6 : ∀ x ∈ wsX60, x ∈ wsX6_isBalanced := by decide +kernel
theorem mX6_isBalanced_f235 : Cond.fieldLink RX6 235 "Stresswork$Members" "count" "I" ∈ wsX6_isBalanced := by decide +kernel
theorem nX6_isBalanced_X3 : ∀ x ∈ wsX30, x ∈ wsX6_isBalanced := by decide +kernel
theorem mX6_isBalanced_f168 : Cond.fieldLink RX6 168 "Stresswork$Members" "from" "[I" ∈ wsX6_isBalanced := by decide +kernel
theorem mX6_isBalanced_f229 : Cond.fieldLink RX6 229 "Stresswork$Members" "told" "[I" ∈ wsX6_isBalanced := by decide +kernel
theorem mX6_isBalanced_f10 : Cond.fieldLink RX6 10 "Stresswork" "joints" "LStresswork$Joints;" ∈ wsX6_isBalanced := by decide +kernel
theorem mX6_isBalanced_f70 : Cond.fieldLink RX6 70 "Stresswork$Joints" "x" "[I" ∈ wsX6_isBalanced := by decide +kernel
theorem nX6_isBalanced_X1 : ∀ x ∈ wsX10, x ∈ wsX6_isBalanced := by decide +kernel
theorem mX6_isBalanced_f74 : Cond.fieldLink RX6 74 "Stresswork$Joints" "y" "[I" ∈ wsX6_isBalanced := by decide +kernel
theorem mX6_isBalanced_f171 : Cond.fieldLink RX6 171 "Stresswork$Members" "to" "[I" ∈ wsX6_isBalanced := by decide +kernel
def M_X6_isBalanced (a0 : Int) (S : St) (Qr : Int → St → Prop) (Qx : String → St → Prop) : Prop := r32 a0 → MM 1 wC okC yX6_isBalanced wsX6_isBalanced rmX6_isBalanced (fun G => [.ref (G.2.2 0), iV a0]) S Qr Qx
def R_X6_isBalanced_7 (x1 x2 x3 x4 : Int) (S : St) (Qr : Int → St → Prop) (Qx : String → St → Prop) : Prop := r32 x1 → r32 x2 → r32 x3 → r32 x4 → RR 1 wC okC wsX6_isBalanced rmX6_isBalanced cX6_isBalanced 6 RX6 (some .boolean) [] 0 0 (fun G => [some (.ref (G.2.2 0)), some (iV x1), some (iV x2), some (iV x3), some (iV x4), none]) (fun G => []) 7 S Qr Qx
set_option maxRecDepth 100000 in
set_option maxHeartbeats 4000000 in
theorem vc_X6_isBalanced {a0 : Int} {S : St} {Qr : Int → St → Prop} {Qx : String → St → Prop} (h : r32 a0 → okC S → R_X6_isBalanced_7 a0 0 0 0 S Qr Qx) : M_X6_isBalanced a0 S Qr Qx := by
  intro ra0
  refine MM_of adC (by decide +kernel) rfl (Lf := fun G => [some (.ref (G.2.2 0)), some (iV a0), none, none, none, none]) (fun G => by show _ ≤ _; exact Nat.le_of_ble_eq_true rfl) (fun G => rfl) ?_
  intro p l e s m args below meth c G A C hok
  have h := h ra0 hok
  replace C : Cx wC cX6_isBalanced 6 RX6 wsX6_isBalanced (some .boolean) [] p l s m args meth c G A := C
  show J wC 6 rmX6_isBalanced p l e s m args below meth c G A (QQ 1 wC okC G Qr Qx A below args s rmX6_isBalanced.cells rmX6_isBalanced.slots) 0 0 S [some (.ref (G.2.2 0)), some (iV a0), none, none, none, none] [] 0
  refine J_iconst (pc := 0) C dX6_isBalanced_0 ?_
  refine J_istore_n (pc := 1) C dX6_isBalanced_1 (by decide) ?_
  refine J_iconst (pc := 2) C dX6_isBalanced_2 ?_
  refine J_istore_n (pc := 3) C dX6_isBalanced_3 (by decide) ?_
  refine J_iconst (pc := 4) C dX6_isBalanced_4 ?_
  refine J_istore (pc := 5) C dX6_isBalanced_5 (by decide) ?_
  exact J_sub (L1 := [some (.ref (G.2.2 0)), some (iV a0), some (iV 0), some (iV 0), some (iV 0), none]) ⟨rfl, ⟨rfl, ⟨rfl, ⟨rfl, ⟨rfl, trivial⟩⟩⟩⟩⟩ (h ra0 (by decide) (by decide) (by decide) p l e s m args below meth c G A C hok)
set_option maxRecDepth 100000 in
set_option maxHeartbeats 4000000 in
theorem vc_X6_isBalanced_7 {x1 x2 x3 x4 : Int} {S : St} {Qr : Int → St → Prop} {Qx : String → St → Prop} (h : r32 x1 → r32 x2 → r32 x3 → r32 x4 → okC S → (((S 2 5) ≤ x4 → ((x2 ≠ 0 → Qr 0 S) ∧ (x2 = 0 → ((x3 ≠ 0 → Qr 0 S) ∧ (x3 = 0 → Qr 1 S))))) ∧ (x4 < (S 2 5) → M_X3_has x4 S (fun rv10 S8 => r32 rv10 → okC S8 → ((rv10 = 0 → (r32 (x4 + 1) ∧ R_X6_isBalanced_7 x1 x2 x3 (x4 + 1) S8 Qr Qx)) ∧ (rv10 ≠ 0 → M_X3_endsAt x4 x1 S8 (fun rv19 S17 => r32 rv19 → okC S17 → ((rv19 = 0 → (r32 (x4 + 1) ∧ R_X6_isBalanced_7 x1 x2 x3 (x4 + 1) S17 Qr Qx)) ∧ (rv19 ≠ 0 → (ix x4 40 ∧ (((S17 11 x4) ≠ x1 → (ix (S17 11 x4) 10 ∧ (ix x1 10 ∧ (r32 (x2 + ((S17 14 x4) * ((S17 7 (S17 11 x4)) - (S17 7 x1)))) ∧ (r32 (x3 + ((S17 14 x4) * ((S17 8 (S17 11 x4)) - (S17 8 x1)))) ∧ (r32 (x4 + 1) ∧ R_X6_isBalanced_7 x1 (x2 + ((S17 14 x4) * ((S17 7 (S17 11 x4)) - (S17 7 x1)))) (x3 + ((S17 14 x4) * ((S17 8 (S17 11 x4)) - (S17 8 x1)))) (x4 + 1) S17 Qr Qx)))))) ∧ ((S17 11 x4) = x1 → (ix (S17 12 x4) 10 ∧ (ix x1 10 ∧ (r32 (x2 + ((S17 14 x4) * ((S17 7 (S17 12 x4)) - (S17 7 x1)))) ∧ (r32 (x3 + ((S17 14 x4) * ((S17 8 (S17 12 x4)) - (S17 8 x1)))) ∧ (r32 (x4 + 1) ∧ R_X6_isBalanced_7 x1 (x2 + ((S17 14 x4) * ((S17 7 (S17 12 x4)) - (S17 7 x1)))) (x3 + ((S17 14 x4) * ((S17 8 (S17 12 x4)) - (S17 8 x1)))) (x4 + 1) S17 Qr Qx))))))))))) Qx))) Qx))) : R_X6_isBalanced_7 x1 x2 x3 x4 S Qr Qx := by
  intro rx1 rx2 rx3 rx4
  intro p l e s m args below meth c G A C hok
  have h := h rx1 rx2 rx3 rx4 hok
  replace C : Cx wC cX6_isBalanced 6 RX6 wsX6_isBalanced (some .boolean) [] p l s m args meth c G A := C
  show J wC 6 rmX6_isBalanced p l e s m args below meth c G A (QQ 1 wC okC G Qr Qx A below args s rmX6_isBalanced.cells rmX6_isBalanced.slots) 0 0 S [some (.ref (G.2.2 0)), some (iV x1), some (iV x2), some (iV x3), some (iV x4), none] [] 7
  refine J_iload (pc := 7) C dX6_isBalanced_7 rfl ?_
  refine J_aload_n (pc := 9) C dX6_isBalanced_9 rfl ?_
  refine J_get (pc := 10) C dX6_isBalanced_10 0 rfl rfl nX6_isBalanced_X6 1 (by decide) mX6_isBalanced_f19 rfl (v := .ref (G.2.2 2)) rfl ?_
  refine J_get (pc := 13) C dX6_isBalanced_13 2 rfl rfl nX6_isBalanced_X3 5 (by decide) mX6_isBalanced_f235 rfl (v := iV (S 2 5)) rfl ?_
  obtain ⟨h1, h2⟩ := h
  refine J_icmp_ge (pc := 16) (tgt := 157) C dX6_isBalanced_16 (by decide) rx4 (hok 2 5) (fun cb => ?_) (fun cb => ?_)
  · have h1 := h1 cb
    refine J_iload_n (pc := 157) C dX6_isBalanced_157 rfl ?_
    obtain ⟨h3, h4⟩ := h1
    refine J_if_ne (pc := 158) (tgt := 169) C dX6_isBalanced_158 (by decide) rx2 (fun cb => ?_) (fun cb => ?_)
    · have h3 := h3 cb
      refine J_iconst (pc := 169) C dX6_isBalanced_169 ?_
      exact J_zret (pc := 170) C dX6_isBalanced_170 (by decide) hok h3 (by decide) (by decide)
    · have h4 := h4 cb
      refine J_iload_n (pc := 161) C dX6_isBalanced_161 rfl ?_
      obtain ⟨h5, h6⟩ := h4
      refine J_if_ne (pc := 162) (tgt := 169) C dX6_isBalanced_162 (by decide) rx3 (fun cb => ?_) (fun cb => ?_)
      · have h5 := h5 cb
        refine J_iconst (pc := 169) C dX6_isBalanced_169 ?_
        exact J_zret (pc := 170) C dX6_isBalanced_170 (by decide) hok h5 (by decide) (by decide)
      · have h6 := h6 cb
        refine J_iconst (pc := 165) C dX6_isBalanced_165 ?_
        refine J_goto (pc := 166) (tgt := 170) C dX6_isBalanced_166 (by decide) ?_
        exact J_zret (pc := 170) C dX6_isBalanced_170 (by decide) hok h6 (by decide) (by decide)
  · have h2 := h2 cb
    refine J_aload_n (pc := 19) C dX6_isBalanced_19 rfl ?_
    refine J_get (pc := 20) C dX6_isBalanced_20 0 rfl rfl nX6_isBalanced_X6 1 (by decide) mX6_isBalanced_f19 rfl (v := .ref (G.2.2 2)) rfl ?_
    refine J_iload (pc := 23) C dX6_isBalanced_23 rfl ?_
    refine J_c1 (pc := 25) C (J_rV (pc := 25) C (h2 rx4) dX6_isBalanced_25 rfl rfl 2 rfl rfl (cwV 1 C.1.2.2.2.2 gX6_isBalanced_X3_has rfl rfl rfl (by decide +kernel) ⟨Nat.le_of_ble_eq_true rfl, Nat.le_of_ble_eq_true rfl⟩) hok (Nat.le_of_ble_eq_true rfl) ⟨Nat.le_of_ble_eq_true rfl, Nat.le_of_ble_eq_true rfl⟩) (fun E9 S9 ok9 q9 => JX_out C ok9 q9 (by decide) (by decide)) (fun rv10 S8 hr11 hok9 h7 => ?_)
    have h7 := h7 hr11 hok9
    obtain ⟨h12, h13⟩ := h7
    refine J_if_eq (pc := 28) (tgt := 151) C dX6_isBalanced_28 (by decide) hr11 (fun cb => ?_) (fun cb => ?_)
    · have h12 := h12 cb
      refine J_iinc (pc := 151) C dX6_isBalanced_151 rfl (by decide) ?_
      refine J_goto (pc := 154) (tgt := 7) C dX6_isBalanced_154 (by decide) ?_
      obtain ⟨o14, h15⟩ := h12
      exact J_sub (L1 := [some (.ref (G.2.2 0)), some (iV x1), some (iV x2), some (iV x3), some (iV (x4 + 1)), none]) ⟨rfl, ⟨rfl, ⟨rfl, ⟨rfl, ⟨rfl, trivial⟩⟩⟩⟩⟩ (h15 rx1 rx2 rx3 o14 p l e s m args below meth c G A C hok9)
    · have h13 := h13 cb
      refine J_aload_n (pc := 31) C dX6_isBalanced_31 rfl ?_
      refine J_get (pc := 32) C dX6_isBalanced_32 0 rfl rfl nX6_isBalanced_X6 1 (by decide) mX6_isBalanced_f19 rfl (v := .ref (G.2.2 2)) rfl ?_
      refine J_iload (pc := 35) C dX6_isBalanced_35 rfl ?_
      refine J_iload_n (pc := 37) C dX6_isBalanced_37 rfl ?_
      refine J_c1 (pc := 38) C (J_rV (pc := 38) C (h13 rx4 rx1) dX6_isBalanced_38 rfl rfl 2 rfl rfl (cwV 2 C.1.2.2.2.2 gX6_isBalanced_X3_endsAt rfl rfl rfl (by decide +kernel) ⟨Nat.le_of_ble_eq_true rfl, Nat.le_of_ble_eq_true rfl⟩) hok9 (Nat.le_of_ble_eq_true rfl) ⟨Nat.le_of_ble_eq_true rfl, Nat.le_of_ble_eq_true rfl⟩) (fun E9 S9 ok9 q9 => JX_out C ok9 q9 (by decide) (by decide)) (fun rv19 S17 hr20 hok18 h16 => ?_)
      have h16 := h16 hr20 hok18
      obtain ⟨h21, h22⟩ := h16
      refine J_if_eq (pc := 41) (tgt := 151) C dX6_isBalanced_41 (by decide) hr20 (fun cb => ?_) (fun cb => ?_)
      · have h21 := h21 cb
        refine J_iinc (pc := 151) C dX6_isBalanced_151 rfl (by decide) ?_
        refine J_goto (pc := 154) (tgt := 7) C dX6_isBalanced_154 (by decide) ?_
        obtain ⟨o23, h24⟩ := h21
        exact J_sub (L1 := [some (.ref (G.2.2 0)), some (iV x1), some (iV x2), some (iV x3), some (iV (x4 + 1)), none]) ⟨rfl, ⟨rfl, ⟨rfl, ⟨rfl, ⟨rfl, trivial⟩⟩⟩⟩⟩ (h24 rx1 rx2 rx3 o23 p l e s m args below meth c G A C hok18)
      · have h22 := h22 cb
        refine J_aload_n (pc := 44) C dX6_isBalanced_44 rfl ?_
        refine J_get (pc := 45) C dX6_isBalanced_45 0 rfl rfl nX6_isBalanced_X6 1 (by decide) mX6_isBalanced_f19 rfl (v := .ref (G.2.2 2)) rfl ?_
        refine J_get (pc := 48) C dX6_isBalanced_48 2 rfl rfl nX6_isBalanced_X3 0 (by decide) mX6_isBalanced_f168 rfl (v := .ref (G.2.2 11)) rfl ?_
        refine J_iload (pc := 51) C dX6_isBalanced_51 rfl ?_
        obtain ⟨o25, h26⟩ := h22
        refine J_iald (pc := 53) C dX6_isBalanced_53 11 11 rfl (by decide) o25 ?_
        refine J_iload_n (pc := 54) C dX6_isBalanced_54 rfl ?_
        obtain ⟨h27, h28⟩ := h26
        refine J_icmp_ne (pc := 55) (tgt := 71) C dX6_isBalanced_55 (by decide) (hok18 11 x4) rx1 (fun cb => ?_) (fun cb => ?_)
        · have h27 := h27 cb
          refine J_aload_n (pc := 71) C dX6_isBalanced_71 rfl ?_
          refine J_get (pc := 72) C dX6_isBalanced_72 0 rfl rfl nX6_isBalanced_X6 1 (by decide) mX6_isBalanced_f19 rfl (v := .ref (G.2.2 2)) rfl ?_
          refine J_get (pc := 75) C dX6_isBalanced_75 2 rfl rfl nX6_isBalanced_X3 0 (by decide) mX6_isBalanced_f168 rfl (v := .ref (G.2.2 11)) rfl ?_
          refine J_iload (pc := 78) C dX6_isBalanced_78 rfl ?_
          refine J_iald (pc := 80) C dX6_isBalanced_80 11 11 rfl (by decide) o25 ?_
          refine J_istore (pc := 81) C dX6_isBalanced_81 (by decide) ?_
          refine J_iload_n (pc := 83) C dX6_isBalanced_83 rfl ?_
          refine J_aload_n (pc := 84) C dX6_isBalanced_84 rfl ?_
          refine J_get (pc := 85) C dX6_isBalanced_85 0 rfl rfl nX6_isBalanced_X6 1 (by decide) mX6_isBalanced_f19 rfl (v := .ref (G.2.2 2)) rfl ?_
          refine J_get (pc := 88) C dX6_isBalanced_88 2 rfl rfl nX6_isBalanced_X3 3 (by decide) mX6_isBalanced_f229 rfl (v := .ref (G.2.2 14)) rfl ?_
          refine J_iload (pc := 91) C dX6_isBalanced_91 rfl ?_
          refine J_iald (pc := 93) C dX6_isBalanced_93 14 14 rfl (by decide) o25 ?_
          refine J_aload_n (pc := 94) C dX6_isBalanced_94 rfl ?_
          refine J_get (pc := 95) C dX6_isBalanced_95 0 rfl rfl nX6_isBalanced_X6 0 (by decide) mX6_isBalanced_f10 rfl (v := .ref (G.2.2 1)) rfl ?_
          refine J_get (pc := 98) C dX6_isBalanced_98 1 rfl rfl nX6_isBalanced_X1 0 (by decide) mX6_isBalanced_f70 rfl (v := .ref (G.2.2 7)) rfl ?_
          refine J_iload (pc := 101) C dX6_isBalanced_101 rfl ?_
          obtain ⟨o29, h30⟩ := h27
          refine J_iald (pc := 103) C dX6_isBalanced_103 7 7 rfl (by decide) o29 ?_
          refine J_aload_n (pc := 104) C dX6_isBalanced_104 rfl ?_
          refine J_get (pc := 105) C dX6_isBalanced_105 0 rfl rfl nX6_isBalanced_X6 0 (by decide) mX6_isBalanced_f10 rfl (v := .ref (G.2.2 1)) rfl ?_
          refine J_get (pc := 108) C dX6_isBalanced_108 1 rfl rfl nX6_isBalanced_X1 0 (by decide) mX6_isBalanced_f70 rfl (v := .ref (G.2.2 7)) rfl ?_
          refine J_iload_n (pc := 111) C dX6_isBalanced_111 rfl ?_
          obtain ⟨o31, h32⟩ := h30
          refine J_iald (pc := 112) C dX6_isBalanced_112 7 7 rfl (by decide) o31 ?_
          refine J_isub (pc := 113) C dX6_isBalanced_113 ?_
          refine J_imul (pc := 114) C dX6_isBalanced_114 ?_
          refine J_iadd (pc := 115) C dX6_isBalanced_115 ?_
          refine J_istore_n (pc := 116) C dX6_isBalanced_116 (by decide) ?_
          refine J_iload_n (pc := 117) C dX6_isBalanced_117 rfl ?_
          refine J_aload_n (pc := 118) C dX6_isBalanced_118 rfl ?_
          refine J_get (pc := 119) C dX6_isBalanced_119 0 rfl rfl nX6_isBalanced_X6 1 (by decide) mX6_isBalanced_f19 rfl (v := .ref (G.2.2 2)) rfl ?_
          refine J_get (pc := 122) C dX6_isBalanced_122 2 rfl rfl nX6_isBalanced_X3 3 (by decide) mX6_isBalanced_f229 rfl (v := .ref (G.2.2 14)) rfl ?_
          refine J_iload (pc := 125) C dX6_isBalanced_125 rfl ?_
          refine J_iald (pc := 127) C dX6_isBalanced_127 14 14 rfl (by decide) o25 ?_
          refine J_aload_n (pc := 128) C dX6_isBalanced_128 rfl ?_
          refine J_get (pc := 129) C dX6_isBalanced_129 0 rfl rfl nX6_isBalanced_X6 0 (by decide) mX6_isBalanced_f10 rfl (v := .ref (G.2.2 1)) rfl ?_
          refine J_get (pc := 132) C dX6_isBalanced_132 1 rfl rfl nX6_isBalanced_X1 1 (by decide) mX6_isBalanced_f74 rfl (v := .ref (G.2.2 8)) rfl ?_
          refine J_iload (pc := 135) C dX6_isBalanced_135 rfl ?_
          refine J_iald (pc := 137) C dX6_isBalanced_137 8 8 rfl (by decide) o29 ?_
          refine J_aload_n (pc := 138) C dX6_isBalanced_138 rfl ?_
          refine J_get (pc := 139) C dX6_isBalanced_139 0 rfl rfl nX6_isBalanced_X6 0 (by decide) mX6_isBalanced_f10 rfl (v := .ref (G.2.2 1)) rfl ?_
          refine J_get (pc := 142) C dX6_isBalanced_142 1 rfl rfl nX6_isBalanced_X1 1 (by decide) mX6_isBalanced_f74 rfl (v := .ref (G.2.2 8)) rfl ?_
          refine J_iload_n (pc := 145) C dX6_isBalanced_145 rfl ?_
          refine J_iald (pc := 146) C dX6_isBalanced_146 8 8 rfl (by decide) o31 ?_
          refine J_isub (pc := 147) C dX6_isBalanced_147 ?_
          refine J_imul (pc := 148) C dX6_isBalanced_148 ?_
          refine J_iadd (pc := 149) C dX6_isBalanced_149 ?_
          refine J_istore_n (pc := 150) C dX6_isBalanced_150 (by decide) ?_
          refine J_iinc (pc := 151) C dX6_isBalanced_151 rfl (by decide) ?_
          refine J_goto (pc := 154) (tgt := 7) C dX6_isBalanced_154 (by decide) ?_
          obtain ⟨o33, h34⟩ := h32
          obtain ⟨o35, h36⟩ := h34
          obtain ⟨o37, h38⟩ := h36
          exact J_sub (L1 := [some (.ref (G.2.2 0)), some (iV x1), some (iV (x2 + ((S17 14 x4) * ((S17 7 (S17 11 x4)) - (S17 7 x1))))), some (iV (x3 + ((S17 14 x4) * ((S17 8 (S17 11 x4)) - (S17 8 x1))))), some (iV (x4 + 1)), none]) ⟨rfl, ⟨rfl, ⟨rfl, ⟨rfl, ⟨rfl, trivial⟩⟩⟩⟩⟩ (h38 rx1 o33 o35 o37 p l e s m args below meth c G A C hok18)
        · have h28 := h28 cb
          refine J_aload_n (pc := 58) C dX6_isBalanced_58 rfl ?_
          refine J_get (pc := 59) C dX6_isBalanced_59 0 rfl rfl nX6_isBalanced_X6 1 (by decide) mX6_isBalanced_f19 rfl (v := .ref (G.2.2 2)) rfl ?_
          refine J_get (pc := 62) C dX6_isBalanced_62 2 rfl rfl nX6_isBalanced_X3 1 (by decide) mX6_isBalanced_f171 rfl (v := .ref (G.2.2 12)) rfl ?_
          refine J_iload (pc := 65) C dX6_isBalanced_65 rfl ?_
          refine J_iald (pc := 67) C dX6_isBalanced_67 12 12 rfl (by decide) o25 ?_
          refine J_goto (pc := 68) (tgt := 81) C dX6_isBalanced_68 (by decide) ?_
          refine J_istore (pc := 81) C dX6_isBalanced_81 (by decide) ?_
          refine J_iload_n (pc := 83) C dX6_isBalanced_83 rfl ?_
          refine J_aload_n (pc := 84) C dX6_isBalanced_84 rfl ?_
          refine J_get (pc := 85) C dX6_isBalanced_85 0 rfl rfl nX6_isBalanced_X6 1 (by decide) mX6_isBalanced_f19 rfl (v := .ref (G.2.2 2)) rfl ?_
          refine J_get (pc := 88) C dX6_isBalanced_88 2 rfl rfl nX6_isBalanced_X3 3 (by decide) mX6_isBalanced_f229 rfl (v := .ref (G.2.2 14)) rfl ?_
          refine J_iload (pc := 91) C dX6_isBalanced_91 rfl ?_
          refine J_iald (pc := 93) C dX6_isBalanced_93 14 14 rfl (by decide) o25 ?_
          refine J_aload_n (pc := 94) C dX6_isBalanced_94 rfl ?_
          refine J_get (pc := 95) C dX6_isBalanced_95 0 rfl rfl nX6_isBalanced_X6 0 (by decide) mX6_isBalanced_f10 rfl (v := .ref (G.2.2 1)) rfl ?_
          refine J_get (pc := 98) C dX6_isBalanced_98 1 rfl rfl nX6_isBalanced_X1 0 (by decide) mX6_isBalanced_f70 rfl (v := .ref (G.2.2 7)) rfl ?_
          refine J_iload (pc := 101) C dX6_isBalanced_101 rfl ?_
          obtain ⟨o39, h40⟩ := h28
          refine J_iald (pc := 103) C dX6_isBalanced_103 7 7 rfl (by decide) o39 ?_
          refine J_aload_n (pc := 104) C dX6_isBalanced_104 rfl ?_
          refine J_get (pc := 105) C dX6_isBalanced_105 0 rfl rfl nX6_isBalanced_X6 0 (by decide) mX6_isBalanced_f10 rfl (v := .ref (G.2.2 1)) rfl ?_
          refine J_get (pc := 108) C dX6_isBalanced_108 1 rfl rfl nX6_isBalanced_X1 0 (by decide) mX6_isBalanced_f70 rfl (v := .ref (G.2.2 7)) rfl ?_
          refine J_iload_n (pc := 111) C dX6_isBalanced_111 rfl ?_
          obtain ⟨o41, h42⟩ := h40
          refine J_iald (pc := 112) C dX6_isBalanced_112 7 7 rfl (by decide) o41 ?_
          refine J_isub (pc := 113) C dX6_isBalanced_113 ?_
          refine J_imul (pc := 114) C dX6_isBalanced_114 ?_
          refine J_iadd (pc := 115) C dX6_isBalanced_115 ?_
          refine J_istore_n (pc := 116) C dX6_isBalanced_116 (by decide) ?_
          refine J_iload_n (pc := 117) C dX6_isBalanced_117 rfl ?_
          refine J_aload_n (pc := 118) C dX6_isBalanced_118 rfl ?_
          refine J_get (pc := 119) C dX6_isBalanced_119 0 rfl rfl nX6_isBalanced_X6 1 (by decide) mX6_isBalanced_f19 rfl (v := .ref (G.2.2 2)) rfl ?_
          refine J_get (pc := 122) C dX6_isBalanced_122 2 rfl rfl nX6_isBalanced_X3 3 (by decide) mX6_isBalanced_f229 rfl (v := .ref (G.2.2 14)) rfl ?_
          refine J_iload (pc := 125) C dX6_isBalanced_125 rfl ?_
          refine J_iald (pc := 127) C dX6_isBalanced_127 14 14 rfl (by decide) o25 ?_
          refine J_aload_n (pc := 128) C dX6_isBalanced_128 rfl ?_
          refine J_get (pc := 129) C dX6_isBalanced_129 0 rfl rfl nX6_isBalanced_X6 0 (by decide) mX6_isBalanced_f10 rfl (v := .ref (G.2.2 1)) rfl ?_
          refine J_get (pc := 132) C dX6_isBalanced_132 1 rfl rfl nX6_isBalanced_X1 1 (by decide) mX6_isBalanced_f74 rfl (v := .ref (G.2.2 8)) rfl ?_
          refine J_iload (pc := 135) C dX6_isBalanced_135 rfl ?_
          refine J_iald (pc := 137) C dX6_isBalanced_137 8 8 rfl (by decide) o39 ?_
          refine J_aload_n (pc := 138) C dX6_isBalanced_138 rfl ?_
          refine J_get (pc := 139) C dX6_isBalanced_139 0 rfl rfl nX6_isBalanced_X6 0 (by decide) mX6_isBalanced_f10 rfl (v := .ref (G.2.2 1)) rfl ?_
          refine J_get (pc := 142) C dX6_isBalanced_142 1 rfl rfl nX6_isBalanced_X1 1 (by decide) mX6_isBalanced_f74 rfl (v := .ref (G.2.2 8)) rfl ?_
          refine J_iload_n (pc := 145) C dX6_isBalanced_145 rfl ?_
          refine J_iald (pc := 146) C dX6_isBalanced_146 8 8 rfl (by decide) o41 ?_
          refine J_isub (pc := 147) C dX6_isBalanced_147 ?_
          refine J_imul (pc := 148) C dX6_isBalanced_148 ?_
          refine J_iadd (pc := 149) C dX6_isBalanced_149 ?_
          refine J_istore_n (pc := 150) C dX6_isBalanced_150 (by decide) ?_
          refine J_iinc (pc := 151) C dX6_isBalanced_151 rfl (by decide) ?_
          refine J_goto (pc := 154) (tgt := 7) C dX6_isBalanced_154 (by decide) ?_
          obtain ⟨o43, h44⟩ := h42
          obtain ⟨o45, h46⟩ := h44
          obtain ⟨o47, h48⟩ := h46
          exact J_sub (L1 := [some (.ref (G.2.2 0)), some (iV x1), some (iV (x2 + ((S17 14 x4) * ((S17 7 (S17 12 x4)) - (S17 7 x1))))), some (iV (x3 + ((S17 14 x4) * ((S17 8 (S17 12 x4)) - (S17 8 x1))))), some (iV (x4 + 1)), none]) ⟨rfl, ⟨rfl, ⟨rfl, ⟨rfl, ⟨rfl, trivial⟩⟩⟩⟩⟩ (h48 rx1 o43 o45 o47 p l e s m args below meth c G A C hok18)
def rmX6_isComplete : Room := { frames := 3, cells := 0, slots := 0, locals := 64 }
theorem mX6_isComplete_f19 : Cond.fieldLink RX6 19 "Stresswork" "members" "LStresswork$Members;" ∈ wsX6_isComplete := by decide +kernel
theorem nX6_isComplete_X6 : ∀ x ∈ wsX60, x ∈ wsX6_isComplete := by decide +kernel
theorem mX6_isComplete_f10 : Cond.fieldLink RX6 10 "Stresswork" "joints" "LStresswork$Joints;" ∈ wsX6_isComplete := by decide +kernel
theorem mX6_isComplete_f155 : Cond.fieldLink RX6 155 "Stresswork$Joints" "count" "I" ∈ wsX6_isComplete := by decide +kernel
theorem nX6_isComplete_X1 : ∀ x ∈ wsX10, x ∈ wsX6_isComplete := by decide +kernel
def M_X6_isComplete (S : St) (Qr : Int → St → Prop) (Qx : String → St → Prop) : Prop := MM 1 wC okC yX6_isComplete wsX6_isComplete rmX6_isComplete (fun G => [.ref (G.2.2 0)]) S Qr Qx
set_option maxRecDepth 100000 in
set_option maxHeartbeats 4000000 in
theorem vc_X6_isComplete {S : St} {Qr : Int → St → Prop} {Qx : String → St → Prop} (h : okC S → M_X3_present S (fun rv4 S2 => r32 rv4 → okC S2 → (r32 ((S2 1 4) * ((S2 1 4) - 1)) ∧ (r32 (Int.tdiv ((S2 1 4) * ((S2 1 4) - 1)) 2) ∧ ((rv4 ≠ (Int.tdiv ((S2 1 4) * ((S2 1 4) - 1)) 2) → Qr 0 S2) ∧ (rv4 = (Int.tdiv ((S2 1 4) * ((S2 1 4) - 1)) 2) → Qr 1 S2))))) Qx) : M_X6_isComplete S Qr Qx := by
  refine MM_of adC (by decide +kernel) rfl (Lf := fun G => [some (.ref (G.2.2 0))]) (fun G => by show _ ≤ _; exact Nat.le_of_ble_eq_true rfl) (fun G => rfl) ?_
  intro p l e s m args below meth c G A C hok
  have h := h hok
  replace C : Cx wC cX6_isComplete 1 RX6 wsX6_isComplete (some .boolean) [] p l s m args meth c G A := C
  show J wC 1 rmX6_isComplete p l e s m args below meth c G A (QQ 1 wC okC G Qr Qx A below args s rmX6_isComplete.cells rmX6_isComplete.slots) 0 0 S [some (.ref (G.2.2 0))] [] 0
  refine J_aload_n (pc := 0) C dX6_isComplete_0 rfl ?_
  refine J_get (pc := 1) C dX6_isComplete_1 0 rfl rfl nX6_isComplete_X6 1 (by decide) mX6_isComplete_f19 rfl (v := .ref (G.2.2 2)) rfl ?_
  refine J_c1 (pc := 4) C (J_rV (pc := 4) C h dX6_isComplete_4 rfl rfl 2 rfl rfl (cwV 0 C.1.2.2.2.2 gX6_isComplete_X3_present rfl rfl rfl (by decide +kernel) ⟨Nat.le_of_ble_eq_true rfl, Nat.le_of_ble_eq_true rfl⟩) hok (Nat.le_of_ble_eq_true rfl) ⟨Nat.le_of_ble_eq_true rfl, Nat.le_of_ble_eq_true rfl⟩) (fun E9 S9 ok9 q9 => JX_out C ok9 q9 (by decide) (by decide)) (fun rv4 S2 hr5 hok3 h1 => ?_)
  have h1 := h1 hr5 hok3
  refine J_aload_n (pc := 7) C dX6_isComplete_7 rfl ?_
  refine J_get (pc := 8) C dX6_isComplete_8 0 rfl rfl nX6_isComplete_X6 0 (by decide) mX6_isComplete_f10 rfl (v := .ref (G.2.2 1)) rfl ?_
  refine J_get (pc := 11) C dX6_isComplete_11 1 rfl rfl nX6_isComplete_X1 4 (by decide) mX6_isComplete_f155 rfl (v := iV (S2 1 4)) rfl ?_
  refine J_aload_n (pc := 14) C dX6_isComplete_14 rfl ?_
  refine J_get (pc := 15) C dX6_isComplete_15 0 rfl rfl nX6_isComplete_X6 0 (by decide) mX6_isComplete_f10 rfl (v := .ref (G.2.2 1)) rfl ?_
  refine J_get (pc := 18) C dX6_isComplete_18 1 rfl rfl nX6_isComplete_X1 4 (by decide) mX6_isComplete_f155 rfl (v := iV (S2 1 4)) rfl ?_
  refine J_iconst (pc := 21) C dX6_isComplete_21 ?_
  refine J_isub (pc := 22) C dX6_isComplete_22 ?_
  refine J_imul (pc := 23) C dX6_isComplete_23 ?_
  refine J_iconst (pc := 24) C dX6_isComplete_24 ?_
  obtain ⟨o6, h7⟩ := h1
  refine J_idiv (pc := 25) C dX6_isComplete_25 o6 (by decide) (by decide) ?_
  obtain ⟨o8, h9⟩ := h7
  obtain ⟨h10, h11⟩ := h9
  refine J_icmp_ne (pc := 26) (tgt := 33) C dX6_isComplete_26 (by decide) hr5 o8 (fun cb => ?_) (fun cb => ?_)
  · have h10 := h10 cb
    refine J_iconst (pc := 33) C dX6_isComplete_33 ?_
    exact J_zret (pc := 34) C dX6_isComplete_34 (by decide) hok3 h10 (by decide) (by decide)
  · have h11 := h11 cb
    refine J_iconst (pc := 29) C dX6_isComplete_29 ?_
    refine J_goto (pc := 30) (tgt := 34) C dX6_isComplete_30 (by decide) ?_
    exact J_zret (pc := 34) C dX6_isComplete_34 (by decide) hok3 h11 (by decide) (by decide)
def rmX6_keepWithout : Room := { frames := 4, cells := 0, slots := 0, locals := 100 }
theorem mX6_keepWithout_f47 : Cond.fieldLink RX6 47 "Stresswork" "pebbles" "LStresswork$Pebbles;" ∈ wsX6_keepWithout := by decide +kernel
theorem nX6_keepWithout_X6 : ∀ x ∈ wsX60, x ∈ wsX6_keepWithout := by decide +kernel
theorem mX6_keepWithout_f51 : Cond.fieldLink RX6 51 "Stresswork" "keptSet" "J" ∈ wsX6_keepWithout := by decide +kernel
theorem mX6_keepWithout_f19 : Cond.fieldLink RX6 19 "Stresswork" "members" "LStresswork$Members;" ∈ wsX6_keepWithout := by decide +kernel
theorem mX6_keepWithout_f235 : Cond.fieldLink RX6 235 "Stresswork$Members" "count" "I" ∈ wsX6_keepWithout := by decide +kernel
theorem nX6_keepWithout_X3 : ∀ x ∈ wsX30, x ∈ wsX6_keepWithout := by decide +kernel
theorem mX6_keepWithout_f168 : Cond.fieldLink RX6 168 "Stresswork$Members" "from" "[I" ∈ wsX6_keepWithout := by decide +kernel
theorem mX6_keepWithout_f171 : Cond.fieldLink RX6 171 "Stresswork$Members" "to" "[I" ∈ wsX6_keepWithout := by decide +kernel
def M_X6_keepWithout (a0 : Int) (S : St) (Qr : Int → St → Prop) (Qx : String → St → Prop) : Prop := r32 a0 → MM 1 wC okC yX6_keepWithout wsX6_keepWithout rmX6_keepWithout (fun G => [.ref (G.2.2 0), iV a0]) S Qr Qx
def R_X6_keepWithout_14 (x1 x2 : Int) (S : St) (Qr : Int → St → Prop) (Qx : String → St → Prop) : Prop := r32 x1 → r32 x2 → RR 1 wC okC wsX6_keepWithout rmX6_keepWithout cX6_keepWithout 3 RX6 (some .int) [] 0 0 (fun G => [some (.ref (G.2.2 0)), some (iV x1), some (iV x2)]) (fun G => []) 14 S Qr Qx
set_option maxRecDepth 100000 in
set_option maxHeartbeats 4000000 in
theorem vc_X6_keepWithout {a0 : Int} {S : St} {Qr : Int → St → Prop} {Qx : String → St → Prop} (h : r32 a0 → okC S → M_X4_clear S (fun _ S2 => okC S2 → R_X6_keepWithout_14 a0 0 (up S2 67 0 0) Qr Qx) Qx) : M_X6_keepWithout a0 S Qr Qx := by
  intro ra0
  refine MM_of adC (by decide +kernel) rfl (Lf := fun G => [some (.ref (G.2.2 0)), some (iV a0), none]) (fun G => by show _ ≤ _; exact Nat.le_of_ble_eq_true rfl) (fun G => rfl) ?_
  intro p l e s m args below meth c G A C hok
  have h := h ra0 hok
  replace C : Cx wC cX6_keepWithout 3 RX6 wsX6_keepWithout (some .int) [] p l s m args meth c G A := C
  show J wC 3 rmX6_keepWithout p l e s m args below meth c G A (QQ 1 wC okC G Qr Qx A below args s rmX6_keepWithout.cells rmX6_keepWithout.slots) 0 0 S [some (.ref (G.2.2 0)), some (iV a0), none] [] 0
  refine J_aload_n (pc := 0) C dX6_keepWithout_0 rfl ?_
  refine J_get (pc := 1) C dX6_keepWithout_1 0 rfl rfl nX6_keepWithout_X6 5 (by decide) mX6_keepWithout_f47 rfl (v := .ref (G.2.2 6)) rfl ?_
  refine J_c0 (pc := 4) C (J_rV (pc := 4) C h dX6_keepWithout_4 rfl rfl 6 rfl rfl (cwV 0 C.1.2.2.2.2 gX6_keepWithout_X4_clear rfl rfl rfl (by decide +kernel) ⟨Nat.le_of_ble_eq_true rfl, Nat.le_of_ble_eq_true rfl⟩) hok (Nat.le_of_ble_eq_true rfl) ⟨Nat.le_of_ble_eq_true rfl, Nat.le_of_ble_eq_true rfl⟩) (fun E9 S9 ok9 q9 => JX_out C ok9 q9 (by decide) (by decide)) (fun S2 hok3 h1 => ?_)
  have h1 := h1 hok3
  refine J_aload_n (pc := 7) C dX6_keepWithout_7 rfl ?_
  refine J_lconst (pc := 8) C dX6_keepWithout_8 ?_
  refine J_put (pc := 9) C dX6_keepWithout_9 0 rfl rfl nX6_keepWithout_X6 tyX6 tyX6_ok nmX6 6 (by decide) mX6_keepWithout_f51 rfl rfl (v := lV 0) rfl rfl (Nat.le_of_ble_eq_true rfl) (sC_0_6 G S2 0) ?_
  have hok6 := okC_up (k := 67) (j := 0) hok3 (show rngC 67 0 from (by decide : r64 0))
  refine J_iconst (pc := 12) C dX6_keepWithout_12 ?_
  refine J_istore_n (pc := 13) C dX6_keepWithout_13 (by decide) ?_
  exact J_sub (L1 := [some (.ref (G.2.2 0)), some (iV a0), some (iV 0)]) ⟨rfl, ⟨rfl, ⟨rfl, trivial⟩⟩⟩ (h1 ra0 (by decide) p l e s m args below meth c G A C hok6)
set_option maxRecDepth 100000 in
set_option maxHeartbeats 4000000 in
theorem vc_X6_keepWithout_14 {x1 x2 : Int} {S : St} {Qr : Int → St → Prop} {Qx : String → St → Prop} (h : r32 x1 → r32 x2 → okC S → (((S 2 5) ≤ x2 → M_J13_bitCount_95d88 (S 67 0) S (fun rv6 S4 => r32 rv6 → okC S4 → Qr rv6 S4) Qx) ∧ (x2 < (S 2 5) → M_X3_has x2 S (fun rv11 S9 => r32 rv11 → okC S9 → ((rv11 = 0 → (r32 (x2 + 1) ∧ R_X6_keepWithout_14 x1 (x2 + 1) S9 Qr Qx)) ∧ (rv11 ≠ 0 → ((x2 = x1 → (r32 (x2 + 1) ∧ R_X6_keepWithout_14 x1 (x2 + 1) S9 Qr Qx)) ∧ (x2 ≠ x1 → (ix x2 40 ∧ M_X4_canCover (S9 11 x2) (S9 12 x2) S9 (fun rv26 S24 => r32 rv26 → okC S24 → ((rv26 = 0 → (r32 (x2 + 1) ∧ R_X6_keepWithout_14 x1 (x2 + 1) S24 Qr Qx)) ∧ (rv26 ≠ 0 → M_X4_cover (S24 11 x2) (S24 12 x2) S24 (fun _ S33 => okC S33 → (r32 (x2 + 1) ∧ R_X6_keepWithout_14 x1 (x2 + 1) (up S33 67 0 (yor (S33 67 0) (yshl 1 x2))) Qr Qx)) Qx))) Qx)))))) Qx))) : R_X6_keepWithout_14 x1 x2 S Qr Qx := by
  intro rx1 rx2
  intro p l e s m args below meth c G A C hok
  have h := h rx1 rx2 hok
  replace C : Cx wC cX6_keepWithout 3 RX6 wsX6_keepWithout (some .int) [] p l s m args meth c G A := C
  show J wC 3 rmX6_keepWithout p l e s m args below meth c G A (QQ 1 wC okC G Qr Qx A below args s rmX6_keepWithout.cells rmX6_keepWithout.slots) 0 0 S [some (.ref (G.2.2 0)), some (iV x1), some (iV x2)] [] 14
  refine J_iload_n (pc := 14) C dX6_keepWithout_14 rfl ?_
  refine J_aload_n (pc := 15) C dX6_keepWithout_15 rfl ?_
  refine J_get (pc := 16) C dX6_keepWithout_16 0 rfl rfl nX6_keepWithout_X6 1 (by decide) mX6_keepWithout_f19 rfl (v := .ref (G.2.2 2)) rfl ?_
  refine J_get (pc := 19) C dX6_keepWithout_19 2 rfl rfl nX6_keepWithout_X3 5 (by decide) mX6_keepWithout_f235 rfl (v := iV (S 2 5)) rfl ?_
  obtain ⟨h1, h2⟩ := h
  refine J_icmp_ge (pc := 22) (tgt := 112) C dX6_keepWithout_22 (by decide) rx2 (hok 2 5) (fun cb => ?_) (fun cb => ?_)
  · have h1 := h1 cb
    refine J_aload_n (pc := 112) C dX6_keepWithout_112 rfl ?_
    refine J_get (pc := 113) C dX6_keepWithout_113 0 rfl rfl nX6_keepWithout_X6 6 (by decide) mX6_keepWithout_f51 rfl (v := lV (S 67 0)) rfl ?_
    refine J_c1 (pc := 116) C (J_rS (pc := 116) C (h1 (hok 67 0)) dX6_keepWithout_116 rfl rfl (va_cwS 1 C.1.2.2.2.2 gX6_keepWithout_J13_bitCount_95d88 rfl rfl rfl (by decide +kernel) ⟨Nat.le_of_ble_eq_true rfl, Nat.le_of_ble_eq_true rfl⟩) hok (Nat.le_of_ble_eq_true rfl) ⟨Nat.le_of_ble_eq_true rfl, Nat.le_of_ble_eq_true rfl⟩) (fun E9 S9 ok9 q9 => JX_out C ok9 q9 (by decide) (by decide)) (fun rv6 S4 hr7 hok5 h3 => ?_)
    have h3 := h3 hr7 hok5
    exact J_iret (pc := 119) C dX6_keepWithout_119 hr7 hok5 h3 (by decide) (by decide)
  · have h2 := h2 cb
    refine J_aload_n (pc := 25) C dX6_keepWithout_25 rfl ?_
    refine J_get (pc := 26) C dX6_keepWithout_26 0 rfl rfl nX6_keepWithout_X6 1 (by decide) mX6_keepWithout_f19 rfl (v := .ref (G.2.2 2)) rfl ?_
    refine J_iload_n (pc := 29) C dX6_keepWithout_29 rfl ?_
    refine J_c1 (pc := 30) C (J_rV (pc := 30) C (h2 rx2) dX6_keepWithout_30 rfl rfl 2 rfl rfl (cwV 1 C.1.2.2.2.2 gX6_keepWithout_X3_has rfl rfl rfl (by decide +kernel) ⟨Nat.le_of_ble_eq_true rfl, Nat.le_of_ble_eq_true rfl⟩) hok (Nat.le_of_ble_eq_true rfl) ⟨Nat.le_of_ble_eq_true rfl, Nat.le_of_ble_eq_true rfl⟩) (fun E9 S9 ok9 q9 => JX_out C ok9 q9 (by decide) (by decide)) (fun rv11 S9 hr12 hok10 h8 => ?_)
    have h8 := h8 hr12 hok10
    obtain ⟨h13, h14⟩ := h8
    refine J_if_eq (pc := 33) (tgt := 106) C dX6_keepWithout_33 (by decide) hr12 (fun cb => ?_) (fun cb => ?_)
    · have h13 := h13 cb
      refine J_iinc (pc := 106) C dX6_keepWithout_106 rfl (by decide) ?_
      refine J_goto (pc := 109) (tgt := 14) C dX6_keepWithout_109 (by decide) ?_
      obtain ⟨o15, h16⟩ := h13
      exact J_sub (L1 := [some (.ref (G.2.2 0)), some (iV x1), some (iV (x2 + 1))]) ⟨rfl, ⟨rfl, ⟨rfl, trivial⟩⟩⟩ (h16 rx1 o15 p l e s m args below meth c G A C hok10)
    · have h14 := h14 cb
      refine J_iload_n (pc := 36) C dX6_keepWithout_36 rfl ?_
      refine J_iload_n (pc := 37) C dX6_keepWithout_37 rfl ?_
      obtain ⟨h17, h18⟩ := h14
      refine J_icmp_eq (pc := 38) (tgt := 106) C dX6_keepWithout_38 (by decide) rx2 rx1 (fun cb => ?_) (fun cb => ?_)
      · have h17 := h17 cb
        refine J_iinc (pc := 106) C dX6_keepWithout_106 rfl (by decide) ?_
        refine J_goto (pc := 109) (tgt := 14) C dX6_keepWithout_109 (by decide) ?_
        obtain ⟨o19, h20⟩ := h17
        exact J_sub (L1 := [some (.ref (G.2.2 0)), some (iV x1), some (iV (x2 + 1))]) ⟨rfl, ⟨rfl, ⟨rfl, trivial⟩⟩⟩ (h20 rx1 o19 p l e s m args below meth c G A C hok10)
      · have h18 := h18 cb
        refine J_aload_n (pc := 41) C dX6_keepWithout_41 rfl ?_
        refine J_get (pc := 42) C dX6_keepWithout_42 0 rfl rfl nX6_keepWithout_X6 5 (by decide) mX6_keepWithout_f47 rfl (v := .ref (G.2.2 6)) rfl ?_
        refine J_aload_n (pc := 45) C dX6_keepWithout_45 rfl ?_
        refine J_get (pc := 46) C dX6_keepWithout_46 0 rfl rfl nX6_keepWithout_X6 1 (by decide) mX6_keepWithout_f19 rfl (v := .ref (G.2.2 2)) rfl ?_
        refine J_get (pc := 49) C dX6_keepWithout_49 2 rfl rfl nX6_keepWithout_X3 0 (by decide) mX6_keepWithout_f168 rfl (v := .ref (G.2.2 11)) rfl ?_
        refine J_iload_n (pc := 52) C dX6_keepWithout_52 rfl ?_
        obtain ⟨o21, h22⟩ := h18
        refine J_iald (pc := 53) C dX6_keepWithout_53 11 11 rfl (by decide) o21 ?_
        refine J_aload_n (pc := 54) C dX6_keepWithout_54 rfl ?_
        refine J_get (pc := 55) C dX6_keepWithout_55 0 rfl rfl nX6_keepWithout_X6 1 (by decide) mX6_keepWithout_f19 rfl (v := .ref (G.2.2 2)) rfl ?_
        refine J_get (pc := 58) C dX6_keepWithout_58 2 rfl rfl nX6_keepWithout_X3 1 (by decide) mX6_keepWithout_f171 rfl (v := .ref (G.2.2 12)) rfl ?_
        refine J_iload_n (pc := 61) C dX6_keepWithout_61 rfl ?_
        refine J_iald (pc := 62) C dX6_keepWithout_62 12 12 rfl (by decide) o21 ?_
        refine J_c1 (pc := 63) C (J_rV (pc := 63) C (h22 (hok10 11 x2) (hok10 12 x2)) dX6_keepWithout_63 rfl rfl 6 rfl rfl (cwV 2 C.1.2.2.2.2 gX6_keepWithout_X4_canCover rfl rfl rfl (by decide +kernel) ⟨Nat.le_of_ble_eq_true rfl, Nat.le_of_ble_eq_true rfl⟩) hok10 (Nat.le_of_ble_eq_true rfl) ⟨Nat.le_of_ble_eq_true rfl, Nat.le_of_ble_eq_true rfl⟩) (fun E9 S9 ok9 q9 => JX_out C ok9 q9 (by decide) (by decide)) (fun rv26 S24 hr27 hok25 h23 => ?_)
        have h23 := h23 hr27 hok25
        obtain ⟨h28, h29⟩ := h23
        refine J_if_eq (pc := 66) (tgt := 106) C dX6_keepWithout_66 (by decide) hr27 (fun cb => ?_) (fun cb => ?_)
        · have h28 := h28 cb
          refine J_iinc (pc := 106) C dX6_keepWithout_106 rfl (by decide) ?_
          refine J_goto (pc := 109) (tgt := 14) C dX6_keepWithout_109 (by decide) ?_
          obtain ⟨o30, h31⟩ := h28
          exact J_sub (L1 := [some (.ref (G.2.2 0)), some (iV x1), some (iV (x2 + 1))]) ⟨rfl, ⟨rfl, ⟨rfl, trivial⟩⟩⟩ (h31 rx1 o30 p l e s m args below meth c G A C hok25)
        · have h29 := h29 cb
          refine J_aload_n (pc := 69) C dX6_keepWithout_69 rfl ?_
          refine J_get (pc := 70) C dX6_keepWithout_70 0 rfl rfl nX6_keepWithout_X6 5 (by decide) mX6_keepWithout_f47 rfl (v := .ref (G.2.2 6)) rfl ?_
          refine J_aload_n (pc := 73) C dX6_keepWithout_73 rfl ?_
          refine J_get (pc := 74) C dX6_keepWithout_74 0 rfl rfl nX6_keepWithout_X6 1 (by decide) mX6_keepWithout_f19 rfl (v := .ref (G.2.2 2)) rfl ?_
          refine J_get (pc := 77) C dX6_keepWithout_77 2 rfl rfl nX6_keepWithout_X3 0 (by decide) mX6_keepWithout_f168 rfl (v := .ref (G.2.2 11)) rfl ?_
          refine J_iload_n (pc := 80) C dX6_keepWithout_80 rfl ?_
          refine J_iald (pc := 81) C dX6_keepWithout_81 11 11 rfl (by decide) o21 ?_
          refine J_aload_n (pc := 82) C dX6_keepWithout_82 rfl ?_
          refine J_get (pc := 83) C dX6_keepWithout_83 0 rfl rfl nX6_keepWithout_X6 1 (by decide) mX6_keepWithout_f19 rfl (v := .ref (G.2.2 2)) rfl ?_
          refine J_get (pc := 86) C dX6_keepWithout_86 2 rfl rfl nX6_keepWithout_X3 1 (by decide) mX6_keepWithout_f171 rfl (v := .ref (G.2.2 12)) rfl ?_
          refine J_iload_n (pc := 89) C dX6_keepWithout_89 rfl ?_
          refine J_iald (pc := 90) C dX6_keepWithout_90 12 12 rfl (by decide) o21 ?_
          refine J_c0 (pc := 91) C (J_rV (pc := 91) C (h29 (hok25 11 x2) (hok25 12 x2)) dX6_keepWithout_91 rfl rfl 6 rfl rfl (cwV 2 C.1.2.2.2.2 gX6_keepWithout_X4_cover rfl rfl rfl (by decide +kernel) ⟨Nat.le_of_ble_eq_true rfl, Nat.le_of_ble_eq_true rfl⟩) hok25 (Nat.le_of_ble_eq_true rfl) ⟨Nat.le_of_ble_eq_true rfl, Nat.le_of_ble_eq_true rfl⟩) (fun E9 S9 ok9 q9 => JX_out C ok9 q9 (by decide) (by decide)) (fun S33 hok34 h32 => ?_)
          have h32 := h32 hok34
          refine J_aload_n (pc := 94) C dX6_keepWithout_94 rfl ?_
          refine J_dup (pc := 95) C dX6_keepWithout_95 rfl ?_
          refine J_get (pc := 96) C dX6_keepWithout_96 0 rfl rfl nX6_keepWithout_X6 6 (by decide) mX6_keepWithout_f51 rfl (v := lV (S33 67 0)) rfl ?_
          refine J_lconst (pc := 99) C dX6_keepWithout_99 ?_
          refine J_iload_n (pc := 100) C dX6_keepWithout_100 rfl ?_
          refine J_lshl (pc := 101) C dX6_keepWithout_101 ?_
          refine J_lor (pc := 102) C dX6_keepWithout_102 ?_
          refine J_put (pc := 103) C dX6_keepWithout_103 0 rfl rfl nX6_keepWithout_X6 tyX6 tyX6_ok nmX6 6 (by decide) mX6_keepWithout_f51 rfl rfl (v := lV (yor (S33 67 0) (yshl 1 x2))) rfl rfl (Nat.le_of_ble_eq_true rfl) (sC_0_6 G S33 (yor (S33 67 0) (yshl 1 x2))) ?_
          have hok37 := okC_up (k := 67) (j := 0) hok34 (show rngC 67 (yor (S33 67 0) (yshl 1 x2)) from (r_yor _ _))
          refine J_iinc (pc := 106) C dX6_keepWithout_106 rfl (by decide) ?_
          refine J_goto (pc := 109) (tgt := 14) C dX6_keepWithout_109 (by decide) ?_
          obtain ⟨o38, h39⟩ := h32
          exact J_sub (L1 := [some (.ref (G.2.2 0)), some (iV x1), some (iV (x2 + 1))]) ⟨rfl, ⟨rfl, ⟨rfl, trivial⟩⟩⟩ (h39 rx1 o38 p l e s m args below meth c G A C hok37)
def rmX6_rigidCount : Room := { frames := 0, cells := 0, slots := 0, locals := 0 }
theorem mX6_rigidCount_f10 : Cond.fieldLink RX6 10 "Stresswork" "joints" "LStresswork$Joints;" ∈ wsX6_rigidCount := by decide +kernel
theorem nX6_rigidCount_X6 : ∀ x ∈ wsX60, x ∈ wsX6_rigidCount := by decide +kernel
theorem mX6_rigidCount_f155 : Cond.fieldLink RX6 155 "Stresswork$Joints" "count" "I" ∈ wsX6_rigidCount := by decide +kernel
theorem nX6_rigidCount_X1 : ∀ x ∈ wsX10, x ∈ wsX6_rigidCount := by decide +kernel
def M_X6_rigidCount (S : St) (Qr : Int → St → Prop) (Qx : String → St → Prop) : Prop := MM 1 wC okC yX6_rigidCount wsX6_rigidCount rmX6_rigidCount (fun G => [.ref (G.2.2 0)]) S Qr Qx
set_option maxRecDepth 100000 in
set_option maxHeartbeats 4000000 in
theorem vc_X6_rigidCount {S : St} {Qr : Int → St → Prop} {Qx : String → St → Prop} (h : okC S → (r32 ((2 * (S 1 4)) - 3) ∧ Qr ((2 * (S 1 4)) - 3) S)) : M_X6_rigidCount S Qr Qx := by
  refine MM_of adC (by decide +kernel) rfl (Lf := fun G => [some (.ref (G.2.2 0))]) (fun G => by show _ ≤ _; exact Nat.le_of_ble_eq_true rfl) (fun G => rfl) ?_
  intro p l e s m args below meth c G A C hok
  have h := h hok
  replace C : Cx wC cX6_rigidCount 1 RX6 wsX6_rigidCount (some .int) [] p l s m args meth c G A := C
  show J wC 1 rmX6_rigidCount p l e s m args below meth c G A (QQ 1 wC okC G Qr Qx A below args s rmX6_rigidCount.cells rmX6_rigidCount.slots) 0 0 S [some (.ref (G.2.2 0))] [] 0
  refine J_iconst (pc := 0) C dX6_rigidCount_0 ?_
  refine J_aload_n (pc := 1) C dX6_rigidCount_1 rfl ?_
  refine J_get (pc := 2) C dX6_rigidCount_2 0 rfl rfl nX6_rigidCount_X6 0 (by decide) mX6_rigidCount_f10 rfl (v := .ref (G.2.2 1)) rfl ?_
  refine J_get (pc := 5) C dX6_rigidCount_5 1 rfl rfl nX6_rigidCount_X1 4 (by decide) mX6_rigidCount_f155 rfl (v := iV (S 1 4)) rfl ?_
  refine J_imul (pc := 8) C dX6_rigidCount_8 ?_
  refine J_iconst (pc := 9) C dX6_rigidCount_9 ?_
  refine J_isub (pc := 10) C dX6_rigidCount_10 ?_
  obtain ⟨o1, h2⟩ := h
  exact J_iret (pc := 11) C dX6_rigidCount_11 o1 hok h2 (by decide) (by decide)
def rmX6_isRigidWithoutEachOf : Room := { frames := 5, cells := 0, slots := 0, locals := 122 }
theorem mX6_isRigidWithoutEachOf_f19 : Cond.fieldLink RX6 19 "Stresswork" "members" "LStresswork$Members;" ∈ wsX6_isRigidWithoutEachOf := by decide +kernel
theorem nX6_isRigidWithoutEachOf_X6 : ∀ x ∈ wsX60, x ∈ wsX6_isRigidWithoutEachOf := by decide +kernel
theorem mX6_isRigidWithoutEachOf_f235 : Cond.fieldLink RX6 235 "Stresswork$Members" "count" "I" ∈ wsX6_isRigidWithoutEachOf := by decide +kernel
theorem nX6_isRigidWithoutEachOf_X3 : ∀ x ∈ wsX30, x ∈ wsX6_isRigidWithoutEachOf := by decide +kernel
def M_X6_isRigidWithoutEachOf (a0 : Int) (S : St) (Qr : Int → St → Prop) (Qx : String → St → Prop) : Prop := r64 a0 → MM 1 wC okC yX6_isRigidWithoutEachOf wsX6_isRigidWithoutEachOf rmX6_isRigidWithoutEachOf (fun G => [.ref (G.2.2 0), lV a0]) S Qr Qx
def R_X6_isRigidWithoutEachOf_2 (x1 x3 : Int) (S : St) (Qr : Int → St → Prop) (Qx : String → St → Prop) : Prop := r64 x1 → r32 x3 → RR 1 wC okC wsX6_isRigidWithoutEachOf rmX6_isRigidWithoutEachOf cX6_isRigidWithoutEachOf 4 RX6 (some .boolean) [] 0 0 (fun G => [some (.ref (G.2.2 0)), some (lV x1), none, some (iV x3)]) (fun G => []) 2 S Qr Qx
set_option maxRecDepth 100000 in
set_option maxHeartbeats 4000000 in
theorem vc_X6_isRigidWithoutEachOf {a0 : Int} {S : St} {Qr : Int → St → Prop} {Qx : String → St → Prop} (h : r64 a0 → okC S → R_X6_isRigidWithoutEachOf_2 a0 0 S Qr Qx) : M_X6_isRigidWithoutEachOf a0 S Qr Qx := by
  intro ra0
  refine MM_of adC (by decide +kernel) rfl (Lf := fun G => [some (.ref (G.2.2 0)), some (lV a0), none, none]) (fun G => by show _ ≤ _; exact Nat.le_of_ble_eq_true rfl) (fun G => rfl) ?_
  intro p l e s m args below meth c G A C hok
  have h := h ra0 hok
  replace C : Cx wC cX6_isRigidWithoutEachOf 4 RX6 wsX6_isRigidWithoutEachOf (some .boolean) [] p l s m args meth c G A := C
  show J wC 4 rmX6_isRigidWithoutEachOf p l e s m args below meth c G A (QQ 1 wC okC G Qr Qx A below args s rmX6_isRigidWithoutEachOf.cells rmX6_isRigidWithoutEachOf.slots) 0 0 S [some (.ref (G.2.2 0)), some (lV a0), none, none] [] 0
  refine J_iconst (pc := 0) C dX6_isRigidWithoutEachOf_0 ?_
  refine J_istore_n (pc := 1) C dX6_isRigidWithoutEachOf_1 (by decide) ?_
  exact J_sub (L1 := [some (.ref (G.2.2 0)), some (lV a0), none, some (iV 0)]) ⟨rfl, ⟨rfl, ⟨rfl, trivial⟩⟩⟩ (h ra0 (by decide) p l e s m args below meth c G A C hok)
set_option maxRecDepth 100000 in
set_option maxHeartbeats 4000000 in
theorem vc_X6_isRigidWithoutEachOf_2 {x1 x3 : Int} {S : St} {Qr : Int → St → Prop} {Qx : String → St → Prop} (h : r64 x1 → r32 x3 → okC S → (((S 2 5) ≤ x3 → Qr 1 S) ∧ (x3 < (S 2 5) → M_X6_hasBit x1 x3 S (fun rv6 S4 => r32 rv6 → okC S4 → ((rv6 = 0 → (r32 (x3 + 1) ∧ R_X6_isRigidWithoutEachOf_2 x1 (x3 + 1) S4 Qr Qx)) ∧ (rv6 ≠ 0 → M_X6_keepWithout x3 S4 (fun rv15 S13 => r32 rv15 → okC S13 → M_X6_rigidCount S13 (fun rv20 S18 => r32 rv20 → okC S18 → ((rv20 ≤ rv15 → (r32 (x3 + 1) ∧ R_X6_isRigidWithoutEachOf_2 x1 (x3 + 1) S18 Qr Qx)) ∧ (rv15 < rv20 → Qr 0 S18))) Qx) Qx))) Qx))) : R_X6_isRigidWithoutEachOf_2 x1 x3 S Qr Qx := by
  intro rx1 rx3
  intro p l e s m args below meth c G A C hok
  have h := h rx1 rx3 hok
  replace C : Cx wC cX6_isRigidWithoutEachOf 4 RX6 wsX6_isRigidWithoutEachOf (some .boolean) [] p l s m args meth c G A := C
  show J wC 4 rmX6_isRigidWithoutEachOf p l e s m args below meth c G A (QQ 1 wC okC G Qr Qx A below args s rmX6_isRigidWithoutEachOf.cells rmX6_isRigidWithoutEachOf.slots) 0 0 S [some (.ref (G.2.2 0)), some (lV x1), none, some (iV x3)] [] 2
  refine J_iload_n (pc := 2) C dX6_isRigidWithoutEachOf_2 rfl ?_
  refine J_aload_n (pc := 3) C dX6_isRigidWithoutEachOf_3 rfl ?_
  refine J_get (pc := 4) C dX6_isRigidWithoutEachOf_4 0 rfl rfl nX6_isRigidWithoutEachOf_X6 1 (by decide) mX6_isRigidWithoutEachOf_f19 rfl (v := .ref (G.2.2 2)) rfl ?_
  refine J_get (pc := 7) C dX6_isRigidWithoutEachOf_7 2 rfl rfl nX6_isRigidWithoutEachOf_X3 5 (by decide) mX6_isRigidWithoutEachOf_f235 rfl (v := iV (S 2 5)) rfl ?_
  obtain ⟨h1, h2⟩ := h
  refine J_icmp_ge (pc := 10) (tgt := 41) C dX6_isRigidWithoutEachOf_10 (by decide) rx3 (hok 2 5) (fun cb => ?_) (fun cb => ?_)
  · have h1 := h1 cb
    refine J_iconst (pc := 41) C dX6_isRigidWithoutEachOf_41 ?_
    exact J_zret (pc := 42) C dX6_isRigidWithoutEachOf_42 (by decide) hok h1 (by decide) (by decide)
  · have h2 := h2 cb
    refine J_lload_n (pc := 13) C dX6_isRigidWithoutEachOf_13 rfl ?_
    refine J_iload_n (pc := 14) C dX6_isRigidWithoutEachOf_14 rfl ?_
    refine J_c1 (pc := 15) C (J_rS (pc := 15) C (h2 rx1 rx3) dX6_isRigidWithoutEachOf_15 rfl rfl (va_cwS 2 C.1.2.2.2.2 gX6_isRigidWithoutEachOf_X6_hasBit rfl rfl rfl (by decide +kernel) ⟨Nat.le_of_ble_eq_true rfl, Nat.le_of_ble_eq_true rfl⟩) hok (Nat.le_of_ble_eq_true rfl) ⟨Nat.le_of_ble_eq_true rfl, Nat.le_of_ble_eq_true rfl⟩) (fun E9 S9 ok9 q9 => JX_out C ok9 q9 (by decide) (by decide)) (fun rv6 S4 hr7 hok5 h3 => ?_)
    have h3 := h3 hr7 hok5
    obtain ⟨h8, h9⟩ := h3
    refine J_if_eq (pc := 18) (tgt := 35) C dX6_isRigidWithoutEachOf_18 (by decide) hr7 (fun cb => ?_) (fun cb => ?_)
    · have h8 := h8 cb
      refine J_iinc (pc := 35) C dX6_isRigidWithoutEachOf_35 rfl (by decide) ?_
      refine J_goto (pc := 38) (tgt := 2) C dX6_isRigidWithoutEachOf_38 (by decide) ?_
      obtain ⟨o10, h11⟩ := h8
      exact J_sub (L1 := [some (.ref (G.2.2 0)), some (lV x1), none, some (iV (x3 + 1))]) ⟨rfl, ⟨rfl, ⟨rfl, trivial⟩⟩⟩ (h11 rx1 o10 p l e s m args below meth c G A C hok5)
    · have h9 := h9 cb
      refine J_aload_n (pc := 21) C dX6_isRigidWithoutEachOf_21 rfl ?_
      refine J_iload_n (pc := 22) C dX6_isRigidWithoutEachOf_22 rfl ?_
      refine J_c1 (pc := 23) C (J_rV (pc := 23) C (h9 rx3) dX6_isRigidWithoutEachOf_23 rfl rfl 0 rfl rfl (cwV 1 C.1.2.2.2.2 gX6_isRigidWithoutEachOf_X6_keepWithout rfl rfl rfl (by decide +kernel) ⟨Nat.le_of_ble_eq_true rfl, Nat.le_of_ble_eq_true rfl⟩) hok5 (Nat.le_of_ble_eq_true rfl) ⟨Nat.le_of_ble_eq_true rfl, Nat.le_of_ble_eq_true rfl⟩) (fun E9 S9 ok9 q9 => JX_out C ok9 q9 (by decide) (by decide)) (fun rv15 S13 hr16 hok14 h12 => ?_)
      have h12 := h12 hr16 hok14
      refine J_aload_n (pc := 26) C dX6_isRigidWithoutEachOf_26 rfl ?_
      refine J_c1 (pc := 27) C (J_rV (pc := 27) C h12 dX6_isRigidWithoutEachOf_27 rfl rfl 0 rfl rfl (cwV 0 C.1.2.2.2.2 gX6_isRigidWithoutEachOf_X6_rigidCount rfl rfl rfl (by decide +kernel) ⟨Nat.le_of_ble_eq_true rfl, Nat.le_of_ble_eq_true rfl⟩) hok14 (Nat.le_of_ble_eq_true rfl) ⟨Nat.le_of_ble_eq_true rfl, Nat.le_of_ble_eq_true rfl⟩) (fun E9 S9 ok9 q9 => JX_out C ok9 q9 (by decide) (by decide)) (fun rv20 S18 hr21 hok19 h17 => ?_)
      have h17 := h17 hr21 hok19
      obtain ⟨h22, h23⟩ := h17
      refine J_icmp_ge (pc := 30) (tgt := 35) C dX6_isRigidWithoutEachOf_30 (by decide) hr16 hr21 (fun cb => ?_) (fun cb => ?_)
      · have h22 := h22 cb
        refine J_iinc (pc := 35) C dX6_isRigidWithoutEachOf_35 rfl (by decide) ?_
        refine J_goto (pc := 38) (tgt := 2) C dX6_isRigidWithoutEachOf_38 (by decide) ?_
        obtain ⟨o24, h25⟩ := h22
        exact J_sub (L1 := [some (.ref (G.2.2 0)), some (lV x1), none, some (iV (x3 + 1))]) ⟨rfl, ⟨rfl, ⟨rfl, trivial⟩⟩⟩ (h25 rx1 o24 p l e s m args below meth c G A C hok19)
      · have h23 := h23 cb
        refine J_iconst (pc := 33) C dX6_isRigidWithoutEachOf_33 ?_
        exact J_zret (pc := 34) C dX6_isRigidWithoutEachOf_34 (by decide) hok19 h23 (by decide) (by decide)
def rmX6_isGlobal : Room := { frames := 6, cells := 0, slots := 0, locals := 145 }
theorem mX6_isGlobal_f10 : Cond.fieldLink RX6 10 "Stresswork" "joints" "LStresswork$Joints;" ∈ wsX6_isGlobal := by decide +kernel
theorem nX6_isGlobal_X6 : ∀ x ∈ wsX60, x ∈ wsX6_isGlobal := by decide +kernel
theorem mX6_isGlobal_f155 : Cond.fieldLink RX6 155 "Stresswork$Joints" "count" "I" ∈ wsX6_isGlobal := by decide +kernel
theorem nX6_isGlobal_X1 : ∀ x ∈ wsX10, x ∈ wsX6_isGlobal := by decide +kernel
theorem mX6_isGlobal_f51 : Cond.fieldLink RX6 51 "Stresswork" "keptSet" "J" ∈ wsX6_isGlobal := by decide +kernel
def M_X6_isGlobal (S : St) (Qr : Int → St → Prop) (Qx : String → St → Prop) : Prop := MM 1 wC okC yX6_isGlobal wsX6_isGlobal rmX6_isGlobal (fun G => [.ref (G.2.2 0)]) S Qr Qx
set_option maxRecDepth 100000 in
set_option maxHeartbeats 4000000 in
theorem vc_X6_isGlobal {S : St} {Qr : Int → St → Prop} {Qx : String → St → Prop} (h : okC S → M_X6_isComplete S (fun rv4 S2 => r32 rv4 → okC S2 → ((rv4 = 0 → (((S2 1 4) < 4 → Qr 0 S2) ∧ (4 ≤ (S2 1 4) → M_X6_keepWithout (-1) S2 (fun rv13 S11 => r32 rv13 → okC S11 → M_X6_rigidCount S11 (fun rv18 S16 => r32 rv18 → okC S16 → ((rv13 = rv18 → M_X6_hangsWithoutAnyTwo S16 (fun rv25 S23 => r32 rv25 → okC S23 → ((rv25 = 0 → Qr 0 S23) ∧ (rv25 ≠ 0 → M_X6_isRigidWithoutEachOf (S23 67 0) S23 (fun rv32 S30 => r32 rv32 → okC S30 → ((rv32 = 0 → Qr 0 S30) ∧ (rv32 ≠ 0 → Qr 1 S30))) Qx))) Qx) ∧ (rv13 ≠ rv18 → Qr 0 S16))) Qx) Qx))) ∧ (rv4 ≠ 0 → Qr 1 S2))) Qx) : M_X6_isGlobal S Qr Qx := by
  refine MM_of adC (by decide +kernel) rfl (Lf := fun G => [some (.ref (G.2.2 0))]) (fun G => by show _ ≤ _; exact Nat.le_of_ble_eq_true rfl) (fun G => rfl) ?_
  intro p l e s m args below meth c G A C hok
  have h := h hok
  replace C : Cx wC cX6_isGlobal 1 RX6 wsX6_isGlobal (some .boolean) [] p l s m args meth c G A := C
  show J wC 1 rmX6_isGlobal p l e s m args below meth c G A (QQ 1 wC okC G Qr Qx A below args s rmX6_isGlobal.cells rmX6_isGlobal.slots) 0 0 S [some (.ref (G.2.2 0))] [] 0
  refine J_aload_n (pc := 0) C dX6_isGlobal_0 rfl ?_
  refine J_c1 (pc := 1) C (J_rV (pc := 1) C h dX6_isGlobal_1 rfl rfl 0 rfl rfl (cwV 0 C.1.2.2.2.2 gX6_isGlobal_X6_isComplete rfl rfl rfl (by decide +kernel) ⟨Nat.le_of_ble_eq_true rfl, Nat.le_of_ble_eq_true rfl⟩) hok (Nat.le_of_ble_eq_true rfl) ⟨Nat.le_of_ble_eq_true rfl, Nat.le_of_ble_eq_true rfl⟩) (fun E9 S9 ok9 q9 => JX_out C ok9 q9 (by decide) (by decide)) (fun rv4 S2 hr5 hok3 h1 => ?_)
  have h1 := h1 hr5 hok3
  obtain ⟨h6, h7⟩ := h1
  refine J_if_eq (pc := 4) (tgt := 9) C dX6_isGlobal_4 (by decide) hr5 (fun cb => ?_) (fun cb => ?_)
  · have h6 := h6 cb
    refine J_aload_n (pc := 9) C dX6_isGlobal_9 rfl ?_
    refine J_get (pc := 10) C dX6_isGlobal_10 0 rfl rfl nX6_isGlobal_X6 0 (by decide) mX6_isGlobal_f10 rfl (v := .ref (G.2.2 1)) rfl ?_
    refine J_get (pc := 13) C dX6_isGlobal_13 1 rfl rfl nX6_isGlobal_X1 4 (by decide) mX6_isGlobal_f155 rfl (v := iV (S2 1 4)) rfl ?_
    refine J_iconst (pc := 16) C dX6_isGlobal_16 ?_
    obtain ⟨h8, h9⟩ := h6
    refine J_icmp_lt (pc := 17) (tgt := 32) C dX6_isGlobal_17 (by decide) (hok3 1 4) (by decide) (fun cb => ?_) (fun cb => ?_)
    · have h8 := h8 cb
      refine J_iconst (pc := 32) C dX6_isGlobal_32 ?_
      exact J_zret (pc := 33) C dX6_isGlobal_33 (by decide) hok3 h8 (by decide) (by decide)
    · have h9 := h9 cb
      refine J_aload_n (pc := 20) C dX6_isGlobal_20 rfl ?_
      refine J_iconst (pc := 21) C dX6_isGlobal_21 ?_
      refine J_c1 (pc := 22) C (J_rV (pc := 22) C (h9 (by decide)) dX6_isGlobal_22 rfl rfl 0 rfl rfl (cwV 1 C.1.2.2.2.2 gX6_isGlobal_X6_keepWithout rfl rfl rfl (by decide +kernel) ⟨Nat.le_of_ble_eq_true rfl, Nat.le_of_ble_eq_true rfl⟩) hok3 (Nat.le_of_ble_eq_true rfl) ⟨Nat.le_of_ble_eq_true rfl, Nat.le_of_ble_eq_true rfl⟩) (fun E9 S9 ok9 q9 => JX_out C ok9 q9 (by decide) (by decide)) (fun rv13 S11 hr14 hok12 h10 => ?_)
      have h10 := h10 hr14 hok12
      refine J_aload_n (pc := 25) C dX6_isGlobal_25 rfl ?_
      refine J_c1 (pc := 26) C (J_rV (pc := 26) C h10 dX6_isGlobal_26 rfl rfl 0 rfl rfl (cwV 0 C.1.2.2.2.2 gX6_isGlobal_X6_rigidCount rfl rfl rfl (by decide +kernel) ⟨Nat.le_of_ble_eq_true rfl, Nat.le_of_ble_eq_true rfl⟩) hok12 (Nat.le_of_ble_eq_true rfl) ⟨Nat.le_of_ble_eq_true rfl, Nat.le_of_ble_eq_true rfl⟩) (fun E9 S9 ok9 q9 => JX_out C ok9 q9 (by decide) (by decide)) (fun rv18 S16 hr19 hok17 h15 => ?_)
      have h15 := h15 hr19 hok17
      obtain ⟨h20, h21⟩ := h15
      refine J_icmp_eq (pc := 29) (tgt := 34) C dX6_isGlobal_29 (by decide) hr14 hr19 (fun cb => ?_) (fun cb => ?_)
      · have h20 := h20 cb
        refine J_aload_n (pc := 34) C dX6_isGlobal_34 rfl ?_
        refine J_c1 (pc := 35) C (J_rV (pc := 35) C h20 dX6_isGlobal_35 rfl rfl 0 rfl rfl (cwV 0 C.1.2.2.2.2 gX6_isGlobal_X6_hangsWithoutAnyTwo rfl rfl rfl (by decide +kernel) ⟨Nat.le_of_ble_eq_true rfl, Nat.le_of_ble_eq_true rfl⟩) hok17 (Nat.le_of_ble_eq_true rfl) ⟨Nat.le_of_ble_eq_true rfl, Nat.le_of_ble_eq_true rfl⟩) (fun E9 S9 ok9 q9 => JX_out C ok9 q9 (by decide) (by decide)) (fun rv25 S23 hr26 hok24 h22 => ?_)
        have h22 := h22 hr26 hok24
        obtain ⟨h27, h28⟩ := h22
        refine J_if_eq (pc := 38) (tgt := 56) C dX6_isGlobal_38 (by decide) hr26 (fun cb => ?_) (fun cb => ?_)
        · have h27 := h27 cb
          refine J_iconst (pc := 56) C dX6_isGlobal_56 ?_
          exact J_zret (pc := 57) C dX6_isGlobal_57 (by decide) hok24 h27 (by decide) (by decide)
        · have h28 := h28 cb
          refine J_aload_n (pc := 41) C dX6_isGlobal_41 rfl ?_
          refine J_aload_n (pc := 42) C dX6_isGlobal_42 rfl ?_
          refine J_get (pc := 43) C dX6_isGlobal_43 0 rfl rfl nX6_isGlobal_X6 6 (by decide) mX6_isGlobal_f51 rfl (v := lV (S23 67 0)) rfl ?_
          refine J_c1 (pc := 46) C (J_rV (pc := 46) C (h28 (hok24 67 0)) dX6_isGlobal_46 rfl rfl 0 rfl rfl (cwV 1 C.1.2.2.2.2 gX6_isGlobal_X6_isRigidWithoutEachOf rfl rfl rfl (by decide +kernel) ⟨Nat.le_of_ble_eq_true rfl, Nat.le_of_ble_eq_true rfl⟩) hok24 (Nat.le_of_ble_eq_true rfl) ⟨Nat.le_of_ble_eq_true rfl, Nat.le_of_ble_eq_true rfl⟩) (fun E9 S9 ok9 q9 => JX_out C ok9 q9 (by decide) (by decide)) (fun rv32 S30 hr33 hok31 h29 => ?_)
          have h29 := h29 hr33 hok31
          obtain ⟨h34, h35⟩ := h29
          refine J_if_eq (pc := 49) (tgt := 56) C dX6_isGlobal_49 (by decide) hr33 (fun cb => ?_) (fun cb => ?_)
          · have h34 := h34 cb
            refine J_iconst (pc := 56) C dX6_isGlobal_56 ?_
            exact J_zret (pc := 57) C dX6_isGlobal_57 (by decide) hok31 h34 (by decide) (by decide)
          · have h35 := h35 cb
            refine J_iconst (pc := 52) C dX6_isGlobal_52 ?_
            refine J_goto (pc := 53) (tgt := 57) C dX6_isGlobal_53 (by decide) ?_
            exact J_zret (pc := 57) C dX6_isGlobal_57 (by decide) hok31 h35 (by decide) (by decide)
      · have h21 := h21 cb
        refine J_iconst (pc := 32) C dX6_isGlobal_32 ?_
        exact J_zret (pc := 33) C dX6_isGlobal_33 (by decide) hok17 h21 (by decide) (by decide)
  · have h7 := h7 cb
    refine J_iconst (pc := 7) C dX6_isGlobal_7 ?_
    exact J_zret (pc := 8) C dX6_isGlobal_8 (by decide) hok3 h7 (by decide) (by decide)
def rmX6_unbalanced : Room := { frames := 2, cells := 0, slots := 0, locals := 47 }
theorem mX6_unbalanced_f10 : Cond.fieldLink RX6 10 "Stresswork" "joints" "LStresswork$Joints;" ∈ wsX6_unbalanced := by decide +kernel
theorem nX6_unbalanced_X6 : ∀ x ∈ wsX60, x ∈ wsX6_unbalanced := by decide +kernel
theorem mX6_unbalanced_f155 : Cond.fieldLink RX6 155 "Stresswork$Joints" "count" "I" ∈ wsX6_unbalanced := by decide +kernel
theorem nX6_unbalanced_X1 : ∀ x ∈ wsX10, x ∈ wsX6_unbalanced := by decide +kernel
theorem mX6_unbalanced_f77 : Cond.fieldLink RX6 77 "Stresswork$Joints" "pinned" "[Z" ∈ wsX6_unbalanced := by decide +kernel
def M_X6_unbalanced (S : St) (Qr : Int → St → Prop) (Qx : String → St → Prop) : Prop := MM 1 wC okC yX6_unbalanced wsX6_unbalanced rmX6_unbalanced (fun G => [.ref (G.2.2 0)]) S Qr Qx
def R_X6_unbalanced_4 (x1 x2 : Int) (S : St) (Qr : Int → St → Prop) (Qx : String → St → Prop) : Prop := r32 x1 → r32 x2 → RR 1 wC okC wsX6_unbalanced rmX6_unbalanced cX6_unbalanced 3 RX6 (some .int) [] 0 0 (fun G => [some (.ref (G.2.2 0)), some (iV x1), some (iV x2)]) (fun G => []) 4 S Qr Qx
set_option maxRecDepth 100000 in
set_option maxHeartbeats 4000000 in
theorem vc_X6_unbalanced {S : St} {Qr : Int → St → Prop} {Qx : String → St → Prop} (h : okC S → R_X6_unbalanced_4 0 0 S Qr Qx) : M_X6_unbalanced S Qr Qx := by
  refine MM_of adC (by decide +kernel) rfl (Lf := fun G => [some (.ref (G.2.2 0)), none, none]) (fun G => by show _ ≤ _; exact Nat.le_of_ble_eq_true rfl) (fun G => rfl) ?_
  intro p l e s m args below meth c G A C hok
  have h := h hok
  replace C : Cx wC cX6_unbalanced 3 RX6 wsX6_unbalanced (some .int) [] p l s m args meth c G A := C
  show J wC 3 rmX6_unbalanced p l e s m args below meth c G A (QQ 1 wC okC G Qr Qx A below args s rmX6_unbalanced.cells rmX6_unbalanced.slots) 0 0 S [some (.ref (G.2.2 0)), none, none] [] 0
  refine J_iconst (pc := 0) C dX6_unbalanced_0 ?_
  refine J_istore_n (pc := 1) C dX6_unbalanced_1 (by decide) ?_
  refine J_iconst (pc := 2) C dX6_unbalanced_2 ?_
  refine J_istore_n (pc := 3) C dX6_unbalanced_3 (by decide) ?_
  exact J_sub (L1 := [some (.ref (G.2.2 0)), some (iV 0), some (iV 0)]) ⟨rfl, ⟨rfl, ⟨rfl, trivial⟩⟩⟩ (h (by decide) (by decide) p l e s m args below meth c G A C hok)
set_option maxRecDepth 100000 in
set_option maxHeartbeats 4000000 in
theorem vc_X6_unbalanced_4 {x1 x2 : Int} {S : St} {Qr : Int → St → Prop} {Qx : String → St → Prop} (h : r32 x1 → r32 x2 → okC S → (((S 1 4) ≤ x2 → Qr x1 S) ∧ (x2 < (S 1 4) → (ix x2 10 ∧ (((S 9 x2) ≠ 0 → (r32 (x2 + 1) ∧ R_X6_unbalanced_4 x1 (x2 + 1) S Qr Qx)) ∧ ((S 9 x2) = 0 → M_X6_isBalanced x2 S (fun rv12 S10 => r32 rv12 → okC S10 → ((rv12 ≠ 0 → (r32 (x2 + 1) ∧ R_X6_unbalanced_4 x1 (x2 + 1) S10 Qr Qx)) ∧ (rv12 = 0 → M_X6_bit x2 S10 (fun rv21 S19 => r32 rv21 → okC S19 → (r32 (x2 + 1) ∧ R_X6_unbalanced_4 (zor x1 rv21) (x2 + 1) S19 Qr Qx)) Qx))) Qx)))))) : R_X6_unbalanced_4 x1 x2 S Qr Qx := by
  intro rx1 rx2
  intro p l e s m args below meth c G A C hok
  have h := h rx1 rx2 hok
  replace C : Cx wC cX6_unbalanced 3 RX6 wsX6_unbalanced (some .int) [] p l s m args meth c G A := C
  show J wC 3 rmX6_unbalanced p l e s m args below meth c G A (QQ 1 wC okC G Qr Qx A below args s rmX6_unbalanced.cells rmX6_unbalanced.slots) 0 0 S [some (.ref (G.2.2 0)), some (iV x1), some (iV x2)] [] 4
  refine J_iload_n (pc := 4) C dX6_unbalanced_4 rfl ?_
  refine J_aload_n (pc := 5) C dX6_unbalanced_5 rfl ?_
  refine J_get (pc := 6) C dX6_unbalanced_6 0 rfl rfl nX6_unbalanced_X6 0 (by decide) mX6_unbalanced_f10 rfl (v := .ref (G.2.2 1)) rfl ?_
  refine J_get (pc := 9) C dX6_unbalanced_9 1 rfl rfl nX6_unbalanced_X1 4 (by decide) mX6_unbalanced_f155 rfl (v := iV (S 1 4)) rfl ?_
  obtain ⟨h1, h2⟩ := h
  refine J_icmp_ge (pc := 12) (tgt := 48) C dX6_unbalanced_12 (by decide) rx2 (hok 1 4) (fun cb => ?_) (fun cb => ?_)
  · have h1 := h1 cb
    refine J_iload_n (pc := 48) C dX6_unbalanced_48 rfl ?_
    exact J_iret (pc := 49) C dX6_unbalanced_49 rx1 hok h1 (by decide) (by decide)
  · have h2 := h2 cb
    refine J_aload_n (pc := 15) C dX6_unbalanced_15 rfl ?_
    refine J_get (pc := 16) C dX6_unbalanced_16 0 rfl rfl nX6_unbalanced_X6 0 (by decide) mX6_unbalanced_f10 rfl (v := .ref (G.2.2 1)) rfl ?_
    refine J_get (pc := 19) C dX6_unbalanced_19 1 rfl rfl nX6_unbalanced_X1 2 (by decide) mX6_unbalanced_f77 rfl (v := .ref (G.2.2 9)) rfl ?_
    refine J_iload_n (pc := 22) C dX6_unbalanced_22 rfl ?_
    obtain ⟨o3, h4⟩ := h2
    refine J_zald (pc := 23) C dX6_unbalanced_23 9 9 rfl (by decide) o3 ?_
    obtain ⟨h5, h6⟩ := h4
    refine J_if_ne (pc := 24) (tgt := 42) C dX6_unbalanced_24 (by decide) (r01 (hok 9 x2)) (fun cb => ?_) (fun cb => ?_)
    · have h5 := h5 cb
      refine J_iinc (pc := 42) C dX6_unbalanced_42 rfl (by decide) ?_
      refine J_goto (pc := 45) (tgt := 4) C dX6_unbalanced_45 (by decide) ?_
      obtain ⟨o7, h8⟩ := h5
      exact J_sub (L1 := [some (.ref (G.2.2 0)), some (iV x1), some (iV (x2 + 1))]) ⟨rfl, ⟨rfl, ⟨rfl, trivial⟩⟩⟩ (h8 rx1 o7 p l e s m args below meth c G A C hok)
    · have h6 := h6 cb
      refine J_aload_n (pc := 27) C dX6_unbalanced_27 rfl ?_
      refine J_iload_n (pc := 28) C dX6_unbalanced_28 rfl ?_
      refine J_c1 (pc := 29) C (J_rV (pc := 29) C (h6 rx2) dX6_unbalanced_29 rfl rfl 0 rfl rfl (cwV 1 C.1.2.2.2.2 gX6_unbalanced_X6_isBalanced rfl rfl rfl (by decide +kernel) ⟨Nat.le_of_ble_eq_true rfl, Nat.le_of_ble_eq_true rfl⟩) hok (Nat.le_of_ble_eq_true rfl) ⟨Nat.le_of_ble_eq_true rfl, Nat.le_of_ble_eq_true rfl⟩) (fun E9 S9 ok9 q9 => JX_out C ok9 q9 (by decide) (by decide)) (fun rv12 S10 hr13 hok11 h9 => ?_)
      have h9 := h9 hr13 hok11
      obtain ⟨h14, h15⟩ := h9
      refine J_if_ne (pc := 32) (tgt := 42) C dX6_unbalanced_32 (by decide) hr13 (fun cb => ?_) (fun cb => ?_)
      · have h14 := h14 cb
        refine J_iinc (pc := 42) C dX6_unbalanced_42 rfl (by decide) ?_
        refine J_goto (pc := 45) (tgt := 4) C dX6_unbalanced_45 (by decide) ?_
        obtain ⟨o16, h17⟩ := h14
        exact J_sub (L1 := [some (.ref (G.2.2 0)), some (iV x1), some (iV (x2 + 1))]) ⟨rfl, ⟨rfl, ⟨rfl, trivial⟩⟩⟩ (h17 rx1 o16 p l e s m args below meth c G A C hok11)
      · have h15 := h15 cb
        refine J_iload_n (pc := 35) C dX6_unbalanced_35 rfl ?_
        refine J_iload_n (pc := 36) C dX6_unbalanced_36 rfl ?_
        refine J_c1 (pc := 37) C (J_rS (pc := 37) C (h15 rx2) dX6_unbalanced_37 rfl rfl (va_cwS 1 C.1.2.2.2.2 gX6_unbalanced_X6_bit rfl rfl rfl (by decide +kernel) ⟨Nat.le_of_ble_eq_true rfl, Nat.le_of_ble_eq_true rfl⟩) hok11 (Nat.le_of_ble_eq_true rfl) ⟨Nat.le_of_ble_eq_true rfl, Nat.le_of_ble_eq_true rfl⟩) (fun E9 S9 ok9 q9 => JX_out C ok9 q9 (by decide) (by decide)) (fun rv21 S19 hr22 hok20 h18 => ?_)
        have h18 := h18 hr22 hok20
        refine J_ior (pc := 40) C dX6_unbalanced_40 ?_
        refine J_istore_n (pc := 41) C dX6_unbalanced_41 (by decide) ?_
        refine J_iinc (pc := 42) C dX6_unbalanced_42 rfl (by decide) ?_
        refine J_goto (pc := 45) (tgt := 4) C dX6_unbalanced_45 (by decide) ?_
        obtain ⟨o23, h24⟩ := h18
        exact J_sub (L1 := [some (.ref (G.2.2 0)), some (iV (zor x1 rv21)), some (iV (x2 + 1))]) ⟨rfl, ⟨rfl, ⟨rfl, trivial⟩⟩⟩ (h24 (r_zor _ _) o23 p l e s m args below meth c G A C hok20)
def rmX6_isProper : Room := { frames := 3, cells := 0, slots := 0, locals := 69 }
theorem mX6_isProper_f19 : Cond.fieldLink RX6 19 "Stresswork" "members" "LStresswork$Members;" ∈ wsX6_isProper := by decide +kernel
theorem nX6_isProper_X6 : ∀ x ∈ wsX60, x ∈ wsX6_isProper := by decide +kernel
theorem mX6_isProper_f235 : Cond.fieldLink RX6 235 "Stresswork$Members" "count" "I" ∈ wsX6_isProper := by decide +kernel
theorem nX6_isProper_X3 : ∀ x ∈ wsX30, x ∈ wsX6_isProper := by decide +kernel
theorem mX6_isProper_f229 : Cond.fieldLink RX6 229 "Stresswork$Members" "told" "[I" ∈ wsX6_isProper := by decide +kernel
def M_X6_isProper (S : St) (Qr : Int → St → Prop) (Qx : String → St → Prop) : Prop := MM 1 wC okC yX6_isProper wsX6_isProper rmX6_isProper (fun G => [.ref (G.2.2 0)]) S Qr Qx
def R_X6_isProper_4 (x1 x2 : Int) (S : St) (Qr : Int → St → Prop) (Qx : String → St → Prop) : Prop := r32 x1 → r32 x2 → RR 1 wC okC wsX6_isProper rmX6_isProper cX6_isProper 3 RX6 (some .boolean) [] 0 0 (fun G => [some (.ref (G.2.2 0)), some (iV x1), some (iV x2)]) (fun G => []) 4 S Qr Qx
set_option maxRecDepth 100000 in
set_option maxHeartbeats 4000000 in
theorem vc_X6_isProper {S : St} {Qr : Int → St → Prop} {Qx : String → St → Prop} (h : okC S → R_X6_isProper_4 0 0 S Qr Qx) : M_X6_isProper S Qr Qx := by
  refine MM_of adC (by decide +kernel) rfl (Lf := fun G => [some (.ref (G.2.2 0)), none, none]) (fun G => by show _ ≤ _; exact Nat.le_of_ble_eq_true rfl) (fun G => rfl) ?_
  intro p l e s m args below meth c G A C hok
  have h := h hok
  replace C : Cx wC cX6_isProper 3 RX6 wsX6_isProper (some .boolean) [] p l s m args meth c G A := C
  show J wC 3 rmX6_isProper p l e s m args below meth c G A (QQ 1 wC okC G Qr Qx A below args s rmX6_isProper.cells rmX6_isProper.slots) 0 0 S [some (.ref (G.2.2 0)), none, none] [] 0
  refine J_iconst (pc := 0) C dX6_isProper_0 ?_
  refine J_istore_n (pc := 1) C dX6_isProper_1 (by decide) ?_
  refine J_iconst (pc := 2) C dX6_isProper_2 ?_
  refine J_istore_n (pc := 3) C dX6_isProper_3 (by decide) ?_
  exact J_sub (L1 := [some (.ref (G.2.2 0)), some (iV 0), some (iV 0)]) ⟨rfl, ⟨rfl, ⟨rfl, trivial⟩⟩⟩ (h (by decide) (by decide) p l e s m args below meth c G A C hok)
set_option maxRecDepth 100000 in
set_option maxHeartbeats 4000000 in
theorem vc_X6_isProper_4 {x1 x2 : Int} {S : St} {Qr : Int → St → Prop} {Qx : String → St → Prop} (h : r32 x1 → r32 x2 → okC S → (((S 2 5) ≤ x2 → ((x1 = 0 → Qr 0 S) ∧ (x1 ≠ 0 → M_X6_unbalanced S (fun rv8 S6 => r32 rv8 → okC S6 → ((rv8 ≠ 0 → Qr 0 S6) ∧ (rv8 = 0 → Qr 1 S6))) Qx))) ∧ (x2 < (S 2 5) → M_X3_has x2 S (fun rv15 S13 => r32 rv15 → okC S13 → ((rv15 = 0 → (r32 (x2 + 1) ∧ R_X6_isProper_4 x1 (x2 + 1) S13 Qr Qx)) ∧ (rv15 ≠ 0 → M_X3_isWronglyTold x2 S13 (fun rv24 S22 => r32 rv24 → okC S22 → ((rv24 = 0 → (ix x2 40 ∧ (((S22 14 x2) = 0 → (r32 (x2 + 1) ∧ R_X6_isProper_4 x1 (x2 + 1) S22 Qr Qx)) ∧ ((S22 14 x2) ≠ 0 → (r32 (x2 + 1) ∧ R_X6_isProper_4 1 (x2 + 1) S22 Qr Qx))))) ∧ (rv24 ≠ 0 → Qr 0 S22))) Qx))) Qx))) : R_X6_isProper_4 x1 x2 S Qr Qx := by
  intro rx1 rx2
  intro p l e s m args below meth c G A C hok
  have h := h rx1 rx2 hok
  replace C : Cx wC cX6_isProper 3 RX6 wsX6_isProper (some .boolean) [] p l s m args meth c G A := C
  show J wC 3 rmX6_isProper p l e s m args below meth c G A (QQ 1 wC okC G Qr Qx A below args s rmX6_isProper.cells rmX6_isProper.slots) 0 0 S [some (.ref (G.2.2 0)), some (iV x1), some (iV x2)] [] 4
  refine J_iload_n (pc := 4) C dX6_isProper_4 rfl ?_
  refine J_aload_n (pc := 5) C dX6_isProper_5 rfl ?_
  refine J_get (pc := 6) C dX6_isProper_6 0 rfl rfl nX6_isProper_X6 1 (by decide) mX6_isProper_f19 rfl (v := .ref (G.2.2 2)) rfl ?_
  refine J_get (pc := 9) C dX6_isProper_9 2 rfl rfl nX6_isProper_X3 5 (by decide) mX6_isProper_f235 rfl (v := iV (S 2 5)) rfl ?_
  obtain ⟨h1, h2⟩ := h
  refine J_icmp_ge (pc := 12) (tgt := 59) C dX6_isProper_12 (by decide) rx2 (hok 2 5) (fun cb => ?_) (fun cb => ?_)
  · have h1 := h1 cb
    refine J_iload_n (pc := 59) C dX6_isProper_59 rfl ?_
    obtain ⟨h3, h4⟩ := h1
    refine J_if_eq (pc := 60) (tgt := 74) C dX6_isProper_60 (by decide) rx1 (fun cb => ?_) (fun cb => ?_)
    · have h3 := h3 cb
      refine J_iconst (pc := 74) C dX6_isProper_74 ?_
      exact J_zret (pc := 75) C dX6_isProper_75 (by decide) hok h3 (by decide) (by decide)
    · have h4 := h4 cb
      refine J_aload_n (pc := 63) C dX6_isProper_63 rfl ?_
      refine J_c1 (pc := 64) C (J_rV (pc := 64) C h4 dX6_isProper_64 rfl rfl 0 rfl rfl (cwV 0 C.1.2.2.2.2 gX6_isProper_X6_unbalanced rfl rfl rfl (by decide +kernel) ⟨Nat.le_of_ble_eq_true rfl, Nat.le_of_ble_eq_true rfl⟩) hok (Nat.le_of_ble_eq_true rfl) ⟨Nat.le_of_ble_eq_true rfl, Nat.le_of_ble_eq_true rfl⟩) (fun E9 S9 ok9 q9 => JX_out C ok9 q9 (by decide) (by decide)) (fun rv8 S6 hr9 hok7 h5 => ?_)
      have h5 := h5 hr9 hok7
      obtain ⟨h10, h11⟩ := h5
      refine J_if_ne (pc := 67) (tgt := 74) C dX6_isProper_67 (by decide) hr9 (fun cb => ?_) (fun cb => ?_)
      · have h10 := h10 cb
        refine J_iconst (pc := 74) C dX6_isProper_74 ?_
        exact J_zret (pc := 75) C dX6_isProper_75 (by decide) hok7 h10 (by decide) (by decide)
      · have h11 := h11 cb
        refine J_iconst (pc := 70) C dX6_isProper_70 ?_
        refine J_goto (pc := 71) (tgt := 75) C dX6_isProper_71 (by decide) ?_
        exact J_zret (pc := 75) C dX6_isProper_75 (by decide) hok7 h11 (by decide) (by decide)
  · have h2 := h2 cb
    refine J_aload_n (pc := 15) C dX6_isProper_15 rfl ?_
    refine J_get (pc := 16) C dX6_isProper_16 0 rfl rfl nX6_isProper_X6 1 (by decide) mX6_isProper_f19 rfl (v := .ref (G.2.2 2)) rfl ?_
    refine J_iload_n (pc := 19) C dX6_isProper_19 rfl ?_
    refine J_c1 (pc := 20) C (J_rV (pc := 20) C (h2 rx2) dX6_isProper_20 rfl rfl 2 rfl rfl (cwV 1 C.1.2.2.2.2 gX6_isProper_X3_has rfl rfl rfl (by decide +kernel) ⟨Nat.le_of_ble_eq_true rfl, Nat.le_of_ble_eq_true rfl⟩) hok (Nat.le_of_ble_eq_true rfl) ⟨Nat.le_of_ble_eq_true rfl, Nat.le_of_ble_eq_true rfl⟩) (fun E9 S9 ok9 q9 => JX_out C ok9 q9 (by decide) (by decide)) (fun rv15 S13 hr16 hok14 h12 => ?_)
    have h12 := h12 hr16 hok14
    obtain ⟨h17, h18⟩ := h12
    refine J_if_eq (pc := 23) (tgt := 53) C dX6_isProper_23 (by decide) hr16 (fun cb => ?_) (fun cb => ?_)
    · have h17 := h17 cb
      refine J_iinc (pc := 53) C dX6_isProper_53 rfl (by decide) ?_
      refine J_goto (pc := 56) (tgt := 4) C dX6_isProper_56 (by decide) ?_
      obtain ⟨o19, h20⟩ := h17
      exact J_sub (L1 := [some (.ref (G.2.2 0)), some (iV x1), some (iV (x2 + 1))]) ⟨rfl, ⟨rfl, ⟨rfl, trivial⟩⟩⟩ (h20 rx1 o19 p l e s m args below meth c G A C hok14)
    · have h18 := h18 cb
      refine J_aload_n (pc := 26) C dX6_isProper_26 rfl ?_
      refine J_get (pc := 27) C dX6_isProper_27 0 rfl rfl nX6_isProper_X6 1 (by decide) mX6_isProper_f19 rfl (v := .ref (G.2.2 2)) rfl ?_
      refine J_iload_n (pc := 30) C dX6_isProper_30 rfl ?_
      refine J_c1 (pc := 31) C (J_rV (pc := 31) C (h18 rx2) dX6_isProper_31 rfl rfl 2 rfl rfl (cwV 1 C.1.2.2.2.2 gX6_isProper_X3_isWronglyTold rfl rfl rfl (by decide +kernel) ⟨Nat.le_of_ble_eq_true rfl, Nat.le_of_ble_eq_true rfl⟩) hok14 (Nat.le_of_ble_eq_true rfl) ⟨Nat.le_of_ble_eq_true rfl, Nat.le_of_ble_eq_true rfl⟩) (fun E9 S9 ok9 q9 => JX_out C ok9 q9 (by decide) (by decide)) (fun rv24 S22 hr25 hok23 h21 => ?_)
      have h21 := h21 hr25 hok23
      obtain ⟨h26, h27⟩ := h21
      refine J_if_eq (pc := 34) (tgt := 39) C dX6_isProper_34 (by decide) hr25 (fun cb => ?_) (fun cb => ?_)
      · have h26 := h26 cb
        refine J_aload_n (pc := 39) C dX6_isProper_39 rfl ?_
        refine J_get (pc := 40) C dX6_isProper_40 0 rfl rfl nX6_isProper_X6 1 (by decide) mX6_isProper_f19 rfl (v := .ref (G.2.2 2)) rfl ?_
        refine J_get (pc := 43) C dX6_isProper_43 2 rfl rfl nX6_isProper_X3 3 (by decide) mX6_isProper_f229 rfl (v := .ref (G.2.2 14)) rfl ?_
        refine J_iload_n (pc := 46) C dX6_isProper_46 rfl ?_
        obtain ⟨o28, h29⟩ := h26
        refine J_iald (pc := 47) C dX6_isProper_47 14 14 rfl (by decide) o28 ?_
        obtain ⟨h30, h31⟩ := h29
        refine J_if_eq (pc := 48) (tgt := 53) C dX6_isProper_48 (by decide) (hok23 14 x2) (fun cb => ?_) (fun cb => ?_)
        · have h30 := h30 cb
          refine J_iinc (pc := 53) C dX6_isProper_53 rfl (by decide) ?_
          refine J_goto (pc := 56) (tgt := 4) C dX6_isProper_56 (by decide) ?_
          obtain ⟨o32, h33⟩ := h30
          exact J_sub (L1 := [some (.ref (G.2.2 0)), some (iV x1), some (iV (x2 + 1))]) ⟨rfl, ⟨rfl, ⟨rfl, trivial⟩⟩⟩ (h33 rx1 o32 p l e s m args below meth c G A C hok23)
        · have h31 := h31 cb
          refine J_iconst (pc := 51) C dX6_isProper_51 ?_
          refine J_istore_n (pc := 52) C dX6_isProper_52 (by decide) ?_
          refine J_iinc (pc := 53) C dX6_isProper_53 rfl (by decide) ?_
          refine J_goto (pc := 56) (tgt := 4) C dX6_isProper_56 (by decide) ?_
          obtain ⟨o34, h35⟩ := h31
          exact J_sub (L1 := [some (.ref (G.2.2 0)), some (iV 1), some (iV (x2 + 1))]) ⟨rfl, ⟨rfl, ⟨rfl, trivial⟩⟩⟩ (h35 (by decide) o34 p l e s m args below meth c G A C hok23)
      · have h27 := h27 cb
        refine J_iconst (pc := 37) C dX6_isProper_37 ?_
        exact J_zret (pc := 38) C dX6_isProper_38 (by decide) hok23 h27 (by decide) (by decide)
def rmX6_rankWithout : Room := { frames := 5, cells := 0, slots := 0, locals := 121 }
theorem mX6_rankWithout_f40 : Cond.fieldLink RX6 40 "Stresswork" "grid" "LStresswork$Grid;" ∈ wsX6_rankWithout := by decide +kernel
theorem nX6_rankWithout_X6 : ∀ x ∈ wsX60, x ∈ wsX6_rankWithout := by decide +kernel
def M_X6_rankWithout (a0 : Int) (S : St) (Qr : Int → St → Prop) (Qx : String → St → Prop) : Prop := r32 a0 → MM 1 wC okC yX6_rankWithout wsX6_rankWithout rmX6_rankWithout (fun G => [.ref (G.2.2 0), iV a0]) S Qr Qx
set_option maxRecDepth 100000 in
set_option maxHeartbeats 4000000 in
theorem vc_X6_rankWithout {a0 : Int} {S : St} {Qr : Int → St → Prop} {Qx : String → St → Prop} (h : r32 a0 → okC S → M_X6_writeRows a0 S (fun _ S2 => okC S2 → M_X0_reduce S2 (fun rv9 S7 => r32 rv9 → okC S7 → Qr rv9 S7) Qx) Qx) : M_X6_rankWithout a0 S Qr Qx := by
  intro ra0
  refine MM_of adC (by decide +kernel) rfl (Lf := fun G => [some (.ref (G.2.2 0)), some (iV a0)]) (fun G => by show _ ≤ _; exact Nat.le_of_ble_eq_true rfl) (fun G => rfl) ?_
  intro p l e s m args below meth c G A C hok
  have h := h ra0 hok
  replace C : Cx wC cX6_rankWithout 2 RX6 wsX6_rankWithout (some .int) [] p l s m args meth c G A := C
  show J wC 2 rmX6_rankWithout p l e s m args below meth c G A (QQ 1 wC okC G Qr Qx A below args s rmX6_rankWithout.cells rmX6_rankWithout.slots) 0 0 S [some (.ref (G.2.2 0)), some (iV a0)] [] 0
  refine J_aload_n (pc := 0) C dX6_rankWithout_0 rfl ?_
  refine J_iload_n (pc := 1) C dX6_rankWithout_1 rfl ?_
  refine J_c0 (pc := 2) C (J_rV (pc := 2) C (h ra0) dX6_rankWithout_2 rfl rfl 0 rfl rfl (cwV 1 C.1.2.2.2.2 gX6_rankWithout_X6_writeRows rfl rfl rfl (by decide +kernel) ⟨Nat.le_of_ble_eq_true rfl, Nat.le_of_ble_eq_true rfl⟩) hok (Nat.le_of_ble_eq_true rfl) ⟨Nat.le_of_ble_eq_true rfl, Nat.le_of_ble_eq_true rfl⟩) (fun E9 S9 ok9 q9 => JX_out C ok9 q9 (by decide) (by decide)) (fun S2 hok3 h1 => ?_)
  have h1 := h1 hok3
  refine J_aload_n (pc := 5) C dX6_rankWithout_5 rfl ?_
  refine J_get (pc := 6) C dX6_rankWithout_6 0 rfl rfl nX6_rankWithout_X6 4 (by decide) mX6_rankWithout_f40 rfl (v := .ref (G.2.2 5)) rfl ?_
  refine J_c1 (pc := 9) C (J_rV (pc := 9) C h1 dX6_rankWithout_9 rfl rfl 5 rfl rfl (cwV 0 C.1.2.2.2.2 gX6_rankWithout_X0_reduce rfl rfl rfl (by decide +kernel) ⟨Nat.le_of_ble_eq_true rfl, Nat.le_of_ble_eq_true rfl⟩) hok3 (Nat.le_of_ble_eq_true rfl) ⟨Nat.le_of_ble_eq_true rfl, Nat.le_of_ble_eq_true rfl⟩) (fun E9 S9 ok9 q9 => JX_out C ok9 q9 (by decide) (by decide)) (fun rv9 S7 hr10 hok8 h6 => ?_)
  have h6 := h6 hr10 hok8
  exact J_iret (pc := 12) C dX6_rankWithout_12 hr10 hok8 h6 (by decide) (by decide)
def rmX6_isRedundant : Room := { frames := 7, cells := 1, slots := 6, locals := 142 }
theorem mX6_isRedundant_f33 : Cond.fieldLink RX6 33 "Stresswork" "layout" "LStresswork$Layout;" ∈ wsX6_isRedundant := by decide +kernel
theorem nX6_isRedundant_X6 : ∀ x ∈ wsX60, x ∈ wsX6_isRedundant := by decide +kernel
theorem mX6_isRedundant_f10 : Cond.fieldLink RX6 10 "Stresswork" "joints" "LStresswork$Joints;" ∈ wsX6_isRedundant := by decide +kernel
def M_X6_isRedundant (a0 : Int) (S : St) (Qr : Int → St → Prop) (Qx : String → St → Prop) : Prop := r32 a0 → MM 1 wC okC yX6_isRedundant wsX6_isRedundant rmX6_isRedundant (fun G => [.ref (G.2.2 0), iV a0]) S Qr Qx
set_option maxRecDepth 100000 in
set_option maxHeartbeats 4000000 in
theorem vc_X6_isRedundant {a0 : Int} {S : St} {Qr : Int → St → Prop} {Qx : String → St → Prop} (h : r32 a0 → okC S → M_X6_requireMember a0 S (fun _ S2 => okC S2 → M_X2_takeJoints S2 (fun _ S7 => okC S7 → M_X6_rankWithout a0 S7 (fun rv14 S12 => r32 rv14 → okC S12 → M_X6_rankWithout (-1) S12 (fun rv19 S17 => r32 rv19 → okC S17 → ((rv14 ≠ rv19 → Qr 0 S17) ∧ (rv14 = rv19 → Qr 1 S17))) Qx) Qx) Qx) Qx) : M_X6_isRedundant a0 S Qr Qx := by
  intro ra0
  refine MM_of adC (by decide +kernel) rfl (Lf := fun G => [some (.ref (G.2.2 0)), some (iV a0)]) (fun G => by show _ ≤ _; exact Nat.le_of_ble_eq_true rfl) (fun G => rfl) ?_
  intro p l e s m args below meth c G A C hok
  have h := h ra0 hok
  replace C : Cx wC cX6_isRedundant 2 RX6 wsX6_isRedundant (some .boolean) [] p l s m args meth c G A := C
  show J wC 2 rmX6_isRedundant p l e s m args below meth c G A (QQ 1 wC okC G Qr Qx A below args s rmX6_isRedundant.cells rmX6_isRedundant.slots) 0 0 S [some (.ref (G.2.2 0)), some (iV a0)] [] 0
  refine J_aload_n (pc := 0) C dX6_isRedundant_0 rfl ?_
  refine J_iload_n (pc := 1) C dX6_isRedundant_1 rfl ?_
  refine J_c0 (pc := 2) C (J_rV (pc := 2) C (h ra0) dX6_isRedundant_2 rfl rfl 0 rfl rfl (cwV 1 C.1.2.2.2.2 gX6_isRedundant_X6_requireMember rfl rfl rfl (by decide +kernel) ⟨Nat.le_of_ble_eq_true rfl, Nat.le_of_ble_eq_true rfl⟩) hok (Nat.le_of_ble_eq_true rfl) ⟨Nat.le_of_ble_eq_true rfl, Nat.le_of_ble_eq_true rfl⟩) (fun E9 S9 ok9 q9 => JX_out C ok9 q9 (by decide) (by decide)) (fun S2 hok3 h1 => ?_)
  have h1 := h1 hok3
  refine J_aload_n (pc := 5) C dX6_isRedundant_5 rfl ?_
  refine J_get (pc := 6) C dX6_isRedundant_6 0 rfl rfl nX6_isRedundant_X6 3 (by decide) mX6_isRedundant_f33 rfl (v := .ref (G.2.2 4)) rfl ?_
  refine J_aload_n (pc := 9) C dX6_isRedundant_9 rfl ?_
  refine J_get (pc := 10) C dX6_isRedundant_10 0 rfl rfl nX6_isRedundant_X6 0 (by decide) mX6_isRedundant_f10 rfl (v := .ref (G.2.2 1)) rfl ?_
  refine J_c0 (pc := 13) C (J_rV (pc := 13) C h1 dX6_isRedundant_13 rfl rfl 4 rfl rfl (cwV 1 C.1.2.2.2.2 gX6_isRedundant_X2_takeJoints rfl rfl rfl (by decide +kernel) ⟨Nat.le_of_ble_eq_true rfl, Nat.le_of_ble_eq_true rfl⟩) hok3 (Nat.le_of_ble_eq_true rfl) ⟨Nat.le_of_ble_eq_true rfl, Nat.le_of_ble_eq_true rfl⟩) (fun E9 S9 ok9 q9 => JX_out C ok9 q9 (by decide) (by decide)) (fun S7 hok8 h6 => ?_)
  have h6 := h6 hok8
  refine J_aload_n (pc := 16) C dX6_isRedundant_16 rfl ?_
  refine J_iload_n (pc := 17) C dX6_isRedundant_17 rfl ?_
  refine J_c1 (pc := 18) C (J_rV (pc := 18) C (h6 ra0) dX6_isRedundant_18 rfl rfl 0 rfl rfl (cwV 1 C.1.2.2.2.2 gX6_isRedundant_X6_rankWithout rfl rfl rfl (by decide +kernel) ⟨Nat.le_of_ble_eq_true rfl, Nat.le_of_ble_eq_true rfl⟩) hok8 (Nat.le_of_ble_eq_true rfl) ⟨Nat.le_of_ble_eq_true rfl, Nat.le_of_ble_eq_true rfl⟩) (fun E9 S9 ok9 q9 => JX_out C ok9 q9 (by decide) (by decide)) (fun rv14 S12 hr15 hok13 h11 => ?_)
  have h11 := h11 hr15 hok13
  refine J_aload_n (pc := 21) C dX6_isRedundant_21 rfl ?_
  refine J_iconst (pc := 22) C dX6_isRedundant_22 ?_
  refine J_c1 (pc := 23) C (J_rV (pc := 23) C (h11 (by decide)) dX6_isRedundant_23 rfl rfl 0 rfl rfl (cwV 1 C.1.2.2.2.2 gX6_isRedundant_X6_rankWithout rfl rfl rfl (by decide +kernel) ⟨Nat.le_of_ble_eq_true rfl, Nat.le_of_ble_eq_true rfl⟩) hok13 (Nat.le_of_ble_eq_true rfl) ⟨Nat.le_of_ble_eq_true rfl, Nat.le_of_ble_eq_true rfl⟩) (fun E9 S9 ok9 q9 => JX_out C ok9 q9 (by decide) (by decide)) (fun rv19 S17 hr20 hok18 h16 => ?_)
  have h16 := h16 hr20 hok18
  obtain ⟨h21, h22⟩ := h16
  refine J_icmp_ne (pc := 26) (tgt := 33) C dX6_isRedundant_26 (by decide) hr15 hr20 (fun cb => ?_) (fun cb => ?_)
  · have h21 := h21 cb
    refine J_iconst (pc := 33) C dX6_isRedundant_33 ?_
    exact J_zret (pc := 34) C dX6_isRedundant_34 (by decide) hok18 h21 (by decide) (by decide)
  · have h22 := h22 cb
    refine J_iconst (pc := 29) C dX6_isRedundant_29 ?_
    refine J_goto (pc := 30) (tgt := 34) C dX6_isRedundant_30 (by decide) ?_
    exact J_zret (pc := 34) C dX6_isRedundant_34 (by decide) hok18 h22 (by decide) (by decide)
def rmX6_joint : Room := { frames := 7, cells := 2, slots := 12, locals := 103 }
theorem mX6_joint_f10 : Cond.fieldLink RX6 10 "Stresswork" "joints" "LStresswork$Joints;" ∈ wsX6_joint := by decide +kernel
theorem nX6_joint_X6 : ∀ x ∈ wsX60, x ∈ wsX6_joint := by decide +kernel
def M_X6_joint (a0 a1 : Int) (S : St) (Qr : Int → St → Prop) (Qx : String → St → Prop) : Prop := r32 a0 → r32 a1 → MM 1 wC okC yX6_joint wsX6_joint rmX6_joint (fun G => [.ref (G.2.2 0), iV a0, iV a1]) S Qr Qx
set_option maxRecDepth 100000 in
set_option maxHeartbeats 4000000 in
theorem vc_X6_joint {a0 a1 : Int} {S : St} {Qr : Int → St → Prop} {Qx : String → St → Prop} (h : r32 a0 → r32 a1 → okC S → M_X6_requirePoint a0 a1 S (fun _ S2 => okC S2 → M_X6_requireRoomForJoint S2 (fun _ S7 => okC S7 → M_X1_add a0 a1 S7 (fun rv14 S12 => r32 rv14 → okC S12 → Qr rv14 S12) Qx) Qx) Qx) : M_X6_joint a0 a1 S Qr Qx := by
  intro ra0 ra1
  refine MM_of adC (by decide +kernel) rfl (Lf := fun G => [some (.ref (G.2.2 0)), some (iV a0), some (iV a1)]) (fun G => by show _ ≤ _; exact Nat.le_of_ble_eq_true rfl) (fun G => rfl) ?_
  intro p l e s m args below meth c G A C hok
  have h := h ra0 ra1 hok
  replace C : Cx wC cX6_joint 3 RX6 wsX6_joint (some .int) [] p l s m args meth c G A := C
  show J wC 3 rmX6_joint p l e s m args below meth c G A (QQ 1 wC okC G Qr Qx A below args s rmX6_joint.cells rmX6_joint.slots) 0 0 S [some (.ref (G.2.2 0)), some (iV a0), some (iV a1)] [] 0
  refine J_iload_n (pc := 0) C dX6_joint_0 rfl ?_
  refine J_iload_n (pc := 1) C dX6_joint_1 rfl ?_
  refine J_c0 (pc := 2) C (J_rS (pc := 2) C (h ra0 ra1) dX6_joint_2 rfl rfl (va_cwS 2 C.1.2.2.2.2 gX6_joint_X6_requirePoint rfl rfl rfl (by decide +kernel) ⟨Nat.le_of_ble_eq_true rfl, Nat.le_of_ble_eq_true rfl⟩) hok (Nat.le_of_ble_eq_true rfl) ⟨Nat.le_of_ble_eq_true rfl, Nat.le_of_ble_eq_true rfl⟩) (fun E9 S9 ok9 q9 => JX_out C ok9 q9 (by decide) (by decide)) (fun S2 hok3 h1 => ?_)
  have h1 := h1 hok3
  refine J_aload_n (pc := 5) C dX6_joint_5 rfl ?_
  refine J_c0 (pc := 6) C (J_rV (pc := 6) C h1 dX6_joint_6 rfl rfl 0 rfl rfl (cwV 0 C.1.2.2.2.2 gX6_joint_X6_requireRoomForJoint rfl rfl rfl (by decide +kernel) ⟨Nat.le_of_ble_eq_true rfl, Nat.le_of_ble_eq_true rfl⟩) hok3 (Nat.le_of_ble_eq_true rfl) ⟨Nat.le_of_ble_eq_true rfl, Nat.le_of_ble_eq_true rfl⟩) (fun E9 S9 ok9 q9 => JX_out C ok9 q9 (by decide) (by decide)) (fun S7 hok8 h6 => ?_)
  have h6 := h6 hok8
  refine J_aload_n (pc := 9) C dX6_joint_9 rfl ?_
  refine J_get (pc := 10) C dX6_joint_10 0 rfl rfl nX6_joint_X6 0 (by decide) mX6_joint_f10 rfl (v := .ref (G.2.2 1)) rfl ?_
  refine J_iload_n (pc := 13) C dX6_joint_13 rfl ?_
  refine J_iload_n (pc := 14) C dX6_joint_14 rfl ?_
  refine J_c1 (pc := 15) C (J_rV (pc := 15) C (h6 ra0 ra1) dX6_joint_15 rfl rfl 1 rfl rfl (cwV 2 C.1.2.2.2.2 gX6_joint_X1_add rfl rfl rfl (by decide +kernel) ⟨Nat.le_of_ble_eq_true rfl, Nat.le_of_ble_eq_true rfl⟩) hok8 (Nat.le_of_ble_eq_true rfl) ⟨Nat.le_of_ble_eq_true rfl, Nat.le_of_ble_eq_true rfl⟩) (fun E9 S9 ok9 q9 => JX_out C ok9 q9 (by decide) (by decide)) (fun rv14 S12 hr15 hok13 h11 => ?_)
  have h11 := h11 hr15 hok13
  exact J_iret (pc := 18) C dX6_joint_18 hr15 hok13 h11 (by decide) (by decide)
def rmX6_kept : Room := { frames := 5, cells := 0, slots := 0, locals := 122 }
def M_X6_kept (S : St) (Qr : Int → St → Prop) (Qx : String → St → Prop) : Prop := MM 1 wC okC yX6_kept wsX6_kept rmX6_kept (fun G => [.ref (G.2.2 0)]) S Qr Qx
set_option maxRecDepth 100000 in
set_option maxHeartbeats 4000000 in
theorem vc_X6_kept {S : St} {Qr : Int → St → Prop} {Qx : String → St → Prop} (h : okC S → M_X6_keepWithout (-1) S (fun rv4 S2 => r32 rv4 → okC S2 → Qr rv4 S2) Qx) : M_X6_kept S Qr Qx := by
  refine MM_of adC (by decide +kernel) rfl (Lf := fun G => [some (.ref (G.2.2 0))]) (fun G => by show _ ≤ _; exact Nat.le_of_ble_eq_true rfl) (fun G => rfl) ?_
  intro p l e s m args below meth c G A C hok
  have h := h hok
  replace C : Cx wC cX6_kept 1 RX6 wsX6_kept (some .int) [] p l s m args meth c G A := C
  show J wC 1 rmX6_kept p l e s m args below meth c G A (QQ 1 wC okC G Qr Qx A below args s rmX6_kept.cells rmX6_kept.slots) 0 0 S [some (.ref (G.2.2 0))] [] 0
  refine J_aload_n (pc := 0) C dX6_kept_0 rfl ?_
  refine J_iconst (pc := 1) C dX6_kept_1 ?_
  refine J_c1 (pc := 2) C (J_rV (pc := 2) C (h (by decide)) dX6_kept_2 rfl rfl 0 rfl rfl (cwV 1 C.1.2.2.2.2 gX6_kept_X6_keepWithout rfl rfl rfl (by decide +kernel) ⟨Nat.le_of_ble_eq_true rfl, Nat.le_of_ble_eq_true rfl⟩) hok (Nat.le_of_ble_eq_true rfl) ⟨Nat.le_of_ble_eq_true rfl, Nat.le_of_ble_eq_true rfl⟩) (fun E9 S9 ok9 q9 => JX_out C ok9 q9 (by decide) (by decide)) (fun rv4 S2 hr5 hok3 h1 => ?_)
  have h1 := h1 hr5 hok3
  exact J_iret (pc := 5) C dX6_kept_5 hr5 hok3 h1 (by decide) (by decide)
def rmX6_lacks : Room := { frames := 5, cells := 0, slots := 0, locals := 122 }
theorem mX6_lacks_f10 : Cond.fieldLink RX6 10 "Stresswork" "joints" "LStresswork$Joints;" ∈ wsX6_lacks := by decide +kernel
theorem nX6_lacks_X6 : ∀ x ∈ wsX60, x ∈ wsX6_lacks := by decide +kernel
theorem mX6_lacks_f155 : Cond.fieldLink RX6 155 "Stresswork$Joints" "count" "I" ∈ wsX6_lacks := by decide +kernel
theorem nX6_lacks_X1 : ∀ x ∈ wsX10, x ∈ wsX6_lacks := by decide +kernel
def M_X6_lacks (S : St) (Qr : Int → St → Prop) (Qx : String → St → Prop) : Prop := MM 1 wC okC yX6_lacks wsX6_lacks rmX6_lacks (fun G => [.ref (G.2.2 0)]) S Qr Qx
set_option maxRecDepth 100000 in
set_option maxHeartbeats 4000000 in
theorem vc_X6_lacks {S : St} {Qr : Int → St → Prop} {Qx : String → St → Prop} (h : okC S → ((2 ≤ (S 1 4) → M_X6_rigidCount S (fun rv6 S4 => r32 rv6 → okC S4 → M_X6_keepWithout (-1) S4 (fun rv11 S9 => r32 rv11 → okC S9 → (r32 (rv6 - rv11) ∧ Qr (rv6 - rv11) S9)) Qx) Qx) ∧ ((S 1 4) < 2 → Qr (-1) S))) : M_X6_lacks S Qr Qx := by
  refine MM_of adC (by decide +kernel) rfl (Lf := fun G => [some (.ref (G.2.2 0))]) (fun G => by show _ ≤ _; exact Nat.le_of_ble_eq_true rfl) (fun G => rfl) ?_
  intro p l e s m args below meth c G A C hok
  have h := h hok
  replace C : Cx wC cX6_lacks 1 RX6 wsX6_lacks (some .int) [] p l s m args meth c G A := C
  show J wC 1 rmX6_lacks p l e s m args below meth c G A (QQ 1 wC okC G Qr Qx A below args s rmX6_lacks.cells rmX6_lacks.slots) 0 0 S [some (.ref (G.2.2 0))] [] 0
  refine J_aload_n (pc := 0) C dX6_lacks_0 rfl ?_
  refine J_get (pc := 1) C dX6_lacks_1 0 rfl rfl nX6_lacks_X6 0 (by decide) mX6_lacks_f10 rfl (v := .ref (G.2.2 1)) rfl ?_
  refine J_get (pc := 4) C dX6_lacks_4 1 rfl rfl nX6_lacks_X1 4 (by decide) mX6_lacks_f155 rfl (v := iV (S 1 4)) rfl ?_
  refine J_iconst (pc := 7) C dX6_lacks_7 ?_
  obtain ⟨h1, h2⟩ := h
  refine J_icmp_ge (pc := 8) (tgt := 13) C dX6_lacks_8 (by decide) (hok 1 4) (by decide) (fun cb => ?_) (fun cb => ?_)
  · have h1 := h1 cb
    refine J_aload_n (pc := 13) C dX6_lacks_13 rfl ?_
    refine J_c1 (pc := 14) C (J_rV (pc := 14) C h1 dX6_lacks_14 rfl rfl 0 rfl rfl (cwV 0 C.1.2.2.2.2 gX6_lacks_X6_rigidCount rfl rfl rfl (by decide +kernel) ⟨Nat.le_of_ble_eq_true rfl, Nat.le_of_ble_eq_true rfl⟩) hok (Nat.le_of_ble_eq_true rfl) ⟨Nat.le_of_ble_eq_true rfl, Nat.le_of_ble_eq_true rfl⟩) (fun E9 S9 ok9 q9 => JX_out C ok9 q9 (by decide) (by decide)) (fun rv6 S4 hr7 hok5 h3 => ?_)
    have h3 := h3 hr7 hok5
    refine J_aload_n (pc := 17) C dX6_lacks_17 rfl ?_
    refine J_iconst (pc := 18) C dX6_lacks_18 ?_
    refine J_c1 (pc := 19) C (J_rV (pc := 19) C (h3 (by decide)) dX6_lacks_19 rfl rfl 0 rfl rfl (cwV 1 C.1.2.2.2.2 gX6_lacks_X6_keepWithout rfl rfl rfl (by decide +kernel) ⟨Nat.le_of_ble_eq_true rfl, Nat.le_of_ble_eq_true rfl⟩) hok5 (Nat.le_of_ble_eq_true rfl) ⟨Nat.le_of_ble_eq_true rfl, Nat.le_of_ble_eq_true rfl⟩) (fun E9 S9 ok9 q9 => JX_out C ok9 q9 (by decide) (by decide)) (fun rv11 S9 hr12 hok10 h8 => ?_)
    have h8 := h8 hr12 hok10
    refine J_isub (pc := 22) C dX6_lacks_22 ?_
    obtain ⟨o13, h14⟩ := h8
    exact J_iret (pc := 23) C dX6_lacks_23 o13 hok10 h14 (by decide) (by decide)
  · have h2 := h2 cb
    refine J_iconst (pc := 11) C dX6_lacks_11 ?_
    exact J_iret (pc := 12) C dX6_lacks_12 (by decide) hok h2 (by decide) (by decide)
def rmX6_matrix : Room := { frames := 3, cells := 0, slots := 0, locals := 74 }
theorem mX6_matrix_f40 : Cond.fieldLink RX6 40 "Stresswork" "grid" "LStresswork$Grid;" ∈ wsX6_matrix := by decide +kernel
theorem nX6_matrix_X6 : ∀ x ∈ wsX60, x ∈ wsX6_matrix := by decide +kernel
theorem mX6_matrix_f10 : Cond.fieldLink RX6 10 "Stresswork" "joints" "LStresswork$Joints;" ∈ wsX6_matrix := by decide +kernel
theorem mX6_matrix_f155 : Cond.fieldLink RX6 155 "Stresswork$Joints" "count" "I" ∈ wsX6_matrix := by decide +kernel
theorem nX6_matrix_X1 : ∀ x ∈ wsX10, x ∈ wsX6_matrix := by decide +kernel
theorem mX6_matrix_f19 : Cond.fieldLink RX6 19 "Stresswork" "members" "LStresswork$Members;" ∈ wsX6_matrix := by decide +kernel
theorem mX6_matrix_f235 : Cond.fieldLink RX6 235 "Stresswork$Members" "count" "I" ∈ wsX6_matrix := by decide +kernel
theorem nX6_matrix_X3 : ∀ x ∈ wsX30, x ∈ wsX6_matrix := by decide +kernel
theorem mX6_matrix_f168 : Cond.fieldLink RX6 168 "Stresswork$Members" "from" "[I" ∈ wsX6_matrix := by decide +kernel
theorem mX6_matrix_f171 : Cond.fieldLink RX6 171 "Stresswork$Members" "to" "[I" ∈ wsX6_matrix := by decide +kernel
theorem mX6_matrix_f229 : Cond.fieldLink RX6 229 "Stresswork$Members" "told" "[I" ∈ wsX6_matrix := by decide +kernel
def M_X6_matrix (S : St) (Qr : Int → St → Prop) (Qx : String → St → Prop) : Prop := MM 1 wC okC yX6_matrix wsX6_matrix rmX6_matrix (fun G => [.ref (G.2.2 0)]) S Qr Qx
def R_X6_matrix_23 (x1 : Int) (S : St) (Qr : Int → St → Prop) (Qx : String → St → Prop) : Prop := r32 x1 → RR 1 wC okC wsX6_matrix rmX6_matrix cX6_matrix 5 RX6 (some .int) [] 0 0 (fun G => [some (.ref (G.2.2 0)), some (iV x1), none, none, none]) (fun G => []) 23 S Qr Qx
set_option maxRecDepth 100000 in
set_option maxHeartbeats 4000000 in
theorem vc_X6_matrix {S : St} {Qr : Int → St → Prop} {Qx : String → St → Prop} (h : okC S → M_X0_begin (S 1 4) (S 1 4) S (fun _ S2 => okC S2 → R_X6_matrix_23 0 S2 Qr Qx) Qx) : M_X6_matrix S Qr Qx := by
  refine MM_of adC (by decide +kernel) rfl (Lf := fun G => [some (.ref (G.2.2 0)), none, none, none, none]) (fun G => by show _ ≤ _; exact Nat.le_of_ble_eq_true rfl) (fun G => rfl) ?_
  intro p l e s m args below meth c G A C hok
  have h := h hok
  replace C : Cx wC cX6_matrix 5 RX6 wsX6_matrix (some .int) [] p l s m args meth c G A := C
  show J wC 5 rmX6_matrix p l e s m args below meth c G A (QQ 1 wC okC G Qr Qx A below args s rmX6_matrix.cells rmX6_matrix.slots) 0 0 S [some (.ref (G.2.2 0)), none, none, none, none] [] 0
  refine J_aload_n (pc := 0) C dX6_matrix_0 rfl ?_
  refine J_get (pc := 1) C dX6_matrix_1 0 rfl rfl nX6_matrix_X6 4 (by decide) mX6_matrix_f40 rfl (v := .ref (G.2.2 5)) rfl ?_
  refine J_aload_n (pc := 4) C dX6_matrix_4 rfl ?_
  refine J_get (pc := 5) C dX6_matrix_5 0 rfl rfl nX6_matrix_X6 0 (by decide) mX6_matrix_f10 rfl (v := .ref (G.2.2 1)) rfl ?_
  refine J_get (pc := 8) C dX6_matrix_8 1 rfl rfl nX6_matrix_X1 4 (by decide) mX6_matrix_f155 rfl (v := iV (S 1 4)) rfl ?_
  refine J_aload_n (pc := 11) C dX6_matrix_11 rfl ?_
  refine J_get (pc := 12) C dX6_matrix_12 0 rfl rfl nX6_matrix_X6 0 (by decide) mX6_matrix_f10 rfl (v := .ref (G.2.2 1)) rfl ?_
  refine J_get (pc := 15) C dX6_matrix_15 1 rfl rfl nX6_matrix_X1 4 (by decide) mX6_matrix_f155 rfl (v := iV (S 1 4)) rfl ?_
  refine J_c0 (pc := 18) C (J_rV (pc := 18) C (h (hok 1 4) (hok 1 4)) dX6_matrix_18 rfl rfl 5 rfl rfl (cwV 2 C.1.2.2.2.2 gX6_matrix_X0_begin rfl rfl rfl (by decide +kernel) ⟨Nat.le_of_ble_eq_true rfl, Nat.le_of_ble_eq_true rfl⟩) hok (Nat.le_of_ble_eq_true rfl) ⟨Nat.le_of_ble_eq_true rfl, Nat.le_of_ble_eq_true rfl⟩) (fun E9 S9 ok9 q9 => JX_out C ok9 q9 (by decide) (by decide)) (fun S2 hok3 h1 => ?_)
  have h1 := h1 hok3
  refine J_iconst (pc := 21) C dX6_matrix_21 ?_
  refine J_istore_n (pc := 22) C dX6_matrix_22 (by decide) ?_
  exact J_sub (L1 := [some (.ref (G.2.2 0)), some (iV 0), none, none, none]) ⟨rfl, ⟨rfl, trivial⟩⟩ (h1 (by decide) p l e s m args below meth c G A C hok3)
set_option maxRecDepth 100000 in
set_option maxHeartbeats 4000000 in
theorem vc_X6_matrix_23 {x1 : Int} {S : St} {Qr : Int → St → Prop} {Qx : String → St → Prop} (h : r32 x1 → okC S → (((S 2 5) ≤ x1 → M_X0_reduce S (fun rv6 S4 => r32 rv6 → okC S4 → Qr rv6 S4) Qx) ∧ (x1 < (S 2 5) → M_X3_has x1 S (fun rv11 S9 => r32 rv11 → okC S9 → ((rv11 = 0 → (r32 (x1 + 1) ∧ R_X6_matrix_23 (x1 + 1) S9 Qr Qx)) ∧ (rv11 ≠ 0 → (ix x1 40 ∧ (r32 (-(S9 14 x1)) ∧ M_X0_add (S9 11 x1) (S9 12 x1) (-(S9 14 x1)) S9 (fun _ S22 => okC S22 → M_X0_add (S9 12 x1) (S9 11 x1) (-(S9 14 x1)) S22 (fun _ S27 => okC S27 → M_X0_add (S9 11 x1) (S9 11 x1) (S9 14 x1) S27 (fun _ S32 => okC S32 → M_X0_add (S9 12 x1) (S9 12 x1) (S9 14 x1) S32 (fun _ S37 => okC S37 → (r32 (x1 + 1) ∧ R_X6_matrix_23 (x1 + 1) S37 Qr Qx)) Qx) Qx) Qx) Qx))))) Qx))) : R_X6_matrix_23 x1 S Qr Qx := by
  intro rx1
  intro p l e s m args below meth c G A C hok
  have h := h rx1 hok
  replace C : Cx wC cX6_matrix 5 RX6 wsX6_matrix (some .int) [] p l s m args meth c G A := C
  show J wC 5 rmX6_matrix p l e s m args below meth c G A (QQ 1 wC okC G Qr Qx A below args s rmX6_matrix.cells rmX6_matrix.slots) 0 0 S [some (.ref (G.2.2 0)), some (iV x1), none, none, none] [] 23
  refine J_iload_n (pc := 23) C dX6_matrix_23 rfl ?_
  refine J_aload_n (pc := 24) C dX6_matrix_24 rfl ?_
  refine J_get (pc := 25) C dX6_matrix_25 0 rfl rfl nX6_matrix_X6 1 (by decide) mX6_matrix_f19 rfl (v := .ref (G.2.2 2)) rfl ?_
  refine J_get (pc := 28) C dX6_matrix_28 2 rfl rfl nX6_matrix_X3 5 (by decide) mX6_matrix_f235 rfl (v := iV (S 2 5)) rfl ?_
  obtain ⟨h1, h2⟩ := h
  refine J_icmp_ge (pc := 31) (tgt := 128) C dX6_matrix_31 (by decide) rx1 (hok 2 5) (fun cb => ?_) (fun cb => ?_)
  · have h1 := h1 cb
    refine J_aload_n (pc := 128) C dX6_matrix_128 rfl ?_
    refine J_get (pc := 129) C dX6_matrix_129 0 rfl rfl nX6_matrix_X6 4 (by decide) mX6_matrix_f40 rfl (v := .ref (G.2.2 5)) rfl ?_
    refine J_c1 (pc := 132) C (J_rV (pc := 132) C h1 dX6_matrix_132 rfl rfl 5 rfl rfl (cwV 0 C.1.2.2.2.2 gX6_matrix_X0_reduce rfl rfl rfl (by decide +kernel) ⟨Nat.le_of_ble_eq_true rfl, Nat.le_of_ble_eq_true rfl⟩) hok (Nat.le_of_ble_eq_true rfl) ⟨Nat.le_of_ble_eq_true rfl, Nat.le_of_ble_eq_true rfl⟩) (fun E9 S9 ok9 q9 => JX_out C ok9 q9 (by decide) (by decide)) (fun rv6 S4 hr7 hok5 h3 => ?_)
    have h3 := h3 hr7 hok5
    exact J_iret (pc := 135) C dX6_matrix_135 hr7 hok5 h3 (by decide) (by decide)
  · have h2 := h2 cb
    refine J_aload_n (pc := 34) C dX6_matrix_34 rfl ?_
    refine J_get (pc := 35) C dX6_matrix_35 0 rfl rfl nX6_matrix_X6 1 (by decide) mX6_matrix_f19 rfl (v := .ref (G.2.2 2)) rfl ?_
    refine J_iload_n (pc := 38) C dX6_matrix_38 rfl ?_
    refine J_c1 (pc := 39) C (J_rV (pc := 39) C (h2 rx1) dX6_matrix_39 rfl rfl 2 rfl rfl (cwV 1 C.1.2.2.2.2 gX6_matrix_X3_has rfl rfl rfl (by decide +kernel) ⟨Nat.le_of_ble_eq_true rfl, Nat.le_of_ble_eq_true rfl⟩) hok (Nat.le_of_ble_eq_true rfl) ⟨Nat.le_of_ble_eq_true rfl, Nat.le_of_ble_eq_true rfl⟩) (fun E9 S9 ok9 q9 => JX_out C ok9 q9 (by decide) (by decide)) (fun rv11 S9 hr12 hok10 h8 => ?_)
    have h8 := h8 hr12 hok10
    obtain ⟨h13, h14⟩ := h8
    refine J_if_eq (pc := 42) (tgt := 122) C dX6_matrix_42 (by decide) hr12 (fun cb => ?_) (fun cb => ?_)
    · have h13 := h13 cb
      refine J_iinc (pc := 122) C dX6_matrix_122 rfl (by decide) ?_
      refine J_goto (pc := 125) (tgt := 23) C dX6_matrix_125 (by decide) ?_
      obtain ⟨o15, h16⟩ := h13
      exact J_sub (L1 := [some (.ref (G.2.2 0)), some (iV (x1 + 1)), none, none, none]) ⟨rfl, ⟨rfl, trivial⟩⟩ (h16 o15 p l e s m args below meth c G A C hok10)
    · have h14 := h14 cb
      refine J_aload_n (pc := 45) C dX6_matrix_45 rfl ?_
      refine J_get (pc := 46) C dX6_matrix_46 0 rfl rfl nX6_matrix_X6 1 (by decide) mX6_matrix_f19 rfl (v := .ref (G.2.2 2)) rfl ?_
      refine J_get (pc := 49) C dX6_matrix_49 2 rfl rfl nX6_matrix_X3 0 (by decide) mX6_matrix_f168 rfl (v := .ref (G.2.2 11)) rfl ?_
      refine J_iload_n (pc := 52) C dX6_matrix_52 rfl ?_
      obtain ⟨o17, h18⟩ := h14
      refine J_iald (pc := 53) C dX6_matrix_53 11 11 rfl (by decide) o17 ?_
      refine J_istore_n (pc := 54) C dX6_matrix_54 (by decide) ?_
      refine J_aload_n (pc := 55) C dX6_matrix_55 rfl ?_
      refine J_get (pc := 56) C dX6_matrix_56 0 rfl rfl nX6_matrix_X6 1 (by decide) mX6_matrix_f19 rfl (v := .ref (G.2.2 2)) rfl ?_
      refine J_get (pc := 59) C dX6_matrix_59 2 rfl rfl nX6_matrix_X3 1 (by decide) mX6_matrix_f171 rfl (v := .ref (G.2.2 12)) rfl ?_
      refine J_iload_n (pc := 62) C dX6_matrix_62 rfl ?_
      refine J_iald (pc := 63) C dX6_matrix_63 12 12 rfl (by decide) o17 ?_
      refine J_istore_n (pc := 64) C dX6_matrix_64 (by decide) ?_
      refine J_aload_n (pc := 65) C dX6_matrix_65 rfl ?_
      refine J_get (pc := 66) C dX6_matrix_66 0 rfl rfl nX6_matrix_X6 1 (by decide) mX6_matrix_f19 rfl (v := .ref (G.2.2 2)) rfl ?_
      refine J_get (pc := 69) C dX6_matrix_69 2 rfl rfl nX6_matrix_X3 3 (by decide) mX6_matrix_f229 rfl (v := .ref (G.2.2 14)) rfl ?_
      refine J_iload_n (pc := 72) C dX6_matrix_72 rfl ?_
      refine J_iald (pc := 73) C dX6_matrix_73 14 14 rfl (by decide) o17 ?_
      refine J_istore (pc := 74) C dX6_matrix_74 (by decide) ?_
      refine J_aload_n (pc := 76) C dX6_matrix_76 rfl ?_
      refine J_get (pc := 77) C dX6_matrix_77 0 rfl rfl nX6_matrix_X6 4 (by decide) mX6_matrix_f40 rfl (v := .ref (G.2.2 5)) rfl ?_
      refine J_iload_n (pc := 80) C dX6_matrix_80 rfl ?_
      refine J_iload_n (pc := 81) C dX6_matrix_81 rfl ?_
      refine J_iload (pc := 82) C dX6_matrix_82 rfl ?_
      refine J_ineg (pc := 84) C dX6_matrix_84 ?_
      obtain ⟨o19, h20⟩ := h18
      refine J_c0 (pc := 85) C (J_rV (pc := 85) C (h20 (hok10 11 x1) (hok10 12 x1) o19) dX6_matrix_85 rfl rfl 5 rfl rfl (cwV 3 C.1.2.2.2.2 gX6_matrix_X0_add rfl rfl rfl (by decide +kernel) ⟨Nat.le_of_ble_eq_true rfl, Nat.le_of_ble_eq_true rfl⟩) hok10 (Nat.le_of_ble_eq_true rfl) ⟨Nat.le_of_ble_eq_true rfl, Nat.le_of_ble_eq_true rfl⟩) (fun E9 S9 ok9 q9 => JX_out C ok9 q9 (by decide) (by decide)) (fun S22 hok23 h21 => ?_)
      have h21 := h21 hok23
      refine J_aload_n (pc := 88) C dX6_matrix_88 rfl ?_
      refine J_get (pc := 89) C dX6_matrix_89 0 rfl rfl nX6_matrix_X6 4 (by decide) mX6_matrix_f40 rfl (v := .ref (G.2.2 5)) rfl ?_
      refine J_iload_n (pc := 92) C dX6_matrix_92 rfl ?_
      refine J_iload_n (pc := 93) C dX6_matrix_93 rfl ?_
      refine J_iload (pc := 94) C dX6_matrix_94 rfl ?_
      refine J_ineg (pc := 96) C dX6_matrix_96 ?_
      refine J_c0 (pc := 97) C (J_rV (pc := 97) C (h21 (hok10 12 x1) (hok10 11 x1) o19) dX6_matrix_97 rfl rfl 5 rfl rfl (cwV 3 C.1.2.2.2.2 gX6_matrix_X0_add rfl rfl rfl (by decide +kernel) ⟨Nat.le_of_ble_eq_true rfl, Nat.le_of_ble_eq_true rfl⟩) hok23 (Nat.le_of_ble_eq_true rfl) ⟨Nat.le_of_ble_eq_true rfl, Nat.le_of_ble_eq_true rfl⟩) (fun E9 S9 ok9 q9 => JX_out C ok9 q9 (by decide) (by decide)) (fun S27 hok28 h26 => ?_)
      have h26 := h26 hok28
      refine J_aload_n (pc := 100) C dX6_matrix_100 rfl ?_
      refine J_get (pc := 101) C dX6_matrix_101 0 rfl rfl nX6_matrix_X6 4 (by decide) mX6_matrix_f40 rfl (v := .ref (G.2.2 5)) rfl ?_
      refine J_iload_n (pc := 104) C dX6_matrix_104 rfl ?_
      refine J_iload_n (pc := 105) C dX6_matrix_105 rfl ?_
      refine J_iload (pc := 106) C dX6_matrix_106 rfl ?_
      refine J_c0 (pc := 108) C (J_rV (pc := 108) C (h26 (hok10 11 x1) (hok10 11 x1) (hok10 14 x1)) dX6_matrix_108 rfl rfl 5 rfl rfl (cwV 3 C.1.2.2.2.2 gX6_matrix_X0_add rfl rfl rfl (by decide +kernel) ⟨Nat.le_of_ble_eq_true rfl, Nat.le_of_ble_eq_true rfl⟩) hok28 (Nat.le_of_ble_eq_true rfl) ⟨Nat.le_of_ble_eq_true rfl, Nat.le_of_ble_eq_true rfl⟩) (fun E9 S9 ok9 q9 => JX_out C ok9 q9 (by decide) (by decide)) (fun S32 hok33 h31 => ?_)
      have h31 := h31 hok33
      refine J_aload_n (pc := 111) C dX6_matrix_111 rfl ?_
      refine J_get (pc := 112) C dX6_matrix_112 0 rfl rfl nX6_matrix_X6 4 (by decide) mX6_matrix_f40 rfl (v := .ref (G.2.2 5)) rfl ?_
      refine J_iload_n (pc := 115) C dX6_matrix_115 rfl ?_
      refine J_iload_n (pc := 116) C dX6_matrix_116 rfl ?_
      refine J_iload (pc := 117) C dX6_matrix_117 rfl ?_
      refine J_c0 (pc := 119) C (J_rV (pc := 119) C (h31 (hok10 12 x1) (hok10 12 x1) (hok10 14 x1)) dX6_matrix_119 rfl rfl 5 rfl rfl (cwV 3 C.1.2.2.2.2 gX6_matrix_X0_add rfl rfl rfl (by decide +kernel) ⟨Nat.le_of_ble_eq_true rfl, Nat.le_of_ble_eq_true rfl⟩) hok33 (Nat.le_of_ble_eq_true rfl) ⟨Nat.le_of_ble_eq_true rfl, Nat.le_of_ble_eq_true rfl⟩) (fun E9 S9 ok9 q9 => JX_out C ok9 q9 (by decide) (by decide)) (fun S37 hok38 h36 => ?_)
      have h36 := h36 hok38
      refine J_iinc (pc := 122) C dX6_matrix_122 rfl (by decide) ?_
      refine J_goto (pc := 125) (tgt := 23) C dX6_matrix_125 (by decide) ?_
      obtain ⟨o41, h42⟩ := h36
      exact J_sub (L1 := [some (.ref (G.2.2 0)), some (iV (x1 + 1)), none, none, none]) ⟨rfl, ⟨rfl, trivial⟩⟩ (h42 o41 p l e s m args below meth c G A C hok38)
def rmX6_member : Room := { frames := 7, cells := 4, slots := 24, locals := 103 }
theorem mX6_member_xA : Cond.classLink RX6 84 "java/lang/IllegalArgumentException" ∈ wsX6_member := by decide +kernel
theorem mX6_member_yA : Cond.initialized "java/lang/IllegalArgumentException" ∈ wsX6_member := by decide +kernel
theorem mX6_member_zA : ∀ x ∈ (vx_atS RX6 88 "java/lang/IllegalArgumentException" exP).filter goodWord, x ∈ wsX6_member := by decide +kernel
theorem mX6_member_f19 : Cond.fieldLink RX6 19 "Stresswork" "members" "LStresswork$Members;" ∈ wsX6_member := by decide +kernel
theorem nX6_member_X6 : ∀ x ∈ wsX60, x ∈ wsX6_member := by decide +kernel
theorem mX6_member_xS : Cond.classLink RX6 95 "java/lang/IllegalStateException" ∈ wsX6_member := by decide +kernel
theorem mX6_member_yS : Cond.initialized "java/lang/IllegalStateException" ∈ wsX6_member := by decide +kernel
theorem mX6_member_zS : ∀ x ∈ (vx_atS RX6 99 "java/lang/IllegalStateException" exP).filter goodWord, x ∈ wsX6_member := by decide +kernel
def M_X6_member (a0 a1 a2 : Int) (S : St) (Qr : Int → St → Prop) (Qx : String → St → Prop) : Prop := r32 a0 → r32 a1 → r32 a2 → MM 1 wC okC yX6_member wsX6_member rmX6_member (fun G => [.ref (G.2.2 0), iV a0, iV a1, iV a2]) S Qr Qx
set_option maxRecDepth 100000 in
set_option maxHeartbeats 4000000 in
theorem vc_X6_member {a0 a1 a2 : Int} {S : St} {Qr : Int → St → Prop} {Qx : String → St → Prop} (h : r32 a0 → r32 a1 → r32 a2 → okC S → M_X6_requireJoint a0 S (fun _ S2 => okC S2 → M_X6_requireJoint a1 S2 (fun _ S7 => okC S7 → M_X6_requireTwo a0 a1 S7 (fun _ S12 => okC S12 → ((a2 < 0 → Qx "java/lang/IllegalArgumentException" S12) ∧ (0 ≤ a2 → ((a2 ≤ 2 → M_X3_join a0 a1 S12 (fun rv23 S21 => r32 rv23 → okC S21 → ((rv23 = 0 → M_X6_requireRoomForMembers 1 S21 (fun _ S28 => okC S28 → M_X3_add a0 a1 a2 S28 (fun rv35 S33 => r32 rv35 → okC S33 → Qr rv35 S33) Qx) Qx) ∧ (rv23 ≠ 0 → Qx "java/lang/IllegalStateException" S21))) Qx) ∧ (2 < a2 → Qx "java/lang/IllegalArgumentException" S12))))) Qx) Qx) Qx) : M_X6_member a0 a1 a2 S Qr Qx := by
  intro ra0 ra1 ra2
  refine MM_of adC (by decide +kernel) rfl (Lf := fun G => [some (.ref (G.2.2 0)), some (iV a0), some (iV a1), some (iV a2)]) (fun G => by show _ ≤ _; exact Nat.le_of_ble_eq_true rfl) (fun G => rfl) ?_
  intro p l e s m args below meth c G A C hok
  have h := h ra0 ra1 ra2 hok
  replace C : Cx wC cX6_member 4 RX6 wsX6_member (some .int) [] p l s m args meth c G A := C
  show J wC 4 rmX6_member p l e s m args below meth c G A (QQ 1 wC okC G Qr Qx A below args s rmX6_member.cells rmX6_member.slots) 0 0 S [some (.ref (G.2.2 0)), some (iV a0), some (iV a1), some (iV a2)] [] 0
  refine J_aload_n (pc := 0) C dX6_member_0 rfl ?_
  refine J_iload_n (pc := 1) C dX6_member_1 rfl ?_
  refine J_c0 (pc := 2) C (J_rV (pc := 2) C (h ra0) dX6_member_2 rfl rfl 0 rfl rfl (cwV 1 C.1.2.2.2.2 gX6_member_X6_requireJoint rfl rfl rfl (by decide +kernel) ⟨Nat.le_of_ble_eq_true rfl, Nat.le_of_ble_eq_true rfl⟩) hok (Nat.le_of_ble_eq_true rfl) ⟨Nat.le_of_ble_eq_true rfl, Nat.le_of_ble_eq_true rfl⟩) (fun E9 S9 ok9 q9 => JX_out C ok9 q9 (by decide) (by decide)) (fun S2 hok3 h1 => ?_)
  have h1 := h1 hok3
  refine J_aload_n (pc := 5) C dX6_member_5 rfl ?_
  refine J_iload_n (pc := 6) C dX6_member_6 rfl ?_
  refine J_c0 (pc := 7) C (J_rV (pc := 7) C (h1 ra1) dX6_member_7 rfl rfl 0 rfl rfl (cwV 1 C.1.2.2.2.2 gX6_member_X6_requireJoint rfl rfl rfl (by decide +kernel) ⟨Nat.le_of_ble_eq_true rfl, Nat.le_of_ble_eq_true rfl⟩) hok3 (Nat.le_of_ble_eq_true rfl) ⟨Nat.le_of_ble_eq_true rfl, Nat.le_of_ble_eq_true rfl⟩) (fun E9 S9 ok9 q9 => JX_out C ok9 q9 (by decide) (by decide)) (fun S7 hok8 h6 => ?_)
  have h6 := h6 hok8
  refine J_iload_n (pc := 10) C dX6_member_10 rfl ?_
  refine J_iload_n (pc := 11) C dX6_member_11 rfl ?_
  refine J_c0 (pc := 12) C (J_rS (pc := 12) C (h6 ra0 ra1) dX6_member_12 rfl rfl (va_cwS 2 C.1.2.2.2.2 gX6_member_X6_requireTwo rfl rfl rfl (by decide +kernel) ⟨Nat.le_of_ble_eq_true rfl, Nat.le_of_ble_eq_true rfl⟩) hok8 (Nat.le_of_ble_eq_true rfl) ⟨Nat.le_of_ble_eq_true rfl, Nat.le_of_ble_eq_true rfl⟩) (fun E9 S9 ok9 q9 => JX_out C ok9 q9 (by decide) (by decide)) (fun S12 hok13 h11 => ?_)
  have h11 := h11 hok13
  refine J_iload_n (pc := 15) C dX6_member_15 rfl ?_
  obtain ⟨h16, h17⟩ := h11
  refine J_if_lt (pc := 16) (tgt := 24) C dX6_member_16 (by decide) ra2 (fun cb => ?_) (fun cb => ?_)
  · have h16 := h16 cb
    exact J_throw (pc := 24) C exW_A mX6_member_xA mX6_member_yA (text := "no such kind") (by decide +kernel) mX6_member_zA dX6_member_24 dX6_member_27 dX6_member_28 dX6_member_30 dX6_member_33 (by decide) (by decide) (by decide) (by decide) hok13 h16
  · have h17 := h17 cb
    refine J_iload_n (pc := 19) C dX6_member_19 rfl ?_
    refine J_iconst (pc := 20) C dX6_member_20 ?_
    obtain ⟨h18, h19⟩ := h17
    refine J_icmp_le (pc := 21) (tgt := 34) C dX6_member_21 (by decide) ra2 (by decide) (fun cb => ?_) (fun cb => ?_)
    · have h18 := h18 cb
      refine J_aload_n (pc := 34) C dX6_member_34 rfl ?_
      refine J_get (pc := 35) C dX6_member_35 0 rfl rfl nX6_member_X6 1 (by decide) mX6_member_f19 rfl (v := .ref (G.2.2 2)) rfl ?_
      refine J_iload_n (pc := 38) C dX6_member_38 rfl ?_
      refine J_iload_n (pc := 39) C dX6_member_39 rfl ?_
      refine J_c1 (pc := 40) C (J_rV (pc := 40) C (h18 ra0 ra1) dX6_member_40 rfl rfl 2 rfl rfl (cwV 2 C.1.2.2.2.2 gX6_member_X3_join rfl rfl rfl (by decide +kernel) ⟨Nat.le_of_ble_eq_true rfl, Nat.le_of_ble_eq_true rfl⟩) hok13 (Nat.le_of_ble_eq_true rfl) ⟨Nat.le_of_ble_eq_true rfl, Nat.le_of_ble_eq_true rfl⟩) (fun E9 S9 ok9 q9 => JX_out C ok9 q9 (by decide) (by decide)) (fun rv23 S21 hr24 hok22 h20 => ?_)
      have h20 := h20 hr24 hok22
      obtain ⟨h25, h26⟩ := h20
      refine J_if_eq (pc := 43) (tgt := 56) C dX6_member_43 (by decide) hr24 (fun cb => ?_) (fun cb => ?_)
      · have h25 := h25 cb
        refine J_aload_n (pc := 56) C dX6_member_56 rfl ?_
        refine J_iconst (pc := 57) C dX6_member_57 ?_
        refine J_c0 (pc := 58) C (J_rV (pc := 58) C (h25 (by decide)) dX6_member_58 rfl rfl 0 rfl rfl (cwV 1 C.1.2.2.2.2 gX6_member_X6_requireRoomForMembers rfl rfl rfl (by decide +kernel) ⟨Nat.le_of_ble_eq_true rfl, Nat.le_of_ble_eq_true rfl⟩) hok22 (Nat.le_of_ble_eq_true rfl) ⟨Nat.le_of_ble_eq_true rfl, Nat.le_of_ble_eq_true rfl⟩) (fun E9 S9 ok9 q9 => JX_out C ok9 q9 (by decide) (by decide)) (fun S28 hok29 h27 => ?_)
        have h27 := h27 hok29
        refine J_aload_n (pc := 61) C dX6_member_61 rfl ?_
        refine J_get (pc := 62) C dX6_member_62 0 rfl rfl nX6_member_X6 1 (by decide) mX6_member_f19 rfl (v := .ref (G.2.2 2)) rfl ?_
        refine J_iload_n (pc := 65) C dX6_member_65 rfl ?_
        refine J_iload_n (pc := 66) C dX6_member_66 rfl ?_
        refine J_iload_n (pc := 67) C dX6_member_67 rfl ?_
        refine J_c1 (pc := 68) C (J_rV (pc := 68) C (h27 ra0 ra1 ra2) dX6_member_68 rfl rfl 2 rfl rfl (cwV 3 C.1.2.2.2.2 gX6_member_X3_add rfl rfl rfl (by decide +kernel) ⟨Nat.le_of_ble_eq_true rfl, Nat.le_of_ble_eq_true rfl⟩) hok29 (Nat.le_of_ble_eq_true rfl) ⟨Nat.le_of_ble_eq_true rfl, Nat.le_of_ble_eq_true rfl⟩) (fun E9 S9 ok9 q9 => JX_out C ok9 q9 (by decide) (by decide)) (fun rv35 S33 hr36 hok34 h32 => ?_)
        have h32 := h32 hr36 hok34
        exact J_iret (pc := 71) C dX6_member_71 hr36 hok34 h32 (by decide) (by decide)
      · have h26 := h26 cb
        exact J_throw (pc := 46) C exW_S mX6_member_xS mX6_member_yS (text := "these joints have a member") (by decide +kernel) mX6_member_zS dX6_member_46 dX6_member_49 dX6_member_50 dX6_member_52 dX6_member_55 (by decide) (by decide) (by decide) (by decide) hok22 h26
    · have h19 := h19 cb
      exact J_throw (pc := 24) C exW_A mX6_member_xA mX6_member_yA (text := "no such kind") (by decide +kernel) mX6_member_zA dX6_member_24 dX6_member_27 dX6_member_28 dX6_member_30 dX6_member_33 (by decide) (by decide) (by decide) (by decide) hok13 h19
def rmX6_motions : Room := { frames := 6, cells := 0, slots := 0, locals := 142 }
theorem mX6_motions_f33 : Cond.fieldLink RX6 33 "Stresswork" "layout" "LStresswork$Layout;" ∈ wsX6_motions := by decide +kernel
theorem nX6_motions_X6 : ∀ x ∈ wsX60, x ∈ wsX6_motions := by decide +kernel
theorem mX6_motions_f10 : Cond.fieldLink RX6 10 "Stresswork" "joints" "LStresswork$Joints;" ∈ wsX6_motions := by decide +kernel
theorem mX6_motions_f124 : Cond.fieldLink RX6 124 "Stresswork$Layout" "width" "I" ∈ wsX6_motions := by decide +kernel
theorem nX6_motions_X2 : ∀ x ∈ wsX20, x ∈ wsX6_motions := by decide +kernel
def M_X6_motions (S : St) (Qr : Int → St → Prop) (Qx : String → St → Prop) : Prop := MM 1 wC okC yX6_motions wsX6_motions rmX6_motions (fun G => [.ref (G.2.2 0)]) S Qr Qx
set_option maxRecDepth 100000 in
set_option maxHeartbeats 4000000 in
theorem vc_X6_motions {S : St} {Qr : Int → St → Prop} {Qx : String → St → Prop} (h : okC S → M_X2_takeJoints S (fun _ S2 => okC S2 → M_X6_rankWithout (-1) S2 (fun rv9 S7 => r32 rv9 → okC S7 → (r32 ((S2 4 3) - rv9) ∧ Qr ((S2 4 3) - rv9) S7)) Qx) Qx) : M_X6_motions S Qr Qx := by
  refine MM_of adC (by decide +kernel) rfl (Lf := fun G => [some (.ref (G.2.2 0))]) (fun G => by show _ ≤ _; exact Nat.le_of_ble_eq_true rfl) (fun G => rfl) ?_
  intro p l e s m args below meth c G A C hok
  have h := h hok
  replace C : Cx wC cX6_motions 1 RX6 wsX6_motions (some .int) [] p l s m args meth c G A := C
  show J wC 1 rmX6_motions p l e s m args below meth c G A (QQ 1 wC okC G Qr Qx A below args s rmX6_motions.cells rmX6_motions.slots) 0 0 S [some (.ref (G.2.2 0))] [] 0
  refine J_aload_n (pc := 0) C dX6_motions_0 rfl ?_
  refine J_get (pc := 1) C dX6_motions_1 0 rfl rfl nX6_motions_X6 3 (by decide) mX6_motions_f33 rfl (v := .ref (G.2.2 4)) rfl ?_
  refine J_aload_n (pc := 4) C dX6_motions_4 rfl ?_
  refine J_get (pc := 5) C dX6_motions_5 0 rfl rfl nX6_motions_X6 0 (by decide) mX6_motions_f10 rfl (v := .ref (G.2.2 1)) rfl ?_
  refine J_c0 (pc := 8) C (J_rV (pc := 8) C h dX6_motions_8 rfl rfl 4 rfl rfl (cwV 1 C.1.2.2.2.2 gX6_motions_X2_takeJoints rfl rfl rfl (by decide +kernel) ⟨Nat.le_of_ble_eq_true rfl, Nat.le_of_ble_eq_true rfl⟩) hok (Nat.le_of_ble_eq_true rfl) ⟨Nat.le_of_ble_eq_true rfl, Nat.le_of_ble_eq_true rfl⟩) (fun E9 S9 ok9 q9 => JX_out C ok9 q9 (by decide) (by decide)) (fun S2 hok3 h1 => ?_)
  have h1 := h1 hok3
  refine J_aload_n (pc := 11) C dX6_motions_11 rfl ?_
  refine J_get (pc := 12) C dX6_motions_12 0 rfl rfl nX6_motions_X6 3 (by decide) mX6_motions_f33 rfl (v := .ref (G.2.2 4)) rfl ?_
  refine J_get (pc := 15) C dX6_motions_15 4 rfl rfl nX6_motions_X2 3 (by decide) mX6_motions_f124 rfl (v := iV (S2 4 3)) rfl ?_
  refine J_aload_n (pc := 18) C dX6_motions_18 rfl ?_
  refine J_iconst (pc := 19) C dX6_motions_19 ?_
  refine J_c1 (pc := 20) C (J_rV (pc := 20) C (h1 (by decide)) dX6_motions_20 rfl rfl 0 rfl rfl (cwV 1 C.1.2.2.2.2 gX6_motions_X6_rankWithout rfl rfl rfl (by decide +kernel) ⟨Nat.le_of_ble_eq_true rfl, Nat.le_of_ble_eq_true rfl⟩) hok3 (Nat.le_of_ble_eq_true rfl) ⟨Nat.le_of_ble_eq_true rfl, Nat.le_of_ble_eq_true rfl⟩) (fun E9 S9 ok9 q9 => JX_out C ok9 q9 (by decide) (by decide)) (fun rv9 S7 hr10 hok8 h6 => ?_)
  have h6 := h6 hr10 hok8
  refine J_isub (pc := 23) C dX6_motions_23 ?_
  obtain ⟨o11, h12⟩ := h6
  exact J_iret (pc := 24) C dX6_motions_24 o11 hok8 h12 (by decide) (by decide)
def rmX6_move : Room := { frames := 7, cells := 2, slots := 12, locals := 103 }
theorem mX6_move_f10 : Cond.fieldLink RX6 10 "Stresswork" "joints" "LStresswork$Joints;" ∈ wsX6_move := by decide +kernel
theorem nX6_move_X6 : ∀ x ∈ wsX60, x ∈ wsX6_move := by decide +kernel
theorem mX6_move_f70 : Cond.fieldLink RX6 70 "Stresswork$Joints" "x" "[I" ∈ wsX6_move := by decide +kernel
theorem nX6_move_X1 : ∀ x ∈ wsX10, x ∈ wsX6_move := by decide +kernel
theorem mX6_move_f74 : Cond.fieldLink RX6 74 "Stresswork$Joints" "y" "[I" ∈ wsX6_move := by decide +kernel
def M_X6_move (a0 a1 a2 : Int) (S : St) (Qr : Int → St → Prop) (Qx : String → St → Prop) : Prop := r32 a0 → r32 a1 → r32 a2 → MM 0 wC okC yX6_move wsX6_move rmX6_move (fun G => [.ref (G.2.2 0), iV a0, iV a1, iV a2]) S Qr Qx
set_option maxRecDepth 100000 in
set_option maxHeartbeats 4000000 in
theorem vc_X6_move {a0 a1 a2 : Int} {S : St} {Qr : Int → St → Prop} {Qx : String → St → Prop} (h : r32 a0 → r32 a1 → r32 a2 → okC S → M_X6_requireJoint a0 S (fun _ S2 => okC S2 → M_X6_requirePoint a1 a2 S2 (fun _ S7 => okC S7 → (ix a0 10 ∧ Qr 0 (up (up S7 7 a0 a1) 8 a0 a2))) Qx) Qx) : M_X6_move a0 a1 a2 S Qr Qx := by
  intro ra0 ra1 ra2
  refine MM_of adC (by decide +kernel) rfl (Lf := fun G => [some (.ref (G.2.2 0)), some (iV a0), some (iV a1), some (iV a2)]) (fun G => by show _ ≤ _; exact Nat.le_of_ble_eq_true rfl) (fun G => rfl) ?_
  intro p l e s m args below meth c G A C hok
  have h := h ra0 ra1 ra2 hok
  replace C : Cx wC cX6_move 4 RX6 wsX6_move none [] p l s m args meth c G A := C
  show J wC 4 rmX6_move p l e s m args below meth c G A (QQ 0 wC okC G Qr Qx A below args s rmX6_move.cells rmX6_move.slots) 0 0 S [some (.ref (G.2.2 0)), some (iV a0), some (iV a1), some (iV a2)] [] 0
  refine J_aload_n (pc := 0) C dX6_move_0 rfl ?_
  refine J_iload_n (pc := 1) C dX6_move_1 rfl ?_
  refine J_c0 (pc := 2) C (J_rV (pc := 2) C (h ra0) dX6_move_2 rfl rfl 0 rfl rfl (cwV 1 C.1.2.2.2.2 gX6_move_X6_requireJoint rfl rfl rfl (by decide +kernel) ⟨Nat.le_of_ble_eq_true rfl, Nat.le_of_ble_eq_true rfl⟩) hok (Nat.le_of_ble_eq_true rfl) ⟨Nat.le_of_ble_eq_true rfl, Nat.le_of_ble_eq_true rfl⟩) (fun E9 S9 ok9 q9 => JX_out C ok9 q9 (by decide) (by decide)) (fun S2 hok3 h1 => ?_)
  have h1 := h1 hok3
  refine J_iload_n (pc := 5) C dX6_move_5 rfl ?_
  refine J_iload_n (pc := 6) C dX6_move_6 rfl ?_
  refine J_c0 (pc := 7) C (J_rS (pc := 7) C (h1 ra1 ra2) dX6_move_7 rfl rfl (va_cwS 2 C.1.2.2.2.2 gX6_move_X6_requirePoint rfl rfl rfl (by decide +kernel) ⟨Nat.le_of_ble_eq_true rfl, Nat.le_of_ble_eq_true rfl⟩) hok3 (Nat.le_of_ble_eq_true rfl) ⟨Nat.le_of_ble_eq_true rfl, Nat.le_of_ble_eq_true rfl⟩) (fun E9 S9 ok9 q9 => JX_out C ok9 q9 (by decide) (by decide)) (fun S7 hok8 h6 => ?_)
  have h6 := h6 hok8
  refine J_aload_n (pc := 10) C dX6_move_10 rfl ?_
  refine J_get (pc := 11) C dX6_move_11 0 rfl rfl nX6_move_X6 0 (by decide) mX6_move_f10 rfl (v := .ref (G.2.2 1)) rfl ?_
  refine J_get (pc := 14) C dX6_move_14 1 rfl rfl nX6_move_X1 0 (by decide) mX6_move_f70 rfl (v := .ref (G.2.2 7)) rfl ?_
  refine J_iload_n (pc := 17) C dX6_move_17 rfl ?_
  refine J_iload_n (pc := 18) C dX6_move_18 rfl ?_
  obtain ⟨o11, h12⟩ := h6
  refine J_iast (pc := 19) C dX6_move_19 7 7 rfl (by decide) o11 (sC_7 G S7 a0 a1) ?_
  have hok13 := okC_up (k := 7) (j := a0) hok8 (show rngC 7 a1 from ra1)
  refine J_aload_n (pc := 20) C dX6_move_20 rfl ?_
  refine J_get (pc := 21) C dX6_move_21 0 rfl rfl nX6_move_X6 0 (by decide) mX6_move_f10 rfl (v := .ref (G.2.2 1)) rfl ?_
  refine J_get (pc := 24) C dX6_move_24 1 rfl rfl nX6_move_X1 1 (by decide) mX6_move_f74 rfl (v := .ref (G.2.2 8)) rfl ?_
  refine J_iload_n (pc := 27) C dX6_move_27 rfl ?_
  refine J_iload_n (pc := 28) C dX6_move_28 rfl ?_
  refine J_iast (pc := 29) C dX6_move_29 8 8 rfl (by decide) o11 (sC_8 G (up S7 7 a0 a1) a0 a2) ?_
  have hok14 := okC_up (k := 8) (j := a0) hok13 (show rngC 8 a2 from ra2)
  exact J_vret (pc := 30) C dX6_move_30 hok14 h12 (by decide) (by decide)
def rmX6_ofJoint : Room := { frames := 7, cells := 2, slots := 12, locals := 103 }
theorem mX6_ofJoint_f10 : Cond.fieldLink RX6 10 "Stresswork" "joints" "LStresswork$Joints;" ∈ wsX6_ofJoint := by decide +kernel
theorem nX6_ofJoint_X6 : ∀ x ∈ wsX60, x ∈ wsX6_ofJoint := by decide +kernel
theorem mX6_ofJoint_f70 : Cond.fieldLink RX6 70 "Stresswork$Joints" "x" "[I" ∈ wsX6_ofJoint := by decide +kernel
theorem nX6_ofJoint_X1 : ∀ x ∈ wsX10, x ∈ wsX6_ofJoint := by decide +kernel
theorem mX6_ofJoint_f74 : Cond.fieldLink RX6 74 "Stresswork$Joints" "y" "[I" ∈ wsX6_ofJoint := by decide +kernel
theorem mX6_ofJoint_f19 : Cond.fieldLink RX6 19 "Stresswork" "members" "LStresswork$Members;" ∈ wsX6_ofJoint := by decide +kernel
theorem mX6_ofJoint_xA : Cond.classLink RX6 84 "java/lang/IllegalArgumentException" ∈ wsX6_ofJoint := by decide +kernel
theorem mX6_ofJoint_yA : Cond.initialized "java/lang/IllegalArgumentException" ∈ wsX6_ofJoint := by decide +kernel
theorem mX6_ofJoint_zA : ∀ x ∈ (vx_atS RX6 88 "java/lang/IllegalArgumentException" exP).filter goodWord, x ∈ wsX6_ofJoint := by decide +kernel
def M_X6_ofJoint (a0 a1 : Int) (S : St) (Qr : Int → St → Prop) (Qx : String → St → Prop) : Prop := r32 a0 → r32 a1 → MM 1 wC okC yX6_ofJoint wsX6_ofJoint rmX6_ofJoint (fun G => [.ref (G.2.2 0), iV a0, iV a1]) S Qr Qx
set_option maxRecDepth 100000 in
set_option maxHeartbeats 4000000 in
theorem vc_X6_ofJoint {a0 a1 : Int} {S : St} {Qr : Int → St → Prop} {Qx : String → St → Prop} (h : r32 a0 → r32 a1 → okC S → M_X6_requireJoint a0 S (fun _ S2 => okC S2 → ((a1 = 0 → (ix a0 10 ∧ Qr (S2 7 a0) S2)) ∧ (a1 = 1 → (ix a0 10 ∧ Qr (S2 8 a0) S2)) ∧ (a1 = 2 → M_X3_endingAt a0 S2 (fun rv17 S15 => r32 rv17 → okC S15 → Qr rv17 S15) Qx) ∧ ((a1 < 0 ∨ 2 < a1) → Qx "java/lang/IllegalArgumentException" S2))) Qx) : M_X6_ofJoint a0 a1 S Qr Qx := by
  intro ra0 ra1
  refine MM_of adC (by decide +kernel) rfl (Lf := fun G => [some (.ref (G.2.2 0)), some (iV a0), some (iV a1)]) (fun G => by show _ ≤ _; exact Nat.le_of_ble_eq_true rfl) (fun G => rfl) ?_
  intro p l e s m args below meth c G A C hok
  have h := h ra0 ra1 hok
  replace C : Cx wC cX6_ofJoint 3 RX6 wsX6_ofJoint (some .int) [] p l s m args meth c G A := C
  show J wC 3 rmX6_ofJoint p l e s m args below meth c G A (QQ 1 wC okC G Qr Qx A below args s rmX6_ofJoint.cells rmX6_ofJoint.slots) 0 0 S [some (.ref (G.2.2 0)), some (iV a0), some (iV a1)] [] 0
  refine J_aload_n (pc := 0) C dX6_ofJoint_0 rfl ?_
  refine J_iload_n (pc := 1) C dX6_ofJoint_1 rfl ?_
  refine J_c0 (pc := 2) C (J_rV (pc := 2) C (h ra0) dX6_ofJoint_2 rfl rfl 0 rfl rfl (cwV 1 C.1.2.2.2.2 gX6_ofJoint_X6_requireJoint rfl rfl rfl (by decide +kernel) ⟨Nat.le_of_ble_eq_true rfl, Nat.le_of_ble_eq_true rfl⟩) hok (Nat.le_of_ble_eq_true rfl) ⟨Nat.le_of_ble_eq_true rfl, Nat.le_of_ble_eq_true rfl⟩) (fun E9 S9 ok9 q9 => JX_out C ok9 q9 (by decide) (by decide)) (fun S2 hok3 h1 => ?_)
  have h1 := h1 hok3
  refine J_iload_n (pc := 5) C dX6_ofJoint_5 rfl ?_
  obtain ⟨h6, h7, h8, h9⟩ := h1
  rcases (tab2 a1) with ct | ct | ct | ct
  · have h6 := h6 ct
    refine J_tabIn (pc := 6) (tgt := 32) C dX6_ofJoint_6 ct (by decide) (by decide) (by decide) rfl (by decide) ?_
    refine J_aload_n (pc := 32) C dX6_ofJoint_32 rfl ?_
    refine J_get (pc := 33) C dX6_ofJoint_33 0 rfl rfl nX6_ofJoint_X6 0 (by decide) mX6_ofJoint_f10 rfl (v := .ref (G.2.2 1)) rfl ?_
    refine J_get (pc := 36) C dX6_ofJoint_36 1 rfl rfl nX6_ofJoint_X1 0 (by decide) mX6_ofJoint_f70 rfl (v := .ref (G.2.2 7)) rfl ?_
    refine J_iload_n (pc := 39) C dX6_ofJoint_39 rfl ?_
    obtain ⟨o10, h11⟩ := h6
    refine J_iald (pc := 40) C dX6_ofJoint_40 7 7 rfl (by decide) o10 ?_
    exact J_iret (pc := 41) C dX6_ofJoint_41 (hok3 7 a0) hok3 h11 (by decide) (by decide)
  · have h7 := h7 ct
    refine J_tabIn (pc := 6) (tgt := 42) C dX6_ofJoint_6 ct (by decide) (by decide) (by decide) rfl (by decide) ?_
    refine J_aload_n (pc := 42) C dX6_ofJoint_42 rfl ?_
    refine J_get (pc := 43) C dX6_ofJoint_43 0 rfl rfl nX6_ofJoint_X6 0 (by decide) mX6_ofJoint_f10 rfl (v := .ref (G.2.2 1)) rfl ?_
    refine J_get (pc := 46) C dX6_ofJoint_46 1 rfl rfl nX6_ofJoint_X1 1 (by decide) mX6_ofJoint_f74 rfl (v := .ref (G.2.2 8)) rfl ?_
    refine J_iload_n (pc := 49) C dX6_ofJoint_49 rfl ?_
    obtain ⟨o12, h13⟩ := h7
    refine J_iald (pc := 50) C dX6_ofJoint_50 8 8 rfl (by decide) o12 ?_
    exact J_iret (pc := 51) C dX6_ofJoint_51 (hok3 8 a0) hok3 h13 (by decide) (by decide)
  · have h8 := h8 ct
    refine J_tabIn (pc := 6) (tgt := 52) C dX6_ofJoint_6 ct (by decide) (by decide) (by decide) rfl (by decide) ?_
    refine J_aload_n (pc := 52) C dX6_ofJoint_52 rfl ?_
    refine J_get (pc := 53) C dX6_ofJoint_53 0 rfl rfl nX6_ofJoint_X6 1 (by decide) mX6_ofJoint_f19 rfl (v := .ref (G.2.2 2)) rfl ?_
    refine J_iload_n (pc := 56) C dX6_ofJoint_56 rfl ?_
    refine J_c1 (pc := 57) C (J_rV (pc := 57) C (h8 ra0) dX6_ofJoint_57 rfl rfl 2 rfl rfl (cwV 1 C.1.2.2.2.2 gX6_ofJoint_X3_endingAt rfl rfl rfl (by decide +kernel) ⟨Nat.le_of_ble_eq_true rfl, Nat.le_of_ble_eq_true rfl⟩) hok3 (Nat.le_of_ble_eq_true rfl) ⟨Nat.le_of_ble_eq_true rfl, Nat.le_of_ble_eq_true rfl⟩) (fun E9 S9 ok9 q9 => JX_out C ok9 q9 (by decide) (by decide)) (fun rv17 S15 hr18 hok16 h14 => ?_)
    have h14 := h14 hr18 hok16
    exact J_iret (pc := 60) C dX6_ofJoint_60 hr18 hok16 h14 (by decide) (by decide)
  · have h9 := h9 ct
    refine J_tabOut (pc := 6) (tgt := 61) C dX6_ofJoint_6 ra1 ct (by decide) ?_
    exact J_throwW (pc := 61) C exW_A mX6_ofJoint_xA mX6_ofJoint_yA (text := "no such number of a joint") (by decide +kernel) mX6_ofJoint_zA dX6_ofJoint_61 dX6_ofJoint_64 dX6_ofJoint_65 dX6_ofJoint_68 dX6_ofJoint_71 (by decide) (by decide) (by decide) (by decide) hok3 h9
def rmX6_pin : Room := { frames := 7, cells := 1, slots := 6, locals := 103 }
theorem mX6_pin_f10 : Cond.fieldLink RX6 10 "Stresswork" "joints" "LStresswork$Joints;" ∈ wsX6_pin := by decide +kernel
theorem nX6_pin_X6 : ∀ x ∈ wsX60, x ∈ wsX6_pin := by decide +kernel
theorem mX6_pin_f77 : Cond.fieldLink RX6 77 "Stresswork$Joints" "pinned" "[Z" ∈ wsX6_pin := by decide +kernel
theorem nX6_pin_X1 : ∀ x ∈ wsX10, x ∈ wsX6_pin := by decide +kernel
def M_X6_pin (a0 a1 : Int) (S : St) (Qr : Int → St → Prop) (Qx : String → St → Prop) : Prop := r32 a0 → r32 a1 → MM 1 wC okC yX6_pin wsX6_pin rmX6_pin (fun G => [.ref (G.2.2 0), iV a0, iV a1]) S Qr Qx
set_option maxRecDepth 100000 in
set_option maxHeartbeats 4000000 in
theorem vc_X6_pin {a0 a1 : Int} {S : St} {Qr : Int → St → Prop} {Qx : String → St → Prop} (h : r32 a0 → r32 a1 → okC S → M_X6_requireJoint a0 S (fun _ S2 => okC S2 → (ix a0 10 ∧ ((0 ≤ a1 ∧ a1 ≤ 1) ∧ ((0 ≤ (S2 9 a0) ∧ (S2 9 a0) ≤ 1) ∧ Qr (S2 9 a0) (up S2 9 a0 a1))))) Qx) : M_X6_pin a0 a1 S Qr Qx := by
  intro ra0 ra1
  refine MM_of adC (by decide +kernel) rfl (Lf := fun G => [some (.ref (G.2.2 0)), some (iV a0), some (iV a1), none]) (fun G => by show _ ≤ _; exact Nat.le_of_ble_eq_true rfl) (fun G => rfl) ?_
  intro p l e s m args below meth c G A C hok
  have h := h ra0 ra1 hok
  replace C : Cx wC cX6_pin 4 RX6 wsX6_pin (some .boolean) [] p l s m args meth c G A := C
  show J wC 4 rmX6_pin p l e s m args below meth c G A (QQ 1 wC okC G Qr Qx A below args s rmX6_pin.cells rmX6_pin.slots) 0 0 S [some (.ref (G.2.2 0)), some (iV a0), some (iV a1), none] [] 0
  refine J_aload_n (pc := 0) C dX6_pin_0 rfl ?_
  refine J_iload_n (pc := 1) C dX6_pin_1 rfl ?_
  refine J_c0 (pc := 2) C (J_rV (pc := 2) C (h ra0) dX6_pin_2 rfl rfl 0 rfl rfl (cwV 1 C.1.2.2.2.2 gX6_pin_X6_requireJoint rfl rfl rfl (by decide +kernel) ⟨Nat.le_of_ble_eq_true rfl, Nat.le_of_ble_eq_true rfl⟩) hok (Nat.le_of_ble_eq_true rfl) ⟨Nat.le_of_ble_eq_true rfl, Nat.le_of_ble_eq_true rfl⟩) (fun E9 S9 ok9 q9 => JX_out C ok9 q9 (by decide) (by decide)) (fun S2 hok3 h1 => ?_)
  have h1 := h1 hok3
  refine J_aload_n (pc := 5) C dX6_pin_5 rfl ?_
  refine J_get (pc := 6) C dX6_pin_6 0 rfl rfl nX6_pin_X6 0 (by decide) mX6_pin_f10 rfl (v := .ref (G.2.2 1)) rfl ?_
  refine J_get (pc := 9) C dX6_pin_9 1 rfl rfl nX6_pin_X1 2 (by decide) mX6_pin_f77 rfl (v := .ref (G.2.2 9)) rfl ?_
  refine J_iload_n (pc := 12) C dX6_pin_12 rfl ?_
  obtain ⟨o6, h7⟩ := h1
  refine J_zald (pc := 13) C dX6_pin_13 9 9 rfl (by decide) o6 ?_
  refine J_istore_n (pc := 14) C dX6_pin_14 (by decide) ?_
  refine J_aload_n (pc := 15) C dX6_pin_15 rfl ?_
  refine J_get (pc := 16) C dX6_pin_16 0 rfl rfl nX6_pin_X6 0 (by decide) mX6_pin_f10 rfl (v := .ref (G.2.2 1)) rfl ?_
  refine J_get (pc := 19) C dX6_pin_19 1 rfl rfl nX6_pin_X1 2 (by decide) mX6_pin_f77 rfl (v := .ref (G.2.2 9)) rfl ?_
  refine J_iload_n (pc := 22) C dX6_pin_22 rfl ?_
  refine J_iload_n (pc := 23) C dX6_pin_23 rfl ?_
  obtain ⟨o8, h9⟩ := h7
  refine J_zast (pc := 24) C dX6_pin_24 9 9 rfl (by decide) o6 o8 (sC_9 G S2 a0 a1) ?_
  have hok10 := okC_up (k := 9) (j := a0) hok3 (show rngC 9 a1 from o8)
  refine J_iload_n (pc := 25) C dX6_pin_25 rfl ?_
  obtain ⟨o11, h12⟩ := h9
  exact J_zret (pc := 26) C dX6_pin_26 o11 hok10 h12 (by decide) (by decide)
def rmX6_requireError : Room := { frames := 6, cells := 1, slots := 6, locals := 82 }
theorem mX6_requireError_xA : Cond.classLink RX6 84 "java/lang/IllegalArgumentException" ∈ wsX6_requireError := by decide +kernel
theorem mX6_requireError_yA : Cond.initialized "java/lang/IllegalArgumentException" ∈ wsX6_requireError := by decide +kernel
theorem mX6_requireError_zA : ∀ x ∈ (vx_atS RX6 88 "java/lang/IllegalArgumentException" exP).filter goodWord, x ∈ wsX6_requireError := by decide +kernel
def M_X6_requireError (a0 : Int) (S : St) (Qr : Int → St → Prop) (Qx : String → St → Prop) : Prop := r32 a0 → MM 0 wC okC yX6_requireError wsX6_requireError rmX6_requireError (fun G => [iV a0]) S Qr Qx
set_option maxRecDepth 100000 in
set_option maxHeartbeats 4000000 in
theorem vc_X6_requireError {a0 : Int} {S : St} {Qr : Int → St → Prop} {Qx : String → St → Prop} (h : r32 a0 → okC S → ((a0 < 0 → Qx "java/lang/IllegalArgumentException" S) ∧ (0 ≤ a0 → ((a0 ≤ 5000 → Qr 0 S) ∧ (5000 < a0 → Qx "java/lang/IllegalArgumentException" S))))) : M_X6_requireError a0 S Qr Qx := by
  intro ra0
  refine MM_of adC (by decide +kernel) rfl (Lf := fun G => [some (iV a0)]) (fun G => by show _ ≤ _; exact Nat.le_of_ble_eq_true rfl) (fun G => rfl) ?_
  intro p l e s m args below meth c G A C hok
  have h := h ra0 hok
  replace C : Cx wC cX6_requireError 1 RX6 wsX6_requireError none [] p l s m args meth c G A := C
  show J wC 1 rmX6_requireError p l e s m args below meth c G A (QQ 0 wC okC G Qr Qx A below args s rmX6_requireError.cells rmX6_requireError.slots) 0 0 S [some (iV a0)] [] 0
  refine J_iload_n (pc := 0) C dX6_requireError_0 rfl ?_
  obtain ⟨h1, h2⟩ := h
  refine J_if_lt (pc := 1) (tgt := 11) C dX6_requireError_1 (by decide) ra0 (fun cb => ?_) (fun cb => ?_)
  · have h1 := h1 cb
    exact J_throwW (pc := 11) C exW_A mX6_requireError_xA mX6_requireError_yA (text := "error is out of range") (by decide +kernel) mX6_requireError_zA dX6_requireError_11 dX6_requireError_14 dX6_requireError_15 dX6_requireError_18 dX6_requireError_21 (by decide) (by decide) (by decide) (by decide) hok h1
  · have h2 := h2 cb
    refine J_iload_n (pc := 4) C dX6_requireError_4 rfl ?_
    refine J_sipush (pc := 5) C dX6_requireError_5 (by decide) ?_
    obtain ⟨h3, h4⟩ := h2
    refine J_icmp_le (pc := 8) (tgt := 22) C dX6_requireError_8 (by decide) ra0 (by decide) (fun cb => ?_) (fun cb => ?_)
    · have h3 := h3 cb
      exact J_vret (pc := 22) C dX6_requireError_22 hok h3 (by decide) (by decide)
    · have h4 := h4 cb
      exact J_throwW (pc := 11) C exW_A mX6_requireError_xA mX6_requireError_yA (text := "error is out of range") (by decide +kernel) mX6_requireError_zA dX6_requireError_11 dX6_requireError_14 dX6_requireError_15 dX6_requireError_18 dX6_requireError_21 (by decide) (by decide) (by decide) (by decide) hok h4
def rmX6_place : Room := { frames := 7, cells := 2, slots := 12, locals := 102 }
theorem mX6_place_f10 : Cond.fieldLink RX6 10 "Stresswork" "joints" "LStresswork$Joints;" ∈ wsX6_place := by decide +kernel
theorem nX6_place_X6 : ∀ x ∈ wsX60, x ∈ wsX6_place := by decide +kernel
def M_X6_place (a0 a1 : Int) (S : St) (Qr : Int → St → Prop) (Qx : String → St → Prop) : Prop := r32 a0 → r32 a1 → MM 1 wC okC yX6_place wsX6_place rmX6_place (fun G => [.ref (G.2.2 0), iV a0, iV a1]) S Qr Qx
def R_X6_place_14 (x1 x2 x3 x4 : Int) (S : St) (Qr : Int → St → Prop) (Qx : String → St → Prop) : Prop := r32 x1 → r32 x2 → r32 x3 → r32 x4 → RR 1 wC okC wsX6_place rmX6_place cX6_place 6 RX6 (some .int) [] 2 12 (fun G => [some (.ref (G.2.2 0)), some (iV x1), some (iV x2), some (iV x3), some (iV x4), none]) (fun G => []) 14 S Qr Qx
def R_X6_place_25 (x1 x2 x3 x4 x5 : Int) (S : St) (Qr : Int → St → Prop) (Qx : String → St → Prop) : Prop := r32 x1 → r32 x2 → r32 x3 → r32 x4 → r32 x5 → RR 1 wC okC wsX6_place rmX6_place cX6_place 6 RX6 (some .int) [] 2 12 (fun G => [some (.ref (G.2.2 0)), some (iV x1), some (iV x2), some (iV x3), some (iV x4), some (iV x5)]) (fun G => []) 25 S Qr Qx
set_option maxRecDepth 100000 in
set_option maxHeartbeats 4000000 in
theorem vc_X6_place {a0 a1 : Int} {S : St} {Qr : Int → St → Prop} {Qx : String → St → Prop} (h : r32 a0 → r32 a1 → okC S → M_X6_requireCount a1 S (fun _ S2 => okC S2 → M_X6_requireError a0 S2 (fun _ S7 => okC S7 → R_X6_place_14 a0 a1 0 (-60) S7 Qr Qx) Qx) Qx) : M_X6_place a0 a1 S Qr Qx := by
  intro ra0 ra1
  refine MM_of adC (by decide +kernel) rfl (Lf := fun G => [some (.ref (G.2.2 0)), some (iV a0), some (iV a1), none, none, none]) (fun G => by show _ ≤ _; exact Nat.le_of_ble_eq_true rfl) (fun G => rfl) ?_
  intro p l e s m args below meth c G A C hok
  have h := h ra0 ra1 hok
  replace C : Cx wC cX6_place 6 RX6 wsX6_place (some .int) [] p l s m args meth c G A := C
  show J wC 6 rmX6_place p l e s m args below meth c G A (QQ 1 wC okC G Qr Qx A below args s rmX6_place.cells rmX6_place.slots) 0 0 S [some (.ref (G.2.2 0)), some (iV a0), some (iV a1), none, none, none] [] 0
  refine J_iload_n (pc := 0) C dX6_place_0 rfl ?_
  refine J_c0 (pc := 1) C (J_rS (pc := 1) C (h ra1) dX6_place_1 rfl rfl (va_cwS 1 C.1.2.2.2.2 gX6_place_X6_requireCount rfl rfl rfl (by decide +kernel) ⟨Nat.le_of_ble_eq_true rfl, Nat.le_of_ble_eq_true rfl⟩) hok (Nat.le_of_ble_eq_true rfl) ⟨Nat.le_of_ble_eq_true rfl, Nat.le_of_ble_eq_true rfl⟩) (fun E9 S9 ok9 q9 => JX_out C ok9 q9 (by decide) (by decide)) (fun S2 hok3 h1 => ?_)
  have h1 := h1 hok3
  refine J_iload_n (pc := 4) C dX6_place_4 rfl ?_
  refine J_c0 (pc := 5) C (J_rS (pc := 5) C (h1 ra0) dX6_place_5 rfl rfl (va_cwS 1 C.1.2.2.2.2 gX6_place_X6_requireError rfl rfl rfl (by decide +kernel) ⟨Nat.le_of_ble_eq_true rfl, Nat.le_of_ble_eq_true rfl⟩) hok3 (Nat.le_of_ble_eq_true rfl) ⟨Nat.le_of_ble_eq_true rfl, Nat.le_of_ble_eq_true rfl⟩) (fun E9 S9 ok9 q9 => JX_out C ok9 q9 (by decide) (by decide)) (fun S7 hok8 h6 => ?_)
  have h6 := h6 hok8
  refine J_iconst (pc := 8) C dX6_place_8 ?_
  refine J_istore_n (pc := 9) C dX6_place_9 (by decide) ?_
  refine J_bipush (pc := 10) C dX6_place_10 (by decide) ?_
  refine J_istore (pc := 12) C dX6_place_12 (by decide) ?_
  exact J_sub (L1 := [some (.ref (G.2.2 0)), some (iV a0), some (iV a1), some (iV 0), some (iV (-60)), none]) ⟨rfl, ⟨rfl, ⟨rfl, ⟨rfl, ⟨rfl, trivial⟩⟩⟩⟩⟩ (h6 ra0 ra1 (by decide) (by decide) p l e s m args below meth c G A C hok8)
set_option maxRecDepth 100000 in
set_option maxHeartbeats 4000000 in
theorem vc_X6_place_14 {x1 x2 x3 x4 : Int} {S : St} {Qr : Int → St → Prop} {Qx : String → St → Prop} (h : r32 x1 → r32 x2 → r32 x3 → r32 x4 → okC S → ((60 < x4 → Qr (-1) S) ∧ (x4 ≤ 60 → R_X6_place_25 x1 x2 x3 x4 (-60) S Qr Qx))) : R_X6_place_14 x1 x2 x3 x4 S Qr Qx := by
  intro rx1 rx2 rx3 rx4
  intro p l e s m args below meth c G A C hok
  have h := h rx1 rx2 rx3 rx4 hok
  replace C : Cx wC cX6_place 6 RX6 wsX6_place (some .int) [] p l s m args meth c G A := C
  show J wC 6 rmX6_place p l e s m args below meth c G A (QQ 1 wC okC G Qr Qx A below args s rmX6_place.cells rmX6_place.slots) 2 12 S [some (.ref (G.2.2 0)), some (iV x1), some (iV x2), some (iV x3), some (iV x4), none] [] 14
  refine J_iload (pc := 14) C dX6_place_14 rfl ?_
  refine J_bipush (pc := 16) C dX6_place_16 (by decide) ?_
  obtain ⟨h1, h2⟩ := h
  refine J_icmp_gt (pc := 18) (tgt := 83) C dX6_place_18 (by decide) rx4 (by decide) (fun cb => ?_) (fun cb => ?_)
  · have h1 := h1 cb
    refine J_iconst (pc := 83) C dX6_place_83 ?_
    exact J_iret (pc := 84) C dX6_place_84 (by decide) hok h1 (by decide) (by decide)
  · have h2 := h2 cb
    refine J_bipush (pc := 21) C dX6_place_21 (by decide) ?_
    refine J_istore (pc := 23) C dX6_place_23 (by decide) ?_
    exact J_sub (L1 := [some (.ref (G.2.2 0)), some (iV x1), some (iV x2), some (iV x3), some (iV x4), some (iV (-60))]) ⟨rfl, ⟨rfl, ⟨rfl, ⟨rfl, ⟨rfl, ⟨rfl, trivial⟩⟩⟩⟩⟩⟩ (h2 rx1 rx2 rx3 rx4 (by decide) p l e s m args below meth c G A C hok)
set_option maxRecDepth 100000 in
set_option maxHeartbeats 4000000 in
theorem vc_X6_place_25 {x1 x2 x3 x4 x5 : Int} {S : St} {Qr : Int → St → Prop} {Qx : String → St → Prop} (h : r32 x1 → r32 x2 → r32 x3 → r32 x4 → r32 x5 → okC S → ((60 < x5 → (r32 (x4 + 1) ∧ R_X6_place_14 x1 x2 x3 (x4 + 1) S Qr Qx)) ∧ (x5 ≤ 60 → M_X1_fits x4 x5 x1 S (fun rv8 S6 => r32 rv8 → okC S6 → ((rv8 = 0 → (r32 (x5 + 1) ∧ R_X6_place_25 x1 x2 x3 x4 (x5 + 1) S6 Qr Qx)) ∧ (rv8 ≠ 0 → ((x3 ≠ x2 → (r32 (x3 + 1) ∧ (r32 (x5 + 1) ∧ R_X6_place_25 x1 x2 (x3 + 1) x4 (x5 + 1) S6 Qr Qx))) ∧ (x3 = x2 → (r32 (((1000 * (x4 + 60)) + x5) + 60) ∧ Qr (((1000 * (x4 + 60)) + x5) + 60) S6)))))) Qx))) : R_X6_place_25 x1 x2 x3 x4 x5 S Qr Qx := by
  intro rx1 rx2 rx3 rx4 rx5
  intro p l e s m args below meth c G A C hok
  have h := h rx1 rx2 rx3 rx4 rx5 hok
  replace C : Cx wC cX6_place 6 RX6 wsX6_place (some .int) [] p l s m args meth c G A := C
  show J wC 6 rmX6_place p l e s m args below meth c G A (QQ 1 wC okC G Qr Qx A below args s rmX6_place.cells rmX6_place.slots) 2 12 S [some (.ref (G.2.2 0)), some (iV x1), some (iV x2), some (iV x3), some (iV x4), some (iV x5)] [] 25
  refine J_iload (pc := 25) C dX6_place_25 rfl ?_
  refine J_bipush (pc := 27) C dX6_place_27 (by decide) ?_
  obtain ⟨h1, h2⟩ := h
  refine J_icmp_gt (pc := 29) (tgt := 77) C dX6_place_29 (by decide) rx5 (by decide) (fun cb => ?_) (fun cb => ?_)
  · have h1 := h1 cb
    refine J_iinc (pc := 77) C dX6_place_77 rfl (by decide) ?_
    refine J_goto (pc := 80) (tgt := 14) C dX6_place_80 (by decide) ?_
    obtain ⟨o3, h4⟩ := h1
    exact J_sub (L1 := [some (.ref (G.2.2 0)), some (iV x1), some (iV x2), some (iV x3), some (iV (x4 + 1)), none]) ⟨rfl, ⟨rfl, ⟨rfl, ⟨rfl, ⟨rfl, trivial⟩⟩⟩⟩⟩ (h4 rx1 rx2 rx3 o3 p l e s m args below meth c G A C hok)
  · have h2 := h2 cb
    refine J_aload_n (pc := 32) C dX6_place_32 rfl ?_
    refine J_get (pc := 33) C dX6_place_33 0 rfl rfl nX6_place_X6 0 (by decide) mX6_place_f10 rfl (v := .ref (G.2.2 1)) rfl ?_
    refine J_iload (pc := 36) C dX6_place_36 rfl ?_
    refine J_iload (pc := 38) C dX6_place_38 rfl ?_
    refine J_iload_n (pc := 40) C dX6_place_40 rfl ?_
    refine J_c1 (pc := 41) C (J_rV (pc := 41) C (h2 rx4 rx5 rx1) dX6_place_41 rfl rfl 1 rfl rfl (cwV 3 C.1.2.2.2.2 gX6_place_X1_fits rfl rfl rfl (by decide +kernel) ⟨Nat.le_of_ble_eq_true rfl, Nat.le_of_ble_eq_true rfl⟩) hok (Nat.le_of_ble_eq_true rfl) ⟨Nat.le_of_ble_eq_true rfl, Nat.le_of_ble_eq_true rfl⟩) (fun E9 S9 ok9 q9 => JX_out C ok9 q9 (by decide) (by decide)) (fun rv8 S6 hr9 hok7 h5 => ?_)
    have h5 := h5 hr9 hok7
    obtain ⟨h10, h11⟩ := h5
    refine J_if_eq (pc := 44) (tgt := 71) C dX6_place_44 (by decide) hr9 (fun cb => ?_) (fun cb => ?_)
    · have h10 := h10 cb
      refine J_iinc (pc := 71) C dX6_place_71 rfl (by decide) ?_
      refine J_goto (pc := 74) (tgt := 25) C dX6_place_74 (by decide) ?_
      obtain ⟨o12, h13⟩ := h10
      exact J_sub (L1 := [some (.ref (G.2.2 0)), some (iV x1), some (iV x2), some (iV x3), some (iV x4), some (iV (x5 + 1))]) ⟨rfl, ⟨rfl, ⟨rfl, ⟨rfl, ⟨rfl, ⟨rfl, trivial⟩⟩⟩⟩⟩⟩ (h13 rx1 rx2 rx3 rx4 o12 p l e s m args below meth c G A C hok7)
    · have h11 := h11 cb
      refine J_iload_n (pc := 47) C dX6_place_47 rfl ?_
      refine J_iload_n (pc := 48) C dX6_place_48 rfl ?_
      obtain ⟨h14, h15⟩ := h11
      refine J_icmp_ne (pc := 49) (tgt := 68) C dX6_place_49 (by decide) rx3 rx2 (fun cb => ?_) (fun cb => ?_)
      · have h14 := h14 cb
        refine J_iinc (pc := 68) C dX6_place_68 rfl (by decide) ?_
        refine J_iinc (pc := 71) C dX6_place_71 rfl (by decide) ?_
        refine J_goto (pc := 74) (tgt := 25) C dX6_place_74 (by decide) ?_
        obtain ⟨o16, h17⟩ := h14
        obtain ⟨o18, h19⟩ := h17
        exact J_sub (L1 := [some (.ref (G.2.2 0)), some (iV x1), some (iV x2), some (iV (x3 + 1)), some (iV x4), some (iV (x5 + 1))]) ⟨rfl, ⟨rfl, ⟨rfl, ⟨rfl, ⟨rfl, ⟨rfl, trivial⟩⟩⟩⟩⟩⟩ (h19 rx1 rx2 o16 rx4 o18 p l e s m args below meth c G A C hok7)
      · have h15 := h15 cb
        refine J_sipush (pc := 52) C dX6_place_52 (by decide) ?_
        refine J_iload (pc := 55) C dX6_place_55 rfl ?_
        refine J_bipush (pc := 57) C dX6_place_57 (by decide) ?_
        refine J_iadd (pc := 59) C dX6_place_59 ?_
        refine J_imul (pc := 60) C dX6_place_60 ?_
        refine J_iload (pc := 61) C dX6_place_61 rfl ?_
        refine J_iadd (pc := 63) C dX6_place_63 ?_
        refine J_bipush (pc := 64) C dX6_place_64 (by decide) ?_
        refine J_iadd (pc := 66) C dX6_place_66 ?_
        obtain ⟨o20, h21⟩ := h15
        exact J_iret (pc := 67) C dX6_place_67 o20 hok7 h21 (by decide) (by decide)
def rmX6_places : Room := { frames := 7, cells := 1, slots := 6, locals := 102 }
theorem mX6_places_f10 : Cond.fieldLink RX6 10 "Stresswork" "joints" "LStresswork$Joints;" ∈ wsX6_places := by decide +kernel
theorem nX6_places_X6 : ∀ x ∈ wsX60, x ∈ wsX6_places := by decide +kernel
def M_X6_places (a0 : Int) (S : St) (Qr : Int → St → Prop) (Qx : String → St → Prop) : Prop := r32 a0 → MM 1 wC okC yX6_places wsX6_places rmX6_places (fun G => [.ref (G.2.2 0), iV a0]) S Qr Qx
def R_X6_places_9 (x1 x2 x3 : Int) (S : St) (Qr : Int → St → Prop) (Qx : String → St → Prop) : Prop := r32 x1 → r32 x2 → r32 x3 → RR 1 wC okC wsX6_places rmX6_places cX6_places 5 RX6 (some .int) [] 1 6 (fun G => [some (.ref (G.2.2 0)), some (iV x1), some (iV x2), some (iV x3), none]) (fun G => []) 9 S Qr Qx
def R_X6_places_19 (x1 x2 x3 x4 : Int) (S : St) (Qr : Int → St → Prop) (Qx : String → St → Prop) : Prop := r32 x1 → r32 x2 → r32 x3 → r32 x4 → RR 1 wC okC wsX6_places rmX6_places cX6_places 5 RX6 (some .int) [] 1 6 (fun G => [some (.ref (G.2.2 0)), some (iV x1), some (iV x2), some (iV x3), some (iV x4)]) (fun G => []) 19 S Qr Qx
set_option maxRecDepth 100000 in
set_option maxHeartbeats 4000000 in
theorem vc_X6_places {a0 : Int} {S : St} {Qr : Int → St → Prop} {Qx : String → St → Prop} (h : r32 a0 → okC S → M_X6_requireError a0 S (fun _ S2 => okC S2 → R_X6_places_9 a0 0 (-60) S2 Qr Qx) Qx) : M_X6_places a0 S Qr Qx := by
  intro ra0
  refine MM_of adC (by decide +kernel) rfl (Lf := fun G => [some (.ref (G.2.2 0)), some (iV a0), none, none, none]) (fun G => by show _ ≤ _; exact Nat.le_of_ble_eq_true rfl) (fun G => rfl) ?_
  intro p l e s m args below meth c G A C hok
  have h := h ra0 hok
  replace C : Cx wC cX6_places 5 RX6 wsX6_places (some .int) [] p l s m args meth c G A := C
  show J wC 5 rmX6_places p l e s m args below meth c G A (QQ 1 wC okC G Qr Qx A below args s rmX6_places.cells rmX6_places.slots) 0 0 S [some (.ref (G.2.2 0)), some (iV a0), none, none, none] [] 0
  refine J_iload_n (pc := 0) C dX6_places_0 rfl ?_
  refine J_c0 (pc := 1) C (J_rS (pc := 1) C (h ra0) dX6_places_1 rfl rfl (va_cwS 1 C.1.2.2.2.2 gX6_places_X6_requireError rfl rfl rfl (by decide +kernel) ⟨Nat.le_of_ble_eq_true rfl, Nat.le_of_ble_eq_true rfl⟩) hok (Nat.le_of_ble_eq_true rfl) ⟨Nat.le_of_ble_eq_true rfl, Nat.le_of_ble_eq_true rfl⟩) (fun E9 S9 ok9 q9 => JX_out C ok9 q9 (by decide) (by decide)) (fun S2 hok3 h1 => ?_)
  have h1 := h1 hok3
  refine J_iconst (pc := 4) C dX6_places_4 ?_
  refine J_istore_n (pc := 5) C dX6_places_5 (by decide) ?_
  refine J_bipush (pc := 6) C dX6_places_6 (by decide) ?_
  refine J_istore_n (pc := 8) C dX6_places_8 (by decide) ?_
  exact J_sub (L1 := [some (.ref (G.2.2 0)), some (iV a0), some (iV 0), some (iV (-60)), none]) ⟨rfl, ⟨rfl, ⟨rfl, ⟨rfl, trivial⟩⟩⟩⟩ (h1 ra0 (by decide) (by decide) p l e s m args below meth c G A C hok3)
set_option maxRecDepth 100000 in
set_option maxHeartbeats 4000000 in
theorem vc_X6_places_9 {x1 x2 x3 : Int} {S : St} {Qr : Int → St → Prop} {Qx : String → St → Prop} (h : r32 x1 → r32 x2 → r32 x3 → okC S → ((60 < x3 → Qr x2 S) ∧ (x3 ≤ 60 → R_X6_places_19 x1 x2 x3 (-60) S Qr Qx))) : R_X6_places_9 x1 x2 x3 S Qr Qx := by
  intro rx1 rx2 rx3
  intro p l e s m args below meth c G A C hok
  have h := h rx1 rx2 rx3 hok
  replace C : Cx wC cX6_places 5 RX6 wsX6_places (some .int) [] p l s m args meth c G A := C
  show J wC 5 rmX6_places p l e s m args below meth c G A (QQ 1 wC okC G Qr Qx A below args s rmX6_places.cells rmX6_places.slots) 1 6 S [some (.ref (G.2.2 0)), some (iV x1), some (iV x2), some (iV x3), none] [] 9
  refine J_iload_n (pc := 9) C dX6_places_9 rfl ?_
  refine J_bipush (pc := 10) C dX6_places_10 (by decide) ?_
  obtain ⟨h1, h2⟩ := h
  refine J_icmp_gt (pc := 12) (tgt := 55) C dX6_places_12 (by decide) rx3 (by decide) (fun cb => ?_) (fun cb => ?_)
  · have h1 := h1 cb
    refine J_iload_n (pc := 55) C dX6_places_55 rfl ?_
    exact J_iret (pc := 56) C dX6_places_56 rx2 hok h1 (by decide) (by decide)
  · have h2 := h2 cb
    refine J_bipush (pc := 15) C dX6_places_15 (by decide) ?_
    refine J_istore (pc := 17) C dX6_places_17 (by decide) ?_
    exact J_sub (L1 := [some (.ref (G.2.2 0)), some (iV x1), some (iV x2), some (iV x3), some (iV (-60))]) ⟨rfl, ⟨rfl, ⟨rfl, ⟨rfl, ⟨rfl, trivial⟩⟩⟩⟩⟩ (h2 rx1 rx2 rx3 (by decide) p l e s m args below meth c G A C hok)
set_option maxRecDepth 100000 in
set_option maxHeartbeats 4000000 in
theorem vc_X6_places_19 {x1 x2 x3 x4 : Int} {S : St} {Qr : Int → St → Prop} {Qx : String → St → Prop} (h : r32 x1 → r32 x2 → r32 x3 → r32 x4 → okC S → ((60 < x4 → (r32 (x3 + 1) ∧ R_X6_places_9 x1 x2 (x3 + 1) S Qr Qx)) ∧ (x4 ≤ 60 → M_X1_fits x3 x4 x1 S (fun rv8 S6 => r32 rv8 → okC S6 → ((rv8 = 0 → (r32 (x4 + 1) ∧ R_X6_places_19 x1 x2 x3 (x4 + 1) S6 Qr Qx)) ∧ (rv8 ≠ 0 → (r32 (x2 + 1) ∧ (r32 (x4 + 1) ∧ R_X6_places_19 x1 (x2 + 1) x3 (x4 + 1) S6 Qr Qx))))) Qx))) : R_X6_places_19 x1 x2 x3 x4 S Qr Qx := by
  intro rx1 rx2 rx3 rx4
  intro p l e s m args below meth c G A C hok
  have h := h rx1 rx2 rx3 rx4 hok
  replace C : Cx wC cX6_places 5 RX6 wsX6_places (some .int) [] p l s m args meth c G A := C
  show J wC 5 rmX6_places p l e s m args below meth c G A (QQ 1 wC okC G Qr Qx A below args s rmX6_places.cells rmX6_places.slots) 1 6 S [some (.ref (G.2.2 0)), some (iV x1), some (iV x2), some (iV x3), some (iV x4)] [] 19
  refine J_iload (pc := 19) C dX6_places_19 rfl ?_
  refine J_bipush (pc := 21) C dX6_places_21 (by decide) ?_
  obtain ⟨h1, h2⟩ := h
  refine J_icmp_gt (pc := 23) (tgt := 49) C dX6_places_23 (by decide) rx4 (by decide) (fun cb => ?_) (fun cb => ?_)
  · have h1 := h1 cb
    refine J_iinc (pc := 49) C dX6_places_49 rfl (by decide) ?_
    refine J_goto (pc := 52) (tgt := 9) C dX6_places_52 (by decide) ?_
    obtain ⟨o3, h4⟩ := h1
    exact J_sub (L1 := [some (.ref (G.2.2 0)), some (iV x1), some (iV x2), some (iV (x3 + 1)), none]) ⟨rfl, ⟨rfl, ⟨rfl, ⟨rfl, trivial⟩⟩⟩⟩ (h4 rx1 rx2 o3 p l e s m args below meth c G A C hok)
  · have h2 := h2 cb
    refine J_aload_n (pc := 26) C dX6_places_26 rfl ?_
    refine J_get (pc := 27) C dX6_places_27 0 rfl rfl nX6_places_X6 0 (by decide) mX6_places_f10 rfl (v := .ref (G.2.2 1)) rfl ?_
    refine J_iload_n (pc := 30) C dX6_places_30 rfl ?_
    refine J_iload (pc := 31) C dX6_places_31 rfl ?_
    refine J_iload_n (pc := 33) C dX6_places_33 rfl ?_
    refine J_c1 (pc := 34) C (J_rV (pc := 34) C (h2 rx3 rx4 rx1) dX6_places_34 rfl rfl 1 rfl rfl (cwV 3 C.1.2.2.2.2 gX6_places_X1_fits rfl rfl rfl (by decide +kernel) ⟨Nat.le_of_ble_eq_true rfl, Nat.le_of_ble_eq_true rfl⟩) hok (Nat.le_of_ble_eq_true rfl) ⟨Nat.le_of_ble_eq_true rfl, Nat.le_of_ble_eq_true rfl⟩) (fun E9 S9 ok9 q9 => JX_out C ok9 q9 (by decide) (by decide)) (fun rv8 S6 hr9 hok7 h5 => ?_)
    have h5 := h5 hr9 hok7
    obtain ⟨h10, h11⟩ := h5
    refine J_if_eq (pc := 37) (tgt := 43) C dX6_places_37 (by decide) hr9 (fun cb => ?_) (fun cb => ?_)
    · have h10 := h10 cb
      refine J_iinc (pc := 43) C dX6_places_43 rfl (by decide) ?_
      refine J_goto (pc := 46) (tgt := 19) C dX6_places_46 (by decide) ?_
      obtain ⟨o12, h13⟩ := h10
      exact J_sub (L1 := [some (.ref (G.2.2 0)), some (iV x1), some (iV x2), some (iV x3), some (iV (x4 + 1))]) ⟨rfl, ⟨rfl, ⟨rfl, ⟨rfl, ⟨rfl, trivial⟩⟩⟩⟩⟩ (h13 rx1 rx2 rx3 o12 p l e s m args below meth c G A C hok7)
    · have h11 := h11 cb
      refine J_iinc (pc := 40) C dX6_places_40 rfl (by decide) ?_
      refine J_iinc (pc := 43) C dX6_places_43 rfl (by decide) ?_
      refine J_goto (pc := 46) (tgt := 19) C dX6_places_46 (by decide) ?_
      obtain ⟨o14, h15⟩ := h11
      obtain ⟨o16, h17⟩ := h15
      exact J_sub (L1 := [some (.ref (G.2.2 0)), some (iV x1), some (iV (x2 + 1)), some (iV x3), some (iV (x4 + 1))]) ⟨rfl, ⟨rfl, ⟨rfl, ⟨rfl, ⟨rfl, trivial⟩⟩⟩⟩⟩ (h17 rx1 o14 rx3 o16 p l e s m args below meth c G A C hok7)
def rmX6_range : Room := { frames := 7, cells := 2, slots := 12, locals := 103 }
theorem mX6_range_f10 : Cond.fieldLink RX6 10 "Stresswork" "joints" "LStresswork$Joints;" ∈ wsX6_range := by decide +kernel
theorem nX6_range_X6 : ∀ x ∈ wsX60, x ∈ wsX6_range := by decide +kernel
theorem mX6_range_f272 : Cond.fieldLink RX6 272 "Stresswork$Joints" "square" "[I" ∈ wsX6_range := by decide +kernel
theorem nX6_range_X1 : ∀ x ∈ wsX10, x ∈ wsX6_range := by decide +kernel
theorem mX6_range_xA : Cond.classLink RX6 84 "java/lang/IllegalArgumentException" ∈ wsX6_range := by decide +kernel
theorem mX6_range_yA : Cond.initialized "java/lang/IllegalArgumentException" ∈ wsX6_range := by decide +kernel
theorem mX6_range_zA : ∀ x ∈ (vx_atS RX6 88 "java/lang/IllegalArgumentException" exP).filter goodWord, x ∈ wsX6_range := by decide +kernel
def M_X6_range (a0 a1 : Int) (S : St) (Qr : Int → St → Prop) (Qx : String → St → Prop) : Prop := r32 a0 → r32 a1 → MM 1 wC okC yX6_range wsX6_range rmX6_range (fun G => [.ref (G.2.2 0), iV a0, iV a1]) S Qr Qx
set_option maxRecDepth 100000 in
set_option maxHeartbeats 4000000 in
theorem vc_X6_range {a0 a1 : Int} {S : St} {Qr : Int → St → Prop} {Qx : String → St → Prop} (h : r32 a0 → r32 a1 → okC S → M_X6_requireJoint a0 S (fun _ S2 => okC S2 → ((a1 = (-1) → (ix a0 10 ∧ Qr (S2 10 a0) (up S2 10 a0 a1))) ∧ (a1 ≠ (-1) → ((a1 < 0 → Qx "java/lang/IllegalArgumentException" S2) ∧ (0 ≤ a1 → ((a1 ≤ 30000 → (ix a0 10 ∧ Qr (S2 10 a0) (up S2 10 a0 a1))) ∧ (30000 < a1 → Qx "java/lang/IllegalArgumentException" S2))))))) Qx) : M_X6_range a0 a1 S Qr Qx := by
  intro ra0 ra1
  refine MM_of adC (by decide +kernel) rfl (Lf := fun G => [some (.ref (G.2.2 0)), some (iV a0), some (iV a1), none]) (fun G => by show _ ≤ _; exact Nat.le_of_ble_eq_true rfl) (fun G => rfl) ?_
  intro p l e s m args below meth c G A C hok
  have h := h ra0 ra1 hok
  replace C : Cx wC cX6_range 4 RX6 wsX6_range (some .int) [] p l s m args meth c G A := C
  show J wC 4 rmX6_range p l e s m args below meth c G A (QQ 1 wC okC G Qr Qx A below args s rmX6_range.cells rmX6_range.slots) 0 0 S [some (.ref (G.2.2 0)), some (iV a0), some (iV a1), none] [] 0
  refine J_aload_n (pc := 0) C dX6_range_0 rfl ?_
  refine J_iload_n (pc := 1) C dX6_range_1 rfl ?_
  refine J_c0 (pc := 2) C (J_rV (pc := 2) C (h ra0) dX6_range_2 rfl rfl 0 rfl rfl (cwV 1 C.1.2.2.2.2 gX6_range_X6_requireJoint rfl rfl rfl (by decide +kernel) ⟨Nat.le_of_ble_eq_true rfl, Nat.le_of_ble_eq_true rfl⟩) hok (Nat.le_of_ble_eq_true rfl) ⟨Nat.le_of_ble_eq_true rfl, Nat.le_of_ble_eq_true rfl⟩) (fun E9 S9 ok9 q9 => JX_out C ok9 q9 (by decide) (by decide)) (fun S2 hok3 h1 => ?_)
  have h1 := h1 hok3
  refine J_iload_n (pc := 5) C dX6_range_5 rfl ?_
  refine J_iconst (pc := 6) C dX6_range_6 ?_
  obtain ⟨h6, h7⟩ := h1
  refine J_icmp_eq (pc := 7) (tgt := 32) C dX6_range_7 (by decide) ra1 (by decide) (fun cb => ?_) (fun cb => ?_)
  · have h6 := h6 cb
    refine J_aload_n (pc := 32) C dX6_range_32 rfl ?_
    refine J_get (pc := 33) C dX6_range_33 0 rfl rfl nX6_range_X6 0 (by decide) mX6_range_f10 rfl (v := .ref (G.2.2 1)) rfl ?_
    refine J_get (pc := 36) C dX6_range_36 1 rfl rfl nX6_range_X1 3 (by decide) mX6_range_f272 rfl (v := .ref (G.2.2 10)) rfl ?_
    refine J_iload_n (pc := 39) C dX6_range_39 rfl ?_
    obtain ⟨o8, h9⟩ := h6
    refine J_iald (pc := 40) C dX6_range_40 10 10 rfl (by decide) o8 ?_
    refine J_istore_n (pc := 41) C dX6_range_41 (by decide) ?_
    refine J_aload_n (pc := 42) C dX6_range_42 rfl ?_
    refine J_get (pc := 43) C dX6_range_43 0 rfl rfl nX6_range_X6 0 (by decide) mX6_range_f10 rfl (v := .ref (G.2.2 1)) rfl ?_
    refine J_get (pc := 46) C dX6_range_46 1 rfl rfl nX6_range_X1 3 (by decide) mX6_range_f272 rfl (v := .ref (G.2.2 10)) rfl ?_
    refine J_iload_n (pc := 49) C dX6_range_49 rfl ?_
    refine J_iload_n (pc := 50) C dX6_range_50 rfl ?_
    refine J_iast (pc := 51) C dX6_range_51 10 10 rfl (by decide) o8 (sC_10 G S2 a0 a1) ?_
    have hok10 := okC_up (k := 10) (j := a0) hok3 (show rngC 10 a1 from ra1)
    refine J_iload_n (pc := 52) C dX6_range_52 rfl ?_
    exact J_iret (pc := 53) C dX6_range_53 (hok3 10 a0) hok10 h9 (by decide) (by decide)
  · have h7 := h7 cb
    refine J_iload_n (pc := 10) C dX6_range_10 rfl ?_
    obtain ⟨h11, h12⟩ := h7
    refine J_if_lt (pc := 11) (tgt := 21) C dX6_range_11 (by decide) ra1 (fun cb => ?_) (fun cb => ?_)
    · have h11 := h11 cb
      exact J_throwW (pc := 21) C exW_A mX6_range_xA mX6_range_yA (text := "square is out of range") (by decide +kernel) mX6_range_zA dX6_range_21 dX6_range_24 dX6_range_25 dX6_range_28 dX6_range_31 (by decide) (by decide) (by decide) (by decide) hok3 h11
    · have h12 := h12 cb
      refine J_iload_n (pc := 14) C dX6_range_14 rfl ?_
      refine J_sipush (pc := 15) C dX6_range_15 (by decide) ?_
      obtain ⟨h13, h14⟩ := h12
      refine J_icmp_le (pc := 18) (tgt := 32) C dX6_range_18 (by decide) ra1 (by decide) (fun cb => ?_) (fun cb => ?_)
      · have h13 := h13 cb
        refine J_aload_n (pc := 32) C dX6_range_32 rfl ?_
        refine J_get (pc := 33) C dX6_range_33 0 rfl rfl nX6_range_X6 0 (by decide) mX6_range_f10 rfl (v := .ref (G.2.2 1)) rfl ?_
        refine J_get (pc := 36) C dX6_range_36 1 rfl rfl nX6_range_X1 3 (by decide) mX6_range_f272 rfl (v := .ref (G.2.2 10)) rfl ?_
        refine J_iload_n (pc := 39) C dX6_range_39 rfl ?_
        obtain ⟨o15, h16⟩ := h13
        refine J_iald (pc := 40) C dX6_range_40 10 10 rfl (by decide) o15 ?_
        refine J_istore_n (pc := 41) C dX6_range_41 (by decide) ?_
        refine J_aload_n (pc := 42) C dX6_range_42 rfl ?_
        refine J_get (pc := 43) C dX6_range_43 0 rfl rfl nX6_range_X6 0 (by decide) mX6_range_f10 rfl (v := .ref (G.2.2 1)) rfl ?_
        refine J_get (pc := 46) C dX6_range_46 1 rfl rfl nX6_range_X1 3 (by decide) mX6_range_f272 rfl (v := .ref (G.2.2 10)) rfl ?_
        refine J_iload_n (pc := 49) C dX6_range_49 rfl ?_
        refine J_iload_n (pc := 50) C dX6_range_50 rfl ?_
        refine J_iast (pc := 51) C dX6_range_51 10 10 rfl (by decide) o15 (sC_10 G S2 a0 a1) ?_
        have hok17 := okC_up (k := 10) (j := a0) hok3 (show rngC 10 a1 from ra1)
        refine J_iload_n (pc := 52) C dX6_range_52 rfl ?_
        exact J_iret (pc := 53) C dX6_range_53 (hok3 10 a0) hok17 h16 (by decide) (by decide)
      · have h14 := h14 cb
        exact J_throwW (pc := 21) C exW_A mX6_range_xA mX6_range_yA (text := "square is out of range") (by decide +kernel) mX6_range_zA dX6_range_21 dX6_range_24 dX6_range_25 dX6_range_28 dX6_range_31 (by decide) (by decide) (by decide) (by decide) hok3 h14
def rmX6_rank : Room := { frames := 6, cells := 0, slots := 0, locals := 142 }
theorem mX6_rank_f33 : Cond.fieldLink RX6 33 "Stresswork" "layout" "LStresswork$Layout;" ∈ wsX6_rank := by decide +kernel
theorem nX6_rank_X6 : ∀ x ∈ wsX60, x ∈ wsX6_rank := by decide +kernel
theorem mX6_rank_f10 : Cond.fieldLink RX6 10 "Stresswork" "joints" "LStresswork$Joints;" ∈ wsX6_rank := by decide +kernel
def M_X6_rank (S : St) (Qr : Int → St → Prop) (Qx : String → St → Prop) : Prop := MM 1 wC okC yX6_rank wsX6_rank rmX6_rank (fun G => [.ref (G.2.2 0)]) S Qr Qx
set_option maxRecDepth 100000 in
set_option maxHeartbeats 4000000 in
theorem vc_X6_rank {S : St} {Qr : Int → St → Prop} {Qx : String → St → Prop} (h : okC S → M_X2_takeJoints S (fun _ S2 => okC S2 → M_X6_rankWithout (-1) S2 (fun rv9 S7 => r32 rv9 → okC S7 → Qr rv9 S7) Qx) Qx) : M_X6_rank S Qr Qx := by
  refine MM_of adC (by decide +kernel) rfl (Lf := fun G => [some (.ref (G.2.2 0))]) (fun G => by show _ ≤ _; exact Nat.le_of_ble_eq_true rfl) (fun G => rfl) ?_
  intro p l e s m args below meth c G A C hok
  have h := h hok
  replace C : Cx wC cX6_rank 1 RX6 wsX6_rank (some .int) [] p l s m args meth c G A := C
  show J wC 1 rmX6_rank p l e s m args below meth c G A (QQ 1 wC okC G Qr Qx A below args s rmX6_rank.cells rmX6_rank.slots) 0 0 S [some (.ref (G.2.2 0))] [] 0
  refine J_aload_n (pc := 0) C dX6_rank_0 rfl ?_
  refine J_get (pc := 1) C dX6_rank_1 0 rfl rfl nX6_rank_X6 3 (by decide) mX6_rank_f33 rfl (v := .ref (G.2.2 4)) rfl ?_
  refine J_aload_n (pc := 4) C dX6_rank_4 rfl ?_
  refine J_get (pc := 5) C dX6_rank_5 0 rfl rfl nX6_rank_X6 0 (by decide) mX6_rank_f10 rfl (v := .ref (G.2.2 1)) rfl ?_
  refine J_c0 (pc := 8) C (J_rV (pc := 8) C h dX6_rank_8 rfl rfl 4 rfl rfl (cwV 1 C.1.2.2.2.2 gX6_rank_X2_takeJoints rfl rfl rfl (by decide +kernel) ⟨Nat.le_of_ble_eq_true rfl, Nat.le_of_ble_eq_true rfl⟩) hok (Nat.le_of_ble_eq_true rfl) ⟨Nat.le_of_ble_eq_true rfl, Nat.le_of_ble_eq_true rfl⟩) (fun E9 S9 ok9 q9 => JX_out C ok9 q9 (by decide) (by decide)) (fun S2 hok3 h1 => ?_)
  have h1 := h1 hok3
  refine J_aload_n (pc := 11) C dX6_rank_11 rfl ?_
  refine J_iconst (pc := 12) C dX6_rank_12 ?_
  refine J_c1 (pc := 13) C (J_rV (pc := 13) C (h1 (by decide)) dX6_rank_13 rfl rfl 0 rfl rfl (cwV 1 C.1.2.2.2.2 gX6_rank_X6_rankWithout rfl rfl rfl (by decide +kernel) ⟨Nat.le_of_ble_eq_true rfl, Nat.le_of_ble_eq_true rfl⟩) hok3 (Nat.le_of_ble_eq_true rfl) ⟨Nat.le_of_ble_eq_true rfl, Nat.le_of_ble_eq_true rfl⟩) (fun E9 S9 ok9 q9 => JX_out C ok9 q9 (by decide) (by decide)) (fun rv9 S7 hr10 hok8 h6 => ?_)
  have h6 := h6 hr10 hok8
  exact J_iret (pc := 16) C dX6_rank_16 hr10 hok8 h6 (by decide) (by decide)
def rmX6_rankAt : Room := { frames := 6, cells := 1, slots := 6, locals := 142 }
theorem mX6_rankAt_xA : Cond.classLink RX6 84 "java/lang/IllegalArgumentException" ∈ wsX6_rankAt := by decide +kernel
theorem mX6_rankAt_yA : Cond.initialized "java/lang/IllegalArgumentException" ∈ wsX6_rankAt := by decide +kernel
theorem mX6_rankAt_zA : ∀ x ∈ (vx_atS RX6 88 "java/lang/IllegalArgumentException" exP).filter goodWord, x ∈ wsX6_rankAt := by decide +kernel
theorem mX6_rankAt_c152 : Cond.constant RX6 152 (1000003) ∈ wsX6_rankAt := by decide +kernel
theorem mX6_rankAt_f33 : Cond.fieldLink RX6 33 "Stresswork" "layout" "LStresswork$Layout;" ∈ wsX6_rankAt := by decide +kernel
theorem nX6_rankAt_X6 : ∀ x ∈ wsX60, x ∈ wsX6_rankAt := by decide +kernel
theorem mX6_rankAt_f10 : Cond.fieldLink RX6 10 "Stresswork" "joints" "LStresswork$Joints;" ∈ wsX6_rankAt := by decide +kernel
theorem mX6_rankAt_f155 : Cond.fieldLink RX6 155 "Stresswork$Joints" "count" "I" ∈ wsX6_rankAt := by decide +kernel
theorem nX6_rankAt_X1 : ∀ x ∈ wsX10, x ∈ wsX6_rankAt := by decide +kernel
def M_X6_rankAt (a0 : Int) (S : St) (Qr : Int → St → Prop) (Qx : String → St → Prop) : Prop := r32 a0 → MM 1 wC okC yX6_rankAt wsX6_rankAt rmX6_rankAt (fun G => [.ref (G.2.2 0), iV a0]) S Qr Qx
set_option maxRecDepth 100000 in
set_option maxHeartbeats 4000000 in
theorem vc_X6_rankAt {a0 : Int} {S : St} {Qr : Int → St → Prop} {Qx : String → St → Prop} (h : r32 a0 → okC S → ((a0 < 0 → Qx "java/lang/IllegalArgumentException" S) ∧ (0 ≤ a0 → ((a0 < 1000003 → M_X2_drawPoints (S 1 4) a0 S (fun _ S6 => okC S6 → M_X6_rankWithout (-1) S6 (fun rv13 S11 => r32 rv13 → okC S11 → Qr rv13 S11) Qx) Qx) ∧ (1000003 ≤ a0 → Qx "java/lang/IllegalArgumentException" S))))) : M_X6_rankAt a0 S Qr Qx := by
  intro ra0
  refine MM_of adC (by decide +kernel) rfl (Lf := fun G => [some (.ref (G.2.2 0)), some (iV a0)]) (fun G => by show _ ≤ _; exact Nat.le_of_ble_eq_true rfl) (fun G => rfl) ?_
  intro p l e s m args below meth c G A C hok
  have h := h ra0 hok
  replace C : Cx wC cX6_rankAt 2 RX6 wsX6_rankAt (some .int) [] p l s m args meth c G A := C
  show J wC 2 rmX6_rankAt p l e s m args below meth c G A (QQ 1 wC okC G Qr Qx A below args s rmX6_rankAt.cells rmX6_rankAt.slots) 0 0 S [some (.ref (G.2.2 0)), some (iV a0)] [] 0
  refine J_iload_n (pc := 0) C dX6_rankAt_0 rfl ?_
  obtain ⟨h1, h2⟩ := h
  refine J_if_lt (pc := 1) (tgt := 10) C dX6_rankAt_1 (by decide) ra0 (fun cb => ?_) (fun cb => ?_)
  · have h1 := h1 cb
    exact J_throw (pc := 10) C exW_A mX6_rankAt_xA mX6_rankAt_yA (text := "seed is out of range") (by decide +kernel) mX6_rankAt_zA dX6_rankAt_10 dX6_rankAt_13 dX6_rankAt_14 dX6_rankAt_16 dX6_rankAt_19 (by decide) (by decide) (by decide) (by decide) hok h1
  · have h2 := h2 cb
    refine J_iload_n (pc := 4) C dX6_rankAt_4 rfl ?_
    refine J_ldc (pc := 5) (z := 1000003) C mX6_rankAt_c152 (by decide) dX6_rankAt_5 ?_
    obtain ⟨h3, h4⟩ := h2
    refine J_icmp_lt (pc := 7) (tgt := 20) C dX6_rankAt_7 (by decide) ra0 (by decide) (fun cb => ?_) (fun cb => ?_)
    · have h3 := h3 cb
      refine J_aload_n (pc := 20) C dX6_rankAt_20 rfl ?_
      refine J_get (pc := 21) C dX6_rankAt_21 0 rfl rfl nX6_rankAt_X6 3 (by decide) mX6_rankAt_f33 rfl (v := .ref (G.2.2 4)) rfl ?_
      refine J_aload_n (pc := 24) C dX6_rankAt_24 rfl ?_
      refine J_get (pc := 25) C dX6_rankAt_25 0 rfl rfl nX6_rankAt_X6 0 (by decide) mX6_rankAt_f10 rfl (v := .ref (G.2.2 1)) rfl ?_
      refine J_get (pc := 28) C dX6_rankAt_28 1 rfl rfl nX6_rankAt_X1 4 (by decide) mX6_rankAt_f155 rfl (v := iV (S 1 4)) rfl ?_
      refine J_iload_n (pc := 31) C dX6_rankAt_31 rfl ?_
      refine J_c0 (pc := 32) C (J_rV (pc := 32) C (h3 (hok 1 4) ra0) dX6_rankAt_32 rfl rfl 4 rfl rfl (cwV 2 C.1.2.2.2.2 gX6_rankAt_X2_drawPoints rfl rfl rfl (by decide +kernel) ⟨Nat.le_of_ble_eq_true rfl, Nat.le_of_ble_eq_true rfl⟩) hok (Nat.le_of_ble_eq_true rfl) ⟨Nat.le_of_ble_eq_true rfl, Nat.le_of_ble_eq_true rfl⟩) (fun E9 S9 ok9 q9 => JX_out C ok9 q9 (by decide) (by decide)) (fun S6 hok7 h5 => ?_)
      have h5 := h5 hok7
      refine J_aload_n (pc := 35) C dX6_rankAt_35 rfl ?_
      refine J_iconst (pc := 36) C dX6_rankAt_36 ?_
      refine J_c1 (pc := 37) C (J_rV (pc := 37) C (h5 (by decide)) dX6_rankAt_37 rfl rfl 0 rfl rfl (cwV 1 C.1.2.2.2.2 gX6_rankAt_X6_rankWithout rfl rfl rfl (by decide +kernel) ⟨Nat.le_of_ble_eq_true rfl, Nat.le_of_ble_eq_true rfl⟩) hok7 (Nat.le_of_ble_eq_true rfl) ⟨Nat.le_of_ble_eq_true rfl, Nat.le_of_ble_eq_true rfl⟩) (fun E9 S9 ok9 q9 => JX_out C ok9 q9 (by decide) (by decide)) (fun rv13 S11 hr14 hok12 h10 => ?_)
      have h10 := h10 hr14 hok12
      exact J_iret (pc := 40) C dX6_rankAt_40 hr14 hok12 h10 (by decide) (by decide)
    · have h4 := h4 cb
      exact J_throw (pc := 10) C exW_A mX6_rankAt_xA mX6_rankAt_yA (text := "seed is out of range") (by decide +kernel) mX6_rankAt_zA dX6_rankAt_10 dX6_rankAt_13 dX6_rankAt_14 dX6_rankAt_16 dX6_rankAt_19 (by decide) (by decide) (by decide) (by decide) hok h4
def rmX6_remove : Room := { frames := 7, cells := 1, slots := 6, locals := 103 }
theorem mX6_remove_f19 : Cond.fieldLink RX6 19 "Stresswork" "members" "LStresswork$Members;" ∈ wsX6_remove := by decide +kernel
theorem nX6_remove_X6 : ∀ x ∈ wsX60, x ∈ wsX6_remove := by decide +kernel
theorem mX6_remove_f109 : Cond.fieldLink RX6 109 "Stresswork$Members" "gone" "[Z" ∈ wsX6_remove := by decide +kernel
theorem nX6_remove_X3 : ∀ x ∈ wsX30, x ∈ wsX6_remove := by decide +kernel
def M_X6_remove (a0 : Int) (S : St) (Qr : Int → St → Prop) (Qx : String → St → Prop) : Prop := r32 a0 → MM 1 wC okC yX6_remove wsX6_remove rmX6_remove (fun G => [.ref (G.2.2 0), iV a0]) S Qr Qx
set_option maxRecDepth 100000 in
set_option maxHeartbeats 4000000 in
theorem vc_X6_remove {a0 : Int} {S : St} {Qr : Int → St → Prop} {Qx : String → St → Prop} (h : r32 a0 → okC S → M_X6_requireMember a0 S (fun _ S2 => okC S2 → (ix a0 40 ∧ M_X3_present (up S2 15 a0 1) (fun rv12 S10 => r32 rv12 → okC S10 → Qr rv12 S10) Qx)) Qx) : M_X6_remove a0 S Qr Qx := by
  intro ra0
  refine MM_of adC (by decide +kernel) rfl (Lf := fun G => [some (.ref (G.2.2 0)), some (iV a0)]) (fun G => by show _ ≤ _; exact Nat.le_of_ble_eq_true rfl) (fun G => rfl) ?_
  intro p l e s m args below meth c G A C hok
  have h := h ra0 hok
  replace C : Cx wC cX6_remove 2 RX6 wsX6_remove (some .int) [] p l s m args meth c G A := C
  show J wC 2 rmX6_remove p l e s m args below meth c G A (QQ 1 wC okC G Qr Qx A below args s rmX6_remove.cells rmX6_remove.slots) 0 0 S [some (.ref (G.2.2 0)), some (iV a0)] [] 0
  refine J_aload_n (pc := 0) C dX6_remove_0 rfl ?_
  refine J_iload_n (pc := 1) C dX6_remove_1 rfl ?_
  refine J_c0 (pc := 2) C (J_rV (pc := 2) C (h ra0) dX6_remove_2 rfl rfl 0 rfl rfl (cwV 1 C.1.2.2.2.2 gX6_remove_X6_requireMember rfl rfl rfl (by decide +kernel) ⟨Nat.le_of_ble_eq_true rfl, Nat.le_of_ble_eq_true rfl⟩) hok (Nat.le_of_ble_eq_true rfl) ⟨Nat.le_of_ble_eq_true rfl, Nat.le_of_ble_eq_true rfl⟩) (fun E9 S9 ok9 q9 => JX_out C ok9 q9 (by decide) (by decide)) (fun S2 hok3 h1 => ?_)
  have h1 := h1 hok3
  refine J_aload_n (pc := 5) C dX6_remove_5 rfl ?_
  refine J_get (pc := 6) C dX6_remove_6 0 rfl rfl nX6_remove_X6 1 (by decide) mX6_remove_f19 rfl (v := .ref (G.2.2 2)) rfl ?_
  refine J_get (pc := 9) C dX6_remove_9 2 rfl rfl nX6_remove_X3 4 (by decide) mX6_remove_f109 rfl (v := .ref (G.2.2 15)) rfl ?_
  refine J_iload_n (pc := 12) C dX6_remove_12 rfl ?_
  refine J_iconst (pc := 13) C dX6_remove_13 ?_
  obtain ⟨o6, h7⟩ := h1
  refine J_zast (pc := 14) C dX6_remove_14 15 15 rfl (by decide) o6 (by decide) (sC_15 G S2 a0 1) ?_
  have hok8 := okC_up (k := 15) (j := a0) hok3 (show rngC 15 1 from (by decide : (0:Int) ≤ 1 ∧ (1:Int) ≤ 1))
  refine J_aload_n (pc := 15) C dX6_remove_15 rfl ?_
  refine J_get (pc := 16) C dX6_remove_16 0 rfl rfl nX6_remove_X6 1 (by decide) mX6_remove_f19 rfl (v := .ref (G.2.2 2)) rfl ?_
  refine J_c1 (pc := 19) C (J_rV (pc := 19) C h7 dX6_remove_19 rfl rfl 2 rfl rfl (cwV 0 C.1.2.2.2.2 gX6_remove_X3_present rfl rfl rfl (by decide +kernel) ⟨Nat.le_of_ble_eq_true rfl, Nat.le_of_ble_eq_true rfl⟩) hok8 (Nat.le_of_ble_eq_true rfl) ⟨Nat.le_of_ble_eq_true rfl, Nat.le_of_ble_eq_true rfl⟩) (fun E9 S9 ok9 q9 => JX_out C ok9 q9 (by decide) (by decide)) (fun rv12 S10 hr13 hok11 h9 => ?_)
  have h9 := h9 hr13 hok11
  exact J_iret (pc := 22) C dX6_remove_22 hr13 hok11 h9 (by decide) (by decide)
def rmX6_split : Room := { frames := 7, cells := 5, slots := 30, locals := 103 }
theorem mX6_split_f19 : Cond.fieldLink RX6 19 "Stresswork" "members" "LStresswork$Members;" ∈ wsX6_split := by decide +kernel
theorem nX6_split_X6 : ∀ x ∈ wsX60, x ∈ wsX6_split := by decide +kernel
theorem mX6_split_f10 : Cond.fieldLink RX6 10 "Stresswork" "joints" "LStresswork$Joints;" ∈ wsX6_split := by decide +kernel
theorem mX6_split_f109 : Cond.fieldLink RX6 109 "Stresswork$Members" "gone" "[Z" ∈ wsX6_split := by decide +kernel
theorem nX6_split_X3 : ∀ x ∈ wsX30, x ∈ wsX6_split := by decide +kernel
theorem mX6_split_f168 : Cond.fieldLink RX6 168 "Stresswork$Members" "from" "[I" ∈ wsX6_split := by decide +kernel
theorem mX6_split_f171 : Cond.fieldLink RX6 171 "Stresswork$Members" "to" "[I" ∈ wsX6_split := by decide +kernel
theorem mX6_split_f26 : Cond.fieldLink RX6 26 "Stresswork" "steps" "LStresswork$Steps;" ∈ wsX6_split := by decide +kernel
theorem mX6_split_xA : Cond.classLink RX6 84 "java/lang/IllegalArgumentException" ∈ wsX6_split := by decide +kernel
theorem mX6_split_yA : Cond.initialized "java/lang/IllegalArgumentException" ∈ wsX6_split := by decide +kernel
theorem mX6_split_zA : ∀ x ∈ (vx_atS RX6 88 "java/lang/IllegalArgumentException" exP).filter goodWord, x ∈ wsX6_split := by decide +kernel
def M_X6_split (a0 a1 a2 a3 : Int) (S : St) (Qr : Int → St → Prop) (Qx : String → St → Prop) : Prop := r32 a0 → r32 a1 → r32 a2 → r32 a3 → MM 1 wC okC yX6_split wsX6_split rmX6_split (fun G => [.ref (G.2.2 0), iV a0, iV a1, iV a2, iV a3]) S Qr Qx
set_option maxRecDepth 100000 in
set_option maxHeartbeats 4000000 in
theorem vc_X6_split {a0 a1 a2 a3 : Int} {S : St} {Qr : Int → St → Prop} {Qx : String → St → Prop} (h : r32 a0 → r32 a1 → r32 a2 → r32 a3 → okC S → M_X6_requireMember a0 S (fun _ S2 => okC S2 → M_X6_requireJoint a1 S2 (fun _ S7 => okC S7 → M_X3_endsAt a0 a1 S7 (fun rv14 S12 => r32 rv14 → okC S12 → ((rv14 = 0 → M_X6_requirePoint a2 a3 S12 (fun _ S19 => okC S19 → M_X6_requireRoomForJoint S19 (fun _ S24 => okC S24 → M_X6_requireRoomForMembers 3 S24 (fun _ S29 => okC S29 → M_X1_add a2 a3 S29 (fun rv36 S34 => r32 rv36 → okC S34 → (ix a0 40 ∧ M_X3_add (S34 11 a0) rv36 0 (up S34 15 a0 1) (fun rv44 S42 => r32 rv44 → okC S42 → M_X3_add (S42 12 a0) rv36 0 S42 (fun rv49 S47 => r32 rv49 → okC S47 → M_X3_add a1 rv36 0 S47 (fun rv54 S52 => r32 rv54 → okC S52 → M_X5_add rv36 rv44 a0 S52 (fun _ S57 => okC S57 → Qr rv36 S57) Qx) Qx) Qx) Qx)) Qx) Qx) Qx) Qx) ∧ (rv14 ≠ 0 → Qx "java/lang/IllegalArgumentException" S12))) Qx) Qx) Qx) : M_X6_split a0 a1 a2 a3 S Qr Qx := by
  intro ra0 ra1 ra2 ra3
  refine MM_of adC (by decide +kernel) rfl (Lf := fun G => [some (.ref (G.2.2 0)), some (iV a0), some (iV a1), some (iV a2), some (iV a3), none, none]) (fun G => by show _ ≤ _; exact Nat.le_of_ble_eq_true rfl) (fun G => rfl) ?_
  intro p l e s m args below meth c G A C hok
  have h := h ra0 ra1 ra2 ra3 hok
  replace C : Cx wC cX6_split 7 RX6 wsX6_split (some .int) [] p l s m args meth c G A := C
  show J wC 7 rmX6_split p l e s m args below meth c G A (QQ 1 wC okC G Qr Qx A below args s rmX6_split.cells rmX6_split.slots) 0 0 S [some (.ref (G.2.2 0)), some (iV a0), some (iV a1), some (iV a2), some (iV a3), none, none] [] 0
  refine J_aload_n (pc := 0) C dX6_split_0 rfl ?_
  refine J_iload_n (pc := 1) C dX6_split_1 rfl ?_
  refine J_c0 (pc := 2) C (J_rV (pc := 2) C (h ra0) dX6_split_2 rfl rfl 0 rfl rfl (cwV 1 C.1.2.2.2.2 gX6_split_X6_requireMember rfl rfl rfl (by decide +kernel) ⟨Nat.le_of_ble_eq_true rfl, Nat.le_of_ble_eq_true rfl⟩) hok (Nat.le_of_ble_eq_true rfl) ⟨Nat.le_of_ble_eq_true rfl, Nat.le_of_ble_eq_true rfl⟩) (fun E9 S9 ok9 q9 => JX_out C ok9 q9 (by decide) (by decide)) (fun S2 hok3 h1 => ?_)
  have h1 := h1 hok3
  refine J_aload_n (pc := 5) C dX6_split_5 rfl ?_
  refine J_iload_n (pc := 6) C dX6_split_6 rfl ?_
  refine J_c0 (pc := 7) C (J_rV (pc := 7) C (h1 ra1) dX6_split_7 rfl rfl 0 rfl rfl (cwV 1 C.1.2.2.2.2 gX6_split_X6_requireJoint rfl rfl rfl (by decide +kernel) ⟨Nat.le_of_ble_eq_true rfl, Nat.le_of_ble_eq_true rfl⟩) hok3 (Nat.le_of_ble_eq_true rfl) ⟨Nat.le_of_ble_eq_true rfl, Nat.le_of_ble_eq_true rfl⟩) (fun E9 S9 ok9 q9 => JX_out C ok9 q9 (by decide) (by decide)) (fun S7 hok8 h6 => ?_)
  have h6 := h6 hok8
  refine J_aload_n (pc := 10) C dX6_split_10 rfl ?_
  refine J_get (pc := 11) C dX6_split_11 0 rfl rfl nX6_split_X6 1 (by decide) mX6_split_f19 rfl (v := .ref (G.2.2 2)) rfl ?_
  refine J_iload_n (pc := 14) C dX6_split_14 rfl ?_
  refine J_iload_n (pc := 15) C dX6_split_15 rfl ?_
  refine J_c1 (pc := 16) C (J_rV (pc := 16) C (h6 ra0 ra1) dX6_split_16 rfl rfl 2 rfl rfl (cwV 2 C.1.2.2.2.2 gX6_split_X3_endsAt rfl rfl rfl (by decide +kernel) ⟨Nat.le_of_ble_eq_true rfl, Nat.le_of_ble_eq_true rfl⟩) hok8 (Nat.le_of_ble_eq_true rfl) ⟨Nat.le_of_ble_eq_true rfl, Nat.le_of_ble_eq_true rfl⟩) (fun E9 S9 ok9 q9 => JX_out C ok9 q9 (by decide) (by decide)) (fun rv14 S12 hr15 hok13 h11 => ?_)
  have h11 := h11 hr15 hok13
  obtain ⟨h16, h17⟩ := h11
  refine J_if_eq (pc := 19) (tgt := 32) C dX6_split_19 (by decide) hr15 (fun cb => ?_) (fun cb => ?_)
  · have h16 := h16 cb
    refine J_iload_n (pc := 32) C dX6_split_32 rfl ?_
    refine J_iload (pc := 33) C dX6_split_33 rfl ?_
    refine J_c0 (pc := 35) C (J_rS (pc := 35) C (h16 ra2 ra3) dX6_split_35 rfl rfl (va_cwS 2 C.1.2.2.2.2 gX6_split_X6_requirePoint rfl rfl rfl (by decide +kernel) ⟨Nat.le_of_ble_eq_true rfl, Nat.le_of_ble_eq_true rfl⟩) hok13 (Nat.le_of_ble_eq_true rfl) ⟨Nat.le_of_ble_eq_true rfl, Nat.le_of_ble_eq_true rfl⟩) (fun E9 S9 ok9 q9 => JX_out C ok9 q9 (by decide) (by decide)) (fun S19 hok20 h18 => ?_)
    have h18 := h18 hok20
    refine J_aload_n (pc := 38) C dX6_split_38 rfl ?_
    refine J_c0 (pc := 39) C (J_rV (pc := 39) C h18 dX6_split_39 rfl rfl 0 rfl rfl (cwV 0 C.1.2.2.2.2 gX6_split_X6_requireRoomForJoint rfl rfl rfl (by decide +kernel) ⟨Nat.le_of_ble_eq_true rfl, Nat.le_of_ble_eq_true rfl⟩) hok20 (Nat.le_of_ble_eq_true rfl) ⟨Nat.le_of_ble_eq_true rfl, Nat.le_of_ble_eq_true rfl⟩) (fun E9 S9 ok9 q9 => JX_out C ok9 q9 (by decide) (by decide)) (fun S24 hok25 h23 => ?_)
    have h23 := h23 hok25
    refine J_aload_n (pc := 42) C dX6_split_42 rfl ?_
    refine J_iconst (pc := 43) C dX6_split_43 ?_
    refine J_c0 (pc := 44) C (J_rV (pc := 44) C (h23 (by decide)) dX6_split_44 rfl rfl 0 rfl rfl (cwV 1 C.1.2.2.2.2 gX6_split_X6_requireRoomForMembers rfl rfl rfl (by decide +kernel) ⟨Nat.le_of_ble_eq_true rfl, Nat.le_of_ble_eq_true rfl⟩) hok25 (Nat.le_of_ble_eq_true rfl) ⟨Nat.le_of_ble_eq_true rfl, Nat.le_of_ble_eq_true rfl⟩) (fun E9 S9 ok9 q9 => JX_out C ok9 q9 (by decide) (by decide)) (fun S29 hok30 h28 => ?_)
    have h28 := h28 hok30
    refine J_aload_n (pc := 47) C dX6_split_47 rfl ?_
    refine J_get (pc := 48) C dX6_split_48 0 rfl rfl nX6_split_X6 0 (by decide) mX6_split_f10 rfl (v := .ref (G.2.2 1)) rfl ?_
    refine J_iload_n (pc := 51) C dX6_split_51 rfl ?_
    refine J_iload (pc := 52) C dX6_split_52 rfl ?_
    refine J_c1 (pc := 54) C (J_rV (pc := 54) C (h28 ra2 ra3) dX6_split_54 rfl rfl 1 rfl rfl (cwV 2 C.1.2.2.2.2 gX6_split_X1_add rfl rfl rfl (by decide +kernel) ⟨Nat.le_of_ble_eq_true rfl, Nat.le_of_ble_eq_true rfl⟩) hok30 (Nat.le_of_ble_eq_true rfl) ⟨Nat.le_of_ble_eq_true rfl, Nat.le_of_ble_eq_true rfl⟩) (fun E9 S9 ok9 q9 => JX_out C ok9 q9 (by decide) (by decide)) (fun rv36 S34 hr37 hok35 h33 => ?_)
    have h33 := h33 hr37 hok35
    refine J_istore (pc := 57) C dX6_split_57 (by decide) ?_
    refine J_aload_n (pc := 59) C dX6_split_59 rfl ?_
    refine J_get (pc := 60) C dX6_split_60 0 rfl rfl nX6_split_X6 1 (by decide) mX6_split_f19 rfl (v := .ref (G.2.2 2)) rfl ?_
    refine J_get (pc := 63) C dX6_split_63 2 rfl rfl nX6_split_X3 4 (by decide) mX6_split_f109 rfl (v := .ref (G.2.2 15)) rfl ?_
    refine J_iload_n (pc := 66) C dX6_split_66 rfl ?_
    refine J_iconst (pc := 67) C dX6_split_67 ?_
    obtain ⟨o38, h39⟩ := h33
    refine J_zast (pc := 68) C dX6_split_68 15 15 rfl (by decide) o38 (by decide) (sC_15 G S34 a0 1) ?_
    have hok40 := okC_up (k := 15) (j := a0) hok35 (show rngC 15 1 from (by decide : (0:Int) ≤ 1 ∧ (1:Int) ≤ 1))
    refine J_aload_n (pc := 69) C dX6_split_69 rfl ?_
    refine J_get (pc := 70) C dX6_split_70 0 rfl rfl nX6_split_X6 1 (by decide) mX6_split_f19 rfl (v := .ref (G.2.2 2)) rfl ?_
    refine J_aload_n (pc := 73) C dX6_split_73 rfl ?_
    refine J_get (pc := 74) C dX6_split_74 0 rfl rfl nX6_split_X6 1 (by decide) mX6_split_f19 rfl (v := .ref (G.2.2 2)) rfl ?_
    refine J_get (pc := 77) C dX6_split_77 2 rfl rfl nX6_split_X3 0 (by decide) mX6_split_f168 rfl (v := .ref (G.2.2 11)) rfl ?_
    refine J_iload_n (pc := 80) C dX6_split_80 rfl ?_
    refine J_iald (pc := 81) C dX6_split_81 11 11 rfl (by decide) o38 ?_
    refine J_iload (pc := 82) C dX6_split_82 rfl ?_
    refine J_iconst (pc := 84) C dX6_split_84 ?_
    refine J_c1 (pc := 85) C (J_rV (pc := 85) C (h39 (hok35 11 a0) hr37 (by decide)) dX6_split_85 rfl rfl 2 rfl rfl (cwV 3 C.1.2.2.2.2 gX6_split_X3_add rfl rfl rfl (by decide +kernel) ⟨Nat.le_of_ble_eq_true rfl, Nat.le_of_ble_eq_true rfl⟩) hok40 (Nat.le_of_ble_eq_true rfl) ⟨Nat.le_of_ble_eq_true rfl, Nat.le_of_ble_eq_true rfl⟩) (fun E9 S9 ok9 q9 => JX_out C ok9 q9 (by decide) (by decide)) (fun rv44 S42 hr45 hok43 h41 => ?_)
    have h41 := h41 hr45 hok43
    refine J_istore (pc := 88) C dX6_split_88 (by decide) ?_
    refine J_aload_n (pc := 90) C dX6_split_90 rfl ?_
    refine J_get (pc := 91) C dX6_split_91 0 rfl rfl nX6_split_X6 1 (by decide) mX6_split_f19 rfl (v := .ref (G.2.2 2)) rfl ?_
    refine J_aload_n (pc := 94) C dX6_split_94 rfl ?_
    refine J_get (pc := 95) C dX6_split_95 0 rfl rfl nX6_split_X6 1 (by decide) mX6_split_f19 rfl (v := .ref (G.2.2 2)) rfl ?_
    refine J_get (pc := 98) C dX6_split_98 2 rfl rfl nX6_split_X3 1 (by decide) mX6_split_f171 rfl (v := .ref (G.2.2 12)) rfl ?_
    refine J_iload_n (pc := 101) C dX6_split_101 rfl ?_
    refine J_iald (pc := 102) C dX6_split_102 12 12 rfl (by decide) o38 ?_
    refine J_iload (pc := 103) C dX6_split_103 rfl ?_
    refine J_iconst (pc := 105) C dX6_split_105 ?_
    refine J_c1 (pc := 106) C (J_rV (pc := 106) C (h41 (hok43 12 a0) hr37 (by decide)) dX6_split_106 rfl rfl 2 rfl rfl (cwV 3 C.1.2.2.2.2 gX6_split_X3_add rfl rfl rfl (by decide +kernel) ⟨Nat.le_of_ble_eq_true rfl, Nat.le_of_ble_eq_true rfl⟩) hok43 (Nat.le_of_ble_eq_true rfl) ⟨Nat.le_of_ble_eq_true rfl, Nat.le_of_ble_eq_true rfl⟩) (fun E9 S9 ok9 q9 => JX_out C ok9 q9 (by decide) (by decide)) (fun rv49 S47 hr50 hok48 h46 => ?_)
    have h46 := h46 hr50 hok48
    refine J_pop (pc := 109) C dX6_split_109 rfl ?_
    refine J_aload_n (pc := 110) C dX6_split_110 rfl ?_
    refine J_get (pc := 111) C dX6_split_111 0 rfl rfl nX6_split_X6 1 (by decide) mX6_split_f19 rfl (v := .ref (G.2.2 2)) rfl ?_
    refine J_iload_n (pc := 114) C dX6_split_114 rfl ?_
    refine J_iload (pc := 115) C dX6_split_115 rfl ?_
    refine J_iconst (pc := 117) C dX6_split_117 ?_
    refine J_c1 (pc := 118) C (J_rV (pc := 118) C (h46 ra1 hr37 (by decide)) dX6_split_118 rfl rfl 2 rfl rfl (cwV 3 C.1.2.2.2.2 gX6_split_X3_add rfl rfl rfl (by decide +kernel) ⟨Nat.le_of_ble_eq_true rfl, Nat.le_of_ble_eq_true rfl⟩) hok48 (Nat.le_of_ble_eq_true rfl) ⟨Nat.le_of_ble_eq_true rfl, Nat.le_of_ble_eq_true rfl⟩) (fun E9 S9 ok9 q9 => JX_out C ok9 q9 (by decide) (by decide)) (fun rv54 S52 hr55 hok53 h51 => ?_)
    have h51 := h51 hr55 hok53
    refine J_pop (pc := 121) C dX6_split_121 rfl ?_
    refine J_aload_n (pc := 122) C dX6_split_122 rfl ?_
    refine J_get (pc := 123) C dX6_split_123 0 rfl rfl nX6_split_X6 2 (by decide) mX6_split_f26 rfl (v := .ref (G.2.2 3)) rfl ?_
    refine J_iload (pc := 126) C dX6_split_126 rfl ?_
    refine J_iload (pc := 128) C dX6_split_128 rfl ?_
    refine J_iload_n (pc := 130) C dX6_split_130 rfl ?_
    refine J_c0 (pc := 131) C (J_rV (pc := 131) C (h51 hr37 hr45 ra0) dX6_split_131 rfl rfl 3 rfl rfl (cwV 3 C.1.2.2.2.2 gX6_split_X5_add rfl rfl rfl (by decide +kernel) ⟨Nat.le_of_ble_eq_true rfl, Nat.le_of_ble_eq_true rfl⟩) hok53 (Nat.le_of_ble_eq_true rfl) ⟨Nat.le_of_ble_eq_true rfl, Nat.le_of_ble_eq_true rfl⟩) (fun E9 S9 ok9 q9 => JX_out C ok9 q9 (by decide) (by decide)) (fun S57 hok58 h56 => ?_)
    have h56 := h56 hok58
    refine J_iload (pc := 134) C dX6_split_134 rfl ?_
    exact J_iret (pc := 136) C dX6_split_136 hr37 hok58 h56 (by decide) (by decide)
  · have h17 := h17 cb
    exact J_throw (pc := 22) C exW_A mX6_split_xA mX6_split_yA (text := "the joint is an end of the member") (by decide +kernel) mX6_split_zA dX6_split_22 dX6_split_25 dX6_split_26 dX6_split_28 dX6_split_31 (by decide) (by decide) (by decide) (by decide) hok13 h17
def rmX6_stress : Room := { frames := 7, cells := 2, slots := 12, locals := 103 }
theorem mX6_stress_xA : Cond.classLink RX6 84 "java/lang/IllegalArgumentException" ∈ wsX6_stress := by decide +kernel
theorem mX6_stress_yA : Cond.initialized "java/lang/IllegalArgumentException" ∈ wsX6_stress := by decide +kernel
theorem mX6_stress_zA : ∀ x ∈ (vx_atS RX6 88 "java/lang/IllegalArgumentException" exP).filter goodWord, x ∈ wsX6_stress := by decide +kernel
theorem mX6_stress_f19 : Cond.fieldLink RX6 19 "Stresswork" "members" "LStresswork$Members;" ∈ wsX6_stress := by decide +kernel
theorem nX6_stress_X6 : ∀ x ∈ wsX60, x ∈ wsX6_stress := by decide +kernel
theorem mX6_stress_f229 : Cond.fieldLink RX6 229 "Stresswork$Members" "told" "[I" ∈ wsX6_stress := by decide +kernel
theorem nX6_stress_X3 : ∀ x ∈ wsX30, x ∈ wsX6_stress := by decide +kernel
def M_X6_stress (a0 a1 : Int) (S : St) (Qr : Int → St → Prop) (Qx : String → St → Prop) : Prop := r32 a0 → r32 a1 → MM 1 wC okC yX6_stress wsX6_stress rmX6_stress (fun G => [.ref (G.2.2 0), iV a0, iV a1]) S Qr Qx
set_option maxRecDepth 100000 in
set_option maxHeartbeats 4000000 in
theorem vc_X6_stress {a0 a1 : Int} {S : St} {Qr : Int → St → Prop} {Qx : String → St → Prop} (h : r32 a0 → r32 a1 → okC S → M_X6_requireMember a0 S (fun _ S2 => okC S2 → ((a1 < (-99) → Qx "java/lang/IllegalArgumentException" S2) ∧ ((-99) ≤ a1 → ((a1 ≤ 99 → (ix a0 40 ∧ Qr (S2 14 a0) (up S2 14 a0 a1))) ∧ (99 < a1 → Qx "java/lang/IllegalArgumentException" S2))))) Qx) : M_X6_stress a0 a1 S Qr Qx := by
  intro ra0 ra1
  refine MM_of adC (by decide +kernel) rfl (Lf := fun G => [some (.ref (G.2.2 0)), some (iV a0), some (iV a1), none]) (fun G => by show _ ≤ _; exact Nat.le_of_ble_eq_true rfl) (fun G => rfl) ?_
  intro p l e s m args below meth c G A C hok
  have h := h ra0 ra1 hok
  replace C : Cx wC cX6_stress 4 RX6 wsX6_stress (some .int) [] p l s m args meth c G A := C
  show J wC 4 rmX6_stress p l e s m args below meth c G A (QQ 1 wC okC G Qr Qx A below args s rmX6_stress.cells rmX6_stress.slots) 0 0 S [some (.ref (G.2.2 0)), some (iV a0), some (iV a1), none] [] 0
  refine J_aload_n (pc := 0) C dX6_stress_0 rfl ?_
  refine J_iload_n (pc := 1) C dX6_stress_1 rfl ?_
  refine J_c0 (pc := 2) C (J_rV (pc := 2) C (h ra0) dX6_stress_2 rfl rfl 0 rfl rfl (cwV 1 C.1.2.2.2.2 gX6_stress_X6_requireMember rfl rfl rfl (by decide +kernel) ⟨Nat.le_of_ble_eq_true rfl, Nat.le_of_ble_eq_true rfl⟩) hok (Nat.le_of_ble_eq_true rfl) ⟨Nat.le_of_ble_eq_true rfl, Nat.le_of_ble_eq_true rfl⟩) (fun E9 S9 ok9 q9 => JX_out C ok9 q9 (by decide) (by decide)) (fun S2 hok3 h1 => ?_)
  have h1 := h1 hok3
  refine J_iload_n (pc := 5) C dX6_stress_5 rfl ?_
  refine J_bipush (pc := 6) C dX6_stress_6 (by decide) ?_
  obtain ⟨h6, h7⟩ := h1
  refine J_icmp_lt (pc := 8) (tgt := 17) C dX6_stress_8 (by decide) ra1 (by decide) (fun cb => ?_) (fun cb => ?_)
  · have h6 := h6 cb
    exact J_throw (pc := 17) C exW_A mX6_stress_xA mX6_stress_yA (text := "stress is out of range") (by decide +kernel) mX6_stress_zA dX6_stress_17 dX6_stress_20 dX6_stress_21 dX6_stress_23 dX6_stress_26 (by decide) (by decide) (by decide) (by decide) hok3 h6
  · have h7 := h7 cb
    refine J_iload_n (pc := 11) C dX6_stress_11 rfl ?_
    refine J_bipush (pc := 12) C dX6_stress_12 (by decide) ?_
    obtain ⟨h8, h9⟩ := h7
    refine J_icmp_le (pc := 14) (tgt := 27) C dX6_stress_14 (by decide) ra1 (by decide) (fun cb => ?_) (fun cb => ?_)
    · have h8 := h8 cb
      refine J_aload_n (pc := 27) C dX6_stress_27 rfl ?_
      refine J_get (pc := 28) C dX6_stress_28 0 rfl rfl nX6_stress_X6 1 (by decide) mX6_stress_f19 rfl (v := .ref (G.2.2 2)) rfl ?_
      refine J_get (pc := 31) C dX6_stress_31 2 rfl rfl nX6_stress_X3 3 (by decide) mX6_stress_f229 rfl (v := .ref (G.2.2 14)) rfl ?_
      refine J_iload_n (pc := 34) C dX6_stress_34 rfl ?_
      obtain ⟨o10, h11⟩ := h8
      refine J_iald (pc := 35) C dX6_stress_35 14 14 rfl (by decide) o10 ?_
      refine J_istore_n (pc := 36) C dX6_stress_36 (by decide) ?_
      refine J_aload_n (pc := 37) C dX6_stress_37 rfl ?_
      refine J_get (pc := 38) C dX6_stress_38 0 rfl rfl nX6_stress_X6 1 (by decide) mX6_stress_f19 rfl (v := .ref (G.2.2 2)) rfl ?_
      refine J_get (pc := 41) C dX6_stress_41 2 rfl rfl nX6_stress_X3 3 (by decide) mX6_stress_f229 rfl (v := .ref (G.2.2 14)) rfl ?_
      refine J_iload_n (pc := 44) C dX6_stress_44 rfl ?_
      refine J_iload_n (pc := 45) C dX6_stress_45 rfl ?_
      refine J_iast (pc := 46) C dX6_stress_46 14 14 rfl (by decide) o10 (sC_14 G S2 a0 a1) ?_
      have hok12 := okC_up (k := 14) (j := a0) hok3 (show rngC 14 a1 from ra1)
      refine J_iload_n (pc := 47) C dX6_stress_47 rfl ?_
      exact J_iret (pc := 48) C dX6_stress_48 (hok3 14 a0) hok12 h11 (by decide) (by decide)
    · have h9 := h9 cb
      exact J_throw (pc := 17) C exW_A mX6_stress_xA mX6_stress_yA (text := "stress is out of range") (by decide +kernel) mX6_stress_zA dX6_stress_17 dX6_stress_20 dX6_stress_21 dX6_stress_23 dX6_stress_26 (by decide) (by decide) (by decide) (by decide) hok3 h9
def rmX6_stresses : Room := { frames := 6, cells := 0, slots := 0, locals := 142 }
theorem mX6_stresses_f33 : Cond.fieldLink RX6 33 "Stresswork" "layout" "LStresswork$Layout;" ∈ wsX6_stresses := by decide +kernel
theorem nX6_stresses_X6 : ∀ x ∈ wsX60, x ∈ wsX6_stresses := by decide +kernel
theorem mX6_stresses_f10 : Cond.fieldLink RX6 10 "Stresswork" "joints" "LStresswork$Joints;" ∈ wsX6_stresses := by decide +kernel
theorem mX6_stresses_f19 : Cond.fieldLink RX6 19 "Stresswork" "members" "LStresswork$Members;" ∈ wsX6_stresses := by decide +kernel
def M_X6_stresses (S : St) (Qr : Int → St → Prop) (Qx : String → St → Prop) : Prop := MM 1 wC okC yX6_stresses wsX6_stresses rmX6_stresses (fun G => [.ref (G.2.2 0)]) S Qr Qx
set_option maxRecDepth 100000 in
set_option maxHeartbeats 4000000 in
theorem vc_X6_stresses {S : St} {Qr : Int → St → Prop} {Qx : String → St → Prop} (h : okC S → M_X2_takeJoints S (fun _ S2 => okC S2 → M_X3_present S2 (fun rv9 S7 => r32 rv9 → okC S7 → M_X6_rankWithout (-1) S7 (fun rv14 S12 => r32 rv14 → okC S12 → (r32 (rv9 - rv14) ∧ Qr (rv9 - rv14) S12)) Qx) Qx) Qx) : M_X6_stresses S Qr Qx := by
  refine MM_of adC (by decide +kernel) rfl (Lf := fun G => [some (.ref (G.2.2 0))]) (fun G => by show _ ≤ _; exact Nat.le_of_ble_eq_true rfl) (fun G => rfl) ?_
  intro p l e s m args below meth c G A C hok
  have h := h hok
  replace C : Cx wC cX6_stresses 1 RX6 wsX6_stresses (some .int) [] p l s m args meth c G A := C
  show J wC 1 rmX6_stresses p l e s m args below meth c G A (QQ 1 wC okC G Qr Qx A below args s rmX6_stresses.cells rmX6_stresses.slots) 0 0 S [some (.ref (G.2.2 0))] [] 0
  refine J_aload_n (pc := 0) C dX6_stresses_0 rfl ?_
  refine J_get (pc := 1) C dX6_stresses_1 0 rfl rfl nX6_stresses_X6 3 (by decide) mX6_stresses_f33 rfl (v := .ref (G.2.2 4)) rfl ?_
  refine J_aload_n (pc := 4) C dX6_stresses_4 rfl ?_
  refine J_get (pc := 5) C dX6_stresses_5 0 rfl rfl nX6_stresses_X6 0 (by decide) mX6_stresses_f10 rfl (v := .ref (G.2.2 1)) rfl ?_
  refine J_c0 (pc := 8) C (J_rV (pc := 8) C h dX6_stresses_8 rfl rfl 4 rfl rfl (cwV 1 C.1.2.2.2.2 gX6_stresses_X2_takeJoints rfl rfl rfl (by decide +kernel) ⟨Nat.le_of_ble_eq_true rfl, Nat.le_of_ble_eq_true rfl⟩) hok (Nat.le_of_ble_eq_true rfl) ⟨Nat.le_of_ble_eq_true rfl, Nat.le_of_ble_eq_true rfl⟩) (fun E9 S9 ok9 q9 => JX_out C ok9 q9 (by decide) (by decide)) (fun S2 hok3 h1 => ?_)
  have h1 := h1 hok3
  refine J_aload_n (pc := 11) C dX6_stresses_11 rfl ?_
  refine J_get (pc := 12) C dX6_stresses_12 0 rfl rfl nX6_stresses_X6 1 (by decide) mX6_stresses_f19 rfl (v := .ref (G.2.2 2)) rfl ?_
  refine J_c1 (pc := 15) C (J_rV (pc := 15) C h1 dX6_stresses_15 rfl rfl 2 rfl rfl (cwV 0 C.1.2.2.2.2 gX6_stresses_X3_present rfl rfl rfl (by decide +kernel) ⟨Nat.le_of_ble_eq_true rfl, Nat.le_of_ble_eq_true rfl⟩) hok3 (Nat.le_of_ble_eq_true rfl) ⟨Nat.le_of_ble_eq_true rfl, Nat.le_of_ble_eq_true rfl⟩) (fun E9 S9 ok9 q9 => JX_out C ok9 q9 (by decide) (by decide)) (fun rv9 S7 hr10 hok8 h6 => ?_)
  have h6 := h6 hr10 hok8
  refine J_aload_n (pc := 18) C dX6_stresses_18 rfl ?_
  refine J_iconst (pc := 19) C dX6_stresses_19 ?_
  refine J_c1 (pc := 20) C (J_rV (pc := 20) C (h6 (by decide)) dX6_stresses_20 rfl rfl 0 rfl rfl (cwV 1 C.1.2.2.2.2 gX6_stresses_X6_rankWithout rfl rfl rfl (by decide +kernel) ⟨Nat.le_of_ble_eq_true rfl, Nat.le_of_ble_eq_true rfl⟩) hok8 (Nat.le_of_ble_eq_true rfl) ⟨Nat.le_of_ble_eq_true rfl, Nat.le_of_ble_eq_true rfl⟩) (fun E9 S9 ok9 q9 => JX_out C ok9 q9 (by decide) (by decide)) (fun rv14 S12 hr15 hok13 h11 => ?_)
  have h11 := h11 hr15 hok13
  refine J_isub (pc := 23) C dX6_stresses_23 ?_
  obtain ⟨o16, h17⟩ := h11
  exact J_iret (pc := 24) C dX6_stresses_24 o16 hok13 h17 (by decide) (by decide)
def rmX6_undo : Room := { frames := 6, cells := 1, slots := 6, locals := 82 }
theorem mX6_undo_f26 : Cond.fieldLink RX6 26 "Stresswork" "steps" "LStresswork$Steps;" ∈ wsX6_undo := by decide +kernel
theorem nX6_undo_X6 : ∀ x ∈ wsX60, x ∈ wsX6_undo := by decide +kernel
theorem mX6_undo_f202 : Cond.fieldLink RX6 202 "Stresswork$Steps" "count" "I" ∈ wsX6_undo := by decide +kernel
theorem nX6_undo_X5 : ∀ x ∈ wsX50, x ∈ wsX6_undo := by decide +kernel
theorem mX6_undo_xS : Cond.classLink RX6 95 "java/lang/IllegalStateException" ∈ wsX6_undo := by decide +kernel
theorem mX6_undo_yS : Cond.initialized "java/lang/IllegalStateException" ∈ wsX6_undo := by decide +kernel
theorem mX6_undo_zS : ∀ x ∈ (vx_atS RX6 99 "java/lang/IllegalStateException" exP).filter goodWord, x ∈ wsX6_undo := by decide +kernel
theorem mX6_undo_f10 : Cond.fieldLink RX6 10 "Stresswork" "joints" "LStresswork$Joints;" ∈ wsX6_undo := by decide +kernel
theorem mX6_undo_f220 : Cond.fieldLink RX6 220 "Stresswork$Steps" "splitMember" "[I" ∈ wsX6_undo := by decide +kernel
theorem mX6_undo_f19 : Cond.fieldLink RX6 19 "Stresswork" "members" "LStresswork$Members;" ∈ wsX6_undo := by decide +kernel
theorem mX6_undo_f109 : Cond.fieldLink RX6 109 "Stresswork$Members" "gone" "[Z" ∈ wsX6_undo := by decide +kernel
theorem nX6_undo_X3 : ∀ x ∈ wsX30, x ∈ wsX6_undo := by decide +kernel
theorem mX6_undo_f214 : Cond.fieldLink RX6 214 "Stresswork$Steps" "firstBar" "[I" ∈ wsX6_undo := by decide +kernel
def M_X6_undo (S : St) (Qr : Int → St → Prop) (Qx : String → St → Prop) : Prop := MM 1 wC okC yX6_undo wsX6_undo rmX6_undo (fun G => [.ref (G.2.2 0)]) S Qr Qx
def R_X6_undo_44 (x1 x2 : Int) (S : St) (Qr : Int → St → Prop) (Qx : String → St → Prop) : Prop := r32 x1 → r32 x2 → RR 1 wC okC wsX6_undo rmX6_undo cX6_undo 3 RX6 (some .int) [] 0 0 (fun G => [some (.ref (G.2.2 0)), some (iV x1), some (iV x2)]) (fun G => []) 44 S Qr Qx
set_option maxRecDepth 100000 in
set_option maxHeartbeats 4000000 in
theorem vc_X6_undo {S : St} {Qr : Int → St → Prop} {Qx : String → St → Prop} (h : okC S → (r32 ((S 3 3) - 1) ∧ ((0 ≤ ((S 3 3) - 1) → M_X6_canBeUndone ((S 3 3) - 1) S (fun rv8 S6 => r32 rv8 → okC S6 → ((rv8 ≠ 0 → R_X6_undo_44 ((S 3 3) - 1) 0 S6 Qr Qx) ∧ (rv8 = 0 → Qx "java/lang/IllegalStateException" S6))) Qx) ∧ (((S 3 3) - 1) < 0 → Qx "java/lang/IllegalStateException" S)))) : M_X6_undo S Qr Qx := by
  refine MM_of adC (by decide +kernel) rfl (Lf := fun G => [some (.ref (G.2.2 0)), none, none]) (fun G => by show _ ≤ _; exact Nat.le_of_ble_eq_true rfl) (fun G => rfl) ?_
  intro p l e s m args below meth c G A C hok
  have h := h hok
  replace C : Cx wC cX6_undo 3 RX6 wsX6_undo (some .int) [] p l s m args meth c G A := C
  show J wC 3 rmX6_undo p l e s m args below meth c G A (QQ 1 wC okC G Qr Qx A below args s rmX6_undo.cells rmX6_undo.slots) 0 0 S [some (.ref (G.2.2 0)), none, none] [] 0
  refine J_aload_n (pc := 0) C dX6_undo_0 rfl ?_
  refine J_get (pc := 1) C dX6_undo_1 0 rfl rfl nX6_undo_X6 2 (by decide) mX6_undo_f26 rfl (v := .ref (G.2.2 3)) rfl ?_
  refine J_get (pc := 4) C dX6_undo_4 3 rfl rfl nX6_undo_X5 3 (by decide) mX6_undo_f202 rfl (v := iV (S 3 3)) rfl ?_
  refine J_iconst (pc := 7) C dX6_undo_7 ?_
  refine J_isub (pc := 8) C dX6_undo_8 ?_
  refine J_istore_n (pc := 9) C dX6_undo_9 (by decide) ?_
  refine J_iload_n (pc := 10) C dX6_undo_10 rfl ?_
  obtain ⟨o1, h2⟩ := h
  obtain ⟨h3, h4⟩ := h2
  refine J_if_ge (pc := 11) (tgt := 24) C dX6_undo_11 (by decide) o1 (fun cb => ?_) (fun cb => ?_)
  · have h3 := h3 cb
    refine J_aload_n (pc := 24) C dX6_undo_24 rfl ?_
    refine J_iload_n (pc := 25) C dX6_undo_25 rfl ?_
    refine J_c1 (pc := 26) C (J_rV (pc := 26) C (h3 o1) dX6_undo_26 rfl rfl 0 rfl rfl (cwV 1 C.1.2.2.2.2 gX6_undo_X6_canBeUndone rfl rfl rfl (by decide +kernel) ⟨Nat.le_of_ble_eq_true rfl, Nat.le_of_ble_eq_true rfl⟩) hok (Nat.le_of_ble_eq_true rfl) ⟨Nat.le_of_ble_eq_true rfl, Nat.le_of_ble_eq_true rfl⟩) (fun E9 S9 ok9 q9 => JX_out C ok9 q9 (by decide) (by decide)) (fun rv8 S6 hr9 hok7 h5 => ?_)
    have h5 := h5 hr9 hok7
    obtain ⟨h10, h11⟩ := h5
    refine J_if_ne (pc := 29) (tgt := 42) C dX6_undo_29 (by decide) hr9 (fun cb => ?_) (fun cb => ?_)
    · have h10 := h10 cb
      refine J_iconst (pc := 42) C dX6_undo_42 ?_
      refine J_istore_n (pc := 43) C dX6_undo_43 (by decide) ?_
      exact J_sub (L1 := [some (.ref (G.2.2 0)), some (iV ((S 3 3) - 1)), some (iV 0)]) ⟨rfl, ⟨rfl, ⟨rfl, trivial⟩⟩⟩ (h10 o1 (by decide) p l e s m args below meth c G A C hok7)
    · have h11 := h11 cb
      exact J_throw (pc := 32) C exW_S mX6_undo_xS mX6_undo_yS (text := "the last step cannot be undone") (by decide +kernel) mX6_undo_zS dX6_undo_32 dX6_undo_35 dX6_undo_36 dX6_undo_38 dX6_undo_41 (by decide) (by decide) (by decide) (by decide) hok7 h11
  · have h4 := h4 cb
    exact J_throw (pc := 14) C exW_S mX6_undo_xS mX6_undo_yS (text := "there is no step") (by decide +kernel) mX6_undo_zS dX6_undo_14 dX6_undo_17 dX6_undo_18 dX6_undo_20 dX6_undo_23 (by decide) (by decide) (by decide) (by decide) hok h4
set_option maxRecDepth 100000 in
set_option maxHeartbeats 4000000 in
theorem vc_X6_undo_44 {x1 x2 : Int} {S : St} {Qr : Int → St → Prop} {Qx : String → St → Prop} (h : r32 x1 → r32 x2 → okC S → M_X5_bars x1 S (fun rv4 S2 => r32 rv4 → okC S2 → ((rv4 ≤ x2 → M_X1_dropLast S2 (fun _ S9 => okC S9 → (ix x1 10 ∧ M_X6_bringBack (S9 18 x1) S9 (fun _ S16 => okC S16 → M_X5_dropLast S16 (fun _ S21 => okC S21 → Qr (S21 3 3) S21) Qx) Qx)) Qx) ∧ (x2 < rv4 → (ix x1 10 ∧ (ix ((S2 17 x1) + x2) 40 ∧ (r32 (x2 + 1) ∧ R_X6_undo_44 x1 (x2 + 1) (up S2 15 ((S2 17 x1) + x2) 1) Qr Qx)))))) Qx) : R_X6_undo_44 x1 x2 S Qr Qx := by
  intro rx1 rx2
  intro p l e s m args below meth c G A C hok
  have h := h rx1 rx2 hok
  replace C : Cx wC cX6_undo 3 RX6 wsX6_undo (some .int) [] p l s m args meth c G A := C
  show J wC 3 rmX6_undo p l e s m args below meth c G A (QQ 1 wC okC G Qr Qx A below args s rmX6_undo.cells rmX6_undo.slots) 0 0 S [some (.ref (G.2.2 0)), some (iV x1), some (iV x2)] [] 44
  refine J_iload_n (pc := 44) C dX6_undo_44 rfl ?_
  refine J_aload_n (pc := 45) C dX6_undo_45 rfl ?_
  refine J_get (pc := 46) C dX6_undo_46 0 rfl rfl nX6_undo_X6 2 (by decide) mX6_undo_f26 rfl (v := .ref (G.2.2 3)) rfl ?_
  refine J_iload_n (pc := 49) C dX6_undo_49 rfl ?_
  refine J_c1 (pc := 50) C (J_rV (pc := 50) C (h rx1) dX6_undo_50 rfl rfl 3 rfl rfl (cwV 1 C.1.2.2.2.2 gX6_undo_X5_bars rfl rfl rfl (by decide +kernel) ⟨Nat.le_of_ble_eq_true rfl, Nat.le_of_ble_eq_true rfl⟩) hok (Nat.le_of_ble_eq_true rfl) ⟨Nat.le_of_ble_eq_true rfl, Nat.le_of_ble_eq_true rfl⟩) (fun E9 S9 ok9 q9 => JX_out C ok9 q9 (by decide) (by decide)) (fun rv4 S2 hr5 hok3 h1 => ?_)
  have h1 := h1 hr5 hok3
  obtain ⟨h6, h7⟩ := h1
  refine J_icmp_ge (pc := 53) (tgt := 82) C dX6_undo_53 (by decide) rx2 hr5 (fun cb => ?_) (fun cb => ?_)
  · have h6 := h6 cb
    refine J_aload_n (pc := 82) C dX6_undo_82 rfl ?_
    refine J_get (pc := 83) C dX6_undo_83 0 rfl rfl nX6_undo_X6 0 (by decide) mX6_undo_f10 rfl (v := .ref (G.2.2 1)) rfl ?_
    refine J_c0 (pc := 86) C (J_rV (pc := 86) C h6 dX6_undo_86 rfl rfl 1 rfl rfl (cwV 0 C.1.2.2.2.2 gX6_undo_X1_dropLast rfl rfl rfl (by decide +kernel) ⟨Nat.le_of_ble_eq_true rfl, Nat.le_of_ble_eq_true rfl⟩) hok3 (Nat.le_of_ble_eq_true rfl) ⟨Nat.le_of_ble_eq_true rfl, Nat.le_of_ble_eq_true rfl⟩) (fun E9 S9 ok9 q9 => JX_out C ok9 q9 (by decide) (by decide)) (fun S9 hok10 h8 => ?_)
    have h8 := h8 hok10
    refine J_aload_n (pc := 89) C dX6_undo_89 rfl ?_
    refine J_aload_n (pc := 90) C dX6_undo_90 rfl ?_
    refine J_get (pc := 91) C dX6_undo_91 0 rfl rfl nX6_undo_X6 2 (by decide) mX6_undo_f26 rfl (v := .ref (G.2.2 3)) rfl ?_
    refine J_get (pc := 94) C dX6_undo_94 3 rfl rfl nX6_undo_X5 2 (by decide) mX6_undo_f220 rfl (v := .ref (G.2.2 18)) rfl ?_
    refine J_iload_n (pc := 97) C dX6_undo_97 rfl ?_
    obtain ⟨o13, h14⟩ := h8
    refine J_iald (pc := 98) C dX6_undo_98 18 18 rfl (by decide) o13 ?_
    refine J_c0 (pc := 99) C (J_rV (pc := 99) C (h14 (hok10 18 x1)) dX6_undo_99 rfl rfl 0 rfl rfl (cwV 1 C.1.2.2.2.2 gX6_undo_X6_bringBack rfl rfl rfl (by decide +kernel) ⟨Nat.le_of_ble_eq_true rfl, Nat.le_of_ble_eq_true rfl⟩) hok10 (Nat.le_of_ble_eq_true rfl) ⟨Nat.le_of_ble_eq_true rfl, Nat.le_of_ble_eq_true rfl⟩) (fun E9 S9 ok9 q9 => JX_out C ok9 q9 (by decide) (by decide)) (fun S16 hok17 h15 => ?_)
    have h15 := h15 hok17
    refine J_aload_n (pc := 102) C dX6_undo_102 rfl ?_
    refine J_get (pc := 103) C dX6_undo_103 0 rfl rfl nX6_undo_X6 2 (by decide) mX6_undo_f26 rfl (v := .ref (G.2.2 3)) rfl ?_
    refine J_c0 (pc := 106) C (J_rV (pc := 106) C h15 dX6_undo_106 rfl rfl 3 rfl rfl (cwV 0 C.1.2.2.2.2 gX6_undo_X5_dropLast rfl rfl rfl (by decide +kernel) ⟨Nat.le_of_ble_eq_true rfl, Nat.le_of_ble_eq_true rfl⟩) hok17 (Nat.le_of_ble_eq_true rfl) ⟨Nat.le_of_ble_eq_true rfl, Nat.le_of_ble_eq_true rfl⟩) (fun E9 S9 ok9 q9 => JX_out C ok9 q9 (by decide) (by decide)) (fun S21 hok22 h20 => ?_)
    have h20 := h20 hok22
    refine J_aload_n (pc := 109) C dX6_undo_109 rfl ?_
    refine J_get (pc := 110) C dX6_undo_110 0 rfl rfl nX6_undo_X6 2 (by decide) mX6_undo_f26 rfl (v := .ref (G.2.2 3)) rfl ?_
    refine J_get (pc := 113) C dX6_undo_113 3 rfl rfl nX6_undo_X5 3 (by decide) mX6_undo_f202 rfl (v := iV (S21 3 3)) rfl ?_
    exact J_iret (pc := 116) C dX6_undo_116 (hok22 3 3) hok22 h20 (by decide) (by decide)
  · have h7 := h7 cb
    refine J_aload_n (pc := 56) C dX6_undo_56 rfl ?_
    refine J_get (pc := 57) C dX6_undo_57 0 rfl rfl nX6_undo_X6 1 (by decide) mX6_undo_f19 rfl (v := .ref (G.2.2 2)) rfl ?_
    refine J_get (pc := 60) C dX6_undo_60 2 rfl rfl nX6_undo_X3 4 (by decide) mX6_undo_f109 rfl (v := .ref (G.2.2 15)) rfl ?_
    refine J_aload_n (pc := 63) C dX6_undo_63 rfl ?_
    refine J_get (pc := 64) C dX6_undo_64 0 rfl rfl nX6_undo_X6 2 (by decide) mX6_undo_f26 rfl (v := .ref (G.2.2 3)) rfl ?_
    refine J_get (pc := 67) C dX6_undo_67 3 rfl rfl nX6_undo_X5 1 (by decide) mX6_undo_f214 rfl (v := .ref (G.2.2 17)) rfl ?_
    refine J_iload_n (pc := 70) C dX6_undo_70 rfl ?_
    obtain ⟨o25, h26⟩ := h7
    refine J_iald (pc := 71) C dX6_undo_71 17 17 rfl (by decide) o25 ?_
    refine J_iload_n (pc := 72) C dX6_undo_72 rfl ?_
    refine J_iadd (pc := 73) C dX6_undo_73 ?_
    refine J_iconst (pc := 74) C dX6_undo_74 ?_
    obtain ⟨o27, h28⟩ := h26
    refine J_zast (pc := 75) C dX6_undo_75 15 15 rfl (by decide) o27 (by decide) (sC_15 G S2 ((S2 17 x1) + x2) 1) ?_
    have hok29 := okC_up (k := 15) (j := ((S2 17 x1) + x2)) hok3 (show rngC 15 1 from (by decide : (0:Int) ≤ 1 ∧ (1:Int) ≤ 1))
    refine J_iinc (pc := 76) C dX6_undo_76 rfl (by decide) ?_
    refine J_goto (pc := 79) (tgt := 44) C dX6_undo_79 (by decide) ?_
    obtain ⟨o30, h31⟩ := h28
    exact J_sub (L1 := [some (.ref (G.2.2 0)), some (iV x1), some (iV (x2 + 1))]) ⟨rfl, ⟨rfl, ⟨rfl, trivial⟩⟩⟩ (h31 rx1 o30 p l e s m args below meth c G A C hok29)
