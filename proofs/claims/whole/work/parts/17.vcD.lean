def rmX7_adds : Room := { frames := 0, cells := 0, slots := 0, locals := 0 }
theorem mX7_adds_f7 : Cond.fieldLink RX7 7 "StressworkModel" "x" "[I" ∈ wsX7_adds := by decide +kernel
theorem nX7_adds_X7 : ∀ x ∈ wsX70, x ∈ wsX7_adds := by decide +kernel
theorem mX7_adds_f76 : Cond.fieldLink RX7 76 "StressworkModel" "joints" "I" ∈ wsX7_adds := by decide +kernel
theorem mX7_adds_f13 : Cond.fieldLink RX7 13 "StressworkModel" "y" "[I" ∈ wsX7_adds := by decide +kernel
theorem mX7_adds_f16 : Cond.fieldLink RX7 16 "StressworkModel" "isPinned" "[Z" ∈ wsX7_adds := by decide +kernel
theorem mX7_adds_f20 : Cond.fieldLink RX7 20 "StressworkModel" "range" "[I" ∈ wsX7_adds := by decide +kernel
def M_X7_adds (a0 a1 : Int) (S : St) (Qr : Int → St → Prop) (Qx : String → St → Prop) : Prop := r32 a0 → r32 a1 → MM 1 wM okM yX7_adds wsX7_adds rmX7_adds (fun G => [.ref (G.2.2 0), iV a0, iV a1]) S Qr Qx
set_option maxRecDepth 100000 in
set_option maxHeartbeats 4000000 in
theorem vc_X7_adds {a0 a1 : Int} {S : St} {Qr : Int → St → Prop} {Qx : String → St → Prop} (h : r32 a0 → r32 a1 → okM S → (ix (S 0 1) 10 ∧ (r32 ((S 0 1) + 1) ∧ (r32 (((S 0 1) + 1) - 1) ∧ Qr (((S 0 1) + 1) - 1) (up (up (up (up (up S 1 (S 0 1) a0) 2 (S 0 1) a1) 3 (S 0 1) 0) 4 (S 0 1) (-1)) 0 1 ((S 0 1) + 1)))))) : M_X7_adds a0 a1 S Qr Qx := by
  intro ra0 ra1
  refine MM_of adM (by decide +kernel) rfl (Lf := fun G => [some (.ref (G.2.2 0)), some (iV a0), some (iV a1)]) (fun G => by show _ ≤ _; exact Nat.le_of_ble_eq_true rfl) (fun G => rfl) ?_
  intro p l e s m args below meth c G A C hok
  have h := h ra0 ra1 hok
  replace C : Cx wM cX7_adds 3 RX7 wsX7_adds (some .int) [] p l s m args meth c G A := C
  show J wM 3 rmX7_adds p l e s m args below meth c G A (QQ 1 wM okM G Qr Qx A below args s rmX7_adds.cells rmX7_adds.slots) 0 0 S [some (.ref (G.2.2 0)), some (iV a0), some (iV a1)] [] 0
  refine J_aload_n (pc := 0) C dX7_adds_0 rfl ?_
  refine J_get (pc := 1) C dX7_adds_1 0 rfl rfl nX7_adds_X7 2 (by decide) mX7_adds_f7 rfl (v := .ref (G.2.2 1)) rfl ?_
  refine J_aload_n (pc := 4) C dX7_adds_4 rfl ?_
  refine J_get (pc := 5) C dX7_adds_5 0 rfl rfl nX7_adds_X7 1 (by decide) mX7_adds_f76 rfl (v := iV (S 0 1)) rfl ?_
  refine J_iload_n (pc := 8) C dX7_adds_8 rfl ?_
  obtain ⟨o1, h2⟩ := h
  refine J_iast (pc := 9) C dX7_adds_9 1 1 rfl (by decide) o1 (sM_1 G S (S 0 1) a0) ?_
  have hok3 := okM_up (k := 1) (j := (S 0 1)) hok (show rngM 1 a0 from ra0)
  refine J_aload_n (pc := 10) C dX7_adds_10 rfl ?_
  refine J_get (pc := 11) C dX7_adds_11 0 rfl rfl nX7_adds_X7 3 (by decide) mX7_adds_f13 rfl (v := .ref (G.2.2 2)) rfl ?_
  refine J_aload_n (pc := 14) C dX7_adds_14 rfl ?_
  refine J_get (pc := 15) C dX7_adds_15 0 rfl rfl nX7_adds_X7 1 (by decide) mX7_adds_f76 rfl (v := iV (S 0 1)) rfl ?_
  refine J_iload_n (pc := 18) C dX7_adds_18 rfl ?_
  refine J_iast (pc := 19) C dX7_adds_19 2 2 rfl (by decide) o1 (sM_2 G (up S 1 (S 0 1) a0) (S 0 1) a1) ?_
  have hok4 := okM_up (k := 2) (j := (S 0 1)) hok3 (show rngM 2 a1 from ra1)
  refine J_aload_n (pc := 20) C dX7_adds_20 rfl ?_
  refine J_get (pc := 21) C dX7_adds_21 0 rfl rfl nX7_adds_X7 4 (by decide) mX7_adds_f16 rfl (v := .ref (G.2.2 3)) rfl ?_
  refine J_aload_n (pc := 24) C dX7_adds_24 rfl ?_
  refine J_get (pc := 25) C dX7_adds_25 0 rfl rfl nX7_adds_X7 1 (by decide) mX7_adds_f76 rfl (v := iV (S 0 1)) rfl ?_
  refine J_iconst (pc := 28) C dX7_adds_28 ?_
  refine J_zast (pc := 29) C dX7_adds_29 3 3 rfl (by decide) o1 (by decide) (sM_3 G (up (up S 1 (S 0 1) a0) 2 (S 0 1) a1) (S 0 1) 0) ?_
  have hok5 := okM_up (k := 3) (j := (S 0 1)) hok4 (show rngM 3 0 from (by decide : (0:Int) ≤ 0 ∧ (0:Int) ≤ 1))
  refine J_aload_n (pc := 30) C dX7_adds_30 rfl ?_
  refine J_get (pc := 31) C dX7_adds_31 0 rfl rfl nX7_adds_X7 5 (by decide) mX7_adds_f20 rfl (v := .ref (G.2.2 4)) rfl ?_
  refine J_aload_n (pc := 34) C dX7_adds_34 rfl ?_
  refine J_get (pc := 35) C dX7_adds_35 0 rfl rfl nX7_adds_X7 1 (by decide) mX7_adds_f76 rfl (v := iV (S 0 1)) rfl ?_
  refine J_iconst (pc := 38) C dX7_adds_38 ?_
  refine J_iast (pc := 39) C dX7_adds_39 4 4 rfl (by decide) o1 (sM_4 G (up (up (up S 1 (S 0 1) a0) 2 (S 0 1) a1) 3 (S 0 1) 0) (S 0 1) (-1)) ?_
  have hok6 := okM_up (k := 4) (j := (S 0 1)) hok5 (show rngM 4 (-1) from (by decide : r32 (-1)))
  refine J_aload_n (pc := 40) C dX7_adds_40 rfl ?_
  refine J_dup (pc := 41) C dX7_adds_41 rfl ?_
  refine J_get (pc := 42) C dX7_adds_42 0 rfl rfl nX7_adds_X7 1 (by decide) mX7_adds_f76 rfl (v := iV (S 0 1)) rfl ?_
  refine J_iconst (pc := 45) C dX7_adds_45 ?_
  refine J_iadd (pc := 46) C dX7_adds_46 ?_
  obtain ⟨o7, h8⟩ := h2
  refine J_put (pc := 47) C dX7_adds_47 0 rfl rfl nX7_adds_X7 tyX7 tyX7_ok nmX7 1 (by decide) mX7_adds_f76 rfl rfl (v := iV ((S 0 1) + 1)) rfl rfl (Nat.le_of_ble_eq_true rfl) (sM_0_1 G (up (up (up (up S 1 (S 0 1) a0) 2 (S 0 1) a1) 3 (S 0 1) 0) 4 (S 0 1) (-1)) ((S 0 1) + 1)) ?_
  have hok9 := okM_up (k := 0) (j := 1) hok6 (show rngM 0 ((S 0 1) + 1) from o7)
  refine J_aload_n (pc := 50) C dX7_adds_50 rfl ?_
  refine J_get (pc := 51) C dX7_adds_51 0 rfl rfl nX7_adds_X7 1 (by decide) mX7_adds_f76 rfl (v := iV ((S 0 1) + 1)) rfl ?_
  refine J_iconst (pc := 54) C dX7_adds_54 ?_
  refine J_isub (pc := 55) C dX7_adds_55 ?_
  obtain ⟨o10, h11⟩ := h8
  exact J_iret (pc := 56) C dX7_adds_56 o10 hok9 h11 (by decide) (by decide)
def rmX7_bits : Room := { frames := 0, cells := 0, slots := 0, locals := 0 }
def M_X7_bits (a0 : Int) (S : St) (Qr : Int → St → Prop) (Qx : String → St → Prop) : Prop := r32 a0 → MM 1 wM okM yX7_bits wsX7_bits rmX7_bits (fun G => [iV a0]) S Qr Qx
def R_X7_bits_4 (x0 x1 x2 : Int) (S : St) (Qr : Int → St → Prop) (Qx : String → St → Prop) : Prop := r32 x0 → r32 x1 → r32 x2 → RR 1 wM okM wsX7_bits rmX7_bits cX7_bits 3 RX7 (some .int) [] 0 0 (fun G => [some (iV x0), some (iV x1), some (iV x2)]) (fun G => []) 4 S Qr Qx
set_option maxRecDepth 100000 in
set_option maxHeartbeats 4000000 in
theorem vc_X7_bits {a0 : Int} {S : St} {Qr : Int → St → Prop} {Qx : String → St → Prop} (h : r32 a0 → okM S → R_X7_bits_4 a0 0 0 S Qr Qx) : M_X7_bits a0 S Qr Qx := by
  intro ra0
  refine MM_of adM (by decide +kernel) rfl (Lf := fun G => [some (iV a0), none, none]) (fun G => by show _ ≤ _; exact Nat.le_of_ble_eq_true rfl) (fun G => rfl) ?_
  intro p l e s m args below meth c G A C hok
  have h := h ra0 hok
  replace C : Cx wM cX7_bits 3 RX7 wsX7_bits (some .int) [] p l s m args meth c G A := C
  show J wM 3 rmX7_bits p l e s m args below meth c G A (QQ 1 wM okM G Qr Qx A below args s rmX7_bits.cells rmX7_bits.slots) 0 0 S [some (iV a0), none, none] [] 0
  refine J_iconst (pc := 0) C dX7_bits_0 ?_
  refine J_istore_n (pc := 1) C dX7_bits_1 (by decide) ?_
  refine J_iconst (pc := 2) C dX7_bits_2 ?_
  refine J_istore_n (pc := 3) C dX7_bits_3 (by decide) ?_
  exact J_sub (L1 := [some (iV a0), some (iV 0), some (iV 0)]) ⟨rfl, ⟨rfl, ⟨rfl, trivial⟩⟩⟩ (h ra0 (by decide) (by decide) p l e s m args below meth c G A C hok)
set_option maxRecDepth 100000 in
set_option maxHeartbeats 4000000 in
theorem vc_X7_bits_4 {x0 x1 x2 : Int} {S : St} {Qr : Int → St → Prop} {Qx : String → St → Prop} (h : r32 x0 → r32 x1 → r32 x2 → okM S → ((10 ≤ x2 → Qr x1 S) ∧ (x2 < 10 → (r32 (x1 + (zand (zshr x0 x2) 1)) ∧ (r32 (x2 + 1) ∧ R_X7_bits_4 x0 (x1 + (zand (zshr x0 x2) 1)) (x2 + 1) S Qr Qx))))) : R_X7_bits_4 x0 x1 x2 S Qr Qx := by
  intro rx0 rx1 rx2
  intro p l e s m args below meth c G A C hok
  have h := h rx0 rx1 rx2 hok
  replace C : Cx wM cX7_bits 3 RX7 wsX7_bits (some .int) [] p l s m args meth c G A := C
  show J wM 3 rmX7_bits p l e s m args below meth c G A (QQ 1 wM okM G Qr Qx A below args s rmX7_bits.cells rmX7_bits.slots) 0 0 S [some (iV x0), some (iV x1), some (iV x2)] [] 4
  refine J_iload_n (pc := 4) C dX7_bits_4 rfl ?_
  refine J_bipush (pc := 5) C dX7_bits_5 (by decide) ?_
  obtain ⟨h1, h2⟩ := h
  refine J_icmp_ge (pc := 7) (tgt := 24) C dX7_bits_7 (by decide) rx2 (by decide) (fun cb => ?_) (fun cb => ?_)
  · have h1 := h1 cb
    refine J_iload_n (pc := 24) C dX7_bits_24 rfl ?_
    exact J_iret (pc := 25) C dX7_bits_25 rx1 hok h1 (by decide) (by decide)
  · have h2 := h2 cb
    refine J_iload_n (pc := 10) C dX7_bits_10 rfl ?_
    refine J_iload_n (pc := 11) C dX7_bits_11 rfl ?_
    refine J_iload_n (pc := 12) C dX7_bits_12 rfl ?_
    refine J_ishr (pc := 13) C dX7_bits_13 ?_
    refine J_iconst (pc := 14) C dX7_bits_14 ?_
    refine J_iand (pc := 15) C dX7_bits_15 ?_
    refine J_iadd (pc := 16) C dX7_bits_16 ?_
    refine J_istore_n (pc := 17) C dX7_bits_17 (by decide) ?_
    refine J_iinc (pc := 18) C dX7_bits_18 rfl (by decide) ?_
    refine J_goto (pc := 21) (tgt := 4) C dX7_bits_21 (by decide) ?_
    obtain ⟨o3, h4⟩ := h2
    obtain ⟨o5, h6⟩ := h4
    exact J_sub (L1 := [some (iV x0), some (iV (x1 + (zand (zshr x0 x2) 1))), some (iV (x2 + 1))]) ⟨rfl, ⟨rfl, ⟨rfl, trivial⟩⟩⟩ (h6 rx0 o3 o5 p l e s m args below meth c G A C hok)
def rmX7_isFull : Room := { frames := 1, cells := 0, slots := 0, locals := 22 }
theorem mX7_isFull_f69 : Cond.fieldLink RX7 69 "StressworkModel" "inside" "[I" ∈ wsX7_isFull := by decide +kernel
theorem nX7_isFull_X7 : ∀ x ∈ wsX70, x ∈ wsX7_isFull := by decide +kernel
def M_X7_isFull (a0 : Int) (S : St) (Qr : Int → St → Prop) (Qx : String → St → Prop) : Prop := r32 a0 → MM 1 wM okM yX7_isFull wsX7_isFull rmX7_isFull (fun G => [.ref (G.2.2 0), iV a0]) S Qr Qx
set_option maxRecDepth 100000 in
set_option maxHeartbeats 4000000 in
theorem vc_X7_isFull {a0 : Int} {S : St} {Qr : Int → St → Prop} {Qx : String → St → Prop} (h : r32 a0 → okM S → (ix a0 1024 ∧ M_X7_bits a0 S (fun rv6 S4 => r32 rv6 → okM S4 → (r32 ((2 * rv6) - 3) ∧ (((S 20 a0) ≠ ((2 * rv6) - 3) → Qr 0 S4) ∧ ((S 20 a0) = ((2 * rv6) - 3) → Qr 1 S4)))) Qx)) : M_X7_isFull a0 S Qr Qx := by
  intro ra0
  refine MM_of adM (by decide +kernel) rfl (Lf := fun G => [some (.ref (G.2.2 0)), some (iV a0)]) (fun G => by show _ ≤ _; exact Nat.le_of_ble_eq_true rfl) (fun G => rfl) ?_
  intro p l e s m args below meth c G A C hok
  have h := h ra0 hok
  replace C : Cx wM cX7_isFull 2 RX7 wsX7_isFull (some .boolean) [] p l s m args meth c G A := C
  show J wM 2 rmX7_isFull p l e s m args below meth c G A (QQ 1 wM okM G Qr Qx A below args s rmX7_isFull.cells rmX7_isFull.slots) 0 0 S [some (.ref (G.2.2 0)), some (iV a0)] [] 0
  refine J_aload_n (pc := 0) C dX7_isFull_0 rfl ?_
  refine J_get (pc := 1) C dX7_isFull_1 0 rfl rfl nX7_isFull_X7 24 (by decide) mX7_isFull_f69 rfl (v := .ref (G.2.2 20)) rfl ?_
  refine J_iload_n (pc := 4) C dX7_isFull_4 rfl ?_
  obtain ⟨o1, h2⟩ := h
  refine J_iald (pc := 5) C dX7_isFull_5 20 20 rfl (by decide) o1 ?_
  refine J_iconst (pc := 6) C dX7_isFull_6 ?_
  refine J_iload_n (pc := 7) C dX7_isFull_7 rfl ?_
  refine J_c1 (pc := 8) C (J_rS (pc := 8) C (h2 ra0) dX7_isFull_8 rfl rfl (va_cwS 1 C.1.2.2.2.2 gX7_isFull_X7_bits rfl rfl rfl (by decide +kernel) ⟨Nat.le_of_ble_eq_true rfl, Nat.le_of_ble_eq_true rfl⟩) hok (Nat.le_of_ble_eq_true rfl) ⟨Nat.le_of_ble_eq_true rfl, Nat.le_of_ble_eq_true rfl⟩) (fun E9 S9 ok9 q9 => JX_out C ok9 q9 (by decide) (by decide)) (fun rv6 S4 hr7 hok5 h3 => ?_)
  have h3 := h3 hr7 hok5
  refine J_imul (pc := 11) C dX7_isFull_11 ?_
  refine J_iconst (pc := 12) C dX7_isFull_12 ?_
  refine J_isub (pc := 13) C dX7_isFull_13 ?_
  obtain ⟨o8, h9⟩ := h3
  obtain ⟨h10, h11⟩ := h9
  refine J_icmp_ne (pc := 14) (tgt := 21) C dX7_isFull_14 (by decide) (hok 20 a0) o8 (fun cb => ?_) (fun cb => ?_)
  · have h10 := h10 cb
    refine J_iconst (pc := 21) C dX7_isFull_21 ?_
    exact J_zret (pc := 22) C dX7_isFull_22 (by decide) hok5 h10 (by decide) (by decide)
  · have h11 := h11 cb
    refine J_iconst (pc := 17) C dX7_isFull_17 ?_
    refine J_goto (pc := 18) (tgt := 22) C dX7_isFull_18 (by decide) ?_
    exact J_zret (pc := 22) C dX7_isFull_22 (by decide) hok5 h11 (by decide) (by decide)
def rmX7_areFirm : Room := { frames := 2, cells := 0, slots := 0, locals := 43 }
theorem mX7_areFirm_f76 : Cond.fieldLink RX7 76 "StressworkModel" "joints" "I" ∈ wsX7_areFirm := by decide +kernel
theorem nX7_areFirm_X7 : ∀ x ∈ wsX70, x ∈ wsX7_areFirm := by decide +kernel
def M_X7_areFirm (a0 a1 : Int) (S : St) (Qr : Int → St → Prop) (Qx : String → St → Prop) : Prop := r32 a0 → r32 a1 → MM 1 wM okM yX7_areFirm wsX7_areFirm rmX7_areFirm (fun G => [.ref (G.2.2 0), iV a0, iV a1]) S Qr Qx
def R_X7_areFirm_14 (x3 x4 x5 : Int) (S : St) (Qr : Int → St → Prop) (Qx : String → St → Prop) : Prop := r32 x3 → r32 x4 → r32 x5 → RR 1 wM okM wsX7_areFirm rmX7_areFirm cX7_areFirm 6 RX7 (some .boolean) [] 0 0 (fun G => [some (.ref (G.2.2 0)), none, none, some (iV x3), some (iV x4), some (iV x5)]) (fun G => []) 14 S Qr Qx
set_option maxRecDepth 100000 in
set_option maxHeartbeats 4000000 in
theorem vc_X7_areFirm {a0 a1 : Int} {S : St} {Qr : Int → St → Prop} {Qx : String → St → Prop} (h : r32 a0 → r32 a1 → okM S → R_X7_areFirm_14 0 (zor (zshl 1 a0) (zshl 1 a1)) 0 S Qr Qx) : M_X7_areFirm a0 a1 S Qr Qx := by
  intro ra0 ra1
  refine MM_of adM (by decide +kernel) rfl (Lf := fun G => [some (.ref (G.2.2 0)), some (iV a0), some (iV a1), none, none, none]) (fun G => by show _ ≤ _; exact Nat.le_of_ble_eq_true rfl) (fun G => rfl) ?_
  intro p l e s m args below meth c G A C hok
  have h := h ra0 ra1 hok
  replace C : Cx wM cX7_areFirm 6 RX7 wsX7_areFirm (some .boolean) [] p l s m args meth c G A := C
  show J wM 6 rmX7_areFirm p l e s m args below meth c G A (QQ 1 wM okM G Qr Qx A below args s rmX7_areFirm.cells rmX7_areFirm.slots) 0 0 S [some (.ref (G.2.2 0)), some (iV a0), some (iV a1), none, none, none] [] 0
  refine J_iconst (pc := 0) C dX7_areFirm_0 ?_
  refine J_istore_n (pc := 1) C dX7_areFirm_1 (by decide) ?_
  refine J_iconst (pc := 2) C dX7_areFirm_2 ?_
  refine J_iload_n (pc := 3) C dX7_areFirm_3 rfl ?_
  refine J_ishl (pc := 4) C dX7_areFirm_4 ?_
  refine J_iconst (pc := 5) C dX7_areFirm_5 ?_
  refine J_iload_n (pc := 6) C dX7_areFirm_6 rfl ?_
  refine J_ishl (pc := 7) C dX7_areFirm_7 ?_
  refine J_ior (pc := 8) C dX7_areFirm_8 ?_
  refine J_istore (pc := 9) C dX7_areFirm_9 (by decide) ?_
  refine J_iconst (pc := 11) C dX7_areFirm_11 ?_
  refine J_istore (pc := 12) C dX7_areFirm_12 (by decide) ?_
  exact J_sub (L1 := [some (.ref (G.2.2 0)), none, none, some (iV 0), some (iV (zor (zshl 1 a0) (zshl 1 a1))), some (iV 0)]) ⟨rfl, ⟨rfl, ⟨rfl, ⟨rfl, trivial⟩⟩⟩⟩ (h (by decide) (r_zor _ _) (by decide) p l e s m args below meth c G A C hok)
set_option maxRecDepth 100000 in
set_option maxHeartbeats 4000000 in
theorem vc_X7_areFirm_14 {x3 x4 x5 : Int} {S : St} {Qr : Int → St → Prop} {Qx : String → St → Prop} (h : r32 x3 → r32 x4 → r32 x5 → okM S → (((zshl 1 (S 0 1)) ≤ x5 → ((0 ≤ x3 ∧ x3 ≤ 1) ∧ Qr x3 S)) ∧ (x5 < (zshl 1 (S 0 1)) → ((x3 ≠ 0 → ((0 ≤ x3 ∧ x3 ≤ 1) ∧ Qr x3 S)) ∧ (x3 = 0 → (((zand x5 x4) ≠ x4 → (r32 (x5 + 1) ∧ R_X7_areFirm_14 0 x4 (x5 + 1) S Qr Qx)) ∧ ((zand x5 x4) = x4 → M_X7_isFull x5 S (fun rv16 S14 => r32 rv16 → okM S14 → ((rv16 = 0 → (r32 (x5 + 1) ∧ R_X7_areFirm_14 0 x4 (x5 + 1) S14 Qr Qx)) ∧ (rv16 ≠ 0 → (r32 (x5 + 1) ∧ R_X7_areFirm_14 1 x4 (x5 + 1) S14 Qr Qx)))) Qx))))))) : R_X7_areFirm_14 x3 x4 x5 S Qr Qx := by
  intro rx3 rx4 rx5
  intro p l e s m args below meth c G A C hok
  have h := h rx3 rx4 rx5 hok
  replace C : Cx wM cX7_areFirm 6 RX7 wsX7_areFirm (some .boolean) [] p l s m args meth c G A := C
  show J wM 6 rmX7_areFirm p l e s m args below meth c G A (QQ 1 wM okM G Qr Qx A below args s rmX7_areFirm.cells rmX7_areFirm.slots) 0 0 S [some (.ref (G.2.2 0)), none, none, some (iV x3), some (iV x4), some (iV x5)] [] 14
  refine J_iload (pc := 14) C dX7_areFirm_14 rfl ?_
  refine J_iconst (pc := 16) C dX7_areFirm_16 ?_
  refine J_aload_n (pc := 17) C dX7_areFirm_17 rfl ?_
  refine J_get (pc := 18) C dX7_areFirm_18 0 rfl rfl nX7_areFirm_X7 1 (by decide) mX7_areFirm_f76 rfl (v := iV (S 0 1)) rfl ?_
  refine J_ishl (pc := 21) C dX7_areFirm_21 ?_
  obtain ⟨h1, h2⟩ := h
  refine J_icmp_ge (pc := 22) (tgt := 60) C dX7_areFirm_22 (by decide) rx5 (r_zshl _ _) (fun cb => ?_) (fun cb => ?_)
  · have h1 := h1 cb
    refine J_iload_n (pc := 60) C dX7_areFirm_60 rfl ?_
    obtain ⟨o3, h4⟩ := h1
    exact J_zret (pc := 61) C dX7_areFirm_61 o3 hok h4 (by decide) (by decide)
  · have h2 := h2 cb
    refine J_iload_n (pc := 25) C dX7_areFirm_25 rfl ?_
    obtain ⟨h5, h6⟩ := h2
    refine J_if_ne (pc := 26) (tgt := 60) C dX7_areFirm_26 (by decide) rx3 (fun cb => ?_) (fun cb => ?_)
    · have h5 := h5 cb
      refine J_iload_n (pc := 60) C dX7_areFirm_60 rfl ?_
      obtain ⟨o7, h8⟩ := h5
      exact J_zret (pc := 61) C dX7_areFirm_61 o7 hok h8 (by decide) (by decide)
    · have h6 := h6 cb
      refine J_iload (pc := 29) C dX7_areFirm_29 rfl ?_
      refine J_iload (pc := 31) C dX7_areFirm_31 rfl ?_
      refine J_iand (pc := 33) C dX7_areFirm_33 ?_
      refine J_iload (pc := 34) C dX7_areFirm_34 rfl ?_
      obtain ⟨h9, h10⟩ := h6
      refine J_icmp_ne (pc := 36) (tgt := 52) C dX7_areFirm_36 (by decide) (r_zand _ _) rx4 (fun cb => ?_) (fun cb => ?_)
      · have h9 := h9 cb
        refine J_iconst (pc := 52) C dX7_areFirm_52 ?_
        refine J_istore_n (pc := 53) C dX7_areFirm_53 (by decide) ?_
        refine J_iinc (pc := 54) C dX7_areFirm_54 rfl (by decide) ?_
        refine J_goto (pc := 57) (tgt := 14) C dX7_areFirm_57 (by decide) ?_
        obtain ⟨o11, h12⟩ := h9
        exact J_sub (L1 := [some (.ref (G.2.2 0)), none, none, some (iV 0), some (iV x4), some (iV (x5 + 1))]) ⟨rfl, ⟨rfl, ⟨rfl, ⟨rfl, trivial⟩⟩⟩⟩ (h12 (by decide) rx4 o11 p l e s m args below meth c G A C hok)
      · have h10 := h10 cb
        refine J_aload_n (pc := 39) C dX7_areFirm_39 rfl ?_
        refine J_iload (pc := 40) C dX7_areFirm_40 rfl ?_
        refine J_c1 (pc := 42) C (J_rV (pc := 42) C (h10 rx5) dX7_areFirm_42 rfl rfl 0 rfl rfl (cwV 1 C.1.2.2.2.2 gX7_areFirm_X7_isFull rfl rfl rfl (by decide +kernel) ⟨Nat.le_of_ble_eq_true rfl, Nat.le_of_ble_eq_true rfl⟩) hok (Nat.le_of_ble_eq_true rfl) ⟨Nat.le_of_ble_eq_true rfl, Nat.le_of_ble_eq_true rfl⟩) (fun E9 S9 ok9 q9 => JX_out C ok9 q9 (by decide) (by decide)) (fun rv16 S14 hr17 hok15 h13 => ?_)
        have h13 := h13 hr17 hok15
        obtain ⟨h18, h19⟩ := h13
        refine J_if_eq (pc := 45) (tgt := 52) C dX7_areFirm_45 (by decide) hr17 (fun cb => ?_) (fun cb => ?_)
        · have h18 := h18 cb
          refine J_iconst (pc := 52) C dX7_areFirm_52 ?_
          refine J_istore_n (pc := 53) C dX7_areFirm_53 (by decide) ?_
          refine J_iinc (pc := 54) C dX7_areFirm_54 rfl (by decide) ?_
          refine J_goto (pc := 57) (tgt := 14) C dX7_areFirm_57 (by decide) ?_
          obtain ⟨o20, h21⟩ := h18
          exact J_sub (L1 := [some (.ref (G.2.2 0)), none, none, some (iV 0), some (iV x4), some (iV (x5 + 1))]) ⟨rfl, ⟨rfl, ⟨rfl, ⟨rfl, trivial⟩⟩⟩⟩ (h21 (by decide) rx4 o20 p l e s m args below meth c G A C hok15)
        · have h19 := h19 cb
          refine J_iconst (pc := 48) C dX7_areFirm_48 ?_
          refine J_goto (pc := 49) (tgt := 53) C dX7_areFirm_49 (by decide) ?_
          refine J_istore_n (pc := 53) C dX7_areFirm_53 (by decide) ?_
          refine J_iinc (pc := 54) C dX7_areFirm_54 rfl (by decide) ?_
          refine J_goto (pc := 57) (tgt := 14) C dX7_areFirm_57 (by decide) ?_
          obtain ⟨o22, h23⟩ := h19
          exact J_sub (L1 := [some (.ref (G.2.2 0)), none, none, some (iV 1), some (iV x4), some (iV (x5 + 1))]) ⟨rfl, ⟨rfl, ⟨rfl, ⟨rfl, trivial⟩⟩⟩⟩ (h23 (by decide) rx4 o22 p l e s m args below meth c G A C hok15)
def rmX7_isIn : Room := { frames := 0, cells := 0, slots := 0, locals := 0 }
def M_X7_isIn (a0 a1 a2 : Int) (S : St) (Qr : Int → St → Prop) (Qx : String → St → Prop) : Prop := r32 a0 → r32 a1 → r32 a2 → MM 1 wM okM yX7_isIn wsX7_isIn rmX7_isIn (fun G => [iV a0, iV a1, iV a2]) S Qr Qx
set_option maxRecDepth 100000 in
set_option maxHeartbeats 4000000 in
theorem vc_X7_isIn {a0 a1 a2 : Int} {S : St} {Qr : Int → St → Prop} {Qx : String → St → Prop} (h : r32 a0 → r32 a1 → r32 a2 → okM S → ((a0 < a1 → Qr 0 S) ∧ (a1 ≤ a0 → ((a2 < a0 → Qr 0 S) ∧ (a0 ≤ a2 → Qr 1 S))))) : M_X7_isIn a0 a1 a2 S Qr Qx := by
  intro ra0 ra1 ra2
  refine MM_of adM (by decide +kernel) rfl (Lf := fun G => [some (iV a0), some (iV a1), some (iV a2)]) (fun G => by show _ ≤ _; exact Nat.le_of_ble_eq_true rfl) (fun G => rfl) ?_
  intro p l e s m args below meth c G A C hok
  have h := h ra0 ra1 ra2 hok
  replace C : Cx wM cX7_isIn 3 RX7 wsX7_isIn (some .boolean) [] p l s m args meth c G A := C
  show J wM 3 rmX7_isIn p l e s m args below meth c G A (QQ 1 wM okM G Qr Qx A below args s rmX7_isIn.cells rmX7_isIn.slots) 0 0 S [some (iV a0), some (iV a1), some (iV a2)] [] 0
  refine J_iload_n (pc := 0) C dX7_isIn_0 rfl ?_
  refine J_iload_n (pc := 1) C dX7_isIn_1 rfl ?_
  obtain ⟨h1, h2⟩ := h
  refine J_icmp_lt (pc := 2) (tgt := 14) C dX7_isIn_2 (by decide) ra0 ra1 (fun cb => ?_) (fun cb => ?_)
  · have h1 := h1 cb
    refine J_iconst (pc := 14) C dX7_isIn_14 ?_
    exact J_zret (pc := 15) C dX7_isIn_15 (by decide) hok h1 (by decide) (by decide)
  · have h2 := h2 cb
    refine J_iload_n (pc := 5) C dX7_isIn_5 rfl ?_
    refine J_iload_n (pc := 6) C dX7_isIn_6 rfl ?_
    obtain ⟨h3, h4⟩ := h2
    refine J_icmp_gt (pc := 7) (tgt := 14) C dX7_isIn_7 (by decide) ra0 ra2 (fun cb => ?_) (fun cb => ?_)
    · have h3 := h3 cb
      refine J_iconst (pc := 14) C dX7_isIn_14 ?_
      exact J_zret (pc := 15) C dX7_isIn_15 (by decide) hok h3 (by decide) (by decide)
    · have h4 := h4 cb
      refine J_iconst (pc := 10) C dX7_isIn_10 ?_
      refine J_goto (pc := 11) (tgt := 15) C dX7_isIn_11 (by decide) ?_
      exact J_zret (pc := 15) C dX7_isIn_15 (by decide) hok h4 (by decide) (by decide)
def rmX7_isMember : Room := { frames := 1, cells := 0, slots := 0, locals := 22 }
theorem mX7_isMember_f83 : Cond.fieldLink RX7 83 "StressworkModel" "members" "I" ∈ wsX7_isMember := by decide +kernel
theorem nX7_isMember_X7 : ∀ x ∈ wsX70, x ∈ wsX7_isMember := by decide +kernel
theorem mX7_isMember_f35 : Cond.fieldLink RX7 35 "StressworkModel" "isGone" "[Z" ∈ wsX7_isMember := by decide +kernel
def M_X7_isMember (a0 : Int) (S : St) (Qr : Int → St → Prop) (Qx : String → St → Prop) : Prop := r32 a0 → MM 1 wM okM yX7_isMember wsX7_isMember rmX7_isMember (fun G => [.ref (G.2.2 0), iV a0]) S Qr Qx
set_option maxRecDepth 100000 in
set_option maxHeartbeats 4000000 in
theorem vc_X7_isMember {a0 : Int} {S : St} {Qr : Int → St → Prop} {Qx : String → St → Prop} (h : r32 a0 → okM S → (r32 ((S 0 6) - 1) ∧ M_X7_isIn a0 0 ((S 0 6) - 1) S (fun rv6 S4 => r32 rv6 → okM S4 → ((rv6 = 0 → Qr 0 S4) ∧ (rv6 ≠ 0 → (ix a0 40 ∧ (((S4 9 a0) ≠ 0 → Qr 0 S4) ∧ ((S4 9 a0) = 0 → Qr 1 S4)))))) Qx)) : M_X7_isMember a0 S Qr Qx := by
  intro ra0
  refine MM_of adM (by decide +kernel) rfl (Lf := fun G => [some (.ref (G.2.2 0)), some (iV a0)]) (fun G => by show _ ≤ _; exact Nat.le_of_ble_eq_true rfl) (fun G => rfl) ?_
  intro p l e s m args below meth c G A C hok
  have h := h ra0 hok
  replace C : Cx wM cX7_isMember 2 RX7 wsX7_isMember (some .boolean) [] p l s m args meth c G A := C
  show J wM 2 rmX7_isMember p l e s m args below meth c G A (QQ 1 wM okM G Qr Qx A below args s rmX7_isMember.cells rmX7_isMember.slots) 0 0 S [some (.ref (G.2.2 0)), some (iV a0)] [] 0
  refine J_iload_n (pc := 0) C dX7_isMember_0 rfl ?_
  refine J_iconst (pc := 1) C dX7_isMember_1 ?_
  refine J_aload_n (pc := 2) C dX7_isMember_2 rfl ?_
  refine J_get (pc := 3) C dX7_isMember_3 0 rfl rfl nX7_isMember_X7 6 (by decide) mX7_isMember_f83 rfl (v := iV (S 0 6)) rfl ?_
  refine J_iconst (pc := 6) C dX7_isMember_6 ?_
  refine J_isub (pc := 7) C dX7_isMember_7 ?_
  obtain ⟨o1, h2⟩ := h
  refine J_c1 (pc := 8) C (J_rS (pc := 8) C (h2 ra0 (by decide) o1) dX7_isMember_8 rfl rfl (va_cwS 3 C.1.2.2.2.2 gX7_isMember_X7_isIn rfl rfl rfl (by decide +kernel) ⟨Nat.le_of_ble_eq_true rfl, Nat.le_of_ble_eq_true rfl⟩) hok (Nat.le_of_ble_eq_true rfl) ⟨Nat.le_of_ble_eq_true rfl, Nat.le_of_ble_eq_true rfl⟩) (fun E9 S9 ok9 q9 => JX_out C ok9 q9 (by decide) (by decide)) (fun rv6 S4 hr7 hok5 h3 => ?_)
  have h3 := h3 hr7 hok5
  obtain ⟨h8, h9⟩ := h3
  refine J_if_eq (pc := 11) (tgt := 27) C dX7_isMember_11 (by decide) hr7 (fun cb => ?_) (fun cb => ?_)
  · have h8 := h8 cb
    refine J_iconst (pc := 27) C dX7_isMember_27 ?_
    exact J_zret (pc := 28) C dX7_isMember_28 (by decide) hok5 h8 (by decide) (by decide)
  · have h9 := h9 cb
    refine J_aload_n (pc := 14) C dX7_isMember_14 rfl ?_
    refine J_get (pc := 15) C dX7_isMember_15 0 rfl rfl nX7_isMember_X7 11 (by decide) mX7_isMember_f35 rfl (v := .ref (G.2.2 9)) rfl ?_
    refine J_iload_n (pc := 18) C dX7_isMember_18 rfl ?_
    obtain ⟨o10, h11⟩ := h9
    refine J_zald (pc := 19) C dX7_isMember_19 9 9 rfl (by decide) o10 ?_
    obtain ⟨h12, h13⟩ := h11
    refine J_if_ne (pc := 20) (tgt := 27) C dX7_isMember_20 (by decide) (r01 (hok5 9 a0)) (fun cb => ?_) (fun cb => ?_)
    · have h12 := h12 cb
      refine J_iconst (pc := 27) C dX7_isMember_27 ?_
      exact J_zret (pc := 28) C dX7_isMember_28 (by decide) hok5 h12 (by decide) (by decide)
    · have h13 := h13 cb
      refine J_iconst (pc := 23) C dX7_isMember_23 ?_
      refine J_goto (pc := 24) (tgt := 28) C dX7_isMember_24 (by decide) ?_
      exact J_zret (pc := 28) C dX7_isMember_28 (by decide) hok5 h13 (by decide) (by decide)
def rmX7_holds : Room := { frames := 0, cells := 0, slots := 0, locals := 0 }
theorem mX7_holds_f72 : Cond.fieldLink RX7 72 "StressworkModel" "thrown" "I" ∈ wsX7_holds := by decide +kernel
theorem nX7_holds_X7 : ∀ x ∈ wsX70, x ∈ wsX7_holds := by decide +kernel
def M_X7_holds (a0 : Int) (S : St) (Qr : Int → St → Prop) (Qx : String → St → Prop) : Prop := r32 a0 → MM 1 wM okM yX7_holds wsX7_holds rmX7_holds (fun G => [.ref (G.2.2 0), iV a0]) S Qr Qx
set_option maxRecDepth 100000 in
set_option maxHeartbeats 4000000 in
theorem vc_X7_holds {a0 : Int} {S : St} {Qr : Int → St → Prop} {Qx : String → St → Prop} (h : r32 a0 → okM S → ((a0 ≠ 0 → Qr 0 (up S 0 0 a0)) ∧ (a0 = 0 → Qr 1 (up S 0 0 a0)))) : M_X7_holds a0 S Qr Qx := by
  intro ra0
  refine MM_of adM (by decide +kernel) rfl (Lf := fun G => [some (.ref (G.2.2 0)), some (iV a0)]) (fun G => by show _ ≤ _; exact Nat.le_of_ble_eq_true rfl) (fun G => rfl) ?_
  intro p l e s m args below meth c G A C hok
  have h := h ra0 hok
  replace C : Cx wM cX7_holds 2 RX7 wsX7_holds (some .boolean) [] p l s m args meth c G A := C
  show J wM 2 rmX7_holds p l e s m args below meth c G A (QQ 1 wM okM G Qr Qx A below args s rmX7_holds.cells rmX7_holds.slots) 0 0 S [some (.ref (G.2.2 0)), some (iV a0)] [] 0
  refine J_aload_n (pc := 0) C dX7_holds_0 rfl ?_
  refine J_iload_n (pc := 1) C dX7_holds_1 rfl ?_
  refine J_put (pc := 2) C dX7_holds_2 0 rfl rfl nX7_holds_X7 tyX7 tyX7_ok nmX7 0 (by decide) mX7_holds_f72 rfl rfl (v := iV a0) rfl rfl (Nat.le_of_ble_eq_true rfl) (sM_0_0 G S a0) ?_
  have hok1 := okM_up (k := 0) (j := 0) hok (show rngM 0 a0 from ra0)
  refine J_iload_n (pc := 5) C dX7_holds_5 rfl ?_
  obtain ⟨h2, h3⟩ := h
  refine J_if_ne (pc := 6) (tgt := 13) C dX7_holds_6 (by decide) ra0 (fun cb => ?_) (fun cb => ?_)
  · have h2 := h2 cb
    refine J_iconst (pc := 13) C dX7_holds_13 ?_
    exact J_zret (pc := 14) C dX7_holds_14 (by decide) hok1 h2 (by decide) (by decide)
  · have h3 := h3 cb
    refine J_iconst (pc := 9) C dX7_holds_9 ?_
    refine J_goto (pc := 10) (tgt := 14) C dX7_holds_10 (by decide) ?_
    exact J_zret (pc := 14) C dX7_holds_14 (by decide) hok1 h3 (by decide) (by decide)
def rmX7_laysJoints : Room := { frames := 0, cells := 0, slots := 0, locals := 0 }
theorem mX7_laysJoints_f121 : Cond.fieldLink RX7 121 "StressworkModel" "columns" "I" ∈ wsX7_laysJoints := by decide +kernel
theorem nX7_laysJoints_X7 : ∀ x ∈ wsX70, x ∈ wsX7_laysJoints := by decide +kernel
theorem mX7_laysJoints_f76 : Cond.fieldLink RX7 76 "StressworkModel" "joints" "I" ∈ wsX7_laysJoints := by decide +kernel
theorem mX7_laysJoints_f50 : Cond.fieldLink RX7 50 "StressworkModel" "atX" "[J" ∈ wsX7_laysJoints := by decide +kernel
theorem mX7_laysJoints_f7 : Cond.fieldLink RX7 7 "StressworkModel" "x" "[I" ∈ wsX7_laysJoints := by decide +kernel
theorem mX7_laysJoints_f54 : Cond.fieldLink RX7 54 "StressworkModel" "atY" "[J" ∈ wsX7_laysJoints := by decide +kernel
theorem mX7_laysJoints_f13 : Cond.fieldLink RX7 13 "StressworkModel" "y" "[I" ∈ wsX7_laysJoints := by decide +kernel
theorem mX7_laysJoints_f57 : Cond.fieldLink RX7 57 "StressworkModel" "column" "[I" ∈ wsX7_laysJoints := by decide +kernel
theorem mX7_laysJoints_f16 : Cond.fieldLink RX7 16 "StressworkModel" "isPinned" "[Z" ∈ wsX7_laysJoints := by decide +kernel
def M_X7_laysJoints (S : St) (Qr : Int → St → Prop) (Qx : String → St → Prop) : Prop := MM 0 wM okM yX7_laysJoints wsX7_laysJoints rmX7_laysJoints (fun G => [.ref (G.2.2 0)]) S Qr Qx
def R_X7_laysJoints_7 (x1 : Int) (S : St) (Qr : Int → St → Prop) (Qx : String → St → Prop) : Prop := r32 x1 → RR 0 wM okM wsX7_laysJoints rmX7_laysJoints cX7_laysJoints 2 RX7 none [] 0 0 (fun G => [some (.ref (G.2.2 0)), some (iV x1)]) (fun G => []) 7 S Qr Qx
set_option maxRecDepth 100000 in
set_option maxHeartbeats 4000000 in
theorem vc_X7_laysJoints {S : St} {Qr : Int → St → Prop} {Qx : String → St → Prop} (h : okM S → R_X7_laysJoints_7 0 (up S 0 20 0) Qr Qx) : M_X7_laysJoints S Qr Qx := by
  refine MM_of adM (by decide +kernel) rfl (Lf := fun G => [some (.ref (G.2.2 0)), none]) (fun G => by show _ ≤ _; exact Nat.le_of_ble_eq_true rfl) (fun G => rfl) ?_
  intro p l e s m args below meth c G A C hok
  have h := h hok
  replace C : Cx wM cX7_laysJoints 2 RX7 wsX7_laysJoints none [] p l s m args meth c G A := C
  show J wM 2 rmX7_laysJoints p l e s m args below meth c G A (QQ 0 wM okM G Qr Qx A below args s rmX7_laysJoints.cells rmX7_laysJoints.slots) 0 0 S [some (.ref (G.2.2 0)), none] [] 0
  refine J_aload_n (pc := 0) C dX7_laysJoints_0 rfl ?_
  refine J_iconst (pc := 1) C dX7_laysJoints_1 ?_
  refine J_put (pc := 2) C dX7_laysJoints_2 0 rfl rfl nX7_laysJoints_X7 tyX7 tyX7_ok nmX7 20 (by decide) mX7_laysJoints_f121 rfl rfl (v := iV 0) rfl rfl (Nat.le_of_ble_eq_true rfl) (sM_0_20 G S 0) ?_
  have hok1 := okM_up (k := 0) (j := 20) hok (show rngM 0 0 from (by decide : r32 0))
  refine J_iconst (pc := 5) C dX7_laysJoints_5 ?_
  refine J_istore_n (pc := 6) C dX7_laysJoints_6 (by decide) ?_
  exact J_sub (L1 := [some (.ref (G.2.2 0)), some (iV 0)]) ⟨rfl, ⟨rfl, trivial⟩⟩ (h (by decide) p l e s m args below meth c G A C hok1)
set_option maxRecDepth 100000 in
set_option maxHeartbeats 4000000 in
theorem vc_X7_laysJoints_7 {x1 : Int} {S : St} {Qr : Int → St → Prop} {Qx : String → St → Prop} (h : r32 x1 → okM S → (((S 0 1) ≤ x1 → Qr 0 S) ∧ (x1 < (S 0 1) → (ix x1 10 ∧ (((S 3 x1) = 0 → (((S 3 x1) = 0 → (r32 ((S 0 20) + 2) ∧ (r32 (x1 + 1) ∧ R_X7_laysJoints_7 (x1 + 1) (up (up (up (up S 14 x1 (S 1 x1)) 15 x1 (S 2 x1)) 16 x1 (S 0 20)) 0 20 ((S 0 20) + 2)) Qr Qx))) ∧ ((S 3 x1) ≠ 0 → (r32 ((S 0 20) + 0) ∧ (r32 (x1 + 1) ∧ R_X7_laysJoints_7 (x1 + 1) (up (up (up (up S 14 x1 (S 1 x1)) 15 x1 (S 2 x1)) 16 x1 (S 0 20)) 0 20 ((S 0 20) + 0)) Qr Qx))))) ∧ ((S 3 x1) ≠ 0 → (((S 3 x1) = 0 → (r32 ((S 0 20) + 2) ∧ (r32 (x1 + 1) ∧ R_X7_laysJoints_7 (x1 + 1) (up (up (up (up S 14 x1 (S 1 x1)) 15 x1 (S 2 x1)) 16 x1 (-1)) 0 20 ((S 0 20) + 2)) Qr Qx))) ∧ ((S 3 x1) ≠ 0 → (r32 ((S 0 20) + 0) ∧ (r32 (x1 + 1) ∧ R_X7_laysJoints_7 (x1 + 1) (up (up (up (up S 14 x1 (S 1 x1)) 15 x1 (S 2 x1)) 16 x1 (-1)) 0 20 ((S 0 20) + 0)) Qr Qx)))))))))) : R_X7_laysJoints_7 x1 S Qr Qx := by
  intro rx1
  intro p l e s m args below meth c G A C hok
  have h := h rx1 hok
  replace C : Cx wM cX7_laysJoints 2 RX7 wsX7_laysJoints none [] p l s m args meth c G A := C
  show J wM 2 rmX7_laysJoints p l e s m args below meth c G A (QQ 0 wM okM G Qr Qx A below args s rmX7_laysJoints.cells rmX7_laysJoints.slots) 0 0 S [some (.ref (G.2.2 0)), some (iV x1)] [] 7
  refine J_iload_n (pc := 7) C dX7_laysJoints_7 rfl ?_
  refine J_aload_n (pc := 8) C dX7_laysJoints_8 rfl ?_
  refine J_get (pc := 9) C dX7_laysJoints_9 0 rfl rfl nX7_laysJoints_X7 1 (by decide) mX7_laysJoints_f76 rfl (v := iV (S 0 1)) rfl ?_
  obtain ⟨h1, h2⟩ := h
  refine J_icmp_ge (pc := 12) (tgt := 93) C dX7_laysJoints_12 (by decide) rx1 (hok 0 1) (fun cb => ?_) (fun cb => ?_)
  · have h1 := h1 cb
    exact J_vret (pc := 93) C dX7_laysJoints_93 hok h1 (by decide) (by decide)
  · have h2 := h2 cb
    refine J_aload_n (pc := 15) C dX7_laysJoints_15 rfl ?_
    refine J_get (pc := 16) C dX7_laysJoints_16 0 rfl rfl nX7_laysJoints_X7 17 (by decide) mX7_laysJoints_f50 rfl (v := .ref (G.2.2 14)) rfl ?_
    refine J_iload_n (pc := 19) C dX7_laysJoints_19 rfl ?_
    refine J_aload_n (pc := 20) C dX7_laysJoints_20 rfl ?_
    refine J_get (pc := 21) C dX7_laysJoints_21 0 rfl rfl nX7_laysJoints_X7 2 (by decide) mX7_laysJoints_f7 rfl (v := .ref (G.2.2 1)) rfl ?_
    refine J_iload_n (pc := 24) C dX7_laysJoints_24 rfl ?_
    obtain ⟨o3, h4⟩ := h2
    refine J_iald (pc := 25) C dX7_laysJoints_25 1 1 rfl (by decide) o3 ?_
    refine J_i2l (pc := 26) C dX7_laysJoints_26 (hok 1 x1) ?_
    refine J_last (pc := 27) C dX7_laysJoints_27 14 14 rfl (by decide) o3 (sM_14 G S x1 (S 1 x1)) ?_
    have hok5 := okM_up (k := 14) (j := x1) hok (show rngM 14 (S 1 x1) from (r32_64 (hok 1 x1)))
    refine J_aload_n (pc := 28) C dX7_laysJoints_28 rfl ?_
    refine J_get (pc := 29) C dX7_laysJoints_29 0 rfl rfl nX7_laysJoints_X7 18 (by decide) mX7_laysJoints_f54 rfl (v := .ref (G.2.2 15)) rfl ?_
    refine J_iload_n (pc := 32) C dX7_laysJoints_32 rfl ?_
    refine J_aload_n (pc := 33) C dX7_laysJoints_33 rfl ?_
    refine J_get (pc := 34) C dX7_laysJoints_34 0 rfl rfl nX7_laysJoints_X7 3 (by decide) mX7_laysJoints_f13 rfl (v := .ref (G.2.2 2)) rfl ?_
    refine J_iload_n (pc := 37) C dX7_laysJoints_37 rfl ?_
    refine J_iald (pc := 38) C dX7_laysJoints_38 2 2 rfl (by decide) o3 ?_
    refine J_i2l (pc := 39) C dX7_laysJoints_39 (hok 2 x1) ?_
    refine J_last (pc := 40) C dX7_laysJoints_40 15 15 rfl (by decide) o3 (sM_15 G (up S 14 x1 (S 1 x1)) x1 (S 2 x1)) ?_
    have hok6 := okM_up (k := 15) (j := x1) hok5 (show rngM 15 (S 2 x1) from (r32_64 (hok 2 x1)))
    refine J_aload_n (pc := 41) C dX7_laysJoints_41 rfl ?_
    refine J_get (pc := 42) C dX7_laysJoints_42 0 rfl rfl nX7_laysJoints_X7 19 (by decide) mX7_laysJoints_f57 rfl (v := .ref (G.2.2 16)) rfl ?_
    refine J_iload_n (pc := 45) C dX7_laysJoints_45 rfl ?_
    refine J_aload_n (pc := 46) C dX7_laysJoints_46 rfl ?_
    refine J_get (pc := 47) C dX7_laysJoints_47 0 rfl rfl nX7_laysJoints_X7 4 (by decide) mX7_laysJoints_f16 rfl (v := .ref (G.2.2 3)) rfl ?_
    refine J_iload_n (pc := 50) C dX7_laysJoints_50 rfl ?_
    refine J_zald (pc := 51) C dX7_laysJoints_51 3 3 rfl (by decide) o3 ?_
    obtain ⟨h7, h8⟩ := h4
    refine J_if_eq (pc := 52) (tgt := 59) C dX7_laysJoints_52 (by decide) (r01 (hok 3 x1)) (fun cb => ?_) (fun cb => ?_)
    · have h7 := h7 cb
      refine J_aload_n (pc := 59) C dX7_laysJoints_59 rfl ?_
      refine J_get (pc := 60) C dX7_laysJoints_60 0 rfl rfl nX7_laysJoints_X7 20 (by decide) mX7_laysJoints_f121 rfl (v := iV (S 0 20)) rfl ?_
      refine J_iast (pc := 63) C dX7_laysJoints_63 16 16 rfl (by decide) o3 (sM_16 G (up (up S 14 x1 (S 1 x1)) 15 x1 (S 2 x1)) x1 (S 0 20)) ?_
      have hok9 := okM_up (k := 16) (j := x1) hok6 (show rngM 16 (S 0 20) from (hok 0 20))
      refine J_aload_n (pc := 64) C dX7_laysJoints_64 rfl ?_
      refine J_dup (pc := 65) C dX7_laysJoints_65 rfl ?_
      refine J_get (pc := 66) C dX7_laysJoints_66 0 rfl rfl nX7_laysJoints_X7 20 (by decide) mX7_laysJoints_f121 rfl (v := iV (S 0 20)) rfl ?_
      refine J_aload_n (pc := 69) C dX7_laysJoints_69 rfl ?_
      refine J_get (pc := 70) C dX7_laysJoints_70 0 rfl rfl nX7_laysJoints_X7 4 (by decide) mX7_laysJoints_f16 rfl (v := .ref (G.2.2 3)) rfl ?_
      refine J_iload_n (pc := 73) C dX7_laysJoints_73 rfl ?_
      refine J_zald (pc := 74) C dX7_laysJoints_74 3 3 rfl (by decide) o3 ?_
      obtain ⟨h10, h11⟩ := h7
      refine J_if_eq (pc := 75) (tgt := 82) C dX7_laysJoints_75 (by decide) (r01 (hok 3 x1)) (fun cb => ?_) (fun cb => ?_)
      · have h10 := h10 cb
        refine J_iconst (pc := 82) C dX7_laysJoints_82 ?_
        refine J_iadd (pc := 83) C dX7_laysJoints_83 ?_
        obtain ⟨o12, h13⟩ := h10
        refine J_put (pc := 84) C dX7_laysJoints_84 0 rfl rfl nX7_laysJoints_X7 tyX7 tyX7_ok nmX7 20 (by decide) mX7_laysJoints_f121 rfl rfl (v := iV ((S 0 20) + 2)) rfl rfl (Nat.le_of_ble_eq_true rfl) (sM_0_20 G (up (up (up S 14 x1 (S 1 x1)) 15 x1 (S 2 x1)) 16 x1 (S 0 20)) ((S 0 20) + 2)) ?_
        have hok14 := okM_up (k := 0) (j := 20) hok9 (show rngM 0 ((S 0 20) + 2) from o12)
        refine J_iinc (pc := 87) C dX7_laysJoints_87 rfl (by decide) ?_
        refine J_goto (pc := 90) (tgt := 7) C dX7_laysJoints_90 (by decide) ?_
        obtain ⟨o15, h16⟩ := h13
        exact J_sub (L1 := [some (.ref (G.2.2 0)), some (iV (x1 + 1))]) ⟨rfl, ⟨rfl, trivial⟩⟩ (h16 o15 p l e s m args below meth c G A C hok14)
      · have h11 := h11 cb
        refine J_iconst (pc := 78) C dX7_laysJoints_78 ?_
        refine J_goto (pc := 79) (tgt := 83) C dX7_laysJoints_79 (by decide) ?_
        refine J_iadd (pc := 83) C dX7_laysJoints_83 ?_
        obtain ⟨o17, h18⟩ := h11
        refine J_put (pc := 84) C dX7_laysJoints_84 0 rfl rfl nX7_laysJoints_X7 tyX7 tyX7_ok nmX7 20 (by decide) mX7_laysJoints_f121 rfl rfl (v := iV ((S 0 20) + 0)) rfl rfl (Nat.le_of_ble_eq_true rfl) (sM_0_20 G (up (up (up S 14 x1 (S 1 x1)) 15 x1 (S 2 x1)) 16 x1 (S 0 20)) ((S 0 20) + 0)) ?_
        have hok19 := okM_up (k := 0) (j := 20) hok9 (show rngM 0 ((S 0 20) + 0) from o17)
        refine J_iinc (pc := 87) C dX7_laysJoints_87 rfl (by decide) ?_
        refine J_goto (pc := 90) (tgt := 7) C dX7_laysJoints_90 (by decide) ?_
        obtain ⟨o20, h21⟩ := h18
        exact J_sub (L1 := [some (.ref (G.2.2 0)), some (iV (x1 + 1))]) ⟨rfl, ⟨rfl, trivial⟩⟩ (h21 o20 p l e s m args below meth c G A C hok19)
    · have h8 := h8 cb
      refine J_iconst (pc := 55) C dX7_laysJoints_55 ?_
      refine J_goto (pc := 56) (tgt := 63) C dX7_laysJoints_56 (by decide) ?_
      refine J_iast (pc := 63) C dX7_laysJoints_63 16 16 rfl (by decide) o3 (sM_16 G (up (up S 14 x1 (S 1 x1)) 15 x1 (S 2 x1)) x1 (-1)) ?_
      have hok22 := okM_up (k := 16) (j := x1) hok6 (show rngM 16 (-1) from (by decide : r32 (-1)))
      refine J_aload_n (pc := 64) C dX7_laysJoints_64 rfl ?_
      refine J_dup (pc := 65) C dX7_laysJoints_65 rfl ?_
      refine J_get (pc := 66) C dX7_laysJoints_66 0 rfl rfl nX7_laysJoints_X7 20 (by decide) mX7_laysJoints_f121 rfl (v := iV (S 0 20)) rfl ?_
      refine J_aload_n (pc := 69) C dX7_laysJoints_69 rfl ?_
      refine J_get (pc := 70) C dX7_laysJoints_70 0 rfl rfl nX7_laysJoints_X7 4 (by decide) mX7_laysJoints_f16 rfl (v := .ref (G.2.2 3)) rfl ?_
      refine J_iload_n (pc := 73) C dX7_laysJoints_73 rfl ?_
      refine J_zald (pc := 74) C dX7_laysJoints_74 3 3 rfl (by decide) o3 ?_
      obtain ⟨h23, h24⟩ := h8
      refine J_if_eq (pc := 75) (tgt := 82) C dX7_laysJoints_75 (by decide) (r01 (hok 3 x1)) (fun cb => ?_) (fun cb => ?_)
      · have h23 := h23 cb
        refine J_iconst (pc := 82) C dX7_laysJoints_82 ?_
        refine J_iadd (pc := 83) C dX7_laysJoints_83 ?_
        obtain ⟨o25, h26⟩ := h23
        refine J_put (pc := 84) C dX7_laysJoints_84 0 rfl rfl nX7_laysJoints_X7 tyX7 tyX7_ok nmX7 20 (by decide) mX7_laysJoints_f121 rfl rfl (v := iV ((S 0 20) + 2)) rfl rfl (Nat.le_of_ble_eq_true rfl) (sM_0_20 G (up (up (up S 14 x1 (S 1 x1)) 15 x1 (S 2 x1)) 16 x1 (-1)) ((S 0 20) + 2)) ?_
        have hok27 := okM_up (k := 0) (j := 20) hok22 (show rngM 0 ((S 0 20) + 2) from o25)
        refine J_iinc (pc := 87) C dX7_laysJoints_87 rfl (by decide) ?_
        refine J_goto (pc := 90) (tgt := 7) C dX7_laysJoints_90 (by decide) ?_
        obtain ⟨o28, h29⟩ := h26
        exact J_sub (L1 := [some (.ref (G.2.2 0)), some (iV (x1 + 1))]) ⟨rfl, ⟨rfl, trivial⟩⟩ (h29 o28 p l e s m args below meth c G A C hok27)
      · have h24 := h24 cb
        refine J_iconst (pc := 78) C dX7_laysJoints_78 ?_
        refine J_goto (pc := 79) (tgt := 83) C dX7_laysJoints_79 (by decide) ?_
        refine J_iadd (pc := 83) C dX7_laysJoints_83 ?_
        obtain ⟨o30, h31⟩ := h24
        refine J_put (pc := 84) C dX7_laysJoints_84 0 rfl rfl nX7_laysJoints_X7 tyX7 tyX7_ok nmX7 20 (by decide) mX7_laysJoints_f121 rfl rfl (v := iV ((S 0 20) + 0)) rfl rfl (Nat.le_of_ble_eq_true rfl) (sM_0_20 G (up (up (up S 14 x1 (S 1 x1)) 15 x1 (S 2 x1)) 16 x1 (-1)) ((S 0 20) + 0)) ?_
        have hok32 := okM_up (k := 0) (j := 20) hok22 (show rngM 0 ((S 0 20) + 0) from o30)
        refine J_iinc (pc := 87) C dX7_laysJoints_87 rfl (by decide) ?_
        refine J_goto (pc := 90) (tgt := 7) C dX7_laysJoints_90 (by decide) ?_
        obtain ⟨o33, h34⟩ := h31
        exact J_sub (L1 := [some (.ref (G.2.2 0)), some (iV (x1 + 1))]) ⟨rfl, ⟨rfl, trivial⟩⟩ (h34 o33 p l e s m args below meth c G A C hok32)
def rmX7_within : Room := { frames := 0, cells := 0, slots := 0, locals := 0 }
theorem mX7_within_c115 : Cond.constantLong RX7 115 (1000003) ∈ wsX7_within := by decide +kernel
def M_X7_within (a0 : Int) (S : St) (Qr : Int → St → Prop) (Qx : String → St → Prop) : Prop := r64 a0 → MM 2 wM okM yX7_within wsX7_within rmX7_within (fun G => [lV a0]) S Qr Qx
set_option maxRecDepth 100000 in
set_option maxHeartbeats 4000000 in
theorem vc_X7_within {a0 : Int} {S : St} {Qr : Int → St → Prop} {Qx : String → St → Prop} (h : r64 a0 → okM S → (r64 (Int.tmod a0 1000003) ∧ ((0 ≤ (Int.tmod a0 1000003) → Qr (Int.tmod a0 1000003) S) ∧ ((Int.tmod a0 1000003) < 0 → (r64 ((Int.tmod a0 1000003) + 1000003) ∧ Qr ((Int.tmod a0 1000003) + 1000003) S))))) : M_X7_within a0 S Qr Qx := by
  intro ra0
  refine MM_of adM (by decide +kernel) rfl (Lf := fun G => [some (lV a0), none, none, none]) (fun G => by show _ ≤ _; exact Nat.le_of_ble_eq_true rfl) (fun G => rfl) ?_
  intro p l e s m args below meth c G A C hok
  have h := h ra0 hok
  replace C : Cx wM cX7_within 4 RX7 wsX7_within (some .long) [] p l s m args meth c G A := C
  show J wM 4 rmX7_within p l e s m args below meth c G A (QQ 2 wM okM G Qr Qx A below args s rmX7_within.cells rmX7_within.slots) 0 0 S [some (lV a0), none, none, none] [] 0
  refine J_lload_n (pc := 0) C dX7_within_0 rfl ?_
  refine J_ldc2 (pc := 1) (z := 1000003) C mX7_within_c115 (by decide) dX7_within_1 ?_
  refine J_lrem (pc := 4) C dX7_within_4 ra0 (by decide) (by decide) ?_
  refine J_lstore_n (pc := 5) C dX7_within_5 (by decide) ?_
  refine J_lload_n (pc := 6) C dX7_within_6 rfl ?_
  refine J_lconst (pc := 7) C dX7_within_7 ?_
  obtain ⟨o1, h2⟩ := h
  obtain ⟨h3, h4⟩ := h2
  refine J_lcmp_ge (pc := 8) (tgt := 20) C dX7_within_8 dX7_within_9 (by decide) o1 (by decide) (fun cb => ?_) (fun cb => ?_)
  · have h3 := h3 cb
    refine J_lload_n (pc := 20) C dX7_within_20 rfl ?_
    exact J_lret (pc := 21) C dX7_within_21 o1 hok h3 (by decide) (by decide)
  · have h4 := h4 cb
    refine J_lload_n (pc := 12) C dX7_within_12 rfl ?_
    refine J_ldc2 (pc := 13) (z := 1000003) C mX7_within_c115 (by decide) dX7_within_13 ?_
    refine J_ladd (pc := 16) C dX7_within_16 ?_
    refine J_goto (pc := 17) (tgt := 21) C dX7_within_17 (by decide) ?_
    obtain ⟨o5, h6⟩ := h4
    exact J_lret (pc := 21) C dX7_within_21 o5 hok h6 (by decide) (by decide)
def rmX7_laysAt : Room := { frames := 1, cells := 0, slots := 0, locals := 23 }
theorem mX7_laysAt_f57 : Cond.fieldLink RX7 57 "StressworkModel" "column" "[I" ∈ wsX7_laysAt := by decide +kernel
theorem nX7_laysAt_X7 : ∀ x ∈ wsX70, x ∈ wsX7_laysAt := by decide +kernel
theorem mX7_laysAt_f60 : Cond.fieldLink RX7 60 "StressworkModel" "m" "[J" ∈ wsX7_laysAt := by decide +kernel
def M_X7_laysAt (a0 a1 a2 a3 a4 : Int) (S : St) (Qr : Int → St → Prop) (Qx : String → St → Prop) : Prop := r32 a0 → r32 a1 → r64 a2 → r64 a3 → r32 a4 → MM 0 wM okM yX7_laysAt wsX7_laysAt rmX7_laysAt (fun G => [.ref (G.2.2 0), iV a0, iV a1, lV a2, lV a3, iV a4]) S Qr Qx
set_option maxRecDepth 100000 in
set_option maxHeartbeats 4000000 in
theorem vc_X7_laysAt {a0 a1 a2 a3 a4 : Int} {S : St} {Qr : Int → St → Prop} {Qx : String → St → Prop} (h : r32 a0 → r32 a1 → r64 a2 → r64 a3 → r32 a4 → okM S → (ix a1 10 ∧ (((S 16 a1) = (-1) → Qr 0 S) ∧ ((S 16 a1) ≠ (-1) → ((a4 = 0 → M_X7_within a2 S (fun rv10 S8 => r64 rv10 → okM S8 → (ix ((40 * a0) + (S 16 a1)) 1600 ∧ ((a4 = 0 → M_X7_within a3 (up S8 17 ((40 * a0) + (S 16 a1)) rv10) (fun rv20 S18 => r64 rv20 → okM S18 → (ix (((40 * a0) + (S 16 a1)) + 1) 1600 ∧ Qr 0 (up S18 17 (((40 * a0) + (S 16 a1)) + 1) rv20))) Qx) ∧ (a4 ≠ 0 → M_X7_within a3 (up S8 17 ((40 * a0) + (S 16 a1)) rv10) (fun rv28 S26 => r64 rv28 → okM S26 → (ix (((40 * a0) + (S 16 a1)) + 40) 1600 ∧ Qr 0 (up S26 17 (((40 * a0) + (S 16 a1)) + 40) rv28))) Qx)))) Qx) ∧ (a4 ≠ 0 → M_X7_within a2 S (fun rv36 S34 => r64 rv36 → okM S34 → (ix ((40 * (S 16 a1)) + a0) 1600 ∧ ((a4 = 0 → M_X7_within a3 (up S34 17 ((40 * (S 16 a1)) + a0) rv36) (fun rv46 S44 => r64 rv46 → okM S44 → (ix (((40 * (S 16 a1)) + a0) + 1) 1600 ∧ Qr 0 (up S44 17 (((40 * (S 16 a1)) + a0) + 1) rv46))) Qx) ∧ (a4 ≠ 0 → M_X7_within a3 (up S34 17 ((40 * (S 16 a1)) + a0) rv36) (fun rv54 S52 => r64 rv54 → okM S52 → (ix (((40 * (S 16 a1)) + a0) + 40) 1600 ∧ Qr 0 (up S52 17 (((40 * (S 16 a1)) + a0) + 40) rv54))) Qx)))) Qx)))))) : M_X7_laysAt a0 a1 a2 a3 a4 S Qr Qx := by
  intro ra0 ra1 ra2 ra3 ra4
  refine MM_of adM (by decide +kernel) rfl (Lf := fun G => [some (.ref (G.2.2 0)), some (iV a0), some (iV a1), some (lV a2), none, some (lV a3), none, some (iV a4), none]) (fun G => by show _ ≤ _; exact Nat.le_of_ble_eq_true rfl) (fun G => rfl) ?_
  intro p l e s m args below meth c G A C hok
  have h := h ra0 ra1 ra2 ra3 ra4 hok
  replace C : Cx wM cX7_laysAt 9 RX7 wsX7_laysAt none [] p l s m args meth c G A := C
  show J wM 9 rmX7_laysAt p l e s m args below meth c G A (QQ 0 wM okM G Qr Qx A below args s rmX7_laysAt.cells rmX7_laysAt.slots) 0 0 S [some (.ref (G.2.2 0)), some (iV a0), some (iV a1), some (lV a2), none, some (lV a3), none, some (iV a4), none] [] 0
  refine J_aload_n (pc := 0) C dX7_laysAt_0 rfl ?_
  refine J_get (pc := 1) C dX7_laysAt_1 0 rfl rfl nX7_laysAt_X7 19 (by decide) mX7_laysAt_f57 rfl (v := .ref (G.2.2 16)) rfl ?_
  refine J_iload_n (pc := 4) C dX7_laysAt_4 rfl ?_
  obtain ⟨o1, h2⟩ := h
  refine J_iald (pc := 5) C dX7_laysAt_5 16 16 rfl (by decide) o1 ?_
  refine J_iconst (pc := 6) C dX7_laysAt_6 ?_
  obtain ⟨h3, h4⟩ := h2
  refine J_icmp_eq (pc := 7) (tgt := 77) C dX7_laysAt_7 (by decide) (hok 16 a1) (by decide) (fun cb => ?_) (fun cb => ?_)
  · have h3 := h3 cb
    exact J_vret (pc := 77) C dX7_laysAt_77 hok h3 (by decide) (by decide)
  · have h4 := h4 cb
    refine J_iload (pc := 10) C dX7_laysAt_10 rfl ?_
    obtain ⟨h5, h6⟩ := h4
    refine J_if_eq (pc := 12) (tgt := 29) C dX7_laysAt_12 (by decide) ra4 (fun cb => ?_) (fun cb => ?_)
    · have h5 := h5 cb
      refine J_bipush (pc := 29) C dX7_laysAt_29 (by decide) ?_
      refine J_iload_n (pc := 31) C dX7_laysAt_31 rfl ?_
      refine J_imul (pc := 32) C dX7_laysAt_32 ?_
      refine J_aload_n (pc := 33) C dX7_laysAt_33 rfl ?_
      refine J_get (pc := 34) C dX7_laysAt_34 0 rfl rfl nX7_laysAt_X7 19 (by decide) mX7_laysAt_f57 rfl (v := .ref (G.2.2 16)) rfl ?_
      refine J_iload_n (pc := 37) C dX7_laysAt_37 rfl ?_
      refine J_iald (pc := 38) C dX7_laysAt_38 16 16 rfl (by decide) o1 ?_
      refine J_iadd (pc := 39) C dX7_laysAt_39 ?_
      refine J_istore (pc := 40) C dX7_laysAt_40 (by decide) ?_
      refine J_aload_n (pc := 42) C dX7_laysAt_42 rfl ?_
      refine J_get (pc := 43) C dX7_laysAt_43 0 rfl rfl nX7_laysAt_X7 21 (by decide) mX7_laysAt_f60 rfl (v := .ref (G.2.2 17)) rfl ?_
      refine J_iload (pc := 46) C dX7_laysAt_46 rfl ?_
      refine J_lload_n (pc := 48) C dX7_laysAt_48 rfl ?_
      refine J_c2 (pc := 49) C (J_rS (pc := 49) C (h5 ra2) dX7_laysAt_49 rfl rfl (va_cwS 1 C.1.2.2.2.2 gX7_laysAt_X7_within rfl rfl rfl (by decide +kernel) ⟨Nat.le_of_ble_eq_true rfl, Nat.le_of_ble_eq_true rfl⟩) hok (Nat.le_of_ble_eq_true rfl) ⟨Nat.le_of_ble_eq_true rfl, Nat.le_of_ble_eq_true rfl⟩) (fun E9 S9 ok9 q9 => JX_out C ok9 q9 (by decide) (by decide)) (fun rv10 S8 hr11 hok9 h7 => ?_)
      have h7 := h7 hr11 hok9
      obtain ⟨o12, h13⟩ := h7
      refine J_last (pc := 52) C dX7_laysAt_52 17 17 rfl (by decide) o12 (sM_17 G S8 ((40 * a0) + (S 16 a1)) rv10) ?_
      have hok14 := okM_up (k := 17) (j := ((40 * a0) + (S 16 a1))) hok9 (show rngM 17 rv10 from hr11)
      refine J_aload_n (pc := 53) C dX7_laysAt_53 rfl ?_
      refine J_get (pc := 54) C dX7_laysAt_54 0 rfl rfl nX7_laysAt_X7 21 (by decide) mX7_laysAt_f60 rfl (v := .ref (G.2.2 17)) rfl ?_
      refine J_iload (pc := 57) C dX7_laysAt_57 rfl ?_
      refine J_iload (pc := 59) C dX7_laysAt_59 rfl ?_
      obtain ⟨h15, h16⟩ := h13
      refine J_if_eq (pc := 61) (tgt := 69) C dX7_laysAt_61 (by decide) ra4 (fun cb => ?_) (fun cb => ?_)
      · have h15 := h15 cb
        refine J_iconst (pc := 69) C dX7_laysAt_69 ?_
        refine J_iadd (pc := 70) C dX7_laysAt_70 ?_
        refine J_lload (pc := 71) C dX7_laysAt_71 rfl ?_
        refine J_c2 (pc := 73) C (J_rS (pc := 73) C (h15 ra3) dX7_laysAt_73 rfl rfl (va_cwS 1 C.1.2.2.2.2 gX7_laysAt_X7_within rfl rfl rfl (by decide +kernel) ⟨Nat.le_of_ble_eq_true rfl, Nat.le_of_ble_eq_true rfl⟩) hok14 (Nat.le_of_ble_eq_true rfl) ⟨Nat.le_of_ble_eq_true rfl, Nat.le_of_ble_eq_true rfl⟩) (fun E9 S9 ok9 q9 => JX_out C ok9 q9 (by decide) (by decide)) (fun rv20 S18 hr21 hok19 h17 => ?_)
        have h17 := h17 hr21 hok19
        obtain ⟨o22, h23⟩ := h17
        refine J_last (pc := 76) C dX7_laysAt_76 17 17 rfl (by decide) o22 (sM_17 G S18 (((40 * a0) + (S 16 a1)) + 1) rv20) ?_
        have hok24 := okM_up (k := 17) (j := (((40 * a0) + (S 16 a1)) + 1)) hok19 (show rngM 17 rv20 from hr21)
        exact J_vret (pc := 77) C dX7_laysAt_77 hok24 h23 (by decide) (by decide)
      · have h16 := h16 cb
        refine J_bipush (pc := 64) C dX7_laysAt_64 (by decide) ?_
        refine J_goto (pc := 66) (tgt := 70) C dX7_laysAt_66 (by decide) ?_
        refine J_iadd (pc := 70) C dX7_laysAt_70 ?_
        refine J_lload (pc := 71) C dX7_laysAt_71 rfl ?_
        refine J_c2 (pc := 73) C (J_rS (pc := 73) C (h16 ra3) dX7_laysAt_73 rfl rfl (va_cwS 1 C.1.2.2.2.2 gX7_laysAt_X7_within rfl rfl rfl (by decide +kernel) ⟨Nat.le_of_ble_eq_true rfl, Nat.le_of_ble_eq_true rfl⟩) hok14 (Nat.le_of_ble_eq_true rfl) ⟨Nat.le_of_ble_eq_true rfl, Nat.le_of_ble_eq_true rfl⟩) (fun E9 S9 ok9 q9 => JX_out C ok9 q9 (by decide) (by decide)) (fun rv28 S26 hr29 hok27 h25 => ?_)
        have h25 := h25 hr29 hok27
        obtain ⟨o30, h31⟩ := h25
        refine J_last (pc := 76) C dX7_laysAt_76 17 17 rfl (by decide) o30 (sM_17 G S26 (((40 * a0) + (S 16 a1)) + 40) rv28) ?_
        have hok32 := okM_up (k := 17) (j := (((40 * a0) + (S 16 a1)) + 40)) hok27 (show rngM 17 rv28 from hr29)
        exact J_vret (pc := 77) C dX7_laysAt_77 hok32 h31 (by decide) (by decide)
    · have h6 := h6 cb
      refine J_bipush (pc := 15) C dX7_laysAt_15 (by decide) ?_
      refine J_aload_n (pc := 17) C dX7_laysAt_17 rfl ?_
      refine J_get (pc := 18) C dX7_laysAt_18 0 rfl rfl nX7_laysAt_X7 19 (by decide) mX7_laysAt_f57 rfl (v := .ref (G.2.2 16)) rfl ?_
      refine J_iload_n (pc := 21) C dX7_laysAt_21 rfl ?_
      refine J_iald (pc := 22) C dX7_laysAt_22 16 16 rfl (by decide) o1 ?_
      refine J_imul (pc := 23) C dX7_laysAt_23 ?_
      refine J_iload_n (pc := 24) C dX7_laysAt_24 rfl ?_
      refine J_iadd (pc := 25) C dX7_laysAt_25 ?_
      refine J_goto (pc := 26) (tgt := 40) C dX7_laysAt_26 (by decide) ?_
      refine J_istore (pc := 40) C dX7_laysAt_40 (by decide) ?_
      refine J_aload_n (pc := 42) C dX7_laysAt_42 rfl ?_
      refine J_get (pc := 43) C dX7_laysAt_43 0 rfl rfl nX7_laysAt_X7 21 (by decide) mX7_laysAt_f60 rfl (v := .ref (G.2.2 17)) rfl ?_
      refine J_iload (pc := 46) C dX7_laysAt_46 rfl ?_
      refine J_lload_n (pc := 48) C dX7_laysAt_48 rfl ?_
      refine J_c2 (pc := 49) C (J_rS (pc := 49) C (h6 ra2) dX7_laysAt_49 rfl rfl (va_cwS 1 C.1.2.2.2.2 gX7_laysAt_X7_within rfl rfl rfl (by decide +kernel) ⟨Nat.le_of_ble_eq_true rfl, Nat.le_of_ble_eq_true rfl⟩) hok (Nat.le_of_ble_eq_true rfl) ⟨Nat.le_of_ble_eq_true rfl, Nat.le_of_ble_eq_true rfl⟩) (fun E9 S9 ok9 q9 => JX_out C ok9 q9 (by decide) (by decide)) (fun rv36 S34 hr37 hok35 h33 => ?_)
      have h33 := h33 hr37 hok35
      obtain ⟨o38, h39⟩ := h33
      refine J_last (pc := 52) C dX7_laysAt_52 17 17 rfl (by decide) o38 (sM_17 G S34 ((40 * (S 16 a1)) + a0) rv36) ?_
      have hok40 := okM_up (k := 17) (j := ((40 * (S 16 a1)) + a0)) hok35 (show rngM 17 rv36 from hr37)
      refine J_aload_n (pc := 53) C dX7_laysAt_53 rfl ?_
      refine J_get (pc := 54) C dX7_laysAt_54 0 rfl rfl nX7_laysAt_X7 21 (by decide) mX7_laysAt_f60 rfl (v := .ref (G.2.2 17)) rfl ?_
      refine J_iload (pc := 57) C dX7_laysAt_57 rfl ?_
      refine J_iload (pc := 59) C dX7_laysAt_59 rfl ?_
      obtain ⟨h41, h42⟩ := h39
      refine J_if_eq (pc := 61) (tgt := 69) C dX7_laysAt_61 (by decide) ra4 (fun cb => ?_) (fun cb => ?_)
      · have h41 := h41 cb
        refine J_iconst (pc := 69) C dX7_laysAt_69 ?_
        refine J_iadd (pc := 70) C dX7_laysAt_70 ?_
        refine J_lload (pc := 71) C dX7_laysAt_71 rfl ?_
        refine J_c2 (pc := 73) C (J_rS (pc := 73) C (h41 ra3) dX7_laysAt_73 rfl rfl (va_cwS 1 C.1.2.2.2.2 gX7_laysAt_X7_within rfl rfl rfl (by decide +kernel) ⟨Nat.le_of_ble_eq_true rfl, Nat.le_of_ble_eq_true rfl⟩) hok40 (Nat.le_of_ble_eq_true rfl) ⟨Nat.le_of_ble_eq_true rfl, Nat.le_of_ble_eq_true rfl⟩) (fun E9 S9 ok9 q9 => JX_out C ok9 q9 (by decide) (by decide)) (fun rv46 S44 hr47 hok45 h43 => ?_)
        have h43 := h43 hr47 hok45
        obtain ⟨o48, h49⟩ := h43
        refine J_last (pc := 76) C dX7_laysAt_76 17 17 rfl (by decide) o48 (sM_17 G S44 (((40 * (S 16 a1)) + a0) + 1) rv46) ?_
        have hok50 := okM_up (k := 17) (j := (((40 * (S 16 a1)) + a0) + 1)) hok45 (show rngM 17 rv46 from hr47)
        exact J_vret (pc := 77) C dX7_laysAt_77 hok50 h49 (by decide) (by decide)
      · have h42 := h42 cb
        refine J_bipush (pc := 64) C dX7_laysAt_64 (by decide) ?_
        refine J_goto (pc := 66) (tgt := 70) C dX7_laysAt_66 (by decide) ?_
        refine J_iadd (pc := 70) C dX7_laysAt_70 ?_
        refine J_lload (pc := 71) C dX7_laysAt_71 rfl ?_
        refine J_c2 (pc := 73) C (J_rS (pc := 73) C (h42 ra3) dX7_laysAt_73 rfl rfl (va_cwS 1 C.1.2.2.2.2 gX7_laysAt_X7_within rfl rfl rfl (by decide +kernel) ⟨Nat.le_of_ble_eq_true rfl, Nat.le_of_ble_eq_true rfl⟩) hok40 (Nat.le_of_ble_eq_true rfl) ⟨Nat.le_of_ble_eq_true rfl, Nat.le_of_ble_eq_true rfl⟩) (fun E9 S9 ok9 q9 => JX_out C ok9 q9 (by decide) (by decide)) (fun rv54 S52 hr55 hok53 h51 => ?_)
        have h51 := h51 hr55 hok53
        obtain ⟨o56, h57⟩ := h51
        refine J_last (pc := 76) C dX7_laysAt_76 17 17 rfl (by decide) o56 (sM_17 G S52 (((40 * (S 16 a1)) + a0) + 40) rv54) ?_
        have hok58 := okM_up (k := 17) (j := (((40 * (S 16 a1)) + a0) + 40)) hok53 (show rngM 17 rv54 from hr55)
        exact J_vret (pc := 77) C dX7_laysAt_77 hok58 h57 (by decide) (by decide)
def rmX7_laysMatrix : Room := { frames := 2, cells := 0, slots := 0, locals := 51 }
theorem mX7_laysMatrix_f60 : Cond.fieldLink RX7 60 "StressworkModel" "m" "[J" ∈ wsX7_laysMatrix := by decide +kernel
theorem nX7_laysMatrix_X7 : ∀ x ∈ wsX70, x ∈ wsX7_laysMatrix := by decide +kernel
theorem mX7_laysMatrix_f83 : Cond.fieldLink RX7 83 "StressworkModel" "members" "I" ∈ wsX7_laysMatrix := by decide +kernel
theorem mX7_laysMatrix_f35 : Cond.fieldLink RX7 35 "StressworkModel" "isGone" "[Z" ∈ wsX7_laysMatrix := by decide +kernel
theorem mX7_laysMatrix_f50 : Cond.fieldLink RX7 50 "StressworkModel" "atX" "[J" ∈ wsX7_laysMatrix := by decide +kernel
theorem mX7_laysMatrix_f23 : Cond.fieldLink RX7 23 "StressworkModel" "one" "[I" ∈ wsX7_laysMatrix := by decide +kernel
theorem mX7_laysMatrix_f26 : Cond.fieldLink RX7 26 "StressworkModel" "other" "[I" ∈ wsX7_laysMatrix := by decide +kernel
theorem mX7_laysMatrix_f54 : Cond.fieldLink RX7 54 "StressworkModel" "atY" "[J" ∈ wsX7_laysMatrix := by decide +kernel
def M_X7_laysMatrix (a0 a1 : Int) (S : St) (Qr : Int → St → Prop) (Qx : String → St → Prop) : Prop := r32 a0 → r32 a1 → MM 1 wM okM yX7_laysMatrix wsX7_laysMatrix rmX7_laysMatrix (fun G => [.ref (G.2.2 0), iV a0, iV a1]) S Qr Qx
def R_X7_laysMatrix_2 (x1 x2 x3 : Int) (S : St) (Qr : Int → St → Prop) (Qx : String → St → Prop) : Prop := r32 x1 → r32 x2 → r32 x3 → RR 1 wM okM wsX7_laysMatrix rmX7_laysMatrix cX7_laysMatrix 9 RX7 (some .int) [] 0 0 (fun G => [some (.ref (G.2.2 0)), some (iV x1), some (iV x2), some (iV x3), none, none, none, none, none]) (fun G => []) 2 S Qr Qx
def R_X7_laysMatrix_27 (x1 x2 x3 x4 : Int) (S : St) (Qr : Int → St → Prop) (Qx : String → St → Prop) : Prop := r32 x1 → r32 x2 → r32 x3 → r32 x4 → RR 1 wM okM wsX7_laysMatrix rmX7_laysMatrix cX7_laysMatrix 9 RX7 (some .int) [] 0 0 (fun G => [some (.ref (G.2.2 0)), some (iV x1), some (iV x2), some (iV x3), some (iV x4), none, none, none, none]) (fun G => []) 27 S Qr Qx
set_option maxRecDepth 100000 in
set_option maxHeartbeats 4000000 in
theorem vc_X7_laysMatrix {a0 a1 : Int} {S : St} {Qr : Int → St → Prop} {Qx : String → St → Prop} (h : r32 a0 → r32 a1 → okM S → R_X7_laysMatrix_2 a0 a1 0 S Qr Qx) : M_X7_laysMatrix a0 a1 S Qr Qx := by
  intro ra0 ra1
  refine MM_of adM (by decide +kernel) rfl (Lf := fun G => [some (.ref (G.2.2 0)), some (iV a0), some (iV a1), none, none, none, none, none, none]) (fun G => by show _ ≤ _; exact Nat.le_of_ble_eq_true rfl) (fun G => rfl) ?_
  intro p l e s m args below meth c G A C hok
  have h := h ra0 ra1 hok
  replace C : Cx wM cX7_laysMatrix 9 RX7 wsX7_laysMatrix (some .int) [] p l s m args meth c G A := C
  show J wM 9 rmX7_laysMatrix p l e s m args below meth c G A (QQ 1 wM okM G Qr Qx A below args s rmX7_laysMatrix.cells rmX7_laysMatrix.slots) 0 0 S [some (.ref (G.2.2 0)), some (iV a0), some (iV a1), none, none, none, none, none, none] [] 0
  refine J_iconst (pc := 0) C dX7_laysMatrix_0 ?_
  refine J_istore_n (pc := 1) C dX7_laysMatrix_1 (by decide) ?_
  exact J_sub (L1 := [some (.ref (G.2.2 0)), some (iV a0), some (iV a1), some (iV 0), none, none, none, none, none]) ⟨rfl, ⟨rfl, ⟨rfl, ⟨rfl, trivial⟩⟩⟩⟩ (h ra0 ra1 (by decide) p l e s m args below meth c G A C hok)
set_option maxRecDepth 100000 in
set_option maxHeartbeats 4000000 in
theorem vc_X7_laysMatrix_2 {x1 x2 x3 : Int} {S : St} {Qr : Int → St → Prop} {Qx : String → St → Prop} (h : r32 x1 → r32 x2 → r32 x3 → okM S → ((1600 ≤ x3 → R_X7_laysMatrix_27 x1 x2 0 0 S Qr Qx) ∧ (x3 < 1600 → (ix x3 1600 ∧ (r32 (x3 + 1) ∧ R_X7_laysMatrix_2 x1 x2 (x3 + 1) (up S 17 x3 0) Qr Qx))))) : R_X7_laysMatrix_2 x1 x2 x3 S Qr Qx := by
  intro rx1 rx2 rx3
  intro p l e s m args below meth c G A C hok
  have h := h rx1 rx2 rx3 hok
  replace C : Cx wM cX7_laysMatrix 9 RX7 wsX7_laysMatrix (some .int) [] p l s m args meth c G A := C
  show J wM 9 rmX7_laysMatrix p l e s m args below meth c G A (QQ 1 wM okM G Qr Qx A below args s rmX7_laysMatrix.cells rmX7_laysMatrix.slots) 0 0 S [some (.ref (G.2.2 0)), some (iV x1), some (iV x2), some (iV x3), none, none, none, none, none] [] 2
  refine J_iload_n (pc := 2) C dX7_laysMatrix_2 rfl ?_
  refine J_sipush (pc := 3) C dX7_laysMatrix_3 (by decide) ?_
  obtain ⟨h1, h2⟩ := h
  refine J_icmp_ge (pc := 6) (tgt := 22) C dX7_laysMatrix_6 (by decide) rx3 (by decide) (fun cb => ?_) (fun cb => ?_)
  · have h1 := h1 cb
    refine J_iconst (pc := 22) C dX7_laysMatrix_22 ?_
    refine J_istore_n (pc := 23) C dX7_laysMatrix_23 (by decide) ?_
    refine J_iconst (pc := 24) C dX7_laysMatrix_24 ?_
    refine J_istore (pc := 25) C dX7_laysMatrix_25 (by decide) ?_
    exact J_sub (L1 := [some (.ref (G.2.2 0)), some (iV x1), some (iV x2), some (iV 0), some (iV 0), none, none, none, none]) ⟨rfl, ⟨rfl, ⟨rfl, ⟨rfl, ⟨rfl, trivial⟩⟩⟩⟩⟩ (h1 rx1 rx2 (by decide) (by decide) p l e s m args below meth c G A C hok)
  · have h2 := h2 cb
    refine J_aload_n (pc := 9) C dX7_laysMatrix_9 rfl ?_
    refine J_get (pc := 10) C dX7_laysMatrix_10 0 rfl rfl nX7_laysMatrix_X7 21 (by decide) mX7_laysMatrix_f60 rfl (v := .ref (G.2.2 17)) rfl ?_
    refine J_iload_n (pc := 13) C dX7_laysMatrix_13 rfl ?_
    refine J_lconst (pc := 14) C dX7_laysMatrix_14 ?_
    obtain ⟨o3, h4⟩ := h2
    refine J_last (pc := 15) C dX7_laysMatrix_15 17 17 rfl (by decide) o3 (sM_17 G S x3 0) ?_
    have hok5 := okM_up (k := 17) (j := x3) hok (show rngM 17 0 from (by decide : r64 0))
    refine J_iinc (pc := 16) C dX7_laysMatrix_16 rfl (by decide) ?_
    refine J_goto (pc := 19) (tgt := 2) C dX7_laysMatrix_19 (by decide) ?_
    obtain ⟨o6, h7⟩ := h4
    exact J_sub (L1 := [some (.ref (G.2.2 0)), some (iV x1), some (iV x2), some (iV (x3 + 1)), none, none, none, none, none]) ⟨rfl, ⟨rfl, ⟨rfl, ⟨rfl, trivial⟩⟩⟩⟩ (h7 rx1 rx2 o6 p l e s m args below meth c G A C hok5)
set_option maxRecDepth 100000 in
set_option maxHeartbeats 4000000 in
theorem vc_X7_laysMatrix_27 {x1 x2 x3 x4 : Int} {S : St} {Qr : Int → St → Prop} {Qx : String → St → Prop} (h : r32 x1 → r32 x2 → r32 x3 → r32 x4 → okM S → (((S 0 6) ≤ x4 → Qr x3 S) ∧ (x4 < (S 0 6) → (ix x4 40 ∧ (((S 9 x4) ≠ 0 → (r32 (x4 + 1) ∧ R_X7_laysMatrix_27 x1 x2 x3 (x4 + 1) S Qr Qx)) ∧ ((S 9 x4) = 0 → ((x4 = x1 → (r32 (x4 + 1) ∧ R_X7_laysMatrix_27 x1 x2 x3 (x4 + 1) S Qr Qx)) ∧ (x4 ≠ x1 → (ix (S 5 x4) 10 ∧ (ix (S 6 x4) 10 ∧ (r64 ((S 14 (S 5 x4)) - (S 14 (S 6 x4))) ∧ (r64 ((S 15 (S 5 x4)) - (S 15 (S 6 x4))) ∧ M_X7_laysAt x3 (S 5 x4) ((S 14 (S 5 x4)) - (S 14 (S 6 x4))) ((S 15 (S 5 x4)) - (S 15 (S 6 x4))) x2 S (fun _ S22 => okM S22 → (r64 (-((S 14 (S 5 x4)) - (S 14 (S 6 x4)))) ∧ (r64 (-((S 15 (S 5 x4)) - (S 15 (S 6 x4)))) ∧ M_X7_laysAt x3 (S22 6 x4) (-((S 14 (S 5 x4)) - (S 14 (S 6 x4)))) (-((S 15 (S 5 x4)) - (S 15 (S 6 x4)))) x2 S22 (fun _ S31 => okM S31 → (r32 (x3 + 1) ∧ (r32 (x4 + 1) ∧ R_X7_laysMatrix_27 x1 x2 (x3 + 1) (x4 + 1) S31 Qr Qx))) Qx))) Qx)))))))))))) : R_X7_laysMatrix_27 x1 x2 x3 x4 S Qr Qx := by
  intro rx1 rx2 rx3 rx4
  intro p l e s m args below meth c G A C hok
  have h := h rx1 rx2 rx3 rx4 hok
  replace C : Cx wM cX7_laysMatrix 9 RX7 wsX7_laysMatrix (some .int) [] p l s m args meth c G A := C
  show J wM 9 rmX7_laysMatrix p l e s m args below meth c G A (QQ 1 wM okM G Qr Qx A below args s rmX7_laysMatrix.cells rmX7_laysMatrix.slots) 0 0 S [some (.ref (G.2.2 0)), some (iV x1), some (iV x2), some (iV x3), some (iV x4), none, none, none, none] [] 27
  refine J_iload (pc := 27) C dX7_laysMatrix_27 rfl ?_
  refine J_aload_n (pc := 29) C dX7_laysMatrix_29 rfl ?_
  refine J_get (pc := 30) C dX7_laysMatrix_30 0 rfl rfl nX7_laysMatrix_X7 6 (by decide) mX7_laysMatrix_f83 rfl (v := iV (S 0 6)) rfl ?_
  obtain ⟨h1, h2⟩ := h
  refine J_icmp_ge (pc := 33) (tgt := 151) C dX7_laysMatrix_33 (by decide) rx4 (hok 0 6) (fun cb => ?_) (fun cb => ?_)
  · have h1 := h1 cb
    refine J_iload_n (pc := 151) C dX7_laysMatrix_151 rfl ?_
    exact J_iret (pc := 152) C dX7_laysMatrix_152 rx3 hok h1 (by decide) (by decide)
  · have h2 := h2 cb
    refine J_aload_n (pc := 36) C dX7_laysMatrix_36 rfl ?_
    refine J_get (pc := 37) C dX7_laysMatrix_37 0 rfl rfl nX7_laysMatrix_X7 11 (by decide) mX7_laysMatrix_f35 rfl (v := .ref (G.2.2 9)) rfl ?_
    refine J_iload (pc := 40) C dX7_laysMatrix_40 rfl ?_
    obtain ⟨o3, h4⟩ := h2
    refine J_zald (pc := 42) C dX7_laysMatrix_42 9 9 rfl (by decide) o3 ?_
    obtain ⟨h5, h6⟩ := h4
    refine J_if_ne (pc := 43) (tgt := 145) C dX7_laysMatrix_43 (by decide) (r01 (hok 9 x4)) (fun cb => ?_) (fun cb => ?_)
    · have h5 := h5 cb
      refine J_iinc (pc := 145) C dX7_laysMatrix_145 rfl (by decide) ?_
      refine J_goto (pc := 148) (tgt := 27) C dX7_laysMatrix_148 (by decide) ?_
      obtain ⟨o7, h8⟩ := h5
      exact J_sub (L1 := [some (.ref (G.2.2 0)), some (iV x1), some (iV x2), some (iV x3), some (iV (x4 + 1)), none, none, none, none]) ⟨rfl, ⟨rfl, ⟨rfl, ⟨rfl, ⟨rfl, trivial⟩⟩⟩⟩⟩ (h8 rx1 rx2 rx3 o7 p l e s m args below meth c G A C hok)
    · have h6 := h6 cb
      refine J_iload (pc := 46) C dX7_laysMatrix_46 rfl ?_
      refine J_iload_n (pc := 48) C dX7_laysMatrix_48 rfl ?_
      obtain ⟨h9, h10⟩ := h6
      refine J_icmp_eq (pc := 49) (tgt := 145) C dX7_laysMatrix_49 (by decide) rx4 rx1 (fun cb => ?_) (fun cb => ?_)
      · have h9 := h9 cb
        refine J_iinc (pc := 145) C dX7_laysMatrix_145 rfl (by decide) ?_
        refine J_goto (pc := 148) (tgt := 27) C dX7_laysMatrix_148 (by decide) ?_
        obtain ⟨o11, h12⟩ := h9
        exact J_sub (L1 := [some (.ref (G.2.2 0)), some (iV x1), some (iV x2), some (iV x3), some (iV (x4 + 1)), none, none, none, none]) ⟨rfl, ⟨rfl, ⟨rfl, ⟨rfl, ⟨rfl, trivial⟩⟩⟩⟩⟩ (h12 rx1 rx2 rx3 o11 p l e s m args below meth c G A C hok)
      · have h10 := h10 cb
        refine J_aload_n (pc := 52) C dX7_laysMatrix_52 rfl ?_
        refine J_get (pc := 53) C dX7_laysMatrix_53 0 rfl rfl nX7_laysMatrix_X7 17 (by decide) mX7_laysMatrix_f50 rfl (v := .ref (G.2.2 14)) rfl ?_
        refine J_aload_n (pc := 56) C dX7_laysMatrix_56 rfl ?_
        refine J_get (pc := 57) C dX7_laysMatrix_57 0 rfl rfl nX7_laysMatrix_X7 7 (by decide) mX7_laysMatrix_f23 rfl (v := .ref (G.2.2 5)) rfl ?_
        refine J_iload (pc := 60) C dX7_laysMatrix_60 rfl ?_
        refine J_iald (pc := 62) C dX7_laysMatrix_62 5 5 rfl (by decide) o3 ?_
        obtain ⟨o13, h14⟩ := h10
        refine J_lald (pc := 63) C dX7_laysMatrix_63 14 14 rfl (by decide) o13 ?_
        refine J_aload_n (pc := 64) C dX7_laysMatrix_64 rfl ?_
        refine J_get (pc := 65) C dX7_laysMatrix_65 0 rfl rfl nX7_laysMatrix_X7 17 (by decide) mX7_laysMatrix_f50 rfl (v := .ref (G.2.2 14)) rfl ?_
        refine J_aload_n (pc := 68) C dX7_laysMatrix_68 rfl ?_
        refine J_get (pc := 69) C dX7_laysMatrix_69 0 rfl rfl nX7_laysMatrix_X7 8 (by decide) mX7_laysMatrix_f26 rfl (v := .ref (G.2.2 6)) rfl ?_
        refine J_iload (pc := 72) C dX7_laysMatrix_72 rfl ?_
        refine J_iald (pc := 74) C dX7_laysMatrix_74 6 6 rfl (by decide) o3 ?_
        obtain ⟨o15, h16⟩ := h14
        refine J_lald (pc := 75) C dX7_laysMatrix_75 14 14 rfl (by decide) o15 ?_
        refine J_lsub (pc := 76) C dX7_laysMatrix_76 ?_
        refine J_lstore (pc := 77) C dX7_laysMatrix_77 (by decide) ?_
        refine J_aload_n (pc := 79) C dX7_laysMatrix_79 rfl ?_
        refine J_get (pc := 80) C dX7_laysMatrix_80 0 rfl rfl nX7_laysMatrix_X7 18 (by decide) mX7_laysMatrix_f54 rfl (v := .ref (G.2.2 15)) rfl ?_
        refine J_aload_n (pc := 83) C dX7_laysMatrix_83 rfl ?_
        refine J_get (pc := 84) C dX7_laysMatrix_84 0 rfl rfl nX7_laysMatrix_X7 7 (by decide) mX7_laysMatrix_f23 rfl (v := .ref (G.2.2 5)) rfl ?_
        refine J_iload (pc := 87) C dX7_laysMatrix_87 rfl ?_
        refine J_iald (pc := 89) C dX7_laysMatrix_89 5 5 rfl (by decide) o3 ?_
        refine J_lald (pc := 90) C dX7_laysMatrix_90 15 15 rfl (by decide) o13 ?_
        refine J_aload_n (pc := 91) C dX7_laysMatrix_91 rfl ?_
        refine J_get (pc := 92) C dX7_laysMatrix_92 0 rfl rfl nX7_laysMatrix_X7 18 (by decide) mX7_laysMatrix_f54 rfl (v := .ref (G.2.2 15)) rfl ?_
        refine J_aload_n (pc := 95) C dX7_laysMatrix_95 rfl ?_
        refine J_get (pc := 96) C dX7_laysMatrix_96 0 rfl rfl nX7_laysMatrix_X7 8 (by decide) mX7_laysMatrix_f26 rfl (v := .ref (G.2.2 6)) rfl ?_
        refine J_iload (pc := 99) C dX7_laysMatrix_99 rfl ?_
        refine J_iald (pc := 101) C dX7_laysMatrix_101 6 6 rfl (by decide) o3 ?_
        refine J_lald (pc := 102) C dX7_laysMatrix_102 15 15 rfl (by decide) o15 ?_
        refine J_lsub (pc := 103) C dX7_laysMatrix_103 ?_
        refine J_lstore (pc := 104) C dX7_laysMatrix_104 (by decide) ?_
        refine J_aload_n (pc := 106) C dX7_laysMatrix_106 rfl ?_
        refine J_iload_n (pc := 107) C dX7_laysMatrix_107 rfl ?_
        refine J_aload_n (pc := 108) C dX7_laysMatrix_108 rfl ?_
        refine J_get (pc := 109) C dX7_laysMatrix_109 0 rfl rfl nX7_laysMatrix_X7 7 (by decide) mX7_laysMatrix_f23 rfl (v := .ref (G.2.2 5)) rfl ?_
        refine J_iload (pc := 112) C dX7_laysMatrix_112 rfl ?_
        refine J_iald (pc := 114) C dX7_laysMatrix_114 5 5 rfl (by decide) o3 ?_
        refine J_lload (pc := 115) C dX7_laysMatrix_115 rfl ?_
        refine J_lload (pc := 117) C dX7_laysMatrix_117 rfl ?_
        refine J_iload_n (pc := 119) C dX7_laysMatrix_119 rfl ?_
        obtain ⟨o17, h18⟩ := h16
        obtain ⟨o19, h20⟩ := h18
        refine J_c0 (pc := 120) C (J_rV (pc := 120) C (h20 rx3 (hok 5 x4) o17 o19 rx2) dX7_laysMatrix_120 rfl rfl 0 rfl rfl (cwV 5 C.1.2.2.2.2 gX7_laysMatrix_X7_laysAt rfl rfl rfl (by decide +kernel) ⟨Nat.le_of_ble_eq_true rfl, Nat.le_of_ble_eq_true rfl⟩) hok (Nat.le_of_ble_eq_true rfl) ⟨Nat.le_of_ble_eq_true rfl, Nat.le_of_ble_eq_true rfl⟩) (fun E9 S9 ok9 q9 => JX_out C ok9 q9 (by decide) (by decide)) (fun S22 hok23 h21 => ?_)
        have h21 := h21 hok23
        refine J_aload_n (pc := 123) C dX7_laysMatrix_123 rfl ?_
        refine J_iload_n (pc := 124) C dX7_laysMatrix_124 rfl ?_
        refine J_aload_n (pc := 125) C dX7_laysMatrix_125 rfl ?_
        refine J_get (pc := 126) C dX7_laysMatrix_126 0 rfl rfl nX7_laysMatrix_X7 8 (by decide) mX7_laysMatrix_f26 rfl (v := .ref (G.2.2 6)) rfl ?_
        refine J_iload (pc := 129) C dX7_laysMatrix_129 rfl ?_
        refine J_iald (pc := 131) C dX7_laysMatrix_131 6 6 rfl (by decide) o3 ?_
        refine J_lload (pc := 132) C dX7_laysMatrix_132 rfl ?_
        refine J_lneg (pc := 134) C dX7_laysMatrix_134 ?_
        refine J_lload (pc := 135) C dX7_laysMatrix_135 rfl ?_
        refine J_lneg (pc := 137) C dX7_laysMatrix_137 ?_
        refine J_iload_n (pc := 138) C dX7_laysMatrix_138 rfl ?_
        obtain ⟨o26, h27⟩ := h21
        obtain ⟨o28, h29⟩ := h27
        refine J_c0 (pc := 139) C (J_rV (pc := 139) C (h29 rx3 (hok23 6 x4) o26 o28 rx2) dX7_laysMatrix_139 rfl rfl 0 rfl rfl (cwV 5 C.1.2.2.2.2 gX7_laysMatrix_X7_laysAt rfl rfl rfl (by decide +kernel) ⟨Nat.le_of_ble_eq_true rfl, Nat.le_of_ble_eq_true rfl⟩) hok23 (Nat.le_of_ble_eq_true rfl) ⟨Nat.le_of_ble_eq_true rfl, Nat.le_of_ble_eq_true rfl⟩) (fun E9 S9 ok9 q9 => JX_out C ok9 q9 (by decide) (by decide)) (fun S31 hok32 h30 => ?_)
        have h30 := h30 hok32
        refine J_iinc (pc := 142) C dX7_laysMatrix_142 rfl (by decide) ?_
        refine J_iinc (pc := 145) C dX7_laysMatrix_145 rfl (by decide) ?_
        refine J_goto (pc := 148) (tgt := 27) C dX7_laysMatrix_148 (by decide) ?_
        obtain ⟨o35, h36⟩ := h30
        obtain ⟨o37, h38⟩ := h36
        exact J_sub (L1 := [some (.ref (G.2.2 0)), some (iV x1), some (iV x2), some (iV (x3 + 1)), some (iV (x4 + 1)), none, none, none, none]) ⟨rfl, ⟨rfl, ⟨rfl, ⟨rfl, ⟨rfl, trivial⟩⟩⟩⟩⟩ (h38 rx1 rx2 o35 o37 p l e s m args below meth c G A C hok32)
def rmX7_swaps : Room := { frames := 0, cells := 0, slots := 0, locals := 0 }
theorem mX7_swaps_f60 : Cond.fieldLink RX7 60 "StressworkModel" "m" "[J" ∈ wsX7_swaps := by decide +kernel
theorem nX7_swaps_X7 : ∀ x ∈ wsX70, x ∈ wsX7_swaps := by decide +kernel
def M_X7_swaps (a0 a1 : Int) (S : St) (Qr : Int → St → Prop) (Qx : String → St → Prop) : Prop := r32 a0 → r32 a1 → MM 0 wM okM yX7_swaps wsX7_swaps rmX7_swaps (fun G => [.ref (G.2.2 0), iV a0, iV a1]) S Qr Qx
def R_X7_swaps_2 (x1 x2 x3 : Int) (S : St) (Qr : Int → St → Prop) (Qx : String → St → Prop) : Prop := r32 x1 → r32 x2 → r32 x3 → RR 0 wM okM wsX7_swaps rmX7_swaps cX7_swaps 6 RX7 none [] 0 0 (fun G => [some (.ref (G.2.2 0)), some (iV x1), some (iV x2), some (iV x3), none, none]) (fun G => []) 2 S Qr Qx
set_option maxRecDepth 100000 in
set_option maxHeartbeats 4000000 in
theorem vc_X7_swaps {a0 a1 : Int} {S : St} {Qr : Int → St → Prop} {Qx : String → St → Prop} (h : r32 a0 → r32 a1 → okM S → R_X7_swaps_2 a0 a1 0 S Qr Qx) : M_X7_swaps a0 a1 S Qr Qx := by
  intro ra0 ra1
  refine MM_of adM (by decide +kernel) rfl (Lf := fun G => [some (.ref (G.2.2 0)), some (iV a0), some (iV a1), none, none, none]) (fun G => by show _ ≤ _; exact Nat.le_of_ble_eq_true rfl) (fun G => rfl) ?_
  intro p l e s m args below meth c G A C hok
  have h := h ra0 ra1 hok
  replace C : Cx wM cX7_swaps 6 RX7 wsX7_swaps none [] p l s m args meth c G A := C
  show J wM 6 rmX7_swaps p l e s m args below meth c G A (QQ 0 wM okM G Qr Qx A below args s rmX7_swaps.cells rmX7_swaps.slots) 0 0 S [some (.ref (G.2.2 0)), some (iV a0), some (iV a1), none, none, none] [] 0
  refine J_iconst (pc := 0) C dX7_swaps_0 ?_
  refine J_istore_n (pc := 1) C dX7_swaps_1 (by decide) ?_
  exact J_sub (L1 := [some (.ref (G.2.2 0)), some (iV a0), some (iV a1), some (iV 0), none, none]) ⟨rfl, ⟨rfl, ⟨rfl, ⟨rfl, trivial⟩⟩⟩⟩ (h ra0 ra1 (by decide) p l e s m args below meth c G A C hok)
set_option maxRecDepth 100000 in
set_option maxHeartbeats 4000000 in
theorem vc_X7_swaps_2 {x1 x2 x3 : Int} {S : St} {Qr : Int → St → Prop} {Qx : String → St → Prop} (h : r32 x1 → r32 x2 → r32 x3 → okM S → ((40 ≤ x3 → Qr 0 S) ∧ (x3 < 40 → (ix ((40 * x1) + x3) 1600 ∧ (ix ((40 * x2) + x3) 1600 ∧ (r32 (x3 + 1) ∧ R_X7_swaps_2 x1 x2 (x3 + 1) (up (up S 17 ((40 * x1) + x3) (S 17 ((40 * x2) + x3))) 17 ((40 * x2) + x3) (S 17 ((40 * x1) + x3))) Qr Qx)))))) : R_X7_swaps_2 x1 x2 x3 S Qr Qx := by
  intro rx1 rx2 rx3
  intro p l e s m args below meth c G A C hok
  have h := h rx1 rx2 rx3 hok
  replace C : Cx wM cX7_swaps 6 RX7 wsX7_swaps none [] p l s m args meth c G A := C
  show J wM 6 rmX7_swaps p l e s m args below meth c G A (QQ 0 wM okM G Qr Qx A below args s rmX7_swaps.cells rmX7_swaps.slots) 0 0 S [some (.ref (G.2.2 0)), some (iV x1), some (iV x2), some (iV x3), none, none] [] 2
  refine J_iload_n (pc := 2) C dX7_swaps_2 rfl ?_
  refine J_bipush (pc := 3) C dX7_swaps_3 (by decide) ?_
  obtain ⟨h1, h2⟩ := h
  refine J_icmp_ge (pc := 5) (tgt := 62) C dX7_swaps_5 (by decide) rx3 (by decide) (fun cb => ?_) (fun cb => ?_)
  · have h1 := h1 cb
    exact J_vret (pc := 62) C dX7_swaps_62 hok h1 (by decide) (by decide)
  · have h2 := h2 cb
    refine J_aload_n (pc := 8) C dX7_swaps_8 rfl ?_
    refine J_get (pc := 9) C dX7_swaps_9 0 rfl rfl nX7_swaps_X7 21 (by decide) mX7_swaps_f60 rfl (v := .ref (G.2.2 17)) rfl ?_
    refine J_bipush (pc := 12) C dX7_swaps_12 (by decide) ?_
    refine J_iload_n (pc := 14) C dX7_swaps_14 rfl ?_
    refine J_imul (pc := 15) C dX7_swaps_15 ?_
    refine J_iload_n (pc := 16) C dX7_swaps_16 rfl ?_
    refine J_iadd (pc := 17) C dX7_swaps_17 ?_
    obtain ⟨o3, h4⟩ := h2
    refine J_lald (pc := 18) C dX7_swaps_18 17 17 rfl (by decide) o3 ?_
    refine J_lstore (pc := 19) C dX7_swaps_19 (by decide) ?_
    refine J_aload_n (pc := 21) C dX7_swaps_21 rfl ?_
    refine J_get (pc := 22) C dX7_swaps_22 0 rfl rfl nX7_swaps_X7 21 (by decide) mX7_swaps_f60 rfl (v := .ref (G.2.2 17)) rfl ?_
    refine J_bipush (pc := 25) C dX7_swaps_25 (by decide) ?_
    refine J_iload_n (pc := 27) C dX7_swaps_27 rfl ?_
    refine J_imul (pc := 28) C dX7_swaps_28 ?_
    refine J_iload_n (pc := 29) C dX7_swaps_29 rfl ?_
    refine J_iadd (pc := 30) C dX7_swaps_30 ?_
    refine J_aload_n (pc := 31) C dX7_swaps_31 rfl ?_
    refine J_get (pc := 32) C dX7_swaps_32 0 rfl rfl nX7_swaps_X7 21 (by decide) mX7_swaps_f60 rfl (v := .ref (G.2.2 17)) rfl ?_
    refine J_bipush (pc := 35) C dX7_swaps_35 (by decide) ?_
    refine J_iload_n (pc := 37) C dX7_swaps_37 rfl ?_
    refine J_imul (pc := 38) C dX7_swaps_38 ?_
    refine J_iload_n (pc := 39) C dX7_swaps_39 rfl ?_
    refine J_iadd (pc := 40) C dX7_swaps_40 ?_
    obtain ⟨o5, h6⟩ := h4
    refine J_lald (pc := 41) C dX7_swaps_41 17 17 rfl (by decide) o5 ?_
    refine J_last (pc := 42) C dX7_swaps_42 17 17 rfl (by decide) o3 (sM_17 G S ((40 * x1) + x3) (S 17 ((40 * x2) + x3))) ?_
    have hok7 := okM_up (k := 17) (j := ((40 * x1) + x3)) hok (show rngM 17 (S 17 ((40 * x2) + x3)) from (hok 17 ((40 * x2) + x3)))
    refine J_aload_n (pc := 43) C dX7_swaps_43 rfl ?_
    refine J_get (pc := 44) C dX7_swaps_44 0 rfl rfl nX7_swaps_X7 21 (by decide) mX7_swaps_f60 rfl (v := .ref (G.2.2 17)) rfl ?_
    refine J_bipush (pc := 47) C dX7_swaps_47 (by decide) ?_
    refine J_iload_n (pc := 49) C dX7_swaps_49 rfl ?_
    refine J_imul (pc := 50) C dX7_swaps_50 ?_
    refine J_iload_n (pc := 51) C dX7_swaps_51 rfl ?_
    refine J_iadd (pc := 52) C dX7_swaps_52 ?_
    refine J_lload (pc := 53) C dX7_swaps_53 rfl ?_
    refine J_last (pc := 55) C dX7_swaps_55 17 17 rfl (by decide) o5 (sM_17 G (up S 17 ((40 * x1) + x3) (S 17 ((40 * x2) + x3))) ((40 * x2) + x3) (S 17 ((40 * x1) + x3))) ?_
    have hok8 := okM_up (k := 17) (j := ((40 * x2) + x3)) hok7 (show rngM 17 (S 17 ((40 * x1) + x3)) from (hok 17 ((40 * x1) + x3)))
    refine J_iinc (pc := 56) C dX7_swaps_56 rfl (by decide) ?_
    refine J_goto (pc := 59) (tgt := 2) C dX7_swaps_59 (by decide) ?_
    obtain ⟨o9, h10⟩ := h6
    exact J_sub (L1 := [some (.ref (G.2.2 0)), some (iV x1), some (iV x2), some (iV (x3 + 1)), none, none]) ⟨rfl, ⟨rfl, ⟨rfl, ⟨rfl, trivial⟩⟩⟩⟩ (h10 rx1 rx2 o9 p l e s m args below meth c G A C hok8)
def rmX7_inverse : Room := { frames := 0, cells := 0, slots := 0, locals := 0 }
theorem mX7_inverse_c117 : Cond.constantLong RX7 117 (1000001) ∈ wsX7_inverse := by decide +kernel
theorem mX7_inverse_c119 : Cond.constantLong RX7 119 (2) ∈ wsX7_inverse := by decide +kernel
theorem mX7_inverse_c115 : Cond.constantLong RX7 115 (1000003) ∈ wsX7_inverse := by decide +kernel
def M_X7_inverse (a0 : Int) (S : St) (Qr : Int → St → Prop) (Qx : String → St → Prop) : Prop := r64 a0 → MM 2 wM okM yX7_inverse wsX7_inverse rmX7_inverse (fun G => [lV a0]) S Qr Qx
def R_X7_inverse_10 (x2 x4 x6 : Int) (S : St) (Qr : Int → St → Prop) (Qx : String → St → Prop) : Prop := r64 x2 → r64 x4 → r64 x6 → RR 2 wM okM wsX7_inverse rmX7_inverse cX7_inverse 8 RX7 (some .long) [] 0 0 (fun G => [none, none, some (lV x2), none, some (lV x4), none, some (lV x6), none]) (fun G => []) 10 S Qr Qx
set_option maxRecDepth 100000 in
set_option maxHeartbeats 4000000 in
theorem vc_X7_inverse {a0 : Int} {S : St} {Qr : Int → St → Prop} {Qx : String → St → Prop} (h : r64 a0 → okM S → R_X7_inverse_10 1 a0 1000001 S Qr Qx) : M_X7_inverse a0 S Qr Qx := by
  intro ra0
  refine MM_of adM (by decide +kernel) rfl (Lf := fun G => [some (lV a0), none, none, none, none, none, none, none]) (fun G => by show _ ≤ _; exact Nat.le_of_ble_eq_true rfl) (fun G => rfl) ?_
  intro p l e s m args below meth c G A C hok
  have h := h ra0 hok
  replace C : Cx wM cX7_inverse 8 RX7 wsX7_inverse (some .long) [] p l s m args meth c G A := C
  show J wM 8 rmX7_inverse p l e s m args below meth c G A (QQ 2 wM okM G Qr Qx A below args s rmX7_inverse.cells rmX7_inverse.slots) 0 0 S [some (lV a0), none, none, none, none, none, none, none] [] 0
  refine J_lconst (pc := 0) C dX7_inverse_0 ?_
  refine J_lstore_n (pc := 1) C dX7_inverse_1 (by decide) ?_
  refine J_lload_n (pc := 2) C dX7_inverse_2 rfl ?_
  refine J_lstore (pc := 3) C dX7_inverse_3 (by decide) ?_
  refine J_ldc2 (pc := 5) (z := 1000001) C mX7_inverse_c117 (by decide) dX7_inverse_5 ?_
  refine J_lstore (pc := 8) C dX7_inverse_8 (by decide) ?_
  exact J_sub (L1 := [none, none, some (lV 1), none, some (lV a0), none, some (lV 1000001), none]) ⟨rfl, ⟨rfl, ⟨rfl, trivial⟩⟩⟩ (h (by decide) ra0 (by decide) p l e s m args below meth c G A C hok)
set_option maxRecDepth 100000 in
set_option maxHeartbeats 4000000 in
theorem vc_X7_inverse_10 {x2 x4 x6 : Int} {S : St} {Qr : Int → St → Prop} {Qx : String → St → Prop} (h : r64 x2 → r64 x4 → r64 x6 → okM S → ((x6 ≤ 0 → Qr x2 S) ∧ (0 < x6 → (r64 (Int.tmod x6 2) ∧ (((Int.tmod x6 2) ≠ 1 → (r64 (x4 * x4) ∧ (r64 (Int.tmod (x4 * x4) 1000003) ∧ (r64 (Int.tdiv x6 2) ∧ R_X7_inverse_10 x2 (Int.tmod (x4 * x4) 1000003) (Int.tdiv x6 2) S Qr Qx)))) ∧ ((Int.tmod x6 2) = 1 → (r64 (x2 * x4) ∧ (r64 (x4 * x4) ∧ (r64 (Int.tmod (x2 * x4) 1000003) ∧ (r64 (Int.tmod (x4 * x4) 1000003) ∧ (r64 (Int.tdiv x6 2) ∧ R_X7_inverse_10 (Int.tmod (x2 * x4) 1000003) (Int.tmod (x4 * x4) 1000003) (Int.tdiv x6 2) S Qr Qx))))))))))) : R_X7_inverse_10 x2 x4 x6 S Qr Qx := by
  intro rx2 rx4 rx6
  intro p l e s m args below meth c G A C hok
  have h := h rx2 rx4 rx6 hok
  replace C : Cx wM cX7_inverse 8 RX7 wsX7_inverse (some .long) [] p l s m args meth c G A := C
  show J wM 8 rmX7_inverse p l e s m args below meth c G A (QQ 2 wM okM G Qr Qx A below args s rmX7_inverse.cells rmX7_inverse.slots) 0 0 S [none, none, some (lV x2), none, some (lV x4), none, some (lV x6), none] [] 10
  refine J_lload (pc := 10) C dX7_inverse_10 rfl ?_
  refine J_lconst (pc := 12) C dX7_inverse_12 ?_
  obtain ⟨h1, h2⟩ := h
  refine J_lcmp_le (pc := 13) (tgt := 63) C dX7_inverse_13 dX7_inverse_14 (by decide) rx6 (by decide) (fun cb => ?_) (fun cb => ?_)
  · have h1 := h1 cb
    refine J_lload_n (pc := 63) C dX7_inverse_63 rfl ?_
    exact J_lret (pc := 64) C dX7_inverse_64 rx2 hok h1 (by decide) (by decide)
  · have h2 := h2 cb
    refine J_lload (pc := 17) C dX7_inverse_17 rfl ?_
    refine J_ldc2 (pc := 19) (z := 2) C mX7_inverse_c119 (by decide) dX7_inverse_19 ?_
    refine J_lrem (pc := 22) C dX7_inverse_22 rx6 (by decide) (by decide) ?_
    refine J_lconst (pc := 23) C dX7_inverse_23 ?_
    obtain ⟨o3, h4⟩ := h2
    obtain ⟨h5, h6⟩ := h4
    refine J_lcmp_ne (pc := 24) (tgt := 39) C dX7_inverse_24 dX7_inverse_25 (by decide) o3 (by decide) (fun cb => ?_) (fun cb => ?_)
    · have h5 := h5 cb
      refine J_lload_n (pc := 39) C dX7_inverse_39 rfl ?_
      refine J_lstore_n (pc := 40) C dX7_inverse_40 (by decide) ?_
      refine J_lload (pc := 41) C dX7_inverse_41 rfl ?_
      refine J_lload (pc := 43) C dX7_inverse_43 rfl ?_
      refine J_lmul (pc := 45) C dX7_inverse_45 ?_
      refine J_ldc2 (pc := 46) (z := 1000003) C mX7_inverse_c115 (by decide) dX7_inverse_46 ?_
      obtain ⟨o7, h8⟩ := h5
      refine J_lrem (pc := 49) C dX7_inverse_49 o7 (by decide) (by decide) ?_
      refine J_lstore (pc := 50) C dX7_inverse_50 (by decide) ?_
      refine J_lload (pc := 52) C dX7_inverse_52 rfl ?_
      refine J_ldc2 (pc := 54) (z := 2) C mX7_inverse_c119 (by decide) dX7_inverse_54 ?_
      refine J_ldiv (pc := 57) C dX7_inverse_57 rx6 (by decide) (by decide) ?_
      refine J_lstore (pc := 58) C dX7_inverse_58 (by decide) ?_
      refine J_goto (pc := 60) (tgt := 10) C dX7_inverse_60 (by decide) ?_
      obtain ⟨o9, h10⟩ := h8
      obtain ⟨o11, h12⟩ := h10
      exact J_sub (L1 := [none, none, some (lV x2), none, some (lV (Int.tmod (x4 * x4) 1000003)), none, some (lV (Int.tdiv x6 2)), none]) ⟨rfl, ⟨rfl, ⟨rfl, trivial⟩⟩⟩ (h12 rx2 o9 o11 p l e s m args below meth c G A C hok)
    · have h6 := h6 cb
      refine J_lload_n (pc := 28) C dX7_inverse_28 rfl ?_
      refine J_lload (pc := 29) C dX7_inverse_29 rfl ?_
      refine J_lmul (pc := 31) C dX7_inverse_31 ?_
      refine J_ldc2 (pc := 32) (z := 1000003) C mX7_inverse_c115 (by decide) dX7_inverse_32 ?_
      obtain ⟨o13, h14⟩ := h6
      refine J_lrem (pc := 35) C dX7_inverse_35 o13 (by decide) (by decide) ?_
      refine J_goto (pc := 36) (tgt := 40) C dX7_inverse_36 (by decide) ?_
      refine J_lstore_n (pc := 40) C dX7_inverse_40 (by decide) ?_
      refine J_lload (pc := 41) C dX7_inverse_41 rfl ?_
      refine J_lload (pc := 43) C dX7_inverse_43 rfl ?_
      refine J_lmul (pc := 45) C dX7_inverse_45 ?_
      refine J_ldc2 (pc := 46) (z := 1000003) C mX7_inverse_c115 (by decide) dX7_inverse_46 ?_
      obtain ⟨o15, h16⟩ := h14
      refine J_lrem (pc := 49) C dX7_inverse_49 o15 (by decide) (by decide) ?_
      refine J_lstore (pc := 50) C dX7_inverse_50 (by decide) ?_
      refine J_lload (pc := 52) C dX7_inverse_52 rfl ?_
      refine J_ldc2 (pc := 54) (z := 2) C mX7_inverse_c119 (by decide) dX7_inverse_54 ?_
      refine J_ldiv (pc := 57) C dX7_inverse_57 rx6 (by decide) (by decide) ?_
      refine J_lstore (pc := 58) C dX7_inverse_58 (by decide) ?_
      refine J_goto (pc := 60) (tgt := 10) C dX7_inverse_60 (by decide) ?_
      obtain ⟨o17, h18⟩ := h16
      obtain ⟨o19, h20⟩ := h18
      obtain ⟨o21, h22⟩ := h20
      exact J_sub (L1 := [none, none, some (lV (Int.tmod (x2 * x4) 1000003)), none, some (lV (Int.tmod (x4 * x4) 1000003)), none, some (lV (Int.tdiv x6 2)), none]) ⟨rfl, ⟨rfl, ⟨rfl, trivial⟩⟩⟩ (h22 o17 o19 o21 p l e s m args below meth c G A C hok)
def rmX7_clears : Room := { frames := 1, cells := 0, slots := 0, locals := 27 }
theorem mX7_clears_f60 : Cond.fieldLink RX7 60 "StressworkModel" "m" "[J" ∈ wsX7_clears := by decide +kernel
theorem nX7_clears_X7 : ∀ x ∈ wsX70, x ∈ wsX7_clears := by decide +kernel
theorem mX7_clears_c115 : Cond.constantLong RX7 115 (1000003) ∈ wsX7_clears := by decide +kernel
def M_X7_clears (a0 a1 a2 : Int) (S : St) (Qr : Int → St → Prop) (Qx : String → St → Prop) : Prop := r32 a0 → r32 a1 → r32 a2 → MM 0 wM okM yX7_clears wsX7_clears rmX7_clears (fun G => [.ref (G.2.2 0), iV a0, iV a1, iV a2]) S Qr Qx
def R_X7_clears_19 (x1 x2 x3 x4 x6 : Int) (S : St) (Qr : Int → St → Prop) (Qx : String → St → Prop) : Prop := r32 x1 → r32 x2 → r32 x3 → r64 x4 → r32 x6 → RR 0 wM okM wsX7_clears rmX7_clears cX7_clears 10 RX7 none [] 0 0 (fun G => [some (.ref (G.2.2 0)), some (iV x1), some (iV x2), some (iV x3), some (lV x4), none, some (iV x6), none, none, none]) (fun G => []) 19 S Qr Qx
def R_X7_clears_66 (x1 x2 x3 x6 : Int) (S : St) (Qr : Int → St → Prop) (Qx : String → St → Prop) : Prop := r32 x1 → r32 x2 → r32 x3 → r32 x6 → RR 0 wM okM wsX7_clears rmX7_clears cX7_clears 10 RX7 none [] 0 0 (fun G => [some (.ref (G.2.2 0)), some (iV x1), some (iV x2), some (iV x3), none, none, some (iV x6), none, none, none]) (fun G => []) 66 S Qr Qx
def R_X7_clears_89 (x1 x2 x3 x6 x7 x9 : Int) (S : St) (Qr : Int → St → Prop) (Qx : String → St → Prop) : Prop := r32 x1 → r32 x2 → r32 x3 → r32 x6 → r64 x7 → r32 x9 → RR 0 wM okM wsX7_clears rmX7_clears cX7_clears 10 RX7 none [] 0 0 (fun G => [some (.ref (G.2.2 0)), some (iV x1), some (iV x2), some (iV x3), none, none, some (iV x6), some (lV x7), none, some (iV x9)]) (fun G => []) 89 S Qr Qx
set_option maxRecDepth 100000 in
set_option maxHeartbeats 4000000 in
theorem vc_X7_clears {a0 a1 a2 : Int} {S : St} {Qr : Int → St → Prop} {Qx : String → St → Prop} (h : r32 a0 → r32 a1 → r32 a2 → okM S → (ix ((40 * a0) + a1) 1600 ∧ M_X7_inverse (S 17 ((40 * a0) + a1)) S (fun rv6 S4 => r64 rv6 → okM S4 → R_X7_clears_19 a0 a1 a2 rv6 0 S4 Qr Qx) Qx)) : M_X7_clears a0 a1 a2 S Qr Qx := by
  intro ra0 ra1 ra2
  refine MM_of adM (by decide +kernel) rfl (Lf := fun G => [some (.ref (G.2.2 0)), some (iV a0), some (iV a1), some (iV a2), none, none, none, none, none, none]) (fun G => by show _ ≤ _; exact Nat.le_of_ble_eq_true rfl) (fun G => rfl) ?_
  intro p l e s m args below meth c G A C hok
  have h := h ra0 ra1 ra2 hok
  replace C : Cx wM cX7_clears 10 RX7 wsX7_clears none [] p l s m args meth c G A := C
  show J wM 10 rmX7_clears p l e s m args below meth c G A (QQ 0 wM okM G Qr Qx A below args s rmX7_clears.cells rmX7_clears.slots) 0 0 S [some (.ref (G.2.2 0)), some (iV a0), some (iV a1), some (iV a2), none, none, none, none, none, none] [] 0
  refine J_aload_n (pc := 0) C dX7_clears_0 rfl ?_
  refine J_get (pc := 1) C dX7_clears_1 0 rfl rfl nX7_clears_X7 21 (by decide) mX7_clears_f60 rfl (v := .ref (G.2.2 17)) rfl ?_
  refine J_bipush (pc := 4) C dX7_clears_4 (by decide) ?_
  refine J_iload_n (pc := 6) C dX7_clears_6 rfl ?_
  refine J_imul (pc := 7) C dX7_clears_7 ?_
  refine J_iload_n (pc := 8) C dX7_clears_8 rfl ?_
  refine J_iadd (pc := 9) C dX7_clears_9 ?_
  obtain ⟨o1, h2⟩ := h
  refine J_lald (pc := 10) C dX7_clears_10 17 17 rfl (by decide) o1 ?_
  refine J_c2 (pc := 11) C (J_rS (pc := 11) C (h2 (hok 17 ((40 * a0) + a1))) dX7_clears_11 rfl rfl (va_cwS 1 C.1.2.2.2.2 gX7_clears_X7_inverse rfl rfl rfl (by decide +kernel) ⟨Nat.le_of_ble_eq_true rfl, Nat.le_of_ble_eq_true rfl⟩) hok (Nat.le_of_ble_eq_true rfl) ⟨Nat.le_of_ble_eq_true rfl, Nat.le_of_ble_eq_true rfl⟩) (fun E9 S9 ok9 q9 => JX_out C ok9 q9 (by decide) (by decide)) (fun rv6 S4 hr7 hok5 h3 => ?_)
  have h3 := h3 hr7 hok5
  refine J_lstore (pc := 14) C dX7_clears_14 (by decide) ?_
  refine J_iconst (pc := 16) C dX7_clears_16 ?_
  refine J_istore (pc := 17) C dX7_clears_17 (by decide) ?_
  exact J_sub (L1 := [some (.ref (G.2.2 0)), some (iV a0), some (iV a1), some (iV a2), some (lV rv6), none, some (iV 0), none, none, none]) ⟨rfl, ⟨rfl, ⟨rfl, ⟨rfl, ⟨rfl, ⟨rfl, trivial⟩⟩⟩⟩⟩⟩ (h3 ra0 ra1 ra2 hr7 (by decide) p l e s m args below meth c G A C hok5)
set_option maxRecDepth 100000 in
set_option maxHeartbeats 4000000 in
theorem vc_X7_clears_19 {x1 x2 x3 x4 x6 : Int} {S : St} {Qr : Int → St → Prop} {Qx : String → St → Prop} (h : r32 x1 → r32 x2 → r32 x3 → r64 x4 → r32 x6 → okM S → ((40 ≤ x6 → R_X7_clears_66 x1 x2 x3 0 S Qr Qx) ∧ (x6 < 40 → (ix ((40 * x1) + x6) 1600 ∧ (r64 ((S 17 ((40 * x1) + x6)) * x4) ∧ (r64 (Int.tmod ((S 17 ((40 * x1) + x6)) * x4) 1000003) ∧ (r32 (x6 + 1) ∧ R_X7_clears_19 x1 x2 x3 x4 (x6 + 1) (up S 17 ((40 * x1) + x6) (Int.tmod ((S 17 ((40 * x1) + x6)) * x4) 1000003)) Qr Qx))))))) : R_X7_clears_19 x1 x2 x3 x4 x6 S Qr Qx := by
  intro rx1 rx2 rx3 rx4 rx6
  intro p l e s m args below meth c G A C hok
  have h := h rx1 rx2 rx3 rx4 rx6 hok
  replace C : Cx wM cX7_clears 10 RX7 wsX7_clears none [] p l s m args meth c G A := C
  show J wM 10 rmX7_clears p l e s m args below meth c G A (QQ 0 wM okM G Qr Qx A below args s rmX7_clears.cells rmX7_clears.slots) 0 0 S [some (.ref (G.2.2 0)), some (iV x1), some (iV x2), some (iV x3), some (lV x4), none, some (iV x6), none, none, none] [] 19
  refine J_iload (pc := 19) C dX7_clears_19 rfl ?_
  refine J_bipush (pc := 21) C dX7_clears_21 (by decide) ?_
  obtain ⟨h1, h2⟩ := h
  refine J_icmp_ge (pc := 23) (tgt := 63) C dX7_clears_23 (by decide) rx6 (by decide) (fun cb => ?_) (fun cb => ?_)
  · have h1 := h1 cb
    refine J_iconst (pc := 63) C dX7_clears_63 ?_
    refine J_istore (pc := 64) C dX7_clears_64 (by decide) ?_
    exact J_sub (L1 := [some (.ref (G.2.2 0)), some (iV x1), some (iV x2), some (iV x3), none, none, some (iV 0), none, none, none]) ⟨rfl, ⟨rfl, ⟨rfl, ⟨rfl, ⟨rfl, trivial⟩⟩⟩⟩⟩ (h1 rx1 rx2 rx3 (by decide) p l e s m args below meth c G A C hok)
  · have h2 := h2 cb
    refine J_aload_n (pc := 26) C dX7_clears_26 rfl ?_
    refine J_get (pc := 27) C dX7_clears_27 0 rfl rfl nX7_clears_X7 21 (by decide) mX7_clears_f60 rfl (v := .ref (G.2.2 17)) rfl ?_
    refine J_bipush (pc := 30) C dX7_clears_30 (by decide) ?_
    refine J_iload_n (pc := 32) C dX7_clears_32 rfl ?_
    refine J_imul (pc := 33) C dX7_clears_33 ?_
    refine J_iload (pc := 34) C dX7_clears_34 rfl ?_
    refine J_iadd (pc := 36) C dX7_clears_36 ?_
    refine J_aload_n (pc := 37) C dX7_clears_37 rfl ?_
    refine J_get (pc := 38) C dX7_clears_38 0 rfl rfl nX7_clears_X7 21 (by decide) mX7_clears_f60 rfl (v := .ref (G.2.2 17)) rfl ?_
    refine J_bipush (pc := 41) C dX7_clears_41 (by decide) ?_
    refine J_iload_n (pc := 43) C dX7_clears_43 rfl ?_
    refine J_imul (pc := 44) C dX7_clears_44 ?_
    refine J_iload (pc := 45) C dX7_clears_45 rfl ?_
    refine J_iadd (pc := 47) C dX7_clears_47 ?_
    obtain ⟨o3, h4⟩ := h2
    refine J_lald (pc := 48) C dX7_clears_48 17 17 rfl (by decide) o3 ?_
    refine J_lload (pc := 49) C dX7_clears_49 rfl ?_
    refine J_lmul (pc := 51) C dX7_clears_51 ?_
    refine J_ldc2 (pc := 52) (z := 1000003) C mX7_clears_c115 (by decide) dX7_clears_52 ?_
    obtain ⟨o5, h6⟩ := h4
    refine J_lrem (pc := 55) C dX7_clears_55 o5 (by decide) (by decide) ?_
    obtain ⟨o7, h8⟩ := h6
    refine J_last (pc := 56) C dX7_clears_56 17 17 rfl (by decide) o3 (sM_17 G S ((40 * x1) + x6) (Int.tmod ((S 17 ((40 * x1) + x6)) * x4) 1000003)) ?_
    have hok9 := okM_up (k := 17) (j := ((40 * x1) + x6)) hok (show rngM 17 (Int.tmod ((S 17 ((40 * x1) + x6)) * x4) 1000003) from o7)
    refine J_iinc (pc := 57) C dX7_clears_57 rfl (by decide) ?_
    refine J_goto (pc := 60) (tgt := 19) C dX7_clears_60 (by decide) ?_
    obtain ⟨o10, h11⟩ := h8
    exact J_sub (L1 := [some (.ref (G.2.2 0)), some (iV x1), some (iV x2), some (iV x3), some (lV x4), none, some (iV (x6 + 1)), none, none, none]) ⟨rfl, ⟨rfl, ⟨rfl, ⟨rfl, ⟨rfl, ⟨rfl, trivial⟩⟩⟩⟩⟩⟩ (h11 rx1 rx2 rx3 rx4 o10 p l e s m args below meth c G A C hok9)
set_option maxRecDepth 100000 in
set_option maxHeartbeats 4000000 in
theorem vc_X7_clears_66 {x1 x2 x3 x6 : Int} {S : St} {Qr : Int → St → Prop} {Qx : String → St → Prop} (h : r32 x1 → r32 x2 → r32 x3 → r32 x6 → okM S → ((x3 ≤ x6 → Qr 0 S) ∧ (x6 < x3 → (ix ((40 * x6) + x2) 1600 ∧ R_X7_clears_89 x1 x2 x3 x6 (S 17 ((40 * x6) + x2)) 0 S Qr Qx)))) : R_X7_clears_66 x1 x2 x3 x6 S Qr Qx := by
  intro rx1 rx2 rx3 rx6
  intro p l e s m args below meth c G A C hok
  have h := h rx1 rx2 rx3 rx6 hok
  replace C : Cx wM cX7_clears 10 RX7 wsX7_clears none [] p l s m args meth c G A := C
  show J wM 10 rmX7_clears p l e s m args below meth c G A (QQ 0 wM okM G Qr Qx A below args s rmX7_clears.cells rmX7_clears.slots) 0 0 S [some (.ref (G.2.2 0)), some (iV x1), some (iV x2), some (iV x3), none, none, some (iV x6), none, none, none] [] 66
  refine J_iload (pc := 66) C dX7_clears_66 rfl ?_
  refine J_iload_n (pc := 68) C dX7_clears_68 rfl ?_
  obtain ⟨h1, h2⟩ := h
  refine J_icmp_ge (pc := 69) (tgt := 170) C dX7_clears_69 (by decide) rx6 rx3 (fun cb => ?_) (fun cb => ?_)
  · have h1 := h1 cb
    exact J_vret (pc := 170) C dX7_clears_170 hok h1 (by decide) (by decide)
  · have h2 := h2 cb
    refine J_aload_n (pc := 72) C dX7_clears_72 rfl ?_
    refine J_get (pc := 73) C dX7_clears_73 0 rfl rfl nX7_clears_X7 21 (by decide) mX7_clears_f60 rfl (v := .ref (G.2.2 17)) rfl ?_
    refine J_bipush (pc := 76) C dX7_clears_76 (by decide) ?_
    refine J_iload (pc := 78) C dX7_clears_78 rfl ?_
    refine J_imul (pc := 80) C dX7_clears_80 ?_
    refine J_iload_n (pc := 81) C dX7_clears_81 rfl ?_
    refine J_iadd (pc := 82) C dX7_clears_82 ?_
    obtain ⟨o3, h4⟩ := h2
    refine J_lald (pc := 83) C dX7_clears_83 17 17 rfl (by decide) o3 ?_
    refine J_lstore (pc := 84) C dX7_clears_84 (by decide) ?_
    refine J_iconst (pc := 86) C dX7_clears_86 ?_
    refine J_istore (pc := 87) C dX7_clears_87 (by decide) ?_
    exact J_sub (L1 := [some (.ref (G.2.2 0)), some (iV x1), some (iV x2), some (iV x3), none, none, some (iV x6), some (lV (S 17 ((40 * x6) + x2))), none, some (iV 0)]) ⟨rfl, ⟨rfl, ⟨rfl, ⟨rfl, ⟨rfl, ⟨rfl, ⟨rfl, trivial⟩⟩⟩⟩⟩⟩⟩ (h4 rx1 rx2 rx3 rx6 (hok 17 ((40 * x6) + x2)) (by decide) p l e s m args below meth c G A C hok)
set_option maxRecDepth 100000 in
set_option maxHeartbeats 4000000 in
theorem vc_X7_clears_89 {x1 x2 x3 x6 x7 x9 : Int} {S : St} {Qr : Int → St → Prop} {Qx : String → St → Prop} (h : r32 x1 → r32 x2 → r32 x3 → r32 x6 → r64 x7 → r32 x9 → okM S → ((40 ≤ x9 → (r32 (x6 + 1) ∧ R_X7_clears_66 x1 x2 x3 (x6 + 1) S Qr Qx)) ∧ (x9 < 40 → ((x6 = x1 → (r32 (x6 + 1) ∧ R_X7_clears_66 x1 x2 x3 (x6 + 1) S Qr Qx)) ∧ (x6 ≠ x1 → ((x7 = 0 → (r32 (x6 + 1) ∧ R_X7_clears_66 x1 x2 x3 (x6 + 1) S Qr Qx)) ∧ (x7 ≠ 0 → (ix ((40 * x6) + x9) 1600 ∧ (ix ((40 * x1) + x9) 1600 ∧ (r64 (x7 * (S 17 ((40 * x1) + x9))) ∧ (r64 ((S 17 ((40 * x6) + x9)) - (Int.tmod (x7 * (S 17 ((40 * x1) + x9))) 1000003)) ∧ M_X7_within ((S 17 ((40 * x6) + x9)) - (Int.tmod (x7 * (S 17 ((40 * x1) + x9))) 1000003)) S (fun rv24 S22 => r64 rv24 → okM S22 → (r32 (x9 + 1) ∧ R_X7_clears_89 x1 x2 x3 x6 x7 (x9 + 1) (up S22 17 ((40 * x6) + x9) rv24) Qr Qx)) Qx))))))))))) : R_X7_clears_89 x1 x2 x3 x6 x7 x9 S Qr Qx := by
  intro rx1 rx2 rx3 rx6 rx7 rx9
  intro p l e s m args below meth c G A C hok
  have h := h rx1 rx2 rx3 rx6 rx7 rx9 hok
  replace C : Cx wM cX7_clears 10 RX7 wsX7_clears none [] p l s m args meth c G A := C
  show J wM 10 rmX7_clears p l e s m args below meth c G A (QQ 0 wM okM G Qr Qx A below args s rmX7_clears.cells rmX7_clears.slots) 0 0 S [some (.ref (G.2.2 0)), some (iV x1), some (iV x2), some (iV x3), none, none, some (iV x6), some (lV x7), none, some (iV x9)] [] 89
  refine J_iload (pc := 89) C dX7_clears_89 rfl ?_
  refine J_bipush (pc := 91) C dX7_clears_91 (by decide) ?_
  obtain ⟨h1, h2⟩ := h
  refine J_icmp_ge (pc := 93) (tgt := 164) C dX7_clears_93 (by decide) rx9 (by decide) (fun cb => ?_) (fun cb => ?_)
  · have h1 := h1 cb
    refine J_iinc (pc := 164) C dX7_clears_164 rfl (by decide) ?_
    refine J_goto (pc := 167) (tgt := 66) C dX7_clears_167 (by decide) ?_
    obtain ⟨o3, h4⟩ := h1
    exact J_sub (L1 := [some (.ref (G.2.2 0)), some (iV x1), some (iV x2), some (iV x3), none, none, some (iV (x6 + 1)), none, none, none]) ⟨rfl, ⟨rfl, ⟨rfl, ⟨rfl, ⟨rfl, trivial⟩⟩⟩⟩⟩ (h4 rx1 rx2 rx3 o3 p l e s m args below meth c G A C hok)
  · have h2 := h2 cb
    refine J_iload (pc := 96) C dX7_clears_96 rfl ?_
    refine J_iload_n (pc := 98) C dX7_clears_98 rfl ?_
    obtain ⟨h5, h6⟩ := h2
    refine J_icmp_eq (pc := 99) (tgt := 164) C dX7_clears_99 (by decide) rx6 rx1 (fun cb => ?_) (fun cb => ?_)
    · have h5 := h5 cb
      refine J_iinc (pc := 164) C dX7_clears_164 rfl (by decide) ?_
      refine J_goto (pc := 167) (tgt := 66) C dX7_clears_167 (by decide) ?_
      obtain ⟨o7, h8⟩ := h5
      exact J_sub (L1 := [some (.ref (G.2.2 0)), some (iV x1), some (iV x2), some (iV x3), none, none, some (iV (x6 + 1)), none, none, none]) ⟨rfl, ⟨rfl, ⟨rfl, ⟨rfl, ⟨rfl, trivial⟩⟩⟩⟩⟩ (h8 rx1 rx2 rx3 o7 p l e s m args below meth c G A C hok)
    · have h6 := h6 cb
      refine J_lload (pc := 102) C dX7_clears_102 rfl ?_
      refine J_lconst (pc := 104) C dX7_clears_104 ?_
      obtain ⟨h9, h10⟩ := h6
      refine J_lcmp_eq (pc := 105) (tgt := 164) C dX7_clears_105 dX7_clears_106 (by decide) rx7 (by decide) (fun cb => ?_) (fun cb => ?_)
      · have h9 := h9 cb
        refine J_iinc (pc := 164) C dX7_clears_164 rfl (by decide) ?_
        refine J_goto (pc := 167) (tgt := 66) C dX7_clears_167 (by decide) ?_
        obtain ⟨o11, h12⟩ := h9
        exact J_sub (L1 := [some (.ref (G.2.2 0)), some (iV x1), some (iV x2), some (iV x3), none, none, some (iV (x6 + 1)), none, none, none]) ⟨rfl, ⟨rfl, ⟨rfl, ⟨rfl, ⟨rfl, trivial⟩⟩⟩⟩⟩ (h12 rx1 rx2 rx3 o11 p l e s m args below meth c G A C hok)
      · have h10 := h10 cb
        refine J_aload_n (pc := 109) C dX7_clears_109 rfl ?_
        refine J_get (pc := 110) C dX7_clears_110 0 rfl rfl nX7_clears_X7 21 (by decide) mX7_clears_f60 rfl (v := .ref (G.2.2 17)) rfl ?_
        refine J_bipush (pc := 113) C dX7_clears_113 (by decide) ?_
        refine J_iload (pc := 115) C dX7_clears_115 rfl ?_
        refine J_imul (pc := 117) C dX7_clears_117 ?_
        refine J_iload (pc := 118) C dX7_clears_118 rfl ?_
        refine J_iadd (pc := 120) C dX7_clears_120 ?_
        refine J_aload_n (pc := 121) C dX7_clears_121 rfl ?_
        refine J_get (pc := 122) C dX7_clears_122 0 rfl rfl nX7_clears_X7 21 (by decide) mX7_clears_f60 rfl (v := .ref (G.2.2 17)) rfl ?_
        refine J_bipush (pc := 125) C dX7_clears_125 (by decide) ?_
        refine J_iload (pc := 127) C dX7_clears_127 rfl ?_
        refine J_imul (pc := 129) C dX7_clears_129 ?_
        refine J_iload (pc := 130) C dX7_clears_130 rfl ?_
        refine J_iadd (pc := 132) C dX7_clears_132 ?_
        obtain ⟨o13, h14⟩ := h10
        refine J_lald (pc := 133) C dX7_clears_133 17 17 rfl (by decide) o13 ?_
        refine J_lload (pc := 134) C dX7_clears_134 rfl ?_
        refine J_aload_n (pc := 136) C dX7_clears_136 rfl ?_
        refine J_get (pc := 137) C dX7_clears_137 0 rfl rfl nX7_clears_X7 21 (by decide) mX7_clears_f60 rfl (v := .ref (G.2.2 17)) rfl ?_
        refine J_bipush (pc := 140) C dX7_clears_140 (by decide) ?_
        refine J_iload_n (pc := 142) C dX7_clears_142 rfl ?_
        refine J_imul (pc := 143) C dX7_clears_143 ?_
        refine J_iload (pc := 144) C dX7_clears_144 rfl ?_
        refine J_iadd (pc := 146) C dX7_clears_146 ?_
        obtain ⟨o15, h16⟩ := h14
        refine J_lald (pc := 147) C dX7_clears_147 17 17 rfl (by decide) o15 ?_
        refine J_lmul (pc := 148) C dX7_clears_148 ?_
        refine J_ldc2 (pc := 149) (z := 1000003) C mX7_clears_c115 (by decide) dX7_clears_149 ?_
        obtain ⟨o17, h18⟩ := h16
        refine J_lrem (pc := 152) C dX7_clears_152 o17 (by decide) (by decide) ?_
        refine J_lsub (pc := 153) C dX7_clears_153 ?_
        obtain ⟨o19, h20⟩ := h18
        refine J_c2 (pc := 154) C (J_rS (pc := 154) C (h20 o19) dX7_clears_154 rfl rfl (va_cwS 1 C.1.2.2.2.2 gX7_clears_X7_within rfl rfl rfl (by decide +kernel) ⟨Nat.le_of_ble_eq_true rfl, Nat.le_of_ble_eq_true rfl⟩) hok (Nat.le_of_ble_eq_true rfl) ⟨Nat.le_of_ble_eq_true rfl, Nat.le_of_ble_eq_true rfl⟩) (fun E9 S9 ok9 q9 => JX_out C ok9 q9 (by decide) (by decide)) (fun rv24 S22 hr25 hok23 h21 => ?_)
        have h21 := h21 hr25 hok23
        refine J_last (pc := 157) C dX7_clears_157 17 17 rfl (by decide) o13 (sM_17 G S22 ((40 * x6) + x9) rv24) ?_
        have hok26 := okM_up (k := 17) (j := ((40 * x6) + x9)) hok23 (show rngM 17 rv24 from hr25)
        refine J_iinc (pc := 158) C dX7_clears_158 rfl (by decide) ?_
        refine J_goto (pc := 161) (tgt := 89) C dX7_clears_161 (by decide) ?_
        obtain ⟨o27, h28⟩ := h21
        exact J_sub (L1 := [some (.ref (G.2.2 0)), some (iV x1), some (iV x2), some (iV x3), none, none, some (iV x6), some (lV x7), none, some (iV (x9 + 1))]) ⟨rfl, ⟨rfl, ⟨rfl, ⟨rfl, ⟨rfl, ⟨rfl, ⟨rfl, trivial⟩⟩⟩⟩⟩⟩⟩ (h28 rx1 rx2 rx3 rx6 rx7 o27 p l e s m args below meth c G A C hok26)
def rmX7_brings : Room := { frames := 2, cells := 0, slots := 0, locals := 56 }
theorem mX7_brings_f63 : Cond.fieldLink RX7 63 "StressworkModel" "lead" "[I" ∈ wsX7_brings := by decide +kernel
theorem nX7_brings_X7 : ∀ x ∈ wsX70, x ∈ wsX7_brings := by decide +kernel
theorem mX7_brings_f60 : Cond.fieldLink RX7 60 "StressworkModel" "m" "[J" ∈ wsX7_brings := by decide +kernel
def M_X7_brings (a0 a1 : Int) (S : St) (Qr : Int → St → Prop) (Qx : String → St → Prop) : Prop := r32 a0 → r32 a1 → MM 1 wM okM yX7_brings wsX7_brings rmX7_brings (fun G => [.ref (G.2.2 0), iV a0, iV a1]) S Qr Qx
def R_X7_brings_5 (x1 x2 x3 x4 : Int) (S : St) (Qr : Int → St → Prop) (Qx : String → St → Prop) : Prop := r32 x1 → r32 x2 → r32 x3 → r32 x4 → RR 1 wM okM wsX7_brings rmX7_brings cX7_brings 7 RX7 (some .int) [] 0 0 (fun G => [some (.ref (G.2.2 0)), some (iV x1), some (iV x2), some (iV x3), some (iV x4), none, none]) (fun G => []) 5 S Qr Qx
def R_X7_brings_19 (x1 x2 x3 x4 x5 x6 : Int) (S : St) (Qr : Int → St → Prop) (Qx : String → St → Prop) : Prop := r32 x1 → r32 x2 → r32 x3 → r32 x4 → r32 x5 → r32 x6 → RR 1 wM okM wsX7_brings rmX7_brings cX7_brings 7 RX7 (some .int) [] 0 0 (fun G => [some (.ref (G.2.2 0)), some (iV x1), some (iV x2), some (iV x3), some (iV x4), some (iV x5), some (iV x6)]) (fun G => []) 19 S Qr Qx
set_option maxRecDepth 100000 in
set_option maxHeartbeats 4000000 in
theorem vc_X7_brings {a0 a1 : Int} {S : St} {Qr : Int → St → Prop} {Qx : String → St → Prop} (h : r32 a0 → r32 a1 → okM S → R_X7_brings_5 a0 a1 0 0 S Qr Qx) : M_X7_brings a0 a1 S Qr Qx := by
  intro ra0 ra1
  refine MM_of adM (by decide +kernel) rfl (Lf := fun G => [some (.ref (G.2.2 0)), some (iV a0), some (iV a1), none, none, none, none]) (fun G => by show _ ≤ _; exact Nat.le_of_ble_eq_true rfl) (fun G => rfl) ?_
  intro p l e s m args below meth c G A C hok
  have h := h ra0 ra1 hok
  replace C : Cx wM cX7_brings 7 RX7 wsX7_brings (some .int) [] p l s m args meth c G A := C
  show J wM 7 rmX7_brings p l e s m args below meth c G A (QQ 1 wM okM G Qr Qx A below args s rmX7_brings.cells rmX7_brings.slots) 0 0 S [some (.ref (G.2.2 0)), some (iV a0), some (iV a1), none, none, none, none] [] 0
  refine J_iconst (pc := 0) C dX7_brings_0 ?_
  refine J_istore_n (pc := 1) C dX7_brings_1 (by decide) ?_
  refine J_iconst (pc := 2) C dX7_brings_2 ?_
  refine J_istore (pc := 3) C dX7_brings_3 (by decide) ?_
  exact J_sub (L1 := [some (.ref (G.2.2 0)), some (iV a0), some (iV a1), some (iV 0), some (iV 0), none, none]) ⟨rfl, ⟨rfl, ⟨rfl, ⟨rfl, ⟨rfl, trivial⟩⟩⟩⟩⟩ (h ra0 ra1 (by decide) (by decide) p l e s m args below meth c G A C hok)
set_option maxRecDepth 100000 in
set_option maxHeartbeats 4000000 in
theorem vc_X7_brings_5 {x1 x2 x3 x4 : Int} {S : St} {Qr : Int → St → Prop} {Qx : String → St → Prop} (h : r32 x1 → r32 x2 → r32 x3 → r32 x4 → okM S → ((x2 ≤ x4 → Qr x3 S) ∧ (x4 < x2 → (r32 (x1 - 1) ∧ R_X7_brings_19 x1 x2 x3 x4 (-1) (x1 - 1) S Qr Qx)))) : R_X7_brings_5 x1 x2 x3 x4 S Qr Qx := by
  intro rx1 rx2 rx3 rx4
  intro p l e s m args below meth c G A C hok
  have h := h rx1 rx2 rx3 rx4 hok
  replace C : Cx wM cX7_brings 7 RX7 wsX7_brings (some .int) [] p l s m args meth c G A := C
  show J wM 7 rmX7_brings p l e s m args below meth c G A (QQ 1 wM okM G Qr Qx A below args s rmX7_brings.cells rmX7_brings.slots) 0 0 S [some (.ref (G.2.2 0)), some (iV x1), some (iV x2), some (iV x3), some (iV x4), none, none] [] 5
  refine J_iload (pc := 5) C dX7_brings_5 rfl ?_
  refine J_iload_n (pc := 7) C dX7_brings_7 rfl ?_
  obtain ⟨h1, h2⟩ := h
  refine J_icmp_ge (pc := 8) (tgt := 106) C dX7_brings_8 (by decide) rx4 rx2 (fun cb => ?_) (fun cb => ?_)
  · have h1 := h1 cb
    refine J_iload_n (pc := 106) C dX7_brings_106 rfl ?_
    exact J_iret (pc := 107) C dX7_brings_107 rx3 hok h1 (by decide) (by decide)
  · have h2 := h2 cb
    refine J_iconst (pc := 11) C dX7_brings_11 ?_
    refine J_istore (pc := 12) C dX7_brings_12 (by decide) ?_
    refine J_iload_n (pc := 14) C dX7_brings_14 rfl ?_
    refine J_iconst (pc := 15) C dX7_brings_15 ?_
    refine J_isub (pc := 16) C dX7_brings_16 ?_
    refine J_istore (pc := 17) C dX7_brings_17 (by decide) ?_
    obtain ⟨o3, h4⟩ := h2
    exact J_sub (L1 := [some (.ref (G.2.2 0)), some (iV x1), some (iV x2), some (iV x3), some (iV x4), some (iV (-1)), some (iV (x1 - 1))]) ⟨rfl, ⟨rfl, ⟨rfl, ⟨rfl, ⟨rfl, ⟨rfl, ⟨rfl, trivial⟩⟩⟩⟩⟩⟩⟩ (h4 rx1 rx2 rx3 rx4 (by decide) o3 p l e s m args below meth c G A C hok)
set_option maxRecDepth 100000 in
set_option maxHeartbeats 4000000 in
theorem vc_X7_brings_19 {x1 x2 x3 x4 x5 x6 : Int} {S : St} {Qr : Int → St → Prop} {Qx : String → St → Prop} (h : r32 x1 → r32 x2 → r32 x3 → r32 x4 → r32 x5 → r32 x6 → okM S → ((x6 < x3 → ((x5 ≠ (-1) → (ix x4 40 ∧ ((x5 = (-1) → (r32 (x4 + 1) ∧ R_X7_brings_5 x1 x2 x3 (x4 + 1) (up S 18 x4 x3) Qr Qx)) ∧ (x5 ≠ (-1) → M_X7_swaps x5 x3 (up S 18 x4 x3) (fun _ S13 => okM S13 → M_X7_clears x3 x4 x1 S13 (fun _ S18 => okM S18 → (r32 (x3 + 1) ∧ (r32 (x4 + 1) ∧ R_X7_brings_5 x1 x2 (x3 + 1) (x4 + 1) S18 Qr Qx))) Qx) Qx)))) ∧ (x5 = (-1) → (ix x4 40 ∧ ((x5 = (-1) → (r32 (x4 + 1) ∧ R_X7_brings_5 x1 x2 x3 (x4 + 1) (up S 18 x4 (-1)) Qr Qx)) ∧ (x5 ≠ (-1) → M_X7_swaps x5 x3 (up S 18 x4 (-1)) (fun _ S34 => okM S34 → M_X7_clears x3 x4 x1 S34 (fun _ S39 => okM S39 → (r32 (x3 + 1) ∧ (r32 (x4 + 1) ∧ R_X7_brings_5 x1 x2 (x3 + 1) (x4 + 1) S39 Qr Qx))) Qx) Qx)))))) ∧ (x3 ≤ x6 → (ix ((40 * x6) + x4) 1600 ∧ (((S 17 ((40 * x6) + x4)) = 0 → (r32 (x6 + (-1)) ∧ R_X7_brings_19 x1 x2 x3 x4 x5 (x6 + (-1)) S Qr Qx)) ∧ ((S 17 ((40 * x6) + x4)) ≠ 0 → (r32 (x6 + (-1)) ∧ R_X7_brings_19 x1 x2 x3 x4 x6 (x6 + (-1)) S Qr Qx))))))) : R_X7_brings_19 x1 x2 x3 x4 x5 x6 S Qr Qx := by
  intro rx1 rx2 rx3 rx4 rx5 rx6
  intro p l e s m args below meth c G A C hok
  have h := h rx1 rx2 rx3 rx4 rx5 rx6 hok
  replace C : Cx wM cX7_brings 7 RX7 wsX7_brings (some .int) [] p l s m args meth c G A := C
  show J wM 7 rmX7_brings p l e s m args below meth c G A (QQ 1 wM okM G Qr Qx A below args s rmX7_brings.cells rmX7_brings.slots) 0 0 S [some (.ref (G.2.2 0)), some (iV x1), some (iV x2), some (iV x3), some (iV x4), some (iV x5), some (iV x6)] [] 19
  refine J_iload (pc := 19) C dX7_brings_19 rfl ?_
  refine J_iload_n (pc := 21) C dX7_brings_21 rfl ?_
  obtain ⟨h1, h2⟩ := h
  refine J_icmp_lt (pc := 22) (tgt := 58) C dX7_brings_22 (by decide) rx6 rx3 (fun cb => ?_) (fun cb => ?_)
  · have h1 := h1 cb
    refine J_aload_n (pc := 58) C dX7_brings_58 rfl ?_
    refine J_get (pc := 59) C dX7_brings_59 0 rfl rfl nX7_brings_X7 22 (by decide) mX7_brings_f63 rfl (v := .ref (G.2.2 18)) rfl ?_
    refine J_iload (pc := 62) C dX7_brings_62 rfl ?_
    refine J_iload (pc := 64) C dX7_brings_64 rfl ?_
    refine J_iconst (pc := 66) C dX7_brings_66 ?_
    obtain ⟨h3, h4⟩ := h1
    refine J_icmp_ne (pc := 67) (tgt := 74) C dX7_brings_67 (by decide) rx5 (by decide) (fun cb => ?_) (fun cb => ?_)
    · have h3 := h3 cb
      refine J_iload_n (pc := 74) C dX7_brings_74 rfl ?_
      obtain ⟨o5, h6⟩ := h3
      refine J_iast (pc := 75) C dX7_brings_75 18 18 rfl (by decide) o5 (sM_18 G S x4 x3) ?_
      have hok7 := okM_up (k := 18) (j := x4) hok (show rngM 18 x3 from rx3)
      refine J_iload (pc := 76) C dX7_brings_76 rfl ?_
      refine J_iconst (pc := 78) C dX7_brings_78 ?_
      obtain ⟨h8, h9⟩ := h6
      refine J_icmp_eq (pc := 79) (tgt := 100) C dX7_brings_79 (by decide) rx5 (by decide) (fun cb => ?_) (fun cb => ?_)
      · have h8 := h8 cb
        refine J_iinc (pc := 100) C dX7_brings_100 rfl (by decide) ?_
        refine J_goto (pc := 103) (tgt := 5) C dX7_brings_103 (by decide) ?_
        obtain ⟨o10, h11⟩ := h8
        exact J_sub (L1 := [some (.ref (G.2.2 0)), some (iV x1), some (iV x2), some (iV x3), some (iV (x4 + 1)), none, none]) ⟨rfl, ⟨rfl, ⟨rfl, ⟨rfl, ⟨rfl, trivial⟩⟩⟩⟩⟩ (h11 rx1 rx2 rx3 o10 p l e s m args below meth c G A C hok7)
      · have h9 := h9 cb
        refine J_aload_n (pc := 82) C dX7_brings_82 rfl ?_
        refine J_iload (pc := 83) C dX7_brings_83 rfl ?_
        refine J_iload_n (pc := 85) C dX7_brings_85 rfl ?_
        refine J_c0 (pc := 86) C (J_rV (pc := 86) C (h9 rx5 rx3) dX7_brings_86 rfl rfl 0 rfl rfl (cwV 2 C.1.2.2.2.2 gX7_brings_X7_swaps rfl rfl rfl (by decide +kernel) ⟨Nat.le_of_ble_eq_true rfl, Nat.le_of_ble_eq_true rfl⟩) hok7 (Nat.le_of_ble_eq_true rfl) ⟨Nat.le_of_ble_eq_true rfl, Nat.le_of_ble_eq_true rfl⟩) (fun E9 S9 ok9 q9 => JX_out C ok9 q9 (by decide) (by decide)) (fun S13 hok14 h12 => ?_)
        have h12 := h12 hok14
        refine J_aload_n (pc := 89) C dX7_brings_89 rfl ?_
        refine J_iload_n (pc := 90) C dX7_brings_90 rfl ?_
        refine J_iload (pc := 91) C dX7_brings_91 rfl ?_
        refine J_iload_n (pc := 93) C dX7_brings_93 rfl ?_
        refine J_c0 (pc := 94) C (J_rV (pc := 94) C (h12 rx3 rx4 rx1) dX7_brings_94 rfl rfl 0 rfl rfl (cwV 3 C.1.2.2.2.2 gX7_brings_X7_clears rfl rfl rfl (by decide +kernel) ⟨Nat.le_of_ble_eq_true rfl, Nat.le_of_ble_eq_true rfl⟩) hok14 (Nat.le_of_ble_eq_true rfl) ⟨Nat.le_of_ble_eq_true rfl, Nat.le_of_ble_eq_true rfl⟩) (fun E9 S9 ok9 q9 => JX_out C ok9 q9 (by decide) (by decide)) (fun S18 hok19 h17 => ?_)
        have h17 := h17 hok19
        refine J_iinc (pc := 97) C dX7_brings_97 rfl (by decide) ?_
        refine J_iinc (pc := 100) C dX7_brings_100 rfl (by decide) ?_
        refine J_goto (pc := 103) (tgt := 5) C dX7_brings_103 (by decide) ?_
        obtain ⟨o22, h23⟩ := h17
        obtain ⟨o24, h25⟩ := h23
        exact J_sub (L1 := [some (.ref (G.2.2 0)), some (iV x1), some (iV x2), some (iV (x3 + 1)), some (iV (x4 + 1)), none, none]) ⟨rfl, ⟨rfl, ⟨rfl, ⟨rfl, ⟨rfl, trivial⟩⟩⟩⟩⟩ (h25 rx1 rx2 o22 o24 p l e s m args below meth c G A C hok19)
    · have h4 := h4 cb
      refine J_iconst (pc := 70) C dX7_brings_70 ?_
      refine J_goto (pc := 71) (tgt := 75) C dX7_brings_71 (by decide) ?_
      obtain ⟨o26, h27⟩ := h4
      refine J_iast (pc := 75) C dX7_brings_75 18 18 rfl (by decide) o26 (sM_18 G S x4 (-1)) ?_
      have hok28 := okM_up (k := 18) (j := x4) hok (show rngM 18 (-1) from (by decide : r32 (-1)))
      refine J_iload (pc := 76) C dX7_brings_76 rfl ?_
      refine J_iconst (pc := 78) C dX7_brings_78 ?_
      obtain ⟨h29, h30⟩ := h27
      refine J_icmp_eq (pc := 79) (tgt := 100) C dX7_brings_79 (by decide) rx5 (by decide) (fun cb => ?_) (fun cb => ?_)
      · have h29 := h29 cb
        refine J_iinc (pc := 100) C dX7_brings_100 rfl (by decide) ?_
        refine J_goto (pc := 103) (tgt := 5) C dX7_brings_103 (by decide) ?_
        obtain ⟨o31, h32⟩ := h29
        exact J_sub (L1 := [some (.ref (G.2.2 0)), some (iV x1), some (iV x2), some (iV x3), some (iV (x4 + 1)), none, none]) ⟨rfl, ⟨rfl, ⟨rfl, ⟨rfl, ⟨rfl, trivial⟩⟩⟩⟩⟩ (h32 rx1 rx2 rx3 o31 p l e s m args below meth c G A C hok28)
      · have h30 := h30 cb
        refine J_aload_n (pc := 82) C dX7_brings_82 rfl ?_
        refine J_iload (pc := 83) C dX7_brings_83 rfl ?_
        refine J_iload_n (pc := 85) C dX7_brings_85 rfl ?_
        refine J_c0 (pc := 86) C (J_rV (pc := 86) C (h30 rx5 rx3) dX7_brings_86 rfl rfl 0 rfl rfl (cwV 2 C.1.2.2.2.2 gX7_brings_X7_swaps rfl rfl rfl (by decide +kernel) ⟨Nat.le_of_ble_eq_true rfl, Nat.le_of_ble_eq_true rfl⟩) hok28 (Nat.le_of_ble_eq_true rfl) ⟨Nat.le_of_ble_eq_true rfl, Nat.le_of_ble_eq_true rfl⟩) (fun E9 S9 ok9 q9 => JX_out C ok9 q9 (by decide) (by decide)) (fun S34 hok35 h33 => ?_)
        have h33 := h33 hok35
        refine J_aload_n (pc := 89) C dX7_brings_89 rfl ?_
        refine J_iload_n (pc := 90) C dX7_brings_90 rfl ?_
        refine J_iload (pc := 91) C dX7_brings_91 rfl ?_
        refine J_iload_n (pc := 93) C dX7_brings_93 rfl ?_
        refine J_c0 (pc := 94) C (J_rV (pc := 94) C (h33 rx3 rx4 rx1) dX7_brings_94 rfl rfl 0 rfl rfl (cwV 3 C.1.2.2.2.2 gX7_brings_X7_clears rfl rfl rfl (by decide +kernel) ⟨Nat.le_of_ble_eq_true rfl, Nat.le_of_ble_eq_true rfl⟩) hok35 (Nat.le_of_ble_eq_true rfl) ⟨Nat.le_of_ble_eq_true rfl, Nat.le_of_ble_eq_true rfl⟩) (fun E9 S9 ok9 q9 => JX_out C ok9 q9 (by decide) (by decide)) (fun S39 hok40 h38 => ?_)
        have h38 := h38 hok40
        refine J_iinc (pc := 97) C dX7_brings_97 rfl (by decide) ?_
        refine J_iinc (pc := 100) C dX7_brings_100 rfl (by decide) ?_
        refine J_goto (pc := 103) (tgt := 5) C dX7_brings_103 (by decide) ?_
        obtain ⟨o43, h44⟩ := h38
        obtain ⟨o45, h46⟩ := h44
        exact J_sub (L1 := [some (.ref (G.2.2 0)), some (iV x1), some (iV x2), some (iV (x3 + 1)), some (iV (x4 + 1)), none, none]) ⟨rfl, ⟨rfl, ⟨rfl, ⟨rfl, ⟨rfl, trivial⟩⟩⟩⟩⟩ (h46 rx1 rx2 o43 o45 p l e s m args below meth c G A C hok40)
  · have h2 := h2 cb
    refine J_aload_n (pc := 25) C dX7_brings_25 rfl ?_
    refine J_get (pc := 26) C dX7_brings_26 0 rfl rfl nX7_brings_X7 21 (by decide) mX7_brings_f60 rfl (v := .ref (G.2.2 17)) rfl ?_
    refine J_bipush (pc := 29) C dX7_brings_29 (by decide) ?_
    refine J_iload (pc := 31) C dX7_brings_31 rfl ?_
    refine J_imul (pc := 33) C dX7_brings_33 ?_
    refine J_iload (pc := 34) C dX7_brings_34 rfl ?_
    refine J_iadd (pc := 36) C dX7_brings_36 ?_
    obtain ⟨o47, h48⟩ := h2
    refine J_lald (pc := 37) C dX7_brings_37 17 17 rfl (by decide) o47 ?_
    refine J_lconst (pc := 38) C dX7_brings_38 ?_
    obtain ⟨h49, h50⟩ := h48
    refine J_lcmp_eq (pc := 39) (tgt := 48) C dX7_brings_39 dX7_brings_40 (by decide) (hok 17 ((40 * x6) + x4)) (by decide) (fun cb => ?_) (fun cb => ?_)
    · have h49 := h49 cb
      refine J_iload (pc := 48) C dX7_brings_48 rfl ?_
      refine J_istore (pc := 50) C dX7_brings_50 (by decide) ?_
      refine J_iinc (pc := 52) C dX7_brings_52 rfl (by decide) ?_
      refine J_goto (pc := 55) (tgt := 19) C dX7_brings_55 (by decide) ?_
      obtain ⟨o51, h52⟩ := h49
      exact J_sub (L1 := [some (.ref (G.2.2 0)), some (iV x1), some (iV x2), some (iV x3), some (iV x4), some (iV x5), some (iV (x6 + (-1)))]) ⟨rfl, ⟨rfl, ⟨rfl, ⟨rfl, ⟨rfl, ⟨rfl, ⟨rfl, trivial⟩⟩⟩⟩⟩⟩⟩ (h52 rx1 rx2 rx3 rx4 rx5 o51 p l e s m args below meth c G A C hok)
    · have h50 := h50 cb
      refine J_iload (pc := 43) C dX7_brings_43 rfl ?_
      refine J_goto (pc := 45) (tgt := 50) C dX7_brings_45 (by decide) ?_
      refine J_istore (pc := 50) C dX7_brings_50 (by decide) ?_
      refine J_iinc (pc := 52) C dX7_brings_52 rfl (by decide) ?_
      refine J_goto (pc := 55) (tgt := 19) C dX7_brings_55 (by decide) ?_
      obtain ⟨o53, h54⟩ := h50
      exact J_sub (L1 := [some (.ref (G.2.2 0)), some (iV x1), some (iV x2), some (iV x3), some (iV x4), some (iV x6), some (iV (x6 + (-1)))]) ⟨rfl, ⟨rfl, ⟨rfl, ⟨rfl, ⟨rfl, ⟨rfl, ⟨rfl, trivial⟩⟩⟩⟩⟩⟩⟩ (h54 rx1 rx2 rx3 rx4 rx6 o53 p l e s m args below meth c G A C hok)
def rmX7_free : Room := { frames := 0, cells := 0, slots := 0, locals := 0 }
theorem mX7_free_f63 : Cond.fieldLink RX7 63 "StressworkModel" "lead" "[I" ∈ wsX7_free := by decide +kernel
theorem nX7_free_X7 : ∀ x ∈ wsX70, x ∈ wsX7_free := by decide +kernel
def M_X7_free (a0 a1 : Int) (S : St) (Qr : Int → St → Prop) (Qx : String → St → Prop) : Prop := r32 a0 → r32 a1 → MM 1 wM okM yX7_free wsX7_free rmX7_free (fun G => [.ref (G.2.2 0), iV a0, iV a1]) S Qr Qx
def R_X7_free_8 (x1 x2 x3 x4 x5 : Int) (S : St) (Qr : Int → St → Prop) (Qx : String → St → Prop) : Prop := r32 x1 → r32 x2 → r32 x3 → r32 x4 → r32 x5 → RR 1 wM okM wsX7_free rmX7_free cX7_free 6 RX7 (some .int) [] 0 0 (fun G => [some (.ref (G.2.2 0)), some (iV x1), some (iV x2), some (iV x3), some (iV x4), some (iV x5)]) (fun G => []) 8 S Qr Qx
set_option maxRecDepth 100000 in
set_option maxHeartbeats 4000000 in
theorem vc_X7_free {a0 a1 : Int} {S : St} {Qr : Int → St → Prop} {Qx : String → St → Prop} (h : r32 a0 → r32 a1 → okM S → R_X7_free_8 a0 a1 (-1) 0 0 S Qr Qx) : M_X7_free a0 a1 S Qr Qx := by
  intro ra0 ra1
  refine MM_of adM (by decide +kernel) rfl (Lf := fun G => [some (.ref (G.2.2 0)), some (iV a0), some (iV a1), none, none, none]) (fun G => by show _ ≤ _; exact Nat.le_of_ble_eq_true rfl) (fun G => rfl) ?_
  intro p l e s m args below meth c G A C hok
  have h := h ra0 ra1 hok
  replace C : Cx wM cX7_free 6 RX7 wsX7_free (some .int) [] p l s m args meth c G A := C
  show J wM 6 rmX7_free p l e s m args below meth c G A (QQ 1 wM okM G Qr Qx A below args s rmX7_free.cells rmX7_free.slots) 0 0 S [some (.ref (G.2.2 0)), some (iV a0), some (iV a1), none, none, none] [] 0
  refine J_iconst (pc := 0) C dX7_free_0 ?_
  refine J_istore_n (pc := 1) C dX7_free_1 (by decide) ?_
  refine J_iconst (pc := 2) C dX7_free_2 ?_
  refine J_istore (pc := 3) C dX7_free_3 (by decide) ?_
  refine J_iconst (pc := 5) C dX7_free_5 ?_
  refine J_istore (pc := 6) C dX7_free_6 (by decide) ?_
  exact J_sub (L1 := [some (.ref (G.2.2 0)), some (iV a0), some (iV a1), some (iV (-1)), some (iV 0), some (iV 0)]) ⟨rfl, ⟨rfl, ⟨rfl, ⟨rfl, ⟨rfl, ⟨rfl, trivial⟩⟩⟩⟩⟩⟩ (h ra0 ra1 (by decide) (by decide) (by decide) p l e s m args below meth c G A C hok)
set_option maxRecDepth 100000 in
set_option maxHeartbeats 4000000 in
theorem vc_X7_free_8 {x1 x2 x3 x4 x5 : Int} {S : St} {Qr : Int → St → Prop} {Qx : String → St → Prop} (h : r32 x1 → r32 x2 → r32 x3 → r32 x4 → r32 x5 → okM S → ((x2 ≤ x5 → Qr x3 S) ∧ (x5 < x2 → (ix x5 40 ∧ (((S 18 x5) ≠ (-1) → (((S 18 x5) ≠ (-1) → (r32 (x4 + 0) ∧ (r32 (x5 + 1) ∧ R_X7_free_8 x1 x2 x3 (x4 + 0) (x5 + 1) S Qr Qx))) ∧ ((S 18 x5) = (-1) → (r32 (x4 + 1) ∧ (r32 (x5 + 1) ∧ R_X7_free_8 x1 x2 x3 (x4 + 1) (x5 + 1) S Qr Qx))))) ∧ ((S 18 x5) = (-1) → ((x4 ≠ x1 → (((S 18 x5) ≠ (-1) → (r32 (x4 + 0) ∧ (r32 (x5 + 1) ∧ R_X7_free_8 x1 x2 x3 (x4 + 0) (x5 + 1) S Qr Qx))) ∧ ((S 18 x5) = (-1) → (r32 (x4 + 1) ∧ (r32 (x5 + 1) ∧ R_X7_free_8 x1 x2 x3 (x4 + 1) (x5 + 1) S Qr Qx))))) ∧ (x4 = x1 → (((S 18 x5) ≠ (-1) → (r32 (x4 + 0) ∧ (r32 (x5 + 1) ∧ R_X7_free_8 x1 x2 x5 (x4 + 0) (x5 + 1) S Qr Qx))) ∧ ((S 18 x5) = (-1) → (r32 (x4 + 1) ∧ (r32 (x5 + 1) ∧ R_X7_free_8 x1 x2 x5 (x4 + 1) (x5 + 1) S Qr Qx)))))))))))) : R_X7_free_8 x1 x2 x3 x4 x5 S Qr Qx := by
  intro rx1 rx2 rx3 rx4 rx5
  intro p l e s m args below meth c G A C hok
  have h := h rx1 rx2 rx3 rx4 rx5 hok
  replace C : Cx wM cX7_free 6 RX7 wsX7_free (some .int) [] p l s m args meth c G A := C
  show J wM 6 rmX7_free p l e s m args below meth c G A (QQ 1 wM okM G Qr Qx A below args s rmX7_free.cells rmX7_free.slots) 0 0 S [some (.ref (G.2.2 0)), some (iV x1), some (iV x2), some (iV x3), some (iV x4), some (iV x5)] [] 8
  refine J_iload (pc := 8) C dX7_free_8 rfl ?_
  refine J_iload_n (pc := 10) C dX7_free_10 rfl ?_
  obtain ⟨h1, h2⟩ := h
  refine J_icmp_ge (pc := 11) (tgt := 65) C dX7_free_11 (by decide) rx5 rx2 (fun cb => ?_) (fun cb => ?_)
  · have h1 := h1 cb
    refine J_iload_n (pc := 65) C dX7_free_65 rfl ?_
    exact J_iret (pc := 66) C dX7_free_66 rx3 hok h1 (by decide) (by decide)
  · have h2 := h2 cb
    refine J_aload_n (pc := 14) C dX7_free_14 rfl ?_
    refine J_get (pc := 15) C dX7_free_15 0 rfl rfl nX7_free_X7 22 (by decide) mX7_free_f63 rfl (v := .ref (G.2.2 18)) rfl ?_
    refine J_iload (pc := 18) C dX7_free_18 rfl ?_
    obtain ⟨o3, h4⟩ := h2
    refine J_iald (pc := 20) C dX7_free_20 18 18 rfl (by decide) o3 ?_
    refine J_iconst (pc := 21) C dX7_free_21 ?_
    obtain ⟨h5, h6⟩ := h4
    refine J_icmp_ne (pc := 22) (tgt := 36) C dX7_free_22 (by decide) (hok 18 x5) (by decide) (fun cb => ?_) (fun cb => ?_)
    · have h5 := h5 cb
      refine J_iload_n (pc := 36) C dX7_free_36 rfl ?_
      refine J_istore_n (pc := 37) C dX7_free_37 (by decide) ?_
      refine J_iload (pc := 38) C dX7_free_38 rfl ?_
      refine J_aload_n (pc := 40) C dX7_free_40 rfl ?_
      refine J_get (pc := 41) C dX7_free_41 0 rfl rfl nX7_free_X7 22 (by decide) mX7_free_f63 rfl (v := .ref (G.2.2 18)) rfl ?_
      refine J_iload (pc := 44) C dX7_free_44 rfl ?_
      refine J_iald (pc := 46) C dX7_free_46 18 18 rfl (by decide) o3 ?_
      refine J_iconst (pc := 47) C dX7_free_47 ?_
      obtain ⟨h7, h8⟩ := h5
      refine J_icmp_ne (pc := 48) (tgt := 55) C dX7_free_48 (by decide) (hok 18 x5) (by decide) (fun cb => ?_) (fun cb => ?_)
      · have h7 := h7 cb
        refine J_iconst (pc := 55) C dX7_free_55 ?_
        refine J_iadd (pc := 56) C dX7_free_56 ?_
        refine J_istore (pc := 57) C dX7_free_57 (by decide) ?_
        refine J_iinc (pc := 59) C dX7_free_59 rfl (by decide) ?_
        refine J_goto (pc := 62) (tgt := 8) C dX7_free_62 (by decide) ?_
        obtain ⟨o9, h10⟩ := h7
        obtain ⟨o11, h12⟩ := h10
        exact J_sub (L1 := [some (.ref (G.2.2 0)), some (iV x1), some (iV x2), some (iV x3), some (iV (x4 + 0)), some (iV (x5 + 1))]) ⟨rfl, ⟨rfl, ⟨rfl, ⟨rfl, ⟨rfl, ⟨rfl, trivial⟩⟩⟩⟩⟩⟩ (h12 rx1 rx2 rx3 o9 o11 p l e s m args below meth c G A C hok)
      · have h8 := h8 cb
        refine J_iconst (pc := 51) C dX7_free_51 ?_
        refine J_goto (pc := 52) (tgt := 56) C dX7_free_52 (by decide) ?_
        refine J_iadd (pc := 56) C dX7_free_56 ?_
        refine J_istore (pc := 57) C dX7_free_57 (by decide) ?_
        refine J_iinc (pc := 59) C dX7_free_59 rfl (by decide) ?_
        refine J_goto (pc := 62) (tgt := 8) C dX7_free_62 (by decide) ?_
        obtain ⟨o13, h14⟩ := h8
        obtain ⟨o15, h16⟩ := h14
        exact J_sub (L1 := [some (.ref (G.2.2 0)), some (iV x1), some (iV x2), some (iV x3), some (iV (x4 + 1)), some (iV (x5 + 1))]) ⟨rfl, ⟨rfl, ⟨rfl, ⟨rfl, ⟨rfl, ⟨rfl, trivial⟩⟩⟩⟩⟩⟩ (h16 rx1 rx2 rx3 o13 o15 p l e s m args below meth c G A C hok)
    · have h6 := h6 cb
      refine J_iload (pc := 25) C dX7_free_25 rfl ?_
      refine J_iload_n (pc := 27) C dX7_free_27 rfl ?_
      obtain ⟨h17, h18⟩ := h6
      refine J_icmp_ne (pc := 28) (tgt := 36) C dX7_free_28 (by decide) rx4 rx1 (fun cb => ?_) (fun cb => ?_)
      · have h17 := h17 cb
        refine J_iload_n (pc := 36) C dX7_free_36 rfl ?_
        refine J_istore_n (pc := 37) C dX7_free_37 (by decide) ?_
        refine J_iload (pc := 38) C dX7_free_38 rfl ?_
        refine J_aload_n (pc := 40) C dX7_free_40 rfl ?_
        refine J_get (pc := 41) C dX7_free_41 0 rfl rfl nX7_free_X7 22 (by decide) mX7_free_f63 rfl (v := .ref (G.2.2 18)) rfl ?_
        refine J_iload (pc := 44) C dX7_free_44 rfl ?_
        refine J_iald (pc := 46) C dX7_free_46 18 18 rfl (by decide) o3 ?_
        refine J_iconst (pc := 47) C dX7_free_47 ?_
        obtain ⟨h19, h20⟩ := h17
        refine J_icmp_ne (pc := 48) (tgt := 55) C dX7_free_48 (by decide) (hok 18 x5) (by decide) (fun cb => ?_) (fun cb => ?_)
        · have h19 := h19 cb
          refine J_iconst (pc := 55) C dX7_free_55 ?_
          refine J_iadd (pc := 56) C dX7_free_56 ?_
          refine J_istore (pc := 57) C dX7_free_57 (by decide) ?_
          refine J_iinc (pc := 59) C dX7_free_59 rfl (by decide) ?_
          refine J_goto (pc := 62) (tgt := 8) C dX7_free_62 (by decide) ?_
          obtain ⟨o21, h22⟩ := h19
          obtain ⟨o23, h24⟩ := h22
          exact J_sub (L1 := [some (.ref (G.2.2 0)), some (iV x1), some (iV x2), some (iV x3), some (iV (x4 + 0)), some (iV (x5 + 1))]) ⟨rfl, ⟨rfl, ⟨rfl, ⟨rfl, ⟨rfl, ⟨rfl, trivial⟩⟩⟩⟩⟩⟩ (h24 rx1 rx2 rx3 o21 o23 p l e s m args below meth c G A C hok)
        · have h20 := h20 cb
          refine J_iconst (pc := 51) C dX7_free_51 ?_
          refine J_goto (pc := 52) (tgt := 56) C dX7_free_52 (by decide) ?_
          refine J_iadd (pc := 56) C dX7_free_56 ?_
          refine J_istore (pc := 57) C dX7_free_57 (by decide) ?_
          refine J_iinc (pc := 59) C dX7_free_59 rfl (by decide) ?_
          refine J_goto (pc := 62) (tgt := 8) C dX7_free_62 (by decide) ?_
          obtain ⟨o25, h26⟩ := h20
          obtain ⟨o27, h28⟩ := h26
          exact J_sub (L1 := [some (.ref (G.2.2 0)), some (iV x1), some (iV x2), some (iV x3), some (iV (x4 + 1)), some (iV (x5 + 1))]) ⟨rfl, ⟨rfl, ⟨rfl, ⟨rfl, ⟨rfl, ⟨rfl, trivial⟩⟩⟩⟩⟩⟩ (h28 rx1 rx2 rx3 o25 o27 p l e s m args below meth c G A C hok)
      · have h18 := h18 cb
        refine J_iload (pc := 31) C dX7_free_31 rfl ?_
        refine J_goto (pc := 33) (tgt := 37) C dX7_free_33 (by decide) ?_
        refine J_istore_n (pc := 37) C dX7_free_37 (by decide) ?_
        refine J_iload (pc := 38) C dX7_free_38 rfl ?_
        refine J_aload_n (pc := 40) C dX7_free_40 rfl ?_
        refine J_get (pc := 41) C dX7_free_41 0 rfl rfl nX7_free_X7 22 (by decide) mX7_free_f63 rfl (v := .ref (G.2.2 18)) rfl ?_
        refine J_iload (pc := 44) C dX7_free_44 rfl ?_
        refine J_iald (pc := 46) C dX7_free_46 18 18 rfl (by decide) o3 ?_
        refine J_iconst (pc := 47) C dX7_free_47 ?_
        obtain ⟨h29, h30⟩ := h18
        refine J_icmp_ne (pc := 48) (tgt := 55) C dX7_free_48 (by decide) (hok 18 x5) (by decide) (fun cb => ?_) (fun cb => ?_)
        · have h29 := h29 cb
          refine J_iconst (pc := 55) C dX7_free_55 ?_
          refine J_iadd (pc := 56) C dX7_free_56 ?_
          refine J_istore (pc := 57) C dX7_free_57 (by decide) ?_
          refine J_iinc (pc := 59) C dX7_free_59 rfl (by decide) ?_
          refine J_goto (pc := 62) (tgt := 8) C dX7_free_62 (by decide) ?_
          obtain ⟨o31, h32⟩ := h29
          obtain ⟨o33, h34⟩ := h32
          exact J_sub (L1 := [some (.ref (G.2.2 0)), some (iV x1), some (iV x2), some (iV x5), some (iV (x4 + 0)), some (iV (x5 + 1))]) ⟨rfl, ⟨rfl, ⟨rfl, ⟨rfl, ⟨rfl, ⟨rfl, trivial⟩⟩⟩⟩⟩⟩ (h34 rx1 rx2 rx5 o31 o33 p l e s m args below meth c G A C hok)
        · have h30 := h30 cb
          refine J_iconst (pc := 51) C dX7_free_51 ?_
          refine J_goto (pc := 52) (tgt := 56) C dX7_free_52 (by decide) ?_
          refine J_iadd (pc := 56) C dX7_free_56 ?_
          refine J_istore (pc := 57) C dX7_free_57 (by decide) ?_
          refine J_iinc (pc := 59) C dX7_free_59 rfl (by decide) ?_
          refine J_goto (pc := 62) (tgt := 8) C dX7_free_62 (by decide) ?_
          obtain ⟨o35, h36⟩ := h30
          obtain ⟨o37, h38⟩ := h36
          exact J_sub (L1 := [some (.ref (G.2.2 0)), some (iV x1), some (iV x2), some (iV x5), some (iV (x4 + 1)), some (iV (x5 + 1))]) ⟨rfl, ⟨rfl, ⟨rfl, ⟨rfl, ⟨rfl, ⟨rfl, trivial⟩⟩⟩⟩⟩⟩ (h38 rx1 rx2 rx5 o35 o37 p l e s m args below meth c G A C hok)
def rmX7_has : Room := { frames := 1, cells := 0, slots := 0, locals := 23 }
theorem mX7_has_f63 : Cond.fieldLink RX7 63 "StressworkModel" "lead" "[I" ∈ wsX7_has := by decide +kernel
theorem nX7_has_X7 : ∀ x ∈ wsX70, x ∈ wsX7_has := by decide +kernel
theorem mX7_has_f60 : Cond.fieldLink RX7 60 "StressworkModel" "m" "[J" ∈ wsX7_has := by decide +kernel
def M_X7_has (a0 a1 : Int) (S : St) (Qr : Int → St → Prop) (Qx : String → St → Prop) : Prop := r32 a0 → r32 a1 → MM 1 wM okM yX7_has wsX7_has rmX7_has (fun G => [.ref (G.2.2 0), iV a0, iV a1]) S Qr Qx
set_option maxRecDepth 100000 in
set_option maxHeartbeats 4000000 in
theorem vc_X7_has {a0 a1 : Int} {S : St} {Qr : Int → St → Prop} {Qx : String → St → Prop} (h : r32 a0 → r32 a1 → okM S → (ix a1 40 ∧ (((S 18 a1) ≠ (-1) → (ix ((40 * (S 18 a1)) + a0) 1600 ∧ (r64 (-(S 17 ((40 * (S 18 a1)) + a0))) ∧ M_X7_within (-(S 17 ((40 * (S 18 a1)) + a0))) S (fun rv12 S10 => r64 rv12 → okM S10 → (r32 rv12 ∧ Qr rv12 S10)) Qx))) ∧ ((S 18 a1) = (-1) → ((a1 ≠ a0 → Qr 0 S) ∧ (a1 = a0 → Qr 1 S)))))) : M_X7_has a0 a1 S Qr Qx := by
  intro ra0 ra1
  refine MM_of adM (by decide +kernel) rfl (Lf := fun G => [some (.ref (G.2.2 0)), some (iV a0), some (iV a1)]) (fun G => by show _ ≤ _; exact Nat.le_of_ble_eq_true rfl) (fun G => rfl) ?_
  intro p l e s m args below meth c G A C hok
  have h := h ra0 ra1 hok
  replace C : Cx wM cX7_has 3 RX7 wsX7_has (some .int) [] p l s m args meth c G A := C
  show J wM 3 rmX7_has p l e s m args below meth c G A (QQ 1 wM okM G Qr Qx A below args s rmX7_has.cells rmX7_has.slots) 0 0 S [some (.ref (G.2.2 0)), some (iV a0), some (iV a1)] [] 0
  refine J_aload_n (pc := 0) C dX7_has_0 rfl ?_
  refine J_get (pc := 1) C dX7_has_1 0 rfl rfl nX7_has_X7 22 (by decide) mX7_has_f63 rfl (v := .ref (G.2.2 18)) rfl ?_
  refine J_iload_n (pc := 4) C dX7_has_4 rfl ?_
  obtain ⟨o1, h2⟩ := h
  refine J_iald (pc := 5) C dX7_has_5 18 18 rfl (by decide) o1 ?_
  refine J_iconst (pc := 6) C dX7_has_6 ?_
  obtain ⟨h3, h4⟩ := h2
  refine J_icmp_ne (pc := 7) (tgt := 21) C dX7_has_7 (by decide) (hok 18 a1) (by decide) (fun cb => ?_) (fun cb => ?_)
  · have h3 := h3 cb
    refine J_aload_n (pc := 21) C dX7_has_21 rfl ?_
    refine J_get (pc := 22) C dX7_has_22 0 rfl rfl nX7_has_X7 21 (by decide) mX7_has_f60 rfl (v := .ref (G.2.2 17)) rfl ?_
    refine J_bipush (pc := 25) C dX7_has_25 (by decide) ?_
    refine J_aload_n (pc := 27) C dX7_has_27 rfl ?_
    refine J_get (pc := 28) C dX7_has_28 0 rfl rfl nX7_has_X7 22 (by decide) mX7_has_f63 rfl (v := .ref (G.2.2 18)) rfl ?_
    refine J_iload_n (pc := 31) C dX7_has_31 rfl ?_
    refine J_iald (pc := 32) C dX7_has_32 18 18 rfl (by decide) o1 ?_
    refine J_imul (pc := 33) C dX7_has_33 ?_
    refine J_iload_n (pc := 34) C dX7_has_34 rfl ?_
    refine J_iadd (pc := 35) C dX7_has_35 ?_
    obtain ⟨o5, h6⟩ := h3
    refine J_lald (pc := 36) C dX7_has_36 17 17 rfl (by decide) o5 ?_
    refine J_lneg (pc := 37) C dX7_has_37 ?_
    obtain ⟨o7, h8⟩ := h6
    refine J_c2 (pc := 38) C (J_rS (pc := 38) C (h8 o7) dX7_has_38 rfl rfl (va_cwS 1 C.1.2.2.2.2 gX7_has_X7_within rfl rfl rfl (by decide +kernel) ⟨Nat.le_of_ble_eq_true rfl, Nat.le_of_ble_eq_true rfl⟩) hok (Nat.le_of_ble_eq_true rfl) ⟨Nat.le_of_ble_eq_true rfl, Nat.le_of_ble_eq_true rfl⟩) (fun E9 S9 ok9 q9 => JX_out C ok9 q9 (by decide) (by decide)) (fun rv12 S10 hr13 hok11 h9 => ?_)
    have h9 := h9 hr13 hok11
    obtain ⟨o14, h15⟩ := h9
    refine J_l2i (pc := 41) C dX7_has_41 o14 ?_
    exact J_iret (pc := 42) C dX7_has_42 o14 hok11 h15 (by decide) (by decide)
  · have h4 := h4 cb
    refine J_iload_n (pc := 10) C dX7_has_10 rfl ?_
    refine J_iload_n (pc := 11) C dX7_has_11 rfl ?_
    obtain ⟨h16, h17⟩ := h4
    refine J_icmp_ne (pc := 12) (tgt := 19) C dX7_has_12 (by decide) ra1 ra0 (fun cb => ?_) (fun cb => ?_)
    · have h16 := h16 cb
      refine J_iconst (pc := 19) C dX7_has_19 ?_
      exact J_iret (pc := 20) C dX7_has_20 (by decide) hok h16 (by decide) (by decide)
    · have h17 := h17 cb
      refine J_iconst (pc := 15) C dX7_has_15 ?_
      refine J_goto (pc := 16) (tgt := 20) C dX7_has_16 (by decide) ?_
      exact J_iret (pc := 20) C dX7_has_20 (by decide) hok h17 (by decide) (by decide)
def rmX7_balance : Room := { frames := 3, cells := 0, slots := 0, locals := 82 }
theorem mX7_balance_f121 : Cond.fieldLink RX7 121 "StressworkModel" "columns" "I" ∈ wsX7_balance := by decide +kernel
theorem nX7_balance_X7 : ∀ x ∈ wsX70, x ∈ wsX7_balance := by decide +kernel
theorem mX7_balance_f35 : Cond.fieldLink RX7 35 "StressworkModel" "isGone" "[Z" ∈ wsX7_balance := by decide +kernel
def M_X7_balance (a0 a1 : Int) (S : St) (Qr : Int → St → Prop) (Qx : String → St → Prop) : Prop := r32 a0 → r32 a1 → MM 1 wM okM yX7_balance wsX7_balance rmX7_balance (fun G => [.ref (G.2.2 0), iV a0, iV a1]) S Qr Qx
def R_X7_balance_64 (x1 x2 x3 x5 x6 : Int) (S : St) (Qr : Int → St → Prop) (Qx : String → St → Prop) : Prop := r32 x1 → r32 x2 → r32 x3 → r32 x5 → r32 x6 → RR 1 wM okM wsX7_balance rmX7_balance cX7_balance 7 RX7 (some .int) [] 0 0 (fun G => [some (.ref (G.2.2 0)), some (iV x1), some (iV x2), some (iV x3), none, some (iV x5), some (iV x6)]) (fun G => []) 64 S Qr Qx
set_option maxRecDepth 100000 in
set_option maxHeartbeats 4000000 in
theorem vc_X7_balance {a0 a1 : Int} {S : St} {Qr : Int → St → Prop} {Qx : String → St → Prop} (h : r32 a0 → r32 a1 → okM S → M_X7_isMember a1 S (fun rv4 S2 => r32 rv4 → okM S2 → ((rv4 = 0 → M_X7_holds 1 S2 (fun rv11 S9 => r32 rv11 → okM S9 → ((rv11 ≠ 0 → M_X7_laysJoints S9 (fun _ S16 => okM S16 → M_X7_laysMatrix (-1) 1 S16 (fun rv23 S21 => r32 rv23 → okM S21 → M_X7_brings (S21 0 20) rv23 S21 (fun rv28 S26 => r32 rv28 → okM S26 → (r32 (rv23 - rv28) ∧ ((a0 < (rv23 - rv28) → R_X7_balance_64 a0 a1 rv23 0 0 S26 Qr Qx) ∧ ((rv23 - rv28) ≤ a0 → Qr (-1) S26)))) Qx) Qx) Qx) ∧ (rv11 = 0 → Qr 0 S9))) Qx) ∧ (rv4 ≠ 0 → ((a0 < 0 → M_X7_holds 1 S2 (fun rv39 S37 => r32 rv39 → okM S37 → ((rv39 ≠ 0 → M_X7_laysJoints S37 (fun _ S44 => okM S44 → M_X7_laysMatrix (-1) 1 S44 (fun rv51 S49 => r32 rv51 → okM S49 → M_X7_brings (S49 0 20) rv51 S49 (fun rv56 S54 => r32 rv56 → okM S54 → (r32 (rv51 - rv56) ∧ ((a0 < (rv51 - rv56) → R_X7_balance_64 a0 a1 rv51 0 0 S54 Qr Qx) ∧ ((rv51 - rv56) ≤ a0 → Qr (-1) S54)))) Qx) Qx) Qx) ∧ (rv39 = 0 → Qr 0 S37))) Qx) ∧ (0 ≤ a0 → M_X7_holds 0 S2 (fun rv65 S63 => r32 rv65 → okM S63 → ((rv65 ≠ 0 → M_X7_laysJoints S63 (fun _ S70 => okM S70 → M_X7_laysMatrix (-1) 1 S70 (fun rv77 S75 => r32 rv77 → okM S75 → M_X7_brings (S75 0 20) rv77 S75 (fun rv82 S80 => r32 rv82 → okM S80 → (r32 (rv77 - rv82) ∧ ((a0 < (rv77 - rv82) → R_X7_balance_64 a0 a1 rv77 0 0 S80 Qr Qx) ∧ ((rv77 - rv82) ≤ a0 → Qr (-1) S80)))) Qx) Qx) Qx) ∧ (rv65 = 0 → Qr 0 S63))) Qx))))) Qx) : M_X7_balance a0 a1 S Qr Qx := by
  intro ra0 ra1
  refine MM_of adM (by decide +kernel) rfl (Lf := fun G => [some (.ref (G.2.2 0)), some (iV a0), some (iV a1), none, none, none, none]) (fun G => by show _ ≤ _; exact Nat.le_of_ble_eq_true rfl) (fun G => rfl) ?_
  intro p l e s m args below meth c G A C hok
  have h := h ra0 ra1 hok
  replace C : Cx wM cX7_balance 7 RX7 wsX7_balance (some .int) [] p l s m args meth c G A := C
  show J wM 7 rmX7_balance p l e s m args below meth c G A (QQ 1 wM okM G Qr Qx A below args s rmX7_balance.cells rmX7_balance.slots) 0 0 S [some (.ref (G.2.2 0)), some (iV a0), some (iV a1), none, none, none, none] [] 0
  refine J_aload_n (pc := 0) C dX7_balance_0 rfl ?_
  refine J_aload_n (pc := 1) C dX7_balance_1 rfl ?_
  refine J_iload_n (pc := 2) C dX7_balance_2 rfl ?_
  refine J_c1 (pc := 3) C (J_rV (pc := 3) C (h ra1) dX7_balance_3 rfl rfl 0 rfl rfl (cwV 1 C.1.2.2.2.2 gX7_balance_X7_isMember rfl rfl rfl (by decide +kernel) ⟨Nat.le_of_ble_eq_true rfl, Nat.le_of_ble_eq_true rfl⟩) hok (Nat.le_of_ble_eq_true rfl) ⟨Nat.le_of_ble_eq_true rfl, Nat.le_of_ble_eq_true rfl⟩) (fun E9 S9 ok9 q9 => JX_out C ok9 q9 (by decide) (by decide)) (fun rv4 S2 hr5 hok3 h1 => ?_)
  have h1 := h1 hr5 hok3
  obtain ⟨h6, h7⟩ := h1
  refine J_if_eq (pc := 6) (tgt := 17) C dX7_balance_6 (by decide) hr5 (fun cb => ?_) (fun cb => ?_)
  · have h6 := h6 cb
    refine J_iconst (pc := 17) C dX7_balance_17 ?_
    refine J_c1 (pc := 18) C (J_rV (pc := 18) C (h6 (by decide)) dX7_balance_18 rfl rfl 0 rfl rfl (cwV 1 C.1.2.2.2.2 gX7_balance_X7_holds rfl rfl rfl (by decide +kernel) ⟨Nat.le_of_ble_eq_true rfl, Nat.le_of_ble_eq_true rfl⟩) hok3 (Nat.le_of_ble_eq_true rfl) ⟨Nat.le_of_ble_eq_true rfl, Nat.le_of_ble_eq_true rfl⟩) (fun E9 S9 ok9 q9 => JX_out C ok9 q9 (by decide) (by decide)) (fun rv11 S9 hr12 hok10 h8 => ?_)
    have h8 := h8 hr12 hok10
    obtain ⟨h13, h14⟩ := h8
    refine J_if_ne (pc := 21) (tgt := 26) C dX7_balance_21 (by decide) hr12 (fun cb => ?_) (fun cb => ?_)
    · have h13 := h13 cb
      refine J_aload_n (pc := 26) C dX7_balance_26 rfl ?_
      refine J_c0 (pc := 27) C (J_rV (pc := 27) C h13 dX7_balance_27 rfl rfl 0 rfl rfl (cwV 0 C.1.2.2.2.2 gX7_balance_X7_laysJoints rfl rfl rfl (by decide +kernel) ⟨Nat.le_of_ble_eq_true rfl, Nat.le_of_ble_eq_true rfl⟩) hok10 (Nat.le_of_ble_eq_true rfl) ⟨Nat.le_of_ble_eq_true rfl, Nat.le_of_ble_eq_true rfl⟩) (fun E9 S9 ok9 q9 => JX_out C ok9 q9 (by decide) (by decide)) (fun S16 hok17 h15 => ?_)
      have h15 := h15 hok17
      refine J_aload_n (pc := 30) C dX7_balance_30 rfl ?_
      refine J_iconst (pc := 31) C dX7_balance_31 ?_
      refine J_iconst (pc := 32) C dX7_balance_32 ?_
      refine J_c1 (pc := 33) C (J_rV (pc := 33) C (h15 (by decide) (by decide)) dX7_balance_33 rfl rfl 0 rfl rfl (cwV 2 C.1.2.2.2.2 gX7_balance_X7_laysMatrix rfl rfl rfl (by decide +kernel) ⟨Nat.le_of_ble_eq_true rfl, Nat.le_of_ble_eq_true rfl⟩) hok17 (Nat.le_of_ble_eq_true rfl) ⟨Nat.le_of_ble_eq_true rfl, Nat.le_of_ble_eq_true rfl⟩) (fun E9 S9 ok9 q9 => JX_out C ok9 q9 (by decide) (by decide)) (fun rv23 S21 hr24 hok22 h20 => ?_)
      have h20 := h20 hr24 hok22
      refine J_istore_n (pc := 36) C dX7_balance_36 (by decide) ?_
      refine J_aload_n (pc := 37) C dX7_balance_37 rfl ?_
      refine J_aload_n (pc := 38) C dX7_balance_38 rfl ?_
      refine J_get (pc := 39) C dX7_balance_39 0 rfl rfl nX7_balance_X7 20 (by decide) mX7_balance_f121 rfl (v := iV (S21 0 20)) rfl ?_
      refine J_iload_n (pc := 42) C dX7_balance_42 rfl ?_
      refine J_c1 (pc := 43) C (J_rV (pc := 43) C (h20 (hok22 0 20) hr24) dX7_balance_43 rfl rfl 0 rfl rfl (cwV 2 C.1.2.2.2.2 gX7_balance_X7_brings rfl rfl rfl (by decide +kernel) ⟨Nat.le_of_ble_eq_true rfl, Nat.le_of_ble_eq_true rfl⟩) hok22 (Nat.le_of_ble_eq_true rfl) ⟨Nat.le_of_ble_eq_true rfl, Nat.le_of_ble_eq_true rfl⟩) (fun E9 S9 ok9 q9 => JX_out C ok9 q9 (by decide) (by decide)) (fun rv28 S26 hr29 hok27 h25 => ?_)
      have h25 := h25 hr29 hok27
      refine J_istore (pc := 46) C dX7_balance_46 (by decide) ?_
      refine J_iload_n (pc := 48) C dX7_balance_48 rfl ?_
      refine J_iload_n (pc := 49) C dX7_balance_49 rfl ?_
      refine J_iload (pc := 50) C dX7_balance_50 rfl ?_
      refine J_isub (pc := 52) C dX7_balance_52 ?_
      obtain ⟨o30, h31⟩ := h25
      obtain ⟨h32, h33⟩ := h31
      refine J_icmp_lt (pc := 53) (tgt := 58) C dX7_balance_53 (by decide) ra0 o30 (fun cb => ?_) (fun cb => ?_)
      · have h32 := h32 cb
        refine J_iconst (pc := 58) C dX7_balance_58 ?_
        refine J_istore (pc := 59) C dX7_balance_59 (by decide) ?_
        refine J_iconst (pc := 61) C dX7_balance_61 ?_
        refine J_istore (pc := 62) C dX7_balance_62 (by decide) ?_
        exact J_sub (L1 := [some (.ref (G.2.2 0)), some (iV a0), some (iV a1), some (iV rv23), none, some (iV 0), some (iV 0)]) ⟨rfl, ⟨rfl, ⟨rfl, ⟨rfl, ⟨rfl, ⟨rfl, trivial⟩⟩⟩⟩⟩⟩ (h32 ra0 ra1 hr24 (by decide) (by decide) p l e s m args below meth c G A C hok27)
      · have h33 := h33 cb
        refine J_iconst (pc := 56) C dX7_balance_56 ?_
        exact J_iret (pc := 57) C dX7_balance_57 (by decide) hok27 h33 (by decide) (by decide)
    · have h14 := h14 cb
      refine J_iconst (pc := 24) C dX7_balance_24 ?_
      exact J_iret (pc := 25) C dX7_balance_25 (by decide) hok10 h14 (by decide) (by decide)
  · have h7 := h7 cb
    refine J_iload_n (pc := 9) C dX7_balance_9 rfl ?_
    obtain ⟨h34, h35⟩ := h7
    refine J_if_lt (pc := 10) (tgt := 17) C dX7_balance_10 (by decide) ra0 (fun cb => ?_) (fun cb => ?_)
    · have h34 := h34 cb
      refine J_iconst (pc := 17) C dX7_balance_17 ?_
      refine J_c1 (pc := 18) C (J_rV (pc := 18) C (h34 (by decide)) dX7_balance_18 rfl rfl 0 rfl rfl (cwV 1 C.1.2.2.2.2 gX7_balance_X7_holds rfl rfl rfl (by decide +kernel) ⟨Nat.le_of_ble_eq_true rfl, Nat.le_of_ble_eq_true rfl⟩) hok3 (Nat.le_of_ble_eq_true rfl) ⟨Nat.le_of_ble_eq_true rfl, Nat.le_of_ble_eq_true rfl⟩) (fun E9 S9 ok9 q9 => JX_out C ok9 q9 (by decide) (by decide)) (fun rv39 S37 hr40 hok38 h36 => ?_)
      have h36 := h36 hr40 hok38
      obtain ⟨h41, h42⟩ := h36
      refine J_if_ne (pc := 21) (tgt := 26) C dX7_balance_21 (by decide) hr40 (fun cb => ?_) (fun cb => ?_)
      · have h41 := h41 cb
        refine J_aload_n (pc := 26) C dX7_balance_26 rfl ?_
        refine J_c0 (pc := 27) C (J_rV (pc := 27) C h41 dX7_balance_27 rfl rfl 0 rfl rfl (cwV 0 C.1.2.2.2.2 gX7_balance_X7_laysJoints rfl rfl rfl (by decide +kernel) ⟨Nat.le_of_ble_eq_true rfl, Nat.le_of_ble_eq_true rfl⟩) hok38 (Nat.le_of_ble_eq_true rfl) ⟨Nat.le_of_ble_eq_true rfl, Nat.le_of_ble_eq_true rfl⟩) (fun E9 S9 ok9 q9 => JX_out C ok9 q9 (by decide) (by decide)) (fun S44 hok45 h43 => ?_)
        have h43 := h43 hok45
        refine J_aload_n (pc := 30) C dX7_balance_30 rfl ?_
        refine J_iconst (pc := 31) C dX7_balance_31 ?_
        refine J_iconst (pc := 32) C dX7_balance_32 ?_
        refine J_c1 (pc := 33) C (J_rV (pc := 33) C (h43 (by decide) (by decide)) dX7_balance_33 rfl rfl 0 rfl rfl (cwV 2 C.1.2.2.2.2 gX7_balance_X7_laysMatrix rfl rfl rfl (by decide +kernel) ⟨Nat.le_of_ble_eq_true rfl, Nat.le_of_ble_eq_true rfl⟩) hok45 (Nat.le_of_ble_eq_true rfl) ⟨Nat.le_of_ble_eq_true rfl, Nat.le_of_ble_eq_true rfl⟩) (fun E9 S9 ok9 q9 => JX_out C ok9 q9 (by decide) (by decide)) (fun rv51 S49 hr52 hok50 h48 => ?_)
        have h48 := h48 hr52 hok50
        refine J_istore_n (pc := 36) C dX7_balance_36 (by decide) ?_
        refine J_aload_n (pc := 37) C dX7_balance_37 rfl ?_
        refine J_aload_n (pc := 38) C dX7_balance_38 rfl ?_
        refine J_get (pc := 39) C dX7_balance_39 0 rfl rfl nX7_balance_X7 20 (by decide) mX7_balance_f121 rfl (v := iV (S49 0 20)) rfl ?_
        refine J_iload_n (pc := 42) C dX7_balance_42 rfl ?_
        refine J_c1 (pc := 43) C (J_rV (pc := 43) C (h48 (hok50 0 20) hr52) dX7_balance_43 rfl rfl 0 rfl rfl (cwV 2 C.1.2.2.2.2 gX7_balance_X7_brings rfl rfl rfl (by decide +kernel) ⟨Nat.le_of_ble_eq_true rfl, Nat.le_of_ble_eq_true rfl⟩) hok50 (Nat.le_of_ble_eq_true rfl) ⟨Nat.le_of_ble_eq_true rfl, Nat.le_of_ble_eq_true rfl⟩) (fun E9 S9 ok9 q9 => JX_out C ok9 q9 (by decide) (by decide)) (fun rv56 S54 hr57 hok55 h53 => ?_)
        have h53 := h53 hr57 hok55
        refine J_istore (pc := 46) C dX7_balance_46 (by decide) ?_
        refine J_iload_n (pc := 48) C dX7_balance_48 rfl ?_
        refine J_iload_n (pc := 49) C dX7_balance_49 rfl ?_
        refine J_iload (pc := 50) C dX7_balance_50 rfl ?_
        refine J_isub (pc := 52) C dX7_balance_52 ?_
        obtain ⟨o58, h59⟩ := h53
        obtain ⟨h60, h61⟩ := h59
        refine J_icmp_lt (pc := 53) (tgt := 58) C dX7_balance_53 (by decide) ra0 o58 (fun cb => ?_) (fun cb => ?_)
        · have h60 := h60 cb
          refine J_iconst (pc := 58) C dX7_balance_58 ?_
          refine J_istore (pc := 59) C dX7_balance_59 (by decide) ?_
          refine J_iconst (pc := 61) C dX7_balance_61 ?_
          refine J_istore (pc := 62) C dX7_balance_62 (by decide) ?_
          exact J_sub (L1 := [some (.ref (G.2.2 0)), some (iV a0), some (iV a1), some (iV rv51), none, some (iV 0), some (iV 0)]) ⟨rfl, ⟨rfl, ⟨rfl, ⟨rfl, ⟨rfl, ⟨rfl, trivial⟩⟩⟩⟩⟩⟩ (h60 ra0 ra1 hr52 (by decide) (by decide) p l e s m args below meth c G A C hok55)
        · have h61 := h61 cb
          refine J_iconst (pc := 56) C dX7_balance_56 ?_
          exact J_iret (pc := 57) C dX7_balance_57 (by decide) hok55 h61 (by decide) (by decide)
      · have h42 := h42 cb
        refine J_iconst (pc := 24) C dX7_balance_24 ?_
        exact J_iret (pc := 25) C dX7_balance_25 (by decide) hok38 h42 (by decide) (by decide)
    · have h35 := h35 cb
      refine J_iconst (pc := 13) C dX7_balance_13 ?_
      refine J_goto (pc := 14) (tgt := 18) C dX7_balance_14 (by decide) ?_
      refine J_c1 (pc := 18) C (J_rV (pc := 18) C (h35 (by decide)) dX7_balance_18 rfl rfl 0 rfl rfl (cwV 1 C.1.2.2.2.2 gX7_balance_X7_holds rfl rfl rfl (by decide +kernel) ⟨Nat.le_of_ble_eq_true rfl, Nat.le_of_ble_eq_true rfl⟩) hok3 (Nat.le_of_ble_eq_true rfl) ⟨Nat.le_of_ble_eq_true rfl, Nat.le_of_ble_eq_true rfl⟩) (fun E9 S9 ok9 q9 => JX_out C ok9 q9 (by decide) (by decide)) (fun rv65 S63 hr66 hok64 h62 => ?_)
      have h62 := h62 hr66 hok64
      obtain ⟨h67, h68⟩ := h62
      refine J_if_ne (pc := 21) (tgt := 26) C dX7_balance_21 (by decide) hr66 (fun cb => ?_) (fun cb => ?_)
      · have h67 := h67 cb
        refine J_aload_n (pc := 26) C dX7_balance_26 rfl ?_
        refine J_c0 (pc := 27) C (J_rV (pc := 27) C h67 dX7_balance_27 rfl rfl 0 rfl rfl (cwV 0 C.1.2.2.2.2 gX7_balance_X7_laysJoints rfl rfl rfl (by decide +kernel) ⟨Nat.le_of_ble_eq_true rfl, Nat.le_of_ble_eq_true rfl⟩) hok64 (Nat.le_of_ble_eq_true rfl) ⟨Nat.le_of_ble_eq_true rfl, Nat.le_of_ble_eq_true rfl⟩) (fun E9 S9 ok9 q9 => JX_out C ok9 q9 (by decide) (by decide)) (fun S70 hok71 h69 => ?_)
        have h69 := h69 hok71
        refine J_aload_n (pc := 30) C dX7_balance_30 rfl ?_
        refine J_iconst (pc := 31) C dX7_balance_31 ?_
        refine J_iconst (pc := 32) C dX7_balance_32 ?_
        refine J_c1 (pc := 33) C (J_rV (pc := 33) C (h69 (by decide) (by decide)) dX7_balance_33 rfl rfl 0 rfl rfl (cwV 2 C.1.2.2.2.2 gX7_balance_X7_laysMatrix rfl rfl rfl (by decide +kernel) ⟨Nat.le_of_ble_eq_true rfl, Nat.le_of_ble_eq_true rfl⟩) hok71 (Nat.le_of_ble_eq_true rfl) ⟨Nat.le_of_ble_eq_true rfl, Nat.le_of_ble_eq_true rfl⟩) (fun E9 S9 ok9 q9 => JX_out C ok9 q9 (by decide) (by decide)) (fun rv77 S75 hr78 hok76 h74 => ?_)
        have h74 := h74 hr78 hok76
        refine J_istore_n (pc := 36) C dX7_balance_36 (by decide) ?_
        refine J_aload_n (pc := 37) C dX7_balance_37 rfl ?_
        refine J_aload_n (pc := 38) C dX7_balance_38 rfl ?_
        refine J_get (pc := 39) C dX7_balance_39 0 rfl rfl nX7_balance_X7 20 (by decide) mX7_balance_f121 rfl (v := iV (S75 0 20)) rfl ?_
        refine J_iload_n (pc := 42) C dX7_balance_42 rfl ?_
        refine J_c1 (pc := 43) C (J_rV (pc := 43) C (h74 (hok76 0 20) hr78) dX7_balance_43 rfl rfl 0 rfl rfl (cwV 2 C.1.2.2.2.2 gX7_balance_X7_brings rfl rfl rfl (by decide +kernel) ⟨Nat.le_of_ble_eq_true rfl, Nat.le_of_ble_eq_true rfl⟩) hok76 (Nat.le_of_ble_eq_true rfl) ⟨Nat.le_of_ble_eq_true rfl, Nat.le_of_ble_eq_true rfl⟩) (fun E9 S9 ok9 q9 => JX_out C ok9 q9 (by decide) (by decide)) (fun rv82 S80 hr83 hok81 h79 => ?_)
        have h79 := h79 hr83 hok81
        refine J_istore (pc := 46) C dX7_balance_46 (by decide) ?_
        refine J_iload_n (pc := 48) C dX7_balance_48 rfl ?_
        refine J_iload_n (pc := 49) C dX7_balance_49 rfl ?_
        refine J_iload (pc := 50) C dX7_balance_50 rfl ?_
        refine J_isub (pc := 52) C dX7_balance_52 ?_
        obtain ⟨o84, h85⟩ := h79
        obtain ⟨h86, h87⟩ := h85
        refine J_icmp_lt (pc := 53) (tgt := 58) C dX7_balance_53 (by decide) ra0 o84 (fun cb => ?_) (fun cb => ?_)
        · have h86 := h86 cb
          refine J_iconst (pc := 58) C dX7_balance_58 ?_
          refine J_istore (pc := 59) C dX7_balance_59 (by decide) ?_
          refine J_iconst (pc := 61) C dX7_balance_61 ?_
          refine J_istore (pc := 62) C dX7_balance_62 (by decide) ?_
          exact J_sub (L1 := [some (.ref (G.2.2 0)), some (iV a0), some (iV a1), some (iV rv77), none, some (iV 0), some (iV 0)]) ⟨rfl, ⟨rfl, ⟨rfl, ⟨rfl, ⟨rfl, ⟨rfl, trivial⟩⟩⟩⟩⟩⟩ (h86 ra0 ra1 hr78 (by decide) (by decide) p l e s m args below meth c G A C hok81)
        · have h87 := h87 cb
          refine J_iconst (pc := 56) C dX7_balance_56 ?_
          exact J_iret (pc := 57) C dX7_balance_57 (by decide) hok81 h87 (by decide) (by decide)
      · have h68 := h68 cb
        refine J_iconst (pc := 24) C dX7_balance_24 ?_
        exact J_iret (pc := 25) C dX7_balance_25 (by decide) hok64 h68 (by decide) (by decide)
set_option maxRecDepth 100000 in
set_option maxHeartbeats 4000000 in
theorem vc_X7_balance_64 {x1 x2 x3 x5 x6 : Int} {S : St} {Qr : Int → St → Prop} {Qx : String → St → Prop} (h : r32 x1 → r32 x2 → r32 x3 → r32 x5 → r32 x6 → okM S → ((x2 ≤ x6 → M_X7_free x1 x3 S (fun rv6 S4 => r32 rv6 → okM S4 → M_X7_has rv6 x5 S4 (fun rv11 S9 => r32 rv11 → okM S9 → Qr rv11 S9) Qx) Qx) ∧ (x6 < x2 → (ix x6 40 ∧ (((S 9 x6) = 0 → (r32 (x5 + 1) ∧ (r32 (x6 + 1) ∧ R_X7_balance_64 x1 x2 x3 (x5 + 1) (x6 + 1) S Qr Qx))) ∧ ((S 9 x6) ≠ 0 → (r32 (x5 + 0) ∧ (r32 (x6 + 1) ∧ R_X7_balance_64 x1 x2 x3 (x5 + 0) (x6 + 1) S Qr Qx)))))))) : R_X7_balance_64 x1 x2 x3 x5 x6 S Qr Qx := by
  intro rx1 rx2 rx3 rx5 rx6
  intro p l e s m args below meth c G A C hok
  have h := h rx1 rx2 rx3 rx5 rx6 hok
  replace C : Cx wM cX7_balance 7 RX7 wsX7_balance (some .int) [] p l s m args meth c G A := C
  show J wM 7 rmX7_balance p l e s m args below meth c G A (QQ 1 wM okM G Qr Qx A below args s rmX7_balance.cells rmX7_balance.slots) 0 0 S [some (.ref (G.2.2 0)), some (iV x1), some (iV x2), some (iV x3), none, some (iV x5), some (iV x6)] [] 64
  refine J_iload (pc := 64) C dX7_balance_64 rfl ?_
  refine J_iload_n (pc := 66) C dX7_balance_66 rfl ?_
  obtain ⟨h1, h2⟩ := h
  refine J_icmp_ge (pc := 67) (tgt := 96) C dX7_balance_67 (by decide) rx6 rx2 (fun cb => ?_) (fun cb => ?_)
  · have h1 := h1 cb
    refine J_aload_n (pc := 96) C dX7_balance_96 rfl ?_
    refine J_aload_n (pc := 97) C dX7_balance_97 rfl ?_
    refine J_iload_n (pc := 98) C dX7_balance_98 rfl ?_
    refine J_iload_n (pc := 99) C dX7_balance_99 rfl ?_
    refine J_c1 (pc := 100) C (J_rV (pc := 100) C (h1 rx1 rx3) dX7_balance_100 rfl rfl 0 rfl rfl (cwV 2 C.1.2.2.2.2 gX7_balance_X7_free rfl rfl rfl (by decide +kernel) ⟨Nat.le_of_ble_eq_true rfl, Nat.le_of_ble_eq_true rfl⟩) hok (Nat.le_of_ble_eq_true rfl) ⟨Nat.le_of_ble_eq_true rfl, Nat.le_of_ble_eq_true rfl⟩) (fun E9 S9 ok9 q9 => JX_out C ok9 q9 (by decide) (by decide)) (fun rv6 S4 hr7 hok5 h3 => ?_)
    have h3 := h3 hr7 hok5
    refine J_iload (pc := 103) C dX7_balance_103 rfl ?_
    refine J_c1 (pc := 105) C (J_rV (pc := 105) C (h3 hr7 rx5) dX7_balance_105 rfl rfl 0 rfl rfl (cwV 2 C.1.2.2.2.2 gX7_balance_X7_has rfl rfl rfl (by decide +kernel) ⟨Nat.le_of_ble_eq_true rfl, Nat.le_of_ble_eq_true rfl⟩) hok5 (Nat.le_of_ble_eq_true rfl) ⟨Nat.le_of_ble_eq_true rfl, Nat.le_of_ble_eq_true rfl⟩) (fun E9 S9 ok9 q9 => JX_out C ok9 q9 (by decide) (by decide)) (fun rv11 S9 hr12 hok10 h8 => ?_)
    have h8 := h8 hr12 hok10
    exact J_iret (pc := 108) C dX7_balance_108 hr12 hok10 h8 (by decide) (by decide)
  · have h2 := h2 cb
    refine J_iload (pc := 70) C dX7_balance_70 rfl ?_
    refine J_aload_n (pc := 72) C dX7_balance_72 rfl ?_
    refine J_get (pc := 73) C dX7_balance_73 0 rfl rfl nX7_balance_X7 11 (by decide) mX7_balance_f35 rfl (v := .ref (G.2.2 9)) rfl ?_
    refine J_iload (pc := 76) C dX7_balance_76 rfl ?_
    obtain ⟨o13, h14⟩ := h2
    refine J_zald (pc := 78) C dX7_balance_78 9 9 rfl (by decide) o13 ?_
    obtain ⟨h15, h16⟩ := h14
    refine J_if_eq (pc := 79) (tgt := 86) C dX7_balance_79 (by decide) (r01 (hok 9 x6)) (fun cb => ?_) (fun cb => ?_)
    · have h15 := h15 cb
      refine J_iconst (pc := 86) C dX7_balance_86 ?_
      refine J_iadd (pc := 87) C dX7_balance_87 ?_
      refine J_istore (pc := 88) C dX7_balance_88 (by decide) ?_
      refine J_iinc (pc := 90) C dX7_balance_90 rfl (by decide) ?_
      refine J_goto (pc := 93) (tgt := 64) C dX7_balance_93 (by decide) ?_
      obtain ⟨o17, h18⟩ := h15
      obtain ⟨o19, h20⟩ := h18
      exact J_sub (L1 := [some (.ref (G.2.2 0)), some (iV x1), some (iV x2), some (iV x3), none, some (iV (x5 + 1)), some (iV (x6 + 1))]) ⟨rfl, ⟨rfl, ⟨rfl, ⟨rfl, ⟨rfl, ⟨rfl, trivial⟩⟩⟩⟩⟩⟩ (h20 rx1 rx2 rx3 o17 o19 p l e s m args below meth c G A C hok)
    · have h16 := h16 cb
      refine J_iconst (pc := 82) C dX7_balance_82 ?_
      refine J_goto (pc := 83) (tgt := 87) C dX7_balance_83 (by decide) ?_
      refine J_iadd (pc := 87) C dX7_balance_87 ?_
      refine J_istore (pc := 88) C dX7_balance_88 (by decide) ?_
      refine J_iinc (pc := 90) C dX7_balance_90 rfl (by decide) ?_
      refine J_goto (pc := 93) (tgt := 64) C dX7_balance_93 (by decide) ?_
      obtain ⟨o21, h22⟩ := h16
      obtain ⟨o23, h24⟩ := h22
      exact J_sub (L1 := [some (.ref (G.2.2 0)), some (iV x1), some (iV x2), some (iV x3), none, some (iV (x5 + 0)), some (iV (x6 + 1))]) ⟨rfl, ⟨rfl, ⟨rfl, ⟨rfl, ⟨rfl, ⟨rfl, trivial⟩⟩⟩⟩⟩⟩ (h24 rx1 rx2 rx3 o21 o23 p l e s m args below meth c G A C hok)
def rmX7_between : Room := { frames := 0, cells := 0, slots := 0, locals := 0 }
theorem mX7_between_f83 : Cond.fieldLink RX7 83 "StressworkModel" "members" "I" ∈ wsX7_between := by decide +kernel
theorem nX7_between_X7 : ∀ x ∈ wsX70, x ∈ wsX7_between := by decide +kernel
theorem mX7_between_f23 : Cond.fieldLink RX7 23 "StressworkModel" "one" "[I" ∈ wsX7_between := by decide +kernel
theorem mX7_between_f26 : Cond.fieldLink RX7 26 "StressworkModel" "other" "[I" ∈ wsX7_between := by decide +kernel
theorem mX7_between_f35 : Cond.fieldLink RX7 35 "StressworkModel" "isGone" "[Z" ∈ wsX7_between := by decide +kernel
def M_X7_between (a0 a1 : Int) (S : St) (Qr : Int → St → Prop) (Qx : String → St → Prop) : Prop := r32 a0 → r32 a1 → MM 1 wM okM yX7_between wsX7_between rmX7_between (fun G => [.ref (G.2.2 0), iV a0, iV a1]) S Qr Qx
def R_X7_between_5 (x1 x2 x3 x4 : Int) (S : St) (Qr : Int → St → Prop) (Qx : String → St → Prop) : Prop := r32 x1 → r32 x2 → r32 x3 → r32 x4 → RR 1 wM okM wsX7_between rmX7_between cX7_between 6 RX7 (some .int) [] 0 0 (fun G => [some (.ref (G.2.2 0)), some (iV x1), some (iV x2), some (iV x3), some (iV x4), none]) (fun G => []) 5 S Qr Qx
set_option maxRecDepth 100000 in
set_option maxHeartbeats 4000000 in
theorem vc_X7_between {a0 a1 : Int} {S : St} {Qr : Int → St → Prop} {Qx : String → St → Prop} (h : r32 a0 → r32 a1 → okM S → R_X7_between_5 a0 a1 (-1) 0 S Qr Qx) : M_X7_between a0 a1 S Qr Qx := by
  intro ra0 ra1
  refine MM_of adM (by decide +kernel) rfl (Lf := fun G => [some (.ref (G.2.2 0)), some (iV a0), some (iV a1), none, none, none]) (fun G => by show _ ≤ _; exact Nat.le_of_ble_eq_true rfl) (fun G => rfl) ?_
  intro p l e s m args below meth c G A C hok
  have h := h ra0 ra1 hok
  replace C : Cx wM cX7_between 6 RX7 wsX7_between (some .int) [] p l s m args meth c G A := C
  show J wM 6 rmX7_between p l e s m args below meth c G A (QQ 1 wM okM G Qr Qx A below args s rmX7_between.cells rmX7_between.slots) 0 0 S [some (.ref (G.2.2 0)), some (iV a0), some (iV a1), none, none, none] [] 0
  refine J_iconst (pc := 0) C dX7_between_0 ?_
  refine J_istore_n (pc := 1) C dX7_between_1 (by decide) ?_
  refine J_iconst (pc := 2) C dX7_between_2 ?_
  refine J_istore (pc := 3) C dX7_between_3 (by decide) ?_
  exact J_sub (L1 := [some (.ref (G.2.2 0)), some (iV a0), some (iV a1), some (iV (-1)), some (iV 0), none]) ⟨rfl, ⟨rfl, ⟨rfl, ⟨rfl, ⟨rfl, trivial⟩⟩⟩⟩⟩ (h ra0 ra1 (by decide) (by decide) p l e s m args below meth c G A C hok)
set_option maxRecDepth 100000 in
set_option maxHeartbeats 4000000 in
theorem vc_X7_between_5 {x1 x2 x3 x4 : Int} {S : St} {Qr : Int → St → Prop} {Qx : String → St → Prop} (h : r32 x1 → r32 x2 → r32 x3 → r32 x4 → okM S → (((S 0 6) ≤ x4 → Qr x3 S) ∧ (x4 < (S 0 6) → (ix x4 40 ∧ (((S 5 x4) ≠ x1 → (((S 5 x4) ≠ x2 → (r32 (x4 + 1) ∧ R_X7_between_5 x1 x2 x3 (x4 + 1) S Qr Qx)) ∧ ((S 5 x4) = x2 → (((S 6 x4) ≠ x1 → (r32 (x4 + 1) ∧ R_X7_between_5 x1 x2 x3 (x4 + 1) S Qr Qx)) ∧ ((S 6 x4) = x1 → (((S 9 x4) ≠ 0 → (r32 (x4 + 1) ∧ R_X7_between_5 x1 x2 x3 (x4 + 1) S Qr Qx)) ∧ ((S 9 x4) = 0 → (r32 (x4 + 1) ∧ R_X7_between_5 x1 x2 x4 (x4 + 1) S Qr Qx)))))))) ∧ ((S 5 x4) = x1 → (((S 6 x4) = x2 → (((S 9 x4) ≠ 0 → (r32 (x4 + 1) ∧ R_X7_between_5 x1 x2 x3 (x4 + 1) S Qr Qx)) ∧ ((S 9 x4) = 0 → (r32 (x4 + 1) ∧ R_X7_between_5 x1 x2 x4 (x4 + 1) S Qr Qx)))) ∧ ((S 6 x4) ≠ x2 → (((S 5 x4) ≠ x2 → (r32 (x4 + 1) ∧ R_X7_between_5 x1 x2 x3 (x4 + 1) S Qr Qx)) ∧ ((S 5 x4) = x2 → (((S 6 x4) ≠ x1 → (r32 (x4 + 1) ∧ R_X7_between_5 x1 x2 x3 (x4 + 1) S Qr Qx)) ∧ ((S 6 x4) = x1 → (((S 9 x4) ≠ 0 → (r32 (x4 + 1) ∧ R_X7_between_5 x1 x2 x3 (x4 + 1) S Qr Qx)) ∧ ((S 9 x4) = 0 → (r32 (x4 + 1) ∧ R_X7_between_5 x1 x2 x4 (x4 + 1) S Qr Qx))))))))))))))) : R_X7_between_5 x1 x2 x3 x4 S Qr Qx := by
  intro rx1 rx2 rx3 rx4
  intro p l e s m args below meth c G A C hok
  have h := h rx1 rx2 rx3 rx4 hok
  replace C : Cx wM cX7_between 6 RX7 wsX7_between (some .int) [] p l s m args meth c G A := C
  show J wM 6 rmX7_between p l e s m args below meth c G A (QQ 1 wM okM G Qr Qx A below args s rmX7_between.cells rmX7_between.slots) 0 0 S [some (.ref (G.2.2 0)), some (iV x1), some (iV x2), some (iV x3), some (iV x4), none] [] 5
  refine J_iload (pc := 5) C dX7_between_5 rfl ?_
  refine J_aload_n (pc := 7) C dX7_between_7 rfl ?_
  refine J_get (pc := 8) C dX7_between_8 0 rfl rfl nX7_between_X7 6 (by decide) mX7_between_f83 rfl (v := iV (S 0 6)) rfl ?_
  obtain ⟨h1, h2⟩ := h
  refine J_icmp_ge (pc := 11) (tgt := 93) C dX7_between_11 (by decide) rx4 (hok 0 6) (fun cb => ?_) (fun cb => ?_)
  · have h1 := h1 cb
    refine J_iload_n (pc := 93) C dX7_between_93 rfl ?_
    exact J_iret (pc := 94) C dX7_between_94 rx3 hok h1 (by decide) (by decide)
  · have h2 := h2 cb
    refine J_aload_n (pc := 14) C dX7_between_14 rfl ?_
    refine J_get (pc := 15) C dX7_between_15 0 rfl rfl nX7_between_X7 7 (by decide) mX7_between_f23 rfl (v := .ref (G.2.2 5)) rfl ?_
    refine J_iload (pc := 18) C dX7_between_18 rfl ?_
    obtain ⟨o3, h4⟩ := h2
    refine J_iald (pc := 20) C dX7_between_20 5 5 rfl (by decide) o3 ?_
    refine J_iload_n (pc := 21) C dX7_between_21 rfl ?_
    obtain ⟨h5, h6⟩ := h4
    refine J_icmp_ne (pc := 22) (tgt := 36) C dX7_between_22 (by decide) (hok 5 x4) rx1 (fun cb => ?_) (fun cb => ?_)
    · have h5 := h5 cb
      refine J_aload_n (pc := 36) C dX7_between_36 rfl ?_
      refine J_get (pc := 37) C dX7_between_37 0 rfl rfl nX7_between_X7 7 (by decide) mX7_between_f23 rfl (v := .ref (G.2.2 5)) rfl ?_
      refine J_iload (pc := 40) C dX7_between_40 rfl ?_
      refine J_iald (pc := 42) C dX7_between_42 5 5 rfl (by decide) o3 ?_
      refine J_iload_n (pc := 43) C dX7_between_43 rfl ?_
      obtain ⟨h7, h8⟩ := h5
      refine J_icmp_ne (pc := 44) (tgt := 62) C dX7_between_44 (by decide) (hok 5 x4) rx2 (fun cb => ?_) (fun cb => ?_)
      · have h7 := h7 cb
        refine J_iconst (pc := 62) C dX7_between_62 ?_
        refine J_istore (pc := 63) C dX7_between_63 (by decide) ?_
        refine J_iload (pc := 65) C dX7_between_65 rfl ?_
        refine J_if_eq (pc := 67) (tgt := 85) C dX7_between_67 (by decide) (by decide) (fun _ => ?_) (fun cb => absurd cb (by decide))
        refine J_iload_n (pc := 85) C dX7_between_85 rfl ?_
        refine J_istore_n (pc := 86) C dX7_between_86 (by decide) ?_
        refine J_iinc (pc := 87) C dX7_between_87 rfl (by decide) ?_
        refine J_goto (pc := 90) (tgt := 5) C dX7_between_90 (by decide) ?_
        obtain ⟨o9, h10⟩ := h7
        exact J_sub (L1 := [some (.ref (G.2.2 0)), some (iV x1), some (iV x2), some (iV x3), some (iV (x4 + 1)), none]) ⟨rfl, ⟨rfl, ⟨rfl, ⟨rfl, ⟨rfl, trivial⟩⟩⟩⟩⟩ (h10 rx1 rx2 rx3 o9 p l e s m args below meth c G A C hok)
      · have h8 := h8 cb
        refine J_aload_n (pc := 47) C dX7_between_47 rfl ?_
        refine J_get (pc := 48) C dX7_between_48 0 rfl rfl nX7_between_X7 8 (by decide) mX7_between_f26 rfl (v := .ref (G.2.2 6)) rfl ?_
        refine J_iload (pc := 51) C dX7_between_51 rfl ?_
        refine J_iald (pc := 53) C dX7_between_53 6 6 rfl (by decide) o3 ?_
        refine J_iload_n (pc := 54) C dX7_between_54 rfl ?_
        obtain ⟨h11, h12⟩ := h8
        refine J_icmp_ne (pc := 55) (tgt := 62) C dX7_between_55 (by decide) (hok 6 x4) rx1 (fun cb => ?_) (fun cb => ?_)
        · have h11 := h11 cb
          refine J_iconst (pc := 62) C dX7_between_62 ?_
          refine J_istore (pc := 63) C dX7_between_63 (by decide) ?_
          refine J_iload (pc := 65) C dX7_between_65 rfl ?_
          refine J_if_eq (pc := 67) (tgt := 85) C dX7_between_67 (by decide) (by decide) (fun _ => ?_) (fun cb => absurd cb (by decide))
          refine J_iload_n (pc := 85) C dX7_between_85 rfl ?_
          refine J_istore_n (pc := 86) C dX7_between_86 (by decide) ?_
          refine J_iinc (pc := 87) C dX7_between_87 rfl (by decide) ?_
          refine J_goto (pc := 90) (tgt := 5) C dX7_between_90 (by decide) ?_
          obtain ⟨o13, h14⟩ := h11
          exact J_sub (L1 := [some (.ref (G.2.2 0)), some (iV x1), some (iV x2), some (iV x3), some (iV (x4 + 1)), none]) ⟨rfl, ⟨rfl, ⟨rfl, ⟨rfl, ⟨rfl, trivial⟩⟩⟩⟩⟩ (h14 rx1 rx2 rx3 o13 p l e s m args below meth c G A C hok)
        · have h12 := h12 cb
          refine J_iconst (pc := 58) C dX7_between_58 ?_
          refine J_goto (pc := 59) (tgt := 63) C dX7_between_59 (by decide) ?_
          refine J_istore (pc := 63) C dX7_between_63 (by decide) ?_
          refine J_iload (pc := 65) C dX7_between_65 rfl ?_
          refine J_if_eq (pc := 67) (tgt := 85) C dX7_between_67 (by decide) (by decide) (fun cb => absurd cb (by decide)) (fun _ => ?_)
          refine J_aload_n (pc := 70) C dX7_between_70 rfl ?_
          refine J_get (pc := 71) C dX7_between_71 0 rfl rfl nX7_between_X7 11 (by decide) mX7_between_f35 rfl (v := .ref (G.2.2 9)) rfl ?_
          refine J_iload (pc := 74) C dX7_between_74 rfl ?_
          refine J_zald (pc := 76) C dX7_between_76 9 9 rfl (by decide) o3 ?_
          obtain ⟨h15, h16⟩ := h12
          refine J_if_ne (pc := 77) (tgt := 85) C dX7_between_77 (by decide) (r01 (hok 9 x4)) (fun cb => ?_) (fun cb => ?_)
          · have h15 := h15 cb
            refine J_iload_n (pc := 85) C dX7_between_85 rfl ?_
            refine J_istore_n (pc := 86) C dX7_between_86 (by decide) ?_
            refine J_iinc (pc := 87) C dX7_between_87 rfl (by decide) ?_
            refine J_goto (pc := 90) (tgt := 5) C dX7_between_90 (by decide) ?_
            obtain ⟨o17, h18⟩ := h15
            exact J_sub (L1 := [some (.ref (G.2.2 0)), some (iV x1), some (iV x2), some (iV x3), some (iV (x4 + 1)), none]) ⟨rfl, ⟨rfl, ⟨rfl, ⟨rfl, ⟨rfl, trivial⟩⟩⟩⟩⟩ (h18 rx1 rx2 rx3 o17 p l e s m args below meth c G A C hok)
          · have h16 := h16 cb
            refine J_iload (pc := 80) C dX7_between_80 rfl ?_
            refine J_goto (pc := 82) (tgt := 86) C dX7_between_82 (by decide) ?_
            refine J_istore_n (pc := 86) C dX7_between_86 (by decide) ?_
            refine J_iinc (pc := 87) C dX7_between_87 rfl (by decide) ?_
            refine J_goto (pc := 90) (tgt := 5) C dX7_between_90 (by decide) ?_
            obtain ⟨o19, h20⟩ := h16
            exact J_sub (L1 := [some (.ref (G.2.2 0)), some (iV x1), some (iV x2), some (iV x4), some (iV (x4 + 1)), none]) ⟨rfl, ⟨rfl, ⟨rfl, ⟨rfl, ⟨rfl, trivial⟩⟩⟩⟩⟩ (h20 rx1 rx2 rx4 o19 p l e s m args below meth c G A C hok)
    · have h6 := h6 cb
      refine J_aload_n (pc := 25) C dX7_between_25 rfl ?_
      refine J_get (pc := 26) C dX7_between_26 0 rfl rfl nX7_between_X7 8 (by decide) mX7_between_f26 rfl (v := .ref (G.2.2 6)) rfl ?_
      refine J_iload (pc := 29) C dX7_between_29 rfl ?_
      refine J_iald (pc := 31) C dX7_between_31 6 6 rfl (by decide) o3 ?_
      refine J_iload_n (pc := 32) C dX7_between_32 rfl ?_
      obtain ⟨h21, h22⟩ := h6
      refine J_icmp_eq (pc := 33) (tgt := 58) C dX7_between_33 (by decide) (hok 6 x4) rx2 (fun cb => ?_) (fun cb => ?_)
      · have h21 := h21 cb
        refine J_iconst (pc := 58) C dX7_between_58 ?_
        refine J_goto (pc := 59) (tgt := 63) C dX7_between_59 (by decide) ?_
        refine J_istore (pc := 63) C dX7_between_63 (by decide) ?_
        refine J_iload (pc := 65) C dX7_between_65 rfl ?_
        refine J_if_eq (pc := 67) (tgt := 85) C dX7_between_67 (by decide) (by decide) (fun cb => absurd cb (by decide)) (fun _ => ?_)
        refine J_aload_n (pc := 70) C dX7_between_70 rfl ?_
        refine J_get (pc := 71) C dX7_between_71 0 rfl rfl nX7_between_X7 11 (by decide) mX7_between_f35 rfl (v := .ref (G.2.2 9)) rfl ?_
        refine J_iload (pc := 74) C dX7_between_74 rfl ?_
        refine J_zald (pc := 76) C dX7_between_76 9 9 rfl (by decide) o3 ?_
        obtain ⟨h23, h24⟩ := h21
        refine J_if_ne (pc := 77) (tgt := 85) C dX7_between_77 (by decide) (r01 (hok 9 x4)) (fun cb => ?_) (fun cb => ?_)
        · have h23 := h23 cb
          refine J_iload_n (pc := 85) C dX7_between_85 rfl ?_
          refine J_istore_n (pc := 86) C dX7_between_86 (by decide) ?_
          refine J_iinc (pc := 87) C dX7_between_87 rfl (by decide) ?_
          refine J_goto (pc := 90) (tgt := 5) C dX7_between_90 (by decide) ?_
          obtain ⟨o25, h26⟩ := h23
          exact J_sub (L1 := [some (.ref (G.2.2 0)), some (iV x1), some (iV x2), some (iV x3), some (iV (x4 + 1)), none]) ⟨rfl, ⟨rfl, ⟨rfl, ⟨rfl, ⟨rfl, trivial⟩⟩⟩⟩⟩ (h26 rx1 rx2 rx3 o25 p l e s m args below meth c G A C hok)
        · have h24 := h24 cb
          refine J_iload (pc := 80) C dX7_between_80 rfl ?_
          refine J_goto (pc := 82) (tgt := 86) C dX7_between_82 (by decide) ?_
          refine J_istore_n (pc := 86) C dX7_between_86 (by decide) ?_
          refine J_iinc (pc := 87) C dX7_between_87 rfl (by decide) ?_
          refine J_goto (pc := 90) (tgt := 5) C dX7_between_90 (by decide) ?_
          obtain ⟨o27, h28⟩ := h24
          exact J_sub (L1 := [some (.ref (G.2.2 0)), some (iV x1), some (iV x2), some (iV x4), some (iV (x4 + 1)), none]) ⟨rfl, ⟨rfl, ⟨rfl, ⟨rfl, ⟨rfl, trivial⟩⟩⟩⟩⟩ (h28 rx1 rx2 rx4 o27 p l e s m args below meth c G A C hok)
      · have h22 := h22 cb
        refine J_aload_n (pc := 36) C dX7_between_36 rfl ?_
        refine J_get (pc := 37) C dX7_between_37 0 rfl rfl nX7_between_X7 7 (by decide) mX7_between_f23 rfl (v := .ref (G.2.2 5)) rfl ?_
        refine J_iload (pc := 40) C dX7_between_40 rfl ?_
        refine J_iald (pc := 42) C dX7_between_42 5 5 rfl (by decide) o3 ?_
        refine J_iload_n (pc := 43) C dX7_between_43 rfl ?_
        obtain ⟨h29, h30⟩ := h22
        refine J_icmp_ne (pc := 44) (tgt := 62) C dX7_between_44 (by decide) (hok 5 x4) rx2 (fun cb => ?_) (fun cb => ?_)
        · have h29 := h29 cb
          refine J_iconst (pc := 62) C dX7_between_62 ?_
          refine J_istore (pc := 63) C dX7_between_63 (by decide) ?_
          refine J_iload (pc := 65) C dX7_between_65 rfl ?_
          refine J_if_eq (pc := 67) (tgt := 85) C dX7_between_67 (by decide) (by decide) (fun _ => ?_) (fun cb => absurd cb (by decide))
          refine J_iload_n (pc := 85) C dX7_between_85 rfl ?_
          refine J_istore_n (pc := 86) C dX7_between_86 (by decide) ?_
          refine J_iinc (pc := 87) C dX7_between_87 rfl (by decide) ?_
          refine J_goto (pc := 90) (tgt := 5) C dX7_between_90 (by decide) ?_
          obtain ⟨o31, h32⟩ := h29
          exact J_sub (L1 := [some (.ref (G.2.2 0)), some (iV x1), some (iV x2), some (iV x3), some (iV (x4 + 1)), none]) ⟨rfl, ⟨rfl, ⟨rfl, ⟨rfl, ⟨rfl, trivial⟩⟩⟩⟩⟩ (h32 rx1 rx2 rx3 o31 p l e s m args below meth c G A C hok)
        · have h30 := h30 cb
          refine J_aload_n (pc := 47) C dX7_between_47 rfl ?_
          refine J_get (pc := 48) C dX7_between_48 0 rfl rfl nX7_between_X7 8 (by decide) mX7_between_f26 rfl (v := .ref (G.2.2 6)) rfl ?_
          refine J_iload (pc := 51) C dX7_between_51 rfl ?_
          refine J_iald (pc := 53) C dX7_between_53 6 6 rfl (by decide) o3 ?_
          refine J_iload_n (pc := 54) C dX7_between_54 rfl ?_
          obtain ⟨h33, h34⟩ := h30
          refine J_icmp_ne (pc := 55) (tgt := 62) C dX7_between_55 (by decide) (hok 6 x4) rx1 (fun cb => ?_) (fun cb => ?_)
          · have h33 := h33 cb
            refine J_iconst (pc := 62) C dX7_between_62 ?_
            refine J_istore (pc := 63) C dX7_between_63 (by decide) ?_
            refine J_iload (pc := 65) C dX7_between_65 rfl ?_
            refine J_if_eq (pc := 67) (tgt := 85) C dX7_between_67 (by decide) (by decide) (fun _ => ?_) (fun cb => absurd cb (by decide))
            refine J_iload_n (pc := 85) C dX7_between_85 rfl ?_
            refine J_istore_n (pc := 86) C dX7_between_86 (by decide) ?_
            refine J_iinc (pc := 87) C dX7_between_87 rfl (by decide) ?_
            refine J_goto (pc := 90) (tgt := 5) C dX7_between_90 (by decide) ?_
            obtain ⟨o35, h36⟩ := h33
            exact J_sub (L1 := [some (.ref (G.2.2 0)), some (iV x1), some (iV x2), some (iV x3), some (iV (x4 + 1)), none]) ⟨rfl, ⟨rfl, ⟨rfl, ⟨rfl, ⟨rfl, trivial⟩⟩⟩⟩⟩ (h36 rx1 rx2 rx3 o35 p l e s m args below meth c G A C hok)
          · have h34 := h34 cb
            refine J_iconst (pc := 58) C dX7_between_58 ?_
            refine J_goto (pc := 59) (tgt := 63) C dX7_between_59 (by decide) ?_
            refine J_istore (pc := 63) C dX7_between_63 (by decide) ?_
            refine J_iload (pc := 65) C dX7_between_65 rfl ?_
            refine J_if_eq (pc := 67) (tgt := 85) C dX7_between_67 (by decide) (by decide) (fun cb => absurd cb (by decide)) (fun _ => ?_)
            refine J_aload_n (pc := 70) C dX7_between_70 rfl ?_
            refine J_get (pc := 71) C dX7_between_71 0 rfl rfl nX7_between_X7 11 (by decide) mX7_between_f35 rfl (v := .ref (G.2.2 9)) rfl ?_
            refine J_iload (pc := 74) C dX7_between_74 rfl ?_
            refine J_zald (pc := 76) C dX7_between_76 9 9 rfl (by decide) o3 ?_
            obtain ⟨h37, h38⟩ := h34
            refine J_if_ne (pc := 77) (tgt := 85) C dX7_between_77 (by decide) (r01 (hok 9 x4)) (fun cb => ?_) (fun cb => ?_)
            · have h37 := h37 cb
              refine J_iload_n (pc := 85) C dX7_between_85 rfl ?_
              refine J_istore_n (pc := 86) C dX7_between_86 (by decide) ?_
              refine J_iinc (pc := 87) C dX7_between_87 rfl (by decide) ?_
              refine J_goto (pc := 90) (tgt := 5) C dX7_between_90 (by decide) ?_
              obtain ⟨o39, h40⟩ := h37
              exact J_sub (L1 := [some (.ref (G.2.2 0)), some (iV x1), some (iV x2), some (iV x3), some (iV (x4 + 1)), none]) ⟨rfl, ⟨rfl, ⟨rfl, ⟨rfl, ⟨rfl, trivial⟩⟩⟩⟩⟩ (h40 rx1 rx2 rx3 o39 p l e s m args below meth c G A C hok)
            · have h38 := h38 cb
              refine J_iload (pc := 80) C dX7_between_80 rfl ?_
              refine J_goto (pc := 82) (tgt := 86) C dX7_between_82 (by decide) ?_
              refine J_istore_n (pc := 86) C dX7_between_86 (by decide) ?_
              refine J_iinc (pc := 87) C dX7_between_87 rfl (by decide) ?_
              refine J_goto (pc := 90) (tgt := 5) C dX7_between_90 (by decide) ?_
              obtain ⟨o41, h42⟩ := h38
              exact J_sub (L1 := [some (.ref (G.2.2 0)), some (iV x1), some (iV x2), some (iV x4), some (iV (x4 + 1)), none]) ⟨rfl, ⟨rfl, ⟨rfl, ⟨rfl, ⟨rfl, trivial⟩⟩⟩⟩⟩ (h42 rx1 rx2 rx4 o41 p l e s m args below meth c G A C hok)
def rmX7_keeps : Room := { frames := 3, cells := 0, slots := 0, locals := 68 }
theorem mX7_keeps_f76 : Cond.fieldLink RX7 76 "StressworkModel" "joints" "I" ∈ wsX7_keeps := by decide +kernel
theorem nX7_keeps_X7 : ∀ x ∈ wsX70, x ∈ wsX7_keeps := by decide +kernel
theorem mX7_keeps_f69 : Cond.fieldLink RX7 69 "StressworkModel" "inside" "[I" ∈ wsX7_keeps := by decide +kernel
theorem mX7_keeps_f83 : Cond.fieldLink RX7 83 "StressworkModel" "members" "I" ∈ wsX7_keeps := by decide +kernel
theorem mX7_keeps_f66 : Cond.fieldLink RX7 66 "StressworkModel" "isKept" "[Z" ∈ wsX7_keeps := by decide +kernel
theorem mX7_keeps_f35 : Cond.fieldLink RX7 35 "StressworkModel" "isGone" "[Z" ∈ wsX7_keeps := by decide +kernel
theorem mX7_keeps_f23 : Cond.fieldLink RX7 23 "StressworkModel" "one" "[I" ∈ wsX7_keeps := by decide +kernel
theorem mX7_keeps_f26 : Cond.fieldLink RX7 26 "StressworkModel" "other" "[I" ∈ wsX7_keeps := by decide +kernel
def M_X7_keeps (a0 : Int) (S : St) (Qr : Int → St → Prop) (Qx : String → St → Prop) : Prop := r32 a0 → MM 1 wM okM yX7_keeps wsX7_keeps rmX7_keeps (fun G => [.ref (G.2.2 0), iV a0]) S Qr Qx
def R_X7_keeps_2 (x1 x2 : Int) (S : St) (Qr : Int → St → Prop) (Qx : String → St → Prop) : Prop := r32 x1 → r32 x2 → RR 1 wM okM wsX7_keeps rmX7_keeps cX7_keeps 6 RX7 (some .int) [] 0 0 (fun G => [some (.ref (G.2.2 0)), some (iV x1), some (iV x2), none, none, none]) (fun G => []) 2 S Qr Qx
def R_X7_keeps_29 (x1 x2 x3 : Int) (S : St) (Qr : Int → St → Prop) (Qx : String → St → Prop) : Prop := r32 x1 → r32 x2 → r32 x3 → RR 1 wM okM wsX7_keeps rmX7_keeps cX7_keeps 6 RX7 (some .int) [] 0 0 (fun G => [some (.ref (G.2.2 0)), some (iV x1), some (iV x2), some (iV x3), none, none]) (fun G => []) 29 S Qr Qx
def R_X7_keeps_116 (x1 x2 x3 x4 x5 : Int) (S : St) (Qr : Int → St → Prop) (Qx : String → St → Prop) : Prop := r32 x1 → r32 x2 → r32 x3 → r32 x4 → r32 x5 → RR 1 wM okM wsX7_keeps rmX7_keeps cX7_keeps 6 RX7 (some .int) [] 0 0 (fun G => [some (.ref (G.2.2 0)), some (iV x1), some (iV x2), some (iV x3), some (iV x4), some (iV x5)]) (fun G => []) 116 S Qr Qx
set_option maxRecDepth 100000 in
set_option maxHeartbeats 4000000 in
theorem vc_X7_keeps {a0 : Int} {S : St} {Qr : Int → St → Prop} {Qx : String → St → Prop} (h : r32 a0 → okM S → R_X7_keeps_2 a0 0 S Qr Qx) : M_X7_keeps a0 S Qr Qx := by
  intro ra0
  refine MM_of adM (by decide +kernel) rfl (Lf := fun G => [some (.ref (G.2.2 0)), some (iV a0), none, none, none, none]) (fun G => by show _ ≤ _; exact Nat.le_of_ble_eq_true rfl) (fun G => rfl) ?_
  intro p l e s m args below meth c G A C hok
  have h := h ra0 hok
  replace C : Cx wM cX7_keeps 6 RX7 wsX7_keeps (some .int) [] p l s m args meth c G A := C
  show J wM 6 rmX7_keeps p l e s m args below meth c G A (QQ 1 wM okM G Qr Qx A below args s rmX7_keeps.cells rmX7_keeps.slots) 0 0 S [some (.ref (G.2.2 0)), some (iV a0), none, none, none, none] [] 0
  refine J_iconst (pc := 0) C dX7_keeps_0 ?_
  refine J_istore_n (pc := 1) C dX7_keeps_1 (by decide) ?_
  exact J_sub (L1 := [some (.ref (G.2.2 0)), some (iV a0), some (iV 0), none, none, none]) ⟨rfl, ⟨rfl, ⟨rfl, trivial⟩⟩⟩ (h ra0 (by decide) p l e s m args below meth c G A C hok)
set_option maxRecDepth 100000 in
set_option maxHeartbeats 4000000 in
theorem vc_X7_keeps_2 {x1 x2 : Int} {S : St} {Qr : Int → St → Prop} {Qx : String → St → Prop} (h : r32 x1 → r32 x2 → okM S → (((zshl 1 (S 0 1)) ≤ x2 → R_X7_keeps_29 x1 0 0 S Qr Qx) ∧ (x2 < (zshl 1 (S 0 1)) → (ix x2 1024 ∧ (r32 (x2 + 1) ∧ R_X7_keeps_2 x1 (x2 + 1) (up S 20 x2 0) Qr Qx))))) : R_X7_keeps_2 x1 x2 S Qr Qx := by
  intro rx1 rx2
  intro p l e s m args below meth c G A C hok
  have h := h rx1 rx2 hok
  replace C : Cx wM cX7_keeps 6 RX7 wsX7_keeps (some .int) [] p l s m args meth c G A := C
  show J wM 6 rmX7_keeps p l e s m args below meth c G A (QQ 1 wM okM G Qr Qx A below args s rmX7_keeps.cells rmX7_keeps.slots) 0 0 S [some (.ref (G.2.2 0)), some (iV x1), some (iV x2), none, none, none] [] 2
  refine J_iload_n (pc := 2) C dX7_keeps_2 rfl ?_
  refine J_iconst (pc := 3) C dX7_keeps_3 ?_
  refine J_aload_n (pc := 4) C dX7_keeps_4 rfl ?_
  refine J_get (pc := 5) C dX7_keeps_5 0 rfl rfl nX7_keeps_X7 1 (by decide) mX7_keeps_f76 rfl (v := iV (S 0 1)) rfl ?_
  refine J_ishl (pc := 8) C dX7_keeps_8 ?_
  obtain ⟨h1, h2⟩ := h
  refine J_icmp_ge (pc := 9) (tgt := 25) C dX7_keeps_9 (by decide) rx2 (r_zshl _ _) (fun cb => ?_) (fun cb => ?_)
  · have h1 := h1 cb
    refine J_iconst (pc := 25) C dX7_keeps_25 ?_
    refine J_istore_n (pc := 26) C dX7_keeps_26 (by decide) ?_
    refine J_iconst (pc := 27) C dX7_keeps_27 ?_
    refine J_istore_n (pc := 28) C dX7_keeps_28 (by decide) ?_
    exact J_sub (L1 := [some (.ref (G.2.2 0)), some (iV x1), some (iV 0), some (iV 0), none, none]) ⟨rfl, ⟨rfl, ⟨rfl, ⟨rfl, trivial⟩⟩⟩⟩ (h1 rx1 (by decide) (by decide) p l e s m args below meth c G A C hok)
  · have h2 := h2 cb
    refine J_aload_n (pc := 12) C dX7_keeps_12 rfl ?_
    refine J_get (pc := 13) C dX7_keeps_13 0 rfl rfl nX7_keeps_X7 24 (by decide) mX7_keeps_f69 rfl (v := .ref (G.2.2 20)) rfl ?_
    refine J_iload_n (pc := 16) C dX7_keeps_16 rfl ?_
    refine J_iconst (pc := 17) C dX7_keeps_17 ?_
    obtain ⟨o3, h4⟩ := h2
    refine J_iast (pc := 18) C dX7_keeps_18 20 20 rfl (by decide) o3 (sM_20 G S x2 0) ?_
    have hok5 := okM_up (k := 20) (j := x2) hok (show rngM 20 0 from (by decide : r32 0))
    refine J_iinc (pc := 19) C dX7_keeps_19 rfl (by decide) ?_
    refine J_goto (pc := 22) (tgt := 2) C dX7_keeps_22 (by decide) ?_
    obtain ⟨o6, h7⟩ := h4
    exact J_sub (L1 := [some (.ref (G.2.2 0)), some (iV x1), some (iV (x2 + 1)), none, none, none]) ⟨rfl, ⟨rfl, ⟨rfl, trivial⟩⟩⟩ (h7 rx1 o6 p l e s m args below meth c G A C hok5)
set_option maxRecDepth 100000 in
set_option maxHeartbeats 4000000 in
theorem vc_X7_keeps_29 {x1 x2 x3 : Int} {S : St} {Qr : Int → St → Prop} {Qx : String → St → Prop} (h : r32 x1 → r32 x2 → r32 x3 → okM S → (((S 0 6) ≤ x3 → Qr x2 S) ∧ (x3 < (S 0 6) → (ix x3 40 ∧ (((S 9 x3) ≠ 0 → ((((up S 19 x3 0) 19 x3) = 0 → R_X7_keeps_116 x1 x2 x3 0 0 (up S 19 x3 0) Qr Qx) ∧ (((up S 19 x3 0) 19 x3) ≠ 0 → R_X7_keeps_116 x1 x2 x3 (zor (zshl 1 (S 5 x3)) (zshl 1 (S 6 x3))) 0 (up S 19 x3 0) Qr Qx))) ∧ ((S 9 x3) = 0 → ((x3 = x1 → ((((up S 19 x3 0) 19 x3) = 0 → R_X7_keeps_116 x1 x2 x3 0 0 (up S 19 x3 0) Qr Qx) ∧ (((up S 19 x3 0) 19 x3) ≠ 0 → R_X7_keeps_116 x1 x2 x3 (zor (zshl 1 (S 5 x3)) (zshl 1 (S 6 x3))) 0 (up S 19 x3 0) Qr Qx))) ∧ (x3 ≠ x1 → M_X7_areFirm (S 5 x3) (S 6 x3) S (fun rv18 S16 => r32 rv18 → okM S16 → ((rv18 ≠ 0 → ((((up S16 19 x3 0) 19 x3) = 0 → R_X7_keeps_116 x1 x2 x3 0 0 (up S16 19 x3 0) Qr Qx) ∧ (((up S16 19 x3 0) 19 x3) ≠ 0 → R_X7_keeps_116 x1 x2 x3 (zor (zshl 1 (S16 5 x3)) (zshl 1 (S16 6 x3))) 0 (up S16 19 x3 0) Qr Qx))) ∧ (rv18 = 0 → ((((up S16 19 x3 1) 19 x3) = 0 → R_X7_keeps_116 x1 x2 x3 0 0 (up S16 19 x3 1) Qr Qx) ∧ (((up S16 19 x3 1) 19 x3) ≠ 0 → R_X7_keeps_116 x1 x2 x3 (zor (zshl 1 (S16 5 x3)) (zshl 1 (S16 6 x3))) 0 (up S16 19 x3 1) Qr Qx))))) Qx)))))))) : R_X7_keeps_29 x1 x2 x3 S Qr Qx := by
  intro rx1 rx2 rx3
  intro p l e s m args below meth c G A C hok
  have h := h rx1 rx2 rx3 hok
  replace C : Cx wM cX7_keeps 6 RX7 wsX7_keeps (some .int) [] p l s m args meth c G A := C
  show J wM 6 rmX7_keeps p l e s m args below meth c G A (QQ 1 wM okM G Qr Qx A below args s rmX7_keeps.cells rmX7_keeps.slots) 0 0 S [some (.ref (G.2.2 0)), some (iV x1), some (iV x2), some (iV x3), none, none] [] 29
  refine J_iload_n (pc := 29) C dX7_keeps_29 rfl ?_
  refine J_aload_n (pc := 30) C dX7_keeps_30 rfl ?_
  refine J_get (pc := 31) C dX7_keeps_31 0 rfl rfl nX7_keeps_X7 6 (by decide) mX7_keeps_f83 rfl (v := iV (S 0 6)) rfl ?_
  obtain ⟨h1, h2⟩ := h
  refine J_icmp_ge (pc := 34) (tgt := 190) C dX7_keeps_34 (by decide) rx3 (hok 0 6) (fun cb => ?_) (fun cb => ?_)
  · have h1 := h1 cb
    refine J_iload_n (pc := 190) C dX7_keeps_190 rfl ?_
    exact J_iret (pc := 191) C dX7_keeps_191 rx2 hok h1 (by decide) (by decide)
  · have h2 := h2 cb
    refine J_aload_n (pc := 37) C dX7_keeps_37 rfl ?_
    refine J_get (pc := 38) C dX7_keeps_38 0 rfl rfl nX7_keeps_X7 23 (by decide) mX7_keeps_f66 rfl (v := .ref (G.2.2 19)) rfl ?_
    refine J_iload_n (pc := 41) C dX7_keeps_41 rfl ?_
    refine J_aload_n (pc := 42) C dX7_keeps_42 rfl ?_
    refine J_get (pc := 43) C dX7_keeps_43 0 rfl rfl nX7_keeps_X7 11 (by decide) mX7_keeps_f35 rfl (v := .ref (G.2.2 9)) rfl ?_
    refine J_iload_n (pc := 46) C dX7_keeps_46 rfl ?_
    obtain ⟨o3, h4⟩ := h2
    refine J_zald (pc := 47) C dX7_keeps_47 9 9 rfl (by decide) o3 ?_
    obtain ⟨h5, h6⟩ := h4
    refine J_if_ne (pc := 48) (tgt := 79) C dX7_keeps_48 (by decide) (r01 (hok 9 x3)) (fun cb => ?_) (fun cb => ?_)
    · have h5 := h5 cb
      refine J_iconst (pc := 79) C dX7_keeps_79 ?_
      refine J_zast (pc := 80) C dX7_keeps_80 19 19 rfl (by decide) o3 (by decide) (sM_19 G S x3 0) ?_
      have hok7 := okM_up (k := 19) (j := x3) hok (show rngM 19 0 from (by decide : (0:Int) ≤ 0 ∧ (0:Int) ≤ 1))
      refine J_aload_n (pc := 81) C dX7_keeps_81 rfl ?_
      refine J_get (pc := 82) C dX7_keeps_82 0 rfl rfl nX7_keeps_X7 23 (by decide) mX7_keeps_f66 rfl (v := .ref (G.2.2 19)) rfl ?_
      refine J_iload_n (pc := 85) C dX7_keeps_85 rfl ?_
      refine J_zald (pc := 86) C dX7_keeps_86 19 19 rfl (by decide) o3 ?_
      obtain ⟨h8, h9⟩ := h5
      refine J_if_eq (pc := 87) (tgt := 110) C dX7_keeps_87 (by decide) (r01 (hok7 19 x3)) (fun cb => ?_) (fun cb => ?_)
      · have h8 := h8 cb
        refine J_iconst (pc := 110) C dX7_keeps_110 ?_
        refine J_istore (pc := 111) C dX7_keeps_111 (by decide) ?_
        refine J_iconst (pc := 113) C dX7_keeps_113 ?_
        refine J_istore (pc := 114) C dX7_keeps_114 (by decide) ?_
        exact J_sub (L1 := [some (.ref (G.2.2 0)), some (iV x1), some (iV x2), some (iV x3), some (iV 0), some (iV 0)]) ⟨rfl, ⟨rfl, ⟨rfl, ⟨rfl, ⟨rfl, ⟨rfl, trivial⟩⟩⟩⟩⟩⟩ (h8 rx1 rx2 rx3 (by decide) (by decide) p l e s m args below meth c G A C hok7)
      · have h9 := h9 cb
        refine J_iconst (pc := 90) C dX7_keeps_90 ?_
        refine J_aload_n (pc := 91) C dX7_keeps_91 rfl ?_
        refine J_get (pc := 92) C dX7_keeps_92 0 rfl rfl nX7_keeps_X7 7 (by decide) mX7_keeps_f23 rfl (v := .ref (G.2.2 5)) rfl ?_
        refine J_iload_n (pc := 95) C dX7_keeps_95 rfl ?_
        refine J_iald (pc := 96) C dX7_keeps_96 5 5 rfl (by decide) o3 ?_
        refine J_ishl (pc := 97) C dX7_keeps_97 ?_
        refine J_iconst (pc := 98) C dX7_keeps_98 ?_
        refine J_aload_n (pc := 99) C dX7_keeps_99 rfl ?_
        refine J_get (pc := 100) C dX7_keeps_100 0 rfl rfl nX7_keeps_X7 8 (by decide) mX7_keeps_f26 rfl (v := .ref (G.2.2 6)) rfl ?_
        refine J_iload_n (pc := 103) C dX7_keeps_103 rfl ?_
        refine J_iald (pc := 104) C dX7_keeps_104 6 6 rfl (by decide) o3 ?_
        refine J_ishl (pc := 105) C dX7_keeps_105 ?_
        refine J_ior (pc := 106) C dX7_keeps_106 ?_
        refine J_goto (pc := 107) (tgt := 111) C dX7_keeps_107 (by decide) ?_
        refine J_istore (pc := 111) C dX7_keeps_111 (by decide) ?_
        refine J_iconst (pc := 113) C dX7_keeps_113 ?_
        refine J_istore (pc := 114) C dX7_keeps_114 (by decide) ?_
        exact J_sub (L1 := [some (.ref (G.2.2 0)), some (iV x1), some (iV x2), some (iV x3), some (iV (zor (zshl 1 (S 5 x3)) (zshl 1 (S 6 x3)))), some (iV 0)]) ⟨rfl, ⟨rfl, ⟨rfl, ⟨rfl, ⟨rfl, ⟨rfl, trivial⟩⟩⟩⟩⟩⟩ (h9 rx1 rx2 rx3 (r_zor _ _) (by decide) p l e s m args below meth c G A C hok7)
    · have h6 := h6 cb
      refine J_iload_n (pc := 51) C dX7_keeps_51 rfl ?_
      refine J_iload_n (pc := 52) C dX7_keeps_52 rfl ?_
      obtain ⟨h10, h11⟩ := h6
      refine J_icmp_eq (pc := 53) (tgt := 79) C dX7_keeps_53 (by decide) rx3 rx1 (fun cb => ?_) (fun cb => ?_)
      · have h10 := h10 cb
        refine J_iconst (pc := 79) C dX7_keeps_79 ?_
        refine J_zast (pc := 80) C dX7_keeps_80 19 19 rfl (by decide) o3 (by decide) (sM_19 G S x3 0) ?_
        have hok12 := okM_up (k := 19) (j := x3) hok (show rngM 19 0 from (by decide : (0:Int) ≤ 0 ∧ (0:Int) ≤ 1))
        refine J_aload_n (pc := 81) C dX7_keeps_81 rfl ?_
        refine J_get (pc := 82) C dX7_keeps_82 0 rfl rfl nX7_keeps_X7 23 (by decide) mX7_keeps_f66 rfl (v := .ref (G.2.2 19)) rfl ?_
        refine J_iload_n (pc := 85) C dX7_keeps_85 rfl ?_
        refine J_zald (pc := 86) C dX7_keeps_86 19 19 rfl (by decide) o3 ?_
        obtain ⟨h13, h14⟩ := h10
        refine J_if_eq (pc := 87) (tgt := 110) C dX7_keeps_87 (by decide) (r01 (hok12 19 x3)) (fun cb => ?_) (fun cb => ?_)
        · have h13 := h13 cb
          refine J_iconst (pc := 110) C dX7_keeps_110 ?_
          refine J_istore (pc := 111) C dX7_keeps_111 (by decide) ?_
          refine J_iconst (pc := 113) C dX7_keeps_113 ?_
          refine J_istore (pc := 114) C dX7_keeps_114 (by decide) ?_
          exact J_sub (L1 := [some (.ref (G.2.2 0)), some (iV x1), some (iV x2), some (iV x3), some (iV 0), some (iV 0)]) ⟨rfl, ⟨rfl, ⟨rfl, ⟨rfl, ⟨rfl, ⟨rfl, trivial⟩⟩⟩⟩⟩⟩ (h13 rx1 rx2 rx3 (by decide) (by decide) p l e s m args below meth c G A C hok12)
        · have h14 := h14 cb
          refine J_iconst (pc := 90) C dX7_keeps_90 ?_
          refine J_aload_n (pc := 91) C dX7_keeps_91 rfl ?_
          refine J_get (pc := 92) C dX7_keeps_92 0 rfl rfl nX7_keeps_X7 7 (by decide) mX7_keeps_f23 rfl (v := .ref (G.2.2 5)) rfl ?_
          refine J_iload_n (pc := 95) C dX7_keeps_95 rfl ?_
          refine J_iald (pc := 96) C dX7_keeps_96 5 5 rfl (by decide) o3 ?_
          refine J_ishl (pc := 97) C dX7_keeps_97 ?_
          refine J_iconst (pc := 98) C dX7_keeps_98 ?_
          refine J_aload_n (pc := 99) C dX7_keeps_99 rfl ?_
          refine J_get (pc := 100) C dX7_keeps_100 0 rfl rfl nX7_keeps_X7 8 (by decide) mX7_keeps_f26 rfl (v := .ref (G.2.2 6)) rfl ?_
          refine J_iload_n (pc := 103) C dX7_keeps_103 rfl ?_
          refine J_iald (pc := 104) C dX7_keeps_104 6 6 rfl (by decide) o3 ?_
          refine J_ishl (pc := 105) C dX7_keeps_105 ?_
          refine J_ior (pc := 106) C dX7_keeps_106 ?_
          refine J_goto (pc := 107) (tgt := 111) C dX7_keeps_107 (by decide) ?_
          refine J_istore (pc := 111) C dX7_keeps_111 (by decide) ?_
          refine J_iconst (pc := 113) C dX7_keeps_113 ?_
          refine J_istore (pc := 114) C dX7_keeps_114 (by decide) ?_
          exact J_sub (L1 := [some (.ref (G.2.2 0)), some (iV x1), some (iV x2), some (iV x3), some (iV (zor (zshl 1 (S 5 x3)) (zshl 1 (S 6 x3)))), some (iV 0)]) ⟨rfl, ⟨rfl, ⟨rfl, ⟨rfl, ⟨rfl, ⟨rfl, trivial⟩⟩⟩⟩⟩⟩ (h14 rx1 rx2 rx3 (r_zor _ _) (by decide) p l e s m args below meth c G A C hok12)
      · have h11 := h11 cb
        refine J_aload_n (pc := 56) C dX7_keeps_56 rfl ?_
        refine J_aload_n (pc := 57) C dX7_keeps_57 rfl ?_
        refine J_get (pc := 58) C dX7_keeps_58 0 rfl rfl nX7_keeps_X7 7 (by decide) mX7_keeps_f23 rfl (v := .ref (G.2.2 5)) rfl ?_
        refine J_iload_n (pc := 61) C dX7_keeps_61 rfl ?_
        refine J_iald (pc := 62) C dX7_keeps_62 5 5 rfl (by decide) o3 ?_
        refine J_aload_n (pc := 63) C dX7_keeps_63 rfl ?_
        refine J_get (pc := 64) C dX7_keeps_64 0 rfl rfl nX7_keeps_X7 8 (by decide) mX7_keeps_f26 rfl (v := .ref (G.2.2 6)) rfl ?_
        refine J_iload_n (pc := 67) C dX7_keeps_67 rfl ?_
        refine J_iald (pc := 68) C dX7_keeps_68 6 6 rfl (by decide) o3 ?_
        refine J_c1 (pc := 69) C (J_rV (pc := 69) C (h11 (hok 5 x3) (hok 6 x3)) dX7_keeps_69 rfl rfl 0 rfl rfl (cwV 2 C.1.2.2.2.2 gX7_keeps_X7_areFirm rfl rfl rfl (by decide +kernel) ⟨Nat.le_of_ble_eq_true rfl, Nat.le_of_ble_eq_true rfl⟩) hok (Nat.le_of_ble_eq_true rfl) ⟨Nat.le_of_ble_eq_true rfl, Nat.le_of_ble_eq_true rfl⟩) (fun E9 S9 ok9 q9 => JX_out C ok9 q9 (by decide) (by decide)) (fun rv18 S16 hr19 hok17 h15 => ?_)
        have h15 := h15 hr19 hok17
        obtain ⟨h20, h21⟩ := h15
        refine J_if_ne (pc := 72) (tgt := 79) C dX7_keeps_72 (by decide) hr19 (fun cb => ?_) (fun cb => ?_)
        · have h20 := h20 cb
          refine J_iconst (pc := 79) C dX7_keeps_79 ?_
          refine J_zast (pc := 80) C dX7_keeps_80 19 19 rfl (by decide) o3 (by decide) (sM_19 G S16 x3 0) ?_
          have hok22 := okM_up (k := 19) (j := x3) hok17 (show rngM 19 0 from (by decide : (0:Int) ≤ 0 ∧ (0:Int) ≤ 1))
          refine J_aload_n (pc := 81) C dX7_keeps_81 rfl ?_
          refine J_get (pc := 82) C dX7_keeps_82 0 rfl rfl nX7_keeps_X7 23 (by decide) mX7_keeps_f66 rfl (v := .ref (G.2.2 19)) rfl ?_
          refine J_iload_n (pc := 85) C dX7_keeps_85 rfl ?_
          refine J_zald (pc := 86) C dX7_keeps_86 19 19 rfl (by decide) o3 ?_
          obtain ⟨h23, h24⟩ := h20
          refine J_if_eq (pc := 87) (tgt := 110) C dX7_keeps_87 (by decide) (r01 (hok22 19 x3)) (fun cb => ?_) (fun cb => ?_)
          · have h23 := h23 cb
            refine J_iconst (pc := 110) C dX7_keeps_110 ?_
            refine J_istore (pc := 111) C dX7_keeps_111 (by decide) ?_
            refine J_iconst (pc := 113) C dX7_keeps_113 ?_
            refine J_istore (pc := 114) C dX7_keeps_114 (by decide) ?_
            exact J_sub (L1 := [some (.ref (G.2.2 0)), some (iV x1), some (iV x2), some (iV x3), some (iV 0), some (iV 0)]) ⟨rfl, ⟨rfl, ⟨rfl, ⟨rfl, ⟨rfl, ⟨rfl, trivial⟩⟩⟩⟩⟩⟩ (h23 rx1 rx2 rx3 (by decide) (by decide) p l e s m args below meth c G A C hok22)
          · have h24 := h24 cb
            refine J_iconst (pc := 90) C dX7_keeps_90 ?_
            refine J_aload_n (pc := 91) C dX7_keeps_91 rfl ?_
            refine J_get (pc := 92) C dX7_keeps_92 0 rfl rfl nX7_keeps_X7 7 (by decide) mX7_keeps_f23 rfl (v := .ref (G.2.2 5)) rfl ?_
            refine J_iload_n (pc := 95) C dX7_keeps_95 rfl ?_
            refine J_iald (pc := 96) C dX7_keeps_96 5 5 rfl (by decide) o3 ?_
            refine J_ishl (pc := 97) C dX7_keeps_97 ?_
            refine J_iconst (pc := 98) C dX7_keeps_98 ?_
            refine J_aload_n (pc := 99) C dX7_keeps_99 rfl ?_
            refine J_get (pc := 100) C dX7_keeps_100 0 rfl rfl nX7_keeps_X7 8 (by decide) mX7_keeps_f26 rfl (v := .ref (G.2.2 6)) rfl ?_
            refine J_iload_n (pc := 103) C dX7_keeps_103 rfl ?_
            refine J_iald (pc := 104) C dX7_keeps_104 6 6 rfl (by decide) o3 ?_
            refine J_ishl (pc := 105) C dX7_keeps_105 ?_
            refine J_ior (pc := 106) C dX7_keeps_106 ?_
            refine J_goto (pc := 107) (tgt := 111) C dX7_keeps_107 (by decide) ?_
            refine J_istore (pc := 111) C dX7_keeps_111 (by decide) ?_
            refine J_iconst (pc := 113) C dX7_keeps_113 ?_
            refine J_istore (pc := 114) C dX7_keeps_114 (by decide) ?_
            exact J_sub (L1 := [some (.ref (G.2.2 0)), some (iV x1), some (iV x2), some (iV x3), some (iV (zor (zshl 1 (S16 5 x3)) (zshl 1 (S16 6 x3)))), some (iV 0)]) ⟨rfl, ⟨rfl, ⟨rfl, ⟨rfl, ⟨rfl, ⟨rfl, trivial⟩⟩⟩⟩⟩⟩ (h24 rx1 rx2 rx3 (r_zor _ _) (by decide) p l e s m args below meth c G A C hok22)
        · have h21 := h21 cb
          refine J_iconst (pc := 75) C dX7_keeps_75 ?_
          refine J_goto (pc := 76) (tgt := 80) C dX7_keeps_76 (by decide) ?_
          refine J_zast (pc := 80) C dX7_keeps_80 19 19 rfl (by decide) o3 (by decide) (sM_19 G S16 x3 1) ?_
          have hok25 := okM_up (k := 19) (j := x3) hok17 (show rngM 19 1 from (by decide : (0:Int) ≤ 1 ∧ (1:Int) ≤ 1))
          refine J_aload_n (pc := 81) C dX7_keeps_81 rfl ?_
          refine J_get (pc := 82) C dX7_keeps_82 0 rfl rfl nX7_keeps_X7 23 (by decide) mX7_keeps_f66 rfl (v := .ref (G.2.2 19)) rfl ?_
          refine J_iload_n (pc := 85) C dX7_keeps_85 rfl ?_
          refine J_zald (pc := 86) C dX7_keeps_86 19 19 rfl (by decide) o3 ?_
          obtain ⟨h26, h27⟩ := h21
          refine J_if_eq (pc := 87) (tgt := 110) C dX7_keeps_87 (by decide) (r01 (hok25 19 x3)) (fun cb => ?_) (fun cb => ?_)
          · have h26 := h26 cb
            refine J_iconst (pc := 110) C dX7_keeps_110 ?_
            refine J_istore (pc := 111) C dX7_keeps_111 (by decide) ?_
            refine J_iconst (pc := 113) C dX7_keeps_113 ?_
            refine J_istore (pc := 114) C dX7_keeps_114 (by decide) ?_
            exact J_sub (L1 := [some (.ref (G.2.2 0)), some (iV x1), some (iV x2), some (iV x3), some (iV 0), some (iV 0)]) ⟨rfl, ⟨rfl, ⟨rfl, ⟨rfl, ⟨rfl, ⟨rfl, trivial⟩⟩⟩⟩⟩⟩ (h26 rx1 rx2 rx3 (by decide) (by decide) p l e s m args below meth c G A C hok25)
          · have h27 := h27 cb
            refine J_iconst (pc := 90) C dX7_keeps_90 ?_
            refine J_aload_n (pc := 91) C dX7_keeps_91 rfl ?_
            refine J_get (pc := 92) C dX7_keeps_92 0 rfl rfl nX7_keeps_X7 7 (by decide) mX7_keeps_f23 rfl (v := .ref (G.2.2 5)) rfl ?_
            refine J_iload_n (pc := 95) C dX7_keeps_95 rfl ?_
            refine J_iald (pc := 96) C dX7_keeps_96 5 5 rfl (by decide) o3 ?_
            refine J_ishl (pc := 97) C dX7_keeps_97 ?_
            refine J_iconst (pc := 98) C dX7_keeps_98 ?_
            refine J_aload_n (pc := 99) C dX7_keeps_99 rfl ?_
            refine J_get (pc := 100) C dX7_keeps_100 0 rfl rfl nX7_keeps_X7 8 (by decide) mX7_keeps_f26 rfl (v := .ref (G.2.2 6)) rfl ?_
            refine J_iload_n (pc := 103) C dX7_keeps_103 rfl ?_
            refine J_iald (pc := 104) C dX7_keeps_104 6 6 rfl (by decide) o3 ?_
            refine J_ishl (pc := 105) C dX7_keeps_105 ?_
            refine J_ior (pc := 106) C dX7_keeps_106 ?_
            refine J_goto (pc := 107) (tgt := 111) C dX7_keeps_107 (by decide) ?_
            refine J_istore (pc := 111) C dX7_keeps_111 (by decide) ?_
            refine J_iconst (pc := 113) C dX7_keeps_113 ?_
            refine J_istore (pc := 114) C dX7_keeps_114 (by decide) ?_
            exact J_sub (L1 := [some (.ref (G.2.2 0)), some (iV x1), some (iV x2), some (iV x3), some (iV (zor (zshl 1 (S16 5 x3)) (zshl 1 (S16 6 x3)))), some (iV 0)]) ⟨rfl, ⟨rfl, ⟨rfl, ⟨rfl, ⟨rfl, ⟨rfl, trivial⟩⟩⟩⟩⟩⟩ (h27 rx1 rx2 rx3 (r_zor _ _) (by decide) p l e s m args below meth c G A C hok25)
set_option maxRecDepth 100000 in
set_option maxHeartbeats 4000000 in
theorem vc_X7_keeps_116 {x1 x2 x3 x4 x5 : Int} {S : St} {Qr : Int → St → Prop} {Qx : String → St → Prop} (h : r32 x1 → r32 x2 → r32 x3 → r32 x4 → r32 x5 → okM S → (((zshl 1 (S 0 1)) ≤ x5 → (ix x3 40 ∧ (((S 19 x3) = 0 → (r32 (x2 + 0) ∧ (r32 (x3 + 1) ∧ R_X7_keeps_29 x1 (x2 + 0) (x3 + 1) S Qr Qx))) ∧ ((S 19 x3) ≠ 0 → (r32 (x2 + 1) ∧ (r32 (x3 + 1) ∧ R_X7_keeps_29 x1 (x2 + 1) (x3 + 1) S Qr Qx)))))) ∧ (x5 < (zshl 1 (S 0 1)) → (ix x3 40 ∧ (((S 19 x3) = 0 → (((S 19 x3) = 0 → (r32 (x2 + 0) ∧ (r32 (x3 + 1) ∧ R_X7_keeps_29 x1 (x2 + 0) (x3 + 1) S Qr Qx))) ∧ ((S 19 x3) ≠ 0 → (r32 (x2 + 1) ∧ (r32 (x3 + 1) ∧ R_X7_keeps_29 x1 (x2 + 1) (x3 + 1) S Qr Qx))))) ∧ ((S 19 x3) ≠ 0 → (ix x5 1024 ∧ (((zand x5 x4) ≠ x4 → (r32 ((S 20 x5) + 0) ∧ (r32 (x5 + 1) ∧ R_X7_keeps_116 x1 x2 x3 x4 (x5 + 1) (up S 20 x5 ((S 20 x5) + 0)) Qr Qx))) ∧ ((zand x5 x4) = x4 → (r32 ((S 20 x5) + 1) ∧ (r32 (x5 + 1) ∧ R_X7_keeps_116 x1 x2 x3 x4 (x5 + 1) (up S 20 x5 ((S 20 x5) + 1)) Qr Qx))))))))))) : R_X7_keeps_116 x1 x2 x3 x4 x5 S Qr Qx := by
  intro rx1 rx2 rx3 rx4 rx5
  intro p l e s m args below meth c G A C hok
  have h := h rx1 rx2 rx3 rx4 rx5 hok
  replace C : Cx wM cX7_keeps 6 RX7 wsX7_keeps (some .int) [] p l s m args meth c G A := C
  show J wM 6 rmX7_keeps p l e s m args below meth c G A (QQ 1 wM okM G Qr Qx A below args s rmX7_keeps.cells rmX7_keeps.slots) 0 0 S [some (.ref (G.2.2 0)), some (iV x1), some (iV x2), some (iV x3), some (iV x4), some (iV x5)] [] 116
  refine J_iload (pc := 116) C dX7_keeps_116 rfl ?_
  refine J_iconst (pc := 118) C dX7_keeps_118 ?_
  refine J_aload_n (pc := 119) C dX7_keeps_119 rfl ?_
  refine J_get (pc := 120) C dX7_keeps_120 0 rfl rfl nX7_keeps_X7 1 (by decide) mX7_keeps_f76 rfl (v := iV (S 0 1)) rfl ?_
  refine J_ishl (pc := 123) C dX7_keeps_123 ?_
  obtain ⟨h1, h2⟩ := h
  refine J_icmp_ge (pc := 124) (tgt := 167) C dX7_keeps_124 (by decide) rx5 (r_zshl _ _) (fun cb => ?_) (fun cb => ?_)
  · have h1 := h1 cb
    refine J_iload_n (pc := 167) C dX7_keeps_167 rfl ?_
    refine J_aload_n (pc := 168) C dX7_keeps_168 rfl ?_
    refine J_get (pc := 169) C dX7_keeps_169 0 rfl rfl nX7_keeps_X7 23 (by decide) mX7_keeps_f66 rfl (v := .ref (G.2.2 19)) rfl ?_
    refine J_iload_n (pc := 172) C dX7_keeps_172 rfl ?_
    obtain ⟨o3, h4⟩ := h1
    refine J_zald (pc := 173) C dX7_keeps_173 19 19 rfl (by decide) o3 ?_
    obtain ⟨h5, h6⟩ := h4
    refine J_if_eq (pc := 174) (tgt := 181) C dX7_keeps_174 (by decide) (r01 (hok 19 x3)) (fun cb => ?_) (fun cb => ?_)
    · have h5 := h5 cb
      refine J_iconst (pc := 181) C dX7_keeps_181 ?_
      refine J_iadd (pc := 182) C dX7_keeps_182 ?_
      refine J_istore_n (pc := 183) C dX7_keeps_183 (by decide) ?_
      refine J_iinc (pc := 184) C dX7_keeps_184 rfl (by decide) ?_
      refine J_goto (pc := 187) (tgt := 29) C dX7_keeps_187 (by decide) ?_
      obtain ⟨o7, h8⟩ := h5
      obtain ⟨o9, h10⟩ := h8
      exact J_sub (L1 := [some (.ref (G.2.2 0)), some (iV x1), some (iV (x2 + 0)), some (iV (x3 + 1)), none, none]) ⟨rfl, ⟨rfl, ⟨rfl, ⟨rfl, trivial⟩⟩⟩⟩ (h10 rx1 o7 o9 p l e s m args below meth c G A C hok)
    · have h6 := h6 cb
      refine J_iconst (pc := 177) C dX7_keeps_177 ?_
      refine J_goto (pc := 178) (tgt := 182) C dX7_keeps_178 (by decide) ?_
      refine J_iadd (pc := 182) C dX7_keeps_182 ?_
      refine J_istore_n (pc := 183) C dX7_keeps_183 (by decide) ?_
      refine J_iinc (pc := 184) C dX7_keeps_184 rfl (by decide) ?_
      refine J_goto (pc := 187) (tgt := 29) C dX7_keeps_187 (by decide) ?_
      obtain ⟨o11, h12⟩ := h6
      obtain ⟨o13, h14⟩ := h12
      exact J_sub (L1 := [some (.ref (G.2.2 0)), some (iV x1), some (iV (x2 + 1)), some (iV (x3 + 1)), none, none]) ⟨rfl, ⟨rfl, ⟨rfl, ⟨rfl, trivial⟩⟩⟩⟩ (h14 rx1 o11 o13 p l e s m args below meth c G A C hok)
  · have h2 := h2 cb
    refine J_aload_n (pc := 127) C dX7_keeps_127 rfl ?_
    refine J_get (pc := 128) C dX7_keeps_128 0 rfl rfl nX7_keeps_X7 23 (by decide) mX7_keeps_f66 rfl (v := .ref (G.2.2 19)) rfl ?_
    refine J_iload_n (pc := 131) C dX7_keeps_131 rfl ?_
    obtain ⟨o15, h16⟩ := h2
    refine J_zald (pc := 132) C dX7_keeps_132 19 19 rfl (by decide) o15 ?_
    obtain ⟨h17, h18⟩ := h16
    refine J_if_eq (pc := 133) (tgt := 167) C dX7_keeps_133 (by decide) (r01 (hok 19 x3)) (fun cb => ?_) (fun cb => ?_)
    · have h17 := h17 cb
      refine J_iload_n (pc := 167) C dX7_keeps_167 rfl ?_
      refine J_aload_n (pc := 168) C dX7_keeps_168 rfl ?_
      refine J_get (pc := 169) C dX7_keeps_169 0 rfl rfl nX7_keeps_X7 23 (by decide) mX7_keeps_f66 rfl (v := .ref (G.2.2 19)) rfl ?_
      refine J_iload_n (pc := 172) C dX7_keeps_172 rfl ?_
      refine J_zald (pc := 173) C dX7_keeps_173 19 19 rfl (by decide) o15 ?_
      obtain ⟨h19, h20⟩ := h17
      refine J_if_eq (pc := 174) (tgt := 181) C dX7_keeps_174 (by decide) (r01 (hok 19 x3)) (fun cb => ?_) (fun cb => ?_)
      · have h19 := h19 cb
        refine J_iconst (pc := 181) C dX7_keeps_181 ?_
        refine J_iadd (pc := 182) C dX7_keeps_182 ?_
        refine J_istore_n (pc := 183) C dX7_keeps_183 (by decide) ?_
        refine J_iinc (pc := 184) C dX7_keeps_184 rfl (by decide) ?_
        refine J_goto (pc := 187) (tgt := 29) C dX7_keeps_187 (by decide) ?_
        obtain ⟨o21, h22⟩ := h19
        obtain ⟨o23, h24⟩ := h22
        exact J_sub (L1 := [some (.ref (G.2.2 0)), some (iV x1), some (iV (x2 + 0)), some (iV (x3 + 1)), none, none]) ⟨rfl, ⟨rfl, ⟨rfl, ⟨rfl, trivial⟩⟩⟩⟩ (h24 rx1 o21 o23 p l e s m args below meth c G A C hok)
      · have h20 := h20 cb
        refine J_iconst (pc := 177) C dX7_keeps_177 ?_
        refine J_goto (pc := 178) (tgt := 182) C dX7_keeps_178 (by decide) ?_
        refine J_iadd (pc := 182) C dX7_keeps_182 ?_
        refine J_istore_n (pc := 183) C dX7_keeps_183 (by decide) ?_
        refine J_iinc (pc := 184) C dX7_keeps_184 rfl (by decide) ?_
        refine J_goto (pc := 187) (tgt := 29) C dX7_keeps_187 (by decide) ?_
        obtain ⟨o25, h26⟩ := h20
        obtain ⟨o27, h28⟩ := h26
        exact J_sub (L1 := [some (.ref (G.2.2 0)), some (iV x1), some (iV (x2 + 1)), some (iV (x3 + 1)), none, none]) ⟨rfl, ⟨rfl, ⟨rfl, ⟨rfl, trivial⟩⟩⟩⟩ (h28 rx1 o25 o27 p l e s m args below meth c G A C hok)
    · have h18 := h18 cb
      refine J_aload_n (pc := 136) C dX7_keeps_136 rfl ?_
      refine J_get (pc := 137) C dX7_keeps_137 0 rfl rfl nX7_keeps_X7 24 (by decide) mX7_keeps_f69 rfl (v := .ref (G.2.2 20)) rfl ?_
      refine J_iload (pc := 140) C dX7_keeps_140 rfl ?_
      refine J_dup2 (pc := 142) C dX7_keeps_142 rfl rfl ?_
      obtain ⟨o29, h30⟩ := h18
      refine J_iald (pc := 143) C dX7_keeps_143 20 20 rfl (by decide) o29 ?_
      refine J_iload (pc := 144) C dX7_keeps_144 rfl ?_
      refine J_iload (pc := 146) C dX7_keeps_146 rfl ?_
      refine J_iand (pc := 148) C dX7_keeps_148 ?_
      refine J_iload (pc := 149) C dX7_keeps_149 rfl ?_
      obtain ⟨h31, h32⟩ := h30
      refine J_icmp_ne (pc := 151) (tgt := 158) C dX7_keeps_151 (by decide) (r_zand _ _) rx4 (fun cb => ?_) (fun cb => ?_)
      · have h31 := h31 cb
        refine J_iconst (pc := 158) C dX7_keeps_158 ?_
        refine J_iadd (pc := 159) C dX7_keeps_159 ?_
        obtain ⟨o33, h34⟩ := h31
        refine J_iast (pc := 160) C dX7_keeps_160 20 20 rfl (by decide) o29 (sM_20 G S x5 ((S 20 x5) + 0)) ?_
        have hok35 := okM_up (k := 20) (j := x5) hok (show rngM 20 ((S 20 x5) + 0) from o33)
        refine J_iinc (pc := 161) C dX7_keeps_161 rfl (by decide) ?_
        refine J_goto (pc := 164) (tgt := 116) C dX7_keeps_164 (by decide) ?_
        obtain ⟨o36, h37⟩ := h34
        exact J_sub (L1 := [some (.ref (G.2.2 0)), some (iV x1), some (iV x2), some (iV x3), some (iV x4), some (iV (x5 + 1))]) ⟨rfl, ⟨rfl, ⟨rfl, ⟨rfl, ⟨rfl, ⟨rfl, trivial⟩⟩⟩⟩⟩⟩ (h37 rx1 rx2 rx3 rx4 o36 p l e s m args below meth c G A C hok35)
      · have h32 := h32 cb
        refine J_iconst (pc := 154) C dX7_keeps_154 ?_
        refine J_goto (pc := 155) (tgt := 159) C dX7_keeps_155 (by decide) ?_
        refine J_iadd (pc := 159) C dX7_keeps_159 ?_
        obtain ⟨o38, h39⟩ := h32
        refine J_iast (pc := 160) C dX7_keeps_160 20 20 rfl (by decide) o29 (sM_20 G S x5 ((S 20 x5) + 1)) ?_
        have hok40 := okM_up (k := 20) (j := x5) hok (show rngM 20 ((S 20 x5) + 1) from o38)
        refine J_iinc (pc := 161) C dX7_keeps_161 rfl (by decide) ?_
        refine J_goto (pc := 164) (tgt := 116) C dX7_keeps_164 (by decide) ?_
        obtain ⟨o41, h42⟩ := h39
        exact J_sub (L1 := [some (.ref (G.2.2 0)), some (iV x1), some (iV x2), some (iV x3), some (iV x4), some (iV (x5 + 1))]) ⟨rfl, ⟨rfl, ⟨rfl, ⟨rfl, ⟨rfl, ⟨rfl, trivial⟩⟩⟩⟩⟩⟩ (h42 rx1 rx2 rx3 rx4 o41 p l e s m args below meth c G A C hok40)
def rmX7_block : Room := { frames := 4, cells := 0, slots := 0, locals := 93 }
theorem mX7_block_f23 : Cond.fieldLink RX7 23 "StressworkModel" "one" "[I" ∈ wsX7_block := by decide +kernel
theorem nX7_block_X7 : ∀ x ∈ wsX70, x ∈ wsX7_block := by decide +kernel
theorem mX7_block_f26 : Cond.fieldLink RX7 26 "StressworkModel" "other" "[I" ∈ wsX7_block := by decide +kernel
theorem mX7_block_f76 : Cond.fieldLink RX7 76 "StressworkModel" "joints" "I" ∈ wsX7_block := by decide +kernel
def M_X7_block (a0 : Int) (S : St) (Qr : Int → St → Prop) (Qx : String → St → Prop) : Prop := r32 a0 → MM 1 wM okM yX7_block wsX7_block rmX7_block (fun G => [.ref (G.2.2 0), iV a0]) S Qr Qx
def R_X7_block_54 (x1 x2 x3 : Int) (S : St) (Qr : Int → St → Prop) (Qx : String → St → Prop) : Prop := r32 x1 → r32 x2 → r32 x3 → RR 1 wM okM wsX7_block rmX7_block cX7_block 5 RX7 (some .int) [] 0 0 (fun G => [some (.ref (G.2.2 0)), some (iV x1), some (iV x2), some (iV x3), none]) (fun G => []) 54 S Qr Qx
set_option maxRecDepth 100000 in
set_option maxHeartbeats 4000000 in
theorem vc_X7_block {a0 : Int} {S : St} {Qr : Int → St → Prop} {Qx : String → St → Prop} (h : r32 a0 → okM S → M_X7_isMember a0 S (fun rv4 S2 => r32 rv4 → okM S2 → ((rv4 = 0 → M_X7_holds 1 S2 (fun rv11 S9 => r32 rv11 → okM S9 → ((rv11 ≠ 0 → M_X7_keeps (-1) S9 (fun rv18 S16 => r32 rv18 → okM S16 → ((0 ≤ rv18 → (ix a0 40 ∧ R_X7_block_54 a0 (zor (zshl 1 (S16 5 a0)) (zshl 1 (S16 6 a0))) 0 S16 Qr Qx)) ∧ (rv18 < 0 → R_X7_block_54 a0 0 0 S16 Qr Qx))) Qx) ∧ (rv11 = 0 → Qr 0 S9))) Qx) ∧ (rv4 ≠ 0 → M_X7_holds 0 S2 (fun rv27 S25 => r32 rv27 → okM S25 → ((rv27 ≠ 0 → M_X7_keeps (-1) S25 (fun rv34 S32 => r32 rv34 → okM S32 → ((0 ≤ rv34 → (ix a0 40 ∧ R_X7_block_54 a0 (zor (zshl 1 (S32 5 a0)) (zshl 1 (S32 6 a0))) 0 S32 Qr Qx)) ∧ (rv34 < 0 → R_X7_block_54 a0 0 0 S32 Qr Qx))) Qx) ∧ (rv27 = 0 → Qr 0 S25))) Qx))) Qx) : M_X7_block a0 S Qr Qx := by
  intro ra0
  refine MM_of adM (by decide +kernel) rfl (Lf := fun G => [some (.ref (G.2.2 0)), some (iV a0), none, none, none]) (fun G => by show _ ≤ _; exact Nat.le_of_ble_eq_true rfl) (fun G => rfl) ?_
  intro p l e s m args below meth c G A C hok
  have h := h ra0 hok
  replace C : Cx wM cX7_block 5 RX7 wsX7_block (some .int) [] p l s m args meth c G A := C
  show J wM 5 rmX7_block p l e s m args below meth c G A (QQ 1 wM okM G Qr Qx A below args s rmX7_block.cells rmX7_block.slots) 0 0 S [some (.ref (G.2.2 0)), some (iV a0), none, none, none] [] 0
  refine J_aload_n (pc := 0) C dX7_block_0 rfl ?_
  refine J_aload_n (pc := 1) C dX7_block_1 rfl ?_
  refine J_iload_n (pc := 2) C dX7_block_2 rfl ?_
  refine J_c1 (pc := 3) C (J_rV (pc := 3) C (h ra0) dX7_block_3 rfl rfl 0 rfl rfl (cwV 1 C.1.2.2.2.2 gX7_block_X7_isMember rfl rfl rfl (by decide +kernel) ⟨Nat.le_of_ble_eq_true rfl, Nat.le_of_ble_eq_true rfl⟩) hok (Nat.le_of_ble_eq_true rfl) ⟨Nat.le_of_ble_eq_true rfl, Nat.le_of_ble_eq_true rfl⟩) (fun E9 S9 ok9 q9 => JX_out C ok9 q9 (by decide) (by decide)) (fun rv4 S2 hr5 hok3 h1 => ?_)
  have h1 := h1 hr5 hok3
  obtain ⟨h6, h7⟩ := h1
  refine J_if_eq (pc := 6) (tgt := 13) C dX7_block_6 (by decide) hr5 (fun cb => ?_) (fun cb => ?_)
  · have h6 := h6 cb
    refine J_iconst (pc := 13) C dX7_block_13 ?_
    refine J_c1 (pc := 14) C (J_rV (pc := 14) C (h6 (by decide)) dX7_block_14 rfl rfl 0 rfl rfl (cwV 1 C.1.2.2.2.2 gX7_block_X7_holds rfl rfl rfl (by decide +kernel) ⟨Nat.le_of_ble_eq_true rfl, Nat.le_of_ble_eq_true rfl⟩) hok3 (Nat.le_of_ble_eq_true rfl) ⟨Nat.le_of_ble_eq_true rfl, Nat.le_of_ble_eq_true rfl⟩) (fun E9 S9 ok9 q9 => JX_out C ok9 q9 (by decide) (by decide)) (fun rv11 S9 hr12 hok10 h8 => ?_)
    have h8 := h8 hr12 hok10
    obtain ⟨h13, h14⟩ := h8
    refine J_if_ne (pc := 17) (tgt := 22) C dX7_block_17 (by decide) hr12 (fun cb => ?_) (fun cb => ?_)
    · have h13 := h13 cb
      refine J_aload_n (pc := 22) C dX7_block_22 rfl ?_
      refine J_iconst (pc := 23) C dX7_block_23 ?_
      refine J_c1 (pc := 24) C (J_rV (pc := 24) C (h13 (by decide)) dX7_block_24 rfl rfl 0 rfl rfl (cwV 1 C.1.2.2.2.2 gX7_block_X7_keeps rfl rfl rfl (by decide +kernel) ⟨Nat.le_of_ble_eq_true rfl, Nat.le_of_ble_eq_true rfl⟩) hok10 (Nat.le_of_ble_eq_true rfl) ⟨Nat.le_of_ble_eq_true rfl, Nat.le_of_ble_eq_true rfl⟩) (fun E9 S9 ok9 q9 => JX_out C ok9 q9 (by decide) (by decide)) (fun rv18 S16 hr19 hok17 h15 => ?_)
      have h15 := h15 hr19 hok17
      obtain ⟨h20, h21⟩ := h15
      refine J_if_ge (pc := 27) (tgt := 34) C dX7_block_27 (by decide) hr19 (fun cb => ?_) (fun cb => ?_)
      · have h20 := h20 cb
        refine J_iconst (pc := 34) C dX7_block_34 ?_
        refine J_aload_n (pc := 35) C dX7_block_35 rfl ?_
        refine J_get (pc := 36) C dX7_block_36 0 rfl rfl nX7_block_X7 7 (by decide) mX7_block_f23 rfl (v := .ref (G.2.2 5)) rfl ?_
        refine J_iload_n (pc := 39) C dX7_block_39 rfl ?_
        obtain ⟨o22, h23⟩ := h20
        refine J_iald (pc := 40) C dX7_block_40 5 5 rfl (by decide) o22 ?_
        refine J_ishl (pc := 41) C dX7_block_41 ?_
        refine J_iconst (pc := 42) C dX7_block_42 ?_
        refine J_aload_n (pc := 43) C dX7_block_43 rfl ?_
        refine J_get (pc := 44) C dX7_block_44 0 rfl rfl nX7_block_X7 8 (by decide) mX7_block_f26 rfl (v := .ref (G.2.2 6)) rfl ?_
        refine J_iload_n (pc := 47) C dX7_block_47 rfl ?_
        refine J_iald (pc := 48) C dX7_block_48 6 6 rfl (by decide) o22 ?_
        refine J_ishl (pc := 49) C dX7_block_49 ?_
        refine J_ior (pc := 50) C dX7_block_50 ?_
        refine J_istore_n (pc := 51) C dX7_block_51 (by decide) ?_
        refine J_iconst (pc := 52) C dX7_block_52 ?_
        refine J_istore_n (pc := 53) C dX7_block_53 (by decide) ?_
        exact J_sub (L1 := [some (.ref (G.2.2 0)), some (iV a0), some (iV (zor (zshl 1 (S16 5 a0)) (zshl 1 (S16 6 a0)))), some (iV 0), none]) ⟨rfl, ⟨rfl, ⟨rfl, ⟨rfl, trivial⟩⟩⟩⟩ (h23 ra0 (r_zor _ _) (by decide) p l e s m args below meth c G A C hok17)
      · have h21 := h21 cb
        refine J_iconst (pc := 30) C dX7_block_30 ?_
        refine J_goto (pc := 31) (tgt := 51) C dX7_block_31 (by decide) ?_
        refine J_istore_n (pc := 51) C dX7_block_51 (by decide) ?_
        refine J_iconst (pc := 52) C dX7_block_52 ?_
        refine J_istore_n (pc := 53) C dX7_block_53 (by decide) ?_
        exact J_sub (L1 := [some (.ref (G.2.2 0)), some (iV a0), some (iV 0), some (iV 0), none]) ⟨rfl, ⟨rfl, ⟨rfl, ⟨rfl, trivial⟩⟩⟩⟩ (h21 ra0 (by decide) (by decide) p l e s m args below meth c G A C hok17)
    · have h14 := h14 cb
      refine J_iconst (pc := 20) C dX7_block_20 ?_
      exact J_iret (pc := 21) C dX7_block_21 (by decide) hok10 h14 (by decide) (by decide)
  · have h7 := h7 cb
    refine J_iconst (pc := 9) C dX7_block_9 ?_
    refine J_goto (pc := 10) (tgt := 14) C dX7_block_10 (by decide) ?_
    refine J_c1 (pc := 14) C (J_rV (pc := 14) C (h7 (by decide)) dX7_block_14 rfl rfl 0 rfl rfl (cwV 1 C.1.2.2.2.2 gX7_block_X7_holds rfl rfl rfl (by decide +kernel) ⟨Nat.le_of_ble_eq_true rfl, Nat.le_of_ble_eq_true rfl⟩) hok3 (Nat.le_of_ble_eq_true rfl) ⟨Nat.le_of_ble_eq_true rfl, Nat.le_of_ble_eq_true rfl⟩) (fun E9 S9 ok9 q9 => JX_out C ok9 q9 (by decide) (by decide)) (fun rv27 S25 hr28 hok26 h24 => ?_)
    have h24 := h24 hr28 hok26
    obtain ⟨h29, h30⟩ := h24
    refine J_if_ne (pc := 17) (tgt := 22) C dX7_block_17 (by decide) hr28 (fun cb => ?_) (fun cb => ?_)
    · have h29 := h29 cb
      refine J_aload_n (pc := 22) C dX7_block_22 rfl ?_
      refine J_iconst (pc := 23) C dX7_block_23 ?_
      refine J_c1 (pc := 24) C (J_rV (pc := 24) C (h29 (by decide)) dX7_block_24 rfl rfl 0 rfl rfl (cwV 1 C.1.2.2.2.2 gX7_block_X7_keeps rfl rfl rfl (by decide +kernel) ⟨Nat.le_of_ble_eq_true rfl, Nat.le_of_ble_eq_true rfl⟩) hok26 (Nat.le_of_ble_eq_true rfl) ⟨Nat.le_of_ble_eq_true rfl, Nat.le_of_ble_eq_true rfl⟩) (fun E9 S9 ok9 q9 => JX_out C ok9 q9 (by decide) (by decide)) (fun rv34 S32 hr35 hok33 h31 => ?_)
      have h31 := h31 hr35 hok33
      obtain ⟨h36, h37⟩ := h31
      refine J_if_ge (pc := 27) (tgt := 34) C dX7_block_27 (by decide) hr35 (fun cb => ?_) (fun cb => ?_)
      · have h36 := h36 cb
        refine J_iconst (pc := 34) C dX7_block_34 ?_
        refine J_aload_n (pc := 35) C dX7_block_35 rfl ?_
        refine J_get (pc := 36) C dX7_block_36 0 rfl rfl nX7_block_X7 7 (by decide) mX7_block_f23 rfl (v := .ref (G.2.2 5)) rfl ?_
        refine J_iload_n (pc := 39) C dX7_block_39 rfl ?_
        obtain ⟨o38, h39⟩ := h36
        refine J_iald (pc := 40) C dX7_block_40 5 5 rfl (by decide) o38 ?_
        refine J_ishl (pc := 41) C dX7_block_41 ?_
        refine J_iconst (pc := 42) C dX7_block_42 ?_
        refine J_aload_n (pc := 43) C dX7_block_43 rfl ?_
        refine J_get (pc := 44) C dX7_block_44 0 rfl rfl nX7_block_X7 8 (by decide) mX7_block_f26 rfl (v := .ref (G.2.2 6)) rfl ?_
        refine J_iload_n (pc := 47) C dX7_block_47 rfl ?_
        refine J_iald (pc := 48) C dX7_block_48 6 6 rfl (by decide) o38 ?_
        refine J_ishl (pc := 49) C dX7_block_49 ?_
        refine J_ior (pc := 50) C dX7_block_50 ?_
        refine J_istore_n (pc := 51) C dX7_block_51 (by decide) ?_
        refine J_iconst (pc := 52) C dX7_block_52 ?_
        refine J_istore_n (pc := 53) C dX7_block_53 (by decide) ?_
        exact J_sub (L1 := [some (.ref (G.2.2 0)), some (iV a0), some (iV (zor (zshl 1 (S32 5 a0)) (zshl 1 (S32 6 a0)))), some (iV 0), none]) ⟨rfl, ⟨rfl, ⟨rfl, ⟨rfl, trivial⟩⟩⟩⟩ (h39 ra0 (r_zor _ _) (by decide) p l e s m args below meth c G A C hok33)
      · have h37 := h37 cb
        refine J_iconst (pc := 30) C dX7_block_30 ?_
        refine J_goto (pc := 31) (tgt := 51) C dX7_block_31 (by decide) ?_
        refine J_istore_n (pc := 51) C dX7_block_51 (by decide) ?_
        refine J_iconst (pc := 52) C dX7_block_52 ?_
        refine J_istore_n (pc := 53) C dX7_block_53 (by decide) ?_
        exact J_sub (L1 := [some (.ref (G.2.2 0)), some (iV a0), some (iV 0), some (iV 0), none]) ⟨rfl, ⟨rfl, ⟨rfl, ⟨rfl, trivial⟩⟩⟩⟩ (h37 ra0 (by decide) (by decide) p l e s m args below meth c G A C hok33)
    · have h30 := h30 cb
      refine J_iconst (pc := 20) C dX7_block_20 ?_
      exact J_iret (pc := 21) C dX7_block_21 (by decide) hok26 h30 (by decide) (by decide)
set_option maxRecDepth 100000 in
set_option maxHeartbeats 4000000 in
theorem vc_X7_block_54 {x1 x2 x3 : Int} {S : St} {Qr : Int → St → Prop} {Qx : String → St → Prop} (h : r32 x1 → r32 x2 → r32 x3 → okM S → (((S 0 1) ≤ x3 → Qr x2 S) ∧ (x3 < (S 0 1) → (ix x1 40 ∧ ((x3 = (S 5 x1) → (r32 (x3 + 1) ∧ R_X7_block_54 x1 (zor x2 0) (x3 + 1) S Qr Qx)) ∧ (x3 ≠ (S 5 x1) → ((x3 = (S 6 x1) → (r32 (x3 + 1) ∧ R_X7_block_54 x1 (zor x2 0) (x3 + 1) S Qr Qx)) ∧ (x3 ≠ (S 6 x1) → M_X7_areFirm x3 (S 5 x1) S (fun rv16 S14 => r32 rv16 → okM S14 → ((rv16 = 0 → (r32 (x3 + 1) ∧ R_X7_block_54 x1 (zor x2 0) (x3 + 1) S14 Qr Qx)) ∧ (rv16 ≠ 0 → M_X7_areFirm x3 (S14 6 x1) S14 (fun rv25 S23 => r32 rv25 → okM S23 → ((rv25 = 0 → (r32 (x3 + 1) ∧ R_X7_block_54 x1 (zor x2 0) (x3 + 1) S23 Qr Qx)) ∧ (rv25 ≠ 0 → (r32 (x3 + 1) ∧ R_X7_block_54 x1 (zor x2 (zshl 1 x3)) (x3 + 1) S23 Qr Qx)))) Qx))) Qx)))))))) : R_X7_block_54 x1 x2 x3 S Qr Qx := by
  intro rx1 rx2 rx3
  intro p l e s m args below meth c G A C hok
  have h := h rx1 rx2 rx3 hok
  replace C : Cx wM cX7_block 5 RX7 wsX7_block (some .int) [] p l s m args meth c G A := C
  show J wM 5 rmX7_block p l e s m args below meth c G A (QQ 1 wM okM G Qr Qx A below args s rmX7_block.cells rmX7_block.slots) 0 0 S [some (.ref (G.2.2 0)), some (iV x1), some (iV x2), some (iV x3), none] [] 54
  refine J_iload_n (pc := 54) C dX7_block_54 rfl ?_
  refine J_aload_n (pc := 55) C dX7_block_55 rfl ?_
  refine J_get (pc := 56) C dX7_block_56 0 rfl rfl nX7_block_X7 1 (by decide) mX7_block_f76 rfl (v := iV (S 0 1)) rfl ?_
  obtain ⟨h1, h2⟩ := h
  refine J_icmp_ge (pc := 59) (tgt := 138) C dX7_block_59 (by decide) rx3 (hok 0 1) (fun cb => ?_) (fun cb => ?_)
  · have h1 := h1 cb
    refine J_iload_n (pc := 138) C dX7_block_138 rfl ?_
    exact J_iret (pc := 139) C dX7_block_139 rx2 hok h1 (by decide) (by decide)
  · have h2 := h2 cb
    refine J_iload_n (pc := 62) C dX7_block_62 rfl ?_
    refine J_aload_n (pc := 63) C dX7_block_63 rfl ?_
    refine J_get (pc := 64) C dX7_block_64 0 rfl rfl nX7_block_X7 7 (by decide) mX7_block_f23 rfl (v := .ref (G.2.2 5)) rfl ?_
    refine J_iload_n (pc := 67) C dX7_block_67 rfl ?_
    obtain ⟨o3, h4⟩ := h2
    refine J_iald (pc := 68) C dX7_block_68 5 5 rfl (by decide) o3 ?_
    obtain ⟨h5, h6⟩ := h4
    refine J_icmp_eq (pc := 69) (tgt := 114) C dX7_block_69 (by decide) rx3 (hok 5 x1) (fun cb => ?_) (fun cb => ?_)
    · have h5 := h5 cb
      refine J_iconst (pc := 114) C dX7_block_114 ?_
      refine J_istore (pc := 115) C dX7_block_115 (by decide) ?_
      refine J_iload_n (pc := 117) C dX7_block_117 rfl ?_
      refine J_iload (pc := 118) C dX7_block_118 rfl ?_
      refine J_if_eq (pc := 120) (tgt := 129) C dX7_block_120 (by decide) (by decide) (fun _ => ?_) (fun cb => absurd cb (by decide))
      refine J_iconst (pc := 129) C dX7_block_129 ?_
      refine J_ior (pc := 130) C dX7_block_130 ?_
      refine J_istore_n (pc := 131) C dX7_block_131 (by decide) ?_
      refine J_iinc (pc := 132) C dX7_block_132 rfl (by decide) ?_
      refine J_goto (pc := 135) (tgt := 54) C dX7_block_135 (by decide) ?_
      obtain ⟨o7, h8⟩ := h5
      exact J_sub (L1 := [some (.ref (G.2.2 0)), some (iV x1), some (iV (zor x2 0)), some (iV (x3 + 1)), none]) ⟨rfl, ⟨rfl, ⟨rfl, ⟨rfl, trivial⟩⟩⟩⟩ (h8 rx1 (r_zor _ _) o7 p l e s m args below meth c G A C hok)
    · have h6 := h6 cb
      refine J_iload_n (pc := 72) C dX7_block_72 rfl ?_
      refine J_aload_n (pc := 73) C dX7_block_73 rfl ?_
      refine J_get (pc := 74) C dX7_block_74 0 rfl rfl nX7_block_X7 8 (by decide) mX7_block_f26 rfl (v := .ref (G.2.2 6)) rfl ?_
      refine J_iload_n (pc := 77) C dX7_block_77 rfl ?_
      refine J_iald (pc := 78) C dX7_block_78 6 6 rfl (by decide) o3 ?_
      obtain ⟨h9, h10⟩ := h6
      refine J_icmp_eq (pc := 79) (tgt := 114) C dX7_block_79 (by decide) rx3 (hok 6 x1) (fun cb => ?_) (fun cb => ?_)
      · have h9 := h9 cb
        refine J_iconst (pc := 114) C dX7_block_114 ?_
        refine J_istore (pc := 115) C dX7_block_115 (by decide) ?_
        refine J_iload_n (pc := 117) C dX7_block_117 rfl ?_
        refine J_iload (pc := 118) C dX7_block_118 rfl ?_
        refine J_if_eq (pc := 120) (tgt := 129) C dX7_block_120 (by decide) (by decide) (fun _ => ?_) (fun cb => absurd cb (by decide))
        refine J_iconst (pc := 129) C dX7_block_129 ?_
        refine J_ior (pc := 130) C dX7_block_130 ?_
        refine J_istore_n (pc := 131) C dX7_block_131 (by decide) ?_
        refine J_iinc (pc := 132) C dX7_block_132 rfl (by decide) ?_
        refine J_goto (pc := 135) (tgt := 54) C dX7_block_135 (by decide) ?_
        obtain ⟨o11, h12⟩ := h9
        exact J_sub (L1 := [some (.ref (G.2.2 0)), some (iV x1), some (iV (zor x2 0)), some (iV (x3 + 1)), none]) ⟨rfl, ⟨rfl, ⟨rfl, ⟨rfl, trivial⟩⟩⟩⟩ (h12 rx1 (r_zor _ _) o11 p l e s m args below meth c G A C hok)
      · have h10 := h10 cb
        refine J_aload_n (pc := 82) C dX7_block_82 rfl ?_
        refine J_iload_n (pc := 83) C dX7_block_83 rfl ?_
        refine J_aload_n (pc := 84) C dX7_block_84 rfl ?_
        refine J_get (pc := 85) C dX7_block_85 0 rfl rfl nX7_block_X7 7 (by decide) mX7_block_f23 rfl (v := .ref (G.2.2 5)) rfl ?_
        refine J_iload_n (pc := 88) C dX7_block_88 rfl ?_
        refine J_iald (pc := 89) C dX7_block_89 5 5 rfl (by decide) o3 ?_
        refine J_c1 (pc := 90) C (J_rV (pc := 90) C (h10 rx3 (hok 5 x1)) dX7_block_90 rfl rfl 0 rfl rfl (cwV 2 C.1.2.2.2.2 gX7_block_X7_areFirm rfl rfl rfl (by decide +kernel) ⟨Nat.le_of_ble_eq_true rfl, Nat.le_of_ble_eq_true rfl⟩) hok (Nat.le_of_ble_eq_true rfl) ⟨Nat.le_of_ble_eq_true rfl, Nat.le_of_ble_eq_true rfl⟩) (fun E9 S9 ok9 q9 => JX_out C ok9 q9 (by decide) (by decide)) (fun rv16 S14 hr17 hok15 h13 => ?_)
        have h13 := h13 hr17 hok15
        obtain ⟨h18, h19⟩ := h13
        refine J_if_eq (pc := 93) (tgt := 114) C dX7_block_93 (by decide) hr17 (fun cb => ?_) (fun cb => ?_)
        · have h18 := h18 cb
          refine J_iconst (pc := 114) C dX7_block_114 ?_
          refine J_istore (pc := 115) C dX7_block_115 (by decide) ?_
          refine J_iload_n (pc := 117) C dX7_block_117 rfl ?_
          refine J_iload (pc := 118) C dX7_block_118 rfl ?_
          refine J_if_eq (pc := 120) (tgt := 129) C dX7_block_120 (by decide) (by decide) (fun _ => ?_) (fun cb => absurd cb (by decide))
          refine J_iconst (pc := 129) C dX7_block_129 ?_
          refine J_ior (pc := 130) C dX7_block_130 ?_
          refine J_istore_n (pc := 131) C dX7_block_131 (by decide) ?_
          refine J_iinc (pc := 132) C dX7_block_132 rfl (by decide) ?_
          refine J_goto (pc := 135) (tgt := 54) C dX7_block_135 (by decide) ?_
          obtain ⟨o20, h21⟩ := h18
          exact J_sub (L1 := [some (.ref (G.2.2 0)), some (iV x1), some (iV (zor x2 0)), some (iV (x3 + 1)), none]) ⟨rfl, ⟨rfl, ⟨rfl, ⟨rfl, trivial⟩⟩⟩⟩ (h21 rx1 (r_zor _ _) o20 p l e s m args below meth c G A C hok15)
        · have h19 := h19 cb
          refine J_aload_n (pc := 96) C dX7_block_96 rfl ?_
          refine J_iload_n (pc := 97) C dX7_block_97 rfl ?_
          refine J_aload_n (pc := 98) C dX7_block_98 rfl ?_
          refine J_get (pc := 99) C dX7_block_99 0 rfl rfl nX7_block_X7 8 (by decide) mX7_block_f26 rfl (v := .ref (G.2.2 6)) rfl ?_
          refine J_iload_n (pc := 102) C dX7_block_102 rfl ?_
          refine J_iald (pc := 103) C dX7_block_103 6 6 rfl (by decide) o3 ?_
          refine J_c1 (pc := 104) C (J_rV (pc := 104) C (h19 rx3 (hok15 6 x1)) dX7_block_104 rfl rfl 0 rfl rfl (cwV 2 C.1.2.2.2.2 gX7_block_X7_areFirm rfl rfl rfl (by decide +kernel) ⟨Nat.le_of_ble_eq_true rfl, Nat.le_of_ble_eq_true rfl⟩) hok15 (Nat.le_of_ble_eq_true rfl) ⟨Nat.le_of_ble_eq_true rfl, Nat.le_of_ble_eq_true rfl⟩) (fun E9 S9 ok9 q9 => JX_out C ok9 q9 (by decide) (by decide)) (fun rv25 S23 hr26 hok24 h22 => ?_)
          have h22 := h22 hr26 hok24
          obtain ⟨h27, h28⟩ := h22
          refine J_if_eq (pc := 107) (tgt := 114) C dX7_block_107 (by decide) hr26 (fun cb => ?_) (fun cb => ?_)
          · have h27 := h27 cb
            refine J_iconst (pc := 114) C dX7_block_114 ?_
            refine J_istore (pc := 115) C dX7_block_115 (by decide) ?_
            refine J_iload_n (pc := 117) C dX7_block_117 rfl ?_
            refine J_iload (pc := 118) C dX7_block_118 rfl ?_
            refine J_if_eq (pc := 120) (tgt := 129) C dX7_block_120 (by decide) (by decide) (fun _ => ?_) (fun cb => absurd cb (by decide))
            refine J_iconst (pc := 129) C dX7_block_129 ?_
            refine J_ior (pc := 130) C dX7_block_130 ?_
            refine J_istore_n (pc := 131) C dX7_block_131 (by decide) ?_
            refine J_iinc (pc := 132) C dX7_block_132 rfl (by decide) ?_
            refine J_goto (pc := 135) (tgt := 54) C dX7_block_135 (by decide) ?_
            obtain ⟨o29, h30⟩ := h27
            exact J_sub (L1 := [some (.ref (G.2.2 0)), some (iV x1), some (iV (zor x2 0)), some (iV (x3 + 1)), none]) ⟨rfl, ⟨rfl, ⟨rfl, ⟨rfl, trivial⟩⟩⟩⟩ (h30 rx1 (r_zor _ _) o29 p l e s m args below meth c G A C hok24)
          · have h28 := h28 cb
            refine J_iconst (pc := 110) C dX7_block_110 ?_
            refine J_goto (pc := 111) (tgt := 115) C dX7_block_111 (by decide) ?_
            refine J_istore (pc := 115) C dX7_block_115 (by decide) ?_
            refine J_iload_n (pc := 117) C dX7_block_117 rfl ?_
            refine J_iload (pc := 118) C dX7_block_118 rfl ?_
            refine J_if_eq (pc := 120) (tgt := 129) C dX7_block_120 (by decide) (by decide) (fun cb => absurd cb (by decide)) (fun _ => ?_)
            refine J_iconst (pc := 123) C dX7_block_123 ?_
            refine J_iload_n (pc := 124) C dX7_block_124 rfl ?_
            refine J_ishl (pc := 125) C dX7_block_125 ?_
            refine J_goto (pc := 126) (tgt := 130) C dX7_block_126 (by decide) ?_
            refine J_ior (pc := 130) C dX7_block_130 ?_
            refine J_istore_n (pc := 131) C dX7_block_131 (by decide) ?_
            refine J_iinc (pc := 132) C dX7_block_132 rfl (by decide) ?_
            refine J_goto (pc := 135) (tgt := 54) C dX7_block_135 (by decide) ?_
            obtain ⟨o31, h32⟩ := h28
            exact J_sub (L1 := [some (.ref (G.2.2 0)), some (iV x1), some (iV (zor x2 (zshl 1 x3))), some (iV (x3 + 1)), none]) ⟨rfl, ⟨rfl, ⟨rfl, ⟨rfl, trivial⟩⟩⟩⟩ (h32 rx1 (r_zor _ _) o31 p l e s m args below meth c G A C hok24)
def rmX7_near : Room := { frames := 0, cells := 0, slots := 0, locals := 0 }
theorem mX7_near_f83 : Cond.fieldLink RX7 83 "StressworkModel" "members" "I" ∈ wsX7_near := by decide +kernel
theorem nX7_near_X7 : ∀ x ∈ wsX70, x ∈ wsX7_near := by decide +kernel
theorem mX7_near_f35 : Cond.fieldLink RX7 35 "StressworkModel" "isGone" "[Z" ∈ wsX7_near := by decide +kernel
theorem mX7_near_f23 : Cond.fieldLink RX7 23 "StressworkModel" "one" "[I" ∈ wsX7_near := by decide +kernel
theorem mX7_near_f26 : Cond.fieldLink RX7 26 "StressworkModel" "other" "[I" ∈ wsX7_near := by decide +kernel
def M_X7_near (a0 : Int) (S : St) (Qr : Int → St → Prop) (Qx : String → St → Prop) : Prop := r32 a0 → MM 1 wM okM yX7_near wsX7_near rmX7_near (fun G => [.ref (G.2.2 0), iV a0]) S Qr Qx
def R_X7_near_4 (x1 x2 x3 : Int) (S : St) (Qr : Int → St → Prop) (Qx : String → St → Prop) : Prop := r32 x1 → r32 x2 → r32 x3 → RR 1 wM okM wsX7_near rmX7_near cX7_near 4 RX7 (some .int) [] 0 0 (fun G => [some (.ref (G.2.2 0)), some (iV x1), some (iV x2), some (iV x3)]) (fun G => []) 4 S Qr Qx
set_option maxRecDepth 100000 in
set_option maxHeartbeats 4000000 in
theorem vc_X7_near {a0 : Int} {S : St} {Qr : Int → St → Prop} {Qx : String → St → Prop} (h : r32 a0 → okM S → R_X7_near_4 a0 0 0 S Qr Qx) : M_X7_near a0 S Qr Qx := by
  intro ra0
  refine MM_of adM (by decide +kernel) rfl (Lf := fun G => [some (.ref (G.2.2 0)), some (iV a0), none, none]) (fun G => by show _ ≤ _; exact Nat.le_of_ble_eq_true rfl) (fun G => rfl) ?_
  intro p l e s m args below meth c G A C hok
  have h := h ra0 hok
  replace C : Cx wM cX7_near 4 RX7 wsX7_near (some .int) [] p l s m args meth c G A := C
  show J wM 4 rmX7_near p l e s m args below meth c G A (QQ 1 wM okM G Qr Qx A below args s rmX7_near.cells rmX7_near.slots) 0 0 S [some (.ref (G.2.2 0)), some (iV a0), none, none] [] 0
  refine J_iconst (pc := 0) C dX7_near_0 ?_
  refine J_istore_n (pc := 1) C dX7_near_1 (by decide) ?_
  refine J_iconst (pc := 2) C dX7_near_2 ?_
  refine J_istore_n (pc := 3) C dX7_near_3 (by decide) ?_
  exact J_sub (L1 := [some (.ref (G.2.2 0)), some (iV a0), some (iV 0), some (iV 0)]) ⟨rfl, ⟨rfl, ⟨rfl, ⟨rfl, trivial⟩⟩⟩⟩ (h ra0 (by decide) (by decide) p l e s m args below meth c G A C hok)
set_option maxRecDepth 100000 in
set_option maxHeartbeats 4000000 in
theorem vc_X7_near_4 {x1 x2 x3 : Int} {S : St} {Qr : Int → St → Prop} {Qx : String → St → Prop} (h : r32 x1 → r32 x2 → r32 x3 → okM S → (((S 0 6) ≤ x3 → Qr x2 S) ∧ (x3 < (S 0 6) → (ix x3 40 ∧ (((S 9 x3) = 0 → (((S 5 x3) ≠ x1 → (((S 6 x3) ≠ x1 → (r32 (x3 + 1) ∧ R_X7_near_4 x1 (zor x2 0) (x3 + 1) S Qr Qx)) ∧ ((S 6 x3) = x1 → (r32 (x3 + 1) ∧ R_X7_near_4 x1 (zor x2 (zshl 1 (S 5 x3))) (x3 + 1) S Qr Qx)))) ∧ ((S 5 x3) = x1 → (r32 (x3 + 1) ∧ R_X7_near_4 x1 (zor x2 (zshl 1 (S 6 x3))) (x3 + 1) S Qr Qx)))) ∧ ((S 9 x3) ≠ 0 → (r32 (x3 + 1) ∧ R_X7_near_4 x1 (zor x2 0) (x3 + 1) S Qr Qx))))))) : R_X7_near_4 x1 x2 x3 S Qr Qx := by
  intro rx1 rx2 rx3
  intro p l e s m args below meth c G A C hok
  have h := h rx1 rx2 rx3 hok
  replace C : Cx wM cX7_near 4 RX7 wsX7_near (some .int) [] p l s m args meth c G A := C
  show J wM 4 rmX7_near p l e s m args below meth c G A (QQ 1 wM okM G Qr Qx A below args s rmX7_near.cells rmX7_near.slots) 0 0 S [some (.ref (G.2.2 0)), some (iV x1), some (iV x2), some (iV x3)] [] 4
  refine J_iload_n (pc := 4) C dX7_near_4 rfl ?_
  refine J_aload_n (pc := 5) C dX7_near_5 rfl ?_
  refine J_get (pc := 6) C dX7_near_6 0 rfl rfl nX7_near_X7 6 (by decide) mX7_near_f83 rfl (v := iV (S 0 6)) rfl ?_
  obtain ⟨h1, h2⟩ := h
  refine J_icmp_ge (pc := 9) (tgt := 77) C dX7_near_9 (by decide) rx3 (hok 0 6) (fun cb => ?_) (fun cb => ?_)
  · have h1 := h1 cb
    refine J_iload_n (pc := 77) C dX7_near_77 rfl ?_
    exact J_iret (pc := 78) C dX7_near_78 rx2 hok h1 (by decide) (by decide)
  · have h2 := h2 cb
    refine J_iload_n (pc := 12) C dX7_near_12 rfl ?_
    refine J_aload_n (pc := 13) C dX7_near_13 rfl ?_
    refine J_get (pc := 14) C dX7_near_14 0 rfl rfl nX7_near_X7 11 (by decide) mX7_near_f35 rfl (v := .ref (G.2.2 9)) rfl ?_
    refine J_iload_n (pc := 17) C dX7_near_17 rfl ?_
    obtain ⟨o3, h4⟩ := h2
    refine J_zald (pc := 18) C dX7_near_18 9 9 rfl (by decide) o3 ?_
    obtain ⟨h5, h6⟩ := h4
    refine J_if_eq (pc := 19) (tgt := 26) C dX7_near_19 (by decide) (r01 (hok 9 x3)) (fun cb => ?_) (fun cb => ?_)
    · have h5 := h5 cb
      refine J_aload_n (pc := 26) C dX7_near_26 rfl ?_
      refine J_get (pc := 27) C dX7_near_27 0 rfl rfl nX7_near_X7 7 (by decide) mX7_near_f23 rfl (v := .ref (G.2.2 5)) rfl ?_
      refine J_iload_n (pc := 30) C dX7_near_30 rfl ?_
      refine J_iald (pc := 31) C dX7_near_31 5 5 rfl (by decide) o3 ?_
      refine J_iload_n (pc := 32) C dX7_near_32 rfl ?_
      obtain ⟨h7, h8⟩ := h5
      refine J_icmp_ne (pc := 33) (tgt := 47) C dX7_near_33 (by decide) (hok 5 x3) rx1 (fun cb => ?_) (fun cb => ?_)
      · have h7 := h7 cb
        refine J_aload_n (pc := 47) C dX7_near_47 rfl ?_
        refine J_get (pc := 48) C dX7_near_48 0 rfl rfl nX7_near_X7 8 (by decide) mX7_near_f26 rfl (v := .ref (G.2.2 6)) rfl ?_
        refine J_iload_n (pc := 51) C dX7_near_51 rfl ?_
        refine J_iald (pc := 52) C dX7_near_52 6 6 rfl (by decide) o3 ?_
        refine J_iload_n (pc := 53) C dX7_near_53 rfl ?_
        obtain ⟨h9, h10⟩ := h7
        refine J_icmp_ne (pc := 54) (tgt := 68) C dX7_near_54 (by decide) (hok 6 x3) rx1 (fun cb => ?_) (fun cb => ?_)
        · have h9 := h9 cb
          refine J_iconst (pc := 68) C dX7_near_68 ?_
          refine J_ior (pc := 69) C dX7_near_69 ?_
          refine J_istore_n (pc := 70) C dX7_near_70 (by decide) ?_
          refine J_iinc (pc := 71) C dX7_near_71 rfl (by decide) ?_
          refine J_goto (pc := 74) (tgt := 4) C dX7_near_74 (by decide) ?_
          obtain ⟨o11, h12⟩ := h9
          exact J_sub (L1 := [some (.ref (G.2.2 0)), some (iV x1), some (iV (zor x2 0)), some (iV (x3 + 1))]) ⟨rfl, ⟨rfl, ⟨rfl, ⟨rfl, trivial⟩⟩⟩⟩ (h12 rx1 (r_zor _ _) o11 p l e s m args below meth c G A C hok)
        · have h10 := h10 cb
          refine J_iconst (pc := 57) C dX7_near_57 ?_
          refine J_aload_n (pc := 58) C dX7_near_58 rfl ?_
          refine J_get (pc := 59) C dX7_near_59 0 rfl rfl nX7_near_X7 7 (by decide) mX7_near_f23 rfl (v := .ref (G.2.2 5)) rfl ?_
          refine J_iload_n (pc := 62) C dX7_near_62 rfl ?_
          refine J_iald (pc := 63) C dX7_near_63 5 5 rfl (by decide) o3 ?_
          refine J_ishl (pc := 64) C dX7_near_64 ?_
          refine J_goto (pc := 65) (tgt := 69) C dX7_near_65 (by decide) ?_
          refine J_ior (pc := 69) C dX7_near_69 ?_
          refine J_istore_n (pc := 70) C dX7_near_70 (by decide) ?_
          refine J_iinc (pc := 71) C dX7_near_71 rfl (by decide) ?_
          refine J_goto (pc := 74) (tgt := 4) C dX7_near_74 (by decide) ?_
          obtain ⟨o13, h14⟩ := h10
          exact J_sub (L1 := [some (.ref (G.2.2 0)), some (iV x1), some (iV (zor x2 (zshl 1 (S 5 x3)))), some (iV (x3 + 1))]) ⟨rfl, ⟨rfl, ⟨rfl, ⟨rfl, trivial⟩⟩⟩⟩ (h14 rx1 (r_zor _ _) o13 p l e s m args below meth c G A C hok)
      · have h8 := h8 cb
        refine J_iconst (pc := 36) C dX7_near_36 ?_
        refine J_aload_n (pc := 37) C dX7_near_37 rfl ?_
        refine J_get (pc := 38) C dX7_near_38 0 rfl rfl nX7_near_X7 8 (by decide) mX7_near_f26 rfl (v := .ref (G.2.2 6)) rfl ?_
        refine J_iload_n (pc := 41) C dX7_near_41 rfl ?_
        refine J_iald (pc := 42) C dX7_near_42 6 6 rfl (by decide) o3 ?_
        refine J_ishl (pc := 43) C dX7_near_43 ?_
        refine J_goto (pc := 44) (tgt := 69) C dX7_near_44 (by decide) ?_
        refine J_ior (pc := 69) C dX7_near_69 ?_
        refine J_istore_n (pc := 70) C dX7_near_70 (by decide) ?_
        refine J_iinc (pc := 71) C dX7_near_71 rfl (by decide) ?_
        refine J_goto (pc := 74) (tgt := 4) C dX7_near_74 (by decide) ?_
        obtain ⟨o15, h16⟩ := h8
        exact J_sub (L1 := [some (.ref (G.2.2 0)), some (iV x1), some (iV (zor x2 (zshl 1 (S 6 x3)))), some (iV (x3 + 1))]) ⟨rfl, ⟨rfl, ⟨rfl, ⟨rfl, trivial⟩⟩⟩⟩ (h16 rx1 (r_zor _ _) o15 p l e s m args below meth c G A C hok)
    · have h6 := h6 cb
      refine J_iconst (pc := 22) C dX7_near_22 ?_
      refine J_goto (pc := 23) (tgt := 69) C dX7_near_23 (by decide) ?_
      refine J_ior (pc := 69) C dX7_near_69 ?_
      refine J_istore_n (pc := 70) C dX7_near_70 (by decide) ?_
      refine J_iinc (pc := 71) C dX7_near_71 rfl (by decide) ?_
      refine J_goto (pc := 74) (tgt := 4) C dX7_near_74 (by decide) ?_
      obtain ⟨o17, h18⟩ := h6
      exact J_sub (L1 := [some (.ref (G.2.2 0)), some (iV x1), some (iV (zor x2 0)), some (iV (x3 + 1))]) ⟨rfl, ⟨rfl, ⟨rfl, ⟨rfl, trivial⟩⟩⟩⟩ (h18 rx1 (r_zor _ _) o17 p l e s m args below meth c G A C hok)
def rmX7_canUndo : Room := { frames := 1, cells := 0, slots := 0, locals := 23 }
theorem mX7_canUndo_f193 : Cond.fieldLink RX7 193 "StressworkModel" "steps" "I" ∈ wsX7_canUndo := by decide +kernel
theorem nX7_canUndo_X7 : ∀ x ∈ wsX70, x ∈ wsX7_canUndo := by decide +kernel
theorem mX7_canUndo_f38 : Cond.fieldLink RX7 38 "StressworkModel" "stepJoint" "[I" ∈ wsX7_canUndo := by decide +kernel
theorem mX7_canUndo_f41 : Cond.fieldLink RX7 41 "StressworkModel" "stepBar" "[I" ∈ wsX7_canUndo := by decide +kernel
theorem mX7_canUndo_f44 : Cond.fieldLink RX7 44 "StressworkModel" "stepBars" "[I" ∈ wsX7_canUndo := by decide +kernel
theorem mX7_canUndo_f76 : Cond.fieldLink RX7 76 "StressworkModel" "joints" "I" ∈ wsX7_canUndo := by decide +kernel
theorem mX7_canUndo_f16 : Cond.fieldLink RX7 16 "StressworkModel" "isPinned" "[Z" ∈ wsX7_canUndo := by decide +kernel
theorem mX7_canUndo_f35 : Cond.fieldLink RX7 35 "StressworkModel" "isGone" "[Z" ∈ wsX7_canUndo := by decide +kernel
def M_X7_canUndo (S : St) (Qr : Int → St → Prop) (Qx : String → St → Prop) : Prop := MM 1 wM okM yX7_canUndo wsX7_canUndo rmX7_canUndo (fun G => [.ref (G.2.2 0)]) S Qr Qx
def R_X7_canUndo_86 (x2 x3 x4 x5 : Int) (S : St) (Qr : Int → St → Prop) (Qx : String → St → Prop) : Prop := r32 x2 → r32 x3 → r32 x4 → r32 x5 → RR 1 wM okM wsX7_canUndo rmX7_canUndo cX7_canUndo 6 RX7 (some .boolean) [] 0 0 (fun G => [some (.ref (G.2.2 0)), none, some (iV x2), some (iV x3), some (iV x4), some (iV x5)]) (fun G => []) 86 S Qr Qx
set_option maxRecDepth 100000 in
set_option maxHeartbeats 4000000 in
theorem vc_X7_canUndo {S : St} {Qr : Int → St → Prop} {Qx : String → St → Prop} (h : okM S → (((S 0 12) ≠ 0 → (ix ((S 0 12) - 1) 10 ∧ (r32 ((S 0 1) - 1) ∧ (((S 10 ((S 0 12) - 1)) ≠ ((S 0 1) - 1) → R_X7_canUndo_86 (S 11 ((S 0 12) - 1)) (S 12 ((S 0 12) - 1)) 0 (S 11 ((S 0 12) - 1)) S Qr Qx) ∧ ((S 10 ((S 0 12) - 1)) = ((S 0 1) - 1) → (ix (S 10 ((S 0 12) - 1)) 10 ∧ (((S 3 (S 10 ((S 0 12) - 1))) ≠ 0 → R_X7_canUndo_86 (S 11 ((S 0 12) - 1)) (S 12 ((S 0 12) - 1)) 0 (S 11 ((S 0 12) - 1)) S Qr Qx) ∧ ((S 3 (S 10 ((S 0 12) - 1))) = 0 → M_X7_near (S 10 ((S 0 12) - 1)) S (fun rv16 S14 => r32 rv16 → okM S14 → M_X7_bits rv16 S14 (fun rv21 S19 => r32 rv21 → okM S19 → ((rv21 ≠ (S 12 ((S 0 12) - 1)) → R_X7_canUndo_86 (S 11 ((S 0 12) - 1)) (S 12 ((S 0 12) - 1)) 0 (S 11 ((S 0 12) - 1)) S19 Qr Qx) ∧ (rv21 = (S 12 ((S 0 12) - 1)) → R_X7_canUndo_86 (S 11 ((S 0 12) - 1)) (S 12 ((S 0 12) - 1)) 1 (S 11 ((S 0 12) - 1)) S19 Qr Qx))) Qx) Qx)))))))) ∧ ((S 0 12) = 0 → Qr 0 S))) : M_X7_canUndo S Qr Qx := by
  refine MM_of adM (by decide +kernel) rfl (Lf := fun G => [some (.ref (G.2.2 0)), none, none, none, none, none]) (fun G => by show _ ≤ _; exact Nat.le_of_ble_eq_true rfl) (fun G => rfl) ?_
  intro p l e s m args below meth c G A C hok
  have h := h hok
  replace C : Cx wM cX7_canUndo 6 RX7 wsX7_canUndo (some .boolean) [] p l s m args meth c G A := C
  show J wM 6 rmX7_canUndo p l e s m args below meth c G A (QQ 1 wM okM G Qr Qx A below args s rmX7_canUndo.cells rmX7_canUndo.slots) 0 0 S [some (.ref (G.2.2 0)), none, none, none, none, none] [] 0
  refine J_aload_n (pc := 0) C dX7_canUndo_0 rfl ?_
  refine J_get (pc := 1) C dX7_canUndo_1 0 rfl rfl nX7_canUndo_X7 12 (by decide) mX7_canUndo_f193 rfl (v := iV (S 0 12)) rfl ?_
  obtain ⟨h1, h2⟩ := h
  refine J_if_ne (pc := 4) (tgt := 9) C dX7_canUndo_4 (by decide) (hok 0 12) (fun cb => ?_) (fun cb => ?_)
  · have h1 := h1 cb
    refine J_aload_n (pc := 9) C dX7_canUndo_9 rfl ?_
    refine J_get (pc := 10) C dX7_canUndo_10 0 rfl rfl nX7_canUndo_X7 13 (by decide) mX7_canUndo_f38 rfl (v := .ref (G.2.2 10)) rfl ?_
    refine J_aload_n (pc := 13) C dX7_canUndo_13 rfl ?_
    refine J_get (pc := 14) C dX7_canUndo_14 0 rfl rfl nX7_canUndo_X7 12 (by decide) mX7_canUndo_f193 rfl (v := iV (S 0 12)) rfl ?_
    refine J_iconst (pc := 17) C dX7_canUndo_17 ?_
    refine J_isub (pc := 18) C dX7_canUndo_18 ?_
    obtain ⟨o3, h4⟩ := h1
    refine J_iald (pc := 19) C dX7_canUndo_19 10 10 rfl (by decide) o3 ?_
    refine J_istore_n (pc := 20) C dX7_canUndo_20 (by decide) ?_
    refine J_aload_n (pc := 21) C dX7_canUndo_21 rfl ?_
    refine J_get (pc := 22) C dX7_canUndo_22 0 rfl rfl nX7_canUndo_X7 14 (by decide) mX7_canUndo_f41 rfl (v := .ref (G.2.2 11)) rfl ?_
    refine J_aload_n (pc := 25) C dX7_canUndo_25 rfl ?_
    refine J_get (pc := 26) C dX7_canUndo_26 0 rfl rfl nX7_canUndo_X7 12 (by decide) mX7_canUndo_f193 rfl (v := iV (S 0 12)) rfl ?_
    refine J_iconst (pc := 29) C dX7_canUndo_29 ?_
    refine J_isub (pc := 30) C dX7_canUndo_30 ?_
    refine J_iald (pc := 31) C dX7_canUndo_31 11 11 rfl (by decide) o3 ?_
    refine J_istore_n (pc := 32) C dX7_canUndo_32 (by decide) ?_
    refine J_aload_n (pc := 33) C dX7_canUndo_33 rfl ?_
    refine J_get (pc := 34) C dX7_canUndo_34 0 rfl rfl nX7_canUndo_X7 15 (by decide) mX7_canUndo_f44 rfl (v := .ref (G.2.2 12)) rfl ?_
    refine J_aload_n (pc := 37) C dX7_canUndo_37 rfl ?_
    refine J_get (pc := 38) C dX7_canUndo_38 0 rfl rfl nX7_canUndo_X7 12 (by decide) mX7_canUndo_f193 rfl (v := iV (S 0 12)) rfl ?_
    refine J_iconst (pc := 41) C dX7_canUndo_41 ?_
    refine J_isub (pc := 42) C dX7_canUndo_42 ?_
    refine J_iald (pc := 43) C dX7_canUndo_43 12 12 rfl (by decide) o3 ?_
    refine J_istore_n (pc := 44) C dX7_canUndo_44 (by decide) ?_
    refine J_iload_n (pc := 45) C dX7_canUndo_45 rfl ?_
    refine J_aload_n (pc := 46) C dX7_canUndo_46 rfl ?_
    refine J_get (pc := 47) C dX7_canUndo_47 0 rfl rfl nX7_canUndo_X7 1 (by decide) mX7_canUndo_f76 rfl (v := iV (S 0 1)) rfl ?_
    refine J_iconst (pc := 50) C dX7_canUndo_50 ?_
    refine J_isub (pc := 51) C dX7_canUndo_51 ?_
    obtain ⟨o5, h6⟩ := h4
    obtain ⟨h7, h8⟩ := h6
    refine J_icmp_ne (pc := 52) (tgt := 80) C dX7_canUndo_52 (by decide) (hok 10 ((S 0 12) - 1)) o5 (fun cb => ?_) (fun cb => ?_)
    · have h7 := h7 cb
      refine J_iconst (pc := 80) C dX7_canUndo_80 ?_
      refine J_istore (pc := 81) C dX7_canUndo_81 (by decide) ?_
      refine J_iload_n (pc := 83) C dX7_canUndo_83 rfl ?_
      refine J_istore (pc := 84) C dX7_canUndo_84 (by decide) ?_
      exact J_sub (L1 := [some (.ref (G.2.2 0)), none, some (iV (S 11 ((S 0 12) - 1))), some (iV (S 12 ((S 0 12) - 1))), some (iV 0), some (iV (S 11 ((S 0 12) - 1)))]) ⟨rfl, ⟨rfl, ⟨rfl, ⟨rfl, ⟨rfl, trivial⟩⟩⟩⟩⟩ (h7 (hok 11 ((S 0 12) - 1)) (hok 12 ((S 0 12) - 1)) (by decide) (hok 11 ((S 0 12) - 1)) p l e s m args below meth c G A C hok)
    · have h8 := h8 cb
      refine J_aload_n (pc := 55) C dX7_canUndo_55 rfl ?_
      refine J_get (pc := 56) C dX7_canUndo_56 0 rfl rfl nX7_canUndo_X7 4 (by decide) mX7_canUndo_f16 rfl (v := .ref (G.2.2 3)) rfl ?_
      refine J_iload_n (pc := 59) C dX7_canUndo_59 rfl ?_
      obtain ⟨o9, h10⟩ := h8
      refine J_zald (pc := 60) C dX7_canUndo_60 3 3 rfl (by decide) o9 ?_
      obtain ⟨h11, h12⟩ := h10
      refine J_if_ne (pc := 61) (tgt := 80) C dX7_canUndo_61 (by decide) (r01 (hok 3 (S 10 ((S 0 12) - 1)))) (fun cb => ?_) (fun cb => ?_)
      · have h11 := h11 cb
        refine J_iconst (pc := 80) C dX7_canUndo_80 ?_
        refine J_istore (pc := 81) C dX7_canUndo_81 (by decide) ?_
        refine J_iload_n (pc := 83) C dX7_canUndo_83 rfl ?_
        refine J_istore (pc := 84) C dX7_canUndo_84 (by decide) ?_
        exact J_sub (L1 := [some (.ref (G.2.2 0)), none, some (iV (S 11 ((S 0 12) - 1))), some (iV (S 12 ((S 0 12) - 1))), some (iV 0), some (iV (S 11 ((S 0 12) - 1)))]) ⟨rfl, ⟨rfl, ⟨rfl, ⟨rfl, ⟨rfl, trivial⟩⟩⟩⟩⟩ (h11 (hok 11 ((S 0 12) - 1)) (hok 12 ((S 0 12) - 1)) (by decide) (hok 11 ((S 0 12) - 1)) p l e s m args below meth c G A C hok)
      · have h12 := h12 cb
        refine J_aload_n (pc := 64) C dX7_canUndo_64 rfl ?_
        refine J_iload_n (pc := 65) C dX7_canUndo_65 rfl ?_
        refine J_c1 (pc := 66) C (J_rV (pc := 66) C (h12 (hok 10 ((S 0 12) - 1))) dX7_canUndo_66 rfl rfl 0 rfl rfl (cwV 1 C.1.2.2.2.2 gX7_canUndo_X7_near rfl rfl rfl (by decide +kernel) ⟨Nat.le_of_ble_eq_true rfl, Nat.le_of_ble_eq_true rfl⟩) hok (Nat.le_of_ble_eq_true rfl) ⟨Nat.le_of_ble_eq_true rfl, Nat.le_of_ble_eq_true rfl⟩) (fun E9 S9 ok9 q9 => JX_out C ok9 q9 (by decide) (by decide)) (fun rv16 S14 hr17 hok15 h13 => ?_)
        have h13 := h13 hr17 hok15
        refine J_c1 (pc := 69) C (J_rS (pc := 69) C (h13 hr17) dX7_canUndo_69 rfl rfl (va_cwS 1 C.1.2.2.2.2 gX7_canUndo_X7_bits rfl rfl rfl (by decide +kernel) ⟨Nat.le_of_ble_eq_true rfl, Nat.le_of_ble_eq_true rfl⟩) hok15 (Nat.le_of_ble_eq_true rfl) ⟨Nat.le_of_ble_eq_true rfl, Nat.le_of_ble_eq_true rfl⟩) (fun E9 S9 ok9 q9 => JX_out C ok9 q9 (by decide) (by decide)) (fun rv21 S19 hr22 hok20 h18 => ?_)
        have h18 := h18 hr22 hok20
        refine J_iload_n (pc := 72) C dX7_canUndo_72 rfl ?_
        obtain ⟨h23, h24⟩ := h18
        refine J_icmp_ne (pc := 73) (tgt := 80) C dX7_canUndo_73 (by decide) hr22 (hok 12 ((S 0 12) - 1)) (fun cb => ?_) (fun cb => ?_)
        · have h23 := h23 cb
          refine J_iconst (pc := 80) C dX7_canUndo_80 ?_
          refine J_istore (pc := 81) C dX7_canUndo_81 (by decide) ?_
          refine J_iload_n (pc := 83) C dX7_canUndo_83 rfl ?_
          refine J_istore (pc := 84) C dX7_canUndo_84 (by decide) ?_
          exact J_sub (L1 := [some (.ref (G.2.2 0)), none, some (iV (S 11 ((S 0 12) - 1))), some (iV (S 12 ((S 0 12) - 1))), some (iV 0), some (iV (S 11 ((S 0 12) - 1)))]) ⟨rfl, ⟨rfl, ⟨rfl, ⟨rfl, ⟨rfl, trivial⟩⟩⟩⟩⟩ (h23 (hok 11 ((S 0 12) - 1)) (hok 12 ((S 0 12) - 1)) (by decide) (hok 11 ((S 0 12) - 1)) p l e s m args below meth c G A C hok20)
        · have h24 := h24 cb
          refine J_iconst (pc := 76) C dX7_canUndo_76 ?_
          refine J_goto (pc := 77) (tgt := 81) C dX7_canUndo_77 (by decide) ?_
          refine J_istore (pc := 81) C dX7_canUndo_81 (by decide) ?_
          refine J_iload_n (pc := 83) C dX7_canUndo_83 rfl ?_
          refine J_istore (pc := 84) C dX7_canUndo_84 (by decide) ?_
          exact J_sub (L1 := [some (.ref (G.2.2 0)), none, some (iV (S 11 ((S 0 12) - 1))), some (iV (S 12 ((S 0 12) - 1))), some (iV 1), some (iV (S 11 ((S 0 12) - 1)))]) ⟨rfl, ⟨rfl, ⟨rfl, ⟨rfl, ⟨rfl, trivial⟩⟩⟩⟩⟩ (h24 (hok 11 ((S 0 12) - 1)) (hok 12 ((S 0 12) - 1)) (by decide) (hok 11 ((S 0 12) - 1)) p l e s m args below meth c G A C hok20)
  · have h2 := h2 cb
    refine J_iconst (pc := 7) C dX7_canUndo_7 ?_
    exact J_zret (pc := 8) C dX7_canUndo_8 (by decide) hok h2 (by decide) (by decide)
set_option maxRecDepth 100000 in
set_option maxHeartbeats 4000000 in
theorem vc_X7_canUndo_86 {x2 x3 x4 x5 : Int} {S : St} {Qr : Int → St → Prop} {Qx : String → St → Prop} (h : r32 x2 → r32 x3 → r32 x4 → r32 x5 → okM S → (r32 (x2 + x3) ∧ (((x2 + x3) ≤ x5 → ((0 ≤ x4 ∧ x4 ≤ 1) ∧ Qr x4 S)) ∧ (x5 < (x2 + x3) → ((x4 = 0 → (r32 (x5 + 1) ∧ R_X7_canUndo_86 x2 x3 0 (x5 + 1) S Qr Qx)) ∧ (x4 ≠ 0 → (ix x5 40 ∧ (((S 9 x5) ≠ 0 → (r32 (x5 + 1) ∧ R_X7_canUndo_86 x2 x3 0 (x5 + 1) S Qr Qx)) ∧ ((S 9 x5) = 0 → (r32 (x5 + 1) ∧ R_X7_canUndo_86 x2 x3 1 (x5 + 1) S Qr Qx)))))))))) : R_X7_canUndo_86 x2 x3 x4 x5 S Qr Qx := by
  intro rx2 rx3 rx4 rx5
  intro p l e s m args below meth c G A C hok
  have h := h rx2 rx3 rx4 rx5 hok
  replace C : Cx wM cX7_canUndo 6 RX7 wsX7_canUndo (some .boolean) [] p l s m args meth c G A := C
  show J wM 6 rmX7_canUndo p l e s m args below meth c G A (QQ 1 wM okM G Qr Qx A below args s rmX7_canUndo.cells rmX7_canUndo.slots) 0 0 S [some (.ref (G.2.2 0)), none, some (iV x2), some (iV x3), some (iV x4), some (iV x5)] [] 86
  refine J_iload (pc := 86) C dX7_canUndo_86 rfl ?_
  refine J_iload_n (pc := 88) C dX7_canUndo_88 rfl ?_
  refine J_iload_n (pc := 89) C dX7_canUndo_89 rfl ?_
  refine J_iadd (pc := 90) C dX7_canUndo_90 ?_
  obtain ⟨o1, h2⟩ := h
  obtain ⟨h3, h4⟩ := h2
  refine J_icmp_ge (pc := 91) (tgt := 122) C dX7_canUndo_91 (by decide) rx5 o1 (fun cb => ?_) (fun cb => ?_)
  · have h3 := h3 cb
    refine J_iload (pc := 122) C dX7_canUndo_122 rfl ?_
    obtain ⟨o5, h6⟩ := h3
    exact J_zret (pc := 124) C dX7_canUndo_124 o5 hok h6 (by decide) (by decide)
  · have h4 := h4 cb
    refine J_iload (pc := 94) C dX7_canUndo_94 rfl ?_
    obtain ⟨h7, h8⟩ := h4
    refine J_if_eq (pc := 96) (tgt := 113) C dX7_canUndo_96 (by decide) rx4 (fun cb => ?_) (fun cb => ?_)
    · have h7 := h7 cb
      refine J_iconst (pc := 113) C dX7_canUndo_113 ?_
      refine J_istore (pc := 114) C dX7_canUndo_114 (by decide) ?_
      refine J_iinc (pc := 116) C dX7_canUndo_116 rfl (by decide) ?_
      refine J_goto (pc := 119) (tgt := 86) C dX7_canUndo_119 (by decide) ?_
      obtain ⟨o9, h10⟩ := h7
      exact J_sub (L1 := [some (.ref (G.2.2 0)), none, some (iV x2), some (iV x3), some (iV 0), some (iV (x5 + 1))]) ⟨rfl, ⟨rfl, ⟨rfl, ⟨rfl, ⟨rfl, trivial⟩⟩⟩⟩⟩ (h10 rx2 rx3 (by decide) o9 p l e s m args below meth c G A C hok)
    · have h8 := h8 cb
      refine J_aload_n (pc := 99) C dX7_canUndo_99 rfl ?_
      refine J_get (pc := 100) C dX7_canUndo_100 0 rfl rfl nX7_canUndo_X7 11 (by decide) mX7_canUndo_f35 rfl (v := .ref (G.2.2 9)) rfl ?_
      refine J_iload (pc := 103) C dX7_canUndo_103 rfl ?_
      obtain ⟨o11, h12⟩ := h8
      refine J_zald (pc := 105) C dX7_canUndo_105 9 9 rfl (by decide) o11 ?_
      obtain ⟨h13, h14⟩ := h12
      refine J_if_ne (pc := 106) (tgt := 113) C dX7_canUndo_106 (by decide) (r01 (hok 9 x5)) (fun cb => ?_) (fun cb => ?_)
      · have h13 := h13 cb
        refine J_iconst (pc := 113) C dX7_canUndo_113 ?_
        refine J_istore (pc := 114) C dX7_canUndo_114 (by decide) ?_
        refine J_iinc (pc := 116) C dX7_canUndo_116 rfl (by decide) ?_
        refine J_goto (pc := 119) (tgt := 86) C dX7_canUndo_119 (by decide) ?_
        obtain ⟨o15, h16⟩ := h13
        exact J_sub (L1 := [some (.ref (G.2.2 0)), none, some (iV x2), some (iV x3), some (iV 0), some (iV (x5 + 1))]) ⟨rfl, ⟨rfl, ⟨rfl, ⟨rfl, ⟨rfl, trivial⟩⟩⟩⟩⟩ (h16 rx2 rx3 (by decide) o15 p l e s m args below meth c G A C hok)
      · have h14 := h14 cb
        refine J_iconst (pc := 109) C dX7_canUndo_109 ?_
        refine J_goto (pc := 110) (tgt := 114) C dX7_canUndo_110 (by decide) ?_
        refine J_istore (pc := 114) C dX7_canUndo_114 (by decide) ?_
        refine J_iinc (pc := 116) C dX7_canUndo_116 rfl (by decide) ?_
        refine J_goto (pc := 119) (tgt := 86) C dX7_canUndo_119 (by decide) ?_
        obtain ⟨o17, h18⟩ := h14
        exact J_sub (L1 := [some (.ref (G.2.2 0)), none, some (iV x2), some (iV x3), some (iV 1), some (iV (x5 + 1))]) ⟨rfl, ⟨rfl, ⟨rfl, ⟨rfl, ⟨rfl, trivial⟩⟩⟩⟩⟩ (h18 rx2 rx3 (by decide) o17 p l e s m args below meth c G A C hok)
def rmX7_doHang : Room := { frames := 1, cells := 0, slots := 0, locals := 23 }
theorem mX7_doHang_f76 : Cond.fieldLink RX7 76 "StressworkModel" "joints" "I" ∈ wsX7_doHang := by decide +kernel
theorem nX7_doHang_X7 : ∀ x ∈ wsX70, x ∈ wsX7_doHang := by decide +kernel
def M_X7_doHang (a0 : Int) (S : St) (Qr : Int → St → Prop) (Qx : String → St → Prop) : Prop := r32 a0 → MM 1 wM okM yX7_doHang wsX7_doHang rmX7_doHang (fun G => [.ref (G.2.2 0), iV a0]) S Qr Qx
def R_X7_doHang_21 (x2 x3 x4 : Int) (S : St) (Qr : Int → St → Prop) (Qx : String → St → Prop) : Prop := r32 x2 → r32 x3 → r32 x4 → RR 1 wM okM wsX7_doHang rmX7_doHang cX7_doHang 6 RX7 (some .boolean) [] 0 0 (fun G => [some (.ref (G.2.2 0)), none, some (iV x2), some (iV x3), some (iV x4), none]) (fun G => []) 21 S Qr Qx
def R_X7_doHang_33 (x2 x3 x4 x5 : Int) (S : St) (Qr : Int → St → Prop) (Qx : String → St → Prop) : Prop := r32 x2 → r32 x3 → r32 x4 → r32 x5 → RR 1 wM okM wsX7_doHang rmX7_doHang cX7_doHang 6 RX7 (some .boolean) [] 0 0 (fun G => [some (.ref (G.2.2 0)), none, some (iV x2), some (iV x3), some (iV x4), some (iV x5)]) (fun G => []) 33 S Qr Qx
set_option maxRecDepth 100000 in
set_option maxHeartbeats 4000000 in
theorem vc_X7_doHang {a0 : Int} {S : St} {Qr : Int → St → Prop} {Qx : String → St → Prop} (h : r32 a0 → okM S → R_X7_doHang_21 (zand ((zshl 1 (S 0 1)) - 1) (zxor a0 (-1))) (zand (zand ((zshl 1 (S 0 1)) - 1) (zxor a0 (-1))) (-(zand ((zshl 1 (S 0 1)) - 1) (zxor a0 (-1))))) 0 S Qr Qx) : M_X7_doHang a0 S Qr Qx := by
  intro ra0
  refine MM_of adM (by decide +kernel) rfl (Lf := fun G => [some (.ref (G.2.2 0)), some (iV a0), none, none, none, none]) (fun G => by show _ ≤ _; exact Nat.le_of_ble_eq_true rfl) (fun G => rfl) ?_
  intro p l e s m args below meth c G A C hok
  have h := h ra0 hok
  replace C : Cx wM cX7_doHang 6 RX7 wsX7_doHang (some .boolean) [] p l s m args meth c G A := C
  show J wM 6 rmX7_doHang p l e s m args below meth c G A (QQ 1 wM okM G Qr Qx A below args s rmX7_doHang.cells rmX7_doHang.slots) 0 0 S [some (.ref (G.2.2 0)), some (iV a0), none, none, none, none] [] 0
  refine J_iconst (pc := 0) C dX7_doHang_0 ?_
  refine J_aload_n (pc := 1) C dX7_doHang_1 rfl ?_
  refine J_get (pc := 2) C dX7_doHang_2 0 rfl rfl nX7_doHang_X7 1 (by decide) mX7_doHang_f76 rfl (v := iV (S 0 1)) rfl ?_
  refine J_ishl (pc := 5) C dX7_doHang_5 ?_
  refine J_iconst (pc := 6) C dX7_doHang_6 ?_
  refine J_isub (pc := 7) C dX7_doHang_7 ?_
  refine J_iload_n (pc := 8) C dX7_doHang_8 rfl ?_
  refine J_iconst (pc := 9) C dX7_doHang_9 ?_
  refine J_ixor (pc := 10) C dX7_doHang_10 ?_
  refine J_iand (pc := 11) C dX7_doHang_11 ?_
  refine J_istore_n (pc := 12) C dX7_doHang_12 (by decide) ?_
  refine J_iload_n (pc := 13) C dX7_doHang_13 rfl ?_
  refine J_iload_n (pc := 14) C dX7_doHang_14 rfl ?_
  refine J_ineg (pc := 15) C dX7_doHang_15 ?_
  refine J_iand (pc := 16) C dX7_doHang_16 ?_
  refine J_istore_n (pc := 17) C dX7_doHang_17 (by decide) ?_
  refine J_iconst (pc := 18) C dX7_doHang_18 ?_
  refine J_istore (pc := 19) C dX7_doHang_19 (by decide) ?_
  exact J_sub (L1 := [some (.ref (G.2.2 0)), none, some (iV (zand ((zshl 1 (S 0 1)) - 1) (zxor a0 (-1)))), some (iV (zand (zand ((zshl 1 (S 0 1)) - 1) (zxor a0 (-1))) (-(zand ((zshl 1 (S 0 1)) - 1) (zxor a0 (-1)))))), some (iV 0), none]) ⟨rfl, ⟨rfl, ⟨rfl, ⟨rfl, trivial⟩⟩⟩⟩ (h (r_zand _ _) (r_zand _ _) (by decide) p l e s m args below meth c G A C hok)
set_option maxRecDepth 100000 in
set_option maxHeartbeats 4000000 in
theorem vc_X7_doHang_21 {x2 x3 x4 : Int} {S : St} {Qr : Int → St → Prop} {Qx : String → St → Prop} (h : r32 x2 → r32 x3 → r32 x4 → okM S → (((S 0 1) ≤ x4 → ((x3 ≠ x2 → Qr 0 S) ∧ (x3 = x2 → Qr 1 S))) ∧ (x4 < (S 0 1) → R_X7_doHang_33 x2 x3 x4 0 S Qr Qx))) : R_X7_doHang_21 x2 x3 x4 S Qr Qx := by
  intro rx2 rx3 rx4
  intro p l e s m args below meth c G A C hok
  have h := h rx2 rx3 rx4 hok
  replace C : Cx wM cX7_doHang 6 RX7 wsX7_doHang (some .boolean) [] p l s m args meth c G A := C
  show J wM 6 rmX7_doHang p l e s m args below meth c G A (QQ 1 wM okM G Qr Qx A below args s rmX7_doHang.cells rmX7_doHang.slots) 0 0 S [some (.ref (G.2.2 0)), none, some (iV x2), some (iV x3), some (iV x4), none] [] 21
  refine J_iload (pc := 21) C dX7_doHang_21 rfl ?_
  refine J_aload_n (pc := 23) C dX7_doHang_23 rfl ?_
  refine J_get (pc := 24) C dX7_doHang_24 0 rfl rfl nX7_doHang_X7 1 (by decide) mX7_doHang_f76 rfl (v := iV (S 0 1)) rfl ?_
  obtain ⟨h1, h2⟩ := h
  refine J_icmp_ge (pc := 27) (tgt := 79) C dX7_doHang_27 (by decide) rx4 (hok 0 1) (fun cb => ?_) (fun cb => ?_)
  · have h1 := h1 cb
    refine J_iload_n (pc := 79) C dX7_doHang_79 rfl ?_
    refine J_iload_n (pc := 80) C dX7_doHang_80 rfl ?_
    obtain ⟨h3, h4⟩ := h1
    refine J_icmp_ne (pc := 81) (tgt := 88) C dX7_doHang_81 (by decide) rx3 rx2 (fun cb => ?_) (fun cb => ?_)
    · have h3 := h3 cb
      refine J_iconst (pc := 88) C dX7_doHang_88 ?_
      exact J_zret (pc := 89) C dX7_doHang_89 (by decide) hok h3 (by decide) (by decide)
    · have h4 := h4 cb
      refine J_iconst (pc := 84) C dX7_doHang_84 ?_
      refine J_goto (pc := 85) (tgt := 89) C dX7_doHang_85 (by decide) ?_
      exact J_zret (pc := 89) C dX7_doHang_89 (by decide) hok h4 (by decide) (by decide)
  · have h2 := h2 cb
    refine J_iconst (pc := 30) C dX7_doHang_30 ?_
    refine J_istore (pc := 31) C dX7_doHang_31 (by decide) ?_
    exact J_sub (L1 := [some (.ref (G.2.2 0)), none, some (iV x2), some (iV x3), some (iV x4), some (iV 0)]) ⟨rfl, ⟨rfl, ⟨rfl, ⟨rfl, ⟨rfl, trivial⟩⟩⟩⟩⟩ (h2 rx2 rx3 rx4 (by decide) p l e s m args below meth c G A C hok)
set_option maxRecDepth 100000 in
set_option maxHeartbeats 4000000 in
theorem vc_X7_doHang_33 {x2 x3 x4 x5 : Int} {S : St} {Qr : Int → St → Prop} {Qx : String → St → Prop} (h : r32 x2 → r32 x3 → r32 x4 → r32 x5 → okM S → (((S 0 1) ≤ x5 → (r32 (x4 + 1) ∧ R_X7_doHang_21 x2 x3 (x4 + 1) S Qr Qx)) ∧ (x5 < (S 0 1) → (((zand (zshr x3 x5) 1) ≠ 1 → (r32 (x5 + 1) ∧ R_X7_doHang_33 x2 (zor x3 0) x4 (x5 + 1) S Qr Qx)) ∧ ((zand (zshr x3 x5) 1) = 1 → M_X7_near x5 S (fun rv12 S10 => r32 rv12 → okM S10 → (r32 (x5 + 1) ∧ R_X7_doHang_33 x2 (zor x3 (zand rv12 x2)) x4 (x5 + 1) S10 Qr Qx)) Qx))))) : R_X7_doHang_33 x2 x3 x4 x5 S Qr Qx := by
  intro rx2 rx3 rx4 rx5
  intro p l e s m args below meth c G A C hok
  have h := h rx2 rx3 rx4 rx5 hok
  replace C : Cx wM cX7_doHang 6 RX7 wsX7_doHang (some .boolean) [] p l s m args meth c G A := C
  show J wM 6 rmX7_doHang p l e s m args below meth c G A (QQ 1 wM okM G Qr Qx A below args s rmX7_doHang.cells rmX7_doHang.slots) 0 0 S [some (.ref (G.2.2 0)), none, some (iV x2), some (iV x3), some (iV x4), some (iV x5)] [] 33
  refine J_iload (pc := 33) C dX7_doHang_33 rfl ?_
  refine J_aload_n (pc := 35) C dX7_doHang_35 rfl ?_
  refine J_get (pc := 36) C dX7_doHang_36 0 rfl rfl nX7_doHang_X7 1 (by decide) mX7_doHang_f76 rfl (v := iV (S 0 1)) rfl ?_
  obtain ⟨h1, h2⟩ := h
  refine J_icmp_ge (pc := 39) (tgt := 73) C dX7_doHang_39 (by decide) rx5 (hok 0 1) (fun cb => ?_) (fun cb => ?_)
  · have h1 := h1 cb
    refine J_iinc (pc := 73) C dX7_doHang_73 rfl (by decide) ?_
    refine J_goto (pc := 76) (tgt := 21) C dX7_doHang_76 (by decide) ?_
    obtain ⟨o3, h4⟩ := h1
    exact J_sub (L1 := [some (.ref (G.2.2 0)), none, some (iV x2), some (iV x3), some (iV (x4 + 1)), none]) ⟨rfl, ⟨rfl, ⟨rfl, ⟨rfl, trivial⟩⟩⟩⟩ (h4 rx2 rx3 o3 p l e s m args below meth c G A C hok)
  · have h2 := h2 cb
    refine J_iload_n (pc := 42) C dX7_doHang_42 rfl ?_
    refine J_iload_n (pc := 43) C dX7_doHang_43 rfl ?_
    refine J_iload (pc := 44) C dX7_doHang_44 rfl ?_
    refine J_ishr (pc := 46) C dX7_doHang_46 ?_
    refine J_iconst (pc := 47) C dX7_doHang_47 ?_
    refine J_iand (pc := 48) C dX7_doHang_48 ?_
    refine J_iconst (pc := 49) C dX7_doHang_49 ?_
    obtain ⟨h5, h6⟩ := h2
    refine J_icmp_ne (pc := 50) (tgt := 64) C dX7_doHang_50 (by decide) (r_zand _ _) (by decide) (fun cb => ?_) (fun cb => ?_)
    · have h5 := h5 cb
      refine J_iconst (pc := 64) C dX7_doHang_64 ?_
      refine J_ior (pc := 65) C dX7_doHang_65 ?_
      refine J_istore_n (pc := 66) C dX7_doHang_66 (by decide) ?_
      refine J_iinc (pc := 67) C dX7_doHang_67 rfl (by decide) ?_
      refine J_goto (pc := 70) (tgt := 33) C dX7_doHang_70 (by decide) ?_
      obtain ⟨o7, h8⟩ := h5
      exact J_sub (L1 := [some (.ref (G.2.2 0)), none, some (iV x2), some (iV (zor x3 0)), some (iV x4), some (iV (x5 + 1))]) ⟨rfl, ⟨rfl, ⟨rfl, ⟨rfl, ⟨rfl, trivial⟩⟩⟩⟩⟩ (h8 rx2 (r_zor _ _) rx4 o7 p l e s m args below meth c G A C hok)
    · have h6 := h6 cb
      refine J_aload_n (pc := 53) C dX7_doHang_53 rfl ?_
      refine J_iload (pc := 54) C dX7_doHang_54 rfl ?_
      refine J_c1 (pc := 56) C (J_rV (pc := 56) C (h6 rx5) dX7_doHang_56 rfl rfl 0 rfl rfl (cwV 1 C.1.2.2.2.2 gX7_doHang_X7_near rfl rfl rfl (by decide +kernel) ⟨Nat.le_of_ble_eq_true rfl, Nat.le_of_ble_eq_true rfl⟩) hok (Nat.le_of_ble_eq_true rfl) ⟨Nat.le_of_ble_eq_true rfl, Nat.le_of_ble_eq_true rfl⟩) (fun E9 S9 ok9 q9 => JX_out C ok9 q9 (by decide) (by decide)) (fun rv12 S10 hr13 hok11 h9 => ?_)
      have h9 := h9 hr13 hok11
      refine J_iload_n (pc := 59) C dX7_doHang_59 rfl ?_
      refine J_iand (pc := 60) C dX7_doHang_60 ?_
      refine J_goto (pc := 61) (tgt := 65) C dX7_doHang_61 (by decide) ?_
      refine J_ior (pc := 65) C dX7_doHang_65 ?_
      refine J_istore_n (pc := 66) C dX7_doHang_66 (by decide) ?_
      refine J_iinc (pc := 67) C dX7_doHang_67 rfl (by decide) ?_
      refine J_goto (pc := 70) (tgt := 33) C dX7_doHang_70 (by decide) ?_
      obtain ⟨o14, h15⟩ := h9
      exact J_sub (L1 := [some (.ref (G.2.2 0)), none, some (iV x2), some (iV (zor x3 (zand rv12 x2))), some (iV x4), some (iV (x5 + 1))]) ⟨rfl, ⟨rfl, ⟨rfl, ⟨rfl, ⟨rfl, trivial⟩⟩⟩⟩⟩ (h15 rx2 (r_zor _ _) rx4 o14 p l e s m args below meth c G A C hok11)
def rmX7_fits : Room := { frames := 1, cells := 0, slots := 0, locals := 22 }
theorem mX7_fits_f76 : Cond.fieldLink RX7 76 "StressworkModel" "joints" "I" ∈ wsX7_fits := by decide +kernel
theorem nX7_fits_X7 : ∀ x ∈ wsX70, x ∈ wsX7_fits := by decide +kernel
theorem mX7_fits_f7 : Cond.fieldLink RX7 7 "StressworkModel" "x" "[I" ∈ wsX7_fits := by decide +kernel
theorem mX7_fits_f13 : Cond.fieldLink RX7 13 "StressworkModel" "y" "[I" ∈ wsX7_fits := by decide +kernel
theorem mX7_fits_f20 : Cond.fieldLink RX7 20 "StressworkModel" "range" "[I" ∈ wsX7_fits := by decide +kernel
def M_X7_fits (a0 a1 a2 : Int) (S : St) (Qr : Int → St → Prop) (Qx : String → St → Prop) : Prop := r32 a0 → r32 a1 → r32 a2 → MM 1 wM okM yX7_fits wsX7_fits rmX7_fits (fun G => [.ref (G.2.2 0), iV a0, iV a1, iV a2]) S Qr Qx
def R_X7_fits_6 (x1 x2 x3 x4 x5 : Int) (S : St) (Qr : Int → St → Prop) (Qx : String → St → Prop) : Prop := r32 x1 → r32 x2 → r32 x3 → r32 x4 → r32 x5 → RR 1 wM okM wsX7_fits rmX7_fits cX7_fits 7 RX7 (some .boolean) [] 0 0 (fun G => [some (.ref (G.2.2 0)), some (iV x1), some (iV x2), some (iV x3), some (iV x4), some (iV x5), none]) (fun G => []) 6 S Qr Qx
set_option maxRecDepth 100000 in
set_option maxHeartbeats 4000000 in
theorem vc_X7_fits {a0 a1 a2 : Int} {S : St} {Qr : Int → St → Prop} {Qx : String → St → Prop} (h : r32 a0 → r32 a1 → r32 a2 → okM S → R_X7_fits_6 a0 a1 a2 1 0 S Qr Qx) : M_X7_fits a0 a1 a2 S Qr Qx := by
  intro ra0 ra1 ra2
  refine MM_of adM (by decide +kernel) rfl (Lf := fun G => [some (.ref (G.2.2 0)), some (iV a0), some (iV a1), some (iV a2), none, none, none]) (fun G => by show _ ≤ _; exact Nat.le_of_ble_eq_true rfl) (fun G => rfl) ?_
  intro p l e s m args below meth c G A C hok
  have h := h ra0 ra1 ra2 hok
  replace C : Cx wM cX7_fits 7 RX7 wsX7_fits (some .boolean) [] p l s m args meth c G A := C
  show J wM 7 rmX7_fits p l e s m args below meth c G A (QQ 1 wM okM G Qr Qx A below args s rmX7_fits.cells rmX7_fits.slots) 0 0 S [some (.ref (G.2.2 0)), some (iV a0), some (iV a1), some (iV a2), none, none, none] [] 0
  refine J_iconst (pc := 0) C dX7_fits_0 ?_
  refine J_istore (pc := 1) C dX7_fits_1 (by decide) ?_
  refine J_iconst (pc := 3) C dX7_fits_3 ?_
  refine J_istore (pc := 4) C dX7_fits_4 (by decide) ?_
  exact J_sub (L1 := [some (.ref (G.2.2 0)), some (iV a0), some (iV a1), some (iV a2), some (iV 1), some (iV 0), none]) ⟨rfl, ⟨rfl, ⟨rfl, ⟨rfl, ⟨rfl, ⟨rfl, trivial⟩⟩⟩⟩⟩⟩ (h ra0 ra1 ra2 (by decide) (by decide) p l e s m args below meth c G A C hok)
set_option maxRecDepth 100000 in
set_option maxHeartbeats 4000000 in
theorem vc_X7_fits_6 {x1 x2 x3 x4 x5 : Int} {S : St} {Qr : Int → St → Prop} {Qx : String → St → Prop} (h : r32 x1 → r32 x2 → r32 x3 → r32 x4 → r32 x5 → okM S → (((S 0 1) ≤ x5 → ((0 ≤ x4 ∧ x4 ≤ 1) ∧ Qr x4 S)) ∧ (x5 < (S 0 1) → ((x4 = 0 → ((0 ≤ x4 ∧ x4 ≤ 1) ∧ Qr x4 S)) ∧ (x4 ≠ 0 → (ix x5 10 ∧ (((S 4 x5) = (-1) → (r32 (x5 + 1) ∧ R_X7_fits_6 x1 x2 x3 1 (x5 + 1) S Qr Qx)) ∧ ((S 4 x5) ≠ (-1) → (r32 ((((x1 - (S 1 x5)) * (x1 - (S 1 x5))) + ((x2 - (S 2 x5)) * (x2 - (S 2 x5)))) - (S 4 x5)) ∧ (r32 (-x3) ∧ M_X7_isIn ((((x1 - (S 1 x5)) * (x1 - (S 1 x5))) + ((x2 - (S 2 x5)) * (x2 - (S 2 x5)))) - (S 4 x5)) (-x3) x3 S (fun rv22 S20 => r32 rv22 → okM S20 → ((rv22 = 0 → (r32 (x5 + 1) ∧ R_X7_fits_6 x1 x2 x3 0 (x5 + 1) S20 Qr Qx)) ∧ (rv22 ≠ 0 → (r32 (x5 + 1) ∧ R_X7_fits_6 x1 x2 x3 1 (x5 + 1) S20 Qr Qx)))) Qx)))))))))) : R_X7_fits_6 x1 x2 x3 x4 x5 S Qr Qx := by
  intro rx1 rx2 rx3 rx4 rx5
  intro p l e s m args below meth c G A C hok
  have h := h rx1 rx2 rx3 rx4 rx5 hok
  replace C : Cx wM cX7_fits 7 RX7 wsX7_fits (some .boolean) [] p l s m args meth c G A := C
  show J wM 7 rmX7_fits p l e s m args below meth c G A (QQ 1 wM okM G Qr Qx A below args s rmX7_fits.cells rmX7_fits.slots) 0 0 S [some (.ref (G.2.2 0)), some (iV x1), some (iV x2), some (iV x3), some (iV x4), some (iV x5), none] [] 6
  refine J_iload (pc := 6) C dX7_fits_6 rfl ?_
  refine J_aload_n (pc := 8) C dX7_fits_8 rfl ?_
  refine J_get (pc := 9) C dX7_fits_9 0 rfl rfl nX7_fits_X7 1 (by decide) mX7_fits_f76 rfl (v := iV (S 0 1)) rfl ?_
  obtain ⟨h1, h2⟩ := h
  refine J_icmp_ge (pc := 12) (tgt := 104) C dX7_fits_12 (by decide) rx5 (hok 0 1) (fun cb => ?_) (fun cb => ?_)
  · have h1 := h1 cb
    refine J_iload (pc := 104) C dX7_fits_104 rfl ?_
    obtain ⟨o3, h4⟩ := h1
    exact J_zret (pc := 106) C dX7_fits_106 o3 hok h4 (by decide) (by decide)
  · have h2 := h2 cb
    refine J_iload (pc := 15) C dX7_fits_15 rfl ?_
    obtain ⟨h5, h6⟩ := h2
    refine J_if_eq (pc := 17) (tgt := 104) C dX7_fits_17 (by decide) rx4 (fun cb => ?_) (fun cb => ?_)
    · have h5 := h5 cb
      refine J_iload (pc := 104) C dX7_fits_104 rfl ?_
      obtain ⟨o7, h8⟩ := h5
      exact J_zret (pc := 106) C dX7_fits_106 o7 hok h8 (by decide) (by decide)
    · have h6 := h6 cb
      refine J_iload_n (pc := 20) C dX7_fits_20 rfl ?_
      refine J_aload_n (pc := 21) C dX7_fits_21 rfl ?_
      refine J_get (pc := 22) C dX7_fits_22 0 rfl rfl nX7_fits_X7 2 (by decide) mX7_fits_f7 rfl (v := .ref (G.2.2 1)) rfl ?_
      refine J_iload (pc := 25) C dX7_fits_25 rfl ?_
      obtain ⟨o9, h10⟩ := h6
      refine J_iald (pc := 27) C dX7_fits_27 1 1 rfl (by decide) o9 ?_
      refine J_isub (pc := 28) C dX7_fits_28 ?_
      refine J_iload_n (pc := 29) C dX7_fits_29 rfl ?_
      refine J_aload_n (pc := 30) C dX7_fits_30 rfl ?_
      refine J_get (pc := 31) C dX7_fits_31 0 rfl rfl nX7_fits_X7 2 (by decide) mX7_fits_f7 rfl (v := .ref (G.2.2 1)) rfl ?_
      refine J_iload (pc := 34) C dX7_fits_34 rfl ?_
      refine J_iald (pc := 36) C dX7_fits_36 1 1 rfl (by decide) o9 ?_
      refine J_isub (pc := 37) C dX7_fits_37 ?_
      refine J_imul (pc := 38) C dX7_fits_38 ?_
      refine J_iload_n (pc := 39) C dX7_fits_39 rfl ?_
      refine J_aload_n (pc := 40) C dX7_fits_40 rfl ?_
      refine J_get (pc := 41) C dX7_fits_41 0 rfl rfl nX7_fits_X7 3 (by decide) mX7_fits_f13 rfl (v := .ref (G.2.2 2)) rfl ?_
      refine J_iload (pc := 44) C dX7_fits_44 rfl ?_
      refine J_iald (pc := 46) C dX7_fits_46 2 2 rfl (by decide) o9 ?_
      refine J_isub (pc := 47) C dX7_fits_47 ?_
      refine J_iload_n (pc := 48) C dX7_fits_48 rfl ?_
      refine J_aload_n (pc := 49) C dX7_fits_49 rfl ?_
      refine J_get (pc := 50) C dX7_fits_50 0 rfl rfl nX7_fits_X7 3 (by decide) mX7_fits_f13 rfl (v := .ref (G.2.2 2)) rfl ?_
      refine J_iload (pc := 53) C dX7_fits_53 rfl ?_
      refine J_iald (pc := 55) C dX7_fits_55 2 2 rfl (by decide) o9 ?_
      refine J_isub (pc := 56) C dX7_fits_56 ?_
      refine J_imul (pc := 57) C dX7_fits_57 ?_
      refine J_iadd (pc := 58) C dX7_fits_58 ?_
      refine J_aload_n (pc := 59) C dX7_fits_59 rfl ?_
      refine J_get (pc := 60) C dX7_fits_60 0 rfl rfl nX7_fits_X7 5 (by decide) mX7_fits_f20 rfl (v := .ref (G.2.2 4)) rfl ?_
      refine J_iload (pc := 63) C dX7_fits_63 rfl ?_
      refine J_iald (pc := 65) C dX7_fits_65 4 4 rfl (by decide) o9 ?_
      refine J_isub (pc := 66) C dX7_fits_66 ?_
      refine J_istore (pc := 67) C dX7_fits_67 (by decide) ?_
      refine J_aload_n (pc := 69) C dX7_fits_69 rfl ?_
      refine J_get (pc := 70) C dX7_fits_70 0 rfl rfl nX7_fits_X7 5 (by decide) mX7_fits_f20 rfl (v := .ref (G.2.2 4)) rfl ?_
      refine J_iload (pc := 73) C dX7_fits_73 rfl ?_
      refine J_iald (pc := 75) C dX7_fits_75 4 4 rfl (by decide) o9 ?_
      refine J_iconst (pc := 76) C dX7_fits_76 ?_
      obtain ⟨h11, h12⟩ := h10
      refine J_icmp_eq (pc := 77) (tgt := 91) C dX7_fits_77 (by decide) (hok 4 x5) (by decide) (fun cb => ?_) (fun cb => ?_)
      · have h11 := h11 cb
        refine J_iconst (pc := 91) C dX7_fits_91 ?_
        refine J_goto (pc := 92) (tgt := 96) C dX7_fits_92 (by decide) ?_
        refine J_istore (pc := 96) C dX7_fits_96 (by decide) ?_
        refine J_iinc (pc := 98) C dX7_fits_98 rfl (by decide) ?_
        refine J_goto (pc := 101) (tgt := 6) C dX7_fits_101 (by decide) ?_
        obtain ⟨o13, h14⟩ := h11
        exact J_sub (L1 := [some (.ref (G.2.2 0)), some (iV x1), some (iV x2), some (iV x3), some (iV 1), some (iV (x5 + 1)), none]) ⟨rfl, ⟨rfl, ⟨rfl, ⟨rfl, ⟨rfl, ⟨rfl, trivial⟩⟩⟩⟩⟩⟩ (h14 rx1 rx2 rx3 (by decide) o13 p l e s m args below meth c G A C hok)
      · have h12 := h12 cb
        refine J_iload (pc := 80) C dX7_fits_80 rfl ?_
        refine J_iload_n (pc := 82) C dX7_fits_82 rfl ?_
        refine J_ineg (pc := 83) C dX7_fits_83 ?_
        refine J_iload_n (pc := 84) C dX7_fits_84 rfl ?_
        obtain ⟨o15, h16⟩ := h12
        obtain ⟨o17, h18⟩ := h16
        refine J_c1 (pc := 85) C (J_rS (pc := 85) C (h18 o15 o17 rx3) dX7_fits_85 rfl rfl (va_cwS 3 C.1.2.2.2.2 gX7_fits_X7_isIn rfl rfl rfl (by decide +kernel) ⟨Nat.le_of_ble_eq_true rfl, Nat.le_of_ble_eq_true rfl⟩) hok (Nat.le_of_ble_eq_true rfl) ⟨Nat.le_of_ble_eq_true rfl, Nat.le_of_ble_eq_true rfl⟩) (fun E9 S9 ok9 q9 => JX_out C ok9 q9 (by decide) (by decide)) (fun rv22 S20 hr23 hok21 h19 => ?_)
        have h19 := h19 hr23 hok21
        obtain ⟨h24, h25⟩ := h19
        refine J_if_eq (pc := 88) (tgt := 95) C dX7_fits_88 (by decide) hr23 (fun cb => ?_) (fun cb => ?_)
        · have h24 := h24 cb
          refine J_iconst (pc := 95) C dX7_fits_95 ?_
          refine J_istore (pc := 96) C dX7_fits_96 (by decide) ?_
          refine J_iinc (pc := 98) C dX7_fits_98 rfl (by decide) ?_
          refine J_goto (pc := 101) (tgt := 6) C dX7_fits_101 (by decide) ?_
          obtain ⟨o26, h27⟩ := h24
          exact J_sub (L1 := [some (.ref (G.2.2 0)), some (iV x1), some (iV x2), some (iV x3), some (iV 0), some (iV (x5 + 1)), none]) ⟨rfl, ⟨rfl, ⟨rfl, ⟨rfl, ⟨rfl, ⟨rfl, trivial⟩⟩⟩⟩⟩⟩ (h27 rx1 rx2 rx3 (by decide) o26 p l e s m args below meth c G A C hok21)
        · have h25 := h25 cb
          refine J_iconst (pc := 91) C dX7_fits_91 ?_
          refine J_goto (pc := 92) (tgt := 96) C dX7_fits_92 (by decide) ?_
          refine J_istore (pc := 96) C dX7_fits_96 (by decide) ?_
          refine J_iinc (pc := 98) C dX7_fits_98 rfl (by decide) ?_
          refine J_goto (pc := 101) (tgt := 6) C dX7_fits_101 (by decide) ?_
          obtain ⟨o28, h29⟩ := h25
          exact J_sub (L1 := [some (.ref (G.2.2 0)), some (iV x1), some (iV x2), some (iV x3), some (iV 1), some (iV (x5 + 1)), none]) ⟨rfl, ⟨rfl, ⟨rfl, ⟨rfl, ⟨rfl, ⟨rfl, trivial⟩⟩⟩⟩⟩⟩ (h29 rx1 rx2 rx3 (by decide) o28 p l e s m args below meth c G A C hok21)
def rmX7_isJoint : Room := { frames := 1, cells := 0, slots := 0, locals := 22 }
theorem mX7_isJoint_f76 : Cond.fieldLink RX7 76 "StressworkModel" "joints" "I" ∈ wsX7_isJoint := by decide +kernel
theorem nX7_isJoint_X7 : ∀ x ∈ wsX70, x ∈ wsX7_isJoint := by decide +kernel
def M_X7_isJoint (a0 : Int) (S : St) (Qr : Int → St → Prop) (Qx : String → St → Prop) : Prop := r32 a0 → MM 1 wM okM yX7_isJoint wsX7_isJoint rmX7_isJoint (fun G => [.ref (G.2.2 0), iV a0]) S Qr Qx
set_option maxRecDepth 100000 in
set_option maxHeartbeats 4000000 in
theorem vc_X7_isJoint {a0 : Int} {S : St} {Qr : Int → St → Prop} {Qx : String → St → Prop} (h : r32 a0 → okM S → (r32 ((S 0 1) - 1) ∧ M_X7_isIn a0 0 ((S 0 1) - 1) S (fun rv6 S4 => r32 rv6 → okM S4 → ((0 ≤ rv6 ∧ rv6 ≤ 1) ∧ Qr rv6 S4)) Qx)) : M_X7_isJoint a0 S Qr Qx := by
  intro ra0
  refine MM_of adM (by decide +kernel) rfl (Lf := fun G => [some (.ref (G.2.2 0)), some (iV a0)]) (fun G => by show _ ≤ _; exact Nat.le_of_ble_eq_true rfl) (fun G => rfl) ?_
  intro p l e s m args below meth c G A C hok
  have h := h ra0 hok
  replace C : Cx wM cX7_isJoint 2 RX7 wsX7_isJoint (some .boolean) [] p l s m args meth c G A := C
  show J wM 2 rmX7_isJoint p l e s m args below meth c G A (QQ 1 wM okM G Qr Qx A below args s rmX7_isJoint.cells rmX7_isJoint.slots) 0 0 S [some (.ref (G.2.2 0)), some (iV a0)] [] 0
  refine J_iload_n (pc := 0) C dX7_isJoint_0 rfl ?_
  refine J_iconst (pc := 1) C dX7_isJoint_1 ?_
  refine J_aload_n (pc := 2) C dX7_isJoint_2 rfl ?_
  refine J_get (pc := 3) C dX7_isJoint_3 0 rfl rfl nX7_isJoint_X7 1 (by decide) mX7_isJoint_f76 rfl (v := iV (S 0 1)) rfl ?_
  refine J_iconst (pc := 6) C dX7_isJoint_6 ?_
  refine J_isub (pc := 7) C dX7_isJoint_7 ?_
  obtain ⟨o1, h2⟩ := h
  refine J_c1 (pc := 8) C (J_rS (pc := 8) C (h2 ra0 (by decide) o1) dX7_isJoint_8 rfl rfl (va_cwS 3 C.1.2.2.2.2 gX7_isJoint_X7_isIn rfl rfl rfl (by decide +kernel) ⟨Nat.le_of_ble_eq_true rfl, Nat.le_of_ble_eq_true rfl⟩) hok (Nat.le_of_ble_eq_true rfl) ⟨Nat.le_of_ble_eq_true rfl, Nat.le_of_ble_eq_true rfl⟩) (fun E9 S9 ok9 q9 => JX_out C ok9 q9 (by decide) (by decide)) (fun rv6 S4 hr7 hok5 h3 => ?_)
  have h3 := h3 hr7 hok5
  obtain ⟨o8, h9⟩ := h3
  exact J_zret (pc := 11) C dX7_isJoint_11 o8 hok5 h9 (by decide) (by decide)
def rmX7_rankOf : Room := { frames := 3, cells := 0, slots := 0, locals := 82 }
theorem mX7_rankOf_f121 : Cond.fieldLink RX7 121 "StressworkModel" "columns" "I" ∈ wsX7_rankOf := by decide +kernel
theorem nX7_rankOf_X7 : ∀ x ∈ wsX70, x ∈ wsX7_rankOf := by decide +kernel
def M_X7_rankOf (a0 : Int) (S : St) (Qr : Int → St → Prop) (Qx : String → St → Prop) : Prop := r32 a0 → MM 1 wM okM yX7_rankOf wsX7_rankOf rmX7_rankOf (fun G => [.ref (G.2.2 0), iV a0]) S Qr Qx
set_option maxRecDepth 100000 in
set_option maxHeartbeats 4000000 in
theorem vc_X7_rankOf {a0 : Int} {S : St} {Qr : Int → St → Prop} {Qx : String → St → Prop} (h : r32 a0 → okM S → M_X7_laysJoints S (fun _ S2 => okM S2 → M_X7_laysMatrix a0 0 S2 (fun rv9 S7 => r32 rv9 → okM S7 → M_X7_brings rv9 (S7 0 20) S7 (fun rv14 S12 => r32 rv14 → okM S12 → Qr rv14 S12) Qx) Qx) Qx) : M_X7_rankOf a0 S Qr Qx := by
  intro ra0
  refine MM_of adM (by decide +kernel) rfl (Lf := fun G => [some (.ref (G.2.2 0)), some (iV a0), none]) (fun G => by show _ ≤ _; exact Nat.le_of_ble_eq_true rfl) (fun G => rfl) ?_
  intro p l e s m args below meth c G A C hok
  have h := h ra0 hok
  replace C : Cx wM cX7_rankOf 3 RX7 wsX7_rankOf (some .int) [] p l s m args meth c G A := C
  show J wM 3 rmX7_rankOf p l e s m args below meth c G A (QQ 1 wM okM G Qr Qx A below args s rmX7_rankOf.cells rmX7_rankOf.slots) 0 0 S [some (.ref (G.2.2 0)), some (iV a0), none] [] 0
  refine J_aload_n (pc := 0) C dX7_rankOf_0 rfl ?_
  refine J_c0 (pc := 1) C (J_rV (pc := 1) C h dX7_rankOf_1 rfl rfl 0 rfl rfl (cwV 0 C.1.2.2.2.2 gX7_rankOf_X7_laysJoints rfl rfl rfl (by decide +kernel) ⟨Nat.le_of_ble_eq_true rfl, Nat.le_of_ble_eq_true rfl⟩) hok (Nat.le_of_ble_eq_true rfl) ⟨Nat.le_of_ble_eq_true rfl, Nat.le_of_ble_eq_true rfl⟩) (fun E9 S9 ok9 q9 => JX_out C ok9 q9 (by decide) (by decide)) (fun S2 hok3 h1 => ?_)
  have h1 := h1 hok3
  refine J_aload_n (pc := 4) C dX7_rankOf_4 rfl ?_
  refine J_iload_n (pc := 5) C dX7_rankOf_5 rfl ?_
  refine J_iconst (pc := 6) C dX7_rankOf_6 ?_
  refine J_c1 (pc := 7) C (J_rV (pc := 7) C (h1 ra0 (by decide)) dX7_rankOf_7 rfl rfl 0 rfl rfl (cwV 2 C.1.2.2.2.2 gX7_rankOf_X7_laysMatrix rfl rfl rfl (by decide +kernel) ⟨Nat.le_of_ble_eq_true rfl, Nat.le_of_ble_eq_true rfl⟩) hok3 (Nat.le_of_ble_eq_true rfl) ⟨Nat.le_of_ble_eq_true rfl, Nat.le_of_ble_eq_true rfl⟩) (fun E9 S9 ok9 q9 => JX_out C ok9 q9 (by decide) (by decide)) (fun rv9 S7 hr10 hok8 h6 => ?_)
  have h6 := h6 hr10 hok8
  refine J_istore_n (pc := 10) C dX7_rankOf_10 (by decide) ?_
  refine J_aload_n (pc := 11) C dX7_rankOf_11 rfl ?_
  refine J_iload_n (pc := 12) C dX7_rankOf_12 rfl ?_
  refine J_aload_n (pc := 13) C dX7_rankOf_13 rfl ?_
  refine J_get (pc := 14) C dX7_rankOf_14 0 rfl rfl nX7_rankOf_X7 20 (by decide) mX7_rankOf_f121 rfl (v := iV (S7 0 20)) rfl ?_
  refine J_c1 (pc := 17) C (J_rV (pc := 17) C (h6 hr10 (hok8 0 20)) dX7_rankOf_17 rfl rfl 0 rfl rfl (cwV 2 C.1.2.2.2.2 gX7_rankOf_X7_brings rfl rfl rfl (by decide +kernel) ⟨Nat.le_of_ble_eq_true rfl, Nat.le_of_ble_eq_true rfl⟩) hok8 (Nat.le_of_ble_eq_true rfl) ⟨Nat.le_of_ble_eq_true rfl, Nat.le_of_ble_eq_true rfl⟩) (fun E9 S9 ok9 q9 => JX_out C ok9 q9 (by decide) (by decide)) (fun rv14 S12 hr15 hok13 h11 => ?_)
  have h11 := h11 hr15 hok13
  exact J_iret (pc := 20) C dX7_rankOf_20 hr15 hok13 h11 (by decide) (by decide)
def rmX7_flex : Room := { frames := 4, cells := 0, slots := 0, locals := 104 }
theorem mX7_flex_f121 : Cond.fieldLink RX7 121 "StressworkModel" "columns" "I" ∈ wsX7_flex := by decide +kernel
theorem nX7_flex_X7 : ∀ x ∈ wsX70, x ∈ wsX7_flex := by decide +kernel
theorem mX7_flex_f57 : Cond.fieldLink RX7 57 "StressworkModel" "column" "[I" ∈ wsX7_flex := by decide +kernel
def M_X7_flex (a0 a1 a2 : Int) (S : St) (Qr : Int → St → Prop) (Qx : String → St → Prop) : Prop := r32 a0 → r32 a1 → r32 a2 → MM 1 wM okM yX7_flex wsX7_flex rmX7_flex (fun G => [.ref (G.2.2 0), iV a0, iV a1, iV a2]) S Qr Qx
set_option maxRecDepth 100000 in
set_option maxHeartbeats 4000000 in
theorem vc_X7_flex {a0 a1 a2 : Int} {S : St} {Qr : Int → St → Prop} {Qx : String → St → Prop} (h : r32 a0 → r32 a1 → r32 a2 → okM S → M_X7_isJoint a1 S (fun rv4 S2 => r32 rv4 → okM S2 → ((rv4 = 0 → M_X7_holds 1 S2 (fun rv11 S9 => r32 rv11 → okM S9 → ((rv11 ≠ 0 → M_X7_rankOf (-1) S9 (fun rv18 S16 => r32 rv18 → okM S16 → (r32 ((S16 0 20) - rv18) ∧ ((a0 < ((S16 0 20) - rv18) → (ix a1 10 ∧ (((S16 16 a1) ≠ (-1) → M_X7_free a0 (S16 0 20) S16 (fun rv31 S29 => r32 rv31 → okM S29 → ((a2 = 0 → (r32 ((S29 16 a1) + 0) ∧ M_X7_has rv31 ((S29 16 a1) + 0) S29 (fun rv40 S38 => r32 rv40 → okM S38 → Qr rv40 S38) Qx)) ∧ (a2 ≠ 0 → (r32 ((S29 16 a1) + 1) ∧ M_X7_has rv31 ((S29 16 a1) + 1) S29 (fun rv47 S45 => r32 rv47 → okM S45 → Qr rv47 S45) Qx)))) Qx) ∧ ((S16 16 a1) = (-1) → Qr 0 S16)))) ∧ (((S16 0 20) - rv18) ≤ a0 → Qr (-1) S16)))) Qx) ∧ (rv11 = 0 → Qr 0 S9))) Qx) ∧ (rv4 ≠ 0 → ((a0 < 0 → M_X7_holds 1 S2 (fun rv54 S52 => r32 rv54 → okM S52 → ((rv54 ≠ 0 → M_X7_rankOf (-1) S52 (fun rv61 S59 => r32 rv61 → okM S59 → (r32 ((S59 0 20) - rv61) ∧ ((a0 < ((S59 0 20) - rv61) → (ix a1 10 ∧ (((S59 16 a1) ≠ (-1) → M_X7_free a0 (S59 0 20) S59 (fun rv74 S72 => r32 rv74 → okM S72 → ((a2 = 0 → (r32 ((S72 16 a1) + 0) ∧ M_X7_has rv74 ((S72 16 a1) + 0) S72 (fun rv83 S81 => r32 rv83 → okM S81 → Qr rv83 S81) Qx)) ∧ (a2 ≠ 0 → (r32 ((S72 16 a1) + 1) ∧ M_X7_has rv74 ((S72 16 a1) + 1) S72 (fun rv90 S88 => r32 rv90 → okM S88 → Qr rv90 S88) Qx)))) Qx) ∧ ((S59 16 a1) = (-1) → Qr 0 S59)))) ∧ (((S59 0 20) - rv61) ≤ a0 → Qr (-1) S59)))) Qx) ∧ (rv54 = 0 → Qr 0 S52))) Qx) ∧ (0 ≤ a0 → M_X7_holds 0 S2 (fun rv95 S93 => r32 rv95 → okM S93 → ((rv95 ≠ 0 → M_X7_rankOf (-1) S93 (fun rv102 S100 => r32 rv102 → okM S100 → (r32 ((S100 0 20) - rv102) ∧ ((a0 < ((S100 0 20) - rv102) → (ix a1 10 ∧ (((S100 16 a1) ≠ (-1) → M_X7_free a0 (S100 0 20) S100 (fun rv115 S113 => r32 rv115 → okM S113 → ((a2 = 0 → (r32 ((S113 16 a1) + 0) ∧ M_X7_has rv115 ((S113 16 a1) + 0) S113 (fun rv124 S122 => r32 rv124 → okM S122 → Qr rv124 S122) Qx)) ∧ (a2 ≠ 0 → (r32 ((S113 16 a1) + 1) ∧ M_X7_has rv115 ((S113 16 a1) + 1) S113 (fun rv131 S129 => r32 rv131 → okM S129 → Qr rv131 S129) Qx)))) Qx) ∧ ((S100 16 a1) = (-1) → Qr 0 S100)))) ∧ (((S100 0 20) - rv102) ≤ a0 → Qr (-1) S100)))) Qx) ∧ (rv95 = 0 → Qr 0 S93))) Qx))))) Qx) : M_X7_flex a0 a1 a2 S Qr Qx := by
  intro ra0 ra1 ra2
  refine MM_of adM (by decide +kernel) rfl (Lf := fun G => [some (.ref (G.2.2 0)), some (iV a0), some (iV a1), some (iV a2), none]) (fun G => by show _ ≤ _; exact Nat.le_of_ble_eq_true rfl) (fun G => rfl) ?_
  intro p l e s m args below meth c G A C hok
  have h := h ra0 ra1 ra2 hok
  replace C : Cx wM cX7_flex 5 RX7 wsX7_flex (some .int) [] p l s m args meth c G A := C
  show J wM 5 rmX7_flex p l e s m args below meth c G A (QQ 1 wM okM G Qr Qx A below args s rmX7_flex.cells rmX7_flex.slots) 0 0 S [some (.ref (G.2.2 0)), some (iV a0), some (iV a1), some (iV a2), none] [] 0
  refine J_aload_n (pc := 0) C dX7_flex_0 rfl ?_
  refine J_aload_n (pc := 1) C dX7_flex_1 rfl ?_
  refine J_iload_n (pc := 2) C dX7_flex_2 rfl ?_
  refine J_c1 (pc := 3) C (J_rV (pc := 3) C (h ra1) dX7_flex_3 rfl rfl 0 rfl rfl (cwV 1 C.1.2.2.2.2 gX7_flex_X7_isJoint rfl rfl rfl (by decide +kernel) ⟨Nat.le_of_ble_eq_true rfl, Nat.le_of_ble_eq_true rfl⟩) hok (Nat.le_of_ble_eq_true rfl) ⟨Nat.le_of_ble_eq_true rfl, Nat.le_of_ble_eq_true rfl⟩) (fun E9 S9 ok9 q9 => JX_out C ok9 q9 (by decide) (by decide)) (fun rv4 S2 hr5 hok3 h1 => ?_)
  have h1 := h1 hr5 hok3
  obtain ⟨h6, h7⟩ := h1
  refine J_if_eq (pc := 6) (tgt := 17) C dX7_flex_6 (by decide) hr5 (fun cb => ?_) (fun cb => ?_)
  · have h6 := h6 cb
    refine J_iconst (pc := 17) C dX7_flex_17 ?_
    refine J_c1 (pc := 18) C (J_rV (pc := 18) C (h6 (by decide)) dX7_flex_18 rfl rfl 0 rfl rfl (cwV 1 C.1.2.2.2.2 gX7_flex_X7_holds rfl rfl rfl (by decide +kernel) ⟨Nat.le_of_ble_eq_true rfl, Nat.le_of_ble_eq_true rfl⟩) hok3 (Nat.le_of_ble_eq_true rfl) ⟨Nat.le_of_ble_eq_true rfl, Nat.le_of_ble_eq_true rfl⟩) (fun E9 S9 ok9 q9 => JX_out C ok9 q9 (by decide) (by decide)) (fun rv11 S9 hr12 hok10 h8 => ?_)
    have h8 := h8 hr12 hok10
    obtain ⟨h13, h14⟩ := h8
    refine J_if_ne (pc := 21) (tgt := 26) C dX7_flex_21 (by decide) hr12 (fun cb => ?_) (fun cb => ?_)
    · have h13 := h13 cb
      refine J_aload_n (pc := 26) C dX7_flex_26 rfl ?_
      refine J_iconst (pc := 27) C dX7_flex_27 ?_
      refine J_c1 (pc := 28) C (J_rV (pc := 28) C (h13 (by decide)) dX7_flex_28 rfl rfl 0 rfl rfl (cwV 1 C.1.2.2.2.2 gX7_flex_X7_rankOf rfl rfl rfl (by decide +kernel) ⟨Nat.le_of_ble_eq_true rfl, Nat.le_of_ble_eq_true rfl⟩) hok10 (Nat.le_of_ble_eq_true rfl) ⟨Nat.le_of_ble_eq_true rfl, Nat.le_of_ble_eq_true rfl⟩) (fun E9 S9 ok9 q9 => JX_out C ok9 q9 (by decide) (by decide)) (fun rv18 S16 hr19 hok17 h15 => ?_)
      have h15 := h15 hr19 hok17
      refine J_istore (pc := 31) C dX7_flex_31 (by decide) ?_
      refine J_iload_n (pc := 33) C dX7_flex_33 rfl ?_
      refine J_aload_n (pc := 34) C dX7_flex_34 rfl ?_
      refine J_get (pc := 35) C dX7_flex_35 0 rfl rfl nX7_flex_X7 20 (by decide) mX7_flex_f121 rfl (v := iV (S16 0 20)) rfl ?_
      refine J_iload (pc := 38) C dX7_flex_38 rfl ?_
      refine J_isub (pc := 40) C dX7_flex_40 ?_
      obtain ⟨o20, h21⟩ := h15
      obtain ⟨h22, h23⟩ := h21
      refine J_icmp_lt (pc := 41) (tgt := 46) C dX7_flex_41 (by decide) ra0 o20 (fun cb => ?_) (fun cb => ?_)
      · have h22 := h22 cb
        refine J_aload_n (pc := 46) C dX7_flex_46 rfl ?_
        refine J_get (pc := 47) C dX7_flex_47 0 rfl rfl nX7_flex_X7 19 (by decide) mX7_flex_f57 rfl (v := .ref (G.2.2 16)) rfl ?_
        refine J_iload_n (pc := 50) C dX7_flex_50 rfl ?_
        obtain ⟨o24, h25⟩ := h22
        refine J_iald (pc := 51) C dX7_flex_51 16 16 rfl (by decide) o24 ?_
        refine J_iconst (pc := 52) C dX7_flex_52 ?_
        obtain ⟨h26, h27⟩ := h25
        refine J_icmp_ne (pc := 53) (tgt := 60) C dX7_flex_53 (by decide) (hok17 16 a1) (by decide) (fun cb => ?_) (fun cb => ?_)
        · have h26 := h26 cb
          refine J_aload_n (pc := 60) C dX7_flex_60 rfl ?_
          refine J_aload_n (pc := 61) C dX7_flex_61 rfl ?_
          refine J_iload_n (pc := 62) C dX7_flex_62 rfl ?_
          refine J_aload_n (pc := 63) C dX7_flex_63 rfl ?_
          refine J_get (pc := 64) C dX7_flex_64 0 rfl rfl nX7_flex_X7 20 (by decide) mX7_flex_f121 rfl (v := iV (S16 0 20)) rfl ?_
          refine J_c1 (pc := 67) C (J_rV (pc := 67) C (h26 ra0 (hok17 0 20)) dX7_flex_67 rfl rfl 0 rfl rfl (cwV 2 C.1.2.2.2.2 gX7_flex_X7_free rfl rfl rfl (by decide +kernel) ⟨Nat.le_of_ble_eq_true rfl, Nat.le_of_ble_eq_true rfl⟩) hok17 (Nat.le_of_ble_eq_true rfl) ⟨Nat.le_of_ble_eq_true rfl, Nat.le_of_ble_eq_true rfl⟩) (fun E9 S9 ok9 q9 => JX_out C ok9 q9 (by decide) (by decide)) (fun rv31 S29 hr32 hok30 h28 => ?_)
          have h28 := h28 hr32 hok30
          refine J_aload_n (pc := 70) C dX7_flex_70 rfl ?_
          refine J_get (pc := 71) C dX7_flex_71 0 rfl rfl nX7_flex_X7 19 (by decide) mX7_flex_f57 rfl (v := .ref (G.2.2 16)) rfl ?_
          refine J_iload_n (pc := 74) C dX7_flex_74 rfl ?_
          refine J_iald (pc := 75) C dX7_flex_75 16 16 rfl (by decide) o24 ?_
          refine J_iload_n (pc := 76) C dX7_flex_76 rfl ?_
          obtain ⟨h33, h34⟩ := h28
          refine J_if_eq (pc := 77) (tgt := 84) C dX7_flex_77 (by decide) ra2 (fun cb => ?_) (fun cb => ?_)
          · have h33 := h33 cb
            refine J_iconst (pc := 84) C dX7_flex_84 ?_
            refine J_iadd (pc := 85) C dX7_flex_85 ?_
            obtain ⟨o35, h36⟩ := h33
            refine J_c1 (pc := 86) C (J_rV (pc := 86) C (h36 hr32 o35) dX7_flex_86 rfl rfl 0 rfl rfl (cwV 2 C.1.2.2.2.2 gX7_flex_X7_has rfl rfl rfl (by decide +kernel) ⟨Nat.le_of_ble_eq_true rfl, Nat.le_of_ble_eq_true rfl⟩) hok30 (Nat.le_of_ble_eq_true rfl) ⟨Nat.le_of_ble_eq_true rfl, Nat.le_of_ble_eq_true rfl⟩) (fun E9 S9 ok9 q9 => JX_out C ok9 q9 (by decide) (by decide)) (fun rv40 S38 hr41 hok39 h37 => ?_)
            have h37 := h37 hr41 hok39
            exact J_iret (pc := 89) C dX7_flex_89 hr41 hok39 h37 (by decide) (by decide)
          · have h34 := h34 cb
            refine J_iconst (pc := 80) C dX7_flex_80 ?_
            refine J_goto (pc := 81) (tgt := 85) C dX7_flex_81 (by decide) ?_
            refine J_iadd (pc := 85) C dX7_flex_85 ?_
            obtain ⟨o42, h43⟩ := h34
            refine J_c1 (pc := 86) C (J_rV (pc := 86) C (h43 hr32 o42) dX7_flex_86 rfl rfl 0 rfl rfl (cwV 2 C.1.2.2.2.2 gX7_flex_X7_has rfl rfl rfl (by decide +kernel) ⟨Nat.le_of_ble_eq_true rfl, Nat.le_of_ble_eq_true rfl⟩) hok30 (Nat.le_of_ble_eq_true rfl) ⟨Nat.le_of_ble_eq_true rfl, Nat.le_of_ble_eq_true rfl⟩) (fun E9 S9 ok9 q9 => JX_out C ok9 q9 (by decide) (by decide)) (fun rv47 S45 hr48 hok46 h44 => ?_)
            have h44 := h44 hr48 hok46
            exact J_iret (pc := 89) C dX7_flex_89 hr48 hok46 h44 (by decide) (by decide)
        · have h27 := h27 cb
          refine J_iconst (pc := 56) C dX7_flex_56 ?_
          refine J_goto (pc := 57) (tgt := 89) C dX7_flex_57 (by decide) ?_
          exact J_iret (pc := 89) C dX7_flex_89 (by decide) hok17 h27 (by decide) (by decide)
      · have h23 := h23 cb
        refine J_iconst (pc := 44) C dX7_flex_44 ?_
        exact J_iret (pc := 45) C dX7_flex_45 (by decide) hok17 h23 (by decide) (by decide)
    · have h14 := h14 cb
      refine J_iconst (pc := 24) C dX7_flex_24 ?_
      exact J_iret (pc := 25) C dX7_flex_25 (by decide) hok10 h14 (by decide) (by decide)
  · have h7 := h7 cb
    refine J_iload_n (pc := 9) C dX7_flex_9 rfl ?_
    obtain ⟨h49, h50⟩ := h7
    refine J_if_lt (pc := 10) (tgt := 17) C dX7_flex_10 (by decide) ra0 (fun cb => ?_) (fun cb => ?_)
    · have h49 := h49 cb
      refine J_iconst (pc := 17) C dX7_flex_17 ?_
      refine J_c1 (pc := 18) C (J_rV (pc := 18) C (h49 (by decide)) dX7_flex_18 rfl rfl 0 rfl rfl (cwV 1 C.1.2.2.2.2 gX7_flex_X7_holds rfl rfl rfl (by decide +kernel) ⟨Nat.le_of_ble_eq_true rfl, Nat.le_of_ble_eq_true rfl⟩) hok3 (Nat.le_of_ble_eq_true rfl) ⟨Nat.le_of_ble_eq_true rfl, Nat.le_of_ble_eq_true rfl⟩) (fun E9 S9 ok9 q9 => JX_out C ok9 q9 (by decide) (by decide)) (fun rv54 S52 hr55 hok53 h51 => ?_)
      have h51 := h51 hr55 hok53
      obtain ⟨h56, h57⟩ := h51
      refine J_if_ne (pc := 21) (tgt := 26) C dX7_flex_21 (by decide) hr55 (fun cb => ?_) (fun cb => ?_)
      · have h56 := h56 cb
        refine J_aload_n (pc := 26) C dX7_flex_26 rfl ?_
        refine J_iconst (pc := 27) C dX7_flex_27 ?_
        refine J_c1 (pc := 28) C (J_rV (pc := 28) C (h56 (by decide)) dX7_flex_28 rfl rfl 0 rfl rfl (cwV 1 C.1.2.2.2.2 gX7_flex_X7_rankOf rfl rfl rfl (by decide +kernel) ⟨Nat.le_of_ble_eq_true rfl, Nat.le_of_ble_eq_true rfl⟩) hok53 (Nat.le_of_ble_eq_true rfl) ⟨Nat.le_of_ble_eq_true rfl, Nat.le_of_ble_eq_true rfl⟩) (fun E9 S9 ok9 q9 => JX_out C ok9 q9 (by decide) (by decide)) (fun rv61 S59 hr62 hok60 h58 => ?_)
        have h58 := h58 hr62 hok60
        refine J_istore (pc := 31) C dX7_flex_31 (by decide) ?_
        refine J_iload_n (pc := 33) C dX7_flex_33 rfl ?_
        refine J_aload_n (pc := 34) C dX7_flex_34 rfl ?_
        refine J_get (pc := 35) C dX7_flex_35 0 rfl rfl nX7_flex_X7 20 (by decide) mX7_flex_f121 rfl (v := iV (S59 0 20)) rfl ?_
        refine J_iload (pc := 38) C dX7_flex_38 rfl ?_
        refine J_isub (pc := 40) C dX7_flex_40 ?_
        obtain ⟨o63, h64⟩ := h58
        obtain ⟨h65, h66⟩ := h64
        refine J_icmp_lt (pc := 41) (tgt := 46) C dX7_flex_41 (by decide) ra0 o63 (fun cb => ?_) (fun cb => ?_)
        · have h65 := h65 cb
          refine J_aload_n (pc := 46) C dX7_flex_46 rfl ?_
          refine J_get (pc := 47) C dX7_flex_47 0 rfl rfl nX7_flex_X7 19 (by decide) mX7_flex_f57 rfl (v := .ref (G.2.2 16)) rfl ?_
          refine J_iload_n (pc := 50) C dX7_flex_50 rfl ?_
          obtain ⟨o67, h68⟩ := h65
          refine J_iald (pc := 51) C dX7_flex_51 16 16 rfl (by decide) o67 ?_
          refine J_iconst (pc := 52) C dX7_flex_52 ?_
          obtain ⟨h69, h70⟩ := h68
          refine J_icmp_ne (pc := 53) (tgt := 60) C dX7_flex_53 (by decide) (hok60 16 a1) (by decide) (fun cb => ?_) (fun cb => ?_)
          · have h69 := h69 cb
            refine J_aload_n (pc := 60) C dX7_flex_60 rfl ?_
            refine J_aload_n (pc := 61) C dX7_flex_61 rfl ?_
            refine J_iload_n (pc := 62) C dX7_flex_62 rfl ?_
            refine J_aload_n (pc := 63) C dX7_flex_63 rfl ?_
            refine J_get (pc := 64) C dX7_flex_64 0 rfl rfl nX7_flex_X7 20 (by decide) mX7_flex_f121 rfl (v := iV (S59 0 20)) rfl ?_
            refine J_c1 (pc := 67) C (J_rV (pc := 67) C (h69 ra0 (hok60 0 20)) dX7_flex_67 rfl rfl 0 rfl rfl (cwV 2 C.1.2.2.2.2 gX7_flex_X7_free rfl rfl rfl (by decide +kernel) ⟨Nat.le_of_ble_eq_true rfl, Nat.le_of_ble_eq_true rfl⟩) hok60 (Nat.le_of_ble_eq_true rfl) ⟨Nat.le_of_ble_eq_true rfl, Nat.le_of_ble_eq_true rfl⟩) (fun E9 S9 ok9 q9 => JX_out C ok9 q9 (by decide) (by decide)) (fun rv74 S72 hr75 hok73 h71 => ?_)
            have h71 := h71 hr75 hok73
            refine J_aload_n (pc := 70) C dX7_flex_70 rfl ?_
            refine J_get (pc := 71) C dX7_flex_71 0 rfl rfl nX7_flex_X7 19 (by decide) mX7_flex_f57 rfl (v := .ref (G.2.2 16)) rfl ?_
            refine J_iload_n (pc := 74) C dX7_flex_74 rfl ?_
            refine J_iald (pc := 75) C dX7_flex_75 16 16 rfl (by decide) o67 ?_
            refine J_iload_n (pc := 76) C dX7_flex_76 rfl ?_
            obtain ⟨h76, h77⟩ := h71
            refine J_if_eq (pc := 77) (tgt := 84) C dX7_flex_77 (by decide) ra2 (fun cb => ?_) (fun cb => ?_)
            · have h76 := h76 cb
              refine J_iconst (pc := 84) C dX7_flex_84 ?_
              refine J_iadd (pc := 85) C dX7_flex_85 ?_
              obtain ⟨o78, h79⟩ := h76
              refine J_c1 (pc := 86) C (J_rV (pc := 86) C (h79 hr75 o78) dX7_flex_86 rfl rfl 0 rfl rfl (cwV 2 C.1.2.2.2.2 gX7_flex_X7_has rfl rfl rfl (by decide +kernel) ⟨Nat.le_of_ble_eq_true rfl, Nat.le_of_ble_eq_true rfl⟩) hok73 (Nat.le_of_ble_eq_true rfl) ⟨Nat.le_of_ble_eq_true rfl, Nat.le_of_ble_eq_true rfl⟩) (fun E9 S9 ok9 q9 => JX_out C ok9 q9 (by decide) (by decide)) (fun rv83 S81 hr84 hok82 h80 => ?_)
              have h80 := h80 hr84 hok82
              exact J_iret (pc := 89) C dX7_flex_89 hr84 hok82 h80 (by decide) (by decide)
            · have h77 := h77 cb
              refine J_iconst (pc := 80) C dX7_flex_80 ?_
              refine J_goto (pc := 81) (tgt := 85) C dX7_flex_81 (by decide) ?_
              refine J_iadd (pc := 85) C dX7_flex_85 ?_
              obtain ⟨o85, h86⟩ := h77
              refine J_c1 (pc := 86) C (J_rV (pc := 86) C (h86 hr75 o85) dX7_flex_86 rfl rfl 0 rfl rfl (cwV 2 C.1.2.2.2.2 gX7_flex_X7_has rfl rfl rfl (by decide +kernel) ⟨Nat.le_of_ble_eq_true rfl, Nat.le_of_ble_eq_true rfl⟩) hok73 (Nat.le_of_ble_eq_true rfl) ⟨Nat.le_of_ble_eq_true rfl, Nat.le_of_ble_eq_true rfl⟩) (fun E9 S9 ok9 q9 => JX_out C ok9 q9 (by decide) (by decide)) (fun rv90 S88 hr91 hok89 h87 => ?_)
              have h87 := h87 hr91 hok89
              exact J_iret (pc := 89) C dX7_flex_89 hr91 hok89 h87 (by decide) (by decide)
          · have h70 := h70 cb
            refine J_iconst (pc := 56) C dX7_flex_56 ?_
            refine J_goto (pc := 57) (tgt := 89) C dX7_flex_57 (by decide) ?_
            exact J_iret (pc := 89) C dX7_flex_89 (by decide) hok60 h70 (by decide) (by decide)
        · have h66 := h66 cb
          refine J_iconst (pc := 44) C dX7_flex_44 ?_
          exact J_iret (pc := 45) C dX7_flex_45 (by decide) hok60 h66 (by decide) (by decide)
      · have h57 := h57 cb
        refine J_iconst (pc := 24) C dX7_flex_24 ?_
        exact J_iret (pc := 25) C dX7_flex_25 (by decide) hok53 h57 (by decide) (by decide)
    · have h50 := h50 cb
      refine J_iconst (pc := 13) C dX7_flex_13 ?_
      refine J_goto (pc := 14) (tgt := 18) C dX7_flex_14 (by decide) ?_
      refine J_c1 (pc := 18) C (J_rV (pc := 18) C (h50 (by decide)) dX7_flex_18 rfl rfl 0 rfl rfl (cwV 1 C.1.2.2.2.2 gX7_flex_X7_holds rfl rfl rfl (by decide +kernel) ⟨Nat.le_of_ble_eq_true rfl, Nat.le_of_ble_eq_true rfl⟩) hok3 (Nat.le_of_ble_eq_true rfl) ⟨Nat.le_of_ble_eq_true rfl, Nat.le_of_ble_eq_true rfl⟩) (fun E9 S9 ok9 q9 => JX_out C ok9 q9 (by decide) (by decide)) (fun rv95 S93 hr96 hok94 h92 => ?_)
      have h92 := h92 hr96 hok94
      obtain ⟨h97, h98⟩ := h92
      refine J_if_ne (pc := 21) (tgt := 26) C dX7_flex_21 (by decide) hr96 (fun cb => ?_) (fun cb => ?_)
      · have h97 := h97 cb
        refine J_aload_n (pc := 26) C dX7_flex_26 rfl ?_
        refine J_iconst (pc := 27) C dX7_flex_27 ?_
        refine J_c1 (pc := 28) C (J_rV (pc := 28) C (h97 (by decide)) dX7_flex_28 rfl rfl 0 rfl rfl (cwV 1 C.1.2.2.2.2 gX7_flex_X7_rankOf rfl rfl rfl (by decide +kernel) ⟨Nat.le_of_ble_eq_true rfl, Nat.le_of_ble_eq_true rfl⟩) hok94 (Nat.le_of_ble_eq_true rfl) ⟨Nat.le_of_ble_eq_true rfl, Nat.le_of_ble_eq_true rfl⟩) (fun E9 S9 ok9 q9 => JX_out C ok9 q9 (by decide) (by decide)) (fun rv102 S100 hr103 hok101 h99 => ?_)
        have h99 := h99 hr103 hok101
        refine J_istore (pc := 31) C dX7_flex_31 (by decide) ?_
        refine J_iload_n (pc := 33) C dX7_flex_33 rfl ?_
        refine J_aload_n (pc := 34) C dX7_flex_34 rfl ?_
        refine J_get (pc := 35) C dX7_flex_35 0 rfl rfl nX7_flex_X7 20 (by decide) mX7_flex_f121 rfl (v := iV (S100 0 20)) rfl ?_
        refine J_iload (pc := 38) C dX7_flex_38 rfl ?_
        refine J_isub (pc := 40) C dX7_flex_40 ?_
        obtain ⟨o104, h105⟩ := h99
        obtain ⟨h106, h107⟩ := h105
        refine J_icmp_lt (pc := 41) (tgt := 46) C dX7_flex_41 (by decide) ra0 o104 (fun cb => ?_) (fun cb => ?_)
        · have h106 := h106 cb
          refine J_aload_n (pc := 46) C dX7_flex_46 rfl ?_
          refine J_get (pc := 47) C dX7_flex_47 0 rfl rfl nX7_flex_X7 19 (by decide) mX7_flex_f57 rfl (v := .ref (G.2.2 16)) rfl ?_
          refine J_iload_n (pc := 50) C dX7_flex_50 rfl ?_
          obtain ⟨o108, h109⟩ := h106
          refine J_iald (pc := 51) C dX7_flex_51 16 16 rfl (by decide) o108 ?_
          refine J_iconst (pc := 52) C dX7_flex_52 ?_
          obtain ⟨h110, h111⟩ := h109
          refine J_icmp_ne (pc := 53) (tgt := 60) C dX7_flex_53 (by decide) (hok101 16 a1) (by decide) (fun cb => ?_) (fun cb => ?_)
          · have h110 := h110 cb
            refine J_aload_n (pc := 60) C dX7_flex_60 rfl ?_
            refine J_aload_n (pc := 61) C dX7_flex_61 rfl ?_
            refine J_iload_n (pc := 62) C dX7_flex_62 rfl ?_
            refine J_aload_n (pc := 63) C dX7_flex_63 rfl ?_
            refine J_get (pc := 64) C dX7_flex_64 0 rfl rfl nX7_flex_X7 20 (by decide) mX7_flex_f121 rfl (v := iV (S100 0 20)) rfl ?_
            refine J_c1 (pc := 67) C (J_rV (pc := 67) C (h110 ra0 (hok101 0 20)) dX7_flex_67 rfl rfl 0 rfl rfl (cwV 2 C.1.2.2.2.2 gX7_flex_X7_free rfl rfl rfl (by decide +kernel) ⟨Nat.le_of_ble_eq_true rfl, Nat.le_of_ble_eq_true rfl⟩) hok101 (Nat.le_of_ble_eq_true rfl) ⟨Nat.le_of_ble_eq_true rfl, Nat.le_of_ble_eq_true rfl⟩) (fun E9 S9 ok9 q9 => JX_out C ok9 q9 (by decide) (by decide)) (fun rv115 S113 hr116 hok114 h112 => ?_)
            have h112 := h112 hr116 hok114
            refine J_aload_n (pc := 70) C dX7_flex_70 rfl ?_
            refine J_get (pc := 71) C dX7_flex_71 0 rfl rfl nX7_flex_X7 19 (by decide) mX7_flex_f57 rfl (v := .ref (G.2.2 16)) rfl ?_
            refine J_iload_n (pc := 74) C dX7_flex_74 rfl ?_
            refine J_iald (pc := 75) C dX7_flex_75 16 16 rfl (by decide) o108 ?_
            refine J_iload_n (pc := 76) C dX7_flex_76 rfl ?_
            obtain ⟨h117, h118⟩ := h112
            refine J_if_eq (pc := 77) (tgt := 84) C dX7_flex_77 (by decide) ra2 (fun cb => ?_) (fun cb => ?_)
            · have h117 := h117 cb
              refine J_iconst (pc := 84) C dX7_flex_84 ?_
              refine J_iadd (pc := 85) C dX7_flex_85 ?_
              obtain ⟨o119, h120⟩ := h117
              refine J_c1 (pc := 86) C (J_rV (pc := 86) C (h120 hr116 o119) dX7_flex_86 rfl rfl 0 rfl rfl (cwV 2 C.1.2.2.2.2 gX7_flex_X7_has rfl rfl rfl (by decide +kernel) ⟨Nat.le_of_ble_eq_true rfl, Nat.le_of_ble_eq_true rfl⟩) hok114 (Nat.le_of_ble_eq_true rfl) ⟨Nat.le_of_ble_eq_true rfl, Nat.le_of_ble_eq_true rfl⟩) (fun E9 S9 ok9 q9 => JX_out C ok9 q9 (by decide) (by decide)) (fun rv124 S122 hr125 hok123 h121 => ?_)
              have h121 := h121 hr125 hok123
              exact J_iret (pc := 89) C dX7_flex_89 hr125 hok123 h121 (by decide) (by decide)
            · have h118 := h118 cb
              refine J_iconst (pc := 80) C dX7_flex_80 ?_
              refine J_goto (pc := 81) (tgt := 85) C dX7_flex_81 (by decide) ?_
              refine J_iadd (pc := 85) C dX7_flex_85 ?_
              obtain ⟨o126, h127⟩ := h118
              refine J_c1 (pc := 86) C (J_rV (pc := 86) C (h127 hr116 o126) dX7_flex_86 rfl rfl 0 rfl rfl (cwV 2 C.1.2.2.2.2 gX7_flex_X7_has rfl rfl rfl (by decide +kernel) ⟨Nat.le_of_ble_eq_true rfl, Nat.le_of_ble_eq_true rfl⟩) hok114 (Nat.le_of_ble_eq_true rfl) ⟨Nat.le_of_ble_eq_true rfl, Nat.le_of_ble_eq_true rfl⟩) (fun E9 S9 ok9 q9 => JX_out C ok9 q9 (by decide) (by decide)) (fun rv131 S129 hr132 hok130 h128 => ?_)
              have h128 := h128 hr132 hok130
              exact J_iret (pc := 89) C dX7_flex_89 hr132 hok130 h128 (by decide) (by decide)
          · have h111 := h111 cb
            refine J_iconst (pc := 56) C dX7_flex_56 ?_
            refine J_goto (pc := 57) (tgt := 89) C dX7_flex_57 (by decide) ?_
            exact J_iret (pc := 89) C dX7_flex_89 (by decide) hok101 h111 (by decide) (by decide)
        · have h107 := h107 cb
          refine J_iconst (pc := 44) C dX7_flex_44 ?_
          exact J_iret (pc := 45) C dX7_flex_45 (by decide) hok101 h107 (by decide) (by decide)
      · have h98 := h98 cb
        refine J_iconst (pc := 24) C dX7_flex_24 ?_
        exact J_iret (pc := 25) C dX7_flex_25 (by decide) hok94 h98 (by decide) (by decide)
def rmX7_folds : Room := { frames := 1, cells := 0, slots := 0, locals := 22 }
def M_X7_folds (a0 a1 a2 a3 a4 : Int) (S : St) (Qr : Int → St → Prop) (Qx : String → St → Prop) : Prop := r32 a0 → r32 a1 → r32 a2 → r32 a3 → r32 a4 → MM 1 wM okM yX7_folds wsX7_folds rmX7_folds (fun G => [.ref (G.2.2 0), iV a0, iV a1, iV a2, iV a3, iV a4]) S Qr Qx
def R_X7_folds_61 (x1 x2 x3 x4 x5 s0 : Int) (S : St) (Qr : Int → St → Prop) (Qx : String → St → Prop) : Prop := r32 x1 → r32 x2 → r32 x3 → r32 x4 → r32 x5 → r32 s0 → RR 1 wM okM wsX7_folds rmX7_folds cX7_folds 7 RX7 (some .int) [] 0 0 (fun G => [some (.ref (G.2.2 0)), some (iV x1), some (iV x2), some (iV x3), some (iV x4), some (iV x5), none]) (fun G => [iV s0]) 61 S Qr Qx
set_option maxRecDepth 100000 in
set_option maxHeartbeats 4000000 in
theorem vc_X7_folds {a0 a1 a2 a3 a4 : Int} {S : St} {Qr : Int → St → Prop} {Qx : String → St → Prop} (h : r32 a0 → r32 a1 → r32 a2 → r32 a3 → r32 a4 → okM S → M_X7_isIn a0 1 359 S (fun rv4 S2 => r32 rv4 → okM S2 → ((rv4 = 0 → R_X7_folds_61 a0 a1 a2 a3 a4 0 S2 Qr Qx) ∧ (rv4 ≠ 0 → M_X7_isIn a1 1 359 S2 (fun rv11 S9 => r32 rv11 → okM S9 → ((rv11 = 0 → R_X7_folds_61 a0 a1 a2 a3 a4 0 S9 Qr Qx) ∧ (rv11 ≠ 0 → M_X7_isIn a2 1 359 S9 (fun rv18 S16 => r32 rv18 → okM S16 → ((rv18 = 0 → R_X7_folds_61 a0 a1 a2 a3 a4 0 S16 Qr Qx) ∧ (rv18 ≠ 0 → M_X7_isIn a3 1 359 S16 (fun rv25 S23 => r32 rv25 → okM S23 → ((rv25 = 0 → R_X7_folds_61 a0 a1 a2 a3 a4 0 S23 Qr Qx) ∧ (rv25 ≠ 0 → M_X7_isIn a4 0 15 S23 (fun rv32 S30 => r32 rv32 → okM S30 → ((rv32 = 0 → R_X7_folds_61 a0 a1 a2 a3 a4 0 S30 Qr Qx) ∧ (rv32 ≠ 0 → R_X7_folds_61 a0 a1 a2 a3 a4 1 S30 Qr Qx))) Qx))) Qx))) Qx))) Qx))) Qx) : M_X7_folds a0 a1 a2 a3 a4 S Qr Qx := by
  intro ra0 ra1 ra2 ra3 ra4
  refine MM_of adM (by decide +kernel) rfl (Lf := fun G => [some (.ref (G.2.2 0)), some (iV a0), some (iV a1), some (iV a2), some (iV a3), some (iV a4), none]) (fun G => by show _ ≤ _; exact Nat.le_of_ble_eq_true rfl) (fun G => rfl) ?_
  intro p l e s m args below meth c G A C hok
  have h := h ra0 ra1 ra2 ra3 ra4 hok
  replace C : Cx wM cX7_folds 7 RX7 wsX7_folds (some .int) [] p l s m args meth c G A := C
  show J wM 7 rmX7_folds p l e s m args below meth c G A (QQ 1 wM okM G Qr Qx A below args s rmX7_folds.cells rmX7_folds.slots) 0 0 S [some (.ref (G.2.2 0)), some (iV a0), some (iV a1), some (iV a2), some (iV a3), some (iV a4), none] [] 0
  refine J_iload_n (pc := 0) C dX7_folds_0 rfl ?_
  refine J_iconst (pc := 1) C dX7_folds_1 ?_
  refine J_sipush (pc := 2) C dX7_folds_2 (by decide) ?_
  refine J_c1 (pc := 5) C (J_rS (pc := 5) C (h ra0 (by decide) (by decide)) dX7_folds_5 rfl rfl (va_cwS 3 C.1.2.2.2.2 gX7_folds_X7_isIn rfl rfl rfl (by decide +kernel) ⟨Nat.le_of_ble_eq_true rfl, Nat.le_of_ble_eq_true rfl⟩) hok (Nat.le_of_ble_eq_true rfl) ⟨Nat.le_of_ble_eq_true rfl, Nat.le_of_ble_eq_true rfl⟩) (fun E9 S9 ok9 q9 => JX_out C ok9 q9 (by decide) (by decide)) (fun rv4 S2 hr5 hok3 h1 => ?_)
  have h1 := h1 hr5 hok3
  obtain ⟨h6, h7⟩ := h1
  refine J_if_eq (pc := 8) (tgt := 60) C dX7_folds_8 (by decide) hr5 (fun cb => ?_) (fun cb => ?_)
  · have h6 := h6 cb
    refine J_iconst (pc := 60) C dX7_folds_60 ?_
    exact J_sub (L1 := [some (.ref (G.2.2 0)), some (iV a0), some (iV a1), some (iV a2), some (iV a3), some (iV a4), none]) ⟨rfl, ⟨rfl, ⟨rfl, ⟨rfl, ⟨rfl, ⟨rfl, trivial⟩⟩⟩⟩⟩⟩ (h6 ra0 ra1 ra2 ra3 ra4 (by decide) p l e s m args below meth c G A C hok3)
  · have h7 := h7 cb
    refine J_iload_n (pc := 11) C dX7_folds_11 rfl ?_
    refine J_iconst (pc := 12) C dX7_folds_12 ?_
    refine J_sipush (pc := 13) C dX7_folds_13 (by decide) ?_
    refine J_c1 (pc := 16) C (J_rS (pc := 16) C (h7 ra1 (by decide) (by decide)) dX7_folds_16 rfl rfl (va_cwS 3 C.1.2.2.2.2 gX7_folds_X7_isIn rfl rfl rfl (by decide +kernel) ⟨Nat.le_of_ble_eq_true rfl, Nat.le_of_ble_eq_true rfl⟩) hok3 (Nat.le_of_ble_eq_true rfl) ⟨Nat.le_of_ble_eq_true rfl, Nat.le_of_ble_eq_true rfl⟩) (fun E9 S9 ok9 q9 => JX_out C ok9 q9 (by decide) (by decide)) (fun rv11 S9 hr12 hok10 h8 => ?_)
    have h8 := h8 hr12 hok10
    obtain ⟨h13, h14⟩ := h8
    refine J_if_eq (pc := 19) (tgt := 60) C dX7_folds_19 (by decide) hr12 (fun cb => ?_) (fun cb => ?_)
    · have h13 := h13 cb
      refine J_iconst (pc := 60) C dX7_folds_60 ?_
      exact J_sub (L1 := [some (.ref (G.2.2 0)), some (iV a0), some (iV a1), some (iV a2), some (iV a3), some (iV a4), none]) ⟨rfl, ⟨rfl, ⟨rfl, ⟨rfl, ⟨rfl, ⟨rfl, trivial⟩⟩⟩⟩⟩⟩ (h13 ra0 ra1 ra2 ra3 ra4 (by decide) p l e s m args below meth c G A C hok10)
    · have h14 := h14 cb
      refine J_iload_n (pc := 22) C dX7_folds_22 rfl ?_
      refine J_iconst (pc := 23) C dX7_folds_23 ?_
      refine J_sipush (pc := 24) C dX7_folds_24 (by decide) ?_
      refine J_c1 (pc := 27) C (J_rS (pc := 27) C (h14 ra2 (by decide) (by decide)) dX7_folds_27 rfl rfl (va_cwS 3 C.1.2.2.2.2 gX7_folds_X7_isIn rfl rfl rfl (by decide +kernel) ⟨Nat.le_of_ble_eq_true rfl, Nat.le_of_ble_eq_true rfl⟩) hok10 (Nat.le_of_ble_eq_true rfl) ⟨Nat.le_of_ble_eq_true rfl, Nat.le_of_ble_eq_true rfl⟩) (fun E9 S9 ok9 q9 => JX_out C ok9 q9 (by decide) (by decide)) (fun rv18 S16 hr19 hok17 h15 => ?_)
      have h15 := h15 hr19 hok17
      obtain ⟨h20, h21⟩ := h15
      refine J_if_eq (pc := 30) (tgt := 60) C dX7_folds_30 (by decide) hr19 (fun cb => ?_) (fun cb => ?_)
      · have h20 := h20 cb
        refine J_iconst (pc := 60) C dX7_folds_60 ?_
        exact J_sub (L1 := [some (.ref (G.2.2 0)), some (iV a0), some (iV a1), some (iV a2), some (iV a3), some (iV a4), none]) ⟨rfl, ⟨rfl, ⟨rfl, ⟨rfl, ⟨rfl, ⟨rfl, trivial⟩⟩⟩⟩⟩⟩ (h20 ra0 ra1 ra2 ra3 ra4 (by decide) p l e s m args below meth c G A C hok17)
      · have h21 := h21 cb
        refine J_iload (pc := 33) C dX7_folds_33 rfl ?_
        refine J_iconst (pc := 35) C dX7_folds_35 ?_
        refine J_sipush (pc := 36) C dX7_folds_36 (by decide) ?_
        refine J_c1 (pc := 39) C (J_rS (pc := 39) C (h21 ra3 (by decide) (by decide)) dX7_folds_39 rfl rfl (va_cwS 3 C.1.2.2.2.2 gX7_folds_X7_isIn rfl rfl rfl (by decide +kernel) ⟨Nat.le_of_ble_eq_true rfl, Nat.le_of_ble_eq_true rfl⟩) hok17 (Nat.le_of_ble_eq_true rfl) ⟨Nat.le_of_ble_eq_true rfl, Nat.le_of_ble_eq_true rfl⟩) (fun E9 S9 ok9 q9 => JX_out C ok9 q9 (by decide) (by decide)) (fun rv25 S23 hr26 hok24 h22 => ?_)
        have h22 := h22 hr26 hok24
        obtain ⟨h27, h28⟩ := h22
        refine J_if_eq (pc := 42) (tgt := 60) C dX7_folds_42 (by decide) hr26 (fun cb => ?_) (fun cb => ?_)
        · have h27 := h27 cb
          refine J_iconst (pc := 60) C dX7_folds_60 ?_
          exact J_sub (L1 := [some (.ref (G.2.2 0)), some (iV a0), some (iV a1), some (iV a2), some (iV a3), some (iV a4), none]) ⟨rfl, ⟨rfl, ⟨rfl, ⟨rfl, ⟨rfl, ⟨rfl, trivial⟩⟩⟩⟩⟩⟩ (h27 ra0 ra1 ra2 ra3 ra4 (by decide) p l e s m args below meth c G A C hok24)
        · have h28 := h28 cb
          refine J_iload (pc := 45) C dX7_folds_45 rfl ?_
          refine J_iconst (pc := 47) C dX7_folds_47 ?_
          refine J_bipush (pc := 48) C dX7_folds_48 (by decide) ?_
          refine J_c1 (pc := 50) C (J_rS (pc := 50) C (h28 ra4 (by decide) (by decide)) dX7_folds_50 rfl rfl (va_cwS 3 C.1.2.2.2.2 gX7_folds_X7_isIn rfl rfl rfl (by decide +kernel) ⟨Nat.le_of_ble_eq_true rfl, Nat.le_of_ble_eq_true rfl⟩) hok24 (Nat.le_of_ble_eq_true rfl) ⟨Nat.le_of_ble_eq_true rfl, Nat.le_of_ble_eq_true rfl⟩) (fun E9 S9 ok9 q9 => JX_out C ok9 q9 (by decide) (by decide)) (fun rv32 S30 hr33 hok31 h29 => ?_)
          have h29 := h29 hr33 hok31
          obtain ⟨h34, h35⟩ := h29
          refine J_if_eq (pc := 53) (tgt := 60) C dX7_folds_53 (by decide) hr33 (fun cb => ?_) (fun cb => ?_)
          · have h34 := h34 cb
            refine J_iconst (pc := 60) C dX7_folds_60 ?_
            exact J_sub (L1 := [some (.ref (G.2.2 0)), some (iV a0), some (iV a1), some (iV a2), some (iV a3), some (iV a4), none]) ⟨rfl, ⟨rfl, ⟨rfl, ⟨rfl, ⟨rfl, ⟨rfl, trivial⟩⟩⟩⟩⟩⟩ (h34 ra0 ra1 ra2 ra3 ra4 (by decide) p l e s m args below meth c G A C hok31)
          · have h35 := h35 cb
            refine J_iconst (pc := 56) C dX7_folds_56 ?_
            refine J_goto (pc := 57) (tgt := 61) C dX7_folds_57 (by decide) ?_
            exact J_sub (L1 := [some (.ref (G.2.2 0)), some (iV a0), some (iV a1), some (iV a2), some (iV a3), some (iV a4), none]) ⟨rfl, ⟨rfl, ⟨rfl, ⟨rfl, ⟨rfl, ⟨rfl, trivial⟩⟩⟩⟩⟩⟩ (h35 ra0 ra1 ra2 ra3 ra4 (by decide) p l e s m args below meth c G A C hok31)
set_option maxRecDepth 100000 in
set_option maxHeartbeats 4000000 in
theorem vc_X7_folds_61 {x1 x2 x3 x4 x5 s0 : Int} {S : St} {Qr : Int → St → Prop} {Qx : String → St → Prop} (h : r32 x1 → r32 x2 → r32 x3 → r32 x4 → r32 x5 → r32 s0 → okM S → ((s0 = 0 → M_X7_holds 1 S (fun rv6 S4 => r32 rv6 → okM S4 → ((rv6 ≠ 0 → (r32 (((x1 + x2) + x3) + x4) ∧ (((((x1 + x2) + x3) + x4) = 360 → (r32 (x1 + x3) ∧ (((x1 + x3) = 180 → M_X7_bits x5 S4 (fun rv21 S19 => r32 rv21 → okM S19 → (r32 (Int.tmod rv21 2) ∧ (((Int.tmod rv21 2) ≠ 0 → Qr 0 S19) ∧ ((Int.tmod rv21 2) = 0 → Qr 3 S19)))) Qx) ∧ ((x1 + x3) ≠ 180 → Qr 2 S4)))) ∧ ((((x1 + x2) + x3) + x4) ≠ 360 → Qr 1 S4)))) ∧ (rv6 = 0 → Qr 0 S4))) Qx) ∧ (s0 ≠ 0 → M_X7_holds 0 S (fun rv30 S28 => r32 rv30 → okM S28 → ((rv30 ≠ 0 → (r32 (((x1 + x2) + x3) + x4) ∧ (((((x1 + x2) + x3) + x4) = 360 → (r32 (x1 + x3) ∧ (((x1 + x3) = 180 → M_X7_bits x5 S28 (fun rv45 S43 => r32 rv45 → okM S43 → (r32 (Int.tmod rv45 2) ∧ (((Int.tmod rv45 2) ≠ 0 → Qr 0 S43) ∧ ((Int.tmod rv45 2) = 0 → Qr 3 S43)))) Qx) ∧ ((x1 + x3) ≠ 180 → Qr 2 S28)))) ∧ ((((x1 + x2) + x3) + x4) ≠ 360 → Qr 1 S28)))) ∧ (rv30 = 0 → Qr 0 S28))) Qx))) : R_X7_folds_61 x1 x2 x3 x4 x5 s0 S Qr Qx := by
  intro rx1 rx2 rx3 rx4 rx5 rs0
  intro p l e s m args below meth c G A C hok
  have h := h rx1 rx2 rx3 rx4 rx5 rs0 hok
  replace C : Cx wM cX7_folds 7 RX7 wsX7_folds (some .int) [] p l s m args meth c G A := C
  show J wM 7 rmX7_folds p l e s m args below meth c G A (QQ 1 wM okM G Qr Qx A below args s rmX7_folds.cells rmX7_folds.slots) 0 0 S [some (.ref (G.2.2 0)), some (iV x1), some (iV x2), some (iV x3), some (iV x4), some (iV x5), none] [iV s0] 61
  refine J_istore (pc := 61) C dX7_folds_61 (by decide) ?_
  refine J_aload_n (pc := 63) C dX7_folds_63 rfl ?_
  refine J_iload (pc := 64) C dX7_folds_64 rfl ?_
  obtain ⟨h1, h2⟩ := h
  refine J_if_eq (pc := 66) (tgt := 73) C dX7_folds_66 (by decide) rs0 (fun cb => ?_) (fun cb => ?_)
  · have h1 := h1 cb
    refine J_iconst (pc := 73) C dX7_folds_73 ?_
    refine J_c1 (pc := 74) C (J_rV (pc := 74) C (h1 (by decide)) dX7_folds_74 rfl rfl 0 rfl rfl (cwV 1 C.1.2.2.2.2 gX7_folds_X7_holds rfl rfl rfl (by decide +kernel) ⟨Nat.le_of_ble_eq_true rfl, Nat.le_of_ble_eq_true rfl⟩) hok (Nat.le_of_ble_eq_true rfl) ⟨Nat.le_of_ble_eq_true rfl, Nat.le_of_ble_eq_true rfl⟩) (fun E9 S9 ok9 q9 => JX_out C ok9 q9 (by decide) (by decide)) (fun rv6 S4 hr7 hok5 h3 => ?_)
    have h3 := h3 hr7 hok5
    obtain ⟨h8, h9⟩ := h3
    refine J_if_ne (pc := 77) (tgt := 82) C dX7_folds_77 (by decide) hr7 (fun cb => ?_) (fun cb => ?_)
    · have h8 := h8 cb
      refine J_iload_n (pc := 82) C dX7_folds_82 rfl ?_
      refine J_iload_n (pc := 83) C dX7_folds_83 rfl ?_
      refine J_iadd (pc := 84) C dX7_folds_84 ?_
      refine J_iload_n (pc := 85) C dX7_folds_85 rfl ?_
      refine J_iadd (pc := 86) C dX7_folds_86 ?_
      refine J_iload (pc := 87) C dX7_folds_87 rfl ?_
      refine J_iadd (pc := 89) C dX7_folds_89 ?_
      refine J_sipush (pc := 90) C dX7_folds_90 (by decide) ?_
      obtain ⟨o10, h11⟩ := h8
      obtain ⟨h12, h13⟩ := h11
      refine J_icmp_eq (pc := 93) (tgt := 100) C dX7_folds_93 (by decide) o10 (by decide) (fun cb => ?_) (fun cb => ?_)
      · have h12 := h12 cb
        refine J_iload_n (pc := 100) C dX7_folds_100 rfl ?_
        refine J_iload_n (pc := 101) C dX7_folds_101 rfl ?_
        refine J_iadd (pc := 102) C dX7_folds_102 ?_
        refine J_sipush (pc := 103) C dX7_folds_103 (by decide) ?_
        obtain ⟨o14, h15⟩ := h12
        obtain ⟨h16, h17⟩ := h15
        refine J_icmp_eq (pc := 106) (tgt := 113) C dX7_folds_106 (by decide) o14 (by decide) (fun cb => ?_) (fun cb => ?_)
        · have h16 := h16 cb
          refine J_iload (pc := 113) C dX7_folds_113 rfl ?_
          refine J_c1 (pc := 115) C (J_rS (pc := 115) C (h16 rx5) dX7_folds_115 rfl rfl (va_cwS 1 C.1.2.2.2.2 gX7_folds_X7_bits rfl rfl rfl (by decide +kernel) ⟨Nat.le_of_ble_eq_true rfl, Nat.le_of_ble_eq_true rfl⟩) hok5 (Nat.le_of_ble_eq_true rfl) ⟨Nat.le_of_ble_eq_true rfl, Nat.le_of_ble_eq_true rfl⟩) (fun E9 S9 ok9 q9 => JX_out C ok9 q9 (by decide) (by decide)) (fun rv21 S19 hr22 hok20 h18 => ?_)
          have h18 := h18 hr22 hok20
          refine J_iconst (pc := 118) C dX7_folds_118 ?_
          refine J_irem (pc := 119) C dX7_folds_119 hr22 (by decide) (by decide) ?_
          obtain ⟨o23, h24⟩ := h18
          obtain ⟨h25, h26⟩ := h24
          refine J_if_ne (pc := 120) (tgt := 127) C dX7_folds_120 (by decide) o23 (fun cb => ?_) (fun cb => ?_)
          · have h25 := h25 cb
            refine J_iconst (pc := 127) C dX7_folds_127 ?_
            exact J_iret (pc := 128) C dX7_folds_128 (by decide) hok20 h25 (by decide) (by decide)
          · have h26 := h26 cb
            refine J_iconst (pc := 123) C dX7_folds_123 ?_
            refine J_goto (pc := 124) (tgt := 128) C dX7_folds_124 (by decide) ?_
            exact J_iret (pc := 128) C dX7_folds_128 (by decide) hok20 h26 (by decide) (by decide)
        · have h17 := h17 cb
          refine J_iconst (pc := 109) C dX7_folds_109 ?_
          refine J_goto (pc := 110) (tgt := 128) C dX7_folds_110 (by decide) ?_
          exact J_iret (pc := 128) C dX7_folds_128 (by decide) hok5 h17 (by decide) (by decide)
      · have h13 := h13 cb
        refine J_iconst (pc := 96) C dX7_folds_96 ?_
        refine J_goto (pc := 97) (tgt := 128) C dX7_folds_97 (by decide) ?_
        exact J_iret (pc := 128) C dX7_folds_128 (by decide) hok5 h13 (by decide) (by decide)
    · have h9 := h9 cb
      refine J_iconst (pc := 80) C dX7_folds_80 ?_
      exact J_iret (pc := 81) C dX7_folds_81 (by decide) hok5 h9 (by decide) (by decide)
  · have h2 := h2 cb
    refine J_iconst (pc := 69) C dX7_folds_69 ?_
    refine J_goto (pc := 70) (tgt := 74) C dX7_folds_70 (by decide) ?_
    refine J_c1 (pc := 74) C (J_rV (pc := 74) C (h2 (by decide)) dX7_folds_74 rfl rfl 0 rfl rfl (cwV 1 C.1.2.2.2.2 gX7_folds_X7_holds rfl rfl rfl (by decide +kernel) ⟨Nat.le_of_ble_eq_true rfl, Nat.le_of_ble_eq_true rfl⟩) hok (Nat.le_of_ble_eq_true rfl) ⟨Nat.le_of_ble_eq_true rfl, Nat.le_of_ble_eq_true rfl⟩) (fun E9 S9 ok9 q9 => JX_out C ok9 q9 (by decide) (by decide)) (fun rv30 S28 hr31 hok29 h27 => ?_)
    have h27 := h27 hr31 hok29
    obtain ⟨h32, h33⟩ := h27
    refine J_if_ne (pc := 77) (tgt := 82) C dX7_folds_77 (by decide) hr31 (fun cb => ?_) (fun cb => ?_)
    · have h32 := h32 cb
      refine J_iload_n (pc := 82) C dX7_folds_82 rfl ?_
      refine J_iload_n (pc := 83) C dX7_folds_83 rfl ?_
      refine J_iadd (pc := 84) C dX7_folds_84 ?_
      refine J_iload_n (pc := 85) C dX7_folds_85 rfl ?_
      refine J_iadd (pc := 86) C dX7_folds_86 ?_
      refine J_iload (pc := 87) C dX7_folds_87 rfl ?_
      refine J_iadd (pc := 89) C dX7_folds_89 ?_
      refine J_sipush (pc := 90) C dX7_folds_90 (by decide) ?_
      obtain ⟨o34, h35⟩ := h32
      obtain ⟨h36, h37⟩ := h35
      refine J_icmp_eq (pc := 93) (tgt := 100) C dX7_folds_93 (by decide) o34 (by decide) (fun cb => ?_) (fun cb => ?_)
      · have h36 := h36 cb
        refine J_iload_n (pc := 100) C dX7_folds_100 rfl ?_
        refine J_iload_n (pc := 101) C dX7_folds_101 rfl ?_
        refine J_iadd (pc := 102) C dX7_folds_102 ?_
        refine J_sipush (pc := 103) C dX7_folds_103 (by decide) ?_
        obtain ⟨o38, h39⟩ := h36
        obtain ⟨h40, h41⟩ := h39
        refine J_icmp_eq (pc := 106) (tgt := 113) C dX7_folds_106 (by decide) o38 (by decide) (fun cb => ?_) (fun cb => ?_)
        · have h40 := h40 cb
          refine J_iload (pc := 113) C dX7_folds_113 rfl ?_
          refine J_c1 (pc := 115) C (J_rS (pc := 115) C (h40 rx5) dX7_folds_115 rfl rfl (va_cwS 1 C.1.2.2.2.2 gX7_folds_X7_bits rfl rfl rfl (by decide +kernel) ⟨Nat.le_of_ble_eq_true rfl, Nat.le_of_ble_eq_true rfl⟩) hok29 (Nat.le_of_ble_eq_true rfl) ⟨Nat.le_of_ble_eq_true rfl, Nat.le_of_ble_eq_true rfl⟩) (fun E9 S9 ok9 q9 => JX_out C ok9 q9 (by decide) (by decide)) (fun rv45 S43 hr46 hok44 h42 => ?_)
          have h42 := h42 hr46 hok44
          refine J_iconst (pc := 118) C dX7_folds_118 ?_
          refine J_irem (pc := 119) C dX7_folds_119 hr46 (by decide) (by decide) ?_
          obtain ⟨o47, h48⟩ := h42
          obtain ⟨h49, h50⟩ := h48
          refine J_if_ne (pc := 120) (tgt := 127) C dX7_folds_120 (by decide) o47 (fun cb => ?_) (fun cb => ?_)
          · have h49 := h49 cb
            refine J_iconst (pc := 127) C dX7_folds_127 ?_
            exact J_iret (pc := 128) C dX7_folds_128 (by decide) hok44 h49 (by decide) (by decide)
          · have h50 := h50 cb
            refine J_iconst (pc := 123) C dX7_folds_123 ?_
            refine J_goto (pc := 124) (tgt := 128) C dX7_folds_124 (by decide) ?_
            exact J_iret (pc := 128) C dX7_folds_128 (by decide) hok44 h50 (by decide) (by decide)
        · have h41 := h41 cb
          refine J_iconst (pc := 109) C dX7_folds_109 ?_
          refine J_goto (pc := 110) (tgt := 128) C dX7_folds_110 (by decide) ?_
          exact J_iret (pc := 128) C dX7_folds_128 (by decide) hok29 h41 (by decide) (by decide)
      · have h37 := h37 cb
        refine J_iconst (pc := 96) C dX7_folds_96 ?_
        refine J_goto (pc := 97) (tgt := 128) C dX7_folds_97 (by decide) ?_
        exact J_iret (pc := 128) C dX7_folds_128 (by decide) hok29 h37 (by decide) (by decide)
    · have h33 := h33 cb
      refine J_iconst (pc := 80) C dX7_folds_80 ?_
      exact J_iret (pc := 81) C dX7_folds_81 (by decide) hok29 h33 (by decide) (by decide)
def rmX7_isPoint : Room := { frames := 1, cells := 0, slots := 0, locals := 22 }
def M_X7_isPoint (a0 a1 : Int) (S : St) (Qr : Int → St → Prop) (Qx : String → St → Prop) : Prop := r32 a0 → r32 a1 → MM 1 wM okM yX7_isPoint wsX7_isPoint rmX7_isPoint (fun G => [iV a0, iV a1]) S Qr Qx
set_option maxRecDepth 100000 in
set_option maxHeartbeats 4000000 in
theorem vc_X7_isPoint {a0 a1 : Int} {S : St} {Qr : Int → St → Prop} {Qx : String → St → Prop} (h : r32 a0 → r32 a1 → okM S → M_X7_isIn a0 (-50) 50 S (fun rv4 S2 => r32 rv4 → okM S2 → ((rv4 = 0 → Qr 0 S2) ∧ (rv4 ≠ 0 → M_X7_isIn a1 (-50) 50 S2 (fun rv11 S9 => r32 rv11 → okM S9 → ((rv11 = 0 → Qr 0 S9) ∧ (rv11 ≠ 0 → Qr 1 S9))) Qx))) Qx) : M_X7_isPoint a0 a1 S Qr Qx := by
  intro ra0 ra1
  refine MM_of adM (by decide +kernel) rfl (Lf := fun G => [some (iV a0), some (iV a1)]) (fun G => by show _ ≤ _; exact Nat.le_of_ble_eq_true rfl) (fun G => rfl) ?_
  intro p l e s m args below meth c G A C hok
  have h := h ra0 ra1 hok
  replace C : Cx wM cX7_isPoint 2 RX7 wsX7_isPoint (some .boolean) [] p l s m args meth c G A := C
  show J wM 2 rmX7_isPoint p l e s m args below meth c G A (QQ 1 wM okM G Qr Qx A below args s rmX7_isPoint.cells rmX7_isPoint.slots) 0 0 S [some (iV a0), some (iV a1)] [] 0
  refine J_iload_n (pc := 0) C dX7_isPoint_0 rfl ?_
  refine J_bipush (pc := 1) C dX7_isPoint_1 (by decide) ?_
  refine J_bipush (pc := 3) C dX7_isPoint_3 (by decide) ?_
  refine J_c1 (pc := 5) C (J_rS (pc := 5) C (h ra0 (by decide) (by decide)) dX7_isPoint_5 rfl rfl (va_cwS 3 C.1.2.2.2.2 gX7_isPoint_X7_isIn rfl rfl rfl (by decide +kernel) ⟨Nat.le_of_ble_eq_true rfl, Nat.le_of_ble_eq_true rfl⟩) hok (Nat.le_of_ble_eq_true rfl) ⟨Nat.le_of_ble_eq_true rfl, Nat.le_of_ble_eq_true rfl⟩) (fun E9 S9 ok9 q9 => JX_out C ok9 q9 (by decide) (by decide)) (fun rv4 S2 hr5 hok3 h1 => ?_)
  have h1 := h1 hr5 hok3
  obtain ⟨h6, h7⟩ := h1
  refine J_if_eq (pc := 8) (tgt := 26) C dX7_isPoint_8 (by decide) hr5 (fun cb => ?_) (fun cb => ?_)
  · have h6 := h6 cb
    refine J_iconst (pc := 26) C dX7_isPoint_26 ?_
    exact J_zret (pc := 27) C dX7_isPoint_27 (by decide) hok3 h6 (by decide) (by decide)
  · have h7 := h7 cb
    refine J_iload_n (pc := 11) C dX7_isPoint_11 rfl ?_
    refine J_bipush (pc := 12) C dX7_isPoint_12 (by decide) ?_
    refine J_bipush (pc := 14) C dX7_isPoint_14 (by decide) ?_
    refine J_c1 (pc := 16) C (J_rS (pc := 16) C (h7 ra1 (by decide) (by decide)) dX7_isPoint_16 rfl rfl (va_cwS 3 C.1.2.2.2.2 gX7_isPoint_X7_isIn rfl rfl rfl (by decide +kernel) ⟨Nat.le_of_ble_eq_true rfl, Nat.le_of_ble_eq_true rfl⟩) hok3 (Nat.le_of_ble_eq_true rfl) ⟨Nat.le_of_ble_eq_true rfl, Nat.le_of_ble_eq_true rfl⟩) (fun E9 S9 ok9 q9 => JX_out C ok9 q9 (by decide) (by decide)) (fun rv11 S9 hr12 hok10 h8 => ?_)
    have h8 := h8 hr12 hok10
    obtain ⟨h13, h14⟩ := h8
    refine J_if_eq (pc := 19) (tgt := 26) C dX7_isPoint_19 (by decide) hr12 (fun cb => ?_) (fun cb => ?_)
    · have h13 := h13 cb
      refine J_iconst (pc := 26) C dX7_isPoint_26 ?_
      exact J_zret (pc := 27) C dX7_isPoint_27 (by decide) hok10 h13 (by decide) (by decide)
    · have h14 := h14 cb
      refine J_iconst (pc := 22) C dX7_isPoint_22 ?_
      refine J_goto (pc := 23) (tgt := 27) C dX7_isPoint_23 (by decide) ?_
      exact J_zret (pc := 27) C dX7_isPoint_27 (by decide) hok10 h14 (by decide) (by decide)
def rmX7_steps : Room := { frames := 1, cells := 0, slots := 0, locals := 22 }
theorem mX7_steps_f38 : Cond.fieldLink RX7 38 "StressworkModel" "stepJoint" "[I" ∈ wsX7_steps := by decide +kernel
theorem nX7_steps_X7 : ∀ x ∈ wsX70, x ∈ wsX7_steps := by decide +kernel
theorem mX7_steps_f193 : Cond.fieldLink RX7 193 "StressworkModel" "steps" "I" ∈ wsX7_steps := by decide +kernel
theorem mX7_steps_f76 : Cond.fieldLink RX7 76 "StressworkModel" "joints" "I" ∈ wsX7_steps := by decide +kernel
theorem mX7_steps_f41 : Cond.fieldLink RX7 41 "StressworkModel" "stepBar" "[I" ∈ wsX7_steps := by decide +kernel
theorem mX7_steps_f83 : Cond.fieldLink RX7 83 "StressworkModel" "members" "I" ∈ wsX7_steps := by decide +kernel
theorem mX7_steps_f44 : Cond.fieldLink RX7 44 "StressworkModel" "stepBars" "[I" ∈ wsX7_steps := by decide +kernel
theorem mX7_steps_f47 : Cond.fieldLink RX7 47 "StressworkModel" "stepSplit" "[I" ∈ wsX7_steps := by decide +kernel
def M_X7_steps (a0 a1 a2 a3 : Int) (S : St) (Qr : Int → St → Prop) (Qx : String → St → Prop) : Prop := r32 a0 → r32 a1 → r32 a2 → r32 a3 → MM 1 wM okM yX7_steps wsX7_steps rmX7_steps (fun G => [.ref (G.2.2 0), iV a0, iV a1, iV a2, iV a3]) S Qr Qx
set_option maxRecDepth 100000 in
set_option maxHeartbeats 4000000 in
theorem vc_X7_steps {a0 a1 a2 a3 : Int} {S : St} {Qr : Int → St → Prop} {Qx : String → St → Prop} (h : r32 a0 → r32 a1 → r32 a2 → r32 a3 → okM S → (ix (S 0 12) 10 ∧ (r32 ((S 0 12) + 1) ∧ M_X7_adds a2 a3 (up (up (up (up (up S 10 (S 0 12) (S 0 1)) 11 (S 0 12) (S 0 6)) 12 (S 0 12) a0) 13 (S 0 12) a1) 0 12 ((S 0 12) + 1)) (fun rv13 S11 => r32 rv13 → okM S11 → Qr rv13 S11) Qx))) : M_X7_steps a0 a1 a2 a3 S Qr Qx := by
  intro ra0 ra1 ra2 ra3
  refine MM_of adM (by decide +kernel) rfl (Lf := fun G => [some (.ref (G.2.2 0)), some (iV a0), some (iV a1), some (iV a2), some (iV a3)]) (fun G => by show _ ≤ _; exact Nat.le_of_ble_eq_true rfl) (fun G => rfl) ?_
  intro p l e s m args below meth c G A C hok
  have h := h ra0 ra1 ra2 ra3 hok
  replace C : Cx wM cX7_steps 5 RX7 wsX7_steps (some .int) [] p l s m args meth c G A := C
  show J wM 5 rmX7_steps p l e s m args below meth c G A (QQ 1 wM okM G Qr Qx A below args s rmX7_steps.cells rmX7_steps.slots) 0 0 S [some (.ref (G.2.2 0)), some (iV a0), some (iV a1), some (iV a2), some (iV a3)] [] 0
  refine J_aload_n (pc := 0) C dX7_steps_0 rfl ?_
  refine J_get (pc := 1) C dX7_steps_1 0 rfl rfl nX7_steps_X7 13 (by decide) mX7_steps_f38 rfl (v := .ref (G.2.2 10)) rfl ?_
  refine J_aload_n (pc := 4) C dX7_steps_4 rfl ?_
  refine J_get (pc := 5) C dX7_steps_5 0 rfl rfl nX7_steps_X7 12 (by decide) mX7_steps_f193 rfl (v := iV (S 0 12)) rfl ?_
  refine J_aload_n (pc := 8) C dX7_steps_8 rfl ?_
  refine J_get (pc := 9) C dX7_steps_9 0 rfl rfl nX7_steps_X7 1 (by decide) mX7_steps_f76 rfl (v := iV (S 0 1)) rfl ?_
  obtain ⟨o1, h2⟩ := h
  refine J_iast (pc := 12) C dX7_steps_12 10 10 rfl (by decide) o1 (sM_10 G S (S 0 12) (S 0 1)) ?_
  have hok3 := okM_up (k := 10) (j := (S 0 12)) hok (show rngM 10 (S 0 1) from (hok 0 1))
  refine J_aload_n (pc := 13) C dX7_steps_13 rfl ?_
  refine J_get (pc := 14) C dX7_steps_14 0 rfl rfl nX7_steps_X7 14 (by decide) mX7_steps_f41 rfl (v := .ref (G.2.2 11)) rfl ?_
  refine J_aload_n (pc := 17) C dX7_steps_17 rfl ?_
  refine J_get (pc := 18) C dX7_steps_18 0 rfl rfl nX7_steps_X7 12 (by decide) mX7_steps_f193 rfl (v := iV (S 0 12)) rfl ?_
  refine J_aload_n (pc := 21) C dX7_steps_21 rfl ?_
  refine J_get (pc := 22) C dX7_steps_22 0 rfl rfl nX7_steps_X7 6 (by decide) mX7_steps_f83 rfl (v := iV (S 0 6)) rfl ?_
  refine J_iast (pc := 25) C dX7_steps_25 11 11 rfl (by decide) o1 (sM_11 G (up S 10 (S 0 12) (S 0 1)) (S 0 12) (S 0 6)) ?_
  have hok4 := okM_up (k := 11) (j := (S 0 12)) hok3 (show rngM 11 (S 0 6) from (hok 0 6))
  refine J_aload_n (pc := 26) C dX7_steps_26 rfl ?_
  refine J_get (pc := 27) C dX7_steps_27 0 rfl rfl nX7_steps_X7 15 (by decide) mX7_steps_f44 rfl (v := .ref (G.2.2 12)) rfl ?_
  refine J_aload_n (pc := 30) C dX7_steps_30 rfl ?_
  refine J_get (pc := 31) C dX7_steps_31 0 rfl rfl nX7_steps_X7 12 (by decide) mX7_steps_f193 rfl (v := iV (S 0 12)) rfl ?_
  refine J_iload_n (pc := 34) C dX7_steps_34 rfl ?_
  refine J_iast (pc := 35) C dX7_steps_35 12 12 rfl (by decide) o1 (sM_12 G (up (up S 10 (S 0 12) (S 0 1)) 11 (S 0 12) (S 0 6)) (S 0 12) a0) ?_
  have hok5 := okM_up (k := 12) (j := (S 0 12)) hok4 (show rngM 12 a0 from ra0)
  refine J_aload_n (pc := 36) C dX7_steps_36 rfl ?_
  refine J_get (pc := 37) C dX7_steps_37 0 rfl rfl nX7_steps_X7 16 (by decide) mX7_steps_f47 rfl (v := .ref (G.2.2 13)) rfl ?_
  refine J_aload_n (pc := 40) C dX7_steps_40 rfl ?_
  refine J_get (pc := 41) C dX7_steps_41 0 rfl rfl nX7_steps_X7 12 (by decide) mX7_steps_f193 rfl (v := iV (S 0 12)) rfl ?_
  refine J_iload_n (pc := 44) C dX7_steps_44 rfl ?_
  refine J_iast (pc := 45) C dX7_steps_45 13 13 rfl (by decide) o1 (sM_13 G (up (up (up S 10 (S 0 12) (S 0 1)) 11 (S 0 12) (S 0 6)) 12 (S 0 12) a0) (S 0 12) a1) ?_
  have hok6 := okM_up (k := 13) (j := (S 0 12)) hok5 (show rngM 13 a1 from ra1)
  refine J_aload_n (pc := 46) C dX7_steps_46 rfl ?_
  refine J_dup (pc := 47) C dX7_steps_47 rfl ?_
  refine J_get (pc := 48) C dX7_steps_48 0 rfl rfl nX7_steps_X7 12 (by decide) mX7_steps_f193 rfl (v := iV (S 0 12)) rfl ?_
  refine J_iconst (pc := 51) C dX7_steps_51 ?_
  refine J_iadd (pc := 52) C dX7_steps_52 ?_
  obtain ⟨o7, h8⟩ := h2
  refine J_put (pc := 53) C dX7_steps_53 0 rfl rfl nX7_steps_X7 tyX7 tyX7_ok nmX7 12 (by decide) mX7_steps_f193 rfl rfl (v := iV ((S 0 12) + 1)) rfl rfl (Nat.le_of_ble_eq_true rfl) (sM_0_12 G (up (up (up (up S 10 (S 0 12) (S 0 1)) 11 (S 0 12) (S 0 6)) 12 (S 0 12) a0) 13 (S 0 12) a1) ((S 0 12) + 1)) ?_
  have hok9 := okM_up (k := 0) (j := 12) hok6 (show rngM 0 ((S 0 12) + 1) from o7)
  refine J_aload_n (pc := 56) C dX7_steps_56 rfl ?_
  refine J_iload_n (pc := 57) C dX7_steps_57 rfl ?_
  refine J_iload (pc := 58) C dX7_steps_58 rfl ?_
  refine J_c1 (pc := 60) C (J_rV (pc := 60) C (h8 ra2 ra3) dX7_steps_60 rfl rfl 0 rfl rfl (cwV 2 C.1.2.2.2.2 gX7_steps_X7_adds rfl rfl rfl (by decide +kernel) ⟨Nat.le_of_ble_eq_true rfl, Nat.le_of_ble_eq_true rfl⟩) hok9 (Nat.le_of_ble_eq_true rfl) ⟨Nat.le_of_ble_eq_true rfl, Nat.le_of_ble_eq_true rfl⟩) (fun E9 S9 ok9 q9 => JX_out C ok9 q9 (by decide) (by decide)) (fun rv13 S11 hr14 hok12 h10 => ?_)
  have h10 := h10 hr14 hok12
  exact J_iret (pc := 63) C dX7_steps_63 hr14 hok12 h10 (by decide) (by decide)
def rmX7_sets : Room := { frames := 0, cells := 0, slots := 0, locals := 0 }
theorem mX7_sets_f23 : Cond.fieldLink RX7 23 "StressworkModel" "one" "[I" ∈ wsX7_sets := by decide +kernel
theorem nX7_sets_X7 : ∀ x ∈ wsX70, x ∈ wsX7_sets := by decide +kernel
theorem mX7_sets_f83 : Cond.fieldLink RX7 83 "StressworkModel" "members" "I" ∈ wsX7_sets := by decide +kernel
theorem mX7_sets_f26 : Cond.fieldLink RX7 26 "StressworkModel" "other" "[I" ∈ wsX7_sets := by decide +kernel
theorem mX7_sets_f29 : Cond.fieldLink RX7 29 "StressworkModel" "kind" "[I" ∈ wsX7_sets := by decide +kernel
def M_X7_sets (a0 a1 a2 : Int) (S : St) (Qr : Int → St → Prop) (Qx : String → St → Prop) : Prop := r32 a0 → r32 a1 → r32 a2 → MM 1 wM okM yX7_sets wsX7_sets rmX7_sets (fun G => [.ref (G.2.2 0), iV a0, iV a1, iV a2]) S Qr Qx
set_option maxRecDepth 100000 in
set_option maxHeartbeats 4000000 in
theorem vc_X7_sets {a0 a1 a2 : Int} {S : St} {Qr : Int → St → Prop} {Qx : String → St → Prop} (h : r32 a0 → r32 a1 → r32 a2 → okM S → (ix (S 0 6) 40 ∧ (r32 ((S 0 6) + 1) ∧ (r32 (((S 0 6) + 1) - 1) ∧ Qr (((S 0 6) + 1) - 1) (up (up (up (up S 5 (S 0 6) a0) 6 (S 0 6) a1) 7 (S 0 6) a2) 0 6 ((S 0 6) + 1)))))) : M_X7_sets a0 a1 a2 S Qr Qx := by
  intro ra0 ra1 ra2
  refine MM_of adM (by decide +kernel) rfl (Lf := fun G => [some (.ref (G.2.2 0)), some (iV a0), some (iV a1), some (iV a2)]) (fun G => by show _ ≤ _; exact Nat.le_of_ble_eq_true rfl) (fun G => rfl) ?_
  intro p l e s m args below meth c G A C hok
  have h := h ra0 ra1 ra2 hok
  replace C : Cx wM cX7_sets 4 RX7 wsX7_sets (some .int) [] p l s m args meth c G A := C
  show J wM 4 rmX7_sets p l e s m args below meth c G A (QQ 1 wM okM G Qr Qx A below args s rmX7_sets.cells rmX7_sets.slots) 0 0 S [some (.ref (G.2.2 0)), some (iV a0), some (iV a1), some (iV a2)] [] 0
  refine J_aload_n (pc := 0) C dX7_sets_0 rfl ?_
  refine J_get (pc := 1) C dX7_sets_1 0 rfl rfl nX7_sets_X7 7 (by decide) mX7_sets_f23 rfl (v := .ref (G.2.2 5)) rfl ?_
  refine J_aload_n (pc := 4) C dX7_sets_4 rfl ?_
  refine J_get (pc := 5) C dX7_sets_5 0 rfl rfl nX7_sets_X7 6 (by decide) mX7_sets_f83 rfl (v := iV (S 0 6)) rfl ?_
  refine J_iload_n (pc := 8) C dX7_sets_8 rfl ?_
  obtain ⟨o1, h2⟩ := h
  refine J_iast (pc := 9) C dX7_sets_9 5 5 rfl (by decide) o1 (sM_5 G S (S 0 6) a0) ?_
  have hok3 := okM_up (k := 5) (j := (S 0 6)) hok (show rngM 5 a0 from ra0)
  refine J_aload_n (pc := 10) C dX7_sets_10 rfl ?_
  refine J_get (pc := 11) C dX7_sets_11 0 rfl rfl nX7_sets_X7 8 (by decide) mX7_sets_f26 rfl (v := .ref (G.2.2 6)) rfl ?_
  refine J_aload_n (pc := 14) C dX7_sets_14 rfl ?_
  refine J_get (pc := 15) C dX7_sets_15 0 rfl rfl nX7_sets_X7 6 (by decide) mX7_sets_f83 rfl (v := iV (S 0 6)) rfl ?_
  refine J_iload_n (pc := 18) C dX7_sets_18 rfl ?_
  refine J_iast (pc := 19) C dX7_sets_19 6 6 rfl (by decide) o1 (sM_6 G (up S 5 (S 0 6) a0) (S 0 6) a1) ?_
  have hok4 := okM_up (k := 6) (j := (S 0 6)) hok3 (show rngM 6 a1 from ra1)
  refine J_aload_n (pc := 20) C dX7_sets_20 rfl ?_
  refine J_get (pc := 21) C dX7_sets_21 0 rfl rfl nX7_sets_X7 9 (by decide) mX7_sets_f29 rfl (v := .ref (G.2.2 7)) rfl ?_
  refine J_aload_n (pc := 24) C dX7_sets_24 rfl ?_
  refine J_get (pc := 25) C dX7_sets_25 0 rfl rfl nX7_sets_X7 6 (by decide) mX7_sets_f83 rfl (v := iV (S 0 6)) rfl ?_
  refine J_iload_n (pc := 28) C dX7_sets_28 rfl ?_
  refine J_iast (pc := 29) C dX7_sets_29 7 7 rfl (by decide) o1 (sM_7 G (up (up S 5 (S 0 6) a0) 6 (S 0 6) a1) (S 0 6) a2) ?_
  have hok5 := okM_up (k := 7) (j := (S 0 6)) hok4 (show rngM 7 a2 from ra2)
  refine J_aload_n (pc := 30) C dX7_sets_30 rfl ?_
  refine J_dup (pc := 31) C dX7_sets_31 rfl ?_
  refine J_get (pc := 32) C dX7_sets_32 0 rfl rfl nX7_sets_X7 6 (by decide) mX7_sets_f83 rfl (v := iV (S 0 6)) rfl ?_
  refine J_iconst (pc := 35) C dX7_sets_35 ?_
  refine J_iadd (pc := 36) C dX7_sets_36 ?_
  obtain ⟨o6, h7⟩ := h2
  refine J_put (pc := 37) C dX7_sets_37 0 rfl rfl nX7_sets_X7 tyX7 tyX7_ok nmX7 6 (by decide) mX7_sets_f83 rfl rfl (v := iV ((S 0 6) + 1)) rfl rfl (Nat.le_of_ble_eq_true rfl) (sM_0_6 G (up (up (up S 5 (S 0 6) a0) 6 (S 0 6) a1) 7 (S 0 6) a2) ((S 0 6) + 1)) ?_
  have hok8 := okM_up (k := 0) (j := 6) hok5 (show rngM 0 ((S 0 6) + 1) from o6)
  refine J_aload_n (pc := 40) C dX7_sets_40 rfl ?_
  refine J_get (pc := 41) C dX7_sets_41 0 rfl rfl nX7_sets_X7 6 (by decide) mX7_sets_f83 rfl (v := iV ((S 0 6) + 1)) rfl ?_
  refine J_iconst (pc := 44) C dX7_sets_44 ?_
  refine J_isub (pc := 45) C dX7_sets_45 ?_
  obtain ⟨o9, h10⟩ := h7
  exact J_iret (pc := 46) C dX7_sets_46 o9 hok8 h10 (by decide) (by decide)
def rmX7_grow : Room := { frames := 2, cells := 0, slots := 0, locals := 46 }
theorem mX7_grow_f76 : Cond.fieldLink RX7 76 "StressworkModel" "joints" "I" ∈ wsX7_grow := by decide +kernel
theorem nX7_grow_X7 : ∀ x ∈ wsX70, x ∈ wsX7_grow := by decide +kernel
theorem mX7_grow_f83 : Cond.fieldLink RX7 83 "StressworkModel" "members" "I" ∈ wsX7_grow := by decide +kernel
def M_X7_grow (a0 a1 a2 a3 : Int) (S : St) (Qr : Int → St → Prop) (Qx : String → St → Prop) : Prop := r32 a0 → r32 a1 → r32 a2 → r32 a3 → MM 1 wM okM yX7_grow wsX7_grow rmX7_grow (fun G => [.ref (G.2.2 0), iV a0, iV a1, iV a2, iV a3]) S Qr Qx
def R_X7_grow_21 (x1 x2 x3 x4 s0 : Int) (S : St) (Qr : Int → St → Prop) (Qx : String → St → Prop) : Prop := r32 x1 → r32 x2 → r32 x3 → r32 x4 → r32 s0 → RR 1 wM okM wsX7_grow rmX7_grow cX7_grow 8 RX7 (some .int) [] 0 0 (fun G => [some (.ref (G.2.2 0)), some (iV x1), some (iV x2), some (iV x3), some (iV x4), none, none, none]) (fun G => [iV s0]) 21 S Qr Qx
def R_X7_grow_42 (x1 x2 x3 x4 x5 s0 : Int) (S : St) (Qr : Int → St → Prop) (Qx : String → St → Prop) : Prop := r32 x1 → r32 x2 → r32 x3 → r32 x4 → r32 x5 → r32 s0 → RR 1 wM okM wsX7_grow rmX7_grow cX7_grow 8 RX7 (some .int) [] 0 0 (fun G => [some (.ref (G.2.2 0)), some (iV x1), some (iV x2), some (iV x3), some (iV x4), some (iV x5), none, none]) (fun G => [iV s0]) 42 S Qr Qx
def R_X7_grow_86 (x1 x2 x3 x4 s0 : Int) (S : St) (Qr : Int → St → Prop) (Qx : String → St → Prop) : Prop := r32 x1 → r32 x2 → r32 x3 → r32 x4 → r32 s0 → RR 1 wM okM wsX7_grow rmX7_grow cX7_grow 8 RX7 (some .int) [] 0 0 (fun G => [some (.ref (G.2.2 0)), some (iV x1), some (iV x2), some (iV x3), some (iV x4), none, none, none]) (fun G => [iV s0, .ref (G.2.2 0)]) 86 S Qr Qx
set_option maxRecDepth 100000 in
set_option maxHeartbeats 4000000 in
theorem vc_X7_grow {a0 a1 a2 a3 : Int} {S : St} {Qr : Int → St → Prop} {Qx : String → St → Prop} (h : r32 a0 → r32 a1 → r32 a2 → r32 a3 → okM S → M_X7_isJoint a0 S (fun rv4 S2 => r32 rv4 → okM S2 → ((rv4 = 0 → R_X7_grow_21 a0 a1 a2 a3 0 S2 Qr Qx) ∧ (rv4 ≠ 0 → M_X7_isJoint a1 S2 (fun rv11 S9 => r32 rv11 → okM S9 → ((rv11 = 0 → R_X7_grow_21 a0 a1 a2 a3 0 S9 Qr Qx) ∧ (rv11 ≠ 0 → R_X7_grow_21 a0 a1 a2 a3 1 S9 Qr Qx))) Qx))) Qx) : M_X7_grow a0 a1 a2 a3 S Qr Qx := by
  intro ra0 ra1 ra2 ra3
  refine MM_of adM (by decide +kernel) rfl (Lf := fun G => [some (.ref (G.2.2 0)), some (iV a0), some (iV a1), some (iV a2), some (iV a3), none, none, none]) (fun G => by show _ ≤ _; exact Nat.le_of_ble_eq_true rfl) (fun G => rfl) ?_
  intro p l e s m args below meth c G A C hok
  have h := h ra0 ra1 ra2 ra3 hok
  replace C : Cx wM cX7_grow 8 RX7 wsX7_grow (some .int) [] p l s m args meth c G A := C
  show J wM 8 rmX7_grow p l e s m args below meth c G A (QQ 1 wM okM G Qr Qx A below args s rmX7_grow.cells rmX7_grow.slots) 0 0 S [some (.ref (G.2.2 0)), some (iV a0), some (iV a1), some (iV a2), some (iV a3), none, none, none] [] 0
  refine J_aload_n (pc := 0) C dX7_grow_0 rfl ?_
  refine J_iload_n (pc := 1) C dX7_grow_1 rfl ?_
  refine J_c1 (pc := 2) C (J_rV (pc := 2) C (h ra0) dX7_grow_2 rfl rfl 0 rfl rfl (cwV 1 C.1.2.2.2.2 gX7_grow_X7_isJoint rfl rfl rfl (by decide +kernel) ⟨Nat.le_of_ble_eq_true rfl, Nat.le_of_ble_eq_true rfl⟩) hok (Nat.le_of_ble_eq_true rfl) ⟨Nat.le_of_ble_eq_true rfl, Nat.le_of_ble_eq_true rfl⟩) (fun E9 S9 ok9 q9 => JX_out C ok9 q9 (by decide) (by decide)) (fun rv4 S2 hr5 hok3 h1 => ?_)
  have h1 := h1 hr5 hok3
  obtain ⟨h6, h7⟩ := h1
  refine J_if_eq (pc := 5) (tgt := 20) C dX7_grow_5 (by decide) hr5 (fun cb => ?_) (fun cb => ?_)
  · have h6 := h6 cb
    refine J_iconst (pc := 20) C dX7_grow_20 ?_
    exact J_sub (L1 := [some (.ref (G.2.2 0)), some (iV a0), some (iV a1), some (iV a2), some (iV a3), none, none, none]) ⟨rfl, ⟨rfl, ⟨rfl, ⟨rfl, ⟨rfl, trivial⟩⟩⟩⟩⟩ (h6 ra0 ra1 ra2 ra3 (by decide) p l e s m args below meth c G A C hok3)
  · have h7 := h7 cb
    refine J_aload_n (pc := 8) C dX7_grow_8 rfl ?_
    refine J_iload_n (pc := 9) C dX7_grow_9 rfl ?_
    refine J_c1 (pc := 10) C (J_rV (pc := 10) C (h7 ra1) dX7_grow_10 rfl rfl 0 rfl rfl (cwV 1 C.1.2.2.2.2 gX7_grow_X7_isJoint rfl rfl rfl (by decide +kernel) ⟨Nat.le_of_ble_eq_true rfl, Nat.le_of_ble_eq_true rfl⟩) hok3 (Nat.le_of_ble_eq_true rfl) ⟨Nat.le_of_ble_eq_true rfl, Nat.le_of_ble_eq_true rfl⟩) (fun E9 S9 ok9 q9 => JX_out C ok9 q9 (by decide) (by decide)) (fun rv11 S9 hr12 hok10 h8 => ?_)
    have h8 := h8 hr12 hok10
    obtain ⟨h13, h14⟩ := h8
    refine J_if_eq (pc := 13) (tgt := 20) C dX7_grow_13 (by decide) hr12 (fun cb => ?_) (fun cb => ?_)
    · have h13 := h13 cb
      refine J_iconst (pc := 20) C dX7_grow_20 ?_
      exact J_sub (L1 := [some (.ref (G.2.2 0)), some (iV a0), some (iV a1), some (iV a2), some (iV a3), none, none, none]) ⟨rfl, ⟨rfl, ⟨rfl, ⟨rfl, ⟨rfl, trivial⟩⟩⟩⟩⟩ (h13 ra0 ra1 ra2 ra3 (by decide) p l e s m args below meth c G A C hok10)
    · have h14 := h14 cb
      refine J_iconst (pc := 16) C dX7_grow_16 ?_
      refine J_goto (pc := 17) (tgt := 21) C dX7_grow_17 (by decide) ?_
      exact J_sub (L1 := [some (.ref (G.2.2 0)), some (iV a0), some (iV a1), some (iV a2), some (iV a3), none, none, none]) ⟨rfl, ⟨rfl, ⟨rfl, ⟨rfl, ⟨rfl, trivial⟩⟩⟩⟩⟩ (h14 ra0 ra1 ra2 ra3 (by decide) p l e s m args below meth c G A C hok10)
set_option maxRecDepth 100000 in
set_option maxHeartbeats 4000000 in
theorem vc_X7_grow_21 {x1 x2 x3 x4 s0 : Int} {S : St} {Qr : Int → St → Prop} {Qx : String → St → Prop} (h : r32 x1 → r32 x2 → r32 x3 → r32 x4 → r32 s0 → okM S → ((x1 = x2 → R_X7_grow_42 x1 x2 x3 x4 s0 0 S Qr Qx) ∧ (x1 ≠ x2 → M_X7_isPoint x3 x4 S (fun rv6 S4 => r32 rv6 → okM S4 → ((rv6 = 0 → R_X7_grow_42 x1 x2 x3 x4 s0 0 S4 Qr Qx) ∧ (rv6 ≠ 0 → R_X7_grow_42 x1 x2 x3 x4 s0 1 S4 Qr Qx))) Qx))) : R_X7_grow_21 x1 x2 x3 x4 s0 S Qr Qx := by
  intro rx1 rx2 rx3 rx4 rs0
  intro p l e s m args below meth c G A C hok
  have h := h rx1 rx2 rx3 rx4 rs0 hok
  replace C : Cx wM cX7_grow 8 RX7 wsX7_grow (some .int) [] p l s m args meth c G A := C
  show J wM 8 rmX7_grow p l e s m args below meth c G A (QQ 1 wM okM G Qr Qx A below args s rmX7_grow.cells rmX7_grow.slots) 0 0 S [some (.ref (G.2.2 0)), some (iV x1), some (iV x2), some (iV x3), some (iV x4), none, none, none] [iV s0] 21
  refine J_istore (pc := 21) C dX7_grow_21 (by decide) ?_
  refine J_iload_n (pc := 23) C dX7_grow_23 rfl ?_
  refine J_iload_n (pc := 24) C dX7_grow_24 rfl ?_
  obtain ⟨h1, h2⟩ := h
  refine J_icmp_eq (pc := 25) (tgt := 41) C dX7_grow_25 (by decide) rx1 rx2 (fun cb => ?_) (fun cb => ?_)
  · have h1 := h1 cb
    refine J_iconst (pc := 41) C dX7_grow_41 ?_
    exact J_sub (L1 := [some (.ref (G.2.2 0)), some (iV x1), some (iV x2), some (iV x3), some (iV x4), some (iV s0), none, none]) ⟨rfl, ⟨rfl, ⟨rfl, ⟨rfl, ⟨rfl, ⟨rfl, trivial⟩⟩⟩⟩⟩⟩ (h1 rx1 rx2 rx3 rx4 rs0 (by decide) p l e s m args below meth c G A C hok)
  · have h2 := h2 cb
    refine J_iload_n (pc := 28) C dX7_grow_28 rfl ?_
    refine J_iload (pc := 29) C dX7_grow_29 rfl ?_
    refine J_c1 (pc := 31) C (J_rS (pc := 31) C (h2 rx3 rx4) dX7_grow_31 rfl rfl (va_cwS 2 C.1.2.2.2.2 gX7_grow_X7_isPoint rfl rfl rfl (by decide +kernel) ⟨Nat.le_of_ble_eq_true rfl, Nat.le_of_ble_eq_true rfl⟩) hok (Nat.le_of_ble_eq_true rfl) ⟨Nat.le_of_ble_eq_true rfl, Nat.le_of_ble_eq_true rfl⟩) (fun E9 S9 ok9 q9 => JX_out C ok9 q9 (by decide) (by decide)) (fun rv6 S4 hr7 hok5 h3 => ?_)
    have h3 := h3 hr7 hok5
    obtain ⟨h8, h9⟩ := h3
    refine J_if_eq (pc := 34) (tgt := 41) C dX7_grow_34 (by decide) hr7 (fun cb => ?_) (fun cb => ?_)
    · have h8 := h8 cb
      refine J_iconst (pc := 41) C dX7_grow_41 ?_
      exact J_sub (L1 := [some (.ref (G.2.2 0)), some (iV x1), some (iV x2), some (iV x3), some (iV x4), some (iV s0), none, none]) ⟨rfl, ⟨rfl, ⟨rfl, ⟨rfl, ⟨rfl, ⟨rfl, trivial⟩⟩⟩⟩⟩⟩ (h8 rx1 rx2 rx3 rx4 rs0 (by decide) p l e s m args below meth c G A C hok5)
    · have h9 := h9 cb
      refine J_iconst (pc := 37) C dX7_grow_37 ?_
      refine J_goto (pc := 38) (tgt := 42) C dX7_grow_38 (by decide) ?_
      exact J_sub (L1 := [some (.ref (G.2.2 0)), some (iV x1), some (iV x2), some (iV x3), some (iV x4), some (iV s0), none, none]) ⟨rfl, ⟨rfl, ⟨rfl, ⟨rfl, ⟨rfl, ⟨rfl, trivial⟩⟩⟩⟩⟩⟩ (h9 rx1 rx2 rx3 rx4 rs0 (by decide) p l e s m args below meth c G A C hok5)
set_option maxRecDepth 100000 in
set_option maxHeartbeats 4000000 in
theorem vc_X7_grow_42 {x1 x2 x3 x4 x5 s0 : Int} {S : St} {Qr : Int → St → Prop} {Qx : String → St → Prop} (h : r32 x1 → r32 x2 → r32 x3 → r32 x4 → r32 x5 → r32 s0 → okM S → ((x5 ≠ 0 → ((s0 ≠ 0 → (((S 0 1) = 10 → R_X7_grow_86 x1 x2 x3 x4 3 S Qr Qx) ∧ ((S 0 1) ≠ 10 → (((S 0 6) ≤ 38 → R_X7_grow_86 x1 x2 x3 x4 0 S Qr Qx) ∧ (38 < (S 0 6) → R_X7_grow_86 x1 x2 x3 x4 3 S Qr Qx))))) ∧ (s0 = 0 → R_X7_grow_86 x1 x2 x3 x4 2 S Qr Qx))) ∧ (x5 = 0 → R_X7_grow_86 x1 x2 x3 x4 1 S Qr Qx))) : R_X7_grow_42 x1 x2 x3 x4 x5 s0 S Qr Qx := by
  intro rx1 rx2 rx3 rx4 rx5 rs0
  intro p l e s m args below meth c G A C hok
  have h := h rx1 rx2 rx3 rx4 rx5 rs0 hok
  replace C : Cx wM cX7_grow 8 RX7 wsX7_grow (some .int) [] p l s m args meth c G A := C
  show J wM 8 rmX7_grow p l e s m args below meth c G A (QQ 1 wM okM G Qr Qx A below args s rmX7_grow.cells rmX7_grow.slots) 0 0 S [some (.ref (G.2.2 0)), some (iV x1), some (iV x2), some (iV x3), some (iV x4), some (iV x5), none, none] [iV s0] 42
  refine J_istore (pc := 42) C dX7_grow_42 (by decide) ?_
  refine J_aload_n (pc := 44) C dX7_grow_44 rfl ?_
  refine J_iload (pc := 45) C dX7_grow_45 rfl ?_
  obtain ⟨h1, h2⟩ := h
  refine J_if_ne (pc := 47) (tgt := 54) C dX7_grow_47 (by decide) rx5 (fun cb => ?_) (fun cb => ?_)
  · have h1 := h1 cb
    refine J_iload (pc := 54) C dX7_grow_54 rfl ?_
    obtain ⟨h3, h4⟩ := h1
    refine J_if_ne (pc := 56) (tgt := 63) C dX7_grow_56 (by decide) rs0 (fun cb => ?_) (fun cb => ?_)
    · have h3 := h3 cb
      refine J_aload_n (pc := 63) C dX7_grow_63 rfl ?_
      refine J_get (pc := 64) C dX7_grow_64 0 rfl rfl nX7_grow_X7 1 (by decide) mX7_grow_f76 rfl (v := iV (S 0 1)) rfl ?_
      refine J_bipush (pc := 67) C dX7_grow_67 (by decide) ?_
      obtain ⟨h5, h6⟩ := h3
      refine J_icmp_eq (pc := 69) (tgt := 81) C dX7_grow_69 (by decide) (hok 0 1) (by decide) (fun cb => ?_) (fun cb => ?_)
      · have h5 := h5 cb
        refine J_iconst (pc := 81) C dX7_grow_81 ?_
        refine J_goto (pc := 82) (tgt := 86) C dX7_grow_82 (by decide) ?_
        exact J_sub (L1 := [some (.ref (G.2.2 0)), some (iV x1), some (iV x2), some (iV x3), some (iV x4), none, none, none]) ⟨rfl, ⟨rfl, ⟨rfl, ⟨rfl, ⟨rfl, trivial⟩⟩⟩⟩⟩ (h5 rx1 rx2 rx3 rx4 (by decide) p l e s m args below meth c G A C hok)
      · have h6 := h6 cb
        refine J_aload_n (pc := 72) C dX7_grow_72 rfl ?_
        refine J_get (pc := 73) C dX7_grow_73 0 rfl rfl nX7_grow_X7 6 (by decide) mX7_grow_f83 rfl (v := iV (S 0 6)) rfl ?_
        refine J_bipush (pc := 76) C dX7_grow_76 (by decide) ?_
        obtain ⟨h7, h8⟩ := h6
        refine J_icmp_le (pc := 78) (tgt := 85) C dX7_grow_78 (by decide) (hok 0 6) (by decide) (fun cb => ?_) (fun cb => ?_)
        · have h7 := h7 cb
          refine J_iconst (pc := 85) C dX7_grow_85 ?_
          exact J_sub (L1 := [some (.ref (G.2.2 0)), some (iV x1), some (iV x2), some (iV x3), some (iV x4), none, none, none]) ⟨rfl, ⟨rfl, ⟨rfl, ⟨rfl, ⟨rfl, trivial⟩⟩⟩⟩⟩ (h7 rx1 rx2 rx3 rx4 (by decide) p l e s m args below meth c G A C hok)
        · have h8 := h8 cb
          refine J_iconst (pc := 81) C dX7_grow_81 ?_
          refine J_goto (pc := 82) (tgt := 86) C dX7_grow_82 (by decide) ?_
          exact J_sub (L1 := [some (.ref (G.2.2 0)), some (iV x1), some (iV x2), some (iV x3), some (iV x4), none, none, none]) ⟨rfl, ⟨rfl, ⟨rfl, ⟨rfl, ⟨rfl, trivial⟩⟩⟩⟩⟩ (h8 rx1 rx2 rx3 rx4 (by decide) p l e s m args below meth c G A C hok)
    · have h4 := h4 cb
      refine J_iconst (pc := 59) C dX7_grow_59 ?_
      refine J_goto (pc := 60) (tgt := 86) C dX7_grow_60 (by decide) ?_
      exact J_sub (L1 := [some (.ref (G.2.2 0)), some (iV x1), some (iV x2), some (iV x3), some (iV x4), none, none, none]) ⟨rfl, ⟨rfl, ⟨rfl, ⟨rfl, ⟨rfl, trivial⟩⟩⟩⟩⟩ (h4 rx1 rx2 rx3 rx4 (by decide) p l e s m args below meth c G A C hok)
  · have h2 := h2 cb
    refine J_iconst (pc := 50) C dX7_grow_50 ?_
    refine J_goto (pc := 51) (tgt := 86) C dX7_grow_51 (by decide) ?_
    exact J_sub (L1 := [some (.ref (G.2.2 0)), some (iV x1), some (iV x2), some (iV x3), some (iV x4), none, none, none]) ⟨rfl, ⟨rfl, ⟨rfl, ⟨rfl, ⟨rfl, trivial⟩⟩⟩⟩⟩ (h2 rx1 rx2 rx3 rx4 (by decide) p l e s m args below meth c G A C hok)
set_option maxRecDepth 100000 in
set_option maxHeartbeats 4000000 in
theorem vc_X7_grow_86 {x1 x2 x3 x4 s0 : Int} {S : St} {Qr : Int → St → Prop} {Qx : String → St → Prop} (h : r32 x1 → r32 x2 → r32 x3 → r32 x4 → r32 s0 → okM S → M_X7_holds s0 S (fun rv4 S2 => r32 rv4 → okM S2 → ((rv4 ≠ 0 → M_X7_steps 2 (-1) x3 x4 S2 (fun rv11 S9 => r32 rv11 → okM S9 → M_X7_sets x1 rv11 0 S9 (fun rv16 S14 => r32 rv16 → okM S14 → M_X7_sets x2 rv11 0 S14 (fun rv21 S19 => r32 rv21 → okM S19 → Qr rv11 S19) Qx) Qx) Qx) ∧ (rv4 = 0 → Qr 0 S2))) Qx) : R_X7_grow_86 x1 x2 x3 x4 s0 S Qr Qx := by
  intro rx1 rx2 rx3 rx4 rs0
  intro p l e s m args below meth c G A C hok
  have h := h rx1 rx2 rx3 rx4 rs0 hok
  replace C : Cx wM cX7_grow 8 RX7 wsX7_grow (some .int) [] p l s m args meth c G A := C
  show J wM 8 rmX7_grow p l e s m args below meth c G A (QQ 1 wM okM G Qr Qx A below args s rmX7_grow.cells rmX7_grow.slots) 0 0 S [some (.ref (G.2.2 0)), some (iV x1), some (iV x2), some (iV x3), some (iV x4), none, none, none] [iV s0, .ref (G.2.2 0)] 86
  refine J_c1 (pc := 86) C (J_rV (pc := 86) C (h rs0) dX7_grow_86 rfl rfl 0 rfl rfl (cwV 1 C.1.2.2.2.2 gX7_grow_X7_holds rfl rfl rfl (by decide +kernel) ⟨Nat.le_of_ble_eq_true rfl, Nat.le_of_ble_eq_true rfl⟩) hok (Nat.le_of_ble_eq_true rfl) ⟨Nat.le_of_ble_eq_true rfl, Nat.le_of_ble_eq_true rfl⟩) (fun E9 S9 ok9 q9 => JX_out C ok9 q9 (by decide) (by decide)) (fun rv4 S2 hr5 hok3 h1 => ?_)
  have h1 := h1 hr5 hok3
  obtain ⟨h6, h7⟩ := h1
  refine J_if_ne (pc := 89) (tgt := 94) C dX7_grow_89 (by decide) hr5 (fun cb => ?_) (fun cb => ?_)
  · have h6 := h6 cb
    refine J_aload_n (pc := 94) C dX7_grow_94 rfl ?_
    refine J_iconst (pc := 95) C dX7_grow_95 ?_
    refine J_iconst (pc := 96) C dX7_grow_96 ?_
    refine J_iload_n (pc := 97) C dX7_grow_97 rfl ?_
    refine J_iload (pc := 98) C dX7_grow_98 rfl ?_
    refine J_c1 (pc := 100) C (J_rV (pc := 100) C (h6 (by decide) (by decide) rx3 rx4) dX7_grow_100 rfl rfl 0 rfl rfl (cwV 4 C.1.2.2.2.2 gX7_grow_X7_steps rfl rfl rfl (by decide +kernel) ⟨Nat.le_of_ble_eq_true rfl, Nat.le_of_ble_eq_true rfl⟩) hok3 (Nat.le_of_ble_eq_true rfl) ⟨Nat.le_of_ble_eq_true rfl, Nat.le_of_ble_eq_true rfl⟩) (fun E9 S9 ok9 q9 => JX_out C ok9 q9 (by decide) (by decide)) (fun rv11 S9 hr12 hok10 h8 => ?_)
    have h8 := h8 hr12 hok10
    refine J_istore (pc := 103) C dX7_grow_103 (by decide) ?_
    refine J_aload_n (pc := 105) C dX7_grow_105 rfl ?_
    refine J_iload_n (pc := 106) C dX7_grow_106 rfl ?_
    refine J_iload (pc := 107) C dX7_grow_107 rfl ?_
    refine J_iconst (pc := 109) C dX7_grow_109 ?_
    refine J_c1 (pc := 110) C (J_rV (pc := 110) C (h8 rx1 hr12 (by decide)) dX7_grow_110 rfl rfl 0 rfl rfl (cwV 3 C.1.2.2.2.2 gX7_grow_X7_sets rfl rfl rfl (by decide +kernel) ⟨Nat.le_of_ble_eq_true rfl, Nat.le_of_ble_eq_true rfl⟩) hok10 (Nat.le_of_ble_eq_true rfl) ⟨Nat.le_of_ble_eq_true rfl, Nat.le_of_ble_eq_true rfl⟩) (fun E9 S9 ok9 q9 => JX_out C ok9 q9 (by decide) (by decide)) (fun rv16 S14 hr17 hok15 h13 => ?_)
    have h13 := h13 hr17 hok15
    refine J_pop (pc := 113) C dX7_grow_113 rfl ?_
    refine J_aload_n (pc := 114) C dX7_grow_114 rfl ?_
    refine J_iload_n (pc := 115) C dX7_grow_115 rfl ?_
    refine J_iload (pc := 116) C dX7_grow_116 rfl ?_
    refine J_iconst (pc := 118) C dX7_grow_118 ?_
    refine J_c1 (pc := 119) C (J_rV (pc := 119) C (h13 rx2 hr12 (by decide)) dX7_grow_119 rfl rfl 0 rfl rfl (cwV 3 C.1.2.2.2.2 gX7_grow_X7_sets rfl rfl rfl (by decide +kernel) ⟨Nat.le_of_ble_eq_true rfl, Nat.le_of_ble_eq_true rfl⟩) hok15 (Nat.le_of_ble_eq_true rfl) ⟨Nat.le_of_ble_eq_true rfl, Nat.le_of_ble_eq_true rfl⟩) (fun E9 S9 ok9 q9 => JX_out C ok9 q9 (by decide) (by decide)) (fun rv21 S19 hr22 hok20 h18 => ?_)
    have h18 := h18 hr22 hok20
    refine J_pop (pc := 122) C dX7_grow_122 rfl ?_
    refine J_iload (pc := 123) C dX7_grow_123 rfl ?_
    exact J_iret (pc := 125) C dX7_grow_125 hr12 hok20 h18 (by decide) (by decide)
  · have h7 := h7 cb
    refine J_iconst (pc := 92) C dX7_grow_92 ?_
    exact J_iret (pc := 93) C dX7_grow_93 (by decide) hok3 h7 (by decide) (by decide)
def rmX7_isBalanced : Room := { frames := 0, cells := 0, slots := 0, locals := 0 }
theorem mX7_isBalanced_f83 : Cond.fieldLink RX7 83 "StressworkModel" "members" "I" ∈ wsX7_isBalanced := by decide +kernel
theorem nX7_isBalanced_X7 : ∀ x ∈ wsX70, x ∈ wsX7_isBalanced := by decide +kernel
theorem mX7_isBalanced_f35 : Cond.fieldLink RX7 35 "StressworkModel" "isGone" "[Z" ∈ wsX7_isBalanced := by decide +kernel
theorem mX7_isBalanced_f23 : Cond.fieldLink RX7 23 "StressworkModel" "one" "[I" ∈ wsX7_isBalanced := by decide +kernel
theorem mX7_isBalanced_f26 : Cond.fieldLink RX7 26 "StressworkModel" "other" "[I" ∈ wsX7_isBalanced := by decide +kernel
theorem mX7_isBalanced_f32 : Cond.fieldLink RX7 32 "StressworkModel" "stress" "[I" ∈ wsX7_isBalanced := by decide +kernel
theorem mX7_isBalanced_f13 : Cond.fieldLink RX7 13 "StressworkModel" "y" "[I" ∈ wsX7_isBalanced := by decide +kernel
theorem mX7_isBalanced_f7 : Cond.fieldLink RX7 7 "StressworkModel" "x" "[I" ∈ wsX7_isBalanced := by decide +kernel
def M_X7_isBalanced (a0 : Int) (S : St) (Qr : Int → St → Prop) (Qx : String → St → Prop) : Prop := r32 a0 → MM 1 wM okM yX7_isBalanced wsX7_isBalanced rmX7_isBalanced (fun G => [.ref (G.2.2 0), iV a0]) S Qr Qx
def R_X7_isBalanced_7 (x1 x2 x3 x4 : Int) (S : St) (Qr : Int → St → Prop) (Qx : String → St → Prop) : Prop := r32 x1 → r32 x2 → r32 x3 → r32 x4 → RR 1 wM okM wsX7_isBalanced rmX7_isBalanced cX7_isBalanced 7 RX7 (some .boolean) [] 0 0 (fun G => [some (.ref (G.2.2 0)), some (iV x1), some (iV x2), some (iV x3), some (iV x4), none, none]) (fun G => []) 7 S Qr Qx
def R_X7_isBalanced_53 (x1 x2 x3 x4 s0 : Int) (S : St) (Qr : Int → St → Prop) (Qx : String → St → Prop) : Prop := r32 x1 → r32 x2 → r32 x3 → r32 x4 → r32 s0 → RR 1 wM okM wsX7_isBalanced rmX7_isBalanced cX7_isBalanced 7 RX7 (some .boolean) [] 0 0 (fun G => [some (.ref (G.2.2 0)), some (iV x1), some (iV x2), some (iV x3), some (iV x4), none, none]) (fun G => [iV s0]) 53 S Qr Qx
def R_X7_isBalanced_83 (x1 x2 x3 x4 x5 s0 : Int) (S : St) (Qr : Int → St → Prop) (Qx : String → St → Prop) : Prop := r32 x1 → r32 x2 → r32 x3 → r32 x4 → r32 x5 → r32 s0 → RR 1 wM okM wsX7_isBalanced rmX7_isBalanced cX7_isBalanced 7 RX7 (some .boolean) [] 0 0 (fun G => [some (.ref (G.2.2 0)), some (iV x1), some (iV x2), some (iV x3), some (iV x4), some (iV x5), none]) (fun G => [iV s0]) 83 S Qr Qx
set_option maxRecDepth 100000 in
set_option maxHeartbeats 4000000 in
theorem vc_X7_isBalanced {a0 : Int} {S : St} {Qr : Int → St → Prop} {Qx : String → St → Prop} (h : r32 a0 → okM S → R_X7_isBalanced_7 a0 0 0 0 S Qr Qx) : M_X7_isBalanced a0 S Qr Qx := by
  intro ra0
  refine MM_of adM (by decide +kernel) rfl (Lf := fun G => [some (.ref (G.2.2 0)), some (iV a0), none, none, none, none, none]) (fun G => by show _ ≤ _; exact Nat.le_of_ble_eq_true rfl) (fun G => rfl) ?_
  intro p l e s m args below meth c G A C hok
  have h := h ra0 hok
  replace C : Cx wM cX7_isBalanced 7 RX7 wsX7_isBalanced (some .boolean) [] p l s m args meth c G A := C
  show J wM 7 rmX7_isBalanced p l e s m args below meth c G A (QQ 1 wM okM G Qr Qx A below args s rmX7_isBalanced.cells rmX7_isBalanced.slots) 0 0 S [some (.ref (G.2.2 0)), some (iV a0), none, none, none, none, none] [] 0
  refine J_iconst (pc := 0) C dX7_isBalanced_0 ?_
  refine J_istore_n (pc := 1) C dX7_isBalanced_1 (by decide) ?_
  refine J_iconst (pc := 2) C dX7_isBalanced_2 ?_
  refine J_istore_n (pc := 3) C dX7_isBalanced_3 (by decide) ?_
  refine J_iconst (pc := 4) C dX7_isBalanced_4 ?_
  refine J_istore (pc := 5) C dX7_isBalanced_5 (by decide) ?_
  exact J_sub (L1 := [some (.ref (G.2.2 0)), some (iV a0), some (iV 0), some (iV 0), some (iV 0), none, none]) ⟨rfl, ⟨rfl, ⟨rfl, ⟨rfl, ⟨rfl, trivial⟩⟩⟩⟩⟩ (h ra0 (by decide) (by decide) (by decide) p l e s m args below meth c G A C hok)
set_option maxRecDepth 100000 in
set_option maxHeartbeats 4000000 in
theorem vc_X7_isBalanced_7 {x1 x2 x3 x4 : Int} {S : St} {Qr : Int → St → Prop} {Qx : String → St → Prop} (h : r32 x1 → r32 x2 → r32 x3 → r32 x4 → okM S → (((S 0 6) ≤ x4 → ((x2 ≠ 0 → Qr 0 S) ∧ (x2 = 0 → ((x3 ≠ 0 → Qr 0 S) ∧ (x3 = 0 → Qr 1 S))))) ∧ (x4 < (S 0 6) → (ix x4 40 ∧ (((S 9 x4) ≠ 0 → R_X7_isBalanced_53 x1 x2 x3 x4 0 S Qr Qx) ∧ ((S 9 x4) = 0 → (((S 5 x4) = x1 → R_X7_isBalanced_53 x1 x2 x3 x4 1 S Qr Qx) ∧ ((S 5 x4) ≠ x1 → (((S 6 x4) ≠ x1 → R_X7_isBalanced_53 x1 x2 x3 x4 0 S Qr Qx) ∧ ((S 6 x4) = x1 → R_X7_isBalanced_53 x1 x2 x3 x4 1 S Qr Qx)))))))))) : R_X7_isBalanced_7 x1 x2 x3 x4 S Qr Qx := by
  intro rx1 rx2 rx3 rx4
  intro p l e s m args below meth c G A C hok
  have h := h rx1 rx2 rx3 rx4 hok
  replace C : Cx wM cX7_isBalanced 7 RX7 wsX7_isBalanced (some .boolean) [] p l s m args meth c G A := C
  show J wM 7 rmX7_isBalanced p l e s m args below meth c G A (QQ 1 wM okM G Qr Qx A below args s rmX7_isBalanced.cells rmX7_isBalanced.slots) 0 0 S [some (.ref (G.2.2 0)), some (iV x1), some (iV x2), some (iV x3), some (iV x4), none, none] [] 7
  refine J_iload (pc := 7) C dX7_isBalanced_7 rfl ?_
  refine J_aload_n (pc := 9) C dX7_isBalanced_9 rfl ?_
  refine J_get (pc := 10) C dX7_isBalanced_10 0 rfl rfl nX7_isBalanced_X7 6 (by decide) mX7_isBalanced_f83 rfl (v := iV (S 0 6)) rfl ?_
  obtain ⟨h1, h2⟩ := h
  refine J_icmp_ge (pc := 13) (tgt := 159) C dX7_isBalanced_13 (by decide) rx4 (hok 0 6) (fun cb => ?_) (fun cb => ?_)
  · have h1 := h1 cb
    refine J_iload_n (pc := 159) C dX7_isBalanced_159 rfl ?_
    obtain ⟨h3, h4⟩ := h1
    refine J_if_ne (pc := 160) (tgt := 171) C dX7_isBalanced_160 (by decide) rx2 (fun cb => ?_) (fun cb => ?_)
    · have h3 := h3 cb
      refine J_iconst (pc := 171) C dX7_isBalanced_171 ?_
      exact J_zret (pc := 172) C dX7_isBalanced_172 (by decide) hok h3 (by decide) (by decide)
    · have h4 := h4 cb
      refine J_iload_n (pc := 163) C dX7_isBalanced_163 rfl ?_
      obtain ⟨h5, h6⟩ := h4
      refine J_if_ne (pc := 164) (tgt := 171) C dX7_isBalanced_164 (by decide) rx3 (fun cb => ?_) (fun cb => ?_)
      · have h5 := h5 cb
        refine J_iconst (pc := 171) C dX7_isBalanced_171 ?_
        exact J_zret (pc := 172) C dX7_isBalanced_172 (by decide) hok h5 (by decide) (by decide)
      · have h6 := h6 cb
        refine J_iconst (pc := 167) C dX7_isBalanced_167 ?_
        refine J_goto (pc := 168) (tgt := 172) C dX7_isBalanced_168 (by decide) ?_
        exact J_zret (pc := 172) C dX7_isBalanced_172 (by decide) hok h6 (by decide) (by decide)
  · have h2 := h2 cb
    refine J_aload_n (pc := 16) C dX7_isBalanced_16 rfl ?_
    refine J_get (pc := 17) C dX7_isBalanced_17 0 rfl rfl nX7_isBalanced_X7 11 (by decide) mX7_isBalanced_f35 rfl (v := .ref (G.2.2 9)) rfl ?_
    refine J_iload (pc := 20) C dX7_isBalanced_20 rfl ?_
    obtain ⟨o7, h8⟩ := h2
    refine J_zald (pc := 22) C dX7_isBalanced_22 9 9 rfl (by decide) o7 ?_
    obtain ⟨h9, h10⟩ := h8
    refine J_if_ne (pc := 23) (tgt := 52) C dX7_isBalanced_23 (by decide) (r01 (hok 9 x4)) (fun cb => ?_) (fun cb => ?_)
    · have h9 := h9 cb
      refine J_iconst (pc := 52) C dX7_isBalanced_52 ?_
      exact J_sub (L1 := [some (.ref (G.2.2 0)), some (iV x1), some (iV x2), some (iV x3), some (iV x4), none, none]) ⟨rfl, ⟨rfl, ⟨rfl, ⟨rfl, ⟨rfl, trivial⟩⟩⟩⟩⟩ (h9 rx1 rx2 rx3 rx4 (by decide) p l e s m args below meth c G A C hok)
    · have h10 := h10 cb
      refine J_aload_n (pc := 26) C dX7_isBalanced_26 rfl ?_
      refine J_get (pc := 27) C dX7_isBalanced_27 0 rfl rfl nX7_isBalanced_X7 7 (by decide) mX7_isBalanced_f23 rfl (v := .ref (G.2.2 5)) rfl ?_
      refine J_iload (pc := 30) C dX7_isBalanced_30 rfl ?_
      refine J_iald (pc := 32) C dX7_isBalanced_32 5 5 rfl (by decide) o7 ?_
      refine J_iload_n (pc := 33) C dX7_isBalanced_33 rfl ?_
      obtain ⟨h11, h12⟩ := h10
      refine J_icmp_eq (pc := 34) (tgt := 48) C dX7_isBalanced_34 (by decide) (hok 5 x4) rx1 (fun cb => ?_) (fun cb => ?_)
      · have h11 := h11 cb
        refine J_iconst (pc := 48) C dX7_isBalanced_48 ?_
        refine J_goto (pc := 49) (tgt := 53) C dX7_isBalanced_49 (by decide) ?_
        exact J_sub (L1 := [some (.ref (G.2.2 0)), some (iV x1), some (iV x2), some (iV x3), some (iV x4), none, none]) ⟨rfl, ⟨rfl, ⟨rfl, ⟨rfl, ⟨rfl, trivial⟩⟩⟩⟩⟩ (h11 rx1 rx2 rx3 rx4 (by decide) p l e s m args below meth c G A C hok)
      · have h12 := h12 cb
        refine J_aload_n (pc := 37) C dX7_isBalanced_37 rfl ?_
        refine J_get (pc := 38) C dX7_isBalanced_38 0 rfl rfl nX7_isBalanced_X7 8 (by decide) mX7_isBalanced_f26 rfl (v := .ref (G.2.2 6)) rfl ?_
        refine J_iload (pc := 41) C dX7_isBalanced_41 rfl ?_
        refine J_iald (pc := 43) C dX7_isBalanced_43 6 6 rfl (by decide) o7 ?_
        refine J_iload_n (pc := 44) C dX7_isBalanced_44 rfl ?_
        obtain ⟨h13, h14⟩ := h12
        refine J_icmp_ne (pc := 45) (tgt := 52) C dX7_isBalanced_45 (by decide) (hok 6 x4) rx1 (fun cb => ?_) (fun cb => ?_)
        · have h13 := h13 cb
          refine J_iconst (pc := 52) C dX7_isBalanced_52 ?_
          exact J_sub (L1 := [some (.ref (G.2.2 0)), some (iV x1), some (iV x2), some (iV x3), some (iV x4), none, none]) ⟨rfl, ⟨rfl, ⟨rfl, ⟨rfl, ⟨rfl, trivial⟩⟩⟩⟩⟩ (h13 rx1 rx2 rx3 rx4 (by decide) p l e s m args below meth c G A C hok)
        · have h14 := h14 cb
          refine J_iconst (pc := 48) C dX7_isBalanced_48 ?_
          refine J_goto (pc := 49) (tgt := 53) C dX7_isBalanced_49 (by decide) ?_
          exact J_sub (L1 := [some (.ref (G.2.2 0)), some (iV x1), some (iV x2), some (iV x3), some (iV x4), none, none]) ⟨rfl, ⟨rfl, ⟨rfl, ⟨rfl, ⟨rfl, trivial⟩⟩⟩⟩⟩ (h14 rx1 rx2 rx3 rx4 (by decide) p l e s m args below meth c G A C hok)
set_option maxRecDepth 100000 in
set_option maxHeartbeats 4000000 in
theorem vc_X7_isBalanced_53 {x1 x2 x3 x4 s0 : Int} {S : St} {Qr : Int → St → Prop} {Qx : String → St → Prop} (h : r32 x1 → r32 x2 → r32 x3 → r32 x4 → r32 s0 → okM S → (ix x4 40 ∧ (((S 5 x4) ≠ x1 → R_X7_isBalanced_83 x1 x2 x3 x4 s0 (S 5 x4) S Qr Qx) ∧ ((S 5 x4) = x1 → R_X7_isBalanced_83 x1 x2 x3 x4 s0 (S 6 x4) S Qr Qx)))) : R_X7_isBalanced_53 x1 x2 x3 x4 s0 S Qr Qx := by
  intro rx1 rx2 rx3 rx4 rs0
  intro p l e s m args below meth c G A C hok
  have h := h rx1 rx2 rx3 rx4 rs0 hok
  replace C : Cx wM cX7_isBalanced 7 RX7 wsX7_isBalanced (some .boolean) [] p l s m args meth c G A := C
  show J wM 7 rmX7_isBalanced p l e s m args below meth c G A (QQ 1 wM okM G Qr Qx A below args s rmX7_isBalanced.cells rmX7_isBalanced.slots) 0 0 S [some (.ref (G.2.2 0)), some (iV x1), some (iV x2), some (iV x3), some (iV x4), none, none] [iV s0] 53
  refine J_istore (pc := 53) C dX7_isBalanced_53 (by decide) ?_
  refine J_aload_n (pc := 55) C dX7_isBalanced_55 rfl ?_
  refine J_get (pc := 56) C dX7_isBalanced_56 0 rfl rfl nX7_isBalanced_X7 7 (by decide) mX7_isBalanced_f23 rfl (v := .ref (G.2.2 5)) rfl ?_
  refine J_iload (pc := 59) C dX7_isBalanced_59 rfl ?_
  obtain ⟨o1, h2⟩ := h
  refine J_iald (pc := 61) C dX7_isBalanced_61 5 5 rfl (by decide) o1 ?_
  refine J_iload_n (pc := 62) C dX7_isBalanced_62 rfl ?_
  obtain ⟨h3, h4⟩ := h2
  refine J_icmp_ne (pc := 63) (tgt := 76) C dX7_isBalanced_63 (by decide) (hok 5 x4) rx1 (fun cb => ?_) (fun cb => ?_)
  · have h3 := h3 cb
    refine J_aload_n (pc := 76) C dX7_isBalanced_76 rfl ?_
    refine J_get (pc := 77) C dX7_isBalanced_77 0 rfl rfl nX7_isBalanced_X7 7 (by decide) mX7_isBalanced_f23 rfl (v := .ref (G.2.2 5)) rfl ?_
    refine J_iload (pc := 80) C dX7_isBalanced_80 rfl ?_
    refine J_iald (pc := 82) C dX7_isBalanced_82 5 5 rfl (by decide) o1 ?_
    exact J_sub (L1 := [some (.ref (G.2.2 0)), some (iV x1), some (iV x2), some (iV x3), some (iV x4), some (iV s0), none]) ⟨rfl, ⟨rfl, ⟨rfl, ⟨rfl, ⟨rfl, ⟨rfl, trivial⟩⟩⟩⟩⟩⟩ (h3 rx1 rx2 rx3 rx4 rs0 (hok 5 x4) p l e s m args below meth c G A C hok)
  · have h4 := h4 cb
    refine J_aload_n (pc := 66) C dX7_isBalanced_66 rfl ?_
    refine J_get (pc := 67) C dX7_isBalanced_67 0 rfl rfl nX7_isBalanced_X7 8 (by decide) mX7_isBalanced_f26 rfl (v := .ref (G.2.2 6)) rfl ?_
    refine J_iload (pc := 70) C dX7_isBalanced_70 rfl ?_
    refine J_iald (pc := 72) C dX7_isBalanced_72 6 6 rfl (by decide) o1 ?_
    refine J_goto (pc := 73) (tgt := 83) C dX7_isBalanced_73 (by decide) ?_
    exact J_sub (L1 := [some (.ref (G.2.2 0)), some (iV x1), some (iV x2), some (iV x3), some (iV x4), some (iV s0), none]) ⟨rfl, ⟨rfl, ⟨rfl, ⟨rfl, ⟨rfl, ⟨rfl, trivial⟩⟩⟩⟩⟩⟩ (h4 rx1 rx2 rx3 rx4 rs0 (hok 6 x4) p l e s m args below meth c G A C hok)
set_option maxRecDepth 100000 in
set_option maxHeartbeats 4000000 in
theorem vc_X7_isBalanced_83 {x1 x2 x3 x4 x5 s0 : Int} {S : St} {Qr : Int → St → Prop} {Qx : String → St → Prop} (h : r32 x1 → r32 x2 → r32 x3 → r32 x4 → r32 x5 → r32 s0 → okM S → ((x5 = 0 → ((x5 = 0 → (r32 (x2 + 0) ∧ (r32 (x3 + 0) ∧ (r32 (x4 + 1) ∧ R_X7_isBalanced_7 x1 (x2 + 0) (x3 + 0) (x4 + 1) S Qr Qx)))) ∧ (x5 ≠ 0 → (ix x4 40 ∧ (ix s0 10 ∧ (ix x1 10 ∧ (r32 (x2 + 0) ∧ (r32 (x3 + ((S 8 x4) * ((S 2 s0) - (S 2 x1)))) ∧ (r32 (x4 + 1) ∧ R_X7_isBalanced_7 x1 (x2 + 0) (x3 + ((S 8 x4) * ((S 2 s0) - (S 2 x1)))) (x4 + 1) S Qr Qx))))))))) ∧ (x5 ≠ 0 → (ix x4 40 ∧ (ix s0 10 ∧ (ix x1 10 ∧ ((x5 = 0 → (r32 (x2 + ((S 8 x4) * ((S 1 s0) - (S 1 x1)))) ∧ (r32 (x3 + 0) ∧ (r32 (x4 + 1) ∧ R_X7_isBalanced_7 x1 (x2 + ((S 8 x4) * ((S 1 s0) - (S 1 x1)))) (x3 + 0) (x4 + 1) S Qr Qx)))) ∧ (x5 ≠ 0 → (r32 (x2 + ((S 8 x4) * ((S 1 s0) - (S 1 x1)))) ∧ (r32 (x3 + ((S 8 x4) * ((S 2 s0) - (S 2 x1)))) ∧ (r32 (x4 + 1) ∧ R_X7_isBalanced_7 x1 (x2 + ((S 8 x4) * ((S 1 s0) - (S 1 x1)))) (x3 + ((S 8 x4) * ((S 2 s0) - (S 2 x1)))) (x4 + 1) S Qr Qx))))))))))) : R_X7_isBalanced_83 x1 x2 x3 x4 x5 s0 S Qr Qx := by
  intro rx1 rx2 rx3 rx4 rx5 rs0
  intro p l e s m args below meth c G A C hok
  have h := h rx1 rx2 rx3 rx4 rx5 rs0 hok
  replace C : Cx wM cX7_isBalanced 7 RX7 wsX7_isBalanced (some .boolean) [] p l s m args meth c G A := C
  show J wM 7 rmX7_isBalanced p l e s m args below meth c G A (QQ 1 wM okM G Qr Qx A below args s rmX7_isBalanced.cells rmX7_isBalanced.slots) 0 0 S [some (.ref (G.2.2 0)), some (iV x1), some (iV x2), some (iV x3), some (iV x4), some (iV x5), none] [iV s0] 83
  refine J_istore (pc := 83) C dX7_isBalanced_83 (by decide) ?_
  refine J_iload_n (pc := 85) C dX7_isBalanced_85 rfl ?_
  refine J_iload (pc := 86) C dX7_isBalanced_86 rfl ?_
  obtain ⟨h1, h2⟩ := h
  refine J_if_eq (pc := 88) (tgt := 116) C dX7_isBalanced_88 (by decide) rx5 (fun cb => ?_) (fun cb => ?_)
  · have h1 := h1 cb
    refine J_iconst (pc := 116) C dX7_isBalanced_116 ?_
    refine J_iadd (pc := 117) C dX7_isBalanced_117 ?_
    refine J_istore_n (pc := 118) C dX7_isBalanced_118 (by decide) ?_
    refine J_iload_n (pc := 119) C dX7_isBalanced_119 rfl ?_
    refine J_iload (pc := 120) C dX7_isBalanced_120 rfl ?_
    obtain ⟨h3, h4⟩ := h1
    refine J_if_eq (pc := 122) (tgt := 150) C dX7_isBalanced_122 (by decide) rx5 (fun cb => ?_) (fun cb => ?_)
    · have h3 := h3 cb
      refine J_iconst (pc := 150) C dX7_isBalanced_150 ?_
      refine J_iadd (pc := 151) C dX7_isBalanced_151 ?_
      refine J_istore_n (pc := 152) C dX7_isBalanced_152 (by decide) ?_
      refine J_iinc (pc := 153) C dX7_isBalanced_153 rfl (by decide) ?_
      refine J_goto (pc := 156) (tgt := 7) C dX7_isBalanced_156 (by decide) ?_
      obtain ⟨o5, h6⟩ := h3
      obtain ⟨o7, h8⟩ := h6
      obtain ⟨o9, h10⟩ := h8
      exact J_sub (L1 := [some (.ref (G.2.2 0)), some (iV x1), some (iV (x2 + 0)), some (iV (x3 + 0)), some (iV (x4 + 1)), none, none]) ⟨rfl, ⟨rfl, ⟨rfl, ⟨rfl, ⟨rfl, trivial⟩⟩⟩⟩⟩ (h10 rx1 o5 o7 o9 p l e s m args below meth c G A C hok)
    · have h4 := h4 cb
      refine J_aload_n (pc := 125) C dX7_isBalanced_125 rfl ?_
      refine J_get (pc := 126) C dX7_isBalanced_126 0 rfl rfl nX7_isBalanced_X7 10 (by decide) mX7_isBalanced_f32 rfl (v := .ref (G.2.2 8)) rfl ?_
      refine J_iload (pc := 129) C dX7_isBalanced_129 rfl ?_
      obtain ⟨o11, h12⟩ := h4
      refine J_iald (pc := 131) C dX7_isBalanced_131 8 8 rfl (by decide) o11 ?_
      refine J_aload_n (pc := 132) C dX7_isBalanced_132 rfl ?_
      refine J_get (pc := 133) C dX7_isBalanced_133 0 rfl rfl nX7_isBalanced_X7 3 (by decide) mX7_isBalanced_f13 rfl (v := .ref (G.2.2 2)) rfl ?_
      refine J_iload (pc := 136) C dX7_isBalanced_136 rfl ?_
      obtain ⟨o13, h14⟩ := h12
      refine J_iald (pc := 138) C dX7_isBalanced_138 2 2 rfl (by decide) o13 ?_
      refine J_aload_n (pc := 139) C dX7_isBalanced_139 rfl ?_
      refine J_get (pc := 140) C dX7_isBalanced_140 0 rfl rfl nX7_isBalanced_X7 3 (by decide) mX7_isBalanced_f13 rfl (v := .ref (G.2.2 2)) rfl ?_
      refine J_iload_n (pc := 143) C dX7_isBalanced_143 rfl ?_
      obtain ⟨o15, h16⟩ := h14
      refine J_iald (pc := 144) C dX7_isBalanced_144 2 2 rfl (by decide) o15 ?_
      refine J_isub (pc := 145) C dX7_isBalanced_145 ?_
      refine J_imul (pc := 146) C dX7_isBalanced_146 ?_
      refine J_goto (pc := 147) (tgt := 151) C dX7_isBalanced_147 (by decide) ?_
      refine J_iadd (pc := 151) C dX7_isBalanced_151 ?_
      refine J_istore_n (pc := 152) C dX7_isBalanced_152 (by decide) ?_
      refine J_iinc (pc := 153) C dX7_isBalanced_153 rfl (by decide) ?_
      refine J_goto (pc := 156) (tgt := 7) C dX7_isBalanced_156 (by decide) ?_
      obtain ⟨o17, h18⟩ := h16
      obtain ⟨o19, h20⟩ := h18
      obtain ⟨o21, h22⟩ := h20
      exact J_sub (L1 := [some (.ref (G.2.2 0)), some (iV x1), some (iV (x2 + 0)), some (iV (x3 + ((S 8 x4) * ((S 2 s0) - (S 2 x1))))), some (iV (x4 + 1)), none, none]) ⟨rfl, ⟨rfl, ⟨rfl, ⟨rfl, ⟨rfl, trivial⟩⟩⟩⟩⟩ (h22 rx1 o17 o19 o21 p l e s m args below meth c G A C hok)
  · have h2 := h2 cb
    refine J_aload_n (pc := 91) C dX7_isBalanced_91 rfl ?_
    refine J_get (pc := 92) C dX7_isBalanced_92 0 rfl rfl nX7_isBalanced_X7 10 (by decide) mX7_isBalanced_f32 rfl (v := .ref (G.2.2 8)) rfl ?_
    refine J_iload (pc := 95) C dX7_isBalanced_95 rfl ?_
    obtain ⟨o23, h24⟩ := h2
    refine J_iald (pc := 97) C dX7_isBalanced_97 8 8 rfl (by decide) o23 ?_
    refine J_aload_n (pc := 98) C dX7_isBalanced_98 rfl ?_
    refine J_get (pc := 99) C dX7_isBalanced_99 0 rfl rfl nX7_isBalanced_X7 2 (by decide) mX7_isBalanced_f7 rfl (v := .ref (G.2.2 1)) rfl ?_
    refine J_iload (pc := 102) C dX7_isBalanced_102 rfl ?_
    obtain ⟨o25, h26⟩ := h24
    refine J_iald (pc := 104) C dX7_isBalanced_104 1 1 rfl (by decide) o25 ?_
    refine J_aload_n (pc := 105) C dX7_isBalanced_105 rfl ?_
    refine J_get (pc := 106) C dX7_isBalanced_106 0 rfl rfl nX7_isBalanced_X7 2 (by decide) mX7_isBalanced_f7 rfl (v := .ref (G.2.2 1)) rfl ?_
    refine J_iload_n (pc := 109) C dX7_isBalanced_109 rfl ?_
    obtain ⟨o27, h28⟩ := h26
    refine J_iald (pc := 110) C dX7_isBalanced_110 1 1 rfl (by decide) o27 ?_
    refine J_isub (pc := 111) C dX7_isBalanced_111 ?_
    refine J_imul (pc := 112) C dX7_isBalanced_112 ?_
    refine J_goto (pc := 113) (tgt := 117) C dX7_isBalanced_113 (by decide) ?_
    refine J_iadd (pc := 117) C dX7_isBalanced_117 ?_
    refine J_istore_n (pc := 118) C dX7_isBalanced_118 (by decide) ?_
    refine J_iload_n (pc := 119) C dX7_isBalanced_119 rfl ?_
    refine J_iload (pc := 120) C dX7_isBalanced_120 rfl ?_
    obtain ⟨h29, h30⟩ := h28
    refine J_if_eq (pc := 122) (tgt := 150) C dX7_isBalanced_122 (by decide) rx5 (fun cb => ?_) (fun cb => ?_)
    · have h29 := h29 cb
      refine J_iconst (pc := 150) C dX7_isBalanced_150 ?_
      refine J_iadd (pc := 151) C dX7_isBalanced_151 ?_
      refine J_istore_n (pc := 152) C dX7_isBalanced_152 (by decide) ?_
      refine J_iinc (pc := 153) C dX7_isBalanced_153 rfl (by decide) ?_
      refine J_goto (pc := 156) (tgt := 7) C dX7_isBalanced_156 (by decide) ?_
      obtain ⟨o31, h32⟩ := h29
      obtain ⟨o33, h34⟩ := h32
      obtain ⟨o35, h36⟩ := h34
      exact J_sub (L1 := [some (.ref (G.2.2 0)), some (iV x1), some (iV (x2 + ((S 8 x4) * ((S 1 s0) - (S 1 x1))))), some (iV (x3 + 0)), some (iV (x4 + 1)), none, none]) ⟨rfl, ⟨rfl, ⟨rfl, ⟨rfl, ⟨rfl, trivial⟩⟩⟩⟩⟩ (h36 rx1 o31 o33 o35 p l e s m args below meth c G A C hok)
    · have h30 := h30 cb
      refine J_aload_n (pc := 125) C dX7_isBalanced_125 rfl ?_
      refine J_get (pc := 126) C dX7_isBalanced_126 0 rfl rfl nX7_isBalanced_X7 10 (by decide) mX7_isBalanced_f32 rfl (v := .ref (G.2.2 8)) rfl ?_
      refine J_iload (pc := 129) C dX7_isBalanced_129 rfl ?_
      refine J_iald (pc := 131) C dX7_isBalanced_131 8 8 rfl (by decide) o23 ?_
      refine J_aload_n (pc := 132) C dX7_isBalanced_132 rfl ?_
      refine J_get (pc := 133) C dX7_isBalanced_133 0 rfl rfl nX7_isBalanced_X7 3 (by decide) mX7_isBalanced_f13 rfl (v := .ref (G.2.2 2)) rfl ?_
      refine J_iload (pc := 136) C dX7_isBalanced_136 rfl ?_
      refine J_iald (pc := 138) C dX7_isBalanced_138 2 2 rfl (by decide) o25 ?_
      refine J_aload_n (pc := 139) C dX7_isBalanced_139 rfl ?_
      refine J_get (pc := 140) C dX7_isBalanced_140 0 rfl rfl nX7_isBalanced_X7 3 (by decide) mX7_isBalanced_f13 rfl (v := .ref (G.2.2 2)) rfl ?_
      refine J_iload_n (pc := 143) C dX7_isBalanced_143 rfl ?_
      refine J_iald (pc := 144) C dX7_isBalanced_144 2 2 rfl (by decide) o27 ?_
      refine J_isub (pc := 145) C dX7_isBalanced_145 ?_
      refine J_imul (pc := 146) C dX7_isBalanced_146 ?_
      refine J_goto (pc := 147) (tgt := 151) C dX7_isBalanced_147 (by decide) ?_
      refine J_iadd (pc := 151) C dX7_isBalanced_151 ?_
      refine J_istore_n (pc := 152) C dX7_isBalanced_152 (by decide) ?_
      refine J_iinc (pc := 153) C dX7_isBalanced_153 rfl (by decide) ?_
      refine J_goto (pc := 156) (tgt := 7) C dX7_isBalanced_156 (by decide) ?_
      obtain ⟨o37, h38⟩ := h30
      obtain ⟨o39, h40⟩ := h38
      obtain ⟨o41, h42⟩ := h40
      exact J_sub (L1 := [some (.ref (G.2.2 0)), some (iV x1), some (iV (x2 + ((S 8 x4) * ((S 1 s0) - (S 1 x1))))), some (iV (x3 + ((S 8 x4) * ((S 2 s0) - (S 2 x1))))), some (iV (x4 + 1)), none, none]) ⟨rfl, ⟨rfl, ⟨rfl, ⟨rfl, ⟨rfl, trivial⟩⟩⟩⟩⟩ (h42 rx1 o37 o39 o41 p l e s m args below meth c G A C hok)
def rmX7_isWhole : Room := { frames := 1, cells := 0, slots := 0, locals := 23 }
theorem mX7_isWhole_f76 : Cond.fieldLink RX7 76 "StressworkModel" "joints" "I" ∈ wsX7_isWhole := by decide +kernel
theorem nX7_isWhole_X7 : ∀ x ∈ wsX70, x ∈ wsX7_isWhole := by decide +kernel
def M_X7_isWhole (S : St) (Qr : Int → St → Prop) (Qx : String → St → Prop) : Prop := MM 1 wM okM yX7_isWhole wsX7_isWhole rmX7_isWhole (fun G => [.ref (G.2.2 0)]) S Qr Qx
def R_X7_isWhole_4 (x1 x2 : Int) (S : St) (Qr : Int → St → Prop) (Qx : String → St → Prop) : Prop := r32 x1 → r32 x2 → RR 1 wM okM wsX7_isWhole rmX7_isWhole cX7_isWhole 3 RX7 (some .boolean) [] 0 0 (fun G => [some (.ref (G.2.2 0)), some (iV x1), some (iV x2)]) (fun G => []) 4 S Qr Qx
set_option maxRecDepth 100000 in
set_option maxHeartbeats 4000000 in
theorem vc_X7_isWhole {S : St} {Qr : Int → St → Prop} {Qx : String → St → Prop} (h : okM S → R_X7_isWhole_4 1 0 S Qr Qx) : M_X7_isWhole S Qr Qx := by
  refine MM_of adM (by decide +kernel) rfl (Lf := fun G => [some (.ref (G.2.2 0)), none, none]) (fun G => by show _ ≤ _; exact Nat.le_of_ble_eq_true rfl) (fun G => rfl) ?_
  intro p l e s m args below meth c G A C hok
  have h := h hok
  replace C : Cx wM cX7_isWhole 3 RX7 wsX7_isWhole (some .boolean) [] p l s m args meth c G A := C
  show J wM 3 rmX7_isWhole p l e s m args below meth c G A (QQ 1 wM okM G Qr Qx A below args s rmX7_isWhole.cells rmX7_isWhole.slots) 0 0 S [some (.ref (G.2.2 0)), none, none] [] 0
  refine J_iconst (pc := 0) C dX7_isWhole_0 ?_
  refine J_istore_n (pc := 1) C dX7_isWhole_1 (by decide) ?_
  refine J_iconst (pc := 2) C dX7_isWhole_2 ?_
  refine J_istore_n (pc := 3) C dX7_isWhole_3 (by decide) ?_
  exact J_sub (L1 := [some (.ref (G.2.2 0)), some (iV 1), some (iV 0)]) ⟨rfl, ⟨rfl, ⟨rfl, trivial⟩⟩⟩ (h (by decide) (by decide) p l e s m args below meth c G A C hok)
set_option maxRecDepth 100000 in
set_option maxHeartbeats 4000000 in
theorem vc_X7_isWhole_4 {x1 x2 : Int} {S : St} {Qr : Int → St → Prop} {Qx : String → St → Prop} (h : r32 x1 → r32 x2 → okM S → (((S 0 1) ≤ x2 → ((0 ≤ x1 ∧ x1 ≤ 1) ∧ Qr x1 S)) ∧ (x2 < (S 0 1) → ((x1 = 0 → (r32 (x2 + 1) ∧ R_X7_isWhole_4 0 (x2 + 1) S Qr Qx)) ∧ (x1 ≠ 0 → M_X7_near x2 S (fun rv12 S10 => r32 rv12 → okM S10 → M_X7_bits rv12 S10 (fun rv17 S15 => r32 rv17 → okM S15 → (r32 ((S15 0 1) - 1) ∧ ((rv17 ≠ ((S15 0 1) - 1) → (r32 (x2 + 1) ∧ R_X7_isWhole_4 0 (x2 + 1) S15 Qr Qx)) ∧ (rv17 = ((S15 0 1) - 1) → (r32 (x2 + 1) ∧ R_X7_isWhole_4 1 (x2 + 1) S15 Qr Qx))))) Qx) Qx))))) : R_X7_isWhole_4 x1 x2 S Qr Qx := by
  intro rx1 rx2
  intro p l e s m args below meth c G A C hok
  have h := h rx1 rx2 hok
  replace C : Cx wM cX7_isWhole 3 RX7 wsX7_isWhole (some .boolean) [] p l s m args meth c G A := C
  show J wM 3 rmX7_isWhole p l e s m args below meth c G A (QQ 1 wM okM G Qr Qx A below args s rmX7_isWhole.cells rmX7_isWhole.slots) 0 0 S [some (.ref (G.2.2 0)), some (iV x1), some (iV x2)] [] 4
  refine J_iload_n (pc := 4) C dX7_isWhole_4 rfl ?_
  refine J_aload_n (pc := 5) C dX7_isWhole_5 rfl ?_
  refine J_get (pc := 6) C dX7_isWhole_6 0 rfl rfl nX7_isWhole_X7 1 (by decide) mX7_isWhole_f76 rfl (v := iV (S 0 1)) rfl ?_
  obtain ⟨h1, h2⟩ := h
  refine J_icmp_ge (pc := 9) (tgt := 45) C dX7_isWhole_9 (by decide) rx2 (hok 0 1) (fun cb => ?_) (fun cb => ?_)
  · have h1 := h1 cb
    refine J_iload_n (pc := 45) C dX7_isWhole_45 rfl ?_
    obtain ⟨o3, h4⟩ := h1
    exact J_zret (pc := 46) C dX7_isWhole_46 o3 hok h4 (by decide) (by decide)
  · have h2 := h2 cb
    refine J_iload_n (pc := 12) C dX7_isWhole_12 rfl ?_
    obtain ⟨h5, h6⟩ := h2
    refine J_if_eq (pc := 13) (tgt := 37) C dX7_isWhole_13 (by decide) rx1 (fun cb => ?_) (fun cb => ?_)
    · have h5 := h5 cb
      refine J_iconst (pc := 37) C dX7_isWhole_37 ?_
      refine J_istore_n (pc := 38) C dX7_isWhole_38 (by decide) ?_
      refine J_iinc (pc := 39) C dX7_isWhole_39 rfl (by decide) ?_
      refine J_goto (pc := 42) (tgt := 4) C dX7_isWhole_42 (by decide) ?_
      obtain ⟨o7, h8⟩ := h5
      exact J_sub (L1 := [some (.ref (G.2.2 0)), some (iV 0), some (iV (x2 + 1))]) ⟨rfl, ⟨rfl, ⟨rfl, trivial⟩⟩⟩ (h8 (by decide) o7 p l e s m args below meth c G A C hok)
    · have h6 := h6 cb
      refine J_aload_n (pc := 16) C dX7_isWhole_16 rfl ?_
      refine J_iload_n (pc := 17) C dX7_isWhole_17 rfl ?_
      refine J_c1 (pc := 18) C (J_rV (pc := 18) C (h6 rx2) dX7_isWhole_18 rfl rfl 0 rfl rfl (cwV 1 C.1.2.2.2.2 gX7_isWhole_X7_near rfl rfl rfl (by decide +kernel) ⟨Nat.le_of_ble_eq_true rfl, Nat.le_of_ble_eq_true rfl⟩) hok (Nat.le_of_ble_eq_true rfl) ⟨Nat.le_of_ble_eq_true rfl, Nat.le_of_ble_eq_true rfl⟩) (fun E9 S9 ok9 q9 => JX_out C ok9 q9 (by decide) (by decide)) (fun rv12 S10 hr13 hok11 h9 => ?_)
      have h9 := h9 hr13 hok11
      refine J_c1 (pc := 21) C (J_rS (pc := 21) C (h9 hr13) dX7_isWhole_21 rfl rfl (va_cwS 1 C.1.2.2.2.2 gX7_isWhole_X7_bits rfl rfl rfl (by decide +kernel) ⟨Nat.le_of_ble_eq_true rfl, Nat.le_of_ble_eq_true rfl⟩) hok11 (Nat.le_of_ble_eq_true rfl) ⟨Nat.le_of_ble_eq_true rfl, Nat.le_of_ble_eq_true rfl⟩) (fun E9 S9 ok9 q9 => JX_out C ok9 q9 (by decide) (by decide)) (fun rv17 S15 hr18 hok16 h14 => ?_)
      have h14 := h14 hr18 hok16
      refine J_aload_n (pc := 24) C dX7_isWhole_24 rfl ?_
      refine J_get (pc := 25) C dX7_isWhole_25 0 rfl rfl nX7_isWhole_X7 1 (by decide) mX7_isWhole_f76 rfl (v := iV (S15 0 1)) rfl ?_
      refine J_iconst (pc := 28) C dX7_isWhole_28 ?_
      refine J_isub (pc := 29) C dX7_isWhole_29 ?_
      obtain ⟨o19, h20⟩ := h14
      obtain ⟨h21, h22⟩ := h20
      refine J_icmp_ne (pc := 30) (tgt := 37) C dX7_isWhole_30 (by decide) hr18 o19 (fun cb => ?_) (fun cb => ?_)
      · have h21 := h21 cb
        refine J_iconst (pc := 37) C dX7_isWhole_37 ?_
        refine J_istore_n (pc := 38) C dX7_isWhole_38 (by decide) ?_
        refine J_iinc (pc := 39) C dX7_isWhole_39 rfl (by decide) ?_
        refine J_goto (pc := 42) (tgt := 4) C dX7_isWhole_42 (by decide) ?_
        obtain ⟨o23, h24⟩ := h21
        exact J_sub (L1 := [some (.ref (G.2.2 0)), some (iV 0), some (iV (x2 + 1))]) ⟨rfl, ⟨rfl, ⟨rfl, trivial⟩⟩⟩ (h24 (by decide) o23 p l e s m args below meth c G A C hok16)
      · have h22 := h22 cb
        refine J_iconst (pc := 33) C dX7_isWhole_33 ?_
        refine J_goto (pc := 34) (tgt := 38) C dX7_isWhole_34 (by decide) ?_
        refine J_istore_n (pc := 38) C dX7_isWhole_38 (by decide) ?_
        refine J_iinc (pc := 39) C dX7_isWhole_39 rfl (by decide) ?_
        refine J_goto (pc := 42) (tgt := 4) C dX7_isWhole_42 (by decide) ?_
        obtain ⟨o25, h26⟩ := h22
        exact J_sub (L1 := [some (.ref (G.2.2 0)), some (iV 1), some (iV (x2 + 1))]) ⟨rfl, ⟨rfl, ⟨rfl, trivial⟩⟩⟩ (h26 (by decide) o25 p l e s m args below meth c G A C hok16)
def rmX7_lacksWithout : Room := { frames := 4, cells := 0, slots := 0, locals := 93 }
theorem mX7_lacksWithout_f76 : Cond.fieldLink RX7 76 "StressworkModel" "joints" "I" ∈ wsX7_lacksWithout := by decide +kernel
theorem nX7_lacksWithout_X7 : ∀ x ∈ wsX70, x ∈ wsX7_lacksWithout := by decide +kernel
def M_X7_lacksWithout (a0 : Int) (S : St) (Qr : Int → St → Prop) (Qx : String → St → Prop) : Prop := r32 a0 → MM 1 wM okM yX7_lacksWithout wsX7_lacksWithout rmX7_lacksWithout (fun G => [.ref (G.2.2 0), iV a0]) S Qr Qx
set_option maxRecDepth 100000 in
set_option maxHeartbeats 4000000 in
theorem vc_X7_lacksWithout {a0 : Int} {S : St} {Qr : Int → St → Prop} {Qx : String → St → Prop} (h : r32 a0 → okM S → M_X7_keeps a0 S (fun rv4 S2 => r32 rv4 → okM S2 → (r32 (((2 * (S 0 1)) - 3) - rv4) ∧ Qr (((2 * (S 0 1)) - 3) - rv4) S2)) Qx) : M_X7_lacksWithout a0 S Qr Qx := by
  intro ra0
  refine MM_of adM (by decide +kernel) rfl (Lf := fun G => [some (.ref (G.2.2 0)), some (iV a0)]) (fun G => by show _ ≤ _; exact Nat.le_of_ble_eq_true rfl) (fun G => rfl) ?_
  intro p l e s m args below meth c G A C hok
  have h := h ra0 hok
  replace C : Cx wM cX7_lacksWithout 2 RX7 wsX7_lacksWithout (some .int) [] p l s m args meth c G A := C
  show J wM 2 rmX7_lacksWithout p l e s m args below meth c G A (QQ 1 wM okM G Qr Qx A below args s rmX7_lacksWithout.cells rmX7_lacksWithout.slots) 0 0 S [some (.ref (G.2.2 0)), some (iV a0)] [] 0
  refine J_iconst (pc := 0) C dX7_lacksWithout_0 ?_
  refine J_aload_n (pc := 1) C dX7_lacksWithout_1 rfl ?_
  refine J_get (pc := 2) C dX7_lacksWithout_2 0 rfl rfl nX7_lacksWithout_X7 1 (by decide) mX7_lacksWithout_f76 rfl (v := iV (S 0 1)) rfl ?_
  refine J_imul (pc := 5) C dX7_lacksWithout_5 ?_
  refine J_iconst (pc := 6) C dX7_lacksWithout_6 ?_
  refine J_isub (pc := 7) C dX7_lacksWithout_7 ?_
  refine J_aload_n (pc := 8) C dX7_lacksWithout_8 rfl ?_
  refine J_iload_n (pc := 9) C dX7_lacksWithout_9 rfl ?_
  refine J_c1 (pc := 10) C (J_rV (pc := 10) C (h ra0) dX7_lacksWithout_10 rfl rfl 0 rfl rfl (cwV 1 C.1.2.2.2.2 gX7_lacksWithout_X7_keeps rfl rfl rfl (by decide +kernel) ⟨Nat.le_of_ble_eq_true rfl, Nat.le_of_ble_eq_true rfl⟩) hok (Nat.le_of_ble_eq_true rfl) ⟨Nat.le_of_ble_eq_true rfl, Nat.le_of_ble_eq_true rfl⟩) (fun E9 S9 ok9 q9 => JX_out C ok9 q9 (by decide) (by decide)) (fun rv4 S2 hr5 hok3 h1 => ?_)
  have h1 := h1 hr5 hok3
  refine J_isub (pc := 13) C dX7_lacksWithout_13 ?_
  obtain ⟨o6, h7⟩ := h1
  exact J_iret (pc := 14) C dX7_lacksWithout_14 o6 hok3 h7 (by decide) (by decide)
def rmX7_isGlobal : Room := { frames := 5, cells := 0, slots := 0, locals := 114 }
theorem mX7_isGlobal_f72 : Cond.fieldLink RX7 72 "StressworkModel" "thrown" "I" ∈ wsX7_isGlobal := by decide +kernel
theorem nX7_isGlobal_X7 : ∀ x ∈ wsX70, x ∈ wsX7_isGlobal := by decide +kernel
theorem mX7_isGlobal_f76 : Cond.fieldLink RX7 76 "StressworkModel" "joints" "I" ∈ wsX7_isGlobal := by decide +kernel
theorem mX7_isGlobal_f83 : Cond.fieldLink RX7 83 "StressworkModel" "members" "I" ∈ wsX7_isGlobal := by decide +kernel
theorem mX7_isGlobal_f35 : Cond.fieldLink RX7 35 "StressworkModel" "isGone" "[Z" ∈ wsX7_isGlobal := by decide +kernel
def M_X7_isGlobal (S : St) (Qr : Int → St → Prop) (Qx : String → St → Prop) : Prop := MM 1 wM okM yX7_isGlobal wsX7_isGlobal rmX7_isGlobal (fun G => [.ref (G.2.2 0)]) S Qr Qx
def R_X7_isGlobal_38 (x1 x2 : Int) (S : St) (Qr : Int → St → Prop) (Qx : String → St → Prop) : Prop := r32 x1 → r32 x2 → RR 1 wM okM wsX7_isGlobal rmX7_isGlobal cX7_isGlobal 3 RX7 (some .boolean) [] 0 0 (fun G => [some (.ref (G.2.2 0)), some (iV x1), some (iV x2)]) (fun G => []) 38 S Qr Qx
def R_X7_isGlobal_81 (x1 x2 : Int) (S : St) (Qr : Int → St → Prop) (Qx : String → St → Prop) : Prop := r32 x1 → r32 x2 → RR 1 wM okM wsX7_isGlobal rmX7_isGlobal cX7_isGlobal 3 RX7 (some .boolean) [] 0 0 (fun G => [some (.ref (G.2.2 0)), some (iV x1), some (iV x2)]) (fun G => []) 81 S Qr Qx
set_option maxRecDepth 100000 in
set_option maxHeartbeats 4000000 in
theorem vc_X7_isGlobal {S : St} {Qr : Int → St → Prop} {Qx : String → St → Prop} (h : okM S → M_X7_isWhole (up S 0 0 0) (fun rv5 S3 => r32 rv5 → okM S3 → ((rv5 = 0 → (((S3 0 1) ≤ 3 → R_X7_isGlobal_38 0 0 S3 Qr Qx) ∧ (3 < (S3 0 1) → M_X7_lacksWithout (-1) S3 (fun rv14 S12 => r32 rv14 → okM S12 → ((rv14 ≠ 0 → R_X7_isGlobal_38 0 0 S12 Qr Qx) ∧ (rv14 = 0 → R_X7_isGlobal_38 1 0 S12 Qr Qx))) Qx))) ∧ (rv5 ≠ 0 → Qr 1 S3))) Qx) : M_X7_isGlobal S Qr Qx := by
  refine MM_of adM (by decide +kernel) rfl (Lf := fun G => [some (.ref (G.2.2 0)), none, none]) (fun G => by show _ ≤ _; exact Nat.le_of_ble_eq_true rfl) (fun G => rfl) ?_
  intro p l e s m args below meth c G A C hok
  have h := h hok
  replace C : Cx wM cX7_isGlobal 3 RX7 wsX7_isGlobal (some .boolean) [] p l s m args meth c G A := C
  show J wM 3 rmX7_isGlobal p l e s m args below meth c G A (QQ 1 wM okM G Qr Qx A below args s rmX7_isGlobal.cells rmX7_isGlobal.slots) 0 0 S [some (.ref (G.2.2 0)), none, none] [] 0
  refine J_aload_n (pc := 0) C dX7_isGlobal_0 rfl ?_
  refine J_iconst (pc := 1) C dX7_isGlobal_1 ?_
  refine J_put (pc := 2) C dX7_isGlobal_2 0 rfl rfl nX7_isGlobal_X7 tyX7 tyX7_ok nmX7 0 (by decide) mX7_isGlobal_f72 rfl rfl (v := iV 0) rfl rfl (Nat.le_of_ble_eq_true rfl) (sM_0_0 G S 0) ?_
  have hok1 := okM_up (k := 0) (j := 0) hok (show rngM 0 0 from (by decide : r32 0))
  refine J_aload_n (pc := 5) C dX7_isGlobal_5 rfl ?_
  refine J_c1 (pc := 6) C (J_rV (pc := 6) C h dX7_isGlobal_6 rfl rfl 0 rfl rfl (cwV 0 C.1.2.2.2.2 gX7_isGlobal_X7_isWhole rfl rfl rfl (by decide +kernel) ⟨Nat.le_of_ble_eq_true rfl, Nat.le_of_ble_eq_true rfl⟩) hok1 (Nat.le_of_ble_eq_true rfl) ⟨Nat.le_of_ble_eq_true rfl, Nat.le_of_ble_eq_true rfl⟩) (fun E9 S9 ok9 q9 => JX_out C ok9 q9 (by decide) (by decide)) (fun rv5 S3 hr6 hok4 h2 => ?_)
  have h2 := h2 hr6 hok4
  obtain ⟨h7, h8⟩ := h2
  refine J_if_eq (pc := 9) (tgt := 14) C dX7_isGlobal_9 (by decide) hr6 (fun cb => ?_) (fun cb => ?_)
  · have h7 := h7 cb
    refine J_aload_n (pc := 14) C dX7_isGlobal_14 rfl ?_
    refine J_get (pc := 15) C dX7_isGlobal_15 0 rfl rfl nX7_isGlobal_X7 1 (by decide) mX7_isGlobal_f76 rfl (v := iV (S3 0 1)) rfl ?_
    refine J_iconst (pc := 18) C dX7_isGlobal_18 ?_
    obtain ⟨h9, h10⟩ := h7
    refine J_icmp_le (pc := 19) (tgt := 34) C dX7_isGlobal_19 (by decide) (hok4 0 1) (by decide) (fun cb => ?_) (fun cb => ?_)
    · have h9 := h9 cb
      refine J_iconst (pc := 34) C dX7_isGlobal_34 ?_
      refine J_istore_n (pc := 35) C dX7_isGlobal_35 (by decide) ?_
      refine J_iconst (pc := 36) C dX7_isGlobal_36 ?_
      refine J_istore_n (pc := 37) C dX7_isGlobal_37 (by decide) ?_
      exact J_sub (L1 := [some (.ref (G.2.2 0)), some (iV 0), some (iV 0)]) ⟨rfl, ⟨rfl, ⟨rfl, trivial⟩⟩⟩ (h9 (by decide) (by decide) p l e s m args below meth c G A C hok4)
    · have h10 := h10 cb
      refine J_aload_n (pc := 22) C dX7_isGlobal_22 rfl ?_
      refine J_iconst (pc := 23) C dX7_isGlobal_23 ?_
      refine J_c1 (pc := 24) C (J_rV (pc := 24) C (h10 (by decide)) dX7_isGlobal_24 rfl rfl 0 rfl rfl (cwV 1 C.1.2.2.2.2 gX7_isGlobal_X7_lacksWithout rfl rfl rfl (by decide +kernel) ⟨Nat.le_of_ble_eq_true rfl, Nat.le_of_ble_eq_true rfl⟩) hok4 (Nat.le_of_ble_eq_true rfl) ⟨Nat.le_of_ble_eq_true rfl, Nat.le_of_ble_eq_true rfl⟩) (fun E9 S9 ok9 q9 => JX_out C ok9 q9 (by decide) (by decide)) (fun rv14 S12 hr15 hok13 h11 => ?_)
      have h11 := h11 hr15 hok13
      obtain ⟨h16, h17⟩ := h11
      refine J_if_ne (pc := 27) (tgt := 34) C dX7_isGlobal_27 (by decide) hr15 (fun cb => ?_) (fun cb => ?_)
      · have h16 := h16 cb
        refine J_iconst (pc := 34) C dX7_isGlobal_34 ?_
        refine J_istore_n (pc := 35) C dX7_isGlobal_35 (by decide) ?_
        refine J_iconst (pc := 36) C dX7_isGlobal_36 ?_
        refine J_istore_n (pc := 37) C dX7_isGlobal_37 (by decide) ?_
        exact J_sub (L1 := [some (.ref (G.2.2 0)), some (iV 0), some (iV 0)]) ⟨rfl, ⟨rfl, ⟨rfl, trivial⟩⟩⟩ (h16 (by decide) (by decide) p l e s m args below meth c G A C hok13)
      · have h17 := h17 cb
        refine J_iconst (pc := 30) C dX7_isGlobal_30 ?_
        refine J_goto (pc := 31) (tgt := 35) C dX7_isGlobal_31 (by decide) ?_
        refine J_istore_n (pc := 35) C dX7_isGlobal_35 (by decide) ?_
        refine J_iconst (pc := 36) C dX7_isGlobal_36 ?_
        refine J_istore_n (pc := 37) C dX7_isGlobal_37 (by decide) ?_
        exact J_sub (L1 := [some (.ref (G.2.2 0)), some (iV 1), some (iV 0)]) ⟨rfl, ⟨rfl, ⟨rfl, trivial⟩⟩⟩ (h17 (by decide) (by decide) p l e s m args below meth c G A C hok13)
  · have h8 := h8 cb
    refine J_iconst (pc := 12) C dX7_isGlobal_12 ?_
    exact J_zret (pc := 13) C dX7_isGlobal_13 (by decide) hok4 h8 (by decide) (by decide)
set_option maxRecDepth 100000 in
set_option maxHeartbeats 4000000 in
theorem vc_X7_isGlobal_38 {x1 x2 : Int} {S : St} {Qr : Int → St → Prop} {Qx : String → St → Prop} (h : r32 x1 → r32 x2 → okM S → (((S 0 6) ≤ x2 → R_X7_isGlobal_81 x1 0 S Qr Qx) ∧ (x2 < (S 0 6) → ((x1 = 0 → R_X7_isGlobal_81 x1 0 S Qr Qx) ∧ (x1 ≠ 0 → (ix x2 40 ∧ (((S 9 x2) ≠ 0 → (r32 (x2 + 1) ∧ R_X7_isGlobal_38 1 (x2 + 1) S Qr Qx)) ∧ ((S 9 x2) = 0 → M_X7_lacksWithout x2 S (fun rv14 S12 => r32 rv14 → okM S12 → ((rv14 ≠ 0 → (r32 (x2 + 1) ∧ R_X7_isGlobal_38 0 (x2 + 1) S12 Qr Qx)) ∧ (rv14 = 0 → (r32 (x2 + 1) ∧ R_X7_isGlobal_38 1 (x2 + 1) S12 Qr Qx)))) Qx)))))))) : R_X7_isGlobal_38 x1 x2 S Qr Qx := by
  intro rx1 rx2
  intro p l e s m args below meth c G A C hok
  have h := h rx1 rx2 hok
  replace C : Cx wM cX7_isGlobal 3 RX7 wsX7_isGlobal (some .boolean) [] p l s m args meth c G A := C
  show J wM 3 rmX7_isGlobal p l e s m args below meth c G A (QQ 1 wM okM G Qr Qx A below args s rmX7_isGlobal.cells rmX7_isGlobal.slots) 0 0 S [some (.ref (G.2.2 0)), some (iV x1), some (iV x2)] [] 38
  refine J_iload_n (pc := 38) C dX7_isGlobal_38 rfl ?_
  refine J_aload_n (pc := 39) C dX7_isGlobal_39 rfl ?_
  refine J_get (pc := 40) C dX7_isGlobal_40 0 rfl rfl nX7_isGlobal_X7 6 (by decide) mX7_isGlobal_f83 rfl (v := iV (S 0 6)) rfl ?_
  obtain ⟨h1, h2⟩ := h
  refine J_icmp_ge (pc := 43) (tgt := 79) C dX7_isGlobal_43 (by decide) rx2 (hok 0 6) (fun cb => ?_) (fun cb => ?_)
  · have h1 := h1 cb
    refine J_iconst (pc := 79) C dX7_isGlobal_79 ?_
    refine J_istore_n (pc := 80) C dX7_isGlobal_80 (by decide) ?_
    exact J_sub (L1 := [some (.ref (G.2.2 0)), some (iV x1), some (iV 0)]) ⟨rfl, ⟨rfl, ⟨rfl, trivial⟩⟩⟩ (h1 rx1 (by decide) p l e s m args below meth c G A C hok)
  · have h2 := h2 cb
    refine J_iload_n (pc := 46) C dX7_isGlobal_46 rfl ?_
    obtain ⟨h3, h4⟩ := h2
    refine J_if_eq (pc := 47) (tgt := 79) C dX7_isGlobal_47 (by decide) rx1 (fun cb => ?_) (fun cb => ?_)
    · have h3 := h3 cb
      refine J_iconst (pc := 79) C dX7_isGlobal_79 ?_
      refine J_istore_n (pc := 80) C dX7_isGlobal_80 (by decide) ?_
      exact J_sub (L1 := [some (.ref (G.2.2 0)), some (iV x1), some (iV 0)]) ⟨rfl, ⟨rfl, ⟨rfl, trivial⟩⟩⟩ (h3 rx1 (by decide) p l e s m args below meth c G A C hok)
    · have h4 := h4 cb
      refine J_aload_n (pc := 50) C dX7_isGlobal_50 rfl ?_
      refine J_get (pc := 51) C dX7_isGlobal_51 0 rfl rfl nX7_isGlobal_X7 11 (by decide) mX7_isGlobal_f35 rfl (v := .ref (G.2.2 9)) rfl ?_
      refine J_iload_n (pc := 54) C dX7_isGlobal_54 rfl ?_
      obtain ⟨o5, h6⟩ := h4
      refine J_zald (pc := 55) C dX7_isGlobal_55 9 9 rfl (by decide) o5 ?_
      obtain ⟨h7, h8⟩ := h6
      refine J_if_ne (pc := 56) (tgt := 67) C dX7_isGlobal_56 (by decide) (r01 (hok 9 x2)) (fun cb => ?_) (fun cb => ?_)
      · have h7 := h7 cb
        refine J_iconst (pc := 67) C dX7_isGlobal_67 ?_
        refine J_goto (pc := 68) (tgt := 72) C dX7_isGlobal_68 (by decide) ?_
        refine J_istore_n (pc := 72) C dX7_isGlobal_72 (by decide) ?_
        refine J_iinc (pc := 73) C dX7_isGlobal_73 rfl (by decide) ?_
        refine J_goto (pc := 76) (tgt := 38) C dX7_isGlobal_76 (by decide) ?_
        obtain ⟨o9, h10⟩ := h7
        exact J_sub (L1 := [some (.ref (G.2.2 0)), some (iV 1), some (iV (x2 + 1))]) ⟨rfl, ⟨rfl, ⟨rfl, trivial⟩⟩⟩ (h10 (by decide) o9 p l e s m args below meth c G A C hok)
      · have h8 := h8 cb
        refine J_aload_n (pc := 59) C dX7_isGlobal_59 rfl ?_
        refine J_iload_n (pc := 60) C dX7_isGlobal_60 rfl ?_
        refine J_c1 (pc := 61) C (J_rV (pc := 61) C (h8 rx2) dX7_isGlobal_61 rfl rfl 0 rfl rfl (cwV 1 C.1.2.2.2.2 gX7_isGlobal_X7_lacksWithout rfl rfl rfl (by decide +kernel) ⟨Nat.le_of_ble_eq_true rfl, Nat.le_of_ble_eq_true rfl⟩) hok (Nat.le_of_ble_eq_true rfl) ⟨Nat.le_of_ble_eq_true rfl, Nat.le_of_ble_eq_true rfl⟩) (fun E9 S9 ok9 q9 => JX_out C ok9 q9 (by decide) (by decide)) (fun rv14 S12 hr15 hok13 h11 => ?_)
        have h11 := h11 hr15 hok13
        obtain ⟨h16, h17⟩ := h11
        refine J_if_ne (pc := 64) (tgt := 71) C dX7_isGlobal_64 (by decide) hr15 (fun cb => ?_) (fun cb => ?_)
        · have h16 := h16 cb
          refine J_iconst (pc := 71) C dX7_isGlobal_71 ?_
          refine J_istore_n (pc := 72) C dX7_isGlobal_72 (by decide) ?_
          refine J_iinc (pc := 73) C dX7_isGlobal_73 rfl (by decide) ?_
          refine J_goto (pc := 76) (tgt := 38) C dX7_isGlobal_76 (by decide) ?_
          obtain ⟨o18, h19⟩ := h16
          exact J_sub (L1 := [some (.ref (G.2.2 0)), some (iV 0), some (iV (x2 + 1))]) ⟨rfl, ⟨rfl, ⟨rfl, trivial⟩⟩⟩ (h19 (by decide) o18 p l e s m args below meth c G A C hok13)
        · have h17 := h17 cb
          refine J_iconst (pc := 67) C dX7_isGlobal_67 ?_
          refine J_goto (pc := 68) (tgt := 72) C dX7_isGlobal_68 (by decide) ?_
          refine J_istore_n (pc := 72) C dX7_isGlobal_72 (by decide) ?_
          refine J_iinc (pc := 73) C dX7_isGlobal_73 rfl (by decide) ?_
          refine J_goto (pc := 76) (tgt := 38) C dX7_isGlobal_76 (by decide) ?_
          obtain ⟨o20, h21⟩ := h17
          exact J_sub (L1 := [some (.ref (G.2.2 0)), some (iV 1), some (iV (x2 + 1))]) ⟨rfl, ⟨rfl, ⟨rfl, trivial⟩⟩⟩ (h21 (by decide) o20 p l e s m args below meth c G A C hok13)
set_option maxRecDepth 100000 in
set_option maxHeartbeats 4000000 in
theorem vc_X7_isGlobal_81 {x1 x2 : Int} {S : St} {Qr : Int → St → Prop} {Qx : String → St → Prop} (h : r32 x1 → r32 x2 → okM S → (r32 ((S 0 1) * (S 0 1)) ∧ ((((S 0 1) * (S 0 1)) ≤ x2 → ((0 ≤ x1 ∧ x1 ≤ 1) ∧ Qr x1 S)) ∧ (x2 < ((S 0 1) * (S 0 1)) → ((x1 = 0 → ((0 ≤ x1 ∧ x1 ≤ 1) ∧ Qr x1 S)) ∧ (x1 ≠ 0 → (0 < (S 0 1) ∧ (0 < (S 0 1) ∧ (r32 (Int.tdiv x2 (S 0 1)) ∧ (r32 (Int.tmod x2 (S 0 1)) ∧ (((Int.tmod x2 (S 0 1)) ≤ (Int.tdiv x2 (S 0 1)) → (r32 (x2 + 1) ∧ R_X7_isGlobal_81 1 (x2 + 1) S Qr Qx)) ∧ ((Int.tdiv x2 (S 0 1)) < (Int.tmod x2 (S 0 1)) → (0 < (S 0 1) ∧ (0 < (S 0 1) ∧ M_X7_doHang (zor (zshl 1 (Int.tdiv x2 (S 0 1))) (zshl 1 (Int.tmod x2 (S 0 1)))) S (fun rv30 S28 => r32 rv30 → okM S28 → ((rv30 = 0 → (r32 (x2 + 1) ∧ R_X7_isGlobal_81 0 (x2 + 1) S28 Qr Qx)) ∧ (rv30 ≠ 0 → (r32 (x2 + 1) ∧ R_X7_isGlobal_81 1 (x2 + 1) S28 Qr Qx)))) Qx)))))))))))))) : R_X7_isGlobal_81 x1 x2 S Qr Qx := by
  intro rx1 rx2
  intro p l e s m args below meth c G A C hok
  have h := h rx1 rx2 hok
  replace C : Cx wM cX7_isGlobal 3 RX7 wsX7_isGlobal (some .boolean) [] p l s m args meth c G A := C
  show J wM 3 rmX7_isGlobal p l e s m args below meth c G A (QQ 1 wM okM G Qr Qx A below args s rmX7_isGlobal.cells rmX7_isGlobal.slots) 0 0 S [some (.ref (G.2.2 0)), some (iV x1), some (iV x2)] [] 81
  refine J_iload_n (pc := 81) C dX7_isGlobal_81 rfl ?_
  refine J_aload_n (pc := 82) C dX7_isGlobal_82 rfl ?_
  refine J_get (pc := 83) C dX7_isGlobal_83 0 rfl rfl nX7_isGlobal_X7 1 (by decide) mX7_isGlobal_f76 rfl (v := iV (S 0 1)) rfl ?_
  refine J_aload_n (pc := 86) C dX7_isGlobal_86 rfl ?_
  refine J_get (pc := 87) C dX7_isGlobal_87 0 rfl rfl nX7_isGlobal_X7 1 (by decide) mX7_isGlobal_f76 rfl (v := iV (S 0 1)) rfl ?_
  refine J_imul (pc := 90) C dX7_isGlobal_90 ?_
  obtain ⟨o1, h2⟩ := h
  obtain ⟨h3, h4⟩ := h2
  refine J_icmp_ge (pc := 91) (tgt := 149) C dX7_isGlobal_91 (by decide) rx2 o1 (fun cb => ?_) (fun cb => ?_)
  · have h3 := h3 cb
    refine J_iload_n (pc := 149) C dX7_isGlobal_149 rfl ?_
    obtain ⟨o5, h6⟩ := h3
    exact J_zret (pc := 150) C dX7_isGlobal_150 o5 hok h6 (by decide) (by decide)
  · have h4 := h4 cb
    refine J_iload_n (pc := 94) C dX7_isGlobal_94 rfl ?_
    obtain ⟨h7, h8⟩ := h4
    refine J_if_eq (pc := 95) (tgt := 149) C dX7_isGlobal_95 (by decide) rx1 (fun cb => ?_) (fun cb => ?_)
    · have h7 := h7 cb
      refine J_iload_n (pc := 149) C dX7_isGlobal_149 rfl ?_
      obtain ⟨o9, h10⟩ := h7
      exact J_zret (pc := 150) C dX7_isGlobal_150 o9 hok h10 (by decide) (by decide)
    · have h8 := h8 cb
      refine J_iload_n (pc := 98) C dX7_isGlobal_98 rfl ?_
      refine J_aload_n (pc := 99) C dX7_isGlobal_99 rfl ?_
      refine J_get (pc := 100) C dX7_isGlobal_100 0 rfl rfl nX7_isGlobal_X7 1 (by decide) mX7_isGlobal_f76 rfl (v := iV (S 0 1)) rfl ?_
      obtain ⟨o11, h12⟩ := h8
      refine J_idiv (pc := 103) C dX7_isGlobal_103 rx2 (hok 0 1) o11 ?_
      refine J_iload_n (pc := 104) C dX7_isGlobal_104 rfl ?_
      refine J_aload_n (pc := 105) C dX7_isGlobal_105 rfl ?_
      refine J_get (pc := 106) C dX7_isGlobal_106 0 rfl rfl nX7_isGlobal_X7 1 (by decide) mX7_isGlobal_f76 rfl (v := iV (S 0 1)) rfl ?_
      obtain ⟨o13, h14⟩ := h12
      refine J_irem (pc := 109) C dX7_isGlobal_109 rx2 (hok 0 1) o13 ?_
      obtain ⟨o15, h16⟩ := h14
      obtain ⟨o17, h18⟩ := h16
      obtain ⟨h19, h20⟩ := h18
      refine J_icmp_ge (pc := 110) (tgt := 137) C dX7_isGlobal_110 (by decide) o15 o17 (fun cb => ?_) (fun cb => ?_)
      · have h19 := h19 cb
        refine J_iconst (pc := 137) C dX7_isGlobal_137 ?_
        refine J_goto (pc := 138) (tgt := 142) C dX7_isGlobal_138 (by decide) ?_
        refine J_istore_n (pc := 142) C dX7_isGlobal_142 (by decide) ?_
        refine J_iinc (pc := 143) C dX7_isGlobal_143 rfl (by decide) ?_
        refine J_goto (pc := 146) (tgt := 81) C dX7_isGlobal_146 (by decide) ?_
        obtain ⟨o21, h22⟩ := h19
        exact J_sub (L1 := [some (.ref (G.2.2 0)), some (iV 1), some (iV (x2 + 1))]) ⟨rfl, ⟨rfl, ⟨rfl, trivial⟩⟩⟩ (h22 (by decide) o21 p l e s m args below meth c G A C hok)
      · have h20 := h20 cb
        refine J_aload_n (pc := 113) C dX7_isGlobal_113 rfl ?_
        refine J_iconst (pc := 114) C dX7_isGlobal_114 ?_
        refine J_iload_n (pc := 115) C dX7_isGlobal_115 rfl ?_
        refine J_aload_n (pc := 116) C dX7_isGlobal_116 rfl ?_
        refine J_get (pc := 117) C dX7_isGlobal_117 0 rfl rfl nX7_isGlobal_X7 1 (by decide) mX7_isGlobal_f76 rfl (v := iV (S 0 1)) rfl ?_
        obtain ⟨o23, h24⟩ := h20
        refine J_idiv (pc := 120) C dX7_isGlobal_120 rx2 (hok 0 1) o23 ?_
        refine J_ishl (pc := 121) C dX7_isGlobal_121 ?_
        refine J_iconst (pc := 122) C dX7_isGlobal_122 ?_
        refine J_iload_n (pc := 123) C dX7_isGlobal_123 rfl ?_
        refine J_aload_n (pc := 124) C dX7_isGlobal_124 rfl ?_
        refine J_get (pc := 125) C dX7_isGlobal_125 0 rfl rfl nX7_isGlobal_X7 1 (by decide) mX7_isGlobal_f76 rfl (v := iV (S 0 1)) rfl ?_
        obtain ⟨o25, h26⟩ := h24
        refine J_irem (pc := 128) C dX7_isGlobal_128 rx2 (hok 0 1) o25 ?_
        refine J_ishl (pc := 129) C dX7_isGlobal_129 ?_
        refine J_ior (pc := 130) C dX7_isGlobal_130 ?_
        refine J_c1 (pc := 131) C (J_rV (pc := 131) C (h26 (r_zor _ _)) dX7_isGlobal_131 rfl rfl 0 rfl rfl (cwV 1 C.1.2.2.2.2 gX7_isGlobal_X7_doHang rfl rfl rfl (by decide +kernel) ⟨Nat.le_of_ble_eq_true rfl, Nat.le_of_ble_eq_true rfl⟩) hok (Nat.le_of_ble_eq_true rfl) ⟨Nat.le_of_ble_eq_true rfl, Nat.le_of_ble_eq_true rfl⟩) (fun E9 S9 ok9 q9 => JX_out C ok9 q9 (by decide) (by decide)) (fun rv30 S28 hr31 hok29 h27 => ?_)
        have h27 := h27 hr31 hok29
        obtain ⟨h32, h33⟩ := h27
        refine J_if_eq (pc := 134) (tgt := 141) C dX7_isGlobal_134 (by decide) hr31 (fun cb => ?_) (fun cb => ?_)
        · have h32 := h32 cb
          refine J_iconst (pc := 141) C dX7_isGlobal_141 ?_
          refine J_istore_n (pc := 142) C dX7_isGlobal_142 (by decide) ?_
          refine J_iinc (pc := 143) C dX7_isGlobal_143 rfl (by decide) ?_
          refine J_goto (pc := 146) (tgt := 81) C dX7_isGlobal_146 (by decide) ?_
          obtain ⟨o34, h35⟩ := h32
          exact J_sub (L1 := [some (.ref (G.2.2 0)), some (iV 0), some (iV (x2 + 1))]) ⟨rfl, ⟨rfl, ⟨rfl, trivial⟩⟩⟩ (h35 (by decide) o34 p l e s m args below meth c G A C hok29)
        · have h33 := h33 cb
          refine J_iconst (pc := 137) C dX7_isGlobal_137 ?_
          refine J_goto (pc := 138) (tgt := 142) C dX7_isGlobal_138 (by decide) ?_
          refine J_istore_n (pc := 142) C dX7_isGlobal_142 (by decide) ?_
          refine J_iinc (pc := 143) C dX7_isGlobal_143 rfl (by decide) ?_
          refine J_goto (pc := 146) (tgt := 81) C dX7_isGlobal_146 (by decide) ?_
          obtain ⟨o36, h37⟩ := h33
          exact J_sub (L1 := [some (.ref (G.2.2 0)), some (iV 1), some (iV (x2 + 1))]) ⟨rfl, ⟨rfl, ⟨rfl, trivial⟩⟩⟩ (h37 (by decide) o36 p l e s m args below meth c G A C hok29)
def rmX7_isKept : Room := { frames := 4, cells := 0, slots := 0, locals := 93 }
theorem mX7_isKept_f66 : Cond.fieldLink RX7 66 "StressworkModel" "isKept" "[Z" ∈ wsX7_isKept := by decide +kernel
theorem nX7_isKept_X7 : ∀ x ∈ wsX70, x ∈ wsX7_isKept := by decide +kernel
def M_X7_isKept (a0 : Int) (S : St) (Qr : Int → St → Prop) (Qx : String → St → Prop) : Prop := r32 a0 → MM 1 wM okM yX7_isKept wsX7_isKept rmX7_isKept (fun G => [.ref (G.2.2 0), iV a0]) S Qr Qx
set_option maxRecDepth 100000 in
set_option maxHeartbeats 4000000 in
theorem vc_X7_isKept {a0 : Int} {S : St} {Qr : Int → St → Prop} {Qx : String → St → Prop} (h : r32 a0 → okM S → M_X7_isMember a0 S (fun rv4 S2 => r32 rv4 → okM S2 → ((rv4 = 0 → M_X7_holds 1 S2 (fun rv11 S9 => r32 rv11 → okM S9 → ((rv11 = 0 → Qr 0 S9) ∧ (rv11 ≠ 0 → M_X7_keeps (-1) S9 (fun rv18 S16 => r32 rv18 → okM S16 → ((rv18 < 0 → Qr 0 S16) ∧ (0 ≤ rv18 → (ix a0 40 ∧ (((S16 19 a0) = 0 → Qr 0 S16) ∧ ((S16 19 a0) ≠ 0 → Qr 1 S16)))))) Qx))) Qx) ∧ (rv4 ≠ 0 → M_X7_holds 0 S2 (fun rv29 S27 => r32 rv29 → okM S27 → ((rv29 = 0 → Qr 0 S27) ∧ (rv29 ≠ 0 → M_X7_keeps (-1) S27 (fun rv36 S34 => r32 rv36 → okM S34 → ((rv36 < 0 → Qr 0 S34) ∧ (0 ≤ rv36 → (ix a0 40 ∧ (((S34 19 a0) = 0 → Qr 0 S34) ∧ ((S34 19 a0) ≠ 0 → Qr 1 S34)))))) Qx))) Qx))) Qx) : M_X7_isKept a0 S Qr Qx := by
  intro ra0
  refine MM_of adM (by decide +kernel) rfl (Lf := fun G => [some (.ref (G.2.2 0)), some (iV a0)]) (fun G => by show _ ≤ _; exact Nat.le_of_ble_eq_true rfl) (fun G => rfl) ?_
  intro p l e s m args below meth c G A C hok
  have h := h ra0 hok
  replace C : Cx wM cX7_isKept 2 RX7 wsX7_isKept (some .boolean) [] p l s m args meth c G A := C
  show J wM 2 rmX7_isKept p l e s m args below meth c G A (QQ 1 wM okM G Qr Qx A below args s rmX7_isKept.cells rmX7_isKept.slots) 0 0 S [some (.ref (G.2.2 0)), some (iV a0)] [] 0
  refine J_aload_n (pc := 0) C dX7_isKept_0 rfl ?_
  refine J_aload_n (pc := 1) C dX7_isKept_1 rfl ?_
  refine J_iload_n (pc := 2) C dX7_isKept_2 rfl ?_
  refine J_c1 (pc := 3) C (J_rV (pc := 3) C (h ra0) dX7_isKept_3 rfl rfl 0 rfl rfl (cwV 1 C.1.2.2.2.2 gX7_isKept_X7_isMember rfl rfl rfl (by decide +kernel) ⟨Nat.le_of_ble_eq_true rfl, Nat.le_of_ble_eq_true rfl⟩) hok (Nat.le_of_ble_eq_true rfl) ⟨Nat.le_of_ble_eq_true rfl, Nat.le_of_ble_eq_true rfl⟩) (fun E9 S9 ok9 q9 => JX_out C ok9 q9 (by decide) (by decide)) (fun rv4 S2 hr5 hok3 h1 => ?_)
  have h1 := h1 hr5 hok3
  obtain ⟨h6, h7⟩ := h1
  refine J_if_eq (pc := 6) (tgt := 13) C dX7_isKept_6 (by decide) hr5 (fun cb => ?_) (fun cb => ?_)
  · have h6 := h6 cb
    refine J_iconst (pc := 13) C dX7_isKept_13 ?_
    refine J_c1 (pc := 14) C (J_rV (pc := 14) C (h6 (by decide)) dX7_isKept_14 rfl rfl 0 rfl rfl (cwV 1 C.1.2.2.2.2 gX7_isKept_X7_holds rfl rfl rfl (by decide +kernel) ⟨Nat.le_of_ble_eq_true rfl, Nat.le_of_ble_eq_true rfl⟩) hok3 (Nat.le_of_ble_eq_true rfl) ⟨Nat.le_of_ble_eq_true rfl, Nat.le_of_ble_eq_true rfl⟩) (fun E9 S9 ok9 q9 => JX_out C ok9 q9 (by decide) (by decide)) (fun rv11 S9 hr12 hok10 h8 => ?_)
    have h8 := h8 hr12 hok10
    obtain ⟨h13, h14⟩ := h8
    refine J_if_eq (pc := 17) (tgt := 41) C dX7_isKept_17 (by decide) hr12 (fun cb => ?_) (fun cb => ?_)
    · have h13 := h13 cb
      refine J_iconst (pc := 41) C dX7_isKept_41 ?_
      exact J_zret (pc := 42) C dX7_isKept_42 (by decide) hok10 h13 (by decide) (by decide)
    · have h14 := h14 cb
      refine J_aload_n (pc := 20) C dX7_isKept_20 rfl ?_
      refine J_iconst (pc := 21) C dX7_isKept_21 ?_
      refine J_c1 (pc := 22) C (J_rV (pc := 22) C (h14 (by decide)) dX7_isKept_22 rfl rfl 0 rfl rfl (cwV 1 C.1.2.2.2.2 gX7_isKept_X7_keeps rfl rfl rfl (by decide +kernel) ⟨Nat.le_of_ble_eq_true rfl, Nat.le_of_ble_eq_true rfl⟩) hok10 (Nat.le_of_ble_eq_true rfl) ⟨Nat.le_of_ble_eq_true rfl, Nat.le_of_ble_eq_true rfl⟩) (fun E9 S9 ok9 q9 => JX_out C ok9 q9 (by decide) (by decide)) (fun rv18 S16 hr19 hok17 h15 => ?_)
      have h15 := h15 hr19 hok17
      obtain ⟨h20, h21⟩ := h15
      refine J_if_lt (pc := 25) (tgt := 41) C dX7_isKept_25 (by decide) hr19 (fun cb => ?_) (fun cb => ?_)
      · have h20 := h20 cb
        refine J_iconst (pc := 41) C dX7_isKept_41 ?_
        exact J_zret (pc := 42) C dX7_isKept_42 (by decide) hok17 h20 (by decide) (by decide)
      · have h21 := h21 cb
        refine J_aload_n (pc := 28) C dX7_isKept_28 rfl ?_
        refine J_get (pc := 29) C dX7_isKept_29 0 rfl rfl nX7_isKept_X7 23 (by decide) mX7_isKept_f66 rfl (v := .ref (G.2.2 19)) rfl ?_
        refine J_iload_n (pc := 32) C dX7_isKept_32 rfl ?_
        obtain ⟨o22, h23⟩ := h21
        refine J_zald (pc := 33) C dX7_isKept_33 19 19 rfl (by decide) o22 ?_
        obtain ⟨h24, h25⟩ := h23
        refine J_if_eq (pc := 34) (tgt := 41) C dX7_isKept_34 (by decide) (r01 (hok17 19 a0)) (fun cb => ?_) (fun cb => ?_)
        · have h24 := h24 cb
          refine J_iconst (pc := 41) C dX7_isKept_41 ?_
          exact J_zret (pc := 42) C dX7_isKept_42 (by decide) hok17 h24 (by decide) (by decide)
        · have h25 := h25 cb
          refine J_iconst (pc := 37) C dX7_isKept_37 ?_
          refine J_goto (pc := 38) (tgt := 42) C dX7_isKept_38 (by decide) ?_
          exact J_zret (pc := 42) C dX7_isKept_42 (by decide) hok17 h25 (by decide) (by decide)
  · have h7 := h7 cb
    refine J_iconst (pc := 9) C dX7_isKept_9 ?_
    refine J_goto (pc := 10) (tgt := 14) C dX7_isKept_10 (by decide) ?_
    refine J_c1 (pc := 14) C (J_rV (pc := 14) C (h7 (by decide)) dX7_isKept_14 rfl rfl 0 rfl rfl (cwV 1 C.1.2.2.2.2 gX7_isKept_X7_holds rfl rfl rfl (by decide +kernel) ⟨Nat.le_of_ble_eq_true rfl, Nat.le_of_ble_eq_true rfl⟩) hok3 (Nat.le_of_ble_eq_true rfl) ⟨Nat.le_of_ble_eq_true rfl, Nat.le_of_ble_eq_true rfl⟩) (fun E9 S9 ok9 q9 => JX_out C ok9 q9 (by decide) (by decide)) (fun rv29 S27 hr30 hok28 h26 => ?_)
    have h26 := h26 hr30 hok28
    obtain ⟨h31, h32⟩ := h26
    refine J_if_eq (pc := 17) (tgt := 41) C dX7_isKept_17 (by decide) hr30 (fun cb => ?_) (fun cb => ?_)
    · have h31 := h31 cb
      refine J_iconst (pc := 41) C dX7_isKept_41 ?_
      exact J_zret (pc := 42) C dX7_isKept_42 (by decide) hok28 h31 (by decide) (by decide)
    · have h32 := h32 cb
      refine J_aload_n (pc := 20) C dX7_isKept_20 rfl ?_
      refine J_iconst (pc := 21) C dX7_isKept_21 ?_
      refine J_c1 (pc := 22) C (J_rV (pc := 22) C (h32 (by decide)) dX7_isKept_22 rfl rfl 0 rfl rfl (cwV 1 C.1.2.2.2.2 gX7_isKept_X7_keeps rfl rfl rfl (by decide +kernel) ⟨Nat.le_of_ble_eq_true rfl, Nat.le_of_ble_eq_true rfl⟩) hok28 (Nat.le_of_ble_eq_true rfl) ⟨Nat.le_of_ble_eq_true rfl, Nat.le_of_ble_eq_true rfl⟩) (fun E9 S9 ok9 q9 => JX_out C ok9 q9 (by decide) (by decide)) (fun rv36 S34 hr37 hok35 h33 => ?_)
      have h33 := h33 hr37 hok35
      obtain ⟨h38, h39⟩ := h33
      refine J_if_lt (pc := 25) (tgt := 41) C dX7_isKept_25 (by decide) hr37 (fun cb => ?_) (fun cb => ?_)
      · have h38 := h38 cb
        refine J_iconst (pc := 41) C dX7_isKept_41 ?_
        exact J_zret (pc := 42) C dX7_isKept_42 (by decide) hok35 h38 (by decide) (by decide)
      · have h39 := h39 cb
        refine J_aload_n (pc := 28) C dX7_isKept_28 rfl ?_
        refine J_get (pc := 29) C dX7_isKept_29 0 rfl rfl nX7_isKept_X7 23 (by decide) mX7_isKept_f66 rfl (v := .ref (G.2.2 19)) rfl ?_
        refine J_iload_n (pc := 32) C dX7_isKept_32 rfl ?_
        obtain ⟨o40, h41⟩ := h39
        refine J_zald (pc := 33) C dX7_isKept_33 19 19 rfl (by decide) o40 ?_
        obtain ⟨h42, h43⟩ := h41
        refine J_if_eq (pc := 34) (tgt := 41) C dX7_isKept_34 (by decide) (r01 (hok35 19 a0)) (fun cb => ?_) (fun cb => ?_)
        · have h42 := h42 cb
          refine J_iconst (pc := 41) C dX7_isKept_41 ?_
          exact J_zret (pc := 42) C dX7_isKept_42 (by decide) hok35 h42 (by decide) (by decide)
        · have h43 := h43 cb
          refine J_iconst (pc := 37) C dX7_isKept_37 ?_
          refine J_goto (pc := 38) (tgt := 42) C dX7_isKept_38 (by decide) ?_
          exact J_zret (pc := 42) C dX7_isKept_42 (by decide) hok35 h43 (by decide) (by decide)
def rmX7_unbalancedSet : Room := { frames := 1, cells := 0, slots := 0, locals := 26 }
theorem mX7_unbalancedSet_f76 : Cond.fieldLink RX7 76 "StressworkModel" "joints" "I" ∈ wsX7_unbalancedSet := by decide +kernel
theorem nX7_unbalancedSet_X7 : ∀ x ∈ wsX70, x ∈ wsX7_unbalancedSet := by decide +kernel
theorem mX7_unbalancedSet_f16 : Cond.fieldLink RX7 16 "StressworkModel" "isPinned" "[Z" ∈ wsX7_unbalancedSet := by decide +kernel
def M_X7_unbalancedSet (S : St) (Qr : Int → St → Prop) (Qx : String → St → Prop) : Prop := MM 1 wM okM yX7_unbalancedSet wsX7_unbalancedSet rmX7_unbalancedSet (fun G => [.ref (G.2.2 0)]) S Qr Qx
def R_X7_unbalancedSet_4 (x1 x2 : Int) (S : St) (Qr : Int → St → Prop) (Qx : String → St → Prop) : Prop := r32 x1 → r32 x2 → RR 1 wM okM wsX7_unbalancedSet rmX7_unbalancedSet cX7_unbalancedSet 3 RX7 (some .int) [] 0 0 (fun G => [some (.ref (G.2.2 0)), some (iV x1), some (iV x2)]) (fun G => []) 4 S Qr Qx
set_option maxRecDepth 100000 in
set_option maxHeartbeats 4000000 in
theorem vc_X7_unbalancedSet {S : St} {Qr : Int → St → Prop} {Qx : String → St → Prop} (h : okM S → R_X7_unbalancedSet_4 0 0 S Qr Qx) : M_X7_unbalancedSet S Qr Qx := by
  refine MM_of adM (by decide +kernel) rfl (Lf := fun G => [some (.ref (G.2.2 0)), none, none]) (fun G => by show _ ≤ _; exact Nat.le_of_ble_eq_true rfl) (fun G => rfl) ?_
  intro p l e s m args below meth c G A C hok
  have h := h hok
  replace C : Cx wM cX7_unbalancedSet 3 RX7 wsX7_unbalancedSet (some .int) [] p l s m args meth c G A := C
  show J wM 3 rmX7_unbalancedSet p l e s m args below meth c G A (QQ 1 wM okM G Qr Qx A below args s rmX7_unbalancedSet.cells rmX7_unbalancedSet.slots) 0 0 S [some (.ref (G.2.2 0)), none, none] [] 0
  refine J_iconst (pc := 0) C dX7_unbalancedSet_0 ?_
  refine J_istore_n (pc := 1) C dX7_unbalancedSet_1 (by decide) ?_
  refine J_iconst (pc := 2) C dX7_unbalancedSet_2 ?_
  refine J_istore_n (pc := 3) C dX7_unbalancedSet_3 (by decide) ?_
  exact J_sub (L1 := [some (.ref (G.2.2 0)), some (iV 0), some (iV 0)]) ⟨rfl, ⟨rfl, ⟨rfl, trivial⟩⟩⟩ (h (by decide) (by decide) p l e s m args below meth c G A C hok)
set_option maxRecDepth 100000 in
set_option maxHeartbeats 4000000 in
theorem vc_X7_unbalancedSet_4 {x1 x2 : Int} {S : St} {Qr : Int → St → Prop} {Qx : String → St → Prop} (h : r32 x1 → r32 x2 → okM S → (((S 0 1) ≤ x2 → Qr x1 S) ∧ (x2 < (S 0 1) → (ix x2 10 ∧ (((S 3 x2) ≠ 0 → (r32 (x2 + 1) ∧ R_X7_unbalancedSet_4 (zor x1 0) (x2 + 1) S Qr Qx)) ∧ ((S 3 x2) = 0 → M_X7_isBalanced x2 S (fun rv12 S10 => r32 rv12 → okM S10 → ((rv12 = 0 → (r32 (x2 + 1) ∧ R_X7_unbalancedSet_4 (zor x1 (zshl 1 x2)) (x2 + 1) S10 Qr Qx)) ∧ (rv12 ≠ 0 → (r32 (x2 + 1) ∧ R_X7_unbalancedSet_4 (zor x1 0) (x2 + 1) S10 Qr Qx)))) Qx)))))) : R_X7_unbalancedSet_4 x1 x2 S Qr Qx := by
  intro rx1 rx2
  intro p l e s m args below meth c G A C hok
  have h := h rx1 rx2 hok
  replace C : Cx wM cX7_unbalancedSet 3 RX7 wsX7_unbalancedSet (some .int) [] p l s m args meth c G A := C
  show J wM 3 rmX7_unbalancedSet p l e s m args below meth c G A (QQ 1 wM okM G Qr Qx A below args s rmX7_unbalancedSet.cells rmX7_unbalancedSet.slots) 0 0 S [some (.ref (G.2.2 0)), some (iV x1), some (iV x2)] [] 4
  refine J_iload_n (pc := 4) C dX7_unbalancedSet_4 rfl ?_
  refine J_aload_n (pc := 5) C dX7_unbalancedSet_5 rfl ?_
  refine J_get (pc := 6) C dX7_unbalancedSet_6 0 rfl rfl nX7_unbalancedSet_X7 1 (by decide) mX7_unbalancedSet_f76 rfl (v := iV (S 0 1)) rfl ?_
  obtain ⟨h1, h2⟩ := h
  refine J_icmp_ge (pc := 9) (tgt := 45) C dX7_unbalancedSet_9 (by decide) rx2 (hok 0 1) (fun cb => ?_) (fun cb => ?_)
  · have h1 := h1 cb
    refine J_iload_n (pc := 45) C dX7_unbalancedSet_45 rfl ?_
    exact J_iret (pc := 46) C dX7_unbalancedSet_46 rx1 hok h1 (by decide) (by decide)
  · have h2 := h2 cb
    refine J_iload_n (pc := 12) C dX7_unbalancedSet_12 rfl ?_
    refine J_aload_n (pc := 13) C dX7_unbalancedSet_13 rfl ?_
    refine J_get (pc := 14) C dX7_unbalancedSet_14 0 rfl rfl nX7_unbalancedSet_X7 4 (by decide) mX7_unbalancedSet_f16 rfl (v := .ref (G.2.2 3)) rfl ?_
    refine J_iload_n (pc := 17) C dX7_unbalancedSet_17 rfl ?_
    obtain ⟨o3, h4⟩ := h2
    refine J_zald (pc := 18) C dX7_unbalancedSet_18 3 3 rfl (by decide) o3 ?_
    obtain ⟨h5, h6⟩ := h4
    refine J_if_ne (pc := 19) (tgt := 30) C dX7_unbalancedSet_19 (by decide) (r01 (hok 3 x2)) (fun cb => ?_) (fun cb => ?_)
    · have h5 := h5 cb
      refine J_iconst (pc := 30) C dX7_unbalancedSet_30 ?_
      refine J_goto (pc := 31) (tgt := 37) C dX7_unbalancedSet_31 (by decide) ?_
      refine J_ior (pc := 37) C dX7_unbalancedSet_37 ?_
      refine J_istore_n (pc := 38) C dX7_unbalancedSet_38 (by decide) ?_
      refine J_iinc (pc := 39) C dX7_unbalancedSet_39 rfl (by decide) ?_
      refine J_goto (pc := 42) (tgt := 4) C dX7_unbalancedSet_42 (by decide) ?_
      obtain ⟨o7, h8⟩ := h5
      exact J_sub (L1 := [some (.ref (G.2.2 0)), some (iV (zor x1 0)), some (iV (x2 + 1))]) ⟨rfl, ⟨rfl, ⟨rfl, trivial⟩⟩⟩ (h8 (r_zor _ _) o7 p l e s m args below meth c G A C hok)
    · have h6 := h6 cb
      refine J_aload_n (pc := 22) C dX7_unbalancedSet_22 rfl ?_
      refine J_iload_n (pc := 23) C dX7_unbalancedSet_23 rfl ?_
      refine J_c1 (pc := 24) C (J_rV (pc := 24) C (h6 rx2) dX7_unbalancedSet_24 rfl rfl 0 rfl rfl (cwV 1 C.1.2.2.2.2 gX7_unbalancedSet_X7_isBalanced rfl rfl rfl (by decide +kernel) ⟨Nat.le_of_ble_eq_true rfl, Nat.le_of_ble_eq_true rfl⟩) hok (Nat.le_of_ble_eq_true rfl) ⟨Nat.le_of_ble_eq_true rfl, Nat.le_of_ble_eq_true rfl⟩) (fun E9 S9 ok9 q9 => JX_out C ok9 q9 (by decide) (by decide)) (fun rv12 S10 hr13 hok11 h9 => ?_)
      have h9 := h9 hr13 hok11
      obtain ⟨h14, h15⟩ := h9
      refine J_if_eq (pc := 27) (tgt := 34) C dX7_unbalancedSet_27 (by decide) hr13 (fun cb => ?_) (fun cb => ?_)
      · have h14 := h14 cb
        refine J_iconst (pc := 34) C dX7_unbalancedSet_34 ?_
        refine J_iload_n (pc := 35) C dX7_unbalancedSet_35 rfl ?_
        refine J_ishl (pc := 36) C dX7_unbalancedSet_36 ?_
        refine J_ior (pc := 37) C dX7_unbalancedSet_37 ?_
        refine J_istore_n (pc := 38) C dX7_unbalancedSet_38 (by decide) ?_
        refine J_iinc (pc := 39) C dX7_unbalancedSet_39 rfl (by decide) ?_
        refine J_goto (pc := 42) (tgt := 4) C dX7_unbalancedSet_42 (by decide) ?_
        obtain ⟨o16, h17⟩ := h14
        exact J_sub (L1 := [some (.ref (G.2.2 0)), some (iV (zor x1 (zshl 1 x2))), some (iV (x2 + 1))]) ⟨rfl, ⟨rfl, ⟨rfl, trivial⟩⟩⟩ (h17 (r_zor _ _) o16 p l e s m args below meth c G A C hok11)
      · have h15 := h15 cb
        refine J_iconst (pc := 30) C dX7_unbalancedSet_30 ?_
        refine J_goto (pc := 31) (tgt := 37) C dX7_unbalancedSet_31 (by decide) ?_
        refine J_ior (pc := 37) C dX7_unbalancedSet_37 ?_
        refine J_istore_n (pc := 38) C dX7_unbalancedSet_38 (by decide) ?_
        refine J_iinc (pc := 39) C dX7_unbalancedSet_39 rfl (by decide) ?_
        refine J_goto (pc := 42) (tgt := 4) C dX7_unbalancedSet_42 (by decide) ?_
        obtain ⟨o18, h19⟩ := h15
        exact J_sub (L1 := [some (.ref (G.2.2 0)), some (iV (zor x1 0)), some (iV (x2 + 1))]) ⟨rfl, ⟨rfl, ⟨rfl, trivial⟩⟩⟩ (h19 (r_zor _ _) o18 p l e s m args below meth c G A C hok11)
def rmX7_isProper : Room := { frames := 2, cells := 0, slots := 0, locals := 48 }
theorem mX7_isProper_f72 : Cond.fieldLink RX7 72 "StressworkModel" "thrown" "I" ∈ wsX7_isProper := by decide +kernel
theorem nX7_isProper_X7 : ∀ x ∈ wsX70, x ∈ wsX7_isProper := by decide +kernel
theorem mX7_isProper_f83 : Cond.fieldLink RX7 83 "StressworkModel" "members" "I" ∈ wsX7_isProper := by decide +kernel
theorem mX7_isProper_f35 : Cond.fieldLink RX7 35 "StressworkModel" "isGone" "[Z" ∈ wsX7_isProper := by decide +kernel
theorem mX7_isProper_f32 : Cond.fieldLink RX7 32 "StressworkModel" "stress" "[I" ∈ wsX7_isProper := by decide +kernel
theorem mX7_isProper_f29 : Cond.fieldLink RX7 29 "StressworkModel" "kind" "[I" ∈ wsX7_isProper := by decide +kernel
def M_X7_isProper (S : St) (Qr : Int → St → Prop) (Qx : String → St → Prop) : Prop := MM 1 wM okM yX7_isProper wsX7_isProper rmX7_isProper (fun G => [.ref (G.2.2 0)]) S Qr Qx
def R_X7_isProper_17 (s0 : Int) (S : St) (Qr : Int → St → Prop) (Qx : String → St → Prop) : Prop := r32 s0 → RR 1 wM okM wsX7_isProper rmX7_isProper cX7_isProper 5 RX7 (some .boolean) [] 0 0 (fun G => [some (.ref (G.2.2 0)), none, none, none, none]) (fun G => [iV s0]) 17 S Qr Qx
def R_X7_isProper_22 (x1 x2 x3 : Int) (S : St) (Qr : Int → St → Prop) (Qx : String → St → Prop) : Prop := r32 x1 → r32 x2 → r32 x3 → RR 1 wM okM wsX7_isProper rmX7_isProper cX7_isProper 5 RX7 (some .boolean) [] 0 0 (fun G => [some (.ref (G.2.2 0)), some (iV x1), some (iV x2), some (iV x3), none]) (fun G => []) 22 S Qr Qx
def R_X7_isProper_57 (x1 x3 s0 : Int) (S : St) (Qr : Int → St → Prop) (Qx : String → St → Prop) : Prop := r32 x1 → r32 x3 → r32 s0 → RR 1 wM okM wsX7_isProper rmX7_isProper cX7_isProper 5 RX7 (some .boolean) [] 0 0 (fun G => [some (.ref (G.2.2 0)), some (iV x1), none, some (iV x3), none]) (fun G => [iV s0]) 57 S Qr Qx
def R_X7_isProper_101 (x1 x2 x3 s0 : Int) (S : St) (Qr : Int → St → Prop) (Qx : String → St → Prop) : Prop := r32 x1 → r32 x2 → r32 x3 → r32 s0 → RR 1 wM okM wsX7_isProper rmX7_isProper cX7_isProper 5 RX7 (some .boolean) [] 0 0 (fun G => [some (.ref (G.2.2 0)), some (iV x1), some (iV x2), some (iV x3), none]) (fun G => [iV s0]) 101 S Qr Qx
def R_X7_isProper_126 (x2 x3 s0 : Int) (S : St) (Qr : Int → St → Prop) (Qx : String → St → Prop) : Prop := r32 x2 → r32 x3 → r32 s0 → RR 1 wM okM wsX7_isProper rmX7_isProper cX7_isProper 5 RX7 (some .boolean) [] 0 0 (fun G => [some (.ref (G.2.2 0)), none, some (iV x2), some (iV x3), none]) (fun G => [iV s0]) 126 S Qr Qx
set_option maxRecDepth 100000 in
set_option maxHeartbeats 4000000 in
theorem vc_X7_isProper {S : St} {Qr : Int → St → Prop} {Qx : String → St → Prop} (h : okM S → M_X7_unbalancedSet (up S 0 0 0) (fun rv5 S3 => r32 rv5 → okM S3 → ((rv5 ≠ 0 → R_X7_isProper_17 0 S3 Qr Qx) ∧ (rv5 = 0 → R_X7_isProper_17 1 S3 Qr Qx))) Qx) : M_X7_isProper S Qr Qx := by
  refine MM_of adM (by decide +kernel) rfl (Lf := fun G => [some (.ref (G.2.2 0)), none, none, none, none]) (fun G => by show _ ≤ _; exact Nat.le_of_ble_eq_true rfl) (fun G => rfl) ?_
  intro p l e s m args below meth c G A C hok
  have h := h hok
  replace C : Cx wM cX7_isProper 5 RX7 wsX7_isProper (some .boolean) [] p l s m args meth c G A := C
  show J wM 5 rmX7_isProper p l e s m args below meth c G A (QQ 1 wM okM G Qr Qx A below args s rmX7_isProper.cells rmX7_isProper.slots) 0 0 S [some (.ref (G.2.2 0)), none, none, none, none] [] 0
  refine J_aload_n (pc := 0) C dX7_isProper_0 rfl ?_
  refine J_iconst (pc := 1) C dX7_isProper_1 ?_
  refine J_put (pc := 2) C dX7_isProper_2 0 rfl rfl nX7_isProper_X7 tyX7 tyX7_ok nmX7 0 (by decide) mX7_isProper_f72 rfl rfl (v := iV 0) rfl rfl (Nat.le_of_ble_eq_true rfl) (sM_0_0 G S 0) ?_
  have hok1 := okM_up (k := 0) (j := 0) hok (show rngM 0 0 from (by decide : r32 0))
  refine J_aload_n (pc := 5) C dX7_isProper_5 rfl ?_
  refine J_c1 (pc := 6) C (J_rV (pc := 6) C h dX7_isProper_6 rfl rfl 0 rfl rfl (cwV 0 C.1.2.2.2.2 gX7_isProper_X7_unbalancedSet rfl rfl rfl (by decide +kernel) ⟨Nat.le_of_ble_eq_true rfl, Nat.le_of_ble_eq_true rfl⟩) hok1 (Nat.le_of_ble_eq_true rfl) ⟨Nat.le_of_ble_eq_true rfl, Nat.le_of_ble_eq_true rfl⟩) (fun E9 S9 ok9 q9 => JX_out C ok9 q9 (by decide) (by decide)) (fun rv5 S3 hr6 hok4 h2 => ?_)
  have h2 := h2 hr6 hok4
  obtain ⟨h7, h8⟩ := h2
  refine J_if_ne (pc := 9) (tgt := 16) C dX7_isProper_9 (by decide) hr6 (fun cb => ?_) (fun cb => ?_)
  · have h7 := h7 cb
    refine J_iconst (pc := 16) C dX7_isProper_16 ?_
    exact J_sub (L1 := [some (.ref (G.2.2 0)), none, none, none, none]) ⟨rfl, trivial⟩ (h7 (by decide) p l e s m args below meth c G A C hok4)
  · have h8 := h8 cb
    refine J_iconst (pc := 12) C dX7_isProper_12 ?_
    refine J_goto (pc := 13) (tgt := 17) C dX7_isProper_13 (by decide) ?_
    exact J_sub (L1 := [some (.ref (G.2.2 0)), none, none, none, none]) ⟨rfl, trivial⟩ (h8 (by decide) p l e s m args below meth c G A C hok4)
set_option maxRecDepth 100000 in
set_option maxHeartbeats 4000000 in
theorem vc_X7_isProper_17 {s0 : Int} {S : St} {Qr : Int → St → Prop} {Qx : String → St → Prop} (h : r32 s0 → okM S → R_X7_isProper_22 s0 0 0 S Qr Qx) : R_X7_isProper_17 s0 S Qr Qx := by
  intro rs0
  intro p l e s m args below meth c G A C hok
  have h := h rs0 hok
  replace C : Cx wM cX7_isProper 5 RX7 wsX7_isProper (some .boolean) [] p l s m args meth c G A := C
  show J wM 5 rmX7_isProper p l e s m args below meth c G A (QQ 1 wM okM G Qr Qx A below args s rmX7_isProper.cells rmX7_isProper.slots) 0 0 S [some (.ref (G.2.2 0)), none, none, none, none] [iV s0] 17
  refine J_istore_n (pc := 17) C dX7_isProper_17 (by decide) ?_
  refine J_iconst (pc := 18) C dX7_isProper_18 ?_
  refine J_istore_n (pc := 19) C dX7_isProper_19 (by decide) ?_
  refine J_iconst (pc := 20) C dX7_isProper_20 ?_
  refine J_istore_n (pc := 21) C dX7_isProper_21 (by decide) ?_
  exact J_sub (L1 := [some (.ref (G.2.2 0)), some (iV s0), some (iV 0), some (iV 0), none]) ⟨rfl, ⟨rfl, ⟨rfl, ⟨rfl, trivial⟩⟩⟩⟩ (h rs0 (by decide) (by decide) p l e s m args below meth c G A C hok)
set_option maxRecDepth 100000 in
set_option maxHeartbeats 4000000 in
theorem vc_X7_isProper_22 {x1 x2 x3 : Int} {S : St} {Qr : Int → St → Prop} {Qx : String → St → Prop} (h : r32 x1 → r32 x2 → r32 x3 → okM S → (((S 0 6) ≤ x3 → ((x1 = 0 → Qr 0 S) ∧ (x1 ≠ 0 → ((x2 = 0 → Qr 0 S) ∧ (x2 ≠ 0 → Qr 1 S))))) ∧ (x3 < (S 0 6) → ((x2 ≠ 0 → R_X7_isProper_57 x1 x3 1 S Qr Qx) ∧ (x2 = 0 → (ix x3 40 ∧ (((S 9 x3) ≠ 0 → R_X7_isProper_57 x1 x3 0 S Qr Qx) ∧ ((S 9 x3) = 0 → (((S 8 x3) = 0 → R_X7_isProper_57 x1 x3 0 S Qr Qx) ∧ ((S 8 x3) ≠ 0 → R_X7_isProper_57 x1 x3 1 S Qr Qx)))))))))) : R_X7_isProper_22 x1 x2 x3 S Qr Qx := by
  intro rx1 rx2 rx3
  intro p l e s m args below meth c G A C hok
  have h := h rx1 rx2 rx3 hok
  replace C : Cx wM cX7_isProper 5 RX7 wsX7_isProper (some .boolean) [] p l s m args meth c G A := C
  show J wM 5 rmX7_isProper p l e s m args below meth c G A (QQ 1 wM okM G Qr Qx A below args s rmX7_isProper.cells rmX7_isProper.slots) 0 0 S [some (.ref (G.2.2 0)), some (iV x1), some (iV x2), some (iV x3), none] [] 22
  refine J_iload_n (pc := 22) C dX7_isProper_22 rfl ?_
  refine J_aload_n (pc := 23) C dX7_isProper_23 rfl ?_
  refine J_get (pc := 24) C dX7_isProper_24 0 rfl rfl nX7_isProper_X7 6 (by decide) mX7_isProper_f83 rfl (v := iV (S 0 6)) rfl ?_
  obtain ⟨h1, h2⟩ := h
  refine J_icmp_ge (pc := 27) (tgt := 133) C dX7_isProper_27 (by decide) rx3 (hok 0 6) (fun cb => ?_) (fun cb => ?_)
  · have h1 := h1 cb
    refine J_iload_n (pc := 133) C dX7_isProper_133 rfl ?_
    obtain ⟨h3, h4⟩ := h1
    refine J_if_eq (pc := 134) (tgt := 145) C dX7_isProper_134 (by decide) rx1 (fun cb => ?_) (fun cb => ?_)
    · have h3 := h3 cb
      refine J_iconst (pc := 145) C dX7_isProper_145 ?_
      exact J_zret (pc := 146) C dX7_isProper_146 (by decide) hok h3 (by decide) (by decide)
    · have h4 := h4 cb
      refine J_iload_n (pc := 137) C dX7_isProper_137 rfl ?_
      obtain ⟨h5, h6⟩ := h4
      refine J_if_eq (pc := 138) (tgt := 145) C dX7_isProper_138 (by decide) rx2 (fun cb => ?_) (fun cb => ?_)
      · have h5 := h5 cb
        refine J_iconst (pc := 145) C dX7_isProper_145 ?_
        exact J_zret (pc := 146) C dX7_isProper_146 (by decide) hok h5 (by decide) (by decide)
      · have h6 := h6 cb
        refine J_iconst (pc := 141) C dX7_isProper_141 ?_
        refine J_goto (pc := 142) (tgt := 146) C dX7_isProper_142 (by decide) ?_
        exact J_zret (pc := 146) C dX7_isProper_146 (by decide) hok h6 (by decide) (by decide)
  · have h2 := h2 cb
    refine J_iload_n (pc := 30) C dX7_isProper_30 rfl ?_
    obtain ⟨h7, h8⟩ := h2
    refine J_if_ne (pc := 31) (tgt := 52) C dX7_isProper_31 (by decide) rx2 (fun cb => ?_) (fun cb => ?_)
    · have h7 := h7 cb
      refine J_iconst (pc := 52) C dX7_isProper_52 ?_
      refine J_goto (pc := 53) (tgt := 57) C dX7_isProper_53 (by decide) ?_
      exact J_sub (L1 := [some (.ref (G.2.2 0)), some (iV x1), none, some (iV x3), none]) ⟨rfl, ⟨rfl, ⟨rfl, trivial⟩⟩⟩ (h7 rx1 rx3 (by decide) p l e s m args below meth c G A C hok)
    · have h8 := h8 cb
      refine J_aload_n (pc := 34) C dX7_isProper_34 rfl ?_
      refine J_get (pc := 35) C dX7_isProper_35 0 rfl rfl nX7_isProper_X7 11 (by decide) mX7_isProper_f35 rfl (v := .ref (G.2.2 9)) rfl ?_
      refine J_iload_n (pc := 38) C dX7_isProper_38 rfl ?_
      obtain ⟨o9, h10⟩ := h8
      refine J_zald (pc := 39) C dX7_isProper_39 9 9 rfl (by decide) o9 ?_
      obtain ⟨h11, h12⟩ := h10
      refine J_if_ne (pc := 40) (tgt := 56) C dX7_isProper_40 (by decide) (r01 (hok 9 x3)) (fun cb => ?_) (fun cb => ?_)
      · have h11 := h11 cb
        refine J_iconst (pc := 56) C dX7_isProper_56 ?_
        exact J_sub (L1 := [some (.ref (G.2.2 0)), some (iV x1), none, some (iV x3), none]) ⟨rfl, ⟨rfl, ⟨rfl, trivial⟩⟩⟩ (h11 rx1 rx3 (by decide) p l e s m args below meth c G A C hok)
      · have h12 := h12 cb
        refine J_aload_n (pc := 43) C dX7_isProper_43 rfl ?_
        refine J_get (pc := 44) C dX7_isProper_44 0 rfl rfl nX7_isProper_X7 10 (by decide) mX7_isProper_f32 rfl (v := .ref (G.2.2 8)) rfl ?_
        refine J_iload_n (pc := 47) C dX7_isProper_47 rfl ?_
        refine J_iald (pc := 48) C dX7_isProper_48 8 8 rfl (by decide) o9 ?_
        obtain ⟨h13, h14⟩ := h12
        refine J_if_eq (pc := 49) (tgt := 56) C dX7_isProper_49 (by decide) (hok 8 x3) (fun cb => ?_) (fun cb => ?_)
        · have h13 := h13 cb
          refine J_iconst (pc := 56) C dX7_isProper_56 ?_
          exact J_sub (L1 := [some (.ref (G.2.2 0)), some (iV x1), none, some (iV x3), none]) ⟨rfl, ⟨rfl, ⟨rfl, trivial⟩⟩⟩ (h13 rx1 rx3 (by decide) p l e s m args below meth c G A C hok)
        · have h14 := h14 cb
          refine J_iconst (pc := 52) C dX7_isProper_52 ?_
          refine J_goto (pc := 53) (tgt := 57) C dX7_isProper_53 (by decide) ?_
          exact J_sub (L1 := [some (.ref (G.2.2 0)), some (iV x1), none, some (iV x3), none]) ⟨rfl, ⟨rfl, ⟨rfl, trivial⟩⟩⟩ (h14 rx1 rx3 (by decide) p l e s m args below meth c G A C hok)
set_option maxRecDepth 100000 in
set_option maxHeartbeats 4000000 in
theorem vc_X7_isProper_57 {x1 x3 s0 : Int} {S : St} {Qr : Int → St → Prop} {Qx : String → St → Prop} (h : r32 x1 → r32 x3 → r32 s0 → okM S → (ix x3 40 ∧ (((S 7 x3) ≠ 1 → (((S 7 x3) ≠ 2 → R_X7_isProper_101 x1 s0 x3 0 S Qr Qx) ∧ ((S 7 x3) = 2 → (((S 8 x3) ≤ 0 → R_X7_isProper_101 x1 s0 x3 0 S Qr Qx) ∧ (0 < (S 8 x3) → R_X7_isProper_101 x1 s0 x3 1 S Qr Qx))))) ∧ ((S 7 x3) = 1 → (((S 8 x3) < 0 → R_X7_isProper_101 x1 s0 x3 1 S Qr Qx) ∧ (0 ≤ (S 8 x3) → (((S 7 x3) ≠ 2 → R_X7_isProper_101 x1 s0 x3 0 S Qr Qx) ∧ ((S 7 x3) = 2 → (((S 8 x3) ≤ 0 → R_X7_isProper_101 x1 s0 x3 0 S Qr Qx) ∧ (0 < (S 8 x3) → R_X7_isProper_101 x1 s0 x3 1 S Qr Qx)))))))))) : R_X7_isProper_57 x1 x3 s0 S Qr Qx := by
  intro rx1 rx3 rs0
  intro p l e s m args below meth c G A C hok
  have h := h rx1 rx3 rs0 hok
  replace C : Cx wM cX7_isProper 5 RX7 wsX7_isProper (some .boolean) [] p l s m args meth c G A := C
  show J wM 5 rmX7_isProper p l e s m args below meth c G A (QQ 1 wM okM G Qr Qx A below args s rmX7_isProper.cells rmX7_isProper.slots) 0 0 S [some (.ref (G.2.2 0)), some (iV x1), none, some (iV x3), none] [iV s0] 57
  refine J_istore_n (pc := 57) C dX7_isProper_57 (by decide) ?_
  refine J_aload_n (pc := 58) C dX7_isProper_58 rfl ?_
  refine J_get (pc := 59) C dX7_isProper_59 0 rfl rfl nX7_isProper_X7 9 (by decide) mX7_isProper_f29 rfl (v := .ref (G.2.2 7)) rfl ?_
  refine J_iload_n (pc := 62) C dX7_isProper_62 rfl ?_
  obtain ⟨o1, h2⟩ := h
  refine J_iald (pc := 63) C dX7_isProper_63 7 7 rfl (by decide) o1 ?_
  refine J_iconst (pc := 64) C dX7_isProper_64 ?_
  obtain ⟨h3, h4⟩ := h2
  refine J_icmp_ne (pc := 65) (tgt := 77) C dX7_isProper_65 (by decide) (hok 7 x3) (by decide) (fun cb => ?_) (fun cb => ?_)
  · have h3 := h3 cb
    refine J_aload_n (pc := 77) C dX7_isProper_77 rfl ?_
    refine J_get (pc := 78) C dX7_isProper_78 0 rfl rfl nX7_isProper_X7 9 (by decide) mX7_isProper_f29 rfl (v := .ref (G.2.2 7)) rfl ?_
    refine J_iload_n (pc := 81) C dX7_isProper_81 rfl ?_
    refine J_iald (pc := 82) C dX7_isProper_82 7 7 rfl (by decide) o1 ?_
    refine J_iconst (pc := 83) C dX7_isProper_83 ?_
    obtain ⟨h5, h6⟩ := h3
    refine J_icmp_ne (pc := 84) (tgt := 100) C dX7_isProper_84 (by decide) (hok 7 x3) (by decide) (fun cb => ?_) (fun cb => ?_)
    · have h5 := h5 cb
      refine J_iconst (pc := 100) C dX7_isProper_100 ?_
      exact J_sub (L1 := [some (.ref (G.2.2 0)), some (iV x1), some (iV s0), some (iV x3), none]) ⟨rfl, ⟨rfl, ⟨rfl, ⟨rfl, trivial⟩⟩⟩⟩ (h5 rx1 rs0 rx3 (by decide) p l e s m args below meth c G A C hok)
    · have h6 := h6 cb
      refine J_aload_n (pc := 87) C dX7_isProper_87 rfl ?_
      refine J_get (pc := 88) C dX7_isProper_88 0 rfl rfl nX7_isProper_X7 10 (by decide) mX7_isProper_f32 rfl (v := .ref (G.2.2 8)) rfl ?_
      refine J_iload_n (pc := 91) C dX7_isProper_91 rfl ?_
      refine J_iald (pc := 92) C dX7_isProper_92 8 8 rfl (by decide) o1 ?_
      obtain ⟨h7, h8⟩ := h6
      refine J_if_le (pc := 93) (tgt := 100) C dX7_isProper_93 (by decide) (hok 8 x3) (fun cb => ?_) (fun cb => ?_)
      · have h7 := h7 cb
        refine J_iconst (pc := 100) C dX7_isProper_100 ?_
        exact J_sub (L1 := [some (.ref (G.2.2 0)), some (iV x1), some (iV s0), some (iV x3), none]) ⟨rfl, ⟨rfl, ⟨rfl, ⟨rfl, trivial⟩⟩⟩⟩ (h7 rx1 rs0 rx3 (by decide) p l e s m args below meth c G A C hok)
      · have h8 := h8 cb
        refine J_iconst (pc := 96) C dX7_isProper_96 ?_
        refine J_goto (pc := 97) (tgt := 101) C dX7_isProper_97 (by decide) ?_
        exact J_sub (L1 := [some (.ref (G.2.2 0)), some (iV x1), some (iV s0), some (iV x3), none]) ⟨rfl, ⟨rfl, ⟨rfl, ⟨rfl, trivial⟩⟩⟩⟩ (h8 rx1 rs0 rx3 (by decide) p l e s m args below meth c G A C hok)
  · have h4 := h4 cb
    refine J_aload_n (pc := 68) C dX7_isProper_68 rfl ?_
    refine J_get (pc := 69) C dX7_isProper_69 0 rfl rfl nX7_isProper_X7 10 (by decide) mX7_isProper_f32 rfl (v := .ref (G.2.2 8)) rfl ?_
    refine J_iload_n (pc := 72) C dX7_isProper_72 rfl ?_
    refine J_iald (pc := 73) C dX7_isProper_73 8 8 rfl (by decide) o1 ?_
    obtain ⟨h9, h10⟩ := h4
    refine J_if_lt (pc := 74) (tgt := 96) C dX7_isProper_74 (by decide) (hok 8 x3) (fun cb => ?_) (fun cb => ?_)
    · have h9 := h9 cb
      refine J_iconst (pc := 96) C dX7_isProper_96 ?_
      refine J_goto (pc := 97) (tgt := 101) C dX7_isProper_97 (by decide) ?_
      exact J_sub (L1 := [some (.ref (G.2.2 0)), some (iV x1), some (iV s0), some (iV x3), none]) ⟨rfl, ⟨rfl, ⟨rfl, ⟨rfl, trivial⟩⟩⟩⟩ (h9 rx1 rs0 rx3 (by decide) p l e s m args below meth c G A C hok)
    · have h10 := h10 cb
      refine J_aload_n (pc := 77) C dX7_isProper_77 rfl ?_
      refine J_get (pc := 78) C dX7_isProper_78 0 rfl rfl nX7_isProper_X7 9 (by decide) mX7_isProper_f29 rfl (v := .ref (G.2.2 7)) rfl ?_
      refine J_iload_n (pc := 81) C dX7_isProper_81 rfl ?_
      refine J_iald (pc := 82) C dX7_isProper_82 7 7 rfl (by decide) o1 ?_
      refine J_iconst (pc := 83) C dX7_isProper_83 ?_
      obtain ⟨h11, h12⟩ := h10
      refine J_icmp_ne (pc := 84) (tgt := 100) C dX7_isProper_84 (by decide) (hok 7 x3) (by decide) (fun cb => ?_) (fun cb => ?_)
      · have h11 := h11 cb
        refine J_iconst (pc := 100) C dX7_isProper_100 ?_
        exact J_sub (L1 := [some (.ref (G.2.2 0)), some (iV x1), some (iV s0), some (iV x3), none]) ⟨rfl, ⟨rfl, ⟨rfl, ⟨rfl, trivial⟩⟩⟩⟩ (h11 rx1 rs0 rx3 (by decide) p l e s m args below meth c G A C hok)
      · have h12 := h12 cb
        refine J_aload_n (pc := 87) C dX7_isProper_87 rfl ?_
        refine J_get (pc := 88) C dX7_isProper_88 0 rfl rfl nX7_isProper_X7 10 (by decide) mX7_isProper_f32 rfl (v := .ref (G.2.2 8)) rfl ?_
        refine J_iload_n (pc := 91) C dX7_isProper_91 rfl ?_
        refine J_iald (pc := 92) C dX7_isProper_92 8 8 rfl (by decide) o1 ?_
        obtain ⟨h13, h14⟩ := h12
        refine J_if_le (pc := 93) (tgt := 100) C dX7_isProper_93 (by decide) (hok 8 x3) (fun cb => ?_) (fun cb => ?_)
        · have h13 := h13 cb
          refine J_iconst (pc := 100) C dX7_isProper_100 ?_
          exact J_sub (L1 := [some (.ref (G.2.2 0)), some (iV x1), some (iV s0), some (iV x3), none]) ⟨rfl, ⟨rfl, ⟨rfl, ⟨rfl, trivial⟩⟩⟩⟩ (h13 rx1 rs0 rx3 (by decide) p l e s m args below meth c G A C hok)
        · have h14 := h14 cb
          refine J_iconst (pc := 96) C dX7_isProper_96 ?_
          refine J_goto (pc := 97) (tgt := 101) C dX7_isProper_97 (by decide) ?_
          exact J_sub (L1 := [some (.ref (G.2.2 0)), some (iV x1), some (iV s0), some (iV x3), none]) ⟨rfl, ⟨rfl, ⟨rfl, ⟨rfl, trivial⟩⟩⟩⟩ (h14 rx1 rs0 rx3 (by decide) p l e s m args below meth c G A C hok)
set_option maxRecDepth 100000 in
set_option maxHeartbeats 4000000 in
theorem vc_X7_isProper_101 {x1 x2 x3 s0 : Int} {S : St} {Qr : Int → St → Prop} {Qx : String → St → Prop} (h : r32 x1 → r32 x2 → r32 x3 → r32 s0 → okM S → ((x1 = 0 → R_X7_isProper_126 x2 x3 0 S Qr Qx) ∧ (x1 ≠ 0 → (ix x3 40 ∧ (((S 9 x3) ≠ 0 → R_X7_isProper_126 x2 x3 1 S Qr Qx) ∧ ((S 9 x3) = 0 → ((s0 ≠ 0 → R_X7_isProper_126 x2 x3 0 S Qr Qx) ∧ (s0 = 0 → R_X7_isProper_126 x2 x3 1 S Qr Qx)))))))) : R_X7_isProper_101 x1 x2 x3 s0 S Qr Qx := by
  intro rx1 rx2 rx3 rs0
  intro p l e s m args below meth c G A C hok
  have h := h rx1 rx2 rx3 rs0 hok
  replace C : Cx wM cX7_isProper 5 RX7 wsX7_isProper (some .boolean) [] p l s m args meth c G A := C
  show J wM 5 rmX7_isProper p l e s m args below meth c G A (QQ 1 wM okM G Qr Qx A below args s rmX7_isProper.cells rmX7_isProper.slots) 0 0 S [some (.ref (G.2.2 0)), some (iV x1), some (iV x2), some (iV x3), none] [iV s0] 101
  refine J_istore (pc := 101) C dX7_isProper_101 (by decide) ?_
  refine J_iload_n (pc := 103) C dX7_isProper_103 rfl ?_
  obtain ⟨h1, h2⟩ := h
  refine J_if_eq (pc := 104) (tgt := 125) C dX7_isProper_104 (by decide) rx1 (fun cb => ?_) (fun cb => ?_)
  · have h1 := h1 cb
    refine J_iconst (pc := 125) C dX7_isProper_125 ?_
    exact J_sub (L1 := [some (.ref (G.2.2 0)), none, some (iV x2), some (iV x3), none]) ⟨rfl, ⟨rfl, ⟨rfl, trivial⟩⟩⟩ (h1 rx2 rx3 (by decide) p l e s m args below meth c G A C hok)
  · have h2 := h2 cb
    refine J_aload_n (pc := 107) C dX7_isProper_107 rfl ?_
    refine J_get (pc := 108) C dX7_isProper_108 0 rfl rfl nX7_isProper_X7 11 (by decide) mX7_isProper_f35 rfl (v := .ref (G.2.2 9)) rfl ?_
    refine J_iload_n (pc := 111) C dX7_isProper_111 rfl ?_
    obtain ⟨o3, h4⟩ := h2
    refine J_zald (pc := 112) C dX7_isProper_112 9 9 rfl (by decide) o3 ?_
    obtain ⟨h5, h6⟩ := h4
    refine J_if_ne (pc := 113) (tgt := 121) C dX7_isProper_113 (by decide) (r01 (hok 9 x3)) (fun cb => ?_) (fun cb => ?_)
    · have h5 := h5 cb
      refine J_iconst (pc := 121) C dX7_isProper_121 ?_
      refine J_goto (pc := 122) (tgt := 126) C dX7_isProper_122 (by decide) ?_
      exact J_sub (L1 := [some (.ref (G.2.2 0)), none, some (iV x2), some (iV x3), none]) ⟨rfl, ⟨rfl, ⟨rfl, trivial⟩⟩⟩ (h5 rx2 rx3 (by decide) p l e s m args below meth c G A C hok)
    · have h6 := h6 cb
      refine J_iload (pc := 116) C dX7_isProper_116 rfl ?_
      obtain ⟨h7, h8⟩ := h6
      refine J_if_ne (pc := 118) (tgt := 125) C dX7_isProper_118 (by decide) rs0 (fun cb => ?_) (fun cb => ?_)
      · have h7 := h7 cb
        refine J_iconst (pc := 125) C dX7_isProper_125 ?_
        exact J_sub (L1 := [some (.ref (G.2.2 0)), none, some (iV x2), some (iV x3), none]) ⟨rfl, ⟨rfl, ⟨rfl, trivial⟩⟩⟩ (h7 rx2 rx3 (by decide) p l e s m args below meth c G A C hok)
      · have h8 := h8 cb
        refine J_iconst (pc := 121) C dX7_isProper_121 ?_
        refine J_goto (pc := 122) (tgt := 126) C dX7_isProper_122 (by decide) ?_
        exact J_sub (L1 := [some (.ref (G.2.2 0)), none, some (iV x2), some (iV x3), none]) ⟨rfl, ⟨rfl, ⟨rfl, trivial⟩⟩⟩ (h8 rx2 rx3 (by decide) p l e s m args below meth c G A C hok)
set_option maxRecDepth 100000 in
set_option maxHeartbeats 4000000 in
theorem vc_X7_isProper_126 {x2 x3 s0 : Int} {S : St} {Qr : Int → St → Prop} {Qx : String → St → Prop} (h : r32 x2 → r32 x3 → r32 s0 → okM S → (r32 (x3 + 1) ∧ R_X7_isProper_22 s0 x2 (x3 + 1) S Qr Qx)) : R_X7_isProper_126 x2 x3 s0 S Qr Qx := by
  intro rx2 rx3 rs0
  intro p l e s m args below meth c G A C hok
  have h := h rx2 rx3 rs0 hok
  replace C : Cx wM cX7_isProper 5 RX7 wsX7_isProper (some .boolean) [] p l s m args meth c G A := C
  show J wM 5 rmX7_isProper p l e s m args below meth c G A (QQ 1 wM okM G Qr Qx A below args s rmX7_isProper.cells rmX7_isProper.slots) 0 0 S [some (.ref (G.2.2 0)), none, some (iV x2), some (iV x3), none] [iV s0] 126
  refine J_istore_n (pc := 126) C dX7_isProper_126 (by decide) ?_
  refine J_iinc (pc := 127) C dX7_isProper_127 rfl (by decide) ?_
  refine J_goto (pc := 130) (tgt := 22) C dX7_isProper_130 (by decide) ?_
  obtain ⟨o1, h2⟩ := h
  exact J_sub (L1 := [some (.ref (G.2.2 0)), some (iV s0), some (iV x2), some (iV (x3 + 1)), none]) ⟨rfl, ⟨rfl, ⟨rfl, ⟨rfl, trivial⟩⟩⟩⟩ (h2 rs0 rx2 o1 p l e s m args below meth c G A C hok)
def rmX7_isRedundant : Room := { frames := 4, cells := 0, slots := 0, locals := 104 }
def M_X7_isRedundant (a0 : Int) (S : St) (Qr : Int → St → Prop) (Qx : String → St → Prop) : Prop := r32 a0 → MM 1 wM okM yX7_isRedundant wsX7_isRedundant rmX7_isRedundant (fun G => [.ref (G.2.2 0), iV a0]) S Qr Qx
set_option maxRecDepth 100000 in
set_option maxHeartbeats 4000000 in
theorem vc_X7_isRedundant {a0 : Int} {S : St} {Qr : Int → St → Prop} {Qx : String → St → Prop} (h : r32 a0 → okM S → M_X7_isMember a0 S (fun rv4 S2 => r32 rv4 → okM S2 → ((rv4 = 0 → M_X7_holds 1 S2 (fun rv11 S9 => r32 rv11 → okM S9 → ((rv11 = 0 → Qr 0 S9) ∧ (rv11 ≠ 0 → M_X7_rankOf (-1) S9 (fun rv18 S16 => r32 rv18 → okM S16 → M_X7_rankOf a0 S16 (fun rv23 S21 => r32 rv23 → okM S21 → ((rv18 ≠ rv23 → Qr 0 S21) ∧ (rv18 = rv23 → Qr 1 S21))) Qx) Qx))) Qx) ∧ (rv4 ≠ 0 → M_X7_holds 0 S2 (fun rv30 S28 => r32 rv30 → okM S28 → ((rv30 = 0 → Qr 0 S28) ∧ (rv30 ≠ 0 → M_X7_rankOf (-1) S28 (fun rv37 S35 => r32 rv37 → okM S35 → M_X7_rankOf a0 S35 (fun rv42 S40 => r32 rv42 → okM S40 → ((rv37 ≠ rv42 → Qr 0 S40) ∧ (rv37 = rv42 → Qr 1 S40))) Qx) Qx))) Qx))) Qx) : M_X7_isRedundant a0 S Qr Qx := by
  intro ra0
  refine MM_of adM (by decide +kernel) rfl (Lf := fun G => [some (.ref (G.2.2 0)), some (iV a0)]) (fun G => by show _ ≤ _; exact Nat.le_of_ble_eq_true rfl) (fun G => rfl) ?_
  intro p l e s m args below meth c G A C hok
  have h := h ra0 hok
  replace C : Cx wM cX7_isRedundant 2 RX7 wsX7_isRedundant (some .boolean) [] p l s m args meth c G A := C
  show J wM 2 rmX7_isRedundant p l e s m args below meth c G A (QQ 1 wM okM G Qr Qx A below args s rmX7_isRedundant.cells rmX7_isRedundant.slots) 0 0 S [some (.ref (G.2.2 0)), some (iV a0)] [] 0
  refine J_aload_n (pc := 0) C dX7_isRedundant_0 rfl ?_
  refine J_aload_n (pc := 1) C dX7_isRedundant_1 rfl ?_
  refine J_iload_n (pc := 2) C dX7_isRedundant_2 rfl ?_
  refine J_c1 (pc := 3) C (J_rV (pc := 3) C (h ra0) dX7_isRedundant_3 rfl rfl 0 rfl rfl (cwV 1 C.1.2.2.2.2 gX7_isRedundant_X7_isMember rfl rfl rfl (by decide +kernel) ⟨Nat.le_of_ble_eq_true rfl, Nat.le_of_ble_eq_true rfl⟩) hok (Nat.le_of_ble_eq_true rfl) ⟨Nat.le_of_ble_eq_true rfl, Nat.le_of_ble_eq_true rfl⟩) (fun E9 S9 ok9 q9 => JX_out C ok9 q9 (by decide) (by decide)) (fun rv4 S2 hr5 hok3 h1 => ?_)
  have h1 := h1 hr5 hok3
  obtain ⟨h6, h7⟩ := h1
  refine J_if_eq (pc := 6) (tgt := 13) C dX7_isRedundant_6 (by decide) hr5 (fun cb => ?_) (fun cb => ?_)
  · have h6 := h6 cb
    refine J_iconst (pc := 13) C dX7_isRedundant_13 ?_
    refine J_c1 (pc := 14) C (J_rV (pc := 14) C (h6 (by decide)) dX7_isRedundant_14 rfl rfl 0 rfl rfl (cwV 1 C.1.2.2.2.2 gX7_isRedundant_X7_holds rfl rfl rfl (by decide +kernel) ⟨Nat.le_of_ble_eq_true rfl, Nat.le_of_ble_eq_true rfl⟩) hok3 (Nat.le_of_ble_eq_true rfl) ⟨Nat.le_of_ble_eq_true rfl, Nat.le_of_ble_eq_true rfl⟩) (fun E9 S9 ok9 q9 => JX_out C ok9 q9 (by decide) (by decide)) (fun rv11 S9 hr12 hok10 h8 => ?_)
    have h8 := h8 hr12 hok10
    obtain ⟨h13, h14⟩ := h8
    refine J_if_eq (pc := 17) (tgt := 37) C dX7_isRedundant_17 (by decide) hr12 (fun cb => ?_) (fun cb => ?_)
    · have h13 := h13 cb
      refine J_iconst (pc := 37) C dX7_isRedundant_37 ?_
      exact J_zret (pc := 38) C dX7_isRedundant_38 (by decide) hok10 h13 (by decide) (by decide)
    · have h14 := h14 cb
      refine J_aload_n (pc := 20) C dX7_isRedundant_20 rfl ?_
      refine J_iconst (pc := 21) C dX7_isRedundant_21 ?_
      refine J_c1 (pc := 22) C (J_rV (pc := 22) C (h14 (by decide)) dX7_isRedundant_22 rfl rfl 0 rfl rfl (cwV 1 C.1.2.2.2.2 gX7_isRedundant_X7_rankOf rfl rfl rfl (by decide +kernel) ⟨Nat.le_of_ble_eq_true rfl, Nat.le_of_ble_eq_true rfl⟩) hok10 (Nat.le_of_ble_eq_true rfl) ⟨Nat.le_of_ble_eq_true rfl, Nat.le_of_ble_eq_true rfl⟩) (fun E9 S9 ok9 q9 => JX_out C ok9 q9 (by decide) (by decide)) (fun rv18 S16 hr19 hok17 h15 => ?_)
      have h15 := h15 hr19 hok17
      refine J_aload_n (pc := 25) C dX7_isRedundant_25 rfl ?_
      refine J_iload_n (pc := 26) C dX7_isRedundant_26 rfl ?_
      refine J_c1 (pc := 27) C (J_rV (pc := 27) C (h15 ra0) dX7_isRedundant_27 rfl rfl 0 rfl rfl (cwV 1 C.1.2.2.2.2 gX7_isRedundant_X7_rankOf rfl rfl rfl (by decide +kernel) ⟨Nat.le_of_ble_eq_true rfl, Nat.le_of_ble_eq_true rfl⟩) hok17 (Nat.le_of_ble_eq_true rfl) ⟨Nat.le_of_ble_eq_true rfl, Nat.le_of_ble_eq_true rfl⟩) (fun E9 S9 ok9 q9 => JX_out C ok9 q9 (by decide) (by decide)) (fun rv23 S21 hr24 hok22 h20 => ?_)
      have h20 := h20 hr24 hok22
      obtain ⟨h25, h26⟩ := h20
      refine J_icmp_ne (pc := 30) (tgt := 37) C dX7_isRedundant_30 (by decide) hr19 hr24 (fun cb => ?_) (fun cb => ?_)
      · have h25 := h25 cb
        refine J_iconst (pc := 37) C dX7_isRedundant_37 ?_
        exact J_zret (pc := 38) C dX7_isRedundant_38 (by decide) hok22 h25 (by decide) (by decide)
      · have h26 := h26 cb
        refine J_iconst (pc := 33) C dX7_isRedundant_33 ?_
        refine J_goto (pc := 34) (tgt := 38) C dX7_isRedundant_34 (by decide) ?_
        exact J_zret (pc := 38) C dX7_isRedundant_38 (by decide) hok22 h26 (by decide) (by decide)
  · have h7 := h7 cb
    refine J_iconst (pc := 9) C dX7_isRedundant_9 ?_
    refine J_goto (pc := 10) (tgt := 14) C dX7_isRedundant_10 (by decide) ?_
    refine J_c1 (pc := 14) C (J_rV (pc := 14) C (h7 (by decide)) dX7_isRedundant_14 rfl rfl 0 rfl rfl (cwV 1 C.1.2.2.2.2 gX7_isRedundant_X7_holds rfl rfl rfl (by decide +kernel) ⟨Nat.le_of_ble_eq_true rfl, Nat.le_of_ble_eq_true rfl⟩) hok3 (Nat.le_of_ble_eq_true rfl) ⟨Nat.le_of_ble_eq_true rfl, Nat.le_of_ble_eq_true rfl⟩) (fun E9 S9 ok9 q9 => JX_out C ok9 q9 (by decide) (by decide)) (fun rv30 S28 hr31 hok29 h27 => ?_)
    have h27 := h27 hr31 hok29
    obtain ⟨h32, h33⟩ := h27
    refine J_if_eq (pc := 17) (tgt := 37) C dX7_isRedundant_17 (by decide) hr31 (fun cb => ?_) (fun cb => ?_)
    · have h32 := h32 cb
      refine J_iconst (pc := 37) C dX7_isRedundant_37 ?_
      exact J_zret (pc := 38) C dX7_isRedundant_38 (by decide) hok29 h32 (by decide) (by decide)
    · have h33 := h33 cb
      refine J_aload_n (pc := 20) C dX7_isRedundant_20 rfl ?_
      refine J_iconst (pc := 21) C dX7_isRedundant_21 ?_
      refine J_c1 (pc := 22) C (J_rV (pc := 22) C (h33 (by decide)) dX7_isRedundant_22 rfl rfl 0 rfl rfl (cwV 1 C.1.2.2.2.2 gX7_isRedundant_X7_rankOf rfl rfl rfl (by decide +kernel) ⟨Nat.le_of_ble_eq_true rfl, Nat.le_of_ble_eq_true rfl⟩) hok29 (Nat.le_of_ble_eq_true rfl) ⟨Nat.le_of_ble_eq_true rfl, Nat.le_of_ble_eq_true rfl⟩) (fun E9 S9 ok9 q9 => JX_out C ok9 q9 (by decide) (by decide)) (fun rv37 S35 hr38 hok36 h34 => ?_)
      have h34 := h34 hr38 hok36
      refine J_aload_n (pc := 25) C dX7_isRedundant_25 rfl ?_
      refine J_iload_n (pc := 26) C dX7_isRedundant_26 rfl ?_
      refine J_c1 (pc := 27) C (J_rV (pc := 27) C (h34 ra0) dX7_isRedundant_27 rfl rfl 0 rfl rfl (cwV 1 C.1.2.2.2.2 gX7_isRedundant_X7_rankOf rfl rfl rfl (by decide +kernel) ⟨Nat.le_of_ble_eq_true rfl, Nat.le_of_ble_eq_true rfl⟩) hok36 (Nat.le_of_ble_eq_true rfl) ⟨Nat.le_of_ble_eq_true rfl, Nat.le_of_ble_eq_true rfl⟩) (fun E9 S9 ok9 q9 => JX_out C ok9 q9 (by decide) (by decide)) (fun rv42 S40 hr43 hok41 h39 => ?_)
      have h39 := h39 hr43 hok41
      obtain ⟨h44, h45⟩ := h39
      refine J_icmp_ne (pc := 30) (tgt := 37) C dX7_isRedundant_30 (by decide) hr38 hr43 (fun cb => ?_) (fun cb => ?_)
      · have h44 := h44 cb
        refine J_iconst (pc := 37) C dX7_isRedundant_37 ?_
        exact J_zret (pc := 38) C dX7_isRedundant_38 (by decide) hok41 h44 (by decide) (by decide)
      · have h45 := h45 cb
        refine J_iconst (pc := 33) C dX7_isRedundant_33 ?_
        refine J_goto (pc := 34) (tgt := 38) C dX7_isRedundant_34 (by decide) ?_
        exact J_zret (pc := 38) C dX7_isRedundant_38 (by decide) hok41 h45 (by decide) (by decide)
def rmX7_joint : Room := { frames := 2, cells := 0, slots := 0, locals := 43 }
theorem mX7_joint_f76 : Cond.fieldLink RX7 76 "StressworkModel" "joints" "I" ∈ wsX7_joint := by decide +kernel
theorem nX7_joint_X7 : ∀ x ∈ wsX70, x ∈ wsX7_joint := by decide +kernel
def M_X7_joint (a0 a1 : Int) (S : St) (Qr : Int → St → Prop) (Qx : String → St → Prop) : Prop := r32 a0 → r32 a1 → MM 1 wM okM yX7_joint wsX7_joint rmX7_joint (fun G => [.ref (G.2.2 0), iV a0, iV a1]) S Qr Qx
set_option maxRecDepth 100000 in
set_option maxHeartbeats 4000000 in
theorem vc_X7_joint {a0 a1 : Int} {S : St} {Qr : Int → St → Prop} {Qx : String → St → Prop} (h : r32 a0 → r32 a1 → okM S → M_X7_isPoint a0 a1 S (fun rv4 S2 => r32 rv4 → okM S2 → ((rv4 ≠ 0 → (((S2 0 1) ≠ 10 → M_X7_holds 0 S2 (fun rv13 S11 => r32 rv13 → okM S11 → ((rv13 = 0 → Qr 0 S11) ∧ (rv13 ≠ 0 → M_X7_adds a0 a1 S11 (fun rv20 S18 => r32 rv20 → okM S18 → Qr rv20 S18) Qx))) Qx) ∧ ((S2 0 1) = 10 → M_X7_holds 2 S2 (fun rv25 S23 => r32 rv25 → okM S23 → ((rv25 = 0 → Qr 0 S23) ∧ (rv25 ≠ 0 → M_X7_adds a0 a1 S23 (fun rv32 S30 => r32 rv32 → okM S30 → Qr rv32 S30) Qx))) Qx))) ∧ (rv4 = 0 → M_X7_holds 1 S2 (fun rv37 S35 => r32 rv37 → okM S35 → ((rv37 = 0 → Qr 0 S35) ∧ (rv37 ≠ 0 → M_X7_adds a0 a1 S35 (fun rv44 S42 => r32 rv44 → okM S42 → Qr rv44 S42) Qx))) Qx))) Qx) : M_X7_joint a0 a1 S Qr Qx := by
  intro ra0 ra1
  refine MM_of adM (by decide +kernel) rfl (Lf := fun G => [some (.ref (G.2.2 0)), some (iV a0), some (iV a1)]) (fun G => by show _ ≤ _; exact Nat.le_of_ble_eq_true rfl) (fun G => rfl) ?_
  intro p l e s m args below meth c G A C hok
  have h := h ra0 ra1 hok
  replace C : Cx wM cX7_joint 3 RX7 wsX7_joint (some .int) [] p l s m args meth c G A := C
  show J wM 3 rmX7_joint p l e s m args below meth c G A (QQ 1 wM okM G Qr Qx A below args s rmX7_joint.cells rmX7_joint.slots) 0 0 S [some (.ref (G.2.2 0)), some (iV a0), some (iV a1)] [] 0
  refine J_aload_n (pc := 0) C dX7_joint_0 rfl ?_
  refine J_iload_n (pc := 1) C dX7_joint_1 rfl ?_
  refine J_iload_n (pc := 2) C dX7_joint_2 rfl ?_
  refine J_c1 (pc := 3) C (J_rS (pc := 3) C (h ra0 ra1) dX7_joint_3 rfl rfl (va_cwS 2 C.1.2.2.2.2 gX7_joint_X7_isPoint rfl rfl rfl (by decide +kernel) ⟨Nat.le_of_ble_eq_true rfl, Nat.le_of_ble_eq_true rfl⟩) hok (Nat.le_of_ble_eq_true rfl) ⟨Nat.le_of_ble_eq_true rfl, Nat.le_of_ble_eq_true rfl⟩) (fun E9 S9 ok9 q9 => JX_out C ok9 q9 (by decide) (by decide)) (fun rv4 S2 hr5 hok3 h1 => ?_)
  have h1 := h1 hr5 hok3
  obtain ⟨h6, h7⟩ := h1
  refine J_if_ne (pc := 6) (tgt := 13) C dX7_joint_6 (by decide) hr5 (fun cb => ?_) (fun cb => ?_)
  · have h6 := h6 cb
    refine J_aload_n (pc := 13) C dX7_joint_13 rfl ?_
    refine J_get (pc := 14) C dX7_joint_14 0 rfl rfl nX7_joint_X7 1 (by decide) mX7_joint_f76 rfl (v := iV (S2 0 1)) rfl ?_
    refine J_bipush (pc := 17) C dX7_joint_17 (by decide) ?_
    obtain ⟨h8, h9⟩ := h6
    refine J_icmp_ne (pc := 19) (tgt := 26) C dX7_joint_19 (by decide) (hok3 0 1) (by decide) (fun cb => ?_) (fun cb => ?_)
    · have h8 := h8 cb
      refine J_iconst (pc := 26) C dX7_joint_26 ?_
      refine J_c1 (pc := 27) C (J_rV (pc := 27) C (h8 (by decide)) dX7_joint_27 rfl rfl 0 rfl rfl (cwV 1 C.1.2.2.2.2 gX7_joint_X7_holds rfl rfl rfl (by decide +kernel) ⟨Nat.le_of_ble_eq_true rfl, Nat.le_of_ble_eq_true rfl⟩) hok3 (Nat.le_of_ble_eq_true rfl) ⟨Nat.le_of_ble_eq_true rfl, Nat.le_of_ble_eq_true rfl⟩) (fun E9 S9 ok9 q9 => JX_out C ok9 q9 (by decide) (by decide)) (fun rv13 S11 hr14 hok12 h10 => ?_)
      have h10 := h10 hr14 hok12
      obtain ⟨h15, h16⟩ := h10
      refine J_if_eq (pc := 30) (tgt := 42) C dX7_joint_30 (by decide) hr14 (fun cb => ?_) (fun cb => ?_)
      · have h15 := h15 cb
        refine J_iconst (pc := 42) C dX7_joint_42 ?_
        exact J_iret (pc := 43) C dX7_joint_43 (by decide) hok12 h15 (by decide) (by decide)
      · have h16 := h16 cb
        refine J_aload_n (pc := 33) C dX7_joint_33 rfl ?_
        refine J_iload_n (pc := 34) C dX7_joint_34 rfl ?_
        refine J_iload_n (pc := 35) C dX7_joint_35 rfl ?_
        refine J_c1 (pc := 36) C (J_rV (pc := 36) C (h16 ra0 ra1) dX7_joint_36 rfl rfl 0 rfl rfl (cwV 2 C.1.2.2.2.2 gX7_joint_X7_adds rfl rfl rfl (by decide +kernel) ⟨Nat.le_of_ble_eq_true rfl, Nat.le_of_ble_eq_true rfl⟩) hok12 (Nat.le_of_ble_eq_true rfl) ⟨Nat.le_of_ble_eq_true rfl, Nat.le_of_ble_eq_true rfl⟩) (fun E9 S9 ok9 q9 => JX_out C ok9 q9 (by decide) (by decide)) (fun rv20 S18 hr21 hok19 h17 => ?_)
        have h17 := h17 hr21 hok19
        refine J_goto (pc := 39) (tgt := 43) C dX7_joint_39 (by decide) ?_
        exact J_iret (pc := 43) C dX7_joint_43 hr21 hok19 h17 (by decide) (by decide)
    · have h9 := h9 cb
      refine J_iconst (pc := 22) C dX7_joint_22 ?_
      refine J_goto (pc := 23) (tgt := 27) C dX7_joint_23 (by decide) ?_
      refine J_c1 (pc := 27) C (J_rV (pc := 27) C (h9 (by decide)) dX7_joint_27 rfl rfl 0 rfl rfl (cwV 1 C.1.2.2.2.2 gX7_joint_X7_holds rfl rfl rfl (by decide +kernel) ⟨Nat.le_of_ble_eq_true rfl, Nat.le_of_ble_eq_true rfl⟩) hok3 (Nat.le_of_ble_eq_true rfl) ⟨Nat.le_of_ble_eq_true rfl, Nat.le_of_ble_eq_true rfl⟩) (fun E9 S9 ok9 q9 => JX_out C ok9 q9 (by decide) (by decide)) (fun rv25 S23 hr26 hok24 h22 => ?_)
      have h22 := h22 hr26 hok24
      obtain ⟨h27, h28⟩ := h22
      refine J_if_eq (pc := 30) (tgt := 42) C dX7_joint_30 (by decide) hr26 (fun cb => ?_) (fun cb => ?_)
      · have h27 := h27 cb
        refine J_iconst (pc := 42) C dX7_joint_42 ?_
        exact J_iret (pc := 43) C dX7_joint_43 (by decide) hok24 h27 (by decide) (by decide)
      · have h28 := h28 cb
        refine J_aload_n (pc := 33) C dX7_joint_33 rfl ?_
        refine J_iload_n (pc := 34) C dX7_joint_34 rfl ?_
        refine J_iload_n (pc := 35) C dX7_joint_35 rfl ?_
        refine J_c1 (pc := 36) C (J_rV (pc := 36) C (h28 ra0 ra1) dX7_joint_36 rfl rfl 0 rfl rfl (cwV 2 C.1.2.2.2.2 gX7_joint_X7_adds rfl rfl rfl (by decide +kernel) ⟨Nat.le_of_ble_eq_true rfl, Nat.le_of_ble_eq_true rfl⟩) hok24 (Nat.le_of_ble_eq_true rfl) ⟨Nat.le_of_ble_eq_true rfl, Nat.le_of_ble_eq_true rfl⟩) (fun E9 S9 ok9 q9 => JX_out C ok9 q9 (by decide) (by decide)) (fun rv32 S30 hr33 hok31 h29 => ?_)
        have h29 := h29 hr33 hok31
        refine J_goto (pc := 39) (tgt := 43) C dX7_joint_39 (by decide) ?_
        exact J_iret (pc := 43) C dX7_joint_43 hr33 hok31 h29 (by decide) (by decide)
  · have h7 := h7 cb
    refine J_iconst (pc := 9) C dX7_joint_9 ?_
    refine J_goto (pc := 10) (tgt := 27) C dX7_joint_10 (by decide) ?_
    refine J_c1 (pc := 27) C (J_rV (pc := 27) C (h7 (by decide)) dX7_joint_27 rfl rfl 0 rfl rfl (cwV 1 C.1.2.2.2.2 gX7_joint_X7_holds rfl rfl rfl (by decide +kernel) ⟨Nat.le_of_ble_eq_true rfl, Nat.le_of_ble_eq_true rfl⟩) hok3 (Nat.le_of_ble_eq_true rfl) ⟨Nat.le_of_ble_eq_true rfl, Nat.le_of_ble_eq_true rfl⟩) (fun E9 S9 ok9 q9 => JX_out C ok9 q9 (by decide) (by decide)) (fun rv37 S35 hr38 hok36 h34 => ?_)
    have h34 := h34 hr38 hok36
    obtain ⟨h39, h40⟩ := h34
    refine J_if_eq (pc := 30) (tgt := 42) C dX7_joint_30 (by decide) hr38 (fun cb => ?_) (fun cb => ?_)
    · have h39 := h39 cb
      refine J_iconst (pc := 42) C dX7_joint_42 ?_
      exact J_iret (pc := 43) C dX7_joint_43 (by decide) hok36 h39 (by decide) (by decide)
    · have h40 := h40 cb
      refine J_aload_n (pc := 33) C dX7_joint_33 rfl ?_
      refine J_iload_n (pc := 34) C dX7_joint_34 rfl ?_
      refine J_iload_n (pc := 35) C dX7_joint_35 rfl ?_
      refine J_c1 (pc := 36) C (J_rV (pc := 36) C (h40 ra0 ra1) dX7_joint_36 rfl rfl 0 rfl rfl (cwV 2 C.1.2.2.2.2 gX7_joint_X7_adds rfl rfl rfl (by decide +kernel) ⟨Nat.le_of_ble_eq_true rfl, Nat.le_of_ble_eq_true rfl⟩) hok36 (Nat.le_of_ble_eq_true rfl) ⟨Nat.le_of_ble_eq_true rfl, Nat.le_of_ble_eq_true rfl⟩) (fun E9 S9 ok9 q9 => JX_out C ok9 q9 (by decide) (by decide)) (fun rv44 S42 hr45 hok43 h41 => ?_)
      have h41 := h41 hr45 hok43
      refine J_goto (pc := 39) (tgt := 43) C dX7_joint_39 (by decide) ?_
      exact J_iret (pc := 43) C dX7_joint_43 hr45 hok43 h41 (by decide) (by decide)
def rmX7_kept : Room := { frames := 4, cells := 0, slots := 0, locals := 93 }
theorem mX7_kept_f72 : Cond.fieldLink RX7 72 "StressworkModel" "thrown" "I" ∈ wsX7_kept := by decide +kernel
theorem nX7_kept_X7 : ∀ x ∈ wsX70, x ∈ wsX7_kept := by decide +kernel
def M_X7_kept (S : St) (Qr : Int → St → Prop) (Qx : String → St → Prop) : Prop := MM 1 wM okM yX7_kept wsX7_kept rmX7_kept (fun G => [.ref (G.2.2 0)]) S Qr Qx
set_option maxRecDepth 100000 in
set_option maxHeartbeats 4000000 in
theorem vc_X7_kept {S : St} {Qr : Int → St → Prop} {Qx : String → St → Prop} (h : okM S → M_X7_keeps (-1) (up S 0 0 0) (fun rv5 S3 => r32 rv5 → okM S3 → Qr rv5 S3) Qx) : M_X7_kept S Qr Qx := by
  refine MM_of adM (by decide +kernel) rfl (Lf := fun G => [some (.ref (G.2.2 0))]) (fun G => by show _ ≤ _; exact Nat.le_of_ble_eq_true rfl) (fun G => rfl) ?_
  intro p l e s m args below meth c G A C hok
  have h := h hok
  replace C : Cx wM cX7_kept 1 RX7 wsX7_kept (some .int) [] p l s m args meth c G A := C
  show J wM 1 rmX7_kept p l e s m args below meth c G A (QQ 1 wM okM G Qr Qx A below args s rmX7_kept.cells rmX7_kept.slots) 0 0 S [some (.ref (G.2.2 0))] [] 0
  refine J_aload_n (pc := 0) C dX7_kept_0 rfl ?_
  refine J_iconst (pc := 1) C dX7_kept_1 ?_
  refine J_put (pc := 2) C dX7_kept_2 0 rfl rfl nX7_kept_X7 tyX7 tyX7_ok nmX7 0 (by decide) mX7_kept_f72 rfl rfl (v := iV 0) rfl rfl (Nat.le_of_ble_eq_true rfl) (sM_0_0 G S 0) ?_
  have hok1 := okM_up (k := 0) (j := 0) hok (show rngM 0 0 from (by decide : r32 0))
  refine J_aload_n (pc := 5) C dX7_kept_5 rfl ?_
  refine J_iconst (pc := 6) C dX7_kept_6 ?_
  refine J_c1 (pc := 7) C (J_rV (pc := 7) C (h (by decide)) dX7_kept_7 rfl rfl 0 rfl rfl (cwV 1 C.1.2.2.2.2 gX7_kept_X7_keeps rfl rfl rfl (by decide +kernel) ⟨Nat.le_of_ble_eq_true rfl, Nat.le_of_ble_eq_true rfl⟩) hok1 (Nat.le_of_ble_eq_true rfl) ⟨Nat.le_of_ble_eq_true rfl, Nat.le_of_ble_eq_true rfl⟩) (fun E9 S9 ok9 q9 => JX_out C ok9 q9 (by decide) (by decide)) (fun rv5 S3 hr6 hok4 h2 => ?_)
  have h2 := h2 hr6 hok4
  exact J_iret (pc := 10) C dX7_kept_10 hr6 hok4 h2 (by decide) (by decide)
def rmX7_lacks : Room := { frames := 5, cells := 0, slots := 0, locals := 114 }
theorem mX7_lacks_f72 : Cond.fieldLink RX7 72 "StressworkModel" "thrown" "I" ∈ wsX7_lacks := by decide +kernel
theorem nX7_lacks_X7 : ∀ x ∈ wsX70, x ∈ wsX7_lacks := by decide +kernel
theorem mX7_lacks_f76 : Cond.fieldLink RX7 76 "StressworkModel" "joints" "I" ∈ wsX7_lacks := by decide +kernel
def M_X7_lacks (S : St) (Qr : Int → St → Prop) (Qx : String → St → Prop) : Prop := MM 1 wM okM yX7_lacks wsX7_lacks rmX7_lacks (fun G => [.ref (G.2.2 0)]) S Qr Qx
set_option maxRecDepth 100000 in
set_option maxHeartbeats 4000000 in
theorem vc_X7_lacks {S : St} {Qr : Int → St → Prop} {Qx : String → St → Prop} (h : okM S → ((2 ≤ (S 0 1) → M_X7_lacksWithout (-1) (up S 0 0 0) (fun rv7 S5 => r32 rv7 → okM S5 → Qr rv7 S5) Qx) ∧ ((S 0 1) < 2 → Qr (-1) (up S 0 0 0)))) : M_X7_lacks S Qr Qx := by
  refine MM_of adM (by decide +kernel) rfl (Lf := fun G => [some (.ref (G.2.2 0))]) (fun G => by show _ ≤ _; exact Nat.le_of_ble_eq_true rfl) (fun G => rfl) ?_
  intro p l e s m args below meth c G A C hok
  have h := h hok
  replace C : Cx wM cX7_lacks 1 RX7 wsX7_lacks (some .int) [] p l s m args meth c G A := C
  show J wM 1 rmX7_lacks p l e s m args below meth c G A (QQ 1 wM okM G Qr Qx A below args s rmX7_lacks.cells rmX7_lacks.slots) 0 0 S [some (.ref (G.2.2 0))] [] 0
  refine J_aload_n (pc := 0) C dX7_lacks_0 rfl ?_
  refine J_iconst (pc := 1) C dX7_lacks_1 ?_
  refine J_put (pc := 2) C dX7_lacks_2 0 rfl rfl nX7_lacks_X7 tyX7 tyX7_ok nmX7 0 (by decide) mX7_lacks_f72 rfl rfl (v := iV 0) rfl rfl (Nat.le_of_ble_eq_true rfl) (sM_0_0 G S 0) ?_
  have hok1 := okM_up (k := 0) (j := 0) hok (show rngM 0 0 from (by decide : r32 0))
  refine J_aload_n (pc := 5) C dX7_lacks_5 rfl ?_
  refine J_get (pc := 6) C dX7_lacks_6 0 rfl rfl nX7_lacks_X7 1 (by decide) mX7_lacks_f76 rfl (v := iV (S 0 1)) rfl ?_
  refine J_iconst (pc := 9) C dX7_lacks_9 ?_
  obtain ⟨h2, h3⟩ := h
  refine J_icmp_ge (pc := 10) (tgt := 17) C dX7_lacks_10 (by decide) (hok 0 1) (by decide) (fun cb => ?_) (fun cb => ?_)
  · have h2 := h2 cb
    refine J_aload_n (pc := 17) C dX7_lacks_17 rfl ?_
    refine J_iconst (pc := 18) C dX7_lacks_18 ?_
    refine J_c1 (pc := 19) C (J_rV (pc := 19) C (h2 (by decide)) dX7_lacks_19 rfl rfl 0 rfl rfl (cwV 1 C.1.2.2.2.2 gX7_lacks_X7_lacksWithout rfl rfl rfl (by decide +kernel) ⟨Nat.le_of_ble_eq_true rfl, Nat.le_of_ble_eq_true rfl⟩) hok1 (Nat.le_of_ble_eq_true rfl) ⟨Nat.le_of_ble_eq_true rfl, Nat.le_of_ble_eq_true rfl⟩) (fun E9 S9 ok9 q9 => JX_out C ok9 q9 (by decide) (by decide)) (fun rv7 S5 hr8 hok6 h4 => ?_)
    have h4 := h4 hr8 hok6
    exact J_iret (pc := 22) C dX7_lacks_22 hr8 hok6 h4 (by decide) (by decide)
  · have h3 := h3 cb
    refine J_iconst (pc := 13) C dX7_lacks_13 ?_
    refine J_goto (pc := 14) (tgt := 22) C dX7_lacks_14 (by decide) ?_
    exact J_iret (pc := 22) C dX7_lacks_22 (by decide) hok1 h3 (by decide) (by decide)
def rmX7_many : Room := { frames := 0, cells := 0, slots := 0, locals := 0 }
theorem mX7_many_f83 : Cond.fieldLink RX7 83 "StressworkModel" "members" "I" ∈ wsX7_many := by decide +kernel
theorem nX7_many_X7 : ∀ x ∈ wsX70, x ∈ wsX7_many := by decide +kernel
theorem mX7_many_f35 : Cond.fieldLink RX7 35 "StressworkModel" "isGone" "[Z" ∈ wsX7_many := by decide +kernel
def M_X7_many (S : St) (Qr : Int → St → Prop) (Qx : String → St → Prop) : Prop := MM 1 wM okM yX7_many wsX7_many rmX7_many (fun G => [.ref (G.2.2 0)]) S Qr Qx
def R_X7_many_4 (x1 x2 : Int) (S : St) (Qr : Int → St → Prop) (Qx : String → St → Prop) : Prop := r32 x1 → r32 x2 → RR 1 wM okM wsX7_many rmX7_many cX7_many 3 RX7 (some .int) [] 0 0 (fun G => [some (.ref (G.2.2 0)), some (iV x1), some (iV x2)]) (fun G => []) 4 S Qr Qx
set_option maxRecDepth 100000 in
set_option maxHeartbeats 4000000 in
theorem vc_X7_many {S : St} {Qr : Int → St → Prop} {Qx : String → St → Prop} (h : okM S → R_X7_many_4 0 0 S Qr Qx) : M_X7_many S Qr Qx := by
  refine MM_of adM (by decide +kernel) rfl (Lf := fun G => [some (.ref (G.2.2 0)), none, none]) (fun G => by show _ ≤ _; exact Nat.le_of_ble_eq_true rfl) (fun G => rfl) ?_
  intro p l e s m args below meth c G A C hok
  have h := h hok
  replace C : Cx wM cX7_many 3 RX7 wsX7_many (some .int) [] p l s m args meth c G A := C
  show J wM 3 rmX7_many p l e s m args below meth c G A (QQ 1 wM okM G Qr Qx A below args s rmX7_many.cells rmX7_many.slots) 0 0 S [some (.ref (G.2.2 0)), none, none] [] 0
  refine J_iconst (pc := 0) C dX7_many_0 ?_
  refine J_istore_n (pc := 1) C dX7_many_1 (by decide) ?_
  refine J_iconst (pc := 2) C dX7_many_2 ?_
  refine J_istore_n (pc := 3) C dX7_many_3 (by decide) ?_
  exact J_sub (L1 := [some (.ref (G.2.2 0)), some (iV 0), some (iV 0)]) ⟨rfl, ⟨rfl, ⟨rfl, trivial⟩⟩⟩ (h (by decide) (by decide) p l e s m args below meth c G A C hok)
set_option maxRecDepth 100000 in
set_option maxHeartbeats 4000000 in
theorem vc_X7_many_4 {x1 x2 : Int} {S : St} {Qr : Int → St → Prop} {Qx : String → St → Prop} (h : r32 x1 → r32 x2 → okM S → (((S 0 6) ≤ x2 → Qr x1 S) ∧ (x2 < (S 0 6) → (ix x2 40 ∧ (((S 9 x2) = 0 → (r32 (x1 + 1) ∧ (r32 (x2 + 1) ∧ R_X7_many_4 (x1 + 1) (x2 + 1) S Qr Qx))) ∧ ((S 9 x2) ≠ 0 → (r32 (x1 + 0) ∧ (r32 (x2 + 1) ∧ R_X7_many_4 (x1 + 0) (x2 + 1) S Qr Qx)))))))) : R_X7_many_4 x1 x2 S Qr Qx := by
  intro rx1 rx2
  intro p l e s m args below meth c G A C hok
  have h := h rx1 rx2 hok
  replace C : Cx wM cX7_many 3 RX7 wsX7_many (some .int) [] p l s m args meth c G A := C
  show J wM 3 rmX7_many p l e s m args below meth c G A (QQ 1 wM okM G Qr Qx A below args s rmX7_many.cells rmX7_many.slots) 0 0 S [some (.ref (G.2.2 0)), some (iV x1), some (iV x2)] [] 4
  refine J_iload_n (pc := 4) C dX7_many_4 rfl ?_
  refine J_aload_n (pc := 5) C dX7_many_5 rfl ?_
  refine J_get (pc := 6) C dX7_many_6 0 rfl rfl nX7_many_X7 6 (by decide) mX7_many_f83 rfl (v := iV (S 0 6)) rfl ?_
  obtain ⟨h1, h2⟩ := h
  refine J_icmp_ge (pc := 9) (tgt := 35) C dX7_many_9 (by decide) rx2 (hok 0 6) (fun cb => ?_) (fun cb => ?_)
  · have h1 := h1 cb
    refine J_iload_n (pc := 35) C dX7_many_35 rfl ?_
    exact J_iret (pc := 36) C dX7_many_36 rx1 hok h1 (by decide) (by decide)
  · have h2 := h2 cb
    refine J_iload_n (pc := 12) C dX7_many_12 rfl ?_
    refine J_aload_n (pc := 13) C dX7_many_13 rfl ?_
    refine J_get (pc := 14) C dX7_many_14 0 rfl rfl nX7_many_X7 11 (by decide) mX7_many_f35 rfl (v := .ref (G.2.2 9)) rfl ?_
    refine J_iload_n (pc := 17) C dX7_many_17 rfl ?_
    obtain ⟨o3, h4⟩ := h2
    refine J_zald (pc := 18) C dX7_many_18 9 9 rfl (by decide) o3 ?_
    obtain ⟨h5, h6⟩ := h4
    refine J_if_eq (pc := 19) (tgt := 26) C dX7_many_19 (by decide) (r01 (hok 9 x2)) (fun cb => ?_) (fun cb => ?_)
    · have h5 := h5 cb
      refine J_iconst (pc := 26) C dX7_many_26 ?_
      refine J_iadd (pc := 27) C dX7_many_27 ?_
      refine J_istore_n (pc := 28) C dX7_many_28 (by decide) ?_
      refine J_iinc (pc := 29) C dX7_many_29 rfl (by decide) ?_
      refine J_goto (pc := 32) (tgt := 4) C dX7_many_32 (by decide) ?_
      obtain ⟨o7, h8⟩ := h5
      obtain ⟨o9, h10⟩ := h8
      exact J_sub (L1 := [some (.ref (G.2.2 0)), some (iV (x1 + 1)), some (iV (x2 + 1))]) ⟨rfl, ⟨rfl, ⟨rfl, trivial⟩⟩⟩ (h10 o7 o9 p l e s m args below meth c G A C hok)
    · have h6 := h6 cb
      refine J_iconst (pc := 22) C dX7_many_22 ?_
      refine J_goto (pc := 23) (tgt := 27) C dX7_many_23 (by decide) ?_
      refine J_iadd (pc := 27) C dX7_many_27 ?_
      refine J_istore_n (pc := 28) C dX7_many_28 (by decide) ?_
      refine J_iinc (pc := 29) C dX7_many_29 rfl (by decide) ?_
      refine J_goto (pc := 32) (tgt := 4) C dX7_many_32 (by decide) ?_
      obtain ⟨o11, h12⟩ := h6
      obtain ⟨o13, h14⟩ := h12
      exact J_sub (L1 := [some (.ref (G.2.2 0)), some (iV (x1 + 0)), some (iV (x2 + 1))]) ⟨rfl, ⟨rfl, ⟨rfl, trivial⟩⟩⟩ (h14 o11 o13 p l e s m args below meth c G A C hok)
def rmX7_matrix : Room := { frames := 3, cells := 0, slots := 0, locals := 82 }
theorem mX7_matrix_f72 : Cond.fieldLink RX7 72 "StressworkModel" "thrown" "I" ∈ wsX7_matrix := by decide +kernel
theorem nX7_matrix_X7 : ∀ x ∈ wsX70, x ∈ wsX7_matrix := by decide +kernel
theorem mX7_matrix_f60 : Cond.fieldLink RX7 60 "StressworkModel" "m" "[J" ∈ wsX7_matrix := by decide +kernel
theorem mX7_matrix_f83 : Cond.fieldLink RX7 83 "StressworkModel" "members" "I" ∈ wsX7_matrix := by decide +kernel
theorem mX7_matrix_f76 : Cond.fieldLink RX7 76 "StressworkModel" "joints" "I" ∈ wsX7_matrix := by decide +kernel
theorem mX7_matrix_f35 : Cond.fieldLink RX7 35 "StressworkModel" "isGone" "[Z" ∈ wsX7_matrix := by decide +kernel
theorem mX7_matrix_f23 : Cond.fieldLink RX7 23 "StressworkModel" "one" "[I" ∈ wsX7_matrix := by decide +kernel
theorem mX7_matrix_f26 : Cond.fieldLink RX7 26 "StressworkModel" "other" "[I" ∈ wsX7_matrix := by decide +kernel
theorem mX7_matrix_f32 : Cond.fieldLink RX7 32 "StressworkModel" "stress" "[I" ∈ wsX7_matrix := by decide +kernel
def M_X7_matrix (S : St) (Qr : Int → St → Prop) (Qx : String → St → Prop) : Prop := MM 1 wM okM yX7_matrix wsX7_matrix rmX7_matrix (fun G => [.ref (G.2.2 0)]) S Qr Qx
def R_X7_matrix_7 (x1 : Int) (S : St) (Qr : Int → St → Prop) (Qx : String → St → Prop) : Prop := r32 x1 → RR 1 wM okM wsX7_matrix rmX7_matrix cX7_matrix 4 RX7 (some .int) [] 0 0 (fun G => [some (.ref (G.2.2 0)), some (iV x1), none, none]) (fun G => []) 7 S Qr Qx
def R_X7_matrix_29 (x1 : Int) (S : St) (Qr : Int → St → Prop) (Qx : String → St → Prop) : Prop := r32 x1 → RR 1 wM okM wsX7_matrix rmX7_matrix cX7_matrix 4 RX7 (some .int) [] 0 0 (fun G => [some (.ref (G.2.2 0)), some (iV x1), none, none]) (fun G => []) 29 S Qr Qx
set_option maxRecDepth 100000 in
set_option maxHeartbeats 4000000 in
theorem vc_X7_matrix {S : St} {Qr : Int → St → Prop} {Qx : String → St → Prop} (h : okM S → R_X7_matrix_7 0 (up S 0 0 0) Qr Qx) : M_X7_matrix S Qr Qx := by
  refine MM_of adM (by decide +kernel) rfl (Lf := fun G => [some (.ref (G.2.2 0)), none, none, none]) (fun G => by show _ ≤ _; exact Nat.le_of_ble_eq_true rfl) (fun G => rfl) ?_
  intro p l e s m args below meth c G A C hok
  have h := h hok
  replace C : Cx wM cX7_matrix 4 RX7 wsX7_matrix (some .int) [] p l s m args meth c G A := C
  show J wM 4 rmX7_matrix p l e s m args below meth c G A (QQ 1 wM okM G Qr Qx A below args s rmX7_matrix.cells rmX7_matrix.slots) 0 0 S [some (.ref (G.2.2 0)), none, none, none] [] 0
  refine J_aload_n (pc := 0) C dX7_matrix_0 rfl ?_
  refine J_iconst (pc := 1) C dX7_matrix_1 ?_
  refine J_put (pc := 2) C dX7_matrix_2 0 rfl rfl nX7_matrix_X7 tyX7 tyX7_ok nmX7 0 (by decide) mX7_matrix_f72 rfl rfl (v := iV 0) rfl rfl (Nat.le_of_ble_eq_true rfl) (sM_0_0 G S 0) ?_
  have hok1 := okM_up (k := 0) (j := 0) hok (show rngM 0 0 from (by decide : r32 0))
  refine J_iconst (pc := 5) C dX7_matrix_5 ?_
  refine J_istore_n (pc := 6) C dX7_matrix_6 (by decide) ?_
  exact J_sub (L1 := [some (.ref (G.2.2 0)), some (iV 0), none, none]) ⟨rfl, ⟨rfl, trivial⟩⟩ (h (by decide) p l e s m args below meth c G A C hok1)
set_option maxRecDepth 100000 in
set_option maxHeartbeats 4000000 in
theorem vc_X7_matrix_7 {x1 : Int} {S : St} {Qr : Int → St → Prop} {Qx : String → St → Prop} (h : r32 x1 → okM S → ((1600 ≤ x1 → R_X7_matrix_29 0 S Qr Qx) ∧ (x1 < 1600 → (ix x1 1600 ∧ (r32 (x1 + 1) ∧ R_X7_matrix_7 (x1 + 1) (up S 17 x1 0) Qr Qx))))) : R_X7_matrix_7 x1 S Qr Qx := by
  intro rx1
  intro p l e s m args below meth c G A C hok
  have h := h rx1 hok
  replace C : Cx wM cX7_matrix 4 RX7 wsX7_matrix (some .int) [] p l s m args meth c G A := C
  show J wM 4 rmX7_matrix p l e s m args below meth c G A (QQ 1 wM okM G Qr Qx A below args s rmX7_matrix.cells rmX7_matrix.slots) 0 0 S [some (.ref (G.2.2 0)), some (iV x1), none, none] [] 7
  refine J_iload_n (pc := 7) C dX7_matrix_7 rfl ?_
  refine J_sipush (pc := 8) C dX7_matrix_8 (by decide) ?_
  obtain ⟨h1, h2⟩ := h
  refine J_icmp_ge (pc := 11) (tgt := 27) C dX7_matrix_11 (by decide) rx1 (by decide) (fun cb => ?_) (fun cb => ?_)
  · have h1 := h1 cb
    refine J_iconst (pc := 27) C dX7_matrix_27 ?_
    refine J_istore_n (pc := 28) C dX7_matrix_28 (by decide) ?_
    exact J_sub (L1 := [some (.ref (G.2.2 0)), some (iV 0), none, none]) ⟨rfl, ⟨rfl, trivial⟩⟩ (h1 (by decide) p l e s m args below meth c G A C hok)
  · have h2 := h2 cb
    refine J_aload_n (pc := 14) C dX7_matrix_14 rfl ?_
    refine J_get (pc := 15) C dX7_matrix_15 0 rfl rfl nX7_matrix_X7 21 (by decide) mX7_matrix_f60 rfl (v := .ref (G.2.2 17)) rfl ?_
    refine J_iload_n (pc := 18) C dX7_matrix_18 rfl ?_
    refine J_lconst (pc := 19) C dX7_matrix_19 ?_
    obtain ⟨o3, h4⟩ := h2
    refine J_last (pc := 20) C dX7_matrix_20 17 17 rfl (by decide) o3 (sM_17 G S x1 0) ?_
    have hok5 := okM_up (k := 17) (j := x1) hok (show rngM 17 0 from (by decide : r64 0))
    refine J_iinc (pc := 21) C dX7_matrix_21 rfl (by decide) ?_
    refine J_goto (pc := 24) (tgt := 7) C dX7_matrix_24 (by decide) ?_
    obtain ⟨o6, h7⟩ := h4
    exact J_sub (L1 := [some (.ref (G.2.2 0)), some (iV (x1 + 1)), none, none]) ⟨rfl, ⟨rfl, trivial⟩⟩ (h7 o6 p l e s m args below meth c G A C hok5)
set_option maxRecDepth 100000 in
set_option maxHeartbeats 4000000 in
theorem vc_X7_matrix_29 {x1 : Int} {S : St} {Qr : Int → St → Prop} {Qx : String → St → Prop} (h : r32 x1 → okM S → (((S 0 6) ≤ x1 → M_X7_brings (S 0 1) (S 0 1) S (fun rv6 S4 => r32 rv6 → okM S4 → Qr rv6 S4) Qx) ∧ (x1 < (S 0 6) → (ix x1 40 ∧ (((S 9 x1) ≠ 0 → (r32 (x1 + 1) ∧ R_X7_matrix_29 (x1 + 1) S Qr Qx)) ∧ ((S 9 x1) = 0 → (r32 (-(S 8 x1)) ∧ M_X7_within (-(S 8 x1)) S (fun rv19 S17 => r64 rv19 → okM S17 → (ix ((40 * (S 5 x1)) + (S 6 x1)) 1600 ∧ (r32 (-(S17 8 x1)) ∧ M_X7_within (-(S17 8 x1)) (up S17 17 ((40 * (S 5 x1)) + (S 6 x1)) rv19) (fun rv29 S27 => r64 rv29 → okM S27 → (ix ((40 * (S 6 x1)) + (S 5 x1)) 1600 ∧ (ix ((40 * (S 5 x1)) + (S 5 x1)) 1600 ∧ (r64 (((up S27 17 ((40 * (S 6 x1)) + (S 5 x1)) rv29) 17 ((40 * (S 5 x1)) + (S 5 x1))) + (S27 8 x1)) ∧ M_X7_within (((up S27 17 ((40 * (S 6 x1)) + (S 5 x1)) rv29) 17 ((40 * (S 5 x1)) + (S 5 x1))) + (S27 8 x1)) (up S27 17 ((40 * (S 6 x1)) + (S 5 x1)) rv29) (fun rv41 S39 => r64 rv41 → okM S39 → (ix ((40 * (S 6 x1)) + (S 6 x1)) 1600 ∧ (r64 (((up S39 17 ((40 * (S 5 x1)) + (S 5 x1)) rv41) 17 ((40 * (S 6 x1)) + (S 6 x1))) + (S39 8 x1)) ∧ M_X7_within (((up S39 17 ((40 * (S 5 x1)) + (S 5 x1)) rv41) 17 ((40 * (S 6 x1)) + (S 6 x1))) + (S39 8 x1)) (up S39 17 ((40 * (S 5 x1)) + (S 5 x1)) rv41) (fun rv51 S49 => r64 rv51 → okM S49 → (r32 (x1 + 1) ∧ R_X7_matrix_29 (x1 + 1) (up S49 17 ((40 * (S 6 x1)) + (S 6 x1)) rv51) Qr Qx)) Qx))) Qx)))) Qx))) Qx))))))) : R_X7_matrix_29 x1 S Qr Qx := by
  intro rx1
  intro p l e s m args below meth c G A C hok
  have h := h rx1 hok
  replace C : Cx wM cX7_matrix 4 RX7 wsX7_matrix (some .int) [] p l s m args meth c G A := C
  show J wM 4 rmX7_matrix p l e s m args below meth c G A (QQ 1 wM okM G Qr Qx A below args s rmX7_matrix.cells rmX7_matrix.slots) 0 0 S [some (.ref (G.2.2 0)), some (iV x1), none, none] [] 29
  refine J_iload_n (pc := 29) C dX7_matrix_29 rfl ?_
  refine J_aload_n (pc := 30) C dX7_matrix_30 rfl ?_
  refine J_get (pc := 31) C dX7_matrix_31 0 rfl rfl nX7_matrix_X7 6 (by decide) mX7_matrix_f83 rfl (v := iV (S 0 6)) rfl ?_
  obtain ⟨h1, h2⟩ := h
  refine J_icmp_ge (pc := 34) (tgt := 176) C dX7_matrix_34 (by decide) rx1 (hok 0 6) (fun cb => ?_) (fun cb => ?_)
  · have h1 := h1 cb
    refine J_aload_n (pc := 176) C dX7_matrix_176 rfl ?_
    refine J_aload_n (pc := 177) C dX7_matrix_177 rfl ?_
    refine J_get (pc := 178) C dX7_matrix_178 0 rfl rfl nX7_matrix_X7 1 (by decide) mX7_matrix_f76 rfl (v := iV (S 0 1)) rfl ?_
    refine J_aload_n (pc := 181) C dX7_matrix_181 rfl ?_
    refine J_get (pc := 182) C dX7_matrix_182 0 rfl rfl nX7_matrix_X7 1 (by decide) mX7_matrix_f76 rfl (v := iV (S 0 1)) rfl ?_
    refine J_c1 (pc := 185) C (J_rV (pc := 185) C (h1 (hok 0 1) (hok 0 1)) dX7_matrix_185 rfl rfl 0 rfl rfl (cwV 2 C.1.2.2.2.2 gX7_matrix_X7_brings rfl rfl rfl (by decide +kernel) ⟨Nat.le_of_ble_eq_true rfl, Nat.le_of_ble_eq_true rfl⟩) hok (Nat.le_of_ble_eq_true rfl) ⟨Nat.le_of_ble_eq_true rfl, Nat.le_of_ble_eq_true rfl⟩) (fun E9 S9 ok9 q9 => JX_out C ok9 q9 (by decide) (by decide)) (fun rv6 S4 hr7 hok5 h3 => ?_)
    have h3 := h3 hr7 hok5
    exact J_iret (pc := 188) C dX7_matrix_188 hr7 hok5 h3 (by decide) (by decide)
  · have h2 := h2 cb
    refine J_aload_n (pc := 37) C dX7_matrix_37 rfl ?_
    refine J_get (pc := 38) C dX7_matrix_38 0 rfl rfl nX7_matrix_X7 11 (by decide) mX7_matrix_f35 rfl (v := .ref (G.2.2 9)) rfl ?_
    refine J_iload_n (pc := 41) C dX7_matrix_41 rfl ?_
    obtain ⟨o8, h9⟩ := h2
    refine J_zald (pc := 42) C dX7_matrix_42 9 9 rfl (by decide) o8 ?_
    obtain ⟨h10, h11⟩ := h9
    refine J_if_ne (pc := 43) (tgt := 170) C dX7_matrix_43 (by decide) (r01 (hok 9 x1)) (fun cb => ?_) (fun cb => ?_)
    · have h10 := h10 cb
      refine J_iinc (pc := 170) C dX7_matrix_170 rfl (by decide) ?_
      refine J_goto (pc := 173) (tgt := 29) C dX7_matrix_173 (by decide) ?_
      obtain ⟨o12, h13⟩ := h10
      exact J_sub (L1 := [some (.ref (G.2.2 0)), some (iV (x1 + 1)), none, none]) ⟨rfl, ⟨rfl, trivial⟩⟩ (h13 o12 p l e s m args below meth c G A C hok)
    · have h11 := h11 cb
      refine J_aload_n (pc := 46) C dX7_matrix_46 rfl ?_
      refine J_get (pc := 47) C dX7_matrix_47 0 rfl rfl nX7_matrix_X7 7 (by decide) mX7_matrix_f23 rfl (v := .ref (G.2.2 5)) rfl ?_
      refine J_iload_n (pc := 50) C dX7_matrix_50 rfl ?_
      refine J_iald (pc := 51) C dX7_matrix_51 5 5 rfl (by decide) o8 ?_
      refine J_istore_n (pc := 52) C dX7_matrix_52 (by decide) ?_
      refine J_aload_n (pc := 53) C dX7_matrix_53 rfl ?_
      refine J_get (pc := 54) C dX7_matrix_54 0 rfl rfl nX7_matrix_X7 8 (by decide) mX7_matrix_f26 rfl (v := .ref (G.2.2 6)) rfl ?_
      refine J_iload_n (pc := 57) C dX7_matrix_57 rfl ?_
      refine J_iald (pc := 58) C dX7_matrix_58 6 6 rfl (by decide) o8 ?_
      refine J_istore_n (pc := 59) C dX7_matrix_59 (by decide) ?_
      refine J_aload_n (pc := 60) C dX7_matrix_60 rfl ?_
      refine J_get (pc := 61) C dX7_matrix_61 0 rfl rfl nX7_matrix_X7 21 (by decide) mX7_matrix_f60 rfl (v := .ref (G.2.2 17)) rfl ?_
      refine J_bipush (pc := 64) C dX7_matrix_64 (by decide) ?_
      refine J_iload_n (pc := 66) C dX7_matrix_66 rfl ?_
      refine J_imul (pc := 67) C dX7_matrix_67 ?_
      refine J_iload_n (pc := 68) C dX7_matrix_68 rfl ?_
      refine J_iadd (pc := 69) C dX7_matrix_69 ?_
      refine J_aload_n (pc := 70) C dX7_matrix_70 rfl ?_
      refine J_get (pc := 71) C dX7_matrix_71 0 rfl rfl nX7_matrix_X7 10 (by decide) mX7_matrix_f32 rfl (v := .ref (G.2.2 8)) rfl ?_
      refine J_iload_n (pc := 74) C dX7_matrix_74 rfl ?_
      refine J_iald (pc := 75) C dX7_matrix_75 8 8 rfl (by decide) o8 ?_
      refine J_ineg (pc := 76) C dX7_matrix_76 ?_
      obtain ⟨o14, h15⟩ := h11
      refine J_i2l (pc := 77) C dX7_matrix_77 o14 ?_
      refine J_c2 (pc := 78) C (J_rS (pc := 78) C (h15 (r32_64 o14)) dX7_matrix_78 rfl rfl (va_cwS 1 C.1.2.2.2.2 gX7_matrix_X7_within rfl rfl rfl (by decide +kernel) ⟨Nat.le_of_ble_eq_true rfl, Nat.le_of_ble_eq_true rfl⟩) hok (Nat.le_of_ble_eq_true rfl) ⟨Nat.le_of_ble_eq_true rfl, Nat.le_of_ble_eq_true rfl⟩) (fun E9 S9 ok9 q9 => JX_out C ok9 q9 (by decide) (by decide)) (fun rv19 S17 hr20 hok18 h16 => ?_)
      have h16 := h16 hr20 hok18
      obtain ⟨o21, h22⟩ := h16
      refine J_last (pc := 81) C dX7_matrix_81 17 17 rfl (by decide) o21 (sM_17 G S17 ((40 * (S 5 x1)) + (S 6 x1)) rv19) ?_
      have hok23 := okM_up (k := 17) (j := ((40 * (S 5 x1)) + (S 6 x1))) hok18 (show rngM 17 rv19 from hr20)
      refine J_aload_n (pc := 82) C dX7_matrix_82 rfl ?_
      refine J_get (pc := 83) C dX7_matrix_83 0 rfl rfl nX7_matrix_X7 21 (by decide) mX7_matrix_f60 rfl (v := .ref (G.2.2 17)) rfl ?_
      refine J_bipush (pc := 86) C dX7_matrix_86 (by decide) ?_
      refine J_iload_n (pc := 88) C dX7_matrix_88 rfl ?_
      refine J_imul (pc := 89) C dX7_matrix_89 ?_
      refine J_iload_n (pc := 90) C dX7_matrix_90 rfl ?_
      refine J_iadd (pc := 91) C dX7_matrix_91 ?_
      refine J_aload_n (pc := 92) C dX7_matrix_92 rfl ?_
      refine J_get (pc := 93) C dX7_matrix_93 0 rfl rfl nX7_matrix_X7 10 (by decide) mX7_matrix_f32 rfl (v := .ref (G.2.2 8)) rfl ?_
      refine J_iload_n (pc := 96) C dX7_matrix_96 rfl ?_
      refine J_iald (pc := 97) C dX7_matrix_97 8 8 rfl (by decide) o8 ?_
      refine J_ineg (pc := 98) C dX7_matrix_98 ?_
      obtain ⟨o24, h25⟩ := h22
      refine J_i2l (pc := 99) C dX7_matrix_99 o24 ?_
      refine J_c2 (pc := 100) C (J_rS (pc := 100) C (h25 (r32_64 o24)) dX7_matrix_100 rfl rfl (va_cwS 1 C.1.2.2.2.2 gX7_matrix_X7_within rfl rfl rfl (by decide +kernel) ⟨Nat.le_of_ble_eq_true rfl, Nat.le_of_ble_eq_true rfl⟩) hok23 (Nat.le_of_ble_eq_true rfl) ⟨Nat.le_of_ble_eq_true rfl, Nat.le_of_ble_eq_true rfl⟩) (fun E9 S9 ok9 q9 => JX_out C ok9 q9 (by decide) (by decide)) (fun rv29 S27 hr30 hok28 h26 => ?_)
      have h26 := h26 hr30 hok28
      obtain ⟨o31, h32⟩ := h26
      refine J_last (pc := 103) C dX7_matrix_103 17 17 rfl (by decide) o31 (sM_17 G S27 ((40 * (S 6 x1)) + (S 5 x1)) rv29) ?_
      have hok33 := okM_up (k := 17) (j := ((40 * (S 6 x1)) + (S 5 x1))) hok28 (show rngM 17 rv29 from hr30)
      refine J_aload_n (pc := 104) C dX7_matrix_104 rfl ?_
      refine J_get (pc := 105) C dX7_matrix_105 0 rfl rfl nX7_matrix_X7 21 (by decide) mX7_matrix_f60 rfl (v := .ref (G.2.2 17)) rfl ?_
      refine J_bipush (pc := 108) C dX7_matrix_108 (by decide) ?_
      refine J_iload_n (pc := 110) C dX7_matrix_110 rfl ?_
      refine J_imul (pc := 111) C dX7_matrix_111 ?_
      refine J_iload_n (pc := 112) C dX7_matrix_112 rfl ?_
      refine J_iadd (pc := 113) C dX7_matrix_113 ?_
      refine J_aload_n (pc := 114) C dX7_matrix_114 rfl ?_
      refine J_get (pc := 115) C dX7_matrix_115 0 rfl rfl nX7_matrix_X7 21 (by decide) mX7_matrix_f60 rfl (v := .ref (G.2.2 17)) rfl ?_
      refine J_bipush (pc := 118) C dX7_matrix_118 (by decide) ?_
      refine J_iload_n (pc := 120) C dX7_matrix_120 rfl ?_
      refine J_imul (pc := 121) C dX7_matrix_121 ?_
      refine J_iload_n (pc := 122) C dX7_matrix_122 rfl ?_
      refine J_iadd (pc := 123) C dX7_matrix_123 ?_
      obtain ⟨o34, h35⟩ := h32
      refine J_lald (pc := 124) C dX7_matrix_124 17 17 rfl (by decide) o34 ?_
      refine J_aload_n (pc := 125) C dX7_matrix_125 rfl ?_
      refine J_get (pc := 126) C dX7_matrix_126 0 rfl rfl nX7_matrix_X7 10 (by decide) mX7_matrix_f32 rfl (v := .ref (G.2.2 8)) rfl ?_
      refine J_iload_n (pc := 129) C dX7_matrix_129 rfl ?_
      refine J_iald (pc := 130) C dX7_matrix_130 8 8 rfl (by decide) o8 ?_
      refine J_i2l (pc := 131) C dX7_matrix_131 (hok28 8 x1) ?_
      refine J_ladd (pc := 132) C dX7_matrix_132 ?_
      obtain ⟨o36, h37⟩ := h35
      refine J_c2 (pc := 133) C (J_rS (pc := 133) C (h37 o36) dX7_matrix_133 rfl rfl (va_cwS 1 C.1.2.2.2.2 gX7_matrix_X7_within rfl rfl rfl (by decide +kernel) ⟨Nat.le_of_ble_eq_true rfl, Nat.le_of_ble_eq_true rfl⟩) hok33 (Nat.le_of_ble_eq_true rfl) ⟨Nat.le_of_ble_eq_true rfl, Nat.le_of_ble_eq_true rfl⟩) (fun E9 S9 ok9 q9 => JX_out C ok9 q9 (by decide) (by decide)) (fun rv41 S39 hr42 hok40 h38 => ?_)
      have h38 := h38 hr42 hok40
      refine J_last (pc := 136) C dX7_matrix_136 17 17 rfl (by decide) o34 (sM_17 G S39 ((40 * (S 5 x1)) + (S 5 x1)) rv41) ?_
      have hok43 := okM_up (k := 17) (j := ((40 * (S 5 x1)) + (S 5 x1))) hok40 (show rngM 17 rv41 from hr42)
      refine J_aload_n (pc := 137) C dX7_matrix_137 rfl ?_
      refine J_get (pc := 138) C dX7_matrix_138 0 rfl rfl nX7_matrix_X7 21 (by decide) mX7_matrix_f60 rfl (v := .ref (G.2.2 17)) rfl ?_
      refine J_bipush (pc := 141) C dX7_matrix_141 (by decide) ?_
      refine J_iload_n (pc := 143) C dX7_matrix_143 rfl ?_
      refine J_imul (pc := 144) C dX7_matrix_144 ?_
      refine J_iload_n (pc := 145) C dX7_matrix_145 rfl ?_
      refine J_iadd (pc := 146) C dX7_matrix_146 ?_
      refine J_aload_n (pc := 147) C dX7_matrix_147 rfl ?_
      refine J_get (pc := 148) C dX7_matrix_148 0 rfl rfl nX7_matrix_X7 21 (by decide) mX7_matrix_f60 rfl (v := .ref (G.2.2 17)) rfl ?_
      refine J_bipush (pc := 151) C dX7_matrix_151 (by decide) ?_
      refine J_iload_n (pc := 153) C dX7_matrix_153 rfl ?_
      refine J_imul (pc := 154) C dX7_matrix_154 ?_
      refine J_iload_n (pc := 155) C dX7_matrix_155 rfl ?_
      refine J_iadd (pc := 156) C dX7_matrix_156 ?_
      obtain ⟨o44, h45⟩ := h38
      refine J_lald (pc := 157) C dX7_matrix_157 17 17 rfl (by decide) o44 ?_
      refine J_aload_n (pc := 158) C dX7_matrix_158 rfl ?_
      refine J_get (pc := 159) C dX7_matrix_159 0 rfl rfl nX7_matrix_X7 10 (by decide) mX7_matrix_f32 rfl (v := .ref (G.2.2 8)) rfl ?_
      refine J_iload_n (pc := 162) C dX7_matrix_162 rfl ?_
      refine J_iald (pc := 163) C dX7_matrix_163 8 8 rfl (by decide) o8 ?_
      refine J_i2l (pc := 164) C dX7_matrix_164 (hok40 8 x1) ?_
      refine J_ladd (pc := 165) C dX7_matrix_165 ?_
      obtain ⟨o46, h47⟩ := h45
      refine J_c2 (pc := 166) C (J_rS (pc := 166) C (h47 o46) dX7_matrix_166 rfl rfl (va_cwS 1 C.1.2.2.2.2 gX7_matrix_X7_within rfl rfl rfl (by decide +kernel) ⟨Nat.le_of_ble_eq_true rfl, Nat.le_of_ble_eq_true rfl⟩) hok43 (Nat.le_of_ble_eq_true rfl) ⟨Nat.le_of_ble_eq_true rfl, Nat.le_of_ble_eq_true rfl⟩) (fun E9 S9 ok9 q9 => JX_out C ok9 q9 (by decide) (by decide)) (fun rv51 S49 hr52 hok50 h48 => ?_)
      have h48 := h48 hr52 hok50
      refine J_last (pc := 169) C dX7_matrix_169 17 17 rfl (by decide) o44 (sM_17 G S49 ((40 * (S 6 x1)) + (S 6 x1)) rv51) ?_
      have hok53 := okM_up (k := 17) (j := ((40 * (S 6 x1)) + (S 6 x1))) hok50 (show rngM 17 rv51 from hr52)
      refine J_iinc (pc := 170) C dX7_matrix_170 rfl (by decide) ?_
      refine J_goto (pc := 173) (tgt := 29) C dX7_matrix_173 (by decide) ?_
      obtain ⟨o54, h55⟩ := h48
      exact J_sub (L1 := [some (.ref (G.2.2 0)), some (iV (x1 + 1)), none, none]) ⟨rfl, ⟨rfl, trivial⟩⟩ (h55 o54 p l e s m args below meth c G A C hok53)
def rmX7_member : Room := { frames := 2, cells := 0, slots := 0, locals := 43 }
theorem mX7_member_f83 : Cond.fieldLink RX7 83 "StressworkModel" "members" "I" ∈ wsX7_member := by decide +kernel
theorem nX7_member_X7 : ∀ x ∈ wsX70, x ∈ wsX7_member := by decide +kernel
def M_X7_member (a0 a1 a2 : Int) (S : St) (Qr : Int → St → Prop) (Qx : String → St → Prop) : Prop := r32 a0 → r32 a1 → r32 a2 → MM 1 wM okM yX7_member wsX7_member rmX7_member (fun G => [.ref (G.2.2 0), iV a0, iV a1, iV a2]) S Qr Qx
def R_X7_member_21 (x1 x2 x3 s0 : Int) (S : St) (Qr : Int → St → Prop) (Qx : String → St → Prop) : Prop := r32 x1 → r32 x2 → r32 x3 → r32 s0 → RR 1 wM okM wsX7_member rmX7_member cX7_member 7 RX7 (some .int) [] 0 0 (fun G => [some (.ref (G.2.2 0)), some (iV x1), some (iV x2), some (iV x3), none, none, none]) (fun G => [iV s0]) 21 S Qr Qx
def R_X7_member_42 (x1 x2 x3 x4 s0 : Int) (S : St) (Qr : Int → St → Prop) (Qx : String → St → Prop) : Prop := r32 x1 → r32 x2 → r32 x3 → r32 x4 → r32 s0 → RR 1 wM okM wsX7_member rmX7_member cX7_member 7 RX7 (some .int) [] 0 0 (fun G => [some (.ref (G.2.2 0)), some (iV x1), some (iV x2), some (iV x3), some (iV x4), none, none]) (fun G => [iV s0]) 42 S Qr Qx
def R_X7_member_73 (x1 x2 x3 x4 x5 s0 : Int) (S : St) (Qr : Int → St → Prop) (Qx : String → St → Prop) : Prop := r32 x1 → r32 x2 → r32 x3 → r32 x4 → r32 x5 → r32 s0 → RR 1 wM okM wsX7_member rmX7_member cX7_member 7 RX7 (some .int) [] 0 0 (fun G => [some (.ref (G.2.2 0)), some (iV x1), some (iV x2), some (iV x3), some (iV x4), some (iV x5), none]) (fun G => [iV s0]) 73 S Qr Qx
set_option maxRecDepth 100000 in
set_option maxHeartbeats 4000000 in
theorem vc_X7_member {a0 a1 a2 : Int} {S : St} {Qr : Int → St → Prop} {Qx : String → St → Prop} (h : r32 a0 → r32 a1 → r32 a2 → okM S → M_X7_isJoint a0 S (fun rv4 S2 => r32 rv4 → okM S2 → ((rv4 = 0 → R_X7_member_21 a0 a1 a2 0 S2 Qr Qx) ∧ (rv4 ≠ 0 → M_X7_isJoint a1 S2 (fun rv11 S9 => r32 rv11 → okM S9 → ((rv11 = 0 → R_X7_member_21 a0 a1 a2 0 S9 Qr Qx) ∧ (rv11 ≠ 0 → R_X7_member_21 a0 a1 a2 1 S9 Qr Qx))) Qx))) Qx) : M_X7_member a0 a1 a2 S Qr Qx := by
  intro ra0 ra1 ra2
  refine MM_of adM (by decide +kernel) rfl (Lf := fun G => [some (.ref (G.2.2 0)), some (iV a0), some (iV a1), some (iV a2), none, none, none]) (fun G => by show _ ≤ _; exact Nat.le_of_ble_eq_true rfl) (fun G => rfl) ?_
  intro p l e s m args below meth c G A C hok
  have h := h ra0 ra1 ra2 hok
  replace C : Cx wM cX7_member 7 RX7 wsX7_member (some .int) [] p l s m args meth c G A := C
  show J wM 7 rmX7_member p l e s m args below meth c G A (QQ 1 wM okM G Qr Qx A below args s rmX7_member.cells rmX7_member.slots) 0 0 S [some (.ref (G.2.2 0)), some (iV a0), some (iV a1), some (iV a2), none, none, none] [] 0
  refine J_aload_n (pc := 0) C dX7_member_0 rfl ?_
  refine J_iload_n (pc := 1) C dX7_member_1 rfl ?_
  refine J_c1 (pc := 2) C (J_rV (pc := 2) C (h ra0) dX7_member_2 rfl rfl 0 rfl rfl (cwV 1 C.1.2.2.2.2 gX7_member_X7_isJoint rfl rfl rfl (by decide +kernel) ⟨Nat.le_of_ble_eq_true rfl, Nat.le_of_ble_eq_true rfl⟩) hok (Nat.le_of_ble_eq_true rfl) ⟨Nat.le_of_ble_eq_true rfl, Nat.le_of_ble_eq_true rfl⟩) (fun E9 S9 ok9 q9 => JX_out C ok9 q9 (by decide) (by decide)) (fun rv4 S2 hr5 hok3 h1 => ?_)
  have h1 := h1 hr5 hok3
  obtain ⟨h6, h7⟩ := h1
  refine J_if_eq (pc := 5) (tgt := 20) C dX7_member_5 (by decide) hr5 (fun cb => ?_) (fun cb => ?_)
  · have h6 := h6 cb
    refine J_iconst (pc := 20) C dX7_member_20 ?_
    exact J_sub (L1 := [some (.ref (G.2.2 0)), some (iV a0), some (iV a1), some (iV a2), none, none, none]) ⟨rfl, ⟨rfl, ⟨rfl, ⟨rfl, trivial⟩⟩⟩⟩ (h6 ra0 ra1 ra2 (by decide) p l e s m args below meth c G A C hok3)
  · have h7 := h7 cb
    refine J_aload_n (pc := 8) C dX7_member_8 rfl ?_
    refine J_iload_n (pc := 9) C dX7_member_9 rfl ?_
    refine J_c1 (pc := 10) C (J_rV (pc := 10) C (h7 ra1) dX7_member_10 rfl rfl 0 rfl rfl (cwV 1 C.1.2.2.2.2 gX7_member_X7_isJoint rfl rfl rfl (by decide +kernel) ⟨Nat.le_of_ble_eq_true rfl, Nat.le_of_ble_eq_true rfl⟩) hok3 (Nat.le_of_ble_eq_true rfl) ⟨Nat.le_of_ble_eq_true rfl, Nat.le_of_ble_eq_true rfl⟩) (fun E9 S9 ok9 q9 => JX_out C ok9 q9 (by decide) (by decide)) (fun rv11 S9 hr12 hok10 h8 => ?_)
    have h8 := h8 hr12 hok10
    obtain ⟨h13, h14⟩ := h8
    refine J_if_eq (pc := 13) (tgt := 20) C dX7_member_13 (by decide) hr12 (fun cb => ?_) (fun cb => ?_)
    · have h13 := h13 cb
      refine J_iconst (pc := 20) C dX7_member_20 ?_
      exact J_sub (L1 := [some (.ref (G.2.2 0)), some (iV a0), some (iV a1), some (iV a2), none, none, none]) ⟨rfl, ⟨rfl, ⟨rfl, ⟨rfl, trivial⟩⟩⟩⟩ (h13 ra0 ra1 ra2 (by decide) p l e s m args below meth c G A C hok10)
    · have h14 := h14 cb
      refine J_iconst (pc := 16) C dX7_member_16 ?_
      refine J_goto (pc := 17) (tgt := 21) C dX7_member_17 (by decide) ?_
      exact J_sub (L1 := [some (.ref (G.2.2 0)), some (iV a0), some (iV a1), some (iV a2), none, none, none]) ⟨rfl, ⟨rfl, ⟨rfl, ⟨rfl, trivial⟩⟩⟩⟩ (h14 ra0 ra1 ra2 (by decide) p l e s m args below meth c G A C hok10)
set_option maxRecDepth 100000 in
set_option maxHeartbeats 4000000 in
theorem vc_X7_member_21 {x1 x2 x3 s0 : Int} {S : St} {Qr : Int → St → Prop} {Qx : String → St → Prop} (h : r32 x1 → r32 x2 → r32 x3 → r32 s0 → okM S → ((x1 = x2 → R_X7_member_42 x1 x2 x3 s0 0 S Qr Qx) ∧ (x1 ≠ x2 → M_X7_isIn x3 0 2 S (fun rv6 S4 => r32 rv6 → okM S4 → ((rv6 = 0 → R_X7_member_42 x1 x2 x3 s0 0 S4 Qr Qx) ∧ (rv6 ≠ 0 → R_X7_member_42 x1 x2 x3 s0 1 S4 Qr Qx))) Qx))) : R_X7_member_21 x1 x2 x3 s0 S Qr Qx := by
  intro rx1 rx2 rx3 rs0
  intro p l e s m args below meth c G A C hok
  have h := h rx1 rx2 rx3 rs0 hok
  replace C : Cx wM cX7_member 7 RX7 wsX7_member (some .int) [] p l s m args meth c G A := C
  show J wM 7 rmX7_member p l e s m args below meth c G A (QQ 1 wM okM G Qr Qx A below args s rmX7_member.cells rmX7_member.slots) 0 0 S [some (.ref (G.2.2 0)), some (iV x1), some (iV x2), some (iV x3), none, none, none] [iV s0] 21
  refine J_istore (pc := 21) C dX7_member_21 (by decide) ?_
  refine J_iload_n (pc := 23) C dX7_member_23 rfl ?_
  refine J_iload_n (pc := 24) C dX7_member_24 rfl ?_
  obtain ⟨h1, h2⟩ := h
  refine J_icmp_eq (pc := 25) (tgt := 41) C dX7_member_25 (by decide) rx1 rx2 (fun cb => ?_) (fun cb => ?_)
  · have h1 := h1 cb
    refine J_iconst (pc := 41) C dX7_member_41 ?_
    exact J_sub (L1 := [some (.ref (G.2.2 0)), some (iV x1), some (iV x2), some (iV x3), some (iV s0), none, none]) ⟨rfl, ⟨rfl, ⟨rfl, ⟨rfl, ⟨rfl, trivial⟩⟩⟩⟩⟩ (h1 rx1 rx2 rx3 rs0 (by decide) p l e s m args below meth c G A C hok)
  · have h2 := h2 cb
    refine J_iload_n (pc := 28) C dX7_member_28 rfl ?_
    refine J_iconst (pc := 29) C dX7_member_29 ?_
    refine J_iconst (pc := 30) C dX7_member_30 ?_
    refine J_c1 (pc := 31) C (J_rS (pc := 31) C (h2 rx3 (by decide) (by decide)) dX7_member_31 rfl rfl (va_cwS 3 C.1.2.2.2.2 gX7_member_X7_isIn rfl rfl rfl (by decide +kernel) ⟨Nat.le_of_ble_eq_true rfl, Nat.le_of_ble_eq_true rfl⟩) hok (Nat.le_of_ble_eq_true rfl) ⟨Nat.le_of_ble_eq_true rfl, Nat.le_of_ble_eq_true rfl⟩) (fun E9 S9 ok9 q9 => JX_out C ok9 q9 (by decide) (by decide)) (fun rv6 S4 hr7 hok5 h3 => ?_)
    have h3 := h3 hr7 hok5
    obtain ⟨h8, h9⟩ := h3
    refine J_if_eq (pc := 34) (tgt := 41) C dX7_member_34 (by decide) hr7 (fun cb => ?_) (fun cb => ?_)
    · have h8 := h8 cb
      refine J_iconst (pc := 41) C dX7_member_41 ?_
      exact J_sub (L1 := [some (.ref (G.2.2 0)), some (iV x1), some (iV x2), some (iV x3), some (iV s0), none, none]) ⟨rfl, ⟨rfl, ⟨rfl, ⟨rfl, ⟨rfl, trivial⟩⟩⟩⟩⟩ (h8 rx1 rx2 rx3 rs0 (by decide) p l e s m args below meth c G A C hok5)
    · have h9 := h9 cb
      refine J_iconst (pc := 37) C dX7_member_37 ?_
      refine J_goto (pc := 38) (tgt := 42) C dX7_member_38 (by decide) ?_
      exact J_sub (L1 := [some (.ref (G.2.2 0)), some (iV x1), some (iV x2), some (iV x3), some (iV s0), none, none]) ⟨rfl, ⟨rfl, ⟨rfl, ⟨rfl, ⟨rfl, trivial⟩⟩⟩⟩⟩ (h9 rx1 rx2 rx3 rs0 (by decide) p l e s m args below meth c G A C hok5)
set_option maxRecDepth 100000 in
set_option maxHeartbeats 4000000 in
theorem vc_X7_member_42 {x1 x2 x3 x4 s0 : Int} {S : St} {Qr : Int → St → Prop} {Qx : String → St → Prop} (h : r32 x1 → r32 x2 → r32 x3 → r32 x4 → r32 s0 → okM S → ((x4 = 0 → R_X7_member_73 x1 x2 x3 x4 s0 0 S Qr Qx) ∧ (x4 ≠ 0 → ((40 ≤ (S 0 6) → R_X7_member_73 x1 x2 x3 x4 s0 0 S Qr Qx) ∧ ((S 0 6) < 40 → M_X7_between x1 x2 S (fun rv8 S6 => r32 rv8 → okM S6 → ((rv8 ≠ (-1) → R_X7_member_73 x1 x2 x3 x4 s0 0 S6 Qr Qx) ∧ (rv8 = (-1) → R_X7_member_73 x1 x2 x3 x4 s0 1 S6 Qr Qx))) Qx))))) : R_X7_member_42 x1 x2 x3 x4 s0 S Qr Qx := by
  intro rx1 rx2 rx3 rx4 rs0
  intro p l e s m args below meth c G A C hok
  have h := h rx1 rx2 rx3 rx4 rs0 hok
  replace C : Cx wM cX7_member 7 RX7 wsX7_member (some .int) [] p l s m args meth c G A := C
  show J wM 7 rmX7_member p l e s m args below meth c G A (QQ 1 wM okM G Qr Qx A below args s rmX7_member.cells rmX7_member.slots) 0 0 S [some (.ref (G.2.2 0)), some (iV x1), some (iV x2), some (iV x3), some (iV x4), none, none] [iV s0] 42
  refine J_istore (pc := 42) C dX7_member_42 (by decide) ?_
  refine J_iload (pc := 44) C dX7_member_44 rfl ?_
  obtain ⟨h1, h2⟩ := h
  refine J_if_eq (pc := 46) (tgt := 72) C dX7_member_46 (by decide) rx4 (fun cb => ?_) (fun cb => ?_)
  · have h1 := h1 cb
    refine J_iconst (pc := 72) C dX7_member_72 ?_
    exact J_sub (L1 := [some (.ref (G.2.2 0)), some (iV x1), some (iV x2), some (iV x3), some (iV x4), some (iV s0), none]) ⟨rfl, ⟨rfl, ⟨rfl, ⟨rfl, ⟨rfl, ⟨rfl, trivial⟩⟩⟩⟩⟩⟩ (h1 rx1 rx2 rx3 rx4 rs0 (by decide) p l e s m args below meth c G A C hok)
  · have h2 := h2 cb
    refine J_aload_n (pc := 49) C dX7_member_49 rfl ?_
    refine J_get (pc := 50) C dX7_member_50 0 rfl rfl nX7_member_X7 6 (by decide) mX7_member_f83 rfl (v := iV (S 0 6)) rfl ?_
    refine J_bipush (pc := 53) C dX7_member_53 (by decide) ?_
    obtain ⟨h3, h4⟩ := h2
    refine J_icmp_ge (pc := 55) (tgt := 72) C dX7_member_55 (by decide) (hok 0 6) (by decide) (fun cb => ?_) (fun cb => ?_)
    · have h3 := h3 cb
      refine J_iconst (pc := 72) C dX7_member_72 ?_
      exact J_sub (L1 := [some (.ref (G.2.2 0)), some (iV x1), some (iV x2), some (iV x3), some (iV x4), some (iV s0), none]) ⟨rfl, ⟨rfl, ⟨rfl, ⟨rfl, ⟨rfl, ⟨rfl, trivial⟩⟩⟩⟩⟩⟩ (h3 rx1 rx2 rx3 rx4 rs0 (by decide) p l e s m args below meth c G A C hok)
    · have h4 := h4 cb
      refine J_aload_n (pc := 58) C dX7_member_58 rfl ?_
      refine J_iload_n (pc := 59) C dX7_member_59 rfl ?_
      refine J_iload_n (pc := 60) C dX7_member_60 rfl ?_
      refine J_c1 (pc := 61) C (J_rV (pc := 61) C (h4 rx1 rx2) dX7_member_61 rfl rfl 0 rfl rfl (cwV 2 C.1.2.2.2.2 gX7_member_X7_between rfl rfl rfl (by decide +kernel) ⟨Nat.le_of_ble_eq_true rfl, Nat.le_of_ble_eq_true rfl⟩) hok (Nat.le_of_ble_eq_true rfl) ⟨Nat.le_of_ble_eq_true rfl, Nat.le_of_ble_eq_true rfl⟩) (fun E9 S9 ok9 q9 => JX_out C ok9 q9 (by decide) (by decide)) (fun rv8 S6 hr9 hok7 h5 => ?_)
      have h5 := h5 hr9 hok7
      refine J_iconst (pc := 64) C dX7_member_64 ?_
      obtain ⟨h10, h11⟩ := h5
      refine J_icmp_ne (pc := 65) (tgt := 72) C dX7_member_65 (by decide) hr9 (by decide) (fun cb => ?_) (fun cb => ?_)
      · have h10 := h10 cb
        refine J_iconst (pc := 72) C dX7_member_72 ?_
        exact J_sub (L1 := [some (.ref (G.2.2 0)), some (iV x1), some (iV x2), some (iV x3), some (iV x4), some (iV s0), none]) ⟨rfl, ⟨rfl, ⟨rfl, ⟨rfl, ⟨rfl, ⟨rfl, trivial⟩⟩⟩⟩⟩⟩ (h10 rx1 rx2 rx3 rx4 rs0 (by decide) p l e s m args below meth c G A C hok7)
      · have h11 := h11 cb
        refine J_iconst (pc := 68) C dX7_member_68 ?_
        refine J_goto (pc := 69) (tgt := 73) C dX7_member_69 (by decide) ?_
        exact J_sub (L1 := [some (.ref (G.2.2 0)), some (iV x1), some (iV x2), some (iV x3), some (iV x4), some (iV s0), none]) ⟨rfl, ⟨rfl, ⟨rfl, ⟨rfl, ⟨rfl, ⟨rfl, trivial⟩⟩⟩⟩⟩⟩ (h11 rx1 rx2 rx3 rx4 rs0 (by decide) p l e s m args below meth c G A C hok7)
set_option maxRecDepth 100000 in
set_option maxHeartbeats 4000000 in
theorem vc_X7_member_73 {x1 x2 x3 x4 x5 s0 : Int} {S : St} {Qr : Int → St → Prop} {Qx : String → St → Prop} (h : r32 x1 → r32 x2 → r32 x3 → r32 x4 → r32 x5 → r32 s0 → okM S → ((x4 ≠ 0 → ((x5 ≠ 0 → ((s0 = 0 → M_X7_holds 3 S (fun rv10 S8 => r32 rv10 → okM S8 → ((rv10 = 0 → Qr 0 S8) ∧ (rv10 ≠ 0 → M_X7_sets x1 x2 x3 S8 (fun rv17 S15 => r32 rv17 → okM S15 → Qr rv17 S15) Qx))) Qx) ∧ (s0 ≠ 0 → M_X7_holds 0 S (fun rv22 S20 => r32 rv22 → okM S20 → ((rv22 = 0 → Qr 0 S20) ∧ (rv22 ≠ 0 → M_X7_sets x1 x2 x3 S20 (fun rv29 S27 => r32 rv29 → okM S27 → Qr rv29 S27) Qx))) Qx))) ∧ (x5 = 0 → M_X7_holds 2 S (fun rv34 S32 => r32 rv34 → okM S32 → ((rv34 = 0 → Qr 0 S32) ∧ (rv34 ≠ 0 → M_X7_sets x1 x2 x3 S32 (fun rv41 S39 => r32 rv41 → okM S39 → Qr rv41 S39) Qx))) Qx))) ∧ (x4 = 0 → M_X7_holds 1 S (fun rv46 S44 => r32 rv46 → okM S44 → ((rv46 = 0 → Qr 0 S44) ∧ (rv46 ≠ 0 → M_X7_sets x1 x2 x3 S44 (fun rv53 S51 => r32 rv53 → okM S51 → Qr rv53 S51) Qx))) Qx))) : R_X7_member_73 x1 x2 x3 x4 x5 s0 S Qr Qx := by
  intro rx1 rx2 rx3 rx4 rx5 rs0
  intro p l e s m args below meth c G A C hok
  have h := h rx1 rx2 rx3 rx4 rx5 rs0 hok
  replace C : Cx wM cX7_member 7 RX7 wsX7_member (some .int) [] p l s m args meth c G A := C
  show J wM 7 rmX7_member p l e s m args below meth c G A (QQ 1 wM okM G Qr Qx A below args s rmX7_member.cells rmX7_member.slots) 0 0 S [some (.ref (G.2.2 0)), some (iV x1), some (iV x2), some (iV x3), some (iV x4), some (iV x5), none] [iV s0] 73
  refine J_istore (pc := 73) C dX7_member_73 (by decide) ?_
  refine J_aload_n (pc := 75) C dX7_member_75 rfl ?_
  refine J_iload (pc := 76) C dX7_member_76 rfl ?_
  obtain ⟨h1, h2⟩ := h
  refine J_if_ne (pc := 78) (tgt := 85) C dX7_member_78 (by decide) rx4 (fun cb => ?_) (fun cb => ?_)
  · have h1 := h1 cb
    refine J_iload (pc := 85) C dX7_member_85 rfl ?_
    obtain ⟨h3, h4⟩ := h1
    refine J_if_ne (pc := 87) (tgt := 94) C dX7_member_87 (by decide) rx5 (fun cb => ?_) (fun cb => ?_)
    · have h3 := h3 cb
      refine J_iload (pc := 94) C dX7_member_94 rfl ?_
      obtain ⟨h5, h6⟩ := h3
      refine J_if_eq (pc := 96) (tgt := 103) C dX7_member_96 (by decide) rs0 (fun cb => ?_) (fun cb => ?_)
      · have h5 := h5 cb
        refine J_iconst (pc := 103) C dX7_member_103 ?_
        refine J_c1 (pc := 104) C (J_rV (pc := 104) C (h5 (by decide)) dX7_member_104 rfl rfl 0 rfl rfl (cwV 1 C.1.2.2.2.2 gX7_member_X7_holds rfl rfl rfl (by decide +kernel) ⟨Nat.le_of_ble_eq_true rfl, Nat.le_of_ble_eq_true rfl⟩) hok (Nat.le_of_ble_eq_true rfl) ⟨Nat.le_of_ble_eq_true rfl, Nat.le_of_ble_eq_true rfl⟩) (fun E9 S9 ok9 q9 => JX_out C ok9 q9 (by decide) (by decide)) (fun rv10 S8 hr11 hok9 h7 => ?_)
        have h7 := h7 hr11 hok9
        obtain ⟨h12, h13⟩ := h7
        refine J_if_eq (pc := 107) (tgt := 120) C dX7_member_107 (by decide) hr11 (fun cb => ?_) (fun cb => ?_)
        · have h12 := h12 cb
          refine J_iconst (pc := 120) C dX7_member_120 ?_
          exact J_iret (pc := 121) C dX7_member_121 (by decide) hok9 h12 (by decide) (by decide)
        · have h13 := h13 cb
          refine J_aload_n (pc := 110) C dX7_member_110 rfl ?_
          refine J_iload_n (pc := 111) C dX7_member_111 rfl ?_
          refine J_iload_n (pc := 112) C dX7_member_112 rfl ?_
          refine J_iload_n (pc := 113) C dX7_member_113 rfl ?_
          refine J_c1 (pc := 114) C (J_rV (pc := 114) C (h13 rx1 rx2 rx3) dX7_member_114 rfl rfl 0 rfl rfl (cwV 3 C.1.2.2.2.2 gX7_member_X7_sets rfl rfl rfl (by decide +kernel) ⟨Nat.le_of_ble_eq_true rfl, Nat.le_of_ble_eq_true rfl⟩) hok9 (Nat.le_of_ble_eq_true rfl) ⟨Nat.le_of_ble_eq_true rfl, Nat.le_of_ble_eq_true rfl⟩) (fun E9 S9 ok9 q9 => JX_out C ok9 q9 (by decide) (by decide)) (fun rv17 S15 hr18 hok16 h14 => ?_)
          have h14 := h14 hr18 hok16
          refine J_goto (pc := 117) (tgt := 121) C dX7_member_117 (by decide) ?_
          exact J_iret (pc := 121) C dX7_member_121 hr18 hok16 h14 (by decide) (by decide)
      · have h6 := h6 cb
        refine J_iconst (pc := 99) C dX7_member_99 ?_
        refine J_goto (pc := 100) (tgt := 104) C dX7_member_100 (by decide) ?_
        refine J_c1 (pc := 104) C (J_rV (pc := 104) C (h6 (by decide)) dX7_member_104 rfl rfl 0 rfl rfl (cwV 1 C.1.2.2.2.2 gX7_member_X7_holds rfl rfl rfl (by decide +kernel) ⟨Nat.le_of_ble_eq_true rfl, Nat.le_of_ble_eq_true rfl⟩) hok (Nat.le_of_ble_eq_true rfl) ⟨Nat.le_of_ble_eq_true rfl, Nat.le_of_ble_eq_true rfl⟩) (fun E9 S9 ok9 q9 => JX_out C ok9 q9 (by decide) (by decide)) (fun rv22 S20 hr23 hok21 h19 => ?_)
        have h19 := h19 hr23 hok21
        obtain ⟨h24, h25⟩ := h19
        refine J_if_eq (pc := 107) (tgt := 120) C dX7_member_107 (by decide) hr23 (fun cb => ?_) (fun cb => ?_)
        · have h24 := h24 cb
          refine J_iconst (pc := 120) C dX7_member_120 ?_
          exact J_iret (pc := 121) C dX7_member_121 (by decide) hok21 h24 (by decide) (by decide)
        · have h25 := h25 cb
          refine J_aload_n (pc := 110) C dX7_member_110 rfl ?_
          refine J_iload_n (pc := 111) C dX7_member_111 rfl ?_
          refine J_iload_n (pc := 112) C dX7_member_112 rfl ?_
          refine J_iload_n (pc := 113) C dX7_member_113 rfl ?_
          refine J_c1 (pc := 114) C (J_rV (pc := 114) C (h25 rx1 rx2 rx3) dX7_member_114 rfl rfl 0 rfl rfl (cwV 3 C.1.2.2.2.2 gX7_member_X7_sets rfl rfl rfl (by decide +kernel) ⟨Nat.le_of_ble_eq_true rfl, Nat.le_of_ble_eq_true rfl⟩) hok21 (Nat.le_of_ble_eq_true rfl) ⟨Nat.le_of_ble_eq_true rfl, Nat.le_of_ble_eq_true rfl⟩) (fun E9 S9 ok9 q9 => JX_out C ok9 q9 (by decide) (by decide)) (fun rv29 S27 hr30 hok28 h26 => ?_)
          have h26 := h26 hr30 hok28
          refine J_goto (pc := 117) (tgt := 121) C dX7_member_117 (by decide) ?_
          exact J_iret (pc := 121) C dX7_member_121 hr30 hok28 h26 (by decide) (by decide)
    · have h4 := h4 cb
      refine J_iconst (pc := 90) C dX7_member_90 ?_
      refine J_goto (pc := 91) (tgt := 104) C dX7_member_91 (by decide) ?_
      refine J_c1 (pc := 104) C (J_rV (pc := 104) C (h4 (by decide)) dX7_member_104 rfl rfl 0 rfl rfl (cwV 1 C.1.2.2.2.2 gX7_member_X7_holds rfl rfl rfl (by decide +kernel) ⟨Nat.le_of_ble_eq_true rfl, Nat.le_of_ble_eq_true rfl⟩) hok (Nat.le_of_ble_eq_true rfl) ⟨Nat.le_of_ble_eq_true rfl, Nat.le_of_ble_eq_true rfl⟩) (fun E9 S9 ok9 q9 => JX_out C ok9 q9 (by decide) (by decide)) (fun rv34 S32 hr35 hok33 h31 => ?_)
      have h31 := h31 hr35 hok33
      obtain ⟨h36, h37⟩ := h31
      refine J_if_eq (pc := 107) (tgt := 120) C dX7_member_107 (by decide) hr35 (fun cb => ?_) (fun cb => ?_)
      · have h36 := h36 cb
        refine J_iconst (pc := 120) C dX7_member_120 ?_
        exact J_iret (pc := 121) C dX7_member_121 (by decide) hok33 h36 (by decide) (by decide)
      · have h37 := h37 cb
        refine J_aload_n (pc := 110) C dX7_member_110 rfl ?_
        refine J_iload_n (pc := 111) C dX7_member_111 rfl ?_
        refine J_iload_n (pc := 112) C dX7_member_112 rfl ?_
        refine J_iload_n (pc := 113) C dX7_member_113 rfl ?_
        refine J_c1 (pc := 114) C (J_rV (pc := 114) C (h37 rx1 rx2 rx3) dX7_member_114 rfl rfl 0 rfl rfl (cwV 3 C.1.2.2.2.2 gX7_member_X7_sets rfl rfl rfl (by decide +kernel) ⟨Nat.le_of_ble_eq_true rfl, Nat.le_of_ble_eq_true rfl⟩) hok33 (Nat.le_of_ble_eq_true rfl) ⟨Nat.le_of_ble_eq_true rfl, Nat.le_of_ble_eq_true rfl⟩) (fun E9 S9 ok9 q9 => JX_out C ok9 q9 (by decide) (by decide)) (fun rv41 S39 hr42 hok40 h38 => ?_)
        have h38 := h38 hr42 hok40
        refine J_goto (pc := 117) (tgt := 121) C dX7_member_117 (by decide) ?_
        exact J_iret (pc := 121) C dX7_member_121 hr42 hok40 h38 (by decide) (by decide)
  · have h2 := h2 cb
    refine J_iconst (pc := 81) C dX7_member_81 ?_
    refine J_goto (pc := 82) (tgt := 104) C dX7_member_82 (by decide) ?_
    refine J_c1 (pc := 104) C (J_rV (pc := 104) C (h2 (by decide)) dX7_member_104 rfl rfl 0 rfl rfl (cwV 1 C.1.2.2.2.2 gX7_member_X7_holds rfl rfl rfl (by decide +kernel) ⟨Nat.le_of_ble_eq_true rfl, Nat.le_of_ble_eq_true rfl⟩) hok (Nat.le_of_ble_eq_true rfl) ⟨Nat.le_of_ble_eq_true rfl, Nat.le_of_ble_eq_true rfl⟩) (fun E9 S9 ok9 q9 => JX_out C ok9 q9 (by decide) (by decide)) (fun rv46 S44 hr47 hok45 h43 => ?_)
    have h43 := h43 hr47 hok45
    obtain ⟨h48, h49⟩ := h43
    refine J_if_eq (pc := 107) (tgt := 120) C dX7_member_107 (by decide) hr47 (fun cb => ?_) (fun cb => ?_)
    · have h48 := h48 cb
      refine J_iconst (pc := 120) C dX7_member_120 ?_
      exact J_iret (pc := 121) C dX7_member_121 (by decide) hok45 h48 (by decide) (by decide)
    · have h49 := h49 cb
      refine J_aload_n (pc := 110) C dX7_member_110 rfl ?_
      refine J_iload_n (pc := 111) C dX7_member_111 rfl ?_
      refine J_iload_n (pc := 112) C dX7_member_112 rfl ?_
      refine J_iload_n (pc := 113) C dX7_member_113 rfl ?_
      refine J_c1 (pc := 114) C (J_rV (pc := 114) C (h49 rx1 rx2 rx3) dX7_member_114 rfl rfl 0 rfl rfl (cwV 3 C.1.2.2.2.2 gX7_member_X7_sets rfl rfl rfl (by decide +kernel) ⟨Nat.le_of_ble_eq_true rfl, Nat.le_of_ble_eq_true rfl⟩) hok45 (Nat.le_of_ble_eq_true rfl) ⟨Nat.le_of_ble_eq_true rfl, Nat.le_of_ble_eq_true rfl⟩) (fun E9 S9 ok9 q9 => JX_out C ok9 q9 (by decide) (by decide)) (fun rv53 S51 hr54 hok52 h50 => ?_)
      have h50 := h50 hr54 hok52
      refine J_goto (pc := 117) (tgt := 121) C dX7_member_117 (by decide) ?_
      exact J_iret (pc := 121) C dX7_member_121 hr54 hok52 h50 (by decide) (by decide)
def rmX7_motions : Room := { frames := 4, cells := 0, slots := 0, locals := 104 }
theorem mX7_motions_f72 : Cond.fieldLink RX7 72 "StressworkModel" "thrown" "I" ∈ wsX7_motions := by decide +kernel
theorem nX7_motions_X7 : ∀ x ∈ wsX70, x ∈ wsX7_motions := by decide +kernel
theorem mX7_motions_f121 : Cond.fieldLink RX7 121 "StressworkModel" "columns" "I" ∈ wsX7_motions := by decide +kernel
def M_X7_motions (S : St) (Qr : Int → St → Prop) (Qx : String → St → Prop) : Prop := MM 1 wM okM yX7_motions wsX7_motions rmX7_motions (fun G => [.ref (G.2.2 0)]) S Qr Qx
set_option maxRecDepth 100000 in
set_option maxHeartbeats 4000000 in
theorem vc_X7_motions {S : St} {Qr : Int → St → Prop} {Qx : String → St → Prop} (h : okM S → M_X7_rankOf (-1) (up S 0 0 0) (fun rv5 S3 => r32 rv5 → okM S3 → (r32 ((S3 0 20) - rv5) ∧ Qr ((S3 0 20) - rv5) S3)) Qx) : M_X7_motions S Qr Qx := by
  refine MM_of adM (by decide +kernel) rfl (Lf := fun G => [some (.ref (G.2.2 0)), none]) (fun G => by show _ ≤ _; exact Nat.le_of_ble_eq_true rfl) (fun G => rfl) ?_
  intro p l e s m args below meth c G A C hok
  have h := h hok
  replace C : Cx wM cX7_motions 2 RX7 wsX7_motions (some .int) [] p l s m args meth c G A := C
  show J wM 2 rmX7_motions p l e s m args below meth c G A (QQ 1 wM okM G Qr Qx A below args s rmX7_motions.cells rmX7_motions.slots) 0 0 S [some (.ref (G.2.2 0)), none] [] 0
  refine J_aload_n (pc := 0) C dX7_motions_0 rfl ?_
  refine J_iconst (pc := 1) C dX7_motions_1 ?_
  refine J_put (pc := 2) C dX7_motions_2 0 rfl rfl nX7_motions_X7 tyX7 tyX7_ok nmX7 0 (by decide) mX7_motions_f72 rfl rfl (v := iV 0) rfl rfl (Nat.le_of_ble_eq_true rfl) (sM_0_0 G S 0) ?_
  have hok1 := okM_up (k := 0) (j := 0) hok (show rngM 0 0 from (by decide : r32 0))
  refine J_aload_n (pc := 5) C dX7_motions_5 rfl ?_
  refine J_iconst (pc := 6) C dX7_motions_6 ?_
  refine J_c1 (pc := 7) C (J_rV (pc := 7) C (h (by decide)) dX7_motions_7 rfl rfl 0 rfl rfl (cwV 1 C.1.2.2.2.2 gX7_motions_X7_rankOf rfl rfl rfl (by decide +kernel) ⟨Nat.le_of_ble_eq_true rfl, Nat.le_of_ble_eq_true rfl⟩) hok1 (Nat.le_of_ble_eq_true rfl) ⟨Nat.le_of_ble_eq_true rfl, Nat.le_of_ble_eq_true rfl⟩) (fun E9 S9 ok9 q9 => JX_out C ok9 q9 (by decide) (by decide)) (fun rv5 S3 hr6 hok4 h2 => ?_)
  have h2 := h2 hr6 hok4
  refine J_istore_n (pc := 10) C dX7_motions_10 (by decide) ?_
  refine J_aload_n (pc := 11) C dX7_motions_11 rfl ?_
  refine J_get (pc := 12) C dX7_motions_12 0 rfl rfl nX7_motions_X7 20 (by decide) mX7_motions_f121 rfl (v := iV (S3 0 20)) rfl ?_
  refine J_iload_n (pc := 15) C dX7_motions_15 rfl ?_
  refine J_isub (pc := 16) C dX7_motions_16 ?_
  obtain ⟨o7, h8⟩ := h2
  exact J_iret (pc := 17) C dX7_motions_17 o7 hok4 h8 (by decide) (by decide)
def rmX7_move : Room := { frames := 2, cells := 0, slots := 0, locals := 43 }
theorem mX7_move_f7 : Cond.fieldLink RX7 7 "StressworkModel" "x" "[I" ∈ wsX7_move := by decide +kernel
theorem nX7_move_X7 : ∀ x ∈ wsX70, x ∈ wsX7_move := by decide +kernel
theorem mX7_move_f13 : Cond.fieldLink RX7 13 "StressworkModel" "y" "[I" ∈ wsX7_move := by decide +kernel
def M_X7_move (a0 a1 a2 : Int) (S : St) (Qr : Int → St → Prop) (Qx : String → St → Prop) : Prop := r32 a0 → r32 a1 → r32 a2 → MM 0 wM okM yX7_move wsX7_move rmX7_move (fun G => [.ref (G.2.2 0), iV a0, iV a1, iV a2]) S Qr Qx
set_option maxRecDepth 100000 in
set_option maxHeartbeats 4000000 in
theorem vc_X7_move {a0 a1 a2 : Int} {S : St} {Qr : Int → St → Prop} {Qx : String → St → Prop} (h : r32 a0 → r32 a1 → r32 a2 → okM S → M_X7_isJoint a0 S (fun rv4 S2 => r32 rv4 → okM S2 → ((rv4 ≠ 0 → M_X7_isPoint a1 a2 S2 (fun rv11 S9 => r32 rv11 → okM S9 → ((rv11 = 0 → M_X7_holds 2 S9 (fun rv18 S16 => r32 rv18 → okM S16 → ((rv18 = 0 → Qr 0 S16) ∧ (rv18 ≠ 0 → (ix a0 10 ∧ Qr 0 (up (up S16 1 a0 a1) 2 a0 a2))))) Qx) ∧ (rv11 ≠ 0 → M_X7_holds 0 S9 (fun rv29 S27 => r32 rv29 → okM S27 → ((rv29 = 0 → Qr 0 S27) ∧ (rv29 ≠ 0 → (ix a0 10 ∧ Qr 0 (up (up S27 1 a0 a1) 2 a0 a2))))) Qx))) Qx) ∧ (rv4 = 0 → M_X7_holds 1 S2 (fun rv40 S38 => r32 rv40 → okM S38 → ((rv40 = 0 → Qr 0 S38) ∧ (rv40 ≠ 0 → (ix a0 10 ∧ Qr 0 (up (up S38 1 a0 a1) 2 a0 a2))))) Qx))) Qx) : M_X7_move a0 a1 a2 S Qr Qx := by
  intro ra0 ra1 ra2
  refine MM_of adM (by decide +kernel) rfl (Lf := fun G => [some (.ref (G.2.2 0)), some (iV a0), some (iV a1), some (iV a2)]) (fun G => by show _ ≤ _; exact Nat.le_of_ble_eq_true rfl) (fun G => rfl) ?_
  intro p l e s m args below meth c G A C hok
  have h := h ra0 ra1 ra2 hok
  replace C : Cx wM cX7_move 4 RX7 wsX7_move none [] p l s m args meth c G A := C
  show J wM 4 rmX7_move p l e s m args below meth c G A (QQ 0 wM okM G Qr Qx A below args s rmX7_move.cells rmX7_move.slots) 0 0 S [some (.ref (G.2.2 0)), some (iV a0), some (iV a1), some (iV a2)] [] 0
  refine J_aload_n (pc := 0) C dX7_move_0 rfl ?_
  refine J_aload_n (pc := 1) C dX7_move_1 rfl ?_
  refine J_iload_n (pc := 2) C dX7_move_2 rfl ?_
  refine J_c1 (pc := 3) C (J_rV (pc := 3) C (h ra0) dX7_move_3 rfl rfl 0 rfl rfl (cwV 1 C.1.2.2.2.2 gX7_move_X7_isJoint rfl rfl rfl (by decide +kernel) ⟨Nat.le_of_ble_eq_true rfl, Nat.le_of_ble_eq_true rfl⟩) hok (Nat.le_of_ble_eq_true rfl) ⟨Nat.le_of_ble_eq_true rfl, Nat.le_of_ble_eq_true rfl⟩) (fun E9 S9 ok9 q9 => JX_out C ok9 q9 (by decide) (by decide)) (fun rv4 S2 hr5 hok3 h1 => ?_)
  have h1 := h1 hr5 hok3
  obtain ⟨h6, h7⟩ := h1
  refine J_if_ne (pc := 6) (tgt := 13) C dX7_move_6 (by decide) hr5 (fun cb => ?_) (fun cb => ?_)
  · have h6 := h6 cb
    refine J_iload_n (pc := 13) C dX7_move_13 rfl ?_
    refine J_iload_n (pc := 14) C dX7_move_14 rfl ?_
    refine J_c1 (pc := 15) C (J_rS (pc := 15) C (h6 ra1 ra2) dX7_move_15 rfl rfl (va_cwS 2 C.1.2.2.2.2 gX7_move_X7_isPoint rfl rfl rfl (by decide +kernel) ⟨Nat.le_of_ble_eq_true rfl, Nat.le_of_ble_eq_true rfl⟩) hok3 (Nat.le_of_ble_eq_true rfl) ⟨Nat.le_of_ble_eq_true rfl, Nat.le_of_ble_eq_true rfl⟩) (fun E9 S9 ok9 q9 => JX_out C ok9 q9 (by decide) (by decide)) (fun rv11 S9 hr12 hok10 h8 => ?_)
    have h8 := h8 hr12 hok10
    obtain ⟨h13, h14⟩ := h8
    refine J_if_eq (pc := 18) (tgt := 25) C dX7_move_18 (by decide) hr12 (fun cb => ?_) (fun cb => ?_)
    · have h13 := h13 cb
      refine J_iconst (pc := 25) C dX7_move_25 ?_
      refine J_c1 (pc := 26) C (J_rV (pc := 26) C (h13 (by decide)) dX7_move_26 rfl rfl 0 rfl rfl (cwV 1 C.1.2.2.2.2 gX7_move_X7_holds rfl rfl rfl (by decide +kernel) ⟨Nat.le_of_ble_eq_true rfl, Nat.le_of_ble_eq_true rfl⟩) hok10 (Nat.le_of_ble_eq_true rfl) ⟨Nat.le_of_ble_eq_true rfl, Nat.le_of_ble_eq_true rfl⟩) (fun E9 S9 ok9 q9 => JX_out C ok9 q9 (by decide) (by decide)) (fun rv18 S16 hr19 hok17 h15 => ?_)
      have h15 := h15 hr19 hok17
      obtain ⟨h20, h21⟩ := h15
      refine J_if_eq (pc := 29) (tgt := 46) C dX7_move_29 (by decide) hr19 (fun cb => ?_) (fun cb => ?_)
      · have h20 := h20 cb
        exact J_vret (pc := 46) C dX7_move_46 hok17 h20 (by decide) (by decide)
      · have h21 := h21 cb
        refine J_aload_n (pc := 32) C dX7_move_32 rfl ?_
        refine J_get (pc := 33) C dX7_move_33 0 rfl rfl nX7_move_X7 2 (by decide) mX7_move_f7 rfl (v := .ref (G.2.2 1)) rfl ?_
        refine J_iload_n (pc := 36) C dX7_move_36 rfl ?_
        refine J_iload_n (pc := 37) C dX7_move_37 rfl ?_
        obtain ⟨o22, h23⟩ := h21
        refine J_iast (pc := 38) C dX7_move_38 1 1 rfl (by decide) o22 (sM_1 G S16 a0 a1) ?_
        have hok24 := okM_up (k := 1) (j := a0) hok17 (show rngM 1 a1 from ra1)
        refine J_aload_n (pc := 39) C dX7_move_39 rfl ?_
        refine J_get (pc := 40) C dX7_move_40 0 rfl rfl nX7_move_X7 3 (by decide) mX7_move_f13 rfl (v := .ref (G.2.2 2)) rfl ?_
        refine J_iload_n (pc := 43) C dX7_move_43 rfl ?_
        refine J_iload_n (pc := 44) C dX7_move_44 rfl ?_
        refine J_iast (pc := 45) C dX7_move_45 2 2 rfl (by decide) o22 (sM_2 G (up S16 1 a0 a1) a0 a2) ?_
        have hok25 := okM_up (k := 2) (j := a0) hok24 (show rngM 2 a2 from ra2)
        exact J_vret (pc := 46) C dX7_move_46 hok25 h23 (by decide) (by decide)
    · have h14 := h14 cb
      refine J_iconst (pc := 21) C dX7_move_21 ?_
      refine J_goto (pc := 22) (tgt := 26) C dX7_move_22 (by decide) ?_
      refine J_c1 (pc := 26) C (J_rV (pc := 26) C (h14 (by decide)) dX7_move_26 rfl rfl 0 rfl rfl (cwV 1 C.1.2.2.2.2 gX7_move_X7_holds rfl rfl rfl (by decide +kernel) ⟨Nat.le_of_ble_eq_true rfl, Nat.le_of_ble_eq_true rfl⟩) hok10 (Nat.le_of_ble_eq_true rfl) ⟨Nat.le_of_ble_eq_true rfl, Nat.le_of_ble_eq_true rfl⟩) (fun E9 S9 ok9 q9 => JX_out C ok9 q9 (by decide) (by decide)) (fun rv29 S27 hr30 hok28 h26 => ?_)
      have h26 := h26 hr30 hok28
      obtain ⟨h31, h32⟩ := h26
      refine J_if_eq (pc := 29) (tgt := 46) C dX7_move_29 (by decide) hr30 (fun cb => ?_) (fun cb => ?_)
      · have h31 := h31 cb
        exact J_vret (pc := 46) C dX7_move_46 hok28 h31 (by decide) (by decide)
      · have h32 := h32 cb
        refine J_aload_n (pc := 32) C dX7_move_32 rfl ?_
        refine J_get (pc := 33) C dX7_move_33 0 rfl rfl nX7_move_X7 2 (by decide) mX7_move_f7 rfl (v := .ref (G.2.2 1)) rfl ?_
        refine J_iload_n (pc := 36) C dX7_move_36 rfl ?_
        refine J_iload_n (pc := 37) C dX7_move_37 rfl ?_
        obtain ⟨o33, h34⟩ := h32
        refine J_iast (pc := 38) C dX7_move_38 1 1 rfl (by decide) o33 (sM_1 G S27 a0 a1) ?_
        have hok35 := okM_up (k := 1) (j := a0) hok28 (show rngM 1 a1 from ra1)
        refine J_aload_n (pc := 39) C dX7_move_39 rfl ?_
        refine J_get (pc := 40) C dX7_move_40 0 rfl rfl nX7_move_X7 3 (by decide) mX7_move_f13 rfl (v := .ref (G.2.2 2)) rfl ?_
        refine J_iload_n (pc := 43) C dX7_move_43 rfl ?_
        refine J_iload_n (pc := 44) C dX7_move_44 rfl ?_
        refine J_iast (pc := 45) C dX7_move_45 2 2 rfl (by decide) o33 (sM_2 G (up S27 1 a0 a1) a0 a2) ?_
        have hok36 := okM_up (k := 2) (j := a0) hok35 (show rngM 2 a2 from ra2)
        exact J_vret (pc := 46) C dX7_move_46 hok36 h34 (by decide) (by decide)
  · have h7 := h7 cb
    refine J_iconst (pc := 9) C dX7_move_9 ?_
    refine J_goto (pc := 10) (tgt := 26) C dX7_move_10 (by decide) ?_
    refine J_c1 (pc := 26) C (J_rV (pc := 26) C (h7 (by decide)) dX7_move_26 rfl rfl 0 rfl rfl (cwV 1 C.1.2.2.2.2 gX7_move_X7_holds rfl rfl rfl (by decide +kernel) ⟨Nat.le_of_ble_eq_true rfl, Nat.le_of_ble_eq_true rfl⟩) hok3 (Nat.le_of_ble_eq_true rfl) ⟨Nat.le_of_ble_eq_true rfl, Nat.le_of_ble_eq_true rfl⟩) (fun E9 S9 ok9 q9 => JX_out C ok9 q9 (by decide) (by decide)) (fun rv40 S38 hr41 hok39 h37 => ?_)
    have h37 := h37 hr41 hok39
    obtain ⟨h42, h43⟩ := h37
    refine J_if_eq (pc := 29) (tgt := 46) C dX7_move_29 (by decide) hr41 (fun cb => ?_) (fun cb => ?_)
    · have h42 := h42 cb
      exact J_vret (pc := 46) C dX7_move_46 hok39 h42 (by decide) (by decide)
    · have h43 := h43 cb
      refine J_aload_n (pc := 32) C dX7_move_32 rfl ?_
      refine J_get (pc := 33) C dX7_move_33 0 rfl rfl nX7_move_X7 2 (by decide) mX7_move_f7 rfl (v := .ref (G.2.2 1)) rfl ?_
      refine J_iload_n (pc := 36) C dX7_move_36 rfl ?_
      refine J_iload_n (pc := 37) C dX7_move_37 rfl ?_
      obtain ⟨o44, h45⟩ := h43
      refine J_iast (pc := 38) C dX7_move_38 1 1 rfl (by decide) o44 (sM_1 G S38 a0 a1) ?_
      have hok46 := okM_up (k := 1) (j := a0) hok39 (show rngM 1 a1 from ra1)
      refine J_aload_n (pc := 39) C dX7_move_39 rfl ?_
      refine J_get (pc := 40) C dX7_move_40 0 rfl rfl nX7_move_X7 3 (by decide) mX7_move_f13 rfl (v := .ref (G.2.2 2)) rfl ?_
      refine J_iload_n (pc := 43) C dX7_move_43 rfl ?_
      refine J_iload_n (pc := 44) C dX7_move_44 rfl ?_
      refine J_iast (pc := 45) C dX7_move_45 2 2 rfl (by decide) o44 (sM_2 G (up S38 1 a0 a1) a0 a2) ?_
      have hok47 := okM_up (k := 2) (j := a0) hok46 (show rngM 2 a2 from ra2)
      exact J_vret (pc := 46) C dX7_move_46 hok47 h45 (by decide) (by decide)
def rmX7_ofJoint : Room := { frames := 2, cells := 0, slots := 0, locals := 43 }
theorem mX7_ofJoint_f13 : Cond.fieldLink RX7 13 "StressworkModel" "y" "[I" ∈ wsX7_ofJoint := by decide +kernel
theorem nX7_ofJoint_X7 : ∀ x ∈ wsX70, x ∈ wsX7_ofJoint := by decide +kernel
theorem mX7_ofJoint_f7 : Cond.fieldLink RX7 7 "StressworkModel" "x" "[I" ∈ wsX7_ofJoint := by decide +kernel
def M_X7_ofJoint (a0 a1 : Int) (S : St) (Qr : Int → St → Prop) (Qx : String → St → Prop) : Prop := r32 a0 → r32 a1 → MM 1 wM okM yX7_ofJoint wsX7_ofJoint rmX7_ofJoint (fun G => [.ref (G.2.2 0), iV a0, iV a1]) S Qr Qx
set_option maxRecDepth 100000 in
set_option maxHeartbeats 4000000 in
theorem vc_X7_ofJoint {a0 a1 : Int} {S : St} {Qr : Int → St → Prop} {Qx : String → St → Prop} (h : r32 a0 → r32 a1 → okM S → M_X7_isJoint a0 S (fun rv4 S2 => r32 rv4 → okM S2 → ((rv4 ≠ 0 → M_X7_isIn a1 0 2 S2 (fun rv11 S9 => r32 rv11 → okM S9 → ((rv11 = 0 → M_X7_holds 2 S9 (fun rv18 S16 => r32 rv18 → okM S16 → ((rv18 ≠ 0 → ((a1 ≠ 0 → ((a1 ≠ 1 → M_X7_near a0 S16 (fun rv29 S27 => r32 rv29 → okM S27 → M_X7_bits rv29 S27 (fun rv34 S32 => r32 rv34 → okM S32 → Qr rv34 S32) Qx) Qx) ∧ (a1 = 1 → (ix a0 10 ∧ Qr (S16 2 a0) S16)))) ∧ (a1 = 0 → (ix a0 10 ∧ Qr (S16 1 a0) S16)))) ∧ (rv18 = 0 → Qr 0 S16))) Qx) ∧ (rv11 ≠ 0 → M_X7_holds 0 S9 (fun rv43 S41 => r32 rv43 → okM S41 → ((rv43 ≠ 0 → ((a1 ≠ 0 → ((a1 ≠ 1 → M_X7_near a0 S41 (fun rv54 S52 => r32 rv54 → okM S52 → M_X7_bits rv54 S52 (fun rv59 S57 => r32 rv59 → okM S57 → Qr rv59 S57) Qx) Qx) ∧ (a1 = 1 → (ix a0 10 ∧ Qr (S41 2 a0) S41)))) ∧ (a1 = 0 → (ix a0 10 ∧ Qr (S41 1 a0) S41)))) ∧ (rv43 = 0 → Qr 0 S41))) Qx))) Qx) ∧ (rv4 = 0 → M_X7_holds 1 S2 (fun rv68 S66 => r32 rv68 → okM S66 → ((rv68 ≠ 0 → ((a1 ≠ 0 → ((a1 ≠ 1 → M_X7_near a0 S66 (fun rv79 S77 => r32 rv79 → okM S77 → M_X7_bits rv79 S77 (fun rv84 S82 => r32 rv84 → okM S82 → Qr rv84 S82) Qx) Qx) ∧ (a1 = 1 → (ix a0 10 ∧ Qr (S66 2 a0) S66)))) ∧ (a1 = 0 → (ix a0 10 ∧ Qr (S66 1 a0) S66)))) ∧ (rv68 = 0 → Qr 0 S66))) Qx))) Qx) : M_X7_ofJoint a0 a1 S Qr Qx := by
  intro ra0 ra1
  refine MM_of adM (by decide +kernel) rfl (Lf := fun G => [some (.ref (G.2.2 0)), some (iV a0), some (iV a1)]) (fun G => by show _ ≤ _; exact Nat.le_of_ble_eq_true rfl) (fun G => rfl) ?_
  intro p l e s m args below meth c G A C hok
  have h := h ra0 ra1 hok
  replace C : Cx wM cX7_ofJoint 3 RX7 wsX7_ofJoint (some .int) [] p l s m args meth c G A := C
  show J wM 3 rmX7_ofJoint p l e s m args below meth c G A (QQ 1 wM okM G Qr Qx A below args s rmX7_ofJoint.cells rmX7_ofJoint.slots) 0 0 S [some (.ref (G.2.2 0)), some (iV a0), some (iV a1)] [] 0
  refine J_aload_n (pc := 0) C dX7_ofJoint_0 rfl ?_
  refine J_aload_n (pc := 1) C dX7_ofJoint_1 rfl ?_
  refine J_iload_n (pc := 2) C dX7_ofJoint_2 rfl ?_
  refine J_c1 (pc := 3) C (J_rV (pc := 3) C (h ra0) dX7_ofJoint_3 rfl rfl 0 rfl rfl (cwV 1 C.1.2.2.2.2 gX7_ofJoint_X7_isJoint rfl rfl rfl (by decide +kernel) ⟨Nat.le_of_ble_eq_true rfl, Nat.le_of_ble_eq_true rfl⟩) hok (Nat.le_of_ble_eq_true rfl) ⟨Nat.le_of_ble_eq_true rfl, Nat.le_of_ble_eq_true rfl⟩) (fun E9 S9 ok9 q9 => JX_out C ok9 q9 (by decide) (by decide)) (fun rv4 S2 hr5 hok3 h1 => ?_)
  have h1 := h1 hr5 hok3
  obtain ⟨h6, h7⟩ := h1
  refine J_if_ne (pc := 6) (tgt := 13) C dX7_ofJoint_6 (by decide) hr5 (fun cb => ?_) (fun cb => ?_)
  · have h6 := h6 cb
    refine J_iload_n (pc := 13) C dX7_ofJoint_13 rfl ?_
    refine J_iconst (pc := 14) C dX7_ofJoint_14 ?_
    refine J_iconst (pc := 15) C dX7_ofJoint_15 ?_
    refine J_c1 (pc := 16) C (J_rS (pc := 16) C (h6 ra1 (by decide) (by decide)) dX7_ofJoint_16 rfl rfl (va_cwS 3 C.1.2.2.2.2 gX7_ofJoint_X7_isIn rfl rfl rfl (by decide +kernel) ⟨Nat.le_of_ble_eq_true rfl, Nat.le_of_ble_eq_true rfl⟩) hok3 (Nat.le_of_ble_eq_true rfl) ⟨Nat.le_of_ble_eq_true rfl, Nat.le_of_ble_eq_true rfl⟩) (fun E9 S9 ok9 q9 => JX_out C ok9 q9 (by decide) (by decide)) (fun rv11 S9 hr12 hok10 h8 => ?_)
    have h8 := h8 hr12 hok10
    obtain ⟨h13, h14⟩ := h8
    refine J_if_eq (pc := 19) (tgt := 26) C dX7_ofJoint_19 (by decide) hr12 (fun cb => ?_) (fun cb => ?_)
    · have h13 := h13 cb
      refine J_iconst (pc := 26) C dX7_ofJoint_26 ?_
      refine J_c1 (pc := 27) C (J_rV (pc := 27) C (h13 (by decide)) dX7_ofJoint_27 rfl rfl 0 rfl rfl (cwV 1 C.1.2.2.2.2 gX7_ofJoint_X7_holds rfl rfl rfl (by decide +kernel) ⟨Nat.le_of_ble_eq_true rfl, Nat.le_of_ble_eq_true rfl⟩) hok10 (Nat.le_of_ble_eq_true rfl) ⟨Nat.le_of_ble_eq_true rfl, Nat.le_of_ble_eq_true rfl⟩) (fun E9 S9 ok9 q9 => JX_out C ok9 q9 (by decide) (by decide)) (fun rv18 S16 hr19 hok17 h15 => ?_)
      have h15 := h15 hr19 hok17
      obtain ⟨h20, h21⟩ := h15
      refine J_if_ne (pc := 30) (tgt := 35) C dX7_ofJoint_30 (by decide) hr19 (fun cb => ?_) (fun cb => ?_)
      · have h20 := h20 cb
        refine J_iload_n (pc := 35) C dX7_ofJoint_35 rfl ?_
        obtain ⟨h22, h23⟩ := h20
        refine J_if_ne (pc := 36) (tgt := 48) C dX7_ofJoint_36 (by decide) ra1 (fun cb => ?_) (fun cb => ?_)
        · have h22 := h22 cb
          refine J_iload_n (pc := 48) C dX7_ofJoint_48 rfl ?_
          refine J_iconst (pc := 49) C dX7_ofJoint_49 ?_
          obtain ⟨h24, h25⟩ := h22
          refine J_icmp_ne (pc := 50) (tgt := 62) C dX7_ofJoint_50 (by decide) ra1 (by decide) (fun cb => ?_) (fun cb => ?_)
          · have h24 := h24 cb
            refine J_aload_n (pc := 62) C dX7_ofJoint_62 rfl ?_
            refine J_iload_n (pc := 63) C dX7_ofJoint_63 rfl ?_
            refine J_c1 (pc := 64) C (J_rV (pc := 64) C (h24 ra0) dX7_ofJoint_64 rfl rfl 0 rfl rfl (cwV 1 C.1.2.2.2.2 gX7_ofJoint_X7_near rfl rfl rfl (by decide +kernel) ⟨Nat.le_of_ble_eq_true rfl, Nat.le_of_ble_eq_true rfl⟩) hok17 (Nat.le_of_ble_eq_true rfl) ⟨Nat.le_of_ble_eq_true rfl, Nat.le_of_ble_eq_true rfl⟩) (fun E9 S9 ok9 q9 => JX_out C ok9 q9 (by decide) (by decide)) (fun rv29 S27 hr30 hok28 h26 => ?_)
            have h26 := h26 hr30 hok28
            refine J_c1 (pc := 67) C (J_rS (pc := 67) C (h26 hr30) dX7_ofJoint_67 rfl rfl (va_cwS 1 C.1.2.2.2.2 gX7_ofJoint_X7_bits rfl rfl rfl (by decide +kernel) ⟨Nat.le_of_ble_eq_true rfl, Nat.le_of_ble_eq_true rfl⟩) hok28 (Nat.le_of_ble_eq_true rfl) ⟨Nat.le_of_ble_eq_true rfl, Nat.le_of_ble_eq_true rfl⟩) (fun E9 S9 ok9 q9 => JX_out C ok9 q9 (by decide) (by decide)) (fun rv34 S32 hr35 hok33 h31 => ?_)
            have h31 := h31 hr35 hok33
            exact J_iret (pc := 70) C dX7_ofJoint_70 hr35 hok33 h31 (by decide) (by decide)
          · have h25 := h25 cb
            refine J_aload_n (pc := 53) C dX7_ofJoint_53 rfl ?_
            refine J_get (pc := 54) C dX7_ofJoint_54 0 rfl rfl nX7_ofJoint_X7 3 (by decide) mX7_ofJoint_f13 rfl (v := .ref (G.2.2 2)) rfl ?_
            refine J_iload_n (pc := 57) C dX7_ofJoint_57 rfl ?_
            obtain ⟨o36, h37⟩ := h25
            refine J_iald (pc := 58) C dX7_ofJoint_58 2 2 rfl (by decide) o36 ?_
            refine J_goto (pc := 59) (tgt := 70) C dX7_ofJoint_59 (by decide) ?_
            exact J_iret (pc := 70) C dX7_ofJoint_70 (hok17 2 a0) hok17 h37 (by decide) (by decide)
        · have h23 := h23 cb
          refine J_aload_n (pc := 39) C dX7_ofJoint_39 rfl ?_
          refine J_get (pc := 40) C dX7_ofJoint_40 0 rfl rfl nX7_ofJoint_X7 2 (by decide) mX7_ofJoint_f7 rfl (v := .ref (G.2.2 1)) rfl ?_
          refine J_iload_n (pc := 43) C dX7_ofJoint_43 rfl ?_
          obtain ⟨o38, h39⟩ := h23
          refine J_iald (pc := 44) C dX7_ofJoint_44 1 1 rfl (by decide) o38 ?_
          refine J_goto (pc := 45) (tgt := 70) C dX7_ofJoint_45 (by decide) ?_
          exact J_iret (pc := 70) C dX7_ofJoint_70 (hok17 1 a0) hok17 h39 (by decide) (by decide)
      · have h21 := h21 cb
        refine J_iconst (pc := 33) C dX7_ofJoint_33 ?_
        exact J_iret (pc := 34) C dX7_ofJoint_34 (by decide) hok17 h21 (by decide) (by decide)
    · have h14 := h14 cb
      refine J_iconst (pc := 22) C dX7_ofJoint_22 ?_
      refine J_goto (pc := 23) (tgt := 27) C dX7_ofJoint_23 (by decide) ?_
      refine J_c1 (pc := 27) C (J_rV (pc := 27) C (h14 (by decide)) dX7_ofJoint_27 rfl rfl 0 rfl rfl (cwV 1 C.1.2.2.2.2 gX7_ofJoint_X7_holds rfl rfl rfl (by decide +kernel) ⟨Nat.le_of_ble_eq_true rfl, Nat.le_of_ble_eq_true rfl⟩) hok10 (Nat.le_of_ble_eq_true rfl) ⟨Nat.le_of_ble_eq_true rfl, Nat.le_of_ble_eq_true rfl⟩) (fun E9 S9 ok9 q9 => JX_out C ok9 q9 (by decide) (by decide)) (fun rv43 S41 hr44 hok42 h40 => ?_)
      have h40 := h40 hr44 hok42
      obtain ⟨h45, h46⟩ := h40
      refine J_if_ne (pc := 30) (tgt := 35) C dX7_ofJoint_30 (by decide) hr44 (fun cb => ?_) (fun cb => ?_)
      · have h45 := h45 cb
        refine J_iload_n (pc := 35) C dX7_ofJoint_35 rfl ?_
        obtain ⟨h47, h48⟩ := h45
        refine J_if_ne (pc := 36) (tgt := 48) C dX7_ofJoint_36 (by decide) ra1 (fun cb => ?_) (fun cb => ?_)
        · have h47 := h47 cb
          refine J_iload_n (pc := 48) C dX7_ofJoint_48 rfl ?_
          refine J_iconst (pc := 49) C dX7_ofJoint_49 ?_
          obtain ⟨h49, h50⟩ := h47
          refine J_icmp_ne (pc := 50) (tgt := 62) C dX7_ofJoint_50 (by decide) ra1 (by decide) (fun cb => ?_) (fun cb => ?_)
          · have h49 := h49 cb
            refine J_aload_n (pc := 62) C dX7_ofJoint_62 rfl ?_
            refine J_iload_n (pc := 63) C dX7_ofJoint_63 rfl ?_
            refine J_c1 (pc := 64) C (J_rV (pc := 64) C (h49 ra0) dX7_ofJoint_64 rfl rfl 0 rfl rfl (cwV 1 C.1.2.2.2.2 gX7_ofJoint_X7_near rfl rfl rfl (by decide +kernel) ⟨Nat.le_of_ble_eq_true rfl, Nat.le_of_ble_eq_true rfl⟩) hok42 (Nat.le_of_ble_eq_true rfl) ⟨Nat.le_of_ble_eq_true rfl, Nat.le_of_ble_eq_true rfl⟩) (fun E9 S9 ok9 q9 => JX_out C ok9 q9 (by decide) (by decide)) (fun rv54 S52 hr55 hok53 h51 => ?_)
            have h51 := h51 hr55 hok53
            refine J_c1 (pc := 67) C (J_rS (pc := 67) C (h51 hr55) dX7_ofJoint_67 rfl rfl (va_cwS 1 C.1.2.2.2.2 gX7_ofJoint_X7_bits rfl rfl rfl (by decide +kernel) ⟨Nat.le_of_ble_eq_true rfl, Nat.le_of_ble_eq_true rfl⟩) hok53 (Nat.le_of_ble_eq_true rfl) ⟨Nat.le_of_ble_eq_true rfl, Nat.le_of_ble_eq_true rfl⟩) (fun E9 S9 ok9 q9 => JX_out C ok9 q9 (by decide) (by decide)) (fun rv59 S57 hr60 hok58 h56 => ?_)
            have h56 := h56 hr60 hok58
            exact J_iret (pc := 70) C dX7_ofJoint_70 hr60 hok58 h56 (by decide) (by decide)
          · have h50 := h50 cb
            refine J_aload_n (pc := 53) C dX7_ofJoint_53 rfl ?_
            refine J_get (pc := 54) C dX7_ofJoint_54 0 rfl rfl nX7_ofJoint_X7 3 (by decide) mX7_ofJoint_f13 rfl (v := .ref (G.2.2 2)) rfl ?_
            refine J_iload_n (pc := 57) C dX7_ofJoint_57 rfl ?_
            obtain ⟨o61, h62⟩ := h50
            refine J_iald (pc := 58) C dX7_ofJoint_58 2 2 rfl (by decide) o61 ?_
            refine J_goto (pc := 59) (tgt := 70) C dX7_ofJoint_59 (by decide) ?_
            exact J_iret (pc := 70) C dX7_ofJoint_70 (hok42 2 a0) hok42 h62 (by decide) (by decide)
        · have h48 := h48 cb
          refine J_aload_n (pc := 39) C dX7_ofJoint_39 rfl ?_
          refine J_get (pc := 40) C dX7_ofJoint_40 0 rfl rfl nX7_ofJoint_X7 2 (by decide) mX7_ofJoint_f7 rfl (v := .ref (G.2.2 1)) rfl ?_
          refine J_iload_n (pc := 43) C dX7_ofJoint_43 rfl ?_
          obtain ⟨o63, h64⟩ := h48
          refine J_iald (pc := 44) C dX7_ofJoint_44 1 1 rfl (by decide) o63 ?_
          refine J_goto (pc := 45) (tgt := 70) C dX7_ofJoint_45 (by decide) ?_
          exact J_iret (pc := 70) C dX7_ofJoint_70 (hok42 1 a0) hok42 h64 (by decide) (by decide)
      · have h46 := h46 cb
        refine J_iconst (pc := 33) C dX7_ofJoint_33 ?_
        exact J_iret (pc := 34) C dX7_ofJoint_34 (by decide) hok42 h46 (by decide) (by decide)
  · have h7 := h7 cb
    refine J_iconst (pc := 9) C dX7_ofJoint_9 ?_
    refine J_goto (pc := 10) (tgt := 27) C dX7_ofJoint_10 (by decide) ?_
    refine J_c1 (pc := 27) C (J_rV (pc := 27) C (h7 (by decide)) dX7_ofJoint_27 rfl rfl 0 rfl rfl (cwV 1 C.1.2.2.2.2 gX7_ofJoint_X7_holds rfl rfl rfl (by decide +kernel) ⟨Nat.le_of_ble_eq_true rfl, Nat.le_of_ble_eq_true rfl⟩) hok3 (Nat.le_of_ble_eq_true rfl) ⟨Nat.le_of_ble_eq_true rfl, Nat.le_of_ble_eq_true rfl⟩) (fun E9 S9 ok9 q9 => JX_out C ok9 q9 (by decide) (by decide)) (fun rv68 S66 hr69 hok67 h65 => ?_)
    have h65 := h65 hr69 hok67
    obtain ⟨h70, h71⟩ := h65
    refine J_if_ne (pc := 30) (tgt := 35) C dX7_ofJoint_30 (by decide) hr69 (fun cb => ?_) (fun cb => ?_)
    · have h70 := h70 cb
      refine J_iload_n (pc := 35) C dX7_ofJoint_35 rfl ?_
      obtain ⟨h72, h73⟩ := h70
      refine J_if_ne (pc := 36) (tgt := 48) C dX7_ofJoint_36 (by decide) ra1 (fun cb => ?_) (fun cb => ?_)
      · have h72 := h72 cb
        refine J_iload_n (pc := 48) C dX7_ofJoint_48 rfl ?_
        refine J_iconst (pc := 49) C dX7_ofJoint_49 ?_
        obtain ⟨h74, h75⟩ := h72
        refine J_icmp_ne (pc := 50) (tgt := 62) C dX7_ofJoint_50 (by decide) ra1 (by decide) (fun cb => ?_) (fun cb => ?_)
        · have h74 := h74 cb
          refine J_aload_n (pc := 62) C dX7_ofJoint_62 rfl ?_
          refine J_iload_n (pc := 63) C dX7_ofJoint_63 rfl ?_
          refine J_c1 (pc := 64) C (J_rV (pc := 64) C (h74 ra0) dX7_ofJoint_64 rfl rfl 0 rfl rfl (cwV 1 C.1.2.2.2.2 gX7_ofJoint_X7_near rfl rfl rfl (by decide +kernel) ⟨Nat.le_of_ble_eq_true rfl, Nat.le_of_ble_eq_true rfl⟩) hok67 (Nat.le_of_ble_eq_true rfl) ⟨Nat.le_of_ble_eq_true rfl, Nat.le_of_ble_eq_true rfl⟩) (fun E9 S9 ok9 q9 => JX_out C ok9 q9 (by decide) (by decide)) (fun rv79 S77 hr80 hok78 h76 => ?_)
          have h76 := h76 hr80 hok78
          refine J_c1 (pc := 67) C (J_rS (pc := 67) C (h76 hr80) dX7_ofJoint_67 rfl rfl (va_cwS 1 C.1.2.2.2.2 gX7_ofJoint_X7_bits rfl rfl rfl (by decide +kernel) ⟨Nat.le_of_ble_eq_true rfl, Nat.le_of_ble_eq_true rfl⟩) hok78 (Nat.le_of_ble_eq_true rfl) ⟨Nat.le_of_ble_eq_true rfl, Nat.le_of_ble_eq_true rfl⟩) (fun E9 S9 ok9 q9 => JX_out C ok9 q9 (by decide) (by decide)) (fun rv84 S82 hr85 hok83 h81 => ?_)
          have h81 := h81 hr85 hok83
          exact J_iret (pc := 70) C dX7_ofJoint_70 hr85 hok83 h81 (by decide) (by decide)
        · have h75 := h75 cb
          refine J_aload_n (pc := 53) C dX7_ofJoint_53 rfl ?_
          refine J_get (pc := 54) C dX7_ofJoint_54 0 rfl rfl nX7_ofJoint_X7 3 (by decide) mX7_ofJoint_f13 rfl (v := .ref (G.2.2 2)) rfl ?_
          refine J_iload_n (pc := 57) C dX7_ofJoint_57 rfl ?_
          obtain ⟨o86, h87⟩ := h75
          refine J_iald (pc := 58) C dX7_ofJoint_58 2 2 rfl (by decide) o86 ?_
          refine J_goto (pc := 59) (tgt := 70) C dX7_ofJoint_59 (by decide) ?_
          exact J_iret (pc := 70) C dX7_ofJoint_70 (hok67 2 a0) hok67 h87 (by decide) (by decide)
      · have h73 := h73 cb
        refine J_aload_n (pc := 39) C dX7_ofJoint_39 rfl ?_
        refine J_get (pc := 40) C dX7_ofJoint_40 0 rfl rfl nX7_ofJoint_X7 2 (by decide) mX7_ofJoint_f7 rfl (v := .ref (G.2.2 1)) rfl ?_
        refine J_iload_n (pc := 43) C dX7_ofJoint_43 rfl ?_
        obtain ⟨o88, h89⟩ := h73
        refine J_iald (pc := 44) C dX7_ofJoint_44 1 1 rfl (by decide) o88 ?_
        refine J_goto (pc := 45) (tgt := 70) C dX7_ofJoint_45 (by decide) ?_
        exact J_iret (pc := 70) C dX7_ofJoint_70 (hok67 1 a0) hok67 h89 (by decide) (by decide)
    · have h71 := h71 cb
      refine J_iconst (pc := 33) C dX7_ofJoint_33 ?_
      exact J_iret (pc := 34) C dX7_ofJoint_34 (by decide) hok67 h71 (by decide) (by decide)
def rmX7_pin : Room := { frames := 2, cells := 0, slots := 0, locals := 43 }
theorem mX7_pin_f16 : Cond.fieldLink RX7 16 "StressworkModel" "isPinned" "[Z" ∈ wsX7_pin := by decide +kernel
theorem nX7_pin_X7 : ∀ x ∈ wsX70, x ∈ wsX7_pin := by decide +kernel
def M_X7_pin (a0 a1 : Int) (S : St) (Qr : Int → St → Prop) (Qx : String → St → Prop) : Prop := r32 a0 → r32 a1 → MM 1 wM okM yX7_pin wsX7_pin rmX7_pin (fun G => [.ref (G.2.2 0), iV a0, iV a1]) S Qr Qx
set_option maxRecDepth 100000 in
set_option maxHeartbeats 4000000 in
theorem vc_X7_pin {a0 a1 : Int} {S : St} {Qr : Int → St → Prop} {Qx : String → St → Prop} (h : r32 a0 → r32 a1 → okM S → M_X7_isJoint a0 S (fun rv4 S2 => r32 rv4 → okM S2 → ((rv4 = 0 → M_X7_holds 1 S2 (fun rv11 S9 => r32 rv11 → okM S9 → ((rv11 ≠ 0 → (ix a0 10 ∧ ((0 ≤ a1 ∧ a1 ≤ 1) ∧ ((0 ≤ (S9 3 a0) ∧ (S9 3 a0) ≤ 1) ∧ Qr (S9 3 a0) (up S9 3 a0 a1))))) ∧ (rv11 = 0 → Qr 0 S9))) Qx) ∧ (rv4 ≠ 0 → M_X7_holds 0 S2 (fun rv25 S23 => r32 rv25 → okM S23 → ((rv25 ≠ 0 → (ix a0 10 ∧ ((0 ≤ a1 ∧ a1 ≤ 1) ∧ ((0 ≤ (S23 3 a0) ∧ (S23 3 a0) ≤ 1) ∧ Qr (S23 3 a0) (up S23 3 a0 a1))))) ∧ (rv25 = 0 → Qr 0 S23))) Qx))) Qx) : M_X7_pin a0 a1 S Qr Qx := by
  intro ra0 ra1
  refine MM_of adM (by decide +kernel) rfl (Lf := fun G => [some (.ref (G.2.2 0)), some (iV a0), some (iV a1), none]) (fun G => by show _ ≤ _; exact Nat.le_of_ble_eq_true rfl) (fun G => rfl) ?_
  intro p l e s m args below meth c G A C hok
  have h := h ra0 ra1 hok
  replace C : Cx wM cX7_pin 4 RX7 wsX7_pin (some .boolean) [] p l s m args meth c G A := C
  show J wM 4 rmX7_pin p l e s m args below meth c G A (QQ 1 wM okM G Qr Qx A below args s rmX7_pin.cells rmX7_pin.slots) 0 0 S [some (.ref (G.2.2 0)), some (iV a0), some (iV a1), none] [] 0
  refine J_aload_n (pc := 0) C dX7_pin_0 rfl ?_
  refine J_aload_n (pc := 1) C dX7_pin_1 rfl ?_
  refine J_iload_n (pc := 2) C dX7_pin_2 rfl ?_
  refine J_c1 (pc := 3) C (J_rV (pc := 3) C (h ra0) dX7_pin_3 rfl rfl 0 rfl rfl (cwV 1 C.1.2.2.2.2 gX7_pin_X7_isJoint rfl rfl rfl (by decide +kernel) ⟨Nat.le_of_ble_eq_true rfl, Nat.le_of_ble_eq_true rfl⟩) hok (Nat.le_of_ble_eq_true rfl) ⟨Nat.le_of_ble_eq_true rfl, Nat.le_of_ble_eq_true rfl⟩) (fun E9 S9 ok9 q9 => JX_out C ok9 q9 (by decide) (by decide)) (fun rv4 S2 hr5 hok3 h1 => ?_)
  have h1 := h1 hr5 hok3
  obtain ⟨h6, h7⟩ := h1
  refine J_if_eq (pc := 6) (tgt := 13) C dX7_pin_6 (by decide) hr5 (fun cb => ?_) (fun cb => ?_)
  · have h6 := h6 cb
    refine J_iconst (pc := 13) C dX7_pin_13 ?_
    refine J_c1 (pc := 14) C (J_rV (pc := 14) C (h6 (by decide)) dX7_pin_14 rfl rfl 0 rfl rfl (cwV 1 C.1.2.2.2.2 gX7_pin_X7_holds rfl rfl rfl (by decide +kernel) ⟨Nat.le_of_ble_eq_true rfl, Nat.le_of_ble_eq_true rfl⟩) hok3 (Nat.le_of_ble_eq_true rfl) ⟨Nat.le_of_ble_eq_true rfl, Nat.le_of_ble_eq_true rfl⟩) (fun E9 S9 ok9 q9 => JX_out C ok9 q9 (by decide) (by decide)) (fun rv11 S9 hr12 hok10 h8 => ?_)
    have h8 := h8 hr12 hok10
    obtain ⟨h13, h14⟩ := h8
    refine J_if_ne (pc := 17) (tgt := 22) C dX7_pin_17 (by decide) hr12 (fun cb => ?_) (fun cb => ?_)
    · have h13 := h13 cb
      refine J_aload_n (pc := 22) C dX7_pin_22 rfl ?_
      refine J_get (pc := 23) C dX7_pin_23 0 rfl rfl nX7_pin_X7 4 (by decide) mX7_pin_f16 rfl (v := .ref (G.2.2 3)) rfl ?_
      refine J_iload_n (pc := 26) C dX7_pin_26 rfl ?_
      obtain ⟨o15, h16⟩ := h13
      refine J_zald (pc := 27) C dX7_pin_27 3 3 rfl (by decide) o15 ?_
      refine J_istore_n (pc := 28) C dX7_pin_28 (by decide) ?_
      refine J_aload_n (pc := 29) C dX7_pin_29 rfl ?_
      refine J_get (pc := 30) C dX7_pin_30 0 rfl rfl nX7_pin_X7 4 (by decide) mX7_pin_f16 rfl (v := .ref (G.2.2 3)) rfl ?_
      refine J_iload_n (pc := 33) C dX7_pin_33 rfl ?_
      refine J_iload_n (pc := 34) C dX7_pin_34 rfl ?_
      obtain ⟨o17, h18⟩ := h16
      refine J_zast (pc := 35) C dX7_pin_35 3 3 rfl (by decide) o15 o17 (sM_3 G S9 a0 a1) ?_
      have hok19 := okM_up (k := 3) (j := a0) hok10 (show rngM 3 a1 from o17)
      refine J_iload_n (pc := 36) C dX7_pin_36 rfl ?_
      obtain ⟨o20, h21⟩ := h18
      exact J_zret (pc := 37) C dX7_pin_37 o20 hok19 h21 (by decide) (by decide)
    · have h14 := h14 cb
      refine J_iconst (pc := 20) C dX7_pin_20 ?_
      exact J_zret (pc := 21) C dX7_pin_21 (by decide) hok10 h14 (by decide) (by decide)
  · have h7 := h7 cb
    refine J_iconst (pc := 9) C dX7_pin_9 ?_
    refine J_goto (pc := 10) (tgt := 14) C dX7_pin_10 (by decide) ?_
    refine J_c1 (pc := 14) C (J_rV (pc := 14) C (h7 (by decide)) dX7_pin_14 rfl rfl 0 rfl rfl (cwV 1 C.1.2.2.2.2 gX7_pin_X7_holds rfl rfl rfl (by decide +kernel) ⟨Nat.le_of_ble_eq_true rfl, Nat.le_of_ble_eq_true rfl⟩) hok3 (Nat.le_of_ble_eq_true rfl) ⟨Nat.le_of_ble_eq_true rfl, Nat.le_of_ble_eq_true rfl⟩) (fun E9 S9 ok9 q9 => JX_out C ok9 q9 (by decide) (by decide)) (fun rv25 S23 hr26 hok24 h22 => ?_)
    have h22 := h22 hr26 hok24
    obtain ⟨h27, h28⟩ := h22
    refine J_if_ne (pc := 17) (tgt := 22) C dX7_pin_17 (by decide) hr26 (fun cb => ?_) (fun cb => ?_)
    · have h27 := h27 cb
      refine J_aload_n (pc := 22) C dX7_pin_22 rfl ?_
      refine J_get (pc := 23) C dX7_pin_23 0 rfl rfl nX7_pin_X7 4 (by decide) mX7_pin_f16 rfl (v := .ref (G.2.2 3)) rfl ?_
      refine J_iload_n (pc := 26) C dX7_pin_26 rfl ?_
      obtain ⟨o29, h30⟩ := h27
      refine J_zald (pc := 27) C dX7_pin_27 3 3 rfl (by decide) o29 ?_
      refine J_istore_n (pc := 28) C dX7_pin_28 (by decide) ?_
      refine J_aload_n (pc := 29) C dX7_pin_29 rfl ?_
      refine J_get (pc := 30) C dX7_pin_30 0 rfl rfl nX7_pin_X7 4 (by decide) mX7_pin_f16 rfl (v := .ref (G.2.2 3)) rfl ?_
      refine J_iload_n (pc := 33) C dX7_pin_33 rfl ?_
      refine J_iload_n (pc := 34) C dX7_pin_34 rfl ?_
      obtain ⟨o31, h32⟩ := h30
      refine J_zast (pc := 35) C dX7_pin_35 3 3 rfl (by decide) o29 o31 (sM_3 G S23 a0 a1) ?_
      have hok33 := okM_up (k := 3) (j := a0) hok24 (show rngM 3 a1 from o31)
      refine J_iload_n (pc := 36) C dX7_pin_36 rfl ?_
      obtain ⟨o34, h35⟩ := h32
      exact J_zret (pc := 37) C dX7_pin_37 o34 hok33 h35 (by decide) (by decide)
    · have h28 := h28 cb
      refine J_iconst (pc := 20) C dX7_pin_20 ?_
      exact J_zret (pc := 21) C dX7_pin_21 (by decide) hok24 h28 (by decide) (by decide)
def rmX7_place : Room := { frames := 2, cells := 0, slots := 0, locals := 48 }
def M_X7_place (a0 a1 : Int) (S : St) (Qr : Int → St → Prop) (Qx : String → St → Prop) : Prop := r32 a0 → r32 a1 → MM 1 wM okM yX7_place wsX7_place rmX7_place (fun G => [.ref (G.2.2 0), iV a0, iV a1]) S Qr Qx
def R_X7_place_39 (x1 x3 x4 : Int) (S : St) (Qr : Int → St → Prop) (Qx : String → St → Prop) : Prop := r32 x1 → r32 x3 → r32 x4 → RR 1 wM okM wsX7_place rmX7_place cX7_place 6 RX7 (some .int) [] 0 0 (fun G => [some (.ref (G.2.2 0)), some (iV x1), none, some (iV x3), some (iV x4), none]) (fun G => []) 39 S Qr Qx
def R_X7_place_50 (x1 x3 x4 x5 : Int) (S : St) (Qr : Int → St → Prop) (Qx : String → St → Prop) : Prop := r32 x1 → r32 x3 → r32 x4 → r32 x5 → RR 1 wM okM wsX7_place rmX7_place cX7_place 6 RX7 (some .int) [] 0 0 (fun G => [some (.ref (G.2.2 0)), some (iV x1), none, some (iV x3), some (iV x4), some (iV x5)]) (fun G => []) 50 S Qr Qx
set_option maxRecDepth 100000 in
set_option maxHeartbeats 4000000 in
theorem vc_X7_place {a0 a1 : Int} {S : St} {Qr : Int → St → Prop} {Qx : String → St → Prop} (h : r32 a0 → r32 a1 → okM S → ((0 ≤ a1 → M_X7_isIn a0 0 5000 S (fun rv6 S4 => r32 rv6 → okM S4 → ((rv6 = 0 → M_X7_holds 2 S4 (fun rv13 S11 => r32 rv13 → okM S11 → ((rv13 ≠ 0 → R_X7_place_39 a0 a1 (-60) S11 Qr Qx) ∧ (rv13 = 0 → Qr 0 S11))) Qx) ∧ (rv6 ≠ 0 → M_X7_holds 0 S4 (fun rv20 S18 => r32 rv20 → okM S18 → ((rv20 ≠ 0 → R_X7_place_39 a0 a1 (-60) S18 Qr Qx) ∧ (rv20 = 0 → Qr 0 S18))) Qx))) Qx) ∧ (a1 < 0 → M_X7_holds 1 S (fun rv27 S25 => r32 rv27 → okM S25 → ((rv27 ≠ 0 → R_X7_place_39 a0 a1 (-60) S25 Qr Qx) ∧ (rv27 = 0 → Qr 0 S25))) Qx))) : M_X7_place a0 a1 S Qr Qx := by
  intro ra0 ra1
  refine MM_of adM (by decide +kernel) rfl (Lf := fun G => [some (.ref (G.2.2 0)), some (iV a0), some (iV a1), none, none, none]) (fun G => by show _ ≤ _; exact Nat.le_of_ble_eq_true rfl) (fun G => rfl) ?_
  intro p l e s m args below meth c G A C hok
  have h := h ra0 ra1 hok
  replace C : Cx wM cX7_place 6 RX7 wsX7_place (some .int) [] p l s m args meth c G A := C
  show J wM 6 rmX7_place p l e s m args below meth c G A (QQ 1 wM okM G Qr Qx A below args s rmX7_place.cells rmX7_place.slots) 0 0 S [some (.ref (G.2.2 0)), some (iV a0), some (iV a1), none, none, none] [] 0
  refine J_aload_n (pc := 0) C dX7_place_0 rfl ?_
  refine J_iload_n (pc := 1) C dX7_place_1 rfl ?_
  obtain ⟨h1, h2⟩ := h
  refine J_if_ge (pc := 2) (tgt := 9) C dX7_place_2 (by decide) ra1 (fun cb => ?_) (fun cb => ?_)
  · have h1 := h1 cb
    refine J_iload_n (pc := 9) C dX7_place_9 rfl ?_
    refine J_iconst (pc := 10) C dX7_place_10 ?_
    refine J_sipush (pc := 11) C dX7_place_11 (by decide) ?_
    refine J_c1 (pc := 14) C (J_rS (pc := 14) C (h1 ra0 (by decide) (by decide)) dX7_place_14 rfl rfl (va_cwS 3 C.1.2.2.2.2 gX7_place_X7_isIn rfl rfl rfl (by decide +kernel) ⟨Nat.le_of_ble_eq_true rfl, Nat.le_of_ble_eq_true rfl⟩) hok (Nat.le_of_ble_eq_true rfl) ⟨Nat.le_of_ble_eq_true rfl, Nat.le_of_ble_eq_true rfl⟩) (fun E9 S9 ok9 q9 => JX_out C ok9 q9 (by decide) (by decide)) (fun rv6 S4 hr7 hok5 h3 => ?_)
    have h3 := h3 hr7 hok5
    obtain ⟨h8, h9⟩ := h3
    refine J_if_eq (pc := 17) (tgt := 24) C dX7_place_17 (by decide) hr7 (fun cb => ?_) (fun cb => ?_)
    · have h8 := h8 cb
      refine J_iconst (pc := 24) C dX7_place_24 ?_
      refine J_c1 (pc := 25) C (J_rV (pc := 25) C (h8 (by decide)) dX7_place_25 rfl rfl 0 rfl rfl (cwV 1 C.1.2.2.2.2 gX7_place_X7_holds rfl rfl rfl (by decide +kernel) ⟨Nat.le_of_ble_eq_true rfl, Nat.le_of_ble_eq_true rfl⟩) hok5 (Nat.le_of_ble_eq_true rfl) ⟨Nat.le_of_ble_eq_true rfl, Nat.le_of_ble_eq_true rfl⟩) (fun E9 S9 ok9 q9 => JX_out C ok9 q9 (by decide) (by decide)) (fun rv13 S11 hr14 hok12 h10 => ?_)
      have h10 := h10 hr14 hok12
      obtain ⟨h15, h16⟩ := h10
      refine J_if_ne (pc := 28) (tgt := 33) C dX7_place_28 (by decide) hr14 (fun cb => ?_) (fun cb => ?_)
      · have h15 := h15 cb
        refine J_iload_n (pc := 33) C dX7_place_33 rfl ?_
        refine J_istore_n (pc := 34) C dX7_place_34 (by decide) ?_
        refine J_bipush (pc := 35) C dX7_place_35 (by decide) ?_
        refine J_istore (pc := 37) C dX7_place_37 (by decide) ?_
        exact J_sub (L1 := [some (.ref (G.2.2 0)), some (iV a0), none, some (iV a1), some (iV (-60)), none]) ⟨rfl, ⟨rfl, ⟨rfl, ⟨rfl, trivial⟩⟩⟩⟩ (h15 ra0 ra1 (by decide) p l e s m args below meth c G A C hok12)
      · have h16 := h16 cb
        refine J_iconst (pc := 31) C dX7_place_31 ?_
        exact J_iret (pc := 32) C dX7_place_32 (by decide) hok12 h16 (by decide) (by decide)
    · have h9 := h9 cb
      refine J_iconst (pc := 20) C dX7_place_20 ?_
      refine J_goto (pc := 21) (tgt := 25) C dX7_place_21 (by decide) ?_
      refine J_c1 (pc := 25) C (J_rV (pc := 25) C (h9 (by decide)) dX7_place_25 rfl rfl 0 rfl rfl (cwV 1 C.1.2.2.2.2 gX7_place_X7_holds rfl rfl rfl (by decide +kernel) ⟨Nat.le_of_ble_eq_true rfl, Nat.le_of_ble_eq_true rfl⟩) hok5 (Nat.le_of_ble_eq_true rfl) ⟨Nat.le_of_ble_eq_true rfl, Nat.le_of_ble_eq_true rfl⟩) (fun E9 S9 ok9 q9 => JX_out C ok9 q9 (by decide) (by decide)) (fun rv20 S18 hr21 hok19 h17 => ?_)
      have h17 := h17 hr21 hok19
      obtain ⟨h22, h23⟩ := h17
      refine J_if_ne (pc := 28) (tgt := 33) C dX7_place_28 (by decide) hr21 (fun cb => ?_) (fun cb => ?_)
      · have h22 := h22 cb
        refine J_iload_n (pc := 33) C dX7_place_33 rfl ?_
        refine J_istore_n (pc := 34) C dX7_place_34 (by decide) ?_
        refine J_bipush (pc := 35) C dX7_place_35 (by decide) ?_
        refine J_istore (pc := 37) C dX7_place_37 (by decide) ?_
        exact J_sub (L1 := [some (.ref (G.2.2 0)), some (iV a0), none, some (iV a1), some (iV (-60)), none]) ⟨rfl, ⟨rfl, ⟨rfl, ⟨rfl, trivial⟩⟩⟩⟩ (h22 ra0 ra1 (by decide) p l e s m args below meth c G A C hok19)
      · have h23 := h23 cb
        refine J_iconst (pc := 31) C dX7_place_31 ?_
        exact J_iret (pc := 32) C dX7_place_32 (by decide) hok19 h23 (by decide) (by decide)
  · have h2 := h2 cb
    refine J_iconst (pc := 5) C dX7_place_5 ?_
    refine J_goto (pc := 6) (tgt := 25) C dX7_place_6 (by decide) ?_
    refine J_c1 (pc := 25) C (J_rV (pc := 25) C (h2 (by decide)) dX7_place_25 rfl rfl 0 rfl rfl (cwV 1 C.1.2.2.2.2 gX7_place_X7_holds rfl rfl rfl (by decide +kernel) ⟨Nat.le_of_ble_eq_true rfl, Nat.le_of_ble_eq_true rfl⟩) hok (Nat.le_of_ble_eq_true rfl) ⟨Nat.le_of_ble_eq_true rfl, Nat.le_of_ble_eq_true rfl⟩) (fun E9 S9 ok9 q9 => JX_out C ok9 q9 (by decide) (by decide)) (fun rv27 S25 hr28 hok26 h24 => ?_)
    have h24 := h24 hr28 hok26
    obtain ⟨h29, h30⟩ := h24
    refine J_if_ne (pc := 28) (tgt := 33) C dX7_place_28 (by decide) hr28 (fun cb => ?_) (fun cb => ?_)
    · have h29 := h29 cb
      refine J_iload_n (pc := 33) C dX7_place_33 rfl ?_
      refine J_istore_n (pc := 34) C dX7_place_34 (by decide) ?_
      refine J_bipush (pc := 35) C dX7_place_35 (by decide) ?_
      refine J_istore (pc := 37) C dX7_place_37 (by decide) ?_
      exact J_sub (L1 := [some (.ref (G.2.2 0)), some (iV a0), none, some (iV a1), some (iV (-60)), none]) ⟨rfl, ⟨rfl, ⟨rfl, ⟨rfl, trivial⟩⟩⟩⟩ (h29 ra0 ra1 (by decide) p l e s m args below meth c G A C hok26)
    · have h30 := h30 cb
      refine J_iconst (pc := 31) C dX7_place_31 ?_
      exact J_iret (pc := 32) C dX7_place_32 (by decide) hok26 h30 (by decide) (by decide)
set_option maxRecDepth 100000 in
set_option maxHeartbeats 4000000 in
theorem vc_X7_place_39 {x1 x3 x4 : Int} {S : St} {Qr : Int → St → Prop} {Qx : String → St → Prop} (h : r32 x1 → r32 x3 → r32 x4 → okM S → ((60 < x4 → Qr (-1) S) ∧ (x4 ≤ 60 → R_X7_place_50 x1 x3 x4 (-60) S Qr Qx))) : R_X7_place_39 x1 x3 x4 S Qr Qx := by
  intro rx1 rx3 rx4
  intro p l e s m args below meth c G A C hok
  have h := h rx1 rx3 rx4 hok
  replace C : Cx wM cX7_place 6 RX7 wsX7_place (some .int) [] p l s m args meth c G A := C
  show J wM 6 rmX7_place p l e s m args below meth c G A (QQ 1 wM okM G Qr Qx A below args s rmX7_place.cells rmX7_place.slots) 0 0 S [some (.ref (G.2.2 0)), some (iV x1), none, some (iV x3), some (iV x4), none] [] 39
  refine J_iload (pc := 39) C dX7_place_39 rfl ?_
  refine J_bipush (pc := 41) C dX7_place_41 (by decide) ?_
  obtain ⟨h1, h2⟩ := h
  refine J_icmp_gt (pc := 43) (tgt := 104) C dX7_place_43 (by decide) rx4 (by decide) (fun cb => ?_) (fun cb => ?_)
  · have h1 := h1 cb
    refine J_iconst (pc := 104) C dX7_place_104 ?_
    exact J_iret (pc := 105) C dX7_place_105 (by decide) hok h1 (by decide) (by decide)
  · have h2 := h2 cb
    refine J_bipush (pc := 46) C dX7_place_46 (by decide) ?_
    refine J_istore (pc := 48) C dX7_place_48 (by decide) ?_
    exact J_sub (L1 := [some (.ref (G.2.2 0)), some (iV x1), none, some (iV x3), some (iV x4), some (iV (-60))]) ⟨rfl, ⟨rfl, ⟨rfl, ⟨rfl, ⟨rfl, trivial⟩⟩⟩⟩⟩ (h2 rx1 rx3 rx4 (by decide) p l e s m args below meth c G A C hok)
set_option maxRecDepth 100000 in
set_option maxHeartbeats 4000000 in
theorem vc_X7_place_50 {x1 x3 x4 x5 : Int} {S : St} {Qr : Int → St → Prop} {Qx : String → St → Prop} (h : r32 x1 → r32 x3 → r32 x4 → r32 x5 → okM S → ((60 < x5 → (r32 (x4 + 1) ∧ R_X7_place_39 x1 x3 (x4 + 1) S Qr Qx)) ∧ (x5 ≤ 60 → M_X7_fits x4 x5 x1 S (fun rv8 S6 => r32 rv8 → okM S6 → ((rv8 = 0 → (r32 (x5 + 1) ∧ R_X7_place_50 x1 x3 x4 (x5 + 1) S6 Qr Qx)) ∧ (rv8 ≠ 0 → ((x3 ≠ 0 → (r32 (x3 + (-1)) ∧ (r32 (x5 + 1) ∧ R_X7_place_50 x1 (x3 + (-1)) x4 (x5 + 1) S6 Qr Qx))) ∧ (x3 = 0 → (r32 (((1000 * (x4 + 60)) + x5) + 60) ∧ Qr (((1000 * (x4 + 60)) + x5) + 60) S6)))))) Qx))) : R_X7_place_50 x1 x3 x4 x5 S Qr Qx := by
  intro rx1 rx3 rx4 rx5
  intro p l e s m args below meth c G A C hok
  have h := h rx1 rx3 rx4 rx5 hok
  replace C : Cx wM cX7_place 6 RX7 wsX7_place (some .int) [] p l s m args meth c G A := C
  show J wM 6 rmX7_place p l e s m args below meth c G A (QQ 1 wM okM G Qr Qx A below args s rmX7_place.cells rmX7_place.slots) 0 0 S [some (.ref (G.2.2 0)), some (iV x1), none, some (iV x3), some (iV x4), some (iV x5)] [] 50
  refine J_iload (pc := 50) C dX7_place_50 rfl ?_
  refine J_bipush (pc := 52) C dX7_place_52 (by decide) ?_
  obtain ⟨h1, h2⟩ := h
  refine J_icmp_gt (pc := 54) (tgt := 98) C dX7_place_54 (by decide) rx5 (by decide) (fun cb => ?_) (fun cb => ?_)
  · have h1 := h1 cb
    refine J_iinc (pc := 98) C dX7_place_98 rfl (by decide) ?_
    refine J_goto (pc := 101) (tgt := 39) C dX7_place_101 (by decide) ?_
    obtain ⟨o3, h4⟩ := h1
    exact J_sub (L1 := [some (.ref (G.2.2 0)), some (iV x1), none, some (iV x3), some (iV (x4 + 1)), none]) ⟨rfl, ⟨rfl, ⟨rfl, ⟨rfl, trivial⟩⟩⟩⟩ (h4 rx1 rx3 o3 p l e s m args below meth c G A C hok)
  · have h2 := h2 cb
    refine J_aload_n (pc := 57) C dX7_place_57 rfl ?_
    refine J_iload (pc := 58) C dX7_place_58 rfl ?_
    refine J_iload (pc := 60) C dX7_place_60 rfl ?_
    refine J_iload_n (pc := 62) C dX7_place_62 rfl ?_
    refine J_c1 (pc := 63) C (J_rV (pc := 63) C (h2 rx4 rx5 rx1) dX7_place_63 rfl rfl 0 rfl rfl (cwV 3 C.1.2.2.2.2 gX7_place_X7_fits rfl rfl rfl (by decide +kernel) ⟨Nat.le_of_ble_eq_true rfl, Nat.le_of_ble_eq_true rfl⟩) hok (Nat.le_of_ble_eq_true rfl) ⟨Nat.le_of_ble_eq_true rfl, Nat.le_of_ble_eq_true rfl⟩) (fun E9 S9 ok9 q9 => JX_out C ok9 q9 (by decide) (by decide)) (fun rv8 S6 hr9 hok7 h5 => ?_)
    have h5 := h5 hr9 hok7
    obtain ⟨h10, h11⟩ := h5
    refine J_if_eq (pc := 66) (tgt := 92) C dX7_place_66 (by decide) hr9 (fun cb => ?_) (fun cb => ?_)
    · have h10 := h10 cb
      refine J_iinc (pc := 92) C dX7_place_92 rfl (by decide) ?_
      refine J_goto (pc := 95) (tgt := 50) C dX7_place_95 (by decide) ?_
      obtain ⟨o12, h13⟩ := h10
      exact J_sub (L1 := [some (.ref (G.2.2 0)), some (iV x1), none, some (iV x3), some (iV x4), some (iV (x5 + 1))]) ⟨rfl, ⟨rfl, ⟨rfl, ⟨rfl, ⟨rfl, trivial⟩⟩⟩⟩⟩ (h13 rx1 rx3 rx4 o12 p l e s m args below meth c G A C hok7)
    · have h11 := h11 cb
      refine J_iload_n (pc := 69) C dX7_place_69 rfl ?_
      obtain ⟨h14, h15⟩ := h11
      refine J_if_ne (pc := 70) (tgt := 89) C dX7_place_70 (by decide) rx3 (fun cb => ?_) (fun cb => ?_)
      · have h14 := h14 cb
        refine J_iinc (pc := 89) C dX7_place_89 rfl (by decide) ?_
        refine J_iinc (pc := 92) C dX7_place_92 rfl (by decide) ?_
        refine J_goto (pc := 95) (tgt := 50) C dX7_place_95 (by decide) ?_
        obtain ⟨o16, h17⟩ := h14
        obtain ⟨o18, h19⟩ := h17
        exact J_sub (L1 := [some (.ref (G.2.2 0)), some (iV x1), none, some (iV (x3 + (-1))), some (iV x4), some (iV (x5 + 1))]) ⟨rfl, ⟨rfl, ⟨rfl, ⟨rfl, ⟨rfl, trivial⟩⟩⟩⟩⟩ (h19 rx1 o16 rx4 o18 p l e s m args below meth c G A C hok7)
      · have h15 := h15 cb
        refine J_sipush (pc := 73) C dX7_place_73 (by decide) ?_
        refine J_iload (pc := 76) C dX7_place_76 rfl ?_
        refine J_bipush (pc := 78) C dX7_place_78 (by decide) ?_
        refine J_iadd (pc := 80) C dX7_place_80 ?_
        refine J_imul (pc := 81) C dX7_place_81 ?_
        refine J_iload (pc := 82) C dX7_place_82 rfl ?_
        refine J_iadd (pc := 84) C dX7_place_84 ?_
        refine J_bipush (pc := 85) C dX7_place_85 (by decide) ?_
        refine J_iadd (pc := 87) C dX7_place_87 ?_
        obtain ⟨o20, h21⟩ := h15
        exact J_iret (pc := 88) C dX7_place_88 o20 hok7 h21 (by decide) (by decide)
def rmX7_places : Room := { frames := 2, cells := 0, slots := 0, locals := 48 }
def M_X7_places (a0 : Int) (S : St) (Qr : Int → St → Prop) (Qx : String → St → Prop) : Prop := r32 a0 → MM 1 wM okM yX7_places wsX7_places rmX7_places (fun G => [.ref (G.2.2 0), iV a0]) S Qr Qx
def R_X7_places_30 (x1 x2 x3 : Int) (S : St) (Qr : Int → St → Prop) (Qx : String → St → Prop) : Prop := r32 x1 → r32 x2 → r32 x3 → RR 1 wM okM wsX7_places rmX7_places cX7_places 5 RX7 (some .int) [] 0 0 (fun G => [some (.ref (G.2.2 0)), some (iV x1), some (iV x2), some (iV x3), none]) (fun G => []) 30 S Qr Qx
def R_X7_places_40 (x1 x2 x3 x4 : Int) (S : St) (Qr : Int → St → Prop) (Qx : String → St → Prop) : Prop := r32 x1 → r32 x2 → r32 x3 → r32 x4 → RR 1 wM okM wsX7_places rmX7_places cX7_places 5 RX7 (some .int) [] 0 0 (fun G => [some (.ref (G.2.2 0)), some (iV x1), some (iV x2), some (iV x3), some (iV x4)]) (fun G => []) 40 S Qr Qx
set_option maxRecDepth 100000 in
set_option maxHeartbeats 4000000 in
theorem vc_X7_places {a0 : Int} {S : St} {Qr : Int → St → Prop} {Qx : String → St → Prop} (h : r32 a0 → okM S → M_X7_isIn a0 0 5000 S (fun rv4 S2 => r32 rv4 → okM S2 → ((rv4 = 0 → M_X7_holds 1 S2 (fun rv11 S9 => r32 rv11 → okM S9 → ((rv11 ≠ 0 → R_X7_places_30 a0 0 (-60) S9 Qr Qx) ∧ (rv11 = 0 → Qr 0 S9))) Qx) ∧ (rv4 ≠ 0 → M_X7_holds 0 S2 (fun rv18 S16 => r32 rv18 → okM S16 → ((rv18 ≠ 0 → R_X7_places_30 a0 0 (-60) S16 Qr Qx) ∧ (rv18 = 0 → Qr 0 S16))) Qx))) Qx) : M_X7_places a0 S Qr Qx := by
  intro ra0
  refine MM_of adM (by decide +kernel) rfl (Lf := fun G => [some (.ref (G.2.2 0)), some (iV a0), none, none, none]) (fun G => by show _ ≤ _; exact Nat.le_of_ble_eq_true rfl) (fun G => rfl) ?_
  intro p l e s m args below meth c G A C hok
  have h := h ra0 hok
  replace C : Cx wM cX7_places 5 RX7 wsX7_places (some .int) [] p l s m args meth c G A := C
  show J wM 5 rmX7_places p l e s m args below meth c G A (QQ 1 wM okM G Qr Qx A below args s rmX7_places.cells rmX7_places.slots) 0 0 S [some (.ref (G.2.2 0)), some (iV a0), none, none, none] [] 0
  refine J_aload_n (pc := 0) C dX7_places_0 rfl ?_
  refine J_iload_n (pc := 1) C dX7_places_1 rfl ?_
  refine J_iconst (pc := 2) C dX7_places_2 ?_
  refine J_sipush (pc := 3) C dX7_places_3 (by decide) ?_
  refine J_c1 (pc := 6) C (J_rS (pc := 6) C (h ra0 (by decide) (by decide)) dX7_places_6 rfl rfl (va_cwS 3 C.1.2.2.2.2 gX7_places_X7_isIn rfl rfl rfl (by decide +kernel) ⟨Nat.le_of_ble_eq_true rfl, Nat.le_of_ble_eq_true rfl⟩) hok (Nat.le_of_ble_eq_true rfl) ⟨Nat.le_of_ble_eq_true rfl, Nat.le_of_ble_eq_true rfl⟩) (fun E9 S9 ok9 q9 => JX_out C ok9 q9 (by decide) (by decide)) (fun rv4 S2 hr5 hok3 h1 => ?_)
  have h1 := h1 hr5 hok3
  obtain ⟨h6, h7⟩ := h1
  refine J_if_eq (pc := 9) (tgt := 16) C dX7_places_9 (by decide) hr5 (fun cb => ?_) (fun cb => ?_)
  · have h6 := h6 cb
    refine J_iconst (pc := 16) C dX7_places_16 ?_
    refine J_c1 (pc := 17) C (J_rV (pc := 17) C (h6 (by decide)) dX7_places_17 rfl rfl 0 rfl rfl (cwV 1 C.1.2.2.2.2 gX7_places_X7_holds rfl rfl rfl (by decide +kernel) ⟨Nat.le_of_ble_eq_true rfl, Nat.le_of_ble_eq_true rfl⟩) hok3 (Nat.le_of_ble_eq_true rfl) ⟨Nat.le_of_ble_eq_true rfl, Nat.le_of_ble_eq_true rfl⟩) (fun E9 S9 ok9 q9 => JX_out C ok9 q9 (by decide) (by decide)) (fun rv11 S9 hr12 hok10 h8 => ?_)
    have h8 := h8 hr12 hok10
    obtain ⟨h13, h14⟩ := h8
    refine J_if_ne (pc := 20) (tgt := 25) C dX7_places_20 (by decide) hr12 (fun cb => ?_) (fun cb => ?_)
    · have h13 := h13 cb
      refine J_iconst (pc := 25) C dX7_places_25 ?_
      refine J_istore_n (pc := 26) C dX7_places_26 (by decide) ?_
      refine J_bipush (pc := 27) C dX7_places_27 (by decide) ?_
      refine J_istore_n (pc := 29) C dX7_places_29 (by decide) ?_
      exact J_sub (L1 := [some (.ref (G.2.2 0)), some (iV a0), some (iV 0), some (iV (-60)), none]) ⟨rfl, ⟨rfl, ⟨rfl, ⟨rfl, trivial⟩⟩⟩⟩ (h13 ra0 (by decide) (by decide) p l e s m args below meth c G A C hok10)
    · have h14 := h14 cb
      refine J_iconst (pc := 23) C dX7_places_23 ?_
      exact J_iret (pc := 24) C dX7_places_24 (by decide) hok10 h14 (by decide) (by decide)
  · have h7 := h7 cb
    refine J_iconst (pc := 12) C dX7_places_12 ?_
    refine J_goto (pc := 13) (tgt := 17) C dX7_places_13 (by decide) ?_
    refine J_c1 (pc := 17) C (J_rV (pc := 17) C (h7 (by decide)) dX7_places_17 rfl rfl 0 rfl rfl (cwV 1 C.1.2.2.2.2 gX7_places_X7_holds rfl rfl rfl (by decide +kernel) ⟨Nat.le_of_ble_eq_true rfl, Nat.le_of_ble_eq_true rfl⟩) hok3 (Nat.le_of_ble_eq_true rfl) ⟨Nat.le_of_ble_eq_true rfl, Nat.le_of_ble_eq_true rfl⟩) (fun E9 S9 ok9 q9 => JX_out C ok9 q9 (by decide) (by decide)) (fun rv18 S16 hr19 hok17 h15 => ?_)
    have h15 := h15 hr19 hok17
    obtain ⟨h20, h21⟩ := h15
    refine J_if_ne (pc := 20) (tgt := 25) C dX7_places_20 (by decide) hr19 (fun cb => ?_) (fun cb => ?_)
    · have h20 := h20 cb
      refine J_iconst (pc := 25) C dX7_places_25 ?_
      refine J_istore_n (pc := 26) C dX7_places_26 (by decide) ?_
      refine J_bipush (pc := 27) C dX7_places_27 (by decide) ?_
      refine J_istore_n (pc := 29) C dX7_places_29 (by decide) ?_
      exact J_sub (L1 := [some (.ref (G.2.2 0)), some (iV a0), some (iV 0), some (iV (-60)), none]) ⟨rfl, ⟨rfl, ⟨rfl, ⟨rfl, trivial⟩⟩⟩⟩ (h20 ra0 (by decide) (by decide) p l e s m args below meth c G A C hok17)
    · have h21 := h21 cb
      refine J_iconst (pc := 23) C dX7_places_23 ?_
      exact J_iret (pc := 24) C dX7_places_24 (by decide) hok17 h21 (by decide) (by decide)
set_option maxRecDepth 100000 in
set_option maxHeartbeats 4000000 in
theorem vc_X7_places_30 {x1 x2 x3 : Int} {S : St} {Qr : Int → St → Prop} {Qx : String → St → Prop} (h : r32 x1 → r32 x2 → r32 x3 → okM S → ((60 < x3 → Qr x2 S) ∧ (x3 ≤ 60 → R_X7_places_40 x1 x2 x3 (-60) S Qr Qx))) : R_X7_places_30 x1 x2 x3 S Qr Qx := by
  intro rx1 rx2 rx3
  intro p l e s m args below meth c G A C hok
  have h := h rx1 rx2 rx3 hok
  replace C : Cx wM cX7_places 5 RX7 wsX7_places (some .int) [] p l s m args meth c G A := C
  show J wM 5 rmX7_places p l e s m args below meth c G A (QQ 1 wM okM G Qr Qx A below args s rmX7_places.cells rmX7_places.slots) 0 0 S [some (.ref (G.2.2 0)), some (iV x1), some (iV x2), some (iV x3), none] [] 30
  refine J_iload_n (pc := 30) C dX7_places_30 rfl ?_
  refine J_bipush (pc := 31) C dX7_places_31 (by decide) ?_
  obtain ⟨h1, h2⟩ := h
  refine J_icmp_gt (pc := 33) (tgt := 78) C dX7_places_33 (by decide) rx3 (by decide) (fun cb => ?_) (fun cb => ?_)
  · have h1 := h1 cb
    refine J_iload_n (pc := 78) C dX7_places_78 rfl ?_
    exact J_iret (pc := 79) C dX7_places_79 rx2 hok h1 (by decide) (by decide)
  · have h2 := h2 cb
    refine J_bipush (pc := 36) C dX7_places_36 (by decide) ?_
    refine J_istore (pc := 38) C dX7_places_38 (by decide) ?_
    exact J_sub (L1 := [some (.ref (G.2.2 0)), some (iV x1), some (iV x2), some (iV x3), some (iV (-60))]) ⟨rfl, ⟨rfl, ⟨rfl, ⟨rfl, ⟨rfl, trivial⟩⟩⟩⟩⟩ (h2 rx1 rx2 rx3 (by decide) p l e s m args below meth c G A C hok)
set_option maxRecDepth 100000 in
set_option maxHeartbeats 4000000 in
theorem vc_X7_places_40 {x1 x2 x3 x4 : Int} {S : St} {Qr : Int → St → Prop} {Qx : String → St → Prop} (h : r32 x1 → r32 x2 → r32 x3 → r32 x4 → okM S → ((60 < x4 → (r32 (x3 + 1) ∧ R_X7_places_30 x1 x2 (x3 + 1) S Qr Qx)) ∧ (x4 ≤ 60 → M_X7_fits x3 x4 x1 S (fun rv8 S6 => r32 rv8 → okM S6 → ((rv8 = 0 → (r32 (x2 + 0) ∧ (r32 (x4 + 1) ∧ R_X7_places_40 x1 (x2 + 0) x3 (x4 + 1) S6 Qr Qx))) ∧ (rv8 ≠ 0 → (r32 (x2 + 1) ∧ (r32 (x4 + 1) ∧ R_X7_places_40 x1 (x2 + 1) x3 (x4 + 1) S6 Qr Qx))))) Qx))) : R_X7_places_40 x1 x2 x3 x4 S Qr Qx := by
  intro rx1 rx2 rx3 rx4
  intro p l e s m args below meth c G A C hok
  have h := h rx1 rx2 rx3 rx4 hok
  replace C : Cx wM cX7_places 5 RX7 wsX7_places (some .int) [] p l s m args meth c G A := C
  show J wM 5 rmX7_places p l e s m args below meth c G A (QQ 1 wM okM G Qr Qx A below args s rmX7_places.cells rmX7_places.slots) 0 0 S [some (.ref (G.2.2 0)), some (iV x1), some (iV x2), some (iV x3), some (iV x4)] [] 40
  refine J_iload (pc := 40) C dX7_places_40 rfl ?_
  refine J_bipush (pc := 42) C dX7_places_42 (by decide) ?_
  obtain ⟨h1, h2⟩ := h
  refine J_icmp_gt (pc := 44) (tgt := 72) C dX7_places_44 (by decide) rx4 (by decide) (fun cb => ?_) (fun cb => ?_)
  · have h1 := h1 cb
    refine J_iinc (pc := 72) C dX7_places_72 rfl (by decide) ?_
    refine J_goto (pc := 75) (tgt := 30) C dX7_places_75 (by decide) ?_
    obtain ⟨o3, h4⟩ := h1
    exact J_sub (L1 := [some (.ref (G.2.2 0)), some (iV x1), some (iV x2), some (iV (x3 + 1)), none]) ⟨rfl, ⟨rfl, ⟨rfl, ⟨rfl, trivial⟩⟩⟩⟩ (h4 rx1 rx2 o3 p l e s m args below meth c G A C hok)
  · have h2 := h2 cb
    refine J_iload_n (pc := 47) C dX7_places_47 rfl ?_
    refine J_aload_n (pc := 48) C dX7_places_48 rfl ?_
    refine J_iload_n (pc := 49) C dX7_places_49 rfl ?_
    refine J_iload (pc := 50) C dX7_places_50 rfl ?_
    refine J_iload_n (pc := 52) C dX7_places_52 rfl ?_
    refine J_c1 (pc := 53) C (J_rV (pc := 53) C (h2 rx3 rx4 rx1) dX7_places_53 rfl rfl 0 rfl rfl (cwV 3 C.1.2.2.2.2 gX7_places_X7_fits rfl rfl rfl (by decide +kernel) ⟨Nat.le_of_ble_eq_true rfl, Nat.le_of_ble_eq_true rfl⟩) hok (Nat.le_of_ble_eq_true rfl) ⟨Nat.le_of_ble_eq_true rfl, Nat.le_of_ble_eq_true rfl⟩) (fun E9 S9 ok9 q9 => JX_out C ok9 q9 (by decide) (by decide)) (fun rv8 S6 hr9 hok7 h5 => ?_)
    have h5 := h5 hr9 hok7
    obtain ⟨h10, h11⟩ := h5
    refine J_if_eq (pc := 56) (tgt := 63) C dX7_places_56 (by decide) hr9 (fun cb => ?_) (fun cb => ?_)
    · have h10 := h10 cb
      refine J_iconst (pc := 63) C dX7_places_63 ?_
      refine J_iadd (pc := 64) C dX7_places_64 ?_
      refine J_istore_n (pc := 65) C dX7_places_65 (by decide) ?_
      refine J_iinc (pc := 66) C dX7_places_66 rfl (by decide) ?_
      refine J_goto (pc := 69) (tgt := 40) C dX7_places_69 (by decide) ?_
      obtain ⟨o12, h13⟩ := h10
      obtain ⟨o14, h15⟩ := h13
      exact J_sub (L1 := [some (.ref (G.2.2 0)), some (iV x1), some (iV (x2 + 0)), some (iV x3), some (iV (x4 + 1))]) ⟨rfl, ⟨rfl, ⟨rfl, ⟨rfl, ⟨rfl, trivial⟩⟩⟩⟩⟩ (h15 rx1 o12 rx3 o14 p l e s m args below meth c G A C hok7)
    · have h11 := h11 cb
      refine J_iconst (pc := 59) C dX7_places_59 ?_
      refine J_goto (pc := 60) (tgt := 64) C dX7_places_60 (by decide) ?_
      refine J_iadd (pc := 64) C dX7_places_64 ?_
      refine J_istore_n (pc := 65) C dX7_places_65 (by decide) ?_
      refine J_iinc (pc := 66) C dX7_places_66 rfl (by decide) ?_
      refine J_goto (pc := 69) (tgt := 40) C dX7_places_69 (by decide) ?_
      obtain ⟨o16, h17⟩ := h11
      obtain ⟨o18, h19⟩ := h17
      exact J_sub (L1 := [some (.ref (G.2.2 0)), some (iV x1), some (iV (x2 + 1)), some (iV x3), some (iV (x4 + 1))]) ⟨rfl, ⟨rfl, ⟨rfl, ⟨rfl, ⟨rfl, trivial⟩⟩⟩⟩⟩ (h19 rx1 o16 rx3 o18 p l e s m args below meth c G A C hok7)
def rmX7_range : Room := { frames := 2, cells := 0, slots := 0, locals := 43 }
theorem mX7_range_f20 : Cond.fieldLink RX7 20 "StressworkModel" "range" "[I" ∈ wsX7_range := by decide +kernel
theorem nX7_range_X7 : ∀ x ∈ wsX70, x ∈ wsX7_range := by decide +kernel
def M_X7_range (a0 a1 : Int) (S : St) (Qr : Int → St → Prop) (Qx : String → St → Prop) : Prop := r32 a0 → r32 a1 → MM 1 wM okM yX7_range wsX7_range rmX7_range (fun G => [.ref (G.2.2 0), iV a0, iV a1]) S Qr Qx
set_option maxRecDepth 100000 in
set_option maxHeartbeats 4000000 in
theorem vc_X7_range {a0 a1 : Int} {S : St} {Qr : Int → St → Prop} {Qx : String → St → Prop} (h : r32 a0 → r32 a1 → okM S → M_X7_isJoint a0 S (fun rv4 S2 => r32 rv4 → okM S2 → ((rv4 ≠ 0 → M_X7_isIn a1 (-1) 30000 S2 (fun rv11 S9 => r32 rv11 → okM S9 → ((rv11 = 0 → M_X7_holds 2 S9 (fun rv18 S16 => r32 rv18 → okM S16 → ((rv18 ≠ 0 → (ix a0 10 ∧ Qr (S16 4 a0) (up S16 4 a0 a1))) ∧ (rv18 = 0 → Qr 0 S16))) Qx) ∧ (rv11 ≠ 0 → M_X7_holds 0 S9 (fun rv28 S26 => r32 rv28 → okM S26 → ((rv28 ≠ 0 → (ix a0 10 ∧ Qr (S26 4 a0) (up S26 4 a0 a1))) ∧ (rv28 = 0 → Qr 0 S26))) Qx))) Qx) ∧ (rv4 = 0 → M_X7_holds 1 S2 (fun rv38 S36 => r32 rv38 → okM S36 → ((rv38 ≠ 0 → (ix a0 10 ∧ Qr (S36 4 a0) (up S36 4 a0 a1))) ∧ (rv38 = 0 → Qr 0 S36))) Qx))) Qx) : M_X7_range a0 a1 S Qr Qx := by
  intro ra0 ra1
  refine MM_of adM (by decide +kernel) rfl (Lf := fun G => [some (.ref (G.2.2 0)), some (iV a0), some (iV a1), none]) (fun G => by show _ ≤ _; exact Nat.le_of_ble_eq_true rfl) (fun G => rfl) ?_
  intro p l e s m args below meth c G A C hok
  have h := h ra0 ra1 hok
  replace C : Cx wM cX7_range 4 RX7 wsX7_range (some .int) [] p l s m args meth c G A := C
  show J wM 4 rmX7_range p l e s m args below meth c G A (QQ 1 wM okM G Qr Qx A below args s rmX7_range.cells rmX7_range.slots) 0 0 S [some (.ref (G.2.2 0)), some (iV a0), some (iV a1), none] [] 0
  refine J_aload_n (pc := 0) C dX7_range_0 rfl ?_
  refine J_aload_n (pc := 1) C dX7_range_1 rfl ?_
  refine J_iload_n (pc := 2) C dX7_range_2 rfl ?_
  refine J_c1 (pc := 3) C (J_rV (pc := 3) C (h ra0) dX7_range_3 rfl rfl 0 rfl rfl (cwV 1 C.1.2.2.2.2 gX7_range_X7_isJoint rfl rfl rfl (by decide +kernel) ⟨Nat.le_of_ble_eq_true rfl, Nat.le_of_ble_eq_true rfl⟩) hok (Nat.le_of_ble_eq_true rfl) ⟨Nat.le_of_ble_eq_true rfl, Nat.le_of_ble_eq_true rfl⟩) (fun E9 S9 ok9 q9 => JX_out C ok9 q9 (by decide) (by decide)) (fun rv4 S2 hr5 hok3 h1 => ?_)
  have h1 := h1 hr5 hok3
  obtain ⟨h6, h7⟩ := h1
  refine J_if_ne (pc := 6) (tgt := 13) C dX7_range_6 (by decide) hr5 (fun cb => ?_) (fun cb => ?_)
  · have h6 := h6 cb
    refine J_iload_n (pc := 13) C dX7_range_13 rfl ?_
    refine J_iconst (pc := 14) C dX7_range_14 ?_
    refine J_sipush (pc := 15) C dX7_range_15 (by decide) ?_
    refine J_c1 (pc := 18) C (J_rS (pc := 18) C (h6 ra1 (by decide) (by decide)) dX7_range_18 rfl rfl (va_cwS 3 C.1.2.2.2.2 gX7_range_X7_isIn rfl rfl rfl (by decide +kernel) ⟨Nat.le_of_ble_eq_true rfl, Nat.le_of_ble_eq_true rfl⟩) hok3 (Nat.le_of_ble_eq_true rfl) ⟨Nat.le_of_ble_eq_true rfl, Nat.le_of_ble_eq_true rfl⟩) (fun E9 S9 ok9 q9 => JX_out C ok9 q9 (by decide) (by decide)) (fun rv11 S9 hr12 hok10 h8 => ?_)
    have h8 := h8 hr12 hok10
    obtain ⟨h13, h14⟩ := h8
    refine J_if_eq (pc := 21) (tgt := 28) C dX7_range_21 (by decide) hr12 (fun cb => ?_) (fun cb => ?_)
    · have h13 := h13 cb
      refine J_iconst (pc := 28) C dX7_range_28 ?_
      refine J_c1 (pc := 29) C (J_rV (pc := 29) C (h13 (by decide)) dX7_range_29 rfl rfl 0 rfl rfl (cwV 1 C.1.2.2.2.2 gX7_range_X7_holds rfl rfl rfl (by decide +kernel) ⟨Nat.le_of_ble_eq_true rfl, Nat.le_of_ble_eq_true rfl⟩) hok10 (Nat.le_of_ble_eq_true rfl) ⟨Nat.le_of_ble_eq_true rfl, Nat.le_of_ble_eq_true rfl⟩) (fun E9 S9 ok9 q9 => JX_out C ok9 q9 (by decide) (by decide)) (fun rv18 S16 hr19 hok17 h15 => ?_)
      have h15 := h15 hr19 hok17
      obtain ⟨h20, h21⟩ := h15
      refine J_if_ne (pc := 32) (tgt := 37) C dX7_range_32 (by decide) hr19 (fun cb => ?_) (fun cb => ?_)
      · have h20 := h20 cb
        refine J_aload_n (pc := 37) C dX7_range_37 rfl ?_
        refine J_get (pc := 38) C dX7_range_38 0 rfl rfl nX7_range_X7 5 (by decide) mX7_range_f20 rfl (v := .ref (G.2.2 4)) rfl ?_
        refine J_iload_n (pc := 41) C dX7_range_41 rfl ?_
        obtain ⟨o22, h23⟩ := h20
        refine J_iald (pc := 42) C dX7_range_42 4 4 rfl (by decide) o22 ?_
        refine J_istore_n (pc := 43) C dX7_range_43 (by decide) ?_
        refine J_aload_n (pc := 44) C dX7_range_44 rfl ?_
        refine J_get (pc := 45) C dX7_range_45 0 rfl rfl nX7_range_X7 5 (by decide) mX7_range_f20 rfl (v := .ref (G.2.2 4)) rfl ?_
        refine J_iload_n (pc := 48) C dX7_range_48 rfl ?_
        refine J_iload_n (pc := 49) C dX7_range_49 rfl ?_
        refine J_iast (pc := 50) C dX7_range_50 4 4 rfl (by decide) o22 (sM_4 G S16 a0 a1) ?_
        have hok24 := okM_up (k := 4) (j := a0) hok17 (show rngM 4 a1 from ra1)
        refine J_iload_n (pc := 51) C dX7_range_51 rfl ?_
        exact J_iret (pc := 52) C dX7_range_52 (hok17 4 a0) hok24 h23 (by decide) (by decide)
      · have h21 := h21 cb
        refine J_iconst (pc := 35) C dX7_range_35 ?_
        exact J_iret (pc := 36) C dX7_range_36 (by decide) hok17 h21 (by decide) (by decide)
    · have h14 := h14 cb
      refine J_iconst (pc := 24) C dX7_range_24 ?_
      refine J_goto (pc := 25) (tgt := 29) C dX7_range_25 (by decide) ?_
      refine J_c1 (pc := 29) C (J_rV (pc := 29) C (h14 (by decide)) dX7_range_29 rfl rfl 0 rfl rfl (cwV 1 C.1.2.2.2.2 gX7_range_X7_holds rfl rfl rfl (by decide +kernel) ⟨Nat.le_of_ble_eq_true rfl, Nat.le_of_ble_eq_true rfl⟩) hok10 (Nat.le_of_ble_eq_true rfl) ⟨Nat.le_of_ble_eq_true rfl, Nat.le_of_ble_eq_true rfl⟩) (fun E9 S9 ok9 q9 => JX_out C ok9 q9 (by decide) (by decide)) (fun rv28 S26 hr29 hok27 h25 => ?_)
      have h25 := h25 hr29 hok27
      obtain ⟨h30, h31⟩ := h25
      refine J_if_ne (pc := 32) (tgt := 37) C dX7_range_32 (by decide) hr29 (fun cb => ?_) (fun cb => ?_)
      · have h30 := h30 cb
        refine J_aload_n (pc := 37) C dX7_range_37 rfl ?_
        refine J_get (pc := 38) C dX7_range_38 0 rfl rfl nX7_range_X7 5 (by decide) mX7_range_f20 rfl (v := .ref (G.2.2 4)) rfl ?_
        refine J_iload_n (pc := 41) C dX7_range_41 rfl ?_
        obtain ⟨o32, h33⟩ := h30
        refine J_iald (pc := 42) C dX7_range_42 4 4 rfl (by decide) o32 ?_
        refine J_istore_n (pc := 43) C dX7_range_43 (by decide) ?_
        refine J_aload_n (pc := 44) C dX7_range_44 rfl ?_
        refine J_get (pc := 45) C dX7_range_45 0 rfl rfl nX7_range_X7 5 (by decide) mX7_range_f20 rfl (v := .ref (G.2.2 4)) rfl ?_
        refine J_iload_n (pc := 48) C dX7_range_48 rfl ?_
        refine J_iload_n (pc := 49) C dX7_range_49 rfl ?_
        refine J_iast (pc := 50) C dX7_range_50 4 4 rfl (by decide) o32 (sM_4 G S26 a0 a1) ?_
        have hok34 := okM_up (k := 4) (j := a0) hok27 (show rngM 4 a1 from ra1)
        refine J_iload_n (pc := 51) C dX7_range_51 rfl ?_
        exact J_iret (pc := 52) C dX7_range_52 (hok27 4 a0) hok34 h33 (by decide) (by decide)
      · have h31 := h31 cb
        refine J_iconst (pc := 35) C dX7_range_35 ?_
        exact J_iret (pc := 36) C dX7_range_36 (by decide) hok27 h31 (by decide) (by decide)
  · have h7 := h7 cb
    refine J_iconst (pc := 9) C dX7_range_9 ?_
    refine J_goto (pc := 10) (tgt := 29) C dX7_range_10 (by decide) ?_
    refine J_c1 (pc := 29) C (J_rV (pc := 29) C (h7 (by decide)) dX7_range_29 rfl rfl 0 rfl rfl (cwV 1 C.1.2.2.2.2 gX7_range_X7_holds rfl rfl rfl (by decide +kernel) ⟨Nat.le_of_ble_eq_true rfl, Nat.le_of_ble_eq_true rfl⟩) hok3 (Nat.le_of_ble_eq_true rfl) ⟨Nat.le_of_ble_eq_true rfl, Nat.le_of_ble_eq_true rfl⟩) (fun E9 S9 ok9 q9 => JX_out C ok9 q9 (by decide) (by decide)) (fun rv38 S36 hr39 hok37 h35 => ?_)
    have h35 := h35 hr39 hok37
    obtain ⟨h40, h41⟩ := h35
    refine J_if_ne (pc := 32) (tgt := 37) C dX7_range_32 (by decide) hr39 (fun cb => ?_) (fun cb => ?_)
    · have h40 := h40 cb
      refine J_aload_n (pc := 37) C dX7_range_37 rfl ?_
      refine J_get (pc := 38) C dX7_range_38 0 rfl rfl nX7_range_X7 5 (by decide) mX7_range_f20 rfl (v := .ref (G.2.2 4)) rfl ?_
      refine J_iload_n (pc := 41) C dX7_range_41 rfl ?_
      obtain ⟨o42, h43⟩ := h40
      refine J_iald (pc := 42) C dX7_range_42 4 4 rfl (by decide) o42 ?_
      refine J_istore_n (pc := 43) C dX7_range_43 (by decide) ?_
      refine J_aload_n (pc := 44) C dX7_range_44 rfl ?_
      refine J_get (pc := 45) C dX7_range_45 0 rfl rfl nX7_range_X7 5 (by decide) mX7_range_f20 rfl (v := .ref (G.2.2 4)) rfl ?_
      refine J_iload_n (pc := 48) C dX7_range_48 rfl ?_
      refine J_iload_n (pc := 49) C dX7_range_49 rfl ?_
      refine J_iast (pc := 50) C dX7_range_50 4 4 rfl (by decide) o42 (sM_4 G S36 a0 a1) ?_
      have hok44 := okM_up (k := 4) (j := a0) hok37 (show rngM 4 a1 from ra1)
      refine J_iload_n (pc := 51) C dX7_range_51 rfl ?_
      exact J_iret (pc := 52) C dX7_range_52 (hok37 4 a0) hok44 h43 (by decide) (by decide)
    · have h41 := h41 cb
      refine J_iconst (pc := 35) C dX7_range_35 ?_
      exact J_iret (pc := 36) C dX7_range_36 (by decide) hok37 h41 (by decide) (by decide)
def rmX7_rank : Room := { frames := 4, cells := 0, slots := 0, locals := 104 }
theorem mX7_rank_f72 : Cond.fieldLink RX7 72 "StressworkModel" "thrown" "I" ∈ wsX7_rank := by decide +kernel
theorem nX7_rank_X7 : ∀ x ∈ wsX70, x ∈ wsX7_rank := by decide +kernel
def M_X7_rank (S : St) (Qr : Int → St → Prop) (Qx : String → St → Prop) : Prop := MM 1 wM okM yX7_rank wsX7_rank rmX7_rank (fun G => [.ref (G.2.2 0)]) S Qr Qx
set_option maxRecDepth 100000 in
set_option maxHeartbeats 4000000 in
theorem vc_X7_rank {S : St} {Qr : Int → St → Prop} {Qx : String → St → Prop} (h : okM S → M_X7_rankOf (-1) (up S 0 0 0) (fun rv5 S3 => r32 rv5 → okM S3 → Qr rv5 S3) Qx) : M_X7_rank S Qr Qx := by
  refine MM_of adM (by decide +kernel) rfl (Lf := fun G => [some (.ref (G.2.2 0))]) (fun G => by show _ ≤ _; exact Nat.le_of_ble_eq_true rfl) (fun G => rfl) ?_
  intro p l e s m args below meth c G A C hok
  have h := h hok
  replace C : Cx wM cX7_rank 1 RX7 wsX7_rank (some .int) [] p l s m args meth c G A := C
  show J wM 1 rmX7_rank p l e s m args below meth c G A (QQ 1 wM okM G Qr Qx A below args s rmX7_rank.cells rmX7_rank.slots) 0 0 S [some (.ref (G.2.2 0))] [] 0
  refine J_aload_n (pc := 0) C dX7_rank_0 rfl ?_
  refine J_iconst (pc := 1) C dX7_rank_1 ?_
  refine J_put (pc := 2) C dX7_rank_2 0 rfl rfl nX7_rank_X7 tyX7 tyX7_ok nmX7 0 (by decide) mX7_rank_f72 rfl rfl (v := iV 0) rfl rfl (Nat.le_of_ble_eq_true rfl) (sM_0_0 G S 0) ?_
  have hok1 := okM_up (k := 0) (j := 0) hok (show rngM 0 0 from (by decide : r32 0))
  refine J_aload_n (pc := 5) C dX7_rank_5 rfl ?_
  refine J_iconst (pc := 6) C dX7_rank_6 ?_
  refine J_c1 (pc := 7) C (J_rV (pc := 7) C (h (by decide)) dX7_rank_7 rfl rfl 0 rfl rfl (cwV 1 C.1.2.2.2.2 gX7_rank_X7_rankOf rfl rfl rfl (by decide +kernel) ⟨Nat.le_of_ble_eq_true rfl, Nat.le_of_ble_eq_true rfl⟩) hok1 (Nat.le_of_ble_eq_true rfl) ⟨Nat.le_of_ble_eq_true rfl, Nat.le_of_ble_eq_true rfl⟩) (fun E9 S9 ok9 q9 => JX_out C ok9 q9 (by decide) (by decide)) (fun rv5 S3 hr6 hok4 h2 => ?_)
  have h2 := h2 hr6 hok4
  exact J_iret (pc := 10) C dX7_rank_10 hr6 hok4 h2 (by decide) (by decide)
def rmX7_rankAt : Room := { frames := 3, cells := 0, slots := 0, locals := 82 }
theorem mX7_rankAt_c163 : Cond.constant RX7 163 (1000002) ∈ wsX7_rankAt := by decide +kernel
theorem mX7_rankAt_f76 : Cond.fieldLink RX7 76 "StressworkModel" "joints" "I" ∈ wsX7_rankAt := by decide +kernel
theorem nX7_rankAt_X7 : ∀ x ∈ wsX70, x ∈ wsX7_rankAt := by decide +kernel
theorem mX7_rankAt_f121 : Cond.fieldLink RX7 121 "StressworkModel" "columns" "I" ∈ wsX7_rankAt := by decide +kernel
theorem mX7_rankAt_c164 : Cond.constantLong RX7 164 (1103) ∈ wsX7_rankAt := by decide +kernel
theorem mX7_rankAt_c166 : Cond.constantLong RX7 166 (12345) ∈ wsX7_rankAt := by decide +kernel
theorem mX7_rankAt_c115 : Cond.constantLong RX7 115 (1000003) ∈ wsX7_rankAt := by decide +kernel
theorem mX7_rankAt_f50 : Cond.fieldLink RX7 50 "StressworkModel" "atX" "[J" ∈ wsX7_rankAt := by decide +kernel
theorem mX7_rankAt_f54 : Cond.fieldLink RX7 54 "StressworkModel" "atY" "[J" ∈ wsX7_rankAt := by decide +kernel
theorem mX7_rankAt_f57 : Cond.fieldLink RX7 57 "StressworkModel" "column" "[I" ∈ wsX7_rankAt := by decide +kernel
def M_X7_rankAt (a0 : Int) (S : St) (Qr : Int → St → Prop) (Qx : String → St → Prop) : Prop := r32 a0 → MM 1 wM okM yX7_rankAt wsX7_rankAt rmX7_rankAt (fun G => [.ref (G.2.2 0), iV a0]) S Qr Qx
def R_X7_rankAt_30 (x2 x4 : Int) (S : St) (Qr : Int → St → Prop) (Qx : String → St → Prop) : Prop := r64 x2 → r32 x4 → RR 1 wM okM wsX7_rankAt rmX7_rankAt cX7_rankAt 5 RX7 (some .int) [] 0 0 (fun G => [some (.ref (G.2.2 0)), none, some (lV x2), none, some (iV x4)]) (fun G => []) 30 S Qr Qx
set_option maxRecDepth 100000 in
set_option maxHeartbeats 4000000 in
theorem vc_X7_rankAt {a0 : Int} {S : St} {Qr : Int → St → Prop} {Qx : String → St → Prop} (h : r32 a0 → okM S → M_X7_isIn a0 0 1000002 S (fun rv4 S2 => r32 rv4 → okM S2 → ((rv4 = 0 → M_X7_holds 1 S2 (fun rv11 S9 => r32 rv11 → okM S9 → ((rv11 ≠ 0 → R_X7_rankAt_30 a0 0 S9 Qr Qx) ∧ (rv11 = 0 → Qr 0 S9))) Qx) ∧ (rv4 ≠ 0 → M_X7_holds 0 S2 (fun rv18 S16 => r32 rv18 → okM S16 → ((rv18 ≠ 0 → R_X7_rankAt_30 a0 0 S16 Qr Qx) ∧ (rv18 = 0 → Qr 0 S16))) Qx))) Qx) : M_X7_rankAt a0 S Qr Qx := by
  intro ra0
  refine MM_of adM (by decide +kernel) rfl (Lf := fun G => [some (.ref (G.2.2 0)), some (iV a0), none, none, none]) (fun G => by show _ ≤ _; exact Nat.le_of_ble_eq_true rfl) (fun G => rfl) ?_
  intro p l e s m args below meth c G A C hok
  have h := h ra0 hok
  replace C : Cx wM cX7_rankAt 5 RX7 wsX7_rankAt (some .int) [] p l s m args meth c G A := C
  show J wM 5 rmX7_rankAt p l e s m args below meth c G A (QQ 1 wM okM G Qr Qx A below args s rmX7_rankAt.cells rmX7_rankAt.slots) 0 0 S [some (.ref (G.2.2 0)), some (iV a0), none, none, none] [] 0
  refine J_aload_n (pc := 0) C dX7_rankAt_0 rfl ?_
  refine J_iload_n (pc := 1) C dX7_rankAt_1 rfl ?_
  refine J_iconst (pc := 2) C dX7_rankAt_2 ?_
  refine J_ldc (pc := 3) (z := 1000002) C mX7_rankAt_c163 (by decide) dX7_rankAt_3 ?_
  refine J_c1 (pc := 5) C (J_rS (pc := 5) C (h ra0 (by decide) (by decide)) dX7_rankAt_5 rfl rfl (va_cwS 3 C.1.2.2.2.2 gX7_rankAt_X7_isIn rfl rfl rfl (by decide +kernel) ⟨Nat.le_of_ble_eq_true rfl, Nat.le_of_ble_eq_true rfl⟩) hok (Nat.le_of_ble_eq_true rfl) ⟨Nat.le_of_ble_eq_true rfl, Nat.le_of_ble_eq_true rfl⟩) (fun E9 S9 ok9 q9 => JX_out C ok9 q9 (by decide) (by decide)) (fun rv4 S2 hr5 hok3 h1 => ?_)
  have h1 := h1 hr5 hok3
  obtain ⟨h6, h7⟩ := h1
  refine J_if_eq (pc := 8) (tgt := 15) C dX7_rankAt_8 (by decide) hr5 (fun cb => ?_) (fun cb => ?_)
  · have h6 := h6 cb
    refine J_iconst (pc := 15) C dX7_rankAt_15 ?_
    refine J_c1 (pc := 16) C (J_rV (pc := 16) C (h6 (by decide)) dX7_rankAt_16 rfl rfl 0 rfl rfl (cwV 1 C.1.2.2.2.2 gX7_rankAt_X7_holds rfl rfl rfl (by decide +kernel) ⟨Nat.le_of_ble_eq_true rfl, Nat.le_of_ble_eq_true rfl⟩) hok3 (Nat.le_of_ble_eq_true rfl) ⟨Nat.le_of_ble_eq_true rfl, Nat.le_of_ble_eq_true rfl⟩) (fun E9 S9 ok9 q9 => JX_out C ok9 q9 (by decide) (by decide)) (fun rv11 S9 hr12 hok10 h8 => ?_)
    have h8 := h8 hr12 hok10
    obtain ⟨h13, h14⟩ := h8
    refine J_if_ne (pc := 19) (tgt := 24) C dX7_rankAt_19 (by decide) hr12 (fun cb => ?_) (fun cb => ?_)
    · have h13 := h13 cb
      refine J_iload_n (pc := 24) C dX7_rankAt_24 rfl ?_
      refine J_i2l (pc := 25) C dX7_rankAt_25 ra0 ?_
      refine J_lstore_n (pc := 26) C dX7_rankAt_26 (by decide) ?_
      refine J_iconst (pc := 27) C dX7_rankAt_27 ?_
      refine J_istore (pc := 28) C dX7_rankAt_28 (by decide) ?_
      exact J_sub (L1 := [some (.ref (G.2.2 0)), none, some (lV a0), none, some (iV 0)]) ⟨rfl, ⟨rfl, ⟨rfl, trivial⟩⟩⟩ (h13 (r32_64 ra0) (by decide) p l e s m args below meth c G A C hok10)
    · have h14 := h14 cb
      refine J_iconst (pc := 22) C dX7_rankAt_22 ?_
      exact J_iret (pc := 23) C dX7_rankAt_23 (by decide) hok10 h14 (by decide) (by decide)
  · have h7 := h7 cb
    refine J_iconst (pc := 11) C dX7_rankAt_11 ?_
    refine J_goto (pc := 12) (tgt := 16) C dX7_rankAt_12 (by decide) ?_
    refine J_c1 (pc := 16) C (J_rV (pc := 16) C (h7 (by decide)) dX7_rankAt_16 rfl rfl 0 rfl rfl (cwV 1 C.1.2.2.2.2 gX7_rankAt_X7_holds rfl rfl rfl (by decide +kernel) ⟨Nat.le_of_ble_eq_true rfl, Nat.le_of_ble_eq_true rfl⟩) hok3 (Nat.le_of_ble_eq_true rfl) ⟨Nat.le_of_ble_eq_true rfl, Nat.le_of_ble_eq_true rfl⟩) (fun E9 S9 ok9 q9 => JX_out C ok9 q9 (by decide) (by decide)) (fun rv18 S16 hr19 hok17 h15 => ?_)
    have h15 := h15 hr19 hok17
    obtain ⟨h20, h21⟩ := h15
    refine J_if_ne (pc := 19) (tgt := 24) C dX7_rankAt_19 (by decide) hr19 (fun cb => ?_) (fun cb => ?_)
    · have h20 := h20 cb
      refine J_iload_n (pc := 24) C dX7_rankAt_24 rfl ?_
      refine J_i2l (pc := 25) C dX7_rankAt_25 ra0 ?_
      refine J_lstore_n (pc := 26) C dX7_rankAt_26 (by decide) ?_
      refine J_iconst (pc := 27) C dX7_rankAt_27 ?_
      refine J_istore (pc := 28) C dX7_rankAt_28 (by decide) ?_
      exact J_sub (L1 := [some (.ref (G.2.2 0)), none, some (lV a0), none, some (iV 0)]) ⟨rfl, ⟨rfl, ⟨rfl, trivial⟩⟩⟩ (h20 (r32_64 ra0) (by decide) p l e s m args below meth c G A C hok17)
    · have h21 := h21 cb
      refine J_iconst (pc := 22) C dX7_rankAt_22 ?_
      exact J_iret (pc := 23) C dX7_rankAt_23 (by decide) hok17 h21 (by decide) (by decide)
set_option maxRecDepth 100000 in
set_option maxHeartbeats 4000000 in
theorem vc_X7_rankAt_30 {x2 x4 : Int} {S : St} {Qr : Int → St → Prop} {Qx : String → St → Prop} (h : r64 x2 → r32 x4 → okM S → (((S 0 1) ≤ x4 → (r32 (2 * (S 0 1)) ∧ M_X7_laysMatrix (-1) 0 (up S 0 20 (2 * (S 0 1))) (fun rv9 S7 => r32 rv9 → okM S7 → M_X7_brings rv9 (S7 0 20) S7 (fun rv14 S12 => r32 rv14 → okM S12 → Qr rv14 S12) Qx) Qx)) ∧ (x4 < (S 0 1) → (r64 ((1103 * x2) + 12345) ∧ (r64 ((Int.tmod ((1103 * x2) + 12345) 1000003) * (Int.tmod ((1103 * x2) + 12345) 1000003)) ∧ (r64 ((Int.tmod ((Int.tmod ((1103 * x2) + 12345) 1000003) * (Int.tmod ((1103 * x2) + 12345) 1000003)) 1000003) * (Int.tmod ((1103 * x2) + 12345) 1000003)) ∧ (ix x4 10 ∧ (r64 (Int.tmod ((Int.tmod ((Int.tmod ((1103 * x2) + 12345) 1000003) * (Int.tmod ((1103 * x2) + 12345) 1000003)) 1000003) * (Int.tmod ((1103 * x2) + 12345) 1000003)) 1000003) ∧ (r64 ((1103 * (Int.tmod ((1103 * x2) + 12345) 1000003)) + 12345) ∧ (r64 ((Int.tmod ((1103 * (Int.tmod ((1103 * x2) + 12345) 1000003)) + 12345) 1000003) * (Int.tmod ((1103 * (Int.tmod ((1103 * x2) + 12345) 1000003)) + 12345) 1000003)) ∧ (r64 ((Int.tmod ((Int.tmod ((1103 * (Int.tmod ((1103 * x2) + 12345) 1000003)) + 12345) 1000003) * (Int.tmod ((1103 * (Int.tmod ((1103 * x2) + 12345) 1000003)) + 12345) 1000003)) 1000003) * (Int.tmod ((1103 * (Int.tmod ((1103 * x2) + 12345) 1000003)) + 12345) 1000003)) ∧ (r64 (Int.tmod ((Int.tmod ((Int.tmod ((1103 * (Int.tmod ((1103 * x2) + 12345) 1000003)) + 12345) 1000003) * (Int.tmod ((1103 * (Int.tmod ((1103 * x2) + 12345) 1000003)) + 12345) 1000003)) 1000003) * (Int.tmod ((1103 * (Int.tmod ((1103 * x2) + 12345) 1000003)) + 12345) 1000003)) 1000003) ∧ (r32 (2 * x4) ∧ (r64 (Int.tmod ((1103 * (Int.tmod ((1103 * x2) + 12345) 1000003)) + 12345) 1000003) ∧ (r32 (x4 + 1) ∧ R_X7_rankAt_30 (Int.tmod ((1103 * (Int.tmod ((1103 * x2) + 12345) 1000003)) + 12345) 1000003) (x4 + 1) (up (up (up S 14 x4 (Int.tmod ((Int.tmod ((Int.tmod ((1103 * x2) + 12345) 1000003) * (Int.tmod ((1103 * x2) + 12345) 1000003)) 1000003) * (Int.tmod ((1103 * x2) + 12345) 1000003)) 1000003)) 15 x4 (Int.tmod ((Int.tmod ((Int.tmod ((1103 * (Int.tmod ((1103 * x2) + 12345) 1000003)) + 12345) 1000003) * (Int.tmod ((1103 * (Int.tmod ((1103 * x2) + 12345) 1000003)) + 12345) 1000003)) 1000003) * (Int.tmod ((1103 * (Int.tmod ((1103 * x2) + 12345) 1000003)) + 12345) 1000003)) 1000003)) 16 x4 (2 * x4)) Qr Qx))))))))))))))) : R_X7_rankAt_30 x2 x4 S Qr Qx := by
  intro rx2 rx4
  intro p l e s m args below meth c G A C hok
  have h := h rx2 rx4 hok
  replace C : Cx wM cX7_rankAt 5 RX7 wsX7_rankAt (some .int) [] p l s m args meth c G A := C
  show J wM 5 rmX7_rankAt p l e s m args below meth c G A (QQ 1 wM okM G Qr Qx A below args s rmX7_rankAt.cells rmX7_rankAt.slots) 0 0 S [some (.ref (G.2.2 0)), none, some (lV x2), none, some (iV x4)] [] 30
  refine J_iload (pc := 30) C dX7_rankAt_30 rfl ?_
  refine J_aload_n (pc := 32) C dX7_rankAt_32 rfl ?_
  refine J_get (pc := 33) C dX7_rankAt_33 0 rfl rfl nX7_rankAt_X7 1 (by decide) mX7_rankAt_f76 rfl (v := iV (S 0 1)) rfl ?_
  obtain ⟨h1, h2⟩ := h
  refine J_icmp_ge (pc := 36) (tgt := 124) C dX7_rankAt_36 (by decide) rx4 (hok 0 1) (fun cb => ?_) (fun cb => ?_)
  · have h1 := h1 cb
    refine J_aload_n (pc := 124) C dX7_rankAt_124 rfl ?_
    refine J_iconst (pc := 125) C dX7_rankAt_125 ?_
    refine J_aload_n (pc := 126) C dX7_rankAt_126 rfl ?_
    refine J_get (pc := 127) C dX7_rankAt_127 0 rfl rfl nX7_rankAt_X7 1 (by decide) mX7_rankAt_f76 rfl (v := iV (S 0 1)) rfl ?_
    refine J_imul (pc := 130) C dX7_rankAt_130 ?_
    obtain ⟨o3, h4⟩ := h1
    refine J_put (pc := 131) C dX7_rankAt_131 0 rfl rfl nX7_rankAt_X7 tyX7 tyX7_ok nmX7 20 (by decide) mX7_rankAt_f121 rfl rfl (v := iV (2 * (S 0 1))) rfl rfl (Nat.le_of_ble_eq_true rfl) (sM_0_20 G S (2 * (S 0 1))) ?_
    have hok5 := okM_up (k := 0) (j := 20) hok (show rngM 0 (2 * (S 0 1)) from o3)
    refine J_aload_n (pc := 134) C dX7_rankAt_134 rfl ?_
    refine J_iconst (pc := 135) C dX7_rankAt_135 ?_
    refine J_iconst (pc := 136) C dX7_rankAt_136 ?_
    refine J_c1 (pc := 137) C (J_rV (pc := 137) C (h4 (by decide) (by decide)) dX7_rankAt_137 rfl rfl 0 rfl rfl (cwV 2 C.1.2.2.2.2 gX7_rankAt_X7_laysMatrix rfl rfl rfl (by decide +kernel) ⟨Nat.le_of_ble_eq_true rfl, Nat.le_of_ble_eq_true rfl⟩) hok5 (Nat.le_of_ble_eq_true rfl) ⟨Nat.le_of_ble_eq_true rfl, Nat.le_of_ble_eq_true rfl⟩) (fun E9 S9 ok9 q9 => JX_out C ok9 q9 (by decide) (by decide)) (fun rv9 S7 hr10 hok8 h6 => ?_)
    have h6 := h6 hr10 hok8
    refine J_istore (pc := 140) C dX7_rankAt_140 (by decide) ?_
    refine J_aload_n (pc := 142) C dX7_rankAt_142 rfl ?_
    refine J_iload (pc := 143) C dX7_rankAt_143 rfl ?_
    refine J_aload_n (pc := 145) C dX7_rankAt_145 rfl ?_
    refine J_get (pc := 146) C dX7_rankAt_146 0 rfl rfl nX7_rankAt_X7 20 (by decide) mX7_rankAt_f121 rfl (v := iV (S7 0 20)) rfl ?_
    refine J_c1 (pc := 149) C (J_rV (pc := 149) C (h6 hr10 (hok8 0 20)) dX7_rankAt_149 rfl rfl 0 rfl rfl (cwV 2 C.1.2.2.2.2 gX7_rankAt_X7_brings rfl rfl rfl (by decide +kernel) ⟨Nat.le_of_ble_eq_true rfl, Nat.le_of_ble_eq_true rfl⟩) hok8 (Nat.le_of_ble_eq_true rfl) ⟨Nat.le_of_ble_eq_true rfl, Nat.le_of_ble_eq_true rfl⟩) (fun E9 S9 ok9 q9 => JX_out C ok9 q9 (by decide) (by decide)) (fun rv14 S12 hr15 hok13 h11 => ?_)
    have h11 := h11 hr15 hok13
    exact J_iret (pc := 152) C dX7_rankAt_152 hr15 hok13 h11 (by decide) (by decide)
  · have h2 := h2 cb
    refine J_ldc2 (pc := 39) (z := 1103) C mX7_rankAt_c164 (by decide) dX7_rankAt_39 ?_
    refine J_lload_n (pc := 42) C dX7_rankAt_42 rfl ?_
    refine J_lmul (pc := 43) C dX7_rankAt_43 ?_
    refine J_ldc2 (pc := 44) (z := 12345) C mX7_rankAt_c166 (by decide) dX7_rankAt_44 ?_
    refine J_ladd (pc := 47) C dX7_rankAt_47 ?_
    refine J_ldc2 (pc := 48) (z := 1000003) C mX7_rankAt_c115 (by decide) dX7_rankAt_48 ?_
    obtain ⟨o16, h17⟩ := h2
    refine J_lrem (pc := 51) C dX7_rankAt_51 o16 (by decide) (by decide) ?_
    refine J_lstore_n (pc := 52) C dX7_rankAt_52 (by decide) ?_
    refine J_aload_n (pc := 53) C dX7_rankAt_53 rfl ?_
    refine J_get (pc := 54) C dX7_rankAt_54 0 rfl rfl nX7_rankAt_X7 17 (by decide) mX7_rankAt_f50 rfl (v := .ref (G.2.2 14)) rfl ?_
    refine J_iload (pc := 57) C dX7_rankAt_57 rfl ?_
    refine J_lload_n (pc := 59) C dX7_rankAt_59 rfl ?_
    refine J_lload_n (pc := 60) C dX7_rankAt_60 rfl ?_
    refine J_lmul (pc := 61) C dX7_rankAt_61 ?_
    refine J_ldc2 (pc := 62) (z := 1000003) C mX7_rankAt_c115 (by decide) dX7_rankAt_62 ?_
    obtain ⟨o18, h19⟩ := h17
    refine J_lrem (pc := 65) C dX7_rankAt_65 o18 (by decide) (by decide) ?_
    refine J_lload_n (pc := 66) C dX7_rankAt_66 rfl ?_
    refine J_lmul (pc := 67) C dX7_rankAt_67 ?_
    refine J_ldc2 (pc := 68) (z := 1000003) C mX7_rankAt_c115 (by decide) dX7_rankAt_68 ?_
    obtain ⟨o20, h21⟩ := h19
    refine J_lrem (pc := 71) C dX7_rankAt_71 o20 (by decide) (by decide) ?_
    obtain ⟨o22, h23⟩ := h21
    obtain ⟨o24, h25⟩ := h23
    refine J_last (pc := 72) C dX7_rankAt_72 14 14 rfl (by decide) o22 (sM_14 G S x4 (Int.tmod ((Int.tmod ((Int.tmod ((1103 * x2) + 12345) 1000003) * (Int.tmod ((1103 * x2) + 12345) 1000003)) 1000003) * (Int.tmod ((1103 * x2) + 12345) 1000003)) 1000003)) ?_
    have hok26 := okM_up (k := 14) (j := x4) hok (show rngM 14 (Int.tmod ((Int.tmod ((Int.tmod ((1103 * x2) + 12345) 1000003) * (Int.tmod ((1103 * x2) + 12345) 1000003)) 1000003) * (Int.tmod ((1103 * x2) + 12345) 1000003)) 1000003) from o24)
    refine J_ldc2 (pc := 73) (z := 1103) C mX7_rankAt_c164 (by decide) dX7_rankAt_73 ?_
    refine J_lload_n (pc := 76) C dX7_rankAt_76 rfl ?_
    refine J_lmul (pc := 77) C dX7_rankAt_77 ?_
    refine J_ldc2 (pc := 78) (z := 12345) C mX7_rankAt_c166 (by decide) dX7_rankAt_78 ?_
    refine J_ladd (pc := 81) C dX7_rankAt_81 ?_
    refine J_ldc2 (pc := 82) (z := 1000003) C mX7_rankAt_c115 (by decide) dX7_rankAt_82 ?_
    obtain ⟨o27, h28⟩ := h25
    refine J_lrem (pc := 85) C dX7_rankAt_85 o27 (by decide) (by decide) ?_
    refine J_lstore_n (pc := 86) C dX7_rankAt_86 (by decide) ?_
    refine J_aload_n (pc := 87) C dX7_rankAt_87 rfl ?_
    refine J_get (pc := 88) C dX7_rankAt_88 0 rfl rfl nX7_rankAt_X7 18 (by decide) mX7_rankAt_f54 rfl (v := .ref (G.2.2 15)) rfl ?_
    refine J_iload (pc := 91) C dX7_rankAt_91 rfl ?_
    refine J_lload_n (pc := 93) C dX7_rankAt_93 rfl ?_
    refine J_lload_n (pc := 94) C dX7_rankAt_94 rfl ?_
    refine J_lmul (pc := 95) C dX7_rankAt_95 ?_
    refine J_ldc2 (pc := 96) (z := 1000003) C mX7_rankAt_c115 (by decide) dX7_rankAt_96 ?_
    obtain ⟨o29, h30⟩ := h28
    refine J_lrem (pc := 99) C dX7_rankAt_99 o29 (by decide) (by decide) ?_
    refine J_lload_n (pc := 100) C dX7_rankAt_100 rfl ?_
    refine J_lmul (pc := 101) C dX7_rankAt_101 ?_
    refine J_ldc2 (pc := 102) (z := 1000003) C mX7_rankAt_c115 (by decide) dX7_rankAt_102 ?_
    obtain ⟨o31, h32⟩ := h30
    refine J_lrem (pc := 105) C dX7_rankAt_105 o31 (by decide) (by decide) ?_
    obtain ⟨o33, h34⟩ := h32
    refine J_last (pc := 106) C dX7_rankAt_106 15 15 rfl (by decide) o22 (sM_15 G (up S 14 x4 (Int.tmod ((Int.tmod ((Int.tmod ((1103 * x2) + 12345) 1000003) * (Int.tmod ((1103 * x2) + 12345) 1000003)) 1000003) * (Int.tmod ((1103 * x2) + 12345) 1000003)) 1000003)) x4 (Int.tmod ((Int.tmod ((Int.tmod ((1103 * (Int.tmod ((1103 * x2) + 12345) 1000003)) + 12345) 1000003) * (Int.tmod ((1103 * (Int.tmod ((1103 * x2) + 12345) 1000003)) + 12345) 1000003)) 1000003) * (Int.tmod ((1103 * (Int.tmod ((1103 * x2) + 12345) 1000003)) + 12345) 1000003)) 1000003)) ?_
    have hok35 := okM_up (k := 15) (j := x4) hok26 (show rngM 15 (Int.tmod ((Int.tmod ((Int.tmod ((1103 * (Int.tmod ((1103 * x2) + 12345) 1000003)) + 12345) 1000003) * (Int.tmod ((1103 * (Int.tmod ((1103 * x2) + 12345) 1000003)) + 12345) 1000003)) 1000003) * (Int.tmod ((1103 * (Int.tmod ((1103 * x2) + 12345) 1000003)) + 12345) 1000003)) 1000003) from o33)
    refine J_aload_n (pc := 107) C dX7_rankAt_107 rfl ?_
    refine J_get (pc := 108) C dX7_rankAt_108 0 rfl rfl nX7_rankAt_X7 19 (by decide) mX7_rankAt_f57 rfl (v := .ref (G.2.2 16)) rfl ?_
    refine J_iload (pc := 111) C dX7_rankAt_111 rfl ?_
    refine J_iconst (pc := 113) C dX7_rankAt_113 ?_
    refine J_iload (pc := 114) C dX7_rankAt_114 rfl ?_
    refine J_imul (pc := 116) C dX7_rankAt_116 ?_
    obtain ⟨o36, h37⟩ := h34
    refine J_iast (pc := 117) C dX7_rankAt_117 16 16 rfl (by decide) o22 (sM_16 G (up (up S 14 x4 (Int.tmod ((Int.tmod ((Int.tmod ((1103 * x2) + 12345) 1000003) * (Int.tmod ((1103 * x2) + 12345) 1000003)) 1000003) * (Int.tmod ((1103 * x2) + 12345) 1000003)) 1000003)) 15 x4 (Int.tmod ((Int.tmod ((Int.tmod ((1103 * (Int.tmod ((1103 * x2) + 12345) 1000003)) + 12345) 1000003) * (Int.tmod ((1103 * (Int.tmod ((1103 * x2) + 12345) 1000003)) + 12345) 1000003)) 1000003) * (Int.tmod ((1103 * (Int.tmod ((1103 * x2) + 12345) 1000003)) + 12345) 1000003)) 1000003)) x4 (2 * x4)) ?_
    have hok38 := okM_up (k := 16) (j := x4) hok35 (show rngM 16 (2 * x4) from o36)
    refine J_iinc (pc := 118) C dX7_rankAt_118 rfl (by decide) ?_
    refine J_goto (pc := 121) (tgt := 30) C dX7_rankAt_121 (by decide) ?_
    obtain ⟨o39, h40⟩ := h37
    obtain ⟨o41, h42⟩ := h40
    exact J_sub (L1 := [some (.ref (G.2.2 0)), none, some (lV (Int.tmod ((1103 * (Int.tmod ((1103 * x2) + 12345) 1000003)) + 12345) 1000003)), none, some (iV (x4 + 1))]) ⟨rfl, ⟨rfl, ⟨rfl, trivial⟩⟩⟩ (h42 o39 o41 p l e s m args below meth c G A C hok38)
def rmX7_reaches : Room := { frames := 1, cells := 0, slots := 0, locals := 22 }
theorem mX7_reaches_c208 : Cond.constant RX7 208 (1000000) ∈ wsX7_reaches := by decide +kernel
theorem mX7_reaches_c209 : Cond.constant RX7 209 (3000000) ∈ wsX7_reaches := by decide +kernel
def M_X7_reaches (a0 a1 a2 a3 : Int) (S : St) (Qr : Int → St → Prop) (Qx : String → St → Prop) : Prop := r32 a0 → r32 a1 → r32 a2 → r32 a3 → MM 1 wM okM yX7_reaches wsX7_reaches rmX7_reaches (fun G => [.ref (G.2.2 0), iV a0, iV a1, iV a2, iV a3]) S Qr Qx
def R_X7_reaches_46 (x1 x2 x3 x4 s0 : Int) (S : St) (Qr : Int → St → Prop) (Qx : String → St → Prop) : Prop := r32 x1 → r32 x2 → r32 x3 → r32 x4 → r32 s0 → RR 1 wM okM wsX7_reaches rmX7_reaches cX7_reaches 7 RX7 (some .boolean) [] 0 0 (fun G => [some (.ref (G.2.2 0)), some (iV x1), some (iV x2), some (iV x3), some (iV x4), none, none]) (fun G => [iV s0]) 46 S Qr Qx
def R_X7_reaches_77 (x1 x2 x3 x4 s0 : Int) (S : St) (Qr : Int → St → Prop) (Qx : String → St → Prop) : Prop := r32 x1 → r32 x2 → r32 x3 → r32 x4 → r32 s0 → RR 1 wM okM wsX7_reaches rmX7_reaches cX7_reaches 7 RX7 (some .boolean) [] 0 0 (fun G => [none, some (iV x1), some (iV x2), some (iV x3), some (iV x4), none, none]) (fun G => [iV s0]) 77 S Qr Qx
def R_X7_reaches_91 (x1 x2 x3 x4 s0 : Int) (S : St) (Qr : Int → St → Prop) (Qx : String → St → Prop) : Prop := r32 x1 → r32 x2 → r32 x3 → r32 x4 → r32 s0 → RR 1 wM okM wsX7_reaches rmX7_reaches cX7_reaches 7 RX7 (some .boolean) [] 0 0 (fun G => [none, some (iV x1), some (iV x2), some (iV x3), some (iV x4), none, none]) (fun G => [iV s0]) 91 S Qr Qx
set_option maxRecDepth 100000 in
set_option maxHeartbeats 4000000 in
theorem vc_X7_reaches {a0 a1 a2 a3 : Int} {S : St} {Qr : Int → St → Prop} {Qx : String → St → Prop} (h : r32 a0 → r32 a1 → r32 a2 → r32 a3 → okM S → M_X7_isIn a0 0 1000000 S (fun rv4 S2 => r32 rv4 → okM S2 → ((rv4 = 0 → R_X7_reaches_46 a0 a1 a2 a3 0 S2 Qr Qx) ∧ (rv4 ≠ 0 → M_X7_isIn a1 0 1000000 S2 (fun rv11 S9 => r32 rv11 → okM S9 → ((rv11 = 0 → R_X7_reaches_46 a0 a1 a2 a3 0 S9 Qr Qx) ∧ (rv11 ≠ 0 → M_X7_isIn a2 0 1000000 S9 (fun rv18 S16 => r32 rv18 → okM S16 → ((rv18 = 0 → R_X7_reaches_46 a0 a1 a2 a3 0 S16 Qr Qx) ∧ (rv18 ≠ 0 → M_X7_isIn a3 0 3000000 S16 (fun rv25 S23 => r32 rv25 → okM S23 → ((rv25 = 0 → R_X7_reaches_46 a0 a1 a2 a3 0 S23 Qr Qx) ∧ (rv25 ≠ 0 → R_X7_reaches_46 a0 a1 a2 a3 1 S23 Qr Qx))) Qx))) Qx))) Qx))) Qx) : M_X7_reaches a0 a1 a2 a3 S Qr Qx := by
  intro ra0 ra1 ra2 ra3
  refine MM_of adM (by decide +kernel) rfl (Lf := fun G => [some (.ref (G.2.2 0)), some (iV a0), some (iV a1), some (iV a2), some (iV a3), none, none]) (fun G => by show _ ≤ _; exact Nat.le_of_ble_eq_true rfl) (fun G => rfl) ?_
  intro p l e s m args below meth c G A C hok
  have h := h ra0 ra1 ra2 ra3 hok
  replace C : Cx wM cX7_reaches 7 RX7 wsX7_reaches (some .boolean) [] p l s m args meth c G A := C
  show J wM 7 rmX7_reaches p l e s m args below meth c G A (QQ 1 wM okM G Qr Qx A below args s rmX7_reaches.cells rmX7_reaches.slots) 0 0 S [some (.ref (G.2.2 0)), some (iV a0), some (iV a1), some (iV a2), some (iV a3), none, none] [] 0
  refine J_iload_n (pc := 0) C dX7_reaches_0 rfl ?_
  refine J_iconst (pc := 1) C dX7_reaches_1 ?_
  refine J_ldc (pc := 2) (z := 1000000) C mX7_reaches_c208 (by decide) dX7_reaches_2 ?_
  refine J_c1 (pc := 4) C (J_rS (pc := 4) C (h ra0 (by decide) (by decide)) dX7_reaches_4 rfl rfl (va_cwS 3 C.1.2.2.2.2 gX7_reaches_X7_isIn rfl rfl rfl (by decide +kernel) ⟨Nat.le_of_ble_eq_true rfl, Nat.le_of_ble_eq_true rfl⟩) hok (Nat.le_of_ble_eq_true rfl) ⟨Nat.le_of_ble_eq_true rfl, Nat.le_of_ble_eq_true rfl⟩) (fun E9 S9 ok9 q9 => JX_out C ok9 q9 (by decide) (by decide)) (fun rv4 S2 hr5 hok3 h1 => ?_)
  have h1 := h1 hr5 hok3
  obtain ⟨h6, h7⟩ := h1
  refine J_if_eq (pc := 7) (tgt := 45) C dX7_reaches_7 (by decide) hr5 (fun cb => ?_) (fun cb => ?_)
  · have h6 := h6 cb
    refine J_iconst (pc := 45) C dX7_reaches_45 ?_
    exact J_sub (L1 := [some (.ref (G.2.2 0)), some (iV a0), some (iV a1), some (iV a2), some (iV a3), none, none]) ⟨rfl, ⟨rfl, ⟨rfl, ⟨rfl, ⟨rfl, trivial⟩⟩⟩⟩⟩ (h6 ra0 ra1 ra2 ra3 (by decide) p l e s m args below meth c G A C hok3)
  · have h7 := h7 cb
    refine J_iload_n (pc := 10) C dX7_reaches_10 rfl ?_
    refine J_iconst (pc := 11) C dX7_reaches_11 ?_
    refine J_ldc (pc := 12) (z := 1000000) C mX7_reaches_c208 (by decide) dX7_reaches_12 ?_
    refine J_c1 (pc := 14) C (J_rS (pc := 14) C (h7 ra1 (by decide) (by decide)) dX7_reaches_14 rfl rfl (va_cwS 3 C.1.2.2.2.2 gX7_reaches_X7_isIn rfl rfl rfl (by decide +kernel) ⟨Nat.le_of_ble_eq_true rfl, Nat.le_of_ble_eq_true rfl⟩) hok3 (Nat.le_of_ble_eq_true rfl) ⟨Nat.le_of_ble_eq_true rfl, Nat.le_of_ble_eq_true rfl⟩) (fun E9 S9 ok9 q9 => JX_out C ok9 q9 (by decide) (by decide)) (fun rv11 S9 hr12 hok10 h8 => ?_)
    have h8 := h8 hr12 hok10
    obtain ⟨h13, h14⟩ := h8
    refine J_if_eq (pc := 17) (tgt := 45) C dX7_reaches_17 (by decide) hr12 (fun cb => ?_) (fun cb => ?_)
    · have h13 := h13 cb
      refine J_iconst (pc := 45) C dX7_reaches_45 ?_
      exact J_sub (L1 := [some (.ref (G.2.2 0)), some (iV a0), some (iV a1), some (iV a2), some (iV a3), none, none]) ⟨rfl, ⟨rfl, ⟨rfl, ⟨rfl, ⟨rfl, trivial⟩⟩⟩⟩⟩ (h13 ra0 ra1 ra2 ra3 (by decide) p l e s m args below meth c G A C hok10)
    · have h14 := h14 cb
      refine J_iload_n (pc := 20) C dX7_reaches_20 rfl ?_
      refine J_iconst (pc := 21) C dX7_reaches_21 ?_
      refine J_ldc (pc := 22) (z := 1000000) C mX7_reaches_c208 (by decide) dX7_reaches_22 ?_
      refine J_c1 (pc := 24) C (J_rS (pc := 24) C (h14 ra2 (by decide) (by decide)) dX7_reaches_24 rfl rfl (va_cwS 3 C.1.2.2.2.2 gX7_reaches_X7_isIn rfl rfl rfl (by decide +kernel) ⟨Nat.le_of_ble_eq_true rfl, Nat.le_of_ble_eq_true rfl⟩) hok10 (Nat.le_of_ble_eq_true rfl) ⟨Nat.le_of_ble_eq_true rfl, Nat.le_of_ble_eq_true rfl⟩) (fun E9 S9 ok9 q9 => JX_out C ok9 q9 (by decide) (by decide)) (fun rv18 S16 hr19 hok17 h15 => ?_)
      have h15 := h15 hr19 hok17
      obtain ⟨h20, h21⟩ := h15
      refine J_if_eq (pc := 27) (tgt := 45) C dX7_reaches_27 (by decide) hr19 (fun cb => ?_) (fun cb => ?_)
      · have h20 := h20 cb
        refine J_iconst (pc := 45) C dX7_reaches_45 ?_
        exact J_sub (L1 := [some (.ref (G.2.2 0)), some (iV a0), some (iV a1), some (iV a2), some (iV a3), none, none]) ⟨rfl, ⟨rfl, ⟨rfl, ⟨rfl, ⟨rfl, trivial⟩⟩⟩⟩⟩ (h20 ra0 ra1 ra2 ra3 (by decide) p l e s m args below meth c G A C hok17)
      · have h21 := h21 cb
        refine J_iload (pc := 30) C dX7_reaches_30 rfl ?_
        refine J_iconst (pc := 32) C dX7_reaches_32 ?_
        refine J_ldc (pc := 33) (z := 3000000) C mX7_reaches_c209 (by decide) dX7_reaches_33 ?_
        refine J_c1 (pc := 35) C (J_rS (pc := 35) C (h21 ra3 (by decide) (by decide)) dX7_reaches_35 rfl rfl (va_cwS 3 C.1.2.2.2.2 gX7_reaches_X7_isIn rfl rfl rfl (by decide +kernel) ⟨Nat.le_of_ble_eq_true rfl, Nat.le_of_ble_eq_true rfl⟩) hok17 (Nat.le_of_ble_eq_true rfl) ⟨Nat.le_of_ble_eq_true rfl, Nat.le_of_ble_eq_true rfl⟩) (fun E9 S9 ok9 q9 => JX_out C ok9 q9 (by decide) (by decide)) (fun rv25 S23 hr26 hok24 h22 => ?_)
        have h22 := h22 hr26 hok24
        obtain ⟨h27, h28⟩ := h22
        refine J_if_eq (pc := 38) (tgt := 45) C dX7_reaches_38 (by decide) hr26 (fun cb => ?_) (fun cb => ?_)
        · have h27 := h27 cb
          refine J_iconst (pc := 45) C dX7_reaches_45 ?_
          exact J_sub (L1 := [some (.ref (G.2.2 0)), some (iV a0), some (iV a1), some (iV a2), some (iV a3), none, none]) ⟨rfl, ⟨rfl, ⟨rfl, ⟨rfl, ⟨rfl, trivial⟩⟩⟩⟩⟩ (h27 ra0 ra1 ra2 ra3 (by decide) p l e s m args below meth c G A C hok24)
        · have h28 := h28 cb
          refine J_iconst (pc := 41) C dX7_reaches_41 ?_
          refine J_goto (pc := 42) (tgt := 46) C dX7_reaches_42 (by decide) ?_
          exact J_sub (L1 := [some (.ref (G.2.2 0)), some (iV a0), some (iV a1), some (iV a2), some (iV a3), none, none]) ⟨rfl, ⟨rfl, ⟨rfl, ⟨rfl, ⟨rfl, trivial⟩⟩⟩⟩⟩ (h28 ra0 ra1 ra2 ra3 (by decide) p l e s m args below meth c G A C hok24)
set_option maxRecDepth 100000 in
set_option maxHeartbeats 4000000 in
theorem vc_X7_reaches_46 {x1 x2 x3 x4 s0 : Int} {S : St} {Qr : Int → St → Prop} {Qx : String → St → Prop} (h : r32 x1 → r32 x2 → r32 x3 → r32 x4 → r32 s0 → okM S → ((s0 = 0 → M_X7_holds 1 S (fun rv6 S4 => r32 rv6 → okM S4 → ((rv6 ≠ 0 → ((x1 ≤ x2 → R_X7_reaches_77 x1 x2 x3 x4 x2 S4 Qr Qx) ∧ (x2 < x1 → R_X7_reaches_77 x1 x2 x3 x4 x1 S4 Qr Qx))) ∧ (rv6 = 0 → Qr 0 S4))) Qx) ∧ (s0 ≠ 0 → M_X7_holds 0 S (fun rv15 S13 => r32 rv15 → okM S13 → ((rv15 ≠ 0 → ((x1 ≤ x2 → R_X7_reaches_77 x1 x2 x3 x4 x2 S13 Qr Qx) ∧ (x2 < x1 → R_X7_reaches_77 x1 x2 x3 x4 x1 S13 Qr Qx))) ∧ (rv15 = 0 → Qr 0 S13))) Qx))) : R_X7_reaches_46 x1 x2 x3 x4 s0 S Qr Qx := by
  intro rx1 rx2 rx3 rx4 rs0
  intro p l e s m args below meth c G A C hok
  have h := h rx1 rx2 rx3 rx4 rs0 hok
  replace C : Cx wM cX7_reaches 7 RX7 wsX7_reaches (some .boolean) [] p l s m args meth c G A := C
  show J wM 7 rmX7_reaches p l e s m args below meth c G A (QQ 1 wM okM G Qr Qx A below args s rmX7_reaches.cells rmX7_reaches.slots) 0 0 S [some (.ref (G.2.2 0)), some (iV x1), some (iV x2), some (iV x3), some (iV x4), none, none] [iV s0] 46
  refine J_istore (pc := 46) C dX7_reaches_46 (by decide) ?_
  refine J_aload_n (pc := 48) C dX7_reaches_48 rfl ?_
  refine J_iload (pc := 49) C dX7_reaches_49 rfl ?_
  obtain ⟨h1, h2⟩ := h
  refine J_if_eq (pc := 51) (tgt := 58) C dX7_reaches_51 (by decide) rs0 (fun cb => ?_) (fun cb => ?_)
  · have h1 := h1 cb
    refine J_iconst (pc := 58) C dX7_reaches_58 ?_
    refine J_c1 (pc := 59) C (J_rV (pc := 59) C (h1 (by decide)) dX7_reaches_59 rfl rfl 0 rfl rfl (cwV 1 C.1.2.2.2.2 gX7_reaches_X7_holds rfl rfl rfl (by decide +kernel) ⟨Nat.le_of_ble_eq_true rfl, Nat.le_of_ble_eq_true rfl⟩) hok (Nat.le_of_ble_eq_true rfl) ⟨Nat.le_of_ble_eq_true rfl, Nat.le_of_ble_eq_true rfl⟩) (fun E9 S9 ok9 q9 => JX_out C ok9 q9 (by decide) (by decide)) (fun rv6 S4 hr7 hok5 h3 => ?_)
    have h3 := h3 hr7 hok5
    obtain ⟨h8, h9⟩ := h3
    refine J_if_ne (pc := 62) (tgt := 67) C dX7_reaches_62 (by decide) hr7 (fun cb => ?_) (fun cb => ?_)
    · have h8 := h8 cb
      refine J_iload_n (pc := 67) C dX7_reaches_67 rfl ?_
      refine J_iload_n (pc := 68) C dX7_reaches_68 rfl ?_
      obtain ⟨h10, h11⟩ := h8
      refine J_icmp_le (pc := 69) (tgt := 76) C dX7_reaches_69 (by decide) rx1 rx2 (fun cb => ?_) (fun cb => ?_)
      · have h10 := h10 cb
        refine J_iload_n (pc := 76) C dX7_reaches_76 rfl ?_
        exact J_sub (L1 := [none, some (iV x1), some (iV x2), some (iV x3), some (iV x4), none, none]) ⟨rfl, ⟨rfl, ⟨rfl, ⟨rfl, trivial⟩⟩⟩⟩ (h10 rx1 rx2 rx3 rx4 rx2 p l e s m args below meth c G A C hok5)
      · have h11 := h11 cb
        refine J_iload_n (pc := 72) C dX7_reaches_72 rfl ?_
        refine J_goto (pc := 73) (tgt := 77) C dX7_reaches_73 (by decide) ?_
        exact J_sub (L1 := [none, some (iV x1), some (iV x2), some (iV x3), some (iV x4), none, none]) ⟨rfl, ⟨rfl, ⟨rfl, ⟨rfl, trivial⟩⟩⟩⟩ (h11 rx1 rx2 rx3 rx4 rx1 p l e s m args below meth c G A C hok5)
    · have h9 := h9 cb
      refine J_iconst (pc := 65) C dX7_reaches_65 ?_
      exact J_zret (pc := 66) C dX7_reaches_66 (by decide) hok5 h9 (by decide) (by decide)
  · have h2 := h2 cb
    refine J_iconst (pc := 54) C dX7_reaches_54 ?_
    refine J_goto (pc := 55) (tgt := 59) C dX7_reaches_55 (by decide) ?_
    refine J_c1 (pc := 59) C (J_rV (pc := 59) C (h2 (by decide)) dX7_reaches_59 rfl rfl 0 rfl rfl (cwV 1 C.1.2.2.2.2 gX7_reaches_X7_holds rfl rfl rfl (by decide +kernel) ⟨Nat.le_of_ble_eq_true rfl, Nat.le_of_ble_eq_true rfl⟩) hok (Nat.le_of_ble_eq_true rfl) ⟨Nat.le_of_ble_eq_true rfl, Nat.le_of_ble_eq_true rfl⟩) (fun E9 S9 ok9 q9 => JX_out C ok9 q9 (by decide) (by decide)) (fun rv15 S13 hr16 hok14 h12 => ?_)
    have h12 := h12 hr16 hok14
    obtain ⟨h17, h18⟩ := h12
    refine J_if_ne (pc := 62) (tgt := 67) C dX7_reaches_62 (by decide) hr16 (fun cb => ?_) (fun cb => ?_)
    · have h17 := h17 cb
      refine J_iload_n (pc := 67) C dX7_reaches_67 rfl ?_
      refine J_iload_n (pc := 68) C dX7_reaches_68 rfl ?_
      obtain ⟨h19, h20⟩ := h17
      refine J_icmp_le (pc := 69) (tgt := 76) C dX7_reaches_69 (by decide) rx1 rx2 (fun cb => ?_) (fun cb => ?_)
      · have h19 := h19 cb
        refine J_iload_n (pc := 76) C dX7_reaches_76 rfl ?_
        exact J_sub (L1 := [none, some (iV x1), some (iV x2), some (iV x3), some (iV x4), none, none]) ⟨rfl, ⟨rfl, ⟨rfl, ⟨rfl, trivial⟩⟩⟩⟩ (h19 rx1 rx2 rx3 rx4 rx2 p l e s m args below meth c G A C hok14)
      · have h20 := h20 cb
        refine J_iload_n (pc := 72) C dX7_reaches_72 rfl ?_
        refine J_goto (pc := 73) (tgt := 77) C dX7_reaches_73 (by decide) ?_
        exact J_sub (L1 := [none, some (iV x1), some (iV x2), some (iV x3), some (iV x4), none, none]) ⟨rfl, ⟨rfl, ⟨rfl, ⟨rfl, trivial⟩⟩⟩⟩ (h20 rx1 rx2 rx3 rx4 rx1 p l e s m args below meth c G A C hok14)
    · have h18 := h18 cb
      refine J_iconst (pc := 65) C dX7_reaches_65 ?_
      exact J_zret (pc := 66) C dX7_reaches_66 (by decide) hok14 h18 (by decide) (by decide)
set_option maxRecDepth 100000 in
set_option maxHeartbeats 4000000 in
theorem vc_X7_reaches_77 {x1 x2 x3 x4 s0 : Int} {S : St} {Qr : Int → St → Prop} {Qx : String → St → Prop} (h : r32 x1 → r32 x2 → r32 x3 → r32 x4 → r32 s0 → okM S → ((x3 ≤ s0 → R_X7_reaches_91 x1 x2 x3 x4 s0 S Qr Qx) ∧ (s0 < x3 → R_X7_reaches_91 x1 x2 x3 x4 x3 S Qr Qx))) : R_X7_reaches_77 x1 x2 x3 x4 s0 S Qr Qx := by
  intro rx1 rx2 rx3 rx4 rs0
  intro p l e s m args below meth c G A C hok
  have h := h rx1 rx2 rx3 rx4 rs0 hok
  replace C : Cx wM cX7_reaches 7 RX7 wsX7_reaches (some .boolean) [] p l s m args meth c G A := C
  show J wM 7 rmX7_reaches p l e s m args below meth c G A (QQ 1 wM okM G Qr Qx A below args s rmX7_reaches.cells rmX7_reaches.slots) 0 0 S [none, some (iV x1), some (iV x2), some (iV x3), some (iV x4), none, none] [iV s0] 77
  refine J_istore (pc := 77) C dX7_reaches_77 (by decide) ?_
  refine J_iload_n (pc := 79) C dX7_reaches_79 rfl ?_
  refine J_iload (pc := 80) C dX7_reaches_80 rfl ?_
  obtain ⟨h1, h2⟩ := h
  refine J_icmp_le (pc := 82) (tgt := 89) C dX7_reaches_82 (by decide) rx3 rs0 (fun cb => ?_) (fun cb => ?_)
  · have h1 := h1 cb
    refine J_iload (pc := 89) C dX7_reaches_89 rfl ?_
    exact J_sub (L1 := [none, some (iV x1), some (iV x2), some (iV x3), some (iV x4), none, none]) ⟨rfl, ⟨rfl, ⟨rfl, ⟨rfl, trivial⟩⟩⟩⟩ (h1 rx1 rx2 rx3 rx4 rs0 p l e s m args below meth c G A C hok)
  · have h2 := h2 cb
    refine J_iload_n (pc := 85) C dX7_reaches_85 rfl ?_
    refine J_goto (pc := 86) (tgt := 91) C dX7_reaches_86 (by decide) ?_
    exact J_sub (L1 := [none, some (iV x1), some (iV x2), some (iV x3), some (iV x4), none, none]) ⟨rfl, ⟨rfl, ⟨rfl, ⟨rfl, trivial⟩⟩⟩⟩ (h2 rx1 rx2 rx3 rx4 rx3 p l e s m args below meth c G A C hok)
set_option maxRecDepth 100000 in
set_option maxHeartbeats 4000000 in
theorem vc_X7_reaches_91 {x1 x2 x3 x4 s0 : Int} {S : St} {Qr : Int → St → Prop} {Qx : String → St → Prop} (h : r32 x1 → r32 x2 → r32 x3 → r32 x4 → r32 s0 → okM S → (r32 ((x1 + x2) + x3) ∧ ((((x1 + x2) + x3) < x4 → Qr 0 S) ∧ (x4 ≤ ((x1 + x2) + x3) → (r32 ((((2 * s0) - x1) - x2) - x3) ∧ ((x4 < ((((2 * s0) - x1) - x2) - x3) → Qr 0 S) ∧ (((((2 * s0) - x1) - x2) - x3) ≤ x4 → Qr 1 S))))))) : R_X7_reaches_91 x1 x2 x3 x4 s0 S Qr Qx := by
  intro rx1 rx2 rx3 rx4 rs0
  intro p l e s m args below meth c G A C hok
  have h := h rx1 rx2 rx3 rx4 rs0 hok
  replace C : Cx wM cX7_reaches 7 RX7 wsX7_reaches (some .boolean) [] p l s m args meth c G A := C
  show J wM 7 rmX7_reaches p l e s m args below meth c G A (QQ 1 wM okM G Qr Qx A below args s rmX7_reaches.cells rmX7_reaches.slots) 0 0 S [none, some (iV x1), some (iV x2), some (iV x3), some (iV x4), none, none] [iV s0] 91
  refine J_istore (pc := 91) C dX7_reaches_91 (by decide) ?_
  refine J_iload (pc := 93) C dX7_reaches_93 rfl ?_
  refine J_iload_n (pc := 95) C dX7_reaches_95 rfl ?_
  refine J_iload_n (pc := 96) C dX7_reaches_96 rfl ?_
  refine J_iadd (pc := 97) C dX7_reaches_97 ?_
  refine J_iload_n (pc := 98) C dX7_reaches_98 rfl ?_
  refine J_iadd (pc := 99) C dX7_reaches_99 ?_
  obtain ⟨o1, h2⟩ := h
  obtain ⟨h3, h4⟩ := h2
  refine J_icmp_gt (pc := 100) (tgt := 122) C dX7_reaches_100 (by decide) rx4 o1 (fun cb => ?_) (fun cb => ?_)
  · have h3 := h3 cb
    refine J_iconst (pc := 122) C dX7_reaches_122 ?_
    exact J_zret (pc := 123) C dX7_reaches_123 (by decide) hok h3 (by decide) (by decide)
  · have h4 := h4 cb
    refine J_iload (pc := 103) C dX7_reaches_103 rfl ?_
    refine J_iconst (pc := 105) C dX7_reaches_105 ?_
    refine J_iload (pc := 106) C dX7_reaches_106 rfl ?_
    refine J_imul (pc := 108) C dX7_reaches_108 ?_
    refine J_iload_n (pc := 109) C dX7_reaches_109 rfl ?_
    refine J_isub (pc := 110) C dX7_reaches_110 ?_
    refine J_iload_n (pc := 111) C dX7_reaches_111 rfl ?_
    refine J_isub (pc := 112) C dX7_reaches_112 ?_
    refine J_iload_n (pc := 113) C dX7_reaches_113 rfl ?_
    refine J_isub (pc := 114) C dX7_reaches_114 ?_
    obtain ⟨o5, h6⟩ := h4
    obtain ⟨h7, h8⟩ := h6
    refine J_icmp_lt (pc := 115) (tgt := 122) C dX7_reaches_115 (by decide) rx4 o5 (fun cb => ?_) (fun cb => ?_)
    · have h7 := h7 cb
      refine J_iconst (pc := 122) C dX7_reaches_122 ?_
      exact J_zret (pc := 123) C dX7_reaches_123 (by decide) hok h7 (by decide) (by decide)
    · have h8 := h8 cb
      refine J_iconst (pc := 118) C dX7_reaches_118 ?_
      refine J_goto (pc := 119) (tgt := 123) C dX7_reaches_119 (by decide) ?_
      exact J_zret (pc := 123) C dX7_reaches_123 (by decide) hok h8 (by decide) (by decide)
def rmX7_remove : Room := { frames := 2, cells := 0, slots := 0, locals := 43 }
theorem mX7_remove_f35 : Cond.fieldLink RX7 35 "StressworkModel" "isGone" "[Z" ∈ wsX7_remove := by decide +kernel
theorem nX7_remove_X7 : ∀ x ∈ wsX70, x ∈ wsX7_remove := by decide +kernel
def M_X7_remove (a0 : Int) (S : St) (Qr : Int → St → Prop) (Qx : String → St → Prop) : Prop := r32 a0 → MM 1 wM okM yX7_remove wsX7_remove rmX7_remove (fun G => [.ref (G.2.2 0), iV a0]) S Qr Qx
set_option maxRecDepth 100000 in
set_option maxHeartbeats 4000000 in
theorem vc_X7_remove {a0 : Int} {S : St} {Qr : Int → St → Prop} {Qx : String → St → Prop} (h : r32 a0 → okM S → M_X7_isMember a0 S (fun rv4 S2 => r32 rv4 → okM S2 → ((rv4 = 0 → M_X7_holds 1 S2 (fun rv11 S9 => r32 rv11 → okM S9 → ((rv11 ≠ 0 → (ix a0 40 ∧ M_X7_many (up S9 9 a0 1) (fun rv21 S19 => r32 rv21 → okM S19 → Qr rv21 S19) Qx)) ∧ (rv11 = 0 → Qr 0 S9))) Qx) ∧ (rv4 ≠ 0 → M_X7_holds 0 S2 (fun rv26 S24 => r32 rv26 → okM S24 → ((rv26 ≠ 0 → (ix a0 40 ∧ M_X7_many (up S24 9 a0 1) (fun rv36 S34 => r32 rv36 → okM S34 → Qr rv36 S34) Qx)) ∧ (rv26 = 0 → Qr 0 S24))) Qx))) Qx) : M_X7_remove a0 S Qr Qx := by
  intro ra0
  refine MM_of adM (by decide +kernel) rfl (Lf := fun G => [some (.ref (G.2.2 0)), some (iV a0)]) (fun G => by show _ ≤ _; exact Nat.le_of_ble_eq_true rfl) (fun G => rfl) ?_
  intro p l e s m args below meth c G A C hok
  have h := h ra0 hok
  replace C : Cx wM cX7_remove 2 RX7 wsX7_remove (some .int) [] p l s m args meth c G A := C
  show J wM 2 rmX7_remove p l e s m args below meth c G A (QQ 1 wM okM G Qr Qx A below args s rmX7_remove.cells rmX7_remove.slots) 0 0 S [some (.ref (G.2.2 0)), some (iV a0)] [] 0
  refine J_aload_n (pc := 0) C dX7_remove_0 rfl ?_
  refine J_aload_n (pc := 1) C dX7_remove_1 rfl ?_
  refine J_iload_n (pc := 2) C dX7_remove_2 rfl ?_
  refine J_c1 (pc := 3) C (J_rV (pc := 3) C (h ra0) dX7_remove_3 rfl rfl 0 rfl rfl (cwV 1 C.1.2.2.2.2 gX7_remove_X7_isMember rfl rfl rfl (by decide +kernel) ⟨Nat.le_of_ble_eq_true rfl, Nat.le_of_ble_eq_true rfl⟩) hok (Nat.le_of_ble_eq_true rfl) ⟨Nat.le_of_ble_eq_true rfl, Nat.le_of_ble_eq_true rfl⟩) (fun E9 S9 ok9 q9 => JX_out C ok9 q9 (by decide) (by decide)) (fun rv4 S2 hr5 hok3 h1 => ?_)
  have h1 := h1 hr5 hok3
  obtain ⟨h6, h7⟩ := h1
  refine J_if_eq (pc := 6) (tgt := 13) C dX7_remove_6 (by decide) hr5 (fun cb => ?_) (fun cb => ?_)
  · have h6 := h6 cb
    refine J_iconst (pc := 13) C dX7_remove_13 ?_
    refine J_c1 (pc := 14) C (J_rV (pc := 14) C (h6 (by decide)) dX7_remove_14 rfl rfl 0 rfl rfl (cwV 1 C.1.2.2.2.2 gX7_remove_X7_holds rfl rfl rfl (by decide +kernel) ⟨Nat.le_of_ble_eq_true rfl, Nat.le_of_ble_eq_true rfl⟩) hok3 (Nat.le_of_ble_eq_true rfl) ⟨Nat.le_of_ble_eq_true rfl, Nat.le_of_ble_eq_true rfl⟩) (fun E9 S9 ok9 q9 => JX_out C ok9 q9 (by decide) (by decide)) (fun rv11 S9 hr12 hok10 h8 => ?_)
    have h8 := h8 hr12 hok10
    obtain ⟨h13, h14⟩ := h8
    refine J_if_ne (pc := 17) (tgt := 22) C dX7_remove_17 (by decide) hr12 (fun cb => ?_) (fun cb => ?_)
    · have h13 := h13 cb
      refine J_aload_n (pc := 22) C dX7_remove_22 rfl ?_
      refine J_get (pc := 23) C dX7_remove_23 0 rfl rfl nX7_remove_X7 11 (by decide) mX7_remove_f35 rfl (v := .ref (G.2.2 9)) rfl ?_
      refine J_iload_n (pc := 26) C dX7_remove_26 rfl ?_
      refine J_iconst (pc := 27) C dX7_remove_27 ?_
      obtain ⟨o15, h16⟩ := h13
      refine J_zast (pc := 28) C dX7_remove_28 9 9 rfl (by decide) o15 (by decide) (sM_9 G S9 a0 1) ?_
      have hok17 := okM_up (k := 9) (j := a0) hok10 (show rngM 9 1 from (by decide : (0:Int) ≤ 1 ∧ (1:Int) ≤ 1))
      refine J_aload_n (pc := 29) C dX7_remove_29 rfl ?_
      refine J_c1 (pc := 30) C (J_rV (pc := 30) C h16 dX7_remove_30 rfl rfl 0 rfl rfl (cwV 0 C.1.2.2.2.2 gX7_remove_X7_many rfl rfl rfl (by decide +kernel) ⟨Nat.le_of_ble_eq_true rfl, Nat.le_of_ble_eq_true rfl⟩) hok17 (Nat.le_of_ble_eq_true rfl) ⟨Nat.le_of_ble_eq_true rfl, Nat.le_of_ble_eq_true rfl⟩) (fun E9 S9 ok9 q9 => JX_out C ok9 q9 (by decide) (by decide)) (fun rv21 S19 hr22 hok20 h18 => ?_)
      have h18 := h18 hr22 hok20
      exact J_iret (pc := 33) C dX7_remove_33 hr22 hok20 h18 (by decide) (by decide)
    · have h14 := h14 cb
      refine J_iconst (pc := 20) C dX7_remove_20 ?_
      exact J_iret (pc := 21) C dX7_remove_21 (by decide) hok10 h14 (by decide) (by decide)
  · have h7 := h7 cb
    refine J_iconst (pc := 9) C dX7_remove_9 ?_
    refine J_goto (pc := 10) (tgt := 14) C dX7_remove_10 (by decide) ?_
    refine J_c1 (pc := 14) C (J_rV (pc := 14) C (h7 (by decide)) dX7_remove_14 rfl rfl 0 rfl rfl (cwV 1 C.1.2.2.2.2 gX7_remove_X7_holds rfl rfl rfl (by decide +kernel) ⟨Nat.le_of_ble_eq_true rfl, Nat.le_of_ble_eq_true rfl⟩) hok3 (Nat.le_of_ble_eq_true rfl) ⟨Nat.le_of_ble_eq_true rfl, Nat.le_of_ble_eq_true rfl⟩) (fun E9 S9 ok9 q9 => JX_out C ok9 q9 (by decide) (by decide)) (fun rv26 S24 hr27 hok25 h23 => ?_)
    have h23 := h23 hr27 hok25
    obtain ⟨h28, h29⟩ := h23
    refine J_if_ne (pc := 17) (tgt := 22) C dX7_remove_17 (by decide) hr27 (fun cb => ?_) (fun cb => ?_)
    · have h28 := h28 cb
      refine J_aload_n (pc := 22) C dX7_remove_22 rfl ?_
      refine J_get (pc := 23) C dX7_remove_23 0 rfl rfl nX7_remove_X7 11 (by decide) mX7_remove_f35 rfl (v := .ref (G.2.2 9)) rfl ?_
      refine J_iload_n (pc := 26) C dX7_remove_26 rfl ?_
      refine J_iconst (pc := 27) C dX7_remove_27 ?_
      obtain ⟨o30, h31⟩ := h28
      refine J_zast (pc := 28) C dX7_remove_28 9 9 rfl (by decide) o30 (by decide) (sM_9 G S24 a0 1) ?_
      have hok32 := okM_up (k := 9) (j := a0) hok25 (show rngM 9 1 from (by decide : (0:Int) ≤ 1 ∧ (1:Int) ≤ 1))
      refine J_aload_n (pc := 29) C dX7_remove_29 rfl ?_
      refine J_c1 (pc := 30) C (J_rV (pc := 30) C h31 dX7_remove_30 rfl rfl 0 rfl rfl (cwV 0 C.1.2.2.2.2 gX7_remove_X7_many rfl rfl rfl (by decide +kernel) ⟨Nat.le_of_ble_eq_true rfl, Nat.le_of_ble_eq_true rfl⟩) hok32 (Nat.le_of_ble_eq_true rfl) ⟨Nat.le_of_ble_eq_true rfl, Nat.le_of_ble_eq_true rfl⟩) (fun E9 S9 ok9 q9 => JX_out C ok9 q9 (by decide) (by decide)) (fun rv36 S34 hr37 hok35 h33 => ?_)
      have h33 := h33 hr37 hok35
      exact J_iret (pc := 33) C dX7_remove_33 hr37 hok35 h33 (by decide) (by decide)
    · have h29 := h29 cb
      refine J_iconst (pc := 20) C dX7_remove_20 ?_
      exact J_iret (pc := 21) C dX7_remove_21 (by decide) hok25 h29 (by decide) (by decide)
def rmX7_split : Room := { frames := 2, cells := 0, slots := 0, locals := 46 }
theorem mX7_split_f23 : Cond.fieldLink RX7 23 "StressworkModel" "one" "[I" ∈ wsX7_split := by decide +kernel
theorem nX7_split_X7 : ∀ x ∈ wsX70, x ∈ wsX7_split := by decide +kernel
theorem mX7_split_f26 : Cond.fieldLink RX7 26 "StressworkModel" "other" "[I" ∈ wsX7_split := by decide +kernel
theorem mX7_split_f76 : Cond.fieldLink RX7 76 "StressworkModel" "joints" "I" ∈ wsX7_split := by decide +kernel
theorem mX7_split_f83 : Cond.fieldLink RX7 83 "StressworkModel" "members" "I" ∈ wsX7_split := by decide +kernel
theorem mX7_split_f35 : Cond.fieldLink RX7 35 "StressworkModel" "isGone" "[Z" ∈ wsX7_split := by decide +kernel
def M_X7_split (a0 a1 a2 a3 : Int) (S : St) (Qr : Int → St → Prop) (Qx : String → St → Prop) : Prop := r32 a0 → r32 a1 → r32 a2 → r32 a3 → MM 1 wM okM yX7_split wsX7_split rmX7_split (fun G => [.ref (G.2.2 0), iV a0, iV a1, iV a2, iV a3]) S Qr Qx
def R_X7_split_21 (x1 x2 x3 x4 s0 : Int) (S : St) (Qr : Int → St → Prop) (Qx : String → St → Prop) : Prop := r32 x1 → r32 x2 → r32 x3 → r32 x4 → r32 s0 → RR 1 wM okM wsX7_split rmX7_split cX7_split 8 RX7 (some .int) [] 0 0 (fun G => [some (.ref (G.2.2 0)), some (iV x1), some (iV x2), some (iV x3), some (iV x4), none, none, none]) (fun G => [iV s0]) 21 S Qr Qx
def R_X7_split_62 (x1 x2 x3 x4 x5 s0 : Int) (S : St) (Qr : Int → St → Prop) (Qx : String → St → Prop) : Prop := r32 x1 → r32 x2 → r32 x3 → r32 x4 → r32 x5 → r32 s0 → RR 1 wM okM wsX7_split rmX7_split cX7_split 8 RX7 (some .int) [] 0 0 (fun G => [some (.ref (G.2.2 0)), some (iV x1), some (iV x2), some (iV x3), some (iV x4), some (iV x5), none, none]) (fun G => [iV s0]) 62 S Qr Qx
def R_X7_split_106 (x1 x2 x3 x4 s0 : Int) (S : St) (Qr : Int → St → Prop) (Qx : String → St → Prop) : Prop := r32 x1 → r32 x2 → r32 x3 → r32 x4 → r32 s0 → RR 1 wM okM wsX7_split rmX7_split cX7_split 8 RX7 (some .int) [] 0 0 (fun G => [some (.ref (G.2.2 0)), some (iV x1), some (iV x2), some (iV x3), some (iV x4), none, none, none]) (fun G => [iV s0, .ref (G.2.2 0)]) 106 S Qr Qx
set_option maxRecDepth 100000 in
set_option maxHeartbeats 4000000 in
theorem vc_X7_split {a0 a1 a2 a3 : Int} {S : St} {Qr : Int → St → Prop} {Qx : String → St → Prop} (h : r32 a0 → r32 a1 → r32 a2 → r32 a3 → okM S → M_X7_isMember a0 S (fun rv4 S2 => r32 rv4 → okM S2 → ((rv4 = 0 → R_X7_split_21 a0 a1 a2 a3 0 S2 Qr Qx) ∧ (rv4 ≠ 0 → M_X7_isJoint a1 S2 (fun rv11 S9 => r32 rv11 → okM S9 → ((rv11 = 0 → R_X7_split_21 a0 a1 a2 a3 0 S9 Qr Qx) ∧ (rv11 ≠ 0 → R_X7_split_21 a0 a1 a2 a3 1 S9 Qr Qx))) Qx))) Qx) : M_X7_split a0 a1 a2 a3 S Qr Qx := by
  intro ra0 ra1 ra2 ra3
  refine MM_of adM (by decide +kernel) rfl (Lf := fun G => [some (.ref (G.2.2 0)), some (iV a0), some (iV a1), some (iV a2), some (iV a3), none, none, none]) (fun G => by show _ ≤ _; exact Nat.le_of_ble_eq_true rfl) (fun G => rfl) ?_
  intro p l e s m args below meth c G A C hok
  have h := h ra0 ra1 ra2 ra3 hok
  replace C : Cx wM cX7_split 8 RX7 wsX7_split (some .int) [] p l s m args meth c G A := C
  show J wM 8 rmX7_split p l e s m args below meth c G A (QQ 1 wM okM G Qr Qx A below args s rmX7_split.cells rmX7_split.slots) 0 0 S [some (.ref (G.2.2 0)), some (iV a0), some (iV a1), some (iV a2), some (iV a3), none, none, none] [] 0
  refine J_aload_n (pc := 0) C dX7_split_0 rfl ?_
  refine J_iload_n (pc := 1) C dX7_split_1 rfl ?_
  refine J_c1 (pc := 2) C (J_rV (pc := 2) C (h ra0) dX7_split_2 rfl rfl 0 rfl rfl (cwV 1 C.1.2.2.2.2 gX7_split_X7_isMember rfl rfl rfl (by decide +kernel) ⟨Nat.le_of_ble_eq_true rfl, Nat.le_of_ble_eq_true rfl⟩) hok (Nat.le_of_ble_eq_true rfl) ⟨Nat.le_of_ble_eq_true rfl, Nat.le_of_ble_eq_true rfl⟩) (fun E9 S9 ok9 q9 => JX_out C ok9 q9 (by decide) (by decide)) (fun rv4 S2 hr5 hok3 h1 => ?_)
  have h1 := h1 hr5 hok3
  obtain ⟨h6, h7⟩ := h1
  refine J_if_eq (pc := 5) (tgt := 20) C dX7_split_5 (by decide) hr5 (fun cb => ?_) (fun cb => ?_)
  · have h6 := h6 cb
    refine J_iconst (pc := 20) C dX7_split_20 ?_
    exact J_sub (L1 := [some (.ref (G.2.2 0)), some (iV a0), some (iV a1), some (iV a2), some (iV a3), none, none, none]) ⟨rfl, ⟨rfl, ⟨rfl, ⟨rfl, ⟨rfl, trivial⟩⟩⟩⟩⟩ (h6 ra0 ra1 ra2 ra3 (by decide) p l e s m args below meth c G A C hok3)
  · have h7 := h7 cb
    refine J_aload_n (pc := 8) C dX7_split_8 rfl ?_
    refine J_iload_n (pc := 9) C dX7_split_9 rfl ?_
    refine J_c1 (pc := 10) C (J_rV (pc := 10) C (h7 ra1) dX7_split_10 rfl rfl 0 rfl rfl (cwV 1 C.1.2.2.2.2 gX7_split_X7_isJoint rfl rfl rfl (by decide +kernel) ⟨Nat.le_of_ble_eq_true rfl, Nat.le_of_ble_eq_true rfl⟩) hok3 (Nat.le_of_ble_eq_true rfl) ⟨Nat.le_of_ble_eq_true rfl, Nat.le_of_ble_eq_true rfl⟩) (fun E9 S9 ok9 q9 => JX_out C ok9 q9 (by decide) (by decide)) (fun rv11 S9 hr12 hok10 h8 => ?_)
    have h8 := h8 hr12 hok10
    obtain ⟨h13, h14⟩ := h8
    refine J_if_eq (pc := 13) (tgt := 20) C dX7_split_13 (by decide) hr12 (fun cb => ?_) (fun cb => ?_)
    · have h13 := h13 cb
      refine J_iconst (pc := 20) C dX7_split_20 ?_
      exact J_sub (L1 := [some (.ref (G.2.2 0)), some (iV a0), some (iV a1), some (iV a2), some (iV a3), none, none, none]) ⟨rfl, ⟨rfl, ⟨rfl, ⟨rfl, ⟨rfl, trivial⟩⟩⟩⟩⟩ (h13 ra0 ra1 ra2 ra3 (by decide) p l e s m args below meth c G A C hok10)
    · have h14 := h14 cb
      refine J_iconst (pc := 16) C dX7_split_16 ?_
      refine J_goto (pc := 17) (tgt := 21) C dX7_split_17 (by decide) ?_
      exact J_sub (L1 := [some (.ref (G.2.2 0)), some (iV a0), some (iV a1), some (iV a2), some (iV a3), none, none, none]) ⟨rfl, ⟨rfl, ⟨rfl, ⟨rfl, ⟨rfl, trivial⟩⟩⟩⟩⟩ (h14 ra0 ra1 ra2 ra3 (by decide) p l e s m args below meth c G A C hok10)
set_option maxRecDepth 100000 in
set_option maxHeartbeats 4000000 in
theorem vc_X7_split_21 {x1 x2 x3 x4 s0 : Int} {S : St} {Qr : Int → St → Prop} {Qx : String → St → Prop} (h : r32 x1 → r32 x2 → r32 x3 → r32 x4 → r32 s0 → okM S → ((s0 = 0 → R_X7_split_62 x1 x2 x3 x4 s0 0 S Qr Qx) ∧ (s0 ≠ 0 → (ix x1 40 ∧ ((x2 = (S 5 x1) → R_X7_split_62 x1 x2 x3 x4 s0 0 S Qr Qx) ∧ (x2 ≠ (S 5 x1) → ((x2 = (S 6 x1) → R_X7_split_62 x1 x2 x3 x4 s0 0 S Qr Qx) ∧ (x2 ≠ (S 6 x1) → M_X7_isPoint x3 x4 S (fun rv12 S10 => r32 rv12 → okM S10 → ((rv12 = 0 → R_X7_split_62 x1 x2 x3 x4 s0 0 S10 Qr Qx) ∧ (rv12 ≠ 0 → R_X7_split_62 x1 x2 x3 x4 s0 1 S10 Qr Qx))) Qx)))))))) : R_X7_split_21 x1 x2 x3 x4 s0 S Qr Qx := by
  intro rx1 rx2 rx3 rx4 rs0
  intro p l e s m args below meth c G A C hok
  have h := h rx1 rx2 rx3 rx4 rs0 hok
  replace C : Cx wM cX7_split 8 RX7 wsX7_split (some .int) [] p l s m args meth c G A := C
  show J wM 8 rmX7_split p l e s m args below meth c G A (QQ 1 wM okM G Qr Qx A below args s rmX7_split.cells rmX7_split.slots) 0 0 S [some (.ref (G.2.2 0)), some (iV x1), some (iV x2), some (iV x3), some (iV x4), none, none, none] [iV s0] 21
  refine J_istore (pc := 21) C dX7_split_21 (by decide) ?_
  refine J_iload (pc := 23) C dX7_split_23 rfl ?_
  obtain ⟨h1, h2⟩ := h
  refine J_if_eq (pc := 25) (tgt := 61) C dX7_split_25 (by decide) rs0 (fun cb => ?_) (fun cb => ?_)
  · have h1 := h1 cb
    refine J_iconst (pc := 61) C dX7_split_61 ?_
    exact J_sub (L1 := [some (.ref (G.2.2 0)), some (iV x1), some (iV x2), some (iV x3), some (iV x4), some (iV s0), none, none]) ⟨rfl, ⟨rfl, ⟨rfl, ⟨rfl, ⟨rfl, ⟨rfl, trivial⟩⟩⟩⟩⟩⟩ (h1 rx1 rx2 rx3 rx4 rs0 (by decide) p l e s m args below meth c G A C hok)
  · have h2 := h2 cb
    refine J_iload_n (pc := 28) C dX7_split_28 rfl ?_
    refine J_aload_n (pc := 29) C dX7_split_29 rfl ?_
    refine J_get (pc := 30) C dX7_split_30 0 rfl rfl nX7_split_X7 7 (by decide) mX7_split_f23 rfl (v := .ref (G.2.2 5)) rfl ?_
    refine J_iload_n (pc := 33) C dX7_split_33 rfl ?_
    obtain ⟨o3, h4⟩ := h2
    refine J_iald (pc := 34) C dX7_split_34 5 5 rfl (by decide) o3 ?_
    obtain ⟨h5, h6⟩ := h4
    refine J_icmp_eq (pc := 35) (tgt := 61) C dX7_split_35 (by decide) rx2 (hok 5 x1) (fun cb => ?_) (fun cb => ?_)
    · have h5 := h5 cb
      refine J_iconst (pc := 61) C dX7_split_61 ?_
      exact J_sub (L1 := [some (.ref (G.2.2 0)), some (iV x1), some (iV x2), some (iV x3), some (iV x4), some (iV s0), none, none]) ⟨rfl, ⟨rfl, ⟨rfl, ⟨rfl, ⟨rfl, ⟨rfl, trivial⟩⟩⟩⟩⟩⟩ (h5 rx1 rx2 rx3 rx4 rs0 (by decide) p l e s m args below meth c G A C hok)
    · have h6 := h6 cb
      refine J_iload_n (pc := 38) C dX7_split_38 rfl ?_
      refine J_aload_n (pc := 39) C dX7_split_39 rfl ?_
      refine J_get (pc := 40) C dX7_split_40 0 rfl rfl nX7_split_X7 8 (by decide) mX7_split_f26 rfl (v := .ref (G.2.2 6)) rfl ?_
      refine J_iload_n (pc := 43) C dX7_split_43 rfl ?_
      refine J_iald (pc := 44) C dX7_split_44 6 6 rfl (by decide) o3 ?_
      obtain ⟨h7, h8⟩ := h6
      refine J_icmp_eq (pc := 45) (tgt := 61) C dX7_split_45 (by decide) rx2 (hok 6 x1) (fun cb => ?_) (fun cb => ?_)
      · have h7 := h7 cb
        refine J_iconst (pc := 61) C dX7_split_61 ?_
        exact J_sub (L1 := [some (.ref (G.2.2 0)), some (iV x1), some (iV x2), some (iV x3), some (iV x4), some (iV s0), none, none]) ⟨rfl, ⟨rfl, ⟨rfl, ⟨rfl, ⟨rfl, ⟨rfl, trivial⟩⟩⟩⟩⟩⟩ (h7 rx1 rx2 rx3 rx4 rs0 (by decide) p l e s m args below meth c G A C hok)
      · have h8 := h8 cb
        refine J_iload_n (pc := 48) C dX7_split_48 rfl ?_
        refine J_iload (pc := 49) C dX7_split_49 rfl ?_
        refine J_c1 (pc := 51) C (J_rS (pc := 51) C (h8 rx3 rx4) dX7_split_51 rfl rfl (va_cwS 2 C.1.2.2.2.2 gX7_split_X7_isPoint rfl rfl rfl (by decide +kernel) ⟨Nat.le_of_ble_eq_true rfl, Nat.le_of_ble_eq_true rfl⟩) hok (Nat.le_of_ble_eq_true rfl) ⟨Nat.le_of_ble_eq_true rfl, Nat.le_of_ble_eq_true rfl⟩) (fun E9 S9 ok9 q9 => JX_out C ok9 q9 (by decide) (by decide)) (fun rv12 S10 hr13 hok11 h9 => ?_)
        have h9 := h9 hr13 hok11
        obtain ⟨h14, h15⟩ := h9
        refine J_if_eq (pc := 54) (tgt := 61) C dX7_split_54 (by decide) hr13 (fun cb => ?_) (fun cb => ?_)
        · have h14 := h14 cb
          refine J_iconst (pc := 61) C dX7_split_61 ?_
          exact J_sub (L1 := [some (.ref (G.2.2 0)), some (iV x1), some (iV x2), some (iV x3), some (iV x4), some (iV s0), none, none]) ⟨rfl, ⟨rfl, ⟨rfl, ⟨rfl, ⟨rfl, ⟨rfl, trivial⟩⟩⟩⟩⟩⟩ (h14 rx1 rx2 rx3 rx4 rs0 (by decide) p l e s m args below meth c G A C hok11)
        · have h15 := h15 cb
          refine J_iconst (pc := 57) C dX7_split_57 ?_
          refine J_goto (pc := 58) (tgt := 62) C dX7_split_58 (by decide) ?_
          exact J_sub (L1 := [some (.ref (G.2.2 0)), some (iV x1), some (iV x2), some (iV x3), some (iV x4), some (iV s0), none, none]) ⟨rfl, ⟨rfl, ⟨rfl, ⟨rfl, ⟨rfl, ⟨rfl, trivial⟩⟩⟩⟩⟩⟩ (h15 rx1 rx2 rx3 rx4 rs0 (by decide) p l e s m args below meth c G A C hok11)
set_option maxRecDepth 100000 in
set_option maxHeartbeats 4000000 in
theorem vc_X7_split_62 {x1 x2 x3 x4 x5 s0 : Int} {S : St} {Qr : Int → St → Prop} {Qx : String → St → Prop} (h : r32 x1 → r32 x2 → r32 x3 → r32 x4 → r32 x5 → r32 s0 → okM S → ((x5 ≠ 0 → ((s0 ≠ 0 → (((S 0 1) = 10 → R_X7_split_106 x1 x2 x3 x4 3 S Qr Qx) ∧ ((S 0 1) ≠ 10 → (((S 0 6) ≤ 37 → R_X7_split_106 x1 x2 x3 x4 0 S Qr Qx) ∧ (37 < (S 0 6) → R_X7_split_106 x1 x2 x3 x4 3 S Qr Qx))))) ∧ (s0 = 0 → R_X7_split_106 x1 x2 x3 x4 2 S Qr Qx))) ∧ (x5 = 0 → R_X7_split_106 x1 x2 x3 x4 1 S Qr Qx))) : R_X7_split_62 x1 x2 x3 x4 x5 s0 S Qr Qx := by
  intro rx1 rx2 rx3 rx4 rx5 rs0
  intro p l e s m args below meth c G A C hok
  have h := h rx1 rx2 rx3 rx4 rx5 rs0 hok
  replace C : Cx wM cX7_split 8 RX7 wsX7_split (some .int) [] p l s m args meth c G A := C
  show J wM 8 rmX7_split p l e s m args below meth c G A (QQ 1 wM okM G Qr Qx A below args s rmX7_split.cells rmX7_split.slots) 0 0 S [some (.ref (G.2.2 0)), some (iV x1), some (iV x2), some (iV x3), some (iV x4), some (iV x5), none, none] [iV s0] 62
  refine J_istore (pc := 62) C dX7_split_62 (by decide) ?_
  refine J_aload_n (pc := 64) C dX7_split_64 rfl ?_
  refine J_iload (pc := 65) C dX7_split_65 rfl ?_
  obtain ⟨h1, h2⟩ := h
  refine J_if_ne (pc := 67) (tgt := 74) C dX7_split_67 (by decide) rx5 (fun cb => ?_) (fun cb => ?_)
  · have h1 := h1 cb
    refine J_iload (pc := 74) C dX7_split_74 rfl ?_
    obtain ⟨h3, h4⟩ := h1
    refine J_if_ne (pc := 76) (tgt := 83) C dX7_split_76 (by decide) rs0 (fun cb => ?_) (fun cb => ?_)
    · have h3 := h3 cb
      refine J_aload_n (pc := 83) C dX7_split_83 rfl ?_
      refine J_get (pc := 84) C dX7_split_84 0 rfl rfl nX7_split_X7 1 (by decide) mX7_split_f76 rfl (v := iV (S 0 1)) rfl ?_
      refine J_bipush (pc := 87) C dX7_split_87 (by decide) ?_
      obtain ⟨h5, h6⟩ := h3
      refine J_icmp_eq (pc := 89) (tgt := 101) C dX7_split_89 (by decide) (hok 0 1) (by decide) (fun cb => ?_) (fun cb => ?_)
      · have h5 := h5 cb
        refine J_iconst (pc := 101) C dX7_split_101 ?_
        refine J_goto (pc := 102) (tgt := 106) C dX7_split_102 (by decide) ?_
        exact J_sub (L1 := [some (.ref (G.2.2 0)), some (iV x1), some (iV x2), some (iV x3), some (iV x4), none, none, none]) ⟨rfl, ⟨rfl, ⟨rfl, ⟨rfl, ⟨rfl, trivial⟩⟩⟩⟩⟩ (h5 rx1 rx2 rx3 rx4 (by decide) p l e s m args below meth c G A C hok)
      · have h6 := h6 cb
        refine J_aload_n (pc := 92) C dX7_split_92 rfl ?_
        refine J_get (pc := 93) C dX7_split_93 0 rfl rfl nX7_split_X7 6 (by decide) mX7_split_f83 rfl (v := iV (S 0 6)) rfl ?_
        refine J_bipush (pc := 96) C dX7_split_96 (by decide) ?_
        obtain ⟨h7, h8⟩ := h6
        refine J_icmp_le (pc := 98) (tgt := 105) C dX7_split_98 (by decide) (hok 0 6) (by decide) (fun cb => ?_) (fun cb => ?_)
        · have h7 := h7 cb
          refine J_iconst (pc := 105) C dX7_split_105 ?_
          exact J_sub (L1 := [some (.ref (G.2.2 0)), some (iV x1), some (iV x2), some (iV x3), some (iV x4), none, none, none]) ⟨rfl, ⟨rfl, ⟨rfl, ⟨rfl, ⟨rfl, trivial⟩⟩⟩⟩⟩ (h7 rx1 rx2 rx3 rx4 (by decide) p l e s m args below meth c G A C hok)
        · have h8 := h8 cb
          refine J_iconst (pc := 101) C dX7_split_101 ?_
          refine J_goto (pc := 102) (tgt := 106) C dX7_split_102 (by decide) ?_
          exact J_sub (L1 := [some (.ref (G.2.2 0)), some (iV x1), some (iV x2), some (iV x3), some (iV x4), none, none, none]) ⟨rfl, ⟨rfl, ⟨rfl, ⟨rfl, ⟨rfl, trivial⟩⟩⟩⟩⟩ (h8 rx1 rx2 rx3 rx4 (by decide) p l e s m args below meth c G A C hok)
    · have h4 := h4 cb
      refine J_iconst (pc := 79) C dX7_split_79 ?_
      refine J_goto (pc := 80) (tgt := 106) C dX7_split_80 (by decide) ?_
      exact J_sub (L1 := [some (.ref (G.2.2 0)), some (iV x1), some (iV x2), some (iV x3), some (iV x4), none, none, none]) ⟨rfl, ⟨rfl, ⟨rfl, ⟨rfl, ⟨rfl, trivial⟩⟩⟩⟩⟩ (h4 rx1 rx2 rx3 rx4 (by decide) p l e s m args below meth c G A C hok)
  · have h2 := h2 cb
    refine J_iconst (pc := 70) C dX7_split_70 ?_
    refine J_goto (pc := 71) (tgt := 106) C dX7_split_71 (by decide) ?_
    exact J_sub (L1 := [some (.ref (G.2.2 0)), some (iV x1), some (iV x2), some (iV x3), some (iV x4), none, none, none]) ⟨rfl, ⟨rfl, ⟨rfl, ⟨rfl, ⟨rfl, trivial⟩⟩⟩⟩⟩ (h2 rx1 rx2 rx3 rx4 (by decide) p l e s m args below meth c G A C hok)
set_option maxRecDepth 100000 in
set_option maxHeartbeats 4000000 in
theorem vc_X7_split_106 {x1 x2 x3 x4 s0 : Int} {S : St} {Qr : Int → St → Prop} {Qx : String → St → Prop} (h : r32 x1 → r32 x2 → r32 x3 → r32 x4 → r32 s0 → okM S → M_X7_holds s0 S (fun rv4 S2 => r32 rv4 → okM S2 → ((rv4 ≠ 0 → (ix x1 40 ∧ M_X7_steps 3 x1 x3 x4 (up S2 9 x1 1) (fun rv14 S12 => r32 rv14 → okM S12 → M_X7_sets (S12 5 x1) rv14 0 S12 (fun rv19 S17 => r32 rv19 → okM S17 → M_X7_sets (S17 6 x1) rv14 0 S17 (fun rv24 S22 => r32 rv24 → okM S22 → M_X7_sets x2 rv14 0 S22 (fun rv29 S27 => r32 rv29 → okM S27 → Qr rv14 S27) Qx) Qx) Qx) Qx)) ∧ (rv4 = 0 → Qr 0 S2))) Qx) : R_X7_split_106 x1 x2 x3 x4 s0 S Qr Qx := by
  intro rx1 rx2 rx3 rx4 rs0
  intro p l e s m args below meth c G A C hok
  have h := h rx1 rx2 rx3 rx4 rs0 hok
  replace C : Cx wM cX7_split 8 RX7 wsX7_split (some .int) [] p l s m args meth c G A := C
  show J wM 8 rmX7_split p l e s m args below meth c G A (QQ 1 wM okM G Qr Qx A below args s rmX7_split.cells rmX7_split.slots) 0 0 S [some (.ref (G.2.2 0)), some (iV x1), some (iV x2), some (iV x3), some (iV x4), none, none, none] [iV s0, .ref (G.2.2 0)] 106
  refine J_c1 (pc := 106) C (J_rV (pc := 106) C (h rs0) dX7_split_106 rfl rfl 0 rfl rfl (cwV 1 C.1.2.2.2.2 gX7_split_X7_holds rfl rfl rfl (by decide +kernel) ⟨Nat.le_of_ble_eq_true rfl, Nat.le_of_ble_eq_true rfl⟩) hok (Nat.le_of_ble_eq_true rfl) ⟨Nat.le_of_ble_eq_true rfl, Nat.le_of_ble_eq_true rfl⟩) (fun E9 S9 ok9 q9 => JX_out C ok9 q9 (by decide) (by decide)) (fun rv4 S2 hr5 hok3 h1 => ?_)
  have h1 := h1 hr5 hok3
  obtain ⟨h6, h7⟩ := h1
  refine J_if_ne (pc := 109) (tgt := 114) C dX7_split_109 (by decide) hr5 (fun cb => ?_) (fun cb => ?_)
  · have h6 := h6 cb
    refine J_aload_n (pc := 114) C dX7_split_114 rfl ?_
    refine J_get (pc := 115) C dX7_split_115 0 rfl rfl nX7_split_X7 11 (by decide) mX7_split_f35 rfl (v := .ref (G.2.2 9)) rfl ?_
    refine J_iload_n (pc := 118) C dX7_split_118 rfl ?_
    refine J_iconst (pc := 119) C dX7_split_119 ?_
    obtain ⟨o8, h9⟩ := h6
    refine J_zast (pc := 120) C dX7_split_120 9 9 rfl (by decide) o8 (by decide) (sM_9 G S2 x1 1) ?_
    have hok10 := okM_up (k := 9) (j := x1) hok3 (show rngM 9 1 from (by decide : (0:Int) ≤ 1 ∧ (1:Int) ≤ 1))
    refine J_aload_n (pc := 121) C dX7_split_121 rfl ?_
    refine J_iconst (pc := 122) C dX7_split_122 ?_
    refine J_iload_n (pc := 123) C dX7_split_123 rfl ?_
    refine J_iload_n (pc := 124) C dX7_split_124 rfl ?_
    refine J_iload (pc := 125) C dX7_split_125 rfl ?_
    refine J_c1 (pc := 127) C (J_rV (pc := 127) C (h9 (by decide) rx1 rx3 rx4) dX7_split_127 rfl rfl 0 rfl rfl (cwV 4 C.1.2.2.2.2 gX7_split_X7_steps rfl rfl rfl (by decide +kernel) ⟨Nat.le_of_ble_eq_true rfl, Nat.le_of_ble_eq_true rfl⟩) hok10 (Nat.le_of_ble_eq_true rfl) ⟨Nat.le_of_ble_eq_true rfl, Nat.le_of_ble_eq_true rfl⟩) (fun E9 S9 ok9 q9 => JX_out C ok9 q9 (by decide) (by decide)) (fun rv14 S12 hr15 hok13 h11 => ?_)
    have h11 := h11 hr15 hok13
    refine J_istore (pc := 130) C dX7_split_130 (by decide) ?_
    refine J_aload_n (pc := 132) C dX7_split_132 rfl ?_
    refine J_aload_n (pc := 133) C dX7_split_133 rfl ?_
    refine J_get (pc := 134) C dX7_split_134 0 rfl rfl nX7_split_X7 7 (by decide) mX7_split_f23 rfl (v := .ref (G.2.2 5)) rfl ?_
    refine J_iload_n (pc := 137) C dX7_split_137 rfl ?_
    refine J_iald (pc := 138) C dX7_split_138 5 5 rfl (by decide) o8 ?_
    refine J_iload (pc := 139) C dX7_split_139 rfl ?_
    refine J_iconst (pc := 141) C dX7_split_141 ?_
    refine J_c1 (pc := 142) C (J_rV (pc := 142) C (h11 (hok13 5 x1) hr15 (by decide)) dX7_split_142 rfl rfl 0 rfl rfl (cwV 3 C.1.2.2.2.2 gX7_split_X7_sets rfl rfl rfl (by decide +kernel) ⟨Nat.le_of_ble_eq_true rfl, Nat.le_of_ble_eq_true rfl⟩) hok13 (Nat.le_of_ble_eq_true rfl) ⟨Nat.le_of_ble_eq_true rfl, Nat.le_of_ble_eq_true rfl⟩) (fun E9 S9 ok9 q9 => JX_out C ok9 q9 (by decide) (by decide)) (fun rv19 S17 hr20 hok18 h16 => ?_)
    have h16 := h16 hr20 hok18
    refine J_pop (pc := 145) C dX7_split_145 rfl ?_
    refine J_aload_n (pc := 146) C dX7_split_146 rfl ?_
    refine J_aload_n (pc := 147) C dX7_split_147 rfl ?_
    refine J_get (pc := 148) C dX7_split_148 0 rfl rfl nX7_split_X7 8 (by decide) mX7_split_f26 rfl (v := .ref (G.2.2 6)) rfl ?_
    refine J_iload_n (pc := 151) C dX7_split_151 rfl ?_
    refine J_iald (pc := 152) C dX7_split_152 6 6 rfl (by decide) o8 ?_
    refine J_iload (pc := 153) C dX7_split_153 rfl ?_
    refine J_iconst (pc := 155) C dX7_split_155 ?_
    refine J_c1 (pc := 156) C (J_rV (pc := 156) C (h16 (hok18 6 x1) hr15 (by decide)) dX7_split_156 rfl rfl 0 rfl rfl (cwV 3 C.1.2.2.2.2 gX7_split_X7_sets rfl rfl rfl (by decide +kernel) ⟨Nat.le_of_ble_eq_true rfl, Nat.le_of_ble_eq_true rfl⟩) hok18 (Nat.le_of_ble_eq_true rfl) ⟨Nat.le_of_ble_eq_true rfl, Nat.le_of_ble_eq_true rfl⟩) (fun E9 S9 ok9 q9 => JX_out C ok9 q9 (by decide) (by decide)) (fun rv24 S22 hr25 hok23 h21 => ?_)
    have h21 := h21 hr25 hok23
    refine J_pop (pc := 159) C dX7_split_159 rfl ?_
    refine J_aload_n (pc := 160) C dX7_split_160 rfl ?_
    refine J_iload_n (pc := 161) C dX7_split_161 rfl ?_
    refine J_iload (pc := 162) C dX7_split_162 rfl ?_
    refine J_iconst (pc := 164) C dX7_split_164 ?_
    refine J_c1 (pc := 165) C (J_rV (pc := 165) C (h21 rx2 hr15 (by decide)) dX7_split_165 rfl rfl 0 rfl rfl (cwV 3 C.1.2.2.2.2 gX7_split_X7_sets rfl rfl rfl (by decide +kernel) ⟨Nat.le_of_ble_eq_true rfl, Nat.le_of_ble_eq_true rfl⟩) hok23 (Nat.le_of_ble_eq_true rfl) ⟨Nat.le_of_ble_eq_true rfl, Nat.le_of_ble_eq_true rfl⟩) (fun E9 S9 ok9 q9 => JX_out C ok9 q9 (by decide) (by decide)) (fun rv29 S27 hr30 hok28 h26 => ?_)
    have h26 := h26 hr30 hok28
    refine J_pop (pc := 168) C dX7_split_168 rfl ?_
    refine J_iload (pc := 169) C dX7_split_169 rfl ?_
    exact J_iret (pc := 171) C dX7_split_171 hr15 hok28 h26 (by decide) (by decide)
  · have h7 := h7 cb
    refine J_iconst (pc := 112) C dX7_split_112 ?_
    exact J_iret (pc := 113) C dX7_split_113 (by decide) hok3 h7 (by decide) (by decide)
def rmX7_stress : Room := { frames := 2, cells := 0, slots := 0, locals := 43 }
theorem mX7_stress_f32 : Cond.fieldLink RX7 32 "StressworkModel" "stress" "[I" ∈ wsX7_stress := by decide +kernel
theorem nX7_stress_X7 : ∀ x ∈ wsX70, x ∈ wsX7_stress := by decide +kernel
def M_X7_stress (a0 a1 : Int) (S : St) (Qr : Int → St → Prop) (Qx : String → St → Prop) : Prop := r32 a0 → r32 a1 → MM 1 wM okM yX7_stress wsX7_stress rmX7_stress (fun G => [.ref (G.2.2 0), iV a0, iV a1]) S Qr Qx
set_option maxRecDepth 100000 in
set_option maxHeartbeats 4000000 in
theorem vc_X7_stress {a0 a1 : Int} {S : St} {Qr : Int → St → Prop} {Qx : String → St → Prop} (h : r32 a0 → r32 a1 → okM S → M_X7_isMember a0 S (fun rv4 S2 => r32 rv4 → okM S2 → ((rv4 ≠ 0 → M_X7_isIn a1 (-99) 99 S2 (fun rv11 S9 => r32 rv11 → okM S9 → ((rv11 = 0 → M_X7_holds 2 S9 (fun rv18 S16 => r32 rv18 → okM S16 → ((rv18 ≠ 0 → (ix a0 40 ∧ Qr (S16 8 a0) (up S16 8 a0 a1))) ∧ (rv18 = 0 → Qr 0 S16))) Qx) ∧ (rv11 ≠ 0 → M_X7_holds 0 S9 (fun rv28 S26 => r32 rv28 → okM S26 → ((rv28 ≠ 0 → (ix a0 40 ∧ Qr (S26 8 a0) (up S26 8 a0 a1))) ∧ (rv28 = 0 → Qr 0 S26))) Qx))) Qx) ∧ (rv4 = 0 → M_X7_holds 1 S2 (fun rv38 S36 => r32 rv38 → okM S36 → ((rv38 ≠ 0 → (ix a0 40 ∧ Qr (S36 8 a0) (up S36 8 a0 a1))) ∧ (rv38 = 0 → Qr 0 S36))) Qx))) Qx) : M_X7_stress a0 a1 S Qr Qx := by
  intro ra0 ra1
  refine MM_of adM (by decide +kernel) rfl (Lf := fun G => [some (.ref (G.2.2 0)), some (iV a0), some (iV a1), none]) (fun G => by show _ ≤ _; exact Nat.le_of_ble_eq_true rfl) (fun G => rfl) ?_
  intro p l e s m args below meth c G A C hok
  have h := h ra0 ra1 hok
  replace C : Cx wM cX7_stress 4 RX7 wsX7_stress (some .int) [] p l s m args meth c G A := C
  show J wM 4 rmX7_stress p l e s m args below meth c G A (QQ 1 wM okM G Qr Qx A below args s rmX7_stress.cells rmX7_stress.slots) 0 0 S [some (.ref (G.2.2 0)), some (iV a0), some (iV a1), none] [] 0
  refine J_aload_n (pc := 0) C dX7_stress_0 rfl ?_
  refine J_aload_n (pc := 1) C dX7_stress_1 rfl ?_
  refine J_iload_n (pc := 2) C dX7_stress_2 rfl ?_
  refine J_c1 (pc := 3) C (J_rV (pc := 3) C (h ra0) dX7_stress_3 rfl rfl 0 rfl rfl (cwV 1 C.1.2.2.2.2 gX7_stress_X7_isMember rfl rfl rfl (by decide +kernel) ⟨Nat.le_of_ble_eq_true rfl, Nat.le_of_ble_eq_true rfl⟩) hok (Nat.le_of_ble_eq_true rfl) ⟨Nat.le_of_ble_eq_true rfl, Nat.le_of_ble_eq_true rfl⟩) (fun E9 S9 ok9 q9 => JX_out C ok9 q9 (by decide) (by decide)) (fun rv4 S2 hr5 hok3 h1 => ?_)
  have h1 := h1 hr5 hok3
  obtain ⟨h6, h7⟩ := h1
  refine J_if_ne (pc := 6) (tgt := 13) C dX7_stress_6 (by decide) hr5 (fun cb => ?_) (fun cb => ?_)
  · have h6 := h6 cb
    refine J_iload_n (pc := 13) C dX7_stress_13 rfl ?_
    refine J_bipush (pc := 14) C dX7_stress_14 (by decide) ?_
    refine J_bipush (pc := 16) C dX7_stress_16 (by decide) ?_
    refine J_c1 (pc := 18) C (J_rS (pc := 18) C (h6 ra1 (by decide) (by decide)) dX7_stress_18 rfl rfl (va_cwS 3 C.1.2.2.2.2 gX7_stress_X7_isIn rfl rfl rfl (by decide +kernel) ⟨Nat.le_of_ble_eq_true rfl, Nat.le_of_ble_eq_true rfl⟩) hok3 (Nat.le_of_ble_eq_true rfl) ⟨Nat.le_of_ble_eq_true rfl, Nat.le_of_ble_eq_true rfl⟩) (fun E9 S9 ok9 q9 => JX_out C ok9 q9 (by decide) (by decide)) (fun rv11 S9 hr12 hok10 h8 => ?_)
    have h8 := h8 hr12 hok10
    obtain ⟨h13, h14⟩ := h8
    refine J_if_eq (pc := 21) (tgt := 28) C dX7_stress_21 (by decide) hr12 (fun cb => ?_) (fun cb => ?_)
    · have h13 := h13 cb
      refine J_iconst (pc := 28) C dX7_stress_28 ?_
      refine J_c1 (pc := 29) C (J_rV (pc := 29) C (h13 (by decide)) dX7_stress_29 rfl rfl 0 rfl rfl (cwV 1 C.1.2.2.2.2 gX7_stress_X7_holds rfl rfl rfl (by decide +kernel) ⟨Nat.le_of_ble_eq_true rfl, Nat.le_of_ble_eq_true rfl⟩) hok10 (Nat.le_of_ble_eq_true rfl) ⟨Nat.le_of_ble_eq_true rfl, Nat.le_of_ble_eq_true rfl⟩) (fun E9 S9 ok9 q9 => JX_out C ok9 q9 (by decide) (by decide)) (fun rv18 S16 hr19 hok17 h15 => ?_)
      have h15 := h15 hr19 hok17
      obtain ⟨h20, h21⟩ := h15
      refine J_if_ne (pc := 32) (tgt := 37) C dX7_stress_32 (by decide) hr19 (fun cb => ?_) (fun cb => ?_)
      · have h20 := h20 cb
        refine J_aload_n (pc := 37) C dX7_stress_37 rfl ?_
        refine J_get (pc := 38) C dX7_stress_38 0 rfl rfl nX7_stress_X7 10 (by decide) mX7_stress_f32 rfl (v := .ref (G.2.2 8)) rfl ?_
        refine J_iload_n (pc := 41) C dX7_stress_41 rfl ?_
        obtain ⟨o22, h23⟩ := h20
        refine J_iald (pc := 42) C dX7_stress_42 8 8 rfl (by decide) o22 ?_
        refine J_istore_n (pc := 43) C dX7_stress_43 (by decide) ?_
        refine J_aload_n (pc := 44) C dX7_stress_44 rfl ?_
        refine J_get (pc := 45) C dX7_stress_45 0 rfl rfl nX7_stress_X7 10 (by decide) mX7_stress_f32 rfl (v := .ref (G.2.2 8)) rfl ?_
        refine J_iload_n (pc := 48) C dX7_stress_48 rfl ?_
        refine J_iload_n (pc := 49) C dX7_stress_49 rfl ?_
        refine J_iast (pc := 50) C dX7_stress_50 8 8 rfl (by decide) o22 (sM_8 G S16 a0 a1) ?_
        have hok24 := okM_up (k := 8) (j := a0) hok17 (show rngM 8 a1 from ra1)
        refine J_iload_n (pc := 51) C dX7_stress_51 rfl ?_
        exact J_iret (pc := 52) C dX7_stress_52 (hok17 8 a0) hok24 h23 (by decide) (by decide)
      · have h21 := h21 cb
        refine J_iconst (pc := 35) C dX7_stress_35 ?_
        exact J_iret (pc := 36) C dX7_stress_36 (by decide) hok17 h21 (by decide) (by decide)
    · have h14 := h14 cb
      refine J_iconst (pc := 24) C dX7_stress_24 ?_
      refine J_goto (pc := 25) (tgt := 29) C dX7_stress_25 (by decide) ?_
      refine J_c1 (pc := 29) C (J_rV (pc := 29) C (h14 (by decide)) dX7_stress_29 rfl rfl 0 rfl rfl (cwV 1 C.1.2.2.2.2 gX7_stress_X7_holds rfl rfl rfl (by decide +kernel) ⟨Nat.le_of_ble_eq_true rfl, Nat.le_of_ble_eq_true rfl⟩) hok10 (Nat.le_of_ble_eq_true rfl) ⟨Nat.le_of_ble_eq_true rfl, Nat.le_of_ble_eq_true rfl⟩) (fun E9 S9 ok9 q9 => JX_out C ok9 q9 (by decide) (by decide)) (fun rv28 S26 hr29 hok27 h25 => ?_)
      have h25 := h25 hr29 hok27
      obtain ⟨h30, h31⟩ := h25
      refine J_if_ne (pc := 32) (tgt := 37) C dX7_stress_32 (by decide) hr29 (fun cb => ?_) (fun cb => ?_)
      · have h30 := h30 cb
        refine J_aload_n (pc := 37) C dX7_stress_37 rfl ?_
        refine J_get (pc := 38) C dX7_stress_38 0 rfl rfl nX7_stress_X7 10 (by decide) mX7_stress_f32 rfl (v := .ref (G.2.2 8)) rfl ?_
        refine J_iload_n (pc := 41) C dX7_stress_41 rfl ?_
        obtain ⟨o32, h33⟩ := h30
        refine J_iald (pc := 42) C dX7_stress_42 8 8 rfl (by decide) o32 ?_
        refine J_istore_n (pc := 43) C dX7_stress_43 (by decide) ?_
        refine J_aload_n (pc := 44) C dX7_stress_44 rfl ?_
        refine J_get (pc := 45) C dX7_stress_45 0 rfl rfl nX7_stress_X7 10 (by decide) mX7_stress_f32 rfl (v := .ref (G.2.2 8)) rfl ?_
        refine J_iload_n (pc := 48) C dX7_stress_48 rfl ?_
        refine J_iload_n (pc := 49) C dX7_stress_49 rfl ?_
        refine J_iast (pc := 50) C dX7_stress_50 8 8 rfl (by decide) o32 (sM_8 G S26 a0 a1) ?_
        have hok34 := okM_up (k := 8) (j := a0) hok27 (show rngM 8 a1 from ra1)
        refine J_iload_n (pc := 51) C dX7_stress_51 rfl ?_
        exact J_iret (pc := 52) C dX7_stress_52 (hok27 8 a0) hok34 h33 (by decide) (by decide)
      · have h31 := h31 cb
        refine J_iconst (pc := 35) C dX7_stress_35 ?_
        exact J_iret (pc := 36) C dX7_stress_36 (by decide) hok27 h31 (by decide) (by decide)
  · have h7 := h7 cb
    refine J_iconst (pc := 9) C dX7_stress_9 ?_
    refine J_goto (pc := 10) (tgt := 29) C dX7_stress_10 (by decide) ?_
    refine J_c1 (pc := 29) C (J_rV (pc := 29) C (h7 (by decide)) dX7_stress_29 rfl rfl 0 rfl rfl (cwV 1 C.1.2.2.2.2 gX7_stress_X7_holds rfl rfl rfl (by decide +kernel) ⟨Nat.le_of_ble_eq_true rfl, Nat.le_of_ble_eq_true rfl⟩) hok3 (Nat.le_of_ble_eq_true rfl) ⟨Nat.le_of_ble_eq_true rfl, Nat.le_of_ble_eq_true rfl⟩) (fun E9 S9 ok9 q9 => JX_out C ok9 q9 (by decide) (by decide)) (fun rv38 S36 hr39 hok37 h35 => ?_)
    have h35 := h35 hr39 hok37
    obtain ⟨h40, h41⟩ := h35
    refine J_if_ne (pc := 32) (tgt := 37) C dX7_stress_32 (by decide) hr39 (fun cb => ?_) (fun cb => ?_)
    · have h40 := h40 cb
      refine J_aload_n (pc := 37) C dX7_stress_37 rfl ?_
      refine J_get (pc := 38) C dX7_stress_38 0 rfl rfl nX7_stress_X7 10 (by decide) mX7_stress_f32 rfl (v := .ref (G.2.2 8)) rfl ?_
      refine J_iload_n (pc := 41) C dX7_stress_41 rfl ?_
      obtain ⟨o42, h43⟩ := h40
      refine J_iald (pc := 42) C dX7_stress_42 8 8 rfl (by decide) o42 ?_
      refine J_istore_n (pc := 43) C dX7_stress_43 (by decide) ?_
      refine J_aload_n (pc := 44) C dX7_stress_44 rfl ?_
      refine J_get (pc := 45) C dX7_stress_45 0 rfl rfl nX7_stress_X7 10 (by decide) mX7_stress_f32 rfl (v := .ref (G.2.2 8)) rfl ?_
      refine J_iload_n (pc := 48) C dX7_stress_48 rfl ?_
      refine J_iload_n (pc := 49) C dX7_stress_49 rfl ?_
      refine J_iast (pc := 50) C dX7_stress_50 8 8 rfl (by decide) o42 (sM_8 G S36 a0 a1) ?_
      have hok44 := okM_up (k := 8) (j := a0) hok37 (show rngM 8 a1 from ra1)
      refine J_iload_n (pc := 51) C dX7_stress_51 rfl ?_
      exact J_iret (pc := 52) C dX7_stress_52 (hok37 8 a0) hok44 h43 (by decide) (by decide)
    · have h41 := h41 cb
      refine J_iconst (pc := 35) C dX7_stress_35 ?_
      exact J_iret (pc := 36) C dX7_stress_36 (by decide) hok37 h41 (by decide) (by decide)
def rmX7_stresses : Room := { frames := 4, cells := 0, slots := 0, locals := 104 }
theorem mX7_stresses_f72 : Cond.fieldLink RX7 72 "StressworkModel" "thrown" "I" ∈ wsX7_stresses := by decide +kernel
theorem nX7_stresses_X7 : ∀ x ∈ wsX70, x ∈ wsX7_stresses := by decide +kernel
def M_X7_stresses (S : St) (Qr : Int → St → Prop) (Qx : String → St → Prop) : Prop := MM 1 wM okM yX7_stresses wsX7_stresses rmX7_stresses (fun G => [.ref (G.2.2 0)]) S Qr Qx
set_option maxRecDepth 100000 in
set_option maxHeartbeats 4000000 in
theorem vc_X7_stresses {S : St} {Qr : Int → St → Prop} {Qx : String → St → Prop} (h : okM S → M_X7_many (up S 0 0 0) (fun rv5 S3 => r32 rv5 → okM S3 → M_X7_rankOf (-1) S3 (fun rv10 S8 => r32 rv10 → okM S8 → (r32 (rv5 - rv10) ∧ Qr (rv5 - rv10) S8)) Qx) Qx) : M_X7_stresses S Qr Qx := by
  refine MM_of adM (by decide +kernel) rfl (Lf := fun G => [some (.ref (G.2.2 0))]) (fun G => by show _ ≤ _; exact Nat.le_of_ble_eq_true rfl) (fun G => rfl) ?_
  intro p l e s m args below meth c G A C hok
  have h := h hok
  replace C : Cx wM cX7_stresses 1 RX7 wsX7_stresses (some .int) [] p l s m args meth c G A := C
  show J wM 1 rmX7_stresses p l e s m args below meth c G A (QQ 1 wM okM G Qr Qx A below args s rmX7_stresses.cells rmX7_stresses.slots) 0 0 S [some (.ref (G.2.2 0))] [] 0
  refine J_aload_n (pc := 0) C dX7_stresses_0 rfl ?_
  refine J_iconst (pc := 1) C dX7_stresses_1 ?_
  refine J_put (pc := 2) C dX7_stresses_2 0 rfl rfl nX7_stresses_X7 tyX7 tyX7_ok nmX7 0 (by decide) mX7_stresses_f72 rfl rfl (v := iV 0) rfl rfl (Nat.le_of_ble_eq_true rfl) (sM_0_0 G S 0) ?_
  have hok1 := okM_up (k := 0) (j := 0) hok (show rngM 0 0 from (by decide : r32 0))
  refine J_aload_n (pc := 5) C dX7_stresses_5 rfl ?_
  refine J_c1 (pc := 6) C (J_rV (pc := 6) C h dX7_stresses_6 rfl rfl 0 rfl rfl (cwV 0 C.1.2.2.2.2 gX7_stresses_X7_many rfl rfl rfl (by decide +kernel) ⟨Nat.le_of_ble_eq_true rfl, Nat.le_of_ble_eq_true rfl⟩) hok1 (Nat.le_of_ble_eq_true rfl) ⟨Nat.le_of_ble_eq_true rfl, Nat.le_of_ble_eq_true rfl⟩) (fun E9 S9 ok9 q9 => JX_out C ok9 q9 (by decide) (by decide)) (fun rv5 S3 hr6 hok4 h2 => ?_)
  have h2 := h2 hr6 hok4
  refine J_aload_n (pc := 9) C dX7_stresses_9 rfl ?_
  refine J_iconst (pc := 10) C dX7_stresses_10 ?_
  refine J_c1 (pc := 11) C (J_rV (pc := 11) C (h2 (by decide)) dX7_stresses_11 rfl rfl 0 rfl rfl (cwV 1 C.1.2.2.2.2 gX7_stresses_X7_rankOf rfl rfl rfl (by decide +kernel) ⟨Nat.le_of_ble_eq_true rfl, Nat.le_of_ble_eq_true rfl⟩) hok4 (Nat.le_of_ble_eq_true rfl) ⟨Nat.le_of_ble_eq_true rfl, Nat.le_of_ble_eq_true rfl⟩) (fun E9 S9 ok9 q9 => JX_out C ok9 q9 (by decide) (by decide)) (fun rv10 S8 hr11 hok9 h7 => ?_)
  have h7 := h7 hr11 hok9
  refine J_isub (pc := 14) C dX7_stresses_14 ?_
  obtain ⟨o12, h13⟩ := h7
  exact J_iret (pc := 15) C dX7_stresses_15 o12 hok9 h13 (by decide) (by decide)
def rmX7_thrown : Room := { frames := 0, cells := 0, slots := 0, locals := 0 }
theorem mX7_thrown_f72 : Cond.fieldLink RX7 72 "StressworkModel" "thrown" "I" ∈ wsX7_thrown := by decide +kernel
theorem nX7_thrown_X7 : ∀ x ∈ wsX70, x ∈ wsX7_thrown := by decide +kernel
def M_X7_thrown (S : St) (Qr : Int → St → Prop) (Qx : String → St → Prop) : Prop := MM 1 wM okM yX7_thrown wsX7_thrown rmX7_thrown (fun G => [.ref (G.2.2 0)]) S Qr Qx
set_option maxRecDepth 100000 in
set_option maxHeartbeats 4000000 in
theorem vc_X7_thrown {S : St} {Qr : Int → St → Prop} {Qx : String → St → Prop} (h : okM S → Qr (S 0 0) S) : M_X7_thrown S Qr Qx := by
  refine MM_of adM (by decide +kernel) rfl (Lf := fun G => [some (.ref (G.2.2 0))]) (fun G => by show _ ≤ _; exact Nat.le_of_ble_eq_true rfl) (fun G => rfl) ?_
  intro p l e s m args below meth c G A C hok
  have h := h hok
  replace C : Cx wM cX7_thrown 1 RX7 wsX7_thrown (some .int) [] p l s m args meth c G A := C
  show J wM 1 rmX7_thrown p l e s m args below meth c G A (QQ 1 wM okM G Qr Qx A below args s rmX7_thrown.cells rmX7_thrown.slots) 0 0 S [some (.ref (G.2.2 0))] [] 0
  refine J_aload_n (pc := 0) C dX7_thrown_0 rfl ?_
  refine J_get (pc := 1) C dX7_thrown_1 0 rfl rfl nX7_thrown_X7 0 (by decide) mX7_thrown_f72 rfl (v := iV (S 0 0)) rfl ?_
  exact J_iret (pc := 4) C dX7_thrown_4 (hok 0 0) hok h (by decide) (by decide)
def rmX7_unbalanced : Room := { frames := 2, cells := 0, slots := 0, locals := 48 }
theorem mX7_unbalanced_f72 : Cond.fieldLink RX7 72 "StressworkModel" "thrown" "I" ∈ wsX7_unbalanced := by decide +kernel
theorem nX7_unbalanced_X7 : ∀ x ∈ wsX70, x ∈ wsX7_unbalanced := by decide +kernel
def M_X7_unbalanced (S : St) (Qr : Int → St → Prop) (Qx : String → St → Prop) : Prop := MM 1 wM okM yX7_unbalanced wsX7_unbalanced rmX7_unbalanced (fun G => [.ref (G.2.2 0)]) S Qr Qx
set_option maxRecDepth 100000 in
set_option maxHeartbeats 4000000 in
theorem vc_X7_unbalanced {S : St} {Qr : Int → St → Prop} {Qx : String → St → Prop} (h : okM S → M_X7_unbalancedSet (up S 0 0 0) (fun rv5 S3 => r32 rv5 → okM S3 → Qr rv5 S3) Qx) : M_X7_unbalanced S Qr Qx := by
  refine MM_of adM (by decide +kernel) rfl (Lf := fun G => [some (.ref (G.2.2 0))]) (fun G => by show _ ≤ _; exact Nat.le_of_ble_eq_true rfl) (fun G => rfl) ?_
  intro p l e s m args below meth c G A C hok
  have h := h hok
  replace C : Cx wM cX7_unbalanced 1 RX7 wsX7_unbalanced (some .int) [] p l s m args meth c G A := C
  show J wM 1 rmX7_unbalanced p l e s m args below meth c G A (QQ 1 wM okM G Qr Qx A below args s rmX7_unbalanced.cells rmX7_unbalanced.slots) 0 0 S [some (.ref (G.2.2 0))] [] 0
  refine J_aload_n (pc := 0) C dX7_unbalanced_0 rfl ?_
  refine J_iconst (pc := 1) C dX7_unbalanced_1 ?_
  refine J_put (pc := 2) C dX7_unbalanced_2 0 rfl rfl nX7_unbalanced_X7 tyX7 tyX7_ok nmX7 0 (by decide) mX7_unbalanced_f72 rfl rfl (v := iV 0) rfl rfl (Nat.le_of_ble_eq_true rfl) (sM_0_0 G S 0) ?_
  have hok1 := okM_up (k := 0) (j := 0) hok (show rngM 0 0 from (by decide : r32 0))
  refine J_aload_n (pc := 5) C dX7_unbalanced_5 rfl ?_
  refine J_c1 (pc := 6) C (J_rV (pc := 6) C h dX7_unbalanced_6 rfl rfl 0 rfl rfl (cwV 0 C.1.2.2.2.2 gX7_unbalanced_X7_unbalancedSet rfl rfl rfl (by decide +kernel) ⟨Nat.le_of_ble_eq_true rfl, Nat.le_of_ble_eq_true rfl⟩) hok1 (Nat.le_of_ble_eq_true rfl) ⟨Nat.le_of_ble_eq_true rfl, Nat.le_of_ble_eq_true rfl⟩) (fun E9 S9 ok9 q9 => JX_out C ok9 q9 (by decide) (by decide)) (fun rv5 S3 hr6 hok4 h2 => ?_)
  have h2 := h2 hr6 hok4
  exact J_iret (pc := 9) C dX7_unbalanced_9 hr6 hok4 h2 (by decide) (by decide)
def rmX7_undo : Room := { frames := 2, cells := 0, slots := 0, locals := 48 }
theorem mX7_undo_f193 : Cond.fieldLink RX7 193 "StressworkModel" "steps" "I" ∈ wsX7_undo := by decide +kernel
theorem nX7_undo_X7 : ∀ x ∈ wsX70, x ∈ wsX7_undo := by decide +kernel
theorem mX7_undo_f41 : Cond.fieldLink RX7 41 "StressworkModel" "stepBar" "[I" ∈ wsX7_undo := by decide +kernel
theorem mX7_undo_f44 : Cond.fieldLink RX7 44 "StressworkModel" "stepBars" "[I" ∈ wsX7_undo := by decide +kernel
theorem mX7_undo_f76 : Cond.fieldLink RX7 76 "StressworkModel" "joints" "I" ∈ wsX7_undo := by decide +kernel
theorem mX7_undo_f47 : Cond.fieldLink RX7 47 "StressworkModel" "stepSplit" "[I" ∈ wsX7_undo := by decide +kernel
theorem mX7_undo_f23 : Cond.fieldLink RX7 23 "StressworkModel" "one" "[I" ∈ wsX7_undo := by decide +kernel
theorem mX7_undo_f26 : Cond.fieldLink RX7 26 "StressworkModel" "other" "[I" ∈ wsX7_undo := by decide +kernel
theorem mX7_undo_f35 : Cond.fieldLink RX7 35 "StressworkModel" "isGone" "[Z" ∈ wsX7_undo := by decide +kernel
def M_X7_undo (S : St) (Qr : Int → St → Prop) (Qx : String → St → Prop) : Prop := MM 1 wM okM yX7_undo wsX7_undo rmX7_undo (fun G => [.ref (G.2.2 0)]) S Qr Qx
def R_X7_undo_41 (x1 : Int) (S : St) (Qr : Int → St → Prop) (Qx : String → St → Prop) : Prop := r32 x1 → RR 1 wM okM wsX7_undo rmX7_undo cX7_undo 2 RX7 (some .int) [] 0 0 (fun G => [some (.ref (G.2.2 0)), some (iV x1)]) (fun G => []) 41 S Qr Qx
set_option maxRecDepth 100000 in
set_option maxHeartbeats 4000000 in
theorem vc_X7_undo {S : St} {Qr : Int → St → Prop} {Qx : String → St → Prop} (h : okM S → M_X7_canUndo S (fun rv4 S2 => r32 rv4 → okM S2 → ((rv4 = 0 → M_X7_holds 1 S2 (fun rv11 S9 => r32 rv11 → okM S9 → ((rv11 ≠ 0 → (r32 ((S9 0 12) - 1) ∧ (ix ((S9 0 12) - 1) 10 ∧ R_X7_undo_41 (S9 11 ((S9 0 12) - 1)) (up S9 0 12 ((S9 0 12) - 1)) Qr Qx))) ∧ (rv11 = 0 → Qr 0 S9))) Qx) ∧ (rv4 ≠ 0 → M_X7_holds 0 S2 (fun rv23 S21 => r32 rv23 → okM S21 → ((rv23 ≠ 0 → (r32 ((S21 0 12) - 1) ∧ (ix ((S21 0 12) - 1) 10 ∧ R_X7_undo_41 (S21 11 ((S21 0 12) - 1)) (up S21 0 12 ((S21 0 12) - 1)) Qr Qx))) ∧ (rv23 = 0 → Qr 0 S21))) Qx))) Qx) : M_X7_undo S Qr Qx := by
  refine MM_of adM (by decide +kernel) rfl (Lf := fun G => [some (.ref (G.2.2 0)), none]) (fun G => by show _ ≤ _; exact Nat.le_of_ble_eq_true rfl) (fun G => rfl) ?_
  intro p l e s m args below meth c G A C hok
  have h := h hok
  replace C : Cx wM cX7_undo 2 RX7 wsX7_undo (some .int) [] p l s m args meth c G A := C
  show J wM 2 rmX7_undo p l e s m args below meth c G A (QQ 1 wM okM G Qr Qx A below args s rmX7_undo.cells rmX7_undo.slots) 0 0 S [some (.ref (G.2.2 0)), none] [] 0
  refine J_aload_n (pc := 0) C dX7_undo_0 rfl ?_
  refine J_aload_n (pc := 1) C dX7_undo_1 rfl ?_
  refine J_c1 (pc := 2) C (J_rV (pc := 2) C h dX7_undo_2 rfl rfl 0 rfl rfl (cwV 0 C.1.2.2.2.2 gX7_undo_X7_canUndo rfl rfl rfl (by decide +kernel) ⟨Nat.le_of_ble_eq_true rfl, Nat.le_of_ble_eq_true rfl⟩) hok (Nat.le_of_ble_eq_true rfl) ⟨Nat.le_of_ble_eq_true rfl, Nat.le_of_ble_eq_true rfl⟩) (fun E9 S9 ok9 q9 => JX_out C ok9 q9 (by decide) (by decide)) (fun rv4 S2 hr5 hok3 h1 => ?_)
  have h1 := h1 hr5 hok3
  obtain ⟨h6, h7⟩ := h1
  refine J_if_eq (pc := 5) (tgt := 12) C dX7_undo_5 (by decide) hr5 (fun cb => ?_) (fun cb => ?_)
  · have h6 := h6 cb
    refine J_iconst (pc := 12) C dX7_undo_12 ?_
    refine J_c1 (pc := 13) C (J_rV (pc := 13) C (h6 (by decide)) dX7_undo_13 rfl rfl 0 rfl rfl (cwV 1 C.1.2.2.2.2 gX7_undo_X7_holds rfl rfl rfl (by decide +kernel) ⟨Nat.le_of_ble_eq_true rfl, Nat.le_of_ble_eq_true rfl⟩) hok3 (Nat.le_of_ble_eq_true rfl) ⟨Nat.le_of_ble_eq_true rfl, Nat.le_of_ble_eq_true rfl⟩) (fun E9 S9 ok9 q9 => JX_out C ok9 q9 (by decide) (by decide)) (fun rv11 S9 hr12 hok10 h8 => ?_)
    have h8 := h8 hr12 hok10
    obtain ⟨h13, h14⟩ := h8
    refine J_if_ne (pc := 16) (tgt := 21) C dX7_undo_16 (by decide) hr12 (fun cb => ?_) (fun cb => ?_)
    · have h13 := h13 cb
      refine J_aload_n (pc := 21) C dX7_undo_21 rfl ?_
      refine J_dup (pc := 22) C dX7_undo_22 rfl ?_
      refine J_get (pc := 23) C dX7_undo_23 0 rfl rfl nX7_undo_X7 12 (by decide) mX7_undo_f193 rfl (v := iV (S9 0 12)) rfl ?_
      refine J_iconst (pc := 26) C dX7_undo_26 ?_
      refine J_isub (pc := 27) C dX7_undo_27 ?_
      obtain ⟨o15, h16⟩ := h13
      refine J_put (pc := 28) C dX7_undo_28 0 rfl rfl nX7_undo_X7 tyX7 tyX7_ok nmX7 12 (by decide) mX7_undo_f193 rfl rfl (v := iV ((S9 0 12) - 1)) rfl rfl (Nat.le_of_ble_eq_true rfl) (sM_0_12 G S9 ((S9 0 12) - 1)) ?_
      have hok17 := okM_up (k := 0) (j := 12) hok10 (show rngM 0 ((S9 0 12) - 1) from o15)
      refine J_aload_n (pc := 31) C dX7_undo_31 rfl ?_
      refine J_get (pc := 32) C dX7_undo_32 0 rfl rfl nX7_undo_X7 14 (by decide) mX7_undo_f41 rfl (v := .ref (G.2.2 11)) rfl ?_
      refine J_aload_n (pc := 35) C dX7_undo_35 rfl ?_
      refine J_get (pc := 36) C dX7_undo_36 0 rfl rfl nX7_undo_X7 12 (by decide) mX7_undo_f193 rfl (v := iV ((S9 0 12) - 1)) rfl ?_
      obtain ⟨o18, h19⟩ := h16
      refine J_iald (pc := 39) C dX7_undo_39 11 11 rfl (by decide) o18 ?_
      refine J_istore_n (pc := 40) C dX7_undo_40 (by decide) ?_
      exact J_sub (L1 := [some (.ref (G.2.2 0)), some (iV (S9 11 ((S9 0 12) - 1)))]) ⟨rfl, ⟨rfl, trivial⟩⟩ (h19 (hok10 11 ((S9 0 12) - 1)) p l e s m args below meth c G A C hok17)
    · have h14 := h14 cb
      refine J_iconst (pc := 19) C dX7_undo_19 ?_
      exact J_iret (pc := 20) C dX7_undo_20 (by decide) hok10 h14 (by decide) (by decide)
  · have h7 := h7 cb
    refine J_iconst (pc := 8) C dX7_undo_8 ?_
    refine J_goto (pc := 9) (tgt := 13) C dX7_undo_9 (by decide) ?_
    refine J_c1 (pc := 13) C (J_rV (pc := 13) C (h7 (by decide)) dX7_undo_13 rfl rfl 0 rfl rfl (cwV 1 C.1.2.2.2.2 gX7_undo_X7_holds rfl rfl rfl (by decide +kernel) ⟨Nat.le_of_ble_eq_true rfl, Nat.le_of_ble_eq_true rfl⟩) hok3 (Nat.le_of_ble_eq_true rfl) ⟨Nat.le_of_ble_eq_true rfl, Nat.le_of_ble_eq_true rfl⟩) (fun E9 S9 ok9 q9 => JX_out C ok9 q9 (by decide) (by decide)) (fun rv23 S21 hr24 hok22 h20 => ?_)
    have h20 := h20 hr24 hok22
    obtain ⟨h25, h26⟩ := h20
    refine J_if_ne (pc := 16) (tgt := 21) C dX7_undo_16 (by decide) hr24 (fun cb => ?_) (fun cb => ?_)
    · have h25 := h25 cb
      refine J_aload_n (pc := 21) C dX7_undo_21 rfl ?_
      refine J_dup (pc := 22) C dX7_undo_22 rfl ?_
      refine J_get (pc := 23) C dX7_undo_23 0 rfl rfl nX7_undo_X7 12 (by decide) mX7_undo_f193 rfl (v := iV (S21 0 12)) rfl ?_
      refine J_iconst (pc := 26) C dX7_undo_26 ?_
      refine J_isub (pc := 27) C dX7_undo_27 ?_
      obtain ⟨o27, h28⟩ := h25
      refine J_put (pc := 28) C dX7_undo_28 0 rfl rfl nX7_undo_X7 tyX7 tyX7_ok nmX7 12 (by decide) mX7_undo_f193 rfl rfl (v := iV ((S21 0 12) - 1)) rfl rfl (Nat.le_of_ble_eq_true rfl) (sM_0_12 G S21 ((S21 0 12) - 1)) ?_
      have hok29 := okM_up (k := 0) (j := 12) hok22 (show rngM 0 ((S21 0 12) - 1) from o27)
      refine J_aload_n (pc := 31) C dX7_undo_31 rfl ?_
      refine J_get (pc := 32) C dX7_undo_32 0 rfl rfl nX7_undo_X7 14 (by decide) mX7_undo_f41 rfl (v := .ref (G.2.2 11)) rfl ?_
      refine J_aload_n (pc := 35) C dX7_undo_35 rfl ?_
      refine J_get (pc := 36) C dX7_undo_36 0 rfl rfl nX7_undo_X7 12 (by decide) mX7_undo_f193 rfl (v := iV ((S21 0 12) - 1)) rfl ?_
      obtain ⟨o30, h31⟩ := h28
      refine J_iald (pc := 39) C dX7_undo_39 11 11 rfl (by decide) o30 ?_
      refine J_istore_n (pc := 40) C dX7_undo_40 (by decide) ?_
      exact J_sub (L1 := [some (.ref (G.2.2 0)), some (iV (S21 11 ((S21 0 12) - 1)))]) ⟨rfl, ⟨rfl, trivial⟩⟩ (h31 (hok22 11 ((S21 0 12) - 1)) p l e s m args below meth c G A C hok29)
    · have h26 := h26 cb
      refine J_iconst (pc := 19) C dX7_undo_19 ?_
      exact J_iret (pc := 20) C dX7_undo_20 (by decide) hok22 h26 (by decide) (by decide)
set_option maxRecDepth 100000 in
set_option maxHeartbeats 4000000 in
theorem vc_X7_undo_41 {x1 : Int} {S : St} {Qr : Int → St → Prop} {Qx : String → St → Prop} (h : r32 x1 → okM S → (ix (S 0 12) 10 ∧ (r32 ((S 11 (S 0 12)) + (S 12 (S 0 12))) ∧ ((((S 11 (S 0 12)) + (S 12 (S 0 12))) ≤ x1 → (r32 ((S 0 1) - 1) ∧ (((S 13 (S 0 12)) = (-1) → Qr (S 0 12) (up S 0 1 ((S 0 1) - 1))) ∧ ((S 13 (S 0 12)) ≠ (-1) → (ix (S 13 (S 0 12)) 40 ∧ M_X7_between (S 5 (S 13 (S 0 12))) (S 6 (S 13 (S 0 12))) (up S 0 1 ((S 0 1) - 1)) (fun rv17 S15 => r32 rv17 → okM S15 → ((rv17 ≠ (-1) → Qr (S15 0 12) S15) ∧ (rv17 = (-1) → Qr (S15 0 12) (up S15 9 (S 13 (S 0 12)) 0)))) Qx))))) ∧ (x1 < ((S 11 (S 0 12)) + (S 12 (S 0 12))) → (ix x1 40 ∧ (r32 (x1 + 1) ∧ R_X7_undo_41 (x1 + 1) (up S 9 x1 1) Qr Qx))))))) : R_X7_undo_41 x1 S Qr Qx := by
  intro rx1
  intro p l e s m args below meth c G A C hok
  have h := h rx1 hok
  replace C : Cx wM cX7_undo 2 RX7 wsX7_undo (some .int) [] p l s m args meth c G A := C
  show J wM 2 rmX7_undo p l e s m args below meth c G A (QQ 1 wM okM G Qr Qx A below args s rmX7_undo.cells rmX7_undo.slots) 0 0 S [some (.ref (G.2.2 0)), some (iV x1)] [] 41
  refine J_iload_n (pc := 41) C dX7_undo_41 rfl ?_
  refine J_aload_n (pc := 42) C dX7_undo_42 rfl ?_
  refine J_get (pc := 43) C dX7_undo_43 0 rfl rfl nX7_undo_X7 14 (by decide) mX7_undo_f41 rfl (v := .ref (G.2.2 11)) rfl ?_
  refine J_aload_n (pc := 46) C dX7_undo_46 rfl ?_
  refine J_get (pc := 47) C dX7_undo_47 0 rfl rfl nX7_undo_X7 12 (by decide) mX7_undo_f193 rfl (v := iV (S 0 12)) rfl ?_
  obtain ⟨o1, h2⟩ := h
  refine J_iald (pc := 50) C dX7_undo_50 11 11 rfl (by decide) o1 ?_
  refine J_aload_n (pc := 51) C dX7_undo_51 rfl ?_
  refine J_get (pc := 52) C dX7_undo_52 0 rfl rfl nX7_undo_X7 15 (by decide) mX7_undo_f44 rfl (v := .ref (G.2.2 12)) rfl ?_
  refine J_aload_n (pc := 55) C dX7_undo_55 rfl ?_
  refine J_get (pc := 56) C dX7_undo_56 0 rfl rfl nX7_undo_X7 12 (by decide) mX7_undo_f193 rfl (v := iV (S 0 12)) rfl ?_
  refine J_iald (pc := 59) C dX7_undo_59 12 12 rfl (by decide) o1 ?_
  refine J_iadd (pc := 60) C dX7_undo_60 ?_
  obtain ⟨o3, h4⟩ := h2
  obtain ⟨h5, h6⟩ := h4
  refine J_icmp_ge (pc := 61) (tgt := 77) C dX7_undo_61 (by decide) rx1 o3 (fun cb => ?_) (fun cb => ?_)
  · have h5 := h5 cb
    refine J_aload_n (pc := 77) C dX7_undo_77 rfl ?_
    refine J_dup (pc := 78) C dX7_undo_78 rfl ?_
    refine J_get (pc := 79) C dX7_undo_79 0 rfl rfl nX7_undo_X7 1 (by decide) mX7_undo_f76 rfl (v := iV (S 0 1)) rfl ?_
    refine J_iconst (pc := 82) C dX7_undo_82 ?_
    refine J_isub (pc := 83) C dX7_undo_83 ?_
    obtain ⟨o7, h8⟩ := h5
    refine J_put (pc := 84) C dX7_undo_84 0 rfl rfl nX7_undo_X7 tyX7 tyX7_ok nmX7 1 (by decide) mX7_undo_f76 rfl rfl (v := iV ((S 0 1) - 1)) rfl rfl (Nat.le_of_ble_eq_true rfl) (sM_0_1 G S ((S 0 1) - 1)) ?_
    have hok9 := okM_up (k := 0) (j := 1) hok (show rngM 0 ((S 0 1) - 1) from o7)
    refine J_aload_n (pc := 87) C dX7_undo_87 rfl ?_
    refine J_get (pc := 88) C dX7_undo_88 0 rfl rfl nX7_undo_X7 16 (by decide) mX7_undo_f47 rfl (v := .ref (G.2.2 13)) rfl ?_
    refine J_aload_n (pc := 91) C dX7_undo_91 rfl ?_
    refine J_get (pc := 92) C dX7_undo_92 0 rfl rfl nX7_undo_X7 12 (by decide) mX7_undo_f193 rfl (v := iV (S 0 12)) rfl ?_
    refine J_iald (pc := 95) C dX7_undo_95 13 13 rfl (by decide) o1 ?_
    refine J_istore_n (pc := 96) C dX7_undo_96 (by decide) ?_
    refine J_iload_n (pc := 97) C dX7_undo_97 rfl ?_
    refine J_iconst (pc := 98) C dX7_undo_98 ?_
    obtain ⟨h10, h11⟩ := h8
    refine J_icmp_eq (pc := 99) (tgt := 129) C dX7_undo_99 (by decide) (hok 13 (S 0 12)) (by decide) (fun cb => ?_) (fun cb => ?_)
    · have h10 := h10 cb
      refine J_aload_n (pc := 129) C dX7_undo_129 rfl ?_
      refine J_get (pc := 130) C dX7_undo_130 0 rfl rfl nX7_undo_X7 12 (by decide) mX7_undo_f193 rfl (v := iV (S 0 12)) rfl ?_
      exact J_iret (pc := 133) C dX7_undo_133 (hok 0 12) hok9 h10 (by decide) (by decide)
    · have h11 := h11 cb
      refine J_aload_n (pc := 102) C dX7_undo_102 rfl ?_
      refine J_aload_n (pc := 103) C dX7_undo_103 rfl ?_
      refine J_get (pc := 104) C dX7_undo_104 0 rfl rfl nX7_undo_X7 7 (by decide) mX7_undo_f23 rfl (v := .ref (G.2.2 5)) rfl ?_
      refine J_iload_n (pc := 107) C dX7_undo_107 rfl ?_
      obtain ⟨o12, h13⟩ := h11
      refine J_iald (pc := 108) C dX7_undo_108 5 5 rfl (by decide) o12 ?_
      refine J_aload_n (pc := 109) C dX7_undo_109 rfl ?_
      refine J_get (pc := 110) C dX7_undo_110 0 rfl rfl nX7_undo_X7 8 (by decide) mX7_undo_f26 rfl (v := .ref (G.2.2 6)) rfl ?_
      refine J_iload_n (pc := 113) C dX7_undo_113 rfl ?_
      refine J_iald (pc := 114) C dX7_undo_114 6 6 rfl (by decide) o12 ?_
      refine J_c1 (pc := 115) C (J_rV (pc := 115) C (h13 (hok 5 (S 13 (S 0 12))) (hok 6 (S 13 (S 0 12)))) dX7_undo_115 rfl rfl 0 rfl rfl (cwV 2 C.1.2.2.2.2 gX7_undo_X7_between rfl rfl rfl (by decide +kernel) ⟨Nat.le_of_ble_eq_true rfl, Nat.le_of_ble_eq_true rfl⟩) hok9 (Nat.le_of_ble_eq_true rfl) ⟨Nat.le_of_ble_eq_true rfl, Nat.le_of_ble_eq_true rfl⟩) (fun E9 S9 ok9 q9 => JX_out C ok9 q9 (by decide) (by decide)) (fun rv17 S15 hr18 hok16 h14 => ?_)
      have h14 := h14 hr18 hok16
      refine J_iconst (pc := 118) C dX7_undo_118 ?_
      obtain ⟨h19, h20⟩ := h14
      refine J_icmp_ne (pc := 119) (tgt := 129) C dX7_undo_119 (by decide) hr18 (by decide) (fun cb => ?_) (fun cb => ?_)
      · have h19 := h19 cb
        refine J_aload_n (pc := 129) C dX7_undo_129 rfl ?_
        refine J_get (pc := 130) C dX7_undo_130 0 rfl rfl nX7_undo_X7 12 (by decide) mX7_undo_f193 rfl (v := iV (S15 0 12)) rfl ?_
        exact J_iret (pc := 133) C dX7_undo_133 (hok16 0 12) hok16 h19 (by decide) (by decide)
      · have h20 := h20 cb
        refine J_aload_n (pc := 122) C dX7_undo_122 rfl ?_
        refine J_get (pc := 123) C dX7_undo_123 0 rfl rfl nX7_undo_X7 11 (by decide) mX7_undo_f35 rfl (v := .ref (G.2.2 9)) rfl ?_
        refine J_iload_n (pc := 126) C dX7_undo_126 rfl ?_
        refine J_iconst (pc := 127) C dX7_undo_127 ?_
        refine J_zast (pc := 128) C dX7_undo_128 9 9 rfl (by decide) o12 (by decide) (sM_9 G S15 (S 13 (S 0 12)) 0) ?_
        have hok21 := okM_up (k := 9) (j := (S 13 (S 0 12))) hok16 (show rngM 9 0 from (by decide : (0:Int) ≤ 0 ∧ (0:Int) ≤ 1))
        refine J_aload_n (pc := 129) C dX7_undo_129 rfl ?_
        refine J_get (pc := 130) C dX7_undo_130 0 rfl rfl nX7_undo_X7 12 (by decide) mX7_undo_f193 rfl (v := iV (S15 0 12)) rfl ?_
        exact J_iret (pc := 133) C dX7_undo_133 (hok16 0 12) hok21 h20 (by decide) (by decide)
  · have h6 := h6 cb
    refine J_aload_n (pc := 64) C dX7_undo_64 rfl ?_
    refine J_get (pc := 65) C dX7_undo_65 0 rfl rfl nX7_undo_X7 11 (by decide) mX7_undo_f35 rfl (v := .ref (G.2.2 9)) rfl ?_
    refine J_iload_n (pc := 68) C dX7_undo_68 rfl ?_
    refine J_iconst (pc := 69) C dX7_undo_69 ?_
    obtain ⟨o22, h23⟩ := h6
    refine J_zast (pc := 70) C dX7_undo_70 9 9 rfl (by decide) o22 (by decide) (sM_9 G S x1 1) ?_
    have hok24 := okM_up (k := 9) (j := x1) hok (show rngM 9 1 from (by decide : (0:Int) ≤ 1 ∧ (1:Int) ≤ 1))
    refine J_iinc (pc := 71) C dX7_undo_71 rfl (by decide) ?_
    refine J_goto (pc := 74) (tgt := 41) C dX7_undo_74 (by decide) ?_
    obtain ⟨o25, h26⟩ := h23
    exact J_sub (L1 := [some (.ref (G.2.2 0)), some (iV (x1 + 1))]) ⟨rfl, ⟨rfl, trivial⟩⟩ (h26 o25 p l e s m args below meth c G A C hok24)
