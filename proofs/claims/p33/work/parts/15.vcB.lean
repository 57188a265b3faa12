def rmX4_hasBoth : Room := { frames := 0, cells := 0, slots := 0, locals := 0 }
theorem mX4_hasBoth_f9 : Cond.fieldLink RX4 9 "Stresswork$Pebbles" "leadsTo" "[I" ∈ wsX4_hasBoth := by decide +kernel
theorem nX4_hasBoth_X4 : ∀ x ∈ wsX40, x ∈ wsX4_hasBoth := by decide +kernel
def M_X4_hasBoth (a0 : Int) (S : St) (Qr : Int → St → Prop) (Qx : String → St → Prop) : Prop := r32 a0 → MM 1 wC okC yX4_hasBoth wsX4_hasBoth rmX4_hasBoth (fun G => [.ref (G.2.2 6), iV a0]) S Qr Qx
set_option maxRecDepth 100000 in
set_option maxHeartbeats 4000000 in
theorem vc_X4_hasBoth {a0 : Int} {S : St} {Qr : Int → St → Prop} {Qx : String → St → Prop} (h : r32 a0 → okC S → (ix (2 * a0) 20 ∧ (((S 24 (2 * a0)) ≠ (-1) → Qr 0 S) ∧ ((S 24 (2 * a0)) = (-1) → (ix ((2 * a0) + 1) 20 ∧ (((S 24 ((2 * a0) + 1)) ≠ (-1) → Qr 0 S) ∧ ((S 24 ((2 * a0) + 1)) = (-1) → Qr 1 S))))))) : M_X4_hasBoth a0 S Qr Qx := by
  intro ra0
  refine MM_of adC (by decide +kernel) rfl (Lf := fun G => [some (.ref (G.2.2 6)), some (iV a0)]) (fun G => by show _ ≤ _; exact Nat.le_of_ble_eq_true rfl) (fun G => rfl) ?_
  intro p l e s m args below meth c G A C hok
  have h := h ra0 hok
  replace C : Cx wC cX4_hasBoth 2 RX4 wsX4_hasBoth (some .boolean) [] p l s m args meth c G A := C
  show J wC 2 rmX4_hasBoth p l e s m args below meth c G A (QQ 1 wC okC G Qr Qx A below args s rmX4_hasBoth.cells rmX4_hasBoth.slots) 0 0 S [some (.ref (G.2.2 6)), some (iV a0)] [] 0
  refine J_aload_n (pc := 0) C dX4_hasBoth_0 rfl ?_
  refine J_get (pc := 1) C dX4_hasBoth_1 6 rfl rfl nX4_hasBoth_X4 0 (by decide) mX4_hasBoth_f9 rfl (v := .ref (G.2.2 24)) rfl ?_
  refine J_iconst (pc := 4) C dX4_hasBoth_4 ?_
  refine J_iload_n (pc := 5) C dX4_hasBoth_5 rfl ?_
  refine J_imul (pc := 6) C dX4_hasBoth_6 ?_
  obtain ⟨o1, h2⟩ := h
  refine J_iald (pc := 7) C dX4_hasBoth_7 24 24 rfl (by decide) o1 ?_
  refine J_iconst (pc := 8) C dX4_hasBoth_8 ?_
  obtain ⟨h3, h4⟩ := h2
  refine J_icmp_ne (pc := 9) (tgt := 30) C dX4_hasBoth_9 (by decide) (hok 24 (2 * a0)) (by decide) (fun cb => ?_) (fun cb => ?_)
  · have h3 := h3 cb
    refine J_iconst (pc := 30) C dX4_hasBoth_30 ?_
    exact J_zret (pc := 31) C dX4_hasBoth_31 (by decide) hok h3 (by decide) (by decide)
  · have h4 := h4 cb
    refine J_aload_n (pc := 12) C dX4_hasBoth_12 rfl ?_
    refine J_get (pc := 13) C dX4_hasBoth_13 6 rfl rfl nX4_hasBoth_X4 0 (by decide) mX4_hasBoth_f9 rfl (v := .ref (G.2.2 24)) rfl ?_
    refine J_iconst (pc := 16) C dX4_hasBoth_16 ?_
    refine J_iload_n (pc := 17) C dX4_hasBoth_17 rfl ?_
    refine J_imul (pc := 18) C dX4_hasBoth_18 ?_
    refine J_iconst (pc := 19) C dX4_hasBoth_19 ?_
    refine J_iadd (pc := 20) C dX4_hasBoth_20 ?_
    obtain ⟨o5, h6⟩ := h4
    refine J_iald (pc := 21) C dX4_hasBoth_21 24 24 rfl (by decide) o5 ?_
    refine J_iconst (pc := 22) C dX4_hasBoth_22 ?_
    obtain ⟨h7, h8⟩ := h6
    refine J_icmp_ne (pc := 23) (tgt := 30) C dX4_hasBoth_23 (by decide) (hok 24 ((2 * a0) + 1)) (by decide) (fun cb => ?_) (fun cb => ?_)
    · have h7 := h7 cb
      refine J_iconst (pc := 30) C dX4_hasBoth_30 ?_
      exact J_zret (pc := 31) C dX4_hasBoth_31 (by decide) hok h7 (by decide) (by decide)
    · have h8 := h8 cb
      refine J_iconst (pc := 26) C dX4_hasBoth_26 ?_
      refine J_goto (pc := 27) (tgt := 31) C dX4_hasBoth_27 (by decide) ?_
      exact J_zret (pc := 31) C dX4_hasBoth_31 (by decide) hok h8 (by decide) (by decide)
def rmX6_hasBit : Room := { frames := 0, cells := 0, slots := 0, locals := 0 }
def M_X6_hasBit (a0 a1 : Int) (S : St) (Qr : Int → St → Prop) (Qx : String → St → Prop) : Prop := r64 a0 → r32 a1 → MM 1 wC okC yX6_hasBit wsX6_hasBit rmX6_hasBit (fun G => [lV a0, iV a1]) S Qr Qx
set_option maxRecDepth 100000 in
set_option maxHeartbeats 4000000 in
theorem vc_X6_hasBit {a0 a1 : Int} {S : St} {Qr : Int → St → Prop} {Qx : String → St → Prop} (h : r64 a0 → r32 a1 → okC S → (((yand (yshr a0 a1) 1) ≠ 1 → Qr 0 S) ∧ ((yand (yshr a0 a1) 1) = 1 → Qr 1 S))) : M_X6_hasBit a0 a1 S Qr Qx := by
  intro ra0 ra1
  refine MM_of adC (by decide +kernel) rfl (Lf := fun G => [some (lV a0), none, some (iV a1)]) (fun G => by show _ ≤ _; exact Nat.le_of_ble_eq_true rfl) (fun G => rfl) ?_
  intro p l e s m args below meth c G A C hok
  have h := h ra0 ra1 hok
  replace C : Cx wC cX6_hasBit 3 RX6 wsX6_hasBit (some .boolean) [] p l s m args meth c G A := C
  show J wC 3 rmX6_hasBit p l e s m args below meth c G A (QQ 1 wC okC G Qr Qx A below args s rmX6_hasBit.cells rmX6_hasBit.slots) 0 0 S [some (lV a0), none, some (iV a1)] [] 0
  refine J_lload_n (pc := 0) C dX6_hasBit_0 rfl ?_
  refine J_iload_n (pc := 1) C dX6_hasBit_1 rfl ?_
  refine J_lshr (pc := 2) C dX6_hasBit_2 ?_
  refine J_lconst (pc := 3) C dX6_hasBit_3 ?_
  refine J_land (pc := 4) C dX6_hasBit_4 ?_
  refine J_lconst (pc := 5) C dX6_hasBit_5 ?_
  obtain ⟨h1, h2⟩ := h
  refine J_lcmp_ne (pc := 6) (tgt := 14) C dX6_hasBit_6 dX6_hasBit_7 (by decide) (r_yand _ _) (by decide) (fun cb => ?_) (fun cb => ?_)
  · have h1 := h1 cb
    refine J_iconst (pc := 14) C dX6_hasBit_14 ?_
    exact J_zret (pc := 15) C dX6_hasBit_15 (by decide) hok h1 (by decide) (by decide)
  · have h2 := h2 cb
    refine J_iconst (pc := 10) C dX6_hasBit_10 ?_
    refine J_goto (pc := 11) (tgt := 15) C dX6_hasBit_11 (by decide) ?_
    exact J_zret (pc := 15) C dX6_hasBit_15 (by decide) hok h2 (by decide) (by decide)
def rmX4_freePebble : Room := { frames := 0, cells := 0, slots := 0, locals := 0 }
theorem mX4_freePebble_f9 : Cond.fieldLink RX4 9 "Stresswork$Pebbles" "leadsTo" "[I" ∈ wsX4_freePebble := by decide +kernel
theorem nX4_freePebble_X4 : ∀ x ∈ wsX40, x ∈ wsX4_freePebble := by decide +kernel
def M_X4_freePebble (a0 : Int) (S : St) (Qr : Int → St → Prop) (Qx : String → St → Prop) : Prop := r32 a0 → MM 1 wC okC yX4_freePebble wsX4_freePebble rmX4_freePebble (fun G => [.ref (G.2.2 6), iV a0]) S Qr Qx
set_option maxRecDepth 100000 in
set_option maxHeartbeats 4000000 in
theorem vc_X4_freePebble {a0 : Int} {S : St} {Qr : Int → St → Prop} {Qx : String → St → Prop} (h : r32 a0 → okC S → (ix (2 * a0) 20 ∧ (((S 24 (2 * a0)) ≠ (-1) → (ix ((2 * a0) + 1) 20 ∧ (((S 24 ((2 * a0) + 1)) ≠ (-1) → Qr (-1) S) ∧ ((S 24 ((2 * a0) + 1)) = (-1) → (r32 ((2 * a0) + 1) ∧ Qr ((2 * a0) + 1) S))))) ∧ ((S 24 (2 * a0)) = (-1) → (r32 (2 * a0) ∧ Qr (2 * a0) S))))) : M_X4_freePebble a0 S Qr Qx := by
  intro ra0
  refine MM_of adC (by decide +kernel) rfl (Lf := fun G => [some (.ref (G.2.2 6)), some (iV a0)]) (fun G => by show _ ≤ _; exact Nat.le_of_ble_eq_true rfl) (fun G => rfl) ?_
  intro p l e s m args below meth c G A C hok
  have h := h ra0 hok
  replace C : Cx wC cX4_freePebble 2 RX4 wsX4_freePebble (some .int) [] p l s m args meth c G A := C
  show J wC 2 rmX4_freePebble p l e s m args below meth c G A (QQ 1 wC okC G Qr Qx A below args s rmX4_freePebble.cells rmX4_freePebble.slots) 0 0 S [some (.ref (G.2.2 6)), some (iV a0)] [] 0
  refine J_aload_n (pc := 0) C dX4_freePebble_0 rfl ?_
  refine J_get (pc := 1) C dX4_freePebble_1 6 rfl rfl nX4_freePebble_X4 0 (by decide) mX4_freePebble_f9 rfl (v := .ref (G.2.2 24)) rfl ?_
  refine J_iconst (pc := 4) C dX4_freePebble_4 ?_
  refine J_iload_n (pc := 5) C dX4_freePebble_5 rfl ?_
  refine J_imul (pc := 6) C dX4_freePebble_6 ?_
  obtain ⟨o1, h2⟩ := h
  refine J_iald (pc := 7) C dX4_freePebble_7 24 24 rfl (by decide) o1 ?_
  refine J_iconst (pc := 8) C dX4_freePebble_8 ?_
  obtain ⟨h3, h4⟩ := h2
  refine J_icmp_ne (pc := 9) (tgt := 16) C dX4_freePebble_9 (by decide) (hok 24 (2 * a0)) (by decide) (fun cb => ?_) (fun cb => ?_)
  · have h3 := h3 cb
    refine J_aload_n (pc := 16) C dX4_freePebble_16 rfl ?_
    refine J_get (pc := 17) C dX4_freePebble_17 6 rfl rfl nX4_freePebble_X4 0 (by decide) mX4_freePebble_f9 rfl (v := .ref (G.2.2 24)) rfl ?_
    refine J_iconst (pc := 20) C dX4_freePebble_20 ?_
    refine J_iload_n (pc := 21) C dX4_freePebble_21 rfl ?_
    refine J_imul (pc := 22) C dX4_freePebble_22 ?_
    refine J_iconst (pc := 23) C dX4_freePebble_23 ?_
    refine J_iadd (pc := 24) C dX4_freePebble_24 ?_
    obtain ⟨o5, h6⟩ := h3
    refine J_iald (pc := 25) C dX4_freePebble_25 24 24 rfl (by decide) o5 ?_
    refine J_iconst (pc := 26) C dX4_freePebble_26 ?_
    obtain ⟨h7, h8⟩ := h6
    refine J_icmp_ne (pc := 27) (tgt := 38) C dX4_freePebble_27 (by decide) (hok 24 ((2 * a0) + 1)) (by decide) (fun cb => ?_) (fun cb => ?_)
    · have h7 := h7 cb
      refine J_iconst (pc := 38) C dX4_freePebble_38 ?_
      exact J_iret (pc := 39) C dX4_freePebble_39 (by decide) hok h7 (by decide) (by decide)
    · have h8 := h8 cb
      refine J_iconst (pc := 30) C dX4_freePebble_30 ?_
      refine J_iload_n (pc := 31) C dX4_freePebble_31 rfl ?_
      refine J_imul (pc := 32) C dX4_freePebble_32 ?_
      refine J_iconst (pc := 33) C dX4_freePebble_33 ?_
      refine J_iadd (pc := 34) C dX4_freePebble_34 ?_
      refine J_goto (pc := 35) (tgt := 39) C dX4_freePebble_35 (by decide) ?_
      obtain ⟨o9, h10⟩ := h8
      exact J_iret (pc := 39) C dX4_freePebble_39 o9 hok h10 (by decide) (by decide)
  · have h4 := h4 cb
    refine J_iconst (pc := 12) C dX4_freePebble_12 ?_
    refine J_iload_n (pc := 13) C dX4_freePebble_13 rfl ?_
    refine J_imul (pc := 14) C dX4_freePebble_14 ?_
    obtain ⟨o11, h12⟩ := h4
    exact J_iret (pc := 15) C dX4_freePebble_15 o11 hok h12 (by decide) (by decide)
def rmX4_passBack : Room := { frames := 0, cells := 0, slots := 0, locals := 0 }
theorem mX4_passBack_f15 : Cond.fieldLink RX4 15 "Stresswork$Pebbles" "cameBy" "[I" ∈ wsX4_passBack := by decide +kernel
theorem nX4_passBack_X4 : ∀ x ∈ wsX40, x ∈ wsX4_passBack := by decide +kernel
theorem mX4_passBack_f9 : Cond.fieldLink RX4 9 "Stresswork$Pebbles" "leadsTo" "[I" ∈ wsX4_passBack := by decide +kernel
def M_X4_passBack (a0 a1 a2 : Int) (S : St) (Qr : Int → St → Prop) (Qx : String → St → Prop) : Prop := r32 a0 → r32 a1 → r32 a2 → MM 0 wC okC yX4_passBack wsX4_passBack rmX4_passBack (fun G => [.ref (G.2.2 6), iV a0, iV a1, iV a2]) S Qr Qx
def R_X4_passBack_9 (x3 x4 x5 x6 : Int) (S : St) (Qr : Int → St → Prop) (Qx : String → St → Prop) : Prop := r32 x3 → r32 x4 → r32 x5 → r32 x6 → RR 0 wC okC wsX4_passBack rmX4_passBack cX4_passBack 8 RX4 none [] 0 0 (fun G => [some (.ref (G.2.2 6)), none, none, some (iV x3), some (iV x4), some (iV x5), some (iV x6), none]) (fun G => []) 9 S Qr Qx
set_option maxRecDepth 100000 in
set_option maxHeartbeats 4000000 in
theorem vc_X4_passBack {a0 a1 a2 : Int} {S : St} {Qr : Int → St → Prop} {Qx : String → St → Prop} (h : r32 a0 → r32 a1 → r32 a2 → okC S → R_X4_passBack_9 a2 a0 a1 0 S Qr Qx) : M_X4_passBack a0 a1 a2 S Qr Qx := by
  intro ra0 ra1 ra2
  refine MM_of adC (by decide +kernel) rfl (Lf := fun G => [some (.ref (G.2.2 6)), some (iV a0), some (iV a1), some (iV a2), none, none, none, none]) (fun G => by show _ ≤ _; exact Nat.le_of_ble_eq_true rfl) (fun G => rfl) ?_
  intro p l e s m args below meth c G A C hok
  have h := h ra0 ra1 ra2 hok
  replace C : Cx wC cX4_passBack 8 RX4 wsX4_passBack none [] p l s m args meth c G A := C
  show J wC 8 rmX4_passBack p l e s m args below meth c G A (QQ 0 wC okC G Qr Qx A below args s rmX4_passBack.cells rmX4_passBack.slots) 0 0 S [some (.ref (G.2.2 6)), some (iV a0), some (iV a1), some (iV a2), none, none, none, none] [] 0
  refine J_iload_n (pc := 0) C dX4_passBack_0 rfl ?_
  refine J_istore (pc := 1) C dX4_passBack_1 (by decide) ?_
  refine J_iload_n (pc := 3) C dX4_passBack_3 rfl ?_
  refine J_istore (pc := 4) C dX4_passBack_4 (by decide) ?_
  refine J_iconst (pc := 6) C dX4_passBack_6 ?_
  refine J_istore (pc := 7) C dX4_passBack_7 (by decide) ?_
  exact J_sub (L1 := [some (.ref (G.2.2 6)), none, none, some (iV a2), some (iV a0), some (iV a1), some (iV 0), none]) ⟨rfl, ⟨rfl, ⟨rfl, ⟨rfl, ⟨rfl, trivial⟩⟩⟩⟩⟩ (h ra2 ra0 ra1 (by decide) p l e s m args below meth c G A C hok)
set_option maxRecDepth 100000 in
set_option maxHeartbeats 4000000 in
theorem vc_X4_passBack_9 {x3 x4 x5 x6 : Int} {S : St} {Qr : Int → St → Prop} {Qx : String → St → Prop} (h : r32 x3 → r32 x4 → r32 x5 → r32 x6 → okC S → ((10 ≤ x6 → Qr 0 S) ∧ (x6 < 10 → ((x4 = x3 → Qr 0 S) ∧ (x4 ≠ x3 → (ix x4 10 ∧ (((S 25 x4) ≠ (-1) → (ix x5 20 ∧ (r32 (Int.tdiv (S 25 x4) 2) ∧ (ix (S 25 x4) 20 ∧ (r32 (x6 + 1) ∧ R_X4_passBack_9 x3 (Int.tdiv (S 25 x4) 2) (S 25 x4) (x6 + 1) (up (up S 24 x5 (Int.tdiv (S 25 x4) 2)) 24 (S 25 x4) (-1)) Qr Qx))))) ∧ ((S 25 x4) = (-1) → Qr 0 S)))))))) : R_X4_passBack_9 x3 x4 x5 x6 S Qr Qx := by
  intro rx3 rx4 rx5 rx6
  intro p l e s m args below meth c G A C hok
  have h := h rx3 rx4 rx5 rx6 hok
  replace C : Cx wC cX4_passBack 8 RX4 wsX4_passBack none [] p l s m args meth c G A := C
  show J wC 8 rmX4_passBack p l e s m args below meth c G A (QQ 0 wC okC G Qr Qx A below args s rmX4_passBack.cells rmX4_passBack.slots) 0 0 S [some (.ref (G.2.2 6)), none, none, some (iV x3), some (iV x4), some (iV x5), some (iV x6), none] [] 9
  refine J_iload (pc := 9) C dX4_passBack_9 rfl ?_
  refine J_bipush (pc := 11) C dX4_passBack_11 (by decide) ?_
  obtain ⟨h1, h2⟩ := h
  refine J_icmp_ge (pc := 13) (tgt := 73) C dX4_passBack_13 (by decide) rx6 (by decide) (fun cb => ?_) (fun cb => ?_)
  · have h1 := h1 cb
    exact J_vret (pc := 73) C dX4_passBack_73 hok h1 (by decide) (by decide)
  · have h2 := h2 cb
    refine J_iload (pc := 16) C dX4_passBack_16 rfl ?_
    refine J_iload_n (pc := 18) C dX4_passBack_18 rfl ?_
    obtain ⟨h3, h4⟩ := h2
    refine J_icmp_eq (pc := 19) (tgt := 73) C dX4_passBack_19 (by decide) rx4 rx3 (fun cb => ?_) (fun cb => ?_)
    · have h3 := h3 cb
      exact J_vret (pc := 73) C dX4_passBack_73 hok h3 (by decide) (by decide)
    · have h4 := h4 cb
      refine J_aload_n (pc := 22) C dX4_passBack_22 rfl ?_
      refine J_get (pc := 23) C dX4_passBack_23 6 rfl rfl nX4_passBack_X4 1 (by decide) mX4_passBack_f15 rfl (v := .ref (G.2.2 25)) rfl ?_
      refine J_iload (pc := 26) C dX4_passBack_26 rfl ?_
      obtain ⟨o5, h6⟩ := h4
      refine J_iald (pc := 28) C dX4_passBack_28 25 25 rfl (by decide) o5 ?_
      refine J_istore (pc := 29) C dX4_passBack_29 (by decide) ?_
      refine J_iload (pc := 31) C dX4_passBack_31 rfl ?_
      refine J_iconst (pc := 33) C dX4_passBack_33 ?_
      obtain ⟨h7, h8⟩ := h6
      refine J_icmp_ne (pc := 34) (tgt := 38) C dX4_passBack_34 (by decide) (hok 25 x4) (by decide) (fun cb => ?_) (fun cb => ?_)
      · have h7 := h7 cb
        refine J_aload_n (pc := 38) C dX4_passBack_38 rfl ?_
        refine J_get (pc := 39) C dX4_passBack_39 6 rfl rfl nX4_passBack_X4 0 (by decide) mX4_passBack_f9 rfl (v := .ref (G.2.2 24)) rfl ?_
        refine J_iload (pc := 42) C dX4_passBack_42 rfl ?_
        refine J_iload (pc := 44) C dX4_passBack_44 rfl ?_
        refine J_iconst (pc := 46) C dX4_passBack_46 ?_
        refine J_idiv (pc := 47) C dX4_passBack_47 (hok 25 x4) (by decide) (by decide) ?_
        obtain ⟨o9, h10⟩ := h7
        obtain ⟨o11, h12⟩ := h10
        refine J_iast (pc := 48) C dX4_passBack_48 24 24 rfl (by decide) o9 (sC_24 G S x5 (Int.tdiv (S 25 x4) 2)) ?_
        have hok13 := okC_up (k := 24) (j := x5) hok (show rngC 24 (Int.tdiv (S 25 x4) 2) from o11)
        refine J_aload_n (pc := 49) C dX4_passBack_49 rfl ?_
        refine J_get (pc := 50) C dX4_passBack_50 6 rfl rfl nX4_passBack_X4 0 (by decide) mX4_passBack_f9 rfl (v := .ref (G.2.2 24)) rfl ?_
        refine J_iload (pc := 53) C dX4_passBack_53 rfl ?_
        refine J_iconst (pc := 55) C dX4_passBack_55 ?_
        obtain ⟨o14, h15⟩ := h12
        refine J_iast (pc := 56) C dX4_passBack_56 24 24 rfl (by decide) o14 (sC_24 G (up S 24 x5 (Int.tdiv (S 25 x4) 2)) (S 25 x4) (-1)) ?_
        have hok16 := okC_up (k := 24) (j := (S 25 x4)) hok13 (show rngC 24 (-1) from (by decide : r32 (-1)))
        refine J_iload (pc := 57) C dX4_passBack_57 rfl ?_
        refine J_istore (pc := 59) C dX4_passBack_59 (by decide) ?_
        refine J_iload (pc := 61) C dX4_passBack_61 rfl ?_
        refine J_iconst (pc := 63) C dX4_passBack_63 ?_
        refine J_idiv (pc := 64) C dX4_passBack_64 (hok 25 x4) (by decide) (by decide) ?_
        refine J_istore (pc := 65) C dX4_passBack_65 (by decide) ?_
        refine J_iinc (pc := 67) C dX4_passBack_67 rfl (by decide) ?_
        refine J_goto (pc := 70) (tgt := 9) C dX4_passBack_70 (by decide) ?_
        obtain ⟨o17, h18⟩ := h15
        exact J_sub (L1 := [some (.ref (G.2.2 6)), none, none, some (iV x3), some (iV (Int.tdiv (S 25 x4) 2)), some (iV (S 25 x4)), some (iV (x6 + 1)), none]) ⟨rfl, ⟨rfl, ⟨rfl, ⟨rfl, ⟨rfl, trivial⟩⟩⟩⟩⟩ (h18 rx3 o11 (hok 25 x4) o17 p l e s m args below meth c G A C hok16)
      · have h8 := h8 cb
        exact J_vret (pc := 37) C dX4_passBack_37 hok h8 (by decide) (by decide)
def rmX4_fetch : Room := { frames := 1, cells := 0, slots := 0, locals := 27 }
theorem mX4_fetch_i32 : Cond.initialized RX6 ∈ wsX4_fetch := by decide +kernel
theorem mX4_fetch_s32 : Cond.static yX6_bit ∈ wsX4_fetch := by decide +kernel
theorem mX4_fetch_f18 : Cond.fieldLink RX4 18 "Stresswork$Pebbles" "queue" "[I" ∈ wsX4_fetch := by decide +kernel
theorem nX4_fetch_X4 : ∀ x ∈ wsX40, x ∈ wsX4_fetch := by decide +kernel
theorem mX4_fetch_f15 : Cond.fieldLink RX4 15 "Stresswork$Pebbles" "cameBy" "[I" ∈ wsX4_fetch := by decide +kernel
theorem mX4_fetch_f9 : Cond.fieldLink RX4 9 "Stresswork$Pebbles" "leadsTo" "[I" ∈ wsX4_fetch := by decide +kernel
theorem mX4_fetch_i36 : Cond.initialized RX6 ∈ wsX4_fetch := by decide +kernel
theorem mX4_fetch_s36 : Cond.static yX6_hasBit ∈ wsX4_fetch := by decide +kernel
def M_X4_fetch (a0 a1 : Int) (S : St) (Qr : Int → St → Prop) (Qx : String → St → Prop) : Prop := r32 a0 → r32 a1 → MM 1 wC okC yX4_fetch wsX4_fetch rmX4_fetch (fun G => [.ref (G.2.2 6), iV a0, iV a1]) S Qr Qx
def R_X4_fetch_2 (x1 x2 x3 : Int) (S : St) (Qr : Int → St → Prop) (Qx : String → St → Prop) : Prop := r32 x1 → r32 x2 → r32 x3 → RR 1 wC okC wsX4_fetch rmX4_fetch cX4_fetch 9 RX4 (some .boolean) [] 0 0 (fun G => [some (.ref (G.2.2 6)), some (iV x1), some (iV x2), some (iV x3), none, none, none, none, none]) (fun G => []) 2 S Qr Qx
def R_X4_fetch_39 (x1 x2 x3 x4 x5 : Int) (S : St) (Qr : Int → St → Prop) (Qx : String → St → Prop) : Prop := r32 x1 → r32 x2 → r32 x3 → r32 x4 → r32 x5 → RR 1 wC okC wsX4_fetch rmX4_fetch cX4_fetch 9 RX4 (some .boolean) [] 0 0 (fun G => [some (.ref (G.2.2 6)), some (iV x1), some (iV x2), some (iV x3), some (iV x4), some (iV x5), none, none, none]) (fun G => []) 39 S Qr Qx
def R_X4_fetch_64 (x1 x2 x3 x4 x5 x6 : Int) (S : St) (Qr : Int → St → Prop) (Qx : String → St → Prop) : Prop := r32 x1 → r32 x2 → r32 x3 → r32 x4 → r32 x5 → r32 x6 → RR 1 wC okC wsX4_fetch rmX4_fetch cX4_fetch 9 RX4 (some .boolean) [] 0 0 (fun G => [some (.ref (G.2.2 6)), some (iV x1), some (iV x2), some (iV x3), some (iV x4), some (iV x5), some (iV x6), none, none]) (fun G => []) 64 S Qr Qx
set_option maxRecDepth 100000 in
set_option maxHeartbeats 4000000 in
theorem vc_X4_fetch {a0 a1 : Int} {S : St} {Qr : Int → St → Prop} {Qx : String → St → Prop} (h : r32 a0 → r32 a1 → okC S → R_X4_fetch_2 a0 a1 0 S Qr Qx) : M_X4_fetch a0 a1 S Qr Qx := by
  intro ra0 ra1
  refine MM_of adC (by decide +kernel) rfl (Lf := fun G => [some (.ref (G.2.2 6)), some (iV a0), some (iV a1), none, none, none, none, none, none]) (fun G => by show _ ≤ _; exact Nat.le_of_ble_eq_true rfl) (fun G => rfl) ?_
  intro p l e s m args below meth c G A C hok
  have h := h ra0 ra1 hok
  replace C : Cx wC cX4_fetch 9 RX4 wsX4_fetch (some .boolean) [] p l s m args meth c G A := C
  show J wC 9 rmX4_fetch p l e s m args below meth c G A (QQ 1 wC okC G Qr Qx A below args s rmX4_fetch.cells rmX4_fetch.slots) 0 0 S [some (.ref (G.2.2 6)), some (iV a0), some (iV a1), none, none, none, none, none, none] [] 0
  refine J_iconst (pc := 0) C dX4_fetch_0 ?_
  refine J_istore_n (pc := 1) C dX4_fetch_1 (by decide) ?_
  exact J_sub (L1 := [some (.ref (G.2.2 6)), some (iV a0), some (iV a1), some (iV 0), none, none, none, none, none]) ⟨rfl, ⟨rfl, ⟨rfl, ⟨rfl, trivial⟩⟩⟩⟩ (h ra0 ra1 (by decide) p l e s m args below meth c G A C hok)
set_option maxRecDepth 100000 in
set_option maxHeartbeats 4000000 in
theorem vc_X4_fetch_2 {x1 x2 x3 : Int} {S : St} {Qr : Int → St → Prop} {Qx : String → St → Prop} (h : r32 x1 → r32 x2 → r32 x3 → okC S → ((10 ≤ x3 → M_X6_bit x1 S (fun rv6 S4 => r32 rv6 → okC S4 → R_X4_fetch_39 x1 x2 rv6 1 0 (up S4 26 0 x1) Qr Qx) Qx) ∧ (x3 < 10 → (ix x3 10 ∧ (r32 (x3 + 1) ∧ R_X4_fetch_2 x1 x2 (x3 + 1) (up S 25 x3 (-1)) Qr Qx))))) : R_X4_fetch_2 x1 x2 x3 S Qr Qx := by
  intro rx1 rx2 rx3
  intro p l e s m args below meth c G A C hok
  have h := h rx1 rx2 rx3 hok
  replace C : Cx wC cX4_fetch 9 RX4 wsX4_fetch (some .boolean) [] p l s m args meth c G A := C
  show J wC 9 rmX4_fetch p l e s m args below meth c G A (QQ 1 wC okC G Qr Qx A below args s rmX4_fetch.cells rmX4_fetch.slots) 0 0 S [some (.ref (G.2.2 6)), some (iV x1), some (iV x2), some (iV x3), none, none, none, none, none] [] 2
  refine J_iload_n (pc := 2) C dX4_fetch_2 rfl ?_
  refine J_bipush (pc := 3) C dX4_fetch_3 (by decide) ?_
  obtain ⟨h1, h2⟩ := h
  refine J_icmp_ge (pc := 5) (tgt := 21) C dX4_fetch_5 (by decide) rx3 (by decide) (fun cb => ?_) (fun cb => ?_)
  · have h1 := h1 cb
    refine J_iload_n (pc := 21) C dX4_fetch_21 rfl ?_
    refine J_c1 (pc := 22) C (J_rSN (pc := 22) C (h1 rx1) dX4_fetch_22 rfl rfl ⟨va_cnB 1 C.1.2.2.2.2 gX4_fetch_X6_bit_n32 rfl rfl rfl (C.2.2.2.2.2.2.1.2.2.2.1 (RX4, 32, yX6_bit) (by decide +kernel)) (C.1.2.2.2.2 _ mX4_fetch_i32) (by decide +kernel) ⟨Nat.le_of_ble_eq_true rfl, Nat.le_of_ble_eq_true rfl⟩, C.1.2.2.2.2 _ mX4_fetch_s32, trivial⟩ hok (Nat.le_of_ble_eq_true rfl) ⟨Nat.le_of_ble_eq_true rfl, Nat.le_of_ble_eq_true rfl⟩) (fun E9 S9 ok9 q9 => JX_out C ok9 q9 (by decide) (by decide)) (fun rv6 S4 hr7 hok5 h3 => ?_)
    have h3 := h3 hr7 hok5
    refine J_istore_n (pc := 25) C dX4_fetch_25 (by decide) ?_
    refine J_iconst (pc := 26) C dX4_fetch_26 ?_
    refine J_istore (pc := 27) C dX4_fetch_27 (by decide) ?_
    refine J_aload_n (pc := 29) C dX4_fetch_29 rfl ?_
    refine J_get (pc := 30) C dX4_fetch_30 6 rfl rfl nX4_fetch_X4 2 (by decide) mX4_fetch_f18 rfl (v := .ref (G.2.2 26)) rfl ?_
    refine J_iconst (pc := 33) C dX4_fetch_33 ?_
    refine J_iload_n (pc := 34) C dX4_fetch_34 rfl ?_
    refine J_iast (pc := 35) C dX4_fetch_35 26 26 rfl (by decide) (by decide) (sC_26 G S4 0 x1) ?_
    have hok8 := okC_up (k := 26) (j := 0) hok5 (show rngC 26 x1 from rx1)
    refine J_iconst (pc := 36) C dX4_fetch_36 ?_
    refine J_istore (pc := 37) C dX4_fetch_37 (by decide) ?_
    exact J_sub (L1 := [some (.ref (G.2.2 6)), some (iV x1), some (iV x2), some (iV rv6), some (iV 1), some (iV 0), none, none, none]) ⟨rfl, ⟨rfl, ⟨rfl, ⟨rfl, ⟨rfl, ⟨rfl, trivial⟩⟩⟩⟩⟩⟩ (h3 rx1 rx2 hr7 (by decide) (by decide) p l e s m args below meth c G A C hok8)
  · have h2 := h2 cb
    refine J_aload_n (pc := 8) C dX4_fetch_8 rfl ?_
    refine J_get (pc := 9) C dX4_fetch_9 6 rfl rfl nX4_fetch_X4 1 (by decide) mX4_fetch_f15 rfl (v := .ref (G.2.2 25)) rfl ?_
    refine J_iload_n (pc := 12) C dX4_fetch_12 rfl ?_
    refine J_iconst (pc := 13) C dX4_fetch_13 ?_
    obtain ⟨o9, h10⟩ := h2
    refine J_iast (pc := 14) C dX4_fetch_14 25 25 rfl (by decide) o9 (sC_25 G S x3 (-1)) ?_
    have hok11 := okC_up (k := 25) (j := x3) hok (show rngC 25 (-1) from (by decide : r32 (-1)))
    refine J_iinc (pc := 15) C dX4_fetch_15 rfl (by decide) ?_
    refine J_goto (pc := 18) (tgt := 2) C dX4_fetch_18 (by decide) ?_
    obtain ⟨o12, h13⟩ := h10
    exact J_sub (L1 := [some (.ref (G.2.2 6)), some (iV x1), some (iV x2), some (iV (x3 + 1)), none, none, none, none, none]) ⟨rfl, ⟨rfl, ⟨rfl, ⟨rfl, trivial⟩⟩⟩⟩ (h13 rx1 rx2 o12 p l e s m args below meth c G A C hok11)
set_option maxRecDepth 100000 in
set_option maxHeartbeats 4000000 in
theorem vc_X4_fetch_39 {x1 x2 x3 x4 x5 : Int} {S : St} {Qr : Int → St → Prop} {Qx : String → St → Prop} (h : r32 x1 → r32 x2 → r32 x3 → r32 x4 → r32 x5 → okC S → ((x4 ≤ x5 → Qr 0 S) ∧ (x5 < x4 → ((10 ≤ x5 → Qr 0 S) ∧ (x5 < 10 → (ix x5 10 ∧ (r32 (2 * (S 26 x5)) ∧ R_X4_fetch_64 x1 x2 x3 x4 x5 (2 * (S 26 x5)) S Qr Qx))))))) : R_X4_fetch_39 x1 x2 x3 x4 x5 S Qr Qx := by
  intro rx1 rx2 rx3 rx4 rx5
  intro p l e s m args below meth c G A C hok
  have h := h rx1 rx2 rx3 rx4 rx5 hok
  replace C : Cx wC cX4_fetch 9 RX4 wsX4_fetch (some .boolean) [] p l s m args meth c G A := C
  show J wC 9 rmX4_fetch p l e s m args below meth c G A (QQ 1 wC okC G Qr Qx A below args s rmX4_fetch.cells rmX4_fetch.slots) 0 0 S [some (.ref (G.2.2 6)), some (iV x1), some (iV x2), some (iV x3), some (iV x4), some (iV x5), none, none, none] [] 39
  refine J_iload (pc := 39) C dX4_fetch_39 rfl ?_
  refine J_iload (pc := 41) C dX4_fetch_41 rfl ?_
  obtain ⟨h1, h2⟩ := h
  refine J_icmp_ge (pc := 43) (tgt := 188) C dX4_fetch_43 (by decide) rx5 rx4 (fun cb => ?_) (fun cb => ?_)
  · have h1 := h1 cb
    refine J_iconst (pc := 188) C dX4_fetch_188 ?_
    exact J_zret (pc := 189) C dX4_fetch_189 (by decide) hok h1 (by decide) (by decide)
  · have h2 := h2 cb
    refine J_iload (pc := 46) C dX4_fetch_46 rfl ?_
    refine J_bipush (pc := 48) C dX4_fetch_48 (by decide) ?_
    obtain ⟨h3, h4⟩ := h2
    refine J_icmp_ge (pc := 50) (tgt := 188) C dX4_fetch_50 (by decide) rx5 (by decide) (fun cb => ?_) (fun cb => ?_)
    · have h3 := h3 cb
      refine J_iconst (pc := 188) C dX4_fetch_188 ?_
      exact J_zret (pc := 189) C dX4_fetch_189 (by decide) hok h3 (by decide) (by decide)
    · have h4 := h4 cb
      refine J_iconst (pc := 53) C dX4_fetch_53 ?_
      refine J_aload_n (pc := 54) C dX4_fetch_54 rfl ?_
      refine J_get (pc := 55) C dX4_fetch_55 6 rfl rfl nX4_fetch_X4 2 (by decide) mX4_fetch_f18 rfl (v := .ref (G.2.2 26)) rfl ?_
      refine J_iload (pc := 58) C dX4_fetch_58 rfl ?_
      obtain ⟨o5, h6⟩ := h4
      refine J_iald (pc := 60) C dX4_fetch_60 26 26 rfl (by decide) o5 ?_
      refine J_imul (pc := 61) C dX4_fetch_61 ?_
      refine J_istore (pc := 62) C dX4_fetch_62 (by decide) ?_
      obtain ⟨o7, h8⟩ := h6
      exact J_sub (L1 := [some (.ref (G.2.2 6)), some (iV x1), some (iV x2), some (iV x3), some (iV x4), some (iV x5), some (iV (2 * (S 26 x5))), none, none]) ⟨rfl, ⟨rfl, ⟨rfl, ⟨rfl, ⟨rfl, ⟨rfl, ⟨rfl, trivial⟩⟩⟩⟩⟩⟩⟩ (h8 rx1 rx2 rx3 rx4 rx5 o7 p l e s m args below meth c G A C hok)
set_option maxRecDepth 100000 in
set_option maxHeartbeats 4000000 in
theorem vc_X4_fetch_64 {x1 x2 x3 x4 x5 x6 : Int} {S : St} {Qr : Int → St → Prop} {Qx : String → St → Prop} (h : r32 x1 → r32 x2 → r32 x3 → r32 x4 → r32 x5 → r32 x6 → okC S → (ix x5 10 ∧ (r32 ((2 * (S 26 x5)) + 1) ∧ ((((2 * (S 26 x5)) + 1) < x6 → (r32 (x5 + 1) ∧ R_X4_fetch_39 x1 x2 x3 x4 (x5 + 1) S Qr Qx)) ∧ (x6 ≤ ((2 * (S 26 x5)) + 1) → (ix x6 20 ∧ (((S 24 x6) = (-1) → (r32 (x6 + 1) ∧ R_X4_fetch_64 x1 x2 x3 x4 x5 (x6 + 1) S Qr Qx)) ∧ ((S 24 x6) ≠ (-1) → M_X6_hasBit x3 (S 24 x6) S (fun rv18 S16 => r32 rv18 → okC S16 → ((rv18 ≠ 0 → (r32 (x6 + 1) ∧ R_X4_fetch_64 x1 x2 x3 x4 x5 (x6 + 1) S16 Qr Qx)) ∧ (rv18 = 0 → ((10 ≤ x4 → (r32 (x6 + 1) ∧ R_X4_fetch_64 x1 x2 x3 x4 x5 (x6 + 1) S16 Qr Qx)) ∧ (x4 < 10 → M_X6_bit (S 24 x6) S16 (fun rv31 S29 => r32 rv31 → okC S29 → (ix (S 24 x6) 10 ∧ (((S 24 x6) ≠ x2 → M_X4_freePebble (S 24 x6) (up S29 25 (S 24 x6) x6) (fun rv41 S39 => r32 rv41 → okC S39 → ((rv41 = (-1) → (ix x4 10 ∧ (r32 (x4 + 1) ∧ (r32 (x6 + 1) ∧ R_X4_fetch_64 x1 x2 (zor x3 rv31) (x4 + 1) x5 (x6 + 1) (up S39 26 x4 (S 24 x6)) Qr Qx)))) ∧ (rv41 ≠ (-1) → M_X4_passBack (S 24 x6) rv41 x1 S39 (fun _ S53 => okC S53 → Qr 1 S53) Qx))) Qx) ∧ ((S 24 x6) = x2 → (ix x4 10 ∧ (r32 (x4 + 1) ∧ (r32 (x6 + 1) ∧ R_X4_fetch_64 x1 x2 (zor x3 rv31) (x4 + 1) x5 (x6 + 1) (up (up S29 25 (S 24 x6) x6) 26 x4 (S 24 x6)) Qr Qx))))))) Qx))))) Qx)))))))) : R_X4_fetch_64 x1 x2 x3 x4 x5 x6 S Qr Qx := by
  intro rx1 rx2 rx3 rx4 rx5 rx6
  intro p l e s m args below meth c G A C hok
  have h := h rx1 rx2 rx3 rx4 rx5 rx6 hok
  replace C : Cx wC cX4_fetch 9 RX4 wsX4_fetch (some .boolean) [] p l s m args meth c G A := C
  show J wC 9 rmX4_fetch p l e s m args below meth c G A (QQ 1 wC okC G Qr Qx A below args s rmX4_fetch.cells rmX4_fetch.slots) 0 0 S [some (.ref (G.2.2 6)), some (iV x1), some (iV x2), some (iV x3), some (iV x4), some (iV x5), some (iV x6), none, none] [] 64
  refine J_iload (pc := 64) C dX4_fetch_64 rfl ?_
  refine J_iconst (pc := 66) C dX4_fetch_66 ?_
  refine J_aload_n (pc := 67) C dX4_fetch_67 rfl ?_
  refine J_get (pc := 68) C dX4_fetch_68 6 rfl rfl nX4_fetch_X4 2 (by decide) mX4_fetch_f18 rfl (v := .ref (G.2.2 26)) rfl ?_
  refine J_iload (pc := 71) C dX4_fetch_71 rfl ?_
  obtain ⟨o1, h2⟩ := h
  refine J_iald (pc := 73) C dX4_fetch_73 26 26 rfl (by decide) o1 ?_
  refine J_imul (pc := 74) C dX4_fetch_74 ?_
  refine J_iconst (pc := 75) C dX4_fetch_75 ?_
  refine J_iadd (pc := 76) C dX4_fetch_76 ?_
  obtain ⟨o3, h4⟩ := h2
  obtain ⟨h5, h6⟩ := h4
  refine J_icmp_gt (pc := 77) (tgt := 182) C dX4_fetch_77 (by decide) rx6 o3 (fun cb => ?_) (fun cb => ?_)
  · have h5 := h5 cb
    refine J_iinc (pc := 182) C dX4_fetch_182 rfl (by decide) ?_
    refine J_goto (pc := 185) (tgt := 39) C dX4_fetch_185 (by decide) ?_
    obtain ⟨o7, h8⟩ := h5
    exact J_sub (L1 := [some (.ref (G.2.2 6)), some (iV x1), some (iV x2), some (iV x3), some (iV x4), some (iV (x5 + 1)), none, none, none]) ⟨rfl, ⟨rfl, ⟨rfl, ⟨rfl, ⟨rfl, ⟨rfl, trivial⟩⟩⟩⟩⟩⟩ (h8 rx1 rx2 rx3 rx4 o7 p l e s m args below meth c G A C hok)
  · have h6 := h6 cb
    refine J_aload_n (pc := 80) C dX4_fetch_80 rfl ?_
    refine J_get (pc := 81) C dX4_fetch_81 6 rfl rfl nX4_fetch_X4 0 (by decide) mX4_fetch_f9 rfl (v := .ref (G.2.2 24)) rfl ?_
    refine J_iload (pc := 84) C dX4_fetch_84 rfl ?_
    obtain ⟨o9, h10⟩ := h6
    refine J_iald (pc := 86) C dX4_fetch_86 24 24 rfl (by decide) o9 ?_
    refine J_istore (pc := 87) C dX4_fetch_87 (by decide) ?_
    refine J_iload (pc := 89) C dX4_fetch_89 rfl ?_
    refine J_iconst (pc := 91) C dX4_fetch_91 ?_
    obtain ⟨h11, h12⟩ := h10
    refine J_icmp_eq (pc := 92) (tgt := 176) C dX4_fetch_92 (by decide) (hok 24 x6) (by decide) (fun cb => ?_) (fun cb => ?_)
    · have h11 := h11 cb
      refine J_iinc (pc := 176) C dX4_fetch_176 rfl (by decide) ?_
      refine J_goto (pc := 179) (tgt := 64) C dX4_fetch_179 (by decide) ?_
      obtain ⟨o13, h14⟩ := h11
      exact J_sub (L1 := [some (.ref (G.2.2 6)), some (iV x1), some (iV x2), some (iV x3), some (iV x4), some (iV x5), some (iV (x6 + 1)), none, none]) ⟨rfl, ⟨rfl, ⟨rfl, ⟨rfl, ⟨rfl, ⟨rfl, ⟨rfl, trivial⟩⟩⟩⟩⟩⟩⟩ (h14 rx1 rx2 rx3 rx4 rx5 o13 p l e s m args below meth c G A C hok)
    · have h12 := h12 cb
      refine J_iload_n (pc := 95) C dX4_fetch_95 rfl ?_
      refine J_i2l (pc := 96) C dX4_fetch_96 rx3 ?_
      refine J_iload (pc := 97) C dX4_fetch_97 rfl ?_
      refine J_c1 (pc := 99) C (J_rSN (pc := 99) C (h12 (r32_64 rx3) (hok 24 x6)) dX4_fetch_99 rfl rfl ⟨va_cnB 2 C.1.2.2.2.2 gX4_fetch_X6_hasBit_n36 rfl rfl rfl (C.2.2.2.2.2.2.1.2.2.2.1 (RX4, 36, yX6_hasBit) (by decide +kernel)) (C.1.2.2.2.2 _ mX4_fetch_i36) (by decide +kernel) ⟨Nat.le_of_ble_eq_true rfl, Nat.le_of_ble_eq_true rfl⟩, C.1.2.2.2.2 _ mX4_fetch_s36, trivial⟩ hok (Nat.le_of_ble_eq_true rfl) ⟨Nat.le_of_ble_eq_true rfl, Nat.le_of_ble_eq_true rfl⟩) (fun E9 S9 ok9 q9 => JX_out C ok9 q9 (by decide) (by decide)) (fun rv18 S16 hr19 hok17 h15 => ?_)
      have h15 := h15 hr19 hok17
      obtain ⟨h20, h21⟩ := h15
      refine J_if_ne (pc := 102) (tgt := 176) C dX4_fetch_102 (by decide) hr19 (fun cb => ?_) (fun cb => ?_)
      · have h20 := h20 cb
        refine J_iinc (pc := 176) C dX4_fetch_176 rfl (by decide) ?_
        refine J_goto (pc := 179) (tgt := 64) C dX4_fetch_179 (by decide) ?_
        obtain ⟨o22, h23⟩ := h20
        exact J_sub (L1 := [some (.ref (G.2.2 6)), some (iV x1), some (iV x2), some (iV x3), some (iV x4), some (iV x5), some (iV (x6 + 1)), none, none]) ⟨rfl, ⟨rfl, ⟨rfl, ⟨rfl, ⟨rfl, ⟨rfl, ⟨rfl, trivial⟩⟩⟩⟩⟩⟩⟩ (h23 rx1 rx2 rx3 rx4 rx5 o22 p l e s m args below meth c G A C hok17)
      · have h21 := h21 cb
        refine J_iload (pc := 105) C dX4_fetch_105 rfl ?_
        refine J_bipush (pc := 107) C dX4_fetch_107 (by decide) ?_
        obtain ⟨h24, h25⟩ := h21
        refine J_icmp_ge (pc := 109) (tgt := 176) C dX4_fetch_109 (by decide) rx4 (by decide) (fun cb => ?_) (fun cb => ?_)
        · have h24 := h24 cb
          refine J_iinc (pc := 176) C dX4_fetch_176 rfl (by decide) ?_
          refine J_goto (pc := 179) (tgt := 64) C dX4_fetch_179 (by decide) ?_
          obtain ⟨o26, h27⟩ := h24
          exact J_sub (L1 := [some (.ref (G.2.2 6)), some (iV x1), some (iV x2), some (iV x3), some (iV x4), some (iV x5), some (iV (x6 + 1)), none, none]) ⟨rfl, ⟨rfl, ⟨rfl, ⟨rfl, ⟨rfl, ⟨rfl, ⟨rfl, trivial⟩⟩⟩⟩⟩⟩⟩ (h27 rx1 rx2 rx3 rx4 rx5 o26 p l e s m args below meth c G A C hok17)
        · have h25 := h25 cb
          refine J_iload_n (pc := 112) C dX4_fetch_112 rfl ?_
          refine J_iload (pc := 113) C dX4_fetch_113 rfl ?_
          refine J_c1 (pc := 115) C (J_rSN (pc := 115) C (h25 (hok 24 x6)) dX4_fetch_115 rfl rfl ⟨va_cnB 1 C.1.2.2.2.2 gX4_fetch_X6_bit_n32 rfl rfl rfl (C.2.2.2.2.2.2.1.2.2.2.1 (RX4, 32, yX6_bit) (by decide +kernel)) (C.1.2.2.2.2 _ mX4_fetch_i32) (by decide +kernel) ⟨Nat.le_of_ble_eq_true rfl, Nat.le_of_ble_eq_true rfl⟩, C.1.2.2.2.2 _ mX4_fetch_s32, trivial⟩ hok17 (Nat.le_of_ble_eq_true rfl) ⟨Nat.le_of_ble_eq_true rfl, Nat.le_of_ble_eq_true rfl⟩) (fun E9 S9 ok9 q9 => JX_out C ok9 q9 (by decide) (by decide)) (fun rv31 S29 hr32 hok30 h28 => ?_)
          have h28 := h28 hr32 hok30
          refine J_ior (pc := 118) C dX4_fetch_118 ?_
          refine J_istore_n (pc := 119) C dX4_fetch_119 (by decide) ?_
          refine J_aload_n (pc := 120) C dX4_fetch_120 rfl ?_
          refine J_get (pc := 121) C dX4_fetch_121 6 rfl rfl nX4_fetch_X4 1 (by decide) mX4_fetch_f15 rfl (v := .ref (G.2.2 25)) rfl ?_
          refine J_iload (pc := 124) C dX4_fetch_124 rfl ?_
          refine J_iload (pc := 126) C dX4_fetch_126 rfl ?_
          obtain ⟨o33, h34⟩ := h28
          refine J_iast (pc := 128) C dX4_fetch_128 25 25 rfl (by decide) o33 (sC_25 G S29 (S 24 x6) x6) ?_
          have hok35 := okC_up (k := 25) (j := (S 24 x6)) hok30 (show rngC 25 x6 from rx6)
          refine J_iload (pc := 129) C dX4_fetch_129 rfl ?_
          refine J_iload_n (pc := 131) C dX4_fetch_131 rfl ?_
          obtain ⟨h36, h37⟩ := h34
          refine J_icmp_ne (pc := 132) (tgt := 139) C dX4_fetch_132 (by decide) (hok 24 x6) rx2 (fun cb => ?_) (fun cb => ?_)
          · have h36 := h36 cb
            refine J_aload_n (pc := 139) C dX4_fetch_139 rfl ?_
            refine J_iload (pc := 140) C dX4_fetch_140 rfl ?_
            refine J_c1 (pc := 142) C (J_rV (pc := 142) C (h36 (hok 24 x6)) dX4_fetch_142 rfl rfl 6 rfl rfl (cwV 1 C.1.2.2.2.2 gX4_fetch_X4_freePebble rfl rfl rfl (by decide +kernel) ⟨Nat.le_of_ble_eq_true rfl, Nat.le_of_ble_eq_true rfl⟩) hok35 (Nat.le_of_ble_eq_true rfl) ⟨Nat.le_of_ble_eq_true rfl, Nat.le_of_ble_eq_true rfl⟩) (fun E9 S9 ok9 q9 => JX_out C ok9 q9 (by decide) (by decide)) (fun rv41 S39 hr42 hok40 h38 => ?_)
            have h38 := h38 hr42 hok40
            refine J_istore (pc := 145) C dX4_fetch_145 (by decide) ?_
            refine J_iload (pc := 147) C dX4_fetch_147 rfl ?_
            refine J_iconst (pc := 149) C dX4_fetch_149 ?_
            obtain ⟨h43, h44⟩ := h38
            refine J_icmp_eq (pc := 150) (tgt := 164) C dX4_fetch_150 (by decide) hr42 (by decide) (fun cb => ?_) (fun cb => ?_)
            · have h43 := h43 cb
              refine J_aload_n (pc := 164) C dX4_fetch_164 rfl ?_
              refine J_get (pc := 165) C dX4_fetch_165 6 rfl rfl nX4_fetch_X4 2 (by decide) mX4_fetch_f18 rfl (v := .ref (G.2.2 26)) rfl ?_
              refine J_iload (pc := 168) C dX4_fetch_168 rfl ?_
              refine J_iload (pc := 170) C dX4_fetch_170 rfl ?_
              obtain ⟨o45, h46⟩ := h43
              refine J_iast (pc := 172) C dX4_fetch_172 26 26 rfl (by decide) o45 (sC_26 G S39 x4 (S 24 x6)) ?_
              have hok47 := okC_up (k := 26) (j := x4) hok40 (show rngC 26 (S 24 x6) from (hok 24 x6))
              refine J_iinc (pc := 173) C dX4_fetch_173 rfl (by decide) ?_
              refine J_iinc (pc := 176) C dX4_fetch_176 rfl (by decide) ?_
              refine J_goto (pc := 179) (tgt := 64) C dX4_fetch_179 (by decide) ?_
              obtain ⟨o48, h49⟩ := h46
              obtain ⟨o50, h51⟩ := h49
              exact J_sub (L1 := [some (.ref (G.2.2 6)), some (iV x1), some (iV x2), some (iV (zor x3 rv31)), some (iV (x4 + 1)), some (iV x5), some (iV (x6 + 1)), none, none]) ⟨rfl, ⟨rfl, ⟨rfl, ⟨rfl, ⟨rfl, ⟨rfl, ⟨rfl, trivial⟩⟩⟩⟩⟩⟩⟩ (h51 rx1 rx2 (r_zor _ _) o48 rx5 o50 p l e s m args below meth c G A C hok47)
            · have h44 := h44 cb
              refine J_aload_n (pc := 153) C dX4_fetch_153 rfl ?_
              refine J_iload (pc := 154) C dX4_fetch_154 rfl ?_
              refine J_iload (pc := 156) C dX4_fetch_156 rfl ?_
              refine J_iload_n (pc := 158) C dX4_fetch_158 rfl ?_
              refine J_c0 (pc := 159) C (J_rV (pc := 159) C (h44 (hok 24 x6) hr42 rx1) dX4_fetch_159 rfl rfl 6 rfl rfl (cwV 3 C.1.2.2.2.2 gX4_fetch_X4_passBack rfl rfl rfl (by decide +kernel) ⟨Nat.le_of_ble_eq_true rfl, Nat.le_of_ble_eq_true rfl⟩) hok40 (Nat.le_of_ble_eq_true rfl) ⟨Nat.le_of_ble_eq_true rfl, Nat.le_of_ble_eq_true rfl⟩) (fun E9 S9 ok9 q9 => JX_out C ok9 q9 (by decide) (by decide)) (fun S53 hok54 h52 => ?_)
              have h52 := h52 hok54
              refine J_iconst (pc := 162) C dX4_fetch_162 ?_
              exact J_zret (pc := 163) C dX4_fetch_163 (by decide) hok54 h52 (by decide) (by decide)
          · have h37 := h37 cb
            refine J_iconst (pc := 135) C dX4_fetch_135 ?_
            refine J_goto (pc := 136) (tgt := 145) C dX4_fetch_136 (by decide) ?_
            refine J_istore (pc := 145) C dX4_fetch_145 (by decide) ?_
            refine J_iload (pc := 147) C dX4_fetch_147 rfl ?_
            refine J_iconst (pc := 149) C dX4_fetch_149 ?_
            refine J_icmp_eq (pc := 150) (tgt := 164) C dX4_fetch_150 (by decide) (by decide) (by decide) (fun _ => ?_) (fun cb => absurd cb (by decide))
            refine J_aload_n (pc := 164) C dX4_fetch_164 rfl ?_
            refine J_get (pc := 165) C dX4_fetch_165 6 rfl rfl nX4_fetch_X4 2 (by decide) mX4_fetch_f18 rfl (v := .ref (G.2.2 26)) rfl ?_
            refine J_iload (pc := 168) C dX4_fetch_168 rfl ?_
            refine J_iload (pc := 170) C dX4_fetch_170 rfl ?_
            obtain ⟨o57, h58⟩ := h37
            refine J_iast (pc := 172) C dX4_fetch_172 26 26 rfl (by decide) o57 (sC_26 G (up S29 25 (S 24 x6) x6) x4 (S 24 x6)) ?_
            have hok59 := okC_up (k := 26) (j := x4) hok35 (show rngC 26 (S 24 x6) from (hok 24 x6))
            refine J_iinc (pc := 173) C dX4_fetch_173 rfl (by decide) ?_
            refine J_iinc (pc := 176) C dX4_fetch_176 rfl (by decide) ?_
            refine J_goto (pc := 179) (tgt := 64) C dX4_fetch_179 (by decide) ?_
            obtain ⟨o60, h61⟩ := h58
            obtain ⟨o62, h63⟩ := h61
            exact J_sub (L1 := [some (.ref (G.2.2 6)), some (iV x1), some (iV x2), some (iV (zor x3 rv31)), some (iV (x4 + 1)), some (iV x5), some (iV (x6 + 1)), none, none]) ⟨rfl, ⟨rfl, ⟨rfl, ⟨rfl, ⟨rfl, ⟨rfl, ⟨rfl, trivial⟩⟩⟩⟩⟩⟩⟩ (h63 rx1 rx2 (r_zor _ _) o60 rx5 o62 p l e s m args below meth c G A C hok59)
def rmX4_freeBoth : Room := { frames := 2, cells := 0, slots := 0, locals := 55 }
def M_X4_freeBoth (a0 a1 : Int) (S : St) (Qr : Int → St → Prop) (Qx : String → St → Prop) : Prop := r32 a0 → r32 a1 → MM 1 wC okC yX4_freeBoth wsX4_freeBoth rmX4_freeBoth (fun G => [.ref (G.2.2 6), iV a0, iV a1]) S Qr Qx
def R_X4_freeBoth_2 (x1 x2 x3 : Int) (S : St) (Qr : Int → St → Prop) (Qx : String → St → Prop) : Prop := r32 x1 → r32 x2 → r32 x3 → RR 1 wC okC wsX4_freeBoth rmX4_freeBoth cX4_freeBoth 4 RX4 (some .boolean) [] 0 0 (fun G => [some (.ref (G.2.2 6)), some (iV x1), some (iV x2), some (iV x3)]) (fun G => []) 2 S Qr Qx
set_option maxRecDepth 100000 in
set_option maxHeartbeats 4000000 in
theorem vc_X4_freeBoth {a0 a1 : Int} {S : St} {Qr : Int → St → Prop} {Qx : String → St → Prop} (h : r32 a0 → r32 a1 → okC S → R_X4_freeBoth_2 a0 a1 0 S Qr Qx) : M_X4_freeBoth a0 a1 S Qr Qx := by
  intro ra0 ra1
  refine MM_of adC (by decide +kernel) rfl (Lf := fun G => [some (.ref (G.2.2 6)), some (iV a0), some (iV a1), none]) (fun G => by show _ ≤ _; exact Nat.le_of_ble_eq_true rfl) (fun G => rfl) ?_
  intro p l e s m args below meth c G A C hok
  have h := h ra0 ra1 hok
  replace C : Cx wC cX4_freeBoth 4 RX4 wsX4_freeBoth (some .boolean) [] p l s m args meth c G A := C
  show J wC 4 rmX4_freeBoth p l e s m args below meth c G A (QQ 1 wC okC G Qr Qx A below args s rmX4_freeBoth.cells rmX4_freeBoth.slots) 0 0 S [some (.ref (G.2.2 6)), some (iV a0), some (iV a1), none] [] 0
  refine J_iconst (pc := 0) C dX4_freeBoth_0 ?_
  refine J_istore_n (pc := 1) C dX4_freeBoth_1 (by decide) ?_
  exact J_sub (L1 := [some (.ref (G.2.2 6)), some (iV a0), some (iV a1), some (iV 0)]) ⟨rfl, ⟨rfl, ⟨rfl, ⟨rfl, trivial⟩⟩⟩⟩ (h ra0 ra1 (by decide) p l e s m args below meth c G A C hok)
set_option maxRecDepth 100000 in
set_option maxHeartbeats 4000000 in
theorem vc_X4_freeBoth_2 {x1 x2 x3 : Int} {S : St} {Qr : Int → St → Prop} {Qx : String → St → Prop} (h : r32 x1 → r32 x2 → r32 x3 → okC S → ((2 ≤ x3 → M_X4_hasBoth x1 S (fun rv6 S4 => r32 rv6 → okC S4 → ((0 ≤ rv6 ∧ rv6 ≤ 1) ∧ Qr rv6 S4)) Qx) ∧ (x3 < 2 → M_X4_hasBoth x1 S (fun rv13 S11 => r32 rv13 → okC S11 → ((rv13 ≠ 0 → M_X4_hasBoth x1 S11 (fun rv20 S18 => r32 rv20 → okC S18 → ((0 ≤ rv20 ∧ rv20 ≤ 1) ∧ Qr rv20 S18)) Qx) ∧ (rv13 = 0 → M_X4_fetch x1 x2 S11 (fun rv27 S25 => r32 rv27 → okC S25 → ((rv27 ≠ 0 → (r32 (x3 + 1) ∧ R_X4_freeBoth_2 x1 x2 (x3 + 1) S25 Qr Qx)) ∧ (rv27 = 0 → Qr 0 S25))) Qx))) Qx))) : R_X4_freeBoth_2 x1 x2 x3 S Qr Qx := by
  intro rx1 rx2 rx3
  intro p l e s m args below meth c G A C hok
  have h := h rx1 rx2 rx3 hok
  replace C : Cx wC cX4_freeBoth 4 RX4 wsX4_freeBoth (some .boolean) [] p l s m args meth c G A := C
  show J wC 4 rmX4_freeBoth p l e s m args below meth c G A (QQ 1 wC okC G Qr Qx A below args s rmX4_freeBoth.cells rmX4_freeBoth.slots) 0 0 S [some (.ref (G.2.2 6)), some (iV x1), some (iV x2), some (iV x3)] [] 2
  refine J_iload_n (pc := 2) C dX4_freeBoth_2 rfl ?_
  refine J_iconst (pc := 3) C dX4_freeBoth_3 ?_
  obtain ⟨h1, h2⟩ := h
  refine J_icmp_ge (pc := 4) (tgt := 32) C dX4_freeBoth_4 (by decide) rx3 (by decide) (fun cb => ?_) (fun cb => ?_)
  · have h1 := h1 cb
    refine J_aload_n (pc := 32) C dX4_freeBoth_32 rfl ?_
    refine J_iload_n (pc := 33) C dX4_freeBoth_33 rfl ?_
    refine J_c1 (pc := 34) C (J_rV (pc := 34) C (h1 rx1) dX4_freeBoth_34 rfl rfl 6 rfl rfl (cwV 1 C.1.2.2.2.2 gX4_freeBoth_X4_hasBoth rfl rfl rfl (by decide +kernel) ⟨Nat.le_of_ble_eq_true rfl, Nat.le_of_ble_eq_true rfl⟩) hok (Nat.le_of_ble_eq_true rfl) ⟨Nat.le_of_ble_eq_true rfl, Nat.le_of_ble_eq_true rfl⟩) (fun E9 S9 ok9 q9 => JX_out C ok9 q9 (by decide) (by decide)) (fun rv6 S4 hr7 hok5 h3 => ?_)
    have h3 := h3 hr7 hok5
    obtain ⟨o8, h9⟩ := h3
    exact J_zret (pc := 37) C dX4_freeBoth_37 o8 hok5 h9 (by decide) (by decide)
  · have h2 := h2 cb
    refine J_aload_n (pc := 7) C dX4_freeBoth_7 rfl ?_
    refine J_iload_n (pc := 8) C dX4_freeBoth_8 rfl ?_
    refine J_c1 (pc := 9) C (J_rV (pc := 9) C (h2 rx1) dX4_freeBoth_9 rfl rfl 6 rfl rfl (cwV 1 C.1.2.2.2.2 gX4_freeBoth_X4_hasBoth rfl rfl rfl (by decide +kernel) ⟨Nat.le_of_ble_eq_true rfl, Nat.le_of_ble_eq_true rfl⟩) hok (Nat.le_of_ble_eq_true rfl) ⟨Nat.le_of_ble_eq_true rfl, Nat.le_of_ble_eq_true rfl⟩) (fun E9 S9 ok9 q9 => JX_out C ok9 q9 (by decide) (by decide)) (fun rv13 S11 hr14 hok12 h10 => ?_)
    have h10 := h10 hr14 hok12
    obtain ⟨h15, h16⟩ := h10
    refine J_if_ne (pc := 12) (tgt := 32) C dX4_freeBoth_12 (by decide) hr14 (fun cb => ?_) (fun cb => ?_)
    · have h15 := h15 cb
      refine J_aload_n (pc := 32) C dX4_freeBoth_32 rfl ?_
      refine J_iload_n (pc := 33) C dX4_freeBoth_33 rfl ?_
      refine J_c1 (pc := 34) C (J_rV (pc := 34) C (h15 rx1) dX4_freeBoth_34 rfl rfl 6 rfl rfl (cwV 1 C.1.2.2.2.2 gX4_freeBoth_X4_hasBoth rfl rfl rfl (by decide +kernel) ⟨Nat.le_of_ble_eq_true rfl, Nat.le_of_ble_eq_true rfl⟩) hok12 (Nat.le_of_ble_eq_true rfl) ⟨Nat.le_of_ble_eq_true rfl, Nat.le_of_ble_eq_true rfl⟩) (fun E9 S9 ok9 q9 => JX_out C ok9 q9 (by decide) (by decide)) (fun rv20 S18 hr21 hok19 h17 => ?_)
      have h17 := h17 hr21 hok19
      obtain ⟨o22, h23⟩ := h17
      exact J_zret (pc := 37) C dX4_freeBoth_37 o22 hok19 h23 (by decide) (by decide)
    · have h16 := h16 cb
      refine J_aload_n (pc := 15) C dX4_freeBoth_15 rfl ?_
      refine J_iload_n (pc := 16) C dX4_freeBoth_16 rfl ?_
      refine J_iload_n (pc := 17) C dX4_freeBoth_17 rfl ?_
      refine J_c1 (pc := 18) C (J_rV (pc := 18) C (h16 rx1 rx2) dX4_freeBoth_18 rfl rfl 6 rfl rfl (cwV 2 C.1.2.2.2.2 gX4_freeBoth_X4_fetch rfl rfl rfl (by decide +kernel) ⟨Nat.le_of_ble_eq_true rfl, Nat.le_of_ble_eq_true rfl⟩) hok12 (Nat.le_of_ble_eq_true rfl) ⟨Nat.le_of_ble_eq_true rfl, Nat.le_of_ble_eq_true rfl⟩) (fun E9 S9 ok9 q9 => JX_out C ok9 q9 (by decide) (by decide)) (fun rv27 S25 hr28 hok26 h24 => ?_)
      have h24 := h24 hr28 hok26
      obtain ⟨h29, h30⟩ := h24
      refine J_if_ne (pc := 21) (tgt := 26) C dX4_freeBoth_21 (by decide) hr28 (fun cb => ?_) (fun cb => ?_)
      · have h29 := h29 cb
        refine J_iinc (pc := 26) C dX4_freeBoth_26 rfl (by decide) ?_
        refine J_goto (pc := 29) (tgt := 2) C dX4_freeBoth_29 (by decide) ?_
        obtain ⟨o31, h32⟩ := h29
        exact J_sub (L1 := [some (.ref (G.2.2 6)), some (iV x1), some (iV x2), some (iV (x3 + 1))]) ⟨rfl, ⟨rfl, ⟨rfl, ⟨rfl, trivial⟩⟩⟩⟩ (h32 rx1 rx2 o31 p l e s m args below meth c G A C hok26)
      · have h30 := h30 cb
        refine J_iconst (pc := 24) C dX4_freeBoth_24 ?_
        exact J_zret (pc := 25) C dX4_freeBoth_25 (by decide) hok26 h30 (by decide) (by decide)
def rmX4_canCover : Room := { frames := 3, cells := 0, slots := 0, locals := 78 }
def M_X4_canCover (a0 a1 : Int) (S : St) (Qr : Int → St → Prop) (Qx : String → St → Prop) : Prop := r32 a0 → r32 a1 → MM 1 wC okC yX4_canCover wsX4_canCover rmX4_canCover (fun G => [.ref (G.2.2 6), iV a0, iV a1]) S Qr Qx
set_option maxRecDepth 100000 in
set_option maxHeartbeats 4000000 in
theorem vc_X4_canCover {a0 a1 : Int} {S : St} {Qr : Int → St → Prop} {Qx : String → St → Prop} (h : r32 a0 → r32 a1 → okC S → M_X4_freeBoth a0 a1 S (fun rv4 S2 => r32 rv4 → okC S2 → ((rv4 = 0 → Qr 0 S2) ∧ (rv4 ≠ 0 → M_X4_freeBoth a1 a0 S2 (fun rv11 S9 => r32 rv11 → okC S9 → ((rv11 = 0 → Qr 0 S9) ∧ (rv11 ≠ 0 → Qr 1 S9))) Qx))) Qx) : M_X4_canCover a0 a1 S Qr Qx := by
  intro ra0 ra1
  refine MM_of adC (by decide +kernel) rfl (Lf := fun G => [some (.ref (G.2.2 6)), some (iV a0), some (iV a1)]) (fun G => by show _ ≤ _; exact Nat.le_of_ble_eq_true rfl) (fun G => rfl) ?_
  intro p l e s m args below meth c G A C hok
  have h := h ra0 ra1 hok
  replace C : Cx wC cX4_canCover 3 RX4 wsX4_canCover (some .boolean) [] p l s m args meth c G A := C
  show J wC 3 rmX4_canCover p l e s m args below meth c G A (QQ 1 wC okC G Qr Qx A below args s rmX4_canCover.cells rmX4_canCover.slots) 0 0 S [some (.ref (G.2.2 6)), some (iV a0), some (iV a1)] [] 0
  refine J_aload_n (pc := 0) C dX4_canCover_0 rfl ?_
  refine J_iload_n (pc := 1) C dX4_canCover_1 rfl ?_
  refine J_iload_n (pc := 2) C dX4_canCover_2 rfl ?_
  refine J_c1 (pc := 3) C (J_rV (pc := 3) C (h ra0 ra1) dX4_canCover_3 rfl rfl 6 rfl rfl (cwV 2 C.1.2.2.2.2 gX4_canCover_X4_freeBoth rfl rfl rfl (by decide +kernel) ⟨Nat.le_of_ble_eq_true rfl, Nat.le_of_ble_eq_true rfl⟩) hok (Nat.le_of_ble_eq_true rfl) ⟨Nat.le_of_ble_eq_true rfl, Nat.le_of_ble_eq_true rfl⟩) (fun E9 S9 ok9 q9 => JX_out C ok9 q9 (by decide) (by decide)) (fun rv4 S2 hr5 hok3 h1 => ?_)
  have h1 := h1 hr5 hok3
  obtain ⟨h6, h7⟩ := h1
  refine J_if_eq (pc := 6) (tgt := 22) C dX4_canCover_6 (by decide) hr5 (fun cb => ?_) (fun cb => ?_)
  · have h6 := h6 cb
    refine J_iconst (pc := 22) C dX4_canCover_22 ?_
    exact J_zret (pc := 23) C dX4_canCover_23 (by decide) hok3 h6 (by decide) (by decide)
  · have h7 := h7 cb
    refine J_aload_n (pc := 9) C dX4_canCover_9 rfl ?_
    refine J_iload_n (pc := 10) C dX4_canCover_10 rfl ?_
    refine J_iload_n (pc := 11) C dX4_canCover_11 rfl ?_
    refine J_c1 (pc := 12) C (J_rV (pc := 12) C (h7 ra1 ra0) dX4_canCover_12 rfl rfl 6 rfl rfl (cwV 2 C.1.2.2.2.2 gX4_canCover_X4_freeBoth rfl rfl rfl (by decide +kernel) ⟨Nat.le_of_ble_eq_true rfl, Nat.le_of_ble_eq_true rfl⟩) hok3 (Nat.le_of_ble_eq_true rfl) ⟨Nat.le_of_ble_eq_true rfl, Nat.le_of_ble_eq_true rfl⟩) (fun E9 S9 ok9 q9 => JX_out C ok9 q9 (by decide) (by decide)) (fun rv11 S9 hr12 hok10 h8 => ?_)
    have h8 := h8 hr12 hok10
    obtain ⟨h13, h14⟩ := h8
    refine J_if_eq (pc := 15) (tgt := 22) C dX4_canCover_15 (by decide) hr12 (fun cb => ?_) (fun cb => ?_)
    · have h13 := h13 cb
      refine J_iconst (pc := 22) C dX4_canCover_22 ?_
      exact J_zret (pc := 23) C dX4_canCover_23 (by decide) hok10 h13 (by decide) (by decide)
    · have h14 := h14 cb
      refine J_iconst (pc := 18) C dX4_canCover_18 ?_
      refine J_goto (pc := 19) (tgt := 23) C dX4_canCover_19 (by decide) ?_
      exact J_zret (pc := 23) C dX4_canCover_23 (by decide) hok10 h14 (by decide) (by decide)
def rmX4_clear : Room := { frames := 0, cells := 0, slots := 0, locals := 0 }
theorem mX4_clear_f9 : Cond.fieldLink RX4 9 "Stresswork$Pebbles" "leadsTo" "[I" ∈ wsX4_clear := by decide +kernel
theorem nX4_clear_X4 : ∀ x ∈ wsX40, x ∈ wsX4_clear := by decide +kernel
def M_X4_clear (S : St) (Qr : Int → St → Prop) (Qx : String → St → Prop) : Prop := MM 0 wC okC yX4_clear wsX4_clear rmX4_clear (fun G => [.ref (G.2.2 6)]) S Qr Qx
def R_X4_clear_2 (x1 : Int) (S : St) (Qr : Int → St → Prop) (Qx : String → St → Prop) : Prop := r32 x1 → RR 0 wC okC wsX4_clear rmX4_clear cX4_clear 2 RX4 none [] 0 0 (fun G => [some (.ref (G.2.2 6)), some (iV x1)]) (fun G => []) 2 S Qr Qx
set_option maxRecDepth 100000 in
set_option maxHeartbeats 4000000 in
theorem vc_X4_clear {S : St} {Qr : Int → St → Prop} {Qx : String → St → Prop} (h : okC S → R_X4_clear_2 0 S Qr Qx) : M_X4_clear S Qr Qx := by
  refine MM_of adC (by decide +kernel) rfl (Lf := fun G => [some (.ref (G.2.2 6)), none]) (fun G => by show _ ≤ _; exact Nat.le_of_ble_eq_true rfl) (fun G => rfl) ?_
  intro p l e s m args below meth c G A C hok
  have h := h hok
  replace C : Cx wC cX4_clear 2 RX4 wsX4_clear none [] p l s m args meth c G A := C
  show J wC 2 rmX4_clear p l e s m args below meth c G A (QQ 0 wC okC G Qr Qx A below args s rmX4_clear.cells rmX4_clear.slots) 0 0 S [some (.ref (G.2.2 6)), none] [] 0
  refine J_iconst (pc := 0) C dX4_clear_0 ?_
  refine J_istore_n (pc := 1) C dX4_clear_1 (by decide) ?_
  exact J_sub (L1 := [some (.ref (G.2.2 6)), some (iV 0)]) ⟨rfl, ⟨rfl, trivial⟩⟩ (h (by decide) p l e s m args below meth c G A C hok)
set_option maxRecDepth 100000 in
set_option maxHeartbeats 4000000 in
theorem vc_X4_clear_2 {x1 : Int} {S : St} {Qr : Int → St → Prop} {Qx : String → St → Prop} (h : r32 x1 → okC S → ((20 ≤ x1 → Qr 0 S) ∧ (x1 < 20 → (ix x1 20 ∧ (r32 (x1 + 1) ∧ R_X4_clear_2 (x1 + 1) (up S 24 x1 (-1)) Qr Qx))))) : R_X4_clear_2 x1 S Qr Qx := by
  intro rx1
  intro p l e s m args below meth c G A C hok
  have h := h rx1 hok
  replace C : Cx wC cX4_clear 2 RX4 wsX4_clear none [] p l s m args meth c G A := C
  show J wC 2 rmX4_clear p l e s m args below meth c G A (QQ 0 wC okC G Qr Qx A below args s rmX4_clear.cells rmX4_clear.slots) 0 0 S [some (.ref (G.2.2 6)), some (iV x1)] [] 2
  refine J_iload_n (pc := 2) C dX4_clear_2 rfl ?_
  refine J_aload_n (pc := 3) C dX4_clear_3 rfl ?_
  refine J_get (pc := 4) C dX4_clear_4 6 rfl rfl nX4_clear_X4 0 (by decide) mX4_clear_f9 rfl (v := .ref (G.2.2 24)) rfl ?_
  refine J_alen (pc := 7) C dX4_clear_7 24 (N := 20) rfl ?_
  obtain ⟨h1, h2⟩ := h
  refine J_icmp_ge (pc := 8) (tgt := 24) C dX4_clear_8 (by decide) rx1 (by decide) (fun cb => ?_) (fun cb => ?_)
  · have h1 := h1 cb
    exact J_vret (pc := 24) C dX4_clear_24 hok h1 (by decide) (by decide)
  · have h2 := h2 cb
    refine J_aload_n (pc := 11) C dX4_clear_11 rfl ?_
    refine J_get (pc := 12) C dX4_clear_12 6 rfl rfl nX4_clear_X4 0 (by decide) mX4_clear_f9 rfl (v := .ref (G.2.2 24)) rfl ?_
    refine J_iload_n (pc := 15) C dX4_clear_15 rfl ?_
    refine J_iconst (pc := 16) C dX4_clear_16 ?_
    obtain ⟨o3, h4⟩ := h2
    refine J_iast (pc := 17) C dX4_clear_17 24 24 rfl (by decide) o3 (sC_24 G S x1 (-1)) ?_
    have hok5 := okC_up (k := 24) (j := x1) hok (show rngC 24 (-1) from (by decide : r32 (-1)))
    refine J_iinc (pc := 18) C dX4_clear_18 rfl (by decide) ?_
    refine J_goto (pc := 21) (tgt := 2) C dX4_clear_21 (by decide) ?_
    obtain ⟨o6, h7⟩ := h4
    exact J_sub (L1 := [some (.ref (G.2.2 6)), some (iV (x1 + 1))]) ⟨rfl, ⟨rfl, trivial⟩⟩ (h7 o6 p l e s m args below meth c G A C hok5)
def rmX4_cover : Room := { frames := 0, cells := 0, slots := 0, locals := 0 }
theorem mX4_cover_f9 : Cond.fieldLink RX4 9 "Stresswork$Pebbles" "leadsTo" "[I" ∈ wsX4_cover := by decide +kernel
theorem nX4_cover_X4 : ∀ x ∈ wsX40, x ∈ wsX4_cover := by decide +kernel
def M_X4_cover (a0 a1 : Int) (S : St) (Qr : Int → St → Prop) (Qx : String → St → Prop) : Prop := r32 a0 → r32 a1 → MM 0 wC okC yX4_cover wsX4_cover rmX4_cover (fun G => [.ref (G.2.2 6), iV a0, iV a1]) S Qr Qx
set_option maxRecDepth 100000 in
set_option maxHeartbeats 4000000 in
theorem vc_X4_cover {a0 a1 : Int} {S : St} {Qr : Int → St → Prop} {Qx : String → St → Prop} (h : r32 a0 → r32 a1 → okC S → (ix (2 * a0) 20 ∧ Qr 0 (up S 24 (2 * a0) a1))) : M_X4_cover a0 a1 S Qr Qx := by
  intro ra0 ra1
  refine MM_of adC (by decide +kernel) rfl (Lf := fun G => [some (.ref (G.2.2 6)), some (iV a0), some (iV a1)]) (fun G => by show _ ≤ _; exact Nat.le_of_ble_eq_true rfl) (fun G => rfl) ?_
  intro p l e s m args below meth c G A C hok
  have h := h ra0 ra1 hok
  replace C : Cx wC cX4_cover 3 RX4 wsX4_cover none [] p l s m args meth c G A := C
  show J wC 3 rmX4_cover p l e s m args below meth c G A (QQ 0 wC okC G Qr Qx A below args s rmX4_cover.cells rmX4_cover.slots) 0 0 S [some (.ref (G.2.2 6)), some (iV a0), some (iV a1)] [] 0
  refine J_aload_n (pc := 0) C dX4_cover_0 rfl ?_
  refine J_get (pc := 1) C dX4_cover_1 6 rfl rfl nX4_cover_X4 0 (by decide) mX4_cover_f9 rfl (v := .ref (G.2.2 24)) rfl ?_
  refine J_iconst (pc := 4) C dX4_cover_4 ?_
  refine J_iload_n (pc := 5) C dX4_cover_5 rfl ?_
  refine J_imul (pc := 6) C dX4_cover_6 ?_
  refine J_iload_n (pc := 7) C dX4_cover_7 rfl ?_
  obtain ⟨o1, h2⟩ := h
  refine J_iast (pc := 8) C dX4_cover_8 24 24 rfl (by decide) o1 (sC_24 G S (2 * a0) a1) ?_
  have hok3 := okC_up (k := 24) (j := (2 * a0)) hok (show rngC 24 a1 from ra1)
  exact J_vret (pc := 9) C dX4_cover_9 hok3 h2 (by decide) (by decide)
def rmX5_add : Room := { frames := 0, cells := 0, slots := 0, locals := 0 }
theorem mX5_add_f21 : Cond.fieldLink RX5 21 "Stresswork$Steps" "count" "I" ∈ wsX5_add := by decide +kernel
theorem nX5_add_X5 : ∀ x ∈ wsX50, x ∈ wsX5_add := by decide +kernel
theorem mX5_add_f9 : Cond.fieldLink RX5 9 "Stresswork$Steps" "joint" "[I" ∈ wsX5_add := by decide +kernel
theorem mX5_add_f15 : Cond.fieldLink RX5 15 "Stresswork$Steps" "firstBar" "[I" ∈ wsX5_add := by decide +kernel
theorem mX5_add_f18 : Cond.fieldLink RX5 18 "Stresswork$Steps" "splitMember" "[I" ∈ wsX5_add := by decide +kernel
def M_X5_add (a0 a1 a2 : Int) (S : St) (Qr : Int → St → Prop) (Qx : String → St → Prop) : Prop := r32 a0 → r32 a1 → r32 a2 → MM 0 wC okC yX5_add wsX5_add rmX5_add (fun G => [.ref (G.2.2 3), iV a0, iV a1, iV a2]) S Qr Qx
set_option maxRecDepth 100000 in
set_option maxHeartbeats 4000000 in
theorem vc_X5_add {a0 a1 a2 : Int} {S : St} {Qr : Int → St → Prop} {Qx : String → St → Prop} (h : r32 a0 → r32 a1 → r32 a2 → okC S → ((10 ≤ (S 3 3) → Qr 0 S) ∧ ((S 3 3) < 10 → (ix (S 3 3) 10 ∧ (r32 ((S 3 3) + 1) ∧ Qr 0 (up (up (up (up S 16 (S 3 3) a0) 17 (S 3 3) a1) 18 (S 3 3) a2) 3 3 ((S 3 3) + 1))))))) : M_X5_add a0 a1 a2 S Qr Qx := by
  intro ra0 ra1 ra2
  refine MM_of adC (by decide +kernel) rfl (Lf := fun G => [some (.ref (G.2.2 3)), some (iV a0), some (iV a1), some (iV a2)]) (fun G => by show _ ≤ _; exact Nat.le_of_ble_eq_true rfl) (fun G => rfl) ?_
  intro p l e s m args below meth c G A C hok
  have h := h ra0 ra1 ra2 hok
  replace C : Cx wC cX5_add 4 RX5 wsX5_add none [] p l s m args meth c G A := C
  show J wC 4 rmX5_add p l e s m args below meth c G A (QQ 0 wC okC G Qr Qx A below args s rmX5_add.cells rmX5_add.slots) 0 0 S [some (.ref (G.2.2 3)), some (iV a0), some (iV a1), some (iV a2)] [] 0
  refine J_aload_n (pc := 0) C dX5_add_0 rfl ?_
  refine J_get (pc := 1) C dX5_add_1 3 rfl rfl nX5_add_X5 3 (by decide) mX5_add_f21 rfl (v := iV (S 3 3)) rfl ?_
  refine J_bipush (pc := 4) C dX5_add_4 (by decide) ?_
  obtain ⟨h1, h2⟩ := h
  refine J_icmp_ge (pc := 6) (tgt := 49) C dX5_add_6 (by decide) (hok 3 3) (by decide) (fun cb => ?_) (fun cb => ?_)
  · have h1 := h1 cb
    exact J_vret (pc := 49) C dX5_add_49 hok h1 (by decide) (by decide)
  · have h2 := h2 cb
    refine J_aload_n (pc := 9) C dX5_add_9 rfl ?_
    refine J_get (pc := 10) C dX5_add_10 3 rfl rfl nX5_add_X5 0 (by decide) mX5_add_f9 rfl (v := .ref (G.2.2 16)) rfl ?_
    refine J_aload_n (pc := 13) C dX5_add_13 rfl ?_
    refine J_get (pc := 14) C dX5_add_14 3 rfl rfl nX5_add_X5 3 (by decide) mX5_add_f21 rfl (v := iV (S 3 3)) rfl ?_
    refine J_iload_n (pc := 17) C dX5_add_17 rfl ?_
    obtain ⟨o3, h4⟩ := h2
    refine J_iast (pc := 18) C dX5_add_18 16 16 rfl (by decide) o3 (sC_16 G S (S 3 3) a0) ?_
    have hok5 := okC_up (k := 16) (j := (S 3 3)) hok (show rngC 16 a0 from ra0)
    refine J_aload_n (pc := 19) C dX5_add_19 rfl ?_
    refine J_get (pc := 20) C dX5_add_20 3 rfl rfl nX5_add_X5 1 (by decide) mX5_add_f15 rfl (v := .ref (G.2.2 17)) rfl ?_
    refine J_aload_n (pc := 23) C dX5_add_23 rfl ?_
    refine J_get (pc := 24) C dX5_add_24 3 rfl rfl nX5_add_X5 3 (by decide) mX5_add_f21 rfl (v := iV (S 3 3)) rfl ?_
    refine J_iload_n (pc := 27) C dX5_add_27 rfl ?_
    refine J_iast (pc := 28) C dX5_add_28 17 17 rfl (by decide) o3 (sC_17 G (up S 16 (S 3 3) a0) (S 3 3) a1) ?_
    have hok6 := okC_up (k := 17) (j := (S 3 3)) hok5 (show rngC 17 a1 from ra1)
    refine J_aload_n (pc := 29) C dX5_add_29 rfl ?_
    refine J_get (pc := 30) C dX5_add_30 3 rfl rfl nX5_add_X5 2 (by decide) mX5_add_f18 rfl (v := .ref (G.2.2 18)) rfl ?_
    refine J_aload_n (pc := 33) C dX5_add_33 rfl ?_
    refine J_get (pc := 34) C dX5_add_34 3 rfl rfl nX5_add_X5 3 (by decide) mX5_add_f21 rfl (v := iV (S 3 3)) rfl ?_
    refine J_iload_n (pc := 37) C dX5_add_37 rfl ?_
    refine J_iast (pc := 38) C dX5_add_38 18 18 rfl (by decide) o3 (sC_18 G (up (up S 16 (S 3 3) a0) 17 (S 3 3) a1) (S 3 3) a2) ?_
    have hok7 := okC_up (k := 18) (j := (S 3 3)) hok6 (show rngC 18 a2 from ra2)
    refine J_aload_n (pc := 39) C dX5_add_39 rfl ?_
    refine J_dup (pc := 40) C dX5_add_40 rfl ?_
    refine J_get (pc := 41) C dX5_add_41 3 rfl rfl nX5_add_X5 3 (by decide) mX5_add_f21 rfl (v := iV (S 3 3)) rfl ?_
    refine J_iconst (pc := 44) C dX5_add_44 ?_
    refine J_iadd (pc := 45) C dX5_add_45 ?_
    obtain ⟨o8, h9⟩ := h4
    refine J_put (pc := 46) C dX5_add_46 3 rfl rfl nX5_add_X5 tyX5 tyX5_ok nmX5 3 (by decide) mX5_add_f21 rfl rfl (v := iV ((S 3 3) + 1)) rfl rfl (Nat.le_of_ble_eq_true rfl) (sC_3_3 G (up (up (up S 16 (S 3 3) a0) 17 (S 3 3) a1) 18 (S 3 3) a2) ((S 3 3) + 1)) ?_
    have hok10 := okC_up (k := 3) (j := 3) hok7 (show rngC 3 ((S 3 3) + 1) from o8)
    exact J_vret (pc := 49) C dX5_add_49 hok10 h9 (by decide) (by decide)
def rmX5_bars : Room := { frames := 0, cells := 0, slots := 0, locals := 0 }
theorem mX5_bars_f18 : Cond.fieldLink RX5 18 "Stresswork$Steps" "splitMember" "[I" ∈ wsX5_bars := by decide +kernel
theorem nX5_bars_X5 : ∀ x ∈ wsX50, x ∈ wsX5_bars := by decide +kernel
def M_X5_bars (a0 : Int) (S : St) (Qr : Int → St → Prop) (Qx : String → St → Prop) : Prop := r32 a0 → MM 1 wC okC yX5_bars wsX5_bars rmX5_bars (fun G => [.ref (G.2.2 3), iV a0]) S Qr Qx
set_option maxRecDepth 100000 in
set_option maxHeartbeats 4000000 in
theorem vc_X5_bars {a0 : Int} {S : St} {Qr : Int → St → Prop} {Qx : String → St → Prop} (h : r32 a0 → okC S → (ix a0 10 ∧ (((S 18 a0) ≠ (-1) → Qr 3 S) ∧ ((S 18 a0) = (-1) → Qr 2 S)))) : M_X5_bars a0 S Qr Qx := by
  intro ra0
  refine MM_of adC (by decide +kernel) rfl (Lf := fun G => [some (.ref (G.2.2 3)), some (iV a0)]) (fun G => by show _ ≤ _; exact Nat.le_of_ble_eq_true rfl) (fun G => rfl) ?_
  intro p l e s m args below meth c G A C hok
  have h := h ra0 hok
  replace C : Cx wC cX5_bars 2 RX5 wsX5_bars (some .int) [] p l s m args meth c G A := C
  show J wC 2 rmX5_bars p l e s m args below meth c G A (QQ 1 wC okC G Qr Qx A below args s rmX5_bars.cells rmX5_bars.slots) 0 0 S [some (.ref (G.2.2 3)), some (iV a0)] [] 0
  refine J_aload_n (pc := 0) C dX5_bars_0 rfl ?_
  refine J_get (pc := 1) C dX5_bars_1 3 rfl rfl nX5_bars_X5 2 (by decide) mX5_bars_f18 rfl (v := .ref (G.2.2 18)) rfl ?_
  refine J_iload_n (pc := 4) C dX5_bars_4 rfl ?_
  obtain ⟨o1, h2⟩ := h
  refine J_iald (pc := 5) C dX5_bars_5 18 18 rfl (by decide) o1 ?_
  refine J_iconst (pc := 6) C dX5_bars_6 ?_
  obtain ⟨h3, h4⟩ := h2
  refine J_icmp_ne (pc := 7) (tgt := 14) C dX5_bars_7 (by decide) (hok 18 a0) (by decide) (fun cb => ?_) (fun cb => ?_)
  · have h3 := h3 cb
    refine J_iconst (pc := 14) C dX5_bars_14 ?_
    exact J_iret (pc := 15) C dX5_bars_15 (by decide) hok h3 (by decide) (by decide)
  · have h4 := h4 cb
    refine J_iconst (pc := 10) C dX5_bars_10 ?_
    refine J_goto (pc := 11) (tgt := 15) C dX5_bars_11 (by decide) ?_
    exact J_iret (pc := 15) C dX5_bars_15 (by decide) hok h4 (by decide) (by decide)
def rmX5_dropLast : Room := { frames := 0, cells := 0, slots := 0, locals := 0 }
theorem mX5_dropLast_f21 : Cond.fieldLink RX5 21 "Stresswork$Steps" "count" "I" ∈ wsX5_dropLast := by decide +kernel
theorem nX5_dropLast_X5 : ∀ x ∈ wsX50, x ∈ wsX5_dropLast := by decide +kernel
def M_X5_dropLast (S : St) (Qr : Int → St → Prop) (Qx : String → St → Prop) : Prop := MM 0 wC okC yX5_dropLast wsX5_dropLast rmX5_dropLast (fun G => [.ref (G.2.2 3)]) S Qr Qx
set_option maxRecDepth 100000 in
set_option maxHeartbeats 4000000 in
theorem vc_X5_dropLast {S : St} {Qr : Int → St → Prop} {Qx : String → St → Prop} (h : okC S → (((S 3 3) ≤ 0 → Qr 0 S) ∧ (0 < (S 3 3) → (r32 ((S 3 3) - 1) ∧ Qr 0 (up S 3 3 ((S 3 3) - 1)))))) : M_X5_dropLast S Qr Qx := by
  refine MM_of adC (by decide +kernel) rfl (Lf := fun G => [some (.ref (G.2.2 3))]) (fun G => by show _ ≤ _; exact Nat.le_of_ble_eq_true rfl) (fun G => rfl) ?_
  intro p l e s m args below meth c G A C hok
  have h := h hok
  replace C : Cx wC cX5_dropLast 1 RX5 wsX5_dropLast none [] p l s m args meth c G A := C
  show J wC 1 rmX5_dropLast p l e s m args below meth c G A (QQ 0 wC okC G Qr Qx A below args s rmX5_dropLast.cells rmX5_dropLast.slots) 0 0 S [some (.ref (G.2.2 3))] [] 0
  refine J_aload_n (pc := 0) C dX5_dropLast_0 rfl ?_
  refine J_get (pc := 1) C dX5_dropLast_1 3 rfl rfl nX5_dropLast_X5 3 (by decide) mX5_dropLast_f21 rfl (v := iV (S 3 3)) rfl ?_
  obtain ⟨h1, h2⟩ := h
  refine J_if_le (pc := 4) (tgt := 17) C dX5_dropLast_4 (by decide) (hok 3 3) (fun cb => ?_) (fun cb => ?_)
  · have h1 := h1 cb
    exact J_vret (pc := 17) C dX5_dropLast_17 hok h1 (by decide) (by decide)
  · have h2 := h2 cb
    refine J_aload_n (pc := 7) C dX5_dropLast_7 rfl ?_
    refine J_dup (pc := 8) C dX5_dropLast_8 rfl ?_
    refine J_get (pc := 9) C dX5_dropLast_9 3 rfl rfl nX5_dropLast_X5 3 (by decide) mX5_dropLast_f21 rfl (v := iV (S 3 3)) rfl ?_
    refine J_iconst (pc := 12) C dX5_dropLast_12 ?_
    refine J_isub (pc := 13) C dX5_dropLast_13 ?_
    obtain ⟨o3, h4⟩ := h2
    refine J_put (pc := 14) C dX5_dropLast_14 3 rfl rfl nX5_dropLast_X5 tyX5 tyX5_ok nmX5 3 (by decide) mX5_dropLast_f21 rfl rfl (v := iV ((S 3 3) - 1)) rfl rfl (Nat.le_of_ble_eq_true rfl) (sC_3_3 G S ((S 3 3) - 1)) ?_
    have hok5 := okC_up (k := 3) (j := 3) hok (show rngC 3 ((S 3 3) - 1) from o3)
    exact J_vret (pc := 17) C dX5_dropLast_17 hok5 h4 (by decide) (by decide)
