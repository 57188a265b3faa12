def rmJ13_bitCount_95d88 : Room := { frames := 0, cells := 0, slots := 0, locals := 0 }
theorem mJ13_bitCount_95d88_c314 : Cond.constantLong RJ13 314 (6148914691236517205) ∈ wsJ13_bitCount_95d88 := by decide +kernel
theorem mJ13_bitCount_95d88_c316 : Cond.constantLong RJ13 316 (3689348814741910323) ∈ wsJ13_bitCount_95d88 := by decide +kernel
theorem mJ13_bitCount_95d88_c318 : Cond.constantLong RJ13 318 (1085102592571150095) ∈ wsJ13_bitCount_95d88 := by decide +kernel
def M_J13_bitCount_95d88 (a0 : Int) (S : St) (Qr : Int → St → Prop) (Qx : String → St → Prop) : Prop := r64 a0 → MM 1 wC okC yJ13_bitCount_95d88 wsJ13_bitCount_95d88 rmJ13_bitCount_95d88 (fun G => [lV a0]) S Qr Qx
def R_J13_bitCount_95d88_10 (x0 : Int) (S : St) (Qr : Int → St → Prop) (Qx : String → St → Prop) : Prop := r64 x0 → RR 1 wC okC wsJ13_bitCount_95d88 rmJ13_bitCount_95d88 cJ13_bitCount_95d88 2 RJ13 (some .int) [] 0 0 (fun G => [some (lV x0), none]) (fun G => []) 10 S Qr Qx
def R_J13_bitCount_95d88_24 (x0 : Int) (S : St) (Qr : Int → St → Prop) (Qx : String → St → Prop) : Prop := r64 x0 → RR 1 wC okC wsJ13_bitCount_95d88 rmJ13_bitCount_95d88 cJ13_bitCount_95d88 2 RJ13 (some .int) [] 0 0 (fun G => [some (lV x0), none]) (fun G => []) 24 S Qr Qx
def R_J13_bitCount_95d88_34 (x0 : Int) (S : St) (Qr : Int → St → Prop) (Qx : String → St → Prop) : Prop := r64 x0 → RR 1 wC okC wsJ13_bitCount_95d88 rmJ13_bitCount_95d88 cJ13_bitCount_95d88 2 RJ13 (some .int) [] 0 0 (fun G => [some (lV x0), none]) (fun G => []) 34 S Qr Qx
def R_J13_bitCount_95d88_41 (x0 : Int) (S : St) (Qr : Int → St → Prop) (Qx : String → St → Prop) : Prop := r64 x0 → RR 1 wC okC wsJ13_bitCount_95d88 rmJ13_bitCount_95d88 cJ13_bitCount_95d88 2 RJ13 (some .int) [] 0 0 (fun G => [some (lV x0), none]) (fun G => []) 41 S Qr Qx
def R_J13_bitCount_95d88_48 (x0 : Int) (S : St) (Qr : Int → St → Prop) (Qx : String → St → Prop) : Prop := r64 x0 → RR 1 wC okC wsJ13_bitCount_95d88 rmJ13_bitCount_95d88 cJ13_bitCount_95d88 2 RJ13 (some .int) [] 0 0 (fun G => [some (lV x0), none]) (fun G => []) 48 S Qr Qx
def R_J13_bitCount_95d88_55 (x0 : Int) (S : St) (Qr : Int → St → Prop) (Qx : String → St → Prop) : Prop := r64 x0 → RR 1 wC okC wsJ13_bitCount_95d88 rmJ13_bitCount_95d88 cJ13_bitCount_95d88 2 RJ13 (some .int) [] 0 0 (fun G => [some (lV x0), none]) (fun G => []) 55 S Qr Qx
set_option maxRecDepth 100000 in
set_option maxHeartbeats 4000000 in
theorem vc_J13_bitCount_95d88 {a0 : Int} {S : St} {Qr : Int → St → Prop} {Qx : String → St → Prop} (h : r64 a0 → okC S → (r64 (a0 - (yand (yushr a0 1) 6148914691236517205)) ∧ R_J13_bitCount_95d88_10 (a0 - (yand (yushr a0 1) 6148914691236517205)) S Qr Qx)) : M_J13_bitCount_95d88 a0 S Qr Qx := by
  intro ra0
  refine MM_of adC (by decide +kernel) rfl (Lf := fun G => [some (lV a0), none]) (fun G => by show _ ≤ _; exact Nat.le_of_ble_eq_true rfl) (fun G => rfl) ?_
  intro p l e s m args below meth c G A C hok
  have h := h ra0 hok
  replace C : Cx wC cJ13_bitCount_95d88 2 RJ13 wsJ13_bitCount_95d88 (some .int) [] p l s m args meth c G A := C
  show J wC 2 rmJ13_bitCount_95d88 p l e s m args below meth c G A (QQ 1 wC okC G Qr Qx A below args s rmJ13_bitCount_95d88.cells rmJ13_bitCount_95d88.slots) 0 0 S [some (lV a0), none] [] 0
  refine J_lload_n (pc := 0) C dJ13_bitCount_95d88_0 rfl ?_
  refine J_lload_n (pc := 1) C dJ13_bitCount_95d88_1 rfl ?_
  refine J_iconst (pc := 2) C dJ13_bitCount_95d88_2 ?_
  refine J_lushr (pc := 3) C dJ13_bitCount_95d88_3 ?_
  refine J_ldc2 (pc := 4) (z := 6148914691236517205) C mJ13_bitCount_95d88_c314 (by decide) dJ13_bitCount_95d88_4 ?_
  refine J_land (pc := 7) C dJ13_bitCount_95d88_7 ?_
  refine J_lsub (pc := 8) C dJ13_bitCount_95d88_8 ?_
  refine J_lstore_n (pc := 9) C dJ13_bitCount_95d88_9 (by decide) ?_
  obtain ⟨o1, h2⟩ := h
  exact J_sub (L1 := [some (lV (a0 - (yand (yushr a0 1) 6148914691236517205))), none]) ⟨rfl, trivial⟩ (h2 o1 p l e s m args below meth c G A C hok)
set_option maxRecDepth 100000 in
set_option maxHeartbeats 4000000 in
theorem vc_J13_bitCount_95d88_10 {x0 : Int} {S : St} {Qr : Int → St → Prop} {Qx : String → St → Prop} (h : r64 x0 → okC S → (r64 ((yand x0 3689348814741910323) + (yand (yushr x0 2) 3689348814741910323)) ∧ R_J13_bitCount_95d88_24 ((yand x0 3689348814741910323) + (yand (yushr x0 2) 3689348814741910323)) S Qr Qx)) : R_J13_bitCount_95d88_10 x0 S Qr Qx := by
  intro rx0
  intro p l e s m args below meth c G A C hok
  have h := h rx0 hok
  replace C : Cx wC cJ13_bitCount_95d88 2 RJ13 wsJ13_bitCount_95d88 (some .int) [] p l s m args meth c G A := C
  show J wC 2 rmJ13_bitCount_95d88 p l e s m args below meth c G A (QQ 1 wC okC G Qr Qx A below args s rmJ13_bitCount_95d88.cells rmJ13_bitCount_95d88.slots) 0 0 S [some (lV x0), none] [] 10
  refine J_lload_n (pc := 10) C dJ13_bitCount_95d88_10 rfl ?_
  refine J_ldc2 (pc := 11) (z := 3689348814741910323) C mJ13_bitCount_95d88_c316 (by decide) dJ13_bitCount_95d88_11 ?_
  refine J_land (pc := 14) C dJ13_bitCount_95d88_14 ?_
  refine J_lload_n (pc := 15) C dJ13_bitCount_95d88_15 rfl ?_
  refine J_iconst (pc := 16) C dJ13_bitCount_95d88_16 ?_
  refine J_lushr (pc := 17) C dJ13_bitCount_95d88_17 ?_
  refine J_ldc2 (pc := 18) (z := 3689348814741910323) C mJ13_bitCount_95d88_c316 (by decide) dJ13_bitCount_95d88_18 ?_
  refine J_land (pc := 21) C dJ13_bitCount_95d88_21 ?_
  refine J_ladd (pc := 22) C dJ13_bitCount_95d88_22 ?_
  refine J_lstore_n (pc := 23) C dJ13_bitCount_95d88_23 (by decide) ?_
  obtain ⟨o1, h2⟩ := h
  exact J_sub (L1 := [some (lV ((yand x0 3689348814741910323) + (yand (yushr x0 2) 3689348814741910323))), none]) ⟨rfl, trivial⟩ (h2 o1 p l e s m args below meth c G A C hok)
set_option maxRecDepth 100000 in
set_option maxHeartbeats 4000000 in
theorem vc_J13_bitCount_95d88_24 {x0 : Int} {S : St} {Qr : Int → St → Prop} {Qx : String → St → Prop} (h : r64 x0 → okC S → R_J13_bitCount_95d88_34 (yand (x0 + (yushr x0 4)) 1085102592571150095) S Qr Qx) : R_J13_bitCount_95d88_24 x0 S Qr Qx := by
  intro rx0
  intro p l e s m args below meth c G A C hok
  have h := h rx0 hok
  replace C : Cx wC cJ13_bitCount_95d88 2 RJ13 wsJ13_bitCount_95d88 (some .int) [] p l s m args meth c G A := C
  show J wC 2 rmJ13_bitCount_95d88 p l e s m args below meth c G A (QQ 1 wC okC G Qr Qx A below args s rmJ13_bitCount_95d88.cells rmJ13_bitCount_95d88.slots) 0 0 S [some (lV x0), none] [] 24
  refine J_lload_n (pc := 24) C dJ13_bitCount_95d88_24 rfl ?_
  refine J_lload_n (pc := 25) C dJ13_bitCount_95d88_25 rfl ?_
  refine J_iconst (pc := 26) C dJ13_bitCount_95d88_26 ?_
  refine J_lushr (pc := 27) C dJ13_bitCount_95d88_27 ?_
  refine J_ladd (pc := 28) C dJ13_bitCount_95d88_28 ?_
  refine J_ldc2 (pc := 29) (z := 1085102592571150095) C mJ13_bitCount_95d88_c318 (by decide) dJ13_bitCount_95d88_29 ?_
  refine J_land (pc := 32) C dJ13_bitCount_95d88_32 ?_
  refine J_lstore_n (pc := 33) C dJ13_bitCount_95d88_33 (by decide) ?_
  exact J_sub (L1 := [some (lV (yand (x0 + (yushr x0 4)) 1085102592571150095)), none]) ⟨rfl, trivial⟩ (h (r_yand _ _) p l e s m args below meth c G A C hok)
set_option maxRecDepth 100000 in
set_option maxHeartbeats 4000000 in
theorem vc_J13_bitCount_95d88_34 {x0 : Int} {S : St} {Qr : Int → St → Prop} {Qx : String → St → Prop} (h : r64 x0 → okC S → (r64 (x0 + (yushr x0 8)) ∧ R_J13_bitCount_95d88_41 (x0 + (yushr x0 8)) S Qr Qx)) : R_J13_bitCount_95d88_34 x0 S Qr Qx := by
  intro rx0
  intro p l e s m args below meth c G A C hok
  have h := h rx0 hok
  replace C : Cx wC cJ13_bitCount_95d88 2 RJ13 wsJ13_bitCount_95d88 (some .int) [] p l s m args meth c G A := C
  show J wC 2 rmJ13_bitCount_95d88 p l e s m args below meth c G A (QQ 1 wC okC G Qr Qx A below args s rmJ13_bitCount_95d88.cells rmJ13_bitCount_95d88.slots) 0 0 S [some (lV x0), none] [] 34
  refine J_lload_n (pc := 34) C dJ13_bitCount_95d88_34 rfl ?_
  refine J_lload_n (pc := 35) C dJ13_bitCount_95d88_35 rfl ?_
  refine J_bipush (pc := 36) C dJ13_bitCount_95d88_36 (by decide) ?_
  refine J_lushr (pc := 38) C dJ13_bitCount_95d88_38 ?_
  refine J_ladd (pc := 39) C dJ13_bitCount_95d88_39 ?_
  refine J_lstore_n (pc := 40) C dJ13_bitCount_95d88_40 (by decide) ?_
  obtain ⟨o1, h2⟩ := h
  exact J_sub (L1 := [some (lV (x0 + (yushr x0 8))), none]) ⟨rfl, trivial⟩ (h2 o1 p l e s m args below meth c G A C hok)
set_option maxRecDepth 100000 in
set_option maxHeartbeats 4000000 in
theorem vc_J13_bitCount_95d88_41 {x0 : Int} {S : St} {Qr : Int → St → Prop} {Qx : String → St → Prop} (h : r64 x0 → okC S → (r64 (x0 + (yushr x0 16)) ∧ R_J13_bitCount_95d88_48 (x0 + (yushr x0 16)) S Qr Qx)) : R_J13_bitCount_95d88_41 x0 S Qr Qx := by
  intro rx0
  intro p l e s m args below meth c G A C hok
  have h := h rx0 hok
  replace C : Cx wC cJ13_bitCount_95d88 2 RJ13 wsJ13_bitCount_95d88 (some .int) [] p l s m args meth c G A := C
  show J wC 2 rmJ13_bitCount_95d88 p l e s m args below meth c G A (QQ 1 wC okC G Qr Qx A below args s rmJ13_bitCount_95d88.cells rmJ13_bitCount_95d88.slots) 0 0 S [some (lV x0), none] [] 41
  refine J_lload_n (pc := 41) C dJ13_bitCount_95d88_41 rfl ?_
  refine J_lload_n (pc := 42) C dJ13_bitCount_95d88_42 rfl ?_
  refine J_bipush (pc := 43) C dJ13_bitCount_95d88_43 (by decide) ?_
  refine J_lushr (pc := 45) C dJ13_bitCount_95d88_45 ?_
  refine J_ladd (pc := 46) C dJ13_bitCount_95d88_46 ?_
  refine J_lstore_n (pc := 47) C dJ13_bitCount_95d88_47 (by decide) ?_
  obtain ⟨o1, h2⟩ := h
  exact J_sub (L1 := [some (lV (x0 + (yushr x0 16))), none]) ⟨rfl, trivial⟩ (h2 o1 p l e s m args below meth c G A C hok)
set_option maxRecDepth 100000 in
set_option maxHeartbeats 4000000 in
theorem vc_J13_bitCount_95d88_48 {x0 : Int} {S : St} {Qr : Int → St → Prop} {Qx : String → St → Prop} (h : r64 x0 → okC S → (r64 (x0 + (yushr x0 32)) ∧ R_J13_bitCount_95d88_55 (x0 + (yushr x0 32)) S Qr Qx)) : R_J13_bitCount_95d88_48 x0 S Qr Qx := by
  intro rx0
  intro p l e s m args below meth c G A C hok
  have h := h rx0 hok
  replace C : Cx wC cJ13_bitCount_95d88 2 RJ13 wsJ13_bitCount_95d88 (some .int) [] p l s m args meth c G A := C
  show J wC 2 rmJ13_bitCount_95d88 p l e s m args below meth c G A (QQ 1 wC okC G Qr Qx A below args s rmJ13_bitCount_95d88.cells rmJ13_bitCount_95d88.slots) 0 0 S [some (lV x0), none] [] 48
  refine J_lload_n (pc := 48) C dJ13_bitCount_95d88_48 rfl ?_
  refine J_lload_n (pc := 49) C dJ13_bitCount_95d88_49 rfl ?_
  refine J_bipush (pc := 50) C dJ13_bitCount_95d88_50 (by decide) ?_
  refine J_lushr (pc := 52) C dJ13_bitCount_95d88_52 ?_
  refine J_ladd (pc := 53) C dJ13_bitCount_95d88_53 ?_
  refine J_lstore_n (pc := 54) C dJ13_bitCount_95d88_54 (by decide) ?_
  obtain ⟨o1, h2⟩ := h
  exact J_sub (L1 := [some (lV (x0 + (yushr x0 32))), none]) ⟨rfl, trivial⟩ (h2 o1 p l e s m args below meth c G A C hok)
set_option maxRecDepth 100000 in
set_option maxHeartbeats 4000000 in
theorem vc_J13_bitCount_95d88_55 {x0 : Int} {S : St} {Qr : Int → St → Prop} {Qx : String → St → Prop} (h : r64 x0 → okC S → (r32 x0 ∧ Qr (zand x0 127) S)) : R_J13_bitCount_95d88_55 x0 S Qr Qx := by
  intro rx0
  intro p l e s m args below meth c G A C hok
  have h := h rx0 hok
  replace C : Cx wC cJ13_bitCount_95d88 2 RJ13 wsJ13_bitCount_95d88 (some .int) [] p l s m args meth c G A := C
  show J wC 2 rmJ13_bitCount_95d88 p l e s m args below meth c G A (QQ 1 wC okC G Qr Qx A below args s rmJ13_bitCount_95d88.cells rmJ13_bitCount_95d88.slots) 0 0 S [some (lV x0), none] [] 55
  refine J_lload_n (pc := 55) C dJ13_bitCount_95d88_55 rfl ?_
  obtain ⟨o1, h2⟩ := h
  refine J_l2i (pc := 56) C dJ13_bitCount_95d88_56 o1 ?_
  refine J_bipush (pc := 57) C dJ13_bitCount_95d88_57 (by decide) ?_
  refine J_iand (pc := 59) C dJ13_bitCount_95d88_59 ?_
  exact J_iret (pc := 60) C dJ13_bitCount_95d88_60 (r_zand _ _) hok h2 (by decide) (by decide)
def rmJ9_floorMod_f86c9 : Room := { frames := 0, cells := 0, slots := 0, locals := 0 }
def M_J9_floorMod_f86c9 (a0 a1 : Int) (S : St) (Qr : Int → St → Prop) (Qx : String → St → Prop) : Prop := r64 a0 → r64 a1 → MM 2 wC okC yJ9_floorMod_f86c9 wsJ9_floorMod_f86c9 rmJ9_floorMod_f86c9 (fun G => [lV a0, lV a1]) S Qr Qx
set_option maxRecDepth 100000 in
set_option maxHeartbeats 4000000 in
theorem vc_J9_floorMod_f86c9 {a0 a1 : Int} {S : St} {Qr : Int → St → Prop} {Qx : String → St → Prop} (h : r64 a0 → r64 a1 → okC S → (0 < a1 ∧ ((0 ≤ (yxor a0 a1) → (r64 (Int.tmod a0 a1) ∧ Qr (Int.tmod a0 a1) S)) ∧ ((yxor a0 a1) < 0 → (r64 (Int.tmod a0 a1) ∧ (((Int.tmod a0 a1) = 0 → Qr (Int.tmod a0 a1) S) ∧ ((Int.tmod a0 a1) ≠ 0 → (r64 ((Int.tmod a0 a1) + a1) ∧ Qr ((Int.tmod a0 a1) + a1) S)))))))) : M_J9_floorMod_f86c9 a0 a1 S Qr Qx := by
  intro ra0 ra1
  refine MM_of adC (by decide +kernel) rfl (Lf := fun G => [some (lV a0), none, some (lV a1), none, none, none]) (fun G => by show _ ≤ _; exact Nat.le_of_ble_eq_true rfl) (fun G => rfl) ?_
  intro p l e s m args below meth c G A C hok
  have h := h ra0 ra1 hok
  replace C : Cx wC cJ9_floorMod_f86c9 6 RJ9 wsJ9_floorMod_f86c9 (some .long) [] p l s m args meth c G A := C
  show J wC 6 rmJ9_floorMod_f86c9 p l e s m args below meth c G A (QQ 2 wC okC G Qr Qx A below args s rmJ9_floorMod_f86c9.cells rmJ9_floorMod_f86c9.slots) 0 0 S [some (lV a0), none, some (lV a1), none, none, none] [] 0
  refine J_lload_n (pc := 0) C dJ9_floorMod_f86c9_0 rfl ?_
  refine J_lload_n (pc := 1) C dJ9_floorMod_f86c9_1 rfl ?_
  obtain ⟨o1, h2⟩ := h
  refine J_lrem (pc := 2) C dJ9_floorMod_f86c9_2 ra0 ra1 o1 ?_
  refine J_lstore (pc := 3) C dJ9_floorMod_f86c9_3 (by decide) ?_
  refine J_lload_n (pc := 5) C dJ9_floorMod_f86c9_5 rfl ?_
  refine J_lload_n (pc := 6) C dJ9_floorMod_f86c9_6 rfl ?_
  refine J_lxor (pc := 7) C dJ9_floorMod_f86c9_7 ?_
  refine J_lconst (pc := 8) C dJ9_floorMod_f86c9_8 ?_
  obtain ⟨h3, h4⟩ := h2
  refine J_lcmp_ge (pc := 9) (tgt := 25) C dJ9_floorMod_f86c9_9 dJ9_floorMod_f86c9_10 (by decide) (r_yxor _ _) (by decide) (fun cb => ?_) (fun cb => ?_)
  · have h3 := h3 cb
    refine J_lload (pc := 25) C dJ9_floorMod_f86c9_25 rfl ?_
    obtain ⟨o5, h6⟩ := h3
    exact J_lret (pc := 27) C dJ9_floorMod_f86c9_27 o5 hok h6 (by decide) (by decide)
  · have h4 := h4 cb
    refine J_lload (pc := 13) C dJ9_floorMod_f86c9_13 rfl ?_
    refine J_lconst (pc := 15) C dJ9_floorMod_f86c9_15 ?_
    obtain ⟨o7, h8⟩ := h4
    obtain ⟨h9, h10⟩ := h8
    refine J_lcmp_eq (pc := 16) (tgt := 25) C dJ9_floorMod_f86c9_16 dJ9_floorMod_f86c9_17 (by decide) o7 (by decide) (fun cb => ?_) (fun cb => ?_)
    · have h9 := h9 cb
      refine J_lload (pc := 25) C dJ9_floorMod_f86c9_25 rfl ?_
      exact J_lret (pc := 27) C dJ9_floorMod_f86c9_27 o7 hok h9 (by decide) (by decide)
    · have h10 := h10 cb
      refine J_lload (pc := 20) C dJ9_floorMod_f86c9_20 rfl ?_
      refine J_lload_n (pc := 22) C dJ9_floorMod_f86c9_22 rfl ?_
      refine J_ladd (pc := 23) C dJ9_floorMod_f86c9_23 ?_
      obtain ⟨o11, h12⟩ := h10
      exact J_lret (pc := 24) C dJ9_floorMod_f86c9_24 o11 hok h12 (by decide) (by decide)
def rmX0_add : Room := { frames := 1, cells := 0, slots := 0, locals := 25 }
theorem mX0_add_f20 : Cond.fieldLink RX0 20 "Stresswork$Grid" "rows" "I" ∈ wsX0_add := by decide +kernel
theorem nX0_add_X0 : ∀ x ∈ wsX00, x ∈ wsX0_add := by decide +kernel
theorem mX0_add_f24 : Cond.fieldLink RX0 24 "Stresswork$Grid" "columns" "I" ∈ wsX0_add := by decide +kernel
theorem mX0_add_f13 : Cond.fieldLink RX0 13 "Stresswork$Grid" "cells" "[[J" ∈ wsX0_add := by decide +kernel
theorem mX0_add_c36 : Cond.constantLong RX0 36 (1000003) ∈ wsX0_add := by decide +kernel
def M_X0_add (a0 a1 a2 : Int) (S : St) (Qr : Int → St → Prop) (Qx : String → St → Prop) : Prop := r32 a0 → r32 a1 → r32 a2 → MM 0 wC okC yX0_add wsX0_add rmX0_add (fun G => [.ref (G.2.2 5), iV a0, iV a1, iV a2]) S Qr Qx
set_option maxRecDepth 100000 in
set_option maxHeartbeats 4000000 in
theorem vc_X0_add {a0 a1 a2 : Int} {S : St} {Qr : Int → St → Prop} {Qx : String → St → Prop} (h : r32 a0 → r32 a1 → r32 a2 → okC S → ((a0 < 0 → Qr 0 S) ∧ (0 ≤ a0 → (((S 5 2) ≤ a0 → Qr 0 S) ∧ (a0 < (S 5 2) → ((a1 < 0 → Qr 0 S) ∧ (0 ≤ a1 → (((S 5 3) ≤ a1 → Qr 0 S) ∧ (a1 < (S 5 3) → (ix a0 40 ∧ (ix a1 40 ∧ (r64 ((S 22 (40 * a0 + a1)) + a2) ∧ M_J9_floorMod_f86c9 ((S 22 (40 * a0 + a1)) + a2) 1000003 S (fun rv18 S16 => r64 rv18 → okC S16 → Qr 0 (up S16 22 (40 * a0 + a1) rv18)) Qx)))))))))))) : M_X0_add a0 a1 a2 S Qr Qx := by
  intro ra0 ra1 ra2
  refine MM_of adC (by decide +kernel) rfl (Lf := fun G => [some (.ref (G.2.2 5)), some (iV a0), some (iV a1), some (iV a2)]) (fun G => by show _ ≤ _; exact Nat.le_of_ble_eq_true rfl) (fun G => rfl) ?_
  intro p l e s m args below meth c G A C hok
  have h := h ra0 ra1 ra2 hok
  replace C : Cx wC cX0_add 4 RX0 wsX0_add none [] p l s m args meth c G A := C
  show J wC 4 rmX0_add p l e s m args below meth c G A (QQ 0 wC okC G Qr Qx A below args s rmX0_add.cells rmX0_add.slots) 0 0 S [some (.ref (G.2.2 5)), some (iV a0), some (iV a1), some (iV a2)] [] 0
  refine J_iload_n (pc := 0) C dX0_add_0 rfl ?_
  obtain ⟨h1, h2⟩ := h
  refine J_if_lt (pc := 1) (tgt := 49) C dX0_add_1 (by decide) ra0 (fun cb => ?_) (fun cb => ?_)
  · have h1 := h1 cb
    exact J_vret (pc := 49) C dX0_add_49 hok h1 (by decide) (by decide)
  · have h2 := h2 cb
    refine J_iload_n (pc := 4) C dX0_add_4 rfl ?_
    refine J_aload_n (pc := 5) C dX0_add_5 rfl ?_
    refine J_get (pc := 6) C dX0_add_6 5 rfl rfl nX0_add_X0 2 (by decide) mX0_add_f20 rfl (v := iV (S 5 2)) rfl ?_
    obtain ⟨h3, h4⟩ := h2
    refine J_icmp_ge (pc := 9) (tgt := 49) C dX0_add_9 (by decide) ra0 (hok 5 2) (fun cb => ?_) (fun cb => ?_)
    · have h3 := h3 cb
      exact J_vret (pc := 49) C dX0_add_49 hok h3 (by decide) (by decide)
    · have h4 := h4 cb
      refine J_iload_n (pc := 12) C dX0_add_12 rfl ?_
      obtain ⟨h5, h6⟩ := h4
      refine J_if_lt (pc := 13) (tgt := 49) C dX0_add_13 (by decide) ra1 (fun cb => ?_) (fun cb => ?_)
      · have h5 := h5 cb
        exact J_vret (pc := 49) C dX0_add_49 hok h5 (by decide) (by decide)
      · have h6 := h6 cb
        refine J_iload_n (pc := 16) C dX0_add_16 rfl ?_
        refine J_aload_n (pc := 17) C dX0_add_17 rfl ?_
        refine J_get (pc := 18) C dX0_add_18 5 rfl rfl nX0_add_X0 3 (by decide) mX0_add_f24 rfl (v := iV (S 5 3)) rfl ?_
        obtain ⟨h7, h8⟩ := h6
        refine J_icmp_ge (pc := 21) (tgt := 49) C dX0_add_21 (by decide) ra1 (hok 5 3) (fun cb => ?_) (fun cb => ?_)
        · have h7 := h7 cb
          exact J_vret (pc := 49) C dX0_add_49 hok h7 (by decide) (by decide)
        · have h8 := h8 cb
          refine J_aload_n (pc := 24) C dX0_add_24 rfl ?_
          refine J_get (pc := 25) C dX0_add_25 5 rfl rfl nX0_add_X0 0 (by decide) mX0_add_f13 rfl (v := .ref (G.2.2 22)) rfl ?_
          refine J_iload_n (pc := 28) C dX0_add_28 rfl ?_
          obtain ⟨o9, h10⟩ := h8
          refine J_aald (pc := 29) C dX0_add_29 o9 ?_
          refine J_iload_n (pc := 30) C dX0_add_30 rfl ?_
          refine J_aload_n (pc := 31) C dX0_add_31 rfl ?_
          refine J_get (pc := 32) C dX0_add_32 5 rfl rfl nX0_add_X0 0 (by decide) mX0_add_f13 rfl (v := .ref (G.2.2 22)) rfl ?_
          refine J_iload_n (pc := 35) C dX0_add_35 rfl ?_
          refine J_aald (pc := 36) C dX0_add_36 o9 ?_
          refine J_iload_n (pc := 37) C dX0_add_37 rfl ?_
          obtain ⟨o11, h12⟩ := h10
          refine J_rld (pc := 38) C dX0_add_38 o9 o11 ?_
          refine J_iload_n (pc := 39) C dX0_add_39 rfl ?_
          refine J_i2l (pc := 40) C dX0_add_40 ra2 ?_
          refine J_ladd (pc := 41) C dX0_add_41 ?_
          refine J_ldc2 (pc := 42) (z := 1000003) C mX0_add_c36 (by decide) dX0_add_42 ?_
          obtain ⟨o13, h14⟩ := h12
          refine J_c2 (pc := 45) C (J_rS (pc := 45) C (h14 o13 (by decide)) dX0_add_45 rfl rfl (va_cwS 2 C.1.2.2.2.2 gX0_add_J9_floorMod_f86c9 rfl rfl rfl (by decide +kernel) ⟨Nat.le_of_ble_eq_true rfl, Nat.le_of_ble_eq_true rfl⟩) hok (Nat.le_of_ble_eq_true rfl) ⟨Nat.le_of_ble_eq_true rfl, Nat.le_of_ble_eq_true rfl⟩) (fun E9 S9 ok9 q9 => JX_out C ok9 q9 (by decide) (by decide)) (fun rv18 S16 hr19 hok17 h15 => ?_)
          have h15 := h15 hr19 hok17
          refine J_rst (pc := 48) C dX0_add_48 o9 o11 ?_
          have hok20 := okC_up (k := 22) (j := (40 * a0 + a1)) hok17 (show rngC 22 rv18 from hr19)
          exact J_vret (pc := 49) C dX0_add_49 hok20 h15 (by decide) (by decide)
def rmX0_begin : Room := { frames := 1, cells := 0, slots := 0, locals := 14 }
theorem mX0_begin_l27 : Cond.methodLink RX0 27 Lib.Math.max.name ∈ wsX0_begin := by decide +kernel
theorem mX0_begin_smax : Cond.static Lib.Math.max.name ∈ wsX0_begin := by decide +kernel
theorem mX0_begin_iMath : Cond.initialized "java/lang/Math" ∈ wsX0_begin := by decide +kernel
theorem mX0_begin_kmax : Cond.code Lib.Math.max.name Lib.Math.max.code 2 (some .int) ∈ wsX0_begin := by decide +kernel
theorem mX0_begin_l33 : Cond.methodLink RX0 33 Lib.Math.min.name ∈ wsX0_begin := by decide +kernel
theorem mX0_begin_smin : Cond.static Lib.Math.min.name ∈ wsX0_begin := by decide +kernel
theorem mX0_begin_kmin : Cond.code Lib.Math.min.name Lib.Math.min.code 2 (some .int) ∈ wsX0_begin := by decide +kernel
theorem mX0_begin_f20 : Cond.fieldLink RX0 20 "Stresswork$Grid" "rows" "I" ∈ wsX0_begin := by decide +kernel
theorem nX0_begin_X0 : ∀ x ∈ wsX00, x ∈ wsX0_begin := by decide +kernel
theorem mX0_begin_f24 : Cond.fieldLink RX0 24 "Stresswork$Grid" "columns" "I" ∈ wsX0_begin := by decide +kernel
theorem mX0_begin_f13 : Cond.fieldLink RX0 13 "Stresswork$Grid" "cells" "[[J" ∈ wsX0_begin := by decide +kernel
def M_X0_begin (a0 a1 : Int) (S : St) (Qr : Int → St → Prop) (Qx : String → St → Prop) : Prop := r32 a0 → r32 a1 → MM 0 wC okC yX0_begin wsX0_begin rmX0_begin (fun G => [.ref (G.2.2 5), iV a0, iV a1]) S Qr Qx
def R_X0_begin_43 (x3 x4 : Int) (S : St) (Qr : Int → St → Prop) (Qx : String → St → Prop) : Prop := r32 x3 → r32 x4 → RR 0 wC okC wsX0_begin rmX0_begin cX0_begin 6 RX0 none [] 0 0 (fun G => [some (.ref (G.2.2 5)), none, none, some (iV x3), some (iV x4), none]) (fun G => []) 43 S Qr Qx
def R_X0_begin_52 (x3 x4 x5 : Int) (S : St) (Qr : Int → St → Prop) (Qx : String → St → Prop) : Prop := r32 x3 → r32 x4 → r32 x5 → RR 0 wC okC wsX0_begin rmX0_begin cX0_begin 6 RX0 none [] 0 0 (fun G => [some (.ref (G.2.2 5)), none, none, some (iV x3), some (iV x4), some (iV x5)]) (fun G => []) 52 S Qr Qx
set_option maxRecDepth 100000 in
set_option maxHeartbeats 4000000 in
theorem vc_X0_begin {a0 a1 : Int} {S : St} {Qr : Int → St → Prop} {Qx : String → St → Prop} (h : r32 a0 → r32 a1 → okC S → R_X0_begin_43 (if (if 40 < (if a0 < 0 then 0 else a0) then 40 else (if a0 < 0 then 0 else a0)) < (if 40 < (if a1 < 0 then 0 else a1) then 40 else (if a1 < 0 then 0 else a1)) then (if 40 < (if a1 < 0 then 0 else a1) then 40 else (if a1 < 0 then 0 else a1)) else (if 40 < (if a0 < 0 then 0 else a0) then 40 else (if a0 < 0 then 0 else a0))) 0 (up (up S 5 2 (if 40 < (if a0 < 0 then 0 else a0) then 40 else (if a0 < 0 then 0 else a0))) 5 3 (if 40 < (if a1 < 0 then 0 else a1) then 40 else (if a1 < 0 then 0 else a1))) Qr Qx) : M_X0_begin a0 a1 S Qr Qx := by
  intro ra0 ra1
  refine MM_of adC (by decide +kernel) rfl (Lf := fun G => [some (.ref (G.2.2 5)), some (iV a0), some (iV a1), none, none, none]) (fun G => by show _ ≤ _; exact Nat.le_of_ble_eq_true rfl) (fun G => rfl) ?_
  intro p l e s m args below meth c G A C hok
  have h := h ra0 ra1 hok
  replace C : Cx wC cX0_begin 6 RX0 wsX0_begin none [] p l s m args meth c G A := C
  show J wC 6 rmX0_begin p l e s m args below meth c G A (QQ 0 wC okC G Qr Qx A below args s rmX0_begin.cells rmX0_begin.slots) 0 0 S [some (.ref (G.2.2 5)), some (iV a0), some (iV a1), none, none, none] [] 0
  refine J_aload_n (pc := 0) C dX0_begin_0 rfl ?_
  refine J_iload_n (pc := 1) C dX0_begin_1 rfl ?_
  refine J_iconst (pc := 2) C dX0_begin_2 ?_
  refine J_mmax (pc := 3) C dX0_begin_3 mX0_begin_l27 mX0_begin_smax mX0_begin_iMath mX0_begin_kmax (by decide) (Nat.le_of_ble_eq_true rfl) (by decide) (by decide) ra0 (by decide) ?_
  refine J_bipush (pc := 6) C dX0_begin_6 (by decide) ?_
  refine J_mmin (pc := 8) C dX0_begin_8 mX0_begin_l33 mX0_begin_smin mX0_begin_iMath mX0_begin_kmin (by decide) (Nat.le_of_ble_eq_true rfl) (by decide) (by decide) (r_ite (by decide) ra0) (by decide) ?_
  refine J_put (pc := 11) C dX0_begin_11 5 rfl rfl nX0_begin_X0 tyX0 tyX0_ok nmX0 2 (by decide) mX0_begin_f20 rfl rfl (v := iV (if 40 < (if a0 < 0 then 0 else a0) then 40 else (if a0 < 0 then 0 else a0))) rfl rfl (Nat.le_of_ble_eq_true rfl) (sC_5_2 G S (if 40 < (if a0 < 0 then 0 else a0) then 40 else (if a0 < 0 then 0 else a0))) ?_
  have hok1 := okC_up (k := 5) (j := 2) hok (show rngC 5 (if 40 < (if a0 < 0 then 0 else a0) then 40 else (if a0 < 0 then 0 else a0)) from (r_ite (by decide) (r_ite (by decide) ra0)))
  refine J_aload_n (pc := 14) C dX0_begin_14 rfl ?_
  refine J_iload_n (pc := 15) C dX0_begin_15 rfl ?_
  refine J_iconst (pc := 16) C dX0_begin_16 ?_
  refine J_mmax (pc := 17) C dX0_begin_17 mX0_begin_l27 mX0_begin_smax mX0_begin_iMath mX0_begin_kmax (by decide) (Nat.le_of_ble_eq_true rfl) (by decide) (by decide) ra1 (by decide) ?_
  refine J_bipush (pc := 20) C dX0_begin_20 (by decide) ?_
  refine J_mmin (pc := 22) C dX0_begin_22 mX0_begin_l33 mX0_begin_smin mX0_begin_iMath mX0_begin_kmin (by decide) (Nat.le_of_ble_eq_true rfl) (by decide) (by decide) (r_ite (by decide) ra1) (by decide) ?_
  refine J_put (pc := 25) C dX0_begin_25 5 rfl rfl nX0_begin_X0 tyX0 tyX0_ok nmX0 3 (by decide) mX0_begin_f24 rfl rfl (v := iV (if 40 < (if a1 < 0 then 0 else a1) then 40 else (if a1 < 0 then 0 else a1))) rfl rfl (Nat.le_of_ble_eq_true rfl) (sC_5_3 G (up S 5 2 (if 40 < (if a0 < 0 then 0 else a0) then 40 else (if a0 < 0 then 0 else a0))) (if 40 < (if a1 < 0 then 0 else a1) then 40 else (if a1 < 0 then 0 else a1))) ?_
  have hok2 := okC_up (k := 5) (j := 3) hok1 (show rngC 5 (if 40 < (if a1 < 0 then 0 else a1) then 40 else (if a1 < 0 then 0 else a1)) from (r_ite (by decide) (r_ite (by decide) ra1)))
  refine J_aload_n (pc := 28) C dX0_begin_28 rfl ?_
  refine J_get (pc := 29) C dX0_begin_29 5 rfl rfl nX0_begin_X0 2 (by decide) mX0_begin_f20 rfl (v := iV (if 40 < (if a0 < 0 then 0 else a0) then 40 else (if a0 < 0 then 0 else a0))) rfl ?_
  refine J_aload_n (pc := 32) C dX0_begin_32 rfl ?_
  refine J_get (pc := 33) C dX0_begin_33 5 rfl rfl nX0_begin_X0 3 (by decide) mX0_begin_f24 rfl (v := iV (if 40 < (if a1 < 0 then 0 else a1) then 40 else (if a1 < 0 then 0 else a1))) rfl ?_
  refine J_mmax (pc := 36) C dX0_begin_36 mX0_begin_l27 mX0_begin_smax mX0_begin_iMath mX0_begin_kmax (by decide) (Nat.le_of_ble_eq_true rfl) (by decide) (by decide) (r_ite (by decide) (r_ite (by decide) ra0)) (r_ite (by decide) (r_ite (by decide) ra1)) ?_
  refine J_istore_n (pc := 39) C dX0_begin_39 (by decide) ?_
  refine J_iconst (pc := 40) C dX0_begin_40 ?_
  refine J_istore (pc := 41) C dX0_begin_41 (by decide) ?_
  exact J_sub (L1 := [some (.ref (G.2.2 5)), none, none, some (iV (if (if 40 < (if a0 < 0 then 0 else a0) then 40 else (if a0 < 0 then 0 else a0)) < (if 40 < (if a1 < 0 then 0 else a1) then 40 else (if a1 < 0 then 0 else a1)) then (if 40 < (if a1 < 0 then 0 else a1) then 40 else (if a1 < 0 then 0 else a1)) else (if 40 < (if a0 < 0 then 0 else a0) then 40 else (if a0 < 0 then 0 else a0)))), some (iV 0), none]) ⟨rfl, ⟨rfl, ⟨rfl, trivial⟩⟩⟩ (h (r_ite (r_ite (by decide) (r_ite (by decide) ra1)) (r_ite (by decide) (r_ite (by decide) ra0))) (by decide) p l e s m args below meth c G A C hok2)
set_option maxRecDepth 100000 in
set_option maxHeartbeats 4000000 in
theorem vc_X0_begin_43 {x3 x4 : Int} {S : St} {Qr : Int → St → Prop} {Qx : String → St → Prop} (h : r32 x3 → r32 x4 → okC S → ((x3 ≤ x4 → Qr 0 S) ∧ (x4 < x3 → R_X0_begin_52 x3 x4 0 S Qr Qx))) : R_X0_begin_43 x3 x4 S Qr Qx := by
  intro rx3 rx4
  intro p l e s m args below meth c G A C hok
  have h := h rx3 rx4 hok
  replace C : Cx wC cX0_begin 6 RX0 wsX0_begin none [] p l s m args meth c G A := C
  show J wC 6 rmX0_begin p l e s m args below meth c G A (QQ 0 wC okC G Qr Qx A below args s rmX0_begin.cells rmX0_begin.slots) 0 0 S [some (.ref (G.2.2 5)), none, none, some (iV x3), some (iV x4), none] [] 43
  refine J_iload (pc := 43) C dX0_begin_43 rfl ?_
  refine J_iload_n (pc := 45) C dX0_begin_45 rfl ?_
  obtain ⟨h1, h2⟩ := h
  refine J_icmp_ge (pc := 46) (tgt := 81) C dX0_begin_46 (by decide) rx4 rx3 (fun cb => ?_) (fun cb => ?_)
  · have h1 := h1 cb
    exact J_vret (pc := 81) C dX0_begin_81 hok h1 (by decide) (by decide)
  · have h2 := h2 cb
    refine J_iconst (pc := 49) C dX0_begin_49 ?_
    refine J_istore (pc := 50) C dX0_begin_50 (by decide) ?_
    exact J_sub (L1 := [some (.ref (G.2.2 5)), none, none, some (iV x3), some (iV x4), some (iV 0)]) ⟨rfl, ⟨rfl, ⟨rfl, ⟨rfl, trivial⟩⟩⟩⟩ (h2 rx3 rx4 (by decide) p l e s m args below meth c G A C hok)
set_option maxRecDepth 100000 in
set_option maxHeartbeats 4000000 in
theorem vc_X0_begin_52 {x3 x4 x5 : Int} {S : St} {Qr : Int → St → Prop} {Qx : String → St → Prop} (h : r32 x3 → r32 x4 → r32 x5 → okC S → ((x3 ≤ x5 → (r32 (x4 + 1) ∧ R_X0_begin_43 x3 (x4 + 1) S Qr Qx)) ∧ (x5 < x3 → (ix x4 40 ∧ (ix x5 40 ∧ (r32 (x5 + 1) ∧ R_X0_begin_52 x3 x4 (x5 + 1) (up S 22 (40 * x4 + x5) 0) Qr Qx)))))) : R_X0_begin_52 x3 x4 x5 S Qr Qx := by
  intro rx3 rx4 rx5
  intro p l e s m args below meth c G A C hok
  have h := h rx3 rx4 rx5 hok
  replace C : Cx wC cX0_begin 6 RX0 wsX0_begin none [] p l s m args meth c G A := C
  show J wC 6 rmX0_begin p l e s m args below meth c G A (QQ 0 wC okC G Qr Qx A below args s rmX0_begin.cells rmX0_begin.slots) 0 0 S [some (.ref (G.2.2 5)), none, none, some (iV x3), some (iV x4), some (iV x5)] [] 52
  refine J_iload (pc := 52) C dX0_begin_52 rfl ?_
  refine J_iload_n (pc := 54) C dX0_begin_54 rfl ?_
  obtain ⟨h1, h2⟩ := h
  refine J_icmp_ge (pc := 55) (tgt := 75) C dX0_begin_55 (by decide) rx5 rx3 (fun cb => ?_) (fun cb => ?_)
  · have h1 := h1 cb
    refine J_iinc (pc := 75) C dX0_begin_75 rfl (by decide) ?_
    refine J_goto (pc := 78) (tgt := 43) C dX0_begin_78 (by decide) ?_
    obtain ⟨o3, h4⟩ := h1
    exact J_sub (L1 := [some (.ref (G.2.2 5)), none, none, some (iV x3), some (iV (x4 + 1)), none]) ⟨rfl, ⟨rfl, ⟨rfl, trivial⟩⟩⟩ (h4 rx3 o3 p l e s m args below meth c G A C hok)
  · have h2 := h2 cb
    refine J_aload_n (pc := 58) C dX0_begin_58 rfl ?_
    refine J_get (pc := 59) C dX0_begin_59 5 rfl rfl nX0_begin_X0 0 (by decide) mX0_begin_f13 rfl (v := .ref (G.2.2 22)) rfl ?_
    refine J_iload (pc := 62) C dX0_begin_62 rfl ?_
    obtain ⟨o5, h6⟩ := h2
    refine J_aald (pc := 64) C dX0_begin_64 o5 ?_
    refine J_iload (pc := 65) C dX0_begin_65 rfl ?_
    refine J_lconst (pc := 67) C dX0_begin_67 ?_
    obtain ⟨o7, h8⟩ := h6
    refine J_rst (pc := 68) C dX0_begin_68 o5 o7 ?_
    have hok9 := okC_up (k := 22) (j := (40 * x4 + x5)) hok (show rngC 22 0 from (by decide : r64 0))
    refine J_iinc (pc := 69) C dX0_begin_69 rfl (by decide) ?_
    refine J_goto (pc := 72) (tgt := 52) C dX0_begin_72 (by decide) ?_
    obtain ⟨o10, h11⟩ := h8
    exact J_sub (L1 := [some (.ref (G.2.2 5)), none, none, some (iV x3), some (iV x4), some (iV (x5 + 1))]) ⟨rfl, ⟨rfl, ⟨rfl, ⟨rfl, trivial⟩⟩⟩⟩ (h11 rx3 rx4 o10 p l e s m args below meth c G A C hok9)
def rmX0_takeOff : Room := { frames := 0, cells := 0, slots := 0, locals := 0 }
theorem mX0_takeOff_f24 : Cond.fieldLink RX0 24 "Stresswork$Grid" "columns" "I" ∈ wsX0_takeOff := by decide +kernel
theorem nX0_takeOff_X0 : ∀ x ∈ wsX00, x ∈ wsX0_takeOff := by decide +kernel
theorem mX0_takeOff_f13 : Cond.fieldLink RX0 13 "Stresswork$Grid" "cells" "[[J" ∈ wsX0_takeOff := by decide +kernel
theorem mX0_takeOff_c36 : Cond.constantLong RX0 36 (1000003) ∈ wsX0_takeOff := by decide +kernel
def M_X0_takeOff (a0 a1 a2 : Int) (S : St) (Qr : Int → St → Prop) (Qx : String → St → Prop) : Prop := r32 a0 → r32 a1 → r64 a2 → MM 0 wC okC yX0_takeOff wsX0_takeOff rmX0_takeOff (fun G => [.ref (G.2.2 5), iV a0, iV a1, lV a2]) S Qr Qx
def R_X0_takeOff_3 (x1 x2 x3 x5 : Int) (S : St) (Qr : Int → St → Prop) (Qx : String → St → Prop) : Prop := r32 x1 → r32 x2 → r64 x3 → r32 x5 → RR 0 wC okC wsX0_takeOff rmX0_takeOff cX0_takeOff 6 RX0 none [] 0 0 (fun G => [some (.ref (G.2.2 5)), some (iV x1), some (iV x2), some (lV x3), none, some (iV x5)]) (fun G => []) 3 S Qr Qx
set_option maxRecDepth 100000 in
set_option maxHeartbeats 4000000 in
theorem vc_X0_takeOff {a0 a1 a2 : Int} {S : St} {Qr : Int → St → Prop} {Qx : String → St → Prop} (h : r32 a0 → r32 a1 → r64 a2 → okC S → R_X0_takeOff_3 a0 a1 a2 0 S Qr Qx) : M_X0_takeOff a0 a1 a2 S Qr Qx := by
  intro ra0 ra1 ra2
  refine MM_of adC (by decide +kernel) rfl (Lf := fun G => [some (.ref (G.2.2 5)), some (iV a0), some (iV a1), some (lV a2), none, none]) (fun G => by show _ ≤ _; exact Nat.le_of_ble_eq_true rfl) (fun G => rfl) ?_
  intro p l e s m args below meth c G A C hok
  have h := h ra0 ra1 ra2 hok
  replace C : Cx wC cX0_takeOff 6 RX0 wsX0_takeOff none [] p l s m args meth c G A := C
  show J wC 6 rmX0_takeOff p l e s m args below meth c G A (QQ 0 wC okC G Qr Qx A below args s rmX0_takeOff.cells rmX0_takeOff.slots) 0 0 S [some (.ref (G.2.2 5)), some (iV a0), some (iV a1), some (lV a2), none, none] [] 0
  refine J_iconst (pc := 0) C dX0_takeOff_0 ?_
  refine J_istore (pc := 1) C dX0_takeOff_1 (by decide) ?_
  exact J_sub (L1 := [some (.ref (G.2.2 5)), some (iV a0), some (iV a1), some (lV a2), none, some (iV 0)]) ⟨rfl, ⟨rfl, ⟨rfl, ⟨rfl, ⟨rfl, trivial⟩⟩⟩⟩⟩ (h ra0 ra1 ra2 (by decide) p l e s m args below meth c G A C hok)
set_option maxRecDepth 100000 in
set_option maxHeartbeats 4000000 in
theorem vc_X0_takeOff_3 {x1 x2 x3 x5 : Int} {S : St} {Qr : Int → St → Prop} {Qx : String → St → Prop} (h : r32 x1 → r32 x2 → r64 x3 → r32 x5 → okC S → (((S 5 3) ≤ x5 → Qr 0 S) ∧ (x5 < (S 5 3) → (ix x1 40 ∧ (ix x5 40 ∧ (ix x2 40 ∧ (r64 ((S 22 (40 * x1 + x5)) + (x3 * (S 22 (40 * x2 + x5)))) ∧ (r64 (Int.tmod ((S 22 (40 * x1 + x5)) + (x3 * (S 22 (40 * x2 + x5)))) 1000003) ∧ (r32 (x5 + 1) ∧ R_X0_takeOff_3 x1 x2 x3 (x5 + 1) (up S 22 (40 * x1 + x5) (Int.tmod ((S 22 (40 * x1 + x5)) + (x3 * (S 22 (40 * x2 + x5)))) 1000003)) Qr Qx))))))))) : R_X0_takeOff_3 x1 x2 x3 x5 S Qr Qx := by
  intro rx1 rx2 rx3 rx5
  intro p l e s m args below meth c G A C hok
  have h := h rx1 rx2 rx3 rx5 hok
  replace C : Cx wC cX0_takeOff 6 RX0 wsX0_takeOff none [] p l s m args meth c G A := C
  show J wC 6 rmX0_takeOff p l e s m args below meth c G A (QQ 0 wC okC G Qr Qx A below args s rmX0_takeOff.cells rmX0_takeOff.slots) 0 0 S [some (.ref (G.2.2 5)), some (iV x1), some (iV x2), some (lV x3), none, some (iV x5)] [] 3
  refine J_iload (pc := 3) C dX0_takeOff_3 rfl ?_
  refine J_aload_n (pc := 5) C dX0_takeOff_5 rfl ?_
  refine J_get (pc := 6) C dX0_takeOff_6 5 rfl rfl nX0_takeOff_X0 3 (by decide) mX0_takeOff_f24 rfl (v := iV (S 5 3)) rfl ?_
  obtain ⟨h1, h2⟩ := h
  refine J_icmp_ge (pc := 9) (tgt := 52) C dX0_takeOff_9 (by decide) rx5 (hok 5 3) (fun cb => ?_) (fun cb => ?_)
  · have h1 := h1 cb
    exact J_vret (pc := 52) C dX0_takeOff_52 hok h1 (by decide) (by decide)
  · have h2 := h2 cb
    refine J_aload_n (pc := 12) C dX0_takeOff_12 rfl ?_
    refine J_get (pc := 13) C dX0_takeOff_13 5 rfl rfl nX0_takeOff_X0 0 (by decide) mX0_takeOff_f13 rfl (v := .ref (G.2.2 22)) rfl ?_
    refine J_iload_n (pc := 16) C dX0_takeOff_16 rfl ?_
    obtain ⟨o3, h4⟩ := h2
    refine J_aald (pc := 17) C dX0_takeOff_17 o3 ?_
    refine J_iload (pc := 18) C dX0_takeOff_18 rfl ?_
    refine J_aload_n (pc := 20) C dX0_takeOff_20 rfl ?_
    refine J_get (pc := 21) C dX0_takeOff_21 5 rfl rfl nX0_takeOff_X0 0 (by decide) mX0_takeOff_f13 rfl (v := .ref (G.2.2 22)) rfl ?_
    refine J_iload_n (pc := 24) C dX0_takeOff_24 rfl ?_
    refine J_aald (pc := 25) C dX0_takeOff_25 o3 ?_
    refine J_iload (pc := 26) C dX0_takeOff_26 rfl ?_
    obtain ⟨o5, h6⟩ := h4
    refine J_rld (pc := 28) C dX0_takeOff_28 o3 o5 ?_
    refine J_lload_n (pc := 29) C dX0_takeOff_29 rfl ?_
    refine J_aload_n (pc := 30) C dX0_takeOff_30 rfl ?_
    refine J_get (pc := 31) C dX0_takeOff_31 5 rfl rfl nX0_takeOff_X0 0 (by decide) mX0_takeOff_f13 rfl (v := .ref (G.2.2 22)) rfl ?_
    refine J_iload_n (pc := 34) C dX0_takeOff_34 rfl ?_
    obtain ⟨o7, h8⟩ := h6
    refine J_aald (pc := 35) C dX0_takeOff_35 o7 ?_
    refine J_iload (pc := 36) C dX0_takeOff_36 rfl ?_
    refine J_rld (pc := 38) C dX0_takeOff_38 o7 o5 ?_
    refine J_lmul (pc := 39) C dX0_takeOff_39 ?_
    refine J_ladd (pc := 40) C dX0_takeOff_40 ?_
    refine J_ldc2 (pc := 41) (z := 1000003) C mX0_takeOff_c36 (by decide) dX0_takeOff_41 ?_
    obtain ⟨o9, h10⟩ := h8
    refine J_lrem (pc := 44) C dX0_takeOff_44 o9 (by decide) (by decide) ?_
    obtain ⟨o11, h12⟩ := h10
    refine J_rst (pc := 45) C dX0_takeOff_45 o3 o5 ?_
    have hok13 := okC_up (k := 22) (j := (40 * x1 + x5)) hok (show rngC 22 (Int.tmod ((S 22 (40 * x1 + x5)) + (x3 * (S 22 (40 * x2 + x5)))) 1000003) from o11)
    refine J_iinc (pc := 46) C dX0_takeOff_46 rfl (by decide) ?_
    refine J_goto (pc := 49) (tgt := 3) C dX0_takeOff_49 (by decide) ?_
    obtain ⟨o14, h15⟩ := h12
    exact J_sub (L1 := [some (.ref (G.2.2 5)), some (iV x1), some (iV x2), some (lV x3), none, some (iV (x5 + 1))]) ⟨rfl, ⟨rfl, ⟨rfl, ⟨rfl, ⟨rfl, trivial⟩⟩⟩⟩⟩ (h15 rx1 rx2 rx3 o14 p l e s m args below meth c G A C hok13)
def rmX0_clearColumn : Room := { frames := 1, cells := 0, slots := 0, locals := 25 }
theorem mX0_clearColumn_f20 : Cond.fieldLink RX0 20 "Stresswork$Grid" "rows" "I" ∈ wsX0_clearColumn := by decide +kernel
theorem nX0_clearColumn_X0 : ∀ x ∈ wsX00, x ∈ wsX0_clearColumn := by decide +kernel
theorem mX0_clearColumn_f13 : Cond.fieldLink RX0 13 "Stresswork$Grid" "cells" "[[J" ∈ wsX0_clearColumn := by decide +kernel
theorem mX0_clearColumn_c36 : Cond.constantLong RX0 36 (1000003) ∈ wsX0_clearColumn := by decide +kernel
def M_X0_clearColumn (a0 a1 : Int) (S : St) (Qr : Int → St → Prop) (Qx : String → St → Prop) : Prop := r32 a0 → r32 a1 → MM 0 wC okC yX0_clearColumn wsX0_clearColumn rmX0_clearColumn (fun G => [.ref (G.2.2 5), iV a0, iV a1]) S Qr Qx
def R_X0_clearColumn_2 (x1 x2 x3 : Int) (S : St) (Qr : Int → St → Prop) (Qx : String → St → Prop) : Prop := r32 x1 → r32 x2 → r32 x3 → RR 0 wC okC wsX0_clearColumn rmX0_clearColumn cX0_clearColumn 6 RX0 none [] 0 0 (fun G => [some (.ref (G.2.2 5)), some (iV x1), some (iV x2), some (iV x3), none, none]) (fun G => []) 2 S Qr Qx
set_option maxRecDepth 100000 in
set_option maxHeartbeats 4000000 in
theorem vc_X0_clearColumn {a0 a1 : Int} {S : St} {Qr : Int → St → Prop} {Qx : String → St → Prop} (h : r32 a0 → r32 a1 → okC S → R_X0_clearColumn_2 a0 a1 0 S Qr Qx) : M_X0_clearColumn a0 a1 S Qr Qx := by
  intro ra0 ra1
  refine MM_of adC (by decide +kernel) rfl (Lf := fun G => [some (.ref (G.2.2 5)), some (iV a0), some (iV a1), none, none, none]) (fun G => by show _ ≤ _; exact Nat.le_of_ble_eq_true rfl) (fun G => rfl) ?_
  intro p l e s m args below meth c G A C hok
  have h := h ra0 ra1 hok
  replace C : Cx wC cX0_clearColumn 6 RX0 wsX0_clearColumn none [] p l s m args meth c G A := C
  show J wC 6 rmX0_clearColumn p l e s m args below meth c G A (QQ 0 wC okC G Qr Qx A below args s rmX0_clearColumn.cells rmX0_clearColumn.slots) 0 0 S [some (.ref (G.2.2 5)), some (iV a0), some (iV a1), none, none, none] [] 0
  refine J_iconst (pc := 0) C dX0_clearColumn_0 ?_
  refine J_istore_n (pc := 1) C dX0_clearColumn_1 (by decide) ?_
  exact J_sub (L1 := [some (.ref (G.2.2 5)), some (iV a0), some (iV a1), some (iV 0), none, none]) ⟨rfl, ⟨rfl, ⟨rfl, ⟨rfl, trivial⟩⟩⟩⟩ (h ra0 ra1 (by decide) p l e s m args below meth c G A C hok)
set_option maxRecDepth 100000 in
set_option maxHeartbeats 4000000 in
theorem vc_X0_clearColumn_2 {x1 x2 x3 : Int} {S : St} {Qr : Int → St → Prop} {Qx : String → St → Prop} (h : r32 x1 → r32 x2 → r32 x3 → okC S → (((S 5 2) ≤ x3 → Qr 0 S) ∧ (x3 < (S 5 2) → (ix x3 40 ∧ (ix x2 40 ∧ ((x3 = x1 → (r32 (x3 + 1) ∧ R_X0_clearColumn_2 x1 x2 (x3 + 1) S Qr Qx)) ∧ (x3 ≠ x1 → (((S 22 (40 * x3 + x2)) = 0 → (r32 (x3 + 1) ∧ R_X0_clearColumn_2 x1 x2 (x3 + 1) S Qr Qx)) ∧ ((S 22 (40 * x3 + x2)) ≠ 0 → (r64 (1000003 - (S 22 (40 * x3 + x2))) ∧ M_X0_takeOff x3 x1 (1000003 - (S 22 (40 * x3 + x2))) S (fun _ S18 => okC S18 → (r32 (x3 + 1) ∧ R_X0_clearColumn_2 x1 x2 (x3 + 1) S18 Qr Qx)) Qx)))))))))) : R_X0_clearColumn_2 x1 x2 x3 S Qr Qx := by
  intro rx1 rx2 rx3
  intro p l e s m args below meth c G A C hok
  have h := h rx1 rx2 rx3 hok
  replace C : Cx wC cX0_clearColumn 6 RX0 wsX0_clearColumn none [] p l s m args meth c G A := C
  show J wC 6 rmX0_clearColumn p l e s m args below meth c G A (QQ 0 wC okC G Qr Qx A below args s rmX0_clearColumn.cells rmX0_clearColumn.slots) 0 0 S [some (.ref (G.2.2 5)), some (iV x1), some (iV x2), some (iV x3), none, none] [] 2
  refine J_iload_n (pc := 2) C dX0_clearColumn_2 rfl ?_
  refine J_aload_n (pc := 3) C dX0_clearColumn_3 rfl ?_
  refine J_get (pc := 4) C dX0_clearColumn_4 5 rfl rfl nX0_clearColumn_X0 2 (by decide) mX0_clearColumn_f20 rfl (v := iV (S 5 2)) rfl ?_
  obtain ⟨h1, h2⟩ := h
  refine J_icmp_ge (pc := 7) (tgt := 50) C dX0_clearColumn_7 (by decide) rx3 (hok 5 2) (fun cb => ?_) (fun cb => ?_)
  · have h1 := h1 cb
    exact J_vret (pc := 50) C dX0_clearColumn_50 hok h1 (by decide) (by decide)
  · have h2 := h2 cb
    refine J_aload_n (pc := 10) C dX0_clearColumn_10 rfl ?_
    refine J_get (pc := 11) C dX0_clearColumn_11 5 rfl rfl nX0_clearColumn_X0 0 (by decide) mX0_clearColumn_f13 rfl (v := .ref (G.2.2 22)) rfl ?_
    refine J_iload_n (pc := 14) C dX0_clearColumn_14 rfl ?_
    obtain ⟨o3, h4⟩ := h2
    refine J_aald (pc := 15) C dX0_clearColumn_15 o3 ?_
    refine J_iload_n (pc := 16) C dX0_clearColumn_16 rfl ?_
    obtain ⟨o5, h6⟩ := h4
    refine J_rld (pc := 17) C dX0_clearColumn_17 o3 o5 ?_
    refine J_lstore (pc := 18) C dX0_clearColumn_18 (by decide) ?_
    refine J_iload_n (pc := 20) C dX0_clearColumn_20 rfl ?_
    refine J_iload_n (pc := 21) C dX0_clearColumn_21 rfl ?_
    obtain ⟨h7, h8⟩ := h6
    refine J_icmp_eq (pc := 22) (tgt := 44) C dX0_clearColumn_22 (by decide) rx3 rx1 (fun cb => ?_) (fun cb => ?_)
    · have h7 := h7 cb
      refine J_iinc (pc := 44) C dX0_clearColumn_44 rfl (by decide) ?_
      refine J_goto (pc := 47) (tgt := 2) C dX0_clearColumn_47 (by decide) ?_
      obtain ⟨o9, h10⟩ := h7
      exact J_sub (L1 := [some (.ref (G.2.2 5)), some (iV x1), some (iV x2), some (iV (x3 + 1)), none, none]) ⟨rfl, ⟨rfl, ⟨rfl, ⟨rfl, trivial⟩⟩⟩⟩ (h10 rx1 rx2 o9 p l e s m args below meth c G A C hok)
    · have h8 := h8 cb
      refine J_lload (pc := 25) C dX0_clearColumn_25 rfl ?_
      refine J_lconst (pc := 27) C dX0_clearColumn_27 ?_
      obtain ⟨h11, h12⟩ := h8
      refine J_lcmp_eq (pc := 28) (tgt := 44) C dX0_clearColumn_28 dX0_clearColumn_29 (by decide) (hok 22 (40 * x3 + x2)) (by decide) (fun cb => ?_) (fun cb => ?_)
      · have h11 := h11 cb
        refine J_iinc (pc := 44) C dX0_clearColumn_44 rfl (by decide) ?_
        refine J_goto (pc := 47) (tgt := 2) C dX0_clearColumn_47 (by decide) ?_
        obtain ⟨o13, h14⟩ := h11
        exact J_sub (L1 := [some (.ref (G.2.2 5)), some (iV x1), some (iV x2), some (iV (x3 + 1)), none, none]) ⟨rfl, ⟨rfl, ⟨rfl, ⟨rfl, trivial⟩⟩⟩⟩ (h14 rx1 rx2 o13 p l e s m args below meth c G A C hok)
      · have h12 := h12 cb
        refine J_aload_n (pc := 32) C dX0_clearColumn_32 rfl ?_
        refine J_iload_n (pc := 33) C dX0_clearColumn_33 rfl ?_
        refine J_iload_n (pc := 34) C dX0_clearColumn_34 rfl ?_
        refine J_ldc2 (pc := 35) (z := 1000003) C mX0_clearColumn_c36 (by decide) dX0_clearColumn_35 ?_
        refine J_lload (pc := 38) C dX0_clearColumn_38 rfl ?_
        refine J_lsub (pc := 40) C dX0_clearColumn_40 ?_
        obtain ⟨o15, h16⟩ := h12
        refine J_c0 (pc := 41) C (J_rV (pc := 41) C (h16 rx3 rx1 o15) dX0_clearColumn_41 rfl rfl 5 rfl rfl (cwV 3 C.1.2.2.2.2 gX0_clearColumn_X0_takeOff rfl rfl rfl (by decide +kernel) ⟨Nat.le_of_ble_eq_true rfl, Nat.le_of_ble_eq_true rfl⟩) hok (Nat.le_of_ble_eq_true rfl) ⟨Nat.le_of_ble_eq_true rfl, Nat.le_of_ble_eq_true rfl⟩) (fun E9 S9 ok9 q9 => JX_out C ok9 q9 (by decide) (by decide)) (fun S18 hok19 h17 => ?_)
        have h17 := h17 hok19
        refine J_iinc (pc := 44) C dX0_clearColumn_44 rfl (by decide) ?_
        refine J_goto (pc := 47) (tgt := 2) C dX0_clearColumn_47 (by decide) ?_
        obtain ⟨o22, h23⟩ := h17
        exact J_sub (L1 := [some (.ref (G.2.2 5)), some (iV x1), some (iV x2), some (iV (x3 + 1)), none, none]) ⟨rfl, ⟨rfl, ⟨rfl, ⟨rfl, trivial⟩⟩⟩⟩ (h23 rx1 rx2 o22 p l e s m args below meth c G A C hok19)
def rmX0_freeColumn : Room := { frames := 0, cells := 0, slots := 0, locals := 0 }
theorem mX0_freeColumn_f24 : Cond.fieldLink RX0 24 "Stresswork$Grid" "columns" "I" ∈ wsX0_freeColumn := by decide +kernel
theorem nX0_freeColumn_X0 : ∀ x ∈ wsX00, x ∈ wsX0_freeColumn := by decide +kernel
theorem mX0_freeColumn_f16 : Cond.fieldLink RX0 16 "Stresswork$Grid" "pivotRow" "[I" ∈ wsX0_freeColumn := by decide +kernel
def M_X0_freeColumn (a0 : Int) (S : St) (Qr : Int → St → Prop) (Qx : String → St → Prop) : Prop := r32 a0 → MM 1 wC okC yX0_freeColumn wsX0_freeColumn rmX0_freeColumn (fun G => [.ref (G.2.2 5), iV a0]) S Qr Qx
def R_X0_freeColumn_4 (x1 x2 x3 : Int) (S : St) (Qr : Int → St → Prop) (Qx : String → St → Prop) : Prop := r32 x1 → r32 x2 → r32 x3 → RR 1 wC okC wsX0_freeColumn rmX0_freeColumn cX0_freeColumn 4 RX0 (some .int) [] 0 0 (fun G => [some (.ref (G.2.2 5)), some (iV x1), some (iV x2), some (iV x3)]) (fun G => []) 4 S Qr Qx
set_option maxRecDepth 100000 in
set_option maxHeartbeats 4000000 in
theorem vc_X0_freeColumn {a0 : Int} {S : St} {Qr : Int → St → Prop} {Qx : String → St → Prop} (h : r32 a0 → okC S → R_X0_freeColumn_4 a0 0 0 S Qr Qx) : M_X0_freeColumn a0 S Qr Qx := by
  intro ra0
  refine MM_of adC (by decide +kernel) rfl (Lf := fun G => [some (.ref (G.2.2 5)), some (iV a0), none, none]) (fun G => by show _ ≤ _; exact Nat.le_of_ble_eq_true rfl) (fun G => rfl) ?_
  intro p l e s m args below meth c G A C hok
  have h := h ra0 hok
  replace C : Cx wC cX0_freeColumn 4 RX0 wsX0_freeColumn (some .int) [] p l s m args meth c G A := C
  show J wC 4 rmX0_freeColumn p l e s m args below meth c G A (QQ 1 wC okC G Qr Qx A below args s rmX0_freeColumn.cells rmX0_freeColumn.slots) 0 0 S [some (.ref (G.2.2 5)), some (iV a0), none, none] [] 0
  refine J_iconst (pc := 0) C dX0_freeColumn_0 ?_
  refine J_istore_n (pc := 1) C dX0_freeColumn_1 (by decide) ?_
  refine J_iconst (pc := 2) C dX0_freeColumn_2 ?_
  refine J_istore_n (pc := 3) C dX0_freeColumn_3 (by decide) ?_
  exact J_sub (L1 := [some (.ref (G.2.2 5)), some (iV a0), some (iV 0), some (iV 0)]) ⟨rfl, ⟨rfl, ⟨rfl, ⟨rfl, trivial⟩⟩⟩⟩ (h ra0 (by decide) (by decide) p l e s m args below meth c G A C hok)
set_option maxRecDepth 100000 in
set_option maxHeartbeats 4000000 in
theorem vc_X0_freeColumn_4 {x1 x2 x3 : Int} {S : St} {Qr : Int → St → Prop} {Qx : String → St → Prop} (h : r32 x1 → r32 x2 → r32 x3 → okC S → (((S 5 3) ≤ x3 → Qr (-1) S) ∧ (x3 < (S 5 3) → (ix x3 40 ∧ (((S 23 x3) ≠ (-1) → (r32 (x3 + 1) ∧ R_X0_freeColumn_4 x1 x2 (x3 + 1) S Qr Qx)) ∧ ((S 23 x3) = (-1) → ((x2 ≠ x1 → (r32 (x2 + 1) ∧ (r32 (x3 + 1) ∧ R_X0_freeColumn_4 x1 (x2 + 1) (x3 + 1) S Qr Qx))) ∧ (x2 = x1 → Qr x3 S)))))))) : R_X0_freeColumn_4 x1 x2 x3 S Qr Qx := by
  intro rx1 rx2 rx3
  intro p l e s m args below meth c G A C hok
  have h := h rx1 rx2 rx3 hok
  replace C : Cx wC cX0_freeColumn 4 RX0 wsX0_freeColumn (some .int) [] p l s m args meth c G A := C
  show J wC 4 rmX0_freeColumn p l e s m args below meth c G A (QQ 1 wC okC G Qr Qx A below args s rmX0_freeColumn.cells rmX0_freeColumn.slots) 0 0 S [some (.ref (G.2.2 5)), some (iV x1), some (iV x2), some (iV x3)] [] 4
  refine J_iload_n (pc := 4) C dX0_freeColumn_4 rfl ?_
  refine J_aload_n (pc := 5) C dX0_freeColumn_5 rfl ?_
  refine J_get (pc := 6) C dX0_freeColumn_6 5 rfl rfl nX0_freeColumn_X0 3 (by decide) mX0_freeColumn_f24 rfl (v := iV (S 5 3)) rfl ?_
  obtain ⟨h1, h2⟩ := h
  refine J_icmp_ge (pc := 9) (tgt := 38) C dX0_freeColumn_9 (by decide) rx3 (hok 5 3) (fun cb => ?_) (fun cb => ?_)
  · have h1 := h1 cb
    refine J_iconst (pc := 38) C dX0_freeColumn_38 ?_
    exact J_iret (pc := 39) C dX0_freeColumn_39 (by decide) hok h1 (by decide) (by decide)
  · have h2 := h2 cb
    refine J_aload_n (pc := 12) C dX0_freeColumn_12 rfl ?_
    refine J_get (pc := 13) C dX0_freeColumn_13 5 rfl rfl nX0_freeColumn_X0 1 (by decide) mX0_freeColumn_f16 rfl (v := .ref (G.2.2 23)) rfl ?_
    refine J_iload_n (pc := 16) C dX0_freeColumn_16 rfl ?_
    obtain ⟨o3, h4⟩ := h2
    refine J_iald (pc := 17) C dX0_freeColumn_17 23 23 rfl (by decide) o3 ?_
    refine J_iconst (pc := 18) C dX0_freeColumn_18 ?_
    obtain ⟨h5, h6⟩ := h4
    refine J_icmp_ne (pc := 19) (tgt := 32) C dX0_freeColumn_19 (by decide) (hok 23 x3) (by decide) (fun cb => ?_) (fun cb => ?_)
    · have h5 := h5 cb
      refine J_iinc (pc := 32) C dX0_freeColumn_32 rfl (by decide) ?_
      refine J_goto (pc := 35) (tgt := 4) C dX0_freeColumn_35 (by decide) ?_
      obtain ⟨o7, h8⟩ := h5
      exact J_sub (L1 := [some (.ref (G.2.2 5)), some (iV x1), some (iV x2), some (iV (x3 + 1))]) ⟨rfl, ⟨rfl, ⟨rfl, ⟨rfl, trivial⟩⟩⟩⟩ (h8 rx1 rx2 o7 p l e s m args below meth c G A C hok)
    · have h6 := h6 cb
      refine J_iload_n (pc := 22) C dX0_freeColumn_22 rfl ?_
      refine J_iload_n (pc := 23) C dX0_freeColumn_23 rfl ?_
      obtain ⟨h9, h10⟩ := h6
      refine J_icmp_ne (pc := 24) (tgt := 29) C dX0_freeColumn_24 (by decide) rx2 rx1 (fun cb => ?_) (fun cb => ?_)
      · have h9 := h9 cb
        refine J_iinc (pc := 29) C dX0_freeColumn_29 rfl (by decide) ?_
        refine J_iinc (pc := 32) C dX0_freeColumn_32 rfl (by decide) ?_
        refine J_goto (pc := 35) (tgt := 4) C dX0_freeColumn_35 (by decide) ?_
        obtain ⟨o11, h12⟩ := h9
        obtain ⟨o13, h14⟩ := h12
        exact J_sub (L1 := [some (.ref (G.2.2 5)), some (iV x1), some (iV (x2 + 1)), some (iV (x3 + 1))]) ⟨rfl, ⟨rfl, ⟨rfl, ⟨rfl, trivial⟩⟩⟩⟩ (h14 rx1 o11 o13 p l e s m args below meth c G A C hok)
      · have h10 := h10 cb
        refine J_iload_n (pc := 27) C dX0_freeColumn_27 rfl ?_
        exact J_iret (pc := 28) C dX0_freeColumn_28 rx3 hok h10 (by decide) (by decide)
def rmX0_inverse : Room := { frames := 0, cells := 0, slots := 0, locals := 0 }
theorem mX0_inverse_c63 : Cond.constant RX0 63 (1000001) ∈ wsX0_inverse := by decide +kernel
theorem mX0_inverse_c36 : Cond.constantLong RX0 36 (1000003) ∈ wsX0_inverse := by decide +kernel
def M_X0_inverse (a0 : Int) (S : St) (Qr : Int → St → Prop) (Qx : String → St → Prop) : Prop := r64 a0 → MM 2 wC okC yX0_inverse wsX0_inverse rmX0_inverse (fun G => [lV a0]) S Qr Qx
def R_X0_inverse_9 (x2 x4 x6 : Int) (S : St) (Qr : Int → St → Prop) (Qx : String → St → Prop) : Prop := r64 x2 → r64 x4 → r32 x6 → RR 2 wC okC wsX0_inverse rmX0_inverse cX0_inverse 7 RX0 (some .long) [] 0 0 (fun G => [none, none, some (lV x2), none, some (lV x4), none, some (iV x6)]) (fun G => []) 9 S Qr Qx
set_option maxRecDepth 100000 in
set_option maxHeartbeats 4000000 in
theorem vc_X0_inverse {a0 : Int} {S : St} {Qr : Int → St → Prop} {Qx : String → St → Prop} (h : r64 a0 → okC S → R_X0_inverse_9 1 a0 1000001 S Qr Qx) : M_X0_inverse a0 S Qr Qx := by
  intro ra0
  refine MM_of adC (by decide +kernel) rfl (Lf := fun G => [some (lV a0), none, none, none, none, none, none]) (fun G => by show _ ≤ _; exact Nat.le_of_ble_eq_true rfl) (fun G => rfl) ?_
  intro p l e s m args below meth c G A C hok
  have h := h ra0 hok
  replace C : Cx wC cX0_inverse 7 RX0 wsX0_inverse (some .long) [] p l s m args meth c G A := C
  show J wC 7 rmX0_inverse p l e s m args below meth c G A (QQ 2 wC okC G Qr Qx A below args s rmX0_inverse.cells rmX0_inverse.slots) 0 0 S [some (lV a0), none, none, none, none, none, none] [] 0
  refine J_lconst (pc := 0) C dX0_inverse_0 ?_
  refine J_lstore_n (pc := 1) C dX0_inverse_1 (by decide) ?_
  refine J_lload_n (pc := 2) C dX0_inverse_2 rfl ?_
  refine J_lstore (pc := 3) C dX0_inverse_3 (by decide) ?_
  refine J_ldc (pc := 5) (z := 1000001) C mX0_inverse_c63 (by decide) dX0_inverse_5 ?_
  refine J_istore (pc := 7) C dX0_inverse_7 (by decide) ?_
  exact J_sub (L1 := [none, none, some (lV 1), none, some (lV a0), none, some (iV 1000001)]) ⟨rfl, ⟨rfl, ⟨rfl, trivial⟩⟩⟩ (h (by decide) ra0 (by decide) p l e s m args below meth c G A C hok)
set_option maxRecDepth 100000 in
set_option maxHeartbeats 4000000 in
theorem vc_X0_inverse_9 {x2 x4 x6 : Int} {S : St} {Qr : Int → St → Prop} {Qx : String → St → Prop} (h : r64 x2 → r64 x4 → r32 x6 → okC S → ((x6 ≤ 0 → Qr x2 S) ∧ (0 < x6 → (((zand x6 1) ≠ 1 → (r64 (x4 * x4) ∧ (r64 (Int.tmod (x4 * x4) 1000003) ∧ R_X0_inverse_9 x2 (Int.tmod (x4 * x4) 1000003) (zshr x6 1) S Qr Qx))) ∧ ((zand x6 1) = 1 → (r64 (x2 * x4) ∧ (r64 (x4 * x4) ∧ (r64 (Int.tmod (x2 * x4) 1000003) ∧ (r64 (Int.tmod (x4 * x4) 1000003) ∧ R_X0_inverse_9 (Int.tmod (x2 * x4) 1000003) (Int.tmod (x4 * x4) 1000003) (zshr x6 1) S Qr Qx))))))))) : R_X0_inverse_9 x2 x4 x6 S Qr Qx := by
  intro rx2 rx4 rx6
  intro p l e s m args below meth c G A C hok
  have h := h rx2 rx4 rx6 hok
  replace C : Cx wC cX0_inverse 7 RX0 wsX0_inverse (some .long) [] p l s m args meth c G A := C
  show J wC 7 rmX0_inverse p l e s m args below meth c G A (QQ 2 wC okC G Qr Qx A below args s rmX0_inverse.cells rmX0_inverse.slots) 0 0 S [none, none, some (lV x2), none, some (lV x4), none, some (iV x6)] [] 9
  refine J_iload (pc := 9) C dX0_inverse_9 rfl ?_
  obtain ⟨h1, h2⟩ := h
  refine J_if_le (pc := 11) (tgt := 51) C dX0_inverse_11 (by decide) rx6 (fun cb => ?_) (fun cb => ?_)
  · have h1 := h1 cb
    refine J_lload_n (pc := 51) C dX0_inverse_51 rfl ?_
    exact J_lret (pc := 52) C dX0_inverse_52 rx2 hok h1 (by decide) (by decide)
  · have h2 := h2 cb
    refine J_iload (pc := 14) C dX0_inverse_14 rfl ?_
    refine J_iconst (pc := 16) C dX0_inverse_16 ?_
    refine J_iand (pc := 17) C dX0_inverse_17 ?_
    refine J_iconst (pc := 18) C dX0_inverse_18 ?_
    obtain ⟨h3, h4⟩ := h2
    refine J_icmp_ne (pc := 19) (tgt := 31) C dX0_inverse_19 (by decide) (r_zand _ _) (by decide) (fun cb => ?_) (fun cb => ?_)
    · have h3 := h3 cb
      refine J_lload (pc := 31) C dX0_inverse_31 rfl ?_
      refine J_lload (pc := 33) C dX0_inverse_33 rfl ?_
      refine J_lmul (pc := 35) C dX0_inverse_35 ?_
      refine J_ldc2 (pc := 36) (z := 1000003) C mX0_inverse_c36 (by decide) dX0_inverse_36 ?_
      obtain ⟨o5, h6⟩ := h3
      refine J_lrem (pc := 39) C dX0_inverse_39 o5 (by decide) (by decide) ?_
      refine J_lstore (pc := 40) C dX0_inverse_40 (by decide) ?_
      refine J_iload (pc := 42) C dX0_inverse_42 rfl ?_
      refine J_iconst (pc := 44) C dX0_inverse_44 ?_
      refine J_ishr (pc := 45) C dX0_inverse_45 ?_
      refine J_istore (pc := 46) C dX0_inverse_46 (by decide) ?_
      refine J_goto (pc := 48) (tgt := 9) C dX0_inverse_48 (by decide) ?_
      obtain ⟨o7, h8⟩ := h6
      exact J_sub (L1 := [none, none, some (lV x2), none, some (lV (Int.tmod (x4 * x4) 1000003)), none, some (iV (zshr x6 1))]) ⟨rfl, ⟨rfl, ⟨rfl, trivial⟩⟩⟩ (h8 rx2 o7 (r_zshr _ _) p l e s m args below meth c G A C hok)
    · have h4 := h4 cb
      refine J_lload_n (pc := 22) C dX0_inverse_22 rfl ?_
      refine J_lload (pc := 23) C dX0_inverse_23 rfl ?_
      refine J_lmul (pc := 25) C dX0_inverse_25 ?_
      refine J_ldc2 (pc := 26) (z := 1000003) C mX0_inverse_c36 (by decide) dX0_inverse_26 ?_
      obtain ⟨o9, h10⟩ := h4
      refine J_lrem (pc := 29) C dX0_inverse_29 o9 (by decide) (by decide) ?_
      refine J_lstore_n (pc := 30) C dX0_inverse_30 (by decide) ?_
      refine J_lload (pc := 31) C dX0_inverse_31 rfl ?_
      refine J_lload (pc := 33) C dX0_inverse_33 rfl ?_
      refine J_lmul (pc := 35) C dX0_inverse_35 ?_
      refine J_ldc2 (pc := 36) (z := 1000003) C mX0_inverse_c36 (by decide) dX0_inverse_36 ?_
      obtain ⟨o11, h12⟩ := h10
      refine J_lrem (pc := 39) C dX0_inverse_39 o11 (by decide) (by decide) ?_
      refine J_lstore (pc := 40) C dX0_inverse_40 (by decide) ?_
      refine J_iload (pc := 42) C dX0_inverse_42 rfl ?_
      refine J_iconst (pc := 44) C dX0_inverse_44 ?_
      refine J_ishr (pc := 45) C dX0_inverse_45 ?_
      refine J_istore (pc := 46) C dX0_inverse_46 (by decide) ?_
      refine J_goto (pc := 48) (tgt := 9) C dX0_inverse_48 (by decide) ?_
      obtain ⟨o13, h14⟩ := h12
      obtain ⟨o15, h16⟩ := h14
      exact J_sub (L1 := [none, none, some (lV (Int.tmod (x2 * x4) 1000003)), none, some (lV (Int.tmod (x4 * x4) 1000003)), none, some (iV (zshr x6 1))]) ⟨rfl, ⟨rfl, ⟨rfl, trivial⟩⟩⟩ (h16 o13 o15 (r_zshr _ _) p l e s m args below meth c G A C hok)
def rmX0_rowWith : Room := { frames := 0, cells := 0, slots := 0, locals := 0 }
theorem mX0_rowWith_f20 : Cond.fieldLink RX0 20 "Stresswork$Grid" "rows" "I" ∈ wsX0_rowWith := by decide +kernel
theorem nX0_rowWith_X0 : ∀ x ∈ wsX00, x ∈ wsX0_rowWith := by decide +kernel
theorem mX0_rowWith_f13 : Cond.fieldLink RX0 13 "Stresswork$Grid" "cells" "[[J" ∈ wsX0_rowWith := by decide +kernel
def M_X0_rowWith (a0 a1 : Int) (S : St) (Qr : Int → St → Prop) (Qx : String → St → Prop) : Prop := r32 a0 → r32 a1 → MM 1 wC okC yX0_rowWith wsX0_rowWith rmX0_rowWith (fun G => [.ref (G.2.2 5), iV a0, iV a1]) S Qr Qx
def R_X0_rowWith_2 (x1 x3 : Int) (S : St) (Qr : Int → St → Prop) (Qx : String → St → Prop) : Prop := r32 x1 → r32 x3 → RR 1 wC okC wsX0_rowWith rmX0_rowWith cX0_rowWith 4 RX0 (some .int) [] 0 0 (fun G => [some (.ref (G.2.2 5)), some (iV x1), none, some (iV x3)]) (fun G => []) 2 S Qr Qx
set_option maxRecDepth 100000 in
set_option maxHeartbeats 4000000 in
theorem vc_X0_rowWith {a0 a1 : Int} {S : St} {Qr : Int → St → Prop} {Qx : String → St → Prop} (h : r32 a0 → r32 a1 → okC S → R_X0_rowWith_2 a0 a1 S Qr Qx) : M_X0_rowWith a0 a1 S Qr Qx := by
  intro ra0 ra1
  refine MM_of adC (by decide +kernel) rfl (Lf := fun G => [some (.ref (G.2.2 5)), some (iV a0), some (iV a1), none]) (fun G => by show _ ≤ _; exact Nat.le_of_ble_eq_true rfl) (fun G => rfl) ?_
  intro p l e s m args below meth c G A C hok
  have h := h ra0 ra1 hok
  replace C : Cx wC cX0_rowWith 4 RX0 wsX0_rowWith (some .int) [] p l s m args meth c G A := C
  show J wC 4 rmX0_rowWith p l e s m args below meth c G A (QQ 1 wC okC G Qr Qx A below args s rmX0_rowWith.cells rmX0_rowWith.slots) 0 0 S [some (.ref (G.2.2 5)), some (iV a0), some (iV a1), none] [] 0
  refine J_iload_n (pc := 0) C dX0_rowWith_0 rfl ?_
  refine J_istore_n (pc := 1) C dX0_rowWith_1 (by decide) ?_
  exact J_sub (L1 := [some (.ref (G.2.2 5)), some (iV a0), none, some (iV a1)]) ⟨rfl, ⟨rfl, ⟨rfl, trivial⟩⟩⟩ (h ra0 ra1 p l e s m args below meth c G A C hok)
set_option maxRecDepth 100000 in
set_option maxHeartbeats 4000000 in
theorem vc_X0_rowWith_2 {x1 x3 : Int} {S : St} {Qr : Int → St → Prop} {Qx : String → St → Prop} (h : r32 x1 → r32 x3 → okC S → (((S 5 2) ≤ x3 → Qr (-1) S) ∧ (x3 < (S 5 2) → (ix x3 40 ∧ (ix x1 40 ∧ (((S 22 (40 * x3 + x1)) = 0 → (r32 (x3 + 1) ∧ R_X0_rowWith_2 x1 (x3 + 1) S Qr Qx)) ∧ ((S 22 (40 * x3 + x1)) ≠ 0 → Qr x3 S))))))) : R_X0_rowWith_2 x1 x3 S Qr Qx := by
  intro rx1 rx3
  intro p l e s m args below meth c G A C hok
  have h := h rx1 rx3 hok
  replace C : Cx wC cX0_rowWith 4 RX0 wsX0_rowWith (some .int) [] p l s m args meth c G A := C
  show J wC 4 rmX0_rowWith p l e s m args below meth c G A (QQ 1 wC okC G Qr Qx A below args s rmX0_rowWith.cells rmX0_rowWith.slots) 0 0 S [some (.ref (G.2.2 5)), some (iV x1), none, some (iV x3)] [] 2
  refine J_iload_n (pc := 2) C dX0_rowWith_2 rfl ?_
  refine J_aload_n (pc := 3) C dX0_rowWith_3 rfl ?_
  refine J_get (pc := 4) C dX0_rowWith_4 5 rfl rfl nX0_rowWith_X0 2 (by decide) mX0_rowWith_f20 rfl (v := iV (S 5 2)) rfl ?_
  obtain ⟨h1, h2⟩ := h
  refine J_icmp_ge (pc := 7) (tgt := 31) C dX0_rowWith_7 (by decide) rx3 (hok 5 2) (fun cb => ?_) (fun cb => ?_)
  · have h1 := h1 cb
    refine J_iconst (pc := 31) C dX0_rowWith_31 ?_
    exact J_iret (pc := 32) C dX0_rowWith_32 (by decide) hok h1 (by decide) (by decide)
  · have h2 := h2 cb
    refine J_aload_n (pc := 10) C dX0_rowWith_10 rfl ?_
    refine J_get (pc := 11) C dX0_rowWith_11 5 rfl rfl nX0_rowWith_X0 0 (by decide) mX0_rowWith_f13 rfl (v := .ref (G.2.2 22)) rfl ?_
    refine J_iload_n (pc := 14) C dX0_rowWith_14 rfl ?_
    obtain ⟨o3, h4⟩ := h2
    refine J_aald (pc := 15) C dX0_rowWith_15 o3 ?_
    refine J_iload_n (pc := 16) C dX0_rowWith_16 rfl ?_
    obtain ⟨o5, h6⟩ := h4
    refine J_rld (pc := 17) C dX0_rowWith_17 o3 o5 ?_
    refine J_lconst (pc := 18) C dX0_rowWith_18 ?_
    obtain ⟨h7, h8⟩ := h6
    refine J_lcmp_eq (pc := 19) (tgt := 25) C dX0_rowWith_19 dX0_rowWith_20 (by decide) (hok 22 (40 * x3 + x1)) (by decide) (fun cb => ?_) (fun cb => ?_)
    · have h7 := h7 cb
      refine J_iinc (pc := 25) C dX0_rowWith_25 rfl (by decide) ?_
      refine J_goto (pc := 28) (tgt := 2) C dX0_rowWith_28 (by decide) ?_
      obtain ⟨o9, h10⟩ := h7
      exact J_sub (L1 := [some (.ref (G.2.2 5)), some (iV x1), none, some (iV (x3 + 1))]) ⟨rfl, ⟨rfl, ⟨rfl, trivial⟩⟩⟩ (h10 rx1 o9 p l e s m args below meth c G A C hok)
    · have h8 := h8 cb
      refine J_iload_n (pc := 23) C dX0_rowWith_23 rfl ?_
      exact J_iret (pc := 24) C dX0_rowWith_24 rx3 hok h8 (by decide) (by decide)
def rmX0_swapRows : Room := { frames := 0, cells := 0, slots := 0, locals := 0 }
theorem mX0_swapRows_f24 : Cond.fieldLink RX0 24 "Stresswork$Grid" "columns" "I" ∈ wsX0_swapRows := by decide +kernel
theorem nX0_swapRows_X0 : ∀ x ∈ wsX00, x ∈ wsX0_swapRows := by decide +kernel
theorem mX0_swapRows_f13 : Cond.fieldLink RX0 13 "Stresswork$Grid" "cells" "[[J" ∈ wsX0_swapRows := by decide +kernel
def M_X0_swapRows (a0 a1 : Int) (S : St) (Qr : Int → St → Prop) (Qx : String → St → Prop) : Prop := r32 a0 → r32 a1 → MM 0 wC okC yX0_swapRows wsX0_swapRows rmX0_swapRows (fun G => [.ref (G.2.2 5), iV a0, iV a1]) S Qr Qx
def R_X0_swapRows_2 (x1 x2 x3 : Int) (S : St) (Qr : Int → St → Prop) (Qx : String → St → Prop) : Prop := r32 x1 → r32 x2 → r32 x3 → RR 0 wC okC wsX0_swapRows rmX0_swapRows cX0_swapRows 6 RX0 none [] 0 0 (fun G => [some (.ref (G.2.2 5)), some (iV x1), some (iV x2), some (iV x3), none, none]) (fun G => []) 2 S Qr Qx
set_option maxRecDepth 100000 in
set_option maxHeartbeats 4000000 in
theorem vc_X0_swapRows {a0 a1 : Int} {S : St} {Qr : Int → St → Prop} {Qx : String → St → Prop} (h : r32 a0 → r32 a1 → okC S → R_X0_swapRows_2 a0 a1 0 S Qr Qx) : M_X0_swapRows a0 a1 S Qr Qx := by
  intro ra0 ra1
  refine MM_of adC (by decide +kernel) rfl (Lf := fun G => [some (.ref (G.2.2 5)), some (iV a0), some (iV a1), none, none, none]) (fun G => by show _ ≤ _; exact Nat.le_of_ble_eq_true rfl) (fun G => rfl) ?_
  intro p l e s m args below meth c G A C hok
  have h := h ra0 ra1 hok
  replace C : Cx wC cX0_swapRows 6 RX0 wsX0_swapRows none [] p l s m args meth c G A := C
  show J wC 6 rmX0_swapRows p l e s m args below meth c G A (QQ 0 wC okC G Qr Qx A below args s rmX0_swapRows.cells rmX0_swapRows.slots) 0 0 S [some (.ref (G.2.2 5)), some (iV a0), some (iV a1), none, none, none] [] 0
  refine J_iconst (pc := 0) C dX0_swapRows_0 ?_
  refine J_istore_n (pc := 1) C dX0_swapRows_1 (by decide) ?_
  exact J_sub (L1 := [some (.ref (G.2.2 5)), some (iV a0), some (iV a1), some (iV 0), none, none]) ⟨rfl, ⟨rfl, ⟨rfl, ⟨rfl, trivial⟩⟩⟩⟩ (h ra0 ra1 (by decide) p l e s m args below meth c G A C hok)
set_option maxRecDepth 100000 in
set_option maxHeartbeats 4000000 in
theorem vc_X0_swapRows_2 {x1 x2 x3 : Int} {S : St} {Qr : Int → St → Prop} {Qx : String → St → Prop} (h : r32 x1 → r32 x2 → r32 x3 → okC S → (((S 5 3) ≤ x3 → Qr 0 S) ∧ (x3 < (S 5 3) → (ix x1 40 ∧ (ix x3 40 ∧ (ix x2 40 ∧ (r32 (x3 + 1) ∧ R_X0_swapRows_2 x1 x2 (x3 + 1) (up (up S 22 (40 * x1 + x3) (S 22 (40 * x2 + x3))) 22 (40 * x2 + x3) (S 22 (40 * x1 + x3))) Qr Qx))))))) : R_X0_swapRows_2 x1 x2 x3 S Qr Qx := by
  intro rx1 rx2 rx3
  intro p l e s m args below meth c G A C hok
  have h := h rx1 rx2 rx3 hok
  replace C : Cx wC cX0_swapRows 6 RX0 wsX0_swapRows none [] p l s m args meth c G A := C
  show J wC 6 rmX0_swapRows p l e s m args below meth c G A (QQ 0 wC okC G Qr Qx A below args s rmX0_swapRows.cells rmX0_swapRows.slots) 0 0 S [some (.ref (G.2.2 5)), some (iV x1), some (iV x2), some (iV x3), none, none] [] 2
  refine J_iload_n (pc := 2) C dX0_swapRows_2 rfl ?_
  refine J_aload_n (pc := 3) C dX0_swapRows_3 rfl ?_
  refine J_get (pc := 4) C dX0_swapRows_4 5 rfl rfl nX0_swapRows_X0 3 (by decide) mX0_swapRows_f24 rfl (v := iV (S 5 3)) rfl ?_
  obtain ⟨h1, h2⟩ := h
  refine J_icmp_ge (pc := 7) (tgt := 52) C dX0_swapRows_7 (by decide) rx3 (hok 5 3) (fun cb => ?_) (fun cb => ?_)
  · have h1 := h1 cb
    exact J_vret (pc := 52) C dX0_swapRows_52 hok h1 (by decide) (by decide)
  · have h2 := h2 cb
    refine J_aload_n (pc := 10) C dX0_swapRows_10 rfl ?_
    refine J_get (pc := 11) C dX0_swapRows_11 5 rfl rfl nX0_swapRows_X0 0 (by decide) mX0_swapRows_f13 rfl (v := .ref (G.2.2 22)) rfl ?_
    refine J_iload_n (pc := 14) C dX0_swapRows_14 rfl ?_
    obtain ⟨o3, h4⟩ := h2
    refine J_aald (pc := 15) C dX0_swapRows_15 o3 ?_
    refine J_iload_n (pc := 16) C dX0_swapRows_16 rfl ?_
    obtain ⟨o5, h6⟩ := h4
    refine J_rld (pc := 17) C dX0_swapRows_17 o3 o5 ?_
    refine J_lstore (pc := 18) C dX0_swapRows_18 (by decide) ?_
    refine J_aload_n (pc := 20) C dX0_swapRows_20 rfl ?_
    refine J_get (pc := 21) C dX0_swapRows_21 5 rfl rfl nX0_swapRows_X0 0 (by decide) mX0_swapRows_f13 rfl (v := .ref (G.2.2 22)) rfl ?_
    refine J_iload_n (pc := 24) C dX0_swapRows_24 rfl ?_
    refine J_aald (pc := 25) C dX0_swapRows_25 o3 ?_
    refine J_iload_n (pc := 26) C dX0_swapRows_26 rfl ?_
    refine J_aload_n (pc := 27) C dX0_swapRows_27 rfl ?_
    refine J_get (pc := 28) C dX0_swapRows_28 5 rfl rfl nX0_swapRows_X0 0 (by decide) mX0_swapRows_f13 rfl (v := .ref (G.2.2 22)) rfl ?_
    refine J_iload_n (pc := 31) C dX0_swapRows_31 rfl ?_
    obtain ⟨o7, h8⟩ := h6
    refine J_aald (pc := 32) C dX0_swapRows_32 o7 ?_
    refine J_iload_n (pc := 33) C dX0_swapRows_33 rfl ?_
    refine J_rld (pc := 34) C dX0_swapRows_34 o7 o5 ?_
    refine J_rst (pc := 35) C dX0_swapRows_35 o3 o5 ?_
    have hok9 := okC_up (k := 22) (j := (40 * x1 + x3)) hok (show rngC 22 (S 22 (40 * x2 + x3)) from (hok 22 (40 * x2 + x3)))
    refine J_aload_n (pc := 36) C dX0_swapRows_36 rfl ?_
    refine J_get (pc := 37) C dX0_swapRows_37 5 rfl rfl nX0_swapRows_X0 0 (by decide) mX0_swapRows_f13 rfl (v := .ref (G.2.2 22)) rfl ?_
    refine J_iload_n (pc := 40) C dX0_swapRows_40 rfl ?_
    refine J_aald (pc := 41) C dX0_swapRows_41 o7 ?_
    refine J_iload_n (pc := 42) C dX0_swapRows_42 rfl ?_
    refine J_lload (pc := 43) C dX0_swapRows_43 rfl ?_
    refine J_rst (pc := 45) C dX0_swapRows_45 o7 o5 ?_
    have hok10 := okC_up (k := 22) (j := (40 * x2 + x3)) hok9 (show rngC 22 (S 22 (40 * x1 + x3)) from (hok 22 (40 * x1 + x3)))
    refine J_iinc (pc := 46) C dX0_swapRows_46 rfl (by decide) ?_
    refine J_goto (pc := 49) (tgt := 2) C dX0_swapRows_49 (by decide) ?_
    obtain ⟨o11, h12⟩ := h8
    exact J_sub (L1 := [some (.ref (G.2.2 5)), some (iV x1), some (iV x2), some (iV (x3 + 1)), none, none]) ⟨rfl, ⟨rfl, ⟨rfl, ⟨rfl, trivial⟩⟩⟩⟩ (h12 rx1 rx2 o11 p l e s m args below meth c G A C hok10)
def rmX0_scaleRow : Room := { frames := 1, cells := 0, slots := 0, locals := 26 }
theorem mX0_scaleRow_f13 : Cond.fieldLink RX0 13 "Stresswork$Grid" "cells" "[[J" ∈ wsX0_scaleRow := by decide +kernel
theorem nX0_scaleRow_X0 : ∀ x ∈ wsX00, x ∈ wsX0_scaleRow := by decide +kernel
theorem mX0_scaleRow_f24 : Cond.fieldLink RX0 24 "Stresswork$Grid" "columns" "I" ∈ wsX0_scaleRow := by decide +kernel
theorem mX0_scaleRow_c36 : Cond.constantLong RX0 36 (1000003) ∈ wsX0_scaleRow := by decide +kernel
def M_X0_scaleRow (a0 a1 : Int) (S : St) (Qr : Int → St → Prop) (Qx : String → St → Prop) : Prop := r32 a0 → r32 a1 → MM 0 wC okC yX0_scaleRow wsX0_scaleRow rmX0_scaleRow (fun G => [.ref (G.2.2 5), iV a0, iV a1]) S Qr Qx
def R_X0_scaleRow_15 (x1 x3 x5 : Int) (S : St) (Qr : Int → St → Prop) (Qx : String → St → Prop) : Prop := r32 x1 → r64 x3 → r32 x5 → RR 0 wC okC wsX0_scaleRow rmX0_scaleRow cX0_scaleRow 6 RX0 none [] 0 0 (fun G => [some (.ref (G.2.2 5)), some (iV x1), none, some (lV x3), none, some (iV x5)]) (fun G => []) 15 S Qr Qx
set_option maxRecDepth 100000 in
set_option maxHeartbeats 4000000 in
theorem vc_X0_scaleRow {a0 a1 : Int} {S : St} {Qr : Int → St → Prop} {Qx : String → St → Prop} (h : r32 a0 → r32 a1 → okC S → (ix a0 40 ∧ (ix a1 40 ∧ M_X0_inverse (S 22 (40 * a0 + a1)) S (fun rv8 S6 => r64 rv8 → okC S6 → R_X0_scaleRow_15 a0 rv8 a1 S6 Qr Qx) Qx))) : M_X0_scaleRow a0 a1 S Qr Qx := by
  intro ra0 ra1
  refine MM_of adC (by decide +kernel) rfl (Lf := fun G => [some (.ref (G.2.2 5)), some (iV a0), some (iV a1), none, none, none]) (fun G => by show _ ≤ _; exact Nat.le_of_ble_eq_true rfl) (fun G => rfl) ?_
  intro p l e s m args below meth c G A C hok
  have h := h ra0 ra1 hok
  replace C : Cx wC cX0_scaleRow 6 RX0 wsX0_scaleRow none [] p l s m args meth c G A := C
  show J wC 6 rmX0_scaleRow p l e s m args below meth c G A (QQ 0 wC okC G Qr Qx A below args s rmX0_scaleRow.cells rmX0_scaleRow.slots) 0 0 S [some (.ref (G.2.2 5)), some (iV a0), some (iV a1), none, none, none] [] 0
  refine J_aload_n (pc := 0) C dX0_scaleRow_0 rfl ?_
  refine J_get (pc := 1) C dX0_scaleRow_1 5 rfl rfl nX0_scaleRow_X0 0 (by decide) mX0_scaleRow_f13 rfl (v := .ref (G.2.2 22)) rfl ?_
  refine J_iload_n (pc := 4) C dX0_scaleRow_4 rfl ?_
  obtain ⟨o1, h2⟩ := h
  refine J_aald (pc := 5) C dX0_scaleRow_5 o1 ?_
  refine J_iload_n (pc := 6) C dX0_scaleRow_6 rfl ?_
  obtain ⟨o3, h4⟩ := h2
  refine J_rld (pc := 7) C dX0_scaleRow_7 o1 o3 ?_
  refine J_c2 (pc := 8) C (J_rS (pc := 8) C (h4 (hok 22 (40 * a0 + a1))) dX0_scaleRow_8 rfl rfl (va_cwS 1 C.1.2.2.2.2 gX0_scaleRow_X0_inverse rfl rfl rfl (by decide +kernel) ⟨Nat.le_of_ble_eq_true rfl, Nat.le_of_ble_eq_true rfl⟩) hok (Nat.le_of_ble_eq_true rfl) ⟨Nat.le_of_ble_eq_true rfl, Nat.le_of_ble_eq_true rfl⟩) (fun E9 S9 ok9 q9 => JX_out C ok9 q9 (by decide) (by decide)) (fun rv8 S6 hr9 hok7 h5 => ?_)
  have h5 := h5 hr9 hok7
  refine J_lstore_n (pc := 11) C dX0_scaleRow_11 (by decide) ?_
  refine J_iload_n (pc := 12) C dX0_scaleRow_12 rfl ?_
  refine J_istore (pc := 13) C dX0_scaleRow_13 (by decide) ?_
  exact J_sub (L1 := [some (.ref (G.2.2 5)), some (iV a0), none, some (lV rv8), none, some (iV a1)]) ⟨rfl, ⟨rfl, ⟨rfl, ⟨rfl, trivial⟩⟩⟩⟩ (h5 ra0 hr9 ra1 p l e s m args below meth c G A C hok7)
set_option maxRecDepth 100000 in
set_option maxHeartbeats 4000000 in
theorem vc_X0_scaleRow_15 {x1 x3 x5 : Int} {S : St} {Qr : Int → St → Prop} {Qx : String → St → Prop} (h : r32 x1 → r64 x3 → r32 x5 → okC S → (((S 5 3) ≤ x5 → Qr 0 S) ∧ (x5 < (S 5 3) → (ix x1 40 ∧ (ix x5 40 ∧ (r64 ((S 22 (40 * x1 + x5)) * x3) ∧ (r64 (Int.tmod ((S 22 (40 * x1 + x5)) * x3) 1000003) ∧ (r32 (x5 + 1) ∧ R_X0_scaleRow_15 x1 x3 (x5 + 1) (up S 22 (40 * x1 + x5) (Int.tmod ((S 22 (40 * x1 + x5)) * x3) 1000003)) Qr Qx)))))))) : R_X0_scaleRow_15 x1 x3 x5 S Qr Qx := by
  intro rx1 rx3 rx5
  intro p l e s m args below meth c G A C hok
  have h := h rx1 rx3 rx5 hok
  replace C : Cx wC cX0_scaleRow 6 RX0 wsX0_scaleRow none [] p l s m args meth c G A := C
  show J wC 6 rmX0_scaleRow p l e s m args below meth c G A (QQ 0 wC okC G Qr Qx A below args s rmX0_scaleRow.cells rmX0_scaleRow.slots) 0 0 S [some (.ref (G.2.2 5)), some (iV x1), none, some (lV x3), none, some (iV x5)] [] 15
  refine J_iload (pc := 15) C dX0_scaleRow_15 rfl ?_
  refine J_aload_n (pc := 17) C dX0_scaleRow_17 rfl ?_
  refine J_get (pc := 18) C dX0_scaleRow_18 5 rfl rfl nX0_scaleRow_X0 3 (by decide) mX0_scaleRow_f24 rfl (v := iV (S 5 3)) rfl ?_
  obtain ⟨h1, h2⟩ := h
  refine J_icmp_ge (pc := 21) (tgt := 54) C dX0_scaleRow_21 (by decide) rx5 (hok 5 3) (fun cb => ?_) (fun cb => ?_)
  · have h1 := h1 cb
    exact J_vret (pc := 54) C dX0_scaleRow_54 hok h1 (by decide) (by decide)
  · have h2 := h2 cb
    refine J_aload_n (pc := 24) C dX0_scaleRow_24 rfl ?_
    refine J_get (pc := 25) C dX0_scaleRow_25 5 rfl rfl nX0_scaleRow_X0 0 (by decide) mX0_scaleRow_f13 rfl (v := .ref (G.2.2 22)) rfl ?_
    refine J_iload_n (pc := 28) C dX0_scaleRow_28 rfl ?_
    obtain ⟨o3, h4⟩ := h2
    refine J_aald (pc := 29) C dX0_scaleRow_29 o3 ?_
    refine J_iload (pc := 30) C dX0_scaleRow_30 rfl ?_
    refine J_aload_n (pc := 32) C dX0_scaleRow_32 rfl ?_
    refine J_get (pc := 33) C dX0_scaleRow_33 5 rfl rfl nX0_scaleRow_X0 0 (by decide) mX0_scaleRow_f13 rfl (v := .ref (G.2.2 22)) rfl ?_
    refine J_iload_n (pc := 36) C dX0_scaleRow_36 rfl ?_
    refine J_aald (pc := 37) C dX0_scaleRow_37 o3 ?_
    refine J_iload (pc := 38) C dX0_scaleRow_38 rfl ?_
    obtain ⟨o5, h6⟩ := h4
    refine J_rld (pc := 40) C dX0_scaleRow_40 o3 o5 ?_
    refine J_lload_n (pc := 41) C dX0_scaleRow_41 rfl ?_
    refine J_lmul (pc := 42) C dX0_scaleRow_42 ?_
    refine J_ldc2 (pc := 43) (z := 1000003) C mX0_scaleRow_c36 (by decide) dX0_scaleRow_43 ?_
    obtain ⟨o7, h8⟩ := h6
    refine J_lrem (pc := 46) C dX0_scaleRow_46 o7 (by decide) (by decide) ?_
    obtain ⟨o9, h10⟩ := h8
    refine J_rst (pc := 47) C dX0_scaleRow_47 o3 o5 ?_
    have hok11 := okC_up (k := 22) (j := (40 * x1 + x5)) hok (show rngC 22 (Int.tmod ((S 22 (40 * x1 + x5)) * x3) 1000003) from o9)
    refine J_iinc (pc := 48) C dX0_scaleRow_48 rfl (by decide) ?_
    refine J_goto (pc := 51) (tgt := 15) C dX0_scaleRow_51 (by decide) ?_
    obtain ⟨o12, h13⟩ := h10
    exact J_sub (L1 := [some (.ref (G.2.2 5)), some (iV x1), none, some (lV x3), none, some (iV (x5 + 1))]) ⟨rfl, ⟨rfl, ⟨rfl, ⟨rfl, trivial⟩⟩⟩⟩ (h13 rx1 rx3 o12 p l e s m args below meth c G A C hok11)
def rmX0_reduce : Room := { frames := 2, cells := 0, slots := 0, locals := 51 }
theorem mX0_reduce_f24 : Cond.fieldLink RX0 24 "Stresswork$Grid" "columns" "I" ∈ wsX0_reduce := by decide +kernel
theorem nX0_reduce_X0 : ∀ x ∈ wsX00, x ∈ wsX0_reduce := by decide +kernel
theorem mX0_reduce_f16 : Cond.fieldLink RX0 16 "Stresswork$Grid" "pivotRow" "[I" ∈ wsX0_reduce := by decide +kernel
def M_X0_reduce (S : St) (Qr : Int → St → Prop) (Qx : String → St → Prop) : Prop := MM 1 wC okC yX0_reduce wsX0_reduce rmX0_reduce (fun G => [.ref (G.2.2 5)]) S Qr Qx
def R_X0_reduce_4 (x1 x2 : Int) (S : St) (Qr : Int → St → Prop) (Qx : String → St → Prop) : Prop := r32 x1 → r32 x2 → RR 1 wC okC wsX0_reduce rmX0_reduce cX0_reduce 4 RX0 (some .int) [] 0 0 (fun G => [some (.ref (G.2.2 5)), some (iV x1), some (iV x2), none]) (fun G => []) 4 S Qr Qx
set_option maxRecDepth 100000 in
set_option maxHeartbeats 4000000 in
theorem vc_X0_reduce {S : St} {Qr : Int → St → Prop} {Qx : String → St → Prop} (h : okC S → R_X0_reduce_4 0 0 S Qr Qx) : M_X0_reduce S Qr Qx := by
  refine MM_of adC (by decide +kernel) rfl (Lf := fun G => [some (.ref (G.2.2 5)), none, none, none]) (fun G => by show _ ≤ _; exact Nat.le_of_ble_eq_true rfl) (fun G => rfl) ?_
  intro p l e s m args below meth c G A C hok
  have h := h hok
  replace C : Cx wC cX0_reduce 4 RX0 wsX0_reduce (some .int) [] p l s m args meth c G A := C
  show J wC 4 rmX0_reduce p l e s m args below meth c G A (QQ 1 wC okC G Qr Qx A below args s rmX0_reduce.cells rmX0_reduce.slots) 0 0 S [some (.ref (G.2.2 5)), none, none, none] [] 0
  refine J_iconst (pc := 0) C dX0_reduce_0 ?_
  refine J_istore_n (pc := 1) C dX0_reduce_1 (by decide) ?_
  refine J_iconst (pc := 2) C dX0_reduce_2 ?_
  refine J_istore_n (pc := 3) C dX0_reduce_3 (by decide) ?_
  exact J_sub (L1 := [some (.ref (G.2.2 5)), some (iV 0), some (iV 0), none]) ⟨rfl, ⟨rfl, ⟨rfl, trivial⟩⟩⟩ (h (by decide) (by decide) p l e s m args below meth c G A C hok)
set_option maxRecDepth 100000 in
set_option maxHeartbeats 4000000 in
theorem vc_X0_reduce_4 {x1 x2 : Int} {S : St} {Qr : Int → St → Prop} {Qx : String → St → Prop} (h : r32 x1 → r32 x2 → okC S → (((S 5 3) ≤ x2 → Qr x1 S) ∧ (x2 < (S 5 3) → M_X0_rowWith x2 x1 S (fun rv6 S4 => r32 rv6 → okC S4 → (ix x2 40 ∧ ((rv6 = (-1) → (r32 (x2 + 1) ∧ R_X0_reduce_4 x1 (x2 + 1) (up S4 23 x2 (-1)) Qr Qx)) ∧ (rv6 ≠ (-1) → M_X0_swapRows rv6 x1 (up S4 23 x2 (-1)) (fun _ S16 => okC S16 → M_X0_scaleRow x1 x2 S16 (fun _ S21 => okC S21 → M_X0_clearColumn x1 x2 S21 (fun _ S26 => okC S26 → (r32 (x1 + 1) ∧ (r32 (x2 + 1) ∧ R_X0_reduce_4 (x1 + 1) (x2 + 1) (up S26 23 x2 x1) Qr Qx))) Qx) Qx) Qx)))) Qx))) : R_X0_reduce_4 x1 x2 S Qr Qx := by
  intro rx1 rx2
  intro p l e s m args below meth c G A C hok
  have h := h rx1 rx2 hok
  replace C : Cx wC cX0_reduce 4 RX0 wsX0_reduce (some .int) [] p l s m args meth c G A := C
  show J wC 4 rmX0_reduce p l e s m args below meth c G A (QQ 1 wC okC G Qr Qx A below args s rmX0_reduce.cells rmX0_reduce.slots) 0 0 S [some (.ref (G.2.2 5)), some (iV x1), some (iV x2), none] [] 4
  refine J_iload_n (pc := 4) C dX0_reduce_4 rfl ?_
  refine J_aload_n (pc := 5) C dX0_reduce_5 rfl ?_
  refine J_get (pc := 6) C dX0_reduce_6 5 rfl rfl nX0_reduce_X0 3 (by decide) mX0_reduce_f24 rfl (v := iV (S 5 3)) rfl ?_
  obtain ⟨h1, h2⟩ := h
  refine J_icmp_ge (pc := 9) (tgt := 65) C dX0_reduce_9 (by decide) rx2 (hok 5 3) (fun cb => ?_) (fun cb => ?_)
  · have h1 := h1 cb
    refine J_iload_n (pc := 65) C dX0_reduce_65 rfl ?_
    exact J_iret (pc := 66) C dX0_reduce_66 rx1 hok h1 (by decide) (by decide)
  · have h2 := h2 cb
    refine J_aload_n (pc := 12) C dX0_reduce_12 rfl ?_
    refine J_iload_n (pc := 13) C dX0_reduce_13 rfl ?_
    refine J_iload_n (pc := 14) C dX0_reduce_14 rfl ?_
    refine J_c1 (pc := 15) C (J_rV (pc := 15) C (h2 rx2 rx1) dX0_reduce_15 rfl rfl 5 rfl rfl (cwV 2 C.1.2.2.2.2 gX0_reduce_X0_rowWith rfl rfl rfl (by decide +kernel) ⟨Nat.le_of_ble_eq_true rfl, Nat.le_of_ble_eq_true rfl⟩) hok (Nat.le_of_ble_eq_true rfl) ⟨Nat.le_of_ble_eq_true rfl, Nat.le_of_ble_eq_true rfl⟩) (fun E9 S9 ok9 q9 => JX_out C ok9 q9 (by decide) (by decide)) (fun rv6 S4 hr7 hok5 h3 => ?_)
    have h3 := h3 hr7 hok5
    refine J_istore_n (pc := 18) C dX0_reduce_18 (by decide) ?_
    refine J_aload_n (pc := 19) C dX0_reduce_19 rfl ?_
    refine J_get (pc := 20) C dX0_reduce_20 5 rfl rfl nX0_reduce_X0 1 (by decide) mX0_reduce_f16 rfl (v := .ref (G.2.2 23)) rfl ?_
    refine J_iload_n (pc := 23) C dX0_reduce_23 rfl ?_
    refine J_iconst (pc := 24) C dX0_reduce_24 ?_
    obtain ⟨o8, h9⟩ := h3
    refine J_iast (pc := 25) C dX0_reduce_25 23 23 rfl (by decide) o8 (sC_23 G S4 x2 (-1)) ?_
    have hok10 := okC_up (k := 23) (j := x2) hok5 (show rngC 23 (-1) from (by decide : r32 (-1)))
    refine J_iload_n (pc := 26) C dX0_reduce_26 rfl ?_
    refine J_iconst (pc := 27) C dX0_reduce_27 ?_
    obtain ⟨h11, h12⟩ := h9
    refine J_icmp_eq (pc := 28) (tgt := 59) C dX0_reduce_28 (by decide) hr7 (by decide) (fun cb => ?_) (fun cb => ?_)
    · have h11 := h11 cb
      refine J_iinc (pc := 59) C dX0_reduce_59 rfl (by decide) ?_
      refine J_goto (pc := 62) (tgt := 4) C dX0_reduce_62 (by decide) ?_
      obtain ⟨o13, h14⟩ := h11
      exact J_sub (L1 := [some (.ref (G.2.2 5)), some (iV x1), some (iV (x2 + 1)), none]) ⟨rfl, ⟨rfl, ⟨rfl, trivial⟩⟩⟩ (h14 rx1 o13 p l e s m args below meth c G A C hok10)
    · have h12 := h12 cb
      refine J_aload_n (pc := 31) C dX0_reduce_31 rfl ?_
      refine J_iload_n (pc := 32) C dX0_reduce_32 rfl ?_
      refine J_iload_n (pc := 33) C dX0_reduce_33 rfl ?_
      refine J_c0 (pc := 34) C (J_rV (pc := 34) C (h12 hr7 rx1) dX0_reduce_34 rfl rfl 5 rfl rfl (cwV 2 C.1.2.2.2.2 gX0_reduce_X0_swapRows rfl rfl rfl (by decide +kernel) ⟨Nat.le_of_ble_eq_true rfl, Nat.le_of_ble_eq_true rfl⟩) hok10 (Nat.le_of_ble_eq_true rfl) ⟨Nat.le_of_ble_eq_true rfl, Nat.le_of_ble_eq_true rfl⟩) (fun E9 S9 ok9 q9 => JX_out C ok9 q9 (by decide) (by decide)) (fun S16 hok17 h15 => ?_)
      have h15 := h15 hok17
      refine J_aload_n (pc := 37) C dX0_reduce_37 rfl ?_
      refine J_iload_n (pc := 38) C dX0_reduce_38 rfl ?_
      refine J_iload_n (pc := 39) C dX0_reduce_39 rfl ?_
      refine J_c0 (pc := 40) C (J_rV (pc := 40) C (h15 rx1 rx2) dX0_reduce_40 rfl rfl 5 rfl rfl (cwV 2 C.1.2.2.2.2 gX0_reduce_X0_scaleRow rfl rfl rfl (by decide +kernel) ⟨Nat.le_of_ble_eq_true rfl, Nat.le_of_ble_eq_true rfl⟩) hok17 (Nat.le_of_ble_eq_true rfl) ⟨Nat.le_of_ble_eq_true rfl, Nat.le_of_ble_eq_true rfl⟩) (fun E9 S9 ok9 q9 => JX_out C ok9 q9 (by decide) (by decide)) (fun S21 hok22 h20 => ?_)
      have h20 := h20 hok22
      refine J_aload_n (pc := 43) C dX0_reduce_43 rfl ?_
      refine J_iload_n (pc := 44) C dX0_reduce_44 rfl ?_
      refine J_iload_n (pc := 45) C dX0_reduce_45 rfl ?_
      refine J_c0 (pc := 46) C (J_rV (pc := 46) C (h20 rx1 rx2) dX0_reduce_46 rfl rfl 5 rfl rfl (cwV 2 C.1.2.2.2.2 gX0_reduce_X0_clearColumn rfl rfl rfl (by decide +kernel) ⟨Nat.le_of_ble_eq_true rfl, Nat.le_of_ble_eq_true rfl⟩) hok22 (Nat.le_of_ble_eq_true rfl) ⟨Nat.le_of_ble_eq_true rfl, Nat.le_of_ble_eq_true rfl⟩) (fun E9 S9 ok9 q9 => JX_out C ok9 q9 (by decide) (by decide)) (fun S26 hok27 h25 => ?_)
      have h25 := h25 hok27
      refine J_aload_n (pc := 49) C dX0_reduce_49 rfl ?_
      refine J_get (pc := 50) C dX0_reduce_50 5 rfl rfl nX0_reduce_X0 1 (by decide) mX0_reduce_f16 rfl (v := .ref (G.2.2 23)) rfl ?_
      refine J_iload_n (pc := 53) C dX0_reduce_53 rfl ?_
      refine J_iload_n (pc := 54) C dX0_reduce_54 rfl ?_
      refine J_iast (pc := 55) C dX0_reduce_55 23 23 rfl (by decide) o8 (sC_23 G S26 x2 x1) ?_
      have hok30 := okC_up (k := 23) (j := x2) hok27 (show rngC 23 x1 from rx1)
      refine J_iinc (pc := 56) C dX0_reduce_56 rfl (by decide) ?_
      refine J_iinc (pc := 59) C dX0_reduce_59 rfl (by decide) ?_
      refine J_goto (pc := 62) (tgt := 4) C dX0_reduce_62 (by decide) ?_
      obtain ⟨o31, h32⟩ := h25
      obtain ⟨o33, h34⟩ := h32
      exact J_sub (L1 := [some (.ref (G.2.2 5)), some (iV (x1 + 1)), some (iV (x2 + 1)), none]) ⟨rfl, ⟨rfl, ⟨rfl, trivial⟩⟩⟩ (h34 o31 o33 p l e s m args below meth c G A C hok30)
def rmX0_solution : Room := { frames := 0, cells := 0, slots := 0, locals := 0 }
theorem mX0_solution_f24 : Cond.fieldLink RX0 24 "Stresswork$Grid" "columns" "I" ∈ wsX0_solution := by decide +kernel
theorem nX0_solution_X0 : ∀ x ∈ wsX00, x ∈ wsX0_solution := by decide +kernel
theorem mX0_solution_f16 : Cond.fieldLink RX0 16 "Stresswork$Grid" "pivotRow" "[I" ∈ wsX0_solution := by decide +kernel
theorem mX0_solution_c36 : Cond.constantLong RX0 36 (1000003) ∈ wsX0_solution := by decide +kernel
theorem mX0_solution_f13 : Cond.fieldLink RX0 13 "Stresswork$Grid" "cells" "[[J" ∈ wsX0_solution := by decide +kernel
def M_X0_solution (a0 a1 : Int) (S : St) (Qr : Int → St → Prop) (Qx : String → St → Prop) : Prop := r32 a0 → r32 a1 → MM 1 wC okC yX0_solution wsX0_solution rmX0_solution (fun G => [.ref (G.2.2 5), iV a0, iV a1]) S Qr Qx
set_option maxRecDepth 100000 in
set_option maxHeartbeats 4000000 in
theorem vc_X0_solution {a0 a1 : Int} {S : St} {Qr : Int → St → Prop} {Qx : String → St → Prop} (h : r32 a0 → r32 a1 → okC S → ((a1 ≠ a0 → ((a0 < 0 → Qr 0 S) ∧ (0 ≤ a0 → (((S 5 3) ≤ a0 → Qr 0 S) ∧ (a0 < (S 5 3) → ((a1 < 0 → Qr 0 S) ∧ (0 ≤ a1 → ((a1 < (S 5 3) → (ix a1 40 ∧ (((S 23 a1) ≠ (-1) → (ix (S 23 a1) 40 ∧ (ix a0 40 ∧ (r64 (1000003 - (S 22 (40 * (S 23 a1) + a0))) ∧ (r32 (Int.tmod (1000003 - (S 22 (40 * (S 23 a1) + a0))) 1000003) ∧ Qr (Int.tmod (1000003 - (S 22 (40 * (S 23 a1) + a0))) 1000003) S))))) ∧ ((S 23 a1) = (-1) → Qr 0 S)))) ∧ ((S 5 3) ≤ a1 → Qr 0 S))))))))) ∧ (a1 = a0 → Qr 1 S))) : M_X0_solution a0 a1 S Qr Qx := by
  intro ra0 ra1
  refine MM_of adC (by decide +kernel) rfl (Lf := fun G => [some (.ref (G.2.2 5)), some (iV a0), some (iV a1), none]) (fun G => by show _ ≤ _; exact Nat.le_of_ble_eq_true rfl) (fun G => rfl) ?_
  intro p l e s m args below meth c G A C hok
  have h := h ra0 ra1 hok
  replace C : Cx wC cX0_solution 4 RX0 wsX0_solution (some .int) [] p l s m args meth c G A := C
  show J wC 4 rmX0_solution p l e s m args below meth c G A (QQ 1 wC okC G Qr Qx A below args s rmX0_solution.cells rmX0_solution.slots) 0 0 S [some (.ref (G.2.2 5)), some (iV a0), some (iV a1), none] [] 0
  refine J_iload_n (pc := 0) C dX0_solution_0 rfl ?_
  refine J_iload_n (pc := 1) C dX0_solution_1 rfl ?_
  obtain ⟨h1, h2⟩ := h
  refine J_icmp_ne (pc := 2) (tgt := 7) C dX0_solution_2 (by decide) ra1 ra0 (fun cb => ?_) (fun cb => ?_)
  · have h1 := h1 cb
    refine J_iload_n (pc := 7) C dX0_solution_7 rfl ?_
    obtain ⟨h3, h4⟩ := h1
    refine J_if_lt (pc := 8) (tgt := 31) C dX0_solution_8 (by decide) ra0 (fun cb => ?_) (fun cb => ?_)
    · have h3 := h3 cb
      refine J_iconst (pc := 31) C dX0_solution_31 ?_
      exact J_iret (pc := 32) C dX0_solution_32 (by decide) hok h3 (by decide) (by decide)
    · have h4 := h4 cb
      refine J_iload_n (pc := 11) C dX0_solution_11 rfl ?_
      refine J_aload_n (pc := 12) C dX0_solution_12 rfl ?_
      refine J_get (pc := 13) C dX0_solution_13 5 rfl rfl nX0_solution_X0 3 (by decide) mX0_solution_f24 rfl (v := iV (S 5 3)) rfl ?_
      obtain ⟨h5, h6⟩ := h4
      refine J_icmp_ge (pc := 16) (tgt := 31) C dX0_solution_16 (by decide) ra0 (hok 5 3) (fun cb => ?_) (fun cb => ?_)
      · have h5 := h5 cb
        refine J_iconst (pc := 31) C dX0_solution_31 ?_
        exact J_iret (pc := 32) C dX0_solution_32 (by decide) hok h5 (by decide) (by decide)
      · have h6 := h6 cb
        refine J_iload_n (pc := 19) C dX0_solution_19 rfl ?_
        obtain ⟨h7, h8⟩ := h6
        refine J_if_lt (pc := 20) (tgt := 31) C dX0_solution_20 (by decide) ra1 (fun cb => ?_) (fun cb => ?_)
        · have h7 := h7 cb
          refine J_iconst (pc := 31) C dX0_solution_31 ?_
          exact J_iret (pc := 32) C dX0_solution_32 (by decide) hok h7 (by decide) (by decide)
        · have h8 := h8 cb
          refine J_iload_n (pc := 23) C dX0_solution_23 rfl ?_
          refine J_aload_n (pc := 24) C dX0_solution_24 rfl ?_
          refine J_get (pc := 25) C dX0_solution_25 5 rfl rfl nX0_solution_X0 3 (by decide) mX0_solution_f24 rfl (v := iV (S 5 3)) rfl ?_
          obtain ⟨h9, h10⟩ := h8
          refine J_icmp_lt (pc := 28) (tgt := 33) C dX0_solution_28 (by decide) ra1 (hok 5 3) (fun cb => ?_) (fun cb => ?_)
          · have h9 := h9 cb
            refine J_aload_n (pc := 33) C dX0_solution_33 rfl ?_
            refine J_get (pc := 34) C dX0_solution_34 5 rfl rfl nX0_solution_X0 1 (by decide) mX0_solution_f16 rfl (v := .ref (G.2.2 23)) rfl ?_
            refine J_iload_n (pc := 37) C dX0_solution_37 rfl ?_
            obtain ⟨o11, h12⟩ := h9
            refine J_iald (pc := 38) C dX0_solution_38 23 23 rfl (by decide) o11 ?_
            refine J_istore_n (pc := 39) C dX0_solution_39 (by decide) ?_
            refine J_iload_n (pc := 40) C dX0_solution_40 rfl ?_
            refine J_iconst (pc := 41) C dX0_solution_41 ?_
            obtain ⟨h13, h14⟩ := h12
            refine J_icmp_ne (pc := 42) (tgt := 49) C dX0_solution_42 (by decide) (hok 23 a1) (by decide) (fun cb => ?_) (fun cb => ?_)
            · have h13 := h13 cb
              refine J_ldc2 (pc := 49) (z := 1000003) C mX0_solution_c36 (by decide) dX0_solution_49 ?_
              refine J_aload_n (pc := 52) C dX0_solution_52 rfl ?_
              refine J_get (pc := 53) C dX0_solution_53 5 rfl rfl nX0_solution_X0 0 (by decide) mX0_solution_f13 rfl (v := .ref (G.2.2 22)) rfl ?_
              refine J_iload_n (pc := 56) C dX0_solution_56 rfl ?_
              obtain ⟨o15, h16⟩ := h13
              refine J_aald (pc := 57) C dX0_solution_57 o15 ?_
              refine J_iload_n (pc := 58) C dX0_solution_58 rfl ?_
              obtain ⟨o17, h18⟩ := h16
              refine J_rld (pc := 59) C dX0_solution_59 o15 o17 ?_
              refine J_lsub (pc := 60) C dX0_solution_60 ?_
              refine J_ldc2 (pc := 61) (z := 1000003) C mX0_solution_c36 (by decide) dX0_solution_61 ?_
              obtain ⟨o19, h20⟩ := h18
              refine J_lrem (pc := 64) C dX0_solution_64 o19 (by decide) (by decide) ?_
              obtain ⟨o21, h22⟩ := h20
              refine J_l2i (pc := 65) C dX0_solution_65 o21 ?_
              exact J_iret (pc := 66) C dX0_solution_66 o21 hok h22 (by decide) (by decide)
            · have h14 := h14 cb
              refine J_iconst (pc := 45) C dX0_solution_45 ?_
              refine J_goto (pc := 46) (tgt := 66) C dX0_solution_46 (by decide) ?_
              exact J_iret (pc := 66) C dX0_solution_66 (by decide) hok h14 (by decide) (by decide)
          · have h10 := h10 cb
            refine J_iconst (pc := 31) C dX0_solution_31 ?_
            exact J_iret (pc := 32) C dX0_solution_32 (by decide) hok h10 (by decide) (by decide)
  · have h2 := h2 cb
    refine J_iconst (pc := 5) C dX0_solution_5 ?_
    exact J_iret (pc := 6) C dX0_solution_6 (by decide) hok h2 (by decide) (by decide)
def rmX0_turn : Room := { frames := 1, cells := 0, slots := 0, locals := 13 }
theorem mX0_turn_f20 : Cond.fieldLink RX0 20 "Stresswork$Grid" "rows" "I" ∈ wsX0_turn := by decide +kernel
theorem nX0_turn_X0 : ∀ x ∈ wsX00, x ∈ wsX0_turn := by decide +kernel
theorem mX0_turn_f24 : Cond.fieldLink RX0 24 "Stresswork$Grid" "columns" "I" ∈ wsX0_turn := by decide +kernel
theorem mX0_turn_l27 : Cond.methodLink RX0 27 Lib.Math.max.name ∈ wsX0_turn := by decide +kernel
theorem mX0_turn_smax : Cond.static Lib.Math.max.name ∈ wsX0_turn := by decide +kernel
theorem mX0_turn_iMath : Cond.initialized "java/lang/Math" ∈ wsX0_turn := by decide +kernel
theorem mX0_turn_kmax : Cond.code Lib.Math.max.name Lib.Math.max.code 2 (some .int) ∈ wsX0_turn := by decide +kernel
theorem mX0_turn_f13 : Cond.fieldLink RX0 13 "Stresswork$Grid" "cells" "[[J" ∈ wsX0_turn := by decide +kernel
def M_X0_turn (S : St) (Qr : Int → St → Prop) (Qx : String → St → Prop) : Prop := MM 0 wC okC yX0_turn wsX0_turn rmX0_turn (fun G => [.ref (G.2.2 5)]) S Qr Qx
def R_X0_turn_14 (x1 x2 : Int) (S : St) (Qr : Int → St → Prop) (Qx : String → St → Prop) : Prop := r32 x1 → r32 x2 → RR 0 wC okC wsX0_turn rmX0_turn cX0_turn 6 RX0 none [] 0 0 (fun G => [some (.ref (G.2.2 5)), some (iV x1), some (iV x2), none, none, none]) (fun G => []) 14 S Qr Qx
def R_X0_turn_21 (x1 x2 x3 : Int) (S : St) (Qr : Int → St → Prop) (Qx : String → St → Prop) : Prop := r32 x1 → r32 x2 → r32 x3 → RR 0 wC okC wsX0_turn rmX0_turn cX0_turn 6 RX0 none [] 0 0 (fun G => [some (.ref (G.2.2 5)), some (iV x1), some (iV x2), some (iV x3), none, none]) (fun G => []) 21 S Qr Qx
set_option maxRecDepth 100000 in
set_option maxHeartbeats 4000000 in
theorem vc_X0_turn {S : St} {Qr : Int → St → Prop} {Qx : String → St → Prop} (h : okC S → R_X0_turn_14 (if (S 5 2) < (S 5 3) then (S 5 3) else (S 5 2)) 0 S Qr Qx) : M_X0_turn S Qr Qx := by
  refine MM_of adC (by decide +kernel) rfl (Lf := fun G => [some (.ref (G.2.2 5)), none, none, none, none, none]) (fun G => by show _ ≤ _; exact Nat.le_of_ble_eq_true rfl) (fun G => rfl) ?_
  intro p l e s m args below meth c G A C hok
  have h := h hok
  replace C : Cx wC cX0_turn 6 RX0 wsX0_turn none [] p l s m args meth c G A := C
  show J wC 6 rmX0_turn p l e s m args below meth c G A (QQ 0 wC okC G Qr Qx A below args s rmX0_turn.cells rmX0_turn.slots) 0 0 S [some (.ref (G.2.2 5)), none, none, none, none, none] [] 0
  refine J_aload_n (pc := 0) C dX0_turn_0 rfl ?_
  refine J_get (pc := 1) C dX0_turn_1 5 rfl rfl nX0_turn_X0 2 (by decide) mX0_turn_f20 rfl (v := iV (S 5 2)) rfl ?_
  refine J_aload_n (pc := 4) C dX0_turn_4 rfl ?_
  refine J_get (pc := 5) C dX0_turn_5 5 rfl rfl nX0_turn_X0 3 (by decide) mX0_turn_f24 rfl (v := iV (S 5 3)) rfl ?_
  refine J_mmax (pc := 8) C dX0_turn_8 mX0_turn_l27 mX0_turn_smax mX0_turn_iMath mX0_turn_kmax (by decide) (Nat.le_of_ble_eq_true rfl) (by decide) (by decide) (hok 5 2) (hok 5 3) ?_
  refine J_istore_n (pc := 11) C dX0_turn_11 (by decide) ?_
  refine J_iconst (pc := 12) C dX0_turn_12 ?_
  refine J_istore_n (pc := 13) C dX0_turn_13 (by decide) ?_
  exact J_sub (L1 := [some (.ref (G.2.2 5)), some (iV (if (S 5 2) < (S 5 3) then (S 5 3) else (S 5 2))), some (iV 0), none, none, none]) ⟨rfl, ⟨rfl, ⟨rfl, trivial⟩⟩⟩ (h (r_ite (hok 5 3) (hok 5 2)) (by decide) p l e s m args below meth c G A C hok)
set_option maxRecDepth 100000 in
set_option maxHeartbeats 4000000 in
theorem vc_X0_turn_14 {x1 x2 : Int} {S : St} {Qr : Int → St → Prop} {Qx : String → St → Prop} (h : r32 x1 → r32 x2 → okC S → ((x1 ≤ x2 → Qr 0 (up (up S 5 2 (S 5 3)) 5 3 (S 5 2))) ∧ (x2 < x1 → R_X0_turn_21 x1 x2 0 S Qr Qx))) : R_X0_turn_14 x1 x2 S Qr Qx := by
  intro rx1 rx2
  intro p l e s m args below meth c G A C hok
  have h := h rx1 rx2 hok
  replace C : Cx wC cX0_turn 6 RX0 wsX0_turn none [] p l s m args meth c G A := C
  show J wC 6 rmX0_turn p l e s m args below meth c G A (QQ 0 wC okC G Qr Qx A below args s rmX0_turn.cells rmX0_turn.slots) 0 0 S [some (.ref (G.2.2 5)), some (iV x1), some (iV x2), none, none, none] [] 14
  refine J_iload_n (pc := 14) C dX0_turn_14 rfl ?_
  refine J_iload_n (pc := 15) C dX0_turn_15 rfl ?_
  obtain ⟨h1, h2⟩ := h
  refine J_icmp_ge (pc := 16) (tgt := 74) C dX0_turn_16 (by decide) rx2 rx1 (fun cb => ?_) (fun cb => ?_)
  · have h1 := h1 cb
    refine J_aload_n (pc := 74) C dX0_turn_74 rfl ?_
    refine J_get (pc := 75) C dX0_turn_75 5 rfl rfl nX0_turn_X0 2 (by decide) mX0_turn_f20 rfl (v := iV (S 5 2)) rfl ?_
    refine J_istore_n (pc := 78) C dX0_turn_78 (by decide) ?_
    refine J_aload_n (pc := 79) C dX0_turn_79 rfl ?_
    refine J_aload_n (pc := 80) C dX0_turn_80 rfl ?_
    refine J_get (pc := 81) C dX0_turn_81 5 rfl rfl nX0_turn_X0 3 (by decide) mX0_turn_f24 rfl (v := iV (S 5 3)) rfl ?_
    refine J_put (pc := 84) C dX0_turn_84 5 rfl rfl nX0_turn_X0 tyX0 tyX0_ok nmX0 2 (by decide) mX0_turn_f20 rfl rfl (v := iV (S 5 3)) rfl rfl (Nat.le_of_ble_eq_true rfl) (sC_5_2 G S (S 5 3)) ?_
    have hok3 := okC_up (k := 5) (j := 2) hok (show rngC 5 (S 5 3) from (hok 5 3))
    refine J_aload_n (pc := 87) C dX0_turn_87 rfl ?_
    refine J_iload_n (pc := 88) C dX0_turn_88 rfl ?_
    refine J_put (pc := 89) C dX0_turn_89 5 rfl rfl nX0_turn_X0 tyX0 tyX0_ok nmX0 3 (by decide) mX0_turn_f24 rfl rfl (v := iV (S 5 2)) rfl rfl (Nat.le_of_ble_eq_true rfl) (sC_5_3 G (up S 5 2 (S 5 3)) (S 5 2)) ?_
    have hok4 := okC_up (k := 5) (j := 3) hok3 (show rngC 5 (S 5 2) from (hok 5 2))
    exact J_vret (pc := 92) C dX0_turn_92 hok4 h1 (by decide) (by decide)
  · have h2 := h2 cb
    refine J_iconst (pc := 19) C dX0_turn_19 ?_
    refine J_istore_n (pc := 20) C dX0_turn_20 (by decide) ?_
    exact J_sub (L1 := [some (.ref (G.2.2 5)), some (iV x1), some (iV x2), some (iV 0), none, none]) ⟨rfl, ⟨rfl, ⟨rfl, ⟨rfl, trivial⟩⟩⟩⟩ (h2 rx1 rx2 (by decide) p l e s m args below meth c G A C hok)
set_option maxRecDepth 100000 in
set_option maxHeartbeats 4000000 in
theorem vc_X0_turn_21 {x1 x2 x3 : Int} {S : St} {Qr : Int → St → Prop} {Qx : String → St → Prop} (h : r32 x1 → r32 x2 → r32 x3 → okC S → ((x2 ≤ x3 → (r32 (x2 + 1) ∧ R_X0_turn_14 x1 (x2 + 1) S Qr Qx)) ∧ (x3 < x2 → (ix x2 40 ∧ (ix x3 40 ∧ (r32 (x3 + 1) ∧ R_X0_turn_21 x1 x2 (x3 + 1) (up (up S 22 (40 * x2 + x3) (S 22 (40 * x3 + x2))) 22 (40 * x3 + x2) (S 22 (40 * x2 + x3))) Qr Qx)))))) : R_X0_turn_21 x1 x2 x3 S Qr Qx := by
  intro rx1 rx2 rx3
  intro p l e s m args below meth c G A C hok
  have h := h rx1 rx2 rx3 hok
  replace C : Cx wC cX0_turn 6 RX0 wsX0_turn none [] p l s m args meth c G A := C
  show J wC 6 rmX0_turn p l e s m args below meth c G A (QQ 0 wC okC G Qr Qx A below args s rmX0_turn.cells rmX0_turn.slots) 0 0 S [some (.ref (G.2.2 5)), some (iV x1), some (iV x2), some (iV x3), none, none] [] 21
  refine J_iload_n (pc := 21) C dX0_turn_21 rfl ?_
  refine J_iload_n (pc := 22) C dX0_turn_22 rfl ?_
  obtain ⟨h1, h2⟩ := h
  refine J_icmp_ge (pc := 23) (tgt := 68) C dX0_turn_23 (by decide) rx3 rx2 (fun cb => ?_) (fun cb => ?_)
  · have h1 := h1 cb
    refine J_iinc (pc := 68) C dX0_turn_68 rfl (by decide) ?_
    refine J_goto (pc := 71) (tgt := 14) C dX0_turn_71 (by decide) ?_
    obtain ⟨o3, h4⟩ := h1
    exact J_sub (L1 := [some (.ref (G.2.2 5)), some (iV x1), some (iV (x2 + 1)), none, none, none]) ⟨rfl, ⟨rfl, ⟨rfl, trivial⟩⟩⟩ (h4 rx1 o3 p l e s m args below meth c G A C hok)
  · have h2 := h2 cb
    refine J_aload_n (pc := 26) C dX0_turn_26 rfl ?_
    refine J_get (pc := 27) C dX0_turn_27 5 rfl rfl nX0_turn_X0 0 (by decide) mX0_turn_f13 rfl (v := .ref (G.2.2 22)) rfl ?_
    refine J_iload_n (pc := 30) C dX0_turn_30 rfl ?_
    obtain ⟨o5, h6⟩ := h2
    refine J_aald (pc := 31) C dX0_turn_31 o5 ?_
    refine J_iload_n (pc := 32) C dX0_turn_32 rfl ?_
    obtain ⟨o7, h8⟩ := h6
    refine J_rld (pc := 33) C dX0_turn_33 o5 o7 ?_
    refine J_lstore (pc := 34) C dX0_turn_34 (by decide) ?_
    refine J_aload_n (pc := 36) C dX0_turn_36 rfl ?_
    refine J_get (pc := 37) C dX0_turn_37 5 rfl rfl nX0_turn_X0 0 (by decide) mX0_turn_f13 rfl (v := .ref (G.2.2 22)) rfl ?_
    refine J_iload_n (pc := 40) C dX0_turn_40 rfl ?_
    refine J_aald (pc := 41) C dX0_turn_41 o5 ?_
    refine J_iload_n (pc := 42) C dX0_turn_42 rfl ?_
    refine J_aload_n (pc := 43) C dX0_turn_43 rfl ?_
    refine J_get (pc := 44) C dX0_turn_44 5 rfl rfl nX0_turn_X0 0 (by decide) mX0_turn_f13 rfl (v := .ref (G.2.2 22)) rfl ?_
    refine J_iload_n (pc := 47) C dX0_turn_47 rfl ?_
    refine J_aald (pc := 48) C dX0_turn_48 o7 ?_
    refine J_iload_n (pc := 49) C dX0_turn_49 rfl ?_
    refine J_rld (pc := 50) C dX0_turn_50 o7 o5 ?_
    refine J_rst (pc := 51) C dX0_turn_51 o5 o7 ?_
    have hok9 := okC_up (k := 22) (j := (40 * x2 + x3)) hok (show rngC 22 (S 22 (40 * x3 + x2)) from (hok 22 (40 * x3 + x2)))
    refine J_aload_n (pc := 52) C dX0_turn_52 rfl ?_
    refine J_get (pc := 53) C dX0_turn_53 5 rfl rfl nX0_turn_X0 0 (by decide) mX0_turn_f13 rfl (v := .ref (G.2.2 22)) rfl ?_
    refine J_iload_n (pc := 56) C dX0_turn_56 rfl ?_
    refine J_aald (pc := 57) C dX0_turn_57 o7 ?_
    refine J_iload_n (pc := 58) C dX0_turn_58 rfl ?_
    refine J_lload (pc := 59) C dX0_turn_59 rfl ?_
    refine J_rst (pc := 61) C dX0_turn_61 o7 o5 ?_
    have hok10 := okC_up (k := 22) (j := (40 * x3 + x2)) hok9 (show rngC 22 (S 22 (40 * x2 + x3)) from (hok 22 (40 * x2 + x3)))
    refine J_iinc (pc := 62) C dX0_turn_62 rfl (by decide) ?_
    refine J_goto (pc := 65) (tgt := 21) C dX0_turn_65 (by decide) ?_
    obtain ⟨o11, h12⟩ := h8
    exact J_sub (L1 := [some (.ref (G.2.2 5)), some (iV x1), some (iV x2), some (iV (x3 + 1)), none, none]) ⟨rfl, ⟨rfl, ⟨rfl, ⟨rfl, trivial⟩⟩⟩⟩ (h12 rx1 rx2 o11 p l e s m args below meth c G A C hok10)
def rmX1_add : Room := { frames := 0, cells := 0, slots := 0, locals := 0 }
theorem mX1_add_f25 : Cond.fieldLink RX1 25 "Stresswork$Joints" "count" "I" ∈ wsX1_add := by decide +kernel
theorem nX1_add_X1 : ∀ x ∈ wsX10, x ∈ wsX1_add := by decide +kernel
theorem mX1_add_f9 : Cond.fieldLink RX1 9 "Stresswork$Joints" "x" "[I" ∈ wsX1_add := by decide +kernel
theorem mX1_add_f15 : Cond.fieldLink RX1 15 "Stresswork$Joints" "y" "[I" ∈ wsX1_add := by decide +kernel
theorem mX1_add_f18 : Cond.fieldLink RX1 18 "Stresswork$Joints" "pinned" "[Z" ∈ wsX1_add := by decide +kernel
theorem mX1_add_f22 : Cond.fieldLink RX1 22 "Stresswork$Joints" "square" "[I" ∈ wsX1_add := by decide +kernel
def M_X1_add (a0 a1 : Int) (S : St) (Qr : Int → St → Prop) (Qx : String → St → Prop) : Prop := r32 a0 → r32 a1 → MM 1 wC okC yX1_add wsX1_add rmX1_add (fun G => [.ref (G.2.2 1), iV a0, iV a1]) S Qr Qx
set_option maxRecDepth 100000 in
set_option maxHeartbeats 4000000 in
theorem vc_X1_add {a0 a1 : Int} {S : St} {Qr : Int → St → Prop} {Qx : String → St → Prop} (h : r32 a0 → r32 a1 → okC S → (((S 1 4) < 10 → (ix (S 1 4) 10 ∧ (r32 ((S 1 4) + 1) ∧ (r32 (((S 1 4) + 1) - 1) ∧ Qr (((S 1 4) + 1) - 1) (up (up (up (up (up S 7 (S 1 4) a0) 8 (S 1 4) a1) 9 (S 1 4) 0) 10 (S 1 4) (-1)) 1 4 ((S 1 4) + 1)))))) ∧ (10 ≤ (S 1 4) → Qr (-1) S))) : M_X1_add a0 a1 S Qr Qx := by
  intro ra0 ra1
  refine MM_of adC (by decide +kernel) rfl (Lf := fun G => [some (.ref (G.2.2 1)), some (iV a0), some (iV a1)]) (fun G => by show _ ≤ _; exact Nat.le_of_ble_eq_true rfl) (fun G => rfl) ?_
  intro p l e s m args below meth c G A C hok
  have h := h ra0 ra1 hok
  replace C : Cx wC cX1_add 3 RX1 wsX1_add (some .int) [] p l s m args meth c G A := C
  show J wC 3 rmX1_add p l e s m args below meth c G A (QQ 1 wC okC G Qr Qx A below args s rmX1_add.cells rmX1_add.slots) 0 0 S [some (.ref (G.2.2 1)), some (iV a0), some (iV a1)] [] 0
  refine J_aload_n (pc := 0) C dX1_add_0 rfl ?_
  refine J_get (pc := 1) C dX1_add_1 1 rfl rfl nX1_add_X1 4 (by decide) mX1_add_f25 rfl (v := iV (S 1 4)) rfl ?_
  refine J_bipush (pc := 4) C dX1_add_4 (by decide) ?_
  obtain ⟨h1, h2⟩ := h
  refine J_icmp_lt (pc := 6) (tgt := 11) C dX1_add_6 (by decide) (hok 1 4) (by decide) (fun cb => ?_) (fun cb => ?_)
  · have h1 := h1 cb
    refine J_aload_n (pc := 11) C dX1_add_11 rfl ?_
    refine J_get (pc := 12) C dX1_add_12 1 rfl rfl nX1_add_X1 0 (by decide) mX1_add_f9 rfl (v := .ref (G.2.2 7)) rfl ?_
    refine J_aload_n (pc := 15) C dX1_add_15 rfl ?_
    refine J_get (pc := 16) C dX1_add_16 1 rfl rfl nX1_add_X1 4 (by decide) mX1_add_f25 rfl (v := iV (S 1 4)) rfl ?_
    refine J_iload_n (pc := 19) C dX1_add_19 rfl ?_
    obtain ⟨o3, h4⟩ := h1
    refine J_iast (pc := 20) C dX1_add_20 7 7 rfl (by decide) o3 (sC_7 G S (S 1 4) a0) ?_
    have hok5 := okC_up (k := 7) (j := (S 1 4)) hok (show rngC 7 a0 from ra0)
    refine J_aload_n (pc := 21) C dX1_add_21 rfl ?_
    refine J_get (pc := 22) C dX1_add_22 1 rfl rfl nX1_add_X1 1 (by decide) mX1_add_f15 rfl (v := .ref (G.2.2 8)) rfl ?_
    refine J_aload_n (pc := 25) C dX1_add_25 rfl ?_
    refine J_get (pc := 26) C dX1_add_26 1 rfl rfl nX1_add_X1 4 (by decide) mX1_add_f25 rfl (v := iV (S 1 4)) rfl ?_
    refine J_iload_n (pc := 29) C dX1_add_29 rfl ?_
    refine J_iast (pc := 30) C dX1_add_30 8 8 rfl (by decide) o3 (sC_8 G (up S 7 (S 1 4) a0) (S 1 4) a1) ?_
    have hok6 := okC_up (k := 8) (j := (S 1 4)) hok5 (show rngC 8 a1 from ra1)
    refine J_aload_n (pc := 31) C dX1_add_31 rfl ?_
    refine J_get (pc := 32) C dX1_add_32 1 rfl rfl nX1_add_X1 2 (by decide) mX1_add_f18 rfl (v := .ref (G.2.2 9)) rfl ?_
    refine J_aload_n (pc := 35) C dX1_add_35 rfl ?_
    refine J_get (pc := 36) C dX1_add_36 1 rfl rfl nX1_add_X1 4 (by decide) mX1_add_f25 rfl (v := iV (S 1 4)) rfl ?_
    refine J_iconst (pc := 39) C dX1_add_39 ?_
    refine J_zast (pc := 40) C dX1_add_40 9 9 rfl (by decide) o3 (by decide) (sC_9 G (up (up S 7 (S 1 4) a0) 8 (S 1 4) a1) (S 1 4) 0) ?_
    have hok7 := okC_up (k := 9) (j := (S 1 4)) hok6 (show rngC 9 0 from (by decide : (0:Int) ≤ 0 ∧ (0:Int) ≤ 1))
    refine J_aload_n (pc := 41) C dX1_add_41 rfl ?_
    refine J_get (pc := 42) C dX1_add_42 1 rfl rfl nX1_add_X1 3 (by decide) mX1_add_f22 rfl (v := .ref (G.2.2 10)) rfl ?_
    refine J_aload_n (pc := 45) C dX1_add_45 rfl ?_
    refine J_get (pc := 46) C dX1_add_46 1 rfl rfl nX1_add_X1 4 (by decide) mX1_add_f25 rfl (v := iV (S 1 4)) rfl ?_
    refine J_iconst (pc := 49) C dX1_add_49 ?_
    refine J_iast (pc := 50) C dX1_add_50 10 10 rfl (by decide) o3 (sC_10 G (up (up (up S 7 (S 1 4) a0) 8 (S 1 4) a1) 9 (S 1 4) 0) (S 1 4) (-1)) ?_
    have hok8 := okC_up (k := 10) (j := (S 1 4)) hok7 (show rngC 10 (-1) from (by decide : r32 (-1)))
    refine J_aload_n (pc := 51) C dX1_add_51 rfl ?_
    refine J_dup (pc := 52) C dX1_add_52 rfl ?_
    refine J_get (pc := 53) C dX1_add_53 1 rfl rfl nX1_add_X1 4 (by decide) mX1_add_f25 rfl (v := iV (S 1 4)) rfl ?_
    refine J_iconst (pc := 56) C dX1_add_56 ?_
    refine J_iadd (pc := 57) C dX1_add_57 ?_
    obtain ⟨o9, h10⟩ := h4
    refine J_put (pc := 58) C dX1_add_58 1 rfl rfl nX1_add_X1 tyX1 tyX1_ok nmX1 4 (by decide) mX1_add_f25 rfl rfl (v := iV ((S 1 4) + 1)) rfl rfl (Nat.le_of_ble_eq_true rfl) (sC_1_4 G (up (up (up (up S 7 (S 1 4) a0) 8 (S 1 4) a1) 9 (S 1 4) 0) 10 (S 1 4) (-1)) ((S 1 4) + 1)) ?_
    have hok11 := okC_up (k := 1) (j := 4) hok8 (show rngC 1 ((S 1 4) + 1) from o9)
    refine J_aload_n (pc := 61) C dX1_add_61 rfl ?_
    refine J_get (pc := 62) C dX1_add_62 1 rfl rfl nX1_add_X1 4 (by decide) mX1_add_f25 rfl (v := iV ((S 1 4) + 1)) rfl ?_
    refine J_iconst (pc := 65) C dX1_add_65 ?_
    refine J_isub (pc := 66) C dX1_add_66 ?_
    obtain ⟨o12, h13⟩ := h10
    exact J_iret (pc := 67) C dX1_add_67 o12 hok11 h13 (by decide) (by decide)
  · have h2 := h2 cb
    refine J_iconst (pc := 9) C dX1_add_9 ?_
    exact J_iret (pc := 10) C dX1_add_10 (by decide) hok h2 (by decide) (by decide)
def rmX1_all : Room := { frames := 0, cells := 0, slots := 0, locals := 0 }
theorem mX1_all_f25 : Cond.fieldLink RX1 25 "Stresswork$Joints" "count" "I" ∈ wsX1_all := by decide +kernel
theorem nX1_all_X1 : ∀ x ∈ wsX10, x ∈ wsX1_all := by decide +kernel
def M_X1_all (S : St) (Qr : Int → St → Prop) (Qx : String → St → Prop) : Prop := MM 1 wC okC yX1_all wsX1_all rmX1_all (fun G => [.ref (G.2.2 1)]) S Qr Qx
set_option maxRecDepth 100000 in
set_option maxHeartbeats 4000000 in
theorem vc_X1_all {S : St} {Qr : Int → St → Prop} {Qx : String → St → Prop} (h : okC S → (r32 ((zshl 1 (S 1 4)) - 1) ∧ Qr ((zshl 1 (S 1 4)) - 1) S)) : M_X1_all S Qr Qx := by
  refine MM_of adC (by decide +kernel) rfl (Lf := fun G => [some (.ref (G.2.2 1))]) (fun G => by show _ ≤ _; exact Nat.le_of_ble_eq_true rfl) (fun G => rfl) ?_
  intro p l e s m args below meth c G A C hok
  have h := h hok
  replace C : Cx wC cX1_all 1 RX1 wsX1_all (some .int) [] p l s m args meth c G A := C
  show J wC 1 rmX1_all p l e s m args below meth c G A (QQ 1 wC okC G Qr Qx A below args s rmX1_all.cells rmX1_all.slots) 0 0 S [some (.ref (G.2.2 1))] [] 0
  refine J_iconst (pc := 0) C dX1_all_0 ?_
  refine J_aload_n (pc := 1) C dX1_all_1 rfl ?_
  refine J_get (pc := 2) C dX1_all_2 1 rfl rfl nX1_all_X1 4 (by decide) mX1_all_f25 rfl (v := iV (S 1 4)) rfl ?_
  refine J_ishl (pc := 5) C dX1_all_5 ?_
  refine J_iconst (pc := 6) C dX1_all_6 ?_
  refine J_isub (pc := 7) C dX1_all_7 ?_
  obtain ⟨o1, h2⟩ := h
  exact J_iret (pc := 8) C dX1_all_8 o1 hok h2 (by decide) (by decide)
def rmX1_dropLast : Room := { frames := 0, cells := 0, slots := 0, locals := 0 }
theorem mX1_dropLast_f25 : Cond.fieldLink RX1 25 "Stresswork$Joints" "count" "I" ∈ wsX1_dropLast := by decide +kernel
theorem nX1_dropLast_X1 : ∀ x ∈ wsX10, x ∈ wsX1_dropLast := by decide +kernel
def M_X1_dropLast (S : St) (Qr : Int → St → Prop) (Qx : String → St → Prop) : Prop := MM 0 wC okC yX1_dropLast wsX1_dropLast rmX1_dropLast (fun G => [.ref (G.2.2 1)]) S Qr Qx
set_option maxRecDepth 100000 in
set_option maxHeartbeats 4000000 in
theorem vc_X1_dropLast {S : St} {Qr : Int → St → Prop} {Qx : String → St → Prop} (h : okC S → (((S 1 4) ≤ 0 → Qr 0 S) ∧ (0 < (S 1 4) → (r32 ((S 1 4) - 1) ∧ Qr 0 (up S 1 4 ((S 1 4) - 1)))))) : M_X1_dropLast S Qr Qx := by
  refine MM_of adC (by decide +kernel) rfl (Lf := fun G => [some (.ref (G.2.2 1))]) (fun G => by show _ ≤ _; exact Nat.le_of_ble_eq_true rfl) (fun G => rfl) ?_
  intro p l e s m args below meth c G A C hok
  have h := h hok
  replace C : Cx wC cX1_dropLast 1 RX1 wsX1_dropLast none [] p l s m args meth c G A := C
  show J wC 1 rmX1_dropLast p l e s m args below meth c G A (QQ 0 wC okC G Qr Qx A below args s rmX1_dropLast.cells rmX1_dropLast.slots) 0 0 S [some (.ref (G.2.2 1))] [] 0
  refine J_aload_n (pc := 0) C dX1_dropLast_0 rfl ?_
  refine J_get (pc := 1) C dX1_dropLast_1 1 rfl rfl nX1_dropLast_X1 4 (by decide) mX1_dropLast_f25 rfl (v := iV (S 1 4)) rfl ?_
  obtain ⟨h1, h2⟩ := h
  refine J_if_le (pc := 4) (tgt := 17) C dX1_dropLast_4 (by decide) (hok 1 4) (fun cb => ?_) (fun cb => ?_)
  · have h1 := h1 cb
    exact J_vret (pc := 17) C dX1_dropLast_17 hok h1 (by decide) (by decide)
  · have h2 := h2 cb
    refine J_aload_n (pc := 7) C dX1_dropLast_7 rfl ?_
    refine J_dup (pc := 8) C dX1_dropLast_8 rfl ?_
    refine J_get (pc := 9) C dX1_dropLast_9 1 rfl rfl nX1_dropLast_X1 4 (by decide) mX1_dropLast_f25 rfl (v := iV (S 1 4)) rfl ?_
    refine J_iconst (pc := 12) C dX1_dropLast_12 ?_
    refine J_isub (pc := 13) C dX1_dropLast_13 ?_
    obtain ⟨o3, h4⟩ := h2
    refine J_put (pc := 14) C dX1_dropLast_14 1 rfl rfl nX1_dropLast_X1 tyX1 tyX1_ok nmX1 4 (by decide) mX1_dropLast_f25 rfl rfl (v := iV ((S 1 4) - 1)) rfl rfl (Nat.le_of_ble_eq_true rfl) (sC_1_4 G S ((S 1 4) - 1)) ?_
    have hok5 := okC_up (k := 1) (j := 4) hok (show rngC 1 ((S 1 4) - 1) from o3)
    exact J_vret (pc := 17) C dX1_dropLast_17 hok5 h4 (by decide) (by decide)
def rmX1_fits : Room := { frames := 0, cells := 0, slots := 0, locals := 0 }
theorem mX1_fits_f25 : Cond.fieldLink RX1 25 "Stresswork$Joints" "count" "I" ∈ wsX1_fits := by decide +kernel
theorem nX1_fits_X1 : ∀ x ∈ wsX10, x ∈ wsX1_fits := by decide +kernel
theorem mX1_fits_f22 : Cond.fieldLink RX1 22 "Stresswork$Joints" "square" "[I" ∈ wsX1_fits := by decide +kernel
theorem mX1_fits_f9 : Cond.fieldLink RX1 9 "Stresswork$Joints" "x" "[I" ∈ wsX1_fits := by decide +kernel
theorem mX1_fits_f15 : Cond.fieldLink RX1 15 "Stresswork$Joints" "y" "[I" ∈ wsX1_fits := by decide +kernel
def M_X1_fits (a0 a1 a2 : Int) (S : St) (Qr : Int → St → Prop) (Qx : String → St → Prop) : Prop := r32 a0 → r32 a1 → r32 a2 → MM 1 wC okC yX1_fits wsX1_fits rmX1_fits (fun G => [.ref (G.2.2 1), iV a0, iV a1, iV a2]) S Qr Qx
def R_X1_fits_3 (x1 x2 x3 x4 : Int) (S : St) (Qr : Int → St → Prop) (Qx : String → St → Prop) : Prop := r32 x1 → r32 x2 → r32 x3 → r32 x4 → RR 1 wC okC wsX1_fits rmX1_fits cX1_fits 8 RX1 (some .boolean) [] 0 0 (fun G => [some (.ref (G.2.2 1)), some (iV x1), some (iV x2), some (iV x3), some (iV x4), none, none, none]) (fun G => []) 3 S Qr Qx
set_option maxRecDepth 100000 in
set_option maxHeartbeats 4000000 in
theorem vc_X1_fits {a0 a1 a2 : Int} {S : St} {Qr : Int → St → Prop} {Qx : String → St → Prop} (h : r32 a0 → r32 a1 → r32 a2 → okC S → R_X1_fits_3 a0 a1 a2 0 S Qr Qx) : M_X1_fits a0 a1 a2 S Qr Qx := by
  intro ra0 ra1 ra2
  refine MM_of adC (by decide +kernel) rfl (Lf := fun G => [some (.ref (G.2.2 1)), some (iV a0), some (iV a1), some (iV a2), none, none, none, none]) (fun G => by show _ ≤ _; exact Nat.le_of_ble_eq_true rfl) (fun G => rfl) ?_
  intro p l e s m args below meth c G A C hok
  have h := h ra0 ra1 ra2 hok
  replace C : Cx wC cX1_fits 8 RX1 wsX1_fits (some .boolean) [] p l s m args meth c G A := C
  show J wC 8 rmX1_fits p l e s m args below meth c G A (QQ 1 wC okC G Qr Qx A below args s rmX1_fits.cells rmX1_fits.slots) 0 0 S [some (.ref (G.2.2 1)), some (iV a0), some (iV a1), some (iV a2), none, none, none, none] [] 0
  refine J_iconst (pc := 0) C dX1_fits_0 ?_
  refine J_istore (pc := 1) C dX1_fits_1 (by decide) ?_
  exact J_sub (L1 := [some (.ref (G.2.2 1)), some (iV a0), some (iV a1), some (iV a2), some (iV 0), none, none, none]) ⟨rfl, ⟨rfl, ⟨rfl, ⟨rfl, ⟨rfl, trivial⟩⟩⟩⟩⟩ (h ra0 ra1 ra2 (by decide) p l e s m args below meth c G A C hok)
set_option maxRecDepth 100000 in
set_option maxHeartbeats 4000000 in
theorem vc_X1_fits_3 {x1 x2 x3 x4 : Int} {S : St} {Qr : Int → St → Prop} {Qx : String → St → Prop} (h : r32 x1 → r32 x2 → r32 x3 → r32 x4 → okC S → (((S 1 4) ≤ x4 → Qr 1 S) ∧ (x4 < (S 1 4) → (ix x4 10 ∧ (((S 10 x4) = (-1) → (r32 (x4 + 1) ∧ R_X1_fits_3 x1 x2 x3 (x4 + 1) S Qr Qx)) ∧ ((S 10 x4) ≠ (-1) → (r32 ((((x1 - (S 7 x4)) * (x1 - (S 7 x4))) + ((x2 - (S 8 x4)) * (x2 - (S 8 x4)))) - (S 10 x4)) ∧ ((x3 < ((((x1 - (S 7 x4)) * (x1 - (S 7 x4))) + ((x2 - (S 8 x4)) * (x2 - (S 8 x4)))) - (S 10 x4)) → Qr 0 S) ∧ (((((x1 - (S 7 x4)) * (x1 - (S 7 x4))) + ((x2 - (S 8 x4)) * (x2 - (S 8 x4)))) - (S 10 x4)) ≤ x3 → (r32 (-x3) ∧ (((-x3) ≤ ((((x1 - (S 7 x4)) * (x1 - (S 7 x4))) + ((x2 - (S 8 x4)) * (x2 - (S 8 x4)))) - (S 10 x4)) → (r32 (x4 + 1) ∧ R_X1_fits_3 x1 x2 x3 (x4 + 1) S Qr Qx)) ∧ (((((x1 - (S 7 x4)) * (x1 - (S 7 x4))) + ((x2 - (S 8 x4)) * (x2 - (S 8 x4)))) - (S 10 x4)) < (-x3) → Qr 0 S)))))))))))) : R_X1_fits_3 x1 x2 x3 x4 S Qr Qx := by
  intro rx1 rx2 rx3 rx4
  intro p l e s m args below meth c G A C hok
  have h := h rx1 rx2 rx3 rx4 hok
  replace C : Cx wC cX1_fits 8 RX1 wsX1_fits (some .boolean) [] p l s m args meth c G A := C
  show J wC 8 rmX1_fits p l e s m args below meth c G A (QQ 1 wC okC G Qr Qx A below args s rmX1_fits.cells rmX1_fits.slots) 0 0 S [some (.ref (G.2.2 1)), some (iV x1), some (iV x2), some (iV x3), some (iV x4), none, none, none] [] 3
  refine J_iload (pc := 3) C dX1_fits_3 rfl ?_
  refine J_aload_n (pc := 5) C dX1_fits_5 rfl ?_
  refine J_get (pc := 6) C dX1_fits_6 1 rfl rfl nX1_fits_X1 4 (by decide) mX1_fits_f25 rfl (v := iV (S 1 4)) rfl ?_
  obtain ⟨h1, h2⟩ := h
  refine J_icmp_ge (pc := 9) (tgt := 87) C dX1_fits_9 (by decide) rx4 (hok 1 4) (fun cb => ?_) (fun cb => ?_)
  · have h1 := h1 cb
    refine J_iconst (pc := 87) C dX1_fits_87 ?_
    exact J_zret (pc := 88) C dX1_fits_88 (by decide) hok h1 (by decide) (by decide)
  · have h2 := h2 cb
    refine J_aload_n (pc := 12) C dX1_fits_12 rfl ?_
    refine J_get (pc := 13) C dX1_fits_13 1 rfl rfl nX1_fits_X1 3 (by decide) mX1_fits_f22 rfl (v := .ref (G.2.2 10)) rfl ?_
    refine J_iload (pc := 16) C dX1_fits_16 rfl ?_
    obtain ⟨o3, h4⟩ := h2
    refine J_iald (pc := 18) C dX1_fits_18 10 10 rfl (by decide) o3 ?_
    refine J_iconst (pc := 19) C dX1_fits_19 ?_
    obtain ⟨h5, h6⟩ := h4
    refine J_icmp_eq (pc := 20) (tgt := 81) C dX1_fits_20 (by decide) (hok 10 x4) (by decide) (fun cb => ?_) (fun cb => ?_)
    · have h5 := h5 cb
      refine J_iinc (pc := 81) C dX1_fits_81 rfl (by decide) ?_
      refine J_goto (pc := 84) (tgt := 3) C dX1_fits_84 (by decide) ?_
      obtain ⟨o7, h8⟩ := h5
      exact J_sub (L1 := [some (.ref (G.2.2 1)), some (iV x1), some (iV x2), some (iV x3), some (iV (x4 + 1)), none, none, none]) ⟨rfl, ⟨rfl, ⟨rfl, ⟨rfl, ⟨rfl, trivial⟩⟩⟩⟩⟩ (h8 rx1 rx2 rx3 o7 p l e s m args below meth c G A C hok)
    · have h6 := h6 cb
      refine J_iload_n (pc := 23) C dX1_fits_23 rfl ?_
      refine J_aload_n (pc := 24) C dX1_fits_24 rfl ?_
      refine J_get (pc := 25) C dX1_fits_25 1 rfl rfl nX1_fits_X1 0 (by decide) mX1_fits_f9 rfl (v := .ref (G.2.2 7)) rfl ?_
      refine J_iload (pc := 28) C dX1_fits_28 rfl ?_
      refine J_iald (pc := 30) C dX1_fits_30 7 7 rfl (by decide) o3 ?_
      refine J_isub (pc := 31) C dX1_fits_31 ?_
      refine J_istore (pc := 32) C dX1_fits_32 (by decide) ?_
      refine J_iload_n (pc := 34) C dX1_fits_34 rfl ?_
      refine J_aload_n (pc := 35) C dX1_fits_35 rfl ?_
      refine J_get (pc := 36) C dX1_fits_36 1 rfl rfl nX1_fits_X1 1 (by decide) mX1_fits_f15 rfl (v := .ref (G.2.2 8)) rfl ?_
      refine J_iload (pc := 39) C dX1_fits_39 rfl ?_
      refine J_iald (pc := 41) C dX1_fits_41 8 8 rfl (by decide) o3 ?_
      refine J_isub (pc := 42) C dX1_fits_42 ?_
      refine J_istore (pc := 43) C dX1_fits_43 (by decide) ?_
      refine J_iload (pc := 45) C dX1_fits_45 rfl ?_
      refine J_iload (pc := 47) C dX1_fits_47 rfl ?_
      refine J_imul (pc := 49) C dX1_fits_49 ?_
      refine J_iload (pc := 50) C dX1_fits_50 rfl ?_
      refine J_iload (pc := 52) C dX1_fits_52 rfl ?_
      refine J_imul (pc := 54) C dX1_fits_54 ?_
      refine J_iadd (pc := 55) C dX1_fits_55 ?_
      refine J_aload_n (pc := 56) C dX1_fits_56 rfl ?_
      refine J_get (pc := 57) C dX1_fits_57 1 rfl rfl nX1_fits_X1 3 (by decide) mX1_fits_f22 rfl (v := .ref (G.2.2 10)) rfl ?_
      refine J_iload (pc := 60) C dX1_fits_60 rfl ?_
      refine J_iald (pc := 62) C dX1_fits_62 10 10 rfl (by decide) o3 ?_
      refine J_isub (pc := 63) C dX1_fits_63 ?_
      refine J_istore (pc := 64) C dX1_fits_64 (by decide) ?_
      refine J_iload (pc := 66) C dX1_fits_66 rfl ?_
      refine J_iload_n (pc := 68) C dX1_fits_68 rfl ?_
      obtain ⟨o9, h10⟩ := h6
      obtain ⟨h11, h12⟩ := h10
      refine J_icmp_gt (pc := 69) (tgt := 79) C dX1_fits_69 (by decide) o9 rx3 (fun cb => ?_) (fun cb => ?_)
      · have h11 := h11 cb
        refine J_iconst (pc := 79) C dX1_fits_79 ?_
        exact J_zret (pc := 80) C dX1_fits_80 (by decide) hok h11 (by decide) (by decide)
      · have h12 := h12 cb
        refine J_iload (pc := 72) C dX1_fits_72 rfl ?_
        refine J_iload_n (pc := 74) C dX1_fits_74 rfl ?_
        refine J_ineg (pc := 75) C dX1_fits_75 ?_
        obtain ⟨o13, h14⟩ := h12
        obtain ⟨h15, h16⟩ := h14
        refine J_icmp_ge (pc := 76) (tgt := 81) C dX1_fits_76 (by decide) o9 o13 (fun cb => ?_) (fun cb => ?_)
        · have h15 := h15 cb
          refine J_iinc (pc := 81) C dX1_fits_81 rfl (by decide) ?_
          refine J_goto (pc := 84) (tgt := 3) C dX1_fits_84 (by decide) ?_
          obtain ⟨o17, h18⟩ := h15
          exact J_sub (L1 := [some (.ref (G.2.2 1)), some (iV x1), some (iV x2), some (iV x3), some (iV (x4 + 1)), none, none, none]) ⟨rfl, ⟨rfl, ⟨rfl, ⟨rfl, ⟨rfl, trivial⟩⟩⟩⟩⟩ (h18 rx1 rx2 rx3 o17 p l e s m args below meth c G A C hok)
        · have h16 := h16 cb
          refine J_iconst (pc := 79) C dX1_fits_79 ?_
          exact J_zret (pc := 80) C dX1_fits_80 (by decide) hok h16 (by decide) (by decide)
def rmX1_has : Room := { frames := 0, cells := 0, slots := 0, locals := 0 }
theorem mX1_has_f25 : Cond.fieldLink RX1 25 "Stresswork$Joints" "count" "I" ∈ wsX1_has := by decide +kernel
theorem nX1_has_X1 : ∀ x ∈ wsX10, x ∈ wsX1_has := by decide +kernel
def M_X1_has (a0 : Int) (S : St) (Qr : Int → St → Prop) (Qx : String → St → Prop) : Prop := r32 a0 → MM 1 wC okC yX1_has wsX1_has rmX1_has (fun G => [.ref (G.2.2 1), iV a0]) S Qr Qx
set_option maxRecDepth 100000 in
set_option maxHeartbeats 4000000 in
theorem vc_X1_has {a0 : Int} {S : St} {Qr : Int → St → Prop} {Qx : String → St → Prop} (h : r32 a0 → okC S → ((a0 < 0 → Qr 0 S) ∧ (0 ≤ a0 → (((S 1 4) ≤ a0 → Qr 0 S) ∧ (a0 < (S 1 4) → Qr 1 S))))) : M_X1_has a0 S Qr Qx := by
  intro ra0
  refine MM_of adC (by decide +kernel) rfl (Lf := fun G => [some (.ref (G.2.2 1)), some (iV a0)]) (fun G => by show _ ≤ _; exact Nat.le_of_ble_eq_true rfl) (fun G => rfl) ?_
  intro p l e s m args below meth c G A C hok
  have h := h ra0 hok
  replace C : Cx wC cX1_has 2 RX1 wsX1_has (some .boolean) [] p l s m args meth c G A := C
  show J wC 2 rmX1_has p l e s m args below meth c G A (QQ 1 wC okC G Qr Qx A below args s rmX1_has.cells rmX1_has.slots) 0 0 S [some (.ref (G.2.2 1)), some (iV a0)] [] 0
  refine J_iload_n (pc := 0) C dX1_has_0 rfl ?_
  obtain ⟨h1, h2⟩ := h
  refine J_if_lt (pc := 1) (tgt := 16) C dX1_has_1 (by decide) ra0 (fun cb => ?_) (fun cb => ?_)
  · have h1 := h1 cb
    refine J_iconst (pc := 16) C dX1_has_16 ?_
    exact J_zret (pc := 17) C dX1_has_17 (by decide) hok h1 (by decide) (by decide)
  · have h2 := h2 cb
    refine J_iload_n (pc := 4) C dX1_has_4 rfl ?_
    refine J_aload_n (pc := 5) C dX1_has_5 rfl ?_
    refine J_get (pc := 6) C dX1_has_6 1 rfl rfl nX1_has_X1 4 (by decide) mX1_has_f25 rfl (v := iV (S 1 4)) rfl ?_
    obtain ⟨h3, h4⟩ := h2
    refine J_icmp_ge (pc := 9) (tgt := 16) C dX1_has_9 (by decide) ra0 (hok 1 4) (fun cb => ?_) (fun cb => ?_)
    · have h3 := h3 cb
      refine J_iconst (pc := 16) C dX1_has_16 ?_
      exact J_zret (pc := 17) C dX1_has_17 (by decide) hok h3 (by decide) (by decide)
    · have h4 := h4 cb
      refine J_iconst (pc := 12) C dX1_has_12 ?_
      refine J_goto (pc := 13) (tgt := 17) C dX1_has_13 (by decide) ?_
      exact J_zret (pc := 17) C dX1_has_17 (by decide) hok h4 (by decide) (by decide)
def rmX2_cube : Room := { frames := 0, cells := 0, slots := 0, locals := 0 }
theorem mX2_cube_c47 : Cond.constantLong RX2 47 (1000003) ∈ wsX2_cube := by decide +kernel
def M_X2_cube (a0 : Int) (S : St) (Qr : Int → St → Prop) (Qx : String → St → Prop) : Prop := r32 a0 → MM 1 wC okC yX2_cube wsX2_cube rmX2_cube (fun G => [iV a0]) S Qr Qx
set_option maxRecDepth 100000 in
set_option maxHeartbeats 4000000 in
theorem vc_X2_cube {a0 : Int} {S : St} {Qr : Int → St → Prop} {Qx : String → St → Prop} (h : r32 a0 → okC S → (r64 (a0 * a0) ∧ (r64 ((Int.tmod (a0 * a0) 1000003) * a0) ∧ (r32 (Int.tmod ((Int.tmod (a0 * a0) 1000003) * a0) 1000003) ∧ Qr (Int.tmod ((Int.tmod (a0 * a0) 1000003) * a0) 1000003) S)))) : M_X2_cube a0 S Qr Qx := by
  intro ra0
  refine MM_of adC (by decide +kernel) rfl (Lf := fun G => [some (iV a0), none, none]) (fun G => by show _ ≤ _; exact Nat.le_of_ble_eq_true rfl) (fun G => rfl) ?_
  intro p l e s m args below meth c G A C hok
  have h := h ra0 hok
  replace C : Cx wC cX2_cube 3 RX2 wsX2_cube (some .int) [] p l s m args meth c G A := C
  show J wC 3 rmX2_cube p l e s m args below meth c G A (QQ 1 wC okC G Qr Qx A below args s rmX2_cube.cells rmX2_cube.slots) 0 0 S [some (iV a0), none, none] [] 0
  refine J_iload_n (pc := 0) C dX2_cube_0 rfl ?_
  refine J_i2l (pc := 1) C dX2_cube_1 ra0 ?_
  refine J_iload_n (pc := 2) C dX2_cube_2 rfl ?_
  refine J_i2l (pc := 3) C dX2_cube_3 ra0 ?_
  refine J_lmul (pc := 4) C dX2_cube_4 ?_
  refine J_ldc2 (pc := 5) (z := 1000003) C mX2_cube_c47 (by decide) dX2_cube_5 ?_
  obtain ⟨o1, h2⟩ := h
  refine J_lrem (pc := 8) C dX2_cube_8 o1 (by decide) (by decide) ?_
  refine J_lstore_n (pc := 9) C dX2_cube_9 (by decide) ?_
  refine J_lload_n (pc := 10) C dX2_cube_10 rfl ?_
  refine J_iload_n (pc := 11) C dX2_cube_11 rfl ?_
  refine J_i2l (pc := 12) C dX2_cube_12 ra0 ?_
  refine J_lmul (pc := 13) C dX2_cube_13 ?_
  refine J_ldc2 (pc := 14) (z := 1000003) C mX2_cube_c47 (by decide) dX2_cube_14 ?_
  obtain ⟨o3, h4⟩ := h2
  refine J_lrem (pc := 17) C dX2_cube_17 o3 (by decide) (by decide) ?_
  obtain ⟨o5, h6⟩ := h4
  refine J_l2i (pc := 18) C dX2_cube_18 o5 ?_
  exact J_iret (pc := 19) C dX2_cube_19 o5 hok h6 (by decide) (by decide)
def rmX2_nextSeed : Room := { frames := 0, cells := 0, slots := 0, locals := 0 }
theorem mX2_nextSeed_c43 : Cond.constantLong RX2 43 (1103) ∈ wsX2_nextSeed := by decide +kernel
theorem mX2_nextSeed_c45 : Cond.constantLong RX2 45 (12345) ∈ wsX2_nextSeed := by decide +kernel
theorem mX2_nextSeed_c47 : Cond.constantLong RX2 47 (1000003) ∈ wsX2_nextSeed := by decide +kernel
def M_X2_nextSeed (a0 : Int) (S : St) (Qr : Int → St → Prop) (Qx : String → St → Prop) : Prop := r32 a0 → MM 1 wC okC yX2_nextSeed wsX2_nextSeed rmX2_nextSeed (fun G => [iV a0]) S Qr Qx
set_option maxRecDepth 100000 in
set_option maxHeartbeats 4000000 in
theorem vc_X2_nextSeed {a0 : Int} {S : St} {Qr : Int → St → Prop} {Qx : String → St → Prop} (h : r32 a0 → okC S → (r64 ((1103 * a0) + 12345) ∧ (r32 (Int.tmod ((1103 * a0) + 12345) 1000003) ∧ Qr (Int.tmod ((1103 * a0) + 12345) 1000003) S))) : M_X2_nextSeed a0 S Qr Qx := by
  intro ra0
  refine MM_of adC (by decide +kernel) rfl (Lf := fun G => [some (iV a0)]) (fun G => by show _ ≤ _; exact Nat.le_of_ble_eq_true rfl) (fun G => rfl) ?_
  intro p l e s m args below meth c G A C hok
  have h := h ra0 hok
  replace C : Cx wC cX2_nextSeed 1 RX2 wsX2_nextSeed (some .int) [] p l s m args meth c G A := C
  show J wC 1 rmX2_nextSeed p l e s m args below meth c G A (QQ 1 wC okC G Qr Qx A below args s rmX2_nextSeed.cells rmX2_nextSeed.slots) 0 0 S [some (iV a0)] [] 0
  refine J_ldc2 (pc := 0) (z := 1103) C mX2_nextSeed_c43 (by decide) dX2_nextSeed_0 ?_
  refine J_iload_n (pc := 3) C dX2_nextSeed_3 rfl ?_
  refine J_i2l (pc := 4) C dX2_nextSeed_4 ra0 ?_
  refine J_lmul (pc := 5) C dX2_nextSeed_5 ?_
  refine J_ldc2 (pc := 6) (z := 12345) C mX2_nextSeed_c45 (by decide) dX2_nextSeed_6 ?_
  refine J_ladd (pc := 9) C dX2_nextSeed_9 ?_
  refine J_ldc2 (pc := 10) (z := 1000003) C mX2_nextSeed_c47 (by decide) dX2_nextSeed_10 ?_
  obtain ⟨o1, h2⟩ := h
  refine J_lrem (pc := 13) C dX2_nextSeed_13 o1 (by decide) (by decide) ?_
  obtain ⟨o3, h4⟩ := h2
  refine J_l2i (pc := 14) C dX2_nextSeed_14 o3 ?_
  exact J_iret (pc := 15) C dX2_nextSeed_15 o3 hok h4 (by decide) (by decide)
def rmX2_drawPoints : Room := { frames := 1, cells := 0, slots := 0, locals := 22 }
theorem mX2_drawPoints_f21 : Cond.fieldLink RX2 21 "Stresswork$Layout" "width" "I" ∈ wsX2_drawPoints := by decide +kernel
theorem nX2_drawPoints_X2 : ∀ x ∈ wsX20, x ∈ wsX2_drawPoints := by decide +kernel
theorem mX2_drawPoints_f9 : Cond.fieldLink RX2 9 "Stresswork$Layout" "x" "[I" ∈ wsX2_drawPoints := by decide +kernel
theorem mX2_drawPoints_f15 : Cond.fieldLink RX2 15 "Stresswork$Layout" "y" "[I" ∈ wsX2_drawPoints := by decide +kernel
theorem mX2_drawPoints_f18 : Cond.fieldLink RX2 18 "Stresswork$Layout" "column" "[I" ∈ wsX2_drawPoints := by decide +kernel
def M_X2_drawPoints (a0 a1 : Int) (S : St) (Qr : Int → St → Prop) (Qx : String → St → Prop) : Prop := r32 a0 → r32 a1 → MM 0 wC okC yX2_drawPoints wsX2_drawPoints rmX2_drawPoints (fun G => [.ref (G.2.2 4), iV a0, iV a1]) S Qr Qx
def R_X2_drawPoints_5 (x1 x3 x4 : Int) (S : St) (Qr : Int → St → Prop) (Qx : String → St → Prop) : Prop := r32 x1 → r32 x3 → r32 x4 → RR 0 wC okC wsX2_drawPoints rmX2_drawPoints cX2_drawPoints 5 RX2 none [] 0 0 (fun G => [some (.ref (G.2.2 4)), some (iV x1), none, some (iV x3), some (iV x4)]) (fun G => []) 5 S Qr Qx
set_option maxRecDepth 100000 in
set_option maxHeartbeats 4000000 in
theorem vc_X2_drawPoints {a0 a1 : Int} {S : St} {Qr : Int → St → Prop} {Qx : String → St → Prop} (h : r32 a0 → r32 a1 → okC S → R_X2_drawPoints_5 a0 a1 0 S Qr Qx) : M_X2_drawPoints a0 a1 S Qr Qx := by
  intro ra0 ra1
  refine MM_of adC (by decide +kernel) rfl (Lf := fun G => [some (.ref (G.2.2 4)), some (iV a0), some (iV a1), none, none]) (fun G => by show _ ≤ _; exact Nat.le_of_ble_eq_true rfl) (fun G => rfl) ?_
  intro p l e s m args below meth c G A C hok
  have h := h ra0 ra1 hok
  replace C : Cx wC cX2_drawPoints 5 RX2 wsX2_drawPoints none [] p l s m args meth c G A := C
  show J wC 5 rmX2_drawPoints p l e s m args below meth c G A (QQ 0 wC okC G Qr Qx A below args s rmX2_drawPoints.cells rmX2_drawPoints.slots) 0 0 S [some (.ref (G.2.2 4)), some (iV a0), some (iV a1), none, none] [] 0
  refine J_iload_n (pc := 0) C dX2_drawPoints_0 rfl ?_
  refine J_istore_n (pc := 1) C dX2_drawPoints_1 (by decide) ?_
  refine J_iconst (pc := 2) C dX2_drawPoints_2 ?_
  refine J_istore (pc := 3) C dX2_drawPoints_3 (by decide) ?_
  exact J_sub (L1 := [some (.ref (G.2.2 4)), some (iV a0), none, some (iV a1), some (iV 0)]) ⟨rfl, ⟨rfl, ⟨rfl, ⟨rfl, trivial⟩⟩⟩⟩ (h ra0 ra1 (by decide) p l e s m args below meth c G A C hok)
set_option maxRecDepth 100000 in
set_option maxHeartbeats 4000000 in
theorem vc_X2_drawPoints_5 {x1 x3 x4 : Int} {S : St} {Qr : Int → St → Prop} {Qx : String → St → Prop} (h : r32 x1 → r32 x3 → r32 x4 → okC S → ((x1 ≤ x4 → (r32 (2 * x1) ∧ Qr 0 (up S 4 3 (2 * x1)))) ∧ (x4 < x1 → ((10 ≤ x4 → (r32 (2 * x1) ∧ Qr 0 (up S 4 3 (2 * x1)))) ∧ (x4 < 10 → M_X2_nextSeed x3 S (fun rv14 S12 => r32 rv14 → okC S12 → M_X2_cube rv14 S12 (fun rv19 S17 => r32 rv19 → okC S17 → (ix x4 10 ∧ M_X2_nextSeed rv14 (up S17 19 x4 rv19) (fun rv27 S25 => r32 rv27 → okC S25 → M_X2_cube rv27 S25 (fun rv32 S30 => r32 rv32 → okC S30 → (r32 (2 * x4) ∧ (r32 (x4 + 1) ∧ R_X2_drawPoints_5 x1 rv27 (x4 + 1) (up (up S30 20 x4 rv32) 21 x4 (2 * x4)) Qr Qx))) Qx) Qx)) Qx) Qx))))) : R_X2_drawPoints_5 x1 x3 x4 S Qr Qx := by
  intro rx1 rx3 rx4
  intro p l e s m args below meth c G A C hok
  have h := h rx1 rx3 rx4 hok
  replace C : Cx wC cX2_drawPoints 5 RX2 wsX2_drawPoints none [] p l s m args meth c G A := C
  show J wC 5 rmX2_drawPoints p l e s m args below meth c G A (QQ 0 wC okC G Qr Qx A below args s rmX2_drawPoints.cells rmX2_drawPoints.slots) 0 0 S [some (.ref (G.2.2 4)), some (iV x1), none, some (iV x3), some (iV x4)] [] 5
  refine J_iload (pc := 5) C dX2_drawPoints_5 rfl ?_
  refine J_iload_n (pc := 7) C dX2_drawPoints_7 rfl ?_
  obtain ⟨h1, h2⟩ := h
  refine J_icmp_ge (pc := 8) (tgt := 67) C dX2_drawPoints_8 (by decide) rx4 rx1 (fun cb => ?_) (fun cb => ?_)
  · have h1 := h1 cb
    refine J_aload_n (pc := 67) C dX2_drawPoints_67 rfl ?_
    refine J_iconst (pc := 68) C dX2_drawPoints_68 ?_
    refine J_iload_n (pc := 69) C dX2_drawPoints_69 rfl ?_
    refine J_imul (pc := 70) C dX2_drawPoints_70 ?_
    obtain ⟨o3, h4⟩ := h1
    refine J_put (pc := 71) C dX2_drawPoints_71 4 rfl rfl nX2_drawPoints_X2 tyX2 tyX2_ok nmX2 3 (by decide) mX2_drawPoints_f21 rfl rfl (v := iV (2 * x1)) rfl rfl (Nat.le_of_ble_eq_true rfl) (sC_4_3 G S (2 * x1)) ?_
    have hok5 := okC_up (k := 4) (j := 3) hok (show rngC 4 (2 * x1) from o3)
    exact J_vret (pc := 74) C dX2_drawPoints_74 hok5 h4 (by decide) (by decide)
  · have h2 := h2 cb
    refine J_iload (pc := 11) C dX2_drawPoints_11 rfl ?_
    refine J_bipush (pc := 13) C dX2_drawPoints_13 (by decide) ?_
    obtain ⟨h6, h7⟩ := h2
    refine J_icmp_ge (pc := 15) (tgt := 67) C dX2_drawPoints_15 (by decide) rx4 (by decide) (fun cb => ?_) (fun cb => ?_)
    · have h6 := h6 cb
      refine J_aload_n (pc := 67) C dX2_drawPoints_67 rfl ?_
      refine J_iconst (pc := 68) C dX2_drawPoints_68 ?_
      refine J_iload_n (pc := 69) C dX2_drawPoints_69 rfl ?_
      refine J_imul (pc := 70) C dX2_drawPoints_70 ?_
      obtain ⟨o8, h9⟩ := h6
      refine J_put (pc := 71) C dX2_drawPoints_71 4 rfl rfl nX2_drawPoints_X2 tyX2 tyX2_ok nmX2 3 (by decide) mX2_drawPoints_f21 rfl rfl (v := iV (2 * x1)) rfl rfl (Nat.le_of_ble_eq_true rfl) (sC_4_3 G S (2 * x1)) ?_
      have hok10 := okC_up (k := 4) (j := 3) hok (show rngC 4 (2 * x1) from o8)
      exact J_vret (pc := 74) C dX2_drawPoints_74 hok10 h9 (by decide) (by decide)
    · have h7 := h7 cb
      refine J_iload_n (pc := 18) C dX2_drawPoints_18 rfl ?_
      refine J_c1 (pc := 19) C (J_rS (pc := 19) C (h7 rx3) dX2_drawPoints_19 rfl rfl (va_cwS 1 C.1.2.2.2.2 gX2_drawPoints_X2_nextSeed rfl rfl rfl (by decide +kernel) ⟨Nat.le_of_ble_eq_true rfl, Nat.le_of_ble_eq_true rfl⟩) hok (Nat.le_of_ble_eq_true rfl) ⟨Nat.le_of_ble_eq_true rfl, Nat.le_of_ble_eq_true rfl⟩) (fun E9 S9 ok9 q9 => JX_out C ok9 q9 (by decide) (by decide)) (fun rv14 S12 hr15 hok13 h11 => ?_)
      have h11 := h11 hr15 hok13
      refine J_istore_n (pc := 22) C dX2_drawPoints_22 (by decide) ?_
      refine J_aload_n (pc := 23) C dX2_drawPoints_23 rfl ?_
      refine J_get (pc := 24) C dX2_drawPoints_24 4 rfl rfl nX2_drawPoints_X2 0 (by decide) mX2_drawPoints_f9 rfl (v := .ref (G.2.2 19)) rfl ?_
      refine J_iload (pc := 27) C dX2_drawPoints_27 rfl ?_
      refine J_iload_n (pc := 29) C dX2_drawPoints_29 rfl ?_
      refine J_c1 (pc := 30) C (J_rS (pc := 30) C (h11 hr15) dX2_drawPoints_30 rfl rfl (va_cwS 1 C.1.2.2.2.2 gX2_drawPoints_X2_cube rfl rfl rfl (by decide +kernel) ⟨Nat.le_of_ble_eq_true rfl, Nat.le_of_ble_eq_true rfl⟩) hok13 (Nat.le_of_ble_eq_true rfl) ⟨Nat.le_of_ble_eq_true rfl, Nat.le_of_ble_eq_true rfl⟩) (fun E9 S9 ok9 q9 => JX_out C ok9 q9 (by decide) (by decide)) (fun rv19 S17 hr20 hok18 h16 => ?_)
      have h16 := h16 hr20 hok18
      obtain ⟨o21, h22⟩ := h16
      refine J_iast (pc := 33) C dX2_drawPoints_33 19 19 rfl (by decide) o21 (sC_19 G S17 x4 rv19) ?_
      have hok23 := okC_up (k := 19) (j := x4) hok18 (show rngC 19 rv19 from hr20)
      refine J_iload_n (pc := 34) C dX2_drawPoints_34 rfl ?_
      refine J_c1 (pc := 35) C (J_rS (pc := 35) C (h22 hr15) dX2_drawPoints_35 rfl rfl (va_cwS 1 C.1.2.2.2.2 gX2_drawPoints_X2_nextSeed rfl rfl rfl (by decide +kernel) ⟨Nat.le_of_ble_eq_true rfl, Nat.le_of_ble_eq_true rfl⟩) hok23 (Nat.le_of_ble_eq_true rfl) ⟨Nat.le_of_ble_eq_true rfl, Nat.le_of_ble_eq_true rfl⟩) (fun E9 S9 ok9 q9 => JX_out C ok9 q9 (by decide) (by decide)) (fun rv27 S25 hr28 hok26 h24 => ?_)
      have h24 := h24 hr28 hok26
      refine J_istore_n (pc := 38) C dX2_drawPoints_38 (by decide) ?_
      refine J_aload_n (pc := 39) C dX2_drawPoints_39 rfl ?_
      refine J_get (pc := 40) C dX2_drawPoints_40 4 rfl rfl nX2_drawPoints_X2 1 (by decide) mX2_drawPoints_f15 rfl (v := .ref (G.2.2 20)) rfl ?_
      refine J_iload (pc := 43) C dX2_drawPoints_43 rfl ?_
      refine J_iload_n (pc := 45) C dX2_drawPoints_45 rfl ?_
      refine J_c1 (pc := 46) C (J_rS (pc := 46) C (h24 hr28) dX2_drawPoints_46 rfl rfl (va_cwS 1 C.1.2.2.2.2 gX2_drawPoints_X2_cube rfl rfl rfl (by decide +kernel) ⟨Nat.le_of_ble_eq_true rfl, Nat.le_of_ble_eq_true rfl⟩) hok26 (Nat.le_of_ble_eq_true rfl) ⟨Nat.le_of_ble_eq_true rfl, Nat.le_of_ble_eq_true rfl⟩) (fun E9 S9 ok9 q9 => JX_out C ok9 q9 (by decide) (by decide)) (fun rv32 S30 hr33 hok31 h29 => ?_)
      have h29 := h29 hr33 hok31
      refine J_iast (pc := 49) C dX2_drawPoints_49 20 20 rfl (by decide) o21 (sC_20 G S30 x4 rv32) ?_
      have hok34 := okC_up (k := 20) (j := x4) hok31 (show rngC 20 rv32 from hr33)
      refine J_aload_n (pc := 50) C dX2_drawPoints_50 rfl ?_
      refine J_get (pc := 51) C dX2_drawPoints_51 4 rfl rfl nX2_drawPoints_X2 2 (by decide) mX2_drawPoints_f18 rfl (v := .ref (G.2.2 21)) rfl ?_
      refine J_iload (pc := 54) C dX2_drawPoints_54 rfl ?_
      refine J_iconst (pc := 56) C dX2_drawPoints_56 ?_
      refine J_iload (pc := 57) C dX2_drawPoints_57 rfl ?_
      refine J_imul (pc := 59) C dX2_drawPoints_59 ?_
      obtain ⟨o35, h36⟩ := h29
      refine J_iast (pc := 60) C dX2_drawPoints_60 21 21 rfl (by decide) o21 (sC_21 G (up S30 20 x4 rv32) x4 (2 * x4)) ?_
      have hok37 := okC_up (k := 21) (j := x4) hok34 (show rngC 21 (2 * x4) from o35)
      refine J_iinc (pc := 61) C dX2_drawPoints_61 rfl (by decide) ?_
      refine J_goto (pc := 64) (tgt := 5) C dX2_drawPoints_64 (by decide) ?_
      obtain ⟨o38, h39⟩ := h36
      exact J_sub (L1 := [some (.ref (G.2.2 4)), some (iV x1), none, some (iV rv27), some (iV (x4 + 1))]) ⟨rfl, ⟨rfl, ⟨rfl, ⟨rfl, trivial⟩⟩⟩⟩ (h39 rx1 hr28 o38 p l e s m args below meth c G A C hok37)
def rmX2_takeJoints : Room := { frames := 0, cells := 0, slots := 0, locals := 0 }
theorem mX2_takeJoints_f21 : Cond.fieldLink RX2 21 "Stresswork$Layout" "width" "I" ∈ wsX2_takeJoints := by decide +kernel
theorem nX2_takeJoints_X2 : ∀ x ∈ wsX20, x ∈ wsX2_takeJoints := by decide +kernel
theorem mX2_takeJoints_f25 : Cond.fieldLink RX2 25 "Stresswork$Joints" "count" "I" ∈ wsX2_takeJoints := by decide +kernel
theorem nX2_takeJoints_X1 : ∀ x ∈ wsX10, x ∈ wsX2_takeJoints := by decide +kernel
theorem mX2_takeJoints_f9 : Cond.fieldLink RX2 9 "Stresswork$Layout" "x" "[I" ∈ wsX2_takeJoints := by decide +kernel
theorem mX2_takeJoints_f30 : Cond.fieldLink RX2 30 "Stresswork$Joints" "x" "[I" ∈ wsX2_takeJoints := by decide +kernel
theorem mX2_takeJoints_f15 : Cond.fieldLink RX2 15 "Stresswork$Layout" "y" "[I" ∈ wsX2_takeJoints := by decide +kernel
theorem mX2_takeJoints_f31 : Cond.fieldLink RX2 31 "Stresswork$Joints" "y" "[I" ∈ wsX2_takeJoints := by decide +kernel
theorem mX2_takeJoints_f32 : Cond.fieldLink RX2 32 "Stresswork$Joints" "pinned" "[Z" ∈ wsX2_takeJoints := by decide +kernel
theorem mX2_takeJoints_f18 : Cond.fieldLink RX2 18 "Stresswork$Layout" "column" "[I" ∈ wsX2_takeJoints := by decide +kernel
def M_X2_takeJoints (S : St) (Qr : Int → St → Prop) (Qx : String → St → Prop) : Prop := MM 0 wC okC yX2_takeJoints wsX2_takeJoints rmX2_takeJoints (fun G => [.ref (G.2.2 4), .ref (G.2.2 1)]) S Qr Qx
def R_X2_takeJoints_7 (x2 : Int) (S : St) (Qr : Int → St → Prop) (Qx : String → St → Prop) : Prop := r32 x2 → RR 0 wC okC wsX2_takeJoints rmX2_takeJoints cX2_takeJoints 3 RX2 none [] 0 0 (fun G => [some (.ref (G.2.2 4)), some (.ref (G.2.2 1)), some (iV x2)]) (fun G => []) 7 S Qr Qx
set_option maxRecDepth 100000 in
set_option maxHeartbeats 4000000 in
theorem vc_X2_takeJoints {S : St} {Qr : Int → St → Prop} {Qx : String → St → Prop} (h : okC S → R_X2_takeJoints_7 0 (up S 4 3 0) Qr Qx) : M_X2_takeJoints S Qr Qx := by
  refine MM_of adC (by decide +kernel) rfl (Lf := fun G => [some (.ref (G.2.2 4)), some (.ref (G.2.2 1)), none]) (fun G => by show _ ≤ _; exact Nat.le_of_ble_eq_true rfl) (fun G => rfl) ?_
  intro p l e s m args below meth c G A C hok
  have h := h hok
  replace C : Cx wC cX2_takeJoints 3 RX2 wsX2_takeJoints none [] p l s m args meth c G A := C
  show J wC 3 rmX2_takeJoints p l e s m args below meth c G A (QQ 0 wC okC G Qr Qx A below args s rmX2_takeJoints.cells rmX2_takeJoints.slots) 0 0 S [some (.ref (G.2.2 4)), some (.ref (G.2.2 1)), none] [] 0
  refine J_aload_n (pc := 0) C dX2_takeJoints_0 rfl ?_
  refine J_iconst (pc := 1) C dX2_takeJoints_1 ?_
  refine J_put (pc := 2) C dX2_takeJoints_2 4 rfl rfl nX2_takeJoints_X2 tyX2 tyX2_ok nmX2 3 (by decide) mX2_takeJoints_f21 rfl rfl (v := iV 0) rfl rfl (Nat.le_of_ble_eq_true rfl) (sC_4_3 G S 0) ?_
  have hok1 := okC_up (k := 4) (j := 3) hok (show rngC 4 0 from (by decide : r32 0))
  refine J_iconst (pc := 5) C dX2_takeJoints_5 ?_
  refine J_istore_n (pc := 6) C dX2_takeJoints_6 (by decide) ?_
  exact J_sub (L1 := [some (.ref (G.2.2 4)), some (.ref (G.2.2 1)), some (iV 0)]) ⟨rfl, ⟨rfl, ⟨rfl, trivial⟩⟩⟩ (h (by decide) p l e s m args below meth c G A C hok1)
set_option maxRecDepth 100000 in
set_option maxHeartbeats 4000000 in
theorem vc_X2_takeJoints_7 {x2 : Int} {S : St} {Qr : Int → St → Prop} {Qx : String → St → Prop} (h : r32 x2 → okC S → (((S 1 4) ≤ x2 → Qr 0 S) ∧ (x2 < (S 1 4) → (ix x2 10 ∧ (((S 9 x2) = 0 → (r32 ((S 4 3) + 2) ∧ (r32 (x2 + 1) ∧ R_X2_takeJoints_7 (x2 + 1) (up (up (up (up S 19 x2 (S 7 x2)) 20 x2 (S 8 x2)) 21 x2 (S 4 3)) 4 3 ((S 4 3) + 2)) Qr Qx))) ∧ ((S 9 x2) ≠ 0 → (r32 (x2 + 1) ∧ R_X2_takeJoints_7 (x2 + 1) (up (up (up S 19 x2 (S 7 x2)) 20 x2 (S 8 x2)) 21 x2 (-1)) Qr Qx))))))) : R_X2_takeJoints_7 x2 S Qr Qx := by
  intro rx2
  intro p l e s m args below meth c G A C hok
  have h := h rx2 hok
  replace C : Cx wC cX2_takeJoints 3 RX2 wsX2_takeJoints none [] p l s m args meth c G A := C
  show J wC 3 rmX2_takeJoints p l e s m args below meth c G A (QQ 0 wC okC G Qr Qx A below args s rmX2_takeJoints.cells rmX2_takeJoints.slots) 0 0 S [some (.ref (G.2.2 4)), some (.ref (G.2.2 1)), some (iV x2)] [] 7
  refine J_iload_n (pc := 7) C dX2_takeJoints_7 rfl ?_
  refine J_aload_n (pc := 8) C dX2_takeJoints_8 rfl ?_
  refine J_get (pc := 9) C dX2_takeJoints_9 1 rfl rfl nX2_takeJoints_X1 4 (by decide) mX2_takeJoints_f25 rfl (v := iV (S 1 4)) rfl ?_
  obtain ⟨h1, h2⟩ := h
  refine J_icmp_ge (pc := 12) (tgt := 84) C dX2_takeJoints_12 (by decide) rx2 (hok 1 4) (fun cb => ?_) (fun cb => ?_)
  · have h1 := h1 cb
    exact J_vret (pc := 84) C dX2_takeJoints_84 hok h1 (by decide) (by decide)
  · have h2 := h2 cb
    refine J_aload_n (pc := 15) C dX2_takeJoints_15 rfl ?_
    refine J_get (pc := 16) C dX2_takeJoints_16 4 rfl rfl nX2_takeJoints_X2 0 (by decide) mX2_takeJoints_f9 rfl (v := .ref (G.2.2 19)) rfl ?_
    refine J_iload_n (pc := 19) C dX2_takeJoints_19 rfl ?_
    refine J_aload_n (pc := 20) C dX2_takeJoints_20 rfl ?_
    refine J_get (pc := 21) C dX2_takeJoints_21 1 rfl rfl nX2_takeJoints_X1 0 (by decide) mX2_takeJoints_f30 rfl (v := .ref (G.2.2 7)) rfl ?_
    refine J_iload_n (pc := 24) C dX2_takeJoints_24 rfl ?_
    obtain ⟨o3, h4⟩ := h2
    refine J_iald (pc := 25) C dX2_takeJoints_25 7 7 rfl (by decide) o3 ?_
    refine J_iast (pc := 26) C dX2_takeJoints_26 19 19 rfl (by decide) o3 (sC_19 G S x2 (S 7 x2)) ?_
    have hok5 := okC_up (k := 19) (j := x2) hok (show rngC 19 (S 7 x2) from (hok 7 x2))
    refine J_aload_n (pc := 27) C dX2_takeJoints_27 rfl ?_
    refine J_get (pc := 28) C dX2_takeJoints_28 4 rfl rfl nX2_takeJoints_X2 1 (by decide) mX2_takeJoints_f15 rfl (v := .ref (G.2.2 20)) rfl ?_
    refine J_iload_n (pc := 31) C dX2_takeJoints_31 rfl ?_
    refine J_aload_n (pc := 32) C dX2_takeJoints_32 rfl ?_
    refine J_get (pc := 33) C dX2_takeJoints_33 1 rfl rfl nX2_takeJoints_X1 1 (by decide) mX2_takeJoints_f31 rfl (v := .ref (G.2.2 8)) rfl ?_
    refine J_iload_n (pc := 36) C dX2_takeJoints_36 rfl ?_
    refine J_iald (pc := 37) C dX2_takeJoints_37 8 8 rfl (by decide) o3 ?_
    refine J_iast (pc := 38) C dX2_takeJoints_38 20 20 rfl (by decide) o3 (sC_20 G (up S 19 x2 (S 7 x2)) x2 (S 8 x2)) ?_
    have hok6 := okC_up (k := 20) (j := x2) hok5 (show rngC 20 (S 8 x2) from (hok 8 x2))
    refine J_aload_n (pc := 39) C dX2_takeJoints_39 rfl ?_
    refine J_get (pc := 40) C dX2_takeJoints_40 1 rfl rfl nX2_takeJoints_X1 2 (by decide) mX2_takeJoints_f32 rfl (v := .ref (G.2.2 9)) rfl ?_
    refine J_iload_n (pc := 43) C dX2_takeJoints_43 rfl ?_
    refine J_zald (pc := 44) C dX2_takeJoints_44 9 9 rfl (by decide) o3 ?_
    obtain ⟨h7, h8⟩ := h4
    refine J_if_eq (pc := 45) (tgt := 58) C dX2_takeJoints_45 (by decide) (r01 (hok 9 x2)) (fun cb => ?_) (fun cb => ?_)
    · have h7 := h7 cb
      refine J_aload_n (pc := 58) C dX2_takeJoints_58 rfl ?_
      refine J_get (pc := 59) C dX2_takeJoints_59 4 rfl rfl nX2_takeJoints_X2 2 (by decide) mX2_takeJoints_f18 rfl (v := .ref (G.2.2 21)) rfl ?_
      refine J_iload_n (pc := 62) C dX2_takeJoints_62 rfl ?_
      refine J_aload_n (pc := 63) C dX2_takeJoints_63 rfl ?_
      refine J_get (pc := 64) C dX2_takeJoints_64 4 rfl rfl nX2_takeJoints_X2 3 (by decide) mX2_takeJoints_f21 rfl (v := iV (S 4 3)) rfl ?_
      refine J_iast (pc := 67) C dX2_takeJoints_67 21 21 rfl (by decide) o3 (sC_21 G (up (up S 19 x2 (S 7 x2)) 20 x2 (S 8 x2)) x2 (S 4 3)) ?_
      have hok9 := okC_up (k := 21) (j := x2) hok6 (show rngC 21 (S 4 3) from (hok 4 3))
      refine J_aload_n (pc := 68) C dX2_takeJoints_68 rfl ?_
      refine J_dup (pc := 69) C dX2_takeJoints_69 rfl ?_
      refine J_get (pc := 70) C dX2_takeJoints_70 4 rfl rfl nX2_takeJoints_X2 3 (by decide) mX2_takeJoints_f21 rfl (v := iV (S 4 3)) rfl ?_
      refine J_iconst (pc := 73) C dX2_takeJoints_73 ?_
      refine J_iadd (pc := 74) C dX2_takeJoints_74 ?_
      obtain ⟨o10, h11⟩ := h7
      refine J_put (pc := 75) C dX2_takeJoints_75 4 rfl rfl nX2_takeJoints_X2 tyX2 tyX2_ok nmX2 3 (by decide) mX2_takeJoints_f21 rfl rfl (v := iV ((S 4 3) + 2)) rfl rfl (Nat.le_of_ble_eq_true rfl) (sC_4_3 G (up (up (up S 19 x2 (S 7 x2)) 20 x2 (S 8 x2)) 21 x2 (S 4 3)) ((S 4 3) + 2)) ?_
      have hok12 := okC_up (k := 4) (j := 3) hok9 (show rngC 4 ((S 4 3) + 2) from o10)
      refine J_iinc (pc := 78) C dX2_takeJoints_78 rfl (by decide) ?_
      refine J_goto (pc := 81) (tgt := 7) C dX2_takeJoints_81 (by decide) ?_
      obtain ⟨o13, h14⟩ := h11
      exact J_sub (L1 := [some (.ref (G.2.2 4)), some (.ref (G.2.2 1)), some (iV (x2 + 1))]) ⟨rfl, ⟨rfl, ⟨rfl, trivial⟩⟩⟩ (h14 o13 p l e s m args below meth c G A C hok12)
    · have h8 := h8 cb
      refine J_aload_n (pc := 48) C dX2_takeJoints_48 rfl ?_
      refine J_get (pc := 49) C dX2_takeJoints_49 4 rfl rfl nX2_takeJoints_X2 2 (by decide) mX2_takeJoints_f18 rfl (v := .ref (G.2.2 21)) rfl ?_
      refine J_iload_n (pc := 52) C dX2_takeJoints_52 rfl ?_
      refine J_iconst (pc := 53) C dX2_takeJoints_53 ?_
      refine J_iast (pc := 54) C dX2_takeJoints_54 21 21 rfl (by decide) o3 (sC_21 G (up (up S 19 x2 (S 7 x2)) 20 x2 (S 8 x2)) x2 (-1)) ?_
      have hok15 := okC_up (k := 21) (j := x2) hok6 (show rngC 21 (-1) from (by decide : r32 (-1)))
      refine J_goto (pc := 55) (tgt := 78) C dX2_takeJoints_55 (by decide) ?_
      refine J_iinc (pc := 78) C dX2_takeJoints_78 rfl (by decide) ?_
      refine J_goto (pc := 81) (tgt := 7) C dX2_takeJoints_81 (by decide) ?_
      obtain ⟨o16, h17⟩ := h8
      exact J_sub (L1 := [some (.ref (G.2.2 4)), some (.ref (G.2.2 1)), some (iV (x2 + 1))]) ⟨rfl, ⟨rfl, ⟨rfl, trivial⟩⟩⟩ (h17 o16 p l e s m args below meth c G A C hok15)
def rmX3_add : Room := { frames := 0, cells := 0, slots := 0, locals := 0 }
theorem mX3_add_f28 : Cond.fieldLink RX3 28 "Stresswork$Members" "count" "I" ∈ wsX3_add := by decide +kernel
theorem nX3_add_X3 : ∀ x ∈ wsX30, x ∈ wsX3_add := by decide +kernel
theorem mX3_add_f9 : Cond.fieldLink RX3 9 "Stresswork$Members" "from" "[I" ∈ wsX3_add := by decide +kernel
theorem mX3_add_f15 : Cond.fieldLink RX3 15 "Stresswork$Members" "to" "[I" ∈ wsX3_add := by decide +kernel
theorem mX3_add_f18 : Cond.fieldLink RX3 18 "Stresswork$Members" "kinds" "[I" ∈ wsX3_add := by decide +kernel
def M_X3_add (a0 a1 a2 : Int) (S : St) (Qr : Int → St → Prop) (Qx : String → St → Prop) : Prop := r32 a0 → r32 a1 → r32 a2 → MM 1 wC okC yX3_add wsX3_add rmX3_add (fun G => [.ref (G.2.2 2), iV a0, iV a1, iV a2]) S Qr Qx
set_option maxRecDepth 100000 in
set_option maxHeartbeats 4000000 in
theorem vc_X3_add {a0 a1 a2 : Int} {S : St} {Qr : Int → St → Prop} {Qx : String → St → Prop} (h : r32 a0 → r32 a1 → r32 a2 → okC S → (((S 2 5) < 40 → (ix (S 2 5) 40 ∧ (r32 ((S 2 5) + 1) ∧ (r32 (((S 2 5) + 1) - 1) ∧ Qr (((S 2 5) + 1) - 1) (up (up (up (up S 11 (S 2 5) a0) 12 (S 2 5) a1) 13 (S 2 5) a2) 2 5 ((S 2 5) + 1)))))) ∧ (40 ≤ (S 2 5) → Qr (-1) S))) : M_X3_add a0 a1 a2 S Qr Qx := by
  intro ra0 ra1 ra2
  refine MM_of adC (by decide +kernel) rfl (Lf := fun G => [some (.ref (G.2.2 2)), some (iV a0), some (iV a1), some (iV a2)]) (fun G => by show _ ≤ _; exact Nat.le_of_ble_eq_true rfl) (fun G => rfl) ?_
  intro p l e s m args below meth c G A C hok
  have h := h ra0 ra1 ra2 hok
  replace C : Cx wC cX3_add 4 RX3 wsX3_add (some .int) [] p l s m args meth c G A := C
  show J wC 4 rmX3_add p l e s m args below meth c G A (QQ 1 wC okC G Qr Qx A below args s rmX3_add.cells rmX3_add.slots) 0 0 S [some (.ref (G.2.2 2)), some (iV a0), some (iV a1), some (iV a2)] [] 0
  refine J_aload_n (pc := 0) C dX3_add_0 rfl ?_
  refine J_get (pc := 1) C dX3_add_1 2 rfl rfl nX3_add_X3 5 (by decide) mX3_add_f28 rfl (v := iV (S 2 5)) rfl ?_
  refine J_bipush (pc := 4) C dX3_add_4 (by decide) ?_
  obtain ⟨h1, h2⟩ := h
  refine J_icmp_lt (pc := 6) (tgt := 11) C dX3_add_6 (by decide) (hok 2 5) (by decide) (fun cb => ?_) (fun cb => ?_)
  · have h1 := h1 cb
    refine J_aload_n (pc := 11) C dX3_add_11 rfl ?_
    refine J_get (pc := 12) C dX3_add_12 2 rfl rfl nX3_add_X3 0 (by decide) mX3_add_f9 rfl (v := .ref (G.2.2 11)) rfl ?_
    refine J_aload_n (pc := 15) C dX3_add_15 rfl ?_
    refine J_get (pc := 16) C dX3_add_16 2 rfl rfl nX3_add_X3 5 (by decide) mX3_add_f28 rfl (v := iV (S 2 5)) rfl ?_
    refine J_iload_n (pc := 19) C dX3_add_19 rfl ?_
    obtain ⟨o3, h4⟩ := h1
    refine J_iast (pc := 20) C dX3_add_20 11 11 rfl (by decide) o3 (sC_11 G S (S 2 5) a0) ?_
    have hok5 := okC_up (k := 11) (j := (S 2 5)) hok (show rngC 11 a0 from ra0)
    refine J_aload_n (pc := 21) C dX3_add_21 rfl ?_
    refine J_get (pc := 22) C dX3_add_22 2 rfl rfl nX3_add_X3 1 (by decide) mX3_add_f15 rfl (v := .ref (G.2.2 12)) rfl ?_
    refine J_aload_n (pc := 25) C dX3_add_25 rfl ?_
    refine J_get (pc := 26) C dX3_add_26 2 rfl rfl nX3_add_X3 5 (by decide) mX3_add_f28 rfl (v := iV (S 2 5)) rfl ?_
    refine J_iload_n (pc := 29) C dX3_add_29 rfl ?_
    refine J_iast (pc := 30) C dX3_add_30 12 12 rfl (by decide) o3 (sC_12 G (up S 11 (S 2 5) a0) (S 2 5) a1) ?_
    have hok6 := okC_up (k := 12) (j := (S 2 5)) hok5 (show rngC 12 a1 from ra1)
    refine J_aload_n (pc := 31) C dX3_add_31 rfl ?_
    refine J_get (pc := 32) C dX3_add_32 2 rfl rfl nX3_add_X3 2 (by decide) mX3_add_f18 rfl (v := .ref (G.2.2 13)) rfl ?_
    refine J_aload_n (pc := 35) C dX3_add_35 rfl ?_
    refine J_get (pc := 36) C dX3_add_36 2 rfl rfl nX3_add_X3 5 (by decide) mX3_add_f28 rfl (v := iV (S 2 5)) rfl ?_
    refine J_iload_n (pc := 39) C dX3_add_39 rfl ?_
    refine J_iast (pc := 40) C dX3_add_40 13 13 rfl (by decide) o3 (sC_13 G (up (up S 11 (S 2 5) a0) 12 (S 2 5) a1) (S 2 5) a2) ?_
    have hok7 := okC_up (k := 13) (j := (S 2 5)) hok6 (show rngC 13 a2 from ra2)
    refine J_aload_n (pc := 41) C dX3_add_41 rfl ?_
    refine J_dup (pc := 42) C dX3_add_42 rfl ?_
    refine J_get (pc := 43) C dX3_add_43 2 rfl rfl nX3_add_X3 5 (by decide) mX3_add_f28 rfl (v := iV (S 2 5)) rfl ?_
    refine J_iconst (pc := 46) C dX3_add_46 ?_
    refine J_iadd (pc := 47) C dX3_add_47 ?_
    obtain ⟨o8, h9⟩ := h4
    refine J_put (pc := 48) C dX3_add_48 2 rfl rfl nX3_add_X3 tyX3 tyX3_ok nmX3 5 (by decide) mX3_add_f28 rfl rfl (v := iV ((S 2 5) + 1)) rfl rfl (Nat.le_of_ble_eq_true rfl) (sC_2_5 G (up (up (up S 11 (S 2 5) a0) 12 (S 2 5) a1) 13 (S 2 5) a2) ((S 2 5) + 1)) ?_
    have hok10 := okC_up (k := 2) (j := 5) hok7 (show rngC 2 ((S 2 5) + 1) from o8)
    refine J_aload_n (pc := 51) C dX3_add_51 rfl ?_
    refine J_get (pc := 52) C dX3_add_52 2 rfl rfl nX3_add_X3 5 (by decide) mX3_add_f28 rfl (v := iV ((S 2 5) + 1)) rfl ?_
    refine J_iconst (pc := 55) C dX3_add_55 ?_
    refine J_isub (pc := 56) C dX3_add_56 ?_
    obtain ⟨o11, h12⟩ := h9
    exact J_iret (pc := 57) C dX3_add_57 o11 hok10 h12 (by decide) (by decide)
  · have h2 := h2 cb
    refine J_iconst (pc := 9) C dX3_add_9 ?_
    exact J_iret (pc := 10) C dX3_add_10 (by decide) hok h2 (by decide) (by decide)
def rmX3_has : Room := { frames := 0, cells := 0, slots := 0, locals := 0 }
theorem mX3_has_f28 : Cond.fieldLink RX3 28 "Stresswork$Members" "count" "I" ∈ wsX3_has := by decide +kernel
theorem nX3_has_X3 : ∀ x ∈ wsX30, x ∈ wsX3_has := by decide +kernel
theorem mX3_has_f24 : Cond.fieldLink RX3 24 "Stresswork$Members" "gone" "[Z" ∈ wsX3_has := by decide +kernel
def M_X3_has (a0 : Int) (S : St) (Qr : Int → St → Prop) (Qx : String → St → Prop) : Prop := r32 a0 → MM 1 wC okC yX3_has wsX3_has rmX3_has (fun G => [.ref (G.2.2 2), iV a0]) S Qr Qx
set_option maxRecDepth 100000 in
set_option maxHeartbeats 4000000 in
theorem vc_X3_has {a0 : Int} {S : St} {Qr : Int → St → Prop} {Qx : String → St → Prop} (h : r32 a0 → okC S → ((a0 < 0 → Qr 0 S) ∧ (0 ≤ a0 → (((S 2 5) ≤ a0 → Qr 0 S) ∧ (a0 < (S 2 5) → (ix a0 40 ∧ (((S 15 a0) ≠ 0 → Qr 0 S) ∧ ((S 15 a0) = 0 → Qr 1 S)))))))) : M_X3_has a0 S Qr Qx := by
  intro ra0
  refine MM_of adC (by decide +kernel) rfl (Lf := fun G => [some (.ref (G.2.2 2)), some (iV a0)]) (fun G => by show _ ≤ _; exact Nat.le_of_ble_eq_true rfl) (fun G => rfl) ?_
  intro p l e s m args below meth c G A C hok
  have h := h ra0 hok
  replace C : Cx wC cX3_has 2 RX3 wsX3_has (some .boolean) [] p l s m args meth c G A := C
  show J wC 2 rmX3_has p l e s m args below meth c G A (QQ 1 wC okC G Qr Qx A below args s rmX3_has.cells rmX3_has.slots) 0 0 S [some (.ref (G.2.2 2)), some (iV a0)] [] 0
  refine J_iload_n (pc := 0) C dX3_has_0 rfl ?_
  obtain ⟨h1, h2⟩ := h
  refine J_if_lt (pc := 1) (tgt := 25) C dX3_has_1 (by decide) ra0 (fun cb => ?_) (fun cb => ?_)
  · have h1 := h1 cb
    refine J_iconst (pc := 25) C dX3_has_25 ?_
    exact J_zret (pc := 26) C dX3_has_26 (by decide) hok h1 (by decide) (by decide)
  · have h2 := h2 cb
    refine J_iload_n (pc := 4) C dX3_has_4 rfl ?_
    refine J_aload_n (pc := 5) C dX3_has_5 rfl ?_
    refine J_get (pc := 6) C dX3_has_6 2 rfl rfl nX3_has_X3 5 (by decide) mX3_has_f28 rfl (v := iV (S 2 5)) rfl ?_
    obtain ⟨h3, h4⟩ := h2
    refine J_icmp_ge (pc := 9) (tgt := 25) C dX3_has_9 (by decide) ra0 (hok 2 5) (fun cb => ?_) (fun cb => ?_)
    · have h3 := h3 cb
      refine J_iconst (pc := 25) C dX3_has_25 ?_
      exact J_zret (pc := 26) C dX3_has_26 (by decide) hok h3 (by decide) (by decide)
    · have h4 := h4 cb
      refine J_aload_n (pc := 12) C dX3_has_12 rfl ?_
      refine J_get (pc := 13) C dX3_has_13 2 rfl rfl nX3_has_X3 4 (by decide) mX3_has_f24 rfl (v := .ref (G.2.2 15)) rfl ?_
      refine J_iload_n (pc := 16) C dX3_has_16 rfl ?_
      obtain ⟨o5, h6⟩ := h4
      refine J_zald (pc := 17) C dX3_has_17 15 15 rfl (by decide) o5 ?_
      obtain ⟨h7, h8⟩ := h6
      refine J_if_ne (pc := 18) (tgt := 25) C dX3_has_18 (by decide) (r01 (hok 15 a0)) (fun cb => ?_) (fun cb => ?_)
      · have h7 := h7 cb
        refine J_iconst (pc := 25) C dX3_has_25 ?_
        exact J_zret (pc := 26) C dX3_has_26 (by decide) hok h7 (by decide) (by decide)
      · have h8 := h8 cb
        refine J_iconst (pc := 21) C dX3_has_21 ?_
        refine J_goto (pc := 22) (tgt := 26) C dX3_has_22 (by decide) ?_
        exact J_zret (pc := 26) C dX3_has_26 (by decide) hok h8 (by decide) (by decide)
def rmX3_endsAt : Room := { frames := 0, cells := 0, slots := 0, locals := 0 }
theorem mX3_endsAt_f9 : Cond.fieldLink RX3 9 "Stresswork$Members" "from" "[I" ∈ wsX3_endsAt := by decide +kernel
theorem nX3_endsAt_X3 : ∀ x ∈ wsX30, x ∈ wsX3_endsAt := by decide +kernel
theorem mX3_endsAt_f15 : Cond.fieldLink RX3 15 "Stresswork$Members" "to" "[I" ∈ wsX3_endsAt := by decide +kernel
def M_X3_endsAt (a0 a1 : Int) (S : St) (Qr : Int → St → Prop) (Qx : String → St → Prop) : Prop := r32 a0 → r32 a1 → MM 1 wC okC yX3_endsAt wsX3_endsAt rmX3_endsAt (fun G => [.ref (G.2.2 2), iV a0, iV a1]) S Qr Qx
set_option maxRecDepth 100000 in
set_option maxHeartbeats 4000000 in
theorem vc_X3_endsAt {a0 a1 : Int} {S : St} {Qr : Int → St → Prop} {Qx : String → St → Prop} (h : r32 a0 → r32 a1 → okC S → (ix a0 40 ∧ (((S 11 a0) = a1 → Qr 1 S) ∧ ((S 11 a0) ≠ a1 → (((S 12 a0) ≠ a1 → Qr 0 S) ∧ ((S 12 a0) = a1 → Qr 1 S)))))) : M_X3_endsAt a0 a1 S Qr Qx := by
  intro ra0 ra1
  refine MM_of adC (by decide +kernel) rfl (Lf := fun G => [some (.ref (G.2.2 2)), some (iV a0), some (iV a1)]) (fun G => by show _ ≤ _; exact Nat.le_of_ble_eq_true rfl) (fun G => rfl) ?_
  intro p l e s m args below meth c G A C hok
  have h := h ra0 ra1 hok
  replace C : Cx wC cX3_endsAt 3 RX3 wsX3_endsAt (some .boolean) [] p l s m args meth c G A := C
  show J wC 3 rmX3_endsAt p l e s m args below meth c G A (QQ 1 wC okC G Qr Qx A below args s rmX3_endsAt.cells rmX3_endsAt.slots) 0 0 S [some (.ref (G.2.2 2)), some (iV a0), some (iV a1)] [] 0
  refine J_aload_n (pc := 0) C dX3_endsAt_0 rfl ?_
  refine J_get (pc := 1) C dX3_endsAt_1 2 rfl rfl nX3_endsAt_X3 0 (by decide) mX3_endsAt_f9 rfl (v := .ref (G.2.2 11)) rfl ?_
  refine J_iload_n (pc := 4) C dX3_endsAt_4 rfl ?_
  obtain ⟨o1, h2⟩ := h
  refine J_iald (pc := 5) C dX3_endsAt_5 11 11 rfl (by decide) o1 ?_
  refine J_iload_n (pc := 6) C dX3_endsAt_6 rfl ?_
  obtain ⟨h3, h4⟩ := h2
  refine J_icmp_eq (pc := 7) (tgt := 20) C dX3_endsAt_7 (by decide) (hok 11 a0) ra1 (fun cb => ?_) (fun cb => ?_)
  · have h3 := h3 cb
    refine J_iconst (pc := 20) C dX3_endsAt_20 ?_
    refine J_goto (pc := 21) (tgt := 25) C dX3_endsAt_21 (by decide) ?_
    exact J_zret (pc := 25) C dX3_endsAt_25 (by decide) hok h3 (by decide) (by decide)
  · have h4 := h4 cb
    refine J_aload_n (pc := 10) C dX3_endsAt_10 rfl ?_
    refine J_get (pc := 11) C dX3_endsAt_11 2 rfl rfl nX3_endsAt_X3 1 (by decide) mX3_endsAt_f15 rfl (v := .ref (G.2.2 12)) rfl ?_
    refine J_iload_n (pc := 14) C dX3_endsAt_14 rfl ?_
    refine J_iald (pc := 15) C dX3_endsAt_15 12 12 rfl (by decide) o1 ?_
    refine J_iload_n (pc := 16) C dX3_endsAt_16 rfl ?_
    obtain ⟨h5, h6⟩ := h4
    refine J_icmp_ne (pc := 17) (tgt := 24) C dX3_endsAt_17 (by decide) (hok 12 a0) ra1 (fun cb => ?_) (fun cb => ?_)
    · have h5 := h5 cb
      refine J_iconst (pc := 24) C dX3_endsAt_24 ?_
      exact J_zret (pc := 25) C dX3_endsAt_25 (by decide) hok h5 (by decide) (by decide)
    · have h6 := h6 cb
      refine J_iconst (pc := 20) C dX3_endsAt_20 ?_
      refine J_goto (pc := 21) (tgt := 25) C dX3_endsAt_21 (by decide) ?_
      exact J_zret (pc := 25) C dX3_endsAt_25 (by decide) hok h6 (by decide) (by decide)
def rmX3_endingAt : Room := { frames := 1, cells := 0, slots := 0, locals := 22 }
theorem mX3_endingAt_f28 : Cond.fieldLink RX3 28 "Stresswork$Members" "count" "I" ∈ wsX3_endingAt := by decide +kernel
theorem nX3_endingAt_X3 : ∀ x ∈ wsX30, x ∈ wsX3_endingAt := by decide +kernel
def M_X3_endingAt (a0 : Int) (S : St) (Qr : Int → St → Prop) (Qx : String → St → Prop) : Prop := r32 a0 → MM 1 wC okC yX3_endingAt wsX3_endingAt rmX3_endingAt (fun G => [.ref (G.2.2 2), iV a0]) S Qr Qx
def R_X3_endingAt_4 (x1 x2 x3 : Int) (S : St) (Qr : Int → St → Prop) (Qx : String → St → Prop) : Prop := r32 x1 → r32 x2 → r32 x3 → RR 1 wC okC wsX3_endingAt rmX3_endingAt cX3_endingAt 4 RX3 (some .int) [] 0 0 (fun G => [some (.ref (G.2.2 2)), some (iV x1), some (iV x2), some (iV x3)]) (fun G => []) 4 S Qr Qx
set_option maxRecDepth 100000 in
set_option maxHeartbeats 4000000 in
theorem vc_X3_endingAt {a0 : Int} {S : St} {Qr : Int → St → Prop} {Qx : String → St → Prop} (h : r32 a0 → okC S → R_X3_endingAt_4 a0 0 0 S Qr Qx) : M_X3_endingAt a0 S Qr Qx := by
  intro ra0
  refine MM_of adC (by decide +kernel) rfl (Lf := fun G => [some (.ref (G.2.2 2)), some (iV a0), none, none]) (fun G => by show _ ≤ _; exact Nat.le_of_ble_eq_true rfl) (fun G => rfl) ?_
  intro p l e s m args below meth c G A C hok
  have h := h ra0 hok
  replace C : Cx wC cX3_endingAt 4 RX3 wsX3_endingAt (some .int) [] p l s m args meth c G A := C
  show J wC 4 rmX3_endingAt p l e s m args below meth c G A (QQ 1 wC okC G Qr Qx A below args s rmX3_endingAt.cells rmX3_endingAt.slots) 0 0 S [some (.ref (G.2.2 2)), some (iV a0), none, none] [] 0
  refine J_iconst (pc := 0) C dX3_endingAt_0 ?_
  refine J_istore_n (pc := 1) C dX3_endingAt_1 (by decide) ?_
  refine J_iconst (pc := 2) C dX3_endingAt_2 ?_
  refine J_istore_n (pc := 3) C dX3_endingAt_3 (by decide) ?_
  exact J_sub (L1 := [some (.ref (G.2.2 2)), some (iV a0), some (iV 0), some (iV 0)]) ⟨rfl, ⟨rfl, ⟨rfl, ⟨rfl, trivial⟩⟩⟩⟩ (h ra0 (by decide) (by decide) p l e s m args below meth c G A C hok)
set_option maxRecDepth 100000 in
set_option maxHeartbeats 4000000 in
theorem vc_X3_endingAt_4 {x1 x2 x3 : Int} {S : St} {Qr : Int → St → Prop} {Qx : String → St → Prop} (h : r32 x1 → r32 x2 → r32 x3 → okC S → (((S 2 5) ≤ x3 → Qr x2 S) ∧ (x3 < (S 2 5) → M_X3_has x3 S (fun rv6 S4 => r32 rv6 → okC S4 → ((rv6 = 0 → (r32 (x3 + 1) ∧ R_X3_endingAt_4 x1 x2 (x3 + 1) S4 Qr Qx)) ∧ (rv6 ≠ 0 → M_X3_endsAt x3 x1 S4 (fun rv15 S13 => r32 rv15 → okC S13 → ((rv15 = 0 → (r32 (x3 + 1) ∧ R_X3_endingAt_4 x1 x2 (x3 + 1) S13 Qr Qx)) ∧ (rv15 ≠ 0 → (r32 (x2 + 1) ∧ (r32 (x3 + 1) ∧ R_X3_endingAt_4 x1 (x2 + 1) (x3 + 1) S13 Qr Qx))))) Qx))) Qx))) : R_X3_endingAt_4 x1 x2 x3 S Qr Qx := by
  intro rx1 rx2 rx3
  intro p l e s m args below meth c G A C hok
  have h := h rx1 rx2 rx3 hok
  replace C : Cx wC cX3_endingAt 4 RX3 wsX3_endingAt (some .int) [] p l s m args meth c G A := C
  show J wC 4 rmX3_endingAt p l e s m args below meth c G A (QQ 1 wC okC G Qr Qx A below args s rmX3_endingAt.cells rmX3_endingAt.slots) 0 0 S [some (.ref (G.2.2 2)), some (iV x1), some (iV x2), some (iV x3)] [] 4
  refine J_iload_n (pc := 4) C dX3_endingAt_4 rfl ?_
  refine J_aload_n (pc := 5) C dX3_endingAt_5 rfl ?_
  refine J_get (pc := 6) C dX3_endingAt_6 2 rfl rfl nX3_endingAt_X3 5 (by decide) mX3_endingAt_f28 rfl (v := iV (S 2 5)) rfl ?_
  obtain ⟨h1, h2⟩ := h
  refine J_icmp_ge (pc := 9) (tgt := 38) C dX3_endingAt_9 (by decide) rx3 (hok 2 5) (fun cb => ?_) (fun cb => ?_)
  · have h1 := h1 cb
    refine J_iload_n (pc := 38) C dX3_endingAt_38 rfl ?_
    exact J_iret (pc := 39) C dX3_endingAt_39 rx2 hok h1 (by decide) (by decide)
  · have h2 := h2 cb
    refine J_aload_n (pc := 12) C dX3_endingAt_12 rfl ?_
    refine J_iload_n (pc := 13) C dX3_endingAt_13 rfl ?_
    refine J_c1 (pc := 14) C (J_rV (pc := 14) C (h2 rx3) dX3_endingAt_14 rfl rfl 2 rfl rfl (cwV 1 C.1.2.2.2.2 gX3_endingAt_X3_has rfl rfl rfl (by decide +kernel) ⟨Nat.le_of_ble_eq_true rfl, Nat.le_of_ble_eq_true rfl⟩) hok (Nat.le_of_ble_eq_true rfl) ⟨Nat.le_of_ble_eq_true rfl, Nat.le_of_ble_eq_true rfl⟩) (fun E9 S9 ok9 q9 => JX_out C ok9 q9 (by decide) (by decide)) (fun rv6 S4 hr7 hok5 h3 => ?_)
    have h3 := h3 hr7 hok5
    obtain ⟨h8, h9⟩ := h3
    refine J_if_eq (pc := 17) (tgt := 32) C dX3_endingAt_17 (by decide) hr7 (fun cb => ?_) (fun cb => ?_)
    · have h8 := h8 cb
      refine J_iinc (pc := 32) C dX3_endingAt_32 rfl (by decide) ?_
      refine J_goto (pc := 35) (tgt := 4) C dX3_endingAt_35 (by decide) ?_
      obtain ⟨o10, h11⟩ := h8
      exact J_sub (L1 := [some (.ref (G.2.2 2)), some (iV x1), some (iV x2), some (iV (x3 + 1))]) ⟨rfl, ⟨rfl, ⟨rfl, ⟨rfl, trivial⟩⟩⟩⟩ (h11 rx1 rx2 o10 p l e s m args below meth c G A C hok5)
    · have h9 := h9 cb
      refine J_aload_n (pc := 20) C dX3_endingAt_20 rfl ?_
      refine J_iload_n (pc := 21) C dX3_endingAt_21 rfl ?_
      refine J_iload_n (pc := 22) C dX3_endingAt_22 rfl ?_
      refine J_c1 (pc := 23) C (J_rV (pc := 23) C (h9 rx3 rx1) dX3_endingAt_23 rfl rfl 2 rfl rfl (cwV 2 C.1.2.2.2.2 gX3_endingAt_X3_endsAt rfl rfl rfl (by decide +kernel) ⟨Nat.le_of_ble_eq_true rfl, Nat.le_of_ble_eq_true rfl⟩) hok5 (Nat.le_of_ble_eq_true rfl) ⟨Nat.le_of_ble_eq_true rfl, Nat.le_of_ble_eq_true rfl⟩) (fun E9 S9 ok9 q9 => JX_out C ok9 q9 (by decide) (by decide)) (fun rv15 S13 hr16 hok14 h12 => ?_)
      have h12 := h12 hr16 hok14
      obtain ⟨h17, h18⟩ := h12
      refine J_if_eq (pc := 26) (tgt := 32) C dX3_endingAt_26 (by decide) hr16 (fun cb => ?_) (fun cb => ?_)
      · have h17 := h17 cb
        refine J_iinc (pc := 32) C dX3_endingAt_32 rfl (by decide) ?_
        refine J_goto (pc := 35) (tgt := 4) C dX3_endingAt_35 (by decide) ?_
        obtain ⟨o19, h20⟩ := h17
        exact J_sub (L1 := [some (.ref (G.2.2 2)), some (iV x1), some (iV x2), some (iV (x3 + 1))]) ⟨rfl, ⟨rfl, ⟨rfl, ⟨rfl, trivial⟩⟩⟩⟩ (h20 rx1 rx2 o19 p l e s m args below meth c G A C hok14)
      · have h18 := h18 cb
        refine J_iinc (pc := 29) C dX3_endingAt_29 rfl (by decide) ?_
        refine J_iinc (pc := 32) C dX3_endingAt_32 rfl (by decide) ?_
        refine J_goto (pc := 35) (tgt := 4) C dX3_endingAt_35 (by decide) ?_
        obtain ⟨o21, h22⟩ := h18
        obtain ⟨o23, h24⟩ := h22
        exact J_sub (L1 := [some (.ref (G.2.2 2)), some (iV x1), some (iV (x2 + 1)), some (iV (x3 + 1))]) ⟨rfl, ⟨rfl, ⟨rfl, ⟨rfl, trivial⟩⟩⟩⟩ (h24 rx1 o21 o23 p l e s m args below meth c G A C hok14)
def rmX3_isWronglyTold : Room := { frames := 0, cells := 0, slots := 0, locals := 0 }
theorem mX3_isWronglyTold_f18 : Cond.fieldLink RX3 18 "Stresswork$Members" "kinds" "[I" ∈ wsX3_isWronglyTold := by decide +kernel
theorem nX3_isWronglyTold_X3 : ∀ x ∈ wsX30, x ∈ wsX3_isWronglyTold := by decide +kernel
theorem mX3_isWronglyTold_f21 : Cond.fieldLink RX3 21 "Stresswork$Members" "told" "[I" ∈ wsX3_isWronglyTold := by decide +kernel
def M_X3_isWronglyTold (a0 : Int) (S : St) (Qr : Int → St → Prop) (Qx : String → St → Prop) : Prop := r32 a0 → MM 1 wC okC yX3_isWronglyTold wsX3_isWronglyTold rmX3_isWronglyTold (fun G => [.ref (G.2.2 2), iV a0]) S Qr Qx
set_option maxRecDepth 100000 in
set_option maxHeartbeats 4000000 in
theorem vc_X3_isWronglyTold {a0 : Int} {S : St} {Qr : Int → St → Prop} {Qx : String → St → Prop} (h : r32 a0 → okC S → (ix a0 40 ∧ (((S 13 a0) ≠ 1 → (((S 13 a0) ≠ 2 → Qr 0 S) ∧ ((S 13 a0) = 2 → (((S 14 a0) ≤ 0 → Qr 0 S) ∧ (0 < (S 14 a0) → Qr 1 S))))) ∧ ((S 13 a0) = 1 → (((S 14 a0) < 0 → Qr 1 S) ∧ (0 ≤ (S 14 a0) → (((S 13 a0) ≠ 2 → Qr 0 S) ∧ ((S 13 a0) = 2 → (((S 14 a0) ≤ 0 → Qr 0 S) ∧ (0 < (S 14 a0) → Qr 1 S)))))))))) : M_X3_isWronglyTold a0 S Qr Qx := by
  intro ra0
  refine MM_of adC (by decide +kernel) rfl (Lf := fun G => [some (.ref (G.2.2 2)), some (iV a0)]) (fun G => by show _ ≤ _; exact Nat.le_of_ble_eq_true rfl) (fun G => rfl) ?_
  intro p l e s m args below meth c G A C hok
  have h := h ra0 hok
  replace C : Cx wC cX3_isWronglyTold 2 RX3 wsX3_isWronglyTold (some .boolean) [] p l s m args meth c G A := C
  show J wC 2 rmX3_isWronglyTold p l e s m args below meth c G A (QQ 1 wC okC G Qr Qx A below args s rmX3_isWronglyTold.cells rmX3_isWronglyTold.slots) 0 0 S [some (.ref (G.2.2 2)), some (iV a0)] [] 0
  refine J_aload_n (pc := 0) C dX3_isWronglyTold_0 rfl ?_
  refine J_get (pc := 1) C dX3_isWronglyTold_1 2 rfl rfl nX3_isWronglyTold_X3 2 (by decide) mX3_isWronglyTold_f18 rfl (v := .ref (G.2.2 13)) rfl ?_
  refine J_iload_n (pc := 4) C dX3_isWronglyTold_4 rfl ?_
  obtain ⟨o1, h2⟩ := h
  refine J_iald (pc := 5) C dX3_isWronglyTold_5 13 13 rfl (by decide) o1 ?_
  refine J_iconst (pc := 6) C dX3_isWronglyTold_6 ?_
  obtain ⟨h3, h4⟩ := h2
  refine J_icmp_ne (pc := 7) (tgt := 19) C dX3_isWronglyTold_7 (by decide) (hok 13 a0) (by decide) (fun cb => ?_) (fun cb => ?_)
  · have h3 := h3 cb
    refine J_aload_n (pc := 19) C dX3_isWronglyTold_19 rfl ?_
    refine J_get (pc := 20) C dX3_isWronglyTold_20 2 rfl rfl nX3_isWronglyTold_X3 2 (by decide) mX3_isWronglyTold_f18 rfl (v := .ref (G.2.2 13)) rfl ?_
    refine J_iload_n (pc := 23) C dX3_isWronglyTold_23 rfl ?_
    refine J_iald (pc := 24) C dX3_isWronglyTold_24 13 13 rfl (by decide) o1 ?_
    refine J_iconst (pc := 25) C dX3_isWronglyTold_25 ?_
    obtain ⟨h5, h6⟩ := h3
    refine J_icmp_ne (pc := 26) (tgt := 42) C dX3_isWronglyTold_26 (by decide) (hok 13 a0) (by decide) (fun cb => ?_) (fun cb => ?_)
    · have h5 := h5 cb
      refine J_iconst (pc := 42) C dX3_isWronglyTold_42 ?_
      exact J_zret (pc := 43) C dX3_isWronglyTold_43 (by decide) hok h5 (by decide) (by decide)
    · have h6 := h6 cb
      refine J_aload_n (pc := 29) C dX3_isWronglyTold_29 rfl ?_
      refine J_get (pc := 30) C dX3_isWronglyTold_30 2 rfl rfl nX3_isWronglyTold_X3 3 (by decide) mX3_isWronglyTold_f21 rfl (v := .ref (G.2.2 14)) rfl ?_
      refine J_iload_n (pc := 33) C dX3_isWronglyTold_33 rfl ?_
      refine J_iald (pc := 34) C dX3_isWronglyTold_34 14 14 rfl (by decide) o1 ?_
      obtain ⟨h7, h8⟩ := h6
      refine J_if_le (pc := 35) (tgt := 42) C dX3_isWronglyTold_35 (by decide) (hok 14 a0) (fun cb => ?_) (fun cb => ?_)
      · have h7 := h7 cb
        refine J_iconst (pc := 42) C dX3_isWronglyTold_42 ?_
        exact J_zret (pc := 43) C dX3_isWronglyTold_43 (by decide) hok h7 (by decide) (by decide)
      · have h8 := h8 cb
        refine J_iconst (pc := 38) C dX3_isWronglyTold_38 ?_
        refine J_goto (pc := 39) (tgt := 43) C dX3_isWronglyTold_39 (by decide) ?_
        exact J_zret (pc := 43) C dX3_isWronglyTold_43 (by decide) hok h8 (by decide) (by decide)
  · have h4 := h4 cb
    refine J_aload_n (pc := 10) C dX3_isWronglyTold_10 rfl ?_
    refine J_get (pc := 11) C dX3_isWronglyTold_11 2 rfl rfl nX3_isWronglyTold_X3 3 (by decide) mX3_isWronglyTold_f21 rfl (v := .ref (G.2.2 14)) rfl ?_
    refine J_iload_n (pc := 14) C dX3_isWronglyTold_14 rfl ?_
    refine J_iald (pc := 15) C dX3_isWronglyTold_15 14 14 rfl (by decide) o1 ?_
    obtain ⟨h9, h10⟩ := h4
    refine J_if_lt (pc := 16) (tgt := 38) C dX3_isWronglyTold_16 (by decide) (hok 14 a0) (fun cb => ?_) (fun cb => ?_)
    · have h9 := h9 cb
      refine J_iconst (pc := 38) C dX3_isWronglyTold_38 ?_
      refine J_goto (pc := 39) (tgt := 43) C dX3_isWronglyTold_39 (by decide) ?_
      exact J_zret (pc := 43) C dX3_isWronglyTold_43 (by decide) hok h9 (by decide) (by decide)
    · have h10 := h10 cb
      refine J_aload_n (pc := 19) C dX3_isWronglyTold_19 rfl ?_
      refine J_get (pc := 20) C dX3_isWronglyTold_20 2 rfl rfl nX3_isWronglyTold_X3 2 (by decide) mX3_isWronglyTold_f18 rfl (v := .ref (G.2.2 13)) rfl ?_
      refine J_iload_n (pc := 23) C dX3_isWronglyTold_23 rfl ?_
      refine J_iald (pc := 24) C dX3_isWronglyTold_24 13 13 rfl (by decide) o1 ?_
      refine J_iconst (pc := 25) C dX3_isWronglyTold_25 ?_
      obtain ⟨h11, h12⟩ := h10
      refine J_icmp_ne (pc := 26) (tgt := 42) C dX3_isWronglyTold_26 (by decide) (hok 13 a0) (by decide) (fun cb => ?_) (fun cb => ?_)
      · have h11 := h11 cb
        refine J_iconst (pc := 42) C dX3_isWronglyTold_42 ?_
        exact J_zret (pc := 43) C dX3_isWronglyTold_43 (by decide) hok h11 (by decide) (by decide)
      · have h12 := h12 cb
        refine J_aload_n (pc := 29) C dX3_isWronglyTold_29 rfl ?_
        refine J_get (pc := 30) C dX3_isWronglyTold_30 2 rfl rfl nX3_isWronglyTold_X3 3 (by decide) mX3_isWronglyTold_f21 rfl (v := .ref (G.2.2 14)) rfl ?_
        refine J_iload_n (pc := 33) C dX3_isWronglyTold_33 rfl ?_
        refine J_iald (pc := 34) C dX3_isWronglyTold_34 14 14 rfl (by decide) o1 ?_
        obtain ⟨h13, h14⟩ := h12
        refine J_if_le (pc := 35) (tgt := 42) C dX3_isWronglyTold_35 (by decide) (hok 14 a0) (fun cb => ?_) (fun cb => ?_)
        · have h13 := h13 cb
          refine J_iconst (pc := 42) C dX3_isWronglyTold_42 ?_
          exact J_zret (pc := 43) C dX3_isWronglyTold_43 (by decide) hok h13 (by decide) (by decide)
        · have h14 := h14 cb
          refine J_iconst (pc := 38) C dX3_isWronglyTold_38 ?_
          refine J_goto (pc := 39) (tgt := 43) C dX3_isWronglyTold_39 (by decide) ?_
          exact J_zret (pc := 43) C dX3_isWronglyTold_43 (by decide) hok h14 (by decide) (by decide)
def rmX3_join : Room := { frames := 1, cells := 0, slots := 0, locals := 22 }
theorem mX3_join_f28 : Cond.fieldLink RX3 28 "Stresswork$Members" "count" "I" ∈ wsX3_join := by decide +kernel
theorem nX3_join_X3 : ∀ x ∈ wsX30, x ∈ wsX3_join := by decide +kernel
def M_X3_join (a0 a1 : Int) (S : St) (Qr : Int → St → Prop) (Qx : String → St → Prop) : Prop := r32 a0 → r32 a1 → MM 1 wC okC yX3_join wsX3_join rmX3_join (fun G => [.ref (G.2.2 2), iV a0, iV a1]) S Qr Qx
def R_X3_join_2 (x1 x2 x3 : Int) (S : St) (Qr : Int → St → Prop) (Qx : String → St → Prop) : Prop := r32 x1 → r32 x2 → r32 x3 → RR 1 wC okC wsX3_join rmX3_join cX3_join 4 RX3 (some .boolean) [] 0 0 (fun G => [some (.ref (G.2.2 2)), some (iV x1), some (iV x2), some (iV x3)]) (fun G => []) 2 S Qr Qx
set_option maxRecDepth 100000 in
set_option maxHeartbeats 4000000 in
theorem vc_X3_join {a0 a1 : Int} {S : St} {Qr : Int → St → Prop} {Qx : String → St → Prop} (h : r32 a0 → r32 a1 → okC S → R_X3_join_2 a0 a1 0 S Qr Qx) : M_X3_join a0 a1 S Qr Qx := by
  intro ra0 ra1
  refine MM_of adC (by decide +kernel) rfl (Lf := fun G => [some (.ref (G.2.2 2)), some (iV a0), some (iV a1), none]) (fun G => by show _ ≤ _; exact Nat.le_of_ble_eq_true rfl) (fun G => rfl) ?_
  intro p l e s m args below meth c G A C hok
  have h := h ra0 ra1 hok
  replace C : Cx wC cX3_join 4 RX3 wsX3_join (some .boolean) [] p l s m args meth c G A := C
  show J wC 4 rmX3_join p l e s m args below meth c G A (QQ 1 wC okC G Qr Qx A below args s rmX3_join.cells rmX3_join.slots) 0 0 S [some (.ref (G.2.2 2)), some (iV a0), some (iV a1), none] [] 0
  refine J_iconst (pc := 0) C dX3_join_0 ?_
  refine J_istore_n (pc := 1) C dX3_join_1 (by decide) ?_
  exact J_sub (L1 := [some (.ref (G.2.2 2)), some (iV a0), some (iV a1), some (iV 0)]) ⟨rfl, ⟨rfl, ⟨rfl, ⟨rfl, trivial⟩⟩⟩⟩ (h ra0 ra1 (by decide) p l e s m args below meth c G A C hok)
set_option maxRecDepth 100000 in
set_option maxHeartbeats 4000000 in
theorem vc_X3_join_2 {x1 x2 x3 : Int} {S : St} {Qr : Int → St → Prop} {Qx : String → St → Prop} (h : r32 x1 → r32 x2 → r32 x3 → okC S → (((S 2 5) ≤ x3 → Qr 0 S) ∧ (x3 < (S 2 5) → M_X3_has x3 S (fun rv6 S4 => r32 rv6 → okC S4 → ((rv6 = 0 → (r32 (x3 + 1) ∧ R_X3_join_2 x1 x2 (x3 + 1) S4 Qr Qx)) ∧ (rv6 ≠ 0 → M_X3_endsAt x3 x1 S4 (fun rv15 S13 => r32 rv15 → okC S13 → ((rv15 = 0 → (r32 (x3 + 1) ∧ R_X3_join_2 x1 x2 (x3 + 1) S13 Qr Qx)) ∧ (rv15 ≠ 0 → M_X3_endsAt x3 x2 S13 (fun rv24 S22 => r32 rv24 → okC S22 → ((rv24 = 0 → (r32 (x3 + 1) ∧ R_X3_join_2 x1 x2 (x3 + 1) S22 Qr Qx)) ∧ (rv24 ≠ 0 → Qr 1 S22))) Qx))) Qx))) Qx))) : R_X3_join_2 x1 x2 x3 S Qr Qx := by
  intro rx1 rx2 rx3
  intro p l e s m args below meth c G A C hok
  have h := h rx1 rx2 rx3 hok
  replace C : Cx wC cX3_join 4 RX3 wsX3_join (some .boolean) [] p l s m args meth c G A := C
  show J wC 4 rmX3_join p l e s m args below meth c G A (QQ 1 wC okC G Qr Qx A below args s rmX3_join.cells rmX3_join.slots) 0 0 S [some (.ref (G.2.2 2)), some (iV x1), some (iV x2), some (iV x3)] [] 2
  refine J_iload_n (pc := 2) C dX3_join_2 rfl ?_
  refine J_aload_n (pc := 3) C dX3_join_3 rfl ?_
  refine J_get (pc := 4) C dX3_join_4 2 rfl rfl nX3_join_X3 5 (by decide) mX3_join_f28 rfl (v := iV (S 2 5)) rfl ?_
  obtain ⟨h1, h2⟩ := h
  refine J_icmp_ge (pc := 7) (tgt := 44) C dX3_join_7 (by decide) rx3 (hok 2 5) (fun cb => ?_) (fun cb => ?_)
  · have h1 := h1 cb
    refine J_iconst (pc := 44) C dX3_join_44 ?_
    exact J_zret (pc := 45) C dX3_join_45 (by decide) hok h1 (by decide) (by decide)
  · have h2 := h2 cb
    refine J_aload_n (pc := 10) C dX3_join_10 rfl ?_
    refine J_iload_n (pc := 11) C dX3_join_11 rfl ?_
    refine J_c1 (pc := 12) C (J_rV (pc := 12) C (h2 rx3) dX3_join_12 rfl rfl 2 rfl rfl (cwV 1 C.1.2.2.2.2 gX3_join_X3_has rfl rfl rfl (by decide +kernel) ⟨Nat.le_of_ble_eq_true rfl, Nat.le_of_ble_eq_true rfl⟩) hok (Nat.le_of_ble_eq_true rfl) ⟨Nat.le_of_ble_eq_true rfl, Nat.le_of_ble_eq_true rfl⟩) (fun E9 S9 ok9 q9 => JX_out C ok9 q9 (by decide) (by decide)) (fun rv6 S4 hr7 hok5 h3 => ?_)
    have h3 := h3 hr7 hok5
    obtain ⟨h8, h9⟩ := h3
    refine J_if_eq (pc := 15) (tgt := 38) C dX3_join_15 (by decide) hr7 (fun cb => ?_) (fun cb => ?_)
    · have h8 := h8 cb
      refine J_iinc (pc := 38) C dX3_join_38 rfl (by decide) ?_
      refine J_goto (pc := 41) (tgt := 2) C dX3_join_41 (by decide) ?_
      obtain ⟨o10, h11⟩ := h8
      exact J_sub (L1 := [some (.ref (G.2.2 2)), some (iV x1), some (iV x2), some (iV (x3 + 1))]) ⟨rfl, ⟨rfl, ⟨rfl, ⟨rfl, trivial⟩⟩⟩⟩ (h11 rx1 rx2 o10 p l e s m args below meth c G A C hok5)
    · have h9 := h9 cb
      refine J_aload_n (pc := 18) C dX3_join_18 rfl ?_
      refine J_iload_n (pc := 19) C dX3_join_19 rfl ?_
      refine J_iload_n (pc := 20) C dX3_join_20 rfl ?_
      refine J_c1 (pc := 21) C (J_rV (pc := 21) C (h9 rx3 rx1) dX3_join_21 rfl rfl 2 rfl rfl (cwV 2 C.1.2.2.2.2 gX3_join_X3_endsAt rfl rfl rfl (by decide +kernel) ⟨Nat.le_of_ble_eq_true rfl, Nat.le_of_ble_eq_true rfl⟩) hok5 (Nat.le_of_ble_eq_true rfl) ⟨Nat.le_of_ble_eq_true rfl, Nat.le_of_ble_eq_true rfl⟩) (fun E9 S9 ok9 q9 => JX_out C ok9 q9 (by decide) (by decide)) (fun rv15 S13 hr16 hok14 h12 => ?_)
      have h12 := h12 hr16 hok14
      obtain ⟨h17, h18⟩ := h12
      refine J_if_eq (pc := 24) (tgt := 38) C dX3_join_24 (by decide) hr16 (fun cb => ?_) (fun cb => ?_)
      · have h17 := h17 cb
        refine J_iinc (pc := 38) C dX3_join_38 rfl (by decide) ?_
        refine J_goto (pc := 41) (tgt := 2) C dX3_join_41 (by decide) ?_
        obtain ⟨o19, h20⟩ := h17
        exact J_sub (L1 := [some (.ref (G.2.2 2)), some (iV x1), some (iV x2), some (iV (x3 + 1))]) ⟨rfl, ⟨rfl, ⟨rfl, ⟨rfl, trivial⟩⟩⟩⟩ (h20 rx1 rx2 o19 p l e s m args below meth c G A C hok14)
      · have h18 := h18 cb
        refine J_aload_n (pc := 27) C dX3_join_27 rfl ?_
        refine J_iload_n (pc := 28) C dX3_join_28 rfl ?_
        refine J_iload_n (pc := 29) C dX3_join_29 rfl ?_
        refine J_c1 (pc := 30) C (J_rV (pc := 30) C (h18 rx3 rx2) dX3_join_30 rfl rfl 2 rfl rfl (cwV 2 C.1.2.2.2.2 gX3_join_X3_endsAt rfl rfl rfl (by decide +kernel) ⟨Nat.le_of_ble_eq_true rfl, Nat.le_of_ble_eq_true rfl⟩) hok14 (Nat.le_of_ble_eq_true rfl) ⟨Nat.le_of_ble_eq_true rfl, Nat.le_of_ble_eq_true rfl⟩) (fun E9 S9 ok9 q9 => JX_out C ok9 q9 (by decide) (by decide)) (fun rv24 S22 hr25 hok23 h21 => ?_)
        have h21 := h21 hr25 hok23
        obtain ⟨h26, h27⟩ := h21
        refine J_if_eq (pc := 33) (tgt := 38) C dX3_join_33 (by decide) hr25 (fun cb => ?_) (fun cb => ?_)
        · have h26 := h26 cb
          refine J_iinc (pc := 38) C dX3_join_38 rfl (by decide) ?_
          refine J_goto (pc := 41) (tgt := 2) C dX3_join_41 (by decide) ?_
          obtain ⟨o28, h29⟩ := h26
          exact J_sub (L1 := [some (.ref (G.2.2 2)), some (iV x1), some (iV x2), some (iV (x3 + 1))]) ⟨rfl, ⟨rfl, ⟨rfl, ⟨rfl, trivial⟩⟩⟩⟩ (h29 rx1 rx2 o28 p l e s m args below meth c G A C hok23)
        · have h27 := h27 cb
          refine J_iconst (pc := 36) C dX3_join_36 ?_
          exact J_zret (pc := 37) C dX3_join_37 (by decide) hok23 h27 (by decide) (by decide)
def rmX3_presentAhead : Room := { frames := 1, cells := 0, slots := 0, locals := 21 }
def M_X3_presentAhead (a0 : Int) (S : St) (Qr : Int → St → Prop) (Qx : String → St → Prop) : Prop := r32 a0 → MM 1 wC okC yX3_presentAhead wsX3_presentAhead rmX3_presentAhead (fun G => [.ref (G.2.2 2), iV a0]) S Qr Qx
def R_X3_presentAhead_4 (x1 x2 x3 : Int) (S : St) (Qr : Int → St → Prop) (Qx : String → St → Prop) : Prop := r32 x1 → r32 x2 → r32 x3 → RR 1 wC okC wsX3_presentAhead rmX3_presentAhead cX3_presentAhead 4 RX3 (some .int) [] 0 0 (fun G => [some (.ref (G.2.2 2)), some (iV x1), some (iV x2), some (iV x3)]) (fun G => []) 4 S Qr Qx
set_option maxRecDepth 100000 in
set_option maxHeartbeats 4000000 in
theorem vc_X3_presentAhead {a0 : Int} {S : St} {Qr : Int → St → Prop} {Qx : String → St → Prop} (h : r32 a0 → okC S → R_X3_presentAhead_4 a0 0 0 S Qr Qx) : M_X3_presentAhead a0 S Qr Qx := by
  intro ra0
  refine MM_of adC (by decide +kernel) rfl (Lf := fun G => [some (.ref (G.2.2 2)), some (iV a0), none, none]) (fun G => by show _ ≤ _; exact Nat.le_of_ble_eq_true rfl) (fun G => rfl) ?_
  intro p l e s m args below meth c G A C hok
  have h := h ra0 hok
  replace C : Cx wC cX3_presentAhead 4 RX3 wsX3_presentAhead (some .int) [] p l s m args meth c G A := C
  show J wC 4 rmX3_presentAhead p l e s m args below meth c G A (QQ 1 wC okC G Qr Qx A below args s rmX3_presentAhead.cells rmX3_presentAhead.slots) 0 0 S [some (.ref (G.2.2 2)), some (iV a0), none, none] [] 0
  refine J_iconst (pc := 0) C dX3_presentAhead_0 ?_
  refine J_istore_n (pc := 1) C dX3_presentAhead_1 (by decide) ?_
  refine J_iconst (pc := 2) C dX3_presentAhead_2 ?_
  refine J_istore_n (pc := 3) C dX3_presentAhead_3 (by decide) ?_
  exact J_sub (L1 := [some (.ref (G.2.2 2)), some (iV a0), some (iV 0), some (iV 0)]) ⟨rfl, ⟨rfl, ⟨rfl, ⟨rfl, trivial⟩⟩⟩⟩ (h ra0 (by decide) (by decide) p l e s m args below meth c G A C hok)
set_option maxRecDepth 100000 in
set_option maxHeartbeats 4000000 in
theorem vc_X3_presentAhead_4 {x1 x2 x3 : Int} {S : St} {Qr : Int → St → Prop} {Qx : String → St → Prop} (h : r32 x1 → r32 x2 → r32 x3 → okC S → ((x1 ≤ x3 → Qr x2 S) ∧ (x3 < x1 → M_X3_has x3 S (fun rv6 S4 => r32 rv6 → okC S4 → ((rv6 = 0 → (r32 (x3 + 1) ∧ R_X3_presentAhead_4 x1 x2 (x3 + 1) S4 Qr Qx)) ∧ (rv6 ≠ 0 → (r32 (x2 + 1) ∧ (r32 (x3 + 1) ∧ R_X3_presentAhead_4 x1 (x2 + 1) (x3 + 1) S4 Qr Qx))))) Qx))) : R_X3_presentAhead_4 x1 x2 x3 S Qr Qx := by
  intro rx1 rx2 rx3
  intro p l e s m args below meth c G A C hok
  have h := h rx1 rx2 rx3 hok
  replace C : Cx wC cX3_presentAhead 4 RX3 wsX3_presentAhead (some .int) [] p l s m args meth c G A := C
  show J wC 4 rmX3_presentAhead p l e s m args below meth c G A (QQ 1 wC okC G Qr Qx A below args s rmX3_presentAhead.cells rmX3_presentAhead.slots) 0 0 S [some (.ref (G.2.2 2)), some (iV x1), some (iV x2), some (iV x3)] [] 4
  refine J_iload_n (pc := 4) C dX3_presentAhead_4 rfl ?_
  refine J_iload_n (pc := 5) C dX3_presentAhead_5 rfl ?_
  obtain ⟨h1, h2⟩ := h
  refine J_icmp_ge (pc := 6) (tgt := 26) C dX3_presentAhead_6 (by decide) rx3 rx1 (fun cb => ?_) (fun cb => ?_)
  · have h1 := h1 cb
    refine J_iload_n (pc := 26) C dX3_presentAhead_26 rfl ?_
    exact J_iret (pc := 27) C dX3_presentAhead_27 rx2 hok h1 (by decide) (by decide)
  · have h2 := h2 cb
    refine J_aload_n (pc := 9) C dX3_presentAhead_9 rfl ?_
    refine J_iload_n (pc := 10) C dX3_presentAhead_10 rfl ?_
    refine J_c1 (pc := 11) C (J_rV (pc := 11) C (h2 rx3) dX3_presentAhead_11 rfl rfl 2 rfl rfl (cwV 1 C.1.2.2.2.2 gX3_presentAhead_X3_has rfl rfl rfl (by decide +kernel) ⟨Nat.le_of_ble_eq_true rfl, Nat.le_of_ble_eq_true rfl⟩) hok (Nat.le_of_ble_eq_true rfl) ⟨Nat.le_of_ble_eq_true rfl, Nat.le_of_ble_eq_true rfl⟩) (fun E9 S9 ok9 q9 => JX_out C ok9 q9 (by decide) (by decide)) (fun rv6 S4 hr7 hok5 h3 => ?_)
    have h3 := h3 hr7 hok5
    obtain ⟨h8, h9⟩ := h3
    refine J_if_eq (pc := 14) (tgt := 20) C dX3_presentAhead_14 (by decide) hr7 (fun cb => ?_) (fun cb => ?_)
    · have h8 := h8 cb
      refine J_iinc (pc := 20) C dX3_presentAhead_20 rfl (by decide) ?_
      refine J_goto (pc := 23) (tgt := 4) C dX3_presentAhead_23 (by decide) ?_
      obtain ⟨o10, h11⟩ := h8
      exact J_sub (L1 := [some (.ref (G.2.2 2)), some (iV x1), some (iV x2), some (iV (x3 + 1))]) ⟨rfl, ⟨rfl, ⟨rfl, ⟨rfl, trivial⟩⟩⟩⟩ (h11 rx1 rx2 o10 p l e s m args below meth c G A C hok5)
    · have h9 := h9 cb
      refine J_iinc (pc := 17) C dX3_presentAhead_17 rfl (by decide) ?_
      refine J_iinc (pc := 20) C dX3_presentAhead_20 rfl (by decide) ?_
      refine J_goto (pc := 23) (tgt := 4) C dX3_presentAhead_23 (by decide) ?_
      obtain ⟨o12, h13⟩ := h9
      obtain ⟨o14, h15⟩ := h13
      exact J_sub (L1 := [some (.ref (G.2.2 2)), some (iV x1), some (iV (x2 + 1)), some (iV (x3 + 1))]) ⟨rfl, ⟨rfl, ⟨rfl, ⟨rfl, trivial⟩⟩⟩⟩ (h15 rx1 o12 o14 p l e s m args below meth c G A C hok5)
def rmX3_present : Room := { frames := 2, cells := 0, slots := 0, locals := 44 }
theorem mX3_present_f28 : Cond.fieldLink RX3 28 "Stresswork$Members" "count" "I" ∈ wsX3_present := by decide +kernel
theorem nX3_present_X3 : ∀ x ∈ wsX30, x ∈ wsX3_present := by decide +kernel
def M_X3_present (S : St) (Qr : Int → St → Prop) (Qx : String → St → Prop) : Prop := MM 1 wC okC yX3_present wsX3_present rmX3_present (fun G => [.ref (G.2.2 2)]) S Qr Qx
set_option maxRecDepth 100000 in
set_option maxHeartbeats 4000000 in
theorem vc_X3_present {S : St} {Qr : Int → St → Prop} {Qx : String → St → Prop} (h : okC S → M_X3_presentAhead (S 2 5) S (fun rv4 S2 => r32 rv4 → okC S2 → Qr rv4 S2) Qx) : M_X3_present S Qr Qx := by
  refine MM_of adC (by decide +kernel) rfl (Lf := fun G => [some (.ref (G.2.2 2))]) (fun G => by show _ ≤ _; exact Nat.le_of_ble_eq_true rfl) (fun G => rfl) ?_
  intro p l e s m args below meth c G A C hok
  have h := h hok
  replace C : Cx wC cX3_present 1 RX3 wsX3_present (some .int) [] p l s m args meth c G A := C
  show J wC 1 rmX3_present p l e s m args below meth c G A (QQ 1 wC okC G Qr Qx A below args s rmX3_present.cells rmX3_present.slots) 0 0 S [some (.ref (G.2.2 2))] [] 0
  refine J_aload_n (pc := 0) C dX3_present_0 rfl ?_
  refine J_aload_n (pc := 1) C dX3_present_1 rfl ?_
  refine J_get (pc := 2) C dX3_present_2 2 rfl rfl nX3_present_X3 5 (by decide) mX3_present_f28 rfl (v := iV (S 2 5)) rfl ?_
  refine J_c1 (pc := 5) C (J_rV (pc := 5) C (h (hok 2 5)) dX3_present_5 rfl rfl 2 rfl rfl (cwV 1 C.1.2.2.2.2 gX3_present_X3_presentAhead rfl rfl rfl (by decide +kernel) ⟨Nat.le_of_ble_eq_true rfl, Nat.le_of_ble_eq_true rfl⟩) hok (Nat.le_of_ble_eq_true rfl) ⟨Nat.le_of_ble_eq_true rfl, Nat.le_of_ble_eq_true rfl⟩) (fun E9 S9 ok9 q9 => JX_out C ok9 q9 (by decide) (by decide)) (fun rv4 S2 hr5 hok3 h1 => ?_)
  have h1 := h1 hr5 hok3
  exact J_iret (pc := 8) C dX3_present_8 hr5 hok3 h1 (by decide) (by decide)
def rmX6_bit : Room := { frames := 0, cells := 0, slots := 0, locals := 0 }
def M_X6_bit (a0 : Int) (S : St) (Qr : Int → St → Prop) (Qx : String → St → Prop) : Prop := r32 a0 → MM 1 wC okC yX6_bit wsX6_bit rmX6_bit (fun G => [iV a0]) S Qr Qx
set_option maxRecDepth 100000 in
set_option maxHeartbeats 4000000 in
theorem vc_X6_bit {a0 : Int} {S : St} {Qr : Int → St → Prop} {Qx : String → St → Prop} (h : r32 a0 → okC S → Qr (zshl 1 a0) S) : M_X6_bit a0 S Qr Qx := by
  intro ra0
  refine MM_of adC (by decide +kernel) rfl (Lf := fun G => [some (iV a0)]) (fun G => by show _ ≤ _; exact Nat.le_of_ble_eq_true rfl) (fun G => rfl) ?_
  intro p l e s m args below meth c G A C hok
  have h := h ra0 hok
  replace C : Cx wC cX6_bit 1 RX6 wsX6_bit (some .int) [] p l s m args meth c G A := C
  show J wC 1 rmX6_bit p l e s m args below meth c G A (QQ 1 wC okC G Qr Qx A below args s rmX6_bit.cells rmX6_bit.slots) 0 0 S [some (iV a0)] [] 0
  refine J_iconst (pc := 0) C dX6_bit_0 ?_
  refine J_iload_n (pc := 1) C dX6_bit_1 rfl ?_
  refine J_ishl (pc := 2) C dX6_bit_2 ?_
  exact J_iret (pc := 3) C dX6_bit_3 (r_zshl _ _) hok h (by decide) (by decide)
def rmX3_spread : Room := { frames := 1, cells := 0, slots := 0, locals := 21 }
theorem mX3_spread_f28 : Cond.fieldLink RX3 28 "Stresswork$Members" "count" "I" ∈ wsX3_spread := by decide +kernel
theorem nX3_spread_X3 : ∀ x ∈ wsX30, x ∈ wsX3_spread := by decide +kernel
theorem mX3_spread_f9 : Cond.fieldLink RX3 9 "Stresswork$Members" "from" "[I" ∈ wsX3_spread := by decide +kernel
theorem mX3_spread_i44 : Cond.initialized RX6 ∈ wsX3_spread := by decide +kernel
theorem mX3_spread_s44 : Cond.static yX6_bit ∈ wsX3_spread := by decide +kernel
theorem mX3_spread_f15 : Cond.fieldLink RX3 15 "Stresswork$Members" "to" "[I" ∈ wsX3_spread := by decide +kernel
def M_X3_spread (a0 a1 : Int) (S : St) (Qr : Int → St → Prop) (Qx : String → St → Prop) : Prop := r32 a0 → r32 a1 → MM 1 wC okC yX3_spread wsX3_spread rmX3_spread (fun G => [.ref (G.2.2 2), iV a0, iV a1]) S Qr Qx
def R_X3_spread_5 (x2 x3 x4 : Int) (S : St) (Qr : Int → St → Prop) (Qx : String → St → Prop) : Prop := r32 x2 → r32 x3 → r32 x4 → RR 1 wC okC wsX3_spread rmX3_spread cX3_spread 6 RX3 (some .int) [] 0 0 (fun G => [some (.ref (G.2.2 2)), none, some (iV x2), some (iV x3), some (iV x4), none]) (fun G => []) 5 S Qr Qx
set_option maxRecDepth 100000 in
set_option maxHeartbeats 4000000 in
theorem vc_X3_spread {a0 a1 : Int} {S : St} {Qr : Int → St → Prop} {Qx : String → St → Prop} (h : r32 a0 → r32 a1 → okC S → R_X3_spread_5 a1 a0 0 S Qr Qx) : M_X3_spread a0 a1 S Qr Qx := by
  intro ra0 ra1
  refine MM_of adC (by decide +kernel) rfl (Lf := fun G => [some (.ref (G.2.2 2)), some (iV a0), some (iV a1), none, none, none]) (fun G => by show _ ≤ _; exact Nat.le_of_ble_eq_true rfl) (fun G => rfl) ?_
  intro p l e s m args below meth c G A C hok
  have h := h ra0 ra1 hok
  replace C : Cx wC cX3_spread 6 RX3 wsX3_spread (some .int) [] p l s m args meth c G A := C
  show J wC 6 rmX3_spread p l e s m args below meth c G A (QQ 1 wC okC G Qr Qx A below args s rmX3_spread.cells rmX3_spread.slots) 0 0 S [some (.ref (G.2.2 2)), some (iV a0), some (iV a1), none, none, none] [] 0
  refine J_iload_n (pc := 0) C dX3_spread_0 rfl ?_
  refine J_istore_n (pc := 1) C dX3_spread_1 (by decide) ?_
  refine J_iconst (pc := 2) C dX3_spread_2 ?_
  refine J_istore (pc := 3) C dX3_spread_3 (by decide) ?_
  exact J_sub (L1 := [some (.ref (G.2.2 2)), none, some (iV a1), some (iV a0), some (iV 0), none]) ⟨rfl, ⟨rfl, ⟨rfl, ⟨rfl, trivial⟩⟩⟩⟩ (h ra1 ra0 (by decide) p l e s m args below meth c G A C hok)
set_option maxRecDepth 100000 in
set_option maxHeartbeats 4000000 in
theorem vc_X3_spread_5 {x2 x3 x4 : Int} {S : St} {Qr : Int → St → Prop} {Qx : String → St → Prop} (h : r32 x2 → r32 x3 → r32 x4 → okC S → (((S 2 5) ≤ x4 → Qr x3 S) ∧ (x4 < (S 2 5) → (ix x4 40 ∧ M_X6_bit (S 11 x4) S (fun rv8 S6 => r32 rv8 → okC S6 → M_X6_bit (S6 12 x4) S6 (fun rv13 S11 => r32 rv13 → okC S11 → M_X3_has x4 S11 (fun rv18 S16 => r32 rv18 → okC S16 → ((rv18 = 0 → (r32 (x4 + 1) ∧ R_X3_spread_5 x2 x3 (x4 + 1) S16 Qr Qx)) ∧ (rv18 ≠ 0 → (((zand (zor rv8 rv13) x2) ≠ (zor rv8 rv13) → (r32 (x4 + 1) ∧ R_X3_spread_5 x2 x3 (x4 + 1) S16 Qr Qx)) ∧ ((zand (zor rv8 rv13) x2) = (zor rv8 rv13) → (((zand (zor rv8 rv13) x3) = 0 → (r32 (x4 + 1) ∧ R_X3_spread_5 x2 x3 (x4 + 1) S16 Qr Qx)) ∧ ((zand (zor rv8 rv13) x3) ≠ 0 → (r32 (x4 + 1) ∧ R_X3_spread_5 x2 (zor x3 (zor rv8 rv13)) (x4 + 1) S16 Qr Qx)))))))) Qx) Qx) Qx)))) : R_X3_spread_5 x2 x3 x4 S Qr Qx := by
  intro rx2 rx3 rx4
  intro p l e s m args below meth c G A C hok
  have h := h rx2 rx3 rx4 hok
  replace C : Cx wC cX3_spread 6 RX3 wsX3_spread (some .int) [] p l s m args meth c G A := C
  show J wC 6 rmX3_spread p l e s m args below meth c G A (QQ 1 wC okC G Qr Qx A below args s rmX3_spread.cells rmX3_spread.slots) 0 0 S [some (.ref (G.2.2 2)), none, some (iV x2), some (iV x3), some (iV x4), none] [] 5
  refine J_iload (pc := 5) C dX3_spread_5 rfl ?_
  refine J_aload_n (pc := 7) C dX3_spread_7 rfl ?_
  refine J_get (pc := 8) C dX3_spread_8 2 rfl rfl nX3_spread_X3 5 (by decide) mX3_spread_f28 rfl (v := iV (S 2 5)) rfl ?_
  obtain ⟨h1, h2⟩ := h
  refine J_icmp_ge (pc := 11) (tgt := 73) C dX3_spread_11 (by decide) rx4 (hok 2 5) (fun cb => ?_) (fun cb => ?_)
  · have h1 := h1 cb
    refine J_iload_n (pc := 73) C dX3_spread_73 rfl ?_
    exact J_iret (pc := 74) C dX3_spread_74 rx3 hok h1 (by decide) (by decide)
  · have h2 := h2 cb
    refine J_aload_n (pc := 14) C dX3_spread_14 rfl ?_
    refine J_get (pc := 15) C dX3_spread_15 2 rfl rfl nX3_spread_X3 0 (by decide) mX3_spread_f9 rfl (v := .ref (G.2.2 11)) rfl ?_
    refine J_iload (pc := 18) C dX3_spread_18 rfl ?_
    obtain ⟨o3, h4⟩ := h2
    refine J_iald (pc := 20) C dX3_spread_20 11 11 rfl (by decide) o3 ?_
    refine J_c1 (pc := 21) C (J_rSN (pc := 21) C (h4 (hok 11 x4)) dX3_spread_21 rfl rfl ⟨va_cnB 1 C.1.2.2.2.2 gX3_spread_X6_bit_n44 rfl rfl rfl (C.2.2.2.2.2.2.1.2.2.2.1 (RX3, 44, yX6_bit) (by decide +kernel)) (C.1.2.2.2.2 _ mX3_spread_i44) (by decide +kernel) ⟨Nat.le_of_ble_eq_true rfl, Nat.le_of_ble_eq_true rfl⟩, C.1.2.2.2.2 _ mX3_spread_s44, trivial⟩ hok (Nat.le_of_ble_eq_true rfl) ⟨Nat.le_of_ble_eq_true rfl, Nat.le_of_ble_eq_true rfl⟩) (fun E9 S9 ok9 q9 => JX_out C ok9 q9 (by decide) (by decide)) (fun rv8 S6 hr9 hok7 h5 => ?_)
    have h5 := h5 hr9 hok7
    refine J_aload_n (pc := 24) C dX3_spread_24 rfl ?_
    refine J_get (pc := 25) C dX3_spread_25 2 rfl rfl nX3_spread_X3 1 (by decide) mX3_spread_f15 rfl (v := .ref (G.2.2 12)) rfl ?_
    refine J_iload (pc := 28) C dX3_spread_28 rfl ?_
    refine J_iald (pc := 30) C dX3_spread_30 12 12 rfl (by decide) o3 ?_
    refine J_c1 (pc := 31) C (J_rSN (pc := 31) C (h5 (hok7 12 x4)) dX3_spread_31 rfl rfl ⟨va_cnB 1 C.1.2.2.2.2 gX3_spread_X6_bit_n44 rfl rfl rfl (C.2.2.2.2.2.2.1.2.2.2.1 (RX3, 44, yX6_bit) (by decide +kernel)) (C.1.2.2.2.2 _ mX3_spread_i44) (by decide +kernel) ⟨Nat.le_of_ble_eq_true rfl, Nat.le_of_ble_eq_true rfl⟩, C.1.2.2.2.2 _ mX3_spread_s44, trivial⟩ hok7 (Nat.le_of_ble_eq_true rfl) ⟨Nat.le_of_ble_eq_true rfl, Nat.le_of_ble_eq_true rfl⟩) (fun E9 S9 ok9 q9 => JX_out C ok9 q9 (by decide) (by decide)) (fun rv13 S11 hr14 hok12 h10 => ?_)
    have h10 := h10 hr14 hok12
    refine J_ior (pc := 34) C dX3_spread_34 ?_
    refine J_istore (pc := 35) C dX3_spread_35 (by decide) ?_
    refine J_aload_n (pc := 37) C dX3_spread_37 rfl ?_
    refine J_iload (pc := 38) C dX3_spread_38 rfl ?_
    refine J_c1 (pc := 40) C (J_rV (pc := 40) C (h10 rx4) dX3_spread_40 rfl rfl 2 rfl rfl (cwV 1 C.1.2.2.2.2 gX3_spread_X3_has rfl rfl rfl (by decide +kernel) ⟨Nat.le_of_ble_eq_true rfl, Nat.le_of_ble_eq_true rfl⟩) hok12 (Nat.le_of_ble_eq_true rfl) ⟨Nat.le_of_ble_eq_true rfl, Nat.le_of_ble_eq_true rfl⟩) (fun E9 S9 ok9 q9 => JX_out C ok9 q9 (by decide) (by decide)) (fun rv18 S16 hr19 hok17 h15 => ?_)
    have h15 := h15 hr19 hok17
    obtain ⟨h20, h21⟩ := h15
    refine J_if_eq (pc := 43) (tgt := 67) C dX3_spread_43 (by decide) hr19 (fun cb => ?_) (fun cb => ?_)
    · have h20 := h20 cb
      refine J_iinc (pc := 67) C dX3_spread_67 rfl (by decide) ?_
      refine J_goto (pc := 70) (tgt := 5) C dX3_spread_70 (by decide) ?_
      obtain ⟨o22, h23⟩ := h20
      exact J_sub (L1 := [some (.ref (G.2.2 2)), none, some (iV x2), some (iV x3), some (iV (x4 + 1)), none]) ⟨rfl, ⟨rfl, ⟨rfl, ⟨rfl, trivial⟩⟩⟩⟩ (h23 rx2 rx3 o22 p l e s m args below meth c G A C hok17)
    · have h21 := h21 cb
      refine J_iload (pc := 46) C dX3_spread_46 rfl ?_
      refine J_iload_n (pc := 48) C dX3_spread_48 rfl ?_
      refine J_iand (pc := 49) C dX3_spread_49 ?_
      refine J_iload (pc := 50) C dX3_spread_50 rfl ?_
      obtain ⟨h24, h25⟩ := h21
      refine J_icmp_ne (pc := 52) (tgt := 67) C dX3_spread_52 (by decide) (r_zand _ _) (r_zor _ _) (fun cb => ?_) (fun cb => ?_)
      · have h24 := h24 cb
        refine J_iinc (pc := 67) C dX3_spread_67 rfl (by decide) ?_
        refine J_goto (pc := 70) (tgt := 5) C dX3_spread_70 (by decide) ?_
        obtain ⟨o26, h27⟩ := h24
        exact J_sub (L1 := [some (.ref (G.2.2 2)), none, some (iV x2), some (iV x3), some (iV (x4 + 1)), none]) ⟨rfl, ⟨rfl, ⟨rfl, ⟨rfl, trivial⟩⟩⟩⟩ (h27 rx2 rx3 o26 p l e s m args below meth c G A C hok17)
      · have h25 := h25 cb
        refine J_iload (pc := 55) C dX3_spread_55 rfl ?_
        refine J_iload_n (pc := 57) C dX3_spread_57 rfl ?_
        refine J_iand (pc := 58) C dX3_spread_58 ?_
        obtain ⟨h28, h29⟩ := h25
        refine J_if_eq (pc := 59) (tgt := 67) C dX3_spread_59 (by decide) (r_zand _ _) (fun cb => ?_) (fun cb => ?_)
        · have h28 := h28 cb
          refine J_iinc (pc := 67) C dX3_spread_67 rfl (by decide) ?_
          refine J_goto (pc := 70) (tgt := 5) C dX3_spread_70 (by decide) ?_
          obtain ⟨o30, h31⟩ := h28
          exact J_sub (L1 := [some (.ref (G.2.2 2)), none, some (iV x2), some (iV x3), some (iV (x4 + 1)), none]) ⟨rfl, ⟨rfl, ⟨rfl, ⟨rfl, trivial⟩⟩⟩⟩ (h31 rx2 rx3 o30 p l e s m args below meth c G A C hok17)
        · have h29 := h29 cb
          refine J_iload_n (pc := 62) C dX3_spread_62 rfl ?_
          refine J_iload (pc := 63) C dX3_spread_63 rfl ?_
          refine J_ior (pc := 65) C dX3_spread_65 ?_
          refine J_istore_n (pc := 66) C dX3_spread_66 (by decide) ?_
          refine J_iinc (pc := 67) C dX3_spread_67 rfl (by decide) ?_
          refine J_goto (pc := 70) (tgt := 5) C dX3_spread_70 (by decide) ?_
          obtain ⟨o32, h33⟩ := h29
          exact J_sub (L1 := [some (.ref (G.2.2 2)), none, some (iV x2), some (iV (zor x3 (zor rv8 rv13))), some (iV (x4 + 1)), none]) ⟨rfl, ⟨rfl, ⟨rfl, ⟨rfl, trivial⟩⟩⟩⟩ (h33 rx2 (r_zor _ _) o32 p l e s m args below meth c G A C hok17)
