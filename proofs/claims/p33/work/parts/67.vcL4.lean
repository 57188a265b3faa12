def rmL_step : Room := { frames := 11, cells := 16, slots := 96, locals := 241 }
theorem mL_step_c104 : Cond.constant RL 104 (1000003) ∈ wsL_step := by decide +kernel
def M_L_step (a0 a1 a2 : Int) (S : St) (Qr : Int → St → Prop) (Qx : String → St → Prop) : Prop := r32 a0 → r32 a1 → r32 a2 → MM 1 wL okL yL_step wsL_step rmL_step (fun G => [.ref (G.2.2 0), .ref (G.2.2 70), .ref (G.2.2 71), iV a0, iV a1, iV a2]) S Qr Qx
def R_L_step_18 (x3 x4 x5 x6 : Int) (S : St) (Qr : Int → St → Prop) (Qx : String → St → Prop) : Prop := r32 x3 → r32 x4 → r32 x5 → r32 x6 → RR 1 wL okL wsL_step rmL_step cL_step 19 RL (some .boolean) [] 0 0 (fun G => [some (.ref (G.2.2 0)), some (.ref (G.2.2 70)), some (.ref (G.2.2 71)), some (iV x3), some (iV x4), some (iV x5), some (iV x6), none, none, none, none, none, none, none, none, none, none, none, none]) (fun G => []) 18 S Qr Qx
def R_L_step_39 (x3 x5 x6 x7 : Int) (S : St) (Qr : Int → St → Prop) (Qx : String → St → Prop) : Prop := r32 x3 → r32 x5 → r32 x6 → r32 x7 → RR 1 wL okL wsL_step rmL_step cL_step 19 RL (some .boolean) [] 0 0 (fun G => [some (.ref (G.2.2 0)), some (.ref (G.2.2 70)), some (.ref (G.2.2 71)), some (iV x3), none, some (iV x5), some (iV x6), some (iV x7), none, none, none, none, none, none, none, none, none, none, none]) (fun G => []) 39 S Qr Qx
def R_L_step_57 (x3 x5 x6 x7 x8 : Int) (S : St) (Qr : Int → St → Prop) (Qx : String → St → Prop) : Prop := r32 x3 → r32 x5 → r32 x6 → r32 x7 → r32 x8 → RR 1 wL okL wsL_step rmL_step cL_step 19 RL (some .boolean) [] 0 0 (fun G => [some (.ref (G.2.2 0)), some (.ref (G.2.2 70)), some (.ref (G.2.2 71)), some (iV x3), none, some (iV x5), some (iV x6), some (iV x7), some (iV x8), none, none, none, none, none, none, none, none, none, none]) (fun G => []) 57 S Qr Qx
def R_L_step_95 (x5 x6 x7 x8 x9 x10 s0 : Int) (S : St) (Qr : Int → St → Prop) (Qx : String → St → Prop) : Prop := r32 x5 → r32 x6 → r32 x7 → r32 x8 → r32 x9 → r32 x10 → r32 s0 → RR 1 wL okL wsL_step rmL_step cL_step 19 RL (some .boolean) [] 0 0 (fun G => [some (.ref (G.2.2 0)), some (.ref (G.2.2 70)), some (.ref (G.2.2 71)), none, none, some (iV x5), some (iV x6), some (iV x7), some (iV x8), some (iV x9), some (iV x10), none, none, none, none, none, none, none, none]) (fun G => [iV s0]) 95 S Qr Qx
def R_L_step_168 (x9 x10 : Int) (S : St) (Qr : Int → St → Prop) (Qx : String → St → Prop) : Prop := r32 x9 → r32 x10 → RR 1 wL okL wsL_step rmL_step cL_step 19 RL (some .boolean) [] 0 0 (fun G => [some (.ref (G.2.2 0)), some (.ref (G.2.2 70)), none, none, none, none, none, none, none, some (iV x9), some (iV x10), none, none, none, none, none, none, none, none]) (fun G => []) 168 S Qr Qx
def R_L_step_269 (x5 x6 x7 : Int) (S : St) (Qr : Int → St → Prop) (Qx : String → St → Prop) : Prop := r32 x5 → r32 x6 → r32 x7 → RR 1 wL okL wsL_step rmL_step cL_step 19 RL (some .boolean) [] 0 0 (fun G => [some (.ref (G.2.2 0)), some (.ref (G.2.2 70)), some (.ref (G.2.2 71)), none, none, some (iV x5), some (iV x6), some (iV x7), none, none, none, none, none, none, none, none, none, none, none]) (fun G => []) 269 S Qr Qx
def R_L_step_356 (x8 : Int) (S : St) (Qr : Int → St → Prop) (Qx : String → St → Prop) : Prop := r32 x8 → RR 1 wL okL wsL_step rmL_step cL_step 19 RL (some .boolean) [] 0 0 (fun G => [some (.ref (G.2.2 0)), none, none, none, none, none, none, none, some (iV x8), none, none, none, none, none, none, none, none, none, none]) (fun G => []) 356 S Qr Qx
def R_L_step_442 (x5 x6 : Int) (S : St) (Qr : Int → St → Prop) (Qx : String → St → Prop) : Prop := r32 x5 → r32 x6 → RR 1 wL okL wsL_step rmL_step cL_step 19 RL (some .boolean) [] 0 0 (fun G => [some (.ref (G.2.2 0)), none, none, none, none, some (iV x5), some (iV x6), none, none, none, none, none, none, none, none, none, none, none, none]) (fun G => []) 442 S Qr Qx
def R_L_step_513 (x6 x9 x10 : Int) (S : St) (Qr : Int → St → Prop) (Qx : String → St → Prop) : Prop := r32 x6 → r32 x9 → r32 x10 → RR 1 wL okL wsL_step rmL_step cL_step 19 RL (some .boolean) [] 0 0 (fun G => [some (.ref (G.2.2 0)), none, none, none, none, none, some (iV x6), none, none, some (iV x9), some (iV x10), none, none, none, none, none, none, none, none]) (fun G => []) 513 S Qr Qx
def R_L_step_553 (x6 x7 x9 x10 : Int) (S : St) (Qr : Int → St → Prop) (Qx : String → St → Prop) : Prop := r32 x6 → r32 x7 → r32 x9 → r32 x10 → RR 1 wL okL wsL_step rmL_step cL_step 19 RL (some .boolean) [] 0 0 (fun G => [some (.ref (G.2.2 0)), some (.ref (G.2.2 70)), some (.ref (G.2.2 71)), none, none, none, some (iV x6), some (iV x7), none, some (iV x9), some (iV x10), none, none, none, none, none, none, none, none]) (fun G => []) 553 S Qr Qx
def R_L_step_584 (x6 x8 x9 x10 : Int) (S : St) (Qr : Int → St → Prop) (Qx : String → St → Prop) : Prop := r32 x6 → r32 x8 → r32 x9 → r32 x10 → RR 1 wL okL wsL_step rmL_step cL_step 19 RL (some .boolean) [] 0 0 (fun G => [some (.ref (G.2.2 0)), some (.ref (G.2.2 70)), some (.ref (G.2.2 71)), none, none, none, some (iV x6), none, some (iV x8), some (iV x9), some (iV x10), none, none, none, none, none, none, none, none]) (fun G => []) 584 S Qr Qx
def R_L_step_615 (S : St) (Qr : Int → St → Prop) (Qx : String → St → Prop) : Prop := RR 1 wL okL wsL_step rmL_step cL_step 19 RL (some .boolean) [] 0 0 (fun G => [some (.ref (G.2.2 0)), some (.ref (G.2.2 70)), none, none, none, none, none, none, none, none, none, none, none, none, none, none, none, none, none]) (fun G => []) 615 S Qr Qx
def R_L_step_678 (x5 x8 : Int) (S : St) (Qr : Int → St → Prop) (Qx : String → St → Prop) : Prop := r32 x5 → r32 x8 → RR 1 wL okL wsL_step rmL_step cL_step 19 RL (some .boolean) [] 0 0 (fun G => [some (.ref (G.2.2 0)), none, none, none, none, some (iV x5), none, none, some (iV x8), none, none, none, none, none, none, none, none, none, none]) (fun G => []) 678 S Qr Qx
def R_L_step_754 (x5 x6 : Int) (S : St) (Qr : Int → St → Prop) (Qx : String → St → Prop) : Prop := r32 x5 → r32 x6 → RR 1 wL okL wsL_step rmL_step cL_step 19 RL (some .boolean) [] 0 0 (fun G => [some (.ref (G.2.2 0)), none, none, none, none, some (iV x5), some (iV x6), none, none, none, none, none, none, none, none, none, none, none, none]) (fun G => []) 754 S Qr Qx
def R_L_step_840 (x5 : Int) (S : St) (Qr : Int → St → Prop) (Qx : String → St → Prop) : Prop := r32 x5 → RR 1 wL okL wsL_step rmL_step cL_step 19 RL (some .boolean) [] 0 0 (fun G => [some (.ref (G.2.2 0)), none, none, none, none, some (iV x5), none, none, none, none, none, none, none, none, none, none, none, none, none]) (fun G => []) 840 S Qr Qx
def R_L_step_851 (x5 : Int) (S : St) (Qr : Int → St → Prop) (Qx : String → St → Prop) : Prop := r32 x5 → RR 1 wL okL wsL_step rmL_step cL_step 19 RL (some .boolean) [] 0 0 (fun G => [some (.ref (G.2.2 0)), some (.ref (G.2.2 70)), none, none, none, some (iV x5), none, none, none, none, none, none, none, none, none, none, none, none, none]) (fun G => []) 851 S Qr Qx
set_option maxRecDepth 100000 in
set_option maxHeartbeats 4000000 in
theorem vc_L_step {a0 a1 a2 : Int} {S : St} {Qr : Int → St → Prop} {Qx : String → St → Prop} (h : r32 a0 → r32 a1 → r32 a2 → okL S → (((S 70 0) ≠ 0 → (0 < (S 70 0) ∧ (r32 (Int.tmod a1 (S 70 0)) ∧ R_L_step_18 a0 a1 a2 (Int.tmod a1 (S 70 0)) S Qr Qx))) ∧ ((S 70 0) = 0 → R_L_step_18 a0 a1 a2 0 S Qr Qx))) : M_L_step a0 a1 a2 S Qr Qx := by
  intro ra0 ra1 ra2
  refine MM_of adL (by decide +kernel) rfl (Lf := fun G => [some (.ref (G.2.2 0)), some (.ref (G.2.2 70)), some (.ref (G.2.2 71)), some (iV a0), some (iV a1), some (iV a2), none, none, none, none, none, none, none, none, none, none, none, none, none]) (fun G => by show _ ≤ _; exact Nat.le_of_ble_eq_true rfl) (fun G => rfl) ?_
  intro p l e s m args below meth c G A C hok
  have h := h ra0 ra1 ra2 hok
  replace C : Cx wL cL_step 19 RL wsL_step (some .boolean) [] p l s m args meth c G A := C
  show J wL 19 rmL_step p l e s m args below meth c G A (QQ 1 wL okL G Qr Qx A below args s rmL_step.cells rmL_step.slots) 0 0 S [some (.ref (G.2.2 0)), some (.ref (G.2.2 70)), some (.ref (G.2.2 71)), some (iV a0), some (iV a1), some (iV a2), none, none, none, none, none, none, none, none, none, none, none, none, none] [] 0
  refine J_aload_n (pc := 0) C dL_step_0 rfl ?_
  refine J_iconst (pc := 1) C dL_step_1 ?_
  refine J_iald (pc := 2) C dL_step_2 67 70 (wL_70 G S) (by decide) (by decide) ?_
  obtain ⟨h1, h2⟩ := h
  refine J_if_ne (pc := 3) (tgt := 10) C dL_step_3 (by decide) (hok 70 0) (fun cb => ?_) (fun cb => ?_)
  · have h1 := h1 cb
    refine J_iload (pc := 10) C dL_step_10 rfl ?_
    refine J_aload_n (pc := 12) C dL_step_12 rfl ?_
    refine J_iconst (pc := 13) C dL_step_13 ?_
    refine J_iald (pc := 14) C dL_step_14 67 70 (wL_70 G S) (by decide) (by decide) ?_
    obtain ⟨o3, h4⟩ := h1
    refine J_irem (pc := 15) C dL_step_15 ra1 (hok 70 0) o3 ?_
    refine J_istore (pc := 16) C dL_step_16 (by decide) ?_
    obtain ⟨o5, h6⟩ := h4
    exact J_sub (L1 := [some (.ref (G.2.2 0)), some (.ref (G.2.2 70)), some (.ref (G.2.2 71)), some (iV a0), some (iV a1), some (iV a2), some (iV (Int.tmod a1 (S 70 0))), none, none, none, none, none, none, none, none, none, none, none, none]) ⟨rfl, ⟨rfl, ⟨rfl, ⟨rfl, ⟨rfl, ⟨rfl, ⟨rfl, trivial⟩⟩⟩⟩⟩⟩⟩ (h6 ra0 ra1 ra2 o5 p l e s m args below meth c G A C hok)
  · have h2 := h2 cb
    refine J_iconst (pc := 6) C dL_step_6 ?_
    refine J_goto (pc := 7) (tgt := 16) C dL_step_7 (by decide) ?_
    refine J_istore (pc := 16) C dL_step_16 (by decide) ?_
    exact J_sub (L1 := [some (.ref (G.2.2 0)), some (.ref (G.2.2 70)), some (.ref (G.2.2 71)), some (iV a0), some (iV a1), some (iV a2), some (iV 0), none, none, none, none, none, none, none, none, none, none, none, none]) ⟨rfl, ⟨rfl, ⟨rfl, ⟨rfl, ⟨rfl, ⟨rfl, ⟨rfl, trivial⟩⟩⟩⟩⟩⟩⟩ (h2 ra0 ra1 ra2 (by decide) p l e s m args below meth c G A C hok)
set_option maxRecDepth 100000 in
set_option maxHeartbeats 4000000 in
theorem vc_L_step_18 {x3 x4 x5 x6 : Int} {S : St} {Qr : Int → St → Prop} {Qx : String → St → Prop} (h : r32 x3 → r32 x4 → r32 x5 → r32 x6 → okL S → (((S 70 0) ≠ 0 → (r32 (Int.tdiv x4 16) ∧ (0 < (S 70 0) ∧ (r32 (Int.tmod (Int.tdiv x4 16) (S 70 0)) ∧ R_L_step_39 x3 x5 x6 (Int.tmod (Int.tdiv x4 16) (S 70 0)) S Qr Qx)))) ∧ ((S 70 0) = 0 → R_L_step_39 x3 x5 x6 0 S Qr Qx))) : R_L_step_18 x3 x4 x5 x6 S Qr Qx := by
  intro rx3 rx4 rx5 rx6
  intro p l e s m args below meth c G A C hok
  have h := h rx3 rx4 rx5 rx6 hok
  replace C : Cx wL cL_step 19 RL wsL_step (some .boolean) [] p l s m args meth c G A := C
  show J wL 19 rmL_step p l e s m args below meth c G A (QQ 1 wL okL G Qr Qx A below args s rmL_step.cells rmL_step.slots) 0 0 S [some (.ref (G.2.2 0)), some (.ref (G.2.2 70)), some (.ref (G.2.2 71)), some (iV x3), some (iV x4), some (iV x5), some (iV x6), none, none, none, none, none, none, none, none, none, none, none, none] [] 18
  refine J_aload_n (pc := 18) C dL_step_18 rfl ?_
  refine J_iconst (pc := 19) C dL_step_19 ?_
  refine J_iald (pc := 20) C dL_step_20 67 70 (wL_70 G S) (by decide) (by decide) ?_
  obtain ⟨h1, h2⟩ := h
  refine J_if_ne (pc := 21) (tgt := 28) C dL_step_21 (by decide) (hok 70 0) (fun cb => ?_) (fun cb => ?_)
  · have h1 := h1 cb
    refine J_iload (pc := 28) C dL_step_28 rfl ?_
    refine J_bipush (pc := 30) C dL_step_30 (by decide) ?_
    refine J_idiv (pc := 32) C dL_step_32 rx4 (by decide) (by decide) ?_
    refine J_aload_n (pc := 33) C dL_step_33 rfl ?_
    refine J_iconst (pc := 34) C dL_step_34 ?_
    refine J_iald (pc := 35) C dL_step_35 67 70 (wL_70 G S) (by decide) (by decide) ?_
    obtain ⟨o3, h4⟩ := h1
    obtain ⟨o5, h6⟩ := h4
    refine J_irem (pc := 36) C dL_step_36 o3 (hok 70 0) o5 ?_
    refine J_istore (pc := 37) C dL_step_37 (by decide) ?_
    obtain ⟨o7, h8⟩ := h6
    exact J_sub (L1 := [some (.ref (G.2.2 0)), some (.ref (G.2.2 70)), some (.ref (G.2.2 71)), some (iV x3), none, some (iV x5), some (iV x6), some (iV (Int.tmod (Int.tdiv x4 16) (S 70 0))), none, none, none, none, none, none, none, none, none, none, none]) ⟨rfl, ⟨rfl, ⟨rfl, ⟨rfl, ⟨rfl, ⟨rfl, ⟨rfl, trivial⟩⟩⟩⟩⟩⟩⟩ (h8 rx3 rx5 rx6 o7 p l e s m args below meth c G A C hok)
  · have h2 := h2 cb
    refine J_iconst (pc := 24) C dL_step_24 ?_
    refine J_goto (pc := 25) (tgt := 37) C dL_step_25 (by decide) ?_
    refine J_istore (pc := 37) C dL_step_37 (by decide) ?_
    exact J_sub (L1 := [some (.ref (G.2.2 0)), some (.ref (G.2.2 70)), some (.ref (G.2.2 71)), some (iV x3), none, some (iV x5), some (iV x6), some (iV 0), none, none, none, none, none, none, none, none, none, none, none]) ⟨rfl, ⟨rfl, ⟨rfl, ⟨rfl, ⟨rfl, ⟨rfl, ⟨rfl, trivial⟩⟩⟩⟩⟩⟩⟩ (h2 rx3 rx5 rx6 (by decide) p l e s m args below meth c G A C hok)
set_option maxRecDepth 100000 in
set_option maxHeartbeats 4000000 in
theorem vc_L_step_39 {x3 x5 x6 x7 : Int} {S : St} {Qr : Int → St → Prop} {Qx : String → St → Prop} (h : r32 x3 → r32 x5 → r32 x6 → r32 x7 → okL S → (((S 70 1) ≠ 0 → (0 < (S 70 1) ∧ (r32 (Int.tmod x5 (S 70 1)) ∧ R_L_step_57 x3 x5 x6 x7 (Int.tmod x5 (S 70 1)) S Qr Qx))) ∧ ((S 70 1) = 0 → R_L_step_57 x3 x5 x6 x7 0 S Qr Qx))) : R_L_step_39 x3 x5 x6 x7 S Qr Qx := by
  intro rx3 rx5 rx6 rx7
  intro p l e s m args below meth c G A C hok
  have h := h rx3 rx5 rx6 rx7 hok
  replace C : Cx wL cL_step 19 RL wsL_step (some .boolean) [] p l s m args meth c G A := C
  show J wL 19 rmL_step p l e s m args below meth c G A (QQ 1 wL okL G Qr Qx A below args s rmL_step.cells rmL_step.slots) 0 0 S [some (.ref (G.2.2 0)), some (.ref (G.2.2 70)), some (.ref (G.2.2 71)), some (iV x3), none, some (iV x5), some (iV x6), some (iV x7), none, none, none, none, none, none, none, none, none, none, none] [] 39
  refine J_aload_n (pc := 39) C dL_step_39 rfl ?_
  refine J_iconst (pc := 40) C dL_step_40 ?_
  refine J_iald (pc := 41) C dL_step_41 67 70 (wL_70 G S) (by decide) (by decide) ?_
  obtain ⟨h1, h2⟩ := h
  refine J_if_ne (pc := 42) (tgt := 49) C dL_step_42 (by decide) (hok 70 1) (fun cb => ?_) (fun cb => ?_)
  · have h1 := h1 cb
    refine J_iload (pc := 49) C dL_step_49 rfl ?_
    refine J_aload_n (pc := 51) C dL_step_51 rfl ?_
    refine J_iconst (pc := 52) C dL_step_52 ?_
    refine J_iald (pc := 53) C dL_step_53 67 70 (wL_70 G S) (by decide) (by decide) ?_
    obtain ⟨o3, h4⟩ := h1
    refine J_irem (pc := 54) C dL_step_54 rx5 (hok 70 1) o3 ?_
    refine J_istore (pc := 55) C dL_step_55 (by decide) ?_
    obtain ⟨o5, h6⟩ := h4
    exact J_sub (L1 := [some (.ref (G.2.2 0)), some (.ref (G.2.2 70)), some (.ref (G.2.2 71)), some (iV x3), none, some (iV x5), some (iV x6), some (iV x7), some (iV (Int.tmod x5 (S 70 1))), none, none, none, none, none, none, none, none, none, none]) ⟨rfl, ⟨rfl, ⟨rfl, ⟨rfl, ⟨rfl, ⟨rfl, ⟨rfl, ⟨rfl, trivial⟩⟩⟩⟩⟩⟩⟩⟩ (h6 rx3 rx5 rx6 rx7 o5 p l e s m args below meth c G A C hok)
  · have h2 := h2 cb
    refine J_iconst (pc := 45) C dL_step_45 ?_
    refine J_goto (pc := 46) (tgt := 55) C dL_step_46 (by decide) ?_
    refine J_istore (pc := 55) C dL_step_55 (by decide) ?_
    exact J_sub (L1 := [some (.ref (G.2.2 0)), some (.ref (G.2.2 70)), some (.ref (G.2.2 71)), some (iV x3), none, some (iV x5), some (iV x6), some (iV x7), some (iV 0), none, none, none, none, none, none, none, none, none, none]) ⟨rfl, ⟨rfl, ⟨rfl, ⟨rfl, ⟨rfl, ⟨rfl, ⟨rfl, ⟨rfl, trivial⟩⟩⟩⟩⟩⟩⟩⟩ (h2 rx3 rx5 rx6 rx7 (by decide) p l e s m args below meth c G A C hok)
set_option maxRecDepth 100000 in
set_option maxHeartbeats 4000000 in
theorem vc_L_step_57 {x3 x5 x6 x7 x8 : Int} {S : St} {Qr : Int → St → Prop} {Qx : String → St → Prop} (h : r32 x3 → r32 x5 → r32 x6 → r32 x7 → r32 x8 → okL S → (r32 (Int.tdiv x5 101) ∧ ((3 ≤ (S 70 0) → (r32 ((Int.tmod x5 101) - 50) ∧ (r32 ((Int.tmod (Int.tdiv x5 101) 101) - 50) ∧ (r32 (Int.tmod x3 16) ∧ R_L_step_95 x5 x6 x7 x8 ((Int.tmod x5 101) - 50) ((Int.tmod (Int.tdiv x5 101) 101) - 50) (Int.tmod x3 16) S Qr Qx)))) ∧ ((S 70 0) < 3 → (r32 ((Int.tmod x5 101) - 50) ∧ (r32 ((Int.tmod (Int.tdiv x5 101) 101) - 50) ∧ R_L_step_95 x5 x6 x7 x8 ((Int.tmod x5 101) - 50) ((Int.tmod (Int.tdiv x5 101) 101) - 50) 0 S Qr Qx)))))) : R_L_step_57 x3 x5 x6 x7 x8 S Qr Qx := by
  intro rx3 rx5 rx6 rx7 rx8
  intro p l e s m args below meth c G A C hok
  have h := h rx3 rx5 rx6 rx7 rx8 hok
  replace C : Cx wL cL_step 19 RL wsL_step (some .boolean) [] p l s m args meth c G A := C
  show J wL 19 rmL_step p l e s m args below meth c G A (QQ 1 wL okL G Qr Qx A below args s rmL_step.cells rmL_step.slots) 0 0 S [some (.ref (G.2.2 0)), some (.ref (G.2.2 70)), some (.ref (G.2.2 71)), some (iV x3), none, some (iV x5), some (iV x6), some (iV x7), some (iV x8), none, none, none, none, none, none, none, none, none, none] [] 57
  refine J_iload (pc := 57) C dL_step_57 rfl ?_
  refine J_bipush (pc := 59) C dL_step_59 (by decide) ?_
  refine J_irem (pc := 61) C dL_step_61 rx5 (by decide) (by decide) ?_
  refine J_bipush (pc := 62) C dL_step_62 (by decide) ?_
  refine J_isub (pc := 64) C dL_step_64 ?_
  refine J_istore (pc := 65) C dL_step_65 (by decide) ?_
  refine J_iload (pc := 67) C dL_step_67 rfl ?_
  refine J_bipush (pc := 69) C dL_step_69 (by decide) ?_
  refine J_idiv (pc := 71) C dL_step_71 rx5 (by decide) (by decide) ?_
  refine J_bipush (pc := 72) C dL_step_72 (by decide) ?_
  obtain ⟨o1, h2⟩ := h
  refine J_irem (pc := 74) C dL_step_74 o1 (by decide) (by decide) ?_
  refine J_bipush (pc := 75) C dL_step_75 (by decide) ?_
  refine J_isub (pc := 77) C dL_step_77 ?_
  refine J_istore (pc := 78) C dL_step_78 (by decide) ?_
  refine J_aload_n (pc := 80) C dL_step_80 rfl ?_
  refine J_iconst (pc := 81) C dL_step_81 ?_
  refine J_iald (pc := 82) C dL_step_82 67 70 (wL_70 G S) (by decide) (by decide) ?_
  refine J_iconst (pc := 83) C dL_step_83 ?_
  obtain ⟨h3, h4⟩ := h2
  refine J_icmp_ge (pc := 84) (tgt := 91) C dL_step_84 (by decide) (hok 70 0) (by decide) (fun cb => ?_) (fun cb => ?_)
  · have h3 := h3 cb
    refine J_iload_n (pc := 91) C dL_step_91 rfl ?_
    refine J_bipush (pc := 92) C dL_step_92 (by decide) ?_
    refine J_irem (pc := 94) C dL_step_94 rx3 (by decide) (by decide) ?_
    obtain ⟨o5, h6⟩ := h3
    obtain ⟨o7, h8⟩ := h6
    obtain ⟨o9, h10⟩ := h8
    exact J_sub (L1 := [some (.ref (G.2.2 0)), some (.ref (G.2.2 70)), some (.ref (G.2.2 71)), none, none, some (iV x5), some (iV x6), some (iV x7), some (iV x8), some (iV ((Int.tmod x5 101) - 50)), some (iV ((Int.tmod (Int.tdiv x5 101) 101) - 50)), none, none, none, none, none, none, none, none]) ⟨rfl, ⟨rfl, ⟨rfl, ⟨rfl, ⟨rfl, ⟨rfl, ⟨rfl, ⟨rfl, ⟨rfl, trivial⟩⟩⟩⟩⟩⟩⟩⟩⟩ (h10 rx5 rx6 rx7 rx8 o5 o7 o9 p l e s m args below meth c G A C hok)
  · have h4 := h4 cb
    refine J_iconst (pc := 87) C dL_step_87 ?_
    refine J_goto (pc := 88) (tgt := 95) C dL_step_88 (by decide) ?_
    obtain ⟨o11, h12⟩ := h4
    obtain ⟨o13, h14⟩ := h12
    exact J_sub (L1 := [some (.ref (G.2.2 0)), some (.ref (G.2.2 70)), some (.ref (G.2.2 71)), none, none, some (iV x5), some (iV x6), some (iV x7), some (iV x8), some (iV ((Int.tmod x5 101) - 50)), some (iV ((Int.tmod (Int.tdiv x5 101) 101) - 50)), none, none, none, none, none, none, none, none]) ⟨rfl, ⟨rfl, ⟨rfl, ⟨rfl, ⟨rfl, ⟨rfl, ⟨rfl, ⟨rfl, ⟨rfl, trivial⟩⟩⟩⟩⟩⟩⟩⟩⟩ (h14 rx5 rx6 rx7 rx8 o11 o13 (by decide) p l e s m args below meth c G A C hok)
set_option maxRecDepth 100000 in
set_option maxHeartbeats 4000000 in
theorem vc_L_step_95 {x5 x6 x7 x8 x9 x10 s0 : Int} {S : St} {Qr : Int → St → Prop} {Qx : String → St → Prop} (h : r32 x5 → r32 x6 → r32 x7 → r32 x8 → r32 x9 → r32 x10 → r32 s0 → okL S → ((s0 = 0 → R_L_step_168 x9 x10 S Qr Qx) ∧ (s0 = 1 → R_L_step_168 x9 x10 S Qr Qx) ∧ (s0 = 2 → R_L_step_269 x5 x6 x7 S Qr Qx) ∧ (s0 = 3 → R_L_step_269 x5 x6 x7 S Qr Qx) ∧ (s0 = 4 → R_L_step_269 x5 x6 x7 S Qr Qx) ∧ (s0 = 5 → R_L_step_269 x5 x6 x7 S Qr Qx) ∧ (s0 = 6 → R_L_step_356 x8 S Qr Qx) ∧ (s0 = 7 → R_L_step_442 x5 x6 S Qr Qx) ∧ (s0 = 8 → R_L_step_513 x6 x9 x10 S Qr Qx) ∧ (s0 = 9 → R_L_step_553 x6 x7 x9 x10 S Qr Qx) ∧ (s0 = 10 → R_L_step_584 x6 x8 x9 x10 S Qr Qx) ∧ (s0 = 11 → R_L_step_615 S Qr Qx) ∧ (s0 = 12 → R_L_step_678 x5 x8 S Qr Qx) ∧ (s0 = 13 → R_L_step_754 x5 x6 S Qr Qx) ∧ (s0 = 14 → R_L_step_840 x5 S Qr Qx) ∧ ((s0 < 0 ∨ 14 < s0) → R_L_step_851 x5 S Qr Qx))) : R_L_step_95 x5 x6 x7 x8 x9 x10 s0 S Qr Qx := by
  intro rx5 rx6 rx7 rx8 rx9 rx10 rs0
  intro p l e s m args below meth c G A C hok
  have h := h rx5 rx6 rx7 rx8 rx9 rx10 rs0 hok
  replace C : Cx wL cL_step 19 RL wsL_step (some .boolean) [] p l s m args meth c G A := C
  show J wL 19 rmL_step p l e s m args below meth c G A (QQ 1 wL okL G Qr Qx A below args s rmL_step.cells rmL_step.slots) 0 0 S [some (.ref (G.2.2 0)), some (.ref (G.2.2 70)), some (.ref (G.2.2 71)), none, none, some (iV x5), some (iV x6), some (iV x7), some (iV x8), some (iV x9), some (iV x10), none, none, none, none, none, none, none, none] [iV s0] 95
  obtain ⟨h1, h2, h3, h4, h5, h6, h7, h8, h9, h10, h11, h12, h13, h14, h15, h16⟩ := h
  rcases (tab14 s0) with ct | ct | ct | ct | ct | ct | ct | ct | ct | ct | ct | ct | ct | ct | ct | ct
  · have h1 := h1 ct
    refine J_tabIn (pc := 95) (tgt := 168) C dL_step_95 ct (by decide) (by decide) (by decide) rfl (by decide) ?_
    exact J_sub (L1 := [some (.ref (G.2.2 0)), some (.ref (G.2.2 70)), none, none, none, none, none, none, none, some (iV x9), some (iV x10), none, none, none, none, none, none, none, none]) ⟨rfl, ⟨rfl, ⟨rfl, ⟨rfl, trivial⟩⟩⟩⟩ (h1 rx9 rx10 p l e s m args below meth c G A C hok)
  · have h2 := h2 ct
    refine J_tabIn (pc := 95) (tgt := 168) C dL_step_95 ct (by decide) (by decide) (by decide) rfl (by decide) ?_
    exact J_sub (L1 := [some (.ref (G.2.2 0)), some (.ref (G.2.2 70)), none, none, none, none, none, none, none, some (iV x9), some (iV x10), none, none, none, none, none, none, none, none]) ⟨rfl, ⟨rfl, ⟨rfl, ⟨rfl, trivial⟩⟩⟩⟩ (h2 rx9 rx10 p l e s m args below meth c G A C hok)
  · have h3 := h3 ct
    refine J_tabIn (pc := 95) (tgt := 269) C dL_step_95 ct (by decide) (by decide) (by decide) rfl (by decide) ?_
    exact J_sub (L1 := [some (.ref (G.2.2 0)), some (.ref (G.2.2 70)), some (.ref (G.2.2 71)), none, none, some (iV x5), some (iV x6), some (iV x7), none, none, none, none, none, none, none, none, none, none, none]) ⟨rfl, ⟨rfl, ⟨rfl, ⟨rfl, ⟨rfl, ⟨rfl, trivial⟩⟩⟩⟩⟩⟩ (h3 rx5 rx6 rx7 p l e s m args below meth c G A C hok)
  · have h4 := h4 ct
    refine J_tabIn (pc := 95) (tgt := 269) C dL_step_95 ct (by decide) (by decide) (by decide) rfl (by decide) ?_
    exact J_sub (L1 := [some (.ref (G.2.2 0)), some (.ref (G.2.2 70)), some (.ref (G.2.2 71)), none, none, some (iV x5), some (iV x6), some (iV x7), none, none, none, none, none, none, none, none, none, none, none]) ⟨rfl, ⟨rfl, ⟨rfl, ⟨rfl, ⟨rfl, ⟨rfl, trivial⟩⟩⟩⟩⟩⟩ (h4 rx5 rx6 rx7 p l e s m args below meth c G A C hok)
  · have h5 := h5 ct
    refine J_tabIn (pc := 95) (tgt := 269) C dL_step_95 ct (by decide) (by decide) (by decide) rfl (by decide) ?_
    exact J_sub (L1 := [some (.ref (G.2.2 0)), some (.ref (G.2.2 70)), some (.ref (G.2.2 71)), none, none, some (iV x5), some (iV x6), some (iV x7), none, none, none, none, none, none, none, none, none, none, none]) ⟨rfl, ⟨rfl, ⟨rfl, ⟨rfl, ⟨rfl, ⟨rfl, trivial⟩⟩⟩⟩⟩⟩ (h5 rx5 rx6 rx7 p l e s m args below meth c G A C hok)
  · have h6 := h6 ct
    refine J_tabIn (pc := 95) (tgt := 269) C dL_step_95 ct (by decide) (by decide) (by decide) rfl (by decide) ?_
    exact J_sub (L1 := [some (.ref (G.2.2 0)), some (.ref (G.2.2 70)), some (.ref (G.2.2 71)), none, none, some (iV x5), some (iV x6), some (iV x7), none, none, none, none, none, none, none, none, none, none, none]) ⟨rfl, ⟨rfl, ⟨rfl, ⟨rfl, ⟨rfl, ⟨rfl, trivial⟩⟩⟩⟩⟩⟩ (h6 rx5 rx6 rx7 p l e s m args below meth c G A C hok)
  · have h7 := h7 ct
    refine J_tabIn (pc := 95) (tgt := 356) C dL_step_95 ct (by decide) (by decide) (by decide) rfl (by decide) ?_
    exact J_sub (L1 := [some (.ref (G.2.2 0)), none, none, none, none, none, none, none, some (iV x8), none, none, none, none, none, none, none, none, none, none]) ⟨rfl, ⟨rfl, trivial⟩⟩ (h7 rx8 p l e s m args below meth c G A C hok)
  · have h8 := h8 ct
    refine J_tabIn (pc := 95) (tgt := 442) C dL_step_95 ct (by decide) (by decide) (by decide) rfl (by decide) ?_
    exact J_sub (L1 := [some (.ref (G.2.2 0)), none, none, none, none, some (iV x5), some (iV x6), none, none, none, none, none, none, none, none, none, none, none, none]) ⟨rfl, ⟨rfl, ⟨rfl, trivial⟩⟩⟩ (h8 rx5 rx6 p l e s m args below meth c G A C hok)
  · have h9 := h9 ct
    refine J_tabIn (pc := 95) (tgt := 513) C dL_step_95 ct (by decide) (by decide) (by decide) rfl (by decide) ?_
    exact J_sub (L1 := [some (.ref (G.2.2 0)), none, none, none, none, none, some (iV x6), none, none, some (iV x9), some (iV x10), none, none, none, none, none, none, none, none]) ⟨rfl, ⟨rfl, ⟨rfl, ⟨rfl, trivial⟩⟩⟩⟩ (h9 rx6 rx9 rx10 p l e s m args below meth c G A C hok)
  · have h10 := h10 ct
    refine J_tabIn (pc := 95) (tgt := 553) C dL_step_95 ct (by decide) (by decide) (by decide) rfl (by decide) ?_
    exact J_sub (L1 := [some (.ref (G.2.2 0)), some (.ref (G.2.2 70)), some (.ref (G.2.2 71)), none, none, none, some (iV x6), some (iV x7), none, some (iV x9), some (iV x10), none, none, none, none, none, none, none, none]) ⟨rfl, ⟨rfl, ⟨rfl, ⟨rfl, ⟨rfl, ⟨rfl, ⟨rfl, trivial⟩⟩⟩⟩⟩⟩⟩ (h10 rx6 rx7 rx9 rx10 p l e s m args below meth c G A C hok)
  · have h11 := h11 ct
    refine J_tabIn (pc := 95) (tgt := 584) C dL_step_95 ct (by decide) (by decide) (by decide) rfl (by decide) ?_
    exact J_sub (L1 := [some (.ref (G.2.2 0)), some (.ref (G.2.2 70)), some (.ref (G.2.2 71)), none, none, none, some (iV x6), none, some (iV x8), some (iV x9), some (iV x10), none, none, none, none, none, none, none, none]) ⟨rfl, ⟨rfl, ⟨rfl, ⟨rfl, ⟨rfl, ⟨rfl, ⟨rfl, trivial⟩⟩⟩⟩⟩⟩⟩ (h11 rx6 rx8 rx9 rx10 p l e s m args below meth c G A C hok)
  · have h12 := h12 ct
    refine J_tabIn (pc := 95) (tgt := 615) C dL_step_95 ct (by decide) (by decide) (by decide) rfl (by decide) ?_
    exact J_sub (L1 := [some (.ref (G.2.2 0)), some (.ref (G.2.2 70)), none, none, none, none, none, none, none, none, none, none, none, none, none, none, none, none, none]) ⟨rfl, ⟨rfl, trivial⟩⟩ (h12  p l e s m args below meth c G A C hok)
  · have h13 := h13 ct
    refine J_tabIn (pc := 95) (tgt := 678) C dL_step_95 ct (by decide) (by decide) (by decide) rfl (by decide) ?_
    exact J_sub (L1 := [some (.ref (G.2.2 0)), none, none, none, none, some (iV x5), none, none, some (iV x8), none, none, none, none, none, none, none, none, none, none]) ⟨rfl, ⟨rfl, ⟨rfl, trivial⟩⟩⟩ (h13 rx5 rx8 p l e s m args below meth c G A C hok)
  · have h14 := h14 ct
    refine J_tabIn (pc := 95) (tgt := 754) C dL_step_95 ct (by decide) (by decide) (by decide) rfl (by decide) ?_
    exact J_sub (L1 := [some (.ref (G.2.2 0)), none, none, none, none, some (iV x5), some (iV x6), none, none, none, none, none, none, none, none, none, none, none, none]) ⟨rfl, ⟨rfl, ⟨rfl, trivial⟩⟩⟩ (h14 rx5 rx6 p l e s m args below meth c G A C hok)
  · have h15 := h15 ct
    refine J_tabIn (pc := 95) (tgt := 840) C dL_step_95 ct (by decide) (by decide) (by decide) rfl (by decide) ?_
    exact J_sub (L1 := [some (.ref (G.2.2 0)), none, none, none, none, some (iV x5), none, none, none, none, none, none, none, none, none, none, none, none, none]) ⟨rfl, ⟨rfl, trivial⟩⟩ (h15 rx5 p l e s m args below meth c G A C hok)
  · have h16 := h16 ct
    refine J_tabOut (pc := 95) (tgt := 851) C dL_step_95 rs0 ct (by decide) ?_
    exact J_sub (L1 := [some (.ref (G.2.2 0)), some (.ref (G.2.2 70)), none, none, none, some (iV x5), none, none, none, none, none, none, none, none, none, none, none, none, none]) ⟨rfl, ⟨rfl, ⟨rfl, trivial⟩⟩⟩ (h16 rx5 p l e s m args below meth c G A C hok)
set_option maxRecDepth 100000 in
set_option maxHeartbeats 4000000 in
theorem vc_L_step_168 {x9 x10 : Int} {S : St} {Qr : Int → St → Prop} {Qx : String → St → Prop} (h : r32 x9 → r32 x10 → okL S → M_L_joints x9 x10 S (fun rv4 S2 => r32 rv4 → okL S2 → ((rv4 ≠ (-2) → (r32 ((S2 70 0) + 1) ∧ ((rv4 ≠ (-2) → (r32 (((S2 70 0) + 1) - 1) ∧ ((rv4 ≠ (((S2 70 0) + 1) - 1) → Qr 0 (up S2 70 0 ((S2 70 0) + 1))) ∧ (rv4 = (((S2 70 0) + 1) - 1) → M_X6_ofJoint rv4 0 (up S2 70 0 ((S2 70 0) + 1)) (fun rv20 S18 => r32 rv20 → okC S18 → ((rv20 ≠ x9 → Qr 0 (pu (up S2 70 0 ((S2 70 0) + 1)) S18)) ∧ (rv20 = x9 → M_X6_ofJoint rv4 1 (pu (up S2 70 0 ((S2 70 0) + 1)) S18) (fun rv27 S25 => r32 rv27 → okC S25 → ((rv27 ≠ x10 → Qr 0 (pu (pu (up S2 70 0 ((S2 70 0) + 1)) S18) S25)) ∧ (rv27 = x10 → M_X6_ofJoint rv4 2 (pu (pu (up S2 70 0 ((S2 70 0) + 1)) S18) S25) (fun rv34 S32 => r32 rv34 → okC S32 → ((rv34 ≠ 0 → Qr 0 (pu (pu (pu (up S2 70 0 ((S2 70 0) + 1)) S18) S25) S32)) ∧ (rv34 = 0 → Qr 1 (pu (pu (pu (up S2 70 0 ((S2 70 0) + 1)) S18) S25) S32)))) (fun _ _ => False)))) (fun _ _ => False)))) (fun _ _ => False))))) ∧ (rv4 = (-2) → ((((S2 70 0) + 1) ≠ 10 → Qr 0 (up S2 70 0 ((S2 70 0) + 1))) ∧ (((S2 70 0) + 1) = 10 → Qr 1 (up S2 70 0 ((S2 70 0) + 1)))))))) ∧ (rv4 = (-2) → (r32 ((S2 70 0) + 0) ∧ ((rv4 ≠ (-2) → (r32 (((S2 70 0) + 0) - 1) ∧ ((rv4 ≠ (((S2 70 0) + 0) - 1) → Qr 0 (up S2 70 0 ((S2 70 0) + 0))) ∧ (rv4 = (((S2 70 0) + 0) - 1) → M_X6_ofJoint rv4 0 (up S2 70 0 ((S2 70 0) + 0)) (fun rv52 S50 => r32 rv52 → okC S50 → ((rv52 ≠ x9 → Qr 0 (pu (up S2 70 0 ((S2 70 0) + 0)) S50)) ∧ (rv52 = x9 → M_X6_ofJoint rv4 1 (pu (up S2 70 0 ((S2 70 0) + 0)) S50) (fun rv59 S57 => r32 rv59 → okC S57 → ((rv59 ≠ x10 → Qr 0 (pu (pu (up S2 70 0 ((S2 70 0) + 0)) S50) S57)) ∧ (rv59 = x10 → M_X6_ofJoint rv4 2 (pu (pu (up S2 70 0 ((S2 70 0) + 0)) S50) S57) (fun rv66 S64 => r32 rv66 → okC S64 → ((rv66 ≠ 0 → Qr 0 (pu (pu (pu (up S2 70 0 ((S2 70 0) + 0)) S50) S57) S64)) ∧ (rv66 = 0 → Qr 1 (pu (pu (pu (up S2 70 0 ((S2 70 0) + 0)) S50) S57) S64)))) (fun _ _ => False)))) (fun _ _ => False)))) (fun _ _ => False))))) ∧ (rv4 = (-2) → ((((S2 70 0) + 0) ≠ 10 → Qr 0 (up S2 70 0 ((S2 70 0) + 0))) ∧ (((S2 70 0) + 0) = 10 → Qr 1 (up S2 70 0 ((S2 70 0) + 0)))))))))) (fun _ _ => False)) : R_L_step_168 x9 x10 S Qr Qx := by
  intro rx9 rx10
  intro p l e s m args below meth c G A C hok
  have h := h rx9 rx10 hok
  replace C : Cx wL cL_step 19 RL wsL_step (some .boolean) [] p l s m args meth c G A := C
  show J wL 19 rmL_step p l e s m args below meth c G A (QQ 1 wL okL G Qr Qx A below args s rmL_step.cells rmL_step.slots) 0 0 S [some (.ref (G.2.2 0)), some (.ref (G.2.2 70)), none, none, none, none, none, none, none, some (iV x9), some (iV x10), none, none, none, none, none, none, none, none] [] 168
  refine J_aload_n (pc := 168) C dL_step_168 rfl ?_
  refine J_iload (pc := 169) C dL_step_169 rfl ?_
  refine J_iload (pc := 171) C dL_step_171 rfl ?_
  refine J_c1 (pc := 173) C (J_rSX (pc := 173) C (h rx9 rx10) dL_step_173 rfl rfl (vx_cwSW 3 C.1.2.2.2.2 gL_step_L_joints rfl rfl rfl (by decide +kernel) ⟨Nat.le_of_ble_eq_true rfl, Nat.le_of_ble_eq_true rfl⟩) hok (Nat.le_of_ble_eq_true rfl) ⟨Nat.le_of_ble_eq_true rfl, Nat.le_of_ble_eq_true rfl⟩) (fun E9 S9 ok9 q9 => q9.elim) (fun rv4 S2 hr5 hok3 h1 => ?_)
  have h1 := h1 hr5 hok3
  refine J_istore (pc := 176) C dL_step_176 (by decide) ?_
  refine J_aload_n (pc := 178) C dL_step_178 rfl ?_
  refine J_iconst (pc := 179) C dL_step_179 ?_
  refine J_dup2 (pc := 180) C dL_step_180 rfl rfl ?_
  refine J_iald (pc := 181) C dL_step_181 67 70 (wL_70 G S2) (by decide) (by decide) ?_
  refine J_iload (pc := 182) C dL_step_182 rfl ?_
  refine J_bipush (pc := 184) C dL_step_184 (by decide) ?_
  obtain ⟨h6, h7⟩ := h1
  refine J_icmp_ne (pc := 186) (tgt := 193) C dL_step_186 (by decide) hr5 (by decide) (fun cb => ?_) (fun cb => ?_)
  · have h6 := h6 cb
    refine J_iconst (pc := 193) C dL_step_193 ?_
    refine J_iadd (pc := 194) C dL_step_194 ?_
    obtain ⟨o8, h9⟩ := h6
    refine J_iast (pc := 195) C dL_step_195 67 70 (wL_70 G S2) (by decide) (by decide) (sL_70 G S2 0 ((S2 70 0) + 1)) ?_
    have hok10 := okL_up (k := 70) (j := 0) hok3 (show rngL 70 ((S2 70 0) + 1) from o8)
    refine J_iload (pc := 196) C dL_step_196 rfl ?_
    refine J_bipush (pc := 198) C dL_step_198 (by decide) ?_
    obtain ⟨h11, h12⟩ := h9
    refine J_icmp_ne (pc := 200) (tgt := 219) C dL_step_200 (by decide) hr5 (by decide) (fun cb => ?_) (fun cb => ?_)
    · have h11 := h11 cb
      refine J_iload (pc := 219) C dL_step_219 rfl ?_
      refine J_aload_n (pc := 221) C dL_step_221 rfl ?_
      refine J_iconst (pc := 222) C dL_step_222 ?_
      refine J_iald (pc := 223) C dL_step_223 67 70 (wL_70 G (up S2 70 0 ((S2 70 0) + 1))) (by decide) (by decide) ?_
      refine J_iconst (pc := 224) C dL_step_224 ?_
      refine J_isub (pc := 225) C dL_step_225 ?_
      obtain ⟨o13, h14⟩ := h11
      obtain ⟨h15, h16⟩ := h14
      refine J_icmp_ne (pc := 226) (tgt := 267) C dL_step_226 (by decide) hr5 o13 (fun cb => ?_) (fun cb => ?_)
      · have h15 := h15 cb
        refine J_iconst (pc := 267) C dL_step_267 ?_
        exact J_zret (pc := 268) C dL_step_268 (by decide) hok10 h15 (by decide) (by decide)
      · have h16 := h16 cb
        refine J_aload_n (pc := 229) C dL_step_229 rfl ?_
        refine J_iload (pc := 230) C dL_step_230 rfl ?_
        refine J_iconst (pc := 232) C dL_step_232 ?_
        refine J_e1 (pc := 233) C (emb_LC G (up S2 70 0 ((S2 70 0) + 1))) (J_eV (pc := 233) C (emb_LC G (up S2 70 0 ((S2 70 0) + 1))) (h16 hr5 (by decide)) dL_step_233 rfl rfl 0 rfl rfl (cwV 2 C.1.2.2.2.2 gL_step_X6_ofJoint rfl rfl rfl (by decide +kernel) ⟨Nat.le_of_ble_eq_true rfl, Nat.le_of_ble_eq_true rfl⟩) (okC_L hok10) (Nat.le_of_ble_eq_true rfl) ⟨Nat.le_of_ble_eq_true rfl, Nat.le_of_ble_eq_true rfl⟩) (fun E9 S9 ok9 q9 => q9.elim) (fun rv20 S18 hr21 hok19 h17 => ?_)
        have h17 := h17 hr21 hok19
        refine J_iload (pc := 236) C dL_step_236 rfl ?_
        obtain ⟨h22, h23⟩ := h17
        refine J_icmp_ne (pc := 238) (tgt := 267) C dL_step_238 (by decide) hr21 rx9 (fun cb => ?_) (fun cb => ?_)
        · have h22 := h22 cb
          refine J_iconst (pc := 267) C dL_step_267 ?_
          exact J_zret (pc := 268) C dL_step_268 (by decide) (okL_pu hok10 hok19) h22 (by decide) (by decide)
        · have h23 := h23 cb
          refine J_aload_n (pc := 241) C dL_step_241 rfl ?_
          refine J_iload (pc := 242) C dL_step_242 rfl ?_
          refine J_iconst (pc := 244) C dL_step_244 ?_
          refine J_e1 (pc := 245) C (emb_LC G (pu (up S2 70 0 ((S2 70 0) + 1)) S18)) (J_eV (pc := 245) C (emb_LC G (pu (up S2 70 0 ((S2 70 0) + 1)) S18)) (h23 hr5 (by decide)) dL_step_245 rfl rfl 0 rfl rfl (cwV 2 C.1.2.2.2.2 gL_step_X6_ofJoint rfl rfl rfl (by decide +kernel) ⟨Nat.le_of_ble_eq_true rfl, Nat.le_of_ble_eq_true rfl⟩) (okC_L (okL_pu hok10 hok19)) (Nat.le_of_ble_eq_true rfl) ⟨Nat.le_of_ble_eq_true rfl, Nat.le_of_ble_eq_true rfl⟩) (fun E9 S9 ok9 q9 => q9.elim) (fun rv27 S25 hr28 hok26 h24 => ?_)
          have h24 := h24 hr28 hok26
          refine J_iload (pc := 248) C dL_step_248 rfl ?_
          obtain ⟨h29, h30⟩ := h24
          refine J_icmp_ne (pc := 250) (tgt := 267) C dL_step_250 (by decide) hr28 rx10 (fun cb => ?_) (fun cb => ?_)
          · have h29 := h29 cb
            refine J_iconst (pc := 267) C dL_step_267 ?_
            exact J_zret (pc := 268) C dL_step_268 (by decide) (okL_pu (okL_pu hok10 hok19) hok26) h29 (by decide) (by decide)
          · have h30 := h30 cb
            refine J_aload_n (pc := 253) C dL_step_253 rfl ?_
            refine J_iload (pc := 254) C dL_step_254 rfl ?_
            refine J_iconst (pc := 256) C dL_step_256 ?_
            refine J_e1 (pc := 257) C (emb_LC G (pu (pu (up S2 70 0 ((S2 70 0) + 1)) S18) S25)) (J_eV (pc := 257) C (emb_LC G (pu (pu (up S2 70 0 ((S2 70 0) + 1)) S18) S25)) (h30 hr5 (by decide)) dL_step_257 rfl rfl 0 rfl rfl (cwV 2 C.1.2.2.2.2 gL_step_X6_ofJoint rfl rfl rfl (by decide +kernel) ⟨Nat.le_of_ble_eq_true rfl, Nat.le_of_ble_eq_true rfl⟩) (okC_L (okL_pu (okL_pu hok10 hok19) hok26)) (Nat.le_of_ble_eq_true rfl) ⟨Nat.le_of_ble_eq_true rfl, Nat.le_of_ble_eq_true rfl⟩) (fun E9 S9 ok9 q9 => q9.elim) (fun rv34 S32 hr35 hok33 h31 => ?_)
            have h31 := h31 hr35 hok33
            obtain ⟨h36, h37⟩ := h31
            refine J_if_ne (pc := 260) (tgt := 267) C dL_step_260 (by decide) hr35 (fun cb => ?_) (fun cb => ?_)
            · have h36 := h36 cb
              refine J_iconst (pc := 267) C dL_step_267 ?_
              exact J_zret (pc := 268) C dL_step_268 (by decide) (okL_pu (okL_pu (okL_pu hok10 hok19) hok26) hok33) h36 (by decide) (by decide)
            · have h37 := h37 cb
              refine J_iconst (pc := 263) C dL_step_263 ?_
              refine J_goto (pc := 264) (tgt := 268) C dL_step_264 (by decide) ?_
              exact J_zret (pc := 268) C dL_step_268 (by decide) (okL_pu (okL_pu (okL_pu hok10 hok19) hok26) hok33) h37 (by decide) (by decide)
    · have h12 := h12 cb
      refine J_aload_n (pc := 203) C dL_step_203 rfl ?_
      refine J_iconst (pc := 204) C dL_step_204 ?_
      refine J_iald (pc := 205) C dL_step_205 67 70 (wL_70 G (up S2 70 0 ((S2 70 0) + 1))) (by decide) (by decide) ?_
      refine J_bipush (pc := 206) C dL_step_206 (by decide) ?_
      obtain ⟨h38, h39⟩ := h12
      refine J_icmp_ne (pc := 208) (tgt := 215) C dL_step_208 (by decide) o8 (by decide) (fun cb => ?_) (fun cb => ?_)
      · have h38 := h38 cb
        refine J_iconst (pc := 215) C dL_step_215 ?_
        refine J_goto (pc := 216) (tgt := 268) C dL_step_216 (by decide) ?_
        exact J_zret (pc := 268) C dL_step_268 (by decide) hok10 h38 (by decide) (by decide)
      · have h39 := h39 cb
        refine J_iconst (pc := 211) C dL_step_211 ?_
        refine J_goto (pc := 212) (tgt := 268) C dL_step_212 (by decide) ?_
        exact J_zret (pc := 268) C dL_step_268 (by decide) hok10 h39 (by decide) (by decide)
  · have h7 := h7 cb
    refine J_iconst (pc := 189) C dL_step_189 ?_
    refine J_goto (pc := 190) (tgt := 194) C dL_step_190 (by decide) ?_
    refine J_iadd (pc := 194) C dL_step_194 ?_
    obtain ⟨o40, h41⟩ := h7
    refine J_iast (pc := 195) C dL_step_195 67 70 (wL_70 G S2) (by decide) (by decide) (sL_70 G S2 0 ((S2 70 0) + 0)) ?_
    have hok42 := okL_up (k := 70) (j := 0) hok3 (show rngL 70 ((S2 70 0) + 0) from o40)
    refine J_iload (pc := 196) C dL_step_196 rfl ?_
    refine J_bipush (pc := 198) C dL_step_198 (by decide) ?_
    obtain ⟨h43, h44⟩ := h41
    refine J_icmp_ne (pc := 200) (tgt := 219) C dL_step_200 (by decide) hr5 (by decide) (fun cb => ?_) (fun cb => ?_)
    · have h43 := h43 cb
      refine J_iload (pc := 219) C dL_step_219 rfl ?_
      refine J_aload_n (pc := 221) C dL_step_221 rfl ?_
      refine J_iconst (pc := 222) C dL_step_222 ?_
      refine J_iald (pc := 223) C dL_step_223 67 70 (wL_70 G (up S2 70 0 ((S2 70 0) + 0))) (by decide) (by decide) ?_
      refine J_iconst (pc := 224) C dL_step_224 ?_
      refine J_isub (pc := 225) C dL_step_225 ?_
      obtain ⟨o45, h46⟩ := h43
      obtain ⟨h47, h48⟩ := h46
      refine J_icmp_ne (pc := 226) (tgt := 267) C dL_step_226 (by decide) hr5 o45 (fun cb => ?_) (fun cb => ?_)
      · have h47 := h47 cb
        refine J_iconst (pc := 267) C dL_step_267 ?_
        exact J_zret (pc := 268) C dL_step_268 (by decide) hok42 h47 (by decide) (by decide)
      · have h48 := h48 cb
        refine J_aload_n (pc := 229) C dL_step_229 rfl ?_
        refine J_iload (pc := 230) C dL_step_230 rfl ?_
        refine J_iconst (pc := 232) C dL_step_232 ?_
        refine J_e1 (pc := 233) C (emb_LC G (up S2 70 0 ((S2 70 0) + 0))) (J_eV (pc := 233) C (emb_LC G (up S2 70 0 ((S2 70 0) + 0))) (h48 hr5 (by decide)) dL_step_233 rfl rfl 0 rfl rfl (cwV 2 C.1.2.2.2.2 gL_step_X6_ofJoint rfl rfl rfl (by decide +kernel) ⟨Nat.le_of_ble_eq_true rfl, Nat.le_of_ble_eq_true rfl⟩) (okC_L hok42) (Nat.le_of_ble_eq_true rfl) ⟨Nat.le_of_ble_eq_true rfl, Nat.le_of_ble_eq_true rfl⟩) (fun E9 S9 ok9 q9 => q9.elim) (fun rv52 S50 hr53 hok51 h49 => ?_)
        have h49 := h49 hr53 hok51
        refine J_iload (pc := 236) C dL_step_236 rfl ?_
        obtain ⟨h54, h55⟩ := h49
        refine J_icmp_ne (pc := 238) (tgt := 267) C dL_step_238 (by decide) hr53 rx9 (fun cb => ?_) (fun cb => ?_)
        · have h54 := h54 cb
          refine J_iconst (pc := 267) C dL_step_267 ?_
          exact J_zret (pc := 268) C dL_step_268 (by decide) (okL_pu hok42 hok51) h54 (by decide) (by decide)
        · have h55 := h55 cb
          refine J_aload_n (pc := 241) C dL_step_241 rfl ?_
          refine J_iload (pc := 242) C dL_step_242 rfl ?_
          refine J_iconst (pc := 244) C dL_step_244 ?_
          refine J_e1 (pc := 245) C (emb_LC G (pu (up S2 70 0 ((S2 70 0) + 0)) S50)) (J_eV (pc := 245) C (emb_LC G (pu (up S2 70 0 ((S2 70 0) + 0)) S50)) (h55 hr5 (by decide)) dL_step_245 rfl rfl 0 rfl rfl (cwV 2 C.1.2.2.2.2 gL_step_X6_ofJoint rfl rfl rfl (by decide +kernel) ⟨Nat.le_of_ble_eq_true rfl, Nat.le_of_ble_eq_true rfl⟩) (okC_L (okL_pu hok42 hok51)) (Nat.le_of_ble_eq_true rfl) ⟨Nat.le_of_ble_eq_true rfl, Nat.le_of_ble_eq_true rfl⟩) (fun E9 S9 ok9 q9 => q9.elim) (fun rv59 S57 hr60 hok58 h56 => ?_)
          have h56 := h56 hr60 hok58
          refine J_iload (pc := 248) C dL_step_248 rfl ?_
          obtain ⟨h61, h62⟩ := h56
          refine J_icmp_ne (pc := 250) (tgt := 267) C dL_step_250 (by decide) hr60 rx10 (fun cb => ?_) (fun cb => ?_)
          · have h61 := h61 cb
            refine J_iconst (pc := 267) C dL_step_267 ?_
            exact J_zret (pc := 268) C dL_step_268 (by decide) (okL_pu (okL_pu hok42 hok51) hok58) h61 (by decide) (by decide)
          · have h62 := h62 cb
            refine J_aload_n (pc := 253) C dL_step_253 rfl ?_
            refine J_iload (pc := 254) C dL_step_254 rfl ?_
            refine J_iconst (pc := 256) C dL_step_256 ?_
            refine J_e1 (pc := 257) C (emb_LC G (pu (pu (up S2 70 0 ((S2 70 0) + 0)) S50) S57)) (J_eV (pc := 257) C (emb_LC G (pu (pu (up S2 70 0 ((S2 70 0) + 0)) S50) S57)) (h62 hr5 (by decide)) dL_step_257 rfl rfl 0 rfl rfl (cwV 2 C.1.2.2.2.2 gL_step_X6_ofJoint rfl rfl rfl (by decide +kernel) ⟨Nat.le_of_ble_eq_true rfl, Nat.le_of_ble_eq_true rfl⟩) (okC_L (okL_pu (okL_pu hok42 hok51) hok58)) (Nat.le_of_ble_eq_true rfl) ⟨Nat.le_of_ble_eq_true rfl, Nat.le_of_ble_eq_true rfl⟩) (fun E9 S9 ok9 q9 => q9.elim) (fun rv66 S64 hr67 hok65 h63 => ?_)
            have h63 := h63 hr67 hok65
            obtain ⟨h68, h69⟩ := h63
            refine J_if_ne (pc := 260) (tgt := 267) C dL_step_260 (by decide) hr67 (fun cb => ?_) (fun cb => ?_)
            · have h68 := h68 cb
              refine J_iconst (pc := 267) C dL_step_267 ?_
              exact J_zret (pc := 268) C dL_step_268 (by decide) (okL_pu (okL_pu (okL_pu hok42 hok51) hok58) hok65) h68 (by decide) (by decide)
            · have h69 := h69 cb
              refine J_iconst (pc := 263) C dL_step_263 ?_
              refine J_goto (pc := 264) (tgt := 268) C dL_step_264 (by decide) ?_
              exact J_zret (pc := 268) C dL_step_268 (by decide) (okL_pu (okL_pu (okL_pu hok42 hok51) hok58) hok65) h69 (by decide) (by decide)
    · have h44 := h44 cb
      refine J_aload_n (pc := 203) C dL_step_203 rfl ?_
      refine J_iconst (pc := 204) C dL_step_204 ?_
      refine J_iald (pc := 205) C dL_step_205 67 70 (wL_70 G (up S2 70 0 ((S2 70 0) + 0))) (by decide) (by decide) ?_
      refine J_bipush (pc := 206) C dL_step_206 (by decide) ?_
      obtain ⟨h70, h71⟩ := h44
      refine J_icmp_ne (pc := 208) (tgt := 215) C dL_step_208 (by decide) o40 (by decide) (fun cb => ?_) (fun cb => ?_)
      · have h70 := h70 cb
        refine J_iconst (pc := 215) C dL_step_215 ?_
        refine J_goto (pc := 216) (tgt := 268) C dL_step_216 (by decide) ?_
        exact J_zret (pc := 268) C dL_step_268 (by decide) hok42 h70 (by decide) (by decide)
      · have h71 := h71 cb
        refine J_iconst (pc := 211) C dL_step_211 ?_
        refine J_goto (pc := 212) (tgt := 268) C dL_step_212 (by decide) ?_
        exact J_zret (pc := 268) C dL_step_268 (by decide) hok42 h71 (by decide) (by decide)
set_option maxRecDepth 100000 in
set_option maxHeartbeats 4000000 in
theorem vc_L_step_269 {x5 x6 x7 : Int} {S : St} {Qr : Int → St → Prop} {Qx : String → St → Prop} (h : r32 x5 → r32 x6 → r32 x7 → okL S → (((S 70 1) ≠ 32 → (r32 (Int.tmod x5 3) ∧ M_L_sets x6 x7 (Int.tmod x5 3) 0 0 S (fun rv8 S6 => r32 rv8 → okL S6 → ((0 ≤ rv8 → M_L_isSet rv8 x6 x7 S6 (fun rv15 S13 => r32 rv15 → okL S13 → ((0 ≤ rv15 ∧ rv15 ≤ 1) ∧ Qr rv15 S13)) (fun _ _ => False)) ∧ (rv8 < 0 → ((x6 = x7 → Qr 1 S6) ∧ (x6 ≠ x7 → M_X6_ofJoint x6 2 S6 (fun rv24 S22 => r32 rv24 → okC S22 → ((rv24 ≤ 0 → Qr 0 (pu S6 S22)) ∧ (0 < rv24 → Qr 1 (pu S6 S22)))) (fun _ _ => False)))))) (fun _ _ => False))) ∧ ((S 70 1) = 32 → M_X6_kept S (fun rv31 S29 => r32 rv31 → okC S29 → (r32 ((2 * (S 70 0)) - 3) ∧ ((((2 * (S 70 0)) - 3) < rv31 → Qr 0 (pu S S29)) ∧ (rv31 ≤ ((2 * (S 70 0)) - 3) → Qr 1 (pu S S29))))) (fun _ _ => False)))) : R_L_step_269 x5 x6 x7 S Qr Qx := by
  intro rx5 rx6 rx7
  intro p l e s m args below meth c G A C hok
  have h := h rx5 rx6 rx7 hok
  replace C : Cx wL cL_step 19 RL wsL_step (some .boolean) [] p l s m args meth c G A := C
  show J wL 19 rmL_step p l e s m args below meth c G A (QQ 1 wL okL G Qr Qx A below args s rmL_step.cells rmL_step.slots) 0 0 S [some (.ref (G.2.2 0)), some (.ref (G.2.2 70)), some (.ref (G.2.2 71)), none, none, some (iV x5), some (iV x6), some (iV x7), none, none, none, none, none, none, none, none, none, none, none] [] 269
  refine J_aload_n (pc := 269) C dL_step_269 rfl ?_
  refine J_iconst (pc := 270) C dL_step_270 ?_
  refine J_iald (pc := 271) C dL_step_271 67 70 (wL_70 G S) (by decide) (by decide) ?_
  refine J_bipush (pc := 272) C dL_step_272 (by decide) ?_
  obtain ⟨h1, h2⟩ := h
  refine J_icmp_ne (pc := 274) (tgt := 297) C dL_step_274 (by decide) (hok 70 1) (by decide) (fun cb => ?_) (fun cb => ?_)
  · have h1 := h1 cb
    refine J_aload_n (pc := 297) C dL_step_297 rfl ?_
    refine J_iload (pc := 298) C dL_step_298 rfl ?_
    refine J_iload (pc := 300) C dL_step_300 rfl ?_
    refine J_iload (pc := 302) C dL_step_302 rfl ?_
    refine J_iconst (pc := 304) C dL_step_304 ?_
    refine J_irem (pc := 305) C dL_step_305 rx5 (by decide) (by decide) ?_
    refine J_iconst (pc := 306) C dL_step_306 ?_
    refine J_iconst (pc := 307) C dL_step_307 ?_
    obtain ⟨o3, h4⟩ := h1
    refine J_c1 (pc := 308) C (J_rSX (pc := 308) C (h4 rx6 rx7 o3 (by decide) (by decide)) dL_step_308 rfl rfl (vx_cwSW 6 C.1.2.2.2.2 gL_step_L_sets rfl rfl rfl (by decide +kernel) ⟨Nat.le_of_ble_eq_true rfl, Nat.le_of_ble_eq_true rfl⟩) hok (Nat.le_of_ble_eq_true rfl) ⟨Nat.le_of_ble_eq_true rfl, Nat.le_of_ble_eq_true rfl⟩) (fun E9 S9 ok9 q9 => q9.elim) (fun rv8 S6 hr9 hok7 h5 => ?_)
    have h5 := h5 hr9 hok7
    refine J_istore (pc := 311) C dL_step_311 (by decide) ?_
    refine J_iload (pc := 313) C dL_step_313 rfl ?_
    obtain ⟨h10, h11⟩ := h5
    refine J_if_ge (pc := 315) (tgt := 343) C dL_step_315 (by decide) hr9 (fun cb => ?_) (fun cb => ?_)
    · have h10 := h10 cb
      refine J_aload_n (pc := 343) C dL_step_343 rfl ?_
      refine J_aload_n (pc := 344) C dL_step_344 rfl ?_
      refine J_aload_n (pc := 345) C dL_step_345 rfl ?_
      refine J_iload (pc := 346) C dL_step_346 rfl ?_
      refine J_iload (pc := 348) C dL_step_348 rfl ?_
      refine J_iload (pc := 350) C dL_step_350 rfl ?_
      refine J_c1 (pc := 352) C (J_rS (pc := 352) C (h10 hr9 rx6 rx7) dL_step_352 rfl rfl (va_cwS 6 C.1.2.2.2.2 gL_step_L_isSet rfl rfl rfl (by decide +kernel) ⟨Nat.le_of_ble_eq_true rfl, Nat.le_of_ble_eq_true rfl⟩) hok7 (Nat.le_of_ble_eq_true rfl) ⟨Nat.le_of_ble_eq_true rfl, Nat.le_of_ble_eq_true rfl⟩) (fun E9 S9 ok9 q9 => q9.elim) (fun rv15 S13 hr16 hok14 h12 => ?_)
      have h12 := h12 hr16 hok14
      obtain ⟨o17, h18⟩ := h12
      exact J_zret (pc := 355) C dL_step_355 o17 hok14 h18 (by decide) (by decide)
    · have h11 := h11 cb
      refine J_iload (pc := 318) C dL_step_318 rfl ?_
      refine J_iload (pc := 320) C dL_step_320 rfl ?_
      obtain ⟨h19, h20⟩ := h11
      refine J_icmp_eq (pc := 322) (tgt := 335) C dL_step_322 (by decide) rx6 rx7 (fun cb => ?_) (fun cb => ?_)
      · have h19 := h19 cb
        refine J_iconst (pc := 335) C dL_step_335 ?_
        refine J_goto (pc := 336) (tgt := 355) C dL_step_336 (by decide) ?_
        exact J_zret (pc := 355) C dL_step_355 (by decide) hok7 h19 (by decide) (by decide)
      · have h20 := h20 cb
        refine J_aload_n (pc := 325) C dL_step_325 rfl ?_
        refine J_iload (pc := 326) C dL_step_326 rfl ?_
        refine J_iconst (pc := 328) C dL_step_328 ?_
        refine J_e1 (pc := 329) C (emb_LC G S6) (J_eV (pc := 329) C (emb_LC G S6) (h20 rx6 (by decide)) dL_step_329 rfl rfl 0 rfl rfl (cwV 2 C.1.2.2.2.2 gL_step_X6_ofJoint rfl rfl rfl (by decide +kernel) ⟨Nat.le_of_ble_eq_true rfl, Nat.le_of_ble_eq_true rfl⟩) (okC_L hok7) (Nat.le_of_ble_eq_true rfl) ⟨Nat.le_of_ble_eq_true rfl, Nat.le_of_ble_eq_true rfl⟩) (fun E9 S9 ok9 q9 => q9.elim) (fun rv24 S22 hr25 hok23 h21 => ?_)
        have h21 := h21 hr25 hok23
        obtain ⟨h26, h27⟩ := h21
        refine J_if_le (pc := 332) (tgt := 339) C dL_step_332 (by decide) hr25 (fun cb => ?_) (fun cb => ?_)
        · have h26 := h26 cb
          refine J_iconst (pc := 339) C dL_step_339 ?_
          refine J_goto (pc := 340) (tgt := 355) C dL_step_340 (by decide) ?_
          exact J_zret (pc := 355) C dL_step_355 (by decide) (okL_pu hok7 hok23) h26 (by decide) (by decide)
        · have h27 := h27 cb
          refine J_iconst (pc := 335) C dL_step_335 ?_
          refine J_goto (pc := 336) (tgt := 355) C dL_step_336 (by decide) ?_
          exact J_zret (pc := 355) C dL_step_355 (by decide) (okL_pu hok7 hok23) h27 (by decide) (by decide)
  · have h2 := h2 cb
    refine J_aload_n (pc := 277) C dL_step_277 rfl ?_
    refine J_e1 (pc := 278) C (emb_LC G S) (J_eV (pc := 278) C (emb_LC G S) h2 dL_step_278 rfl rfl 0 rfl rfl (cwV 0 C.1.2.2.2.2 gL_step_X6_kept rfl rfl rfl (by decide +kernel) ⟨Nat.le_of_ble_eq_true rfl, Nat.le_of_ble_eq_true rfl⟩) (okC_L hok) (Nat.le_of_ble_eq_true rfl) ⟨Nat.le_of_ble_eq_true rfl, Nat.le_of_ble_eq_true rfl⟩) (fun E9 S9 ok9 q9 => q9.elim) (fun rv31 S29 hr32 hok30 h28 => ?_)
    have h28 := h28 hr32 hok30
    refine J_iconst (pc := 281) C dL_step_281 ?_
    refine J_aload_n (pc := 282) C dL_step_282 rfl ?_
    refine J_iconst (pc := 283) C dL_step_283 ?_
    refine J_iald (pc := 284) C dL_step_284 67 70 (wL_70 G (pu S S29)) (by decide) (by decide) ?_
    refine J_imul (pc := 285) C dL_step_285 ?_
    refine J_iconst (pc := 286) C dL_step_286 ?_
    refine J_isub (pc := 287) C dL_step_287 ?_
    obtain ⟨o33, h34⟩ := h28
    obtain ⟨h35, h36⟩ := h34
    refine J_icmp_gt (pc := 288) (tgt := 295) C dL_step_288 (by decide) hr32 o33 (fun cb => ?_) (fun cb => ?_)
    · have h35 := h35 cb
      refine J_iconst (pc := 295) C dL_step_295 ?_
      exact J_zret (pc := 296) C dL_step_296 (by decide) (okL_pu hok hok30) h35 (by decide) (by decide)
    · have h36 := h36 cb
      refine J_iconst (pc := 291) C dL_step_291 ?_
      refine J_goto (pc := 292) (tgt := 296) C dL_step_292 (by decide) ?_
      exact J_zret (pc := 296) C dL_step_296 (by decide) (okL_pu hok hok30) h36 (by decide) (by decide)
set_option maxRecDepth 100000 in
set_option maxHeartbeats 4000000 in
theorem vc_L_step_356 {x8 : Int} {S : St} {Qr : Int → St → Prop} {Qx : String → St → Prop} (h : r32 x8 → okL S → M_X6_kept S (fun rv4 S2 => r32 rv4 → okC S2 → M_L_asks x8 0 0 (pu S S2) (fun rv9 S7 => r32 rv9 → okL S7 → ((rv9 ≠ (-200) → ((rv9 < 0 → Qr 0 S7) ∧ (0 ≤ rv9 → M_X6_kept S7 (fun rv18 S16 => r32 rv18 → okC S16 → ((rv4 < rv18 → Qr 0 (pu S7 S16)) ∧ (rv18 ≤ rv4 → M_X6_kept (pu S7 S16) (fun rv25 S23 => r32 rv25 → okC S23 → (r32 (rv4 - 1) ∧ ((rv25 < (rv4 - 1) → Qr 0 (pu (pu S7 S16) S23)) ∧ ((rv4 - 1) ≤ rv25 → M_L_asks x8 0 0 (pu (pu S7 S16) S23) (fun rv34 S32 => r32 rv34 → okL S32 → ((rv34 ≠ (-200) → Qr 0 S32) ∧ (rv34 = (-200) → Qr 1 S32))) (fun _ _ => False))))) (fun _ _ => False)))) (fun _ _ => False)))) ∧ (rv9 = (-200) → M_X6_kept S7 (fun rv41 S39 => r32 rv41 → okC S39 → ((rv41 ≠ rv4 → Qr 0 (pu S7 S39)) ∧ (rv41 = rv4 → Qr 1 (pu S7 S39)))) (fun _ _ => False)))) (fun _ _ => False)) (fun _ _ => False)) : R_L_step_356 x8 S Qr Qx := by
  intro rx8
  intro p l e s m args below meth c G A C hok
  have h := h rx8 hok
  replace C : Cx wL cL_step 19 RL wsL_step (some .boolean) [] p l s m args meth c G A := C
  show J wL 19 rmL_step p l e s m args below meth c G A (QQ 1 wL okL G Qr Qx A below args s rmL_step.cells rmL_step.slots) 0 0 S [some (.ref (G.2.2 0)), none, none, none, none, none, none, none, some (iV x8), none, none, none, none, none, none, none, none, none, none] [] 356
  refine J_aload_n (pc := 356) C dL_step_356 rfl ?_
  refine J_e1 (pc := 357) C (emb_LC G S) (J_eV (pc := 357) C (emb_LC G S) h dL_step_357 rfl rfl 0 rfl rfl (cwV 0 C.1.2.2.2.2 gL_step_X6_kept rfl rfl rfl (by decide +kernel) ⟨Nat.le_of_ble_eq_true rfl, Nat.le_of_ble_eq_true rfl⟩) (okC_L hok) (Nat.le_of_ble_eq_true rfl) ⟨Nat.le_of_ble_eq_true rfl, Nat.le_of_ble_eq_true rfl⟩) (fun E9 S9 ok9 q9 => q9.elim) (fun rv4 S2 hr5 hok3 h1 => ?_)
  have h1 := h1 hr5 hok3
  refine J_istore (pc := 360) C dL_step_360 (by decide) ?_
  refine J_aload_n (pc := 362) C dL_step_362 rfl ?_
  refine J_iload (pc := 363) C dL_step_363 rfl ?_
  refine J_iconst (pc := 365) C dL_step_365 ?_
  refine J_iconst (pc := 366) C dL_step_366 ?_
  refine J_c1 (pc := 367) C (J_rSX (pc := 367) C (h1 rx8 (by decide) (by decide)) dL_step_367 rfl rfl (vx_cwSW 4 C.1.2.2.2.2 gL_step_L_asks rfl rfl rfl (by decide +kernel) ⟨Nat.le_of_ble_eq_true rfl, Nat.le_of_ble_eq_true rfl⟩) (okL_pu hok hok3) (Nat.le_of_ble_eq_true rfl) ⟨Nat.le_of_ble_eq_true rfl, Nat.le_of_ble_eq_true rfl⟩) (fun E9 S9 ok9 q9 => q9.elim) (fun rv9 S7 hr10 hok8 h6 => ?_)
  have h6 := h6 hr10 hok8
  refine J_istore (pc := 370) C dL_step_370 (by decide) ?_
  refine J_iload (pc := 372) C dL_step_372 rfl ?_
  refine J_sipush (pc := 374) C dL_step_374 (by decide) ?_
  obtain ⟨h11, h12⟩ := h6
  refine J_icmp_ne (pc := 377) (tgt := 397) C dL_step_377 (by decide) hr10 (by decide) (fun cb => ?_) (fun cb => ?_)
  · have h11 := h11 cb
    refine J_iload (pc := 397) C dL_step_397 rfl ?_
    obtain ⟨h13, h14⟩ := h11
    refine J_if_lt (pc := 399) (tgt := 440) C dL_step_399 (by decide) hr10 (fun cb => ?_) (fun cb => ?_)
    · have h13 := h13 cb
      refine J_iconst (pc := 440) C dL_step_440 ?_
      exact J_zret (pc := 441) C dL_step_441 (by decide) hok8 h13 (by decide) (by decide)
    · have h14 := h14 cb
      refine J_aload_n (pc := 402) C dL_step_402 rfl ?_
      refine J_e1 (pc := 403) C (emb_LC G S7) (J_eV (pc := 403) C (emb_LC G S7) h14 dL_step_403 rfl rfl 0 rfl rfl (cwV 0 C.1.2.2.2.2 gL_step_X6_kept rfl rfl rfl (by decide +kernel) ⟨Nat.le_of_ble_eq_true rfl, Nat.le_of_ble_eq_true rfl⟩) (okC_L hok8) (Nat.le_of_ble_eq_true rfl) ⟨Nat.le_of_ble_eq_true rfl, Nat.le_of_ble_eq_true rfl⟩) (fun E9 S9 ok9 q9 => q9.elim) (fun rv18 S16 hr19 hok17 h15 => ?_)
      have h15 := h15 hr19 hok17
      refine J_iload (pc := 406) C dL_step_406 rfl ?_
      obtain ⟨h20, h21⟩ := h15
      refine J_icmp_gt (pc := 408) (tgt := 440) C dL_step_408 (by decide) hr19 hr5 (fun cb => ?_) (fun cb => ?_)
      · have h20 := h20 cb
        refine J_iconst (pc := 440) C dL_step_440 ?_
        exact J_zret (pc := 441) C dL_step_441 (by decide) (okL_pu hok8 hok17) h20 (by decide) (by decide)
      · have h21 := h21 cb
        refine J_aload_n (pc := 411) C dL_step_411 rfl ?_
        refine J_e1 (pc := 412) C (emb_LC G (pu S7 S16)) (J_eV (pc := 412) C (emb_LC G (pu S7 S16)) h21 dL_step_412 rfl rfl 0 rfl rfl (cwV 0 C.1.2.2.2.2 gL_step_X6_kept rfl rfl rfl (by decide +kernel) ⟨Nat.le_of_ble_eq_true rfl, Nat.le_of_ble_eq_true rfl⟩) (okC_L (okL_pu hok8 hok17)) (Nat.le_of_ble_eq_true rfl) ⟨Nat.le_of_ble_eq_true rfl, Nat.le_of_ble_eq_true rfl⟩) (fun E9 S9 ok9 q9 => q9.elim) (fun rv25 S23 hr26 hok24 h22 => ?_)
        have h22 := h22 hr26 hok24
        refine J_iload (pc := 415) C dL_step_415 rfl ?_
        refine J_iconst (pc := 417) C dL_step_417 ?_
        refine J_isub (pc := 418) C dL_step_418 ?_
        obtain ⟨o27, h28⟩ := h22
        obtain ⟨h29, h30⟩ := h28
        refine J_icmp_lt (pc := 419) (tgt := 440) C dL_step_419 (by decide) hr26 o27 (fun cb => ?_) (fun cb => ?_)
        · have h29 := h29 cb
          refine J_iconst (pc := 440) C dL_step_440 ?_
          exact J_zret (pc := 441) C dL_step_441 (by decide) (okL_pu (okL_pu hok8 hok17) hok24) h29 (by decide) (by decide)
        · have h30 := h30 cb
          refine J_aload_n (pc := 422) C dL_step_422 rfl ?_
          refine J_iload (pc := 423) C dL_step_423 rfl ?_
          refine J_iconst (pc := 425) C dL_step_425 ?_
          refine J_iconst (pc := 426) C dL_step_426 ?_
          refine J_c1 (pc := 427) C (J_rSX (pc := 427) C (h30 rx8 (by decide) (by decide)) dL_step_427 rfl rfl (vx_cwSW 4 C.1.2.2.2.2 gL_step_L_asks rfl rfl rfl (by decide +kernel) ⟨Nat.le_of_ble_eq_true rfl, Nat.le_of_ble_eq_true rfl⟩) (okL_pu (okL_pu hok8 hok17) hok24) (Nat.le_of_ble_eq_true rfl) ⟨Nat.le_of_ble_eq_true rfl, Nat.le_of_ble_eq_true rfl⟩) (fun E9 S9 ok9 q9 => q9.elim) (fun rv34 S32 hr35 hok33 h31 => ?_)
          have h31 := h31 hr35 hok33
          refine J_sipush (pc := 430) C dL_step_430 (by decide) ?_
          obtain ⟨h36, h37⟩ := h31
          refine J_icmp_ne (pc := 433) (tgt := 440) C dL_step_433 (by decide) hr35 (by decide) (fun cb => ?_) (fun cb => ?_)
          · have h36 := h36 cb
            refine J_iconst (pc := 440) C dL_step_440 ?_
            exact J_zret (pc := 441) C dL_step_441 (by decide) hok33 h36 (by decide) (by decide)
          · have h37 := h37 cb
            refine J_iconst (pc := 436) C dL_step_436 ?_
            refine J_goto (pc := 437) (tgt := 441) C dL_step_437 (by decide) ?_
            exact J_zret (pc := 441) C dL_step_441 (by decide) hok33 h37 (by decide) (by decide)
  · have h12 := h12 cb
    refine J_aload_n (pc := 380) C dL_step_380 rfl ?_
    refine J_e1 (pc := 381) C (emb_LC G S7) (J_eV (pc := 381) C (emb_LC G S7) h12 dL_step_381 rfl rfl 0 rfl rfl (cwV 0 C.1.2.2.2.2 gL_step_X6_kept rfl rfl rfl (by decide +kernel) ⟨Nat.le_of_ble_eq_true rfl, Nat.le_of_ble_eq_true rfl⟩) (okC_L hok8) (Nat.le_of_ble_eq_true rfl) ⟨Nat.le_of_ble_eq_true rfl, Nat.le_of_ble_eq_true rfl⟩) (fun E9 S9 ok9 q9 => q9.elim) (fun rv41 S39 hr42 hok40 h38 => ?_)
    have h38 := h38 hr42 hok40
    refine J_iload (pc := 384) C dL_step_384 rfl ?_
    obtain ⟨h43, h44⟩ := h38
    refine J_icmp_ne (pc := 386) (tgt := 393) C dL_step_386 (by decide) hr42 hr5 (fun cb => ?_) (fun cb => ?_)
    · have h43 := h43 cb
      refine J_iconst (pc := 393) C dL_step_393 ?_
      refine J_goto (pc := 394) (tgt := 441) C dL_step_394 (by decide) ?_
      exact J_zret (pc := 441) C dL_step_441 (by decide) (okL_pu hok8 hok40) h43 (by decide) (by decide)
    · have h44 := h44 cb
      refine J_iconst (pc := 389) C dL_step_389 ?_
      refine J_goto (pc := 390) (tgt := 441) C dL_step_390 (by decide) ?_
      exact J_zret (pc := 441) C dL_step_441 (by decide) (okL_pu hok8 hok40) h44 (by decide) (by decide)
set_option maxRecDepth 100000 in
set_option maxHeartbeats 4000000 in
theorem vc_L_step_442 {x5 x6 : Int} {S : St} {Qr : Int → St → Prop} {Qx : String → St → Prop} (h : r32 x5 → r32 x6 → okL S → (r32 (Int.tmod x5 3) ∧ (((Int.tmod x5 3) ≠ 0 → M_X6_pin x6 0 S (fun rv8 S6 => r32 rv8 → okC S6 → (((Int.tmod x5 3) ≠ 0 → M_X6_pin x6 0 (pu S S6) (fun rv15 S13 => r32 rv15 → okC S13 → (((Int.tmod x5 3) ≠ 0 → ((rv15 ≠ 0 → Qr 0 (pu (pu S S6) S13)) ∧ (rv15 = 0 → ((rv8 ≠ 0 → Qr 1 (pu (pu S S6) S13)) ∧ (rv8 = 0 → M_X6_rank (pu (pu S S6) S13) (fun rv26 S24 => r32 rv26 → okC S24 → ((rv26 < 0 → Qr 0 (pu (pu (pu S S6) S13) S24)) ∧ (0 ≤ rv26 → Qr 1 (pu (pu (pu S S6) S13) S24)))) (fun _ _ => False)))))) ∧ ((Int.tmod x5 3) = 0 → ((rv15 ≠ 1 → Qr 0 (pu (pu S S6) S13)) ∧ (rv15 = 1 → ((rv8 ≠ 0 → Qr 1 (pu (pu S S6) S13)) ∧ (rv8 = 0 → M_X6_rank (pu (pu S S6) S13) (fun rv37 S35 => r32 rv37 → okC S35 → ((rv37 < 0 → Qr 0 (pu (pu (pu S S6) S13) S35)) ∧ (0 ≤ rv37 → Qr 1 (pu (pu (pu S S6) S13) S35)))) (fun _ _ => False)))))))) (fun _ _ => False)) ∧ ((Int.tmod x5 3) = 0 → M_X6_pin x6 1 (pu S S6) (fun rv44 S42 => r32 rv44 → okC S42 → (((Int.tmod x5 3) ≠ 0 → ((rv44 ≠ 0 → Qr 0 (pu (pu S S6) S42)) ∧ (rv44 = 0 → ((rv8 ≠ 0 → Qr 1 (pu (pu S S6) S42)) ∧ (rv8 = 0 → M_X6_rank (pu (pu S S6) S42) (fun rv55 S53 => r32 rv55 → okC S53 → ((rv55 < 0 → Qr 0 (pu (pu (pu S S6) S42) S53)) ∧ (0 ≤ rv55 → Qr 1 (pu (pu (pu S S6) S42) S53)))) (fun _ _ => False)))))) ∧ ((Int.tmod x5 3) = 0 → ((rv44 ≠ 1 → Qr 0 (pu (pu S S6) S42)) ∧ (rv44 = 1 → ((rv8 ≠ 0 → Qr 1 (pu (pu S S6) S42)) ∧ (rv8 = 0 → M_X6_rank (pu (pu S S6) S42) (fun rv66 S64 => r32 rv66 → okC S64 → ((rv66 < 0 → Qr 0 (pu (pu (pu S S6) S42) S64)) ∧ (0 ≤ rv66 → Qr 1 (pu (pu (pu S S6) S42) S64)))) (fun _ _ => False)))))))) (fun _ _ => False)))) (fun _ _ => False)) ∧ ((Int.tmod x5 3) = 0 → M_X6_pin x6 1 S (fun rv73 S71 => r32 rv73 → okC S71 → (((Int.tmod x5 3) ≠ 0 → M_X6_pin x6 0 (pu S S71) (fun rv80 S78 => r32 rv80 → okC S78 → (((Int.tmod x5 3) ≠ 0 → ((rv80 ≠ 0 → Qr 0 (pu (pu S S71) S78)) ∧ (rv80 = 0 → ((rv73 ≠ 0 → Qr 1 (pu (pu S S71) S78)) ∧ (rv73 = 0 → M_X6_rank (pu (pu S S71) S78) (fun rv91 S89 => r32 rv91 → okC S89 → ((rv91 < 0 → Qr 0 (pu (pu (pu S S71) S78) S89)) ∧ (0 ≤ rv91 → Qr 1 (pu (pu (pu S S71) S78) S89)))) (fun _ _ => False)))))) ∧ ((Int.tmod x5 3) = 0 → ((rv80 ≠ 1 → Qr 0 (pu (pu S S71) S78)) ∧ (rv80 = 1 → ((rv73 ≠ 0 → Qr 1 (pu (pu S S71) S78)) ∧ (rv73 = 0 → M_X6_rank (pu (pu S S71) S78) (fun rv102 S100 => r32 rv102 → okC S100 → ((rv102 < 0 → Qr 0 (pu (pu (pu S S71) S78) S100)) ∧ (0 ≤ rv102 → Qr 1 (pu (pu (pu S S71) S78) S100)))) (fun _ _ => False)))))))) (fun _ _ => False)) ∧ ((Int.tmod x5 3) = 0 → M_X6_pin x6 1 (pu S S71) (fun rv109 S107 => r32 rv109 → okC S107 → (((Int.tmod x5 3) ≠ 0 → ((rv109 ≠ 0 → Qr 0 (pu (pu S S71) S107)) ∧ (rv109 = 0 → ((rv73 ≠ 0 → Qr 1 (pu (pu S S71) S107)) ∧ (rv73 = 0 → M_X6_rank (pu (pu S S71) S107) (fun rv120 S118 => r32 rv120 → okC S118 → ((rv120 < 0 → Qr 0 (pu (pu (pu S S71) S107) S118)) ∧ (0 ≤ rv120 → Qr 1 (pu (pu (pu S S71) S107) S118)))) (fun _ _ => False)))))) ∧ ((Int.tmod x5 3) = 0 → ((rv109 ≠ 1 → Qr 0 (pu (pu S S71) S107)) ∧ (rv109 = 1 → ((rv73 ≠ 0 → Qr 1 (pu (pu S S71) S107)) ∧ (rv73 = 0 → M_X6_rank (pu (pu S S71) S107) (fun rv131 S129 => r32 rv131 → okC S129 → ((rv131 < 0 → Qr 0 (pu (pu (pu S S71) S107) S129)) ∧ (0 ≤ rv131 → Qr 1 (pu (pu (pu S S71) S107) S129)))) (fun _ _ => False)))))))) (fun _ _ => False)))) (fun _ _ => False))))) : R_L_step_442 x5 x6 S Qr Qx := by
  intro rx5 rx6
  intro p l e s m args below meth c G A C hok
  have h := h rx5 rx6 hok
  replace C : Cx wL cL_step 19 RL wsL_step (some .boolean) [] p l s m args meth c G A := C
  show J wL 19 rmL_step p l e s m args below meth c G A (QQ 1 wL okL G Qr Qx A below args s rmL_step.cells rmL_step.slots) 0 0 S [some (.ref (G.2.2 0)), none, none, none, none, some (iV x5), some (iV x6), none, none, none, none, none, none, none, none, none, none, none, none] [] 442
  refine J_aload_n (pc := 442) C dL_step_442 rfl ?_
  refine J_iload (pc := 443) C dL_step_443 rfl ?_
  refine J_iload (pc := 445) C dL_step_445 rfl ?_
  refine J_iconst (pc := 447) C dL_step_447 ?_
  refine J_irem (pc := 448) C dL_step_448 rx5 (by decide) (by decide) ?_
  obtain ⟨o1, h2⟩ := h
  obtain ⟨h3, h4⟩ := h2
  refine J_if_ne (pc := 449) (tgt := 456) C dL_step_449 (by decide) o1 (fun cb => ?_) (fun cb => ?_)
  · have h3 := h3 cb
    refine J_iconst (pc := 456) C dL_step_456 ?_
    refine J_e1 (pc := 457) C (emb_LC G S) (J_eV (pc := 457) C (emb_LC G S) (h3 rx6 (by decide)) dL_step_457 rfl rfl 0 rfl rfl (cwV 2 C.1.2.2.2.2 gL_step_X6_pin rfl rfl rfl (by decide +kernel) ⟨Nat.le_of_ble_eq_true rfl, Nat.le_of_ble_eq_true rfl⟩) (okC_L hok) (Nat.le_of_ble_eq_true rfl) ⟨Nat.le_of_ble_eq_true rfl, Nat.le_of_ble_eq_true rfl⟩) (fun E9 S9 ok9 q9 => q9.elim) (fun rv8 S6 hr9 hok7 h5 => ?_)
    have h5 := h5 hr9 hok7
    refine J_istore (pc := 460) C dL_step_460 (by decide) ?_
    refine J_aload_n (pc := 462) C dL_step_462 rfl ?_
    refine J_iload (pc := 463) C dL_step_463 rfl ?_
    refine J_iload (pc := 465) C dL_step_465 rfl ?_
    refine J_iconst (pc := 467) C dL_step_467 ?_
    refine J_irem (pc := 468) C dL_step_468 rx5 (by decide) (by decide) ?_
    obtain ⟨h10, h11⟩ := h5
    refine J_if_ne (pc := 469) (tgt := 476) C dL_step_469 (by decide) o1 (fun cb => ?_) (fun cb => ?_)
    · have h10 := h10 cb
      refine J_iconst (pc := 476) C dL_step_476 ?_
      refine J_e1 (pc := 477) C (emb_LC G (pu S S6)) (J_eV (pc := 477) C (emb_LC G (pu S S6)) (h10 rx6 (by decide)) dL_step_477 rfl rfl 0 rfl rfl (cwV 2 C.1.2.2.2.2 gL_step_X6_pin rfl rfl rfl (by decide +kernel) ⟨Nat.le_of_ble_eq_true rfl, Nat.le_of_ble_eq_true rfl⟩) (okC_L (okL_pu hok hok7)) (Nat.le_of_ble_eq_true rfl) ⟨Nat.le_of_ble_eq_true rfl, Nat.le_of_ble_eq_true rfl⟩) (fun E9 S9 ok9 q9 => q9.elim) (fun rv15 S13 hr16 hok14 h12 => ?_)
      have h12 := h12 hr16 hok14
      refine J_iload (pc := 480) C dL_step_480 rfl ?_
      refine J_iconst (pc := 482) C dL_step_482 ?_
      refine J_irem (pc := 483) C dL_step_483 rx5 (by decide) (by decide) ?_
      obtain ⟨h17, h18⟩ := h12
      refine J_if_ne (pc := 484) (tgt := 491) C dL_step_484 (by decide) o1 (fun cb => ?_) (fun cb => ?_)
      · have h17 := h17 cb
        refine J_iconst (pc := 491) C dL_step_491 ?_
        obtain ⟨h19, h20⟩ := h17
        refine J_icmp_ne (pc := 492) (tgt := 511) C dL_step_492 (by decide) hr16 (by decide) (fun cb => ?_) (fun cb => ?_)
        · have h19 := h19 cb
          refine J_iconst (pc := 511) C dL_step_511 ?_
          exact J_zret (pc := 512) C dL_step_512 (by decide) (okL_pu (okL_pu hok hok7) hok14) h19 (by decide) (by decide)
        · have h20 := h20 cb
          refine J_iload (pc := 495) C dL_step_495 rfl ?_
          obtain ⟨h21, h22⟩ := h20
          refine J_if_ne (pc := 497) (tgt := 507) C dL_step_497 (by decide) hr9 (fun cb => ?_) (fun cb => ?_)
          · have h21 := h21 cb
            refine J_iconst (pc := 507) C dL_step_507 ?_
            refine J_goto (pc := 508) (tgt := 512) C dL_step_508 (by decide) ?_
            exact J_zret (pc := 512) C dL_step_512 (by decide) (okL_pu (okL_pu hok hok7) hok14) h21 (by decide) (by decide)
          · have h22 := h22 cb
            refine J_aload_n (pc := 500) C dL_step_500 rfl ?_
            refine J_e1 (pc := 501) C (emb_LC G (pu (pu S S6) S13)) (J_eV (pc := 501) C (emb_LC G (pu (pu S S6) S13)) h22 dL_step_501 rfl rfl 0 rfl rfl (cwV 0 C.1.2.2.2.2 gL_step_X6_rank rfl rfl rfl (by decide +kernel) ⟨Nat.le_of_ble_eq_true rfl, Nat.le_of_ble_eq_true rfl⟩) (okC_L (okL_pu (okL_pu hok hok7) hok14)) (Nat.le_of_ble_eq_true rfl) ⟨Nat.le_of_ble_eq_true rfl, Nat.le_of_ble_eq_true rfl⟩) (fun E9 S9 ok9 q9 => q9.elim) (fun rv26 S24 hr27 hok25 h23 => ?_)
            have h23 := h23 hr27 hok25
            obtain ⟨h28, h29⟩ := h23
            refine J_if_lt (pc := 504) (tgt := 511) C dL_step_504 (by decide) hr27 (fun cb => ?_) (fun cb => ?_)
            · have h28 := h28 cb
              refine J_iconst (pc := 511) C dL_step_511 ?_
              exact J_zret (pc := 512) C dL_step_512 (by decide) (okL_pu (okL_pu (okL_pu hok hok7) hok14) hok25) h28 (by decide) (by decide)
            · have h29 := h29 cb
              refine J_iconst (pc := 507) C dL_step_507 ?_
              refine J_goto (pc := 508) (tgt := 512) C dL_step_508 (by decide) ?_
              exact J_zret (pc := 512) C dL_step_512 (by decide) (okL_pu (okL_pu (okL_pu hok hok7) hok14) hok25) h29 (by decide) (by decide)
      · have h18 := h18 cb
        refine J_iconst (pc := 487) C dL_step_487 ?_
        refine J_goto (pc := 488) (tgt := 492) C dL_step_488 (by decide) ?_
        obtain ⟨h30, h31⟩ := h18
        refine J_icmp_ne (pc := 492) (tgt := 511) C dL_step_492 (by decide) hr16 (by decide) (fun cb => ?_) (fun cb => ?_)
        · have h30 := h30 cb
          refine J_iconst (pc := 511) C dL_step_511 ?_
          exact J_zret (pc := 512) C dL_step_512 (by decide) (okL_pu (okL_pu hok hok7) hok14) h30 (by decide) (by decide)
        · have h31 := h31 cb
          refine J_iload (pc := 495) C dL_step_495 rfl ?_
          obtain ⟨h32, h33⟩ := h31
          refine J_if_ne (pc := 497) (tgt := 507) C dL_step_497 (by decide) hr9 (fun cb => ?_) (fun cb => ?_)
          · have h32 := h32 cb
            refine J_iconst (pc := 507) C dL_step_507 ?_
            refine J_goto (pc := 508) (tgt := 512) C dL_step_508 (by decide) ?_
            exact J_zret (pc := 512) C dL_step_512 (by decide) (okL_pu (okL_pu hok hok7) hok14) h32 (by decide) (by decide)
          · have h33 := h33 cb
            refine J_aload_n (pc := 500) C dL_step_500 rfl ?_
            refine J_e1 (pc := 501) C (emb_LC G (pu (pu S S6) S13)) (J_eV (pc := 501) C (emb_LC G (pu (pu S S6) S13)) h33 dL_step_501 rfl rfl 0 rfl rfl (cwV 0 C.1.2.2.2.2 gL_step_X6_rank rfl rfl rfl (by decide +kernel) ⟨Nat.le_of_ble_eq_true rfl, Nat.le_of_ble_eq_true rfl⟩) (okC_L (okL_pu (okL_pu hok hok7) hok14)) (Nat.le_of_ble_eq_true rfl) ⟨Nat.le_of_ble_eq_true rfl, Nat.le_of_ble_eq_true rfl⟩) (fun E9 S9 ok9 q9 => q9.elim) (fun rv37 S35 hr38 hok36 h34 => ?_)
            have h34 := h34 hr38 hok36
            obtain ⟨h39, h40⟩ := h34
            refine J_if_lt (pc := 504) (tgt := 511) C dL_step_504 (by decide) hr38 (fun cb => ?_) (fun cb => ?_)
            · have h39 := h39 cb
              refine J_iconst (pc := 511) C dL_step_511 ?_
              exact J_zret (pc := 512) C dL_step_512 (by decide) (okL_pu (okL_pu (okL_pu hok hok7) hok14) hok36) h39 (by decide) (by decide)
            · have h40 := h40 cb
              refine J_iconst (pc := 507) C dL_step_507 ?_
              refine J_goto (pc := 508) (tgt := 512) C dL_step_508 (by decide) ?_
              exact J_zret (pc := 512) C dL_step_512 (by decide) (okL_pu (okL_pu (okL_pu hok hok7) hok14) hok36) h40 (by decide) (by decide)
    · have h11 := h11 cb
      refine J_iconst (pc := 472) C dL_step_472 ?_
      refine J_goto (pc := 473) (tgt := 477) C dL_step_473 (by decide) ?_
      refine J_e1 (pc := 477) C (emb_LC G (pu S S6)) (J_eV (pc := 477) C (emb_LC G (pu S S6)) (h11 rx6 (by decide)) dL_step_477 rfl rfl 0 rfl rfl (cwV 2 C.1.2.2.2.2 gL_step_X6_pin rfl rfl rfl (by decide +kernel) ⟨Nat.le_of_ble_eq_true rfl, Nat.le_of_ble_eq_true rfl⟩) (okC_L (okL_pu hok hok7)) (Nat.le_of_ble_eq_true rfl) ⟨Nat.le_of_ble_eq_true rfl, Nat.le_of_ble_eq_true rfl⟩) (fun E9 S9 ok9 q9 => q9.elim) (fun rv44 S42 hr45 hok43 h41 => ?_)
      have h41 := h41 hr45 hok43
      refine J_iload (pc := 480) C dL_step_480 rfl ?_
      refine J_iconst (pc := 482) C dL_step_482 ?_
      refine J_irem (pc := 483) C dL_step_483 rx5 (by decide) (by decide) ?_
      obtain ⟨h46, h47⟩ := h41
      refine J_if_ne (pc := 484) (tgt := 491) C dL_step_484 (by decide) o1 (fun cb => ?_) (fun cb => ?_)
      · have h46 := h46 cb
        refine J_iconst (pc := 491) C dL_step_491 ?_
        obtain ⟨h48, h49⟩ := h46
        refine J_icmp_ne (pc := 492) (tgt := 511) C dL_step_492 (by decide) hr45 (by decide) (fun cb => ?_) (fun cb => ?_)
        · have h48 := h48 cb
          refine J_iconst (pc := 511) C dL_step_511 ?_
          exact J_zret (pc := 512) C dL_step_512 (by decide) (okL_pu (okL_pu hok hok7) hok43) h48 (by decide) (by decide)
        · have h49 := h49 cb
          refine J_iload (pc := 495) C dL_step_495 rfl ?_
          obtain ⟨h50, h51⟩ := h49
          refine J_if_ne (pc := 497) (tgt := 507) C dL_step_497 (by decide) hr9 (fun cb => ?_) (fun cb => ?_)
          · have h50 := h50 cb
            refine J_iconst (pc := 507) C dL_step_507 ?_
            refine J_goto (pc := 508) (tgt := 512) C dL_step_508 (by decide) ?_
            exact J_zret (pc := 512) C dL_step_512 (by decide) (okL_pu (okL_pu hok hok7) hok43) h50 (by decide) (by decide)
          · have h51 := h51 cb
            refine J_aload_n (pc := 500) C dL_step_500 rfl ?_
            refine J_e1 (pc := 501) C (emb_LC G (pu (pu S S6) S42)) (J_eV (pc := 501) C (emb_LC G (pu (pu S S6) S42)) h51 dL_step_501 rfl rfl 0 rfl rfl (cwV 0 C.1.2.2.2.2 gL_step_X6_rank rfl rfl rfl (by decide +kernel) ⟨Nat.le_of_ble_eq_true rfl, Nat.le_of_ble_eq_true rfl⟩) (okC_L (okL_pu (okL_pu hok hok7) hok43)) (Nat.le_of_ble_eq_true rfl) ⟨Nat.le_of_ble_eq_true rfl, Nat.le_of_ble_eq_true rfl⟩) (fun E9 S9 ok9 q9 => q9.elim) (fun rv55 S53 hr56 hok54 h52 => ?_)
            have h52 := h52 hr56 hok54
            obtain ⟨h57, h58⟩ := h52
            refine J_if_lt (pc := 504) (tgt := 511) C dL_step_504 (by decide) hr56 (fun cb => ?_) (fun cb => ?_)
            · have h57 := h57 cb
              refine J_iconst (pc := 511) C dL_step_511 ?_
              exact J_zret (pc := 512) C dL_step_512 (by decide) (okL_pu (okL_pu (okL_pu hok hok7) hok43) hok54) h57 (by decide) (by decide)
            · have h58 := h58 cb
              refine J_iconst (pc := 507) C dL_step_507 ?_
              refine J_goto (pc := 508) (tgt := 512) C dL_step_508 (by decide) ?_
              exact J_zret (pc := 512) C dL_step_512 (by decide) (okL_pu (okL_pu (okL_pu hok hok7) hok43) hok54) h58 (by decide) (by decide)
      · have h47 := h47 cb
        refine J_iconst (pc := 487) C dL_step_487 ?_
        refine J_goto (pc := 488) (tgt := 492) C dL_step_488 (by decide) ?_
        obtain ⟨h59, h60⟩ := h47
        refine J_icmp_ne (pc := 492) (tgt := 511) C dL_step_492 (by decide) hr45 (by decide) (fun cb => ?_) (fun cb => ?_)
        · have h59 := h59 cb
          refine J_iconst (pc := 511) C dL_step_511 ?_
          exact J_zret (pc := 512) C dL_step_512 (by decide) (okL_pu (okL_pu hok hok7) hok43) h59 (by decide) (by decide)
        · have h60 := h60 cb
          refine J_iload (pc := 495) C dL_step_495 rfl ?_
          obtain ⟨h61, h62⟩ := h60
          refine J_if_ne (pc := 497) (tgt := 507) C dL_step_497 (by decide) hr9 (fun cb => ?_) (fun cb => ?_)
          · have h61 := h61 cb
            refine J_iconst (pc := 507) C dL_step_507 ?_
            refine J_goto (pc := 508) (tgt := 512) C dL_step_508 (by decide) ?_
            exact J_zret (pc := 512) C dL_step_512 (by decide) (okL_pu (okL_pu hok hok7) hok43) h61 (by decide) (by decide)
          · have h62 := h62 cb
            refine J_aload_n (pc := 500) C dL_step_500 rfl ?_
            refine J_e1 (pc := 501) C (emb_LC G (pu (pu S S6) S42)) (J_eV (pc := 501) C (emb_LC G (pu (pu S S6) S42)) h62 dL_step_501 rfl rfl 0 rfl rfl (cwV 0 C.1.2.2.2.2 gL_step_X6_rank rfl rfl rfl (by decide +kernel) ⟨Nat.le_of_ble_eq_true rfl, Nat.le_of_ble_eq_true rfl⟩) (okC_L (okL_pu (okL_pu hok hok7) hok43)) (Nat.le_of_ble_eq_true rfl) ⟨Nat.le_of_ble_eq_true rfl, Nat.le_of_ble_eq_true rfl⟩) (fun E9 S9 ok9 q9 => q9.elim) (fun rv66 S64 hr67 hok65 h63 => ?_)
            have h63 := h63 hr67 hok65
            obtain ⟨h68, h69⟩ := h63
            refine J_if_lt (pc := 504) (tgt := 511) C dL_step_504 (by decide) hr67 (fun cb => ?_) (fun cb => ?_)
            · have h68 := h68 cb
              refine J_iconst (pc := 511) C dL_step_511 ?_
              exact J_zret (pc := 512) C dL_step_512 (by decide) (okL_pu (okL_pu (okL_pu hok hok7) hok43) hok65) h68 (by decide) (by decide)
            · have h69 := h69 cb
              refine J_iconst (pc := 507) C dL_step_507 ?_
              refine J_goto (pc := 508) (tgt := 512) C dL_step_508 (by decide) ?_
              exact J_zret (pc := 512) C dL_step_512 (by decide) (okL_pu (okL_pu (okL_pu hok hok7) hok43) hok65) h69 (by decide) (by decide)
  · have h4 := h4 cb
    refine J_iconst (pc := 452) C dL_step_452 ?_
    refine J_goto (pc := 453) (tgt := 457) C dL_step_453 (by decide) ?_
    refine J_e1 (pc := 457) C (emb_LC G S) (J_eV (pc := 457) C (emb_LC G S) (h4 rx6 (by decide)) dL_step_457 rfl rfl 0 rfl rfl (cwV 2 C.1.2.2.2.2 gL_step_X6_pin rfl rfl rfl (by decide +kernel) ⟨Nat.le_of_ble_eq_true rfl, Nat.le_of_ble_eq_true rfl⟩) (okC_L hok) (Nat.le_of_ble_eq_true rfl) ⟨Nat.le_of_ble_eq_true rfl, Nat.le_of_ble_eq_true rfl⟩) (fun E9 S9 ok9 q9 => q9.elim) (fun rv73 S71 hr74 hok72 h70 => ?_)
    have h70 := h70 hr74 hok72
    refine J_istore (pc := 460) C dL_step_460 (by decide) ?_
    refine J_aload_n (pc := 462) C dL_step_462 rfl ?_
    refine J_iload (pc := 463) C dL_step_463 rfl ?_
    refine J_iload (pc := 465) C dL_step_465 rfl ?_
    refine J_iconst (pc := 467) C dL_step_467 ?_
    refine J_irem (pc := 468) C dL_step_468 rx5 (by decide) (by decide) ?_
    obtain ⟨h75, h76⟩ := h70
    refine J_if_ne (pc := 469) (tgt := 476) C dL_step_469 (by decide) o1 (fun cb => ?_) (fun cb => ?_)
    · have h75 := h75 cb
      refine J_iconst (pc := 476) C dL_step_476 ?_
      refine J_e1 (pc := 477) C (emb_LC G (pu S S71)) (J_eV (pc := 477) C (emb_LC G (pu S S71)) (h75 rx6 (by decide)) dL_step_477 rfl rfl 0 rfl rfl (cwV 2 C.1.2.2.2.2 gL_step_X6_pin rfl rfl rfl (by decide +kernel) ⟨Nat.le_of_ble_eq_true rfl, Nat.le_of_ble_eq_true rfl⟩) (okC_L (okL_pu hok hok72)) (Nat.le_of_ble_eq_true rfl) ⟨Nat.le_of_ble_eq_true rfl, Nat.le_of_ble_eq_true rfl⟩) (fun E9 S9 ok9 q9 => q9.elim) (fun rv80 S78 hr81 hok79 h77 => ?_)
      have h77 := h77 hr81 hok79
      refine J_iload (pc := 480) C dL_step_480 rfl ?_
      refine J_iconst (pc := 482) C dL_step_482 ?_
      refine J_irem (pc := 483) C dL_step_483 rx5 (by decide) (by decide) ?_
      obtain ⟨h82, h83⟩ := h77
      refine J_if_ne (pc := 484) (tgt := 491) C dL_step_484 (by decide) o1 (fun cb => ?_) (fun cb => ?_)
      · have h82 := h82 cb
        refine J_iconst (pc := 491) C dL_step_491 ?_
        obtain ⟨h84, h85⟩ := h82
        refine J_icmp_ne (pc := 492) (tgt := 511) C dL_step_492 (by decide) hr81 (by decide) (fun cb => ?_) (fun cb => ?_)
        · have h84 := h84 cb
          refine J_iconst (pc := 511) C dL_step_511 ?_
          exact J_zret (pc := 512) C dL_step_512 (by decide) (okL_pu (okL_pu hok hok72) hok79) h84 (by decide) (by decide)
        · have h85 := h85 cb
          refine J_iload (pc := 495) C dL_step_495 rfl ?_
          obtain ⟨h86, h87⟩ := h85
          refine J_if_ne (pc := 497) (tgt := 507) C dL_step_497 (by decide) hr74 (fun cb => ?_) (fun cb => ?_)
          · have h86 := h86 cb
            refine J_iconst (pc := 507) C dL_step_507 ?_
            refine J_goto (pc := 508) (tgt := 512) C dL_step_508 (by decide) ?_
            exact J_zret (pc := 512) C dL_step_512 (by decide) (okL_pu (okL_pu hok hok72) hok79) h86 (by decide) (by decide)
          · have h87 := h87 cb
            refine J_aload_n (pc := 500) C dL_step_500 rfl ?_
            refine J_e1 (pc := 501) C (emb_LC G (pu (pu S S71) S78)) (J_eV (pc := 501) C (emb_LC G (pu (pu S S71) S78)) h87 dL_step_501 rfl rfl 0 rfl rfl (cwV 0 C.1.2.2.2.2 gL_step_X6_rank rfl rfl rfl (by decide +kernel) ⟨Nat.le_of_ble_eq_true rfl, Nat.le_of_ble_eq_true rfl⟩) (okC_L (okL_pu (okL_pu hok hok72) hok79)) (Nat.le_of_ble_eq_true rfl) ⟨Nat.le_of_ble_eq_true rfl, Nat.le_of_ble_eq_true rfl⟩) (fun E9 S9 ok9 q9 => q9.elim) (fun rv91 S89 hr92 hok90 h88 => ?_)
            have h88 := h88 hr92 hok90
            obtain ⟨h93, h94⟩ := h88
            refine J_if_lt (pc := 504) (tgt := 511) C dL_step_504 (by decide) hr92 (fun cb => ?_) (fun cb => ?_)
            · have h93 := h93 cb
              refine J_iconst (pc := 511) C dL_step_511 ?_
              exact J_zret (pc := 512) C dL_step_512 (by decide) (okL_pu (okL_pu (okL_pu hok hok72) hok79) hok90) h93 (by decide) (by decide)
            · have h94 := h94 cb
              refine J_iconst (pc := 507) C dL_step_507 ?_
              refine J_goto (pc := 508) (tgt := 512) C dL_step_508 (by decide) ?_
              exact J_zret (pc := 512) C dL_step_512 (by decide) (okL_pu (okL_pu (okL_pu hok hok72) hok79) hok90) h94 (by decide) (by decide)
      · have h83 := h83 cb
        refine J_iconst (pc := 487) C dL_step_487 ?_
        refine J_goto (pc := 488) (tgt := 492) C dL_step_488 (by decide) ?_
        obtain ⟨h95, h96⟩ := h83
        refine J_icmp_ne (pc := 492) (tgt := 511) C dL_step_492 (by decide) hr81 (by decide) (fun cb => ?_) (fun cb => ?_)
        · have h95 := h95 cb
          refine J_iconst (pc := 511) C dL_step_511 ?_
          exact J_zret (pc := 512) C dL_step_512 (by decide) (okL_pu (okL_pu hok hok72) hok79) h95 (by decide) (by decide)
        · have h96 := h96 cb
          refine J_iload (pc := 495) C dL_step_495 rfl ?_
          obtain ⟨h97, h98⟩ := h96
          refine J_if_ne (pc := 497) (tgt := 507) C dL_step_497 (by decide) hr74 (fun cb => ?_) (fun cb => ?_)
          · have h97 := h97 cb
            refine J_iconst (pc := 507) C dL_step_507 ?_
            refine J_goto (pc := 508) (tgt := 512) C dL_step_508 (by decide) ?_
            exact J_zret (pc := 512) C dL_step_512 (by decide) (okL_pu (okL_pu hok hok72) hok79) h97 (by decide) (by decide)
          · have h98 := h98 cb
            refine J_aload_n (pc := 500) C dL_step_500 rfl ?_
            refine J_e1 (pc := 501) C (emb_LC G (pu (pu S S71) S78)) (J_eV (pc := 501) C (emb_LC G (pu (pu S S71) S78)) h98 dL_step_501 rfl rfl 0 rfl rfl (cwV 0 C.1.2.2.2.2 gL_step_X6_rank rfl rfl rfl (by decide +kernel) ⟨Nat.le_of_ble_eq_true rfl, Nat.le_of_ble_eq_true rfl⟩) (okC_L (okL_pu (okL_pu hok hok72) hok79)) (Nat.le_of_ble_eq_true rfl) ⟨Nat.le_of_ble_eq_true rfl, Nat.le_of_ble_eq_true rfl⟩) (fun E9 S9 ok9 q9 => q9.elim) (fun rv102 S100 hr103 hok101 h99 => ?_)
            have h99 := h99 hr103 hok101
            obtain ⟨h104, h105⟩ := h99
            refine J_if_lt (pc := 504) (tgt := 511) C dL_step_504 (by decide) hr103 (fun cb => ?_) (fun cb => ?_)
            · have h104 := h104 cb
              refine J_iconst (pc := 511) C dL_step_511 ?_
              exact J_zret (pc := 512) C dL_step_512 (by decide) (okL_pu (okL_pu (okL_pu hok hok72) hok79) hok101) h104 (by decide) (by decide)
            · have h105 := h105 cb
              refine J_iconst (pc := 507) C dL_step_507 ?_
              refine J_goto (pc := 508) (tgt := 512) C dL_step_508 (by decide) ?_
              exact J_zret (pc := 512) C dL_step_512 (by decide) (okL_pu (okL_pu (okL_pu hok hok72) hok79) hok101) h105 (by decide) (by decide)
    · have h76 := h76 cb
      refine J_iconst (pc := 472) C dL_step_472 ?_
      refine J_goto (pc := 473) (tgt := 477) C dL_step_473 (by decide) ?_
      refine J_e1 (pc := 477) C (emb_LC G (pu S S71)) (J_eV (pc := 477) C (emb_LC G (pu S S71)) (h76 rx6 (by decide)) dL_step_477 rfl rfl 0 rfl rfl (cwV 2 C.1.2.2.2.2 gL_step_X6_pin rfl rfl rfl (by decide +kernel) ⟨Nat.le_of_ble_eq_true rfl, Nat.le_of_ble_eq_true rfl⟩) (okC_L (okL_pu hok hok72)) (Nat.le_of_ble_eq_true rfl) ⟨Nat.le_of_ble_eq_true rfl, Nat.le_of_ble_eq_true rfl⟩) (fun E9 S9 ok9 q9 => q9.elim) (fun rv109 S107 hr110 hok108 h106 => ?_)
      have h106 := h106 hr110 hok108
      refine J_iload (pc := 480) C dL_step_480 rfl ?_
      refine J_iconst (pc := 482) C dL_step_482 ?_
      refine J_irem (pc := 483) C dL_step_483 rx5 (by decide) (by decide) ?_
      obtain ⟨h111, h112⟩ := h106
      refine J_if_ne (pc := 484) (tgt := 491) C dL_step_484 (by decide) o1 (fun cb => ?_) (fun cb => ?_)
      · have h111 := h111 cb
        refine J_iconst (pc := 491) C dL_step_491 ?_
        obtain ⟨h113, h114⟩ := h111
        refine J_icmp_ne (pc := 492) (tgt := 511) C dL_step_492 (by decide) hr110 (by decide) (fun cb => ?_) (fun cb => ?_)
        · have h113 := h113 cb
          refine J_iconst (pc := 511) C dL_step_511 ?_
          exact J_zret (pc := 512) C dL_step_512 (by decide) (okL_pu (okL_pu hok hok72) hok108) h113 (by decide) (by decide)
        · have h114 := h114 cb
          refine J_iload (pc := 495) C dL_step_495 rfl ?_
          obtain ⟨h115, h116⟩ := h114
          refine J_if_ne (pc := 497) (tgt := 507) C dL_step_497 (by decide) hr74 (fun cb => ?_) (fun cb => ?_)
          · have h115 := h115 cb
            refine J_iconst (pc := 507) C dL_step_507 ?_
            refine J_goto (pc := 508) (tgt := 512) C dL_step_508 (by decide) ?_
            exact J_zret (pc := 512) C dL_step_512 (by decide) (okL_pu (okL_pu hok hok72) hok108) h115 (by decide) (by decide)
          · have h116 := h116 cb
            refine J_aload_n (pc := 500) C dL_step_500 rfl ?_
            refine J_e1 (pc := 501) C (emb_LC G (pu (pu S S71) S107)) (J_eV (pc := 501) C (emb_LC G (pu (pu S S71) S107)) h116 dL_step_501 rfl rfl 0 rfl rfl (cwV 0 C.1.2.2.2.2 gL_step_X6_rank rfl rfl rfl (by decide +kernel) ⟨Nat.le_of_ble_eq_true rfl, Nat.le_of_ble_eq_true rfl⟩) (okC_L (okL_pu (okL_pu hok hok72) hok108)) (Nat.le_of_ble_eq_true rfl) ⟨Nat.le_of_ble_eq_true rfl, Nat.le_of_ble_eq_true rfl⟩) (fun E9 S9 ok9 q9 => q9.elim) (fun rv120 S118 hr121 hok119 h117 => ?_)
            have h117 := h117 hr121 hok119
            obtain ⟨h122, h123⟩ := h117
            refine J_if_lt (pc := 504) (tgt := 511) C dL_step_504 (by decide) hr121 (fun cb => ?_) (fun cb => ?_)
            · have h122 := h122 cb
              refine J_iconst (pc := 511) C dL_step_511 ?_
              exact J_zret (pc := 512) C dL_step_512 (by decide) (okL_pu (okL_pu (okL_pu hok hok72) hok108) hok119) h122 (by decide) (by decide)
            · have h123 := h123 cb
              refine J_iconst (pc := 507) C dL_step_507 ?_
              refine J_goto (pc := 508) (tgt := 512) C dL_step_508 (by decide) ?_
              exact J_zret (pc := 512) C dL_step_512 (by decide) (okL_pu (okL_pu (okL_pu hok hok72) hok108) hok119) h123 (by decide) (by decide)
      · have h112 := h112 cb
        refine J_iconst (pc := 487) C dL_step_487 ?_
        refine J_goto (pc := 488) (tgt := 492) C dL_step_488 (by decide) ?_
        obtain ⟨h124, h125⟩ := h112
        refine J_icmp_ne (pc := 492) (tgt := 511) C dL_step_492 (by decide) hr110 (by decide) (fun cb => ?_) (fun cb => ?_)
        · have h124 := h124 cb
          refine J_iconst (pc := 511) C dL_step_511 ?_
          exact J_zret (pc := 512) C dL_step_512 (by decide) (okL_pu (okL_pu hok hok72) hok108) h124 (by decide) (by decide)
        · have h125 := h125 cb
          refine J_iload (pc := 495) C dL_step_495 rfl ?_
          obtain ⟨h126, h127⟩ := h125
          refine J_if_ne (pc := 497) (tgt := 507) C dL_step_497 (by decide) hr74 (fun cb => ?_) (fun cb => ?_)
          · have h126 := h126 cb
            refine J_iconst (pc := 507) C dL_step_507 ?_
            refine J_goto (pc := 508) (tgt := 512) C dL_step_508 (by decide) ?_
            exact J_zret (pc := 512) C dL_step_512 (by decide) (okL_pu (okL_pu hok hok72) hok108) h126 (by decide) (by decide)
          · have h127 := h127 cb
            refine J_aload_n (pc := 500) C dL_step_500 rfl ?_
            refine J_e1 (pc := 501) C (emb_LC G (pu (pu S S71) S107)) (J_eV (pc := 501) C (emb_LC G (pu (pu S S71) S107)) h127 dL_step_501 rfl rfl 0 rfl rfl (cwV 0 C.1.2.2.2.2 gL_step_X6_rank rfl rfl rfl (by decide +kernel) ⟨Nat.le_of_ble_eq_true rfl, Nat.le_of_ble_eq_true rfl⟩) (okC_L (okL_pu (okL_pu hok hok72) hok108)) (Nat.le_of_ble_eq_true rfl) ⟨Nat.le_of_ble_eq_true rfl, Nat.le_of_ble_eq_true rfl⟩) (fun E9 S9 ok9 q9 => q9.elim) (fun rv131 S129 hr132 hok130 h128 => ?_)
            have h128 := h128 hr132 hok130
            obtain ⟨h133, h134⟩ := h128
            refine J_if_lt (pc := 504) (tgt := 511) C dL_step_504 (by decide) hr132 (fun cb => ?_) (fun cb => ?_)
            · have h133 := h133 cb
              refine J_iconst (pc := 511) C dL_step_511 ?_
              exact J_zret (pc := 512) C dL_step_512 (by decide) (okL_pu (okL_pu (okL_pu hok hok72) hok108) hok130) h133 (by decide) (by decide)
            · have h134 := h134 cb
              refine J_iconst (pc := 507) C dL_step_507 ?_
              refine J_goto (pc := 508) (tgt := 512) C dL_step_508 (by decide) ?_
              exact J_zret (pc := 512) C dL_step_512 (by decide) (okL_pu (okL_pu (okL_pu hok hok72) hok108) hok130) h134 (by decide) (by decide)
set_option maxRecDepth 100000 in
set_option maxHeartbeats 4000000 in
theorem vc_L_step_513 {x6 x9 x10 : Int} {S : St} {Qr : Int → St → Prop} {Qx : String → St → Prop} (h : r32 x6 → r32 x9 → r32 x10 → okL S → M_X6_move x6 x9 x10 S (fun _ S2 => okC S2 → M_X6_ofJoint x6 0 (pu S S2) (fun rv9 S7 => r32 rv9 → okC S7 → ((rv9 ≠ x9 → Qr 0 (pu (pu S S2) S7)) ∧ (rv9 = x9 → M_X6_ofJoint x6 1 (pu (pu S S2) S7) (fun rv16 S14 => r32 rv16 → okC S14 → ((rv16 ≠ x10 → Qr 0 (pu (pu (pu S S2) S7) S14)) ∧ (rv16 = x10 → Qr 1 (pu (pu (pu S S2) S7) S14)))) (fun _ _ => False)))) (fun _ _ => False)) (fun _ _ => False)) : R_L_step_513 x6 x9 x10 S Qr Qx := by
  intro rx6 rx9 rx10
  intro p l e s m args below meth c G A C hok
  have h := h rx6 rx9 rx10 hok
  replace C : Cx wL cL_step 19 RL wsL_step (some .boolean) [] p l s m args meth c G A := C
  show J wL 19 rmL_step p l e s m args below meth c G A (QQ 1 wL okL G Qr Qx A below args s rmL_step.cells rmL_step.slots) 0 0 S [some (.ref (G.2.2 0)), none, none, none, none, none, some (iV x6), none, none, some (iV x9), some (iV x10), none, none, none, none, none, none, none, none] [] 513
  refine J_aload_n (pc := 513) C dL_step_513 rfl ?_
  refine J_iload (pc := 514) C dL_step_514 rfl ?_
  refine J_iload (pc := 516) C dL_step_516 rfl ?_
  refine J_iload (pc := 518) C dL_step_518 rfl ?_
  refine J_e0 (pc := 520) C (emb_LC G S) (J_eV (pc := 520) C (emb_LC G S) (h rx6 rx9 rx10) dL_step_520 rfl rfl 0 rfl rfl (cwV 3 C.1.2.2.2.2 gL_step_X6_move rfl rfl rfl (by decide +kernel) ⟨Nat.le_of_ble_eq_true rfl, Nat.le_of_ble_eq_true rfl⟩) (okC_L hok) (Nat.le_of_ble_eq_true rfl) ⟨Nat.le_of_ble_eq_true rfl, Nat.le_of_ble_eq_true rfl⟩) (fun E9 S9 ok9 q9 => q9.elim) (fun S2 hok3 h1 => ?_)
  have h1 := h1 hok3
  refine J_aload_n (pc := 523) C dL_step_523 rfl ?_
  refine J_iload (pc := 524) C dL_step_524 rfl ?_
  refine J_iconst (pc := 526) C dL_step_526 ?_
  refine J_e1 (pc := 527) C (emb_LC G (pu S S2)) (J_eV (pc := 527) C (emb_LC G (pu S S2)) (h1 rx6 (by decide)) dL_step_527 rfl rfl 0 rfl rfl (cwV 2 C.1.2.2.2.2 gL_step_X6_ofJoint rfl rfl rfl (by decide +kernel) ⟨Nat.le_of_ble_eq_true rfl, Nat.le_of_ble_eq_true rfl⟩) (okC_L (okL_pu hok hok3)) (Nat.le_of_ble_eq_true rfl) ⟨Nat.le_of_ble_eq_true rfl, Nat.le_of_ble_eq_true rfl⟩) (fun E9 S9 ok9 q9 => q9.elim) (fun rv9 S7 hr10 hok8 h6 => ?_)
  have h6 := h6 hr10 hok8
  refine J_iload (pc := 530) C dL_step_530 rfl ?_
  obtain ⟨h11, h12⟩ := h6
  refine J_icmp_ne (pc := 532) (tgt := 551) C dL_step_532 (by decide) hr10 rx9 (fun cb => ?_) (fun cb => ?_)
  · have h11 := h11 cb
    refine J_iconst (pc := 551) C dL_step_551 ?_
    exact J_zret (pc := 552) C dL_step_552 (by decide) (okL_pu (okL_pu hok hok3) hok8) h11 (by decide) (by decide)
  · have h12 := h12 cb
    refine J_aload_n (pc := 535) C dL_step_535 rfl ?_
    refine J_iload (pc := 536) C dL_step_536 rfl ?_
    refine J_iconst (pc := 538) C dL_step_538 ?_
    refine J_e1 (pc := 539) C (emb_LC G (pu (pu S S2) S7)) (J_eV (pc := 539) C (emb_LC G (pu (pu S S2) S7)) (h12 rx6 (by decide)) dL_step_539 rfl rfl 0 rfl rfl (cwV 2 C.1.2.2.2.2 gL_step_X6_ofJoint rfl rfl rfl (by decide +kernel) ⟨Nat.le_of_ble_eq_true rfl, Nat.le_of_ble_eq_true rfl⟩) (okC_L (okL_pu (okL_pu hok hok3) hok8)) (Nat.le_of_ble_eq_true rfl) ⟨Nat.le_of_ble_eq_true rfl, Nat.le_of_ble_eq_true rfl⟩) (fun E9 S9 ok9 q9 => q9.elim) (fun rv16 S14 hr17 hok15 h13 => ?_)
    have h13 := h13 hr17 hok15
    refine J_iload (pc := 542) C dL_step_542 rfl ?_
    obtain ⟨h18, h19⟩ := h13
    refine J_icmp_ne (pc := 544) (tgt := 551) C dL_step_544 (by decide) hr17 rx10 (fun cb => ?_) (fun cb => ?_)
    · have h18 := h18 cb
      refine J_iconst (pc := 551) C dL_step_551 ?_
      exact J_zret (pc := 552) C dL_step_552 (by decide) (okL_pu (okL_pu (okL_pu hok hok3) hok8) hok15) h18 (by decide) (by decide)
    · have h19 := h19 cb
      refine J_iconst (pc := 547) C dL_step_547 ?_
      refine J_goto (pc := 548) (tgt := 552) C dL_step_548 (by decide) ?_
      exact J_zret (pc := 552) C dL_step_552 (by decide) (okL_pu (okL_pu (okL_pu hok hok3) hok8) hok15) h19 (by decide) (by decide)
set_option maxRecDepth 100000 in
set_option maxHeartbeats 4000000 in
theorem vc_L_step_553 {x6 x7 x9 x10 : Int} {S : St} {Qr : Int → St → Prop} {Qx : String → St → Prop} (h : r32 x6 → r32 x7 → r32 x9 → r32 x10 → okL S → ((30 < (S 70 1) → Qr 1 S) ∧ ((S 70 1) ≤ 30 → M_L_isGrown x6 x7 x9 x10 S (fun rv6 S4 => r32 rv6 → okL S4 → ((rv6 = 0 → Qr 0 S4) ∧ (rv6 ≠ 0 → Qr 1 S4))) (fun _ _ => False)))) : R_L_step_553 x6 x7 x9 x10 S Qr Qx := by
  intro rx6 rx7 rx9 rx10
  intro p l e s m args below meth c G A C hok
  have h := h rx6 rx7 rx9 rx10 hok
  replace C : Cx wL cL_step 19 RL wsL_step (some .boolean) [] p l s m args meth c G A := C
  show J wL 19 rmL_step p l e s m args below meth c G A (QQ 1 wL okL G Qr Qx A below args s rmL_step.cells rmL_step.slots) 0 0 S [some (.ref (G.2.2 0)), some (.ref (G.2.2 70)), some (.ref (G.2.2 71)), none, none, none, some (iV x6), some (iV x7), none, some (iV x9), some (iV x10), none, none, none, none, none, none, none, none] [] 553
  refine J_aload_n (pc := 553) C dL_step_553 rfl ?_
  refine J_iconst (pc := 554) C dL_step_554 ?_
  refine J_iald (pc := 555) C dL_step_555 67 70 (wL_70 G S) (by decide) (by decide) ?_
  refine J_bipush (pc := 556) C dL_step_556 (by decide) ?_
  obtain ⟨h1, h2⟩ := h
  refine J_icmp_gt (pc := 558) (tgt := 578) C dL_step_558 (by decide) (hok 70 1) (by decide) (fun cb => ?_) (fun cb => ?_)
  · have h1 := h1 cb
    refine J_iconst (pc := 578) C dL_step_578 ?_
    refine J_goto (pc := 579) (tgt := 583) C dL_step_579 (by decide) ?_
    exact J_zret (pc := 583) C dL_step_583 (by decide) hok h1 (by decide) (by decide)
  · have h2 := h2 cb
    refine J_aload_n (pc := 561) C dL_step_561 rfl ?_
    refine J_aload_n (pc := 562) C dL_step_562 rfl ?_
    refine J_aload_n (pc := 563) C dL_step_563 rfl ?_
    refine J_iload (pc := 564) C dL_step_564 rfl ?_
    refine J_iload (pc := 566) C dL_step_566 rfl ?_
    refine J_iload (pc := 568) C dL_step_568 rfl ?_
    refine J_iload (pc := 570) C dL_step_570 rfl ?_
    refine J_c1 (pc := 572) C (J_rS (pc := 572) C (h2 rx6 rx7 rx9 rx10) dL_step_572 rfl rfl (va_cwS 7 C.1.2.2.2.2 gL_step_L_isGrown rfl rfl rfl (by decide +kernel) ⟨Nat.le_of_ble_eq_true rfl, Nat.le_of_ble_eq_true rfl⟩) hok (Nat.le_of_ble_eq_true rfl) ⟨Nat.le_of_ble_eq_true rfl, Nat.le_of_ble_eq_true rfl⟩) (fun E9 S9 ok9 q9 => q9.elim) (fun rv6 S4 hr7 hok5 h3 => ?_)
    have h3 := h3 hr7 hok5
    obtain ⟨h8, h9⟩ := h3
    refine J_if_eq (pc := 575) (tgt := 582) C dL_step_575 (by decide) hr7 (fun cb => ?_) (fun cb => ?_)
    · have h8 := h8 cb
      refine J_iconst (pc := 582) C dL_step_582 ?_
      exact J_zret (pc := 583) C dL_step_583 (by decide) hok5 h8 (by decide) (by decide)
    · have h9 := h9 cb
      refine J_iconst (pc := 578) C dL_step_578 ?_
      refine J_goto (pc := 579) (tgt := 583) C dL_step_579 (by decide) ?_
      exact J_zret (pc := 583) C dL_step_583 (by decide) hok5 h9 (by decide) (by decide)
set_option maxRecDepth 100000 in
set_option maxHeartbeats 4000000 in
theorem vc_L_step_584 {x6 x8 x9 x10 : Int} {S : St} {Qr : Int → St → Prop} {Qx : String → St → Prop} (h : r32 x6 → r32 x8 → r32 x9 → r32 x10 → okL S → ((29 < (S 70 1) → Qr 1 S) ∧ ((S 70 1) ≤ 29 → M_L_isSplit x8 x6 x9 x10 S (fun rv6 S4 => r32 rv6 → okL S4 → ((rv6 = 0 → Qr 0 S4) ∧ (rv6 ≠ 0 → Qr 1 S4))) (fun _ _ => False)))) : R_L_step_584 x6 x8 x9 x10 S Qr Qx := by
  intro rx6 rx8 rx9 rx10
  intro p l e s m args below meth c G A C hok
  have h := h rx6 rx8 rx9 rx10 hok
  replace C : Cx wL cL_step 19 RL wsL_step (some .boolean) [] p l s m args meth c G A := C
  show J wL 19 rmL_step p l e s m args below meth c G A (QQ 1 wL okL G Qr Qx A below args s rmL_step.cells rmL_step.slots) 0 0 S [some (.ref (G.2.2 0)), some (.ref (G.2.2 70)), some (.ref (G.2.2 71)), none, none, none, some (iV x6), none, some (iV x8), some (iV x9), some (iV x10), none, none, none, none, none, none, none, none] [] 584
  refine J_aload_n (pc := 584) C dL_step_584 rfl ?_
  refine J_iconst (pc := 585) C dL_step_585 ?_
  refine J_iald (pc := 586) C dL_step_586 67 70 (wL_70 G S) (by decide) (by decide) ?_
  refine J_bipush (pc := 587) C dL_step_587 (by decide) ?_
  obtain ⟨h1, h2⟩ := h
  refine J_icmp_gt (pc := 589) (tgt := 609) C dL_step_589 (by decide) (hok 70 1) (by decide) (fun cb => ?_) (fun cb => ?_)
  · have h1 := h1 cb
    refine J_iconst (pc := 609) C dL_step_609 ?_
    refine J_goto (pc := 610) (tgt := 614) C dL_step_610 (by decide) ?_
    exact J_zret (pc := 614) C dL_step_614 (by decide) hok h1 (by decide) (by decide)
  · have h2 := h2 cb
    refine J_aload_n (pc := 592) C dL_step_592 rfl ?_
    refine J_aload_n (pc := 593) C dL_step_593 rfl ?_
    refine J_aload_n (pc := 594) C dL_step_594 rfl ?_
    refine J_iload (pc := 595) C dL_step_595 rfl ?_
    refine J_iload (pc := 597) C dL_step_597 rfl ?_
    refine J_iload (pc := 599) C dL_step_599 rfl ?_
    refine J_iload (pc := 601) C dL_step_601 rfl ?_
    refine J_c1 (pc := 603) C (J_rS (pc := 603) C (h2 rx8 rx6 rx9 rx10) dL_step_603 rfl rfl (va_cwS 7 C.1.2.2.2.2 gL_step_L_isSplit rfl rfl rfl (by decide +kernel) ⟨Nat.le_of_ble_eq_true rfl, Nat.le_of_ble_eq_true rfl⟩) hok (Nat.le_of_ble_eq_true rfl) ⟨Nat.le_of_ble_eq_true rfl, Nat.le_of_ble_eq_true rfl⟩) (fun E9 S9 ok9 q9 => q9.elim) (fun rv6 S4 hr7 hok5 h3 => ?_)
    have h3 := h3 hr7 hok5
    obtain ⟨h8, h9⟩ := h3
    refine J_if_eq (pc := 606) (tgt := 613) C dL_step_606 (by decide) hr7 (fun cb => ?_) (fun cb => ?_)
    · have h8 := h8 cb
      refine J_iconst (pc := 613) C dL_step_613 ?_
      exact J_zret (pc := 614) C dL_step_614 (by decide) hok5 h8 (by decide) (by decide)
    · have h9 := h9 cb
      refine J_iconst (pc := 609) C dL_step_609 ?_
      refine J_goto (pc := 610) (tgt := 614) C dL_step_610 (by decide) ?_
      exact J_zret (pc := 614) C dL_step_614 (by decide) hok5 h9 (by decide) (by decide)
set_option maxRecDepth 100000 in
set_option maxHeartbeats 4000000 in
theorem vc_L_step_615 {S : St} {Qr : Int → St → Prop} {Qx : String → St → Prop} (h : okL S → M_L_undoes S (fun rv4 S2 => r32 rv4 → okL S2 → ((rv4 ≠ (-2) → (r32 ((S2 70 0) - 1) ∧ ((rv4 ≠ (-2) → (r32 ((S2 70 2) - 1) ∧ ((rv4 = (-2) → Qr 1 (up (up S2 70 0 ((S2 70 0) - 1)) 70 2 ((S2 70 2) - 1))) ∧ (rv4 ≠ (-2) → ((rv4 ≠ ((S2 70 2) - 1) → Qr 0 (up (up S2 70 0 ((S2 70 0) - 1)) 70 2 ((S2 70 2) - 1))) ∧ (rv4 = ((S2 70 2) - 1) → Qr 1 (up (up S2 70 0 ((S2 70 0) - 1)) 70 2 ((S2 70 2) - 1)))))))) ∧ (rv4 = (-2) → (r32 ((S2 70 2) - 0) ∧ ((rv4 = (-2) → Qr 1 (up (up S2 70 0 ((S2 70 0) - 1)) 70 2 ((S2 70 2) - 0))) ∧ (rv4 ≠ (-2) → ((rv4 ≠ ((S2 70 2) - 0) → Qr 0 (up (up S2 70 0 ((S2 70 0) - 1)) 70 2 ((S2 70 2) - 0))) ∧ (rv4 = ((S2 70 2) - 0) → Qr 1 (up (up S2 70 0 ((S2 70 0) - 1)) 70 2 ((S2 70 2) - 0))))))))))) ∧ (rv4 = (-2) → (r32 ((S2 70 0) - 0) ∧ ((rv4 ≠ (-2) → (r32 ((S2 70 2) - 1) ∧ ((rv4 = (-2) → Qr 1 (up (up S2 70 0 ((S2 70 0) - 0)) 70 2 ((S2 70 2) - 1))) ∧ (rv4 ≠ (-2) → ((rv4 ≠ ((S2 70 2) - 1) → Qr 0 (up (up S2 70 0 ((S2 70 0) - 0)) 70 2 ((S2 70 2) - 1))) ∧ (rv4 = ((S2 70 2) - 1) → Qr 1 (up (up S2 70 0 ((S2 70 0) - 0)) 70 2 ((S2 70 2) - 1)))))))) ∧ (rv4 = (-2) → (r32 ((S2 70 2) - 0) ∧ ((rv4 = (-2) → Qr 1 (up (up S2 70 0 ((S2 70 0) - 0)) 70 2 ((S2 70 2) - 0))) ∧ (rv4 ≠ (-2) → ((rv4 ≠ ((S2 70 2) - 0) → Qr 0 (up (up S2 70 0 ((S2 70 0) - 0)) 70 2 ((S2 70 2) - 0))) ∧ (rv4 = ((S2 70 2) - 0) → Qr 1 (up (up S2 70 0 ((S2 70 0) - 0)) 70 2 ((S2 70 2) - 0))))))))))))) (fun _ _ => False)) : R_L_step_615 S Qr Qx := by
  intro p l e s m args below meth c G A C hok
  have h := h hok
  replace C : Cx wL cL_step 19 RL wsL_step (some .boolean) [] p l s m args meth c G A := C
  show J wL 19 rmL_step p l e s m args below meth c G A (QQ 1 wL okL G Qr Qx A below args s rmL_step.cells rmL_step.slots) 0 0 S [some (.ref (G.2.2 0)), some (.ref (G.2.2 70)), none, none, none, none, none, none, none, none, none, none, none, none, none, none, none, none, none] [] 615
  refine J_aload_n (pc := 615) C dL_step_615 rfl ?_
  refine J_c1 (pc := 616) C (J_rSX (pc := 616) C h dL_step_616 rfl rfl (vx_cwSW 1 C.1.2.2.2.2 gL_step_L_undoes rfl rfl rfl (by decide +kernel) ⟨Nat.le_of_ble_eq_true rfl, Nat.le_of_ble_eq_true rfl⟩) hok (Nat.le_of_ble_eq_true rfl) ⟨Nat.le_of_ble_eq_true rfl, Nat.le_of_ble_eq_true rfl⟩) (fun E9 S9 ok9 q9 => q9.elim) (fun rv4 S2 hr5 hok3 h1 => ?_)
  have h1 := h1 hr5 hok3
  refine J_istore (pc := 619) C dL_step_619 (by decide) ?_
  refine J_aload_n (pc := 621) C dL_step_621 rfl ?_
  refine J_iconst (pc := 622) C dL_step_622 ?_
  refine J_dup2 (pc := 623) C dL_step_623 rfl rfl ?_
  refine J_iald (pc := 624) C dL_step_624 67 70 (wL_70 G S2) (by decide) (by decide) ?_
  refine J_iload (pc := 625) C dL_step_625 rfl ?_
  refine J_bipush (pc := 627) C dL_step_627 (by decide) ?_
  obtain ⟨h6, h7⟩ := h1
  refine J_icmp_ne (pc := 629) (tgt := 636) C dL_step_629 (by decide) hr5 (by decide) (fun cb => ?_) (fun cb => ?_)
  · have h6 := h6 cb
    refine J_iconst (pc := 636) C dL_step_636 ?_
    refine J_isub (pc := 637) C dL_step_637 ?_
    obtain ⟨o8, h9⟩ := h6
    refine J_iast (pc := 638) C dL_step_638 67 70 (wL_70 G S2) (by decide) (by decide) (sL_70 G S2 0 ((S2 70 0) - 1)) ?_
    have hok10 := okL_up (k := 70) (j := 0) hok3 (show rngL 70 ((S2 70 0) - 1) from o8)
    refine J_aload_n (pc := 639) C dL_step_639 rfl ?_
    refine J_iconst (pc := 640) C dL_step_640 ?_
    refine J_dup2 (pc := 641) C dL_step_641 rfl rfl ?_
    refine J_iald (pc := 642) C dL_step_642 67 70 (wL_70 G (up S2 70 0 ((S2 70 0) - 1))) (by decide) (by decide) ?_
    refine J_iload (pc := 643) C dL_step_643 rfl ?_
    refine J_bipush (pc := 645) C dL_step_645 (by decide) ?_
    obtain ⟨h11, h12⟩ := h9
    refine J_icmp_ne (pc := 647) (tgt := 654) C dL_step_647 (by decide) hr5 (by decide) (fun cb => ?_) (fun cb => ?_)
    · have h11 := h11 cb
      refine J_iconst (pc := 654) C dL_step_654 ?_
      refine J_isub (pc := 655) C dL_step_655 ?_
      obtain ⟨o13, h14⟩ := h11
      refine J_iast (pc := 656) C dL_step_656 67 70 (wL_70 G (up S2 70 0 ((S2 70 0) - 1))) (by decide) (by decide) (sL_70 G (up S2 70 0 ((S2 70 0) - 1)) 2 ((S2 70 2) - 1)) ?_
      have hok15 := okL_up (k := 70) (j := 2) hok10 (show rngL 70 ((S2 70 2) - 1) from o13)
      refine J_iload (pc := 657) C dL_step_657 rfl ?_
      refine J_bipush (pc := 659) C dL_step_659 (by decide) ?_
      obtain ⟨h16, h17⟩ := h14
      refine J_icmp_eq (pc := 661) (tgt := 672) C dL_step_661 (by decide) hr5 (by decide) (fun cb => ?_) (fun cb => ?_)
      · have h16 := h16 cb
        refine J_iconst (pc := 672) C dL_step_672 ?_
        refine J_goto (pc := 673) (tgt := 677) C dL_step_673 (by decide) ?_
        exact J_zret (pc := 677) C dL_step_677 (by decide) hok15 h16 (by decide) (by decide)
      · have h17 := h17 cb
        refine J_iload (pc := 664) C dL_step_664 rfl ?_
        refine J_aload_n (pc := 666) C dL_step_666 rfl ?_
        refine J_iconst (pc := 667) C dL_step_667 ?_
        refine J_iald (pc := 668) C dL_step_668 67 70 (wL_70 G (up (up S2 70 0 ((S2 70 0) - 1)) 70 2 ((S2 70 2) - 1))) (by decide) (by decide) ?_
        obtain ⟨h18, h19⟩ := h17
        refine J_icmp_ne (pc := 669) (tgt := 676) C dL_step_669 (by decide) hr5 o13 (fun cb => ?_) (fun cb => ?_)
        · have h18 := h18 cb
          refine J_iconst (pc := 676) C dL_step_676 ?_
          exact J_zret (pc := 677) C dL_step_677 (by decide) hok15 h18 (by decide) (by decide)
        · have h19 := h19 cb
          refine J_iconst (pc := 672) C dL_step_672 ?_
          refine J_goto (pc := 673) (tgt := 677) C dL_step_673 (by decide) ?_
          exact J_zret (pc := 677) C dL_step_677 (by decide) hok15 h19 (by decide) (by decide)
    · have h12 := h12 cb
      refine J_iconst (pc := 650) C dL_step_650 ?_
      refine J_goto (pc := 651) (tgt := 655) C dL_step_651 (by decide) ?_
      refine J_isub (pc := 655) C dL_step_655 ?_
      obtain ⟨o20, h21⟩ := h12
      refine J_iast (pc := 656) C dL_step_656 67 70 (wL_70 G (up S2 70 0 ((S2 70 0) - 1))) (by decide) (by decide) (sL_70 G (up S2 70 0 ((S2 70 0) - 1)) 2 ((S2 70 2) - 0)) ?_
      have hok22 := okL_up (k := 70) (j := 2) hok10 (show rngL 70 ((S2 70 2) - 0) from o20)
      refine J_iload (pc := 657) C dL_step_657 rfl ?_
      refine J_bipush (pc := 659) C dL_step_659 (by decide) ?_
      obtain ⟨h23, h24⟩ := h21
      refine J_icmp_eq (pc := 661) (tgt := 672) C dL_step_661 (by decide) hr5 (by decide) (fun cb => ?_) (fun cb => ?_)
      · have h23 := h23 cb
        refine J_iconst (pc := 672) C dL_step_672 ?_
        refine J_goto (pc := 673) (tgt := 677) C dL_step_673 (by decide) ?_
        exact J_zret (pc := 677) C dL_step_677 (by decide) hok22 h23 (by decide) (by decide)
      · have h24 := h24 cb
        refine J_iload (pc := 664) C dL_step_664 rfl ?_
        refine J_aload_n (pc := 666) C dL_step_666 rfl ?_
        refine J_iconst (pc := 667) C dL_step_667 ?_
        refine J_iald (pc := 668) C dL_step_668 67 70 (wL_70 G (up (up S2 70 0 ((S2 70 0) - 1)) 70 2 ((S2 70 2) - 0))) (by decide) (by decide) ?_
        obtain ⟨h25, h26⟩ := h24
        refine J_icmp_ne (pc := 669) (tgt := 676) C dL_step_669 (by decide) hr5 o20 (fun cb => ?_) (fun cb => ?_)
        · have h25 := h25 cb
          refine J_iconst (pc := 676) C dL_step_676 ?_
          exact J_zret (pc := 677) C dL_step_677 (by decide) hok22 h25 (by decide) (by decide)
        · have h26 := h26 cb
          refine J_iconst (pc := 672) C dL_step_672 ?_
          refine J_goto (pc := 673) (tgt := 677) C dL_step_673 (by decide) ?_
          exact J_zret (pc := 677) C dL_step_677 (by decide) hok22 h26 (by decide) (by decide)
  · have h7 := h7 cb
    refine J_iconst (pc := 632) C dL_step_632 ?_
    refine J_goto (pc := 633) (tgt := 637) C dL_step_633 (by decide) ?_
    refine J_isub (pc := 637) C dL_step_637 ?_
    obtain ⟨o27, h28⟩ := h7
    refine J_iast (pc := 638) C dL_step_638 67 70 (wL_70 G S2) (by decide) (by decide) (sL_70 G S2 0 ((S2 70 0) - 0)) ?_
    have hok29 := okL_up (k := 70) (j := 0) hok3 (show rngL 70 ((S2 70 0) - 0) from o27)
    refine J_aload_n (pc := 639) C dL_step_639 rfl ?_
    refine J_iconst (pc := 640) C dL_step_640 ?_
    refine J_dup2 (pc := 641) C dL_step_641 rfl rfl ?_
    refine J_iald (pc := 642) C dL_step_642 67 70 (wL_70 G (up S2 70 0 ((S2 70 0) - 0))) (by decide) (by decide) ?_
    refine J_iload (pc := 643) C dL_step_643 rfl ?_
    refine J_bipush (pc := 645) C dL_step_645 (by decide) ?_
    obtain ⟨h30, h31⟩ := h28
    refine J_icmp_ne (pc := 647) (tgt := 654) C dL_step_647 (by decide) hr5 (by decide) (fun cb => ?_) (fun cb => ?_)
    · have h30 := h30 cb
      refine J_iconst (pc := 654) C dL_step_654 ?_
      refine J_isub (pc := 655) C dL_step_655 ?_
      obtain ⟨o32, h33⟩ := h30
      refine J_iast (pc := 656) C dL_step_656 67 70 (wL_70 G (up S2 70 0 ((S2 70 0) - 0))) (by decide) (by decide) (sL_70 G (up S2 70 0 ((S2 70 0) - 0)) 2 ((S2 70 2) - 1)) ?_
      have hok34 := okL_up (k := 70) (j := 2) hok29 (show rngL 70 ((S2 70 2) - 1) from o32)
      refine J_iload (pc := 657) C dL_step_657 rfl ?_
      refine J_bipush (pc := 659) C dL_step_659 (by decide) ?_
      obtain ⟨h35, h36⟩ := h33
      refine J_icmp_eq (pc := 661) (tgt := 672) C dL_step_661 (by decide) hr5 (by decide) (fun cb => ?_) (fun cb => ?_)
      · have h35 := h35 cb
        refine J_iconst (pc := 672) C dL_step_672 ?_
        refine J_goto (pc := 673) (tgt := 677) C dL_step_673 (by decide) ?_
        exact J_zret (pc := 677) C dL_step_677 (by decide) hok34 h35 (by decide) (by decide)
      · have h36 := h36 cb
        refine J_iload (pc := 664) C dL_step_664 rfl ?_
        refine J_aload_n (pc := 666) C dL_step_666 rfl ?_
        refine J_iconst (pc := 667) C dL_step_667 ?_
        refine J_iald (pc := 668) C dL_step_668 67 70 (wL_70 G (up (up S2 70 0 ((S2 70 0) - 0)) 70 2 ((S2 70 2) - 1))) (by decide) (by decide) ?_
        obtain ⟨h37, h38⟩ := h36
        refine J_icmp_ne (pc := 669) (tgt := 676) C dL_step_669 (by decide) hr5 o32 (fun cb => ?_) (fun cb => ?_)
        · have h37 := h37 cb
          refine J_iconst (pc := 676) C dL_step_676 ?_
          exact J_zret (pc := 677) C dL_step_677 (by decide) hok34 h37 (by decide) (by decide)
        · have h38 := h38 cb
          refine J_iconst (pc := 672) C dL_step_672 ?_
          refine J_goto (pc := 673) (tgt := 677) C dL_step_673 (by decide) ?_
          exact J_zret (pc := 677) C dL_step_677 (by decide) hok34 h38 (by decide) (by decide)
    · have h31 := h31 cb
      refine J_iconst (pc := 650) C dL_step_650 ?_
      refine J_goto (pc := 651) (tgt := 655) C dL_step_651 (by decide) ?_
      refine J_isub (pc := 655) C dL_step_655 ?_
      obtain ⟨o39, h40⟩ := h31
      refine J_iast (pc := 656) C dL_step_656 67 70 (wL_70 G (up S2 70 0 ((S2 70 0) - 0))) (by decide) (by decide) (sL_70 G (up S2 70 0 ((S2 70 0) - 0)) 2 ((S2 70 2) - 0)) ?_
      have hok41 := okL_up (k := 70) (j := 2) hok29 (show rngL 70 ((S2 70 2) - 0) from o39)
      refine J_iload (pc := 657) C dL_step_657 rfl ?_
      refine J_bipush (pc := 659) C dL_step_659 (by decide) ?_
      obtain ⟨h42, h43⟩ := h40
      refine J_icmp_eq (pc := 661) (tgt := 672) C dL_step_661 (by decide) hr5 (by decide) (fun cb => ?_) (fun cb => ?_)
      · have h42 := h42 cb
        refine J_iconst (pc := 672) C dL_step_672 ?_
        refine J_goto (pc := 673) (tgt := 677) C dL_step_673 (by decide) ?_
        exact J_zret (pc := 677) C dL_step_677 (by decide) hok41 h42 (by decide) (by decide)
      · have h43 := h43 cb
        refine J_iload (pc := 664) C dL_step_664 rfl ?_
        refine J_aload_n (pc := 666) C dL_step_666 rfl ?_
        refine J_iconst (pc := 667) C dL_step_667 ?_
        refine J_iald (pc := 668) C dL_step_668 67 70 (wL_70 G (up (up S2 70 0 ((S2 70 0) - 0)) 70 2 ((S2 70 2) - 0))) (by decide) (by decide) ?_
        obtain ⟨h44, h45⟩ := h43
        refine J_icmp_ne (pc := 669) (tgt := 676) C dL_step_669 (by decide) hr5 o39 (fun cb => ?_) (fun cb => ?_)
        · have h44 := h44 cb
          refine J_iconst (pc := 676) C dL_step_676 ?_
          exact J_zret (pc := 677) C dL_step_677 (by decide) hok41 h44 (by decide) (by decide)
        · have h45 := h45 cb
          refine J_iconst (pc := 672) C dL_step_672 ?_
          refine J_goto (pc := 673) (tgt := 677) C dL_step_673 (by decide) ?_
          exact J_zret (pc := 677) C dL_step_677 (by decide) hok41 h45 (by decide) (by decide)
set_option maxRecDepth 100000 in
set_option maxHeartbeats 4000000 in
theorem vc_L_step_678 {x5 x8 : Int} {S : St} {Qr : Int → St → Prop} {Qx : String → St → Prop} (h : r32 x5 → r32 x8 → okL S → (r32 (Int.tdiv x5 7) ∧ (r32 ((Int.tmod (Int.tdiv x5 7) 199) - 99) ∧ M_L_asks x8 ((Int.tmod (Int.tdiv x5 7) 199) - 99) 1 S (fun rv8 S6 => r32 rv8 → okL S6 → ((rv8 = (-200) → Qr 1 S6) ∧ (rv8 ≠ (-200) → ((rv8 < (-99) → Qr 0 S6) ∧ ((-99) ≤ rv8 → M_L_asks x8 ((Int.tmod (Int.tdiv x5 7) 199) - 99) 1 S6 (fun rv17 S15 => r32 rv17 → okL S15 → ((rv17 ≠ ((Int.tmod (Int.tdiv x5 7) 199) - 99) → Qr 0 S15) ∧ (rv17 = ((Int.tmod (Int.tdiv x5 7) 199) - 99) → Qr 1 S15))) (fun _ _ => False)))))) (fun _ _ => False)))) : R_L_step_678 x5 x8 S Qr Qx := by
  intro rx5 rx8
  intro p l e s m args below meth c G A C hok
  have h := h rx5 rx8 hok
  replace C : Cx wL cL_step 19 RL wsL_step (some .boolean) [] p l s m args meth c G A := C
  show J wL 19 rmL_step p l e s m args below meth c G A (QQ 1 wL okL G Qr Qx A below args s rmL_step.cells rmL_step.slots) 0 0 S [some (.ref (G.2.2 0)), none, none, none, none, some (iV x5), none, none, some (iV x8), none, none, none, none, none, none, none, none, none, none] [] 678
  refine J_aload_n (pc := 678) C dL_step_678 rfl ?_
  refine J_iload (pc := 679) C dL_step_679 rfl ?_
  refine J_iload (pc := 681) C dL_step_681 rfl ?_
  refine J_bipush (pc := 683) C dL_step_683 (by decide) ?_
  refine J_idiv (pc := 685) C dL_step_685 rx5 (by decide) (by decide) ?_
  refine J_sipush (pc := 686) C dL_step_686 (by decide) ?_
  obtain ⟨o1, h2⟩ := h
  refine J_irem (pc := 689) C dL_step_689 o1 (by decide) (by decide) ?_
  refine J_bipush (pc := 690) C dL_step_690 (by decide) ?_
  refine J_isub (pc := 692) C dL_step_692 ?_
  refine J_iconst (pc := 693) C dL_step_693 ?_
  obtain ⟨o3, h4⟩ := h2
  refine J_c1 (pc := 694) C (J_rSX (pc := 694) C (h4 rx8 o3 (by decide)) dL_step_694 rfl rfl (vx_cwSW 4 C.1.2.2.2.2 gL_step_L_asks rfl rfl rfl (by decide +kernel) ⟨Nat.le_of_ble_eq_true rfl, Nat.le_of_ble_eq_true rfl⟩) hok (Nat.le_of_ble_eq_true rfl) ⟨Nat.le_of_ble_eq_true rfl, Nat.le_of_ble_eq_true rfl⟩) (fun E9 S9 ok9 q9 => q9.elim) (fun rv8 S6 hr9 hok7 h5 => ?_)
  have h5 := h5 hr9 hok7
  refine J_istore (pc := 697) C dL_step_697 (by decide) ?_
  refine J_iload (pc := 699) C dL_step_699 rfl ?_
  refine J_sipush (pc := 701) C dL_step_701 (by decide) ?_
  obtain ⟨h10, h11⟩ := h5
  refine J_icmp_eq (pc := 704) (tgt := 748) C dL_step_704 (by decide) hr9 (by decide) (fun cb => ?_) (fun cb => ?_)
  · have h10 := h10 cb
    refine J_iconst (pc := 748) C dL_step_748 ?_
    refine J_goto (pc := 749) (tgt := 753) C dL_step_749 (by decide) ?_
    exact J_zret (pc := 753) C dL_step_753 (by decide) hok7 h10 (by decide) (by decide)
  · have h11 := h11 cb
    refine J_iload (pc := 707) C dL_step_707 rfl ?_
    refine J_bipush (pc := 709) C dL_step_709 (by decide) ?_
    obtain ⟨h12, h13⟩ := h11
    refine J_icmp_lt (pc := 711) (tgt := 752) C dL_step_711 (by decide) hr9 (by decide) (fun cb => ?_) (fun cb => ?_)
    · have h12 := h12 cb
      refine J_iconst (pc := 752) C dL_step_752 ?_
      exact J_zret (pc := 753) C dL_step_753 (by decide) hok7 h12 (by decide) (by decide)
    · have h13 := h13 cb
      refine J_aload_n (pc := 714) C dL_step_714 rfl ?_
      refine J_iload (pc := 715) C dL_step_715 rfl ?_
      refine J_iload (pc := 717) C dL_step_717 rfl ?_
      refine J_bipush (pc := 719) C dL_step_719 (by decide) ?_
      refine J_idiv (pc := 721) C dL_step_721 rx5 (by decide) (by decide) ?_
      refine J_sipush (pc := 722) C dL_step_722 (by decide) ?_
      refine J_irem (pc := 725) C dL_step_725 o1 (by decide) (by decide) ?_
      refine J_bipush (pc := 726) C dL_step_726 (by decide) ?_
      refine J_isub (pc := 728) C dL_step_728 ?_
      refine J_iconst (pc := 729) C dL_step_729 ?_
      refine J_c1 (pc := 730) C (J_rSX (pc := 730) C (h13 rx8 o3 (by decide)) dL_step_730 rfl rfl (vx_cwSW 4 C.1.2.2.2.2 gL_step_L_asks rfl rfl rfl (by decide +kernel) ⟨Nat.le_of_ble_eq_true rfl, Nat.le_of_ble_eq_true rfl⟩) hok7 (Nat.le_of_ble_eq_true rfl) ⟨Nat.le_of_ble_eq_true rfl, Nat.le_of_ble_eq_true rfl⟩) (fun E9 S9 ok9 q9 => q9.elim) (fun rv17 S15 hr18 hok16 h14 => ?_)
      have h14 := h14 hr18 hok16
      refine J_iload (pc := 733) C dL_step_733 rfl ?_
      refine J_bipush (pc := 735) C dL_step_735 (by decide) ?_
      refine J_idiv (pc := 737) C dL_step_737 rx5 (by decide) (by decide) ?_
      refine J_sipush (pc := 738) C dL_step_738 (by decide) ?_
      refine J_irem (pc := 741) C dL_step_741 o1 (by decide) (by decide) ?_
      refine J_bipush (pc := 742) C dL_step_742 (by decide) ?_
      refine J_isub (pc := 744) C dL_step_744 ?_
      obtain ⟨h19, h20⟩ := h14
      refine J_icmp_ne (pc := 745) (tgt := 752) C dL_step_745 (by decide) hr18 o3 (fun cb => ?_) (fun cb => ?_)
      · have h19 := h19 cb
        refine J_iconst (pc := 752) C dL_step_752 ?_
        exact J_zret (pc := 753) C dL_step_753 (by decide) hok16 h19 (by decide) (by decide)
      · have h20 := h20 cb
        refine J_iconst (pc := 748) C dL_step_748 ?_
        refine J_goto (pc := 749) (tgt := 753) C dL_step_749 (by decide) ?_
        exact J_zret (pc := 753) C dL_step_753 (by decide) hok16 h20 (by decide) (by decide)
set_option maxRecDepth 100000 in
set_option maxHeartbeats 4000000 in
theorem vc_L_step_754 {x5 x6 : Int} {S : St} {Qr : Int → St → Prop} {Qx : String → St → Prop} (h : r32 x5 → r32 x6 → okL S → (r32 (Int.tmod x5 4) ∧ (((Int.tmod x5 4) ≠ 0 → (r32 (Int.tdiv x5 4) ∧ (r32 (Int.tmod (Int.tdiv x5 4) 9000) ∧ M_X6_range x6 (Int.tmod (Int.tdiv x5 4) 9000) S (fun rv12 S10 => r32 rv12 → okC S10 → ((rv12 < (-1) → Qr 0 (pu S S10)) ∧ ((-1) ≤ rv12 → (((Int.tmod x5 4) ≠ 0 → M_X6_range x6 (Int.tmod (Int.tdiv x5 4) 9000) (pu S S10) (fun rv21 S19 => r32 rv21 → okC S19 → (((Int.tmod x5 4) ≠ 0 → ((rv21 ≠ (Int.tmod (Int.tdiv x5 4) 9000) → Qr 0 (pu (pu S S10) S19)) ∧ (rv21 = (Int.tmod (Int.tdiv x5 4) 9000) → Qr 1 (pu (pu S S10) S19)))) ∧ ((Int.tmod x5 4) = 0 → ((rv21 ≠ (-1) → Qr 0 (pu (pu S S10) S19)) ∧ (rv21 = (-1) → Qr 1 (pu (pu S S10) S19)))))) (fun _ _ => False)) ∧ ((Int.tmod x5 4) = 0 → M_X6_range x6 (-1) (pu S S10) (fun rv32 S30 => r32 rv32 → okC S30 → (((Int.tmod x5 4) ≠ 0 → ((rv32 ≠ (Int.tmod (Int.tdiv x5 4) 9000) → Qr 0 (pu (pu S S10) S30)) ∧ (rv32 = (Int.tmod (Int.tdiv x5 4) 9000) → Qr 1 (pu (pu S S10) S30)))) ∧ ((Int.tmod x5 4) = 0 → ((rv32 ≠ (-1) → Qr 0 (pu (pu S S10) S30)) ∧ (rv32 = (-1) → Qr 1 (pu (pu S S10) S30)))))) (fun _ _ => False)))))) (fun _ _ => False)))) ∧ ((Int.tmod x5 4) = 0 → M_X6_range x6 (-1) S (fun rv43 S41 => r32 rv43 → okC S41 → ((rv43 < (-1) → Qr 0 (pu S S41)) ∧ ((-1) ≤ rv43 → (((Int.tmod x5 4) ≠ 0 → (r32 (Int.tdiv x5 4) ∧ (r32 (Int.tmod (Int.tdiv x5 4) 9000) ∧ M_X6_range x6 (Int.tmod (Int.tdiv x5 4) 9000) (pu S S41) (fun rv56 S54 => r32 rv56 → okC S54 → (((Int.tmod x5 4) ≠ 0 → ((rv56 ≠ (Int.tmod (Int.tdiv x5 4) 9000) → Qr 0 (pu (pu S S41) S54)) ∧ (rv56 = (Int.tmod (Int.tdiv x5 4) 9000) → Qr 1 (pu (pu S S41) S54)))) ∧ ((Int.tmod x5 4) = 0 → ((rv56 ≠ (-1) → Qr 0 (pu (pu S S41) S54)) ∧ (rv56 = (-1) → Qr 1 (pu (pu S S41) S54)))))) (fun _ _ => False)))) ∧ ((Int.tmod x5 4) = 0 → M_X6_range x6 (-1) (pu S S41) (fun rv67 S65 => r32 rv67 → okC S65 → (((Int.tmod x5 4) ≠ 0 → (r32 (Int.tdiv x5 4) ∧ (r32 (Int.tmod (Int.tdiv x5 4) 9000) ∧ ((rv67 ≠ (Int.tmod (Int.tdiv x5 4) 9000) → Qr 0 (pu (pu S S41) S65)) ∧ (rv67 = (Int.tmod (Int.tdiv x5 4) 9000) → Qr 1 (pu (pu S S41) S65)))))) ∧ ((Int.tmod x5 4) = 0 → ((rv67 ≠ (-1) → Qr 0 (pu (pu S S41) S65)) ∧ (rv67 = (-1) → Qr 1 (pu (pu S S41) S65)))))) (fun _ _ => False)))))) (fun _ _ => False))))) : R_L_step_754 x5 x6 S Qr Qx := by
  intro rx5 rx6
  intro p l e s m args below meth c G A C hok
  have h := h rx5 rx6 hok
  replace C : Cx wL cL_step 19 RL wsL_step (some .boolean) [] p l s m args meth c G A := C
  show J wL 19 rmL_step p l e s m args below meth c G A (QQ 1 wL okL G Qr Qx A below args s rmL_step.cells rmL_step.slots) 0 0 S [some (.ref (G.2.2 0)), none, none, none, none, some (iV x5), some (iV x6), none, none, none, none, none, none, none, none, none, none, none, none] [] 754
  refine J_aload_n (pc := 754) C dL_step_754 rfl ?_
  refine J_iload (pc := 755) C dL_step_755 rfl ?_
  refine J_iload (pc := 757) C dL_step_757 rfl ?_
  refine J_iconst (pc := 759) C dL_step_759 ?_
  refine J_irem (pc := 760) C dL_step_760 rx5 (by decide) (by decide) ?_
  obtain ⟨o1, h2⟩ := h
  obtain ⟨h3, h4⟩ := h2
  refine J_if_ne (pc := 761) (tgt := 768) C dL_step_761 (by decide) o1 (fun cb => ?_) (fun cb => ?_)
  · have h3 := h3 cb
    refine J_iload (pc := 768) C dL_step_768 rfl ?_
    refine J_iconst (pc := 770) C dL_step_770 ?_
    refine J_idiv (pc := 771) C dL_step_771 rx5 (by decide) (by decide) ?_
    refine J_sipush (pc := 772) C dL_step_772 (by decide) ?_
    obtain ⟨o5, h6⟩ := h3
    refine J_irem (pc := 775) C dL_step_775 o5 (by decide) (by decide) ?_
    obtain ⟨o7, h8⟩ := h6
    refine J_e1 (pc := 776) C (emb_LC G S) (J_eV (pc := 776) C (emb_LC G S) (h8 rx6 o7) dL_step_776 rfl rfl 0 rfl rfl (cwV 2 C.1.2.2.2.2 gL_step_X6_range rfl rfl rfl (by decide +kernel) ⟨Nat.le_of_ble_eq_true rfl, Nat.le_of_ble_eq_true rfl⟩) (okC_L hok) (Nat.le_of_ble_eq_true rfl) ⟨Nat.le_of_ble_eq_true rfl, Nat.le_of_ble_eq_true rfl⟩) (fun E9 S9 ok9 q9 => q9.elim) (fun rv12 S10 hr13 hok11 h9 => ?_)
    have h9 := h9 hr13 hok11
    refine J_istore (pc := 779) C dL_step_779 (by decide) ?_
    refine J_iload (pc := 781) C dL_step_781 rfl ?_
    refine J_iconst (pc := 783) C dL_step_783 ?_
    obtain ⟨h14, h15⟩ := h9
    refine J_icmp_lt (pc := 784) (tgt := 838) C dL_step_784 (by decide) hr13 (by decide) (fun cb => ?_) (fun cb => ?_)
    · have h14 := h14 cb
      refine J_iconst (pc := 838) C dL_step_838 ?_
      exact J_zret (pc := 839) C dL_step_839 (by decide) (okL_pu hok hok11) h14 (by decide) (by decide)
    · have h15 := h15 cb
      refine J_aload_n (pc := 787) C dL_step_787 rfl ?_
      refine J_iload (pc := 788) C dL_step_788 rfl ?_
      refine J_iload (pc := 790) C dL_step_790 rfl ?_
      refine J_iconst (pc := 792) C dL_step_792 ?_
      refine J_irem (pc := 793) C dL_step_793 rx5 (by decide) (by decide) ?_
      obtain ⟨h16, h17⟩ := h15
      refine J_if_ne (pc := 794) (tgt := 801) C dL_step_794 (by decide) o1 (fun cb => ?_) (fun cb => ?_)
      · have h16 := h16 cb
        refine J_iload (pc := 801) C dL_step_801 rfl ?_
        refine J_iconst (pc := 803) C dL_step_803 ?_
        refine J_idiv (pc := 804) C dL_step_804 rx5 (by decide) (by decide) ?_
        refine J_sipush (pc := 805) C dL_step_805 (by decide) ?_
        refine J_irem (pc := 808) C dL_step_808 o5 (by decide) (by decide) ?_
        refine J_e1 (pc := 809) C (emb_LC G (pu S S10)) (J_eV (pc := 809) C (emb_LC G (pu S S10)) (h16 rx6 o7) dL_step_809 rfl rfl 0 rfl rfl (cwV 2 C.1.2.2.2.2 gL_step_X6_range rfl rfl rfl (by decide +kernel) ⟨Nat.le_of_ble_eq_true rfl, Nat.le_of_ble_eq_true rfl⟩) (okC_L (okL_pu hok hok11)) (Nat.le_of_ble_eq_true rfl) ⟨Nat.le_of_ble_eq_true rfl, Nat.le_of_ble_eq_true rfl⟩) (fun E9 S9 ok9 q9 => q9.elim) (fun rv21 S19 hr22 hok20 h18 => ?_)
        have h18 := h18 hr22 hok20
        refine J_iload (pc := 812) C dL_step_812 rfl ?_
        refine J_iconst (pc := 814) C dL_step_814 ?_
        refine J_irem (pc := 815) C dL_step_815 rx5 (by decide) (by decide) ?_
        obtain ⟨h23, h24⟩ := h18
        refine J_if_ne (pc := 816) (tgt := 823) C dL_step_816 (by decide) o1 (fun cb => ?_) (fun cb => ?_)
        · have h23 := h23 cb
          refine J_iload (pc := 823) C dL_step_823 rfl ?_
          refine J_iconst (pc := 825) C dL_step_825 ?_
          refine J_idiv (pc := 826) C dL_step_826 rx5 (by decide) (by decide) ?_
          refine J_sipush (pc := 827) C dL_step_827 (by decide) ?_
          refine J_irem (pc := 830) C dL_step_830 o5 (by decide) (by decide) ?_
          obtain ⟨h25, h26⟩ := h23
          refine J_icmp_ne (pc := 831) (tgt := 838) C dL_step_831 (by decide) hr22 o7 (fun cb => ?_) (fun cb => ?_)
          · have h25 := h25 cb
            refine J_iconst (pc := 838) C dL_step_838 ?_
            exact J_zret (pc := 839) C dL_step_839 (by decide) (okL_pu (okL_pu hok hok11) hok20) h25 (by decide) (by decide)
          · have h26 := h26 cb
            refine J_iconst (pc := 834) C dL_step_834 ?_
            refine J_goto (pc := 835) (tgt := 839) C dL_step_835 (by decide) ?_
            exact J_zret (pc := 839) C dL_step_839 (by decide) (okL_pu (okL_pu hok hok11) hok20) h26 (by decide) (by decide)
        · have h24 := h24 cb
          refine J_iconst (pc := 819) C dL_step_819 ?_
          refine J_goto (pc := 820) (tgt := 831) C dL_step_820 (by decide) ?_
          obtain ⟨h27, h28⟩ := h24
          refine J_icmp_ne (pc := 831) (tgt := 838) C dL_step_831 (by decide) hr22 (by decide) (fun cb => ?_) (fun cb => ?_)
          · have h27 := h27 cb
            refine J_iconst (pc := 838) C dL_step_838 ?_
            exact J_zret (pc := 839) C dL_step_839 (by decide) (okL_pu (okL_pu hok hok11) hok20) h27 (by decide) (by decide)
          · have h28 := h28 cb
            refine J_iconst (pc := 834) C dL_step_834 ?_
            refine J_goto (pc := 835) (tgt := 839) C dL_step_835 (by decide) ?_
            exact J_zret (pc := 839) C dL_step_839 (by decide) (okL_pu (okL_pu hok hok11) hok20) h28 (by decide) (by decide)
      · have h17 := h17 cb
        refine J_iconst (pc := 797) C dL_step_797 ?_
        refine J_goto (pc := 798) (tgt := 809) C dL_step_798 (by decide) ?_
        refine J_e1 (pc := 809) C (emb_LC G (pu S S10)) (J_eV (pc := 809) C (emb_LC G (pu S S10)) (h17 rx6 (by decide)) dL_step_809 rfl rfl 0 rfl rfl (cwV 2 C.1.2.2.2.2 gL_step_X6_range rfl rfl rfl (by decide +kernel) ⟨Nat.le_of_ble_eq_true rfl, Nat.le_of_ble_eq_true rfl⟩) (okC_L (okL_pu hok hok11)) (Nat.le_of_ble_eq_true rfl) ⟨Nat.le_of_ble_eq_true rfl, Nat.le_of_ble_eq_true rfl⟩) (fun E9 S9 ok9 q9 => q9.elim) (fun rv32 S30 hr33 hok31 h29 => ?_)
        have h29 := h29 hr33 hok31
        refine J_iload (pc := 812) C dL_step_812 rfl ?_
        refine J_iconst (pc := 814) C dL_step_814 ?_
        refine J_irem (pc := 815) C dL_step_815 rx5 (by decide) (by decide) ?_
        obtain ⟨h34, h35⟩ := h29
        refine J_if_ne (pc := 816) (tgt := 823) C dL_step_816 (by decide) o1 (fun cb => ?_) (fun cb => ?_)
        · have h34 := h34 cb
          refine J_iload (pc := 823) C dL_step_823 rfl ?_
          refine J_iconst (pc := 825) C dL_step_825 ?_
          refine J_idiv (pc := 826) C dL_step_826 rx5 (by decide) (by decide) ?_
          refine J_sipush (pc := 827) C dL_step_827 (by decide) ?_
          refine J_irem (pc := 830) C dL_step_830 o5 (by decide) (by decide) ?_
          obtain ⟨h36, h37⟩ := h34
          refine J_icmp_ne (pc := 831) (tgt := 838) C dL_step_831 (by decide) hr33 o7 (fun cb => ?_) (fun cb => ?_)
          · have h36 := h36 cb
            refine J_iconst (pc := 838) C dL_step_838 ?_
            exact J_zret (pc := 839) C dL_step_839 (by decide) (okL_pu (okL_pu hok hok11) hok31) h36 (by decide) (by decide)
          · have h37 := h37 cb
            refine J_iconst (pc := 834) C dL_step_834 ?_
            refine J_goto (pc := 835) (tgt := 839) C dL_step_835 (by decide) ?_
            exact J_zret (pc := 839) C dL_step_839 (by decide) (okL_pu (okL_pu hok hok11) hok31) h37 (by decide) (by decide)
        · have h35 := h35 cb
          refine J_iconst (pc := 819) C dL_step_819 ?_
          refine J_goto (pc := 820) (tgt := 831) C dL_step_820 (by decide) ?_
          obtain ⟨h38, h39⟩ := h35
          refine J_icmp_ne (pc := 831) (tgt := 838) C dL_step_831 (by decide) hr33 (by decide) (fun cb => ?_) (fun cb => ?_)
          · have h38 := h38 cb
            refine J_iconst (pc := 838) C dL_step_838 ?_
            exact J_zret (pc := 839) C dL_step_839 (by decide) (okL_pu (okL_pu hok hok11) hok31) h38 (by decide) (by decide)
          · have h39 := h39 cb
            refine J_iconst (pc := 834) C dL_step_834 ?_
            refine J_goto (pc := 835) (tgt := 839) C dL_step_835 (by decide) ?_
            exact J_zret (pc := 839) C dL_step_839 (by decide) (okL_pu (okL_pu hok hok11) hok31) h39 (by decide) (by decide)
  · have h4 := h4 cb
    refine J_iconst (pc := 764) C dL_step_764 ?_
    refine J_goto (pc := 765) (tgt := 776) C dL_step_765 (by decide) ?_
    refine J_e1 (pc := 776) C (emb_LC G S) (J_eV (pc := 776) C (emb_LC G S) (h4 rx6 (by decide)) dL_step_776 rfl rfl 0 rfl rfl (cwV 2 C.1.2.2.2.2 gL_step_X6_range rfl rfl rfl (by decide +kernel) ⟨Nat.le_of_ble_eq_true rfl, Nat.le_of_ble_eq_true rfl⟩) (okC_L hok) (Nat.le_of_ble_eq_true rfl) ⟨Nat.le_of_ble_eq_true rfl, Nat.le_of_ble_eq_true rfl⟩) (fun E9 S9 ok9 q9 => q9.elim) (fun rv43 S41 hr44 hok42 h40 => ?_)
    have h40 := h40 hr44 hok42
    refine J_istore (pc := 779) C dL_step_779 (by decide) ?_
    refine J_iload (pc := 781) C dL_step_781 rfl ?_
    refine J_iconst (pc := 783) C dL_step_783 ?_
    obtain ⟨h45, h46⟩ := h40
    refine J_icmp_lt (pc := 784) (tgt := 838) C dL_step_784 (by decide) hr44 (by decide) (fun cb => ?_) (fun cb => ?_)
    · have h45 := h45 cb
      refine J_iconst (pc := 838) C dL_step_838 ?_
      exact J_zret (pc := 839) C dL_step_839 (by decide) (okL_pu hok hok42) h45 (by decide) (by decide)
    · have h46 := h46 cb
      refine J_aload_n (pc := 787) C dL_step_787 rfl ?_
      refine J_iload (pc := 788) C dL_step_788 rfl ?_
      refine J_iload (pc := 790) C dL_step_790 rfl ?_
      refine J_iconst (pc := 792) C dL_step_792 ?_
      refine J_irem (pc := 793) C dL_step_793 rx5 (by decide) (by decide) ?_
      obtain ⟨h47, h48⟩ := h46
      refine J_if_ne (pc := 794) (tgt := 801) C dL_step_794 (by decide) o1 (fun cb => ?_) (fun cb => ?_)
      · have h47 := h47 cb
        refine J_iload (pc := 801) C dL_step_801 rfl ?_
        refine J_iconst (pc := 803) C dL_step_803 ?_
        refine J_idiv (pc := 804) C dL_step_804 rx5 (by decide) (by decide) ?_
        refine J_sipush (pc := 805) C dL_step_805 (by decide) ?_
        obtain ⟨o49, h50⟩ := h47
        refine J_irem (pc := 808) C dL_step_808 o49 (by decide) (by decide) ?_
        obtain ⟨o51, h52⟩ := h50
        refine J_e1 (pc := 809) C (emb_LC G (pu S S41)) (J_eV (pc := 809) C (emb_LC G (pu S S41)) (h52 rx6 o51) dL_step_809 rfl rfl 0 rfl rfl (cwV 2 C.1.2.2.2.2 gL_step_X6_range rfl rfl rfl (by decide +kernel) ⟨Nat.le_of_ble_eq_true rfl, Nat.le_of_ble_eq_true rfl⟩) (okC_L (okL_pu hok hok42)) (Nat.le_of_ble_eq_true rfl) ⟨Nat.le_of_ble_eq_true rfl, Nat.le_of_ble_eq_true rfl⟩) (fun E9 S9 ok9 q9 => q9.elim) (fun rv56 S54 hr57 hok55 h53 => ?_)
        have h53 := h53 hr57 hok55
        refine J_iload (pc := 812) C dL_step_812 rfl ?_
        refine J_iconst (pc := 814) C dL_step_814 ?_
        refine J_irem (pc := 815) C dL_step_815 rx5 (by decide) (by decide) ?_
        obtain ⟨h58, h59⟩ := h53
        refine J_if_ne (pc := 816) (tgt := 823) C dL_step_816 (by decide) o1 (fun cb => ?_) (fun cb => ?_)
        · have h58 := h58 cb
          refine J_iload (pc := 823) C dL_step_823 rfl ?_
          refine J_iconst (pc := 825) C dL_step_825 ?_
          refine J_idiv (pc := 826) C dL_step_826 rx5 (by decide) (by decide) ?_
          refine J_sipush (pc := 827) C dL_step_827 (by decide) ?_
          refine J_irem (pc := 830) C dL_step_830 o49 (by decide) (by decide) ?_
          obtain ⟨h60, h61⟩ := h58
          refine J_icmp_ne (pc := 831) (tgt := 838) C dL_step_831 (by decide) hr57 o51 (fun cb => ?_) (fun cb => ?_)
          · have h60 := h60 cb
            refine J_iconst (pc := 838) C dL_step_838 ?_
            exact J_zret (pc := 839) C dL_step_839 (by decide) (okL_pu (okL_pu hok hok42) hok55) h60 (by decide) (by decide)
          · have h61 := h61 cb
            refine J_iconst (pc := 834) C dL_step_834 ?_
            refine J_goto (pc := 835) (tgt := 839) C dL_step_835 (by decide) ?_
            exact J_zret (pc := 839) C dL_step_839 (by decide) (okL_pu (okL_pu hok hok42) hok55) h61 (by decide) (by decide)
        · have h59 := h59 cb
          refine J_iconst (pc := 819) C dL_step_819 ?_
          refine J_goto (pc := 820) (tgt := 831) C dL_step_820 (by decide) ?_
          obtain ⟨h62, h63⟩ := h59
          refine J_icmp_ne (pc := 831) (tgt := 838) C dL_step_831 (by decide) hr57 (by decide) (fun cb => ?_) (fun cb => ?_)
          · have h62 := h62 cb
            refine J_iconst (pc := 838) C dL_step_838 ?_
            exact J_zret (pc := 839) C dL_step_839 (by decide) (okL_pu (okL_pu hok hok42) hok55) h62 (by decide) (by decide)
          · have h63 := h63 cb
            refine J_iconst (pc := 834) C dL_step_834 ?_
            refine J_goto (pc := 835) (tgt := 839) C dL_step_835 (by decide) ?_
            exact J_zret (pc := 839) C dL_step_839 (by decide) (okL_pu (okL_pu hok hok42) hok55) h63 (by decide) (by decide)
      · have h48 := h48 cb
        refine J_iconst (pc := 797) C dL_step_797 ?_
        refine J_goto (pc := 798) (tgt := 809) C dL_step_798 (by decide) ?_
        refine J_e1 (pc := 809) C (emb_LC G (pu S S41)) (J_eV (pc := 809) C (emb_LC G (pu S S41)) (h48 rx6 (by decide)) dL_step_809 rfl rfl 0 rfl rfl (cwV 2 C.1.2.2.2.2 gL_step_X6_range rfl rfl rfl (by decide +kernel) ⟨Nat.le_of_ble_eq_true rfl, Nat.le_of_ble_eq_true rfl⟩) (okC_L (okL_pu hok hok42)) (Nat.le_of_ble_eq_true rfl) ⟨Nat.le_of_ble_eq_true rfl, Nat.le_of_ble_eq_true rfl⟩) (fun E9 S9 ok9 q9 => q9.elim) (fun rv67 S65 hr68 hok66 h64 => ?_)
        have h64 := h64 hr68 hok66
        refine J_iload (pc := 812) C dL_step_812 rfl ?_
        refine J_iconst (pc := 814) C dL_step_814 ?_
        refine J_irem (pc := 815) C dL_step_815 rx5 (by decide) (by decide) ?_
        obtain ⟨h69, h70⟩ := h64
        refine J_if_ne (pc := 816) (tgt := 823) C dL_step_816 (by decide) o1 (fun cb => ?_) (fun cb => ?_)
        · have h69 := h69 cb
          refine J_iload (pc := 823) C dL_step_823 rfl ?_
          refine J_iconst (pc := 825) C dL_step_825 ?_
          refine J_idiv (pc := 826) C dL_step_826 rx5 (by decide) (by decide) ?_
          refine J_sipush (pc := 827) C dL_step_827 (by decide) ?_
          obtain ⟨o71, h72⟩ := h69
          refine J_irem (pc := 830) C dL_step_830 o71 (by decide) (by decide) ?_
          obtain ⟨o73, h74⟩ := h72
          obtain ⟨h75, h76⟩ := h74
          refine J_icmp_ne (pc := 831) (tgt := 838) C dL_step_831 (by decide) hr68 o73 (fun cb => ?_) (fun cb => ?_)
          · have h75 := h75 cb
            refine J_iconst (pc := 838) C dL_step_838 ?_
            exact J_zret (pc := 839) C dL_step_839 (by decide) (okL_pu (okL_pu hok hok42) hok66) h75 (by decide) (by decide)
          · have h76 := h76 cb
            refine J_iconst (pc := 834) C dL_step_834 ?_
            refine J_goto (pc := 835) (tgt := 839) C dL_step_835 (by decide) ?_
            exact J_zret (pc := 839) C dL_step_839 (by decide) (okL_pu (okL_pu hok hok42) hok66) h76 (by decide) (by decide)
        · have h70 := h70 cb
          refine J_iconst (pc := 819) C dL_step_819 ?_
          refine J_goto (pc := 820) (tgt := 831) C dL_step_820 (by decide) ?_
          obtain ⟨h77, h78⟩ := h70
          refine J_icmp_ne (pc := 831) (tgt := 838) C dL_step_831 (by decide) hr68 (by decide) (fun cb => ?_) (fun cb => ?_)
          · have h77 := h77 cb
            refine J_iconst (pc := 838) C dL_step_838 ?_
            exact J_zret (pc := 839) C dL_step_839 (by decide) (okL_pu (okL_pu hok hok42) hok66) h77 (by decide) (by decide)
          · have h78 := h78 cb
            refine J_iconst (pc := 834) C dL_step_834 ?_
            refine J_goto (pc := 835) (tgt := 839) C dL_step_835 (by decide) ?_
            exact J_zret (pc := 839) C dL_step_839 (by decide) (okL_pu (okL_pu hok hok42) hok66) h78 (by decide) (by decide)
set_option maxRecDepth 100000 in
set_option maxHeartbeats 4000000 in
theorem vc_L_step_840 {x5 : Int} {S : St} {Qr : Int → St → Prop} {Qx : String → St → Prop} (h : r32 x5 → okL S → (r32 (Int.tmod x5 400) ∧ M_L_arePlaces (Int.tmod x5 400) S (fun rv6 S4 => r32 rv6 → okL S4 → ((0 ≤ rv6 ∧ rv6 ≤ 1) ∧ Qr rv6 S4)) (fun _ _ => False))) : R_L_step_840 x5 S Qr Qx := by
  intro rx5
  intro p l e s m args below meth c G A C hok
  have h := h rx5 hok
  replace C : Cx wL cL_step 19 RL wsL_step (some .boolean) [] p l s m args meth c G A := C
  show J wL 19 rmL_step p l e s m args below meth c G A (QQ 1 wL okL G Qr Qx A below args s rmL_step.cells rmL_step.slots) 0 0 S [some (.ref (G.2.2 0)), none, none, none, none, some (iV x5), none, none, none, none, none, none, none, none, none, none, none, none, none] [] 840
  refine J_aload_n (pc := 840) C dL_step_840 rfl ?_
  refine J_iload (pc := 841) C dL_step_841 rfl ?_
  refine J_sipush (pc := 843) C dL_step_843 (by decide) ?_
  refine J_irem (pc := 846) C dL_step_846 rx5 (by decide) (by decide) ?_
  obtain ⟨o1, h2⟩ := h
  refine J_c1 (pc := 847) C (J_rS (pc := 847) C (h2 o1) dL_step_847 rfl rfl (va_cwS 2 C.1.2.2.2.2 gL_step_L_arePlaces rfl rfl rfl (by decide +kernel) ⟨Nat.le_of_ble_eq_true rfl, Nat.le_of_ble_eq_true rfl⟩) hok (Nat.le_of_ble_eq_true rfl) ⟨Nat.le_of_ble_eq_true rfl, Nat.le_of_ble_eq_true rfl⟩) (fun E9 S9 ok9 q9 => q9.elim) (fun rv6 S4 hr7 hok5 h3 => ?_)
  have h3 := h3 hr7 hok5
  obtain ⟨o8, h9⟩ := h3
  exact J_zret (pc := 850) C dL_step_850 o8 hok5 h9 (by decide) (by decide)
set_option maxRecDepth 100000 in
set_option maxHeartbeats 4000000 in
theorem vc_L_step_851 {x5 : Int} {S : St} {Qr : Int → St → Prop} {Qx : String → St → Prop} (h : r32 x5 → okL S → (r32 (Int.tmod x5 1000003) ∧ M_X6_rankAt (Int.tmod x5 1000003) S (fun rv6 S4 => r32 rv6 → okC S4 → (r32 ((2 * (S 70 0)) - 3) ∧ ((((2 * (S 70 0)) - 3) < rv6 → Qr 0 (pu S S4)) ∧ (rv6 ≤ ((2 * (S 70 0)) - 3) → M_X6_rankAt (Int.tmod x5 1000003) (pu S S4) (fun rv15 S13 => r32 rv15 → okC S13 → M_X6_kept (pu (pu S S4) S13) (fun rv20 S18 => r32 rv20 → okC S18 → ((rv20 < rv15 → Qr 0 (pu (pu (pu S S4) S13) S18)) ∧ (rv15 ≤ rv20 → M_X6_matrix (pu (pu (pu S S4) S13) S18) (fun rv27 S25 => r32 rv27 → okC S25 → (((S 70 0) < rv27 → Qr 0 (pu (pu (pu (pu S S4) S13) S18) S25)) ∧ (rv27 ≤ (S 70 0) → M_X6_isGlobal (pu (pu (pu (pu S S4) S13) S18) S25) (fun rv34 S32 => r32 rv34 → okC S32 → ((rv34 = 0 → Qr 1 (pu (pu (pu (pu (pu S S4) S13) S18) S25) S32)) ∧ (rv34 ≠ 0 → M_X6_lacks (pu (pu (pu (pu (pu S S4) S13) S18) S25) S32) (fun rv41 S39 => r32 rv41 → okC S39 → ((rv41 = 0 → Qr 1 (pu (pu (pu (pu (pu (pu S S4) S13) S18) S25) S32) S39)) ∧ (rv41 ≠ 0 → ((3 ≤ (S 70 0) → Qr 0 (pu (pu (pu (pu (pu (pu S S4) S13) S18) S25) S32) S39)) ∧ ((S 70 0) < 3 → Qr 1 (pu (pu (pu (pu (pu (pu S S4) S13) S18) S25) S32) S39)))))) (fun _ _ => False)))) (fun _ _ => False)))) (fun _ _ => False)))) (fun _ _ => False)) (fun _ _ => False))))) (fun _ _ => False))) : R_L_step_851 x5 S Qr Qx := by
  intro rx5
  intro p l e s m args below meth c G A C hok
  have h := h rx5 hok
  replace C : Cx wL cL_step 19 RL wsL_step (some .boolean) [] p l s m args meth c G A := C
  show J wL 19 rmL_step p l e s m args below meth c G A (QQ 1 wL okL G Qr Qx A below args s rmL_step.cells rmL_step.slots) 0 0 S [some (.ref (G.2.2 0)), some (.ref (G.2.2 70)), none, none, none, some (iV x5), none, none, none, none, none, none, none, none, none, none, none, none, none] [] 851
  refine J_aload_n (pc := 851) C dL_step_851 rfl ?_
  refine J_iload (pc := 852) C dL_step_852 rfl ?_
  refine J_ldc (pc := 854) (z := 1000003) C mL_step_c104 (by decide) dL_step_854 ?_
  refine J_irem (pc := 856) C dL_step_856 rx5 (by decide) (by decide) ?_
  obtain ⟨o1, h2⟩ := h
  refine J_e1 (pc := 857) C (emb_LC G S) (J_eV (pc := 857) C (emb_LC G S) (h2 o1) dL_step_857 rfl rfl 0 rfl rfl (cwV 1 C.1.2.2.2.2 gL_step_X6_rankAt rfl rfl rfl (by decide +kernel) ⟨Nat.le_of_ble_eq_true rfl, Nat.le_of_ble_eq_true rfl⟩) (okC_L hok) (Nat.le_of_ble_eq_true rfl) ⟨Nat.le_of_ble_eq_true rfl, Nat.le_of_ble_eq_true rfl⟩) (fun E9 S9 ok9 q9 => q9.elim) (fun rv6 S4 hr7 hok5 h3 => ?_)
  have h3 := h3 hr7 hok5
  refine J_iconst (pc := 860) C dL_step_860 ?_
  refine J_aload_n (pc := 861) C dL_step_861 rfl ?_
  refine J_iconst (pc := 862) C dL_step_862 ?_
  refine J_iald (pc := 863) C dL_step_863 67 70 (wL_70 G (pu S S4)) (by decide) (by decide) ?_
  refine J_imul (pc := 864) C dL_step_864 ?_
  refine J_iconst (pc := 865) C dL_step_865 ?_
  refine J_isub (pc := 866) C dL_step_866 ?_
  obtain ⟨o8, h9⟩ := h3
  obtain ⟨h10, h11⟩ := h9
  refine J_icmp_gt (pc := 867) (tgt := 921) C dL_step_867 (by decide) hr7 o8 (fun cb => ?_) (fun cb => ?_)
  · have h10 := h10 cb
    refine J_iconst (pc := 921) C dL_step_921 ?_
    exact J_zret (pc := 922) C dL_step_922 (by decide) (okL_pu hok hok5) h10 (by decide) (by decide)
  · have h11 := h11 cb
    refine J_aload_n (pc := 870) C dL_step_870 rfl ?_
    refine J_iload (pc := 871) C dL_step_871 rfl ?_
    refine J_ldc (pc := 873) (z := 1000003) C mL_step_c104 (by decide) dL_step_873 ?_
    refine J_irem (pc := 875) C dL_step_875 rx5 (by decide) (by decide) ?_
    refine J_e1 (pc := 876) C (emb_LC G (pu S S4)) (J_eV (pc := 876) C (emb_LC G (pu S S4)) (h11 o1) dL_step_876 rfl rfl 0 rfl rfl (cwV 1 C.1.2.2.2.2 gL_step_X6_rankAt rfl rfl rfl (by decide +kernel) ⟨Nat.le_of_ble_eq_true rfl, Nat.le_of_ble_eq_true rfl⟩) (okC_L (okL_pu hok hok5)) (Nat.le_of_ble_eq_true rfl) ⟨Nat.le_of_ble_eq_true rfl, Nat.le_of_ble_eq_true rfl⟩) (fun E9 S9 ok9 q9 => q9.elim) (fun rv15 S13 hr16 hok14 h12 => ?_)
    have h12 := h12 hr16 hok14
    refine J_aload_n (pc := 879) C dL_step_879 rfl ?_
    refine J_e1 (pc := 880) C (emb_LC G (pu (pu S S4) S13)) (J_eV (pc := 880) C (emb_LC G (pu (pu S S4) S13)) h12 dL_step_880 rfl rfl 0 rfl rfl (cwV 0 C.1.2.2.2.2 gL_step_X6_kept rfl rfl rfl (by decide +kernel) ⟨Nat.le_of_ble_eq_true rfl, Nat.le_of_ble_eq_true rfl⟩) (okC_L (okL_pu (okL_pu hok hok5) hok14)) (Nat.le_of_ble_eq_true rfl) ⟨Nat.le_of_ble_eq_true rfl, Nat.le_of_ble_eq_true rfl⟩) (fun E9 S9 ok9 q9 => q9.elim) (fun rv20 S18 hr21 hok19 h17 => ?_)
    have h17 := h17 hr21 hok19
    obtain ⟨h22, h23⟩ := h17
    refine J_icmp_gt (pc := 883) (tgt := 921) C dL_step_883 (by decide) hr16 hr21 (fun cb => ?_) (fun cb => ?_)
    · have h22 := h22 cb
      refine J_iconst (pc := 921) C dL_step_921 ?_
      exact J_zret (pc := 922) C dL_step_922 (by decide) (okL_pu (okL_pu (okL_pu hok hok5) hok14) hok19) h22 (by decide) (by decide)
    · have h23 := h23 cb
      refine J_aload_n (pc := 886) C dL_step_886 rfl ?_
      refine J_e1 (pc := 887) C (emb_LC G (pu (pu (pu S S4) S13) S18)) (J_eV (pc := 887) C (emb_LC G (pu (pu (pu S S4) S13) S18)) h23 dL_step_887 rfl rfl 0 rfl rfl (cwV 0 C.1.2.2.2.2 gL_step_X6_matrix rfl rfl rfl (by decide +kernel) ⟨Nat.le_of_ble_eq_true rfl, Nat.le_of_ble_eq_true rfl⟩) (okC_L (okL_pu (okL_pu (okL_pu hok hok5) hok14) hok19)) (Nat.le_of_ble_eq_true rfl) ⟨Nat.le_of_ble_eq_true rfl, Nat.le_of_ble_eq_true rfl⟩) (fun E9 S9 ok9 q9 => q9.elim) (fun rv27 S25 hr28 hok26 h24 => ?_)
      have h24 := h24 hr28 hok26
      refine J_aload_n (pc := 890) C dL_step_890 rfl ?_
      refine J_iconst (pc := 891) C dL_step_891 ?_
      refine J_iald (pc := 892) C dL_step_892 67 70 (wL_70 G (pu (pu (pu (pu S S4) S13) S18) S25)) (by decide) (by decide) ?_
      obtain ⟨h29, h30⟩ := h24
      refine J_icmp_gt (pc := 893) (tgt := 921) C dL_step_893 (by decide) hr28 (hok 70 0) (fun cb => ?_) (fun cb => ?_)
      · have h29 := h29 cb
        refine J_iconst (pc := 921) C dL_step_921 ?_
        exact J_zret (pc := 922) C dL_step_922 (by decide) (okL_pu (okL_pu (okL_pu (okL_pu hok hok5) hok14) hok19) hok26) h29 (by decide) (by decide)
      · have h30 := h30 cb
        refine J_aload_n (pc := 896) C dL_step_896 rfl ?_
        refine J_e1 (pc := 897) C (emb_LC G (pu (pu (pu (pu S S4) S13) S18) S25)) (J_eV (pc := 897) C (emb_LC G (pu (pu (pu (pu S S4) S13) S18) S25)) h30 dL_step_897 rfl rfl 0 rfl rfl (cwV 0 C.1.2.2.2.2 gL_step_X6_isGlobal rfl rfl rfl (by decide +kernel) ⟨Nat.le_of_ble_eq_true rfl, Nat.le_of_ble_eq_true rfl⟩) (okC_L (okL_pu (okL_pu (okL_pu (okL_pu hok hok5) hok14) hok19) hok26)) (Nat.le_of_ble_eq_true rfl) ⟨Nat.le_of_ble_eq_true rfl, Nat.le_of_ble_eq_true rfl⟩) (fun E9 S9 ok9 q9 => q9.elim) (fun rv34 S32 hr35 hok33 h31 => ?_)
        have h31 := h31 hr35 hok33
        obtain ⟨h36, h37⟩ := h31
        refine J_if_eq (pc := 900) (tgt := 917) C dL_step_900 (by decide) hr35 (fun cb => ?_) (fun cb => ?_)
        · have h36 := h36 cb
          refine J_iconst (pc := 917) C dL_step_917 ?_
          refine J_goto (pc := 918) (tgt := 922) C dL_step_918 (by decide) ?_
          exact J_zret (pc := 922) C dL_step_922 (by decide) (okL_pu (okL_pu (okL_pu (okL_pu (okL_pu hok hok5) hok14) hok19) hok26) hok33) h36 (by decide) (by decide)
        · have h37 := h37 cb
          refine J_aload_n (pc := 903) C dL_step_903 rfl ?_
          refine J_e1 (pc := 904) C (emb_LC G (pu (pu (pu (pu (pu S S4) S13) S18) S25) S32)) (J_eV (pc := 904) C (emb_LC G (pu (pu (pu (pu (pu S S4) S13) S18) S25) S32)) h37 dL_step_904 rfl rfl 0 rfl rfl (cwV 0 C.1.2.2.2.2 gL_step_X6_lacks rfl rfl rfl (by decide +kernel) ⟨Nat.le_of_ble_eq_true rfl, Nat.le_of_ble_eq_true rfl⟩) (okC_L (okL_pu (okL_pu (okL_pu (okL_pu (okL_pu hok hok5) hok14) hok19) hok26) hok33)) (Nat.le_of_ble_eq_true rfl) ⟨Nat.le_of_ble_eq_true rfl, Nat.le_of_ble_eq_true rfl⟩) (fun E9 S9 ok9 q9 => q9.elim) (fun rv41 S39 hr42 hok40 h38 => ?_)
          have h38 := h38 hr42 hok40
          obtain ⟨h43, h44⟩ := h38
          refine J_if_eq (pc := 907) (tgt := 917) C dL_step_907 (by decide) hr42 (fun cb => ?_) (fun cb => ?_)
          · have h43 := h43 cb
            refine J_iconst (pc := 917) C dL_step_917 ?_
            refine J_goto (pc := 918) (tgt := 922) C dL_step_918 (by decide) ?_
            exact J_zret (pc := 922) C dL_step_922 (by decide) (okL_pu (okL_pu (okL_pu (okL_pu (okL_pu (okL_pu hok hok5) hok14) hok19) hok26) hok33) hok40) h43 (by decide) (by decide)
          · have h44 := h44 cb
            refine J_aload_n (pc := 910) C dL_step_910 rfl ?_
            refine J_iconst (pc := 911) C dL_step_911 ?_
            refine J_iald (pc := 912) C dL_step_912 67 70 (wL_70 G (pu (pu (pu (pu (pu (pu S S4) S13) S18) S25) S32) S39)) (by decide) (by decide) ?_
            refine J_iconst (pc := 913) C dL_step_913 ?_
            obtain ⟨h45, h46⟩ := h44
            refine J_icmp_ge (pc := 914) (tgt := 921) C dL_step_914 (by decide) (hok 70 0) (by decide) (fun cb => ?_) (fun cb => ?_)
            · have h45 := h45 cb
              refine J_iconst (pc := 921) C dL_step_921 ?_
              exact J_zret (pc := 922) C dL_step_922 (by decide) (okL_pu (okL_pu (okL_pu (okL_pu (okL_pu (okL_pu hok hok5) hok14) hok19) hok26) hok33) hok40) h45 (by decide) (by decide)
            · have h46 := h46 cb
              refine J_iconst (pc := 917) C dL_step_917 ?_
              refine J_goto (pc := 918) (tgt := 922) C dL_step_918 (by decide) ?_
              exact J_zret (pc := 922) C dL_step_922 (by decide) (okL_pu (okL_pu (okL_pu (okL_pu (okL_pu (okL_pu hok hok5) hok14) hok19) hok26) hok33) hok40) h46 (by decide) (by decide)

