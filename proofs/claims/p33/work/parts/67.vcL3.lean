def rmL_isSplit : Room := { frames := 10, cells := 16, slots := 96, locals := 212 }
def M_L_isSplit (a0 a1 a2 a3 : Int) (S : St) (Qr : Int → St → Prop) (Qx : String → St → Prop) : Prop := r32 a0 → r32 a1 → r32 a2 → r32 a3 → MM 1 wL okL yL_isSplit wsL_isSplit rmL_isSplit (fun G => [.ref (G.2.2 0), .ref (G.2.2 70), .ref (G.2.2 71), iV a0, iV a1, iV a2, iV a3]) S Qr Qx
set_option maxRecDepth 100000 in
set_option maxHeartbeats 4000000 in
theorem vc_L_isSplit {a0 a1 a2 a3 : Int} {S : St} {Qr : Int → St → Prop} {Qx : String → St → Prop} (h : r32 a0 → r32 a1 → r32 a2 → r32 a3 → okL S → M_L_sets a0 a1 a2 a3 2 S (fun rv4 S2 => r32 rv4 → okL S2 → ((0 ≤ rv4 → ((rv4 ≠ (S2 70 0) → (r32 ((S2 70 0) + 1) ∧ (r32 ((S2 70 2) + 1) ∧ Qr 0 (up (up S2 70 0 ((S2 70 0) + 1)) 70 2 ((S2 70 2) + 1))))) ∧ (rv4 = (S2 70 0) → M_X6_ofJoint rv4 2 S2 (fun rv19 S17 => r32 rv19 → okC S17 → ((rv19 ≠ 3 → (r32 ((S2 70 0) + 1) ∧ (r32 ((S2 70 2) + 1) ∧ Qr 0 (up (up (pu S2 S17) 70 0 ((S2 70 0) + 1)) 70 2 ((S2 70 2) + 1))))) ∧ (rv19 = 3 → M_L_asks a0 0 1 (pu S2 S17) (fun rv32 S30 => r32 rv32 → okL S30 → ((rv32 ≠ (-200) → (r32 ((S30 70 0) + 1) ∧ (r32 ((S30 70 2) + 1) ∧ Qr 0 (up (up S30 70 0 ((S30 70 0) + 1)) 70 2 ((S30 70 2) + 1))))) ∧ (rv32 = (-200) → (r32 ((S30 70 0) + 1) ∧ (r32 ((S30 70 2) + 1) ∧ (ix (2 * a0) 64 ∧ M_L_isSet (S30 70 1) (S30 71 (2 * a0)) rv4 (up (up S30 70 0 ((S30 70 0) + 1)) 70 2 ((S30 70 2) + 1)) (fun rv53 S51 => r32 rv53 → okL S51 → ((rv53 = 0 → Qr 0 S51) ∧ (rv53 ≠ 0 → (ix ((2 * a0) + 1) 64 ∧ M_L_isSet (S51 70 1) (S51 71 ((2 * a0) + 1)) rv4 S51 (fun rv62 S60 => r32 rv62 → okL S60 → ((rv62 = 0 → Qr 0 S60) ∧ (rv62 ≠ 0 → M_L_isSet (S60 70 1) a1 rv4 S60 (fun rv69 S67 => r32 rv69 → okL S67 → ((rv69 = 0 → Qr 0 S67) ∧ (rv69 ≠ 0 → Qr 1 S67))) (fun _ _ => False)))) (fun _ _ => False))))) (fun _ _ => False))))))) (fun _ _ => False)))) (fun _ _ => False)))) ∧ (rv4 < 0 → ((rv4 ≤ (-5) → Qr 0 S2) ∧ ((-5) < rv4 → M_X6_kept S2 (fun rv78 S76 => r32 rv78 → okC S76 → ((rv78 < 0 → Qr 0 (pu S2 S76)) ∧ (0 ≤ rv78 → Qr 1 (pu S2 S76)))) (fun _ _ => False)))))) (fun _ _ => False)) : M_L_isSplit a0 a1 a2 a3 S Qr Qx := by
  intro ra0 ra1 ra2 ra3
  refine MM_of adL (by decide +kernel) rfl (Lf := fun G => [some (.ref (G.2.2 0)), some (.ref (G.2.2 70)), some (.ref (G.2.2 71)), some (iV a0), some (iV a1), some (iV a2), some (iV a3), none, none]) (fun G => by show _ ≤ _; exact Nat.le_of_ble_eq_true rfl) (fun G => rfl) ?_
  intro p l e s m args below meth c G A C hok
  have h := h ra0 ra1 ra2 ra3 hok
  replace C : Cx wL cL_isSplit 9 RL wsL_isSplit (some .boolean) [] p l s m args meth c G A := C
  show J wL 9 rmL_isSplit p l e s m args below meth c G A (QQ 1 wL okL G Qr Qx A below args s rmL_isSplit.cells rmL_isSplit.slots) 0 0 S [some (.ref (G.2.2 0)), some (.ref (G.2.2 70)), some (.ref (G.2.2 71)), some (iV a0), some (iV a1), some (iV a2), some (iV a3), none, none] [] 0
  refine J_aload_n (pc := 0) C dL_isSplit_0 rfl ?_
  refine J_iload_n (pc := 1) C dL_isSplit_1 rfl ?_
  refine J_iload (pc := 2) C dL_isSplit_2 rfl ?_
  refine J_iload (pc := 4) C dL_isSplit_4 rfl ?_
  refine J_iload (pc := 6) C dL_isSplit_6 rfl ?_
  refine J_iconst (pc := 8) C dL_isSplit_8 ?_
  refine J_c1 (pc := 9) C (J_rSX (pc := 9) C (h ra0 ra1 ra2 ra3 (by decide)) dL_isSplit_9 rfl rfl (vx_cwSW 6 C.1.2.2.2.2 gL_isSplit_L_sets rfl rfl rfl (by decide +kernel) ⟨Nat.le_of_ble_eq_true rfl, Nat.le_of_ble_eq_true rfl⟩) hok (Nat.le_of_ble_eq_true rfl) ⟨Nat.le_of_ble_eq_true rfl, Nat.le_of_ble_eq_true rfl⟩) (fun E9 S9 ok9 q9 => q9.elim) (fun rv4 S2 hr5 hok3 h1 => ?_)
  have h1 := h1 hr5 hok3
  refine J_istore (pc := 12) C dL_isSplit_12 (by decide) ?_
  refine J_iload (pc := 14) C dL_isSplit_14 rfl ?_
  obtain ⟨h6, h7⟩ := h1
  refine J_if_ge (pc := 16) (tgt := 39) C dL_isSplit_16 (by decide) hr5 (fun cb => ?_) (fun cb => ?_)
  · have h6 := h6 cb
    refine J_iload (pc := 39) C dL_isSplit_39 rfl ?_
    refine J_aload_n (pc := 41) C dL_isSplit_41 rfl ?_
    refine J_iconst (pc := 42) C dL_isSplit_42 ?_
    refine J_iald (pc := 43) C dL_isSplit_43 67 70 (wL_70 G S2) (by decide) (by decide) ?_
    obtain ⟨h8, h9⟩ := h6
    refine J_icmp_ne (pc := 44) (tgt := 75) C dL_isSplit_44 (by decide) hr5 (hok3 70 0) (fun cb => ?_) (fun cb => ?_)
    · have h8 := h8 cb
      refine J_iconst (pc := 75) C dL_isSplit_75 ?_
      refine J_istore (pc := 76) C dL_isSplit_76 (by decide) ?_
      refine J_aload_n (pc := 78) C dL_isSplit_78 rfl ?_
      refine J_iconst (pc := 79) C dL_isSplit_79 ?_
      refine J_dup2 (pc := 80) C dL_isSplit_80 rfl rfl ?_
      refine J_iald (pc := 81) C dL_isSplit_81 67 70 (wL_70 G S2) (by decide) (by decide) ?_
      refine J_iconst (pc := 82) C dL_isSplit_82 ?_
      refine J_iadd (pc := 83) C dL_isSplit_83 ?_
      obtain ⟨o10, h11⟩ := h8
      refine J_iast (pc := 84) C dL_isSplit_84 67 70 (wL_70 G S2) (by decide) (by decide) (sL_70 G S2 0 ((S2 70 0) + 1)) ?_
      have hok12 := okL_up (k := 70) (j := 0) hok3 (show rngL 70 ((S2 70 0) + 1) from o10)
      refine J_aload_n (pc := 85) C dL_isSplit_85 rfl ?_
      refine J_iconst (pc := 86) C dL_isSplit_86 ?_
      refine J_dup2 (pc := 87) C dL_isSplit_87 rfl rfl ?_
      refine J_iald (pc := 88) C dL_isSplit_88 67 70 (wL_70 G (up S2 70 0 ((S2 70 0) + 1))) (by decide) (by decide) ?_
      refine J_iconst (pc := 89) C dL_isSplit_89 ?_
      refine J_iadd (pc := 90) C dL_isSplit_90 ?_
      obtain ⟨o13, h14⟩ := h11
      refine J_iast (pc := 91) C dL_isSplit_91 67 70 (wL_70 G (up S2 70 0 ((S2 70 0) + 1))) (by decide) (by decide) (sL_70 G (up S2 70 0 ((S2 70 0) + 1)) 2 ((S2 70 2) + 1)) ?_
      have hok15 := okL_up (k := 70) (j := 2) hok12 (show rngL 70 ((S2 70 2) + 1) from o13)
      refine J_iload (pc := 92) C dL_isSplit_92 rfl ?_
      refine J_if_eq (pc := 94) (tgt := 120) C dL_isSplit_94 (by decide) (by decide) (fun _ => ?_) (fun cb => absurd cb (by decide))
      refine J_iconst (pc := 120) C dL_isSplit_120 ?_
      refine J_istore (pc := 121) C dL_isSplit_121 (by decide) ?_
      refine J_iload (pc := 123) C dL_isSplit_123 rfl ?_
      refine J_if_eq (pc := 125) (tgt := 153) C dL_isSplit_125 (by decide) (by decide) (fun _ => ?_) (fun cb => absurd cb (by decide))
      refine J_iconst (pc := 153) C dL_isSplit_153 ?_
      refine J_istore (pc := 154) C dL_isSplit_154 (by decide) ?_
      refine J_iload (pc := 156) C dL_isSplit_156 rfl ?_
      refine J_if_eq (pc := 158) (tgt := 181) C dL_isSplit_158 (by decide) (by decide) (fun _ => ?_) (fun cb => absurd cb (by decide))
      refine J_iconst (pc := 181) C dL_isSplit_181 ?_
      exact J_zret (pc := 182) C dL_isSplit_182 (by decide) hok15 h14 (by decide) (by decide)
    · have h9 := h9 cb
      refine J_aload_n (pc := 47) C dL_isSplit_47 rfl ?_
      refine J_iload (pc := 48) C dL_isSplit_48 rfl ?_
      refine J_iconst (pc := 50) C dL_isSplit_50 ?_
      refine J_e1 (pc := 51) C (emb_LC G S2) (J_eV (pc := 51) C (emb_LC G S2) (h9 hr5 (by decide)) dL_isSplit_51 rfl rfl 0 rfl rfl (cwV 2 C.1.2.2.2.2 gL_isSplit_X6_ofJoint rfl rfl rfl (by decide +kernel) ⟨Nat.le_of_ble_eq_true rfl, Nat.le_of_ble_eq_true rfl⟩) (okC_L hok3) (Nat.le_of_ble_eq_true rfl) ⟨Nat.le_of_ble_eq_true rfl, Nat.le_of_ble_eq_true rfl⟩) (fun E9 S9 ok9 q9 => q9.elim) (fun rv19 S17 hr20 hok18 h16 => ?_)
      have h16 := h16 hr20 hok18
      refine J_iconst (pc := 54) C dL_isSplit_54 ?_
      obtain ⟨h21, h22⟩ := h16
      refine J_icmp_ne (pc := 55) (tgt := 75) C dL_isSplit_55 (by decide) hr20 (by decide) (fun cb => ?_) (fun cb => ?_)
      · have h21 := h21 cb
        refine J_iconst (pc := 75) C dL_isSplit_75 ?_
        refine J_istore (pc := 76) C dL_isSplit_76 (by decide) ?_
        refine J_aload_n (pc := 78) C dL_isSplit_78 rfl ?_
        refine J_iconst (pc := 79) C dL_isSplit_79 ?_
        refine J_dup2 (pc := 80) C dL_isSplit_80 rfl rfl ?_
        refine J_iald (pc := 81) C dL_isSplit_81 67 70 (wL_70 G (pu S2 S17)) (by decide) (by decide) ?_
        refine J_iconst (pc := 82) C dL_isSplit_82 ?_
        refine J_iadd (pc := 83) C dL_isSplit_83 ?_
        obtain ⟨o23, h24⟩ := h21
        refine J_iast (pc := 84) C dL_isSplit_84 67 70 (wL_70 G (pu S2 S17)) (by decide) (by decide) (sL_70 G (pu S2 S17) 0 ((S2 70 0) + 1)) ?_
        have hok25 := okL_up (k := 70) (j := 0) (okL_pu hok3 hok18) (show rngL 70 ((S2 70 0) + 1) from o23)
        refine J_aload_n (pc := 85) C dL_isSplit_85 rfl ?_
        refine J_iconst (pc := 86) C dL_isSplit_86 ?_
        refine J_dup2 (pc := 87) C dL_isSplit_87 rfl rfl ?_
        refine J_iald (pc := 88) C dL_isSplit_88 67 70 (wL_70 G (up (pu S2 S17) 70 0 ((S2 70 0) + 1))) (by decide) (by decide) ?_
        refine J_iconst (pc := 89) C dL_isSplit_89 ?_
        refine J_iadd (pc := 90) C dL_isSplit_90 ?_
        obtain ⟨o26, h27⟩ := h24
        refine J_iast (pc := 91) C dL_isSplit_91 67 70 (wL_70 G (up (pu S2 S17) 70 0 ((S2 70 0) + 1))) (by decide) (by decide) (sL_70 G (up (pu S2 S17) 70 0 ((S2 70 0) + 1)) 2 ((S2 70 2) + 1)) ?_
        have hok28 := okL_up (k := 70) (j := 2) hok25 (show rngL 70 ((S2 70 2) + 1) from o26)
        refine J_iload (pc := 92) C dL_isSplit_92 rfl ?_
        refine J_if_eq (pc := 94) (tgt := 120) C dL_isSplit_94 (by decide) (by decide) (fun _ => ?_) (fun cb => absurd cb (by decide))
        refine J_iconst (pc := 120) C dL_isSplit_120 ?_
        refine J_istore (pc := 121) C dL_isSplit_121 (by decide) ?_
        refine J_iload (pc := 123) C dL_isSplit_123 rfl ?_
        refine J_if_eq (pc := 125) (tgt := 153) C dL_isSplit_125 (by decide) (by decide) (fun _ => ?_) (fun cb => absurd cb (by decide))
        refine J_iconst (pc := 153) C dL_isSplit_153 ?_
        refine J_istore (pc := 154) C dL_isSplit_154 (by decide) ?_
        refine J_iload (pc := 156) C dL_isSplit_156 rfl ?_
        refine J_if_eq (pc := 158) (tgt := 181) C dL_isSplit_158 (by decide) (by decide) (fun _ => ?_) (fun cb => absurd cb (by decide))
        refine J_iconst (pc := 181) C dL_isSplit_181 ?_
        exact J_zret (pc := 182) C dL_isSplit_182 (by decide) hok28 h27 (by decide) (by decide)
      · have h22 := h22 cb
        refine J_aload_n (pc := 58) C dL_isSplit_58 rfl ?_
        refine J_iload_n (pc := 59) C dL_isSplit_59 rfl ?_
        refine J_iconst (pc := 60) C dL_isSplit_60 ?_
        refine J_iconst (pc := 61) C dL_isSplit_61 ?_
        refine J_c1 (pc := 62) C (J_rSX (pc := 62) C (h22 ra0 (by decide) (by decide)) dL_isSplit_62 rfl rfl (vx_cwSW 4 C.1.2.2.2.2 gL_isSplit_L_asks rfl rfl rfl (by decide +kernel) ⟨Nat.le_of_ble_eq_true rfl, Nat.le_of_ble_eq_true rfl⟩) (okL_pu hok3 hok18) (Nat.le_of_ble_eq_true rfl) ⟨Nat.le_of_ble_eq_true rfl, Nat.le_of_ble_eq_true rfl⟩) (fun E9 S9 ok9 q9 => q9.elim) (fun rv32 S30 hr33 hok31 h29 => ?_)
        have h29 := h29 hr33 hok31
        refine J_sipush (pc := 65) C dL_isSplit_65 (by decide) ?_
        obtain ⟨h34, h35⟩ := h29
        refine J_icmp_ne (pc := 68) (tgt := 75) C dL_isSplit_68 (by decide) hr33 (by decide) (fun cb => ?_) (fun cb => ?_)
        · have h34 := h34 cb
          refine J_iconst (pc := 75) C dL_isSplit_75 ?_
          refine J_istore (pc := 76) C dL_isSplit_76 (by decide) ?_
          refine J_aload_n (pc := 78) C dL_isSplit_78 rfl ?_
          refine J_iconst (pc := 79) C dL_isSplit_79 ?_
          refine J_dup2 (pc := 80) C dL_isSplit_80 rfl rfl ?_
          refine J_iald (pc := 81) C dL_isSplit_81 67 70 (wL_70 G S30) (by decide) (by decide) ?_
          refine J_iconst (pc := 82) C dL_isSplit_82 ?_
          refine J_iadd (pc := 83) C dL_isSplit_83 ?_
          obtain ⟨o36, h37⟩ := h34
          refine J_iast (pc := 84) C dL_isSplit_84 67 70 (wL_70 G S30) (by decide) (by decide) (sL_70 G S30 0 ((S30 70 0) + 1)) ?_
          have hok38 := okL_up (k := 70) (j := 0) hok31 (show rngL 70 ((S30 70 0) + 1) from o36)
          refine J_aload_n (pc := 85) C dL_isSplit_85 rfl ?_
          refine J_iconst (pc := 86) C dL_isSplit_86 ?_
          refine J_dup2 (pc := 87) C dL_isSplit_87 rfl rfl ?_
          refine J_iald (pc := 88) C dL_isSplit_88 67 70 (wL_70 G (up S30 70 0 ((S30 70 0) + 1))) (by decide) (by decide) ?_
          refine J_iconst (pc := 89) C dL_isSplit_89 ?_
          refine J_iadd (pc := 90) C dL_isSplit_90 ?_
          obtain ⟨o39, h40⟩ := h37
          refine J_iast (pc := 91) C dL_isSplit_91 67 70 (wL_70 G (up S30 70 0 ((S30 70 0) + 1))) (by decide) (by decide) (sL_70 G (up S30 70 0 ((S30 70 0) + 1)) 2 ((S30 70 2) + 1)) ?_
          have hok41 := okL_up (k := 70) (j := 2) hok38 (show rngL 70 ((S30 70 2) + 1) from o39)
          refine J_iload (pc := 92) C dL_isSplit_92 rfl ?_
          refine J_if_eq (pc := 94) (tgt := 120) C dL_isSplit_94 (by decide) (by decide) (fun _ => ?_) (fun cb => absurd cb (by decide))
          refine J_iconst (pc := 120) C dL_isSplit_120 ?_
          refine J_istore (pc := 121) C dL_isSplit_121 (by decide) ?_
          refine J_iload (pc := 123) C dL_isSplit_123 rfl ?_
          refine J_if_eq (pc := 125) (tgt := 153) C dL_isSplit_125 (by decide) (by decide) (fun _ => ?_) (fun cb => absurd cb (by decide))
          refine J_iconst (pc := 153) C dL_isSplit_153 ?_
          refine J_istore (pc := 154) C dL_isSplit_154 (by decide) ?_
          refine J_iload (pc := 156) C dL_isSplit_156 rfl ?_
          refine J_if_eq (pc := 158) (tgt := 181) C dL_isSplit_158 (by decide) (by decide) (fun _ => ?_) (fun cb => absurd cb (by decide))
          refine J_iconst (pc := 181) C dL_isSplit_181 ?_
          exact J_zret (pc := 182) C dL_isSplit_182 (by decide) hok41 h40 (by decide) (by decide)
        · have h35 := h35 cb
          refine J_iconst (pc := 71) C dL_isSplit_71 ?_
          refine J_goto (pc := 72) (tgt := 76) C dL_isSplit_72 (by decide) ?_
          refine J_istore (pc := 76) C dL_isSplit_76 (by decide) ?_
          refine J_aload_n (pc := 78) C dL_isSplit_78 rfl ?_
          refine J_iconst (pc := 79) C dL_isSplit_79 ?_
          refine J_dup2 (pc := 80) C dL_isSplit_80 rfl rfl ?_
          refine J_iald (pc := 81) C dL_isSplit_81 67 70 (wL_70 G S30) (by decide) (by decide) ?_
          refine J_iconst (pc := 82) C dL_isSplit_82 ?_
          refine J_iadd (pc := 83) C dL_isSplit_83 ?_
          obtain ⟨o42, h43⟩ := h35
          refine J_iast (pc := 84) C dL_isSplit_84 67 70 (wL_70 G S30) (by decide) (by decide) (sL_70 G S30 0 ((S30 70 0) + 1)) ?_
          have hok44 := okL_up (k := 70) (j := 0) hok31 (show rngL 70 ((S30 70 0) + 1) from o42)
          refine J_aload_n (pc := 85) C dL_isSplit_85 rfl ?_
          refine J_iconst (pc := 86) C dL_isSplit_86 ?_
          refine J_dup2 (pc := 87) C dL_isSplit_87 rfl rfl ?_
          refine J_iald (pc := 88) C dL_isSplit_88 67 70 (wL_70 G (up S30 70 0 ((S30 70 0) + 1))) (by decide) (by decide) ?_
          refine J_iconst (pc := 89) C dL_isSplit_89 ?_
          refine J_iadd (pc := 90) C dL_isSplit_90 ?_
          obtain ⟨o45, h46⟩ := h43
          refine J_iast (pc := 91) C dL_isSplit_91 67 70 (wL_70 G (up S30 70 0 ((S30 70 0) + 1))) (by decide) (by decide) (sL_70 G (up S30 70 0 ((S30 70 0) + 1)) 2 ((S30 70 2) + 1)) ?_
          have hok47 := okL_up (k := 70) (j := 2) hok44 (show rngL 70 ((S30 70 2) + 1) from o45)
          refine J_iload (pc := 92) C dL_isSplit_92 rfl ?_
          refine J_if_eq (pc := 94) (tgt := 120) C dL_isSplit_94 (by decide) (by decide) (fun cb => absurd cb (by decide)) (fun _ => ?_)
          refine J_aload_n (pc := 97) C dL_isSplit_97 rfl ?_
          refine J_aload_n (pc := 98) C dL_isSplit_98 rfl ?_
          refine J_aload_n (pc := 99) C dL_isSplit_99 rfl ?_
          refine J_aload_n (pc := 100) C dL_isSplit_100 rfl ?_
          refine J_iconst (pc := 101) C dL_isSplit_101 ?_
          refine J_iald (pc := 102) C dL_isSplit_102 67 70 (wL_70 G (up (up S30 70 0 ((S30 70 0) + 1)) 70 2 ((S30 70 2) + 1))) (by decide) (by decide) ?_
          refine J_aload_n (pc := 103) C dL_isSplit_103 rfl ?_
          refine J_iconst (pc := 104) C dL_isSplit_104 ?_
          refine J_iload_n (pc := 105) C dL_isSplit_105 rfl ?_
          refine J_imul (pc := 106) C dL_isSplit_106 ?_
          obtain ⟨o48, h49⟩ := h46
          refine J_iald (pc := 107) C dL_isSplit_107 68 71 (wL_71 G (up (up S30 70 0 ((S30 70 0) + 1)) 70 2 ((S30 70 2) + 1))) (by decide) o48 ?_
          refine J_iload (pc := 108) C dL_isSplit_108 rfl ?_
          refine J_c1 (pc := 110) C (J_rS (pc := 110) C (h49 (hok31 70 1) (hok31 71 (2 * a0)) hr5) dL_isSplit_110 rfl rfl (va_cwS 6 C.1.2.2.2.2 gL_isSplit_L_isSet rfl rfl rfl (by decide +kernel) ⟨Nat.le_of_ble_eq_true rfl, Nat.le_of_ble_eq_true rfl⟩) hok47 (Nat.le_of_ble_eq_true rfl) ⟨Nat.le_of_ble_eq_true rfl, Nat.le_of_ble_eq_true rfl⟩) (fun E9 S9 ok9 q9 => q9.elim) (fun rv53 S51 hr54 hok52 h50 => ?_)
          have h50 := h50 hr54 hok52
          obtain ⟨h55, h56⟩ := h50
          refine J_if_eq (pc := 113) (tgt := 120) C dL_isSplit_113 (by decide) hr54 (fun cb => ?_) (fun cb => ?_)
          · have h55 := h55 cb
            refine J_iconst (pc := 120) C dL_isSplit_120 ?_
            refine J_istore (pc := 121) C dL_isSplit_121 (by decide) ?_
            refine J_iload (pc := 123) C dL_isSplit_123 rfl ?_
            refine J_if_eq (pc := 125) (tgt := 153) C dL_isSplit_125 (by decide) (by decide) (fun _ => ?_) (fun cb => absurd cb (by decide))
            refine J_iconst (pc := 153) C dL_isSplit_153 ?_
            refine J_istore (pc := 154) C dL_isSplit_154 (by decide) ?_
            refine J_iload (pc := 156) C dL_isSplit_156 rfl ?_
            refine J_if_eq (pc := 158) (tgt := 181) C dL_isSplit_158 (by decide) (by decide) (fun _ => ?_) (fun cb => absurd cb (by decide))
            refine J_iconst (pc := 181) C dL_isSplit_181 ?_
            exact J_zret (pc := 182) C dL_isSplit_182 (by decide) hok52 h55 (by decide) (by decide)
          · have h56 := h56 cb
            refine J_iconst (pc := 116) C dL_isSplit_116 ?_
            refine J_goto (pc := 117) (tgt := 121) C dL_isSplit_117 (by decide) ?_
            refine J_istore (pc := 121) C dL_isSplit_121 (by decide) ?_
            refine J_iload (pc := 123) C dL_isSplit_123 rfl ?_
            refine J_if_eq (pc := 125) (tgt := 153) C dL_isSplit_125 (by decide) (by decide) (fun cb => absurd cb (by decide)) (fun _ => ?_)
            refine J_aload_n (pc := 128) C dL_isSplit_128 rfl ?_
            refine J_aload_n (pc := 129) C dL_isSplit_129 rfl ?_
            refine J_aload_n (pc := 130) C dL_isSplit_130 rfl ?_
            refine J_aload_n (pc := 131) C dL_isSplit_131 rfl ?_
            refine J_iconst (pc := 132) C dL_isSplit_132 ?_
            refine J_iald (pc := 133) C dL_isSplit_133 67 70 (wL_70 G S51) (by decide) (by decide) ?_
            refine J_aload_n (pc := 134) C dL_isSplit_134 rfl ?_
            refine J_iconst (pc := 135) C dL_isSplit_135 ?_
            refine J_iload_n (pc := 136) C dL_isSplit_136 rfl ?_
            refine J_imul (pc := 137) C dL_isSplit_137 ?_
            refine J_iconst (pc := 138) C dL_isSplit_138 ?_
            refine J_iadd (pc := 139) C dL_isSplit_139 ?_
            obtain ⟨o57, h58⟩ := h56
            refine J_iald (pc := 140) C dL_isSplit_140 68 71 (wL_71 G S51) (by decide) o57 ?_
            refine J_iload (pc := 141) C dL_isSplit_141 rfl ?_
            refine J_c1 (pc := 143) C (J_rS (pc := 143) C (h58 (hok52 70 1) (hok52 71 ((2 * a0) + 1)) hr5) dL_isSplit_143 rfl rfl (va_cwS 6 C.1.2.2.2.2 gL_isSplit_L_isSet rfl rfl rfl (by decide +kernel) ⟨Nat.le_of_ble_eq_true rfl, Nat.le_of_ble_eq_true rfl⟩) hok52 (Nat.le_of_ble_eq_true rfl) ⟨Nat.le_of_ble_eq_true rfl, Nat.le_of_ble_eq_true rfl⟩) (fun E9 S9 ok9 q9 => q9.elim) (fun rv62 S60 hr63 hok61 h59 => ?_)
            have h59 := h59 hr63 hok61
            obtain ⟨h64, h65⟩ := h59
            refine J_if_eq (pc := 146) (tgt := 153) C dL_isSplit_146 (by decide) hr63 (fun cb => ?_) (fun cb => ?_)
            · have h64 := h64 cb
              refine J_iconst (pc := 153) C dL_isSplit_153 ?_
              refine J_istore (pc := 154) C dL_isSplit_154 (by decide) ?_
              refine J_iload (pc := 156) C dL_isSplit_156 rfl ?_
              refine J_if_eq (pc := 158) (tgt := 181) C dL_isSplit_158 (by decide) (by decide) (fun _ => ?_) (fun cb => absurd cb (by decide))
              refine J_iconst (pc := 181) C dL_isSplit_181 ?_
              exact J_zret (pc := 182) C dL_isSplit_182 (by decide) hok61 h64 (by decide) (by decide)
            · have h65 := h65 cb
              refine J_iconst (pc := 149) C dL_isSplit_149 ?_
              refine J_goto (pc := 150) (tgt := 154) C dL_isSplit_150 (by decide) ?_
              refine J_istore (pc := 154) C dL_isSplit_154 (by decide) ?_
              refine J_iload (pc := 156) C dL_isSplit_156 rfl ?_
              refine J_if_eq (pc := 158) (tgt := 181) C dL_isSplit_158 (by decide) (by decide) (fun cb => absurd cb (by decide)) (fun _ => ?_)
              refine J_aload_n (pc := 161) C dL_isSplit_161 rfl ?_
              refine J_aload_n (pc := 162) C dL_isSplit_162 rfl ?_
              refine J_aload_n (pc := 163) C dL_isSplit_163 rfl ?_
              refine J_aload_n (pc := 164) C dL_isSplit_164 rfl ?_
              refine J_iconst (pc := 165) C dL_isSplit_165 ?_
              refine J_iald (pc := 166) C dL_isSplit_166 67 70 (wL_70 G S60) (by decide) (by decide) ?_
              refine J_iload (pc := 167) C dL_isSplit_167 rfl ?_
              refine J_iload (pc := 169) C dL_isSplit_169 rfl ?_
              refine J_c1 (pc := 171) C (J_rS (pc := 171) C (h65 (hok61 70 1) ra1 hr5) dL_isSplit_171 rfl rfl (va_cwS 6 C.1.2.2.2.2 gL_isSplit_L_isSet rfl rfl rfl (by decide +kernel) ⟨Nat.le_of_ble_eq_true rfl, Nat.le_of_ble_eq_true rfl⟩) hok61 (Nat.le_of_ble_eq_true rfl) ⟨Nat.le_of_ble_eq_true rfl, Nat.le_of_ble_eq_true rfl⟩) (fun E9 S9 ok9 q9 => q9.elim) (fun rv69 S67 hr70 hok68 h66 => ?_)
              have h66 := h66 hr70 hok68
              obtain ⟨h71, h72⟩ := h66
              refine J_if_eq (pc := 174) (tgt := 181) C dL_isSplit_174 (by decide) hr70 (fun cb => ?_) (fun cb => ?_)
              · have h71 := h71 cb
                refine J_iconst (pc := 181) C dL_isSplit_181 ?_
                exact J_zret (pc := 182) C dL_isSplit_182 (by decide) hok68 h71 (by decide) (by decide)
              · have h72 := h72 cb
                refine J_iconst (pc := 177) C dL_isSplit_177 ?_
                refine J_goto (pc := 178) (tgt := 182) C dL_isSplit_178 (by decide) ?_
                exact J_zret (pc := 182) C dL_isSplit_182 (by decide) hok68 h72 (by decide) (by decide)
  · have h7 := h7 cb
    refine J_iload (pc := 19) C dL_isSplit_19 rfl ?_
    refine J_bipush (pc := 21) C dL_isSplit_21 (by decide) ?_
    obtain ⟨h73, h74⟩ := h7
    refine J_icmp_le (pc := 23) (tgt := 37) C dL_isSplit_23 (by decide) hr5 (by decide) (fun cb => ?_) (fun cb => ?_)
    · have h73 := h73 cb
      refine J_iconst (pc := 37) C dL_isSplit_37 ?_
      exact J_zret (pc := 38) C dL_isSplit_38 (by decide) hok3 h73 (by decide) (by decide)
    · have h74 := h74 cb
      refine J_aload_n (pc := 26) C dL_isSplit_26 rfl ?_
      refine J_e1 (pc := 27) C (emb_LC G S2) (J_eV (pc := 27) C (emb_LC G S2) h74 dL_isSplit_27 rfl rfl 0 rfl rfl (cwV 0 C.1.2.2.2.2 gL_isSplit_X6_kept rfl rfl rfl (by decide +kernel) ⟨Nat.le_of_ble_eq_true rfl, Nat.le_of_ble_eq_true rfl⟩) (okC_L hok3) (Nat.le_of_ble_eq_true rfl) ⟨Nat.le_of_ble_eq_true rfl, Nat.le_of_ble_eq_true rfl⟩) (fun E9 S9 ok9 q9 => q9.elim) (fun rv78 S76 hr79 hok77 h75 => ?_)
      have h75 := h75 hr79 hok77
      obtain ⟨h80, h81⟩ := h75
      refine J_if_lt (pc := 30) (tgt := 37) C dL_isSplit_30 (by decide) hr79 (fun cb => ?_) (fun cb => ?_)
      · have h80 := h80 cb
        refine J_iconst (pc := 37) C dL_isSplit_37 ?_
        exact J_zret (pc := 38) C dL_isSplit_38 (by decide) (okL_pu hok3 hok77) h80 (by decide) (by decide)
      · have h81 := h81 cb
        refine J_iconst (pc := 33) C dL_isSplit_33 ?_
        refine J_goto (pc := 34) (tgt := 38) C dL_isSplit_34 (by decide) ?_
        exact J_zret (pc := 38) C dL_isSplit_38 (by decide) (okL_pu hok3 hok77) h81 (by decide) (by decide)
def rmL_isWhole : Room := { frames := 10, cells := 520, slots := 3120, locals := 219 }
def M_L_isWhole (a0 : Int) (S : St) (Qr : Int → St → Prop) (Qx : String → St → Prop) : Prop := r32 a0 → MM 1 wL okL yL_isWhole wsL_isWhole rmL_isWhole (fun G => [.ref (G.2.2 0), .ref (G.2.2 70), .ref (G.2.2 71), iV a0]) S Qr Qx
def R_L_isWhole_6 (kk : Nat) (x3 x4 x5 : Int) (S : St) (Qr : Int → St → Prop) (Qx : String → St → Prop) : Prop := kk ≤ 64 → r32 x3 → r32 x4 → r32 x5 → RR 1 wL okL wsL_isWhole rmL_isWhole cL_isWhole 9 RL (some .boolean) [] kk (6 * kk) (fun G => [some (.ref (G.2.2 0)), some (.ref (G.2.2 70)), some (.ref (G.2.2 71)), some (iV x3), some (iV x4), some (iV x5), none, none, none]) (fun G => []) 6 S Qr Qx
def R_L_isWhole_169 (kk : Nat) (x3 x6 : Int) (S : St) (Qr : Int → St → Prop) (Qx : String → St → Prop) : Prop := kk ≤ 64 → r32 x3 → r32 x6 → RR 1 wL okL wsL_isWhole rmL_isWhole cL_isWhole 9 RL (some .boolean) [] kk (6 * kk) (fun G => [some (.ref (G.2.2 0)), some (.ref (G.2.2 70)), some (.ref (G.2.2 71)), some (iV x3), none, none, some (iV x6), none, none]) (fun G => []) 169 S Qr Qx
set_option maxRecDepth 100000 in
set_option maxHeartbeats 4000000 in
theorem vc_L_isWhole {a0 : Int} {S : St} {Qr : Int → St → Prop} {Qx : String → St → Prop} (h : r32 a0 → okL S → R_L_isWhole_6 0 a0 0 0 S Qr Qx) : M_L_isWhole a0 S Qr Qx := by
  intro ra0
  refine MM_of adL (by decide +kernel) rfl (Lf := fun G => [some (.ref (G.2.2 0)), some (.ref (G.2.2 70)), some (.ref (G.2.2 71)), some (iV a0), none, none, none, none, none]) (fun G => by show _ ≤ _; exact Nat.le_of_ble_eq_true rfl) (fun G => rfl) ?_
  intro p l e s m args below meth c G A C hok
  have h := h ra0 hok
  replace C : Cx wL cL_isWhole 9 RL wsL_isWhole (some .boolean) [] p l s m args meth c G A := C
  show J wL 9 rmL_isWhole p l e s m args below meth c G A (QQ 1 wL okL G Qr Qx A below args s rmL_isWhole.cells rmL_isWhole.slots) 0 0 S [some (.ref (G.2.2 0)), some (.ref (G.2.2 70)), some (.ref (G.2.2 71)), some (iV a0), none, none, none, none, none] [] 0
  refine J_iconst (pc := 0) C dL_isWhole_0 ?_
  refine J_istore (pc := 1) C dL_isWhole_1 (by decide) ?_
  refine J_iconst (pc := 3) C dL_isWhole_3 ?_
  refine J_istore (pc := 4) C dL_isWhole_4 (by decide) ?_
  refine J_widen (k1 := 0) (n1 := 6 * 0) (by decide) (by decide) ?_
  exact J_sub (L1 := [some (.ref (G.2.2 0)), some (.ref (G.2.2 70)), some (.ref (G.2.2 71)), some (iV a0), some (iV 0), some (iV 0), none, none, none]) ⟨rfl, ⟨rfl, ⟨rfl, ⟨rfl, ⟨rfl, ⟨rfl, trivial⟩⟩⟩⟩⟩⟩ (h (by decide) ra0 (by decide) (by decide) p l e s m args below meth c G A C hok)
set_option maxRecDepth 100000 in
set_option maxHeartbeats 4000000 in
theorem vc_L_isWhole_6 {kk : Nat} {x3 x4 x5 : Int} {S : St} {Qr : Int → St → Prop} {Qx : String → St → Prop} (h : kk ≤ 64 → r32 x3 → r32 x4 → r32 x5 → okL S → (((S 70 0) ≤ x5 → M_X6_motions S (fun rv6 S4 => r32 rv6 → okC S4 → M_X6_stresses (pu S S4) (fun rv11 S9 => r32 rv11 → okC S9 → M_X6_kept (pu (pu S S4) S9) (fun rv16 S14 => r32 rv16 → okC S14 → (r32 (Int.tmod x4 2) ∧ (((Int.tmod x4 2) ≠ 0 → Qr 0 (pu (pu (pu S S4) S9) S14)) ∧ ((Int.tmod x4 2) = 0 → M_X6_rank (pu (pu (pu S S4) S9) S14) (fun rv25 S23 => r32 rv25 → okC S23 → (r32 ((Int.tdiv x4 2) - rv25) ∧ ((rv11 ≠ ((Int.tdiv x4 2) - rv25) → Qr 0 (pu (pu (pu (pu S S4) S9) S14) S23)) ∧ (rv11 = ((Int.tdiv x4 2) - rv25) → (r32 (Int.tdiv x4 2) ∧ (((Int.tdiv x4 2) < rv16 → Qr 0 (pu (pu (pu (pu S S4) S9) S14) S23)) ∧ (rv16 ≤ (Int.tdiv x4 2) → ((rv6 < 0 → Qr 0 (pu (pu (pu (pu S S4) S9) S14) S23)) ∧ (0 ≤ rv6 → ((rv11 < 0 → Qr 0 (pu (pu (pu (pu S S4) S9) S14) S23)) ∧ (0 ≤ rv11 → M_X6_flex rv6 0 1 (pu (pu (pu (pu S S4) S9) S14) S23) (fun rv42 S40 => r32 rv42 → okC S40 → ((rv42 ≠ (-1) → Qr 0 (pu (pu (pu (pu (pu S S4) S9) S14) S23) S40)) ∧ (rv42 = (-1) → M_X6_lacks (pu (pu (pu (pu (pu S S4) S9) S14) S23) S40) (fun rv49 S47 => r32 rv49 → okC S47 → (r32 (((2 * (S 70 0)) - 3) - rv16) ∧ ((rv49 ≠ (((2 * (S 70 0)) - 3) - rv16) → Qr 0 (pu (pu (pu (pu (pu (pu S S4) S9) S14) S23) S40) S47)) ∧ (rv49 = (((2 * (S 70 0)) - 3) - rv16) → M_X6_unbalanced (pu (pu (pu (pu (pu (pu S S4) S9) S14) S23) S40) S47) (fun rv58 S56 => r32 rv58 → okC S56 → ((rv58 = 0 → ((rv6 = 0 → (kk + 2 ≤ 64 ∧ R_L_isWhole_169 (kk + 2) x3 rv11 (pu (pu (pu (pu (pu (pu (pu S S4) S9) S14) S23) S40) S47) S56) Qr Qx)) ∧ (rv6 ≠ 0 → (((S 70 1) = 0 → (kk + 2 ≤ 64 ∧ R_L_isWhole_169 (kk + 2) x3 rv11 (pu (pu (pu (pu (pu (pu (pu S S4) S9) S14) S23) S40) S47) S56) Qr Qx)) ∧ ((S 70 1) ≠ 0 → (0 < (S 70 1) ∧ (r32 (Int.tmod x3 (S 70 1)) ∧ M_L_isMoved (Int.tmod x3 (S 70 1)) (pu (pu (pu (pu (pu (pu (pu S S4) S9) S14) S23) S40) S47) S56) (fun rv77 S75 => r32 rv77 → okL S75 → ((rv77 = 0 → Qr 0 S75) ∧ (rv77 ≠ 0 → (kk + 20 ≤ 64 ∧ R_L_isWhole_169 (kk + 20) x3 rv11 S75 Qr Qx)))) (fun _ _ => False)))))))) ∧ (rv58 ≠ 0 → M_X6_isProper (pu (pu (pu (pu (pu (pu (pu S S4) S9) S14) S23) S40) S47) S56) (fun rv86 S84 => r32 rv86 → okC S84 → ((rv86 ≠ 0 → Qr 0 (pu (pu (pu (pu (pu (pu (pu (pu S S4) S9) S14) S23) S40) S47) S56) S84)) ∧ (rv86 = 0 → ((rv6 = 0 → (kk + 2 ≤ 64 ∧ R_L_isWhole_169 (kk + 2) x3 rv11 (pu (pu (pu (pu (pu (pu (pu (pu S S4) S9) S14) S23) S40) S47) S56) S84) Qr Qx)) ∧ (rv6 ≠ 0 → (((S 70 1) = 0 → (kk + 2 ≤ 64 ∧ R_L_isWhole_169 (kk + 2) x3 rv11 (pu (pu (pu (pu (pu (pu (pu (pu S S4) S9) S14) S23) S40) S47) S56) S84) Qr Qx)) ∧ ((S 70 1) ≠ 0 → (0 < (S 70 1) ∧ (r32 (Int.tmod x3 (S 70 1)) ∧ M_L_isMoved (Int.tmod x3 (S 70 1)) (pu (pu (pu (pu (pu (pu (pu (pu S S4) S9) S14) S23) S40) S47) S56) S84) (fun rv105 S103 => r32 rv105 → okL S103 → ((rv105 = 0 → Qr 0 S103) ∧ (rv105 ≠ 0 → (kk + 20 ≤ 64 ∧ R_L_isWhole_169 (kk + 20) x3 rv11 S103 Qr Qx)))) (fun _ _ => False)))))))))) (fun _ _ => False)))) (fun _ _ => False))))) (fun _ _ => False)))) (fun _ _ => False)))))))))))) (fun _ _ => False))))) (fun _ _ => False)) (fun _ _ => False)) (fun _ _ => False)) ∧ (x5 < (S 70 0) → M_X6_ofJoint x5 2 S (fun rv114 S112 => r32 rv114 → okC S112 → (r32 (x4 + rv114) ∧ (r32 (x5 + 1) ∧ (kk + 2 ≤ 64 ∧ R_L_isWhole_6 (kk + 2) x3 (x4 + rv114) (x5 + 1) (pu S S112) Qr Qx)))) (fun _ _ => False)))) : R_L_isWhole_6 kk x3 x4 x5 S Qr Qx := by
  intro hkk rx3 rx4 rx5
  intro p l e s m args below meth c G A C hok
  have h := h hkk rx3 rx4 rx5 hok
  replace C : Cx wL cL_isWhole 9 RL wsL_isWhole (some .boolean) [] p l s m args meth c G A := C
  show J wL 9 rmL_isWhole p l e s m args below meth c G A (QQ 1 wL okL G Qr Qx A below args s rmL_isWhole.cells rmL_isWhole.slots) kk (6 * kk) S [some (.ref (G.2.2 0)), some (.ref (G.2.2 70)), some (.ref (G.2.2 71)), some (iV x3), some (iV x4), some (iV x5), none, none, none] [] 6
  refine J_iload (pc := 6) C dL_isWhole_6 rfl ?_
  refine J_aload_n (pc := 8) C dL_isWhole_8 rfl ?_
  refine J_iconst (pc := 9) C dL_isWhole_9 ?_
  refine J_iald (pc := 10) C dL_isWhole_10 67 70 (wL_70 G S) (by decide) (by decide) ?_
  obtain ⟨h1, h2⟩ := h
  refine J_icmp_ge (pc := 11) (tgt := 32) C dL_isWhole_11 (by decide) rx5 (hok 70 0) (fun cb => ?_) (fun cb => ?_)
  · have h1 := h1 cb
    refine J_aload_n (pc := 32) C dL_isWhole_32 rfl ?_
    refine J_e1 (pc := 33) C (emb_LC G S) (J_eV (pc := 33) C (emb_LC G S) h1 dL_isWhole_33 rfl rfl 0 rfl rfl (cwV 0 C.1.2.2.2.2 gL_isWhole_X6_motions rfl rfl rfl (by decide +kernel) ⟨Nat.le_of_ble_eq_true rfl, Nat.le_of_ble_eq_true rfl⟩) (okC_L hok) (Nat.le_of_ble_eq_true rfl) ⟨(by show kk + 0 ≤ 520; omega), (by show 6 * kk + 0 ≤ 3120; omega)⟩) (fun E9 S9 ok9 q9 => q9.elim) (fun rv6 S4 hr7 hok5 h3 => ?_)
    have h3 := h3 hr7 hok5
    refine J_istore (pc := 36) C dL_isWhole_36 (by decide) ?_
    refine J_aload_n (pc := 38) C dL_isWhole_38 rfl ?_
    refine J_e1 (pc := 39) C (emb_LC G (pu S S4)) (J_eV (pc := 39) C (emb_LC G (pu S S4)) h3 dL_isWhole_39 rfl rfl 0 rfl rfl (cwV 0 C.1.2.2.2.2 gL_isWhole_X6_stresses rfl rfl rfl (by decide +kernel) ⟨Nat.le_of_ble_eq_true rfl, Nat.le_of_ble_eq_true rfl⟩) (okC_L (okL_pu hok hok5)) (Nat.le_of_ble_eq_true rfl) ⟨(by show kk + 0 ≤ 520; omega), (by show 6 * kk + 0 ≤ 3120; omega)⟩) (fun E9 S9 ok9 q9 => q9.elim) (fun rv11 S9 hr12 hok10 h8 => ?_)
    have h8 := h8 hr12 hok10
    refine J_istore (pc := 42) C dL_isWhole_42 (by decide) ?_
    refine J_aload_n (pc := 44) C dL_isWhole_44 rfl ?_
    refine J_e1 (pc := 45) C (emb_LC G (pu (pu S S4) S9)) (J_eV (pc := 45) C (emb_LC G (pu (pu S S4) S9)) h8 dL_isWhole_45 rfl rfl 0 rfl rfl (cwV 0 C.1.2.2.2.2 gL_isWhole_X6_kept rfl rfl rfl (by decide +kernel) ⟨Nat.le_of_ble_eq_true rfl, Nat.le_of_ble_eq_true rfl⟩) (okC_L (okL_pu (okL_pu hok hok5) hok10)) (Nat.le_of_ble_eq_true rfl) ⟨(by show kk + 0 ≤ 520; omega), (by show 6 * kk + 0 ≤ 3120; omega)⟩) (fun E9 S9 ok9 q9 => q9.elim) (fun rv16 S14 hr17 hok15 h13 => ?_)
    have h13 := h13 hr17 hok15
    refine J_istore (pc := 48) C dL_isWhole_48 (by decide) ?_
    refine J_iload (pc := 50) C dL_isWhole_50 rfl ?_
    refine J_iconst (pc := 52) C dL_isWhole_52 ?_
    refine J_irem (pc := 53) C dL_isWhole_53 rx4 (by decide) (by decide) ?_
    obtain ⟨o18, h19⟩ := h13
    obtain ⟨h20, h21⟩ := h19
    refine J_if_ne (pc := 54) (tgt := 137) C dL_isWhole_54 (by decide) o18 (fun cb => ?_) (fun cb => ?_)
    · have h20 := h20 cb
      refine J_iconst (pc := 137) C dL_isWhole_137 ?_
      refine J_istore (pc := 138) C dL_isWhole_138 (by decide) ?_
      refine J_iload (pc := 140) C dL_isWhole_140 rfl ?_
      refine J_if_eq (pc := 142) (tgt := 202) C dL_isWhole_142 (by decide) (by decide) (fun _ => ?_) (fun cb => absurd cb (by decide))
      refine J_iconst (pc := 202) C dL_isWhole_202 ?_
      exact J_zret (pc := 203) C dL_isWhole_203 (by decide) (okL_pu (okL_pu (okL_pu hok hok5) hok10) hok15) h20 (by show kk + 0 ≤ 520; omega) (by show 6 * kk + 0 ≤ 3120; omega)
    · have h21 := h21 cb
      refine J_iload (pc := 57) C dL_isWhole_57 rfl ?_
      refine J_iload (pc := 59) C dL_isWhole_59 rfl ?_
      refine J_iconst (pc := 61) C dL_isWhole_61 ?_
      refine J_idiv (pc := 62) C dL_isWhole_62 rx4 (by decide) (by decide) ?_
      refine J_aload_n (pc := 63) C dL_isWhole_63 rfl ?_
      refine J_e1 (pc := 64) C (emb_LC G (pu (pu (pu S S4) S9) S14)) (J_eV (pc := 64) C (emb_LC G (pu (pu (pu S S4) S9) S14)) h21 dL_isWhole_64 rfl rfl 0 rfl rfl (cwV 0 C.1.2.2.2.2 gL_isWhole_X6_rank rfl rfl rfl (by decide +kernel) ⟨Nat.le_of_ble_eq_true rfl, Nat.le_of_ble_eq_true rfl⟩) (okC_L (okL_pu (okL_pu (okL_pu hok hok5) hok10) hok15)) (Nat.le_of_ble_eq_true rfl) ⟨(by show kk + 0 ≤ 520; omega), (by show 6 * kk + 0 ≤ 3120; omega)⟩) (fun E9 S9 ok9 q9 => q9.elim) (fun rv25 S23 hr26 hok24 h22 => ?_)
      have h22 := h22 hr26 hok24
      refine J_isub (pc := 67) C dL_isWhole_67 ?_
      obtain ⟨o27, h28⟩ := h22
      obtain ⟨h29, h30⟩ := h28
      refine J_icmp_ne (pc := 68) (tgt := 137) C dL_isWhole_68 (by decide) hr12 o27 (fun cb => ?_) (fun cb => ?_)
      · have h29 := h29 cb
        refine J_iconst (pc := 137) C dL_isWhole_137 ?_
        refine J_istore (pc := 138) C dL_isWhole_138 (by decide) ?_
        refine J_iload (pc := 140) C dL_isWhole_140 rfl ?_
        refine J_if_eq (pc := 142) (tgt := 202) C dL_isWhole_142 (by decide) (by decide) (fun _ => ?_) (fun cb => absurd cb (by decide))
        refine J_iconst (pc := 202) C dL_isWhole_202 ?_
        exact J_zret (pc := 203) C dL_isWhole_203 (by decide) (okL_pu (okL_pu (okL_pu (okL_pu hok hok5) hok10) hok15) hok24) h29 (by show kk + 0 ≤ 520; omega) (by show 6 * kk + 0 ≤ 3120; omega)
      · have h30 := h30 cb
        refine J_iload (pc := 71) C dL_isWhole_71 rfl ?_
        refine J_iload (pc := 73) C dL_isWhole_73 rfl ?_
        refine J_iconst (pc := 75) C dL_isWhole_75 ?_
        refine J_idiv (pc := 76) C dL_isWhole_76 rx4 (by decide) (by decide) ?_
        obtain ⟨o31, h32⟩ := h30
        obtain ⟨h33, h34⟩ := h32
        refine J_icmp_gt (pc := 77) (tgt := 137) C dL_isWhole_77 (by decide) hr17 o31 (fun cb => ?_) (fun cb => ?_)
        · have h33 := h33 cb
          refine J_iconst (pc := 137) C dL_isWhole_137 ?_
          refine J_istore (pc := 138) C dL_isWhole_138 (by decide) ?_
          refine J_iload (pc := 140) C dL_isWhole_140 rfl ?_
          refine J_if_eq (pc := 142) (tgt := 202) C dL_isWhole_142 (by decide) (by decide) (fun _ => ?_) (fun cb => absurd cb (by decide))
          refine J_iconst (pc := 202) C dL_isWhole_202 ?_
          exact J_zret (pc := 203) C dL_isWhole_203 (by decide) (okL_pu (okL_pu (okL_pu (okL_pu hok hok5) hok10) hok15) hok24) h33 (by show kk + 0 ≤ 520; omega) (by show 6 * kk + 0 ≤ 3120; omega)
        · have h34 := h34 cb
          refine J_iload (pc := 80) C dL_isWhole_80 rfl ?_
          obtain ⟨h35, h36⟩ := h34
          refine J_if_lt (pc := 82) (tgt := 137) C dL_isWhole_82 (by decide) hr7 (fun cb => ?_) (fun cb => ?_)
          · have h35 := h35 cb
            refine J_iconst (pc := 137) C dL_isWhole_137 ?_
            refine J_istore (pc := 138) C dL_isWhole_138 (by decide) ?_
            refine J_iload (pc := 140) C dL_isWhole_140 rfl ?_
            refine J_if_eq (pc := 142) (tgt := 202) C dL_isWhole_142 (by decide) (by decide) (fun _ => ?_) (fun cb => absurd cb (by decide))
            refine J_iconst (pc := 202) C dL_isWhole_202 ?_
            exact J_zret (pc := 203) C dL_isWhole_203 (by decide) (okL_pu (okL_pu (okL_pu (okL_pu hok hok5) hok10) hok15) hok24) h35 (by show kk + 0 ≤ 520; omega) (by show 6 * kk + 0 ≤ 3120; omega)
          · have h36 := h36 cb
            refine J_iload (pc := 85) C dL_isWhole_85 rfl ?_
            obtain ⟨h37, h38⟩ := h36
            refine J_if_lt (pc := 87) (tgt := 137) C dL_isWhole_87 (by decide) hr12 (fun cb => ?_) (fun cb => ?_)
            · have h37 := h37 cb
              refine J_iconst (pc := 137) C dL_isWhole_137 ?_
              refine J_istore (pc := 138) C dL_isWhole_138 (by decide) ?_
              refine J_iload (pc := 140) C dL_isWhole_140 rfl ?_
              refine J_if_eq (pc := 142) (tgt := 202) C dL_isWhole_142 (by decide) (by decide) (fun _ => ?_) (fun cb => absurd cb (by decide))
              refine J_iconst (pc := 202) C dL_isWhole_202 ?_
              exact J_zret (pc := 203) C dL_isWhole_203 (by decide) (okL_pu (okL_pu (okL_pu (okL_pu hok hok5) hok10) hok15) hok24) h37 (by show kk + 0 ≤ 520; omega) (by show 6 * kk + 0 ≤ 3120; omega)
            · have h38 := h38 cb
              refine J_aload_n (pc := 90) C dL_isWhole_90 rfl ?_
              refine J_iload (pc := 91) C dL_isWhole_91 rfl ?_
              refine J_iconst (pc := 93) C dL_isWhole_93 ?_
              refine J_iconst (pc := 94) C dL_isWhole_94 ?_
              refine J_e1 (pc := 95) C (emb_LC G (pu (pu (pu (pu S S4) S9) S14) S23)) (J_eV (pc := 95) C (emb_LC G (pu (pu (pu (pu S S4) S9) S14) S23)) (h38 hr7 (by decide) (by decide)) dL_isWhole_95 rfl rfl 0 rfl rfl (cwV 3 C.1.2.2.2.2 gL_isWhole_X6_flex rfl rfl rfl (by decide +kernel) ⟨Nat.le_of_ble_eq_true rfl, Nat.le_of_ble_eq_true rfl⟩) (okC_L (okL_pu (okL_pu (okL_pu (okL_pu hok hok5) hok10) hok15) hok24)) (Nat.le_of_ble_eq_true rfl) ⟨(by show kk + 0 + 2 ≤ 520; omega), (by show 6 * kk + 0 + 12 ≤ 3120; omega)⟩) (fun E9 S9 ok9 q9 => q9.elim) (fun rv42 S40 hr43 hok41 h39 => ?_)
              have h39 := h39 hr43 hok41
              refine J_iconst (pc := 98) C dL_isWhole_98 ?_
              obtain ⟨h44, h45⟩ := h39
              refine J_icmp_ne (pc := 99) (tgt := 137) C dL_isWhole_99 (by decide) hr43 (by decide) (fun cb => ?_) (fun cb => ?_)
              · have h44 := h44 cb
                refine J_iconst (pc := 137) C dL_isWhole_137 ?_
                refine J_istore (pc := 138) C dL_isWhole_138 (by decide) ?_
                refine J_iload (pc := 140) C dL_isWhole_140 rfl ?_
                refine J_if_eq (pc := 142) (tgt := 202) C dL_isWhole_142 (by decide) (by decide) (fun _ => ?_) (fun cb => absurd cb (by decide))
                refine J_iconst (pc := 202) C dL_isWhole_202 ?_
                exact J_zret (pc := 203) C dL_isWhole_203 (by decide) (okL_pu (okL_pu (okL_pu (okL_pu (okL_pu hok hok5) hok10) hok15) hok24) hok41) h44 (by show kk + 2 ≤ 520; omega) (by show 6 * kk + 12 ≤ 3120; omega)
              · have h45 := h45 cb
                refine J_aload_n (pc := 102) C dL_isWhole_102 rfl ?_
                refine J_e1 (pc := 103) C (emb_LC G (pu (pu (pu (pu (pu S S4) S9) S14) S23) S40)) (J_eV (pc := 103) C (emb_LC G (pu (pu (pu (pu (pu S S4) S9) S14) S23) S40)) h45 dL_isWhole_103 rfl rfl 0 rfl rfl (cwV 0 C.1.2.2.2.2 gL_isWhole_X6_lacks rfl rfl rfl (by decide +kernel) ⟨Nat.le_of_ble_eq_true rfl, Nat.le_of_ble_eq_true rfl⟩) (okC_L (okL_pu (okL_pu (okL_pu (okL_pu (okL_pu hok hok5) hok10) hok15) hok24) hok41)) (Nat.le_of_ble_eq_true rfl) ⟨(by show kk + 2 ≤ 520; omega), (by show 6 * kk + 12 ≤ 3120; omega)⟩) (fun E9 S9 ok9 q9 => q9.elim) (fun rv49 S47 hr50 hok48 h46 => ?_)
                have h46 := h46 hr50 hok48
                refine J_iconst (pc := 106) C dL_isWhole_106 ?_
                refine J_aload_n (pc := 107) C dL_isWhole_107 rfl ?_
                refine J_iconst (pc := 108) C dL_isWhole_108 ?_
                refine J_iald (pc := 109) C dL_isWhole_109 67 70 (wL_70 G (pu (pu (pu (pu (pu (pu S S4) S9) S14) S23) S40) S47)) (by decide) (by decide) ?_
                refine J_imul (pc := 110) C dL_isWhole_110 ?_
                refine J_iconst (pc := 111) C dL_isWhole_111 ?_
                refine J_isub (pc := 112) C dL_isWhole_112 ?_
                refine J_iload (pc := 113) C dL_isWhole_113 rfl ?_
                refine J_isub (pc := 115) C dL_isWhole_115 ?_
                obtain ⟨o51, h52⟩ := h46
                obtain ⟨h53, h54⟩ := h52
                refine J_icmp_ne (pc := 116) (tgt := 137) C dL_isWhole_116 (by decide) hr50 o51 (fun cb => ?_) (fun cb => ?_)
                · have h53 := h53 cb
                  refine J_iconst (pc := 137) C dL_isWhole_137 ?_
                  refine J_istore (pc := 138) C dL_isWhole_138 (by decide) ?_
                  refine J_iload (pc := 140) C dL_isWhole_140 rfl ?_
                  refine J_if_eq (pc := 142) (tgt := 202) C dL_isWhole_142 (by decide) (by decide) (fun _ => ?_) (fun cb => absurd cb (by decide))
                  refine J_iconst (pc := 202) C dL_isWhole_202 ?_
                  exact J_zret (pc := 203) C dL_isWhole_203 (by decide) (okL_pu (okL_pu (okL_pu (okL_pu (okL_pu (okL_pu hok hok5) hok10) hok15) hok24) hok41) hok48) h53 (by show kk + 2 ≤ 520; omega) (by show 6 * kk + 12 ≤ 3120; omega)
                · have h54 := h54 cb
                  refine J_aload_n (pc := 119) C dL_isWhole_119 rfl ?_
                  refine J_e1 (pc := 120) C (emb_LC G (pu (pu (pu (pu (pu (pu S S4) S9) S14) S23) S40) S47)) (J_eV (pc := 120) C (emb_LC G (pu (pu (pu (pu (pu (pu S S4) S9) S14) S23) S40) S47)) h54 dL_isWhole_120 rfl rfl 0 rfl rfl (cwV 0 C.1.2.2.2.2 gL_isWhole_X6_unbalanced rfl rfl rfl (by decide +kernel) ⟨Nat.le_of_ble_eq_true rfl, Nat.le_of_ble_eq_true rfl⟩) (okC_L (okL_pu (okL_pu (okL_pu (okL_pu (okL_pu (okL_pu hok hok5) hok10) hok15) hok24) hok41) hok48)) (Nat.le_of_ble_eq_true rfl) ⟨(by show kk + 2 ≤ 520; omega), (by show 6 * kk + 12 ≤ 3120; omega)⟩) (fun E9 S9 ok9 q9 => q9.elim) (fun rv58 S56 hr59 hok57 h55 => ?_)
                  have h55 := h55 hr59 hok57
                  obtain ⟨h60, h61⟩ := h55
                  refine J_if_eq (pc := 123) (tgt := 133) C dL_isWhole_123 (by decide) hr59 (fun cb => ?_) (fun cb => ?_)
                  · have h60 := h60 cb
                    refine J_iconst (pc := 133) C dL_isWhole_133 ?_
                    refine J_goto (pc := 134) (tgt := 138) C dL_isWhole_134 (by decide) ?_
                    refine J_istore (pc := 138) C dL_isWhole_138 (by decide) ?_
                    refine J_iload (pc := 140) C dL_isWhole_140 rfl ?_
                    refine J_if_eq (pc := 142) (tgt := 202) C dL_isWhole_142 (by decide) (by decide) (fun cb => absurd cb (by decide)) (fun _ => ?_)
                    refine J_iload (pc := 145) C dL_isWhole_145 rfl ?_
                    obtain ⟨h62, h63⟩ := h60
                    refine J_if_eq (pc := 147) (tgt := 169) C dL_isWhole_147 (by decide) hr7 (fun cb => ?_) (fun cb => ?_)
                    · have h62 := h62 cb
                      obtain ⟨o64, h65⟩ := h62
                      refine J_widen (k1 := kk + 2) (n1 := 6 * (kk + 2)) (by show kk + 2 ≤ kk + 2; omega) (by show 6 * kk + 12 ≤ 6 * (kk + 2); omega) ?_
                      exact J_sub (L1 := [some (.ref (G.2.2 0)), some (.ref (G.2.2 70)), some (.ref (G.2.2 71)), some (iV x3), none, none, some (iV rv11), none, none]) ⟨rfl, ⟨rfl, ⟨rfl, ⟨rfl, ⟨rfl, trivial⟩⟩⟩⟩⟩ (h65 o64 rx3 hr12 p l e s m args below meth c G A C (okL_pu (okL_pu (okL_pu (okL_pu (okL_pu (okL_pu (okL_pu hok hok5) hok10) hok15) hok24) hok41) hok48) hok57))
                    · have h63 := h63 cb
                      refine J_aload_n (pc := 150) C dL_isWhole_150 rfl ?_
                      refine J_iconst (pc := 151) C dL_isWhole_151 ?_
                      refine J_iald (pc := 152) C dL_isWhole_152 67 70 (wL_70 G (pu (pu (pu (pu (pu (pu (pu S S4) S9) S14) S23) S40) S47) S56)) (by decide) (by decide) ?_
                      obtain ⟨h66, h67⟩ := h63
                      refine J_if_eq (pc := 153) (tgt := 169) C dL_isWhole_153 (by decide) (hok 70 1) (fun cb => ?_) (fun cb => ?_)
                      · have h66 := h66 cb
                        obtain ⟨o68, h69⟩ := h66
                        refine J_widen (k1 := kk + 2) (n1 := 6 * (kk + 2)) (by show kk + 2 ≤ kk + 2; omega) (by show 6 * kk + 12 ≤ 6 * (kk + 2); omega) ?_
                        exact J_sub (L1 := [some (.ref (G.2.2 0)), some (.ref (G.2.2 70)), some (.ref (G.2.2 71)), some (iV x3), none, none, some (iV rv11), none, none]) ⟨rfl, ⟨rfl, ⟨rfl, ⟨rfl, ⟨rfl, trivial⟩⟩⟩⟩⟩ (h69 o68 rx3 hr12 p l e s m args below meth c G A C (okL_pu (okL_pu (okL_pu (okL_pu (okL_pu (okL_pu (okL_pu hok hok5) hok10) hok15) hok24) hok41) hok48) hok57))
                      · have h67 := h67 cb
                        refine J_aload_n (pc := 156) C dL_isWhole_156 rfl ?_
                        refine J_aload_n (pc := 157) C dL_isWhole_157 rfl ?_
                        refine J_iload_n (pc := 158) C dL_isWhole_158 rfl ?_
                        refine J_aload_n (pc := 159) C dL_isWhole_159 rfl ?_
                        refine J_iconst (pc := 160) C dL_isWhole_160 ?_
                        refine J_iald (pc := 161) C dL_isWhole_161 67 70 (wL_70 G (pu (pu (pu (pu (pu (pu (pu S S4) S9) S14) S23) S40) S47) S56)) (by decide) (by decide) ?_
                        obtain ⟨o70, h71⟩ := h67
                        refine J_irem (pc := 162) C dL_isWhole_162 rx3 (hok 70 1) o70 ?_
                        obtain ⟨o72, h73⟩ := h71
                        refine J_c1 (pc := 163) C (J_rS (pc := 163) C (h73 o72) dL_isWhole_163 rfl rfl (va_cwS 3 C.1.2.2.2.2 gL_isWhole_L_isMoved rfl rfl rfl (by decide +kernel) ⟨Nat.le_of_ble_eq_true rfl, Nat.le_of_ble_eq_true rfl⟩) (okL_pu (okL_pu (okL_pu (okL_pu (okL_pu (okL_pu (okL_pu hok hok5) hok10) hok15) hok24) hok41) hok48) hok57) (Nat.le_of_ble_eq_true rfl) ⟨(by show kk + 2 + 18 ≤ 520; omega), (by show 6 * kk + 12 + 108 ≤ 3120; omega)⟩) (fun E9 S9 ok9 q9 => q9.elim) (fun rv77 S75 hr78 hok76 h74 => ?_)
                        have h74 := h74 hr78 hok76
                        obtain ⟨h79, h80⟩ := h74
                        refine J_if_eq (pc := 166) (tgt := 202) C dL_isWhole_166 (by decide) hr78 (fun cb => ?_) (fun cb => ?_)
                        · have h79 := h79 cb
                          refine J_iconst (pc := 202) C dL_isWhole_202 ?_
                          exact J_zret (pc := 203) C dL_isWhole_203 (by decide) hok76 h79 (by show kk + 20 ≤ 520; omega) (by show 6 * kk + 120 ≤ 3120; omega)
                        · have h80 := h80 cb
                          obtain ⟨o81, h82⟩ := h80
                          refine J_widen (k1 := kk + 20) (n1 := 6 * (kk + 20)) (by show kk + 20 ≤ kk + 20; omega) (by show 6 * kk + 120 ≤ 6 * (kk + 20); omega) ?_
                          exact J_sub (L1 := [some (.ref (G.2.2 0)), some (.ref (G.2.2 70)), some (.ref (G.2.2 71)), some (iV x3), none, none, some (iV rv11), none, none]) ⟨rfl, ⟨rfl, ⟨rfl, ⟨rfl, ⟨rfl, trivial⟩⟩⟩⟩⟩ (h82 o81 rx3 hr12 p l e s m args below meth c G A C hok76)
                  · have h61 := h61 cb
                    refine J_aload_n (pc := 126) C dL_isWhole_126 rfl ?_
                    refine J_e1 (pc := 127) C (emb_LC G (pu (pu (pu (pu (pu (pu (pu S S4) S9) S14) S23) S40) S47) S56)) (J_eV (pc := 127) C (emb_LC G (pu (pu (pu (pu (pu (pu (pu S S4) S9) S14) S23) S40) S47) S56)) h61 dL_isWhole_127 rfl rfl 0 rfl rfl (cwV 0 C.1.2.2.2.2 gL_isWhole_X6_isProper rfl rfl rfl (by decide +kernel) ⟨Nat.le_of_ble_eq_true rfl, Nat.le_of_ble_eq_true rfl⟩) (okC_L (okL_pu (okL_pu (okL_pu (okL_pu (okL_pu (okL_pu (okL_pu hok hok5) hok10) hok15) hok24) hok41) hok48) hok57)) (Nat.le_of_ble_eq_true rfl) ⟨(by show kk + 2 ≤ 520; omega), (by show 6 * kk + 12 ≤ 3120; omega)⟩) (fun E9 S9 ok9 q9 => q9.elim) (fun rv86 S84 hr87 hok85 h83 => ?_)
                    have h83 := h83 hr87 hok85
                    obtain ⟨h88, h89⟩ := h83
                    refine J_if_ne (pc := 130) (tgt := 137) C dL_isWhole_130 (by decide) hr87 (fun cb => ?_) (fun cb => ?_)
                    · have h88 := h88 cb
                      refine J_iconst (pc := 137) C dL_isWhole_137 ?_
                      refine J_istore (pc := 138) C dL_isWhole_138 (by decide) ?_
                      refine J_iload (pc := 140) C dL_isWhole_140 rfl ?_
                      refine J_if_eq (pc := 142) (tgt := 202) C dL_isWhole_142 (by decide) (by decide) (fun _ => ?_) (fun cb => absurd cb (by decide))
                      refine J_iconst (pc := 202) C dL_isWhole_202 ?_
                      exact J_zret (pc := 203) C dL_isWhole_203 (by decide) (okL_pu (okL_pu (okL_pu (okL_pu (okL_pu (okL_pu (okL_pu (okL_pu hok hok5) hok10) hok15) hok24) hok41) hok48) hok57) hok85) h88 (by show kk + 2 ≤ 520; omega) (by show 6 * kk + 12 ≤ 3120; omega)
                    · have h89 := h89 cb
                      refine J_iconst (pc := 133) C dL_isWhole_133 ?_
                      refine J_goto (pc := 134) (tgt := 138) C dL_isWhole_134 (by decide) ?_
                      refine J_istore (pc := 138) C dL_isWhole_138 (by decide) ?_
                      refine J_iload (pc := 140) C dL_isWhole_140 rfl ?_
                      refine J_if_eq (pc := 142) (tgt := 202) C dL_isWhole_142 (by decide) (by decide) (fun cb => absurd cb (by decide)) (fun _ => ?_)
                      refine J_iload (pc := 145) C dL_isWhole_145 rfl ?_
                      obtain ⟨h90, h91⟩ := h89
                      refine J_if_eq (pc := 147) (tgt := 169) C dL_isWhole_147 (by decide) hr7 (fun cb => ?_) (fun cb => ?_)
                      · have h90 := h90 cb
                        obtain ⟨o92, h93⟩ := h90
                        refine J_widen (k1 := kk + 2) (n1 := 6 * (kk + 2)) (by show kk + 2 ≤ kk + 2; omega) (by show 6 * kk + 12 ≤ 6 * (kk + 2); omega) ?_
                        exact J_sub (L1 := [some (.ref (G.2.2 0)), some (.ref (G.2.2 70)), some (.ref (G.2.2 71)), some (iV x3), none, none, some (iV rv11), none, none]) ⟨rfl, ⟨rfl, ⟨rfl, ⟨rfl, ⟨rfl, trivial⟩⟩⟩⟩⟩ (h93 o92 rx3 hr12 p l e s m args below meth c G A C (okL_pu (okL_pu (okL_pu (okL_pu (okL_pu (okL_pu (okL_pu (okL_pu hok hok5) hok10) hok15) hok24) hok41) hok48) hok57) hok85))
                      · have h91 := h91 cb
                        refine J_aload_n (pc := 150) C dL_isWhole_150 rfl ?_
                        refine J_iconst (pc := 151) C dL_isWhole_151 ?_
                        refine J_iald (pc := 152) C dL_isWhole_152 67 70 (wL_70 G (pu (pu (pu (pu (pu (pu (pu (pu S S4) S9) S14) S23) S40) S47) S56) S84)) (by decide) (by decide) ?_
                        obtain ⟨h94, h95⟩ := h91
                        refine J_if_eq (pc := 153) (tgt := 169) C dL_isWhole_153 (by decide) (hok 70 1) (fun cb => ?_) (fun cb => ?_)
                        · have h94 := h94 cb
                          obtain ⟨o96, h97⟩ := h94
                          refine J_widen (k1 := kk + 2) (n1 := 6 * (kk + 2)) (by show kk + 2 ≤ kk + 2; omega) (by show 6 * kk + 12 ≤ 6 * (kk + 2); omega) ?_
                          exact J_sub (L1 := [some (.ref (G.2.2 0)), some (.ref (G.2.2 70)), some (.ref (G.2.2 71)), some (iV x3), none, none, some (iV rv11), none, none]) ⟨rfl, ⟨rfl, ⟨rfl, ⟨rfl, ⟨rfl, trivial⟩⟩⟩⟩⟩ (h97 o96 rx3 hr12 p l e s m args below meth c G A C (okL_pu (okL_pu (okL_pu (okL_pu (okL_pu (okL_pu (okL_pu (okL_pu hok hok5) hok10) hok15) hok24) hok41) hok48) hok57) hok85))
                        · have h95 := h95 cb
                          refine J_aload_n (pc := 156) C dL_isWhole_156 rfl ?_
                          refine J_aload_n (pc := 157) C dL_isWhole_157 rfl ?_
                          refine J_iload_n (pc := 158) C dL_isWhole_158 rfl ?_
                          refine J_aload_n (pc := 159) C dL_isWhole_159 rfl ?_
                          refine J_iconst (pc := 160) C dL_isWhole_160 ?_
                          refine J_iald (pc := 161) C dL_isWhole_161 67 70 (wL_70 G (pu (pu (pu (pu (pu (pu (pu (pu S S4) S9) S14) S23) S40) S47) S56) S84)) (by decide) (by decide) ?_
                          obtain ⟨o98, h99⟩ := h95
                          refine J_irem (pc := 162) C dL_isWhole_162 rx3 (hok 70 1) o98 ?_
                          obtain ⟨o100, h101⟩ := h99
                          refine J_c1 (pc := 163) C (J_rS (pc := 163) C (h101 o100) dL_isWhole_163 rfl rfl (va_cwS 3 C.1.2.2.2.2 gL_isWhole_L_isMoved rfl rfl rfl (by decide +kernel) ⟨Nat.le_of_ble_eq_true rfl, Nat.le_of_ble_eq_true rfl⟩) (okL_pu (okL_pu (okL_pu (okL_pu (okL_pu (okL_pu (okL_pu (okL_pu hok hok5) hok10) hok15) hok24) hok41) hok48) hok57) hok85) (Nat.le_of_ble_eq_true rfl) ⟨(by show kk + 2 + 18 ≤ 520; omega), (by show 6 * kk + 12 + 108 ≤ 3120; omega)⟩) (fun E9 S9 ok9 q9 => q9.elim) (fun rv105 S103 hr106 hok104 h102 => ?_)
                          have h102 := h102 hr106 hok104
                          obtain ⟨h107, h108⟩ := h102
                          refine J_if_eq (pc := 166) (tgt := 202) C dL_isWhole_166 (by decide) hr106 (fun cb => ?_) (fun cb => ?_)
                          · have h107 := h107 cb
                            refine J_iconst (pc := 202) C dL_isWhole_202 ?_
                            exact J_zret (pc := 203) C dL_isWhole_203 (by decide) hok104 h107 (by show kk + 20 ≤ 520; omega) (by show 6 * kk + 120 ≤ 3120; omega)
                          · have h108 := h108 cb
                            obtain ⟨o109, h110⟩ := h108
                            refine J_widen (k1 := kk + 20) (n1 := 6 * (kk + 20)) (by show kk + 20 ≤ kk + 20; omega) (by show 6 * kk + 120 ≤ 6 * (kk + 20); omega) ?_
                            exact J_sub (L1 := [some (.ref (G.2.2 0)), some (.ref (G.2.2 70)), some (.ref (G.2.2 71)), some (iV x3), none, none, some (iV rv11), none, none]) ⟨rfl, ⟨rfl, ⟨rfl, ⟨rfl, ⟨rfl, trivial⟩⟩⟩⟩⟩ (h110 o109 rx3 hr12 p l e s m args below meth c G A C hok104)
  · have h2 := h2 cb
    refine J_iload (pc := 14) C dL_isWhole_14 rfl ?_
    refine J_aload_n (pc := 16) C dL_isWhole_16 rfl ?_
    refine J_iload (pc := 17) C dL_isWhole_17 rfl ?_
    refine J_iconst (pc := 19) C dL_isWhole_19 ?_
    refine J_e1 (pc := 20) C (emb_LC G S) (J_eV (pc := 20) C (emb_LC G S) (h2 rx5 (by decide)) dL_isWhole_20 rfl rfl 0 rfl rfl (cwV 2 C.1.2.2.2.2 gL_isWhole_X6_ofJoint rfl rfl rfl (by decide +kernel) ⟨Nat.le_of_ble_eq_true rfl, Nat.le_of_ble_eq_true rfl⟩) (okC_L hok) (Nat.le_of_ble_eq_true rfl) ⟨(by show kk + 0 + 2 ≤ 520; omega), (by show 6 * kk + 0 + 12 ≤ 3120; omega)⟩) (fun E9 S9 ok9 q9 => q9.elim) (fun rv114 S112 hr115 hok113 h111 => ?_)
    have h111 := h111 hr115 hok113
    refine J_iadd (pc := 23) C dL_isWhole_23 ?_
    refine J_istore (pc := 24) C dL_isWhole_24 (by decide) ?_
    refine J_iinc (pc := 26) C dL_isWhole_26 rfl (by decide) ?_
    refine J_goto (pc := 29) (tgt := 6) C dL_isWhole_29 (by decide) ?_
    obtain ⟨o116, h117⟩ := h111
    obtain ⟨o118, h119⟩ := h117
    obtain ⟨o120, h121⟩ := h119
    refine J_widen (k1 := kk + 2) (n1 := 6 * (kk + 2)) (by show kk + 2 ≤ kk + 2; omega) (by show 6 * kk + 12 ≤ 6 * (kk + 2); omega) ?_
    exact J_sub (L1 := [some (.ref (G.2.2 0)), some (.ref (G.2.2 70)), some (.ref (G.2.2 71)), some (iV x3), some (iV (x4 + rv114)), some (iV (x5 + 1)), none, none, none]) ⟨rfl, ⟨rfl, ⟨rfl, ⟨rfl, ⟨rfl, ⟨rfl, trivial⟩⟩⟩⟩⟩⟩ (h121 o120 rx3 o116 o118 p l e s m args below meth c G A C (okL_pu hok hok113))
set_option maxRecDepth 100000 in
set_option maxHeartbeats 4000000 in
theorem vc_L_isWhole_169 {kk : Nat} {x3 x6 : Int} {S : St} {Qr : Int → St → Prop} {Qx : String → St → Prop} (h : kk ≤ 64 → r32 x3 → r32 x6 → okL S → (r32 (Int.tmod x3 6) ∧ ((0 < (Int.tmod x3 6) → Qr 1 S) ∧ ((Int.tmod x3 6) ≤ 0 → ((x6 = 0 → Qr 1 S) ∧ (x6 ≠ 0 → (r32 (Int.tdiv x3 6) ∧ (0 < (S 70 0) ∧ (r32 (Int.tmod (Int.tdiv x3 6) (S 70 0)) ∧ M_L_isNothing (Int.tmod (Int.tdiv x3 6) (S 70 0)) S (fun rv16 S14 => r32 rv16 → okL S14 → ((rv16 = 0 → Qr 0 S14) ∧ (rv16 ≠ 0 → Qr 1 S14))) (fun _ _ => False)))))))))) : R_L_isWhole_169 kk x3 x6 S Qr Qx := by
  intro hkk rx3 rx6
  intro p l e s m args below meth c G A C hok
  have h := h hkk rx3 rx6 hok
  replace C : Cx wL cL_isWhole 9 RL wsL_isWhole (some .boolean) [] p l s m args meth c G A := C
  show J wL 9 rmL_isWhole p l e s m args below meth c G A (QQ 1 wL okL G Qr Qx A below args s rmL_isWhole.cells rmL_isWhole.slots) kk (6 * kk) S [some (.ref (G.2.2 0)), some (.ref (G.2.2 70)), some (.ref (G.2.2 71)), some (iV x3), none, none, some (iV x6), none, none] [] 169
  refine J_iload_n (pc := 169) C dL_isWhole_169 rfl ?_
  refine J_bipush (pc := 170) C dL_isWhole_170 (by decide) ?_
  refine J_irem (pc := 172) C dL_isWhole_172 rx3 (by decide) (by decide) ?_
  obtain ⟨o1, h2⟩ := h
  obtain ⟨h3, h4⟩ := h2
  refine J_if_gt (pc := 173) (tgt := 198) C dL_isWhole_173 (by decide) o1 (fun cb => ?_) (fun cb => ?_)
  · have h3 := h3 cb
    refine J_iconst (pc := 198) C dL_isWhole_198 ?_
    refine J_goto (pc := 199) (tgt := 203) C dL_isWhole_199 (by decide) ?_
    exact J_zret (pc := 203) C dL_isWhole_203 (by decide) hok h3 (by show kk + 0 ≤ 520; omega) (by show 6 * kk + 0 ≤ 3120; omega)
  · have h4 := h4 cb
    refine J_iload (pc := 176) C dL_isWhole_176 rfl ?_
    obtain ⟨h5, h6⟩ := h4
    refine J_if_eq (pc := 178) (tgt := 198) C dL_isWhole_178 (by decide) rx6 (fun cb => ?_) (fun cb => ?_)
    · have h5 := h5 cb
      refine J_iconst (pc := 198) C dL_isWhole_198 ?_
      refine J_goto (pc := 199) (tgt := 203) C dL_isWhole_199 (by decide) ?_
      exact J_zret (pc := 203) C dL_isWhole_203 (by decide) hok h5 (by show kk + 0 ≤ 520; omega) (by show 6 * kk + 0 ≤ 3120; omega)
    · have h6 := h6 cb
      refine J_aload_n (pc := 181) C dL_isWhole_181 rfl ?_
      refine J_aload_n (pc := 182) C dL_isWhole_182 rfl ?_
      refine J_aload_n (pc := 183) C dL_isWhole_183 rfl ?_
      refine J_iload_n (pc := 184) C dL_isWhole_184 rfl ?_
      refine J_bipush (pc := 185) C dL_isWhole_185 (by decide) ?_
      refine J_idiv (pc := 187) C dL_isWhole_187 rx3 (by decide) (by decide) ?_
      refine J_aload_n (pc := 188) C dL_isWhole_188 rfl ?_
      refine J_iconst (pc := 189) C dL_isWhole_189 ?_
      refine J_iald (pc := 190) C dL_isWhole_190 67 70 (wL_70 G S) (by decide) (by decide) ?_
      obtain ⟨o7, h8⟩ := h6
      obtain ⟨o9, h10⟩ := h8
      refine J_irem (pc := 191) C dL_isWhole_191 o7 (hok 70 0) o9 ?_
      obtain ⟨o11, h12⟩ := h10
      refine J_c1 (pc := 192) C (J_rS (pc := 192) C (h12 o11) dL_isWhole_192 rfl rfl (va_cwS 4 C.1.2.2.2.2 gL_isWhole_L_isNothing rfl rfl rfl (by decide +kernel) ⟨Nat.le_of_ble_eq_true rfl, Nat.le_of_ble_eq_true rfl⟩) hok (Nat.le_of_ble_eq_true rfl) ⟨(by show kk + 0 + 400 ≤ 520; omega), (by show 6 * kk + 0 + 2400 ≤ 3120; omega)⟩) (fun E9 S9 ok9 q9 => q9.elim) (fun rv16 S14 hr17 hok15 h13 => ?_)
      have h13 := h13 hr17 hok15
      obtain ⟨h18, h19⟩ := h13
      refine J_if_eq (pc := 195) (tgt := 202) C dL_isWhole_195 (by decide) hr17 (fun cb => ?_) (fun cb => ?_)
      · have h18 := h18 cb
        refine J_iconst (pc := 202) C dL_isWhole_202 ?_
        exact J_zret (pc := 203) C dL_isWhole_203 (by decide) hok15 h18 (by show kk + 400 ≤ 520; omega) (by show 6 * kk + 2400 ≤ 3120; omega)
      · have h19 := h19 cb
        refine J_iconst (pc := 198) C dL_isWhole_198 ?_
        refine J_goto (pc := 199) (tgt := 203) C dL_isWhole_199 (by decide) ?_
        exact J_zret (pc := 203) C dL_isWhole_203 (by decide) hok15 h19 (by show kk + 400 ≤ 520; omega) (by show 6 * kk + 2400 ≤ 3120; omega)
