def rmL_isGrown : Room := { frames := 10, cells := 12, slots := 72, locals := 212 }
def M_L_isGrown (a0 a1 a2 a3 : Int) (S : St) (Qr : Int → St → Prop) (Qx : String → St → Prop) : Prop := r32 a0 → r32 a1 → r32 a2 → r32 a3 → MM 1 wL okL yL_isGrown wsL_isGrown rmL_isGrown (fun G => [.ref (G.2.2 0), .ref (G.2.2 70), .ref (G.2.2 71), iV a0, iV a1, iV a2, iV a3]) S Qr Qx
set_option maxRecDepth 100000 in
set_option maxHeartbeats 4000000 in
theorem vc_L_isGrown {a0 a1 a2 a3 : Int} {S : St} {Qr : Int → St → Prop} {Qx : String → St → Prop} (h : r32 a0 → r32 a1 → r32 a2 → r32 a3 → okL S → M_X6_kept S (fun rv4 S2 => r32 rv4 → okC S2 → M_L_sets a0 a1 a2 a3 1 (pu S S2) (fun rv9 S7 => r32 rv9 → okL S7 → ((0 ≤ rv9 → ((rv9 ≠ (S7 70 0) → (r32 ((S7 70 0) + 1) ∧ (r32 ((S7 70 2) + 1) ∧ Qr 0 (up (up S7 70 0 ((S7 70 0) + 1)) 70 2 ((S7 70 2) + 1))))) ∧ (rv9 = (S7 70 0) → M_X6_kept S7 (fun rv24 S22 => r32 rv24 → okC S22 → (r32 (rv4 + 2) ∧ ((rv24 ≠ (rv4 + 2) → (r32 ((S7 70 0) + 1) ∧ (r32 ((S7 70 2) + 1) ∧ Qr 0 (up (up (pu S7 S22) 70 0 ((S7 70 0) + 1)) 70 2 ((S7 70 2) + 1))))) ∧ (rv24 = (rv4 + 2) → M_X6_ofJoint rv9 2 (pu S7 S22) (fun rv39 S37 => r32 rv39 → okC S37 → ((rv39 ≠ 2 → (r32 ((S7 70 0) + 1) ∧ (r32 ((S7 70 2) + 1) ∧ Qr 0 (up (up (pu (pu S7 S22) S37) 70 0 ((S7 70 0) + 1)) 70 2 ((S7 70 2) + 1))))) ∧ (rv39 = 2 → (r32 ((S7 70 0) + 1) ∧ (r32 ((S7 70 2) + 1) ∧ M_L_isSet (S7 70 1) a0 rv9 (up (up (pu (pu S7 S22) S37) 70 0 ((S7 70 0) + 1)) 70 2 ((S7 70 2) + 1)) (fun rv58 S56 => r32 rv58 → okL S56 → ((rv58 = 0 → Qr 0 S56) ∧ (rv58 ≠ 0 → M_L_isSet (S56 70 1) a1 rv9 S56 (fun rv65 S63 => r32 rv65 → okL S63 → ((rv65 = 0 → Qr 0 S63) ∧ (rv65 ≠ 0 → Qr 1 S63))) (fun _ _ => False)))) (fun _ _ => False)))))) (fun _ _ => False))))) (fun _ _ => False)))) ∧ (rv9 < 0 → ((rv9 ≠ (-3) → (((S7 70 0) ≠ 10 → Qr 0 S7) ∧ ((S7 70 0) = 10 → Qr 1 S7))) ∧ (rv9 = (-3) → ((a0 ≠ a1 → Qr 0 S7) ∧ (a0 = a1 → Qr 1 S7))))))) (fun _ _ => False)) (fun _ _ => False)) : M_L_isGrown a0 a1 a2 a3 S Qr Qx := by
  intro ra0 ra1 ra2 ra3
  refine MM_of adL (by decide +kernel) rfl (Lf := fun G => [some (.ref (G.2.2 0)), some (.ref (G.2.2 70)), some (.ref (G.2.2 71)), some (iV a0), some (iV a1), some (iV a2), some (iV a3), none, none, none]) (fun G => by show _ ≤ _; exact Nat.le_of_ble_eq_true rfl) (fun G => rfl) ?_
  intro p l e s m args below meth c G A C hok
  have h := h ra0 ra1 ra2 ra3 hok
  replace C : Cx wL cL_isGrown 10 RL wsL_isGrown (some .boolean) [] p l s m args meth c G A := C
  show J wL 10 rmL_isGrown p l e s m args below meth c G A (QQ 1 wL okL G Qr Qx A below args s rmL_isGrown.cells rmL_isGrown.slots) 0 0 S [some (.ref (G.2.2 0)), some (.ref (G.2.2 70)), some (.ref (G.2.2 71)), some (iV a0), some (iV a1), some (iV a2), some (iV a3), none, none, none] [] 0
  refine J_aload_n (pc := 0) C dL_isGrown_0 rfl ?_
  refine J_e1 (pc := 1) C (emb_LC G S) (J_eV (pc := 1) C (emb_LC G S) h dL_isGrown_1 rfl rfl 0 rfl rfl (cwV 0 C.1.2.2.2.2 gL_isGrown_X6_kept rfl rfl rfl (by decide +kernel) ⟨Nat.le_of_ble_eq_true rfl, Nat.le_of_ble_eq_true rfl⟩) (okC_L hok) (Nat.le_of_ble_eq_true rfl) ⟨Nat.le_of_ble_eq_true rfl, Nat.le_of_ble_eq_true rfl⟩) (fun E9 S9 ok9 q9 => q9.elim) (fun rv4 S2 hr5 hok3 h1 => ?_)
  have h1 := h1 hr5 hok3
  refine J_istore (pc := 4) C dL_isGrown_4 (by decide) ?_
  refine J_aload_n (pc := 6) C dL_isGrown_6 rfl ?_
  refine J_iload_n (pc := 7) C dL_isGrown_7 rfl ?_
  refine J_iload (pc := 8) C dL_isGrown_8 rfl ?_
  refine J_iload (pc := 10) C dL_isGrown_10 rfl ?_
  refine J_iload (pc := 12) C dL_isGrown_12 rfl ?_
  refine J_iconst (pc := 14) C dL_isGrown_14 ?_
  refine J_c1 (pc := 15) C (J_rSX (pc := 15) C (h1 ra0 ra1 ra2 ra3 (by decide)) dL_isGrown_15 rfl rfl (vx_cwSW 6 C.1.2.2.2.2 gL_isGrown_L_sets rfl rfl rfl (by decide +kernel) ⟨Nat.le_of_ble_eq_true rfl, Nat.le_of_ble_eq_true rfl⟩) (okL_pu hok hok3) (Nat.le_of_ble_eq_true rfl) ⟨Nat.le_of_ble_eq_true rfl, Nat.le_of_ble_eq_true rfl⟩) (fun E9 S9 ok9 q9 => q9.elim) (fun rv9 S7 hr10 hok8 h6 => ?_)
  have h6 := h6 hr10 hok8
  refine J_istore (pc := 18) C dL_isGrown_18 (by decide) ?_
  refine J_iload (pc := 20) C dL_isGrown_20 rfl ?_
  obtain ⟨h11, h12⟩ := h6
  refine J_if_ge (pc := 22) (tgt := 60) C dL_isGrown_22 (by decide) hr10 (fun cb => ?_) (fun cb => ?_)
  · have h11 := h11 cb
    refine J_iload (pc := 60) C dL_isGrown_60 rfl ?_
    refine J_aload_n (pc := 62) C dL_isGrown_62 rfl ?_
    refine J_iconst (pc := 63) C dL_isGrown_63 ?_
    refine J_iald (pc := 64) C dL_isGrown_64 67 70 (wL_70 G S7) (by decide) (by decide) ?_
    obtain ⟨h13, h14⟩ := h11
    refine J_icmp_ne (pc := 65) (tgt := 94) C dL_isGrown_65 (by decide) hr10 (hok8 70 0) (fun cb => ?_) (fun cb => ?_)
    · have h13 := h13 cb
      refine J_iconst (pc := 94) C dL_isGrown_94 ?_
      refine J_istore (pc := 95) C dL_isGrown_95 (by decide) ?_
      refine J_aload_n (pc := 97) C dL_isGrown_97 rfl ?_
      refine J_iconst (pc := 98) C dL_isGrown_98 ?_
      refine J_dup2 (pc := 99) C dL_isGrown_99 rfl rfl ?_
      refine J_iald (pc := 100) C dL_isGrown_100 67 70 (wL_70 G S7) (by decide) (by decide) ?_
      refine J_iconst (pc := 101) C dL_isGrown_101 ?_
      refine J_iadd (pc := 102) C dL_isGrown_102 ?_
      obtain ⟨o15, h16⟩ := h13
      refine J_iast (pc := 103) C dL_isGrown_103 67 70 (wL_70 G S7) (by decide) (by decide) (sL_70 G S7 0 ((S7 70 0) + 1)) ?_
      have hok17 := okL_up (k := 70) (j := 0) hok8 (show rngL 70 ((S7 70 0) + 1) from o15)
      refine J_aload_n (pc := 104) C dL_isGrown_104 rfl ?_
      refine J_iconst (pc := 105) C dL_isGrown_105 ?_
      refine J_dup2 (pc := 106) C dL_isGrown_106 rfl rfl ?_
      refine J_iald (pc := 107) C dL_isGrown_107 67 70 (wL_70 G (up S7 70 0 ((S7 70 0) + 1))) (by decide) (by decide) ?_
      refine J_iconst (pc := 108) C dL_isGrown_108 ?_
      refine J_iadd (pc := 109) C dL_isGrown_109 ?_
      obtain ⟨o18, h19⟩ := h16
      refine J_iast (pc := 110) C dL_isGrown_110 67 70 (wL_70 G (up S7 70 0 ((S7 70 0) + 1))) (by decide) (by decide) (sL_70 G (up S7 70 0 ((S7 70 0) + 1)) 2 ((S7 70 2) + 1)) ?_
      have hok20 := okL_up (k := 70) (j := 2) hok17 (show rngL 70 ((S7 70 2) + 1) from o18)
      refine J_iload (pc := 111) C dL_isGrown_111 rfl ?_
      refine J_if_eq (pc := 113) (tgt := 135) C dL_isGrown_113 (by decide) (by decide) (fun _ => ?_) (fun cb => absurd cb (by decide))
      refine J_iconst (pc := 135) C dL_isGrown_135 ?_
      refine J_istore (pc := 136) C dL_isGrown_136 (by decide) ?_
      refine J_iload (pc := 138) C dL_isGrown_138 rfl ?_
      refine J_if_eq (pc := 140) (tgt := 163) C dL_isGrown_140 (by decide) (by decide) (fun _ => ?_) (fun cb => absurd cb (by decide))
      refine J_iconst (pc := 163) C dL_isGrown_163 ?_
      exact J_zret (pc := 164) C dL_isGrown_164 (by decide) hok20 h19 (by decide) (by decide)
    · have h14 := h14 cb
      refine J_aload_n (pc := 68) C dL_isGrown_68 rfl ?_
      refine J_e1 (pc := 69) C (emb_LC G S7) (J_eV (pc := 69) C (emb_LC G S7) h14 dL_isGrown_69 rfl rfl 0 rfl rfl (cwV 0 C.1.2.2.2.2 gL_isGrown_X6_kept rfl rfl rfl (by decide +kernel) ⟨Nat.le_of_ble_eq_true rfl, Nat.le_of_ble_eq_true rfl⟩) (okC_L hok8) (Nat.le_of_ble_eq_true rfl) ⟨Nat.le_of_ble_eq_true rfl, Nat.le_of_ble_eq_true rfl⟩) (fun E9 S9 ok9 q9 => q9.elim) (fun rv24 S22 hr25 hok23 h21 => ?_)
      have h21 := h21 hr25 hok23
      refine J_iload (pc := 72) C dL_isGrown_72 rfl ?_
      refine J_iconst (pc := 74) C dL_isGrown_74 ?_
      refine J_iadd (pc := 75) C dL_isGrown_75 ?_
      obtain ⟨o26, h27⟩ := h21
      obtain ⟨h28, h29⟩ := h27
      refine J_icmp_ne (pc := 76) (tgt := 94) C dL_isGrown_76 (by decide) hr25 o26 (fun cb => ?_) (fun cb => ?_)
      · have h28 := h28 cb
        refine J_iconst (pc := 94) C dL_isGrown_94 ?_
        refine J_istore (pc := 95) C dL_isGrown_95 (by decide) ?_
        refine J_aload_n (pc := 97) C dL_isGrown_97 rfl ?_
        refine J_iconst (pc := 98) C dL_isGrown_98 ?_
        refine J_dup2 (pc := 99) C dL_isGrown_99 rfl rfl ?_
        refine J_iald (pc := 100) C dL_isGrown_100 67 70 (wL_70 G (pu S7 S22)) (by decide) (by decide) ?_
        refine J_iconst (pc := 101) C dL_isGrown_101 ?_
        refine J_iadd (pc := 102) C dL_isGrown_102 ?_
        obtain ⟨o30, h31⟩ := h28
        refine J_iast (pc := 103) C dL_isGrown_103 67 70 (wL_70 G (pu S7 S22)) (by decide) (by decide) (sL_70 G (pu S7 S22) 0 ((S7 70 0) + 1)) ?_
        have hok32 := okL_up (k := 70) (j := 0) (okL_pu hok8 hok23) (show rngL 70 ((S7 70 0) + 1) from o30)
        refine J_aload_n (pc := 104) C dL_isGrown_104 rfl ?_
        refine J_iconst (pc := 105) C dL_isGrown_105 ?_
        refine J_dup2 (pc := 106) C dL_isGrown_106 rfl rfl ?_
        refine J_iald (pc := 107) C dL_isGrown_107 67 70 (wL_70 G (up (pu S7 S22) 70 0 ((S7 70 0) + 1))) (by decide) (by decide) ?_
        refine J_iconst (pc := 108) C dL_isGrown_108 ?_
        refine J_iadd (pc := 109) C dL_isGrown_109 ?_
        obtain ⟨o33, h34⟩ := h31
        refine J_iast (pc := 110) C dL_isGrown_110 67 70 (wL_70 G (up (pu S7 S22) 70 0 ((S7 70 0) + 1))) (by decide) (by decide) (sL_70 G (up (pu S7 S22) 70 0 ((S7 70 0) + 1)) 2 ((S7 70 2) + 1)) ?_
        have hok35 := okL_up (k := 70) (j := 2) hok32 (show rngL 70 ((S7 70 2) + 1) from o33)
        refine J_iload (pc := 111) C dL_isGrown_111 rfl ?_
        refine J_if_eq (pc := 113) (tgt := 135) C dL_isGrown_113 (by decide) (by decide) (fun _ => ?_) (fun cb => absurd cb (by decide))
        refine J_iconst (pc := 135) C dL_isGrown_135 ?_
        refine J_istore (pc := 136) C dL_isGrown_136 (by decide) ?_
        refine J_iload (pc := 138) C dL_isGrown_138 rfl ?_
        refine J_if_eq (pc := 140) (tgt := 163) C dL_isGrown_140 (by decide) (by decide) (fun _ => ?_) (fun cb => absurd cb (by decide))
        refine J_iconst (pc := 163) C dL_isGrown_163 ?_
        exact J_zret (pc := 164) C dL_isGrown_164 (by decide) hok35 h34 (by decide) (by decide)
      · have h29 := h29 cb
        refine J_aload_n (pc := 79) C dL_isGrown_79 rfl ?_
        refine J_iload (pc := 80) C dL_isGrown_80 rfl ?_
        refine J_iconst (pc := 82) C dL_isGrown_82 ?_
        refine J_e1 (pc := 83) C (emb_LC G (pu S7 S22)) (J_eV (pc := 83) C (emb_LC G (pu S7 S22)) (h29 hr10 (by decide)) dL_isGrown_83 rfl rfl 0 rfl rfl (cwV 2 C.1.2.2.2.2 gL_isGrown_X6_ofJoint rfl rfl rfl (by decide +kernel) ⟨Nat.le_of_ble_eq_true rfl, Nat.le_of_ble_eq_true rfl⟩) (okC_L (okL_pu hok8 hok23)) (Nat.le_of_ble_eq_true rfl) ⟨Nat.le_of_ble_eq_true rfl, Nat.le_of_ble_eq_true rfl⟩) (fun E9 S9 ok9 q9 => q9.elim) (fun rv39 S37 hr40 hok38 h36 => ?_)
        have h36 := h36 hr40 hok38
        refine J_iconst (pc := 86) C dL_isGrown_86 ?_
        obtain ⟨h41, h42⟩ := h36
        refine J_icmp_ne (pc := 87) (tgt := 94) C dL_isGrown_87 (by decide) hr40 (by decide) (fun cb => ?_) (fun cb => ?_)
        · have h41 := h41 cb
          refine J_iconst (pc := 94) C dL_isGrown_94 ?_
          refine J_istore (pc := 95) C dL_isGrown_95 (by decide) ?_
          refine J_aload_n (pc := 97) C dL_isGrown_97 rfl ?_
          refine J_iconst (pc := 98) C dL_isGrown_98 ?_
          refine J_dup2 (pc := 99) C dL_isGrown_99 rfl rfl ?_
          refine J_iald (pc := 100) C dL_isGrown_100 67 70 (wL_70 G (pu (pu S7 S22) S37)) (by decide) (by decide) ?_
          refine J_iconst (pc := 101) C dL_isGrown_101 ?_
          refine J_iadd (pc := 102) C dL_isGrown_102 ?_
          obtain ⟨o43, h44⟩ := h41
          refine J_iast (pc := 103) C dL_isGrown_103 67 70 (wL_70 G (pu (pu S7 S22) S37)) (by decide) (by decide) (sL_70 G (pu (pu S7 S22) S37) 0 ((S7 70 0) + 1)) ?_
          have hok45 := okL_up (k := 70) (j := 0) (okL_pu (okL_pu hok8 hok23) hok38) (show rngL 70 ((S7 70 0) + 1) from o43)
          refine J_aload_n (pc := 104) C dL_isGrown_104 rfl ?_
          refine J_iconst (pc := 105) C dL_isGrown_105 ?_
          refine J_dup2 (pc := 106) C dL_isGrown_106 rfl rfl ?_
          refine J_iald (pc := 107) C dL_isGrown_107 67 70 (wL_70 G (up (pu (pu S7 S22) S37) 70 0 ((S7 70 0) + 1))) (by decide) (by decide) ?_
          refine J_iconst (pc := 108) C dL_isGrown_108 ?_
          refine J_iadd (pc := 109) C dL_isGrown_109 ?_
          obtain ⟨o46, h47⟩ := h44
          refine J_iast (pc := 110) C dL_isGrown_110 67 70 (wL_70 G (up (pu (pu S7 S22) S37) 70 0 ((S7 70 0) + 1))) (by decide) (by decide) (sL_70 G (up (pu (pu S7 S22) S37) 70 0 ((S7 70 0) + 1)) 2 ((S7 70 2) + 1)) ?_
          have hok48 := okL_up (k := 70) (j := 2) hok45 (show rngL 70 ((S7 70 2) + 1) from o46)
          refine J_iload (pc := 111) C dL_isGrown_111 rfl ?_
          refine J_if_eq (pc := 113) (tgt := 135) C dL_isGrown_113 (by decide) (by decide) (fun _ => ?_) (fun cb => absurd cb (by decide))
          refine J_iconst (pc := 135) C dL_isGrown_135 ?_
          refine J_istore (pc := 136) C dL_isGrown_136 (by decide) ?_
          refine J_iload (pc := 138) C dL_isGrown_138 rfl ?_
          refine J_if_eq (pc := 140) (tgt := 163) C dL_isGrown_140 (by decide) (by decide) (fun _ => ?_) (fun cb => absurd cb (by decide))
          refine J_iconst (pc := 163) C dL_isGrown_163 ?_
          exact J_zret (pc := 164) C dL_isGrown_164 (by decide) hok48 h47 (by decide) (by decide)
        · have h42 := h42 cb
          refine J_iconst (pc := 90) C dL_isGrown_90 ?_
          refine J_goto (pc := 91) (tgt := 95) C dL_isGrown_91 (by decide) ?_
          refine J_istore (pc := 95) C dL_isGrown_95 (by decide) ?_
          refine J_aload_n (pc := 97) C dL_isGrown_97 rfl ?_
          refine J_iconst (pc := 98) C dL_isGrown_98 ?_
          refine J_dup2 (pc := 99) C dL_isGrown_99 rfl rfl ?_
          refine J_iald (pc := 100) C dL_isGrown_100 67 70 (wL_70 G (pu (pu S7 S22) S37)) (by decide) (by decide) ?_
          refine J_iconst (pc := 101) C dL_isGrown_101 ?_
          refine J_iadd (pc := 102) C dL_isGrown_102 ?_
          obtain ⟨o49, h50⟩ := h42
          refine J_iast (pc := 103) C dL_isGrown_103 67 70 (wL_70 G (pu (pu S7 S22) S37)) (by decide) (by decide) (sL_70 G (pu (pu S7 S22) S37) 0 ((S7 70 0) + 1)) ?_
          have hok51 := okL_up (k := 70) (j := 0) (okL_pu (okL_pu hok8 hok23) hok38) (show rngL 70 ((S7 70 0) + 1) from o49)
          refine J_aload_n (pc := 104) C dL_isGrown_104 rfl ?_
          refine J_iconst (pc := 105) C dL_isGrown_105 ?_
          refine J_dup2 (pc := 106) C dL_isGrown_106 rfl rfl ?_
          refine J_iald (pc := 107) C dL_isGrown_107 67 70 (wL_70 G (up (pu (pu S7 S22) S37) 70 0 ((S7 70 0) + 1))) (by decide) (by decide) ?_
          refine J_iconst (pc := 108) C dL_isGrown_108 ?_
          refine J_iadd (pc := 109) C dL_isGrown_109 ?_
          obtain ⟨o52, h53⟩ := h50
          refine J_iast (pc := 110) C dL_isGrown_110 67 70 (wL_70 G (up (pu (pu S7 S22) S37) 70 0 ((S7 70 0) + 1))) (by decide) (by decide) (sL_70 G (up (pu (pu S7 S22) S37) 70 0 ((S7 70 0) + 1)) 2 ((S7 70 2) + 1)) ?_
          have hok54 := okL_up (k := 70) (j := 2) hok51 (show rngL 70 ((S7 70 2) + 1) from o52)
          refine J_iload (pc := 111) C dL_isGrown_111 rfl ?_
          refine J_if_eq (pc := 113) (tgt := 135) C dL_isGrown_113 (by decide) (by decide) (fun cb => absurd cb (by decide)) (fun _ => ?_)
          refine J_aload_n (pc := 116) C dL_isGrown_116 rfl ?_
          refine J_aload_n (pc := 117) C dL_isGrown_117 rfl ?_
          refine J_aload_n (pc := 118) C dL_isGrown_118 rfl ?_
          refine J_aload_n (pc := 119) C dL_isGrown_119 rfl ?_
          refine J_iconst (pc := 120) C dL_isGrown_120 ?_
          refine J_iald (pc := 121) C dL_isGrown_121 67 70 (wL_70 G (up (up (pu (pu S7 S22) S37) 70 0 ((S7 70 0) + 1)) 70 2 ((S7 70 2) + 1))) (by decide) (by decide) ?_
          refine J_iload_n (pc := 122) C dL_isGrown_122 rfl ?_
          refine J_iload (pc := 123) C dL_isGrown_123 rfl ?_
          refine J_c1 (pc := 125) C (J_rS (pc := 125) C (h53 (hok8 70 1) ra0 hr10) dL_isGrown_125 rfl rfl (va_cwS 6 C.1.2.2.2.2 gL_isGrown_L_isSet rfl rfl rfl (by decide +kernel) ⟨Nat.le_of_ble_eq_true rfl, Nat.le_of_ble_eq_true rfl⟩) hok54 (Nat.le_of_ble_eq_true rfl) ⟨Nat.le_of_ble_eq_true rfl, Nat.le_of_ble_eq_true rfl⟩) (fun E9 S9 ok9 q9 => q9.elim) (fun rv58 S56 hr59 hok57 h55 => ?_)
          have h55 := h55 hr59 hok57
          obtain ⟨h60, h61⟩ := h55
          refine J_if_eq (pc := 128) (tgt := 135) C dL_isGrown_128 (by decide) hr59 (fun cb => ?_) (fun cb => ?_)
          · have h60 := h60 cb
            refine J_iconst (pc := 135) C dL_isGrown_135 ?_
            refine J_istore (pc := 136) C dL_isGrown_136 (by decide) ?_
            refine J_iload (pc := 138) C dL_isGrown_138 rfl ?_
            refine J_if_eq (pc := 140) (tgt := 163) C dL_isGrown_140 (by decide) (by decide) (fun _ => ?_) (fun cb => absurd cb (by decide))
            refine J_iconst (pc := 163) C dL_isGrown_163 ?_
            exact J_zret (pc := 164) C dL_isGrown_164 (by decide) hok57 h60 (by decide) (by decide)
          · have h61 := h61 cb
            refine J_iconst (pc := 131) C dL_isGrown_131 ?_
            refine J_goto (pc := 132) (tgt := 136) C dL_isGrown_132 (by decide) ?_
            refine J_istore (pc := 136) C dL_isGrown_136 (by decide) ?_
            refine J_iload (pc := 138) C dL_isGrown_138 rfl ?_
            refine J_if_eq (pc := 140) (tgt := 163) C dL_isGrown_140 (by decide) (by decide) (fun cb => absurd cb (by decide)) (fun _ => ?_)
            refine J_aload_n (pc := 143) C dL_isGrown_143 rfl ?_
            refine J_aload_n (pc := 144) C dL_isGrown_144 rfl ?_
            refine J_aload_n (pc := 145) C dL_isGrown_145 rfl ?_
            refine J_aload_n (pc := 146) C dL_isGrown_146 rfl ?_
            refine J_iconst (pc := 147) C dL_isGrown_147 ?_
            refine J_iald (pc := 148) C dL_isGrown_148 67 70 (wL_70 G S56) (by decide) (by decide) ?_
            refine J_iload (pc := 149) C dL_isGrown_149 rfl ?_
            refine J_iload (pc := 151) C dL_isGrown_151 rfl ?_
            refine J_c1 (pc := 153) C (J_rS (pc := 153) C (h61 (hok57 70 1) ra1 hr10) dL_isGrown_153 rfl rfl (va_cwS 6 C.1.2.2.2.2 gL_isGrown_L_isSet rfl rfl rfl (by decide +kernel) ⟨Nat.le_of_ble_eq_true rfl, Nat.le_of_ble_eq_true rfl⟩) hok57 (Nat.le_of_ble_eq_true rfl) ⟨Nat.le_of_ble_eq_true rfl, Nat.le_of_ble_eq_true rfl⟩) (fun E9 S9 ok9 q9 => q9.elim) (fun rv65 S63 hr66 hok64 h62 => ?_)
            have h62 := h62 hr66 hok64
            obtain ⟨h67, h68⟩ := h62
            refine J_if_eq (pc := 156) (tgt := 163) C dL_isGrown_156 (by decide) hr66 (fun cb => ?_) (fun cb => ?_)
            · have h67 := h67 cb
              refine J_iconst (pc := 163) C dL_isGrown_163 ?_
              exact J_zret (pc := 164) C dL_isGrown_164 (by decide) hok64 h67 (by decide) (by decide)
            · have h68 := h68 cb
              refine J_iconst (pc := 159) C dL_isGrown_159 ?_
              refine J_goto (pc := 160) (tgt := 164) C dL_isGrown_160 (by decide) ?_
              exact J_zret (pc := 164) C dL_isGrown_164 (by decide) hok64 h68 (by decide) (by decide)
  · have h12 := h12 cb
    refine J_iload (pc := 25) C dL_isGrown_25 rfl ?_
    refine J_bipush (pc := 27) C dL_isGrown_27 (by decide) ?_
    obtain ⟨h69, h70⟩ := h12
    refine J_icmp_ne (pc := 29) (tgt := 46) C dL_isGrown_29 (by decide) hr10 (by decide) (fun cb => ?_) (fun cb => ?_)
    · have h69 := h69 cb
      refine J_aload_n (pc := 46) C dL_isGrown_46 rfl ?_
      refine J_iconst (pc := 47) C dL_isGrown_47 ?_
      refine J_iald (pc := 48) C dL_isGrown_48 67 70 (wL_70 G S7) (by decide) (by decide) ?_
      refine J_bipush (pc := 49) C dL_isGrown_49 (by decide) ?_
      obtain ⟨h71, h72⟩ := h69
      refine J_icmp_ne (pc := 51) (tgt := 58) C dL_isGrown_51 (by decide) (hok8 70 0) (by decide) (fun cb => ?_) (fun cb => ?_)
      · have h71 := h71 cb
        refine J_iconst (pc := 58) C dL_isGrown_58 ?_
        exact J_zret (pc := 59) C dL_isGrown_59 (by decide) hok8 h71 (by decide) (by decide)
      · have h72 := h72 cb
        refine J_iconst (pc := 54) C dL_isGrown_54 ?_
        refine J_goto (pc := 55) (tgt := 59) C dL_isGrown_55 (by decide) ?_
        exact J_zret (pc := 59) C dL_isGrown_59 (by decide) hok8 h72 (by decide) (by decide)
    · have h70 := h70 cb
      refine J_iload_n (pc := 32) C dL_isGrown_32 rfl ?_
      refine J_iload (pc := 33) C dL_isGrown_33 rfl ?_
      obtain ⟨h73, h74⟩ := h70
      refine J_icmp_ne (pc := 35) (tgt := 42) C dL_isGrown_35 (by decide) ra0 ra1 (fun cb => ?_) (fun cb => ?_)
      · have h73 := h73 cb
        refine J_iconst (pc := 42) C dL_isGrown_42 ?_
        refine J_goto (pc := 43) (tgt := 59) C dL_isGrown_43 (by decide) ?_
        exact J_zret (pc := 59) C dL_isGrown_59 (by decide) hok8 h73 (by decide) (by decide)
      · have h74 := h74 cb
        refine J_iconst (pc := 38) C dL_isGrown_38 ?_
        refine J_goto (pc := 39) (tgt := 59) C dL_isGrown_39 (by decide) ?_
        exact J_zret (pc := 59) C dL_isGrown_59 (by decide) hok8 h74 (by decide) (by decide)
def rmL_isMoved : Room := { frames := 9, cells := 18, slots := 108, locals := 187 }
theorem mL_isMoved_c148 : Cond.constantLong RL 148 (1000003) ∈ wsL_isMoved := by decide +kernel
def M_L_isMoved (a0 : Int) (S : St) (Qr : Int → St → Prop) (Qx : String → St → Prop) : Prop := r32 a0 → MM 1 wL okL yL_isMoved wsL_isMoved rmL_isMoved (fun G => [.ref (G.2.2 0), .ref (G.2.2 71), iV a0]) S Qr Qx
def R_L_isMoved_61 (x3 x4 x5 x7 : Int) (S : St) (Qr : Int → St → Prop) (Qx : String → St → Prop) : Prop := r32 x3 → r32 x4 → r64 x5 → r64 x7 → RR 1 wL okL wsL_isMoved rmL_isMoved cL_isMoved 13 RL (some .boolean) [] 10 60 (fun G => [some (.ref (G.2.2 0)), none, none, some (iV x3), some (iV x4), some (lV x5), none, some (lV x7), none, none, none, none, none]) (fun G => []) 61 S Qr Qx
def R_L_isMoved_86 (x4 x5 x7 x9 : Int) (S : St) (Qr : Int → St → Prop) (Qx : String → St → Prop) : Prop := r32 x4 → r64 x5 → r64 x7 → r64 x9 → RR 1 wL okL wsL_isMoved rmL_isMoved cL_isMoved 13 RL (some .boolean) [] 14 84 (fun G => [some (.ref (G.2.2 0)), none, none, none, some (iV x4), some (lV x5), none, some (lV x7), none, some (lV x9), none, none, none]) (fun G => []) 86 S Qr Qx
set_option maxRecDepth 100000 in
set_option maxHeartbeats 4000000 in
theorem vc_L_isMoved {a0 : Int} {S : St} {Qr : Int → St → Prop} {Qx : String → St → Prop} (h : r32 a0 → okL S → (ix (2 * a0) 64 ∧ (ix ((2 * a0) + 1) 64 ∧ M_L_asks a0 0 3 S (fun rv8 S6 => r32 rv8 → okL S6 → ((0 ≤ rv8 → M_X6_ofJoint (S 71 (2 * a0)) 0 S6 (fun rv15 S13 => r32 rv15 → okC S13 → M_X6_ofJoint (S 71 ((2 * a0) + 1)) 0 (pu S6 S13) (fun rv20 S18 => r32 rv20 → okC S18 → (r32 (rv15 - rv20) ∧ M_X6_ofJoint (S 71 (2 * a0)) 1 (pu (pu S6 S13) S18) (fun rv27 S25 => r32 rv27 → okC S25 → M_X6_ofJoint (S 71 ((2 * a0) + 1)) 1 (pu (pu (pu S6 S13) S18) S25) (fun rv32 S30 => r32 rv32 → okC S30 → (r32 (rv27 - rv32) ∧ R_L_isMoved_61 (S 71 (2 * a0)) (S 71 ((2 * a0) + 1)) (rv15 - rv20) (rv27 - rv32) (pu (pu (pu (pu S6 S13) S18) S25) S30) Qr Qx)) (fun _ _ => False)) (fun _ _ => False))) (fun _ _ => False)) (fun _ _ => False)) ∧ (rv8 < 0 → Qr 1 S6))) (fun _ _ => False)))) : M_L_isMoved a0 S Qr Qx := by
  intro ra0
  refine MM_of adL (by decide +kernel) rfl (Lf := fun G => [some (.ref (G.2.2 0)), some (.ref (G.2.2 71)), some (iV a0), none, none, none, none, none, none, none, none, none, none]) (fun G => by show _ ≤ _; exact Nat.le_of_ble_eq_true rfl) (fun G => rfl) ?_
  intro p l e s m args below meth c G A C hok
  have h := h ra0 hok
  replace C : Cx wL cL_isMoved 13 RL wsL_isMoved (some .boolean) [] p l s m args meth c G A := C
  show J wL 13 rmL_isMoved p l e s m args below meth c G A (QQ 1 wL okL G Qr Qx A below args s rmL_isMoved.cells rmL_isMoved.slots) 0 0 S [some (.ref (G.2.2 0)), some (.ref (G.2.2 71)), some (iV a0), none, none, none, none, none, none, none, none, none, none] [] 0
  refine J_aload_n (pc := 0) C dL_isMoved_0 rfl ?_
  refine J_iconst (pc := 1) C dL_isMoved_1 ?_
  refine J_iload_n (pc := 2) C dL_isMoved_2 rfl ?_
  refine J_imul (pc := 3) C dL_isMoved_3 ?_
  obtain ⟨o1, h2⟩ := h
  refine J_iald (pc := 4) C dL_isMoved_4 68 71 (wL_71 G S) (by decide) o1 ?_
  refine J_istore_n (pc := 5) C dL_isMoved_5 (by decide) ?_
  refine J_aload_n (pc := 6) C dL_isMoved_6 rfl ?_
  refine J_iconst (pc := 7) C dL_isMoved_7 ?_
  refine J_iload_n (pc := 8) C dL_isMoved_8 rfl ?_
  refine J_imul (pc := 9) C dL_isMoved_9 ?_
  refine J_iconst (pc := 10) C dL_isMoved_10 ?_
  refine J_iadd (pc := 11) C dL_isMoved_11 ?_
  obtain ⟨o3, h4⟩ := h2
  refine J_iald (pc := 12) C dL_isMoved_12 68 71 (wL_71 G S) (by decide) o3 ?_
  refine J_istore (pc := 13) C dL_isMoved_13 (by decide) ?_
  refine J_aload_n (pc := 15) C dL_isMoved_15 rfl ?_
  refine J_iload_n (pc := 16) C dL_isMoved_16 rfl ?_
  refine J_iconst (pc := 17) C dL_isMoved_17 ?_
  refine J_iconst (pc := 18) C dL_isMoved_18 ?_
  refine J_c1 (pc := 19) C (J_rSX (pc := 19) C (h4 ra0 (by decide) (by decide)) dL_isMoved_19 rfl rfl (vx_cwSW 4 C.1.2.2.2.2 gL_isMoved_L_asks rfl rfl rfl (by decide +kernel) ⟨Nat.le_of_ble_eq_true rfl, Nat.le_of_ble_eq_true rfl⟩) hok (Nat.le_of_ble_eq_true rfl) ⟨Nat.le_of_ble_eq_true rfl, Nat.le_of_ble_eq_true rfl⟩) (fun E9 S9 ok9 q9 => q9.elim) (fun rv8 S6 hr9 hok7 h5 => ?_)
  have h5 := h5 hr9 hok7
  obtain ⟨h10, h11⟩ := h5
  refine J_if_ge (pc := 22) (tgt := 27) C dL_isMoved_22 (by decide) hr9 (fun cb => ?_) (fun cb => ?_)
  · have h10 := h10 cb
    refine J_aload_n (pc := 27) C dL_isMoved_27 rfl ?_
    refine J_iload_n (pc := 28) C dL_isMoved_28 rfl ?_
    refine J_iconst (pc := 29) C dL_isMoved_29 ?_
    refine J_e1 (pc := 30) C (emb_LC G S6) (J_eV (pc := 30) C (emb_LC G S6) (h10 (hok 71 (2 * a0)) (by decide)) dL_isMoved_30 rfl rfl 0 rfl rfl (cwV 2 C.1.2.2.2.2 gL_isMoved_X6_ofJoint rfl rfl rfl (by decide +kernel) ⟨Nat.le_of_ble_eq_true rfl, Nat.le_of_ble_eq_true rfl⟩) (okC_L hok7) (Nat.le_of_ble_eq_true rfl) ⟨Nat.le_of_ble_eq_true rfl, Nat.le_of_ble_eq_true rfl⟩) (fun E9 S9 ok9 q9 => q9.elim) (fun rv15 S13 hr16 hok14 h12 => ?_)
    have h12 := h12 hr16 hok14
    refine J_aload_n (pc := 33) C dL_isMoved_33 rfl ?_
    refine J_iload (pc := 34) C dL_isMoved_34 rfl ?_
    refine J_iconst (pc := 36) C dL_isMoved_36 ?_
    refine J_e1 (pc := 37) C (emb_LC G (pu S6 S13)) (J_eV (pc := 37) C (emb_LC G (pu S6 S13)) (h12 (hok 71 ((2 * a0) + 1)) (by decide)) dL_isMoved_37 rfl rfl 0 rfl rfl (cwV 2 C.1.2.2.2.2 gL_isMoved_X6_ofJoint rfl rfl rfl (by decide +kernel) ⟨Nat.le_of_ble_eq_true rfl, Nat.le_of_ble_eq_true rfl⟩) (okC_L (okL_pu hok7 hok14)) (Nat.le_of_ble_eq_true rfl) ⟨Nat.le_of_ble_eq_true rfl, Nat.le_of_ble_eq_true rfl⟩) (fun E9 S9 ok9 q9 => q9.elim) (fun rv20 S18 hr21 hok19 h17 => ?_)
    have h17 := h17 hr21 hok19
    refine J_isub (pc := 40) C dL_isMoved_40 ?_
    obtain ⟨o22, h23⟩ := h17
    refine J_i2l (pc := 41) C dL_isMoved_41 o22 ?_
    refine J_lstore (pc := 42) C dL_isMoved_42 (by decide) ?_
    refine J_aload_n (pc := 44) C dL_isMoved_44 rfl ?_
    refine J_iload_n (pc := 45) C dL_isMoved_45 rfl ?_
    refine J_iconst (pc := 46) C dL_isMoved_46 ?_
    refine J_e1 (pc := 47) C (emb_LC G (pu (pu S6 S13) S18)) (J_eV (pc := 47) C (emb_LC G (pu (pu S6 S13) S18)) (h23 (hok 71 (2 * a0)) (by decide)) dL_isMoved_47 rfl rfl 0 rfl rfl (cwV 2 C.1.2.2.2.2 gL_isMoved_X6_ofJoint rfl rfl rfl (by decide +kernel) ⟨Nat.le_of_ble_eq_true rfl, Nat.le_of_ble_eq_true rfl⟩) (okC_L (okL_pu (okL_pu hok7 hok14) hok19)) (Nat.le_of_ble_eq_true rfl) ⟨Nat.le_of_ble_eq_true rfl, Nat.le_of_ble_eq_true rfl⟩) (fun E9 S9 ok9 q9 => q9.elim) (fun rv27 S25 hr28 hok26 h24 => ?_)
    have h24 := h24 hr28 hok26
    refine J_aload_n (pc := 50) C dL_isMoved_50 rfl ?_
    refine J_iload (pc := 51) C dL_isMoved_51 rfl ?_
    refine J_iconst (pc := 53) C dL_isMoved_53 ?_
    refine J_e1 (pc := 54) C (emb_LC G (pu (pu (pu S6 S13) S18) S25)) (J_eV (pc := 54) C (emb_LC G (pu (pu (pu S6 S13) S18) S25)) (h24 (hok 71 ((2 * a0) + 1)) (by decide)) dL_isMoved_54 rfl rfl 0 rfl rfl (cwV 2 C.1.2.2.2.2 gL_isMoved_X6_ofJoint rfl rfl rfl (by decide +kernel) ⟨Nat.le_of_ble_eq_true rfl, Nat.le_of_ble_eq_true rfl⟩) (okC_L (okL_pu (okL_pu (okL_pu hok7 hok14) hok19) hok26)) (Nat.le_of_ble_eq_true rfl) ⟨Nat.le_of_ble_eq_true rfl, Nat.le_of_ble_eq_true rfl⟩) (fun E9 S9 ok9 q9 => q9.elim) (fun rv32 S30 hr33 hok31 h29 => ?_)
    have h29 := h29 hr33 hok31
    refine J_isub (pc := 57) C dL_isMoved_57 ?_
    obtain ⟨o34, h35⟩ := h29
    refine J_i2l (pc := 58) C dL_isMoved_58 o34 ?_
    refine J_lstore (pc := 59) C dL_isMoved_59 (by decide) ?_
    exact J_sub (L1 := [some (.ref (G.2.2 0)), none, none, some (iV (S 71 (2 * a0))), some (iV (S 71 ((2 * a0) + 1))), some (lV (rv15 - rv20)), none, some (lV (rv27 - rv32)), none, none, none, none, none]) ⟨rfl, ⟨rfl, ⟨rfl, ⟨rfl, ⟨rfl, trivial⟩⟩⟩⟩⟩ (h35 (hok 71 (2 * a0)) (hok 71 ((2 * a0) + 1)) (r32_64 o22) (r32_64 o34) p l e s m args below meth c G A C (okL_pu (okL_pu (okL_pu (okL_pu hok7 hok14) hok19) hok26) hok31))
  · have h11 := h11 cb
    refine J_iconst (pc := 25) C dL_isMoved_25 ?_
    exact J_zret (pc := 26) C dL_isMoved_26 (by decide) hok7 h11 (by decide) (by decide)
set_option maxRecDepth 100000 in
set_option maxHeartbeats 4000000 in
theorem vc_L_isMoved_61 {x3 x4 x5 x7 : Int} {S : St} {Qr : Int → St → Prop} {Qx : String → St → Prop} (h : r32 x3 → r32 x4 → r64 x5 → r64 x7 → okL S → M_X6_flex 0 x3 0 S (fun rv4 S2 => r32 rv4 → okC S2 → M_X6_flex 0 x3 1 (pu S S2) (fun rv9 S7 => r32 rv9 → okC S7 → (r64 ((rv4 * x5) + (rv9 * x7)) ∧ R_L_isMoved_86 x4 x5 x7 ((rv4 * x5) + (rv9 * x7)) (pu (pu S S2) S7) Qr Qx)) (fun _ _ => False)) (fun _ _ => False)) : R_L_isMoved_61 x3 x4 x5 x7 S Qr Qx := by
  intro rx3 rx4 rx5 rx7
  intro p l e s m args below meth c G A C hok
  have h := h rx3 rx4 rx5 rx7 hok
  replace C : Cx wL cL_isMoved 13 RL wsL_isMoved (some .boolean) [] p l s m args meth c G A := C
  show J wL 13 rmL_isMoved p l e s m args below meth c G A (QQ 1 wL okL G Qr Qx A below args s rmL_isMoved.cells rmL_isMoved.slots) 10 60 S [some (.ref (G.2.2 0)), none, none, some (iV x3), some (iV x4), some (lV x5), none, some (lV x7), none, none, none, none, none] [] 61
  refine J_aload_n (pc := 61) C dL_isMoved_61 rfl ?_
  refine J_iconst (pc := 62) C dL_isMoved_62 ?_
  refine J_iload_n (pc := 63) C dL_isMoved_63 rfl ?_
  refine J_iconst (pc := 64) C dL_isMoved_64 ?_
  refine J_e1 (pc := 65) C (emb_LC G S) (J_eV (pc := 65) C (emb_LC G S) (h (by decide) rx3 (by decide)) dL_isMoved_65 rfl rfl 0 rfl rfl (cwV 3 C.1.2.2.2.2 gL_isMoved_X6_flex rfl rfl rfl (by decide +kernel) ⟨Nat.le_of_ble_eq_true rfl, Nat.le_of_ble_eq_true rfl⟩) (okC_L hok) (Nat.le_of_ble_eq_true rfl) ⟨Nat.le_of_ble_eq_true rfl, Nat.le_of_ble_eq_true rfl⟩) (fun E9 S9 ok9 q9 => q9.elim) (fun rv4 S2 hr5 hok3 h1 => ?_)
  have h1 := h1 hr5 hok3
  refine J_i2l (pc := 68) C dL_isMoved_68 hr5 ?_
  refine J_lload (pc := 69) C dL_isMoved_69 rfl ?_
  refine J_lmul (pc := 71) C dL_isMoved_71 ?_
  refine J_aload_n (pc := 72) C dL_isMoved_72 rfl ?_
  refine J_iconst (pc := 73) C dL_isMoved_73 ?_
  refine J_iload_n (pc := 74) C dL_isMoved_74 rfl ?_
  refine J_iconst (pc := 75) C dL_isMoved_75 ?_
  refine J_e1 (pc := 76) C (emb_LC G (pu S S2)) (J_eV (pc := 76) C (emb_LC G (pu S S2)) (h1 (by decide) rx3 (by decide)) dL_isMoved_76 rfl rfl 0 rfl rfl (cwV 3 C.1.2.2.2.2 gL_isMoved_X6_flex rfl rfl rfl (by decide +kernel) ⟨Nat.le_of_ble_eq_true rfl, Nat.le_of_ble_eq_true rfl⟩) (okC_L (okL_pu hok hok3)) (Nat.le_of_ble_eq_true rfl) ⟨Nat.le_of_ble_eq_true rfl, Nat.le_of_ble_eq_true rfl⟩) (fun E9 S9 ok9 q9 => q9.elim) (fun rv9 S7 hr10 hok8 h6 => ?_)
  have h6 := h6 hr10 hok8
  refine J_i2l (pc := 79) C dL_isMoved_79 hr10 ?_
  refine J_lload (pc := 80) C dL_isMoved_80 rfl ?_
  refine J_lmul (pc := 82) C dL_isMoved_82 ?_
  refine J_ladd (pc := 83) C dL_isMoved_83 ?_
  refine J_lstore (pc := 84) C dL_isMoved_84 (by decide) ?_
  obtain ⟨o11, h12⟩ := h6
  exact J_sub (L1 := [some (.ref (G.2.2 0)), none, none, none, some (iV x4), some (lV x5), none, some (lV x7), none, some (lV ((rv4 * x5) + (rv9 * x7))), none, none, none]) ⟨rfl, ⟨rfl, ⟨rfl, ⟨rfl, ⟨rfl, trivial⟩⟩⟩⟩⟩ (h12 rx4 rx5 rx7 o11 p l e s m args below meth c G A C (okL_pu (okL_pu hok hok3) hok8))
set_option maxRecDepth 100000 in
set_option maxHeartbeats 4000000 in
theorem vc_L_isMoved_86 {x4 x5 x7 x9 : Int} {S : St} {Qr : Int → St → Prop} {Qx : String → St → Prop} (h : r32 x4 → r64 x5 → r64 x7 → r64 x9 → okL S → M_X6_flex 0 x4 0 S (fun rv4 S2 => r32 rv4 → okC S2 → M_X6_flex 0 x4 1 (pu S S2) (fun rv9 S7 => r32 rv9 → okC S7 → (r64 (x9 - ((rv4 * x5) + (rv9 * x7))) ∧ (r64 (Int.tmod (x9 - ((rv4 * x5) + (rv9 * x7))) 1000003) ∧ (((Int.tmod (x9 - ((rv4 * x5) + (rv9 * x7))) 1000003) ≠ 0 → Qr 0 (pu (pu S S2) S7)) ∧ ((Int.tmod (x9 - ((rv4 * x5) + (rv9 * x7))) 1000003) = 0 → Qr 1 (pu (pu S S2) S7)))))) (fun _ _ => False)) (fun _ _ => False)) : R_L_isMoved_86 x4 x5 x7 x9 S Qr Qx := by
  intro rx4 rx5 rx7 rx9
  intro p l e s m args below meth c G A C hok
  have h := h rx4 rx5 rx7 rx9 hok
  replace C : Cx wL cL_isMoved 13 RL wsL_isMoved (some .boolean) [] p l s m args meth c G A := C
  show J wL 13 rmL_isMoved p l e s m args below meth c G A (QQ 1 wL okL G Qr Qx A below args s rmL_isMoved.cells rmL_isMoved.slots) 14 84 S [some (.ref (G.2.2 0)), none, none, none, some (iV x4), some (lV x5), none, some (lV x7), none, some (lV x9), none, none, none] [] 86
  refine J_aload_n (pc := 86) C dL_isMoved_86 rfl ?_
  refine J_iconst (pc := 87) C dL_isMoved_87 ?_
  refine J_iload (pc := 88) C dL_isMoved_88 rfl ?_
  refine J_iconst (pc := 90) C dL_isMoved_90 ?_
  refine J_e1 (pc := 91) C (emb_LC G S) (J_eV (pc := 91) C (emb_LC G S) (h (by decide) rx4 (by decide)) dL_isMoved_91 rfl rfl 0 rfl rfl (cwV 3 C.1.2.2.2.2 gL_isMoved_X6_flex rfl rfl rfl (by decide +kernel) ⟨Nat.le_of_ble_eq_true rfl, Nat.le_of_ble_eq_true rfl⟩) (okC_L hok) (Nat.le_of_ble_eq_true rfl) ⟨Nat.le_of_ble_eq_true rfl, Nat.le_of_ble_eq_true rfl⟩) (fun E9 S9 ok9 q9 => q9.elim) (fun rv4 S2 hr5 hok3 h1 => ?_)
  have h1 := h1 hr5 hok3
  refine J_i2l (pc := 94) C dL_isMoved_94 hr5 ?_
  refine J_lload (pc := 95) C dL_isMoved_95 rfl ?_
  refine J_lmul (pc := 97) C dL_isMoved_97 ?_
  refine J_aload_n (pc := 98) C dL_isMoved_98 rfl ?_
  refine J_iconst (pc := 99) C dL_isMoved_99 ?_
  refine J_iload (pc := 100) C dL_isMoved_100 rfl ?_
  refine J_iconst (pc := 102) C dL_isMoved_102 ?_
  refine J_e1 (pc := 103) C (emb_LC G (pu S S2)) (J_eV (pc := 103) C (emb_LC G (pu S S2)) (h1 (by decide) rx4 (by decide)) dL_isMoved_103 rfl rfl 0 rfl rfl (cwV 3 C.1.2.2.2.2 gL_isMoved_X6_flex rfl rfl rfl (by decide +kernel) ⟨Nat.le_of_ble_eq_true rfl, Nat.le_of_ble_eq_true rfl⟩) (okC_L (okL_pu hok hok3)) (Nat.le_of_ble_eq_true rfl) ⟨Nat.le_of_ble_eq_true rfl, Nat.le_of_ble_eq_true rfl⟩) (fun E9 S9 ok9 q9 => q9.elim) (fun rv9 S7 hr10 hok8 h6 => ?_)
  have h6 := h6 hr10 hok8
  refine J_i2l (pc := 106) C dL_isMoved_106 hr10 ?_
  refine J_lload (pc := 107) C dL_isMoved_107 rfl ?_
  refine J_lmul (pc := 109) C dL_isMoved_109 ?_
  refine J_ladd (pc := 110) C dL_isMoved_110 ?_
  refine J_lstore (pc := 111) C dL_isMoved_111 (by decide) ?_
  refine J_lload (pc := 113) C dL_isMoved_113 rfl ?_
  refine J_lload (pc := 115) C dL_isMoved_115 rfl ?_
  refine J_lsub (pc := 117) C dL_isMoved_117 ?_
  refine J_ldc2 (pc := 118) (z := 1000003) C mL_isMoved_c148 (by decide) dL_isMoved_118 ?_
  obtain ⟨o11, h12⟩ := h6
  refine J_lrem (pc := 121) C dL_isMoved_121 o11 (by decide) (by decide) ?_
  refine J_lconst (pc := 122) C dL_isMoved_122 ?_
  obtain ⟨o13, h14⟩ := h12
  obtain ⟨h15, h16⟩ := h14
  refine J_lcmp_ne (pc := 123) (tgt := 131) C dL_isMoved_123 dL_isMoved_124 (by decide) o13 (by decide) (fun cb => ?_) (fun cb => ?_)
  · have h15 := h15 cb
    refine J_iconst (pc := 131) C dL_isMoved_131 ?_
    exact J_zret (pc := 132) C dL_isMoved_132 (by decide) (okL_pu (okL_pu hok hok3) hok8) h15 (by decide) (by decide)
  · have h16 := h16 cb
    refine J_iconst (pc := 127) C dL_isMoved_127 ?_
    refine J_goto (pc := 128) (tgt := 132) C dL_isMoved_128 (by decide) ?_
    exact J_zret (pc := 132) C dL_isMoved_132 (by decide) (okL_pu (okL_pu hok hok3) hok8) h16 (by decide) (by decide)
def rmL_isNothing : Room := { frames := 9, cells := 400, slots := 2400, locals := 187 }
theorem mL_isNothing_c148 : Cond.constantLong RL 148 (1000003) ∈ wsL_isNothing := by decide +kernel
def M_L_isNothing (a0 : Int) (S : St) (Qr : Int → St → Prop) (Qx : String → St → Prop) : Prop := r32 a0 → MM 1 wL okL yL_isNothing wsL_isNothing rmL_isNothing (fun G => [.ref (G.2.2 0), .ref (G.2.2 70), .ref (G.2.2 71), iV a0]) S Qr Qx
def R_L_isNothing_12 (kk : Nat) (x3 x4 x6 x8 x9 : Int) (S : St) (Qr : Int → St → Prop) (Qx : String → St → Prop) : Prop := kk ≤ 340 → r32 x3 → r64 x4 → r64 x6 → r32 x8 → r32 x9 → RR 1 wL okL wsL_isNothing rmL_isNothing cL_isNothing 13 RL (some .boolean) [] kk (6 * kk) (fun G => [some (.ref (G.2.2 0)), some (.ref (G.2.2 70)), some (.ref (G.2.2 71)), some (iV x3), some (lV x4), none, some (lV x6), none, some (iV x8), some (iV x9), none, none, none]) (fun G => []) 12 S Qr Qx
def R_L_isNothing_62 (kk : Nat) (x3 x4 x6 x8 x9 x10 s0 : Int) (S : St) (Qr : Int → St → Prop) (Qx : String → St → Prop) : Prop := kk ≤ 340 → r32 x3 → r64 x4 → r64 x6 → r32 x8 → r32 x9 → r32 x10 → r32 s0 → RR 1 wL okL wsL_isNothing rmL_isNothing cL_isNothing 13 RL (some .boolean) [] kk (6 * kk) (fun G => [some (.ref (G.2.2 0)), some (.ref (G.2.2 70)), some (.ref (G.2.2 71)), some (iV x3), some (lV x4), none, some (lV x6), none, some (iV x8), some (iV x9), some (iV x10), none, none]) (fun G => [iV s0]) 62 S Qr Qx
def R_L_isNothing_91 (kk : Nat) (x3 x4 x6 x8 x9 x10 x11 s0 : Int) (S : St) (Qr : Int → St → Prop) (Qx : String → St → Prop) : Prop := kk ≤ 340 → r32 x3 → r64 x4 → r64 x6 → r32 x8 → r32 x9 → r32 x10 → r32 x11 → r32 s0 → RR 1 wL okL wsL_isNothing rmL_isNothing cL_isNothing 13 RL (some .boolean) [] kk (6 * kk) (fun G => [some (.ref (G.2.2 0)), some (.ref (G.2.2 70)), some (.ref (G.2.2 71)), some (iV x3), some (lV x4), none, some (lV x6), none, some (iV x8), some (iV x9), some (iV x10), some (iV x11), none]) (fun G => [iV s0]) 91 S Qr Qx
def R_L_isNothing_126 (kk : Nat) (x3 x4 x6 x8 x9 x10 x11 x12 : Int) (S : St) (Qr : Int → St → Prop) (Qx : String → St → Prop) : Prop := kk ≤ 340 → r32 x3 → r64 x4 → r64 x6 → r32 x8 → r32 x9 → r32 x10 → r32 x11 → r32 x12 → RR 1 wL okL wsL_isNothing rmL_isNothing cL_isNothing 13 RL (some .boolean) [] kk (6 * kk) (fun G => [some (.ref (G.2.2 0)), some (.ref (G.2.2 70)), some (.ref (G.2.2 71)), some (iV x3), some (lV x4), none, some (lV x6), none, some (iV x8), some (iV x9), some (iV x10), some (iV x11), some (iV x12)]) (fun G => []) 126 S Qr Qx
def R_L_isNothing_159 (kk : Nat) (x3 x4 x6 x8 x9 x10 : Int) (S : St) (Qr : Int → St → Prop) (Qx : String → St → Prop) : Prop := kk ≤ 340 → r32 x3 → r64 x4 → r64 x6 → r32 x8 → r32 x9 → r32 x10 → RR 1 wL okL wsL_isNothing rmL_isNothing cL_isNothing 13 RL (some .boolean) [] kk (6 * kk) (fun G => [some (.ref (G.2.2 0)), some (.ref (G.2.2 70)), some (.ref (G.2.2 71)), some (iV x3), some (lV x4), none, some (lV x6), none, some (iV x8), some (iV x9), some (iV x10), none, none]) (fun G => []) 159 S Qr Qx
set_option maxRecDepth 100000 in
set_option maxHeartbeats 4000000 in
theorem vc_L_isNothing {a0 : Int} {S : St} {Qr : Int → St → Prop} {Qx : String → St → Prop} (h : r32 a0 → okL S → R_L_isNothing_12 0 a0 0 0 0 0 S Qr Qx) : M_L_isNothing a0 S Qr Qx := by
  intro ra0
  refine MM_of adL (by decide +kernel) rfl (Lf := fun G => [some (.ref (G.2.2 0)), some (.ref (G.2.2 70)), some (.ref (G.2.2 71)), some (iV a0), none, none, none, none, none, none, none, none, none]) (fun G => by show _ ≤ _; exact Nat.le_of_ble_eq_true rfl) (fun G => rfl) ?_
  intro p l e s m args below meth c G A C hok
  have h := h ra0 hok
  replace C : Cx wL cL_isNothing 13 RL wsL_isNothing (some .boolean) [] p l s m args meth c G A := C
  show J wL 13 rmL_isNothing p l e s m args below meth c G A (QQ 1 wL okL G Qr Qx A below args s rmL_isNothing.cells rmL_isNothing.slots) 0 0 S [some (.ref (G.2.2 0)), some (.ref (G.2.2 70)), some (.ref (G.2.2 71)), some (iV a0), none, none, none, none, none, none, none, none, none] [] 0
  refine J_lconst (pc := 0) C dL_isNothing_0 ?_
  refine J_lstore (pc := 1) C dL_isNothing_1 (by decide) ?_
  refine J_lconst (pc := 3) C dL_isNothing_3 ?_
  refine J_lstore (pc := 4) C dL_isNothing_4 (by decide) ?_
  refine J_iconst (pc := 6) C dL_isNothing_6 ?_
  refine J_istore (pc := 7) C dL_isNothing_7 (by decide) ?_
  refine J_iconst (pc := 9) C dL_isNothing_9 ?_
  refine J_istore (pc := 10) C dL_isNothing_10 (by decide) ?_
  refine J_widen (k1 := 0) (n1 := 6 * 0) (by decide) (by decide) ?_
  exact J_sub (L1 := [some (.ref (G.2.2 0)), some (.ref (G.2.2 70)), some (.ref (G.2.2 71)), some (iV a0), some (lV 0), none, some (lV 0), none, some (iV 0), some (iV 0), none, none, none]) ⟨rfl, ⟨rfl, ⟨rfl, ⟨rfl, ⟨rfl, ⟨rfl, ⟨rfl, ⟨rfl, trivial⟩⟩⟩⟩⟩⟩⟩⟩ (h (by decide) ra0 (by decide) (by decide) (by decide) (by decide) p l e s m args below meth c G A C hok)
set_option maxRecDepth 100000 in
set_option maxHeartbeats 4000000 in
theorem vc_L_isNothing_12 {kk : Nat} {x3 x4 x6 x8 x9 : Int} {S : St} {Qr : Int → St → Prop} {Qx : String → St → Prop} (h : kk ≤ 340 → r32 x3 → r64 x4 → r64 x6 → r32 x8 → r32 x9 → okL S → (((S 70 1) ≤ x9 → M_X6_pin x3 1 S (fun rv6 S4 => r32 rv6 → okC S4 → M_X6_pin x3 rv6 (pu S S4) (fun rv11 S9 => r32 rv11 → okC S9 → ((rv11 = 0 → Qr 0 (pu (pu S S4) S9)) ∧ (rv11 ≠ 0 → ((rv6 ≠ 0 → ((x8 ≤ 0 → Qr 0 (pu (pu S S4) S9)) ∧ (0 < x8 → Qr 1 (pu (pu S S4) S9)))) ∧ (rv6 = 0 → (r64 (Int.tmod x4 1000003) ∧ (((Int.tmod x4 1000003) ≠ 0 → Qr 0 (pu (pu S S4) S9)) ∧ ((Int.tmod x4 1000003) = 0 → (r64 (Int.tmod x6 1000003) ∧ (((Int.tmod x6 1000003) ≠ 0 → Qr 0 (pu (pu S S4) S9)) ∧ ((Int.tmod x6 1000003) = 0 → ((x8 ≤ 0 → Qr 0 (pu (pu S S4) S9)) ∧ (0 < x8 → Qr 1 (pu (pu S S4) S9)))))))))))))) (fun _ _ => False)) (fun _ _ => False)) ∧ (x9 < (S 70 1) → M_L_asks x9 0 2 S (fun rv32 S30 => r32 rv32 → okL S30 → ((rv32 < 0 → (kk + 2 ≤ 340 ∧ R_L_isNothing_62 (kk + 2) x3 x4 x6 x8 x9 rv32 0 S30 Qr Qx)) ∧ (0 ≤ rv32 → (ix (2 * x9) 64 ∧ (((S30 71 (2 * x9)) = x3 → (kk + 2 ≤ 340 ∧ R_L_isNothing_62 (kk + 2) x3 x4 x6 x8 x9 rv32 1 S30 Qr Qx)) ∧ ((S30 71 (2 * x9)) ≠ x3 → (ix ((2 * x9) + 1) 64 ∧ (((S30 71 ((2 * x9) + 1)) ≠ x3 → (kk + 2 ≤ 340 ∧ R_L_isNothing_62 (kk + 2) x3 x4 x6 x8 x9 rv32 0 S30 Qr Qx)) ∧ ((S30 71 ((2 * x9) + 1)) = x3 → (kk + 2 ≤ 340 ∧ R_L_isNothing_62 (kk + 2) x3 x4 x6 x8 x9 rv32 1 S30 Qr Qx)))))))))) (fun _ _ => False)))) : R_L_isNothing_12 kk x3 x4 x6 x8 x9 S Qr Qx := by
  intro hkk rx3 rx4 rx6 rx8 rx9
  intro p l e s m args below meth c G A C hok
  have h := h hkk rx3 rx4 rx6 rx8 rx9 hok
  replace C : Cx wL cL_isNothing 13 RL wsL_isNothing (some .boolean) [] p l s m args meth c G A := C
  show J wL 13 rmL_isNothing p l e s m args below meth c G A (QQ 1 wL okL G Qr Qx A below args s rmL_isNothing.cells rmL_isNothing.slots) kk (6 * kk) S [some (.ref (G.2.2 0)), some (.ref (G.2.2 70)), some (.ref (G.2.2 71)), some (iV x3), some (lV x4), none, some (lV x6), none, some (iV x8), some (iV x9), none, none, none] [] 12
  refine J_iload (pc := 12) C dL_isNothing_12 rfl ?_
  refine J_aload_n (pc := 14) C dL_isNothing_14 rfl ?_
  refine J_iconst (pc := 15) C dL_isNothing_15 ?_
  refine J_iald (pc := 16) C dL_isNothing_16 67 70 (wL_70 G S) (by decide) (by decide) ?_
  obtain ⟨h1, h2⟩ := h
  refine J_icmp_ge (pc := 17) (tgt := 181) C dL_isNothing_17 (by decide) rx9 (hok 70 1) (fun cb => ?_) (fun cb => ?_)
  · have h1 := h1 cb
    refine J_aload_n (pc := 181) C dL_isNothing_181 rfl ?_
    refine J_iload_n (pc := 182) C dL_isNothing_182 rfl ?_
    refine J_iconst (pc := 183) C dL_isNothing_183 ?_
    refine J_e1 (pc := 184) C (emb_LC G S) (J_eV (pc := 184) C (emb_LC G S) (h1 rx3 (by decide)) dL_isNothing_184 rfl rfl 0 rfl rfl (cwV 2 C.1.2.2.2.2 gL_isNothing_X6_pin rfl rfl rfl (by decide +kernel) ⟨Nat.le_of_ble_eq_true rfl, Nat.le_of_ble_eq_true rfl⟩) (okC_L hok) (Nat.le_of_ble_eq_true rfl) ⟨(by show kk + 0 + 1 ≤ 400; omega), (by show 6 * kk + 0 + 6 ≤ 2400; omega)⟩) (fun E9 S9 ok9 q9 => q9.elim) (fun rv6 S4 hr7 hok5 h3 => ?_)
    have h3 := h3 hr7 hok5
    refine J_istore (pc := 187) C dL_isNothing_187 (by decide) ?_
    refine J_aload_n (pc := 189) C dL_isNothing_189 rfl ?_
    refine J_iload_n (pc := 190) C dL_isNothing_190 rfl ?_
    refine J_iload (pc := 191) C dL_isNothing_191 rfl ?_
    refine J_e1 (pc := 193) C (emb_LC G (pu S S4)) (J_eV (pc := 193) C (emb_LC G (pu S S4)) (h3 rx3 hr7) dL_isNothing_193 rfl rfl 0 rfl rfl (cwV 2 C.1.2.2.2.2 gL_isNothing_X6_pin rfl rfl rfl (by decide +kernel) ⟨Nat.le_of_ble_eq_true rfl, Nat.le_of_ble_eq_true rfl⟩) (okC_L (okL_pu hok hok5)) (Nat.le_of_ble_eq_true rfl) ⟨(by show kk + 1 + 1 ≤ 400; omega), (by show 6 * kk + 6 + 6 ≤ 2400; omega)⟩) (fun E9 S9 ok9 q9 => q9.elim) (fun rv11 S9 hr12 hok10 h8 => ?_)
    have h8 := h8 hr12 hok10
    obtain ⟨h13, h14⟩ := h8
    refine J_if_eq (pc := 196) (tgt := 235) C dL_isNothing_196 (by decide) hr12 (fun cb => ?_) (fun cb => ?_)
    · have h13 := h13 cb
      refine J_iconst (pc := 235) C dL_isNothing_235 ?_
      exact J_zret (pc := 236) C dL_isNothing_236 (by decide) (okL_pu (okL_pu hok hok5) hok10) h13 (by show kk + 2 ≤ 400; omega) (by show 6 * kk + 12 ≤ 2400; omega)
    · have h14 := h14 cb
      refine J_iload (pc := 199) C dL_isNothing_199 rfl ?_
      obtain ⟨h15, h16⟩ := h14
      refine J_if_ne (pc := 201) (tgt := 226) C dL_isNothing_201 (by decide) hr7 (fun cb => ?_) (fun cb => ?_)
      · have h15 := h15 cb
        refine J_iload (pc := 226) C dL_isNothing_226 rfl ?_
        obtain ⟨h17, h18⟩ := h15
        refine J_if_le (pc := 228) (tgt := 235) C dL_isNothing_228 (by decide) rx8 (fun cb => ?_) (fun cb => ?_)
        · have h17 := h17 cb
          refine J_iconst (pc := 235) C dL_isNothing_235 ?_
          exact J_zret (pc := 236) C dL_isNothing_236 (by decide) (okL_pu (okL_pu hok hok5) hok10) h17 (by show kk + 2 ≤ 400; omega) (by show 6 * kk + 12 ≤ 2400; omega)
        · have h18 := h18 cb
          refine J_iconst (pc := 231) C dL_isNothing_231 ?_
          refine J_goto (pc := 232) (tgt := 236) C dL_isNothing_232 (by decide) ?_
          exact J_zret (pc := 236) C dL_isNothing_236 (by decide) (okL_pu (okL_pu hok hok5) hok10) h18 (by show kk + 2 ≤ 400; omega) (by show 6 * kk + 12 ≤ 2400; omega)
      · have h16 := h16 cb
        refine J_lload (pc := 204) C dL_isNothing_204 rfl ?_
        refine J_ldc2 (pc := 206) (z := 1000003) C mL_isNothing_c148 (by decide) dL_isNothing_206 ?_
        refine J_lrem (pc := 209) C dL_isNothing_209 rx4 (by decide) (by decide) ?_
        refine J_lconst (pc := 210) C dL_isNothing_210 ?_
        obtain ⟨o19, h20⟩ := h16
        obtain ⟨h21, h22⟩ := h20
        refine J_lcmp_ne (pc := 211) (tgt := 235) C dL_isNothing_211 dL_isNothing_212 (by decide) o19 (by decide) (fun cb => ?_) (fun cb => ?_)
        · have h21 := h21 cb
          refine J_iconst (pc := 235) C dL_isNothing_235 ?_
          exact J_zret (pc := 236) C dL_isNothing_236 (by decide) (okL_pu (okL_pu hok hok5) hok10) h21 (by show kk + 2 ≤ 400; omega) (by show 6 * kk + 12 ≤ 2400; omega)
        · have h22 := h22 cb
          refine J_lload (pc := 215) C dL_isNothing_215 rfl ?_
          refine J_ldc2 (pc := 217) (z := 1000003) C mL_isNothing_c148 (by decide) dL_isNothing_217 ?_
          refine J_lrem (pc := 220) C dL_isNothing_220 rx6 (by decide) (by decide) ?_
          refine J_lconst (pc := 221) C dL_isNothing_221 ?_
          obtain ⟨o23, h24⟩ := h22
          obtain ⟨h25, h26⟩ := h24
          refine J_lcmp_ne (pc := 222) (tgt := 235) C dL_isNothing_222 dL_isNothing_223 (by decide) o23 (by decide) (fun cb => ?_) (fun cb => ?_)
          · have h25 := h25 cb
            refine J_iconst (pc := 235) C dL_isNothing_235 ?_
            exact J_zret (pc := 236) C dL_isNothing_236 (by decide) (okL_pu (okL_pu hok hok5) hok10) h25 (by show kk + 2 ≤ 400; omega) (by show 6 * kk + 12 ≤ 2400; omega)
          · have h26 := h26 cb
            refine J_iload (pc := 226) C dL_isNothing_226 rfl ?_
            obtain ⟨h27, h28⟩ := h26
            refine J_if_le (pc := 228) (tgt := 235) C dL_isNothing_228 (by decide) rx8 (fun cb => ?_) (fun cb => ?_)
            · have h27 := h27 cb
              refine J_iconst (pc := 235) C dL_isNothing_235 ?_
              exact J_zret (pc := 236) C dL_isNothing_236 (by decide) (okL_pu (okL_pu hok hok5) hok10) h27 (by show kk + 2 ≤ 400; omega) (by show 6 * kk + 12 ≤ 2400; omega)
            · have h28 := h28 cb
              refine J_iconst (pc := 231) C dL_isNothing_231 ?_
              refine J_goto (pc := 232) (tgt := 236) C dL_isNothing_232 (by decide) ?_
              exact J_zret (pc := 236) C dL_isNothing_236 (by decide) (okL_pu (okL_pu hok hok5) hok10) h28 (by show kk + 2 ≤ 400; omega) (by show 6 * kk + 12 ≤ 2400; omega)
  · have h2 := h2 cb
    refine J_aload_n (pc := 20) C dL_isNothing_20 rfl ?_
    refine J_iload (pc := 21) C dL_isNothing_21 rfl ?_
    refine J_iconst (pc := 23) C dL_isNothing_23 ?_
    refine J_iconst (pc := 24) C dL_isNothing_24 ?_
    refine J_c1 (pc := 25) C (J_rSX (pc := 25) C (h2 rx9 (by decide) (by decide)) dL_isNothing_25 rfl rfl (vx_cwSW 4 C.1.2.2.2.2 gL_isNothing_L_asks rfl rfl rfl (by decide +kernel) ⟨Nat.le_of_ble_eq_true rfl, Nat.le_of_ble_eq_true rfl⟩) hok (Nat.le_of_ble_eq_true rfl) ⟨(by show kk + 0 + 2 ≤ 400; omega), (by show 6 * kk + 0 + 12 ≤ 2400; omega)⟩) (fun E9 S9 ok9 q9 => q9.elim) (fun rv32 S30 hr33 hok31 h29 => ?_)
    have h29 := h29 hr33 hok31
    refine J_istore (pc := 28) C dL_isNothing_28 (by decide) ?_
    refine J_iload (pc := 30) C dL_isNothing_30 rfl ?_
    obtain ⟨h34, h35⟩ := h29
    refine J_if_lt (pc := 32) (tgt := 61) C dL_isNothing_32 (by decide) hr33 (fun cb => ?_) (fun cb => ?_)
    · have h34 := h34 cb
      refine J_iconst (pc := 61) C dL_isNothing_61 ?_
      obtain ⟨o36, h37⟩ := h34
      refine J_widen (k1 := kk + 2) (n1 := 6 * (kk + 2)) (by show kk + 2 ≤ kk + 2; omega) (by show 6 * kk + 12 ≤ 6 * (kk + 2); omega) ?_
      exact J_sub (L1 := [some (.ref (G.2.2 0)), some (.ref (G.2.2 70)), some (.ref (G.2.2 71)), some (iV x3), some (lV x4), none, some (lV x6), none, some (iV x8), some (iV x9), some (iV rv32), none, none]) ⟨rfl, ⟨rfl, ⟨rfl, ⟨rfl, ⟨rfl, ⟨rfl, ⟨rfl, ⟨rfl, ⟨rfl, trivial⟩⟩⟩⟩⟩⟩⟩⟩⟩ (h37 o36 rx3 rx4 rx6 rx8 rx9 hr33 (by decide) p l e s m args below meth c G A C hok31)
    · have h35 := h35 cb
      refine J_aload_n (pc := 35) C dL_isNothing_35 rfl ?_
      refine J_iconst (pc := 36) C dL_isNothing_36 ?_
      refine J_iload (pc := 37) C dL_isNothing_37 rfl ?_
      refine J_imul (pc := 39) C dL_isNothing_39 ?_
      obtain ⟨o38, h39⟩ := h35
      refine J_iald (pc := 40) C dL_isNothing_40 68 71 (wL_71 G S30) (by decide) o38 ?_
      refine J_iload_n (pc := 41) C dL_isNothing_41 rfl ?_
      obtain ⟨h40, h41⟩ := h39
      refine J_icmp_eq (pc := 42) (tgt := 57) C dL_isNothing_42 (by decide) (hok31 71 (2 * x9)) rx3 (fun cb => ?_) (fun cb => ?_)
      · have h40 := h40 cb
        refine J_iconst (pc := 57) C dL_isNothing_57 ?_
        refine J_goto (pc := 58) (tgt := 62) C dL_isNothing_58 (by decide) ?_
        obtain ⟨o42, h43⟩ := h40
        refine J_widen (k1 := kk + 2) (n1 := 6 * (kk + 2)) (by show kk + 2 ≤ kk + 2; omega) (by show 6 * kk + 12 ≤ 6 * (kk + 2); omega) ?_
        exact J_sub (L1 := [some (.ref (G.2.2 0)), some (.ref (G.2.2 70)), some (.ref (G.2.2 71)), some (iV x3), some (lV x4), none, some (lV x6), none, some (iV x8), some (iV x9), some (iV rv32), none, none]) ⟨rfl, ⟨rfl, ⟨rfl, ⟨rfl, ⟨rfl, ⟨rfl, ⟨rfl, ⟨rfl, ⟨rfl, trivial⟩⟩⟩⟩⟩⟩⟩⟩⟩ (h43 o42 rx3 rx4 rx6 rx8 rx9 hr33 (by decide) p l e s m args below meth c G A C hok31)
      · have h41 := h41 cb
        refine J_aload_n (pc := 45) C dL_isNothing_45 rfl ?_
        refine J_iconst (pc := 46) C dL_isNothing_46 ?_
        refine J_iload (pc := 47) C dL_isNothing_47 rfl ?_
        refine J_imul (pc := 49) C dL_isNothing_49 ?_
        refine J_iconst (pc := 50) C dL_isNothing_50 ?_
        refine J_iadd (pc := 51) C dL_isNothing_51 ?_
        obtain ⟨o44, h45⟩ := h41
        refine J_iald (pc := 52) C dL_isNothing_52 68 71 (wL_71 G S30) (by decide) o44 ?_
        refine J_iload_n (pc := 53) C dL_isNothing_53 rfl ?_
        obtain ⟨h46, h47⟩ := h45
        refine J_icmp_ne (pc := 54) (tgt := 61) C dL_isNothing_54 (by decide) (hok31 71 ((2 * x9) + 1)) rx3 (fun cb => ?_) (fun cb => ?_)
        · have h46 := h46 cb
          refine J_iconst (pc := 61) C dL_isNothing_61 ?_
          obtain ⟨o48, h49⟩ := h46
          refine J_widen (k1 := kk + 2) (n1 := 6 * (kk + 2)) (by show kk + 2 ≤ kk + 2; omega) (by show 6 * kk + 12 ≤ 6 * (kk + 2); omega) ?_
          exact J_sub (L1 := [some (.ref (G.2.2 0)), some (.ref (G.2.2 70)), some (.ref (G.2.2 71)), some (iV x3), some (lV x4), none, some (lV x6), none, some (iV x8), some (iV x9), some (iV rv32), none, none]) ⟨rfl, ⟨rfl, ⟨rfl, ⟨rfl, ⟨rfl, ⟨rfl, ⟨rfl, ⟨rfl, ⟨rfl, trivial⟩⟩⟩⟩⟩⟩⟩⟩⟩ (h49 o48 rx3 rx4 rx6 rx8 rx9 hr33 (by decide) p l e s m args below meth c G A C hok31)
        · have h47 := h47 cb
          refine J_iconst (pc := 57) C dL_isNothing_57 ?_
          refine J_goto (pc := 58) (tgt := 62) C dL_isNothing_58 (by decide) ?_
          obtain ⟨o50, h51⟩ := h47
          refine J_widen (k1 := kk + 2) (n1 := 6 * (kk + 2)) (by show kk + 2 ≤ kk + 2; omega) (by show 6 * kk + 12 ≤ 6 * (kk + 2); omega) ?_
          exact J_sub (L1 := [some (.ref (G.2.2 0)), some (.ref (G.2.2 70)), some (.ref (G.2.2 71)), some (iV x3), some (lV x4), none, some (lV x6), none, some (iV x8), some (iV x9), some (iV rv32), none, none]) ⟨rfl, ⟨rfl, ⟨rfl, ⟨rfl, ⟨rfl, ⟨rfl, ⟨rfl, ⟨rfl, ⟨rfl, trivial⟩⟩⟩⟩⟩⟩⟩⟩⟩ (h51 o50 rx3 rx4 rx6 rx8 rx9 hr33 (by decide) p l e s m args below meth c G A C hok31)
set_option maxRecDepth 100000 in
set_option maxHeartbeats 4000000 in
theorem vc_L_isNothing_62 {kk : Nat} {x3 x4 x6 x8 x9 x10 s0 : Int} {S : St} {Qr : Int → St → Prop} {Qx : String → St → Prop} (h : kk ≤ 340 → r32 x3 → r64 x4 → r64 x6 → r32 x8 → r32 x9 → r32 x10 → r32 s0 → okL S → (ix (2 * x9) 64 ∧ (((S 71 (2 * x9)) ≠ x3 → (kk + 0 ≤ 340 ∧ R_L_isNothing_91 (kk + 0) x3 x4 x6 x8 x9 x10 s0 (S 71 (2 * x9)) S Qr Qx)) ∧ ((S 71 (2 * x9)) = x3 → (ix ((2 * x9) + 1) 64 ∧ (kk + 0 ≤ 340 ∧ R_L_isNothing_91 (kk + 0) x3 x4 x6 x8 x9 x10 s0 (S 71 ((2 * x9) + 1)) S Qr Qx)))))) : R_L_isNothing_62 kk x3 x4 x6 x8 x9 x10 s0 S Qr Qx := by
  intro hkk rx3 rx4 rx6 rx8 rx9 rx10 rs0
  intro p l e s m args below meth c G A C hok
  have h := h hkk rx3 rx4 rx6 rx8 rx9 rx10 rs0 hok
  replace C : Cx wL cL_isNothing 13 RL wsL_isNothing (some .boolean) [] p l s m args meth c G A := C
  show J wL 13 rmL_isNothing p l e s m args below meth c G A (QQ 1 wL okL G Qr Qx A below args s rmL_isNothing.cells rmL_isNothing.slots) kk (6 * kk) S [some (.ref (G.2.2 0)), some (.ref (G.2.2 70)), some (.ref (G.2.2 71)), some (iV x3), some (lV x4), none, some (lV x6), none, some (iV x8), some (iV x9), some (iV x10), none, none] [iV s0] 62
  refine J_istore (pc := 62) C dL_isNothing_62 (by decide) ?_
  refine J_aload_n (pc := 64) C dL_isNothing_64 rfl ?_
  refine J_iconst (pc := 65) C dL_isNothing_65 ?_
  refine J_iload (pc := 66) C dL_isNothing_66 rfl ?_
  refine J_imul (pc := 68) C dL_isNothing_68 ?_
  obtain ⟨o1, h2⟩ := h
  refine J_iald (pc := 69) C dL_isNothing_69 68 71 (wL_71 G S) (by decide) o1 ?_
  refine J_iload_n (pc := 70) C dL_isNothing_70 rfl ?_
  obtain ⟨h3, h4⟩ := h2
  refine J_icmp_ne (pc := 71) (tgt := 85) C dL_isNothing_71 (by decide) (hok 71 (2 * x9)) rx3 (fun cb => ?_) (fun cb => ?_)
  · have h3 := h3 cb
    refine J_aload_n (pc := 85) C dL_isNothing_85 rfl ?_
    refine J_iconst (pc := 86) C dL_isNothing_86 ?_
    refine J_iload (pc := 87) C dL_isNothing_87 rfl ?_
    refine J_imul (pc := 89) C dL_isNothing_89 ?_
    refine J_iald (pc := 90) C dL_isNothing_90 68 71 (wL_71 G S) (by decide) o1 ?_
    obtain ⟨o5, h6⟩ := h3
    refine J_widen (k1 := kk + 0) (n1 := 6 * (kk + 0)) (by show kk + 0 ≤ kk + 0; omega) (by show 6 * kk + 0 ≤ 6 * (kk + 0); omega) ?_
    exact J_sub (L1 := [some (.ref (G.2.2 0)), some (.ref (G.2.2 70)), some (.ref (G.2.2 71)), some (iV x3), some (lV x4), none, some (lV x6), none, some (iV x8), some (iV x9), some (iV x10), some (iV s0), none]) ⟨rfl, ⟨rfl, ⟨rfl, ⟨rfl, ⟨rfl, ⟨rfl, ⟨rfl, ⟨rfl, ⟨rfl, ⟨rfl, trivial⟩⟩⟩⟩⟩⟩⟩⟩⟩⟩ (h6 o5 rx3 rx4 rx6 rx8 rx9 rx10 rs0 (hok 71 (2 * x9)) p l e s m args below meth c G A C hok)
  · have h4 := h4 cb
    refine J_aload_n (pc := 74) C dL_isNothing_74 rfl ?_
    refine J_iconst (pc := 75) C dL_isNothing_75 ?_
    refine J_iload (pc := 76) C dL_isNothing_76 rfl ?_
    refine J_imul (pc := 78) C dL_isNothing_78 ?_
    refine J_iconst (pc := 79) C dL_isNothing_79 ?_
    refine J_iadd (pc := 80) C dL_isNothing_80 ?_
    obtain ⟨o7, h8⟩ := h4
    refine J_iald (pc := 81) C dL_isNothing_81 68 71 (wL_71 G S) (by decide) o7 ?_
    refine J_goto (pc := 82) (tgt := 91) C dL_isNothing_82 (by decide) ?_
    obtain ⟨o9, h10⟩ := h8
    refine J_widen (k1 := kk + 0) (n1 := 6 * (kk + 0)) (by show kk + 0 ≤ kk + 0; omega) (by show 6 * kk + 0 ≤ 6 * (kk + 0); omega) ?_
    exact J_sub (L1 := [some (.ref (G.2.2 0)), some (.ref (G.2.2 70)), some (.ref (G.2.2 71)), some (iV x3), some (lV x4), none, some (lV x6), none, some (iV x8), some (iV x9), some (iV x10), some (iV s0), none]) ⟨rfl, ⟨rfl, ⟨rfl, ⟨rfl, ⟨rfl, ⟨rfl, ⟨rfl, ⟨rfl, ⟨rfl, ⟨rfl, trivial⟩⟩⟩⟩⟩⟩⟩⟩⟩⟩ (h10 o9 rx3 rx4 rx6 rx8 rx9 rx10 rs0 (hok 71 ((2 * x9) + 1)) p l e s m args below meth c G A C hok)
set_option maxRecDepth 100000 in
set_option maxHeartbeats 4000000 in
theorem vc_L_isNothing_91 {kk : Nat} {x3 x4 x6 x8 x9 x10 x11 s0 : Int} {S : St} {Qr : Int → St → Prop} {Qx : String → St → Prop} (h : kk ≤ 340 → r32 x3 → r64 x4 → r64 x6 → r32 x8 → r32 x9 → r32 x10 → r32 x11 → r32 s0 → okL S → ((x11 = 0 → (r64 (x4 + 0) ∧ (kk + 0 ≤ 340 ∧ R_L_isNothing_126 (kk + 0) x3 (x4 + 0) x6 x8 x9 x10 x11 s0 S Qr Qx))) ∧ (x11 ≠ 0 → M_X6_ofJoint x3 0 S (fun rv10 S8 => r32 rv10 → okC S8 → M_X6_ofJoint s0 0 (pu S S8) (fun rv15 S13 => r32 rv15 → okC S13 → (r32 (rv10 - rv15) ∧ (r64 (x4 + (x10 * (rv10 - rv15))) ∧ (kk + 4 ≤ 340 ∧ R_L_isNothing_126 (kk + 4) x3 (x4 + (x10 * (rv10 - rv15))) x6 x8 x9 x10 x11 s0 (pu (pu S S8) S13) Qr Qx)))) (fun _ _ => False)) (fun _ _ => False)))) : R_L_isNothing_91 kk x3 x4 x6 x8 x9 x10 x11 s0 S Qr Qx := by
  intro hkk rx3 rx4 rx6 rx8 rx9 rx10 rx11 rs0
  intro p l e s m args below meth c G A C hok
  have h := h hkk rx3 rx4 rx6 rx8 rx9 rx10 rx11 rs0 hok
  replace C : Cx wL cL_isNothing 13 RL wsL_isNothing (some .boolean) [] p l s m args meth c G A := C
  show J wL 13 rmL_isNothing p l e s m args below meth c G A (QQ 1 wL okL G Qr Qx A below args s rmL_isNothing.cells rmL_isNothing.slots) kk (6 * kk) S [some (.ref (G.2.2 0)), some (.ref (G.2.2 70)), some (.ref (G.2.2 71)), some (iV x3), some (lV x4), none, some (lV x6), none, some (iV x8), some (iV x9), some (iV x10), some (iV x11), none] [iV s0] 91
  refine J_istore (pc := 91) C dL_isNothing_91 (by decide) ?_
  refine J_lload (pc := 93) C dL_isNothing_93 rfl ?_
  refine J_iload (pc := 95) C dL_isNothing_95 rfl ?_
  obtain ⟨h1, h2⟩ := h
  refine J_if_eq (pc := 97) (tgt := 122) C dL_isNothing_97 (by decide) rx11 (fun cb => ?_) (fun cb => ?_)
  · have h1 := h1 cb
    refine J_lconst (pc := 122) C dL_isNothing_122 ?_
    refine J_ladd (pc := 123) C dL_isNothing_123 ?_
    refine J_lstore (pc := 124) C dL_isNothing_124 (by decide) ?_
    obtain ⟨o3, h4⟩ := h1
    obtain ⟨o5, h6⟩ := h4
    refine J_widen (k1 := kk + 0) (n1 := 6 * (kk + 0)) (by show kk + 0 ≤ kk + 0; omega) (by show 6 * kk + 0 ≤ 6 * (kk + 0); omega) ?_
    exact J_sub (L1 := [some (.ref (G.2.2 0)), some (.ref (G.2.2 70)), some (.ref (G.2.2 71)), some (iV x3), some (lV (x4 + 0)), none, some (lV x6), none, some (iV x8), some (iV x9), some (iV x10), some (iV x11), some (iV s0)]) ⟨rfl, ⟨rfl, ⟨rfl, ⟨rfl, ⟨rfl, ⟨rfl, ⟨rfl, ⟨rfl, ⟨rfl, ⟨rfl, ⟨rfl, trivial⟩⟩⟩⟩⟩⟩⟩⟩⟩⟩⟩ (h6 o5 rx3 o3 rx6 rx8 rx9 rx10 rx11 rs0 p l e s m args below meth c G A C hok)
  · have h2 := h2 cb
    refine J_iload (pc := 100) C dL_isNothing_100 rfl ?_
    refine J_i2l (pc := 102) C dL_isNothing_102 rx10 ?_
    refine J_aload_n (pc := 103) C dL_isNothing_103 rfl ?_
    refine J_iload_n (pc := 104) C dL_isNothing_104 rfl ?_
    refine J_iconst (pc := 105) C dL_isNothing_105 ?_
    refine J_e1 (pc := 106) C (emb_LC G S) (J_eV (pc := 106) C (emb_LC G S) (h2 rx3 (by decide)) dL_isNothing_106 rfl rfl 0 rfl rfl (cwV 2 C.1.2.2.2.2 gL_isNothing_X6_ofJoint rfl rfl rfl (by decide +kernel) ⟨Nat.le_of_ble_eq_true rfl, Nat.le_of_ble_eq_true rfl⟩) (okC_L hok) (Nat.le_of_ble_eq_true rfl) ⟨(by show kk + 0 + 2 ≤ 400; omega), (by show 6 * kk + 0 + 12 ≤ 2400; omega)⟩) (fun E9 S9 ok9 q9 => q9.elim) (fun rv10 S8 hr11 hok9 h7 => ?_)
    have h7 := h7 hr11 hok9
    refine J_aload_n (pc := 109) C dL_isNothing_109 rfl ?_
    refine J_iload (pc := 110) C dL_isNothing_110 rfl ?_
    refine J_iconst (pc := 112) C dL_isNothing_112 ?_
    refine J_e1 (pc := 113) C (emb_LC G (pu S S8)) (J_eV (pc := 113) C (emb_LC G (pu S S8)) (h7 rs0 (by decide)) dL_isNothing_113 rfl rfl 0 rfl rfl (cwV 2 C.1.2.2.2.2 gL_isNothing_X6_ofJoint rfl rfl rfl (by decide +kernel) ⟨Nat.le_of_ble_eq_true rfl, Nat.le_of_ble_eq_true rfl⟩) (okC_L (okL_pu hok hok9)) (Nat.le_of_ble_eq_true rfl) ⟨(by show kk + 2 + 2 ≤ 400; omega), (by show 6 * kk + 12 + 12 ≤ 2400; omega)⟩) (fun E9 S9 ok9 q9 => q9.elim) (fun rv15 S13 hr16 hok14 h12 => ?_)
    have h12 := h12 hr16 hok14
    refine J_isub (pc := 116) C dL_isNothing_116 ?_
    obtain ⟨o17, h18⟩ := h12
    refine J_i2l (pc := 117) C dL_isNothing_117 o17 ?_
    refine J_lmul (pc := 118) C dL_isNothing_118 ?_
    refine J_goto (pc := 119) (tgt := 123) C dL_isNothing_119 (by decide) ?_
    refine J_ladd (pc := 123) C dL_isNothing_123 ?_
    refine J_lstore (pc := 124) C dL_isNothing_124 (by decide) ?_
    obtain ⟨o19, h20⟩ := h18
    obtain ⟨o21, h22⟩ := h20
    refine J_widen (k1 := kk + 4) (n1 := 6 * (kk + 4)) (by show kk + 4 ≤ kk + 4; omega) (by show 6 * kk + 24 ≤ 6 * (kk + 4); omega) ?_
    exact J_sub (L1 := [some (.ref (G.2.2 0)), some (.ref (G.2.2 70)), some (.ref (G.2.2 71)), some (iV x3), some (lV (x4 + (x10 * (rv10 - rv15)))), none, some (lV x6), none, some (iV x8), some (iV x9), some (iV x10), some (iV x11), some (iV s0)]) ⟨rfl, ⟨rfl, ⟨rfl, ⟨rfl, ⟨rfl, ⟨rfl, ⟨rfl, ⟨rfl, ⟨rfl, ⟨rfl, ⟨rfl, trivial⟩⟩⟩⟩⟩⟩⟩⟩⟩⟩⟩ (h22 o21 rx3 o19 rx6 rx8 rx9 rx10 rx11 rs0 p l e s m args below meth c G A C (okL_pu (okL_pu hok hok9) hok14))
set_option maxRecDepth 100000 in
set_option maxHeartbeats 4000000 in
theorem vc_L_isNothing_126 {kk : Nat} {x3 x4 x6 x8 x9 x10 x11 x12 : Int} {S : St} {Qr : Int → St → Prop} {Qx : String → St → Prop} (h : kk ≤ 340 → r32 x3 → r64 x4 → r64 x6 → r32 x8 → r32 x9 → r32 x10 → r32 x11 → r32 x12 → okL S → ((x11 = 0 → (r64 (x6 + 0) ∧ (kk + 0 ≤ 340 ∧ R_L_isNothing_159 (kk + 0) x3 x4 (x6 + 0) x8 x9 x10 S Qr Qx))) ∧ (x11 ≠ 0 → M_X6_ofJoint x3 1 S (fun rv10 S8 => r32 rv10 → okC S8 → M_X6_ofJoint x12 1 (pu S S8) (fun rv15 S13 => r32 rv15 → okC S13 → (r32 (rv10 - rv15) ∧ (r64 (x6 + (x10 * (rv10 - rv15))) ∧ (kk + 4 ≤ 340 ∧ R_L_isNothing_159 (kk + 4) x3 x4 (x6 + (x10 * (rv10 - rv15))) x8 x9 x10 (pu (pu S S8) S13) Qr Qx)))) (fun _ _ => False)) (fun _ _ => False)))) : R_L_isNothing_126 kk x3 x4 x6 x8 x9 x10 x11 x12 S Qr Qx := by
  intro hkk rx3 rx4 rx6 rx8 rx9 rx10 rx11 rx12
  intro p l e s m args below meth c G A C hok
  have h := h hkk rx3 rx4 rx6 rx8 rx9 rx10 rx11 rx12 hok
  replace C : Cx wL cL_isNothing 13 RL wsL_isNothing (some .boolean) [] p l s m args meth c G A := C
  show J wL 13 rmL_isNothing p l e s m args below meth c G A (QQ 1 wL okL G Qr Qx A below args s rmL_isNothing.cells rmL_isNothing.slots) kk (6 * kk) S [some (.ref (G.2.2 0)), some (.ref (G.2.2 70)), some (.ref (G.2.2 71)), some (iV x3), some (lV x4), none, some (lV x6), none, some (iV x8), some (iV x9), some (iV x10), some (iV x11), some (iV x12)] [] 126
  refine J_lload (pc := 126) C dL_isNothing_126 rfl ?_
  refine J_iload (pc := 128) C dL_isNothing_128 rfl ?_
  obtain ⟨h1, h2⟩ := h
  refine J_if_eq (pc := 130) (tgt := 155) C dL_isNothing_130 (by decide) rx11 (fun cb => ?_) (fun cb => ?_)
  · have h1 := h1 cb
    refine J_lconst (pc := 155) C dL_isNothing_155 ?_
    refine J_ladd (pc := 156) C dL_isNothing_156 ?_
    refine J_lstore (pc := 157) C dL_isNothing_157 (by decide) ?_
    obtain ⟨o3, h4⟩ := h1
    obtain ⟨o5, h6⟩ := h4
    refine J_widen (k1 := kk + 0) (n1 := 6 * (kk + 0)) (by show kk + 0 ≤ kk + 0; omega) (by show 6 * kk + 0 ≤ 6 * (kk + 0); omega) ?_
    exact J_sub (L1 := [some (.ref (G.2.2 0)), some (.ref (G.2.2 70)), some (.ref (G.2.2 71)), some (iV x3), some (lV x4), none, some (lV (x6 + 0)), none, some (iV x8), some (iV x9), some (iV x10), none, none]) ⟨rfl, ⟨rfl, ⟨rfl, ⟨rfl, ⟨rfl, ⟨rfl, ⟨rfl, ⟨rfl, ⟨rfl, trivial⟩⟩⟩⟩⟩⟩⟩⟩⟩ (h6 o5 rx3 rx4 o3 rx8 rx9 rx10 p l e s m args below meth c G A C hok)
  · have h2 := h2 cb
    refine J_iload (pc := 133) C dL_isNothing_133 rfl ?_
    refine J_i2l (pc := 135) C dL_isNothing_135 rx10 ?_
    refine J_aload_n (pc := 136) C dL_isNothing_136 rfl ?_
    refine J_iload_n (pc := 137) C dL_isNothing_137 rfl ?_
    refine J_iconst (pc := 138) C dL_isNothing_138 ?_
    refine J_e1 (pc := 139) C (emb_LC G S) (J_eV (pc := 139) C (emb_LC G S) (h2 rx3 (by decide)) dL_isNothing_139 rfl rfl 0 rfl rfl (cwV 2 C.1.2.2.2.2 gL_isNothing_X6_ofJoint rfl rfl rfl (by decide +kernel) ⟨Nat.le_of_ble_eq_true rfl, Nat.le_of_ble_eq_true rfl⟩) (okC_L hok) (Nat.le_of_ble_eq_true rfl) ⟨(by show kk + 0 + 2 ≤ 400; omega), (by show 6 * kk + 0 + 12 ≤ 2400; omega)⟩) (fun E9 S9 ok9 q9 => q9.elim) (fun rv10 S8 hr11 hok9 h7 => ?_)
    have h7 := h7 hr11 hok9
    refine J_aload_n (pc := 142) C dL_isNothing_142 rfl ?_
    refine J_iload (pc := 143) C dL_isNothing_143 rfl ?_
    refine J_iconst (pc := 145) C dL_isNothing_145 ?_
    refine J_e1 (pc := 146) C (emb_LC G (pu S S8)) (J_eV (pc := 146) C (emb_LC G (pu S S8)) (h7 rx12 (by decide)) dL_isNothing_146 rfl rfl 0 rfl rfl (cwV 2 C.1.2.2.2.2 gL_isNothing_X6_ofJoint rfl rfl rfl (by decide +kernel) ⟨Nat.le_of_ble_eq_true rfl, Nat.le_of_ble_eq_true rfl⟩) (okC_L (okL_pu hok hok9)) (Nat.le_of_ble_eq_true rfl) ⟨(by show kk + 2 + 2 ≤ 400; omega), (by show 6 * kk + 12 + 12 ≤ 2400; omega)⟩) (fun E9 S9 ok9 q9 => q9.elim) (fun rv15 S13 hr16 hok14 h12 => ?_)
    have h12 := h12 hr16 hok14
    refine J_isub (pc := 149) C dL_isNothing_149 ?_
    obtain ⟨o17, h18⟩ := h12
    refine J_i2l (pc := 150) C dL_isNothing_150 o17 ?_
    refine J_lmul (pc := 151) C dL_isNothing_151 ?_
    refine J_goto (pc := 152) (tgt := 156) C dL_isNothing_152 (by decide) ?_
    refine J_ladd (pc := 156) C dL_isNothing_156 ?_
    refine J_lstore (pc := 157) C dL_isNothing_157 (by decide) ?_
    obtain ⟨o19, h20⟩ := h18
    obtain ⟨o21, h22⟩ := h20
    refine J_widen (k1 := kk + 4) (n1 := 6 * (kk + 4)) (by show kk + 4 ≤ kk + 4; omega) (by show 6 * kk + 24 ≤ 6 * (kk + 4); omega) ?_
    exact J_sub (L1 := [some (.ref (G.2.2 0)), some (.ref (G.2.2 70)), some (.ref (G.2.2 71)), some (iV x3), some (lV x4), none, some (lV (x6 + (x10 * (rv10 - rv15)))), none, some (iV x8), some (iV x9), some (iV x10), none, none]) ⟨rfl, ⟨rfl, ⟨rfl, ⟨rfl, ⟨rfl, ⟨rfl, ⟨rfl, ⟨rfl, ⟨rfl, trivial⟩⟩⟩⟩⟩⟩⟩⟩⟩ (h22 o21 rx3 rx4 o19 rx8 rx9 rx10 p l e s m args below meth c G A C (okL_pu (okL_pu hok hok9) hok14))
set_option maxRecDepth 100000 in
set_option maxHeartbeats 4000000 in
theorem vc_L_isNothing_159 {kk : Nat} {x3 x4 x6 x8 x9 x10 : Int} {S : St} {Qr : Int → St → Prop} {Qx : String → St → Prop} (h : kk ≤ 340 → r32 x3 → r64 x4 → r64 x6 → r32 x8 → r32 x9 → r32 x10 → okL S → ((x10 ≠ 1 → (r32 (x8 + 0) ∧ (r32 (x9 + 1) ∧ (kk + 0 ≤ 340 ∧ R_L_isNothing_12 (kk + 0) x3 x4 x6 (x8 + 0) (x9 + 1) S Qr Qx)))) ∧ (x10 = 1 → (r32 (x8 + 1) ∧ (r32 (x9 + 1) ∧ (kk + 0 ≤ 340 ∧ R_L_isNothing_12 (kk + 0) x3 x4 x6 (x8 + 1) (x9 + 1) S Qr Qx)))))) : R_L_isNothing_159 kk x3 x4 x6 x8 x9 x10 S Qr Qx := by
  intro hkk rx3 rx4 rx6 rx8 rx9 rx10
  intro p l e s m args below meth c G A C hok
  have h := h hkk rx3 rx4 rx6 rx8 rx9 rx10 hok
  replace C : Cx wL cL_isNothing 13 RL wsL_isNothing (some .boolean) [] p l s m args meth c G A := C
  show J wL 13 rmL_isNothing p l e s m args below meth c G A (QQ 1 wL okL G Qr Qx A below args s rmL_isNothing.cells rmL_isNothing.slots) kk (6 * kk) S [some (.ref (G.2.2 0)), some (.ref (G.2.2 70)), some (.ref (G.2.2 71)), some (iV x3), some (lV x4), none, some (lV x6), none, some (iV x8), some (iV x9), some (iV x10), none, none] [] 159
  refine J_iload (pc := 159) C dL_isNothing_159 rfl ?_
  refine J_iload (pc := 161) C dL_isNothing_161 rfl ?_
  refine J_iconst (pc := 163) C dL_isNothing_163 ?_
  obtain ⟨h1, h2⟩ := h
  refine J_icmp_ne (pc := 164) (tgt := 171) C dL_isNothing_164 (by decide) rx10 (by decide) (fun cb => ?_) (fun cb => ?_)
  · have h1 := h1 cb
    refine J_iconst (pc := 171) C dL_isNothing_171 ?_
    refine J_iadd (pc := 172) C dL_isNothing_172 ?_
    refine J_istore (pc := 173) C dL_isNothing_173 (by decide) ?_
    refine J_iinc (pc := 175) C dL_isNothing_175 rfl (by decide) ?_
    refine J_goto (pc := 178) (tgt := 12) C dL_isNothing_178 (by decide) ?_
    obtain ⟨o3, h4⟩ := h1
    obtain ⟨o5, h6⟩ := h4
    obtain ⟨o7, h8⟩ := h6
    refine J_widen (k1 := kk + 0) (n1 := 6 * (kk + 0)) (by show kk + 0 ≤ kk + 0; omega) (by show 6 * kk + 0 ≤ 6 * (kk + 0); omega) ?_
    exact J_sub (L1 := [some (.ref (G.2.2 0)), some (.ref (G.2.2 70)), some (.ref (G.2.2 71)), some (iV x3), some (lV x4), none, some (lV x6), none, some (iV (x8 + 0)), some (iV (x9 + 1)), none, none, none]) ⟨rfl, ⟨rfl, ⟨rfl, ⟨rfl, ⟨rfl, ⟨rfl, ⟨rfl, ⟨rfl, trivial⟩⟩⟩⟩⟩⟩⟩⟩ (h8 o7 rx3 rx4 rx6 o3 o5 p l e s m args below meth c G A C hok)
  · have h2 := h2 cb
    refine J_iconst (pc := 167) C dL_isNothing_167 ?_
    refine J_goto (pc := 168) (tgt := 172) C dL_isNothing_168 (by decide) ?_
    refine J_iadd (pc := 172) C dL_isNothing_172 ?_
    refine J_istore (pc := 173) C dL_isNothing_173 (by decide) ?_
    refine J_iinc (pc := 175) C dL_isNothing_175 rfl (by decide) ?_
    refine J_goto (pc := 178) (tgt := 12) C dL_isNothing_178 (by decide) ?_
    obtain ⟨o9, h10⟩ := h2
    obtain ⟨o11, h12⟩ := h10
    obtain ⟨o13, h14⟩ := h12
    refine J_widen (k1 := kk + 0) (n1 := 6 * (kk + 0)) (by show kk + 0 ≤ kk + 0; omega) (by show 6 * kk + 0 ≤ 6 * (kk + 0); omega) ?_
    exact J_sub (L1 := [some (.ref (G.2.2 0)), some (.ref (G.2.2 70)), some (.ref (G.2.2 71)), some (iV x3), some (lV x4), none, some (lV x6), none, some (iV (x8 + 1)), some (iV (x9 + 1)), none, none, none]) ⟨rfl, ⟨rfl, ⟨rfl, ⟨rfl, ⟨rfl, ⟨rfl, ⟨rfl, ⟨rfl, trivial⟩⟩⟩⟩⟩⟩⟩⟩ (h14 o13 rx3 rx4 rx6 o9 o11 p l e s m args below meth c G A C hok)
