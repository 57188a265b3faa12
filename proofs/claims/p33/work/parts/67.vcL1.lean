def rmL_arePlaces : Room := { frames := 8, cells := 10, slots := 60, locals := 127 }
def M_L_arePlaces (a0 : Int) (S : St) (Qr : Int → St → Prop) (Qx : String → St → Prop) : Prop := r32 a0 → MM 1 wL okL yL_arePlaces wsL_arePlaces rmL_arePlaces (fun G => [.ref (G.2.2 0), iV a0]) S Qr Qx
def R_L_arePlaces_29 (x1 x2 x3 s0 : Int) (S : St) (Qr : Int → St → Prop) (Qx : String → St → Prop) : Prop := r32 x1 → r32 x2 → r32 x3 → r32 s0 → RR 1 wL okL wsL_arePlaces rmL_arePlaces cL_arePlaces 5 RL (some .boolean) [] 5 30 (fun G => [some (.ref (G.2.2 0)), some (iV x1), some (iV x2), some (iV x3), none]) (fun G => [iV s0]) 29 S Qr Qx
set_option maxRecDepth 100000 in
set_option maxHeartbeats 4000000 in
theorem vc_L_arePlaces {a0 : Int} {S : St} {Qr : Int → St → Prop} {Qx : String → St → Prop} (h : r32 a0 → okL S → M_X6_places a0 S (fun rv4 S2 => r32 rv4 → okC S2 → M_X6_place a0 0 (pu S S2) (fun rv9 S7 => r32 rv9 → okC S7 → ((rv4 ≠ 0 → (r32 (rv4 - 1) ∧ M_X6_place a0 (rv4 - 1) (pu (pu S S2) S7) (fun rv18 S16 => r32 rv18 → okC S16 → R_L_arePlaces_29 a0 rv4 rv9 rv18 (pu (pu (pu S S2) S7) S16) Qr Qx) (fun _ _ => False))) ∧ (rv4 = 0 → R_L_arePlaces_29 a0 rv4 rv9 (-1) (pu (pu S S2) S7) Qr Qx))) (fun _ _ => False)) (fun _ _ => False)) : M_L_arePlaces a0 S Qr Qx := by
  intro ra0
  refine MM_of adL (by decide +kernel) rfl (Lf := fun G => [some (.ref (G.2.2 0)), some (iV a0), none, none, none]) (fun G => by show _ ≤ _; exact Nat.le_of_ble_eq_true rfl) (fun G => rfl) ?_
  intro p l e s m args below meth c G A C hok
  have h := h ra0 hok
  replace C : Cx wL cL_arePlaces 5 RL wsL_arePlaces (some .boolean) [] p l s m args meth c G A := C
  show J wL 5 rmL_arePlaces p l e s m args below meth c G A (QQ 1 wL okL G Qr Qx A below args s rmL_arePlaces.cells rmL_arePlaces.slots) 0 0 S [some (.ref (G.2.2 0)), some (iV a0), none, none, none] [] 0
  refine J_aload_n (pc := 0) C dL_arePlaces_0 rfl ?_
  refine J_iload_n (pc := 1) C dL_arePlaces_1 rfl ?_
  refine J_e1 (pc := 2) C (emb_LC G S) (J_eV (pc := 2) C (emb_LC G S) (h ra0) dL_arePlaces_2 rfl rfl 0 rfl rfl (cwV 1 C.1.2.2.2.2 gL_arePlaces_X6_places rfl rfl rfl (by decide +kernel) ⟨Nat.le_of_ble_eq_true rfl, Nat.le_of_ble_eq_true rfl⟩) (okC_L hok) (Nat.le_of_ble_eq_true rfl) ⟨Nat.le_of_ble_eq_true rfl, Nat.le_of_ble_eq_true rfl⟩) (fun E9 S9 ok9 q9 => q9.elim) (fun rv4 S2 hr5 hok3 h1 => ?_)
  have h1 := h1 hr5 hok3
  refine J_istore_n (pc := 5) C dL_arePlaces_5 (by decide) ?_
  refine J_aload_n (pc := 6) C dL_arePlaces_6 rfl ?_
  refine J_iload_n (pc := 7) C dL_arePlaces_7 rfl ?_
  refine J_iconst (pc := 8) C dL_arePlaces_8 ?_
  refine J_e1 (pc := 9) C (emb_LC G (pu S S2)) (J_eV (pc := 9) C (emb_LC G (pu S S2)) (h1 ra0 (by decide)) dL_arePlaces_9 rfl rfl 0 rfl rfl (cwV 2 C.1.2.2.2.2 gL_arePlaces_X6_place rfl rfl rfl (by decide +kernel) ⟨Nat.le_of_ble_eq_true rfl, Nat.le_of_ble_eq_true rfl⟩) (okC_L (okL_pu hok hok3)) (Nat.le_of_ble_eq_true rfl) ⟨Nat.le_of_ble_eq_true rfl, Nat.le_of_ble_eq_true rfl⟩) (fun E9 S9 ok9 q9 => q9.elim) (fun rv9 S7 hr10 hok8 h6 => ?_)
  have h6 := h6 hr10 hok8
  refine J_istore_n (pc := 12) C dL_arePlaces_12 (by decide) ?_
  refine J_iload_n (pc := 13) C dL_arePlaces_13 rfl ?_
  obtain ⟨h11, h12⟩ := h6
  refine J_if_ne (pc := 14) (tgt := 21) C dL_arePlaces_14 (by decide) hr5 (fun cb => ?_) (fun cb => ?_)
  · have h11 := h11 cb
    refine J_aload_n (pc := 21) C dL_arePlaces_21 rfl ?_
    refine J_iload_n (pc := 22) C dL_arePlaces_22 rfl ?_
    refine J_iload_n (pc := 23) C dL_arePlaces_23 rfl ?_
    refine J_iconst (pc := 24) C dL_arePlaces_24 ?_
    refine J_isub (pc := 25) C dL_arePlaces_25 ?_
    obtain ⟨o13, h14⟩ := h11
    refine J_e1 (pc := 26) C (emb_LC G (pu (pu S S2) S7)) (J_eV (pc := 26) C (emb_LC G (pu (pu S S2) S7)) (h14 ra0 o13) dL_arePlaces_26 rfl rfl 0 rfl rfl (cwV 2 C.1.2.2.2.2 gL_arePlaces_X6_place rfl rfl rfl (by decide +kernel) ⟨Nat.le_of_ble_eq_true rfl, Nat.le_of_ble_eq_true rfl⟩) (okC_L (okL_pu (okL_pu hok hok3) hok8)) (Nat.le_of_ble_eq_true rfl) ⟨Nat.le_of_ble_eq_true rfl, Nat.le_of_ble_eq_true rfl⟩) (fun E9 S9 ok9 q9 => q9.elim) (fun rv18 S16 hr19 hok17 h15 => ?_)
    have h15 := h15 hr19 hok17
    exact J_sub (L1 := [some (.ref (G.2.2 0)), some (iV a0), some (iV rv4), some (iV rv9), none]) ⟨rfl, ⟨rfl, ⟨rfl, ⟨rfl, trivial⟩⟩⟩⟩ (h15 ra0 hr5 hr10 hr19 p l e s m args below meth c G A C (okL_pu (okL_pu (okL_pu hok hok3) hok8) hok17))
  · have h12 := h12 cb
    refine J_iconst (pc := 17) C dL_arePlaces_17 ?_
    refine J_goto (pc := 18) (tgt := 29) C dL_arePlaces_18 (by decide) ?_
    refine J_widen (k1 := 5) (n1 := 30) (by decide) (by decide) ?_
    exact J_sub (L1 := [some (.ref (G.2.2 0)), some (iV a0), some (iV rv4), some (iV rv9), none]) ⟨rfl, ⟨rfl, ⟨rfl, ⟨rfl, trivial⟩⟩⟩⟩ (h12 ra0 hr5 hr10 (by decide) p l e s m args below meth c G A C (okL_pu (okL_pu hok hok3) hok8))
set_option maxRecDepth 100000 in
set_option maxHeartbeats 4000000 in
theorem vc_L_arePlaces_29 {x1 x2 x3 s0 : Int} {S : St} {Qr : Int → St → Prop} {Qx : String → St → Prop} (h : r32 x1 → r32 x2 → r32 x3 → r32 s0 → okL S → ((x2 < 0 → Qr 0 S) ∧ (0 ≤ x2 → ((14641 < x2 → Qr 0 S) ∧ (x2 ≤ 14641 → M_X6_place x1 x2 S (fun rv8 S6 => r32 rv8 → okC S6 → ((rv8 ≠ (-1) → Qr 0 (pu S S6)) ∧ (rv8 = (-1) → ((x2 ≠ 0 → ((x3 ≠ (-1) → ((s0 < x3 → Qr 0 (pu S S6)) ∧ (x3 ≤ s0 → ((x2 < 2 → (r32 (x1 + 1) ∧ M_X6_places (x1 + 1) (pu S S6) (fun rv25 S23 => r32 rv25 → okC S23 → ((rv25 < x2 → Qr 0 (pu (pu S S6) S23)) ∧ (x2 ≤ rv25 → Qr 1 (pu (pu S S6) S23)))) (fun _ _ => False))) ∧ (2 ≤ x2 → M_X6_place x1 1 (pu S S6) (fun rv32 S30 => r32 rv32 → okC S30 → ((rv32 ≤ x3 → Qr 0 (pu (pu S S6) S30)) ∧ (x3 < rv32 → (r32 (x1 + 1) ∧ M_X6_places (x1 + 1) (pu (pu S S6) S30) (fun rv41 S39 => r32 rv41 → okC S39 → ((rv41 < x2 → Qr 0 (pu (pu (pu S S6) S30) S39)) ∧ (x2 ≤ rv41 → Qr 1 (pu (pu (pu S S6) S30) S39)))) (fun _ _ => False))))) (fun _ _ => False)))))) ∧ (x3 = (-1) → Qr 0 (pu S S6)))) ∧ (x2 = 0 → ((x3 ≠ (-1) → Qr 0 (pu S S6)) ∧ (x3 = (-1) → ((s0 < x3 → Qr 0 (pu S S6)) ∧ (x3 ≤ s0 → ((x2 < 2 → (r32 (x1 + 1) ∧ M_X6_places (x1 + 1) (pu S S6) (fun rv56 S54 => r32 rv56 → okC S54 → ((rv56 < x2 → Qr 0 (pu (pu S S6) S54)) ∧ (x2 ≤ rv56 → Qr 1 (pu (pu S S6) S54)))) (fun _ _ => False))) ∧ (2 ≤ x2 → M_X6_place x1 1 (pu S S6) (fun rv63 S61 => r32 rv63 → okC S61 → ((rv63 ≤ x3 → Qr 0 (pu (pu S S6) S61)) ∧ (x3 < rv63 → (r32 (x1 + 1) ∧ M_X6_places (x1 + 1) (pu (pu S S6) S61) (fun rv72 S70 => r32 rv72 → okC S70 → ((rv72 < x2 → Qr 0 (pu (pu (pu S S6) S61) S70)) ∧ (x2 ≤ rv72 → Qr 1 (pu (pu (pu S S6) S61) S70)))) (fun _ _ => False))))) (fun _ _ => False)))))))))))) (fun _ _ => False)))))) : R_L_arePlaces_29 x1 x2 x3 s0 S Qr Qx := by
  intro rx1 rx2 rx3 rs0
  intro p l e s m args below meth c G A C hok
  have h := h rx1 rx2 rx3 rs0 hok
  replace C : Cx wL cL_arePlaces 5 RL wsL_arePlaces (some .boolean) [] p l s m args meth c G A := C
  show J wL 5 rmL_arePlaces p l e s m args below meth c G A (QQ 1 wL okL G Qr Qx A below args s rmL_arePlaces.cells rmL_arePlaces.slots) 5 30 S [some (.ref (G.2.2 0)), some (iV x1), some (iV x2), some (iV x3), none] [iV s0] 29
  refine J_istore (pc := 29) C dL_arePlaces_29 (by decide) ?_
  refine J_iload_n (pc := 31) C dL_arePlaces_31 rfl ?_
  obtain ⟨h1, h2⟩ := h
  refine J_if_lt (pc := 32) (tgt := 110) C dL_arePlaces_32 (by decide) rx2 (fun cb => ?_) (fun cb => ?_)
  · have h1 := h1 cb
    refine J_iconst (pc := 110) C dL_arePlaces_110 ?_
    exact J_zret (pc := 111) C dL_arePlaces_111 (by decide) hok h1 (by decide) (by decide)
  · have h2 := h2 cb
    refine J_iload_n (pc := 35) C dL_arePlaces_35 rfl ?_
    refine J_sipush (pc := 36) C dL_arePlaces_36 (by decide) ?_
    obtain ⟨h3, h4⟩ := h2
    refine J_icmp_gt (pc := 39) (tgt := 110) C dL_arePlaces_39 (by decide) rx2 (by decide) (fun cb => ?_) (fun cb => ?_)
    · have h3 := h3 cb
      refine J_iconst (pc := 110) C dL_arePlaces_110 ?_
      exact J_zret (pc := 111) C dL_arePlaces_111 (by decide) hok h3 (by decide) (by decide)
    · have h4 := h4 cb
      refine J_aload_n (pc := 42) C dL_arePlaces_42 rfl ?_
      refine J_iload_n (pc := 43) C dL_arePlaces_43 rfl ?_
      refine J_iload_n (pc := 44) C dL_arePlaces_44 rfl ?_
      refine J_e1 (pc := 45) C (emb_LC G S) (J_eV (pc := 45) C (emb_LC G S) (h4 rx1 rx2) dL_arePlaces_45 rfl rfl 0 rfl rfl (cwV 2 C.1.2.2.2.2 gL_arePlaces_X6_place rfl rfl rfl (by decide +kernel) ⟨Nat.le_of_ble_eq_true rfl, Nat.le_of_ble_eq_true rfl⟩) (okC_L hok) (Nat.le_of_ble_eq_true rfl) ⟨Nat.le_of_ble_eq_true rfl, Nat.le_of_ble_eq_true rfl⟩) (fun E9 S9 ok9 q9 => q9.elim) (fun rv8 S6 hr9 hok7 h5 => ?_)
      have h5 := h5 hr9 hok7
      refine J_iconst (pc := 48) C dL_arePlaces_48 ?_
      obtain ⟨h10, h11⟩ := h5
      refine J_icmp_ne (pc := 49) (tgt := 110) C dL_arePlaces_49 (by decide) hr9 (by decide) (fun cb => ?_) (fun cb => ?_)
      · have h10 := h10 cb
        refine J_iconst (pc := 110) C dL_arePlaces_110 ?_
        exact J_zret (pc := 111) C dL_arePlaces_111 (by decide) (okL_pu hok hok7) h10 (by decide) (by decide)
      · have h11 := h11 cb
        refine J_iload_n (pc := 52) C dL_arePlaces_52 rfl ?_
        obtain ⟨h12, h13⟩ := h11
        refine J_if_ne (pc := 53) (tgt := 60) C dL_arePlaces_53 (by decide) rx2 (fun cb => ?_) (fun cb => ?_)
        · have h12 := h12 cb
          refine J_iconst (pc := 60) C dL_arePlaces_60 ?_
          refine J_iload_n (pc := 61) C dL_arePlaces_61 rfl ?_
          refine J_iconst (pc := 62) C dL_arePlaces_62 ?_
          obtain ⟨h14, h15⟩ := h12
          refine J_icmp_ne (pc := 63) (tgt := 70) C dL_arePlaces_63 (by decide) rx3 (by decide) (fun cb => ?_) (fun cb => ?_)
          · have h14 := h14 cb
            refine J_iconst (pc := 70) C dL_arePlaces_70 ?_
            refine J_icmp_ne (pc := 71) (tgt := 110) C dL_arePlaces_71 (by decide) (by decide) (by decide) (fun cb => absurd cb (by decide)) (fun _ => ?_)
            refine J_iload_n (pc := 74) C dL_arePlaces_74 rfl ?_
            refine J_iload (pc := 75) C dL_arePlaces_75 rfl ?_
            obtain ⟨h16, h17⟩ := h14
            refine J_icmp_gt (pc := 77) (tgt := 110) C dL_arePlaces_77 (by decide) rx3 rs0 (fun cb => ?_) (fun cb => ?_)
            · have h16 := h16 cb
              refine J_iconst (pc := 110) C dL_arePlaces_110 ?_
              exact J_zret (pc := 111) C dL_arePlaces_111 (by decide) (okL_pu hok hok7) h16 (by decide) (by decide)
            · have h17 := h17 cb
              refine J_iload_n (pc := 80) C dL_arePlaces_80 rfl ?_
              refine J_iconst (pc := 81) C dL_arePlaces_81 ?_
              obtain ⟨h18, h19⟩ := h17
              refine J_icmp_lt (pc := 82) (tgt := 95) C dL_arePlaces_82 (by decide) rx2 (by decide) (fun cb => ?_) (fun cb => ?_)
              · have h18 := h18 cb
                refine J_aload_n (pc := 95) C dL_arePlaces_95 rfl ?_
                refine J_iload_n (pc := 96) C dL_arePlaces_96 rfl ?_
                refine J_iconst (pc := 97) C dL_arePlaces_97 ?_
                refine J_iadd (pc := 98) C dL_arePlaces_98 ?_
                obtain ⟨o20, h21⟩ := h18
                refine J_e1 (pc := 99) C (emb_LC G (pu S S6)) (J_eV (pc := 99) C (emb_LC G (pu S S6)) (h21 o20) dL_arePlaces_99 rfl rfl 0 rfl rfl (cwV 1 C.1.2.2.2.2 gL_arePlaces_X6_places rfl rfl rfl (by decide +kernel) ⟨Nat.le_of_ble_eq_true rfl, Nat.le_of_ble_eq_true rfl⟩) (okC_L (okL_pu hok hok7)) (Nat.le_of_ble_eq_true rfl) ⟨Nat.le_of_ble_eq_true rfl, Nat.le_of_ble_eq_true rfl⟩) (fun E9 S9 ok9 q9 => q9.elim) (fun rv25 S23 hr26 hok24 h22 => ?_)
                have h22 := h22 hr26 hok24
                refine J_iload_n (pc := 102) C dL_arePlaces_102 rfl ?_
                obtain ⟨h27, h28⟩ := h22
                refine J_icmp_lt (pc := 103) (tgt := 110) C dL_arePlaces_103 (by decide) hr26 rx2 (fun cb => ?_) (fun cb => ?_)
                · have h27 := h27 cb
                  refine J_iconst (pc := 110) C dL_arePlaces_110 ?_
                  exact J_zret (pc := 111) C dL_arePlaces_111 (by decide) (okL_pu (okL_pu hok hok7) hok24) h27 (by decide) (by decide)
                · have h28 := h28 cb
                  refine J_iconst (pc := 106) C dL_arePlaces_106 ?_
                  refine J_goto (pc := 107) (tgt := 111) C dL_arePlaces_107 (by decide) ?_
                  exact J_zret (pc := 111) C dL_arePlaces_111 (by decide) (okL_pu (okL_pu hok hok7) hok24) h28 (by decide) (by decide)
              · have h19 := h19 cb
                refine J_aload_n (pc := 85) C dL_arePlaces_85 rfl ?_
                refine J_iload_n (pc := 86) C dL_arePlaces_86 rfl ?_
                refine J_iconst (pc := 87) C dL_arePlaces_87 ?_
                refine J_e1 (pc := 88) C (emb_LC G (pu S S6)) (J_eV (pc := 88) C (emb_LC G (pu S S6)) (h19 rx1 (by decide)) dL_arePlaces_88 rfl rfl 0 rfl rfl (cwV 2 C.1.2.2.2.2 gL_arePlaces_X6_place rfl rfl rfl (by decide +kernel) ⟨Nat.le_of_ble_eq_true rfl, Nat.le_of_ble_eq_true rfl⟩) (okC_L (okL_pu hok hok7)) (Nat.le_of_ble_eq_true rfl) ⟨Nat.le_of_ble_eq_true rfl, Nat.le_of_ble_eq_true rfl⟩) (fun E9 S9 ok9 q9 => q9.elim) (fun rv32 S30 hr33 hok31 h29 => ?_)
                have h29 := h29 hr33 hok31
                refine J_iload_n (pc := 91) C dL_arePlaces_91 rfl ?_
                obtain ⟨h34, h35⟩ := h29
                refine J_icmp_le (pc := 92) (tgt := 110) C dL_arePlaces_92 (by decide) hr33 rx3 (fun cb => ?_) (fun cb => ?_)
                · have h34 := h34 cb
                  refine J_iconst (pc := 110) C dL_arePlaces_110 ?_
                  exact J_zret (pc := 111) C dL_arePlaces_111 (by decide) (okL_pu (okL_pu hok hok7) hok31) h34 (by decide) (by decide)
                · have h35 := h35 cb
                  refine J_aload_n (pc := 95) C dL_arePlaces_95 rfl ?_
                  refine J_iload_n (pc := 96) C dL_arePlaces_96 rfl ?_
                  refine J_iconst (pc := 97) C dL_arePlaces_97 ?_
                  refine J_iadd (pc := 98) C dL_arePlaces_98 ?_
                  obtain ⟨o36, h37⟩ := h35
                  refine J_e1 (pc := 99) C (emb_LC G (pu (pu S S6) S30)) (J_eV (pc := 99) C (emb_LC G (pu (pu S S6) S30)) (h37 o36) dL_arePlaces_99 rfl rfl 0 rfl rfl (cwV 1 C.1.2.2.2.2 gL_arePlaces_X6_places rfl rfl rfl (by decide +kernel) ⟨Nat.le_of_ble_eq_true rfl, Nat.le_of_ble_eq_true rfl⟩) (okC_L (okL_pu (okL_pu hok hok7) hok31)) (Nat.le_of_ble_eq_true rfl) ⟨Nat.le_of_ble_eq_true rfl, Nat.le_of_ble_eq_true rfl⟩) (fun E9 S9 ok9 q9 => q9.elim) (fun rv41 S39 hr42 hok40 h38 => ?_)
                  have h38 := h38 hr42 hok40
                  refine J_iload_n (pc := 102) C dL_arePlaces_102 rfl ?_
                  obtain ⟨h43, h44⟩ := h38
                  refine J_icmp_lt (pc := 103) (tgt := 110) C dL_arePlaces_103 (by decide) hr42 rx2 (fun cb => ?_) (fun cb => ?_)
                  · have h43 := h43 cb
                    refine J_iconst (pc := 110) C dL_arePlaces_110 ?_
                    exact J_zret (pc := 111) C dL_arePlaces_111 (by decide) (okL_pu (okL_pu (okL_pu hok hok7) hok31) hok40) h43 (by decide) (by decide)
                  · have h44 := h44 cb
                    refine J_iconst (pc := 106) C dL_arePlaces_106 ?_
                    refine J_goto (pc := 107) (tgt := 111) C dL_arePlaces_107 (by decide) ?_
                    exact J_zret (pc := 111) C dL_arePlaces_111 (by decide) (okL_pu (okL_pu (okL_pu hok hok7) hok31) hok40) h44 (by decide) (by decide)
          · have h15 := h15 cb
            refine J_iconst (pc := 66) C dL_arePlaces_66 ?_
            refine J_goto (pc := 67) (tgt := 71) C dL_arePlaces_67 (by decide) ?_
            refine J_icmp_ne (pc := 71) (tgt := 110) C dL_arePlaces_71 (by decide) (by decide) (by decide) (fun _ => ?_) (fun cb => absurd cb (by decide))
            refine J_iconst (pc := 110) C dL_arePlaces_110 ?_
            exact J_zret (pc := 111) C dL_arePlaces_111 (by decide) (okL_pu hok hok7) h15 (by decide) (by decide)
        · have h13 := h13 cb
          refine J_iconst (pc := 56) C dL_arePlaces_56 ?_
          refine J_goto (pc := 57) (tgt := 61) C dL_arePlaces_57 (by decide) ?_
          refine J_iload_n (pc := 61) C dL_arePlaces_61 rfl ?_
          refine J_iconst (pc := 62) C dL_arePlaces_62 ?_
          obtain ⟨h45, h46⟩ := h13
          refine J_icmp_ne (pc := 63) (tgt := 70) C dL_arePlaces_63 (by decide) rx3 (by decide) (fun cb => ?_) (fun cb => ?_)
          · have h45 := h45 cb
            refine J_iconst (pc := 70) C dL_arePlaces_70 ?_
            refine J_icmp_ne (pc := 71) (tgt := 110) C dL_arePlaces_71 (by decide) (by decide) (by decide) (fun _ => ?_) (fun cb => absurd cb (by decide))
            refine J_iconst (pc := 110) C dL_arePlaces_110 ?_
            exact J_zret (pc := 111) C dL_arePlaces_111 (by decide) (okL_pu hok hok7) h45 (by decide) (by decide)
          · have h46 := h46 cb
            refine J_iconst (pc := 66) C dL_arePlaces_66 ?_
            refine J_goto (pc := 67) (tgt := 71) C dL_arePlaces_67 (by decide) ?_
            refine J_icmp_ne (pc := 71) (tgt := 110) C dL_arePlaces_71 (by decide) (by decide) (by decide) (fun cb => absurd cb (by decide)) (fun _ => ?_)
            refine J_iload_n (pc := 74) C dL_arePlaces_74 rfl ?_
            refine J_iload (pc := 75) C dL_arePlaces_75 rfl ?_
            obtain ⟨h47, h48⟩ := h46
            refine J_icmp_gt (pc := 77) (tgt := 110) C dL_arePlaces_77 (by decide) rx3 rs0 (fun cb => ?_) (fun cb => ?_)
            · have h47 := h47 cb
              refine J_iconst (pc := 110) C dL_arePlaces_110 ?_
              exact J_zret (pc := 111) C dL_arePlaces_111 (by decide) (okL_pu hok hok7) h47 (by decide) (by decide)
            · have h48 := h48 cb
              refine J_iload_n (pc := 80) C dL_arePlaces_80 rfl ?_
              refine J_iconst (pc := 81) C dL_arePlaces_81 ?_
              obtain ⟨h49, h50⟩ := h48
              refine J_icmp_lt (pc := 82) (tgt := 95) C dL_arePlaces_82 (by decide) rx2 (by decide) (fun cb => ?_) (fun cb => ?_)
              · have h49 := h49 cb
                refine J_aload_n (pc := 95) C dL_arePlaces_95 rfl ?_
                refine J_iload_n (pc := 96) C dL_arePlaces_96 rfl ?_
                refine J_iconst (pc := 97) C dL_arePlaces_97 ?_
                refine J_iadd (pc := 98) C dL_arePlaces_98 ?_
                obtain ⟨o51, h52⟩ := h49
                refine J_e1 (pc := 99) C (emb_LC G (pu S S6)) (J_eV (pc := 99) C (emb_LC G (pu S S6)) (h52 o51) dL_arePlaces_99 rfl rfl 0 rfl rfl (cwV 1 C.1.2.2.2.2 gL_arePlaces_X6_places rfl rfl rfl (by decide +kernel) ⟨Nat.le_of_ble_eq_true rfl, Nat.le_of_ble_eq_true rfl⟩) (okC_L (okL_pu hok hok7)) (Nat.le_of_ble_eq_true rfl) ⟨Nat.le_of_ble_eq_true rfl, Nat.le_of_ble_eq_true rfl⟩) (fun E9 S9 ok9 q9 => q9.elim) (fun rv56 S54 hr57 hok55 h53 => ?_)
                have h53 := h53 hr57 hok55
                refine J_iload_n (pc := 102) C dL_arePlaces_102 rfl ?_
                obtain ⟨h58, h59⟩ := h53
                refine J_icmp_lt (pc := 103) (tgt := 110) C dL_arePlaces_103 (by decide) hr57 rx2 (fun cb => ?_) (fun cb => ?_)
                · have h58 := h58 cb
                  refine J_iconst (pc := 110) C dL_arePlaces_110 ?_
                  exact J_zret (pc := 111) C dL_arePlaces_111 (by decide) (okL_pu (okL_pu hok hok7) hok55) h58 (by decide) (by decide)
                · have h59 := h59 cb
                  refine J_iconst (pc := 106) C dL_arePlaces_106 ?_
                  refine J_goto (pc := 107) (tgt := 111) C dL_arePlaces_107 (by decide) ?_
                  exact J_zret (pc := 111) C dL_arePlaces_111 (by decide) (okL_pu (okL_pu hok hok7) hok55) h59 (by decide) (by decide)
              · have h50 := h50 cb
                refine J_aload_n (pc := 85) C dL_arePlaces_85 rfl ?_
                refine J_iload_n (pc := 86) C dL_arePlaces_86 rfl ?_
                refine J_iconst (pc := 87) C dL_arePlaces_87 ?_
                refine J_e1 (pc := 88) C (emb_LC G (pu S S6)) (J_eV (pc := 88) C (emb_LC G (pu S S6)) (h50 rx1 (by decide)) dL_arePlaces_88 rfl rfl 0 rfl rfl (cwV 2 C.1.2.2.2.2 gL_arePlaces_X6_place rfl rfl rfl (by decide +kernel) ⟨Nat.le_of_ble_eq_true rfl, Nat.le_of_ble_eq_true rfl⟩) (okC_L (okL_pu hok hok7)) (Nat.le_of_ble_eq_true rfl) ⟨Nat.le_of_ble_eq_true rfl, Nat.le_of_ble_eq_true rfl⟩) (fun E9 S9 ok9 q9 => q9.elim) (fun rv63 S61 hr64 hok62 h60 => ?_)
                have h60 := h60 hr64 hok62
                refine J_iload_n (pc := 91) C dL_arePlaces_91 rfl ?_
                obtain ⟨h65, h66⟩ := h60
                refine J_icmp_le (pc := 92) (tgt := 110) C dL_arePlaces_92 (by decide) hr64 rx3 (fun cb => ?_) (fun cb => ?_)
                · have h65 := h65 cb
                  refine J_iconst (pc := 110) C dL_arePlaces_110 ?_
                  exact J_zret (pc := 111) C dL_arePlaces_111 (by decide) (okL_pu (okL_pu hok hok7) hok62) h65 (by decide) (by decide)
                · have h66 := h66 cb
                  refine J_aload_n (pc := 95) C dL_arePlaces_95 rfl ?_
                  refine J_iload_n (pc := 96) C dL_arePlaces_96 rfl ?_
                  refine J_iconst (pc := 97) C dL_arePlaces_97 ?_
                  refine J_iadd (pc := 98) C dL_arePlaces_98 ?_
                  obtain ⟨o67, h68⟩ := h66
                  refine J_e1 (pc := 99) C (emb_LC G (pu (pu S S6) S61)) (J_eV (pc := 99) C (emb_LC G (pu (pu S S6) S61)) (h68 o67) dL_arePlaces_99 rfl rfl 0 rfl rfl (cwV 1 C.1.2.2.2.2 gL_arePlaces_X6_places rfl rfl rfl (by decide +kernel) ⟨Nat.le_of_ble_eq_true rfl, Nat.le_of_ble_eq_true rfl⟩) (okC_L (okL_pu (okL_pu hok hok7) hok62)) (Nat.le_of_ble_eq_true rfl) ⟨Nat.le_of_ble_eq_true rfl, Nat.le_of_ble_eq_true rfl⟩) (fun E9 S9 ok9 q9 => q9.elim) (fun rv72 S70 hr73 hok71 h69 => ?_)
                  have h69 := h69 hr73 hok71
                  refine J_iload_n (pc := 102) C dL_arePlaces_102 rfl ?_
                  obtain ⟨h74, h75⟩ := h69
                  refine J_icmp_lt (pc := 103) (tgt := 110) C dL_arePlaces_103 (by decide) hr73 rx2 (fun cb => ?_) (fun cb => ?_)
                  · have h74 := h74 cb
                    refine J_iconst (pc := 110) C dL_arePlaces_110 ?_
                    exact J_zret (pc := 111) C dL_arePlaces_111 (by decide) (okL_pu (okL_pu (okL_pu hok hok7) hok62) hok71) h74 (by decide) (by decide)
                  · have h75 := h75 cb
                    refine J_iconst (pc := 106) C dL_arePlaces_106 ?_
                    refine J_goto (pc := 107) (tgt := 111) C dL_arePlaces_107 (by decide) ?_
                    exact J_zret (pc := 111) C dL_arePlaces_111 (by decide) (okL_pu (okL_pu (okL_pu hok hok7) hok62) hok71) h75 (by decide) (by decide)
def rmL_asks : Room := { frames := 8, cells := 2, slots := 12, locals := 163 }
theorem mL_asks_k31 : Cond.classLink RL 31 IOOBE ∈ wsL_asks := by decide +kernel
def M_L_asks (a0 a1 a2 : Int) (S : St) (Qr : Int → St → Prop) (Qx : String → St → Prop) : Prop := r32 a0 → r32 a1 → r32 a2 → MM 1 wL okL yL_asks wsL_asks rmL_asks (fun G => [.ref (G.2.2 0), iV a0, iV a1, iV a2]) S Qr Qx
set_option maxRecDepth 100000 in
set_option maxHeartbeats 4000000 in
theorem vc_L_asks {a0 a1 a2 : Int} {S : St} {Qr : Int → St → Prop} {Qx : String → St → Prop} (h : r32 a0 → r32 a1 → r32 a2 → okL S → ((a2 ≠ 0 → ((a2 ≠ 1 → ((a2 ≠ 2 → M_X6_isRedundant a0 S (fun rv10 S8 => r32 rv10 → okC S8 → ((rv10 = 0 → Qr 0 (pu S S8)) ∧ (rv10 ≠ 0 → Qr 1 (pu S S8)))) (fun E15 S13 => okC S13 → ((E15 = IOOBE ∧ Qr (-200) (pu S S13))))) ∧ (a2 = 2 → M_X6_balance a1 a0 S (fun rv23 S21 => r32 rv23 → okC S21 → Qr rv23 (pu S S21)) (fun E28 S26 => okC S26 → ((E28 = IOOBE ∧ Qr (-200) (pu S S26))))))) ∧ (a2 = 1 → M_X6_stress a0 a1 S (fun rv34 S32 => r32 rv34 → okC S32 → Qr rv34 (pu S S32)) (fun E39 S37 => okC S37 → ((E39 = IOOBE ∧ Qr (-200) (pu S S37))))))) ∧ (a2 = 0 → M_X6_remove a0 S (fun rv45 S43 => r32 rv45 → okC S43 → Qr rv45 (pu S S43)) (fun E50 S48 => okC S48 → ((E50 = IOOBE ∧ Qr (-200) (pu S S48))))))) : M_L_asks a0 a1 a2 S Qr Qx := by
  intro ra0 ra1 ra2
  refine MH_of adL (by decide +kernel) rfl (Lf := fun G => [some (.ref (G.2.2 0)), some (iV a0), some (iV a1), some (iV a2), none]) (fun G => by show _ ≤ _; exact Nat.le_of_ble_eq_true rfl) (fun G => rfl) ?_
  intro p l e s m args below meth c G A C hok
  have h := h ra0 ra1 ra2 hok
  replace C : Cx wL cL_asks 5 RL wsL_asks (some .int) [(0, 53, 54, 31)] p l s m args meth c G A := C
  show J wL 5 rmL_asks p l e s m args below meth c G A (QQ 1 wL okL G Qr Qx A below args s rmL_asks.cells rmL_asks.slots) 0 0 S [some (.ref (G.2.2 0)), some (iV a0), some (iV a1), some (iV a2), none] [] 0
  refine J_iload_n (pc := 0) C dL_asks_0 rfl ?_
  obtain ⟨h1, h2⟩ := h
  refine J_if_ne (pc := 1) (tgt := 12) C dL_asks_1 (by decide) ra2 (fun cb => ?_) (fun cb => ?_)
  · have h1 := h1 cb
    refine J_iload_n (pc := 12) C dL_asks_12 rfl ?_
    refine J_iconst (pc := 13) C dL_asks_13 ?_
    obtain ⟨h3, h4⟩ := h1
    refine J_icmp_ne (pc := 14) (tgt := 26) C dL_asks_14 (by decide) ra2 (by decide) (fun cb => ?_) (fun cb => ?_)
    · have h3 := h3 cb
      refine J_iload_n (pc := 26) C dL_asks_26 rfl ?_
      refine J_iconst (pc := 27) C dL_asks_27 ?_
      obtain ⟨h5, h6⟩ := h3
      refine J_icmp_ne (pc := 28) (tgt := 40) C dL_asks_28 (by decide) ra2 (by decide) (fun cb => ?_) (fun cb => ?_)
      · have h5 := h5 cb
        refine J_aload_n (pc := 40) C dL_asks_40 rfl ?_
        refine J_iload_n (pc := 41) C dL_asks_41 rfl ?_
        refine J_e1 (pc := 42) C (emb_LC G S) (J_eV (pc := 42) C (emb_LC G S) (h5 ra0) dL_asks_42 rfl rfl 0 rfl rfl (cwV 1 C.1.2.2.2.2 gL_asks_X6_isRedundant rfl rfl rfl (by decide +kernel) ⟨Nat.le_of_ble_eq_true rfl, Nat.le_of_ble_eq_true rfl⟩) (okC_L hok) (Nat.le_of_ble_eq_true rfl) ⟨Nat.le_of_ble_eq_true rfl, Nat.le_of_ble_eq_true rfl⟩) (fun E15 S13 hok14 q12 => ?_) (fun rv10 S8 hr11 hok9 h7 => ?_)
        · rcases q12 hok14 with ⟨rfl, h16⟩
          refine J_catch (pc := 42) C (Cx.NC C) [] (0, 53, 54, 31) [] rfl (by decide) (fun z hz => nomatch hz) (by decide) mL_asks_k31 (by decide) (fun qa17 => ?_)
          refine J_astore (pc := 54) C dL_asks_54 (by decide) ?_
          refine J_sipush (pc := 56) C dL_asks_56 (by decide) ?_
          exact J_iret (pc := 59) C dL_asks_59 (by decide) (okL_pu hok hok14) h16 (by decide) (by decide)
        · have h7 := h7 hr11 hok9
          obtain ⟨h18, h19⟩ := h7
          refine J_if_eq (pc := 45) (tgt := 52) C dL_asks_45 (by decide) hr11 (fun cb => ?_) (fun cb => ?_)
          · have h18 := h18 cb
            refine J_iconst (pc := 52) C dL_asks_52 ?_
            exact J_iret (pc := 53) C dL_asks_53 (by decide) (okL_pu hok hok9) h18 (by decide) (by decide)
          · have h19 := h19 cb
            refine J_iconst (pc := 48) C dL_asks_48 ?_
            refine J_goto (pc := 49) (tgt := 53) C dL_asks_49 (by decide) ?_
            exact J_iret (pc := 53) C dL_asks_53 (by decide) (okL_pu hok hok9) h19 (by decide) (by decide)
      · have h6 := h6 cb
        refine J_aload_n (pc := 31) C dL_asks_31 rfl ?_
        refine J_iload_n (pc := 32) C dL_asks_32 rfl ?_
        refine J_iload_n (pc := 33) C dL_asks_33 rfl ?_
        refine J_e1 (pc := 34) C (emb_LC G S) (J_eV (pc := 34) C (emb_LC G S) (h6 ra1 ra0) dL_asks_34 rfl rfl 0 rfl rfl (cwV 2 C.1.2.2.2.2 gL_asks_X6_balance rfl rfl rfl (by decide +kernel) ⟨Nat.le_of_ble_eq_true rfl, Nat.le_of_ble_eq_true rfl⟩) (okC_L hok) (Nat.le_of_ble_eq_true rfl) ⟨Nat.le_of_ble_eq_true rfl, Nat.le_of_ble_eq_true rfl⟩) (fun E28 S26 hok27 q25 => ?_) (fun rv23 S21 hr24 hok22 h20 => ?_)
        · rcases q25 hok27 with ⟨rfl, h29⟩
          refine J_catch (pc := 34) C (Cx.NC C) [] (0, 53, 54, 31) [] rfl (by decide) (fun z hz => nomatch hz) (by decide) mL_asks_k31 (by decide) (fun qa30 => ?_)
          refine J_astore (pc := 54) C dL_asks_54 (by decide) ?_
          refine J_sipush (pc := 56) C dL_asks_56 (by decide) ?_
          exact J_iret (pc := 59) C dL_asks_59 (by decide) (okL_pu hok hok27) h29 (by decide) (by decide)
        · have h20 := h20 hr24 hok22
          refine J_goto (pc := 37) (tgt := 53) C dL_asks_37 (by decide) ?_
          exact J_iret (pc := 53) C dL_asks_53 hr24 (okL_pu hok hok22) h20 (by decide) (by decide)
    · have h4 := h4 cb
      refine J_aload_n (pc := 17) C dL_asks_17 rfl ?_
      refine J_iload_n (pc := 18) C dL_asks_18 rfl ?_
      refine J_iload_n (pc := 19) C dL_asks_19 rfl ?_
      refine J_e1 (pc := 20) C (emb_LC G S) (J_eV (pc := 20) C (emb_LC G S) (h4 ra0 ra1) dL_asks_20 rfl rfl 0 rfl rfl (cwV 2 C.1.2.2.2.2 gL_asks_X6_stress rfl rfl rfl (by decide +kernel) ⟨Nat.le_of_ble_eq_true rfl, Nat.le_of_ble_eq_true rfl⟩) (okC_L hok) (Nat.le_of_ble_eq_true rfl) ⟨Nat.le_of_ble_eq_true rfl, Nat.le_of_ble_eq_true rfl⟩) (fun E39 S37 hok38 q36 => ?_) (fun rv34 S32 hr35 hok33 h31 => ?_)
      · rcases q36 hok38 with ⟨rfl, h40⟩
        refine J_catch (pc := 20) C (Cx.NC C) [] (0, 53, 54, 31) [] rfl (by decide) (fun z hz => nomatch hz) (by decide) mL_asks_k31 (by decide) (fun qa41 => ?_)
        refine J_astore (pc := 54) C dL_asks_54 (by decide) ?_
        refine J_sipush (pc := 56) C dL_asks_56 (by decide) ?_
        exact J_iret (pc := 59) C dL_asks_59 (by decide) (okL_pu hok hok38) h40 (by decide) (by decide)
      · have h31 := h31 hr35 hok33
        refine J_goto (pc := 23) (tgt := 53) C dL_asks_23 (by decide) ?_
        exact J_iret (pc := 53) C dL_asks_53 hr35 (okL_pu hok hok33) h31 (by decide) (by decide)
  · have h2 := h2 cb
    refine J_aload_n (pc := 4) C dL_asks_4 rfl ?_
    refine J_iload_n (pc := 5) C dL_asks_5 rfl ?_
    refine J_e1 (pc := 6) C (emb_LC G S) (J_eV (pc := 6) C (emb_LC G S) (h2 ra0) dL_asks_6 rfl rfl 0 rfl rfl (cwV 1 C.1.2.2.2.2 gL_asks_X6_remove rfl rfl rfl (by decide +kernel) ⟨Nat.le_of_ble_eq_true rfl, Nat.le_of_ble_eq_true rfl⟩) (okC_L hok) (Nat.le_of_ble_eq_true rfl) ⟨Nat.le_of_ble_eq_true rfl, Nat.le_of_ble_eq_true rfl⟩) (fun E50 S48 hok49 q47 => ?_) (fun rv45 S43 hr46 hok44 h42 => ?_)
    · rcases q47 hok49 with ⟨rfl, h51⟩
      refine J_catch (pc := 6) C (Cx.NC C) [] (0, 53, 54, 31) [] rfl (by decide) (fun z hz => nomatch hz) (by decide) mL_asks_k31 (by decide) (fun qa52 => ?_)
      refine J_astore (pc := 54) C dL_asks_54 (by decide) ?_
      refine J_sipush (pc := 56) C dL_asks_56 (by decide) ?_
      exact J_iret (pc := 59) C dL_asks_59 (by decide) (okL_pu hok hok49) h51 (by decide) (by decide)
    · have h42 := h42 hr46 hok44
      refine J_goto (pc := 9) (tgt := 53) C dL_asks_9 (by decide) ?_
      exact J_iret (pc := 53) C dL_asks_53 hr46 (okL_pu hok hok44) h42 (by decide) (by decide)
def rmL_sets : Room := { frames := 8, cells := 6, slots := 36, locals := 129 }
theorem mL_sets_k16 : Cond.classLink RL 16 ISE ∈ wsL_sets := by decide +kernel
theorem mL_sets_k29 : Cond.classLink RL 29 IAE ∈ wsL_sets := by decide +kernel
theorem mL_sets_k31 : Cond.classLink RL 31 IOOBE ∈ wsL_sets := by decide +kernel
def M_L_sets (a0 a1 a2 a3 a4 : Int) (S : St) (Qr : Int → St → Prop) (Qx : String → St → Prop) : Prop := r32 a0 → r32 a1 → r32 a2 → r32 a3 → r32 a4 → MM 1 wL okL yL_sets wsL_sets rmL_sets (fun G => [.ref (G.2.2 0), iV a0, iV a1, iV a2, iV a3, iV a4]) S Qr Qx
set_option maxRecDepth 100000 in
set_option maxHeartbeats 4000000 in
theorem vc_L_sets {a0 a1 a2 a3 a4 : Int} {S : St} {Qr : Int → St → Prop} {Qx : String → St → Prop} (h : r32 a0 → r32 a1 → r32 a2 → r32 a3 → r32 a4 → okL S → ((a4 ≠ 0 → ((a4 ≠ 1 → M_X6_split a0 a1 a2 a3 S (fun rv8 S6 => r32 rv8 → okC S6 → Qr rv8 (pu S S6)) (fun E13 S11 => okC S11 → ((E13 = ISE ∧ Qr (-2) (pu S S11)) ∨ (E13 = IAE ∧ Qr (-3) (pu S S11)) ∨ (E13 = IOOBE ∧ Qr (-4) (pu S S11))))) ∧ (a4 = 1 → M_X6_grow a0 a1 a2 a3 S (fun rv23 S21 => r32 rv23 → okC S21 → Qr rv23 (pu S S21)) (fun E28 S26 => okC S26 → ((E28 = ISE ∧ Qr (-2) (pu S S26)) ∨ (E28 = IAE ∧ Qr (-3) (pu S S26)) ∨ (E28 = IOOBE ∧ Qr (-4) (pu S S26))))))) ∧ (a4 = 0 → M_X6_member a0 a1 a2 S (fun rv38 S36 => r32 rv38 → okC S36 → Qr rv38 (pu S S36)) (fun E43 S41 => okC S41 → ((E43 = ISE ∧ Qr (-2) (pu S S41)) ∨ (E43 = IAE ∧ Qr (-3) (pu S S41)) ∨ (E43 = IOOBE ∧ Qr (-4) (pu S S41))))))) : M_L_sets a0 a1 a2 a3 a4 S Qr Qx := by
  intro ra0 ra1 ra2 ra3 ra4
  refine MH_of adL (by decide +kernel) rfl (Lf := fun G => [some (.ref (G.2.2 0)), some (iV a0), some (iV a1), some (iV a2), some (iV a3), some (iV a4), none]) (fun G => by show _ ≤ _; exact Nat.le_of_ble_eq_true rfl) (fun G => rfl) ?_
  intro p l e s m args below meth c G A C hok
  have h := h ra0 ra1 ra2 ra3 ra4 hok
  replace C : Cx wL cL_sets 7 RL wsL_sets (some .int) [(0, 42, 43, 16), (0, 42, 48, 29), (0, 42, 53, 31)] p l s m args meth c G A := C
  show J wL 7 rmL_sets p l e s m args below meth c G A (QQ 1 wL okL G Qr Qx A below args s rmL_sets.cells rmL_sets.slots) 0 0 S [some (.ref (G.2.2 0)), some (iV a0), some (iV a1), some (iV a2), some (iV a3), some (iV a4), none] [] 0
  refine J_iload (pc := 0) C dL_sets_0 rfl ?_
  obtain ⟨h1, h2⟩ := h
  refine J_if_ne (pc := 2) (tgt := 15) C dL_sets_2 (by decide) ra4 (fun cb => ?_) (fun cb => ?_)
  · have h1 := h1 cb
    refine J_iload (pc := 15) C dL_sets_15 rfl ?_
    refine J_iconst (pc := 17) C dL_sets_17 ?_
    obtain ⟨h3, h4⟩ := h1
    refine J_icmp_ne (pc := 18) (tgt := 33) C dL_sets_18 (by decide) ra4 (by decide) (fun cb => ?_) (fun cb => ?_)
    · have h3 := h3 cb
      refine J_aload_n (pc := 33) C dL_sets_33 rfl ?_
      refine J_iload_n (pc := 34) C dL_sets_34 rfl ?_
      refine J_iload_n (pc := 35) C dL_sets_35 rfl ?_
      refine J_iload_n (pc := 36) C dL_sets_36 rfl ?_
      refine J_iload (pc := 37) C dL_sets_37 rfl ?_
      refine J_e1 (pc := 39) C (emb_LC G S) (J_eV (pc := 39) C (emb_LC G S) (h3 ra0 ra1 ra2 ra3) dL_sets_39 rfl rfl 0 rfl rfl (cwV 4 C.1.2.2.2.2 gL_sets_X6_split rfl rfl rfl (by decide +kernel) ⟨Nat.le_of_ble_eq_true rfl, Nat.le_of_ble_eq_true rfl⟩) (okC_L hok) (Nat.le_of_ble_eq_true rfl) ⟨Nat.le_of_ble_eq_true rfl, Nat.le_of_ble_eq_true rfl⟩) (fun E13 S11 hok12 q10 => ?_) (fun rv8 S6 hr9 hok7 h5 => ?_)
      · rcases q10 hok12 with ⟨rfl, h14⟩ | ⟨rfl, h15⟩ | ⟨rfl, h16⟩
        · refine J_catch (pc := 39) C (Cx.NC C) [] (0, 42, 43, 16) [(0, 42, 48, 29), (0, 42, 53, 31)] rfl (by decide) (fun z hz => nomatch hz) (by decide) mL_sets_k16 (by decide) (fun qa17 => ?_)
          refine J_astore (pc := 43) C dL_sets_43 (by decide) ?_
          refine J_bipush (pc := 45) C dL_sets_45 (by decide) ?_
          exact J_iret (pc := 47) C dL_sets_47 (by decide) (okL_pu hok hok12) h14 (by decide) (by decide)
        · refine J_catch (pc := 39) C (Cx.NC C) [(0, 42, 43, 16)] (0, 42, 48, 29) [(0, 42, 53, 31)] rfl (by decide) (fun z hz => by
          simp only [List.mem_cons, List.not_mem_nil, or_false] at hz
          rcases hz with rfl
          · exact ⟨by decide, _, mL_sets_k16, by decide⟩) (by decide) mL_sets_k29 (by decide) (fun qa18 => ?_)
          refine J_astore (pc := 48) C dL_sets_48 (by decide) ?_
          refine J_bipush (pc := 50) C dL_sets_50 (by decide) ?_
          exact J_iret (pc := 52) C dL_sets_52 (by decide) (okL_pu hok hok12) h15 (by decide) (by decide)
        · refine J_catch (pc := 39) C (Cx.NC C) [(0, 42, 43, 16), (0, 42, 48, 29)] (0, 42, 53, 31) [] rfl (by decide) (fun z hz => by
          simp only [List.mem_cons, List.not_mem_nil, or_false] at hz
          rcases hz with rfl | rfl
          · exact ⟨by decide, _, mL_sets_k16, by decide⟩
          · exact ⟨by decide, _, mL_sets_k29, by decide⟩) (by decide) mL_sets_k31 (by decide) (fun qa19 => ?_)
          refine J_astore (pc := 53) C dL_sets_53 (by decide) ?_
          refine J_bipush (pc := 55) C dL_sets_55 (by decide) ?_
          exact J_iret (pc := 57) C dL_sets_57 (by decide) (okL_pu hok hok12) h16 (by decide) (by decide)
      · have h5 := h5 hr9 hok7
        exact J_iret (pc := 42) C dL_sets_42 hr9 (okL_pu hok hok7) h5 (by decide) (by decide)
    · have h4 := h4 cb
      refine J_aload_n (pc := 21) C dL_sets_21 rfl ?_
      refine J_iload_n (pc := 22) C dL_sets_22 rfl ?_
      refine J_iload_n (pc := 23) C dL_sets_23 rfl ?_
      refine J_iload_n (pc := 24) C dL_sets_24 rfl ?_
      refine J_iload (pc := 25) C dL_sets_25 rfl ?_
      refine J_e1 (pc := 27) C (emb_LC G S) (J_eV (pc := 27) C (emb_LC G S) (h4 ra0 ra1 ra2 ra3) dL_sets_27 rfl rfl 0 rfl rfl (cwV 4 C.1.2.2.2.2 gL_sets_X6_grow rfl rfl rfl (by decide +kernel) ⟨Nat.le_of_ble_eq_true rfl, Nat.le_of_ble_eq_true rfl⟩) (okC_L hok) (Nat.le_of_ble_eq_true rfl) ⟨Nat.le_of_ble_eq_true rfl, Nat.le_of_ble_eq_true rfl⟩) (fun E28 S26 hok27 q25 => ?_) (fun rv23 S21 hr24 hok22 h20 => ?_)
      · rcases q25 hok27 with ⟨rfl, h29⟩ | ⟨rfl, h30⟩ | ⟨rfl, h31⟩
        · refine J_catch (pc := 27) C (Cx.NC C) [] (0, 42, 43, 16) [(0, 42, 48, 29), (0, 42, 53, 31)] rfl (by decide) (fun z hz => nomatch hz) (by decide) mL_sets_k16 (by decide) (fun qa32 => ?_)
          refine J_astore (pc := 43) C dL_sets_43 (by decide) ?_
          refine J_bipush (pc := 45) C dL_sets_45 (by decide) ?_
          exact J_iret (pc := 47) C dL_sets_47 (by decide) (okL_pu hok hok27) h29 (by decide) (by decide)
        · refine J_catch (pc := 27) C (Cx.NC C) [(0, 42, 43, 16)] (0, 42, 48, 29) [(0, 42, 53, 31)] rfl (by decide) (fun z hz => by
          simp only [List.mem_cons, List.not_mem_nil, or_false] at hz
          rcases hz with rfl
          · exact ⟨by decide, _, mL_sets_k16, by decide⟩) (by decide) mL_sets_k29 (by decide) (fun qa33 => ?_)
          refine J_astore (pc := 48) C dL_sets_48 (by decide) ?_
          refine J_bipush (pc := 50) C dL_sets_50 (by decide) ?_
          exact J_iret (pc := 52) C dL_sets_52 (by decide) (okL_pu hok hok27) h30 (by decide) (by decide)
        · refine J_catch (pc := 27) C (Cx.NC C) [(0, 42, 43, 16), (0, 42, 48, 29)] (0, 42, 53, 31) [] rfl (by decide) (fun z hz => by
          simp only [List.mem_cons, List.not_mem_nil, or_false] at hz
          rcases hz with rfl | rfl
          · exact ⟨by decide, _, mL_sets_k16, by decide⟩
          · exact ⟨by decide, _, mL_sets_k29, by decide⟩) (by decide) mL_sets_k31 (by decide) (fun qa34 => ?_)
          refine J_astore (pc := 53) C dL_sets_53 (by decide) ?_
          refine J_bipush (pc := 55) C dL_sets_55 (by decide) ?_
          exact J_iret (pc := 57) C dL_sets_57 (by decide) (okL_pu hok hok27) h31 (by decide) (by decide)
      · have h20 := h20 hr24 hok22
        refine J_goto (pc := 30) (tgt := 42) C dL_sets_30 (by decide) ?_
        exact J_iret (pc := 42) C dL_sets_42 hr24 (okL_pu hok hok22) h20 (by decide) (by decide)
  · have h2 := h2 cb
    refine J_aload_n (pc := 5) C dL_sets_5 rfl ?_
    refine J_iload_n (pc := 6) C dL_sets_6 rfl ?_
    refine J_iload_n (pc := 7) C dL_sets_7 rfl ?_
    refine J_iload_n (pc := 8) C dL_sets_8 rfl ?_
    refine J_e1 (pc := 9) C (emb_LC G S) (J_eV (pc := 9) C (emb_LC G S) (h2 ra0 ra1 ra2) dL_sets_9 rfl rfl 0 rfl rfl (cwV 3 C.1.2.2.2.2 gL_sets_X6_member rfl rfl rfl (by decide +kernel) ⟨Nat.le_of_ble_eq_true rfl, Nat.le_of_ble_eq_true rfl⟩) (okC_L hok) (Nat.le_of_ble_eq_true rfl) ⟨Nat.le_of_ble_eq_true rfl, Nat.le_of_ble_eq_true rfl⟩) (fun E43 S41 hok42 q40 => ?_) (fun rv38 S36 hr39 hok37 h35 => ?_)
    · rcases q40 hok42 with ⟨rfl, h44⟩ | ⟨rfl, h45⟩ | ⟨rfl, h46⟩
      · refine J_catch (pc := 9) C (Cx.NC C) [] (0, 42, 43, 16) [(0, 42, 48, 29), (0, 42, 53, 31)] rfl (by decide) (fun z hz => nomatch hz) (by decide) mL_sets_k16 (by decide) (fun qa47 => ?_)
        refine J_astore (pc := 43) C dL_sets_43 (by decide) ?_
        refine J_bipush (pc := 45) C dL_sets_45 (by decide) ?_
        exact J_iret (pc := 47) C dL_sets_47 (by decide) (okL_pu hok hok42) h44 (by decide) (by decide)
      · refine J_catch (pc := 9) C (Cx.NC C) [(0, 42, 43, 16)] (0, 42, 48, 29) [(0, 42, 53, 31)] rfl (by decide) (fun z hz => by
        simp only [List.mem_cons, List.not_mem_nil, or_false] at hz
        rcases hz with rfl
        · exact ⟨by decide, _, mL_sets_k16, by decide⟩) (by decide) mL_sets_k29 (by decide) (fun qa48 => ?_)
        refine J_astore (pc := 48) C dL_sets_48 (by decide) ?_
        refine J_bipush (pc := 50) C dL_sets_50 (by decide) ?_
        exact J_iret (pc := 52) C dL_sets_52 (by decide) (okL_pu hok hok42) h45 (by decide) (by decide)
      · refine J_catch (pc := 9) C (Cx.NC C) [(0, 42, 43, 16), (0, 42, 48, 29)] (0, 42, 53, 31) [] rfl (by decide) (fun z hz => by
        simp only [List.mem_cons, List.not_mem_nil, or_false] at hz
        rcases hz with rfl | rfl
        · exact ⟨by decide, _, mL_sets_k16, by decide⟩
        · exact ⟨by decide, _, mL_sets_k29, by decide⟩) (by decide) mL_sets_k31 (by decide) (fun qa49 => ?_)
        refine J_astore (pc := 53) C dL_sets_53 (by decide) ?_
        refine J_bipush (pc := 55) C dL_sets_55 (by decide) ?_
        exact J_iret (pc := 57) C dL_sets_57 (by decide) (okL_pu hok hok42) h46 (by decide) (by decide)
    · have h35 := h35 hr39 hok37
      refine J_goto (pc := 12) (tgt := 42) C dL_sets_12 (by decide) ?_
      exact J_iret (pc := 42) C dL_sets_42 hr39 (okL_pu hok hok37) h35 (by decide) (by decide)
def rmL_isSet : Room := { frames := 9, cells := 2, slots := 12, locals := 187 }
def M_L_isSet (a0 a1 a2 : Int) (S : St) (Qr : Int → St → Prop) (Qx : String → St → Prop) : Prop := r32 a0 → r32 a1 → r32 a2 → MM 1 wL okL yL_isSet wsL_isSet rmL_isSet (fun G => [.ref (G.2.2 0), .ref (G.2.2 70), .ref (G.2.2 71), iV a0, iV a1, iV a2]) S Qr Qx
set_option maxRecDepth 100000 in
set_option maxHeartbeats 4000000 in
theorem vc_L_isSet {a0 a1 a2 : Int} {S : St} {Qr : Int → St → Prop} {Qx : String → St → Prop} (h : r32 a0 → r32 a1 → r32 a2 → okL S → (ix (2 * a0) 64 ∧ (ix ((2 * a0) + 1) 64 ∧ (r32 ((S 70 1) + 1) ∧ (r32 (((S 70 1) + 1) - 1) ∧ ((a0 ≠ (((S 70 1) + 1) - 1) → Qr 0 (up (up (up S 71 (2 * a0) a1) 71 ((2 * a0) + 1) a2) 70 1 ((S 70 1) + 1))) ∧ (a0 = (((S 70 1) + 1) - 1) → M_L_asks a0 0 1 (up (up (up S 71 (2 * a0) a1) 71 ((2 * a0) + 1) a2) 70 1 ((S 70 1) + 1)) (fun rv17 S15 => r32 rv17 → okL S15 → ((rv17 ≠ 0 → Qr 0 S15) ∧ (rv17 = 0 → Qr 1 S15))) (fun _ _ => False)))))))) : M_L_isSet a0 a1 a2 S Qr Qx := by
  intro ra0 ra1 ra2
  refine MM_of adL (by decide +kernel) rfl (Lf := fun G => [some (.ref (G.2.2 0)), some (.ref (G.2.2 70)), some (.ref (G.2.2 71)), some (iV a0), some (iV a1), some (iV a2)]) (fun G => by show _ ≤ _; exact Nat.le_of_ble_eq_true rfl) (fun G => rfl) ?_
  intro p l e s m args below meth c G A C hok
  have h := h ra0 ra1 ra2 hok
  replace C : Cx wL cL_isSet 6 RL wsL_isSet (some .boolean) [] p l s m args meth c G A := C
  show J wL 6 rmL_isSet p l e s m args below meth c G A (QQ 1 wL okL G Qr Qx A below args s rmL_isSet.cells rmL_isSet.slots) 0 0 S [some (.ref (G.2.2 0)), some (.ref (G.2.2 70)), some (.ref (G.2.2 71)), some (iV a0), some (iV a1), some (iV a2)] [] 0
  refine J_aload_n (pc := 0) C dL_isSet_0 rfl ?_
  refine J_iconst (pc := 1) C dL_isSet_1 ?_
  refine J_iload_n (pc := 2) C dL_isSet_2 rfl ?_
  refine J_imul (pc := 3) C dL_isSet_3 ?_
  refine J_iload (pc := 4) C dL_isSet_4 rfl ?_
  obtain ⟨o1, h2⟩ := h
  refine J_iast (pc := 6) C dL_isSet_6 68 71 (wL_71 G S) (by decide) o1 (sL_71 G S (2 * a0) a1) ?_
  have hok3 := okL_up (k := 71) (j := (2 * a0)) hok (show rngL 71 a1 from ra1)
  refine J_aload_n (pc := 7) C dL_isSet_7 rfl ?_
  refine J_iconst (pc := 8) C dL_isSet_8 ?_
  refine J_iload_n (pc := 9) C dL_isSet_9 rfl ?_
  refine J_imul (pc := 10) C dL_isSet_10 ?_
  refine J_iconst (pc := 11) C dL_isSet_11 ?_
  refine J_iadd (pc := 12) C dL_isSet_12 ?_
  refine J_iload (pc := 13) C dL_isSet_13 rfl ?_
  obtain ⟨o4, h5⟩ := h2
  refine J_iast (pc := 15) C dL_isSet_15 68 71 (wL_71 G (up S 71 (2 * a0) a1)) (by decide) o4 (sL_71 G (up S 71 (2 * a0) a1) ((2 * a0) + 1) a2) ?_
  have hok6 := okL_up (k := 71) (j := ((2 * a0) + 1)) hok3 (show rngL 71 a2 from ra2)
  refine J_aload_n (pc := 16) C dL_isSet_16 rfl ?_
  refine J_iconst (pc := 17) C dL_isSet_17 ?_
  refine J_dup2 (pc := 18) C dL_isSet_18 rfl rfl ?_
  refine J_iald (pc := 19) C dL_isSet_19 67 70 (wL_70 G (up (up S 71 (2 * a0) a1) 71 ((2 * a0) + 1) a2)) (by decide) (by decide) ?_
  refine J_iconst (pc := 20) C dL_isSet_20 ?_
  refine J_iadd (pc := 21) C dL_isSet_21 ?_
  obtain ⟨o7, h8⟩ := h5
  refine J_iast (pc := 22) C dL_isSet_22 67 70 (wL_70 G (up (up S 71 (2 * a0) a1) 71 ((2 * a0) + 1) a2)) (by decide) (by decide) (sL_70 G (up (up S 71 (2 * a0) a1) 71 ((2 * a0) + 1) a2) 1 ((S 70 1) + 1)) ?_
  have hok9 := okL_up (k := 70) (j := 1) hok6 (show rngL 70 ((S 70 1) + 1) from o7)
  refine J_iload_n (pc := 23) C dL_isSet_23 rfl ?_
  refine J_aload_n (pc := 24) C dL_isSet_24 rfl ?_
  refine J_iconst (pc := 25) C dL_isSet_25 ?_
  refine J_iald (pc := 26) C dL_isSet_26 67 70 (wL_70 G (up (up (up S 71 (2 * a0) a1) 71 ((2 * a0) + 1) a2) 70 1 ((S 70 1) + 1))) (by decide) (by decide) ?_
  refine J_iconst (pc := 27) C dL_isSet_27 ?_
  refine J_isub (pc := 28) C dL_isSet_28 ?_
  obtain ⟨o10, h11⟩ := h8
  obtain ⟨h12, h13⟩ := h11
  refine J_icmp_ne (pc := 29) (tgt := 46) C dL_isSet_29 (by decide) ra0 o10 (fun cb => ?_) (fun cb => ?_)
  · have h12 := h12 cb
    refine J_iconst (pc := 46) C dL_isSet_46 ?_
    exact J_zret (pc := 47) C dL_isSet_47 (by decide) hok9 h12 (by decide) (by decide)
  · have h13 := h13 cb
    refine J_aload_n (pc := 32) C dL_isSet_32 rfl ?_
    refine J_iload_n (pc := 33) C dL_isSet_33 rfl ?_
    refine J_iconst (pc := 34) C dL_isSet_34 ?_
    refine J_iconst (pc := 35) C dL_isSet_35 ?_
    refine J_c1 (pc := 36) C (J_rSX (pc := 36) C (h13 ra0 (by decide) (by decide)) dL_isSet_36 rfl rfl (vx_cwSW 4 C.1.2.2.2.2 gL_isSet_L_asks rfl rfl rfl (by decide +kernel) ⟨Nat.le_of_ble_eq_true rfl, Nat.le_of_ble_eq_true rfl⟩) hok9 (Nat.le_of_ble_eq_true rfl) ⟨Nat.le_of_ble_eq_true rfl, Nat.le_of_ble_eq_true rfl⟩) (fun E9 S9 ok9 q9 => q9.elim) (fun rv17 S15 hr18 hok16 h14 => ?_)
    have h14 := h14 hr18 hok16
    obtain ⟨h19, h20⟩ := h14
    refine J_if_ne (pc := 39) (tgt := 46) C dL_isSet_39 (by decide) hr18 (fun cb => ?_) (fun cb => ?_)
    · have h19 := h19 cb
      refine J_iconst (pc := 46) C dL_isSet_46 ?_
      exact J_zret (pc := 47) C dL_isSet_47 (by decide) hok16 h19 (by decide) (by decide)
    · have h20 := h20 cb
      refine J_iconst (pc := 42) C dL_isSet_42 ?_
      refine J_goto (pc := 43) (tgt := 47) C dL_isSet_43 (by decide) ?_
      exact J_zret (pc := 47) C dL_isSet_47 (by decide) hok16 h20 (by decide) (by decide)
def rmL_joints : Room := { frames := 8, cells := 2, slots := 12, locals := 125 }
theorem mL_joints_k16 : Cond.classLink RL 16 ISE ∈ wsL_joints := by decide +kernel
def M_L_joints (a0 a1 : Int) (S : St) (Qr : Int → St → Prop) (Qx : String → St → Prop) : Prop := r32 a0 → r32 a1 → MM 1 wL okL yL_joints wsL_joints rmL_joints (fun G => [.ref (G.2.2 0), iV a0, iV a1]) S Qr Qx
set_option maxRecDepth 100000 in
set_option maxHeartbeats 4000000 in
theorem vc_L_joints {a0 a1 : Int} {S : St} {Qr : Int → St → Prop} {Qx : String → St → Prop} (h : r32 a0 → r32 a1 → okL S → M_X6_joint a0 a1 S (fun rv4 S2 => r32 rv4 → okC S2 → Qr rv4 (pu S S2)) (fun E9 S7 => okC S7 → ((E9 = ISE ∧ Qr (-2) (pu S S7))))) : M_L_joints a0 a1 S Qr Qx := by
  intro ra0 ra1
  refine MH_of adL (by decide +kernel) rfl (Lf := fun G => [some (.ref (G.2.2 0)), some (iV a0), some (iV a1), none]) (fun G => by show _ ≤ _; exact Nat.le_of_ble_eq_true rfl) (fun G => rfl) ?_
  intro p l e s m args below meth c G A C hok
  have h := h ra0 ra1 hok
  replace C : Cx wL cL_joints 4 RL wsL_joints (some .int) [(0, 6, 7, 16)] p l s m args meth c G A := C
  show J wL 4 rmL_joints p l e s m args below meth c G A (QQ 1 wL okL G Qr Qx A below args s rmL_joints.cells rmL_joints.slots) 0 0 S [some (.ref (G.2.2 0)), some (iV a0), some (iV a1), none] [] 0
  refine J_aload_n (pc := 0) C dL_joints_0 rfl ?_
  refine J_iload_n (pc := 1) C dL_joints_1 rfl ?_
  refine J_iload_n (pc := 2) C dL_joints_2 rfl ?_
  refine J_e1 (pc := 3) C (emb_LC G S) (J_eV (pc := 3) C (emb_LC G S) (h ra0 ra1) dL_joints_3 rfl rfl 0 rfl rfl (cwV 2 C.1.2.2.2.2 gL_joints_X6_joint rfl rfl rfl (by decide +kernel) ⟨Nat.le_of_ble_eq_true rfl, Nat.le_of_ble_eq_true rfl⟩) (okC_L hok) (Nat.le_of_ble_eq_true rfl) ⟨Nat.le_of_ble_eq_true rfl, Nat.le_of_ble_eq_true rfl⟩) (fun E9 S7 hok8 q6 => ?_) (fun rv4 S2 hr5 hok3 h1 => ?_)
  · rcases q6 hok8 with ⟨rfl, h10⟩
    refine J_catch (pc := 3) C (Cx.NC C) [] (0, 6, 7, 16) [] rfl (by decide) (fun z hz => nomatch hz) (by decide) mL_joints_k16 (by decide) (fun qa11 => ?_)
    refine J_astore_n (pc := 7) C dL_joints_7 (by decide) ?_
    refine J_bipush (pc := 8) C dL_joints_8 (by decide) ?_
    exact J_iret (pc := 10) C dL_joints_10 (by decide) (okL_pu hok hok8) h10 (by decide) (by decide)
  · have h1 := h1 hr5 hok3
    exact J_iret (pc := 6) C dL_joints_6 hr5 (okL_pu hok hok3) h1 (by decide) (by decide)
def rmL_undoes : Room := { frames := 7, cells := 1, slots := 6, locals := 104 }
theorem mL_undoes_k16 : Cond.classLink RL 16 ISE ∈ wsL_undoes := by decide +kernel
def M_L_undoes (S : St) (Qr : Int → St → Prop) (Qx : String → St → Prop) : Prop := MM 1 wL okL yL_undoes wsL_undoes rmL_undoes (fun G => [.ref (G.2.2 0)]) S Qr Qx
set_option maxRecDepth 100000 in
set_option maxHeartbeats 4000000 in
theorem vc_L_undoes {S : St} {Qr : Int → St → Prop} {Qx : String → St → Prop} (h : okL S → M_X6_undo S (fun rv4 S2 => r32 rv4 → okC S2 → Qr rv4 (pu S S2)) (fun E9 S7 => okC S7 → ((E9 = ISE ∧ Qr (-2) (pu S S7))))) : M_L_undoes S Qr Qx := by
  refine MH_of adL (by decide +kernel) rfl (Lf := fun G => [some (.ref (G.2.2 0)), none]) (fun G => by show _ ≤ _; exact Nat.le_of_ble_eq_true rfl) (fun G => rfl) ?_
  intro p l e s m args below meth c G A C hok
  have h := h hok
  replace C : Cx wL cL_undoes 2 RL wsL_undoes (some .int) [(0, 4, 5, 16)] p l s m args meth c G A := C
  show J wL 2 rmL_undoes p l e s m args below meth c G A (QQ 1 wL okL G Qr Qx A below args s rmL_undoes.cells rmL_undoes.slots) 0 0 S [some (.ref (G.2.2 0)), none] [] 0
  refine J_aload_n (pc := 0) C dL_undoes_0 rfl ?_
  refine J_e1 (pc := 1) C (emb_LC G S) (J_eV (pc := 1) C (emb_LC G S) h dL_undoes_1 rfl rfl 0 rfl rfl (cwV 0 C.1.2.2.2.2 gL_undoes_X6_undo rfl rfl rfl (by decide +kernel) ⟨Nat.le_of_ble_eq_true rfl, Nat.le_of_ble_eq_true rfl⟩) (okC_L hok) (Nat.le_of_ble_eq_true rfl) ⟨Nat.le_of_ble_eq_true rfl, Nat.le_of_ble_eq_true rfl⟩) (fun E9 S7 hok8 q6 => ?_) (fun rv4 S2 hr5 hok3 h1 => ?_)
  · rcases q6 hok8 with ⟨rfl, h10⟩
    refine J_catch (pc := 1) C (Cx.NC C) [] (0, 4, 5, 16) [] rfl (by decide) (fun z hz => nomatch hz) (by decide) mL_undoes_k16 (by decide) (fun qa11 => ?_)
    refine J_astore_n (pc := 5) C dL_undoes_5 (by decide) ?_
    refine J_bipush (pc := 6) C dL_undoes_6 (by decide) ?_
    exact J_iret (pc := 8) C dL_undoes_8 (by decide) (okL_pu hok hok8) h10 (by decide) (by decide)
  · have h1 := h1 hr5 hok3
    exact J_iret (pc := 4) C dL_undoes_4 hr5 (okL_pu hok hok3) h1 (by decide) (by decide)
