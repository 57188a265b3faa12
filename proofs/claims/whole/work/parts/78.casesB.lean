/-! cases 10 .. 19 of the law's switch -/
section LCASE
set_option maxRecDepth 100000 in
set_option maxHeartbeats 8000000 in
theorem lc_10 (hh : List (Nat × Nat × Nat × Nat)) : Case hh 729 := by
  intro p l e s m args below meth c G A Q b Ls xs i k n σ X hi hk hn hJ kk
  obtain ⟨V, hI, hS, hT, hb, oS, oT⟩ := hJ
  obtain ⟨S, o, T⟩ := σ
  have C := X.1
  have hS : vw S = V := hS
  have hT : cs T = V := hT
  have hb : Tb T := hb
  have oS : okC S := oS
  have oT : okM T := oT
  obtain ⟨c0, r, V', hI', h0, h1, hC, hR⟩ := pr_balance hI (sv xs (i + 1)) (sv xs (i + 2))
  have h1 : c0 ≤ 1 := h1
  have MC := ct_L_balance (o := o) (r := r) (r_sv xs (i + 1)) (r_sv xs (i + 2)) ⟨h0, h1⟩ (hC S hS)
  have MR := hR T hT hb (fun q T1 => cs T1 = V' ∧ Tb T1 ∧ T1 0 0 = c0 ∧ (c0 = 0 → q = r)) (fun _ _ => False) (fun T1 r1 g1 g2 g3 g4 => ⟨g1, g2, g3, g4⟩) (r_sv xs (i + 1)) (r_sv xs (i + 2))
  refine J_aload_n (pc := 729) C dL_law_729 rfl ?_
  refine J_aload_n (pc := 730) C dL_law_730 rfl ?_
  refine J_iload (pc := 731) C dL_law_731 rfl ?_
  refine J_iconst (pc := 733) C dL_law_733 ?_
  refine J_iadd (pc := 734) C dL_law_734 ?_
  refine J_sld (pc := 735) X dL_law_735 ⟨by omega, by omega⟩ ?_
  refine J_aload_n (pc := 736) C dL_law_736 rfl ?_
  refine J_iload (pc := 737) C dL_law_737 rfl ?_
  refine J_iconst (pc := 739) C dL_law_739 ?_
  refine J_iadd (pc := 740) C dL_law_740 ?_
  refine J_sld (pc := 741) X dL_law_741 ⟨by omega, by omega⟩ ?_
  refine J_aload_n (pc := 742) C dL_law_742 rfl ?_
  refine J_e1 (pc := 743) C (emb_LX G S o T) (J_eSX (pc := 743) X MC dL_law_743 rfl rfl (vx_cwSW 4 C.1.2.2.2.2 gL_law_L_balance rfl rfl rfl (by decide +kernel) ⟨Nat.le_of_ble_eq_true rfl, Nat.le_of_ble_eq_true rfl⟩) oS (Nat.le_of_ble_eq_true rfl) ⟨by show k + 2 ≤ 601024; omega, by show n + 12 ≤ 7293034; omega⟩) (fun N τ _ q => q.elim) (fun q1 u hq1 ok1 hu => ?_)
  obtain ⟨S1, o1⟩ := u
  obtain ⟨hk1, hv1, ho1⟩ := hu
  have hv1 : vw S1 = V' := hv1
  have ok1 : okC S1 := ok1
  refine J_widen (k1 := k + 8) (n1 := n + 60) (by show k + 2 ≤ k + 8; omega) (by show n + 12 ≤ n + 60; omega) ?_
  show J wL 7 room_1 p l e s m args below meth c G A Q _ _ (S1, o1, T) _ _ _
  refine J_istore (pc := 746) C dL_law_746 (by decide) ?_
  refine J_aload_n (pc := 748) C dL_law_748 rfl ?_
  refine J_aload_n (pc := 749) C dL_law_749 rfl ?_
  refine J_iload (pc := 750) C dL_law_750 rfl ?_
  refine J_iconst (pc := 752) C dL_law_752 ?_
  refine J_iadd (pc := 753) C dL_law_753 ?_
  refine J_sld (pc := 754) X dL_law_754 ⟨by omega, by omega⟩ ?_
  refine J_aload_n (pc := 755) C dL_law_755 rfl ?_
  refine J_iload (pc := 756) C dL_law_756 rfl ?_
  refine J_iconst (pc := 758) C dL_law_758 ?_
  refine J_iadd (pc := 759) C dL_law_759 ?_
  refine J_sld (pc := 760) X dL_law_760 ⟨by omega, by omega⟩ ?_
  refine J_e1 (pc := 761) C (emb_LM G S1 o1 T) (J_eV (pc := 761) C (emb_LM G S1 o1 T) MR dL_law_761 rfl rfl 0 rfl rfl (cwV 2 C.1.2.2.2.2 gL_law_X7_balance rfl rfl rfl (by decide +kernel) ⟨Nat.le_of_ble_eq_true rfl, Nat.le_of_ble_eq_true rfl⟩) oT (Nat.le_of_ble_eq_true rfl) ⟨by show k + 8 + 0 ≤ 601024; omega, by show n + 60 + 0 ≤ 7293034; omega⟩) (fun N τ _ q => q.elim) (fun q2 T1 hq2 okT1 hu => ?_)
  obtain ⟨g1, g2, g3, g4⟩ := hu
  show J wL 7 room_1 p l e s m args below meth c G A Q _ _ (S1, o1, T1) _ _ _
  refine J_istore (pc := 764) C dL_law_764 (by decide) ?_
  refine J_aload_n (pc := 766) C dL_law_766 rfl ?_
  have MT : M_X7_thrown T1 (fun q T2 => q = T1 0 0 ∧ T2 = T1) (fun _ _ => False) := sp_X7_thrown ⟨rfl, rfl⟩
  refine J_e1 (pc := 767) C (emb_LM G S1 o1 T1) (J_eV (pc := 767) C (emb_LM G S1 o1 T1) MT dL_law_767 rfl rfl 0 rfl rfl (cwV 0 C.1.2.2.2.2 gL_law_X7_thrown rfl rfl rfl (by decide +kernel) ⟨Nat.le_of_ble_eq_true rfl, Nat.le_of_ble_eq_true rfl⟩) okT1 (Nat.le_of_ble_eq_true rfl) ⟨by show k + 8 + 0 + 0 ≤ 601024; omega, by show n + 60 + 0 + 0 ≤ 7293034; omega⟩) (fun N τ _ q => q.elim) (fun q3 T2 hq3 okT2 hu => ?_)
  obtain ⟨hq3v, hT2⟩ := hu
  subst hT2
  have hq3c : q3 = c0 := hq3v.trans g3
  show J wL 7 room_1 p l e s m args below meth c G A Q _ _ (S1, o1, T2) _ _ _
  refine J_iload (pc := 770) C dL_law_770 rfl ?_
  refine J_icmp_eq (pc := 772) (tgt := 777) C dL_law_772 (by decide) hq3 hq1 (fun _ => ?_) (fun cb => absurd (hq3c.trans hk1.symm) cb)
  refine J_iload (pc := 777) C dL_law_777 rfl ?_
  refine J_if_ne (pc := 779) (tgt := 794) C dL_law_779 (by decide) hq1 (fun _ => ?_) (fun cz => ?_)
  · refine J_goto (pc := 794) (tgt := 1809) C dL_law_794 (by decide) ?_
    refine J_widen (k1 := k + 20) (n1 := n + 200) (by show k + 8 + 0 + 0 ≤ k + 20; omega) (by show n + 60 + 0 + 0 ≤ n + 200; omega) ?_
    exact J_sub (L1 := LH G b i) ⟨rfl, ⟨rfl, ⟨rfl, ⟨rfl, ⟨rfl, trivial⟩⟩⟩⟩⟩ (kk (S1, o1, T2) ⟨V', hI', hv1, g1, g2, ok1, okT1⟩)
  · have hc0 : c0 = 0 := hk1.symm.trans cz
    have e1 : o1 = r := ho1 hc0
    have e2 := g4 hc0
    refine J_aload_n (pc := 782) C dL_law_782 rfl ?_
    refine J_iconst (pc := 783) C dL_law_783 ?_
    refine J_oald (pc := 784) C dL_law_784 ?_
    refine J_iload (pc := 785) C dL_law_785 rfl ?_
    refine J_i2l (pc := 787) C dL_law_787 hq2 ?_
    refine J_lcmp_eq (pc := 788) (tgt := 794) C dL_law_788 dL_law_789 (by decide) (by rw [e1, ← e2]; exact r32_64 hq2) (r32_64 hq2) (fun _ => ?_) (fun cb => absurd (e1.trans e2.symm) cb)
    refine J_goto (pc := 794) (tgt := 1809) C dL_law_794 (by decide) ?_
    refine J_widen (k1 := k + 20) (n1 := n + 200) (by show k + 8 + 0 + 0 ≤ k + 20; omega) (by show n + 60 + 0 + 0 ≤ n + 200; omega) ?_
    exact J_sub (L1 := LH G b i) ⟨rfl, ⟨rfl, ⟨rfl, ⟨rfl, ⟨rfl, trivial⟩⟩⟩⟩⟩ (kk (S1, o1, T2) ⟨V', hI', hv1, g1, g2, ok1, okT1⟩)
set_option maxRecDepth 100000 in
set_option maxHeartbeats 8000000 in
theorem lc_11 (hh : List (Nat × Nat × Nat × Nat)) : Case hh 797 := by
  intro p l e s m args below meth c G A Q b Ls xs i k n σ X hi hk hn hJ kk
  obtain ⟨V, hI, hS, hT, hb, oS, oT⟩ := hJ
  obtain ⟨S, o, T⟩ := σ
  have C := X.1
  have hS : vw S = V := hS
  have hT : cs T = V := hT
  have hb : Tb T := hb
  have oS : okC S := oS
  have oT : okM T := oT
  obtain ⟨c0, r, V', hI', h0, h1, hC, hR⟩ := pr_rankAt hI (sv xs (i + 1))
  have h1 : c0 ≤ 1 := h1
  have MC := ct_L_rankAt (o := o) (r := r) (r_sv xs (i + 1)) ⟨h0, h1⟩ (hC S hS)
  have MR := hR T hT hb (fun q T1 => cs T1 = V' ∧ Tb T1 ∧ T1 0 0 = c0 ∧ (c0 = 0 → q = r)) (fun _ _ => False) (fun T1 r1 g1 g2 g3 g4 => ⟨g1, g2, g3, g4⟩) (r_sv xs (i + 1))
  refine J_aload_n (pc := 797) C dL_law_797 rfl ?_
  refine J_aload_n (pc := 798) C dL_law_798 rfl ?_
  refine J_iload (pc := 799) C dL_law_799 rfl ?_
  refine J_iconst (pc := 801) C dL_law_801 ?_
  refine J_iadd (pc := 802) C dL_law_802 ?_
  refine J_sld (pc := 803) X dL_law_803 ⟨by omega, by omega⟩ ?_
  refine J_aload_n (pc := 804) C dL_law_804 rfl ?_
  refine J_e1 (pc := 805) C (emb_LX G S o T) (J_eSX (pc := 805) X MC dL_law_805 rfl rfl (vx_cwSW 3 C.1.2.2.2.2 gL_law_L_rankAt rfl rfl rfl (by decide +kernel) ⟨Nat.le_of_ble_eq_true rfl, Nat.le_of_ble_eq_true rfl⟩) oS (Nat.le_of_ble_eq_true rfl) ⟨by show k + 1 ≤ 601024; omega, by show n + 6 ≤ 7293034; omega⟩) (fun N τ _ q => q.elim) (fun q1 u hq1 ok1 hu => ?_)
  obtain ⟨S1, o1⟩ := u
  obtain ⟨hk1, hv1, ho1⟩ := hu
  have hv1 : vw S1 = V' := hv1
  have ok1 : okC S1 := ok1
  refine J_widen (k1 := k + 8) (n1 := n + 60) (by show k + 1 ≤ k + 8; omega) (by show n + 6 ≤ n + 60; omega) ?_
  show J wL 7 room_1 p l e s m args below meth c G A Q _ _ (S1, o1, T) _ _ _
  refine J_istore (pc := 808) C dL_law_808 (by decide) ?_
  refine J_aload_n (pc := 810) C dL_law_810 rfl ?_
  refine J_aload_n (pc := 811) C dL_law_811 rfl ?_
  refine J_iload (pc := 812) C dL_law_812 rfl ?_
  refine J_iconst (pc := 814) C dL_law_814 ?_
  refine J_iadd (pc := 815) C dL_law_815 ?_
  refine J_sld (pc := 816) X dL_law_816 ⟨by omega, by omega⟩ ?_
  refine J_e1 (pc := 817) C (emb_LM G S1 o1 T) (J_eV (pc := 817) C (emb_LM G S1 o1 T) MR dL_law_817 rfl rfl 0 rfl rfl (cwV 1 C.1.2.2.2.2 gL_law_X7_rankAt rfl rfl rfl (by decide +kernel) ⟨Nat.le_of_ble_eq_true rfl, Nat.le_of_ble_eq_true rfl⟩) oT (Nat.le_of_ble_eq_true rfl) ⟨by show k + 8 + 0 ≤ 601024; omega, by show n + 60 + 0 ≤ 7293034; omega⟩) (fun N τ _ q => q.elim) (fun q2 T1 hq2 okT1 hu => ?_)
  obtain ⟨g1, g2, g3, g4⟩ := hu
  show J wL 7 room_1 p l e s m args below meth c G A Q _ _ (S1, o1, T1) _ _ _
  refine J_istore (pc := 820) C dL_law_820 (by decide) ?_
  refine J_aload_n (pc := 822) C dL_law_822 rfl ?_
  have MT : M_X7_thrown T1 (fun q T2 => q = T1 0 0 ∧ T2 = T1) (fun _ _ => False) := sp_X7_thrown ⟨rfl, rfl⟩
  refine J_e1 (pc := 823) C (emb_LM G S1 o1 T1) (J_eV (pc := 823) C (emb_LM G S1 o1 T1) MT dL_law_823 rfl rfl 0 rfl rfl (cwV 0 C.1.2.2.2.2 gL_law_X7_thrown rfl rfl rfl (by decide +kernel) ⟨Nat.le_of_ble_eq_true rfl, Nat.le_of_ble_eq_true rfl⟩) okT1 (Nat.le_of_ble_eq_true rfl) ⟨by show k + 8 + 0 + 0 ≤ 601024; omega, by show n + 60 + 0 + 0 ≤ 7293034; omega⟩) (fun N τ _ q => q.elim) (fun q3 T2 hq3 okT2 hu => ?_)
  obtain ⟨hq3v, hT2⟩ := hu
  subst hT2
  have hq3c : q3 = c0 := hq3v.trans g3
  show J wL 7 room_1 p l e s m args below meth c G A Q _ _ (S1, o1, T2) _ _ _
  refine J_iload (pc := 826) C dL_law_826 rfl ?_
  refine J_icmp_eq (pc := 828) (tgt := 833) C dL_law_828 (by decide) hq3 hq1 (fun _ => ?_) (fun cb => absurd (hq3c.trans hk1.symm) cb)
  refine J_iload (pc := 833) C dL_law_833 rfl ?_
  refine J_if_ne (pc := 835) (tgt := 850) C dL_law_835 (by decide) hq1 (fun _ => ?_) (fun cz => ?_)
  · refine J_goto (pc := 850) (tgt := 1809) C dL_law_850 (by decide) ?_
    refine J_widen (k1 := k + 20) (n1 := n + 200) (by show k + 8 + 0 + 0 ≤ k + 20; omega) (by show n + 60 + 0 + 0 ≤ n + 200; omega) ?_
    exact J_sub (L1 := LH G b i) ⟨rfl, ⟨rfl, ⟨rfl, ⟨rfl, ⟨rfl, trivial⟩⟩⟩⟩⟩ (kk (S1, o1, T2) ⟨V', hI', hv1, g1, g2, ok1, okT1⟩)
  · have hc0 : c0 = 0 := hk1.symm.trans cz
    have e1 : o1 = r := ho1 hc0
    have e2 := g4 hc0
    refine J_aload_n (pc := 838) C dL_law_838 rfl ?_
    refine J_iconst (pc := 839) C dL_law_839 ?_
    refine J_oald (pc := 840) C dL_law_840 ?_
    refine J_iload (pc := 841) C dL_law_841 rfl ?_
    refine J_i2l (pc := 843) C dL_law_843 hq2 ?_
    refine J_lcmp_eq (pc := 844) (tgt := 850) C dL_law_844 dL_law_845 (by decide) (by rw [e1, ← e2]; exact r32_64 hq2) (r32_64 hq2) (fun _ => ?_) (fun cb => absurd (e1.trans e2.symm) cb)
    refine J_goto (pc := 850) (tgt := 1809) C dL_law_850 (by decide) ?_
    refine J_widen (k1 := k + 20) (n1 := n + 200) (by show k + 8 + 0 + 0 ≤ k + 20; omega) (by show n + 60 + 0 + 0 ≤ n + 200; omega) ?_
    exact J_sub (L1 := LH G b i) ⟨rfl, ⟨rfl, ⟨rfl, ⟨rfl, ⟨rfl, trivial⟩⟩⟩⟩⟩ (kk (S1, o1, T2) ⟨V', hI', hv1, g1, g2, ok1, okT1⟩)
set_option maxRecDepth 100000 in
set_option maxHeartbeats 8000000 in
theorem lc_12 (hh : List (Nat × Nat × Nat × Nat)) : Case hh 853 := by
  intro p l e s m args below meth c G A Q b Ls xs i k n σ X hi hk hn hJ kk
  obtain ⟨V, hI, hS, hT, hb, oS, oT⟩ := hJ
  obtain ⟨S, o, T⟩ := σ
  have C := X.1
  have hS : vw S = V := hS
  have hT : cs T = V := hT
  have hb : Tb T := hb
  have oS : okC S := oS
  have oT : okM T := oT
  obtain ⟨c0, r, V', hI', h0, h1, hC, hR⟩ := pr_kept hI
  have h1 : c0 ≤ 0 := h1
  have hc0 : c0 = 0 := by omega
  subst hc0
  have MC := hC S hS (fun q S1 => q = r ∧ vw S1 = V') (fun _ _ => False) (fun _ S1 h => ⟨rfl, h⟩) (fun z => absurd rfl z)
  have MR := hR T hT hb (fun q T1 => cs T1 = V' ∧ Tb T1 ∧ T1 0 0 = 0 ∧ (0 = 0 → q = r)) (fun _ _ => False) (fun T1 r1 g1 g2 g3 g4 => ⟨g1, g2, g3, g4⟩)
  refine J_aload_n (pc := 853) C dL_law_853 rfl ?_
  refine J_e1 (pc := 854) C (emb_LC G S o T) (J_eV (pc := 854) C (emb_LC G S o T) MC dL_law_854 rfl rfl 0 rfl rfl (cwV 0 C.1.2.2.2.2 gL_law_X6_kept rfl rfl rfl (by decide +kernel) ⟨Nat.le_of_ble_eq_true rfl, Nat.le_of_ble_eq_true rfl⟩) oS (Nat.le_of_ble_eq_true rfl) ⟨by show k + 0 ≤ 601024; omega, by show n + 0 ≤ 7293034; omega⟩) (fun N τ _ q => q.elim) (fun q1 S1 hq1 ok1 hu => ?_)
  obtain ⟨hk1, hv1⟩ := hu
  show J wL 7 room_1 p l e s m args below meth c G A Q _ _ (S1, o, T) _ _ _
  refine J_aload_n (pc := 857) C dL_law_857 rfl ?_
  refine J_e1 (pc := 858) C (emb_LM G S1 o T) (J_eV (pc := 858) C (emb_LM G S1 o T) MR dL_law_858 rfl rfl 0 rfl rfl (cwV 0 C.1.2.2.2.2 gL_law_X7_kept rfl rfl rfl (by decide +kernel) ⟨Nat.le_of_ble_eq_true rfl, Nat.le_of_ble_eq_true rfl⟩) oT (Nat.le_of_ble_eq_true rfl) ⟨by show k + 0 + 0 ≤ 601024; omega, by show n + 0 + 0 ≤ 7293034; omega⟩) (fun N τ _ q => q.elim) (fun q2 T1 hq2 okT1 hu => ?_)
  obtain ⟨g1, g2, g3, g4⟩ := hu
  show J wL 7 room_1 p l e s m args below meth c G A Q _ _ (S1, o, T1) _ _ _
  refine J_icmp_eq (pc := 861) (tgt := 1809) C dL_law_861 (by decide) hq1 hq2 (fun _ => ?_) (fun cb => absurd (hk1.trans (g4 rfl).symm) cb)
  refine J_widen (k1 := k + 20) (n1 := n + 200) (by show k + 0 + 0 ≤ k + 20; omega) (by show n + 0 + 0 ≤ n + 200; omega) ?_
  exact J_sub (L1 := LH G b i) ⟨rfl, ⟨rfl, ⟨rfl, ⟨rfl, ⟨rfl, trivial⟩⟩⟩⟩⟩ (kk (S1, o, T1) ⟨V', hI', hv1, g1, g2, ok1, okT1⟩)
set_option maxRecDepth 100000 in
set_option maxHeartbeats 8000000 in
theorem lc_13 (hh : List (Nat × Nat × Nat × Nat)) : Case hh 866 := by
  intro p l e s m args below meth c G A Q b Ls xs i k n σ X hi hk hn hJ kk
  obtain ⟨V, hI, hS, hT, hb, oS, oT⟩ := hJ
  obtain ⟨S, o, T⟩ := σ
  have C := X.1
  have hS : vw S = V := hS
  have hT : cs T = V := hT
  have hb : Tb T := hb
  have oS : okC S := oS
  have oT : okM T := oT
  obtain ⟨c0, r, V', hI', h0, h1, hC, hR⟩ := pr_isKept hI (sv xs (i + 1))
  have h1 : c0 ≤ 1 := h1
  have MC := ct_L_isKept (o := o) (r := r) (r_sv xs (i + 1)) ⟨h0, h1⟩ (hC S hS)
  have MR := hR T hT hb (fun q T1 => cs T1 = V' ∧ Tb T1 ∧ T1 0 0 = c0 ∧ (c0 = 0 → q = r)) (fun _ _ => False) (fun T1 r1 g1 g2 g3 g4 => ⟨g1, g2, g3, g4⟩) (r_sv xs (i + 1))
  refine J_aload_n (pc := 866) C dL_law_866 rfl ?_
  refine J_aload_n (pc := 867) C dL_law_867 rfl ?_
  refine J_iload (pc := 868) C dL_law_868 rfl ?_
  refine J_iconst (pc := 870) C dL_law_870 ?_
  refine J_iadd (pc := 871) C dL_law_871 ?_
  refine J_sld (pc := 872) X dL_law_872 ⟨by omega, by omega⟩ ?_
  refine J_aload_n (pc := 873) C dL_law_873 rfl ?_
  refine J_e1 (pc := 874) C (emb_LX G S o T) (J_eSX (pc := 874) X MC dL_law_874 rfl rfl (vx_cwSW 3 C.1.2.2.2.2 gL_law_L_isKept rfl rfl rfl (by decide +kernel) ⟨Nat.le_of_ble_eq_true rfl, Nat.le_of_ble_eq_true rfl⟩) oS (Nat.le_of_ble_eq_true rfl) ⟨by show k + 1 ≤ 601024; omega, by show n + 6 ≤ 7293034; omega⟩) (fun N τ _ q => q.elim) (fun q1 u hq1 ok1 hu => ?_)
  obtain ⟨S1, o1⟩ := u
  obtain ⟨hk1, hv1, ho1⟩ := hu
  have hv1 : vw S1 = V' := hv1
  have ok1 : okC S1 := ok1
  refine J_widen (k1 := k + 8) (n1 := n + 60) (by show k + 1 ≤ k + 8; omega) (by show n + 6 ≤ n + 60; omega) ?_
  show J wL 7 room_1 p l e s m args below meth c G A Q _ _ (S1, o1, T) _ _ _
  refine J_istore (pc := 877) C dL_law_877 (by decide) ?_
  refine J_aload_n (pc := 879) C dL_law_879 rfl ?_
  refine J_aload_n (pc := 880) C dL_law_880 rfl ?_
  refine J_iload (pc := 881) C dL_law_881 rfl ?_
  refine J_iconst (pc := 883) C dL_law_883 ?_
  refine J_iadd (pc := 884) C dL_law_884 ?_
  refine J_sld (pc := 885) X dL_law_885 ⟨by omega, by omega⟩ ?_
  refine J_e1 (pc := 886) C (emb_LM G S1 o1 T) (J_eV (pc := 886) C (emb_LM G S1 o1 T) MR dL_law_886 rfl rfl 0 rfl rfl (cwV 1 C.1.2.2.2.2 gL_law_X7_isKept rfl rfl rfl (by decide +kernel) ⟨Nat.le_of_ble_eq_true rfl, Nat.le_of_ble_eq_true rfl⟩) oT (Nat.le_of_ble_eq_true rfl) ⟨by show k + 8 + 0 ≤ 601024; omega, by show n + 60 + 0 ≤ 7293034; omega⟩) (fun N τ _ q => q.elim) (fun q2 T1 hq2 okT1 hu => ?_)
  obtain ⟨g1, g2, g3, g4⟩ := hu
  show J wL 7 room_1 p l e s m args below meth c G A Q _ _ (S1, o1, T1) _ _ _
  refine J_istore (pc := 889) C dL_law_889 (by decide) ?_
  refine J_aload_n (pc := 891) C dL_law_891 rfl ?_
  have MT : M_X7_thrown T1 (fun q T2 => q = T1 0 0 ∧ T2 = T1) (fun _ _ => False) := sp_X7_thrown ⟨rfl, rfl⟩
  refine J_e1 (pc := 892) C (emb_LM G S1 o1 T1) (J_eV (pc := 892) C (emb_LM G S1 o1 T1) MT dL_law_892 rfl rfl 0 rfl rfl (cwV 0 C.1.2.2.2.2 gL_law_X7_thrown rfl rfl rfl (by decide +kernel) ⟨Nat.le_of_ble_eq_true rfl, Nat.le_of_ble_eq_true rfl⟩) okT1 (Nat.le_of_ble_eq_true rfl) ⟨by show k + 8 + 0 + 0 ≤ 601024; omega, by show n + 60 + 0 + 0 ≤ 7293034; omega⟩) (fun N τ _ q => q.elim) (fun q3 T2 hq3 okT2 hu => ?_)
  obtain ⟨hq3v, hT2⟩ := hu
  subst hT2
  have hq3c : q3 = c0 := hq3v.trans g3
  show J wL 7 room_1 p l e s m args below meth c G A Q _ _ (S1, o1, T2) _ _ _
  refine J_iload (pc := 895) C dL_law_895 rfl ?_
  refine J_icmp_eq (pc := 897) (tgt := 902) C dL_law_897 (by decide) hq3 hq1 (fun _ => ?_) (fun cb => absurd (hq3c.trans hk1.symm) cb)
  refine J_iload (pc := 902) C dL_law_902 rfl ?_
  refine J_if_ne (pc := 904) (tgt := 926) C dL_law_904 (by decide) hq1 (fun _ => ?_) (fun cz => ?_)
  · refine J_goto (pc := 926) (tgt := 1809) C dL_law_926 (by decide) ?_
    refine J_widen (k1 := k + 20) (n1 := n + 200) (by show k + 8 + 0 + 0 ≤ k + 20; omega) (by show n + 60 + 0 + 0 ≤ n + 200; omega) ?_
    exact J_sub (L1 := LH G b i) ⟨rfl, ⟨rfl, ⟨rfl, ⟨rfl, ⟨rfl, trivial⟩⟩⟩⟩⟩ (kk (S1, o1, T2) ⟨V', hI', hv1, g1, g2, ok1, okT1⟩)
  · have hc0 : c0 = 0 := hk1.symm.trans cz
    have e1 : o1 = if r = 0 then 0 else 1 := ho1 hc0
    have e2 := g4 hc0
    refine J_aload_n (pc := 907) C dL_law_907 rfl ?_
    refine J_iconst (pc := 908) C dL_law_908 ?_
    refine J_oald (pc := 909) C dL_law_909 ?_
    refine J_iload (pc := 910) C dL_law_910 rfl ?_
    refine J_if_eq (pc := 912) (tgt := 919) C dL_law_912 (by decide) hq2 (fun cb => ?_) (fun cb => ?_)
    · have e3 : o1 = 0 := by rw [e1, if_pos (e2.symm.trans cb)]
      refine J_lconst (pc := 919) C dL_law_919 ?_
      refine J_lcmp_eq (pc := 920) (tgt := 926) C dL_law_920 dL_law_921 (by decide) (by rw [e3]; decide) (by decide) (fun _ => ?_) (fun cb => absurd e3 cb)
      refine J_goto (pc := 926) (tgt := 1809) C dL_law_926 (by decide) ?_
      refine J_widen (k1 := k + 20) (n1 := n + 200) (by show k + 8 + 0 + 0 ≤ k + 20; omega) (by show n + 60 + 0 + 0 ≤ n + 200; omega) ?_
      exact J_sub (L1 := LH G b i) ⟨rfl, ⟨rfl, ⟨rfl, ⟨rfl, ⟨rfl, trivial⟩⟩⟩⟩⟩ (kk (S1, o1, T2) ⟨V', hI', hv1, g1, g2, ok1, okT1⟩)
    · have e3 : o1 = 1 := by rw [e1, if_neg (fun z => cb (e2.trans z))]
      refine J_lconst (pc := 915) C dL_law_915 ?_
      refine J_goto (pc := 916) (tgt := 920) C dL_law_916 (by decide) ?_
      refine J_lcmp_eq (pc := 920) (tgt := 926) C dL_law_920 dL_law_921 (by decide) (by rw [e3]; decide) (by decide) (fun _ => ?_) (fun cb => absurd e3 cb)
      refine J_goto (pc := 926) (tgt := 1809) C dL_law_926 (by decide) ?_
      refine J_widen (k1 := k + 20) (n1 := n + 200) (by show k + 8 + 0 + 0 ≤ k + 20; omega) (by show n + 60 + 0 + 0 ≤ n + 200; omega) ?_
      exact J_sub (L1 := LH G b i) ⟨rfl, ⟨rfl, ⟨rfl, ⟨rfl, ⟨rfl, trivial⟩⟩⟩⟩⟩ (kk (S1, o1, T2) ⟨V', hI', hv1, g1, g2, ok1, okT1⟩)
set_option maxRecDepth 100000 in
set_option maxHeartbeats 8000000 in
theorem lc_14 (hh : List (Nat × Nat × Nat × Nat)) : Case hh 929 := by
  intro p l e s m args below meth c G A Q b Ls xs i k n σ X hi hk hn hJ kk
  obtain ⟨V, hI, hS, hT, hb, oS, oT⟩ := hJ
  obtain ⟨S, o, T⟩ := σ
  have C := X.1
  have hS : vw S = V := hS
  have hT : cs T = V := hT
  have hb : Tb T := hb
  have oS : okC S := oS
  have oT : okM T := oT
  obtain ⟨c0, r, V', hI', h0, h1, hC, hR⟩ := pr_block hI (sv xs (i + 1))
  have h1 : c0 ≤ 1 := h1
  have MC := ct_L_block (o := o) (r := r) (r_sv xs (i + 1)) ⟨h0, h1⟩ (hC S hS)
  have MR := hR T hT hb (fun q T1 => cs T1 = V' ∧ Tb T1 ∧ T1 0 0 = c0 ∧ (c0 = 0 → q = r)) (fun _ _ => False) (fun T1 r1 g1 g2 g3 g4 => ⟨g1, g2, g3, g4⟩) (r_sv xs (i + 1))
  refine J_aload_n (pc := 929) C dL_law_929 rfl ?_
  refine J_aload_n (pc := 930) C dL_law_930 rfl ?_
  refine J_iload (pc := 931) C dL_law_931 rfl ?_
  refine J_iconst (pc := 933) C dL_law_933 ?_
  refine J_iadd (pc := 934) C dL_law_934 ?_
  refine J_sld (pc := 935) X dL_law_935 ⟨by omega, by omega⟩ ?_
  refine J_aload_n (pc := 936) C dL_law_936 rfl ?_
  refine J_e1 (pc := 937) C (emb_LX G S o T) (J_eSX (pc := 937) X MC dL_law_937 rfl rfl (vx_cwSW 3 C.1.2.2.2.2 gL_law_L_block rfl rfl rfl (by decide +kernel) ⟨Nat.le_of_ble_eq_true rfl, Nat.le_of_ble_eq_true rfl⟩) oS (Nat.le_of_ble_eq_true rfl) ⟨by show k + 1 ≤ 601024; omega, by show n + 6 ≤ 7293034; omega⟩) (fun N τ _ q => q.elim) (fun q1 u hq1 ok1 hu => ?_)
  obtain ⟨S1, o1⟩ := u
  obtain ⟨hk1, hv1, ho1⟩ := hu
  have hv1 : vw S1 = V' := hv1
  have ok1 : okC S1 := ok1
  refine J_widen (k1 := k + 8) (n1 := n + 60) (by show k + 1 ≤ k + 8; omega) (by show n + 6 ≤ n + 60; omega) ?_
  show J wL 7 room_1 p l e s m args below meth c G A Q _ _ (S1, o1, T) _ _ _
  refine J_istore (pc := 940) C dL_law_940 (by decide) ?_
  refine J_aload_n (pc := 942) C dL_law_942 rfl ?_
  refine J_aload_n (pc := 943) C dL_law_943 rfl ?_
  refine J_iload (pc := 944) C dL_law_944 rfl ?_
  refine J_iconst (pc := 946) C dL_law_946 ?_
  refine J_iadd (pc := 947) C dL_law_947 ?_
  refine J_sld (pc := 948) X dL_law_948 ⟨by omega, by omega⟩ ?_
  refine J_e1 (pc := 949) C (emb_LM G S1 o1 T) (J_eV (pc := 949) C (emb_LM G S1 o1 T) MR dL_law_949 rfl rfl 0 rfl rfl (cwV 1 C.1.2.2.2.2 gL_law_X7_block rfl rfl rfl (by decide +kernel) ⟨Nat.le_of_ble_eq_true rfl, Nat.le_of_ble_eq_true rfl⟩) oT (Nat.le_of_ble_eq_true rfl) ⟨by show k + 8 + 0 ≤ 601024; omega, by show n + 60 + 0 ≤ 7293034; omega⟩) (fun N τ _ q => q.elim) (fun q2 T1 hq2 okT1 hu => ?_)
  obtain ⟨g1, g2, g3, g4⟩ := hu
  show J wL 7 room_1 p l e s m args below meth c G A Q _ _ (S1, o1, T1) _ _ _
  refine J_istore (pc := 952) C dL_law_952 (by decide) ?_
  refine J_aload_n (pc := 954) C dL_law_954 rfl ?_
  have MT : M_X7_thrown T1 (fun q T2 => q = T1 0 0 ∧ T2 = T1) (fun _ _ => False) := sp_X7_thrown ⟨rfl, rfl⟩
  refine J_e1 (pc := 955) C (emb_LM G S1 o1 T1) (J_eV (pc := 955) C (emb_LM G S1 o1 T1) MT dL_law_955 rfl rfl 0 rfl rfl (cwV 0 C.1.2.2.2.2 gL_law_X7_thrown rfl rfl rfl (by decide +kernel) ⟨Nat.le_of_ble_eq_true rfl, Nat.le_of_ble_eq_true rfl⟩) okT1 (Nat.le_of_ble_eq_true rfl) ⟨by show k + 8 + 0 + 0 ≤ 601024; omega, by show n + 60 + 0 + 0 ≤ 7293034; omega⟩) (fun N τ _ q => q.elim) (fun q3 T2 hq3 okT2 hu => ?_)
  obtain ⟨hq3v, hT2⟩ := hu
  subst hT2
  have hq3c : q3 = c0 := hq3v.trans g3
  show J wL 7 room_1 p l e s m args below meth c G A Q _ _ (S1, o1, T2) _ _ _
  refine J_iload (pc := 958) C dL_law_958 rfl ?_
  refine J_icmp_eq (pc := 960) (tgt := 965) C dL_law_960 (by decide) hq3 hq1 (fun _ => ?_) (fun cb => absurd (hq3c.trans hk1.symm) cb)
  refine J_iload (pc := 965) C dL_law_965 rfl ?_
  refine J_if_ne (pc := 967) (tgt := 982) C dL_law_967 (by decide) hq1 (fun _ => ?_) (fun cz => ?_)
  · refine J_goto (pc := 982) (tgt := 1809) C dL_law_982 (by decide) ?_
    refine J_widen (k1 := k + 20) (n1 := n + 200) (by show k + 8 + 0 + 0 ≤ k + 20; omega) (by show n + 60 + 0 + 0 ≤ n + 200; omega) ?_
    exact J_sub (L1 := LH G b i) ⟨rfl, ⟨rfl, ⟨rfl, ⟨rfl, ⟨rfl, trivial⟩⟩⟩⟩⟩ (kk (S1, o1, T2) ⟨V', hI', hv1, g1, g2, ok1, okT1⟩)
  · have hc0 : c0 = 0 := hk1.symm.trans cz
    have e1 : o1 = r := ho1 hc0
    have e2 := g4 hc0
    refine J_aload_n (pc := 970) C dL_law_970 rfl ?_
    refine J_iconst (pc := 971) C dL_law_971 ?_
    refine J_oald (pc := 972) C dL_law_972 ?_
    refine J_iload (pc := 973) C dL_law_973 rfl ?_
    refine J_i2l (pc := 975) C dL_law_975 hq2 ?_
    refine J_lcmp_eq (pc := 976) (tgt := 982) C dL_law_976 dL_law_977 (by decide) (by rw [e1, ← e2]; exact r32_64 hq2) (r32_64 hq2) (fun _ => ?_) (fun cb => absurd (e1.trans e2.symm) cb)
    refine J_goto (pc := 982) (tgt := 1809) C dL_law_982 (by decide) ?_
    refine J_widen (k1 := k + 20) (n1 := n + 200) (by show k + 8 + 0 + 0 ≤ k + 20; omega) (by show n + 60 + 0 + 0 ≤ n + 200; omega) ?_
    exact J_sub (L1 := LH G b i) ⟨rfl, ⟨rfl, ⟨rfl, ⟨rfl, ⟨rfl, trivial⟩⟩⟩⟩⟩ (kk (S1, o1, T2) ⟨V', hI', hv1, g1, g2, ok1, okT1⟩)
set_option maxRecDepth 100000 in
set_option maxHeartbeats 8000000 in
theorem lc_15 (hh : List (Nat × Nat × Nat × Nat)) : Case hh 985 := by
  intro p l e s m args below meth c G A Q b Ls xs i k n σ X hi hk hn hJ kk
  obtain ⟨V, hI, hS, hT, hb, oS, oT⟩ := hJ
  obtain ⟨S, o, T⟩ := σ
  have C := X.1
  have hS : vw S = V := hS
  have hT : cs T = V := hT
  have hb : Tb T := hb
  have oS : okC S := oS
  have oT : okM T := oT
  obtain ⟨c0, r, V', hI', h0, h1, hC, hR⟩ := pr_lacks hI
  have h1 : c0 ≤ 0 := h1
  have hc0 : c0 = 0 := by omega
  subst hc0
  have MC := hC S hS (fun q S1 => q = r ∧ vw S1 = V') (fun _ _ => False) (fun _ S1 h => ⟨rfl, h⟩) (fun z => absurd rfl z)
  have MR := hR T hT hb (fun q T1 => cs T1 = V' ∧ Tb T1 ∧ T1 0 0 = 0 ∧ (0 = 0 → q = r)) (fun _ _ => False) (fun T1 r1 g1 g2 g3 g4 => ⟨g1, g2, g3, g4⟩)
  refine J_aload_n (pc := 985) C dL_law_985 rfl ?_
  refine J_e1 (pc := 986) C (emb_LC G S o T) (J_eV (pc := 986) C (emb_LC G S o T) MC dL_law_986 rfl rfl 0 rfl rfl (cwV 0 C.1.2.2.2.2 gL_law_X6_lacks rfl rfl rfl (by decide +kernel) ⟨Nat.le_of_ble_eq_true rfl, Nat.le_of_ble_eq_true rfl⟩) oS (Nat.le_of_ble_eq_true rfl) ⟨by show k + 0 ≤ 601024; omega, by show n + 0 ≤ 7293034; omega⟩) (fun N τ _ q => q.elim) (fun q1 S1 hq1 ok1 hu => ?_)
  obtain ⟨hk1, hv1⟩ := hu
  show J wL 7 room_1 p l e s m args below meth c G A Q _ _ (S1, o, T) _ _ _
  refine J_aload_n (pc := 989) C dL_law_989 rfl ?_
  refine J_e1 (pc := 990) C (emb_LM G S1 o T) (J_eV (pc := 990) C (emb_LM G S1 o T) MR dL_law_990 rfl rfl 0 rfl rfl (cwV 0 C.1.2.2.2.2 gL_law_X7_lacks rfl rfl rfl (by decide +kernel) ⟨Nat.le_of_ble_eq_true rfl, Nat.le_of_ble_eq_true rfl⟩) oT (Nat.le_of_ble_eq_true rfl) ⟨by show k + 0 + 0 ≤ 601024; omega, by show n + 0 + 0 ≤ 7293034; omega⟩) (fun N τ _ q => q.elim) (fun q2 T1 hq2 okT1 hu => ?_)
  obtain ⟨g1, g2, g3, g4⟩ := hu
  show J wL 7 room_1 p l e s m args below meth c G A Q _ _ (S1, o, T1) _ _ _
  refine J_icmp_eq (pc := 993) (tgt := 1809) C dL_law_993 (by decide) hq1 hq2 (fun _ => ?_) (fun cb => absurd (hk1.trans (g4 rfl).symm) cb)
  refine J_widen (k1 := k + 20) (n1 := n + 200) (by show k + 0 + 0 ≤ k + 20; omega) (by show n + 0 + 0 ≤ n + 200; omega) ?_
  exact J_sub (L1 := LH G b i) ⟨rfl, ⟨rfl, ⟨rfl, ⟨rfl, ⟨rfl, trivial⟩⟩⟩⟩⟩ (kk (S1, o, T1) ⟨V', hI', hv1, g1, g2, ok1, okT1⟩)
set_option maxRecDepth 100000 in
set_option maxHeartbeats 8000000 in
theorem lc_16 (hh : List (Nat × Nat × Nat × Nat)) : Case hh 998 := by
  intro p l e s m args below meth c G A Q b Ls xs i k n σ X hi hk hn hJ kk
  obtain ⟨V, hI, hS, hT, hb, oS, oT⟩ := hJ
  obtain ⟨S, o, T⟩ := σ
  have C := X.1
  have hS : vw S = V := hS
  have hT : cs T = V := hT
  have hb : Tb T := hb
  have oS : okC S := oS
  have oT : okM T := oT
  obtain ⟨c0, r, V', hI', h0, h1, hC, hR⟩ := pr_isGlobal hI
  have h1 : c0 ≤ 0 := h1
  have hc0 : c0 = 0 := by omega
  subst hc0
  have MC := hC S hS (fun q S1 => q = r ∧ vw S1 = V') (fun _ _ => False) (fun _ S1 h => ⟨rfl, h⟩) (fun z => absurd rfl z)
  have MR := hR T hT hb (fun q T1 => cs T1 = V' ∧ Tb T1 ∧ T1 0 0 = 0 ∧ (0 = 0 → q = r)) (fun _ _ => False) (fun T1 r1 g1 g2 g3 g4 => ⟨g1, g2, g3, g4⟩)
  refine J_aload_n (pc := 998) C dL_law_998 rfl ?_
  refine J_e1 (pc := 999) C (emb_LC G S o T) (J_eV (pc := 999) C (emb_LC G S o T) MC dL_law_999 rfl rfl 0 rfl rfl (cwV 0 C.1.2.2.2.2 gL_law_X6_isGlobal rfl rfl rfl (by decide +kernel) ⟨Nat.le_of_ble_eq_true rfl, Nat.le_of_ble_eq_true rfl⟩) oS (Nat.le_of_ble_eq_true rfl) ⟨by show k + 0 ≤ 601024; omega, by show n + 0 ≤ 7293034; omega⟩) (fun N τ _ q => q.elim) (fun q1 S1 hq1 ok1 hu => ?_)
  obtain ⟨hk1, hv1⟩ := hu
  show J wL 7 room_1 p l e s m args below meth c G A Q _ _ (S1, o, T) _ _ _
  refine J_aload_n (pc := 1002) C dL_law_1002 rfl ?_
  refine J_e1 (pc := 1003) C (emb_LM G S1 o T) (J_eV (pc := 1003) C (emb_LM G S1 o T) MR dL_law_1003 rfl rfl 0 rfl rfl (cwV 0 C.1.2.2.2.2 gL_law_X7_isGlobal rfl rfl rfl (by decide +kernel) ⟨Nat.le_of_ble_eq_true rfl, Nat.le_of_ble_eq_true rfl⟩) oT (Nat.le_of_ble_eq_true rfl) ⟨by show k + 0 + 0 ≤ 601024; omega, by show n + 0 + 0 ≤ 7293034; omega⟩) (fun N τ _ q => q.elim) (fun q2 T1 hq2 okT1 hu => ?_)
  obtain ⟨g1, g2, g3, g4⟩ := hu
  show J wL 7 room_1 p l e s m args below meth c G A Q _ _ (S1, o, T1) _ _ _
  refine J_icmp_eq (pc := 1006) (tgt := 1809) C dL_law_1006 (by decide) hq1 hq2 (fun _ => ?_) (fun cb => absurd (hk1.trans (g4 rfl).symm) cb)
  refine J_widen (k1 := k + 20) (n1 := n + 200) (by show k + 0 + 0 ≤ k + 20; omega) (by show n + 0 + 0 ≤ n + 200; omega) ?_
  exact J_sub (L1 := LH G b i) ⟨rfl, ⟨rfl, ⟨rfl, ⟨rfl, ⟨rfl, trivial⟩⟩⟩⟩⟩ (kk (S1, o, T1) ⟨V', hI', hv1, g1, g2, ok1, okT1⟩)
set_option maxRecDepth 100000 in
set_option maxHeartbeats 8000000 in
theorem lc_17 (hh : List (Nat × Nat × Nat × Nat)) : Case hh 1011 := by
  intro p l e s m args below meth c G A Q b Ls xs i k n σ X hi hk hn hJ kk
  obtain ⟨V, hI, hS, hT, hb, oS, oT⟩ := hJ
  obtain ⟨S, o, T⟩ := σ
  have C := X.1
  have hS : vw S = V := hS
  have hT : cs T = V := hT
  have hb : Tb T := hb
  have oS : okC S := oS
  have oT : okM T := oT
  obtain ⟨c0, r, V', hI', h0, h1, hC, hR⟩ := pr_grow hI (sv xs (i + 1)) (sv xs (i + 2)) (sv xs (i + 3)) (sv xs (i + 4))
  have h1 : c0 ≤ 3 := h1
  have MC := ct_L_grow (o := o) (r := r) (r_sv xs (i + 1)) (r_sv xs (i + 2)) (r_sv xs (i + 3)) (r_sv xs (i + 4)) ⟨h0, h1⟩ (hC S hS)
  have MR := hR T hT hb (fun q T1 => cs T1 = V' ∧ Tb T1 ∧ T1 0 0 = c0 ∧ (c0 = 0 → q = r)) (fun _ _ => False) (fun T1 r1 g1 g2 g3 g4 => ⟨g1, g2, g3, g4⟩) (r_sv xs (i + 1)) (r_sv xs (i + 2)) (r_sv xs (i + 3)) (r_sv xs (i + 4))
  refine J_aload_n (pc := 1011) C dL_law_1011 rfl ?_
  refine J_aload_n (pc := 1012) C dL_law_1012 rfl ?_
  refine J_iload (pc := 1013) C dL_law_1013 rfl ?_
  refine J_iconst (pc := 1015) C dL_law_1015 ?_
  refine J_iadd (pc := 1016) C dL_law_1016 ?_
  refine J_sld (pc := 1017) X dL_law_1017 ⟨by omega, by omega⟩ ?_
  refine J_aload_n (pc := 1018) C dL_law_1018 rfl ?_
  refine J_iload (pc := 1019) C dL_law_1019 rfl ?_
  refine J_iconst (pc := 1021) C dL_law_1021 ?_
  refine J_iadd (pc := 1022) C dL_law_1022 ?_
  refine J_sld (pc := 1023) X dL_law_1023 ⟨by omega, by omega⟩ ?_
  refine J_aload_n (pc := 1024) C dL_law_1024 rfl ?_
  refine J_iload (pc := 1025) C dL_law_1025 rfl ?_
  refine J_iconst (pc := 1027) C dL_law_1027 ?_
  refine J_iadd (pc := 1028) C dL_law_1028 ?_
  refine J_sld (pc := 1029) X dL_law_1029 ⟨by omega, by omega⟩ ?_
  refine J_aload_n (pc := 1030) C dL_law_1030 rfl ?_
  refine J_iload (pc := 1031) C dL_law_1031 rfl ?_
  refine J_iconst (pc := 1033) C dL_law_1033 ?_
  refine J_iadd (pc := 1034) C dL_law_1034 ?_
  refine J_sld (pc := 1035) X dL_law_1035 ⟨by omega, by omega⟩ ?_
  refine J_aload_n (pc := 1036) C dL_law_1036 rfl ?_
  refine J_e1 (pc := 1037) C (emb_LX G S o T) (J_eSX (pc := 1037) X MC dL_law_1037 rfl rfl (vx_cwSW 6 C.1.2.2.2.2 gL_law_L_grow rfl rfl rfl (by decide +kernel) ⟨Nat.le_of_ble_eq_true rfl, Nat.le_of_ble_eq_true rfl⟩) oS (Nat.le_of_ble_eq_true rfl) ⟨by show k + 6 ≤ 601024; omega, by show n + 36 ≤ 7293034; omega⟩) (fun N τ _ q => q.elim) (fun q1 u hq1 ok1 hu => ?_)
  obtain ⟨S1, o1⟩ := u
  obtain ⟨hk1, hv1, ho1⟩ := hu
  have hv1 : vw S1 = V' := hv1
  have ok1 : okC S1 := ok1
  refine J_widen (k1 := k + 8) (n1 := n + 60) (by show k + 6 ≤ k + 8; omega) (by show n + 36 ≤ n + 60; omega) ?_
  show J wL 7 room_1 p l e s m args below meth c G A Q _ _ (S1, o1, T) _ _ _
  refine J_istore (pc := 1040) C dL_law_1040 (by decide) ?_
  refine J_aload_n (pc := 1042) C dL_law_1042 rfl ?_
  refine J_aload_n (pc := 1043) C dL_law_1043 rfl ?_
  refine J_iload (pc := 1044) C dL_law_1044 rfl ?_
  refine J_iconst (pc := 1046) C dL_law_1046 ?_
  refine J_iadd (pc := 1047) C dL_law_1047 ?_
  refine J_sld (pc := 1048) X dL_law_1048 ⟨by omega, by omega⟩ ?_
  refine J_aload_n (pc := 1049) C dL_law_1049 rfl ?_
  refine J_iload (pc := 1050) C dL_law_1050 rfl ?_
  refine J_iconst (pc := 1052) C dL_law_1052 ?_
  refine J_iadd (pc := 1053) C dL_law_1053 ?_
  refine J_sld (pc := 1054) X dL_law_1054 ⟨by omega, by omega⟩ ?_
  refine J_aload_n (pc := 1055) C dL_law_1055 rfl ?_
  refine J_iload (pc := 1056) C dL_law_1056 rfl ?_
  refine J_iconst (pc := 1058) C dL_law_1058 ?_
  refine J_iadd (pc := 1059) C dL_law_1059 ?_
  refine J_sld (pc := 1060) X dL_law_1060 ⟨by omega, by omega⟩ ?_
  refine J_aload_n (pc := 1061) C dL_law_1061 rfl ?_
  refine J_iload (pc := 1062) C dL_law_1062 rfl ?_
  refine J_iconst (pc := 1064) C dL_law_1064 ?_
  refine J_iadd (pc := 1065) C dL_law_1065 ?_
  refine J_sld (pc := 1066) X dL_law_1066 ⟨by omega, by omega⟩ ?_
  refine J_e1 (pc := 1067) C (emb_LM G S1 o1 T) (J_eV (pc := 1067) C (emb_LM G S1 o1 T) MR dL_law_1067 rfl rfl 0 rfl rfl (cwV 4 C.1.2.2.2.2 gL_law_X7_grow rfl rfl rfl (by decide +kernel) ⟨Nat.le_of_ble_eq_true rfl, Nat.le_of_ble_eq_true rfl⟩) oT (Nat.le_of_ble_eq_true rfl) ⟨by show k + 8 + 0 ≤ 601024; omega, by show n + 60 + 0 ≤ 7293034; omega⟩) (fun N τ _ q => q.elim) (fun q2 T1 hq2 okT1 hu => ?_)
  obtain ⟨g1, g2, g3, g4⟩ := hu
  show J wL 7 room_1 p l e s m args below meth c G A Q _ _ (S1, o1, T1) _ _ _
  refine J_istore (pc := 1070) C dL_law_1070 (by decide) ?_
  refine J_aload_n (pc := 1072) C dL_law_1072 rfl ?_
  have MT : M_X7_thrown T1 (fun q T2 => q = T1 0 0 ∧ T2 = T1) (fun _ _ => False) := sp_X7_thrown ⟨rfl, rfl⟩
  refine J_e1 (pc := 1073) C (emb_LM G S1 o1 T1) (J_eV (pc := 1073) C (emb_LM G S1 o1 T1) MT dL_law_1073 rfl rfl 0 rfl rfl (cwV 0 C.1.2.2.2.2 gL_law_X7_thrown rfl rfl rfl (by decide +kernel) ⟨Nat.le_of_ble_eq_true rfl, Nat.le_of_ble_eq_true rfl⟩) okT1 (Nat.le_of_ble_eq_true rfl) ⟨by show k + 8 + 0 + 0 ≤ 601024; omega, by show n + 60 + 0 + 0 ≤ 7293034; omega⟩) (fun N τ _ q => q.elim) (fun q3 T2 hq3 okT2 hu => ?_)
  obtain ⟨hq3v, hT2⟩ := hu
  subst hT2
  have hq3c : q3 = c0 := hq3v.trans g3
  show J wL 7 room_1 p l e s m args below meth c G A Q _ _ (S1, o1, T2) _ _ _
  refine J_iload (pc := 1076) C dL_law_1076 rfl ?_
  refine J_icmp_eq (pc := 1078) (tgt := 1083) C dL_law_1078 (by decide) hq3 hq1 (fun _ => ?_) (fun cb => absurd (hq3c.trans hk1.symm) cb)
  refine J_iload (pc := 1083) C dL_law_1083 rfl ?_
  refine J_if_ne (pc := 1085) (tgt := 1100) C dL_law_1085 (by decide) hq1 (fun _ => ?_) (fun cz => ?_)
  · refine J_goto (pc := 1100) (tgt := 1809) C dL_law_1100 (by decide) ?_
    refine J_widen (k1 := k + 20) (n1 := n + 200) (by show k + 8 + 0 + 0 ≤ k + 20; omega) (by show n + 60 + 0 + 0 ≤ n + 200; omega) ?_
    exact J_sub (L1 := LH G b i) ⟨rfl, ⟨rfl, ⟨rfl, ⟨rfl, ⟨rfl, trivial⟩⟩⟩⟩⟩ (kk (S1, o1, T2) ⟨V', hI', hv1, g1, g2, ok1, okT1⟩)
  · have hc0 : c0 = 0 := hk1.symm.trans cz
    have e1 : o1 = r := ho1 hc0
    have e2 := g4 hc0
    refine J_aload_n (pc := 1088) C dL_law_1088 rfl ?_
    refine J_iconst (pc := 1089) C dL_law_1089 ?_
    refine J_oald (pc := 1090) C dL_law_1090 ?_
    refine J_iload (pc := 1091) C dL_law_1091 rfl ?_
    refine J_i2l (pc := 1093) C dL_law_1093 hq2 ?_
    refine J_lcmp_eq (pc := 1094) (tgt := 1100) C dL_law_1094 dL_law_1095 (by decide) (by rw [e1, ← e2]; exact r32_64 hq2) (r32_64 hq2) (fun _ => ?_) (fun cb => absurd (e1.trans e2.symm) cb)
    refine J_goto (pc := 1100) (tgt := 1809) C dL_law_1100 (by decide) ?_
    refine J_widen (k1 := k + 20) (n1 := n + 200) (by show k + 8 + 0 + 0 ≤ k + 20; omega) (by show n + 60 + 0 + 0 ≤ n + 200; omega) ?_
    exact J_sub (L1 := LH G b i) ⟨rfl, ⟨rfl, ⟨rfl, ⟨rfl, ⟨rfl, trivial⟩⟩⟩⟩⟩ (kk (S1, o1, T2) ⟨V', hI', hv1, g1, g2, ok1, okT1⟩)
set_option maxRecDepth 100000 in
set_option maxHeartbeats 8000000 in
theorem lc_18 (hh : List (Nat × Nat × Nat × Nat)) : Case hh 1103 := by
  intro p l e s m args below meth c G A Q b Ls xs i k n σ X hi hk hn hJ kk
  obtain ⟨V, hI, hS, hT, hb, oS, oT⟩ := hJ
  obtain ⟨S, o, T⟩ := σ
  have C := X.1
  have hS : vw S = V := hS
  have hT : cs T = V := hT
  have hb : Tb T := hb
  have oS : okC S := oS
  have oT : okM T := oT
  obtain ⟨c0, r, V', hI', h0, h1, hC, hR⟩ := pr_split hI (sv xs (i + 1)) (sv xs (i + 2)) (sv xs (i + 3)) (sv xs (i + 4))
  have h1 : c0 ≤ 3 := h1
  have MC := ct_L_split (o := o) (r := r) (r_sv xs (i + 1)) (r_sv xs (i + 2)) (r_sv xs (i + 3)) (r_sv xs (i + 4)) ⟨h0, h1⟩ (hC S hS)
  have MR := hR T hT hb (fun q T1 => cs T1 = V' ∧ Tb T1 ∧ T1 0 0 = c0 ∧ (c0 = 0 → q = r)) (fun _ _ => False) (fun T1 r1 g1 g2 g3 g4 => ⟨g1, g2, g3, g4⟩) (r_sv xs (i + 1)) (r_sv xs (i + 2)) (r_sv xs (i + 3)) (r_sv xs (i + 4))
  refine J_aload_n (pc := 1103) C dL_law_1103 rfl ?_
  refine J_aload_n (pc := 1104) C dL_law_1104 rfl ?_
  refine J_iload (pc := 1105) C dL_law_1105 rfl ?_
  refine J_iconst (pc := 1107) C dL_law_1107 ?_
  refine J_iadd (pc := 1108) C dL_law_1108 ?_
  refine J_sld (pc := 1109) X dL_law_1109 ⟨by omega, by omega⟩ ?_
  refine J_aload_n (pc := 1110) C dL_law_1110 rfl ?_
  refine J_iload (pc := 1111) C dL_law_1111 rfl ?_
  refine J_iconst (pc := 1113) C dL_law_1113 ?_
  refine J_iadd (pc := 1114) C dL_law_1114 ?_
  refine J_sld (pc := 1115) X dL_law_1115 ⟨by omega, by omega⟩ ?_
  refine J_aload_n (pc := 1116) C dL_law_1116 rfl ?_
  refine J_iload (pc := 1117) C dL_law_1117 rfl ?_
  refine J_iconst (pc := 1119) C dL_law_1119 ?_
  refine J_iadd (pc := 1120) C dL_law_1120 ?_
  refine J_sld (pc := 1121) X dL_law_1121 ⟨by omega, by omega⟩ ?_
  refine J_aload_n (pc := 1122) C dL_law_1122 rfl ?_
  refine J_iload (pc := 1123) C dL_law_1123 rfl ?_
  refine J_iconst (pc := 1125) C dL_law_1125 ?_
  refine J_iadd (pc := 1126) C dL_law_1126 ?_
  refine J_sld (pc := 1127) X dL_law_1127 ⟨by omega, by omega⟩ ?_
  refine J_aload_n (pc := 1128) C dL_law_1128 rfl ?_
  refine J_e1 (pc := 1129) C (emb_LX G S o T) (J_eSX (pc := 1129) X MC dL_law_1129 rfl rfl (vx_cwSW 6 C.1.2.2.2.2 gL_law_L_split rfl rfl rfl (by decide +kernel) ⟨Nat.le_of_ble_eq_true rfl, Nat.le_of_ble_eq_true rfl⟩) oS (Nat.le_of_ble_eq_true rfl) ⟨by show k + 5 ≤ 601024; omega, by show n + 30 ≤ 7293034; omega⟩) (fun N τ _ q => q.elim) (fun q1 u hq1 ok1 hu => ?_)
  obtain ⟨S1, o1⟩ := u
  obtain ⟨hk1, hv1, ho1⟩ := hu
  have hv1 : vw S1 = V' := hv1
  have ok1 : okC S1 := ok1
  refine J_widen (k1 := k + 8) (n1 := n + 60) (by show k + 5 ≤ k + 8; omega) (by show n + 30 ≤ n + 60; omega) ?_
  show J wL 7 room_1 p l e s m args below meth c G A Q _ _ (S1, o1, T) _ _ _
  refine J_istore (pc := 1132) C dL_law_1132 (by decide) ?_
  refine J_aload_n (pc := 1134) C dL_law_1134 rfl ?_
  refine J_aload_n (pc := 1135) C dL_law_1135 rfl ?_
  refine J_iload (pc := 1136) C dL_law_1136 rfl ?_
  refine J_iconst (pc := 1138) C dL_law_1138 ?_
  refine J_iadd (pc := 1139) C dL_law_1139 ?_
  refine J_sld (pc := 1140) X dL_law_1140 ⟨by omega, by omega⟩ ?_
  refine J_aload_n (pc := 1141) C dL_law_1141 rfl ?_
  refine J_iload (pc := 1142) C dL_law_1142 rfl ?_
  refine J_iconst (pc := 1144) C dL_law_1144 ?_
  refine J_iadd (pc := 1145) C dL_law_1145 ?_
  refine J_sld (pc := 1146) X dL_law_1146 ⟨by omega, by omega⟩ ?_
  refine J_aload_n (pc := 1147) C dL_law_1147 rfl ?_
  refine J_iload (pc := 1148) C dL_law_1148 rfl ?_
  refine J_iconst (pc := 1150) C dL_law_1150 ?_
  refine J_iadd (pc := 1151) C dL_law_1151 ?_
  refine J_sld (pc := 1152) X dL_law_1152 ⟨by omega, by omega⟩ ?_
  refine J_aload_n (pc := 1153) C dL_law_1153 rfl ?_
  refine J_iload (pc := 1154) C dL_law_1154 rfl ?_
  refine J_iconst (pc := 1156) C dL_law_1156 ?_
  refine J_iadd (pc := 1157) C dL_law_1157 ?_
  refine J_sld (pc := 1158) X dL_law_1158 ⟨by omega, by omega⟩ ?_
  refine J_e1 (pc := 1159) C (emb_LM G S1 o1 T) (J_eV (pc := 1159) C (emb_LM G S1 o1 T) MR dL_law_1159 rfl rfl 0 rfl rfl (cwV 4 C.1.2.2.2.2 gL_law_X7_split rfl rfl rfl (by decide +kernel) ⟨Nat.le_of_ble_eq_true rfl, Nat.le_of_ble_eq_true rfl⟩) oT (Nat.le_of_ble_eq_true rfl) ⟨by show k + 8 + 0 ≤ 601024; omega, by show n + 60 + 0 ≤ 7293034; omega⟩) (fun N τ _ q => q.elim) (fun q2 T1 hq2 okT1 hu => ?_)
  obtain ⟨g1, g2, g3, g4⟩ := hu
  show J wL 7 room_1 p l e s m args below meth c G A Q _ _ (S1, o1, T1) _ _ _
  refine J_istore (pc := 1162) C dL_law_1162 (by decide) ?_
  refine J_aload_n (pc := 1164) C dL_law_1164 rfl ?_
  have MT : M_X7_thrown T1 (fun q T2 => q = T1 0 0 ∧ T2 = T1) (fun _ _ => False) := sp_X7_thrown ⟨rfl, rfl⟩
  refine J_e1 (pc := 1165) C (emb_LM G S1 o1 T1) (J_eV (pc := 1165) C (emb_LM G S1 o1 T1) MT dL_law_1165 rfl rfl 0 rfl rfl (cwV 0 C.1.2.2.2.2 gL_law_X7_thrown rfl rfl rfl (by decide +kernel) ⟨Nat.le_of_ble_eq_true rfl, Nat.le_of_ble_eq_true rfl⟩) okT1 (Nat.le_of_ble_eq_true rfl) ⟨by show k + 8 + 0 + 0 ≤ 601024; omega, by show n + 60 + 0 + 0 ≤ 7293034; omega⟩) (fun N τ _ q => q.elim) (fun q3 T2 hq3 okT2 hu => ?_)
  obtain ⟨hq3v, hT2⟩ := hu
  subst hT2
  have hq3c : q3 = c0 := hq3v.trans g3
  show J wL 7 room_1 p l e s m args below meth c G A Q _ _ (S1, o1, T2) _ _ _
  refine J_iload (pc := 1168) C dL_law_1168 rfl ?_
  refine J_icmp_eq (pc := 1170) (tgt := 1175) C dL_law_1170 (by decide) hq3 hq1 (fun _ => ?_) (fun cb => absurd (hq3c.trans hk1.symm) cb)
  refine J_iload (pc := 1175) C dL_law_1175 rfl ?_
  refine J_if_ne (pc := 1177) (tgt := 1192) C dL_law_1177 (by decide) hq1 (fun _ => ?_) (fun cz => ?_)
  · refine J_goto (pc := 1192) (tgt := 1809) C dL_law_1192 (by decide) ?_
    refine J_widen (k1 := k + 20) (n1 := n + 200) (by show k + 8 + 0 + 0 ≤ k + 20; omega) (by show n + 60 + 0 + 0 ≤ n + 200; omega) ?_
    exact J_sub (L1 := LH G b i) ⟨rfl, ⟨rfl, ⟨rfl, ⟨rfl, ⟨rfl, trivial⟩⟩⟩⟩⟩ (kk (S1, o1, T2) ⟨V', hI', hv1, g1, g2, ok1, okT1⟩)
  · have hc0 : c0 = 0 := hk1.symm.trans cz
    have e1 : o1 = r := ho1 hc0
    have e2 := g4 hc0
    refine J_aload_n (pc := 1180) C dL_law_1180 rfl ?_
    refine J_iconst (pc := 1181) C dL_law_1181 ?_
    refine J_oald (pc := 1182) C dL_law_1182 ?_
    refine J_iload (pc := 1183) C dL_law_1183 rfl ?_
    refine J_i2l (pc := 1185) C dL_law_1185 hq2 ?_
    refine J_lcmp_eq (pc := 1186) (tgt := 1192) C dL_law_1186 dL_law_1187 (by decide) (by rw [e1, ← e2]; exact r32_64 hq2) (r32_64 hq2) (fun _ => ?_) (fun cb => absurd (e1.trans e2.symm) cb)
    refine J_goto (pc := 1192) (tgt := 1809) C dL_law_1192 (by decide) ?_
    refine J_widen (k1 := k + 20) (n1 := n + 200) (by show k + 8 + 0 + 0 ≤ k + 20; omega) (by show n + 60 + 0 + 0 ≤ n + 200; omega) ?_
    exact J_sub (L1 := LH G b i) ⟨rfl, ⟨rfl, ⟨rfl, ⟨rfl, ⟨rfl, trivial⟩⟩⟩⟩⟩ (kk (S1, o1, T2) ⟨V', hI', hv1, g1, g2, ok1, okT1⟩)
set_option maxRecDepth 100000 in
set_option maxHeartbeats 8000000 in
theorem lc_19 (hh : List (Nat × Nat × Nat × Nat)) : Case hh 1195 := by
  intro p l e s m args below meth c G A Q b Ls xs i k n σ X hi hk hn hJ kk
  obtain ⟨V, hI, hS, hT, hb, oS, oT⟩ := hJ
  obtain ⟨S, o, T⟩ := σ
  have C := X.1
  have hS : vw S = V := hS
  have hT : cs T = V := hT
  have hb : Tb T := hb
  have oS : okC S := oS
  have oT : okM T := oT
  obtain ⟨c0, r, V', hI', h0, h1, hC, hR⟩ := pr_undo hI
  have h1 : c0 ≤ 1 := h1
  have MC := ct_L_undo (o := o) (r := r) ⟨h0, h1⟩ (hC S hS)
  have MR := hR T hT hb (fun q T1 => cs T1 = V' ∧ Tb T1 ∧ T1 0 0 = c0 ∧ (c0 = 0 → q = r)) (fun _ _ => False) (fun T1 r1 g1 g2 g3 g4 => ⟨g1, g2, g3, g4⟩)
  refine J_aload_n (pc := 1195) C dL_law_1195 rfl ?_
  refine J_aload_n (pc := 1196) C dL_law_1196 rfl ?_
  refine J_e1 (pc := 1197) C (emb_LX G S o T) (J_eSX (pc := 1197) X MC dL_law_1197 rfl rfl (vx_cwSW 2 C.1.2.2.2.2 gL_law_L_undo rfl rfl rfl (by decide +kernel) ⟨Nat.le_of_ble_eq_true rfl, Nat.le_of_ble_eq_true rfl⟩) oS (Nat.le_of_ble_eq_true rfl) ⟨by show k + 1 ≤ 601024; omega, by show n + 6 ≤ 7293034; omega⟩) (fun N τ _ q => q.elim) (fun q1 u hq1 ok1 hu => ?_)
  obtain ⟨S1, o1⟩ := u
  obtain ⟨hk1, hv1, ho1⟩ := hu
  have hv1 : vw S1 = V' := hv1
  have ok1 : okC S1 := ok1
  refine J_widen (k1 := k + 8) (n1 := n + 60) (by show k + 1 ≤ k + 8; omega) (by show n + 6 ≤ n + 60; omega) ?_
  show J wL 7 room_1 p l e s m args below meth c G A Q _ _ (S1, o1, T) _ _ _
  refine J_istore (pc := 1200) C dL_law_1200 (by decide) ?_
  refine J_aload_n (pc := 1202) C dL_law_1202 rfl ?_
  refine J_e1 (pc := 1203) C (emb_LM G S1 o1 T) (J_eV (pc := 1203) C (emb_LM G S1 o1 T) MR dL_law_1203 rfl rfl 0 rfl rfl (cwV 0 C.1.2.2.2.2 gL_law_X7_undo rfl rfl rfl (by decide +kernel) ⟨Nat.le_of_ble_eq_true rfl, Nat.le_of_ble_eq_true rfl⟩) oT (Nat.le_of_ble_eq_true rfl) ⟨by show k + 8 + 0 ≤ 601024; omega, by show n + 60 + 0 ≤ 7293034; omega⟩) (fun N τ _ q => q.elim) (fun q2 T1 hq2 okT1 hu => ?_)
  obtain ⟨g1, g2, g3, g4⟩ := hu
  show J wL 7 room_1 p l e s m args below meth c G A Q _ _ (S1, o1, T1) _ _ _
  refine J_istore (pc := 1206) C dL_law_1206 (by decide) ?_
  refine J_aload_n (pc := 1208) C dL_law_1208 rfl ?_
  have MT : M_X7_thrown T1 (fun q T2 => q = T1 0 0 ∧ T2 = T1) (fun _ _ => False) := sp_X7_thrown ⟨rfl, rfl⟩
  refine J_e1 (pc := 1209) C (emb_LM G S1 o1 T1) (J_eV (pc := 1209) C (emb_LM G S1 o1 T1) MT dL_law_1209 rfl rfl 0 rfl rfl (cwV 0 C.1.2.2.2.2 gL_law_X7_thrown rfl rfl rfl (by decide +kernel) ⟨Nat.le_of_ble_eq_true rfl, Nat.le_of_ble_eq_true rfl⟩) okT1 (Nat.le_of_ble_eq_true rfl) ⟨by show k + 8 + 0 + 0 ≤ 601024; omega, by show n + 60 + 0 + 0 ≤ 7293034; omega⟩) (fun N τ _ q => q.elim) (fun q3 T2 hq3 okT2 hu => ?_)
  obtain ⟨hq3v, hT2⟩ := hu
  subst hT2
  have hq3c : q3 = c0 := hq3v.trans g3
  show J wL 7 room_1 p l e s m args below meth c G A Q _ _ (S1, o1, T2) _ _ _
  refine J_iload (pc := 1212) C dL_law_1212 rfl ?_
  refine J_icmp_eq (pc := 1214) (tgt := 1219) C dL_law_1214 (by decide) hq3 hq1 (fun _ => ?_) (fun cb => absurd (hq3c.trans hk1.symm) cb)
  refine J_iload (pc := 1219) C dL_law_1219 rfl ?_
  refine J_if_ne (pc := 1221) (tgt := 1236) C dL_law_1221 (by decide) hq1 (fun _ => ?_) (fun cz => ?_)
  · refine J_goto (pc := 1236) (tgt := 1809) C dL_law_1236 (by decide) ?_
    refine J_widen (k1 := k + 20) (n1 := n + 200) (by show k + 8 + 0 + 0 ≤ k + 20; omega) (by show n + 60 + 0 + 0 ≤ n + 200; omega) ?_
    exact J_sub (L1 := LH G b i) ⟨rfl, ⟨rfl, ⟨rfl, ⟨rfl, ⟨rfl, trivial⟩⟩⟩⟩⟩ (kk (S1, o1, T2) ⟨V', hI', hv1, g1, g2, ok1, okT1⟩)
  · have hc0 : c0 = 0 := hk1.symm.trans cz
    have e1 : o1 = r := ho1 hc0
    have e2 := g4 hc0
    refine J_aload_n (pc := 1224) C dL_law_1224 rfl ?_
    refine J_iconst (pc := 1225) C dL_law_1225 ?_
    refine J_oald (pc := 1226) C dL_law_1226 ?_
    refine J_iload (pc := 1227) C dL_law_1227 rfl ?_
    refine J_i2l (pc := 1229) C dL_law_1229 hq2 ?_
    refine J_lcmp_eq (pc := 1230) (tgt := 1236) C dL_law_1230 dL_law_1231 (by decide) (by rw [e1, ← e2]; exact r32_64 hq2) (r32_64 hq2) (fun _ => ?_) (fun cb => absurd (e1.trans e2.symm) cb)
    refine J_goto (pc := 1236) (tgt := 1809) C dL_law_1236 (by decide) ?_
    refine J_widen (k1 := k + 20) (n1 := n + 200) (by show k + 8 + 0 + 0 ≤ k + 20; omega) (by show n + 60 + 0 + 0 ≤ n + 200; omega) ?_
    exact J_sub (L1 := LH G b i) ⟨rfl, ⟨rfl, ⟨rfl, ⟨rfl, ⟨rfl, trivial⟩⟩⟩⟩⟩ (kk (S1, o1, T2) ⟨V', hI', hv1, g1, g2, ok1, okT1⟩)
end LCASE
