/-! CALLS IN PAIRS: undo -/
section UNDO3
theorem u1_facts {V : St} : u1 V 2 0 = V 2 0 ∧ u1 V 1 0 = V 1 0 - 1 ∧ u1 V 3 0 = V 3 0 ∧ u1 V 11 = V 11 ∧ u1 V 12 = V 12 ∧ u1 V 18 = V 18 := by
  refine ⟨?_, rfl, ?_, u1_out (by decide) (by decide), u1_out (by decide) (by decide), u1_out (by decide) (by decide)⟩
  · rw [u1_out (by decide) (by decide)]
  · rw [u1_out (by decide) (by decide)]
theorem pr_undo {V : St} (hI : Inv V) : PairP V [ISE] M_X6_undo (fun c r V' => (canU V ∧ c = 0 ∧ r = V 3 0 - 1 ∧ (bk V → V' = upc (up (u1 V) 15 (V 18 (V 3 0 - 1)) 0) 3 (V 3 0 - 1)) ∧ (¬ bk V → V' = upc (u1 V) 3 (V 3 0 - 1))) ∨ (¬ canU V ∧ c = 1 ∧ V' = V)) := by
  have hI0 := hI
  obtain ⟨⟨n0, n10, m0, m40, hE⟩, _, _, _, _, hs0, hs1, _, hs3, hs4⟩ := hI0
  by_cases hc : canU V
  · have hc0 := hc
    obtain ⟨c1, c2, _, _, _⟩ := hc0
    obtain ⟨d1, d2, d3⟩ := hs3 (V 3 0 - 1) (by omega) (by omega)
    have hbr := nb_rg (V 18 (V 3 0 - 1))
    obtain ⟨f2, f1, f3, f11, f12, f18⟩ := u1_facts (V := V)
    have hsp : V 18 (V 3 0 - 1) = -1 ∨ (0 ≤ V 18 (V 3 0 - 1) ∧ V 18 (V 3 0 - 1) < 40 ∧ u1 V 11 (V 18 (V 3 0 - 1)) ≠ u1 V 12 (V 18 (V 3 0 - 1))) := by
      rcases hs4 (V 3 0 - 1) (by omega) (by omega) with z | z
      · exact Or.inl z
      · rw [f11, f12]
        exact Or.inr ⟨z.1, by omega, (hE _ z.1 z.2.1).2.2.2.2.1⟩
    have hv : ∃ V', Inv V' ∧ (bk V → V' = upc (up (u1 V) 15 (V 18 (V 3 0 - 1)) 0) 3 (V 3 0 - 1)) ∧ (¬ bk V → V' = upc (u1 V) 3 (V 3 0 - 1)) := by
      by_cases hk : bk V
      · refine ⟨upc (up (u1 V) 15 (V 18 (V 3 0 - 1)) 0) 3 (V 3 0 - 1), Inv_U hI hc (fun j z => ?_) ?_ rfl (fun k k1 k3 k15 => ?_), fun _ => rfl, fun z => absurd hk z⟩
        · have z' : (if j = V 18 (V 3 0 - 1) then (0 : Int) else u1 V 15 j) = 0 := z
          by_cases q : j = V 18 (V 3 0 - 1)
          · exact Or.inl ⟨q, hk⟩
          · rw [if_neg q] at z'; exact Or.inr z'
        · exact f1
        · funext j
          show (if k = 3 then _ else up (u1 V) 15 (V 18 (V 3 0 - 1)) 0 k j) = _
          rw [if_neg k3, up_ne _ k15, u1_out k1 k15]
      · refine ⟨upc (u1 V) 3 (V 3 0 - 1), Inv_U hI hc (fun j z => Or.inr z) f1 rfl (fun k k1 k3 k15 => ?_), fun z => absurd z hk, fun _ => rfl⟩
        funext j
        show (if k = 3 then _ else u1 V k j) = _
        rw [if_neg k3, u1_out k1 k15]
    obtain ⟨V', hI', hv1, hv2⟩ := hv
    have e3 : V' 3 0 = V 3 0 - 1 := by
      by_cases hk : bk V
      · rw [hv1 hk]; rfl
      · rw [hv2 hk]; rfl
    refine ⟨0, V 3 0 - 1, V', Or.inl ⟨hc, rfl, rfl, hv1, hv2⟩, hI', by decide, by decide, fun S hS Qr Qx h _ => ?_⟩
    · have es : S 3 3 = V 3 0 := by rw [← hS]; rfl
      refine vc_X6_undo fun _ => ⟨⟨by omega, by omega⟩, fun _ => ?_, fun z => by omega⟩
      rw [es]
      have key : ∀ (d i : Nat) (S1 : St), (i : Int) + d = nb (V 18 (V 3 0 - 1)) → vw S1 = gN V (V 17 (V 3 0 - 1)) i → R_X6_undo_44 (V 3 0 - 1) i S1 Qr Qx := by
        intro d
        induction d with
        | zero =>
          intro i S1 hi hS1
          have e18 : S1 18 (V 3 0 - 1) = V 18 (V 3 0 - 1) := by
            have := congrFun (congrFun hS1 18) (V 3 0 - 1)
            rw [gN_out _ _ (by decide)] at this
            exact this
          refine vc_X6_undo_44 fun _ _ _ => sp_X5_bars (by omega) (by omega) fun _ _ => ?_
          rw [e18]
          show (nb (V 18 (V 3 0 - 1)) ≤ (i : Int) → _) ∧ ((i : Int) < nb (V 18 (V 3 0 - 1)) → _)
          refine ⟨fun _ => ?_, fun z => absurd z (by omega)⟩
          have hu : upc (gN V (V 17 (V 3 0 - 1)) i) 1 (gN V (V 17 (V 3 0 - 1)) i 1 0 - 1) = u1 V := by
            unfold u1
            rw [gN_out _ 1 (by decide), show (nb (V 18 (V 3 0 - 1))).toNat = i by omega]
          have g1 : gN V (V 17 (V 3 0 - 1)) i 1 0 = V 1 0 := by rw [gN_out _ 1 (by decide)]
          refine sv_X1_dropLast hS1 (by rw [g1]; omega) (by rw [g1]; exact n10) fun S2 v2 _ => ⟨⟨by omega, by omega⟩, ?_⟩
          rw [hu] at v2
          have e18' : S2 18 (V 3 0 - 1) = V 18 (V 3 0 - 1) := by
            have := congrFun (congrFun v2 18) (V 3 0 - 1)
            rw [f18] at this
            exact this
          rw [e18']
          refine sv_bring v2 (by rw [f2]; exact m0) (by rw [f2]; exact m40) hsp (fun hz => ?_) (fun hz S3 v3 => ?_)
          · intro _
            have hk : ¬ bk V := fun z => hz ⟨z.1, by rw [f2, f11, f12]; exact z.2⟩
            refine sv_X5_dropLast v2 (by rw [f3]; exact c1) (by rw [f3]; omega) fun S4 v4 _ => ?_
            rw [f3, ← hv2 hk] at v4
            have : S4 3 3 = V 3 0 - 1 := by
              have := congrFun (congrFun v4 3) 0
              rw [e3] at this
              exact this
            rw [this]
            exact h rfl S4 v4
          · intro _
            have hk : bk V := ⟨hz.1, by have := hz.2; rw [f2, f11, f12] at this; exact this⟩
            have g3 : up (u1 V) 15 (V 18 (V 3 0 - 1)) 0 3 0 = V 3 0 := by rw [up_ne _ (by decide)]; exact f3
            refine sv_X5_dropLast v3 (by rw [g3]; exact c1) (by rw [g3]; omega) fun S4 v4 _ => ?_
            rw [g3, ← hv1 hk] at v4
            have : S4 3 3 = V 3 0 - 1 := by
              have := congrFun (congrFun v4 3) 0
              rw [e3] at this
              exact this
            rw [this]
            exact h rfl S4 v4
        | succ d ih =>
          intro i S1 hi hS1
          have e18 : S1 18 (V 3 0 - 1) = V 18 (V 3 0 - 1) := by
            have := congrFun (congrFun hS1 18) (V 3 0 - 1)
            rw [gN_out _ _ (by decide)] at this
            exact this
          have e17 : S1 17 (V 3 0 - 1) = V 17 (V 3 0 - 1) := by
            have := congrFun (congrFun hS1 17) (V 3 0 - 1)
            rw [gN_out _ _ (by decide)] at this
            exact this
          refine vc_X6_undo_44 fun _ _ _ => sp_X5_bars (by omega) (by omega) fun _ _ => ?_
          rw [e18, e17]
          show (nb (V 18 (V 3 0 - 1)) ≤ (i : Int) → _) ∧ ((i : Int) < nb (V 18 (V 3 0 - 1)) → _)
          refine ⟨fun z => absurd z (by omega), fun _ => ⟨⟨by omega, by omega⟩, ⟨by omega, by omega⟩, ⟨by omega, by omega⟩, ?_⟩⟩
          have := ih (i + 1) (up S1 15 (V 17 (V 3 0 - 1) + i) 1) (by omega) (by rw [vw_up (by decide), hS1]; rfl)
          exact this
      exact sp_X6_canBeUndone hS hI c1 (fun _ _ _ => ⟨fun _ => key (nb (V 18 (V 3 0 - 1))).toNat 0 S (by omega) hS, fun z => absurd z (by decide)⟩) (fun z => absurd hc z)
  · refine ⟨1, 0, V, Or.inr (⟨hc, rfl, rfl⟩), hI, by decide, by decide, fun S hS Qr Qx _ hx => ?_⟩
    · have es : S 3 3 = V 3 0 := by rw [← hS]; rfl
      refine vc_X6_undo fun _ => ⟨⟨by omega, by omega⟩, fun q => ?_, fun z => hx (by decide) S hS⟩
      rw [es] at q ⊢
      exact sp_X6_canBeUndone hS hI (by omega) (fun z => absurd z hc) (fun _ _ _ => ⟨fun z => absurd rfl z, fun _ => hx (by decide) S hS⟩)
end UNDO3
