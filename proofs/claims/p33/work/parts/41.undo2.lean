/-! undo, of both -/
section UNDO2
theorem upc_cc {V : St} {a b : Nat} {v w : Int} (h : a ≠ b) : upc (upc V a v) b w = upc (upc V b w) a v := by
  funext k j
  by_cases h1 : k = a
  · subst h1; simp [upc, h]
  · by_cases h2 : k = b
    · subst h2; simp [upc, h1]
    · simp [upc, h1, h2]
theorem upc_up {V : St} {a b : Nat} {j v w : Int} (h : a ≠ b) : up (upc V a v) b j w = upc (up V b j w) a v := by
  funext k i
  by_cases h1 : k = a
  · subst h1; simp [upc, up, h]
  · by_cases h2 : k = b
    · subst h2; simp [upc, up, h1]
    · simp [upc, up, h1, h2]
variable {S : St} {Qr : Int → St → Prop} {Qx : String → St → Prop} {V : St}
theorem sp_X6_canBeUndone (hS : vw S = V) (hI : Inv V) (hc : 0 < V 3 0) (h1 : canU V → Qr 1 S) (h0 : ¬ canU V → Qr 0 S) : M_X6_canBeUndone (V 3 0 - 1) S Qr Qx := by
  subst hS
  obtain ⟨⟨n0, n10, m0, m40, hE⟩, _, _, _, _, hs0, hs1, _, hs3, _⟩ := hI
  obtain ⟨d1, d2, d3⟩ := hs3 (vw S 3 0 - 1) (by omega) (by omega)
  have e16 := hs1 (vw S 3 0 - 1) (by omega) (by omega)
  have hb := nb_rg (vw S 18 (vw S 3 0 - 1))
  have e1 : S 1 4 = vw S 1 0 := rfl
  have e2 : S 2 5 = vw S 2 0 := rfl
  refine vc_X6_canBeUndone fun _ _ => ⟨⟨by omega, by omega⟩, ⟨by omega, by omega⟩, fun q => h0 fun z => q z.2.1, fun q => ⟨⟨e16.1, by have : S 16 (vw S 3 0 - 1) < vw S 1 0 := e16.2; omega⟩, fun q2 => sp_X5_bars (by omega) (by omega) fun _ _ => ?_, fun q2 => h0 fun z => q2 z.2.2.1⟩⟩
  show R_X6_canBeUndone_49 _ _ (nb (vw S 18 (vw S 3 0 - 1))) 0 S Qr Qx
  have key : ∀ (d : Nat) (i : Int), 0 ≤ i → i + d = nb (vw S 18 (vw S 3 0 - 1)) → (∀ j, 0 ≤ j → j < i → vw S 15 (vw S 17 (vw S 3 0 - 1) + j) = 0) → R_X6_canBeUndone_49 (vw S 3 0 - 1) (S 16 (vw S 3 0 - 1)) (nb (vw S 18 (vw S 3 0 - 1))) i S Qr Qx := by
    intro d
    induction d with
    | zero =>
      intro i hi0 hi hg
      refine vc_X6_canBeUndone_49 fun _ _ _ _ _ => ⟨fun _ => sp_X3_endingAt m0 m40 fun _ _ => ⟨fun q3 => h0 fun z => q3 z.2.2.2.2, fun q3 => h1 ⟨hc, q, q2, fun j j0 j1 => hg j j0 (by omega), q3⟩⟩, fun z => absurd z (by omega)⟩
    | succ d ih =>
      intro i hi0 hi hg
      have ef : S 17 (vw S 3 0 - 1) = vw S 17 (vw S 3 0 - 1) := rfl
      refine vc_X6_canBeUndone_49 fun _ _ _ _ _ => ⟨fun z => absurd z (by omega), fun _ => ⟨⟨by omega, by omega⟩, ⟨by omega, by omega⟩, sp_X3_has m40 (fun _ _ p3 _ _ => ⟨fun _ => ⟨⟨by omega, by omega⟩, ih (i + 1) (by omega) (by omega) fun j j0 j1 => ?_⟩, fun z => absurd z (by decide)⟩) (fun p _ _ => ⟨fun z => absurd rfl z, fun _ => h0 fun z => p ⟨by omega, by omega, z.2.2.2.1 i hi0 (by omega)⟩⟩)⟩⟩
      by_cases w : j = i
      · rw [w]; exact p3
      · exact hg j j0 (by omega)
  exact key (nb (vw S 18 (vw S 3 0 - 1))).toNat 0 (by omega) (by omega) fun j j0 j1 => by omega
theorem sv_X1_dropLast (hV : vw S = V) (hn : 0 < V 1 0) (hn2 : V 1 0 ≤ 10) (h : ∀ S', vw S' = upc V 1 (V 1 0 - 1) → Qr 0 S') : M_X1_dropLast S Qr Qx := by
  subst hV
  exact sp_X1_dropLast hn hn2 (h _ (by rw [vw_up1]; rfl))
theorem sv_X5_dropLast (hV : vw S = V) (hn : 0 < V 3 0) (hn2 : V 3 0 ≤ 10) (h : ∀ S', vw S' = upc V 3 (V 3 0 - 1) → Qr 0 S') : M_X5_dropLast S Qr Qx := by
  subst hV
  exact sp_X5_dropLast hn hn2 (h _ (by rw [vw_up3]; rfl))
theorem sv_bring {a : Int} (hV : vw S = V) (m0 : 0 ≤ V 2 0) (m40 : V 2 0 ≤ 40) (ha : a = -1 ∨ (0 ≤ a ∧ a < 40 ∧ V 11 a ≠ V 12 a)) (h1 : ¬ (a ≠ -1 ∧ ∀ k, 0 ≤ k → k < V 2 0 → ¬ mPair V (V 11 a) (V 12 a) k) → Qr 0 S) (h0 : (a ≠ -1 ∧ ∀ k, 0 ≤ k → k < V 2 0 → ¬ mPair V (V 11 a) (V 12 a) k) → ∀ S', vw S' = up V 15 a 0 → Qr 0 S') : M_X6_bringBack a S Qr Qx := by
  subst hV
  refine vc_X6_bringBack fun _ _ => ⟨fun q => h1 fun z => z.1 q, fun q => ?_⟩
  have ha' := ha.resolve_left q
  refine ⟨⟨ha'.1, ha'.2.1⟩, sp_X3_join m0 m40 (fun k k0 k1 z _ _ => ⟨fun _ => h1 fun y => y.2 k k0 k1 ((mJ_iff ha'.2.2).1 z), fun z => absurd z (by decide)⟩) (fun hno _ _ => ⟨fun z => absurd rfl z, fun _ => h0 ⟨q, fun k k0 k1 z => hno k k0 k1 ((mJ_iff ha'.2.2).2 z)⟩ _ (vw_up (by decide))⟩)⟩
end UNDO2
