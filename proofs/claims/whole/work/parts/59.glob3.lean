/-! CALLS IN PAIRS: isGlobal, of the reference -/
section GLOB3
variable {S : St} {Qr : Int → St → Prop} {Qx : String → St → Prop}
theorem sp_X7_isWhole (hI : Inv (cs S)) (h1 : Whole (cs S) → Qr 1 S) (h0 : ¬ Whole (cs S) → Qr 0 S) : M_X7_isWhole S Qr Qx := by
  obtain ⟨n0, n10, _⟩ := hI.1
  have e1 : S 0 1 = cs S 1 0 := rfl
  have key : ∀ (d : Nat) (i f : Int), 0 ≤ i → i + d = cs S 1 0 → (f = 0 ∧ ¬ Whole (cs S)) ∨ (f = 1 ∧ ∀ j, 0 ≤ j → j < i → cn (mEnd (cs S) j) (cs S 2 0) = cs S 1 0 - 1) → R_X7_isWhole_4 f i S Qr Qx := by
    intro d
    induction d with
    | zero =>
      intro i f hi0 hi hf
      refine vc_X7_isWhole_4 fun _ _ _ => ⟨fun _ => ⟨by omega, ?_⟩, fun z => by omega⟩
      rcases hf with ⟨a, b⟩ | ⟨a, b⟩
      · rw [a]; exact h0 b
      · rw [a]; exact h1 fun j j0 j1 => b j j0 (by omega)
    | succ d ih =>
      intro i f hi0 hi hf
      refine vc_X7_isWhole_4 fun _ _ _ => ⟨fun z => by omega, fun _ => ⟨fun q => ⟨⟨by omega, by omega⟩, ih (i + 1) 0 (by omega) (by omega) (Or.inl ⟨rfl, ?_⟩)⟩, fun q => sp_nb hI ⟨by omega, by omega⟩ ⟨⟨by omega, by omega⟩, fun q2 => ⟨⟨by omega, by omega⟩, ih (i + 1) 0 (by omega) (by omega) (Or.inl ⟨rfl, fun z => q2 (z i hi0 (by omega))⟩)⟩, fun q2 => ⟨⟨by omega, by omega⟩, ih (i + 1) 1 (by omega) (by omega) (Or.inr ⟨rfl, fun j j0 j1 => ?_⟩)⟩⟩⟩⟩
      · rcases hf with ⟨a, b⟩ | ⟨a, b⟩
        · exact b
        · omega
      · rcases hf with ⟨a, b⟩ | ⟨a, b⟩
        · exact absurd a q
        · by_cases w : j = i
          · rw [w]; exact q2
          · exact b j j0 (by omega)
  exact vc_X7_isWhole fun _ => key (cs S 1 0).toNat 0 1 (by decide) (by omega) (Or.inr ⟨rfl, fun j j0 j1 => by omega⟩)
theorem sp_X7_lacksWithout {a : Int} (hI : Inv (cs S)) (h : ∀ S', fq [19, 20] S S' → Qr (2 * cs S 1 0 - 3 - kc (cs S) a) S') : M_X7_lacksWithout a S Qr Qx := by
  obtain ⟨n0, n10, _⟩ := hI.1
  have hk := kc_rg (cs S) a
  refine vc_X7_lacksWithout fun _ _ => sp_X7_keeps hI fun S1 f1 _ _ _ _ => ?_
  show r32 (2 * cs S 1 0 - 3 - kc (cs S) a) ∧ _
  exact ⟨⟨by omega, by omega⟩, h S1 f1⟩
theorem sp_X7_pairs {V : St} {f : Int} (hV : cs S = V) (hI : Inv V) (hf : f = 0 ∨ (f = 1 ∧ 0 < V 1 0)) (h1 : f = 1 → Hangs V → Qr 1 S) (h0 : (f = 0 ∨ ¬ Hangs V) → Qr 0 S) : R_X7_isGlobal_81 f 0 S Qr Qx := by
  subst hV
  obtain ⟨n0, n10, _⟩ := hI.1
  have e1 : S 0 1 = cs S 1 0 := rfl
  have hnn := mulb n0 n10 n0 n10
  have zero : ∀ i : Int, 0 ≤ i → i ≤ cs S 1 0 * cs S 1 0 → Qr 0 S → R_X7_isGlobal_81 0 i S Qr Qx := fun i i0 i1 hq => by
    refine vc_X7_isGlobal_81 fun _ _ _ => ?_
    rw [e1]
    exact ⟨⟨by omega, by omega⟩, fun _ => ⟨by decide, hq⟩, fun _ => ⟨fun _ => ⟨by decide, hq⟩, fun z => absurd rfl z⟩⟩
  rcases hf with hf | ⟨hf, hn⟩
  · rw [hf]
    exact zero 0 (by decide) hnn.1 (h0 (Or.inl hf))
  · rw [hf]
    have key : ∀ (d : Nat) (i : Int), 0 ≤ i → i + d = cs S 1 0 * cs S 1 0 → (∀ j, 0 ≤ j → j < i → j / cs S 1 0 < j % cs S 1 0 → HG (cs S) (j / cs S 1 0) (j % cs S 1 0)) → R_X7_isGlobal_81 1 i S Qr Qx := by
      intro d
      induction d with
      | zero =>
        intro i hi0 hi hg
        refine vc_X7_isGlobal_81 fun _ _ _ => ?_
        rw [e1]
        refine ⟨⟨by omega, by omega⟩, fun _ => ⟨by decide, h1 hf fun a b a0 ab b1 => ?_⟩, fun z => by omega⟩
        have ed : (b + a * cs S 1 0) / cs S 1 0 = a := by
          rw [Int.add_mul_ediv_right _ _ (by omega), Int.ediv_eq_zero_of_lt (by omega) b1, Int.zero_add]
        have em : (b + a * cs S 1 0) % cs S 1 0 = b := by
          rw [Int.add_mul_emod_self_right, Int.emod_eq_of_lt (by omega) b1]
        have hm : 0 ≤ a * cs S 1 0 := Int.mul_nonneg a0 n0
        have hle : (a + 1) * cs S 1 0 ≤ cs S 1 0 * cs S 1 0 := Int.mul_le_mul_of_nonneg_right (by omega) n0
        rw [Int.add_mul, Int.one_mul] at hle
        have := hg (b + a * cs S 1 0) (by omega) (by omega) (by rw [ed, em]; exact ab)
        rw [ed, em] at this
        exact this
      | succ d ih =>
        intro i hi0 hi hg
        have d0 : 0 ≤ i / cs S 1 0 := Int.ediv_nonneg hi0 n0
        have d1 : i / cs S 1 0 < cs S 1 0 := Int.ediv_lt_of_lt_mul hn (by omega)
        have m0 : 0 ≤ i % cs S 1 0 := Int.emod_nonneg _ (by omega)
        have m1 : i % cs S 1 0 < cs S 1 0 := Int.emod_lt_of_pos _ hn
        have hnx : ((i / cs S 1 0 < i % cs S 1 0) → HG (cs S) (i / cs S 1 0) (i % cs S 1 0)) → r32 (i + 1) ∧ R_X7_isGlobal_81 1 (i + 1) S Qr Qx := fun q => ⟨⟨by omega, by omega⟩, ih (i + 1) (by omega) (by omega) fun j j0 j1 => by
          by_cases w : j = i
          · rw [w]; exact q
          · exact hg j j0 (by omega)⟩
        refine vc_X7_isGlobal_81 fun _ _ _ => ?_
        rw [e1, Int.tdiv_eq_ediv_of_nonneg hi0, Int.tmod_eq_emod_of_nonneg hi0]
        refine ⟨⟨by omega, by omega⟩, fun z => by omega, fun _ => ⟨fun z => absurd z (by decide), fun _ => ⟨hn, hn, ⟨by omega, by omega⟩, ⟨by omega, by omega⟩, fun q => hnx fun z => by omega, fun q => ⟨hn, hn, ?_⟩⟩⟩⟩
        rw [two_val ⟨d0, by omega⟩ ⟨m0, by omega⟩]
        refine sp_X7_doHang hI ⟨d0, d1⟩ (fun r hr hc => ?_) (fun r hr hc => ?_)
        · intro _ _
          exact ⟨fun z => absurd z (by decide), fun _ => hnx fun _ => ⟨r, hr, hc⟩⟩
        · intro _ _
          exact ⟨fun _ => ⟨⟨by omega, by omega⟩, zero (i + 1) (by omega) (by omega) (h0 (Or.inr fun z => HG_no hr hc (z _ _ d0 q m1)))⟩, fun z => absurd rfl z⟩
    have := key (cs S 1 0 * cs S 1 0).toNat 0 (by decide) (by omega) fun j j0 j1 => by omega
    exact this
theorem sp_X7_each {V : St} {f : Int} (hV : cs S = V) (hI : Inv V) (hf : f = 0 ∨ (f = 1 ∧ 0 < V 1 0)) (h1 : f = 1 → Each V → Hangs V → ∀ S', fq [19, 20] S S' → Qr 1 S') (h0 : (f = 0 ∨ ¬ (Each V ∧ Hangs V)) → ∀ S', fq [19, 20] S S' → Qr 0 S') : R_X7_isGlobal_38 f 0 S Qr Qx := by
  obtain ⟨n0, n10, m0, m40, hE⟩ := hI.1
  have key : ∀ (d : Nat) (i g : Int) (S1 : St), 0 ≤ i → i + d = V 2 0 → fq [19, 20] S S1 → ((g = 0 ∧ (f = 0 ∨ ¬ Each V)) ∨ (g = 1 ∧ f = 1 ∧ 0 < V 1 0 ∧ ∀ k, 0 ≤ k → k < i → V 15 k = 0 → kc V k = 2 * V 1 0 - 3)) → R_X7_isGlobal_38 g i S1 Qr Qx := by
    intro d
    induction d with
    | zero =>
      intro i g S1 hi0 hi hfr hg
      have v1 : cs S1 = V := (cs_K hfr).trans hV
      have e6 : S1 0 6 = V 2 0 := by rw [← v1]; rfl
      refine vc_X7_isGlobal_38 fun _ _ _ => ⟨fun _ => ?_, fun z => by omega⟩
      rcases hg with ⟨a, b⟩ | ⟨a, b, b2, c⟩
      · exact sp_X7_pairs v1 hI (Or.inl a) (fun z => by omega) (fun _ => h0 (by rcases b with b | b; exact Or.inl b; exact Or.inr fun z => b z.1) S1 hfr)
      · exact sp_X7_pairs v1 hI (Or.inr ⟨a, b2⟩) (fun _ hh => h1 b (fun k k0 k1 => c k k0 (by omega)) hh S1 hfr) (fun z => h0 (by rcases z with z | z; omega; exact Or.inr fun y => z y.2) S1 hfr)
    | succ d ih =>
      intro i g S1 hi0 hi hfr hg
      have v1 : cs S1 = V := (cs_K hfr).trans hV
      have e6 : S1 0 6 = V 2 0 := by rw [← v1]; rfl
      refine vc_X7_isGlobal_38 fun _ _ _ => ⟨fun z => by omega, fun _ => ⟨fun q => ?_, fun q => ⟨⟨hi0, by omega⟩, fun p => ?_, fun p => ?_⟩⟩⟩
      · rcases hg with ⟨a, b⟩ | ⟨a, b, b2, c⟩
        · exact sp_X7_pairs v1 hI (Or.inl q) (fun z => by omega) (fun _ => h0 (by rcases b with b | b; exact Or.inl b; exact Or.inr fun z => b z.1) S1 hfr)
        · omega
      · have p' : ¬ V 15 i = 0 := by rw [← v1]; exact p
        rcases hg with ⟨a, b⟩ | ⟨a, b, b2, c⟩
        · exact absurd a q
        · exact ⟨⟨by omega, by omega⟩, ih (i + 1) 1 S1 (by omega) (by omega) hfr (Or.inr ⟨rfl, b, b2, fun k k0 k1 k2 => by
            by_cases w : k = i
            · rw [w] at k2; exact absurd k2 p'
            · exact c k k0 (by omega) k2⟩)⟩
      · have p' : V 15 i = 0 := by rw [← v1]; exact p
        rcases hg with ⟨a, b⟩ | ⟨a, b, b2, c⟩
        · exact absurd a q
        · refine sp_X7_lacksWithout (by rw [v1]; exact hI) fun S2 f2 => ?_
          intro _ _
          rw [v1]
          refine ⟨fun w => ⟨⟨by omega, by omega⟩, ih (i + 1) 0 S2 (by omega) (by omega) (fq_tr hfr f2 (fun _ z => z)) (Or.inl ⟨rfl, Or.inr fun z => w ?_⟩)⟩, fun w => ⟨⟨by omega, by omega⟩, ih (i + 1) 1 S2 (by omega) (by omega) (fq_tr hfr f2 (fun _ z => z)) (Or.inr ⟨rfl, b, b2, fun k k0 k1 k2 => ?_⟩)⟩⟩
          · have := z i hi0 (by omega) p'
            omega
          · by_cases y : k = i
            · rw [y]; omega
            · exact c k k0 (by omega) k2
  refine key (V 2 0).toNat 0 f S (by decide) (by omega) fq_rfl ?_
  rcases hf with z | ⟨z, z2⟩
  · exact Or.inl ⟨z, Or.inl z⟩
  · exact Or.inr ⟨z, z, z2, fun k k0 k1 => by omega⟩
theorem pr_isGlobal {V : St} (hI : Inv V) : Pair V [] M_X6_isGlobal M_X7_isGlobal := by
  have n0 := hI.1.1
  have n10 := hI.1.2.1
  have hx : ∃ r : Int, ((Whole V ∨ Glob V) → r = 1) ∧ (¬ (Whole V ∨ Glob V) → r = 0) := by
    by_cases q : Whole V ∨ Glob V
    · exact ⟨1, fun _ => rfl, fun z => absurd q z⟩
    · exact ⟨0, fun z => absurd z q, fun _ => rfl⟩
  obtain ⟨r, r1, r0⟩ := hx
  refine ⟨0, r, V, hI, by decide, by decide, fun S hS Qr Qx h _ => ?_, fun T hT hb Qr Qx h => ?_⟩
  · subst hS
    exact sp_X6_isGlobal hI (fun q S' v => by rw [← r1 q]; exact h rfl S' v) (fun q S' v => by rw [← r0 q]; exact h rfl S' v)
  · subst hT
    have ec : cs (up T 0 0 0) = cs T := cs_h0
    have e1 : up T 0 0 0 0 1 = cs T 1 0 := by rw [up_at, if_neg (by decide)]; rfl
    have hh : ∀ r' S', fq [19, 20] (up T 0 0 0) S' → r' = r → Qr r' S' := fun r' S' f e => end_K rfl hb f h fun _ => e
    refine vc_X7_isGlobal fun _ => sp_X7_isWhole (by rw [ec]; exact hI) (fun hw => ?_) (fun hw => ?_)
    · intro _ _
      rw [ec] at hw
      exact ⟨fun z => absurd z (by decide), fun _ => hh _ _ fq_rfl (r1 (Or.inl hw)).symm⟩
    · intro _ _
      rw [ec] at hw
      have hng : ∀ S', fq [19, 20] (up T 0 0 0) S' → ¬ Glob (cs T) → Qr 0 S' := fun S' f z => hh _ _ f (r0 fun y => by rcases y with y | y; exact hw y; exact z y).symm
      refine ⟨fun _ => ⟨fun q => ?_, fun q => ?_⟩, fun z => absurd rfl z⟩
      · refine sp_X7_each ec hI (Or.inl rfl) (fun z => absurd z (by decide)) (fun _ S' f => hng S' f fun z => ?_)
        have := z.1
        omega
      · refine sp_X7_lacksWithout (by rw [ec]; exact hI) fun S1 f1 => ?_
        intro _ _
        rw [ec]
        have v1 : cs S1 = cs T := (cs_K f1).trans ec
        refine ⟨fun w => sp_X7_each v1 hI (Or.inl rfl) (fun z => absurd z (by decide)) (fun _ S' f => hng S' (fq_tr f1 f (fun _ z => z)) fun z => w ?_), fun w => sp_X7_each v1 hI (Or.inr ⟨rfl, by omega⟩) (fun _ a b S' f => hh _ _ (fq_tr f1 f (fun _ z => z)) (r1 (Or.inr ⟨by omega, by omega, b, a⟩)).symm) (fun z S' f => hng S' (fq_tr f1 f (fun _ z => z)) fun y => ?_)⟩
        · have := z.2.1
          omega
        · rcases z with z | z
          · exact absurd z (by decide)
          · exact z ⟨y.2.2.2, y.2.2.1⟩
end GLOB3
