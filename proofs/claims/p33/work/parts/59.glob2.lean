/-! CALLS IN PAIRS: isGlobal -/
section GLOB2
theorem sparse_kp {V : St} {n a : Int} (m40 : V 2 0 ≤ 40) : ∀ (d : Nat) (i : Int), i = d → i ≤ V 2 0 → sparse V (kp V n a i) n := by
  intro d
  induction d with
  | zero => intro i hi _; rw [hi]; exact sparse_0 fun k => rfl
  | succ d ih =>
    intro i hi hm
    have h := ih (i - 1) (by omega) (by omega)
    by_cases q : (mKept V a (i - 1) && !(firmB V (kp V n a (i - 1)) n (V 11 (i - 1)) (V 12 (i - 1)))) = true
    · intro U hU h2
      have hs := sp_yes (n := n) (a := a) (i := i - 1) (by omega) (by omega) q U
      rw [Int.sub_add_cancel] at hs
      rw [hs]
      have h3 := h U hU h2
      have hnf : ¬ firmP V (kp V n a (i - 1)) n (V 11 (i - 1)) (V 12 (i - 1)) := fun z => by
        rw [firm_iff.2 z] at q
        rw [Bool.and_eq_true] at q
        exact absurd q.2 (by decide)
      cases hx : tb U (V 11 (i - 1)) <;> cases hz : tb U (V 12 (i - 1))
      · show sp V _ U + 0 ≤ _; omega
      · show sp V _ U + 0 ≤ _; omega
      · show sp V _ U + 0 ≤ _; omega
      · have : sp V (kp V n a (i - 1)) U ≠ 2 * pc U - 3 := fun z => hnf ⟨U, hU, hx, hz, z⟩
        show sp V _ U + 1 ≤ _; omega
    · have e := kp_no (n := n) (a := a) (i := i - 1) (by omega) (Bool.eq_false_iff.2 q)
      rw [Int.sub_add_cancel] at e
      rw [e]; exact h
def Whole (V : St) : Prop := ∀ j, 0 ≤ j → j < V 1 0 → cn (mEnd V j) (V 2 0) = V 1 0 - 1
def HG (V : St) (a b : Int) : Prop := ∃ r : Nat, zand ((wo (V 1 0) a b : Nat) : Int) (-((wo (V 1 0) a b : Nat) : Int)) = (r : Int) ∧ Conn V (V 2 0) (wo (V 1 0) a b) r
theorem HG_no {V : St} {a b : Int} {r : Nat} (h : zand ((wo (V 1 0) a b : Nat) : Int) (-((wo (V 1 0) a b : Nat) : Int)) = (r : Int)) (hn : ¬ Conn V (V 2 0) (wo (V 1 0) a b) r) : ¬ HG V a b := fun ⟨r', h1, h2⟩ => by
  rw [h] at h1
  have : r = r' := by omega
  rw [this] at hn
  exact hn h2
def Hangs (V : St) : Prop := ∀ a b, 0 ≤ a → a < b → b < V 1 0 → HG V a b
def Each (V : St) : Prop := ∀ k, 0 ≤ k → k < V 2 0 → V 15 k = 0 → kc V k = 2 * V 1 0 - 3
def Glob (V : St) : Prop := 4 ≤ V 1 0 ∧ kc V (-1) = 2 * V 1 0 - 3 ∧ Hangs V ∧ Each V
theorem each_iff {V : St} (hI : Inv V) (h4 : 4 ≤ V 1 0) (hk : kc V (-1) = 2 * V 1 0 - 3) : (∀ k, 0 ≤ k → k < V 2 0 → kp V (V 1 0) (-1) (V 2 0) k = true → 2 * V 1 0 - 3 ≤ kc V k) ↔ Each V := by
  obtain ⟨n0, n10, m0, m40, hE⟩ := hI.1
  have hle : ∀ a, kc V a ≤ 2 * V 1 0 - 3 := fun a => kc_le hI.1 (by omega) (sparse_kp m40 (V 2 0).toNat (V 2 0) (by omega) (Int.le_refl _))
  constructor
  · intro h k k0 k1 k2
    cases hx : kp V (V 1 0) (-1) (V 2 0) k
    · have : kc V k = kc V (-1) := by
        unfold kc
        rw [kp_skip k0 k1 hx]
      omega
    · have := h k k0 k1 hx
      have := hle k
      omega
  · intro h k k0 k1 k2
    obtain ⟨_, _, z⟩ := kp_true (V 2 0).toNat (V 2 0) (by omega) k k2
    have := h k k0 k1 (of_decide_eq_true z).1
    omega
variable {S : St} {Qr : Int → St → Prop} {Qx : String → St → Prop}
theorem sp_X6_isComplete (hI : Inv (vw S)) (h1 : Whole (vw S) → Qr 1 S) (h0 : ¬ Whole (vw S) → Qr 0 S) : M_X6_isComplete S Qr Qx := by
  have hw := whole_iff hI
  obtain ⟨n0, n10, m0, m40, hE⟩ := hI.1
  have e1 : S 1 4 = vw S 1 0 := rfl
  have hb : -10 ≤ vw S 1 0 * (vw S 1 0 - 1) ∧ vw S 1 0 * (vw S 1 0 - 1) ≤ 100 := by
    have := mulb n0 n10 n0 n10
    rw [Int.mul_sub, Int.mul_one]; omega
  have hnn : 0 ≤ vw S 1 0 * (vw S 1 0 - 1) := by
    by_cases q : vw S 1 0 = 0
    · rw [q]; decide
    · exact Int.mul_nonneg n0 (by omega)
  refine vc_X6_isComplete fun _ => sp_X3_present m0 m40 fun _ _ => ?_
  rw [e1, Int.tdiv_eq_ediv_of_nonneg hnn]
  exact ⟨⟨by omega, by omega⟩, ⟨by omega, by omega⟩, fun q => h0 fun z => q (hw.1 z), fun q => h1 (hw.2 q)⟩
theorem sp_X6_hangs (hI : Inv (vw S)) (h1 : Hangs (vw S) → Qr 1 S) (h0 : ¬ Hangs (vw S) → Qr 0 S) : M_X6_hangsWithoutAnyTwo S Qr Qx := by
  obtain ⟨n0, n10, m0, m40, hE⟩ := hI.1
  have e1 : S 1 4 = vw S 1 0 := rfl
  have inner : ∀ (d : Nat) (a b : Int), 0 ≤ a → a < b → b + d = vw S 1 0 → (∀ x y, 0 ≤ x → x < y → y < vw S 1 0 → (x < a ∨ (x = a ∧ y < b)) → HG (vw S) x y) → ((∀ x y, 0 ≤ x → x < y → y < vw S 1 0 → x < a + 1 → HG (vw S) x y) → R_X6_hangsWithoutAnyTwo_2 (a + 1) S Qr Qx) → R_X6_hangsWithoutAnyTwo_17 a b S Qr Qx := by
    intro d
    induction d with
    | zero =>
      intro a b ha hab hb hg hk
      exact vc_X6_hangsWithoutAnyTwo_17 fun _ _ _ => ⟨fun _ => ⟨⟨by omega, by omega⟩, hk fun x y x0 xy y1 xa => hg x y x0 xy y1 (by omega)⟩, fun z => by omega⟩
    | succ d ih =>
      intro a b ha hab hb hg hk
      have hwo := wo_cls (n := vw S 1 0) (a := a) (b := b) n0 n10 ⟨ha, by omega⟩ ⟨by omega, by omega⟩
      have hal := all_val n0 n10
      have hall := all_lt n10
      refine vc_X6_hangsWithoutAnyTwo_17 fun _ _ _ => ⟨fun z => by omega, fun _ => vc_X1_all fun _ => ⟨?_, fun _ _ => sp_X6_bit fun _ _ => sp_X6_bit fun _ _ => ?_⟩⟩
      · rw [e1, hal]; exact ⟨by omega, by omega⟩
      · rw [e1, hwo]
        refine sp_X6_hangsTogether hI (wo_lt n10) (wo_pc n0 n10 ⟨ha, by omega⟩) (fun r hr hc => ?_) (fun r hr hc => ?_)
        · intro _ _
          refine ⟨fun _ => ⟨⟨by omega, by omega⟩, ih a (b + 1) ha (by omega) (by omega) (fun x y x0 xy y1 hx => ?_) hk⟩, fun z => absurd z (by decide)⟩
          by_cases w : x = a ∧ y = b
          · rw [w.1, w.2]; exact ⟨r, hr, hc⟩
          · exact hg x y x0 xy y1 (by omega)
        · intro _ _
          exact ⟨fun z => absurd rfl z, fun _ => h0 fun z => HG_no hr hc (z a b ha hab (by omega))⟩
  have outer : ∀ (d : Nat) (a : Int), 0 ≤ a → a + d = vw S 1 0 → (∀ x y, 0 ≤ x → x < y → y < vw S 1 0 → x < a → HG (vw S) x y) → R_X6_hangsWithoutAnyTwo_2 a S Qr Qx := by
    intro d
    induction d with
    | zero =>
      intro a ha hd hg
      exact vc_X6_hangsWithoutAnyTwo_2 fun _ _ => ⟨fun _ => h1 fun x y x0 xy y1 => hg x y x0 xy y1 (by omega), fun z => by omega⟩
    | succ d ih =>
      intro a ha hd hg
      exact vc_X6_hangsWithoutAnyTwo_2 fun _ _ => ⟨fun z => by omega, fun _ => ⟨⟨by omega, by omega⟩, inner (vw S 1 0 - (a + 1)).toNat a (a + 1) ha (by omega) (by omega) (fun x y x0 xy y1 hx => hg x y x0 xy y1 (by omega)) fun hh => ih (a + 1) (by omega) (by omega) hh⟩⟩
  exact vc_X6_hangsWithoutAnyTwo fun _ => outer (vw S 1 0).toNat 0 (by decide) (by omega) fun x y x0 _ _ xa => by omega
theorem sp_X6_eachOf {V : St} {KS : Nat} (hV : vw S = V) (hI : Inv V) (hK : KS < 2 ^ 40) (ht : ∀ k, 0 ≤ k → k < 40 → tb KS k = kp V (V 1 0) (-1) (V 2 0) k) (h1 : (∀ k, 0 ≤ k → k < V 2 0 → kp V (V 1 0) (-1) (V 2 0) k = true → 2 * V 1 0 - 3 ≤ kc V k) → ∀ S', vw S' = V → Qr 1 S') (h0 : ¬ (∀ k, 0 ≤ k → k < V 2 0 → kp V (V 1 0) (-1) (V 2 0) k = true → 2 * V 1 0 - 3 ≤ kc V k) → ∀ S', vw S' = V → Qr 0 S') : M_X6_isRigidWithoutEachOf (KS : Int) S Qr Qx := by
  obtain ⟨n0, n10, m0, m40, hE⟩ := hI.1
  have key : ∀ (d : Nat) (i : Int) (S1 : St), 0 ≤ i → i + d = V 2 0 → vw S1 = V → (∀ k, 0 ≤ k → k < i → kp V (V 1 0) (-1) (V 2 0) k = true → 2 * V 1 0 - 3 ≤ kc V k) → R_X6_isRigidWithoutEachOf_2 (KS : Int) i S1 Qr Qx := by
    intro d
    induction d with
    | zero =>
      intro i S1 hi0 hi hV1 hg
      have e2 : S1 2 5 = V 2 0 := by rw [← hV1]; rfl
      exact vc_X6_isRigidWithoutEachOf_2 fun _ _ _ => ⟨fun _ => h1 (fun k k0 k1 => hg k k0 (by omega)) S1 hV1, fun z => by omega⟩
    | succ d ih =>
      intro i S1 hi0 hi hV1 hg
      have e2 : S1 2 5 = V 2 0 := by rw [← hV1]; rfl
      refine vc_X6_isRigidWithoutEachOf_2 fun _ _ _ => ⟨fun z => by omega, fun _ => sp_X6_hasBit (by omega) hi0 (by omega) fun _ _ => ?_⟩
      rw [ht i hi0 (by omega)]
      have hstep : (kp V (V 1 0) (-1) (V 2 0) i = true → 2 * V 1 0 - 3 ≤ kc V i) → ∀ S2, vw S2 = V → r32 (i + 1) ∧ R_X6_isRigidWithoutEachOf_2 (KS : Int) (i + 1) S2 Qr Qx := fun q S2 v2 => ⟨⟨by omega, by omega⟩, ih (i + 1) S2 (by omega) (by omega) v2 fun k k0 k1 => by
        by_cases w : k = i
        · rw [w]; exact q
        · exact hg k k0 (by omega)⟩
      by_cases t : kp V (V 1 0) (-1) (V 2 0) i = true
      · rw [if_pos t]
        refine ⟨fun z => absurd z (by decide), fun _ => sp_X6_keepWithout (by rw [hV1]; exact hI) fun S2 _ f2 _ _ _ _ _ => ?_⟩
        intro _ _
        have v2 : vw S2 = V := (vw_K f2).trans hV1
        have e1 : S2 1 4 = V 1 0 := by rw [← v2]; rfl
        refine vc_X6_rigidCount fun _ => ?_
        rw [e1, hV1]
        refine ⟨⟨by omega, by omega⟩, fun _ _ => ⟨fun q => hstep (fun _ => q) S2 v2, fun q => h0 (fun z => ?_) S2 v2⟩⟩
        have := z i hi0 (by omega) t
        have q' : kc V i < 2 * V 1 0 - 3 := q
        omega
      · rw [if_neg t]
        exact ⟨fun _ => hstep (fun z => absurd z t) S1 hV1, fun z => absurd rfl z⟩
  exact vc_X6_isRigidWithoutEachOf fun _ _ => key (V 2 0).toNat 0 S (by decide) (by omega) hV fun k k0 k1 => by omega
theorem sp_X6_isGlobal (hI : Inv (vw S)) (h1 : (Whole (vw S) ∨ Glob (vw S)) → ∀ S', vw S' = vw S → Qr 1 S') (h0 : ¬ (Whole (vw S) ∨ Glob (vw S)) → ∀ S', vw S' = vw S → Qr 0 S') : M_X6_isGlobal S Qr Qx := by
  have n0 := hI.1.1
  have n10 := hI.1.2.1
  have e1 : S 1 4 = vw S 1 0 := rfl
  refine vc_X6_isGlobal fun _ => sp_X6_isComplete hI (fun hw _ _ => ⟨fun z => absurd z (by decide), fun _ => h1 (Or.inl hw) S rfl⟩) (fun hw _ _ => ⟨fun _ => ⟨fun q => h0 (fun z => ?_) S rfl, fun q => ?_⟩, fun z => absurd rfl z⟩)
  · rcases z with z | z
    · exact hw z
    · have := z.1; omega
  · refine sp_X6_keepWithout hI fun S1 KS f1 _ _ h67 hK ht => ?_
    intro _ _
    have v1 := vw_K f1
    have e2 : S1 1 4 = vw S 1 0 := by rw [← v1]; rfl
    refine vc_X6_rigidCount fun _ => ?_
    rw [e2]
    have hng : ∀ S', vw S' = vw S → ¬ Glob (vw S) → Qr 0 S' := fun S' v z => h0 (fun y => by rcases y with y | y; exact hw y; exact z y) S' v
    refine ⟨⟨by omega, by omega⟩, fun _ _ => ⟨fun q2 => ?_, fun q2 => hng S1 v1 fun z => q2 z.2.1⟩⟩
    refine sp_X6_hangs (by rw [v1]; exact hI) (fun hh => ?_) (fun hh => ?_)
    · intro _ _
      rw [v1] at hh
      have q2' : kc (vw S) (-1) = 2 * vw S 1 0 - 3 := q2
      have hei := each_iff hI (by omega) q2'
      refine ⟨fun z => absurd z (by decide), fun _ => ?_⟩
      rw [h67]
      refine sp_X6_eachOf v1 hI hK ht (fun hg S2 v2 => ?_) (fun hg S2 v2 => ?_)
      · intro _ _
        exact ⟨fun z => absurd z (by decide), fun _ => h1 (Or.inr ⟨by omega, q2', hh, hei.1 hg⟩) S2 v2⟩
      · intro _ _
        exact ⟨fun _ => hng S2 v2 fun z => hg (hei.2 z.2.2.2), fun z => absurd rfl z⟩
    · intro _ _
      rw [v1] at hh
      exact ⟨fun _ => hng S1 v1 fun z => hh z.2.2.1, fun z => absurd rfl z⟩
end GLOB2
