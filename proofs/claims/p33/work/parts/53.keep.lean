/-! KEPT, of the class -/
section KEEP
variable {S : St} {Qr : Int → St → Prop} {Qx : String → St → Prop}
theorem sparse_0 {V : St} {n : Int} {K : Int → Bool} (hK : ∀ k, K k = false) : sparse V K n := fun U _ h => by
  have e2 : sp V K U = cn (fun _ => false) 40 := cn_congr fun k _ _ => by rw [hK]; rfl
  have e4 : cn (fun _ => false) 40 = 0 := by decide
  omega
theorem kset {n : Int} {V : St} {a : Int} {KS : Nat} {i : Int} (hi0 : 0 ≤ i) (hi : i < 40) (hK : KS < 2 ^ 40) (ht : ∀ k, 0 ≤ k → k < 40 → tb KS k = kp V n a i k) (hy : (mKept V a i && !(firmB V (kp V n a i) n (V 11 i) (V 12 i))) = true) : yor (KS : Int) (yshl 1 i) = ((KS ||| 2 ^ i.toNat : Nat) : Int) ∧ KS ||| 2 ^ i.toNat < 2 ^ 40 ∧ ∀ k, 0 ≤ k → k < 40 → tb (KS ||| 2 ^ i.toNat) k = kp V n a (i + 1) k := by
  have ex : i = ((i.toNat : Nat) : Int) := (Int.toNat_of_nonneg hi0).symm
  have hp : 2 ^ i.toNat < 2 ^ 40 := Nat.pow_lt_pow_right (by decide) (by omega)
  refine ⟨?_, Nat.or_lt_two_pow hK hp, fun k k0 k1 => ?_⟩
  · have e : yshl 1 i = ((2 ^ i.toNat : Nat) : Int) := by
      have := yshl_nat (j := i.toNat) (by omega)
      rw [← ex] at this
      exact this
    rw [e, yor_nat (by omega) (by omega)]
  · rw [tb_or, tb_pow, ht k k0 k1, kp_s hi0]
    by_cases q : k = i
    · rw [if_pos q, hy, q, decide_eq_true rfl, Bool.or_true]
    · rw [if_neg q, decide_eq_false (by omega), Bool.or_false]
theorem sp_X6_keepWithout {a : Int} (hI : Inv (vw S)) (h : ∀ S' (KS : Nat), fq [24, 25, 26, 67] S S' → PI (vw S) (kp (vw S) (vw S 1 0) a (vw S 2 0)) (vw S 1 0) S' → sparse (vw S) (kp (vw S) (vw S 1 0) a (vw S 2 0)) (vw S 1 0) → S' 67 0 = (KS : Int) → KS < 2 ^ 40 → (∀ k, 0 ≤ k → k < 40 → tb KS k = kp (vw S) (vw S 1 0) a (vw S 2 0) k) → Qr (cn (kp (vw S) (vw S 1 0) a (vw S 2 0)) 40) S') : M_X6_keepWithout a S Qr Qx := by
  obtain ⟨n0, n10, m0, m40, hE⟩ := hI.1
  have key : ∀ (d : Nat) (i : Int) (S1 : St) (KS : Nat), 0 ≤ i → i + d = vw S 2 0 → fq [24, 25, 26, 67] S S1 → PI (vw S) (kp (vw S) (vw S 1 0) a i) (vw S 1 0) S1 → sparse (vw S) (kp (vw S) (vw S 1 0) a i) (vw S 1 0) → S1 67 0 = (KS : Int) → KS < 2 ^ 40 → (∀ k, 0 ≤ k → k < 40 → tb KS k = kp (vw S) (vw S 1 0) a i k) → R_X6_keepWithout_14 a i S1 Qr Qx := by
    intro d
    induction d with
    | zero =>
      intro i S1 KS hi0 hi hf hP hs h67 hK ht
      have e : i = vw S 2 0 := by omega
      rw [e] at hP hs ht
      have e2 : S1 2 5 = vw S 2 0 := by rw [hf 2 (by decide)]; rfl
      refine vc_X6_keepWithout_14 fun _ _ _ => ⟨fun _ => ?_, fun z => absurd z (by omega)⟩
      rw [h67]
      refine sp_J13 hK fun _ _ => ?_
      rw [cn_congr (p := tb KS) (q := kp (vw S) (vw S 1 0) a (vw S 2 0)) ht]
      exact h S1 KS hf hP hs h67 hK ht
    | succ d ih =>
      intro i S1 KS hi0 hi hf hP hs h67 hK ht
      have hlt : i < vw S 2 0 := by omega
      have e2 : S1 2 5 = vw S 2 0 := by rw [hf 2 (by decide)]; rfl
      obtain ⟨b1, b2, b3, b4, b5, b6⟩ := hE i hi0 hlt
      have hno : ∀ S2, fq [24, 25, 26] S1 S2 → PI (vw S) (kp (vw S) (vw S 1 0) a i) (vw S 1 0) S2 → (mKept (vw S) a i && !(firmB (vw S) (kp (vw S) (vw S 1 0) a i) (vw S 1 0) (vw S 11 i) (vw S 12 i))) = false → r32 (i + 1) ∧ R_X6_keepWithout_14 a (i + 1) S2 Qr Qx := fun S2 f2 P2 q => by
        have e := kp_no (n := vw S 1 0) hi0 q
        refine ⟨⟨by omega, by omega⟩, ih (i + 1) S2 KS (by omega) (by omega) (fq_tr hf f2 (by decide)) (by rw [e]; exact P2) (by rw [e]; exact hs) (by rw [f2 67 (by decide)]; exact h67) hK (by rw [e]; exact ht)⟩
      refine vc_X6_keepWithout_14 fun _ _ _ => ⟨fun z => absurd z (by omega), fun _ => sp_X3_has (by omega) (fun p1 p2 p3 => ?_) (fun p => ?_)⟩
      · intro _ _
        rw [hf 15 (by decide)] at p3
        refine ⟨fun z => absurd z (by decide), fun _ => ⟨fun q => hno S1 fq_rfl hP (by rw [show mKept (vw S) a i = false from decide_eq_false fun z => z.2 q]; rfl), fun q => ⟨⟨by omega, by omega⟩, ?_⟩⟩⟩
        rw [hf 11 (by decide), hf 12 (by decide)]
        have hmk : mKept (vw S) a i = true := decide_eq_true ⟨p3, q⟩
        obtain ⟨b7, b8⟩ := b6 p3
        refine sp_X4_canCover n10 ⟨b1, b7⟩ ⟨b3, b8⟩ b5 hP hs (fun hnf S2 f2 P2 g1 h4 => ?_) (fun hfm S2 f2 P2 => ?_)
        · intro _ _
          refine ⟨fun z => absurd z (by decide), fun _ => ?_⟩
          rw [f2 11 (by decide), f2 12 (by decide), hf 11 (by decide), hf 12 (by decide)]
          refine vc_X4_cover fun _ _ _ => ⟨⟨by show 0 ≤ 2 * vw S 11 i; omega, by show 2 * vw S 11 i < 20; omega⟩, ?_⟩
          have hfb : firmB (vw S) (kp (vw S) (vw S 1 0) a i) (vw S 1 0) (vw S 11 i) (vw S 12 i) = false := Bool.eq_false_iff.2 fun z => hnf (firm_iff.1 z)
          have hy : (mKept (vw S) a i && !(firmB (vw S) (kp (vw S) (vw S 1 0) a i) (vw S 1 0) (vw S 11 i) (vw S 12 i))) = true := by rw [hmk, hfb]; rfl
          have hsy := fun U => sp_yes (n := vw S 1 0) hi0 (by omega) hy U
          obtain ⟨k1', k2', k3'⟩ := kset hi0 (by omega) hK ht hy
          intro _
          have e67 : up S2 24 (2 * S 11 i) (S 12 i) 67 0 = (KS : Int) := by rw [up_ne _ (by decide), f2 67 (by decide)]; exact h67
          refine ⟨⟨by omega, by omega⟩, ?_⟩
          rw [e67]
          have e24 : up (up S2 24 (2 * S 11 i) (S 12 i)) 67 0 (yor (KS : Int) (yshl 1 i)) 24 = pset (S2 24) (2 * S 11 i) (S 12 i) := by
            rw [← up24]; funext b; rw [up_ne _ (by decide)]
          have hf2 : fq [24, 25, 26, 67] S S2 := fq_tr hf f2 (by decide)
          have g11 : 0 ≤ S 11 i ∧ S 11 i < vw S 1 0 := ⟨b1, b7⟩
          have g12 : 0 ≤ S 12 i ∧ S 12 i < vw S 1 0 := ⟨b3, b8⟩
          have g13 : S 11 i ≠ S 12 i := b5
          have g1' : S2 24 (2 * S 11 i) = -1 := g1
          refine ih (i + 1) _ (KS ||| 2 ^ i.toNat) (by omega) (by omega) (fq_up (fq_up hf2 (by decide)) (by decide)) ⟨fun p p0 p1 => ?_, fun U => ?_⟩ (fun U hU h2 => ?_) (by rw [up_at, if_pos rfl]; exact k1') k2' k3'
          · rw [e24, pset_at]
            by_cases w : p = 2 * S 11 i
            · rw [if_pos w, w]
              exact Or.inr ⟨g12.1, g12.2, by omega, by omega⟩
            · rw [if_neg w]; exact P2.1 p p0 p1
          · rw [e24, hsy U]
            have hsp := spP_set (L := S2 24) (p := 2 * S 11 i) (v := S 12 i) U (by omega) (by omega)
            have q1 : spb (S2 24) U (2 * S 11 i) = false := by unfold spb; rw [g1']; rfl
            rw [q1, P2.2 U, decide_eq_true (show S 12 i ≠ -1 by omega), Bool.true_and, show 2 * S 11 i / 2 = S 11 i by omega] at hsp
            have z0 : bi false = 0 := rfl
            show spP _ U = _ + bi (tb U (S 11 i) && tb U (S 12 i))
            omega
          · rw [hsy U]
            have h5 := hs U hU h2
            cases hx : tb U (vw S 11 i) <;> cases hz : tb U (vw S 12 i)
            · show sp _ _ U + 0 ≤ _; omega
            · show sp _ _ U + 0 ≤ _; omega
            · show sp _ _ U + 0 ≤ _; omega
            · have := h4 U hx hz
              show sp _ _ U + 1 ≤ _; omega
        · intro _ _
          exact ⟨fun _ => hno S2 f2 P2 (by have hq : firmB (vw S) (kp (vw S) (vw S 1 0) a i) (vw S 1 0) (vw S 11 i) (vw S 12 i) = true := firm_iff.2 hfm; rw [hq, hmk]; rfl), fun z => absurd rfl z⟩
      · intro _ _
        have p3 : ¬ vw S 15 i = 0 := fun z => p ⟨hi0, by omega, by rw [hf 15 (by decide)]; exact z⟩
        exact ⟨fun _ => hno S1 fq_rfl hP (by rw [show mKept (vw S) a i = false from decide_eq_false fun z => p3 z.1]; rfl), fun z => absurd rfl z⟩
  refine vc_X6_keepWithout fun _ _ => sp_X4_clear (V := vw S) (n := vw S 1 0) (K := kp (vw S) (vw S 1 0) a 0) (fun k => rfl) fun S1 f1 P1 _ => ?_
  refine key (vw S 2 0).toNat 0 (up S1 67 0 0) 0 (by omega) (by omega) (fq_up (fq_tr (l := [24, 25, 26, 67]) fq_rfl f1 (by decide)) (by decide)) ⟨?_, ?_⟩ (sparse_0 fun k => rfl) (by rw [up_at, if_pos rfl]; rfl) (by decide) fun k k0 k1 => ?_
  · have : up S1 67 0 0 24 = S1 24 := by funext b; rw [up_ne _ (by decide)]
    rw [this]; exact P1.1
  · have : up S1 67 0 0 24 = S1 24 := by funext b; rw [up_ne _ (by decide)]
    rw [this]; exact P1.2
  · unfold tb; rw [Nat.zero_testBit]; rfl
end KEEP
