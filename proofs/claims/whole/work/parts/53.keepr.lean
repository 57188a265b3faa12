/-! KEPT, of the reference -/
section KEEPR
variable {S : St} {Qr : Int → St → Prop} {Qx : String → St → Prop}
theorem zshl_pow {i : Int} (h0 : 0 ≤ i) (h1 : i < 31) : zshl 1 i = ((2 ^ i.toNat : Nat) : Int) := by
  have e : i = ((i.toNat : Nat) : Int) := (Int.toNat_of_nonneg h0).symm
  rw [e, zshl_nat (by omega), Int.toNat_natCast]
def two (a b : Int) : Nat := 2 ^ a.toNat ||| 2 ^ b.toNat
theorem two_val {a b : Int} (ha : 0 ≤ a ∧ a < 10) (hb : 0 ≤ b ∧ b < 10) : zor (zshl 1 a) (zshl 1 b) = ((two a b : Nat) : Int) := by
  have h1 : 2 ^ a.toNat < 2 ^ 10 := Nat.pow_lt_pow_right (by decide) (by omega)
  have h2 : 2 ^ b.toNat < 2 ^ 10 := Nat.pow_lt_pow_right (by decide) (by omega)
  rw [zshl_pow ha.1 (by omega), zshl_pow hb.1 (by omega), zor_nat (by omega) (by omega)]
  rfl
theorem two_in {a b : Int} {U : Nat} (ha : 0 ≤ a) (hb : 0 ≤ b) : (U &&& two a b = two a b) ↔ (tb U a && tb U b) = true := by
  unfold two tb
  rw [Bool.and_eq_true]
  constructor
  · intro h
    have h1 := congrArg (fun z : Nat => z.testBit a.toNat) h
    have h2 := congrArg (fun z : Nat => z.testBit b.toNat) h
    simp only [Nat.testBit_and, Nat.testBit_or, Nat.testBit_two_pow_self, Bool.true_or, Bool.or_true, Bool.and_true] at h1 h2
    exact ⟨h1, h2⟩
  · rintro ⟨h1, h2⟩
    apply Nat.eq_of_testBit_eq
    intro j
    rw [Nat.testBit_and, Nat.testBit_or, Nat.testBit_two_pow, Nat.testBit_two_pow]
    by_cases q1 : a.toNat = j
    · rw [← q1, h1, Bool.true_and]
    · by_cases q2 : b.toNat = j
      · rw [← q2, h2, Bool.true_and]
      · rw [decide_eq_false q1, decide_eq_false q2]; simp
theorem two_lt {a b : Int} (ha : 0 ≤ a ∧ a < 10) (hb : 0 ≤ b ∧ b < 10) : two a b < 2 ^ 10 := Nat.or_lt_two_pow (Nat.pow_lt_pow_right (by decide) (by omega)) (Nat.pow_lt_pow_right (by decide) (by omega))
theorem zand_two {a b : Int} {U : Nat} (ha : 0 ≤ a ∧ a < 10) (hb : 0 ≤ b ∧ b < 10) (hU : U < 2 ^ 10) : (zand (U : Int) ((two a b : Nat) : Int) = ((two a b : Nat) : Int)) ↔ (tb U a && tb U b) = true := by
  rw [zand_nat (by omega), ← two_in ha.1 hb.1]
  omega
/-- what the reference counts within sets -/
def inP (V : St) (K : Int → Bool) (n : Int) (S : St) : Prop := ∀ U : Nat, U < 2 ^ n.toNat → S 20 (U : Int) = sp V K U
theorem sp_rg {V : St} {K : Int → Bool} (U : Nat) : 0 ≤ sp V K U ∧ sp V K U ≤ 40 := cn_rng _ (by decide)
theorem pow_le10 {n : Int} (h : n ≤ 10) : 2 ^ n.toNat ≤ 1024 := by
  have : 2 ^ n.toNat ≤ 2 ^ 10 := Nat.pow_le_pow_right (by decide) (by omega)
  simpa using this
theorem sp_X7_isFull {V : St} {K : Int → Bool} {n : Int} {U : Nat} (hn : n ≤ 10) (hU : U < 2 ^ n.toNat) (hin : inP V K n S) (h : Qr (if sp V K U = 2 * pc U - 3 then 1 else 0) S) : M_X7_isFull (U : Int) S Qr Qx := by
  have h10 := pow_le10 hn
  have hp := pc_rng U
  refine vc_X7_isFull fun _ _ => ⟨⟨by omega, by omega⟩, sp_X7_bits (by omega) fun _ _ => ⟨⟨by omega, by omega⟩, ?_⟩⟩
  rw [hin U hU]
  exact ⟨fun q => by rw [if_neg q] at h; exact h, fun q => by rw [if_pos q] at h; exact h⟩
theorem sp_X7_areFirm {V : St} {K : Int → Bool} {n a b : Int} (hn0 : 0 ≤ n) (hn : n ≤ 10) (hS : S 0 1 = n) (ha : 0 ≤ a ∧ a < 10) (hb : 0 ≤ b ∧ b < 10) (hin : inP V K n S) (h : Qr (if firmB V K n a b then 1 else 0) S) : M_X7_areFirm a b S Qr Qx := by
  have h10 := pow_le10 hn
  have hN : zshl 1 (S 0 1) = ((2 ^ n.toNat : Nat) : Int) := by rw [hS]; exact zshl_pow hn0 (by omega)
  have hfb : firmB V K n a b = any (fun u => (tb u.toNat a && tb u.toNat b) && decide (sp V K u.toNat = 2 * pc u.toNat - 3)) ((2 ^ n.toNat : Nat) : Int) := rfl
  generalize hp : (fun u : Int => (tb u.toNat a && tb u.toNat b) && decide (sp V K u.toNat = 2 * pc u.toNat - 3)) = p at hfb
  have hyes : ∀ i : Int, 0 ≤ i → i ≤ ((2 ^ n.toNat : Nat) : Int) → any p i = true → R_X7_areFirm_14 1 ((two a b : Nat) : Int) i S Qr Qx := fun i i0 i1 q => by
    rw [hfb, any_up i0 i1 q] at h
    exact vc_X7_areFirm_14 fun _ _ _ _ => ⟨fun _ => ⟨by decide, h⟩, fun _ => ⟨fun _ => ⟨by decide, h⟩, fun z => absurd z (by decide)⟩⟩
  have key : ∀ (d : Nat) (i : Int), 0 ≤ i → i + d = ((2 ^ n.toNat : Nat) : Int) → any p i = false → R_X7_areFirm_14 0 ((two a b : Nat) : Int) i S Qr Qx := by
    intro d
    induction d with
    | zero =>
      intro i hi0 hi hf
      have e : i = ((2 ^ n.toNat : Nat) : Int) := by omega
      rw [hfb, ← e, hf] at h
      exact vc_X7_areFirm_14 fun _ _ _ _ => ⟨fun _ => ⟨by decide, h⟩, fun z => absurd z (by rw [hN]; omega)⟩
    | succ d ih =>
      intro i hi0 hi hf
      obtain ⟨U, rfl⟩ : ∃ U : Nat, i = (U : Int) := ⟨i.toNat, by omega⟩
      have hU : U < 2 ^ n.toNat := by omega
      have hs := any_s (p := p) hi0
      rw [hf, Bool.false_or] at hs
      have hpU : p (U : Int) = ((tb U a && tb U b) && decide (sp V K U = 2 * pc U - 3)) := by rw [← hp]; rfl
      have hz := zand_two (U := U) ha hb (by omega)
      refine vc_X7_areFirm_14 fun _ _ _ _ => ⟨fun z => absurd z (by rw [hN]; omega), fun _ => ⟨fun z => absurd rfl z, fun _ => ⟨fun q => ⟨⟨by omega, by omega⟩, ih ((U : Int) + 1) (by omega) (by omega) ?_⟩, fun q => sp_X7_isFull hn hU hin fun _ _ => ?_⟩⟩⟩
      · rw [hs, hpU, Bool.eq_false_iff.2 fun z => q (hz.2 z)]; rfl
      · have q' := hz.1 q
        by_cases w : sp V K U = 2 * pc U - 3
        · rw [if_pos w]
          exact ⟨fun z => absurd z (by decide), fun _ => ⟨⟨by omega, by omega⟩, hyes ((U : Int) + 1) (by omega) (by omega) (by rw [hs, hpU, q', decide_eq_true w]; rfl)⟩⟩
        · rw [if_neg w]
          exact ⟨fun _ => ⟨⟨by omega, by omega⟩, ih ((U : Int) + 1) (by omega) (by omega) (by rw [hs, hpU, decide_eq_false w, Bool.and_false])⟩, fun z => absurd rfl z⟩
  refine vc_X7_areFirm fun _ _ _ => ?_
  rw [two_val ha hb]
  exact key (2 ^ n.toNat) 0 (by decide) (by omega) rfl
theorem cnt_yes {V : St} {n a i : Int} (h : 0 ≤ i) (h4 : i < 40) (hn : (mKept V a i && !(firmB V (kp V n a i) n (V 11 i) (V 12 i))) = true) : cn (kp V n a (i + 1)) 40 = cn (kp V n a i) 40 + 1 := by
  have := cn_chg20 (p := kp V n a i) (q := kp V n a (i + 1)) h h4 (fun k hk => by rw [kp_s h, if_neg hk])
  rw [kp_s h, if_pos rfl, hn, kp_out i.toNat i (by omega) i (Int.le_refl _)] at this
  have z0 : bi false = 0 := rfl
  have z1 : bi true = 1 := rfl
  omega
/-- what keeping changes -/
def kfr (S S' : St) : Prop := fq [19, 20] S S'
theorem sp_X7_keeps {a : Int} (hI : Inv (cs S)) (h : ∀ S', fq [19, 20] S S' → inP (cs S) (kp (cs S) (cs S 1 0) a (cs S 2 0)) (cs S 1 0) S' → (∀ k, 0 ≤ k → k < cs S 2 0 → S' 19 k = bi (kp (cs S) (cs S 1 0) a (cs S 2 0) k)) → Qr (cn (kp (cs S) (cs S 1 0) a (cs S 2 0)) 40) S') : M_X7_keeps a S Qr Qx := by
  obtain ⟨n0, n10, m0, m40, hE⟩ := hI.1
  have h10 := pow_le10 n10
  have key : ∀ (d : Nat) (i : Int) (S1 : St), 0 ≤ i → i + d = cs S 2 0 → fq [19, 20] S S1 → inP (cs S) (kp (cs S) (cs S 1 0) a i) (cs S 1 0) S1 → (∀ k, 0 ≤ k → k < i → S1 19 k = bi (kp (cs S) (cs S 1 0) a i k)) → R_X7_keeps_29 a (cn (kp (cs S) (cs S 1 0) a i) 40) i S1 Qr Qx := by
    intro d
    induction d with
    | zero =>
      intro i S1 hi0 hi hf hin h19
      have e : i = cs S 2 0 := by omega
      rw [e] at hin h19 ⊢
      exact vc_X7_keeps_29 fun _ _ _ _ => ⟨fun _ => h S1 hf hin h19, fun z => absurd z (by rw [hf 0 (by decide)]; show ¬ S 0 6 < S 0 6; omega)⟩
    | succ d ih =>
      intro i S1 hi0 hi hf hin h19
      have hlt : i < cs S 2 0 := by omega
      have e0 : S1 0 = S 0 := hf 0 (by decide)
      have hcn := cn_rng (kp (cs S) (cs S 1 0) a i) (i := 40) (by decide)
      obtain ⟨b1, b2, b3, b4, b5, b6⟩ := hE i hi0 hlt
      have hN : zshl 1 (S 0 1) = ((2 ^ (cs S 1 0).toNat : Nat) : Int) := zshl_pow (i := cs S 1 0) n0 (by omega)
      -- not kept
      have hno : ∀ x4, (mKept (cs S) a i && !(firmB (cs S) (kp (cs S) (cs S 1 0) a i) (cs S 1 0) (cs S 11 i) (cs S 12 i))) = false → R_X7_keeps_116 a (cn (kp (cs S) (cs S 1 0) a i) 40) i x4 0 (up S1 19 i 0) Qr Qx := fun x4 q => by
        have e := kp_no (n := cs S 1 0) hi0 q
        have hnx := ih (i + 1) (up S1 19 i 0) (by omega) (by omega) (fq_up hf (by decide)) (by rw [e]; intro U hU; rw [up_ne _ (by decide)]; exact hin U hU) (fun k k0 k1 => by
          rw [up_at, e]
          by_cases w : k = i
          · rw [if_pos w, w, kp_out i.toNat i (by omega) i (Int.le_refl _)]; rfl
          · rw [if_neg w]; exact h19 k k0 (by omega))
        rw [e] at hnx
        have e19 : up S1 19 i 0 19 i = 0 := by rw [up_at, if_pos rfl]
        refine vc_X7_keeps_116 fun _ _ _ _ _ _ => ?_
        rw [e19]
        exact ⟨fun _ => ⟨⟨by omega, by omega⟩, fun _ => ⟨⟨by omega, by omega⟩, ⟨by omega, by omega⟩, by rw [Int.add_zero]; exact hnx⟩, fun z => absurd rfl z⟩, fun _ => ⟨⟨by omega, by omega⟩, fun _ => ⟨fun _ => ⟨⟨by omega, by omega⟩, ⟨by omega, by omega⟩, by rw [Int.add_zero]; exact hnx⟩, fun z => absurd rfl z⟩, fun z => absurd rfl z⟩⟩
      -- kept
      have hyes : (mKept (cs S) a i && !(firmB (cs S) (kp (cs S) (cs S 1 0) a i) (cs S 1 0) (cs S 11 i) (cs S 12 i))) = true → R_X7_keeps_116 a (cn (kp (cs S) (cs S 1 0) a i) 40) i ((two (cs S 11 i) (cs S 12 i) : Nat) : Int) 0 (up S1 19 i 1) Qr Qx := fun q => by
        have hsy := fun U => sp_yes (n := cs S 1 0) hi0 (by omega) q U
        have hcy := cnt_yes (n := cs S 1 0) hi0 (by omega) q
        have add : ∀ (d : Nat) (u : Int) (S2 : St), 0 ≤ u → u + d = ((2 ^ (cs S 1 0).toNat : Nat) : Int) → fq [20] (up S1 19 i 1) S2 → (∀ U : Nat, U < 2 ^ (cs S 1 0).toNat → S2 20 (U : Int) = if (U : Int) < u then sp (cs S) (kp (cs S) (cs S 1 0) a (i + 1)) U else sp (cs S) (kp (cs S) (cs S 1 0) a i) U) → R_X7_keeps_116 a (cn (kp (cs S) (cs S 1 0) a i) 40) i ((two (cs S 11 i) (cs S 12 i) : Nat) : Int) u S2 Qr Qx := by
          intro d
          induction d with
          | zero =>
            intro u S2 hu0 hu hf2 h20
            have e19 : S2 19 i = 1 := by rw [hf2 19 (by decide), up_at, if_pos rfl]
            have hN2 : zshl 1 (S2 0 1) = ((2 ^ (cs S 1 0).toNat : Nat) : Int) := by rw [hf2 0 (by decide), up_ne _ (by decide), e0]; exact hN
            have hnx := ih (i + 1) S2 (by omega) (by omega) (fq_tr (fq_up hf (by decide)) hf2 (by decide)) (fun U hU => by rw [h20 U hU, if_pos (by omega)]) (fun k k0 k1 => by
              rw [hf2 19 (by decide), up_at, kp_s hi0]
              by_cases w : k = i
              · rw [if_pos w, if_pos w, q]; rfl
              · rw [if_neg w, if_neg w]; exact h19 k k0 (by omega))
            rw [hcy] at hnx
            refine vc_X7_keeps_116 fun _ _ _ _ _ _ => ?_
            rw [e19, hN2]
            exact ⟨fun _ => ⟨⟨by omega, by omega⟩, fun z => absurd z (by decide), fun _ => ⟨⟨by omega, by omega⟩, ⟨by omega, by omega⟩, hnx⟩⟩, fun z => absurd z (by omega)⟩
          | succ d ihd =>
            intro u S2 hu0 hu hf2 h20
            obtain ⟨U, rfl⟩ : ∃ U : Nat, u = (U : Int) := ⟨u.toNat, by omega⟩
            have hU : U < 2 ^ (cs S 1 0).toNat := by omega
            have e19 : S2 19 i = 1 := by rw [hf2 19 (by decide), up_at, if_pos rfl]
            have hN2 : zshl 1 (S2 0 1) = ((2 ^ (cs S 1 0).toNat : Nat) : Int) := by rw [hf2 0 (by decide), up_ne _ (by decide), e0]; exact hN
            have e20 := h20 U hU
            rw [if_neg (by omega)] at e20
            have hr := sp_rg (V := cs S) (K := kp (cs S) (cs S 1 0) a i) U
            have hz := zand_two (U := U) ⟨b1, b2⟩ ⟨b3, b4⟩ (by omega)
            have step : ∀ v, v = sp (cs S) (kp (cs S) (cs S 1 0) a (i + 1)) U → R_X7_keeps_116 a (cn (kp (cs S) (cs S 1 0) a i) 40) i ((two (cs S 11 i) (cs S 12 i) : Nat) : Int) ((U : Int) + 1) (up S2 20 (U : Int) v) Qr Qx := fun v hv => ihd ((U : Int) + 1) _ (by omega) (by omega) (fq_up hf2 (by decide)) fun W hW => by
              rw [up_at]
              by_cases w : (W : Int) = (U : Int)
              · have : W = U := by omega
                rw [if_pos w, if_pos (by omega), this]; exact hv
              · rw [if_neg w, h20 W hW]
                by_cases w2 : (W : Int) < (U : Int)
                · rw [if_pos w2, if_pos (by omega)]
                · rw [if_neg w2, if_neg (by omega)]
            refine vc_X7_keeps_116 fun _ _ _ _ _ _ => ?_
            rw [e19, hN2, e20]
            refine ⟨fun z => absurd z (by omega), fun _ => ⟨⟨by omega, by omega⟩, fun z => absurd z (by decide), fun _ => ⟨⟨by omega, by omega⟩, fun w => ⟨⟨by omega, by omega⟩, ⟨by omega, by omega⟩, step _ ?_⟩, fun w => ⟨⟨by omega, by omega⟩, ⟨by omega, by omega⟩, step _ ?_⟩⟩⟩⟩
            · rw [hsy U, Bool.eq_false_iff.2 fun z => w (hz.2 z)]; rfl
            · rw [hsy U, hz.1 w]; rfl
        exact add (2 ^ (cs S 1 0).toNat) 0 (up S1 19 i 1) (by decide) (by omega) fq_rfl fun U hU => by
          rw [up_ne _ (by decide), if_neg (by omega)]
          exact hin U hU
      have z0 : up S1 19 i 0 19 i = 0 := by rw [up_at, if_pos rfl]
      have z1 : up S1 19 i 1 19 i = 1 := by rw [up_at, if_pos rfl]
      have e5 : S1 5 i = cs S 11 i := by rw [hf 5 (by decide)]; rfl
      have e6 : S1 6 i = cs S 12 i := by rw [hf 6 (by decide)]; rfl
      refine vc_X7_keeps_29 fun _ _ _ _ => ⟨fun z => absurd z (by rw [e0]; show ¬ S 0 6 ≤ i; have : S 0 6 = cs S 2 0 := rfl; omega), fun _ => ⟨⟨by omega, by omega⟩, fun p => ?_, fun p => ⟨fun q => ?_, fun q => ?_⟩⟩⟩
      · rw [hf 9 (by decide)] at p
        rw [z0]
        exact ⟨fun _ => hno 0 (by rw [show mKept (cs S) a i = false from decide_eq_false fun z => p z.1]; rfl), fun z => absurd rfl z⟩
      · rw [z0]
        exact ⟨fun _ => hno 0 (by rw [show mKept (cs S) a i = false from decide_eq_false fun z => z.2 q]; rfl), fun z => absurd rfl z⟩
      · rw [hf 9 (by decide)] at p
        have hmk : mKept (cs S) a i = true := decide_eq_true ⟨p, q⟩
        rw [e5, e6]
        refine sp_X7_areFirm (V := cs S) (K := kp (cs S) (cs S 1 0) a i) (n := cs S 1 0) n0 n10 (by rw [e0]; rfl) ⟨b1, b2⟩ ⟨b3, b4⟩ hin fun _ _ => ?_
        rw [z0, z1, e5, e6, two_val ⟨b1, b2⟩ ⟨b3, b4⟩]
        by_cases f : firmB (cs S) (kp (cs S) (cs S 1 0) a i) (cs S 1 0) (cs S 11 i) (cs S 12 i) = true
        · rw [if_pos f]
          exact ⟨fun _ => ⟨fun _ => hno 0 (by rw [f, hmk]; rfl), fun z => absurd rfl z⟩, fun z => absurd z (by decide)⟩
        · rw [if_neg f]
          exact ⟨fun z => absurd rfl z, fun _ => ⟨fun z => absurd z (by decide), fun _ => hyes (by rw [Bool.eq_false_iff.2 f, hmk]; rfl)⟩⟩
  have clr : ∀ (d : Nat) (i : Int) (S1 : St), 0 ≤ i → i + d = ((2 ^ (cs S 1 0).toNat : Nat) : Int) → fq [20] S S1 → (∀ j, 0 ≤ j → j < i → S1 20 j = 0) → R_X7_keeps_2 a i S1 Qr Qx := by
    intro d
    induction d with
    | zero =>
      intro i S1 hi0 hi hf hz
      have hN : zshl 1 (S1 0 1) = ((2 ^ (cs S 1 0).toNat : Nat) : Int) := by rw [hf 0 (by decide)]; exact zshl_pow (i := cs S 1 0) n0 (by omega)
      have h00 : cn (kp (cs S) (cs S 1 0) a 0) 40 = 0 := by
        have : cn (kp (cs S) (cs S 1 0) a 0) 40 = cn (fun _ => false) 40 := cn_congr fun k _ _ => rfl
        rw [this]; decide
      have := key (cs S 2 0).toNat 0 S1 (by omega) (by omega) (fq_tr (l := [19, 20]) fq_rfl hf (by decide)) (fun U hU => by
        rw [hz U (by omega) (by omega)]
        have e2 : sp (cs S) (kp (cs S) (cs S 1 0) a 0) U = cn (fun _ => false) 40 := cn_congr fun k _ _ => rfl
        rw [e2]; decide) (fun k k0 k1 => by omega)
      rw [h00] at this
      exact vc_X7_keeps_2 fun _ _ _ => ⟨fun _ => this, fun z => absurd z (by rw [hN]; omega)⟩
    | succ d ih =>
      intro i S1 hi0 hi hf hz
      have hN : zshl 1 (S1 0 1) = ((2 ^ (cs S 1 0).toNat : Nat) : Int) := by rw [hf 0 (by decide)]; exact zshl_pow (i := cs S 1 0) n0 (by omega)
      refine vc_X7_keeps_2 fun _ _ _ => ⟨fun z => absurd z (by rw [hN]; omega), fun _ => ⟨⟨by omega, by omega⟩, ⟨by omega, by omega⟩, ih (i + 1) _ (by omega) (by omega) (fq_up hf (by decide)) fun j j0 j1 => ?_⟩⟩
      rw [up_at]
      split
      · rfl
      · exact hz j j0 (by omega)
  exact vc_X7_keeps fun _ _ => clr (2 ^ (cs S 1 0).toNat) 0 S (by decide) (by omega) fq_rfl fun j j0 j1 => by omega
end KEEPR
