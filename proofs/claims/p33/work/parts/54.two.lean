/-! KEPT, of the reference -/
section KEEPR
variable {S : St} {Qr : Int → St → Prop} {Qx : String → St → Prop}
def two (a b : Int) : Nat := 2 ^ a.toNat ||| 2 ^ b.toNat
theorem two_val {a b : Int} (ha : 0 ≤ a ∧ a < 10) (hb : 0 ≤ b ∧ b < 10) : zor (zshl 1 a) (zshl 1 b) = ((two a b : Nat) : Int) := by
  have h1 : 2 ^ a.toNat < 2 ^ 10 := Nat.pow_lt_pow_right (by decide) (by omega)
  have h2 : 2 ^ b.toNat < 2 ^ 10 := Nat.pow_lt_pow_right (by decide) (by omega)
  rw [zshl_pow ha.1 (by omega), zshl_pow hb.1 (by omega), zor_nat (by omega) (by omega)]
  rfl
theorem two_in {a b : Int} {U : Nat} (ha : 0 ≤ a) (hb : 0 ≤ b) : (U &&& two a b = two a b) ↔ (tb U a && tb U b) = true := by
  unfold two tb
  rw [Bool.and_eq_true]
  constructor
  · intro h
    have h1 := congrArg (fun z : Nat => z.testBit a.toNat) h
    have h2 := congrArg (fun z : Nat => z.testBit b.toNat) h
    simp only [Nat.testBit_and, Nat.testBit_or, Nat.testBit_two_pow_self, Bool.true_or, Bool.or_true, Bool.and_true] at h1 h2
    exact ⟨h1, h2⟩
  · rintro ⟨h1, h2⟩
    apply Nat.eq_of_testBit_eq
    intro j
    rw [Nat.testBit_and, Nat.testBit_or, Nat.testBit_two_pow, Nat.testBit_two_pow]
    by_cases q1 : a.toNat = j
    · rw [← q1, h1, Bool.true_and]
    · by_cases q2 : b.toNat = j
      · rw [← q2, h2, Bool.true_and]
      · rw [decide_eq_false q1, decide_eq_false q2]; simp
theorem two_lt {a b : Int} (ha : 0 ≤ a ∧ a < 10) (hb : 0 ≤ b ∧ b < 10) : two a b < 2 ^ 10 := Nat.or_lt_two_pow (Nat.pow_lt_pow_right (by decide) (by omega)) (Nat.pow_lt_pow_right (by decide) (by omega))
theorem zand_two {a b : Int} {U : Nat} (ha : 0 ≤ a ∧ a < 10) (hb : 0 ≤ b ∧ b < 10) (hU : U < 2 ^ 10) : (zand (U : Int) ((two a b : Nat) : Int) = ((two a b : Nat) : Int)) ↔ (tb U a && tb U b) = true := by
  rw [zand_nat (by omega), ← two_in ha.1 hb.1]
  omega
theorem sp_rg {V : St} {K : Int → Bool} (U : Nat) : 0 ≤ sp V K U ∧ sp V K U ≤ 40 := cn_rng _ (by decide)
theorem pow_le10 {n : Int} (h : n ≤ 10) : 2 ^ n.toNat ≤ 1024 := by
  have : 2 ^ n.toNat ≤ 2 ^ 10 := Nat.pow_le_pow_right (by decide) (by omega)
  simpa using this
theorem cnt_yes {V : St} {n a i : Int} (h : 0 ≤ i) (h4 : i < 40) (hn : (mKept V a i && !(firmB V (kp V n a i) n (V 11 i) (V 12 i))) = true) : cn (kp V n a (i + 1)) 40 = cn (kp V n a i) 40 + 1 := by
  have := cn_chg20 (p := kp V n a i) (q := kp V n a (i + 1)) h h4 (fun k hk => by rw [kp_s h, if_neg hk])
  rw [kp_s h, if_pos rfl, hn, kp_out i.toNat i (by omega) i (Int.le_refl _)] at this
  have z0 : bi false = 0 := rfl
  have z1 : bi true = 1 := rfl
  omega
/-- what keeping changes -/
def kfr (S S' : St) : Prop := fq [19, 20] S S'
end KEEPR
