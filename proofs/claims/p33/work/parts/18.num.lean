/-! NUMBERS: words on whole numbers as naturals; counts -/
section NUM
theorem of_nat32 (a : Nat) : Int32.ofInt (a : Int) = Int32.ofNat a := by
  apply Int32.toBitVec_inj.1
  show BitVec.ofInt 32 (a : Int) = BitVec.ofNat 32 a
  rw [BitVec.ofInt_natCast]
theorem of_nat64 (a : Nat) : Int64.ofInt (a : Int) = Int64.ofNat a := by
  apply Int64.toBitVec_inj.1
  show BitVec.ofInt 64 (a : Int) = BitVec.ofNat 64 a
  rw [BitVec.ofInt_natCast]
theorem ti_nat32 {a : Nat} (h : a < 2 ^ 31) : (Int32.ofNat a).toInt = (a : Int) := by
  rw [← of_nat32, nz_ti ⟨by omega, by omega⟩]
theorem ti_nat64 {a : Nat} (h : a < 2 ^ 63) : (Int64.ofNat a).toInt = (a : Int) := by
  rw [← of_nat64, nz_tiL ⟨by omega, by omega⟩]
theorem and_nat32 (a b : Nat) : Int32.ofNat a &&& Int32.ofNat b = Int32.ofNat (a &&& b) := by
  apply Int32.toBitVec_inj.1
  show BitVec.ofNat 32 a &&& BitVec.ofNat 32 b = BitVec.ofNat 32 (a &&& b)
  apply BitVec.eq_of_getLsbD_eq
  intro i hi
  simp [hi]
theorem or_nat32 (a b : Nat) : Int32.ofNat a ||| Int32.ofNat b = Int32.ofNat (a ||| b) := by
  apply Int32.toBitVec_inj.1
  show BitVec.ofNat 32 a ||| BitVec.ofNat 32 b = BitVec.ofNat 32 (a ||| b)
  apply BitVec.eq_of_getLsbD_eq
  intro i hi
  simp [hi]
theorem and_nat64 (a b : Nat) : Int64.ofNat a &&& Int64.ofNat b = Int64.ofNat (a &&& b) := by
  apply Int64.toBitVec_inj.1
  show BitVec.ofNat 64 a &&& BitVec.ofNat 64 b = BitVec.ofNat 64 (a &&& b)
  apply BitVec.eq_of_getLsbD_eq
  intro i hi
  simp [hi]
theorem or_nat64 (a b : Nat) : Int64.ofNat a ||| Int64.ofNat b = Int64.ofNat (a ||| b) := by
  apply Int64.toBitVec_inj.1
  show BitVec.ofNat 64 a ||| BitVec.ofNat 64 b = BitVec.ofNat 64 (a ||| b)
  apply BitVec.eq_of_getLsbD_eq
  intro i hi
  simp [hi]
theorem zand_nat {a b : Nat} (ha : a < 2 ^ 31) : zand (a : Int) (b : Int) = ((a &&& b : Nat) : Int) := by
  unfold zand
  rw [of_nat32, of_nat32, and_nat32, ti_nat32 (Nat.lt_of_le_of_lt Nat.and_le_left ha)]
theorem zor_nat {a b : Nat} (ha : a < 2 ^ 31) (hb : b < 2 ^ 31) : zor (a : Int) (b : Int) = ((a ||| b : Nat) : Int) := by
  unfold zor
  rw [of_nat32, of_nat32, or_nat32, ti_nat32 (Nat.or_lt_two_pow ha hb)]
theorem yand_nat {a b : Nat} (ha : a < 2 ^ 63) : yand (a : Int) (b : Int) = ((a &&& b : Nat) : Int) := by
  unfold yand
  rw [of_nat64, of_nat64, and_nat64, ti_nat64 (Nat.lt_of_le_of_lt Nat.and_le_left ha)]
theorem yor_nat {a b : Nat} (ha : a < 2 ^ 63) (hb : b < 2 ^ 63) : yor (a : Int) (b : Int) = ((a ||| b : Nat) : Int) := by
  unfold yor
  rw [of_nat64, of_nat64, or_nat64, ti_nat64 (Nat.or_lt_two_pow ha hb)]
theorem zshl_tab : ∀ j : Nat, j < 31 → zshl 1 (j : Int) = ((2 ^ j : Nat) : Int) := by decide +kernel
theorem zshl_nat {j : Nat} (h : j < 31) : zshl 1 (j : Int) = ((2 ^ j : Nat) : Int) := zshl_tab j h
theorem yshl_tab : ∀ j : Nat, j < 63 → yshl 1 (j : Int) = ((2 ^ j : Nat) : Int) := by decide +kernel
theorem yshl_nat {j : Nat} (h : j < 63) : yshl 1 (j : Int) = ((2 ^ j : Nat) : Int) := yshl_tab j h
/-- ~b within a -/
theorem zandn_nat {a b : Nat} (ha : a < 2 ^ 31) : zand (a : Int) (zxor (b : Int) (-1)) = ((a ^^^ (a &&& b) : Nat) : Int) := by
  have e : Int32.ofInt (zxor (b : Int) (-1)) = Int32.ofNat b ^^^ Int32.ofInt (-1) := by
    unfold zxor
    rw [nz_of, of_nat32]
  have e2 : Int32.ofInt (a : Int) &&& Int32.ofInt (zxor (b : Int) (-1)) = Int32.ofNat (a ^^^ (a &&& b)) := by
    rw [e, of_nat32]
    apply Int32.toBitVec_inj.1
    show BitVec.ofNat 32 a &&& (BitVec.ofNat 32 b ^^^ BitVec.ofInt 32 (-1)) = BitVec.ofNat 32 (a ^^^ (a &&& b))
    have h1 : BitVec.ofInt 32 (-1) = BitVec.allOnes 32 := by decide
    rw [h1]
    apply BitVec.eq_of_getLsbD_eq
    intro i hi
    simp only [BitVec.getLsbD_and, BitVec.getLsbD_xor, BitVec.getLsbD_ofNat, BitVec.getLsbD_allOnes, hi, decide_true, Bool.true_and, Nat.testBit_xor, Nat.testBit_and]
    cases a.testBit i <;> cases b.testBit i <;> rfl
  unfold zand
  rw [e2, ti_nat32]
  exact Nat.xor_lt_two_pow ha (Nat.lt_of_le_of_lt Nat.and_le_left ha)
theorem zshr_nat {a j : Nat} (ha : a < 2 ^ 31) (hj : j < 31) : zshr (a : Int) (j : Int) = ((a / 2 ^ j : Nat) : Int) := by
  have hs : ∀ j : Nat, j < 31 → ((Int32.ofNat j &&& 31).toBitVec.smod 32).toNat = j := by decide +kernel
  unfold zshr
  rw [of_nat32, of_nat32, pk_shr _ _ j (hs j hj), ti_nat32 ha, Int.shiftRight_eq_div_pow]
  norm_cast
theorem yshr_nat {a j : Nat} (ha : a < 2 ^ 63) (hj : j < 63) : yshr (a : Int) (j : Int) = ((a / 2 ^ j : Nat) : Int) := by
  have hs : ∀ j : Nat, j < 63 → (((Int32.ofNat j).toInt64 &&& 63).toBitVec.smod 64).toNat = j := by decide +kernel
  unfold yshr
  rw [of_nat32, of_nat64]
  have e : (Int64.ofNat a >>> ((Int32.ofNat j).toInt64 &&& 63)).toInt = (Int64.ofNat a).toInt >>> j := by
    show (Int64.ofNat a >>> ((Int32.ofNat j).toInt64 &&& 63)).toBitVec.toInt = _
    rw [Int64.toBitVec_shiftRight, BitVec.sshiftRight_eq', hs j hj, BitVec.toInt_sshiftRight]
    rfl
  rw [e, ti_nat64 ha, Int.shiftRight_eq_div_pow]
  norm_cast
end NUM
