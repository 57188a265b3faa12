/-! SETS as naturals -/
section SETS
/-- the pair, in either order -/
def mPair (V : St) (a b k : Int) : Prop := V 15 k = 0 ∧ ((V 11 k = a ∧ V 12 k = b) ∨ (V 11 k = b ∧ V 12 k = a))
/-! sets as naturals -/
def tb (U : Nat) (i : Int) : Bool := U.testBit i.toNat
def pc (U : Nat) : Int := cn (tb U) 10
theorem tb_or (U W : Nat) (i : Int) : tb (U ||| W) i = (tb U i || tb W i) := Nat.testBit_or ..
theorem tb_and (U W : Nat) (i : Int) : tb (U &&& W) i = (tb U i && tb W i) := Nat.testBit_and ..
theorem tb_pow (a i : Int) : tb (2 ^ a.toNat) i = decide (a.toNat = i.toNat) := by
  unfold tb
  rw [Nat.testBit_two_pow]
theorem bit_val {U : Nat} (hU : U < 2 ^ 31) {i : Int} (h0 : 0 ≤ i) (h1 : i < 31) : zand (zshr (U : Int) i) 1 = if tb U i then 1 else 0 := by
  have e : i = ((i.toNat : Nat) : Int) := (Int.toNat_of_nonneg h0).symm
  rw [e, zshr_nat hU (by omega)]
  have e1 : zand ((U / 2 ^ i.toNat : Nat) : Int) 1 = ((U / 2 ^ i.toNat &&& 1 : Nat) : Int) := zand_nat (b := 1) (Nat.lt_of_le_of_lt (Nat.div_le_self _ _) hU)
  rw [e1, Nat.and_one_is_mod]
  unfold tb
  rw [Int.toNat_natCast, Nat.testBit_eq_decide_div_mod_eq]
  rcases Nat.mod_two_eq_zero_or_one (U / 2 ^ i.toNat) with q | q <;> simp [q]
theorem pc_rng (U : Nat) : 0 ≤ pc U ∧ pc U ≤ 10 := cn_rng _ (by decide)
/-- the neighbours among the first members -/
def nrN (V : St) (j : Int) : Nat → Nat
  | 0 => 0
  | n + 1 => nrN V j n ||| (if V 15 n = 0 then (if V 11 n = j then 2 ^ (V 12 n).toNat else if V 12 n = j then 2 ^ (V 11 n).toNat else 0) else 0)
def nr (V : St) (j i : Int) : Nat := nrN V j i.toNat
theorem nr_s {V : St} {j i : Int} (h : 0 ≤ i) : nr V j (i + 1) = nr V j i ||| (if V 15 i = 0 then (if V 11 i = j then 2 ^ (V 12 i).toNat else if V 12 i = j then 2 ^ (V 11 i).toNat else 0) else 0) := by
  unfold nr
  rw [show (i + 1).toNat = i.toNat + 1 by omega]
  show nrN V j i.toNat ||| (if V 15 ((i.toNat : Nat) : Int) = 0 then (if V 11 ((i.toNat : Nat) : Int) = j then 2 ^ (V 12 ((i.toNat : Nat) : Int)).toNat else if V 12 ((i.toNat : Nat) : Int) = j then 2 ^ (V 11 ((i.toNat : Nat) : Int)).toNat else 0) else 0) = _
  rw [Int.toNat_of_nonneg h]
/-- ends of members, in range -/
def ends (V : St) (m : Int) : Prop := ∀ k, 0 ≤ k → k < m → 0 ≤ V 11 k ∧ V 11 k < 10 ∧ 0 ≤ V 12 k ∧ V 12 k < 10
theorem nr_lt {V : St} {j : Int} {m : Int} (hE : ends V m) : ∀ (d : Nat) (i : Int), i = d → i ≤ m → nr V j i < 2 ^ 10 := by
  intro d
  induction d with
  | zero => intro i hi _; rw [hi]; show (0 : Nat) < 2 ^ 10; decide
  | succ d ih =>
    intro i hi hm
    have h0 := ih (i - 1) (by omega) (by omega)
    have e := hE (i - 1) (by omega) (by omega)
    have hs := nr_s (V := V) (j := j) (i := i - 1) (by omega)
    rw [Int.sub_add_cancel] at hs
    rw [hs]
    refine Nat.or_lt_two_pow h0 ?_
    split
    · split
      · exact Nat.pow_lt_pow_right (by decide) (by omega)
      · split
        · exact Nat.pow_lt_pow_right (by decide) (by omega)
        · decide
    · decide
theorem zshl_pow {i : Int} (h0 : 0 ≤ i) (h1 : i < 31) : zshl 1 i = ((2 ^ i.toNat : Nat) : Int) := by
  have e : i = ((i.toNat : Nat) : Int) := (Int.toNat_of_nonneg h0).symm
  rw [e, zshl_nat (by omega), Int.toNat_natCast]
def any (p : Int → Bool) (i : Int) : Bool := decide (0 < cn p i)
theorem any_s {p : Int → Bool} {i : Int} (h : 0 ≤ i) : any p (i + 1) = (any p i || p i) := by
  have hr := cn_rng p h
  unfold any
  rw [cn_s h]
  by_cases q : p i = true
  · rw [if_pos q, q, Bool.or_true]; exact decide_eq_true (by omega)
  · rw [if_neg q, Bool.eq_false_iff.2 q, Bool.or_false, Int.add_zero]
theorem any_up {p : Int → Bool} {i j : Int} (h0 : 0 ≤ i) (hij : i ≤ j) (h : any p i = true) : any p j = true := by
  have := cn_le (p := p) h0 (j - i).toNat j (by omega)
  have h' := of_decide_eq_true h
  exact decide_eq_true (by omega)
def bi (b : Bool) : Int := if b then 1 else 0
end SETS
