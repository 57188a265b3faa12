/-! GLOBAL: what hangs together, of the reference -/
section HANG2
theorem nr_has {V : St} {x k m : Int} (hE : ends V m) (k0 : 0 ≤ k) (hk : k < m) (hp : V 15 k = 0) : ∀ (d : Nat) (i : Int), i = k + 1 + d → (V 11 k = x → tb (nr V x i) (V 12 k) = true) ∧ (V 12 k = x → V 11 k ≠ x → tb (nr V x i) (V 11 k) = true) := by
  intro d
  induction d with
  | zero =>
    intro i hi
    have hs := nr_s (V := V) (j := x) k0
    rw [show i = k + 1 by omega, hs, if_pos hp]
    obtain ⟨b1, b2, b3, b4⟩ := hE k k0 hk
    refine ⟨fun q => ?_, fun q q2 => ?_⟩
    · rw [if_pos q, tb_or, tb_pow, decide_eq_true rfl, Bool.or_true]
    · rw [if_neg q2, if_pos q, tb_or, tb_pow, decide_eq_true rfl, Bool.or_true]
  | succ d ih =>
    intro i hi
    obtain ⟨a, b⟩ := ih (i - 1) (by omega)
    have hs := nr_s (V := V) (j := x) (i := i - 1) (by omega)
    rw [Int.sub_add_cancel] at hs
    rw [hs]
    exact ⟨fun q => by rw [tb_or, a q]; rfl, fun q q2 => by rw [tb_or, b q q2]; rfl⟩
/-- all joints but two -/
def wo (n a b : Int) : Nat := (2 ^ n.toNat - 1) ^^^ ((2 ^ n.toNat - 1) &&& two a b)
theorem tb_all {n e : Int} (e0 : 0 ≤ e) : tb (2 ^ n.toNat - 1) e = decide (e < n) := by
  unfold tb
  rw [Nat.testBit_two_pow_sub_one, decide_eq_decide]
  omega
theorem tb_xor (U W : Nat) (i : Int) : tb (U ^^^ W) i = (tb U i != tb W i) := Nat.testBit_xor ..
theorem all_lt {n : Int} (h : n ≤ 10) : 2 ^ n.toNat - 1 < 2 ^ 10 := by
  have h1 := pow_le10 h
  have h2 : 0 < 2 ^ n.toNat := Nat.two_pow_pos _
  omega
theorem wo_lt {n a b : Int} (h : n ≤ 10) : wo n a b < 2 ^ 10 := Nat.xor_lt_two_pow (all_lt h) (Nat.lt_of_le_of_lt Nat.and_le_left (all_lt h))
theorem wo_pc {n a b : Int} (n0 : 0 ≤ n) (n10 : n ≤ 10) (ha : 0 ≤ a ∧ a < n) : pc (wo n a b) < n := by
  have hall : pc (2 ^ n.toNat - 1) = n := by
    have h9 : pc (2 ^ n.toNat - 1) = cn (fun e => decide (e < n)) 10 := cn_congr fun e e0 _ => tb_all e0
    rw [h9, cn_below n0 n10]
  have ta : tb (wo n a b) a = false := by
    unfold wo
    rw [tb_xor, tb_and, tb_all ha.1, decide_eq_true ha.2]
    have : tb (two a b) a = true := by unfold two; rw [tb_or, tb_pow, decide_eq_true rfl]; rfl
    rw [this]; rfl
  have tt : tb (2 ^ n.toNat - 1) a = true := by rw [tb_all ha.1, decide_eq_true ha.2]
  have h := pc_lt (wo_lt (a := a) (b := b) n10) (all_lt n10) (fun j j0 j1 hj => by
    unfold wo at hj
    rw [tb_xor, tb_and] at hj
    cases hx : tb (2 ^ n.toNat - 1) j
    · rw [hx, Bool.false_and] at hj; exact absurd hj (by decide)
    · rfl) (fun z => by rw [z, ta] at tt; exact absurd tt (by decide))
  omega
theorem all_val {n : Int} (n0 : 0 ≤ n) (n10 : n ≤ 10) : zshl 1 n - 1 = ((2 ^ n.toNat - 1 : Nat) : Int) := by
  have h2 : 0 < 2 ^ n.toNat := Nat.two_pow_pos _
  rw [zshl_pow n0 (by omega)]
  omega
theorem wo_ref {n a b : Int} (n0 : 0 ≤ n) (n10 : n ≤ 10) : zand (zshl 1 n - 1) (zxor ((two a b : Nat) : Int) (-1)) = ((wo n a b : Nat) : Int) := by
  have := all_lt n10
  rw [all_val n0 n10, zandn_nat (by omega)]
  rfl
theorem wo_cls {n a b : Int} (n0 : 0 ≤ n) (n10 : n ≤ 10) (ha : 0 ≤ a ∧ a < 10) (hb : 0 ≤ b ∧ b < 10) : zand (zand (zshl 1 n - 1) (zxor (zshl 1 a) (-1))) (zxor (zshl 1 b) (-1)) = ((wo n a b : Nat) : Int) := by
  have h1 := all_lt n10
  have h2 : (2 ^ n.toNat - 1) ^^^ ((2 ^ n.toNat - 1) &&& 2 ^ a.toNat) < 2 ^ 10 := Nat.xor_lt_two_pow h1 (Nat.lt_of_le_of_lt Nat.and_le_left h1)
  rw [all_val n0 n10, zshl_pow ha.1 (by omega), zandn_nat (by omega), zshl_pow hb.1 (by omega), zandn_nat (by omega)]
  congr 1
  unfold wo two
  apply Nat.eq_of_testBit_eq
  intro j
  simp only [Nat.testBit_xor, Nat.testBit_and, Nat.testBit_or]
  cases (2 ^ n.toNat - 1).testBit j <;> cases (2 ^ a.toNat).testBit j <;> cases (2 ^ b.toNat).testBit j <;> rfl
variable {S : St} {Qr : Int → St → Prop} {Qx : String → St → Prop}
end HANG2
