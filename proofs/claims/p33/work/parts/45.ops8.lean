/-! CALLS IN PAIRS: told stresses -/
section OP8
theorem mul99 {a b : Int} (ha : -99 ≤ a ∧ a ≤ 99) (hb : -100 ≤ b ∧ b ≤ 100) : -9900 ≤ a * b ∧ a * b ≤ 9900 := by
  rcases Int.le_total 0 a with q | q <;> rcases Int.le_total 0 b with q2 | q2
  · have := mulb q ha.2 q2 hb.2; omega
  · have := mulb (b := -b) (N := 100) q ha.2 (by omega) (by omega)
    rw [Int.mul_neg] at this; omega
  · have := mulb (a := -a) (M := 99) (by omega) (by omega) q2 hb.2
    rw [Int.neg_mul] at this; omega
  · have := mulb (a := -a) (b := -b) (M := 99) (N := 100) (by omega) (by omega) (by omega) (by omega)
    rw [Int.neg_mul_neg] at this; omega
def oth (V : St) (j k : Int) : Int := if V 11 k = j then V 12 k else V 11 k
def trm (V : St) (g : Nat) (j k : Int) : Int := V 14 k * (V g (oth V j k) - V g j)
def bsN (V : St) (g : Nat) (j : Int) : Nat → Int
  | 0 => 0
  | n + 1 => bsN V g j n + (if mEnd V j (n : Int) then trm V g j (n : Int) else 0)
def bs (V : St) (g : Nat) (j i : Int) : Int := bsN V g j i.toNat
theorem bs_s {V : St} {g : Nat} {j i : Int} (h : 0 ≤ i) : bs V g j (i + 1) = bs V g j i + (if mEnd V j i then trm V g j i else 0) := by
  unfold bs
  rw [show (i + 1).toNat = i.toNat + 1 by omega]
  show bsN V g j i.toNat + (if mEnd V j ((i.toNat : Nat) : Int) then trm V g j ((i.toNat : Nat) : Int) else 0) = _
  rw [Int.toNat_of_nonneg h]
theorem trm_rg {V : St} {g : Nat} {j k : Int} (hI : Inv V) (hg : g = 7 ∨ g = 8) (j0 : 0 ≤ j) (j1 : j < V 1 0) (k0 : 0 ≤ k) (k1 : k < V 2 0) (he : V 15 k = 0) : -9900 ≤ trm V g j k ∧ trm V g j k ≤ 9900 := by
  obtain ⟨⟨n0, n10, m0, m40, hE⟩, ⟨_, _, hP⟩, _, ht, _⟩ := hI
  obtain ⟨b1, b2, b3, b4, b5, b6⟩ := hE k k0 k1
  obtain ⟨b7, b8⟩ := b6 he
  have ho : 0 ≤ oth V j k ∧ oth V j k < V 1 0 := by unfold oth; split <;> omega
  have p1 := hP _ ho.1 ho.2
  have p2 := hP j j0 j1
  refine mul99 (ht k) ?_
  rcases hg with rfl | rfl <;> omega
theorem bs_rg {V : St} {g : Nat} {j : Int} (hI : Inv V) (hg : g = 7 ∨ g = 8) (j0 : 0 ≤ j) (j1 : j < V 1 0) : ∀ (d : Nat) (i : Int), i = d → i ≤ V 2 0 → -9900 * i ≤ bs V g j i ∧ bs V g j i ≤ 9900 * i := by
  intro d
  induction d with
  | zero => intro i hi _; rw [hi]; exact ⟨Int.le_refl _, Int.le_refl _⟩
  | succ d ih =>
    intro i hi hm
    have h1 := ih (i - 1) (by omega) (by omega)
    have hs := bs_s (V := V) (g := g) (j := j) (i := i - 1) (by omega)
    rw [Int.sub_add_cancel] at hs
    rw [hs]
    by_cases q : mEnd V j (i - 1) = true
    · rw [if_pos q]
      have q' := of_decide_eq_true q
      have := trm_rg hI hg j0 j1 (show 0 ≤ i - 1 by omega) (by omega) q'.1
      omega
    · rw [if_neg q]; omega
def bal (V : St) (j : Int) : Bool := decide (bs V 7 j (V 2 0) = 0 ∧ bs V 8 j (V 2 0) = 0)
variable {S : St} {Qr : Int → St → Prop} {Qx : String → St → Prop}
theorem sp_X6_isBalanced {j : Int} (hI : Inv (vw S)) (j0 : 0 ≤ j) (j1 : j < vw S 1 0) (h : Qr (if bal (vw S) j then 1 else 0) S) : M_X6_isBalanced j S Qr Qx := by
  obtain ⟨n0, n10, m0, m40, hE⟩ := hI.1
  have key : ∀ (d : Nat) (i : Int), 0 ≤ i → i + d = vw S 2 0 → R_X6_isBalanced_7 j (bs (vw S) 7 j i) (bs (vw S) 8 j i) i S Qr Qx := by
    intro d
    induction d with
    | zero =>
      intro i hi0 hi
      have e : i = vw S 2 0 := by omega
      rw [e]
      refine vc_X6_isBalanced_7 fun _ _ _ _ _ => ⟨fun _ => ⟨fun q => ?_, fun q => ⟨fun q2 => ?_, fun q2 => ?_⟩⟩, fun z => absurd z (by show ¬ S 2 5 < S 2 5; omega)⟩
      · rw [show bal (vw S) j = false from decide_eq_false fun z => q z.1] at h; exact h
      · rw [show bal (vw S) j = false from decide_eq_false fun z => q2 z.2] at h; exact h
      · rw [show bal (vw S) j = true from decide_eq_true ⟨q, q2⟩] at h; exact h
    | succ d ih =>
      intro i hi0 hi
      have hlt : i < vw S 2 0 := by omega
      have hnx := ih (i + 1) (by omega) (by omega)
      rw [bs_s hi0, bs_s hi0] at hnx
      have r7 := bs_rg hI (Or.inl rfl) j0 j1 i.toNat i (by omega) (by omega)
      have r8 := bs_rg hI (Or.inr rfl) j0 j1 i.toNat i (by omega) (by omega)
      obtain ⟨b1, b2, b3, b4, b5, b6⟩ := hE i hi0 hlt
      have hno : mEnd (vw S) j i = false → r32 (i + 1) ∧ R_X6_isBalanced_7 j (bs (vw S) 7 j i) (bs (vw S) 8 j i) (i + 1) S Qr Qx := fun q => by
        rw [q] at hnx
        simp only [Bool.false_eq_true, if_false, Int.add_zero] at hnx
        exact ⟨⟨by omega, by omega⟩, hnx⟩
      refine vc_X6_isBalanced_7 fun _ _ _ _ _ => ⟨fun z => absurd z (by show ¬ S 2 5 ≤ i; have : S 2 5 = vw S 2 0 := rfl; omega), fun _ => sp_X3_has m40 (fun p1 p2 p3 _ _ => ⟨fun z => absurd z (by decide), fun _ => sp_X3_endsAt hi0 (by omega) (fun p _ _ => ⟨fun z => absurd z (by decide), fun _ => ⟨⟨by omega, by omega⟩, ?_⟩⟩) (fun p _ _ => ⟨fun _ => hno (decide_eq_false fun z => p z.2), fun z => absurd rfl z⟩)⟩) (fun p _ _ => ⟨fun _ => hno (decide_eq_false fun z => p ⟨hi0, hlt, z.1⟩), fun z => absurd rfl z⟩)⟩
      have hk : mEnd (vw S) j i = true := decide_eq_true ⟨p3, p⟩
      have t7 := trm_rg hI (Or.inl rfl) j0 j1 hi0 hlt p3
      have t8 := trm_rg hI (Or.inr rfl) j0 j1 hi0 hlt p3
      rw [hk, if_pos rfl, if_pos rfl] at hnx
      refine ⟨fun q => ⟨⟨b1, b2⟩, ⟨by omega, by omega⟩, ?_⟩, fun q => ⟨⟨b3, b4⟩, ⟨by omega, by omega⟩, ?_⟩⟩
      · have eo : oth (vw S) j i = vw S 11 i := if_neg q
        unfold trm at hnx t7 t8
        rw [eo] at hnx t7 t8
        exact ⟨⟨by show -2147483648 ≤ bs (vw S) 7 j i + vw S 14 i * (vw S 7 (vw S 11 i) - vw S 7 j); omega, by show bs (vw S) 7 j i + vw S 14 i * (vw S 7 (vw S 11 i) - vw S 7 j) < 2147483648; omega⟩, ⟨by show -2147483648 ≤ bs (vw S) 8 j i + vw S 14 i * (vw S 8 (vw S 11 i) - vw S 8 j); omega, by show bs (vw S) 8 j i + vw S 14 i * (vw S 8 (vw S 11 i) - vw S 8 j) < 2147483648; omega⟩, ⟨by omega, by omega⟩, hnx⟩
      · have eo : oth (vw S) j i = vw S 12 i := if_pos q
        unfold trm at hnx t7 t8
        rw [eo] at hnx t7 t8
        exact ⟨⟨by show -2147483648 ≤ bs (vw S) 7 j i + vw S 14 i * (vw S 7 (vw S 12 i) - vw S 7 j); omega, by show bs (vw S) 7 j i + vw S 14 i * (vw S 7 (vw S 12 i) - vw S 7 j) < 2147483648; omega⟩, ⟨by show -2147483648 ≤ bs (vw S) 8 j i + vw S 14 i * (vw S 8 (vw S 12 i) - vw S 8 j); omega, by show bs (vw S) 8 j i + vw S 14 i * (vw S 8 (vw S 12 i) - vw S 8 j) < 2147483648; omega⟩, ⟨by omega, by omega⟩, hnx⟩
  exact vc_X6_isBalanced fun _ _ => key (vw S 2 0).toNat 0 (by omega) (by omega)
/-! the set of those that are not balanced -/
def unN (V : St) : Nat → Nat
  | 0 => 0
  | n + 1 => unN V n ||| (if V 9 (n : Int) = 0 ∧ bal V (n : Int) = false then 2 ^ n else 0)
def un (V : St) (i : Int) : Nat := unN V i.toNat
theorem un_s {V : St} {i : Int} (h : 0 ≤ i) : un V (i + 1) = un V i ||| (if V 9 i = 0 ∧ bal V i = false then 2 ^ i.toNat else 0) := by
  unfold un
  rw [show (i + 1).toNat = i.toNat + 1 by omega]
  show unN V i.toNat ||| (if V 9 ((i.toNat : Nat) : Int) = 0 ∧ bal V ((i.toNat : Nat) : Int) = false then 2 ^ i.toNat else 0) = _
  rw [Int.toNat_of_nonneg h]
theorem un_lt {V : St} : ∀ n : Nat, n ≤ 10 → unN V n < 2 ^ 10
  | 0, _ => by show (0 : Nat) < 2 ^ 10; decide
  | n + 1, h => by
    unfold unN
    refine Nat.or_lt_two_pow (un_lt n (by omega)) ?_
    split
    · exact Nat.pow_lt_pow_right (by decide) (by omega)
    · decide
theorem zor_set {U : Nat} {x : Int} (hU : U < 2 ^ 10) (hx0 : 0 ≤ x) (hx1 : x < 10) : zor (U : Int) (zshl 1 x) = ((U ||| 2 ^ x.toNat : Nat) : Int) := by
  have ex : x = ((x.toNat : Nat) : Int) := (Int.toNat_of_nonneg hx0).symm
  rw [ex, zshl_nat (by omega), zor_nat (by omega) (Nat.pow_lt_pow_right (by decide) (by omega)), Int.toNat_natCast]
theorem zor_zero {U : Nat} (hU : U < 2 ^ 10) : zor (U : Int) 0 = (U : Int) := by
  have := zor_nat (a := U) (b := 0) (by omega) (by decide)
  rw [Nat.or_zero] at this
  exact this
theorem sp_X6_unbalanced (hI : Inv (vw S)) (h : Qr ((un (vw S) (vw S 1 0) : Nat) : Int) S) : M_X6_unbalanced S Qr Qx := by
  obtain ⟨n0, n10, m0, m40, hE⟩ := hI.1
  have key : ∀ (d : Nat) (i : Int), 0 ≤ i → i + d = vw S 1 0 → R_X6_unbalanced_4 ((un (vw S) i : Nat) : Int) i S Qr Qx := by
    intro d
    induction d with
    | zero =>
      intro i hi0 hi
      have e : i = vw S 1 0 := by omega
      rw [e]
      exact vc_X6_unbalanced_4 fun _ _ _ => ⟨fun _ => h, fun z => absurd z (by show ¬ S 1 4 < S 1 4; omega)⟩
    | succ d ih =>
      intro i hi0 hi
      have hlt : i < vw S 1 0 := by omega
      have hnx := ih (i + 1) (by omega) (by omega)
      rw [un_s hi0] at hnx
      have hl := un_lt (V := vw S) i.toNat (by omega)
      refine vc_X6_unbalanced_4 fun _ _ _ => ⟨fun z => absurd z (by show ¬ S 1 4 ≤ i; have : S 1 4 = vw S 1 0 := rfl; omega), fun _ => ⟨⟨by omega, by omega⟩, fun q => ?_, fun q => sp_X6_isBalanced hI hi0 hlt fun _ _ => ?_⟩⟩
      · rw [if_neg (fun z => q z.1), Nat.or_zero] at hnx
        exact ⟨⟨by omega, by omega⟩, hnx⟩
      · by_cases f : bal (vw S) i = true
        · rw [if_neg (fun z => by rw [f] at z; exact absurd z.2 (by decide)), Nat.or_zero] at hnx
          rw [if_pos f]
          exact ⟨fun _ => ⟨⟨by omega, by omega⟩, hnx⟩, fun z => absurd z (by decide)⟩
        · rw [if_pos ⟨q, Bool.eq_false_iff.2 f⟩] at hnx
          rw [if_neg f]
          refine ⟨fun z => absurd rfl z, fun _ => sp_X6_bit fun _ _ => ⟨⟨by omega, by omega⟩, ?_⟩⟩
          have hz := zor_set (x := i) hl hi0 (by omega)
          show R_X6_unbalanced_4 (zor ((unN (vw S) i.toNat : Nat) : Int) (zshl 1 i)) (i + 1) S Qr Qx
          rw [hz]
          exact hnx
  exact vc_X6_unbalanced fun _ => key (vw S 1 0).toNat 0 (by omega) (by omega)
theorem pr_unbalanced {V : St} (hI : Inv V) : PairP V [] M_X6_unbalanced (fun c r V' => (c = 0 ∧ r = ((un V (V 1 0) : Nat) : Int) ∧ V' = V)) := by
  refine ⟨0, ((un V (V 1 0) : Nat) : Int), V, ⟨rfl, rfl, rfl⟩, hI, by decide, by decide, fun S hS Qr Qx h _ => ?_⟩
  · subst hS
    exact sp_X6_unbalanced hI (h rfl S rfl)
end OP8
