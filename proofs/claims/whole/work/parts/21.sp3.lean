/-! the reference's small methods -/
section SPM
variable {S : St} {Qr : Int → St → Prop} {Qx : String → St → Prop}
theorem sp_X7_isIn {a b c : Int} (h1 : b ≤ a → a ≤ c → Qr 1 S) (h0 : ¬ (b ≤ a ∧ a ≤ c) → Qr 0 S) : M_X7_isIn a b c S Qr Qx :=
  vc_X7_isIn fun _ _ _ _ => ⟨fun q => h0 (by omega), fun q => ⟨fun q2 => h0 (by omega), fun q2 => h1 q q2⟩⟩
theorem sp_X7_holds {a : Int} (h1 : a = 0 → Qr 1 (up S 0 0 a)) (h0 : a ≠ 0 → Qr 0 (up S 0 0 a)) : M_X7_holds a S Qr Qx :=
  vc_X7_holds fun _ _ => ⟨h0, h1⟩
theorem sp_X7_isJoint {a : Int} (hn0 : 0 ≤ S 0 1) (hn : S 0 1 ≤ 10) (h1 : 0 ≤ a → a < S 0 1 → Qr 1 S) (h0 : ¬ (0 ≤ a ∧ a < S 0 1) → Qr 0 S) : M_X7_isJoint a S Qr Qx :=
  vc_X7_isJoint fun _ _ => ⟨⟨by omega, by omega⟩, sp_X7_isIn (fun p q => fun _ _ => ⟨⟨by decide, by decide⟩, h1 p (by omega)⟩) (fun p => fun _ _ => ⟨⟨by decide, by decide⟩, h0 (by omega)⟩)⟩
theorem sp_X7_isMember {a : Int} (hn0 : 0 ≤ S 0 6) (hn : S 0 6 ≤ 40) (h1 : 0 ≤ a → a < S 0 6 → S 9 a = 0 → Qr 1 S) (h0 : ¬ (0 ≤ a ∧ a < S 0 6 ∧ S 9 a = 0) → Qr 0 S) : M_X7_isMember a S Qr Qx :=
  vc_X7_isMember fun _ _ => ⟨⟨by omega, by omega⟩, sp_X7_isIn (fun p q => fun _ _ => ⟨fun z => absurd z (by decide), fun _ => ⟨⟨p, by omega⟩, fun q3 => h0 (by omega), fun q3 => h1 p (by omega) q3⟩⟩) (fun p => fun _ _ => ⟨fun _ => h0 (by omega), fun z => absurd rfl z⟩)⟩
theorem sp_X7_isPoint {a b : Int} (h1 : inPt a b → Qr 1 S) (h0 : ¬ inPt a b → Qr 0 S) : M_X7_isPoint a b S Qr Qx :=
  vc_X7_isPoint fun _ _ _ => sp_X7_isIn (fun p q => fun _ _ => ⟨fun z => absurd z (by decide), fun _ => sp_X7_isIn (fun p2 q2 => fun _ _ => ⟨fun z => absurd z (by decide), fun _ => h1 ⟨p, q, p2, q2⟩⟩) (fun z => fun _ _ => ⟨fun _ => h0 (by unfold inPt; omega), fun z => absurd rfl z⟩)⟩) (fun z => fun _ _ => ⟨fun _ => h0 (by unfold inPt; omega), fun z => absurd rfl z⟩)
theorem sp_X7_adds {a b : Int} (hn : 0 ≤ S 0 1) (hn2 : S 0 1 < 10) (h : Qr (S 0 1) (up (up (up (up (up S 1 (S 0 1) a) 2 (S 0 1) b) 3 (S 0 1) 0) 4 (S 0 1) (-1)) 0 1 (S 0 1 + 1))) : M_X7_adds a b S Qr Qx :=
  vc_X7_adds fun _ _ _ => ⟨⟨hn, hn2⟩, ⟨by omega, by omega⟩, ⟨by omega, by omega⟩, by rw [Int.add_sub_cancel]; exact h⟩
theorem sp_X7_sets {a b c : Int} (hn : 0 ≤ S 0 6) (hn2 : S 0 6 < 40) (h : Qr (S 0 6) (up (up (up (up S 5 (S 0 6) a) 6 (S 0 6) b) 7 (S 0 6) c) 0 6 (S 0 6 + 1))) : M_X7_sets a b c S Qr Qx :=
  vc_X7_sets fun _ _ _ _ => ⟨⟨hn, hn2⟩, ⟨by omega, by omega⟩, ⟨by omega, by omega⟩, by rw [Int.add_sub_cancel]; exact h⟩
theorem sp_X7_many (hc0 : 0 ≤ S 0 6) (hc : S 0 6 ≤ 40) (h : Qr (cn (mThere (cs S)) (S 0 6)) S) : M_X7_many S Qr Qx := by
  refine vc_X7_many fun _ => ?_
  have key : ∀ (d : Nat) (i : Int), 0 ≤ i → i + d = S 0 6 → R_X7_many_4 (cn (mThere (cs S)) i) i S Qr Qx := by
    intro d
    induction d with
    | zero =>
      intro i h0 hi
      have e : i = S 0 6 := by omega
      exact vc_X7_many_4 fun _ _ hok => ⟨fun _ => by rw [e]; exact h, fun q => absurd q (by omega)⟩
    | succ d ih =>
      intro i h0 hi
      have hrg := cn_rng (mThere (cs S)) h0
      have hnx := ih (i + 1) (by omega) (by omega)
      refine vc_X7_many_4 fun _ _ hok => ⟨fun q => absurd q (by omega), fun q => ⟨⟨h0, by omega⟩, fun p => ?_, fun p => ?_⟩⟩
      · refine ⟨⟨by omega, by omega⟩, ⟨by omega, by omega⟩, ?_⟩
        rw [cn_t h0 (show mThere (cs S) i = true from by unfold mThere; exact decide_eq_true p)] at hnx
        exact hnx
      · refine ⟨⟨by omega, by omega⟩, ⟨by omega, by omega⟩, ?_⟩
        rw [cn_f h0 (show mThere (cs S) i = false from by unfold mThere; exact decide_eq_false p)] at hnx
        rw [Int.add_zero]
        exact hnx
  exact key (S 0 6).toNat 0 (by omega) (by omega)
/-- the pair, in either order -/
def mPair (V : St) (a b k : Int) : Prop := V 15 k = 0 ∧ ((V 11 k = a ∧ V 12 k = b) ∨ (V 11 k = b ∧ V 12 k = a))
theorem sp_X7_between {a b : Int} (hc0 : 0 ≤ S 0 6) (hc : S 0 6 ≤ 40) (h1 : ∀ k, 0 ≤ k → k < S 0 6 → mPair (cs S) a b k → Qr k S) (h0 : (∀ k, 0 ≤ k → k < S 0 6 → ¬ mPair (cs S) a b k) → Qr (-1) S) : M_X7_between a b S Qr Qx := by
  refine vc_X7_between fun ha hb _ => ?_
  have key : ∀ (d : Nat) (i f : Int), 0 ≤ i → i + d = S 0 6 → -1 ≤ f → f < i → (f = -1 → ∀ k, 0 ≤ k → k < i → ¬ mPair (cs S) a b k) → (f ≠ -1 → mPair (cs S) a b f) → R_X7_between_5 a b f i S Qr Qx := by
    intro d
    induction d with
    | zero =>
      intro i f hi0 hi hf1 hf2 hno hyes
      refine vc_X7_between_5 fun _ _ _ _ hok => ⟨fun _ => ?_, fun q => absurd q (by omega)⟩
      by_cases e : f = -1
      · rw [e]; exact h0 (fun k k0 k1 => hno e k k0 (by omega))
      · exact h1 f (by omega) (by omega) (hyes e)
    | succ d ih =>
      intro i f hi0 hi hf1 hf2 hno hyes
      have hN : ¬ mPair (cs S) a b i → r32 (i + 1) ∧ R_X7_between_5 a b f (i + 1) S Qr Qx := fun hz => ⟨⟨by omega, by omega⟩, ih (i + 1) f (by omega) (by omega) hf1 (by omega) (fun e k k0 k1 => by
        rcases Int.lt_or_eq_of_le (show k ≤ i by omega) with q | q
        · exact hno e k k0 q
        · rw [q]; exact hz) hyes⟩
      have hY : mPair (cs S) a b i → r32 (i + 1) ∧ R_X7_between_5 a b i (i + 1) S Qr Qx := fun hz => ⟨⟨by omega, by omega⟩, ih (i + 1) i (by omega) (by omega) (by omega) (by omega) (fun e => absurd e (by omega)) (fun _ => hz)⟩
      have n1 : S 5 i ≠ a → S 5 i ≠ b → ¬ mPair (cs S) a b i := fun p1 p2 z => by
        rcases z.2 with ⟨z1, _⟩ | ⟨z1, _⟩
        · exact p1 z1
        · exact p2 z1
      have n2 : S 5 i ≠ a → S 6 i ≠ a → ¬ mPair (cs S) a b i := fun p1 p2 z => by
        rcases z.2 with ⟨z1, _⟩ | ⟨_, z1⟩
        · exact p1 z1
        · exact p2 z1
      have n3 : S 9 i ≠ 0 → ¬ mPair (cs S) a b i := fun p z => p z.1
      have n4 : S 6 i ≠ b → S 6 i ≠ a → ¬ mPair (cs S) a b i := fun p1 p2 z => by
        rcases z.2 with ⟨_, z1⟩ | ⟨_, z1⟩
        · exact p1 z1
        · exact p2 z1
      have n5 : S 6 i ≠ b → S 5 i ≠ b → ¬ mPair (cs S) a b i := fun p1 p2 z => by
        rcases z.2 with ⟨_, z1⟩ | ⟨z1, _⟩
        · exact p1 z1
        · exact p2 z1
      exact vc_X7_between_5 fun _ _ _ _ hok => ⟨fun q => absurd q (by omega), fun q => ⟨⟨hi0, by omega⟩,
        fun p => ⟨fun p2 => hN (n1 p p2), fun p2 => ⟨fun p3 => hN (n2 p p3), fun p3 => ⟨fun p4 => hN (n3 p4), fun p4 => hY ⟨p4, Or.inr ⟨p2, p3⟩⟩⟩⟩⟩,
        fun p => ⟨fun p2 => ⟨fun p4 => hN (n3 p4), fun p4 => hY ⟨p4, Or.inl ⟨p, p2⟩⟩⟩, fun p2 => ⟨fun p3 => hN (n5 p2 p3), fun p3 => ⟨fun p4 => hN (n4 p2 p4), fun p4 => ⟨fun p5 => hN (n3 p5), fun p5 => hY ⟨p5, Or.inr ⟨p3, p4⟩⟩⟩⟩⟩⟩⟩⟩
  exact key (S 0 6).toNat 0 (-1) (by omega) (by omega) (by omega) (by omega) (fun _ k k0 k1 => absurd k1 (by omega)) (fun e => absurd rfl e)
theorem sp_X7_within {a : Int} (ha : r64 a) (h : Qr (a % 1000003) S) : M_X7_within a S Qr Qx := by
  have h1 : Int.tmod a 1000003 = a % 1000003 ∨ (Int.tmod a 1000003 < 0 ∧ Int.tmod a 1000003 + 1000003 = a % 1000003) := by
    have e := Int.tmod_def a 1000003
    rcases Int.le_total 0 a with q | q
    · left; exact Int.tmod_eq_emod_of_nonneg q
    · have e2 : Int.tmod a 1000003 = -((-a) % 1000003) := by
        rw [← Int.tmod_eq_emod_of_nonneg (show 0 ≤ -a by omega), Int.neg_tmod, Int.neg_neg]
      omega
  have hb := Int.emod_nonneg a (show (1000003 : Int) ≠ 0 by decide)
  have hb2 := Int.emod_lt_of_pos a (show (0 : Int) < 1000003 by decide)
  refine vc_X7_within fun _ _ => ⟨⟨by omega, by omega⟩, fun q => ?_, fun q => ⟨⟨by omega, by omega⟩, ?_⟩⟩
  · rcases h1 with h1 | h1
    · rw [h1]; exact h
    · omega
  · rcases h1 with h1 | h1
    · omega
    · rw [h1.2]; exact h
/-! sets as naturals -/
def tb (U : Nat) (i : Int) : Bool := U.testBit i.toNat
def pc (U : Nat) : Int := cn (tb U) 10
theorem tb_or (U W : Nat) (i : Int) : tb (U ||| W) i = (tb U i || tb W i) := Nat.testBit_or ..
theorem tb_and (U W : Nat) (i : Int) : tb (U &&& W) i = (tb U i && tb W i) := Nat.testBit_and ..
theorem tb_pow (a i : Int) : tb (2 ^ a.toNat) i = decide (a.toNat = i.toNat) := by
  unfold tb
  rw [Nat.testBit_two_pow]
theorem bit_val {U : Nat} (hU : U < 2 ^ 31) {i : Int} (h0 : 0 ≤ i) (h1 : i < 31) : zand (zshr (U : Int) i) 1 = if tb U i then 1 else 0 := by
  have e : i = ((i.toNat : Nat) : Int) := (Int.toNat_of_nonneg h0).symm
  rw [e, zshr_nat hU (by omega)]
  have e1 : zand ((U / 2 ^ i.toNat : Nat) : Int) 1 = ((U / 2 ^ i.toNat &&& 1 : Nat) : Int) := zand_nat (b := 1) (Nat.lt_of_le_of_lt (Nat.div_le_self _ _) hU)
  rw [e1, Nat.and_one_is_mod]
  unfold tb
  rw [Int.toNat_natCast, Nat.testBit_eq_decide_div_mod_eq]
  rcases Nat.mod_two_eq_zero_or_one (U / 2 ^ i.toNat) with q | q <;> simp [q]
theorem sp_X7_bits {U : Nat} (hU : U < 2 ^ 31) (h : Qr (pc U) S) : M_X7_bits (U : Int) S Qr Qx := by
  refine vc_X7_bits fun _ _ => ?_
  have key : ∀ (d : Nat) (i : Int), 0 ≤ i → i + d = 10 → R_X7_bits_4 (U : Int) (cn (tb U) i) i S Qr Qx := by
    intro d
    induction d with
    | zero =>
      intro i h0 hi
      have e : i = 10 := by omega
      exact vc_X7_bits_4 fun _ _ _ hok => ⟨fun _ => by rw [e]; exact h, fun q => absurd q (by omega)⟩
    | succ d ih =>
      intro i h0 hi
      have hrg := cn_rng (tb U) h0
      have hnx := ih (i + 1) (by omega) (by omega)
      rw [cn_s h0] at hnx
      refine vc_X7_bits_4 fun _ _ _ hok => ⟨fun q => absurd q (by omega), fun q => ?_⟩
      rw [bit_val hU h0 (by omega)]
      exact ⟨by split <;> constructor <;> omega, ⟨by omega, by omega⟩, hnx⟩
  exact key 10 0 (by omega) (by omega)
theorem pc_rng (U : Nat) : 0 ≤ pc U ∧ pc U ≤ 10 := cn_rng _ (by decide)
/-- the neighbours among the first members -/
def nrN (V : St) (j : Int) : Nat → Nat
  | 0 => 0
  | n + 1 => nrN V j n ||| (if V 15 n = 0 then (if V 11 n = j then 2 ^ (V 12 n).toNat else if V 12 n = j then 2 ^ (V 11 n).toNat else 0) else 0)
def nr (V : St) (j i : Int) : Nat := nrN V j i.toNat
theorem nr_s {V : St} {j i : Int} (h : 0 ≤ i) : nr V j (i + 1) = nr V j i ||| (if V 15 i = 0 then (if V 11 i = j then 2 ^ (V 12 i).toNat else if V 12 i = j then 2 ^ (V 11 i).toNat else 0) else 0) := by
  unfold nr
  rw [show (i + 1).toNat = i.toNat + 1 by omega]
  show nrN V j i.toNat ||| (if V 15 ((i.toNat : Nat) : Int) = 0 then (if V 11 ((i.toNat : Nat) : Int) = j then 2 ^ (V 12 ((i.toNat : Nat) : Int)).toNat else if V 12 ((i.toNat : Nat) : Int) = j then 2 ^ (V 11 ((i.toNat : Nat) : Int)).toNat else 0) else 0) = _
  rw [Int.toNat_of_nonneg h]
/-- ends of members, in range -/
def ends (V : St) (m : Int) : Prop := ∀ k, 0 ≤ k → k < m → 0 ≤ V 11 k ∧ V 11 k < 10 ∧ 0 ≤ V 12 k ∧ V 12 k < 10
theorem nr_lt {V : St} {j : Int} {m : Int} (hE : ends V m) : ∀ (d : Nat) (i : Int), i = d → i ≤ m → nr V j i < 2 ^ 10 := by
  intro d
  induction d with
  | zero => intro i hi _; rw [hi]; show (0 : Nat) < 2 ^ 10; decide
  | succ d ih =>
    intro i hi hm
    have h0 := ih (i - 1) (by omega) (by omega)
    have e := hE (i - 1) (by omega) (by omega)
    have hs := nr_s (V := V) (j := j) (i := i - 1) (by omega)
    rw [Int.sub_add_cancel] at hs
    rw [hs]
    refine Nat.or_lt_two_pow h0 ?_
    split
    · split
      · exact Nat.pow_lt_pow_right (by decide) (by omega)
      · split
        · exact Nat.pow_lt_pow_right (by decide) (by omega)
        · decide
    · decide
theorem sp_X7_near {j : Int} (hj : r32 j) (hc0 : 0 ≤ S 0 6) (hc : S 0 6 ≤ 40) (hE : ends (cs S) (S 0 6)) (h : Qr ((nr (cs S) j (S 0 6) : Nat) : Int) S) : M_X7_near j S Qr Qx := by
  refine vc_X7_near fun _ _ => ?_
  have key : ∀ (d : Nat) (i : Int), 0 ≤ i → i + d = S 0 6 → R_X7_near_4 j ((nr (cs S) j i : Nat) : Int) i S Qr Qx := by
    intro d
    induction d with
    | zero =>
      intro i h0 hi
      have e : i = S 0 6 := by omega
      exact vc_X7_near_4 fun _ _ _ hok => ⟨fun _ => by rw [e]; exact h, fun q => absurd q (by omega)⟩
    | succ d ih =>
      intro i h0 hi
      have hlt : nr (cs S) j i < 2 ^ 10 := nr_lt hE i.toNat i (by omega) (by omega)
      have hlt1 : nr (cs S) j i < 2 ^ 31 := by omega
      have hz : zor ((nr (cs S) j i : Nat) : Int) 0 = ((nr (cs S) j i : Nat) : Int) := by
        have := zor_nat (b := 0) hlt1 (by decide)
        rw [Nat.or_zero] at this
        exact this
      have hsh : ∀ x : Int, 0 ≤ x → x < 10 → zor ((nr (cs S) j i : Nat) : Int) (zshl 1 x) = ((nr (cs S) j i ||| 2 ^ x.toNat : Nat) : Int) := by
        intro x hx0 hx1
        have ex : x = ((x.toNat : Nat) : Int) := (Int.toNat_of_nonneg hx0).symm
        rw [ex, zshl_nat (by omega), zor_nat hlt1 (Nat.pow_lt_pow_right (by decide) (by omega)), Int.toNat_natCast]
      have hnx := ih (i + 1) (by omega) (by omega)
      rw [nr_s h0] at hnx
      have he := hE i h0 (by omega)
      refine vc_X7_near_4 fun _ _ _ hok => ⟨fun q => absurd q (by omega), fun q => ⟨⟨h0, by omega⟩, fun p => ⟨fun p1 => ⟨fun p2 => ?_, fun p2 => ?_⟩, fun p1 => ?_⟩, fun p => ?_⟩⟩
      · refine ⟨⟨by omega, by omega⟩, ?_⟩
        rw [if_pos (show cs S 15 i = 0 from p), if_neg (show ¬ cs S 11 i = j from p1), if_neg (show ¬ cs S 12 i = j from p2), Nat.or_zero] at hnx
        rw [hz]; exact hnx
      · refine ⟨⟨by omega, by omega⟩, ?_⟩
        rw [if_pos (show cs S 15 i = 0 from p), if_neg (show ¬ cs S 11 i = j from p1), if_pos (show cs S 12 i = j from p2)] at hnx
        rw [hsh (S 5 i) he.1 he.2.1]; exact hnx
      · refine ⟨⟨by omega, by omega⟩, ?_⟩
        rw [if_pos (show cs S 15 i = 0 from p), if_pos (show cs S 11 i = j from p1)] at hnx
        rw [hsh (S 6 i) he.2.2.1 he.2.2.2]; exact hnx
      · refine ⟨⟨by omega, by omega⟩, ?_⟩
        rw [if_neg (show ¬ cs S 15 i = 0 from p), Nat.or_zero] at hnx
        rw [hz]; exact hnx
  exact key (S 0 6).toNat 0 (by omega) (by omega)
theorem sp_X7_thrown (h : Qr (S 0 0) S) : M_X7_thrown S Qr Qx := vc_X7_thrown fun _ => h
end SPM
