/-! GLOBAL: what hangs together -/
section HANG
def sub (A B : Nat) : Prop := ∀ j : Int, 0 ≤ j → j < 10 → tb A j = true → tb B j = true
theorem sub_rfl {A : Nat} : sub A A := fun _ _ _ h => h
theorem sub_tr {A B C : Nat} (h : sub A B) (h2 : sub B C) : sub A C := fun j a b c => h2 j a b (h j a b c)
theorem sub_anti {A B : Nat} (hA : A < 2 ^ 10) (hB : B < 2 ^ 10) (h : sub A B) (h2 : sub B A) : A = B := by
  apply Nat.eq_of_testBit_eq
  intro j
  by_cases q : j < 10
  · have a := h (j : Int) (by omega) (by omega)
    have b := h2 (j : Int) (by omega) (by omega)
    unfold tb at a b
    rw [Int.toNat_natCast] at a b
    cases hx : A.testBit j <;> cases hy : B.testBit j
    · rfl
    · rw [b hy] at hx; exact absurd hx (by decide)
    · rw [a hx] at hy; exact absurd hy (by decide)
    · rfl
  · rw [Nat.testBit_lt_two_pow (Nat.lt_of_lt_of_le hA (Nat.pow_le_pow_right (by decide) (by omega))), Nat.testBit_lt_two_pow (Nat.lt_of_lt_of_le hB (Nat.pow_le_pow_right (by decide) (by omega)))]
theorem pc_sub {A B : Nat} (h : sub A B) : pc A ≤ pc B := cn_mono fun j a b c => h j a b c
theorem pc_lt {A B : Nat} (hA : A < 2 ^ 10) (hB : B < 2 ^ 10) (h : sub A B) (hne : B ≠ A) : pc A < pc B := by
  have hex : ∃ j : Int, 0 ≤ j ∧ j < 10 ∧ tb B j = true ∧ tb A j = false := by
    refine Classical.byContradiction fun hn => hne (sub_anti hB hA (fun j j0 j1 hj => ?_) h)
    cases hx : tb A j
    · exact absurd ⟨j, j0, j1, hj, hx⟩ hn
    · rfl
  obtain ⟨j, j0, j1, h1, h2⟩ := hex
  have h3 := cn_orle (p := fun k => tb A k || decide (k = j)) (q := tb B) (r := fun _ => false) (i := 10) (fun k k0 k1 hk => by
    rw [Bool.or_eq_true] at hk
    rcases hk with z | z
    · exact Or.inl (h k k0 k1 z)
    · rw [of_decide_eq_true z]; exact Or.inl h1) 10 10 rfl (by decide)
  have h4 := cn_one (p := tb A) j0 h2 10 10 rfl
  rw [if_pos j1] at h4
  have h5 : cn (fun _ => false) 10 = 0 := by decide
  unfold pc
  omega
/-- closed within U -/
def clo (V : St) (m : Int) (U X : Nat) : Prop := ∀ k, 0 ≤ k → k < m → V 15 k = 0 → tb U (V 11 k) = true → tb U (V 12 k) = true → (tb X (V 11 k) = true ↔ tb X (V 12 k) = true)
def Conn (V : St) (m : Int) (U r : Nat) : Prop := ∀ X : Nat, sub r X → clo V m U X → sub U X
/-- one more round -/
def rnd (V : St) (m : Int) (U W W' : Nat) : Prop := W' < 2 ^ 10 ∧ sub W W' ∧ sub W' U ∧ (∀ X : Nat, sub W X → clo V m U X → sub W' X) ∧ (W' = W → clo V m U W)
variable {S : St} {Qr : Int → St → Prop} {Qx : String → St → Prop}
theorem tb_two {a b j : Int} (ha : 0 ≤ a) (hb : 0 ≤ b) (hj : 0 ≤ j) : tb (two a b) j = true ↔ j = a ∨ j = b := by
  unfold two
  rw [tb_or, tb_pow, tb_pow, Bool.or_eq_true, decide_eq_true_iff, decide_eq_true_iff]
  omega
theorem sp_X3_spread {W U : Nat} (hI : Inv (vw S)) (hW : W < 2 ^ 10) (hU : U < 2 ^ 10) (hWU : sub W U) (h : ∀ W', rnd (vw S) (vw S 2 0) U W W' → Qr (W' : Int) S) : M_X3_spread (W : Int) (U : Int) S Qr Qx := by
  obtain ⟨n0, n10, m0, m40, hE⟩ := hI.1
  have key : ∀ (d : Nat) (i : Int) (C : Nat), 0 ≤ i → i + d = vw S 2 0 → C < 2 ^ 10 → sub W C → sub C U → (∀ X : Nat, sub W X → clo (vw S) (vw S 2 0) U X → sub C X) → (C = W → ∀ k, 0 ≤ k → k < i → vw S 15 k = 0 → tb U (vw S 11 k) = true → tb U (vw S 12 k) = true → (tb W (vw S 11 k) = true ↔ tb W (vw S 12 k) = true)) → R_X3_spread_5 (U : Int) (C : Int) i S Qr Qx := by
    intro d
    induction d with
    | zero =>
      intro i C hi0 hi hC h1 h2 h3 h4
      have e : i = vw S 2 0 := by omega
      exact vc_X3_spread_5 fun _ _ _ _ => ⟨fun _ => h C ⟨hC, h1, h2, h3, fun z k k0 k1 => h4 z k k0 (by omega)⟩, fun z => absurd z (by rw [e]; show ¬ S 2 5 < S 2 5; omega)⟩
    | succ d ih =>
      intro i C hi0 hi hC h1 h2 h3 h4
      have hlt : i < vw S 2 0 := by omega
      obtain ⟨b1, b2, b3, b4, b5, b6⟩ := hE i hi0 hlt
      have hsame : (C = W → vw S 15 i = 0 → tb U (vw S 11 i) = true → tb U (vw S 12 i) = true → (tb W (vw S 11 i) = true ↔ tb W (vw S 12 i) = true)) → r32 (i + 1) ∧ R_X3_spread_5 (U : Int) (C : Int) (i + 1) S Qr Qx := fun q => ⟨⟨by omega, by omega⟩, ih (i + 1) C (by omega) (by omega) hC h1 h2 h3 fun z k k0 k1 => by
        by_cases w : k = i
        · rw [w]; exact q z
        · exact h4 z k k0 (by omega)⟩
      refine vc_X3_spread_5 fun _ _ _ _ => ⟨fun z => absurd z (by show ¬ S 2 5 ≤ i; have : S 2 5 = vw S 2 0 := rfl; omega), fun _ => ⟨⟨hi0, by omega⟩, sp_X6_bit fun _ _ => sp_X6_bit fun _ _ => sp_X3_has m40 (fun p1 p2 p3 => ?_) (fun p => ?_)⟩⟩
      · intro _ _
        have c1 : 0 ≤ S 11 i ∧ S 11 i < 10 := ⟨b1, b2⟩
        have c3 : 0 ≤ S 12 i ∧ S 12 i < 10 := ⟨b3, b4⟩
        have e2 := two_val (a := S 11 i) (b := S 12 i) ⟨b1, b2⟩ ⟨b3, b4⟩
        rw [e2]
        have h2l : two (S 11 i) (S 12 i) < 2 ^ 10 := two_lt ⟨b1, b2⟩ ⟨b3, b4⟩
        have zU : zand ((two (S 11 i) (S 12 i) : Nat) : Int) (U : Int) = ((U &&& two (S 11 i) (S 12 i) : Nat) : Int) := by rw [zand_nat (by omega), Nat.and_comm]
        have zC : zand ((two (S 11 i) (S 12 i) : Nat) : Int) (C : Int) = ((two (S 11 i) (S 12 i) &&& C : Nat) : Int) := zand_nat (by omega)
        rw [zU, zC]
        have iU := two_in (a := S 11 i) (b := S 12 i) (U := U) b1 b3
        rw [Bool.and_eq_true] at iU
        refine ⟨fun z => absurd z (by decide), fun _ => ⟨fun q => hsame fun _ _ u1 u2 => absurd (iU.2 ⟨u1, u2⟩) (fun z => q (by rw [z])), fun q => ?_⟩⟩
        have uu := iU.1 (by omega)
        refine ⟨fun q2 => hsame fun z _ _ _ => ?_, fun q2 => ⟨⟨by omega, by omega⟩, ?_⟩⟩
        · have hz : two (S 11 i) (S 12 i) &&& C = 0 := by omega
          have hn : ∀ j : Int, 0 ≤ j → (j = S 11 i ∨ j = S 12 i) → tb C j = false := fun j j0 hj => by
            have := congrArg (fun x : Nat => tb x j) hz
            simp only [tb_and] at this
            rw [(tb_two c1.1 c3.1 j0).2 hj, Bool.true_and] at this
            rw [this]; unfold tb; exact Nat.zero_testBit _
          rw [← z]
          have q11 : tb C (vw S 11 i) = false := hn _ b1 (Or.inl rfl)
          have q12 : tb C (vw S 12 i) = false := hn _ b3 (Or.inr rfl)
          rw [q11, q12]
        · rw [zor_nat (by omega) (by omega)]
          have hor : ∀ j : Int, tb (C ||| two (S 11 i) (S 12 i)) j = (tb C j || tb (two (S 11 i) (S 12 i)) j) := fun j => tb_or _ _ _
          have hsome : ∃ j : Int, (j = S 11 i ∨ j = S 12 i) ∧ tb C j = true := by
            refine Classical.byContradiction fun hn => q2 ?_
            have : two (S 11 i) (S 12 i) &&& C = 0 := by
              apply Nat.eq_of_testBit_eq
              intro j
              rw [Nat.zero_testBit, Nat.testBit_and]
              cases hx : (two (S 11 i) (S 12 i)).testBit j
              · rfl
              · have hj := (tb_two (j := (j : Int)) c1.1 c3.1 (by omega)).1 (by unfold tb; rw [Int.toNat_natCast]; exact hx)
                cases hy : C.testBit j
                · rfl
                · exact absurd ⟨(j : Int), hj, by unfold tb; rw [Int.toNat_natCast]; exact hy⟩ hn
            omega
          obtain ⟨j, hj, hjc⟩ := hsome
          refine ih (i + 1) _ (by omega) (by omega) (Nat.or_lt_two_pow hC h2l) (fun x x0 x1 hx => by rw [hor, h1 x x0 x1 hx]; rfl) (fun x x0 x1 hx => by
            rw [hor, Bool.or_eq_true] at hx
            rcases hx with z | z
            · exact h2 x x0 x1 z
            · rcases (tb_two c1.1 c3.1 x0).1 z with w | w
              · rw [w]; exact uu.1
              · rw [w]; exact uu.2) (fun X hX hcl x x0 x1 hx => by
            rw [hor, Bool.or_eq_true] at hx
            rcases hx with z | z
            · exact h3 X hX hcl x x0 x1 z
            · have hc := hcl i hi0 hlt p3 uu.1 uu.2
              have hc' : tb X (S 11 i) = true ↔ tb X (S 12 i) = true := hc
              have hjX : tb X j = true := h3 X hX hcl j (by omega) (by omega) hjc
              rcases hj with y | y
              · rw [y] at hjX
                rcases (tb_two c1.1 c3.1 x0).1 z with w | w
                · rw [w]; exact hjX
                · rw [w]; exact hc'.1 hjX
              · rw [y] at hjX
                rcases (tb_two c1.1 c3.1 x0).1 z with w | w
                · rw [w]; exact hc'.2 hjX
                · rw [w]; exact hjX) (fun z k k0 k1 k2 k3 k4 => ?_)
          have hCW : C = W := by
            refine sub_anti hC hW (fun x x0 x1 hx => ?_) h1
            rw [← z, hor, hx]; rfl
          by_cases w : k = i
          · rw [w]
            have t1 : tb W (S 11 i) = true := by rw [← z, hor, (tb_two c1.1 c3.1 c1.1).2 (Or.inl rfl), Bool.or_true]
            have t2 : tb W (S 12 i) = true := by rw [← z, hor, (tb_two c1.1 c3.1 c3.1).2 (Or.inr rfl), Bool.or_true]
            exact ⟨fun _ => t2, fun _ => t1⟩
          · exact h4 hCW k k0 (by omega) k2 k3 k4
      · intro _ _
        exact ⟨fun _ => hsame fun _ z _ _ => absurd ⟨hi0, hlt, z⟩ p, fun z => absurd rfl z⟩
  exact vc_X3_spread fun _ _ _ => key (vw S 2 0).toNat 0 W (by omega) (by omega) hW sub_rfl hWU (fun X hX _ => hX) fun _ k k0 k1 => by omega
theorem zand_sub {U : Nat} (hU : U < 2 ^ 31) (z : Int) : ∃ w : Nat, zand (U : Int) z = ((U &&& w : Nat) : Int) := by
  refine ⟨(Int32.ofInt z).toBitVec.toNat, ?_⟩
  have e : Int32.ofNat (Int32.ofInt z).toBitVec.toNat = Int32.ofInt z := by
    apply Int32.toBitVec_inj.1
    show BitVec.ofNat 32 (Int32.ofInt z).toBitVec.toNat = _
    rw [BitVec.ofNat_toNat, BitVec.setWidth_eq]
  unfold zand
  rw [of_nat32, ← e, and_nat32, ti_nat32 (Nat.lt_of_le_of_lt Nat.and_le_left hU), e]
/-- rounds end closed -/
theorem rnd_next {V : St} {m : Int} {U r R R' : Nat} {q n : Int} (hU : U < 2 ^ 10) (hR : R < 2 ^ 10) (h : rnd V m U R R') (hX : ∀ X : Nat, sub r X → clo V m U X → sub R X) (hq : clo V m U R ∨ q ≤ pc R) : (∀ X : Nat, sub r X → clo V m U X → sub R' X) ∧ (clo V m U R' ∨ q + 1 ≤ pc R') := by
  obtain ⟨a, b, c, d, e⟩ := h
  refine ⟨fun X x1 x2 => d X (hX X x1 x2) x2, ?_⟩
  by_cases w : R' = R
  · left; rw [w]; exact e w
  · have hl := pc_lt hR a b w
    rcases hq with z | z
    · exact absurd (sub_anti a hR (d R sub_rfl z) b) w
    · exact Or.inr (by omega)
theorem sp_X6_hangsTogether {U : Nat} (hI : Inv (vw S)) (hU : U < 2 ^ 10) (hpc : pc U < vw S 1 0) (h1 : ∀ r : Nat, zand (U : Int) (-(U : Int)) = (r : Int) → Conn (vw S) (vw S 2 0) U r → Qr 1 S) (h0 : ∀ r : Nat, zand (U : Int) (-(U : Int)) = (r : Int) → ¬ Conn (vw S) (vw S 2 0) U r → Qr 0 S) : M_X6_hangsTogether (U : Int) S Qr Qx := by
  obtain ⟨w, hw⟩ := zand_sub (U := U) (by omega) (-(U : Int))
  have hr : U &&& w < 2 ^ 10 := Nat.lt_of_le_of_lt Nat.and_le_left hU
  have hrs : sub (U &&& w) U := fun j _ _ h => by rw [tb_and, Bool.and_eq_true] at h; exact h.1
  have n10 := hI.1.2.1
  have fin : ∀ (R : Nat), R < 2 ^ 10 → sub R U → (∀ X : Nat, sub (U &&& w) X → clo (vw S) (vw S 2 0) U X → sub R X) → sub (U &&& w) R → (R = U → Qr 1 S) ∧ (clo (vw S) (vw S 2 0) U R → R ≠ U → Qr 0 S) := fun R hR a b c => by
    refine ⟨fun z => h1 _ hw fun X x1 x2 => ?_, fun z z2 => h0 _ hw fun hc => z2 (sub_anti hR hU a (hc R c z))⟩
    have := b X x1 x2
    rw [z] at this
    exact this
  have key : ∀ (d : Nat) (q : Int) (R : Nat), 0 ≤ q → q + d = vw S 1 0 → R < 2 ^ 10 → sub R U → (∀ X : Nat, sub (U &&& w) X → clo (vw S) (vw S 2 0) U X → sub R X) → sub (U &&& w) R → (clo (vw S) (vw S 2 0) U R ∨ q ≤ pc R) → R_X6_hangsTogether_7 (U : Int) (R : Int) q S Qr Qx := by
    intro d
    induction d with
    | zero =>
      intro q R hq0 hq hR a b c hd
      obtain ⟨f1, f2⟩ := fin R hR a b c
      have hp := pc_sub a
      refine vc_X6_hangsTogether_7 fun _ _ _ _ => ⟨fun _ => ⟨fun z => f2 (hd.resolve_right (by omega)) (by omega), fun z => f1 (by omega)⟩, fun z => absurd z (by show ¬ q < S 1 4; have : S 1 4 = vw S 1 0 := rfl; omega)⟩
    | succ d ih =>
      intro q R hq0 hq hR a b c hd
      obtain ⟨f1, f2⟩ := fin R hR a b c
      refine vc_X6_hangsTogether_7 fun _ _ _ _ => ⟨fun z => absurd z (by show ¬ S 1 4 ≤ q; have : S 1 4 = vw S 1 0 := rfl; omega), fun _ => ⟨fun z => ⟨fun z2 => absurd z z2, fun _ => f1 (by omega)⟩, fun z => sp_X3_spread hI hR hU a fun W' hW' _ _ => ?_⟩⟩
      obtain ⟨g1, g2⟩ := rnd_next (q := q) (n := 0) hU hR hW' b hd
      exact ⟨⟨by omega, by omega⟩, ih (q + 1) W' (by omega) (by omega) hW'.1 hW'.2.2.1 g1 (sub_tr c hW'.2.1) g2⟩
  refine vc_X6_hangsTogether fun _ _ => ?_
  rw [hw]
  exact key (vw S 1 0).toNat 0 (U &&& w) (by decide) (by have := hI.1.1; omega) hr hrs (fun X x _ => x) sub_rfl (Or.inr (pc_rng _).1)
end HANG
