/-! WHAT IS KEPT, as members come and go -/
section KPT
/-- nothing is gone or told beyond what was set -/
def IX (V : St) : Prop := ∀ k, V 2 0 ≤ k → V 15 k = 0 ∧ V 14 k = 0
theorem kc_sp {V : St} (hI : Inv V) (a : Int) : sparse V (kp V (V 1 0) a (V 2 0)) (V 1 0) := sparse_kp hI.1.2.2.2.1 (V 2 0).toNat (V 2 0) (by have := hI.1.2.2.1; omega) (Int.le_refl _)
theorem kc_le2 {V : St} (hI : Inv V) (h2 : 2 ≤ V 1 0) : kc V (-1) ≤ 2 * V 1 0 - 3 := kc_le hI.1 h2 (kc_sp hI _)
theorem kp_in {V : St} {a : Int} (hI : Inv V) {k : Int} (h : kp V (V 1 0) a (V 2 0) k = true) : 0 ≤ k ∧ k < V 2 0 ∧ mKept V a k = true := kp_true (V 2 0).toNat (V 2 0) (by have := hI.1.2.2.1; omega) k h
theorem cn_more {p : Int → Bool} {m : Int} (hm : 0 ≤ m) : ∀ (d : Nat) (i : Int), i = m + d → (∀ k, m ≤ k → k < i → p k = false) → cn p i = cn p m := by
  intro d
  induction d with
  | zero => intro i hi _; rw [show i = m by omega]
  | succ d ih =>
    intro i hi h
    have h1 := cn_f (p := p) (i := i - 1) (by omega) (h (i - 1) (by omega) (by omega))
    rw [Int.sub_add_cancel] at h1
    rw [h1]
    exact ih (i - 1) (by omega) fun k k0 k1 => h k k0 (by omega)
theorem kc_many {V : St} (hI : Inv V) : kc V (-1) ≤ cn (mThere V) (V 2 0) := by
  have m0 := hI.1.2.2.1
  have m40 := hI.1.2.2.2.1
  unfold kc
  rw [cn_more m0 (40 - V 2 0).toNat 40 (by omega) (fun k k0 k1 => by
    cases q : kp V (V 1 0) (-1) (V 2 0) k
    · rfl
    · have := kp_in hI q; omega)]
  exact cn_mono fun k k0 k1 hk => decide_eq_true ((mK_iff k0).1 (kp_in hI hk).2.2)
theorem kc_gone {V : St} {k : Int} (hI : Inv V) (k0 : 0 ≤ k) (k1 : k < V 2 0) : kc (up V 15 k 1) (-1) ≤ kc V (-1) ∧ kc V (-1) - 1 ≤ kc (up V 15 k 1) (-1) := by
  have hI' : Inv (up V 15 k 1) := Inv_gone hI
  have m40 := hI.1.2.2.2.1
  have e15 : ∀ j, up V 15 k 1 15 j = if j = k then 1 else V 15 j := fun j => up_at _ _ _ _ _
  refine ⟨kp_max hI.1 (kc_sp hI _) (J := kp (up V 15 k 1) (V 1 0) (-1) (V 2 0)) (fun j j0 j1 hj => ?_) (kc_sp hI' _), ?_⟩
  · obtain ⟨a0, a1, a2⟩ := kp_in (a := -1) hI' hj
    have a3 := (mK_iff j0).1 a2
    rw [e15] at a3
    refine ⟨a1, (mK_iff j0).2 ?_⟩
    by_cases q : j = k
    · rw [if_pos q] at a3; exact absurd a3 (by decide)
    · rw [if_neg q] at a3; exact a3
  · have hc := cn_chg20 (p := kp V (V 1 0) (-1) (V 2 0)) (q := fun j => kp V (V 1 0) (-1) (V 2 0) j && !decide (j = k)) (x := k) (N := 40) k0 (by omega) (fun j hj => by show (kp V (V 1 0) (-1) (V 2 0) j && !decide (j = k)) = _; rw [decide_eq_false hj]; cases kp V (V 1 0) (-1) (V 2 0) j <;> rfl)
    have e : (kp V (V 1 0) (-1) (V 2 0) k && !decide (k = k)) = false := by rw [decide_eq_true rfl]; cases kp V (V 1 0) (-1) (V 2 0) k <;> rfl
    have hb : bi (kp V (V 1 0) (-1) (V 2 0) k) ≤ 1 := by unfold bi; split <;> omega
    have bf : bi false = 0 := rfl
    rw [e] at hc
    have h1 : cn (fun j => kp V (V 1 0) (-1) (V 2 0) j && !decide (j = k)) 40 ≤ kc (up V 15 k 1) (-1) := by
      refine kp_max (V := up V 15 k 1) (n := V 1 0) (a := -1) hI'.1 (kc_sp hI' _) (fun j j0 j1 hj => ?_) (fun U hU hp => ?_)
      · rw [Bool.and_eq_true] at hj
        obtain ⟨a0, a1, a2⟩ := kp_in hI hj.1
        have hne : j ≠ k := fun z => by rw [decide_eq_true z] at hj; exact absurd hj.2 (by decide)
        refine ⟨a1, (mK_iff j0).2 ?_⟩
        rw [e15, if_neg hne]
        exact (mK_iff j0).1 a2
      · have h2 := kc_sp hI (-1) U hU hp
        have h3 : sp V (fun j => kp V (V 1 0) (-1) (V 2 0) j && !decide (j = k)) U ≤ sp V (kp V (V 1 0) (-1) (V 2 0)) U := cn_mono fun j _ _ hj => by
          rw [Bool.and_eq_true, Bool.and_eq_true] at hj
          rw [Bool.and_eq_true]
          exact ⟨hj.1.1, hj.2⟩
        exact Int.le_trans h3 h2
    have h4 : kc V (-1) = cn (kp V (V 1 0) (-1) (V 2 0)) 40 := rfl
    omega
theorem cn_inj {g : Int → Int} {N : Int} : ∀ (d : Nat) (M : Int) (p q : Int → Bool), M = d → (∀ k, 0 ≤ k → k < M → p k = true → (0 ≤ g k ∧ g k < N) ∧ q (g k) = true) → (∀ k k', 0 ≤ k → k < M → 0 ≤ k' → k' < M → p k = true → p k' = true → g k = g k' → k = k') → cn p M ≤ cn q N := by
  intro d
  induction d with
  | zero =>
    intro M p q hM _ _
    rw [hM]
    show (0 : Int) ≤ cn q N
    unfold cn
    exact (cnN_rng q _).1
  | succ d ih =>
    intro M p q hM h1 h2
    have hs := cn_s (p := p) (i := M - 1) (by omega)
    rw [Int.sub_add_cancel] at hs
    by_cases hp : p (M - 1) = true
    · rw [if_pos hp] at hs
      obtain ⟨⟨g0, g1⟩, g2⟩ := h1 (M - 1) (by omega) (by omega) hp
      have hc := cn_chg20 (p := q) (q := fun z => q z && !decide (z = g (M - 1))) g0 g1 (fun k hk => by show (q k && !decide (k = g (M - 1))) = q k; rw [decide_eq_false hk]; cases q k <;> rfl)
      have e : (q (g (M - 1)) && !decide (g (M - 1) = g (M - 1))) = false := by rw [decide_eq_true rfl]; cases q (g (M - 1)) <;> rfl
      rw [e, g2] at hc
      have bt : bi true = 1 := rfl
      have bf : bi false = 0 := rfl
      have h3 := ih (M - 1) p (fun z => q z && !decide (z = g (M - 1))) (by omega) (fun k k0 k1 hk => by
        obtain ⟨a, b⟩ := h1 k k0 (by omega) hk
        refine ⟨a, ?_⟩
        rw [b, decide_eq_false (fun z => by have := h2 k (M - 1) k0 (by omega) (by omega) (by omega) hk hp z; omega)]
        rfl) (fun k k' k0 k1 k2 k3 => h2 k k' k0 (by omega) k2 (by omega))
      omega
    · rw [if_neg hp] at hs
      have h3 := ih (M - 1) p q (by omega) (fun k k0 k1 => h1 k k0 (by omega)) (fun k k' k0 k1 k2 k3 => h2 k k' k0 (by omega) k2 (by omega))
      omega
theorem cn_at {q : Int → Bool} {a : Int} (ha : 0 ≤ a) : ∀ (d : Nat) (i : Int), i = d → cn q (a + i) = cn q a + cn (fun z => q (a + z)) i := by
  intro d
  induction d with
  | zero => intro i hi; rw [hi, show a + ((0 : Nat) : Int) = a by omega]; show cn q a = cn q a + 0; omega
  | succ d ih =>
    intro i hi
    have h1 := cn_s (p := q) (i := a + (i - 1)) (by omega)
    have h2 := cn_s (p := fun z => q (a + z)) (i := i - 1) (by omega)
    rw [show a + (i - 1) + 1 = a + i by omega] at h1
    rw [Int.sub_add_cancel] at h2
    rw [h1, h2, ih (i - 1) (by omega)]
    omega
/-- a joint that hangs on two members: two more are kept -/
theorem kc_grow {V : St} {a b x y : Int} (hI : Inv V) (hX : IX V) (hn : V 1 0 < 10) (hm : V 2 0 ≤ 38) (ha : 0 ≤ a ∧ a < V 1 0) (hb : 0 ≤ b ∧ b < V 1 0) (hab : a ≠ b) (hp : inPt x y) : kc (updG V a b x y) (-1) = kc V (-1) + 2 := by
  have hI' := Inv_G hI hn hm ha hb hab hp
  obtain ⟨n0, n10, m0, m40, hE⟩ := hI.1
  have e11 : ∀ j, updG V a b x y 11 j = if j = V 2 0 + 1 then b else if j = V 2 0 then a else V 11 j := fun j => rfl
  have e12 : ∀ j, updG V a b x y 12 j = if j = V 2 0 + 1 then V 1 0 else if j = V 2 0 then V 1 0 else V 12 j := fun j => rfl
  have e15 : ∀ j, updG V a b x y 15 j = V 15 j := fun j => rfl
  have en : updG V a b x y 1 0 = V 1 0 + 1 := rfl
  have em : updG V a b x y 2 0 = V 2 0 + 1 + 1 := rfl
  have bt : bi true = 1 := rfl
  have bf : bi false = 0 := rfl
  have hk0 : kp V (V 1 0) (-1) (V 2 0) (V 2 0) = false := by
    cases q : kp V (V 1 0) (-1) (V 2 0) (V 2 0)
    · rfl
    · have := kp_in hI q; omega
  have hk1 : kp V (V 1 0) (-1) (V 2 0) (V 2 0 + 1) = false := by
    cases q : kp V (V 1 0) (-1) (V 2 0) (V 2 0 + 1)
    · rfl
    · have := kp_in hI q; omega
  have hK : ∀ k, kp V (V 1 0) (-1) (V 2 0) k = true → 0 ≤ k ∧ k < V 2 0 ∧ (0 ≤ V 11 k ∧ V 11 k < V 1 0) ∧ (0 ≤ V 12 k ∧ V 12 k < V 1 0) ∧ V 11 k ≠ V 12 k ∧ V 15 k = 0 := fun k hk => by
    obtain ⟨a0, a1, a2⟩ := kp_in hI hk
    obtain ⟨b1, b2, b3, b4, b5, b6⟩ := hE k a0 a1
    have a3 := (mK_iff a0).1 a2
    obtain ⟨b7, b8⟩ := b6 a3
    exact ⟨a0, a1, ⟨b1, b7⟩, ⟨b3, b8⟩, b5, a3⟩
  apply Int.le_antisymm
  · -- no more than two
    have c1 := cn_chg20 (p := kp (updG V a b x y) (V 1 0 + 1) (-1) (V 2 0 + 1 + 1)) (q := fun j => kp (updG V a b x y) (V 1 0 + 1) (-1) (V 2 0 + 1 + 1) j && !decide (j = V 2 0)) (x := V 2 0) (N := 40) m0 (by omega) (fun j hj => by show (kp (updG V a b x y) (V 1 0 + 1) (-1) (V 2 0 + 1 + 1) j && !decide (j = V 2 0)) = _; rw [decide_eq_false hj]; cases kp (updG V a b x y) (V 1 0 + 1) (-1) (V 2 0 + 1 + 1) j <;> rfl)
    have c2 := cn_chg20 (p := fun j => kp (updG V a b x y) (V 1 0 + 1) (-1) (V 2 0 + 1 + 1) j && !decide (j = V 2 0)) (q := fun j => (kp (updG V a b x y) (V 1 0 + 1) (-1) (V 2 0 + 1 + 1) j && !decide (j = V 2 0)) && !decide (j = V 2 0 + 1)) (x := V 2 0 + 1) (N := 40) (by omega) (by omega) (fun j hj => by show ((kp (updG V a b x y) (V 1 0 + 1) (-1) (V 2 0 + 1 + 1) j && !decide (j = V 2 0)) && !decide (j = V 2 0 + 1)) = (kp (updG V a b x y) (V 1 0 + 1) (-1) (V 2 0 + 1 + 1) j && !decide (j = V 2 0)); rw [decide_eq_false hj]; cases (kp (updG V a b x y) (V 1 0 + 1) (-1) (V 2 0 + 1 + 1) j && !decide (j = V 2 0)) <;> rfl)
    have hbb : ∀ z : Bool, bi z ≤ 1 ∧ 0 ≤ bi z := fun z => by unfold bi; split <;> omega
    have d1 := hbb (kp (updG V a b x y) (V 1 0 + 1) (-1) (V 2 0 + 1 + 1) (V 2 0))
    have d2 := hbb (kp (updG V a b x y) (V 1 0 + 1) (-1) (V 2 0 + 1 + 1) (V 2 0 + 1) && !decide (V 2 0 + 1 = V 2 0))
    have d3 := hbb (kp (updG V a b x y) (V 1 0 + 1) (-1) (V 2 0 + 1 + 1) (V 2 0) && !decide (V 2 0 = V 2 0))
    have d4 := hbb ((kp (updG V a b x y) (V 1 0 + 1) (-1) (V 2 0 + 1 + 1) (V 2 0 + 1) && !decide (V 2 0 + 1 = V 2 0)) && !decide (V 2 0 + 1 = V 2 0 + 1))
    have h1 : cn (fun j => (kp (updG V a b x y) (V 1 0 + 1) (-1) (V 2 0 + 1 + 1) j && !decide (j = V 2 0)) && !decide (j = V 2 0 + 1)) 40 ≤ kc V (-1) := by
      refine kp_max hI.1 (kc_sp hI _) (fun j j0 j1 hj => ?_) (fun U hU hpc => ?_)
      · rw [Bool.and_eq_true, Bool.and_eq_true] at hj
        obtain ⟨a0, a1, a2⟩ := kp_in (a := -1) hI' hj.1.1
        have q1 : j ≠ V 2 0 := fun z => by rw [decide_eq_true z] at hj; exact absurd hj.1.2 (by decide)
        have q2 : j ≠ V 2 0 + 1 := fun z => by rw [decide_eq_true z] at hj; exact absurd hj.2 (by decide)
        rw [em] at a1
        exact ⟨by omega, (mK_iff j0).2 (by rw [← e15]; exact (mK_iff j0).1 a2)⟩
      · have h2 := kc_sp hI' (-1) U (Nat.lt_of_lt_of_le hU (Nat.pow_le_pow_right (by decide) (by rw [en]; omega))) hpc
        have h3 : sp V (fun j => (kp (updG V a b x y) (V 1 0 + 1) (-1) (V 2 0 + 1 + 1) j && !decide (j = V 2 0)) && !decide (j = V 2 0 + 1)) U ≤ sp (updG V a b x y) (kp (updG V a b x y) (V 1 0 + 1) (-1) (V 2 0 + 1 + 1)) U := cn_mono fun j _ _ hj => by
          rw [Bool.and_eq_true, Bool.and_eq_true, Bool.and_eq_true] at hj
          have q1 : j ≠ V 2 0 := fun z => by rw [decide_eq_true z] at hj; exact absurd hj.1.1.2 (by decide)
          have q2 : j ≠ V 2 0 + 1 := fun z => by rw [decide_eq_true z] at hj; exact absurd hj.1.2 (by decide)
          rw [Bool.and_eq_true, e11, e12, if_neg q1, if_neg q2, if_neg q1, if_neg q2]
          exact ⟨hj.1.1.1, hj.2⟩
        exact Int.le_trans h3 h2
    have h2 : kc (updG V a b x y) (-1) = cn (kp (updG V a b x y) (V 1 0 + 1) (-1) (V 2 0 + 1 + 1)) 40 := rfl
    omega
  · -- and two
    have c1 := cn_chg20 (p := kp V (V 1 0) (-1) (V 2 0)) (q := fun j => kp V (V 1 0) (-1) (V 2 0) j || decide (j = V 2 0)) (x := V 2 0) (N := 40) m0 (by omega) (fun j hj => by show (kp V (V 1 0) (-1) (V 2 0) j || decide (j = V 2 0)) = _; rw [decide_eq_false hj, Bool.or_false])
    have c2 := cn_chg20 (p := fun j => kp V (V 1 0) (-1) (V 2 0) j || decide (j = V 2 0)) (q := fun j => (kp V (V 1 0) (-1) (V 2 0) j || decide (j = V 2 0)) || decide (j = V 2 0 + 1)) (x := V 2 0 + 1) (N := 40) (by omega) (by omega) (fun j hj => by show ((kp V (V 1 0) (-1) (V 2 0) j || decide (j = V 2 0)) || decide (j = V 2 0 + 1)) = _; rw [decide_eq_false hj, Bool.or_false])
    rw [hk0, decide_eq_true rfl, Bool.or_true] at c1
    rw [hk1, decide_eq_true rfl, Bool.or_true, decide_eq_false (show ¬ V 2 0 + 1 = V 2 0 by omega), Bool.or_false] at c2
    have h1 : cn (fun j => (kp V (V 1 0) (-1) (V 2 0) j || decide (j = V 2 0)) || decide (j = V 2 0 + 1)) 40 ≤ kc (updG V a b x y) (-1) := by
      refine kp_max (V := updG V a b x y) (n := V 1 0 + 1) (a := -1) hI'.1 (kc_sp hI' _) (fun j j0 j1 hj => ?_) (fun U hU hpc => ?_)
      · rw [em]
        rw [Bool.or_eq_true, Bool.or_eq_true] at hj
        rcases hj with (hj | hj) | hj
        · obtain ⟨a0, a1, _, _, _, a2⟩ := hK j hj
          exact ⟨by omega, (mK_iff j0).2 (by rw [e15]; exact a2)⟩
        · have e := of_decide_eq_true hj
          exact ⟨by omega, (mK_iff j0).2 (by rw [e15]; exact (hX j (by omega)).1)⟩
        · have e := of_decide_eq_true hj
          exact ⟨by omega, (mK_iff j0).2 (by rw [e15]; exact (hX j (by omega)).1)⟩
      · -- the set without the new joint
        have hU' : U < 2 ^ ((V 1 0).toNat + 1) := by rw [show (V 1 0).toNat + 1 = (V 1 0 + 1).toNat by omega]; exact hU
        obtain ⟨W, hW, hWt⟩ : ∃ W : Nat, W < 2 ^ (V 1 0).toNat ∧ ∀ j, 0 ≤ j → tb W j = (decide (j < V 1 0) && tb U j) := by
          refine ⟨U % 2 ^ (V 1 0).toNat, Nat.mod_lt _ (Nat.two_pow_pos _), fun j j0 => ?_⟩
          unfold tb
          rw [Nat.testBit_mod_two_pow]
          congr 1
          rw [decide_eq_decide]
          omega
        have hUn : ∀ j, V 1 0 < j → tb U j = false := fun j hj => by
          unfold tb
          exact Nat.testBit_lt_two_pow (Nat.lt_of_lt_of_le hU' (Nat.pow_le_pow_right (by decide) (by omega)))
        have hWn : tb W (V 1 0) = false := by rw [hWt _ n0, decide_eq_false (by omega)]; rfl
        have p1 := cn_chg (p := tb W) (q := tb U) (x := V 1 0) n0 (fun k hk => by
          by_cases z : 0 ≤ k
          · rw [hWt k z]
            by_cases z2 : k < V 1 0
            · rw [decide_eq_true z2]; rfl
            · rw [decide_eq_false z2, hUn k (by omega)]; rfl
          · have e : tb U k = tb U 0 ∧ tb W k = tb W 0 := by unfold tb; rw [show k.toNat = (0 : Int).toNat by omega]; exact ⟨rfl, rfl⟩
            rw [e.1, e.2, hWt 0 (by decide)]
            by_cases z2 : (0 : Int) < V 1 0
            · rw [decide_eq_true z2]; rfl
            · omega) 10 10 rfl
        rw [if_pos hn, if_pos hn, hWn, bf, Int.add_zero] at p1
        have p2 : pc U = pc W + bi (tb U (V 1 0)) := p1
        -- members within
        have q1 := cn_chg20 (p := fun j => (kp V (V 1 0) (-1) (V 2 0) j && (tb W (V 11 j) && tb W (V 12 j)))) (q := fun j => if j = V 2 0 then (tb U a && tb U (V 1 0)) else (kp V (V 1 0) (-1) (V 2 0) j && (tb W (V 11 j) && tb W (V 12 j)))) (x := V 2 0) (N := 40) m0 (by omega) (fun j hj => if_neg hj)
        have q2 := cn_chg20 (p := fun j => if j = V 2 0 then (tb U a && tb U (V 1 0)) else (kp V (V 1 0) (-1) (V 2 0) j && (tb W (V 11 j) && tb W (V 12 j)))) (q := fun j => if j = V 2 0 + 1 then (tb U b && tb U (V 1 0)) else if j = V 2 0 then (tb U a && tb U (V 1 0)) else (kp V (V 1 0) (-1) (V 2 0) j && (tb W (V 11 j) && tb W (V 12 j)))) (x := V 2 0 + 1) (N := 40) (by omega) (by omega) (fun j hj => if_neg hj)
        rw [if_pos rfl, hk0, Bool.false_and, bf] at q1
        rw [if_pos rfl, if_neg (show ¬ V 2 0 + 1 = V 2 0 by omega), hk1, Bool.false_and, bf] at q2
        have q3 : sp (updG V a b x y) (fun j => (kp V (V 1 0) (-1) (V 2 0) j || decide (j = V 2 0)) || decide (j = V 2 0 + 1)) U = cn (fun j => if j = V 2 0 + 1 then (tb U b && tb U (V 1 0)) else if j = V 2 0 then (tb U a && tb U (V 1 0)) else (kp V (V 1 0) (-1) (V 2 0) j && (tb W (V 11 j) && tb W (V 12 j)))) 40 := cn_congr fun j j0 j1 => by
          show (((kp V (V 1 0) (-1) (V 2 0) j || decide (j = V 2 0)) || decide (j = V 2 0 + 1)) && (tb U (updG V a b x y 11 j) && tb U (updG V a b x y 12 j))) = _
          rw [e11, e12]
          by_cases z1 : j = V 2 0 + 1
          · rw [if_pos z1, if_pos z1, if_pos z1, decide_eq_true z1, Bool.or_true, Bool.true_and]
          · rw [if_neg z1, if_neg z1, if_neg z1, decide_eq_false z1, Bool.or_false]
            by_cases z2 : j = V 2 0
            · rw [if_pos z2, if_pos z2, if_pos z2, decide_eq_true z2, Bool.or_true, Bool.true_and]
            · rw [if_neg z2, if_neg z2, if_neg z2, decide_eq_false z2, Bool.or_false]
              cases z3 : kp V (V 1 0) (-1) (V 2 0) j
              · rfl
              · obtain ⟨_, _, w1, w2, _⟩ := hK j z3
                rw [hWt _ w1.1, hWt _ w2.1, decide_eq_true w1.2, decide_eq_true w2.2]
                simp only [Bool.true_and]
        have q4 : sp V (kp V (V 1 0) (-1) (V 2 0)) W = cn (fun j => (kp V (V 1 0) (-1) (V 2 0) j && (tb W (V 11 j) && tb W (V 12 j)))) 40 := rfl
        have s1 := kc_sp hI (-1) W hW
        have hWa := hWt a ha.1
        have hWb := hWt b hb.1
        rw [decide_eq_true ha.2, Bool.true_and] at hWa
        rw [decide_eq_true hb.2, Bool.true_and] at hWb
        rw [q3]
        rw [← q4] at q1
        by_cases hz : tb U (V 1 0) = true
        · rw [hz] at p2
          have g1 : bi (tb U a && tb U (V 1 0)) = bi (tb U a) := by rw [hz, Bool.and_true]
          have g2 : bi (tb U b && tb U (V 1 0)) = bi (tb U b) := by rw [hz, Bool.and_true]
          by_cases h2 : 2 ≤ pc W
          · have := s1 h2
            have := hWa
            have d1 : bi (tb U a) ≤ 1 := by unfold bi; split <;> omega
            have d2 : bi (tb U b) ≤ 1 := by unfold bi; split <;> omega
            omega
          · -- a single one
            have s0 : sp V (kp V (V 1 0) (-1) (V 2 0)) W ≤ 0 := by
              by_cases z : 0 < sp V (kp V (V 1 0) (-1) (V 2 0)) W
              · obtain ⟨k, k0, k1, k2, _⟩ := cn_ex (k := 0) (by decide) 40 40 rfl z
                rw [Bool.and_eq_true, Bool.and_eq_true] at k2
                obtain ⟨_, _, w1, w2, w3, _⟩ := hK k k2.1
                have := pc_two (U := W) ⟨w1.1, by omega⟩ ⟨w2.1, by omega⟩ w3 k2.2.1 k2.2.2
                omega
              · omega
            have d3 : bi (tb U a) + bi (tb U b) ≤ 1 := by
              cases y1 : tb U a
              · unfold bi; split <;> split <;> simp_all
              · cases y2 : tb U b
                · decide
                · rw [y1] at hWa
                  rw [y2] at hWb
                  have := pc_two (U := W) ⟨ha.1, by omega⟩ ⟨hb.1, by omega⟩ hab hWa hWb
                  omega
            omega
        · have hz' : tb U (V 1 0) = false := Bool.eq_false_iff.2 hz
          rw [hz'] at p2
          have g1 : bi (tb U a && tb U (V 1 0)) = 0 := by rw [hz', Bool.and_false]; rfl
          have g2 : bi (tb U b && tb U (V 1 0)) = 0 := by rw [hz', Bool.and_false]; rfl
          have := s1 (by omega)
          omega
    have h2 : kc V (-1) = cn (kp V (V 1 0) (-1) (V 2 0)) 40 := rfl
    omega
end KPT
