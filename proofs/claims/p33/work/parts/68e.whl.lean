/-! A FRAME where each two joints have a member is rigid in general -/
section WHL
/-- the other end's place, by the end at joint 0 or joint 1 -/
def star (V : St) (k : Int) : Int := if V 11 k = 0 then V 12 k else if V 12 k = 0 then V 11 k else if V 11 k = 1 then 10 + V 12 k else 10 + V 11 k
def starB (V : St) (m k : Int) : Bool := decide (k < m) && (mEnd V 0 k || mEnd V 1 k)
def starT (U : Nat) (z : Int) : Bool := if z < 10 then tb U 0 && (tb U z && !decide (z = 0)) else tb U 1 && ((tb U (z - 10) && !decide (z = 10)) && !decide (z = 11))
theorem cn_false {p : Int → Bool} {i : Int} (hi : 0 ≤ i) (h : ∀ j, 0 ≤ j → j < i → p j = false) : cn p i = 0 := cn_none i.toNat i (by omega) h
theorem starT_cn {U : Nat} (h2 : 2 ≤ pc U) : cn (starT U) 20 ≤ 2 * pc U - 3 := by
  have hs := cn_at (q := starT U) (a := 10) (by decide) 10 10 rfl
  have e1 : cn (starT U) 10 = cn (fun z => tb U 0 && (tb U z && !decide (z = 0))) 10 := cn_congr fun z z0 z1 => by unfold starT; rw [if_pos z1]
  have e2 : cn (fun z => starT U (10 + z)) 10 = cn (fun z => tb U 1 && ((tb U z && !decide (z = 0)) && !decide (z = 1))) 10 := cn_congr fun z z0 z1 => by
    unfold starT
    rw [if_neg (by omega), show 10 + z - 10 = z by omega]
    congr 2
    · congr 2
      rw [decide_eq_decide]; omega
    · congr 1
      rw [decide_eq_decide]; omega
  have c1 := cn_chg20 (p := tb U) (q := fun z => tb U z && !decide (z = 0)) (x := 0) (N := 10) (by decide) (by decide) (fun k hk => by show (tb U k && !decide (k = 0)) = tb U k; rw [decide_eq_false hk]; cases tb U k <;> rfl)
  have c2 := cn_chg20 (p := fun z => tb U z && !decide (z = 0)) (q := fun z => (tb U z && !decide (z = 0)) && !decide (z = 1)) (x := 1) (N := 10) (by decide) (by decide) (fun k hk => by show ((tb U k && !decide (k = 0)) && !decide (k = 1)) = (tb U k && !decide (k = 0)); rw [decide_eq_false hk]; cases (tb U k && !decide (k = 0)) <;> rfl)
  have u1 : (tb U 0 && !decide ((0 : Int) = 0)) = false := by cases tb U 0 <;> rfl
  have u2 : ((tb U 1 && !decide ((1 : Int) = 0)) && !decide ((1 : Int) = 1)) = false := by cases tb U 1 <;> rfl
  have u3 : (tb U 1 && !decide ((1 : Int) = 0)) = tb U 1 := by cases tb U 1 <;> rfl
  rw [u1] at c1
  rw [u2, u3] at c2
  have bt : bi true = 1 := rfl
  have bf : bi false = 0 := rfl
  have ep : cn (tb U) 10 = pc U := rfl
  rw [show (10 : Int) + 10 = 20 by decide, e1, e2] at hs
  cases q0 : tb U 0
  · rw [q0] at c1 hs
    have z1 := cn_false (p := fun z => false && (tb U z && !decide (z = 0))) (i := 10) (by decide) (fun j _ _ => Bool.false_and _)
    rw [z1] at hs
    cases q1 : tb U 1
    · rw [q1] at hs
      have z2 := cn_false (p := fun z => false && ((tb U z && !decide (z = 0)) && !decide (z = 1))) (i := 10) (by decide) (fun j _ _ => Bool.false_and _)
      rw [z2] at hs
      omega
    · rw [q1] at c2 hs
      have z2 : cn (fun z => true && ((tb U z && !decide (z = 0)) && !decide (z = 1))) 10 = cn (fun z => (tb U z && !decide (z = 0)) && !decide (z = 1)) 10 := cn_congr fun z _ _ => Bool.true_and _
      rw [z2] at hs
      omega
  · rw [q0] at c1 hs
    have z1 : cn (fun z => true && (tb U z && !decide (z = 0))) 10 = cn (fun z => tb U z && !decide (z = 0)) 10 := cn_congr fun z _ _ => Bool.true_and _
    rw [z1] at hs
    cases q1 : tb U 1
    · rw [q1] at hs
      have z2 := cn_false (p := fun z => false && ((tb U z && !decide (z = 0)) && !decide (z = 1))) (i := 10) (by decide) (fun j _ _ => Bool.false_and _)
      rw [z2] at hs
      omega
    · rw [q1] at c2 hs
      have z2 : cn (fun z => true && ((tb U z && !decide (z = 0)) && !decide (z = 1))) 10 = cn (fun z => (tb U z && !decide (z = 0)) && !decide (z = 1)) 10 := cn_congr fun z _ _ => Bool.true_and _
      rw [z2] at hs
      omega
theorem kc_whole {V : St} (hI : Inv V) (h3 : 3 ≤ V 1 0) (hw : Whole V) : kc V (-1) = 2 * V 1 0 - 3 := by
  obtain ⟨n0, n10, m0, m40, hE⟩ := hI.1
  have hu := hI.2.2.2.2.1
  apply Int.le_antisymm (kc_le2 hI (by omega))
  have hB : ∀ k, 0 ≤ k → starB V (V 2 0) k = true → k < V 2 0 ∧ V 15 k = 0 ∧ ((V 11 k = 0 ∨ V 12 k = 0) ∨ (V 11 k = 1 ∨ V 12 k = 1)) ∧ (0 ≤ V 11 k ∧ V 11 k < V 1 0) ∧ (0 ≤ V 12 k ∧ V 12 k < V 1 0) ∧ V 11 k ≠ V 12 k := fun k k0 hk => by
    unfold starB at hk
    rw [Bool.and_eq_true, Bool.or_eq_true] at hk
    have a1 := of_decide_eq_true hk.1
    obtain ⟨b1, b2, b3, b4, b5, b6⟩ := hE k k0 a1
    rcases hk.2 with z | z
    · have z' := of_decide_eq_true z
      obtain ⟨b7, b8⟩ := b6 z'.1
      exact ⟨a1, z'.1, Or.inl z'.2, ⟨b1, b7⟩, ⟨b3, b8⟩, b5⟩
    · have z' := of_decide_eq_true z
      obtain ⟨b7, b8⟩ := b6 z'.1
      exact ⟨a1, z'.1, Or.inr z'.2, ⟨b1, b7⟩, ⟨b3, b8⟩, b5⟩
  have hsame : ∀ k k', 0 ≤ k → k < V 2 0 → 0 ≤ k' → k' < V 2 0 → V 15 k = 0 → V 15 k' = 0 → same V k k' → k = k' := fun k k' k0 k1 j0 j1 z z' hs => by
    rcases Int.lt_trichotomy k k' with q | q | q
    · exact absurd hs (hu k k' k0 q j1 z z')
    · exact q
    · refine absurd ?_ (hu k' k j0 q k1 z' z)
      unfold same at hs ⊢
      omega
  have h1 : cn (starB V (V 2 0)) 40 ≤ kc V (-1) := by
    refine kp_max hI.1 (kc_sp hI _) (fun j j0 j1 hj => ?_) (fun U hU hpc => ?_)
    · obtain ⟨a1, a2, _⟩ := hB j j0 hj
      exact ⟨a1, (mK_iff j0).2 a2⟩
    · refine Int.le_trans ?_ (starT_cn hpc)
      have hP : ∀ k, 0 ≤ k → (starB V (V 2 0) k && (tb U (V 11 k) && tb U (V 12 k))) = true → starB V (V 2 0) k = true ∧ tb U (V 11 k) = true ∧ tb U (V 12 k) = true := fun k _ hk => by
        rw [Bool.and_eq_true, Bool.and_eq_true] at hk
        exact hk
      refine cn_inj (g := star V) 40 40 _ _ rfl (fun k k0 k1 hk => ?_) (fun k k' k0 k1 j0 j1 hk hk' he => ?_)
      · obtain ⟨x1, x2, x3⟩ := hP k k0 hk
        obtain ⟨a1, a2, a3, a4, a5, a6⟩ := hB k k0 x1
        unfold star
        by_cases q1 : V 11 k = 0
        · rw [if_pos q1]
          refine ⟨⟨by omega, by omega⟩, ?_⟩
          unfold starT
          rw [q1] at x2
          rw [if_pos (by omega), x2, x3, decide_eq_false (by omega)]
          rfl
        · rw [if_neg q1]
          by_cases q2 : V 12 k = 0
          · rw [if_pos q2]
            refine ⟨⟨by omega, by omega⟩, ?_⟩
            unfold starT
            rw [q2] at x3
            rw [if_pos (by omega), x2, x3, decide_eq_false (by omega)]
            rfl
          · rw [if_neg q2]
            by_cases q3 : V 11 k = 1
            · rw [if_pos q3]
              refine ⟨⟨by omega, by omega⟩, ?_⟩
              unfold starT
              rw [q3] at x2
              rw [if_neg (by omega), show 10 + V 12 k - 10 = V 12 k by omega, x2, x3, decide_eq_false (by omega), decide_eq_false (by omega)]
              rfl
            · rw [if_neg q3]
              have q4 : V 12 k = 1 := by omega
              refine ⟨⟨by omega, by omega⟩, ?_⟩
              unfold starT
              rw [q4] at x3
              rw [if_neg (by omega), show 10 + V 11 k - 10 = V 11 k by omega, x2, x3, decide_eq_false (by omega), decide_eq_false (by omega)]
              rfl
      · obtain ⟨x1, _, _⟩ := hP k k0 hk
        obtain ⟨a1, a2, a3, a4, a5, a6⟩ := hB k k0 x1
        obtain ⟨y1, _, _⟩ := hP k' j0 hk'
        obtain ⟨b1, b2, b3, b4, b5, b6⟩ := hB k' j0 y1
        refine hsame k k' k0 a1 j0 b1 a2 b2 ?_
        have n10' := n10
        unfold star at he
        unfold same
        clear hB hsame hP hu hE hw hI
        by_cases q1 : V 11 k = 0
        · rw [if_pos q1] at he
          by_cases p1 : V 11 k' = 0
          · rw [if_pos p1] at he; omega
          · rw [if_neg p1] at he
            by_cases p2 : V 12 k' = 0
            · rw [if_pos p2] at he; omega
            · rw [if_neg p2] at he
              by_cases p3 : V 11 k' = 1
              · rw [if_pos p3] at he; omega
              · rw [if_neg p3] at he; omega
        · rw [if_neg q1] at he
          by_cases q2 : V 12 k = 0
          · rw [if_pos q2] at he
            by_cases p1 : V 11 k' = 0
            · rw [if_pos p1] at he; omega
            · rw [if_neg p1] at he
              by_cases p2 : V 12 k' = 0
              · rw [if_pos p2] at he; omega
              · rw [if_neg p2] at he
                by_cases p3 : V 11 k' = 1
                · rw [if_pos p3] at he; omega
                · rw [if_neg p3] at he; omega
          · rw [if_neg q2] at he
            by_cases q3 : V 11 k = 1
            · rw [if_pos q3] at he
              by_cases p1 : V 11 k' = 0
              · rw [if_pos p1] at he; omega
              · rw [if_neg p1] at he
                by_cases p2 : V 12 k' = 0
                · rw [if_pos p2] at he; omega
                · rw [if_neg p2] at he
                  by_cases p3 : V 11 k' = 1
                  · rw [if_pos p3] at he; omega
                  · rw [if_neg p3] at he; omega
            · rw [if_neg q3] at he
              by_cases p1 : V 11 k' = 0
              · rw [if_pos p1] at he; omega
              · rw [if_neg p1] at he
                by_cases p2 : V 12 k' = 0
                · rw [if_pos p2] at he; omega
                · rw [if_neg p2] at he
                  by_cases p3 : V 11 k' = 1
                  · rw [if_pos p3] at he; omega
                  · rw [if_neg p3] at he; omega
  -- how many they are
  have d0 := hw 0 (by decide) (by omega)
  have d1 := hw 1 (by decide) (by omega)
  have e1 : cn (starB V (V 2 0)) (V 2 0) ≤ cn (starB V (V 2 0)) 40 := cn_le m0 (40 - V 2 0).toNat 40 (by omega)
  have e2 : cn (mEnd V 0) (V 2 0) + cn (mEnd V 1) (V 2 0) = cn (starB V (V 2 0)) (V 2 0) + cn (fun k => mEnd V 0 k && mEnd V 1 k) (V 2 0) := cn_cmpe m0 fun k k0 k1 => by
    unfold starB
    rw [decide_eq_true k1]
    cases mEnd V 0 k <;> cases mEnd V 1 k <;> rfl
  have e3 : cn (fun k => mEnd V 0 k && mEnd V 1 k) (V 2 0) ≤ cn (fun _ => true) 1 := by
    refine cn_inj (g := fun _ => 0) (V 2 0).toNat (V 2 0) _ _ (by omega) (fun k k0 k1 _ => ⟨⟨by decide, by decide⟩, rfl⟩) (fun k k' k0 k1 j0 j1 hk hk' _ => ?_)
    rw [Bool.and_eq_true] at hk hk'
    have a1 := of_decide_eq_true hk.1
    have a2 := of_decide_eq_true hk.2
    have b1 := of_decide_eq_true hk'.1
    have b2 := of_decide_eq_true hk'.2
    exact hsame k k' k0 k1 j0 j1 a1.1 b1.1 (by unfold same; omega)
  have e4 : cn (fun _ => true) 1 = 1 := rfl
  omega
theorem global_rigid {V : St} (hI : Inv V) (h3 : 3 ≤ V 1 0) (h : Whole V ∨ Glob V) : 2 * V 1 0 - 3 - kc V (-1) = 0 := by
  rcases h with h | h
  · have := kc_whole hI h3 h
    omega
  · have := h.2.1
    omega
end WHL
