/-! NEIGHBOURS counted: as many as members that end there -/
section HS
theorem cn_one {p : Int → Bool} {e : Int} (he : 0 ≤ e) (hp : p e = false) : ∀ (d : Nat) (i : Int), i = d → cn (fun k => p k || decide (k = e)) i = cn p i + (if e < i then 1 else 0) := by
  intro d
  induction d with
  | zero => intro i hi; rw [hi, if_neg (by omega)]; rfl
  | succ d ih =>
    intro i hi
    have h1 := cn_s (p := fun k => p k || decide (k = e)) (i := i - 1) (by omega)
    have h2 := cn_s (p := p) (i := i - 1) (by omega)
    have h3 := ih (i - 1) (by omega)
    rw [Int.sub_add_cancel] at h1 h2
    rw [h1, h2, h3]
    by_cases q : i - 1 = e
    · rw [q, hp, if_neg (show ¬ e < e by omega), if_pos (show e < i by omega)]
      simp
    · by_cases q2 : e < i - 1
      · rw [if_pos q2, if_pos (show e < i by omega)]
        simp [q]
        omega
      · rw [if_neg q2, if_neg (show ¬ e < i by omega)]
        simp [q]
theorem pc_new {U : Nat} {e : Int} (he : 0 ≤ e) (he2 : e < 10) (h : tb U e = false) : pc (U ||| 2 ^ e.toNat) = pc U + 1 := by
  unfold pc
  have h1 := cn_one (p := tb U) he h 10 10 rfl
  rw [if_pos he2] at h1
  rw [← h1]
  refine cn_congr fun k k0 k1 => ?_
  rw [tb_or, tb_pow]
  congr 1
  rw [decide_eq_decide]
  omega
theorem nr_tb {V : St} {j e m : Int} (he : 0 ≤ e) (hE : ends V m) : ∀ (d : Nat) (i : Int), i = d → i ≤ m → tb (nr V j i) e = true → ∃ k, 0 ≤ k ∧ k < i ∧ V 15 k = 0 ∧ ((V 11 k = j ∧ V 12 k = e) ∨ (V 12 k = j ∧ V 11 k = e)) := by
  intro d
  induction d with
  | zero =>
    intro i hi _ h
    rw [hi] at h
    exact absurd h (by show ¬ tb 0 e = true; unfold tb; rw [Nat.zero_testBit]; decide)
  | succ d ih =>
    intro i hi hm h
    have hs := nr_s (V := V) (j := j) (i := i - 1) (by omega)
    rw [Int.sub_add_cancel] at hs
    rw [hs, tb_or, Bool.or_eq_true] at h
    obtain ⟨b1, b2, b3, b4⟩ := hE (i - 1) (by omega) (by omega)
    rcases h with h | h
    · obtain ⟨k, k0, k1, k2⟩ := ih (i - 1) (by omega) (by omega) h
      exact ⟨k, k0, by omega, k2⟩
    · refine ⟨i - 1, by omega, by omega, ?_⟩
      by_cases q : V 15 (i - 1) = 0
      · rw [if_pos q] at h
        refine ⟨q, ?_⟩
        by_cases q2 : V 11 (i - 1) = j
        · rw [if_pos q2, tb_pow] at h
          have := of_decide_eq_true h
          exact Or.inl ⟨q2, by omega⟩
        · rw [if_neg q2] at h
          by_cases q3 : V 12 (i - 1) = j
          · rw [if_pos q3, tb_pow] at h
            have := of_decide_eq_true h
            exact Or.inr ⟨q3, by omega⟩
          · rw [if_neg q3] at h
            exact absurd h (by unfold tb; rw [Nat.zero_testBit]; decide)
      · rw [if_neg q] at h
        exact absurd h (by unfold tb; rw [Nat.zero_testBit]; decide)
theorem vOK_ends {V : St} {n m : Int} (h : vOK V n m) : ends V m := fun k k0 k1 => by
  obtain ⟨a, b, c, d, _⟩ := h.2.2.2.2 k k0 k1
  exact ⟨a, b, c, d⟩
theorem pc_nr {V : St} {n m j : Int} (hv : vOK V n m) (hu : ∀ i j, 0 ≤ i → i < j → j < m → V 15 i = 0 → V 15 j = 0 → ¬ same V i j) : ∀ (d : Nat) (i : Int), i = d → i ≤ m → pc (nr V j i) = cn (mEnd V j) i := by
  have hE := vOK_ends hv
  intro d
  induction d with
  | zero =>
    intro i hi _
    rw [hi]
    show cn (tb 0) 10 = 0
    rw [← cn_0 (tb 0)]
    decide
  | succ d ih =>
    intro i hi hm
    have hs := nr_s (V := V) (j := j) (i := i - 1) (by omega)
    have hc := cn_s (p := mEnd V j) (i := i - 1) (by omega)
    rw [Int.sub_add_cancel] at hs hc
    rw [hs, hc]
    have hn := ih (i - 1) (by omega) (by omega)
    obtain ⟨b1, b2, b3, b4, b5, _⟩ := hv.2.2.2.2 (i - 1) (by omega) (by omega)
    have hno : ∀ e, 0 ≤ e → V 15 (i - 1) = 0 → ((V 11 (i - 1) = j ∧ V 12 (i - 1) = e) ∨ (V 12 (i - 1) = j ∧ V 11 (i - 1) = e)) → tb (nr V j (i - 1)) e = false := fun e e0 z hz => by
      rw [Bool.eq_false_iff]
      intro hb
      obtain ⟨k, k0, k1, k2, k3⟩ := nr_tb e0 hE (i - 1).toNat (i - 1) (by omega) (by omega) hb
      refine hu k (i - 1) k0 k1 (by omega) k2 z ?_
      unfold same
      omega
    by_cases q : V 15 (i - 1) = 0
    · rw [if_pos q]
      by_cases q2 : V 11 (i - 1) = j
      · rw [if_pos q2, pc_new b3 b4 (hno _ b3 q (Or.inl ⟨q2, rfl⟩)), hn, if_pos (show mEnd V j (i - 1) = true from decide_eq_true ⟨q, Or.inl q2⟩)]
      · rw [if_neg q2]
        by_cases q3 : V 12 (i - 1) = j
        · rw [if_pos q3, pc_new b1 b2 (hno _ b1 q (Or.inr ⟨q3, rfl⟩)), hn, if_pos (show mEnd V j (i - 1) = true from decide_eq_true ⟨q, Or.inr q3⟩)]
        · rw [if_neg q3, Nat.or_zero, hn, if_neg (by simp [mEnd, q2, q3]), Int.add_zero]
    · rw [if_neg q, Nat.or_zero, hn, if_neg (by simp [mEnd, q]), Int.add_zero]
theorem pc_nr' {V : St} {j : Int} (hI : Inv V) : pc (nr V j (V 2 0)) = cn (mEnd V j) (V 2 0) :=
  pc_nr hI.1 hI.2.2.2.2.1 (V 2 0).toNat (V 2 0) (by have := hI.1.2.2.1; omega) (Int.le_refl _)
variable {S : St} {Qr : Int → St → Prop} {Qx : String → St → Prop}
theorem pr_ofJoint {V : St} (hI : Inv V) (j a : Int) : PairP V [IOOBE, IAE] (M_X6_ofJoint j a) (fun c r V' => ((0 ≤ j ∧ j < V 1 0) ∧ (0 ≤ a ∧ a ≤ 2) ∧ c = 0 ∧ r = (if a = 0 then V 7 j else if a = 1 then V 8 j else cn (mEnd V j) (V 2 0)) ∧ V' = V) ∨ ((0 ≤ j ∧ j < V 1 0) ∧ ¬ (0 ≤ a ∧ a ≤ 2) ∧ c = 2 ∧ V' = V) ∨ (¬ (0 ≤ j ∧ j < V 1 0) ∧ c = 1 ∧ V' = V)) := by
  have hI0 := hI
  obtain ⟨⟨n0, n10, m0, m40, hm⟩, hrest⟩ := hI0
  by_cases hj : 0 ≤ j ∧ j < V 1 0
  · by_cases hp : 0 ≤ a ∧ a ≤ 2
    · refine ⟨0, if a = 0 then V 7 j else if a = 1 then V 8 j else cn (mEnd V j) (V 2 0), V, Or.inl ⟨hj, hp, rfl, rfl, rfl⟩, hI, by decide, by decide, fun S hS Qr Qx h _ => ?_⟩
      · subst hS
        have hh := h rfl S rfl
        refine vc_X6_ofJoint fun _ _ _ => sp_X6_requireJoint (fun _ _ _ => ⟨fun q => ⟨⟨by omega, by omega⟩, ?_⟩, fun q => ⟨⟨by omega, by omega⟩, ?_⟩, fun q => sp_X3_endingAt m0 m40 fun _ _ => ?_, fun q => by omega⟩) (fun z => absurd hj z)
        · rw [if_pos q] at hh; exact hh
        · rw [if_neg (by omega), if_pos q] at hh; exact hh
        · rw [if_neg (by omega), if_neg (by omega)] at hh; exact hh
    · refine ⟨2, 0, V, Or.inr (Or.inl ⟨hj, hp, rfl, rfl⟩), hI, by decide, by decide, fun S hS Qr Qx _ hx => ?_⟩
      · subst hS
        exact vc_X6_ofJoint fun _ _ _ => sp_X6_requireJoint (fun _ _ _ => ⟨fun q => by omega, fun q => by omega, fun q => by omega, fun _ => hx (by decide) _ rfl⟩) (fun z => absurd hj z)
  · refine ⟨1, 0, V, Or.inr (Or.inr (⟨hj, rfl, rfl⟩)), hI, by decide, by decide, fun S hS Qr Qx _ hx => ?_⟩
    · subst hS
      exact vc_X6_ofJoint fun _ _ _ => sp_X6_requireJoint (fun z1 z2 => absurd ⟨z1, z2⟩ hj) (fun _ => hx (by decide) _ rfl)
end HS
