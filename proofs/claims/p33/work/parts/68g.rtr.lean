/-! A MATRIX turned has no greater rank -/
section RTR
/-- rows of before lie in a span, if those of after do -/
theorem elSb_s {R C M : Int} {J : Int → Bool} {w : Int → Int → Int} (hM : 0 ≤ M) {s : Mx × Int × (Int → Int)} {i : Int} (hR : R ≤ 40) (h0 : 0 ≤ i) (hi : i < C) (h : elI R C s i) (hS : ∀ r, 0 ≤ r → r < R → inSp J w M C ((elS R s i).1 r)) : ∀ r, 0 ≤ r → r < R → inSp J w M C (s.1 r) := by
  unfold elS at hS
  by_cases hf : fnd s.1 i R 41 s.2.1 = -1
  · rw [if_pos hf] at hS; exact hS
  · rw [if_neg hf] at hS
    obtain ⟨x, hx, x0, x1, hB, -, hBp⟩ := el_three hR h0 hi h hf
    obtain ⟨f0, f1, f2, -⟩ := h
    rw [hx] at hS
    have hS' : ∀ r, 0 ≤ r → r < R → inSp J w M C (mClear (mScale (mSwap s.1 x s.2.1) s.2.1 (inv (mSwap s.1 x s.2.1 s.2.1 i))) s.2.1 i r) := hS
    have hm := inv_mul hBp (hB _ _ f0 (by omega) h0 hi)
    have hC : ∀ r, 0 ≤ r → r < R → inSp J w M C (mSwap s.1 x s.2.1 r) := by
      generalize mSwap s.1 x s.2.1 = B at hS' hm ⊢
      generalize inv (B s.2.1 i) = k at hS' hm
      have hD : ∀ r, 0 ≤ r → r < R → inSp J w M C (mScale B s.2.1 k r) := by
        generalize mScale B s.2.1 k = D at hS'
        have hf' := hS' s.2.1 f0 (by omega)
        have e : mClear D s.2.1 i s.2.1 = D s.2.1 := by funext c; unfold mClear; rw [if_pos rfl]
        rw [e] at hf'
        intro r r0 r1
        by_cases q : r = s.2.1
        · rw [q]; exact hf'
        · refine inSp_comb (a := 1) (b := D r i) hM (hS' r r0 r1) hf' fun c _ _ => ?_
          unfold mClear
          rw [if_neg q, Int.one_mul]
          omega
      intro r r0 r1
      by_cases q : r = s.2.1
      · refine inSp_comb (a := B s.2.1 i) (b := 0) hM (hD r r0 r1) (hD r r0 r1) fun c _ _ => ?_
        unfold mScale
        rw [if_pos q, Int.zero_mul, Int.add_zero]
        have h1 : dv (B s.2.1 i * (B r c * k - B r c * k % 1000003)) := dv_mr (dv_mod _)
        have h2 : dv ((B s.2.1 i * k - 1) * B r c) := dv_ml (by omega)
        rw [Int.mul_sub] at h1
        rw [Int.sub_mul, Int.one_mul, Int.mul_assoc, Int.mul_comm k] at h2
        omega
      · have e : mScale B s.2.1 k r = B r := by funext c; unfold mScale; rw [if_neg q]
        rw [← e]; exact hD r r0 r1
    intro r r0 r1
    by_cases q : r = x
    · have e : mSwap s.1 x s.2.1 s.2.1 = s.1 r := by
        funext c
        unfold mSwap
        by_cases z : s.2.1 = x
        · rw [if_pos z, q, z]
        · rw [if_neg z, if_pos rfl, q]
      rw [← e]; exact hC _ f0 (by omega)
    · by_cases q2 : r = s.2.1
      · have e : mSwap s.1 x s.2.1 x = s.1 r := by funext c; unfold mSwap; rw [if_pos rfl, q2]
        rw [← e]; exact hC _ (by omega) x1
      · have e : mSwap s.1 x s.2.1 r = s.1 r := by funext c; unfold mSwap; rw [if_neg q, if_neg q2]
        rw [← e]; exact hC r r0 r1
theorem elSb_all {R C M : Int} {J : Int → Bool} {w : Int → Int → Int} (hM : 0 ≤ M) {A : Mx} (hR0 : 0 ≤ R) (hR : R ≤ 40) (hA : ∀ r c, rgP (A r c)) : ∀ (d : Nat) (i : Int), i = d → i ≤ C → (∀ r, 0 ≤ r → r < R → inSp J w M C ((el R A i).1 r)) → ∀ r, 0 ≤ r → r < R → inSp J w M C (A r) := by
  intro d
  induction d with
  | zero => intro i hi _ h; rw [hi] at h; exact h
  | succ d ih =>
    intro i hi hC h
    rw [show i = i - 1 + 1 by omega, el_s (by omega)] at h
    exact ih (i - 1) (by omega) (by omega) (elSb_s (C := C) hM hR (show 0 ≤ i - 1 by omega) (by omega) (elI_all (C := C) hR0 hR (fun r c _ _ _ _ => hA r c) d (i - 1) (by omega) (by omega)) h)
theorem rank_tr {R C : Int} {A : Mx} (hR0 : 0 ≤ R) (hR : R ≤ 40) (hC0 : 0 ≤ C) (hC : C ≤ 40) (hA : ∀ r c, rgP (A r c)) : (el C (tr A) R).2.1 ≤ (el R A C).2.1 := by
  obtain ⟨f0, f1, f2, hB, hz, hp, hc⟩ := elI_all (C := C) hR0 hR (fun r c _ _ _ _ => hA r c) C.toNat C (by omega) (Int.le_refl _)
  have hsp := elSb_all (C := C) (M := 40) (J := fun p => decide (p < (el R A C).2.1)) (w := (el R A C).1) (by decide) hR0 hR hA C.toNat C (by omega) (Int.le_refl _) fun r r0 r1 => by
    by_cases q : r < (el R A C).2.1
    · exact inSp_self r0 (by omega) (decide_eq_true q)
    · refine ⟨fun _ => 0, fun _ _ => rfl, fun c c0 c1 => ?_⟩
      have e : sm (fun s => (0 : Int) * (el R A C).1 s c) 40 = 0 := by
        have := sm_eq (f := fun s => (0 : Int) * (el R A C).1 s c) (c := 0) 40 40 rfl (fun j _ _ => Int.zero_mul _)
        rw [this]; rfl
      rw [e, hz r c (by omega) r1 c0 c1]
      exact dv_0
  generalize el R A C = s at hsp f0 f1 f2
  have hch : ∃ a : Int → Int → Int, ∀ r, 0 ≤ r → r < R → (∀ p, decide (p < s.2.1) = false → a r p = 0) ∧ ∀ c, 0 ≤ c → c < C → dv (A r c - sm (fun p => a r p * s.1 p c) 40) := by
    have : ∀ r : Int, ∃ l : Int → Int, 0 ≤ r → r < R → (∀ p, decide (p < s.2.1) = false → l p = 0) ∧ ∀ c, 0 ≤ c → c < C → dv (A r c - sm (fun p => l p * s.1 p c) 40) := fun r => by
      by_cases z : 0 ≤ r ∧ r < R
      · obtain ⟨l, l1, l2⟩ := hsp r z.1 z.2
        exact ⟨l, fun _ _ => ⟨l1, l2⟩⟩
      · exact ⟨fun _ => 0, fun a b => absurd ⟨a, b⟩ z⟩
    exact ⟨fun r => (this r).choose, fun r => (this r).choose_spec⟩
  obtain ⟨a, ha⟩ := hch
  have h1 := el_rank (R := C) (C := R) (M := 40) (J := fun p => decide (p < s.2.1)) (w := fun p r => a r p) (A := tr A) (by decide) hC0 hC hR0 (fun r c => hA c r) fun c c0 c1 => by
    refine ⟨fun p => if p < s.2.1 then s.1 p c else 0, fun p hp => if_neg (of_decide_eq_false hp), fun r r0 r1 => ?_⟩
    obtain ⟨a1, a2⟩ := ha r r0 r1
    have e : sm (fun p => (if p < s.2.1 then s.1 p c else 0) * a r p) 40 = sm (fun p => a r p * s.1 p c) 40 := sm_congr 40 40 rfl fun p _ _ => by
      by_cases q : p < s.2.1
      · rw [if_pos q, Int.mul_comm]
      · rw [if_neg q, a1 p (decide_eq_false q), Int.zero_mul, Int.zero_mul]
    rw [e]
    exact a2 c c0 c1
  have h2 : cn (fun p => decide (p < s.2.1)) 40 = s.2.1 := by
    have h3 := cn_more (p := fun p => decide (p < s.2.1)) f0 (40 - s.2.1).toNat 40 (by omega) (fun k k0 k1 => decide_eq_false (by omega))
    have h4 : cn (fun p => decide (p < s.2.1)) s.2.1 = cn (fun _ => true) s.2.1 := cn_congr fun k k0 k1 => decide_eq_true k1
    have key : ∀ (d : Nat) (i : Int), i = d → cn (fun _ => true) i = i := by
      intro d
      induction d with
      | zero => intro i hi; rw [hi]; rfl
      | succ d ih =>
        intro i hi
        have := cn_t (p := fun _ => true) (i := i - 1) (by omega) rfl
        rw [Int.sub_add_cancel] at this
        rw [this, ih (i - 1) (by omega)]; omega
    rw [h3, h4, key s.2.1.toNat s.2.1 (by omega)]
  omega
/-- where there are stresses, there is a balance -/
theorem bal_free {V : St} (hI : Inv V) (h : 0 < cn (mThere V) (V 2 0) - rk V (-1)) : 0 < cn (mKept V (-1)) (V 2 0) - (bl V).2.1 ∧ ∃ x, isFreeC (bl V).2.2 (cn (mKept V (-1)) (V 2 0)) 0 x := by
  obtain ⟨n0, n10, m0, m40, hE⟩ := hI.1
  obtain ⟨W0, W20, _⟩ := lOK_lc hI.2.1
  have hR := cn_rng (mKept V (-1)) m0
  have hF := bl_facts hI
  have h1 : (bl V).2.1 ≤ rk V (-1) := rank_tr hR.1 (by omega) W0 (by omega) fun r c => wr_rg' r c
  rw [← cn_kt m0] at h
  refine ⟨by omega, ?_⟩
  obtain ⟨x, x0, x1, x2, x3⟩ := cn_ex (k := 0) (Int.le_refl _) (cn (mKept V (-1)) (V 2 0)).toNat (cn (mKept V (-1)) (V 2 0)) (by omega) (show 0 < cn _ (cn (mKept V (-1)) (V 2 0)) by rw [hF.2.2.1]; omega)
  exact ⟨x, x0, x1, of_decide_eq_true x2, x3⟩
theorem flex_free {V : St} (hI : Inv V) (h : 0 < lw V (V 1 0) - rk V (-1)) : ∃ x, isFreeC (rkL V (V 7) (V 8) (lc V) (lw V (V 1 0)) (-1) (V 2 0)).2.2 (lw V (V 1 0)) 0 x := by
  obtain ⟨a0, a1, a2, a3⟩ := rk_rg (a := -1) hI
  obtain ⟨W0, W20, _⟩ := lOK_lc hI.2.1
  obtain ⟨x, x0, x1, x2, x3⟩ := cn_ex (k := 0) (Int.le_refl _) (lw V (V 1 0)).toNat (lw V (V 1 0)) (by omega) (show 0 < cn (fun c => decide ((rkL V (V 7) (V 8) (lc V) (lw V (V 1 0)) (-1) (V 2 0)).2.2 c = -1)) (lw V (V 1 0)) by omega)
  exact ⟨x, x0, x1, of_decide_eq_true x2, x3⟩
theorem rk_rows {V : St} (hI : Inv V) : rk V (-1) ≤ cn (mThere V) (V 2 0) := by
  obtain ⟨n0, n10, m0, m40, hE⟩ := hI.1
  obtain ⟨W0, W20, _⟩ := lOK_lc hI.2.1
  have hR := cn_rng (mKept V (-1)) m0
  obtain ⟨f0, f1, f2, -⟩ := elI_all (R := cn (mKept V (-1)) (V 2 0)) (C := lw V (V 1 0)) (A := wr V (V 7) (V 8) (lc V) (-1) (V 2 0)) hR.1 (by omega) (fun r c _ _ _ _ => wr_rg' r c) (lw V (V 1 0)).toNat (lw V (V 1 0)) (by omega) (Int.le_refl _)
  rw [← cn_kt m0]
  exact f2
end RTR
