/-! CALLS IN PAIRS: ranks -/
section OP2
theorem cn_ex {p : Int → Bool} {k : Int} (hk : 0 ≤ k) : ∀ (d : Nat) (i : Int), i = d → k < cn p i → ∃ x, 0 ≤ x ∧ x < i ∧ p x = true ∧ cn p x = k := by
  intro d
  induction d with
  | zero => intro i hi h; rw [hi] at h; exact absurd h (by rw [show ((0 : Nat) : Int) = 0 from rfl, cn_0]; omega)
  | succ d ih =>
    intro i hi h
    have hs := cn_s (p := p) (i := i - 1) (by omega)
    rw [Int.sub_add_cancel] at hs
    by_cases q : k < cn p (i - 1)
    · obtain ⟨x, x0, x1, x2⟩ := ih (i - 1) (by omega) q
      exact ⟨x, x0, by omega, x2⟩
    · by_cases q2 : p (i - 1) = true
      · rw [if_pos q2] at hs
        exact ⟨i - 1, by omega, by omega, q2, by omega⟩
      · rw [if_neg q2] at hs
        omega
theorem isFreeC_congr {p q : Int → Int} {C k x : Int} (h : ∀ c, 0 ≤ c → c < C → p c = q c) (hx : isFreeC p C k x) : isFreeC q C k x := by
  obtain ⟨a, b, c, d⟩ := hx
  refine ⟨a, b, by rw [← h x a b]; exact c, ?_⟩
  rw [← d]
  exact (cn_congr fun y y0 y1 => by rw [h y y0 (by omega)]).symm
theorem cnf_congr {p q : Int → Int} {C : Int} (h : ∀ c, 0 ≤ c → c < C → p c = q c) : cn (fun c => decide (p c = -1)) C = cn (fun c => decide (q c = -1)) C :=
  cn_congr fun y y0 y1 => by rw [h y y0 y1]
def rk (V : St) (a : Int) : Int := (rkL V (V 7) (V 8) (lc V) (lw V (V 1 0)) a (V 2 0)).2.1
variable {S : St} {Qr : Int → St → Prop} {Qx : String → St → Prop}
/-- the class has laid its joints; whatever the grid holds -/
def laid (S S1 : St) : Prop := fq [19, 20, 21, 4, 22, 23, 5] S S1 ∧ S1 4 3 = lw (vw S) (vw S 1 0) ∧ ∀ j, 0 ≤ j → j < vw S 1 0 → S1 19 j = vw S 7 j ∧ S1 20 j = vw S 8 j ∧ S1 21 j = lc (vw S) j
theorem vw_out {S1 : St} (h : fq [19, 20, 21, 4, 22, 23, 5] S S1) : vw S1 = vw S := vw_fq h (by decide) (by decide) (by decide) (by intro k a b; simp; omega)
theorem laid_next {S1 S2 : St} (h : laid S S1) (h2 : fq [22, 23, 5] S1 S2) : laid S S2 := by
  obtain ⟨f, a, b⟩ := h
  refine ⟨fq_tr f h2 (by decide), by rw [h2 4 (by decide)]; exact a, fun j j0 j1 => ?_⟩
  rw [h2 19 (by decide), h2 20 (by decide), h2 21 (by decide)]
  exact b j j0 j1
theorem sp_lay (hI : Inv (vw S)) (h : ∀ S1, laid S S1 → Qr 0 S1) : M_X2_takeJoints S Qr Qx :=
  sp_X2_takeJoints (n := vw S 1 0) rfl hI.2.1 fun S1 f h2 _ h3 => h S1 ⟨fq_tr (l := [19, 20, 21, 4, 22, 23, 5]) fq_rfl f (by decide), h2, h3⟩
theorem sp_rk {S1 : St} {a : Int} (hI : Inv (vw S)) (hl : laid S S1) (h : ∀ S2, laid S S2 → Qr (rk (vw S) a) S2) : M_X6_rankWithout a S1 Qr Qx := by
  have ev := vw_out hl.1
  have hl0 := hl
  obtain ⟨f, h2, h3⟩ := hl0
  refine sp_X6_rankWithout (n := vw S 1 0) (m := vw S 2 0) (lx := vw S 7) (ly := vw S 8) (col := lc (vw S)) (W := lw (vw S) (vw S 1 0)) (by rw [ev]; exact hI.1) (by rw [f 2 (by decide)]; rfl) (lOK_lc hI.2.1) h2 h3 fun S2 f2 _ _ _ _ => ?_
  rw [ev]
  exact h S2 (laid_next hl f2)
theorem pr_rank {V : St} (hI : Inv V) : PairP V [] M_X6_rank (fun c r V' => (c = 0 ∧ r = rk V (-1) ∧ V' = V)) := by
  refine ⟨0, rk V (-1), V, ⟨rfl, rfl, rfl⟩, hI, by decide, by decide, fun S hS Qr Qx h _ => ?_⟩
  · subst hS
    exact vc_X6_rank fun _ => sp_lay hI fun S1 l1 _ => sp_rk hI l1 fun S2 l2 _ _ => h rfl _ (vw_out l2.1)
theorem rk_rg {V : St} {a : Int} (hI : Inv V) : 0 ≤ rk V a ∧ rk V a ≤ lw V (V 1 0) ∧ lw V (V 1 0) ≤ 20 ∧ rk V a = lw V (V 1 0) - cn (fun c => decide ((rkL V (V 7) (V 8) (lc V) (lw V (V 1 0)) a (V 2 0)).2.2 c = -1)) (lw V (V 1 0)) := by
  have hl := lOK_lc hI.2.1
  obtain ⟨W0, W20, _⟩ := hl
  have hm := cn_rng (mKept V a) hI.1.2.2.1
  have h := elI_all (R := cn (mKept V a) (V 2 0)) (C := lw V (V 1 0)) (A := wr V (V 7) (V 8) (lc V) a (V 2 0)) hm.1 (by have := hI.1.2.2.2.1; omega) (fun r c _ _ _ _ => wr_rg' r c) (lw V (V 1 0)).toNat (lw V (V 1 0)) (by omega) (Int.le_refl _)
  obtain ⟨a0, a1, _, _, _, _, a6⟩ := h
  exact ⟨a0, a1, W20, by unfold rk rkL; rw [a6]; omega⟩
theorem pr_motions {V : St} (hI : Inv V) : PairP V [] M_X6_motions (fun c r V' => (c = 0 ∧ r = lw V (V 1 0) - rk V (-1) ∧ V' = V)) := by
  have hr := rk_rg (a := -1) hI
  refine ⟨0, lw V (V 1 0) - rk V (-1), V, ⟨rfl, rfl, rfl⟩, hI, by decide, by decide, fun S hS Qr Qx h _ => ?_⟩
  · subst hS
    exact vc_X6_motions fun _ => sp_lay hI fun S1 l1 _ => sp_rk hI l1 fun S2 l2 _ _ => by
      rw [l1.2.1]
      exact ⟨⟨by omega, by omega⟩, h rfl _ (vw_out l2.1)⟩
theorem pr_stresses {V : St} (hI : Inv V) : PairP V [] M_X6_stresses (fun c r V' => (c = 0 ∧ r = cn (mThere V) (V 2 0) - rk V (-1) ∧ V' = V)) := by
  have hr := rk_rg (a := -1) hI
  have hI0 := hI
  obtain ⟨⟨n0, n10, m0, m40, hm⟩, _⟩ := hI0
  have hc := cn_rng (mThere V) m0
  refine ⟨0, cn (mThere V) (V 2 0) - rk V (-1), V, ⟨rfl, rfl, rfl⟩, hI, by decide, by decide, fun S hS Qr Qx h _ => ?_⟩
  · subst hS
    refine vc_X6_stresses fun _ => sp_lay hI fun S1 l1 _ => ?_
    have e2 : S1 2 5 = vw S 2 0 := by rw [l1.1 2 (by decide)]; rfl
    have e3 : cn (mThere S1) (S1 2 5) = cn (mThere (vw S)) (vw S 2 0) := by
      rw [e2]
      exact cn_congr fun k _ _ => by
        show decide (S1 15 k = 0) = decide (S 15 k = 0)
        rw [l1.1 15 (by decide)]
    refine sp_X3_present (by rw [e2]; exact m0) (by rw [e2]; exact m40) fun _ _ => sp_rk hI l1 fun S2 l2 _ _ => ?_
    rw [e3]
    exact ⟨⟨by omega, by omega⟩, h rfl _ (vw_out l2.1)⟩
theorem pr_isRedundant {V : St} (hI : Inv V) (k : Int) : PairP V [IOOBE] (M_X6_isRedundant k) (fun c r V' => ((0 ≤ k ∧ k < V 2 0 ∧ V 15 k = 0) ∧ c = 0 ∧ r = (if rk V k = rk V (-1) then 1 else 0) ∧ V' = V) ∨ (¬ (0 ≤ k ∧ k < V 2 0 ∧ V 15 k = 0) ∧ c = 1 ∧ V' = V)) := by
  have hI0 := hI
  obtain ⟨⟨n0, n10, m0, m40, hm⟩, _⟩ := hI0
  by_cases hj : 0 ≤ k ∧ k < V 2 0 ∧ V 15 k = 0
  · refine ⟨0, if rk V k = rk V (-1) then 1 else 0, V, Or.inl ⟨hj, rfl, rfl, rfl⟩, hI, by decide, by decide, fun S hS Qr Qx h _ => ?_⟩
    · subst hS
      refine vc_X6_isRedundant fun _ _ => sp_X6_requireMember m40 (fun _ _ _ _ => sp_lay hI fun S1 l1 _ => sp_rk hI l1 fun S2 l2 _ _ => sp_rk hI l2 fun S3 l3 _ _ => ?_) (fun z => absurd hj z)
      have hh := h rfl _ (vw_out l3.1)
      exact ⟨fun q => by rw [if_neg q] at hh; exact hh, fun q => by rw [if_pos q] at hh; exact hh⟩
  · refine ⟨1, 0, V, Or.inr (⟨hj, rfl, rfl⟩), hI, by decide, by decide, fun S hS Qr Qx _ hx => ?_⟩
    · subst hS
      exact vc_X6_isRedundant fun _ _ => sp_X6_requireMember m40 (fun z1 z2 z3 => absurd ⟨z1, z2, z3⟩ hj) (fun _ => hx (by decide) _ rfl)
theorem pr_rankAt {V : St} (hI : Inv V) (s : Int) : PairP V [IAE] (M_X6_rankAt s) (fun c r V' => ((0 ≤ s ∧ s ≤ 1000002) ∧ c = 0 ∧ r = (rkL V (dX s) (dY s) (fun j => 2 * j) (2 * V 1 0) (-1) (V 2 0)).2.1 ∧ V' = V) ∨ (¬ (0 ≤ s ∧ s ≤ 1000002) ∧ c = 1 ∧ V' = V)) := by
  have hI0 := hI
  obtain ⟨⟨n0, n10, m0, m40, hm⟩, _⟩ := hI0
  by_cases hj : 0 ≤ s ∧ s ≤ 1000002
  · have hs : rgP s := ⟨hj.1, by omega⟩
    refine ⟨0, (rkL V (dX s) (dY s) (fun j => 2 * j) (2 * V 1 0) (-1) (V 2 0)).2.1, V, Or.inl ⟨hj, rfl, rfl, rfl⟩, hI, by decide, by decide, fun S hS Qr Qx h _ => ?_⟩
    · subst hS
      refine vc_X6_rankAt fun _ _ => ⟨fun z => by omega, fun _ => ⟨fun _ => sp_X2_drawPoints hs n0 n10 fun S1 f1 h2 _ h3 _ => ?_, fun z => by omega⟩⟩
      have f1' : fq [19, 20, 21, 4, 22, 23, 5] S S1 := fq_tr (l := [19, 20, 21, 4, 22, 23, 5]) fq_rfl f1 (by decide)
      have ev := vw_out f1'
      refine sp_X6_rankWithout (n := vw S 1 0) (m := vw S 2 0) (lx := dX s) (ly := dY s) (col := fun j => 2 * j) (W := 2 * vw S 1 0) (by rw [ev]; exact hI.1) (by rw [f1 2 (by decide)]; rfl) (lOK_d n0 n10) h2 h3 fun S2 f2 _ _ _ _ _ _ => ?_
      rw [ev]
      exact h rfl S2 (vw_out (fq_tr f1' f2 (by decide)))
  · refine ⟨1, 0, V, Or.inr (⟨hj, rfl, rfl⟩), hI, by decide, by decide, fun S hS Qr Qx _ hx => ?_⟩
    · subst hS
      exact vc_X6_rankAt fun _ _ => ⟨fun _ => hx (by decide) _ rfl, fun _ => ⟨fun z => by omega, fun _ => hx (by decide) _ rfl⟩⟩
end OP2
