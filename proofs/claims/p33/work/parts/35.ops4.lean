/-! CALLS IN PAIRS: balance -/
section OP4
def tr (A : Mx) : Mx := fun r c => A c r
/-- the turned matrix of the joints as they are, brought to steps -/
def bl (V : St) : Mx × Int × (Int → Int) := el (lw V (V 1 0)) (tr (wr V (V 7) (V 8) (lc V) (-1) (V 2 0))) (cn (mKept V (-1)) (V 2 0))
theorem bl_facts {V : St} (hI : Inv V) : (∀ r c, 0 ≤ r → r < lw V (V 1 0) → 0 ≤ c → c < 40 → rgP ((bl V).1 r c)) ∧ (∀ c, 0 ≤ c → c < cn (mKept V (-1)) (V 2 0) → (bl V).2.2 c = -1 ∨ (0 ≤ (bl V).2.2 c ∧ (bl V).2.2 c < lw V (V 1 0))) ∧ cn (fun c => decide ((bl V).2.2 c = -1)) (cn (mKept V (-1)) (V 2 0)) = cn (mKept V (-1)) (V 2 0) - (bl V).2.1 ∧ 0 ≤ (bl V).2.1 ∧ (bl V).2.1 ≤ cn (mKept V (-1)) (V 2 0) := by
  obtain ⟨⟨n0, n10, m0, m40, hm⟩, hP, _⟩ := hI
  obtain ⟨W0, W20, _⟩ := lOK_lc hP
  have hR := cn_rng (mKept V (-1)) m0
  exact el_facts W0 (by omega) hR.1 (by omega) fun r c => wr_rg' c r
variable {S : St} {Qr : Int → St → Prop} {Qx : String → St → Prop}
theorem pr_balance {V : St} (hI : Inv V) (k m : Int) : PairP V [IOOBE] (M_X6_balance k m) (fun c r V' => (((0 ≤ m ∧ m < V 2 0 ∧ V 15 m = 0) ∧ 0 ≤ k) ∧ c = 0 ∧ V' = V ∧ ((cn (mKept V (-1)) (V 2 0) - (bl V).2.1 ≤ k ∧ r = -1) ∨ (k < cn (mKept V (-1)) (V 2 0) - (bl V).2.1 ∧ ∃ x, isFreeC (bl V).2.2 (cn (mKept V (-1)) (V 2 0)) k x ∧ r = sol (bl V).1 (bl V).2.2 x (cn (mThere V) m)))) ∨ (¬ ((0 ≤ m ∧ m < V 2 0 ∧ V 15 m = 0) ∧ 0 ≤ k) ∧ c = 1 ∧ V' = V)) := by
  have hI0 := hI
  obtain ⟨⟨n0, n10, m0, m40, hm⟩, hP, _⟩ := hI0
  have hl0 := lOK_lc hP
  have hl := hl0
  obtain ⟨W0, W20, hl⟩ := hl
  have hR := cn_rng (mKept V (-1)) m0
  have hRe := cn_all_but (V := V) (a := -1) m0
  rw [if_neg (by omega), Int.sub_zero] at hRe
  have hF := bl_facts hI
  by_cases hj : (0 ≤ m ∧ m < V 2 0 ∧ V 15 m = 0) ∧ 0 ≤ k
  · have hpl : 0 ≤ cn (mThere V) m ∧ cn (mThere V) m < cn (mKept V (-1)) (V 2 0) := by
      have h1 := cn_rng (mThere V) hj.1.1
      have h2 := cn_lt (p := mThere V) hj.1.1 hj.1.2.1 (decide_eq_true hj.1.2.2)
      omega
    have hx : ∃ r, (cn (mKept V (-1)) (V 2 0) - (bl V).2.1 ≤ k ∧ r = -1) ∨ (k < cn (mKept V (-1)) (V 2 0) - (bl V).2.1 ∧ ∃ x, isFreeC (bl V).2.2 (cn (mKept V (-1)) (V 2 0)) k x ∧ r = sol (bl V).1 (bl V).2.2 x (cn (mThere V) m)) := by
      by_cases q : cn (mKept V (-1)) (V 2 0) - (bl V).2.1 ≤ k
      · exact ⟨-1, Or.inl ⟨q, rfl⟩⟩
      · obtain ⟨x, x0, x1, x2, x3⟩ := cn_ex hj.2 (cn (mKept V (-1)) (V 2 0)).toNat (cn (mKept V (-1)) (V 2 0)) (by omega) (show k < cn _ (cn (mKept V (-1)) (V 2 0)) by rw [hF.2.2.1]; omega)
        exact ⟨_, Or.inr ⟨by omega, x, ⟨x0, x1, of_decide_eq_true x2, x3⟩, rfl⟩⟩
    obtain ⟨r, hx⟩ := hx
    refine ⟨0, r, V, Or.inl ⟨hj, rfl, rfl, hx⟩, hI, by decide, by decide, fun S hS Qr Qx h _ => ?_⟩
    · subst hS
      refine vc_X6_balance fun _ _ _ => sp_X6_requireMember m40 (fun _ _ _ _ => sp_X6_requireCount (fun _ _ => sp_lay hI fun S1 l1 _ => ?_) (fun z => by omega)) (fun z => absurd hj.1 z)
      have ev := vw_out l1.1
      refine sp_X6_writeRows (n := vw S 1 0) (m := vw S 2 0) (lx := vw S 7) (ly := vw S 8) (col := lc (vw S)) (W := lw (vw S) (vw S 1 0)) (by rw [ev]; exact hI.1) (by rw [l1.1 2 (by decide)]; rfl) hl0 l1.2.1 l1.2.2 fun S2 f2 e2 e3 e4 mm _ => ?_
      rw [ev] at e2 mm
      have l2 := laid_next l1 (fq_f2 (l := [22, 23, 5]) f2 (by decide) (by decide))
      have hside : ∃ x : Int, (if S2 5 2 < S2 5 3 then S2 5 3 else S2 5 2) = x ∧ S2 5 2 ≤ x ∧ S2 5 3 ≤ x ∧ x ≤ 40 := by
        by_cases q : S2 5 2 < S2 5 3
        · exact ⟨_, if_pos q, by omega, by omega, by omega⟩
        · exact ⟨_, if_neg q, by omega, by omega, by omega⟩
      obtain ⟨x, sx, sx1, sx2, sx3⟩ := hside
      refine sp_X0_turn sx1 sx2 sx (by omega) sx3 fun S3 f3 g2 g3 g4 mm3 _ => ?_
      have l3 := laid_next l2 (fq_f2 (l := [22, 23, 5]) f3 (by decide) (by decide))
      refine sp_X0_reduce (R := lw (vw S) (vw S 1 0)) (C := cn (mKept (vw S) (-1)) (vw S 2 0)) (A := tr (wr (vw S) (vw S 7) (vw S 8) (lc (vw S)) (-1) (vw S 2 0))) (g2.trans e3) W0 (by omega) (g3.trans e2) hR.1 (by omega) (fun r c _ _ _ _ => wr_rg' c r) (fun r c r0 r1 c0 c1 => by rw [mm3 r c r0 (by omega) c0 (by omega)]; exact mm c r c0 c1 r0 r1) fun S4 f4 mm4 pp _ _ => ?_
      have l4 := laid_next l3 (fq_f2 (l := [22, 23, 5]) f4 (by decide) (by decide))
      change meq _ _ _ (bl (vw S)).1 at mm4
      change ∀ c, 0 ≤ c → c < _ → _ = (bl (vw S)).2.2 c at pp
      have hh := h rfl S4 (vw_out l4.1)
      have e53 : S4 5 3 = cn (mKept (vw S) (-1)) (vw S 2 0) := by rw [f4 5 (by decide) (by decide)]; exact g3.trans e2
      generalize bl (vw S) = s at *
      obtain ⟨F1, F2, F3, F4, F5⟩ := hF
      refine sp_X0_freeColumn e53 hR.1 (by omega) hj.2 (fun x hxx => ?_) (fun hcnt => ?_)
      · intro _ _
        have hx2 := isFreeC_congr pp hxx
        have hxr : r = sol s.1 s.2.2 x (cn (mThere (vw S)) m) := by
          rcases hx with ⟨q, _⟩ | ⟨_, x', q, e⟩
          · obtain ⟨y0, y1, y2, y3⟩ := hx2
            have := cn_lt (p := fun c => decide (s.2.2 c = -1)) y0 y1 (decide_eq_true y2)
            omega
          · rw [isFreeC_uniq hx2 q]; exact e
        obtain ⟨y0, y1, y2, y3⟩ := hx2
        have e25 : S4 2 5 = vw S 2 0 := by rw [l4.1 2 (by decide)]; rfl
        have e15 : cn (mThere S4) m = cn (mThere (vw S)) m := cn_congr fun k _ _ => by
          show decide (S4 15 k = 0) = decide (S 15 k = 0)
          rw [l4.1 15 (by decide)]
        refine ⟨fun _ => sp_X3_presentAhead hj.1.1 (by omega) (by omega) fun _ _ => ?_, fun z => by omega⟩
        rw [e15]
        exact sp_X0_solution (A := s.1) (piv := s.2.2) e53 (by omega) (show lw (vw S) (vw S 1 0) ≤ 40 by omega) y0 y1 hpl.1 hpl.2 (F2 _ hpl.1 hpl.2) y2 mm4 (fun r c r0 r1 c0 c1 => F1 r c r0 r1 c0 (by omega)) (pp _ hpl.1 hpl.2) (by rw [← hxr]; exact fun _ _ => hh)
      · intro _ _
        rw [cnf_congr pp] at hcnt
        refine ⟨fun z => absurd rfl z, fun _ => ?_⟩
        rcases hx with ⟨_, e⟩ | ⟨q, _⟩
        · rw [← e]; exact hh
        · omega
  · refine ⟨1, 0, V, Or.inr (⟨hj, rfl, rfl⟩), hI, by decide, by decide, fun S hS Qr Qx _ hx => ?_⟩
    · subst hS
      exact vc_X6_balance fun _ _ _ => sp_X6_requireMember m40 (fun z1 z2 z4 _ => sp_X6_requireCount (fun z3 => absurd ⟨⟨z1, z2, z4⟩, z3⟩ hj) (fun _ => hx (by decide) _ rfl)) (fun _ => hx (by decide) _ rfl)
end OP4
