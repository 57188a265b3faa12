/-! CALLS IN PAIRS: flex and balance -/
section OP3
theorem el_facts {R C : Int} {A : Mx} (hR0 : 0 ≤ R) (hR : R ≤ 40) (hC0 : 0 ≤ C) (hC : C ≤ 40) (hA : ∀ r c, rgP (A r c)) : (∀ r c, 0 ≤ r → r < R → 0 ≤ c → c < 40 → rgP ((el R A C).1 r c)) ∧ (∀ c, 0 ≤ c → c < C → (el R A C).2.2 c = -1 ∨ (0 ≤ (el R A C).2.2 c ∧ (el R A C).2.2 c < R)) ∧ cn (fun c => decide ((el R A C).2.2 c = -1)) C = C - (el R A C).2.1 ∧ 0 ≤ (el R A C).2.1 ∧ (el R A C).2.1 ≤ C := by
  obtain ⟨a0, a1, a2, a3, _, a5, a6⟩ := elI_all (C := 40) hR0 hR (fun r c _ _ _ _ => hA r c) C.toNat C (by omega) hC
  exact ⟨a3, fun c c0 c1 => by
    rcases a5 c c0 c1 with q | q
    · exact Or.inl q
    · exact Or.inr ⟨q.1, by omega⟩, a6, a0, a1⟩
variable {S : St} {Qr : Int → St → Prop} {Qx : String → St → Prop}
theorem sp_rowsRed {a n m W : Int} {lx ly col : Int → Int} (hv : vOK (vw S) n m) (hm : S 2 5 = m) (hl : lOK lx ly col n W) (hW : S 4 3 = W) (hL : ∀ j, 0 ≤ j → j < n → S 19 j = lx j ∧ S 20 j = ly j ∧ S 21 j = col j) (h : ∀ S', fq [22, 23, 5] S S' → S' 5 2 = cn (mKept (vw S) a) m → S' 5 3 = W → meq (cn (mKept (vw S) a) m) W (gm 22 S') (rkL (vw S) lx ly col W a m).1 → (∀ c, 0 ≤ c → c < W → S' 23 c = (rkL (vw S) lx ly col W a m).2.2 c) → Qr (rkL (vw S) lx ly col W a m).2.1 S') : M_X6_writeRows a S (fun _ S2 => okC S2 → M_X0_reduce S2 (fun rv9 S7 => r32 rv9 → okC S7 → Qr rv9 S7) Qx) Qx := by
  have hv0 := hv
  obtain ⟨n0, n10, m0, m40, _⟩ := hv0
  have hr2 := cn_rng (mKept (vw S) a) m0
  obtain ⟨W0, W20, _⟩ := hl
  refine sp_X6_writeRows hv hm ⟨W0, W20, ‹_›⟩ hW hL fun S1 f1 h2 h3 h4 hmm _ => sp_X0_reduce (R := cn (mKept (vw S) a) m) (C := W) (A := wr (vw S) lx ly col a m) h2 hr2.1 (by omega) h3 W0 (by omega) (fun r c _ _ _ _ => wr_rg' r c) hmm fun S2 f3 hm2 hp2 _ _ => ?_
  refine h S2 (fq_tr (fq_f2 f1 (by decide) (by decide)) (fq_f2 (l := [22, 23, 5]) f3 (by decide) (by decide)) (fun k z => z)) ?_ ?_ hm2 hp2
  · rw [f3 5 (by decide) (by decide)]; exact h2
  · rw [f3 5 (by decide) (by decide)]; exact h3
/-- what is read of a column of a joint -/
def flexAt (s : Mx × Int × (Int → Int)) (V : St) (x j y : Int) : Int := if lc V j = -1 then 0 else sol s.1 s.2.2 x (lc V j + (if y = 0 then 0 else 1))
theorem pr_flex {V : St} (hI : Inv V) (k j y : Int) : PairP V [IOOBE] (M_X6_flex k j y) (fun c r V' => (((0 ≤ j ∧ j < V 1 0) ∧ 0 ≤ k) ∧ c = 0 ∧ V' = V ∧ ((lw V (V 1 0) - (rkL V (V 7) (V 8) (lc V) (lw V (V 1 0)) (-1) (V 2 0)).2.1 ≤ k ∧ r = -1) ∨ (k < lw V (V 1 0) - (rkL V (V 7) (V 8) (lc V) (lw V (V 1 0)) (-1) (V 2 0)).2.1 ∧ ∃ x, isFreeC (rkL V (V 7) (V 8) (lc V) (lw V (V 1 0)) (-1) (V 2 0)).2.2 (lw V (V 1 0)) k x ∧ r = flexAt (rkL V (V 7) (V 8) (lc V) (lw V (V 1 0)) (-1) (V 2 0)) V x j y))) ∨ (¬ ((0 ≤ j ∧ j < V 1 0) ∧ 0 ≤ k) ∧ c = 1 ∧ V' = V)) := by
  have hI0 := hI
  obtain ⟨⟨n0, n10, m0, m40, hm⟩, hP, _⟩ := hI0
  have hl0 := lOK_lc hP
  have hl := hl0
  obtain ⟨W0, W20, hl⟩ := hl
  have hR := cn_rng (mKept V (-1)) m0
  have hF := el_facts (R := cn (mKept V (-1)) (V 2 0)) (C := lw V (V 1 0)) (A := wr V (V 7) (V 8) (lc V) (-1) (V 2 0)) hR.1 (by omega) W0 (by omega) (fun r c => wr_rg' r c)
  change (∀ r c, 0 ≤ r → r < _ → 0 ≤ c → c < 40 → rgP ((rkL V (V 7) (V 8) (lc V) (lw V (V 1 0)) (-1) (V 2 0)).1 r c)) ∧ (∀ c, 0 ≤ c → c < lw V (V 1 0) → (rkL V (V 7) (V 8) (lc V) (lw V (V 1 0)) (-1) (V 2 0)).2.2 c = -1 ∨ (0 ≤ (rkL V (V 7) (V 8) (lc V) (lw V (V 1 0)) (-1) (V 2 0)).2.2 c ∧ (rkL V (V 7) (V 8) (lc V) (lw V (V 1 0)) (-1) (V 2 0)).2.2 c < _)) ∧ cn (fun c => decide ((rkL V (V 7) (V 8) (lc V) (lw V (V 1 0)) (-1) (V 2 0)).2.2 c = -1)) (lw V (V 1 0)) = lw V (V 1 0) - (rkL V (V 7) (V 8) (lc V) (lw V (V 1 0)) (-1) (V 2 0)).2.1 ∧ 0 ≤ (rkL V (V 7) (V 8) (lc V) (lw V (V 1 0)) (-1) (V 2 0)).2.1 ∧ (rkL V (V 7) (V 8) (lc V) (lw V (V 1 0)) (-1) (V 2 0)).2.1 ≤ lw V (V 1 0) at hF
  by_cases hj : (0 ≤ j ∧ j < V 1 0) ∧ 0 ≤ k
  · obtain ⟨_, hcj, _⟩ := hl j hj.1.1 hj.1.2
    -- the answer
    have hx : ∃ r, (lw V (V 1 0) - (rkL V (V 7) (V 8) (lc V) (lw V (V 1 0)) (-1) (V 2 0)).2.1 ≤ k ∧ r = -1) ∨ (k < lw V (V 1 0) - (rkL V (V 7) (V 8) (lc V) (lw V (V 1 0)) (-1) (V 2 0)).2.1 ∧ ∃ x, isFreeC (rkL V (V 7) (V 8) (lc V) (lw V (V 1 0)) (-1) (V 2 0)).2.2 (lw V (V 1 0)) k x ∧ r = flexAt (rkL V (V 7) (V 8) (lc V) (lw V (V 1 0)) (-1) (V 2 0)) V x j y) := by
      by_cases q : lw V (V 1 0) - (rkL V (V 7) (V 8) (lc V) (lw V (V 1 0)) (-1) (V 2 0)).2.1 ≤ k
      · exact ⟨-1, Or.inl ⟨q, rfl⟩⟩
      · obtain ⟨x, x0, x1, x2, x3⟩ := cn_ex hj.2 (lw V (V 1 0)).toNat (lw V (V 1 0)) (by omega) (show k < cn _ (lw V (V 1 0)) by rw [hF.2.2.1]; omega)
        exact ⟨_, Or.inr ⟨by omega, x, ⟨x0, x1, of_decide_eq_true x2, x3⟩, rfl⟩⟩
    obtain ⟨r, hx⟩ := hx
    refine ⟨0, r, V, Or.inl ⟨hj, rfl, rfl, hx⟩, hI, by decide, by decide, fun S hS Qr Qx h _ => ?_⟩
    · subst hS
      refine vc_X6_flex fun _ _ _ _ => sp_X6_requireJoint (fun _ _ _ => sp_X6_requireCount (fun _ _ => sp_lay hI fun S1 l1 _ => ?_) (fun z => by omega)) (fun z => absurd hj.1 z)
      have ev := vw_out l1.1
      refine sp_rowsRed (n := vw S 1 0) (m := vw S 2 0) (lx := vw S 7) (ly := vw S 8) (col := lc (vw S)) (W := lw (vw S) (vw S 1 0)) (by rw [ev]; exact hI.1) (by rw [l1.1 2 (by decide)]; rfl) hl0 l1.2.1 l1.2.2 fun S2 f2 e2 e3 mm pp => ?_
      rw [ev] at e2 mm pp
      have l2 := laid_next l1 f2
      have hh := h rfl S2 (vw_out l2.1)
      generalize hs : rkL (vw S) (vw S 7) (vw S 8) (lc (vw S)) (lw (vw S) (vw S 1 0)) (-1) (vw S 2 0) = s at *
      obtain ⟨F1, F2, F3, F4, F5⟩ := hF
      refine sp_X0_freeColumn e3 W0 (by omega) hj.2 (fun x hxx => ?_) (fun hcnt => ?_)
      · intro _ _
        have hx2 := isFreeC_congr pp hxx
        have hxr : r = flexAt s (vw S) x j y := by
          rcases hx with ⟨q, _⟩ | ⟨_, x', q, e⟩
          · obtain ⟨y0, y1, y2, y3⟩ := hx2
            have := cn_lt (p := fun c => decide (s.2.2 c = -1)) y0 y1 (decide_eq_true y2)
            omega
          · rw [isFreeC_uniq hx2 q]; exact e
        obtain ⟨y0, y1, y2, y3⟩ := hx2
        refine ⟨fun _ => ⟨⟨by omega, by omega⟩, ?_⟩, fun z => by omega⟩
        rw [(l2.2.2 j hj.1.1 hj.1.2).2.2]
        unfold flexAt at hxr
        refine ⟨fun q => ?_, fun q => ?_⟩
        · rw [if_neg q] at hxr
          have hcj' := hcj.resolve_left q
          refine ⟨fun q2 => ?_, fun q2 => ⟨⟨by omega, by omega⟩, ?_⟩⟩
          · rw [if_pos q2, Int.add_zero] at hxr
            exact sp_X0_solution (A := s.1) (piv := s.2.2) e3 (by omega) (show cn (mKept (vw S) (-1)) (vw S 2 0) ≤ 40 by omega) y0 y1 hcj'.1 (by omega) (F2 _ hcj'.1 (by omega)) y2 mm (fun r c r0 r1 c0 c1 => F1 r c r0 r1 c0 (by omega)) (pp _ hcj'.1 (by omega)) (by rw [← hxr]; exact fun _ _ => hh)
          · rw [if_neg q2] at hxr
            exact sp_X0_solution (A := s.1) (piv := s.2.2) e3 (by omega) (show cn (mKept (vw S) (-1)) (vw S 2 0) ≤ 40 by omega) y0 y1 (by omega) (by omega) (F2 _ (by omega) (by omega)) y2 mm (fun r c r0 r1 c0 c1 => F1 r c r0 r1 c0 (by omega)) (pp _ (by omega) (by omega)) (by rw [← hxr]; exact fun _ _ => hh)
        · rw [if_pos q] at hxr
          rw [← hxr]; exact hh
      · intro _ _
        rw [cnf_congr pp] at hcnt
        refine ⟨fun z => absurd rfl z, fun _ => ?_⟩
        rcases hx with ⟨_, e⟩ | ⟨q, _⟩
        · rw [← e]; exact hh
        · omega
  · refine ⟨1, 0, V, Or.inr (⟨hj, rfl, rfl⟩), hI, by decide, by decide, fun S hS Qr Qx _ hx => ?_⟩
    · subst hS
      exact vc_X6_flex fun _ _ _ _ => sp_X6_requireJoint (fun z1 z2 _ => sp_X6_requireCount (fun z3 => absurd ⟨⟨z1, z2⟩, z3⟩ hj) (fun _ => hx (by decide) _ rfl)) (fun _ => hx (by decide) _ rfl)
end OP3
