/-! THE LAW'S VIEW: what it holds of the class, its counts, its ends; the calls of the class from there -/
section LV
/-- a state that shows the view V, the counts D, the ends E -/
def lv (S V : St) (D E : Int → Int) : Prop := vw S = V ∧ S 70 = D ∧ S 71 = E
theorem vw_pu (S T : St) : vw (pu S T) = vw T := vw_eq rfl rfl rfl fun k j h1 h2 => by
  unfold pu
  rw [if_neg (by omega), if_neg (by omega)]
theorem lv_pu {S T V : St} {D E : Int → Int} (h : S 70 = D ∧ S 71 = E) (hv : vw T = V) : lv (pu S T) V D E := ⟨by rw [vw_pu]; exact hv, h.1, h.2⟩
def ud (D : Int → Int) (i v : Int) : Int → Int := fun j => if j = i then v else D j
theorem lv_70 {S V : St} {D E : Int → Int} {i v : Int} (h : lv S V D E) : lv (up S 70 i v) V (ud D i v) E := by
  refine ⟨by rw [vw_up_out (by decide)]; exact h.1, ?_, ?_⟩
  · funext j
    rw [up_at, h.2.1]
    rfl
  · funext j
    rw [up_ne _ (by decide), h.2.2]
theorem lv_71 {S V : St} {D E : Int → Int} {i v : Int} (h : lv S V D E) : lv (up S 71 i v) V D (ud E i v) := by
  refine ⟨by rw [vw_up_out (by decide)]; exact h.1, ?_, ?_⟩
  · funext j
    rw [up_ne _ (by decide), h.2.1]
  · funext j
    rw [up_at, h.2.2]
    rfl
variable {S V : St} {D E : Int → Int} {Qr : Int → St → Prop} {Qx : String → St → Prop}
theorem of_pr {exs : List String} {MC : St → (Int → St → Prop) → (String → St → Prop) → Prop} {P : Int → Int → St → Prop} (hp : PairP V exs MC P) (h : lv S V D E) (k0 : ∀ r V', P 0 r V' → Inv V' → ∀ S', lv (pu S S') V' D E → Qr r S') (kx : ∀ c r V', P c r V' → Inv V' → c ≠ 0 → 0 ≤ c → c ≤ exs.length → ∀ S', lv (pu S S') V' D E → Qx (exs.getD (c.toNat - 1) "") S') : MC S Qr Qx := by
  obtain ⟨c, r, V', h1, h2, h3, h4, h5⟩ := hp
  exact h5 S h.1 Qr Qx (fun z S' v => by subst z; exact k0 r V' h1 h2 S' (lv_pu h.2 v)) (fun z S' v => kx c r V' h1 h2 z h3 h4 S' (lv_pu h.2 v))
/-- calls that never throw -/
theorem cl_kept (hI : Inv V) (h : lv S V D E) (k : ∀ S', lv (pu S S') V D E → Qr (kc V (-1)) S') : M_X6_kept S Qr Qx :=
  of_pr (pr_kept hI) h (fun r V' p _ S' l => by obtain ⟨_, rfl, rfl⟩ := p; exact k S' l) (fun c r V' p _ hc => absurd p.1 hc)
theorem cl_lacks (hI : Inv V) (h : lv S V D E) (k : ∀ S', lv (pu S S') V D E → Qr (if V 1 0 < 2 then -1 else 2 * V 1 0 - 3 - kc V (-1)) S') : M_X6_lacks S Qr Qx :=
  of_pr (pr_lacks hI) h (fun r V' p _ S' l => by obtain ⟨_, rfl, rfl⟩ := p; exact k S' l) (fun c r V' p _ hc => absurd p.1 hc)
theorem cl_rank (hI : Inv V) (h : lv S V D E) (k : ∀ S', lv (pu S S') V D E → Qr (rk V (-1)) S') : M_X6_rank S Qr Qx :=
  of_pr (pr_rank hI) h (fun r V' p _ S' l => by obtain ⟨_, rfl, rfl⟩ := p; exact k S' l) (fun c r V' p _ hc => absurd p.1 hc)
theorem cl_motions (hI : Inv V) (h : lv S V D E) (k : ∀ S', lv (pu S S') V D E → Qr (lw V (V 1 0) - rk V (-1)) S') : M_X6_motions S Qr Qx :=
  of_pr (pr_motions hI) h (fun r V' p _ S' l => by obtain ⟨_, rfl, rfl⟩ := p; exact k S' l) (fun c r V' p _ hc => absurd p.1 hc)
theorem cl_stresses (hI : Inv V) (h : lv S V D E) (k : ∀ S', lv (pu S S') V D E → Qr (cn (mThere V) (V 2 0) - rk V (-1)) S') : M_X6_stresses S Qr Qx :=
  of_pr (pr_stresses hI) h (fun r V' p _ S' l => by obtain ⟨_, rfl, rfl⟩ := p; exact k S' l) (fun c r V' p _ hc => absurd p.1 hc)
theorem cl_matrix (hI : Inv V) (h : lv S V D E) (k : ∀ r, 0 ≤ r → r ≤ V 1 0 → ∀ S', lv (pu S S') V D E → Qr r S') : M_X6_matrix S Qr Qx :=
  of_pr (pr_matrix hI) h (fun r V' p _ S' l => by
    obtain ⟨_, rfl, rfl⟩ := p
    obtain ⟨n0, n10, _⟩ := hI.1
    obtain ⟨f0, f1, f2, _⟩ := elI_all (C := V' 1 0) n0 (by omega) (A := mt V' (V' 2 0)) (fun r c _ _ _ _ => mt_rg r c) (V' 1 0).toNat (V' 1 0) (by omega) (Int.le_refl _)
    exact k _ f0 f2 S' l) (fun c r V' p _ hc => absurd p.1 hc)
theorem cl_isGlobal (hI : Inv V) (h : lv S V D E) (k : ∀ r, (r ≠ 0 → Whole V ∨ Glob V) → ∀ S', lv (pu S S') V D E → Qr r S') : M_X6_isGlobal S Qr Qx :=
  of_pr (pr_isGlobal hI) h (fun r V' p _ S' l => by
    obtain ⟨_, rfl, _, p0⟩ := p
    refine k r (fun hr => ?_) S' l
    by_cases q : Whole V' ∨ Glob V'
    · exact q
    · exact absurd (p0 q) hr) (fun c r V' p _ hc => absurd p.1 hc)
theorem cl_unbalanced (hI : Inv V) (h : lv S V D E) (k : ∀ S', lv (pu S S') V D E → Qr ((un V (V 1 0) : Nat) : Int) S') : M_X6_unbalanced S Qr Qx :=
  of_pr (pr_unbalanced hI) h (fun r V' p _ S' l => by obtain ⟨_, rfl, rfl⟩ := p; exact k S' l) (fun c r V' p _ hc => absurd p.1 hc)
theorem cl_isProper (hI : Inv V) (h : lv S V D E) (k : ∀ r, (r ≠ 0 → ((un V (V 1 0) : Nat) : Int) = 0) → ∀ S', lv (pu S S') V D E → Qr r S') : M_X6_isProper S Qr Qx :=
  of_pr (pr_isProper hI) h (fun r V' p _ S' l => by
    obtain ⟨_, rfl, rfl⟩ := p
    refine k _ (fun hr => ?_) S' l
    unfold proper at hr
    by_cases q : any (wrg V') (V' 2 0) = false ∧ any (toldx V') (V' 2 0) = true ∧ un V' (V' 1 0) = 0
    · rw [q.2.2]; rfl
    · rw [if_neg q] at hr; exact absurd rfl hr) (fun c r V' p _ hc => absurd p.1 hc)
/-- calls with arguments that are in order -/
theorem cl_of0 {j : Int} (hI : Inv V) (h : lv S V D E) (hj : 0 ≤ j ∧ j < V 1 0) (k : ∀ S', lv (pu S S') V D E → Qr (V 7 j) S') : M_X6_ofJoint j 0 S Qr Qx :=
  of_pr (pr_ofJoint hI j 0) h (fun r V' p _ S' l => by
    rcases p with ⟨_, _, _, p, rfl⟩ | ⟨_, p, _⟩ | ⟨p, _⟩
    · rw [if_pos rfl] at p; rw [p]; exact k S' l
    · exact absurd ⟨by decide, by decide⟩ p
    · exact absurd hj p) (fun c r V' p _ hc => by
    rcases p with ⟨_, _, p, _⟩ | ⟨_, p, _⟩ | ⟨p, _⟩
    · exact absurd p hc
    · exact absurd ⟨by decide, by decide⟩ p
    · exact absurd hj p)
theorem cl_of1 {j : Int} (hI : Inv V) (h : lv S V D E) (hj : 0 ≤ j ∧ j < V 1 0) (k : ∀ S', lv (pu S S') V D E → Qr (V 8 j) S') : M_X6_ofJoint j 1 S Qr Qx :=
  of_pr (pr_ofJoint hI j 1) h (fun r V' p _ S' l => by
    rcases p with ⟨_, _, _, p, rfl⟩ | ⟨_, p, _⟩ | ⟨p, _⟩
    · rw [if_neg (by decide), if_pos rfl] at p; rw [p]; exact k S' l
    · exact absurd ⟨by decide, by decide⟩ p
    · exact absurd hj p) (fun c r V' p _ hc => by
    rcases p with ⟨_, _, p, _⟩ | ⟨_, p, _⟩ | ⟨p, _⟩
    · exact absurd p hc
    · exact absurd ⟨by decide, by decide⟩ p
    · exact absurd hj p)
theorem cl_of2 {j : Int} (hI : Inv V) (h : lv S V D E) (hj : 0 ≤ j ∧ j < V 1 0) (k : ∀ S', lv (pu S S') V D E → Qr (cn (mEnd V j) (V 2 0)) S') : M_X6_ofJoint j 2 S Qr Qx :=
  of_pr (pr_ofJoint hI j 2) h (fun r V' p _ S' l => by
    rcases p with ⟨_, _, _, p, rfl⟩ | ⟨_, p, _⟩ | ⟨p, _⟩
    · rw [if_neg (by decide), if_neg (by decide)] at p; rw [p]; exact k S' l
    · exact absurd ⟨by decide, by decide⟩ p
    · exact absurd hj p) (fun c r V' p _ hc => by
    rcases p with ⟨_, _, p, _⟩ | ⟨_, p, _⟩ | ⟨p, _⟩
    · exact absurd p hc
    · exact absurd ⟨by decide, by decide⟩ p
    · exact absurd hj p)
theorem cl_pin {j a : Int} (hI : Inv V) (h : lv S V D E) (hj : 0 ≤ j ∧ j < V 1 0) (ha : 0 ≤ a ∧ a ≤ 1) (k : ∀ S', Inv (up V 9 j a) → lv (pu S S') (up V 9 j a) D E → Qr (V 9 j) S') : M_X6_pin j a S Qr Qx :=
  of_pr (pr_pin hI j a ha) h (fun r V' p i S' l => by
    rcases p with ⟨_, _, p, rfl⟩ | ⟨p, _⟩
    · rw [p]; exact k S' i l
    · exact absurd hj p) (fun c r V' p _ hc => by
    rcases p with ⟨_, p, _⟩ | ⟨p, _⟩
    · exact absurd p hc
    · exact absurd hj p)
theorem cl_move {j a b : Int} (hI : Inv V) (h : lv S V D E) (hj : 0 ≤ j ∧ j < V 1 0) (hp : inPt a b) (k : ∀ S', Inv (up (up V 7 j a) 8 j b) → lv (pu S S') (up (up V 7 j a) 8 j b) D E → ∀ r, Qr r S') : M_X6_move j a b S Qr Qx :=
  of_pr (pr_move hI j a b) h (fun r V' p i S' l => by
    rcases p with ⟨_, _, _, rfl⟩ | ⟨_, p, _⟩ | ⟨p, _⟩
    · exact k S' i l r
    · exact absurd hp p
    · exact absurd hj p) (fun c r V' p _ hc => by
    rcases p with ⟨_, _, p, _⟩ | ⟨_, p, _⟩ | ⟨p, _⟩
    · exact absurd p hc
    · exact absurd hp p
    · exact absurd hj p)
theorem cl_range {j a : Int} (hI : Inv V) (h : lv S V D E) (hj : 0 ≤ j ∧ j < V 1 0) (ha : -1 ≤ a ∧ a ≤ 30000) (k : ∀ S', Inv (up V 10 j a) → lv (pu S S') (up V 10 j a) D E → Qr (V 10 j) S') : M_X6_range j a S Qr Qx :=
  of_pr (pr_range hI j a) h (fun r V' p i S' l => by
    rcases p with ⟨_, _, _, p, rfl⟩ | ⟨_, p, _⟩ | ⟨p, _⟩
    · rw [p]; exact k S' i l
    · exact absurd ha p
    · exact absurd hj p) (fun c r V' p _ hc => by
    rcases p with ⟨_, _, p, _⟩ | ⟨_, p, _⟩ | ⟨p, _⟩
    · exact absurd p hc
    · exact absurd ha p
    · exact absurd hj p)
theorem cl_rankAt {s : Int} (hI : Inv V) (h : lv S V D E) (hs : 0 ≤ s ∧ s ≤ 1000002) (k : ∀ r, r ≤ kc V (-1) → ∀ S', lv (pu S S') V D E → Qr r S') : M_X6_rankAt s S Qr Qx :=
  of_pr (pr_rankAt hI s) h (fun r V' p _ S' l => by
    rcases p with ⟨_, _, p, rfl⟩ | ⟨p, _⟩
    · refine k r ?_ S' l
      rw [p]
      exact rank_kept hI (lOK_d hI.1.1 hI.1.2.1)
    · exact absurd hs p) (fun c r V' p _ hc => by
    rcases p with ⟨_, p, _⟩ | ⟨p, _⟩
    · exact absurd p hc
    · exact absurd hs p)
theorem cl_places {e : Int} (hI : Inv V) (h : lv S V D E) (he : 0 ≤ e ∧ e ≤ 5000) (k : ∀ S', lv (pu S S') V D E → Qr (pcN V e 14762 (-60) (-60) 0) S') : M_X6_places e S Qr Qx :=
  of_pr (pr_places hI e) h (fun r V' p _ S' l => by
    rcases p with ⟨_, _, p, rfl⟩ | ⟨p, _⟩
    · rw [p]; exact k S' l
    · exact absurd he p) (fun c r V' p _ hc => by
    rcases p with ⟨_, p, _⟩ | ⟨p, _⟩
    · exact absurd p hc
    · exact absurd he p)
theorem cl_place {e q : Int} (hI : Inv V) (h : lv S V D E) (he : 0 ≤ e ∧ e ≤ 5000) (hq : 0 ≤ q) (k : ∀ S', lv (pu S S') V D E → Qr (plN V e 14762 (-60) (-60) q) S') : M_X6_place e q S Qr Qx :=
  of_pr (pr_place hI e q) h (fun r V' p _ S' l => by
    rcases p with ⟨_, _, _, p, rfl⟩ | ⟨_, p, _⟩ | ⟨p, _⟩
    · rw [p]; exact k S' l
    · exact absurd he p
    · exact absurd hq p) (fun c r V' p _ hc => by
    rcases p with ⟨_, _, p, _⟩ | ⟨_, p, _⟩ | ⟨p, _⟩
    · exact absurd p hc
    · exact absurd he p
    · exact absurd hq p)
/-- the first flex, or none -/
theorem cl_flex {q j y : Int} (hI : Inv V) (h : lv S V D E) (hj : 0 ≤ j ∧ j < V 1 0) (hq : 0 ≤ q) (k : ∀ r, ((lw V (V 1 0) - rk V (-1) ≤ q ∧ r = -1) ∨ (q < lw V (V 1 0) - rk V (-1) ∧ ∃ x, isFreeC (rkL V (V 7) (V 8) (lc V) (lw V (V 1 0)) (-1) (V 2 0)).2.2 (lw V (V 1 0)) q x ∧ r = flexAt (rkL V (V 7) (V 8) (lc V) (lw V (V 1 0)) (-1) (V 2 0)) V x j y)) → ∀ S', lv (pu S S') V D E → Qr r S') : M_X6_flex q j y S Qr Qx :=
  of_pr (pr_flex hI q j y) h (fun r V' p _ S' l => by
    rcases p with ⟨_, _, rfl, p⟩ | ⟨p, _⟩
    · exact k r p S' l
    · exact absurd ⟨hj, hq⟩ p) (fun c r V' p _ hc => by
    rcases p with ⟨_, p, _⟩ | ⟨p, _⟩
    · exact absurd p hc
    · exact absurd ⟨hj, hq⟩ p)
end LV
