/-! RANKS of the class, LAYOUTS of both -/
section RK
variable {S : St} {Qr : Int → St → Prop} {Qx : String → St → Prop}
def fq (l : List Nat) (S S' : St) : Prop := ∀ k, k ∉ l → S' k = S k
theorem fq_rfl {l : List Nat} : fq l S S := fun _ _ => rfl
theorem fq_tr {l l' : List Nat} {S' S'' : St} (h : fq l S S') (h2 : fq l' S' S'') (hl : ∀ k ∈ l', k ∈ l) : fq l S S'' := fun k q => by rw [h2 k (fun z => q (hl k z)), h k q]
theorem fq_fk {g : Nat} {l : List Nat} {S' : St} (h : fk g S S') (hl : g ∈ l) : fq l S S' := fun k q => h k (fun e => q (by rw [e]; exact hl))
theorem fq_f2 {g g' : Nat} {l : List Nat} {S' : St} (h : f2 g g' S S') (hl : g ∈ l) (hl' : g' ∈ l) : fq l S S' := fun k q => h k (fun e => q (by rw [e]; exact hl)) (fun e => q (by rw [e]; exact hl'))
theorem fq_up {g : Nat} {l : List Nat} {S' : St} {j v : Int} (h : fq l S S') (hl : g ∈ l) : fq l S (up S' g j v) := fq_tr (l' := [g]) h (fq_fk fk_up0 (by simp)) (by simp [hl])
def fr (V : St) (j : Int) : Bool := decide (V 9 j = 0)
def lc (V : St) (j : Int) : Int := if V 9 j = 0 then 2 * cn (fr V) j else -1
def lw (V : St) (n : Int) : Int := 2 * cn (fr V) n
def pOK (V : St) (n : Int) : Prop := 0 ≤ n ∧ n ≤ 10 ∧ ∀ j, 0 ≤ j → j < n → -50 ≤ V 7 j ∧ V 7 j ≤ 50 ∧ -50 ≤ V 8 j ∧ V 8 j ≤ 50
theorem lc_pos {V : St} {j : Int} (h : lc V j ≠ -1) : V 9 j = 0 ∧ lc V j = 2 * cn (fr V) j := by
  unfold lc at h ⊢
  by_cases q : V 9 j = 0
  · exact ⟨q, if_pos q⟩
  · rw [if_neg q] at h; exact absurd rfl h
theorem lc_lt {V : St} {i j : Int} (h0 : 0 ≤ i) (h : i < j) (hi : lc V i ≠ -1) : lc V i + 2 ≤ 2 * cn (fr V) j := by
  obtain ⟨q, e⟩ := lc_pos hi
  have := cn_lt (p := fr V) h0 h (by simp [fr, q])
  omega
theorem lOK_lc {V : St} {n : Int} (h : pOK V n) : lOK (V 7) (V 8) (lc V) n (lw V n) := by
  obtain ⟨n0, n10, hP⟩ := h
  have hr := cn_rng (fr V) n0
  refine ⟨by unfold lw; omega, by unfold lw; omega, fun j j0 j1 => ?_⟩
  have hj := hP j j0 j1
  refine ⟨⟨by omega, by omega, by omega, by omega⟩, ?_, fun i i0 i1 hij hi hj => ?_⟩
  · by_cases q : lc V j = -1
    · exact Or.inl q
    · have h1 := lc_lt j0 j1 q
      obtain ⟨_, e⟩ := lc_pos q
      have := cn_rng (fr V) j0
      exact Or.inr ⟨by omega, h1⟩
  · rcases Int.lt_trichotomy i j with w | w | w
    · have := lc_lt i0 w hi
      have := (lc_pos hj).2
      omega
    · exact absurd w hij
    · have := lc_lt j0 w hj
      have := (lc_pos hi).2
      omega
theorem sp_X2_takeJoints {n : Int} (hn : S 1 4 = n) (hp : pOK (vw S) n) (h : ∀ S', fq [19, 20, 21, 4] S S' → S' 4 3 = lw (vw S) n → (∀ j, j ≠ 3 → S' 4 j = S 4 j) → (∀ j, 0 ≤ j → j < n → S' 19 j = vw S 7 j ∧ S' 20 j = vw S 8 j ∧ S' 21 j = lc (vw S) j) → Qr 0 S') : M_X2_takeJoints S Qr Qx := by
  obtain ⟨n0, n10, hP⟩ := hp
  have key : ∀ (d : Nat) (i : Int) (S1 : St), 0 ≤ i → i + d = n → fq [19, 20, 21, 4] S S1 → S1 4 3 = lw (vw S) i → (∀ j, j ≠ 3 → S1 4 j = S 4 j) → (∀ j, 0 ≤ j → j < i → S1 19 j = vw S 7 j ∧ S1 20 j = vw S 8 j ∧ S1 21 j = lc (vw S) j) → R_X2_takeJoints_7 i S1 Qr Qx := by
    intro d
    induction d with
    | zero =>
      intro i S1 hi0 hi hf h2 h3 h4
      have e : i = n := by omega
      rw [e] at h2 h4
      exact vc_X2_takeJoints_7 fun _ _ => ⟨fun _ => h S1 hf h2 h3 h4, fun z => absurd z (by rw [hf 1 (by decide), hn]; omega)⟩
    | succ d ih =>
      intro i S1 hi0 hi hf h2 h3 h4
      have hr := cn_rng (fr (vw S)) hi0
      have e9 : S1 9 = S 9 := hf 9 (by decide)
      unfold lw at h2
      refine vc_X2_takeJoints_7 fun _ _ => ⟨fun z => absurd z (by rw [hf 1 (by decide), hn]; omega), fun _ => ⟨⟨by omega, by omega⟩, fun q => ⟨⟨by omega, by omega⟩, ⟨by omega, by omega⟩, ?_⟩, fun q => ⟨⟨by omega, by omega⟩, ?_⟩⟩⟩
      · rw [e9] at q
        have ef : fr (vw S) i = true := decide_eq_true q
        refine ih (i + 1) _ (by omega) (by omega) (fq_up (fq_up (fq_up (fq_up hf (by decide)) (by decide)) (by decide)) (by decide)) ?_ (fun j hj => ?_) fun j j0 j1 => ?_
        · rw [up_at, if_pos rfl, h2]
          unfold lw
          rw [cn_t hi0 ef]
          omega
        · rw [up_at, if_neg hj]
          simp only [up_ne _ (show (4 : Nat) ≠ 21 by decide), up_ne _ (show (4 : Nat) ≠ 20 by decide), up_ne _ (show (4 : Nat) ≠ 19 by decide)]
          exact h3 j hj
        · simp only [up_ne _ (show (19 : Nat) ≠ 4 by decide), up_ne _ (show (20 : Nat) ≠ 4 by decide), up_ne _ (show (21 : Nat) ≠ 4 by decide), up_ne _ (show (19 : Nat) ≠ 21 by decide), up_ne _ (show (20 : Nat) ≠ 21 by decide), up_ne _ (show (19 : Nat) ≠ 20 by decide), up_ne _ (show (21 : Nat) ≠ 20 by decide), up_ne _ (show (21 : Nat) ≠ 19 by decide), up_ne _ (show (20 : Nat) ≠ 19 by decide), up_at]
          by_cases w : j = i
          · subst w
            rw [if_pos rfl, if_pos rfl, if_pos rfl]
            refine ⟨by rw [hf 7 (by decide)]; rfl, by rw [hf 8 (by decide)]; rfl, ?_⟩
            unfold lc
            rw [if_pos (show vw S 9 j = 0 from q), h2]
          · rw [if_neg w, if_neg w, if_neg w]
            exact h4 j j0 (by omega)
      · rw [e9] at q
        have ef : fr (vw S) i = false := decide_eq_false q
        refine ih (i + 1) _ (by omega) (by omega) (fq_up (fq_up (fq_up hf (by decide)) (by decide)) (by decide)) ?_ (fun j hj => ?_) fun j j0 j1 => ?_
        · rw [up_ne _ (by decide), up_ne _ (by decide), up_ne _ (by decide), h2]
          unfold lw
          rw [cn_f hi0 ef]
        · rw [up_ne _ (by decide), up_ne _ (by decide), up_ne _ (by decide)]
          exact h3 j hj
        · simp only [up_ne _ (show (19 : Nat) ≠ 21 by decide), up_ne _ (show (20 : Nat) ≠ 21 by decide), up_ne _ (show (19 : Nat) ≠ 20 by decide), up_ne _ (show (21 : Nat) ≠ 20 by decide), up_ne _ (show (21 : Nat) ≠ 19 by decide), up_ne _ (show (20 : Nat) ≠ 19 by decide), up_at]
          by_cases w : j = i
          · subst w
            rw [if_pos rfl, if_pos rfl, if_pos rfl]
            refine ⟨by rw [hf 7 (by decide)]; rfl, by rw [hf 8 (by decide)]; rfl, ?_⟩
            unfold lc
            rw [if_neg (show ¬ vw S 9 j = 0 from q)]
          · rw [if_neg w, if_neg w, if_neg w]
            exact h4 j j0 (by omega)
  refine vc_X2_takeJoints fun _ => key n.toNat 0 _ (by omega) (by omega) (fq_up fq_rfl (by decide)) ?_ (fun j hj => ?_) fun j j0 j1 => by omega
  · rw [up_at, if_pos rfl]; rfl
  · rw [up_at, if_neg hj]
def vfr (S S' : St) : Prop := fq [22, 23, 5, 19, 20, 21, 4] S S'
theorem vw_fq {l : List Nat} {S' : St} (h : fq l S S') (h1 : 1 ∉ l) (h2 : 2 ∉ l) (h3 : 3 ∉ l) (hk : ∀ k, 7 ≤ k → k ≤ 18 → k ∉ l) : vw S' = vw S :=
  vw_eq (by rw [h 1 h1]) (by rw [h 2 h2]) (by rw [h 3 h3]) fun k j a b => by rw [h k (hk k a b)]
theorem cs_fq {l : List Nat} {S' : St} (h : fq l S S') (h0 : 0 ∉ l) (hk : ∀ k, 1 ≤ k → k ≤ 13 → k ≠ 12 → k ∉ l) : cs S' = cs S :=
  cs_eq (by rw [h 0 h0]) (by rw [h 0 h0]) (by rw [h 0 h0]) fun k j a b c => by rw [h k (hk k a b c)]
theorem wr_rg' {V : St} {lx ly col : Int → Int} {a i : Int} (r c : Int) : rgP (wr V lx ly col a i r c) := wr_rg _ r c
/-- rank of the rows that are laid -/
def rkL (V : St) (lx ly col : Int → Int) (W a m : Int) : Mx × Int × (Int → Int) := el (cn (mKept V a) m) (wr V lx ly col a m) W
theorem sp_X6_rankWithout {a n m W : Int} {lx ly col : Int → Int} (hv : vOK (vw S) n m) (hm : S 2 5 = m) (hl : lOK lx ly col n W) (hW : S 4 3 = W) (hL : ∀ j, 0 ≤ j → j < n → S 19 j = lx j ∧ S 20 j = ly j ∧ S 21 j = col j) (h : ∀ S', fq [22, 23, 5] S S' → S' 5 2 = cn (mKept (vw S) a) m → S' 5 3 = W → meq (cn (mKept (vw S) a) m) W (gm 22 S') (rkL (vw S) lx ly col W a m).1 → (∀ c, 0 ≤ c → c < W → S' 23 c = (rkL (vw S) lx ly col W a m).2.2 c) → Qr (rkL (vw S) lx ly col W a m).2.1 S') : M_X6_rankWithout a S Qr Qx := by
  have hv0 := hv
  obtain ⟨n0, n10, m0, m40, _⟩ := hv0
  have hr2 := cn_rng (mKept (vw S) a) m0
  obtain ⟨W0, W20, _⟩ := hl
  refine vc_X6_rankWithout fun _ _ => sp_X6_writeRows hv hm ⟨W0, W20, ‹_›⟩ hW hL fun S1 f1 h2 h3 h4 hmm _ => sp_X0_reduce (R := cn (mKept (vw S) a) m) (C := W) (A := wr (vw S) lx ly col a m) h2 hr2.1 (by omega) h3 W0 (by omega) (fun r c _ _ _ _ => wr_rg' r c) hmm fun S2 f3 hm2 hp2 _ _ => ?_
  refine h S2 (fq_tr (fq_f2 f1 (by decide) (by decide)) (fq_f2 (l := [22, 23, 5]) f3 (by decide) (by decide)) (fun k z => z)) ?_ ?_ hm2 hp2
  · rw [f3 5 (by decide) (by decide)]; exact h2
  · rw [f3 5 (by decide) (by decide)]; exact h3
end RK
