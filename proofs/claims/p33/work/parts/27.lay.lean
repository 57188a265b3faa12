/-! LAYOUTS and the rows that are laid: one function -/
section LAY
variable {S : St} {Qr : Int → St → Prop} {Qx : String → St → Prop}
def mPut (A : Mx) (r c v : Int) : Mx := fun r' c' => if r' = r ∧ c' = c then v else A r' c'
def pEnd (A : Mx) (r col a b : Int) : Mx := if col = -1 then A else mPut (mPut A r col (a % 1000003)) r (col + 1) (b % 1000003)
def mKept (V : St) (a k : Int) : Bool := decide (V 15 k = 0 ∧ k ≠ a)
def pRow (A : Mx) (lx ly col : Int → Int) (r f t : Int) : Mx := pEnd (pEnd A r (col f) (lx f - lx t) (ly f - ly t)) r (col t) (-(lx f - lx t)) (-(ly f - ly t))
def wrN (V : St) (lx ly col : Int → Int) (a : Int) : Nat → Mx
  | 0 => fun _ _ => 0
  | n + 1 => if mKept V a (n : Int) then pRow (wrN V lx ly col a n) lx ly col (cn (mKept V a) (n : Int)) (V 11 (n : Int)) (V 12 (n : Int)) else wrN V lx ly col a n
def wr (V : St) (lx ly col : Int → Int) (a i : Int) : Mx := wrN V lx ly col a i.toNat
theorem wr_s {V : St} {lx ly col : Int → Int} {a i : Int} (h : 0 ≤ i) : wr V lx ly col a (i + 1) = if mKept V a i then pRow (wr V lx ly col a i) lx ly col (cn (mKept V a) i) (V 11 i) (V 12 i) else wr V lx ly col a i := by
  unfold wr
  rw [show (i + 1).toNat = i.toNat + 1 by omega]
  show (if mKept V a ((i.toNat : Nat) : Int) then pRow (wrN V lx ly col a i.toNat) lx ly col (cn (mKept V a) ((i.toNat : Nat) : Int)) (V 11 ((i.toNat : Nat) : Int)) (V 12 ((i.toNat : Nat) : Int)) else wrN V lx ly col a i.toNat) = _
  rw [Int.toNat_of_nonneg h]
/-- members in order -/
def vOK (V : St) (n m : Int) : Prop := 0 ≤ n ∧ n ≤ 10 ∧ 0 ≤ m ∧ m ≤ 40 ∧ ∀ k, 0 ≤ k → k < m → 0 ≤ V 11 k ∧ V 11 k < 10 ∧ 0 ≤ V 12 k ∧ V 12 k < 10 ∧ V 11 k ≠ V 12 k ∧ (V 15 k = 0 → V 11 k < n ∧ V 12 k < n)
/-- a layout in order -/
def lOK (lx ly col : Int → Int) (n W : Int) : Prop := 0 ≤ W ∧ W ≤ 20 ∧ ∀ j, 0 ≤ j → j < n → (-1000003 ≤ lx j ∧ lx j ≤ 1000003 ∧ -1000003 ≤ ly j ∧ ly j ≤ 1000003) ∧ (col j = -1 ∨ (0 ≤ col j ∧ col j + 2 ≤ W)) ∧ ∀ i, 0 ≤ i → i < n → i ≠ j → col i ≠ -1 → col j ≠ -1 → col i + 2 ≤ col j ∨ col j + 2 ≤ col i
theorem mPut_rg {A : Mx} {r c v : Int} (hA : ∀ r c, rgP (A r c)) (hv : rgP v) : ∀ r' c', rgP (mPut A r c v r' c') := fun r' c' => by
  unfold mPut
  split
  · exact hv
  · exact hA _ _
theorem pEnd_rg {A : Mx} {r c a b : Int} (hA : ∀ r c, rgP (A r c)) : ∀ r' c', rgP (pEnd A r c a b r' c') := fun r' c' => by
  unfold pEnd
  split
  · exact hA _ _
  · exact mPut_rg (mPut_rg hA (modP _)) (modP _) _ _
theorem pEnd_out {A : Mx} {r c a b r' c' : Int} (h : r' ≠ r ∨ (c = -1 ∨ (c' ≠ c ∧ c' ≠ c + 1))) : pEnd A r c a b r' c' = A r' c' := by
  unfold pEnd
  split
  · rfl
  · next q =>
    unfold mPut
    rw [if_neg (by omega), if_neg (by omega)]
theorem pEnd_cg {R C : Int} {A B : Mx} {r c a b : Int} (h : meq R C A B) : meq R C (pEnd A r c a b) (pEnd B r c a b) := fun r' c' r0 r1 c0 c1 => by
  unfold pEnd
  split
  · exact h _ _ r0 r1 c0 c1
  · unfold mPut
    rw [h _ _ r0 r1 c0 c1]
theorem wr_rg {V : St} {lx ly col : Int → Int} {a : Int} : ∀ n : Nat, ∀ r c, rgP (wrN V lx ly col a n r c)
  | 0 => fun _ _ => ⟨Int.le_refl _, by show (0 : Int) < 1000003; decide⟩
  | n + 1 => fun r c => by
    unfold wrN
    split
    · exact pEnd_rg (pEnd_rg (wr_rg n)) _ _
    · exact wr_rg n _ _
theorem wr_zero {V : St} {lx ly col : Int → Int} {a : Int} : ∀ (d : Nat) (i : Int), i = d → ∀ r c, cn (mKept V a) i ≤ r → wr V lx ly col a i r c = 0 := by
  intro d
  induction d with
  | zero => intro i hi r c _; rw [hi]; rfl
  | succ d ih =>
    intro i hi r c hr
    have hs := wr_s (V := V) (lx := lx) (ly := ly) (col := col) (a := a) (i := i - 1) (by omega)
    have hc := cn_s (p := mKept V a) (i := i - 1) (by omega)
    rw [Int.sub_add_cancel] at hs hc
    rw [hs]
    have hn := ih (i - 1) (by omega)
    split
    · next q =>
      rw [if_pos q] at hc
      unfold pRow
      rw [pEnd_out (Or.inl (by omega)), pEnd_out (Or.inl (by omega))]
      exact hn r c (by omega)
    · next q =>
      rw [if_neg q] at hc
      exact hn r c (by omega)
theorem gm_mPut {g : Nat} {r col v : Int} (hc0 : 0 ≤ col) (hc : col < 40) {r' c' : Int} (c0 : 0 ≤ c') (c1 : c' < 40) : gm g (up S g (40 * r + col) v) r' c' = mPut (gm g S) r col v r' c' := by
  rw [gm_up hc0 hc c0 c1]; rfl
/-- cells of a row that are free yet -/
def zEnd (A : Mx) (r col : Int) : Prop := col ≠ -1 → A r col = 0 ∧ A r (col + 1) = 0
theorem sp_X6_writeEnd {r col a b : Int} (hR : S 5 2 ≤ 40) (hC : S 5 3 ≤ 40) (hr0 : 0 ≤ r) (hr : r < S 5 2) (hcol : col = -1 ∨ (0 ≤ col ∧ col + 2 ≤ S 5 3)) (hz : zEnd (gm 22 S) r col) (ha : r32 a) (hb : r32 b) (h : ∀ S', fk 22 S S' → (∀ r' c', 0 ≤ c' → c' < 40 → gm 22 S' r' c' = pEnd (gm 22 S) r col a b r' c') → Qr 0 S') : M_X6_writeEnd r col a b S Qr Qx := by
  refine vc_X6_writeEnd fun _ _ _ _ _ => ⟨fun q => h S fk_rfl fun r' c' _ _ => by unfold pEnd; rw [if_pos q], fun q => ?_⟩
  have hc : 0 ≤ col ∧ col + 2 ≤ S 5 3 := by omega
  obtain ⟨z1, z2⟩ := hz q
  obtain ⟨a1, a2⟩ := ha
  obtain ⟨b1, b2⟩ := hb
  refine sp_X0_add hR hC hr0 hr hc.1 (by omega) (by rw [z1]; exact ⟨by omega, by omega⟩) fun _ => ⟨⟨by omega, by omega⟩, ?_⟩
  have e1 : gm 22 (up S 22 (40 * r + col) ((gm 22 S r col + a) % 1000003)) r (col + 1) = 0 := by
    rw [gm_mPut hc.1 (by omega) (by omega) (by omega)]
    unfold mPut
    rw [if_neg (by omega), z2]
  refine sp_X0_add (by rw [up_ne _ (by decide)]; exact hR) (by rw [up_ne _ (by decide)]; exact hC) hr0 (by rw [up_ne _ (by decide)]; exact hr) (by omega) (by rw [up_ne _ (by decide)]; omega) (by rw [e1]; exact ⟨by omega, by omega⟩) fun _ => h _ (fk_up fk_up0) fun r' c' c0 c1 => ?_
  rw [gm_mPut (by omega) (by omega) c0 c1, e1, z1, Int.zero_add, Int.zero_add]
  unfold pEnd
  rw [if_neg q]
  unfold mPut
  by_cases w : r' = r ∧ c' = col + 1
  · rw [if_pos w, if_pos w]
  · rw [if_neg w, if_neg w, gm_mPut hc.1 (by omega) c0 c1]
    rfl
theorem sp_X6_writeRow {r f t n W : Int} {lx ly col : Int → Int} (hl : lOK lx ly col n W) (hn : n ≤ 10) (hR : S 5 2 ≤ 40) (hC : S 5 3 = W) (hr0 : 0 ≤ r) (hr : r < S 5 2) (hf0 : 0 ≤ f) (hf : f < n) (ht0 : 0 ≤ t) (ht : t < n) (hft : f ≠ t) (hL : ∀ j, 0 ≤ j → j < n → S 19 j = lx j ∧ S 20 j = ly j ∧ S 21 j = col j) (hz : ∀ c, 0 ≤ c → c < W → gm 22 S r c = 0) (h : ∀ S', fk 22 S S' → (∀ r' c', 0 ≤ c' → c' < 40 → gm 22 S' r' c' = pRow (gm 22 S) lx ly col r f t r' c') → Qr 0 S') : M_X6_writeRow r f t S Qr Qx := by
  obtain ⟨W0, W20, hl⟩ := hl
  obtain ⟨lf1, lf2, lf3⟩ := hl f hf0 hf
  obtain ⟨lt1, lt2, _⟩ := hl t ht0 ht
  have hff := lf3 t ht0 ht (fun e => hft e.symm)
  obtain ⟨f1, f2, f3⟩ := hL f hf0 hf
  obtain ⟨t1, t2, t3⟩ := hL t ht0 ht
  refine vc_X6_writeRow fun _ _ _ _ => ⟨⟨by omega, by omega⟩, ⟨by omega, by omega⟩, ?_⟩
  rw [f1, f2, f3, t1, t2]
  refine ⟨⟨by omega, by omega⟩, ⟨by omega, by omega⟩, sp_X6_writeEnd hR (by omega) hr0 hr (by omega) (fun q => ⟨hz _ (by omega) (by omega), hz _ (by omega) (by omega)⟩) ⟨by omega, by omega⟩ ⟨by omega, by omega⟩ fun S1 k1 m1 _ => ⟨⟨by omega, by omega⟩, ⟨by omega, by omega⟩, ?_⟩⟩
  rw [k1 21 (by decide), t3]
  have e5 : S1 5 = S 5 := k1 5 (by decide)
  refine sp_X6_writeEnd (by rw [e5]; exact hR) (by rw [e5]; omega) hr0 (by rw [e5]; exact hr) (by rw [e5]; omega) (fun q => ?_) ⟨by omega, by omega⟩ ⟨by omega, by omega⟩ fun S2 k2 m2 _ => h S2 (fk_tr k1 k2) fun r' c' c0 c1 => ?_
  · rw [m1 _ _ (by omega) (by omega), m1 _ _ (by omega) (by omega), pEnd_out (by omega), pEnd_out (by omega)]
    exact ⟨hz _ (by omega) (by omega), hz _ (by omega) (by omega)⟩
  · rw [m2 r' c' c0 c1]
    unfold pRow
    have := pEnd_cg (R := r' + 1) (C := 40) (r := r) (c := col t) (a := -(lx f - lx t)) (b := -(ly f - ly t)) (A := gm 22 S1) (B := pEnd (gm 22 S) r (col f) (lx f - lx t) (ly f - ly t)) (fun r c r0 r1 c0 c1 => m1 r c c0 c1)
    by_cases w : 0 ≤ r'
    · exact this r' c' w (by omega) c0 c1
    · rw [pEnd_out (Or.inl (by omega)), m1 r' c' c0 c1, pEnd_out (Or.inl (by omega)), pEnd_out (Or.inl (by omega)), pEnd_out (Or.inl (by omega))]
theorem pRow_cg {R C : Int} {A B : Mx} {lx ly col : Int → Int} {r f t : Int} (h : meq R C A B) : meq R C (pRow A lx ly col r f t) (pRow B lx ly col r f t) := pEnd_cg (pEnd_cg h)
theorem cn_all_but {V : St} {m a : Int} (hm : 0 ≤ m) : cn (mKept V a) m = cn (mThere V) m - (if 0 ≤ a ∧ a < m ∧ V 15 a = 0 then 1 else 0) := by
  have key : ∀ (d : Nat) (i : Int), i = d → cn (mKept V a) i = cn (mThere V) i - (if 0 ≤ a ∧ a < i ∧ V 15 a = 0 then 1 else 0) := by
    intro d
    induction d with
    | zero => intro i hi; rw [hi, if_neg (by omega)]; rfl
    | succ d ih =>
      intro i hi
      have h1 := cn_s (p := mKept V a) (i := i - 1) (by omega)
      have h2 := cn_s (p := mThere V) (i := i - 1) (by omega)
      have h3 := ih (i - 1) (by omega)
      rw [Int.sub_add_cancel] at h1 h2
      rw [h1, h2, h3]
      by_cases q : V 15 (i - 1) = 0
      · have e2 : mThere V (i - 1) = true := by simp [mThere, q]
        rw [e2]
        by_cases q2 : i - 1 = a
        · have e1 : mKept V a (i - 1) = false := by simp [mKept, q2]
          rw [e1, if_neg (show ¬ (0 ≤ a ∧ a < i - 1 ∧ V 15 a = 0) by omega), if_pos (show 0 ≤ a ∧ a < i ∧ V 15 a = 0 by rw [← q2]; exact ⟨by omega, by omega, q⟩)]
          simp
        · have e1 : mKept V a (i - 1) = true := by simp [mKept, q, q2]
          rw [e1]
          by_cases q3 : 0 ≤ a ∧ a < i - 1 ∧ V 15 a = 0
          · rw [if_pos q3, if_pos (show 0 ≤ a ∧ a < i ∧ V 15 a = 0 from ⟨q3.1, by omega, q3.2.2⟩)]; simp
          · rw [if_neg q3, if_neg (fun z : 0 ≤ a ∧ a < i ∧ V 15 a = 0 => q3 ⟨z.1, by omega, z.2.2⟩)]; simp
      · have e1 : mKept V a (i - 1) = false := by simp [mKept, q]
        have e2 : mThere V (i - 1) = false := by simp [mThere, q]
        rw [e1, e2]
        by_cases q3 : 0 ≤ a ∧ a < i - 1 ∧ V 15 a = 0
        · rw [if_pos q3, if_pos (show 0 ≤ a ∧ a < i ∧ V 15 a = 0 from ⟨q3.1, by omega, q3.2.2⟩)]; simp
        · have : ¬ (0 ≤ a ∧ a < i ∧ V 15 a = 0) := fun z => by
            by_cases w : a = i - 1
            · rw [← w] at q; exact q z.2.2
            · exact q3 ⟨z.1, by omega, z.2.2⟩
          rw [if_neg q3, if_neg this]; simp
  exact key m.toNat m (by omega)
theorem sp_X6_writeRows {a n m W : Int} {lx ly col : Int → Int} (hv : vOK (vw S) n m) (hm : S 2 5 = m) (hl : lOK lx ly col n W) (hW : S 4 3 = W) (hL : ∀ j, 0 ≤ j → j < n → S 19 j = lx j ∧ S 20 j = ly j ∧ S 21 j = col j) (h : ∀ S', f2 22 5 S S' → S' 5 2 = cn (mKept (vw S) a) m → S' 5 3 = W → (∀ j, j ≠ 2 → j ≠ 3 → S' 5 j = S 5 j) → meq (cn (mKept (vw S) a) m) W (gm 22 S') (wr (vw S) lx ly col a m) → Qr 0 S') : M_X6_writeRows a S Qr Qx := by
  obtain ⟨n0, n10, m0, m40, hE⟩ := hv
  have hl0 := hl
  obtain ⟨W0, W20, _⟩ := hl0
  have hc := cn_all_but (V := vw S) (a := a) m0
  have hr1 := cn_rng (mThere (vw S)) m0
  have hr2 := cn_rng (mKept (vw S) a) m0
  have ec : cn (mThere S) (S 2 5) = cn (mThere (vw S)) m := by rw [hm]; rfl
  -- the loop
  have key : ∀ (d : Nat) (i : Int) (S1 : St), 0 ≤ i → i + d = m → f2 22 5 S S1 → S1 5 2 = cn (mKept (vw S) a) m → S1 5 3 = W → (∀ j, j ≠ 2 → j ≠ 3 → S1 5 j = S 5 j) → meq (cn (mKept (vw S) a) m) W (gm 22 S1) (wr (vw S) lx ly col a i) → R_X6_writeRows_45 a (cn (mKept (vw S) a) i) i S1 Qr Qx := by
    intro d
    induction d with
    | zero =>
      intro i S1 hi0 hi hf h2 h3 h4 hmm
      have e : i = m := by omega
      rw [e] at hmm ⊢
      exact vc_X6_writeRows_45 fun _ _ _ _ => ⟨fun _ => h S1 hf h2 h3 h4 hmm, fun z => absurd z (by rw [hf 2 (by decide) (by decide), hm]; omega)⟩
    | succ d ih =>
      intro i S1 hi0 hi hf h2 h3 h4 hmm
      have em : S1 2 5 = m := by rw [hf 2 (by decide) (by decide)]; exact hm
      have e15 : S1 15 = S 15 := hf 15 (by decide) (by decide)
      have hci := cn_rng (mKept (vw S) a) hi0
      have hs := wr_s (V := vw S) (lx := lx) (ly := ly) (col := col) (a := a) hi0
      refine vc_X6_writeRows_45 fun _ _ _ _ => ⟨fun z => absurd z (by omega), fun _ => ?_⟩
      have hno : mKept (vw S) a i = false → r32 (i + 1) ∧ R_X6_writeRows_45 a (cn (mKept (vw S) a) i) (i + 1) S1 Qr Qx := fun q => by
        have e := cn_f hi0 q
        have := ih (i + 1) S1 (by omega) (by omega) hf h2 h3 h4 (by rw [hs, q]; exact hmm)
        rw [e] at this
        exact ⟨⟨by omega, by omega⟩, this⟩
      refine sp_X3_has (by omega) (fun p1 p2 p3 => ?_) (fun p => ?_)
      · intro _ _
        rw [e15] at p3
        refine ⟨fun z => absurd z (by decide), fun _ => ⟨fun q => hno (by simp [mKept, q]), fun q => ⟨⟨by omega, by omega⟩, ?_⟩⟩⟩
        have hk : mKept (vw S) a i = true := decide_eq_true ⟨p3, q⟩
        have hlt := cn_lt hi0 (show i < m by omega) hk
        obtain ⟨b1, b2, b3, b4, b5, b6⟩ := hE i hi0 (by omega)
        obtain ⟨b7, b8⟩ := b6 p3
        rw [hf 11 (by decide) (by decide), hf 12 (by decide) (by decide)]
        have e := cn_t hi0 hk
        refine sp_X6_writeRow hl n10 (by rw [h2]; omega) h3 hci.1 (by rw [h2]; exact hlt) b1 b7 b3 b8 b5 (fun j j0 j1 => by rw [hf 19 (by decide) (by decide), hf 20 (by decide) (by decide), hf 21 (by decide) (by decide)]; exact hL j j0 j1) (fun c c0 c1 => ?_) fun S2 k2 m2 _ => ?_
        · rw [hmm _ _ hci.1 hlt c0 c1]
          exact wr_zero i.toNat i (by omega) _ _ (Int.le_refl _)
        · have hnx := ih (i + 1) S2 (by omega) (by omega) (f2_fk hf k2) (by rw [k2 5 (by decide)]; exact h2) (by rw [k2 5 (by decide)]; exact h3) (fun j q1 q2 => by rw [k2 5 (by decide)]; exact h4 j q1 q2) (fun r c r0 r1 c0 c1 => by
            rw [m2 r c c0 (by omega), hs, hk]
            exact pRow_cg hmm r c r0 r1 c0 c1)
          rw [e] at hnx
          exact ⟨⟨by omega, by omega⟩, ⟨by omega, by omega⟩, hnx⟩
      · intro _ _
        refine ⟨fun _ => hno ?_, fun z => absurd rfl z⟩
        have : ¬ S 15 i = 0 := fun z => p ⟨hi0, by omega, by rw [e15]; exact z⟩
        exact decide_eq_false fun z => this z.1
  have go : ∀ x : Int, x = cn (mKept (vw S) a) m → M_X0_begin x (S 4 3) S (fun _ S16 => okC S16 → R_X6_writeRows_45 a 0 0 S16 Qr Qx) Qx := fun x hx => by
    rw [hx, hW]
    refine sp_X0_begin hr2.1 (by omega) W0 (by omega) fun S1 hf h2 h3 h4 hz _ => ?_
    exact key m.toNat 0 S1 (by omega) (by omega) hf h2 h3 h4 fun r c r0 r1 c0 c1 => hz r c r0 (Or.inl r1) c0 (Or.inr c1)
  refine vc_X6_writeRows fun _ _ => sp_X3_present (by omega) (by omega) fun _ _ => ?_
  rw [ec]
  refine sp_X3_has (by omega) (fun p1 p2 p3 => fun _ _ => ⟨fun z => absurd z (by decide), fun _ => ⟨⟨by omega, by omega⟩, go _ ?_⟩⟩) (fun p => fun _ _ => ⟨fun _ => ⟨⟨by omega, by omega⟩, go _ ?_⟩, fun z => absurd rfl z⟩)
  · rw [hc, if_pos ⟨p1, by omega, p3⟩]
  · rw [hc, if_neg (fun z => p (by rw [hm]; exact z))]
end LAY
