/-! COUNTS as a matroid: nothing sparse has more than what is kept -/
section MAT
theorem sm_mono {f g : Int → Int} : ∀ (d : Nat) (n : Int), n = d → (∀ j, 0 ≤ j → j < n → f j ≤ g j) → sm f n ≤ sm g n := by
  intro d
  induction d with
  | zero => intro n hn _; rw [hn]; exact Int.le_refl _
  | succ d ih =>
    intro n hn h
    have h1 := sm_s (f := f) (i := n - 1) (by omega)
    have h2 := sm_s (f := g) (i := n - 1) (by omega)
    rw [Int.sub_add_cancel] at h1 h2
    have h3 := ih (n - 1) (by omega) (fun j j0 j1 => h j j0 (by omega))
    have h4 := h (n - 1) (by omega) (by omega)
    omega
theorem sm_congr {f g : Int → Int} : ∀ (d : Nat) (n : Int), n = d → (∀ j, 0 ≤ j → j < n → f j = g j) → sm f n = sm g n := by
  intro d
  induction d with
  | zero => intro n hn _; rw [hn]; rfl
  | succ d ih =>
    intro n hn h
    have h1 := sm_s (f := f) (i := n - 1) (by omega)
    have h2 := sm_s (f := g) (i := n - 1) (by omega)
    rw [Int.sub_add_cancel] at h1 h2
    rw [h1, h2, ih (n - 1) (by omega) (fun j j0 j1 => h j j0 (by omega)), h (n - 1) (by omega) (by omega)]
theorem cn_cmp {p q r s : Int → Bool} : ∀ (d : Nat) (i : Int), i = d → (∀ k, 0 ≤ k → k < i → bi (p k) + bi (q k) ≤ bi (r k) + bi (s k)) → cn p i + cn q i ≤ cn r i + cn s i := by
  intro d
  induction d with
  | zero => intro i hi _; rw [hi]; exact Int.le_refl _
  | succ d ih =>
    intro i hi h
    have h1 := cn_s (p := p) (i := i - 1) (by omega)
    have h2 := cn_s (p := q) (i := i - 1) (by omega)
    have h3 := cn_s (p := r) (i := i - 1) (by omega)
    have h4 := cn_s (p := s) (i := i - 1) (by omega)
    rw [Int.sub_add_cancel] at h1 h2 h3 h4
    have h5 := ih (i - 1) (by omega) (fun k k0 k1 => h k k0 (by omega))
    have h6 := h (i - 1) (by omega) (by omega)
    unfold bi at h6
    omega
theorem cn_cmpe {p q r s : Int → Bool} {i : Int} (hi : 0 ≤ i) (h : ∀ k, 0 ≤ k → k < i → bi (p k) + bi (q k) = bi (r k) + bi (s k)) : cn p i + cn q i = cn r i + cn s i :=
  Int.le_antisymm (cn_cmp i.toNat i (by omega) fun k k0 k1 => Int.le_of_eq (h k k0 k1)) (cn_cmp i.toNat i (by omega) fun k k0 k1 => Int.le_of_eq (h k k0 k1).symm)
theorem cn_uniq {p : Int → Bool} {N x : Int} (x0 : 0 ≤ x) (x1 : x < N) (hx : p x = true) (hu : ∀ y, 0 ≤ y → y < N → p y = true → y = x) : cn p N = 1 := by
  have e : cn p N = cn (fun k => decide (k = x)) N := cn_congr fun k k0 k1 => by
    by_cases q : k = x
    · rw [decide_eq_true q, q, hx]
    · rw [decide_eq_false q]
      cases hp : p k
      · rfl
      · exact absurd (hu k k0 k1 hp) q
  rw [e, cn_pt x0 (by omega), if_pos x1]
theorem cn_pos {p : Int → Bool} {N x : Int} (x0 : 0 ≤ x) (x1 : x < N) (hx : p x = true) : 1 ≤ cn p N := by
  have h1 := cn_lt x0 x1 hx
  have h2 := cn_rng p x0
  omega
theorem cn_none {p : Int → Bool} : ∀ (d : Nat) (i : Int), i = d → (∀ j, 0 ≤ j → j < i → p j = false) → cn p i = 0 := by
  intro d
  induction d with
  | zero => intro i hi _; rw [hi]; rfl
  | succ d ih =>
    intro i hi h
    have h1 := cn_f (p := p) (i := i - 1) (by omega) (h (i - 1) (by omega) (by omega))
    rw [Int.sub_add_cancel] at h1
    rw [h1]
    exact ih (i - 1) (by omega) fun j j0 j1 => h j j0 (by omega)
theorem fub (P : Int → Int → Bool) : ∀ (d : Nat) (N : Int), N = d → sm (fun R => cn (fun k => P R k) 40) N = sm (fun k => cn (fun R => P R k) N) 40 := by
  intro d
  induction d with
  | zero =>
    intro N hN
    rw [hN]
    have h := sm_eq (f := fun k => cn (fun R => P R k) 0) (c := 0) 40 40 rfl (fun j _ _ => cn_0 _)
    rw [Int.mul_zero] at h
    exact h.symm
  | succ d ih =>
    intro N hN
    have h1 := sm_s (f := fun R => cn (fun k => P R k) 40) (i := N - 1) (by omega)
    rw [Int.sub_add_cancel] at h1
    have h2 := ih (N - 1) (by omega)
    have h3 := sm_congr (f := fun k => cn (fun R => P R k) N) (g := fun k => cn (fun R => P R k) (N - 1) + (if P (N - 1) k then 1 else 0)) 40 40 rfl (fun k _ _ => by
      have h := cn_s (p := fun R => P R k) (i := N - 1) (by omega)
      rw [Int.sub_add_cancel] at h
      exact h)
    have h4 := sm_add (f := fun k => cn (fun R => P R k) (N - 1)) (g := fun k => if P (N - 1) k then 1 else 0) 40 40 rfl
    have h5 := sm_bi (p := fun k => P (N - 1) k) 40 40 rfl
    rw [h1, h2, h3, h4, h5]
theorem pc_ie (A B : Nat) : pc (A ||| B) + pc (A &&& B) = pc A + pc B :=
  cn_cmpe (by decide) fun k _ _ => by
    rw [tb_or, tb_and]
    cases tb A k <;> cases tb B k <;> rfl
theorem sp_ie (V : St) (K : Int → Bool) (A B : Nat) : sp V K A + sp V K B ≤ sp V K (A ||| B) + sp V K (A &&& B) :=
  cn_cmp 40 40 rfl fun k _ _ => by
    rw [tb_or, tb_and, tb_or, tb_and]
    cases K k <;> cases tb A (V 11 k) <;> cases tb B (V 11 k) <;> cases tb A (V 12 k) <;> cases tb B (V 12 k) <;> decide
theorem sp_nn (V : St) (K : Int → Bool) (U : Nat) : 0 ≤ sp V K U := (cn_rng _ (by decide)).1
/-- a tight set -/
def tgt (V : St) (K : Int → Bool) (n : Int) (R : Nat) : Prop := R < 2 ^ n.toNat ∧ sp V K R = 2 * pc R - 3
theorem tgt_two {V : St} {K : Int → Bool} {n : Int} {R : Nat} (h : tgt V K n R) : 2 ≤ pc R := by
  have := sp_nn V K R
  have := h.2
  omega
theorem tgt_or {V : St} {K : Int → Bool} {n a b : Int} {A B : Nat} (hs : sparse V K n) (hA : tgt V K n A) (hB : tgt V K n B) (ha : 0 ≤ a ∧ a < 10) (hb : 0 ≤ b ∧ b < 10) (hab : a ≠ b) (h1 : tb A a = true) (h2 : tb A b = true) (h3 : tb B a = true) (h4 : tb B b = true) : tgt V K n (A ||| B) := by
  have hlt := Nat.or_lt_two_pow hA.1 hB.1
  refine ⟨hlt, ?_⟩
  have c1 : 2 ≤ pc (A ||| B) := pc_two ha hb hab (by rw [tb_or, h1]; rfl) (by rw [tb_or, h2]; rfl)
  have c2 : 2 ≤ pc (A &&& B) := pc_two ha hb hab (by rw [tb_and, h1, h3]; rfl) (by rw [tb_and, h2, h4]; rfl)
  have d1 := hs (A ||| B) hlt c1
  have d2 := hs (A &&& B) (Nat.lt_of_le_of_lt Nat.and_le_left hA.1) c2
  have e1 := pc_ie A B
  have e2 := sp_ie V K A B
  have f1 := hA.2
  have f2 := hB.2
  omega
theorem sub_orl (A B : Nat) : sub A (A ||| B) := fun j _ _ h => by rw [tb_or, h]; rfl
theorem sub_orr (A B : Nat) : sub B (A ||| B) := fun j _ _ h => by rw [tb_or, h, Bool.or_true]
/-- the greatest tight ones -/
def mxt (V : St) (K : Int → Bool) (n : Int) (R : Nat) : Prop := tgt V K n R ∧ ∀ S : Nat, tgt V K n S → sub R S → S = R
theorem mxt_over {V : St} {K : Int → Bool} {n : Int} (hn : n ≤ 10) : ∀ (d : Nat) (R : Nat), 10 - pc R < d → tgt V K n R → ∃ S, mxt V K n S ∧ sub R S := by
  intro d
  induction d with
  | zero => intro R h _; have := pc_rng R; omega
  | succ d ih =>
    intro R h hR
    by_cases q : ∃ S, tgt V K n S ∧ sub R S ∧ S ≠ R
    · obtain ⟨S, s1, s2, s3⟩ := q
      have := pc_lt (lt_pow10 hn hR.1) (lt_pow10 hn s1.1) s2 s3
      obtain ⟨T, t1, t2⟩ := ih S (by omega) s1
      exact ⟨T, t1, sub_tr s2 t2⟩
    · refine ⟨R, ⟨hR, fun S s1 s2 => ?_⟩, sub_rfl⟩
      by_cases e : S = R
      · exact e
      · exact absurd ⟨S, s1, s2, e⟩ q
theorem mxt_uniq {V : St} {K : Int → Bool} {n a b : Int} {A B : Nat} (hs : sparse V K n) (hA : mxt V K n A) (hB : mxt V K n B) (ha : 0 ≤ a ∧ a < 10) (hb : 0 ≤ b ∧ b < 10) (hab : a ≠ b) (h1 : tb A a = true) (h2 : tb A b = true) (h3 : tb B a = true) (h4 : tb B b = true) : A = B := by
  have hu := tgt_or hs hA.1 hB.1 ha hb hab h1 h2 h3 h4
  rw [← hA.2 _ hu (sub_orl A B), hB.2 _ hu (sub_orr A B)]
theorem pc_is2 {a b : Int} (ha : 0 ≤ a ∧ a < 10) (hb : 0 ≤ b ∧ b < 10) (hab : a ≠ b) : pc (two a b) = 2 := by
  have h4 := cn_one (p := fun j => decide (j = a)) (e := b) hb.1 (decide_eq_false fun z => hab z.symm) 10 10 rfl
  rw [if_pos hb.2] at h4
  have h5 := cn_pt ha.1 (N := 10) (by decide)
  rw [if_pos ha.2] at h5
  have h6 : pc (two a b) = cn (fun k => decide (k = a) || decide (k = b)) 10 := cn_congr fun j j0 _ => by
    have := tb_two ha.1 hb.1 j0
    by_cases q : j = a ∨ j = b
    · rw [this.2 q]
      rcases q with q | q
      · rw [decide_eq_true q]; rfl
      · rw [decide_eq_true q, Bool.or_true]
    · have z1 : tb (two a b) j = false := by
        cases hx : tb (two a b) j
        · rfl
        · exact absurd (this.1 hx) q
      rw [z1, decide_eq_false (fun z => q (Or.inl z)), decide_eq_false (fun z => q (Or.inr z))]
      rfl
  omega
/-- each member that is looked at lies in a tight set of those kept -/
theorem covered {V : St} {n a : Int} (hv : vOK V n (V 2 0)) (hs : sparse V (kp V n a (V 2 0)) n) {k : Int} (k0 : 0 ≤ k) (k1 : k < V 2 0) (hk : mKept V a k = true) : ∃ R, tgt V (kp V n a (V 2 0)) n R ∧ tb R (V 11 k) = true ∧ tb R (V 12 k) = true := by
  obtain ⟨n0, n10, m0, m40, hE⟩ := hv
  obtain ⟨b1, b2, b3, b4, b5, b6⟩ := hE k k0 k1
  obtain ⟨b7, b8⟩ := b6 (of_decide_eq_true hk).1
  have hst := kp_stay (V := V) (n := n) (a := a) (i := k + 1) (k := k) (by omega) (by omega) (V 2 0 - (k + 1)).toNat (V 2 0) (by omega)
  have hks := kp_s (V := V) (n := n) (a := a) (i := k) k0 k
  rw [if_pos rfl, hk, Bool.true_and] at hks
  by_cases q : firmB V (kp V n a k) n (V 11 k) (V 12 k) = true
  · obtain ⟨R, r1, r2, r3, r4⟩ := firm_iff.1 q
    have hle : sp V (kp V n a k) R ≤ sp V (kp V n a (V 2 0)) R := cn_mono fun j j0 j1 hj => by
      rw [Bool.and_eq_true] at hj ⊢
      obtain ⟨x0, x1, _⟩ := kp_true k.toNat k (by omega) j hj.1
      have := kp_stay (V := V) (n := n) (a := a) (i := k) (k := j) k0 x1 (V 2 0 - k).toNat (V 2 0) (by omega)
      exact ⟨by rw [this]; exact hj.1, hj.2⟩
    have h2 := hs R r1 (pc_two ⟨b1, b2⟩ ⟨b3, b4⟩ b5 r2 r3)
    exact ⟨R, ⟨r1, by omega⟩, r2, r3⟩
  · have q' : firmB V (kp V n a k) n (V 11 k) (V 12 k) = false := Bool.eq_false_iff.2 q
    rw [q'] at hks
    have hK : kp V n a (V 2 0) k = true := by rw [hst, hks]; rfl
    have t1 : tb (two (V 11 k) (V 12 k)) (V 11 k) = true := (tb_two b1 b3 b1).2 (Or.inl rfl)
    have t2 : tb (two (V 11 k) (V 12 k)) (V 12 k) = true := (tb_two b1 b3 b3).2 (Or.inr rfl)
    have hlt : two (V 11 k) (V 12 k) < 2 ^ n.toNat := Nat.or_lt_two_pow (Nat.pow_lt_pow_right (by decide) (by omega)) (Nat.pow_lt_pow_right (by decide) (by omega))
    have hpc := pc_is2 ⟨b1, b2⟩ ⟨b3, b4⟩ b5
    have h2 := hs _ hlt (by omega)
    have h3 : 1 ≤ sp V (kp V n a (V 2 0)) (two (V 11 k) (V 12 k)) := cn_pos (x := k) k0 (by omega) (by rw [hK, t1, t2]; rfl)
    exact ⟨_, ⟨hlt, by omega⟩, t1, t2⟩
noncomputable def mxB (V : St) (K : Int → Bool) (n : Int) (R : Int) : Bool := @decide (mxt V K n R.toNat) (Classical.propDecidable _)
theorem mxB_iff {V : St} {K : Int → Bool} {n : Int} {R : Int} : mxB V K n R = true ↔ mxt V K n R.toNat := by
  unfold mxB
  exact @decide_eq_true_iff _ (Classical.propDecidable _)
/-- members counted by the greatest tight sets that have them -/
theorem by_sets {V : St} {n a : Int} (hv : vOK V n (V 2 0)) (hs : sparse V (kp V n a (V 2 0)) n) {J : Int → Bool} (hJ : ∀ k, 0 ≤ k → k < 40 → J k = true → k < V 2 0 ∧ mKept V a k = true) : cn J 40 = sm (fun R => if mxB V (kp V n a (V 2 0)) n R then sp V J R.toNat else 0) ((2 ^ n.toNat : Nat) : Int) := by
  obtain ⟨n0, n10, m0, m40, hE⟩ := id hv
  have hf := fub (fun R k => J k && (mxB V (kp V n a (V 2 0)) n R && (tb R.toNat (V 11 k) && tb R.toNat (V 12 k)))) (2 ^ n.toNat) _ rfl
  have h1 := sm_congr (f := fun R => if mxB V (kp V n a (V 2 0)) n R then sp V J R.toNat else 0) (g := fun R => cn (fun k => J k && (mxB V (kp V n a (V 2 0)) n R && (tb R.toNat (V 11 k) && tb R.toNat (V 12 k)))) 40) (2 ^ n.toNat) ((2 ^ n.toNat : Nat) : Int) rfl (fun R _ _ => by
    show (if mxB V (kp V n a (V 2 0)) n R then sp V J R.toNat else 0) = cn (fun k => J k && (mxB V (kp V n a (V 2 0)) n R && (tb R.toNat (V 11 k) && tb R.toNat (V 12 k)))) 40
    cases hx : mxB V (kp V n a (V 2 0)) n R
    · have e : cn (fun k => J k && (false && (tb R.toNat (V 11 k) && tb R.toNat (V 12 k)))) 40 = cn (fun _ => false) 40 := cn_congr fun k _ _ => by rw [Bool.false_and, Bool.and_false]
      rw [e, if_neg (by decide)]
      rfl
    · rw [if_pos rfl]
      exact cn_congr fun k _ _ => by rw [Bool.true_and])
  rw [h1, hf, ← sm_bi (p := J) 40 40 rfl]
  refine sm_congr 40 40 rfl fun k k0 k1 => ?_
  show (if J k = true then (1 : Int) else 0) = cn (fun R => J k && (mxB V (kp V n a (V 2 0)) n R && (tb R.toNat (V 11 k) && tb R.toNat (V 12 k)))) ((2 ^ n.toNat : Nat) : Int)
  cases hj : J k
  · have e : cn (fun R : Int => false && (mxB V (kp V n a (V 2 0)) n R && (tb R.toNat (V 11 k) && tb R.toNat (V 12 k)))) ((2 ^ n.toNat : Nat) : Int) = 0 := cn_none (2 ^ n.toNat) _ rfl fun j _ _ => Bool.false_and _
    rw [e]
    rfl
  · obtain ⟨j1, j2⟩ := hJ k k0 k1 hj
    obtain ⟨b1, b2, b3, b4, b5, b6⟩ := hE k k0 j1
    obtain ⟨R, r1, r2, r3⟩ := covered hv hs k0 j1 j2
    obtain ⟨S, s1, s2⟩ := mxt_over n10 11 R (by have := pc_rng R; omega) r1
    have c1 := s2 _ b1 b2 r2
    have c2 := s2 _ b3 b4 r3
    have hSl := s1.1.1
    rw [if_pos rfl]
    refine (cn_uniq (x := (S : Int)) (by omega) (by omega) ?_ fun y y0 y1 hy => ?_).symm
    · rw [Bool.true_and, Int.toNat_natCast, mxB_iff.2 (by rw [Int.toNat_natCast]; exact s1), c1, c2]
      rfl
    · rw [Bool.true_and, Bool.and_eq_true, Bool.and_eq_true] at hy
      have := mxt_uniq hs (mxB_iff.1 hy.1) s1 ⟨b1, b2⟩ ⟨b3, b4⟩ b5 hy.2.1 hy.2.2 c1 c2
      omega
/-- nothing sparse has more than what is kept -/
theorem kp_max {V : St} {n a : Int} (hv : vOK V n (V 2 0)) (hs : sparse V (kp V n a (V 2 0)) n) {J : Int → Bool} (hJ : ∀ k, 0 ≤ k → k < 40 → J k = true → k < V 2 0 ∧ mKept V a k = true) (hJs : sparse V J n) : cn J 40 ≤ cn (kp V n a (V 2 0)) 40 := by
  rw [by_sets hv hs hJ, by_sets hv hs (J := kp V n a (V 2 0)) (fun k _ _ hk => by
    obtain ⟨_, x, y⟩ := kp_true (V 2 0).toNat (V 2 0) (by have := hv.2.2.1; omega) k hk
    exact ⟨x, y⟩)]
  refine sm_mono (2 ^ n.toNat) _ rfl fun R R0 R1 => ?_
  show (if mxB V (kp V n a (V 2 0)) n R = true then sp V J R.toNat else 0) ≤ (if mxB V (kp V n a (V 2 0)) n R = true then sp V (kp V n a (V 2 0)) R.toNat else 0)
  by_cases q : mxB V (kp V n a (V 2 0)) n R = true
  · rw [if_pos q, if_pos q]
    have h := (mxB_iff.1 q).1
    have := hJs _ h.1 (tgt_two h)
    have := h.2
    omega
  · rw [if_neg q, if_neg q]
    exact Int.le_refl _
end MAT
