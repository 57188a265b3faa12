/-! PEBBLES against counts: the pure part -/
section PEB
theorem cn_chg {p q : Int → Bool} {x : Int} (h0 : 0 ≤ x) (h : ∀ k, k ≠ x → q k = p k) : ∀ (d : Nat) (i : Int), i = d → cn q i + (if x < i then bi (p x) else 0) = cn p i + (if x < i then bi (q x) else 0) := by
  intro d
  induction d with
  | zero => intro i hi; rw [hi, if_neg (by omega), if_neg (by omega)]; rfl
  | succ d ih =>
    intro i hi
    have h1 := cn_s (p := p) (i := i - 1) (by omega)
    have h2 := cn_s (p := q) (i := i - 1) (by omega)
    have h3 := ih (i - 1) (by omega)
    rw [Int.sub_add_cancel] at h1 h2
    rw [h1, h2]
    by_cases e : i - 1 = x
    · rw [if_neg (show ¬ x < i - 1 by omega), if_neg (show ¬ x < i - 1 by omega)] at h3
      rw [if_pos (show x < i by omega), if_pos (show x < i by omega), e]
      unfold bi
      rw [e] at h3
      omega
    · rw [h (i - 1) e]
      by_cases e2 : x < i - 1
      · rw [if_pos e2, if_pos e2] at h3
        rw [if_pos (show x < i by omega), if_pos (show x < i by omega)]
        omega
      · rw [if_neg e2, if_neg e2] at h3
        rw [if_neg (show ¬ x < i by omega), if_neg (show ¬ x < i by omega)]
        omega
theorem cn_chg20 {p q : Int → Bool} {x N : Int} (h0 : 0 ≤ x) (hN : x < N) (h : ∀ k, k ≠ x → q k = p k) : cn q N + bi (p x) = cn p N + bi (q x) := by
  have := cn_chg h0 h N.toNat N (by omega)
  rw [if_pos hN, if_pos hN] at this
  exact this
theorem cn_half {f : Int → Bool} : ∀ (d : Nat) (i : Int), i = d → cn (fun p => f (p / 2)) (2 * i) = 2 * cn f i := by
  intro d
  induction d with
  | zero => intro i hi; rw [hi]; rfl
  | succ d ih =>
    intro i hi
    have h1 := cn_s (p := fun p => f (p / 2)) (i := 2 * (i - 1)) (by omega)
    have h2 := cn_s (p := fun p => f (p / 2)) (i := 2 * (i - 1) + 1) (by omega)
    have h3 := cn_s (p := f) (i := i - 1) (by omega)
    have h4 := ih (i - 1) (by omega)
    rw [Int.sub_add_cancel] at h3
    rw [show 2 * (i - 1) + 1 + 1 = 2 * i by omega] at h2
    have e1 : (2 * (i - 1)) / 2 = i - 1 := by omega
    have e2 : (2 * (i - 1) + 1) / 2 = i - 1 := by omega
    rw [h2, h1, h3, h4]
    show 2 * cn f (i - 1) + (if f ((2 * (i - 1)) / 2) then 1 else 0) + (if f ((2 * (i - 1) + 1) / 2) then 1 else 0) = _
    rw [e1, e2]
    omega
theorem cn_split {p a : Int → Bool} : ∀ (d : Nat) (i : Int), i = d → cn p i = cn (fun k => p k && a k) i + cn (fun k => p k && !(a k)) i := by
  intro d
  induction d with
  | zero => intro i hi; rw [hi]; rfl
  | succ d ih =>
    intro i hi
    have h1 := cn_s (p := p) (i := i - 1) (by omega)
    have h2 := cn_s (p := fun k => p k && a k) (i := i - 1) (by omega)
    have h3 := cn_s (p := fun k => p k && !(a k)) (i := i - 1) (by omega)
    have h4 := ih (i - 1) (by omega)
    rw [Int.sub_add_cancel] at h1 h2 h3
    rw [h1, h2, h3, h4]
    cases p (i - 1) <;> cases a (i - 1) <;> simp <;> omega
theorem cn_orle {p q r : Int → Bool} {i : Int} (h : ∀ k, 0 ≤ k → k < i → p k = true → q k = true ∨ r k = true) : ∀ (d : Nat) (j : Int), j = d → j ≤ i → cn p j ≤ cn q j + cn r j := by
  intro d
  induction d with
  | zero => intro j hj _; rw [hj]; exact Int.le_refl _
  | succ d ih =>
    intro j hj hi
    have h1 := cn_s (p := p) (i := j - 1) (by omega)
    have h2 := cn_s (p := q) (i := j - 1) (by omega)
    have h3 := cn_s (p := r) (i := j - 1) (by omega)
    have h4 := ih (j - 1) (by omega) (by omega)
    rw [Int.sub_add_cancel] at h1 h2 h3
    rw [h1, h2, h3]
    have h5 := h (j - 1) (by omega) (by omega)
    by_cases q1 : p (j - 1) = true
    · rw [if_pos q1]
      rcases h5 q1 with z | z
      · rw [if_pos z]; split <;> omega
      · rw [if_pos z]; split <;> omega
    · rw [if_neg q1]
      split <;> split <;> omega
theorem cn_pt {x : Int} (h0 : 0 ≤ x) {N : Int} (hN : 0 ≤ N) : cn (fun k => decide (k = x)) N = if x < N then 1 else 0 := by
  have h := cn_one (p := fun _ => false) h0 rfl N.toNat N (by omega)
  have e : cn (fun _ => false) N = 0 := by
    have := cn_mono (p := fun _ => false) (q := fun _ => false) (i := N) (fun _ _ _ h => h)
    have key : ∀ (d : Nat) (i : Int), i = d → cn (fun _ => false) i = 0 := by
      intro d
      induction d with
      | zero => intro i hi; rw [hi]; rfl
      | succ d ih =>
        intro i hi
        have := cn_f (p := fun _ => false) (i := i - 1) (by omega) rfl
        rw [Int.sub_add_cancel] at this
        rw [this]; exact ih (i - 1) (by omega)
    exact key N.toNat N (by omega)
  rw [e] at h
  have e2 : cn (fun k => false || decide (k = x)) N = cn (fun k => decide (k = x)) N := cn_congr fun k _ _ => by simp
  rw [← e2, h]
  omega
/-- members of K within U -/
def sp (V : St) (K : Int → Bool) (U : Nat) : Int := cn (fun k => K k && (tb U (V 11 k) && tb U (V 12 k))) 40
def spb (L : Int → Int) (U : Nat) (p : Int) : Bool := decide (L p ≠ -1) && (tb U (p / 2) && tb U (L p))
def spP (L : Int → Int) (U : Nat) : Int := cn (spb L U) 20
theorem own (U : Nat) : cn (fun p => tb U (p / 2)) 20 = 2 * pc U := cn_half (f := tb U) 10 10 rfl
theorem spP_rest (L : Int → Int) (U : Nat) : spP L U + cn (fun p => tb U (p / 2) && !(spb L U p)) 20 = 2 * pc U := by
  have h := cn_split (p := fun p => tb U (p / 2)) (a := spb L U) 20 20 rfl
  rw [own] at h
  have e : cn (fun p => tb U (p / 2) && spb L U p) 20 = spP L U := cn_congr fun k _ _ => by
    unfold spb
    cases tb U (k / 2) <;> simp
  omega
/-- pebbles in order: they lead elsewhere, to joints that there are -/
def pbOK (L : Int → Int) (n : Int) : Prop := ∀ p, 0 ≤ p → p < 20 → L p = -1 ∨ (0 ≤ L p ∧ L p < n ∧ L p ≠ p / 2 ∧ p / 2 < n)
def both (L : Int → Int) (j : Int) : Prop := L (2 * j) = -1 ∧ L (2 * j + 1) = -1
theorem free4 {L : Int → Int} {U : Nat} {a b : Int} (ha : 0 ≤ a ∧ a < 10) (hb : 0 ≤ b ∧ b < 10) (hab : a ≠ b) (fa : both L a) (fb' : both L b) (ua : tb U a = true) (ub : tb U b = true) : spP L U ≤ 2 * pc U - 4 := by
  have h1 := spP_rest L U
  have h2 : cn (fun p => (decide (p / 2 = a) || decide (p / 2 = b))) 20 ≤ cn (fun p => tb U (p / 2) && !(spb L U p)) 20 := cn_mono fun p p0 p1 hp => by
    rw [Bool.or_eq_true] at hp
    have hl : L p = -1 ∧ tb U (p / 2) = true := by
      rcases hp with q | q
      · have q' := of_decide_eq_true q
        rw [q']
        refine ⟨?_, ua⟩
        rcases (show p = 2 * a ∨ p = 2 * a + 1 by omega) with e | e
        · rw [e]; exact fa.1
        · rw [e]; exact fa.2
      · have q' := of_decide_eq_true q
        rw [q']
        refine ⟨?_, ub⟩
        rcases (show p = 2 * b ∨ p = 2 * b + 1 by omega) with e | e
        · rw [e]; exact fb'.1
        · rw [e]; exact fb'.2
    unfold spb
    rw [hl.2, hl.1]
    simp
  have h3 := cn_half (f := fun j => decide (j = a) || decide (j = b)) 10 10 rfl
  have h4 := cn_one (p := fun j => decide (j = a)) (e := b) hb.1 (decide_eq_false fun z => hab z.symm) 10 10 rfl
  rw [if_pos hb.2] at h4
  have h5 := cn_pt ha.1 (N := 10) (by decide)
  rw [if_pos ha.2] at h5
  have h6 : cn (fun p => (decide (p / 2 = a) || decide (p / 2 = b))) 20 = 2 * cn (fun j => decide (j = a) || decide (j = b)) 10 := h3
  omega
def sparse (V : St) (K : Int → Bool) (n : Int) : Prop := ∀ U : Nat, U < 2 ^ n.toNat → 2 ≤ pc U → sp V K U ≤ 2 * pc U - 3
theorem pc_two {U : Nat} {a b : Int} (ha : 0 ≤ a ∧ a < 10) (hb : 0 ≤ b ∧ b < 10) (hab : a ≠ b) (ua : tb U a = true) (ub : tb U b = true) : 2 ≤ pc U := by
  have h2 : cn (fun j => decide (j = a) || decide (j = b)) 10 ≤ cn (tb U) 10 := cn_mono fun p p0 p1 hp => by
    rw [Bool.or_eq_true] at hp
    rcases hp with q | q
    · rw [of_decide_eq_true q]; exact ua
    · rw [of_decide_eq_true q]; exact ub
  have h4 := cn_one (p := fun j => decide (j = a)) (e := b) hb.1 (decide_eq_false fun z => hab z.symm) 10 10 rfl
  rw [if_pos hb.2] at h4
  have h5 := cn_pt ha.1 (N := 10) (by decide)
  rw [if_pos ha.2] at h5
  unfold pc
  omega
/-- a closed set where nothing more is found is a tight one -/
theorem tight {V : St} {K : Int → Bool} {L : Int → Int} {n : Int} {R : Nat} {a b : Int} (hn : n ≤ 10) (hpb : pbOK L n) (hsp : ∀ U, spP L U = sp V K U) (hsr : sparse V K n) (hR : R < 2 ^ n.toNat) (ha : 0 ≤ a ∧ a < n) (hb : 0 ≤ b ∧ b < n) (hab : a ≠ b) (hra : tb R a = true) (hnb : ¬ both L a) (hcl : ∀ p, 0 ≤ p → p < 20 → tb R (p / 2) = true → L p ≠ -1 → tb R (L p) = true) (hfr : ∀ p, 0 ≤ p → p < 20 → tb R (p / 2) = true → L p = -1 → p / 2 = a ∨ p / 2 = b) : tb R b = true ∧ sp V K R = 2 * pc R - 3 := by
  -- a pebble of a that leads on
  have hp0 : ∃ p0 p1 : Int, p0 / 2 = a ∧ p1 / 2 = a ∧ 0 ≤ p0 ∧ p0 < 20 ∧ 0 ≤ p1 ∧ p1 < 20 ∧ L p0 ≠ -1 ∧ ∀ p, p / 2 = a → p = p0 ∨ p = p1 := by
    by_cases q : L (2 * a) = -1
    · exact ⟨2 * a + 1, 2 * a, by omega, by omega, by omega, by omega, by omega, by omega, fun z => hnb ⟨q, z⟩, fun p hp => by omega⟩
    · exact ⟨2 * a, 2 * a + 1, by omega, by omega, by omega, by omega, by omega, by omega, q, fun p hp => by omega⟩
  obtain ⟨p0, p1, e0, e1, g0, g1, g2, g3, hl, hpa⟩ := hp0
  have hL := (hpb p0 g0 g1).resolve_left hl
  have hu := hcl p0 g0 g1 (by rw [e0]; exact hra) hl
  have h2 : 2 ≤ pc R := pc_two (a := a) (b := L p0) ⟨ha.1, by omega⟩ ⟨hL.1, by omega⟩ (by rw [e0] at hL; exact fun z => hL.2.2.1 z.symm) hra hu
  have hs := hsr R hR h2
  have h1 := spP_rest L R
  rw [hsp] at h1
  have hrest : ∀ p, 0 ≤ p → p < 20 → (tb R (p / 2) && !(spb L R p)) = true → tb R (p / 2) = true ∧ (p / 2 = b ∨ p = p1) := fun p q0 q1 hp => by
    rw [Bool.and_eq_true] at hp
    have hf : L p = -1 := by
      by_cases z : L p = -1
      · exact z
      · have := hcl p q0 q1 hp.1 z
        have e : spb L R p = true := by unfold spb; rw [hp.1, this]; simp [z]
        rw [e] at hp
        exact absurd hp.2 (by decide)
    refine ⟨hp.1, ?_⟩
    rcases hfr p q0 q1 hp.1 hf with z | z
    · rcases hpa p z with w | w
      · rw [w] at hf; exact absurd hf hl
      · exact Or.inr w
    · exact Or.inl z
  have hle := cn_orle (p := fun p => tb R (p / 2) && !(spb L R p)) (q := fun p => decide (p / 2 = b) && tb R b) (r := fun p => decide (p = p1)) (i := 20) (fun p q0 q1 hp => by
    obtain ⟨z, w⟩ := hrest p q0 q1 hp
    rcases w with w | w
    · left
      rw [w] at z
      rw [decide_eq_true w, z]
      rfl
    · exact Or.inr (decide_eq_true w)) 20 20 rfl (by decide)
  have hc1 := cn_pt g2 (N := 20) (by decide)
  rw [if_pos g3] at hc1
  have hc2 : cn (fun p => decide (p / 2 = b) && tb R b) 20 = 2 * cn (fun j => decide (j = b) && tb R b) 10 := cn_half (f := fun j => decide (j = b) && tb R b) 10 10 rfl
  have hc3 : cn (fun j => decide (j = b) && tb R b) 10 ≤ cn (fun j => decide (j = b)) 10 := cn_mono fun j _ _ h => by
    rw [Bool.and_eq_true] at h; exact h.1
  have hc4 := cn_pt hb.1 (N := 10) (by decide)
  rw [if_pos (by omega)] at hc4
  by_cases hbR : tb R b = true
  · exact ⟨hbR, by omega⟩
  · have hz : cn (fun j => decide (j = b) && tb R b) 10 ≤ 0 := by
      have := cn_mono (p := fun j => decide (j = b) && tb R b) (q := fun j => decide (j = -1)) (i := 10) fun j _ _ h => by
        rw [Bool.and_eq_true] at h; exact absurd h.2 hbR
      have h9 : cn (fun j => decide (j = -1)) 10 = 0 := by decide
      omega
    omega
/-- one pebble set -/
def pset (L : Int → Int) (p v : Int) : Int → Int := fun q => if q = p then v else L q
theorem pset_at {L : Int → Int} {p v q : Int} : pset L p v q = if q = p then v else L q := rfl
theorem spP_set {L : Int → Int} {p v : Int} (U : Nat) (h0 : 0 ≤ p) (h1 : p < 20) : spP (pset L p v) U + bi (spb L U p) = spP L U + bi (decide (v ≠ -1) && (tb U (p / 2) && tb U v)) := by
  have h := cn_chg20 (p := spb L U) (q := spb (pset L p v) U) h0 h1 (fun k hk => by
    unfold spb pset
    rw [if_neg hk])
  have e : spb (pset L p v) U p = (decide (v ≠ -1) && (tb U (p / 2) && tb U v)) := by
    unfold spb pset
    rw [if_pos rfl]
  rw [e] at h
  exact h
/-- a way turned round -/
theorem spP_turn {L : Int → Int} {f p at' : Int} (U : Nat) (hf : 0 ≤ f ∧ f < 20) (hp : 0 ≤ p ∧ p < 20) (hfp : f ≠ p) (e1 : L f = -1) (e2 : L p = at') (e3 : f / 2 = at') (h4 : at' ≠ -1) : spP (pset (pset L f (p / 2)) p (-1)) U = spP L U := by
  have h1 := spP_set (L := L) (p := f) (v := p / 2) U hf.1 hf.2
  have h2 := spP_set (L := pset L f (p / 2)) (p := p) (v := -1) U hp.1 hp.2
  have q1 : spb L U f = false := by unfold spb; rw [e1]; rfl
  have q2 : spb (pset L f (p / 2)) U p = (tb U (p / 2) && tb U at') := by
    unfold spb pset
    rw [if_neg (fun z => hfp z.symm), e2, decide_eq_true h4]
    rfl
  have q3 : decide (p / 2 ≠ -1) = true := decide_eq_true (by omega)
  rw [q1, q3, e3] at h1
  rw [q2] at h2
  have q4 : (decide ((-1 : Int) ≠ -1) && (tb U (p / 2) && tb U (-1))) = false := rfl
  rw [q4] at h2
  have q5 : (tb U (p / 2) && tb U at') = (true && (tb U at' && tb U (p / 2))) := by
    cases tb U (p / 2) <;> cases tb U at' <;> rfl
  rw [q5] at h2
  have z0 : bi false = 0 := rfl
  omega
end PEB
