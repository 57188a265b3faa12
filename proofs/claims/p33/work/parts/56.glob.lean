/-! GLOBAL: counts -/
section GLOB
def sumN (f : Int → Int) : Nat → Int
  | 0 => 0
  | n + 1 => sumN f n + f (n : Int)
def sm (f : Int → Int) (n : Int) : Int := sumN f n.toNat
theorem sm_s {f : Int → Int} {i : Int} (h : 0 ≤ i) : sm f (i + 1) = sm f i + f i := by
  unfold sm
  rw [show (i + 1).toNat = i.toNat + 1 by omega]
  show sumN f i.toNat + f ((i.toNat : Nat) : Int) = _
  rw [Int.toNat_of_nonneg h]
theorem sm_add {f g : Int → Int} : ∀ (d : Nat) (n : Int), n = d → sm (fun j => f j + g j) n = sm f n + sm g n := by
  intro d
  induction d with
  | zero => intro n hn; rw [hn]; rfl
  | succ d ih =>
    intro n hn
    have h1 := sm_s (f := fun j => f j + g j) (i := n - 1) (by omega)
    have h2 := sm_s (f := f) (i := n - 1) (by omega)
    have h3 := sm_s (f := g) (i := n - 1) (by omega)
    rw [Int.sub_add_cancel] at h1 h2 h3
    rw [h1, h2, h3, ih (n - 1) (by omega)]
    omega
theorem sm_bi {p : Int → Bool} : ∀ (d : Nat) (n : Int), n = d → sm (fun j => if p j then 1 else 0) n = cn p n := by
  intro d
  induction d with
  | zero => intro n hn; rw [hn]; rfl
  | succ d ih =>
    intro n hn
    have h1 := sm_s (f := fun j => if p j then (1 : Int) else 0) (i := n - 1) (by omega)
    have h2 := cn_s (p := p) (i := n - 1) (by omega)
    rw [Int.sub_add_cancel] at h1 h2
    rw [h1, h2, ih (n - 1) (by omega)]
theorem sm_le {f : Int → Int} {c : Int} : ∀ (d : Nat) (n : Int), n = d → (∀ j, 0 ≤ j → j < n → f j ≤ c) → sm f n ≤ n * c ∧ (sm f n = n * c → ∀ j, 0 ≤ j → j < n → f j = c) := by
  intro d
  induction d with
  | zero => intro n hn _; rw [hn]; exact ⟨by show (0 : Int) ≤ 0 * c; omega, fun _ j j0 j1 => by omega⟩
  | succ d ih =>
    intro n hn hf
    have h1 := sm_s (f := f) (i := n - 1) (by omega)
    rw [Int.sub_add_cancel] at h1
    obtain ⟨a, b⟩ := ih (n - 1) (by omega) (fun j j0 j1 => hf j j0 (by omega))
    have h2 := hf (n - 1) (by omega) (by omega)
    have e : n * c = (n - 1) * c + c := by rw [Int.sub_mul]; omega
    rw [h1, e]
    refine ⟨by omega, fun h j j0 j1 => ?_⟩
    by_cases q : j = n - 1
    · rw [q]; omega
    · exact b (by omega) j j0 (by omega)
theorem sm_eq {f : Int → Int} {c : Int} : ∀ (d : Nat) (n : Int), n = d → (∀ j, 0 ≤ j → j < n → f j = c) → sm f n = n * c := by
  intro d
  induction d with
  | zero => intro n hn _; rw [hn]; show (0 : Int) = 0 * c; omega
  | succ d ih =>
    intro n hn hf
    have h1 := sm_s (f := f) (i := n - 1) (by omega)
    rw [Int.sub_add_cancel] at h1
    rw [h1, ih (n - 1) (by omega) (fun j j0 j1 => hf j j0 (by omega)), hf (n - 1) (by omega) (by omega), Int.sub_mul]
    omega
/-- each member has two ends -/
theorem hands {V : St} {n m : Int} (hv : vOK V n m) : ∀ (d : Nat) (i : Int), i = d → i ≤ m → sm (fun j => cn (mEnd V j) i) n = 2 * cn (mThere V) i := by
  obtain ⟨n0, n10, m0, m40, hE⟩ := hv
  intro d
  induction d with
  | zero =>
    intro i hi _
    rw [hi]
    have := sm_eq (f := fun j => cn (mEnd V j) ((0 : Nat) : Int)) (c := 0) n.toNat n (by omega) (fun j _ _ => rfl)
    rw [this]
    show n * 0 = 2 * 0
    omega
  | succ d ih =>
    intro i hi hm
    have h1 := ih (i - 1) (by omega) (by omega)
    have e1 : (fun j => cn (mEnd V j) i) = fun j => cn (mEnd V j) (i - 1) + (if mEnd V j (i - 1) then 1 else 0) := by
      funext j
      have := cn_s (p := mEnd V j) (i := i - 1) (by omega)
      rw [Int.sub_add_cancel] at this
      exact this
    have h2 := cn_s (p := mThere V) (i := i - 1) (by omega)
    rw [Int.sub_add_cancel] at h2
    rw [e1, sm_add n.toNat n (by omega), h1, h2, sm_bi (p := fun j => mEnd V j (i - 1)) n.toNat n (by omega)]
    obtain ⟨b1, b2, b3, b4, b5, b6⟩ := hE (i - 1) (by omega) (by omega)
    by_cases q : V 15 (i - 1) = 0
    · obtain ⟨b7, b8⟩ := b6 q
      have e : cn (fun j => mEnd V j (i - 1)) n = cn (fun j => decide (j = V 11 (i - 1)) || decide (j = V 12 (i - 1))) n := cn_congr fun j _ _ => by
        unfold mEnd
        rw [← Bool.decide_or, decide_eq_decide]
        omega
      have h4 := cn_one (p := fun j => decide (j = V 11 (i - 1))) (e := V 12 (i - 1)) b3 (decide_eq_false fun z => b5 z.symm) n.toNat n (by omega)
      rw [if_pos b8] at h4
      have h5 := cn_pt b1 (N := n) n0
      rw [if_pos b7] at h5
      rw [e, h4, h5, if_pos (show mThere V (i - 1) = true from decide_eq_true q)]
      omega
    · have e : cn (fun j => mEnd V j (i - 1)) n = cn (fun _ => false) n := cn_congr fun j _ _ => decide_eq_false fun z => q z.1
      have ez : cn (fun _ => false) n = 0 := by
        have := sm_bi (p := fun _ => false) n.toNat n (by omega)
        have h9 := sm_eq (f := fun _ => if false = true then (1 : Int) else 0) (c := 0) n.toNat n (by omega) (fun _ _ _ => rfl)
        rw [← this, h9]
        omega
      rw [e, ez, if_neg (show ¬ mThere V (i - 1) = true from fun z => q (of_decide_eq_true z))]
      omega
theorem cn_below {n : Int} (n0 : 0 ≤ n) (n10 : n ≤ 10) : cn (fun e => decide (e < n)) 10 = n := by
  have key : ∀ (d : Nat) (i : Int), i = d → cn (fun e => decide (e < n)) i = if i ≤ n then i else n := by
    intro d
    induction d with
    | zero => intro i hi; rw [hi, if_pos (by omega)]; rfl
    | succ d ih =>
      intro i hi
      have h1 := cn_s (p := fun e => decide (e < n)) (i := i - 1) (by omega)
      rw [Int.sub_add_cancel] at h1
      rw [h1, ih (i - 1) (by omega)]
      by_cases q : i - 1 < n
      · rw [decide_eq_true q, if_pos (show i - 1 ≤ n by omega), if_pos rfl, if_pos (show i ≤ n by omega)]; omega
      · rw [decide_eq_false q]
        by_cases q2 : i - 1 ≤ n
        · rw [if_pos q2, if_neg (show ¬ i ≤ n by omega)]; simp; omega
        · rw [if_neg q2, if_neg (show ¬ i ≤ n by omega)]; simp
  rw [key 10 10 rfl]
  split <;> omega
theorem deg_le {V : St} {j : Int} (hI : Inv V) (j0 : 0 ≤ j) (j1 : j < V 1 0) : cn (mEnd V j) (V 2 0) ≤ V 1 0 - 1 := by
  have hE := vOK_ends hI.1
  obtain ⟨n0, n10, m0, m40, hv⟩ := hI.1
  rw [← pc_nr' hI]
  have h1 := cn_orle (p := fun e => decide (e < V 1 0)) (q := fun e => decide (e < V 1 0) && !(decide (e = j))) (r := fun e => decide (e = j)) (i := 10) (fun k _ _ h => by
    by_cases w : k = j
    · exact Or.inr (decide_eq_true w)
    · left; rw [h, decide_eq_false w]; rfl) 10 10 rfl (by decide)
  have hs := cn_split (p := fun e => decide (e < V 1 0)) (a := fun e => decide (e = j)) 10 10 rfl
  have e1 : cn (fun k => decide (k < V 1 0) && decide (k = j)) 10 = cn (fun k => decide (k = j)) 10 := cn_congr fun k _ _ => by
    by_cases w : k = j
    · rw [w, decide_eq_true j1]; rfl
    · rw [decide_eq_false w, Bool.and_false]
  have e2 := cn_pt j0 (N := 10) (by decide)
  rw [if_pos (by omega)] at e2
  have e3 := cn_below n0 n10
  have hle : pc (nr V j (V 2 0)) ≤ cn (fun e => decide (e < V 1 0) && !(decide (e = j))) 10 := cn_mono fun e e0 e10 he => by
    obtain ⟨k, k0, k1, k2, k3⟩ := nr_tb e0 hE (V 2 0).toNat (V 2 0) (by omega) (Int.le_refl _) he
    obtain ⟨_, _, _, _, b5, b6⟩ := hv k k0 k1
    obtain ⟨b7, b8⟩ := b6 k2
    rw [decide_eq_true (show e < V 1 0 by omega), decide_eq_false (show ¬ e = j by omega)]
    rfl
  omega
/-- all pairs have a member -/
theorem whole_iff {V : St} (hI : Inv V) : (∀ j, 0 ≤ j → j < V 1 0 → cn (mEnd V j) (V 2 0) = V 1 0 - 1) ↔ cn (mThere V) (V 2 0) = V 1 0 * (V 1 0 - 1) / 2 := by
  have hh := hands hI.1 (V 2 0).toNat (V 2 0) (by have := hI.1.2.2.1; omega) (Int.le_refl _)
  have n0 := hI.1.1
  have ev : V 1 0 * (V 1 0 - 1) % 2 = 0 := by
    rcases (show V 1 0 % 2 = 0 ∨ V 1 0 % 2 = 1 by omega) with q | q
    · rw [Int.mul_emod, q]; simp
    · rw [Int.mul_emod, show (V 1 0 - 1) % 2 = 0 by omega]; simp
  obtain ⟨a, b⟩ := sm_le (f := fun j => cn (mEnd V j) (V 2 0)) (c := V 1 0 - 1) (V 1 0).toNat (V 1 0) (by omega) (fun j j0 j1 => deg_le hI j0 j1)
  have e := fun h => sm_eq (f := fun j => cn (mEnd V j) (V 2 0)) (c := V 1 0 - 1) (V 1 0).toNat (V 1 0) (by omega) h
  rw [hh] at a b e
  generalize V 1 0 * (V 1 0 - 1) = w at ev a b e ⊢
  constructor
  · intro h
    have := e h
    omega
  · intro h
    refine b ?_
    omega
theorem kp_true {V : St} {n a : Int} : ∀ (d : Nat) (i : Int), i = d → ∀ k, kp V n a i k = true → 0 ≤ k ∧ k < i ∧ mKept V a k = true := by
  intro d
  induction d with
  | zero => intro i hi k h; rw [hi] at h; exact absurd h (by show ¬ false = true; decide)
  | succ d ih =>
    intro i hi k h
    have hs := kp_s (V := V) (n := n) (a := a) (i := i - 1) (by omega) k
    rw [Int.sub_add_cancel] at hs
    rw [hs] at h
    by_cases q : k = i - 1
    · rw [if_pos q, Bool.and_eq_true] at h
      exact ⟨by omega, by omega, by rw [q]; exact h.1⟩
    · rw [if_neg q] at h
      obtain ⟨x, y, z⟩ := ih (i - 1) (by omega) k h
      exact ⟨x, by omega, z⟩
theorem kp_stay {V : St} {n a i k : Int} (h0 : 0 ≤ i) (hk : k < i) : ∀ (d : Nat) (j : Int), j = i + d → kp V n a j k = kp V n a i k := by
  intro d
  induction d with
  | zero => intro j hj; rw [show j = i by omega]
  | succ d ih =>
    intro j hj
    have hs := kp_s (V := V) (n := n) (a := a) (i := j - 1) (by omega) k
    rw [Int.sub_add_cancel] at hs
    rw [hs, if_neg (by omega)]
    exact ih (j - 1) (by omega)
/-- as many as a rigid one has, at the most -/
theorem kc_le {V : St} {n a : Int} (hv : vOK V n (V 2 0)) (n2 : 2 ≤ n) (hs : sparse V (kp V n a (V 2 0)) n) : cn (kp V n a (V 2 0)) 40 ≤ 2 * n - 3 := by
  obtain ⟨n0, n10, m0, m40, hE⟩ := hv
  have ht : ∀ e, 0 ≤ e → tb (2 ^ n.toNat - 1) e = decide (e < n) := fun e e0 => by
    unfold tb
    rw [Nat.testBit_two_pow_sub_one, decide_eq_decide]
    omega
  have hpc : pc (2 ^ n.toNat - 1) = n := by
    have h9 : pc (2 ^ n.toNat - 1) = cn (fun e => decide (e < n)) 10 := cn_congr fun e e0 _ => ht e e0
    rw [h9, cn_below n0 n10]
  have hp : 0 < 2 ^ n.toNat := Nat.two_pow_pos _
  have h1 := hs (2 ^ n.toNat - 1) (by omega) (by omega)
  rw [hpc] at h1
  have e : sp V (kp V n a (V 2 0)) (2 ^ n.toNat - 1) = cn (kp V n a (V 2 0)) 40 := cn_congr fun k k0 k1 => by
    cases hx : kp V n a (V 2 0) k
    · rfl
    · obtain ⟨x, y, z⟩ := kp_true (V 2 0).toNat (V 2 0) (by omega) k hx
      obtain ⟨b1, b2, b3, b4, b5, b6⟩ := hE k x y
      obtain ⟨b7, b8⟩ := b6 (of_decide_eq_true z).1
      rw [ht _ b1, ht _ b3, decide_eq_true b7, decide_eq_true b8]
      rfl
  omega
theorem kp_skip {V : St} {n k : Int} (hk0 : 0 ≤ k) (hk : k < V 2 0) (hno : kp V n (-1) (V 2 0) k = false) : kp V n k (V 2 0) = kp V n (-1) (V 2 0) := by
  have key : ∀ (d : Nat) (i : Int), i = d → i ≤ V 2 0 → kp V n k i = kp V n (-1) i := by
    intro d
    induction d with
    | zero => intro i hi _; rw [hi]; rfl
    | succ d ih =>
      intro i hi hm
      have h := ih (i - 1) (by omega) (by omega)
      funext x
      have h1 := kp_s (V := V) (n := n) (a := k) (i := i - 1) (by omega) x
      have h2 := kp_s (V := V) (n := n) (a := -1) (i := i - 1) (by omega) x
      rw [Int.sub_add_cancel] at h1 h2
      rw [h1, h2, h]
      by_cases q : i - 1 = k
      · by_cases w : x = i - 1
        · rw [if_pos w]
          have e1 : mKept V k (i - 1) = false := decide_eq_false fun z => z.2 q
          have e2 := kp_stay (V := V) (n := n) (a := -1) (i := i) (k := k) (by omega) (by omega) (V 2 0 - i).toNat (V 2 0) (by omega)
          rw [hno] at e2
          have e3 := kp_s (V := V) (n := n) (a := -1) (i := i - 1) (by omega) k
          rw [Int.sub_add_cancel, if_pos q.symm] at e3
          rw [if_pos w, e1, Bool.false_and, ← e3, ← e2]
        · rw [if_neg w, if_neg w]
      · have e1 : mKept V k (i - 1) = mKept V (-1) (i - 1) := by
          unfold mKept
          rw [decide_eq_decide]
          constructor
          · exact fun z => ⟨z.1, by omega⟩
          · exact fun z => ⟨z.1, q⟩
        rw [e1]
  by_cases hm : 0 ≤ V 2 0
  · exact key (V 2 0).toNat (V 2 0) (by omega) (Int.le_refl _)
  · omega
end GLOB
