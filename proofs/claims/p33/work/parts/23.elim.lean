/-! ELIMINATION: one function, walked by class and reference -/
section EL
theorem mulb {a b M N : Int} (ha : 0 ≤ a) (hM : a ≤ M) (hb : 0 ≤ b) (hN : b ≤ N) : 0 ≤ a * b ∧ a * b ≤ M * N :=
  ⟨Int.mul_nonneg ha hb, Int.mul_le_mul hM hN hb (Int.le_trans ha hM)⟩
def rgP (v : Int) : Prop := 0 ≤ v ∧ v < 1000003
theorem mulP {a b : Int} (ha : rgP a) (hb : rgP b) : 0 ≤ a * b ∧ a * b ≤ 1000004000004 := by
  have := mulb ha.1 (Int.le_of_lt_add_one (show a < 1000002 + 1 from ha.2)) hb.1 (Int.le_of_lt_add_one (show b < 1000002 + 1 from hb.2))
  omega
theorem modP (v : Int) : rgP (v % 1000003) := ⟨Int.emod_nonneg _ (by decide), Int.emod_lt_of_pos _ (by decide)⟩
theorem tmP {v : Int} (h : 0 ≤ v) : Int.tmod v 1000003 = v % 1000003 := Int.tmod_eq_emod_of_nonneg h
theorem castm (a b : Nat) : (a : Int) * (b : Int) % 1000003 = ((a * b % 1000003 : Nat) : Int) := by
  rw [← Int.natCast_mul]
  exact (Int.natCast_emod (a * b) 1000003).symm
def ivr : Nat → Int → Int → Nat → Int
  | 0, p, _, _ => p
  | n + 1, p, q, l => if l = 0 then p else ivr n (if l % 2 = 1 then p * q % 1000003 else p) (q * q % 1000003) (l / 2)
def inv (v : Int) : Int := ivr 21 1 v 1000001
theorem ivr_rng : ∀ (n : Nat) (p q : Int) (l : Nat), rgP p → rgP (ivr n p q l)
  | 0, _, _, _, h => h
  | n + 1, p, q, l, h => by
    unfold ivr
    split
    · exact h
    · refine ivr_rng n _ _ _ ?_
      split
      · exact modP _
      · exact h
theorem inv_rng (v : Int) : rgP (inv v) := ivr_rng _ _ _ _ ⟨by decide, by decide⟩
theorem ivr_val : ∀ (n p q l : Nat), p < 1000003 → l < 2 ^ n → ivr n (p : Int) (q : Int) l = ((p * q ^ l % 1000003 : Nat) : Int)
  | 0, p, q, l, hp, hl => by
    have : l = 0 := by simpa using hl
    subst this
    rw [Nat.pow_zero, Nat.mul_one, Nat.mod_eq_of_lt hp]
    rfl
  | n + 1, p, q, l, hp, hl => by
    unfold ivr
    by_cases h0 : l = 0
    · subst h0
      rw [if_pos rfl, Nat.pow_zero, Nat.mul_one, Nat.mod_eq_of_lt hp]
    · rw [if_neg h0]
      have eq2 : (q : Int) * (q : Int) % 1000003 = ((q * q % 1000003 : Nat) : Int) := castm q q
      have hl2 : l / 2 < 2 ^ n := by rw [Nat.pow_succ] at hl; omega
      have hpw : ∀ z : Nat, z * (q * q % 1000003) ^ (l / 2) % 1000003 = z * q ^ (2 * (l / 2)) % 1000003 := fun z => by
        rw [Nat.mul_mod, ← Nat.pow_mod, ← Nat.mul_mod, Nat.pow_mul, Nat.pow_two]
      by_cases h1 : l % 2 = 1
      · rw [if_pos h1, eq2]
        have eq1 : (p : Int) * (q : Int) % 1000003 = ((p * q % 1000003 : Nat) : Int) := castm p q
        rw [eq1, ivr_val n _ _ _ (Nat.mod_lt _ (by decide)) hl2, hpw]
        congr 1
        rw [Nat.mod_mul_mod, Nat.mul_assoc, ← Nat.pow_succ']
        congr 3
        omega
      · rw [if_neg h1, eq2, ivr_val n _ _ _ hp hl2, hpw]
        congr 4
        omega
theorem inv_mul {v : Int} (h0 : v ≠ 0) (h : rgP v) : v * inv v % 1000003 = 1 := by
  obtain ⟨a, rfl⟩ : ∃ a : Nat, v = (a : Int) := ⟨v.toNat, (Int.toNat_of_nonneg h.1).symm⟩
  have ha0 : 0 < a := by omega
  have ha : a < 1000003 := by have := h.2; omega
  have e : inv (a : Int) = ((1 * a ^ 1000001 % 1000003 : Nat) : Int) := ivr_val 21 1 a 1000001 (by decide) (by decide)
  rw [e, Nat.one_mul]
  have e2 : (a : Int) * ((a ^ 1000001 % 1000003 : Nat) : Int) % 1000003 = ((a * (a ^ 1000001 % 1000003) % 1000003 : Nat) : Int) := castm _ _
  rw [e2, Nat.mul_mod_mod, fermatP ha0 ha]
  rfl
abbrev Mx : Type := Int → Int → Int
def mSwap (A : Mx) (a b : Int) : Mx := fun r c => if r = a then A b c else if r = b then A a c else A r c
def mScale (A : Mx) (f k : Int) : Mx := fun r c => if r = f then A r c * k % 1000003 else A r c
def mClear (A : Mx) (f p : Int) : Mx := fun r c => if r = f then A r c else (A r c - A r p * A f c) % 1000003
def fnd (A : Mx) (p R : Int) : Nat → Int → Int
  | 0, _ => -1
  | n + 1, r => if R ≤ r then -1 else if A r p = 0 then fnd A p R n (r + 1) else r
theorem fnd_spec (A : Mx) (p R : Int) : ∀ (n : Nat) (r : Int), 0 ≤ r → R < r + n → (fnd A p R n r = -1 ∧ ∀ q, r ≤ q → q < R → A q p = 0) ∨ (r ≤ fnd A p R n r ∧ fnd A p R n r < R ∧ A (fnd A p R n r) p ≠ 0 ∧ ∀ q, r ≤ q → q < fnd A p R n r → A q p = 0)
  | 0, r, h0, h => Or.inl ⟨rfl, fun q h1 h2 => by omega⟩
  | n + 1, r, h0, h => by
    unfold fnd
    by_cases h1 : R ≤ r
    · rw [if_pos h1]
      exact Or.inl ⟨rfl, fun q h3 h4 => by omega⟩
    · rw [if_neg h1]
      by_cases h2 : A r p = 0
      · rw [if_pos h2]
        rcases fnd_spec A p R n (r + 1) (by omega) (by omega) with ⟨e, k⟩ | ⟨a, b, c, k⟩
        · refine Or.inl ⟨e, fun q q1 q2 => ?_⟩
          rcases Int.lt_or_eq_of_le q1 with z | z
          · exact k q (by omega) q2
          · rw [← z]; exact h2
        · refine Or.inr ⟨by omega, b, c, fun q q1 q2 => ?_⟩
          rcases Int.lt_or_eq_of_le q1 with z | z
          · exact k q (by omega) q2
          · rw [← z]; exact h2
      · rw [if_neg h2]
        exact Or.inr ⟨Int.le_refl _, by omega, h2, fun q q1 q2 => by omega⟩
/-- what is found is found -/
theorem fnd_eq {A : Mx} {p R : Int} {n : Nat} {r x : Int} (h0 : 0 ≤ r) (hn : R < r + n) (h1 : r ≤ x) (h2 : x < R) (h3 : A x p ≠ 0) (h4 : ∀ q, r ≤ q → q < x → A q p = 0) : fnd A p R n r = x := by
  rcases fnd_spec A p R n r h0 hn with ⟨e, k⟩ | ⟨a, b, c, k⟩
  · exact absurd (k x h1 h2) h3
  · rcases Int.lt_trichotomy (fnd A p R n r) x with z | z | z
    · exact absurd (h4 _ a z) c
    · exact z
    · exact absurd (k x h1 z) h3
theorem fnd_none {A : Mx} {p R : Int} {n : Nat} {r : Int} (h0 : 0 ≤ r) (hn : R < r + n) (h4 : ∀ q, r ≤ q → q < R → A q p = 0) : fnd A p R n r = -1 := by
  rcases fnd_spec A p R n r h0 hn with ⟨e, k⟩ | ⟨a, b, c, k⟩
  · exact e
  · exact absurd (h4 _ a b) c
def elS (R : Int) (s : Mx × Int × (Int → Int)) (p : Int) : Mx × Int × (Int → Int) :=
  if fnd s.1 p R 41 s.2.1 = -1 then (s.1, s.2.1, fun c => if c = p then -1 else s.2.2 c)
  else (mClear (mScale (mSwap s.1 (fnd s.1 p R 41 s.2.1) s.2.1) s.2.1 (inv (mSwap s.1 (fnd s.1 p R 41 s.2.1) s.2.1 s.2.1 p))) s.2.1 p, s.2.1 + 1, fun c => if c = p then s.2.1 else s.2.2 c)
def elN (R : Int) (A : Mx) : Nat → Mx × Int × (Int → Int)
  | 0 => (A, 0, fun _ => -1)
  | n + 1 => elS R (elN R A n) (n : Int)
def el (R : Int) (A : Mx) (i : Int) : Mx × Int × (Int → Int) := elN R A i.toNat
theorem el_0 (R : Int) (A : Mx) : el R A 0 = (A, 0, fun _ => -1) := rfl
theorem el_s {R : Int} {A : Mx} {i : Int} (h : 0 ≤ i) : el R A (i + 1) = elS R (el R A i) i := by
  unfold el
  rw [show (i + 1).toNat = i.toNat + 1 by omega]
  show elS R (elN R A i.toNat) ((i.toNat : Nat) : Int) = _
  rw [Int.toNat_of_nonneg h]
/-- what holds ahead of column i -/
def elI (R C : Int) (s : Mx × Int × (Int → Int)) (i : Int) : Prop :=
  0 ≤ s.2.1 ∧ s.2.1 ≤ i ∧ s.2.1 ≤ R ∧ (∀ r c, 0 ≤ r → r < R → 0 ≤ c → c < C → rgP (s.1 r c)) ∧ (∀ r c, s.2.1 ≤ r → r < R → 0 ≤ c → c < i → s.1 r c = 0) ∧ (∀ c, 0 ≤ c → c < i → s.2.2 c = -1 ∨ (0 ≤ s.2.2 c ∧ s.2.2 c < s.2.1)) ∧ cn (fun c => decide (s.2.2 c = -1)) i = i - s.2.1
theorem elI_0 {R C : Int} {A : Mx} (hR : 0 ≤ R) (hA : ∀ r c, 0 ≤ r → r < R → 0 ≤ c → c < C → rgP (A r c)) : elI R C (A, 0, fun _ => -1) 0 :=
  ⟨Int.le_refl _, Int.le_refl _, hR, hA, fun r c _ _ h1 h2 => by omega, fun c h1 h2 => by omega, rfl⟩
theorem elI_s {R C : Int} {s : Mx × Int × (Int → Int)} {i : Int} (hR : R ≤ 40) (h0 : 0 ≤ i) (hi : i < C) (h : elI R C s i) : elI R C (elS R s i) (i + 1) := by
  obtain ⟨f0, f1, f2, hA, hz, hp, hc⟩ := h
  unfold elS
  rcases fnd_spec s.1 i R 41 s.2.1 f0 (by omega) with ⟨e, k⟩ | ⟨a, b, c, k⟩
  · rw [if_pos e]
    refine ⟨f0, by show s.2.1 ≤ i + 1; omega, f2, hA, fun r c h1 h2 h3 h4 => ?_, fun c h1 h2 => ?_, ?_⟩
    · rcases Int.lt_or_eq_of_le (show c ≤ i by omega) with z | z
      · exact hz r c h1 h2 h3 z
      · rw [z]; exact k r h1 h2
    · show (if c = i then (-1 : Int) else s.2.2 c) = -1 ∨ _
      by_cases z : c = i
      · rw [if_pos z]; exact Or.inl rfl
      · show _ ∨ (0 ≤ (if c = i then (-1 : Int) else s.2.2 c) ∧ (if c = i then (-1 : Int) else s.2.2 c) < s.2.1)
        rw [if_neg z]; exact hp c h1 (by omega)
    · rw [cn_t h0 (by simp)]
      have : cn (fun c => decide ((if c = i then (-1 : Int) else s.2.2 c) = -1)) i = cn (fun c => decide (s.2.2 c = -1)) i := cn_congr (fun c h1 h2 => by simp [show ¬ c = i by omega])
      show cn (fun c => decide ((if c = i then (-1 : Int) else s.2.2 c) = -1)) i + 1 = i + 1 - s.2.1
      rw [this, hc]
      omega
  · have e : ¬ fnd s.1 i R 41 s.2.1 = -1 := by omega
    rw [if_neg e]
    generalize hx : fnd s.1 i R 41 s.2.1 = x at *
    have hB : ∀ r c, 0 ≤ r → r < R → 0 ≤ c → c < C → rgP (mSwap s.1 x s.2.1 r c) := fun r c h1 h2 h3 h4 => by
      unfold mSwap
      split
      · exact hA _ _ f0 (by omega) h3 h4
      · split
        · exact hA _ _ (by omega) b h3 h4
        · exact hA _ _ h1 h2 h3 h4
    have hBz : ∀ r c, s.2.1 ≤ r → r < R → 0 ≤ c → c < i → mSwap s.1 x s.2.1 r c = 0 := fun r c h1 h2 h3 h4 => by
      unfold mSwap
      split
      · exact hz _ _ (Int.le_refl _) (by omega) h3 h4
      · split
        · exact hz _ _ a b h3 h4
        · exact hz _ _ h1 h2 h3 h4
    have hBp : mSwap s.1 x s.2.1 s.2.1 i ≠ 0 := by
      unfold mSwap
      by_cases z : s.2.1 = x
      · rw [if_pos z]; rw [← z] at c; exact c
      · rw [if_neg z, if_pos rfl]; exact c
    generalize mSwap s.1 x s.2.1 = B at hB hBz hBp ⊢
    have hK : ∀ r c, 0 ≤ r → r < R → 0 ≤ c → c < C → rgP (mScale B s.2.1 (inv (B s.2.1 i)) r c) := fun r c h1 h2 h3 h4 => by
      unfold mScale
      split
      · exact modP _
      · exact hB _ _ h1 h2 h3 h4
    have hKz : ∀ r c, s.2.1 ≤ r → r < R → 0 ≤ c → c < i → mScale B s.2.1 (inv (B s.2.1 i)) r c = 0 := fun r c h1 h2 h3 h4 => by
      unfold mScale
      rw [hBz r c h1 h2 h3 h4]
      split
      · rw [Int.zero_mul]; rfl
      · rfl
    have hKp : mScale B s.2.1 (inv (B s.2.1 i)) s.2.1 i = 1 := by
      unfold mScale
      rw [if_pos rfl]
      exact inv_mul hBp (hB _ _ f0 (by omega) h0 hi)
    generalize mScale B s.2.1 (inv (B s.2.1 i)) = D at hK hKz hKp ⊢
    refine ⟨by show 0 ≤ s.2.1 + 1; omega, by show s.2.1 + 1 ≤ i + 1; omega, by show s.2.1 + 1 ≤ R; omega, fun r c h1 h2 h3 h4 => ?_, fun r c h1 h2 h3 h4 => ?_, fun c h1 h2 => ?_, ?_⟩
    · show rgP (mClear D s.2.1 i r c)
      unfold mClear
      split
      · exact hK _ _ h1 h2 h3 h4
      · exact modP _
    · show mClear D s.2.1 i r c = 0
      have h1' : s.2.1 + 1 ≤ r := h1
      unfold mClear
      rw [if_neg (by omega)]
      rcases Int.lt_or_eq_of_le (show c ≤ i by omega) with z | z
      · rw [hKz r c (by omega) h2 h3 z, hKz s.2.1 c (Int.le_refl _) (by omega) h3 z, Int.mul_zero]
        rfl
      · rw [z, hKp, Int.mul_one, Int.sub_self]
        rfl
    · show (if c = i then s.2.1 else s.2.2 c) = -1 ∨ (0 ≤ (if c = i then s.2.1 else s.2.2 c) ∧ (if c = i then s.2.1 else s.2.2 c) < s.2.1 + 1)
      by_cases z : c = i
      · rw [if_pos z]; exact Or.inr ⟨f0, by omega⟩
      · rw [if_neg z]
        rcases hp c h1 (by omega) with q | q
        · exact Or.inl q
        · exact Or.inr ⟨q.1, by omega⟩
    · have : cn (fun c => decide ((if c = i then s.2.1 else s.2.2 c) = -1)) i = cn (fun c => decide (s.2.2 c = -1)) i := cn_congr (fun c h1 h2 => by simp [show ¬ c = i by omega])
      show cn (fun c => decide ((if c = i then s.2.1 else s.2.2 c) = -1)) (i + 1) = i + 1 - (s.2.1 + 1)
      rw [cn_f h0 (by simp; omega), this, hc]
      omega
theorem elI_all {R C : Int} {A : Mx} (hR0 : 0 ≤ R) (hR : R ≤ 40) (hA : ∀ r c, 0 ≤ r → r < R → 0 ≤ c → c < C → rgP (A r c)) : ∀ (d : Nat) (i : Int), i = d → i ≤ C → elI R C (el R A i) i := by
  intro d
  induction d with
  | zero => intro i hi _; rw [hi]; exact elI_0 hR0 hA
  | succ d ih =>
    intro i hi hC
    have h := elI_s hR (show 0 ≤ i - 1 by omega) (by omega) (ih (i - 1) (by omega) (by omega))
    rw [← el_s (by omega), Int.sub_add_cancel] at h
    exact h
end EL
