/-! THE ROWS that are laid, a member each -/
section ROW
def rowF (lx ly col : Int → Int) (f t c : Int) : Int := if col f = -1 then 0 else if c = col f + 1 then (ly f - ly t) % 1000003 else if c = col f then (lx f - lx t) % 1000003 else 0
def rowE (lx ly col : Int → Int) (f t c : Int) : Int := if col t = -1 then rowF lx ly col f t c else if c = col t + 1 then (-(ly f - ly t)) % 1000003 else if c = col t then (-(lx f - lx t)) % 1000003 else rowF lx ly col f t c
theorem pRow_at {A : Mx} {lx ly col : Int → Int} {r f t c : Int} (h : A r c = 0) : pRow A lx ly col r f t r c = rowE lx ly col f t c := by
  unfold pRow pEnd rowE rowF
  by_cases q : col t = -1
  · rw [if_pos q, if_pos q]
    by_cases q2 : col f = -1
    · rw [if_pos q2, if_pos q2, h]
    · rw [if_neg q2, if_neg q2]
      unfold mPut
      by_cases e1 : c = col f + 1
      · rw [if_pos ⟨rfl, e1⟩, if_pos e1]
      · rw [if_neg (fun z => e1 z.2), if_neg e1]
        by_cases e2 : c = col f
        · rw [if_pos ⟨rfl, e2⟩, if_pos e2]
        · rw [if_neg (fun z => e2 z.2), if_neg e2, h]
  · rw [if_neg q, if_neg q]
    unfold mPut
    by_cases e3 : c = col t + 1
    · rw [if_pos ⟨rfl, e3⟩, if_pos e3]
    · rw [if_neg (fun z => e3 z.2), if_neg e3]
      by_cases e4 : c = col t
      · rw [if_pos ⟨rfl, e4⟩, if_pos e4]
      · rw [if_neg (fun z => e4 z.2), if_neg e4]
        by_cases q2 : col f = -1
        · rw [if_pos q2, if_pos q2, h]
        · rw [if_neg q2, if_neg q2]
          by_cases e1 : c = col f + 1
          · rw [if_pos ⟨rfl, e1⟩, if_pos e1]
          · rw [if_neg (fun z => e1 z.2), if_neg e1]
            by_cases e2 : c = col f
            · rw [if_pos ⟨rfl, e2⟩, if_pos e2]
            · rw [if_neg (fun z => e2 z.2), if_neg e2, h]
theorem wr_row {V : St} {lx ly col : Int → Int} {a k : Int} (k0 : 0 ≤ k) (hk : mKept V a k = true) (c : Int) : ∀ (d : Nat) (i : Int), i = d → k < i → wr V lx ly col a i (cn (mKept V a) k) c = rowE lx ly col (V 11 k) (V 12 k) c := by
  intro d
  induction d with
  | zero => intro i hi h; omega
  | succ d ih =>
    intro i hi h
    have hs := wr_s (V := V) (lx := lx) (ly := ly) (col := col) (a := a) (i := i - 1) (by omega)
    rw [Int.sub_add_cancel] at hs
    rw [hs]
    by_cases q : k = i - 1
    · rw [← q, if_pos hk]
      exact pRow_at (wr_zero k.toNat k (by omega) _ _ (Int.le_refl _))
    · have hn := ih (i - 1) (by omega) (by omega)
      by_cases q2 : mKept V a (i - 1) = true
      · rw [if_pos q2]
        have hlt := cn_lt (p := mKept V a) k0 (show k < i - 1 by omega) hk
        unfold pRow
        rw [pEnd_out (Or.inl (by omega)), pEnd_out (Or.inl (by omega))]
        exact hn
      · rw [if_neg q2]
        exact hn
/-- a row is a member's -/
theorem row_of {V : St} {a m r : Int} (m0 : 0 ≤ m) (r0 : 0 ≤ r) (h : r < cn (mKept V a) m) : ∃ k, 0 ≤ k ∧ k < m ∧ mKept V a k = true ∧ cn (mKept V a) k = r :=
  cn_ex r0 m.toNat m (by omega) h
/-- what v has at a joint -/
def atX (col v : Int → Int) (j : Int) : Int := if col j = -1 then 0 else v (col j)
def atY (col v : Int → Int) (j : Int) : Int := if col j = -1 then 0 else v (col j + 1)
theorem sm_if {x W k : Int} {v : Int → Int} (x0 : 0 ≤ x) (x1 : x < W) : sm (fun c => if c = x then k * v c else 0) W = k * v x := by
  rw [sm_atn (f := fun c => if c = x then k * v c else 0) x0 x1 (fun j hj => if_neg hj), if_pos rfl]
theorem row_sum {lx ly col : Int → Int} {n W f t : Int} (hl : lOK lx ly col n W) (hf : 0 ≤ f ∧ f < n) (ht : 0 ≤ t ∧ t < n) (hft : f ≠ t) (v : Int → Int) : dv (sm (fun c => rowE lx ly col f t c * v c) W - ((lx f - lx t) * (atX col v f - atX col v t) + (ly f - ly t) * (atY col v f - atY col v t))) := by
  obtain ⟨W0, W20, hl⟩ := hl
  obtain ⟨-, cf, df⟩ := hl f hf.1 hf.2
  obtain ⟨-, ct, -⟩ := hl t ht.1 ht.2
  have hd := df t ht.1 ht.2 (fun e => hft e.symm)
  have e : sm (fun c => rowE lx ly col f t c * v c) W = sm (fun c => ((if c = col f + 1 then (if col f = -1 then 0 else (ly f - ly t) % 1000003) * v c else 0) + (if c = col f then (if col f = -1 then 0 else (lx f - lx t) % 1000003) * v c else 0)) + ((if c = col t + 1 then (if col t = -1 then 0 else (-(ly f - ly t)) % 1000003) * v c else 0) + (if c = col t then (if col t = -1 then 0 else (-(lx f - lx t)) % 1000003) * v c else 0))) W := sm_congr W.toNat W (by omega) fun c c0 c1 => by
    unfold rowE rowF
    by_cases q : col t = -1
    · rw [if_pos q, if_pos q, if_pos q, Int.zero_mul]
      have z1 : (if c = col t + 1 then (0 : Int) else 0) = 0 := by split <;> rfl
      have z2 : (if c = col t then (0 : Int) else 0) = 0 := by split <;> rfl
      rw [z1, z2, Int.add_zero, Int.add_zero]
      by_cases q2 : col f = -1
      · rw [if_pos q2, if_pos q2, if_pos q2, Int.zero_mul]
        have z3 : (if c = col f + 1 then (0 : Int) else 0) = 0 := by split <;> rfl
        have z4 : (if c = col f then (0 : Int) else 0) = 0 := by split <;> rfl
        rw [z3, z4]
        rfl
      · rw [if_neg q2, if_neg q2, if_neg q2]
        by_cases e1 : c = col f + 1
        · rw [if_pos e1, if_pos e1, if_neg (by omega), Int.add_zero]
        · rw [if_neg e1, if_neg e1, Int.zero_add]
          by_cases e2 : c = col f
          · rw [if_pos e2, if_pos e2]
          · rw [if_neg e2, if_neg e2, Int.zero_mul]
    · rw [if_neg q, if_neg q, if_neg q]
      by_cases q2 : col f = -1
      · rw [if_pos q2, if_pos q2, if_pos q2, Int.zero_mul]
        have z3 : (if c = col f + 1 then (0 : Int) else 0) = 0 := by split <;> rfl
        have z4 : (if c = col f then (0 : Int) else 0) = 0 := by split <;> rfl
        rw [z3, z4, Int.add_zero, Int.zero_add]
        by_cases e1 : c = col t + 1
        · rw [if_pos e1, if_pos e1, if_neg (by omega), Int.add_zero]
        · rw [if_neg e1, if_neg e1, Int.zero_add]
          by_cases e2 : c = col t
          · rw [if_pos e2, if_pos e2]
          · rw [if_neg e2, if_neg e2, Int.zero_mul]
      · rw [if_neg q2, if_neg q2, if_neg q2]
        have hd' := hd q q2
        by_cases e1 : c = col t + 1
        · rw [if_pos e1, if_pos e1, if_neg (by omega), if_neg (by omega), if_neg (by omega)]
          omega
        · rw [if_neg e1, if_neg e1, Int.zero_add]
          by_cases e2 : c = col t
          · rw [if_pos e2, if_pos e2, if_neg (by omega), if_neg (by omega), Int.zero_add, Int.zero_add]
          · rw [if_neg e2, if_neg e2, Int.add_zero]
            by_cases e3 : c = col f + 1
            · rw [if_pos e3, if_pos e3, if_neg (by omega), Int.add_zero]
            · rw [if_neg e3, if_neg e3, Int.zero_add]
              by_cases e4 : c = col f
              · rw [if_pos e4, if_pos e4]
              · rw [if_neg e4, if_neg e4, Int.zero_mul]
  have hpt : ∀ (x k : Int) (b : Int), (b = -1 ∨ (0 ≤ b ∧ b + 2 ≤ W)) → (x = b ∨ x = b + 1) → sm (fun c => if c = x then (if b = -1 then 0 else k) * v c else 0) W = (if b = -1 then 0 else k) * v x := fun x k b hb hx => by
    by_cases q : b = -1
    · rw [if_pos q, Int.zero_mul]
      have := sm_eq (f := fun c => if c = x then (0 : Int) * v c else 0) (c := 0) W.toNat W (by omega) (fun j _ _ => by rw [Int.zero_mul]; split <;> rfl)
      rw [this, Int.mul_zero]
    · have hb' := hb.resolve_left q
      exact sm_if (by omega) (by omega)
  rw [e, sm_addn W0, sm_addn W0, sm_addn W0, hpt _ _ _ cf (Or.inr rfl), hpt _ _ _ cf (Or.inl rfl), hpt _ _ _ ct (Or.inr rfl), hpt _ _ _ ct (Or.inl rfl)]
  unfold atX atY
  have m1 : ∀ (k z : Int), dv (k % 1000003 * z - k * z) := fun k z => by
    have h : dv ((k - k % 1000003) * z) := dv_ml (dv_mod k)
    rw [Int.sub_mul] at h
    omega
  have a1 := m1 (ly f - ly t) (v (col f + 1))
  have a2 := m1 (lx f - lx t) (v (col f))
  have a3 := m1 (-(ly f - ly t)) (v (col t + 1))
  have a4 := m1 (-(lx f - lx t)) (v (col t))
  rw [Int.neg_mul] at a3 a4
  by_cases q : col f = -1
  · rw [if_pos q, if_pos q, if_pos q, if_pos q, Int.zero_mul, Int.zero_mul]
    by_cases q2 : col t = -1
    · rw [if_pos q2, if_pos q2, if_pos q2, if_pos q2, Int.zero_mul, Int.zero_mul, Int.sub_zero, Int.mul_zero, Int.mul_zero]
      exact dv_0
    · rw [if_neg q2, if_neg q2, if_neg q2, if_neg q2, Int.mul_sub, Int.mul_sub, Int.mul_zero, Int.mul_zero]
      omega
  · rw [if_neg q, if_neg q, if_neg q, if_neg q]
    by_cases q2 : col t = -1
    · rw [if_pos q2, if_pos q2, if_pos q2, if_pos q2, Int.zero_mul, Int.zero_mul, Int.sub_zero, Int.sub_zero]
      omega
    · rw [if_neg q2, if_neg q2, if_neg q2, if_neg q2, Int.mul_sub, Int.mul_sub]
      omega
end ROW
