/-! RANKS at points that are drawn: no more than what is kept -/
section RIG
theorem sm_three {f : Int → Int} {W a b d : Int} (ha : 0 ≤ a ∧ a < W) (hb : 0 ≤ b ∧ b < W) (hd : 0 ≤ d ∧ d < W) (hab : a ≠ b) (had : a ≠ d) (hbd : b ≠ d) (h : ∀ c, 0 ≤ c → c < W → c ≠ a → c ≠ b → c ≠ d → dv (f c)) : dv (sm f W - (f a + f b + f d)) := by
  have W0 : 0 ≤ W := by omega
  have h1 : dv (sm (fun c => f c - (((if c = a then f a else 0) + (if c = b then f b else 0)) + (if c = d then f d else 0))) W) := sm_dvn W0 fun c c0 c1 => by
    by_cases qa : c = a
    · rw [if_pos qa, if_neg (by omega), if_neg (by omega), qa]
      exact ⟨0, by omega⟩
    · by_cases qb : c = b
      · rw [if_neg qa, if_pos qb, if_neg (by omega), qb]
        exact ⟨0, by omega⟩
      · by_cases qd : c = d
        · rw [if_neg qa, if_neg qb, if_pos qd, qd]
          exact ⟨0, by omega⟩
        · rw [if_neg qa, if_neg qb, if_neg qd]
          have := h c c0 c1 qa qb qd
          omega
  rw [sm_subn W0, sm_addn W0, sm_addn W0, sm_atn (f := fun c => if c = a then f a else 0) ha.1 ha.2 (fun j hj => if_neg hj), sm_atn (f := fun c => if c = b then f b else 0) hb.1 hb.2 (fun j hj => if_neg hj), sm_atn (f := fun c => if c = d then f d else 0) hd.1 hd.2 (fun j hj => if_neg hj), if_pos rfl, if_pos rfl, if_pos rfl] at h1
  exact h1
/-- columns of joints by numbers -/
abbrev c2 : Int → Int := fun j => 2 * j
theorem atX_2 {v : Int → Int} {j : Int} (h : 0 ≤ j) : atX c2 v j = v (2 * j) := by unfold atX; exact if_neg (by show ¬ 2 * j = -1; omega)
theorem atY_2 {v : Int → Int} {j : Int} (h : 0 ≤ j) : atY c2 v j = v (2 * j + 1) := by unfold atY; exact if_neg (by show ¬ 2 * j = -1; omega)
theorem rowE_out {lx ly : Int → Int} {f t c : Int} (hf : 0 ≤ f) (ht : 0 ≤ t) (h1 : c / 2 ≠ f) (h2 : c / 2 ≠ t) : rowE lx ly c2 f t c = 0 := by
  unfold rowE rowF
  rw [if_neg (by show ¬ 2 * t = -1; omega), if_neg (by show ¬ c = 2 * t + 1; omega), if_neg (by show ¬ c = 2 * t; omega), if_neg (by show ¬ 2 * f = -1; omega), if_neg (by show ¬ c = 2 * f + 1; omega), if_neg (by show ¬ c = 2 * f; omega)]
theorem rowE_dv {lx ly : Int → Int} {f t c : Int} (hx : dv (lx f - lx t)) (hy : dv (ly f - ly t)) : dv (rowE lx ly c2 f t c) := by
  unfold rowE rowF
  split
  · split
    · exact dv_0
    · split
      · omega
      · split
        · omega
        · exact dv_0
  · split
    · omega
    · split
      · omega
      · split
        · exact dv_0
        · split
          · omega
          · split
            · omega
            · exact dv_0
/-- the three motions of the whole -/
def mvX (c : Int) : Int := if c % 2 = 0 then 1 else 0
def mvY (c : Int) : Int := if c % 2 = 0 then 0 else 1
def mvR (lx ly : Int → Int) (c : Int) : Int := if c % 2 = 0 then ly (c / 2) else -(lx (c / 2))
theorem mv_at (lx ly : Int → Int) {j : Int} (h : 0 ≤ j) : (mvX (2 * j) = 1 ∧ mvX (2 * j + 1) = 0) ∧ (mvY (2 * j) = 0 ∧ mvY (2 * j + 1) = 1) ∧ (mvR lx ly (2 * j) = ly j ∧ mvR lx ly (2 * j + 1) = -(lx j)) := by
  unfold mvX mvY mvR
  have e1 : (2 * j) % 2 = 0 := by omega
  have e2 : ¬ (2 * j + 1) % 2 = 0 := by omega
  have e3 : (2 * j) / 2 = j := by omega
  have e4 : (2 * j + 1) / 2 = j := by omega
  rw [if_pos e1, if_neg e2, if_pos e1, if_neg e2, if_pos e1, if_neg e2, e3, e4]
  exact ⟨⟨rfl, rfl⟩, ⟨rfl, rfl⟩, rfl, rfl⟩
theorem row_mv {lx ly : Int → Int} {n f t : Int} (hl : lOK lx ly c2 n (2 * n)) (hf : 0 ≤ f ∧ f < n) (ht : 0 ≤ t ∧ t < n) (hft : f ≠ t) : dv (sm (fun c => rowE lx ly c2 f t c * mvX c) (2 * n)) ∧ dv (sm (fun c => rowE lx ly c2 f t c * mvY c) (2 * n)) ∧ dv (sm (fun c => rowE lx ly c2 f t c * mvR lx ly c) (2 * n)) := by
  obtain ⟨⟨a1, a2⟩, ⟨a3, a4⟩, a5, a6⟩ := mv_at lx ly hf.1
  obtain ⟨⟨b1, b2⟩, ⟨b3, b4⟩, b5, b6⟩ := mv_at lx ly ht.1
  have h1 := row_sum hl hf ht hft mvX
  have h2 := row_sum hl hf ht hft mvY
  have h3 := row_sum hl hf ht hft (mvR lx ly)
  rw [atX_2 hf.1, atX_2 ht.1, atY_2 hf.1, atY_2 ht.1] at h1 h2 h3
  rw [a1, a2, b1, b2, Int.sub_self, Int.sub_self, Int.mul_zero, Int.mul_zero] at h1
  rw [a3, a4, b3, b4, Int.sub_self, Int.sub_self, Int.mul_zero, Int.mul_zero] at h2
  rw [a5, a6, b5, b6, show -(lx f) - -(lx t) = -(lx f - lx t) by omega, Int.mul_neg, Int.mul_comm (ly f - ly t)] at h3
  exact ⟨by omega, by omega, by omega⟩
/-- members within a set are no more than its joints allow, if their rows don't depend -/
theorem ind_sparse {V : St} {lx ly : Int → Int} {n : Int} (n10 : n ≤ 10) (hl : lOK lx ly c2 n (2 * n)) {J : Int → Bool} (hJ : ∀ k, J k = true → (0 ≤ V 11 k ∧ V 11 k < n) ∧ (0 ≤ V 12 k ∧ V 12 k < n) ∧ V 11 k ≠ V 12 k) (hi : indep J (fun k c => rowE lx ly c2 (V 11 k) (V 12 k) c) 40 (2 * n)) : sparse V J n := by
  intro U hU hpc
  by_cases q : sp V J U ≤ 2 * pc U - 3
  · exact q
  · exfalso
    have hUn : ∀ j, n ≤ j → tb U j = false := fun j hj => by
      unfold tb
      exact Nat.testBit_lt_two_pow (Nat.lt_of_lt_of_le hU (Nat.pow_le_pow_right (by decide) (by omega)))
    by_cases hp : ∃ i j, (0 ≤ i ∧ tb U i = true) ∧ (0 ≤ j ∧ tb U j = true) ∧ (¬ dv (lx i - lx j) ∨ ¬ dv (ly i - ly j))
    · obtain ⟨i, j, ⟨i0, i1⟩, ⟨j0, j1⟩, hij⟩ := hp
      have in' : i < n := by
        by_cases z : i < n
        · exact z
        · rw [hUn i (by omega)] at i1; exact absurd i1 (by decide)
      have jn' : j < n := by
        by_cases z : j < n
        · exact z
        · rw [hUn j (by omega)] at j1; exact absurd j1 (by decide)
      have hne : i ≠ j := fun e => by
        rw [e, Int.sub_self, Int.sub_self] at hij
        rcases hij with z | z <;> exact z dv_0
      -- the three places that are left out
      have h3 : ∃ a b d : Int, (a ≠ b ∧ a ≠ d ∧ b ≠ d) ∧ (0 ≤ a ∧ a < 2 * n ∧ tb U (a / 2) = true) ∧ (0 ≤ b ∧ b < 2 * n ∧ tb U (b / 2) = true) ∧ (0 ≤ d ∧ d < 2 * n ∧ tb U (d / 2) = true) ∧ ∀ x y z : Int, dv (x * mvX a + y * mvX b + z * mvX d) → dv (x * mvY a + y * mvY b + z * mvY d) → dv (x * mvR lx ly a + y * mvR lx ly b + z * mvR lx ly d) → dv x ∧ dv y ∧ dv z := by
        obtain ⟨⟨a1, a2⟩, ⟨a3, a4⟩, a5, a6⟩ := mv_at lx ly i0
        obtain ⟨⟨b1, b2⟩, ⟨b3, b4⟩, b5, b6⟩ := mv_at lx ly j0
        rcases hij with hij | hij
        · refine ⟨2 * i, 2 * i + 1, 2 * j + 1, ⟨by omega, by omega, by omega⟩, ⟨by omega, by omega, by rw [show 2 * i / 2 = i by omega]; exact i1⟩, ⟨by omega, by omega, by rw [show (2 * i + 1) / 2 = i by omega]; exact i1⟩, ⟨by omega, by omega, by rw [show (2 * j + 1) / 2 = j by omega]; exact j1⟩, fun x y z => ?_⟩
          rw [a1, a2, b2, a3, a4, b4, a5, a6, b6]
          intro h1 h2 h3
          have k1 : dv x := by omega
          have k2 : dv (y + z) := by omega
          have k3 : dv (x * ly i) := dv_ml k1
          have k4 : dv ((y + z) * lx j) := dv_ml k2
          rw [Int.add_mul] at k4
          rw [Int.mul_neg, Int.mul_neg] at h3
          have k5 : dv ((lx i - lx j) * y) := by rw [Int.sub_mul, Int.mul_comm (lx i), Int.mul_comm (lx j)]; omega
          have k6 := dv_prime k5 hij
          exact ⟨k1, k6, by omega⟩
        · refine ⟨2 * i, 2 * j, 2 * i + 1, ⟨by omega, by omega, by omega⟩, ⟨by omega, by omega, by rw [show 2 * i / 2 = i by omega]; exact i1⟩, ⟨by omega, by omega, by rw [show 2 * j / 2 = j by omega]; exact j1⟩, ⟨by omega, by omega, by rw [show (2 * i + 1) / 2 = i by omega]; exact i1⟩, fun x y z => ?_⟩
          rw [a1, b1, a2, a3, b3, a4, a5, b5, a6]
          intro h1 h2 h3
          have k1 : dv z := by omega
          have k2 : dv (x + y) := by omega
          have k3 : dv (z * lx i) := dv_ml k1
          have k4 : dv ((x + y) * ly j) := dv_ml k2
          rw [Int.add_mul] at k4
          rw [Int.mul_neg] at h3
          have k5 : dv ((ly i - ly j) * x) := by rw [Int.sub_mul, Int.mul_comm (ly i), Int.mul_comm (ly j)]; omega
          have k6 := dv_prime k5 hij
          exact ⟨k6, by omega, k1⟩
      obtain ⟨a, b, d, ⟨ab, ad, bd⟩, ⟨a0, a1, a2⟩, ⟨b0, b1, b2⟩, ⟨d0, d1, d2⟩, hthree⟩ := h3
      -- places of the set, but three
      have t1 := cn_chg20 (p := fun c => tb U (c / 2)) (q := fun c => tb U (c / 2) && !decide (c = a)) (N := 20) a0 (by omega) (fun k hk => by show (tb U (k / 2) && !decide (k = a)) = tb U (k / 2); rw [decide_eq_false hk]; cases tb U (k / 2) <;> rfl)
      have t2 := cn_chg20 (p := fun c => tb U (c / 2) && !decide (c = a)) (q := fun c => (tb U (c / 2) && !decide (c = a)) && !decide (c = b)) (N := 20) b0 (by omega) (fun k hk => by show ((tb U (k / 2) && !decide (k = a)) && !decide (k = b)) = (tb U (k / 2) && !decide (k = a)); rw [decide_eq_false hk]; cases (tb U (k / 2) && !decide (k = a)) <;> rfl)
      have t3 := cn_chg20 (p := fun c => (tb U (c / 2) && !decide (c = a)) && !decide (c = b)) (q := fun c => ((tb U (c / 2) && !decide (c = a)) && !decide (c = b)) && !decide (c = d)) (N := 20) d0 (by omega) (fun k hk => by show (((tb U (k / 2) && !decide (k = a)) && !decide (k = b)) && !decide (k = d)) = ((tb U (k / 2) && !decide (k = a)) && !decide (k = b)); rw [decide_eq_false hk]; cases ((tb U (k / 2) && !decide (k = a)) && !decide (k = b)) <;> rfl)
      have uu : ∀ x : Int, (true && !decide (x = x)) = false := fun x => by rw [decide_eq_true (rfl : x = x)]; rfl
      have u2' : (tb U (b / 2) && !decide (b = a)) = true := by rw [b2, decide_eq_false (fun z => ab z.symm)]; rfl
      have u3' : ((tb U (d / 2) && !decide (d = a)) && !decide (d = b)) = true := by rw [d2, decide_eq_false (fun z => ad z.symm), decide_eq_false (fun z => bd z.symm)]; rfl
      rw [a2, uu] at t1
      rw [u2', uu] at t2
      rw [u3', uu] at t3
      have bt : bi true = 1 := rfl
      have bf : bi false = 0 := rfl
      have ho := own U
      obtain ⟨l, l1, ⟨s, s0, s1, s2⟩, l3⟩ := dep (M := 40) (by decide) 20 20 (fun c => ((tb U (c / 2) && !decide (c = a)) && !decide (c = b)) && !decide (c = d)) (fun k => J k && (tb U (V 11 k) && tb U (V 12 k))) (fun k c => rowE lx ly c2 (V 11 k) (V 12 k) c) rfl (by
        have e : cn (fun k => J k && (tb U (V 11 k) && tb U (V 12 k))) 40 = sp V J U := rfl
        omega)
      have hsup : ∀ k, J k = false → l k = 0 := fun k hk => l1 k (by show (J k && _) = false; rw [hk]; rfl)
      have hnz : ∀ k, l k ≠ 0 → J k = true ∧ tb U (V 11 k) = true ∧ tb U (V 12 k) = true := fun k hk => by
        cases z : (J k && (tb U (V 11 k) && tb U (V 12 k)))
        · exact absurd (l1 k z) hk
        · rw [Bool.and_eq_true, Bool.and_eq_true] at z
          exact z
      -- sums at each place
      obtain ⟨g, hg⟩ : ∃ g : Int → Int, g = fun c => sm (fun k => l k * rowE lx ly c2 (V 11 k) (V 12 k) c) 40 := ⟨_, rfl⟩
      have hout : ∀ c, 0 ≤ c → tb U (c / 2) = false → dv (g c) := fun c c0 hc => by
        rw [hg]
        refine sm_dvn (by decide) fun k _ _ => ?_
        by_cases z : l k = 0
        · rw [z, Int.zero_mul]; exact dv_0
        · obtain ⟨y1, y2, y3⟩ := hnz k z
          obtain ⟨w1, w2, w3⟩ := hJ k y1
          rw [rowE_out w1.1 w2.1 (fun e => by rw [← e, hc] at y2; exact absurd y2 (by decide)) (fun e => by rw [← e, hc] at y3; exact absurd y3 (by decide)), Int.mul_zero]
          exact dv_0
      have hrest : ∀ c, 0 ≤ c → c < 2 * n → c ≠ a → c ≠ b → c ≠ d → dv (g c) := fun c c0 c1 ca cb cd => by
        cases hc : tb U (c / 2)
        · exact hout c c0 hc
        · rw [hg]
          exact l3 c c0 (by omega) (by rw [hc, decide_eq_false ca, decide_eq_false cb, decide_eq_false cd]; rfl)
      have hmv : ∀ mv : Int → Int, (∀ k, J k = true → dv (sm (fun c => rowE lx ly c2 (V 11 k) (V 12 k) c * mv c) (2 * n))) → dv (g a * mv a + g b * mv b + g d * mv d) := fun mv h => by
        have n0 : 0 ≤ 2 * n := by omega
        have h1 : dv (sm (fun c => g c * mv c) (2 * n)) := by
          have e : sm (fun c => g c * mv c) (2 * n) = sm (fun k => l k * sm (fun c => rowE lx ly c2 (V 11 k) (V 12 k) c * mv c) (2 * n)) 40 := by
            have e1 : sm (fun c => g c * mv c) (2 * n) = sm (fun c => sm (fun k => l k * rowE lx ly c2 (V 11 k) (V 12 k) c * mv c) 40) (2 * n) := sm_congr (2 * n).toNat (2 * n) (by omega) fun c _ _ => by
              rw [hg]
              exact (sm_mulr (by decide)).symm
            rw [e1, sm_swap (by decide) (2 * n).toNat (2 * n) (by omega)]
            refine sm_congr 40 40 rfl fun k _ _ => ?_
            rw [← sm_mulc (2 * n).toNat (2 * n) (by omega)]
            exact sm_congr (2 * n).toNat (2 * n) (by omega) fun c _ _ => Int.mul_assoc _ _ _
          rw [e]
          refine sm_dvn (by decide) fun k _ _ => ?_
          cases z : J k
          · rw [hsup k z, Int.zero_mul]; exact dv_0
          · exact dv_mr (h k z)
        have h2 := sm_three (f := fun c => g c * mv c) ⟨a0, a1⟩ ⟨b0, b1⟩ ⟨d0, d1⟩ ab ad bd (fun c c0 c1 ca cb cd => dv_ml (hrest c c0 c1 ca cb cd))
        have h3 : dv (sm (fun c => g c * mv c) (2 * n) - (g a * mv a + g b * mv b + g d * mv d)) := h2
        omega
      obtain ⟨ga, gb, gd⟩ := hthree (g a) (g b) (g d) (hmv _ fun k hk => (row_mv hl (hJ k hk).1 (hJ k hk).2.1 (hJ k hk).2.2).1) (hmv _ fun k hk => (row_mv hl (hJ k hk).1 (hJ k hk).2.1 (hJ k hk).2.2).2.1) (hmv _ fun k hk => (row_mv hl (hJ k hk).1 (hJ k hk).2.1 (hJ k hk).2.2).2.2)
      refine s2 (hi l hsup (fun c c0 c1 => ?_) s s0 s1)
      have hgc : dv (g c) := by
        by_cases qa : c = a
        · rw [qa]; exact ga
        · by_cases qb : c = b
          · rw [qb]; exact gb
          · by_cases qd : c = d
            · rw [qd]; exact gd
            · exact hrest c c0 c1 qa qb qd
      rw [hg] at hgc
      exact hgc
    · -- all in one point: each row is nothing
      have hpos : 0 < cn (fun k => J k && (tb U (V 11 k) && tb U (V 12 k))) 40 := by
        have e : cn (fun k => J k && (tb U (V 11 k) && tb U (V 12 k))) 40 = sp V J U := rfl
        omega
      obtain ⟨k, k0, k1, k2, _⟩ := cn_ex (k := 0) (by decide) 40 40 rfl hpos
      rw [Bool.and_eq_true, Bool.and_eq_true] at k2
      obtain ⟨y1, y2, y3⟩ := k2
      obtain ⟨w1, w2, w3⟩ := hJ k y1
      have hz : dv (lx (V 11 k) - lx (V 12 k)) ∧ dv (ly (V 11 k) - ly (V 12 k)) := by
        by_cases z1 : dv (lx (V 11 k) - lx (V 12 k))
        · by_cases z2 : dv (ly (V 11 k) - ly (V 12 k))
          · exact ⟨z1, z2⟩
          · exact absurd ⟨_, _, ⟨w1.1, y2⟩, ⟨w2.1, y3⟩, Or.inr z2⟩ hp
        · exact absurd ⟨_, _, ⟨w1.1, y2⟩, ⟨w2.1, y3⟩, Or.inl z1⟩ hp
      have h1 := hi (fun t => if t = k then 1 else 0) (fun t ht => if_neg (fun e => by rw [e, y1] at ht; exact absurd ht (by decide))) (fun c c0 c1 => by
        have e : sm (fun t => (if t = k then (1 : Int) else 0) * rowE lx ly c2 (V 11 t) (V 12 t) c) 40 = (if k = k then (1 : Int) else 0) * rowE lx ly c2 (V 11 k) (V 12 k) c := sm_atn (f := fun t => (if t = k then (1 : Int) else 0) * rowE lx ly c2 (V 11 t) (V 12 t) c) k0 k1 (fun j hj => by rw [if_neg hj, Int.zero_mul])
        show dv (sm (fun t => (if t = k then (1 : Int) else 0) * rowE lx ly c2 (V 11 t) (V 12 t) c) 40)
        rw [e, if_pos rfl, Int.one_mul]
        exact rowE_dv hz.1 hz.2) k k0 k1
      have h2 : dv (if k = k then (1 : Int) else 0) := h1
      rw [if_pos rfl] at h2
      exact dv_1 h2
/-- the rank at drawn points is no more than what is kept -/
theorem rank_kept {V : St} {lx ly : Int → Int} (hI : Inv V) (hl : lOK lx ly c2 (V 1 0) (2 * V 1 0)) : (rkL V lx ly c2 (2 * V 1 0) (-1) (V 2 0)).2.1 ≤ kc V (-1) := by
  obtain ⟨n0, n10, m0, m40, hE⟩ := hI.1
  have hR := cn_rng (mKept V (-1)) m0
  obtain ⟨J, j1, j2, j3⟩ := basis (fun k => decide (k < V 2 0) && mKept V (-1) k) (fun k c => rowE lx ly c2 (V 11 k) (V 12 k) c) (M := 40) (C := 2 * V 1 0) (by decide) 40 40 rfl (Int.le_refl _)
  have hJ : ∀ k, J k = true → 0 ≤ k ∧ k < V 2 0 ∧ mKept V (-1) k = true := fun k hk => by
    obtain ⟨a, _, b⟩ := j1 k hk
    rw [Bool.and_eq_true] at b
    exact ⟨a, of_decide_eq_true b.1, b.2⟩
  have h1 : (rkL V lx ly c2 (2 * V 1 0) (-1) (V 2 0)).2.1 ≤ cn J 40 := el_rank (w := fun k c => rowE lx ly c2 (V 11 k) (V 12 k) c) (by decide) hR.1 (by omega) (by omega) (fun r c => wr_rg' r c) fun r r0 r1 => by
    obtain ⟨k, k0, k1, k2, k3⟩ := row_of m0 r0 r1
    have e : wr V lx ly c2 (-1) (V 2 0) r = rowE lx ly c2 (V 11 k) (V 12 k) := by
      funext c
      rw [← k3]
      exact wr_row k0 k2 c (V 2 0).toNat (V 2 0) (by omega) k1
    rw [e]
    exact j3 k k0 (by omega) (by rw [decide_eq_true k1, k2]; rfl)
  have h2 : sparse V J (V 1 0) := ind_sparse n10 hl (fun k hk => by
    obtain ⟨a, b, c⟩ := hJ k hk
    obtain ⟨b1, b2, b3, b4, b5, b6⟩ := hE k a b
    obtain ⟨b7, b8⟩ := b6 (of_decide_eq_true c).1
    exact ⟨⟨b1, b7⟩, ⟨b3, b8⟩, b5⟩) j2
  have h3 := kp_max (a := -1) hI.1 (sparse_kp m40 (V 2 0).toNat (V 2 0) (by omega) (Int.le_refl _)) (fun k k0 k1 hk => ⟨(hJ k hk).2.1, (hJ k hk).2.2⟩) h2
  unfold kc
  omega
end RIG
