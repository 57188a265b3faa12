/-! FERMAT: the power two below the prime is the inverse -/
section FE
def cho : Nat → Nat → Nat
  | _, 0 => 1
  | 0, _ + 1 => 0
  | n + 1, k + 1 => cho n k + cho n (k + 1)
theorem cho_0 (n : Nat) : cho n 0 = 1 := by cases n <;> rfl
theorem cho_s (n k : Nat) : cho (n + 1) (k + 1) = cho n k + cho n (k + 1) := rfl
theorem cho_big : ∀ n k : Nat, n < k → cho n k = 0
  | _, 0, h => absurd h (Nat.not_lt_zero _)
  | 0, k + 1, _ => rfl
  | n + 1, k + 1, h => by rw [cho_s, cho_big n k (by omega), cho_big n (k + 1) (by omega)]
theorem cho_self : ∀ n : Nat, cho n n = 1
  | 0 => rfl
  | n + 1 => by rw [cho_s, cho_self n, cho_big n (n + 1) (by omega)]
theorem cho_abs : ∀ n k : Nat, (k + 1) * cho (n + 1) (k + 1) = (n + 1) * cho n k
  | 0, 0 => rfl
  | 0, k + 1 => by
    rw [cho_s, cho_big 0 (k + 1) (by omega), cho_big 0 (k + 1 + 1) (by omega)]
    simp
  | n + 1, 0 => by
    have ih := cho_abs n 0
    rw [cho_0] at ih
    rw [cho_s, cho_0]
    omega
  | n + 1, k + 1 => by
    have h1 := cho_abs n k
    have h2 := cho_abs n (k + 1)
    rw [cho_s (n + 1) (k + 1)]
    have e : (k + 1 + 1) * cho (n + 1) (k + 1) = (k + 1) * cho (n + 1) (k + 1) + cho (n + 1) (k + 1) := by
      rw [Nat.add_mul (k + 1) 1, Nat.one_mul]
    rw [Nat.mul_add, e, h1, h2]
    have e2 : (n + 1 + 1) * cho (n + 1) (k + 1) = (n + 1) * cho (n + 1) (k + 1) + cho (n + 1) (k + 1) := by
      rw [Nat.add_mul (n + 1) 1, Nat.one_mul]
    have e3 : (n + 1) * cho (n + 1) (k + 1) = (n + 1) * cho n k + (n + 1) * cho n (k + 1) := by rw [cho_s, Nat.mul_add]
    rw [e2, e3]
    omega
def smN (f : Nat → Nat) : Nat → Nat
  | 0 => 0
  | n + 1 => smN f n + f n
theorem smN_first (f : Nat → Nat) : ∀ n : Nat, smN f (n + 1) = f 0 + smN (fun k => f (k + 1)) n
  | 0 => by simp [smN]
  | n + 1 => by
    show smN f (n + 1) + f (n + 1) = f 0 + (smN (fun k => f (k + 1)) n + f (n + 1))
    rw [smN_first f n]
    omega
theorem smN_add (f g : Nat → Nat) : ∀ n : Nat, smN (fun k => f k + g k) n = smN f n + smN g n
  | 0 => rfl
  | n + 1 => by
    show smN (fun k => f k + g k) n + (f n + g n) = smN f n + f n + (smN g n + g n)
    rw [smN_add f g n]
    omega
theorem smN_mul (c : Nat) (f : Nat → Nat) : ∀ n : Nat, smN (fun k => c * f k) n = c * smN f n
  | 0 => rfl
  | n + 1 => by
    show smN (fun k => c * f k) n + c * f n = c * (smN f n + f n)
    rw [smN_mul c f n, Nat.mul_add]
theorem smN_congr {f g : Nat → Nat} : ∀ n : Nat, (∀ k, k < n → f k = g k) → smN f n = smN g n
  | 0, _ => rfl
  | n + 1, h => by
    show smN f n + f n = smN g n + g n
    rw [smN_congr n (fun k hk => h k (by omega)), h n (by omega)]
theorem binom (a : Nat) : ∀ n : Nat, (a + 1) ^ n = smN (fun k => cho n k * a ^ k) (n + 1)
  | 0 => by simp [smN, cho]
  | n + 1 => by
    rw [Nat.pow_succ, binom a n, smN_first (fun k => cho (n + 1) k * a ^ k) (n + 1)]
    have e1 : smN (fun k => cho (n + 1) (k + 1) * a ^ (k + 1)) (n + 1) = smN (fun k => a * (cho n k * a ^ k) + cho n (k + 1) * a ^ (k + 1)) (n + 1) := by
      refine smN_congr _ (fun k _ => ?_)
      rw [cho_s, Nat.add_mul, Nat.pow_succ]
      congr 1
      rw [← Nat.mul_assoc, Nat.mul_comm]
    rw [e1, smN_add, smN_mul]
    have e2 : smN (fun k => cho n k * a ^ k) (n + 1) = 1 + smN (fun k => cho n (k + 1) * a ^ (k + 1)) (n + 1) := by
      rw [smN_first]
      show cho n 0 * a ^ 0 + _ = 1 + (smN (fun k => cho n (k + 1) * a ^ (k + 1)) n + cho n (n + 1) * a ^ (n + 1))
      rw [cho_0, cho_big n (n + 1) (by omega), Nat.zero_mul, Nat.add_zero, Nat.one_mul, Nat.pow_zero]
    have e3 : smN (fun k => cho n k * a ^ k) (n + 1) * (a + 1) = smN (fun k => cho n k * a ^ k) (n + 1) * a + smN (fun k => cho n k * a ^ k) (n + 1) := by rw [Nat.mul_add, Nat.mul_one]
    rw [e3, cho_0, Nat.pow_zero, Nat.one_mul, Nat.mul_comm _ a]
    omega
theorem smN_mod (p : Nat) {f : Nat → Nat} : ∀ n : Nat, (∀ k, k < n → p ∣ f k) → p ∣ smN f n
  | 0, _ => Nat.dvd_zero p
  | n + 1, h => Nat.dvd_add (smN_mod p n (fun k hk => h k (by omega))) (h n (by omega))
def PP : Nat := 1000003
theorem PP_small : ∀ d : Nat, d < 1001 → 2 ≤ d → ¬ d ∣ 1000003 := by decide +kernel
theorem PP_prime {d : Nat} (h : d ∣ 1000003) : d = 1 ∨ d = 1000003 := by
  obtain ⟨e, he⟩ := h
  have hd0 : 0 < d := by rcases Nat.eq_zero_or_pos d with q | q; (subst q; omega); exact q
  have he0 : 0 < e := by rcases Nat.eq_zero_or_pos e with q | q; (subst q; omega); exact q
  by_cases q1 : d < 1001
  · by_cases q2 : 2 ≤ d
    · exact absurd ⟨e, he⟩ (PP_small d q1 q2)
    · left; omega
  · by_cases q2 : e < 1001
    · by_cases q3 : 2 ≤ e
      · exact absurd ⟨d, by rw [he, Nat.mul_comm]⟩ (PP_small e q2 q3)
      · right
        have : e = 1 := by omega
        subst this
        omega
    · have : 1001 * 1001 ≤ d * e := Nat.mul_le_mul (by omega) (by omega)
      omega
theorem PP_cop {a : Nat} (h0 : 0 < a) (h : a < 1000003) : Nat.Coprime 1000003 a := by
  rcases PP_prime (Nat.gcd_dvd_left 1000003 a) with q | q
  · exact q
  · have h1 := Nat.le_of_dvd h0 (Nat.gcd_dvd_right 1000003 a)
    omega
theorem PP_cho {k : Nat} (h0 : 0 < k) (h : k < 1000003) : 1000003 ∣ cho 1000003 k := by
  obtain ⟨j, rfl⟩ : ∃ j, k = j + 1 := ⟨k - 1, by omega⟩
  have e := cho_abs 1000002 j
  have hd : 1000003 ∣ (j + 1) * cho 1000003 (j + 1) := ⟨cho 1000002 j, e⟩
  exact Nat.Coprime.dvd_of_dvd_mul_left (PP_cop h0 h) hd
theorem fermat_step (p : Nat) (hp : 0 < p) (hc : ∀ k, 0 < k → k < p → p ∣ cho p k) (a : Nat) : (a + 1) ^ p % p = (a ^ p + 1) % p := by
  have e := binom a p
  rw [smN_first] at e
  obtain ⟨q, rfl⟩ : ∃ q, p = q + 1 := ⟨p - 1, by omega⟩
  have e2 : smN (fun k => cho (q + 1) (k + 1) * a ^ (k + 1)) (q + 1) = smN (fun k => cho (q + 1) (k + 1) * a ^ (k + 1)) q + cho (q + 1) (q + 1) * a ^ (q + 1) := rfl
  rw [e2, cho_self, cho_0, Nat.one_mul, Nat.one_mul, Nat.pow_zero] at e
  have hd : (q + 1) ∣ smN (fun k => cho (q + 1) (k + 1) * a ^ (k + 1)) q := smN_mod _ q (fun k hk => Nat.dvd_trans (hc (k + 1) (by omega) (by omega)) (Nat.dvd_mul_right _ _))
  obtain ⟨z, hz⟩ := hd
  rw [e, hz]
  have e3 : 1 + ((q + 1) * z + a ^ (q + 1)) = (a ^ (q + 1) + 1) + (q + 1) * z := by omega
  rw [e3, Nat.add_mul_mod_self_left]
theorem fermat (p : Nat) (hp : 1 < p) (hc : ∀ k, 0 < k → k < p → p ∣ cho p k) : ∀ a : Nat, a ^ p % p = a % p
  | 0 => by rw [Nat.zero_pow (by omega)]
  | a + 1 => by
    rw [fermat_step p (by omega) hc a, Nat.add_mod, fermat p hp hc a, ← Nat.add_mod]
theorem fermatP {a : Nat} (h0 : 0 < a) (h : a < 1000003) : a * a ^ 1000001 % 1000003 = 1 := by
  have hf := fermat 1000003 (by omega) (fun k k0 k1 => PP_cho k0 k1) a
  have e : a ^ 1000003 = a * (a * a ^ 1000001) := by
    rw [← Nat.pow_succ', ← Nat.pow_succ']
  have hge : a ≤ a ^ 1000003 := by
    rw [e]
    exact Nat.le_mul_of_pos_right a (Nat.mul_pos h0 (Nat.pow_pos h0))
  have hd : 1000003 ∣ a ^ 1000003 - a := Nat.dvd_of_mod_eq_zero (Nat.sub_mod_eq_zero_of_mod_eq hf)
  have e2 : a ^ 1000003 - a = a * (a * a ^ 1000001 - 1) := by rw [e, Nat.mul_sub, Nat.mul_one]
  rw [e2] at hd
  have hd2 := Nat.Coprime.dvd_of_dvd_mul_left (PP_cop h0 h) hd
  obtain ⟨z, hz⟩ := hd2
  have hpos : 0 < a * a ^ 1000001 := Nat.mul_pos h0 (Nat.pow_pos h0)
  have e3 : a * a ^ 1000001 = 1 + 1000003 * z := by omega
  rw [e3, Nat.add_mul_mod_self_left]
end FE
