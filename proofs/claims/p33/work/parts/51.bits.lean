/-! BITS counted, of a long -/
section BITS
theorem tb_sp (A : Nat) {a : Nat} (ha : a < 256) (j : Nat) : (a + 256 * A).testBit j = if j < 8 then a.testBit j else A.testBit (j - 8) := by
  have := Nat.testBit_two_pow_mul_add A (i := 8) (b := a) (by simpa using ha) j
  rw [← this, Nat.add_comm]
theorem and_split {a m A M : Nat} (ha : a < 256) (hm : m < 256) : (a + 256 * A) &&& (m + 256 * M) = (a &&& m) + 256 * (A &&& M) := by
  have hl : a &&& m < 256 := Nat.lt_of_le_of_lt Nat.and_le_left ha
  apply Nat.eq_of_testBit_eq
  intro j
  rw [Nat.testBit_and, tb_sp A ha, tb_sp M hm, tb_sp (A &&& M) hl]
  split
  · rw [Nat.testBit_and]
  · rw [Nat.testBit_and]
theorem shm {s b m y M : Nat} (hb : b < 256) (hs : s ≤ 8) (hm : m < 2 ^ (8 - s)) : ((b + 256 * y) / 2 ^ s) &&& (m + 256 * M) = ((b / 2 ^ s) &&& m) + 256 * ((y / 2 ^ s) &&& M) := by
  have hm2 : m < 256 := Nat.lt_of_lt_of_le hm (by have : 2 ^ (8 - s) ≤ 2 ^ 8 := Nat.pow_le_pow_right (by decide) (by omega); simpa using this)
  have hl : (b / 2 ^ s) &&& m < 256 := Nat.lt_of_le_of_lt Nat.and_le_right hm2
  apply Nat.eq_of_testBit_eq
  intro j
  rw [Nat.testBit_and, tb_sp M hm2, tb_sp _ hl, Nat.testBit_div_two_pow, tb_sp y hb]
  by_cases q : j < 8
  · rw [if_pos q, if_pos q, Nat.testBit_and, Nat.testBit_div_two_pow]
    by_cases q2 : j + s < 8
    · rw [if_pos q2]
    · have : m.testBit j = false := Nat.testBit_lt_two_pow (Nat.lt_of_lt_of_le hm (Nat.pow_le_pow_right (by decide) (by omega)))
      rw [this, Bool.and_false, Bool.and_false]
  · rw [if_neg q, if_neg q, if_neg (by omega), Nat.testBit_and, Nat.testBit_div_two_pow, show j + s - 8 = j - 8 + s by omega]
def ms (c : Nat) : Nat → Nat
  | 0 => 0
  | n + 1 => c + 256 * ms c n
def g1 (n x : Nat) : Nat := x - ((x / 2) &&& ms 85 n)
def g2 (n x : Nat) : Nat := (x &&& ms 51 n) + ((x / 4) &&& ms 51 n)
def g3 (n x : Nat) : Nat := (x + x / 16) &&& ms 15 n
def t1 (b : Nat) : Nat := b - ((b / 2) &&& 85)
def t2 (b : Nat) : Nat := (b &&& 51) + ((b / 4) &&& 51)
theorem g1_s {n b y : Nat} (hb : b < 256) : g1 (n + 1) (b + 256 * y) = t1 b + 256 * g1 n y := by
  unfold g1 t1
  have h := shm (s := 1) (m := 85) (y := y) (M := ms 85 n) hb (by decide) (by decide)
  rw [Nat.pow_one] at h
  show b + 256 * y - ((b + 256 * y) / 2 &&& (85 + 256 * ms 85 n)) = _
  rw [h]
  have h1 : b / 2 &&& 85 ≤ b / 2 := Nat.and_le_left
  have h2 : y / 2 &&& ms 85 n ≤ y / 2 := Nat.and_le_left
  omega
theorem g2_s {n b y : Nat} (hb : b < 256) : g2 (n + 1) (b + 256 * y) = t2 b + 256 * g2 n y := by
  unfold g2 t2
  have h := shm (s := 2) (m := 51) (y := y) (M := ms 51 n) hb (by decide) (by decide)
  rw [show 2 ^ 2 = 4 from rfl] at h
  show ((b + 256 * y) &&& (51 + 256 * ms 51 n)) + ((b + 256 * y) / 4 &&& (51 + 256 * ms 51 n)) = _
  rw [h, and_split hb (by decide)]
  omega
theorem g3_s {n b y : Nat} (hb : b % 16 ≤ 4) (hb2 : b / 16 ≤ 4) (hy : y % 16 ≤ 4) : g3 (n + 1) (b + 256 * y) = (b + b / 16) % 16 + 256 * g3 n y := by
  unfold g3
  show ((b + 256 * y) + (b + 256 * y) / 16) &&& (15 + 256 * ms 15 n) = _
  have e : (b + 256 * y) + (b + 256 * y) / 16 = (b + b / 16 + 16 * (y % 16)) + 256 * (y + y / 16) := by omega
  have hlt : b + b / 16 + 16 * (y % 16) < 256 := by omega
  rw [e, and_split hlt (by decide)]
  have e2 : b + b / 16 + 16 * (y % 16) &&& 15 = (b + b / 16 + 16 * (y % 16)) % 16 := Nat.and_two_pow_sub_one_eq_mod _ 4
  rw [e2]
  omega
def bc (b : Nat) : Int := cn (tb b) 8
theorem byt : ∀ b : Nat, b < 256 → (decide (t1 b < 256) && decide (t2 (t1 b) % 16 ≤ 4) && decide (t2 (t1 b) / 16 ≤ 4) && decide ((((t2 (t1 b) + t2 (t1 b) / 16) % 16 : Nat) : Int) = bc b) && decide ((t2 (t1 b) + t2 (t1 b) / 16) % 16 ≤ 8)) = true := by decide +kernel
def q8 (b : Nat) : Nat := (t2 (t1 b) + t2 (t1 b) / 16) % 16
theorem byt' {b : Nat} (h : b < 256) : t1 b < 256 ∧ t2 (t1 b) % 16 ≤ 4 ∧ t2 (t1 b) / 16 ≤ 4 ∧ ((q8 b : Nat) : Int) = bc b ∧ q8 b ≤ 8 := by
  have := byt b h
  rw [Bool.and_eq_true, Bool.and_eq_true, Bool.and_eq_true, Bool.and_eq_true] at this
  obtain ⟨⟨⟨⟨a, b⟩, c⟩, d⟩, e⟩ := this
  exact ⟨of_decide_eq_true a, of_decide_eq_true b, of_decide_eq_true c, of_decide_eq_true d, of_decide_eq_true e⟩
def bsum : Nat → Nat → Nat
  | 0, _ => 0
  | n + 1, x => q8 (x % 256) + 256 * bsum n (x / 256)
theorem g2_low {n x : Nat} : g2 n (g1 n x) % 16 ≤ 4 := by
  cases n with
  | zero => show ((g1 0 x &&& 0) + (g1 0 x / 4 &&& 0)) % 16 ≤ 4; rw [Nat.and_zero, Nat.and_zero]; decide
  | succ n =>
    have hx : x = x % 256 + 256 * (x / 256) := by omega
    obtain ⟨a, b, _⟩ := byt' (show x % 256 < 256 by omega)
    rw [hx, g1_s (by omega), g2_s a]
    omega
theorem g_all : ∀ n x, g3 n (g2 n (g1 n x)) = bsum n x
  | 0, x => by show (_ &&& 0) = 0; rw [Nat.and_zero]
  | n + 1, x => by
    have hx : x = x % 256 + 256 * (x / 256) := by omega
    obtain ⟨a, b, c, _⟩ := byt' (show x % 256 < 256 by omega)
    have e : g3 (n + 1) (g2 (n + 1) (g1 (n + 1) x)) = g3 (n + 1) (t2 (t1 (x % 256)) + 256 * g2 n (g1 n (x / 256))) := by
      rw [← g2_s a, ← g1_s (show x % 256 < 256 by omega), ← hx]
    rw [e, g3_s b c g2_low, g_all n (x / 256)]
    rfl
theorem cn_sh {p : Int → Bool} : ∀ (d : Nat) (i : Int), i = d → cn p (8 + i) = cn p 8 + cn (fun k => p (8 + k)) i := by
  intro d
  induction d with
  | zero => intro i hi; rw [hi]; show cn p 8 = cn p 8 + 0; omega
  | succ d ih =>
    intro i hi
    have h1 := cn_s (p := p) (i := 8 + (i - 1)) (by omega)
    have h2 := cn_s (p := fun k => p (8 + k)) (i := i - 1) (by omega)
    rw [Int.sub_add_cancel] at h2
    rw [show 8 + (i - 1) + 1 = 8 + i by omega] at h1
    rw [h1, h2, ih (i - 1) (by omega)]
    omega
theorem cn_byte {x : Nat} {i : Int} (h : 0 ≤ i) : cn (tb x) (8 + i) = bc (x % 256) + cn (tb (x / 256)) i := by
  rw [cn_sh i.toNat i (by omega)]
  congr 1
  · exact cn_congr fun k k0 k1 => by
      unfold tb
      have := Nat.testBit_mod_two_pow x 8 k.toNat
      rw [show (2 : Nat) ^ 8 = 256 from rfl] at this
      rw [this, decide_eq_true (show k.toNat < 8 by omega), Bool.true_and]
  · exact cn_congr fun k k0 k1 => by
      unfold tb
      rw [show (256 : Nat) = 2 ^ 8 from rfl, Nat.testBit_div_two_pow, show (8 + k).toNat = k.toNat + 8 by omega]
theorem fold8 {a b c d e f g h : Nat} (ha : a ≤ 8) (hb : b ≤ 8) (hc : c ≤ 8) (hd : d ≤ 8) (he : e ≤ 8) (hf : f ≤ 8) (hg : g ≤ 8) (hh : h ≤ 8) {c0 c1 c2 c3 : Nat} (h0 : c0 = a + 256 * (b + 256 * (c + 256 * (d + 256 * (e + 256 * (f + 256 * (g + 256 * (h + 256 * 0)))))))) (h1 : c1 = c0 + c0 / 256) (h2 : c2 = c1 + c1 / 65536) (h3 : c3 = c2 + c2 / 4294967296) : c3 % 128 = a + b + c + d + e + f + g + h ∧ c3 < 2 ^ 62 := by
  have d0 : c0 / 256 = b + 256 * (c + 256 * (d + 256 * (e + 256 * (f + 256 * (g + 256 * h))))) := by omega
  have e1 : c1 = (a + b) + 256 * ((b + c) + 256 * ((c + d) + 256 * ((d + e) + 256 * ((e + f) + 256 * ((f + g) + 256 * ((g + h) + 256 * h)))))) := by omega
  have d1 : c1 / 65536 = (c + d) + 256 * ((d + e) + 256 * ((e + f) + 256 * ((f + g) + 256 * ((g + h) + 256 * h)))) := by clear h1 d0 h0 h2 h3; omega
  have e2 : c2 = (a + b + c + d) + 256 * ((b + c + d + e) + 256 * ((c + d + e + f) + 256 * ((d + e + f + g) + 256 * ((e + f + g + h) + 256 * ((f + g + h) + 256 * ((g + h) + 256 * h)))))) := by clear h0 h1 d0; omega
  have d2 : c2 / 4294967296 = (e + f + g + h) + 256 * ((f + g + h) + 256 * ((g + h) + 256 * h)) := by clear h0 h1 h2 d0 e1 d1 h3; omega
  have e3 : c3 = (a + b + c + d + e + f + g + h) + 256 * ((b + c + d + e + f + g + h) + 256 * ((c + d + e + f + g + h) + 256 * ((d + e + f + g + h) + 256 * ((e + f + g + h) + 256 * ((f + g + h) + 256 * ((g + h) + 256 * h)))))) := by clear h0 h1 h2 d0 e1 d1; omega
  clear h0 h1 h2 h3 d0 e1 d1 e2 d2
  omega
end BITS
