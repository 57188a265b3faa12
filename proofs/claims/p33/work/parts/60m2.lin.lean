/-! LINEAR ALGEBRA by the prime -/
section LIN
abbrev dv (x : Int) : Prop := (1000003 : Int) ∣ x
theorem dv_ml {a b : Int} (h : dv a) : dv (a * b) := by
  obtain ⟨k, rfl⟩ := h
  exact ⟨k * b, Int.mul_assoc _ _ _⟩
theorem dv_mr {a b : Int} (h : dv b) : dv (a * b) := by
  rw [Int.mul_comm]
  exact dv_ml h
theorem dv_0 : dv 0 := ⟨0, rfl⟩
theorem dv_1 : ¬ dv 1 := by decide
theorem dv_mod (a : Int) : dv (a - a % 1000003) := by omega
/-- what is not nothing has an inverse -/
theorem dv_inv {a : Int} (h : ¬ dv a) : ∃ u, dv (a * u - 1) := by
  have hr := modP a
  have h0 : a % 1000003 ≠ 0 := by omega
  have hm := inv_mul h0 hr
  refine ⟨inv (a % 1000003), ?_⟩
  have h1 : dv ((a - a % 1000003) * inv (a % 1000003)) := dv_ml (dv_mod a)
  rw [Int.sub_mul] at h1
  omega
theorem dv_prime {a b : Int} (h : dv (a * b)) (ha : ¬ dv a) : dv b := by
  obtain ⟨u, hu⟩ := dv_inv ha
  have h1 : dv ((a * b) * u) := dv_ml h
  have h2 : dv ((a * u - 1) * b) := dv_ml hu
  rw [Int.sub_mul, Int.one_mul] at h2
  have e : a * b * u = a * u * b := by rw [Int.mul_assoc, Int.mul_comm b u, ← Int.mul_assoc]
  rw [e] at h1
  omega
theorem sm_0 (f : Int → Int) : sm f 0 = 0 := rfl
theorem sm_mulc {f : Int → Int} {k : Int} : ∀ (d : Nat) (n : Int), n = d → sm (fun j => k * f j) n = k * sm f n := by
  intro d
  induction d with
  | zero => intro n hn; rw [hn]; show (0 : Int) = k * 0; rw [Int.mul_zero]
  | succ d ih =>
    intro n hn
    have h1 := sm_s (f := fun j => k * f j) (i := n - 1) (by omega)
    have h2 := sm_s (f := f) (i := n - 1) (by omega)
    rw [Int.sub_add_cancel] at h1 h2
    rw [h1, h2, ih (n - 1) (by omega), Int.mul_add]
theorem sm_mulr {f : Int → Int} {k : Int} {n : Int} (hn : 0 ≤ n) : sm (fun j => f j * k) n = sm f n * k := by
  rw [Int.mul_comm, ← sm_mulc n.toNat n (by omega)]
  exact sm_congr n.toNat n (by omega) fun j _ _ => Int.mul_comm _ _
theorem sm_addn {f g : Int → Int} {n : Int} (hn : 0 ≤ n) : sm (fun j => f j + g j) n = sm f n + sm g n := sm_add n.toNat n (by omega)
theorem sm_subn {f g : Int → Int} {n : Int} (hn : 0 ≤ n) : sm (fun j => f j - g j) n = sm f n - sm g n := by
  have h := sm_addn (f := fun j => f j - g j) (g := g) hn
  have e : sm (fun j => f j - g j + g j) n = sm f n := sm_congr n.toNat n (by omega) fun j _ _ => Int.sub_add_cancel _ _
  rw [e] at h
  omega
theorem sm_dv {f : Int → Int} : ∀ (d : Nat) (n : Int), n = d → (∀ j, 0 ≤ j → j < n → dv (f j)) → dv (sm f n) := by
  intro d
  induction d with
  | zero => intro n hn _; rw [hn]; exact dv_0
  | succ d ih =>
    intro n hn h
    have h1 := sm_s (f := f) (i := n - 1) (by omega)
    rw [Int.sub_add_cancel] at h1
    rw [h1]
    exact Int.dvd_add (ih (n - 1) (by omega) fun j j0 j1 => h j j0 (by omega)) (h (n - 1) (by omega) (by omega))
theorem sm_dvn {f : Int → Int} {n : Int} (hn : 0 ≤ n) (h : ∀ j, 0 ≤ j → j < n → dv (f j)) : dv (sm f n) := sm_dv n.toNat n (by omega) h
theorem sm_at {f : Int → Int} {x : Int} (hx : 0 ≤ x) (h : ∀ j, j ≠ x → f j = 0) : ∀ (d : Nat) (n : Int), n = d → sm f n = if x < n then f x else 0 := by
  intro d
  induction d with
  | zero => intro n hn; rw [hn, if_neg (by omega)]; rfl
  | succ d ih =>
    intro n hn
    have h1 := sm_s (f := f) (i := n - 1) (by omega)
    rw [Int.sub_add_cancel] at h1
    rw [h1, ih (n - 1) (by omega)]
    by_cases q : x = n - 1
    · rw [if_neg (by omega), if_pos (by omega), q]; omega
    · rw [h (n - 1) (fun e => q e.symm)]
      by_cases q2 : x < n
      · rw [if_pos (by omega), if_pos q2]; omega
      · rw [if_neg (by omega), if_neg q2]; omega
theorem sm_atn {f : Int → Int} {x n : Int} (hx : 0 ≤ x) (hn : x < n) (h : ∀ j, j ≠ x → f j = 0) : sm f n = f x := by
  have := sm_at hx h n.toNat n (by omega)
  rw [if_pos hn] at this
  exact this
/-- within a range alone -/
theorem sm_atr {f : Int → Int} {x n : Int} (hx : 0 ≤ x) (hn : x < n) (h : ∀ j, 0 ≤ j → j < n → j ≠ x → f j = 0) : sm f n = f x := by
  have e : sm f n = sm (fun j => if j = x then f x else 0) n := sm_congr n.toNat n (by omega) fun j j0 j1 => by
    by_cases q : j = x
    · rw [q, if_pos rfl]
    · rw [if_neg q]; exact h j j0 j1 q
  rw [e, sm_atn (f := fun j => if j = x then f x else 0) hx hn (fun j q => if_neg q), if_pos rfl]
theorem sm_swap {g : Int → Int → Int} {M : Int} (hM : 0 ≤ M) : ∀ (d : Nat) (n : Int), n = d → sm (fun r => sm (fun s => g r s) M) n = sm (fun s => sm (fun r => g r s) n) M := by
  intro d
  induction d with
  | zero =>
    intro n hn
    rw [hn]
    have h := sm_eq (f := fun s => sm (fun r => g r s) 0) (c := 0) M.toNat M (by omega) (fun j _ _ => rfl)
    rw [Int.mul_zero] at h
    exact h.symm
  | succ d ih =>
    intro n hn
    have h1 := sm_s (f := fun r => sm (fun s => g r s) M) (i := n - 1) (by omega)
    rw [Int.sub_add_cancel] at h1
    rw [h1, ih (n - 1) (by omega), ← sm_addn hM]
    refine sm_congr M.toNat M (by omega) fun s _ _ => ?_
    have h2 := sm_s (f := fun r => g r s) (i := n - 1) (by omega)
    rw [Int.sub_add_cancel] at h2
    exact h2.symm
/-- more vectors than places: some depend -/
theorem dep {M : Int} (hM : 0 ≤ M) : ∀ (d : Nat) (C : Int) (T J : Int → Bool) (w : Int → Int → Int), C = d → cn T C < cn J M → ∃ l : Int → Int, (∀ s, J s = false → l s = 0) ∧ (∃ s, 0 ≤ s ∧ s < M ∧ ¬ dv (l s)) ∧ ∀ c, 0 ≤ c → c < C → T c = true → dv (sm (fun s => l s * w s c) M) := by
  intro d
  induction d with
  | zero =>
    intro C T J w hC h
    have h0 : 0 < cn J M := by
      have := (cn_rng T (i := C) (by omega)).1
      omega
    obtain ⟨x, x0, x1, x2, _⟩ := cn_ex (p := J) (k := 0) (by decide) M.toNat M (by omega) h0
    refine ⟨fun s => if s = x then 1 else 0, fun s hs => if_neg (fun e => by rw [e, x2] at hs; exact absurd hs (by decide)), ⟨x, x0, x1, by show ¬ dv (if x = x then (1 : Int) else 0); rw [if_pos rfl]; exact dv_1⟩, fun c c0 c1 _ => by omega⟩
  | succ d ih =>
    intro C T J w hC h
    have hs := cn_s (p := T) (i := C - 1) (by omega)
    rw [Int.sub_add_cancel] at hs
    cases hT : T (C - 1)
    · rw [hT, if_neg (by decide)] at hs
      obtain ⟨l, l1, l2, l3⟩ := ih (C - 1) T J w (by omega) (by omega)
      refine ⟨l, l1, l2, fun c c0 c1 hc => l3 c c0 ?_ hc⟩
      by_cases e : c = C - 1
      · rw [e, hT] at hc; exact absurd hc (by decide)
      · omega
    · rw [hT, if_pos rfl] at hs
      by_cases q : ∃ x, 0 ≤ x ∧ x < M ∧ J x = true ∧ ¬ dv (w x (C - 1))
      · obtain ⟨x, x0, x1, x2, x3⟩ := q
        obtain ⟨u, hu⟩ := dv_inv x3
        have hJ := cn_chg20 (p := J) (q := fun s => J s && !decide (s = x)) x0 x1 (fun k hk => by show (J k && !decide (k = x)) = J k; rw [decide_eq_false hk]; cases J k <;> rfl)
        have ex : (J x && !decide (x = x)) = false := by rw [decide_eq_true rfl, x2]; rfl
        rw [ex, x2] at hJ
        have b1 : bi true = 1 := rfl
        have b0 : bi false = 0 := rfl
        obtain ⟨l, l1, ⟨s, s0, s1, s2⟩, l3⟩ := ih (C - 1) T (fun s => J s && !decide (s = x)) (fun s c => w s c - w s (C - 1) * u * w x c) (by omega) (by omega)
        have lx : l x = 0 := l1 x ex
        -- the sum over the others, put at x
        have key : ∀ c, sm (fun s => (if s = x then -(sm (fun s => l s * (w s (C - 1) * u)) M) else l s) * w s c) M = sm (fun s => l s * (w s c - w s (C - 1) * u * w x c)) M := fun c => by
          have e1 : sm (fun s => (if s = x then -(sm (fun s => l s * (w s (C - 1) * u)) M) else l s) * w s c) M = sm (fun s => l s * w s c + (if s = x then -(sm (fun s => l s * (w s (C - 1) * u)) M) * w x c else 0)) M := sm_congr M.toNat M (by omega) fun s _ _ => by
            by_cases e : s = x
            · rw [if_pos e, if_pos e, e, lx, Int.zero_mul, Int.zero_add]
            · rw [if_neg e, if_neg e, Int.add_zero]
          have e2 : sm (fun s => l s * (w s c - w s (C - 1) * u * w x c)) M = sm (fun s => l s * w s c - l s * (w s (C - 1) * u) * w x c) M := sm_congr M.toNat M (by omega) fun s _ _ => by
            rw [Int.mul_sub, ← Int.mul_assoc (l s)]
          rw [e1, e2, sm_addn hM, sm_subn hM, sm_atn (f := fun s => if s = x then -(sm (fun s => l s * (w s (C - 1) * u)) M) * w x c else 0) x0 x1 (fun j hj => if_neg hj), if_pos rfl, sm_mulr hM, Int.neg_mul]
          omega
        refine ⟨fun s => if s = x then -(sm (fun s => l s * (w s (C - 1) * u)) M) else l s, fun s hs => ?_, ⟨s, s0, s1, ?_⟩, fun c c0 c1 hc => ?_⟩
        · have hne : s ≠ x := fun e => by rw [e, x2] at hs; exact absurd hs (by decide)
          show (if s = x then _ else l s) = 0
          rw [if_neg hne]
          exact l1 s (by show (J s && !decide (s = x)) = false; rw [hs]; rfl)
        · have hne : s ≠ x := fun e => s2 (by rw [e, lx]; exact dv_0)
          show ¬ dv (if s = x then _ else l s)
          rw [if_neg hne]
          exact s2
        · rw [key c]
          by_cases e : c = C - 1
          · rw [e]
            refine sm_dvn hM fun s _ _ => dv_mr ?_
            have h1 : dv (w s (C - 1) * (w x (C - 1) * u - 1)) := dv_mr hu
            rw [Int.mul_sub, Int.mul_one, ← Int.mul_assoc] at h1
            have h2 : w s (C - 1) * w x (C - 1) * u = w s (C - 1) * u * w x (C - 1) := by rw [Int.mul_assoc, Int.mul_comm (w x (C - 1)) u, ← Int.mul_assoc]
            rw [h2] at h1
            omega
          · exact l3 c c0 (by omega) hc
      · obtain ⟨l, l1, l2, l3⟩ := ih (C - 1) T J w (by omega) (by omega)
        refine ⟨l, l1, l2, fun c c0 c1 hc => ?_⟩
        by_cases e : c = C - 1
        · refine sm_dvn hM fun s s0 s1 => ?_
          cases hJ : J s
          · rw [l1 s hJ, Int.zero_mul]; exact dv_0
          · refine dv_mr ?_
            rw [e]
            by_cases z : dv (w s (C - 1))
            · exact z
            · exact absurd ⟨s, s0, s1, hJ, z⟩ q
        · exact l3 c c0 (by omega) hc
/-- rows that don't depend; what they span -/
def indep (J : Int → Bool) (w : Int → Int → Int) (M C : Int) : Prop := ∀ l : Int → Int, (∀ s, J s = false → l s = 0) → (∀ c, 0 ≤ c → c < C → dv (sm (fun s => l s * w s c) M)) → ∀ s, 0 ≤ s → s < M → dv (l s)
def inSp (J : Int → Bool) (w : Int → Int → Int) (M C : Int) (v : Int → Int) : Prop := ∃ l : Int → Int, (∀ s, J s = false → l s = 0) ∧ ∀ c, 0 ≤ c → c < C → dv (v c - sm (fun s => l s * w s c) M)
theorem inSp_comb {J : Int → Bool} {w : Int → Int → Int} {M C : Int} (hM : 0 ≤ M) {u v x : Int → Int} {a b : Int} (hu : inSp J w M C u) (hv : inSp J w M C v) (h : ∀ c, 0 ≤ c → c < C → dv (x c - (a * u c + b * v c))) : inSp J w M C x := by
  obtain ⟨l, l1, l2⟩ := hu
  obtain ⟨k, k1, k2⟩ := hv
  refine ⟨fun s => a * l s + b * k s, fun s hs => by show a * l s + b * k s = 0; rw [l1 s hs, k1 s hs, Int.mul_zero, Int.mul_zero]; rfl, fun c c0 c1 => ?_⟩
  have e : sm (fun s => (a * l s + b * k s) * w s c) M = a * sm (fun s => l s * w s c) M + b * sm (fun s => k s * w s c) M := by
    rw [← sm_mulc M.toNat M (by omega), ← sm_mulc M.toNat M (by omega), ← sm_addn hM]
    exact sm_congr M.toNat M (by omega) fun s _ _ => by rw [Int.add_mul, Int.mul_assoc, Int.mul_assoc]
  rw [e]
  have h1 : dv (a * (u c - sm (fun s => l s * w s c) M)) := dv_mr (l2 c c0 c1)
  have h2 : dv (b * (v c - sm (fun s => k s * w s c) M)) := dv_mr (k2 c c0 c1)
  rw [Int.mul_sub] at h1 h2
  have h3 := h c c0 c1
  omega
theorem inSp_mono {J J' : Int → Bool} {w : Int → Int → Int} {M C : Int} {v : Int → Int} (h : ∀ s, J s = true → J' s = true) (hv : inSp J w M C v) : inSp J' w M C v := by
  obtain ⟨l, l1, l2⟩ := hv
  refine ⟨l, fun s hs => l1 s ?_, l2⟩
  cases q : J s
  · rfl
  · rw [h s q] at hs; exact absurd hs (by decide)
theorem inSp_self {J : Int → Bool} {w : Int → Int → Int} {M C s : Int} (s0 : 0 ≤ s) (s1 : s < M) (h : J s = true) : inSp J w M C (w s) := by
  refine ⟨fun t => if t = s then 1 else 0, fun t ht => if_neg (fun e => by rw [e, h] at ht; exact absurd ht (by decide)), fun c _ _ => ?_⟩
  have e : sm (fun t => (if t = s then (1 : Int) else 0) * w t c) M = (if s = s then (1 : Int) else 0) * w s c := sm_atn (f := fun t => (if t = s then (1 : Int) else 0) * w t c) s0 s1 (fun j hj => by rw [if_neg hj, Int.zero_mul])
  rw [e, if_pos rfl, Int.one_mul, Int.sub_self]
  exact dv_0
/-- some rows that don't depend span all that are asked -/
theorem basis (E : Int → Bool) (w : Int → Int → Int) {M C : Int} (hM : 0 ≤ M) : ∀ (d : Nat) (i : Int), i = d → i ≤ M → ∃ J : Int → Bool, (∀ s, J s = true → 0 ≤ s ∧ s < i ∧ E s = true) ∧ indep J w M C ∧ ∀ s, 0 ≤ s → s < i → E s = true → inSp J w M C (w s) := by
  intro d
  induction d with
  | zero =>
    intro i hi _
    exact ⟨fun _ => false, fun s hs => Bool.noConfusion hs, fun l hl _ s _ _ => by rw [hl s rfl]; exact dv_0, fun s s0 s1 => by omega⟩
  | succ d ih =>
    intro i hi hm
    obtain ⟨J, j1, j2, j3⟩ := ih (i - 1) (by omega) (by omega)
    by_cases hE : E (i - 1) = true
    · have jn : J (i - 1) = false := by
        cases q : J (i - 1)
        · rfl
        · have := j1 _ q; omega
      by_cases hI : indep (fun s => J s || decide (s = i - 1)) w M C
      · refine ⟨fun s => J s || decide (s = i - 1), fun s hs => ?_, hI, fun s s0 s1 hs => ?_⟩
        · rw [Bool.or_eq_true] at hs
          rcases hs with hs | hs
          · obtain ⟨a, b, c⟩ := j1 s hs
            exact ⟨a, by omega, c⟩
          · have e := of_decide_eq_true hs
            exact ⟨by omega, by omega, by rw [e]; exact hE⟩
        · by_cases e : s = i - 1
          · exact inSp_self s0 (by omega) (by rw [decide_eq_true e, Bool.or_true])
          · exact inSp_mono (fun t ht => by rw [ht]; rfl) (j3 s s0 (by omega) hs)
      · -- it depends
        have hx : ∃ l : Int → Int, (∀ s, (J s || decide (s = i - 1)) = false → l s = 0) ∧ (∀ c, 0 ≤ c → c < C → dv (sm (fun s => l s * w s c) M)) ∧ ∃ s, 0 ≤ s ∧ s < M ∧ ¬ dv (l s) := by
          by_cases q : ∃ l : Int → Int, (∀ s, (J s || decide (s = i - 1)) = false → l s = 0) ∧ (∀ c, 0 ≤ c → c < C → dv (sm (fun s => l s * w s c) M)) ∧ ∃ s, 0 ≤ s ∧ s < M ∧ ¬ dv (l s)
          · exact q
          · refine absurd (fun l l1 l2 s s0 s1 => ?_) hI
            by_cases z : dv (l s)
            · exact z
            · exact absurd ⟨l, l1, l2, s, s0, s1, z⟩ q
        obtain ⟨l, l1, l2, s, s0, s1, s2⟩ := hx
        have hsp : ∀ c, sm (fun t => l t * w t c) M = sm (fun t => (if t = i - 1 then 0 else l t) * w t c) M + l (i - 1) * w (i - 1) c := fun c => by
          have e : sm (fun t => l t * w t c) M = sm (fun t => (if t = i - 1 then 0 else l t) * w t c + (if t = i - 1 then l (i - 1) * w (i - 1) c else 0)) M := sm_congr M.toNat M (by omega) fun t _ _ => by
            by_cases q : t = i - 1
            · rw [if_pos q, if_pos q, q, Int.zero_mul, Int.zero_add]
            · rw [if_neg q, if_neg q, Int.add_zero]
          rw [e, sm_addn hM, sm_atn (f := fun t => if t = i - 1 then l (i - 1) * w (i - 1) c else 0) (x := i - 1) (by omega) (by omega) (fun j hj => if_neg hj), if_pos rfl]
        have hsup : ∀ t, J t = false → (if t = i - 1 then 0 else l t) = 0 := fun t ht => by
          by_cases q : t = i - 1
          · rw [if_pos q]
          · rw [if_neg q]; exact l1 t (by rw [ht, decide_eq_false q]; rfl)
        have hne : ¬ dv (l (i - 1)) := fun hz => by
          have h3 := j2 (fun t => if t = i - 1 then 0 else l t) hsup (fun c c0 c1 => by
            have h4 := l2 c c0 c1
            rw [hsp c] at h4
            have h5 : dv (l (i - 1) * w (i - 1) c) := dv_ml hz
            have h6 := Int.dvd_sub h4 h5
            rw [Int.add_sub_cancel] at h6
            exact h6) s s0 s1
          by_cases q : s = i - 1
          · rw [q] at s2; exact s2 hz
          · rw [if_neg q] at h3; exact s2 h3
        obtain ⟨u, hu⟩ := dv_inv hne
        refine ⟨J, fun s hs => ?_, j2, fun s s0 s1 hs => ?_⟩
        · obtain ⟨a, b, c⟩ := j1 s hs
          exact ⟨a, by omega, c⟩
        · by_cases e : s = i - 1
          · rw [e]
            refine ⟨fun t => -u * (if t = i - 1 then 0 else l t), fun t ht => by show -u * (if t = i - 1 then 0 else l t) = 0; rw [hsup t ht, Int.mul_zero], fun c c0 c1 => ?_⟩
            have e2 : sm (fun t => -u * (if t = i - 1 then 0 else l t) * w t c) M = -u * sm (fun t => (if t = i - 1 then 0 else l t) * w t c) M := by
              rw [← sm_mulc M.toNat M (by omega)]
              exact sm_congr M.toNat M (by omega) fun t _ _ => Int.mul_assoc _ _ _
            rw [e2]
            have h4 : dv (u * sm (fun t => l t * w t c) M) := dv_mr (l2 c c0 c1)
            rw [hsp c, Int.mul_add] at h4
            have h5 : dv ((l (i - 1) * u - 1) * w (i - 1) c) := dv_ml hu
            rw [Int.sub_mul, Int.one_mul, Int.mul_comm (l (i - 1)) u, Int.mul_assoc] at h5
            rw [Int.neg_mul]
            omega
          · exact j3 s s0 (by omega) hs
    · refine ⟨J, fun s hs => ?_, j2, fun s s0 s1 hs => ?_⟩
      · obtain ⟨a, b, c⟩ := j1 s hs
        exact ⟨a, by omega, c⟩
      · refine j3 s s0 ?_ hs
        by_cases e : s = i - 1
        · rw [e] at hs; exact absurd hs hE
        · omega
/-- rows with a place of their own each, all in the span of some others: no more than these -/
theorem rank_span {J : Int → Bool} {w : Int → Int → Int} {M C f : Int} (hM : 0 ≤ M) (hf : 0 ≤ f) {B : Int → Int → Int} (hB : ∀ r, 0 ≤ r → r < f → inSp J w M C (B r)) (hp : ∀ r, 0 ≤ r → r < f → ∃ c, 0 ≤ c ∧ c < C ∧ ¬ dv (B r c) ∧ ∀ r', 0 ≤ r' → r' < f → r' ≠ r → dv (B r' c)) : f ≤ cn J M := by
  by_cases q : f ≤ cn J M
  · exact q
  · exfalso
    have hch : ∃ a : Int → Int → Int, ∀ r, 0 ≤ r → r < f → (∀ s, J s = false → a r s = 0) ∧ ∀ c, 0 ≤ c → c < C → dv (B r c - sm (fun s => a r s * w s c) M) := by
      have : ∀ r : Int, ∃ l : Int → Int, 0 ≤ r → r < f → (∀ s, J s = false → l s = 0) ∧ ∀ c, 0 ≤ c → c < C → dv (B r c - sm (fun s => l s * w s c) M) := fun r => by
        by_cases z : 0 ≤ r ∧ r < f
        · obtain ⟨l, l1, l2⟩ := hB r z.1 z.2
          exact ⟨l, fun _ _ => ⟨l1, l2⟩⟩
        · exact ⟨fun _ => 0, fun a b => absurd ⟨a, b⟩ z⟩
      exact ⟨fun r => (this r).choose, fun r => (this r).choose_spec⟩
    obtain ⟨a, ha⟩ := hch
    have hct : cn (fun _ => true) f = f := by
      have key : ∀ (d : Nat) (i : Int), i = d → cn (fun _ => true) i = i := by
        intro d
        induction d with
        | zero => intro i hi; rw [hi]; rfl
        | succ d ih =>
          intro i hi
          have := cn_t (p := fun _ => true) (i := i - 1) (by omega) rfl
          rw [Int.sub_add_cancel] at this
          rw [this, ih (i - 1) (by omega)]; omega
      exact key f.toNat f (by omega)
    obtain ⟨l, _, ⟨r, r0, r1, r2⟩, l3⟩ := dep hf M.toNat M J (fun _ => true) a (by omega) (by rw [hct]; omega)
    obtain ⟨c, c0, c1, c2, c3⟩ := hp r r0 r1
    -- the rows summed up are nothing at c
    have h1 : dv (sm (fun t => l t * sm (fun s => a t s * w s c) M) f) := by
      have e : sm (fun t => l t * sm (fun s => a t s * w s c) M) f = sm (fun s => sm (fun t => l t * a t s) f * w s c) M := by
        have e1 : sm (fun t => l t * sm (fun s => a t s * w s c) M) f = sm (fun t => sm (fun s => l t * (a t s * w s c)) M) f := sm_congr f.toNat f (by omega) fun t _ _ => (sm_mulc M.toNat M (by omega)).symm
        rw [e1, sm_swap hM f.toNat f (by omega)]
        refine sm_congr M.toNat M (by omega) fun s _ _ => ?_
        rw [← sm_mulr hf]
        exact sm_congr f.toNat f (by omega) fun t _ _ => (Int.mul_assoc _ _ _).symm
      rw [e]
      refine sm_dvn hM fun s s0 s1 => dv_ml ?_
      cases hJ : J s
      · refine sm_dvn hf fun t t0 t1 => ?_
        rw [(ha t t0 t1).1 s hJ, Int.mul_zero]
        exact dv_0
      · exact l3 s s0 s1 hJ
    have h2 : dv (sm (fun t => l t * B t c) f) := by
      have h3 : dv (sm (fun t => l t * (B t c - sm (fun s => a t s * w s c) M)) f) := sm_dvn hf fun t t0 t1 => dv_mr ((ha t t0 t1).2 c c0 c1)
      have e : sm (fun t => l t * (B t c - sm (fun s => a t s * w s c) M)) f = sm (fun t => l t * B t c - l t * sm (fun s => a t s * w s c) M) f := sm_congr f.toNat f (by omega) fun t _ _ => Int.mul_sub _ _ _
      rw [e, sm_subn hf] at h3
      omega
    have h4 : dv (sm (fun t => l t * B t c - (if t = r then l r * B r c else 0)) f) := sm_dvn hf fun t t0 t1 => by
      by_cases e : t = r
      · rw [if_pos e, e, Int.sub_self]; exact dv_0
      · rw [if_neg e, Int.sub_zero]; exact dv_mr (c3 t t0 t1 e)
    rw [sm_subn hf, sm_atn (f := fun t => if t = r then l r * B r c else 0) r0 r1 (fun j hj => if_neg hj), if_pos rfl] at h4
    have h5 : dv (l r * B r c) := by omega
    rw [Int.mul_comm] at h5
    exact r2 (dv_prime h5 c2)
end LIN
