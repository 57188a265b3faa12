/-! ELIMINATION: what its steps keep -/
section ELA
/-- columns with a pivot -/
def elP (R : Int) (s : Mx × Int × (Int → Int)) (i : Int) : Prop :=
  (∀ c, 0 ≤ c → c < i → s.2.2 c ≠ -1 → (0 ≤ s.2.2 c ∧ s.2.2 c < s.2.1) ∧ s.1 (s.2.2 c) c = 1 ∧ ∀ r, 0 ≤ r → r < R → r ≠ s.2.2 c → s.1 r c = 0) ∧ (∀ r, 0 ≤ r → r < s.2.1 → ∃ c, 0 ≤ c ∧ c < i ∧ s.2.2 c = r) ∧ (∀ c c', 0 ≤ c → c < i → 0 ≤ c' → c' < i → s.2.2 c = s.2.2 c' → s.2.2 c ≠ -1 → c = c')
/-- the three matrices of a step -/
theorem el_three {R C : Int} {s : Mx × Int × (Int → Int)} {i : Int} (hR : R ≤ 40) (h0 : 0 ≤ i) (hi : i < C) (h : elI R C s i) (hf : ¬ fnd s.1 i R 41 s.2.1 = -1) : ∃ x : Int, fnd s.1 i R 41 s.2.1 = x ∧ s.2.1 ≤ x ∧ x < R ∧ (∀ r c, 0 ≤ r → r < R → 0 ≤ c → c < C → rgP (mSwap s.1 x s.2.1 r c)) ∧ (∀ r c, s.2.1 ≤ r → r < R → 0 ≤ c → c < i → mSwap s.1 x s.2.1 r c = 0) ∧ mSwap s.1 x s.2.1 s.2.1 i ≠ 0 := by
  obtain ⟨f0, f1, f2, hA, hz, hp, hc⟩ := h
  rcases fnd_spec s.1 i R 41 s.2.1 f0 (by omega) with ⟨e, k⟩ | ⟨a, b, c, k⟩
  · exact absurd e hf
  · refine ⟨_, rfl, a, b, ?_⟩
    generalize fnd s.1 i R 41 s.2.1 = x at *
    refine ⟨fun r c h1 h2 h3 h4 => ?_, fun r c h1 h2 h3 h4 => ?_, ?_⟩
    · unfold mSwap
      split
      · exact hA _ _ f0 (by omega) h3 h4
      · split
        · exact hA _ _ (by omega) b h3 h4
        · exact hA _ _ h1 h2 h3 h4
    · unfold mSwap
      split
      · exact hz _ _ (Int.le_refl _) (by omega) h3 h4
      · split
        · exact hz _ _ a b h3 h4
        · exact hz _ _ h1 h2 h3 h4
    · unfold mSwap
      by_cases z : s.2.1 = x
      · rw [if_pos z]; rw [← z] at c; exact c
      · rw [if_neg z, if_pos rfl]; exact c
theorem elP_s {R C : Int} {s : Mx × Int × (Int → Int)} {i : Int} (hR : R ≤ 40) (h0 : 0 ≤ i) (hi : i < C) (h : elI R C s i) (hP : elP R s i) : elP R (elS R s i) (i + 1) := by
  obtain ⟨p1, p2, p3⟩ := hP
  unfold elS
  by_cases hf : fnd s.1 i R 41 s.2.1 = -1
  · rw [if_pos hf]
    refine ⟨fun c c0 c1 => ?_, fun r r0 r1 => ?_, fun c c' c0 c1 d0 d1 => ?_⟩
    · show (if c = i then (-1 : Int) else s.2.2 c) ≠ -1 → (0 ≤ (if c = i then (-1 : Int) else s.2.2 c) ∧ (if c = i then (-1 : Int) else s.2.2 c) < s.2.1) ∧ s.1 (if c = i then (-1 : Int) else s.2.2 c) c = 1 ∧ ∀ r, 0 ≤ r → r < R → r ≠ (if c = i then (-1 : Int) else s.2.2 c) → s.1 r c = 0
      by_cases q : c = i
      · rw [if_pos q]; exact fun z => absurd rfl z
      · rw [if_neg q]; exact p1 c c0 (by omega)
    · obtain ⟨c, c0, c1, c2⟩ := p2 r r0 r1
      exact ⟨c, c0, by omega, by show (if c = i then (-1 : Int) else s.2.2 c) = r; rw [if_neg (by omega)]; exact c2⟩
    · show (if c = i then (-1 : Int) else s.2.2 c) = (if c' = i then (-1 : Int) else s.2.2 c') → (if c = i then (-1 : Int) else s.2.2 c) ≠ -1 → c = c'
      by_cases q : c = i
      · rw [if_pos q]; exact fun _ z => absurd rfl z
      · rw [if_neg q]
        by_cases q2 : c' = i
        · rw [if_pos q2]; exact fun z z2 => absurd z z2
        · rw [if_neg q2]; exact p3 c c' c0 (by omega) d0 (by omega)
  · rw [if_neg hf]
    obtain ⟨x, hx, x0, x1, hB, hBz, hBp⟩ := el_three hR h0 hi h hf
    obtain ⟨f0, f1, f2, hA, hz, hp, hc⟩ := h
    rw [hx]
    have hold : ∀ c, 0 ≤ c → c < i → s.2.2 c ≠ -1 → mSwap s.1 x s.2.1 (s.2.2 c) c = 1 ∧ ∀ r, 0 ≤ r → r < R → r ≠ s.2.2 c → mSwap s.1 x s.2.1 r c = 0 := fun c c0 c1 c2 => by
      obtain ⟨⟨a0, a1⟩, a2, a3⟩ := p1 c c0 c1 c2
      refine ⟨?_, fun r r0 r1 r2 => ?_⟩
      · unfold mSwap
        rw [if_neg (by omega), if_neg (by omega)]
        exact a2
      · unfold mSwap
        split
        · exact hz _ _ (Int.le_refl _) (by omega) c0 c1
        · split
          · exact hz _ _ x0 x1 c0 c1
          · exact a3 r r0 r1 r2
    generalize mSwap s.1 x s.2.1 = B at hB hBz hBp hold ⊢
    have hK : ∀ c, 0 ≤ c → c < i → s.2.2 c ≠ -1 → mScale B s.2.1 (inv (B s.2.1 i)) (s.2.2 c) c = 1 ∧ ∀ r, 0 ≤ r → r < R → r ≠ s.2.2 c → mScale B s.2.1 (inv (B s.2.1 i)) r c = 0 := fun c c0 c1 c2 => by
      obtain ⟨b1, b2⟩ := hold c c0 c1 c2
      have a := (p1 c c0 c1 c2).1
      refine ⟨?_, fun r r0 r1 r2 => ?_⟩
      · unfold mScale
        rw [if_neg (by omega)]
        exact b1
      · unfold mScale
        rw [b2 r r0 r1 r2]
        split
        · rw [Int.zero_mul]; rfl
        · rfl
    have hKp : mScale B s.2.1 (inv (B s.2.1 i)) s.2.1 i = 1 := by
      unfold mScale
      rw [if_pos rfl]
      exact inv_mul hBp (hB _ _ f0 (by omega) h0 hi)
    generalize mScale B s.2.1 (inv (B s.2.1 i)) = D at hK hKp ⊢
    refine ⟨fun c c0 c1 => ?_, fun r r0 r1 => ?_, fun c c' c0 c1 d0 d1 => ?_⟩
    · show (if c = i then s.2.1 else s.2.2 c) ≠ -1 → (0 ≤ (if c = i then s.2.1 else s.2.2 c) ∧ (if c = i then s.2.1 else s.2.2 c) < s.2.1 + 1) ∧ mClear D s.2.1 i (if c = i then s.2.1 else s.2.2 c) c = 1 ∧ ∀ r, 0 ≤ r → r < R → r ≠ (if c = i then s.2.1 else s.2.2 c) → mClear D s.2.1 i r c = 0
      by_cases q : c = i
      · rw [if_pos q]
        refine fun _ => ⟨⟨f0, by omega⟩, ?_, fun r r0 r1 r2 => ?_⟩
        · unfold mClear
          rw [if_pos rfl, q]
          exact hKp
        · unfold mClear
          rw [if_neg r2, q, hKp, Int.mul_one, Int.sub_self]
          rfl
      · rw [if_neg q]
        intro hne
        obtain ⟨k1, k2⟩ := hK c c0 (by omega) hne
        have a := (p1 c c0 (by omega) hne).1
        have kf : D s.2.1 c = 0 := k2 _ f0 (by omega) (by omega)
        refine ⟨⟨a.1, by omega⟩, ?_, fun r r0 r1 r2 => ?_⟩
        · unfold mClear
          rw [if_neg (by omega), k1, kf, Int.mul_zero]
          rfl
        · unfold mClear
          rw [k2 r r0 r1 r2, kf, Int.mul_zero]
          split
          · rfl
          · rfl
    · by_cases q : r = s.2.1
      · exact ⟨i, h0, by omega, by show (if i = i then s.2.1 else s.2.2 i) = r; rw [if_pos rfl, q]⟩
      · have r1' : r < s.2.1 + 1 := r1
        obtain ⟨c, c0, c1, c2⟩ := p2 r r0 (by omega)
        exact ⟨c, c0, by omega, by show (if c = i then s.2.1 else s.2.2 c) = r; rw [if_neg (by omega)]; exact c2⟩
    · show (if c = i then s.2.1 else s.2.2 c) = (if c' = i then s.2.1 else s.2.2 c') → (if c = i then s.2.1 else s.2.2 c) ≠ -1 → c = c'
      by_cases q : c = i
      · rw [if_pos q]
        by_cases q2 : c' = i
        · exact fun _ _ => by rw [q, q2]
        · rw [if_neg q2]
          intro z z2
          have := (p1 c' d0 (by omega) (by omega)).1
          omega
      · rw [if_neg q]
        by_cases q2 : c' = i
        · rw [if_pos q2]
          intro z z2
          have := (p1 c c0 (by omega) z2).1
          omega
        · rw [if_neg q2]; exact p3 c c' c0 (by omega) d0 (by omega)
/-- the rows stay in a span -/
theorem elSp_s {R C M : Int} {J : Int → Bool} {w : Int → Int → Int} (hM : 0 ≤ M) {s : Mx × Int × (Int → Int)} {i : Int} (hR : R ≤ 40) (h0 : 0 ≤ i) (hi : i < C) (h : elI R C s i) (hS : ∀ r, 0 ≤ r → r < R → inSp J w M C (s.1 r)) : ∀ r, 0 ≤ r → r < R → inSp J w M C ((elS R s i).1 r) := by
  unfold elS
  by_cases hf : fnd s.1 i R 41 s.2.1 = -1
  · rw [if_pos hf]; exact hS
  · rw [if_neg hf]
    obtain ⟨x, hx, x0, x1, -, -, -⟩ := el_three hR h0 hi h hf
    obtain ⟨f0, f1, f2, -⟩ := h
    rw [hx]
    show ∀ r, 0 ≤ r → r < R → inSp J w M C (mClear (mScale (mSwap s.1 x s.2.1) s.2.1 (inv (mSwap s.1 x s.2.1 s.2.1 i))) s.2.1 i r)
    have hB : ∀ r, 0 ≤ r → r < R → inSp J w M C (mSwap s.1 x s.2.1 r) := fun r r0 r1 => by
      by_cases q : r = x
      · have e : mSwap s.1 x s.2.1 r = s.1 s.2.1 := by funext c; unfold mSwap; rw [if_pos q]
        rw [e]; exact hS _ f0 (by omega)
      · by_cases q2 : r = s.2.1
        · have e : mSwap s.1 x s.2.1 r = s.1 x := by funext c; unfold mSwap; rw [if_neg q, if_pos q2]
          rw [e]; exact hS _ (by omega) x1
        · have e : mSwap s.1 x s.2.1 r = s.1 r := by funext c; unfold mSwap; rw [if_neg q, if_neg q2]
          rw [e]; exact hS r r0 r1
    generalize mSwap s.1 x s.2.1 = B at hB ⊢
    generalize inv (B s.2.1 i) = k
    have hD : ∀ r, 0 ≤ r → r < R → inSp J w M C (mScale B s.2.1 k r) := fun r r0 r1 => by
      by_cases q : r = s.2.1
      · refine inSp_comb (a := k) (b := 0) hM (hB r r0 r1) (hB r r0 r1) fun c _ _ => ?_
        unfold mScale
        rw [if_pos q, Int.zero_mul, Int.add_zero, Int.mul_comm k]
        omega
      · have e : mScale B s.2.1 k r = B r := by funext c; unfold mScale; rw [if_neg q]
        rw [e]; exact hB r r0 r1
    generalize mScale B s.2.1 k = D at hD ⊢
    intro r r0 r1
    by_cases q : r = s.2.1
    · have e : mClear D s.2.1 i r = D r := by funext c; unfold mClear; rw [if_pos q]
      rw [e]; exact hD r r0 r1
    · refine inSp_comb (a := 1) (b := -(D r i)) hM (hD r r0 r1) (hD s.2.1 f0 (by omega)) fun c _ _ => ?_
      unfold mClear
      rw [if_neg q, Int.one_mul, Int.neg_mul]
      omega
/-- what the rows make nothing -/
def ker (R C : Int) (A : Mx) (v : Int → Int) : Prop := ∀ r, 0 ≤ r → r < R → dv (sm (fun c => A r c * v c) C)
theorem ker_clear {R C f p : Int} {D : Mx} {v : Int → Int} (hC : 0 ≤ C) (f0 : 0 ≤ f) (f1 : f < R) (h : ker R C (mClear D f p) v) : ker R C D v := by
  have hf := h f f0 f1
  have ef : sm (fun c => mClear D f p f c * v c) C = sm (fun c => D f c * v c) C := sm_congr C.toNat C (by omega) fun c _ _ => by unfold mClear; rw [if_pos rfl]
  rw [ef] at hf
  intro r r0 r1
  by_cases q : r = f
  · rw [q]; exact hf
  · have hr := h r r0 r1
    have h1 : dv (sm (fun c => mClear D f p r c * v c - (D r c * v c - D r p * (D f c * v c))) C) := sm_dvn hC fun c _ _ => by
      unfold mClear
      rw [if_neg q]
      have h2 : dv (((D r c - D r p * D f c) - (D r c - D r p * D f c) % 1000003) * v c) := dv_ml (dv_mod _)
      rw [Int.sub_mul, Int.sub_mul, Int.mul_assoc (D r p)] at h2
      omega
    rw [sm_subn hC, sm_subn hC, sm_mulc C.toNat C (by omega)] at h1
    have h3 : dv (D r p * sm (fun c => D f c * v c) C) := dv_mr hf
    omega
theorem ker_scale {R C f k u : Int} {B : Mx} {v : Int → Int} (hC : 0 ≤ C) (f0 : 0 ≤ f) (f1 : f < R) (hu : dv (u * k - 1)) (h : ker R C (mScale B f k) v) : ker R C B v := by
  intro r r0 r1
  have hr := h r r0 r1
  by_cases q : r = f
  · have h1 : dv (sm (fun c => mScale B f k r c * v c - k * (B r c * v c)) C) := sm_dvn hC fun c _ _ => by
      unfold mScale
      rw [if_pos q]
      have h2 : dv ((B r c * k - B r c * k % 1000003) * v c) := dv_ml (dv_mod _)
      rw [Int.sub_mul, Int.mul_comm (B r c) k, Int.mul_assoc] at h2
      rw [Int.mul_comm (B r c) k]
      omega
    rw [sm_subn hC, sm_mulc C.toNat C (by omega)] at h1
    have h3 : dv (k * sm (fun c => B r c * v c) C) := by omega
    refine dv_prime h3 fun hk => ?_
    have h4 : dv (u * k) := dv_mr hk
    have h5 : dv (1 : Int) := by omega
    exact dv_1 h5
  · have e : sm (fun c => mScale B f k r c * v c) C = sm (fun c => B r c * v c) C := sm_congr C.toNat C (by omega) fun c _ _ => by unfold mScale; rw [if_neg q]
    rw [e] at hr
    exact hr
theorem ker_swap {R C a b : Int} {A : Mx} {v : Int → Int} (hC : 0 ≤ C) (a0 : 0 ≤ a) (a1 : a < R) (b0 : 0 ≤ b) (b1 : b < R) (h : ker R C (mSwap A a b) v) : ker R C A v := by
  intro r r0 r1
  by_cases q : r = a
  · by_cases q2 : b = a
    · have hr := h a a0 a1
      have e : sm (fun c => mSwap A a b a c * v c) C = sm (fun c => A r c * v c) C := sm_congr C.toNat C (by omega) fun c _ _ => by unfold mSwap; rw [if_pos rfl, q2, q]
      rw [e] at hr
      exact hr
    · have hr := h b b0 b1
      have e : sm (fun c => mSwap A a b b c * v c) C = sm (fun c => A r c * v c) C := sm_congr C.toNat C (by omega) fun c _ _ => by unfold mSwap; rw [if_neg q2, if_pos rfl, q]
      rw [e] at hr
      exact hr
  · by_cases q2 : r = b
    · have hr := h a a0 a1
      have e : sm (fun c => mSwap A a b a c * v c) C = sm (fun c => A r c * v c) C := sm_congr C.toNat C (by omega) fun c _ _ => by unfold mSwap; rw [if_pos rfl, q2]
      rw [e] at hr
      exact hr
    · have hr := h r r0 r1
      have e : sm (fun c => mSwap A a b r c * v c) C = sm (fun c => A r c * v c) C := sm_congr C.toNat C (by omega) fun c _ _ => by unfold mSwap; rw [if_neg q, if_neg q2]
      rw [e] at hr
      exact hr
theorem elK_s {R C : Int} {v : Int → Int} {s : Mx × Int × (Int → Int)} {i : Int} (hR : R ≤ 40) (h0 : 0 ≤ i) (hi : i < C) (h : elI R C s i) (hk : ker R C (elS R s i).1 v) : ker R C s.1 v := by
  unfold elS at hk
  by_cases hf : fnd s.1 i R 41 s.2.1 = -1
  · rw [if_pos hf] at hk; exact hk
  · rw [if_neg hf] at hk
    obtain ⟨x, hx, x0, x1, hB, -, hBp⟩ := el_three hR h0 hi h hf
    obtain ⟨f0, f1, f2, -⟩ := h
    rw [hx] at hk
    have hC : 0 ≤ C := by omega
    have hm := inv_mul hBp (hB _ _ f0 (by omega) h0 hi)
    refine ker_swap (a := x) (b := s.2.1) hC (by omega) x1 f0 (by omega) ?_
    refine ker_scale (k := inv (mSwap s.1 x s.2.1 s.2.1 i)) (u := mSwap s.1 x s.2.1 s.2.1 i) hC f0 (by omega) (by omega) ?_
    exact ker_clear hC f0 (by omega) hk
theorem elP_all {R C : Int} {A : Mx} (hR0 : 0 ≤ R) (hR : R ≤ 40) (hA : ∀ r c, rgP (A r c)) : ∀ (d : Nat) (i : Int), i = d → i ≤ C → elP R (el R A i) i := by
  intro d
  induction d with
  | zero =>
    intro i hi _
    rw [hi]
    exact ⟨fun c _ c1 => by omega, fun r r0 r1 => absurd (show r < 0 from r1) (by omega), fun c c' _ c1 => by omega⟩
  | succ d ih =>
    intro i hi hC
    have h := elP_s (C := C) hR (show 0 ≤ i - 1 by omega) (by omega) (elI_all (C := C) hR0 hR (fun r c _ _ _ _ => hA r c) d (i - 1) (by omega) (by omega)) (ih (i - 1) (by omega) (by omega))
    rw [← el_s (by omega), Int.sub_add_cancel] at h
    exact h
theorem elSp_all {R C M : Int} {J : Int → Bool} {w : Int → Int → Int} (hM : 0 ≤ M) {A : Mx} (hR0 : 0 ≤ R) (hR : R ≤ 40) (hA : ∀ r c, rgP (A r c)) (hS : ∀ r, 0 ≤ r → r < R → inSp J w M C (A r)) : ∀ (d : Nat) (i : Int), i = d → i ≤ C → ∀ r, 0 ≤ r → r < R → inSp J w M C ((el R A i).1 r) := by
  intro d
  induction d with
  | zero => intro i hi _; rw [hi]; exact hS
  | succ d ih =>
    intro i hi hC
    have h := elSp_s (C := C) hM hR (show 0 ≤ i - 1 by omega) (by omega) (elI_all (C := C) hR0 hR (fun r c _ _ _ _ => hA r c) d (i - 1) (by omega) (by omega)) (ih (i - 1) (by omega) (by omega))
    rw [← el_s (by omega), Int.sub_add_cancel] at h
    exact h
theorem elK_all {R C : Int} {v : Int → Int} {A : Mx} (hR0 : 0 ≤ R) (hR : R ≤ 40) (hA : ∀ r c, rgP (A r c)) : ∀ (d : Nat) (i : Int), i = d → i ≤ C → ker R C (el R A i).1 v → ker R C A v := by
  intro d
  induction d with
  | zero => intro i hi _ h; rw [hi] at h; exact h
  | succ d ih =>
    intro i hi hC h
    rw [show i = i - 1 + 1 by omega, el_s (by omega)] at h
    exact ih (i - 1) (by omega) (by omega) (elK_s (C := C) hR (show 0 ≤ i - 1 by omega) (by omega) (elI_all (C := C) hR0 hR (fun r c _ _ _ _ => hA r c) d (i - 1) (by omega) (by omega)) h)
/-- a solution makes all rows nothing -/
theorem sol_ker {R C x : Int} {A : Mx} (hR0 : 0 ≤ R) (hR : R ≤ 40) (hC : 0 ≤ C) (hA : ∀ r c, rgP (A r c)) (x0 : 0 ≤ x) (x1 : x < C) (hx : (el R A C).2.2 x = -1) : ker R C A (sol (el R A C).1 (el R A C).2.2 x) := by
  refine elK_all hR0 hR hA C.toNat C (by omega) (Int.le_refl _) ?_
  obtain ⟨p1, p2, p3⟩ := elP_all (C := C) hR0 hR hA C.toNat C (by omega) (Int.le_refl _)
  obtain ⟨f0, f1, f2, hB, hz, hp, hc⟩ := elI_all (C := C) hR0 hR (fun r c _ _ _ _ => hA r c) C.toNat C (by omega) (Int.le_refl _)
  generalize el R A C = s at *
  intro r r0 r1
  by_cases q : s.2.1 ≤ r
  · refine sm_dvn hC fun c c0 c1 => ?_
    rw [hz r c q r1 c0 c1, Int.zero_mul]
    exact dv_0
  · obtain ⟨p, q0, q1, q2⟩ := p2 r r0 (by omega)
    have hpx : p ≠ x := fun e => by rw [e, hx] at q2; omega
    have e : sm (fun c => s.1 r c * sol s.1 s.2.2 x c) C = sm (fun c => (if c = p then (-(s.1 r x)) % 1000003 else 0) + (if c = x then s.1 r x else 0)) C := sm_congr C.toNat C (by omega) fun c c0 c1 => by
      unfold sol
      by_cases z : s.2.2 c = -1
      · rw [if_neg (fun y => y z)]
        have : c ≠ p := fun y => by rw [y, q2] at z; omega
        rw [if_neg this, Int.zero_add]
        by_cases z2 : c = x
        · rw [if_pos z2, if_pos z2, Int.mul_one, z2]
        · rw [if_neg z2, if_neg z2, Int.mul_zero]
      · rw [if_pos z]
        have hcx : c ≠ x := fun y => by rw [y] at z; exact z hx
        rw [if_neg hcx, Int.add_zero]
        obtain ⟨_, a2, a3⟩ := p1 c c0 c1 z
        by_cases z2 : c = p
        · rw [if_pos z2, z2, q2]
          rw [z2, q2] at a2
          rw [a2, Int.one_mul]
        · rw [if_neg z2]
          have hne : r ≠ s.2.2 c := fun y => z2 (p3 c p c0 c1 q0 q1 (by rw [← y, q2]) z)
          rw [a3 r r0 r1 hne, Int.zero_mul]
    rw [e, sm_addn hC, sm_atn (f := fun c => if c = p then (-(s.1 r x)) % 1000003 else 0) q0 q1 (fun j hj => if_neg hj), sm_atn (f := fun c => if c = x then s.1 r x else 0) x0 x1 (fun j hj => if_neg hj), if_pos rfl, if_pos rfl]
    omega
/-- the rank is no more than rows that span all -/
theorem el_rank {R C M : Int} {J : Int → Bool} {w : Int → Int → Int} (hM : 0 ≤ M) {A : Mx} (hR0 : 0 ≤ R) (hR : R ≤ 40) (hC : 0 ≤ C) (hA : ∀ r c, rgP (A r c)) (hS : ∀ r, 0 ≤ r → r < R → inSp J w M C (A r)) : (el R A C).2.1 ≤ cn J M := by
  have h1 := elSp_all hM hR0 hR hA hS C.toNat C (by omega) (Int.le_refl _)
  obtain ⟨p1, p2, p3⟩ := elP_all (C := C) hR0 hR hA C.toNat C (by omega) (Int.le_refl _)
  obtain ⟨f0, f1, f2, -⟩ := elI_all (C := C) hR0 hR (fun r c _ _ _ _ => hA r c) C.toNat C (by omega) (Int.le_refl _)
  refine rank_span hM f0 (fun r r0 r1 => h1 r r0 (by omega)) fun r r0 r1 => ?_
  obtain ⟨c, c0, c1, c2⟩ := p2 r r0 r1
  obtain ⟨_, a2, a3⟩ := p1 c c0 c1 (by omega)
  rw [c2] at a2
  refine ⟨c, c0, c1, by rw [a2]; exact dv_1, fun r' q0 q1 q2 => ?_⟩
  rw [a3 r' q0 (by omega) (by omega)]
  exact dv_0
end ELA
