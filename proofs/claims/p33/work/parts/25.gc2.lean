/-! GRID of the class: reduce, begin, add, turn, solutions -/
section GD
variable {S : St} {Qr : Int → St → Prop} {Qx : String → St → Prop}
theorem fnd_congr {A B : Mx} {p R : Int} : ∀ (n : Nat) (r : Int), 0 ≤ r → (∀ q, 0 ≤ q → q < R → A q p = B q p) → fnd A p R n r = fnd B p R n r
  | 0, _, _, _ => rfl
  | n + 1, r, h0, h => by
    unfold fnd
    by_cases q : R ≤ r
    · rw [if_pos q, if_pos q]
    · rw [if_neg q, if_neg q, h r h0 (by omega), fnd_congr n (r + 1) (by omega) h]
def meq (R C : Int) (A B : Mx) : Prop := ∀ r c, 0 ≤ r → r < R → 0 ≤ c → c < C → A r c = B r c
theorem f2_rfl {g g' : Nat} : f2 g g' S S := fun _ _ _ => rfl
theorem f2_fk {g g' : Nat} {S' S'' : St} (h : f2 g g' S S') (h2 : fk g S' S'') : f2 g g' S S'' := fun k q q2 => by rw [h2 k q, h k q q2]
theorem f2_fk' {g g' : Nat} {S' S'' : St} (h : f2 g g' S S') (h2 : fk g' S' S'') : f2 g g' S S'' := fun k q q2 => by rw [h2 k q2, h k q q2]
theorem f2_tr {g g' : Nat} {S' S'' : St} (h : f2 g g' S S') (h2 : f2 g g' S' S'') : f2 g g' S S'' := fun k q q2 => by rw [h2 k q q2, h k q q2]
theorem fk_up0 {g : Nat} {j v : Int} : fk g S (up S g j v) := fk_up fk_rfl
theorem gm_fk {g g' : Nat} {S' : St} (h : fk g' S S') (q : g ≠ g') : gm g S' = gm g S := by
  funext r c
  show S' g _ = S g _
  rw [h g q]
theorem sp_X0_reduce {R C : Int} {A : Mx} (hR : S 5 2 = R) (hR0 : 0 ≤ R) (hR40 : R ≤ 40) (hC : S 5 3 = C) (hC0 : 0 ≤ C) (hC40 : C ≤ 40) (hA : ∀ r c, 0 ≤ r → r < R → 0 ≤ c → c < C → rgP (A r c)) (hm : meq R C (gm 22 S) A) (h : ∀ S', f2 22 23 S S' → meq R C (gm 22 S') (el R A C).1 → (∀ c, 0 ≤ c → c < C → S' 23 c = (el R A C).2.2 c) → Qr (el R A C).2.1 S') : M_X0_reduce S Qr Qx := by
  refine vc_X0_reduce fun _ => ?_
  have key : ∀ (d : Nat) (i : Int) (S1 : St), 0 ≤ i → i + d = C → f2 22 23 S S1 → meq R C (gm 22 S1) (el R A i).1 → (∀ c, 0 ≤ c → c < i → S1 23 c = (el R A i).2.2 c) → R_X0_reduce_4 (el R A i).2.1 i S1 Qr Qx := by
    intro d
    induction d with
    | zero =>
      intro i S1 hi0 hi hf hm hp
      have e : i = C := by omega
      subst e
      exact vc_X0_reduce_4 fun _ _ _ => ⟨fun _ => h S1 hf hm hp, fun z => absurd z (by rw [hf 5 (by decide) (by decide), hC]; omega)⟩
    | succ d ih =>
      intro i S1 hi0 hi hf hm hp
      have hI := elI_all (C := C) hR0 hR40 hA i.toNat i (by omega) (by omega)
      have hs := el_s (R := R) (A := A) hi0
      have hnx := fun S2 => ih (i + 1) S2 (by omega) (by omega)
      rw [hs] at hnx
      generalize el R A i = s at hm hp hI hnx ⊢
      obtain ⟨i0, i1, i2, i3, i4, i5, i6⟩ := hI
      have hR1 : S1 5 2 = R := by rw [hf 5 (by decide) (by decide)]; exact hR
      have hC1 : S1 5 3 = C := by rw [hf 5 (by decide) (by decide)]; exact hC
      refine vc_X0_reduce_4 fun _ _ _ => ⟨fun z => absurd z (by omega), fun z => sp_X0_rowWith (C := C) hR1 hR40 hi0 (by omega) i0 fun _ _ => ?_⟩
      have ef : fnd (gm 22 S1) i R 41 s.2.1 = fnd s.1 i R 41 s.2.1 := fnd_congr _ _ i0 fun q q0 q1 => hm q i q0 q1 hi0 (by omega)
      rw [ef]
      unfold elS at hnx
      rcases fnd_spec s.1 i R 41 s.2.1 i0 (by omega) with ⟨e, _⟩ | ⟨a, b, c, _⟩
      · rw [if_pos e] at hnx
        rw [e]
        refine ⟨⟨by omega, by omega⟩, fun _ => ⟨⟨by omega, by omega⟩, hnx _ (f2_fk' hf fk_up0) (by rw [gm_fk fk_up0 (by decide)]; exact hm) fun c c0 c1 => ?_⟩, fun q => absurd rfl q⟩
        rw [up_at]
        show _ = if c = i then _ else _
        by_cases q : c = i
        · rw [if_pos q, if_pos q]
        · rw [if_neg q, if_neg q]; exact hp c c0 (by omega)
      · rw [if_neg (show ¬ fnd s.1 i R 41 s.2.1 = -1 by omega)] at hnx
        generalize fnd s.1 i R 41 s.2.1 = x at a b c hnx ⊢
        have hm1 : meq R C (gm 22 (up S1 23 i (-1))) s.1 := by rw [gm_fk fk_up0 (by decide)]; exact hm
        refine ⟨⟨by omega, by omega⟩, fun q => by omega, fun _ => sp_X0_swapRows (C := C) (by rw [up_ne _ (by decide)]; exact hC1) hC0 hC40 (by omega) (by omega) i0 (by omega) fun S2 hf2 hm2 _ => ?_⟩
        have hB : meq R C (gm 22 S2) (mSwap s.1 x s.2.1) := fun r c r0 r1 c0 c1 => by
          rw [hm2 r c c0 c1]
          unfold mSwap
          split
          · exact hm1 _ _ i0 (by omega) c0 c1
          · split
            · exact hm1 _ _ (by omega) b c0 c1
            · exact hm1 _ _ r0 r1 c0 c1
        have hBr : ∀ r c, 0 ≤ r → r < R → 0 ≤ c → c < C → rgP (mSwap s.1 x s.2.1 r c) := fun r c h1 h2 h3 h4 => by
          unfold mSwap
          split
          · exact i3 _ _ i0 (by omega) h3 h4
          · split
            · exact i3 _ _ (by omega) b h3 h4
            · exact i3 _ _ h1 h2 h3 h4
        have hBz : ∀ c, 0 ≤ c → c < i → mSwap s.1 x s.2.1 s.2.1 c = 0 := fun c h3 h4 => by
          unfold mSwap
          split
          · exact i4 _ _ (Int.le_refl _) (by omega) h3 h4
          · rw [if_pos rfl]
            exact i4 _ _ a b h3 h4
        generalize mSwap s.1 x s.2.1 = B at hB hBr hBz hnx
        refine sp_X0_scaleRow (C := C) (by rw [hf2 5 (by decide), up_ne _ (by decide)]; exact hC1) hC40 hi0 (by omega) i0 (by omega) (fun c c0 c1 => by rw [hB _ _ i0 (by omega) c0 c1]; exact hBr _ _ i0 (by omega) c0 c1) fun S3 hf3 hm3 _ => ?_
        have hD : meq R C (gm 22 S3) (mScale B s.2.1 (inv (B s.2.1 i))) := fun r c r0 r1 c0 c1 => by
          rw [hm3 r c c0 c1]
          unfold mScale
          rw [hB _ _ i0 (by omega) hi0 (by omega), hB r c r0 r1 c0 c1]
          by_cases q : i ≤ c
          · rw [if_pos q]
          · rw [if_neg q]
            by_cases q2 : r = s.2.1
            · rw [if_pos q2, q2, hBz c c0 (by omega), Int.zero_mul]; rfl
            · rw [if_neg q2]
        have hDr : ∀ r c, 0 ≤ r → r < R → 0 ≤ c → c < C → rgP (mScale B s.2.1 (inv (B s.2.1 i)) r c) := fun r c h1 h2 h3 h4 => by
          unfold mScale
          split
          · exact modP _
          · exact hBr _ _ h1 h2 h3 h4
        generalize mScale B s.2.1 (inv (B s.2.1 i)) = D at hD hDr hnx
        refine sp_X0_clearColumn (R := R) (C := C) (by rw [hf3 5 (by decide), hf2 5 (by decide), up_ne _ (by decide)]; exact hR1) hR0 hR40 (by rw [hf3 5 (by decide), hf2 5 (by decide), up_ne _ (by decide)]; exact hC1) hC40 hi0 (by omega) i0 (by omega) (fun r c r0 r1 c0 c1 => by rw [hD _ _ r0 r1 c0 c1]; exact hDr _ _ r0 r1 c0 c1) fun S4 hf4 hm4 _ => ?_
        have hf5 : f2 22 23 S (up S4 23 i s.2.1) := f2_fk' (f2_fk (f2_fk (f2_fk (f2_fk' hf fk_up0) hf2) hf3) hf4) fk_up0
        refine ⟨⟨by omega, by omega⟩, ⟨by omega, by omega⟩, hnx _ hf5 ?_ fun c c0 c1 => ?_⟩
        · rw [gm_fk fk_up0 (by decide)]
          intro r c r0 r1 c0 c1
          rw [hm4 r c r0 r1 c0 c1]
          show mClear _ _ _ _ _ = mClear D _ _ _ _
          unfold mClear
          rw [hD r c r0 r1 c0 c1, hD r i r0 r1 hi0 (by omega), hD _ c i0 (by omega) c0 c1]
        · rw [up_at]
          show _ = if c = i then _ else _
          by_cases q : c = i
          · rw [if_pos q, if_pos q]
          · rw [if_neg q, if_neg q, hf4 23 (by decide), hf3 23 (by decide), hf2 23 (by decide), up_at, if_neg q]
            exact hp c c0 (by omega)
  have := key C.toNat 0 S (by omega) (by omega) f2_rfl (by rw [el_0]; exact hm) (fun c c0 c1 => by omega)
  rw [el_0] at this
  exact this
theorem sp_X0_begin {a b : Int} (ha0 : 0 ≤ a) (ha : a ≤ 40) (hb0 : 0 ≤ b) (hb : b ≤ 40) (h : ∀ S', f2 22 5 S S' → S' 5 2 = a → S' 5 3 = b → (∀ j, j ≠ 2 → j ≠ 3 → S' 5 j = S 5 j) → (∀ r c, 0 ≤ r → (r < a ∨ r < b) → 0 ≤ c → (c < a ∨ c < b) → gm 22 S' r c = 0) → Qr 0 S') : M_X0_begin a b S Qr Qx := by
  refine vc_X0_begin fun _ _ _ => ?_
  have e1 : (if (40 : Int) < (if a < 0 then 0 else a) then 40 else (if a < 0 then 0 else a)) = a := by
    rw [if_neg (show ¬ a < 0 by omega), if_neg (by omega)]
  have e2 : (if (40 : Int) < (if b < 0 then 0 else b) then 40 else (if b < 0 then 0 else b)) = b := by
    rw [if_neg (show ¬ b < 0 by omega), if_neg (by omega)]
  rw [e1, e2]
  have e3 : ∃ x : Int, (if a < b then b else a) = x ∧ 0 ≤ x ∧ x ≤ 40 ∧ a ≤ x ∧ b ≤ x := by
    by_cases q : a < b
    · exact ⟨b, if_pos q, hb0, hb, by omega, by omega⟩
    · exact ⟨a, if_neg q, ha0, ha, by omega, by omega⟩
  obtain ⟨x, ex, x0, x40, xa, xb⟩ := e3
  rw [ex]
  have inner : ∀ (d : Nat) (i j : Int) (S1 : St), 0 ≤ i → i < x → 0 ≤ j → j + d = x → (∀ S2, fk 22 S1 S2 → (∀ r c, 0 ≤ r → 0 ≤ c → c < 40 → gm 22 S2 r c = if r = i ∧ j ≤ c ∧ c < x then 0 else gm 22 S1 r c) → R_X0_begin_43 x (i + 1) S2 Qr Qx) → R_X0_begin_52 x i j S1 Qr Qx := by
    intro d
    induction d with
    | zero =>
      intro i j S1 hi0 hi hj0 hj h
      exact vc_X0_begin_52 fun _ _ _ _ => ⟨fun _ => ⟨⟨by omega, by omega⟩, h S1 fk_rfl fun r c r0 c0 c1 => by rw [if_neg (by omega)]⟩, fun z => absurd z (by omega)⟩
    | succ d ih =>
      intro i j S1 hi0 hi hj0 hj h
      refine vc_X0_begin_52 fun _ _ _ _ => ⟨fun z => absurd z (by omega), fun z => ⟨⟨by omega, by omega⟩, ⟨by omega, by omega⟩, ⟨by omega, by omega⟩, ih i (j + 1) _ hi0 hi (by omega) (by omega) fun S2 hf hm => h S2 (fk_tr fk_up0 hf) fun r c r0 c0 c1 => ?_⟩⟩
      rw [hm r c r0 c0 c1, gm_up (by omega) (by omega) c0 c1]
      by_cases q : r = i ∧ j + 1 ≤ c ∧ c < x
      · rw [if_pos q, if_pos (by omega)]
      · rw [if_neg q]
        by_cases q2 : r = i ∧ c = j
        · rw [if_pos q2, if_pos (by omega)]
        · rw [if_neg q2, if_neg (by omega)]
  have outer : ∀ (d : Nat) (i : Int) (S1 : St), 0 ≤ i → i + d = x → fk 22 (up (up S 5 2 a) 5 3 b) S1 → (∀ r c, 0 ≤ r → r < i → 0 ≤ c → c < x → gm 22 S1 r c = 0) → R_X0_begin_43 x i S1 Qr Qx := by
    intro d
    induction d with
    | zero =>
      intro i S1 hi0 hi hf hm
      refine vc_X0_begin_43 fun _ _ _ => ⟨fun _ => h S1 (fun k q q2 => ?_) ?_ ?_ (fun j q q2 => ?_) (fun r c r0 r1 c0 c1 => hm r c r0 (by omega) c0 (by omega)), fun z => absurd z (by omega)⟩
      · rw [hf k q]
        funext b'
        rw [up_ne _ q2, up_ne _ q2]
      · rw [hf 5 (by decide), up_at, if_neg (by decide), up_at, if_pos rfl]
      · rw [hf 5 (by decide), up_at, if_pos rfl]
      · rw [hf 5 (by decide), up_at, if_neg q2, up_at, if_neg q]
    | succ d ih =>
      intro i S1 hi0 hi hf hm
      refine vc_X0_begin_43 fun _ _ _ => ⟨fun z => absurd z (by omega), fun _ => inner x.toNat i 0 S1 hi0 (by omega) (by omega) (by omega) fun S2 hf2 hm2 => ih (i + 1) S2 (by omega) (by omega) (fk_tr hf hf2) fun r c r0 r1 c0 c1 => ?_⟩
      rw [hm2 r c r0 c0 (by omega)]
      by_cases q : r = i ∧ 0 ≤ c ∧ c < x
      · rw [if_pos q]
      · rw [if_neg q]; exact hm r c r0 (by omega) c0 c1
  exact outer x.toNat 0 _ (by omega) (by omega) fk_rfl fun r c r0 r1 => by omega
theorem sp_X0_add {a b v : Int} (hR : S 5 2 ≤ 40) (hC : S 5 3 ≤ 40) (ha0 : 0 ≤ a) (ha : a < S 5 2) (hb0 : 0 ≤ b) (hb : b < S 5 3) (hv : r64 (gm 22 S a b + v)) (h : Qr 0 (up S 22 (40 * a + b) ((gm 22 S a b + v) % 1000003))) : M_X0_add a b v S Qr Qx :=
  vc_X0_add fun _ _ _ _ => ⟨fun z => absurd z (by omega), fun _ => ⟨fun z => absurd z (by omega), fun _ => ⟨fun z => absurd z (by omega), fun _ => ⟨fun z => absurd z (by omega), fun _ => ⟨⟨by omega, by omega⟩, ⟨by omega, by omega⟩, hv, sp_J9 fun _ _ => h⟩⟩⟩⟩⟩
/-- the k-th free column -/
def isFreeC (piv : Int → Int) (C k x : Int) : Prop := 0 ≤ x ∧ x < C ∧ piv x = -1 ∧ cn (fun c => decide (piv c = -1)) x = k
theorem cn_le {p : Int → Bool} {i : Int} (h0 : 0 ≤ i) : ∀ (d : Nat) (j : Int), j = i + d → cn p i ≤ cn p j := by
  intro d
  induction d with
  | zero => intro j hj; rw [show j = i by omega]; exact Int.le_refl _
  | succ d ih =>
    intro j hj
    have := ih (j - 1) (by omega)
    have hs := cn_s (p := p) (i := j - 1) (by omega)
    rw [Int.sub_add_cancel] at hs
    rw [hs]
    split <;> omega
theorem cn_lt {p : Int → Bool} {i j : Int} (h0 : 0 ≤ i) (h : i < j) (hp : p i = true) : cn p i < cn p j := by
  have h1 := cn_le (p := p) (i := i + 1) (by omega) (j - (i + 1)).toNat j (by omega)
  rw [cn_t h0 hp] at h1
  omega
theorem isFreeC_uniq {piv : Int → Int} {C k x y : Int} (h : isFreeC piv C k x) (h2 : isFreeC piv C k y) : x = y := by
  obtain ⟨a, b, c, d⟩ := h
  obtain ⟨a2, b2, c2, d2⟩ := h2
  rcases Int.lt_trichotomy x y with q | q | q
  · have := cn_lt (p := fun c => decide (piv c = -1)) a q (by simp [c]); omega
  · exact q
  · have := cn_lt (p := fun c => decide (piv c = -1)) a2 q (by simp [c2]); omega
theorem sp_X0_freeColumn {k C : Int} (hC : S 5 3 = C) (hC0 : 0 ≤ C) (hC40 : C ≤ 40) (hk : 0 ≤ k) (h1 : ∀ x, isFreeC (S 23) C k x → Qr x S) (h0 : cn (fun c => decide (S 23 c = -1)) C ≤ k → Qr (-1) S) : M_X0_freeColumn k S Qr Qx := by
  refine vc_X0_freeColumn fun _ _ => ?_
  have key : ∀ (d : Nat) (i : Int), 0 ≤ i → i + d = C → cn (fun c => decide (S 23 c = -1)) i ≤ k → R_X0_freeColumn_4 k (cn (fun c => decide (S 23 c = -1)) i) i S Qr Qx := by
    intro d
    induction d with
    | zero =>
      intro i hi0 hi hle
      have e : i = C := by omega
      exact vc_X0_freeColumn_4 fun _ _ _ _ => ⟨fun _ => h0 (by rw [← e]; exact hle), fun z => absurd z (by omega)⟩
    | succ d ih =>
      intro i hi0 hi hle
      have hrg := cn_rng (fun c => decide (S 23 c = -1)) hi0
      refine vc_X0_freeColumn_4 fun _ _ _ _ => ⟨fun z => absurd z (by omega), fun _ => ⟨⟨by omega, by omega⟩, fun q => ⟨⟨by omega, by omega⟩, ?_⟩, fun q => ⟨fun q2 => ⟨⟨by omega, by omega⟩, ⟨by omega, by omega⟩, ?_⟩, fun q2 => h1 i ⟨hi0, by omega, q, q2⟩⟩⟩⟩
      · have e := cn_f (p := fun c => decide (S 23 c = -1)) hi0 (by simp [q])
        have := ih (i + 1) (by omega) (by omega) (by rw [e]; exact hle)
        rw [e] at this
        exact this
      · have e := cn_t (p := fun c => decide (S 23 c = -1)) hi0 (by simp [q])
        have := ih (i + 1) (by omega) (by omega) (by rw [e]; omega)
        rw [e] at this
        exact this
  exact key C.toNat 0 (by omega) (by omega) hk
/-- what a solution has at a column -/
def sol (A : Mx) (piv : Int → Int) (x c : Int) : Int := if piv c ≠ -1 then (-(A (piv c) x)) % 1000003 else if c = x then 1 else 0
theorem sp_X0_solution {x c C R : Int} {A : Mx} {piv : Int → Int} (hC : S 5 3 = C) (hC40 : C ≤ 40) (hR40 : R ≤ 40) (hx0 : 0 ≤ x) (hx : x < C) (hc0 : 0 ≤ c) (hc : c < C) (hp : piv c = -1 ∨ (0 ≤ piv c ∧ piv c < R)) (hpx : piv x = -1) (hm : meq R C (gm 22 S) A) (hA : ∀ r c, 0 ≤ r → r < R → 0 ≤ c → c < C → rgP (A r c)) (e1 : S 23 c = piv c) (h : Qr (sol A piv x c) S) : M_X0_solution x c S Qr Qx := by
  refine vc_X0_solution fun _ _ _ => ⟨fun q => ⟨fun z => absurd z (by omega), fun _ => ⟨fun z => absurd z (by omega), fun _ => ⟨fun z => absurd z (by omega), fun _ => ⟨fun _ => ⟨⟨by omega, by omega⟩, fun q2 => ?_, fun q2 => ?_⟩, fun z => absurd z (by omega)⟩⟩⟩⟩, fun q => ?_⟩
  · rw [e1] at q2 ⊢
    rcases hp with z | ⟨p0, p1⟩
    · exact absurd z q2
    · show _ ∧ _ ∧ r64 (1000003 - gm 22 S (piv c) x) ∧ r32 (Int.tmod (1000003 - gm 22 S (piv c) x) 1000003) ∧ Qr (Int.tmod (1000003 - gm 22 S (piv c) x) 1000003) S
      rw [hm _ _ p0 p1 hx0 hx]
      have hr := hA _ _ p0 p1 hx0 hx
      unfold sol at h
      rw [if_pos q2] at h
      unfold rgP at hr
      rw [tmP (by omega), show (1000003 - A (piv c) x) % 1000003 = (-(A (piv c) x)) % 1000003 by omega]
      have hb := modP (-(A (piv c) x))
      unfold rgP at hb
      exact ⟨⟨by omega, by omega⟩, ⟨by omega, by omega⟩, ⟨by omega, by omega⟩, ⟨by omega, by omega⟩, h⟩
  · unfold sol at h
    rw [if_neg (by rw [← e1, q2]; exact fun z => z rfl), if_neg q] at h
    exact h
  · unfold sol at h
    rw [q, if_neg (by rw [hpx]; exact fun z => z rfl), if_pos rfl] at h
    exact h
end GD
