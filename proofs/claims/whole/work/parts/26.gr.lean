/-! GRID: the turn of the class; the reference's elimination -/
section GE
variable {S : St} {Qr : Int → St → Prop} {Qx : String → St → Prop}
theorem sp_X0_turn {x : Int} (h2 : S 5 2 ≤ x) (h3 : S 5 3 ≤ x) (hx : (if S 5 2 < S 5 3 then S 5 3 else S 5 2) = x) (hx0 : 0 ≤ x) (hx40 : x ≤ 40) (h : ∀ S', f2 22 5 S S' → S' 5 2 = S 5 3 → S' 5 3 = S 5 2 → (∀ j, j ≠ 2 → j ≠ 3 → S' 5 j = S 5 j) → (∀ r c, 0 ≤ r → r < x → 0 ≤ c → c < x → gm 22 S' r c = gm 22 S c r) → Qr 0 S') : M_X0_turn S Qr Qx := by
  refine vc_X0_turn fun _ => ?_
  rw [hx]
  have inner : ∀ (d : Nat) (i j : Int) (S1 : St), 0 ≤ i → i < x → 0 ≤ j → j + d = i → fk 22 S S1 → (∀ r c, 0 ≤ r → r < 40 → 0 ≤ c → c < 40 → gm 22 S1 r c = if (r < i ∧ c < i) ∨ (r = i ∧ c < j) ∨ (c = i ∧ r < j) then gm 22 S c r else gm 22 S r c) → (∀ S2, fk 22 S S2 → (∀ r c, 0 ≤ r → r < 40 → 0 ≤ c → c < 40 → gm 22 S2 r c = if r < i + 1 ∧ c < i + 1 then gm 22 S c r else gm 22 S r c) → R_X0_turn_14 x (i + 1) S2 Qr Qx) → R_X0_turn_21 x i j S1 Qr Qx := by
    intro d
    induction d with
    | zero =>
      intro i j S1 hi0 hi hj0 hj hf hm h
      refine vc_X0_turn_21 fun _ _ _ _ => ⟨fun _ => ⟨⟨by omega, by omega⟩, h S1 hf fun r c r0 r1 c0 c1 => ?_⟩, fun z => absurd z (by omega)⟩
      rw [hm r c r0 r1 c0 c1]
      by_cases q : r < i + 1 ∧ c < i + 1
      · rw [if_pos q]
        by_cases q2 : r = i ∧ c = i
        · rw [q2.1, q2.2]; split <;> rfl
        · rw [if_pos (by omega)]
      · rw [if_neg q, if_neg (by omega)]
    | succ d ih =>
      intro i j S1 hi0 hi hj0 hj hf hm h
      refine vc_X0_turn_21 fun _ _ _ _ => ⟨fun z => absurd z (by omega), fun z => ⟨⟨by omega, by omega⟩, ⟨by omega, by omega⟩, ⟨by omega, by omega⟩, ih i (j + 1) _ hi0 hi (by omega) (by omega) (fk_up (fk_up hf)) (fun r c r0 r1 c0 c1 => ?_) h⟩⟩
      have e1 : S1 22 (40 * i + j) = gm 22 S i j := by
        have := hm i j hi0 (by omega) hj0 (by omega)
        rw [if_neg (by omega)] at this
        exact this
      have e2 : S1 22 (40 * j + i) = gm 22 S j i := by
        have := hm j i hj0 (by omega) hi0 (by omega)
        rw [if_neg (by omega)] at this
        exact this
      rw [gm_up hi0 (by omega) c0 c1, gm_up hj0 (by omega) c0 c1, hm r c r0 r1 c0 c1, e1, e2]
      by_cases q : r = j ∧ c = i
      · rw [if_pos q, if_pos (by omega), q.1, q.2]
      · rw [if_neg q]
        by_cases q2 : r = i ∧ c = j
        · rw [if_pos q2, if_pos (by omega), q2.1, q2.2]
        · rw [if_neg q2]
          by_cases q3 : (r < i ∧ c < i) ∨ (r = i ∧ c < j) ∨ (c = i ∧ r < j)
          · rw [if_pos q3, if_pos (by omega)]
          · rw [if_neg q3, if_neg (by omega)]
  have outer : ∀ (d : Nat) (i : Int) (S1 : St), 0 ≤ i → i + d = x → fk 22 S S1 → (∀ r c, 0 ≤ r → r < 40 → 0 ≤ c → c < 40 → gm 22 S1 r c = if r < i ∧ c < i then gm 22 S c r else gm 22 S r c) → R_X0_turn_14 x i S1 Qr Qx := by
    intro d
    induction d with
    | zero =>
      intro i S1 hi0 hi hf hm
      refine vc_X0_turn_14 fun _ _ _ => ⟨fun _ => h _ (fun k q q2 => ?_) ?_ ?_ (fun j q q2 => ?_) (fun r c r0 r1 c0 c1 => ?_), fun z => absurd z (by omega)⟩
      · rw [← hf k q]
        funext b'
        rw [up_ne _ q2, up_ne _ q2]
      · rw [up_at, if_neg (by decide), up_at, if_pos rfl, hf 5 (by decide)]
      · rw [up_at, if_pos rfl, hf 5 (by decide)]
      · rw [up_at, if_neg q2, up_at, if_neg q, hf 5 (by decide)]
      · have e : gm 22 (up (up S1 5 2 (S1 5 3)) 5 3 (S1 5 2)) = gm 22 S1 := by
          funext r c
          unfold gm
          rw [up_ne _ (by decide), up_ne _ (by decide)]
        rw [e, hm r c r0 (by omega) c0 (by omega), if_pos (by omega)]
    | succ d ih =>
      intro i S1 hi0 hi hf hm
      refine vc_X0_turn_14 fun _ _ _ => ⟨fun z => absurd z (by omega), fun _ => inner i.toNat i 0 S1 hi0 (by omega) (by omega) (by omega) hf (fun r c r0 r1 c0 c1 => ?_) fun S2 hf2 hm2 => ih (i + 1) S2 (by omega) (by omega) hf2 hm2⟩
      rw [hm r c r0 r1 c0 c1]
      by_cases q : r < i ∧ c < i
      · rw [if_pos q, if_pos (by omega)]
      · rw [if_neg q, if_neg (by omega)]
  refine outer x.toNat 0 S (by omega) (by omega) fk_rfl fun r c r0 r1 c0 c1 => ?_
  rw [if_neg (by omega)]
theorem sp_X7_inverse {a : Int} (ha : rgP a) (h : Qr (inv a) S) : M_X7_inverse a S Qr Qx := by
  refine vc_X7_inverse fun _ _ => ?_
  have key : ∀ (n : Nat) (p q : Int) (l : Nat), rgP p → rgP q → l < 2 ^ n → l < 2 ^ 31 → Qr (ivr n p q l) S → R_X7_inverse_10 p q (l : Int) S Qr Qx := by
    intro n
    induction n with
    | zero =>
      intro p q l hp hq hl _ h
      exact vc_X7_inverse_10 fun _ _ _ _ => ⟨fun _ => h, fun z => absurd z (by omega)⟩
    | succ n ih =>
      intro p q l hp hq hl hl3 h
      have hl2 : l / 2 < 2 ^ n := by rw [Nat.pow_succ] at hl; omega
      have mpq := mulP hp hq
      have mqq := mulP hq hq
      have e1 : Int.tmod (l : Int) 2 = ((l % 2 : Nat) : Int) := by
        rw [Int.tmod_eq_emod_of_nonneg (by omega)]; omega
      have e2 : Int.tdiv (l : Int) 2 = ((l / 2 : Nat) : Int) := by
        rw [Int.tdiv_eq_ediv_of_nonneg (by omega)]; omega
      have b1 := modP (p * q)
      have b2 := modP (q * q)
      have b1' := b1
      have b2' := b2
      unfold rgP at b1' b2'
      refine vc_X7_inverse_10 fun _ _ _ _ => ⟨fun z => ?_, fun z => ?_⟩
      · have : l = 0 := by omega
        subst this
        exact h
      · rw [inv_step (by omega)] at h
        rw [e1, e2, tmP mpq.1, tmP mqq.1]
        refine ⟨⟨by omega, by omega⟩, fun k => ⟨⟨by omega, by omega⟩, ⟨by omega, by omega⟩, ⟨by omega, by omega⟩, ?_⟩, fun k => ⟨⟨by omega, by omega⟩, ⟨by omega, by omega⟩, ⟨by omega, by omega⟩, ⟨by omega, by omega⟩, ⟨by omega, by omega⟩, ?_⟩⟩
        · rw [if_neg (by omega)] at h
          exact ih _ _ _ hp b2 hl2 (by omega) h
        · rw [if_pos (by omega)] at h
          exact ih _ _ _ b1 b2 hl2 (by omega) h
  exact key 21 1 a 1000001 ⟨by decide, by decide⟩ ha (by decide) (by decide) h
theorem sp_X7_swaps {a b : Int} (ha0 : 0 ≤ a) (ha : a < 40) (hb0 : 0 ≤ b) (hb : b < 40) (h : ∀ S', fk 17 S S' → (∀ r c, 0 ≤ c → c < 40 → gm 17 S' r c = mSwap (gm 17 S) a b r c) → Qr 0 S') : M_X7_swaps a b S Qr Qx := by
  refine vc_X7_swaps fun _ _ _ => ?_
  have key : ∀ (d : Nat) (j : Int) (S1 : St), 0 ≤ j → j + d = 40 → fk 17 S S1 → (∀ r c, 0 ≤ c → c < 40 → gm 17 S1 r c = if c < j then mSwap (gm 17 S) a b r c else gm 17 S r c) → R_X7_swaps_2 a b j S1 Qr Qx := by
    intro d
    induction d with
    | zero =>
      intro j S1 hj0 hj hf hm
      refine vc_X7_swaps_2 fun _ _ _ _ => ⟨fun _ => h S1 hf fun r c c0 c1 => ?_, fun z => absurd z (by omega)⟩
      rw [hm r c c0 c1, if_pos (by omega)]
    | succ d ih =>
      intro j S1 hj0 hj hf hm
      refine vc_X7_swaps_2 fun _ _ _ _ => ⟨fun z => absurd z (by omega), fun z => ⟨⟨by omega, by omega⟩, ⟨by omega, by omega⟩, ⟨by omega, by omega⟩, ih (j + 1) _ (by omega) (by omega) (fk_up (fk_up hf)) fun r c c0 c1 => ?_⟩⟩
      rw [gm_up (by omega) (by omega) c0 (by omega), gm_up (by omega) (by omega) c0 (by omega)]
      have ea : S1 17 (40 * a + j) = gm 17 S a j := by
        have := hm a j (by omega) (by omega)
        rw [if_neg (by omega)] at this
        exact this
      have eb : S1 17 (40 * b + j) = gm 17 S b j := by
        have := hm b j (by omega) (by omega)
        rw [if_neg (by omega)] at this
        exact this
      rw [ea, eb, hm r c c0 c1]
      by_cases q : c = j
      · subst q
        rw [if_neg (show ¬ c < c by omega), if_pos (show c < c + 1 by omega)]
        unfold mSwap
        by_cases q1 : r = b
        · subst q1
          rw [if_pos ⟨rfl, rfl⟩]
          by_cases q2 : r = a
          · subst q2; rw [if_pos rfl]
          · rw [if_neg q2, if_pos rfl]
        · rw [if_neg (fun z => q1 z.1)]
          by_cases q2 : r = a
          · subst q2; rw [if_pos ⟨rfl, rfl⟩, if_pos rfl]
          · rw [if_neg (fun z => q2 z.1), if_neg q2, if_neg q1]
      · rw [if_neg (fun z => q z.2), if_neg (fun z => q z.2)]
        by_cases q3 : c < j
        · rw [if_pos q3, if_pos (by omega)]
        · rw [if_neg q3, if_neg (by omega)]
  refine key 40 0 S (by omega) (by omega) fk_rfl fun r c c0 c1 => ?_
  rw [if_neg (by omega)]
theorem sp_X7_clears {f p R : Int} (hR0 : 0 ≤ R) (hR40 : R ≤ 40) (hp0 : 0 ≤ p) (hp : p < 40) (hf0 : 0 ≤ f) (hf : f < R) (hg : ∀ r c, 0 ≤ r → r < R → 0 ≤ c → c < 40 → rgP (gm 17 S r c)) (h : ∀ S', fk 17 S S' → (∀ r c, 0 ≤ r → r < R → 0 ≤ c → c < 40 → gm 17 S' r c = mClear (mScale (gm 17 S) f (inv (gm 17 S f p))) f p r c) → Qr 0 S') : M_X7_clears f p R S Qr Qx := by
  refine vc_X7_clears fun _ _ _ _ => ⟨⟨by omega, by omega⟩, sp_X7_inverse (hg f p hf0 hf hp0 hp) fun _ _ => ?_⟩
  have hi := inv_rng (gm 17 S f p)
  show R_X7_clears_19 f p R (inv (gm 17 S f p)) 0 S Qr Qx
  generalize hB : mScale (gm 17 S) f (inv (gm 17 S f p)) = B at h
  have hBr : ∀ r c, 0 ≤ r → r < R → 0 ≤ c → c < 40 → rgP (B r c) := fun r c h1 h2 h3 h4 => by
    rw [← hB]
    unfold mScale
    split
    · exact modP _
    · exact hg _ _ h1 h2 h3 h4
  have inner : ∀ (d : Nat) (i j : Int) (S1 : St) (t : Int), 0 ≤ i → i < R → 0 ≤ j → j + d = 40 → t = B i p → fk 17 S S1 → (∀ r c, 0 ≤ r → r < R → 0 ≤ c → c < 40 → gm 17 S1 r c = if r < i ∨ (r = i ∧ c < j) then mClear B f p r c else B r c) → (∀ S2, fk 17 S S2 → (∀ r c, 0 ≤ r → r < R → 0 ≤ c → c < 40 → gm 17 S2 r c = if r < i + 1 then mClear B f p r c else B r c) → R_X7_clears_66 f p R (i + 1) S2 Qr Qx) → R_X7_clears_89 f p R i t j S1 Qr Qx := by
    intro d
    induction d with
    | zero =>
      intro i j S1 t hi0 hi hj0 hj ht hf2 hm hz
      refine vc_X7_clears_89 fun _ _ _ _ _ _ _ => ⟨fun _ => ⟨⟨by omega, by omega⟩, hz S1 hf2 fun r c r0 r1 c0 c1 => ?_⟩, fun z => absurd z (by omega)⟩
      rw [hm r c r0 r1 c0 c1]
      by_cases q : r < i + 1
      · rw [if_pos q, if_pos (by omega)]
      · rw [if_neg q, if_neg (by omega)]
    | succ d ih =>
      intro i j S1 t hi0 hi hj0 hj ht hf2 hm hz
      have hSame : (∀ c, 0 ≤ c → c < 40 → B i c = mClear B f p i c) → R_X7_clears_66 f p R (i + 1) S1 Qr Qx := fun k => hz S1 hf2 fun r c r0 r1 c0 c1 => by
        rw [hm r c r0 r1 c0 c1]
        by_cases q : r < i + 1
        · rw [if_pos q]
          by_cases q2 : r < i ∨ (r = i ∧ c < j)
          · rw [if_pos q2]
          · rw [if_neg q2, show r = i by omega]; exact k c c0 c1
        · rw [if_neg q, if_neg (by omega)]
      refine vc_X7_clears_89 fun _ _ _ _ _ _ _ => ⟨fun z => absurd z (by omega), fun _ => ⟨fun q => ⟨⟨by omega, by omega⟩, hSame fun c c0 c1 => ?_⟩, fun q => ⟨fun q2 => ⟨⟨by omega, by omega⟩, hSame fun c c0 c1 => ?_⟩, fun q2 => ⟨⟨by omega, by omega⟩, ⟨by omega, by omega⟩, ?_⟩⟩⟩⟩
      · unfold mClear; rw [if_pos q]
      · unfold mClear; rw [if_neg q]
        exact clr_mod (hBr i c hi0 hi c0 c1) (by rw [← ht]; exact q2)
      · have e1 : gm 17 S1 i j = B i j := by rw [hm i j hi0 hi hj0 (by omega), if_neg (by omega)]
        have e2 : gm 17 S1 f j = B f j := by
          rw [hm f j hf0 hf hj0 (by omega)]
          split
          · unfold mClear; rw [if_pos rfl]
          · rfl
        have hx := mulP (hBr i p hi0 hi hp0 hp) (hBr f j hf0 hf hj0 (by omega))
        have hy := hBr i j hi0 hi hj0 (by omega)
        have hb := modP (B i p * B f j)
        unfold rgP at hb hy
        show r64 (t * gm 17 S1 f j) ∧ r64 (gm 17 S1 i j - Int.tmod (t * gm 17 S1 f j) 1000003) ∧ M_X7_within (gm 17 S1 i j - Int.tmod (t * gm 17 S1 f j) 1000003) S1 _ Qx
        rw [e1, e2, ht, tmP hx.1]
        refine ⟨⟨by omega, by omega⟩, ⟨by omega, by omega⟩, sp_X7_within ⟨by omega, by omega⟩ fun _ _ => ⟨⟨by omega, by omega⟩, ih i (j + 1) _ _ hi0 hi (by omega) (by omega) rfl (fk_up hf2) (fun r c r0 r1 c0 c1 => ?_) hz⟩⟩
        rw [gm_up hj0 (by omega) c0 c1, hm r c r0 r1 c0 c1]
        by_cases q3 : r = i ∧ c = j
        · rw [if_pos q3, if_pos (by omega), q3.1, q3.2]
          unfold mClear
          rw [if_neg q]
          generalize B i p * B f j = w at *
          omega
        · rw [if_neg q3]
          by_cases q4 : r < i ∨ (r = i ∧ c < j)
          · rw [if_pos q4, if_pos (by omega)]
          · rw [if_neg q4, if_neg (by omega)]
  have outer : ∀ (d : Nat) (i : Int) (S1 : St), 0 ≤ i → i + d = R → fk 17 S S1 → (∀ r c, 0 ≤ r → r < R → 0 ≤ c → c < 40 → gm 17 S1 r c = if r < i then mClear B f p r c else B r c) → R_X7_clears_66 f p R i S1 Qr Qx := by
    intro d
    induction d with
    | zero =>
      intro i S1 hi0 hi hf2 hm
      refine vc_X7_clears_66 fun _ _ _ _ _ => ⟨fun _ => h S1 hf2 fun r c r0 r1 c0 c1 => ?_, fun z => absurd z (by omega)⟩
      rw [hm r c r0 r1 c0 c1, if_pos (by omega)]
    | succ d ih =>
      intro i S1 hi0 hi hf2 hm
      refine vc_X7_clears_66 fun _ _ _ _ _ => ⟨fun z => absurd z (by omega), fun _ => ⟨⟨by omega, by omega⟩, inner 40 i 0 S1 _ hi0 (by omega) (by omega) (by omega) ?_ hf2 (fun r c r0 r1 c0 c1 => ?_) fun S2 hf3 hm3 => ih (i + 1) S2 (by omega) (by omega) hf3 hm3⟩⟩
      · show gm 17 S1 i p = B i p
        rw [hm i p hi0 (by omega) hp0 hp, if_neg (by omega)]
      · rw [hm r c r0 r1 c0 c1]
        by_cases q : r < i
        · rw [if_pos q, if_pos (by omega)]
        · rw [if_neg q, if_neg (by omega)]
  have key : ∀ (d : Nat) (j : Int) (S1 : St), 0 ≤ j → j + d = 40 → fk 17 S S1 → (∀ r c, 0 ≤ c → c < 40 → gm 17 S1 r c = if c < j then B r c else gm 17 S r c) → R_X7_clears_19 f p R (inv (gm 17 S f p)) j S1 Qr Qx := by
    intro d
    induction d with
    | zero =>
      intro j S1 hj0 hj hf2 hm
      refine vc_X7_clears_19 fun _ _ _ _ _ _ => ⟨fun _ => outer R.toNat 0 S1 (by omega) (by omega) hf2 fun r c r0 r1 c0 c1 => ?_, fun z => absurd z (by omega)⟩
      rw [hm r c c0 c1, if_pos (by omega), if_neg (by omega)]
    | succ d ih =>
      intro j S1 hj0 hj hf2 hm
      have e := hm f j hj0 (by omega)
      rw [if_neg (by omega)] at e
      have hr := hg f j hf0 hf hj0 (by omega)
      have hx := mulP hr hi
      have hb := modP (gm 17 S f j * inv (gm 17 S f p))
      unfold rgP at hb
      refine vc_X7_clears_19 fun _ _ _ _ _ _ => ⟨fun z => absurd z (by omega), fun _ => ⟨⟨by omega, by omega⟩, ?_⟩⟩
      show r64 (gm 17 S1 f j * inv (gm 17 S f p)) ∧ r64 (Int.tmod (gm 17 S1 f j * inv (gm 17 S f p)) 1000003) ∧ _ ∧ R_X7_clears_19 _ _ _ _ _ (up S1 17 _ (Int.tmod (gm 17 S1 f j * inv (gm 17 S f p)) 1000003)) _ _
      rw [e, tmP hx.1]
      refine ⟨⟨by omega, by omega⟩, ⟨by omega, by omega⟩, ⟨by omega, by omega⟩, ih (j + 1) _ (by omega) (by omega) (fk_up hf2) fun r c c0 c1 => ?_⟩
      rw [gm_up hj0 (by omega) c0 c1, hm r c c0 c1, ← hB]
      by_cases q : c = j
      · subst q
        rw [if_pos (show c < c + 1 by omega), if_neg (show ¬ c < c by omega)]
        unfold mScale
        by_cases q2 : r = f
        · subst q2
          rw [if_pos ⟨rfl, rfl⟩, if_pos rfl]
        · rw [if_neg (fun z => q2 z.1), if_neg q2]
      · rw [if_neg (fun z => q z.2)]
        by_cases q3 : c < j
        · rw [if_pos q3, if_pos (by omega)]
        · rw [if_neg q3, if_neg (by omega)]
  refine key 40 0 S (by omega) (by omega) fk_rfl fun r c c0 c1 => ?_
  rw [if_neg (by omega)]
theorem sp_X7_brings {R C : Int} {A : Mx} (hR0 : 0 ≤ R) (hR40 : R ≤ 40) (hC0 : 0 ≤ C) (hC40 : C ≤ 40) (hA : ∀ r c, 0 ≤ r → r < R → 0 ≤ c → c < 40 → rgP (A r c)) (hm : meq R 40 (gm 17 S) A) (h : ∀ S', f2 17 18 S S' → meq R 40 (gm 17 S') (el R A C).1 → (∀ c, 0 ≤ c → c < C → S' 18 c = (el R A C).2.2 c) → Qr (el R A C).2.1 S') : M_X7_brings R C S Qr Qx := by
  refine vc_X7_brings fun _ _ _ => ?_
  have key : ∀ (d : Nat) (i : Int) (S1 : St), 0 ≤ i → i + d = C → f2 17 18 S S1 → meq R 40 (gm 17 S1) (el R A i).1 → (∀ c, 0 ≤ c → c < i → S1 18 c = (el R A i).2.2 c) → R_X7_brings_5 R C (el R A i).2.1 i S1 Qr Qx := by
    intro d
    induction d with
    | zero =>
      intro i S1 hi0 hi hf hm hp
      have e : i = C := by omega
      subst e
      exact vc_X7_brings_5 fun _ _ _ _ _ => ⟨fun _ => h S1 hf hm hp, fun z => absurd z (by omega)⟩
    | succ d ih =>
      intro i S1 hi0 hi hf hm hp
      have hI := elI_all (C := 40) hR0 hR40 hA i.toNat i (by omega) (by omega)
      have hs := el_s (R := R) (A := A) hi0
      have hnx := fun S2 => ih (i + 1) S2 (by omega) (by omega)
      rw [hs] at hnx
      generalize el R A i = s at hm hp hI hnx ⊢
      obtain ⟨i0, i1, i2, i3, i4, i5, i6⟩ := hI
      refine vc_X7_brings_5 fun _ _ _ _ _ => ⟨fun z => absurd z (by omega), fun z => ⟨⟨by omega, by omega⟩, ?_⟩⟩
      have fin : ∀ x y : Int, y < s.2.1 → fnd s.1 i R 41 s.2.1 = x → R_X7_brings_19 R C s.2.1 i x y S1 Qr Qx := by
        intro x y hy ef
        unfold elS at hnx
        have hno : ∀ v : Int, x = -1 → ix i 40 ∧ ((x = -1 → r32 (i + 1) ∧ R_X7_brings_5 R C s.2.1 (i + 1) (up S1 18 i (-1)) Qr Qx) ∧ (x ≠ -1 → False)) := fun _ e => by
          rw [if_pos (by rw [ef]; exact e)] at hnx
          refine ⟨⟨by omega, by omega⟩, fun _ => ⟨⟨by omega, by omega⟩, hnx _ (f2_fk' hf fk_up0) (by rw [gm_fk fk_up0 (by decide)]; exact hm) fun c c0 c1 => ?_⟩, fun q => q e⟩
          rw [up_at]
          show _ = if c = i then _ else _
          by_cases q : c = i
          · rw [if_pos q, if_pos q]
          · rw [if_neg q, if_neg q]; exact hp c c0 (by omega)
        refine vc_X7_brings_19 fun _ _ _ _ _ _ _ => ⟨fun _ => ⟨fun e => ⟨⟨by omega, by omega⟩, fun e2 => absurd e2 e, fun _ => ?_⟩, fun e => ⟨⟨by omega, by omega⟩, (hno 0 e).2.1, fun e2 => absurd e e2⟩⟩, fun z => absurd z (by omega)⟩
        rcases fnd_spec s.1 i R 41 s.2.1 i0 (by omega) with ⟨z, _⟩ | ⟨a, b, c, _⟩
        · exact absurd (ef.symm.trans z) e
        rw [if_neg (show ¬ fnd s.1 i R 41 s.2.1 = -1 by omega)] at hnx
        rw [ef] at a b c hnx
        have hm1 : meq R 40 (gm 17 (up S1 18 i s.2.1)) s.1 := by rw [gm_fk fk_up0 (by decide)]; exact hm
        refine sp_X7_swaps (by omega) (by omega) i0 (by omega) fun S2 hf2 hm2 _ => ?_
        have hB : meq R 40 (gm 17 S2) (mSwap s.1 x s.2.1) := fun r c r0 r1 c0 c1 => by
          rw [hm2 r c c0 c1]
          unfold mSwap
          split
          · exact hm1 _ _ i0 (by omega) c0 c1
          · split
            · exact hm1 _ _ (by omega) b c0 c1
            · exact hm1 _ _ r0 r1 c0 c1
        have hBr : ∀ r c, 0 ≤ r → r < R → 0 ≤ c → c < 40 → rgP (mSwap s.1 x s.2.1 r c) := fun r c h1 h2 h3 h4 => by
          unfold mSwap
          split
          · exact i3 _ _ i0 (by omega) h3 h4
          · split
            · exact i3 _ _ (by omega) b h3 h4
            · exact i3 _ _ h1 h2 h3 h4
        generalize mSwap s.1 x s.2.1 = B at hB hBr hnx
        refine sp_X7_clears hR0 hR40 hi0 (by omega) i0 (by omega) (fun r c r0 r1 c0 c1 => by rw [hB _ _ r0 r1 c0 c1]; exact hBr _ _ r0 r1 c0 c1) fun S4 hf4 hm4 _ => ?_
        have hD : meq R 40 (mScale (gm 17 S2) s.2.1 (inv (gm 17 S2 s.2.1 i))) (mScale B s.2.1 (inv (B s.2.1 i))) := fun r c r0 r1 c0 c1 => by
          unfold mScale
          rw [hB _ _ i0 (by omega) hi0 (by omega), hB r c r0 r1 c0 c1]
        refine ⟨⟨by omega, by omega⟩, ⟨by omega, by omega⟩, hnx _ (f2_fk (f2_fk (f2_fk' hf fk_up0) hf2) hf4) ?_ fun c c0 c1 => ?_⟩
        · intro r c r0 r1 c0 c1
          rw [hm4 r c r0 r1 c0 c1]
          show mClear _ _ _ _ _ = mClear (mScale B s.2.1 (inv (B s.2.1 i))) _ _ _ _
          unfold mClear
          rw [hD r c r0 r1 c0 c1, hD r i r0 r1 hi0 (by omega), hD _ c i0 (by omega) c0 c1]
        · rw [hf4 18 (by decide), hf2 18 (by decide), up_at]
          show _ = if c = i then _ else _
          by_cases q : c = i
          · rw [if_pos q, if_pos q]
          · rw [if_neg q, if_neg q]; exact hp c c0 (by omega)
      have search : ∀ (d : Nat) (x y : Int), y + 1 = s.2.1 + d → y < R → ((x = -1 ∧ ∀ q, y < q → q < R → s.1 q i = 0) ∨ (y < x ∧ x < R ∧ s.1 x i ≠ 0 ∧ ∀ q, y < q → q < x → s.1 q i = 0)) → R_X7_brings_19 R C s.2.1 i x y S1 Qr Qx := by
        intro d
        induction d with
        | zero =>
          intro x y hy hyR hx
          refine fin x y (by omega) ?_
          rcases hx with ⟨e, k⟩ | ⟨a, b, c, k⟩
          · rw [e]; exact fnd_none i0 (by omega) fun q q0 q1 => k q (by omega) q1
          · exact fnd_eq i0 (by omega) (by omega) b c fun q q0 q1 => k q (by omega) q1
        | succ d ihd =>
          intro x y hy hyR hx
          have ey : S1 17 (40 * y + i) = s.1 y i := hm y i (by omega) hyR hi0 (by omega)
          refine vc_X7_brings_19 fun _ _ _ _ _ _ _ => ⟨fun z => absurd z (by omega), fun _ => ⟨⟨by omega, by omega⟩, ?_⟩⟩
          rw [ey]
          refine ⟨fun q => ⟨⟨by omega, by omega⟩, ihd x (y + -1) (by omega) (by omega) ?_⟩, fun q => ⟨⟨by omega, by omega⟩, ihd y (y + -1) (by omega) (by omega) (Or.inr ⟨by omega, hyR, q, fun q2 h1 h2 => by omega⟩)⟩⟩
          have hq : ∀ q2, y + -1 < q2 → ¬ y < q2 → s.1 q2 i = 0 := fun q2 h1 h2 => by
            rw [show q2 = y by omega]; exact q
          rcases hx with ⟨e, k⟩ | ⟨a, b, c, k⟩
          · exact Or.inl ⟨e, fun q2 h1 h2 => by
              by_cases w : y < q2
              · exact k q2 w h2
              · exact hq q2 h1 w⟩
          · exact Or.inr ⟨by omega, b, c, fun q2 h1 h2 => by
              by_cases w : y < q2
              · exact k q2 w h2
              · exact hq q2 h1 w⟩
      exact search (R - s.2.1).toNat (-1) (R - 1) (by omega) (by omega) (Or.inl ⟨rfl, fun q h1 h2 => by omega⟩)
  have := key C.toNat 0 S (by omega) (by omega) f2_rfl (by rw [el_0]; exact hm) (fun c c0 c1 => by omega)
  rw [el_0] at this
  exact this
end GE
