/-! GRID of the class: the elimination -/
section GC
theorem ex_xor (a b : Int) (ha : r64 a) (hb : r64 b) : (yxor a b < 0 ↔ (a < 0 ↔ ¬ b < 0)) := by
  unfold yxor
  have e : ∀ z : Int64, z.toInt < 0 ↔ z.toBitVec.msb = true := fun z => by
    rw [BitVec.msb_eq_toInt, decide_eq_true_iff]; rfl
  have h1 := e (Int64.ofInt a)
  have h2 := e (Int64.ofInt b)
  rw [nz_tiL ha] at h1
  rw [nz_tiL hb] at h2
  rw [e, h1, h2, Int64.toBitVec_xor, BitVec.msb_xor]
  cases (Int64.ofInt a).toBitVec.msb <;> cases (Int64.ofInt b).toBitVec.msb <;> simp
theorem tm_cases (a : Int) : (0 ≤ a → Int.tmod a 1000003 = a % 1000003) ∧ (a < 0 → (Int.tmod a 1000003 = 0 ∧ a % 1000003 = 0) ∨ (Int.tmod a 1000003 < 0 ∧ Int.tmod a 1000003 + 1000003 = a % 1000003)) := by
  refine ⟨fun q => Int.tmod_eq_emod_of_nonneg q, fun q => ?_⟩
  have e2 : Int.tmod a 1000003 = -((-a) % 1000003) := by
    rw [← Int.tmod_eq_emod_of_nonneg (show 0 ≤ -a by omega), Int.neg_tmod, Int.neg_neg]
  omega
def gm (g : Nat) (S : St) : Mx := fun r c => S g (40 * r + c)
theorem gm_up {g : Nat} {S : St} {a j v r c : Int} (hj0 : 0 ≤ j) (hj : j < 40) (hc0 : 0 ≤ c) (hc : c < 40) : gm g (up S g (40 * a + j) v) r c = if r = a ∧ c = j then v else gm g S r c := by
  unfold gm
  rw [up_at]
  by_cases q : r = a ∧ c = j
  · rw [if_pos q, if_pos (by omega)]
  · rw [if_neg q, if_neg (by omega)]
def fk (g : Nat) (S S' : St) : Prop := ∀ k, k ≠ g → S' k = S k
theorem fk_rfl {g : Nat} {S : St} : fk g S S := fun _ _ => rfl
theorem fk_tr {g : Nat} {S S' S'' : St} (h : fk g S S') (h2 : fk g S' S'') : fk g S S'' := fun k q => by rw [h2 k q, h k q]
theorem fk_up {g : Nat} {S S' : St} {j v : Int} (h : fk g S S') : fk g S (up S' g j v) := fun k q => by
  rw [← h k q]; funext b; exact up_ne _ q _ _ _
variable {S : St} {Qr : Int → St → Prop} {Qx : String → St → Prop}
theorem sp_J9 {a : Int} (h : Qr (a % 1000003) S) : M_J9_floorMod_f86c9 a 1000003 S Qr Qx :=
  vc_J9_floorMod_f86c9 fun ha hb _ => by
    have hx := ex_xor a 1000003 ha hb
    have ht := tm_cases a
    have hm := modP a
    unfold rgP at hm
    refine ⟨by decide, fun q => ?_, fun q => ?_⟩
    · have : 0 ≤ a := by
        by_cases z : a < 0
        · have := hx.2 (by omega); omega
        · omega
      rw [ht.1 this]
      exact ⟨⟨by omega, by omega⟩, h⟩
    · have z : a < 0 := by have := hx.1 q; omega
      rcases ht.2 z with ⟨e1, e2⟩ | ⟨e1, e2⟩
      · rw [e1]
        exact ⟨⟨by decide, by decide⟩, fun _ => by rw [e2] at h; exact h, fun z => absurd rfl z⟩
      · refine ⟨⟨by omega, by omega⟩, fun z => by omega, fun _ => ⟨by rw [e2]; exact ⟨by omega, by omega⟩, by rw [e2]; exact h⟩⟩
theorem inv_step {p q : Int} {l n : Nat} (hl : l ≠ 0) : ivr (n + 1) p q l = ivr n (if l % 2 = 1 then p * q % 1000003 else p) (q * q % 1000003) (l / 2) := by
  show (if l = 0 then p else _) = _
  rw [if_neg hl]
theorem sp_X0_inverse {a : Int} (ha : rgP a) (h : Qr (inv a) S) : M_X0_inverse a S Qr Qx := by
  refine vc_X0_inverse fun _ _ => ?_
  have key : ∀ (n : Nat) (p q : Int) (l : Nat), rgP p → rgP q → l < 2 ^ n → l < 2 ^ 31 → Qr (ivr n p q l) S → R_X0_inverse_9 p q (l : Int) S Qr Qx := by
    intro n
    induction n with
    | zero =>
      intro p q l hp hq hl _ h
      exact vc_X0_inverse_9 fun _ _ _ _ => ⟨fun _ => h, fun z => absurd z (by omega)⟩
    | succ n ih =>
      intro p q l hp hq hl hl3 h
      have hl2 : l / 2 < 2 ^ n := by rw [Nat.pow_succ] at hl; omega
      have mpq := mulP hp hq
      have mqq := mulP hq hq
      have e1 : zand (l : Int) 1 = ((l % 2 : Nat) : Int) := by
        rw [show (1 : Int) = ((1 : Nat) : Int) from rfl, zand_nat hl3, Nat.and_one_is_mod]
      have e2 : zshr (l : Int) 1 = ((l / 2 : Nat) : Int) := by
        have := zshr_nat (j := 1) hl3 (by decide)
        exact this
      have b1 := modP (p * q)
      have b2 := modP (q * q)
      have b1' := b1
      have b2' := b2
      unfold rgP at b1' b2'
      refine vc_X0_inverse_9 fun _ _ _ _ => ⟨fun z => ?_, fun z => ?_⟩
      · have : l = 0 := by omega
        subst this
        exact h
      · rw [inv_step (by omega)] at h
        rw [e1, e2, tmP mpq.1, tmP mqq.1]
        refine ⟨fun k => ⟨⟨by omega, by omega⟩, ⟨by omega, by omega⟩, ?_⟩, fun k => ⟨⟨by omega, by omega⟩, ⟨by omega, by omega⟩, ⟨by omega, by omega⟩, ⟨by omega, by omega⟩, ?_⟩⟩
        · rw [if_neg (by omega)] at h
          exact ih _ _ _ hp b2 hl2 (by omega) h
        · rw [if_pos (by omega)] at h
          exact ih _ _ _ b1 b2 hl2 (by omega) h
  exact key 21 1 a 1000001 ⟨by decide, by decide⟩ ha (by decide) (by decide) h
theorem sp_X0_rowWith {p f R C : Int} (hR : S 5 2 = R) (hR40 : R ≤ 40) (hp0 : 0 ≤ p) (hp : p < 40) (hf : 0 ≤ f) (h : Qr (fnd (gm 22 S) p R 41 f) S) : M_X0_rowWith p f S Qr Qx := by
  refine vc_X0_rowWith fun _ _ _ => ?_
  have key : ∀ (n : Nat) (r : Int), 0 ≤ r → R < r + n → Qr (fnd (gm 22 S) p R n r) S → R_X0_rowWith_2 p r S Qr Qx := by
    intro n
    induction n with
    | zero =>
      intro r hr hn h
      exact vc_X0_rowWith_2 fun _ _ _ => ⟨fun _ => h, fun z => absurd z (by omega)⟩
    | succ n ih =>
      intro r hr hn h
      refine vc_X0_rowWith_2 fun _ _ _ => ⟨fun z => ?_, fun z => ⟨⟨by omega, by omega⟩, ⟨by omega, by omega⟩, fun k => ⟨⟨by omega, by omega⟩, ?_⟩, fun k => ?_⟩⟩
      · unfold fnd at h
        rw [if_pos (by omega)] at h
        exact h
      · unfold fnd at h
        rw [if_neg (by omega), if_pos (show gm 22 S r p = 0 from k)] at h
        exact ih (r + 1) (by omega) (by omega) h
      · unfold fnd at h
        rw [if_neg (by omega), if_neg (show ¬ gm 22 S r p = 0 from k)] at h
        exact h
  exact key 41 f hf (by omega) h
theorem sp_X0_swapRows {a b C : Int} (hC : S 5 3 = C) (hC0 : 0 ≤ C) (hC40 : C ≤ 40) (ha0 : 0 ≤ a) (ha : a < 40) (hb0 : 0 ≤ b) (hb : b < 40) (h : ∀ S', fk 22 S S' → (∀ r c, 0 ≤ c → c < C → gm 22 S' r c = mSwap (gm 22 S) a b r c) → Qr 0 S') : M_X0_swapRows a b S Qr Qx := by
  refine vc_X0_swapRows fun _ _ _ => ?_
  have key : ∀ (d : Nat) (j : Int) (S1 : St), 0 ≤ j → j + d = C → fk 22 S S1 → (∀ r c, 0 ≤ c → c < C → gm 22 S1 r c = if c < j then mSwap (gm 22 S) a b r c else gm 22 S r c) → R_X0_swapRows_2 a b j S1 Qr Qx := by
    intro d
    induction d with
    | zero =>
      intro j S1 hj0 hj hf hm
      refine vc_X0_swapRows_2 fun _ _ _ _ => ⟨fun _ => h S1 hf fun r c c0 c1 => ?_, fun z => absurd z (by rw [hf 5 (by decide), hC]; omega)⟩
      rw [hm r c c0 c1, if_pos (by omega)]
    | succ d ih =>
      intro j S1 hj0 hj hf hm
      refine vc_X0_swapRows_2 fun _ _ _ _ => ⟨fun z => absurd z (by rw [hf 5 (by decide), hC]; omega), fun z => ⟨⟨by omega, by omega⟩, ⟨by omega, by omega⟩, ⟨by omega, by omega⟩, ⟨by omega, by omega⟩, ih (j + 1) _ (by omega) (by omega) (fk_up (fk_up hf)) fun r c c0 c1 => ?_⟩⟩
      rw [gm_up (by omega) (by omega) c0 (by omega), gm_up (by omega) (by omega) c0 (by omega)]
      have ea : S1 22 (40 * a + j) = gm 22 S a j := by
        have := hm a j (by omega) (by omega)
        rw [if_neg (by omega)] at this
        exact this
      have eb : S1 22 (40 * b + j) = gm 22 S b j := by
        have := hm b j (by omega) (by omega)
        rw [if_neg (by omega)] at this
        exact this
      rw [ea, eb, hm r c c0 c1]
      by_cases q : c = j
      · subst q
        rw [if_neg (show ¬ c < c by omega), if_pos (show c < c + 1 by omega)]
        unfold mSwap
        by_cases q1 : r = b
        · subst q1
          rw [if_pos ⟨rfl, rfl⟩]
          by_cases q2 : r = a
          · subst q2; rw [if_pos rfl]
          · rw [if_neg q2, if_pos rfl]
        · rw [if_neg (fun z => q1 z.1)]
          by_cases q2 : r = a
          · subst q2; rw [if_pos ⟨rfl, rfl⟩, if_pos rfl]
          · rw [if_neg (fun z => q2 z.1), if_neg q2, if_neg q1]
      · rw [if_neg (fun z => q z.2), if_neg (fun z => q z.2)]
        by_cases q3 : c < j
        · rw [if_pos q3, if_pos (by omega)]
        · rw [if_neg q3, if_neg (by omega)]
  refine key C.toNat 0 S (by omega) (by omega) fk_rfl fun r c c0 c1 => ?_
  rw [if_neg (by omega)]
theorem sp_X0_scaleRow {f p C : Int} (hC : S 5 3 = C) (hC40 : C ≤ 40) (hp0 : 0 ≤ p) (hp : p < C) (hf0 : 0 ≤ f) (hf : f < 40) (hg : ∀ c, 0 ≤ c → c < C → rgP (gm 22 S f c)) (h : ∀ S', fk 22 S S' → (∀ r c, 0 ≤ c → c < C → gm 22 S' r c = if p ≤ c then mScale (gm 22 S) f (inv (gm 22 S f p)) r c else gm 22 S r c) → Qr 0 S') : M_X0_scaleRow f p S Qr Qx := by
  refine vc_X0_scaleRow fun _ _ _ => ⟨⟨by omega, by omega⟩, ⟨by omega, by omega⟩, sp_X0_inverse (hg p hp0 hp) fun _ _ => ?_⟩
  have hi := inv_rng (gm 22 S f p)
  have key : ∀ (d : Nat) (j : Int) (S1 : St), p ≤ j → j + d = C → fk 22 S S1 → (∀ r c, 0 ≤ c → c < C → gm 22 S1 r c = if p ≤ c ∧ c < j then mScale (gm 22 S) f (inv (gm 22 S f p)) r c else gm 22 S r c) → R_X0_scaleRow_15 f (inv (gm 22 S f p)) j S1 Qr Qx := by
    intro d
    induction d with
    | zero =>
      intro j S1 hj0 hj hf hm
      refine vc_X0_scaleRow_15 fun _ _ _ _ => ⟨fun _ => h S1 hf fun r c c0 c1 => ?_, fun z => absurd z (by rw [hf 5 (by decide), hC]; omega)⟩
      rw [hm r c c0 c1]
      by_cases q : p ≤ c
      · rw [if_pos q, if_pos ⟨q, by omega⟩]
      · rw [if_neg q, if_neg (fun z => q z.1)]
    | succ d ih =>
      intro j S1 hj0 hj hf2 hm
      have e := hm f j (by omega) (by omega)
      rw [if_neg (by omega)] at e
      have hr := hg j (by omega) (by omega)
      rw [← e] at hr
      have hx := mulP hr hi
      have hb := modP (gm 22 S1 f j * inv (gm 22 S f p))
      unfold rgP at hb
      refine vc_X0_scaleRow_15 fun _ _ _ _ => ⟨fun z => absurd z (by rw [hf2 5 (by decide), hC]; omega), fun z => ⟨⟨by omega, by omega⟩, ⟨by omega, by omega⟩, ?_⟩⟩
      show r64 (gm 22 S1 f j * inv (gm 22 S f p)) ∧ r64 (Int.tmod (gm 22 S1 f j * inv (gm 22 S f p)) 1000003) ∧ _ ∧ R_X0_scaleRow_15 _ _ _ (up S1 22 _ (Int.tmod (gm 22 S1 f j * inv (gm 22 S f p)) 1000003)) _ _
      rw [tmP hx.1]
      refine ⟨⟨by omega, by omega⟩, ⟨by omega, by omega⟩, ⟨by omega, by omega⟩, ih (j + 1) _ (by omega) (by omega) (fk_up hf2) fun r c c0 c1 => ?_⟩
      rw [gm_up (by omega) (by omega) c0 (by omega), hm r c c0 c1, e]
      by_cases q : c = j
      · subst q
        rw [if_pos (show p ≤ c ∧ c < c + 1 by omega), if_neg (show ¬ (p ≤ c ∧ c < c) by omega)]
        unfold mScale
        by_cases q2 : r = f
        · subst q2
          rw [if_pos ⟨rfl, rfl⟩, if_pos rfl]
        · rw [if_neg (fun z => q2 z.1), if_neg q2]
      · rw [if_neg (fun z => q z.2)]
        by_cases q3 : p ≤ c ∧ c < j
        · rw [if_pos q3, if_pos (by omega)]
        · rw [if_neg q3, if_neg (by omega)]
  refine key (C - p).toNat p S (by omega) (by omega) fk_rfl fun r c c0 c1 => ?_
  rw [if_neg (by omega)]
theorem sp_X0_takeOff {a b w C : Int} (hC : S 5 3 = C) (hC0 : 0 ≤ C) (hC40 : C ≤ 40) (ha0 : 0 ≤ a) (ha : a < 40) (hb0 : 0 ≤ b) (hb : b < 40) (hab : a ≠ b) (hw : 0 ≤ w ∧ w ≤ 1000003) (hg : ∀ c, 0 ≤ c → c < C → rgP (gm 22 S a c)) (hg2 : ∀ c, 0 ≤ c → c < C → rgP (gm 22 S b c)) (h : ∀ S', fk 22 S S' → (∀ r c, 0 ≤ c → c < C → gm 22 S' r c = if r = a then (gm 22 S a c + w * gm 22 S b c) % 1000003 else gm 22 S r c) → Qr 0 S') : M_X0_takeOff a b w S Qr Qx := by
  refine vc_X0_takeOff fun _ _ _ _ => ?_
  have key : ∀ (d : Nat) (j : Int) (S1 : St), 0 ≤ j → j + d = C → fk 22 S S1 → (∀ r c, 0 ≤ c → c < C → gm 22 S1 r c = if r = a ∧ c < j then (gm 22 S a c + w * gm 22 S b c) % 1000003 else gm 22 S r c) → R_X0_takeOff_3 a b w j S1 Qr Qx := by
    intro d
    induction d with
    | zero =>
      intro j S1 hj0 hj hf hm
      refine vc_X0_takeOff_3 fun _ _ _ _ _ => ⟨fun _ => h S1 hf fun r c c0 c1 => ?_, fun z => absurd z (by rw [hf 5 (by decide), hC]; omega)⟩
      rw [hm r c c0 c1]
      by_cases q : r = a
      · rw [if_pos q, if_pos ⟨q, by omega⟩]
      · rw [if_neg q, if_neg (fun z => q z.1)]
    | succ d ih =>
      intro j S1 hj0 hj hf2 hm
      have e := hm a j (by omega) (by omega)
      rw [if_neg (by omega)] at e
      have e2 := hm b j (by omega) (by omega)
      rw [if_neg (by omega)] at e2
      have hr := hg j (by omega) (by omega)
      have hr2 := hg2 j (by omega) (by omega)
      have hx : 0 ≤ w * gm 22 S b j ∧ w * gm 22 S b j ≤ 1000003 * 1000003 := mulb hw.1 hw.2 hr2.1 (by have := hr2.2; omega)
      have hb := modP (gm 22 S a j + w * gm 22 S b j)
      unfold rgP at hb hr hr2
      refine vc_X0_takeOff_3 fun _ _ _ _ _ => ⟨fun z => absurd z (by rw [hf2 5 (by decide), hC]; omega), fun z => ⟨⟨by omega, by omega⟩, ⟨by omega, by omega⟩, ⟨by omega, by omega⟩, ?_⟩⟩
      show r64 (gm 22 S1 a j + w * gm 22 S1 b j) ∧ r64 (Int.tmod (gm 22 S1 a j + w * gm 22 S1 b j) 1000003) ∧ _ ∧ R_X0_takeOff_3 _ _ _ _ (up S1 22 _ (Int.tmod (gm 22 S1 a j + w * gm 22 S1 b j) 1000003)) _ _
      rw [e, e2, tmP (by omega)]
      refine ⟨⟨by omega, by omega⟩, ⟨by omega, by omega⟩, ⟨by omega, by omega⟩, ih (j + 1) _ (by omega) (by omega) (fk_up hf2) fun r c c0 c1 => ?_⟩
      rw [gm_up (by omega) (by omega) c0 (by omega), hm r c c0 c1]
      by_cases q : r = a ∧ c = j
      · obtain ⟨q1, q2⟩ := q
        subst q1 q2
        rw [if_pos ⟨rfl, rfl⟩, if_pos (by omega)]
      · rw [if_neg q]
        by_cases q3 : r = a ∧ c < j
        · rw [if_pos q3, if_pos (by omega)]
        · rw [if_neg q3, if_neg (by omega)]
  refine key C.toNat 0 S (by omega) (by omega) fk_rfl fun r c c0 c1 => ?_
  rw [if_neg (by omega)]
theorem clr_mod {x t y : Int} (hx : rgP x) (h : t = 0) : x = (x - t * y) % 1000003 := by
  subst h
  rw [Int.zero_mul, Int.sub_zero, Int.emod_eq_of_lt hx.1 hx.2]
theorem clr_mod2 {x t y : Int} : (x + (1000003 - t) * y) % 1000003 = (x - t * y) % 1000003 := by
  rw [Int.sub_mul, show x + (1000003 * y - t * y) = (x - t * y) + 1000003 * y by omega, Int.add_mul_emod_self_left]
theorem sp_X0_clearColumn {f p R C : Int} (hR : S 5 2 = R) (hR0 : 0 ≤ R) (hR40 : R ≤ 40) (hC : S 5 3 = C) (hC40 : C ≤ 40) (hp0 : 0 ≤ p) (hp : p < C) (hf0 : 0 ≤ f) (hf : f < R) (hg : ∀ r c, 0 ≤ r → r < R → 0 ≤ c → c < C → rgP (gm 22 S r c)) (h : ∀ S', fk 22 S S' → (∀ r c, 0 ≤ r → r < R → 0 ≤ c → c < C → gm 22 S' r c = mClear (gm 22 S) f p r c) → Qr 0 S') : M_X0_clearColumn f p S Qr Qx := by
  refine vc_X0_clearColumn fun _ _ _ => ?_
  have key : ∀ (d : Nat) (i : Int) (S1 : St), 0 ≤ i → i + d = R → fk 22 S S1 → (∀ r c, 0 ≤ r → r < R → 0 ≤ c → c < C → gm 22 S1 r c = if r < i then mClear (gm 22 S) f p r c else gm 22 S r c) → R_X0_clearColumn_2 f p i S1 Qr Qx := by
    intro d
    induction d with
    | zero =>
      intro i S1 hi0 hi hf hm
      refine vc_X0_clearColumn_2 fun _ _ _ _ => ⟨fun _ => h S1 hf fun r c r0 r1 c0 c1 => ?_, fun z => absurd z (by rw [hf 5 (by decide), hR]; omega)⟩
      rw [hm r c r0 r1 c0 c1, if_pos (by omega)]
    | succ d ih =>
      intro i S1 hi0 hi hf2 hm
      have ei : ∀ c, 0 ≤ c → c < C → gm 22 S1 i c = gm 22 S i c := fun c c0 c1 => by
        rw [hm i c hi0 (by omega) c0 c1, if_neg (by omega)]
      have ef : ∀ c, 0 ≤ c → c < C → gm 22 S1 f c = gm 22 S f c := fun c c0 c1 => by
        rw [hm f c hf0 hf c0 c1]
        split
        · unfold mClear; rw [if_pos rfl]
        · rfl
      have hSame : (∀ c, 0 ≤ c → c < C → gm 22 S i c = mClear (gm 22 S) f p i c) → R_X0_clearColumn_2 f p (i + 1) S1 Qr Qx := fun k => ih (i + 1) S1 (by omega) (by omega) hf2 fun r c r0 r1 c0 c1 => by
        rw [hm r c r0 r1 c0 c1]
        by_cases q : r = i
        · subst q
          rw [if_neg (by omega), if_pos (by omega), k c c0 c1]
        · by_cases q3 : r < i
          · rw [if_pos q3, if_pos (by omega)]
          · rw [if_neg q3, if_neg (by omega)]
      have hip := hg i p hi0 (by omega) hp0 hp
      unfold rgP at hip
      refine vc_X0_clearColumn_2 fun _ _ _ _ => ⟨fun z => absurd z (by rw [hf2 5 (by decide), hR]; omega), fun z => ⟨⟨by omega, by omega⟩, ⟨by omega, by omega⟩, fun k => ⟨⟨by omega, by omega⟩, hSame fun c c0 c1 => ?_⟩, fun k => ?_⟩⟩
      · unfold mClear; rw [if_pos k]
      · show (gm 22 S1 i p = 0 → _) ∧ (gm 22 S1 i p ≠ 0 → r64 (1000003 - gm 22 S1 i p) ∧ M_X0_takeOff i f (1000003 - gm 22 S1 i p) S1 _ Qx)
        rw [ei p hp0 hp]
        refine ⟨fun k2 => ⟨⟨by omega, by omega⟩, hSame fun c c0 c1 => ?_⟩, fun k2 => ⟨⟨by omega, by omega⟩, sp_X0_takeOff (by rw [hf2 5 (by decide)]; exact hC) (by omega) hC40 hi0 (by omega) hf0 (by omega) k ⟨by omega, by omega⟩ (fun c c0 c1 => by rw [ei c c0 c1]; exact hg i c hi0 (by omega) c0 c1) (fun c c0 c1 => by rw [ef c c0 c1]; exact hg f c hf0 hf c0 c1) fun S2 hf3 hm2 => ?_⟩⟩
        · unfold mClear
          rw [if_neg k]
          exact clr_mod (hg i c hi0 (by omega) c0 c1) k2
        · intro _
          refine ⟨⟨by omega, by omega⟩, ih (i + 1) S2 (by omega) (by omega) (fk_tr hf2 hf3) fun r c r0 r1 c0 c1 => ?_⟩
          rw [hm2 r c c0 c1]
          by_cases q : r = i
          · subst q
            rw [if_pos rfl, if_pos (by omega), ei c c0 c1, ef c c0 c1]
            unfold mClear
            rw [if_neg k]
            exact clr_mod2
          · rw [if_neg q, hm r c r0 r1 c0 c1]
            by_cases q3 : r < i
            · rw [if_pos q3, if_pos (by omega)]
            · rw [if_neg q3, if_neg (by omega)]
  refine key R.toNat 0 S (by omega) (by omega) fk_rfl fun r c r0 r1 c0 c1 => ?_
  rw [if_neg (by omega)]
def f2 (g1 g2 : Nat) (S S' : St) : Prop := ∀ k, k ≠ g1 → k ≠ g2 → S' k = S k
end GC
