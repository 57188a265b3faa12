/-! PEBBLES: the search -/
section PEB3
variable {S : St} {Qr : Int → St → Prop} {Qx : String → St → Prop}
theorem sp_X6_hasBit {U : Nat} {i : Int} (hU : U < 2 ^ 63) (h0 : 0 ≤ i) (h1 : i < 63) (h : Qr (if tb U i then 1 else 0) S) : M_X6_hasBit (U : Int) i S Qr Qx := by
  have e : i = ((i.toNat : Nat) : Int) := (Int.toNat_of_nonneg h0).symm
  have e1 : yand (yshr (U : Int) i) 1 = if tb U i then 1 else 0 := by
    rw [e, yshr_nat hU (by omega)]
    have e2 : yand ((U / 2 ^ i.toNat : Nat) : Int) 1 = ((U / 2 ^ i.toNat &&& 1 : Nat) : Int) := yand_nat (b := 1) (Nat.lt_of_le_of_lt (Nat.div_le_self _ _) hU)
    rw [e2, Nat.and_one_is_mod]
    unfold tb
    rw [Int.toNat_natCast, Nat.testBit_eq_decide_div_mod_eq]
    rcases Nat.mod_two_eq_zero_or_one (U / 2 ^ i.toNat) with q | q <;> simp [q]
  refine vc_X6_hasBit fun _ _ _ => ?_
  rw [e1]
  by_cases q : tb U i = true
  · rw [if_pos q] at h ⊢
    exact ⟨fun z => absurd rfl z, fun _ => h⟩
  · rw [if_neg q] at h ⊢
    exact ⟨fun _ => h, fun z => absurd z (by decide)⟩
theorem sp_X4_freePebble {v : Int} (v0 : 0 ≤ v) (v1 : v < 10) (h0 : S 24 (2 * v) ≠ -1 → S 24 (2 * v + 1) ≠ -1 → Qr (-1) S) (h1 : ∀ f, f / 2 = v → S 24 f = -1 → Qr f S) : M_X4_freePebble v S Qr Qx :=
  vc_X4_freePebble fun _ _ => ⟨⟨by omega, by omega⟩, fun q => ⟨⟨by omega, by omega⟩, fun q2 => h0 q q2, fun q2 => ⟨⟨by omega, by omega⟩, h1 _ (by omega) q2⟩⟩, fun q => ⟨⟨by omega, by omega⟩, h1 _ (by omega) q⟩⟩
theorem sp_X4_hasBoth {v : Int} (v0 : 0 ≤ v) (v1 : v < 10) (h1 : both (S 24) v → Qr 1 S) (h0 : ¬ both (S 24) v → Qr 0 S) : M_X4_hasBoth v S Qr Qx :=
  vc_X4_hasBoth fun _ _ => ⟨⟨by omega, by omega⟩, fun q => h0 fun z => q z.1, fun q => ⟨⟨by omega, by omega⟩, fun q2 => h0 fun z => q2 z.2, fun q2 => h1 ⟨q, q2⟩⟩⟩
/-- some tight set has both -/
def firmP (V : St) (K : Int → Bool) (n a b : Int) : Prop := ∃ R : Nat, R < 2 ^ n.toNat ∧ tb R a = true ∧ tb R b = true ∧ sp V K R = 2 * pc R - 3
/-- what the search knows -/
def BI (L : Int → Int) (n j o : Int) (S1 : St) (R : Nat) (len k : Int) : Prop :=
  S1 24 = L ∧ R < 2 ^ n.toNat ∧ len = pc R ∧ 1 ≤ len ∧ S1 26 0 = j ∧
  (∀ i, 0 ≤ i → i < len → 0 ≤ S1 26 i ∧ S1 26 i < n ∧ tb R (S1 26 i) = true) ∧
  (∀ i i', 0 ≤ i → i < i' → i' < len → S1 26 i ≠ S1 26 i') ∧
  (∀ v, 0 ≤ v → v < 10 → tb R v = true → ∃ i, 0 ≤ i ∧ i < len ∧ S1 26 i = v) ∧
  (∀ i, 0 < i → i < len → 0 ≤ S1 25 (S1 26 i) ∧ S1 25 (S1 26 i) < 20 ∧ L (S1 25 (S1 26 i)) = S1 26 i ∧ ∃ i', 0 ≤ i' ∧ i' < i ∧ S1 26 i' = S1 25 (S1 26 i) / 2) ∧
  (∀ v, 0 ≤ v → v < 10 → tb R v = true → v ≠ j → v ≠ o → L (2 * v) ≠ -1 ∧ L (2 * v + 1) ≠ -1) ∧
  (∀ i, 0 ≤ i → i < k → i < len → ∀ p, p / 2 = S1 26 i → L p = -1 ∨ tb R (L p) = true)
theorem lt_pow10 {R : Nat} {n : Int} (hn : n ≤ 10) (h : R < 2 ^ n.toNat) : R < 2 ^ 10 := Nat.lt_of_lt_of_le h (Nat.pow_le_pow_right (by decide) (by omega))
theorem BI_add {L : Int → Int} {n j o : Int} {S1 : St} {R : Nat} {len k x : Int} (hn : n ≤ 10) (hB : BI L n j o S1 R len k) (hk : 0 ≤ k ∧ k < len) (hx : x / 2 = S1 26 k) (hx0 : 0 ≤ x) (hx1 : x < 20) (hv : 0 ≤ L x ∧ L x < n) (hnew : tb R (L x) = false) (hnf : L x ≠ o → L (2 * L x) ≠ -1 ∧ L (2 * L x + 1) ≠ -1) : len < 10 ∧ BI L n j o (up (up S1 25 (L x) x) 26 len (L x)) (R ||| 2 ^ (L x).toNat) (len + 1) k := by
  obtain ⟨b1, b2, b3, b4, b5, b6, b7, b8, b9, b10, b11⟩ := hB
  have hpc := pc_new hv.1 (by omega) hnew
  have hpr := (pc_rng (R ||| 2 ^ (L x).toNat)).2
  have hlen : len < 10 := by omega
  have q26 : ∀ i, up (up S1 25 (L x) x) 26 len (L x) 26 i = if i = len then L x else S1 26 i := fun i => by
    rw [up_at, up_ne _ (by decide)]
  have q25 : ∀ i, up (up S1 25 (L x) x) 26 len (L x) 25 i = if i = L x then x else S1 25 i := fun i => by
    rw [up_ne _ (by decide), up_at]
  have tnew : ∀ v, tb (R ||| 2 ^ (L x).toNat) v = (tb R v || decide ((L x).toNat = v.toNat)) := fun v => by rw [tb_or, tb_pow]
  have told : ∀ v, tb R v = true → tb (R ||| 2 ^ (L x).toNat) v = true := fun v h => by rw [tnew, h]; rfl
  have hne : ∀ i, 0 ≤ i → i < len → S1 26 i ≠ L x := fun i i0 i1 z => by
    have := (b6 i i0 i1).2.2
    rw [z, hnew] at this
    exact absurd this (by decide)
  refine ⟨hlen, by rw [← b1]; funext b; rw [up_ne _ (by decide), up_ne _ (by decide)], Nat.or_lt_two_pow b2 (Nat.pow_lt_pow_right (by decide) (by omega)), by omega, by omega, by rw [q26, if_neg (by omega)]; exact b5, fun i i0 i1 => ?_, fun i i' i0 ii i1 => ?_, fun v v0 v1 hv2 => ?_, fun i i0 i1 => ?_, fun v v0 v1 hv2 vj vo => ?_, fun i i0 i1 i2 p hp => ?_⟩
  · rw [q26]
    by_cases z : i = len
    · rw [if_pos z]
      refine ⟨hv.1, hv.2, ?_⟩
      rw [tnew, decide_eq_true rfl, Bool.or_true]
    · rw [if_neg z]
      obtain ⟨a, b, c⟩ := b6 i i0 (by omega)
      exact ⟨a, b, told _ c⟩
  · rw [q26, q26, if_neg (by omega)]
    by_cases z : i' = len
    · rw [if_pos z]; exact hne i i0 (by omega)
    · rw [if_neg z]; exact b7 i i' i0 ii (by omega)
  · rw [tnew, Bool.or_eq_true] at hv2
    rcases hv2 with z | z
    · obtain ⟨i, i0, i1, i2⟩ := b8 v v0 v1 z
      exact ⟨i, i0, by omega, by rw [q26, if_neg (by omega)]; exact i2⟩
    · have := of_decide_eq_true z
      exact ⟨len, by omega, by omega, by rw [q26, if_pos rfl]; omega⟩
  · rw [q26]
    by_cases z : i = len
    · rw [if_pos z, q25, if_pos rfl]
      refine ⟨hx0, hx1, rfl, k, hk.1, by omega, ?_⟩
      rw [q26, if_neg (by omega)]
      exact hx.symm
    · rw [if_neg z, q25, if_neg (hne i (by omega) (by omega))]
      obtain ⟨a, b, c, i', d1, d2, d3⟩ := b9 i i0 (by omega)
      refine ⟨a, b, c, i', d1, d2, ?_⟩
      rw [q26, if_neg (by omega)]
      exact d3
  · rw [tnew, Bool.or_eq_true] at hv2
    rcases hv2 with z | z
    · exact b10 v v0 v1 z vj vo
    · have := of_decide_eq_true z
      have e : v = L x := by omega
      rw [e] at vo ⊢
      exact hnf vo
  · rw [q26, if_neg (by omega)] at hp
    rcases b11 i i0 i1 (by omega) p hp with z | z
    · exact Or.inl z
    · exact Or.inr (told _ z)
theorem sp_X4_fetch {V : St} {K : Int → Bool} {n j o : Int} (hn : n ≤ 10) (hj : 0 ≤ j ∧ j < n) (ho : 0 ≤ o ∧ o < n) (hjo : j ≠ o) (hpb : pbOK (S 24) n) (hsp : ∀ U, spP (S 24) U = sp V K U) (hsr : sparse V K n) (hnb : ¬ both (S 24) j) (h1 : ∀ S', fq [24, 25, 26] S S' → backP (S 24) n j o (S' 24) → Qr 1 S') (h0 : firmP V K n j o → ∀ S', fq [25, 26] S S' → Qr 0 S') : M_X4_fetch j o S Qr Qx := by
  have key39 : ∀ (d : Nat) (k len : Int) (R : Nat) (S1 : St), 0 ≤ k → k + d = 10 → fq [25, 26] S S1 → BI (S 24) n j o S1 R len k → R_X4_fetch_39 j o (R : Int) len k S1 Qr Qx := by
    intro d
    induction d with
    | zero =>
      intro k len R S1 hk0 hk hf hB
      have hB0 := hB
      obtain ⟨b1, b2, b3, b4, b5, b6, b7, b8, b9, b10, b11⟩ := hB0
      have hpr := (pc_rng R).2
      have hfirm : firmP V K n j o := by
        have t := tight (a := j) (b := o) hn hpb hsp hsr b2 hj ho hjo (by have := (b6 0 (Int.le_refl _) (by omega)).2.2; rw [b5] at this; exact this) hnb (fun p p0 p1 hp hl => by
          obtain ⟨i, i0, i1, i2⟩ := b8 (p / 2) (by omega) (by omega) hp
          exact (b11 i i0 (by omega) i1 p i2.symm).resolve_left hl) (fun p p0 p1 hp hl => by
          by_cases z : p / 2 = j
          · exact Or.inl z
          · by_cases z2 : p / 2 = o
            · exact Or.inr z2
            · obtain ⟨y1, y2⟩ := b10 (p / 2) (by omega) (by omega) hp z z2
              rcases (show p = 2 * (p / 2) ∨ p = 2 * (p / 2) + 1 by omega) with e | e
              · rw [← e] at y1; exact absurd hl y1
              · rw [← e] at y2; exact absurd hl y2)
        exact ⟨R, b2, by have := (b6 0 (Int.le_refl _) (by omega)).2.2; rw [b5] at this; exact this, t.1, t.2⟩
      exact vc_X4_fetch_39 fun _ _ _ _ _ _ => ⟨fun _ => h0 hfirm S1 hf, fun _ => ⟨fun _ => h0 hfirm S1 hf, fun z => absurd z (by omega)⟩⟩
    | succ d ih =>
      intro k len R S1 hk0 hk hf hB
      have key64 : ∀ (e : Nat) (x len : Int) (R : Nat) (S1 : St), fq [25, 26] S S1 → BI (S 24) n j o S1 R len k → k < len → x + e = 2 * S1 26 k + 2 → 2 * S1 26 k ≤ x → (∀ p, 2 * S1 26 k ≤ p → p < x → S 24 p = -1 ∨ tb R (S 24 p) = true) → R_X4_fetch_64 j o (R : Int) len k x S1 Qr Qx := by
        intro e
        induction e with
        | zero =>
          intro x len R S1 hf hB hkl hx hx0 hcl
          refine vc_X4_fetch_64 fun _ _ _ _ _ _ _ => ⟨⟨hk0, by omega⟩, ?_⟩
          have hB0 := hB
          obtain ⟨b1, b2, b3, b4, b5, b6, b7, b8, b9, b10, b11⟩ := hB0
          obtain ⟨c0, c1, c2⟩ := b6 k hk0 hkl
          refine ⟨⟨by omega, by omega⟩, fun _ => ⟨⟨by omega, by omega⟩, ih (k + 1) len R S1 (by omega) (by omega) hf ⟨b1, b2, b3, b4, b5, b6, b7, b8, b9, b10, fun i i0 i1 i2 p hp => ?_⟩⟩, fun z => by omega⟩
          by_cases w : i = k
          · rw [w] at hp
            exact hcl p (by omega) (by omega)
          · exact b11 i i0 (by omega) i2 p hp
        | succ e ihe =>
          intro x len R S1 hf hB hkl hx hx0 hcl
          have hB0 := hB
          obtain ⟨b1, b2, b3, b4, b5, b6, b7, b8, b9, b10, b11⟩ := hB0
          obtain ⟨c0, c1, c2⟩ := b6 k hk0 hkl
          have hR10 := lt_pow10 hn b2
          have hpr := (pc_rng R).2
          have hx2 : x / 2 = S1 26 k := by omega
          have hskip : (S 24 x = -1 ∨ tb R (S 24 x) = true) → r32 (x + 1) ∧ R_X4_fetch_64 j o (R : Int) len k (x + 1) S1 Qr Qx := fun z => ⟨⟨by omega, by omega⟩, ihe (x + 1) len R S1 hf hB hkl (by omega) (by omega) fun p p0 p1 => by
            by_cases w : p = x
            · rw [w]; exact z
            · exact hcl p p0 (by omega)⟩
          refine vc_X4_fetch_64 fun _ _ _ _ _ _ _ => ⟨⟨hk0, by omega⟩, ⟨by omega, by omega⟩, fun z => by omega, fun _ => ⟨⟨by omega, by omega⟩, ?_⟩⟩
          rw [b1]
          refine ⟨fun q => hskip (Or.inl q), fun q => ?_⟩
          have hL := (hpb x (by omega) (by omega)).resolve_left q
          refine sp_X6_hasBit (by omega) hL.1 (by omega) fun _ _ => ?_
          by_cases hin : tb R (S 24 x) = true
          · rw [if_pos hin]
            exact ⟨fun _ => hskip (Or.inr hin), fun z => absurd z (by decide)⟩
          rw [if_neg hin]
          have hnew : tb R (S 24 x) = false := Bool.eq_false_iff.2 hin
          have hadd := fun hnf => BI_add hn hB ⟨hk0, hkl⟩ hx2 (by omega) (by omega) ⟨hL.1, hL.2.1⟩ hnew hnf
          have hlen : len < 10 := by
            have := pc_new hL.1 (by omega) hnew
            have := (pc_rng (R ||| 2 ^ (S 24 x).toNat)).2
            omega
          refine ⟨fun z => absurd rfl z, fun _ => ⟨fun z => by omega, fun _ => sp_X6_bit fun _ _ => ⟨⟨hL.1, by omega⟩, ?_⟩⟩⟩
          -- the next one is noted
          have hgo : (S 24 x ≠ o → S 24 (2 * S 24 x) ≠ -1 ∧ S 24 (2 * S 24 x + 1) ≠ -1) → ix len 10 ∧ r32 (len + 1) ∧ r32 (x + 1) ∧ R_X4_fetch_64 j o (zor (R : Int) (zshl 1 (S 24 x))) (len + 1) k (x + 1) (up (up S1 25 (S 24 x) x) 26 len (S 24 x)) Qr Qx := fun hnf => by
            obtain ⟨_, hB2⟩ := hadd hnf
            rw [zor_set hR10 hL.1 (by omega)]
            have e26 : up (up S1 25 (S 24 x) x) 26 len (S 24 x) 26 k = S1 26 k := by rw [up_at, if_neg (by omega), up_ne _ (by decide)]
            refine ⟨⟨by omega, by omega⟩, ⟨by omega, by omega⟩, ⟨by omega, by omega⟩, ihe (x + 1) (len + 1) _ _ (fq_up (fq_up hf (by decide)) (by decide)) hB2 (by omega) (by rw [e26]; omega) (by rw [e26]; omega) fun p p0 p1 => ?_⟩
            rw [e26] at p0
            by_cases w : p = x
            · rw [w, tb_or, tb_pow, decide_eq_true rfl, Bool.or_true]; exact Or.inr rfl
            · rcases hcl p p0 (by omega) with z | z
              · exact Or.inl z
              · rw [tb_or, z]; exact Or.inr rfl
          refine ⟨fun hno => sp_X4_freePebble hL.1 (by omega) (fun z1 z2 => ?_) (fun f f2 f1 => ?_), fun hno => hgo fun z => absurd hno z⟩
          · intro _ _
            rw [up_ne _ (by decide), b1] at z1 z2
            exact ⟨fun _ => hgo fun _ => ⟨z1, z2⟩, fun z => absurd rfl z⟩
          · intro _ _
            rw [up_ne _ (by decide), b1] at f1
            refine ⟨fun z => by omega, fun _ => ?_⟩
            have hW : ∀ i, 0 ≤ i → i < len → S1 26 i ≠ S 24 x := fun i i0 i1 z => by
              have := (b6 i i0 i1).2.2
              rw [z, hnew] at this
              exact absurd this (by decide)
            have hfin := lp_passBack (S := up S1 25 (S 24 x) x) (Qr := fun _ S53 => okC S53 → Qr 1 S53) (Qx := Qx) (L := S 24) (C := up S1 25 (S 24 x) x 25) (W := fun i => if i < len then S1 26 i else S 24 x) (n := n) (j := j) (o := o) (N := len) hn hlen hpb (by show (if (0 : Int) < len then _ else _) = _; rw [if_pos (by omega)]; exact b5) (fun i i0 i1 => by
              show 0 ≤ (if i < len then S1 26 i else S 24 x) ∧ (if i < len then S1 26 i else S 24 x) < n
              by_cases w : i < len
              · rw [if_pos w]; exact ⟨(b6 i i0 w).1, (b6 i i0 w).2.1⟩
              · rw [if_neg w]; exact ⟨hL.1, hL.2.1⟩) (fun i i' i0 ii i1 => by
              show (if i < len then S1 26 i else S 24 x) ≠ (if i' < len then S1 26 i' else S 24 x)
              rw [if_pos (show i < len by omega)]
              by_cases w : i' < len
              · rw [if_pos w]; exact b7 i i' i0 ii w
              · rw [if_neg w]; exact hW i i0 (by omega)) (fun i i0 i1 => by
              show 0 ≤ up S1 25 (S 24 x) x 25 (if i < len then S1 26 i else S 24 x) ∧ up S1 25 (S 24 x) x 25 (if i < len then S1 26 i else S 24 x) < 20 ∧ S 24 (up S1 25 (S 24 x) x 25 (if i < len then S1 26 i else S 24 x)) = (if i < len then S1 26 i else S 24 x) ∧ ∃ i', 0 ≤ i' ∧ i' < i ∧ (if i' < len then S1 26 i' else S 24 x) = up S1 25 (S 24 x) x 25 (if i < len then S1 26 i else S 24 x) / 2
              by_cases w : i < len
              · rw [if_pos w, up_at, if_neg (hW i (by omega) w)]
                obtain ⟨a, b, c, i', d1, d2, d3⟩ := b9 i i0 w
                exact ⟨a, b, c, i', d1, d2, by rw [if_pos (by omega)]; exact d3⟩
              · rw [if_neg w, up_at, if_pos rfl]
                exact ⟨by omega, by omega, rfl, k, hk0, by omega, by rw [if_pos hkl]; exact hx2.symm⟩) (fun S' f' hb' _ => h1 S' (fq_tr (fq_tr (l := [24, 25, 26]) fq_rfl (fq_up hf (by decide)) (by decide)) f' (by decide)) hb') 11 len (up S1 25 (S 24 x) x) f 0 (by omega) (by omega) (Int.le_refl _) (Int.le_refl _) (by omega) fq_rfl rfl (fun p i' _ _ _ => by rw [up_ne _ (by decide), b1]) (by rw [up_ne _ (by decide), b1]; exact f1) (by show f / 2 = (if len < len then _ else _); rw [if_neg (by omega)]; exact f2) (by omega) (by omega) (by
              have : up S1 25 (S 24 x) x 24 = S 24 := by rw [← b1]; funext b; rw [up_ne _ (by decide)]
              rw [this]; exact hpb) (fun U => by
              have : up S1 25 (S 24 x) x 24 = S 24 := by rw [← b1]; funext b; rw [up_ne _ (by decide)]
              rw [this]) (fun z => by omega) (fun z => by
              have : up S1 25 (S 24 x) x 24 = S 24 := by rw [← b1]; funext b; rw [up_ne _ (by decide)]
              rw [this]
              refine ⟨?_, z⟩
              show (if len < len then _ else _) ≠ o
              rw [if_neg (by omega)]; exact hno)
            refine vc_X4_passBack fun _ _ _ _ => ?_
            have e : (if len < len then S1 26 len else S 24 x) = S 24 x := if_neg (by omega)
            have hfin' : R_X4_passBack_9 j (if len < len then S1 26 len else S 24 x) f 0 (up S1 25 (S 24 x) x) (fun _ S53 => okC S53 → Qr 1 S53) Qx := hfin
            rw [e] at hfin'
            exact hfin'
      have hB0 := hB
      obtain ⟨b1, b2, b3, b4, b5, b6, b7, b8, b9, b10, b11⟩ := hB0
      have hpr := (pc_rng R).2
      refine vc_X4_fetch_39 fun _ _ _ _ _ _ => ⟨fun q => ?_, fun q => ⟨fun z => by omega, fun _ => ?_⟩⟩
      · have hclosed := ih (k + 1) len R S1 (by omega) (by omega) hf ⟨b1, b2, b3, b4, b5, b6, b7, b8, b9, b10, fun i i0 i1 i2 p hp => b11 i i0 (by omega) i2 p hp⟩
        have t := tight (a := j) (b := o) hn hpb hsp hsr b2 hj ho hjo (by have := (b6 0 (Int.le_refl _) (by omega)).2.2; rw [b5] at this; exact this) hnb (fun p p0 p1 hp hl => by
          obtain ⟨i, i0, i1, i2⟩ := b8 (p / 2) (by omega) (by omega) hp
          exact (b11 i i0 (by omega) i1 p i2.symm).resolve_left hl) (fun p p0 p1 hp hl => by
          by_cases z : p / 2 = j
          · exact Or.inl z
          · by_cases z2 : p / 2 = o
            · exact Or.inr z2
            · obtain ⟨y1, y2⟩ := b10 (p / 2) (by omega) (by omega) hp z z2
              rcases (show p = 2 * (p / 2) ∨ p = 2 * (p / 2) + 1 by omega) with e | e
              · rw [← e] at y1; exact absurd hl y1
              · rw [← e] at y2; exact absurd hl y2)
        exact h0 ⟨R, b2, by have := (b6 0 (Int.le_refl _) (by omega)).2.2; rw [b5] at this; exact this, t.1, t.2⟩ S1 hf
      · obtain ⟨c0, c1, c2⟩ := b6 k hk0 q
        exact ⟨⟨hk0, by omega⟩, ⟨by omega, by omega⟩, key64 2 (2 * S1 26 k) len R S1 hf hB q (by omega) (Int.le_refl _) fun p p0 p1 => by omega⟩
  have clr : ∀ (d : Nat) (i : Int) (S1 : St), 0 ≤ i → i + d = 10 → fq [25] S S1 → R_X4_fetch_2 j o i S1 Qr Qx := by
    intro d
    induction d with
    | zero =>
      intro i S1 hi0 hi hf
      refine vc_X4_fetch_2 fun _ _ _ _ => ⟨fun _ => sp_X6_bit fun _ _ => ?_, fun z => absurd z (by omega)⟩
      have ej : zshl 1 j = ((2 ^ j.toNat : Nat) : Int) := by
        have e : j = ((j.toNat : Nat) : Int) := (Int.toNat_of_nonneg hj.1).symm
        rw [e, zshl_nat (by omega), Int.toNat_natCast]
      have hpc : pc (2 ^ j.toNat) = 1 := by
        have := pc_new (U := 0) hj.1 (by omega) (by unfold tb; exact Nat.zero_testBit _)
        rw [Nat.zero_or] at this
        have h0 : pc 0 = 0 := by decide
        omega
      rw [ej]
      refine key39 10 0 1 (2 ^ j.toNat) _ (Int.le_refl _) (by decide) (fq_up (fq_tr (l := [25, 26]) fq_rfl hf (by decide)) (by decide)) ⟨?_, Nat.pow_lt_pow_right (by decide) (by omega), hpc.symm, by decide, by rw [up_at, if_pos rfl], fun i i0 i1 => ?_, fun i i' i0 ii i1 => by omega, fun v v0 v1 hv => ⟨0, by decide, by decide, ?_⟩, fun i i0 i1 => by omega, fun v v0 v1 hv vj _ => ?_, fun i i0 i1 => by omega⟩
      · rw [← hf 24 (by decide)]; funext b; rw [up_ne _ (by decide)]
      · rw [up_at, if_pos (by omega)]
        exact ⟨hj.1, hj.2, by rw [tb_pow]; exact decide_eq_true rfl⟩
      · rw [tb_pow] at hv
        have := of_decide_eq_true hv
        rw [up_at, if_pos rfl]; omega
      · rw [tb_pow] at hv
        have := of_decide_eq_true hv
        omega
    | succ d ih =>
      intro i S1 hi0 hi hf
      exact vc_X4_fetch_2 fun _ _ _ _ => ⟨fun z => absurd z (by omega), fun _ => ⟨⟨by omega, by omega⟩, ⟨by omega, by omega⟩, ih (i + 1) _ (by omega) (by omega) (fq_up hf (by decide))⟩⟩
  exact vc_X4_fetch fun _ _ _ => clr 10 0 S (by omega) (by omega) fq_rfl
end PEB3
