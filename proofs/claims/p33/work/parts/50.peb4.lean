/-! PEBBLES: what can be covered -/
section PEB4
variable {S : St} {Qr : Int → St → Prop} {Qx : String → St → Prop}
def PI (V : St) (K : Int → Bool) (n : Int) (S : St) : Prop := pbOK (S 24) n ∧ ∀ U, spP (S 24) U = sp V K U
def us (L : Int → Int) (j : Int) : Int := (if L (2 * j) = -1 then 0 else 1) + (if L (2 * j + 1) = -1 then 0 else 1)
theorem us_both {L : Int → Int} {j : Int} (h : us L j ≤ 0) : both L j := by
  unfold us at h
  constructor
  · by_cases q : L (2 * j) = -1
    · exact q
    · rw [if_neg q] at h; split at h <;> omega
  · by_cases q : L (2 * j + 1) = -1
    · exact q
    · rw [if_neg q] at h; split at h <;> omega
theorem us_back {L L' : Int → Int} {n j o : Int} (h : backP L n j o L') : us L' j + 1 ≤ us L j := by
  obtain ⟨_, _, ⟨p0, e, a, b, c⟩, _⟩ := h
  unfold us
  rcases (show p0 = 2 * j ∨ p0 = 2 * j + 1 by omega) with z | z
  · rw [z] at a b c
    rw [c (2 * j + 1) (by omega) (by omega), b, if_pos rfl, if_neg a]
    omega
  · rw [z] at a b c
    rw [c (2 * j) (by omega) (by omega), b, if_pos rfl, if_neg a]
    omega
theorem us_two (L : Int → Int) (j : Int) : us L j ≤ 2 := by unfold us; split <;> split <;> omega
theorem sp_X4_freeBoth {V : St} {K : Int → Bool} {n j o : Int} (hn : n ≤ 10) (hj : 0 ≤ j ∧ j < n) (ho : 0 ≤ o ∧ o < n) (hjo : j ≠ o) (hP : PI V K n S) (hsr : sparse V K n) (h1 : ∀ S', fq [24, 25, 26] S S' → PI V K n S' → both (S' 24) j → (both (S 24) o → both (S' 24) o) → Qr 1 S') (h0 : firmP V K n j o → ∀ S', fq [24, 25, 26] S S' → PI V K n S' → Qr 0 S') : M_X4_freeBoth j o S Qr Qx := by
  have key : ∀ (d : Nat) (r : Int) (S1 : St), 0 ≤ r → r + d = 2 → fq [24, 25, 26] S S1 → PI V K n S1 → us (S1 24) j ≤ 2 - r → (both (S 24) o → both (S1 24) o) → R_X4_freeBoth_2 j o r S1 Qr Qx := by
    intro d
    induction d with
    | zero =>
      intro r S1 hr0 hr hf hP1 hu ho1
      have hb := us_both (j := j) (show us (S1 24) j ≤ 0 by omega)
      exact vc_X4_freeBoth_2 fun _ _ _ _ => ⟨fun _ => sp_X4_hasBoth hj.1 (by omega) (fun z _ _ => ⟨by decide, h1 S1 hf hP1 z ho1⟩) (fun z => absurd hb z), fun z => absurd z (by omega)⟩
    | succ d ih =>
      intro r S1 hr0 hr hf hP1 hu ho1
      refine vc_X4_freeBoth_2 fun _ _ _ _ => ⟨fun z => absurd z (by omega), fun _ => sp_X4_hasBoth hj.1 (by omega) (fun z _ _ => ⟨fun _ => sp_X4_hasBoth hj.1 (by omega) (fun z _ _ => ⟨by decide, h1 S1 hf hP1 z ho1⟩) (fun z2 => absurd z z2), fun z => absurd z (by decide)⟩) (fun z _ _ => ⟨fun z => absurd rfl z, fun _ => ?_⟩)⟩
      refine sp_X4_fetch hn hj ho hjo hP1.1 hP1.2 hsr z (fun S2 f2 hb => ?_) (fun hfm S2 f2 => ?_)
      · intro _ _
        have hu2 := us_back hb
        exact ⟨fun _ => ⟨⟨by omega, by omega⟩, ih (r + 1) S2 (by omega) (by omega) (fq_tr hf f2 (fun _ z => z)) ⟨hb.1, fun U => by rw [hb.2.1]; exact hP1.2 U⟩ (by omega) fun z => hb.2.2.2 (ho1 z)⟩, fun z => absurd z (by decide)⟩
      · intro _ _
        have e24 : S2 24 = S1 24 := f2 24 (by decide)
        exact ⟨fun z => absurd rfl z, fun _ => h0 hfm S2 (fq_tr hf f2 (by decide)) ⟨by rw [e24]; exact hP1.1, by rw [e24]; exact hP1.2⟩⟩
  exact vc_X4_freeBoth fun _ _ _ => key 2 0 S (by decide) (by decide) fq_rfl hP (us_two _ _) fun z => z
theorem firmP_symm {V : St} {K : Int → Bool} {n a b : Int} (h : firmP V K n a b) : firmP V K n b a := by
  obtain ⟨R, h1, h2, h3, h4⟩ := h
  exact ⟨R, h1, h3, h2, h4⟩
theorem sp_X4_canCover {V : St} {K : Int → Bool} {n a b : Int} (hn : n ≤ 10) (ha : 0 ≤ a ∧ a < n) (hb : 0 ≤ b ∧ b < n) (hab : a ≠ b) (hP : PI V K n S) (hsr : sparse V K n) (h1 : ¬ firmP V K n a b → ∀ S', fq [24, 25, 26] S S' → PI V K n S' → S' 24 (2 * a) = -1 → (∀ U : Nat, tb U a = true → tb U b = true → sp V K U ≤ 2 * pc U - 4) → Qr 1 S') (h0 : firmP V K n a b → ∀ S', fq [24, 25, 26] S S' → PI V K n S' → Qr 0 S') : M_X4_canCover a b S Qr Qx := by
  refine vc_X4_canCover fun _ _ _ => sp_X4_freeBoth hn ha hb hab hP hsr (fun S1 f1 P1 ba _ => ?_) (fun hfm S1 f1 P1 => ?_)
  · intro _ _
    refine ⟨fun z => absurd z (by decide), fun _ => sp_X4_freeBoth hn hb ha (fun z => hab z.symm) P1 hsr (fun S2 f2 P2 bb hk => ?_) (fun hfm S2 f2 P2 => ?_)⟩
    · intro _ _
      have hba := hk ba
      have h4 : ∀ U : Nat, tb U a = true → tb U b = true → sp V K U ≤ 2 * pc U - 4 := fun U ua ub => by
        rw [← P2.2]
        exact free4 ⟨ha.1, by omega⟩ ⟨hb.1, by omega⟩ hab hba bb ua ub
      refine ⟨fun z => absurd z (by decide), fun _ => h1 (fun z => ?_) S2 (fq_tr f1 f2 (fun _ z => z)) P2 hba.1 h4⟩
      obtain ⟨R, _, r2, r3, r4⟩ := z
      have := h4 R r2 r3
      omega
    · intro _ _
      exact ⟨fun _ => h0 (firmP_symm hfm) S2 (fq_tr f1 f2 (fun _ z => z)) P2, fun z => absurd rfl z⟩
  · intro _ _
    exact ⟨fun _ => h0 hfm S1 f1 P1, fun z => absurd rfl z⟩
theorem sp_X4_clear {V : St} {n : Int} {K : Int → Bool} (hK : ∀ k, K k = false) (h : ∀ S', fq [24] S S' → PI V K n S' → Qr 0 S') : M_X4_clear S Qr Qx := by
  have key : ∀ (d : Nat) (i : Int) (S1 : St), 0 ≤ i → i + d = 20 → fq [24] S S1 → (∀ p, 0 ≤ p → p < i → S1 24 p = -1) → R_X4_clear_2 i S1 Qr Qx := by
    intro d
    induction d with
    | zero =>
      intro i S1 hi0 hi hf hz
      refine vc_X4_clear_2 fun _ _ => ⟨fun _ => h S1 hf ⟨fun p p0 p1 => Or.inl (hz p p0 (by omega)), fun U => ?_⟩, fun z => absurd z (by omega)⟩
      have e1 : spP (S1 24) U = cn (fun _ => false) 20 := cn_congr fun p p0 p1 => by
        unfold spb
        rw [hz p p0 (by omega)]
        rfl
      have e2 : sp V K U = cn (fun _ => false) 40 := cn_congr fun k _ _ => by rw [hK]; rfl
      have e3 : cn (fun _ => false) 20 = 0 := by decide
      have e4 : cn (fun _ => false) 40 = 0 := by decide
      rw [e1, e2, e3, e4]
    | succ d ih =>
      intro i S1 hi0 hi hf hz
      refine vc_X4_clear_2 fun _ _ => ⟨fun z => absurd z (by omega), fun _ => ⟨⟨by omega, by omega⟩, ⟨by omega, by omega⟩, ih (i + 1) _ (by omega) (by omega) (fq_up hf (by decide)) fun p p0 p1 => ?_⟩⟩
      rw [up_at]
      split
      · rfl
      · exact hz p p0 (by omega)
  exact vc_X4_clear fun _ => key 20 0 S (by decide) (by decide) fq_rfl fun p p0 p1 => by omega
/-- the kept ones -/
def firmB (V : St) (K : Int → Bool) (n a b : Int) : Bool := any (fun u => (tb u.toNat a && tb u.toNat b) && decide (sp V K u.toNat = 2 * pc u.toNat - 3)) ((2 ^ n.toNat : Nat) : Int)
theorem firm_iff {V : St} {K : Int → Bool} {n a b : Int} : firmB V K n a b = true ↔ firmP V K n a b := by
  unfold firmB any
  rw [decide_eq_true_iff]
  constructor
  · intro h
    obtain ⟨x, x0, x1, x2, _⟩ := cn_ex (Int.le_refl 0) (2 ^ n.toNat) ((2 ^ n.toNat : Nat) : Int) rfl h
    rw [Bool.and_eq_true, Bool.and_eq_true] at x2
    exact ⟨x.toNat, by omega, x2.1.1, x2.1.2, of_decide_eq_true x2.2⟩
  · rintro ⟨R, h1, h2, h3, h4⟩
    have := cn_lt (p := fun u => (tb u.toNat a && tb u.toNat b) && decide (sp V K u.toNat = 2 * pc u.toNat - 3)) (i := (R : Int)) (j := ((2 ^ n.toNat : Nat) : Int)) (by omega) (by omega) (by
      show ((tb (R : Int).toNat a && tb (R : Int).toNat b) && decide (sp V K (R : Int).toNat = 2 * pc (R : Int).toNat - 3)) = true
      rw [Int.toNat_natCast, h2, h3, decide_eq_true h4]
      rfl)
    have h5 := cn_rng (fun u => (tb u.toNat a && tb u.toNat b) && decide (sp V K u.toNat = 2 * pc u.toNat - 3)) (i := (R : Int)) (by omega)
    omega
def kN (V : St) (n a : Int) : Nat → Int → Bool
  | 0 => fun _ => false
  | i + 1 => fun k => if k = (i : Int) then mKept V a (i : Int) && !(firmB V (kN V n a i) n (V 11 (i : Int)) (V 12 (i : Int))) else kN V n a i k
def kp (V : St) (n a i : Int) : Int → Bool := kN V n a i.toNat
theorem kp_s {V : St} {n a i : Int} (h : 0 ≤ i) (k : Int) : kp V n a (i + 1) k = if k = i then mKept V a i && !(firmB V (kp V n a i) n (V 11 i) (V 12 i)) else kp V n a i k := by
  unfold kp
  rw [show (i + 1).toNat = i.toNat + 1 by omega]
  show (if k = ((i.toNat : Nat) : Int) then mKept V a ((i.toNat : Nat) : Int) && !(firmB V (kN V n a i.toNat) n (V 11 ((i.toNat : Nat) : Int)) (V 12 ((i.toNat : Nat) : Int))) else kN V n a i.toNat k) = _
  rw [Int.toNat_of_nonneg h]
theorem kp_out {V : St} {n a : Int} : ∀ (d : Nat) (i : Int), i = d → ∀ k, i ≤ k → kp V n a i k = false := by
  intro d
  induction d with
  | zero => intro i hi k _; rw [hi]; rfl
  | succ d ih =>
    intro i hi k hk
    have hs := kp_s (V := V) (n := n) (a := a) (i := i - 1) (by omega) k
    rw [Int.sub_add_cancel] at hs
    rw [hs, if_neg (by omega)]
    exact ih (i - 1) (by omega) k (by omega)
theorem kp_no {V : St} {n a i : Int} (h : 0 ≤ i) (hn : (mKept V a i && !(firmB V (kp V n a i) n (V 11 i) (V 12 i))) = false) : kp V n a (i + 1) = kp V n a i := by
  funext k
  rw [kp_s h]
  by_cases q : k = i
  · rw [if_pos q, hn, q, kp_out i.toNat i (by omega) i (Int.le_refl _)]
  · rw [if_neg q]
theorem sp_yes {V : St} {n a i : Int} (h : 0 ≤ i) (h4 : i < 40) (hn : (mKept V a i && !(firmB V (kp V n a i) n (V 11 i) (V 12 i))) = true) (U : Nat) : sp V (kp V n a (i + 1)) U = sp V (kp V n a i) U + bi (tb U (V 11 i) && tb U (V 12 i)) := by
  have := cn_chg20 (p := fun k => kp V n a i k && (tb U (V 11 k) && tb U (V 12 k))) (q := fun k => kp V n a (i + 1) k && (tb U (V 11 k) && tb U (V 12 k))) h h4 (fun k hk => by rw [kp_s h, if_neg hk])
  rw [kp_s h, if_pos rfl, hn, kp_out i.toNat i (by omega) i (Int.le_refl _)] at this
  have z0 : bi (false && (tb U (V 11 i) && tb U (V 12 i))) = 0 := rfl
  rw [z0, Bool.true_and] at this
  unfold sp
  omega
end PEB4
