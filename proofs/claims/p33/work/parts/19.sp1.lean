/-! COUNTS, and the class's small methods -/
section CN
def cnN (p : Int → Bool) : Nat → Int
  | 0 => 0
  | n + 1 => cnN p n + (if p (n : Int) then 1 else 0)
def cn (p : Int → Bool) (i : Int) : Int := cnN p i.toNat
theorem cn_0 (p : Int → Bool) : cn p 0 = 0 := rfl
theorem cn_s {p : Int → Bool} {i : Int} (h : 0 ≤ i) : cn p (i + 1) = cn p i + (if p i then 1 else 0) := by
  unfold cn
  rw [show (i + 1).toNat = i.toNat + 1 by omega]
  show cnN p i.toNat + (if p ((i.toNat : Nat) : Int) then 1 else 0) = _
  rw [Int.toNat_of_nonneg h]
theorem cn_t {p : Int → Bool} {i : Int} (h : 0 ≤ i) (hp : p i = true) : cn p (i + 1) = cn p i + 1 := by rw [cn_s h, if_pos hp]
theorem cn_f {p : Int → Bool} {i : Int} (h : 0 ≤ i) (hp : p i = false) : cn p (i + 1) = cn p i := by rw [cn_s h, hp]; simp
theorem cnN_rng (p : Int → Bool) : ∀ n : Nat, 0 ≤ cnN p n ∧ cnN p n ≤ n
  | 0 => by simp [cnN]
  | n + 1 => by
    have h := cnN_rng p n
    simp only [cnN]
    split <;> omega
theorem cn_rng (p : Int → Bool) {i : Int} (h : 0 ≤ i) : 0 ≤ cn p i ∧ cn p i ≤ i := by
  have := cnN_rng p i.toNat
  unfold cn
  omega
theorem cn_neg (p : Int → Bool) {i : Int} (h : i ≤ 0) : cn p i = 0 := by
  unfold cn
  rw [show i.toNat = 0 by omega]
  rfl
theorem cnN_congr {p q : Int → Bool} : ∀ n : Nat, (∀ k : Int, 0 ≤ k → k < n → p k = q k) → cnN p n = cnN q n
  | 0, _ => rfl
  | n + 1, h => by
    simp only [cnN]
    rw [cnN_congr n (fun k h0 h1 => h k h0 (by omega)), h n (by omega) (by omega)]
theorem cn_congr {p q : Int → Bool} {i : Int} (h : ∀ k : Int, 0 ≤ k → k < i → p k = q k) : cn p i = cn q i :=
  cnN_congr _ (fun k h0 h1 => h k h0 (by omega))
theorem cnN_mono {p q : Int → Bool} : ∀ n : Nat, (∀ k : Int, 0 ≤ k → k < n → p k = true → q k = true) → cnN p n ≤ cnN q n
  | 0, _ => Int.le_refl _
  | n + 1, h => by
    simp only [cnN]
    have h1 := cnN_mono n (fun k h0 h1 => h k h0 (by omega))
    have h2 := h n (by omega) (by omega)
    by_cases hp : p n = true
    · rw [if_pos hp, if_pos (h2 hp)]; omega
    · rw [if_neg hp]; split <;> omega
theorem cn_mono {p q : Int → Bool} {i : Int} (h : ∀ k : Int, 0 ≤ k → k < i → p k = true → q k = true) : cn p i ≤ cn q i :=
  cnN_mono _ (fun k h0 h1 => h k h0 (by omega))
end CN
section SPA
variable {S : St} {Qr : Int → St → Prop} {Qx : String → St → Prop}
theorem sp_X1_has {a : Int} (h1 : 0 ≤ a → a < S 1 4 → Qr 1 S) (h0 : ¬ (0 ≤ a ∧ a < S 1 4) → Qr 0 S) : M_X1_has a S Qr Qx :=
  vc_X1_has fun hr hok => ⟨fun q => h0 (by omega), fun q => ⟨fun q2 => h0 (by omega), fun q2 => h1 q q2⟩⟩
theorem sp_X1_add {a b : Int} (hn : 0 ≤ S 1 4) (hn2 : S 1 4 < 10) (h : Qr (S 1 4) (up (up (up (up (up S 7 (S 1 4) a) 8 (S 1 4) b) 9 (S 1 4) 0) 10 (S 1 4) (-1)) 1 4 (S 1 4 + 1))) : M_X1_add a b S Qr Qx :=
  vc_X1_add fun ha hb hok => ⟨fun q => ⟨⟨hn, hn2⟩, ⟨by omega, by omega⟩, ⟨by omega, by omega⟩, by rw [Int.add_sub_cancel]; exact h⟩, fun q => absurd q (by omega)⟩
theorem sp_X1_dropLast (hn : 0 < S 1 4) (hn2 : S 1 4 ≤ 10) (h : Qr 0 (up S 1 4 (S 1 4 - 1))) : M_X1_dropLast S Qr Qx :=
  vc_X1_dropLast fun hok => ⟨fun q => absurd q (by omega), fun q => ⟨⟨by omega, by omega⟩, h⟩⟩
theorem sp_X3_has {a : Int} (hc : S 2 5 ≤ 40) (h1 : 0 ≤ a → a < S 2 5 → S 15 a = 0 → Qr 1 S) (h0 : ¬ (0 ≤ a ∧ a < S 2 5 ∧ S 15 a = 0) → Qr 0 S) : M_X3_has a S Qr Qx :=
  vc_X3_has fun hr hok => ⟨fun q => h0 (by omega), fun q => ⟨fun q2 => h0 (by omega), fun q2 => ⟨⟨q, by omega⟩, fun q3 => h0 (by omega), fun q3 => h1 q q2 q3⟩⟩⟩
theorem sp_X3_add {a b t : Int} (hn : 0 ≤ S 2 5) (hn2 : S 2 5 < 40) (h : Qr (S 2 5) (up (up (up (up S 11 (S 2 5) a) 12 (S 2 5) b) 13 (S 2 5) t) 2 5 (S 2 5 + 1))) : M_X3_add a b t S Qr Qx :=
  vc_X3_add fun ha hb ht hok => ⟨fun q => ⟨⟨hn, hn2⟩, ⟨by omega, by omega⟩, ⟨by omega, by omega⟩, by rw [Int.add_sub_cancel]; exact h⟩, fun q => absurd q (by omega)⟩
theorem sp_X3_endsAt {a j : Int} (h0 : 0 ≤ a) (h4 : a < 40) (hy : S 11 a = j ∨ S 12 a = j → Qr 1 S) (hn : ¬ (S 11 a = j ∨ S 12 a = j) → Qr 0 S) : M_X3_endsAt a j S Qr Qx :=
  vc_X3_endsAt fun ha hj hok => ⟨⟨h0, h4⟩, fun q => hy (Or.inl q), fun q => ⟨fun q2 => hn (by omega), fun q2 => hy (Or.inr q2)⟩⟩
/-- a member that is there and ends at j -/
def mEnd (S : St) (j k : Int) : Bool := decide (S 15 k = 0 ∧ (S 11 k = j ∨ S 12 k = j))
def mThere (S : St) (k : Int) : Bool := decide (S 15 k = 0)
theorem lp_X3_endingAt {j : Int} (hj : r32 j) (hc0 : 0 ≤ S 2 5) (hc : S 2 5 ≤ 40) (h : Qr (cn (mEnd S j) (S 2 5)) S) : ∀ (d : Nat) (i : Int), 0 ≤ i → i + d = S 2 5 → R_X3_endingAt_4 j (cn (mEnd S j) i) i S Qr Qx := by
  intro d
  induction d with
  | zero =>
    intro i h0 hi
    have e : i = S 2 5 := by omega
    exact vc_X3_endingAt_4 fun _ _ _ hok => ⟨fun _ => by rw [e]; exact h, fun q => absurd q (by omega)⟩
  | succ d ih =>
    intro i h0 hi
    have hrg := cn_rng (mEnd S j) h0
    have hnx := ih (i + 1) (by omega) (by omega)
    refine vc_X3_endingAt_4 fun _ _ _ hok => ⟨fun q => absurd q (by omega), fun q => sp_X3_has hc (fun p1 p2 p3 => ?_) (fun p => ?_)⟩
    · intro _ _
      refine ⟨fun q => absurd q (by decide), fun _ => sp_X3_endsAt h0 (by omega) (fun p => ?_) (fun p => ?_)⟩
      · intro _ _
        refine ⟨fun q => absurd q (by decide), fun _ => ⟨⟨by omega, by omega⟩, ⟨by omega, by omega⟩, ?_⟩⟩
        rw [cn_t h0 (by simp [mEnd, p3, p])] at hnx
        exact hnx
      · intro _ _
        refine ⟨fun _ => ⟨⟨by omega, by omega⟩, ?_⟩, fun q => absurd rfl q⟩
        rw [cn_f h0 (by simp [mEnd, p3, p])] at hnx
        exact hnx
    · intro _ _
      refine ⟨fun _ => ⟨⟨by omega, by omega⟩, ?_⟩, fun q => absurd rfl q⟩
      have p3 : ¬ S 15 i = 0 := fun z => p ⟨h0, by omega, z⟩
      rw [cn_f h0 (by simp [mEnd, p3])] at hnx
      exact hnx
theorem sp_X3_endingAt {j : Int} (hc0 : 0 ≤ S 2 5) (hc : S 2 5 ≤ 40) (h : Qr (cn (mEnd S j) (S 2 5)) S) : M_X3_endingAt j S Qr Qx :=
  vc_X3_endingAt fun hj _ => lp_X3_endingAt hj hc0 hc h (S 2 5).toNat 0 (by omega) (by omega)
theorem sp_X3_presentAhead {a : Int} (ha0 : 0 ≤ a) (ha : a ≤ S 2 5) (hc : S 2 5 ≤ 40) (h : Qr (cn (mThere S) a) S) : M_X3_presentAhead a S Qr Qx := by
  refine vc_X3_presentAhead fun hr _ => ?_
  have key : ∀ (d : Nat) (i : Int), 0 ≤ i → i + d = a → R_X3_presentAhead_4 a (cn (mThere S) i) i S Qr Qx := by
    intro d
    induction d with
    | zero =>
      intro i h0 hi
      have e : i = a := by omega
      exact vc_X3_presentAhead_4 fun _ _ _ hok => ⟨fun _ => by rw [e]; exact h, fun q => absurd q (by omega)⟩
    | succ d ih =>
      intro i h0 hi
      have hrg := cn_rng (mThere S) h0
      have hnx := ih (i + 1) (by omega) (by omega)
      refine vc_X3_presentAhead_4 fun _ _ _ hok => ⟨fun q => absurd q (by omega), fun q => sp_X3_has hc (fun p1 p2 p3 => ?_) (fun p => ?_)⟩
      · intro _ _
        refine ⟨fun q => absurd q (by decide), fun _ => ⟨⟨by omega, by omega⟩, ⟨by omega, by omega⟩, ?_⟩⟩
        rw [cn_t h0 (by simp [mThere, p3])] at hnx
        exact hnx
      · intro _ _
        refine ⟨fun _ => ⟨⟨by omega, by omega⟩, ?_⟩, fun q => absurd rfl q⟩
        have p3 : ¬ S 15 i = 0 := fun z => p ⟨h0, by omega, z⟩
        rw [cn_f h0 (by simp [mThere, p3])] at hnx
        exact hnx
  exact key a.toNat 0 (by omega) (by omega)
theorem sp_X3_present (hc0 : 0 ≤ S 2 5) (hc : S 2 5 ≤ 40) (h : Qr (cn (mThere S) (S 2 5)) S) : M_X3_present S Qr Qx :=
  vc_X3_present fun _ => sp_X3_presentAhead hc0 (Int.le_refl _) hc fun _ _ => h
/-- some member that is there joins the two -/
def mJoin (S : St) (a b k : Int) : Prop := S 15 k = 0 ∧ (S 11 k = a ∨ S 12 k = a) ∧ (S 11 k = b ∨ S 12 k = b)
theorem sp_X3_join {a b : Int} (hc0 : 0 ≤ S 2 5) (hc : S 2 5 ≤ 40) (h1 : ∀ k, 0 ≤ k → k < S 2 5 → mJoin S a b k → Qr 1 S) (h0 : (∀ k, 0 ≤ k → k < S 2 5 → ¬ mJoin S a b k) → Qr 0 S) : M_X3_join a b S Qr Qx := by
  refine vc_X3_join fun ha hb _ => ?_
  have key : ∀ (d : Nat) (i : Int), 0 ≤ i → i + d = S 2 5 → (∀ k, 0 ≤ k → k < i → ¬ mJoin S a b k) → R_X3_join_2 a b i S Qr Qx := by
    intro d
    induction d with
    | zero =>
      intro i hi0 hi hno
      exact vc_X3_join_2 fun _ _ _ hok => ⟨fun _ => h0 (fun k k0 k1 => hno k k0 (by omega)), fun q => absurd q (by omega)⟩
    | succ d ih =>
      intro i hi0 hi hno
      have hnx : ¬ mJoin S a b i → R_X3_join_2 a b (i + 1) S Qr Qx := fun hz => ih (i + 1) (by omega) (by omega) fun k k0 k1 => by
        rcases Int.lt_or_eq_of_le (show k ≤ i by omega) with q | q
        · exact hno k k0 q
        · rw [q]; exact hz
      refine vc_X3_join_2 fun _ _ _ hok => ⟨fun q => absurd q (by omega), fun q => sp_X3_has hc (fun p1 p2 p3 => ?_) (fun p => ?_)⟩
      · intro _ _
        refine ⟨fun q => absurd q (by decide), fun _ => sp_X3_endsAt hi0 (by omega) (fun p => ?_) (fun p => ?_)⟩
        · intro _ _
          refine ⟨fun q => absurd q (by decide), fun _ => sp_X3_endsAt hi0 (by omega) (fun p' => ?_) (fun p' => ?_)⟩
          · intro _ _
            exact ⟨fun q => absurd q (by decide), fun _ => h1 i hi0 (by omega) ⟨p3, p, p'⟩⟩
          · intro _ _
            exact ⟨fun _ => ⟨⟨by omega, by omega⟩, hnx fun z => p' z.2.2⟩, fun q => absurd rfl q⟩
        · intro _ _
          exact ⟨fun _ => ⟨⟨by omega, by omega⟩, hnx fun z => p z.2.1⟩, fun q => absurd rfl q⟩
      · intro _ _
        exact ⟨fun _ => ⟨⟨by omega, by omega⟩, hnx fun z => p ⟨hi0, by omega, z.1⟩⟩, fun q => absurd rfl q⟩
  exact key (S 2 5).toNat 0 (by omega) (by omega) (fun k k0 k1 => by omega)
theorem sp_X5_add {a b m : Int} (hn : 0 ≤ S 3 3) (hn2 : S 3 3 < 10) (h : Qr 0 (up (up (up (up S 16 (S 3 3) a) 17 (S 3 3) b) 18 (S 3 3) m) 3 3 (S 3 3 + 1))) : M_X5_add a b m S Qr Qx :=
  vc_X5_add fun ha hb ht hok => ⟨fun q => absurd q (by omega), fun q => ⟨⟨hn, hn2⟩, ⟨by omega, by omega⟩, h⟩⟩
theorem sp_X5_bars {a : Int} (h0 : 0 ≤ a) (h9 : a < 10) (h : Qr (if S 18 a = -1 then 2 else 3) S) : M_X5_bars a S Qr Qx :=
  vc_X5_bars fun ha hok => ⟨⟨h0, h9⟩, fun q => by rw [if_neg q] at h; exact h, fun q => by rw [if_pos q] at h; exact h⟩
theorem sp_X5_dropLast (hn : 0 < S 3 3) (hn2 : S 3 3 ≤ 10) (h : Qr 0 (up S 3 3 (S 3 3 - 1))) : M_X5_dropLast S Qr Qx :=
  vc_X5_dropLast fun hok => ⟨fun q => absurd q (by omega), fun q => ⟨⟨by omega, by omega⟩, h⟩⟩
/-- whether a member is told wrongly -/
def mWrong (S : St) (k : Int) : Prop := (S 13 k = 1 ∧ S 14 k < 0) ∨ (S 13 k = 2 ∧ 0 < S 14 k)
theorem sp_X3_isWronglyTold {a : Int} (h0 : 0 ≤ a) (h4 : a < 40) (hy : mWrong S a → Qr 1 S) (hn : ¬ mWrong S a → Qr 0 S) : M_X3_isWronglyTold a S Qr Qx :=
  vc_X3_isWronglyTold fun ha hok => ⟨⟨h0, h4⟩,
    fun q => ⟨fun q2 => hn (by unfold mWrong; omega), fun q2 => ⟨fun q3 => hn (by unfold mWrong; omega), fun q3 => hy (by unfold mWrong; omega)⟩⟩,
    fun q => ⟨fun q2 => hy (by unfold mWrong; omega), fun q2 => ⟨fun q3 => hn (by unfold mWrong; omega), fun q3 => ⟨fun q4 => hn (by unfold mWrong; omega), fun q4 => hy (by unfold mWrong; omega)⟩⟩⟩⟩
theorem sp_X6_bit {a : Int} (h : Qr (zshl 1 a) S) : M_X6_bit a S Qr Qx := vc_X6_bit fun _ _ => h
/-! what the calls ask of their arguments -/
abbrev IOOBE : String := "java/lang/IndexOutOfBoundsException"
abbrev IAE : String := "java/lang/IllegalArgumentException"
abbrev ISE : String := "java/lang/IllegalStateException"
theorem sp_X6_requireJoint {a : Int} (h : 0 ≤ a → a < S 1 4 → Qr 0 S) (hx : ¬ (0 ≤ a ∧ a < S 1 4) → Qx IOOBE S) : M_X6_requireJoint a S Qr Qx :=
  vc_X6_requireJoint fun _ _ => sp_X1_has (fun p q => fun _ _ => ⟨fun _ => h p q, fun z => absurd z (by decide)⟩) (fun p => fun _ _ => ⟨fun z => absurd rfl z, fun _ => hx p⟩)
theorem sp_X6_requireMember {a : Int} (hc : S 2 5 ≤ 40) (h : 0 ≤ a → a < S 2 5 → S 15 a = 0 → Qr 0 S) (hx : ¬ (0 ≤ a ∧ a < S 2 5 ∧ S 15 a = 0) → Qx IOOBE S) : M_X6_requireMember a S Qr Qx :=
  vc_X6_requireMember fun _ _ => sp_X3_has hc (fun p q q2 => fun _ _ => ⟨fun _ => h p q q2, fun z => absurd z (by decide)⟩) (fun p => fun _ _ => ⟨fun z => absurd rfl z, fun _ => hx p⟩)
theorem sp_X6_requireCount {a : Int} (h : 0 ≤ a → Qr 0 S) (hx : a < 0 → Qx IOOBE S) : M_X6_requireCount a S Qr Qx := vc_X6_requireCount fun _ _ => ⟨h, hx⟩
theorem sp_X6_requireTwo {a b : Int} (h : a ≠ b → Qr 0 S) (hx : a = b → Qx IAE S) : M_X6_requireTwo a b S Qr Qx := vc_X6_requireTwo fun _ _ _ => ⟨h, hx⟩
/-- a point in range -/
def inPt (x y : Int) : Prop := -50 ≤ x ∧ x ≤ 50 ∧ -50 ≤ y ∧ y ≤ 50
theorem sp_X6_requirePoint {a b : Int} (h : inPt a b → Qr 0 S) (hx : ¬ inPt a b → Qx IAE S) : M_X6_requirePoint a b S Qr Qx :=
  vc_X6_requirePoint fun _ _ _ => ⟨fun q => hx (by unfold inPt; omega), fun q => ⟨fun q => hx (by unfold inPt; omega), fun q => ⟨fun q => hx (by unfold inPt; omega), fun q => ⟨fun q => h (by unfold inPt; omega), fun q => hx (by unfold inPt; omega)⟩⟩⟩⟩
theorem sp_X6_requireRoomForJoint (h : S 1 4 < 10 → Qr 0 S) (hx : 10 ≤ S 1 4 → Qx ISE S) : M_X6_requireRoomForJoint S Qr Qx := vc_X6_requireRoomForJoint fun _ => ⟨h, hx⟩
theorem sp_X6_requireRoomForMembers {a : Int} (h0 : 0 ≤ a) (h4 : a ≤ 40) (h : S 2 5 + a ≤ 40 → Qr 0 S) (hx : 40 < S 2 5 + a → Qx ISE S) : M_X6_requireRoomForMembers a S Qr Qx :=
  vc_X6_requireRoomForMembers fun _ _ => ⟨⟨by omega, by omega⟩, fun q => h (by omega), fun q => hx (by omega)⟩
theorem sp_X6_requireError {a : Int} (h : 0 ≤ a → a ≤ 5000 → Qr 0 S) (hx : ¬ (0 ≤ a ∧ a ≤ 5000) → Qx IAE S) : M_X6_requireError a S Qr Qx :=
  vc_X6_requireError fun _ _ => ⟨fun q => hx (by omega), fun q => ⟨fun q2 => h q q2, fun q2 => hx (by omega)⟩⟩
end SPA
