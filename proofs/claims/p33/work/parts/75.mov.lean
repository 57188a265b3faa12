/-! THE LAW ON FLEXES AND BALANCES -/
section MOV
variable {S V : St} {D E : Int → Int} {Qr : Int → St → Prop} {Qx : String → St → Prop}
theorem mul_rg {a d : Int} (ha : r32 a) (hd : -100 ≤ d ∧ d ≤ 100) : -214748364800 ≤ a * d ∧ a * d ≤ 214748364800 := by
  rcases Int.le_total 0 a with q | q <;> rcases Int.le_total 0 d with q2 | q2
  · have := mulb (M := 2147483648) q (by omega) q2 hd.2; omega
  · have := mulb (b := -d) (M := 2147483648) (N := 100) q (by omega) (by omega) (by omega)
    rw [Int.mul_neg] at this; omega
  · have := mulb (a := -a) (M := 2147483648) (by omega) (by omega) q2 hd.2
    rw [Int.neg_mul] at this; omega
  · have := mulb (a := -a) (b := -d) (M := 2147483648) (N := 100) (by omega) (by omega) (by omega) (by omega)
    rw [Int.neg_mul_neg] at this; omega
theorem cl_flex0 {x j y : Int} (hI : Inv V) (h : lv S V D E) (hj : 0 ≤ j ∧ j < V 1 0) (hm : 0 < lw V (V 1 0) - rk V (-1)) (hx : isFreeC (rkL V (V 7) (V 8) (lc V) (lw V (V 1 0)) (-1) (V 2 0)).2.2 (lw V (V 1 0)) 0 x) (k : ∀ S', lv (pu S S') V D E → Qr (flexAt (rkL V (V 7) (V 8) (lc V) (lw V (V 1 0)) (-1) (V 2 0)) V x j y) S') : M_X6_flex 0 j y S Qr Qx :=
  cl_flex hI h hj (Int.le_refl _) fun r hr S' l => by
    rcases hr with ⟨q, _⟩ | ⟨_, x', q, e⟩
    · omega
    · rw [e, isFreeC_uniq q hx]; exact k S' l
theorem sL_isMoved {k : Int} (hL : LJ V D E) (h : lv S V D E) (k0 : 0 ≤ k) (k1 : k < V 2 0) (hm : 0 < lw V (V 1 0) - rk V (-1)) (hQ : ∀ S', lv S' V D E → Qr 1 S') : M_L_isMoved k S Qr Qx := by
  obtain ⟨hI, hX, ⟨d0, d1, d2⟩, hE, hmm, h32⟩ := id hL
  have hP := hI.2.1.2.2
  obtain ⟨x, hx⟩ := flex_free hI hm
  have a1 : S 71 (2 * k) = V 11 k := by rw [h.2.2]; exact (hE k k0 k1).1
  have a2 : S 71 (2 * k + 1) = V 12 k := by rw [h.2.2]; exact (hE k k0 k1).2
  refine vc_L_isMoved fun _ _ => ?_
  rw [a1, a2]
  refine ⟨⟨by omega, by omega⟩, ⟨by omega, by omega⟩, sA_redundant hI h (fun ht r r0 S' l => ?_) (fun _ S' l _ _ => ⟨fun q => absurd q (by decide), fun _ => hQ _ l⟩)⟩
  obtain ⟨b1, b2, b3, b4, b5, b6⟩ := hI.1.2.2.2.2 k k0 k1
  obtain ⟨b7, b8⟩ := b6 ht.2.2
  have p1 := hP _ b1 b7
  have p2 := hP _ b3 b8
  have hker := flex_ker hI k0 k1 ht.2.2 hx.1 hx.2.1 hx.2.2.1
  refine fun _ _ => ⟨fun _ => cl_of0 hI l ⟨b1, b7⟩ fun S1 m1 _ _ => cl_of0 hI m1 ⟨b3, b8⟩ fun S2 m2 _ _ => ⟨⟨by omega, by omega⟩, cl_of1 hI m2 ⟨b1, b7⟩ fun S3 m3 _ _ => cl_of1 hI m3 ⟨b3, b8⟩ fun S4 m4 _ _ => ⟨⟨by omega, by omega⟩, ?_⟩⟩, fun q => by omega⟩
  have e1 : -100 ≤ V 7 (V 11 k) - V 7 (V 12 k) ∧ V 7 (V 11 k) - V 7 (V 12 k) ≤ 100 := by omega
  have e2 : -100 ≤ V 8 (V 11 k) - V 8 (V 12 k) ∧ V 8 (V 11 k) - V 8 (V 12 k) ≤ 100 := by omega
  generalize V 7 (V 11 k) - V 7 (V 12 k) = dx at *
  generalize V 8 (V 11 k) - V 8 (V 12 k) = dy at *
  refine vc_L_isMoved_61 fun _ _ _ _ _ => cl_flex0 hI m4 ⟨b1, b7⟩ hm hx fun S5 m5 r5 _ => cl_flex0 hI m5 ⟨b1, b7⟩ hm hx fun S6 m6 r6 _ => ?_
  have g1 := mul_rg r5 e1
  have g2 := mul_rg r6 e2
  refine ⟨⟨by omega, by omega⟩, vc_L_isMoved_86 fun _ _ _ _ _ => cl_flex0 hI m6 ⟨b3, b8⟩ hm hx fun S7 m7 r7 _ => cl_flex0 hI m7 ⟨b3, b8⟩ hm hx fun S8 m8 r8 _ => ?_⟩
  have g3 := mul_rg r7 e1
  have g4 := mul_rg r8 e2
  generalize flexAt (rkL V (V 7) (V 8) (lc V) (lw V (V 1 0)) (-1) (V 2 0)) V x (V 11 k) 0 = f0 at *
  generalize flexAt (rkL V (V 7) (V 8) (lc V) (lw V (V 1 0)) (-1) (V 2 0)) V x (V 11 k) 1 = f1 at *
  generalize flexAt (rkL V (V 7) (V 8) (lc V) (lw V (V 1 0)) (-1) (V 2 0)) V x (V 12 k) 0 = t0 at *
  generalize flexAt (rkL V (V 7) (V 8) (lc V) (lw V (V 1 0)) (-1) (V 2 0)) V x (V 12 k) 1 = t1 at *
  have hd : dv (f0 * dx + f1 * dy - (t0 * dx + t1 * dy)) := by
    rw [Int.mul_sub, Int.mul_sub, Int.mul_comm dx, Int.mul_comm dx, Int.mul_comm dy, Int.mul_comm dy] at hker
    omega
  have ht0 : Int.tmod (f0 * dx + f1 * dy - (t0 * dx + t1 * dy)) 1000003 = 0 := Int.tmod_eq_zero_of_dvd hd
  rw [ht0]
  exact ⟨⟨by omega, by omega⟩, ⟨by decide, by decide⟩, fun q => absurd rfl q, fun _ => hQ _ m8⟩
/-- a balance's number at a member -/
def bq (V : St) (x i : Int) : Int := sol (bl V).1 (bl V).2.2 x (cn (mThere V) i)
def bt (V : St) (g : Nat) (x j i : Int) : Int := if mEnd V j i then bq V x i * (V g j - V g (oth V j i)) else 0
def bu (V : St) (x i : Int) : Bool := decide (V 15 i = 0 ∧ bq V x i = 1)
theorem bq_rg {V : St} {x i : Int} : 0 ≤ bq V x i ∧ bq V x i ≤ 1000002 := by
  unfold bq sol
  split
  · have := modP (-((bl V).1 ((bl V).2.2 (cn (mThere V) i)) x))
    unfold rgP at this
    omega
  · split <;> decide
theorem sm_abs {f : Int → Int} {c : Int} : ∀ (d : Nat) (n : Int), n = d → (∀ j, 0 ≤ j → j < n → -c ≤ f j ∧ f j ≤ c) → -(n * c) ≤ sm f n ∧ sm f n ≤ n * c := by
  intro d
  induction d with
  | zero => intro n hn _; rw [hn]; show -(((0 : Nat) : Int) * c) ≤ 0 ∧ 0 ≤ ((0 : Nat) : Int) * c; rw [show ((0 : Nat) : Int) = 0 from rfl, Int.zero_mul]; exact ⟨by omega, by omega⟩
  | succ d ih =>
    intro n hn h
    have h1 := sm_s (f := f) (i := n - 1) (by omega)
    rw [Int.sub_add_cancel] at h1
    have h2 := ih (n - 1) (by omega) (fun j j0 j1 => h j j0 (by omega))
    have h3 := h (n - 1) (by omega) (by omega)
    rw [Int.sub_mul, Int.one_mul] at h2
    omega
theorem bt_rg {V : St} {g : Nat} {x j i : Int} (hI : Inv V) (hg : g = 7 ∨ g = 8) (hj : 0 ≤ j ∧ j < V 1 0) (i0 : 0 ≤ i) (i1 : i < V 2 0) : -100000200 ≤ bt V g x j i ∧ bt V g x j i ≤ 100000200 := by
  unfold bt
  by_cases q : mEnd V j i = true
  · rw [if_pos q]
    have q' := of_decide_eq_true q
    obtain ⟨b1, b2, b3, b4, b5, b6⟩ := hI.1.2.2.2.2 i i0 i1
    obtain ⟨b7, b8⟩ := b6 q'.1
    have ho : 0 ≤ oth V j i ∧ oth V j i < V 1 0 := by unfold oth; split <;> omega
    have p1 := hI.2.1.2.2 j hj.1 hj.2
    have p2 := hI.2.1.2.2 _ ho.1 ho.2
    have hb := bq_rg (V := V) (x := x) (i := i)
    have hd : -100 ≤ V g j - V g (oth V j i) ∧ V g j - V g (oth V j i) ≤ 100 := by rcases hg with rfl | rfl <;> omega
    rcases Int.le_total 0 (V g j - V g (oth V j i)) with z | z
    · have := mulb hb.1 hb.2 z hd.2; omega
    · have := mulb (b := -(V g j - V g (oth V j i))) (N := 100) hb.1 hb.2 (by omega) (by omega)
      rw [Int.mul_neg] at this; omega
  · rw [if_neg q]; decide
end MOV
