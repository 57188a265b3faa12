/-! GLOBAL: what hangs together, of the reference -/
section HANG2
theorem nr_has {V : St} {x k m : Int} (hE : ends V m) (k0 : 0 ≤ k) (hk : k < m) (hp : V 15 k = 0) : ∀ (d : Nat) (i : Int), i = k + 1 + d → (V 11 k = x → tb (nr V x i) (V 12 k) = true) ∧ (V 12 k = x → V 11 k ≠ x → tb (nr V x i) (V 11 k) = true) := by
  intro d
  induction d with
  | zero =>
    intro i hi
    have hs := nr_s (V := V) (j := x) k0
    rw [show i = k + 1 by omega, hs, if_pos hp]
    obtain ⟨b1, b2, b3, b4⟩ := hE k k0 hk
    refine ⟨fun q => ?_, fun q q2 => ?_⟩
    · rw [if_pos q, tb_or, tb_pow, decide_eq_true rfl, Bool.or_true]
    · rw [if_neg q2, if_pos q, tb_or, tb_pow, decide_eq_true rfl, Bool.or_true]
  | succ d ih =>
    intro i hi
    obtain ⟨a, b⟩ := ih (i - 1) (by omega)
    have hs := nr_s (V := V) (j := x) (i := i - 1) (by omega)
    rw [Int.sub_add_cancel] at hs
    rw [hs]
    exact ⟨fun q => by rw [tb_or, a q]; rfl, fun q q2 => by rw [tb_or, b q q2]; rfl⟩
/-- all joints but two -/
def wo (n a b : Int) : Nat := (2 ^ n.toNat - 1) ^^^ ((2 ^ n.toNat - 1) &&& two a b)
theorem tb_all {n e : Int} (e0 : 0 ≤ e) : tb (2 ^ n.toNat - 1) e = decide (e < n) := by
  unfold tb
  rw [Nat.testBit_two_pow_sub_one, decide_eq_decide]
  omega
theorem tb_xor (U W : Nat) (i : Int) : tb (U ^^^ W) i = (tb U i != tb W i) := Nat.testBit_xor ..
theorem all_lt {n : Int} (h : n ≤ 10) : 2 ^ n.toNat - 1 < 2 ^ 10 := by
  have h1 := pow_le10 h
  have h2 : 0 < 2 ^ n.toNat := Nat.two_pow_pos _
  omega
theorem wo_lt {n a b : Int} (h : n ≤ 10) : wo n a b < 2 ^ 10 := Nat.xor_lt_two_pow (all_lt h) (Nat.lt_of_le_of_lt Nat.and_le_left (all_lt h))
theorem wo_pc {n a b : Int} (n0 : 0 ≤ n) (n10 : n ≤ 10) (ha : 0 ≤ a ∧ a < n) : pc (wo n a b) < n := by
  have hall : pc (2 ^ n.toNat - 1) = n := by
    have h9 : pc (2 ^ n.toNat - 1) = cn (fun e => decide (e < n)) 10 := cn_congr fun e e0 _ => tb_all e0
    rw [h9, cn_below n0 n10]
  have ta : tb (wo n a b) a = false := by
    unfold wo
    rw [tb_xor, tb_and, tb_all ha.1, decide_eq_true ha.2]
    have : tb (two a b) a = true := by unfold two; rw [tb_or, tb_pow, decide_eq_true rfl]; rfl
    rw [this]; rfl
  have tt : tb (2 ^ n.toNat - 1) a = true := by rw [tb_all ha.1, decide_eq_true ha.2]
  have h := pc_lt (wo_lt (a := a) (b := b) n10) (all_lt n10) (fun j j0 j1 hj => by
    unfold wo at hj
    rw [tb_xor, tb_and] at hj
    cases hx : tb (2 ^ n.toNat - 1) j
    · rw [hx, Bool.false_and] at hj; exact absurd hj (by decide)
    · rfl) (fun z => by rw [z, ta] at tt; exact absurd tt (by decide))
  omega
theorem all_val {n : Int} (n0 : 0 ≤ n) (n10 : n ≤ 10) : zshl 1 n - 1 = ((2 ^ n.toNat - 1 : Nat) : Int) := by
  have h2 : 0 < 2 ^ n.toNat := Nat.two_pow_pos _
  rw [zshl_pow n0 (by omega)]
  omega
theorem wo_ref {n a b : Int} (n0 : 0 ≤ n) (n10 : n ≤ 10) : zand (zshl 1 n - 1) (zxor ((two a b : Nat) : Int) (-1)) = ((wo n a b : Nat) : Int) := by
  have := all_lt n10
  rw [all_val n0 n10, zandn_nat (by omega)]
  rfl
theorem wo_cls {n a b : Int} (n0 : 0 ≤ n) (n10 : n ≤ 10) (ha : 0 ≤ a ∧ a < 10) (hb : 0 ≤ b ∧ b < 10) : zand (zand (zshl 1 n - 1) (zxor (zshl 1 a) (-1))) (zxor (zshl 1 b) (-1)) = ((wo n a b : Nat) : Int) := by
  have h1 := all_lt n10
  have h2 : (2 ^ n.toNat - 1) ^^^ ((2 ^ n.toNat - 1) &&& 2 ^ a.toNat) < 2 ^ 10 := Nat.xor_lt_two_pow h1 (Nat.lt_of_le_of_lt Nat.and_le_left h1)
  rw [all_val n0 n10, zshl_pow ha.1 (by omega), zandn_nat (by omega), zshl_pow hb.1 (by omega), zandn_nat (by omega)]
  congr 1
  unfold wo two
  apply Nat.eq_of_testBit_eq
  intro j
  simp only [Nat.testBit_xor, Nat.testBit_and, Nat.testBit_or]
  cases (2 ^ n.toNat - 1).testBit j <;> cases (2 ^ a.toNat).testBit j <;> cases (2 ^ b.toNat).testBit j <;> rfl
variable {S : St} {Qr : Int → St → Prop} {Qx : String → St → Prop}
theorem lp_X7_round {W U : Nat} {q : Int} (hI : Inv (cs S)) (hq : 0 ≤ q ∧ q < 10) (hW : W < 2 ^ 10) (hU : U < 2 ^ 10) (hWU : sub W U) (h : ∀ W' : Nat, rnd (cs S) (cs S 2 0) U W W' → R_X7_doHang_21 (U : Int) (W' : Int) (q + 1) S Qr Qx) : R_X7_doHang_33 (U : Int) (W : Int) q 0 S Qr Qx := by
  have hE := vOK_ends hI.1
  obtain ⟨n0, n10, m0, m40, hv⟩ := hI.1
  have key : ∀ (d : Nat) (k : Int) (C : Nat), 0 ≤ k → k + d = cs S 1 0 → C < 2 ^ 10 → sub W C → sub C U → (∀ X : Nat, sub W X → clo (cs S) (cs S 2 0) U X → sub C X) → (C = W → ∀ x, 0 ≤ x → x < k → tb W x = true → sub (nr (cs S) x (cs S 2 0) &&& U) W) → R_X7_doHang_33 (U : Int) (C : Int) q k S Qr Qx := by
    intro d
    induction d with
    | zero =>
      intro k C hk0 hk hC h1 h2 h3 h4
      refine vc_X7_doHang_33 fun _ _ _ _ _ => ⟨fun _ => ⟨⟨by omega, by omega⟩, h C ⟨hC, h1, h2, h3, fun z i i0 i1 i2 i3 i4 => ?_⟩⟩, fun z => absurd z (by show ¬ k < S 0 1; have : S 0 1 = cs S 1 0 := rfl; omega)⟩
      obtain ⟨b1, b2, b3, b4, b5, b6⟩ := hv i i0 i1
      obtain ⟨b7, b8⟩ := b6 i2
      have hn := nr_has (x := cs S 11 i) hE i0 i1 i2 (cs S 2 0 - (i + 1)).toNat (cs S 2 0) (by omega)
      have hn2 := nr_has (x := cs S 12 i) hE i0 i1 i2 (cs S 2 0 - (i + 1)).toNat (cs S 2 0) (by omega)
      constructor
      · intro w
        exact h4 z (cs S 11 i) b1 (by omega) w (cs S 12 i) b3 b4 (by rw [tb_and, hn.1 rfl, i4]; rfl)
      · intro w
        exact h4 z (cs S 12 i) b3 (by omega) w (cs S 11 i) b1 b2 (by rw [tb_and, hn2.2 rfl b5, i3]; rfl)
    | succ d ih =>
      intro k C hk0 hk hC h1 h2 h3 h4
      have hbit := bit_val (U := C) (by omega) hk0 (show k < 31 by omega)
      have hz0 : zor (C : Int) 0 = (C : Int) := zor_zero hC
      refine vc_X7_doHang_33 fun _ _ _ _ _ => ⟨fun z => absurd z (by show ¬ S 0 1 ≤ k; have : S 0 1 = cs S 1 0 := rfl; omega), fun _ => ?_⟩
      rw [hbit, hz0]
      by_cases t : tb C k = true
      · rw [if_pos t]
        refine ⟨fun z => absurd rfl z, fun _ => sp_X7_near ⟨by omega, by omega⟩ m0 m40 hE fun _ _ => ⟨⟨by omega, by omega⟩, ?_⟩⟩
        show R_X7_doHang_33 (U : Int) (zor (C : Int) (zand ((nr (cs S) k (cs S 2 0) : Nat) : Int) (U : Int))) q (k + 1) S Qr Qx
        have hnl : nr (cs S) k (cs S 2 0) < 2 ^ 10 := nr_lt hE (cs S 2 0).toNat (cs S 2 0) (by omega) (Int.le_refl _)
        have hal : nr (cs S) k (cs S 2 0) &&& U < 2 ^ 10 := Nat.lt_of_le_of_lt Nat.and_le_left hnl
        rw [zand_nat (by omega), zor_nat (by omega) (by omega)]
        refine ih (k + 1) _ (by omega) (by omega) (Nat.or_lt_two_pow hC hal) (fun x x0 x1 hx => by rw [tb_or, h1 x x0 x1 hx]; rfl) (fun x x0 x1 hx => by
          rw [tb_or, Bool.or_eq_true, tb_and, Bool.and_eq_true] at hx
          rcases hx with z | z
          · exact h2 x x0 x1 z
          · exact z.2) (fun X hX hcl x x0 x1 hx => by
          rw [tb_or, Bool.or_eq_true, tb_and, Bool.and_eq_true] at hx
          rcases hx with z | z
          · exact h3 X hX hcl x x0 x1 z
          · obtain ⟨i, i0, i1, i2, i3⟩ := nr_tb x0 hE (cs S 2 0).toNat (cs S 2 0) (by omega) (Int.le_refl _) z.1
            have hkX := h3 X hX hcl k hk0 (by omega) t
            have hkU := h2 k hk0 (by omega) t
            rcases i3 with ⟨y1, y2⟩ | ⟨y1, y2⟩
            · have := hcl i i0 i1 i2 (by rw [y1]; exact hkU) (by rw [y2]; exact z.2)
              rw [y1, y2] at this
              exact this.1 hkX
            · have := hcl i i0 i1 i2 (by rw [y2]; exact z.2) (by rw [y1]; exact hkU)
              rw [y1, y2] at this
              exact this.2 hkX) (fun z x x0 x1 hx => ?_)
        have hCW : C = W := sub_anti hC hW (fun x x0 x1 hx => by rw [← z, tb_or, hx]; rfl) h1
        by_cases w : x = k
        · rw [w]
          intro y y0 y1 hy
          rw [← z, tb_or, hy, Bool.or_true]
        · exact h4 hCW x x0 (by omega) hx
      · rw [if_neg t]
        refine ⟨fun _ => ⟨⟨by omega, by omega⟩, ih (k + 1) C (by omega) (by omega) hC h1 h2 h3 fun z x x0 x1 hx => ?_⟩, fun z => absurd z (by decide)⟩
        by_cases w : x = k
        · rw [w, ← z] at hx; exact absurd hx t
        · exact h4 z x x0 (by omega) hx
  exact key (cs S 1 0).toNat 0 W (by omega) (by omega) hW sub_rfl hWU (fun X hX _ => hX) fun _ x x0 x1 => by omega
theorem sp_X7_doHang {a b : Int} (hI : Inv (cs S)) (ha : 0 ≤ a ∧ a < cs S 1 0) (h1 : ∀ r : Nat, zand ((wo (cs S 1 0) a b : Nat) : Int) (-((wo (cs S 1 0) a b : Nat) : Int)) = (r : Int) → Conn (cs S) (cs S 2 0) (wo (cs S 1 0) a b) r → Qr 1 S) (h0 : ∀ r : Nat, zand ((wo (cs S 1 0) a b : Nat) : Int) (-((wo (cs S 1 0) a b : Nat) : Int)) = (r : Int) → ¬ Conn (cs S) (cs S 2 0) (wo (cs S 1 0) a b) r → Qr 0 S) : M_X7_doHang ((two a b : Nat) : Int) S Qr Qx := by
  obtain ⟨n0, n10, _⟩ := hI.1
  have hU := wo_lt (a := a) (b := b) n10
  have hpc := wo_pc (b := b) n0 n10 ha
  have e := wo_ref (a := a) (b := b) n0 n10
  refine vc_X7_doHang fun _ _ => ?_
  rw [show S 0 1 = cs S 1 0 from rfl, e]
  generalize wo (cs S 1 0) a b = U at hU hpc h1 h0 ⊢
  obtain ⟨w, hw⟩ := zand_sub (U := U) (by omega) (-(U : Int))
  have hr : U &&& w < 2 ^ 10 := Nat.lt_of_le_of_lt Nat.and_le_left hU
  have hrs : sub (U &&& w) U := fun j _ _ h => by rw [tb_and, Bool.and_eq_true] at h; exact h.1
  rw [hw]
  have key : ∀ (d : Nat) (q : Int) (R : Nat), 0 ≤ q → q + d = cs S 1 0 → R < 2 ^ 10 → sub R U → (∀ X : Nat, sub (U &&& w) X → clo (cs S) (cs S 2 0) U X → sub R X) → sub (U &&& w) R → (clo (cs S) (cs S 2 0) U R ∨ q ≤ pc R) → R_X7_doHang_21 (U : Int) (R : Int) q S Qr Qx := by
    intro d
    induction d with
    | zero =>
      intro q R hq0 hq hR x b' c hd
      have hp := pc_sub x
      refine vc_X7_doHang_21 fun _ _ _ _ => ⟨fun _ => ⟨fun z => h0 _ hw fun hc => z ?_, fun z => h1 _ hw fun X x1 x2 => ?_⟩, fun z => absurd z (by show ¬ q < S 0 1; have : S 0 1 = cs S 1 0 := rfl; omega)⟩
      · rw [sub_anti hR hU x (hc R c (hd.resolve_right (by omega)))]
      · have hRU : R = U := by omega
        have := b' X x1 x2
        rw [hRU] at this
        exact this
    | succ d ih =>
      intro q R hq0 hq hR x b' c hd
      refine vc_X7_doHang_21 fun _ _ _ _ => ⟨fun z => absurd z (by show ¬ S 0 1 ≤ q; have : S 0 1 = cs S 1 0 := rfl; omega), fun _ => lp_X7_round hI ⟨hq0, by omega⟩ hR hU x fun W' hW' => ?_⟩
      obtain ⟨g1, g2⟩ := rnd_next (q := q) (n := 0) hU hR hW' b' hd
      exact ih (q + 1) W' (by omega) (by omega) hW'.1 hW'.2.2.1 g1 (sub_tr c hW'.2.1) g2
  exact key (cs S 1 0).toNat 0 (U &&& w) (by decide) (by omega) hr hrs (fun X x _ => x) sub_rfl (Or.inr (pc_rng _).1)
end HANG2
