/-! CALLS IN PAIRS: the stress matrix -/
section OP5
def m4 (A : Mx) (a b w : Int) : Mx :=
  let A2 := mPut (mPut A a b (-w % 1000003)) b a (-w % 1000003)
  let A3 := mPut A2 a a ((A2 a a + w) % 1000003)
  mPut A3 b b ((A3 b b + w) % 1000003)
def mtN (V : St) : Nat → Mx
  | 0 => fun _ _ => 0
  | n + 1 => if mThere V (n : Int) then m4 (mtN V n) (V 11 (n : Int)) (V 12 (n : Int)) (V 14 (n : Int)) else mtN V n
def mt (V : St) (i : Int) : Mx := mtN V i.toNat
theorem mt_s {V : St} {i : Int} (h : 0 ≤ i) : mt V (i + 1) = if mThere V i then m4 (mt V i) (V 11 i) (V 12 i) (V 14 i) else mt V i := by
  unfold mt
  rw [show (i + 1).toNat = i.toNat + 1 by omega]
  show (if mThere V ((i.toNat : Nat) : Int) then m4 (mtN V i.toNat) (V 11 ((i.toNat : Nat) : Int)) (V 12 ((i.toNat : Nat) : Int)) (V 14 ((i.toNat : Nat) : Int)) else mtN V i.toNat) = _
  rw [Int.toNat_of_nonneg h]
theorem m4_rg {A : Mx} {a b w : Int} (hA : ∀ r c, rgP (A r c)) : ∀ r c, rgP (m4 A a b w r c) :=
  mPut_rg (mPut_rg (mPut_rg (mPut_rg hA (modP _)) (modP _)) (modP _)) (modP _)
theorem mtN_rg {V : St} : ∀ n : Nat, ∀ r c, rgP (mtN V n r c)
  | 0 => fun _ _ => ⟨Int.le_refl _, by show (0 : Int) < 1000003; decide⟩
  | n + 1 => fun r c => by
    unfold mtN
    split
    · exact m4_rg (mtN_rg n) _ _
    · exact mtN_rg n _ _
theorem mt_rg {V : St} {i : Int} : ∀ r c, rgP (mt V i r c) := mtN_rg _
theorem m4_out {A : Mx} {a b w r c : Int} (h1 : ¬ (r = a ∧ c = b)) (h2 : ¬ (r = b ∧ c = a)) (h3 : r ≠ c) : m4 A a b w r c = A r c := by
  unfold m4
  show mPut _ _ _ _ _ _ = _
  unfold mPut
  rw [if_neg (by omega), if_neg (by omega), if_neg h2, if_neg h1]
theorem mt_zero {V : St} {r c : Int} (hrc : r ≠ c) : ∀ (d : Nat) (i : Int), i = d → (∀ k, 0 ≤ k → k < i → V 15 k = 0 → ¬ ((r = V 11 k ∧ c = V 12 k) ∨ (r = V 12 k ∧ c = V 11 k))) → mt V i r c = 0 := by
  intro d
  induction d with
  | zero => intro i hi _; rw [hi]; rfl
  | succ d ih =>
    intro i hi h
    have hs := mt_s (V := V) (i := i - 1) (by omega)
    rw [Int.sub_add_cancel] at hs
    rw [hs]
    have hn := ih (i - 1) (by omega) (fun k k0 k1 => h k k0 (by omega))
    split
    · next q =>
      have q' : V 15 (i - 1) = 0 := of_decide_eq_true q
      have hk := h (i - 1) (by omega) (by omega) q'
      rw [m4_out (fun z => hk (Or.inl z)) (fun z => hk (Or.inr z)) hrc]
      exact hn
    · exact hn
variable {S : St} {Qr : Int → St → Prop} {Qx : String → St → Prop}
theorem meq_put {g : Nat} {R C a b v : Int} {A : Mx} (h : meq R C (gm g S) A) (hC : C ≤ 40) (hb0 : 0 ≤ b) (hb : b < 40) : meq R C (gm g (up S g (40 * a + b) v)) (mPut A a b v) := fun r c r0 r1 c0 c1 => by
  rw [gm_mPut hb0 hb c0 (by omega)]
  unfold mPut
  rw [h r c r0 r1 c0 c1]
theorem sp_madd {n a b v : Int} {A : Mx} (hm : meq n n (gm 22 S) A) (hn : n ≤ 10) (h2 : S 5 2 = n) (h3 : S 5 3 = n) (ha0 : 0 ≤ a) (ha : a < n) (hb0 : 0 ≤ b) (hb : b < n) (hA : rgP (A a b)) (hv : -99 ≤ v ∧ v ≤ 99) (h : ∀ S', fk 22 S S' → meq n n (gm 22 S') (mPut A a b ((A a b + v) % 1000003)) → Qr 0 S') : M_X0_add a b v S Qr Qx := by
  have e := hm a b ha0 ha hb0 hb
  unfold rgP at hA
  refine sp_X0_add (by omega) (by omega) ha0 (by omega) hb0 (by omega) (by rw [e]; exact ⟨by omega, by omega⟩) (h _ fk_up0 ?_)
  rw [e]
  exact meq_put hm (by omega) hb0 (by omega)
theorem sp_madd0 {n a b v : Int} {A : Mx} (hm : meq n n (gm 22 S) A) (hn : n ≤ 10) (h2 : S 5 2 = n) (h3 : S 5 3 = n) (ha0 : 0 ≤ a) (ha : a < n) (hb0 : 0 ≤ b) (hb : b < n) (hA : A a b = 0) (hv : -99 ≤ v ∧ v ≤ 99) (h : ∀ S', fk 22 S S' → meq n n (gm 22 S') (mPut A a b (v % 1000003)) → Qr 0 S') : M_X0_add a b v S Qr Qx :=
  sp_madd hm hn h2 h3 ha0 ha hb0 hb (by rw [hA]; exact ⟨by decide, by decide⟩) hv fun S' k m => h S' k (by rw [hA, Int.zero_add] at m; exact m)
theorem pr_matrix {V : St} (hI : Inv V) : PairP V [] M_X6_matrix (fun c r V' => (c = 0 ∧ r = (el (V 1 0) (mt V (V 2 0)) (V 1 0)).2.1 ∧ V' = V)) := by
  have hI0 := hI
  obtain ⟨⟨n0, n10, m0, m40, hm⟩, hP, _, ht, hu, _⟩ := hI0
  refine ⟨0, (el (V 1 0) (mt V (V 2 0)) (V 1 0)).2.1, V, ⟨rfl, rfl, rfl⟩, hI, by decide, by decide, fun S hS Qr Qx h _ => ?_⟩
  · subst hS
    have key : ∀ (d : Nat) (i : Int) (S1 : St), 0 ≤ i → i + d = vw S 2 0 → fq [22, 5] S S1 → S1 5 2 = vw S 1 0 → S1 5 3 = vw S 1 0 → meq (vw S 1 0) (vw S 1 0) (gm 22 S1) (mt (vw S) i) → R_X6_matrix_23 i S1 Qr Qx := by
      intro d
      induction d with
      | zero =>
        intro i S1 hi0 hi hf h2 h3 hmm
        have e : i = vw S 2 0 := by omega
        rw [e] at hmm
        refine vc_X6_matrix_23 fun _ _ => ⟨fun _ => sp_X0_reduce (A := mt (vw S) (vw S 2 0)) h2 n0 (by omega) h3 n0 (by omega) (fun r c _ _ _ _ => mt_rg r c) hmm fun S2 f2 _ _ _ _ => h rfl S2 ?_, fun z => absurd z (by rw [hf 2 (by decide), e]; show ¬ S 2 5 < S 2 5; omega)⟩
        exact vw_fq (fq_tr (l := [22, 5, 23]) (fq_tr (l := [22, 5, 23]) fq_rfl hf (by decide)) (fq_f2 (l := [22, 23]) f2 (by decide) (by decide)) (by decide)) (by decide) (by decide) (by decide) (by intro k a b; simp; omega)
      | succ d ih =>
        intro i S1 hi0 hi hf h2 h3 hmm
        have hi' : i < vw S 2 0 := by omega
        have hs := mt_s (V := vw S) hi0
        have e15 : S1 15 = S 15 := hf 15 (by decide)
        have e2 : S1 2 5 = vw S 2 0 := by rw [hf 2 (by decide)]; rfl
        have hno : mThere (vw S) i = false → r32 (i + 1) ∧ R_X6_matrix_23 (i + 1) S1 Qr Qx := fun q => by
          refine ⟨⟨by omega, by omega⟩, ih (i + 1) S1 (by omega) (by omega) hf h2 h3 ?_⟩
          rw [hs, q]
          exact hmm
        refine vc_X6_matrix_23 fun _ _ => ⟨fun z => absurd z (by omega), fun _ => sp_X3_has (by omega) (fun p1 p2 p3 => ?_) (fun p => ?_)⟩
        · intro _ _
          rw [e15] at p3
          have hk : mThere (vw S) i = true := decide_eq_true p3
          obtain ⟨b1, b2, b3, b4, b5, b6⟩ := hm i hi0 hi'
          obtain ⟨b7, b8⟩ := b6 p3
          have hw := ht i
          have hpair : ∀ k, 0 ≤ k → k < i → vw S 15 k = 0 → ¬ ((vw S 11 i = vw S 11 k ∧ vw S 12 i = vw S 12 k) ∨ (vw S 11 i = vw S 12 k ∧ vw S 12 i = vw S 11 k)) := fun k k0 k1 z z2 => hu k i k0 k1 hi' z p3 (by unfold same; omega)
          have z1 : mt (vw S) i (vw S 11 i) (vw S 12 i) = 0 := mt_zero b5 i.toNat i (by omega) hpair
          have z2 : mt (vw S) i (vw S 12 i) (vw S 11 i) = 0 := mt_zero (fun z => b5 z.symm) i.toNat i (by omega) (fun k k0 k1 y y2 => hpair k k0 k1 y (by omega))
          refine ⟨fun z => absurd z (by decide), fun _ => ⟨⟨by omega, by omega⟩, ?_⟩⟩
          rw [hf 14 (by decide), hf 11 (by decide), hf 12 (by decide)]
          have hA := mt_rg (V := vw S) (i := i)
          refine ⟨⟨by show -2147483648 ≤ -(vw S 14 i); omega, by show -(vw S 14 i) < 2147483648; omega⟩, ?_⟩
          have zz : mPut (mt (vw S) i) (vw S 11 i) (vw S 12 i) (-(vw S 14 i) % 1000003) (vw S 12 i) (vw S 11 i) = 0 := by
            unfold mPut
            rw [if_neg (fun z => b5 z.2), z2]
          refine sp_madd0 (a := vw S 11 i) (b := vw S 12 i) (v := -(vw S 14 i)) hmm n10 h2 h3 b1 b7 b3 b8 z1 (by omega) fun S2 k2 m2 _ => ?_
          have g2 : S2 5 = S1 5 := k2 5 (by decide)
          have hA2 := mPut_rg (r := vw S 11 i) (c := vw S 12 i) hA (modP (-(vw S 14 i)))
          refine sp_madd0 (a := vw S 12 i) (b := vw S 11 i) (v := -(vw S 14 i)) m2 n10 (by rw [g2]; exact h2) (by rw [g2]; exact h3) b3 b8 b1 b7 zz (by omega) fun S3 k3 m3 _ => ?_
          have g3 : S3 5 = S1 5 := (k3 5 (by decide)).trans g2
          have hA3 := mPut_rg (r := vw S 12 i) (c := vw S 11 i) hA2 (modP (-(vw S 14 i)))
          refine sp_madd (a := vw S 11 i) (b := vw S 11 i) (v := vw S 14 i) m3 n10 (by rw [g3]; exact h2) (by rw [g3]; exact h3) b1 b7 b1 b7 (hA3 _ _) hw fun S4 k4 m4' _ => ?_
          have g4 : S4 5 = S1 5 := (k4 5 (by decide)).trans g3
          refine sp_madd (a := vw S 12 i) (b := vw S 12 i) (v := vw S 14 i) m4' n10 (by rw [g4]; exact h2) (by rw [g4]; exact h3) b3 b8 b3 b8 (mPut_rg hA3 (modP _) _ _) hw fun S5 k5 m5 _ => ?_
          have g5 : S5 5 = S1 5 := (k5 5 (by decide)).trans g4
          have hnx := ih (i + 1) S5 (by omega) (by omega) (fq_tr hf (fq_fk (l := [22, 5]) (fk_tr (fk_tr (fk_tr k2 k3) k4) k5) (by decide)) (fun _ z => z)) (by rw [g5]; exact h2) (by rw [g5]; exact h3) (by
            rw [hs, hk, if_pos rfl]
            exact m5)
          exact ⟨⟨by omega, by omega⟩, hnx⟩
        · intro _ _
          refine ⟨fun _ => hno (decide_eq_false fun z => p ⟨hi0, by omega, by rw [e15]; exact z⟩), fun z => absurd rfl z⟩
    refine vc_X6_matrix fun _ => sp_X0_begin (a := S 1 4) (b := S 1 4) n0 (by have : S 1 4 ≤ 10 := n10; omega) n0 (by have : S 1 4 ≤ 10 := n10; omega) fun S1 hf h2 h3 _ hz _ => ?_
    exact key (vw S 2 0).toNat 0 S1 (by omega) (by omega) (fq_f2 hf (by decide) (by decide)) h2 h3 fun r c r0 r1 c0 c1 => hz r c r0 (Or.inl r1) c0 (Or.inl c1)
end OP5
