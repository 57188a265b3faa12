/-! CALLS IN PAIRS: kept, isKept, block, lacks -/
section OP9
theorem end_K {V T : St} {r c : Int} (hT : cs T = V) (hb : Tb T) {T' : St} {Qr : Int → St → Prop} (hf : fq [19, 20] (up T 0 0 c) T') (h : ∀ T' r', cs T' = V → Tb T' → T' 0 0 = c → (c = 0 → r' = r) → Qr r' T') {r' : Int} (hr : c = 0 → r' = r) : Qr r' T' := by
  have e0 := hf 0 (by decide)
  refine h T' r' ?_ (Tb_keep (Tb_0 hb (j := 0) (v := c) (by decide)) (hf 12 (by decide)) (by rw [e0]) (hf 13 (by decide))) (by rw [e0, up_at, if_pos rfl]) hr
  rw [cs_fq hf (by decide) (by intro k a b c; simp; omega), cs_h0]
  exact hT
theorem vw_K {S S' : St} (h : fq [24, 25, 26, 67] S S') : vw S' = vw S := vw_fq h (by decide) (by decide) (by decide) (by intro k a b; simp; omega)
theorem cs_K {S S' : St} (h : fq [19, 20] S S') : cs S' = cs S := cs_fq h (by decide) (by intro k a b c; simp; omega)
def kc (V : St) (a : Int) : Int := cn (kp V (V 1 0) a (V 2 0)) 40
theorem kc_rg (V : St) (a : Int) : 0 ≤ kc V a ∧ kc V a ≤ 40 := cn_rng _ (by decide)
theorem pr_kept {V : St} (hI : Inv V) : Pair V [] M_X6_kept M_X7_kept := by
  refine ⟨0, kc V (-1), V, hI, by decide, by decide, fun S hS Qr Qx h _ => ?_, fun T hT hb Qr Qx h => ?_⟩
  · subst hS
    exact vc_X6_kept fun _ => sp_X6_keepWithout hI fun S1 KS f1 _ _ _ _ _ _ _ => h rfl S1 (vw_K f1)
  · subst hT
    have ec : cs (up T 0 0 0) = cs T := cs_h0
    exact vc_X7_kept fun _ => sp_X7_keeps (by rw [ec]; exact hI) fun S1 f1 _ _ _ _ => end_K rfl hb f1 h fun _ => by rw [ec]; rfl
theorem pr_lacks {V : St} (hI : Inv V) : Pair V [] M_X6_lacks M_X7_lacks := by
  obtain ⟨n0, n10, _⟩ := hI.1
  have hk := kc_rg V (-1)
  refine ⟨0, if V 1 0 < 2 then -1 else 2 * V 1 0 - 3 - kc V (-1), V, hI, by decide, by decide, fun S hS Qr Qx h _ => ?_, fun T hT hb Qr Qx h => ?_⟩
  · subst hS
    have e1 : S 1 4 = vw S 1 0 := rfl
    refine vc_X6_lacks fun _ => ⟨fun q => vc_X6_rigidCount fun _ => ⟨⟨by omega, by omega⟩, fun _ _ => sp_X6_keepWithout hI fun S1 KS f1 _ _ _ _ _ _ _ => ⟨?_, ?_⟩⟩, fun q => ?_⟩
    · show r32 (2 * S 1 4 - 3 - kc (vw S) (-1))
      exact ⟨by omega, by omega⟩
    · have hh := h rfl S1 (vw_K f1)
      rw [if_neg (by omega)] at hh
      exact hh
    · have hh := h rfl S rfl
      rw [if_pos (by omega)] at hh
      exact hh
  · subst hT
    have ec : cs (up T 0 0 0) = cs T := cs_h0
    have e1 : T 0 1 = cs T 1 0 := rfl
    have e2 : up T 0 0 0 0 1 = cs T 1 0 := by rw [up_at, if_neg (by decide)]; rfl
    refine vc_X7_lacks fun _ => ⟨fun q => vc_X7_lacksWithout fun _ _ => sp_X7_keeps (by rw [ec]; exact hI) fun S1 f1 _ _ _ _ => ?_, fun q => end_R rfl hb rfl ⟨fq_rfl, fun _ _ => rfl⟩ h fun _ => by rw [if_pos (by omega)]⟩
    rw [e2, ec]
    refine ⟨?_, fun _ _ => end_K rfl hb f1 h fun _ => by rw [if_neg (by omega)]; rfl⟩
    show r32 (2 * cs T 1 0 - 3 - kc (cs T) (-1))
    exact ⟨by omega, by omega⟩
theorem pr_isKept {V : St} (hI : Inv V) (k : Int) : Pair V [IOOBE] (M_X6_isKept k) (M_X7_isKept k) := by
  obtain ⟨n0, n10, m0, m40, hE⟩ := hI.1
  by_cases hj : 0 ≤ k ∧ k < V 2 0 ∧ V 15 k = 0
  · refine ⟨0, bi (kp V (V 1 0) (-1) (V 2 0) k), V, hI, by decide, by decide, fun S hS Qr Qx h _ => ?_, fun T hT hb Qr Qx h => ?_⟩
    · subst hS
      refine vc_X6_isKept fun _ _ => sp_X6_requireMember m40 (fun _ _ _ _ => sp_X6_keepWithout hI fun S1 KS f1 _ _ h67 hK ht _ _ => ?_) (fun z => absurd hj z)
      rw [h67]
      refine sp_X6_hasBit (by omega) hj.1 (by omega) fun _ _ => ?_
      rw [ht k hj.1 (by omega)]
      have hh := h rfl S1 (vw_K f1)
      unfold bi at hh
      exact ⟨by split <;> decide, hh⟩
    · subst hT
      have ec : cs (up T 0 0 0) = cs T := cs_h0
      refine vc_X7_isKept fun _ _ => sp_X7_isMember m0 m40 (fun _ _ _ _ _ => ⟨fun z => absurd z (by decide), fun _ => sp_X7_holds (fun _ _ _ => ⟨fun z => absurd z (by decide), fun _ => sp_X7_keeps (by rw [ec]; exact hI) fun S1 f1 _ h19 _ _ => ?_⟩) (fun z => absurd rfl z)⟩) (fun z => absurd hj z)
      rw [ec] at h19 ⊢
      have hk := kc_rg (cs T) (-1)
      refine ⟨fun z => absurd z (by show ¬ kc (cs T) (-1) < 0; omega), fun _ => ⟨⟨hj.1, by omega⟩, ?_⟩⟩
      rw [h19 k hj.1 hj.2.1]
      cases hx : kp (cs T) (cs T 1 0) (-1) (cs T 2 0) k
      · exact ⟨fun _ => end_K rfl hb f1 h fun _ => by rw [hx]; rfl, fun z => absurd rfl z⟩
      · exact ⟨fun z => absurd z (by decide), fun _ => end_K rfl hb f1 h fun _ => by rw [hx]; rfl⟩
  · refine ⟨1, 0, V, hI, by decide, by decide, fun S hS Qr Qx _ hx => ?_, fun T hT hb Qr Qx h => ?_⟩
    · subst hS
      exact vc_X6_isKept fun _ _ => sp_X6_requireMember m40 (fun z1 z2 z3 => absurd ⟨z1, z2, z3⟩ hj) (fun _ => hx (by decide) _ rfl)
    · subst hT
      exact vc_X7_isKept fun _ _ => sp_X7_isMember m0 m40 (fun z1 z2 z3 => absurd ⟨z1, z2, z3⟩ hj) (fun _ _ _ => ⟨fun _ => sp_X7_holds (fun z => absurd z (by decide)) (fun _ _ _ => ⟨fun _ => thr_R rfl hb (by decide) h 0, fun z => absurd rfl z⟩), fun z => absurd rfl z⟩)
/-! blocks -/
def bkN (V : St) (K : Int → Bool) (n f t : Int) : Nat → Nat
  | 0 => two f t
  | i + 1 => bkN V K n f t i ||| (if (i : Int) ≠ f ∧ (i : Int) ≠ t ∧ firmB V K n (i : Int) f = true ∧ firmB V K n (i : Int) t = true then 2 ^ i else 0)
def bk' (V : St) (K : Int → Bool) (n f t i : Int) : Nat := bkN V K n f t i.toNat
theorem bk_s {V : St} {K : Int → Bool} {n f t i : Int} (h : 0 ≤ i) : bk' V K n f t (i + 1) = bk' V K n f t i ||| (if i ≠ f ∧ i ≠ t ∧ firmB V K n i f = true ∧ firmB V K n i t = true then 2 ^ i.toNat else 0) := by
  unfold bk'
  rw [show (i + 1).toNat = i.toNat + 1 by omega]
  show bkN V K n f t i.toNat ||| (if ((i.toNat : Nat) : Int) ≠ f ∧ ((i.toNat : Nat) : Int) ≠ t ∧ firmB V K n ((i.toNat : Nat) : Int) f = true ∧ firmB V K n ((i.toNat : Nat) : Int) t = true then 2 ^ i.toNat else 0) = _
  rw [Int.toNat_of_nonneg h]
theorem bk_lt {V : St} {K : Int → Bool} {n f t : Int} (hf : 0 ≤ f ∧ f < 10) (ht : 0 ≤ t ∧ t < 10) : ∀ i : Nat, i ≤ 10 → bkN V K n f t i < 2 ^ 10
  | 0, _ => two_lt hf ht
  | i + 1, h => by
    unfold bkN
    refine Nat.or_lt_two_pow (bk_lt hf ht i (by omega)) ?_
    split
    · exact Nat.pow_lt_pow_right (by decide) (by omega)
    · decide
theorem pr_block {V : St} (hI : Inv V) (k : Int) : Pair V [IOOBE] (M_X6_block k) (M_X7_block k) := by
  obtain ⟨n0, n10, m0, m40, hE⟩ := hI.1
  by_cases hj : 0 ≤ k ∧ k < V 2 0 ∧ V 15 k = 0
  · obtain ⟨b1, b2, b3, b4, b5, b6⟩ := hE k hj.1 hj.2.1
    obtain ⟨b7, b8⟩ := b6 hj.2.2
    refine ⟨0, ((bk' V (kp V (V 1 0) (-1) (V 2 0)) (V 1 0) (V 11 k) (V 12 k) (V 1 0) : Nat) : Int), V, hI, by decide, by decide, fun S hS Qr Qx h _ => ?_, fun T hT hb Qr Qx h => ?_⟩
    · subst hS
      refine vc_X6_block fun _ _ => sp_X6_requireMember m40 (fun _ _ _ _ => sp_X6_keepWithout hI fun S1 KS f1 P1 hs _ _ _ _ _ => ?_) (fun z => absurd hj z)
      rw [f1 11 (by decide), f1 12 (by decide)]
      refine ⟨⟨hj.1, by omega⟩, sp_X6_bit fun _ _ => sp_X6_bit fun _ _ => ?_⟩
      rw [two_val (a := S 11 k) (b := S 12 k) ⟨b1, b2⟩ ⟨b3, b4⟩]
      have key : ∀ (d : Nat) (i : Int) (S2 : St), 0 ≤ i → i + d = vw S 1 0 → fq [24, 25, 26, 67] S S2 → PI (vw S) (kp (vw S) (vw S 1 0) (-1) (vw S 2 0)) (vw S 1 0) S2 → R_X6_block_45 (vw S 11 k) (vw S 12 k) ((bk' (vw S) (kp (vw S) (vw S 1 0) (-1) (vw S 2 0)) (vw S 1 0) (vw S 11 k) (vw S 12 k) i : Nat) : Int) i S2 Qr Qx := by
        intro d
        induction d with
        | zero =>
          intro i S2 hi0 hi hf hP
          have e : i = vw S 1 0 := by omega
          rw [e]
          exact vc_X6_block_45 fun _ _ _ _ _ => ⟨fun _ => h rfl S2 (vw_K hf), fun z => absurd z (by rw [hf 1 (by decide)]; show ¬ S 1 4 < S 1 4; omega)⟩
        | succ d ih =>
          intro i S2 hi0 hi hf hP
          have hlt : i < vw S 1 0 := by omega
          have hnx := fun S3 => ih (i + 1) S3 (by omega) (by omega)
          rw [bk_s hi0] at hnx
          have hl := bk_lt (V := vw S) (K := kp (vw S) (vw S 1 0) (-1) (vw S 2 0)) (n := vw S 1 0) ⟨b1, b2⟩ ⟨b3, b4⟩ i.toNat (by omega)
          have hno : ∀ S3, fq [24, 25, 26] S2 S3 → PI (vw S) (kp (vw S) (vw S 1 0) (-1) (vw S 2 0)) (vw S 1 0) S3 → ¬ (i ≠ vw S 11 k ∧ i ≠ vw S 12 k ∧ firmB (vw S) (kp (vw S) (vw S 1 0) (-1) (vw S 2 0)) (vw S 1 0) i (vw S 11 k) = true ∧ firmB (vw S) (kp (vw S) (vw S 1 0) (-1) (vw S 2 0)) (vw S 1 0) i (vw S 12 k) = true) → r32 (i + 1) ∧ R_X6_block_45 (vw S 11 k) (vw S 12 k) ((bk' (vw S) (kp (vw S) (vw S 1 0) (-1) (vw S 2 0)) (vw S 1 0) (vw S 11 k) (vw S 12 k) i : Nat) : Int) (i + 1) S3 Qr Qx := fun S3 f3 P3 q => by
            have := hnx S3 (fq_tr hf f3 (by decide)) P3
            rw [if_neg q, Nat.or_zero] at this
            exact ⟨⟨by omega, by omega⟩, this⟩
          refine vc_X6_block_45 fun _ _ _ _ _ => ⟨fun z => absurd z (by rw [hf 1 (by decide)]; show ¬ S 1 4 ≤ i; have : S 1 4 = vw S 1 0 := rfl; omega), fun _ => ⟨fun q => hno S2 fq_rfl hP fun z => z.1 q, fun q => ⟨fun q2 => hno S2 fq_rfl hP fun z => z.2.1 q2, fun q2 => sp_X6_isFirm n10 ⟨hi0, hlt⟩ ⟨b1, b7⟩ q hP hs fun S3 f3 P3 => ?_⟩⟩⟩
          intro _ _
          by_cases g1 : firmB (vw S) (kp (vw S) (vw S 1 0) (-1) (vw S 2 0)) (vw S 1 0) i (vw S 11 k) = true
          · rw [if_pos g1]
            refine ⟨fun z => absurd z (by decide), fun _ => sp_X6_isFirm n10 ⟨hi0, hlt⟩ ⟨b3, b8⟩ q2 P3 hs fun S4 f4 P4 => ?_⟩
            intro _ _
            have f34 : fq [24, 25, 26] S2 S4 := fq_tr f3 f4 (fun _ z => z)
            by_cases g2 : firmB (vw S) (kp (vw S) (vw S 1 0) (-1) (vw S 2 0)) (vw S 1 0) i (vw S 12 k) = true
            · rw [if_pos g2]
              refine ⟨fun z => absurd z (by decide), fun _ => sp_X6_bit fun _ _ => ⟨⟨by omega, by omega⟩, ?_⟩⟩
              have := hnx S4 (fq_tr hf f34 (by decide)) P4
              rw [if_pos ⟨q, q2, g1, g2⟩] at this
              have hz := zor_set (x := i) hl hi0 (by omega)
              show R_X6_block_45 _ _ (zor ((bkN (vw S) (kp (vw S) (vw S 1 0) (-1) (vw S 2 0)) (vw S 1 0) (vw S 11 k) (vw S 12 k) i.toNat : Nat) : Int) (zshl 1 i)) _ _ _ _
              rw [hz]
              exact this
            · rw [if_neg g2]
              exact ⟨fun _ => hno S4 f34 P4 fun z => g2 z.2.2.2, fun z => absurd rfl z⟩
          · rw [if_neg g1]
            exact ⟨fun _ => hno S3 f3 P3 fun z => g1 z.2.2.1, fun z => absurd rfl z⟩
      exact key (vw S 1 0).toNat 0 S1 (by omega) (by omega) f1 P1
    · subst hT
      have ec : cs (up T 0 0 0) = cs T := cs_h0
      refine vc_X7_block fun _ _ => sp_X7_isMember m0 m40 (fun _ _ _ _ _ => ⟨fun z => absurd z (by decide), fun _ => sp_X7_holds (fun _ _ _ => ⟨fun _ => sp_X7_keeps (by rw [ec]; exact hI) fun S1 f1 hin _ _ _ => ?_, fun z => absurd z (by decide)⟩) (fun z => absurd rfl z)⟩) (fun z => absurd hj z)
      rw [ec] at hin ⊢
      have hk := kc_rg (cs T) (-1)
      have e5 : S1 5 k = cs T 11 k := by rw [f1 5 (by decide)]; rfl
      have e6 : S1 6 k = cs T 12 k := by rw [f1 6 (by decide)]; rfl
      have e1 : S1 0 1 = cs T 1 0 := by rw [f1 0 (by decide), up_at, if_neg (by decide)]; rfl
      refine ⟨fun _ => ⟨⟨hj.1, by omega⟩, ?_⟩, fun z => absurd z (by show ¬ kc (cs T) (-1) < 0; omega)⟩
      rw [e5, e6, two_val ⟨b1, b2⟩ ⟨b3, b4⟩]
      have key : ∀ (d : Nat) (i : Int), 0 ≤ i → i + d = cs T 1 0 → R_X7_block_54 k ((bk' (cs T) (kp (cs T) (cs T 1 0) (-1) (cs T 2 0)) (cs T 1 0) (cs T 11 k) (cs T 12 k) i : Nat) : Int) i S1 Qr Qx := by
        intro d
        induction d with
        | zero =>
          intro i hi0 hi
          have e : i = cs T 1 0 := by omega
          rw [e]
          exact vc_X7_block_54 fun _ _ _ _ => ⟨fun _ => end_K rfl hb f1 h fun _ => rfl, fun z => absurd z (by omega)⟩
        | succ d ih =>
          intro i hi0 hi
          have hlt : i < cs T 1 0 := by omega
          have hnx := ih (i + 1) (by omega) (by omega)
          rw [bk_s hi0] at hnx
          have hl := bk_lt (V := cs T) (K := kp (cs T) (cs T 1 0) (-1) (cs T 2 0)) (n := cs T 1 0) ⟨b1, b2⟩ ⟨b3, b4⟩ i.toNat (by omega)
          have hz0 : zor ((bk' (cs T) (kp (cs T) (cs T 1 0) (-1) (cs T 2 0)) (cs T 1 0) (cs T 11 k) (cs T 12 k) i : Nat) : Int) 0 = ((bk' (cs T) (kp (cs T) (cs T 1 0) (-1) (cs T 2 0)) (cs T 1 0) (cs T 11 k) (cs T 12 k) i : Nat) : Int) := zor_zero hl
          have hno : ¬ (i ≠ cs T 11 k ∧ i ≠ cs T 12 k ∧ firmB (cs T) (kp (cs T) (cs T 1 0) (-1) (cs T 2 0)) (cs T 1 0) i (cs T 11 k) = true ∧ firmB (cs T) (kp (cs T) (cs T 1 0) (-1) (cs T 2 0)) (cs T 1 0) i (cs T 12 k) = true) → r32 (i + 1) ∧ R_X7_block_54 k (zor ((bk' (cs T) (kp (cs T) (cs T 1 0) (-1) (cs T 2 0)) (cs T 1 0) (cs T 11 k) (cs T 12 k) i : Nat) : Int) 0) (i + 1) S1 Qr Qx := fun q => by
            rw [if_neg q, Nat.or_zero] at hnx
            rw [hz0]
            exact ⟨⟨by omega, by omega⟩, hnx⟩
          refine vc_X7_block_54 fun _ _ _ _ => ⟨fun z => absurd z (by omega), fun _ => ⟨⟨hj.1, by omega⟩, ?_⟩⟩
          rw [e5, e6]
          refine ⟨fun q => hno fun z => z.1 q, fun q => ⟨fun q2 => hno fun z => z.2.1 q2, fun q2 => sp_X7_areFirm (V := cs T) (K := kp (cs T) (cs T 1 0) (-1) (cs T 2 0)) (n := cs T 1 0) n0 n10 e1 ⟨hi0, by omega⟩ ⟨b1, b2⟩ hin fun _ _ => ?_⟩⟩
          by_cases g1 : firmB (cs T) (kp (cs T) (cs T 1 0) (-1) (cs T 2 0)) (cs T 1 0) i (cs T 11 k) = true
          · rw [if_pos g1, e6]
            refine ⟨fun z => absurd z (by decide), fun _ => sp_X7_areFirm (V := cs T) (K := kp (cs T) (cs T 1 0) (-1) (cs T 2 0)) (n := cs T 1 0) n0 n10 e1 ⟨hi0, by omega⟩ ⟨b3, b4⟩ hin fun _ _ => ?_⟩
            by_cases g2 : firmB (cs T) (kp (cs T) (cs T 1 0) (-1) (cs T 2 0)) (cs T 1 0) i (cs T 12 k) = true
            · rw [if_pos g2]
              rw [if_pos ⟨q, q2, g1, g2⟩] at hnx
              have hz := zor_set (x := i) hl hi0 (by omega)
              refine ⟨fun z => absurd z (by decide), fun _ => ⟨⟨by omega, by omega⟩, ?_⟩⟩
              show R_X7_block_54 _ (zor ((bkN (cs T) (kp (cs T) (cs T 1 0) (-1) (cs T 2 0)) (cs T 1 0) (cs T 11 k) (cs T 12 k) i.toNat : Nat) : Int) (zshl 1 i)) _ _ _ _
              rw [hz]
              exact hnx
            · rw [if_neg g2]
              exact ⟨fun _ => hno fun z => g2 z.2.2.2, fun z => absurd rfl z⟩
          · rw [if_neg g1]
            exact ⟨fun _ => hno fun z => g1 z.2.2.1, fun z => absurd rfl z⟩
      exact key (cs T 1 0).toNat 0 (by omega) (by omega)
  · refine ⟨1, 0, V, hI, by decide, by decide, fun S hS Qr Qx _ hx => ?_, fun T hT hb Qr Qx h => ?_⟩
    · subst hS
      exact vc_X6_block fun _ _ => sp_X6_requireMember m40 (fun z1 z2 z3 => absurd ⟨z1, z2, z3⟩ hj) (fun _ => hx (by decide) _ rfl)
    · subst hT
      exact vc_X7_block fun _ _ => sp_X7_isMember m0 m40 (fun z1 z2 z3 => absurd ⟨z1, z2, z3⟩ hj) (fun _ _ _ => ⟨fun _ => sp_X7_holds (fun z => absurd z (by decide)) (fun _ _ _ => ⟨fun z => absurd rfl z, fun _ => thr_R rfl hb (by decide) h 0⟩), fun z => absurd rfl z⟩)
end OP9
