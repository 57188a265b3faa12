/-! WHAT THE LAW ASKS OF THE WHOLE, and a step -/
section WHO
variable {S V : St} {D E : Int → Int} {Qr : Int → St → Prop} {Qx : String → St → Prop}
theorem wh_169 {t st : Int} {kk : Nat} (hL : LJ V D E) (h : lv S V D E) (h3 : 3 ≤ V 1 0) (ht : 0 ≤ t) (hst : st = cn (mThere V) (V 2 0) - rk V (-1)) (hQ : ∀ S', lv S' V D E → Qr 1 S') : R_L_isWhole_169 kk t st S Qr Qx := by
  have e0 := (PJ_at hL h).1
  have q1 := tm_rg (b := 6) ht (by decide)
  have q2 := td_rg (b := 6) ht (by decide)
  have q3 := tm_rg (b := V 1 0) q2.1 (by omega)
  have n10 := hL.1.1.2.1
  have hr := rk_rows hL.1
  refine vc_L_isWhole_169 fun _ rt _ _ => ?_
  rw [e0]
  exact ⟨⟨by omega, by omega⟩, fun _ => hQ _ h, fun _ => ⟨fun _ => hQ _ h, fun z => ⟨⟨by omega, by omega⟩, by omega, ⟨by omega, by omega⟩, sL_isNothing hL h q3 (by omega) fun S' l _ _ => ⟨fun w => absurd w (by decide), fun _ => hQ _ l⟩⟩⟩⟩
theorem wh_tail {t : Int} {kk : Nat} (hL : LJ V D E) (h : lv S V D E) (h3 : 3 ≤ V 1 0) (ht : 0 ≤ t ∧ t ≤ 100) (hkk : kk ≤ 22) (hQ : ∀ S', lv S' V D E → Qr 1 S') : R_L_isWhole_6 kk t (2 * cn (mThere V) (V 2 0)) (V 1 0) S Qr Qx := by
  obtain ⟨hI, hX, ⟨d0, d1, d2⟩, hE, hmm, h32⟩ := id hL
  obtain ⟨n0, n10, m0, m40, hEE⟩ := hI.1
  obtain ⟨e0, e1, e2⟩ := PJ_at hL h
  have hc := cn_rng (mThere V) m0
  have hr := rk_rows hI
  obtain ⟨r0, r1, r2, r3⟩ := rk_rg (a := -1) hI
  have hk := kc_many hI
  have hk0 := kc_rg V (-1)
  have t1 : Int.tmod (2 * cn (mThere V) (V 2 0)) 2 = 0 := by rw [Int.tmod_eq_emod_of_nonneg (by omega)]; omega
  have t2 : Int.tdiv (2 * cn (mThere V) (V 2 0)) 2 = cn (mThere V) (V 2 0) := by rw [td_eq (by omega)]; omega
  -- behind what is unbalanced
  have tail : ∀ (S' : St), lv S' V D E → (lw V (V 1 0) - rk V (-1) = 0 → (kk + 2 ≤ 64 ∧ R_L_isWhole_169 (kk + 2) t (cn (mThere V) (V 2 0) - rk V (-1)) S' Qr Qx)) ∧ (lw V (V 1 0) - rk V (-1) ≠ 0 → ((V 2 0 = 0 → (kk + 2 ≤ 64 ∧ R_L_isWhole_169 (kk + 2) t (cn (mThere V) (V 2 0) - rk V (-1)) S' Qr Qx)) ∧ (V 2 0 ≠ 0 → (0 < V 2 0 ∧ (r32 (Int.tmod t (V 2 0)) ∧ M_L_isMoved (Int.tmod t (V 2 0)) S' (fun rv77 S75 => r32 rv77 → okL S75 → ((rv77 = 0 → Qr 0 S75) ∧ (rv77 ≠ 0 → (kk + 20 ≤ 64 ∧ R_L_isWhole_169 (kk + 20) t (cn (mThere V) (V 2 0) - rk V (-1)) S75 Qr Qx)))) (fun _ _ => False)))))) := fun S' l => by
    refine ⟨fun _ => ⟨by omega, wh_169 hL l h3 ht.1 rfl hQ⟩, fun z => ⟨fun _ => ⟨by omega, wh_169 hL l h3 ht.1 rfl hQ⟩, fun z2 => ?_⟩⟩
    have q := tm_rg (b := V 2 0) ht.1 (by omega)
    exact ⟨by omega, ⟨by omega, by omega⟩, sL_isMoved hL l q.1 q.2 (by omega) fun S2 l2 _ _ => ⟨fun w => absurd w (by decide), fun _ => ⟨by omega, wh_169 hL l2 h3 ht.1 rfl hQ⟩⟩⟩
  refine vc_L_isWhole_6 fun _ _ _ _ _ => ?_
  rw [e0, e1, t1, t2]
  refine ⟨fun _ => cl_motions hI h fun S1 m1 _ _ => cl_stresses hI m1 fun S2 m2 _ _ => cl_kept hI m2 fun S3 m3 _ _ => ⟨⟨by decide, by decide⟩, fun q => absurd rfl q, fun _ => cl_rank hI m3 fun S4 m4 _ _ => ⟨⟨by omega, by omega⟩, fun q => absurd rfl q, fun _ => ⟨⟨by omega, by omega⟩, fun q => by omega, fun _ => ⟨fun q => by omega, fun _ => ⟨fun q => by omega, fun _ => cl_flex hI m4 ⟨by decide, by omega⟩ (by omega) fun r5 hr5 S5 m5 _ _ => ⟨fun q => ?_, fun _ => cl_lacks hI m5 fun S6 m6 _ _ => ⟨⟨by omega, by omega⟩, fun q => ?_, fun _ => cl_unbalanced hI m6 fun S7 m7 _ _ => ⟨fun _ => tail _ m7, fun q => cl_isProper hI m7 fun r8 hr8 S8 m8 _ _ => ⟨fun w => absurd (hr8 w) q, fun _ => tail _ m8⟩⟩⟩⟩⟩⟩⟩⟩⟩, fun z => by omega⟩
  · rcases hr5 with ⟨_, z⟩ | ⟨z, _⟩
    · exact absurd z q
    · omega
  · rw [if_neg (by omega)] at q
    exact absurd rfl q
theorem wh_loop {t : Int} (hL : LJ V D E) (h3 : 3 ≤ V 1 0) (ht : 0 ≤ t ∧ t ≤ 100) (hQ : ∀ S', lv S' V D E → Qr 1 S') : ∀ (d : Nat) (k : Int) (q : Nat) (S : St), k + d = V 1 0 → 0 ≤ k → (q : Int) ≤ 2 * k → lv S V D E → R_L_isWhole_6 q t (sm (fun j => cn (mEnd V j) (V 2 0)) k) k S Qr Qx := by
  obtain ⟨hI, hX, ⟨d0, d1, d2⟩, hE, hmm, h32⟩ := id hL
  obtain ⟨n0, n10, m0, m40, hEE⟩ := hI.1
  have hh := hands hI.1 (V 2 0).toNat (V 2 0) (by omega) (Int.le_refl _)
  intro d
  induction d with
  | zero =>
    intro k q S hk k0 hq h
    rw [show k = V 1 0 by omega, hh]
    exact wh_tail hL h h3 ht (by omega) hQ
  | succ d ih =>
    intro k q S hk k0 hq h
    have e0 := (PJ_at hL h).1
    have hs := sm_s (f := fun j => cn (mEnd V j) (V 2 0)) k0
    have hb := sm_abs (f := fun j => cn (mEnd V j) (V 2 0)) (c := 40) k.toNat k (by omega) (fun j j0 j1 => by
      have := cn_rng (mEnd V j) m0
      show -40 ≤ cn (mEnd V j) (V 2 0) ∧ cn (mEnd V j) (V 2 0) ≤ 40
      omega)
    have hc := cn_rng (mEnd V k) m0
    refine vc_L_isWhole_6 fun _ _ _ _ _ => ?_
    rw [e0]
    refine ⟨fun z => by omega, fun _ => cl_of2 hI h ⟨k0, by omega⟩ fun S1 m1 _ _ => ⟨⟨by omega, by omega⟩, ⟨by omega, by omega⟩, by omega, ?_⟩⟩
    have hn := ih (k + 1) (q + 2) _ (by omega) (by omega) (by omega) m1
    rw [hs] at hn
    exact hn
theorem sL_isWhole {t : Int} (hL : LJ V D E) (h : lv S V D E) (h3 : 3 ≤ V 1 0) (ht : 0 ≤ t ∧ t ≤ 100) (hQ : ∀ S', lv S' V D E → Qr 1 S') : M_L_isWhole t S Qr Qx :=
  vc_L_isWhole fun _ _ => wh_loop hL h3 ht hQ (V 1 0).toNat 0 0 S (by have := hL.1.1.1; omega) (by omega) (by omega) h
theorem sL_step {w a b : Int} (hL : LJ V D E) (h : lv S V D E) (hw : 0 ≤ w) (ha : 0 ≤ a) (hb : 0 ≤ b) (hQ : ∀ S' V' D' E', lv S' V' D' E' → LJ V' D' E' → Qr 1 S') : M_L_step w a b S Qr Qx := by
  obtain ⟨e0, e1, e2⟩ := PJ_at hL h
  have n0 := hL.1.1.1
  have n10 := hL.1.1.2.1
  have m0 := hL.1.1.2.2.1
  have q1 := td_rg (b := 101) hb (by decide)
  have q2 := tm_rg (b := 101) hb (by decide)
  have q3 := tm_rg (b := 101) q1.1 (by decide)
  have q4 := tm_rg (b := 16) hw (by decide)
  have q5 := td_rg (b := 16) ha (by decide)
  have hp : inPt (Int.tmod b 101 - 50) (Int.tmod (Int.tdiv b 101) 101 - 50) := by unfold inPt; omega
  -- the cases
  have h95 : ∀ (j o k s0 : Int), (3 ≤ V 1 0 → (0 ≤ j ∧ j < V 1 0) ∧ (0 ≤ o ∧ o < V 1 0)) → (V 1 0 < 3 → s0 = 0) → R_L_step_95 b j o k (Int.tmod b 101 - 50) (Int.tmod (Int.tdiv b 101) 101 - 50) s0 S Qr Qx := fun j o k s0 hj hs => by
    refine vc_L_step_95 fun _ _ _ _ _ _ _ _ => ⟨fun _ => st_168 hL h hp hQ, fun _ => st_168 hL h hp hQ, fun z => ?_, fun z => ?_, fun z => ?_, fun z => ?_, fun _ => st_356 hL h hQ, fun z => ?_, fun z => ?_, fun z => ?_, fun z => ?_, fun _ => st_615 hL h hQ, fun _ => st_678 hL h hb hQ, fun z => ?_, fun _ => st_840 hL h hb hQ, fun z => ?_⟩
    · have h3 : 3 ≤ V 1 0 := by omega
      exact st_269 hL h hb (hj h3).1 (hj h3).2 (by omega) hQ
    · have h3 : 3 ≤ V 1 0 := by omega
      exact st_269 hL h hb (hj h3).1 (hj h3).2 (by omega) hQ
    · have h3 : 3 ≤ V 1 0 := by omega
      exact st_269 hL h hb (hj h3).1 (hj h3).2 (by omega) hQ
    · have h3 : 3 ≤ V 1 0 := by omega
      exact st_269 hL h hb (hj h3).1 (hj h3).2 (by omega) hQ
    · have h3 : 3 ≤ V 1 0 := by omega
      exact st_442 hL h hb (hj h3).1 hQ
    · have h3 : 3 ≤ V 1 0 := by omega
      exact st_513 hL h (hj h3).1 hp hQ
    · have h3 : 3 ≤ V 1 0 := by omega
      exact st_553 hL h (hj h3).1 (hj h3).2 hp hQ
    · have h3 : 3 ≤ V 1 0 := by omega
      exact st_584 hL h (hj h3).1 hp hQ
    · have h3 : 3 ≤ V 1 0 := by omega
      exact st_754 hL h hb (hj h3).1 hQ
    · have h3 : 3 ≤ V 1 0 := by omega
      exact st_851 hL h hb h3 hQ
  have h57 : ∀ (j o k : Int), (3 ≤ V 1 0 → (0 ≤ j ∧ j < V 1 0) ∧ (0 ≤ o ∧ o < V 1 0)) → R_L_step_57 w b j o k S Qr Qx := fun j o k hj => by
    refine vc_L_step_57 fun _ rb _ _ _ _ => ?_
    rw [e0]
    exact ⟨⟨by omega, by omega⟩, fun z => ⟨⟨by omega, by omega⟩, ⟨by omega, by omega⟩, ⟨by omega, by omega⟩, h95 j o k _ hj (fun y => by omega)⟩, fun z => ⟨⟨by omega, by omega⟩, ⟨by omega, by omega⟩, h95 j o k 0 hj (fun _ => rfl)⟩⟩
  have h39 : ∀ (j o : Int), (3 ≤ V 1 0 → (0 ≤ j ∧ j < V 1 0) ∧ (0 ≤ o ∧ o < V 1 0)) → R_L_step_39 w b j o S Qr Qx := fun j o hj => by
    refine vc_L_step_39 fun _ rb _ _ _ => ?_
    rw [e1]
    refine ⟨fun z => ?_, fun _ => h57 j o 0 hj⟩
    have q := tm_rg (b := V 2 0) hb (by omega)
    have h32 := hL.2.2.2.2.2
    exact ⟨by omega, ⟨by omega, by omega⟩, h57 j o _ hj⟩
  have h18 : ∀ j : Int, (3 ≤ V 1 0 → 0 ≤ j ∧ j < V 1 0) → R_L_step_18 w a b j S Qr Qx := fun j hj => by
    refine vc_L_step_18 fun _ ra _ _ _ => ?_
    rw [e0]
    refine ⟨fun z => ?_, fun z => h39 j 0 (fun y => ⟨hj y, by omega⟩)⟩
    have q := tm_rg (b := V 1 0) q5.1 (by omega)
    exact ⟨⟨by omega, by omega⟩, by omega, ⟨by omega, by omega⟩, h39 j _ (fun y => ⟨hj y, q⟩)⟩
  refine vc_L_step fun _ ra _ _ => ?_
  rw [e0]
  refine ⟨fun z => ?_, fun z => h18 0 (fun y => by omega)⟩
  have q := tm_rg (b := V 1 0) ha (by omega)
  exact ⟨by omega, ⟨by omega, by omega⟩, h18 _ (fun _ => q)⟩
end WHO
