/-! RANKS of the reference; drawn points -/
section RR2
variable {S : St} {Qr : Int → St → Prop} {Qx : String → St → Prop}
theorem sp_X7_laysJoints {n : Int} (hn : S 0 1 = n) (hp : pOK (cs S) n) (h : ∀ S', fq [14, 15, 16, 0] S S' → S' 0 20 = lw (cs S) n → (∀ j, j ≠ 20 → S' 0 j = S 0 j) → (∀ j, 0 ≤ j → j < n → S' 14 j = cs S 7 j ∧ S' 15 j = cs S 8 j ∧ S' 16 j = lc (cs S) j) → Qr 0 S') : M_X7_laysJoints S Qr Qx := by
  obtain ⟨n0, n10, hP⟩ := hp
  have key : ∀ (d : Nat) (i : Int) (S1 : St), 0 ≤ i → i + d = n → fq [14, 15, 16, 0] S S1 → S1 0 20 = lw (cs S) i → (∀ j, j ≠ 20 → S1 0 j = S 0 j) → (∀ j, 0 ≤ j → j < i → S1 14 j = cs S 7 j ∧ S1 15 j = cs S 8 j ∧ S1 16 j = lc (cs S) j) → R_X7_laysJoints_7 i S1 Qr Qx := by
    intro d
    induction d with
    | zero =>
      intro i S1 hi0 hi hf h2 h3 h4
      have e : i = n := by omega
      rw [e] at h2 h4
      exact vc_X7_laysJoints_7 fun _ _ => ⟨fun _ => h S1 hf h2 h3 h4, fun z => absurd z (by rw [h3 1 (by decide), hn]; omega)⟩
    | succ d ih =>
      intro i S1 hi0 hi hf h2 h3 h4
      have hr := cn_rng (fr (cs S)) hi0
      have e9 : S1 3 = S 3 := hf 3 (by decide)
      have e1 : S1 1 = S 1 := hf 1 (by decide)
      have e2 : S1 2 = S 2 := hf 2 (by decide)
      unfold lw at h2
      have fin : ∀ (v w : Int), w = lw (cs S) (i + 1) → v = lc (cs S) i → R_X7_laysJoints_7 (i + 1) (up (up (up (up S1 14 i (S1 1 i)) 15 i (S1 2 i)) 16 i v) 0 20 w) Qr Qx := fun v w hw hv => by
        refine ih (i + 1) _ (by omega) (by omega) (fq_up (fq_up (fq_up (fq_up hf (by decide)) (by decide)) (by decide)) (by decide)) ?_ (fun j hj => ?_) fun j j0 j1 => ?_
        · rw [up_at, if_pos rfl, hw]
        · rw [up_at, if_neg hj]
          simp only [up_ne _ (show (0 : Nat) ≠ 16 by decide), up_ne _ (show (0 : Nat) ≠ 15 by decide), up_ne _ (show (0 : Nat) ≠ 14 by decide)]
          exact h3 j hj
        · simp only [up_ne _ (show (14 : Nat) ≠ 0 by decide), up_ne _ (show (15 : Nat) ≠ 0 by decide), up_ne _ (show (16 : Nat) ≠ 0 by decide), up_ne _ (show (14 : Nat) ≠ 16 by decide), up_ne _ (show (15 : Nat) ≠ 16 by decide), up_ne _ (show (14 : Nat) ≠ 15 by decide), up_ne _ (show (16 : Nat) ≠ 15 by decide), up_ne _ (show (16 : Nat) ≠ 14 by decide), up_ne _ (show (15 : Nat) ≠ 14 by decide), up_at]
          by_cases w : j = i
          · subst w
            rw [if_pos rfl, if_pos rfl, if_pos rfl, e1, e2]
            exact ⟨rfl, rfl, hv⟩
          · rw [if_neg w, if_neg w, if_neg w]
            exact h4 j j0 (by omega)
      refine vc_X7_laysJoints_7 fun _ _ => ⟨fun z => absurd z (by rw [h3 1 (by decide), hn]; omega), fun _ => ⟨⟨by omega, by omega⟩, fun q => ?_, fun q => ?_⟩⟩
      · have q' : cs S 9 i = 0 := by rw [e9] at q; exact q
        have ef : fr (cs S) i = true := decide_eq_true q'
        refine ⟨fun _ => ⟨⟨by omega, by omega⟩, ⟨by omega, by omega⟩, fin _ _ ?_ ?_⟩, fun z => absurd q z⟩
        · rw [h2]; unfold lw; rw [cn_t hi0 ef]; omega
        · unfold lc; rw [if_pos q', h2]
      · have q' : ¬ cs S 9 i = 0 := by rw [e9] at q; exact q
        have ef : fr (cs S) i = false := decide_eq_false q'
        refine ⟨fun z => absurd z q, fun _ => ⟨⟨by omega, by omega⟩, ⟨by omega, by omega⟩, fin _ _ ?_ ?_⟩⟩
        · rw [h2]; unfold lw; rw [cn_f hi0 ef]; omega
        · unfold lc; rw [if_neg q']
  refine vc_X7_laysJoints fun _ => key n.toNat 0 _ (by omega) (by omega) (fq_up fq_rfl (by decide)) ?_ (fun j hj => ?_) fun j j0 j1 => by omega
  · rw [up_at, if_pos rfl]; rfl
  · rw [up_at, if_neg hj]
/-- what laying and bringing leaves -/
def rfr (S S' : St) : Prop := fq [14, 15, 16, 17, 18, 0] S S' ∧ ∀ j, j ≠ 20 → S' 0 j = S 0 j
theorem cs_rfr {S' : St} (h : rfr S S') : cs S' = cs S :=
  cs_eq (h.2 1 (by decide)) (h.2 6 (by decide)) (h.2 12 (by decide)) fun k j a b c => by rw [h.1 k (by simp; omega)]
theorem sp_X7_rankRows {a n m W : Int} {lx ly col : Int → Int} (hv : vOK (cs S) n m) (hm : S 0 6 = m) (hl : lOK lx ly col n W) (hW : S 0 20 = W) (hL : ∀ j, 0 ≤ j → j < n → S 14 j = lx j ∧ S 15 j = ly j ∧ S 16 j = col j) (h : ∀ S', fq [17, 18] S S' → meq (cn (mKept (cs S) a) m) 40 (gm 17 S') (rkL (cs S) lx ly col W a m).1 → (∀ c, 0 ≤ c → c < W → S' 18 c = (rkL (cs S) lx ly col W a m).2.2 c) → Qr (rkL (cs S) lx ly col W a m).2.1 S') : M_X7_laysMatrix a 0 S (fun rv9 S7 => r32 rv9 → okM S7 → M_X7_brings rv9 (S7 0 20) S7 (fun rv14 S12 => r32 rv14 → okM S12 → Qr rv14 S12) Qx) Qx := by
  have hv0 := hv
  obtain ⟨n0, n10, m0, m40, _⟩ := hv0
  have hr2 := cn_rng (mKept (cs S) a) m0
  have hl0 := hl
  obtain ⟨W0, W20, _⟩ := hl0
  refine sp_X7_laysMatrix (Or.inl rfl) hv hm hl hL fun S1 k1 m1 _ _ => ?_
  rw [k1 0 (by decide), hW]
  rw [gt_0] at m1
  refine sp_X7_brings (A := wr (cs S) lx ly col a m) hr2.1 (by omega) W0 (by omega) (fun r c _ _ _ _ => wr_rg' r c) (fun r c r0 r1 c0 c1 => m1 r c r0 (by omega) c0 c1) fun S2 f2 hm2 hp2 _ _ => ?_
  exact h S2 (fq_tr (fq_fk k1 (by decide)) (fq_f2 (l := [17, 18]) f2 (by decide) (by decide)) (fun k z => z)) hm2 hp2
theorem sp_X7_rankOf {a n m : Int} (hv : vOK (cs S) n m) (hn : S 0 1 = n) (hm : S 0 6 = m) (hp : pOK (cs S) n) (h : ∀ S', rfr S S' → S' 0 20 = lw (cs S) n → (∀ j, 0 ≤ j → j < n → S' 16 j = lc (cs S) j) → meq (cn (mKept (cs S) a) m) 40 (gm 17 S') (rkL (cs S) (cs S 7) (cs S 8) (lc (cs S)) (lw (cs S) n) a m).1 → (∀ c, 0 ≤ c → c < lw (cs S) n → S' 18 c = (rkL (cs S) (cs S 7) (cs S 8) (lc (cs S)) (lw (cs S) n) a m).2.2 c) → Qr (rkL (cs S) (cs S 7) (cs S 8) (lc (cs S)) (lw (cs S) n) a m).2.1 S') : M_X7_rankOf a S Qr Qx := by
  refine vc_X7_rankOf fun _ _ => sp_X7_laysJoints hn hp fun S1 f1 h2 h3 hL _ => ?_
  have ec : cs S1 = cs S := cs_eq (h3 1 (by decide)) (h3 6 (by decide)) (h3 12 (by decide)) fun k j a b c => by rw [f1 k (by simp; omega)]
  refine sp_X7_rankRows (lx := cs S 7) (ly := cs S 8) (col := lc (cs S)) (W := lw (cs S) n) (by rw [ec]; exact hv) (by rw [h3 6 (by decide)]; exact hm) (lOK_lc hp) h2 hL fun S2 f2 hm2 hp2 => ?_
  rw [ec] at hm2 hp2 ⊢
  have e0 : S2 0 = S1 0 := f2 0 (by decide)
  refine h S2 ⟨fq_tr (fq_tr (l := [14, 15, 16, 17, 18, 0]) fq_rfl f1 (by decide)) f2 (by decide), fun j hj => by rw [e0]; exact h3 j hj⟩ (by rw [e0]; exact h2) (fun j j0 j1 => by rw [f2 16 (by decide)]; exact (hL j j0 j1).2.2) hm2 hp2
theorem sp_X7_free {k C : Int} (hC0 : 0 ≤ C) (hC40 : C ≤ 40) (hk0 : 0 ≤ k) (hk : k < cn (fun c => decide (S 18 c = -1)) C) (h : ∀ x, isFreeC (S 18) C k x → Qr x S) : M_X7_free k C S Qr Qx := by
  refine vc_X7_free fun _ _ _ => ?_
  have key : ∀ (d : Nat) (i f : Int), 0 ≤ i → i + d = C → -1 ≤ f → f ≤ 40 → (cn (fun c => decide (S 18 c = -1)) i ≤ k ∨ isFreeC (S 18) C k f) → R_X7_free_8 k C f (cn (fun c => decide (S 18 c = -1)) i) i S Qr Qx := by
    intro d
    induction d with
    | zero =>
      intro i f hi0 hi f0 f1 hs
      have e : i = C := by omega
      refine vc_X7_free_8 fun _ _ _ _ _ _ => ⟨fun _ => ?_, fun z => absurd z (by omega)⟩
      rcases hs with q | q
      · rw [e] at q; omega
      · exact h f q
    | succ d ih =>
      intro i f hi0 hi f0 f1 hs
      have hrg := cn_rng (fun c => decide (S 18 c = -1)) hi0
      refine vc_X7_free_8 fun _ _ _ _ _ _ => ⟨fun z => absurd z (by omega), fun _ => ⟨⟨by omega, by omega⟩, fun q => ⟨fun _ => ⟨⟨by omega, by omega⟩, ⟨by omega, by omega⟩, ?_⟩, fun z => absurd z q⟩, fun q => ⟨fun q2 => ⟨fun z => absurd q z, fun _ => ⟨⟨by omega, by omega⟩, ⟨by omega, by omega⟩, ?_⟩⟩, fun q2 => ⟨fun z => absurd q z, fun _ => ⟨⟨by omega, by omega⟩, ⟨by omega, by omega⟩, ?_⟩⟩⟩⟩⟩
      · have e := cn_f (p := fun c => decide (S 18 c = -1)) hi0 (by simp [q])
        have := ih (i + 1) f (by omega) (by omega) f0 f1 (by rw [e]; exact hs)
        rw [e] at this
        rw [Int.add_zero]
        exact this
      · have e := cn_t (p := fun c => decide (S 18 c = -1)) hi0 (by simp [q])
        have := ih (i + 1) f (by omega) (by omega) f0 f1 (by
          rw [e]
          rcases hs with w | w
          · exact Or.inl (by omega)
          · exact Or.inr w)
        rw [e] at this
        exact this
      · have e := cn_t (p := fun c => decide (S 18 c = -1)) hi0 (by simp [q])
        have := ih (i + 1) i (by omega) (by omega) (by omega) (by omega) (Or.inr ⟨hi0, by omega, q, q2⟩)
        rw [e] at this
        exact this
  exact key C.toNat 0 (-1) (by omega) (by omega) (by omega) (by omega) (Or.inl hk0)
theorem sp_X7_has {x c C R : Int} {A : Mx} {piv : Int → Int} (hC40 : C ≤ 40) (hR40 : R ≤ 40) (hx0 : 0 ≤ x) (hx : x < C) (hc0 : 0 ≤ c) (hc : c < C) (hp : piv c = -1 ∨ (0 ≤ piv c ∧ piv c < R)) (hm : meq R 40 (gm 17 S) A) (hA : ∀ r c, 0 ≤ r → r < R → 0 ≤ c → c < 40 → rgP (A r c)) (e1 : S 18 c = piv c) (h : Qr (sol A piv x c) S) : M_X7_has x c S Qr Qx := by
  unfold sol at h
  refine vc_X7_has fun _ _ _ => ⟨⟨by omega, by omega⟩, ?_⟩
  rw [e1]
  refine ⟨fun q => ?_, fun q => ?_⟩
  · have hp' : 0 ≤ piv c ∧ piv c < R := by omega
    have e2 : S 17 (40 * piv c + x) = A (piv c) x := hm _ _ hp'.1 hp'.2 hx0 (by omega)
    rw [e2]
    have hr := hA _ _ hp'.1 hp'.2 hx0 (show x < 40 by omega)
    unfold rgP at hr
    rw [if_pos q] at h
    have hb := modP (-(A (piv c) x))
    unfold rgP at hb
    exact ⟨⟨by omega, by omega⟩, ⟨by omega, by omega⟩, sp_X7_within ⟨by omega, by omega⟩ fun _ _ => ⟨⟨by omega, by omega⟩, h⟩⟩
  · rw [if_neg (fun z => z q)] at h
    exact ⟨fun q2 => by rw [if_neg q2] at h; exact h, fun q2 => by rw [if_pos q2] at h; exact h⟩
/-! drawn points -/
def dsN (s : Int) : Nat → Int
  | 0 => s
  | n + 1 => (1103 * dsN s n + 12345) % 1000003
def ds (s i : Int) : Int := dsN s i.toNat
theorem ds_s {s i : Int} (h : 0 ≤ i) : ds s (i + 1) = (1103 * ds s i + 12345) % 1000003 := by
  unfold ds
  rw [show (i + 1).toNat = i.toNat + 1 by omega]
  rfl
theorem ds_rg {s i : Int} (hs : rgP s) : rgP (ds s i) := by
  have : ∀ n : Nat, rgP (dsN s n)
    | 0 => hs
    | n + 1 => modP _
  exact this _
def cube (s : Int) : Int := (s * s % 1000003) * s % 1000003
theorem cube_rg {s : Int} : rgP (cube s) := modP _
theorem dl_rg {s : Int} (h : rgP s) : 0 ≤ 1103 * s + 12345 ∧ 1103 * s + 12345 ≤ 1103 * 1000003 + 12345 := by
  unfold rgP at h; omega
theorem sp_X2_nextSeed {s : Int} (h0 : rgP s) (h : Qr ((1103 * s + 12345) % 1000003) S) : M_X2_nextSeed s S Qr Qx := by
  have hd := dl_rg h0
  have hb := modP (1103 * s + 12345)
  unfold rgP at hb
  refine vc_X2_nextSeed fun _ _ => ?_
  rw [tmP hd.1]
  exact ⟨⟨by omega, by omega⟩, ⟨by omega, by omega⟩, h⟩
theorem sp_X2_cube {s : Int} (h0 : rgP s) (h : Qr (cube s) S) : M_X2_cube s S Qr Qx := by
  have h1 := mulP h0 h0
  have h2 := mulP (modP (s * s)) h0
  have hb := modP (s * s % 1000003 * s)
  unfold rgP at hb
  refine vc_X2_cube fun _ _ => ?_
  rw [tmP h1.1, tmP h2.1]
  exact ⟨⟨by omega, by omega⟩, ⟨by omega, by omega⟩, ⟨by omega, by omega⟩, h⟩
def dX (s j : Int) : Int := cube (ds s (2 * j + 1))
def dY (s j : Int) : Int := cube (ds s (2 * j + 2))
theorem lOK_d {s n : Int} (n0 : 0 ≤ n) (n10 : n ≤ 10) : lOK (dX s) (dY s) (fun j => 2 * j) n (2 * n) := by
  refine ⟨by omega, by omega, fun j j0 j1 => ⟨?_, Or.inr ⟨by show 0 ≤ 2 * j; omega, by show 2 * j + 2 ≤ 2 * n; omega⟩, fun i i0 i1 hij _ _ => by show 2 * i + 2 ≤ 2 * j ∨ 2 * j + 2 ≤ 2 * i; omega⟩⟩
  have h1 := cube_rg (s := ds s (2 * j + 1))
  have h2 := cube_rg (s := ds s (2 * j + 2))
  unfold rgP at h1 h2
  unfold dX dY
  exact ⟨by omega, by omega, by omega, by omega⟩
theorem sp_X2_drawPoints {s n : Int} (hs : rgP s) (n0 : 0 ≤ n) (n10 : n ≤ 10) (h : ∀ S', fq [19, 20, 21, 4] S S' → S' 4 3 = 2 * n → (∀ j, j ≠ 3 → S' 4 j = S 4 j) → (∀ j, 0 ≤ j → j < n → S' 19 j = dX s j ∧ S' 20 j = dY s j ∧ S' 21 j = 2 * j) → Qr 0 S') : M_X2_drawPoints n s S Qr Qx := by
  have key : ∀ (d : Nat) (i : Int) (S1 : St), 0 ≤ i → i + d = n → fq [19, 20, 21] S S1 → (∀ j, 0 ≤ j → j < i → S1 19 j = dX s j ∧ S1 20 j = dY s j ∧ S1 21 j = 2 * j) → R_X2_drawPoints_5 n (ds s (2 * i)) i S1 Qr Qx := by
    intro d
    induction d with
    | zero =>
      intro i S1 hi0 hi hf h4
      have e : i = n := by omega
      rw [e] at h4
      refine vc_X2_drawPoints_5 fun _ _ _ _ => ⟨fun _ => ⟨⟨by omega, by omega⟩, h _ ?_ ?_ (fun j hj => ?_) fun j j0 j1 => ?_⟩, fun z => absurd z (by omega)⟩
      · exact fq_up (fq_tr fq_rfl hf (by decide)) (by decide)
      · rw [up_at, if_pos rfl]
      · rw [up_at, if_neg hj, hf 4 (by decide)]
      · rw [up_ne _ (by decide), up_ne _ (by decide), up_ne _ (by decide)]
        exact h4 j j0 j1
    | succ d ih =>
      intro i S1 hi0 hi hf h4
      have hnx := fun S2 => ih (i + 1) S2 (by omega) (by omega)
      rw [show 2 * (i + 1) = 2 * i + 2 by omega] at hnx
      refine vc_X2_drawPoints_5 fun _ _ _ _ => ⟨fun z => absurd z (by omega), fun _ => ⟨fun z => absurd z (by omega), fun _ => sp_X2_nextSeed (ds_rg hs) fun _ _ => ?_⟩⟩
      rw [← ds_s (by omega)]
      refine sp_X2_cube (ds_rg hs) fun _ _ => ⟨⟨by omega, by omega⟩, sp_X2_nextSeed (ds_rg hs) fun _ _ => ?_⟩
      rw [← ds_s (by omega), show 2 * i + 1 + 1 = 2 * i + 2 by omega]
      refine sp_X2_cube (ds_rg hs) fun _ _ => ⟨⟨by omega, by omega⟩, ⟨by omega, by omega⟩, hnx _ (fq_up (fq_up (fq_up hf (by decide)) (by decide)) (by decide)) fun j j0 j1 => ?_⟩
      simp only [up_ne _ (show (19 : Nat) ≠ 21 by decide), up_ne _ (show (20 : Nat) ≠ 21 by decide), up_ne _ (show (19 : Nat) ≠ 20 by decide), up_ne _ (show (21 : Nat) ≠ 20 by decide), up_ne _ (show (21 : Nat) ≠ 19 by decide), up_ne _ (show (20 : Nat) ≠ 19 by decide), up_at]
      by_cases w : j = i
      · subst w
        rw [if_pos rfl, if_pos rfl, if_pos rfl]
        exact ⟨rfl, rfl, rfl⟩
      · rw [if_neg w, if_neg w, if_neg w]
        exact h4 j j0 (by omega)
  exact vc_X2_drawPoints fun _ _ _ => key n.toNat 0 S (by omega) (by omega) fq_rfl fun j j0 j1 => by omega
theorem lp_X7_rankAt {s n m : Int} (hs : rgP s) (hv : vOK (cs S) n m) (hn : S 0 1 = n) (hm : S 0 6 = m) (h : ∀ S', rfr S S' → Qr (rkL (cs S) (dX s) (dY s) (fun j => 2 * j) (2 * n) (-1) m).2.1 S') : R_X7_rankAt_30 s 0 S Qr Qx := by
  have hv0 := hv
  obtain ⟨n0, n10, m0, m40, _⟩ := hv0
  have key : ∀ (d : Nat) (i : Int) (S1 : St), 0 ≤ i → i + d = n → fq [14, 15, 16] S S1 → (∀ j, 0 ≤ j → j < i → S1 14 j = dX s j ∧ S1 15 j = dY s j ∧ S1 16 j = 2 * j) → R_X7_rankAt_30 (ds s (2 * i)) i S1 Qr Qx := by
    intro d
    induction d with
    | zero =>
      intro i S1 hi0 hi hf h4
      have e : i = n := by omega
      rw [e] at h4
      have e0 : S1 0 = S 0 := hf 0 (by decide)
      have ec : cs (up S1 0 20 (2 * n)) = cs S := by
        rw [cs_up0 (by decide) (by decide) (by decide)]
        exact cs_fq hf (by decide) fun k a b c => by simp; omega
      refine vc_X7_rankAt_30 fun _ _ _ => ⟨fun _ => ?_, fun z => absurd z (by rw [e0, hn]; omega)⟩
      rw [e0, hn]
      refine ⟨⟨by omega, by omega⟩, sp_X7_rankRows (lx := dX s) (ly := dY s) (col := fun j => 2 * j) (W := 2 * n) (n := n) (m := m) (by rw [ec]; exact hv) (by rw [up_at, if_neg (by decide), e0]; exact hm) (lOK_d n0 n10) (by rw [up_at, if_pos rfl]) (fun j j0 j1 => ?_) fun S2 f2 hm2 hp2 => ?_⟩
      · rw [up_ne _ (by decide), up_ne _ (by decide), up_ne _ (by decide)]
        exact h4 j j0 j1
      · rw [ec]
        refine h S2 ⟨fq_tr (fq_up (fq_tr (l := [14, 15, 16, 17, 18, 0]) fq_rfl hf (by decide)) (by decide)) f2 (by decide), fun j hj => ?_⟩
        rw [f2 0 (by decide), up_at, if_neg hj, e0]
    | succ d ih =>
      intro i S1 hi0 hi hf h4
      have hnx := fun S2 => ih (i + 1) S2 (by omega) (by omega)
      rw [show 2 * (i + 1) = 2 * i + 1 + 1 by omega] at hnx
      have g0 := ds_rg (i := 2 * i) hs
      have g1 := ds_rg (i := 2 * i + 1) hs
      have g2 := ds_rg (i := 2 * i + 1 + 1) hs
      have d0 := dl_rg g0
      have d1 := dl_rg g1
      have a1 := mulP g1 g1
      have b1 := mulP (modP (ds s (2 * i + 1) * ds s (2 * i + 1))) g1
      have a2 := mulP g2 g2
      have b2 := mulP (modP (ds s (2 * i + 1 + 1) * ds s (2 * i + 1 + 1))) g2
      have c1 := cube_rg (s := ds s (2 * i + 1))
      have c2 := cube_rg (s := ds s (2 * i + 1 + 1))
      refine vc_X7_rankAt_30 fun _ _ _ => ⟨fun z => absurd z (by rw [hf 0 (by decide), hn]; omega), fun _ => ?_⟩
      rw [tmP d0.1, ← ds_s (by omega), tmP a1.1, tmP b1.1, tmP d1.1, ← ds_s (by omega), tmP a2.1, tmP b2.1]
      have r1 : ∀ z : Int, rgP z → r64 z := fun z hz => by unfold rgP at hz; exact ⟨by omega, by omega⟩
      refine ⟨⟨by omega, by omega⟩, ⟨by omega, by omega⟩, ⟨by omega, by omega⟩, ⟨by omega, by omega⟩, r1 _ c1, ⟨by omega, by omega⟩, ⟨by omega, by omega⟩, ⟨by omega, by omega⟩, r1 _ c2, ⟨by omega, by omega⟩, r1 _ g2, ⟨by omega, by omega⟩, hnx _ (fq_up (fq_up (fq_up hf (by decide)) (by decide)) (by decide)) fun j j0 j1 => ?_⟩
      simp only [up_ne _ (show (14 : Nat) ≠ 16 by decide), up_ne _ (show (15 : Nat) ≠ 16 by decide), up_ne _ (show (14 : Nat) ≠ 15 by decide), up_ne _ (show (16 : Nat) ≠ 15 by decide), up_ne _ (show (16 : Nat) ≠ 14 by decide), up_ne _ (show (15 : Nat) ≠ 14 by decide), up_at]
      by_cases w : j = i
      · subst w
        rw [if_pos rfl, if_pos rfl, if_pos rfl]
        exact ⟨rfl, by unfold dY; rw [show 2 * j + 2 = 2 * j + 1 + 1 by omega]; rfl, rfl⟩
      · rw [if_neg w, if_neg w, if_neg w]
        exact h4 j j0 (by omega)
  exact key n.toNat 0 S (by omega) (by omega) fq_rfl fun j j0 j1 => by omega
end RR2
