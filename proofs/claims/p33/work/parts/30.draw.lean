/-! RANKS of the reference; drawn points -/
section RR2
variable {S : St} {Qr : Int → St → Prop} {Qx : String → St → Prop}
/-! drawn points -/
def dsN (s : Int) : Nat → Int
  | 0 => s
  | n + 1 => (1103 * dsN s n + 12345) % 1000003
def ds (s i : Int) : Int := dsN s i.toNat
theorem ds_s {s i : Int} (h : 0 ≤ i) : ds s (i + 1) = (1103 * ds s i + 12345) % 1000003 := by
  unfold ds
  rw [show (i + 1).toNat = i.toNat + 1 by omega]
  rfl
theorem ds_rg {s i : Int} (hs : rgP s) : rgP (ds s i) := by
  have : ∀ n : Nat, rgP (dsN s n)
    | 0 => hs
    | n + 1 => modP _
  exact this _
def cube (s : Int) : Int := (s * s % 1000003) * s % 1000003
theorem cube_rg {s : Int} : rgP (cube s) := modP _
theorem dl_rg {s : Int} (h : rgP s) : 0 ≤ 1103 * s + 12345 ∧ 1103 * s + 12345 ≤ 1103 * 1000003 + 12345 := by
  unfold rgP at h; omega
theorem sp_X2_nextSeed {s : Int} (h0 : rgP s) (h : Qr ((1103 * s + 12345) % 1000003) S) : M_X2_nextSeed s S Qr Qx := by
  have hd := dl_rg h0
  have hb := modP (1103 * s + 12345)
  unfold rgP at hb
  refine vc_X2_nextSeed fun _ _ => ?_
  rw [tmP hd.1]
  exact ⟨⟨by omega, by omega⟩, ⟨by omega, by omega⟩, h⟩
theorem sp_X2_cube {s : Int} (h0 : rgP s) (h : Qr (cube s) S) : M_X2_cube s S Qr Qx := by
  have h1 := mulP h0 h0
  have h2 := mulP (modP (s * s)) h0
  have hb := modP (s * s % 1000003 * s)
  unfold rgP at hb
  refine vc_X2_cube fun _ _ => ?_
  rw [tmP h1.1, tmP h2.1]
  exact ⟨⟨by omega, by omega⟩, ⟨by omega, by omega⟩, ⟨by omega, by omega⟩, h⟩
def dX (s j : Int) : Int := cube (ds s (2 * j + 1))
def dY (s j : Int) : Int := cube (ds s (2 * j + 2))
theorem lOK_d {s n : Int} (n0 : 0 ≤ n) (n10 : n ≤ 10) : lOK (dX s) (dY s) (fun j => 2 * j) n (2 * n) := by
  refine ⟨by omega, by omega, fun j j0 j1 => ⟨?_, Or.inr ⟨by show 0 ≤ 2 * j; omega, by show 2 * j + 2 ≤ 2 * n; omega⟩, fun i i0 i1 hij _ _ => by show 2 * i + 2 ≤ 2 * j ∨ 2 * j + 2 ≤ 2 * i; omega⟩⟩
  have h1 := cube_rg (s := ds s (2 * j + 1))
  have h2 := cube_rg (s := ds s (2 * j + 2))
  unfold rgP at h1 h2
  unfold dX dY
  exact ⟨by omega, by omega, by omega, by omega⟩
theorem sp_X2_drawPoints {s n : Int} (hs : rgP s) (n0 : 0 ≤ n) (n10 : n ≤ 10) (h : ∀ S', fq [19, 20, 21, 4] S S' → S' 4 3 = 2 * n → (∀ j, j ≠ 3 → S' 4 j = S 4 j) → (∀ j, 0 ≤ j → j < n → S' 19 j = dX s j ∧ S' 20 j = dY s j ∧ S' 21 j = 2 * j) → Qr 0 S') : M_X2_drawPoints n s S Qr Qx := by
  have key : ∀ (d : Nat) (i : Int) (S1 : St), 0 ≤ i → i + d = n → fq [19, 20, 21] S S1 → (∀ j, 0 ≤ j → j < i → S1 19 j = dX s j ∧ S1 20 j = dY s j ∧ S1 21 j = 2 * j) → R_X2_drawPoints_5 n (ds s (2 * i)) i S1 Qr Qx := by
    intro d
    induction d with
    | zero =>
      intro i S1 hi0 hi hf h4
      have e : i = n := by omega
      rw [e] at h4
      refine vc_X2_drawPoints_5 fun _ _ _ _ => ⟨fun _ => ⟨⟨by omega, by omega⟩, h _ ?_ ?_ (fun j hj => ?_) fun j j0 j1 => ?_⟩, fun z => absurd z (by omega)⟩
      · exact fq_up (fq_tr fq_rfl hf (by decide)) (by decide)
      · rw [up_at, if_pos rfl]
      · rw [up_at, if_neg hj, hf 4 (by decide)]
      · rw [up_ne _ (by decide), up_ne _ (by decide), up_ne _ (by decide)]
        exact h4 j j0 j1
    | succ d ih =>
      intro i S1 hi0 hi hf h4
      have hnx := fun S2 => ih (i + 1) S2 (by omega) (by omega)
      rw [show 2 * (i + 1) = 2 * i + 2 by omega] at hnx
      refine vc_X2_drawPoints_5 fun _ _ _ _ => ⟨fun z => absurd z (by omega), fun _ => ⟨fun z => absurd z (by omega), fun _ => sp_X2_nextSeed (ds_rg hs) fun _ _ => ?_⟩⟩
      rw [← ds_s (by omega)]
      refine sp_X2_cube (ds_rg hs) fun _ _ => ⟨⟨by omega, by omega⟩, sp_X2_nextSeed (ds_rg hs) fun _ _ => ?_⟩
      rw [← ds_s (by omega), show 2 * i + 1 + 1 = 2 * i + 2 by omega]
      refine sp_X2_cube (ds_rg hs) fun _ _ => ⟨⟨by omega, by omega⟩, ⟨by omega, by omega⟩, hnx _ (fq_up (fq_up (fq_up hf (by decide)) (by decide)) (by decide)) fun j j0 j1 => ?_⟩
      simp only [up_ne _ (show (19 : Nat) ≠ 21 by decide), up_ne _ (show (20 : Nat) ≠ 21 by decide), up_ne _ (show (19 : Nat) ≠ 20 by decide), up_ne _ (show (21 : Nat) ≠ 20 by decide), up_ne _ (show (21 : Nat) ≠ 19 by decide), up_ne _ (show (20 : Nat) ≠ 19 by decide), up_at]
      by_cases w : j = i
      · subst w
        rw [if_pos rfl, if_pos rfl, if_pos rfl]
        exact ⟨rfl, rfl, rfl⟩
      · rw [if_neg w, if_neg w, if_neg w]
        exact h4 j j0 (by omega)
  exact vc_X2_drawPoints fun _ _ _ => key n.toNat 0 S (by omega) (by omega) fq_rfl fun j j0 j1 => by omega
end RR2
