/-! GRID: the turn of the class; the reference's elimination -/
section GE
variable {S : St} {Qr : Int → St → Prop} {Qx : String → St → Prop}
theorem sp_X0_turn {x : Int} (h2 : S 5 2 ≤ x) (h3 : S 5 3 ≤ x) (hx : (if S 5 2 < S 5 3 then S 5 3 else S 5 2) = x) (hx0 : 0 ≤ x) (hx40 : x ≤ 40) (h : ∀ S', f2 22 5 S S' → S' 5 2 = S 5 3 → S' 5 3 = S 5 2 → (∀ j, j ≠ 2 → j ≠ 3 → S' 5 j = S 5 j) → (∀ r c, 0 ≤ r → r < x → 0 ≤ c → c < x → gm 22 S' r c = gm 22 S c r) → Qr 0 S') : M_X0_turn S Qr Qx := by
  refine vc_X0_turn fun _ => ?_
  rw [hx]
  have inner : ∀ (d : Nat) (i j : Int) (S1 : St), 0 ≤ i → i < x → 0 ≤ j → j + d = i → fk 22 S S1 → (∀ r c, 0 ≤ r → r < 40 → 0 ≤ c → c < 40 → gm 22 S1 r c = if (r < i ∧ c < i) ∨ (r = i ∧ c < j) ∨ (c = i ∧ r < j) then gm 22 S c r else gm 22 S r c) → (∀ S2, fk 22 S S2 → (∀ r c, 0 ≤ r → r < 40 → 0 ≤ c → c < 40 → gm 22 S2 r c = if r < i + 1 ∧ c < i + 1 then gm 22 S c r else gm 22 S r c) → R_X0_turn_14 x (i + 1) S2 Qr Qx) → R_X0_turn_21 x i j S1 Qr Qx := by
    intro d
    induction d with
    | zero =>
      intro i j S1 hi0 hi hj0 hj hf hm h
      refine vc_X0_turn_21 fun _ _ _ _ => ⟨fun _ => ⟨⟨by omega, by omega⟩, h S1 hf fun r c r0 r1 c0 c1 => ?_⟩, fun z => absurd z (by omega)⟩
      rw [hm r c r0 r1 c0 c1]
      by_cases q : r < i + 1 ∧ c < i + 1
      · rw [if_pos q]
        by_cases q2 : r = i ∧ c = i
        · rw [q2.1, q2.2]; split <;> rfl
        · rw [if_pos (by omega)]
      · rw [if_neg q, if_neg (by omega)]
    | succ d ih =>
      intro i j S1 hi0 hi hj0 hj hf hm h
      refine vc_X0_turn_21 fun _ _ _ _ => ⟨fun z => absurd z (by omega), fun z => ⟨⟨by omega, by omega⟩, ⟨by omega, by omega⟩, ⟨by omega, by omega⟩, ih i (j + 1) _ hi0 hi (by omega) (by omega) (fk_up (fk_up hf)) (fun r c r0 r1 c0 c1 => ?_) h⟩⟩
      have e1 : S1 22 (40 * i + j) = gm 22 S i j := by
        have := hm i j hi0 (by omega) hj0 (by omega)
        rw [if_neg (by omega)] at this
        exact this
      have e2 : S1 22 (40 * j + i) = gm 22 S j i := by
        have := hm j i hj0 (by omega) hi0 (by omega)
        rw [if_neg (by omega)] at this
        exact this
      rw [gm_up hi0 (by omega) c0 c1, gm_up hj0 (by omega) c0 c1, hm r c r0 r1 c0 c1, e1, e2]
      by_cases q : r = j ∧ c = i
      · rw [if_pos q, if_pos (by omega), q.1, q.2]
      · rw [if_neg q]
        by_cases q2 : r = i ∧ c = j
        · rw [if_pos q2, if_pos (by omega), q2.1, q2.2]
        · rw [if_neg q2]
          by_cases q3 : (r < i ∧ c < i) ∨ (r = i ∧ c < j) ∨ (c = i ∧ r < j)
          · rw [if_pos q3, if_pos (by omega)]
          · rw [if_neg q3, if_neg (by omega)]
  have outer : ∀ (d : Nat) (i : Int) (S1 : St), 0 ≤ i → i + d = x → fk 22 S S1 → (∀ r c, 0 ≤ r → r < 40 → 0 ≤ c → c < 40 → gm 22 S1 r c = if r < i ∧ c < i then gm 22 S c r else gm 22 S r c) → R_X0_turn_14 x i S1 Qr Qx := by
    intro d
    induction d with
    | zero =>
      intro i S1 hi0 hi hf hm
      refine vc_X0_turn_14 fun _ _ _ => ⟨fun _ => h _ (fun k q q2 => ?_) ?_ ?_ (fun j q q2 => ?_) (fun r c r0 r1 c0 c1 => ?_), fun z => absurd z (by omega)⟩
      · rw [← hf k q]
        funext b'
        rw [up_ne _ q2, up_ne _ q2]
      · rw [up_at, if_neg (by decide), up_at, if_pos rfl, hf 5 (by decide)]
      · rw [up_at, if_pos rfl, hf 5 (by decide)]
      · rw [up_at, if_neg q2, up_at, if_neg q, hf 5 (by decide)]
      · have e : gm 22 (up (up S1 5 2 (S1 5 3)) 5 3 (S1 5 2)) = gm 22 S1 := by
          funext r c
          unfold gm
          rw [up_ne _ (by decide), up_ne _ (by decide)]
        rw [e, hm r c r0 (by omega) c0 (by omega), if_pos (by omega)]
    | succ d ih =>
      intro i S1 hi0 hi hf hm
      refine vc_X0_turn_14 fun _ _ _ => ⟨fun z => absurd z (by omega), fun _ => inner i.toNat i 0 S1 hi0 (by omega) (by omega) (by omega) hf (fun r c r0 r1 c0 c1 => ?_) fun S2 hf2 hm2 => ih (i + 1) S2 (by omega) (by omega) hf2 hm2⟩
      rw [hm r c r0 r1 c0 c1]
      by_cases q : r < i ∧ c < i
      · rw [if_pos q, if_pos (by omega)]
      · rw [if_neg q, if_neg (by omega)]
  refine outer x.toNat 0 S (by omega) (by omega) fk_rfl fun r c r0 r1 c0 c1 => ?_
  rw [if_neg (by omega)]
end GE
