/-! PEBBLES: the way back -/
section PEB2
variable {S : St} {Qr : Int → St → Prop} {Qx : String → St → Prop}
theorem up24 {p v : Int} : up S 24 p v 24 = pset (S 24) p v := by
  funext q
  rw [up_at]; rfl
/-- what a way back leaves -/
def backP (L : Int → Int) (n j o : Int) (L' : Int → Int) : Prop :=
  pbOK L' n ∧ (∀ U, spP L' U = spP L U) ∧ (∃ p0, p0 / 2 = j ∧ L p0 ≠ -1 ∧ L' p0 = -1 ∧ ∀ p, p / 2 = j → p ≠ p0 → L' p = L p) ∧ (both L o → both L' o)
theorem lp_passBack {L C W : Int → Int} {n j o : Int} {N : Int} (hn : n ≤ 10) (hN : N < 10) (hpb0 : pbOK L n) (hW0 : W 0 = j) (hWr : ∀ i, 0 ≤ i → i ≤ N → 0 ≤ W i ∧ W i < n) (hWi : ∀ i i', 0 ≤ i → i < i' → i' ≤ N → W i ≠ W i') (hC : ∀ i, 0 < i → i ≤ N → 0 ≤ C (W i) ∧ C (W i) < 20 ∧ L (C (W i)) = W i ∧ ∃ i', 0 ≤ i' ∧ i' < i ∧ W i' = C (W i) / 2) (h : ∀ S', fq [24] S S' → backP L n j o (S' 24) → Qr 0 S') : ∀ (d : Nat) (i : Int) (S1 : St) (f r : Int), i < d → 0 ≤ i → i ≤ N → 0 ≤ r → r + i < 10 → fq [24] S S1 → S1 25 = C → (∀ p i', 0 ≤ i' → i' < i → p / 2 = W i' → S1 24 p = L p) → S1 24 f = -1 → f / 2 = W i → 0 ≤ f → f < 20 → pbOK (S1 24) n → (∀ U, spP (S1 24) U = spP L U) → (i = 0 → L f ≠ -1 ∧ ∀ p, p / 2 = j → p ≠ f → S1 24 p = L p) → (both L o → W i ≠ o ∧ both (S1 24) o) → R_X4_passBack_9 j (W i) f r S1 Qr Qx
  | 0, i, _, _, _, hd, h0, _, _, _, _, _, _, _, _, _, _, _, _, _, _ => absurd hd (by omega)
  | d + 1, i, S1, f, r, hd, h0, hiN, r0, ri, hf, h25, hold, f1, f2, f3, f4, hpb, hspn, hj0, ho => by
    obtain ⟨w0, w1⟩ := hWr i h0 hiN
    refine vc_X4_passBack_9 fun _ _ _ _ _ => ⟨fun z => absurd z (by omega), fun _ => ⟨fun q => ?_, fun q => ⟨⟨by omega, by omega⟩, ?_⟩⟩⟩
    · have hi0 : i = 0 := by
        by_cases z : 0 < i
        · exact absurd (hW0.trans q.symm) (hWi 0 i (Int.le_refl _) z hiN)
        · omega
      obtain ⟨a1, a2⟩ := hj0 hi0
      rw [hi0, hW0] at f2
      exact h S1 hf ⟨hpb, hspn, ⟨f, f2, a1, f1, a2⟩, fun z => (ho z).2⟩
    · have hip : 0 < i := by
        by_cases z : 0 < i
        · exact z
        · exact absurd (by rw [show i = 0 by omega]; exact hW0) q
      obtain ⟨c0, c1, c2, i', i0, i1, c3⟩ := hC i hip hiN
      rw [h25]
      have et : Int.tdiv (C (W i)) 2 = C (W i) / 2 := Int.tdiv_eq_ediv_of_nonneg c0
      rw [et]
      have hp24 : S1 24 (C (W i)) = W i := by rw [hold _ i' i0 i1 c3.symm]; exact c2
      have hLp := (hpb0 (C (W i)) c0 c1).resolve_left (by rw [c2]; omega)
      have hfp : f ≠ C (W i) := fun z => by
        have e : W i = C (W i) / 2 := f2.symm.trans (by rw [z])
        rw [c2] at hLp
        exact hLp.2.2.1 e
      have hso : both L o → C (W i) / 2 ≠ o := fun z z2 => by
        rcases (show C (W i) = 2 * o ∨ C (W i) = 2 * o + 1 by omega) with e | e
        · have := z.1; rw [← e, c2] at this; omega
        · have := z.2; rw [← e, c2] at this; omega
      refine ⟨fun _ => ⟨⟨f3, f4⟩, ⟨by omega, by omega⟩, ⟨c0, c1⟩, ⟨by omega, by omega⟩, ?_⟩, fun z => by omega⟩
      have e24 : up (up S1 24 f (C (W i) / 2)) 24 (C (W i)) (-1) 24 = pset (pset (S1 24) f (C (W i) / 2)) (C (W i)) (-1) := by rw [up24, up24]
      have hrec := lp_passBack hn hN hpb0 hW0 hWr hWi hC h d i' (up (up S1 24 f (C (W i) / 2)) 24 (C (W i)) (-1)) (C (W i)) (r + 1) (by omega) i0 (by omega) (by omega) (by omega) (fq_up (fq_up hf (by decide)) (by decide)) (by
        rw [← h25]; funext b; rw [up_ne _ (by decide), up_ne _ (by decide)]) (fun p k k0 k1 hk => by
        rw [e24, pset_at, pset_at]
        have n1 : p ≠ C (W i) := fun z => by
          rw [z, ← c3] at hk
          exact hWi k i' k0 k1 (by omega) hk.symm
        have n2 : p ≠ f := fun z => by
          rw [z, f2] at hk
          exact hWi k i k0 (by omega) hiN hk.symm
        rw [if_neg n1, if_neg n2]
        exact hold p k k0 (by omega) hk) (by rw [e24, pset_at, if_pos rfl]) c3.symm c0 c1 (fun p p0 p1 => by
        rw [e24, pset_at]
        by_cases z : p = C (W i)
        · rw [if_pos z]; exact Or.inl rfl
        · rw [if_neg z, pset_at]
          by_cases z2 : p = f
          · rw [if_pos z2, z2, f2]
            rw [c2] at hLp
            exact Or.inr ⟨by omega, hLp.2.2.2, fun y => hLp.2.2.1 y.symm, w1⟩
          · rw [if_neg z2]; exact hpb p p0 p1) (fun U => by
        rw [e24, spP_turn U ⟨f3, f4⟩ ⟨c0, c1⟩ hfp f1 hp24 f2 (by omega)]
        exact hspn U) (fun hz => by
        refine ⟨by rw [c2]; omega, fun p hp hne => ?_⟩
        rw [hz, hW0] at c3
        rw [e24, pset_at, if_neg hne, pset_at]
        have n2 : p ≠ f := fun z => by
          rw [z, f2] at hp
          exact hWi 0 i (Int.le_refl _) hip hiN (hW0.trans hp.symm)
        rw [if_neg n2]
        exact hold p 0 (Int.le_refl _) hip (hp.trans hW0.symm)) (fun z => by
        obtain ⟨o1, o2, o3⟩ := ho z
        have o4 := hso z
        refine ⟨by rw [c3]; exact o4, ?_, ?_⟩
        · rw [e24, pset_at, if_neg (by omega), pset_at, if_neg (by omega)]; exact o2
        · rw [e24, pset_at, if_neg (by omega), pset_at, if_neg (by omega)]; exact o3)
      rw [c3] at hrec
      exact hrec
end PEB2
