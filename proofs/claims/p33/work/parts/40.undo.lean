/-! CALLS IN PAIRS: undo -/
section UNDO
def canU (V : St) : Prop := 0 < V 3 0 ∧ V 16 (V 3 0 - 1) = V 1 0 - 1 ∧ V 9 (V 16 (V 3 0 - 1)) = 0 ∧ (∀ i, 0 ≤ i → i < nb (V 18 (V 3 0 - 1)) → V 15 (V 17 (V 3 0 - 1) + i) = 0) ∧ cn (mEnd V (V 16 (V 3 0 - 1))) (V 2 0) = nb (V 18 (V 3 0 - 1))
def gN (V : St) (f : Int) : Nat → St
  | 0 => V
  | n + 1 => up (gN V f n) 15 (f + n) 1
theorem gN_out {V : St} {f : Int} : ∀ n k, k ≠ 15 → gN V f n k = V k
  | 0, _, _ => rfl
  | n + 1, k, h => by
    rw [← gN_out (V := V) (f := f) n k h]
    funext j
    exact up_ne _ h _ _ _
theorem gN_15 {V : St} {f : Int} : ∀ (n : Nat) (j : Int), gN V f n 15 j = if f ≤ j ∧ j < f + n then 1 else V 15 j
  | 0, j => by rw [if_neg (by omega)]; rfl
  | n + 1, j => by
    show up (gN V f n) 15 (f + n) 1 15 j = _
    rw [up_at, gN_15 n j]
    by_cases q : j = f + n
    · rw [if_pos q, if_pos (by omega)]
    · rw [if_neg q]
      by_cases q2 : f ≤ j ∧ j < f + n
      · rw [if_pos q2, if_pos (by omega)]
      · rw [if_neg q2, if_neg (by omega)]
theorem gN_upc {V : St} {f v : Int} : ∀ n, gN (upc V 3 v) f n = upc (gN V f n) 3 v
  | 0 => rfl
  | n + 1 => by
    show up (gN (upc V 3 v) f n) 15 (f + n) 1 = upc (up (gN V f n) 15 (f + n) 1) 3 v
    rw [gN_upc n]
    funext k j
    by_cases h : k = 3
    · subst h; rfl
    · by_cases h2 : k = 15
      · subst h2; rfl
      · simp [up, upc, h, h2]
/-- the state ahead of what is brought back -/
def u1 (V : St) : St := upc (gN V (V 17 (V 3 0 - 1)) (nb (V 18 (V 3 0 - 1))).toNat) 1 (V 1 0 - 1)
def bk (V : St) : Prop := V 18 (V 3 0 - 1) ≠ -1 ∧ ∀ k, 0 ≤ k → k < V 2 0 → ¬ mPair (u1 V) (V 11 (V 18 (V 3 0 - 1))) (V 12 (V 18 (V 3 0 - 1))) k
theorem cn_blk {p : Int → Bool} {f : Int} (hf : 0 ≤ f) : ∀ (b : Nat), (∀ i : Int, 0 ≤ i → i < b → p (f + i) = true) → cn p (f + b) = cn p f + b
  | 0, _ => by rw [show f + ((0 : Nat) : Int) = f by omega]; omega
  | b + 1, h => by
    have h1 := cn_blk hf b (fun i i0 i1 => h i i0 (by omega))
    have h2 := cn_t (p := p) (i := f + b) (by omega) (h b (by omega) (by omega))
    rw [show f + ((b + 1 : Nat) : Int) = f + b + 1 by omega, h2, h1]
    omega
theorem canU_end {V : St} (hI : Inv V) (hc : canU V) : ∀ k, 0 ≤ k → k < V 2 0 → V 15 k = 0 → ¬ (V 17 (V 3 0 - 1) ≤ k ∧ k < V 17 (V 3 0 - 1) + nb (V 18 (V 3 0 - 1))) → V 11 k < V 1 0 - 1 ∧ V 12 k < V 1 0 - 1 := by
  obtain ⟨⟨n0, n10, m0, m40, hE⟩, _, _, _, _, hs0, hs1, hs2, hs3, _⟩ := hI
  obtain ⟨c1, c2, c3, c4, c5⟩ := hc
  obtain ⟨d1, d2, d3⟩ := hs3 (V 3 0 - 1) (by omega) (by omega)
  have hb := nb_rg (V 18 (V 3 0 - 1))
  generalize V 17 (V 3 0 - 1) = f at *
  generalize hnb : nb (V 18 (V 3 0 - 1)) = b at *
  have hp : ∀ i : Int, 0 ≤ i → i < b.toNat → mEnd V (V 16 (V 3 0 - 1)) (f + i) = true := fun i i0 i1 => decide_eq_true ⟨c4 i i0 (by omega), Or.inr (d3 i i0 (by omega))⟩
  have h1 := cn_blk d1 b.toNat hp
  rw [Int.toNat_of_nonneg (by omega)] at h1
  intro k k0 k1 k2 k3
  obtain ⟨_, _, _, _, _, e6⟩ := hE k k0 k1
  obtain ⟨e7, e8⟩ := e6 k2
  have hne : mEnd V (V 16 (V 3 0 - 1)) k = false := by
    rw [Bool.eq_false_iff]
    intro hk
    have h2 := cn_le (p := mEnd V (V 16 (V 3 0 - 1))) (i := f + b) (by omega) (V 2 0 - (f + b)).toNat (V 2 0) (by omega)
    have h3 := cn_rng (mEnd V (V 16 (V 3 0 - 1))) d1
    by_cases q : k < f
    · have := cn_lt k0 q hk
      have := cn_rng (mEnd V (V 16 (V 3 0 - 1))) k0
      omega
    · have h4 := cn_lt k0 k1 hk
      have h5 := cn_le (p := mEnd V (V 16 (V 3 0 - 1))) (i := f + b) (by omega) (k - (f + b)).toNat k (by omega)
      omega
  have hne2 := of_decide_eq_false hne
  have : V 11 k ≠ V 1 0 - 1 := fun e => hne2 ⟨k2, Or.inl (by rw [e, c2])⟩
  have : V 12 k ≠ V 1 0 - 1 := fun e => hne2 ⟨k2, Or.inr (by rw [e, c2])⟩
  omega
theorem u1_15 {V : St} (j : Int) : u1 V 15 j = if V 17 (V 3 0 - 1) ≤ j ∧ j < V 17 (V 3 0 - 1) + nb (V 18 (V 3 0 - 1)) then 1 else V 15 j := by
  have hb := nb_rg (V 18 (V 3 0 - 1))
  show gN V _ _ 15 j = _
  rw [gN_15, Int.toNat_of_nonneg (by omega)]
theorem u1_out {V : St} {k : Nat} (h1 : k ≠ 1) (h : k ≠ 15) : u1 V k = V k := by
  funext j
  show (if k = 1 then _ else gN V _ _ k j) = _
  rw [if_neg h1, gN_out _ k h]
/-- undone: with or without the member that was split -/
theorem Inv_U {V V' : St} (hI : Inv V) (hc : canU V) (h15 : ∀ j, V' 15 j = 0 → (j = V 18 (V 3 0 - 1) ∧ bk V) ∨ u1 V 15 j = 0) (h1 : V' 1 0 = V 1 0 - 1) (h3 : V' 3 0 = V 3 0 - 1) (ho : ∀ k, k ≠ 1 → k ≠ 3 → k ≠ 15 → V' k = V k) : Inv V' := by
  have hend := canU_end hI hc
  obtain ⟨⟨n0, n10, m0, m40, hE⟩, ⟨_, _, hP⟩, hq, ht, hu, hs0, hs1, hs2, hs3, hs4⟩ := hI
  have e2 := ho 2 (by decide) (by decide) (by decide)
  have e7 := ho 7 (by decide) (by decide) (by decide)
  have e8 := ho 8 (by decide) (by decide) (by decide)
  have e10 := ho 10 (by decide) (by decide) (by decide)
  have e11 := ho 11 (by decide) (by decide) (by decide)
  have e12 := ho 12 (by decide) (by decide) (by decide)
  have e14 := ho 14 (by decide) (by decide) (by decide)
  have e16 := ho 16 (by decide) (by decide) (by decide)
  have e17 := ho 17 (by decide) (by decide) (by decide)
  have e18 := ho 18 (by decide) (by decide) (by decide)
  obtain ⟨c1, c2, c3, c4, c5⟩ := hc
  have hpres : ∀ k, V' 15 k = 0 → (k = V 18 (V 3 0 - 1) ∧ bk V) ∨ (V 15 k = 0 ∧ u1 V 15 k = 0 ∧ ¬ (V 17 (V 3 0 - 1) ≤ k ∧ k < V 17 (V 3 0 - 1) + nb (V 18 (V 3 0 - 1)))) := fun k z => by
    rcases h15 k z with q | z
    · exact Or.inl q
    · have z' := z
      rw [u1_15] at z'
      by_cases q2 : V 17 (V 3 0 - 1) ≤ k ∧ k < V 17 (V 3 0 - 1) + nb (V 18 (V 3 0 - 1))
      · rw [if_pos q2] at z'; exact absurd z' (by decide)
      · rw [if_neg q2] at z'; exact Or.inr ⟨z', z, q2⟩
  have hsp : bk V → 0 ≤ V 18 (V 3 0 - 1) ∧ V 18 (V 3 0 - 1) < V 2 0 ∧ V 11 (V 18 (V 3 0 - 1)) < V 1 0 - 1 ∧ V 12 (V 18 (V 3 0 - 1)) < V 1 0 - 1 := fun z => by
    have := hs4 (V 3 0 - 1) (by omega) (by omega)
    rw [c2] at this
    exact this.resolve_left z.1
  have hnp : ∀ k, bk V → 0 ≤ k → k < V 2 0 → u1 V 15 k = 0 → ¬ same V k (V 18 (V 3 0 - 1)) := fun k hb k0 k1 z z2 => by
    refine hb.2 k k0 k1 ⟨z, ?_⟩
    rw [u1_out (by decide) (by decide), u1_out (by decide) (by decide)]
    unfold same at z2
    omega
  have hsy : ∀ i j, same V i j → same V j i := fun i j z => by unfold same at z ⊢; omega
  refine ⟨⟨by rw [h1]; omega, by rw [h1]; omega, by rw [e2]; exact m0, by rw [e2]; exact m40, fun k k0 k1 => ?_⟩, ⟨by rw [h1]; omega, by rw [h1]; omega, fun j j0 j1 => ?_⟩, ?_, ?_, fun i j i0 ij j1 z1 z2 z => ?_, ⟨by rw [h3, h1]; omega, fun s s0 s1 => ?_, fun s t s0 st t1 => ?_, fun s s0 s1 => ?_, fun s s0 s1 => ?_⟩⟩
  · rw [e2] at k1
    rw [e11, e12, h1]
    obtain ⟨a1, a2, a3, a4, a5, a6⟩ := hE k k0 k1
    refine ⟨a1, a2, a3, a4, a5, fun z => ?_⟩
    rcases hpres k z with ⟨y, y2⟩ | ⟨y, _, y2⟩
    · rw [y]; exact (hsp y2).2.2
    · exact hend k k0 k1 y y2
  · rw [h1] at j1
    rw [e7, e8]
    exact hP j j0 (by omega)
  · rw [e10]; exact hq
  · rw [e14]; exact ht
  · rw [e2] at j1
    have z' : same V i j := by unfold same at z ⊢; rw [e11, e12] at z; exact z
    rcases hpres i z1 with ⟨y1, y2⟩ | ⟨y1, y2, y3⟩
    · rcases hpres j z2 with ⟨w1, w2⟩ | ⟨w1, w2, w3⟩
      · omega
      · rw [y1] at z'
        exact hnp j y2 (by omega) j1 w2 (hsy _ _ z')
    · rcases hpres j z2 with ⟨w1, w2⟩ | ⟨w1, w2, w3⟩
      · rw [w1] at z'
        exact hnp i w2 i0 (by omega) y2 z'
      · exact hu i j i0 ij j1 y1 w1 z'
  · rw [h3] at s1
    rw [e16, h1]
    have a1 := hs1 s s0 (by omega)
    have a2 := hs2 s (V 3 0 - 1) s0 (by omega) (by omega)
    omega
  · rw [h3] at t1
    rw [e16]
    exact hs2 s t s0 st (by omega)
  · rw [h3] at s1
    rw [e17, e18, e2, e12, e16]
    exact hs3 s s0 (by omega)
  · rw [h3] at s1
    rw [e18, e2, e11, e12, e16]
    exact hs4 s s0 (by omega)
end UNDO
