/-! WHAT THE LAW HOLDS between its steps -/
section LJ
/-- the law has written down m of the members -/
def PJ (V : St) (D E : Int → Int) (m : Int) : Prop := Inv V ∧ IX V ∧ (D 0 = V 1 0 ∧ D 1 = m ∧ D 2 = V 3 0) ∧ (∀ k, 0 ≤ k → k < m → E (2 * k) = V 11 k ∧ E (2 * k + 1) = V 12 k) ∧ m ≤ V 2 0 ∧ V 2 0 ≤ 32
def LJ (V : St) (D E : Int → Int) : Prop := PJ V D E (V 2 0)
theorem tm_rg {a b : Int} (ha : 0 ≤ a) (hb : 0 < b) : 0 ≤ Int.tmod a b ∧ Int.tmod a b < b := by
  rw [Int.tmod_eq_emod_of_nonneg ha]
  exact ⟨Int.emod_nonneg _ (by omega), Int.emod_lt_of_pos _ hb⟩
theorem td_eq {a b : Int} (ha : 0 ≤ a) : Int.tdiv a b = a / b := Int.tdiv_eq_ediv_of_nonneg ha
theorem td_rg {a b : Int} (ha : 0 ≤ a) (hb : 0 < b) : 0 ≤ Int.tdiv a b ∧ Int.tdiv a b ≤ a := by
  rw [td_eq ha]
  exact ⟨Int.ediv_nonneg ha (by omega), Int.ediv_le_self _ ha⟩
variable {S V : St} {D E : Int → Int} {Qr : Int → St → Prop} {Qx : String → St → Prop}
theorem PJ_at {m : Int} (hL : PJ V D E m) (h : lv S V D E) : S 70 0 = V 1 0 ∧ S 70 1 = m ∧ S 70 2 = V 3 0 := by
  rw [h.2.1]
  exact hL.2.2.1
/-- what doesn't change counts, ends, what is gone and what is told of new ones -/
theorem PJ_same {V V' : St} {D E : Int → Int} {m : Int} (hL : PJ V D E m) (hI : Inv V') (h1 : V' 1 0 = V 1 0) (h2 : V' 2 0 = V 2 0) (h3 : V' 3 0 = V 3 0) (h11 : V' 11 = V 11) (h12 : V' 12 = V 12) (h15 : ∀ k, V 2 0 ≤ k → V' 15 k = 0 ∧ V' 14 k = 0) : PJ V' D E m := by
  obtain ⟨_, _, ⟨d0, d1, d2⟩, hE, hm, h32⟩ := hL
  exact ⟨hI, fun k hk => h15 k (by omega), ⟨by omega, d1, by omega⟩, fun k k0 k1 => by rw [h11, h12]; exact hE k k0 k1, by omega, by omega⟩
theorem LJ_same {V V' : St} {D E : Int → Int} (hL : LJ V D E) (hI : Inv V') (h1 : V' 1 0 = V 1 0) (h2 : V' 2 0 = V 2 0) (h3 : V' 3 0 = V 3 0) (h11 : V' 11 = V 11) (h12 : V' 12 = V 12) (h15 : ∀ k, V 2 0 ≤ k → V' 15 k = 0 ∧ V' 14 k = 0) : LJ V' D E := by
  unfold LJ
  rw [h2]
  exact PJ_same hL hI h1 h2 h3 h11 h12 h15
/-- one more written down -/
theorem PJ_set {s : Int} (hL : PJ V D E s) (s0 : 0 ≤ s) (hs : s < V 2 0) : PJ V (ud D 1 (s + 1)) (ud (ud E (2 * s) (V 11 s)) (2 * s + 1) (V 12 s)) (s + 1) := by
  obtain ⟨hI, hX, ⟨d0, d1, d2⟩, hE, hm, h32⟩ := hL
  refine ⟨hI, hX, ⟨?_, ?_, ?_⟩, fun k k0 k1 => ?_, by omega, h32⟩
  · show (if (0 : Int) = 1 then s + 1 else D 0) = V 1 0
    rw [if_neg (by decide)]; exact d0
  · show (if (1 : Int) = 1 then s + 1 else D 1) = s + 1
    rw [if_pos rfl]
  · show (if (2 : Int) = 1 then s + 1 else D 2) = V 3 0
    rw [if_neg (by decide)]; exact d2
  · show (if 2 * k = 2 * s + 1 then V 12 s else if 2 * k = 2 * s then V 11 s else E (2 * k)) = V 11 k ∧ (if 2 * k + 1 = 2 * s + 1 then V 12 s else if 2 * k + 1 = 2 * s then V 11 s else E (2 * k + 1)) = V 12 k
    rw [if_neg (by omega)]
    by_cases q : k = s
    · rw [if_pos (by omega), if_pos (by omega), q]
      exact ⟨rfl, rfl⟩
    · rw [if_neg (by omega), if_neg (by omega), if_neg (by omega)]
      exact hE k k0 (by omega)
/-- written down, by the law's own call -/
theorem sP_isSet {s a b : Int} (hL : PJ V D E s) (h : lv S V D E) (ht : thr V s) (h14 : V 14 s = 0) (ha : a = V 11 s) (hb : b = V 12 s) (k : ∀ S' D' E', lv S' V D' E' → PJ V D' E' (s + 1) → Qr 1 S') : M_L_isSet s a b S Qr Qx := by
  have h32 := hL.2.2.2.2.2
  have hlt := ht.2.1
  refine sL_isSet hL.1 h hL.2.2.1.2.1.symm ht (by omega) h14 fun S' l => k S' _ _ l ?_
  rw [ha, hb]
  exact PJ_set hL ht.1 ht.2.1
/-- the counts of joints and steps, written down -/
theorem PJ_D {m d : Int} {V' : St} (hL : PJ V D E m) (hI : Inv V') (hX : IX V') (hd : V' 1 0 = V 1 0 + d) (hs : V' 3 0 = V 3 0 + d) (hE : ∀ k, 0 ≤ k → k < m → V' 11 k = V 11 k ∧ V' 12 k = V 12 k) (hm : m ≤ V' 2 0) (h32 : V' 2 0 ≤ 32) : PJ V' (ud (ud D 0 (V 1 0 + d)) 2 (V 3 0 + d)) E m := by
  obtain ⟨_, _, ⟨d0, d1, d2⟩, hE0, _, _⟩ := hL
  refine ⟨hI, hX, ⟨?_, ?_, ?_⟩, fun k k0 k1 => ?_, hm, h32⟩
  · show (if (0 : Int) = 2 then V 3 0 + d else if (0 : Int) = 0 then V 1 0 + d else D 0) = V' 1 0
    rw [if_neg (by decide), if_pos rfl, hd]
  · show (if (1 : Int) = 2 then V 3 0 + d else if (1 : Int) = 0 then V 1 0 + d else D 1) = m
    rw [if_neg (by decide), if_neg (by decide)]; exact d1
  · show (if (2 : Int) = 2 then V 3 0 + d else if (2 : Int) = 0 then V 1 0 + d else D 2) = V' 3 0
    rw [if_pos rfl, hs]
  · obtain ⟨a, b⟩ := hE k k0 k1
    rw [a, b]
    exact hE0 k k0 k1
end LJ
