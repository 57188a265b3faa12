/-! PLACES, one behind the other -/
section PLC
theorem pcN_c {V : St} {e : Int} : ∀ (d : Nat) (x y c : Int), pcN V e d x y c = c + pcN V e d x y 0
  | 0, x, y, c => by unfold pcN; omega
  | d + 1, x, y, c => by
    unfold pcN
    by_cases q : 60 < y
    · rw [if_pos q, if_pos q]
      by_cases q2 : 60 < x + 1
      · rw [if_pos q2, if_pos q2]; omega
      · rw [if_neg q2, if_neg q2]; exact pcN_c d _ _ _
    · rw [if_neg q, if_neg q, pcN_c d x (y + 1) (c + _), pcN_c d x (y + 1) (0 + _)]
      omega
/-- how many are left, and where they lie -/
theorem pl_all {V : St} {e : Int} : ∀ (d : Nat) (x y : Int), -60 ≤ x → x ≤ 60 → -60 ≤ y → y ≤ 61 → 122 * (60 - x) + (61 - y) < d → (0 ≤ pcN V e d x y 0 ∧ pcN V e d x y 0 ≤ 121 * (60 - x) + (61 - y)) ∧ (∀ l, 0 ≤ l → pcN V e d x y 0 ≤ l → plN V e d x y l = -1) ∧ (∀ l, 0 ≤ l → l < pcN V e d x y 0 → 1000 * (x + 60) + y + 60 ≤ plN V e d x y l) ∧ (∀ l l', 0 ≤ l → l < l' → l' < pcN V e d x y 0 → plN V e d x y l < plN V e d x y l')
  | 0, x, y, _, _, _, _, hd => absurd hd (by omega)
  | d + 1, x, y, x0, x1, y0, y1, hd => by
    unfold pcN plN
    by_cases q : 60 < y
    · rw [if_pos q]
      by_cases q2 : 60 < x + 1
      · rw [if_pos q2]
        refine ⟨⟨by omega, by omega⟩, fun l _ _ => by rw [if_pos q, if_pos q2], fun l l0 l1 => by omega, fun l l' l0 l1 l2 => by omega⟩
      · rw [if_neg q2]
        obtain ⟨⟨a1, a2⟩, a3, a4, a5⟩ := pl_all (V := V) (e := e) d (x + 1) (-60) (by omega) (by omega) (by omega) (by omega) (by omega)
        refine ⟨⟨a1, by omega⟩, fun l l0 l1 => ?_, fun l l0 l1 => ?_, fun l l' l0 l1 l2 => ?_⟩
        · rw [if_pos q, if_neg q2]; exact a3 l l0 l1
        · rw [if_pos q, if_neg q2]
          have := a4 l l0 l1
          omega
        · rw [if_pos q, if_neg q2, if_pos q, if_neg q2]
          exact a5 l l' l0 l1 l2
    · rw [if_neg q]
      obtain ⟨⟨a1, a2⟩, a3, a4, a5⟩ := pl_all (V := V) (e := e) d x (y + 1) (by omega) (by omega) (by omega) (by omega) (by omega)
      rw [pcN_c d x (y + 1) (0 + _)]
      by_cases f : fb V x y e (V 1 0) = true
      · rw [if_pos f]
        refine ⟨⟨by omega, by omega⟩, fun l l0 l1 => ?_, fun l l0 l1 => ?_, fun l l' l0 l1 l2 => ?_⟩
        · rw [if_neg q, if_pos f, if_neg (by omega)]
          exact a3 (l - 1) (by omega) (by omega)
        · rw [if_neg q, if_pos f]
          by_cases z : l = 0
          · rw [if_pos z]; exact Int.le_refl _
          · rw [if_neg z]
            have := a4 (l - 1) (by omega) (by omega)
            omega
        · rw [if_neg q, if_pos f, if_neg q, if_pos f, if_neg (show ¬ l' = 0 by omega)]
          by_cases z : l = 0
          · rw [if_pos z]
            have := a4 (l' - 1) (by omega) (by omega)
            omega
          · rw [if_neg z]
            exact a5 (l - 1) (l' - 1) (by omega) (by omega) (by omega)
      · rw [if_neg f]
        refine ⟨⟨by omega, by omega⟩, fun l l0 l1 => ?_, fun l l0 l1 => ?_, fun l l' l0 l1 l2 => ?_⟩
        · rw [if_neg q, if_neg f]
          exact a3 l l0 (by omega)
        · rw [if_neg q, if_neg f]
          have := a4 l l0 (by omega)
          omega
        · rw [if_neg q, if_neg f, if_neg q, if_neg f]
          exact a5 l l' l0 l1 (by omega)
theorem fb_mono {V : St} {x y e e' : Int} (h : e ≤ e') : ∀ n : Nat, fbN V x y e n = true → fbN V x y e' n = true
  | 0, _ => rfl
  | n + 1, hf => by
    unfold fbN at hf ⊢
    rw [Bool.and_eq_true] at hf ⊢
    refine ⟨fb_mono h n hf.1, ?_⟩
    have := of_decide_eq_true hf.2
    exact decide_eq_true (by omega)
theorem pc_mono {V : St} {e e' : Int} (h : e ≤ e') : ∀ (d : Nat) (x y c c' : Int), c ≤ c' → pcN V e d x y c ≤ pcN V e' d x y c'
  | 0, x, y, c, c', hc => hc
  | d + 1, x, y, c, c', hc => by
    unfold pcN
    by_cases q : 60 < y
    · rw [if_pos q, if_pos q]
      by_cases q2 : 60 < x + 1
      · rw [if_pos q2, if_pos q2]; exact hc
      · rw [if_neg q2, if_neg q2]; exact pc_mono h d _ _ _ _ hc
    · rw [if_neg q, if_neg q]
      refine pc_mono h d _ _ _ _ ?_
      by_cases f : fb V x y e (V 1 0) = true
      · have f' : fb V x y e' (V 1 0) = true := fb_mono h _ f
        rw [if_pos f, if_pos f']; omega
      · rw [if_neg f]; split <;> omega
theorem pc_none {V : St} {e : Int} (h : V 1 0 = 0) : ∀ (d : Nat) (x y : Int), -60 ≤ x → x ≤ 60 → -60 ≤ y → y ≤ 61 → 122 * (60 - x) + (61 - y) < d → pcN V e d x y 0 = 121 * (60 - x) + (61 - y)
  | 0, x, y, _, _, _, _, hd => absurd hd (by omega)
  | d + 1, x, y, x0, x1, y0, y1, hd => by
    unfold pcN
    by_cases q : 60 < y
    · rw [if_pos q]
      by_cases q2 : 60 < x + 1
      · rw [if_pos q2]; omega
      · rw [if_neg q2, pc_none h d (x + 1) (-60) (by omega) (by omega) (by omega) (by omega) (by omega)]
        omega
    · have f : fb V x y e (V 1 0) = true := by rw [h]; rfl
      rw [if_neg q, if_pos f, pcN_c, pc_none h d x (y + 1) (by omega) (by omega) (by omega) (by omega) (by omega)]
      omega
/-- what is asked of places -/
theorem places_ok {V : St} {e : Int} : (0 ≤ pcN V e 14762 (-60) (-60) 0 ∧ pcN V e 14762 (-60) (-60) 0 ≤ 14641) ∧ (∀ l, 0 ≤ l → pcN V e 14762 (-60) (-60) 0 ≤ l → plN V e 14762 (-60) (-60) l = -1) ∧ (∀ l, 0 ≤ l → l < pcN V e 14762 (-60) (-60) 0 → 0 ≤ plN V e 14762 (-60) (-60) l) ∧ (∀ l l', 0 ≤ l → l < l' → l' < pcN V e 14762 (-60) (-60) 0 → plN V e 14762 (-60) (-60) l < plN V e 14762 (-60) (-60) l') := by
  obtain ⟨⟨a1, a2⟩, a3, a4, a5⟩ := pl_all (V := V) (e := e) 14762 (-60) (-60) (by decide) (by decide) (by decide) (by decide) (by decide)
  exact ⟨⟨a1, by omega⟩, a3, fun l l0 l1 => by have := a4 l l0 l1; omega, a5⟩
end PLC
