/-! VIEWS: what class and reference hold in common -/
section VW
def vw (S : St) : St := fun k j => if k = 1 then S 1 4 else if k = 2 then S 2 5 else if k = 3 then S 3 3 else if 7 ≤ k ∧ k ≤ 18 then S k j else 0
def cs (T : St) : St := fun k j => if k = 1 then T 0 1 else if k = 2 then T 0 6 else if k = 3 then T 0 12 else if 7 ≤ k ∧ k ≤ 17 then T (k - 6) j else if k = 18 then T 13 j else 0
/-- a count of a view, set -/
def upc (V : St) (k : Nat) (v : Int) : St := fun a b => if a = k then v else V a b
theorem vw_eq {S S' : St} (h1 : S' 1 4 = S 1 4) (h2 : S' 2 5 = S 2 5) (h3 : S' 3 3 = S 3 3) (h : ∀ k j, 7 ≤ k → k ≤ 18 → S' k j = S k j) : vw S' = vw S := by
  funext k j
  unfold vw
  rw [h1, h2, h3]
  by_cases q : 7 ≤ k ∧ k ≤ 18
  · rw [if_pos q, if_pos q, h k j q.1 q.2]
  · rw [if_neg q, if_neg q]
theorem cs_eq {T T' : St} (h1 : T' 0 1 = T 0 1) (h2 : T' 0 6 = T 0 6) (h3 : T' 0 12 = T 0 12) (h : ∀ k j, 1 ≤ k → k ≤ 13 → k ≠ 12 → T' k j = T k j) : cs T' = cs T := by
  funext k j
  unfold cs
  rw [h1, h2, h3, h 13 j (by decide) (by decide) (by decide)]
  by_cases q : 7 ≤ k ∧ k ≤ 17
  · rw [if_pos q, if_pos q, h (k - 6) j (by omega) (by omega) (by omega)]
  · rw [if_neg q, if_neg q]
theorem vw_up_out {S : St} {k : Nat} {j v : Int} (h : ¬ (1 ≤ k ∧ k ≤ 3) ∧ ¬ (7 ≤ k ∧ k ≤ 18)) : vw (up S k j v) = vw S := by
  refine vw_eq ?_ ?_ ?_ (fun a b h1 h2 => up_ne _ (by omega) _ _ _)
  · exact up_ne _ (by omega) _ _ _
  · exact up_ne _ (by omega) _ _ _
  · exact up_ne _ (by omega) _ _ _
theorem vw_up {S : St} {k : Nat} {j v : Int} (h : 7 ≤ k ∧ k ≤ 18) : vw (up S k j v) = up (vw S) k j v := by
  funext a b
  by_cases q : a = k
  · subst q
    simp [vw, up, show ¬ a = 1 by omega, show ¬ a = 2 by omega, show ¬ a = 3 by omega, h]
  · simp [vw, up, q, show ¬ 1 = k by omega, show ¬ 2 = k by omega, show ¬ 3 = k by omega]
theorem vw_up1 {S : St} {v : Int} : vw (up S 1 4 v) = upc (vw S) 1 v := by
  funext a b
  by_cases q1 : a = 1
  · subst q1; rfl
  by_cases q2 : a = 2
  · subst q2; rfl
  by_cases q3 : a = 3
  · subst q3; rfl
  simp [vw, up, upc, q1, q2, q3]
theorem vw_up2 {S : St} {v : Int} : vw (up S 2 5 v) = upc (vw S) 2 v := by
  funext a b
  by_cases q1 : a = 1
  · subst q1; rfl
  by_cases q2 : a = 2
  · subst q2; rfl
  by_cases q3 : a = 3
  · subst q3; rfl
  simp [vw, up, upc, q1, q2, q3]
theorem vw_up3 {S : St} {v : Int} : vw (up S 3 3 v) = upc (vw S) 3 v := by
  funext a b
  by_cases q1 : a = 1
  · subst q1; rfl
  by_cases q2 : a = 2
  · subst q2; rfl
  by_cases q3 : a = 3
  · subst q3; rfl
  simp [vw, up, upc, q1, q2, q3]
theorem cs_up_out {T : St} {k : Nat} {j v : Int} (h : 14 ≤ k ∨ k = 12) : cs (up T k j v) = cs T := by
  refine cs_eq ?_ ?_ ?_ (fun a b h1 h2 h3 => up_ne _ (by omega) _ _ _)
  · exact up_ne _ (by omega) _ _ _
  · exact up_ne _ (by omega) _ _ _
  · exact up_ne _ (by omega) _ _ _
theorem cs_up0 {T : St} {j v : Int} (h1 : j ≠ 1) (h6 : j ≠ 6) (h12 : j ≠ 12) : cs (up T 0 j v) = cs T := by
  refine cs_eq ?_ ?_ ?_ (fun a b h1 h2 h3 => up_ne _ (by omega) _ _ _)
  · rw [up_at, if_neg (fun e => h1 e.symm)]
  · rw [up_at, if_neg (fun e => h6 e.symm)]
  · rw [up_at, if_neg (fun e => h12 e.symm)]
theorem cs_up {T : St} {k : Nat} {j v : Int} (h : 1 ≤ k ∧ k ≤ 11) : cs (up T k j v) = up (cs T) (k + 6) j v := by
  funext a b
  by_cases q : a = k + 6
  · subst q
    simp [cs, up, show ¬ k + 6 = 1 by omega, show ¬ k + 6 = 2 by omega, show ¬ k + 6 = 3 by omega, show 7 ≤ k + 6 ∧ k + 6 ≤ 17 by omega]
  · by_cases q2 : 7 ≤ a ∧ a ≤ 17
    · simp [cs, up, q, q2, show ¬ a = 1 by omega, show ¬ a = 2 by omega, show ¬ a = 3 by omega, show ¬ a - 6 = k by omega]
    · simp [cs, up, q, q2, show ¬ 0 = k by omega, show ¬ 13 = k by omega]
theorem cs_up18 {T : St} {j v : Int} : cs (up T 13 j v) = up (cs T) 18 j v := by
  funext a b
  by_cases q : a = 18
  · subst q
    rfl
  · by_cases q2 : 7 ≤ a ∧ a ≤ 17
    · simp [cs, up, q, q2, show ¬ a - 6 = 13 by omega]
    · simp [cs, up, q, q2]
theorem cs_upn {T : St} {v i : Int} {n : Nat} (h : (n = 1 ∧ i = 1) ∨ (n = 2 ∧ i = 6) ∨ (n = 3 ∧ i = 12)) : cs (up T 0 i v) = upc (cs T) n v := by
  funext a b
  by_cases q2 : 7 ≤ a ∧ a ≤ 17
  · rcases h with ⟨rfl, rfl⟩ | ⟨rfl, rfl⟩ | ⟨rfl, rfl⟩ <;> simp [cs, up, upc, q2, show ¬ a = 1 by omega, show ¬ a = 2 by omega, show ¬ a = 3 by omega, show ¬ a - 6 = 0 by omega]
  · by_cases q1 : a = 1
    · subst q1
      rcases h with ⟨rfl, rfl⟩ | ⟨rfl, rfl⟩ | ⟨rfl, rfl⟩ <;> rfl
    by_cases q3 : a = 2
    · subst q3
      rcases h with ⟨rfl, rfl⟩ | ⟨rfl, rfl⟩ | ⟨rfl, rfl⟩ <;> rfl
    by_cases q4 : a = 3
    · subst q4
      rcases h with ⟨rfl, rfl⟩ | ⟨rfl, rfl⟩ | ⟨rfl, rfl⟩ <;> rfl
    rcases h with ⟨rfl, rfl⟩ | ⟨rfl, rfl⟩ | ⟨rfl, rfl⟩ <;> simp [cs, up, upc, q1, q2, q3, q4]
theorem cs_up1 {T : St} {v : Int} : cs (up T 0 1 v) = upc (cs T) 1 v := cs_upn (Or.inl ⟨rfl, rfl⟩)
theorem cs_up2 {T : St} {v : Int} : cs (up T 0 6 v) = upc (cs T) 2 v := cs_upn (Or.inr (Or.inl ⟨rfl, rfl⟩))
theorem cs_up3 {T : St} {v : Int} : cs (up T 0 12 v) = upc (cs T) 3 v := cs_upn (Or.inr (Or.inr ⟨rfl, rfl⟩))
end VW
