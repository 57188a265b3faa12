/-! WHAT HOLDS between calls; calls in pairs -/
section INV
def same (V : St) (i j : Int) : Prop := (V 11 i = V 11 j ∧ V 12 i = V 12 j) ∨ (V 11 i = V 12 j ∧ V 12 i = V 11 j)
def nb (x : Int) : Int := if x = -1 then 2 else 3
theorem nb_rg (x : Int) : 2 ≤ nb x ∧ nb x ≤ 3 := by unfold nb; split <;> omega
def InvU (V : St) : Prop := ∀ i j, 0 ≤ i → i < j → j < V 2 0 → V 15 i = 0 → V 15 j = 0 → ¬ same V i j
def InvS (V : St) : Prop := (0 ≤ V 3 0 ∧ V 3 0 ≤ V 1 0) ∧ (∀ s, 0 ≤ s → s < V 3 0 → 0 ≤ V 16 s ∧ V 16 s < V 1 0) ∧ (∀ s t, 0 ≤ s → s < t → t < V 3 0 → V 16 s < V 16 t) ∧ (∀ s, 0 ≤ s → s < V 3 0 → 0 ≤ V 17 s ∧ V 17 s + nb (V 18 s) ≤ V 2 0 ∧ ∀ i, 0 ≤ i → i < nb (V 18 s) → V 12 (V 17 s + i) = V 16 s) ∧ (∀ s, 0 ≤ s → s < V 3 0 → V 18 s = -1 ∨ (0 ≤ V 18 s ∧ V 18 s < V 2 0 ∧ V 11 (V 18 s) < V 16 s ∧ V 12 (V 18 s) < V 16 s))
def Inv (V : St) : Prop := vOK V (V 1 0) (V 2 0) ∧ pOK V (V 1 0) ∧ (∀ j, -1 ≤ V 10 j ∧ V 10 j ≤ 30000) ∧ (∀ k, -99 ≤ V 14 k ∧ V 14 k ≤ 99) ∧ InvU V ∧ InvS V
def DoC (exs : List String) (c r : Int) (V' : St) (M : (Int → St → Prop) → (String → St → Prop) → Prop) : Prop :=
  ∀ (Qr : Int → St → Prop) (Qx : String → St → Prop), (c = 0 → ∀ S', vw S' = V' → Qr r S') → (c ≠ 0 → ∀ S', vw S' = V' → Qx (exs.getD (c.toNat - 1) "") S') → M Qr Qx
/-- a call of the class: code, answer, next view, and what P says of them -/
def PairP (V : St) (exs : List String) (MC : St → (Int → St → Prop) → (String → St → Prop) → Prop) (P : Int → Int → St → Prop) : Prop :=
  ∃ (c r : Int) (V' : St), P c r V' ∧ Inv V' ∧ 0 ≤ c ∧ c ≤ exs.length ∧ ∀ S, vw S = V → DoC exs c r V' (MC S)
section
variable {S : St} {Qr : Int → St → Prop} {Qx : String → St → Prop}
end
/-- a joint is added -/
def updJ (V : St) (a b : Int) : St := upc (up (up (up (up V 7 (V 1 0) a) 8 (V 1 0) b) 9 (V 1 0) 0) 10 (V 1 0) (-1)) 1 (V 1 0 + 1)
theorem Inv_J {V : St} {a b : Int} (h : Inv V) (hn : V 1 0 < 10) (hp : inPt a b) : Inv (updJ V a b) := by
  obtain ⟨⟨n0, n10, m0, m40, hE⟩, ⟨_, _, hP⟩, hq, ht, hu, hs0, hs1, hs2, hs3, hs4⟩ := h
  unfold inPt at hp
  refine ⟨⟨by show 0 ≤ V 1 0 + 1; omega, by show V 1 0 + 1 ≤ 10; omega, m0, m40, fun k k0 k1 => ?_⟩, ⟨by show 0 ≤ V 1 0 + 1; omega, by show V 1 0 + 1 ≤ 10; omega, fun j j0 j1 => ?_⟩, fun j => ?_, ht, hu, ⟨hs0.1, by show V 3 0 ≤ V 1 0 + 1; omega⟩, fun s s0 s1 => ?_, hs2, hs3, hs4⟩
  · obtain ⟨a1, a2, a3, a4, a5, a6⟩ := hE k k0 k1
    exact ⟨a1, a2, a3, a4, a5, fun z => ⟨by have := (a6 z).1; show V 11 k < V 1 0 + 1; omega, by have := (a6 z).2; show V 12 k < V 1 0 + 1; omega⟩⟩
  · have j1' : j < V 1 0 + 1 := j1
    show -50 ≤ (if j = V 1 0 then a else V 7 j) ∧ (if j = V 1 0 then a else V 7 j) ≤ 50 ∧ -50 ≤ (if j = V 1 0 then b else V 8 j) ∧ (if j = V 1 0 then b else V 8 j) ≤ 50
    by_cases q : j = V 1 0
    · rw [if_pos q, if_pos q]; omega
    · rw [if_neg q, if_neg q]; exact hP j j0 (by omega)
  · show -1 ≤ (if j = V 1 0 then (-1 : Int) else V 10 j) ∧ (if j = V 1 0 then (-1 : Int) else V 10 j) ≤ 30000
    split
    · decide
    · exact hq j
  · have := hs1 s s0 s1
    exact ⟨this.1, by show V 16 s < V 1 0 + 1; omega⟩
theorem pr_joint {V : St} (hI : Inv V) (a b : Int) : PairP V [IAE, ISE] (M_X6_joint a b) (fun c r V' => (inPt a b ∧ V 1 0 < 10 ∧ c = 0 ∧ r = V 1 0 ∧ V' = updJ V a b) ∨ (inPt a b ∧ ¬ V 1 0 < 10 ∧ c = 2 ∧ V' = V) ∨ (¬ inPt a b ∧ c = 1 ∧ V' = V)) := by
  have hI0 := hI
  obtain ⟨⟨n0, n10, _⟩, _⟩ := hI0
  by_cases hp : inPt a b
  · by_cases hn : V 1 0 < 10
    · refine ⟨0, V 1 0, updJ V a b, Or.inl ⟨hp, hn, rfl, rfl, rfl⟩, Inv_J hI hn hp, by decide, by decide, fun S hS Qr Qx h _ => ?_⟩
      · subst hS
        refine vc_X6_joint fun _ _ _ => sp_X6_requirePoint (fun _ _ => sp_X6_requireRoomForJoint (fun _ _ => sp_X1_add n0 hn fun _ _ => h rfl _ ?_) (fun z => absurd hn (Int.not_lt.mpr z))) (fun z => absurd hp z)
        rw [vw_up1, vw_up (by decide), vw_up (by decide), vw_up (by decide), vw_up (by decide)]
        rfl
    · refine ⟨2, 0, V, Or.inr (Or.inl ⟨hp, hn, rfl, rfl⟩), hI, by decide, by decide, fun S hS Qr Qx _ hx => ?_⟩
      · subst hS
        exact vc_X6_joint fun _ _ _ => sp_X6_requirePoint (fun _ _ => sp_X6_requireRoomForJoint (fun z => absurd z hn) (fun _ => hx (by decide) _ rfl)) (fun z => absurd hp z)
  · refine ⟨1, 0, V, Or.inr (Or.inr (⟨hp, rfl, rfl⟩)), hI, by decide, by decide, fun S hS Qr Qx _ hx => ?_⟩
    · subst hS
      exact vc_X6_joint fun _ _ _ => sp_X6_requirePoint (fun z => absurd z hp) (fun _ => hx (by decide) _ rfl)
end INV
