/-! CALLS IN PAIRS: chains, sheets, places -/
section OP7
theorem pr_places {V : St} (hI : Inv V) (e : Int) : PairP V [IAE] (M_X6_places e) (fun c r V' => ((0 ≤ e ∧ e ≤ 5000) ∧ c = 0 ∧ r = pcN V e 14762 (-60) (-60) 0 ∧ V' = V) ∨ (¬ (0 ≤ e ∧ e ≤ 5000) ∧ c = 1 ∧ V' = V)) := by
  by_cases he : 0 ≤ e ∧ e ≤ 5000
  · refine ⟨0, pcN V e 14762 (-60) (-60) 0, V, Or.inl ⟨he, rfl, rfl, rfl⟩, hI, by decide, by decide, fun S hS Qr Qx h _ => ?_⟩
    · subst hS
      exact vc_X6_places fun _ _ => sp_X6_requireError (fun _ _ _ => vc_X6_places_9 fun _ _ _ _ => ⟨fun z => absurd z (by decide), fun _ => lp_X6_places hI he 14762 (-60) (-60) 0 (by decide) (by decide) (by decide) (by decide) (by decide) (by decide) (by decide) (h rfl S rfl)⟩) (fun z => absurd he z)
  · refine ⟨1, 0, V, Or.inr (⟨he, rfl, rfl⟩), hI, by decide, by decide, fun S hS Qr Qx _ hx => ?_⟩
    · subst hS
      exact vc_X6_places fun _ _ => sp_X6_requireError (fun z1 z2 => absurd ⟨z1, z2⟩ he) (fun _ => hx (by decide) _ rfl)
theorem pr_place {V : St} (hI : Inv V) (e p : Int) : PairP V [IOOBE, IAE] (M_X6_place e p) (fun c r V' => (0 ≤ p ∧ (0 ≤ e ∧ e ≤ 5000) ∧ c = 0 ∧ r = plN V e 14762 (-60) (-60) p ∧ V' = V) ∨ (0 ≤ p ∧ ¬ (0 ≤ e ∧ e ≤ 5000) ∧ c = 2 ∧ V' = V) ∨ (¬ 0 ≤ p ∧ c = 1 ∧ V' = V)) := by
  by_cases hp : 0 ≤ p
  · by_cases he : 0 ≤ e ∧ e ≤ 5000
    · refine ⟨0, plN V e 14762 (-60) (-60) p, V, Or.inl ⟨hp, he, rfl, rfl, rfl⟩, hI, by decide, by decide, fun S hS Qr Qx h _ => ?_⟩
      · subst hS
        exact vc_X6_place fun _ _ _ => sp_X6_requireCount (fun _ _ => sp_X6_requireError (fun _ _ _ => vc_X6_place_14 fun _ _ _ _ _ => ⟨fun z => absurd z (by decide), fun _ => lp_X6_place hI he 14762 (-60) (-60) 0 (by decide) (by decide) (by decide) (by decide) (by decide) (by decide) (by decide) hp (by rw [Int.sub_zero]; exact h rfl S rfl)⟩) (fun z => absurd he z)) (fun z => by omega)
    · refine ⟨2, 0, V, Or.inr (Or.inl ⟨hp, he, rfl, rfl⟩), hI, by decide, by decide, fun S hS Qr Qx _ hx => ?_⟩
      · subst hS
        exact vc_X6_place fun _ _ _ => sp_X6_requireCount (fun _ _ => sp_X6_requireError (fun z1 z2 => absurd ⟨z1, z2⟩ he) (fun _ => hx (by decide) _ rfl)) (fun z => by omega)
  · refine ⟨1, 0, V, Or.inr (Or.inr (⟨hp, rfl, rfl⟩)), hI, by decide, by decide, fun S hS Qr Qx _ hx => ?_⟩
    · subst hS
      exact vc_X6_place fun _ _ _ => sp_X6_requireCount (fun z => absurd z hp) (fun _ => hx (by decide) _ rfl)
/-! chains -/
def lnk (a : Int) : Prop := 0 ≤ a ∧ a ≤ 1000000
theorem big3 (a b c : Int) : ∃ m, (if a < (if b < c then c else b) then (if b < c then c else b) else a) = m ∧ a ≤ m ∧ b ≤ m ∧ c ≤ m ∧ (m = a ∨ m = b ∨ m = c) := by
  refine ⟨_, rfl, ?_⟩
  by_cases q : b < c
  · rw [if_pos q]; by_cases q2 : a < c
    · rw [if_pos q2]; omega
    · rw [if_neg q2]; omega
  · rw [if_neg q]; by_cases q2 : a < b
    · rw [if_pos q2]; omega
    · rw [if_neg q2]; omega
section
variable {S : St} {Qr : Int → St → Prop} {Qx : String → St → Prop}
end
/-! sheets -/
def k1 (a : Int) : Int := a - zand (zushr a 1) 1431655765
def k2 (x : Int) : Int := zand x 858993459 + zand (zushr x 2) 858993459
def k3 (x : Int) : Int := zand (x + zushr x 4) 252645135
def k4 (x : Int) : Int := x + zushr x 8
def k5 (x : Int) : Int := x + zushr x 16
def rb (z : Int) : Bool := decide (-2147483648 ≤ z ∧ z < 2147483648)
theorem bc_tab : ∀ a : Nat, a < 16 → (rb (k1 a) && rb (k2 (k1 a)) && rb (k4 (k3 (k2 (k1 a)))) && rb (k5 (k4 (k3 (k2 (k1 a))))) && decide (zand (k5 (k4 (k3 (k2 (k1 a))))) 63 = pc a)) = true := by decide +kernel
section
variable {S : St} {Qr : Int → St → Prop} {Qx : String → St → Prop}
theorem rb_r {z : Int} (h : rb z = true) : r32 z := of_decide_eq_true h
end
theorem pc16 : ∀ a : Nat, a < 16 → (decide (0 ≤ pc a) && decide (pc a ≤ 4)) = true := by decide +kernel
def ang (a : Int) : Prop := 1 ≤ a ∧ a ≤ 359
end OP7
