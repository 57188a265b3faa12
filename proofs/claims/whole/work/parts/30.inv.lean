/-! WHAT HOLDS between calls; calls in pairs -/
section INV
def same (V : St) (i j : Int) : Prop := (V 11 i = V 11 j ∧ V 12 i = V 12 j) ∨ (V 11 i = V 12 j ∧ V 12 i = V 11 j)
def nb (x : Int) : Int := if x = -1 then 2 else 3
theorem nb_rg (x : Int) : 2 ≤ nb x ∧ nb x ≤ 3 := by unfold nb; split <;> omega
def InvU (V : St) : Prop := ∀ i j, 0 ≤ i → i < j → j < V 2 0 → V 15 i = 0 → V 15 j = 0 → ¬ same V i j
def InvS (V : St) : Prop := (0 ≤ V 3 0 ∧ V 3 0 ≤ V 1 0) ∧ (∀ s, 0 ≤ s → s < V 3 0 → 0 ≤ V 16 s ∧ V 16 s < V 1 0) ∧ (∀ s t, 0 ≤ s → s < t → t < V 3 0 → V 16 s < V 16 t) ∧ (∀ s, 0 ≤ s → s < V 3 0 → 0 ≤ V 17 s ∧ V 17 s + nb (V 18 s) ≤ V 2 0 ∧ ∀ i, 0 ≤ i → i < nb (V 18 s) → V 12 (V 17 s + i) = V 16 s) ∧ (∀ s, 0 ≤ s → s < V 3 0 → V 18 s = -1 ∨ (0 ≤ V 18 s ∧ V 18 s < V 2 0 ∧ V 11 (V 18 s) < V 16 s ∧ V 12 (V 18 s) < V 16 s))
def Inv (V : St) : Prop := vOK V (V 1 0) (V 2 0) ∧ pOK V (V 1 0) ∧ (∀ j, -1 ≤ V 10 j ∧ V 10 j ≤ 30000) ∧ (∀ k, -99 ≤ V 14 k ∧ V 14 k ≤ 99) ∧ InvU V ∧ InvS V
def DoC (exs : List String) (c r : Int) (V' : St) (M : (Int → St → Prop) → (String → St → Prop) → Prop) : Prop :=
  ∀ (Qr : Int → St → Prop) (Qx : String → St → Prop), (c = 0 → ∀ S', vw S' = V' → Qr r S') → (c ≠ 0 → ∀ S', vw S' = V' → Qx (exs.getD (c.toNat - 1) "") S') → M Qr Qx
def Tb (T : St) : Prop := ∀ s, 0 ≤ s → s < T 0 12 → T 12 s = nb (T 13 s)
theorem Tb_keep {T T' : St} (h : Tb T) (h1 : T' 12 = T 12) (h2 : T' 0 12 = T 0 12) (h3 : T' 13 = T 13) : Tb T' := fun s s0 s1 => by
  rw [h1, h3]; exact h s s0 (by rw [← h2]; exact s1)
def DoR (c r : Int) (V' : St) (M : (Int → St → Prop) → (String → St → Prop) → Prop) : Prop :=
  ∀ (Qr : Int → St → Prop) (Qx : String → St → Prop), (∀ T' r', cs T' = V' → Tb T' → T' 0 0 = c → (c = 0 → r' = r) → Qr r' T') → M Qr Qx
def Pair (V : St) (exs : List String) (MC MR : St → (Int → St → Prop) → (String → St → Prop) → Prop) : Prop :=
  ∃ (c r : Int) (V' : St), Inv V' ∧ 0 ≤ c ∧ c ≤ exs.length ∧ (∀ S, vw S = V → DoC exs c r V' (MC S)) ∧ (∀ T, cs T = V → Tb T → DoR c r V' (MR T))
theorem Tb_k {T : St} {k : Nat} {j v : Int} (h : Tb T) (hk : k ≠ 12 ∧ k ≠ 13 ∧ k ≠ 0) : Tb (up T k j v) :=
  Tb_keep h (by funext b; exact up_ne _ (fun e => hk.1 e.symm) _ _ _) (up_ne _ (fun e => hk.2.2 e.symm) _ _ _) (by funext b; exact up_ne _ (fun e => hk.2.1 e.symm) _ _ _)
theorem Tb_0 {T : St} {j v : Int} (h : Tb T) (hj : (12 : Int) ≠ j) : Tb (up T 0 j v) :=
  Tb_keep h (by funext b; exact up_ne _ (by decide) _ _ _) (by rw [up_at, if_neg hj]) (by funext b; exact up_ne _ (by decide) _ _ _)
theorem cs_h0 {T : St} {v : Int} : cs (up T 0 0 v) = cs T := cs_up0 (by decide) (by decide) (by decide)
section
variable {S : St} {Qr : Int → St → Prop} {Qx : String → St → Prop}
/-- the reference throws -/
theorem thr_R {V T : St} {c r : Int} (hT : cs T = V) (hb : Tb T) (hc : c ≠ 0) (h : ∀ T' r', cs T' = V → Tb T' → T' 0 0 = c → (c = 0 → r' = r) → Qr r' T') (r0 : Int) : Qr r0 (up T 0 0 c) :=
  h _ r0 (by rw [cs_h0]; exact hT) (Tb_0 hb (by decide)) (by rw [up_at, if_pos rfl]) (fun z => absurd z hc)
end
/-- a joint is added -/
def updJ (V : St) (a b : Int) : St := upc (up (up (up (up V 7 (V 1 0) a) 8 (V 1 0) b) 9 (V 1 0) 0) 10 (V 1 0) (-1)) 1 (V 1 0 + 1)
theorem Inv_J {V : St} {a b : Int} (h : Inv V) (hn : V 1 0 < 10) (hp : inPt a b) : Inv (updJ V a b) := by
  obtain ⟨⟨n0, n10, m0, m40, hE⟩, ⟨_, _, hP⟩, hq, ht, hu, hs0, hs1, hs2, hs3, hs4⟩ := h
  unfold inPt at hp
  refine ⟨⟨by show 0 ≤ V 1 0 + 1; omega, by show V 1 0 + 1 ≤ 10; omega, m0, m40, fun k k0 k1 => ?_⟩, ⟨by show 0 ≤ V 1 0 + 1; omega, by show V 1 0 + 1 ≤ 10; omega, fun j j0 j1 => ?_⟩, fun j => ?_, ht, hu, ⟨hs0.1, by show V 3 0 ≤ V 1 0 + 1; omega⟩, fun s s0 s1 => ?_, hs2, hs3, hs4⟩
  · obtain ⟨a1, a2, a3, a4, a5, a6⟩ := hE k k0 k1
    exact ⟨a1, a2, a3, a4, a5, fun z => ⟨by have := (a6 z).1; show V 11 k < V 1 0 + 1; omega, by have := (a6 z).2; show V 12 k < V 1 0 + 1; omega⟩⟩
  · have j1' : j < V 1 0 + 1 := j1
    show -50 ≤ (if j = V 1 0 then a else V 7 j) ∧ (if j = V 1 0 then a else V 7 j) ≤ 50 ∧ -50 ≤ (if j = V 1 0 then b else V 8 j) ∧ (if j = V 1 0 then b else V 8 j) ≤ 50
    by_cases q : j = V 1 0
    · rw [if_pos q, if_pos q]; omega
    · rw [if_neg q, if_neg q]; exact hP j j0 (by omega)
  · show -1 ≤ (if j = V 1 0 then (-1 : Int) else V 10 j) ∧ (if j = V 1 0 then (-1 : Int) else V 10 j) ≤ 30000
    split
    · decide
    · exact hq j
  · have := hs1 s s0 s1
    exact ⟨this.1, by show V 16 s < V 1 0 + 1; omega⟩
theorem pr_joint {V : St} (hI : Inv V) (a b : Int) : Pair V [IAE, ISE] (M_X6_joint a b) (M_X7_joint a b) := by
  have hI0 := hI
  obtain ⟨⟨n0, n10, _⟩, _⟩ := hI0
  by_cases hp : inPt a b
  · by_cases hn : V 1 0 < 10
    · refine ⟨0, V 1 0, updJ V a b, Inv_J hI hn hp, by decide, by decide, fun S hS Qr Qx h _ => ?_, fun T hT hb Qr Qx h => ?_⟩
      · subst hS
        refine vc_X6_joint fun _ _ _ => sp_X6_requirePoint (fun _ _ => sp_X6_requireRoomForJoint (fun _ _ => sp_X1_add n0 hn fun _ _ => h rfl _ ?_) (fun z => absurd hn (Int.not_lt.mpr z))) (fun z => absurd hp z)
        rw [vw_up1, vw_up (by decide), vw_up (by decide), vw_up (by decide), vw_up (by decide)]
        rfl
      · subst hT
        have hn1 : ¬ T 0 1 = 10 := fun z => by have : T 0 1 < 10 := hn; omega
        refine vc_X7_joint fun _ _ _ => sp_X7_isPoint (fun _ _ _ => ⟨fun _ => ⟨fun _ => sp_X7_holds (fun _ _ _ => ⟨fun z => absurd z (by decide), fun _ => sp_X7_adds ?_ ?_ fun _ _ => h _ _ ?_ ?_ ?_ fun _ => ?_⟩) (fun z => absurd rfl z), fun z => absurd z hn1⟩, fun z => absurd z (by decide)⟩) (fun z => absurd hp z)
        · rw [up_at, if_neg (by decide)]; exact n0
        · rw [up_at, if_neg (by decide)]; exact hn
        · rw [cs_up1, cs_up (by decide), cs_up (by decide), cs_up (by decide), cs_up (by decide), cs_h0, up_at, if_neg (by decide)]
          rfl
        · exact Tb_0 (Tb_k (Tb_k (Tb_k (Tb_k (Tb_0 hb (by decide)) (by decide)) (by decide)) (by decide)) (by decide)) (by decide)
        · rw [up_at, if_neg (by decide), up_ne _ (by decide), up_ne _ (by decide), up_ne _ (by decide), up_ne _ (by decide), up_at, if_pos rfl]
        · rw [up_at, if_neg (by decide)]; rfl
    · refine ⟨2, 0, V, hI, by decide, by decide, fun S hS Qr Qx _ hx => ?_, fun T hT hb Qr Qx h => ?_⟩
      · subst hS
        exact vc_X6_joint fun _ _ _ => sp_X6_requirePoint (fun _ _ => sp_X6_requireRoomForJoint (fun z => absurd z hn) (fun _ => hx (by decide) _ rfl)) (fun z => absurd hp z)
      · have hn1 : T 0 1 = 10 := by
          rw [← hT] at hn n10
          have a1 : ¬ T 0 1 < 10 := hn
          have a2 : T 0 1 ≤ 10 := n10
          omega
        exact vc_X7_joint fun _ _ _ => sp_X7_isPoint (fun _ _ _ => ⟨fun _ => ⟨fun z => absurd hn1 z, fun _ => sp_X7_holds (fun z => absurd z (by decide)) (fun _ _ _ => ⟨fun _ => thr_R hT hb (by decide) h 0, fun z => absurd rfl z⟩)⟩, fun z => absurd z (by decide)⟩) (fun z => absurd hp z)
  · refine ⟨1, 0, V, hI, by decide, by decide, fun S hS Qr Qx _ hx => ?_, fun T hT hb Qr Qx h => ?_⟩
    · subst hS
      exact vc_X6_joint fun _ _ _ => sp_X6_requirePoint (fun z => absurd z hp) (fun _ => hx (by decide) _ rfl)
    · exact vc_X7_joint fun _ _ _ => sp_X7_isPoint (fun z => absurd z hp) (fun _ _ _ => ⟨fun z => absurd rfl z, fun _ => sp_X7_holds (fun z => absurd z (by decide)) (fun _ _ _ => ⟨fun _ => thr_R hT hb (by decide) h 0, fun z => absurd rfl z⟩)⟩)
end INV
