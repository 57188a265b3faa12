/-! CALLS IN PAIRS: kept, isKept, block, lacks -/
section OP9
theorem vw_K {S S' : St} (h : fq [24, 25, 26, 67] S S') : vw S' = vw S := vw_fq h (by decide) (by decide) (by decide) (by intro k a b; simp; omega)
def kc (V : St) (a : Int) : Int := cn (kp V (V 1 0) a (V 2 0)) 40
theorem kc_rg (V : St) (a : Int) : 0 ≤ kc V a ∧ kc V a ≤ 40 := cn_rng _ (by decide)
theorem pr_kept {V : St} (hI : Inv V) : PairP V [] M_X6_kept (fun c r V' => (c = 0 ∧ r = kc V (-1) ∧ V' = V)) := by
  refine ⟨0, kc V (-1), V, ⟨rfl, rfl, rfl⟩, hI, by decide, by decide, fun S hS Qr Qx h _ => ?_⟩
  · subst hS
    exact vc_X6_kept fun _ => sp_X6_keepWithout hI fun S1 KS f1 _ _ _ _ _ _ _ => h rfl S1 (vw_K f1)
theorem pr_lacks {V : St} (hI : Inv V) : PairP V [] M_X6_lacks (fun c r V' => (c = 0 ∧ r = (if V 1 0 < 2 then -1 else 2 * V 1 0 - 3 - kc V (-1)) ∧ V' = V)) := by
  obtain ⟨n0, n10, _⟩ := hI.1
  have hk := kc_rg V (-1)
  refine ⟨0, if V 1 0 < 2 then -1 else 2 * V 1 0 - 3 - kc V (-1), V, ⟨rfl, rfl, rfl⟩, hI, by decide, by decide, fun S hS Qr Qx h _ => ?_⟩
  · subst hS
    have e1 : S 1 4 = vw S 1 0 := rfl
    refine vc_X6_lacks fun _ => ⟨fun q => vc_X6_rigidCount fun _ => ⟨⟨by omega, by omega⟩, fun _ _ => sp_X6_keepWithout hI fun S1 KS f1 _ _ _ _ _ _ _ => ⟨?_, ?_⟩⟩, fun q => ?_⟩
    · show r32 (2 * S 1 4 - 3 - kc (vw S) (-1))
      exact ⟨by omega, by omega⟩
    · have hh := h rfl S1 (vw_K f1)
      rw [if_neg (by omega)] at hh
      exact hh
    · have hh := h rfl S rfl
      rw [if_pos (by omega)] at hh
      exact hh
/-! blocks -/
end OP9
