/-! NOTHING IS SET: what the class answers then -/
section NOW
variable {hh : List (Nat × Nat × Nat × Nat)} {p : Program} {l : Launch} {e : Env} {s : State} {m : MethodId} {args : Array Value} {below : List Frame} {meth : Method} {c : Code} {G : Gp} {A : Nat → Prop} {Q : State → Prop} {k n : Nat} {S : St} {b Ls : Nat} {xs : Nat → Int32}
theorem rk_S0 : rk S0 (-1) = 0 := rfl
theorem proper_S0 : proper S0 = 0 := by
  unfold proper
  exact if_neg fun h => absurd h.2.1 (by show ¬ any (toldx S0) 0 = true; unfold any; exact fun z => absurd (of_decide_eq_true z) (by show ¬ (0 : Int) < cn (toldx S0) 0; exact Int.lt_irrefl 0))
theorem pc_S0 : pcN S0 0 14762 (-60) (-60) 0 = 14641 := by
  rw [pc_none (V := S0) rfl 14762 (-60) (-60) (by decide) (by decide) (by decide) (by decide) (by decide)]
  rfl
/-- the law's locals before the loop -/
def L0 (G : Gp) (b : Nat) : List (Option Value) := [some (.ref b), some (.ref (G.2.2 0)), some (.ref (G.2.2 70)), some (.ref (G.2.2 71)), none, none, none]
def L1 (G : Gp) (b : Nat) : List (Option Value) := [some (.ref b), some (.ref (G.2.2 0)), some (.ref (G.2.2 70)), some (.ref (G.2.2 71)), some (iV 1), none, none]
def v0 (S : St) : Prop := lv S S0 (fun _ => 0) (fun _ => 0)
/-- the loop is entered -/
theorem lw_75 {N : Int} (X : LC hh p l s m args meth c G A b Ls xs) (hN : 0 ≤ N ∧ N ≤ 36 ∧ 3 * N ≤ Ls) (hfin : ∀ (i : Int) (k n : Nat) (S : St), k ≤ 600086 → n ≤ 7301442 → J wL 7 room_1 p l e s m args below meth c G A Q k n S (LH G b N i) [] 160) (hk : k + 536 * 36 ≤ 600086) (hn : n + 3216 * 36 ≤ 7301442) (hok : okL S) (h : v0 S) : J wL 7 room_1 p l e s m args below meth c G A Q k n S (L1 G b) [iV N] 75 := by
  have C := X.1
  refine J_istore (pc := 75) C dL_law_75 (by decide) ?_
  refine J_iconst (pc := 77) C dL_law_77 ?_
  refine J_istore (pc := 78) C dL_law_78 (by decide) ?_
  refine J_sub (L1 := LH G b N 0) ⟨rfl, ⟨rfl, ⟨rfl, ⟨rfl, ⟨rfl, ⟨rfl, ⟨rfl, trivial⟩⟩⟩⟩⟩⟩⟩ ?_
  exact lw_loop X hN hfin 36 0 k n S (by decide) (by decide) (by omega) hk hn hok ⟨S0, _, _, h, LJ_S0⟩
/-- how many steps -/
theorem lw_57 (X : LC hh p l s m args meth c G A b Ls xs) (hfin : ∀ (N i : Int) (k n : Nat) (S : St), k ≤ 600086 → n ≤ 7301442 → J wL 7 room_1 p l e s m args below meth c G A Q k n S (LH G b N i) [] 160) (hk : k + 536 * 36 ≤ 600086) (hn : n + 3216 * 36 ≤ 7301442) (hok : okL S) (h : v0 S) : J wL 7 room_1 p l e s m args below meth c G A Q k n S (L1 G b) [] 57 := by
  have C := X.1
  have hL := X.2.2.2.2
  have e3 : Int.tdiv (Ls : Int) 3 = (Ls : Int) / 3 := Int.tdiv_eq_ediv_of_nonneg (by omega)
  refine J_aload_n (pc := 57) C dL_law_57 rfl ?_
  refine J_slen (pc := 58) X dL_law_58 ?_
  refine J_iconst (pc := 59) C dL_law_59 ?_
  refine J_idiv (pc := 60) C dL_law_60 ⟨by omega, by omega⟩ ⟨by decide, by decide⟩ (by decide) ?_
  rw [e3]
  refine J_bipush (pc := 61) C dL_law_61 (by decide) ?_
  refine J_icmp_le (pc := 63) (tgt := 71) C dL_law_63 (by decide) ⟨by omega, by omega⟩ ⟨by decide, by decide⟩ (fun cb => ?_) (fun cb => ?_)
  · refine J_aload_n (pc := 71) C dL_law_71 rfl ?_
    refine J_slen (pc := 72) X dL_law_72 ?_
    refine J_iconst (pc := 73) C dL_law_73 ?_
    refine J_idiv (pc := 74) C dL_law_74 ⟨by omega, by omega⟩ ⟨by decide, by decide⟩ (by decide) ?_
    rw [e3]
    exact lw_75 X ⟨by omega, cb, by omega⟩ (hfin _) hk hn hok h
  · refine J_bipush (pc := 66) C dL_law_66 (by decide) ?_
    refine J_goto (pc := 68) (tgt := 75) C dL_law_68 (by decide) ?_
    exact lw_75 X ⟨by decide, by decide, by omega⟩ (hfin _) hk hn hok h
set_option maxHeartbeats 4000000 in
set_option maxRecDepth 8192 in
theorem lw_17 (X : LC hh p l s m args meth c G A b Ls xs) (hfin : ∀ (N i : Int) (k n : Nat) (S : St), k ≤ 600086 → n ≤ 7301442 → J wL 7 room_1 p l e s m args below meth c G A Q k n S (LH G b N i) [] 160) (hk : k + 20000 ≤ 600086) (hn : n + 120000 ≤ 7301442) (hok : okL S) (h : v0 S) : J wL 7 room_1 p l e s m args below meth c G A Q k n S (L0 G b) [] 17 := by
  have C := X.1
  have hk0 : k ≤ 600086 := by omega
  have hn0 : n ≤ 7301442 := by omega
  refine J_aload_n (pc := 17) C dL_law_17 rfl ?_
  refine J_e1 (pc := 18) C (emb_LC G S) (J_eV (pc := 18) C (emb_LC G S) (cl_lacks (Qr := fun r T => r = -1 ∧ v0 (pu S T)) (Qx := fun _ _ => False) Inv_S0 h (fun S' h' => ⟨rfl, h'⟩)) dL_law_18 rfl rfl 0 rfl rfl (cwV 0 C.1.2.2.2.2 gL_law_X6_lacks rfl rfl rfl (by decide +kernel) ⟨Nat.le_of_ble_eq_true rfl, Nat.le_of_ble_eq_true rfl⟩) (okC_L hok) (Nat.le_of_ble_eq_true rfl) ⟨hk0, hn0⟩) (fun E9 S9 ok9 q9 => q9.elim) (fun r T1 hr ok1 hq => ?_)
  obtain ⟨rfl, h1⟩ := hq
  have hok1 := okL_pu hok ok1
  generalize pu S T1 = S1 at h1 hok1 ⊢
  refine J_iconst (pc := 21) C dL_law_21 ?_
  refine J_icmp_ne (pc := 22) (tgt := 54) C dL_law_22 (by decide) hr hr (fun z => absurd rfl z) (fun _ => ?_)
  refine J_aload_n (pc := 25) C dL_law_25 rfl ?_
  refine J_e1 (pc := 26) C (emb_LC G S1) (J_eV (pc := 26) C (emb_LC G S1) (cl_rank (Qr := fun r T => r = 0 ∧ v0 (pu S1 T)) (Qx := fun _ _ => False) Inv_S0 h1 (fun S' h' => ⟨rk_S0, h'⟩)) dL_law_26 rfl rfl 0 rfl rfl (cwV 0 C.1.2.2.2.2 gL_law_X6_rank rfl rfl rfl (by decide +kernel) ⟨Nat.le_of_ble_eq_true rfl, Nat.le_of_ble_eq_true rfl⟩) (okC_L hok1) (Nat.le_of_ble_eq_true rfl) ⟨hk0, hn0⟩) (fun E9 S9 ok9 q9 => q9.elim) (fun r T2 hr ok2 hq => ?_)
  obtain ⟨rfl, h2⟩ := hq
  have hok2 := okL_pu hok1 ok2
  generalize pu S1 T2 = S2 at h2 hok2 ⊢
  refine J_if_ne (pc := 29) (tgt := 54) C dL_law_29 (by decide) hr (fun z => absurd rfl z) (fun _ => ?_)
  refine J_aload_n (pc := 32) C dL_law_32 rfl ?_
  refine J_e1 (pc := 33) C (emb_LC G S2) (J_eV (pc := 33) C (emb_LC G S2) (of_pr (Qr := fun r T => r = 0 ∧ v0 (pu S2 T)) (Qx := fun _ _ => False) (pr_isProper Inv_S0) h2 (fun r V' p _ S' l => by obtain ⟨_, rfl, rfl⟩ := p; exact ⟨proper_S0, l⟩) (fun c r V' p _ hc => absurd p.1 hc)) dL_law_33 rfl rfl 0 rfl rfl (cwV 0 C.1.2.2.2.2 gL_law_X6_isProper rfl rfl rfl (by decide +kernel) ⟨Nat.le_of_ble_eq_true rfl, Nat.le_of_ble_eq_true rfl⟩) (okC_L hok2) (Nat.le_of_ble_eq_true rfl) ⟨hk0, hn0⟩) (fun E9 S9 ok9 q9 => q9.elim) (fun r T3 hr ok3 hq => ?_)
  obtain ⟨rfl, h3⟩ := hq
  have hok3 := okL_pu hok2 ok3
  generalize pu S2 T3 = S3 at h3 hok3 ⊢
  refine J_if_ne (pc := 36) (tgt := 54) C dL_law_36 (by decide) hr (fun z => absurd rfl z) (fun _ => ?_)
  refine J_aload_n (pc := 39) C dL_law_39 rfl ?_
  refine J_iconst (pc := 40) C dL_law_40 ?_
  have hpl := cl_places (e := 0) (Qr := fun r T => r = 14641 ∧ v0 (pu S3 T)) (Qx := fun _ _ => False) Inv_S0 h3 ⟨by decide, by decide⟩ (fun S' h' => ⟨pc_S0, h'⟩)
  refine J_e1 (pc := 41) C (emb_LC G S3) (J_eV (pc := 41) C (emb_LC G S3) (hpl ⟨by decide, by decide⟩) dL_law_41 rfl rfl 0 rfl rfl (cwV 1 C.1.2.2.2.2 gL_law_X6_places rfl rfl rfl (by decide +kernel) ⟨Nat.le_of_ble_eq_true rfl, Nat.le_of_ble_eq_true rfl⟩) (okC_L hok3) (Nat.le_of_ble_eq_true rfl) ⟨by show k + 1 ≤ 600086; omega, by show n + 6 ≤ 7301442; omega⟩) (fun E9 S9 ok9 q9 => q9.elim) (fun r T4 hr ok4 hq => ?_)
  obtain ⟨rfl, h4⟩ := hq
  have hok4 := okL_pu hok3 ok4
  generalize pu S3 T4 = S4 at h4 hok4 ⊢
  refine J_sipush (pc := 44) C dL_law_44 (by decide) ?_
  refine J_icmp_ne (pc := 47) (tgt := 54) C dL_law_47 (by decide) hr hr (fun z => absurd rfl z) (fun _ => ?_)
  refine J_iconst (pc := 50) C dL_law_50 ?_
  refine J_goto (pc := 51) (tgt := 55) C dL_law_51 (by decide) ?_
  refine J_istore (pc := 55) C dL_law_55 (by decide) ?_
  refine J_sub (L1 := L1 G b) ⟨rfl, ⟨rfl, ⟨rfl, ⟨rfl, ⟨rfl, trivial⟩⟩⟩⟩⟩ ?_
  exact J_widen (k1 := k + 1) (n1 := n + 6) (Nat.le_refl _) (Nat.le_refl _) (lw_57 X hfin (by omega) (by omega) hok4 h4)
end NOW
