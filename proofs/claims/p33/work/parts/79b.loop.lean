/-! THE LAW'S LOOP -/
section LOOP
variable {hh : List (Nat × Nat × Nat × Nat)} {p : Program} {l : Launch} {e : Env} {s : State} {m : MethodId} {args : Array Value} {below : List Frame} {meth : Method} {c : Code} {G : Gp} {A : Nat → Prop} {Q : State → Prop} {k n : Nat} {S : St} {b Ls : Nat} {xs : Nat → Int32}
/-- the law's locals at its loop's head -/
def LH (G : Gp) (b : Nat) (N i : Int) : List (Option Value) := [some (.ref b), some (.ref (G.2.2 0)), some (.ref (G.2.2 70)), some (.ref (G.2.2 71)), some (iV 1), some (iV N), some (iV i)]
theorem lw_end {N i : Int} (C : Cx wL code 7 RL wsL_law (some .boolean) hh p l s m #[Value.ref b] meth c G A) (hf : ∀ q, A q → s.heap.size ≤ q) (hk : k ≤ 600086) (hn : n ≤ 7301442) : J wL 7 room_1 p l e s m #[Value.ref b] below meth c G A (lw_Z below #[Value.ref b] s) k n S (LH G b N i) [] 160 := by
  refine J_iload (pc := 160) C dL_law_160 (z := 1) rfl ?_
  intro H locs ls hP hS hl
  have e1 : Int32.ofInt 1 = 1 := by decide
  show W p l e room_1 s m _ below meth c H locs k n _ (F0 m 162 ls [.int (Int32.ofInt 1)])
  rw [e1]
  exact va_forget (fun q hq => hf _ (hS.2.2 q hq)) (W.widen hk hn (lw_ret C.1.1 C.1.2.1 C.2.1 C.2.2.2.2.1 dL_law_162))
/-- the loop's step -/
def go (S : St) : Prop := ∃ (V : St) (D E : Int → Int), lv S V D E ∧ LJ V D E
theorem lw_next (X : LC hh p l s m args meth c G A b Ls xs) {N i : Int} (kk : J wL 7 room_1 p l e s m args below meth c G A Q k n S (LH G b N (i + 1)) [] 80) : J wL 7 room_1 p l e s m args below meth c G A Q k n S (LH G b N i) [] 147 := by
  have C := X.1
  refine J_iconst (pc := 147) C dL_law_147 ?_
  refine J_goto (pc := 148) (tgt := 152) C dL_law_148 (by decide) ?_
  refine J_istore (pc := 152) C dL_law_152 (by decide) ?_
  refine J_iinc (pc := 154) C dL_law_154 (x := i) rfl (by decide) ?_
  refine J_goto (pc := 157) (tgt := 80) C dL_law_157 (by decide) ?_
  exact J_sub (L1 := LH G b N (i + 1)) ⟨rfl, ⟨rfl, ⟨rfl, ⟨rfl, ⟨rfl, ⟨rfl, ⟨rfl, trivial⟩⟩⟩⟩⟩⟩⟩ kk
set_option maxHeartbeats 4000000 in
theorem lw_body (X : LC hh p l s m args meth c G A b Ls xs) {N i : Int} (hi : 0 ≤ i ∧ i < 36 ∧ 3 * i + 2 < Ls) (hk : k + 536 ≤ 600086) (hn : n + 3216 ≤ 7301442) (hok : okL S) (hJ : go S) (back : ∀ S', okL S' → go S' → J wL 7 room_1 p l e s m args below meth c G A Q (k + 536) (n + 3216) S' (LH G b N (i + 1)) [] 80) : J wL 7 room_1 p l e s m args below meth c G A Q k n S (LH G b N i) [] 92 := by
  have C := X.1
  obtain ⟨V, D, E, hlv, hL⟩ := hJ
  refine J_aload_n (pc := 92) C dL_law_92 rfl ?_
  refine J_aload_n (pc := 93) C dL_law_93 rfl ?_
  refine J_aload_n (pc := 94) C dL_law_94 rfl ?_
  refine J_aload_n (pc := 95) C dL_law_95 rfl ?_
  refine J_iconst (pc := 96) C dL_law_96 ?_
  refine J_iload (pc := 97) C dL_law_97 (z := i) rfl ?_
  refine J_imul (pc := 99) C dL_law_99 ?_
  refine J_draw (pc := 100) X ⟨by omega, by omega⟩ dL_law_100 (Nat.le_of_ble_eq_true rfl) ⟨by show k ≤ 600086; omega, by show n ≤ 7301442; omega⟩ ?_
  refine J_aload_n (pc := 103) C dL_law_103 rfl ?_
  refine J_iconst (pc := 104) C dL_law_104 ?_
  refine J_iload (pc := 105) C dL_law_105 (z := i) rfl ?_
  refine J_imul (pc := 107) C dL_law_107 ?_
  refine J_iconst (pc := 108) C dL_law_108 ?_
  refine J_iadd (pc := 109) C dL_law_109 ?_
  refine J_draw (pc := 110) X ⟨by omega, by omega⟩ dL_law_110 (Nat.le_of_ble_eq_true rfl) ⟨by show k ≤ 600086; omega, by show n ≤ 7301442; omega⟩ ?_
  refine J_aload_n (pc := 113) C dL_law_113 rfl ?_
  refine J_iconst (pc := 114) C dL_law_114 ?_
  refine J_iload (pc := 115) C dL_law_115 (z := i) rfl ?_
  refine J_imul (pc := 117) C dL_law_117 ?_
  refine J_iconst (pc := 118) C dL_law_118 ?_
  refine J_iadd (pc := 119) C dL_law_119 ?_
  refine J_draw (pc := 120) X ⟨by omega, by omega⟩ dL_law_120 (Nat.le_of_ble_eq_true rfl) ⟨by show k ≤ 600086; omega, by show n ≤ 7301442; omega⟩ ?_
  have hM := sL_step (Qr := fun r S' => r = 1 ∧ go S') (Qx := fun _ _ => False) hL hlv (zand_pos (sv xs (3 * i))) (zand_pos (sv xs (3 * i + 1))) (zand_pos (sv xs (3 * i + 2))) (fun S' V' D' E' h1 h2 => ⟨rfl, V', D', E', h1, h2⟩)
  refine J_c1 (pc := 123) C (J_rS (pc := 123) C (hM (r_zand _ _) (r_zand _ _) (r_zand _ _)) dL_law_123 rfl rfl (va_cwS 6 C.1.2.2.2.2 gL_law_L_step rfl rfl rfl (by decide +kernel) ⟨Nat.le_of_ble_eq_true rfl, Nat.le_of_ble_eq_true rfl⟩) hok (Nat.le_of_ble_eq_true rfl) ⟨by show k + 16 ≤ 600086; omega, by show n + 96 ≤ 7301442; omega⟩) (fun E9 S9 ok9 q9 => q9.elim) (fun r S' hr hok' hq => ?_)
  obtain ⟨rfl, V', D', E', hlv', hL'⟩ := hq
  refine J_if_eq (pc := 126) (tgt := 151) C dL_law_126 (by decide) ⟨by decide, by decide⟩ (fun h => absurd h (by decide)) (fun _ => ?_)
  refine J_aload_n (pc := 129) C dL_law_129 rfl ?_
  refine J_iconst (pc := 130) C dL_law_130 ?_
  refine J_iald (pc := 131) C dL_law_131 67 70 (wL_70 G S') (by decide) (by decide) ?_
  refine J_iconst (pc := 132) C dL_law_132 ?_
  refine J_icmp_lt (pc := 133) (tgt := 147) C dL_law_133 (by decide) (hok' 70 0) (by decide) (fun _ => ?_) (fun cb => ?_)
  · exact J_widen (k1 := k + 536) (n1 := n + 3216) (by show k + 16 ≤ k + 536; omega) (by show n + 96 ≤ n + 3216; omega) (lw_next X (back S' hok' ⟨V', D', E', hlv', hL'⟩))
  · have h3 : 3 ≤ V' 1 0 := by
      have := (PJ_at hL' hlv').1
      omega
    have hW := sL_isWhole (Qr := fun r S'' => r = 1 ∧ go S'') (Qx := fun _ _ => False) (t := i) hL' hlv' h3 ⟨by omega, by omega⟩ (fun S'' h => ⟨rfl, V', D', E', h, hL'⟩)
    refine J_aload_n (pc := 136) C dL_law_136 rfl ?_
    refine J_aload_n (pc := 137) C dL_law_137 rfl ?_
    refine J_aload_n (pc := 138) C dL_law_138 rfl ?_
    refine J_iload (pc := 139) C dL_law_139 (z := i) rfl ?_
    refine J_c1 (pc := 141) C (J_rS (pc := 141) C (hW ⟨by omega, by omega⟩) dL_law_141 rfl rfl (va_cwS 4 C.1.2.2.2.2 gL_law_L_isWhole rfl rfl rfl (by decide +kernel) ⟨Nat.le_of_ble_eq_true rfl, Nat.le_of_ble_eq_true rfl⟩) hok' (Nat.le_of_ble_eq_true rfl) ⟨by show k + 16 + 520 ≤ 600086; omega, by show n + 96 + 3120 ≤ 7301442; omega⟩) (fun E9 S9 ok9 q9 => q9.elim) (fun r S'' hr hok'' hq => ?_)
    obtain ⟨rfl, hgo⟩ := hq
    refine J_if_eq (pc := 144) (tgt := 151) C dL_law_144 (by decide) ⟨by decide, by decide⟩ (fun h => absurd h (by decide)) (fun _ => ?_)
    exact J_widen (k1 := k + 536) (n1 := n + 3216) (by show k + 16 + 520 ≤ k + 536; omega) (by show n + 96 + 3120 ≤ n + 3216; omega) (lw_next X (back S'' hok'' hgo))
set_option maxRecDepth 8192 in
theorem lw_loop (X : LC hh p l s m args meth c G A b Ls xs) {N : Int} (hN : 0 ≤ N ∧ N ≤ 36 ∧ 3 * N ≤ Ls) (hfin : ∀ (i : Int) (k n : Nat) (S : St), k ≤ 600086 → n ≤ 7301442 → J wL 7 room_1 p l e s m args below meth c G A Q k n S (LH G b N i) [] 160) : ∀ (d : Nat) (i : Int) (k n : Nat) (S : St), 0 ≤ i → i ≤ 40 → N ≤ i + (d : Int) → k + 536 * d ≤ 600086 → n + 3216 * d ≤ 7301442 → okL S → go S → J wL 7 room_1 p l e s m args below meth c G A Q k n S (LH G b N i) [] 80 := by
  intro d
  induction d with
  | zero =>
    intro i k n S h0 h1 h2 hk hn hok hJ
    have C := X.1
    refine J_iload (pc := 80) C dL_law_80 (z := i) rfl ?_
    refine J_iload (pc := 82) C dL_law_82 (z := N) rfl ?_
    exact J_icmp_ge (pc := 84) (tgt := 160) C dL_law_84 (by decide) ⟨by omega, by omega⟩ ⟨by omega, by omega⟩ (fun _ => hfin i k n S (by omega) (by omega)) (fun h => by exfalso; omega)
  | succ d ih =>
    intro i k n S h0 h1 h2 hk hn hok hJ
    have C := X.1
    refine J_iload (pc := 80) C dL_law_80 (z := i) rfl ?_
    refine J_iload (pc := 82) C dL_law_82 (z := N) rfl ?_
    refine J_icmp_ge (pc := 84) (tgt := 160) C dL_law_84 (by decide) ⟨by omega, by omega⟩ ⟨by omega, by omega⟩ (fun _ => hfin i k n S (by omega) (by omega)) (fun h => ?_)
    refine J_iload (pc := 87) C dL_law_87 (z := 1) rfl ?_
    refine J_if_eq (pc := 89) (tgt := 160) C dL_law_89 (by decide) ⟨by decide, by decide⟩ (fun h => absurd h (by decide)) (fun _ => ?_)
    have hk1 : k + 536 ≤ 600086 := by omega
    have hn1 : n + 3216 ≤ 7301442 := by omega
    refine lw_body X ⟨h0, by omega, by omega⟩ hk1 hn1 hok hJ fun S' hok' hJ' => ?_
    exact ih (i + 1) (k + 536) (n + 3216) S' (by omega) (by omega) (by omega) (by omega) (by omega) hok' hJ'
end LOOP
