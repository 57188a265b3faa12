/-! THE LAW'S LOOP -/
section LOOP
theorem tab29 (z : Int) : z = 0 ∨ z = 1 ∨ z = 2 ∨ z = 3 ∨ z = 4 ∨ z = 5 ∨ z = 6 ∨ z = 7 ∨ z = 8 ∨ z = 9 ∨ z = 10 ∨ z = 11 ∨ z = 12 ∨ z = 13 ∨ z = 14 ∨ z = 15 ∨ z = 16 ∨ z = 17 ∨ z = 18 ∨ z = 19 ∨ z = 20 ∨ z = 21 ∨ z = 22 ∨ z = 23 ∨ z = 24 ∨ z = 25 ∨ z = 26 ∨ z = 27 ∨ z = 28 ∨ z = 29 ∨ (z < 0 ∨ 29 < z) := by omega
variable {hh : List (Nat × Nat × Nat × Nat)} {p : Program} {l : Launch} {e : Env} {s : State} {m : MethodId} {args : Array Value} {below : List Frame} {meth : Method} {c : Code} {G : Gp} {A : Nat → Prop} {Q : State → Prop} {k n : Nat} {σ : St × Int × St} {L : List (Option Value)} {b Ls : Nat} {xs : Nat → Int32}
theorem lw_end (C : Cx wL code 7 RL wsL_law (some .boolean) hh p l s m #[Value.ref b] meth c G A) (hf : ∀ q, A q → s.heap.size ≤ q) (hk : k ≤ 601024) (hn : n ≤ 7293034) : J wL 7 room_1 p l e s m #[Value.ref b] below meth c G A (lw_Z below #[Value.ref b] s) k n σ L [] 1815 := by
  refine J_iconst (pc := 1815) C dL_law_1815 ?_
  intro H locs ls hP hS hl
  have e1 : Int32.ofInt 1 = 1 := by decide
  show W p l e room_1 s m _ below meth c H locs k n _ (F0 m 1816 ls [.int (Int32.ofInt 1)])
  rw [e1]
  exact va_forget (fun q hq => hf _ (hS.2.2 q hq)) (W.widen hk hn (lw_ret C.1.1 C.1.2.1 C.2.1 C.2.2.2.2.1 dL_law_1816))
theorem lw_head (X : LC hh p l s m args meth c G A b Ls xs) {i : Int} (hi : 0 ≤ i ∧ i ≤ 4000) (hfin : J wL 7 room_1 p l e s m args below meth c G A Q k n σ (LH G b i) [] 1815) (hgo : i + 6 ≤ Ls → J wL 7 room_1 p l e s m args below meth c G A Q k n σ (LH G b i) [] 33) : J wL 7 room_1 p l e s m args below meth c G A Q k n σ (LH G b i) [] 23 := by
  have C := X.1
  have hL := X.2.2.2.2.2
  refine J_iload (pc := 23) C dL_law_23 rfl ?_
  refine J_aload_n (pc := 25) C dL_law_25 rfl ?_
  refine J_slen (pc := 26) X dL_law_26 ?_
  refine J_bipush (pc := 27) C dL_law_27 (by decide) ?_
  refine J_isub (pc := 29) C dL_law_29 ?_
  exact J_icmp_gt (pc := 30) (tgt := 1815) C dL_law_30 (by decide) ⟨by omega, by omega⟩ ⟨by omega, by omega⟩ (fun _ => hfin) (fun cb => hgo (by omega))
set_option maxHeartbeats 4000000 in
theorem lw_body (X : LC hh p l s m args meth c G A b Ls xs) {i : Int} (hi : 0 ≤ i ∧ i + 6 ≤ Ls) (hk : k + 20 ≤ 601000) (hn : n + 200 ≤ 7293000) (hJ : LI σ) (back : ∀ σ' : St × Int × St, LI σ' → J wL 7 room_1 p l e s m args below meth c G A Q (k + 20) (n + 200) σ' (LH G b i) [] 1809) : J wL 7 room_1 p l e s m args below meth c G A Q k n σ (LH G b i) [] 33 := by
  have C := X.1
  refine J_aload_n (pc := 33) C dL_law_33 rfl ?_
  refine J_iload (pc := 34) C dL_law_34 rfl ?_
  refine J_sld (pc := 36) X dL_law_36 ⟨by omega, by omega⟩ ?_
  refine J_bipush (pc := 37) C dL_law_37 (by decide) ?_
  refine J_iand (pc := 39) C dL_law_39 ?_
  rcases tab29 (zand (sv xs i) 31) with ct | ct | ct | ct | ct | ct | ct | ct | ct | ct | ct | ct | ct | ct | ct | ct | ct | ct | ct | ct | ct | ct | ct | ct | ct | ct | ct | ct | ct | ct | ct
  · exact J_tabIn (pc := 40) (tgt := 176) C dL_law_40 ct (by decide) (by decide) (by decide) rfl (by decide) (lc_0 hh p l e s m args below meth c G A Q b Ls xs i k n σ X hi hk hn hJ back)
  · exact J_tabIn (pc := 40) (tgt := 244) C dL_law_40 ct (by decide) (by decide) (by decide) rfl (by decide) (lc_1 hh p l e s m args below meth c G A Q b Ls xs i k n σ X hi hk hn hJ back)
  · exact J_tabIn (pc := 40) (tgt := 304) C dL_law_40 ct (by decide) (by decide) (by decide) rfl (by decide) (lc_2 hh p l e s m args below meth c G A Q b Ls xs i k n σ X hi hk hn hJ back)
  · exact J_tabIn (pc := 40) (tgt := 395) C dL_law_40 ct (by decide) (by decide) (by decide) rfl (by decide) (lc_3 hh p l e s m args below meth c G A Q b Ls xs i k n σ X hi hk hn hJ back)
  · exact J_tabIn (pc := 40) (tgt := 475) C dL_law_40 ct (by decide) (by decide) (by decide) rfl (by decide) (lc_4 hh p l e s m args below meth c G A Q b Ls xs i k n σ X hi hk hn hJ back)
  · exact J_tabIn (pc := 40) (tgt := 531) C dL_law_40 ct (by decide) (by decide) (by decide) rfl (by decide) (lc_5 hh p l e s m args below meth c G A Q b Ls xs i k n σ X hi hk hn hJ back)
  · exact J_tabIn (pc := 40) (tgt := 544) C dL_law_40 ct (by decide) (by decide) (by decide) rfl (by decide) (lc_6 hh p l e s m args below meth c G A Q b Ls xs i k n σ X hi hk hn hJ back)
  · exact J_tabIn (pc := 40) (tgt := 557) C dL_law_40 ct (by decide) (by decide) (by decide) rfl (by decide) (lc_7 hh p l e s m args below meth c G A Q b Ls xs i k n σ X hi hk hn hJ back)
  · exact J_tabIn (pc := 40) (tgt := 570) C dL_law_40 ct (by decide) (by decide) (by decide) rfl (by decide) (lc_8 hh p l e s m args below meth c G A Q b Ls xs i k n σ X hi hk hn hJ back)
  · exact J_tabIn (pc := 40) (tgt := 633) C dL_law_40 ct (by decide) (by decide) (by decide) rfl (by decide) (lc_9 hh p l e s m args below meth c G A Q b Ls xs i k n σ X hi hk hn hJ back)
  · exact J_tabIn (pc := 40) (tgt := 729) C dL_law_40 ct (by decide) (by decide) (by decide) rfl (by decide) (lc_10 hh p l e s m args below meth c G A Q b Ls xs i k n σ X hi hk hn hJ back)
  · exact J_tabIn (pc := 40) (tgt := 797) C dL_law_40 ct (by decide) (by decide) (by decide) rfl (by decide) (lc_11 hh p l e s m args below meth c G A Q b Ls xs i k n σ X hi hk hn hJ back)
  · exact J_tabIn (pc := 40) (tgt := 853) C dL_law_40 ct (by decide) (by decide) (by decide) rfl (by decide) (lc_12 hh p l e s m args below meth c G A Q b Ls xs i k n σ X hi hk hn hJ back)
  · exact J_tabIn (pc := 40) (tgt := 866) C dL_law_40 ct (by decide) (by decide) (by decide) rfl (by decide) (lc_13 hh p l e s m args below meth c G A Q b Ls xs i k n σ X hi hk hn hJ back)
  · exact J_tabIn (pc := 40) (tgt := 929) C dL_law_40 ct (by decide) (by decide) (by decide) rfl (by decide) (lc_14 hh p l e s m args below meth c G A Q b Ls xs i k n σ X hi hk hn hJ back)
  · exact J_tabIn (pc := 40) (tgt := 985) C dL_law_40 ct (by decide) (by decide) (by decide) rfl (by decide) (lc_15 hh p l e s m args below meth c G A Q b Ls xs i k n σ X hi hk hn hJ back)
  · exact J_tabIn (pc := 40) (tgt := 998) C dL_law_40 ct (by decide) (by decide) (by decide) rfl (by decide) (lc_16 hh p l e s m args below meth c G A Q b Ls xs i k n σ X hi hk hn hJ back)
  · exact J_tabIn (pc := 40) (tgt := 1011) C dL_law_40 ct (by decide) (by decide) (by decide) rfl (by decide) (lc_17 hh p l e s m args below meth c G A Q b Ls xs i k n σ X hi hk hn hJ back)
  · exact J_tabIn (pc := 40) (tgt := 1103) C dL_law_40 ct (by decide) (by decide) (by decide) rfl (by decide) (lc_18 hh p l e s m args below meth c G A Q b Ls xs i k n σ X hi hk hn hJ back)
  · exact J_tabIn (pc := 40) (tgt := 1195) C dL_law_40 ct (by decide) (by decide) (by decide) rfl (by decide) (lc_19 hh p l e s m args below meth c G A Q b Ls xs i k n σ X hi hk hn hJ back)
  · exact J_tabIn (pc := 40) (tgt := 1239) C dL_law_40 ct (by decide) (by decide) (by decide) rfl (by decide) (lc_20 hh p l e s m args below meth c G A Q b Ls xs i k n σ X hi hk hn hJ back)
  · exact J_tabIn (pc := 40) (tgt := 1307) C dL_law_40 ct (by decide) (by decide) (by decide) rfl (by decide) (lc_21 hh p l e s m args below meth c G A Q b Ls xs i k n σ X hi hk hn hJ back)
  · exact J_tabIn (pc := 40) (tgt := 1320) C dL_law_40 ct (by decide) (by decide) (by decide) rfl (by decide) (lc_22 hh p l e s m args below meth c G A Q b Ls xs i k n σ X hi hk hn hJ back)
  · exact J_tabIn (pc := 40) (tgt := 1333) C dL_law_40 ct (by decide) (by decide) (by decide) rfl (by decide) (lc_23 hh p l e s m args below meth c G A Q b Ls xs i k n σ X hi hk hn hJ back)
  · exact J_tabIn (pc := 40) (tgt := 1346) C dL_law_40 ct (by decide) (by decide) (by decide) rfl (by decide) (lc_24 hh p l e s m args below meth c G A Q b Ls xs i k n σ X hi hk hn hJ back)
  · exact J_tabIn (pc := 40) (tgt := 1445) C dL_law_40 ct (by decide) (by decide) (by decide) rfl (by decide) (lc_25 hh p l e s m args below meth c G A Q b Ls xs i k n σ X hi hk hn hJ back)
  · exact J_tabIn (pc := 40) (tgt := 1549) C dL_law_40 ct (by decide) (by decide) (by decide) rfl (by decide) (lc_26 hh p l e s m args below meth c G A Q b Ls xs i k n σ X hi hk hn hJ back)
  · exact J_tabIn (pc := 40) (tgt := 1617) C dL_law_40 ct (by decide) (by decide) (by decide) rfl (by decide) (lc_27 hh p l e s m args below meth c G A Q b Ls xs i k n σ X hi hk hn hJ back)
  · exact J_tabIn (pc := 40) (tgt := 1673) C dL_law_40 ct (by decide) (by decide) (by decide) rfl (by decide) (lc_28 hh p l e s m args below meth c G A Q b Ls xs i k n σ X hi hk hn hJ back)
  · exact J_tabIn (pc := 40) (tgt := 1741) C dL_law_40 ct (by decide) (by decide) (by decide) rfl (by decide) (lc_29 hh p l e s m args below meth c G A Q b Ls xs i k n σ X hi hk hn hJ back)
  · exact J_tabOut (pc := 40) (tgt := 1809) C dL_law_40 (r_zand _ _) ct (by decide) (J_widen (k1 := k + 20) (n1 := n + 200) (by omega) (by omega) (back σ hJ))
theorem lw_loop (X : LC hh p l s m args meth c G A b Ls xs) (hfin : ∀ (i : Int) (k n : Nat) (σ : St × Int × St), k ≤ 601024 → n ≤ 7293034 → J wL 7 room_1 p l e s m args below meth c G A Q k n σ (LH G b i) [] 1815) : ∀ (d : Nat) (i : Int) (k n : Nat) (σ : St × Int × St), 0 ≤ i → i ≤ 3080 → (Ls : Int) < i + 6 * (d : Int) + 6 → k + 20 * d ≤ 601000 → n + 200 * d ≤ 7293000 → LI σ → J wL 7 room_1 p l e s m args below meth c G A Q k n σ (LH G b i) [] 23 := by
  intro d
  induction d with
  | zero => exact fun i k n σ h0 h1 h2 hk hn hJ => lw_head X ⟨h0, by omega⟩ (hfin i k n σ (by omega) (by omega)) (fun h => by exfalso; omega)
  | succ d ih =>
    intro i k n σ h0 h1 h2 hk hn hJ
    have C := X.1
    have hL := X.2.2.2.2.2
    refine lw_head X ⟨h0, by omega⟩ (hfin i k n σ (by omega) (by omega)) (fun h => lw_body X ⟨h0, h⟩ (by omega) (by omega) hJ fun σ' hJ' => ?_)
    refine J_iinc (pc := 1809) C dL_law_1809 rfl (by decide) ?_
    refine J_goto (pc := 1812) (tgt := 23) C dL_law_1812 (by decide) ?_
    exact J_sub (L1 := LH G b (i + 6)) ⟨rfl, ⟨rfl, ⟨rfl, ⟨rfl, ⟨rfl, trivial⟩⟩⟩⟩⟩ (ih (i + 6) (k + 20) (n + 200) σ' (by omega) (by omega) (by omega) (by omega) (by omega) hJ')
end LOOP
