/-! THE LAW FROM ITS ENTRY: two objects and a row are made, then the loop -/
section START
theorem wM_x (D : va_G) (K : Nat → ClassId) (h0 q7 q15 q23 q31 q39 q47 q55 q63 q71 q79 q87 q95 q103 q111 q119 q127 q136 q144 q152 q161 : Nat) : wM (D, K, adrM [h0, q7, q15, q23, q31, q39, q47, q55, q63, q71, q79, q87, q95, q103, q111, q119, q127, q136, q144, q152, q161]) S0 = [(h0, .inr (7, [.int 0, .int 0, .ref q7, .ref q15, .ref q23, .ref q31, .int 0, .ref q39, .ref q47, .ref q55, .ref q63, .ref q71, .int 0, .ref q79, .ref q87, .ref q95, .ref q103, .ref q111, .ref q119, .ref q127, .int 0, .ref q136, .ref q144, .ref q152, .ref q161])), (q7, .inl ((K 0), 10, .inl (fun j : Nat => 0))), (q15, .inl ((K 0), 10, .inl (fun j : Nat => 0))), (q23, .inl ((K 1), 10, .inl (fun j : Nat => 0))), (q31, .inl ((K 0), 10, .inl (fun j : Nat => 0))), (q39, .inl ((K 0), 40, .inl (fun j : Nat => 0))), (q47, .inl ((K 0), 40, .inl (fun j : Nat => 0))), (q55, .inl ((K 0), 40, .inl (fun j : Nat => 0))), (q63, .inl ((K 0), 40, .inl (fun j : Nat => 0))), (q71, .inl ((K 1), 40, .inl (fun j : Nat => 0))), (q79, .inl ((K 0), 10, .inl (fun j : Nat => 0))), (q87, .inl ((K 0), 10, .inl (fun j : Nat => 0))), (q95, .inl ((K 0), 10, .inl (fun j : Nat => 0))), (q103, .inl ((K 0), 10, .inl (fun j : Nat => 0))), (q111, .inl ((K 2), 10, .inr (.inl (fun j : Nat => 0)))), (q119, .inl ((K 2), 10, .inr (.inl (fun j : Nat => 0)))), (q127, .inl ((K 0), 10, .inl (fun j : Nat => 0))), (q136, .inl ((K 2), 1600, .inr (.inl (fun j : Nat => 0)))), (q144, .inl ((K 0), 40, .inl (fun j : Nat => 0))), (q152, .inl ((K 1), 40, .inl (fun j : Nat => 0))), (q161, .inl ((K 0), 1024, .inl (fun j : Nat => 0)))] := rfl
set_option maxHeartbeats 16000000 in
set_option maxRecDepth 100000 in
theorem whole_start {p : Program} {e : Env} {s : State} {m : MethodId} {below : List Frame} {meth : Method} {c : Code} (l : Launch) (hflags : l.flags = flags0) {b L : Nat} {xs : Nat → Int32} (hL : L ≤ 3072) (C0 : lw_At p s m meth c b L xs) : W p l e room_1 s m #[Value.ref b] below meth c s.heap [] 0 0 (lw_Z below #[Value.ref b] s) (entryFrame m ([Value.ref b] : List Value).toArray 7) := by
  obtain ⟨hx, hb, hr, hml, hown, hts0, hX, hbl, hlocks, hgv⟩ := id C0
  have hts : ∀ w ∈ wsL_law, w.before #[Value.ref b] s = true := fun w h => hts0 w (wsL_law_in w h)
  have hown : s.vm.findClass RL = some m.cls := hown
  have hst : l.stackTraces = false := by
    unfold Launch.stackTraces
    rw [hflags]
    decide
  obtain ⟨A, hAd⟩ : ∃ A : Nat → Prop, A = fun q : Nat => s.heap.size ≤ q := ⟨_, rfl⟩
  have hA : ∀ q : Nat, s.heap.size ≤ q → A q := fun q h => by rw [hAd]; exact h
  have hAs : ∀ q : Nat, A q → s.heap.size ≤ q := fun q h => by rw [hAd] at h; exact h
  have hbA : ¬ A b := fun h => Nat.not_le.mpr hbl (hAs b h)
  have hXS : XS A s s.heap := entry_XS hts0 hgv (fun a h1 h2 => Nat.not_le.mpr h1 (hAs a h2))
  have hNC : NC s := entry_NC hgv
  obtain ⟨D, K, hKf⟩ := entry_K hts0
  have hov : va_AOA .long s := hts0 (.arrayOver (.array .long)) (by decide +kernel)
  have hN : ∀ q ∈ nests, va_Nw (.methodLinkNest q.1 q.2.1 q.2.2 "Stresswork") s := hXS.2.2.2.1
  obtain ⟨G, hG⟩ : ∃ G : Gp, G = (D, K, fun _ => 0) := ⟨_, rfl⟩
  have hK : va_K G.1 vwCl (tysC G) s := by rw [hG]; exact hKf _
  have hS : va_S A s.heap s.heap [] := va_S.rf
  have hP : va_P G.1 vwCl [] s.heap := fun k q h => by simp at h
  have hD : va_D A [] := ⟨fun i j p q h => by simp at h, fun k q h => by simp at h⟩
  have hl := lv_entry ([.ref b]) (n := 7) (Nat.le_of_ble_eq_true rfl)
  rw [lg_entry_eq]
  generalize (lg_sl ([.ref b]) ++ List.replicate (7 - (lg_sl ([.ref b])).length) Slot.unset).toArray = ls at hl ⊢
  have hl : lv_has ls 7 [(0, .ref b)] := hl
  refine va_new (ci := 6) (fs := [.null, .null, .null, .null, .null, .null, .long 0]) (C := RX6) (T := TX6) (N := 7) hx hb hts inlX6 tyX6 tyX6_ok hown (hts (.classLink RL 8 RX6) (by decide +kernel)) (hts (.instantiable RX6 7) (by decide +kernel)) (hts (.initialized RX6) (by decide +kernel)) hK hP hD hS hA rfl (fun j hj => by rcases (show j = 0 ∨ j = 1 ∨ j = 2 ∨ j = 3 ∨ j = 4 ∨ j = 5 ∨ j = 6 by omega) with rfl | rfl | rfl | rfl | rfl | rfl | rfl <;> rfl) (Nat.le_of_ble_eq_true rfl) (Nat.le_of_ble_eq_true rfl) dL_law_0 (fun q0 H hP hD hS => ?_)
  refine W.widen (k := 1) (n := 7) (Nat.le_of_ble_eq_true rfl) (Nat.le_of_ble_eq_true rfl) ?_
  refine lv_dup hx hb dL_law_3 rfl ?_
  have hFc : ∀ q, va_A [(q0, .inr (6, [.null, .null, .null, .null, .null, .null, .long 0]))] H.size q → A q := zz_free hD hS hA
  refine va_callv (va_runI (As := []) (rest := [.ref q0]) ⟨hx, hb, hml, hown, hts⟩ (ct_X6 l G q0 H.size) (cwI 0 hts gL_law_X6_init rfl rfl rfl (hts (.initialized RX6) (by decide +kernel)) (hts (.methodLink RL 89 yX6_init) (by decide +kernel)) (hts (.instanceMethod yX6_init) (by decide +kernel)) rfl (by decide +kernel) ⟨Nat.le_of_ble_eq_true rfl, Nat.le_of_ble_eq_true rfl⟩) ⟨fun a U g mk q => by obtain ⟨q0, q1, qP, qK, qD, qE, qN⟩ := q; exact ⟨q0, q1, qP, va_K.moved (u := U) (U := U.calling g mk a) (Vm.Alike.refl U.vm) qK, qD, va_AOA.moved (u := U) (U := U.calling g mk a) (Vm.Alike.refl U.vm) qE, fun z hz => va_Nw.same (u := U) (U := U.calling g mk a) rfl rfl (qN z hz)⟩, fun U hU hW => ⟨rfl, by rw [hU], by rw [hU]; exact zz_Pr hP, va_K.moved hW.alike hK, (zz_Dr hD).weaken (fun _ _ _ _ => trivial), va_AOA.moved hW.alike hov, fun z hz => va_Nw.warmM hW (hN z hz)⟩⟩ rfl rfl hl.1 rfl (lv_room (Nat.le_of_ble_eq_true rfl)) dL_law_4 ⟨Nat.le_of_ble_eq_true rfl, Nat.le_of_ble_eq_true rfl⟩) hS (fun q _ h => hFc q h) hFc (fun u t H1 locs ht hvm hw hB hz1 hk1 hS => ?_)
  obtain ⟨hu0, hP1, hD1⟩ := hB
  rw [ht] at hP1
  obtain ⟨hP, hD⟩ := zz_join (c1 := wC (G.1, G.2.1, u) S0) hP hD hk1 hFc hP1 hD1
  refine W.widen (k := 67) (n := 2053) (Nat.le_of_ble_eq_true rfl) (Nat.le_of_ble_eq_true rfl) ?_
  generalize H1 = H at hP hS ⊢
  have hP : va_P G.1 vwCl (wC (G.1, G.2.1, u) S0) H := hP
  have hD : va_D A (wC (G.1, G.2.1, u) S0) := hD
  refine lv_astore_n (lv' := [(1, .ref q0), (0, .ref b)]) hx hb dL_law_7 rfl hl (by decide) rfl (fun ls hl => ?_)
  refine va_new (ci := 7) (fs := [.int 0, .int 0, .null, .null, .null, .null, .int 0, .null, .null, .null, .null, .null, .int 0, .null, .null, .null, .null, .null, .null, .null, .int 0, .null, .null, .null, .null]) (C := RX7) (T := TX7) (N := 25) hx hb hts inlX7 tyX7 tyX7_ok hown (hts (.classLink RL 90 RX7) (by decide +kernel)) (hts (.instantiable RX7 25) (by decide +kernel)) (hts (.initialized RX7) (by decide +kernel)) hK hP hD hS hA rfl (fun j hj => by rcases (show j = 0 ∨ j = 1 ∨ j = 2 ∨ j = 3 ∨ j = 4 ∨ j = 5 ∨ j = 6 ∨ j = 7 ∨ j = 8 ∨ j = 9 ∨ j = 10 ∨ j = 11 ∨ j = 12 ∨ j = 13 ∨ j = 14 ∨ j = 15 ∨ j = 16 ∨ j = 17 ∨ j = 18 ∨ j = 19 ∨ j = 20 ∨ j = 21 ∨ j = 22 ∨ j = 23 ∨ j = 24 by omega) with rfl | rfl | rfl | rfl | rfl | rfl | rfl | rfl | rfl | rfl | rfl | rfl | rfl | rfl | rfl | rfl | rfl | rfl | rfl | rfl | rfl | rfl | rfl | rfl | rfl <;> rfl) (Nat.le_of_ble_eq_true rfl) (Nat.le_of_ble_eq_true rfl) dL_law_8 (fun p0 H hP hD hS => ?_)
  refine W.widen (k := 68) (n := 2078) (Nat.le_of_ble_eq_true rfl) (Nat.le_of_ble_eq_true rfl) ?_
  refine lv_dup hx hb dL_law_11 rfl ?_
  have hFc : ∀ q, va_A [(p0, .inr (7, [.int 0, .int 0, .null, .null, .null, .null, .int 0, .null, .null, .null, .null, .null, .int 0, .null, .null, .null, .null, .null, .null, .null, .int 0, .null, .null, .null, .null]))] H.size q → A q := zz_free hD hS hA
  refine va_callv (va_runI (As := []) (rest := [.ref p0]) ⟨hx, hb, hml, hown, hts⟩ (ct_X7 l G p0 H.size) (cwI 0 hts gL_law_X7_init rfl rfl rfl (hts (.initialized RX7) (by decide +kernel)) (hts (.methodLink RL 92 yX7_init) (by decide +kernel)) (hts (.instanceMethod yX7_init) (by decide +kernel)) rfl (by decide +kernel) ⟨Nat.le_of_ble_eq_true rfl, Nat.le_of_ble_eq_true rfl⟩) ⟨fun a U g mk q => by obtain ⟨q0, q1, qP, qK, qD⟩ := q; exact ⟨q0, q1, qP, va_K.moved (u := U) (U := U.calling g mk a) (Vm.Alike.refl U.vm) qK, qD⟩, fun U hU hW => ⟨rfl, by rw [hU], by rw [hU]; exact zz_Pr hP, va_K.moved hW.alike hK, (zz_Dr hD).weaken (fun _ _ _ _ => trivial)⟩⟩ rfl rfl hl.1 rfl (lv_room (Nat.le_of_ble_eq_true rfl)) dL_law_12 ⟨Nat.le_of_ble_eq_true rfl, Nat.le_of_ble_eq_true rfl⟩) hS (fun q _ h => hFc q h) hFc (fun w t H1 locs ht hvm hw hB hz1 hk1 hS => ?_)
  obtain ⟨q7, q15, q23, q31, q39, q47, q55, q63, q71, q79, q87, q95, q103, q111, q119, q127, q136, q144, q152, q161, hu, hP1, hD1⟩ := hB
  rw [ht, ← wM_x G.1 G.2.1] at hP1
  rw [← wM_x G.1 G.2.1] at hD1
  obtain ⟨hP, hD⟩ := zz_join hP hD hk1 hFc hP1 hD1
  refine W.widen (k := 88) (n := 5092) (Nat.le_of_ble_eq_true rfl) (Nat.le_of_ble_eq_true rfl) ?_
  generalize H1 = H at hP hS ⊢
  obtain ⟨v, hv⟩ : ∃ v : Nat → Nat, v = adrM [p0, q7, q15, q23, q31, q39, q47, q55, q63, q71, q79, q87, q95, q103, q111, q119, q127, q136, q144, q152, q161] := ⟨_, rfl⟩
  have hv0 : v 0 = p0 := by rw [hv]; rfl
  rw [← hv] at hP hD
  refine lv_astore_n (lv' := [(2, .ref p0), (1, .ref q0), (0, .ref b)]) hx hb dL_law_15 rfl hl (by decide) rfl (fun ls hl => ?_)
  refine lv_iconst (v := 1) hx hb dL_law_16 (by decide) ?_
  refine zz_newa (atype := .long) (ty := .long) (a0 := (1, .inr (.inl (fun j : Nat => 0)))) hx hb (hts (.arrayClass .long) (by decide +kernel)) rfl hK hP hD hS hA (i := 2) rfl (fun cA => rfl) (by decide) rfl (Nat.le_of_ble_eq_true rfl) (Nat.le_of_ble_eq_true rfl) (Nat.le_of_ble_eq_true rfl) dL_law_17 (fun o0 H hP hD hS => ?_)
  have hP := va_P.swap hP
  have hD := va_D.swap hD
  rw [← wL_start] at hP hD
  refine lv_astore_n (lv' := [(3, .ref o0), (2, .ref p0), (1, .ref q0), (0, .ref b)]) hx hb dL_law_19 rfl hl (by decide) rfl (fun ls hl => ?_)
  refine lv_iconst (v := 0) hx hb dL_law_20 (by decide) ?_
  refine lv_istore (lv' := [(4, .int 0), (3, .ref o0), (2, .ref p0), (1, .ref q0), (0, .ref b)]) hx hb dL_law_21 hl (by decide) rfl (fun ls hl => ?_)
  obtain ⟨G2, hG2⟩ : ∃ G2 : Gp, G2 = (G.1, G.2.1, adrL u o0 v) := ⟨_, rfl⟩
  have hP : va_P G2.1 vwCl (wL G2 (S0, 0, S0)) H := by rw [hG2]; exact hP
  have hD : va_D A (wL G2 (S0, 0, S0)) := by rw [hG2]; exact hD
  have hK2 : va_K G2.1 vwCl (tysC G2) s := by rw [hG2]; exact hK
  have a0 : G2.2.2 0 = q0 := by rw [hG2, ← hu0]; exact adrL_u u o0 v (k := 0) (by decide)
  have a1 : G2.2.2 100 = p0 := by rw [hG2, ← hv0]; exact congrFun (adrL_v u o0 v) 0
  have a2 : G2.2.2 90 = o0 := by rw [hG2]; rfl
  have X : LC (c.exceptionTable.toList.map fun h => (h.startPc, h.endPc, h.handlerPc, h.catchType)) p l s m #[Value.ref b] meth c G2 A b L xs :=
    ⟨⟨⟨hx, hb, hml, hown, hts⟩, hr, hst, hK2, hlocks, hA, hXS, fun σ => zz_Dad (adL G2 (S0, 0, S0) σ) hD, (table_eq _).symm⟩, hNC, hX, hbl, hbA, hL⟩
  have hl2 : lvh ls 7 (LH G2 b 0) := by
    show lv_has ls 7 (asc (LH G2 b 0))
    unfold LH
    rw [a0, a1, a2]
    exact lv_sub hl [4, 3, 2, 1, 0] rfl
  have hI0 : LI (S0, 0, S0) := ⟨S0, Inv_S0, vw_S0, cs_S0, Tb_S0, okC_S0, okM_S0⟩
  refine W.widen (k := 100) (n := 6000) (Nat.le_of_ble_eq_true rfl) (Nat.le_of_ble_eq_true rfl) ?_
  exact lw_loop X (fun i k n σ hk hn => lw_end X.1 hAs hk hn) 512 0 100 6000 (S0, 0, S0) (by decide) (by decide) (by omega) (by decide) (by decide) hI0 H _ ls hP hS hl2
end START
