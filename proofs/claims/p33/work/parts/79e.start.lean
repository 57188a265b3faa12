/-! THE LAW FROM ITS ENTRY: an object and two rows are made, then the loop -/
section START
set_option maxHeartbeats 16000000 in
set_option maxRecDepth 100000 in
theorem whole_start {p : Program} {e : Env} {s : State} {m : MethodId} {below : List Frame} {meth : Method} {c : Code} (l : Launch) (hflags : l.flags = flags0) {b L : Nat} {xs : Nat → Int32} (hL : L ≤ 260) (C0 : lw_At p s m meth c b L xs) : W p l e room_1 s m #[Value.ref b] below meth c s.heap [] 0 0 (lw_Z below #[Value.ref b] s) (entryFrame m ([Value.ref b] : List Value).toArray 7) := by
  obtain ⟨hx, hb, hr, hml, hown, hts0, hX, hbl, hlocks, hgv⟩ := id C0
  have hts : ∀ w ∈ wsL_law, w.before #[Value.ref b] s = true := fun w h => hts0 w (wsL_law_in w h)
  have hown : s.vm.findClass RL = some m.cls := hown
  have hst : l.stackTraces = false := by
    unfold Launch.stackTraces
    rw [hflags]
    decide
  obtain ⟨A, hAd⟩ : ∃ A : Nat → Prop, A = fun q : Nat => s.heap.size ≤ q := ⟨_, rfl⟩
  have hA : ∀ q : Nat, s.heap.size ≤ q → A q := fun q h => by rw [hAd]; exact h
  have hAs : ∀ q : Nat, A q → s.heap.size ≤ q := fun q h => by rw [hAd] at h; exact h
  have hbA : ¬ A b := fun h => Nat.not_le.mpr hbl (hAs b h)
  have hXS : XS A s s.heap := entry_XS hts0 hgv (fun a h1 h2 => Nat.not_le.mpr h1 (hAs a h2))
  obtain ⟨D, K, hKf⟩ := entry_K hts0
  have hov : va_AOA .long s := hts0 (.arrayOver (.array .long)) (by decide +kernel)
  have hN : ∀ q ∈ nests, va_Nw (.methodLinkNest q.1 q.2.1 q.2.2 "Stresswork") s := hXS.2.2.2.1
  obtain ⟨G, hG⟩ : ∃ G : Gp, G = (D, K, fun _ => 0) := ⟨_, rfl⟩
  have hK : va_K G.1 vwCl (tysC G) s := by rw [hG]; exact hKf _
  have hS : va_S A s.heap s.heap [] := va_S.rf
  have hP : va_P G.1 vwCl [] s.heap := fun k q h => by simp at h
  have hD : va_D A [] := ⟨fun i j p q h => by simp at h, fun k q h => by simp at h⟩
  have hl := lv_entry ([.ref b]) (n := 7) (Nat.le_of_ble_eq_true rfl)
  rw [lg_entry_eq]
  generalize (lg_sl ([.ref b]) ++ List.replicate (7 - (lg_sl ([.ref b])).length) Slot.unset).toArray = ls at hl ⊢
  have hl : lv_has ls 7 [(0, .ref b)] := hl
  refine va_new (ci := 6) (fs := [.null, .null, .null, .null, .null, .null, .long 0]) (C := RX6) (T := TX6) (N := 7) hx hb hts inlX6 tyX6 tyX6_ok hown (hts (.classLink RL 11 RX6) (by decide +kernel)) (hts (.instantiable RX6 7) (by decide +kernel)) (hts (.initialized RX6) (by decide +kernel)) hK hP hD hS hA rfl (fun j hj => by rcases (show j = 0 ∨ j = 1 ∨ j = 2 ∨ j = 3 ∨ j = 4 ∨ j = 5 ∨ j = 6 by omega) with rfl | rfl | rfl | rfl | rfl | rfl | rfl <;> rfl) (Nat.le_of_ble_eq_true rfl) (Nat.le_of_ble_eq_true rfl) dL_law_0 (fun q0 H hP hD hS => ?_)
  refine W.widen (k := 1) (n := 7) (Nat.le_of_ble_eq_true rfl) (Nat.le_of_ble_eq_true rfl) ?_
  refine lv_dup hx hb dL_law_3 rfl ?_
  have hFc : ∀ q, va_A [(q0, .inr (6, [.null, .null, .null, .null, .null, .null, .long 0]))] H.size q → A q := zz_free hD hS hA
  refine va_callv (va_runI (As := []) (rest := [.ref q0]) ⟨hx, hb, hml, hown, hts⟩ (ct_X6 l G q0 H.size) (cwI 0 hts gL_law_X6_init rfl rfl rfl (hts (.initialized RX6) (by decide +kernel)) (hts (.methodLink RL 150 yX6_init) (by decide +kernel)) (hts (.instanceMethod yX6_init) (by decide +kernel)) rfl (by decide +kernel) ⟨Nat.le_of_ble_eq_true rfl, Nat.le_of_ble_eq_true rfl⟩) ⟨fun a U g mk q => by obtain ⟨q0, q1, qP, qK, qD, qE, qN⟩ := q; exact ⟨q0, q1, qP, va_K.moved (u := U) (U := U.calling g mk a) (Vm.Alike.refl U.vm) qK, qD, va_AOA.moved (u := U) (U := U.calling g mk a) (Vm.Alike.refl U.vm) qE, fun z hz => va_Nw.same (u := U) (U := U.calling g mk a) rfl rfl (qN z hz)⟩, fun U hU hW => ⟨rfl, by rw [hU], by rw [hU]; exact zz_Pr hP, va_K.moved hW.alike hK, (zz_Dr hD).weaken (fun _ _ _ _ => trivial), va_AOA.moved hW.alike hov, fun z hz => va_Nw.warmM hW (hN z hz)⟩⟩ rfl rfl hl.1 rfl (lv_room (Nat.le_of_ble_eq_true rfl)) dL_law_4 ⟨Nat.le_of_ble_eq_true rfl, Nat.le_of_ble_eq_true rfl⟩) hS (fun q _ h => hFc q h) hFc (fun u t H1 locs ht hvm hw hB hz1 hk1 hS => ?_)
  obtain ⟨hu0, hP1, hD1⟩ := hB
  rw [ht] at hP1
  obtain ⟨hP, hD⟩ := zz_join (c1 := wC (G.1, G.2.1, u) S0) hP hD hk1 hFc hP1 hD1
  refine W.widen (k := 67) (n := 2053) (Nat.le_of_ble_eq_true rfl) (Nat.le_of_ble_eq_true rfl) ?_
  generalize H1 = H at hP hS ⊢
  have hP : va_P G.1 vwCl (wC (G.1, G.2.1, u) S0) H := hP
  have hD : va_D A (wC (G.1, G.2.1, u) S0) := hD
  refine lv_astore_n (lv' := [(1, .ref q0), (0, .ref b)]) hx hb dL_law_7 rfl hl (by decide) rfl (fun ls hl => ?_)
  refine lv_iconst (v := 3) hx hb dL_law_8 (by decide) ?_
  refine zz_newa (atype := .int) (ty := .int) (a0 := (3, .inl (fun j : Nat => 0))) hx hb (hts (.arrayClass .int) (by decide +kernel)) rfl hK hP hD hS hA (i := 0) rfl (fun cA => rfl) (by decide) rfl (Nat.le_of_ble_eq_true rfl) (Nat.le_of_ble_eq_true rfl) (Nat.le_of_ble_eq_true rfl) dL_law_9 (fun d0 H hP hD hS => ?_)
  refine lv_astore_n (lv' := [(2, .ref d0), (1, .ref q0), (0, .ref b)]) hx hb dL_law_11 rfl hl (by decide) rfl (fun ls hl => ?_)
  refine lv_bipush hx hb dL_law_12 (v := 64) (by decide) ?_
  refine zz_newa (atype := .int) (ty := .int) (a0 := (64, .inl (fun j : Nat => 0))) hx hb (hts (.arrayClass .int) (by decide +kernel)) rfl hK hP hD hS hA (i := 0) rfl (fun cA => rfl) (by decide) rfl (Nat.le_of_ble_eq_true rfl) (Nat.le_of_ble_eq_true rfl) (Nat.le_of_ble_eq_true rfl) dL_law_14 (fun e0 H hP hD hS => ?_)
  refine lv_astore_n (lv' := [(3, .ref e0), (2, .ref d0), (1, .ref q0), (0, .ref b)]) hx hb dL_law_16 rfl hl (by decide) rfl (fun ls hl => ?_)
  have hP : va_P G.1 vwCl ((wC (G.1, G.2.1, u) S0 ++ [(d0, .inl (G.2.1 0, 3, .inl (fun j : Nat => 0)))]) ++ [(e0, .inl (G.2.1 0, 64, .inl (fun j : Nat => 0)))]) H := hP
  have hD : va_D A ((wC (G.1, G.2.1, u) S0 ++ [(d0, .inl (G.2.1 0, 3, .inl (fun j : Nat => 0)))]) ++ [(e0, .inl (G.2.1 0, 64, .inl (fun j : Nat => 0)))]) := hD
  rw [← wL_start] at hP hD
  obtain ⟨G2, hG2⟩ : ∃ G2 : Gp, G2 = (G.1, G.2.1, adrL u d0 e0) := ⟨_, rfl⟩
  have hP : va_P G2.1 vwCl (wL G2 S0) H := by rw [hG2]; exact hP
  have hD : va_D A (wL G2 S0) := by rw [hG2]; exact hD
  have hK2 : va_K G2.1 vwCl (tysC G2) s := by rw [hG2]; exact hK
  have a0 : G2.2.2 0 = q0 := by rw [hG2, ← hu0]; exact adrL_u u d0 e0 (k := 0) (by decide)
  have a1 : G2.2.2 70 = d0 := by rw [hG2]; rfl
  have a2 : G2.2.2 71 = e0 := by rw [hG2]; rfl
  have X : LC (c.exceptionTable.toList.map fun h => (h.startPc, h.endPc, h.handlerPc, h.catchType)) p l s m #[Value.ref b] meth c G2 A b L xs :=
    ⟨⟨⟨hx, hb, hml, hown, hts⟩, hr, hst, hK2, hlocks, hA, hXS, fun σ => zz_Dad (adL G2 S0 σ) hD, (table_eq _).symm⟩, hX, hbl, hbA, hL⟩
  have hl2 : lvh ls 7 (L0 G2 b) := by
    show lv_has ls 7 (asc (L0 G2 b))
    unfold L0
    rw [a0, a1, a2]
    exact lv_sub hl [3, 2, 1, 0] rfl
  refine W.widen (k := 100) (n := 6000) (Nat.le_of_ble_eq_true rfl) (Nat.le_of_ble_eq_true rfl) ?_
  exact lw_17 X (fun N i k n S hk hn => lw_end X.1 hAs hk hn) (by omega) (by omega) okL_S0 ⟨vw_S0, rfl, rfl⟩ H _ ls hP hS hl2
end START
