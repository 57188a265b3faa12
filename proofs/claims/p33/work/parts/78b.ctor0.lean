/-! CONSTRUCTOR of the grid -/
section CTOR0
def g0W (G : Gp) (h0 q q21 : Nat) (r : Nat → Nat) : va_W := ([(h0, .inr (0, [.ref q, .ref q21, .int 0, .int 0])), (q, .inl (G.2.1 3, 40, .inr (.inr (.inr (.inr (fun i => if i < 40 then some (r i) else none))))))] ++ va_pl ((List.range 40).map r) (vr_up (fun _ => (.inr (0, []) : va_E)) ((List.range 40).map r) (.inl (G.2.1 2, 40, .inr (.inl (fun j : Nat => 0)))))) ++ [(q21, .inl (G.2.1 0, 40, .inl (fun j : Nat => 0)))]
set_option maxHeartbeats 8000000 in
set_option maxRecDepth 100000 in
theorem ct_X0 (l : Launch) (G : Gp) (h0 sz : Nat) : Met l yX0_init wsX0_init ({ frames := 2, cells := 42, slots := 1680, locals := 40 }) (va_Pc [.ref h0] (fun U => U.heap.size = sz ∧ va_P G.1 vwCl [(h0, .inr (0, [.null, .null, .int 0, .int 0]))] U.heap ∧ va_K G.1 vwCl (tysC G) U ∧ va_D (fun _ => True) [(h0, .inr (0, [.null, .null, .int 0, .int 0]))] ∧ va_AOA .long U)) (va_Qv (fun _ : Nat × Nat × (Nat → Nat) => True) (fun u t => va_P G.1 vwCl (g0W G h0 u.1 u.2.1 u.2.2) t.heap ∧ va_D (va_A [(h0, .inr (0, [.null, .null, .int 0, .int 0]))] sz) (g0W G h0 u.1 u.2.1 u.2.2)) (va_A [(h0, .inr (0, [.null, .null, .int 0, .int 0]))] sz)) 42 1680 (va_A [(h0, .inr (0, [.null, .null, .int 0, .int 0]))] sz) := by
  refine Met.ofW (cc := cX0_init) (maxL := 1) (ret := none) (by decide) rfl ?_
  intro p e s m args below meth c s₁ B hml hv
  obtain ⟨rfl, hsz, hP, hK, hD0, hov⟩ := hv
  have hx := B.exec
  have hb := B.bytes
  have hr := B.returns
  have hts := atoms_spec (ws := wsX0_init) B.pre
  have hown : s.vm.findClass RX0 = some m.cls := findClass_of_methodNamed B.named
  have hin : meth.name = "<init>" := (name_of_methodNamed B.named B.method).1
  subst hsz
  have hD := hD0.self (sz := s.heap.size)
  generalize hAe : va_A [(h0, .inr (0, [.null, .null, .int 0, .int 0]))] s.heap.size = A at hD ⊢
  have hA : ∀ q : Nat, s.heap.size ≤ q → A q := fun q h => by rw [← hAe]; exact Or.inr h
  have hS : va_S A s.heap s.heap [] := va_S.rf
  have hl := lv_entry ([.ref h0]) (n := 1) (Nat.le_of_ble_eq_true rfl)
  rw [lg_entry_eq]
  generalize (lg_sl ([.ref h0]) ++ List.replicate (1 - (lg_sl ([.ref h0])).length) Slot.unset).toArray = ls at hl ⊢
  have hl : lv_has ls 1 [(0, .ref h0)] := hl
  refine lv_aload_n hx hb dX0_init_0 rfl (lv_at hl 0 rfl) ?_
  refine W.objInit hx hb hown (hts (.methodLink RX0 3 objectInit) (by decide +kernel)) (hts (.instanceMethod objectInit) (by decide +kernel)) (hts _ (List.mem_cons_of_mem _ (List.mem_append_left _ (List.mem_of_getElem? (i := 2) rfl)))) rfl (by rw [hml]; exact hl.1) rfl dX0_init_1 (Nat.le_of_ble_eq_true rfl) (Nat.le_of_ble_eq_true rfl) ?_
  refine W.eq (g2 := F0 m 4 ls []) rfl ?_
  refine lv_aload_n hx hb dX0_init_4 rfl (lv_at hl 0 rfl) ?_
  refine lv_bipush hx hb dX0_init_5 rfl ?_
  refine lv_bipush hx hb dX0_init_7 rfl ?_
  have hcy : s.vm.findClass (FieldType.array .long).toString = some (G.2.1 2) := (hK.2 2 _ rfl).2
  refine va_mna (N' := 40) (K' := 40) (X := [(h0, .inr (0, [.null, .null, .int 0, .int 0]))]) (L := []) (f := fun _ => .inr (0, [])) (z := (40, .inr (.inl (fun j : Nat => 0)))) hx hb hown (hts (.classLink RX0 11 "[[J") (by decide +kernel)) hov (hts (.arrayClass .long) (by decide +kernel)) hcy hK hP hD hS hA (by decide) (by decide) rfl rfl (Nat.le_of_ble_eq_true rfl) (Nat.le_of_ble_eq_true rfl) (Nat.le_of_ble_eq_true rfl) rfl rfl (Nat.le_of_ble_eq_true rfl) (Nat.le_of_ble_eq_true rfl) (fun c => rfl) dX0_init_9 (fun q r cA H hr1 hr2 hK2 hP hD hS => ?_)
  have ec : cA = G.2.1 3 := by
    have h1 := (hK.2 3 _ rfl).2
    have h2 := (hK2.2 4 (cA, .array .long) rfl).2
    exact Option.some.inj (h2.symm.trans h1)
  subst ec
  rw [List.nil_append] at hP hD
  generalize hPL : va_pl ((List.range 40).map r) (vr_up (fun _ => (.inr (0, []) : va_E)) ((List.range 40).map r) (.inl (G.2.1 2, 40, .inr (.inl (fun j : Nat => 0))))) = PL at hP hD
  have hP : va_P G.1 vwCl ([(h0, .inr (0, [.null, .null, .int 0, .int 0])), (q, .inl (G.2.1 3, 40, .inr (.inr (.inr (.inr (fun i => if i < 40 then some (r i) else none))))))] ++ PL) H := hP
  have hD : va_D A ([(h0, .inr (0, [.null, .null, .int 0, .int 0])), (q, .inl (G.2.1 3, 40, .inr (.inr (.inr (.inr (fun i => if i < 40 then some (r i) else none))))))] ++ PL) := hD
  refine va_putF (D := G.1) (ci := 0) (v := .ref q) (ty := .array (.array .long)) (C := RX0) (T := TX0) (N := 4) hx hb hts (by decide +kernel) tyX0 tyX0_ok nmX0 hown hK hP hD hS 0 rfl rfl 0 (by decide) (hts (.fieldLink RX0 13 "Stresswork$Grid" "cells" "[[J") (by decide +kernel)) (fun _ h9 => h9) rfl hin rfl (by decide +kernel) rfl rfl (Nat.le_of_ble_eq_true rfl) dX0_init_13 (fun H locs hP hD hS => ?_)
  refine lv_aload_n hx hb dX0_init_16 rfl (lv_at hl 0 rfl) ?_
  refine lv_bipush hx hb dX0_init_17 rfl ?_
  refine zz_newa (atype := .int) (ty := .int) (a0 := (40, .inl (fun j : Nat => 0))) hx hb (hts (.arrayClass .int) (by decide +kernel)) rfl hK hP hD hS hA (i := 0) rfl (fun cA => rfl) (by decide) rfl (Nat.le_of_ble_eq_true rfl) (Nat.le_of_ble_eq_true rfl) (Nat.le_of_ble_eq_true rfl) dX0_init_19 (fun q21 H hP hD hS => ?_)
  refine va_putF (D := G.1) (ci := 0) (v := .ref q21) (ty := .array .int) (C := RX0) (T := TX0) (N := 4) hx hb hts (by decide +kernel) tyX0 tyX0_ok nmX0 hown hK hP hD hS 0 rfl rfl 1 (by decide) (hts (.fieldLink RX0 16 "Stresswork$Grid" "pivotRow" "[I") (by decide +kernel)) (fun _ h9 => h9) rfl hin rfl (by decide +kernel) rfl rfl (Nat.le_of_ble_eq_true rfl) dX0_init_21 (fun H locs hP hD hS => ?_)
  refine lv_aload_n hx hb dX0_init_24 rfl (lv_at hl 0 rfl) ?_
  refine lv_iconst hx hb dX0_init_25 rfl ?_
  refine va_put (D := G.1) (ci := 0) (v := .int 0) (ty := .int) (C := RX0) (T := TX0) (N := 4) hx hb hts (by decide +kernel) tyX0 tyX0_ok nmX0 hown hK hP hD hS 0 rfl rfl 2 (by decide) (hts (.fieldLink RX0 20 "Stresswork$Grid" "rows" "I") (by decide +kernel)) (fun _ h9 => h9) rfl (by decide +kernel) rfl rfl (Nat.le_of_ble_eq_true rfl) dX0_init_26 (fun H locs hP hD hS => ?_)
  refine lv_aload_n hx hb dX0_init_29 rfl (lv_at hl 0 rfl) ?_
  refine lv_iconst hx hb dX0_init_30 rfl ?_
  refine va_put (D := G.1) (ci := 0) (v := .int 0) (ty := .int) (C := RX0) (T := TX0) (N := 4) hx hb hts (by decide +kernel) tyX0 tyX0_ok nmX0 hown hK hP hD hS 0 rfl rfl 3 (by decide) (hts (.fieldLink RX0 24 "Stresswork$Grid" "columns" "I") (by decide +kernel)) (fun _ h9 => h9) rfl (by decide +kernel) rfl rfl (Nat.le_of_ble_eq_true rfl) dX0_init_31 (fun H locs hP hD hS => ?_)
  have eW : g0W G h0 q q21 r = ([(h0, .inr (0, [.ref q, .ref q21, .int 0, .int 0])), (q, .inl (G.2.1 3, 40, .inr (.inr (.inr (.inr (fun i => if i < 40 then some (r i) else none))))))] ++ PL) ++ [(q21, .inl (G.2.1 0, 40, .inl (fun j : Nat => 0)))] := by rw [← hPL]; rfl
  exact W.vret hx hb hr (fun t ht hW => ⟨⟨(q, q21, r), rfl, trivial, by rw [ht]; show va_P G.1 vwCl (g0W G h0 q q21 r) H; rw [eW]; exact hP, by show va_D A (g0W G h0 q q21 r); rw [eW]; exact hD⟩, hS.F ht⟩) hS.2.2 dX0_init_34
end CTOR0
