/-! CONSTRUCTORS -/
section CTOR
set_option maxHeartbeats 1000000 in
theorem zz_newa {p : Program} {l : Launch} {e : Env} {s : State} {m : MethodId} {args : Array Value} {below : List Frame} {meth : Method} {c : Code} {R : Room} {Q : State → Prop} {H H0 : Heap} {locs : List Loc} {cells slots pc : Nat} {ls : Array Slot} {rest : List Value} {A : Nat → Prop} {D : va_G} {cl : List vw_C} {tys : List (ClassId × FieldType)} {ws : va_W} {cc : ByteArray} (hexec : p.tables.exec = Jvm.exec) (hb : c.code = cc) {atype : ArrayType} (harr : (Cond.arrayClass (newarray.typeOf atype)).before args s = true) {ty : FieldType} (hty : newarray.typeOf atype = ty) (hK : va_K D cl tys s) (hP : va_P D cl ws H) (hD : va_D A ws) (hS : va_S A H0 H locs) (hA : ∀ q, H0.size ≤ q → A q) {i : Nat} {cK : ClassId} (hi : tys[i]? = some (cK, ty))
    {n : Int32} {N' : Nat} {a0 : vp_A} (ha : ∀ cA : ClassId, vp_cell cA a0 = arrV cA N' (fun _ => defaultValue ty)) (hn : ¬ n < 0) (hN : n.toNatClampNeg = N') (hbytes : N' * componentBytes ty ≤ 536870912) (hcells : cells + 1 ≤ R.cells) (hslots : slots + N' ≤ R.slots) (hdg : decode cc pc = .ok (.newarray atype, 2))
    (kk : ∀ (q : Nat) (H1 : Heap), va_P D cl (ws ++ [(q, .inl (cK, a0))]) H1 → va_D A (ws ++ [(q, .inl (cK, a0))]) → va_S A H0 H1 locs →
      W p l e R s m args below meth c H1 locs (cells + 1) (slots + N') Q (F0 m (pc + 2) ls (.ref q :: rest))) : W p l e R s m args below meth c H locs cells slots Q (F0 m pc ls (.int n :: rest)) := by
  refine va_newa hexec hb harr hty hK hP hD hS hA ha hn hN hbytes hcells hslots hdg fun q cA H1 hK1 hP1 hD1 hS1 => ?_
  have h1 := (hK.2 i _ hi).2
  have h2 := (hK1.2 tys.length (cA, ty) (by rw [List.getElem?_append_right (Nat.le_refl _), Nat.sub_self]; rfl)).2
  have e : cA = cK := by
    subst hty
    cases atype <;> exact Option.some.inj (h2.symm.trans h1)
  subst e
  exact kk q H1 hP1 hD1 hS1
set_option maxHeartbeats 8000000 in
set_option maxRecDepth 100000 in
theorem ct_X4 (l : Launch) (G : Gp) (h0 sz : Nat) : Met l yX4_init wsX4_init ({ frames := 2, cells := 3, slots := 40, locals := 40 }) (va_Pc [.ref h0] (fun U => U.heap.size = sz ∧ va_P G.1 vwCl [(h0, .inr (4, [.null, .null, .null]))] U.heap ∧ va_K G.1 vwCl (tysC G) U ∧ va_D (fun _ => True) [(h0, .inr (4, [.null, .null, .null]))])) (va_Qv (fun _ : List Nat => True) (fun u t => ∃ q7 q15 q23 : Nat, u = [q7, q15, q23] ∧ va_P G.1 vwCl [(h0, .inr (4, [.ref q7, .ref q15, .ref q23])), (q7, .inl ((G.2.1 0), 20, .inl (fun j : Nat => 0))), (q15, .inl ((G.2.1 0), 10, .inl (fun j : Nat => 0))), (q23, .inl ((G.2.1 0), 10, .inl (fun j : Nat => 0)))] t.heap ∧ va_D (va_A [(h0, .inr (4, [.null, .null, .null]))] sz) [(h0, .inr (4, [.ref q7, .ref q15, .ref q23])), (q7, .inl ((G.2.1 0), 20, .inl (fun j : Nat => 0))), (q15, .inl ((G.2.1 0), 10, .inl (fun j : Nat => 0))), (q23, .inl ((G.2.1 0), 10, .inl (fun j : Nat => 0)))]) (va_A [(h0, .inr (4, [.null, .null, .null]))] sz)) 3 40 (va_A [(h0, .inr (4, [.null, .null, .null]))] sz) := by
  refine Met.ofW (cc := cX4_init) (maxL := 1) (ret := none) (by decide) rfl ?_
  intro p e s m args below meth c s₁ B hml hv
  obtain ⟨rfl, hsz, hP, hK, hD0⟩ := hv
  have hx := B.exec
  have hb := B.bytes
  have hr := B.returns
  have hts := atoms_spec (ws := wsX4_init) B.pre
  have hown : s.vm.findClass RX4 = some m.cls := findClass_of_methodNamed B.named
  have hlocks := B.notSynchronized
  have hin : meth.name = "<init>" := (name_of_methodNamed B.named B.method).1
  subst hsz
  have hD := hD0.self (sz := s.heap.size)
  generalize hAe : va_A [(h0, .inr (4, [.null, .null, .null]))] s.heap.size = A at hD ⊢
  have hA : ∀ q : Nat, s.heap.size ≤ q → A q := fun q h => by rw [← hAe]; exact Or.inr h
  have hS : va_S A s.heap s.heap [] := va_S.rf
  have hl := lv_entry ([.ref h0]) (n := 1) (Nat.le_of_ble_eq_true rfl)
  rw [lg_entry_eq]
  generalize (lg_sl ([.ref h0]) ++ List.replicate (1 - (lg_sl ([.ref h0])).length) Slot.unset).toArray = ls at hl ⊢
  have hl : lv_has ls 1 [(0, .ref h0)] := hl
  refine lv_aload_n hx hb dX4_init_0 rfl (lv_at hl 0 rfl) ?_
  refine W.objInit hx hb hown (hts (.methodLink RX4 3 objectInit) (by decide +kernel)) (hts (.instanceMethod objectInit) (by decide +kernel)) (hts _ (List.mem_cons_of_mem _ (List.mem_append_left _ (List.mem_of_getElem? (i := 2) rfl)))) rfl (by rw [hml]; exact hl.1) rfl dX4_init_1 (Nat.le_of_ble_eq_true rfl) (Nat.le_of_ble_eq_true rfl) ?_
  refine W.eq (g2 := F0 m 4 ls []) rfl ?_
  refine lv_aload_n hx hb dX4_init_4 rfl (lv_at hl 0 rfl) ?_
  refine lv_bipush hx hb dX4_init_5 rfl ?_
  refine zz_newa (atype := .int) (ty := .int) (a0 := (20, .inl (fun j : Nat => 0))) hx hb (hts (.arrayClass .int) (by decide +kernel)) rfl hK hP hD hS hA (i := 0) rfl (fun cA => rfl) (by decide) rfl (Nat.le_of_ble_eq_true rfl) (by decide) (by decide) dX4_init_7 (fun q7 H hP hD hS => ?_)
  have hP : va_P G.1 vwCl [(h0, .inr (4, [.null, .null, .null])), (q7, .inl ((G.2.1 0), 20, .inl (fun j : Nat => 0)))] H := hP
  have hD : va_D A [(h0, .inr (4, [.null, .null, .null])), (q7, .inl ((G.2.1 0), 20, .inl (fun j : Nat => 0)))] := hD
  have hi_9 : True := trivial
  refine va_putF (D := G.1) (ci := 4) (v := .ref q7) (ty := .array .int) (C := RX4) (T := TX4) (N := 3) hx hb hts (by decide +kernel) tyX4 tyX4_ok nmX4 hown hK hP hD hS 0 rfl rfl 0 (by decide) (hts (.fieldLink RX4 9 "Stresswork$Pebbles" "leadsTo" "[I") (by decide +kernel)) (fun _ h9 => h9) rfl hin rfl (by decide +kernel) rfl rfl (Nat.le_of_ble_eq_true rfl) dX4_init_9 (fun H locs hP hD hS => ?_)
  have hP : va_P G.1 vwCl [(h0, .inr (4, [.ref q7, .null, .null])), (q7, .inl ((G.2.1 0), 20, .inl (fun j : Nat => 0)))] H := hP
  have hD : va_D A [(h0, .inr (4, [.ref q7, .null, .null])), (q7, .inl ((G.2.1 0), 20, .inl (fun j : Nat => 0)))] := hD
  refine lv_aload_n hx hb dX4_init_12 rfl (lv_at hl 0 rfl) ?_
  refine lv_bipush hx hb dX4_init_13 rfl ?_
  refine zz_newa (atype := .int) (ty := .int) (a0 := (10, .inl (fun j : Nat => 0))) hx hb (hts (.arrayClass .int) (by decide +kernel)) rfl hK hP hD hS hA (i := 0) rfl (fun cA => rfl) (by decide) rfl (Nat.le_of_ble_eq_true rfl) (by decide) (by decide) dX4_init_15 (fun q15 H hP hD hS => ?_)
  have hP : va_P G.1 vwCl [(h0, .inr (4, [.ref q7, .null, .null])), (q7, .inl ((G.2.1 0), 20, .inl (fun j : Nat => 0))), (q15, .inl ((G.2.1 0), 10, .inl (fun j : Nat => 0)))] H := hP
  have hD : va_D A [(h0, .inr (4, [.ref q7, .null, .null])), (q7, .inl ((G.2.1 0), 20, .inl (fun j : Nat => 0))), (q15, .inl ((G.2.1 0), 10, .inl (fun j : Nat => 0)))] := hD
  have hi_17 : True := trivial
  refine va_putF (D := G.1) (ci := 4) (v := .ref q15) (ty := .array .int) (C := RX4) (T := TX4) (N := 3) hx hb hts (by decide +kernel) tyX4 tyX4_ok nmX4 hown hK hP hD hS 0 rfl rfl 1 (by decide) (hts (.fieldLink RX4 15 "Stresswork$Pebbles" "cameBy" "[I") (by decide +kernel)) (fun _ h9 => h9) rfl hin rfl (by decide +kernel) rfl rfl (Nat.le_of_ble_eq_true rfl) dX4_init_17 (fun H locs hP hD hS => ?_)
  have hP : va_P G.1 vwCl [(h0, .inr (4, [.ref q7, .ref q15, .null])), (q7, .inl ((G.2.1 0), 20, .inl (fun j : Nat => 0))), (q15, .inl ((G.2.1 0), 10, .inl (fun j : Nat => 0)))] H := hP
  have hD : va_D A [(h0, .inr (4, [.ref q7, .ref q15, .null])), (q7, .inl ((G.2.1 0), 20, .inl (fun j : Nat => 0))), (q15, .inl ((G.2.1 0), 10, .inl (fun j : Nat => 0)))] := hD
  refine lv_aload_n hx hb dX4_init_20 rfl (lv_at hl 0 rfl) ?_
  refine lv_bipush hx hb dX4_init_21 rfl ?_
  refine zz_newa (atype := .int) (ty := .int) (a0 := (10, .inl (fun j : Nat => 0))) hx hb (hts (.arrayClass .int) (by decide +kernel)) rfl hK hP hD hS hA (i := 0) rfl (fun cA => rfl) (by decide) rfl (Nat.le_of_ble_eq_true rfl) (by decide) (by decide) dX4_init_23 (fun q23 H hP hD hS => ?_)
  have hP : va_P G.1 vwCl [(h0, .inr (4, [.ref q7, .ref q15, .null])), (q7, .inl ((G.2.1 0), 20, .inl (fun j : Nat => 0))), (q15, .inl ((G.2.1 0), 10, .inl (fun j : Nat => 0))), (q23, .inl ((G.2.1 0), 10, .inl (fun j : Nat => 0)))] H := hP
  have hD : va_D A [(h0, .inr (4, [.ref q7, .ref q15, .null])), (q7, .inl ((G.2.1 0), 20, .inl (fun j : Nat => 0))), (q15, .inl ((G.2.1 0), 10, .inl (fun j : Nat => 0))), (q23, .inl ((G.2.1 0), 10, .inl (fun j : Nat => 0)))] := hD
  have hi_25 : True := trivial
  refine va_putF (D := G.1) (ci := 4) (v := .ref q23) (ty := .array .int) (C := RX4) (T := TX4) (N := 3) hx hb hts (by decide +kernel) tyX4 tyX4_ok nmX4 hown hK hP hD hS 0 rfl rfl 2 (by decide) (hts (.fieldLink RX4 18 "Stresswork$Pebbles" "queue" "[I") (by decide +kernel)) (fun _ h9 => h9) rfl hin rfl (by decide +kernel) rfl rfl (Nat.le_of_ble_eq_true rfl) dX4_init_25 (fun H locs hP hD hS => ?_)
  have hP : va_P G.1 vwCl [(h0, .inr (4, [.ref q7, .ref q15, .ref q23])), (q7, .inl ((G.2.1 0), 20, .inl (fun j : Nat => 0))), (q15, .inl ((G.2.1 0), 10, .inl (fun j : Nat => 0))), (q23, .inl ((G.2.1 0), 10, .inl (fun j : Nat => 0)))] H := hP
  have hD : va_D A [(h0, .inr (4, [.ref q7, .ref q15, .ref q23])), (q7, .inl ((G.2.1 0), 20, .inl (fun j : Nat => 0))), (q15, .inl ((G.2.1 0), 10, .inl (fun j : Nat => 0))), (q23, .inl ((G.2.1 0), 10, .inl (fun j : Nat => 0)))] := hD
  exact W.vret hx hb hr (fun t ht hW => ⟨⟨[q7, q15, q23], rfl, trivial, q7, q15, q23, rfl, by rw [ht]; exact hP, hD⟩, hS.F ht⟩) hS.2.2 dX4_init_28

set_option maxHeartbeats 8000000 in
set_option maxRecDepth 100000 in
theorem ct_X1 (l : Launch) (G : Gp) (h0 sz : Nat) : Met l yX1_init wsX1_init ({ frames := 2, cells := 4, slots := 40, locals := 40 }) (va_Pc [.ref h0] (fun U => U.heap.size = sz ∧ va_P G.1 vwCl [(h0, .inr (1, [.null, .null, .null, .null, .int 0]))] U.heap ∧ va_K G.1 vwCl (tysC G) U ∧ va_D (fun _ => True) [(h0, .inr (1, [.null, .null, .null, .null, .int 0]))])) (va_Qv (fun _ : List Nat => True) (fun u t => ∃ q7 q15 q23 q31 : Nat, u = [q7, q15, q23, q31] ∧ va_P G.1 vwCl [(h0, .inr (1, [.ref q7, .ref q15, .ref q23, .ref q31, .int 0])), (q7, .inl ((G.2.1 0), 10, .inl (fun j : Nat => 0))), (q15, .inl ((G.2.1 0), 10, .inl (fun j : Nat => 0))), (q23, .inl ((G.2.1 1), 10, .inl (fun j : Nat => 0))), (q31, .inl ((G.2.1 0), 10, .inl (fun j : Nat => 0)))] t.heap ∧ va_D (va_A [(h0, .inr (1, [.null, .null, .null, .null, .int 0]))] sz) [(h0, .inr (1, [.ref q7, .ref q15, .ref q23, .ref q31, .int 0])), (q7, .inl ((G.2.1 0), 10, .inl (fun j : Nat => 0))), (q15, .inl ((G.2.1 0), 10, .inl (fun j : Nat => 0))), (q23, .inl ((G.2.1 1), 10, .inl (fun j : Nat => 0))), (q31, .inl ((G.2.1 0), 10, .inl (fun j : Nat => 0)))]) (va_A [(h0, .inr (1, [.null, .null, .null, .null, .int 0]))] sz)) 4 40 (va_A [(h0, .inr (1, [.null, .null, .null, .null, .int 0]))] sz) := by
  refine Met.ofW (cc := cX1_init) (maxL := 1) (ret := none) (by decide) rfl ?_
  intro p e s m args below meth c s₁ B hml hv
  obtain ⟨rfl, hsz, hP, hK, hD0⟩ := hv
  have hx := B.exec
  have hb := B.bytes
  have hr := B.returns
  have hts := atoms_spec (ws := wsX1_init) B.pre
  have hown : s.vm.findClass RX1 = some m.cls := findClass_of_methodNamed B.named
  have hlocks := B.notSynchronized
  have hin : meth.name = "<init>" := (name_of_methodNamed B.named B.method).1
  subst hsz
  have hD := hD0.self (sz := s.heap.size)
  generalize hAe : va_A [(h0, .inr (1, [.null, .null, .null, .null, .int 0]))] s.heap.size = A at hD ⊢
  have hA : ∀ q : Nat, s.heap.size ≤ q → A q := fun q h => by rw [← hAe]; exact Or.inr h
  have hS : va_S A s.heap s.heap [] := va_S.rf
  have hl := lv_entry ([.ref h0]) (n := 1) (Nat.le_of_ble_eq_true rfl)
  rw [lg_entry_eq]
  generalize (lg_sl ([.ref h0]) ++ List.replicate (1 - (lg_sl ([.ref h0])).length) Slot.unset).toArray = ls at hl ⊢
  have hl : lv_has ls 1 [(0, .ref h0)] := hl
  refine lv_aload_n hx hb dX1_init_0 rfl (lv_at hl 0 rfl) ?_
  refine W.objInit hx hb hown (hts (.methodLink RX1 3 objectInit) (by decide +kernel)) (hts (.instanceMethod objectInit) (by decide +kernel)) (hts _ (List.mem_cons_of_mem _ (List.mem_append_left _ (List.mem_of_getElem? (i := 2) rfl)))) rfl (by rw [hml]; exact hl.1) rfl dX1_init_1 (Nat.le_of_ble_eq_true rfl) (Nat.le_of_ble_eq_true rfl) ?_
  refine W.eq (g2 := F0 m 4 ls []) rfl ?_
  refine lv_aload_n hx hb dX1_init_4 rfl (lv_at hl 0 rfl) ?_
  refine lv_bipush hx hb dX1_init_5 rfl ?_
  refine zz_newa (atype := .int) (ty := .int) (a0 := (10, .inl (fun j : Nat => 0))) hx hb (hts (.arrayClass .int) (by decide +kernel)) rfl hK hP hD hS hA (i := 0) rfl (fun cA => rfl) (by decide) rfl (Nat.le_of_ble_eq_true rfl) (by decide) (by decide) dX1_init_7 (fun q7 H hP hD hS => ?_)
  have hP : va_P G.1 vwCl [(h0, .inr (1, [.null, .null, .null, .null, .int 0])), (q7, .inl ((G.2.1 0), 10, .inl (fun j : Nat => 0)))] H := hP
  have hD : va_D A [(h0, .inr (1, [.null, .null, .null, .null, .int 0])), (q7, .inl ((G.2.1 0), 10, .inl (fun j : Nat => 0)))] := hD
  have hi_9 : True := trivial
  refine va_putF (D := G.1) (ci := 1) (v := .ref q7) (ty := .array .int) (C := RX1) (T := TX1) (N := 5) hx hb hts (by decide +kernel) tyX1 tyX1_ok nmX1 hown hK hP hD hS 0 rfl rfl 0 (by decide) (hts (.fieldLink RX1 9 "Stresswork$Joints" "x" "[I") (by decide +kernel)) (fun _ h9 => h9) rfl hin rfl (by decide +kernel) rfl rfl (Nat.le_of_ble_eq_true rfl) dX1_init_9 (fun H locs hP hD hS => ?_)
  have hP : va_P G.1 vwCl [(h0, .inr (1, [.ref q7, .null, .null, .null, .int 0])), (q7, .inl ((G.2.1 0), 10, .inl (fun j : Nat => 0)))] H := hP
  have hD : va_D A [(h0, .inr (1, [.ref q7, .null, .null, .null, .int 0])), (q7, .inl ((G.2.1 0), 10, .inl (fun j : Nat => 0)))] := hD
  refine lv_aload_n hx hb dX1_init_12 rfl (lv_at hl 0 rfl) ?_
  refine lv_bipush hx hb dX1_init_13 rfl ?_
  refine zz_newa (atype := .int) (ty := .int) (a0 := (10, .inl (fun j : Nat => 0))) hx hb (hts (.arrayClass .int) (by decide +kernel)) rfl hK hP hD hS hA (i := 0) rfl (fun cA => rfl) (by decide) rfl (Nat.le_of_ble_eq_true rfl) (by decide) (by decide) dX1_init_15 (fun q15 H hP hD hS => ?_)
  have hP : va_P G.1 vwCl [(h0, .inr (1, [.ref q7, .null, .null, .null, .int 0])), (q7, .inl ((G.2.1 0), 10, .inl (fun j : Nat => 0))), (q15, .inl ((G.2.1 0), 10, .inl (fun j : Nat => 0)))] H := hP
  have hD : va_D A [(h0, .inr (1, [.ref q7, .null, .null, .null, .int 0])), (q7, .inl ((G.2.1 0), 10, .inl (fun j : Nat => 0))), (q15, .inl ((G.2.1 0), 10, .inl (fun j : Nat => 0)))] := hD
  have hi_17 : True := trivial
  refine va_putF (D := G.1) (ci := 1) (v := .ref q15) (ty := .array .int) (C := RX1) (T := TX1) (N := 5) hx hb hts (by decide +kernel) tyX1 tyX1_ok nmX1 hown hK hP hD hS 0 rfl rfl 1 (by decide) (hts (.fieldLink RX1 15 "Stresswork$Joints" "y" "[I") (by decide +kernel)) (fun _ h9 => h9) rfl hin rfl (by decide +kernel) rfl rfl (Nat.le_of_ble_eq_true rfl) dX1_init_17 (fun H locs hP hD hS => ?_)
  have hP : va_P G.1 vwCl [(h0, .inr (1, [.ref q7, .ref q15, .null, .null, .int 0])), (q7, .inl ((G.2.1 0), 10, .inl (fun j : Nat => 0))), (q15, .inl ((G.2.1 0), 10, .inl (fun j : Nat => 0)))] H := hP
  have hD : va_D A [(h0, .inr (1, [.ref q7, .ref q15, .null, .null, .int 0])), (q7, .inl ((G.2.1 0), 10, .inl (fun j : Nat => 0))), (q15, .inl ((G.2.1 0), 10, .inl (fun j : Nat => 0)))] := hD
  refine lv_aload_n hx hb dX1_init_20 rfl (lv_at hl 0 rfl) ?_
  refine lv_bipush hx hb dX1_init_21 rfl ?_
  refine zz_newa (atype := .boolean) (ty := .boolean) (a0 := (10, .inl (fun j : Nat => 0))) hx hb (hts (.arrayClass .boolean) (by decide +kernel)) rfl hK hP hD hS hA (i := 1) rfl (fun cA => rfl) (by decide) rfl (Nat.le_of_ble_eq_true rfl) (by decide) (by decide) dX1_init_23 (fun q23 H hP hD hS => ?_)
  have hP : va_P G.1 vwCl [(h0, .inr (1, [.ref q7, .ref q15, .null, .null, .int 0])), (q7, .inl ((G.2.1 0), 10, .inl (fun j : Nat => 0))), (q15, .inl ((G.2.1 0), 10, .inl (fun j : Nat => 0))), (q23, .inl ((G.2.1 1), 10, .inl (fun j : Nat => 0)))] H := hP
  have hD : va_D A [(h0, .inr (1, [.ref q7, .ref q15, .null, .null, .int 0])), (q7, .inl ((G.2.1 0), 10, .inl (fun j : Nat => 0))), (q15, .inl ((G.2.1 0), 10, .inl (fun j : Nat => 0))), (q23, .inl ((G.2.1 1), 10, .inl (fun j : Nat => 0)))] := hD
  have hi_25 : True := trivial
  refine va_putF (D := G.1) (ci := 1) (v := .ref q23) (ty := .array .boolean) (C := RX1) (T := TX1) (N := 5) hx hb hts (by decide +kernel) tyX1 tyX1_ok nmX1 hown hK hP hD hS 0 rfl rfl 2 (by decide) (hts (.fieldLink RX1 18 "Stresswork$Joints" "pinned" "[Z") (by decide +kernel)) (fun _ h9 => h9) rfl hin rfl (by decide +kernel) rfl rfl (Nat.le_of_ble_eq_true rfl) dX1_init_25 (fun H locs hP hD hS => ?_)
  have hP : va_P G.1 vwCl [(h0, .inr (1, [.ref q7, .ref q15, .ref q23, .null, .int 0])), (q7, .inl ((G.2.1 0), 10, .inl (fun j : Nat => 0))), (q15, .inl ((G.2.1 0), 10, .inl (fun j : Nat => 0))), (q23, .inl ((G.2.1 1), 10, .inl (fun j : Nat => 0)))] H := hP
  have hD : va_D A [(h0, .inr (1, [.ref q7, .ref q15, .ref q23, .null, .int 0])), (q7, .inl ((G.2.1 0), 10, .inl (fun j : Nat => 0))), (q15, .inl ((G.2.1 0), 10, .inl (fun j : Nat => 0))), (q23, .inl ((G.2.1 1), 10, .inl (fun j : Nat => 0)))] := hD
  refine lv_aload_n hx hb dX1_init_28 rfl (lv_at hl 0 rfl) ?_
  refine lv_bipush hx hb dX1_init_29 rfl ?_
  refine zz_newa (atype := .int) (ty := .int) (a0 := (10, .inl (fun j : Nat => 0))) hx hb (hts (.arrayClass .int) (by decide +kernel)) rfl hK hP hD hS hA (i := 0) rfl (fun cA => rfl) (by decide) rfl (Nat.le_of_ble_eq_true rfl) (by decide) (by decide) dX1_init_31 (fun q31 H hP hD hS => ?_)
  have hP : va_P G.1 vwCl [(h0, .inr (1, [.ref q7, .ref q15, .ref q23, .null, .int 0])), (q7, .inl ((G.2.1 0), 10, .inl (fun j : Nat => 0))), (q15, .inl ((G.2.1 0), 10, .inl (fun j : Nat => 0))), (q23, .inl ((G.2.1 1), 10, .inl (fun j : Nat => 0))), (q31, .inl ((G.2.1 0), 10, .inl (fun j : Nat => 0)))] H := hP
  have hD : va_D A [(h0, .inr (1, [.ref q7, .ref q15, .ref q23, .null, .int 0])), (q7, .inl ((G.2.1 0), 10, .inl (fun j : Nat => 0))), (q15, .inl ((G.2.1 0), 10, .inl (fun j : Nat => 0))), (q23, .inl ((G.2.1 1), 10, .inl (fun j : Nat => 0))), (q31, .inl ((G.2.1 0), 10, .inl (fun j : Nat => 0)))] := hD
  have hi_33 : True := trivial
  refine va_putF (D := G.1) (ci := 1) (v := .ref q31) (ty := .array .int) (C := RX1) (T := TX1) (N := 5) hx hb hts (by decide +kernel) tyX1 tyX1_ok nmX1 hown hK hP hD hS 0 rfl rfl 3 (by decide) (hts (.fieldLink RX1 22 "Stresswork$Joints" "square" "[I") (by decide +kernel)) (fun _ h9 => h9) rfl hin rfl (by decide +kernel) rfl rfl (Nat.le_of_ble_eq_true rfl) dX1_init_33 (fun H locs hP hD hS => ?_)
  have hP : va_P G.1 vwCl [(h0, .inr (1, [.ref q7, .ref q15, .ref q23, .ref q31, .int 0])), (q7, .inl ((G.2.1 0), 10, .inl (fun j : Nat => 0))), (q15, .inl ((G.2.1 0), 10, .inl (fun j : Nat => 0))), (q23, .inl ((G.2.1 1), 10, .inl (fun j : Nat => 0))), (q31, .inl ((G.2.1 0), 10, .inl (fun j : Nat => 0)))] H := hP
  have hD : va_D A [(h0, .inr (1, [.ref q7, .ref q15, .ref q23, .ref q31, .int 0])), (q7, .inl ((G.2.1 0), 10, .inl (fun j : Nat => 0))), (q15, .inl ((G.2.1 0), 10, .inl (fun j : Nat => 0))), (q23, .inl ((G.2.1 1), 10, .inl (fun j : Nat => 0))), (q31, .inl ((G.2.1 0), 10, .inl (fun j : Nat => 0)))] := hD
  refine lv_aload_n hx hb dX1_init_36 rfl (lv_at hl 0 rfl) ?_
  refine lv_iconst hx hb dX1_init_37 rfl ?_
  have hi_38 : True := trivial
  refine va_put (D := G.1) (ci := 1) (v := .int 0) (ty := .int) (C := RX1) (T := TX1) (N := 5) hx hb hts (by decide +kernel) tyX1 tyX1_ok nmX1 hown hK hP hD hS 0 rfl rfl 4 (by decide) (hts (.fieldLink RX1 25 "Stresswork$Joints" "count" "I") (by decide +kernel)) (fun _ h9 => h9) rfl (by decide +kernel) rfl rfl (Nat.le_of_ble_eq_true rfl) dX1_init_38 (fun H locs hP hD hS => ?_)
  have hP : va_P G.1 vwCl [(h0, .inr (1, [.ref q7, .ref q15, .ref q23, .ref q31, .int 0])), (q7, .inl ((G.2.1 0), 10, .inl (fun j : Nat => 0))), (q15, .inl ((G.2.1 0), 10, .inl (fun j : Nat => 0))), (q23, .inl ((G.2.1 1), 10, .inl (fun j : Nat => 0))), (q31, .inl ((G.2.1 0), 10, .inl (fun j : Nat => 0)))] H := hP
  have hD : va_D A [(h0, .inr (1, [.ref q7, .ref q15, .ref q23, .ref q31, .int 0])), (q7, .inl ((G.2.1 0), 10, .inl (fun j : Nat => 0))), (q15, .inl ((G.2.1 0), 10, .inl (fun j : Nat => 0))), (q23, .inl ((G.2.1 1), 10, .inl (fun j : Nat => 0))), (q31, .inl ((G.2.1 0), 10, .inl (fun j : Nat => 0)))] := hD
  exact W.vret hx hb hr (fun t ht hW => ⟨⟨[q7, q15, q23, q31], rfl, trivial, q7, q15, q23, q31, rfl, by rw [ht]; exact hP, hD⟩, hS.F ht⟩) hS.2.2 dX1_init_41

set_option maxHeartbeats 8000000 in
set_option maxRecDepth 100000 in
theorem ct_X3 (l : Launch) (G : Gp) (h0 sz : Nat) : Met l yX3_init wsX3_init ({ frames := 2, cells := 5, slots := 200, locals := 40 }) (va_Pc [.ref h0] (fun U => U.heap.size = sz ∧ va_P G.1 vwCl [(h0, .inr (3, [.null, .null, .null, .null, .null, .int 0]))] U.heap ∧ va_K G.1 vwCl (tysC G) U ∧ va_D (fun _ => True) [(h0, .inr (3, [.null, .null, .null, .null, .null, .int 0]))])) (va_Qv (fun _ : List Nat => True) (fun u t => ∃ q7 q15 q23 q31 q39 : Nat, u = [q7, q15, q23, q31, q39] ∧ va_P G.1 vwCl [(h0, .inr (3, [.ref q7, .ref q15, .ref q23, .ref q31, .ref q39, .int 0])), (q7, .inl ((G.2.1 0), 40, .inl (fun j : Nat => 0))), (q15, .inl ((G.2.1 0), 40, .inl (fun j : Nat => 0))), (q23, .inl ((G.2.1 0), 40, .inl (fun j : Nat => 0))), (q31, .inl ((G.2.1 0), 40, .inl (fun j : Nat => 0))), (q39, .inl ((G.2.1 1), 40, .inl (fun j : Nat => 0)))] t.heap ∧ va_D (va_A [(h0, .inr (3, [.null, .null, .null, .null, .null, .int 0]))] sz) [(h0, .inr (3, [.ref q7, .ref q15, .ref q23, .ref q31, .ref q39, .int 0])), (q7, .inl ((G.2.1 0), 40, .inl (fun j : Nat => 0))), (q15, .inl ((G.2.1 0), 40, .inl (fun j : Nat => 0))), (q23, .inl ((G.2.1 0), 40, .inl (fun j : Nat => 0))), (q31, .inl ((G.2.1 0), 40, .inl (fun j : Nat => 0))), (q39, .inl ((G.2.1 1), 40, .inl (fun j : Nat => 0)))]) (va_A [(h0, .inr (3, [.null, .null, .null, .null, .null, .int 0]))] sz)) 5 200 (va_A [(h0, .inr (3, [.null, .null, .null, .null, .null, .int 0]))] sz) := by
  refine Met.ofW (cc := cX3_init) (maxL := 1) (ret := none) (by decide) rfl ?_
  intro p e s m args below meth c s₁ B hml hv
  obtain ⟨rfl, hsz, hP, hK, hD0⟩ := hv
  have hx := B.exec
  have hb := B.bytes
  have hr := B.returns
  have hts := atoms_spec (ws := wsX3_init) B.pre
  have hown : s.vm.findClass RX3 = some m.cls := findClass_of_methodNamed B.named
  have hlocks := B.notSynchronized
  have hin : meth.name = "<init>" := (name_of_methodNamed B.named B.method).1
  subst hsz
  have hD := hD0.self (sz := s.heap.size)
  generalize hAe : va_A [(h0, .inr (3, [.null, .null, .null, .null, .null, .int 0]))] s.heap.size = A at hD ⊢
  have hA : ∀ q : Nat, s.heap.size ≤ q → A q := fun q h => by rw [← hAe]; exact Or.inr h
  have hS : va_S A s.heap s.heap [] := va_S.rf
  have hl := lv_entry ([.ref h0]) (n := 1) (Nat.le_of_ble_eq_true rfl)
  rw [lg_entry_eq]
  generalize (lg_sl ([.ref h0]) ++ List.replicate (1 - (lg_sl ([.ref h0])).length) Slot.unset).toArray = ls at hl ⊢
  have hl : lv_has ls 1 [(0, .ref h0)] := hl
  refine lv_aload_n hx hb dX3_init_0 rfl (lv_at hl 0 rfl) ?_
  refine W.objInit hx hb hown (hts (.methodLink RX3 3 objectInit) (by decide +kernel)) (hts (.instanceMethod objectInit) (by decide +kernel)) (hts _ (List.mem_cons_of_mem _ (List.mem_append_left _ (List.mem_of_getElem? (i := 2) rfl)))) rfl (by rw [hml]; exact hl.1) rfl dX3_init_1 (Nat.le_of_ble_eq_true rfl) (Nat.le_of_ble_eq_true rfl) ?_
  refine W.eq (g2 := F0 m 4 ls []) rfl ?_
  refine lv_aload_n hx hb dX3_init_4 rfl (lv_at hl 0 rfl) ?_
  refine lv_bipush hx hb dX3_init_5 rfl ?_
  refine zz_newa (atype := .int) (ty := .int) (a0 := (40, .inl (fun j : Nat => 0))) hx hb (hts (.arrayClass .int) (by decide +kernel)) rfl hK hP hD hS hA (i := 0) rfl (fun cA => rfl) (by decide) rfl (Nat.le_of_ble_eq_true rfl) (by decide) (by decide) dX3_init_7 (fun q7 H hP hD hS => ?_)
  have hP : va_P G.1 vwCl [(h0, .inr (3, [.null, .null, .null, .null, .null, .int 0])), (q7, .inl ((G.2.1 0), 40, .inl (fun j : Nat => 0)))] H := hP
  have hD : va_D A [(h0, .inr (3, [.null, .null, .null, .null, .null, .int 0])), (q7, .inl ((G.2.1 0), 40, .inl (fun j : Nat => 0)))] := hD
  have hi_9 : True := trivial
  refine va_putF (D := G.1) (ci := 3) (v := .ref q7) (ty := .array .int) (C := RX3) (T := TX3) (N := 6) hx hb hts (by decide +kernel) tyX3 tyX3_ok nmX3 hown hK hP hD hS 0 rfl rfl 0 (by decide) (hts (.fieldLink RX3 9 "Stresswork$Members" "from" "[I") (by decide +kernel)) (fun _ h9 => h9) rfl hin rfl (by decide +kernel) rfl rfl (Nat.le_of_ble_eq_true rfl) dX3_init_9 (fun H locs hP hD hS => ?_)
  have hP : va_P G.1 vwCl [(h0, .inr (3, [.ref q7, .null, .null, .null, .null, .int 0])), (q7, .inl ((G.2.1 0), 40, .inl (fun j : Nat => 0)))] H := hP
  have hD : va_D A [(h0, .inr (3, [.ref q7, .null, .null, .null, .null, .int 0])), (q7, .inl ((G.2.1 0), 40, .inl (fun j : Nat => 0)))] := hD
  refine lv_aload_n hx hb dX3_init_12 rfl (lv_at hl 0 rfl) ?_
  refine lv_bipush hx hb dX3_init_13 rfl ?_
  refine zz_newa (atype := .int) (ty := .int) (a0 := (40, .inl (fun j : Nat => 0))) hx hb (hts (.arrayClass .int) (by decide +kernel)) rfl hK hP hD hS hA (i := 0) rfl (fun cA => rfl) (by decide) rfl (Nat.le_of_ble_eq_true rfl) (by decide) (by decide) dX3_init_15 (fun q15 H hP hD hS => ?_)
  have hP : va_P G.1 vwCl [(h0, .inr (3, [.ref q7, .null, .null, .null, .null, .int 0])), (q7, .inl ((G.2.1 0), 40, .inl (fun j : Nat => 0))), (q15, .inl ((G.2.1 0), 40, .inl (fun j : Nat => 0)))] H := hP
  have hD : va_D A [(h0, .inr (3, [.ref q7, .null, .null, .null, .null, .int 0])), (q7, .inl ((G.2.1 0), 40, .inl (fun j : Nat => 0))), (q15, .inl ((G.2.1 0), 40, .inl (fun j : Nat => 0)))] := hD
  have hi_17 : True := trivial
  refine va_putF (D := G.1) (ci := 3) (v := .ref q15) (ty := .array .int) (C := RX3) (T := TX3) (N := 6) hx hb hts (by decide +kernel) tyX3 tyX3_ok nmX3 hown hK hP hD hS 0 rfl rfl 1 (by decide) (hts (.fieldLink RX3 15 "Stresswork$Members" "to" "[I") (by decide +kernel)) (fun _ h9 => h9) rfl hin rfl (by decide +kernel) rfl rfl (Nat.le_of_ble_eq_true rfl) dX3_init_17 (fun H locs hP hD hS => ?_)
  have hP : va_P G.1 vwCl [(h0, .inr (3, [.ref q7, .ref q15, .null, .null, .null, .int 0])), (q7, .inl ((G.2.1 0), 40, .inl (fun j : Nat => 0))), (q15, .inl ((G.2.1 0), 40, .inl (fun j : Nat => 0)))] H := hP
  have hD : va_D A [(h0, .inr (3, [.ref q7, .ref q15, .null, .null, .null, .int 0])), (q7, .inl ((G.2.1 0), 40, .inl (fun j : Nat => 0))), (q15, .inl ((G.2.1 0), 40, .inl (fun j : Nat => 0)))] := hD
  refine lv_aload_n hx hb dX3_init_20 rfl (lv_at hl 0 rfl) ?_
  refine lv_bipush hx hb dX3_init_21 rfl ?_
  refine zz_newa (atype := .int) (ty := .int) (a0 := (40, .inl (fun j : Nat => 0))) hx hb (hts (.arrayClass .int) (by decide +kernel)) rfl hK hP hD hS hA (i := 0) rfl (fun cA => rfl) (by decide) rfl (Nat.le_of_ble_eq_true rfl) (by decide) (by decide) dX3_init_23 (fun q23 H hP hD hS => ?_)
  have hP : va_P G.1 vwCl [(h0, .inr (3, [.ref q7, .ref q15, .null, .null, .null, .int 0])), (q7, .inl ((G.2.1 0), 40, .inl (fun j : Nat => 0))), (q15, .inl ((G.2.1 0), 40, .inl (fun j : Nat => 0))), (q23, .inl ((G.2.1 0), 40, .inl (fun j : Nat => 0)))] H := hP
  have hD : va_D A [(h0, .inr (3, [.ref q7, .ref q15, .null, .null, .null, .int 0])), (q7, .inl ((G.2.1 0), 40, .inl (fun j : Nat => 0))), (q15, .inl ((G.2.1 0), 40, .inl (fun j : Nat => 0))), (q23, .inl ((G.2.1 0), 40, .inl (fun j : Nat => 0)))] := hD
  have hi_25 : True := trivial
  refine va_putF (D := G.1) (ci := 3) (v := .ref q23) (ty := .array .int) (C := RX3) (T := TX3) (N := 6) hx hb hts (by decide +kernel) tyX3 tyX3_ok nmX3 hown hK hP hD hS 0 rfl rfl 2 (by decide) (hts (.fieldLink RX3 18 "Stresswork$Members" "kinds" "[I") (by decide +kernel)) (fun _ h9 => h9) rfl hin rfl (by decide +kernel) rfl rfl (Nat.le_of_ble_eq_true rfl) dX3_init_25 (fun H locs hP hD hS => ?_)
  have hP : va_P G.1 vwCl [(h0, .inr (3, [.ref q7, .ref q15, .ref q23, .null, .null, .int 0])), (q7, .inl ((G.2.1 0), 40, .inl (fun j : Nat => 0))), (q15, .inl ((G.2.1 0), 40, .inl (fun j : Nat => 0))), (q23, .inl ((G.2.1 0), 40, .inl (fun j : Nat => 0)))] H := hP
  have hD : va_D A [(h0, .inr (3, [.ref q7, .ref q15, .ref q23, .null, .null, .int 0])), (q7, .inl ((G.2.1 0), 40, .inl (fun j : Nat => 0))), (q15, .inl ((G.2.1 0), 40, .inl (fun j : Nat => 0))), (q23, .inl ((G.2.1 0), 40, .inl (fun j : Nat => 0)))] := hD
  refine lv_aload_n hx hb dX3_init_28 rfl (lv_at hl 0 rfl) ?_
  refine lv_bipush hx hb dX3_init_29 rfl ?_
  refine zz_newa (atype := .int) (ty := .int) (a0 := (40, .inl (fun j : Nat => 0))) hx hb (hts (.arrayClass .int) (by decide +kernel)) rfl hK hP hD hS hA (i := 0) rfl (fun cA => rfl) (by decide) rfl (Nat.le_of_ble_eq_true rfl) (by decide) (by decide) dX3_init_31 (fun q31 H hP hD hS => ?_)
  have hP : va_P G.1 vwCl [(h0, .inr (3, [.ref q7, .ref q15, .ref q23, .null, .null, .int 0])), (q7, .inl ((G.2.1 0), 40, .inl (fun j : Nat => 0))), (q15, .inl ((G.2.1 0), 40, .inl (fun j : Nat => 0))), (q23, .inl ((G.2.1 0), 40, .inl (fun j : Nat => 0))), (q31, .inl ((G.2.1 0), 40, .inl (fun j : Nat => 0)))] H := hP
  have hD : va_D A [(h0, .inr (3, [.ref q7, .ref q15, .ref q23, .null, .null, .int 0])), (q7, .inl ((G.2.1 0), 40, .inl (fun j : Nat => 0))), (q15, .inl ((G.2.1 0), 40, .inl (fun j : Nat => 0))), (q23, .inl ((G.2.1 0), 40, .inl (fun j : Nat => 0))), (q31, .inl ((G.2.1 0), 40, .inl (fun j : Nat => 0)))] := hD
  have hi_33 : True := trivial
  refine va_putF (D := G.1) (ci := 3) (v := .ref q31) (ty := .array .int) (C := RX3) (T := TX3) (N := 6) hx hb hts (by decide +kernel) tyX3 tyX3_ok nmX3 hown hK hP hD hS 0 rfl rfl 3 (by decide) (hts (.fieldLink RX3 21 "Stresswork$Members" "told" "[I") (by decide +kernel)) (fun _ h9 => h9) rfl hin rfl (by decide +kernel) rfl rfl (Nat.le_of_ble_eq_true rfl) dX3_init_33 (fun H locs hP hD hS => ?_)
  have hP : va_P G.1 vwCl [(h0, .inr (3, [.ref q7, .ref q15, .ref q23, .ref q31, .null, .int 0])), (q7, .inl ((G.2.1 0), 40, .inl (fun j : Nat => 0))), (q15, .inl ((G.2.1 0), 40, .inl (fun j : Nat => 0))), (q23, .inl ((G.2.1 0), 40, .inl (fun j : Nat => 0))), (q31, .inl ((G.2.1 0), 40, .inl (fun j : Nat => 0)))] H := hP
  have hD : va_D A [(h0, .inr (3, [.ref q7, .ref q15, .ref q23, .ref q31, .null, .int 0])), (q7, .inl ((G.2.1 0), 40, .inl (fun j : Nat => 0))), (q15, .inl ((G.2.1 0), 40, .inl (fun j : Nat => 0))), (q23, .inl ((G.2.1 0), 40, .inl (fun j : Nat => 0))), (q31, .inl ((G.2.1 0), 40, .inl (fun j : Nat => 0)))] := hD
  refine lv_aload_n hx hb dX3_init_36 rfl (lv_at hl 0 rfl) ?_
  refine lv_bipush hx hb dX3_init_37 rfl ?_
  refine zz_newa (atype := .boolean) (ty := .boolean) (a0 := (40, .inl (fun j : Nat => 0))) hx hb (hts (.arrayClass .boolean) (by decide +kernel)) rfl hK hP hD hS hA (i := 1) rfl (fun cA => rfl) (by decide) rfl (Nat.le_of_ble_eq_true rfl) (by decide) (by decide) dX3_init_39 (fun q39 H hP hD hS => ?_)
  have hP : va_P G.1 vwCl [(h0, .inr (3, [.ref q7, .ref q15, .ref q23, .ref q31, .null, .int 0])), (q7, .inl ((G.2.1 0), 40, .inl (fun j : Nat => 0))), (q15, .inl ((G.2.1 0), 40, .inl (fun j : Nat => 0))), (q23, .inl ((G.2.1 0), 40, .inl (fun j : Nat => 0))), (q31, .inl ((G.2.1 0), 40, .inl (fun j : Nat => 0))), (q39, .inl ((G.2.1 1), 40, .inl (fun j : Nat => 0)))] H := hP
  have hD : va_D A [(h0, .inr (3, [.ref q7, .ref q15, .ref q23, .ref q31, .null, .int 0])), (q7, .inl ((G.2.1 0), 40, .inl (fun j : Nat => 0))), (q15, .inl ((G.2.1 0), 40, .inl (fun j : Nat => 0))), (q23, .inl ((G.2.1 0), 40, .inl (fun j : Nat => 0))), (q31, .inl ((G.2.1 0), 40, .inl (fun j : Nat => 0))), (q39, .inl ((G.2.1 1), 40, .inl (fun j : Nat => 0)))] := hD
  have hi_41 : True := trivial
  refine va_putF (D := G.1) (ci := 3) (v := .ref q39) (ty := .array .boolean) (C := RX3) (T := TX3) (N := 6) hx hb hts (by decide +kernel) tyX3 tyX3_ok nmX3 hown hK hP hD hS 0 rfl rfl 4 (by decide) (hts (.fieldLink RX3 24 "Stresswork$Members" "gone" "[Z") (by decide +kernel)) (fun _ h9 => h9) rfl hin rfl (by decide +kernel) rfl rfl (Nat.le_of_ble_eq_true rfl) dX3_init_41 (fun H locs hP hD hS => ?_)
  have hP : va_P G.1 vwCl [(h0, .inr (3, [.ref q7, .ref q15, .ref q23, .ref q31, .ref q39, .int 0])), (q7, .inl ((G.2.1 0), 40, .inl (fun j : Nat => 0))), (q15, .inl ((G.2.1 0), 40, .inl (fun j : Nat => 0))), (q23, .inl ((G.2.1 0), 40, .inl (fun j : Nat => 0))), (q31, .inl ((G.2.1 0), 40, .inl (fun j : Nat => 0))), (q39, .inl ((G.2.1 1), 40, .inl (fun j : Nat => 0)))] H := hP
  have hD : va_D A [(h0, .inr (3, [.ref q7, .ref q15, .ref q23, .ref q31, .ref q39, .int 0])), (q7, .inl ((G.2.1 0), 40, .inl (fun j : Nat => 0))), (q15, .inl ((G.2.1 0), 40, .inl (fun j : Nat => 0))), (q23, .inl ((G.2.1 0), 40, .inl (fun j : Nat => 0))), (q31, .inl ((G.2.1 0), 40, .inl (fun j : Nat => 0))), (q39, .inl ((G.2.1 1), 40, .inl (fun j : Nat => 0)))] := hD
  refine lv_aload_n hx hb dX3_init_44 rfl (lv_at hl 0 rfl) ?_
  refine lv_iconst hx hb dX3_init_45 rfl ?_
  have hi_46 : True := trivial
  refine va_put (D := G.1) (ci := 3) (v := .int 0) (ty := .int) (C := RX3) (T := TX3) (N := 6) hx hb hts (by decide +kernel) tyX3 tyX3_ok nmX3 hown hK hP hD hS 0 rfl rfl 5 (by decide) (hts (.fieldLink RX3 28 "Stresswork$Members" "count" "I") (by decide +kernel)) (fun _ h9 => h9) rfl (by decide +kernel) rfl rfl (Nat.le_of_ble_eq_true rfl) dX3_init_46 (fun H locs hP hD hS => ?_)
  have hP : va_P G.1 vwCl [(h0, .inr (3, [.ref q7, .ref q15, .ref q23, .ref q31, .ref q39, .int 0])), (q7, .inl ((G.2.1 0), 40, .inl (fun j : Nat => 0))), (q15, .inl ((G.2.1 0), 40, .inl (fun j : Nat => 0))), (q23, .inl ((G.2.1 0), 40, .inl (fun j : Nat => 0))), (q31, .inl ((G.2.1 0), 40, .inl (fun j : Nat => 0))), (q39, .inl ((G.2.1 1), 40, .inl (fun j : Nat => 0)))] H := hP
  have hD : va_D A [(h0, .inr (3, [.ref q7, .ref q15, .ref q23, .ref q31, .ref q39, .int 0])), (q7, .inl ((G.2.1 0), 40, .inl (fun j : Nat => 0))), (q15, .inl ((G.2.1 0), 40, .inl (fun j : Nat => 0))), (q23, .inl ((G.2.1 0), 40, .inl (fun j : Nat => 0))), (q31, .inl ((G.2.1 0), 40, .inl (fun j : Nat => 0))), (q39, .inl ((G.2.1 1), 40, .inl (fun j : Nat => 0)))] := hD
  exact W.vret hx hb hr (fun t ht hW => ⟨⟨[q7, q15, q23, q31, q39], rfl, trivial, q7, q15, q23, q31, q39, rfl, by rw [ht]; exact hP, hD⟩, hS.F ht⟩) hS.2.2 dX3_init_49

set_option maxHeartbeats 8000000 in
set_option maxRecDepth 100000 in
theorem ct_X5 (l : Launch) (G : Gp) (h0 sz : Nat) : Met l yX5_init wsX5_init ({ frames := 2, cells := 3, slots := 30, locals := 40 }) (va_Pc [.ref h0] (fun U => U.heap.size = sz ∧ va_P G.1 vwCl [(h0, .inr (5, [.null, .null, .null, .int 0]))] U.heap ∧ va_K G.1 vwCl (tysC G) U ∧ va_D (fun _ => True) [(h0, .inr (5, [.null, .null, .null, .int 0]))])) (va_Qv (fun _ : List Nat => True) (fun u t => ∃ q7 q15 q23 : Nat, u = [q7, q15, q23] ∧ va_P G.1 vwCl [(h0, .inr (5, [.ref q7, .ref q15, .ref q23, .int 0])), (q7, .inl ((G.2.1 0), 10, .inl (fun j : Nat => 0))), (q15, .inl ((G.2.1 0), 10, .inl (fun j : Nat => 0))), (q23, .inl ((G.2.1 0), 10, .inl (fun j : Nat => 0)))] t.heap ∧ va_D (va_A [(h0, .inr (5, [.null, .null, .null, .int 0]))] sz) [(h0, .inr (5, [.ref q7, .ref q15, .ref q23, .int 0])), (q7, .inl ((G.2.1 0), 10, .inl (fun j : Nat => 0))), (q15, .inl ((G.2.1 0), 10, .inl (fun j : Nat => 0))), (q23, .inl ((G.2.1 0), 10, .inl (fun j : Nat => 0)))]) (va_A [(h0, .inr (5, [.null, .null, .null, .int 0]))] sz)) 3 30 (va_A [(h0, .inr (5, [.null, .null, .null, .int 0]))] sz) := by
  refine Met.ofW (cc := cX5_init) (maxL := 1) (ret := none) (by decide) rfl ?_
  intro p e s m args below meth c s₁ B hml hv
  obtain ⟨rfl, hsz, hP, hK, hD0⟩ := hv
  have hx := B.exec
  have hb := B.bytes
  have hr := B.returns
  have hts := atoms_spec (ws := wsX5_init) B.pre
  have hown : s.vm.findClass RX5 = some m.cls := findClass_of_methodNamed B.named
  have hlocks := B.notSynchronized
  have hin : meth.name = "<init>" := (name_of_methodNamed B.named B.method).1
  subst hsz
  have hD := hD0.self (sz := s.heap.size)
  generalize hAe : va_A [(h0, .inr (5, [.null, .null, .null, .int 0]))] s.heap.size = A at hD ⊢
  have hA : ∀ q : Nat, s.heap.size ≤ q → A q := fun q h => by rw [← hAe]; exact Or.inr h
  have hS : va_S A s.heap s.heap [] := va_S.rf
  have hl := lv_entry ([.ref h0]) (n := 1) (Nat.le_of_ble_eq_true rfl)
  rw [lg_entry_eq]
  generalize (lg_sl ([.ref h0]) ++ List.replicate (1 - (lg_sl ([.ref h0])).length) Slot.unset).toArray = ls at hl ⊢
  have hl : lv_has ls 1 [(0, .ref h0)] := hl
  refine lv_aload_n hx hb dX5_init_0 rfl (lv_at hl 0 rfl) ?_
  refine W.objInit hx hb hown (hts (.methodLink RX5 3 objectInit) (by decide +kernel)) (hts (.instanceMethod objectInit) (by decide +kernel)) (hts _ (List.mem_cons_of_mem _ (List.mem_append_left _ (List.mem_of_getElem? (i := 2) rfl)))) rfl (by rw [hml]; exact hl.1) rfl dX5_init_1 (Nat.le_of_ble_eq_true rfl) (Nat.le_of_ble_eq_true rfl) ?_
  refine W.eq (g2 := F0 m 4 ls []) rfl ?_
  refine lv_aload_n hx hb dX5_init_4 rfl (lv_at hl 0 rfl) ?_
  refine lv_bipush hx hb dX5_init_5 rfl ?_
  refine zz_newa (atype := .int) (ty := .int) (a0 := (10, .inl (fun j : Nat => 0))) hx hb (hts (.arrayClass .int) (by decide +kernel)) rfl hK hP hD hS hA (i := 0) rfl (fun cA => rfl) (by decide) rfl (Nat.le_of_ble_eq_true rfl) (by decide) (by decide) dX5_init_7 (fun q7 H hP hD hS => ?_)
  have hP : va_P G.1 vwCl [(h0, .inr (5, [.null, .null, .null, .int 0])), (q7, .inl ((G.2.1 0), 10, .inl (fun j : Nat => 0)))] H := hP
  have hD : va_D A [(h0, .inr (5, [.null, .null, .null, .int 0])), (q7, .inl ((G.2.1 0), 10, .inl (fun j : Nat => 0)))] := hD
  have hi_9 : True := trivial
  refine va_putF (D := G.1) (ci := 5) (v := .ref q7) (ty := .array .int) (C := RX5) (T := TX5) (N := 4) hx hb hts (by decide +kernel) tyX5 tyX5_ok nmX5 hown hK hP hD hS 0 rfl rfl 0 (by decide) (hts (.fieldLink RX5 9 "Stresswork$Steps" "joint" "[I") (by decide +kernel)) (fun _ h9 => h9) rfl hin rfl (by decide +kernel) rfl rfl (Nat.le_of_ble_eq_true rfl) dX5_init_9 (fun H locs hP hD hS => ?_)
  have hP : va_P G.1 vwCl [(h0, .inr (5, [.ref q7, .null, .null, .int 0])), (q7, .inl ((G.2.1 0), 10, .inl (fun j : Nat => 0)))] H := hP
  have hD : va_D A [(h0, .inr (5, [.ref q7, .null, .null, .int 0])), (q7, .inl ((G.2.1 0), 10, .inl (fun j : Nat => 0)))] := hD
  refine lv_aload_n hx hb dX5_init_12 rfl (lv_at hl 0 rfl) ?_
  refine lv_bipush hx hb dX5_init_13 rfl ?_
  refine zz_newa (atype := .int) (ty := .int) (a0 := (10, .inl (fun j : Nat => 0))) hx hb (hts (.arrayClass .int) (by decide +kernel)) rfl hK hP hD hS hA (i := 0) rfl (fun cA => rfl) (by decide) rfl (Nat.le_of_ble_eq_true rfl) (by decide) (by decide) dX5_init_15 (fun q15 H hP hD hS => ?_)
  have hP : va_P G.1 vwCl [(h0, .inr (5, [.ref q7, .null, .null, .int 0])), (q7, .inl ((G.2.1 0), 10, .inl (fun j : Nat => 0))), (q15, .inl ((G.2.1 0), 10, .inl (fun j : Nat => 0)))] H := hP
  have hD : va_D A [(h0, .inr (5, [.ref q7, .null, .null, .int 0])), (q7, .inl ((G.2.1 0), 10, .inl (fun j : Nat => 0))), (q15, .inl ((G.2.1 0), 10, .inl (fun j : Nat => 0)))] := hD
  have hi_17 : True := trivial
  refine va_putF (D := G.1) (ci := 5) (v := .ref q15) (ty := .array .int) (C := RX5) (T := TX5) (N := 4) hx hb hts (by decide +kernel) tyX5 tyX5_ok nmX5 hown hK hP hD hS 0 rfl rfl 1 (by decide) (hts (.fieldLink RX5 15 "Stresswork$Steps" "firstBar" "[I") (by decide +kernel)) (fun _ h9 => h9) rfl hin rfl (by decide +kernel) rfl rfl (Nat.le_of_ble_eq_true rfl) dX5_init_17 (fun H locs hP hD hS => ?_)
  have hP : va_P G.1 vwCl [(h0, .inr (5, [.ref q7, .ref q15, .null, .int 0])), (q7, .inl ((G.2.1 0), 10, .inl (fun j : Nat => 0))), (q15, .inl ((G.2.1 0), 10, .inl (fun j : Nat => 0)))] H := hP
  have hD : va_D A [(h0, .inr (5, [.ref q7, .ref q15, .null, .int 0])), (q7, .inl ((G.2.1 0), 10, .inl (fun j : Nat => 0))), (q15, .inl ((G.2.1 0), 10, .inl (fun j : Nat => 0)))] := hD
  refine lv_aload_n hx hb dX5_init_20 rfl (lv_at hl 0 rfl) ?_
  refine lv_bipush hx hb dX5_init_21 rfl ?_
  refine zz_newa (atype := .int) (ty := .int) (a0 := (10, .inl (fun j : Nat => 0))) hx hb (hts (.arrayClass .int) (by decide +kernel)) rfl hK hP hD hS hA (i := 0) rfl (fun cA => rfl) (by decide) rfl (Nat.le_of_ble_eq_true rfl) (by decide) (by decide) dX5_init_23 (fun q23 H hP hD hS => ?_)
  have hP : va_P G.1 vwCl [(h0, .inr (5, [.ref q7, .ref q15, .null, .int 0])), (q7, .inl ((G.2.1 0), 10, .inl (fun j : Nat => 0))), (q15, .inl ((G.2.1 0), 10, .inl (fun j : Nat => 0))), (q23, .inl ((G.2.1 0), 10, .inl (fun j : Nat => 0)))] H := hP
  have hD : va_D A [(h0, .inr (5, [.ref q7, .ref q15, .null, .int 0])), (q7, .inl ((G.2.1 0), 10, .inl (fun j : Nat => 0))), (q15, .inl ((G.2.1 0), 10, .inl (fun j : Nat => 0))), (q23, .inl ((G.2.1 0), 10, .inl (fun j : Nat => 0)))] := hD
  have hi_25 : True := trivial
  refine va_putF (D := G.1) (ci := 5) (v := .ref q23) (ty := .array .int) (C := RX5) (T := TX5) (N := 4) hx hb hts (by decide +kernel) tyX5 tyX5_ok nmX5 hown hK hP hD hS 0 rfl rfl 2 (by decide) (hts (.fieldLink RX5 18 "Stresswork$Steps" "splitMember" "[I") (by decide +kernel)) (fun _ h9 => h9) rfl hin rfl (by decide +kernel) rfl rfl (Nat.le_of_ble_eq_true rfl) dX5_init_25 (fun H locs hP hD hS => ?_)
  have hP : va_P G.1 vwCl [(h0, .inr (5, [.ref q7, .ref q15, .ref q23, .int 0])), (q7, .inl ((G.2.1 0), 10, .inl (fun j : Nat => 0))), (q15, .inl ((G.2.1 0), 10, .inl (fun j : Nat => 0))), (q23, .inl ((G.2.1 0), 10, .inl (fun j : Nat => 0)))] H := hP
  have hD : va_D A [(h0, .inr (5, [.ref q7, .ref q15, .ref q23, .int 0])), (q7, .inl ((G.2.1 0), 10, .inl (fun j : Nat => 0))), (q15, .inl ((G.2.1 0), 10, .inl (fun j : Nat => 0))), (q23, .inl ((G.2.1 0), 10, .inl (fun j : Nat => 0)))] := hD
  refine lv_aload_n hx hb dX5_init_28 rfl (lv_at hl 0 rfl) ?_
  refine lv_iconst hx hb dX5_init_29 rfl ?_
  have hi_30 : True := trivial
  refine va_put (D := G.1) (ci := 5) (v := .int 0) (ty := .int) (C := RX5) (T := TX5) (N := 4) hx hb hts (by decide +kernel) tyX5 tyX5_ok nmX5 hown hK hP hD hS 0 rfl rfl 3 (by decide) (hts (.fieldLink RX5 21 "Stresswork$Steps" "count" "I") (by decide +kernel)) (fun _ h9 => h9) rfl (by decide +kernel) rfl rfl (Nat.le_of_ble_eq_true rfl) dX5_init_30 (fun H locs hP hD hS => ?_)
  have hP : va_P G.1 vwCl [(h0, .inr (5, [.ref q7, .ref q15, .ref q23, .int 0])), (q7, .inl ((G.2.1 0), 10, .inl (fun j : Nat => 0))), (q15, .inl ((G.2.1 0), 10, .inl (fun j : Nat => 0))), (q23, .inl ((G.2.1 0), 10, .inl (fun j : Nat => 0)))] H := hP
  have hD : va_D A [(h0, .inr (5, [.ref q7, .ref q15, .ref q23, .int 0])), (q7, .inl ((G.2.1 0), 10, .inl (fun j : Nat => 0))), (q15, .inl ((G.2.1 0), 10, .inl (fun j : Nat => 0))), (q23, .inl ((G.2.1 0), 10, .inl (fun j : Nat => 0)))] := hD
  exact W.vret hx hb hr (fun t ht hW => ⟨⟨[q7, q15, q23], rfl, trivial, q7, q15, q23, rfl, by rw [ht]; exact hP, hD⟩, hS.F ht⟩) hS.2.2 dX5_init_33

set_option maxHeartbeats 8000000 in
set_option maxRecDepth 100000 in
theorem ct_X2 (l : Launch) (G : Gp) (h0 sz : Nat) : Met l yX2_init wsX2_init ({ frames := 2, cells := 3, slots := 30, locals := 40 }) (va_Pc [.ref h0] (fun U => U.heap.size = sz ∧ va_P G.1 vwCl [(h0, .inr (2, [.null, .null, .null, .int 0]))] U.heap ∧ va_K G.1 vwCl (tysC G) U ∧ va_D (fun _ => True) [(h0, .inr (2, [.null, .null, .null, .int 0]))])) (va_Qv (fun _ : List Nat => True) (fun u t => ∃ q7 q15 q23 : Nat, u = [q7, q15, q23] ∧ va_P G.1 vwCl [(h0, .inr (2, [.ref q7, .ref q15, .ref q23, .int 0])), (q7, .inl ((G.2.1 0), 10, .inl (fun j : Nat => 0))), (q15, .inl ((G.2.1 0), 10, .inl (fun j : Nat => 0))), (q23, .inl ((G.2.1 0), 10, .inl (fun j : Nat => 0)))] t.heap ∧ va_D (va_A [(h0, .inr (2, [.null, .null, .null, .int 0]))] sz) [(h0, .inr (2, [.ref q7, .ref q15, .ref q23, .int 0])), (q7, .inl ((G.2.1 0), 10, .inl (fun j : Nat => 0))), (q15, .inl ((G.2.1 0), 10, .inl (fun j : Nat => 0))), (q23, .inl ((G.2.1 0), 10, .inl (fun j : Nat => 0)))]) (va_A [(h0, .inr (2, [.null, .null, .null, .int 0]))] sz)) 3 30 (va_A [(h0, .inr (2, [.null, .null, .null, .int 0]))] sz) := by
  refine Met.ofW (cc := cX2_init) (maxL := 1) (ret := none) (by decide) rfl ?_
  intro p e s m args below meth c s₁ B hml hv
  obtain ⟨rfl, hsz, hP, hK, hD0⟩ := hv
  have hx := B.exec
  have hb := B.bytes
  have hr := B.returns
  have hts := atoms_spec (ws := wsX2_init) B.pre
  have hown : s.vm.findClass RX2 = some m.cls := findClass_of_methodNamed B.named
  have hlocks := B.notSynchronized
  have hin : meth.name = "<init>" := (name_of_methodNamed B.named B.method).1
  subst hsz
  have hD := hD0.self (sz := s.heap.size)
  generalize hAe : va_A [(h0, .inr (2, [.null, .null, .null, .int 0]))] s.heap.size = A at hD ⊢
  have hA : ∀ q : Nat, s.heap.size ≤ q → A q := fun q h => by rw [← hAe]; exact Or.inr h
  have hS : va_S A s.heap s.heap [] := va_S.rf
  have hl := lv_entry ([.ref h0]) (n := 1) (Nat.le_of_ble_eq_true rfl)
  rw [lg_entry_eq]
  generalize (lg_sl ([.ref h0]) ++ List.replicate (1 - (lg_sl ([.ref h0])).length) Slot.unset).toArray = ls at hl ⊢
  have hl : lv_has ls 1 [(0, .ref h0)] := hl
  refine lv_aload_n hx hb dX2_init_0 rfl (lv_at hl 0 rfl) ?_
  refine W.objInit hx hb hown (hts (.methodLink RX2 3 objectInit) (by decide +kernel)) (hts (.instanceMethod objectInit) (by decide +kernel)) (hts _ (List.mem_cons_of_mem _ (List.mem_append_left _ (List.mem_of_getElem? (i := 2) rfl)))) rfl (by rw [hml]; exact hl.1) rfl dX2_init_1 (Nat.le_of_ble_eq_true rfl) (Nat.le_of_ble_eq_true rfl) ?_
  refine W.eq (g2 := F0 m 4 ls []) rfl ?_
  refine lv_aload_n hx hb dX2_init_4 rfl (lv_at hl 0 rfl) ?_
  refine lv_bipush hx hb dX2_init_5 rfl ?_
  refine zz_newa (atype := .int) (ty := .int) (a0 := (10, .inl (fun j : Nat => 0))) hx hb (hts (.arrayClass .int) (by decide +kernel)) rfl hK hP hD hS hA (i := 0) rfl (fun cA => rfl) (by decide) rfl (Nat.le_of_ble_eq_true rfl) (by decide) (by decide) dX2_init_7 (fun q7 H hP hD hS => ?_)
  have hP : va_P G.1 vwCl [(h0, .inr (2, [.null, .null, .null, .int 0])), (q7, .inl ((G.2.1 0), 10, .inl (fun j : Nat => 0)))] H := hP
  have hD : va_D A [(h0, .inr (2, [.null, .null, .null, .int 0])), (q7, .inl ((G.2.1 0), 10, .inl (fun j : Nat => 0)))] := hD
  have hi_9 : True := trivial
  refine va_putF (D := G.1) (ci := 2) (v := .ref q7) (ty := .array .int) (C := RX2) (T := TX2) (N := 4) hx hb hts (by decide +kernel) tyX2 tyX2_ok nmX2 hown hK hP hD hS 0 rfl rfl 0 (by decide) (hts (.fieldLink RX2 9 "Stresswork$Layout" "x" "[I") (by decide +kernel)) (fun _ h9 => h9) rfl hin rfl (by decide +kernel) rfl rfl (Nat.le_of_ble_eq_true rfl) dX2_init_9 (fun H locs hP hD hS => ?_)
  have hP : va_P G.1 vwCl [(h0, .inr (2, [.ref q7, .null, .null, .int 0])), (q7, .inl ((G.2.1 0), 10, .inl (fun j : Nat => 0)))] H := hP
  have hD : va_D A [(h0, .inr (2, [.ref q7, .null, .null, .int 0])), (q7, .inl ((G.2.1 0), 10, .inl (fun j : Nat => 0)))] := hD
  refine lv_aload_n hx hb dX2_init_12 rfl (lv_at hl 0 rfl) ?_
  refine lv_bipush hx hb dX2_init_13 rfl ?_
  refine zz_newa (atype := .int) (ty := .int) (a0 := (10, .inl (fun j : Nat => 0))) hx hb (hts (.arrayClass .int) (by decide +kernel)) rfl hK hP hD hS hA (i := 0) rfl (fun cA => rfl) (by decide) rfl (Nat.le_of_ble_eq_true rfl) (by decide) (by decide) dX2_init_15 (fun q15 H hP hD hS => ?_)
  have hP : va_P G.1 vwCl [(h0, .inr (2, [.ref q7, .null, .null, .int 0])), (q7, .inl ((G.2.1 0), 10, .inl (fun j : Nat => 0))), (q15, .inl ((G.2.1 0), 10, .inl (fun j : Nat => 0)))] H := hP
  have hD : va_D A [(h0, .inr (2, [.ref q7, .null, .null, .int 0])), (q7, .inl ((G.2.1 0), 10, .inl (fun j : Nat => 0))), (q15, .inl ((G.2.1 0), 10, .inl (fun j : Nat => 0)))] := hD
  have hi_17 : True := trivial
  refine va_putF (D := G.1) (ci := 2) (v := .ref q15) (ty := .array .int) (C := RX2) (T := TX2) (N := 4) hx hb hts (by decide +kernel) tyX2 tyX2_ok nmX2 hown hK hP hD hS 0 rfl rfl 1 (by decide) (hts (.fieldLink RX2 15 "Stresswork$Layout" "y" "[I") (by decide +kernel)) (fun _ h9 => h9) rfl hin rfl (by decide +kernel) rfl rfl (Nat.le_of_ble_eq_true rfl) dX2_init_17 (fun H locs hP hD hS => ?_)
  have hP : va_P G.1 vwCl [(h0, .inr (2, [.ref q7, .ref q15, .null, .int 0])), (q7, .inl ((G.2.1 0), 10, .inl (fun j : Nat => 0))), (q15, .inl ((G.2.1 0), 10, .inl (fun j : Nat => 0)))] H := hP
  have hD : va_D A [(h0, .inr (2, [.ref q7, .ref q15, .null, .int 0])), (q7, .inl ((G.2.1 0), 10, .inl (fun j : Nat => 0))), (q15, .inl ((G.2.1 0), 10, .inl (fun j : Nat => 0)))] := hD
  refine lv_aload_n hx hb dX2_init_20 rfl (lv_at hl 0 rfl) ?_
  refine lv_bipush hx hb dX2_init_21 rfl ?_
  refine zz_newa (atype := .int) (ty := .int) (a0 := (10, .inl (fun j : Nat => 0))) hx hb (hts (.arrayClass .int) (by decide +kernel)) rfl hK hP hD hS hA (i := 0) rfl (fun cA => rfl) (by decide) rfl (Nat.le_of_ble_eq_true rfl) (by decide) (by decide) dX2_init_23 (fun q23 H hP hD hS => ?_)
  have hP : va_P G.1 vwCl [(h0, .inr (2, [.ref q7, .ref q15, .null, .int 0])), (q7, .inl ((G.2.1 0), 10, .inl (fun j : Nat => 0))), (q15, .inl ((G.2.1 0), 10, .inl (fun j : Nat => 0))), (q23, .inl ((G.2.1 0), 10, .inl (fun j : Nat => 0)))] H := hP
  have hD : va_D A [(h0, .inr (2, [.ref q7, .ref q15, .null, .int 0])), (q7, .inl ((G.2.1 0), 10, .inl (fun j : Nat => 0))), (q15, .inl ((G.2.1 0), 10, .inl (fun j : Nat => 0))), (q23, .inl ((G.2.1 0), 10, .inl (fun j : Nat => 0)))] := hD
  have hi_25 : True := trivial
  refine va_putF (D := G.1) (ci := 2) (v := .ref q23) (ty := .array .int) (C := RX2) (T := TX2) (N := 4) hx hb hts (by decide +kernel) tyX2 tyX2_ok nmX2 hown hK hP hD hS 0 rfl rfl 2 (by decide) (hts (.fieldLink RX2 18 "Stresswork$Layout" "column" "[I") (by decide +kernel)) (fun _ h9 => h9) rfl hin rfl (by decide +kernel) rfl rfl (Nat.le_of_ble_eq_true rfl) dX2_init_25 (fun H locs hP hD hS => ?_)
  have hP : va_P G.1 vwCl [(h0, .inr (2, [.ref q7, .ref q15, .ref q23, .int 0])), (q7, .inl ((G.2.1 0), 10, .inl (fun j : Nat => 0))), (q15, .inl ((G.2.1 0), 10, .inl (fun j : Nat => 0))), (q23, .inl ((G.2.1 0), 10, .inl (fun j : Nat => 0)))] H := hP
  have hD : va_D A [(h0, .inr (2, [.ref q7, .ref q15, .ref q23, .int 0])), (q7, .inl ((G.2.1 0), 10, .inl (fun j : Nat => 0))), (q15, .inl ((G.2.1 0), 10, .inl (fun j : Nat => 0))), (q23, .inl ((G.2.1 0), 10, .inl (fun j : Nat => 0)))] := hD
  refine lv_aload_n hx hb dX2_init_28 rfl (lv_at hl 0 rfl) ?_
  refine lv_iconst hx hb dX2_init_29 rfl ?_
  have hi_30 : True := trivial
  refine va_put (D := G.1) (ci := 2) (v := .int 0) (ty := .int) (C := RX2) (T := TX2) (N := 4) hx hb hts (by decide +kernel) tyX2 tyX2_ok nmX2 hown hK hP hD hS 0 rfl rfl 3 (by decide) (hts (.fieldLink RX2 21 "Stresswork$Layout" "width" "I") (by decide +kernel)) (fun _ h9 => h9) rfl (by decide +kernel) rfl rfl (Nat.le_of_ble_eq_true rfl) dX2_init_30 (fun H locs hP hD hS => ?_)
  have hP : va_P G.1 vwCl [(h0, .inr (2, [.ref q7, .ref q15, .ref q23, .int 0])), (q7, .inl ((G.2.1 0), 10, .inl (fun j : Nat => 0))), (q15, .inl ((G.2.1 0), 10, .inl (fun j : Nat => 0))), (q23, .inl ((G.2.1 0), 10, .inl (fun j : Nat => 0)))] H := hP
  have hD : va_D A [(h0, .inr (2, [.ref q7, .ref q15, .ref q23, .int 0])), (q7, .inl ((G.2.1 0), 10, .inl (fun j : Nat => 0))), (q15, .inl ((G.2.1 0), 10, .inl (fun j : Nat => 0))), (q23, .inl ((G.2.1 0), 10, .inl (fun j : Nat => 0)))] := hD
  exact W.vret hx hb hr (fun t ht hW => ⟨⟨[q7, q15, q23], rfl, trivial, q7, q15, q23, rfl, by rw [ht]; exact hP, hD⟩, hS.F ht⟩) hS.2.2 dX2_init_33
end CTOR
