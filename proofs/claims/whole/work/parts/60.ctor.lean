/-! CONSTRUCTORS -/
section CTOR
set_option maxHeartbeats 1000000 in
theorem zz_newa {p : Program} {l : Launch} {e : Env} {s : State} {m : MethodId} {args : Array Value} {below : List Frame} {meth : Method} {c : Code} {R : Room} {Q : State → Prop} {H H0 : Heap} {locs : List Loc} {cells slots pc : Nat} {ls : Array Slot} {rest : List Value} {A : Nat → Prop} {D : va_G} {cl : List vw_C} {tys : List (ClassId × FieldType)} {ws : va_W} {cc : ByteArray} (hexec : p.tables.exec = Jvm.exec) (hb : c.code = cc) {atype : ArrayType} (harr : (Cond.arrayClass (newarray.typeOf atype)).before args s = true) {ty : FieldType} (hty : newarray.typeOf atype = ty) (hK : va_K D cl tys s) (hP : va_P D cl ws H) (hD : va_D A ws) (hS : va_S A H0 H locs) (hA : ∀ q, H0.size ≤ q → A q) {i : Nat} {cK : ClassId} (hi : tys[i]? = some (cK, ty))
    {n : Int32} {N' : Nat} {a0 : vp_A} (ha : ∀ cA : ClassId, vp_cell cA a0 = arrV cA N' (fun _ => defaultValue ty)) (hn : ¬ n < 0) (hN : n.toNatClampNeg = N') (hbytes : N' * componentBytes ty ≤ 536870912) (hcells : cells + 1 ≤ R.cells) (hslots : slots + N' ≤ R.slots) (hdg : decode cc pc = .ok (.newarray atype, 2))
    (kk : ∀ (q : Nat) (H1 : Heap), va_P D cl (ws ++ [(q, .inl (cK, a0))]) H1 → va_D A (ws ++ [(q, .inl (cK, a0))]) → va_S A H0 H1 locs →
      W p l e R s m args below meth c H1 locs (cells + 1) (slots + N') Q (F0 m (pc + 2) ls (.ref q :: rest))) : W p l e R s m args below meth c H locs cells slots Q (F0 m pc ls (.int n :: rest)) := by
  refine va_newa hexec hb harr hty hK hP hD hS hA ha hn hN hbytes hcells hslots hdg fun q cA H1 hK1 hP1 hD1 hS1 => ?_
  have h1 := (hK.2 i _ hi).2
  have h2 := (hK1.2 tys.length (cA, ty) (by rw [List.getElem?_append_right (Nat.le_refl _), Nat.sub_self]; rfl)).2
  have e : cA = cK := by
    subst hty
    cases atype <;> exact Option.some.inj (h2.symm.trans h1)
  subst e
  exact kk q H1 hP1 hD1 hS1
set_option maxHeartbeats 4000000 in
set_option maxRecDepth 100000 in
theorem ct_X4 (l : Launch) (G : Gp) (h0 sz : Nat) : Met l yX4_init wsX4_init ({ frames := 2, cells := 3, slots := 40, locals := 40 }) (va_Pc [.ref h0] (fun U => U.heap.size = sz ∧ va_P G.1 vwCl [(h0, .inr (4, [.null, .null, .null]))] U.heap ∧ va_K G.1 vwCl (tysC G) U ∧ va_D (fun _ => True) [(h0, .inr (4, [.null, .null, .null]))])) (va_Qv (fun _ : List Nat => True) (fun u t => ∃ q7 q15 q23 : Nat, u = [q7, q15, q23] ∧ va_P G.1 vwCl [(h0, .inr (4, [.ref q7, .ref q15, .ref q23])), (q7, .inl ((G.2.1 0), 20, .inl (fun j : Nat => 0))), (q15, .inl ((G.2.1 0), 10, .inl (fun j : Nat => 0))), (q23, .inl ((G.2.1 0), 10, .inl (fun j : Nat => 0)))] t.heap ∧ va_D (va_A [(h0, .inr (4, [.null, .null, .null]))] sz) [(h0, .inr (4, [.ref q7, .ref q15, .ref q23])), (q7, .inl ((G.2.1 0), 20, .inl (fun j : Nat => 0))), (q15, .inl ((G.2.1 0), 10, .inl (fun j : Nat => 0))), (q23, .inl ((G.2.1 0), 10, .inl (fun j : Nat => 0)))]) (va_A [(h0, .inr (4, [.null, .null, .null]))] sz)) 3 40 (va_A [(h0, .inr (4, [.null, .null, .null]))] sz) := by
  refine Met.ofW (cc := cX4_init) (maxL := 1) (ret := none) (by decide) rfl ?_
  intro p e s m args below meth c s₁ B hml hv
  obtain ⟨rfl, hsz, hP, hK, hD0⟩ := hv
  have hx := B.exec
  have hb := B.bytes
  have hr := B.returns
  have hts := atoms_spec (ws := wsX4_init) B.pre
  have hown : s.vm.findClass RX4 = some m.cls := findClass_of_methodNamed B.named
  have hlocks := B.notSynchronized
  have hin : meth.name = "<init>" := (name_of_methodNamed B.named B.method).1
  subst hsz
  have hD := hD0.self (sz := s.heap.size)
  generalize hAe : va_A [(h0, .inr (4, [.null, .null, .null]))] s.heap.size = A at hD ⊢
  have hA : ∀ q : Nat, s.heap.size ≤ q → A q := fun q h => by rw [← hAe]; exact Or.inr h
  have hS : va_S A s.heap s.heap [] := va_S.rf
  have hl := lv_entry ([.ref h0]) (n := 1) (Nat.le_of_ble_eq_true rfl)
  rw [lg_entry_eq]
  generalize (lg_sl ([.ref h0]) ++ List.replicate (1 - (lg_sl ([.ref h0])).length) Slot.unset).toArray = ls at hl ⊢
  have hl : lv_has ls 1 [(0, .ref h0)] := hl
  refine lv_aload_n hx hb dX4_init_0 rfl (lv_at hl 0 rfl) ?_
  refine W.objInit hx hb hown (hts (.methodLink RX4 3 objectInit) (by decide +kernel)) (hts (.instanceMethod objectInit) (by decide +kernel)) (hts _ (List.mem_cons_of_mem _ (List.mem_append_left _ (List.mem_of_getElem? (i := 2) rfl)))) rfl (by rw [hml]; exact hl.1) rfl dX4_init_1 (Nat.le_of_ble_eq_true rfl) (Nat.le_of_ble_eq_true rfl) ?_
  refine W.eq (g2 := F0 m 4 ls []) rfl ?_
  refine lv_aload_n hx hb dX4_init_4 rfl (lv_at hl 0 rfl) ?_
  refine lv_bipush hx hb dX4_init_5 rfl ?_
  refine zz_newa (atype := .int) (ty := .int) (a0 := (20, .inl (fun j : Nat => 0))) hx hb (hts (.arrayClass .int) (by decide +kernel)) rfl hK hP hD hS hA (i := 0) rfl (fun cA => rfl) (by decide) rfl (Nat.le_of_ble_eq_true rfl) (by decide) (by decide) dX4_init_7 (fun q7 H hP hD hS => ?_)
  have hP : va_P G.1 vwCl [(h0, .inr (4, [.null, .null, .null])), (q7, .inl ((G.2.1 0), 20, .inl (fun j : Nat => 0)))] H := hP
  have hD : va_D A [(h0, .inr (4, [.null, .null, .null])), (q7, .inl ((G.2.1 0), 20, .inl (fun j : Nat => 0)))] := hD
  have hi_9 : True := trivial
  refine va_putF (D := G.1) (ci := 4) (v := .ref q7) (ty := .array .int) (C := RX4) (T := TX4) (N := 3) hx hb hts (by decide +kernel) tyX4 tyX4_ok nmX4 hown hK hP hD hS 0 rfl rfl 0 (by decide) (hts (.fieldLink RX4 9 "Stresswork$Pebbles" "leadsTo" "[I") (by decide +kernel)) (fun _ h9 => h9) rfl hin rfl (by decide +kernel) rfl rfl (Nat.le_of_ble_eq_true rfl) dX4_init_9 (fun H locs hP hD hS => ?_)
  have hP : va_P G.1 vwCl [(h0, .inr (4, [.ref q7, .null, .null])), (q7, .inl ((G.2.1 0), 20, .inl (fun j : Nat => 0)))] H := hP
  have hD : va_D A [(h0, .inr (4, [.ref q7, .null, .null])), (q7, .inl ((G.2.1 0), 20, .inl (fun j : Nat => 0)))] := hD
  refine lv_aload_n hx hb dX4_init_12 rfl (lv_at hl 0 rfl) ?_
  refine lv_bipush hx hb dX4_init_13 rfl ?_
  refine zz_newa (atype := .int) (ty := .int) (a0 := (10, .inl (fun j : Nat => 0))) hx hb (hts (.arrayClass .int) (by decide +kernel)) rfl hK hP hD hS hA (i := 0) rfl (fun cA => rfl) (by decide) rfl (Nat.le_of_ble_eq_true rfl) (by decide) (by decide) dX4_init_15 (fun q15 H hP hD hS => ?_)
  have hP : va_P G.1 vwCl [(h0, .inr (4, [.ref q7, .null, .null])), (q7, .inl ((G.2.1 0), 20, .inl (fun j : Nat => 0))), (q15, .inl ((G.2.1 0), 10, .inl (fun j : Nat => 0)))] H := hP
  have hD : va_D A [(h0, .inr (4, [.ref q7, .null, .null])), (q7, .inl ((G.2.1 0), 20, .inl (fun j : Nat => 0))), (q15, .inl ((G.2.1 0), 10, .inl (fun j : Nat => 0)))] := hD
  have hi_17 : True := trivial
  refine va_putF (D := G.1) (ci := 4) (v := .ref q15) (ty := .array .int) (C := RX4) (T := TX4) (N := 3) hx hb hts (by decide +kernel) tyX4 tyX4_ok nmX4 hown hK hP hD hS 0 rfl rfl 1 (by decide) (hts (.fieldLink RX4 15 "Stresswork$Pebbles" "cameBy" "[I") (by decide +kernel)) (fun _ h9 => h9) rfl hin rfl (by decide +kernel) rfl rfl (Nat.le_of_ble_eq_true rfl) dX4_init_17 (fun H locs hP hD hS => ?_)
  have hP : va_P G.1 vwCl [(h0, .inr (4, [.ref q7, .ref q15, .null])), (q7, .inl ((G.2.1 0), 20, .inl (fun j : Nat => 0))), (q15, .inl ((G.2.1 0), 10, .inl (fun j : Nat => 0)))] H := hP
  have hD : va_D A [(h0, .inr (4, [.ref q7, .ref q15, .null])), (q7, .inl ((G.2.1 0), 20, .inl (fun j : Nat => 0))), (q15, .inl ((G.2.1 0), 10, .inl (fun j : Nat => 0)))] := hD
  refine lv_aload_n hx hb dX4_init_20 rfl (lv_at hl 0 rfl) ?_
  refine lv_bipush hx hb dX4_init_21 rfl ?_
  refine zz_newa (atype := .int) (ty := .int) (a0 := (10, .inl (fun j : Nat => 0))) hx hb (hts (.arrayClass .int) (by decide +kernel)) rfl hK hP hD hS hA (i := 0) rfl (fun cA => rfl) (by decide) rfl (Nat.le_of_ble_eq_true rfl) (by decide) (by decide) dX4_init_23 (fun q23 H hP hD hS => ?_)
  have hP : va_P G.1 vwCl [(h0, .inr (4, [.ref q7, .ref q15, .null])), (q7, .inl ((G.2.1 0), 20, .inl (fun j : Nat => 0))), (q15, .inl ((G.2.1 0), 10, .inl (fun j : Nat => 0))), (q23, .inl ((G.2.1 0), 10, .inl (fun j : Nat => 0)))] H := hP
  have hD : va_D A [(h0, .inr (4, [.ref q7, .ref q15, .null])), (q7, .inl ((G.2.1 0), 20, .inl (fun j : Nat => 0))), (q15, .inl ((G.2.1 0), 10, .inl (fun j : Nat => 0))), (q23, .inl ((G.2.1 0), 10, .inl (fun j : Nat => 0)))] := hD
  have hi_25 : True := trivial
  refine va_putF (D := G.1) (ci := 4) (v := .ref q23) (ty := .array .int) (C := RX4) (T := TX4) (N := 3) hx hb hts (by decide +kernel) tyX4 tyX4_ok nmX4 hown hK hP hD hS 0 rfl rfl 2 (by decide) (hts (.fieldLink RX4 18 "Stresswork$Pebbles" "queue" "[I") (by decide +kernel)) (fun _ h9 => h9) rfl hin rfl (by decide +kernel) rfl rfl (Nat.le_of_ble_eq_true rfl) dX4_init_25 (fun H locs hP hD hS => ?_)
  have hP : va_P G.1 vwCl [(h0, .inr (4, [.ref q7, .ref q15, .ref q23])), (q7, .inl ((G.2.1 0), 20, .inl (fun j : Nat => 0))), (q15, .inl ((G.2.1 0), 10, .inl (fun j : Nat => 0))), (q23, .inl ((G.2.1 0), 10, .inl (fun j : Nat => 0)))] H := hP
  have hD : va_D A [(h0, .inr (4, [.ref q7, .ref q15, .ref q23])), (q7, .inl ((G.2.1 0), 20, .inl (fun j : Nat => 0))), (q15, .inl ((G.2.1 0), 10, .inl (fun j : Nat => 0))), (q23, .inl ((G.2.1 0), 10, .inl (fun j : Nat => 0)))] := hD
  exact W.vret hx hb hr (fun t ht hW => ⟨⟨[q7, q15, q23], rfl, trivial, q7, q15, q23, rfl, by rw [ht]; exact hP, hD⟩, hS.F ht⟩) hS.2.2 dX4_init_28

end CTOR
