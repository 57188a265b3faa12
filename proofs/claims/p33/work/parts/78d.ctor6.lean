/-! CONSTRUCTOR of the class: six parts are made, then all cells lie as wC has them, with zeros -/
section CTOR6
def dX1 (G : Gp) (h a b c d : Nat) : va_W := [(h, .inr (1, [.ref a, .ref b, .ref c, .ref d, .int 0])), (a, .inl ((G.2.1 0), 10, .inl (fun j : Nat => 0))), (b, .inl ((G.2.1 0), 10, .inl (fun j : Nat => 0))), (c, .inl ((G.2.1 1), 10, .inl (fun j : Nat => 0))), (d, .inl ((G.2.1 0), 10, .inl (fun j : Nat => 0)))]
def dX3 (G : Gp) (h a b c d e : Nat) : va_W := [(h, .inr (3, [.ref a, .ref b, .ref c, .ref d, .ref e, .int 0])), (a, .inl ((G.2.1 0), 40, .inl (fun j : Nat => 0))), (b, .inl ((G.2.1 0), 40, .inl (fun j : Nat => 0))), (c, .inl ((G.2.1 0), 40, .inl (fun j : Nat => 0))), (d, .inl ((G.2.1 0), 40, .inl (fun j : Nat => 0))), (e, .inl ((G.2.1 1), 40, .inl (fun j : Nat => 0)))]
def dX5 (G : Gp) (h a b c : Nat) : va_W := [(h, .inr (5, [.ref a, .ref b, .ref c, .int 0])), (a, .inl ((G.2.1 0), 10, .inl (fun j : Nat => 0))), (b, .inl ((G.2.1 0), 10, .inl (fun j : Nat => 0))), (c, .inl ((G.2.1 0), 10, .inl (fun j : Nat => 0)))]
def dX2 (G : Gp) (h a b c : Nat) : va_W := [(h, .inr (2, [.ref a, .ref b, .ref c, .int 0])), (a, .inl ((G.2.1 0), 10, .inl (fun j : Nat => 0))), (b, .inl ((G.2.1 0), 10, .inl (fun j : Nat => 0))), (c, .inl ((G.2.1 0), 10, .inl (fun j : Nat => 0)))]
def dX4 (G : Gp) (h a b c : Nat) : va_W := [(h, .inr (4, [.ref a, .ref b, .ref c])), (a, .inl ((G.2.1 0), 20, .inl (fun j : Nat => 0))), (b, .inl ((G.2.1 0), 10, .inl (fun j : Nat => 0))), (c, .inl ((G.2.1 0), 10, .inl (fun j : Nat => 0)))]
def dX0 (G : Gp) (h a b : Nat) (r : Nat → Nat) : va_W := ([(h, .inr (0, [.ref a, .ref b, .int 0, .int 0])), (a, .inl (G.2.1 3, 40, .inr (.inr (.inr (.inr (fun i => if i < 40 then some (r i) else none))))))] ++ (List.range 40).map (fun i => (r i, (.inl (G.2.1 2, 40, .inr (.inl (fun j : Nat => 0))) : va_E)))) ++ [(b, .inl (G.2.1 0, 40, .inl (fun j : Nat => 0)))]
theorem dX0_eq (G : Gp) (h a b : Nat) (r : Nat → Nat) : g0W G h a b r = dX0 G h a b r := by
  unfold g0W dX0 va_pl
  rw [List.map_map]
  refine congrArg (fun z => (_ ++ z) ++ _) (List.map_congr_left fun i hi => ?_)
  show (r i, vr_up _ _ _ (r i)) = _
  rw [vr_up_in (List.mem_map_of_mem hi)]
theorem va_AOA.moved {ty : FieldType} {u U : State} (hvm : u.vm.Alike U.vm) (h : va_AOA ty u) : va_AOA ty U := show (Cond.arrayOver (.array ty)).before #[] (u.setVm U.vm) = true by rw [Cond.arrayOver_setVmC hvm]; exact h
def adrC (L : List Nat) (r : Nat → Nat) : Nat → Nat := fun k => if k < 27 then L.getD k 0 else r (k - 27)
theorem adrC_row (L : List Nat) (r : Nat → Nat) (j : Nat) : adrC L r (27 + j) = r j := by
  unfold adrC
  rw [if_neg (by omega), Nat.add_sub_cancel_left]
def wCz (G : Gp) : va_W := [(G.2.2 0, .inr (6, [.ref (G.2.2 1), .ref (G.2.2 2), .ref (G.2.2 3), .ref (G.2.2 4), .ref (G.2.2 5), .ref (G.2.2 6), .long 0])),
  (G.2.2 1, .inr (1, [.ref (G.2.2 7), .ref (G.2.2 8), .ref (G.2.2 9), .ref (G.2.2 10), .int 0])),
  (G.2.2 2, .inr (3, [.ref (G.2.2 11), .ref (G.2.2 12), .ref (G.2.2 13), .ref (G.2.2 14), .ref (G.2.2 15), .int 0])),
  (G.2.2 3, .inr (5, [.ref (G.2.2 16), .ref (G.2.2 17), .ref (G.2.2 18), .int 0])),
  (G.2.2 4, .inr (2, [.ref (G.2.2 19), .ref (G.2.2 20), .ref (G.2.2 21), .int 0])),
  (G.2.2 5, .inr (0, [.ref (G.2.2 22), .ref (G.2.2 23), .int 0, .int 0])),
  (G.2.2 6, .inr (4, [.ref (G.2.2 24), .ref (G.2.2 25), .ref (G.2.2 26)])),
  (G.2.2 7, .inl (G.2.1 0, 10, .inl (fun j : Nat => 0))),
  (G.2.2 8, .inl (G.2.1 0, 10, .inl (fun j : Nat => 0))),
  (G.2.2 9, .inl (G.2.1 1, 10, .inl (fun j : Nat => 0))),
  (G.2.2 10, .inl (G.2.1 0, 10, .inl (fun j : Nat => 0))),
  (G.2.2 11, .inl (G.2.1 0, 40, .inl (fun j : Nat => 0))),
  (G.2.2 12, .inl (G.2.1 0, 40, .inl (fun j : Nat => 0))),
  (G.2.2 13, .inl (G.2.1 0, 40, .inl (fun j : Nat => 0))),
  (G.2.2 14, .inl (G.2.1 0, 40, .inl (fun j : Nat => 0))),
  (G.2.2 15, .inl (G.2.1 1, 40, .inl (fun j : Nat => 0))),
  (G.2.2 16, .inl (G.2.1 0, 10, .inl (fun j : Nat => 0))),
  (G.2.2 17, .inl (G.2.1 0, 10, .inl (fun j : Nat => 0))),
  (G.2.2 18, .inl (G.2.1 0, 10, .inl (fun j : Nat => 0))),
  (G.2.2 19, .inl (G.2.1 0, 10, .inl (fun j : Nat => 0))),
  (G.2.2 20, .inl (G.2.1 0, 10, .inl (fun j : Nat => 0))),
  (G.2.2 21, .inl (G.2.1 0, 10, .inl (fun j : Nat => 0))),
  (G.2.2 22, .inl (G.2.1 3, 40, .inr (.inr (.inr (.inr (fun j : Nat => if j < 40 then some (G.2.2 (27 + j)) else none)))))),
  (G.2.2 23, .inl (G.2.1 0, 40, .inl (fun j : Nat => 0))),
  (G.2.2 24, .inl (G.2.1 0, 20, .inl (fun j : Nat => 0))),
  (G.2.2 25, .inl (G.2.1 0, 10, .inl (fun j : Nat => 0))),
  (G.2.2 26, .inl (G.2.1 0, 10, .inl (fun j : Nat => 0)))]
  ++ (List.range 40).map (fun i : Nat => (G.2.2 (27 + i), (.inl (G.2.1 2, 40, .inr (.inl (fun j : Nat => 0))) : va_E)))
theorem wC_z (G : Gp) : wC G S0 = wCz G := by
  unfold wC wCz
  refine congr (congrArg HAppend.hAppend rfl) (List.map_congr_left fun i _ => ?_)
  have h : (fun j : Nat => if j < 40 then Int64.ofInt (S0 22 (40 * (i : Int) + (j : Int))) else 0) = fun j : Nat => (0 : Int64) := by
    funext j
    split <;> rfl
  rw [h]
def wCx (G : Gp) (h0 n1 n2 n3 n4 n5 n6 c7 c8 c9 c10 c11 c12 c13 c14 c15 c16 c17 c18 c19 c20 c21 c22 c23 c24 c25 c26 : Nat) (r : Nat → Nat) : va_W := [(h0, .inr (6, [.ref n1, .ref n2, .ref n3, .ref n4, .ref n5, .ref n6, .long 0])),
  (n1, .inr (1, [.ref c7, .ref c8, .ref c9, .ref c10, .int 0])),
  (n2, .inr (3, [.ref c11, .ref c12, .ref c13, .ref c14, .ref c15, .int 0])),
  (n3, .inr (5, [.ref c16, .ref c17, .ref c18, .int 0])),
  (n4, .inr (2, [.ref c19, .ref c20, .ref c21, .int 0])),
  (n5, .inr (0, [.ref c22, .ref c23, .int 0, .int 0])),
  (n6, .inr (4, [.ref c24, .ref c25, .ref c26])),
  (c7, .inl (G.2.1 0, 10, .inl (fun j : Nat => 0))),
  (c8, .inl (G.2.1 0, 10, .inl (fun j : Nat => 0))),
  (c9, .inl (G.2.1 1, 10, .inl (fun j : Nat => 0))),
  (c10, .inl (G.2.1 0, 10, .inl (fun j : Nat => 0))),
  (c11, .inl (G.2.1 0, 40, .inl (fun j : Nat => 0))),
  (c12, .inl (G.2.1 0, 40, .inl (fun j : Nat => 0))),
  (c13, .inl (G.2.1 0, 40, .inl (fun j : Nat => 0))),
  (c14, .inl (G.2.1 0, 40, .inl (fun j : Nat => 0))),
  (c15, .inl (G.2.1 1, 40, .inl (fun j : Nat => 0))),
  (c16, .inl (G.2.1 0, 10, .inl (fun j : Nat => 0))),
  (c17, .inl (G.2.1 0, 10, .inl (fun j : Nat => 0))),
  (c18, .inl (G.2.1 0, 10, .inl (fun j : Nat => 0))),
  (c19, .inl (G.2.1 0, 10, .inl (fun j : Nat => 0))),
  (c20, .inl (G.2.1 0, 10, .inl (fun j : Nat => 0))),
  (c21, .inl (G.2.1 0, 10, .inl (fun j : Nat => 0))),
  (c22, .inl (G.2.1 3, 40, .inr (.inr (.inr (.inr (fun j : Nat => if j < 40 then some (r j) else none)))))),
  (c23, .inl (G.2.1 0, 40, .inl (fun j : Nat => 0))),
  (c24, .inl (G.2.1 0, 20, .inl (fun j : Nat => 0))),
  (c25, .inl (G.2.1 0, 10, .inl (fun j : Nat => 0))),
  (c26, .inl (G.2.1 0, 10, .inl (fun j : Nat => 0)))]
  ++ (List.range 40).map (fun i : Nat => (r i, (.inl (G.2.1 2, 40, .inr (.inl (fun j : Nat => 0))) : va_E)))
theorem wC_x (G : Gp) (h0 n1 n2 n3 n4 n5 n6 c7 c8 c9 c10 c11 c12 c13 c14 c15 c16 c17 c18 c19 c20 c21 c22 c23 c24 c25 c26 : Nat) (r : Nat → Nat) : wC (G.1, G.2.1, adrC [h0, n1, n2, n3, n4, n5, n6, c7, c8, c9, c10, c11, c12, c13, c14, c15, c16, c17, c18, c19, c20, c21, c22, c23, c24, c25, c26] r) S0 = wCx G h0 n1 n2 n3 n4 n5 n6 c7 c8 c9 c10 c11 c12 c13 c14 c15 c16 c17 c18 c19 c20 c21 c22 c23 c24 c25 c26 r := by
  rw [wC_z]
  unfold wCz wCx
  simp only [adrC_row]
  rfl
def W6 (G : Gp) (h0 n1 n2 n3 n4 n5 n6 c7 c8 c9 c10 c11 c12 c13 c14 c15 c16 c17 c18 c19 c20 c21 c22 c23 c24 c25 c26 : Nat) (r : Nat → Nat) : va_W := (h0, .inr (6, [.ref n1, .ref n2, .ref n3, .ref n4, .ref n5, .ref n6, .long 0])) :: (((((([] ++ dX1 G n1 c7 c8 c9 c10) ++ dX3 G n2 c11 c12 c13 c14 c15) ++ dX5 G n3 c16 c17 c18) ++ dX2 G n4 c19 c20 c21) ++ dX0 G n5 c22 c23 r) ++ dX4 G n6 c24 c25 c26)
set_option maxRecDepth 100000 in
theorem W6_at (G : Gp) (h0 n1 n2 n3 n4 n5 n6 c7 c8 c9 c10 c11 c12 c13 c14 c15 c16 c17 c18 c19 c20 c21 c22 c23 c24 c25 c26 : Nat) (r : Nat → Nat) : [0, 1, 6, 12, 16, 20, 63, 2, 3, 4, 5, 7, 8, 9, 10, 11, 13, 14, 15, 17, 18, 19, 21, 62, 64, 65, 66, 22, 23, 24, 25, 26, 27, 28, 29, 30, 31, 32, 33, 34, 35, 36, 37, 38, 39, 40, 41, 42, 43, 44, 45, 46, 47, 48, 49, 50, 51, 52, 53, 54, 55, 56, 57, 58, 59, 60, 61].map (fun i => (W6 G h0 n1 n2 n3 n4 n5 n6 c7 c8 c9 c10 c11 c12 c13 c14 c15 c16 c17 c18 c19 c20 c21 c22 c23 c24 c25 c26 r)[i]?) = (wCx G h0 n1 n2 n3 n4 n5 n6 c7 c8 c9 c10 c11 c12 c13 c14 c15 c16 c17 c18 c19 c20 c21 c22 c23 c24 c25 c26 r).map some := rfl
set_option maxHeartbeats 16000000 in
set_option maxRecDepth 100000 in
theorem ct_X6 (l : Launch) (G : Gp) (h0 sz : Nat) : Met l yX6_init wsX6_init ({ frames := 3, cells := 66, slots := 2046, locals := 60 }) (va_Pc [.ref h0] (fun U => U.heap.size = sz ∧ va_P G.1 vwCl [(h0, .inr (6, [.null, .null, .null, .null, .null, .null, .long 0]))] U.heap ∧ va_K G.1 vwCl (tysC G) U ∧ va_D (fun _ => True) [(h0, .inr (6, [.null, .null, .null, .null, .null, .null, .long 0]))] ∧ va_AOA .long U ∧ ∀ q ∈ nests, va_Nw (.methodLinkNest q.1 q.2.1 q.2.2 "Stresswork") U)) (va_Qv (fun _ : Nat → Nat => True) (fun u t => u 0 = h0 ∧ va_P G.1 vwCl (wC (G.1, G.2.1, u) S0) t.heap ∧ va_D (va_A [(h0, .inr (6, [.null, .null, .null, .null, .null, .null, .long 0]))] sz) (wC (G.1, G.2.1, u) S0)) (va_A [(h0, .inr (6, [.null, .null, .null, .null, .null, .null, .long 0]))] sz)) 66 2046 (va_A [(h0, .inr (6, [.null, .null, .null, .null, .null, .null, .long 0]))] sz) := by
  refine Met.ofW (cc := cX6_init) (maxL := 1) (ret := none) (by decide) rfl ?_
  intro p e s m args below meth c s₁ B hml hv
  obtain ⟨rfl, hsz, hP, hK, hD0, hov, hN⟩ := hv
  have hx := B.exec
  have hb := B.bytes
  have hr := B.returns
  have hts := atoms_spec (ws := wsX6_init) B.pre
  have hown : s.vm.findClass RX6 = some m.cls := findClass_of_methodNamed B.named
  have hlocks := B.notSynchronized
  have hin : meth.name = "<init>" := (name_of_methodNamed B.named B.method).1
  subst hsz
  have hD := hD0.self (sz := s.heap.size)
  generalize hAe : va_A [(h0, .inr (6, [.null, .null, .null, .null, .null, .null, .long 0]))] s.heap.size = A at hD ⊢
  have hA : ∀ q : Nat, s.heap.size ≤ q → A q := fun q h => by rw [← hAe]; exact Or.inr h
  have hS : va_S A s.heap s.heap [] := va_S.rf
  have hl := lv_entry ([.ref h0]) (n := 1) (Nat.le_of_ble_eq_true rfl)
  rw [lg_entry_eq]
  generalize (lg_sl ([.ref h0]) ++ List.replicate (1 - (lg_sl ([.ref h0])).length) Slot.unset).toArray = ls at hl ⊢
  have hl : lv_has ls 1 [(0, .ref h0)] := hl
  refine lv_aload_n hx hb dX6_init_0 rfl (lv_at hl 0 rfl) ?_
  refine W.objInit hx hb hown (hts (.methodLink RX6 1 objectInit) (by decide +kernel)) (hts (.instanceMethod objectInit) (by decide +kernel)) (hts _ (List.mem_cons_of_mem _ (List.mem_append_left _ (List.mem_of_getElem? (i := 2) rfl)))) rfl (by rw [hml]; exact hl.1) rfl dX6_init_1 (Nat.le_of_ble_eq_true rfl) (Nat.le_of_ble_eq_true rfl) ?_
  refine W.eq (g2 := F0 m 4 ls []) rfl ?_
  have hP : va_P G.1 vwCl ((h0, .inr (6, [.null, .null, .null, .null, .null, .null, .long 0])) :: []) _ := hP
  have hD : va_D A ((h0, .inr (6, [.null, .null, .null, .null, .null, .null, .long 0])) :: []) := hD
  refine lv_aload_n hx hb dX6_init_4 rfl (lv_at hl 0 rfl) ?_
  refine va_new (ci := 1) (fs := [.null, .null, .null, .null, .int 0]) (C := RX1) (T := TX1) (N := 5) hx hb hts (by decide +kernel) tyX1 tyX1_ok hown (hts (.classLink RX6 7 RX1) (by decide +kernel)) (hts (.instantiable RX1 5) (by decide +kernel)) (hts (.initialized RX1) (by decide +kernel)) hK hP hD hS hA rfl (fun j hj => by rcases (show j = 0 ∨ j = 1 ∨ j = 2 ∨ j = 3 ∨ j = 4 by omega) with rfl | rfl | rfl | rfl | rfl <;> rfl) (Nat.le_of_ble_eq_true rfl) (Nat.le_of_ble_eq_true rfl) dX6_init_5 (fun n1 H hP hD hS => ?_)
  refine W.widen (k := 1) (n := 5) (Nat.le_of_ble_eq_true rfl) (Nat.le_of_ble_eq_true rfl) ?_
  refine lv_dup hx hb dX6_init_8 rfl ?_
  have hFc : ∀ q, va_A [(n1, .inr (1, [.null, .null, .null, .null, .int 0]))] H.size q → A q := zz_free hD hS hA
  refine va_callv (va_runIN (As := []) (rest := [.ref n1, .ref h0]) ⟨hx, hb, hml, hown, hts⟩ (ct_X1 l G n1 H.size) ⟨va_cnB 0 hts gX6_init_X1_init_n9 rfl rfl rfl (hN (RX6, 9, yX1_init) (by decide +kernel)) (hts (.initialized RX1) (by decide +kernel)) (by decide +kernel) ⟨Nat.le_of_ble_eq_true rfl, Nat.le_of_ble_eq_true rfl⟩, rfl, hts (.instanceMethod yX1_init) (by decide +kernel)⟩ ⟨fun a U g mk q => by obtain ⟨q0, q1, qP, qK, qD⟩ := q; exact ⟨q0, q1, qP, va_K.moved (u := U) (U := U.calling g mk a) (Vm.Alike.refl U.vm) qK, qD⟩, fun U hU hW => ⟨rfl, by rw [hU], by rw [hU]; exact zz_Pr hP, va_K.moved hW.alike hK, (zz_Dr hD).weaken (fun _ _ _ _ => trivial)⟩⟩ rfl rfl hl.1 rfl (lv_room (Nat.le_of_ble_eq_true rfl)) dX6_init_9 ⟨Nat.le_of_ble_eq_true rfl, Nat.le_of_ble_eq_true rfl⟩) hS (fun q _ h => hFc q h) hFc (fun u t H1 locs ht hvm hw hB hz1 hk1 hS => ?_)
  obtain ⟨c7, c8, c9, c10, hu, hP1, hD1⟩ := hB
  rw [ht] at hP1
  obtain ⟨hP, hD⟩ := zz_join (c1 := dX1 G n1 c7 c8 c9 c10) hP hD hk1 hFc hP1 hD1
  refine W.widen (k := 5) (n := 45) (Nat.le_of_ble_eq_true rfl) (Nat.le_of_ble_eq_true rfl) ?_
  generalize H1 = H at hP hS ⊢
  refine va_putF (D := G.1) (ci := 6) (v := .ref n1) (ty := .object "Stresswork$Joints") (C := RX6) (T := TX6) (N := 7) hx hb hts (by decide +kernel) tyX6 tyX6_ok nmX6 hown hK hP hD hS 0 rfl rfl 0 (by decide) (hts (.fieldLink RX6 10 "Stresswork" "joints" "LStresswork$Joints;") (by decide +kernel)) (fun _ h9 => h9) rfl hin rfl (by decide +kernel) rfl rfl (Nat.le_of_ble_eq_true rfl) dX6_init_12 (fun H locs hP hD hS => ?_)
  have hP : va_P G.1 vwCl ((h0, .inr (6, [.ref n1, .null, .null, .null, .null, .null, .long 0])) :: ([] ++ dX1 G n1 c7 c8 c9 c10)) _ := hP
  have hD : va_D A ((h0, .inr (6, [.ref n1, .null, .null, .null, .null, .null, .long 0])) :: ([] ++ dX1 G n1 c7 c8 c9 c10)) := hD
  refine lv_aload_n hx hb dX6_init_15 rfl (lv_at hl 0 rfl) ?_
  refine va_new (ci := 3) (fs := [.null, .null, .null, .null, .null, .int 0]) (C := RX3) (T := TX3) (N := 6) hx hb hts (by decide +kernel) tyX3 tyX3_ok hown (hts (.classLink RX6 16 RX3) (by decide +kernel)) (hts (.instantiable RX3 6) (by decide +kernel)) (hts (.initialized RX3) (by decide +kernel)) hK hP hD hS hA rfl (fun j hj => by rcases (show j = 0 ∨ j = 1 ∨ j = 2 ∨ j = 3 ∨ j = 4 ∨ j = 5 by omega) with rfl | rfl | rfl | rfl | rfl | rfl <;> rfl) (Nat.le_of_ble_eq_true rfl) (Nat.le_of_ble_eq_true rfl) dX6_init_16 (fun n2 H hP hD hS => ?_)
  refine W.widen (k := 6) (n := 51) (Nat.le_of_ble_eq_true rfl) (Nat.le_of_ble_eq_true rfl) ?_
  refine lv_dup hx hb dX6_init_19 rfl ?_
  have hFc : ∀ q, va_A [(n2, .inr (3, [.null, .null, .null, .null, .null, .int 0]))] H.size q → A q := zz_free hD hS hA
  refine va_callv (va_runIN (As := []) (rest := [.ref n2, .ref h0]) ⟨hx, hb, hml, hown, hts⟩ (ct_X3 l G n2 H.size) ⟨va_cnB 0 hts gX6_init_X3_init_n18 rfl rfl rfl (hN (RX6, 18, yX3_init) (by decide +kernel)) (hts (.initialized RX3) (by decide +kernel)) (by decide +kernel) ⟨Nat.le_of_ble_eq_true rfl, Nat.le_of_ble_eq_true rfl⟩, rfl, hts (.instanceMethod yX3_init) (by decide +kernel)⟩ ⟨fun a U g mk q => by obtain ⟨q0, q1, qP, qK, qD⟩ := q; exact ⟨q0, q1, qP, va_K.moved (u := U) (U := U.calling g mk a) (Vm.Alike.refl U.vm) qK, qD⟩, fun U hU hW => ⟨rfl, by rw [hU], by rw [hU]; exact zz_Pr hP, va_K.moved hW.alike hK, (zz_Dr hD).weaken (fun _ _ _ _ => trivial)⟩⟩ rfl rfl hl.1 rfl (lv_room (Nat.le_of_ble_eq_true rfl)) dX6_init_20 ⟨Nat.le_of_ble_eq_true rfl, Nat.le_of_ble_eq_true rfl⟩) hS (fun q _ h => hFc q h) hFc (fun u t H1 locs ht hvm hw hB hz1 hk1 hS => ?_)
  obtain ⟨c11, c12, c13, c14, c15, hu, hP1, hD1⟩ := hB
  rw [ht] at hP1
  obtain ⟨hP, hD⟩ := zz_join (c1 := dX3 G n2 c11 c12 c13 c14 c15) hP hD hk1 hFc hP1 hD1
  refine W.widen (k := 11) (n := 251) (Nat.le_of_ble_eq_true rfl) (Nat.le_of_ble_eq_true rfl) ?_
  generalize H1 = H at hP hS ⊢
  refine va_putF (D := G.1) (ci := 6) (v := .ref n2) (ty := .object "Stresswork$Members") (C := RX6) (T := TX6) (N := 7) hx hb hts (by decide +kernel) tyX6 tyX6_ok nmX6 hown hK hP hD hS 0 rfl rfl 1 (by decide) (hts (.fieldLink RX6 19 "Stresswork" "members" "LStresswork$Members;") (by decide +kernel)) (fun _ h9 => h9) rfl hin rfl (by decide +kernel) rfl rfl (Nat.le_of_ble_eq_true rfl) dX6_init_23 (fun H locs hP hD hS => ?_)
  have hP : va_P G.1 vwCl ((h0, .inr (6, [.ref n1, .ref n2, .null, .null, .null, .null, .long 0])) :: (([] ++ dX1 G n1 c7 c8 c9 c10) ++ dX3 G n2 c11 c12 c13 c14 c15)) _ := hP
  have hD : va_D A ((h0, .inr (6, [.ref n1, .ref n2, .null, .null, .null, .null, .long 0])) :: (([] ++ dX1 G n1 c7 c8 c9 c10) ++ dX3 G n2 c11 c12 c13 c14 c15)) := hD
  refine lv_aload_n hx hb dX6_init_26 rfl (lv_at hl 0 rfl) ?_
  refine va_new (ci := 5) (fs := [.null, .null, .null, .int 0]) (C := RX5) (T := TX5) (N := 4) hx hb hts (by decide +kernel) tyX5 tyX5_ok hown (hts (.classLink RX6 23 RX5) (by decide +kernel)) (hts (.instantiable RX5 4) (by decide +kernel)) (hts (.initialized RX5) (by decide +kernel)) hK hP hD hS hA rfl (fun j hj => by rcases (show j = 0 ∨ j = 1 ∨ j = 2 ∨ j = 3 by omega) with rfl | rfl | rfl | rfl <;> rfl) (Nat.le_of_ble_eq_true rfl) (Nat.le_of_ble_eq_true rfl) dX6_init_27 (fun n3 H hP hD hS => ?_)
  refine W.widen (k := 12) (n := 255) (Nat.le_of_ble_eq_true rfl) (Nat.le_of_ble_eq_true rfl) ?_
  refine lv_dup hx hb dX6_init_30 rfl ?_
  have hFc : ∀ q, va_A [(n3, .inr (5, [.null, .null, .null, .int 0]))] H.size q → A q := zz_free hD hS hA
  refine va_callv (va_runIN (As := []) (rest := [.ref n3, .ref h0]) ⟨hx, hb, hml, hown, hts⟩ (ct_X5 l G n3 H.size) ⟨va_cnB 0 hts gX6_init_X5_init_n25 rfl rfl rfl (hN (RX6, 25, yX5_init) (by decide +kernel)) (hts (.initialized RX5) (by decide +kernel)) (by decide +kernel) ⟨Nat.le_of_ble_eq_true rfl, Nat.le_of_ble_eq_true rfl⟩, rfl, hts (.instanceMethod yX5_init) (by decide +kernel)⟩ ⟨fun a U g mk q => by obtain ⟨q0, q1, qP, qK, qD⟩ := q; exact ⟨q0, q1, qP, va_K.moved (u := U) (U := U.calling g mk a) (Vm.Alike.refl U.vm) qK, qD⟩, fun U hU hW => ⟨rfl, by rw [hU], by rw [hU]; exact zz_Pr hP, va_K.moved hW.alike hK, (zz_Dr hD).weaken (fun _ _ _ _ => trivial)⟩⟩ rfl rfl hl.1 rfl (lv_room (Nat.le_of_ble_eq_true rfl)) dX6_init_31 ⟨Nat.le_of_ble_eq_true rfl, Nat.le_of_ble_eq_true rfl⟩) hS (fun q _ h => hFc q h) hFc (fun u t H1 locs ht hvm hw hB hz1 hk1 hS => ?_)
  obtain ⟨c16, c17, c18, hu, hP1, hD1⟩ := hB
  rw [ht] at hP1
  obtain ⟨hP, hD⟩ := zz_join (c1 := dX5 G n3 c16 c17 c18) hP hD hk1 hFc hP1 hD1
  refine W.widen (k := 15) (n := 285) (Nat.le_of_ble_eq_true rfl) (Nat.le_of_ble_eq_true rfl) ?_
  generalize H1 = H at hP hS ⊢
  refine va_putF (D := G.1) (ci := 6) (v := .ref n3) (ty := .object "Stresswork$Steps") (C := RX6) (T := TX6) (N := 7) hx hb hts (by decide +kernel) tyX6 tyX6_ok nmX6 hown hK hP hD hS 0 rfl rfl 2 (by decide) (hts (.fieldLink RX6 26 "Stresswork" "steps" "LStresswork$Steps;") (by decide +kernel)) (fun _ h9 => h9) rfl hin rfl (by decide +kernel) rfl rfl (Nat.le_of_ble_eq_true rfl) dX6_init_34 (fun H locs hP hD hS => ?_)
  have hP : va_P G.1 vwCl ((h0, .inr (6, [.ref n1, .ref n2, .ref n3, .null, .null, .null, .long 0])) :: ((([] ++ dX1 G n1 c7 c8 c9 c10) ++ dX3 G n2 c11 c12 c13 c14 c15) ++ dX5 G n3 c16 c17 c18)) _ := hP
  have hD : va_D A ((h0, .inr (6, [.ref n1, .ref n2, .ref n3, .null, .null, .null, .long 0])) :: ((([] ++ dX1 G n1 c7 c8 c9 c10) ++ dX3 G n2 c11 c12 c13 c14 c15) ++ dX5 G n3 c16 c17 c18)) := hD
  refine lv_aload_n hx hb dX6_init_37 rfl (lv_at hl 0 rfl) ?_
  refine va_new (ci := 2) (fs := [.null, .null, .null, .int 0]) (C := RX2) (T := TX2) (N := 4) hx hb hts (by decide +kernel) tyX2 tyX2_ok hown (hts (.classLink RX6 30 RX2) (by decide +kernel)) (hts (.instantiable RX2 4) (by decide +kernel)) (hts (.initialized RX2) (by decide +kernel)) hK hP hD hS hA rfl (fun j hj => by rcases (show j = 0 ∨ j = 1 ∨ j = 2 ∨ j = 3 by omega) with rfl | rfl | rfl | rfl <;> rfl) (Nat.le_of_ble_eq_true rfl) (Nat.le_of_ble_eq_true rfl) dX6_init_38 (fun n4 H hP hD hS => ?_)
  refine W.widen (k := 16) (n := 289) (Nat.le_of_ble_eq_true rfl) (Nat.le_of_ble_eq_true rfl) ?_
  refine lv_dup hx hb dX6_init_41 rfl ?_
  have hFc : ∀ q, va_A [(n4, .inr (2, [.null, .null, .null, .int 0]))] H.size q → A q := zz_free hD hS hA
  refine va_callv (va_runIN (As := []) (rest := [.ref n4, .ref h0]) ⟨hx, hb, hml, hown, hts⟩ (ct_X2 l G n4 H.size) ⟨va_cnB 0 hts gX6_init_X2_init_n32 rfl rfl rfl (hN (RX6, 32, yX2_init) (by decide +kernel)) (hts (.initialized RX2) (by decide +kernel)) (by decide +kernel) ⟨Nat.le_of_ble_eq_true rfl, Nat.le_of_ble_eq_true rfl⟩, rfl, hts (.instanceMethod yX2_init) (by decide +kernel)⟩ ⟨fun a U g mk q => by obtain ⟨q0, q1, qP, qK, qD⟩ := q; exact ⟨q0, q1, qP, va_K.moved (u := U) (U := U.calling g mk a) (Vm.Alike.refl U.vm) qK, qD⟩, fun U hU hW => ⟨rfl, by rw [hU], by rw [hU]; exact zz_Pr hP, va_K.moved hW.alike hK, (zz_Dr hD).weaken (fun _ _ _ _ => trivial)⟩⟩ rfl rfl hl.1 rfl (lv_room (Nat.le_of_ble_eq_true rfl)) dX6_init_42 ⟨Nat.le_of_ble_eq_true rfl, Nat.le_of_ble_eq_true rfl⟩) hS (fun q _ h => hFc q h) hFc (fun u t H1 locs ht hvm hw hB hz1 hk1 hS => ?_)
  obtain ⟨c19, c20, c21, hu, hP1, hD1⟩ := hB
  rw [ht] at hP1
  obtain ⟨hP, hD⟩ := zz_join (c1 := dX2 G n4 c19 c20 c21) hP hD hk1 hFc hP1 hD1
  refine W.widen (k := 19) (n := 319) (Nat.le_of_ble_eq_true rfl) (Nat.le_of_ble_eq_true rfl) ?_
  generalize H1 = H at hP hS ⊢
  refine va_putF (D := G.1) (ci := 6) (v := .ref n4) (ty := .object "Stresswork$Layout") (C := RX6) (T := TX6) (N := 7) hx hb hts (by decide +kernel) tyX6 tyX6_ok nmX6 hown hK hP hD hS 0 rfl rfl 3 (by decide) (hts (.fieldLink RX6 33 "Stresswork" "layout" "LStresswork$Layout;") (by decide +kernel)) (fun _ h9 => h9) rfl hin rfl (by decide +kernel) rfl rfl (Nat.le_of_ble_eq_true rfl) dX6_init_45 (fun H locs hP hD hS => ?_)
  have hP : va_P G.1 vwCl ((h0, .inr (6, [.ref n1, .ref n2, .ref n3, .ref n4, .null, .null, .long 0])) :: (((([] ++ dX1 G n1 c7 c8 c9 c10) ++ dX3 G n2 c11 c12 c13 c14 c15) ++ dX5 G n3 c16 c17 c18) ++ dX2 G n4 c19 c20 c21)) _ := hP
  have hD : va_D A ((h0, .inr (6, [.ref n1, .ref n2, .ref n3, .ref n4, .null, .null, .long 0])) :: (((([] ++ dX1 G n1 c7 c8 c9 c10) ++ dX3 G n2 c11 c12 c13 c14 c15) ++ dX5 G n3 c16 c17 c18) ++ dX2 G n4 c19 c20 c21)) := hD
  refine lv_aload_n hx hb dX6_init_48 rfl (lv_at hl 0 rfl) ?_
  refine va_new (ci := 0) (fs := [.null, .null, .int 0, .int 0]) (C := RX0) (T := TX0) (N := 4) hx hb hts (by decide +kernel) tyX0 tyX0_ok hown (hts (.classLink RX6 37 RX0) (by decide +kernel)) (hts (.instantiable RX0 4) (by decide +kernel)) (hts (.initialized RX0) (by decide +kernel)) hK hP hD hS hA rfl (fun j hj => by rcases (show j = 0 ∨ j = 1 ∨ j = 2 ∨ j = 3 by omega) with rfl | rfl | rfl | rfl <;> rfl) (Nat.le_of_ble_eq_true rfl) (Nat.le_of_ble_eq_true rfl) dX6_init_49 (fun n5 H hP hD hS => ?_)
  refine W.widen (k := 20) (n := 323) (Nat.le_of_ble_eq_true rfl) (Nat.le_of_ble_eq_true rfl) ?_
  refine lv_dup hx hb dX6_init_52 rfl ?_
  have hFc : ∀ q, va_A [(n5, .inr (0, [.null, .null, .int 0, .int 0]))] H.size q → A q := zz_free hD hS hA
  refine va_callv (va_runIN (As := []) (rest := [.ref n5, .ref h0]) ⟨hx, hb, hml, hown, hts⟩ (ct_X0 l G n5 H.size) ⟨va_cnB 0 hts gX6_init_X0_init_n39 rfl rfl rfl (hN (RX6, 39, yX0_init) (by decide +kernel)) (hts (.initialized RX0) (by decide +kernel)) (by decide +kernel) ⟨Nat.le_of_ble_eq_true rfl, Nat.le_of_ble_eq_true rfl⟩, rfl, hts (.instanceMethod yX0_init) (by decide +kernel)⟩ ⟨fun a U g mk q => by obtain ⟨q0, q1, qP, qK, qD, qE⟩ := q; exact ⟨q0, q1, qP, va_K.moved (u := U) (U := U.calling g mk a) (Vm.Alike.refl U.vm) qK, qD, va_AOA.moved (u := U) (U := U.calling g mk a) (Vm.Alike.refl U.vm) qE⟩, fun U hU hW => ⟨rfl, by rw [hU], by rw [hU]; exact zz_Pr hP, va_K.moved hW.alike hK, (zz_Dr hD).weaken (fun _ _ _ _ => trivial), va_AOA.moved hW.alike hov⟩⟩ rfl rfl hl.1 rfl (lv_room (Nat.le_of_ble_eq_true rfl)) dX6_init_53 ⟨Nat.le_of_ble_eq_true rfl, Nat.le_of_ble_eq_true rfl⟩) hS (fun q _ h => hFc q h) hFc (fun u t H1 locs ht hvm hw hB hz1 hk1 hS => ?_)
  obtain ⟨c22, c23, r⟩ := u
  obtain ⟨hP1, hD1⟩ := hB
  rw [ht] at hP1
  have hP1 : va_P G.1 vwCl (g0W G n5 c22 c23 r) H1 := hP1
  have hD1 : va_D (va_A [(n5, .inr (0, [.null, .null, .int 0, .int 0]))] H.size) (g0W G n5 c22 c23 r) := hD1
  rw [dX0_eq] at hP1 hD1
  obtain ⟨hP, hD⟩ := zz_join (c1 := dX0 G n5 c22 c23 r) hP hD hk1 hFc hP1 hD1
  refine W.widen (k := 62) (n := 2003) (Nat.le_of_ble_eq_true rfl) (Nat.le_of_ble_eq_true rfl) ?_
  generalize H1 = H at hP hS ⊢
  refine va_putF (D := G.1) (ci := 6) (v := .ref n5) (ty := .object "Stresswork$Grid") (C := RX6) (T := TX6) (N := 7) hx hb hts (by decide +kernel) tyX6 tyX6_ok nmX6 hown hK hP hD hS 0 rfl rfl 4 (by decide) (hts (.fieldLink RX6 40 "Stresswork" "grid" "LStresswork$Grid;") (by decide +kernel)) (fun _ h9 => h9) rfl hin rfl (by decide +kernel) rfl rfl (Nat.le_of_ble_eq_true rfl) dX6_init_56 (fun H locs hP hD hS => ?_)
  have hP : va_P G.1 vwCl ((h0, .inr (6, [.ref n1, .ref n2, .ref n3, .ref n4, .ref n5, .null, .long 0])) :: ((((([] ++ dX1 G n1 c7 c8 c9 c10) ++ dX3 G n2 c11 c12 c13 c14 c15) ++ dX5 G n3 c16 c17 c18) ++ dX2 G n4 c19 c20 c21) ++ dX0 G n5 c22 c23 r)) _ := hP
  have hD : va_D A ((h0, .inr (6, [.ref n1, .ref n2, .ref n3, .ref n4, .ref n5, .null, .long 0])) :: ((((([] ++ dX1 G n1 c7 c8 c9 c10) ++ dX3 G n2 c11 c12 c13 c14 c15) ++ dX5 G n3 c16 c17 c18) ++ dX2 G n4 c19 c20 c21) ++ dX0 G n5 c22 c23 r)) := hD
  refine lv_aload_n hx hb dX6_init_59 rfl (lv_at hl 0 rfl) ?_
  refine va_new (ci := 4) (fs := [.null, .null, .null]) (C := RX4) (T := TX4) (N := 3) hx hb hts (by decide +kernel) tyX4 tyX4_ok hown (hts (.classLink RX6 44 RX4) (by decide +kernel)) (hts (.instantiable RX4 3) (by decide +kernel)) (hts (.initialized RX4) (by decide +kernel)) hK hP hD hS hA rfl (fun j hj => by rcases (show j = 0 ∨ j = 1 ∨ j = 2 by omega) with rfl | rfl | rfl <;> rfl) (Nat.le_of_ble_eq_true rfl) (Nat.le_of_ble_eq_true rfl) dX6_init_60 (fun n6 H hP hD hS => ?_)
  refine W.widen (k := 63) (n := 2006) (Nat.le_of_ble_eq_true rfl) (Nat.le_of_ble_eq_true rfl) ?_
  refine lv_dup hx hb dX6_init_63 rfl ?_
  have hFc : ∀ q, va_A [(n6, .inr (4, [.null, .null, .null]))] H.size q → A q := zz_free hD hS hA
  refine va_callv (va_runIN (As := []) (rest := [.ref n6, .ref h0]) ⟨hx, hb, hml, hown, hts⟩ (ct_X4 l G n6 H.size) ⟨va_cnB 0 hts gX6_init_X4_init_n46 rfl rfl rfl (hN (RX6, 46, yX4_init) (by decide +kernel)) (hts (.initialized RX4) (by decide +kernel)) (by decide +kernel) ⟨Nat.le_of_ble_eq_true rfl, Nat.le_of_ble_eq_true rfl⟩, rfl, hts (.instanceMethod yX4_init) (by decide +kernel)⟩ ⟨fun a U g mk q => by obtain ⟨q0, q1, qP, qK, qD⟩ := q; exact ⟨q0, q1, qP, va_K.moved (u := U) (U := U.calling g mk a) (Vm.Alike.refl U.vm) qK, qD⟩, fun U hU hW => ⟨rfl, by rw [hU], by rw [hU]; exact zz_Pr hP, va_K.moved hW.alike hK, (zz_Dr hD).weaken (fun _ _ _ _ => trivial)⟩⟩ rfl rfl hl.1 rfl (lv_room (Nat.le_of_ble_eq_true rfl)) dX6_init_64 ⟨Nat.le_of_ble_eq_true rfl, Nat.le_of_ble_eq_true rfl⟩) hS (fun q _ h => hFc q h) hFc (fun u t H1 locs ht hvm hw hB hz1 hk1 hS => ?_)
  obtain ⟨c24, c25, c26, hu, hP1, hD1⟩ := hB
  rw [ht] at hP1
  obtain ⟨hP, hD⟩ := zz_join (c1 := dX4 G n6 c24 c25 c26) hP hD hk1 hFc hP1 hD1
  refine W.widen (k := 66) (n := 2046) (Nat.le_of_ble_eq_true rfl) (Nat.le_of_ble_eq_true rfl) ?_
  generalize H1 = H at hP hS ⊢
  refine va_putF (D := G.1) (ci := 6) (v := .ref n6) (ty := .object "Stresswork$Pebbles") (C := RX6) (T := TX6) (N := 7) hx hb hts (by decide +kernel) tyX6 tyX6_ok nmX6 hown hK hP hD hS 0 rfl rfl 5 (by decide) (hts (.fieldLink RX6 47 "Stresswork" "pebbles" "LStresswork$Pebbles;") (by decide +kernel)) (fun _ h9 => h9) rfl hin rfl (by decide +kernel) rfl rfl (Nat.le_of_ble_eq_true rfl) dX6_init_67 (fun H locs hP hD hS => ?_)
  have hP : va_P G.1 vwCl ((h0, .inr (6, [.ref n1, .ref n2, .ref n3, .ref n4, .ref n5, .ref n6, .long 0])) :: (((((([] ++ dX1 G n1 c7 c8 c9 c10) ++ dX3 G n2 c11 c12 c13 c14 c15) ++ dX5 G n3 c16 c17 c18) ++ dX2 G n4 c19 c20 c21) ++ dX0 G n5 c22 c23 r) ++ dX4 G n6 c24 c25 c26)) _ := hP
  have hD : va_D A ((h0, .inr (6, [.ref n1, .ref n2, .ref n3, .ref n4, .ref n5, .ref n6, .long 0])) :: (((((([] ++ dX1 G n1 c7 c8 c9 c10) ++ dX3 G n2 c11 c12 c13 c14 c15) ++ dX5 G n3 c16 c17 c18) ++ dX2 G n4 c19 c20 c21) ++ dX0 G n5 c22 c23 r) ++ dX4 G n6 c24 c25 c26)) := hD
  refine lv_aload_n hx hb dX6_init_70 rfl (lv_at hl 0 rfl) ?_
  refine lv_lconst (v := 0) hx hb dX6_init_71 rfl ?_
  refine va_put (D := G.1) (ci := 6) (v := .long 0) (ty := .long) (C := RX6) (T := TX6) (N := 7) hx hb hts (by decide +kernel) tyX6 tyX6_ok nmX6 hown hK hP hD hS 0 rfl rfl 6 (by decide) (hts (.fieldLink RX6 51 "Stresswork" "keptSet" "J") (by decide +kernel)) (fun _ h9 => h9) rfl (by decide +kernel) rfl rfl (Nat.le_of_ble_eq_true rfl) dX6_init_72 (fun H locs hP hD hS => ?_)
  have hP : va_P G.1 vwCl (W6 G h0 n1 n2 n3 n4 n5 n6 c7 c8 c9 c10 c11 c12 c13 c14 c15 c16 c17 c18 c19 c20 c21 c22 c23 c24 c25 c26 r) H := hP
  have hD : va_D A (W6 G h0 n1 n2 n3 n4 n5 n6 c7 c8 c9 c10 c11 c12 c13 c14 c15 c16 c17 c18 c19 c20 c21 c22 c23 c24 c25 c26 r) := hD
  have hP := zz_Psub hP [0, 1, 6, 12, 16, 20, 63, 2, 3, 4, 5, 7, 8, 9, 10, 11, 13, 14, 15, 17, 18, 19, 21, 62, 64, 65, 66, 22, 23, 24, 25, 26, 27, 28, 29, 30, 31, 32, 33, 34, 35, 36, 37, 38, 39, 40, 41, 42, 43, 44, 45, 46, 47, 48, 49, 50, 51, 52, 53, 54, 55, 56, 57, 58, 59, 60, 61] (W6_at G h0 n1 n2 n3 n4 n5 n6 c7 c8 c9 c10 c11 c12 c13 c14 c15 c16 c17 c18 c19 c20 c21 c22 c23 c24 c25 c26 r)
  have hD := va_D.sub hD [0, 1, 6, 12, 16, 20, 63, 2, 3, 4, 5, 7, 8, 9, 10, 11, 13, 14, 15, 17, 18, 19, 21, 62, 64, 65, 66, 22, 23, 24, 25, 26, 27, 28, 29, 30, 31, 32, 33, 34, 35, 36, 37, 38, 39, 40, 41, 42, 43, 44, 45, 46, 47, 48, 49, 50, 51, 52, 53, 54, 55, 56, 57, 58, 59, 60, 61] (by decide +kernel) (W6_at G h0 n1 n2 n3 n4 n5 n6 c7 c8 c9 c10 c11 c12 c13 c14 c15 c16 c17 c18 c19 c20 c21 c22 c23 c24 c25 c26 r)
  rw [← wC_x] at hP hD
  exact W.vret hx hb hr (fun t ht hW => ⟨⟨adrC [h0, n1, n2, n3, n4, n5, n6, c7, c8, c9, c10, c11, c12, c13, c14, c15, c16, c17, c18, c19, c20, c21, c22, c23, c24, c25, c26] r, rfl, trivial, rfl, by rw [ht]; exact hP, hD⟩, hS.F ht⟩) hS.2.2 dX6_init_75
end CTOR6
