/-! WHAT THE TABLES SAY at the law's entry -/
section ENTRY
theorem zz_arr {args : Array Value} {s : State} {ty : FieldType} (h : (Cond.arrayClass ty).before args s = true) (hty : ∀ C : String, ty ≠ .object C) : ∃ cA : ClassId, ArrOfT s cA ty ∧ va_RA s cA ty := by
  obtain ⟨c, k, comp, h1, h2, h3⟩ := Cond.arrayClass_spec h
  refine ⟨c, fun n z => ⟨fun k h => (by cases h), k, h2, comp, h3⟩, ?_⟩
  cases ty with
  | object C => exact absurd rfl (hty C)
  | _ => exact h1
theorem zz_over {args : Array Value} {s : State} {t : FieldType} (h : (Cond.arrayOver (.array t)).before args s = true) : ∃ cA : ClassId, ArrOfT s cA (.array t) ∧ va_RA s cA (.array t) := by
  have h : (Cond.arrayOver (.array t)).holds args s none s [] = true := h
  simp only [Cond.holds, Cond.value, beq_iff_eq] at h
  cases hc : s.vm.findClass (FieldType.array t).toString with
  | none => simp [hc] at h
  | some comp =>
    simp only [hc, Option.bind_some, Option.bind_eq_some_iff, Option.map_eq_some_iff] at h
    obtain ⟨c, hi, k, hk, hb⟩ := h
    obtain ⟨hlt, hp, -⟩ := Array.findIdx?_eq_some_iff_getElem.mp hi
    have hkk : s.vm.classes[c] = k := (Array.getElem?_eq_some_iff.mp hk).2
    rw [hkk] at hp
    cases hkind : k.kind with
    | array component ty =>
      rw [hkind] at hb hp
      simp at hb hp
      have h3 : k.kind = .array comp (.array t) := by rw [hkind, hp, hb.1]
      exact ⟨c, fun n z => ⟨fun k h => (by cases h), k, hk, comp, h3⟩, hb.2⟩
    | _ => rw [hkind] at hb; simp at hb
theorem tb_u1 : Cond.laysStatic Bundle.tN "UNASSIGNED_STACK" Bundle.steD ∈ lw_tbl := by decide +kernel
theorem tb_u2 : Cond.laysStatic Bundle.tN "SUPPRESSED_SENTINEL" Bundle.listD ∈ lw_tbl := by decide +kernel
theorem tb_ini : Cond.initialized Bundle.tN ∈ lw_tbl := by decide +kernel
theorem tb_nests : ∀ q ∈ nests, Cond.methodLinkNest q.1 q.2.1 q.2.2 "Stresswork" ∈ lw_tbl := by decide +kernel
theorem tb_cast : ∀ E ∈ exns, Cond.castable E E ∈ lw_tbl := by decide +kernel
theorem tb_decl : ∀ Y ∈ exY, Cond.declares (Bundle.initS Y) ∈ lw_tbl := by decide +kernel
theorem tb_str : ∀ q ∈ strs, Cond.stringRef RX6 q.1 q.2 ∈ lw_tbl := by decide +kernel
theorem gv_u1 : Cond.isRef (.static Bundle.tN "UNASSIGNED_STACK" Bundle.steD) ∈ flatC (Jvm.Cond.and given_1 narrow_1) := by decide +kernel
theorem gv_u2 : Cond.isRef (.static Bundle.tN "SUPPRESSED_SENTINEL" Bundle.listD) ∈ flatC (Jvm.Cond.and given_1 narrow_1) := by decide +kernel
theorem gv_str : ∀ q ∈ strs, Cond.exactly (Term.string RX6 q.1) "java/lang/String" ∈ flatC (Jvm.Cond.and given_1 narrow_1) := by decide +kernel
theorem gv_nc : ∀ q ∈ ncp, Cond.not (Cond.castable q.1 q.2) ∈ flatC (Jvm.Cond.and given_1 narrow_1) := by decide +kernel
theorem entry_NC {args : Array Value} {s : State} (hgv : (Jvm.Cond.and given_1 narrow_1).before args s = true) : NC s := fun q hq => va_Nc.of (flat_of_before _ hgv _ (gv_nc q hq))
theorem entry_XS {args : Array Value} {s : State} {A : Nat → Prop} (hts : ∀ w ∈ lw_tbl, w.before args s = true) (hgv : (Jvm.Cond.and given_1 narrow_1).before args s = true) (hA : ∀ a : Nat, a < s.heap.size → ¬ A a) : XS A s s.heap := by
  have hg := flat_of_before _ hgv
  refine ⟨vx_Zqof (hts _ tb_u1) (hts _ tb_ini) (hg _ gv_u1) hA, vx_Zqof (hts _ tb_u2) (hts _ tb_ini) (hg _ gv_u2) hA, fun q hq => ?_, fun q hq => va_Nw.of rfl (hts _ (tb_nests q hq)), fun E hE => va_Nw.of rfl (hts _ (tb_cast E hE)), fun Y hY => va_Nw.of rfl (hts _ (tb_decl Y hY)), entry_NC hgv⟩
  obtain ⟨a, c, cell, k, ht, -⟩ := Cond.exactly_spec (hg _ (gv_str q hq))
  exact ⟨a, vk_R.of (hts _ (tb_str q hq)) ht⟩
theorem entry_K {args : Array Value} {s : State} (hts : ∀ w ∈ lw_tbl, w.before args s = true) : ∃ (D : va_G) (K : Nat → ClassId), ∀ f : Nat → Nat, va_K D vwCl (tysC (D, K, f)) s := by
  obtain ⟨c0, i0, h0⟩ := u_known (C := RX0) (T := TX0) (N := 4) (n := 4) hts inX0 (hts (.instantiable RX0 4) (by decide +kernel))
  obtain ⟨c1, i1, h1⟩ := u_known (C := RX1) (T := TX1) (N := 5) (n := 5) hts inX1 (hts (.instantiable RX1 5) (by decide +kernel))
  obtain ⟨c2, i2, h2⟩ := u_known (C := RX2) (T := TX2) (N := 4) (n := 4) hts inX2 (hts (.instantiable RX2 4) (by decide +kernel))
  obtain ⟨c3, i3, h3⟩ := u_known (C := RX3) (T := TX3) (N := 6) (n := 6) hts inX3 (hts (.instantiable RX3 6) (by decide +kernel))
  obtain ⟨c4, i4, h4⟩ := u_known (C := RX4) (T := TX4) (N := 3) (n := 3) hts inX4 (hts (.instantiable RX4 3) (by decide +kernel))
  obtain ⟨c5, i5, h5⟩ := u_known (C := RX5) (T := TX5) (N := 4) (n := 4) hts inX5 (hts (.instantiable RX5 4) (by decide +kernel))
  obtain ⟨c6, i6, h6⟩ := u_known (C := RX6) (T := TX6) (N := 7) (n := 7) hts inX6 (hts (.instantiable RX6 7) (by decide +kernel))
  obtain ⟨a0, g0, r0⟩ := zz_arr (hts (.arrayClass .int) (by decide +kernel)) (fun C q => by cases q)
  obtain ⟨a1, g1, r1⟩ := zz_arr (hts (.arrayClass .boolean) (by decide +kernel)) (fun C q => by cases q)
  obtain ⟨a2, g2, r2⟩ := zz_arr (hts (.arrayClass .long) (by decide +kernel)) (fun C q => by cases q)
  obtain ⟨a3, g3, r3⟩ := zz_over (hts (.arrayOver (.array .long)) (by decide +kernel))
  refine ⟨(fun k => [c0, c1, c2, c3, c4, c5, c6].getD k c0, fun k => [i0, i1, i2, i3, i4, i5, i6].getD k i0), fun k => [a0, a1, a2, a3].getD k a0, fun f => ⟨fun k q hq => ?_, fun k q hq => ?_⟩⟩
  · match k, hq with
    | 0, hq => cases hq; exact h0
    | 1, hq => cases hq; exact h1
    | 2, hq => cases hq; exact h2
    | 3, hq => cases hq; exact h3
    | 4, hq => cases hq; exact h4
    | 5, hq => cases hq; exact h5
    | 6, hq => cases hq; exact h6
    | k + 7, hq => simp [vwCl] at hq
  · match k, hq with
    | 0, hq => cases hq; exact ⟨g0, r0⟩
    | 1, hq => cases hq; exact ⟨g1, r1⟩
    | 2, hq => cases hq; exact ⟨g2, r2⟩
    | 3, hq => cases hq; exact ⟨g3, r3⟩
    | k + 4, hq => simp [tysC] at hq
end ENTRY
/-! the beginning's worlds as the law's world -/
section BEG
theorem zz_Dad {A : Nat → Prop} {ws ws' : va_W} (he : ws'.map (fun q => q.1) = ws.map (fun q => q.1)) (h : va_D A ws) : va_D A ws' := by
  have key : ∀ (k : Nat) (q : Nat × va_E), ws'[k]? = some q → ∃ z : Nat × va_E, ws[k]? = some z ∧ z.1 = q.1 := fun k q hk => by
    have e1 : (ws'.map (fun q => q.1))[k]? = some q.1 := by rw [List.getElem?_map, hk]; rfl
    rw [he, List.getElem?_map] at e1
    cases e2 : ws[k]? with
    | none => rw [e2] at e1; cases e1
    | some z => rw [e2] at e1; exact ⟨z, rfl, Option.some.inj e1⟩
  refine ⟨fun i j p q hi hj e => ?_, fun k q hk => ?_⟩
  · obtain ⟨z1, y1, x1⟩ := key i p hi
    obtain ⟨z2, y2, x2⟩ := key j q hj
    exact h.1 i j z1 z2 y1 y2 (by rw [x1, x2, e])
  · obtain ⟨z1, y1, x1⟩ := key k q hk
    rw [← x1]
    exact h.2 k z1 y1
def adrL (u : Nat → Nat) (q1 q2 : Nat) : Nat → Nat := fun k => if k < 67 then u k else if k = 70 then q1 else q2
theorem adrL_u (u : Nat → Nat) (q1 q2 : Nat) {k : Nat} (h : k < 67) : adrL u q1 q2 k = u k := by
  unfold adrL
  rw [if_pos h]
theorem wC_congr {D : va_G} {K : Nat → ClassId} {f g : Nat → Nat} (h : ∀ k : Nat, k < 67 → f k = g k) : wC (D, K, f) S0 = wC (D, K, g) S0 := by
  have hr : ∀ j : Nat, j < 40 → f (27 + j) = g (27 + j) := fun j hj => h _ (by omega)
  have hq : (fun j : Nat => if j < 40 then some (f (27 + j)) else none) = fun j : Nat => if j < 40 then some (g (27 + j)) else none := by
    funext j
    by_cases q : j < 40
    · rw [if_pos q, if_pos q, hr j q]
    · rw [if_neg q, if_neg q]
  rw [wC_z, wC_z]
  unfold wCz
  dsimp only
  rw [hq, h 0 (by decide), h 1 (by decide), h 2 (by decide), h 3 (by decide), h 4 (by decide), h 5 (by decide), h 6 (by decide), h 7 (by decide), h 8 (by decide), h 9 (by decide), h 10 (by decide), h 11 (by decide), h 12 (by decide), h 13 (by decide), h 14 (by decide), h 15 (by decide), h 16 (by decide), h 17 (by decide), h 18 (by decide), h 19 (by decide), h 20 (by decide), h 21 (by decide), h 22 (by decide), h 23 (by decide), h 24 (by decide), h 25 (by decide), h 26 (by decide)]
  refine congr (congrArg HAppend.hAppend rfl) (List.map_congr_left fun i hi => ?_)
  rw [hr i (List.mem_range.mp hi)]
theorem aI_0 (D : va_G) (K : Nat → ClassId) (f : Nat → Nat) (n k : Nat) : aI (D, K, f) n S0 k = .inl (K 0, n, .inl (fun j : Nat => 0)) := rfl
theorem wL_start (D : va_G) (K : Nat → ClassId) (u : Nat → Nat) (q1 q2 : Nat) : wL (D, K, adrL u q1 q2) S0 = (wC (D, K, u) S0 ++ [(q1, .inl (K 0, 3, .inl (fun j : Nat => 0)))]) ++ [(q2, .inl (K 0, 64, .inl (fun j : Nat => 0)))] := by
  unfold wL
  have h1 : wC (D, K, adrL u q1 q2) S0 = wC (D, K, u) S0 := wC_congr (fun k hk => adrL_u u q1 q2 hk)
  rw [h1, aI_0, aI_0]
  show wC (D, K, u) S0 ++ [(adrL u q1 q2 70, _), (adrL u q1 q2 71, _)] = _
  rw [List.append_assoc]
  rfl
end BEG
