section WD
def wC (G : Gp) (S : St) : va_W := [(G.2.2 0, .inr (6, [.ref (G.2.2 1), .ref (G.2.2 2), .ref (G.2.2 3), .ref (G.2.2 4), .ref (G.2.2 5), .ref (G.2.2 6), lV (S 67 0)])),
  (G.2.2 1, .inr (1, [.ref (G.2.2 7), .ref (G.2.2 8), .ref (G.2.2 9), .ref (G.2.2 10), iV (S 1 4)])),
  (G.2.2 2, .inr (3, [.ref (G.2.2 11), .ref (G.2.2 12), .ref (G.2.2 13), .ref (G.2.2 14), .ref (G.2.2 15), iV (S 2 5)])),
  (G.2.2 3, .inr (5, [.ref (G.2.2 16), .ref (G.2.2 17), .ref (G.2.2 18), iV (S 3 3)])),
  (G.2.2 4, .inr (2, [.ref (G.2.2 19), .ref (G.2.2 20), .ref (G.2.2 21), iV (S 4 3)])),
  (G.2.2 5, .inr (0, [.ref (G.2.2 22), .ref (G.2.2 23), iV (S 5 2), iV (S 5 3)])),
  (G.2.2 6, .inr (4, [.ref (G.2.2 24), .ref (G.2.2 25), .ref (G.2.2 26)])),
  (G.2.2 7, aI G 10 S 7),
  (G.2.2 8, aI G 10 S 8),
  (G.2.2 9, aZ G 10 S 9),
  (G.2.2 10, aI G 10 S 10),
  (G.2.2 11, aI G 40 S 11),
  (G.2.2 12, aI G 40 S 12),
  (G.2.2 13, aI G 40 S 13),
  (G.2.2 14, aI G 40 S 14),
  (G.2.2 15, aZ G 40 S 15),
  (G.2.2 16, aI G 10 S 16),
  (G.2.2 17, aI G 10 S 17),
  (G.2.2 18, aI G 10 S 18),
  (G.2.2 19, aI G 10 S 19),
  (G.2.2 20, aI G 10 S 20),
  (G.2.2 21, aI G 10 S 21),
  (G.2.2 22, .inl (G.2.1 3, 40, .inr (.inr (.inr (.inr (fun j : Nat => if j < 40 then some (G.2.2 (27 + j)) else none)))))),
  (G.2.2 23, aI G 40 S 23),
  (G.2.2 24, aI G 20 S 24),
  (G.2.2 25, aI G 10 S 25),
  (G.2.2 26, aI G 10 S 26)]
  ++ (List.range 40).map (fun r : Nat => (G.2.2 (27 + r), (.inl (G.2.1 2, 40, .inr (.inl (fun j : Nat => if j < 40 then Int64.ofInt (S 22 (40 * (r : Int) + (j : Int))) else 0))) : va_E)))
theorem sC_0_6 (G : Gp) (S : St) (v : Int) : (wC G S).set 0 (G.2.2 0, .inr (6, [.ref (G.2.2 1), .ref (G.2.2 2), .ref (G.2.2 3), .ref (G.2.2 4), .ref (G.2.2 5), .ref (G.2.2 6), lV v])) = wC G (up S 67 0 v) := rfl
theorem sC_1_4 (G : Gp) (S : St) (v : Int) : (wC G S).set 1 (G.2.2 1, .inr (1, [.ref (G.2.2 7), .ref (G.2.2 8), .ref (G.2.2 9), .ref (G.2.2 10), iV v])) = wC G (up S 1 4 v) := rfl
theorem sC_2_5 (G : Gp) (S : St) (v : Int) : (wC G S).set 2 (G.2.2 2, .inr (3, [.ref (G.2.2 11), .ref (G.2.2 12), .ref (G.2.2 13), .ref (G.2.2 14), .ref (G.2.2 15), iV v])) = wC G (up S 2 5 v) := rfl
theorem sC_3_3 (G : Gp) (S : St) (v : Int) : (wC G S).set 3 (G.2.2 3, .inr (5, [.ref (G.2.2 16), .ref (G.2.2 17), .ref (G.2.2 18), iV v])) = wC G (up S 3 3 v) := rfl
theorem sC_4_3 (G : Gp) (S : St) (v : Int) : (wC G S).set 4 (G.2.2 4, .inr (2, [.ref (G.2.2 19), .ref (G.2.2 20), .ref (G.2.2 21), iV v])) = wC G (up S 4 3 v) := rfl
theorem sC_5_2 (G : Gp) (S : St) (v : Int) : (wC G S).set 5 (G.2.2 5, .inr (0, [.ref (G.2.2 22), .ref (G.2.2 23), iV v, iV (S 5 3)])) = wC G (up S 5 2 v) := rfl
theorem sC_5_3 (G : Gp) (S : St) (v : Int) : (wC G S).set 5 (G.2.2 5, .inr (0, [.ref (G.2.2 22), .ref (G.2.2 23), iV (S 5 2), iV v])) = wC G (up S 5 3 v) := rfl
theorem sC_7 (G : Gp) (S : St) (i v : Int) : (wC G S).set 7 (G.2.2 7, aI G 10 (up S 7 i v) 7) = wC G (up S 7 i v) := rfl
theorem sC_8 (G : Gp) (S : St) (i v : Int) : (wC G S).set 8 (G.2.2 8, aI G 10 (up S 8 i v) 8) = wC G (up S 8 i v) := rfl
theorem sC_9 (G : Gp) (S : St) (i v : Int) : (wC G S).set 9 (G.2.2 9, aZ G 10 (up S 9 i v) 9) = wC G (up S 9 i v) := rfl
theorem sC_10 (G : Gp) (S : St) (i v : Int) : (wC G S).set 10 (G.2.2 10, aI G 10 (up S 10 i v) 10) = wC G (up S 10 i v) := rfl
theorem sC_11 (G : Gp) (S : St) (i v : Int) : (wC G S).set 11 (G.2.2 11, aI G 40 (up S 11 i v) 11) = wC G (up S 11 i v) := rfl
theorem sC_12 (G : Gp) (S : St) (i v : Int) : (wC G S).set 12 (G.2.2 12, aI G 40 (up S 12 i v) 12) = wC G (up S 12 i v) := rfl
theorem sC_13 (G : Gp) (S : St) (i v : Int) : (wC G S).set 13 (G.2.2 13, aI G 40 (up S 13 i v) 13) = wC G (up S 13 i v) := rfl
theorem sC_14 (G : Gp) (S : St) (i v : Int) : (wC G S).set 14 (G.2.2 14, aI G 40 (up S 14 i v) 14) = wC G (up S 14 i v) := rfl
theorem sC_15 (G : Gp) (S : St) (i v : Int) : (wC G S).set 15 (G.2.2 15, aZ G 40 (up S 15 i v) 15) = wC G (up S 15 i v) := rfl
theorem sC_16 (G : Gp) (S : St) (i v : Int) : (wC G S).set 16 (G.2.2 16, aI G 10 (up S 16 i v) 16) = wC G (up S 16 i v) := rfl
theorem sC_17 (G : Gp) (S : St) (i v : Int) : (wC G S).set 17 (G.2.2 17, aI G 10 (up S 17 i v) 17) = wC G (up S 17 i v) := rfl
theorem sC_18 (G : Gp) (S : St) (i v : Int) : (wC G S).set 18 (G.2.2 18, aI G 10 (up S 18 i v) 18) = wC G (up S 18 i v) := rfl
theorem sC_19 (G : Gp) (S : St) (i v : Int) : (wC G S).set 19 (G.2.2 19, aI G 10 (up S 19 i v) 19) = wC G (up S 19 i v) := rfl
theorem sC_20 (G : Gp) (S : St) (i v : Int) : (wC G S).set 20 (G.2.2 20, aI G 10 (up S 20 i v) 20) = wC G (up S 20 i v) := rfl
theorem sC_21 (G : Gp) (S : St) (i v : Int) : (wC G S).set 21 (G.2.2 21, aI G 10 (up S 21 i v) 21) = wC G (up S 21 i v) := rfl
theorem sC_23 (G : Gp) (S : St) (i v : Int) : (wC G S).set 23 (G.2.2 23, aI G 40 (up S 23 i v) 23) = wC G (up S 23 i v) := rfl
theorem sC_24 (G : Gp) (S : St) (i v : Int) : (wC G S).set 24 (G.2.2 24, aI G 20 (up S 24 i v) 24) = wC G (up S 24 i v) := rfl
theorem sC_25 (G : Gp) (S : St) (i v : Int) : (wC G S).set 25 (G.2.2 25, aI G 10 (up S 25 i v) 25) = wC G (up S 25 i v) := rfl
theorem sC_26 (G : Gp) (S : St) (i v : Int) : (wC G S).set 26 (G.2.2 26, aI G 10 (up S 26 i v) 26) = wC G (up S 26 i v) := rfl
def rngC (k : Nat) (z : Int) : Prop := match k with
  | 22 => r64 z
  | 67 => r64 z
  | 9 => 0 ≤ z ∧ z ≤ 1
  | 15 => 0 ≤ z ∧ z ≤ 1
  | _ => r32 z
def okC (S : St) : Prop := ∀ (k : Nat) (j : Int), rngC k (S k j)
theorem okC_up {S : St} {k : Nat} {j v : Int} (h : okC S) (hv : rngC k v) : okC (up S k j v) := by
  intro a b
  unfold up
  by_cases q : a = k
  · subst q
    rw [if_pos rfl]
    by_cases q2 : b = j
    · rw [if_pos q2]; exact hv
    · rw [if_neg q2]; exact h a b
  · rw [if_neg q]; exact h a b
theorem adC (G : Gp) (S S' : St) : (wC G S').map (fun q => q.1) = (wC G S).map (fun q => q.1) := by
  simp [wC]
theorem wC_row (G : Gp) (S : St) {r : Int} (h : ix r 40) : (wC G S)[27 + r.toNat]? = some (G.2.2 (27 + r.toNat), .inl (G.2.1 2, 40, .inr (.inl (fun j : Nat => if j < 40 then Int64.ofInt (S 22 (40 * r + (j : Int))) else 0)))) := by
  have h1 : r.toNat < 40 := by omega
  have h2 : ((r.toNat : Nat) : Int) = r := Int.toNat_of_nonneg h.1
  unfold wC
  rw [List.getElem?_append_right (by show 27 ≤ 27 + r.toNat; omega)]
  show ((List.range 40).map _)[27 + r.toNat - 27]? = _
  rw [show 27 + r.toNat - 27 = r.toNat by omega, List.getElem?_map, List.getElem?_range h1, Option.map_some, h2]
theorem wC_setrow (G : Gp) (S : St) {r i v : Int} (h : ix r 40) (hi : ix i 40) : (wC G S).set (27 + r.toNat) (G.2.2 (27 + r.toNat), .inl (G.2.1 2, 40, .inr (.inl (fun j : Nat => if j < 40 then Int64.ofInt (up S 22 (40 * r + i) v 22 (40 * r + (j : Int))) else 0)))) = wC G (up S 22 (40 * r + i) v) := by
  have h1 : r.toNat < 40 := by omega
  have h2 : ((r.toNat : Nat) : Int) = r := Int.toNat_of_nonneg h.1
  unfold wC
  rw [List.set_append_right _ _ (by show 27 ≤ 27 + r.toNat; omega)]
  refine congr (congrArg HAppend.hAppend rfl) ?_
  show ((List.range 40).map _).set (27 + r.toNat - 27) _ = _
  rw [show 27 + r.toNat - 27 = r.toNat by omega]
  apply List.ext_getElem?
  intro q
  rw [List.getElem?_set]
  by_cases hq : r.toNat = q
  · subst hq
    rw [if_pos rfl, List.length_map, List.length_range, if_pos h1, List.getElem?_map, List.getElem?_range h1, Option.map_some, h2]
  · rw [if_neg hq]
    by_cases hl : q < 40
    · rw [List.getElem?_map, List.getElem?_map, List.getElem?_range hl, Option.map_some, Option.map_some]
      have e : (fun j : Nat => if j < 40 then Int64.ofInt (S 22 (40 * (q : Int) + (j : Int))) else 0) = (fun j : Nat => if j < 40 then Int64.ofInt (up S 22 (40 * r + i) v 22 (40 * (q : Int) + (j : Int))) else 0) := by
        funext j
        by_cases hj : j < 40
        · rw [if_pos hj, if_pos hj, up_at, if_neg (by omega)]
        · rw [if_neg hj, if_neg hj]
      rw [e]
    · rw [List.getElem?_eq_none (by rw [List.length_map, List.length_range]; omega), List.getElem?_eq_none (by rw [List.length_map, List.length_range]; omega)]
end WD
section WR
variable {cc : ByteArray} {nL : Nat} {own : String} {Ts : List Cond} {ret : Option FieldType} {hh : List (Nat × Nat × Nat × Nat)} {R : Room} {p : Program} {l : Launch} {e : Env} {s : State} {m : MethodId} {args : Array Value} {below : List Frame} {meth : Method} {c : Code} {G : Gp} {A : Nat → Prop} {Q : State → Prop} {k n : Nat} {S : St} {L : List (Option Value)} {st : List Value} {pc : Nat}
/-- the row r of the grid -/
abbrev rowV (G : Gp) (r : Int) : Value := .ref (G.2.2 (27 + r.toNat))
theorem J_aald (C : Cx wC cc nL own Ts ret hh p l s m args meth c G A) (d : decode cc pc = .ok (.aaload, 1)) {i : Int} (hi : ix i 40)
    (kk : J wC nL R p l e s m args below meth c G A Q k n S L (rowV G i :: st) (pc + 1)) : J wC nL R p l e s m args below meth c G A Q k n S L (iV i :: .ref (G.2.2 22) :: st) pc := by
  intro H locs ls hP hS hl
  have hi' : ix i (40 : Nat) := hi
  have h1 : i.toNat < 40 := by omega
  obtain ⟨f, hf⟩ : ∃ f : Nat → Option Nat, f = fun j : Nat => if j < 40 then some (G.2.2 (27 + j)) else none := ⟨_, rfl⟩
  have hcell : H[G.2.2 22]? = some (arrV (G.2.1 3) 40 (fun j => va_rf (f j))) := by
    rw [hf]
    exact hP 22 (G.2.2 22, .inl (G.2.1 3, 40, .inr (.inr (.inr (.inr (fun j : Nat => if j < 40 then some (G.2.2 (27 + j)) else none)))))) rfl
  have hin : ¬ (Int32.ofInt i < 0 ∨ (arrV (G.2.1 3) 40 (fun j => va_rf (f j))).slots.size ≤ (Int32.ofInt i).toNatClampNeg) := by
    rw [arrV_size]
    exact nz_in hi' (by decide)
  have hv : (arrV (G.2.1 3) 40 (fun j => va_rf (f j))).slots[(Int32.ofInt i).toNatClampNeg]? = some (rowV G i) := by
    rw [nz_cl hi'.1 (ix_r hi' (by decide)), arrV_read _ _ h1, hf]
    show some (va_rf (if i.toNat < 40 then _ else _)) = _
    rw [if_pos h1]
    rfl
  exact W.aald (v := rowV G i) (ty := .array .long) C.1.1 C.1.2.1 hcell ((C.K.2 3 (G.2.1 3, .array .long) rfl).1 40 (fun j => va_rf (f j))) rfl (fun q => by cases q) hin hv rfl rfl d (kk H locs ls hP hS hl)
theorem J_rld (C : Cx wC cc nL own Ts ret hh p l s m args meth c G A) (d : decode cc pc = .ok (.laload, 1)) {r i : Int} (hr : ix r 40) (hi : ix i 40)
    (kk : J wC nL R p l e s m args below meth c G A Q k n S L (lV (S 22 (40 * r + i)) :: st) (pc + 1)) : J wC nL R p l e s m args below meth c G A Q k n S L (iV i :: rowV G r :: st) pc := by
  intro H locs ls hP hS hl
  have hi' : ix i (40 : Nat) := hi
  refine va_lald C.1.1 C.1.2.1 C.K hP (27 + r.toNat) 2 (wC_row G S hr) rfl (nz_in hi' (by decide)) d ?_
  have h1 : (Int32.ofInt i).toNatClampNeg < 40 := by rw [nz_cl hi'.1 (ix_r hi' (by decide))]; omega
  rw [if_pos h1, ix_cl hi' (by decide)]
  exact kk H locs ls hP hS hl
theorem J_rst (C : Cx wC cc nL own Ts ret hh p l s m args meth c G A) (d : decode cc pc = .ok (.lastore, 1)) {r i v : Int} (hr : ix r 40) (hi : ix i 40)
    (kk : J wC nL R p l e s m args below meth c G A Q k n (up S 22 (40 * r + i) v) L st (pc + 1)) : J wC nL R p l e s m args below meth c G A Q k n S L (lV v :: iV i :: rowV G r :: st) pc := by
  intro H locs ls hP hS hl
  have hi' : ix i (40 : Nat) := hi
  refine va_last C.1.1 C.1.2.1 C.K hP (C.D S) hS (27 + r.toNat) 2 (wC_row G S hr) rfl (nz_in hi' (by decide)) d fun H1 locs1 hP1 hD1 hS1 => ?_
  have e : vp_updL (fun j : Nat => if j < 40 then Int64.ofInt (S 22 (40 * r + (j : Int))) else 0) (Int32.ofInt i).toNatClampNeg (Int64.ofInt v) = (fun j : Nat => if j < 40 then Int64.ofInt (up S 22 (40 * r + i) v 22 (40 * r + (j : Int))) else 0) := by
    funext j
    unfold vp_updL
    rw [nz_cl hi'.1 (ix_r hi' (by decide))]
    by_cases q : j = i.toNat
    · subst q
      rw [if_pos rfl, if_pos (by omega), up_at, if_pos (by omega)]
    · rw [if_neg q]
      show (if j < 40 then Int64.ofInt (S 22 (40 * r + (j : Int))) else 0) = _
      by_cases hj : j < 40
      · rw [if_pos hj, if_pos hj, up_at, if_neg (by omega)]
      · rw [if_neg hj, if_neg hj]
  rw [e, wC_setrow G S hr hi] at hP1
  exact kk H1 locs1 ls hP1 hS1 hl
end WR
