/-! THE SCRIPT'S NUMBERS: draw; what the law's body stands in -/
section DRAW
def sv (xs : Nat → Int32) (z : Int) : Int := (xs z.toNat).toInt
theorem r_sv (xs : Nat → Int32) (z : Int) : r32 (sv xs z) := nz_rng _
theorem zand_pos (a : Int) : 0 ≤ zand a 2147483647 := by
  unfold zand
  have h : (Int32.ofInt a &&& Int32.ofInt 2147483647).toBitVec.msb = false := by
    rw [Int32.toBitVec_and, BitVec.msb_and, show (Int32.ofInt 2147483647).toBitVec.msb = false by decide, Bool.and_false]
  rw [BitVec.msb_eq_toInt] at h
  have h2 := of_decide_eq_false h
  have h3 : (Int32.ofInt a &&& Int32.ofInt 2147483647).toInt = (Int32.ofInt a &&& Int32.ofInt 2147483647).toBitVec.toInt := rfl
  omega
theorem ofNat_iV {n : Nat} (h : n ≤ 260) : Int32.ofNat n = Int32.ofInt (n : Int) := by
  apply Int32.toInt_inj.mp
  rw [nz_ti ⟨by omega, by omega⟩]
  exact Int32.toInt_ofNat_of_lt (by omega)
def rmD : Room := { frames := 2, cells := 0, slots := 0, locals := 40 }
set_option maxRecDepth 100000 in
theorem mt_draw (l : Launch) {b Ls : Nat} {xs : Nat → Int32} {z : Int} (hz : 0 ≤ z ∧ z < Ls) (hL : Ls ≤ 260) : Met l yL_draw wsL_draw rmD (va_Pc [.ref b, iV z] (fun U => va_X b Ls xs U U.heap ∧ b < U.heap.size)) (va_Qi (fun r (_ : Unit) => r = Int32.ofInt (zand (sv xs z) 2147483647)) (fun _ _ => True) (fun _ => False)) 0 0 (fun _ => False) := by
  refine Met.ofW (cc := cL_draw) (maxL := 2) (ret := some .int) (by decide) rfl ?_
  intro p e s m args below meth c s₁ B hml hv
  obtain ⟨rfl, hX, hbl⟩ := hv
  have hx := B.exec
  have hb := B.bytes
  have hr := B.returns
  have hts := atoms_spec (ws := wsL_draw) B.pre
  have hown : s.vm.findClass RL = some m.cls := findClass_of_methodNamed B.named
  have hlocks := B.notSynchronized
  have hS : va_S (fun _ => False) s.heap s.heap [] := va_S.rf
  have hl := lv_entry ([.ref b, iV z]) (n := 2) (Nat.le_of_ble_eq_true rfl)
  rw [lg_entry_eq]
  generalize (lg_sl ([.ref b, iV z]) ++ List.replicate (2 - (lg_sl ([.ref b, iV z])).length) Slot.unset).toArray = ls at hl ⊢
  have hl : lv_has ls 2 [(0, .ref b), (1, iV z)] := hl
  have hz' : ix z Ls := hz
  have hL' : Ls < 2 ^ 31 := by omega
  have rz := ix_r hz' hL'
  refine lv_iload_n hx hb dL_draw_0 rfl (lv_at hl 1 rfl) ?_
  refine lv_aload_n hx hb dL_draw_1 rfl (lv_at hl 0 rfl) ?_
  refine va_slen hx hb hX hbl (fun h => h) hS dL_draw_2 ?_
  rw [ofNat_iV hL]
  refine lv_icmp_ge (tgt := 15) hx hb dL_draw_3 (by decide) (fun h => absurd ((nz_le ⟨by omega, by omega⟩ rz).mp h) (by omega)) (fun _ => ?_)
  refine lv_aload_n hx hb dL_draw_6 rfl (lv_at hl 0 rfl) ?_
  refine lv_iload_n hx hb dL_draw_7 rfl (lv_at hl 1 rfl) ?_
  refine va_sld hx hb hX hbl (fun h => h) hS (nz_in hz' hL') dL_draw_8 ?_
  rw [nz_cl hz.1 rz]
  refine lv_ldc hx hb hown (hts (.constant RL 7 2147483647) (by decide +kernel)) dL_draw_9 ?_
  refine lv_iand hx hb dL_draw_11 ?_
  refine lv_goto (tgt := 24) hx hb dL_draw_12 (by decide) ?_
  have e : xs z.toNat &&& 2147483647 = Int32.ofInt (zand (sv xs z) 2147483647) := by
    rw [zand, nz_of, sv, nz_of]
    rfl
  rw [e]
  exact W.iret hx hb hr (fun t ht hW => ⟨⟨_, (), rfl, rfl, trivial⟩, hS.F ht⟩) hS.2.2 dL_draw_24 (hlocks := hlocks)
theorem draw_blind {av : List Value} {b Ls : Nat} {xs : Nat → Int32} : FrameBlind (va_Pc av (fun U => va_X b Ls xs U U.heap ∧ b < U.heap.size)) := by
  intro a U g mk h
  obtain ⟨h0, h1, h2⟩ := h
  exact ⟨h0, va_X.moved (u := U) (U := U.calling g mk a) (Vm.Alike.refl U.vm) h1, h2⟩
/-- what the law's body has at hand -/
def LC (hh : List (Nat × Nat × Nat × Nat)) (p : Program) (l : Launch) (s : State) (m : MethodId) (args : Array Value) (meth : Method) (c : Code) (G : Gp) (A : Nat → Prop) (b Ls : Nat) (xs : Nat → Int32) : Prop :=
  Cx wL code 7 RL wsL_law (some .boolean) hh p l s m args meth c G A ∧ va_X b Ls xs s s.heap ∧ b < s.heap.size ∧ ¬ A b ∧ Ls ≤ 260
variable {hh : List (Nat × Nat × Nat × Nat)} {p : Program} {l : Launch} {e : Env} {s : State} {m : MethodId} {args : Array Value} {below : List Frame} {meth : Method} {c : Code} {G : Gp} {A : Nat → Prop} {Q : State → Prop} {k n : Nat} {S : St} {L : List (Option Value)} {st : List Value} {pc b Ls : Nat} {xs : Nat → Int32}
theorem J_slen (X : LC hh p l s m args meth c G A b Ls xs) (d : decode code pc = .ok (.arraylength, 1)) (kk : J wL 7 room_1 p l e s m args below meth c G A Q k n S L (iV (Ls : Int) :: st) (pc + 1)) : J wL 7 room_1 p l e s m args below meth c G A Q k n S L (.ref b :: st) pc := by
  intro H locs ls hP hS hl
  obtain ⟨C, hX, hbl, hbA, hL⟩ := X
  refine va_slen C.1.1 C.1.2.1 hX hbl hbA hS d ?_
  rw [ofNat_iV hL]
  exact kk H locs ls hP hS hl
theorem J_draw (X : LC hh p l s m args meth c G A b Ls xs) {z : Int} (hz : 0 ≤ z ∧ z < Ls) (d : decode code pc = .ok (.invokestatic 151, 3)) (hrest : (st.map fun v => v.category).sum ≤ 8) (hkn : k ≤ room_1.cells ∧ n ≤ room_1.slots) (kk : J wL 7 room_1 p l e s m args below meth c G A Q k n S L (iV (zand (sv xs z) 2147483647) :: st) (pc + 3)) : J wL 7 room_1 p l e s m args below meth c G A Q k n S L (iV z :: .ref b :: st) pc := by
  intro H locs ls hP hS hl
  obtain ⟨C, hX, hbl, hbA, hL⟩ := X
  refine va_calli (va_runS (As := [.ref b, iV z]) (rest := st) C.1 (mt_draw l (xs := xs) hz hL) (va_cwS 2 C.1.2.2.2.2 gL_law_L_draw rfl rfl rfl (by decide +kernel) ⟨Nat.le_of_ble_eq_true rfl, Nat.le_of_ble_eq_true rfl⟩) ⟨draw_blind, fun U hU hW => ⟨rfl, ?_, ?_⟩⟩ rfl rfl hl.1 rfl (lv_room hrest) d hkn) hS (fun q _ h => h.elim) (fun q h => h.elim) (fun r u t H1 locs1 ht hvm hw hB hz1 hk1 hS1 => ?_)
  · rw [hU]
    exact va_X.kept (hX.moved hW.alike) (hS.2.1 b hbl hbA)
  · rw [hU]
    exact Nat.lt_of_lt_of_le hbl hS.1
  · have hw : r = Int32.ofInt (zand (sv xs z) 2147483647) := hw
    rw [hw]
    exact kk H1 locs1 ls (fun i q h => (hP i q h).kept (hk1 q.1 (hP i q h).lt (fun z => z))) hS1 hl
end DRAW
