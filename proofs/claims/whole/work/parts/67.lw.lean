/-! THE LAW'S WORLD: the class's cells, the row of one long, the reference's cells; the script lies apart -/
section WL
def wL (G : Gp) (σ : St × Int × St) : va_W := wX G (σ.1, σ.2.1) ++ wM (G.1, G.2.1, fun k => G.2.2 (100 + k)) σ.2.2
theorem adL (G : Gp) (σ σ' : St × Int × St) : (wL G σ').map (fun q => q.1) = (wL G σ).map (fun q => q.1) := by
  unfold wL
  rw [List.map_append, List.map_append, adX G (σ.1, σ.2.1) (σ'.1, σ'.2.1), adM _ σ.2.2 σ'.2.2]
theorem emb_LX (G : Gp) (S : St) (o : Int) (T : St) : Emb wL wX G G.2.2 (S, o, T) (S, o) (fun τ => (τ.1, τ.2, T)) := ⟨[], wM (G.1, G.2.1, fun k => G.2.2 (100 + k)) T, rfl, fun _ => rfl⟩
theorem emb_LC (G : Gp) (S : St) (o : Int) (T : St) : Emb wL wC G G.2.2 (S, o, T) S (fun τ => (τ, o, T)) := ⟨[], [(G.2.2 90, outE G o)] ++ wM (G.1, G.2.1, fun k => G.2.2 (100 + k)) T, by unfold wL wX; rw [List.append_assoc]; rfl, fun _ => by unfold wL wX; rw [List.append_assoc]; rfl⟩
theorem emb_LM (G : Gp) (S : St) (o : Int) (T : St) : Emb wL wM G (fun k => G.2.2 (100 + k)) (S, o, T) T (fun τ => (S, o, τ)) := ⟨wX G (S, o), [], by rw [List.append_nil]; rfl, fun _ => by rw [List.append_nil]; rfl⟩
def sv (xs : Nat → Int32) (z : Int) : Int := (xs z.toNat).toInt
theorem r_sv (xs : Nat → Int32) (z : Int) : r32 (sv xs z) := nz_rng _
/-- what the law's body has at hand -/
def LC (hh : List (Nat × Nat × Nat × Nat)) (p : Program) (l : Launch) (s : State) (m : MethodId) (args : Array Value) (meth : Method) (c : Code) (G : Gp) (A : Nat → Prop) (b Ls : Nat) (xs : Nat → Int32) : Prop :=
  Cx wL code 7 RL wsL_law (some .boolean) hh p l s m args meth c G A ∧ NC s ∧ va_X b Ls xs s s.heap ∧ b < s.heap.size ∧ ¬ A b ∧ Ls ≤ 3072
variable {hh : List (Nat × Nat × Nat × Nat)} {p : Program} {l : Launch} {e : Env} {s : State} {m : MethodId} {args : Array Value} {below : List Frame} {meth : Method} {c : Code} {G : Gp} {A : Nat → Prop} {Q : State → Prop} {k n : Nat} {σ : St × Int × St} {S T : St} {o : Int} {L : List (Option Value)} {st : List Value} {pc b Ls : Nat} {xs : Nat → Int32}
theorem J_sld (X : LC hh p l s m args meth c G A b Ls xs) (d : decode code pc = .ok (.iaload, 1)) {z : Int} (hz : 0 ≤ z ∧ z < Ls) (kk : J wL 7 room_1 p l e s m args below meth c G A Q k n σ L (iV (sv xs z) :: st) (pc + 1)) : J wL 7 room_1 p l e s m args below meth c G A Q k n σ L (iV z :: .ref b :: st) pc := by
  intro H locs ls hP hS hl
  obtain ⟨C, -, hX, hbl, hbA, hL⟩ := X
  have hz' : ix z Ls := hz
  have hL' : Ls < 2 ^ 31 := by omega
  refine va_sld C.1.1 C.1.2.1 hX hbl hbA hS (nz_in hz' hL') d ?_
  have h := kk H locs ls hP hS hl
  rw [nz_cl hz.1 (ix_r hz' hL')]
  rw [iV, sv, nz_of] at h
  exact h
theorem J_slen (X : LC hh p l s m args meth c G A b Ls xs) (d : decode code pc = .ok (.arraylength, 1)) (kk : J wL 7 room_1 p l e s m args below meth c G A Q k n σ L (iV (Ls : Int) :: st) (pc + 1)) : J wL 7 room_1 p l e s m args below meth c G A Q k n σ L (.ref b :: st) pc := by
  intro H locs ls hP hS hl
  obtain ⟨C, -, hX, hbl, hbA, hL⟩ := X
  refine va_slen C.1.1 C.1.2.1 hX hbl hbA hS d ?_
  have h := kk H locs ls hP hS hl
  have e1 : Int32.ofNat Ls = Int32.ofInt (Ls : Int) := by
    apply Int32.toInt_inj.mp
    rw [nz_ti ⟨by omega, by omega⟩]
    exact Int32.toInt_ofNat_of_lt (by omega)
  rw [e1]
  exact h
theorem J_oald {cc : ByteArray} {nL : Nat} {own : String} {Ts : List Cond} {ret : Option FieldType} {R : Room} (C : Cx wL cc nL own Ts ret hh p l s m args meth c G A) (d : decode cc pc = .ok (.laload, 1)) (kk : J wL nL R p l e s m args below meth c G A Q k n (S, o, T) L (lV o :: st) (pc + 1)) : J wL nL R p l e s m args below meth c G A Q k n (S, o, T) L (iV 0 :: .ref (G.2.2 90) :: st) pc := by
  intro H locs ls hP hS hl
  have he : (wL G (S, o, T))[(wC G S).length + 0]? = some (G.2.2 90, outE G o) := zz_inl (zz_inr (a := wC G S) (b := [(G.2.2 90, outE G o)]) rfl)
  refine va_lald C.1.1 C.1.2.1 C.K hP ((wC G S).length + 0) 2 he rfl (nz_in (n := 1) ⟨by decide, by decide⟩ (by decide)) d ?_
  have h : (Int32.ofInt 0).toNatClampNeg = 0 := by decide
  rw [h, if_pos rfl]
  exact kk H locs ls hP hS hl
theorem ML_blind {y : MethodName} {av : List Value} {τ : St × Int} {sz : Nat} : FrameBlind (va_Pc av (fun U => Pre wX okX G τ sz U ∧ NC U)) := by
  intro a U g mk h
  obtain ⟨h0, h1, h2⟩ := h
  obtain ⟨-, h3⟩ := Pre_blind a U g mk (show va_Pc av (Pre wX okX G τ sz) a U from ⟨h0, h1⟩)
  exact ⟨h0, h3, NC.moved (u := U) (U := U.calling g mk a) (Vm.Alike.refl U.vm) h2⟩
variable {index : Nat} {y : MethodName} {cc' : ByteArray} {nL' : Nat} {ret' : Option FieldType} {hh' : List (Nat × Nat × Nat × Nat)} {ws' : List Cond} {rm' : Room} {av : Gp → List Value} {As rest stk : List Value} {Qr : Int → St × Int → Prop}
theorem J_eSX (X : LC hh p l s m args meth c G A b Ls xs) (M : ML y ws' rm' av (S, o) Qr) (d : decode code pc = .ok (.invokestatic index, 3)) (hav : av G = As) (hst : stk = As.reverse ++ rest)
    (cw : vx_CSW room_1 s args RL index y cc' nL' ret' hh' ws' rm' rm'.cells rm'.slots As.length) (hok : okC S) (hrest : (rest.map fun v => v.category).sum ≤ 8) (hkn : k + rm'.cells ≤ room_1.cells ∧ n + rm'.slots ≤ room_1.slots) :
    RunE 1 wL wX okX Qr (fun _ _ => False) 7 room_1 p l e s m args below meth c G A G.2.2 k n rm'.cells rm'.slots (S, o, T) (S, o) L stk rest pc := by
  intro H locs ls hP hS hl
  obtain ⟨C, hn, -⟩ := X
  refine ⟨_, vx_runSX (As := As) (rest := rest) C.1 (M l C.2.2.1 G H.size) cw ⟨ML_blind (y := y), fun U hU hW => ⟨by rw [hav], E_pre C (emb_LX G S o T) hok hP hS hU hW, NC.moved hW.alike hn⟩⟩ rfl rfl hl.1 hst (lv_room hrest) d hkn⟩
/-- the law's locals at its loop's head -/
def LH (G : Gp) (b : Nat) (i : Int) : List (Option Value) := [some (.ref b), some (.ref (G.2.2 0)), some (.ref (G.2.2 100)), some (.ref (G.2.2 90)), some (iV i), none, none]
/-- what holds at the loop's head: class and reference stand for one state -/
def LI (σ : St × Int × St) : Prop := ∃ V : St, Inv V ∧ vw σ.1 = V ∧ cs σ.2.2 = V ∧ Tb σ.2.2 ∧ okC σ.1 ∧ okM σ.2.2
/-- a case of the law's switch -/
def Case (hh : List (Nat × Nat × Nat × Nat)) (pc : Nat) : Prop := ∀ (p : Program) (l : Launch) (e : Env) (s : State) (m : MethodId) (args : Array Value) (below : List Frame) (meth : Method) (c : Code) (G : Gp) (A : Nat → Prop) (Q : State → Prop) (b Ls : Nat) (xs : Nat → Int32) (i : Int) (k n : Nat) (σ : St × Int × St), LC hh p l s m args meth c G A b Ls xs → 0 ≤ i ∧ i + 6 ≤ Ls → k + 20 ≤ 601000 → n + 200 ≤ 7293000 → LI σ →
  (∀ σ' : St × Int × St, LI σ' → J wL 7 room_1 p l e s m args below meth c G A Q (k + 20) (n + 200) σ' (LH G b i) [] 1809) → J wL 7 room_1 p l e s m args below meth c G A Q k n σ (LH G b i) [] pc
end WL
