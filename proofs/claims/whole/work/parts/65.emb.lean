/-! CALLS IN A PIECE OF THE WORLD; what the law's own methods stand in; exceptions that are caught -/
section EMB
variable {SG S1 : Type} {w : Gp → SG → va_W} {w1 : Gp → S1 → va_W} {ok1 : S1 → Prop} {Qr : Int → S1 → Prop} {Qx : String → S1 → Prop} {cc : ByteArray} {nL : Nat} {own : String} {Ts : List Cond} {ret : Option FieldType} {hh : List (Nat × Nat × Nat × Nat)} {R : Room} {p : Program} {l : Launch} {e : Env} {s : State} {m : MethodId} {args : Array Value} {below : List Frame} {meth : Method} {c : Code} {G : Gp} {A : Nat → Prop} {Q : State → Prop} {k n : Nat} {σ : SG} {σ1 : S1} {put : S1 → SG} {f : Nat → Nat} {L : List (Option Value)} {pc : Nat}
/-- the world w holds the world w1, at the addresses f, as a piece -/
def Emb (w : Gp → SG → va_W) (w1 : Gp → S1 → va_W) (G : Gp) (f : Nat → Nat) (σ : SG) (σ1 : S1) (put : S1 → SG) : Prop := ∃ X Y : va_W, w G σ = X ++ w1 (G.1, G.2.1, f) σ1 ++ Y ∧ ∀ τ : S1, w G (put τ) = X ++ w1 (G.1, G.2.1, f) τ ++ Y
theorem E_in (E : Emb w w1 G f σ σ1 put) {sz q : Nat} (h : va_A (w1 (G.1, G.2.1, f) σ1) sz q) : va_A (w G σ) sz q := by
  obtain ⟨X, Y, h1, -⟩ := E
  rcases h with ⟨j, e, h⟩ | h
  · exact Or.inl ⟨_, e, by rw [h1]; exact zz_inl (zz_inr h)⟩
  · exact Or.inr h
theorem E_P (E : Emb w w1 G f σ σ1 put) {H : Heap} (hP : va_P G.1 vwCl (w G σ) H) : va_P G.1 vwCl (w1 (G.1, G.2.1, f) σ1) H := by
  obtain ⟨X, Y, h1, -⟩ := E
  rw [h1] at hP
  exact zz_Pr (zz_Pl hP)
theorem E_pre (C : Cx w cc nL own Ts ret hh p l s m args meth c G A) (E : Emb w w1 G f σ σ1 put) (hok : ok1 σ1) {H : Heap} {locs : List Loc} (hP : va_P G.1 vwCl (w G σ) H) (hS : va_S A s.heap H locs) {U : State} (hU : U.heap = H) (hW : s.WarmedH U.vm) : Pre w1 ok1 (G.1, G.2.1, f) σ1 H.size U := by
  refine ⟨by rw [hU], by rw [hU]; exact E_P E hP, va_K.moved hW.alike C.K, fun τ => ?_, hok, ?_⟩
  · obtain ⟨X, Y, -, h2⟩ := id E
    have hD := C.D (put τ)
    rw [h2] at hD
    exact (zz_Dr (zz_Dl hD)).weaken (fun _ _ _ _ => trivial)
  · rw [hU]
    exact XS.to C.2.2.2.2.2.2.1 hW (fun a h1 h2 => hS.2.1 a h1 h2) (fun q h => va_A_in C hS (E_in E h))
theorem E_back (C : Cx w cc nL own Ts ret hh p l s m args meth c G A) (E : Emb w w1 G f σ σ1 put) {H H1 : Heap} (hP : va_P G.1 vwCl (w G σ) H) (hk : ∀ q : Nat, q < H.size → ¬ va_A (w1 (G.1, G.2.1, f) σ1) H.size q → H1[q]? = H[q]?) {τ : S1} (hP1 : va_P G.1 vwCl (w1 (G.1, G.2.1, f) τ) H1) : va_P G.1 vwCl (w G (put τ)) H1 := by
  obtain ⟨X, Y, h1, h2⟩ := id E
  have hD := C.D σ
  rw [h1] at hP hD
  rw [h2]
  exact zz_mid (A := A) hP hD hk hP1
/-- the run of a call in a piece of the world -/
def RunE (kd : Nat) (w : Gp → SG → va_W) (w1 : Gp → S1 → va_W) (ok1 : S1 → Prop) (Qr : Int → S1 → Prop) (Qx : String → S1 → Prop) (nL : Nat) (R : Room) (p : Program) (l : Launch) (e : Env) (s : State) (m : MethodId) (args : Array Value) (below : List Frame) (meth : Method) (c : Code) (G : Gp) (A : Nat → Prop) (f : Nat → Nat) (k n mc ms : Nat) (σ : SG) (σ1 : S1) (L : List (Option Value)) (st rest : List Value) (pc : Nat) : Prop :=
  ∀ (H : Heap) (locs : List Loc) (ls : Array Slot), va_P G.1 vwCl (w G σ) H → va_S A s.heap H locs → lvh ls nL L → ∃ a : Array Value, vx_Run p l e R s m args below meth c H locs k n mc ms (F0 m pc ls st) rest (PQ kd w1 ok1 (G.1, G.2.1, f) Qr (va_A (w1 (G.1, G.2.1, f) σ1) H.size) a) (PX w1 ok1 (G.1, G.2.1, f) Qx (va_A (w1 (G.1, G.2.1, f) σ1) H.size)) (va_A (w1 (G.1, G.2.1, f) σ1) H.size)
variable {kd index : Nat} {y : MethodName} {cc' : ByteArray} {nL' : Nat} {ret' : Option FieldType} {ws' : List Cond} {rm' : Room} {av : Gp → List Value} {As rest stk : List Value}
theorem J_eV (C : Cx w cc nL own Ts ret hh p l s m args meth c G A) (E : Emb w w1 G f σ σ1 put) (M : MM kd w1 ok1 y ws' rm' av σ1 Qr Qx) (d : decode cc pc = .ok (.invokevirtual index, 3)) {b : Nat} (hav : av (G.1, G.2.1, f) = .ref b :: As) (hst : stk = As.reverse ++ .ref b :: rest) (q0 : Nat) {ci : Nat} {fs : List Value} {q : vw_C} (he : (w1 (G.1, G.2.1, f) σ1)[q0]? = some (b, .inr (ci, fs))) (hci : vwCl[ci]? = some q)
    (cw : CallW R s args own q.1 index y cc' nL' ret' ws' rm' rm'.cells rm'.slots As.length) (hok : ok1 σ1) (hrest : (rest.map fun v => v.category).sum ≤ 8) (hkn : k + rm'.cells ≤ R.cells ∧ n + rm'.slots ≤ R.slots) :
    RunE kd w w1 ok1 Qr Qx nL R p l e s m args below meth c G A f k n rm'.cells rm'.slots σ σ1 L stk rest pc := by
  intro H locs ls hP hS hl
  refine ⟨_, vx_runV (As := As) (rest := rest) (b := b) (C := q.1) C.1 (M l C.2.2.1 (G.1, G.2.1, f) H.size) cw ⟨Pre_blind, va_recv C.K (E_P E hP) hci he, fun U hU hW => ⟨by rw [hav], E_pre C E hok hP hS hU hW⟩⟩ rfl rfl hl.1 hst (lv_room hrest) d hkn⟩
variable {mc ms : Nat} {st : List Value}
theorem J_e0 (C : Cx w cc nL own Ts ret hh p l s m args meth c G A) (E : Emb w w1 G f σ σ1 put) (hr : RunE 0 w w1 ok1 Qr Qx nL R p l e s m args below meth c G A f k n mc ms σ σ1 L st rest pc)
    (kx : ∀ (N : String) (τ : S1), ok1 τ → Qx N τ → JX w nL R p l e s m args below meth c G A Q (k + mc) (n + ms) (put τ) L rest pc N)
    (kk : ∀ (τ : S1), ok1 τ → Qr 0 τ → J w nL R p l e s m args below meth c G A Q (k + mc) (n + ms) (put τ) L rest (pc + 3)) : J w nL R p l e s m args below meth c G A Q k n σ L st pc := by
  intro H locs ls hP hS hl
  obtain ⟨a, hr⟩ := hr H locs ls hP hS hl
  exact vx_callv (a := a) hr hS (fun q _ h => va_A_in C hS (E_in E h)) (fun q h => va_A_in C hS (E_in E h)) (fun q _ h => va_A_in C hS (E_in E h))
    (fun N ce q9 u t H1 locs1 ht hA hok hB hz hk hS1 hce hcv hcl => kx N u hok hB.1 H1 locs1 ls q9 ce (E_back C E hP hk (by rw [← ht]; exact hB.2)) hS1 hl hce hcv hcl)
    (fun u t H1 locs1 ht hA hq hB hz hk hS1 => kk u hq.1 hq.2 H1 locs1 ls (E_back C E hP hk (by rw [← ht]; exact hB)) hS1 hl)
theorem J_e1 (C : Cx w cc nL own Ts ret hh p l s m args meth c G A) (E : Emb w w1 G f σ σ1 put) (hr : RunE 1 w w1 ok1 Qr Qx nL R p l e s m args below meth c G A f k n mc ms σ σ1 L st rest pc)
    (kx : ∀ (N : String) (τ : S1), ok1 τ → Qx N τ → JX w nL R p l e s m args below meth c G A Q (k + mc) (n + ms) (put τ) L rest pc N)
    (kk : ∀ (r : Int) (τ : S1), r32 r → ok1 τ → Qr r τ → J w nL R p l e s m args below meth c G A Q (k + mc) (n + ms) (put τ) L (iV r :: rest) (pc + 3)) : J w nL R p l e s m args below meth c G A Q k n σ L st pc := by
  intro H locs ls hP hS hl
  obtain ⟨a, hr⟩ := hr H locs ls hP hS hl
  exact vx_calli (a := a) hr hS (fun q _ h => va_A_in C hS (E_in E h)) (fun q h => va_A_in C hS (E_in E h)) (fun q _ h => va_A_in C hS (E_in E h))
    (fun N ce q9 u t H1 locs1 ht hA hok hB hz hk hS1 hce hcv hcl => kx N u hok hB.1 H1 locs1 ls q9 ce (E_back C E hP hk (by rw [← ht]; exact hB.2)) hS1 hl hce hcv hcl)
    (fun r u t H1 locs1 ht hA hq hB hz hk hS1 => by rw [hq.1]; exact kk u.1 u.2 hq.2.1 hq.2.2.1 hq.2.2.2 H1 locs1 ls (E_back C E hP hk (by rw [← ht]; exact hB)) hS1 hl)
theorem J_e2 (C : Cx w cc nL own Ts ret hh p l s m args meth c G A) (E : Emb w w1 G f σ σ1 put) (hr : RunE 2 w w1 ok1 Qr Qx nL R p l e s m args below meth c G A f k n mc ms σ σ1 L st rest pc)
    (kx : ∀ (N : String) (τ : S1), ok1 τ → Qx N τ → JX w nL R p l e s m args below meth c G A Q (k + mc) (n + ms) (put τ) L rest pc N)
    (kk : ∀ (r : Int) (τ : S1), r64 r → ok1 τ → Qr r τ → J w nL R p l e s m args below meth c G A Q (k + mc) (n + ms) (put τ) L (lV r :: rest) (pc + 3)) : J w nL R p l e s m args below meth c G A Q k n σ L st pc := by
  intro H locs ls hP hS hl
  obtain ⟨a, hr⟩ := hr H locs ls hP hS hl
  exact vx_calll (a := a) hr hS (fun q _ h => va_A_in C hS (E_in E h)) (fun q h => va_A_in C hS (E_in E h)) (fun q _ h => va_A_in C hS (E_in E h))
    (fun N ce q9 u t H1 locs1 ht hA hok hB hz hk hS1 hce hcv hcl => kx N u hok hB.1 H1 locs1 ls q9 ce (E_back C E hP hk (by rw [← ht]; exact hB.2)) hS1 hl hce hcv hcl)
    (fun r u t H1 locs1 ht hA hq hB hz hk hS1 => by rw [hq.1]; exact kk u.1 u.2 hq.2.1 hq.2.2.1 hq.2.2.2 H1 locs1 ls (E_back C E hP hk (by rw [← ht]; exact hB)) hS1 hl)
/-- which of the three classes of exceptions are apart -/
def ncp : List (String × String) := [("java/lang/IllegalArgumentException", "java/lang/IllegalStateException"), ("java/lang/IllegalArgumentException", "java/lang/IndexOutOfBoundsException"), ("java/lang/IllegalStateException", "java/lang/IllegalArgumentException"), ("java/lang/IllegalStateException", "java/lang/IndexOutOfBoundsException"), ("java/lang/IndexOutOfBoundsException", "java/lang/IllegalArgumentException"), ("java/lang/IndexOutOfBoundsException", "java/lang/IllegalStateException")]
def NC (U : State) : Prop := ∀ q ∈ ncp, va_Nc q.1 q.2 U
theorem NC.moved {u U : State} (hvm : u.vm.Alike U.vm) (h : NC u) : NC U := fun q hq => va_Nc.moved hvm (h q hq)
theorem J_catch (C : Cx w cc nL own Ts ret hh p l s m args meth c G A) (hn : NC s) {N : String} (pre : List (Nat × Nat × Nat × Nat)) (x : Nat × Nat × Nat × Nat) (suf : List (Nat × Nat × Nat × Nat)) (hsp : hh = pre ++ x :: suf) (hcov : covers ⟨x.1, x.2.1, x.2.2.1, x.2.2.2⟩ pc = true) (hpre : ∀ z ∈ pre, z.2.2.2 ≠ 0 ∧ ∃ nm : String, Cond.classLink own z.2.2.2 nm ∈ Ts ∧ (N, nm) ∈ ncp) (h0 : x.2.2.2 ≠ 0) (hlink : Cond.classLink own x.2.2.2 N ∈ Ts) (hE : N ∈ exns)
    (kk : ∀ q9 : Nat, J w nL R p l e s m args below meth c G A Q k n σ L [.ref q9] x.2.2.1) : JX w nL R p l e s m args below meth c G A Q k n σ L st pc N := by
  intro H locs ls q9 ce hP hS hl hce hcv hcl
  refine vx_catch (own := own) (name := N) C.1.2.2.2.1 (tableOf pre) ⟨x.1, x.2.1, x.2.2.1, x.2.2.2⟩ (tableOf suf) ?_ ?_ hcov h0 (C.1.2.2.2.2 _ hlink) (va_Nw.use rfl (C.2.2.2.2.2.2.1.2.2.2.2.1 N hE)) hce hcv hcl (kk q9 H locs ls hP hS hl)
  · rw [C.2.2.2.2.2.2.2.2, hsp]
    simp [tableOf]
  · intro z hz
    obtain ⟨z', hz', rfl⟩ := List.mem_map.mp hz
    obtain ⟨g0, nm, g1, g2⟩ := hpre z' hz'
    exact Or.inr ⟨g0, nm, C.1.2.2.2.2 _ g1, hn _ g2⟩
theorem J_astore_n (C : Cx w cc nL own Ts ret hh p l s m args meth c G A) {i : Fin 4} {q : Nat} (d : decode cc pc = .ok (.astore_n i, 1)) (hi : (i : Nat) < nL) (kk : J w nL R p l e s m args below meth c G A Q k n σ (stI L (i : Nat) (.ref q)) st (pc + 1)) : J w nL R p l e s m args below meth c G A Q k n σ L (.ref q :: st) pc :=
  fun H locs ls hP hS hl => lv_astore_n C.1.1 C.1.2.1 d rfl hl hi rfl (fun ls' hl' => kk H locs ls' hP hS (lvh_st1 hl'))
end EMB
/-! the law's own methods: the class's cells and one row of one long -/
section WX
def outE (G : Gp) (o : Int) : va_E := .inl (G.2.1 2, 1, .inr (.inl (fun j : Nat => if j = 0 then Int64.ofInt o else 0)))
def wX (G : Gp) (σ : St × Int) : va_W := wC G σ.1 ++ [(G.2.2 90, outE G σ.2)]
def okX (σ : St × Int) : Prop := okC σ.1
theorem adX (G : Gp) (σ σ' : St × Int) : (wX G σ').map (fun q => q.1) = (wX G σ).map (fun q => q.1) := by
  unfold wX
  rw [List.map_append, List.map_append, adC G σ.1 σ'.1]
  rfl
theorem emb_XC (G : Gp) (S : St) (o : Int) : Emb wX wC G G.2.2 (S, o) S (fun τ => (τ, o)) := ⟨[], [(G.2.2 90, outE G o)], rfl, fun _ => rfl⟩
variable {cc : ByteArray} {nL : Nat} {own : String} {Ts : List Cond} {ret : Option FieldType} {hh : List (Nat × Nat × Nat × Nat)} {R : Room} {p : Program} {l : Launch} {e : Env} {s : State} {m : MethodId} {args : Array Value} {below : List Frame} {meth : Method} {c : Code} {G : Gp} {A : Nat → Prop} {Q : State → Prop} {k n : Nat} {S : St} {o : Int} {L : List (Option Value)} {st : List Value} {pc : Nat}
theorem outE_up (G : Gp) (o v : Int) : (.inl (G.2.1 2, 1, .inr (.inl (vp_updL (fun j : Nat => if j = 0 then Int64.ofInt o else 0) (Int32.ofInt 0).toNatClampNeg (Int64.ofInt v)))) : va_E) = outE G v := by
  unfold outE vp_updL
  have h : (Int32.ofInt 0).toNatClampNeg = 0 := by decide
  rw [h]
  have h2 : (fun j : Nat => if j = 0 then Int64.ofInt v else if j = 0 then Int64.ofInt o else 0) = fun j : Nat => if j = 0 then Int64.ofInt v else 0 := by
    funext j
    by_cases q : j = 0
    · rw [if_pos q, if_pos q]
    · rw [if_neg q, if_neg q, if_neg q]
  rw [h2]
theorem J_outst (C : Cx wX cc nL own Ts ret hh p l s m args meth c G A) (d : decode cc pc = .ok (.lastore, 1)) {v : Int}
    (kk : J wX nL R p l e s m args below meth c G A Q k n (S, v) L st (pc + 1)) : J wX nL R p l e s m args below meth c G A Q k n (S, o) L (lV v :: iV 0 :: .ref (G.2.2 90) :: st) pc := by
  intro H locs ls hP hS hl
  have he : (wX G (S, o))[(wC G S).length + 0]? = some (G.2.2 90, outE G o) := zz_inr (a := wC G S) (b := [(G.2.2 90, outE G o)]) rfl
  refine va_last C.1.1 C.1.2.1 C.K hP (C.D (S, o)) hS ((wC G S).length + 0) 2 he rfl (nz_in (n := 1) ⟨by decide, by decide⟩ (by decide)) d fun H1 locs1 hP1 hD1 hS1 => ?_
  rw [outE_up] at hP1
  have hset : (wX G (S, o)).set ((wC G S).length + 0) (G.2.2 90, outE G v) = wX G (S, v) := by
    unfold wX
    rw [List.set_append_right _ _ (Nat.le_add_right _ _), Nat.add_sub_cancel_left]
    rfl
  rw [hset] at hP1
  exact kk H1 locs1 ls hP1 hS1 hl
/-- a contract of a method of the law's own that catches what the class throws -/
def ML (y : MethodName) (ws : List Cond) (rm : Room) (av : Gp → List Value) (σ : St × Int) (Qr : Int → St × Int → Prop) : Prop :=
  ∀ (l : Launch), l.stackTraces = false → ∀ (G : Gp) (sz : Nat), vx_Met l y ws rm (va_Pc (av G) (fun U => Pre wX okX G σ sz U ∧ NC U)) (PQ 1 wX okX G Qr (va_A (wX G σ) sz)) (PX wX okX G (fun _ _ => False) (va_A (wX G σ) sz)) rm.cells rm.slots (va_A (wX G σ) sz)
theorem ML_of {y : MethodName} {av : Gp → List Value} {σ : St × Int} {Qr : Int → St × Int → Prop} {rm : Room} {ws'' : List Cond} (hy : plainName y.cls = true) (hws : Ts = Cond.codeWith y cc nL ret hh :: ws'') {Lf : Gp → List (Option Value)} (hlen : ∀ G, (lg_sl (av G)).length ≤ nL) (hL : ∀ G, asc (Lf G) = lv_args 0 (av G))
    (hR : ∀ (p : Program) (l : Launch) (e : Env) (s : State) (m : MethodId) (args : Array Value) (below : List Frame) (meth : Method) (c : Code) (G : Gp) (A : Nat → Prop), Cx wX cc nL y.cls Ts ret hh p l s m args meth c G A → NC s → okC σ.1 → J wX nL rm p l e s m args below meth c G A (QQ 1 wX okX G Qr (fun _ _ => False) A below args s rm.cells rm.slots) 0 0 σ (Lf G) [] 0) : ML y Ts rm av σ Qr := by
  intro l hl G sz
  refine vx_ofWH (hh := hh) hy hws ?_
  intro p e s m args below meth c s₁ B hml hv
  obtain ⟨rfl, ⟨hsz, hP, hK, hD, hok, hX⟩, hn⟩ := hv
  subst hsz
  have hown : s.vm.findClass y.cls = some m.cls := findClass_of_methodNamed B.named
  have hADR : ∀ σ', va_D (va_A (wX G σ) s.heap.size) (wX G σ') := fun σ' => (hD σ').weaken (fun j q hj _ => by
    have e1 : ((wX G σ').map (fun q => q.1))[j]? = some q.1 := by rw [List.getElem?_map, hj]; rfl
    rw [adX G σ σ', List.getElem?_map] at e1
    cases e2 : (wX G σ)[j]? with
    | none => rw [e2] at e1; cases e1
    | some z =>
      rw [e2] at e1
      have e3 : z.1 = q.1 := Option.some.inj e1
      rw [← e3]
      exact va_A.in e2)
  have hxt : c.exceptionTable.toList = tableOf hh := by
    obtain ⟨m9, meth9, c9, hn9, h1, h2, -, -, h7, -⟩ := Cond.codeWith_spec (atoms_spec (ws := Ts) B.pre _ (by rw [hws]; exact List.mem_cons_self))
    cases Option.some.inj (hn9.symm.trans B.named)
    cases Option.some.inj (h1.symm.trans B.method)
    cases Option.some.inj (h2.symm.trans (Stand.of_body B).code)
    rw [← h7, table_eq]
  have C : Cx wX cc nL y.cls Ts ret hh p l s m (av G).toArray meth c G (va_A (wX G σ) s.heap.size) :=
    ⟨⟨B.exec, B.bytes, hml, hown, atoms_spec (ws := Ts) B.pre⟩, B.returns, hl, hK, B.notSynchronized, fun q h => Or.inr h, hX, hADR, hxt⟩
  have hle := lv_entry (av G) (n := nL) (hlen G)
  rw [lg_entry_eq]
  generalize (lg_sl (av G) ++ List.replicate (nL - (lg_sl (av G)).length) Slot.unset).toArray = ls at hle ⊢
  have hl2 : lvh ls nL (Lf G) := by
    show lv_has ls nL (asc (Lf G))
    rw [hL G]
    exact hle
  exact hR p l e s m _ below meth c G _ C hn hok s.heap [] ls hP va_S.rf hl2
end WX
