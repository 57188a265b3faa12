/-! CALLS IN A PIECE OF THE WORLD; what the law's own methods stand in; exceptions that are caught -/
section EMB
variable {SG S1 : Type} {w : Gp → SG → va_W} {w1 : Gp → S1 → va_W} {ok1 : S1 → Prop} {Qr : Int → S1 → Prop} {Qx : String → S1 → Prop} {cc : ByteArray} {nL : Nat} {own : String} {Ts : List Cond} {ret : Option FieldType} {hh : List (Nat × Nat × Nat × Nat)} {R : Room} {p : Program} {l : Launch} {e : Env} {s : State} {m : MethodId} {args : Array Value} {below : List Frame} {meth : Method} {c : Code} {G : Gp} {A : Nat → Prop} {Q : State → Prop} {k n : Nat} {σ : SG} {σ1 : S1} {put : S1 → SG} {f : Nat → Nat} {L : List (Option Value)} {pc : Nat}
/-- the world w holds the world w1, at the addresses f, as a piece -/
def Emb (w : Gp → SG → va_W) (w1 : Gp → S1 → va_W) (G : Gp) (f : Nat → Nat) (σ : SG) (σ1 : S1) (put : S1 → SG) : Prop := ∃ X Y : va_W, w G σ = X ++ w1 (G.1, G.2.1, f) σ1 ++ Y ∧ ∀ τ : S1, w G (put τ) = X ++ w1 (G.1, G.2.1, f) τ ++ Y
theorem E_in (E : Emb w w1 G f σ σ1 put) {sz q : Nat} (h : va_A (w1 (G.1, G.2.1, f) σ1) sz q) : va_A (w G σ) sz q := by
  obtain ⟨X, Y, h1, -⟩ := E
  rcases h with ⟨j, e, h⟩ | h
  · exact Or.inl ⟨_, e, by rw [h1]; exact zz_inl (zz_inr h)⟩
  · exact Or.inr h
theorem E_P (E : Emb w w1 G f σ σ1 put) {H : Heap} (hP : va_P G.1 vwCl (w G σ) H) : va_P G.1 vwCl (w1 (G.1, G.2.1, f) σ1) H := by
  obtain ⟨X, Y, h1, -⟩ := E
  rw [h1] at hP
  exact zz_Pr (zz_Pl hP)
theorem E_pre (C : Cx w cc nL own Ts ret hh p l s m args meth c G A) (E : Emb w w1 G f σ σ1 put) (hok : ok1 σ1) {H : Heap} {locs : List Loc} (hP : va_P G.1 vwCl (w G σ) H) (hS : va_S A s.heap H locs) {U : State} (hU : U.heap = H) (hW : s.WarmedH U.vm) : Pre w1 ok1 (G.1, G.2.1, f) σ1 H.size U := by
  refine ⟨by rw [hU], by rw [hU]; exact E_P E hP, va_K.moved hW.alike C.K, fun τ => ?_, hok, ?_⟩
  · obtain ⟨X, Y, -, h2⟩ := id E
    have hD := C.D (put τ)
    rw [h2] at hD
    exact (zz_Dr (zz_Dl hD)).weaken (fun _ _ _ _ => trivial)
  · rw [hU]
    exact XS.to C.2.2.2.2.2.2.1 hW (fun a h1 h2 => hS.2.1 a h1 h2) (fun q h => va_A_in C hS (E_in E h))
theorem E_back (C : Cx w cc nL own Ts ret hh p l s m args meth c G A) (E : Emb w w1 G f σ σ1 put) {H H1 : Heap} (hP : va_P G.1 vwCl (w G σ) H) (hk : ∀ q : Nat, q < H.size → ¬ va_A (w1 (G.1, G.2.1, f) σ1) H.size q → H1[q]? = H[q]?) {τ : S1} (hP1 : va_P G.1 vwCl (w1 (G.1, G.2.1, f) τ) H1) : va_P G.1 vwCl (w G (put τ)) H1 := by
  obtain ⟨X, Y, h1, h2⟩ := id E
  have hD := C.D σ
  rw [h1] at hP hD
  rw [h2]
  exact zz_mid (A := A) hP hD hk hP1
/-- the run of a call in a piece of the world -/
def RunE (kd : Nat) (w : Gp → SG → va_W) (w1 : Gp → S1 → va_W) (ok1 : S1 → Prop) (Qr : Int → S1 → Prop) (Qx : String → S1 → Prop) (nL : Nat) (R : Room) (p : Program) (l : Launch) (e : Env) (s : State) (m : MethodId) (args : Array Value) (below : List Frame) (meth : Method) (c : Code) (G : Gp) (A : Nat → Prop) (f : Nat → Nat) (k n mc ms : Nat) (σ : SG) (σ1 : S1) (L : List (Option Value)) (st rest : List Value) (pc : Nat) : Prop :=
  ∀ (H : Heap) (locs : List Loc) (ls : Array Slot), va_P G.1 vwCl (w G σ) H → va_S A s.heap H locs → lvh ls nL L → ∃ a : Array Value, vx_Run p l e R s m args below meth c H locs k n mc ms (F0 m pc ls st) rest (PQ kd w1 ok1 (G.1, G.2.1, f) Qr (va_A (w1 (G.1, G.2.1, f) σ1) H.size) a) (PX w1 ok1 (G.1, G.2.1, f) Qx (va_A (w1 (G.1, G.2.1, f) σ1) H.size)) (va_A (w1 (G.1, G.2.1, f) σ1) H.size)
variable {kd index : Nat} {y : MethodName} {cc' : ByteArray} {nL' : Nat} {ret' : Option FieldType} {ws' : List Cond} {rm' : Room} {av : Gp → List Value} {As rest stk : List Value}
theorem J_eV (C : Cx w cc nL own Ts ret hh p l s m args meth c G A) (E : Emb w w1 G f σ σ1 put) (M : MM kd w1 ok1 y ws' rm' av σ1 Qr Qx) (d : decode cc pc = .ok (.invokevirtual index, 3)) {b : Nat} (hav : av (G.1, G.2.1, f) = .ref b :: As) (hst : stk = As.reverse ++ .ref b :: rest) (q0 : Nat) {ci : Nat} {fs : List Value} {q : vw_C} (he : (w1 (G.1, G.2.1, f) σ1)[q0]? = some (b, .inr (ci, fs))) (hci : vwCl[ci]? = some q)
    (cw : CallW R s args own q.1 index y cc' nL' ret' ws' rm' rm'.cells rm'.slots As.length) (hok : ok1 σ1) (hrest : (rest.map fun v => v.category).sum ≤ 8) (hkn : k + rm'.cells ≤ R.cells ∧ n + rm'.slots ≤ R.slots) :
    RunE kd w w1 ok1 Qr Qx nL R p l e s m args below meth c G A f k n rm'.cells rm'.slots σ σ1 L stk rest pc := by
  intro H locs ls hP hS hl
  refine ⟨_, vx_runV (As := As) (rest := rest) (b := b) (C := q.1) C.1 (M l C.2.2.1 (G.1, G.2.1, f) H.size) cw ⟨Pre_blind, va_recv C.K (E_P E hP) hci he, fun U hU hW => ⟨by rw [hav], E_pre C E hok hP hS hU hW⟩⟩ rfl rfl hl.1 hst (lv_room hrest) d hkn⟩
variable {mc ms : Nat} {st : List Value}
theorem J_e0 (C : Cx w cc nL own Ts ret hh p l s m args meth c G A) (E : Emb w w1 G f σ σ1 put) (hr : RunE 0 w w1 ok1 Qr Qx nL R p l e s m args below meth c G A f k n mc ms σ σ1 L st rest pc)
    (kx : ∀ (N : String) (τ : S1), ok1 τ → Qx N τ → JX w nL R p l e s m args below meth c G A Q (k + mc) (n + ms) (put τ) L rest pc N)
    (kk : ∀ (τ : S1), ok1 τ → Qr 0 τ → J w nL R p l e s m args below meth c G A Q (k + mc) (n + ms) (put τ) L rest (pc + 3)) : J w nL R p l e s m args below meth c G A Q k n σ L st pc := by
  intro H locs ls hP hS hl
  obtain ⟨a, hr⟩ := hr H locs ls hP hS hl
  exact vx_callv (a := a) hr hS (fun q _ h => va_A_in C hS (E_in E h)) (fun q h => va_A_in C hS (E_in E h)) (fun q _ h => va_A_in C hS (E_in E h))
    (fun N ce q9 u t H1 locs1 ht hA hok hB hz hk hS1 hce hcv hcl => kx N u hok hB.1 H1 locs1 ls q9 ce (E_back C E hP hk (by rw [← ht]; exact hB.2)) hS1 hl hce hcv hcl)
    (fun u t H1 locs1 ht hA hq hB hz hk hS1 => kk u hq.1 hq.2 H1 locs1 ls (E_back C E hP hk (by rw [← ht]; exact hB)) hS1 hl)
theorem J_e1 (C : Cx w cc nL own Ts ret hh p l s m args meth c G A) (E : Emb w w1 G f σ σ1 put) (hr : RunE 1 w w1 ok1 Qr Qx nL R p l e s m args below meth c G A f k n mc ms σ σ1 L st rest pc)
    (kx : ∀ (N : String) (τ : S1), ok1 τ → Qx N τ → JX w nL R p l e s m args below meth c G A Q (k + mc) (n + ms) (put τ) L rest pc N)
    (kk : ∀ (r : Int) (τ : S1), r32 r → ok1 τ → Qr r τ → J w nL R p l e s m args below meth c G A Q (k + mc) (n + ms) (put τ) L (iV r :: rest) (pc + 3)) : J w nL R p l e s m args below meth c G A Q k n σ L st pc := by
  intro H locs ls hP hS hl
  obtain ⟨a, hr⟩ := hr H locs ls hP hS hl
  exact vx_calli (a := a) hr hS (fun q _ h => va_A_in C hS (E_in E h)) (fun q h => va_A_in C hS (E_in E h)) (fun q _ h => va_A_in C hS (E_in E h))
    (fun N ce q9 u t H1 locs1 ht hA hok hB hz hk hS1 hce hcv hcl => kx N u hok hB.1 H1 locs1 ls q9 ce (E_back C E hP hk (by rw [← ht]; exact hB.2)) hS1 hl hce hcv hcl)
    (fun r u t H1 locs1 ht hA hq hB hz hk hS1 => by rw [hq.1]; exact kk u.1 u.2 hq.2.1 hq.2.2.1 hq.2.2.2 H1 locs1 ls (E_back C E hP hk (by rw [← ht]; exact hB)) hS1 hl)
theorem J_e2 (C : Cx w cc nL own Ts ret hh p l s m args meth c G A) (E : Emb w w1 G f σ σ1 put) (hr : RunE 2 w w1 ok1 Qr Qx nL R p l e s m args below meth c G A f k n mc ms σ σ1 L st rest pc)
    (kx : ∀ (N : String) (τ : S1), ok1 τ → Qx N τ → JX w nL R p l e s m args below meth c G A Q (k + mc) (n + ms) (put τ) L rest pc N)
    (kk : ∀ (r : Int) (τ : S1), r64 r → ok1 τ → Qr r τ → J w nL R p l e s m args below meth c G A Q (k + mc) (n + ms) (put τ) L (lV r :: rest) (pc + 3)) : J w nL R p l e s m args below meth c G A Q k n σ L st pc := by
  intro H locs ls hP hS hl
  obtain ⟨a, hr⟩ := hr H locs ls hP hS hl
  exact vx_calll (a := a) hr hS (fun q _ h => va_A_in C hS (E_in E h)) (fun q h => va_A_in C hS (E_in E h)) (fun q _ h => va_A_in C hS (E_in E h))
    (fun N ce q9 u t H1 locs1 ht hA hok hB hz hk hS1 hce hcv hcl => kx N u hok hB.1 H1 locs1 ls q9 ce (E_back C E hP hk (by rw [← ht]; exact hB.2)) hS1 hl hce hcv hcl)
    (fun r u t H1 locs1 ht hA hq hB hz hk hS1 => by rw [hq.1]; exact kk u.1 u.2 hq.2.1 hq.2.2.1 hq.2.2.2 H1 locs1 ls (E_back C E hP hk (by rw [← ht]; exact hB)) hS1 hl)
theorem J_catch (C : Cx w cc nL own Ts ret hh p l s m args meth c G A) (hn : NC s) {N : String} (pre : List (Nat × Nat × Nat × Nat)) (x : Nat × Nat × Nat × Nat) (suf : List (Nat × Nat × Nat × Nat)) (hsp : hh = pre ++ x :: suf) (hcov : covers ⟨x.1, x.2.1, x.2.2.1, x.2.2.2⟩ pc = true) (hpre : ∀ z ∈ pre, z.2.2.2 ≠ 0 ∧ ∃ nm : String, Cond.classLink own z.2.2.2 nm ∈ Ts ∧ (N, nm) ∈ ncp) (h0 : x.2.2.2 ≠ 0) (hlink : Cond.classLink own x.2.2.2 N ∈ Ts) (hE : N ∈ exns)
    (kk : ∀ q9 : Nat, J w nL R p l e s m args below meth c G A Q k n σ L [.ref q9] x.2.2.1) : JX w nL R p l e s m args below meth c G A Q k n σ L st pc N := by
  intro H locs ls q9 ce hP hS hl hce hcv hcl
  refine vx_catch (own := own) (name := N) C.1.2.2.2.1 (tableOf pre) ⟨x.1, x.2.1, x.2.2.1, x.2.2.2⟩ (tableOf suf) ?_ ?_ hcov h0 (C.1.2.2.2.2 _ hlink) (va_Nw.use rfl (C.2.2.2.2.2.2.1.2.2.2.2.1 N hE)) hce hcv hcl (kk q9 H locs ls hP hS hl)
  · rw [C.2.2.2.2.2.2.2.2, hsp]
    simp [tableOf]
  · intro z hz
    obtain ⟨z', hz', rfl⟩ := List.mem_map.mp hz
    obtain ⟨g0, nm, g1, g2⟩ := hpre z' hz'
    exact Or.inr ⟨g0, nm, C.1.2.2.2.2 _ g1, hn _ g2⟩
theorem J_astore_n (C : Cx w cc nL own Ts ret hh p l s m args meth c G A) {i : Fin 4} {q : Nat} (d : decode cc pc = .ok (.astore_n i, 1)) (hi : (i : Nat) < nL) (kk : J w nL R p l e s m args below meth c G A Q k n σ (stI L (i : Nat) (.ref q)) st (pc + 1)) : J w nL R p l e s m args below meth c G A Q k n σ L (.ref q :: st) pc :=
  fun H locs ls hP hS hl => lv_astore_n C.1.1 C.1.2.1 d rfl hl hi rfl (fun ls' hl' => kk H locs ls' hP hS (lvh_st1 hl'))
theorem J_rSX {hh' : List (Nat × Nat × Nat × Nat)} {ok : SG → Prop} {Qr : Int → SG → Prop} {Qx : String → SG → Prop} (C : Cx w cc nL own Ts ret hh p l s m args meth c G A) (M : MM kd w ok y ws' rm' av σ Qr Qx) (d : decode cc pc = .ok (.invokestatic index, 3)) (hav : av G = As) (hst : stk = As.reverse ++ rest)
    (cw : vx_CSW R s args own index y cc' nL' ret' hh' ws' rm' rm'.cells rm'.slots As.length) (hok : ok σ) (hrest : (rest.map fun v => v.category).sum ≤ 8) (hkn : k + rm'.cells ≤ R.cells ∧ n + rm'.slots ≤ R.slots) :
    RunAt kd w ok Qr Qx nL R p l e s m args below meth c G A k n rm'.cells rm'.slots σ L stk rest pc := by
  intro H locs ls hP hS hl
  refine ⟨_, vx_runSX (As := As) (rest := rest) C.1 (M l C.2.2.1 G H.size) cw ⟨Pre_blind, fun U hU hW => ⟨by rw [hav], Pre_of C hok hP hS hU hW⟩⟩ rfl rfl hl.1 hst (lv_room hrest) d hkn⟩
/-- a contract of a method that catches, out of its body's first place -/
theorem MH_of {ok : SG → Prop} {Qr : Int → SG → Prop} {Qx : String → SG → Prop} {rm : Room} {ws'' : List Cond} (hw : ∀ (G : Gp) (σ σ' : SG), (w G σ').map (fun q => q.1) = (w G σ).map (fun q => q.1)) (hy : plainName y.cls = true) (hws : Ts = Cond.codeWith y cc nL ret hh :: ws'') {Lf : Gp → List (Option Value)} (hlen : ∀ G, (lg_sl (av G)).length ≤ nL) (hL : ∀ G, asc (Lf G) = lv_args 0 (av G))
    (hR : RR kd w ok Ts rm cc nL y.cls ret hh 0 0 Lf (fun _ => []) 0 σ Qr Qx) : MM kd w ok y Ts rm av σ Qr Qx := by
  intro l hl G sz
  refine vx_ofWH (hh := hh) hy hws ?_
  intro p e s m args below meth c s₁ B hml hv
  obtain ⟨rfl, hsz, hP, hK, hD, hok, hX⟩ := hv
  subst hsz
  have hown : s.vm.findClass y.cls = some m.cls := findClass_of_methodNamed B.named
  have hADR : ∀ σ', va_D (va_A (w G σ) s.heap.size) (w G σ') := fun σ' => (hD σ').weaken (fun j q hj _ => by
    have e1 : ((w G σ').map (fun q => q.1))[j]? = some q.1 := by rw [List.getElem?_map, hj]; rfl
    rw [hw G σ σ', List.getElem?_map] at e1
    cases e2 : (w G σ)[j]? with
    | none => rw [e2] at e1; cases e1
    | some z =>
      rw [e2] at e1
      have e3 : z.1 = q.1 := Option.some.inj e1
      rw [← e3]
      exact va_A.in e2)
  have hxt : c.exceptionTable.toList = tableOf hh := by
    obtain ⟨m9, meth9, c9, hn9, h1, h2, -, -, h7, -⟩ := Cond.codeWith_spec (atoms_spec (ws := Ts) B.pre _ (by rw [hws]; exact List.mem_cons_self))
    cases Option.some.inj (hn9.symm.trans B.named)
    cases Option.some.inj (h1.symm.trans B.method)
    cases Option.some.inj (h2.symm.trans (Stand.of_body B).code)
    rw [← h7, table_eq]
  have C : Cx w cc nL y.cls Ts ret hh p l s m (av G).toArray meth c G (va_A (w G σ) s.heap.size) :=
    ⟨⟨B.exec, B.bytes, hml, hown, atoms_spec (ws := Ts) B.pre⟩, B.returns, hl, hK, B.notSynchronized, fun q h => Or.inr h, hX, hADR, hxt⟩
  have hle := lv_entry (av G) (n := nL) (hlen G)
  rw [lg_entry_eq]
  generalize (lg_sl (av G) ++ List.replicate (nL - (lg_sl (av G)).length) Slot.unset).toArray = ls at hle ⊢
  have hl2 : lvh ls nL (Lf G) := by
    show lv_has ls nL (asc (Lf G))
    rw [hL G]
    exact hle
  exact hR p l e s m _ below meth c G _ C hok s.heap [] ls hP va_S.rf hl2
end EMB
/-! THE LAW'S WORLD: the class's cells, and the law's two rows of ints -/
section WL
def wL (G : Gp) (S : St) : va_W := wC G S ++ [(G.2.2 70, aI G 3 S 70), (G.2.2 71, aI G 64 S 71)]
abbrev okL : St → Prop := okC
abbrev rngL : Nat → Int → Prop := rngC
theorem okL_up {S : St} {k : Nat} {j v : Int} (h : okL S) (hv : rngL k v) : okL (up S k j v) := okC_up h hv
theorem okC_L {S : St} (h : okL S) : okC S := h
theorem adL (G : Gp) (S S' : St) : (wL G S').map (fun q => q.1) = (wL G S).map (fun q => q.1) := by
  unfold wL
  rw [List.map_append, List.map_append, adC G S S']
  rfl
theorem wC_len (G : Gp) (S : St) : (wC G S).length = 67 := by
  unfold wC
  rw [List.length_append, List.length_map, List.length_range]
  rfl
theorem wL_70 (G : Gp) (S : St) : (wL G S)[67]? = some (G.2.2 70, aI G 3 S 70) := by
  unfold wL
  rw [List.getElem?_append_right (by rw [wC_len]; decide), wC_len]
  rfl
theorem wL_71 (G : Gp) (S : St) : (wL G S)[68]? = some (G.2.2 71, aI G 64 S 71) := by
  unfold wL
  rw [List.getElem?_append_right (by rw [wC_len]; decide), wC_len]
  rfl
theorem wC_70 (G : Gp) (S : St) (i v : Int) : wC G (up S 70 i v) = wC G S := rfl
theorem wC_71 (G : Gp) (S : St) (i v : Int) : wC G (up S 71 i v) = wC G S := rfl
theorem sL_70 (G : Gp) (S : St) (i v : Int) : (wL G S).set 67 (G.2.2 70, aI G 3 (up S 70 i v) 70) = wL G (up S 70 i v) := by
  unfold wL
  rw [List.set_append_right _ _ (by rw [wC_len]; decide), wC_len, wC_70]
  rfl
theorem sL_71 (G : Gp) (S : St) (i v : Int) : (wL G S).set 68 (G.2.2 71, aI G 64 (up S 71 i v) 71) = wL G (up S 71 i v) := by
  unfold wL
  rw [List.set_append_right _ _ (by rw [wC_len]; decide), wC_len, wC_71]
  rfl
/-- the law's own rows stay, whatever a call does of the class's cells -/
def pu (S T : St) : St := fun k j => if k = 70 then S 70 j else if k = 71 then S 71 j else T k j
theorem okL_pu {S T : St} (h : okL S) (h2 : okC T) : okL (pu S T) := fun k j => by
  unfold pu
  by_cases q : k = 70
  · rw [if_pos q]; subst q; exact h 70 j
  · rw [if_neg q]
    by_cases q2 : k = 71
    · rw [if_pos q2]; subst q2; exact h 71 j
    · rw [if_neg q2]; exact h2 k j
theorem wC_pu (G : Gp) (S T : St) : wC G (pu S T) = wC G T := rfl
theorem emb_LC (G : Gp) (S : St) : Emb wL wC G G.2.2 S S (pu S) := ⟨[], [(G.2.2 70, aI G 3 S 70), (G.2.2 71, aI G 64 S 71)], rfl, fun T => by
  unfold wL
  rw [wC_pu]
  rfl⟩
theorem tab14 (z : Int) : z = 0 ∨ z = 1 ∨ z = 2 ∨ z = 3 ∨ z = 4 ∨ z = 5 ∨ z = 6 ∨ z = 7 ∨ z = 8 ∨ z = 9 ∨ z = 10 ∨ z = 11 ∨ z = 12 ∨ z = 13 ∨ z = 14 ∨ (z < 0 ∨ 14 < z) := by omega
end WL
