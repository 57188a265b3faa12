section JH
variable {SG : Type} {w : Gp → SG → va_W} {cc : ByteArray} {nL : Nat} {own : String} {Ts : List Cond} {ret : Option FieldType} {hh : List (Nat × Nat × Nat × Nat)} {R : Room} {p : Program} {l : Launch} {e : Env} {s : State} {m : MethodId} {args : Array Value} {below : List Frame} {meth : Method} {c : Code} {G : Gp} {A : Nat → Prop} {Q : State → Prop} {k n : Nat} {σ : SG} {L : List (Option Value)} {st : List Value} {pc : Nat}
theorem Cx.D (C : Cx w cc nL own Ts ret hh p l s m args meth c G A) (σ : SG) : va_D A (w G σ) := C.2.2.2.2.2.2.2.1 σ
theorem Cx.K (C : Cx w cc nL own Ts ret hh p l s m args meth c G A) : va_K G.1 vwCl (tysC G) s := C.2.2.2.1
theorem J_get (C : Cx w cc nL own Ts ret hh p l s m args meth c G A) {idx : Nat} (d : decode cc pc = .ok (.getfield idx, 3)) (q0 : Nat) {a ci N : Nat} {fs : List Value} {Cn : String} {T : u_T} (he : (w G σ)[q0]? = some (a, .inr (ci, fs))) (hc : vwCl[ci]? = some (Cn, T, N)) (hin : ∀ x ∈ u_ws Cn T N, x ∈ Ts) (fk : Nat) (hk : fk < N) (hlink : Cond.fieldLink own idx Cn (T fk).2.1 (T fk).2.2.1 ∈ Ts) (h1 : (T fk).1 = Cn) {v : Value} (hv : fs[fk]? = some v)
    (kk : J w nL R p l e s m args below meth c G A Q k n σ L (v :: st) (pc + 3)) : J w nL R p l e s m args below meth c G A Q k n σ L (.ref a :: st) pc :=
  fun H locs ls hP hS hl => va_get (ref := Cn) C.1.1 C.1.2.1 C.1.2.2.2.2 hin C.1.2.2.2.1 C.K hP q0 he hc fk hk (C.1.2.2.2.2 _ hlink) (fun x hx => by rw [h1] at hx; exact hx) hv d (kk H locs ls hP hS hl)
theorem J_put (C : Cx w cc nL own Ts ret hh p l s m args meth c G A) {idx : Nat} (d : decode cc pc = .ok (.putfield idx, 3)) (q0 : Nat) {a ci N : Nat} {fs : List Value} {Cn : String} {T : u_T} (he : (w G σ)[q0]? = some (a, .inr (ci, fs))) (hc : vwCl[ci]? = some (Cn, T, N)) (hin : ∀ x ∈ u_ws Cn T N, x ∈ Ts) (ty0 : Nat → FieldType) (hty : ∀ k, k < N → parseFieldDescriptor (T k).2.2.1 = some (ty0 k)) (hnm : ∀ a, a < N → ∀ b, b < N → a ≠ b → (T a).2.1 ≠ (T b).2.1) (fk : Nat) (hk : fk < N) (hlink : Cond.fieldLink own idx Cn (T fk).2.1 (T fk).2.2.1 ∈ Ts) (h1 : (T fk).1 = Cn) (hfin : (T fk).2.2.2 = false) {v : Value} (hn : narrow (ty0 fk) v = v) (hfit : fits (ty0 fk) v = true) (hlen : fk < fs.length) {σ' : SG} (hset : (w G σ).set q0 (a, .inr (ci, fs.set fk v)) = w G σ')
    (kk : J w nL R p l e s m args below meth c G A Q k n σ' L st (pc + 3)) : J w nL R p l e s m args below meth c G A Q k n σ L (v :: .ref a :: st) pc :=
  fun H locs ls hP hS hl => va_put (ref := Cn) C.1.1 C.1.2.1 C.1.2.2.2.2 hin ty0 hty hnm C.1.2.2.2.1 C.K hP (C.D σ) hS q0 he hc fk hk (C.1.2.2.2.2 _ hlink) (fun x hx => by rw [h1] at hx; exact hx) hfin (hty fk hk) hn hfit hlen d (fun H1 locs1 hP1 hD1 hS1 => kk H1 locs1 ls (by rw [← hset]; exact hP1) hS1 hl)
end JH
section JA
variable {w : Gp → St → va_W} {cc : ByteArray} {nL : Nat} {own : String} {Ts : List Cond} {ret : Option FieldType} {hh : List (Nat × Nat × Nat × Nat)} {R : Room} {p : Program} {l : Launch} {e : Env} {s : State} {m : MethodId} {args : Array Value} {below : List Frame} {meth : Method} {c : Code} {G : Gp} {A : Nat → Prop} {Q : State → Prop} {k n : Nat} {S : St} {L : List (Option Value)} {st : List Value} {pc : Nat}
abbrev aI (G : Gp) (N : Nat) (S : St) (K : Nat) : va_E := .inl (G.2.1 0, N, .inl (fun j : Nat => Int32.ofInt (S K (j : Int))))
abbrev aZ (G : Gp) (N : Nat) (S : St) (K : Nat) : va_E := .inl (G.2.1 1, N, .inl (fun j : Nat => Int32.ofInt (S K (j : Int))))
abbrev aL (G : Gp) (N : Nat) (S : St) (K : Nat) : va_E := .inl (G.2.1 2, N, .inr (.inl (fun j : Nat => Int64.ofInt (S K (j : Int)))))
theorem ix_r {z : Int} {n : Nat} (h : ix z n) (hn : n < 2 ^ 31) : r32 z := ⟨by omega, by omega⟩
theorem ix_cl {z : Int} {n : Nat} (h : ix z n) (hn : n < 2 ^ 31) : (((Int32.ofInt z).toNatClampNeg : Nat) : Int) = z := by
  rw [nz_cl h.1 (ix_r h hn)]
  exact Int.toNat_of_nonneg h.1
theorem upd_up {S : St} {K : Nat} {i v : Int} {x : Int32} {j0 : Nat} (hj : (j0 : Int) = i) (hx : x = Int32.ofInt v) : upd (fun j : Nat => Int32.ofInt (S K (j : Int))) j0 x = fun j : Nat => Int32.ofInt (up S K i v K (j : Int)) := by
  funext j
  rw [up_at]
  by_cases q : j = j0
  · subst q
    simp [upd, hj, hx]
  · have q' : ¬ ((j : Int) = i) := by rw [← hj]; omega
    simp [upd, q, q']
theorem upd_upL {S : St} {K : Nat} {i v : Int} {x : Int64} {j0 : Nat} (hj : (j0 : Int) = i) (hx : x = Int64.ofInt v) : vp_updL (fun j : Nat => Int64.ofInt (S K (j : Int))) j0 x = fun j : Nat => Int64.ofInt (up S K i v K (j : Int)) := by
  funext j
  rw [up_at]
  by_cases q : j = j0
  · subst q
    simp [vp_updL, hj, hx]
  · have q' : ¬ ((j : Int) = i) := by rw [← hj]; omega
    simp [vp_updL, q, q']
theorem J_iald (C : Cx w cc nL own Ts ret hh p l s m args meth c G A) (d : decode cc pc = .ok (.iaload, 1)) (q0 K : Nat) {N a : Nat} (he : (w G S)[q0]? = some (a, aI G N S K)) (hN : N < 2 ^ 31) {i : Int} (hi : ix i N)
    (kk : J w nL R p l e s m args below meth c G A Q k n S L (iV (S K i) :: st) (pc + 1)) : J w nL R p l e s m args below meth c G A Q k n S L (iV i :: .ref a :: st) pc := by
  intro H locs ls hP hS hl
  refine va_iald C.1.1 C.1.2.1 C.K hP q0 0 he rfl (nz_in hi hN) d ?_
  rw [ix_cl hi hN]
  exact kk H locs ls hP hS hl
theorem J_zald (C : Cx w cc nL own Ts ret hh p l s m args meth c G A) (d : decode cc pc = .ok (.baload, 1)) (q0 K : Nat) {N a : Nat} (he : (w G S)[q0]? = some (a, aZ G N S K)) (hN : N < 2 ^ 31) {i : Int} (hi : ix i N)
    (kk : J w nL R p l e s m args below meth c G A Q k n S L (iV (S K i) :: st) (pc + 1)) : J w nL R p l e s m args below meth c G A Q k n S L (iV i :: .ref a :: st) pc := by
  intro H locs ls hP hS hl
  refine va_zald C.1.1 C.1.2.1 C.K hP q0 1 he rfl (nz_in hi hN) d ?_
  rw [ix_cl hi hN]
  exact kk H locs ls hP hS hl
theorem J_lald (C : Cx w cc nL own Ts ret hh p l s m args meth c G A) (d : decode cc pc = .ok (.laload, 1)) (q0 K : Nat) {N a : Nat} (he : (w G S)[q0]? = some (a, aL G N S K)) (hN : N < 2 ^ 31) {i : Int} (hi : ix i N)
    (kk : J w nL R p l e s m args below meth c G A Q k n S L (lV (S K i) :: st) (pc + 1)) : J w nL R p l e s m args below meth c G A Q k n S L (iV i :: .ref a :: st) pc := by
  intro H locs ls hP hS hl
  refine va_lald C.1.1 C.1.2.1 C.K hP q0 2 he rfl (nz_in hi hN) d ?_
  rw [ix_cl hi hN]
  exact kk H locs ls hP hS hl
theorem J_iast (C : Cx w cc nL own Ts ret hh p l s m args meth c G A) (d : decode cc pc = .ok (.iastore, 1)) (q0 K : Nat) {N a : Nat} (he : (w G S)[q0]? = some (a, aI G N S K)) (hN : N < 2 ^ 31) {i v : Int} (hi : ix i N) (hset : (w G S).set q0 (a, aI G N (up S K i v) K) = w G (up S K i v))
    (kk : J w nL R p l e s m args below meth c G A Q k n (up S K i v) L st (pc + 1)) : J w nL R p l e s m args below meth c G A Q k n S L (iV v :: iV i :: .ref a :: st) pc := by
  intro H locs ls hP hS hl
  refine va_iast C.1.1 C.1.2.1 C.K hP (C.D S) hS q0 0 he rfl (nz_in hi hN) d fun H1 locs1 hP1 hD1 hS1 => ?_
  rw [upd_up (ix_cl hi hN) rfl] at hP1
  exact kk H1 locs1 ls (by rw [← hset]; exact hP1) hS1 hl
theorem nar_b {v : Int} (hv : 0 ≤ v ∧ v ≤ 1) : vp_nar .boolean (Int32.ofInt v) = Int32.ofInt v := by
  have h : v = 0 ∨ v = 1 := by omega
  rcases h with rfl | rfl <;> decide
theorem J_zast (C : Cx w cc nL own Ts ret hh p l s m args meth c G A) (d : decode cc pc = .ok (.bastore, 1)) (q0 K : Nat) {N a : Nat} (he : (w G S)[q0]? = some (a, aZ G N S K)) (hN : N < 2 ^ 31) {i v : Int} (hi : ix i N) (hv : 0 ≤ v ∧ v ≤ 1) (hset : (w G S).set q0 (a, aZ G N (up S K i v) K) = w G (up S K i v))
    (kk : J w nL R p l e s m args below meth c G A Q k n (up S K i v) L st (pc + 1)) : J w nL R p l e s m args below meth c G A Q k n S L (iV v :: iV i :: .ref a :: st) pc := by
  intro H locs ls hP hS hl
  refine va_zast C.1.1 C.1.2.1 C.K hP (C.D S) hS q0 1 he rfl (nz_in hi hN) d fun H1 locs1 hP1 hD1 hS1 => ?_
  rw [nar_b hv, upd_up (ix_cl hi hN) rfl] at hP1
  exact kk H1 locs1 ls (by rw [← hset]; exact hP1) hS1 hl
theorem J_last (C : Cx w cc nL own Ts ret hh p l s m args meth c G A) (d : decode cc pc = .ok (.lastore, 1)) (q0 K : Nat) {N a : Nat} (he : (w G S)[q0]? = some (a, aL G N S K)) (hN : N < 2 ^ 31) {i v : Int} (hi : ix i N) (hset : (w G S).set q0 (a, aL G N (up S K i v) K) = w G (up S K i v))
    (kk : J w nL R p l e s m args below meth c G A Q k n (up S K i v) L st (pc + 1)) : J w nL R p l e s m args below meth c G A Q k n S L (lV v :: iV i :: .ref a :: st) pc := by
  intro H locs ls hP hS hl
  refine va_last C.1.1 C.1.2.1 C.K hP (C.D S) hS q0 2 he rfl (nz_in hi hN) d fun H1 locs1 hP1 hD1 hS1 => ?_
  rw [upd_upL (ix_cl hi hN) rfl] at hP1
  exact kk H1 locs1 ls (by rw [← hset]; exact hP1) hS1 hl
end JA
/-! ends -/
section JE
variable {SG : Type} {w : Gp → SG → va_W} {ok : SG → Prop} {Qr : Int → SG → Prop} {Qx : String → SG → Prop} {cc : ByteArray} {nL : Nat} {own : String} {Ts : List Cond} {ret : Option FieldType} {hh : List (Nat × Nat × Nat × Nat)} {R : Room} {p : Program} {l : Launch} {e : Env} {s : State} {m : MethodId} {args : Array Value} {below : List Frame} {meth : Method} {c : Code} {G : Gp} {A : Nat → Prop} {Q : State → Prop} {k n mc ms : Nat} {σ : SG} {L : List (Option Value)} {st : List Value} {pc : Nat}
theorem J_iret (C : Cx w cc nL own Ts (some .int) hh p l s m args meth c G A) (d : decode cc pc = .ok (.ireturn, 1)) {z : Int} (hr : r32 z) (hok : ok σ) (hq : Qr z σ) (hk : k ≤ mc) (hn : n ≤ ms) :
    J w nL R p l e s m args below meth c G A (QQ 1 w ok G Qr Qx A below args s mc ms) k n σ L [iV z] pc :=
  fun H locs ls hP hS hl => vx_ret (W.widen hk hn (W.iret C.1.1 C.1.2.1 C.2.1 (fun t ht hW => ⟨⟨Int32.ofInt z, (z, σ), rfl, ⟨rfl, hr, hok, hq⟩, by show va_P _ _ _ t.heap; rw [ht]; exact hP⟩, hS.F ht⟩) hS.2.2 d (hlocks := C.2.2.2.2.1)))
theorem nar_z {z : Int} (hr : 0 ≤ z ∧ z ≤ 1) : narrow .boolean (.int (Int32.ofInt z)) = .int (Int32.ofInt z) := by
  have h : z = 0 ∨ z = 1 := by omega
  rcases h with rfl | rfl <;> decide
theorem J_zret (C : Cx w cc nL own Ts (some .boolean) hh p l s m args meth c G A) (d : decode cc pc = .ok (.ireturn, 1)) {z : Int} (hr : 0 ≤ z ∧ z ≤ 1) (hok : ok σ) (hq : Qr z σ) (hk : k ≤ mc) (hn : n ≤ ms) :
    J w nL R p l e s m args below meth c G A (QQ 1 w ok G Qr Qx A below args s mc ms) k n σ L [iV z] pc :=
  fun H locs ls hP hS hl => vx_ret (W.widen hk hn (W.zret C.1.1 C.1.2.1 C.2.1 (nar_z hr) (fun t ht hW => ⟨⟨Int32.ofInt z, (z, σ), rfl, ⟨rfl, ⟨by omega, by omega⟩, hok, hq⟩, by show va_P _ _ _ t.heap; rw [ht]; exact hP⟩, hS.F ht⟩) hS.2.2 d (hlocks := C.2.2.2.2.1)))
theorem J_lret (C : Cx w cc nL own Ts (some .long) hh p l s m args meth c G A) (d : decode cc pc = .ok (.lreturn, 1)) {z : Int} (hr : r64 z) (hok : ok σ) (hq : Qr z σ) (hk : k ≤ mc) (hn : n ≤ ms) :
    J w nL R p l e s m args below meth c G A (QQ 2 w ok G Qr Qx A below args s mc ms) k n σ L [lV z] pc :=
  fun H locs ls hP hS hl => vx_ret (W.widen hk hn (W.lret C.1.1 C.1.2.1 C.2.1 (fun t ht hW => ⟨⟨Int64.ofInt z, (z, σ), rfl, ⟨rfl, hr, hok, hq⟩, by show va_P _ _ _ t.heap; rw [ht]; exact hP⟩, hS.F ht⟩) hS.2.2 d (hlocks := C.2.2.2.2.1)))
theorem J_vret (C : Cx w cc nL own Ts none hh p l s m args meth c G A) (d : decode cc pc = .ok (.return_, 1)) (hok : ok σ) (hq : Qr 0 σ) (hk : k ≤ mc) (hn : n ≤ ms) :
    J w nL R p l e s m args below meth c G A (QQ 0 w ok G Qr Qx A below args s mc ms) k n σ L [] pc :=
  fun H locs ls hP hS hl => vx_ret (W.widen hk hn (W.vret C.1.1 C.1.2.1 C.2.1 (fun t ht hW => ⟨⟨σ, rfl, ⟨hok, hq⟩, by show va_P _ _ _ t.heap; rw [ht]; exact hP⟩, hS.F ht⟩) hS.2.2 d (hlocks := C.2.2.2.2.1)))
/-- an exception that lies over the frame -/
def JX {SG : Type} (w : Gp → SG → va_W) (nL : Nat) (R : Room) (p : Program) (l : Launch) (e : Env) (s : State) (m : MethodId) (args : Array Value) (below : List Frame) (meth : Method) (c : Code) (G : Gp) (A : Nat → Prop) (Q : State → Prop) (k n : Nat) (σ : SG) (L : List (Option Value)) (st : List Value) (pc : Nat) (E : String) : Prop :=
  ∀ (H : Heap) (locs : List Loc) (ls : Array Slot) (q9 : Addr) (ce : Cell), va_P G.1 vwCl (w G σ) H → va_S A s.heap H locs → lvh ls nL L → H[q9]? = some ce → ce.vm = .none → s.vm.findClass E = some ce.cls → vx_W p l e R s m args below meth c H locs k n Q (F0 m pc ls st) q9
theorem JX_out (C : Cx w cc nL own Ts ret [] p l s m args meth c G A) {E : String} (hok : ok σ) (hq : Qx E σ) (hk : k ≤ mc) (hn : n ≤ ms) {kd : Nat} :
    JX w nL R p l e s m args below meth c G A (QQ kd w ok G Qr Qx A below args s mc ms) k n σ L st pc E :=
  fun H locs ls q9 ce hP hS hl hce hcv hcl => vx_out (fun x hx => by rw [C.2.2.2.2.2.2.2.2] at hx; exact nomatch hx) C.2.2.2.2.1 hce hcv hcl (fun t ht hA => ⟨σ, hok, ⟨hq, by show va_P _ _ _ t.heap; rw [ht]; exact hP⟩, hS.F ht⟩) hS.2.2 hk hn
theorem JX_widen {E : String} {k1 n1 : Nat} (h1 : k ≤ k1) (h2 : n ≤ n1) (kk : JX w nL R p l e s m args below meth c G A Q k1 n1 σ L st pc E) : JX w nL R p l e s m args below meth c G A Q k n σ L st pc E :=
  fun H locs ls q9 ce hP hS hl hce hcv hcl => vx_widen h1 h2 (kk H locs ls q9 ce hP hS hl hce hcv hcl)
theorem J_widen {k1 n1 : Nat} (h1 : k ≤ k1) (h2 : n ≤ n1) (kk : J w nL R p l e s m args below meth c G A Q k1 n1 σ L st pc) : J w nL R p l e s m args below meth c G A Q k n σ L st pc :=
  fun H locs ls hP hS hl => W.widen h1 h2 (kk H locs ls hP hS hl)
end JE
/-! calls in the same world -/
section JCall
variable {SG : Type} {w : Gp → SG → va_W} {ok : SG → Prop} {Qr : Int → SG → Prop} {Qx : String → SG → Prop} {cc : ByteArray} {nL : Nat} {own : String} {Ts : List Cond} {ret : Option FieldType} {hh : List (Nat × Nat × Nat × Nat)} {R : Room} {p : Program} {l : Launch} {e : Env} {s : State} {m : MethodId} {args : Array Value} {below : List Frame} {meth : Method} {c : Code} {G : Gp} {A : Nat → Prop} {Q : State → Prop} {k n : Nat} {σ : SG} {L : List (Option Value)} {pc : Nat}
theorem Pre_blind {av : List Value} {sz : Nat} : FrameBlind (va_Pc av (Pre w ok G σ sz)) := by
  intro a U g mk h
  obtain ⟨h0, h1, h2, h3, h4, h5, h6⟩ := h
  exact ⟨h0, h1, h2, va_K.moved (u := U) (U := U.calling g mk a) (Vm.Alike.refl U.vm) h3, h4, h5, XS.to (U := U.calling g mk a) h6 (State.WarmedH.refl U) (fun _ _ _ => rfl) (fun _ h => h)⟩
theorem va_A_in (C : Cx w cc nL own Ts ret hh p l s m args meth c G A) {H : Heap} {locs : List Loc} (hS : va_S A s.heap H locs) {q : Nat} (h : va_A (w G σ) H.size q) : A q := by
  rcases h with ⟨j, e, hj⟩ | h
  · exact (C.D σ).2 j (q, e) hj
  · exact C.2.2.2.2.2.1 q (Nat.le_trans hS.1 h)
theorem Pre_of (C : Cx w cc nL own Ts ret hh p l s m args meth c G A) (hok : ok σ) {H : Heap} {locs : List Loc} (hP : va_P G.1 vwCl (w G σ) H) (hS : va_S A s.heap H locs) {U : State} (hU : U.heap = H) (hW : s.WarmedH U.vm) : Pre w ok G σ H.size U := by
  refine ⟨by rw [hU], by rw [hU]; exact hP, va_K.moved hW.alike C.K, fun σ' => (C.D σ').weaken (fun _ _ _ _ => trivial), hok, ?_⟩
  rw [hU]
  exact XS.to C.2.2.2.2.2.2.1 hW (fun a h1 h2 => hS.2.1 a h1 h2) (fun q h => va_A_in C hS h)
/-- the run of a call, its callee by contract -/
def RunAt {SG : Type} (kd : Nat) (w : Gp → SG → va_W) (ok : SG → Prop) (Qr : Int → SG → Prop) (Qx : String → SG → Prop) (nL : Nat) (R : Room) (p : Program) (l : Launch) (e : Env) (s : State) (m : MethodId) (args : Array Value) (below : List Frame) (meth : Method) (c : Code) (G : Gp) (A : Nat → Prop) (k n mc ms : Nat) (σ : SG) (L : List (Option Value)) (st rest : List Value) (pc : Nat) : Prop :=
  ∀ (H : Heap) (locs : List Loc) (ls : Array Slot), va_P G.1 vwCl (w G σ) H → va_S A s.heap H locs → lvh ls nL L → ∃ a : Array Value, vx_Run p l e R s m args below meth c H locs k n mc ms (F0 m pc ls st) rest (PQ kd w ok G Qr (va_A (w G σ) H.size) a) (PX w ok G Qx (va_A (w G σ) H.size)) (va_A (w G σ) H.size)
variable {kd index : Nat} {y : MethodName} {cc' : ByteArray} {nL' : Nat} {ret' : Option FieldType} {ws' : List Cond} {rm' : Room} {av : Gp → List Value} {As rest stk : List Value}
theorem J_rV (C : Cx w cc nL own Ts ret hh p l s m args meth c G A) (M : MM kd w ok y ws' rm' av σ Qr Qx) (d : decode cc pc = .ok (.invokevirtual index, 3)) {b : Nat} (hav : av G = .ref b :: As) (hst : stk = As.reverse ++ .ref b :: rest) (q0 : Nat) {ci : Nat} {fs : List Value} {q : vw_C} (he : (w G σ)[q0]? = some (b, .inr (ci, fs))) (hci : vwCl[ci]? = some q)
    (cw : CallW R s args own q.1 index y cc' nL' ret' ws' rm' rm'.cells rm'.slots As.length) (hok : ok σ) (hrest : (rest.map fun v => v.category).sum ≤ 8) (hkn : k + rm'.cells ≤ R.cells ∧ n + rm'.slots ≤ R.slots) :
    RunAt kd w ok Qr Qx nL R p l e s m args below meth c G A k n rm'.cells rm'.slots σ L stk rest pc := by
  intro H locs ls hP hS hl
  refine ⟨_, vx_runV (As := As) (rest := rest) (b := b) (C := q.1) C.1 (M l C.2.2.1 G H.size) cw ⟨Pre_blind, va_recv C.K hP hci he, fun U hU hW => ⟨by rw [hav], Pre_of C hok hP hS hU hW⟩⟩ rfl rfl hl.1 hst (lv_room hrest) d hkn⟩
theorem J_rS (C : Cx w cc nL own Ts ret hh p l s m args meth c G A) (M : MM kd w ok y ws' rm' av σ Qr Qx) (d : decode cc pc = .ok (.invokestatic index, 3)) (hav : av G = As) (hst : stk = As.reverse ++ rest)
    (cw : CallB R s args own index y cc' nL' ret' ws' rm' rm'.cells rm'.slots As.length ∧ (Cond.static y).before args s = true) (hok : ok σ) (hrest : (rest.map fun v => v.category).sum ≤ 8) (hkn : k + rm'.cells ≤ R.cells ∧ n + rm'.slots ≤ R.slots) :
    RunAt kd w ok Qr Qx nL R p l e s m args below meth c G A k n rm'.cells rm'.slots σ L stk rest pc := by
  intro H locs ls hP hS hl
  refine ⟨_, vx_runS (As := As) (rest := rest) C.1 (M l C.2.2.1 G H.size) cw ⟨Pre_blind, fun U hU hW => ⟨by rw [hav], Pre_of C hok hP hS hU hW⟩⟩ rfl rfl hl.1 hst (lv_room hrest) d hkn⟩
theorem J_rSN (C : Cx w cc nL own Ts ret hh p l s m args meth c G A) (M : MM kd w ok y ws' rm' av σ Qr Qx) (d : decode cc pc = .ok (.invokestatic index, 3)) (hav : av G = As) (hst : stk = As.reverse ++ rest)
    (cw : va_CN R s args own index y "Stresswork" cc' nL' ret' ws' rm' rm'.cells rm'.slots As.length ∧ (Cond.static y).before args s = true ∧ True) (hok : ok σ) (hrest : (rest.map fun v => v.category).sum ≤ 8) (hkn : k + rm'.cells ≤ R.cells ∧ n + rm'.slots ≤ R.slots) :
    RunAt kd w ok Qr Qx nL R p l e s m args below meth c G A k n rm'.cells rm'.slots σ L stk rest pc := by
  intro H locs ls hP hS hl
  refine ⟨_, vx_runSN (As := As) (rest := rest) C.1 (M l C.2.2.1 G H.size) cw ⟨Pre_blind, fun U hU hW => ⟨by rw [hav], Pre_of C hok hP hS hU hW⟩⟩ rfl rfl hl.1 hst (lv_room hrest) d hkn⟩
variable {mc ms : Nat} {st : List Value}
theorem J_c0 (C : Cx w cc nL own Ts ret hh p l s m args meth c G A) (hr : RunAt 0 w ok Qr Qx nL R p l e s m args below meth c G A k n mc ms σ L st rest pc)
    (kx : ∀ (E : String) (σ' : SG), ok σ' → Qx E σ' → JX w nL R p l e s m args below meth c G A Q (k + mc) (n + ms) σ' L rest pc E)
    (kk : ∀ (σ' : SG), ok σ' → Qr 0 σ' → J w nL R p l e s m args below meth c G A Q (k + mc) (n + ms) σ' L rest (pc + 3)) : J w nL R p l e s m args below meth c G A Q k n σ L st pc := by
  intro H locs ls hP hS hl
  obtain ⟨a, hr⟩ := hr H locs ls hP hS hl
  exact vx_callv (a := a) hr hS (fun q _ h => va_A_in C hS h) (fun q h => va_A_in C hS h) (fun q _ h => va_A_in C hS h)
    (fun E ce q9 u t H1 locs1 ht hA hok hB hz hk hS1 hce hcv hcl => kx E u hok hB.1 H1 locs1 ls q9 ce (by rw [← ht]; exact hB.2) hS1 hl hce hcv hcl)
    (fun u t H1 locs1 ht hA hq hB hz hk hS1 => kk u hq.1 hq.2 H1 locs1 ls (by rw [← ht]; exact hB) hS1 hl)
theorem J_c1 (C : Cx w cc nL own Ts ret hh p l s m args meth c G A) (hr : RunAt 1 w ok Qr Qx nL R p l e s m args below meth c G A k n mc ms σ L st rest pc)
    (kx : ∀ (E : String) (σ' : SG), ok σ' → Qx E σ' → JX w nL R p l e s m args below meth c G A Q (k + mc) (n + ms) σ' L rest pc E)
    (kk : ∀ (r : Int) (σ' : SG), r32 r → ok σ' → Qr r σ' → J w nL R p l e s m args below meth c G A Q (k + mc) (n + ms) σ' L (iV r :: rest) (pc + 3)) : J w nL R p l e s m args below meth c G A Q k n σ L st pc := by
  intro H locs ls hP hS hl
  obtain ⟨a, hr⟩ := hr H locs ls hP hS hl
  exact vx_calli (a := a) hr hS (fun q _ h => va_A_in C hS h) (fun q h => va_A_in C hS h) (fun q _ h => va_A_in C hS h)
    (fun E ce q9 u t H1 locs1 ht hA hok hB hz hk hS1 hce hcv hcl => kx E u hok hB.1 H1 locs1 ls q9 ce (by rw [← ht]; exact hB.2) hS1 hl hce hcv hcl)
    (fun r u t H1 locs1 ht hA hq hB hz hk hS1 => by rw [hq.1]; exact kk u.1 u.2 hq.2.1 hq.2.2.1 hq.2.2.2 H1 locs1 ls (by rw [← ht]; exact hB) hS1 hl)
theorem J_c2 (C : Cx w cc nL own Ts ret hh p l s m args meth c G A) (hr : RunAt 2 w ok Qr Qx nL R p l e s m args below meth c G A k n mc ms σ L st rest pc)
    (kx : ∀ (E : String) (σ' : SG), ok σ' → Qx E σ' → JX w nL R p l e s m args below meth c G A Q (k + mc) (n + ms) σ' L rest pc E)
    (kk : ∀ (r : Int) (σ' : SG), r64 r → ok σ' → Qr r σ' → J w nL R p l e s m args below meth c G A Q (k + mc) (n + ms) σ' L (lV r :: rest) (pc + 3)) : J w nL R p l e s m args below meth c G A Q k n σ L st pc := by
  intro H locs ls hP hS hl
  obtain ⟨a, hr⟩ := hr H locs ls hP hS hl
  exact vx_calll (a := a) hr hS (fun q _ h => va_A_in C hS h) (fun q h => va_A_in C hS h) (fun q _ h => va_A_in C hS h)
    (fun E ce q9 u t H1 locs1 ht hA hok hB hz hk hS1 hce hcv hcl => kx E u hok hB.1 H1 locs1 ls q9 ce (by rw [← ht]; exact hB.2) hS1 hl hce hcv hcl)
    (fun r u t H1 locs1 ht hA hq hB hz hk hS1 => by rw [hq.1]; exact kk u.1 u.2 hq.2.1 hq.2.2.1 hq.2.2.2 H1 locs1 ls (by rw [← ht]; exact hB) hS1 hl)
theorem vx_ofWF {l : Launch} {y : MethodName} {ws ws' : List Cond} {rm : Room} {Pc : Array Value → State → Prop} {Qc : Array Value → State → Outcome → State → Prop} {XC : String → State → State → Prop} {mc ms : Nat} {free : Addr → Prop} {cc : ByteArray} {maxL : Nat} {ret : Option FieldType}
    (hy : plainFor y = true) (hw : ws = Cond.code y cc maxL ret :: ws')
    (body : ∀ p e s m args below meth c s₁, BodyLoose p l y (headSpec ws rm) cc maxL ret e s m args below meth c s₁ → c.maxLocals = maxL → (∀ x ∈ c.exceptionTable.toList, False) → Pc args s →
      W p l e (headSpec ws rm).room s m args below meth c s.heap [] 0 0 (vx_MQ below Qc XC args s mc ms free) (entryFrame m args maxL)) : vx_Met l y ws rm Pc Qc XC mc ms free := by
  refine MetFree.of_bodySF (code := cc) (maxLocals := maxL) (ret := ret) hy ?_ ?_
  · intro args s m h hn
    obtain ⟨meth, c, h1, h2, h3, h4, h5, h6, -, -⟩ := Cond.code_spec hn (atoms_spec (ws := ws) h _ (by rw [hw]; exact List.mem_cons_self))
    exact ⟨meth, c, h1, h2, h3, h4, h5, h6⟩
  · intro p e s m args below meth c s₁ B hml hP _
    have hh0 : s₁.heap = s.heap := by rw [B.state]; rfl
    have ht : ∀ x ∈ c.exceptionTable.toList, False := by
      obtain ⟨meth9, c9, h1, h2, -, -, -, -, h7, -⟩ := Cond.code_spec B.named (atoms_spec (ws := ws) B.pre _ (by rw [hw]; exact List.mem_cons_self))
      cases Option.some.inj (h1.symm.trans B.method)
      cases Option.some.inj (h2.symm.trans (Stand.of_body B).code)
      intro x hx
      rw [Array.isEmpty_iff.mp h7] at hx
      cases hx
    obtain ⟨t, a1, o, b1, b2, b3⟩ := body p e s m args below meth c s₁ B hml ht hP s₁ hh0 (Stand.of_body B)
    exact ⟨t, o, a1, b1, b2, b3⟩
/-- a contract out of its body's first place -/
theorem MM_of {rm : Room} {ws'' : List Cond} (hw : ∀ (G : Gp) (σ σ' : SG), (w G σ').map (fun q => q.1) = (w G σ).map (fun q => q.1)) (hy : plainFor y = true) (hws : Ts = Cond.code y cc nL ret :: ws'') {Lf : Gp → List (Option Value)} (hlen : ∀ G, (lg_sl (av G)).length ≤ nL) (hL : ∀ G, asc (Lf G) = lv_args 0 (av G))
    (hR : RR kd w ok Ts rm cc nL y.cls ret [] 0 0 Lf (fun _ => []) 0 σ Qr Qx) : MM kd w ok y Ts rm av σ Qr Qx := by
  intro l hl G sz
  refine vx_ofWF hy hws ?_
  intro p e s m args below meth c s₁ B hml hxt hv
  obtain ⟨rfl, hsz, hP, hK, hD, hok, hX⟩ := hv
  subst hsz
  have hown : s.vm.findClass y.cls = some m.cls := findClass_of_methodNamed B.named
  have hADR : ∀ σ', va_D (va_A (w G σ) s.heap.size) (w G σ') := fun σ' => (hD σ').weaken (fun j q hj _ => by
    have e1 : ((w G σ').map (fun q => q.1))[j]? = some q.1 := by rw [List.getElem?_map, hj]; rfl
    rw [hw G σ σ', List.getElem?_map] at e1
    cases e2 : (w G σ)[j]? with
    | none => rw [e2] at e1; cases e1
    | some z =>
      rw [e2] at e1
      have e3 : z.1 = q.1 := Option.some.inj e1
      rw [← e3]
      exact va_A.in e2)
  have hxt' : c.exceptionTable.toList = tableOf [] := by
    cases hz : c.exceptionTable.toList with
    | nil => rfl
    | cons x t => exact (hxt x (by rw [hz]; exact List.mem_cons_self)).elim
  have C : Cx w cc nL y.cls Ts ret [] p l s m (av G).toArray meth c G (va_A (w G σ) s.heap.size) :=
    ⟨⟨B.exec, B.bytes, hml, hown, atoms_spec (ws := Ts) B.pre⟩, B.returns, hl, hK, B.notSynchronized, fun q h => Or.inr h, hX, hADR, hxt'⟩
  have hle := lv_entry (av G) (n := nL) (hlen G)
  rw [lg_entry_eq]
  generalize (lg_sl (av G) ++ List.replicate (nL - (lg_sl (av G)).length) Slot.unset).toArray = ls at hle ⊢
  have hl2 : lvh ls nL (Lf G) := by
    show lv_has ls nL (asc (Lf G))
    rw [hL G]
    exact hle
  exact hR p l e s m _ below meth c G _ C hok s.heap [] ls hP va_S.rf hl2
end JCall
