section JT
variable {SG : Type} {w : Gp → SG → va_W} {ok : SG → Prop} {Qr : Int → SG → Prop} {Qx : String → SG → Prop} {cc : ByteArray} {nL : Nat} {own : String} {Ts : List Cond} {ret : Option FieldType} {hh : List (Nat × Nat × Nat × Nat)} {R : Room} {p : Program} {l : Launch} {e : Env} {s : State} {m : MethodId} {args : Array Value} {below : List Frame} {meth : Method} {c : Code} {G : Gp} {A : Nat → Prop} {Q : State → Prop} {k n : Nat} {σ : SG} {L : List (Option Value)} {st : List Value} {pc : Nat}
abbrev exP : List String := ["java/lang/RuntimeException", "java/lang/Exception"]
/-- what the three classes of exceptions need of the words, but the method's own list -/
def exW (ik ic : Nat) (cls : String) : Prop := Bundle.fit cls = true ∧ (∀ n ∈ exP, Bundle.fit n = true) ∧ cls ∈ exns ∧ (∀ x ∈ (vx_atS RX6 ic cls exP).filter (fun x => !goodWord x), x ∈ Cond.castable cls cls :: exY.map (fun Y => Cond.declares (Bundle.initS Y))) ∧ ∀ x ∈ Cond.classLink RX6 ik cls :: Cond.initialized cls :: vx_atS RX6 ic cls exP, vx_ot x = true
theorem exW_A : exW 84 88 "java/lang/IllegalArgumentException" := ⟨by decide +kernel, by decide +kernel, by decide +kernel, by decide +kernel, by decide +kernel⟩
theorem exW_S : exW 95 99 "java/lang/IllegalStateException" := ⟨by decide +kernel, by decide +kernel, by decide +kernel, by decide +kernel, by decide +kernel⟩
theorem exW_I : exW 288 292 "java/lang/IndexOutOfBoundsException" := ⟨by decide +kernel, by decide +kernel, by decide +kernel, by decide +kernel, by decide +kernel⟩
theorem J_throw (C : Cx w cc nL RX6 Ts ret [] p l s m args meth c G A) {ik is ic kd : Nat} {cls text : String} (ex : exW ik ic cls) (hk : Cond.classLink RX6 ik cls ∈ Ts) (hini : Cond.initialized cls ∈ Ts) (hstr : (is, text) ∈ strs) (hg : ∀ x ∈ (vx_atS RX6 ic cls exP).filter goodWord, x ∈ Ts)
    (d0 : decode cc pc = .ok (.new ik, 3)) (d3 : decode cc (pc + 3) = .ok (.dup, 1)) (d4 : decode cc (pc + 4) = .ok (.ldc is, 2)) (d6 : decode cc (pc + 6) = .ok (.invokespecial ic, 3)) (d9 : decode cc (pc + 9) = .ok (.athrow, 1))
    (hf : 5 < R.frames) (hl : 82 ≤ R.locals) (hk1 : k + 1 ≤ R.cells) (hn1 : n + 6 ≤ R.slots) (hok : ok σ) (hq : Qx cls σ) :
    J w nL R p l e s m args below meth c G A (QQ kd w ok G Qr Qx A below args s R.cells R.slots) k n σ L [] pc := by
  intro H locs ls hP hS hls
  obtain ⟨sa, hsa⟩ := C.2.2.2.2.2.2.1.2.2.1 (is, text) hstr
  have hts := C.1.2.2.2.2
  have hcast := C.2.2.2.2.2.2.1.2.2.2.2.1 cls ex.2.2.1
  have hdecl : ∀ x ∈ exY.map (fun Y => Cond.declares (Bundle.initS Y)), x.before args s = true := fun x hx => by
    obtain ⟨Y, hY, rfl⟩ := List.mem_map.mp hx
    exact va_Nw.use rfl (C.2.2.2.2.2.2.1.2.2.2.2.2.1 Y hY)
  refine vx_throwS (names := exP) (sa := sa) C.1.1 C.1.2.1 C.2.2.1 C.1.2.2.2.1 ex.1 ex.2.1 (hts _ hk) (hts _ hini) hsa (vx_hat (fun x hx => hts x (hg x hx)) ex.2.2.2.1 (vx_c (va_Nw.use rfl hcast) hdecl)) ex.2.2.2.2 C.2.2.2.2.2.2.1.1 C.2.2.2.2.2.2.1.2.1 hS (by rw [hls.1]; exact C.1.2.2.1.symm) d0 d3 d4 d6 d9 (fun x hx => by rw [C.2.2.2.2.2.2.2.2] at hx; exact nomatch hx) hf (by exact hl) hk1 hn1 C.2.2.2.2.1 ?_ hS.2.2 hk1 hn1
  intro t hA hz hkeep
  refine ⟨σ, hok, ⟨hq, hP.kept (fun j q hj => hkeep q.1 (hP j q hj).lt)⟩, ⟨Nat.le_trans hS.1 hz, fun q h1 h2 => ?_⟩⟩
  rw [hkeep q (Nat.lt_of_lt_of_le h1 hS.1)]
  exact hS.2.1 q h1 h2
theorem J_throwW (C : Cx w cc nL RX6 Ts ret [] p l s m args meth c G A) {ik is ic kd : Nat} {cls text : String} (ex : exW ik ic cls) (hk : Cond.classLink RX6 ik cls ∈ Ts) (hini : Cond.initialized cls ∈ Ts) (hstr : (is, text) ∈ strs) (hg : ∀ x ∈ (vx_atS RX6 ic cls exP).filter goodWord, x ∈ Ts)
    (d0 : decode cc pc = .ok (.new ik, 3)) (d3 : decode cc (pc + 3) = .ok (.dup, 1)) (d4 : decode cc (pc + 4) = .ok (.ldc_w is, 3)) (d7 : decode cc (pc + 7) = .ok (.invokespecial ic, 3)) (d10 : decode cc (pc + 10) = .ok (.athrow, 1))
    (hf : 5 < R.frames) (hl : 82 ≤ R.locals) (hk1 : k + 1 ≤ R.cells) (hn1 : n + 6 ≤ R.slots) (hok : ok σ) (hq : Qx cls σ) :
    J w nL R p l e s m args below meth c G A (QQ kd w ok G Qr Qx A below args s R.cells R.slots) k n σ L [] pc := by
  intro H locs ls hP hS hls
  obtain ⟨sa, hsa⟩ := C.2.2.2.2.2.2.1.2.2.1 (is, text) hstr
  have hts := C.1.2.2.2.2
  have hcast := C.2.2.2.2.2.2.1.2.2.2.2.1 cls ex.2.2.1
  have hdecl : ∀ x ∈ exY.map (fun Y => Cond.declares (Bundle.initS Y)), x.before args s = true := fun x hx => by
    obtain ⟨Y, hY, rfl⟩ := List.mem_map.mp hx
    exact va_Nw.use rfl (C.2.2.2.2.2.2.1.2.2.2.2.2.1 Y hY)
  refine vx_throwSW (names := exP) (sa := sa) C.1.1 C.1.2.1 C.2.2.1 C.1.2.2.2.1 ex.1 ex.2.1 (hts _ hk) (hts _ hini) hsa (vx_hat (fun x hx => hts x (hg x hx)) ex.2.2.2.1 (vx_c (va_Nw.use rfl hcast) hdecl)) ex.2.2.2.2 C.2.2.2.2.2.2.1.1 C.2.2.2.2.2.2.1.2.1 hS (by rw [hls.1]; exact C.1.2.2.1.symm) d0 d3 d4 d7 d10 (fun x hx => by rw [C.2.2.2.2.2.2.2.2] at hx; exact nomatch hx) hf (by exact hl) hk1 hn1 C.2.2.2.2.1 ?_ hS.2.2 hk1 hn1
  intro t hA hz hkeep
  refine ⟨σ, hok, ⟨hq, hP.kept (fun j q hj => hkeep q.1 (hP j q hj).lt)⟩, ⟨Nat.le_trans hS.1 hz, fun q h1 h2 => ?_⟩⟩
  rw [hkeep q (Nat.lt_of_lt_of_le h1 hS.1)]
  exact hS.2.1 q h1 h2
theorem J_mmax (C : Cx w cc nL own Ts ret hh p l s m args meth c G A) {idx : Nat} {a b : Int} (d : decode cc pc = .ok (.invokestatic idx, 3)) (h1 : Cond.methodLink own idx Lib.Math.max.name ∈ Ts) (h2 : Cond.static Lib.Math.max.name ∈ Ts) (h3 : Cond.initialized "java/lang/Math" ∈ Ts) (h4 : Cond.code Lib.Math.max.name Lib.Math.max.code 2 (some .int) ∈ Ts)
    (hf : 1 ≤ R.frames) (hl : (st.map fun v => v.category).sum + 13 ≤ R.locals) (hk : k ≤ R.cells) (hn : n ≤ R.slots) (ha : r32 a) (hb : r32 b) (kk : J w nL R p l e s m args below meth c G A Q k n σ L (iV (if a < b then b else a) :: st) (pc + 3)) : J w nL R p l e s m args below meth c G A Q k n σ L (iV b :: iV a :: st) pc := by
  intro H locs ls hP hS hls
  have hts := C.1.2.2.2.2
  refine va_mmax C.1.1 C.1.2.1 (by rw [hls.1]; exact C.1.2.2.1) C.1.2.2.2.1 (hts _ h1) (hts _ h2) (hts _ h3) (hts _ h4) hf hl hk hn d ?_
  have e : (if Int32.ofInt a < Int32.ofInt b then Int32.ofInt b else Int32.ofInt a) = Int32.ofInt (if a < b then b else a) := by
    by_cases q : a < b
    · rw [if_pos q, if_pos ((nz_lt ha hb).mpr q)]
    · rw [if_neg q, if_neg (fun z => q ((nz_lt ha hb).mp z))]
  rw [e]
  exact kk H locs ls hP hS hls
theorem J_mmin (C : Cx w cc nL own Ts ret hh p l s m args meth c G A) {idx : Nat} {a b : Int} (d : decode cc pc = .ok (.invokestatic idx, 3)) (h1 : Cond.methodLink own idx Lib.Math.min.name ∈ Ts) (h2 : Cond.static Lib.Math.min.name ∈ Ts) (h3 : Cond.initialized "java/lang/Math" ∈ Ts) (h4 : Cond.code Lib.Math.min.name Lib.Math.min.code 2 (some .int) ∈ Ts)
    (hf : 1 ≤ R.frames) (hl : (st.map fun v => v.category).sum + 13 ≤ R.locals) (hk : k ≤ R.cells) (hn : n ≤ R.slots) (ha : r32 a) (hb : r32 b) (kk : J w nL R p l e s m args below meth c G A Q k n σ L (iV (if b < a then b else a) :: st) (pc + 3)) : J w nL R p l e s m args below meth c G A Q k n σ L (iV b :: iV a :: st) pc := by
  intro H locs ls hP hS hls
  have hts := C.1.2.2.2.2
  refine va_mmin C.1.1 C.1.2.1 (by rw [hls.1]; exact C.1.2.2.1) C.1.2.2.2.1 (hts _ h1) (hts _ h2) (hts _ h3) (hts _ h4) hf hl hk hn d ?_
  have e : (if Int32.ofInt b < Int32.ofInt a then Int32.ofInt b else Int32.ofInt a) = Int32.ofInt (if b < a then b else a) := by
    by_cases q : b < a
    · rw [if_pos q, if_pos ((nz_lt hb ha).mpr q)]
    · rw [if_neg q, if_neg (fun z => q ((nz_lt hb ha).mp z))]
  rw [e]
  exact kk H locs ls hP hS hls
theorem J_alen (C : Cx w cc nL own Ts ret hh p l s m args meth c G A) (d : decode cc pc = .ok (.arraylength, 1)) (q0 : Nat) {a N : Nat} {x : (Nat → Int32) ⊕ (Nat → Int64) ⊕ (Nat → UInt32) ⊕ (Nat → UInt64) ⊕ (Nat → Option Nat)} (he : (w G σ)[q0]? = some (a, .inl (G.2.1 0, N, x))) (kk : J w nL R p l e s m args below meth c G A Q k n σ L (iV ((N : Nat) : Int) :: st) (pc + 1)) : J w nL R p l e s m args below meth c G A Q k n σ L (.ref a :: st) pc :=
  fun H locs ls hP hS hls => va_alen C.1.1 C.1.2.1 C.K hP q0 0 he (ty := .int) rfl rfl d (kk H locs ls hP hS hls)
theorem J_tabIn (C : Cx w cc nL own Ts ret hh p l s m args meth c G A) {dflt lo hi : Int} {offs : Array Int} {len tgt : Nat} {z off j : Int} (d : decode cc pc = .ok (.tableswitch dflt lo hi offs, len)) (hz : z = j) (hj : r32 j) (h1 : lo ≤ j) (h2 : j ≤ hi) (ho : offs[(j - lo).toNat]? = some off) (ht : (pc : Int) + off = (tgt : Int)) (kk : J w nL R p l e s m args below meth c G A Q k n σ L st tgt) : J w nL R p l e s m args below meth c G A Q k n σ L (iV z :: st) pc := by
  intro H locs ls hP hS hls
  subst hz
  have e : (Int32.ofInt z).toInt = z := nz_ti hj
  exact lv_tableIn C.1.1 C.1.2.1 d (by rw [e]; omega) (by rw [e]; omega) (by rw [e]; exact ho) ht (kk H locs ls hP hS hls)
theorem J_tabOut (C : Cx w cc nL own Ts ret hh p l s m args meth c G A) {dflt lo hi : Int} {offs : Array Int} {len tgt : Nat} {z : Int} (d : decode cc pc = .ok (.tableswitch dflt lo hi offs, len)) (hz : r32 z) (h : z < lo ∨ hi < z) (ht : (pc : Int) + dflt = (tgt : Int)) (kk : J w nL R p l e s m args below meth c G A Q k n σ L st tgt) : J w nL R p l e s m args below meth c G A Q k n σ L (iV z :: st) pc := by
  intro H locs ls hP hS hls
  exact lv_tableOut C.1.1 C.1.2.1 d (by rw [nz_ti hz]; exact h) ht (kk H locs ls hP hS hls)
theorem J_ldcw (C : Cx w cc nL own Ts ret hh p l s m args meth c G A) {i : Nat} {z : Int} {v : Int32} (hw : Cond.constant own i v ∈ Ts) (hv : v = Int32.ofInt z) (d : decode cc pc = .ok (.ldc_w i, 3)) (kk : J w nL R p l e s m args below meth c G A Q k n σ L (iV z :: st) (pc + 3)) : J w nL R p l e s m args below meth c G A Q k n σ L st pc :=
  fun H locs ls hP hS hl => lv_ldcw C.1.1 C.1.2.1 C.1.2.2.2.1 (C.1.2.2.2.2 _ hw) d (by rw [hv]; exact kk H locs ls hP hS hl)
theorem Cx.NC (C : Cx w cc nL own Ts ret hh p l s m args meth c G A) : NC s := C.2.2.2.2.2.2.1.2.2.2.2.2.2
end JT
/-! locals forgotten -/
section JS
def lsub : List (Option Value) → List (Option Value) → Prop
  | [], _ => True
  | none :: t, [] => lsub t []
  | none :: t, _ :: u => lsub t u
  | some _ :: _, [] => False
  | some v :: t, x :: u => x = some v ∧ lsub t u
theorem lsub_at : ∀ {L1 L : List (Option Value)}, lsub L1 L → ∀ (i : Nat) (v : Value), L1[i]? = some (some v) → L[i]? = some (some v)
  | [], _, _, i, v, h => by simp at h
  | none :: t, [], hs, i, v, h => by
    cases i with
    | zero => simp at h
    | succ i =>
      rw [List.getElem?_cons_succ] at h
      exact absurd (lsub_at (L1 := t) (L := []) hs i v h) (by simp)
  | none :: t, x :: u, hs, i, v, h => by
    cases i with
    | zero => simp at h
    | succ i =>
      rw [List.getElem?_cons_succ] at h ⊢
      exact lsub_at (L1 := t) (L := u) hs i v h
  | some w :: t, [], hs, i, v, h => hs.elim
  | some w :: t, x :: u, hs, i, v, h => by
    cases i with
    | zero =>
      rw [List.getElem?_cons_zero] at h ⊢
      rw [hs.1]
      exact h
    | succ i =>
      rw [List.getElem?_cons_succ] at h ⊢
      exact lsub_at (L1 := t) (L := u) hs.2 i v h
variable {SG : Type} {w : Gp → SG → va_W} {nL : Nat} {R : Room} {p : Program} {l : Launch} {e : Env} {s : State} {m : MethodId} {args : Array Value} {below : List Frame} {meth : Method} {c : Code} {G : Gp} {A : Nat → Prop} {Q : State → Prop} {k n : Nat} {σ : SG} {L L1 : List (Option Value)} {st : List Value} {pc : Nat}
theorem J_sub (hs : lsub L1 L) (kk : J w nL R p l e s m args below meth c G A Q k n σ L1 st pc) : J w nL R p l e s m args below meth c G A Q k n σ L st pc :=
  fun H locs ls hP hS hl => kk H locs ls hP hS (lvh_mono hl (fun i v h => asc_mem.mpr (lsub_at hs i v h)))
theorem r32_64 {z : Int} (h : r32 z) : r64 z := ⟨by omega, by omega⟩
theorem r_ite {c : Prop} [Decidable c] {a b : Int} (ha : r32 a) (hb : r32 b) : r32 (if c then a else b) := by
  by_cases q : c
  · rw [if_pos q]; exact ha
  · rw [if_neg q]; exact hb
theorem r01 {z : Int} (h : 0 ≤ z ∧ z ≤ 1) : r32 z := ⟨by omega, by omega⟩
theorem tab2 (z : Int) : z = 0 ∨ z = 1 ∨ z = 2 ∨ (z < 0 ∨ 2 < z) := by omega
end JS
