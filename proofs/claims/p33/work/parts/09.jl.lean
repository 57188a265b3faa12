/-! THE BUNDLED JUDGEMENT: a world is a function of a mathematical state; whole numbers are Ints; J is W with the world, the locals and the frame bundled -/
section NZ
abbrev iV (z : Int) : Value := .int (Int32.ofInt z)
abbrev lV (z : Int) : Value := .long (Int64.ofInt z)
abbrev r32 (z : Int) : Prop := -2147483648 ≤ z ∧ z < 2147483648
abbrev r64 (z : Int) : Prop := -9223372036854775808 ≤ z ∧ z < 9223372036854775808
abbrev ix (z n : Int) : Prop := 0 ≤ z ∧ z < n
abbrev St : Type := Nat → Int → Int
def up (S : St) (k : Nat) (j v : Int) : St := fun a b => if a = k then (if b = j then v else S a b) else S a b
theorem up_same (S : St) (k : Nat) (j v : Int) : up S k j v k j = v := by simp [up]
theorem up_at (S : St) (k : Nat) (j v b : Int) : up S k j v k b = if b = j then v else S k b := by simp [up]
theorem up_ne (S : St) {k a : Nat} (h : a ≠ k) (j v b : Int) : up S k j v a b = S a b := by simp [up, h]
theorem nz_bm {z : Int} (h : r32 z) : z.bmod (2 ^ 32) = z := Int.bmod_eq_of_le (by omega) (by omega)
theorem nz_bmL {z : Int} (h : r64 z) : z.bmod (2 ^ 64) = z := Int.bmod_eq_of_le (by omega) (by omega)
theorem nz_ti {z : Int} (h : r32 z) : (Int32.ofInt z).toInt = z := by rw [Int32.toInt_ofInt]; exact nz_bm h
theorem nz_tiL {z : Int} (h : r64 z) : (Int64.ofInt z).toInt = z := by rw [Int64.toInt_ofInt]; exact nz_bmL h
theorem nz_rng (x : Int32) : r32 x.toInt := by
  have h1 := Int32.le_toInt x
  have h2 := Int32.toInt_lt x
  constructor <;> omega
theorem nz_rngL (x : Int64) : r64 x.toInt := by
  have h1 := Int64.le_toInt x
  have h2 := Int64.toInt_lt x
  constructor <;> omega
theorem nz_lt {a b : Int} (ha : r32 a) (hb : r32 b) : Int32.ofInt a < Int32.ofInt b ↔ a < b := by
  rw [Int32.lt_iff_toInt_lt, nz_ti ha, nz_ti hb]
theorem nz_le {a b : Int} (ha : r32 a) (hb : r32 b) : Int32.ofInt a ≤ Int32.ofInt b ↔ a ≤ b := by
  rw [Int32.le_iff_toInt_le, nz_ti ha, nz_ti hb]
theorem nz_eq {a b : Int} (ha : r32 a) (hb : r32 b) : Int32.ofInt a = Int32.ofInt b ↔ a = b := by
  rw [← Int32.toInt_inj, nz_ti ha, nz_ti hb]
theorem nz_ltL {a b : Int} (ha : r64 a) (hb : r64 b) : Int64.ofInt a < Int64.ofInt b ↔ a < b := by
  rw [Int64.lt_iff_toInt_lt, nz_tiL ha, nz_tiL hb]
theorem nz_leL {a b : Int} (ha : r64 a) (hb : r64 b) : Int64.ofInt a ≤ Int64.ofInt b ↔ a ≤ b := by
  rw [Int64.le_iff_toInt_le, nz_tiL ha, nz_tiL hb]
theorem nz_eqL {a b : Int} (ha : r64 a) (hb : r64 b) : Int64.ofInt a = Int64.ofInt b ↔ a = b := by
  rw [← Int64.toInt_inj, nz_tiL ha, nz_tiL hb]
theorem nz_cl {z : Int} (h : 0 ≤ z) (h2 : r32 z) : (Int32.ofInt z).toNatClampNeg = z.toNat := by
  show (Int32.ofInt z).toInt.toNat = z.toNat
  rw [nz_ti h2]
theorem nz_in {z : Int} {n : Nat} (h : ix z n) (hn : n < 2 ^ 31) : vp_in (Int32.ofInt z) n := by
  obtain ⟨h0, h1⟩ := h
  have hr : r32 z := ⟨by omega, by omega⟩
  intro q
  rcases q with q | q
  · have q' : Int32.ofInt z < Int32.ofInt 0 := q
    rw [nz_lt hr ⟨by decide, by decide⟩] at q'
    omega
  · rw [nz_cl h0 hr] at q
    omega
theorem nz_i2l {z : Int} (h : r32 z) : (Int32.ofInt z).toInt64 = Int64.ofInt z := by
  apply Int64.toInt_inj.mp
  rw [Int32.toInt_toInt64, nz_ti h, nz_tiL ⟨by omega, by omega⟩]
theorem nz_l2i {z : Int} (h : r32 z) : (Int64.ofInt z).toInt32 = Int32.ofInt z := by
  apply Int32.toInt_inj.mp
  rw [Int64.toInt_toInt32, nz_tiL ⟨by omega, by omega⟩, nz_ti h, nz_bm h]
/-- the machine's words on whole numbers, as numbers -/
def zand (a b : Int) : Int := (Int32.ofInt a &&& Int32.ofInt b).toInt
def zor (a b : Int) : Int := (Int32.ofInt a ||| Int32.ofInt b).toInt
def zxor (a b : Int) : Int := (Int32.ofInt a ^^^ Int32.ofInt b).toInt
def zshl (a b : Int) : Int := (Int32.ofInt a <<< (Int32.ofInt b &&& 31)).toInt
def zshr (a b : Int) : Int := (Int32.ofInt a >>> (Int32.ofInt b &&& 31)).toInt
def zushr (a b : Int) : Int := ((Int32.ofInt a).toUInt32 >>> ((Int32.ofInt b).toUInt32 &&& Int32.toUInt32 31)).toInt32.toInt
def yand (a b : Int) : Int := (Int64.ofInt a &&& Int64.ofInt b).toInt
def yor (a b : Int) : Int := (Int64.ofInt a ||| Int64.ofInt b).toInt
def yxor (a b : Int) : Int := (Int64.ofInt a ^^^ Int64.ofInt b).toInt
def yshl (a b : Int) : Int := (Int64.ofInt a <<< ((Int32.ofInt b).toInt64 &&& 63)).toInt
def yshr (a b : Int) : Int := (Int64.ofInt a >>> ((Int32.ofInt b).toInt64 &&& 63)).toInt
def yushr (a b : Int) : Int := ((Int64.ofInt a).toUInt64 >>> ((Int32.ofInt b).toInt64.toUInt64 &&& Int64.toUInt64 63)).toInt64.toInt
theorem r_zand (a b : Int) : r32 (zand a b) := nz_rng _
theorem r_zor (a b : Int) : r32 (zor a b) := nz_rng _
theorem r_zxor (a b : Int) : r32 (zxor a b) := nz_rng _
theorem r_zshl (a b : Int) : r32 (zshl a b) := nz_rng _
theorem r_zshr (a b : Int) : r32 (zshr a b) := nz_rng _
theorem r_zushr (a b : Int) : r32 (zushr a b) := nz_rng _
theorem r_yand (a b : Int) : r64 (yand a b) := nz_rngL _
theorem r_yor (a b : Int) : r64 (yor a b) := nz_rngL _
theorem r_yxor (a b : Int) : r64 (yxor a b) := nz_rngL _
theorem r_yshl (a b : Int) : r64 (yshl a b) := nz_rngL _
theorem r_yshr (a b : Int) : r64 (yshr a b) := nz_rngL _
theorem r_yushr (a b : Int) : r64 (yushr a b) := nz_rngL _
theorem nz_of (x : Int32) : Int32.ofInt x.toInt = x := Int32.ofInt_toInt x
theorem nz_ofL (x : Int64) : Int64.ofInt x.toInt = x := Int64.ofInt_toInt x
theorem nz_div {a b : Int} (ha : r32 a) (hb : r32 b) (h : 0 < b) : Int32.ofInt a / Int32.ofInt b = Int32.ofInt (a.tdiv b) := by
  apply Int32.toInt_inj.mp
  rw [Int32.toInt_div, nz_ti ha, nz_ti hb, Int32.toInt_ofInt]
theorem nz_divL {a b : Int} (ha : r64 a) (hb : r64 b) (h : 0 < b) : Int64.ofInt a / Int64.ofInt b = Int64.ofInt (a.tdiv b) := by
  apply Int64.toInt_inj.mp
  rw [Int64.toInt_div, nz_tiL ha, nz_tiL hb, Int64.toInt_ofInt]
theorem nz_rem {a b : Int} (ha : r32 a) (hb : r32 b) (h : 0 < b) : Int32.ofInt a - Int32.ofInt a / Int32.ofInt b * Int32.ofInt b = Int32.ofInt (a.tmod b) := by
  rw [nz_div ha hb h, ← Int32.ofInt_mul, ← Int32.ofInt_sub, Int.tmod_def, Int.mul_comm]
theorem nz_remL {a b : Int} (ha : r64 a) (hb : r64 b) (h : 0 < b) : Int64.ofInt a - Int64.ofInt a / Int64.ofInt b * Int64.ofInt b = Int64.ofInt (a.tmod b) := by
  rw [nz_divL ha hb h, ← Int64.ofInt_mul, ← Int64.ofInt_sub, Int.tmod_def, Int.mul_comm]
theorem nz_ne0 {b : Int} (hb : r32 b) (h : 0 < b) : ¬ Int32.ofInt b = 0 := by
  intro q
  have q' : Int32.ofInt b = Int32.ofInt 0 := q
  rw [nz_eq hb ⟨by decide, by decide⟩] at q'
  omega
theorem nz_ne0L {b : Int} (hb : r64 b) (h : 0 < b) : ¬ Int64.ofInt b = 0 := by
  intro q
  have q' : Int64.ofInt b = Int64.ofInt 0 := q
  rw [nz_eqL hb ⟨by decide, by decide⟩] at q'
  omega
end NZ
/-! locals, by places -/
section LO
def cl2 (L : List (Option Value)) (i : Nat) : List (Option Value) := match i with
  | 0 => L
  | k + 1 => match L[k]? with
    | some (some (.long _)) => L.set k none
    | some (some (.double _)) => L.set k none
    | _ => L
def stI (L : List (Option Value)) (i : Nat) (v : Value) : List (Option Value) := (cl2 L i).set i (some v)
def stL (L : List (Option Value)) (i : Nat) (v : Value) : List (Option Value) := ((cl2 L i).set i (some v)).set (i + 1) none
def asc (L : List (Option Value)) : List (Nat × Value) := (List.range L.length).filterMap fun i => match L[i]? with
  | some (some v) => some (i, v)
  | _ => none
theorem asc_mem {L : List (Option Value)} {i : Nat} {v : Value} : (i, v) ∈ asc L ↔ L[i]? = some (some v) := by
  unfold asc
  rw [List.mem_filterMap]
  constructor
  · rintro ⟨j, -, hj⟩
    split at hj
    · rename_i w hw
      cases hj
      exact hw
    · cases hj
  · intro h
    refine ⟨i, List.mem_range.mpr (List.getElem?_eq_some_iff.mp h).1, ?_⟩
    rw [h]
def lvh (ls : Array Slot) (nL : Nat) (L : List (Option Value)) : Prop := lv_has ls nL (asc L)
theorem lvh_at {ls : Array Slot} {nL : Nat} {L : List (Option Value)} (h : lvh ls nL L) {i : Nat} {v : Value} (hi : L[i]? = some (some v)) : ls[i]? = some (.val v) := h.2.2 (i, v) (asc_mem.mpr hi)
theorem lvh_mono {ls : Array Slot} {nL : Nat} {L : List (Option Value)} {l : List (Nat × Value)} (h : lv_has ls nL l) (hs : ∀ i v, L[i]? = some (some v) → (i, v) ∈ l) : lvh ls nL L :=
  ⟨h.1, h.2.1, fun q hq => h.2.2 q (hs q.1 q.2 (asc_mem.mp hq))⟩
theorem cl2_sub {L : List (Option Value)} {i j : Nat} {w : Value} (h : (cl2 L i)[j]? = some (some w)) : L[j]? = some (some w) ∧ ¬ (j + 1 = i ∧ w.category = 2) := by
  unfold cl2 at h
  cases i with
  | zero => exact ⟨h, by omega⟩
  | succ k =>
    dsimp only at h
    split at h
    · rename_i x hx
      by_cases e : j = k
      · subst e
        rw [List.getElem?_set] at h
        simp at h
      · rw [List.getElem?_set_ne (Ne.symm e)] at h
        exact ⟨h, by omega⟩
    · rename_i x hx
      by_cases e : j = k
      · subst e
        rw [List.getElem?_set] at h
        simp at h
      · rw [List.getElem?_set_ne (Ne.symm e)] at h
        exact ⟨h, by omega⟩
    · rename_i h1 h2
      refine ⟨h, fun ⟨e, hc⟩ => ?_⟩
      have e' : j = k := by omega
      subst e'
      cases w <;> first | exact h1 _ h | exact h2 _ h | (simp [Value.category] at hc)
theorem lvh_st1 {ls' : Array Slot} {nL : Nat} {L : List (Option Value)} {i : Nat} {v : Value} (h : lv_has ls' nL ((i, v) :: (asc L).filter (fun q => !(q.1 == i) && !(q.1 + 1 == i && q.2.category == 2)))) : lvh ls' nL (stI L i v) := by
  refine lvh_mono h fun j w hj => ?_
  unfold stI at hj
  by_cases e : j = i
  · subst e
    rw [List.getElem?_set] at hj
    split at hj
    · split at hj
      · cases hj; exact List.mem_cons_self
      · cases hj
    · exact absurd rfl (by assumption)
  · rw [List.getElem?_set_ne (Ne.symm e)] at hj
    obtain ⟨h1, h2⟩ := cl2_sub hj
    refine List.mem_cons_of_mem _ (List.mem_filter.mpr ⟨asc_mem.mpr h1, ?_⟩)
    simp only [Bool.and_eq_true, Bool.not_eq_true', beq_eq_false_iff_ne, ne_eq, Bool.and_eq_false_imp, beq_iff_eq]
    exact ⟨e, fun q => fun z => h2 ⟨q, z⟩⟩
theorem lvh_st2 {ls' : Array Slot} {nL : Nat} {L : List (Option Value)} {i : Nat} {v : Value} (h : lv_has ls' nL ((i, v) :: (asc L).filter (fun q => !(q.1 == i) && (!(q.1 == i + 1) && !(q.1 + 1 == i && q.2.category == 2))))) : lvh ls' nL (stL L i v) := by
  refine lvh_mono h fun j w hj => ?_
  unfold stL at hj
  by_cases e1 : j = i + 1
  · subst e1
    rw [List.getElem?_set] at hj
    simp at hj
  rw [List.getElem?_set_ne (Ne.symm e1)] at hj
  by_cases e : j = i
  · subst e
    rw [List.getElem?_set] at hj
    split at hj
    · split at hj
      · cases hj; exact List.mem_cons_self
      · cases hj
    · exact absurd rfl (by assumption)
  · rw [List.getElem?_set_ne (Ne.symm e)] at hj
    obtain ⟨h1, h2⟩ := cl2_sub hj
    refine List.mem_cons_of_mem _ (List.mem_filter.mpr ⟨asc_mem.mpr h1, ?_⟩)
    simp only [Bool.and_eq_true, Bool.not_eq_true', beq_eq_false_iff_ne, ne_eq, Bool.and_eq_false_imp, beq_iff_eq]
    exact ⟨e, e1, fun q => fun z => h2 ⟨q, z⟩⟩
end LO
