/-! WORLDS IN PIECES: a piece of a world is handed to a call, the rest stays -/
section MID
theorem zz_Pl {D : va_G} {cl : List vw_C} {a b : va_W} {H : Heap} (h : va_P D cl (a ++ b) H) : va_P D cl a H := fun k q hk => h k q (by rw [List.getElem?_append_left (List.getElem?_eq_some_iff.mp hk).1]; exact hk)
theorem zz_Pr {D : va_G} {cl : List vw_C} {a b : va_W} {H : Heap} (h : va_P D cl (a ++ b) H) : va_P D cl b H := fun k q hk => h (a.length + k) q (by rw [List.getElem?_append_right (Nat.le_add_right _ _), Nat.add_sub_cancel_left]; exact hk)
theorem zz_inl {a b : va_W} {k : Nat} {q : Nat × va_E} (hk : a[k]? = some q) : (a ++ b)[k]? = some q := by rw [List.getElem?_append_left (List.getElem?_eq_some_iff.mp hk).1]; exact hk
theorem zz_inr {a b : va_W} {k : Nat} {q : Nat × va_E} (hk : b[k]? = some q) : (a ++ b)[a.length + k]? = some q := by rw [List.getElem?_append_right (Nat.le_add_right _ _), Nat.add_sub_cancel_left]; exact hk
theorem zz_Dl {A : Nat → Prop} {a b : va_W} (h : va_D A (a ++ b)) : va_D A a := ⟨fun i j p q hi hj e => h.1 i j p q (zz_inl hi) (zz_inl hj) e, fun k q hk => h.2 k q (zz_inl hk)⟩
theorem zz_Dr {A : Nat → Prop} {a b : va_W} (h : va_D A (a ++ b)) : va_D A b := ⟨fun i j p q hi hj e => by have := h.1 _ _ p q (zz_inr hi) (zz_inr hj) e; omega, fun k q hk => h.2 _ q (zz_inr hk)⟩
theorem zz_off {A : Nat → Prop} {a b : va_W} (h : va_D A (a ++ b)) {i j : Nat} {p q : Nat × va_E} (hi : a[i]? = some p) (hj : b[j]? = some q) : p.1 ≠ q.1 := fun e => by
  have h1 := h.1 _ _ p q (zz_inl hi) (zz_inr hj) e
  have h2 := (List.getElem?_eq_some_iff.mp hi).1
  omega
/-- what lies apart from the piece c isn't touched by a call that touches c alone -/
theorem zz_stay {A : Nat → Prop} {D : va_G} {cl : List vw_C} {X c : va_W} {H H1 : Heap} (hP : va_P D cl X H) (hx : ∀ (i j : Nat) (p q : Nat × va_E), X[i]? = some p → c[j]? = some q → p.1 ≠ q.1) (hk : ∀ q : Nat, q < H.size → ¬ va_A c H.size q → H1[q]? = H[q]?) : va_P D cl X H1 := fun k q hq => by
  have hl := (hP k q hq).lt
  refine (hP k q hq).kept (hk q.1 hl fun h => ?_)
  rcases h with ⟨j, e, h⟩ | h
  · exact hx k j q (q.1, e) hq h rfl
  · omega
theorem zz_mid {A : Nat → Prop} {D : va_G} {cl : List vw_C} {X c c1 Y : va_W} {H H1 : Heap} (hP : va_P D cl (X ++ c ++ Y) H) (hD : va_D A (X ++ c ++ Y)) (hk : ∀ q : Nat, q < H.size → ¬ va_A c H.size q → H1[q]? = H[q]?) (hP1 : va_P D cl c1 H1) : va_P D cl (X ++ c1 ++ Y) H1 :=
  va_P.app (va_P.app (zz_stay (A := A) (zz_Pl (zz_Pl hP)) (fun i j p q hi hj => zz_off (zz_Dl hD) hi hj) hk) hP1) (zz_stay (A := A) (zz_Pr hP) (fun i j p q hi hj e => zz_off hD (zz_inr hj) hi e.symm) hk)
theorem zz_join {A : Nat → Prop} {D : va_G} {cl : List vw_C} {X c c1 : va_W} {H H1 : Heap} (hP : va_P D cl (X ++ c) H) (hD : va_D A (X ++ c)) (hk : ∀ q : Nat, q < H.size → ¬ va_A c H.size q → H1[q]? = H[q]?) (hF : ∀ q, va_A c H.size q → A q) (hP1 : va_P D cl c1 H1) (hD1 : va_D (va_A c H.size) c1) : va_P D cl (X ++ c1) H1 ∧ va_D A (X ++ c1) := by
  refine ⟨va_P.app (zz_stay (A := A) (zz_Pl hP) (fun i j p q hi hj => zz_off hD hi hj) hk) hP1, va_D.app (zz_Dl hD) (hD1.weaken (fun k q _ h => hF q.1 h)) fun i j p q hi hj e => ?_⟩
  have hl := (zz_Pl hP i p hi).lt
  have h1 := hD1.2 j q hj
  rw [← e] at h1
  rcases h1 with ⟨j2, e2, h⟩ | h
  · exact zz_off hD hi h rfl
  · omega
theorem zz_free {A : Nat → Prop} {X c : va_W} {H0 H : Heap} {locs : List Loc} (hD : va_D A (X ++ c)) (hS : va_S A H0 H locs) (hA : ∀ q, H0.size ≤ q → A q) : ∀ q, va_A c H.size q → A q := fun q h => by
  rcases h with ⟨j, e, h⟩ | h
  · exact (zz_Dr hD).2 j (q, e) h
  · exact hA q (Nat.le_trans hS.1 h)
theorem zz_at {ws ws' : va_W} {is : List Nat} (hs : is.map (fun i => ws[i]?) = ws'.map some) {k : Nat} {q : Nat × va_E} (hq : ws'[k]? = some q) : ∃ i, is[k]? = some i ∧ ws[i]? = some q := by
  have h1 : (is.map (fun i => ws[i]?))[k]? = some (some q) := by rw [hs, List.getElem?_map, hq]; rfl
  rw [List.getElem?_map] at h1
  cases hi : is[k]? with
  | none => rw [hi] at h1; cases h1
  | some i => rw [hi] at h1; exact ⟨i, rfl, Option.some.inj h1⟩
theorem zz_Psub {D : va_G} {cl : List vw_C} {ws ws' : va_W} {H : Heap} (h : va_P D cl ws H) (is : List Nat) (hs : is.map (fun i => ws[i]?) = ws'.map some) : va_P D cl ws' H := fun k q hq => by
  obtain ⟨i, -, h2⟩ := zz_at hs hq
  exact h i q h2
end MID
