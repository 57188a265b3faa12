/-! CALLS IN PAIRS: chains, sheets, places -/
section OP6
theorem sq110 {d : Int} (h1 : -110 ≤ d) (h2 : d ≤ 110) : 0 ≤ d * d ∧ d * d ≤ 12100 := by
  rcases Int.le_total 0 d with q | q
  · exact mulb q h2 q h2
  · have := mulb (a := -d) (b := -d) (M := 110) (N := 110) (by omega) (by omega) (by omega) (by omega)
    rw [Int.neg_mul_neg] at this
    exact this
def off (V : St) (x y j : Int) : Int := (x - V 7 j) * (x - V 7 j) + (y - V 8 j) * (y - V 8 j) - V 10 j
def ok1 (V : St) (x y e j : Int) : Bool := decide (V 10 j = -1 ∨ (-e ≤ off V x y j ∧ off V x y j ≤ e))
def fbN (V : St) (x y e : Int) : Nat → Bool
  | 0 => true
  | n + 1 => fbN V x y e n && ok1 V x y e (n : Int)
def fb (V : St) (x y e i : Int) : Bool := fbN V x y e i.toNat
theorem fb_s {V : St} {x y e i : Int} (h : 0 ≤ i) : fb V x y e (i + 1) = (fb V x y e i && ok1 V x y e i) := by
  unfold fb
  rw [show (i + 1).toNat = i.toNat + 1 by omega]
  show (fbN V x y e i.toNat && ok1 V x y e ((i.toNat : Nat) : Int)) = _
  rw [Int.toNat_of_nonneg h]
theorem fb_no {V : St} {x y e i : Int} (h : 0 ≤ i) (hf : fb V x y e i = false) : ∀ (d : Nat) (j : Int), j = i + d → fb V x y e j = false := by
  intro d
  induction d with
  | zero => intro j hj; rw [show j = i by omega]; exact hf
  | succ d ih =>
    intro j hj
    have := fb_s (V := V) (x := x) (y := y) (e := e) (i := j - 1) (by omega)
    rw [Int.sub_add_cancel] at this
    rw [this, ih (j - 1) (by omega)]
    rfl
theorem off_rg {V : St} {x y j : Int} (hI : Inv V) (hx : -60 ≤ x ∧ x ≤ 60) (hy : -60 ≤ y ∧ y ≤ 60) (j0 : 0 ≤ j) (j1 : j < V 1 0) : -30000 ≤ off V x y j ∧ off V x y j ≤ 24201 := by
  have hp := hI.2.1.2.2 j j0 j1
  have hq := hI.2.2.1 j
  have h1 := sq110 (d := x - V 7 j) (by omega) (by omega)
  have h2 := sq110 (d := y - V 8 j) (by omega) (by omega)
  unfold off
  omega
variable {S : St} {Qr : Int → St → Prop} {Qx : String → St → Prop}
theorem sp_X1_fits {x y e : Int} (hI : Inv (vw S)) (hx : -60 ≤ x ∧ x ≤ 60) (hy : -60 ≤ y ∧ y ≤ 60) (he : 0 ≤ e ∧ e ≤ 5000) (h : Qr (if fb (vw S) x y e (vw S 1 0) then 1 else 0) S) : M_X1_fits x y e S Qr Qx := by
  obtain ⟨n0, n10, _⟩ := hI.1
  have key : ∀ (d : Nat) (i : Int), 0 ≤ i → i + d = vw S 1 0 → fb (vw S) x y e i = true → R_X1_fits_3 x y e i S Qr Qx := by
    intro d
    induction d with
    | zero =>
      intro i hi0 hi hf
      have ei : i = vw S 1 0 := by omega
      rw [← ei, hf] at h
      exact vc_X1_fits_3 fun _ _ _ _ _ => ⟨fun _ => h, fun z => absurd z (by have : S 1 4 = vw S 1 0 := rfl; omega)⟩
    | succ d ih =>
      intro i hi0 hi hf
      have hlt : i < vw S 1 0 := by omega
      have hs := fb_s (V := vw S) (x := x) (y := y) (e := e) hi0
      rw [hf, Bool.true_and] at hs
      have ho := off_rg hI hx hy hi0 hlt
      have hyes : ok1 (vw S) x y e i = true → r32 (i + 1) ∧ R_X1_fits_3 x y e (i + 1) S Qr Qx := fun q => ⟨⟨by omega, by omega⟩, ih (i + 1) (by omega) (by omega) (by rw [hs]; exact q)⟩
      have hno : ok1 (vw S) x y e i = false → Qr 0 S := fun q => by
        rw [fb_no (by omega) (hs.trans q) (vw S 1 0 - (i + 1)).toNat (vw S 1 0) (by omega)] at h
        exact h
      refine vc_X1_fits_3 fun _ _ _ _ _ => ⟨fun z => absurd z (by have : S 1 4 = vw S 1 0 := rfl; omega), fun _ => ⟨⟨hi0, by omega⟩, fun q => hyes (decide_eq_true (Or.inl q)), fun q => ?_⟩⟩
      show r32 (off (vw S) x y i) ∧ (e < off (vw S) x y i → Qr 0 S) ∧ (off (vw S) x y i ≤ e → r32 (-e) ∧ (-e ≤ off (vw S) x y i → _) ∧ (off (vw S) x y i < -e → Qr 0 S))
      exact ⟨⟨by omega, by omega⟩, fun q2 => hno (decide_eq_false fun z => by rcases z with z | z; exact q z; omega), fun q2 => ⟨⟨by omega, by omega⟩, fun q3 => hyes (decide_eq_true (Or.inr ⟨q3, q2⟩)), fun q3 => hno (decide_eq_false fun z => by rcases z with z | z; exact q z; omega)⟩⟩
  exact vc_X1_fits fun _ _ _ _ => key (vw S 1 0).toNat 0 (by omega) (by omega) rfl
def pcN (V : St) (e : Int) : Nat → Int → Int → Int → Int
  | 0, _, _, c => c
  | d + 1, x, y, c => if 60 < y then (if 60 < x + 1 then c else pcN V e d (x + 1) (-60) c) else pcN V e d x (y + 1) (c + if fb V x y e (V 1 0) then 1 else 0)
def plN (V : St) (e : Int) : Nat → Int → Int → Int → Int
  | 0, _, _, _ => -1
  | d + 1, x, y, l => if 60 < y then (if 60 < x + 1 then -1 else plN V e d (x + 1) (-60) l) else if fb V x y e (V 1 0) then (if l = 0 then 1000 * (x + 60) + y + 60 else plN V e d x (y + 1) (l - 1)) else plN V e d x (y + 1) l
theorem lp_X6_places {e : Int} (hI : Inv (vw S)) (he : 0 ≤ e ∧ e ≤ 5000) : ∀ (d : Nat) (x y c : Int), -60 ≤ x → x ≤ 60 → -60 ≤ y → y ≤ 61 → 122 * (60 - x) + (61 - y) < d → 0 ≤ c → c + 122 * (60 - x) + (61 - y) ≤ 20000 → Qr (pcN (vw S) e d x y c) S → R_X6_places_19 e c x y S Qr Qx
  | 0, x, y, c, _, _, _, _, hd, _, _, _ => absurd hd (by omega)
  | d + 1, x, y, c, x0, x1, y0, y1, hd, c0, c1, h => by
    unfold pcN at h
    refine vc_X6_places_19 fun _ _ _ _ _ => ⟨fun q => ⟨⟨by omega, by omega⟩, ?_⟩, fun q => ?_⟩
    · rw [if_pos q] at h
      refine vc_X6_places_9 fun _ _ _ _ => ⟨fun q2 => ?_, fun q2 => ?_⟩
      · rw [if_pos q2] at h; exact h
      · rw [if_neg (by omega)] at h
        exact lp_X6_places hI he d (x + 1) (-60) c (by omega) q2 (by omega) (by omega) (by omega) c0 (by omega) h
    · rw [if_neg (by omega)] at h
      refine sp_X1_fits hI ⟨x0, x1⟩ ⟨y0, q⟩ he ?_
      intro _ _
      by_cases f : fb (vw S) x y e (vw S 1 0) = true
      · rw [if_pos f] at h ⊢
        exact ⟨fun z => absurd z (by decide), fun _ => ⟨⟨by omega, by omega⟩, ⟨by omega, by omega⟩, lp_X6_places hI he d x (y + 1) (c + 1) x0 x1 (by omega) (by omega) (by omega) (by omega) (by omega) h⟩⟩
      · rw [if_neg f] at h ⊢
        rw [Int.add_zero] at h
        exact ⟨fun _ => ⟨⟨by omega, by omega⟩, lp_X6_places hI he d x (y + 1) c x0 x1 (by omega) (by omega) (by omega) c0 (by omega) h⟩, fun z => absurd rfl z⟩
theorem lp_X6_place {e p : Int} (hI : Inv (vw S)) (he : 0 ≤ e ∧ e ≤ 5000) : ∀ (d : Nat) (x y c : Int), -60 ≤ x → x ≤ 60 → -60 ≤ y → y ≤ 61 → 122 * (60 - x) + (61 - y) < d → 0 ≤ c → c + 122 * (60 - x) + (61 - y) ≤ 20000 → c ≤ p → Qr (plN (vw S) e d x y (p - c)) S → R_X6_place_25 e p c x y S Qr Qx
  | 0, x, y, c, _, _, _, _, hd, _, _, _, _ => absurd hd (by omega)
  | d + 1, x, y, c, x0, x1, y0, y1, hd, c0, c1, cp, h => by
    unfold plN at h
    refine vc_X6_place_25 fun _ _ _ _ _ _ => ⟨fun q => ⟨⟨by omega, by omega⟩, ?_⟩, fun q => ?_⟩
    · rw [if_pos q] at h
      refine vc_X6_place_14 fun _ _ _ _ _ => ⟨fun q2 => ?_, fun q2 => ?_⟩
      · rw [if_pos q2] at h; exact h
      · rw [if_neg (by omega)] at h
        exact lp_X6_place hI he d (x + 1) (-60) c (by omega) q2 (by omega) (by omega) (by omega) c0 (by omega) cp h
    · rw [if_neg (by omega)] at h
      refine sp_X1_fits hI ⟨x0, x1⟩ ⟨y0, q⟩ he ?_
      intro _ _
      by_cases f : fb (vw S) x y e (vw S 1 0) = true
      · rw [if_pos f] at h ⊢
        refine ⟨fun z => absurd z (by decide), fun _ => ⟨fun q3 => ⟨⟨by omega, by omega⟩, ⟨by omega, by omega⟩, ?_⟩, fun q3 => ⟨⟨by omega, by omega⟩, ?_⟩⟩⟩
        · rw [if_neg (by omega), show p - c - 1 = p - (c + 1) by omega] at h
          exact lp_X6_place hI he d x (y + 1) (c + 1) x0 x1 (by omega) (by omega) (by omega) (by omega) (by omega) (by omega) h
        · rw [if_pos (by omega)] at h; exact h
      · rw [if_neg f] at h ⊢
        exact ⟨fun _ => ⟨⟨by omega, by omega⟩, lp_X6_place hI he d x (y + 1) c x0 x1 (by omega) (by omega) (by omega) c0 (by omega) cp h⟩, fun z => absurd rfl z⟩
end OP6
