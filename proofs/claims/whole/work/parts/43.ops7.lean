/-! CALLS IN PAIRS: chains, sheets, places -/
section OP7
theorem pr_places {V : St} (hI : Inv V) (e : Int) : Pair V [IAE] (M_X6_places e) (M_X7_places e) := by
  by_cases he : 0 ≤ e ∧ e ≤ 5000
  · refine ⟨0, pcN V e 14762 (-60) (-60) 0, V, hI, by decide, by decide, fun S hS Qr Qx h _ => ?_, fun T hT hb Qr Qx h => ?_⟩
    · subst hS
      exact vc_X6_places fun _ _ => sp_X6_requireError (fun _ _ _ => vc_X6_places_9 fun _ _ _ _ => ⟨fun z => absurd z (by decide), fun _ => lp_X6_places hI he 14762 (-60) (-60) 0 (by decide) (by decide) (by decide) (by decide) (by decide) (by decide) (by decide) (h rfl S rfl)⟩) (fun z => absurd he z)
    · subst hT
      have ec : cs (up T 0 0 0) = cs T := cs_h0
      exact vc_X7_places fun _ _ => sp_X7_isIn (fun _ _ _ _ => ⟨fun z => absurd z (by decide), fun _ => sp_X7_holds (fun _ _ _ => ⟨fun _ => vc_X7_places_30 fun _ _ _ _ => ⟨fun z => absurd z (by decide), fun _ => lp_X7_places (by rw [ec]; exact hI) he 14762 (-60) (-60) 0 (by decide) (by decide) (by decide) (by decide) (by decide) (by decide) (by decide) (end_R rfl hb rfl ⟨fq_rfl, fun _ _ => rfl⟩ h fun _ => by rw [ec])⟩, fun z => absurd z (by decide)⟩) (fun z => absurd rfl z)⟩) (fun z => absurd he z)
  · refine ⟨1, 0, V, hI, by decide, by decide, fun S hS Qr Qx _ hx => ?_, fun T hT hb Qr Qx h => ?_⟩
    · subst hS
      exact vc_X6_places fun _ _ => sp_X6_requireError (fun z1 z2 => absurd ⟨z1, z2⟩ he) (fun _ => hx (by decide) _ rfl)
    · exact vc_X7_places fun _ _ => sp_X7_isIn (fun z1 z2 => absurd ⟨z1, z2⟩ he) (fun _ _ _ => ⟨fun _ => sp_X7_holds (fun z => absurd z (by decide)) (fun _ _ _ => ⟨fun z => absurd rfl z, fun _ => thr_R hT hb (by decide) h 0⟩), fun z => absurd rfl z⟩)
theorem pr_place {V : St} (hI : Inv V) (e p : Int) : Pair V [IOOBE, IAE] (M_X6_place e p) (M_X7_place e p) := by
  by_cases hp : 0 ≤ p
  · by_cases he : 0 ≤ e ∧ e ≤ 5000
    · refine ⟨0, plN V e 14762 (-60) (-60) p, V, hI, by decide, by decide, fun S hS Qr Qx h _ => ?_, fun T hT hb Qr Qx h => ?_⟩
      · subst hS
        exact vc_X6_place fun _ _ _ => sp_X6_requireCount (fun _ _ => sp_X6_requireError (fun _ _ _ => vc_X6_place_14 fun _ _ _ _ _ => ⟨fun z => absurd z (by decide), fun _ => lp_X6_place hI he 14762 (-60) (-60) 0 (by decide) (by decide) (by decide) (by decide) (by decide) (by decide) (by decide) hp (by rw [Int.sub_zero]; exact h rfl S rfl)⟩) (fun z => absurd he z)) (fun z => by omega)
      · subst hT
        have ec : cs (up T 0 0 0) = cs T := cs_h0
        exact vc_X7_place fun _ r _ => ⟨fun _ => sp_X7_isIn (fun _ _ _ _ => ⟨fun z => absurd z (by decide), fun _ => sp_X7_holds (fun _ _ _ => ⟨fun _ => vc_X7_place_39 fun _ _ _ _ => ⟨fun z => absurd z (by decide), fun _ => lp_X7_place (by rw [ec]; exact hI) he 14762 (-60) (-60) p (by decide) (by decide) (by decide) (by decide) (by decide) hp (by have := r.2; omega) (end_R rfl hb rfl ⟨fq_rfl, fun _ _ => rfl⟩ h fun _ => by rw [ec])⟩, fun z => absurd z (by decide)⟩) (fun z => absurd rfl z)⟩) (fun z => absurd he z), fun z => by omega⟩
    · refine ⟨2, 0, V, hI, by decide, by decide, fun S hS Qr Qx _ hx => ?_, fun T hT hb Qr Qx h => ?_⟩
      · subst hS
        exact vc_X6_place fun _ _ _ => sp_X6_requireCount (fun _ _ => sp_X6_requireError (fun z1 z2 => absurd ⟨z1, z2⟩ he) (fun _ => hx (by decide) _ rfl)) (fun z => by omega)
      · exact vc_X7_place fun _ _ _ => ⟨fun _ => sp_X7_isIn (fun z1 z2 => absurd ⟨z1, z2⟩ he) (fun _ _ _ => ⟨fun _ => sp_X7_holds (fun z => absurd z (by decide)) (fun _ _ _ => ⟨fun z => absurd rfl z, fun _ => thr_R hT hb (by decide) h 0⟩), fun z => absurd rfl z⟩), fun z => by omega⟩
  · refine ⟨1, 0, V, hI, by decide, by decide, fun S hS Qr Qx _ hx => ?_, fun T hT hb Qr Qx h => ?_⟩
    · subst hS
      exact vc_X6_place fun _ _ _ => sp_X6_requireCount (fun z => absurd z hp) (fun _ => hx (by decide) _ rfl)
    · exact vc_X7_place fun _ _ _ => ⟨fun z => absurd z hp, fun _ => sp_X7_holds (fun z => absurd z (by decide)) (fun _ _ _ => ⟨fun z => absurd rfl z, fun _ => thr_R hT hb (by decide) h 0⟩)⟩
/-! chains -/
def lnk (a : Int) : Prop := 0 ≤ a ∧ a ≤ 1000000
theorem big3 (a b c : Int) : ∃ m, (if a < (if b < c then c else b) then (if b < c then c else b) else a) = m ∧ a ≤ m ∧ b ≤ m ∧ c ≤ m ∧ (m = a ∨ m = b ∨ m = c) := by
  refine ⟨_, rfl, ?_⟩
  by_cases q : b < c
  · rw [if_pos q]; by_cases q2 : a < c
    · rw [if_pos q2]; omega
    · rw [if_neg q2]; omega
  · rw [if_neg q]; by_cases q2 : a < b
    · rw [if_pos q2]; omega
    · rw [if_neg q2]; omega
section
variable {S : St} {Qr : Int → St → Prop} {Qx : String → St → Prop}
theorem r46x {a b c d : Int} (h : Qr 0 (up S 0 0 1)) : R_X7_reaches_46 a b c d 0 S Qr Qx :=
  vc_X7_reaches_46 fun _ _ _ _ _ _ => ⟨fun _ => sp_X7_holds (fun z => absurd z (by decide)) (fun _ _ _ => ⟨fun z => absurd rfl z, fun _ => h⟩), fun z => absurd rfl z⟩
end
theorem pr_reaches {V : St} (hI : Inv V) (a b c d : Int) : Pair V [IAE] (M_X6_reaches a b c d) (M_X7_reaches a b c d) := by
  by_cases hr : lnk a ∧ lnk b ∧ lnk c ∧ (0 ≤ d ∧ d ≤ 3000000)
  · obtain ⟨ha, hb', hc, hd⟩ := hr
    obtain ⟨m, em, ma, mb, mc, mm⟩ := big3 a b c
    unfold lnk at ha hb' hc
    have hm : 0 ≤ m ∧ m ≤ 1000000 := by omega
    refine ⟨0, if d ≤ a + b + c ∧ 2 * m - a - b - c ≤ d then 1 else 0, V, hI, by decide, by decide, fun S hS Qr Qx h _ => ?_, fun T hT hb Qr Qx h => ?_⟩
    · have hh := h rfl S hS
      refine vc_X6_reaches fun _ _ _ _ _ => sp_X6_requireLink (fun _ _ _ => sp_X6_requireLink (fun _ _ _ => sp_X6_requireLink (fun _ _ _ => ⟨fun z => by omega, fun _ => ⟨fun _ => ?_, fun z => by omega⟩⟩) (fun z => absurd hc z)) (fun z => absurd hb' z)) (fun z => absurd ha z)
      rw [em]
      refine ⟨⟨by omega, by omega⟩, fun q => ?_, fun q => ⟨⟨by omega, by omega⟩, fun q2 => ?_, fun q2 => ?_⟩⟩
      · rw [if_neg (by omega)] at hh; exact hh
      · rw [if_neg (by omega)] at hh; exact hh
      · rw [if_pos (by omega)] at hh; exact hh
    · subst hT
      have hh := fun r' (hr : r' = (if d ≤ a + b + c ∧ 2 * m - a - b - c ≤ d then 1 else 0)) => end_R (Qr := Qr) rfl hb rfl (T' := up T 0 0 0) ⟨fq_rfl, fun _ _ => rfl⟩ h (fun _ => hr)
      have f91 : R_X7_reaches_91 a b c d m (up T 0 0 0) Qr Qx := vc_X7_reaches_91 fun _ _ _ _ _ _ => ⟨⟨by omega, by omega⟩, fun q => hh _ (by rw [if_neg (by omega)]), fun q => ⟨⟨by omega, by omega⟩, fun q2 => hh _ (by rw [if_neg (by omega)]), fun q2 => hh _ (by rw [if_pos (by omega)])⟩⟩
      have f91' : ∀ z, z = m → R_X7_reaches_91 a b c d z (up T 0 0 0) Qr Qx := fun z e => by rw [e]; exact f91
      have f77 : ∀ s, s ≤ m → (s = m ∨ c = m) → R_X7_reaches_77 a b c d s (up T 0 0 0) Qr Qx := fun s s1 s2 => vc_X7_reaches_77 fun _ _ _ _ _ _ => ⟨fun q => f91' s (by omega), fun q => f91' c (by omega)⟩
      refine vc_X7_reaches fun _ _ _ _ _ => sp_X7_isIn (fun _ _ _ _ => ⟨fun z => absurd z (by decide), fun _ => sp_X7_isIn (fun _ _ _ _ => ⟨fun z => absurd z (by decide), fun _ => sp_X7_isIn (fun _ _ _ _ => ⟨fun z => absurd z (by decide), fun _ => sp_X7_isIn (fun _ _ _ _ => ⟨fun z => absurd z (by decide), fun _ => ?_⟩) (fun z => absurd hd z)⟩) (fun z => absurd hc z)⟩) (fun z => absurd hb' z)⟩) (fun z => absurd ha z)
      exact vc_X7_reaches_46 fun _ _ _ _ _ _ => ⟨fun z => absurd z (by decide), fun _ => sp_X7_holds (fun _ _ _ => ⟨fun _ => ⟨fun q => f77 b mb (by omega), fun q => f77 a ma (by omega)⟩, fun z => absurd z (by decide)⟩) (fun z => absurd rfl z)⟩
  · refine ⟨1, 0, V, hI, by decide, by decide, fun S hS Qr Qx _ hx => ?_, fun T hT hb Qr Qx h => ?_⟩
    · have hx' := hx (by decide) S hS
      exact vc_X6_reaches fun _ _ _ _ _ => sp_X6_requireLink (fun a1 a2 _ => sp_X6_requireLink (fun b1 b2 _ => sp_X6_requireLink (fun c1 c2 _ => ⟨fun _ => hx', fun d1 => ⟨fun d2 => absurd ⟨⟨a1, a2⟩, ⟨b1, b2⟩, ⟨c1, c2⟩, d1, d2⟩ hr, fun _ => hx'⟩⟩) (fun _ => hx')) (fun _ => hx')) (fun _ => hx')
    · have f0 : ∀ {a b c d}, R_X7_reaches_46 a b c d 0 T Qr Qx := r46x (thr_R hT hb (by decide) h 0)
      exact vc_X7_reaches fun _ _ _ _ _ => sp_X7_isIn (fun a1 a2 _ _ => ⟨fun z => absurd z (by decide), fun _ => sp_X7_isIn (fun b1 b2 _ _ => ⟨fun z => absurd z (by decide), fun _ => sp_X7_isIn (fun c1 c2 _ _ => ⟨fun z => absurd z (by decide), fun _ => sp_X7_isIn (fun d1 d2 => absurd ⟨⟨a1, a2⟩, ⟨b1, b2⟩, ⟨c1, c2⟩, d1, d2⟩ hr) (fun _ _ _ => ⟨fun _ => f0, fun z => absurd rfl z⟩)⟩) (fun _ _ _ => ⟨fun _ => f0, fun z => absurd rfl z⟩)⟩) (fun _ _ _ => ⟨fun _ => f0, fun z => absurd rfl z⟩)⟩) (fun _ _ _ => ⟨fun _ => f0, fun z => absurd rfl z⟩)
/-! sheets -/
def k1 (a : Int) : Int := a - zand (zushr a 1) 1431655765
def k2 (x : Int) : Int := zand x 858993459 + zand (zushr x 2) 858993459
def k3 (x : Int) : Int := zand (x + zushr x 4) 252645135
def k4 (x : Int) : Int := x + zushr x 8
def k5 (x : Int) : Int := x + zushr x 16
def rb (z : Int) : Bool := decide (-2147483648 ≤ z ∧ z < 2147483648)
theorem bc_tab : ∀ a : Nat, a < 16 → (rb (k1 a) && rb (k2 (k1 a)) && rb (k4 (k3 (k2 (k1 a)))) && rb (k5 (k4 (k3 (k2 (k1 a))))) && decide (zand (k5 (k4 (k3 (k2 (k1 a))))) 63 = pc a)) = true := by decide +kernel
section
variable {S : St} {Qr : Int → St → Prop} {Qx : String → St → Prop}
theorem rb_r {z : Int} (h : rb z = true) : r32 z := of_decide_eq_true h
theorem sp_J6 {a : Nat} (ha : a < 16) (h : Qr (pc a) S) : M_J6_bitCount_0f7a4 (a : Int) S Qr Qx := by
  have ht := bc_tab a ha
  rw [Bool.and_eq_true, Bool.and_eq_true, Bool.and_eq_true, Bool.and_eq_true] at ht
  obtain ⟨⟨⟨⟨t1, t2⟩, t3⟩, t4⟩, t5⟩ := ht
  have e5 := of_decide_eq_true t5
  refine vc_J6_bitCount_0f7a4 fun _ _ => ⟨rb_r t1, vc_J6_bitCount_0f7a4_10 fun _ _ => ⟨rb_r t2, vc_J6_bitCount_0f7a4_24 fun _ _ => vc_J6_bitCount_0f7a4_34 fun _ _ => ⟨rb_r t3, vc_J6_bitCount_0f7a4_41 fun _ _ => ⟨rb_r t4, vc_J6_bitCount_0f7a4_48 fun _ _ => ?_⟩⟩⟩⟩
  show Qr (zand (k5 (k4 (k3 (k2 (k1 a))))) 63) S
  rw [e5]
  exact h
theorem f61x {a b c d m : Int} (h : Qr 0 (up S 0 0 1)) : R_X7_folds_61 a b c d m 0 S Qr Qx :=
  vc_X7_folds_61 fun _ _ _ _ _ _ _ => ⟨fun _ => sp_X7_holds (fun z => absurd z (by decide)) (fun _ _ _ => ⟨fun z => absurd rfl z, fun _ => h⟩), fun z => absurd rfl z⟩
end
theorem pc16 : ∀ a : Nat, a < 16 → (decide (0 ≤ pc a) && decide (pc a ≤ 4)) = true := by decide +kernel
def ang (a : Int) : Prop := 1 ≤ a ∧ a ≤ 359
theorem pr_folds {V : St} (hI : Inv V) (a b c d m : Int) : Pair V [IAE] (M_X6_folds a b c d m) (M_X7_folds a b c d m) := by
  by_cases hr : ang a ∧ ang b ∧ ang c ∧ ang d ∧ (0 ≤ m ∧ m ≤ 15)
  · obtain ⟨ha, hb', hc, hd, hm⟩ := hr
    unfold ang at ha hb' hc hd
    obtain ⟨k, rfl⟩ : ∃ k : Nat, m = (k : Int) := ⟨m.toNat, by omega⟩
    have hk : k < 16 := by omega
    have hpc := pc16 k hk
    rw [Bool.and_eq_true] at hpc
    have p0 := of_decide_eq_true hpc.1
    have p4 := of_decide_eq_true hpc.2
    refine ⟨0, if a + b + c + d ≠ 360 then 1 else if a + c ≠ 180 then 2 else if pc k = 1 ∨ pc k = 3 then 0 else 3, V, hI, by decide, by decide, fun S hS Qr Qx h _ => ?_, fun T hT hb Qr Qx h => ?_⟩
    · have hh := h rfl S hS
      refine vc_X6_folds fun _ _ _ _ _ _ => sp_X6_requireAngle (fun _ _ _ => sp_X6_requireAngle (fun _ _ _ => sp_X6_requireAngle (fun _ _ _ => sp_X6_requireAngle (fun _ _ _ => ⟨fun z => by omega, fun _ => ⟨fun _ => ⟨⟨by omega, by omega⟩, fun q => ⟨⟨by omega, by omega⟩, fun q2 => sp_J6 hk fun _ _ => ⟨fun q3 => ?_, fun q3 => ⟨fun q4 => ?_, fun q4 => ?_⟩⟩, fun q2 => ?_⟩, fun q => ?_⟩, fun z => by omega⟩⟩) (fun z => absurd hd z)) (fun z => absurd hc z)) (fun z => absurd hb' z)) (fun z => absurd ha z)
      · rw [if_neg (by omega), if_neg (by omega), if_pos (by omega)] at hh; exact hh
      · rw [if_neg (by omega), if_neg (by omega), if_neg (by omega)] at hh; exact hh
      · rw [if_neg (by omega), if_neg (by omega), if_pos (by omega)] at hh; exact hh
      · rw [if_neg (by omega), if_pos q2] at hh; exact hh
      · rw [if_pos q] at hh; exact hh
    · subst hT
      have hh := fun r' (hr : r' = (if a + b + c + d ≠ 360 then (1 : Int) else if a + c ≠ 180 then 2 else if pc k = 1 ∨ pc k = 3 then 0 else 3)) => end_R (Qr := Qr) rfl hb rfl (T' := up T 0 0 0) ⟨fq_rfl, fun _ _ => rfl⟩ h (fun _ => hr)
      refine vc_X7_folds fun _ _ _ _ _ _ => sp_X7_isIn (fun _ _ _ _ => ⟨fun z => absurd z (by decide), fun _ => sp_X7_isIn (fun _ _ _ _ => ⟨fun z => absurd z (by decide), fun _ => sp_X7_isIn (fun _ _ _ _ => ⟨fun z => absurd z (by decide), fun _ => sp_X7_isIn (fun _ _ _ _ => ⟨fun z => absurd z (by decide), fun _ => sp_X7_isIn (fun _ _ _ _ => ⟨fun z => absurd z (by decide), fun _ => ?_⟩) (fun z => absurd hm z)⟩) (fun z => absurd hd z)⟩) (fun z => absurd hc z)⟩) (fun z => absurd hb' z)⟩) (fun z => absurd ha z)
      refine vc_X7_folds_61 fun _ _ _ _ _ _ _ => ⟨fun z => absurd z (by decide), fun _ => sp_X7_holds (fun _ _ _ => ⟨fun _ => ⟨⟨by omega, by omega⟩, fun q => ⟨⟨by omega, by omega⟩, fun q2 => sp_X7_bits (by omega) fun _ _ => ?_, fun q2 => hh _ (by rw [if_neg (by omega), if_pos q2])⟩, fun q => hh _ (by rw [if_pos q])⟩, fun z => absurd z (by decide)⟩) (fun z => absurd rfl z)⟩
      rw [Int.tmod_eq_emod_of_nonneg p0]
      exact ⟨⟨by omega, by omega⟩, fun q3 => hh _ (by rw [if_neg (by omega), if_neg (by omega), if_pos (by omega)]), fun q3 => hh _ (by rw [if_neg (by omega), if_neg (by omega), if_neg (by omega)])⟩
  · refine ⟨1, 0, V, hI, by decide, by decide, fun S hS Qr Qx _ hx => ?_, fun T hT hb Qr Qx h => ?_⟩
    · have hx' := hx (by decide) S hS
      exact vc_X6_folds fun _ _ _ _ _ _ => sp_X6_requireAngle (fun a1 a2 _ => sp_X6_requireAngle (fun b1 b2 _ => sp_X6_requireAngle (fun c1 c2 _ => sp_X6_requireAngle (fun d1 d2 _ => ⟨fun _ => hx', fun e1 => ⟨fun e2 => absurd ⟨⟨a1, a2⟩, ⟨b1, b2⟩, ⟨c1, c2⟩, ⟨d1, d2⟩, e1, e2⟩ hr, fun _ => hx'⟩⟩) (fun _ => hx')) (fun _ => hx')) (fun _ => hx')) (fun _ => hx')
    · have f0 : ∀ {a b c d m}, R_X7_folds_61 a b c d m 0 T Qr Qx := f61x (thr_R hT hb (by decide) h 0)
      exact vc_X7_folds fun _ _ _ _ _ _ => sp_X7_isIn (fun a1 a2 _ _ => ⟨fun z => absurd z (by decide), fun _ => sp_X7_isIn (fun b1 b2 _ _ => ⟨fun z => absurd z (by decide), fun _ => sp_X7_isIn (fun c1 c2 _ _ => ⟨fun z => absurd z (by decide), fun _ => sp_X7_isIn (fun d1 d2 _ _ => ⟨fun z => absurd z (by decide), fun _ => sp_X7_isIn (fun e1 e2 => absurd ⟨⟨a1, a2⟩, ⟨b1, b2⟩, ⟨c1, c2⟩, ⟨d1, d2⟩, e1, e2⟩ hr) (fun _ _ _ => ⟨fun _ => f0, fun z => absurd rfl z⟩)⟩) (fun _ _ _ => ⟨fun _ => f0, fun z => absurd rfl z⟩)⟩) (fun _ _ _ => ⟨fun _ => f0, fun z => absurd rfl z⟩)⟩) (fun _ _ _ => ⟨fun _ => f0, fun z => absurd rfl z⟩)⟩) (fun _ _ _ => ⟨fun _ => f0, fun z => absurd rfl z⟩)
end OP7
