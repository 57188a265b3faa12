/-! BITS counted, of a long: the machine's own method -/
section BITS2
section
variable {SG : Type} {w : Gp → SG → va_W} {cc : ByteArray} {nL : Nat} {own : String} {Ts : List Cond} {ret : Option FieldType} {hh : List (Nat × Nat × Nat × Nat)} {R : Room} {p : Program} {l : Launch} {e : Env} {s : State} {m : MethodId} {args : Array Value} {below : List Frame} {meth : Method} {c : Code} {G : Gp} {A : Nat → Prop} {Q : State → Prop} {k n : Nat} {σ : SG} {L : List (Option Value)} {st : List Value} {pc : Nat}
theorem J_l2iw (C : Cx w cc nL own Ts ret hh p l s m args meth c G A) {a : Int} (d : decode cc pc = .ok (.l2i, 1)) (kk : J w nL R p l e s m args below meth c G A Q k n σ L (iV a :: st) (pc + 1)) : J w nL R p l e s m args below meth c G A Q k n σ L (lV a :: st) pc :=
  fun H locs ls hP hS hl => lv_l2i C.1.1 C.1.2.1 d Int64.toInt32_ofInt (kk H locs ls hP hS hl)
end
theorem vw_J13_55 {x0 : Int} {S : St} {Qr : Int → St → Prop} {Qx : String → St → Prop} (h : r64 x0 → okC S → Qr (zand x0 127) S) : R_J13_bitCount_95d88_55 x0 S Qr Qx := by
  intro rx0
  intro p l e s m args below meth c G A C hok
  have h2 := h rx0 hok
  replace C : Cx wC cJ13_bitCount_95d88 2 RJ13 wsJ13_bitCount_95d88 (some .int) [] p l s m args meth c G A := C
  show J wC 2 rmJ13_bitCount_95d88 p l e s m args below meth c G A (QQ 1 wC okC G Qr Qx A below args s rmJ13_bitCount_95d88.cells rmJ13_bitCount_95d88.slots) 0 0 S [some (lV x0), none] [] 55
  refine J_lload_n (pc := 55) C dJ13_bitCount_95d88_55 rfl ?_
  refine J_l2iw (pc := 56) C dJ13_bitCount_95d88_56 ?_
  refine J_bipush (pc := 57) C dJ13_bitCount_95d88_57 (by decide) ?_
  refine J_iand (pc := 59) C dJ13_bitCount_95d88_59 ?_
  exact J_iret (pc := 60) C dJ13_bitCount_95d88_60 (r_zand _ _) hok h2 (by decide) (by decide)
theorem zand127 (a : Nat) : zand (a : Int) 127 = ((a % 128 : Nat) : Int) := by
  have e : zand (a : Int) ((127 : Nat) : Int) = ((a &&& 127 : Nat) : Int) := by
    unfold zand
    have hl : a &&& 127 ≤ 127 := Nat.and_le_right
    rw [of_nat32, of_nat32, and_nat32, ti_nat32 (by omega)]
  have e2 : a &&& 127 = a % 128 := Nat.and_two_pow_sub_one_eq_mod a 7
  rw [← e2]
  exact e
theorem yushr_nat {a j : Nat} (ha : a < 2 ^ 63) (hj : j < 63) : yushr (a : Int) (j : Int) = ((a / 2 ^ j : Nat) : Int) := by
  have hs : ∀ j : Nat, j < 63 → ((Int32.ofNat j).toInt64.toUInt64 &&& Int64.toUInt64 63).toBitVec.toNat % 64 = j := by decide +kernel
  unfold yushr
  rw [of_nat32, of_nat64]
  show ((Int64.ofNat a).toBitVec >>> (((Int32.ofNat j).toInt64.toUInt64 &&& Int64.toUInt64 63).toBitVec % 64#64)).toInt = _
  have hv : ((Int64.ofNat a).toBitVec >>> (((Int32.ofNat j).toInt64.toUInt64 &&& Int64.toUInt64 63).toBitVec % 64#64)).toNat = a / 2 ^ j := by
    rw [BitVec.ushiftRight_eq', BitVec.toNat_ushiftRight, BitVec.toNat_umod]
    have e1 : (Int64.ofNat a).toBitVec.toNat = a := by
      show (BitVec.ofNat 64 a).toNat = a
      rw [BitVec.toNat_ofNat, Nat.mod_eq_of_lt (by omega)]
    have e2 : (64#64 : BitVec 64).toNat = 64 := rfl
    rw [e1, e2, hs j hj, Nat.shiftRight_eq_div_pow]
  have hlt : a / 2 ^ j < 2 ^ 63 := Nat.lt_of_le_of_lt (Nat.div_le_self _ _) ha
  rw [BitVec.toInt_eq_toNat_of_lt (by rw [hv]; omega), hv]
theorem ms8 : ms 85 8 = 6148914691236517205 ∧ ms 51 8 = 3689348814741910323 ∧ ms 15 8 = 1085102592571150095 := by decide +kernel
variable {S : St} {Qr : Int → St → Prop} {Qx : String → St → Prop}
theorem sp_J13 {U : Nat} (hU : U < 2 ^ 40) (h : Qr (cn (tb U) 40) S) : M_J13_bitCount_95d88 (U : Int) S Qr Qx := by
  obtain ⟨m5, m3, mf⟩ := ms8
  have a1 : (U / 2) &&& ms 85 8 ≤ U / 2 := Nat.and_le_left
  have x1 : (U : Int) - yand (yushr (U : Int) 1) 6148914691236517205 = ((g1 8 U : Nat) : Int) := by
    have e := yushr_nat (a := U) (j := 1) (by omega) (by decide)
    rw [Nat.pow_one] at e
    have e2 := yand_nat (a := U / 2) (b := 6148914691236517205) (by omega)
    have e' : yushr (U : Int) 1 = ((U / 2 : Nat) : Int) := e
    rw [e']
    have e2' : yand ((U / 2 : Nat) : Int) 6148914691236517205 = ((U / 2 &&& 6148914691236517205 : Nat) : Int) := e2
    rw [e2']
    unfold g1
    rw [m5] at a1 ⊢
    omega
  have b1 : g1 8 U ≤ U := Nat.sub_le _ _
  have x2 : yand ((g1 8 U : Nat) : Int) 3689348814741910323 + yand (yushr ((g1 8 U : Nat) : Int) 2) 3689348814741910323 = ((g2 8 (g1 8 U) : Nat) : Int) := by
    have e : yushr ((g1 8 U : Nat) : Int) 2 = ((g1 8 U / 2 ^ 2 : Nat) : Int) := yushr_nat (j := 2) (by omega) (by decide)
    have e2 : yand ((g1 8 U / 2 ^ 2 : Nat) : Int) 3689348814741910323 = ((g1 8 U / 2 ^ 2 &&& 3689348814741910323 : Nat) : Int) := yand_nat (b := 3689348814741910323) (by omega)
    have e3 : yand ((g1 8 U : Nat) : Int) 3689348814741910323 = ((g1 8 U &&& 3689348814741910323 : Nat) : Int) := yand_nat (b := 3689348814741910323) (by omega)
    rw [e, e2, e3]
    unfold g2
    rw [m3]
    rfl
  have b2 : g2 8 (g1 8 U) < 2 ^ 41 := by
    have q1 : g1 8 U &&& ms 51 8 ≤ g1 8 U := Nat.and_le_left
    have q2 : (g1 8 U / 4) &&& ms 51 8 ≤ g1 8 U / 4 := Nat.and_le_left
    unfold g2
    omega
  have x3 : yand (((g2 8 (g1 8 U) : Nat) : Int) + yushr ((g2 8 (g1 8 U) : Nat) : Int) 4) 1085102592571150095 = ((bsum 8 U : Nat) : Int) := by
    have e : yushr ((g2 8 (g1 8 U) : Nat) : Int) 4 = ((g2 8 (g1 8 U) / 2 ^ 4 : Nat) : Int) := yushr_nat (j := 4) (by omega) (by decide)
    rw [e, ← g_all]
    have e2 : yand ((g2 8 (g1 8 U) + g2 8 (g1 8 U) / 16 : Nat) : Int) 1085102592571150095 = ((g2 8 (g1 8 U) + g2 8 (g1 8 U) / 16 &&& 1085102592571150095 : Nat) : Int) := yand_nat (b := 1085102592571150095) (by omega)
    unfold g3
    rw [mf, ← e2]
    rfl
  -- bytes
  have q : ∀ x : Nat, q8 (x % 256) ≤ 8 ∧ ((q8 (x % 256) : Nat) : Int) = bc (x % 256) := fun x => by
    obtain ⟨_, _, _, d, e⟩ := byt' (show x % 256 < 256 by omega)
    exact ⟨e, d⟩
  have hf := fold8 (q U).1 (q (U / 256)).1 (q (U / 256 / 256)).1 (q (U / 256 / 256 / 256)).1 (q (U / 256 / 256 / 256 / 256)).1 (q (U / 256 / 256 / 256 / 256 / 256)).1 (q (U / 256 / 256 / 256 / 256 / 256 / 256)).1 (q (U / 256 / 256 / 256 / 256 / 256 / 256 / 256)).1 (c0 := bsum 8 U) (c1 := bsum 8 U + bsum 8 U / 256) (c2 := bsum 8 U + bsum 8 U / 256 + (bsum 8 U + bsum 8 U / 256) / 65536) (c3 := bsum 8 U + bsum 8 U / 256 + (bsum 8 U + bsum 8 U / 256) / 65536 + (bsum 8 U + bsum 8 U / 256 + (bsum 8 U + bsum 8 U / 256) / 65536) / 4294967296) rfl rfl rfl rfl
  have hcn : cn (tb U) 40 = (q8 (U % 256) : Int) + q8 (U / 256 % 256) + q8 (U / 256 / 256 % 256) + q8 (U / 256 / 256 / 256 % 256) + q8 (U / 256 / 256 / 256 / 256 % 256) + q8 (U / 256 / 256 / 256 / 256 / 256 % 256) + q8 (U / 256 / 256 / 256 / 256 / 256 / 256 % 256) + q8 (U / 256 / 256 / 256 / 256 / 256 / 256 / 256 % 256) := by
    rw [show (40 : Int) = 8 + (8 + (8 + (8 + (8 + 0)))) by decide, cn_byte (by decide), cn_byte (by decide), cn_byte (by decide), cn_byte (by decide), cn_byte (by decide), cn_0, (q U).2, (q _).2, (q _).2, (q _).2, (q _).2]
    have z : U / 256 / 256 / 256 / 256 / 256 = 0 := by omega
    have z8 : ((q8 (0 % 256) : Nat) : Int) = 0 := by decide +kernel
    rw [z, z8]
    omega
  generalize hc3 : bsum 8 U + bsum 8 U / 256 + (bsum 8 U + bsum 8 U / 256) / 65536 + (bsum 8 U + bsum 8 U / 256 + (bsum 8 U + bsum 8 U / 256) / 65536) / 4294967296 = c3 at hf
  refine vc_J13_bitCount_95d88 fun _ _ => ?_
  rw [x1]
  refine ⟨⟨by omega, by omega⟩, vc_J13_bitCount_95d88_10 fun _ _ => ?_⟩
  rw [x2]
  refine ⟨⟨by omega, by omega⟩, vc_J13_bitCount_95d88_24 fun _ _ => ?_⟩
  rw [x3]
  have y1 : ((bsum 8 U : Nat) : Int) + yushr ((bsum 8 U : Nat) : Int) 8 = ((bsum 8 U + bsum 8 U / 256 : Nat) : Int) := by
    have e : yushr ((bsum 8 U : Nat) : Int) 8 = ((bsum 8 U / 2 ^ 8 : Nat) : Int) := yushr_nat (j := 8) (by omega) (by decide)
    rw [e]; rfl
  refine vc_J13_bitCount_95d88_34 fun _ _ => ?_
  rw [y1]
  generalize bsum 8 U + bsum 8 U / 256 = c1 at *
  have y2 : ((c1 : Nat) : Int) + yushr ((c1 : Nat) : Int) 16 = ((c1 + c1 / 65536 : Nat) : Int) := by
    have e : yushr ((c1 : Nat) : Int) 16 = ((c1 / 2 ^ 16 : Nat) : Int) := yushr_nat (j := 16) (by omega) (by decide)
    rw [e]; rfl
  refine ⟨⟨by omega, by omega⟩, vc_J13_bitCount_95d88_41 fun _ _ => ?_⟩
  rw [y2]
  generalize c1 + c1 / 65536 = c2 at *
  have y3 : ((c2 : Nat) : Int) + yushr ((c2 : Nat) : Int) 32 = ((c2 + c2 / 4294967296 : Nat) : Int) := by
    have e : yushr ((c2 : Nat) : Int) 32 = ((c2 / 2 ^ 32 : Nat) : Int) := yushr_nat (j := 32) (by omega) (by decide)
    rw [e]; rfl
  refine ⟨⟨by omega, by omega⟩, vc_J13_bitCount_95d88_48 fun _ _ => ?_⟩
  rw [y3, hc3]
  refine ⟨⟨by omega, by omega⟩, vw_J13_55 fun _ _ => ?_⟩
  rw [zand127, hf.1]
  rw [hcn] at h
  have e : ∀ a b c d e f g k : Nat, ((a + b + c + d + e + f + g + k : Nat) : Int) = (a : Int) + b + c + d + e + f + g + k := fun a b c d e f g k => by omega
  rw [e]
  exact h
end BITS2
