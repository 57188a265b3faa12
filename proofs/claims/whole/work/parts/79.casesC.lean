/-! cases 20 .. 29 of the law's switch -/
section LCASE
set_option maxRecDepth 100000 in
set_option maxHeartbeats 8000000 in
theorem lc_20 (hh : List (Nat × Nat × Nat × Nat)) : Case hh 1239 := by
  intro p l e s m args below meth c G A Q b Ls xs i k n σ X hi hk hn hJ kk
  obtain ⟨V, hI, hS, hT, hb, oS, oT⟩ := hJ
  obtain ⟨S, o, T⟩ := σ
  have C := X.1
  have hS : vw S = V := hS
  have hT : cs T = V := hT
  have hb : Tb T := hb
  have oS : okC S := oS
  have oT : okM T := oT
  obtain ⟨c0, r, V', hI', h0, h1, hC, hR⟩ := pr_stress hI (sv xs (i + 1)) (sv xs (i + 2))
  have h1 : c0 ≤ 2 := h1
  have MC := ct_L_stress (o := o) (r := r) (r_sv xs (i + 1)) (r_sv xs (i + 2)) ⟨h0, h1⟩ (hC S hS)
  have MR := hR T hT hb (fun q T1 => cs T1 = V' ∧ Tb T1 ∧ T1 0 0 = c0 ∧ (c0 = 0 → q = r)) (fun _ _ => False) (fun T1 r1 g1 g2 g3 g4 => ⟨g1, g2, g3, g4⟩) (r_sv xs (i + 1)) (r_sv xs (i + 2))
  refine J_aload_n (pc := 1239) C dL_law_1239 rfl ?_
  refine J_aload_n (pc := 1240) C dL_law_1240 rfl ?_
  refine J_iload (pc := 1241) C dL_law_1241 rfl ?_
  refine J_iconst (pc := 1243) C dL_law_1243 ?_
  refine J_iadd (pc := 1244) C dL_law_1244 ?_
  refine J_sld (pc := 1245) X dL_law_1245 ⟨by omega, by omega⟩ ?_
  refine J_aload_n (pc := 1246) C dL_law_1246 rfl ?_
  refine J_iload (pc := 1247) C dL_law_1247 rfl ?_
  refine J_iconst (pc := 1249) C dL_law_1249 ?_
  refine J_iadd (pc := 1250) C dL_law_1250 ?_
  refine J_sld (pc := 1251) X dL_law_1251 ⟨by omega, by omega⟩ ?_
  refine J_aload_n (pc := 1252) C dL_law_1252 rfl ?_
  refine J_e1 (pc := 1253) C (emb_LX G S o T) (J_eSX (pc := 1253) X MC dL_law_1253 rfl rfl (vx_cwSW 4 C.1.2.2.2.2 gL_law_L_stress rfl rfl rfl (by decide +kernel) ⟨Nat.le_of_ble_eq_true rfl, Nat.le_of_ble_eq_true rfl⟩) oS (Nat.le_of_ble_eq_true rfl) ⟨by show k + 2 ≤ 601024; omega, by show n + 12 ≤ 7293034; omega⟩) (fun N τ _ q => q.elim) (fun q1 u hq1 ok1 hu => ?_)
  obtain ⟨S1, o1⟩ := u
  obtain ⟨hk1, hv1, ho1⟩ := hu
  have hv1 : vw S1 = V' := hv1
  have ok1 : okC S1 := ok1
  refine J_widen (k1 := k + 8) (n1 := n + 60) (by show k + 2 ≤ k + 8; omega) (by show n + 12 ≤ n + 60; omega) ?_
  show J wL 7 room_1 p l e s m args below meth c G A Q _ _ (S1, o1, T) _ _ _
  refine J_istore (pc := 1256) C dL_law_1256 (by decide) ?_
  refine J_aload_n (pc := 1258) C dL_law_1258 rfl ?_
  refine J_aload_n (pc := 1259) C dL_law_1259 rfl ?_
  refine J_iload (pc := 1260) C dL_law_1260 rfl ?_
  refine J_iconst (pc := 1262) C dL_law_1262 ?_
  refine J_iadd (pc := 1263) C dL_law_1263 ?_
  refine J_sld (pc := 1264) X dL_law_1264 ⟨by omega, by omega⟩ ?_
  refine J_aload_n (pc := 1265) C dL_law_1265 rfl ?_
  refine J_iload (pc := 1266) C dL_law_1266 rfl ?_
  refine J_iconst (pc := 1268) C dL_law_1268 ?_
  refine J_iadd (pc := 1269) C dL_law_1269 ?_
  refine J_sld (pc := 1270) X dL_law_1270 ⟨by omega, by omega⟩ ?_
  refine J_e1 (pc := 1271) C (emb_LM G S1 o1 T) (J_eV (pc := 1271) C (emb_LM G S1 o1 T) MR dL_law_1271 rfl rfl 0 rfl rfl (cwV 2 C.1.2.2.2.2 gL_law_X7_stress rfl rfl rfl (by decide +kernel) ⟨Nat.le_of_ble_eq_true rfl, Nat.le_of_ble_eq_true rfl⟩) oT (Nat.le_of_ble_eq_true rfl) ⟨by show k + 8 + 0 ≤ 601024; omega, by show n + 60 + 0 ≤ 7293034; omega⟩) (fun N τ _ q => q.elim) (fun q2 T1 hq2 okT1 hu => ?_)
  obtain ⟨g1, g2, g3, g4⟩ := hu
  show J wL 7 room_1 p l e s m args below meth c G A Q _ _ (S1, o1, T1) _ _ _
  refine J_istore (pc := 1274) C dL_law_1274 (by decide) ?_
  refine J_aload_n (pc := 1276) C dL_law_1276 rfl ?_
  have MT : M_X7_thrown T1 (fun q T2 => q = T1 0 0 ∧ T2 = T1) (fun _ _ => False) := sp_X7_thrown ⟨rfl, rfl⟩
  refine J_e1 (pc := 1277) C (emb_LM G S1 o1 T1) (J_eV (pc := 1277) C (emb_LM G S1 o1 T1) MT dL_law_1277 rfl rfl 0 rfl rfl (cwV 0 C.1.2.2.2.2 gL_law_X7_thrown rfl rfl rfl (by decide +kernel) ⟨Nat.le_of_ble_eq_true rfl, Nat.le_of_ble_eq_true rfl⟩) okT1 (Nat.le_of_ble_eq_true rfl) ⟨by show k + 8 + 0 + 0 ≤ 601024; omega, by show n + 60 + 0 + 0 ≤ 7293034; omega⟩) (fun N τ _ q => q.elim) (fun q3 T2 hq3 okT2 hu => ?_)
  obtain ⟨hq3v, hT2⟩ := hu
  subst hT2
  have hq3c : q3 = c0 := hq3v.trans g3
  show J wL 7 room_1 p l e s m args below meth c G A Q _ _ (S1, o1, T2) _ _ _
  refine J_iload (pc := 1280) C dL_law_1280 rfl ?_
  refine J_icmp_eq (pc := 1282) (tgt := 1287) C dL_law_1282 (by decide) hq3 hq1 (fun _ => ?_) (fun cb => absurd (hq3c.trans hk1.symm) cb)
  refine J_iload (pc := 1287) C dL_law_1287 rfl ?_
  refine J_if_ne (pc := 1289) (tgt := 1304) C dL_law_1289 (by decide) hq1 (fun _ => ?_) (fun cz => ?_)
  · refine J_goto (pc := 1304) (tgt := 1809) C dL_law_1304 (by decide) ?_
    refine J_widen (k1 := k + 20) (n1 := n + 200) (by show k + 8 + 0 + 0 ≤ k + 20; omega) (by show n + 60 + 0 + 0 ≤ n + 200; omega) ?_
    exact J_sub (L1 := LH G b i) ⟨rfl, ⟨rfl, ⟨rfl, ⟨rfl, ⟨rfl, trivial⟩⟩⟩⟩⟩ (kk (S1, o1, T2) ⟨V', hI', hv1, g1, g2, ok1, okT1⟩)
  · have hc0 : c0 = 0 := hk1.symm.trans cz
    have e1 : o1 = r := ho1 hc0
    have e2 := g4 hc0
    refine J_aload_n (pc := 1292) C dL_law_1292 rfl ?_
    refine J_iconst (pc := 1293) C dL_law_1293 ?_
    refine J_oald (pc := 1294) C dL_law_1294 ?_
    refine J_iload (pc := 1295) C dL_law_1295 rfl ?_
    refine J_i2l (pc := 1297) C dL_law_1297 hq2 ?_
    refine J_lcmp_eq (pc := 1298) (tgt := 1304) C dL_law_1298 dL_law_1299 (by decide) (by rw [e1, ← e2]; exact r32_64 hq2) (r32_64 hq2) (fun _ => ?_) (fun cb => absurd (e1.trans e2.symm) cb)
    refine J_goto (pc := 1304) (tgt := 1809) C dL_law_1304 (by decide) ?_
    refine J_widen (k1 := k + 20) (n1 := n + 200) (by show k + 8 + 0 + 0 ≤ k + 20; omega) (by show n + 60 + 0 + 0 ≤ n + 200; omega) ?_
    exact J_sub (L1 := LH G b i) ⟨rfl, ⟨rfl, ⟨rfl, ⟨rfl, ⟨rfl, trivial⟩⟩⟩⟩⟩ (kk (S1, o1, T2) ⟨V', hI', hv1, g1, g2, ok1, okT1⟩)
set_option maxRecDepth 100000 in
set_option maxHeartbeats 8000000 in
theorem lc_21 (hh : List (Nat × Nat × Nat × Nat)) : Case hh 1307 := by
  intro p l e s m args below meth c G A Q b Ls xs i k n σ X hi hk hn hJ kk
  obtain ⟨V, hI, hS, hT, hb, oS, oT⟩ := hJ
  obtain ⟨S, o, T⟩ := σ
  have C := X.1
  have hS : vw S = V := hS
  have hT : cs T = V := hT
  have hb : Tb T := hb
  have oS : okC S := oS
  have oT : okM T := oT
  obtain ⟨c0, r, V', hI', h0, h1, hC, hR⟩ := pr_unbalanced hI
  have h1 : c0 ≤ 0 := h1
  have hc0 : c0 = 0 := by omega
  subst hc0
  have MC := hC S hS (fun q S1 => q = r ∧ vw S1 = V') (fun _ _ => False) (fun _ S1 h => ⟨rfl, h⟩) (fun z => absurd rfl z)
  have MR := hR T hT hb (fun q T1 => cs T1 = V' ∧ Tb T1 ∧ T1 0 0 = 0 ∧ (0 = 0 → q = r)) (fun _ _ => False) (fun T1 r1 g1 g2 g3 g4 => ⟨g1, g2, g3, g4⟩)
  refine J_aload_n (pc := 1307) C dL_law_1307 rfl ?_
  refine J_e1 (pc := 1308) C (emb_LC G S o T) (J_eV (pc := 1308) C (emb_LC G S o T) MC dL_law_1308 rfl rfl 0 rfl rfl (cwV 0 C.1.2.2.2.2 gL_law_X6_unbalanced rfl rfl rfl (by decide +kernel) ⟨Nat.le_of_ble_eq_true rfl, Nat.le_of_ble_eq_true rfl⟩) oS (Nat.le_of_ble_eq_true rfl) ⟨by show k + 0 ≤ 601024; omega, by show n + 0 ≤ 7293034; omega⟩) (fun N τ _ q => q.elim) (fun q1 S1 hq1 ok1 hu => ?_)
  obtain ⟨hk1, hv1⟩ := hu
  show J wL 7 room_1 p l e s m args below meth c G A Q _ _ (S1, o, T) _ _ _
  refine J_aload_n (pc := 1311) C dL_law_1311 rfl ?_
  refine J_e1 (pc := 1312) C (emb_LM G S1 o T) (J_eV (pc := 1312) C (emb_LM G S1 o T) MR dL_law_1312 rfl rfl 0 rfl rfl (cwV 0 C.1.2.2.2.2 gL_law_X7_unbalanced rfl rfl rfl (by decide +kernel) ⟨Nat.le_of_ble_eq_true rfl, Nat.le_of_ble_eq_true rfl⟩) oT (Nat.le_of_ble_eq_true rfl) ⟨by show k + 0 + 0 ≤ 601024; omega, by show n + 0 + 0 ≤ 7293034; omega⟩) (fun N τ _ q => q.elim) (fun q2 T1 hq2 okT1 hu => ?_)
  obtain ⟨g1, g2, g3, g4⟩ := hu
  show J wL 7 room_1 p l e s m args below meth c G A Q _ _ (S1, o, T1) _ _ _
  refine J_icmp_eq (pc := 1315) (tgt := 1809) C dL_law_1315 (by decide) hq1 hq2 (fun _ => ?_) (fun cb => absurd (hk1.trans (g4 rfl).symm) cb)
  refine J_widen (k1 := k + 20) (n1 := n + 200) (by show k + 0 + 0 ≤ k + 20; omega) (by show n + 0 + 0 ≤ n + 200; omega) ?_
  exact J_sub (L1 := LH G b i) ⟨rfl, ⟨rfl, ⟨rfl, ⟨rfl, ⟨rfl, trivial⟩⟩⟩⟩⟩ (kk (S1, o, T1) ⟨V', hI', hv1, g1, g2, ok1, okT1⟩)
set_option maxRecDepth 100000 in
set_option maxHeartbeats 8000000 in
theorem lc_22 (hh : List (Nat × Nat × Nat × Nat)) : Case hh 1320 := by
  intro p l e s m args below meth c G A Q b Ls xs i k n σ X hi hk hn hJ kk
  obtain ⟨V, hI, hS, hT, hb, oS, oT⟩ := hJ
  obtain ⟨S, o, T⟩ := σ
  have C := X.1
  have hS : vw S = V := hS
  have hT : cs T = V := hT
  have hb : Tb T := hb
  have oS : okC S := oS
  have oT : okM T := oT
  obtain ⟨c0, r, V', hI', h0, h1, hC, hR⟩ := pr_isProper hI
  have h1 : c0 ≤ 0 := h1
  have hc0 : c0 = 0 := by omega
  subst hc0
  have MC := hC S hS (fun q S1 => q = r ∧ vw S1 = V') (fun _ _ => False) (fun _ S1 h => ⟨rfl, h⟩) (fun z => absurd rfl z)
  have MR := hR T hT hb (fun q T1 => cs T1 = V' ∧ Tb T1 ∧ T1 0 0 = 0 ∧ (0 = 0 → q = r)) (fun _ _ => False) (fun T1 r1 g1 g2 g3 g4 => ⟨g1, g2, g3, g4⟩)
  refine J_aload_n (pc := 1320) C dL_law_1320 rfl ?_
  refine J_e1 (pc := 1321) C (emb_LC G S o T) (J_eV (pc := 1321) C (emb_LC G S o T) MC dL_law_1321 rfl rfl 0 rfl rfl (cwV 0 C.1.2.2.2.2 gL_law_X6_isProper rfl rfl rfl (by decide +kernel) ⟨Nat.le_of_ble_eq_true rfl, Nat.le_of_ble_eq_true rfl⟩) oS (Nat.le_of_ble_eq_true rfl) ⟨by show k + 0 ≤ 601024; omega, by show n + 0 ≤ 7293034; omega⟩) (fun N τ _ q => q.elim) (fun q1 S1 hq1 ok1 hu => ?_)
  obtain ⟨hk1, hv1⟩ := hu
  show J wL 7 room_1 p l e s m args below meth c G A Q _ _ (S1, o, T) _ _ _
  refine J_aload_n (pc := 1324) C dL_law_1324 rfl ?_
  refine J_e1 (pc := 1325) C (emb_LM G S1 o T) (J_eV (pc := 1325) C (emb_LM G S1 o T) MR dL_law_1325 rfl rfl 0 rfl rfl (cwV 0 C.1.2.2.2.2 gL_law_X7_isProper rfl rfl rfl (by decide +kernel) ⟨Nat.le_of_ble_eq_true rfl, Nat.le_of_ble_eq_true rfl⟩) oT (Nat.le_of_ble_eq_true rfl) ⟨by show k + 0 + 0 ≤ 601024; omega, by show n + 0 + 0 ≤ 7293034; omega⟩) (fun N τ _ q => q.elim) (fun q2 T1 hq2 okT1 hu => ?_)
  obtain ⟨g1, g2, g3, g4⟩ := hu
  show J wL 7 room_1 p l e s m args below meth c G A Q _ _ (S1, o, T1) _ _ _
  refine J_icmp_eq (pc := 1328) (tgt := 1809) C dL_law_1328 (by decide) hq1 hq2 (fun _ => ?_) (fun cb => absurd (hk1.trans (g4 rfl).symm) cb)
  refine J_widen (k1 := k + 20) (n1 := n + 200) (by show k + 0 + 0 ≤ k + 20; omega) (by show n + 0 + 0 ≤ n + 200; omega) ?_
  exact J_sub (L1 := LH G b i) ⟨rfl, ⟨rfl, ⟨rfl, ⟨rfl, ⟨rfl, trivial⟩⟩⟩⟩⟩ (kk (S1, o, T1) ⟨V', hI', hv1, g1, g2, ok1, okT1⟩)
set_option maxRecDepth 100000 in
set_option maxHeartbeats 8000000 in
theorem lc_23 (hh : List (Nat × Nat × Nat × Nat)) : Case hh 1333 := by
  intro p l e s m args below meth c G A Q b Ls xs i k n σ X hi hk hn hJ kk
  obtain ⟨V, hI, hS, hT, hb, oS, oT⟩ := hJ
  obtain ⟨S, o, T⟩ := σ
  have C := X.1
  have hS : vw S = V := hS
  have hT : cs T = V := hT
  have hb : Tb T := hb
  have oS : okC S := oS
  have oT : okM T := oT
  obtain ⟨c0, r, V', hI', h0, h1, hC, hR⟩ := pr_matrix hI
  have h1 : c0 ≤ 0 := h1
  have hc0 : c0 = 0 := by omega
  subst hc0
  have MC := hC S hS (fun q S1 => q = r ∧ vw S1 = V') (fun _ _ => False) (fun _ S1 h => ⟨rfl, h⟩) (fun z => absurd rfl z)
  have MR := hR T hT hb (fun q T1 => cs T1 = V' ∧ Tb T1 ∧ T1 0 0 = 0 ∧ (0 = 0 → q = r)) (fun _ _ => False) (fun T1 r1 g1 g2 g3 g4 => ⟨g1, g2, g3, g4⟩)
  refine J_aload_n (pc := 1333) C dL_law_1333 rfl ?_
  refine J_e1 (pc := 1334) C (emb_LC G S o T) (J_eV (pc := 1334) C (emb_LC G S o T) MC dL_law_1334 rfl rfl 0 rfl rfl (cwV 0 C.1.2.2.2.2 gL_law_X6_matrix rfl rfl rfl (by decide +kernel) ⟨Nat.le_of_ble_eq_true rfl, Nat.le_of_ble_eq_true rfl⟩) oS (Nat.le_of_ble_eq_true rfl) ⟨by show k + 0 ≤ 601024; omega, by show n + 0 ≤ 7293034; omega⟩) (fun N τ _ q => q.elim) (fun q1 S1 hq1 ok1 hu => ?_)
  obtain ⟨hk1, hv1⟩ := hu
  show J wL 7 room_1 p l e s m args below meth c G A Q _ _ (S1, o, T) _ _ _
  refine J_aload_n (pc := 1337) C dL_law_1337 rfl ?_
  refine J_e1 (pc := 1338) C (emb_LM G S1 o T) (J_eV (pc := 1338) C (emb_LM G S1 o T) MR dL_law_1338 rfl rfl 0 rfl rfl (cwV 0 C.1.2.2.2.2 gL_law_X7_matrix rfl rfl rfl (by decide +kernel) ⟨Nat.le_of_ble_eq_true rfl, Nat.le_of_ble_eq_true rfl⟩) oT (Nat.le_of_ble_eq_true rfl) ⟨by show k + 0 + 0 ≤ 601024; omega, by show n + 0 + 0 ≤ 7293034; omega⟩) (fun N τ _ q => q.elim) (fun q2 T1 hq2 okT1 hu => ?_)
  obtain ⟨g1, g2, g3, g4⟩ := hu
  show J wL 7 room_1 p l e s m args below meth c G A Q _ _ (S1, o, T1) _ _ _
  refine J_icmp_eq (pc := 1341) (tgt := 1809) C dL_law_1341 (by decide) hq1 hq2 (fun _ => ?_) (fun cb => absurd (hk1.trans (g4 rfl).symm) cb)
  refine J_widen (k1 := k + 20) (n1 := n + 200) (by show k + 0 + 0 ≤ k + 20; omega) (by show n + 0 + 0 ≤ n + 200; omega) ?_
  exact J_sub (L1 := LH G b i) ⟨rfl, ⟨rfl, ⟨rfl, ⟨rfl, ⟨rfl, trivial⟩⟩⟩⟩⟩ (kk (S1, o, T1) ⟨V', hI', hv1, g1, g2, ok1, okT1⟩)
set_option maxRecDepth 100000 in
set_option maxHeartbeats 8000000 in
theorem lc_24 (hh : List (Nat × Nat × Nat × Nat)) : Case hh 1346 := by
  intro p l e s m args below meth c G A Q b Ls xs i k n σ X hi hk hn hJ kk
  obtain ⟨V, hI, hS, hT, hb, oS, oT⟩ := hJ
  obtain ⟨S, o, T⟩ := σ
  have C := X.1
  have hS : vw S = V := hS
  have hT : cs T = V := hT
  have hb : Tb T := hb
  have oS : okC S := oS
  have oT : okM T := oT
  obtain ⟨c0, r, V', hI', h0, h1, hC, hR⟩ := pr_reaches hI (sv xs (i + 1)) (sv xs (i + 2)) (sv xs (i + 3)) (sv xs (i + 4))
  have h1 : c0 ≤ 1 := h1
  have MC := ct_L_reaches (o := o) (r := r) (r_sv xs (i + 1)) (r_sv xs (i + 2)) (r_sv xs (i + 3)) (r_sv xs (i + 4)) ⟨h0, h1⟩ (hC S hS)
  have MR := hR T hT hb (fun q T1 => cs T1 = V' ∧ Tb T1 ∧ T1 0 0 = c0 ∧ (c0 = 0 → q = r)) (fun _ _ => False) (fun T1 r1 g1 g2 g3 g4 => ⟨g1, g2, g3, g4⟩) (r_sv xs (i + 1)) (r_sv xs (i + 2)) (r_sv xs (i + 3)) (r_sv xs (i + 4))
  refine J_aload_n (pc := 1346) C dL_law_1346 rfl ?_
  refine J_aload_n (pc := 1347) C dL_law_1347 rfl ?_
  refine J_iload (pc := 1348) C dL_law_1348 rfl ?_
  refine J_iconst (pc := 1350) C dL_law_1350 ?_
  refine J_iadd (pc := 1351) C dL_law_1351 ?_
  refine J_sld (pc := 1352) X dL_law_1352 ⟨by omega, by omega⟩ ?_
  refine J_aload_n (pc := 1353) C dL_law_1353 rfl ?_
  refine J_iload (pc := 1354) C dL_law_1354 rfl ?_
  refine J_iconst (pc := 1356) C dL_law_1356 ?_
  refine J_iadd (pc := 1357) C dL_law_1357 ?_
  refine J_sld (pc := 1358) X dL_law_1358 ⟨by omega, by omega⟩ ?_
  refine J_aload_n (pc := 1359) C dL_law_1359 rfl ?_
  refine J_iload (pc := 1360) C dL_law_1360 rfl ?_
  refine J_iconst (pc := 1362) C dL_law_1362 ?_
  refine J_iadd (pc := 1363) C dL_law_1363 ?_
  refine J_sld (pc := 1364) X dL_law_1364 ⟨by omega, by omega⟩ ?_
  refine J_aload_n (pc := 1365) C dL_law_1365 rfl ?_
  refine J_iload (pc := 1366) C dL_law_1366 rfl ?_
  refine J_iconst (pc := 1368) C dL_law_1368 ?_
  refine J_iadd (pc := 1369) C dL_law_1369 ?_
  refine J_sld (pc := 1370) X dL_law_1370 ⟨by omega, by omega⟩ ?_
  refine J_aload_n (pc := 1371) C dL_law_1371 rfl ?_
  refine J_e1 (pc := 1372) C (emb_LX G S o T) (J_eSX (pc := 1372) X MC dL_law_1372 rfl rfl (vx_cwSW 6 C.1.2.2.2.2 gL_law_L_reaches rfl rfl rfl (by decide +kernel) ⟨Nat.le_of_ble_eq_true rfl, Nat.le_of_ble_eq_true rfl⟩) oS (Nat.le_of_ble_eq_true rfl) ⟨by show k + 4 ≤ 601024; omega, by show n + 24 ≤ 7293034; omega⟩) (fun N τ _ q => q.elim) (fun q1 u hq1 ok1 hu => ?_)
  obtain ⟨S1, o1⟩ := u
  obtain ⟨hk1, hv1, ho1⟩ := hu
  have hv1 : vw S1 = V' := hv1
  have ok1 : okC S1 := ok1
  refine J_widen (k1 := k + 8) (n1 := n + 60) (by show k + 4 ≤ k + 8; omega) (by show n + 24 ≤ n + 60; omega) ?_
  show J wL 7 room_1 p l e s m args below meth c G A Q _ _ (S1, o1, T) _ _ _
  refine J_istore (pc := 1375) C dL_law_1375 (by decide) ?_
  refine J_aload_n (pc := 1377) C dL_law_1377 rfl ?_
  refine J_aload_n (pc := 1378) C dL_law_1378 rfl ?_
  refine J_iload (pc := 1379) C dL_law_1379 rfl ?_
  refine J_iconst (pc := 1381) C dL_law_1381 ?_
  refine J_iadd (pc := 1382) C dL_law_1382 ?_
  refine J_sld (pc := 1383) X dL_law_1383 ⟨by omega, by omega⟩ ?_
  refine J_aload_n (pc := 1384) C dL_law_1384 rfl ?_
  refine J_iload (pc := 1385) C dL_law_1385 rfl ?_
  refine J_iconst (pc := 1387) C dL_law_1387 ?_
  refine J_iadd (pc := 1388) C dL_law_1388 ?_
  refine J_sld (pc := 1389) X dL_law_1389 ⟨by omega, by omega⟩ ?_
  refine J_aload_n (pc := 1390) C dL_law_1390 rfl ?_
  refine J_iload (pc := 1391) C dL_law_1391 rfl ?_
  refine J_iconst (pc := 1393) C dL_law_1393 ?_
  refine J_iadd (pc := 1394) C dL_law_1394 ?_
  refine J_sld (pc := 1395) X dL_law_1395 ⟨by omega, by omega⟩ ?_
  refine J_aload_n (pc := 1396) C dL_law_1396 rfl ?_
  refine J_iload (pc := 1397) C dL_law_1397 rfl ?_
  refine J_iconst (pc := 1399) C dL_law_1399 ?_
  refine J_iadd (pc := 1400) C dL_law_1400 ?_
  refine J_sld (pc := 1401) X dL_law_1401 ⟨by omega, by omega⟩ ?_
  refine J_e1 (pc := 1402) C (emb_LM G S1 o1 T) (J_eV (pc := 1402) C (emb_LM G S1 o1 T) MR dL_law_1402 rfl rfl 0 rfl rfl (cwV 4 C.1.2.2.2.2 gL_law_X7_reaches rfl rfl rfl (by decide +kernel) ⟨Nat.le_of_ble_eq_true rfl, Nat.le_of_ble_eq_true rfl⟩) oT (Nat.le_of_ble_eq_true rfl) ⟨by show k + 8 + 0 ≤ 601024; omega, by show n + 60 + 0 ≤ 7293034; omega⟩) (fun N τ _ q => q.elim) (fun q2 T1 hq2 okT1 hu => ?_)
  obtain ⟨g1, g2, g3, g4⟩ := hu
  show J wL 7 room_1 p l e s m args below meth c G A Q _ _ (S1, o1, T1) _ _ _
  refine J_istore (pc := 1405) C dL_law_1405 (by decide) ?_
  refine J_aload_n (pc := 1407) C dL_law_1407 rfl ?_
  have MT : M_X7_thrown T1 (fun q T2 => q = T1 0 0 ∧ T2 = T1) (fun _ _ => False) := sp_X7_thrown ⟨rfl, rfl⟩
  refine J_e1 (pc := 1408) C (emb_LM G S1 o1 T1) (J_eV (pc := 1408) C (emb_LM G S1 o1 T1) MT dL_law_1408 rfl rfl 0 rfl rfl (cwV 0 C.1.2.2.2.2 gL_law_X7_thrown rfl rfl rfl (by decide +kernel) ⟨Nat.le_of_ble_eq_true rfl, Nat.le_of_ble_eq_true rfl⟩) okT1 (Nat.le_of_ble_eq_true rfl) ⟨by show k + 8 + 0 + 0 ≤ 601024; omega, by show n + 60 + 0 + 0 ≤ 7293034; omega⟩) (fun N τ _ q => q.elim) (fun q3 T2 hq3 okT2 hu => ?_)
  obtain ⟨hq3v, hT2⟩ := hu
  subst hT2
  have hq3c : q3 = c0 := hq3v.trans g3
  show J wL 7 room_1 p l e s m args below meth c G A Q _ _ (S1, o1, T2) _ _ _
  refine J_iload (pc := 1411) C dL_law_1411 rfl ?_
  refine J_icmp_eq (pc := 1413) (tgt := 1418) C dL_law_1413 (by decide) hq3 hq1 (fun _ => ?_) (fun cb => absurd (hq3c.trans hk1.symm) cb)
  refine J_iload (pc := 1418) C dL_law_1418 rfl ?_
  refine J_if_ne (pc := 1420) (tgt := 1442) C dL_law_1420 (by decide) hq1 (fun _ => ?_) (fun cz => ?_)
  · refine J_goto (pc := 1442) (tgt := 1809) C dL_law_1442 (by decide) ?_
    refine J_widen (k1 := k + 20) (n1 := n + 200) (by show k + 8 + 0 + 0 ≤ k + 20; omega) (by show n + 60 + 0 + 0 ≤ n + 200; omega) ?_
    exact J_sub (L1 := LH G b i) ⟨rfl, ⟨rfl, ⟨rfl, ⟨rfl, ⟨rfl, trivial⟩⟩⟩⟩⟩ (kk (S1, o1, T2) ⟨V', hI', hv1, g1, g2, ok1, okT1⟩)
  · have hc0 : c0 = 0 := hk1.symm.trans cz
    have e1 : o1 = if r = 0 then 0 else 1 := ho1 hc0
    have e2 := g4 hc0
    refine J_aload_n (pc := 1423) C dL_law_1423 rfl ?_
    refine J_iconst (pc := 1424) C dL_law_1424 ?_
    refine J_oald (pc := 1425) C dL_law_1425 ?_
    refine J_iload (pc := 1426) C dL_law_1426 rfl ?_
    refine J_if_eq (pc := 1428) (tgt := 1435) C dL_law_1428 (by decide) hq2 (fun cb => ?_) (fun cb => ?_)
    · have e3 : o1 = 0 := by rw [e1, if_pos (e2.symm.trans cb)]
      refine J_lconst (pc := 1435) C dL_law_1435 ?_
      refine J_lcmp_eq (pc := 1436) (tgt := 1442) C dL_law_1436 dL_law_1437 (by decide) (by rw [e3]; decide) (by decide) (fun _ => ?_) (fun cb => absurd e3 cb)
      refine J_goto (pc := 1442) (tgt := 1809) C dL_law_1442 (by decide) ?_
      refine J_widen (k1 := k + 20) (n1 := n + 200) (by show k + 8 + 0 + 0 ≤ k + 20; omega) (by show n + 60 + 0 + 0 ≤ n + 200; omega) ?_
      exact J_sub (L1 := LH G b i) ⟨rfl, ⟨rfl, ⟨rfl, ⟨rfl, ⟨rfl, trivial⟩⟩⟩⟩⟩ (kk (S1, o1, T2) ⟨V', hI', hv1, g1, g2, ok1, okT1⟩)
    · have e3 : o1 = 1 := by rw [e1, if_neg (fun z => cb (e2.trans z))]
      refine J_lconst (pc := 1431) C dL_law_1431 ?_
      refine J_goto (pc := 1432) (tgt := 1436) C dL_law_1432 (by decide) ?_
      refine J_lcmp_eq (pc := 1436) (tgt := 1442) C dL_law_1436 dL_law_1437 (by decide) (by rw [e3]; decide) (by decide) (fun _ => ?_) (fun cb => absurd e3 cb)
      refine J_goto (pc := 1442) (tgt := 1809) C dL_law_1442 (by decide) ?_
      refine J_widen (k1 := k + 20) (n1 := n + 200) (by show k + 8 + 0 + 0 ≤ k + 20; omega) (by show n + 60 + 0 + 0 ≤ n + 200; omega) ?_
      exact J_sub (L1 := LH G b i) ⟨rfl, ⟨rfl, ⟨rfl, ⟨rfl, ⟨rfl, trivial⟩⟩⟩⟩⟩ (kk (S1, o1, T2) ⟨V', hI', hv1, g1, g2, ok1, okT1⟩)
set_option maxRecDepth 100000 in
set_option maxHeartbeats 8000000 in
theorem lc_25 (hh : List (Nat × Nat × Nat × Nat)) : Case hh 1445 := by
  intro p l e s m args below meth c G A Q b Ls xs i k n σ X hi hk hn hJ kk
  obtain ⟨V, hI, hS, hT, hb, oS, oT⟩ := hJ
  obtain ⟨S, o, T⟩ := σ
  have C := X.1
  have hS : vw S = V := hS
  have hT : cs T = V := hT
  have hb : Tb T := hb
  have oS : okC S := oS
  have oT : okM T := oT
  obtain ⟨c0, r, V', hI', h0, h1, hC, hR⟩ := pr_folds hI (sv xs (i + 1)) (sv xs (i + 2)) (sv xs (i + 3)) (sv xs (i + 4)) (sv xs (i + 5))
  have h1 : c0 ≤ 1 := h1
  have MC := ct_L_folds (o := o) (r := r) (r_sv xs (i + 1)) (r_sv xs (i + 2)) (r_sv xs (i + 3)) (r_sv xs (i + 4)) (r_sv xs (i + 5)) ⟨h0, h1⟩ (hC S hS)
  have MR := hR T hT hb (fun q T1 => cs T1 = V' ∧ Tb T1 ∧ T1 0 0 = c0 ∧ (c0 = 0 → q = r)) (fun _ _ => False) (fun T1 r1 g1 g2 g3 g4 => ⟨g1, g2, g3, g4⟩) (r_sv xs (i + 1)) (r_sv xs (i + 2)) (r_sv xs (i + 3)) (r_sv xs (i + 4)) (r_sv xs (i + 5))
  refine J_aload_n (pc := 1445) C dL_law_1445 rfl ?_
  refine J_aload_n (pc := 1446) C dL_law_1446 rfl ?_
  refine J_iload (pc := 1447) C dL_law_1447 rfl ?_
  refine J_iconst (pc := 1449) C dL_law_1449 ?_
  refine J_iadd (pc := 1450) C dL_law_1450 ?_
  refine J_sld (pc := 1451) X dL_law_1451 ⟨by omega, by omega⟩ ?_
  refine J_aload_n (pc := 1452) C dL_law_1452 rfl ?_
  refine J_iload (pc := 1453) C dL_law_1453 rfl ?_
  refine J_iconst (pc := 1455) C dL_law_1455 ?_
  refine J_iadd (pc := 1456) C dL_law_1456 ?_
  refine J_sld (pc := 1457) X dL_law_1457 ⟨by omega, by omega⟩ ?_
  refine J_aload_n (pc := 1458) C dL_law_1458 rfl ?_
  refine J_iload (pc := 1459) C dL_law_1459 rfl ?_
  refine J_iconst (pc := 1461) C dL_law_1461 ?_
  refine J_iadd (pc := 1462) C dL_law_1462 ?_
  refine J_sld (pc := 1463) X dL_law_1463 ⟨by omega, by omega⟩ ?_
  refine J_aload_n (pc := 1464) C dL_law_1464 rfl ?_
  refine J_iload (pc := 1465) C dL_law_1465 rfl ?_
  refine J_iconst (pc := 1467) C dL_law_1467 ?_
  refine J_iadd (pc := 1468) C dL_law_1468 ?_
  refine J_sld (pc := 1469) X dL_law_1469 ⟨by omega, by omega⟩ ?_
  refine J_aload_n (pc := 1470) C dL_law_1470 rfl ?_
  refine J_iload (pc := 1471) C dL_law_1471 rfl ?_
  refine J_iconst (pc := 1473) C dL_law_1473 ?_
  refine J_iadd (pc := 1474) C dL_law_1474 ?_
  refine J_sld (pc := 1475) X dL_law_1475 ⟨by omega, by omega⟩ ?_
  refine J_aload_n (pc := 1476) C dL_law_1476 rfl ?_
  refine J_e1 (pc := 1477) C (emb_LX G S o T) (J_eSX (pc := 1477) X MC dL_law_1477 rfl rfl (vx_cwSW 7 C.1.2.2.2.2 gL_law_L_folds rfl rfl rfl (by decide +kernel) ⟨Nat.le_of_ble_eq_true rfl, Nat.le_of_ble_eq_true rfl⟩) oS (Nat.le_of_ble_eq_true rfl) ⟨by show k + 5 ≤ 601024; omega, by show n + 30 ≤ 7293034; omega⟩) (fun N τ _ q => q.elim) (fun q1 u hq1 ok1 hu => ?_)
  obtain ⟨S1, o1⟩ := u
  obtain ⟨hk1, hv1, ho1⟩ := hu
  have hv1 : vw S1 = V' := hv1
  have ok1 : okC S1 := ok1
  refine J_widen (k1 := k + 8) (n1 := n + 60) (by show k + 5 ≤ k + 8; omega) (by show n + 30 ≤ n + 60; omega) ?_
  show J wL 7 room_1 p l e s m args below meth c G A Q _ _ (S1, o1, T) _ _ _
  refine J_istore (pc := 1480) C dL_law_1480 (by decide) ?_
  refine J_aload_n (pc := 1482) C dL_law_1482 rfl ?_
  refine J_aload_n (pc := 1483) C dL_law_1483 rfl ?_
  refine J_iload (pc := 1484) C dL_law_1484 rfl ?_
  refine J_iconst (pc := 1486) C dL_law_1486 ?_
  refine J_iadd (pc := 1487) C dL_law_1487 ?_
  refine J_sld (pc := 1488) X dL_law_1488 ⟨by omega, by omega⟩ ?_
  refine J_aload_n (pc := 1489) C dL_law_1489 rfl ?_
  refine J_iload (pc := 1490) C dL_law_1490 rfl ?_
  refine J_iconst (pc := 1492) C dL_law_1492 ?_
  refine J_iadd (pc := 1493) C dL_law_1493 ?_
  refine J_sld (pc := 1494) X dL_law_1494 ⟨by omega, by omega⟩ ?_
  refine J_aload_n (pc := 1495) C dL_law_1495 rfl ?_
  refine J_iload (pc := 1496) C dL_law_1496 rfl ?_
  refine J_iconst (pc := 1498) C dL_law_1498 ?_
  refine J_iadd (pc := 1499) C dL_law_1499 ?_
  refine J_sld (pc := 1500) X dL_law_1500 ⟨by omega, by omega⟩ ?_
  refine J_aload_n (pc := 1501) C dL_law_1501 rfl ?_
  refine J_iload (pc := 1502) C dL_law_1502 rfl ?_
  refine J_iconst (pc := 1504) C dL_law_1504 ?_
  refine J_iadd (pc := 1505) C dL_law_1505 ?_
  refine J_sld (pc := 1506) X dL_law_1506 ⟨by omega, by omega⟩ ?_
  refine J_aload_n (pc := 1507) C dL_law_1507 rfl ?_
  refine J_iload (pc := 1508) C dL_law_1508 rfl ?_
  refine J_iconst (pc := 1510) C dL_law_1510 ?_
  refine J_iadd (pc := 1511) C dL_law_1511 ?_
  refine J_sld (pc := 1512) X dL_law_1512 ⟨by omega, by omega⟩ ?_
  refine J_e1 (pc := 1513) C (emb_LM G S1 o1 T) (J_eV (pc := 1513) C (emb_LM G S1 o1 T) MR dL_law_1513 rfl rfl 0 rfl rfl (cwV 5 C.1.2.2.2.2 gL_law_X7_folds rfl rfl rfl (by decide +kernel) ⟨Nat.le_of_ble_eq_true rfl, Nat.le_of_ble_eq_true rfl⟩) oT (Nat.le_of_ble_eq_true rfl) ⟨by show k + 8 + 0 ≤ 601024; omega, by show n + 60 + 0 ≤ 7293034; omega⟩) (fun N τ _ q => q.elim) (fun q2 T1 hq2 okT1 hu => ?_)
  obtain ⟨g1, g2, g3, g4⟩ := hu
  show J wL 7 room_1 p l e s m args below meth c G A Q _ _ (S1, o1, T1) _ _ _
  refine J_istore (pc := 1516) C dL_law_1516 (by decide) ?_
  refine J_aload_n (pc := 1518) C dL_law_1518 rfl ?_
  have MT : M_X7_thrown T1 (fun q T2 => q = T1 0 0 ∧ T2 = T1) (fun _ _ => False) := sp_X7_thrown ⟨rfl, rfl⟩
  refine J_e1 (pc := 1519) C (emb_LM G S1 o1 T1) (J_eV (pc := 1519) C (emb_LM G S1 o1 T1) MT dL_law_1519 rfl rfl 0 rfl rfl (cwV 0 C.1.2.2.2.2 gL_law_X7_thrown rfl rfl rfl (by decide +kernel) ⟨Nat.le_of_ble_eq_true rfl, Nat.le_of_ble_eq_true rfl⟩) okT1 (Nat.le_of_ble_eq_true rfl) ⟨by show k + 8 + 0 + 0 ≤ 601024; omega, by show n + 60 + 0 + 0 ≤ 7293034; omega⟩) (fun N τ _ q => q.elim) (fun q3 T2 hq3 okT2 hu => ?_)
  obtain ⟨hq3v, hT2⟩ := hu
  subst hT2
  have hq3c : q3 = c0 := hq3v.trans g3
  show J wL 7 room_1 p l e s m args below meth c G A Q _ _ (S1, o1, T2) _ _ _
  refine J_iload (pc := 1522) C dL_law_1522 rfl ?_
  refine J_icmp_eq (pc := 1524) (tgt := 1529) C dL_law_1524 (by decide) hq3 hq1 (fun _ => ?_) (fun cb => absurd (hq3c.trans hk1.symm) cb)
  refine J_iload (pc := 1529) C dL_law_1529 rfl ?_
  refine J_if_ne (pc := 1531) (tgt := 1546) C dL_law_1531 (by decide) hq1 (fun _ => ?_) (fun cz => ?_)
  · refine J_goto (pc := 1546) (tgt := 1809) C dL_law_1546 (by decide) ?_
    refine J_widen (k1 := k + 20) (n1 := n + 200) (by show k + 8 + 0 + 0 ≤ k + 20; omega) (by show n + 60 + 0 + 0 ≤ n + 200; omega) ?_
    exact J_sub (L1 := LH G b i) ⟨rfl, ⟨rfl, ⟨rfl, ⟨rfl, ⟨rfl, trivial⟩⟩⟩⟩⟩ (kk (S1, o1, T2) ⟨V', hI', hv1, g1, g2, ok1, okT1⟩)
  · have hc0 : c0 = 0 := hk1.symm.trans cz
    have e1 : o1 = r := ho1 hc0
    have e2 := g4 hc0
    refine J_aload_n (pc := 1534) C dL_law_1534 rfl ?_
    refine J_iconst (pc := 1535) C dL_law_1535 ?_
    refine J_oald (pc := 1536) C dL_law_1536 ?_
    refine J_iload (pc := 1537) C dL_law_1537 rfl ?_
    refine J_i2l (pc := 1539) C dL_law_1539 hq2 ?_
    refine J_lcmp_eq (pc := 1540) (tgt := 1546) C dL_law_1540 dL_law_1541 (by decide) (by rw [e1, ← e2]; exact r32_64 hq2) (r32_64 hq2) (fun _ => ?_) (fun cb => absurd (e1.trans e2.symm) cb)
    refine J_goto (pc := 1546) (tgt := 1809) C dL_law_1546 (by decide) ?_
    refine J_widen (k1 := k + 20) (n1 := n + 200) (by show k + 8 + 0 + 0 ≤ k + 20; omega) (by show n + 60 + 0 + 0 ≤ n + 200; omega) ?_
    exact J_sub (L1 := LH G b i) ⟨rfl, ⟨rfl, ⟨rfl, ⟨rfl, ⟨rfl, trivial⟩⟩⟩⟩⟩ (kk (S1, o1, T2) ⟨V', hI', hv1, g1, g2, ok1, okT1⟩)
set_option maxRecDepth 100000 in
set_option maxHeartbeats 8000000 in
theorem lc_26 (hh : List (Nat × Nat × Nat × Nat)) : Case hh 1549 := by
  intro p l e s m args below meth c G A Q b Ls xs i k n σ X hi hk hn hJ kk
  obtain ⟨V, hI, hS, hT, hb, oS, oT⟩ := hJ
  obtain ⟨S, o, T⟩ := σ
  have C := X.1
  have hS : vw S = V := hS
  have hT : cs T = V := hT
  have hb : Tb T := hb
  have oS : okC S := oS
  have oT : okM T := oT
  obtain ⟨c0, r, V', hI', h0, h1, hC, hR⟩ := pr_range hI (sv xs (i + 1)) (sv xs (i + 2))
  have h1 : c0 ≤ 2 := h1
  have MC := ct_L_range (o := o) (r := r) (r_sv xs (i + 1)) (r_sv xs (i + 2)) ⟨h0, h1⟩ (hC S hS)
  have MR := hR T hT hb (fun q T1 => cs T1 = V' ∧ Tb T1 ∧ T1 0 0 = c0 ∧ (c0 = 0 → q = r)) (fun _ _ => False) (fun T1 r1 g1 g2 g3 g4 => ⟨g1, g2, g3, g4⟩) (r_sv xs (i + 1)) (r_sv xs (i + 2))
  refine J_aload_n (pc := 1549) C dL_law_1549 rfl ?_
  refine J_aload_n (pc := 1550) C dL_law_1550 rfl ?_
  refine J_iload (pc := 1551) C dL_law_1551 rfl ?_
  refine J_iconst (pc := 1553) C dL_law_1553 ?_
  refine J_iadd (pc := 1554) C dL_law_1554 ?_
  refine J_sld (pc := 1555) X dL_law_1555 ⟨by omega, by omega⟩ ?_
  refine J_aload_n (pc := 1556) C dL_law_1556 rfl ?_
  refine J_iload (pc := 1557) C dL_law_1557 rfl ?_
  refine J_iconst (pc := 1559) C dL_law_1559 ?_
  refine J_iadd (pc := 1560) C dL_law_1560 ?_
  refine J_sld (pc := 1561) X dL_law_1561 ⟨by omega, by omega⟩ ?_
  refine J_aload_n (pc := 1562) C dL_law_1562 rfl ?_
  refine J_e1 (pc := 1563) C (emb_LX G S o T) (J_eSX (pc := 1563) X MC dL_law_1563 rfl rfl (vx_cwSW 4 C.1.2.2.2.2 gL_law_L_range rfl rfl rfl (by decide +kernel) ⟨Nat.le_of_ble_eq_true rfl, Nat.le_of_ble_eq_true rfl⟩) oS (Nat.le_of_ble_eq_true rfl) ⟨by show k + 2 ≤ 601024; omega, by show n + 12 ≤ 7293034; omega⟩) (fun N τ _ q => q.elim) (fun q1 u hq1 ok1 hu => ?_)
  obtain ⟨S1, o1⟩ := u
  obtain ⟨hk1, hv1, ho1⟩ := hu
  have hv1 : vw S1 = V' := hv1
  have ok1 : okC S1 := ok1
  refine J_widen (k1 := k + 8) (n1 := n + 60) (by show k + 2 ≤ k + 8; omega) (by show n + 12 ≤ n + 60; omega) ?_
  show J wL 7 room_1 p l e s m args below meth c G A Q _ _ (S1, o1, T) _ _ _
  refine J_istore (pc := 1566) C dL_law_1566 (by decide) ?_
  refine J_aload_n (pc := 1568) C dL_law_1568 rfl ?_
  refine J_aload_n (pc := 1569) C dL_law_1569 rfl ?_
  refine J_iload (pc := 1570) C dL_law_1570 rfl ?_
  refine J_iconst (pc := 1572) C dL_law_1572 ?_
  refine J_iadd (pc := 1573) C dL_law_1573 ?_
  refine J_sld (pc := 1574) X dL_law_1574 ⟨by omega, by omega⟩ ?_
  refine J_aload_n (pc := 1575) C dL_law_1575 rfl ?_
  refine J_iload (pc := 1576) C dL_law_1576 rfl ?_
  refine J_iconst (pc := 1578) C dL_law_1578 ?_
  refine J_iadd (pc := 1579) C dL_law_1579 ?_
  refine J_sld (pc := 1580) X dL_law_1580 ⟨by omega, by omega⟩ ?_
  refine J_e1 (pc := 1581) C (emb_LM G S1 o1 T) (J_eV (pc := 1581) C (emb_LM G S1 o1 T) MR dL_law_1581 rfl rfl 0 rfl rfl (cwV 2 C.1.2.2.2.2 gL_law_X7_range rfl rfl rfl (by decide +kernel) ⟨Nat.le_of_ble_eq_true rfl, Nat.le_of_ble_eq_true rfl⟩) oT (Nat.le_of_ble_eq_true rfl) ⟨by show k + 8 + 0 ≤ 601024; omega, by show n + 60 + 0 ≤ 7293034; omega⟩) (fun N τ _ q => q.elim) (fun q2 T1 hq2 okT1 hu => ?_)
  obtain ⟨g1, g2, g3, g4⟩ := hu
  show J wL 7 room_1 p l e s m args below meth c G A Q _ _ (S1, o1, T1) _ _ _
  refine J_istore (pc := 1584) C dL_law_1584 (by decide) ?_
  refine J_aload_n (pc := 1586) C dL_law_1586 rfl ?_
  have MT : M_X7_thrown T1 (fun q T2 => q = T1 0 0 ∧ T2 = T1) (fun _ _ => False) := sp_X7_thrown ⟨rfl, rfl⟩
  refine J_e1 (pc := 1587) C (emb_LM G S1 o1 T1) (J_eV (pc := 1587) C (emb_LM G S1 o1 T1) MT dL_law_1587 rfl rfl 0 rfl rfl (cwV 0 C.1.2.2.2.2 gL_law_X7_thrown rfl rfl rfl (by decide +kernel) ⟨Nat.le_of_ble_eq_true rfl, Nat.le_of_ble_eq_true rfl⟩) okT1 (Nat.le_of_ble_eq_true rfl) ⟨by show k + 8 + 0 + 0 ≤ 601024; omega, by show n + 60 + 0 + 0 ≤ 7293034; omega⟩) (fun N τ _ q => q.elim) (fun q3 T2 hq3 okT2 hu => ?_)
  obtain ⟨hq3v, hT2⟩ := hu
  subst hT2
  have hq3c : q3 = c0 := hq3v.trans g3
  show J wL 7 room_1 p l e s m args below meth c G A Q _ _ (S1, o1, T2) _ _ _
  refine J_iload (pc := 1590) C dL_law_1590 rfl ?_
  refine J_icmp_eq (pc := 1592) (tgt := 1597) C dL_law_1592 (by decide) hq3 hq1 (fun _ => ?_) (fun cb => absurd (hq3c.trans hk1.symm) cb)
  refine J_iload (pc := 1597) C dL_law_1597 rfl ?_
  refine J_if_ne (pc := 1599) (tgt := 1614) C dL_law_1599 (by decide) hq1 (fun _ => ?_) (fun cz => ?_)
  · refine J_goto (pc := 1614) (tgt := 1809) C dL_law_1614 (by decide) ?_
    refine J_widen (k1 := k + 20) (n1 := n + 200) (by show k + 8 + 0 + 0 ≤ k + 20; omega) (by show n + 60 + 0 + 0 ≤ n + 200; omega) ?_
    exact J_sub (L1 := LH G b i) ⟨rfl, ⟨rfl, ⟨rfl, ⟨rfl, ⟨rfl, trivial⟩⟩⟩⟩⟩ (kk (S1, o1, T2) ⟨V', hI', hv1, g1, g2, ok1, okT1⟩)
  · have hc0 : c0 = 0 := hk1.symm.trans cz
    have e1 : o1 = r := ho1 hc0
    have e2 := g4 hc0
    refine J_aload_n (pc := 1602) C dL_law_1602 rfl ?_
    refine J_iconst (pc := 1603) C dL_law_1603 ?_
    refine J_oald (pc := 1604) C dL_law_1604 ?_
    refine J_iload (pc := 1605) C dL_law_1605 rfl ?_
    refine J_i2l (pc := 1607) C dL_law_1607 hq2 ?_
    refine J_lcmp_eq (pc := 1608) (tgt := 1614) C dL_law_1608 dL_law_1609 (by decide) (by rw [e1, ← e2]; exact r32_64 hq2) (r32_64 hq2) (fun _ => ?_) (fun cb => absurd (e1.trans e2.symm) cb)
    refine J_goto (pc := 1614) (tgt := 1809) C dL_law_1614 (by decide) ?_
    refine J_widen (k1 := k + 20) (n1 := n + 200) (by show k + 8 + 0 + 0 ≤ k + 20; omega) (by show n + 60 + 0 + 0 ≤ n + 200; omega) ?_
    exact J_sub (L1 := LH G b i) ⟨rfl, ⟨rfl, ⟨rfl, ⟨rfl, ⟨rfl, trivial⟩⟩⟩⟩⟩ (kk (S1, o1, T2) ⟨V', hI', hv1, g1, g2, ok1, okT1⟩)
set_option maxRecDepth 100000 in
set_option maxHeartbeats 8000000 in
theorem lc_27 (hh : List (Nat × Nat × Nat × Nat)) : Case hh 1617 := by
  intro p l e s m args below meth c G A Q b Ls xs i k n σ X hi hk hn hJ kk
  obtain ⟨V, hI, hS, hT, hb, oS, oT⟩ := hJ
  obtain ⟨S, o, T⟩ := σ
  have C := X.1
  have hS : vw S = V := hS
  have hT : cs T = V := hT
  have hb : Tb T := hb
  have oS : okC S := oS
  have oT : okM T := oT
  obtain ⟨c0, r, V', hI', h0, h1, hC, hR⟩ := pr_places hI (sv xs (i + 1))
  have h1 : c0 ≤ 1 := h1
  have MC := ct_L_places (o := o) (r := r) (r_sv xs (i + 1)) ⟨h0, h1⟩ (hC S hS)
  have MR := hR T hT hb (fun q T1 => cs T1 = V' ∧ Tb T1 ∧ T1 0 0 = c0 ∧ (c0 = 0 → q = r)) (fun _ _ => False) (fun T1 r1 g1 g2 g3 g4 => ⟨g1, g2, g3, g4⟩) (r_sv xs (i + 1))
  refine J_aload_n (pc := 1617) C dL_law_1617 rfl ?_
  refine J_aload_n (pc := 1618) C dL_law_1618 rfl ?_
  refine J_iload (pc := 1619) C dL_law_1619 rfl ?_
  refine J_iconst (pc := 1621) C dL_law_1621 ?_
  refine J_iadd (pc := 1622) C dL_law_1622 ?_
  refine J_sld (pc := 1623) X dL_law_1623 ⟨by omega, by omega⟩ ?_
  refine J_aload_n (pc := 1624) C dL_law_1624 rfl ?_
  refine J_e1 (pc := 1625) C (emb_LX G S o T) (J_eSX (pc := 1625) X MC dL_law_1625 rfl rfl (vx_cwSW 3 C.1.2.2.2.2 gL_law_L_places rfl rfl rfl (by decide +kernel) ⟨Nat.le_of_ble_eq_true rfl, Nat.le_of_ble_eq_true rfl⟩) oS (Nat.le_of_ble_eq_true rfl) ⟨by show k + 1 ≤ 601024; omega, by show n + 6 ≤ 7293034; omega⟩) (fun N τ _ q => q.elim) (fun q1 u hq1 ok1 hu => ?_)
  obtain ⟨S1, o1⟩ := u
  obtain ⟨hk1, hv1, ho1⟩ := hu
  have hv1 : vw S1 = V' := hv1
  have ok1 : okC S1 := ok1
  refine J_widen (k1 := k + 8) (n1 := n + 60) (by show k + 1 ≤ k + 8; omega) (by show n + 6 ≤ n + 60; omega) ?_
  show J wL 7 room_1 p l e s m args below meth c G A Q _ _ (S1, o1, T) _ _ _
  refine J_istore (pc := 1628) C dL_law_1628 (by decide) ?_
  refine J_aload_n (pc := 1630) C dL_law_1630 rfl ?_
  refine J_aload_n (pc := 1631) C dL_law_1631 rfl ?_
  refine J_iload (pc := 1632) C dL_law_1632 rfl ?_
  refine J_iconst (pc := 1634) C dL_law_1634 ?_
  refine J_iadd (pc := 1635) C dL_law_1635 ?_
  refine J_sld (pc := 1636) X dL_law_1636 ⟨by omega, by omega⟩ ?_
  refine J_e1 (pc := 1637) C (emb_LM G S1 o1 T) (J_eV (pc := 1637) C (emb_LM G S1 o1 T) MR dL_law_1637 rfl rfl 0 rfl rfl (cwV 1 C.1.2.2.2.2 gL_law_X7_places rfl rfl rfl (by decide +kernel) ⟨Nat.le_of_ble_eq_true rfl, Nat.le_of_ble_eq_true rfl⟩) oT (Nat.le_of_ble_eq_true rfl) ⟨by show k + 8 + 0 ≤ 601024; omega, by show n + 60 + 0 ≤ 7293034; omega⟩) (fun N τ _ q => q.elim) (fun q2 T1 hq2 okT1 hu => ?_)
  obtain ⟨g1, g2, g3, g4⟩ := hu
  show J wL 7 room_1 p l e s m args below meth c G A Q _ _ (S1, o1, T1) _ _ _
  refine J_istore (pc := 1640) C dL_law_1640 (by decide) ?_
  refine J_aload_n (pc := 1642) C dL_law_1642 rfl ?_
  have MT : M_X7_thrown T1 (fun q T2 => q = T1 0 0 ∧ T2 = T1) (fun _ _ => False) := sp_X7_thrown ⟨rfl, rfl⟩
  refine J_e1 (pc := 1643) C (emb_LM G S1 o1 T1) (J_eV (pc := 1643) C (emb_LM G S1 o1 T1) MT dL_law_1643 rfl rfl 0 rfl rfl (cwV 0 C.1.2.2.2.2 gL_law_X7_thrown rfl rfl rfl (by decide +kernel) ⟨Nat.le_of_ble_eq_true rfl, Nat.le_of_ble_eq_true rfl⟩) okT1 (Nat.le_of_ble_eq_true rfl) ⟨by show k + 8 + 0 + 0 ≤ 601024; omega, by show n + 60 + 0 + 0 ≤ 7293034; omega⟩) (fun N τ _ q => q.elim) (fun q3 T2 hq3 okT2 hu => ?_)
  obtain ⟨hq3v, hT2⟩ := hu
  subst hT2
  have hq3c : q3 = c0 := hq3v.trans g3
  show J wL 7 room_1 p l e s m args below meth c G A Q _ _ (S1, o1, T2) _ _ _
  refine J_iload (pc := 1646) C dL_law_1646 rfl ?_
  refine J_icmp_eq (pc := 1648) (tgt := 1653) C dL_law_1648 (by decide) hq3 hq1 (fun _ => ?_) (fun cb => absurd (hq3c.trans hk1.symm) cb)
  refine J_iload (pc := 1653) C dL_law_1653 rfl ?_
  refine J_if_ne (pc := 1655) (tgt := 1670) C dL_law_1655 (by decide) hq1 (fun _ => ?_) (fun cz => ?_)
  · refine J_goto (pc := 1670) (tgt := 1809) C dL_law_1670 (by decide) ?_
    refine J_widen (k1 := k + 20) (n1 := n + 200) (by show k + 8 + 0 + 0 ≤ k + 20; omega) (by show n + 60 + 0 + 0 ≤ n + 200; omega) ?_
    exact J_sub (L1 := LH G b i) ⟨rfl, ⟨rfl, ⟨rfl, ⟨rfl, ⟨rfl, trivial⟩⟩⟩⟩⟩ (kk (S1, o1, T2) ⟨V', hI', hv1, g1, g2, ok1, okT1⟩)
  · have hc0 : c0 = 0 := hk1.symm.trans cz
    have e1 : o1 = r := ho1 hc0
    have e2 := g4 hc0
    refine J_aload_n (pc := 1658) C dL_law_1658 rfl ?_
    refine J_iconst (pc := 1659) C dL_law_1659 ?_
    refine J_oald (pc := 1660) C dL_law_1660 ?_
    refine J_iload (pc := 1661) C dL_law_1661 rfl ?_
    refine J_i2l (pc := 1663) C dL_law_1663 hq2 ?_
    refine J_lcmp_eq (pc := 1664) (tgt := 1670) C dL_law_1664 dL_law_1665 (by decide) (by rw [e1, ← e2]; exact r32_64 hq2) (r32_64 hq2) (fun _ => ?_) (fun cb => absurd (e1.trans e2.symm) cb)
    refine J_goto (pc := 1670) (tgt := 1809) C dL_law_1670 (by decide) ?_
    refine J_widen (k1 := k + 20) (n1 := n + 200) (by show k + 8 + 0 + 0 ≤ k + 20; omega) (by show n + 60 + 0 + 0 ≤ n + 200; omega) ?_
    exact J_sub (L1 := LH G b i) ⟨rfl, ⟨rfl, ⟨rfl, ⟨rfl, ⟨rfl, trivial⟩⟩⟩⟩⟩ (kk (S1, o1, T2) ⟨V', hI', hv1, g1, g2, ok1, okT1⟩)
set_option maxRecDepth 100000 in
set_option maxHeartbeats 8000000 in
theorem lc_28 (hh : List (Nat × Nat × Nat × Nat)) : Case hh 1673 := by
  intro p l e s m args below meth c G A Q b Ls xs i k n σ X hi hk hn hJ kk
  obtain ⟨V, hI, hS, hT, hb, oS, oT⟩ := hJ
  obtain ⟨S, o, T⟩ := σ
  have C := X.1
  have hS : vw S = V := hS
  have hT : cs T = V := hT
  have hb : Tb T := hb
  have oS : okC S := oS
  have oT : okM T := oT
  obtain ⟨c0, r, V', hI', h0, h1, hC, hR⟩ := pr_place hI (sv xs (i + 1)) (sv xs (i + 2))
  have h1 : c0 ≤ 2 := h1
  have MC := ct_L_place (o := o) (r := r) (r_sv xs (i + 1)) (r_sv xs (i + 2)) ⟨h0, h1⟩ (hC S hS)
  have MR := hR T hT hb (fun q T1 => cs T1 = V' ∧ Tb T1 ∧ T1 0 0 = c0 ∧ (c0 = 0 → q = r)) (fun _ _ => False) (fun T1 r1 g1 g2 g3 g4 => ⟨g1, g2, g3, g4⟩) (r_sv xs (i + 1)) (r_sv xs (i + 2))
  refine J_aload_n (pc := 1673) C dL_law_1673 rfl ?_
  refine J_aload_n (pc := 1674) C dL_law_1674 rfl ?_
  refine J_iload (pc := 1675) C dL_law_1675 rfl ?_
  refine J_iconst (pc := 1677) C dL_law_1677 ?_
  refine J_iadd (pc := 1678) C dL_law_1678 ?_
  refine J_sld (pc := 1679) X dL_law_1679 ⟨by omega, by omega⟩ ?_
  refine J_aload_n (pc := 1680) C dL_law_1680 rfl ?_
  refine J_iload (pc := 1681) C dL_law_1681 rfl ?_
  refine J_iconst (pc := 1683) C dL_law_1683 ?_
  refine J_iadd (pc := 1684) C dL_law_1684 ?_
  refine J_sld (pc := 1685) X dL_law_1685 ⟨by omega, by omega⟩ ?_
  refine J_aload_n (pc := 1686) C dL_law_1686 rfl ?_
  refine J_e1 (pc := 1687) C (emb_LX G S o T) (J_eSX (pc := 1687) X MC dL_law_1687 rfl rfl (vx_cwSW 4 C.1.2.2.2.2 gL_law_L_place rfl rfl rfl (by decide +kernel) ⟨Nat.le_of_ble_eq_true rfl, Nat.le_of_ble_eq_true rfl⟩) oS (Nat.le_of_ble_eq_true rfl) ⟨by show k + 2 ≤ 601024; omega, by show n + 12 ≤ 7293034; omega⟩) (fun N τ _ q => q.elim) (fun q1 u hq1 ok1 hu => ?_)
  obtain ⟨S1, o1⟩ := u
  obtain ⟨hk1, hv1, ho1⟩ := hu
  have hv1 : vw S1 = V' := hv1
  have ok1 : okC S1 := ok1
  refine J_widen (k1 := k + 8) (n1 := n + 60) (by show k + 2 ≤ k + 8; omega) (by show n + 12 ≤ n + 60; omega) ?_
  show J wL 7 room_1 p l e s m args below meth c G A Q _ _ (S1, o1, T) _ _ _
  refine J_istore (pc := 1690) C dL_law_1690 (by decide) ?_
  refine J_aload_n (pc := 1692) C dL_law_1692 rfl ?_
  refine J_aload_n (pc := 1693) C dL_law_1693 rfl ?_
  refine J_iload (pc := 1694) C dL_law_1694 rfl ?_
  refine J_iconst (pc := 1696) C dL_law_1696 ?_
  refine J_iadd (pc := 1697) C dL_law_1697 ?_
  refine J_sld (pc := 1698) X dL_law_1698 ⟨by omega, by omega⟩ ?_
  refine J_aload_n (pc := 1699) C dL_law_1699 rfl ?_
  refine J_iload (pc := 1700) C dL_law_1700 rfl ?_
  refine J_iconst (pc := 1702) C dL_law_1702 ?_
  refine J_iadd (pc := 1703) C dL_law_1703 ?_
  refine J_sld (pc := 1704) X dL_law_1704 ⟨by omega, by omega⟩ ?_
  refine J_e1 (pc := 1705) C (emb_LM G S1 o1 T) (J_eV (pc := 1705) C (emb_LM G S1 o1 T) MR dL_law_1705 rfl rfl 0 rfl rfl (cwV 2 C.1.2.2.2.2 gL_law_X7_place rfl rfl rfl (by decide +kernel) ⟨Nat.le_of_ble_eq_true rfl, Nat.le_of_ble_eq_true rfl⟩) oT (Nat.le_of_ble_eq_true rfl) ⟨by show k + 8 + 0 ≤ 601024; omega, by show n + 60 + 0 ≤ 7293034; omega⟩) (fun N τ _ q => q.elim) (fun q2 T1 hq2 okT1 hu => ?_)
  obtain ⟨g1, g2, g3, g4⟩ := hu
  show J wL 7 room_1 p l e s m args below meth c G A Q _ _ (S1, o1, T1) _ _ _
  refine J_istore (pc := 1708) C dL_law_1708 (by decide) ?_
  refine J_aload_n (pc := 1710) C dL_law_1710 rfl ?_
  have MT : M_X7_thrown T1 (fun q T2 => q = T1 0 0 ∧ T2 = T1) (fun _ _ => False) := sp_X7_thrown ⟨rfl, rfl⟩
  refine J_e1 (pc := 1711) C (emb_LM G S1 o1 T1) (J_eV (pc := 1711) C (emb_LM G S1 o1 T1) MT dL_law_1711 rfl rfl 0 rfl rfl (cwV 0 C.1.2.2.2.2 gL_law_X7_thrown rfl rfl rfl (by decide +kernel) ⟨Nat.le_of_ble_eq_true rfl, Nat.le_of_ble_eq_true rfl⟩) okT1 (Nat.le_of_ble_eq_true rfl) ⟨by show k + 8 + 0 + 0 ≤ 601024; omega, by show n + 60 + 0 + 0 ≤ 7293034; omega⟩) (fun N τ _ q => q.elim) (fun q3 T2 hq3 okT2 hu => ?_)
  obtain ⟨hq3v, hT2⟩ := hu
  subst hT2
  have hq3c : q3 = c0 := hq3v.trans g3
  show J wL 7 room_1 p l e s m args below meth c G A Q _ _ (S1, o1, T2) _ _ _
  refine J_iload (pc := 1714) C dL_law_1714 rfl ?_
  refine J_icmp_eq (pc := 1716) (tgt := 1721) C dL_law_1716 (by decide) hq3 hq1 (fun _ => ?_) (fun cb => absurd (hq3c.trans hk1.symm) cb)
  refine J_iload (pc := 1721) C dL_law_1721 rfl ?_
  refine J_if_ne (pc := 1723) (tgt := 1738) C dL_law_1723 (by decide) hq1 (fun _ => ?_) (fun cz => ?_)
  · refine J_goto (pc := 1738) (tgt := 1809) C dL_law_1738 (by decide) ?_
    refine J_widen (k1 := k + 20) (n1 := n + 200) (by show k + 8 + 0 + 0 ≤ k + 20; omega) (by show n + 60 + 0 + 0 ≤ n + 200; omega) ?_
    exact J_sub (L1 := LH G b i) ⟨rfl, ⟨rfl, ⟨rfl, ⟨rfl, ⟨rfl, trivial⟩⟩⟩⟩⟩ (kk (S1, o1, T2) ⟨V', hI', hv1, g1, g2, ok1, okT1⟩)
  · have hc0 : c0 = 0 := hk1.symm.trans cz
    have e1 : o1 = r := ho1 hc0
    have e2 := g4 hc0
    refine J_aload_n (pc := 1726) C dL_law_1726 rfl ?_
    refine J_iconst (pc := 1727) C dL_law_1727 ?_
    refine J_oald (pc := 1728) C dL_law_1728 ?_
    refine J_iload (pc := 1729) C dL_law_1729 rfl ?_
    refine J_i2l (pc := 1731) C dL_law_1731 hq2 ?_
    refine J_lcmp_eq (pc := 1732) (tgt := 1738) C dL_law_1732 dL_law_1733 (by decide) (by rw [e1, ← e2]; exact r32_64 hq2) (r32_64 hq2) (fun _ => ?_) (fun cb => absurd (e1.trans e2.symm) cb)
    refine J_goto (pc := 1738) (tgt := 1809) C dL_law_1738 (by decide) ?_
    refine J_widen (k1 := k + 20) (n1 := n + 200) (by show k + 8 + 0 + 0 ≤ k + 20; omega) (by show n + 60 + 0 + 0 ≤ n + 200; omega) ?_
    exact J_sub (L1 := LH G b i) ⟨rfl, ⟨rfl, ⟨rfl, ⟨rfl, ⟨rfl, trivial⟩⟩⟩⟩⟩ (kk (S1, o1, T2) ⟨V', hI', hv1, g1, g2, ok1, okT1⟩)
set_option maxRecDepth 100000 in
set_option maxHeartbeats 8000000 in
theorem lc_29 (hh : List (Nat × Nat × Nat × Nat)) : Case hh 1741 := by
  intro p l e s m args below meth c G A Q b Ls xs i k n σ X hi hk hn hJ kk
  obtain ⟨V, hI, hS, hT, hb, oS, oT⟩ := hJ
  obtain ⟨S, o, T⟩ := σ
  have C := X.1
  have hS : vw S = V := hS
  have hT : cs T = V := hT
  have hb : Tb T := hb
  have oS : okC S := oS
  have oT : okM T := oT
  obtain ⟨c0, r, V', hI', h0, h1, hC, hR⟩ := pr_ofJoint hI (sv xs (i + 1)) (sv xs (i + 2))
  have h1 : c0 ≤ 2 := h1
  have MC := ct_L_ofJoint (o := o) (r := r) (r_sv xs (i + 1)) (r_sv xs (i + 2)) ⟨h0, h1⟩ (hC S hS)
  have MR := hR T hT hb (fun q T1 => cs T1 = V' ∧ Tb T1 ∧ T1 0 0 = c0 ∧ (c0 = 0 → q = r)) (fun _ _ => False) (fun T1 r1 g1 g2 g3 g4 => ⟨g1, g2, g3, g4⟩) (r_sv xs (i + 1)) (r_sv xs (i + 2))
  refine J_aload_n (pc := 1741) C dL_law_1741 rfl ?_
  refine J_aload_n (pc := 1742) C dL_law_1742 rfl ?_
  refine J_iload (pc := 1743) C dL_law_1743 rfl ?_
  refine J_iconst (pc := 1745) C dL_law_1745 ?_
  refine J_iadd (pc := 1746) C dL_law_1746 ?_
  refine J_sld (pc := 1747) X dL_law_1747 ⟨by omega, by omega⟩ ?_
  refine J_aload_n (pc := 1748) C dL_law_1748 rfl ?_
  refine J_iload (pc := 1749) C dL_law_1749 rfl ?_
  refine J_iconst (pc := 1751) C dL_law_1751 ?_
  refine J_iadd (pc := 1752) C dL_law_1752 ?_
  refine J_sld (pc := 1753) X dL_law_1753 ⟨by omega, by omega⟩ ?_
  refine J_aload_n (pc := 1754) C dL_law_1754 rfl ?_
  refine J_e1 (pc := 1755) C (emb_LX G S o T) (J_eSX (pc := 1755) X MC dL_law_1755 rfl rfl (vx_cwSW 4 C.1.2.2.2.2 gL_law_L_ofJoint rfl rfl rfl (by decide +kernel) ⟨Nat.le_of_ble_eq_true rfl, Nat.le_of_ble_eq_true rfl⟩) oS (Nat.le_of_ble_eq_true rfl) ⟨by show k + 2 ≤ 601024; omega, by show n + 12 ≤ 7293034; omega⟩) (fun N τ _ q => q.elim) (fun q1 u hq1 ok1 hu => ?_)
  obtain ⟨S1, o1⟩ := u
  obtain ⟨hk1, hv1, ho1⟩ := hu
  have hv1 : vw S1 = V' := hv1
  have ok1 : okC S1 := ok1
  refine J_widen (k1 := k + 8) (n1 := n + 60) (by show k + 2 ≤ k + 8; omega) (by show n + 12 ≤ n + 60; omega) ?_
  show J wL 7 room_1 p l e s m args below meth c G A Q _ _ (S1, o1, T) _ _ _
  refine J_istore (pc := 1758) C dL_law_1758 (by decide) ?_
  refine J_aload_n (pc := 1760) C dL_law_1760 rfl ?_
  refine J_aload_n (pc := 1761) C dL_law_1761 rfl ?_
  refine J_iload (pc := 1762) C dL_law_1762 rfl ?_
  refine J_iconst (pc := 1764) C dL_law_1764 ?_
  refine J_iadd (pc := 1765) C dL_law_1765 ?_
  refine J_sld (pc := 1766) X dL_law_1766 ⟨by omega, by omega⟩ ?_
  refine J_aload_n (pc := 1767) C dL_law_1767 rfl ?_
  refine J_iload (pc := 1768) C dL_law_1768 rfl ?_
  refine J_iconst (pc := 1770) C dL_law_1770 ?_
  refine J_iadd (pc := 1771) C dL_law_1771 ?_
  refine J_sld (pc := 1772) X dL_law_1772 ⟨by omega, by omega⟩ ?_
  refine J_e1 (pc := 1773) C (emb_LM G S1 o1 T) (J_eV (pc := 1773) C (emb_LM G S1 o1 T) MR dL_law_1773 rfl rfl 0 rfl rfl (cwV 2 C.1.2.2.2.2 gL_law_X7_ofJoint rfl rfl rfl (by decide +kernel) ⟨Nat.le_of_ble_eq_true rfl, Nat.le_of_ble_eq_true rfl⟩) oT (Nat.le_of_ble_eq_true rfl) ⟨by show k + 8 + 0 ≤ 601024; omega, by show n + 60 + 0 ≤ 7293034; omega⟩) (fun N τ _ q => q.elim) (fun q2 T1 hq2 okT1 hu => ?_)
  obtain ⟨g1, g2, g3, g4⟩ := hu
  show J wL 7 room_1 p l e s m args below meth c G A Q _ _ (S1, o1, T1) _ _ _
  refine J_istore (pc := 1776) C dL_law_1776 (by decide) ?_
  refine J_aload_n (pc := 1778) C dL_law_1778 rfl ?_
  have MT : M_X7_thrown T1 (fun q T2 => q = T1 0 0 ∧ T2 = T1) (fun _ _ => False) := sp_X7_thrown ⟨rfl, rfl⟩
  refine J_e1 (pc := 1779) C (emb_LM G S1 o1 T1) (J_eV (pc := 1779) C (emb_LM G S1 o1 T1) MT dL_law_1779 rfl rfl 0 rfl rfl (cwV 0 C.1.2.2.2.2 gL_law_X7_thrown rfl rfl rfl (by decide +kernel) ⟨Nat.le_of_ble_eq_true rfl, Nat.le_of_ble_eq_true rfl⟩) okT1 (Nat.le_of_ble_eq_true rfl) ⟨by show k + 8 + 0 + 0 ≤ 601024; omega, by show n + 60 + 0 + 0 ≤ 7293034; omega⟩) (fun N τ _ q => q.elim) (fun q3 T2 hq3 okT2 hu => ?_)
  obtain ⟨hq3v, hT2⟩ := hu
  subst hT2
  have hq3c : q3 = c0 := hq3v.trans g3
  show J wL 7 room_1 p l e s m args below meth c G A Q _ _ (S1, o1, T2) _ _ _
  refine J_iload (pc := 1782) C dL_law_1782 rfl ?_
  refine J_icmp_eq (pc := 1784) (tgt := 1789) C dL_law_1784 (by decide) hq3 hq1 (fun _ => ?_) (fun cb => absurd (hq3c.trans hk1.symm) cb)
  refine J_iload (pc := 1789) C dL_law_1789 rfl ?_
  refine J_if_ne (pc := 1791) (tgt := 1806) C dL_law_1791 (by decide) hq1 (fun _ => ?_) (fun cz => ?_)
  · refine J_goto (pc := 1806) (tgt := 1809) C dL_law_1806 (by decide) ?_
    refine J_widen (k1 := k + 20) (n1 := n + 200) (by show k + 8 + 0 + 0 ≤ k + 20; omega) (by show n + 60 + 0 + 0 ≤ n + 200; omega) ?_
    exact J_sub (L1 := LH G b i) ⟨rfl, ⟨rfl, ⟨rfl, ⟨rfl, ⟨rfl, trivial⟩⟩⟩⟩⟩ (kk (S1, o1, T2) ⟨V', hI', hv1, g1, g2, ok1, okT1⟩)
  · have hc0 : c0 = 0 := hk1.symm.trans cz
    have e1 : o1 = r := ho1 hc0
    have e2 := g4 hc0
    refine J_aload_n (pc := 1794) C dL_law_1794 rfl ?_
    refine J_iconst (pc := 1795) C dL_law_1795 ?_
    refine J_oald (pc := 1796) C dL_law_1796 ?_
    refine J_iload (pc := 1797) C dL_law_1797 rfl ?_
    refine J_i2l (pc := 1799) C dL_law_1799 hq2 ?_
    refine J_lcmp_eq (pc := 1800) (tgt := 1806) C dL_law_1800 dL_law_1801 (by decide) (by rw [e1, ← e2]; exact r32_64 hq2) (r32_64 hq2) (fun _ => ?_) (fun cb => absurd (e1.trans e2.symm) cb)
    refine J_goto (pc := 1806) (tgt := 1809) C dL_law_1806 (by decide) ?_
    refine J_widen (k1 := k + 20) (n1 := n + 200) (by show k + 8 + 0 + 0 ≤ k + 20; omega) (by show n + 60 + 0 + 0 ≤ n + 200; omega) ?_
    exact J_sub (L1 := LH G b i) ⟨rfl, ⟨rfl, ⟨rfl, ⟨rfl, ⟨rfl, trivial⟩⟩⟩⟩⟩ (kk (S1, o1, T2) ⟨V', hI', hv1, g1, g2, ok1, okT1⟩)
end LCASE
