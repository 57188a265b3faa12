/-! cases 0 .. 9 of the law's switch -/
section LCASE
set_option maxRecDepth 100000 in
set_option maxHeartbeats 8000000 in
theorem lc_0 (hh : List (Nat × Nat × Nat × Nat)) : Case hh 176 := by
  intro p l e s m args below meth c G A Q b Ls xs i k n σ X hi hk hn hJ kk
  obtain ⟨V, hI, hS, hT, hb, oS, oT⟩ := hJ
  obtain ⟨S, o, T⟩ := σ
  have C := X.1
  have hS : vw S = V := hS
  have hT : cs T = V := hT
  have hb : Tb T := hb
  have oS : okC S := oS
  have oT : okM T := oT
  obtain ⟨c0, r, V', hI', h0, h1, hC, hR⟩ := pr_joint hI (sv xs (i + 1)) (sv xs (i + 2))
  have h1 : c0 ≤ 2 := h1
  have MC := ct_L_joint (o := o) (r := r) (r_sv xs (i + 1)) (r_sv xs (i + 2)) ⟨h0, h1⟩ (hC S hS)
  have MR := hR T hT hb (fun q T1 => cs T1 = V' ∧ Tb T1 ∧ T1 0 0 = c0 ∧ (c0 = 0 → q = r)) (fun _ _ => False) (fun T1 r1 g1 g2 g3 g4 => ⟨g1, g2, g3, g4⟩) (r_sv xs (i + 1)) (r_sv xs (i + 2))
  refine J_aload_n (pc := 176) C dL_law_176 rfl ?_
  refine J_aload_n (pc := 177) C dL_law_177 rfl ?_
  refine J_iload (pc := 178) C dL_law_178 rfl ?_
  refine J_iconst (pc := 180) C dL_law_180 ?_
  refine J_iadd (pc := 181) C dL_law_181 ?_
  refine J_sld (pc := 182) X dL_law_182 ⟨by omega, by omega⟩ ?_
  refine J_aload_n (pc := 183) C dL_law_183 rfl ?_
  refine J_iload (pc := 184) C dL_law_184 rfl ?_
  refine J_iconst (pc := 186) C dL_law_186 ?_
  refine J_iadd (pc := 187) C dL_law_187 ?_
  refine J_sld (pc := 188) X dL_law_188 ⟨by omega, by omega⟩ ?_
  refine J_aload_n (pc := 189) C dL_law_189 rfl ?_
  refine J_e1 (pc := 190) C (emb_LX G S o T) (J_eSX (pc := 190) X MC dL_law_190 rfl rfl (vx_cwSW 4 C.1.2.2.2.2 gL_law_L_joint rfl rfl rfl (by decide +kernel) ⟨Nat.le_of_ble_eq_true rfl, Nat.le_of_ble_eq_true rfl⟩) oS (Nat.le_of_ble_eq_true rfl) ⟨by show k + 2 ≤ 601024; omega, by show n + 12 ≤ 7293034; omega⟩) (fun N τ _ q => q.elim) (fun q1 u hq1 ok1 hu => ?_)
  obtain ⟨S1, o1⟩ := u
  obtain ⟨hk1, hv1, ho1⟩ := hu
  have hv1 : vw S1 = V' := hv1
  have ok1 : okC S1 := ok1
  refine J_widen (k1 := k + 8) (n1 := n + 60) (by show k + 2 ≤ k + 8; omega) (by show n + 12 ≤ n + 60; omega) ?_
  show J wL 7 room_1 p l e s m args below meth c G A Q _ _ (S1, o1, T) _ _ _
  refine J_istore (pc := 193) C dL_law_193 (by decide) ?_
  refine J_aload_n (pc := 195) C dL_law_195 rfl ?_
  refine J_aload_n (pc := 196) C dL_law_196 rfl ?_
  refine J_iload (pc := 197) C dL_law_197 rfl ?_
  refine J_iconst (pc := 199) C dL_law_199 ?_
  refine J_iadd (pc := 200) C dL_law_200 ?_
  refine J_sld (pc := 201) X dL_law_201 ⟨by omega, by omega⟩ ?_
  refine J_aload_n (pc := 202) C dL_law_202 rfl ?_
  refine J_iload (pc := 203) C dL_law_203 rfl ?_
  refine J_iconst (pc := 205) C dL_law_205 ?_
  refine J_iadd (pc := 206) C dL_law_206 ?_
  refine J_sld (pc := 207) X dL_law_207 ⟨by omega, by omega⟩ ?_
  refine J_e1 (pc := 208) C (emb_LM G S1 o1 T) (J_eV (pc := 208) C (emb_LM G S1 o1 T) MR dL_law_208 rfl rfl 0 rfl rfl (cwV 2 C.1.2.2.2.2 gL_law_X7_joint rfl rfl rfl (by decide +kernel) ⟨Nat.le_of_ble_eq_true rfl, Nat.le_of_ble_eq_true rfl⟩) oT (Nat.le_of_ble_eq_true rfl) ⟨by show k + 8 + 0 ≤ 601024; omega, by show n + 60 + 0 ≤ 7293034; omega⟩) (fun N τ _ q => q.elim) (fun q2 T1 hq2 okT1 hu => ?_)
  obtain ⟨g1, g2, g3, g4⟩ := hu
  show J wL 7 room_1 p l e s m args below meth c G A Q _ _ (S1, o1, T1) _ _ _
  refine J_istore (pc := 211) C dL_law_211 (by decide) ?_
  refine J_aload_n (pc := 213) C dL_law_213 rfl ?_
  have MT : M_X7_thrown T1 (fun q T2 => q = T1 0 0 ∧ T2 = T1) (fun _ _ => False) := sp_X7_thrown ⟨rfl, rfl⟩
  refine J_e1 (pc := 214) C (emb_LM G S1 o1 T1) (J_eV (pc := 214) C (emb_LM G S1 o1 T1) MT dL_law_214 rfl rfl 0 rfl rfl (cwV 0 C.1.2.2.2.2 gL_law_X7_thrown rfl rfl rfl (by decide +kernel) ⟨Nat.le_of_ble_eq_true rfl, Nat.le_of_ble_eq_true rfl⟩) okT1 (Nat.le_of_ble_eq_true rfl) ⟨by show k + 8 + 0 + 0 ≤ 601024; omega, by show n + 60 + 0 + 0 ≤ 7293034; omega⟩) (fun N τ _ q => q.elim) (fun q3 T2 hq3 okT2 hu => ?_)
  obtain ⟨hq3v, hT2⟩ := hu
  subst hT2
  have hq3c : q3 = c0 := hq3v.trans g3
  show J wL 7 room_1 p l e s m args below meth c G A Q _ _ (S1, o1, T2) _ _ _
  refine J_iload (pc := 217) C dL_law_217 rfl ?_
  refine J_icmp_eq (pc := 219) (tgt := 224) C dL_law_219 (by decide) hq3 hq1 (fun _ => ?_) (fun cb => absurd (hq3c.trans hk1.symm) cb)
  refine J_iload (pc := 224) C dL_law_224 rfl ?_
  refine J_if_ne (pc := 226) (tgt := 241) C dL_law_226 (by decide) hq1 (fun _ => ?_) (fun cz => ?_)
  · refine J_goto (pc := 241) (tgt := 1809) C dL_law_241 (by decide) ?_
    refine J_widen (k1 := k + 20) (n1 := n + 200) (by show k + 8 + 0 + 0 ≤ k + 20; omega) (by show n + 60 + 0 + 0 ≤ n + 200; omega) ?_
    exact J_sub (L1 := LH G b i) ⟨rfl, ⟨rfl, ⟨rfl, ⟨rfl, ⟨rfl, trivial⟩⟩⟩⟩⟩ (kk (S1, o1, T2) ⟨V', hI', hv1, g1, g2, ok1, okT1⟩)
  · have hc0 : c0 = 0 := hk1.symm.trans cz
    have e1 : o1 = r := ho1 hc0
    have e2 := g4 hc0
    refine J_aload_n (pc := 229) C dL_law_229 rfl ?_
    refine J_iconst (pc := 230) C dL_law_230 ?_
    refine J_oald (pc := 231) C dL_law_231 ?_
    refine J_iload (pc := 232) C dL_law_232 rfl ?_
    refine J_i2l (pc := 234) C dL_law_234 hq2 ?_
    refine J_lcmp_eq (pc := 235) (tgt := 241) C dL_law_235 dL_law_236 (by decide) (by rw [e1, ← e2]; exact r32_64 hq2) (r32_64 hq2) (fun _ => ?_) (fun cb => absurd (e1.trans e2.symm) cb)
    refine J_goto (pc := 241) (tgt := 1809) C dL_law_241 (by decide) ?_
    refine J_widen (k1 := k + 20) (n1 := n + 200) (by show k + 8 + 0 + 0 ≤ k + 20; omega) (by show n + 60 + 0 + 0 ≤ n + 200; omega) ?_
    exact J_sub (L1 := LH G b i) ⟨rfl, ⟨rfl, ⟨rfl, ⟨rfl, ⟨rfl, trivial⟩⟩⟩⟩⟩ (kk (S1, o1, T2) ⟨V', hI', hv1, g1, g2, ok1, okT1⟩)
set_option maxRecDepth 100000 in
set_option maxHeartbeats 8000000 in
theorem lc_1 (hh : List (Nat × Nat × Nat × Nat)) : Case hh 244 := by
  intro p l e s m args below meth c G A Q b Ls xs i k n σ X hi hk hn hJ kk
  obtain ⟨V, hI, hS, hT, hb, oS, oT⟩ := hJ
  obtain ⟨S, o, T⟩ := σ
  have C := X.1
  have hS : vw S = V := hS
  have hT : cs T = V := hT
  have hb : Tb T := hb
  have oS : okC S := oS
  have oT : okM T := oT
  obtain ⟨c0, r, V', hI', h0, h1, hC, hR⟩ := pr_move hI (sv xs (i + 1)) (sv xs (i + 2)) (sv xs (i + 3))
  have h1 : c0 ≤ 2 := h1
  have MC := ct_L_move (o := o) (r := r) (r_sv xs (i + 1)) (r_sv xs (i + 2)) (r_sv xs (i + 3)) ⟨h0, h1⟩ (hC S hS)
  have MR := hR T hT hb (fun q T1 => cs T1 = V' ∧ Tb T1 ∧ T1 0 0 = c0 ∧ (c0 = 0 → q = r)) (fun _ _ => False) (fun T1 r1 g1 g2 g3 g4 => ⟨g1, g2, g3, g4⟩) (r_sv xs (i + 1)) (r_sv xs (i + 2)) (r_sv xs (i + 3))
  refine J_aload_n (pc := 244) C dL_law_244 rfl ?_
  refine J_aload_n (pc := 245) C dL_law_245 rfl ?_
  refine J_iload (pc := 246) C dL_law_246 rfl ?_
  refine J_iconst (pc := 248) C dL_law_248 ?_
  refine J_iadd (pc := 249) C dL_law_249 ?_
  refine J_sld (pc := 250) X dL_law_250 ⟨by omega, by omega⟩ ?_
  refine J_aload_n (pc := 251) C dL_law_251 rfl ?_
  refine J_iload (pc := 252) C dL_law_252 rfl ?_
  refine J_iconst (pc := 254) C dL_law_254 ?_
  refine J_iadd (pc := 255) C dL_law_255 ?_
  refine J_sld (pc := 256) X dL_law_256 ⟨by omega, by omega⟩ ?_
  refine J_aload_n (pc := 257) C dL_law_257 rfl ?_
  refine J_iload (pc := 258) C dL_law_258 rfl ?_
  refine J_iconst (pc := 260) C dL_law_260 ?_
  refine J_iadd (pc := 261) C dL_law_261 ?_
  refine J_sld (pc := 262) X dL_law_262 ⟨by omega, by omega⟩ ?_
  refine J_e1 (pc := 263) C (emb_LX G S o T) (J_eSX (pc := 263) X MC dL_law_263 rfl rfl (vx_cwSW 4 C.1.2.2.2.2 gL_law_L_move rfl rfl rfl (by decide +kernel) ⟨Nat.le_of_ble_eq_true rfl, Nat.le_of_ble_eq_true rfl⟩) oS (Nat.le_of_ble_eq_true rfl) ⟨by show k + 2 ≤ 601024; omega, by show n + 12 ≤ 7293034; omega⟩) (fun N τ _ q => q.elim) (fun q1 u hq1 ok1 hu => ?_)
  obtain ⟨S1, o1⟩ := u
  obtain ⟨hk1, hv1⟩ := hu
  have hv1 : vw S1 = V' := hv1
  have ok1 : okC S1 := ok1
  refine J_widen (k1 := k + 8) (n1 := n + 60) (by show k + 2 ≤ k + 8; omega) (by show n + 12 ≤ n + 60; omega) ?_
  show J wL 7 room_1 p l e s m args below meth c G A Q _ _ (S1, o1, T) _ _ _
  refine J_istore (pc := 266) C dL_law_266 (by decide) ?_
  refine J_aload_n (pc := 268) C dL_law_268 rfl ?_
  refine J_aload_n (pc := 269) C dL_law_269 rfl ?_
  refine J_iload (pc := 270) C dL_law_270 rfl ?_
  refine J_iconst (pc := 272) C dL_law_272 ?_
  refine J_iadd (pc := 273) C dL_law_273 ?_
  refine J_sld (pc := 274) X dL_law_274 ⟨by omega, by omega⟩ ?_
  refine J_aload_n (pc := 275) C dL_law_275 rfl ?_
  refine J_iload (pc := 276) C dL_law_276 rfl ?_
  refine J_iconst (pc := 278) C dL_law_278 ?_
  refine J_iadd (pc := 279) C dL_law_279 ?_
  refine J_sld (pc := 280) X dL_law_280 ⟨by omega, by omega⟩ ?_
  refine J_aload_n (pc := 281) C dL_law_281 rfl ?_
  refine J_iload (pc := 282) C dL_law_282 rfl ?_
  refine J_iconst (pc := 284) C dL_law_284 ?_
  refine J_iadd (pc := 285) C dL_law_285 ?_
  refine J_sld (pc := 286) X dL_law_286 ⟨by omega, by omega⟩ ?_
  refine J_e0 (pc := 287) C (emb_LM G S1 o1 T) (J_eV (pc := 287) C (emb_LM G S1 o1 T) MR dL_law_287 rfl rfl 0 rfl rfl (cwV 3 C.1.2.2.2.2 gL_law_X7_move rfl rfl rfl (by decide +kernel) ⟨Nat.le_of_ble_eq_true rfl, Nat.le_of_ble_eq_true rfl⟩) oT (Nat.le_of_ble_eq_true rfl) ⟨by show k + 8 + 0 ≤ 601024; omega, by show n + 60 + 0 ≤ 7293034; omega⟩) (fun N τ _ q => q.elim) (fun T1 okT1 hu => ?_)
  obtain ⟨g1, g2, g3, g4⟩ := hu
  show J wL 7 room_1 p l e s m args below meth c G A Q _ _ (S1, o1, T1) _ _ _
  refine J_aload_n (pc := 290) C dL_law_290 rfl ?_
  have MT : M_X7_thrown T1 (fun q T2 => q = T1 0 0 ∧ T2 = T1) (fun _ _ => False) := sp_X7_thrown ⟨rfl, rfl⟩
  refine J_e1 (pc := 291) C (emb_LM G S1 o1 T1) (J_eV (pc := 291) C (emb_LM G S1 o1 T1) MT dL_law_291 rfl rfl 0 rfl rfl (cwV 0 C.1.2.2.2.2 gL_law_X7_thrown rfl rfl rfl (by decide +kernel) ⟨Nat.le_of_ble_eq_true rfl, Nat.le_of_ble_eq_true rfl⟩) okT1 (Nat.le_of_ble_eq_true rfl) ⟨by show k + 8 + 0 + 0 ≤ 601024; omega, by show n + 60 + 0 + 0 ≤ 7293034; omega⟩) (fun N τ _ q => q.elim) (fun q3 T2 hq3 okT2 hu => ?_)
  obtain ⟨hq3v, hT2⟩ := hu
  subst hT2
  have hq3c : q3 = c0 := hq3v.trans g3
  show J wL 7 room_1 p l e s m args below meth c G A Q _ _ (S1, o1, T2) _ _ _
  refine J_iload (pc := 294) C dL_law_294 rfl ?_
  refine J_icmp_eq (pc := 296) (tgt := 301) C dL_law_296 (by decide) hq3 hq1 (fun _ => ?_) (fun cb => absurd (hq3c.trans hk1.symm) cb)
  refine J_goto (pc := 301) (tgt := 1809) C dL_law_301 (by decide) ?_
  refine J_widen (k1 := k + 20) (n1 := n + 200) (by show k + 8 + 0 + 0 ≤ k + 20; omega) (by show n + 60 + 0 + 0 ≤ n + 200; omega) ?_
  exact J_sub (L1 := LH G b i) ⟨rfl, ⟨rfl, ⟨rfl, ⟨rfl, ⟨rfl, trivial⟩⟩⟩⟩⟩ (kk (S1, o1, T2) ⟨V', hI', hv1, g1, g2, ok1, okT1⟩)
set_option maxRecDepth 100000 in
set_option maxHeartbeats 8000000 in
theorem lc_2 (hh : List (Nat × Nat × Nat × Nat)) : Case hh 304 := by
  intro p l e s m args below meth c G A Q b Ls xs i k n σ X hi hk hn hJ kk
  obtain ⟨V, hI, hS, hT, hb, oS, oT⟩ := hJ
  obtain ⟨S, o, T⟩ := σ
  have C := X.1
  have hS : vw S = V := hS
  have hT : cs T = V := hT
  have hb : Tb T := hb
  have oS : okC S := oS
  have oT : okM T := oT
  by_cases hz : sv xs (i + 2) = 0
  · obtain ⟨c0, r, V', hI', h0, h1, hC, hR⟩ := pr_pin hI (sv xs (i + 1)) 0 ⟨by decide, by decide⟩
    have h1 : c0 ≤ 1 := h1
    have MC := ct_L_pin (o := o) (r := r) (r_sv xs (i + 1)) (by decide) ⟨h0, h1⟩ (hC S hS)
    have MR := hR T hT hb (fun q T1 => cs T1 = V' ∧ Tb T1 ∧ T1 0 0 = c0 ∧ (c0 = 0 → q = r)) (fun _ _ => False) (fun T1 r1 g1 g2 g3 g4 => ⟨g1, g2, g3, g4⟩) (r_sv xs (i + 1)) (by decide)
    refine J_aload_n (pc := 304) C dL_law_304 rfl ?_
    refine J_aload_n (pc := 305) C dL_law_305 rfl ?_
    refine J_iload (pc := 306) C dL_law_306 rfl ?_
    refine J_iconst (pc := 308) C dL_law_308 ?_
    refine J_iadd (pc := 309) C dL_law_309 ?_
    refine J_sld (pc := 310) X dL_law_310 ⟨by omega, by omega⟩ ?_
    refine J_aload_n (pc := 311) C dL_law_311 rfl ?_
    refine J_iload (pc := 312) C dL_law_312 rfl ?_
    refine J_iconst (pc := 314) C dL_law_314 ?_
    refine J_iadd (pc := 315) C dL_law_315 ?_
    refine J_sld (pc := 316) X dL_law_316 ⟨by omega, by omega⟩ ?_
    refine J_if_eq (pc := 317) (tgt := 324) C dL_law_317 (by decide) (r_sv _ _) (fun _ => ?_) (fun cb => absurd hz cb)
    refine J_iconst (pc := 324) C dL_law_324 ?_
    refine J_aload_n (pc := 325) C dL_law_325 rfl ?_
    refine J_e1 (pc := 326) C (emb_LX G S o T) (J_eSX (pc := 326) X MC dL_law_326 rfl rfl (vx_cwSW 4 C.1.2.2.2.2 gL_law_L_pin rfl rfl rfl (by decide +kernel) ⟨Nat.le_of_ble_eq_true rfl, Nat.le_of_ble_eq_true rfl⟩) oS (Nat.le_of_ble_eq_true rfl) ⟨by show k + 1 ≤ 601024; omega, by show n + 6 ≤ 7293034; omega⟩) (fun N τ _ q => q.elim) (fun q1 u hq1 ok1 hu => ?_)
    obtain ⟨S1, o1⟩ := u
    obtain ⟨hk1, hv1, ho1⟩ := hu
    have hv1 : vw S1 = V' := hv1
    have ok1 : okC S1 := ok1
    refine J_widen (k1 := k + 8) (n1 := n + 60) (by show k + 1 ≤ k + 8; omega) (by show n + 6 ≤ n + 60; omega) ?_
    show J wL 7 room_1 p l e s m args below meth c G A Q _ _ (S1, o1, T) _ _ _
    refine J_istore (pc := 329) C dL_law_329 (by decide) ?_
    refine J_aload_n (pc := 331) C dL_law_331 rfl ?_
    refine J_aload_n (pc := 332) C dL_law_332 rfl ?_
    refine J_iload (pc := 333) C dL_law_333 rfl ?_
    refine J_iconst (pc := 335) C dL_law_335 ?_
    refine J_iadd (pc := 336) C dL_law_336 ?_
    refine J_sld (pc := 337) X dL_law_337 ⟨by omega, by omega⟩ ?_
    refine J_aload_n (pc := 338) C dL_law_338 rfl ?_
    refine J_iload (pc := 339) C dL_law_339 rfl ?_
    refine J_iconst (pc := 341) C dL_law_341 ?_
    refine J_iadd (pc := 342) C dL_law_342 ?_
    refine J_sld (pc := 343) X dL_law_343 ⟨by omega, by omega⟩ ?_
    refine J_if_eq (pc := 344) (tgt := 351) C dL_law_344 (by decide) (r_sv _ _) (fun _ => ?_) (fun cb => absurd hz cb)
    refine J_iconst (pc := 351) C dL_law_351 ?_
    refine J_e1 (pc := 352) C (emb_LM G S1 o1 T) (J_eV (pc := 352) C (emb_LM G S1 o1 T) MR dL_law_352 rfl rfl 0 rfl rfl (cwV 2 C.1.2.2.2.2 gL_law_X7_pin rfl rfl rfl (by decide +kernel) ⟨Nat.le_of_ble_eq_true rfl, Nat.le_of_ble_eq_true rfl⟩) oT (Nat.le_of_ble_eq_true rfl) ⟨by show k + 8 + 0 ≤ 601024; omega, by show n + 60 + 0 ≤ 7293034; omega⟩) (fun N τ _ q => q.elim) (fun q2 T1 hq2 okT1 hu => ?_)
    obtain ⟨g1, g2, g3, g4⟩ := hu
    show J wL 7 room_1 p l e s m args below meth c G A Q _ _ (S1, o1, T1) _ _ _
    refine J_istore (pc := 355) C dL_law_355 (by decide) ?_
    refine J_aload_n (pc := 357) C dL_law_357 rfl ?_
    have MT : M_X7_thrown T1 (fun q T2 => q = T1 0 0 ∧ T2 = T1) (fun _ _ => False) := sp_X7_thrown ⟨rfl, rfl⟩
    refine J_e1 (pc := 358) C (emb_LM G S1 o1 T1) (J_eV (pc := 358) C (emb_LM G S1 o1 T1) MT dL_law_358 rfl rfl 0 rfl rfl (cwV 0 C.1.2.2.2.2 gL_law_X7_thrown rfl rfl rfl (by decide +kernel) ⟨Nat.le_of_ble_eq_true rfl, Nat.le_of_ble_eq_true rfl⟩) okT1 (Nat.le_of_ble_eq_true rfl) ⟨by show k + 8 + 0 + 0 ≤ 601024; omega, by show n + 60 + 0 + 0 ≤ 7293034; omega⟩) (fun N τ _ q => q.elim) (fun q3 T2 hq3 okT2 hu => ?_)
    obtain ⟨hq3v, hT2⟩ := hu
    subst hT2
    have hq3c : q3 = c0 := hq3v.trans g3
    show J wL 7 room_1 p l e s m args below meth c G A Q _ _ (S1, o1, T2) _ _ _
    refine J_iload (pc := 361) C dL_law_361 rfl ?_
    refine J_icmp_eq (pc := 363) (tgt := 368) C dL_law_363 (by decide) hq3 hq1 (fun _ => ?_) (fun cb => absurd (hq3c.trans hk1.symm) cb)
    refine J_iload (pc := 368) C dL_law_368 rfl ?_
    refine J_if_ne (pc := 370) (tgt := 392) C dL_law_370 (by decide) hq1 (fun _ => ?_) (fun cz => ?_)
    · refine J_goto (pc := 392) (tgt := 1809) C dL_law_392 (by decide) ?_
      refine J_widen (k1 := k + 20) (n1 := n + 200) (by show k + 8 + 0 + 0 ≤ k + 20; omega) (by show n + 60 + 0 + 0 ≤ n + 200; omega) ?_
      exact J_sub (L1 := LH G b i) ⟨rfl, ⟨rfl, ⟨rfl, ⟨rfl, ⟨rfl, trivial⟩⟩⟩⟩⟩ (kk (S1, o1, T2) ⟨V', hI', hv1, g1, g2, ok1, okT1⟩)
    · have hc0 : c0 = 0 := hk1.symm.trans cz
      have e1 : o1 = if r = 0 then 0 else 1 := ho1 hc0
      have e2 := g4 hc0
      refine J_aload_n (pc := 373) C dL_law_373 rfl ?_
      refine J_iconst (pc := 374) C dL_law_374 ?_
      refine J_oald (pc := 375) C dL_law_375 ?_
      refine J_iload (pc := 376) C dL_law_376 rfl ?_
      refine J_if_eq (pc := 378) (tgt := 385) C dL_law_378 (by decide) hq2 (fun cb => ?_) (fun cb => ?_)
      · have e3 : o1 = 0 := by rw [e1, if_pos (e2.symm.trans cb)]
        refine J_lconst (pc := 385) C dL_law_385 ?_
        refine J_lcmp_eq (pc := 386) (tgt := 392) C dL_law_386 dL_law_387 (by decide) (by rw [e3]; decide) (by decide) (fun _ => ?_) (fun cb => absurd e3 cb)
        refine J_goto (pc := 392) (tgt := 1809) C dL_law_392 (by decide) ?_
        refine J_widen (k1 := k + 20) (n1 := n + 200) (by show k + 8 + 0 + 0 ≤ k + 20; omega) (by show n + 60 + 0 + 0 ≤ n + 200; omega) ?_
        exact J_sub (L1 := LH G b i) ⟨rfl, ⟨rfl, ⟨rfl, ⟨rfl, ⟨rfl, trivial⟩⟩⟩⟩⟩ (kk (S1, o1, T2) ⟨V', hI', hv1, g1, g2, ok1, okT1⟩)
      · have e3 : o1 = 1 := by rw [e1, if_neg (fun z => cb (e2.trans z))]
        refine J_lconst (pc := 381) C dL_law_381 ?_
        refine J_goto (pc := 382) (tgt := 386) C dL_law_382 (by decide) ?_
        refine J_lcmp_eq (pc := 386) (tgt := 392) C dL_law_386 dL_law_387 (by decide) (by rw [e3]; decide) (by decide) (fun _ => ?_) (fun cb => absurd e3 cb)
        refine J_goto (pc := 392) (tgt := 1809) C dL_law_392 (by decide) ?_
        refine J_widen (k1 := k + 20) (n1 := n + 200) (by show k + 8 + 0 + 0 ≤ k + 20; omega) (by show n + 60 + 0 + 0 ≤ n + 200; omega) ?_
        exact J_sub (L1 := LH G b i) ⟨rfl, ⟨rfl, ⟨rfl, ⟨rfl, ⟨rfl, trivial⟩⟩⟩⟩⟩ (kk (S1, o1, T2) ⟨V', hI', hv1, g1, g2, ok1, okT1⟩)
  · obtain ⟨c0, r, V', hI', h0, h1, hC, hR⟩ := pr_pin hI (sv xs (i + 1)) 1 ⟨by decide, by decide⟩
    have h1 : c0 ≤ 1 := h1
    have MC := ct_L_pin (o := o) (r := r) (r_sv xs (i + 1)) (by decide) ⟨h0, h1⟩ (hC S hS)
    have MR := hR T hT hb (fun q T1 => cs T1 = V' ∧ Tb T1 ∧ T1 0 0 = c0 ∧ (c0 = 0 → q = r)) (fun _ _ => False) (fun T1 r1 g1 g2 g3 g4 => ⟨g1, g2, g3, g4⟩) (r_sv xs (i + 1)) (by decide)
    refine J_aload_n (pc := 304) C dL_law_304 rfl ?_
    refine J_aload_n (pc := 305) C dL_law_305 rfl ?_
    refine J_iload (pc := 306) C dL_law_306 rfl ?_
    refine J_iconst (pc := 308) C dL_law_308 ?_
    refine J_iadd (pc := 309) C dL_law_309 ?_
    refine J_sld (pc := 310) X dL_law_310 ⟨by omega, by omega⟩ ?_
    refine J_aload_n (pc := 311) C dL_law_311 rfl ?_
    refine J_iload (pc := 312) C dL_law_312 rfl ?_
    refine J_iconst (pc := 314) C dL_law_314 ?_
    refine J_iadd (pc := 315) C dL_law_315 ?_
    refine J_sld (pc := 316) X dL_law_316 ⟨by omega, by omega⟩ ?_
    refine J_if_eq (pc := 317) (tgt := 324) C dL_law_317 (by decide) (r_sv _ _) (fun cb => absurd cb hz) (fun _ => ?_)
    refine J_iconst (pc := 320) C dL_law_320 ?_
    refine J_goto (pc := 321) (tgt := 325) C dL_law_321 (by decide) ?_
    refine J_aload_n (pc := 325) C dL_law_325 rfl ?_
    refine J_e1 (pc := 326) C (emb_LX G S o T) (J_eSX (pc := 326) X MC dL_law_326 rfl rfl (vx_cwSW 4 C.1.2.2.2.2 gL_law_L_pin rfl rfl rfl (by decide +kernel) ⟨Nat.le_of_ble_eq_true rfl, Nat.le_of_ble_eq_true rfl⟩) oS (Nat.le_of_ble_eq_true rfl) ⟨by show k + 1 ≤ 601024; omega, by show n + 6 ≤ 7293034; omega⟩) (fun N τ _ q => q.elim) (fun q1 u hq1 ok1 hu => ?_)
    obtain ⟨S1, o1⟩ := u
    obtain ⟨hk1, hv1, ho1⟩ := hu
    have hv1 : vw S1 = V' := hv1
    have ok1 : okC S1 := ok1
    refine J_widen (k1 := k + 8) (n1 := n + 60) (by show k + 1 ≤ k + 8; omega) (by show n + 6 ≤ n + 60; omega) ?_
    show J wL 7 room_1 p l e s m args below meth c G A Q _ _ (S1, o1, T) _ _ _
    refine J_istore (pc := 329) C dL_law_329 (by decide) ?_
    refine J_aload_n (pc := 331) C dL_law_331 rfl ?_
    refine J_aload_n (pc := 332) C dL_law_332 rfl ?_
    refine J_iload (pc := 333) C dL_law_333 rfl ?_
    refine J_iconst (pc := 335) C dL_law_335 ?_
    refine J_iadd (pc := 336) C dL_law_336 ?_
    refine J_sld (pc := 337) X dL_law_337 ⟨by omega, by omega⟩ ?_
    refine J_aload_n (pc := 338) C dL_law_338 rfl ?_
    refine J_iload (pc := 339) C dL_law_339 rfl ?_
    refine J_iconst (pc := 341) C dL_law_341 ?_
    refine J_iadd (pc := 342) C dL_law_342 ?_
    refine J_sld (pc := 343) X dL_law_343 ⟨by omega, by omega⟩ ?_
    refine J_if_eq (pc := 344) (tgt := 351) C dL_law_344 (by decide) (r_sv _ _) (fun cb => absurd cb hz) (fun _ => ?_)
    refine J_iconst (pc := 347) C dL_law_347 ?_
    refine J_goto (pc := 348) (tgt := 352) C dL_law_348 (by decide) ?_
    refine J_e1 (pc := 352) C (emb_LM G S1 o1 T) (J_eV (pc := 352) C (emb_LM G S1 o1 T) MR dL_law_352 rfl rfl 0 rfl rfl (cwV 2 C.1.2.2.2.2 gL_law_X7_pin rfl rfl rfl (by decide +kernel) ⟨Nat.le_of_ble_eq_true rfl, Nat.le_of_ble_eq_true rfl⟩) oT (Nat.le_of_ble_eq_true rfl) ⟨by show k + 8 + 0 ≤ 601024; omega, by show n + 60 + 0 ≤ 7293034; omega⟩) (fun N τ _ q => q.elim) (fun q2 T1 hq2 okT1 hu => ?_)
    obtain ⟨g1, g2, g3, g4⟩ := hu
    show J wL 7 room_1 p l e s m args below meth c G A Q _ _ (S1, o1, T1) _ _ _
    refine J_istore (pc := 355) C dL_law_355 (by decide) ?_
    refine J_aload_n (pc := 357) C dL_law_357 rfl ?_
    have MT : M_X7_thrown T1 (fun q T2 => q = T1 0 0 ∧ T2 = T1) (fun _ _ => False) := sp_X7_thrown ⟨rfl, rfl⟩
    refine J_e1 (pc := 358) C (emb_LM G S1 o1 T1) (J_eV (pc := 358) C (emb_LM G S1 o1 T1) MT dL_law_358 rfl rfl 0 rfl rfl (cwV 0 C.1.2.2.2.2 gL_law_X7_thrown rfl rfl rfl (by decide +kernel) ⟨Nat.le_of_ble_eq_true rfl, Nat.le_of_ble_eq_true rfl⟩) okT1 (Nat.le_of_ble_eq_true rfl) ⟨by show k + 8 + 0 + 0 ≤ 601024; omega, by show n + 60 + 0 + 0 ≤ 7293034; omega⟩) (fun N τ _ q => q.elim) (fun q3 T2 hq3 okT2 hu => ?_)
    obtain ⟨hq3v, hT2⟩ := hu
    subst hT2
    have hq3c : q3 = c0 := hq3v.trans g3
    show J wL 7 room_1 p l e s m args below meth c G A Q _ _ (S1, o1, T2) _ _ _
    refine J_iload (pc := 361) C dL_law_361 rfl ?_
    refine J_icmp_eq (pc := 363) (tgt := 368) C dL_law_363 (by decide) hq3 hq1 (fun _ => ?_) (fun cb => absurd (hq3c.trans hk1.symm) cb)
    refine J_iload (pc := 368) C dL_law_368 rfl ?_
    refine J_if_ne (pc := 370) (tgt := 392) C dL_law_370 (by decide) hq1 (fun _ => ?_) (fun cz => ?_)
    · refine J_goto (pc := 392) (tgt := 1809) C dL_law_392 (by decide) ?_
      refine J_widen (k1 := k + 20) (n1 := n + 200) (by show k + 8 + 0 + 0 ≤ k + 20; omega) (by show n + 60 + 0 + 0 ≤ n + 200; omega) ?_
      exact J_sub (L1 := LH G b i) ⟨rfl, ⟨rfl, ⟨rfl, ⟨rfl, ⟨rfl, trivial⟩⟩⟩⟩⟩ (kk (S1, o1, T2) ⟨V', hI', hv1, g1, g2, ok1, okT1⟩)
    · have hc0 : c0 = 0 := hk1.symm.trans cz
      have e1 : o1 = if r = 0 then 0 else 1 := ho1 hc0
      have e2 := g4 hc0
      refine J_aload_n (pc := 373) C dL_law_373 rfl ?_
      refine J_iconst (pc := 374) C dL_law_374 ?_
      refine J_oald (pc := 375) C dL_law_375 ?_
      refine J_iload (pc := 376) C dL_law_376 rfl ?_
      refine J_if_eq (pc := 378) (tgt := 385) C dL_law_378 (by decide) hq2 (fun cb => ?_) (fun cb => ?_)
      · have e3 : o1 = 0 := by rw [e1, if_pos (e2.symm.trans cb)]
        refine J_lconst (pc := 385) C dL_law_385 ?_
        refine J_lcmp_eq (pc := 386) (tgt := 392) C dL_law_386 dL_law_387 (by decide) (by rw [e3]; decide) (by decide) (fun _ => ?_) (fun cb => absurd e3 cb)
        refine J_goto (pc := 392) (tgt := 1809) C dL_law_392 (by decide) ?_
        refine J_widen (k1 := k + 20) (n1 := n + 200) (by show k + 8 + 0 + 0 ≤ k + 20; omega) (by show n + 60 + 0 + 0 ≤ n + 200; omega) ?_
        exact J_sub (L1 := LH G b i) ⟨rfl, ⟨rfl, ⟨rfl, ⟨rfl, ⟨rfl, trivial⟩⟩⟩⟩⟩ (kk (S1, o1, T2) ⟨V', hI', hv1, g1, g2, ok1, okT1⟩)
      · have e3 : o1 = 1 := by rw [e1, if_neg (fun z => cb (e2.trans z))]
        refine J_lconst (pc := 381) C dL_law_381 ?_
        refine J_goto (pc := 382) (tgt := 386) C dL_law_382 (by decide) ?_
        refine J_lcmp_eq (pc := 386) (tgt := 392) C dL_law_386 dL_law_387 (by decide) (by rw [e3]; decide) (by decide) (fun _ => ?_) (fun cb => absurd e3 cb)
        refine J_goto (pc := 392) (tgt := 1809) C dL_law_392 (by decide) ?_
        refine J_widen (k1 := k + 20) (n1 := n + 200) (by show k + 8 + 0 + 0 ≤ k + 20; omega) (by show n + 60 + 0 + 0 ≤ n + 200; omega) ?_
        exact J_sub (L1 := LH G b i) ⟨rfl, ⟨rfl, ⟨rfl, ⟨rfl, ⟨rfl, trivial⟩⟩⟩⟩⟩ (kk (S1, o1, T2) ⟨V', hI', hv1, g1, g2, ok1, okT1⟩)
set_option maxRecDepth 100000 in
set_option maxHeartbeats 8000000 in
theorem lc_3 (hh : List (Nat × Nat × Nat × Nat)) : Case hh 395 := by
  intro p l e s m args below meth c G A Q b Ls xs i k n σ X hi hk hn hJ kk
  obtain ⟨V, hI, hS, hT, hb, oS, oT⟩ := hJ
  obtain ⟨S, o, T⟩ := σ
  have C := X.1
  have hS : vw S = V := hS
  have hT : cs T = V := hT
  have hb : Tb T := hb
  have oS : okC S := oS
  have oT : okM T := oT
  obtain ⟨c0, r, V', hI', h0, h1, hC, hR⟩ := pr_member hI (sv xs (i + 1)) (sv xs (i + 2)) (sv xs (i + 3))
  have h1 : c0 ≤ 3 := h1
  have MC := ct_L_member (o := o) (r := r) (r_sv xs (i + 1)) (r_sv xs (i + 2)) (r_sv xs (i + 3)) ⟨h0, h1⟩ (hC S hS)
  have MR := hR T hT hb (fun q T1 => cs T1 = V' ∧ Tb T1 ∧ T1 0 0 = c0 ∧ (c0 = 0 → q = r)) (fun _ _ => False) (fun T1 r1 g1 g2 g3 g4 => ⟨g1, g2, g3, g4⟩) (r_sv xs (i + 1)) (r_sv xs (i + 2)) (r_sv xs (i + 3))
  refine J_aload_n (pc := 395) C dL_law_395 rfl ?_
  refine J_aload_n (pc := 396) C dL_law_396 rfl ?_
  refine J_iload (pc := 397) C dL_law_397 rfl ?_
  refine J_iconst (pc := 399) C dL_law_399 ?_
  refine J_iadd (pc := 400) C dL_law_400 ?_
  refine J_sld (pc := 401) X dL_law_401 ⟨by omega, by omega⟩ ?_
  refine J_aload_n (pc := 402) C dL_law_402 rfl ?_
  refine J_iload (pc := 403) C dL_law_403 rfl ?_
  refine J_iconst (pc := 405) C dL_law_405 ?_
  refine J_iadd (pc := 406) C dL_law_406 ?_
  refine J_sld (pc := 407) X dL_law_407 ⟨by omega, by omega⟩ ?_
  refine J_aload_n (pc := 408) C dL_law_408 rfl ?_
  refine J_iload (pc := 409) C dL_law_409 rfl ?_
  refine J_iconst (pc := 411) C dL_law_411 ?_
  refine J_iadd (pc := 412) C dL_law_412 ?_
  refine J_sld (pc := 413) X dL_law_413 ⟨by omega, by omega⟩ ?_
  refine J_aload_n (pc := 414) C dL_law_414 rfl ?_
  refine J_e1 (pc := 415) C (emb_LX G S o T) (J_eSX (pc := 415) X MC dL_law_415 rfl rfl (vx_cwSW 5 C.1.2.2.2.2 gL_law_L_member rfl rfl rfl (by decide +kernel) ⟨Nat.le_of_ble_eq_true rfl, Nat.le_of_ble_eq_true rfl⟩) oS (Nat.le_of_ble_eq_true rfl) ⟨by show k + 4 ≤ 601024; omega, by show n + 24 ≤ 7293034; omega⟩) (fun N τ _ q => q.elim) (fun q1 u hq1 ok1 hu => ?_)
  obtain ⟨S1, o1⟩ := u
  obtain ⟨hk1, hv1, ho1⟩ := hu
  have hv1 : vw S1 = V' := hv1
  have ok1 : okC S1 := ok1
  refine J_widen (k1 := k + 8) (n1 := n + 60) (by show k + 4 ≤ k + 8; omega) (by show n + 24 ≤ n + 60; omega) ?_
  show J wL 7 room_1 p l e s m args below meth c G A Q _ _ (S1, o1, T) _ _ _
  refine J_istore (pc := 418) C dL_law_418 (by decide) ?_
  refine J_aload_n (pc := 420) C dL_law_420 rfl ?_
  refine J_aload_n (pc := 421) C dL_law_421 rfl ?_
  refine J_iload (pc := 422) C dL_law_422 rfl ?_
  refine J_iconst (pc := 424) C dL_law_424 ?_
  refine J_iadd (pc := 425) C dL_law_425 ?_
  refine J_sld (pc := 426) X dL_law_426 ⟨by omega, by omega⟩ ?_
  refine J_aload_n (pc := 427) C dL_law_427 rfl ?_
  refine J_iload (pc := 428) C dL_law_428 rfl ?_
  refine J_iconst (pc := 430) C dL_law_430 ?_
  refine J_iadd (pc := 431) C dL_law_431 ?_
  refine J_sld (pc := 432) X dL_law_432 ⟨by omega, by omega⟩ ?_
  refine J_aload_n (pc := 433) C dL_law_433 rfl ?_
  refine J_iload (pc := 434) C dL_law_434 rfl ?_
  refine J_iconst (pc := 436) C dL_law_436 ?_
  refine J_iadd (pc := 437) C dL_law_437 ?_
  refine J_sld (pc := 438) X dL_law_438 ⟨by omega, by omega⟩ ?_
  refine J_e1 (pc := 439) C (emb_LM G S1 o1 T) (J_eV (pc := 439) C (emb_LM G S1 o1 T) MR dL_law_439 rfl rfl 0 rfl rfl (cwV 3 C.1.2.2.2.2 gL_law_X7_member rfl rfl rfl (by decide +kernel) ⟨Nat.le_of_ble_eq_true rfl, Nat.le_of_ble_eq_true rfl⟩) oT (Nat.le_of_ble_eq_true rfl) ⟨by show k + 8 + 0 ≤ 601024; omega, by show n + 60 + 0 ≤ 7293034; omega⟩) (fun N τ _ q => q.elim) (fun q2 T1 hq2 okT1 hu => ?_)
  obtain ⟨g1, g2, g3, g4⟩ := hu
  show J wL 7 room_1 p l e s m args below meth c G A Q _ _ (S1, o1, T1) _ _ _
  refine J_istore (pc := 442) C dL_law_442 (by decide) ?_
  refine J_aload_n (pc := 444) C dL_law_444 rfl ?_
  have MT : M_X7_thrown T1 (fun q T2 => q = T1 0 0 ∧ T2 = T1) (fun _ _ => False) := sp_X7_thrown ⟨rfl, rfl⟩
  refine J_e1 (pc := 445) C (emb_LM G S1 o1 T1) (J_eV (pc := 445) C (emb_LM G S1 o1 T1) MT dL_law_445 rfl rfl 0 rfl rfl (cwV 0 C.1.2.2.2.2 gL_law_X7_thrown rfl rfl rfl (by decide +kernel) ⟨Nat.le_of_ble_eq_true rfl, Nat.le_of_ble_eq_true rfl⟩) okT1 (Nat.le_of_ble_eq_true rfl) ⟨by show k + 8 + 0 + 0 ≤ 601024; omega, by show n + 60 + 0 + 0 ≤ 7293034; omega⟩) (fun N τ _ q => q.elim) (fun q3 T2 hq3 okT2 hu => ?_)
  obtain ⟨hq3v, hT2⟩ := hu
  subst hT2
  have hq3c : q3 = c0 := hq3v.trans g3
  show J wL 7 room_1 p l e s m args below meth c G A Q _ _ (S1, o1, T2) _ _ _
  refine J_iload (pc := 448) C dL_law_448 rfl ?_
  refine J_icmp_eq (pc := 450) (tgt := 455) C dL_law_450 (by decide) hq3 hq1 (fun _ => ?_) (fun cb => absurd (hq3c.trans hk1.symm) cb)
  refine J_iload (pc := 455) C dL_law_455 rfl ?_
  refine J_if_ne (pc := 457) (tgt := 472) C dL_law_457 (by decide) hq1 (fun _ => ?_) (fun cz => ?_)
  · refine J_goto (pc := 472) (tgt := 1809) C dL_law_472 (by decide) ?_
    refine J_widen (k1 := k + 20) (n1 := n + 200) (by show k + 8 + 0 + 0 ≤ k + 20; omega) (by show n + 60 + 0 + 0 ≤ n + 200; omega) ?_
    exact J_sub (L1 := LH G b i) ⟨rfl, ⟨rfl, ⟨rfl, ⟨rfl, ⟨rfl, trivial⟩⟩⟩⟩⟩ (kk (S1, o1, T2) ⟨V', hI', hv1, g1, g2, ok1, okT1⟩)
  · have hc0 : c0 = 0 := hk1.symm.trans cz
    have e1 : o1 = r := ho1 hc0
    have e2 := g4 hc0
    refine J_aload_n (pc := 460) C dL_law_460 rfl ?_
    refine J_iconst (pc := 461) C dL_law_461 ?_
    refine J_oald (pc := 462) C dL_law_462 ?_
    refine J_iload (pc := 463) C dL_law_463 rfl ?_
    refine J_i2l (pc := 465) C dL_law_465 hq2 ?_
    refine J_lcmp_eq (pc := 466) (tgt := 472) C dL_law_466 dL_law_467 (by decide) (by rw [e1, ← e2]; exact r32_64 hq2) (r32_64 hq2) (fun _ => ?_) (fun cb => absurd (e1.trans e2.symm) cb)
    refine J_goto (pc := 472) (tgt := 1809) C dL_law_472 (by decide) ?_
    refine J_widen (k1 := k + 20) (n1 := n + 200) (by show k + 8 + 0 + 0 ≤ k + 20; omega) (by show n + 60 + 0 + 0 ≤ n + 200; omega) ?_
    exact J_sub (L1 := LH G b i) ⟨rfl, ⟨rfl, ⟨rfl, ⟨rfl, ⟨rfl, trivial⟩⟩⟩⟩⟩ (kk (S1, o1, T2) ⟨V', hI', hv1, g1, g2, ok1, okT1⟩)
set_option maxRecDepth 100000 in
set_option maxHeartbeats 8000000 in
theorem lc_4 (hh : List (Nat × Nat × Nat × Nat)) : Case hh 475 := by
  intro p l e s m args below meth c G A Q b Ls xs i k n σ X hi hk hn hJ kk
  obtain ⟨V, hI, hS, hT, hb, oS, oT⟩ := hJ
  obtain ⟨S, o, T⟩ := σ
  have C := X.1
  have hS : vw S = V := hS
  have hT : cs T = V := hT
  have hb : Tb T := hb
  have oS : okC S := oS
  have oT : okM T := oT
  obtain ⟨c0, r, V', hI', h0, h1, hC, hR⟩ := pr_remove hI (sv xs (i + 1))
  have h1 : c0 ≤ 1 := h1
  have MC := ct_L_remove (o := o) (r := r) (r_sv xs (i + 1)) ⟨h0, h1⟩ (hC S hS)
  have MR := hR T hT hb (fun q T1 => cs T1 = V' ∧ Tb T1 ∧ T1 0 0 = c0 ∧ (c0 = 0 → q = r)) (fun _ _ => False) (fun T1 r1 g1 g2 g3 g4 => ⟨g1, g2, g3, g4⟩) (r_sv xs (i + 1))
  refine J_aload_n (pc := 475) C dL_law_475 rfl ?_
  refine J_aload_n (pc := 476) C dL_law_476 rfl ?_
  refine J_iload (pc := 477) C dL_law_477 rfl ?_
  refine J_iconst (pc := 479) C dL_law_479 ?_
  refine J_iadd (pc := 480) C dL_law_480 ?_
  refine J_sld (pc := 481) X dL_law_481 ⟨by omega, by omega⟩ ?_
  refine J_aload_n (pc := 482) C dL_law_482 rfl ?_
  refine J_e1 (pc := 483) C (emb_LX G S o T) (J_eSX (pc := 483) X MC dL_law_483 rfl rfl (vx_cwSW 3 C.1.2.2.2.2 gL_law_L_remove rfl rfl rfl (by decide +kernel) ⟨Nat.le_of_ble_eq_true rfl, Nat.le_of_ble_eq_true rfl⟩) oS (Nat.le_of_ble_eq_true rfl) ⟨by show k + 1 ≤ 601024; omega, by show n + 6 ≤ 7293034; omega⟩) (fun N τ _ q => q.elim) (fun q1 u hq1 ok1 hu => ?_)
  obtain ⟨S1, o1⟩ := u
  obtain ⟨hk1, hv1, ho1⟩ := hu
  have hv1 : vw S1 = V' := hv1
  have ok1 : okC S1 := ok1
  refine J_widen (k1 := k + 8) (n1 := n + 60) (by show k + 1 ≤ k + 8; omega) (by show n + 6 ≤ n + 60; omega) ?_
  show J wL 7 room_1 p l e s m args below meth c G A Q _ _ (S1, o1, T) _ _ _
  refine J_istore (pc := 486) C dL_law_486 (by decide) ?_
  refine J_aload_n (pc := 488) C dL_law_488 rfl ?_
  refine J_aload_n (pc := 489) C dL_law_489 rfl ?_
  refine J_iload (pc := 490) C dL_law_490 rfl ?_
  refine J_iconst (pc := 492) C dL_law_492 ?_
  refine J_iadd (pc := 493) C dL_law_493 ?_
  refine J_sld (pc := 494) X dL_law_494 ⟨by omega, by omega⟩ ?_
  refine J_e1 (pc := 495) C (emb_LM G S1 o1 T) (J_eV (pc := 495) C (emb_LM G S1 o1 T) MR dL_law_495 rfl rfl 0 rfl rfl (cwV 1 C.1.2.2.2.2 gL_law_X7_remove rfl rfl rfl (by decide +kernel) ⟨Nat.le_of_ble_eq_true rfl, Nat.le_of_ble_eq_true rfl⟩) oT (Nat.le_of_ble_eq_true rfl) ⟨by show k + 8 + 0 ≤ 601024; omega, by show n + 60 + 0 ≤ 7293034; omega⟩) (fun N τ _ q => q.elim) (fun q2 T1 hq2 okT1 hu => ?_)
  obtain ⟨g1, g2, g3, g4⟩ := hu
  show J wL 7 room_1 p l e s m args below meth c G A Q _ _ (S1, o1, T1) _ _ _
  refine J_istore (pc := 498) C dL_law_498 (by decide) ?_
  refine J_aload_n (pc := 500) C dL_law_500 rfl ?_
  have MT : M_X7_thrown T1 (fun q T2 => q = T1 0 0 ∧ T2 = T1) (fun _ _ => False) := sp_X7_thrown ⟨rfl, rfl⟩
  refine J_e1 (pc := 501) C (emb_LM G S1 o1 T1) (J_eV (pc := 501) C (emb_LM G S1 o1 T1) MT dL_law_501 rfl rfl 0 rfl rfl (cwV 0 C.1.2.2.2.2 gL_law_X7_thrown rfl rfl rfl (by decide +kernel) ⟨Nat.le_of_ble_eq_true rfl, Nat.le_of_ble_eq_true rfl⟩) okT1 (Nat.le_of_ble_eq_true rfl) ⟨by show k + 8 + 0 + 0 ≤ 601024; omega, by show n + 60 + 0 + 0 ≤ 7293034; omega⟩) (fun N τ _ q => q.elim) (fun q3 T2 hq3 okT2 hu => ?_)
  obtain ⟨hq3v, hT2⟩ := hu
  subst hT2
  have hq3c : q3 = c0 := hq3v.trans g3
  show J wL 7 room_1 p l e s m args below meth c G A Q _ _ (S1, o1, T2) _ _ _
  refine J_iload (pc := 504) C dL_law_504 rfl ?_
  refine J_icmp_eq (pc := 506) (tgt := 511) C dL_law_506 (by decide) hq3 hq1 (fun _ => ?_) (fun cb => absurd (hq3c.trans hk1.symm) cb)
  refine J_iload (pc := 511) C dL_law_511 rfl ?_
  refine J_if_ne (pc := 513) (tgt := 528) C dL_law_513 (by decide) hq1 (fun _ => ?_) (fun cz => ?_)
  · refine J_goto (pc := 528) (tgt := 1809) C dL_law_528 (by decide) ?_
    refine J_widen (k1 := k + 20) (n1 := n + 200) (by show k + 8 + 0 + 0 ≤ k + 20; omega) (by show n + 60 + 0 + 0 ≤ n + 200; omega) ?_
    exact J_sub (L1 := LH G b i) ⟨rfl, ⟨rfl, ⟨rfl, ⟨rfl, ⟨rfl, trivial⟩⟩⟩⟩⟩ (kk (S1, o1, T2) ⟨V', hI', hv1, g1, g2, ok1, okT1⟩)
  · have hc0 : c0 = 0 := hk1.symm.trans cz
    have e1 : o1 = r := ho1 hc0
    have e2 := g4 hc0
    refine J_aload_n (pc := 516) C dL_law_516 rfl ?_
    refine J_iconst (pc := 517) C dL_law_517 ?_
    refine J_oald (pc := 518) C dL_law_518 ?_
    refine J_iload (pc := 519) C dL_law_519 rfl ?_
    refine J_i2l (pc := 521) C dL_law_521 hq2 ?_
    refine J_lcmp_eq (pc := 522) (tgt := 528) C dL_law_522 dL_law_523 (by decide) (by rw [e1, ← e2]; exact r32_64 hq2) (r32_64 hq2) (fun _ => ?_) (fun cb => absurd (e1.trans e2.symm) cb)
    refine J_goto (pc := 528) (tgt := 1809) C dL_law_528 (by decide) ?_
    refine J_widen (k1 := k + 20) (n1 := n + 200) (by show k + 8 + 0 + 0 ≤ k + 20; omega) (by show n + 60 + 0 + 0 ≤ n + 200; omega) ?_
    exact J_sub (L1 := LH G b i) ⟨rfl, ⟨rfl, ⟨rfl, ⟨rfl, ⟨rfl, trivial⟩⟩⟩⟩⟩ (kk (S1, o1, T2) ⟨V', hI', hv1, g1, g2, ok1, okT1⟩)
set_option maxRecDepth 100000 in
set_option maxHeartbeats 8000000 in
theorem lc_5 (hh : List (Nat × Nat × Nat × Nat)) : Case hh 531 := by
  intro p l e s m args below meth c G A Q b Ls xs i k n σ X hi hk hn hJ kk
  obtain ⟨V, hI, hS, hT, hb, oS, oT⟩ := hJ
  obtain ⟨S, o, T⟩ := σ
  have C := X.1
  have hS : vw S = V := hS
  have hT : cs T = V := hT
  have hb : Tb T := hb
  have oS : okC S := oS
  have oT : okM T := oT
  obtain ⟨c0, r, V', hI', h0, h1, hC, hR⟩ := pr_rank hI
  have h1 : c0 ≤ 0 := h1
  have hc0 : c0 = 0 := by omega
  subst hc0
  have MC := hC S hS (fun q S1 => q = r ∧ vw S1 = V') (fun _ _ => False) (fun _ S1 h => ⟨rfl, h⟩) (fun z => absurd rfl z)
  have MR := hR T hT hb (fun q T1 => cs T1 = V' ∧ Tb T1 ∧ T1 0 0 = 0 ∧ (0 = 0 → q = r)) (fun _ _ => False) (fun T1 r1 g1 g2 g3 g4 => ⟨g1, g2, g3, g4⟩)
  refine J_aload_n (pc := 531) C dL_law_531 rfl ?_
  refine J_e1 (pc := 532) C (emb_LC G S o T) (J_eV (pc := 532) C (emb_LC G S o T) MC dL_law_532 rfl rfl 0 rfl rfl (cwV 0 C.1.2.2.2.2 gL_law_X6_rank rfl rfl rfl (by decide +kernel) ⟨Nat.le_of_ble_eq_true rfl, Nat.le_of_ble_eq_true rfl⟩) oS (Nat.le_of_ble_eq_true rfl) ⟨by show k + 0 ≤ 601024; omega, by show n + 0 ≤ 7293034; omega⟩) (fun N τ _ q => q.elim) (fun q1 S1 hq1 ok1 hu => ?_)
  obtain ⟨hk1, hv1⟩ := hu
  show J wL 7 room_1 p l e s m args below meth c G A Q _ _ (S1, o, T) _ _ _
  refine J_aload_n (pc := 535) C dL_law_535 rfl ?_
  refine J_e1 (pc := 536) C (emb_LM G S1 o T) (J_eV (pc := 536) C (emb_LM G S1 o T) MR dL_law_536 rfl rfl 0 rfl rfl (cwV 0 C.1.2.2.2.2 gL_law_X7_rank rfl rfl rfl (by decide +kernel) ⟨Nat.le_of_ble_eq_true rfl, Nat.le_of_ble_eq_true rfl⟩) oT (Nat.le_of_ble_eq_true rfl) ⟨by show k + 0 + 0 ≤ 601024; omega, by show n + 0 + 0 ≤ 7293034; omega⟩) (fun N τ _ q => q.elim) (fun q2 T1 hq2 okT1 hu => ?_)
  obtain ⟨g1, g2, g3, g4⟩ := hu
  show J wL 7 room_1 p l e s m args below meth c G A Q _ _ (S1, o, T1) _ _ _
  refine J_icmp_eq (pc := 539) (tgt := 1809) C dL_law_539 (by decide) hq1 hq2 (fun _ => ?_) (fun cb => absurd (hk1.trans (g4 rfl).symm) cb)
  refine J_widen (k1 := k + 20) (n1 := n + 200) (by show k + 0 + 0 ≤ k + 20; omega) (by show n + 0 + 0 ≤ n + 200; omega) ?_
  exact J_sub (L1 := LH G b i) ⟨rfl, ⟨rfl, ⟨rfl, ⟨rfl, ⟨rfl, trivial⟩⟩⟩⟩⟩ (kk (S1, o, T1) ⟨V', hI', hv1, g1, g2, ok1, okT1⟩)
set_option maxRecDepth 100000 in
set_option maxHeartbeats 8000000 in
theorem lc_6 (hh : List (Nat × Nat × Nat × Nat)) : Case hh 544 := by
  intro p l e s m args below meth c G A Q b Ls xs i k n σ X hi hk hn hJ kk
  obtain ⟨V, hI, hS, hT, hb, oS, oT⟩ := hJ
  obtain ⟨S, o, T⟩ := σ
  have C := X.1
  have hS : vw S = V := hS
  have hT : cs T = V := hT
  have hb : Tb T := hb
  have oS : okC S := oS
  have oT : okM T := oT
  obtain ⟨c0, r, V', hI', h0, h1, hC, hR⟩ := pr_motions hI
  have h1 : c0 ≤ 0 := h1
  have hc0 : c0 = 0 := by omega
  subst hc0
  have MC := hC S hS (fun q S1 => q = r ∧ vw S1 = V') (fun _ _ => False) (fun _ S1 h => ⟨rfl, h⟩) (fun z => absurd rfl z)
  have MR := hR T hT hb (fun q T1 => cs T1 = V' ∧ Tb T1 ∧ T1 0 0 = 0 ∧ (0 = 0 → q = r)) (fun _ _ => False) (fun T1 r1 g1 g2 g3 g4 => ⟨g1, g2, g3, g4⟩)
  refine J_aload_n (pc := 544) C dL_law_544 rfl ?_
  refine J_e1 (pc := 545) C (emb_LC G S o T) (J_eV (pc := 545) C (emb_LC G S o T) MC dL_law_545 rfl rfl 0 rfl rfl (cwV 0 C.1.2.2.2.2 gL_law_X6_motions rfl rfl rfl (by decide +kernel) ⟨Nat.le_of_ble_eq_true rfl, Nat.le_of_ble_eq_true rfl⟩) oS (Nat.le_of_ble_eq_true rfl) ⟨by show k + 0 ≤ 601024; omega, by show n + 0 ≤ 7293034; omega⟩) (fun N τ _ q => q.elim) (fun q1 S1 hq1 ok1 hu => ?_)
  obtain ⟨hk1, hv1⟩ := hu
  show J wL 7 room_1 p l e s m args below meth c G A Q _ _ (S1, o, T) _ _ _
  refine J_aload_n (pc := 548) C dL_law_548 rfl ?_
  refine J_e1 (pc := 549) C (emb_LM G S1 o T) (J_eV (pc := 549) C (emb_LM G S1 o T) MR dL_law_549 rfl rfl 0 rfl rfl (cwV 0 C.1.2.2.2.2 gL_law_X7_motions rfl rfl rfl (by decide +kernel) ⟨Nat.le_of_ble_eq_true rfl, Nat.le_of_ble_eq_true rfl⟩) oT (Nat.le_of_ble_eq_true rfl) ⟨by show k + 0 + 0 ≤ 601024; omega, by show n + 0 + 0 ≤ 7293034; omega⟩) (fun N τ _ q => q.elim) (fun q2 T1 hq2 okT1 hu => ?_)
  obtain ⟨g1, g2, g3, g4⟩ := hu
  show J wL 7 room_1 p l e s m args below meth c G A Q _ _ (S1, o, T1) _ _ _
  refine J_icmp_eq (pc := 552) (tgt := 1809) C dL_law_552 (by decide) hq1 hq2 (fun _ => ?_) (fun cb => absurd (hk1.trans (g4 rfl).symm) cb)
  refine J_widen (k1 := k + 20) (n1 := n + 200) (by show k + 0 + 0 ≤ k + 20; omega) (by show n + 0 + 0 ≤ n + 200; omega) ?_
  exact J_sub (L1 := LH G b i) ⟨rfl, ⟨rfl, ⟨rfl, ⟨rfl, ⟨rfl, trivial⟩⟩⟩⟩⟩ (kk (S1, o, T1) ⟨V', hI', hv1, g1, g2, ok1, okT1⟩)
set_option maxRecDepth 100000 in
set_option maxHeartbeats 8000000 in
theorem lc_7 (hh : List (Nat × Nat × Nat × Nat)) : Case hh 557 := by
  intro p l e s m args below meth c G A Q b Ls xs i k n σ X hi hk hn hJ kk
  obtain ⟨V, hI, hS, hT, hb, oS, oT⟩ := hJ
  obtain ⟨S, o, T⟩ := σ
  have C := X.1
  have hS : vw S = V := hS
  have hT : cs T = V := hT
  have hb : Tb T := hb
  have oS : okC S := oS
  have oT : okM T := oT
  obtain ⟨c0, r, V', hI', h0, h1, hC, hR⟩ := pr_stresses hI
  have h1 : c0 ≤ 0 := h1
  have hc0 : c0 = 0 := by omega
  subst hc0
  have MC := hC S hS (fun q S1 => q = r ∧ vw S1 = V') (fun _ _ => False) (fun _ S1 h => ⟨rfl, h⟩) (fun z => absurd rfl z)
  have MR := hR T hT hb (fun q T1 => cs T1 = V' ∧ Tb T1 ∧ T1 0 0 = 0 ∧ (0 = 0 → q = r)) (fun _ _ => False) (fun T1 r1 g1 g2 g3 g4 => ⟨g1, g2, g3, g4⟩)
  refine J_aload_n (pc := 557) C dL_law_557 rfl ?_
  refine J_e1 (pc := 558) C (emb_LC G S o T) (J_eV (pc := 558) C (emb_LC G S o T) MC dL_law_558 rfl rfl 0 rfl rfl (cwV 0 C.1.2.2.2.2 gL_law_X6_stresses rfl rfl rfl (by decide +kernel) ⟨Nat.le_of_ble_eq_true rfl, Nat.le_of_ble_eq_true rfl⟩) oS (Nat.le_of_ble_eq_true rfl) ⟨by show k + 0 ≤ 601024; omega, by show n + 0 ≤ 7293034; omega⟩) (fun N τ _ q => q.elim) (fun q1 S1 hq1 ok1 hu => ?_)
  obtain ⟨hk1, hv1⟩ := hu
  show J wL 7 room_1 p l e s m args below meth c G A Q _ _ (S1, o, T) _ _ _
  refine J_aload_n (pc := 561) C dL_law_561 rfl ?_
  refine J_e1 (pc := 562) C (emb_LM G S1 o T) (J_eV (pc := 562) C (emb_LM G S1 o T) MR dL_law_562 rfl rfl 0 rfl rfl (cwV 0 C.1.2.2.2.2 gL_law_X7_stresses rfl rfl rfl (by decide +kernel) ⟨Nat.le_of_ble_eq_true rfl, Nat.le_of_ble_eq_true rfl⟩) oT (Nat.le_of_ble_eq_true rfl) ⟨by show k + 0 + 0 ≤ 601024; omega, by show n + 0 + 0 ≤ 7293034; omega⟩) (fun N τ _ q => q.elim) (fun q2 T1 hq2 okT1 hu => ?_)
  obtain ⟨g1, g2, g3, g4⟩ := hu
  show J wL 7 room_1 p l e s m args below meth c G A Q _ _ (S1, o, T1) _ _ _
  refine J_icmp_eq (pc := 565) (tgt := 1809) C dL_law_565 (by decide) hq1 hq2 (fun _ => ?_) (fun cb => absurd (hk1.trans (g4 rfl).symm) cb)
  refine J_widen (k1 := k + 20) (n1 := n + 200) (by show k + 0 + 0 ≤ k + 20; omega) (by show n + 0 + 0 ≤ n + 200; omega) ?_
  exact J_sub (L1 := LH G b i) ⟨rfl, ⟨rfl, ⟨rfl, ⟨rfl, ⟨rfl, trivial⟩⟩⟩⟩⟩ (kk (S1, o, T1) ⟨V', hI', hv1, g1, g2, ok1, okT1⟩)
set_option maxRecDepth 100000 in
set_option maxHeartbeats 8000000 in
theorem lc_8 (hh : List (Nat × Nat × Nat × Nat)) : Case hh 570 := by
  intro p l e s m args below meth c G A Q b Ls xs i k n σ X hi hk hn hJ kk
  obtain ⟨V, hI, hS, hT, hb, oS, oT⟩ := hJ
  obtain ⟨S, o, T⟩ := σ
  have C := X.1
  have hS : vw S = V := hS
  have hT : cs T = V := hT
  have hb : Tb T := hb
  have oS : okC S := oS
  have oT : okM T := oT
  obtain ⟨c0, r, V', hI', h0, h1, hC, hR⟩ := pr_isRedundant hI (sv xs (i + 1))
  have h1 : c0 ≤ 1 := h1
  have MC := ct_L_isRedundant (o := o) (r := r) (r_sv xs (i + 1)) ⟨h0, h1⟩ (hC S hS)
  have MR := hR T hT hb (fun q T1 => cs T1 = V' ∧ Tb T1 ∧ T1 0 0 = c0 ∧ (c0 = 0 → q = r)) (fun _ _ => False) (fun T1 r1 g1 g2 g3 g4 => ⟨g1, g2, g3, g4⟩) (r_sv xs (i + 1))
  refine J_aload_n (pc := 570) C dL_law_570 rfl ?_
  refine J_aload_n (pc := 571) C dL_law_571 rfl ?_
  refine J_iload (pc := 572) C dL_law_572 rfl ?_
  refine J_iconst (pc := 574) C dL_law_574 ?_
  refine J_iadd (pc := 575) C dL_law_575 ?_
  refine J_sld (pc := 576) X dL_law_576 ⟨by omega, by omega⟩ ?_
  refine J_aload_n (pc := 577) C dL_law_577 rfl ?_
  refine J_e1 (pc := 578) C (emb_LX G S o T) (J_eSX (pc := 578) X MC dL_law_578 rfl rfl (vx_cwSW 3 C.1.2.2.2.2 gL_law_L_isRedundant rfl rfl rfl (by decide +kernel) ⟨Nat.le_of_ble_eq_true rfl, Nat.le_of_ble_eq_true rfl⟩) oS (Nat.le_of_ble_eq_true rfl) ⟨by show k + 1 ≤ 601024; omega, by show n + 6 ≤ 7293034; omega⟩) (fun N τ _ q => q.elim) (fun q1 u hq1 ok1 hu => ?_)
  obtain ⟨S1, o1⟩ := u
  obtain ⟨hk1, hv1, ho1⟩ := hu
  have hv1 : vw S1 = V' := hv1
  have ok1 : okC S1 := ok1
  refine J_widen (k1 := k + 8) (n1 := n + 60) (by show k + 1 ≤ k + 8; omega) (by show n + 6 ≤ n + 60; omega) ?_
  show J wL 7 room_1 p l e s m args below meth c G A Q _ _ (S1, o1, T) _ _ _
  refine J_istore (pc := 581) C dL_law_581 (by decide) ?_
  refine J_aload_n (pc := 583) C dL_law_583 rfl ?_
  refine J_aload_n (pc := 584) C dL_law_584 rfl ?_
  refine J_iload (pc := 585) C dL_law_585 rfl ?_
  refine J_iconst (pc := 587) C dL_law_587 ?_
  refine J_iadd (pc := 588) C dL_law_588 ?_
  refine J_sld (pc := 589) X dL_law_589 ⟨by omega, by omega⟩ ?_
  refine J_e1 (pc := 590) C (emb_LM G S1 o1 T) (J_eV (pc := 590) C (emb_LM G S1 o1 T) MR dL_law_590 rfl rfl 0 rfl rfl (cwV 1 C.1.2.2.2.2 gL_law_X7_isRedundant rfl rfl rfl (by decide +kernel) ⟨Nat.le_of_ble_eq_true rfl, Nat.le_of_ble_eq_true rfl⟩) oT (Nat.le_of_ble_eq_true rfl) ⟨by show k + 8 + 0 ≤ 601024; omega, by show n + 60 + 0 ≤ 7293034; omega⟩) (fun N τ _ q => q.elim) (fun q2 T1 hq2 okT1 hu => ?_)
  obtain ⟨g1, g2, g3, g4⟩ := hu
  show J wL 7 room_1 p l e s m args below meth c G A Q _ _ (S1, o1, T1) _ _ _
  refine J_istore (pc := 593) C dL_law_593 (by decide) ?_
  refine J_aload_n (pc := 595) C dL_law_595 rfl ?_
  have MT : M_X7_thrown T1 (fun q T2 => q = T1 0 0 ∧ T2 = T1) (fun _ _ => False) := sp_X7_thrown ⟨rfl, rfl⟩
  refine J_e1 (pc := 596) C (emb_LM G S1 o1 T1) (J_eV (pc := 596) C (emb_LM G S1 o1 T1) MT dL_law_596 rfl rfl 0 rfl rfl (cwV 0 C.1.2.2.2.2 gL_law_X7_thrown rfl rfl rfl (by decide +kernel) ⟨Nat.le_of_ble_eq_true rfl, Nat.le_of_ble_eq_true rfl⟩) okT1 (Nat.le_of_ble_eq_true rfl) ⟨by show k + 8 + 0 + 0 ≤ 601024; omega, by show n + 60 + 0 + 0 ≤ 7293034; omega⟩) (fun N τ _ q => q.elim) (fun q3 T2 hq3 okT2 hu => ?_)
  obtain ⟨hq3v, hT2⟩ := hu
  subst hT2
  have hq3c : q3 = c0 := hq3v.trans g3
  show J wL 7 room_1 p l e s m args below meth c G A Q _ _ (S1, o1, T2) _ _ _
  refine J_iload (pc := 599) C dL_law_599 rfl ?_
  refine J_icmp_eq (pc := 601) (tgt := 606) C dL_law_601 (by decide) hq3 hq1 (fun _ => ?_) (fun cb => absurd (hq3c.trans hk1.symm) cb)
  refine J_iload (pc := 606) C dL_law_606 rfl ?_
  refine J_if_ne (pc := 608) (tgt := 630) C dL_law_608 (by decide) hq1 (fun _ => ?_) (fun cz => ?_)
  · refine J_goto (pc := 630) (tgt := 1809) C dL_law_630 (by decide) ?_
    refine J_widen (k1 := k + 20) (n1 := n + 200) (by show k + 8 + 0 + 0 ≤ k + 20; omega) (by show n + 60 + 0 + 0 ≤ n + 200; omega) ?_
    exact J_sub (L1 := LH G b i) ⟨rfl, ⟨rfl, ⟨rfl, ⟨rfl, ⟨rfl, trivial⟩⟩⟩⟩⟩ (kk (S1, o1, T2) ⟨V', hI', hv1, g1, g2, ok1, okT1⟩)
  · have hc0 : c0 = 0 := hk1.symm.trans cz
    have e1 : o1 = if r = 0 then 0 else 1 := ho1 hc0
    have e2 := g4 hc0
    refine J_aload_n (pc := 611) C dL_law_611 rfl ?_
    refine J_iconst (pc := 612) C dL_law_612 ?_
    refine J_oald (pc := 613) C dL_law_613 ?_
    refine J_iload (pc := 614) C dL_law_614 rfl ?_
    refine J_if_eq (pc := 616) (tgt := 623) C dL_law_616 (by decide) hq2 (fun cb => ?_) (fun cb => ?_)
    · have e3 : o1 = 0 := by rw [e1, if_pos (e2.symm.trans cb)]
      refine J_lconst (pc := 623) C dL_law_623 ?_
      refine J_lcmp_eq (pc := 624) (tgt := 630) C dL_law_624 dL_law_625 (by decide) (by rw [e3]; decide) (by decide) (fun _ => ?_) (fun cb => absurd e3 cb)
      refine J_goto (pc := 630) (tgt := 1809) C dL_law_630 (by decide) ?_
      refine J_widen (k1 := k + 20) (n1 := n + 200) (by show k + 8 + 0 + 0 ≤ k + 20; omega) (by show n + 60 + 0 + 0 ≤ n + 200; omega) ?_
      exact J_sub (L1 := LH G b i) ⟨rfl, ⟨rfl, ⟨rfl, ⟨rfl, ⟨rfl, trivial⟩⟩⟩⟩⟩ (kk (S1, o1, T2) ⟨V', hI', hv1, g1, g2, ok1, okT1⟩)
    · have e3 : o1 = 1 := by rw [e1, if_neg (fun z => cb (e2.trans z))]
      refine J_lconst (pc := 619) C dL_law_619 ?_
      refine J_goto (pc := 620) (tgt := 624) C dL_law_620 (by decide) ?_
      refine J_lcmp_eq (pc := 624) (tgt := 630) C dL_law_624 dL_law_625 (by decide) (by rw [e3]; decide) (by decide) (fun _ => ?_) (fun cb => absurd e3 cb)
      refine J_goto (pc := 630) (tgt := 1809) C dL_law_630 (by decide) ?_
      refine J_widen (k1 := k + 20) (n1 := n + 200) (by show k + 8 + 0 + 0 ≤ k + 20; omega) (by show n + 60 + 0 + 0 ≤ n + 200; omega) ?_
      exact J_sub (L1 := LH G b i) ⟨rfl, ⟨rfl, ⟨rfl, ⟨rfl, ⟨rfl, trivial⟩⟩⟩⟩⟩ (kk (S1, o1, T2) ⟨V', hI', hv1, g1, g2, ok1, okT1⟩)
set_option maxRecDepth 100000 in
set_option maxHeartbeats 8000000 in
theorem lc_9 (hh : List (Nat × Nat × Nat × Nat)) : Case hh 633 := by
  intro p l e s m args below meth c G A Q b Ls xs i k n σ X hi hk hn hJ kk
  obtain ⟨V, hI, hS, hT, hb, oS, oT⟩ := hJ
  obtain ⟨S, o, T⟩ := σ
  have C := X.1
  have hS : vw S = V := hS
  have hT : cs T = V := hT
  have hb : Tb T := hb
  have oS : okC S := oS
  have oT : okM T := oT
  by_cases hz : sv xs (i + 3) = 0
  · obtain ⟨c0, r, V', hI', h0, h1, hC, hR⟩ := pr_flex hI (sv xs (i + 1)) (sv xs (i + 2)) 0
    have h1 : c0 ≤ 1 := h1
    have MC := ct_L_flex (o := o) (r := r) (r_sv xs (i + 1)) (r_sv xs (i + 2)) (by decide) ⟨h0, h1⟩ (hC S hS)
    have MR := hR T hT hb (fun q T1 => cs T1 = V' ∧ Tb T1 ∧ T1 0 0 = c0 ∧ (c0 = 0 → q = r)) (fun _ _ => False) (fun T1 r1 g1 g2 g3 g4 => ⟨g1, g2, g3, g4⟩) (r_sv xs (i + 1)) (r_sv xs (i + 2)) (by decide)
    refine J_aload_n (pc := 633) C dL_law_633 rfl ?_
    refine J_aload_n (pc := 634) C dL_law_634 rfl ?_
    refine J_iload (pc := 635) C dL_law_635 rfl ?_
    refine J_iconst (pc := 637) C dL_law_637 ?_
    refine J_iadd (pc := 638) C dL_law_638 ?_
    refine J_sld (pc := 639) X dL_law_639 ⟨by omega, by omega⟩ ?_
    refine J_aload_n (pc := 640) C dL_law_640 rfl ?_
    refine J_iload (pc := 641) C dL_law_641 rfl ?_
    refine J_iconst (pc := 643) C dL_law_643 ?_
    refine J_iadd (pc := 644) C dL_law_644 ?_
    refine J_sld (pc := 645) X dL_law_645 ⟨by omega, by omega⟩ ?_
    refine J_aload_n (pc := 646) C dL_law_646 rfl ?_
    refine J_iload (pc := 647) C dL_law_647 rfl ?_
    refine J_iconst (pc := 649) C dL_law_649 ?_
    refine J_iadd (pc := 650) C dL_law_650 ?_
    refine J_sld (pc := 651) X dL_law_651 ⟨by omega, by omega⟩ ?_
    refine J_if_eq (pc := 652) (tgt := 659) C dL_law_652 (by decide) (r_sv _ _) (fun _ => ?_) (fun cb => absurd hz cb)
    refine J_iconst (pc := 659) C dL_law_659 ?_
    refine J_aload_n (pc := 660) C dL_law_660 rfl ?_
    refine J_e1 (pc := 661) C (emb_LX G S o T) (J_eSX (pc := 661) X MC dL_law_661 rfl rfl (vx_cwSW 5 C.1.2.2.2.2 gL_law_L_flex rfl rfl rfl (by decide +kernel) ⟨Nat.le_of_ble_eq_true rfl, Nat.le_of_ble_eq_true rfl⟩) oS (Nat.le_of_ble_eq_true rfl) ⟨by show k + 2 ≤ 601024; omega, by show n + 12 ≤ 7293034; omega⟩) (fun N τ _ q => q.elim) (fun q1 u hq1 ok1 hu => ?_)
    obtain ⟨S1, o1⟩ := u
    obtain ⟨hk1, hv1, ho1⟩ := hu
    have hv1 : vw S1 = V' := hv1
    have ok1 : okC S1 := ok1
    refine J_widen (k1 := k + 8) (n1 := n + 60) (by show k + 2 ≤ k + 8; omega) (by show n + 12 ≤ n + 60; omega) ?_
    show J wL 7 room_1 p l e s m args below meth c G A Q _ _ (S1, o1, T) _ _ _
    refine J_istore (pc := 664) C dL_law_664 (by decide) ?_
    refine J_aload_n (pc := 666) C dL_law_666 rfl ?_
    refine J_aload_n (pc := 667) C dL_law_667 rfl ?_
    refine J_iload (pc := 668) C dL_law_668 rfl ?_
    refine J_iconst (pc := 670) C dL_law_670 ?_
    refine J_iadd (pc := 671) C dL_law_671 ?_
    refine J_sld (pc := 672) X dL_law_672 ⟨by omega, by omega⟩ ?_
    refine J_aload_n (pc := 673) C dL_law_673 rfl ?_
    refine J_iload (pc := 674) C dL_law_674 rfl ?_
    refine J_iconst (pc := 676) C dL_law_676 ?_
    refine J_iadd (pc := 677) C dL_law_677 ?_
    refine J_sld (pc := 678) X dL_law_678 ⟨by omega, by omega⟩ ?_
    refine J_aload_n (pc := 679) C dL_law_679 rfl ?_
    refine J_iload (pc := 680) C dL_law_680 rfl ?_
    refine J_iconst (pc := 682) C dL_law_682 ?_
    refine J_iadd (pc := 683) C dL_law_683 ?_
    refine J_sld (pc := 684) X dL_law_684 ⟨by omega, by omega⟩ ?_
    refine J_if_eq (pc := 685) (tgt := 692) C dL_law_685 (by decide) (r_sv _ _) (fun _ => ?_) (fun cb => absurd hz cb)
    refine J_iconst (pc := 692) C dL_law_692 ?_
    refine J_e1 (pc := 693) C (emb_LM G S1 o1 T) (J_eV (pc := 693) C (emb_LM G S1 o1 T) MR dL_law_693 rfl rfl 0 rfl rfl (cwV 3 C.1.2.2.2.2 gL_law_X7_flex rfl rfl rfl (by decide +kernel) ⟨Nat.le_of_ble_eq_true rfl, Nat.le_of_ble_eq_true rfl⟩) oT (Nat.le_of_ble_eq_true rfl) ⟨by show k + 8 + 0 ≤ 601024; omega, by show n + 60 + 0 ≤ 7293034; omega⟩) (fun N τ _ q => q.elim) (fun q2 T1 hq2 okT1 hu => ?_)
    obtain ⟨g1, g2, g3, g4⟩ := hu
    show J wL 7 room_1 p l e s m args below meth c G A Q _ _ (S1, o1, T1) _ _ _
    refine J_istore (pc := 696) C dL_law_696 (by decide) ?_
    refine J_aload_n (pc := 698) C dL_law_698 rfl ?_
    have MT : M_X7_thrown T1 (fun q T2 => q = T1 0 0 ∧ T2 = T1) (fun _ _ => False) := sp_X7_thrown ⟨rfl, rfl⟩
    refine J_e1 (pc := 699) C (emb_LM G S1 o1 T1) (J_eV (pc := 699) C (emb_LM G S1 o1 T1) MT dL_law_699 rfl rfl 0 rfl rfl (cwV 0 C.1.2.2.2.2 gL_law_X7_thrown rfl rfl rfl (by decide +kernel) ⟨Nat.le_of_ble_eq_true rfl, Nat.le_of_ble_eq_true rfl⟩) okT1 (Nat.le_of_ble_eq_true rfl) ⟨by show k + 8 + 0 + 0 ≤ 601024; omega, by show n + 60 + 0 + 0 ≤ 7293034; omega⟩) (fun N τ _ q => q.elim) (fun q3 T2 hq3 okT2 hu => ?_)
    obtain ⟨hq3v, hT2⟩ := hu
    subst hT2
    have hq3c : q3 = c0 := hq3v.trans g3
    show J wL 7 room_1 p l e s m args below meth c G A Q _ _ (S1, o1, T2) _ _ _
    refine J_iload (pc := 702) C dL_law_702 rfl ?_
    refine J_icmp_eq (pc := 704) (tgt := 709) C dL_law_704 (by decide) hq3 hq1 (fun _ => ?_) (fun cb => absurd (hq3c.trans hk1.symm) cb)
    refine J_iload (pc := 709) C dL_law_709 rfl ?_
    refine J_if_ne (pc := 711) (tgt := 726) C dL_law_711 (by decide) hq1 (fun _ => ?_) (fun cz => ?_)
    · refine J_goto (pc := 726) (tgt := 1809) C dL_law_726 (by decide) ?_
      refine J_widen (k1 := k + 20) (n1 := n + 200) (by show k + 8 + 0 + 0 ≤ k + 20; omega) (by show n + 60 + 0 + 0 ≤ n + 200; omega) ?_
      exact J_sub (L1 := LH G b i) ⟨rfl, ⟨rfl, ⟨rfl, ⟨rfl, ⟨rfl, trivial⟩⟩⟩⟩⟩ (kk (S1, o1, T2) ⟨V', hI', hv1, g1, g2, ok1, okT1⟩)
    · have hc0 : c0 = 0 := hk1.symm.trans cz
      have e1 : o1 = r := ho1 hc0
      have e2 := g4 hc0
      refine J_aload_n (pc := 714) C dL_law_714 rfl ?_
      refine J_iconst (pc := 715) C dL_law_715 ?_
      refine J_oald (pc := 716) C dL_law_716 ?_
      refine J_iload (pc := 717) C dL_law_717 rfl ?_
      refine J_i2l (pc := 719) C dL_law_719 hq2 ?_
      refine J_lcmp_eq (pc := 720) (tgt := 726) C dL_law_720 dL_law_721 (by decide) (by rw [e1, ← e2]; exact r32_64 hq2) (r32_64 hq2) (fun _ => ?_) (fun cb => absurd (e1.trans e2.symm) cb)
      refine J_goto (pc := 726) (tgt := 1809) C dL_law_726 (by decide) ?_
      refine J_widen (k1 := k + 20) (n1 := n + 200) (by show k + 8 + 0 + 0 ≤ k + 20; omega) (by show n + 60 + 0 + 0 ≤ n + 200; omega) ?_
      exact J_sub (L1 := LH G b i) ⟨rfl, ⟨rfl, ⟨rfl, ⟨rfl, ⟨rfl, trivial⟩⟩⟩⟩⟩ (kk (S1, o1, T2) ⟨V', hI', hv1, g1, g2, ok1, okT1⟩)
  · obtain ⟨c0, r, V', hI', h0, h1, hC, hR⟩ := pr_flex hI (sv xs (i + 1)) (sv xs (i + 2)) 1
    have h1 : c0 ≤ 1 := h1
    have MC := ct_L_flex (o := o) (r := r) (r_sv xs (i + 1)) (r_sv xs (i + 2)) (by decide) ⟨h0, h1⟩ (hC S hS)
    have MR := hR T hT hb (fun q T1 => cs T1 = V' ∧ Tb T1 ∧ T1 0 0 = c0 ∧ (c0 = 0 → q = r)) (fun _ _ => False) (fun T1 r1 g1 g2 g3 g4 => ⟨g1, g2, g3, g4⟩) (r_sv xs (i + 1)) (r_sv xs (i + 2)) (by decide)
    refine J_aload_n (pc := 633) C dL_law_633 rfl ?_
    refine J_aload_n (pc := 634) C dL_law_634 rfl ?_
    refine J_iload (pc := 635) C dL_law_635 rfl ?_
    refine J_iconst (pc := 637) C dL_law_637 ?_
    refine J_iadd (pc := 638) C dL_law_638 ?_
    refine J_sld (pc := 639) X dL_law_639 ⟨by omega, by omega⟩ ?_
    refine J_aload_n (pc := 640) C dL_law_640 rfl ?_
    refine J_iload (pc := 641) C dL_law_641 rfl ?_
    refine J_iconst (pc := 643) C dL_law_643 ?_
    refine J_iadd (pc := 644) C dL_law_644 ?_
    refine J_sld (pc := 645) X dL_law_645 ⟨by omega, by omega⟩ ?_
    refine J_aload_n (pc := 646) C dL_law_646 rfl ?_
    refine J_iload (pc := 647) C dL_law_647 rfl ?_
    refine J_iconst (pc := 649) C dL_law_649 ?_
    refine J_iadd (pc := 650) C dL_law_650 ?_
    refine J_sld (pc := 651) X dL_law_651 ⟨by omega, by omega⟩ ?_
    refine J_if_eq (pc := 652) (tgt := 659) C dL_law_652 (by decide) (r_sv _ _) (fun cb => absurd cb hz) (fun _ => ?_)
    refine J_iconst (pc := 655) C dL_law_655 ?_
    refine J_goto (pc := 656) (tgt := 660) C dL_law_656 (by decide) ?_
    refine J_aload_n (pc := 660) C dL_law_660 rfl ?_
    refine J_e1 (pc := 661) C (emb_LX G S o T) (J_eSX (pc := 661) X MC dL_law_661 rfl rfl (vx_cwSW 5 C.1.2.2.2.2 gL_law_L_flex rfl rfl rfl (by decide +kernel) ⟨Nat.le_of_ble_eq_true rfl, Nat.le_of_ble_eq_true rfl⟩) oS (Nat.le_of_ble_eq_true rfl) ⟨by show k + 2 ≤ 601024; omega, by show n + 12 ≤ 7293034; omega⟩) (fun N τ _ q => q.elim) (fun q1 u hq1 ok1 hu => ?_)
    obtain ⟨S1, o1⟩ := u
    obtain ⟨hk1, hv1, ho1⟩ := hu
    have hv1 : vw S1 = V' := hv1
    have ok1 : okC S1 := ok1
    refine J_widen (k1 := k + 8) (n1 := n + 60) (by show k + 2 ≤ k + 8; omega) (by show n + 12 ≤ n + 60; omega) ?_
    show J wL 7 room_1 p l e s m args below meth c G A Q _ _ (S1, o1, T) _ _ _
    refine J_istore (pc := 664) C dL_law_664 (by decide) ?_
    refine J_aload_n (pc := 666) C dL_law_666 rfl ?_
    refine J_aload_n (pc := 667) C dL_law_667 rfl ?_
    refine J_iload (pc := 668) C dL_law_668 rfl ?_
    refine J_iconst (pc := 670) C dL_law_670 ?_
    refine J_iadd (pc := 671) C dL_law_671 ?_
    refine J_sld (pc := 672) X dL_law_672 ⟨by omega, by omega⟩ ?_
    refine J_aload_n (pc := 673) C dL_law_673 rfl ?_
    refine J_iload (pc := 674) C dL_law_674 rfl ?_
    refine J_iconst (pc := 676) C dL_law_676 ?_
    refine J_iadd (pc := 677) C dL_law_677 ?_
    refine J_sld (pc := 678) X dL_law_678 ⟨by omega, by omega⟩ ?_
    refine J_aload_n (pc := 679) C dL_law_679 rfl ?_
    refine J_iload (pc := 680) C dL_law_680 rfl ?_
    refine J_iconst (pc := 682) C dL_law_682 ?_
    refine J_iadd (pc := 683) C dL_law_683 ?_
    refine J_sld (pc := 684) X dL_law_684 ⟨by omega, by omega⟩ ?_
    refine J_if_eq (pc := 685) (tgt := 692) C dL_law_685 (by decide) (r_sv _ _) (fun cb => absurd cb hz) (fun _ => ?_)
    refine J_iconst (pc := 688) C dL_law_688 ?_
    refine J_goto (pc := 689) (tgt := 693) C dL_law_689 (by decide) ?_
    refine J_e1 (pc := 693) C (emb_LM G S1 o1 T) (J_eV (pc := 693) C (emb_LM G S1 o1 T) MR dL_law_693 rfl rfl 0 rfl rfl (cwV 3 C.1.2.2.2.2 gL_law_X7_flex rfl rfl rfl (by decide +kernel) ⟨Nat.le_of_ble_eq_true rfl, Nat.le_of_ble_eq_true rfl⟩) oT (Nat.le_of_ble_eq_true rfl) ⟨by show k + 8 + 0 ≤ 601024; omega, by show n + 60 + 0 ≤ 7293034; omega⟩) (fun N τ _ q => q.elim) (fun q2 T1 hq2 okT1 hu => ?_)
    obtain ⟨g1, g2, g3, g4⟩ := hu
    show J wL 7 room_1 p l e s m args below meth c G A Q _ _ (S1, o1, T1) _ _ _
    refine J_istore (pc := 696) C dL_law_696 (by decide) ?_
    refine J_aload_n (pc := 698) C dL_law_698 rfl ?_
    have MT : M_X7_thrown T1 (fun q T2 => q = T1 0 0 ∧ T2 = T1) (fun _ _ => False) := sp_X7_thrown ⟨rfl, rfl⟩
    refine J_e1 (pc := 699) C (emb_LM G S1 o1 T1) (J_eV (pc := 699) C (emb_LM G S1 o1 T1) MT dL_law_699 rfl rfl 0 rfl rfl (cwV 0 C.1.2.2.2.2 gL_law_X7_thrown rfl rfl rfl (by decide +kernel) ⟨Nat.le_of_ble_eq_true rfl, Nat.le_of_ble_eq_true rfl⟩) okT1 (Nat.le_of_ble_eq_true rfl) ⟨by show k + 8 + 0 + 0 ≤ 601024; omega, by show n + 60 + 0 + 0 ≤ 7293034; omega⟩) (fun N τ _ q => q.elim) (fun q3 T2 hq3 okT2 hu => ?_)
    obtain ⟨hq3v, hT2⟩ := hu
    subst hT2
    have hq3c : q3 = c0 := hq3v.trans g3
    show J wL 7 room_1 p l e s m args below meth c G A Q _ _ (S1, o1, T2) _ _ _
    refine J_iload (pc := 702) C dL_law_702 rfl ?_
    refine J_icmp_eq (pc := 704) (tgt := 709) C dL_law_704 (by decide) hq3 hq1 (fun _ => ?_) (fun cb => absurd (hq3c.trans hk1.symm) cb)
    refine J_iload (pc := 709) C dL_law_709 rfl ?_
    refine J_if_ne (pc := 711) (tgt := 726) C dL_law_711 (by decide) hq1 (fun _ => ?_) (fun cz => ?_)
    · refine J_goto (pc := 726) (tgt := 1809) C dL_law_726 (by decide) ?_
      refine J_widen (k1 := k + 20) (n1 := n + 200) (by show k + 8 + 0 + 0 ≤ k + 20; omega) (by show n + 60 + 0 + 0 ≤ n + 200; omega) ?_
      exact J_sub (L1 := LH G b i) ⟨rfl, ⟨rfl, ⟨rfl, ⟨rfl, ⟨rfl, trivial⟩⟩⟩⟩⟩ (kk (S1, o1, T2) ⟨V', hI', hv1, g1, g2, ok1, okT1⟩)
    · have hc0 : c0 = 0 := hk1.symm.trans cz
      have e1 : o1 = r := ho1 hc0
      have e2 := g4 hc0
      refine J_aload_n (pc := 714) C dL_law_714 rfl ?_
      refine J_iconst (pc := 715) C dL_law_715 ?_
      refine J_oald (pc := 716) C dL_law_716 ?_
      refine J_iload (pc := 717) C dL_law_717 rfl ?_
      refine J_i2l (pc := 719) C dL_law_719 hq2 ?_
      refine J_lcmp_eq (pc := 720) (tgt := 726) C dL_law_720 dL_law_721 (by decide) (by rw [e1, ← e2]; exact r32_64 hq2) (r32_64 hq2) (fun _ => ?_) (fun cb => absurd (e1.trans e2.symm) cb)
      refine J_goto (pc := 726) (tgt := 1809) C dL_law_726 (by decide) ?_
      refine J_widen (k1 := k + 20) (n1 := n + 200) (by show k + 8 + 0 + 0 ≤ k + 20; omega) (by show n + 60 + 0 + 0 ≤ n + 200; omega) ?_
      exact J_sub (L1 := LH G b i) ⟨rfl, ⟨rfl, ⟨rfl, ⟨rfl, ⟨rfl, trivial⟩⟩⟩⟩⟩ (kk (S1, o1, T2) ⟨V', hI', hv1, g1, g2, ok1, okT1⟩)
end LCASE
