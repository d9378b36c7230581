/-! ===== the law: its cases ===== -/
section LC1
variable {K : jK} {A : Nat → Prop} {E : jE} {b L : Nat} {xs : Nat → Int32} {x : Nat} {c : FcV} {v : MdV} {G : GH} {hs cells slots i : Nat}
set_option maxRecDepth 100000 in
set_option maxHeartbeats 4000000 in
theorem law_setFrame (hE : jC K A E RL cL_law 9 12 438 601024 7293034) (hZ : jScr A E b L xs) (hL : L ≤ 2560) (hi : i + 5 ≤ L) (hR : RelV c v) (hw : lwOk K G x c v) (hc9 : cells + 4 ≤ 601024) (hs9 : slots + 24 ≤ 7293034) (nx : lwN K A E b x cells slots i) : J K A E 9 G hs cells slots 156 (lwL b x i) [] := by
  obtain ⟨kk, bb, c2, v2, hkk, hR2, hth, hH, hM⟩ := OP_setFrame (K := K) (x := x) hR (xs (i + 1)) (xs (i + 2))
  dsimp only at hH hM
  refine j_aload_n hE (i := 1) dL_law_156 rfl rfl ?_
  refine j_aload_n hE (i := 0) dL_law_157 rfl rfl ?_
  refine j_iload hE dL_law_158 rfl ?_
  refine j_iconst hE (v := nI 1) dL_law_160 (by decide) ?_
  refine j_iaddN hE dL_law_161 ?_
  refine j_sld hE hZ rfl (by omega) hL dL_law_162 ?_
  refine j_aload_n hE (i := 0) dL_law_163 rfl rfl ?_
  refine j_iload hE dL_law_164 rfl ?_
  refine j_iconst hE (v := nI 2) dL_law_166 (by decide) ?_
  refine j_iaddN hE dL_law_167 ?_
  refine j_sld hE hZ rfl (by omega) hL dL_law_168 ?_
  refine j_aload_n hE (i := 3) dL_law_169 rfl rfl ?_
  refine j_cSWi hE swL_86 (fun l hl => hH l hl G hs hw) rfl rfl (Nat.le_of_ble_eq_true rfl) (by decide) (by decide) (by omega) (by omega) dL_law_170 (fun r G1 hs1 hp => ?_)
  obtain ⟨rfl, hw1, f, hf, hf0⟩ := hp
  refine j_ist6 hE dL_law_173 (by decide) rfl ?_
  refine j_aload_n hE (i := 2) dL_law_175 rfl rfl ?_
  refine j_aload_n hE (i := 0) dL_law_176 rfl rfl ?_
  refine j_iload hE dL_law_177 rfl ?_
  refine j_iconst hE (v := nI 1) dL_law_179 (by decide) ?_
  refine j_iaddN hE dL_law_180 ?_
  refine j_sld hE hZ rfl (by omega) hL dL_law_181 ?_
  refine j_aload_n hE (i := 0) dL_law_182 rfl rfl ?_
  refine j_iload hE dL_law_183 rfl ?_
  refine j_iconst hE (v := nI 2) dL_law_185 (by decide) ?_
  refine j_iaddN hE dL_law_186 ?_
  refine j_sld hE hZ rfl (by omega) hL dL_law_187 ?_
  refine j_cVi hE mlL_91 hw1.m0 (fun l hl => hM l hl G1 hs1 hw1) rfl rfl (Nat.le_of_ble_eq_true rfl) (by decide) (by decide) (by omega) (by omega) dL_law_188 (fun r2 G2 hs2 hp2 => ?_) (fun _ _ h => h.elim)
  obtain ⟨e2, e3⟩ := hp2
  subst e2
  obtain ⟨hw2, e233, e234⟩ := hw1.md e3
  refine j_ist7 hE dL_law_191 (by decide) rfl ?_
  refine j_aload_n hE (i := 2) dL_law_193 rfl rfl ?_
  refine j_cVi hE mlL_92 hw2.m0 (lw_thrown hw2) rfl rfl (Nat.le_of_ble_eq_true rfl) (by decide) (by decide) (by omega) (by omega) dL_law_194 (fun r3 G3 hs3 hp3 => ?_) (fun _ _ h => h.elim)
  obtain ⟨e4, e5⟩ := hp3
  subst e5
  rw [hth] at e4
  subst e4
  refine j_iload hE dL_law_197 rfl ?_
  refine j_ic_eqN hE (tgt := 204) dL_law_199 (by decide) (by omega) (by omega) (fun _ => ?_) (fun q => absurd rfl q)
  refine j_iload hE dL_law_204 rfl ?_
  refine j_if_neN hE (tgt := 221) dL_law_206 (by decide) (by omega) (fun _ => ?_) (fun q => ?_)
  · refine j_goto hE (tgt := 1453) dL_law_221 (by decide) ?_
    refine j_widen (k := cells + 4) (n := slots + 24) (by omega) (by omega) ?_
    refine j_less (lo2 := lwL b x i) lwL_less ?_
    exact nx _ _ _ _ hR2 hw2
  · refine j_aload_n hE (i := 3) dL_law_209 rfl rfl ?_
    refine j_iconst hE (v := nI 0) dL_law_210 (by decide) ?_
    refine j_lald hE (e233.trans hf) rfl (by omega) (by decide) dL_law_211 ?_
    rw [hf0 q]
    refine j_iload hE dL_law_212 rfl ?_
    refine j_i2l hE dL_law_214 ?_
    refine j_lcmp hE dL_law_215 ?_
    refine j_if_eq hE (tgt := 221) dL_law_216 (by decide) (fun _ => ?_) (fun q2 => absurd ((lg_cmp_eq _ _).mpr rfl) q2)
    refine j_goto hE (tgt := 1453) dL_law_221 (by decide) ?_
    refine j_widen (k := cells + 4) (n := slots + 24) (by omega) (by omega) ?_
    refine j_less (lo2 := lwL b x i) lwL_less ?_
    exact nx _ _ _ _ hR2 hw2
set_option maxRecDepth 100000 in
set_option maxHeartbeats 4000000 in
theorem law_addParameter (hE : jC K A E RL cL_law 9 12 438 601024 7293034) (hZ : jScr A E b L xs) (hL : L ≤ 2560) (hi : i + 5 ≤ L) (hR : RelV c v) (hw : lwOk K G x c v) (hc9 : cells + 4 ≤ 601024) (hs9 : slots + 24 ≤ 7293034) (nx : lwN K A E b x cells slots i) : J K A E 9 G hs cells slots 224 (lwL b x i) [] := by
  obtain ⟨kk, bb, c2, v2, hkk, hR2, hth, hH, hM⟩ := OP_addParameter (K := K) (x := x) hR (xs (i + 1))
  dsimp only at hH hM
  refine j_aload_n hE (i := 1) dL_law_224 rfl rfl ?_
  refine j_aload_n hE (i := 0) dL_law_225 rfl rfl ?_
  refine j_iload hE dL_law_226 rfl ?_
  refine j_iconst hE (v := nI 1) dL_law_228 (by decide) ?_
  refine j_iaddN hE dL_law_229 ?_
  refine j_sld hE hZ rfl (by omega) hL dL_law_230 ?_
  refine j_aload_n hE (i := 3) dL_law_231 rfl rfl ?_
  refine j_cSWi hE swL_95 (fun l hl => hH l hl G hs hw) rfl rfl (Nat.le_of_ble_eq_true rfl) (by decide) (by decide) (by omega) (by omega) dL_law_232 (fun r G1 hs1 hp => ?_)
  obtain ⟨rfl, hw1, f, hf, hf0⟩ := hp
  refine j_ist6 hE dL_law_235 (by decide) rfl ?_
  refine j_aload_n hE (i := 2) dL_law_237 rfl rfl ?_
  refine j_aload_n hE (i := 0) dL_law_238 rfl rfl ?_
  refine j_iload hE dL_law_239 rfl ?_
  refine j_iconst hE (v := nI 1) dL_law_241 (by decide) ?_
  refine j_iaddN hE dL_law_242 ?_
  refine j_sld hE hZ rfl (by omega) hL dL_law_243 ?_
  refine j_cVi hE mlL_98 hw1.m0 (fun l hl => hM l hl G1 hs1 hw1) rfl rfl (Nat.le_of_ble_eq_true rfl) (by decide) (by decide) (by omega) (by omega) dL_law_244 (fun r2 G2 hs2 hp2 => ?_) (fun _ _ h => h.elim)
  obtain ⟨e2, e3⟩ := hp2
  subst e2
  obtain ⟨hw2, e233, e234⟩ := hw1.md e3
  refine j_ist7 hE dL_law_247 (by decide) rfl ?_
  refine j_aload_n hE (i := 2) dL_law_249 rfl rfl ?_
  refine j_cVi hE mlL_92 hw2.m0 (lw_thrown hw2) rfl rfl (Nat.le_of_ble_eq_true rfl) (by decide) (by decide) (by omega) (by omega) dL_law_250 (fun r3 G3 hs3 hp3 => ?_) (fun _ _ h => h.elim)
  obtain ⟨e4, e5⟩ := hp3
  subst e5
  rw [hth] at e4
  subst e4
  refine j_iload hE dL_law_253 rfl ?_
  refine j_ic_eqN hE (tgt := 260) dL_law_255 (by decide) (by omega) (by omega) (fun _ => ?_) (fun q => absurd rfl q)
  refine j_iload hE dL_law_260 rfl ?_
  refine j_if_neN hE (tgt := 277) dL_law_262 (by decide) (by omega) (fun _ => ?_) (fun q => ?_)
  · refine j_goto hE (tgt := 1453) dL_law_277 (by decide) ?_
    refine j_widen (k := cells + 4) (n := slots + 24) (by omega) (by omega) ?_
    refine j_less (lo2 := lwL b x i) lwL_less ?_
    exact nx _ _ _ _ hR2 hw2
  · refine j_aload_n hE (i := 3) dL_law_265 rfl rfl ?_
    refine j_iconst hE (v := nI 0) dL_law_266 (by decide) ?_
    refine j_lald hE (e233.trans hf) rfl (by omega) (by decide) dL_law_267 ?_
    rw [hf0 q]
    refine j_iload hE dL_law_268 rfl ?_
    refine j_i2l hE dL_law_270 ?_
    refine j_lcmp hE dL_law_271 ?_
    refine j_if_eq hE (tgt := 277) dL_law_272 (by decide) (fun _ => ?_) (fun q2 => absurd ((lg_cmp_eq _ _).mpr rfl) q2)
    refine j_goto hE (tgt := 1453) dL_law_277 (by decide) ?_
    refine j_widen (k := cells + 4) (n := slots + 24) (by omega) (by omega) ?_
    refine j_less (lo2 := lwL b x i) lwL_less ?_
    exact nx _ _ _ _ hR2 hw2
set_option maxRecDepth 100000 in
set_option maxHeartbeats 4000000 in
theorem law_plan (hE : jC K A E RL cL_law 9 12 438 601024 7293034) (hZ : jScr A E b L xs) (hL : L ≤ 2560) (hi : i + 5 ≤ L) (hR : RelV c v) (hw : lwOk K G x c v) (hc9 : cells + 4 ≤ 601024) (hs9 : slots + 24 ≤ 7293034) (nx : lwN K A E b x cells slots i) : J K A E 9 G hs cells slots 280 (lwL b x i) [] := by
  obtain ⟨bb, c2, v2, hR2, hH, hM⟩ := OP_plan (K := K) (x := x) hR
  dsimp only at hH hM
  refine j_aload_n hE (i := 1) dL_law_280 rfl rfl ?_
  refine j_cVi hE mlL_99 hw.1.f0 (fun l hl => hH l hl G hs hw) rfl rfl (Nat.le_of_ble_eq_true rfl) (by decide) (by decide) (by omega) (by omega) dL_law_281 (fun r G1 hs1 hp => ?_) (fun _ _ h => h.elim)
  obtain ⟨rfl, hw1⟩ := hp
  refine j_aload_n hE (i := 2) dL_law_284 rfl rfl ?_
  refine j_cVi hE mlL_102 hw1.m0 (fun l hl => hM l hl G1 hs1 hw1) rfl rfl (Nat.le_of_ble_eq_true rfl) (by decide) (by decide) (by omega) (by omega) dL_law_285 (fun r2 G2 hs2 hp2 => ?_) (fun _ _ h => h.elim)
  obtain ⟨e2, hw2⟩ := hp2
  subst e2
  refine j_ic_eq hE (tgt := 1453) dL_law_288 (by decide) (fun _ => ?_) (fun q => absurd rfl q)
  refine j_widen (k := cells + 4) (n := slots + 24) (by omega) (by omega) ?_
  refine j_less (lo2 := lwL b x i) lwL_less ?_
  exact nx _ _ _ _ hR2 hw2
set_option maxRecDepth 100000 in
set_option maxHeartbeats 4000000 in
theorem law_samplesPerMajor (hE : jC K A E RL cL_law 9 12 438 601024 7293034) (hZ : jScr A E b L xs) (hL : L ≤ 2560) (hi : i + 5 ≤ L) (hR : RelV c v) (hw : lwOk K G x c v) (hc9 : cells + 4 ≤ 601024) (hs9 : slots + 24 ≤ 7293034) (nx : lwN K A E b x cells slots i) : J K A E 9 G hs cells slots 293 (lwL b x i) [] := by
  obtain ⟨kk, bb, c2, v2, hkk, hR2, hth, hH, hM⟩ := OP_samplesPerMajor (K := K) (x := x) hR (xs (i + 1))
  dsimp only at hH hM
  refine j_aload_n hE (i := 1) dL_law_293 rfl rfl ?_
  refine j_aload_n hE (i := 0) dL_law_294 rfl rfl ?_
  refine j_iload hE dL_law_295 rfl ?_
  refine j_iconst hE (v := nI 1) dL_law_297 (by decide) ?_
  refine j_iaddN hE dL_law_298 ?_
  refine j_sld hE hZ rfl (by omega) hL dL_law_299 ?_
  refine j_aload_n hE (i := 3) dL_law_300 rfl rfl ?_
  refine j_cSWi hE swL_103 (fun l hl => hH l hl G hs hw) rfl rfl (Nat.le_of_ble_eq_true rfl) (by decide) (by decide) (by omega) (by omega) dL_law_301 (fun r G1 hs1 hp => ?_)
  obtain ⟨rfl, hw1, f, hf, hf0⟩ := hp
  refine j_ist6 hE dL_law_304 (by decide) rfl ?_
  refine j_aload_n hE (i := 2) dL_law_306 rfl rfl ?_
  refine j_aload_n hE (i := 0) dL_law_307 rfl rfl ?_
  refine j_iload hE dL_law_308 rfl ?_
  refine j_iconst hE (v := nI 1) dL_law_310 (by decide) ?_
  refine j_iaddN hE dL_law_311 ?_
  refine j_sld hE hZ rfl (by omega) hL dL_law_312 ?_
  refine j_cVi hE mlL_105 hw1.m0 (fun l hl => hM l hl G1 hs1 hw1) rfl rfl (Nat.le_of_ble_eq_true rfl) (by decide) (by decide) (by omega) (by omega) dL_law_313 (fun r2 G2 hs2 hp2 => ?_) (fun _ _ h => h.elim)
  obtain ⟨e2, e3⟩ := hp2
  subst e2
  obtain ⟨hw2, e233, e234⟩ := hw1.md e3
  refine j_ist7 hE dL_law_316 (by decide) rfl ?_
  refine j_aload_n hE (i := 2) dL_law_318 rfl rfl ?_
  refine j_cVi hE mlL_92 hw2.m0 (lw_thrown hw2) rfl rfl (Nat.le_of_ble_eq_true rfl) (by decide) (by decide) (by omega) (by omega) dL_law_319 (fun r3 G3 hs3 hp3 => ?_) (fun _ _ h => h.elim)
  obtain ⟨e4, e5⟩ := hp3
  subst e5
  rw [hth] at e4
  subst e4
  refine j_iload hE dL_law_322 rfl ?_
  refine j_ic_eqN hE (tgt := 329) dL_law_324 (by decide) (by omega) (by omega) (fun _ => ?_) (fun q => absurd rfl q)
  refine j_iload hE dL_law_329 rfl ?_
  refine j_if_neN hE (tgt := 346) dL_law_331 (by decide) (by omega) (fun _ => ?_) (fun q => ?_)
  · refine j_goto hE (tgt := 1453) dL_law_346 (by decide) ?_
    refine j_widen (k := cells + 4) (n := slots + 24) (by omega) (by omega) ?_
    refine j_less (lo2 := lwL b x i) lwL_less ?_
    exact nx _ _ _ _ hR2 hw2
  · refine j_aload_n hE (i := 3) dL_law_334 rfl rfl ?_
    refine j_iconst hE (v := nI 0) dL_law_335 (by decide) ?_
    refine j_lald hE (e233.trans hf) rfl (by omega) (by decide) dL_law_336 ?_
    rw [hf0 q]
    refine j_iload hE dL_law_337 rfl ?_
    refine j_i2l hE dL_law_339 ?_
    refine j_lcmp hE dL_law_340 ?_
    refine j_if_eq hE (tgt := 346) dL_law_341 (by decide) (fun _ => ?_) (fun q2 => absurd ((lg_cmp_eq _ _).mpr rfl) q2)
    refine j_goto hE (tgt := 1453) dL_law_346 (by decide) ?_
    refine j_widen (k := cells + 4) (n := slots + 24) (by omega) (by omega) ?_
    refine j_less (lo2 := lwL b x i) lwL_less ?_
    exact nx _ _ _ _ hR2 hw2
set_option maxRecDepth 100000 in
set_option maxHeartbeats 4000000 in
theorem law_slot (hE : jC K A E RL cL_law 9 12 438 601024 7293034) (hZ : jScr A E b L xs) (hL : L ≤ 2560) (hi : i + 5 ≤ L) (hR : RelV c v) (hw : lwOk K G x c v) (hc9 : cells + 4 ≤ 601024) (hs9 : slots + 24 ≤ 7293034) (nx : lwN K A E b x cells slots i) : J K A E 9 G hs cells slots 349 (lwL b x i) [] := by
  obtain ⟨kk, bb, c2, v2, hkk, hR2, hth, hH, hM⟩ := OP_slot (K := K) (x := x) hR (xs (i + 1)) (xs (i + 2)) (xs (i + 3))
  dsimp only at hH hM
  refine j_aload_n hE (i := 1) dL_law_349 rfl rfl ?_
  refine j_aload_n hE (i := 0) dL_law_350 rfl rfl ?_
  refine j_iload hE dL_law_351 rfl ?_
  refine j_iconst hE (v := nI 1) dL_law_353 (by decide) ?_
  refine j_iaddN hE dL_law_354 ?_
  refine j_sld hE hZ rfl (by omega) hL dL_law_355 ?_
  refine j_aload_n hE (i := 0) dL_law_356 rfl rfl ?_
  refine j_iload hE dL_law_357 rfl ?_
  refine j_iconst hE (v := nI 2) dL_law_359 (by decide) ?_
  refine j_iaddN hE dL_law_360 ?_
  refine j_sld hE hZ rfl (by omega) hL dL_law_361 ?_
  refine j_aload_n hE (i := 0) dL_law_362 rfl rfl ?_
  refine j_iload hE dL_law_363 rfl ?_
  refine j_iconst hE (v := nI 3) dL_law_365 (by decide) ?_
  refine j_iaddN hE dL_law_366 ?_
  refine j_sld hE hZ rfl (by omega) hL dL_law_367 ?_
  refine j_aload_n hE (i := 3) dL_law_368 rfl rfl ?_
  refine j_cSWi hE swL_106 (fun l hl => hH l hl G hs hw) rfl rfl (Nat.le_of_ble_eq_true rfl) (by decide) (by decide) (by omega) (by omega) dL_law_369 (fun r G1 hs1 hp => ?_)
  obtain ⟨rfl, hw1, f, hf, hf0⟩ := hp
  refine j_ist6 hE dL_law_372 (by decide) rfl ?_
  refine j_aload_n hE (i := 2) dL_law_374 rfl rfl ?_
  refine j_aload_n hE (i := 0) dL_law_375 rfl rfl ?_
  refine j_iload hE dL_law_376 rfl ?_
  refine j_iconst hE (v := nI 1) dL_law_378 (by decide) ?_
  refine j_iaddN hE dL_law_379 ?_
  refine j_sld hE hZ rfl (by omega) hL dL_law_380 ?_
  refine j_aload_n hE (i := 0) dL_law_381 rfl rfl ?_
  refine j_iload hE dL_law_382 rfl ?_
  refine j_iconst hE (v := nI 2) dL_law_384 (by decide) ?_
  refine j_iaddN hE dL_law_385 ?_
  refine j_sld hE hZ rfl (by omega) hL dL_law_386 ?_
  refine j_aload_n hE (i := 0) dL_law_387 rfl rfl ?_
  refine j_iload hE dL_law_388 rfl ?_
  refine j_iconst hE (v := nI 3) dL_law_390 (by decide) ?_
  refine j_iaddN hE dL_law_391 ?_
  refine j_sld hE hZ rfl (by omega) hL dL_law_392 ?_
  refine j_cVi hE mlL_109 hw1.m0 (fun l hl => hM l hl G1 hs1 hw1) rfl rfl (Nat.le_of_ble_eq_true rfl) (by decide) (by decide) (by omega) (by omega) dL_law_393 (fun r2 G2 hs2 hp2 => ?_) (fun _ _ h => h.elim)
  obtain ⟨e2, e3⟩ := hp2
  subst e2
  obtain ⟨hw2, e233, e234⟩ := hw1.md e3
  refine j_ist7 hE dL_law_396 (by decide) rfl ?_
  refine j_aload_n hE (i := 2) dL_law_398 rfl rfl ?_
  refine j_cVi hE mlL_92 hw2.m0 (lw_thrown hw2) rfl rfl (Nat.le_of_ble_eq_true rfl) (by decide) (by decide) (by omega) (by omega) dL_law_399 (fun r3 G3 hs3 hp3 => ?_) (fun _ _ h => h.elim)
  obtain ⟨e4, e5⟩ := hp3
  subst e5
  rw [hth] at e4
  subst e4
  refine j_iload hE dL_law_402 rfl ?_
  refine j_ic_eqN hE (tgt := 409) dL_law_404 (by decide) (by omega) (by omega) (fun _ => ?_) (fun q => absurd rfl q)
  refine j_iload hE dL_law_409 rfl ?_
  refine j_if_neN hE (tgt := 426) dL_law_411 (by decide) (by omega) (fun _ => ?_) (fun q => ?_)
  · refine j_goto hE (tgt := 1453) dL_law_426 (by decide) ?_
    refine j_widen (k := cells + 4) (n := slots + 24) (by omega) (by omega) ?_
    refine j_less (lo2 := lwL b x i) lwL_less ?_
    exact nx _ _ _ _ hR2 hw2
  · refine j_aload_n hE (i := 3) dL_law_414 rfl rfl ?_
    refine j_iconst hE (v := nI 0) dL_law_415 (by decide) ?_
    refine j_lald hE (e233.trans hf) rfl (by omega) (by decide) dL_law_416 ?_
    rw [hf0 q]
    refine j_iload hE dL_law_417 rfl ?_
    refine j_i2l hE dL_law_419 ?_
    refine j_lcmp hE dL_law_420 ?_
    refine j_if_eq hE (tgt := 426) dL_law_421 (by decide) (fun _ => ?_) (fun q2 => absurd ((lg_cmp_eq _ _).mpr rfl) q2)
    refine j_goto hE (tgt := 1453) dL_law_426 (by decide) ?_
    refine j_widen (k := cells + 4) (n := slots + 24) (by omega) (by omega) ?_
    refine j_less (lo2 := lwL b x i) lwL_less ?_
    exact nx _ _ _ _ hR2 hw2
set_option maxRecDepth 100000 in
set_option maxHeartbeats 4000000 in
theorem law_ownerOf (hE : jC K A E RL cL_law 9 12 438 601024 7293034) (hZ : jScr A E b L xs) (hL : L ≤ 2560) (hi : i + 5 ≤ L) (hR : RelV c v) (hw : lwOk K G x c v) (hc9 : cells + 4 ≤ 601024) (hs9 : slots + 24 ≤ 7293034) (nx : lwN K A E b x cells slots i) : J K A E 9 G hs cells slots 429 (lwL b x i) [] := by
  obtain ⟨kk, bb, c2, v2, hkk, hR2, hth, hH, hM⟩ := OP_ownerOf (K := K) (x := x) hR (xs (i + 1)) (xs (i + 2))
  dsimp only at hH hM
  refine j_aload_n hE (i := 1) dL_law_429 rfl rfl ?_
  refine j_aload_n hE (i := 0) dL_law_430 rfl rfl ?_
  refine j_iload hE dL_law_431 rfl ?_
  refine j_iconst hE (v := nI 1) dL_law_433 (by decide) ?_
  refine j_iaddN hE dL_law_434 ?_
  refine j_sld hE hZ rfl (by omega) hL dL_law_435 ?_
  refine j_aload_n hE (i := 0) dL_law_436 rfl rfl ?_
  refine j_iload hE dL_law_437 rfl ?_
  refine j_iconst hE (v := nI 2) dL_law_439 (by decide) ?_
  refine j_iaddN hE dL_law_440 ?_
  refine j_sld hE hZ rfl (by omega) hL dL_law_441 ?_
  refine j_aload_n hE (i := 3) dL_law_442 rfl rfl ?_
  refine j_cSWi hE swL_110 (fun l hl => hH l hl G hs hw) rfl rfl (Nat.le_of_ble_eq_true rfl) (by decide) (by decide) (by omega) (by omega) dL_law_443 (fun r G1 hs1 hp => ?_)
  obtain ⟨rfl, hw1, f, hf, hf0⟩ := hp
  refine j_ist6 hE dL_law_446 (by decide) rfl ?_
  refine j_aload_n hE (i := 2) dL_law_448 rfl rfl ?_
  refine j_aload_n hE (i := 0) dL_law_449 rfl rfl ?_
  refine j_iload hE dL_law_450 rfl ?_
  refine j_iconst hE (v := nI 1) dL_law_452 (by decide) ?_
  refine j_iaddN hE dL_law_453 ?_
  refine j_sld hE hZ rfl (by omega) hL dL_law_454 ?_
  refine j_aload_n hE (i := 0) dL_law_455 rfl rfl ?_
  refine j_iload hE dL_law_456 rfl ?_
  refine j_iconst hE (v := nI 2) dL_law_458 (by decide) ?_
  refine j_iaddN hE dL_law_459 ?_
  refine j_sld hE hZ rfl (by omega) hL dL_law_460 ?_
  refine j_cVi hE mlL_112 hw1.m0 (fun l hl => hM l hl G1 hs1 hw1) rfl rfl (Nat.le_of_ble_eq_true rfl) (by decide) (by decide) (by omega) (by omega) dL_law_461 (fun r2 G2 hs2 hp2 => ?_) (fun _ _ h => h.elim)
  obtain ⟨e2, e3⟩ := hp2
  subst e2
  obtain ⟨hw2, e233, e234⟩ := hw1.md e3
  refine j_ist7 hE dL_law_464 (by decide) rfl ?_
  refine j_aload_n hE (i := 2) dL_law_466 rfl rfl ?_
  refine j_cVi hE mlL_92 hw2.m0 (lw_thrown hw2) rfl rfl (Nat.le_of_ble_eq_true rfl) (by decide) (by decide) (by omega) (by omega) dL_law_467 (fun r3 G3 hs3 hp3 => ?_) (fun _ _ h => h.elim)
  obtain ⟨e4, e5⟩ := hp3
  subst e5
  rw [hth] at e4
  subst e4
  refine j_iload hE dL_law_470 rfl ?_
  refine j_ic_eqN hE (tgt := 477) dL_law_472 (by decide) (by omega) (by omega) (fun _ => ?_) (fun q => absurd rfl q)
  refine j_iload hE dL_law_477 rfl ?_
  refine j_if_neN hE (tgt := 494) dL_law_479 (by decide) (by omega) (fun _ => ?_) (fun q => ?_)
  · refine j_goto hE (tgt := 1453) dL_law_494 (by decide) ?_
    refine j_widen (k := cells + 4) (n := slots + 24) (by omega) (by omega) ?_
    refine j_less (lo2 := lwL b x i) lwL_less ?_
    exact nx _ _ _ _ hR2 hw2
  · refine j_aload_n hE (i := 3) dL_law_482 rfl rfl ?_
    refine j_iconst hE (v := nI 0) dL_law_483 (by decide) ?_
    refine j_lald hE (e233.trans hf) rfl (by omega) (by decide) dL_law_484 ?_
    rw [hf0 q]
    refine j_iload hE dL_law_485 rfl ?_
    refine j_i2l hE dL_law_487 ?_
    refine j_lcmp hE dL_law_488 ?_
    refine j_if_eq hE (tgt := 494) dL_law_489 (by decide) (fun _ => ?_) (fun q2 => absurd ((lg_cmp_eq _ _).mpr rfl) q2)
    refine j_goto hE (tgt := 1453) dL_law_494 (by decide) ?_
    refine j_widen (k := cells + 4) (n := slots + 24) (by omega) (by omega) ?_
    refine j_less (lo2 := lwL b x i) lwL_less ?_
    exact nx _ _ _ _ hR2 hw2
set_option maxRecDepth 100000 in
set_option maxHeartbeats 4000000 in
theorem law_efficiency (hE : jC K A E RL cL_law 9 12 438 601024 7293034) (hZ : jScr A E b L xs) (hL : L ≤ 2560) (hi : i + 5 ≤ L) (hR : RelV c v) (hw : lwOk K G x c v) (hc9 : cells + 4 ≤ 601024) (hs9 : slots + 24 ≤ 7293034) (nx : lwN K A E b x cells slots i) : J K A E 9 G hs cells slots 497 (lwL b x i) [] := by
  obtain ⟨kk, bb, c2, v2, hkk, hR2, hth, hH, hM⟩ := OP_efficiency (K := K) (x := x) hR
  dsimp only at hH hM
  refine j_aload_n hE (i := 1) dL_law_497 rfl rfl ?_
  refine j_aload hE dL_law_498 rfl ?_
  refine j_cSWi hE swL_113 (fun l hl => hH l hl G hs hw) rfl rfl (Nat.le_of_ble_eq_true rfl) (by decide) (by decide) (by omega) (by omega) dL_law_500 (fun r G1 hs1 hp => ?_)
  obtain ⟨rfl, hw1, f, hf, hf0⟩ := hp
  refine j_ist6 hE dL_law_503 (by decide) rfl ?_
  refine j_aload_n hE (i := 2) dL_law_505 rfl rfl ?_
  refine j_cVd hE mlL_116 hw1.m0 (fun l hl => hM l hl G1 hs1 hw1) rfl rfl (Nat.le_of_ble_eq_true rfl) (by decide) (by decide) (by omega) (by omega) dL_law_506 (fun r2 G2 hs2 hp2 => ?_) (fun _ _ h => h.elim)
  obtain ⟨e2, e3⟩ := hp2
  subst e2
  obtain ⟨hw2, e233, e234⟩ := hw1.md e3
  refine j_dst7 hE dL_law_509 (by decide) rfl ?_
  refine j_aload_n hE (i := 2) dL_law_511 rfl rfl ?_
  refine j_cVi hE mlL_92 hw2.m0 (lw_thrown hw2) rfl rfl (Nat.le_of_ble_eq_true rfl) (by decide) (by decide) (by omega) (by omega) dL_law_512 (fun r3 G3 hs3 hp3 => ?_) (fun _ _ h => h.elim)
  obtain ⟨e4, e5⟩ := hp3
  subst e5
  rw [hth] at e4
  subst e4
  refine j_iload hE dL_law_515 rfl ?_
  refine j_ic_eqN hE (tgt := 522) dL_law_517 (by decide) (by omega) (by omega) (fun _ => ?_) (fun q => absurd rfl q)
  refine j_iload hE dL_law_522 rfl ?_
  refine j_if_neN hE (tgt := 559) dL_law_524 (by decide) (by omega) (fun _ => ?_) (fun q => ?_)
  · refine j_goto hE (tgt := 1453) dL_law_559 (by decide) ?_
    refine j_widen (k := cells + 4) (n := slots + 24) (by omega) (by omega) ?_
    refine j_less (lo2 := lwL b x i) lwL_less ?_
    exact nx _ _ _ _ hR2 hw2
  · refine j_aload hE dL_law_527 rfl ?_
    refine j_iconst hE (v := nI 0) dL_law_529 (by decide) ?_
    refine j_dald hE (e234.trans hf) rfl (by omega) (by decide) dL_law_530 ?_
    rw [(hf0 q).1]
    refine j_dload hE dL_law_531 rfl ?_
    refine j_dcmp hE dL_law_533 ?_
    refine j_if_eq hE (tgt := 559) dL_law_534 (by decide) (fun _ => ?_) (fun q2 => ?_)
    · refine j_goto hE (tgt := 1453) dL_law_559 (by decide) ?_
      refine j_widen (k := cells + 4) (n := slots + 24) (by omega) (by omega) ?_
      refine j_less (lo2 := lwL b x i) lwL_less ?_
      exact nx _ _ _ _ hR2 hw2
    · refine j_aload hE dL_law_537 rfl ?_
      refine j_iconst hE (v := nI 0) dL_law_539 (by decide) ?_
      refine j_dald hE (e234.trans hf) rfl (by omega) (by decide) dL_law_540 ?_
      rw [(hf0 q).1]
      refine j_aload hE dL_law_541 rfl ?_
      refine j_iconst hE (v := nI 0) dL_law_543 (by decide) ?_
      refine j_dald hE (e234.trans hf) rfl (by omega) (by decide) dL_law_544 ?_
      rw [(hf0 q).1]
      refine j_dcmp hE dL_law_545 ?_
      refine j_if_eq hE (tgt := 557) dL_law_546 (by decide) (fun q3 => absurd q3 q2) (fun _ => ?_)
      refine j_dload hE dL_law_549 rfl ?_
      refine j_dload hE dL_law_551 rfl ?_
      refine j_dcmp hE dL_law_553 ?_
      refine j_if_ne hE (tgt := 559) dL_law_554 (by decide) (fun _ => ?_) (fun q3 => absurd q3 q2)
      refine j_goto hE (tgt := 1453) dL_law_559 (by decide) ?_
      refine j_widen (k := cells + 4) (n := slots + 24) (by omega) (by omega) ?_
      refine j_less (lo2 := lwL b x i) lwL_less ?_
      exact nx _ _ _ _ hR2 hw2
set_option maxRecDepth 100000 in
set_option maxHeartbeats 4000000 in
theorem law_setValue (hE : jC K A E RL cL_law 9 12 438 601024 7293034) (hZ : jScr A E b L xs) (hL : L ≤ 2560) (hi : i + 5 ≤ L) (hR : RelV c v) (hw : lwOk K G x c v) (hc9 : cells + 4 ≤ 601024) (hs9 : slots + 24 ≤ 7293034) (nx : lwN K A E b x cells slots i) : J K A E 9 G hs cells slots 562 (lwL b x i) [] := by
  obtain ⟨kk, bb, c2, v2, hkk, hR2, hth, hH, hM⟩ := OP_setValue (K := K) (x := x) hR (xs (i + 1)) (xs (i + 2))
  dsimp only at hH hM
  refine j_aload_n hE (i := 1) dL_law_562 rfl rfl ?_
  refine j_aload_n hE (i := 0) dL_law_563 rfl rfl ?_
  refine j_iload hE dL_law_564 rfl ?_
  refine j_iconst hE (v := nI 1) dL_law_566 (by decide) ?_
  refine j_iaddN hE dL_law_567 ?_
  refine j_sld hE hZ rfl (by omega) hL dL_law_568 ?_
  refine j_aload_n hE (i := 0) dL_law_569 rfl rfl ?_
  refine j_iload hE dL_law_570 rfl ?_
  refine j_iconst hE (v := nI 2) dL_law_572 (by decide) ?_
  refine j_iaddN hE dL_law_573 ?_
  refine j_sld hE hZ rfl (by omega) hL dL_law_574 ?_
  refine j_aload_n hE (i := 3) dL_law_575 rfl rfl ?_
  refine j_cSWi hE swL_117 (fun l hl => hH l hl G hs hw) rfl rfl (Nat.le_of_ble_eq_true rfl) (by decide) (by decide) (by omega) (by omega) dL_law_576 (fun r G1 hs1 hp => ?_)
  obtain ⟨rfl, hw1, f, hf, hf0⟩ := hp
  refine j_ist6 hE dL_law_579 (by decide) rfl ?_
  refine j_aload_n hE (i := 2) dL_law_581 rfl rfl ?_
  refine j_aload_n hE (i := 0) dL_law_582 rfl rfl ?_
  refine j_iload hE dL_law_583 rfl ?_
  refine j_iconst hE (v := nI 1) dL_law_585 (by decide) ?_
  refine j_iaddN hE dL_law_586 ?_
  refine j_sld hE hZ rfl (by omega) hL dL_law_587 ?_
  refine j_aload_n hE (i := 0) dL_law_588 rfl rfl ?_
  refine j_iload hE dL_law_589 rfl ?_
  refine j_iconst hE (v := nI 2) dL_law_591 (by decide) ?_
  refine j_iaddN hE dL_law_592 ?_
  refine j_sld hE hZ rfl (by omega) hL dL_law_593 ?_
  refine j_cVi hE mlL_119 hw1.m0 (fun l hl => hM l hl G1 hs1 hw1) rfl rfl (Nat.le_of_ble_eq_true rfl) (by decide) (by decide) (by omega) (by omega) dL_law_594 (fun r2 G2 hs2 hp2 => ?_) (fun _ _ h => h.elim)
  obtain ⟨e2, e3⟩ := hp2
  subst e2
  obtain ⟨hw2, e233, e234⟩ := hw1.md e3
  refine j_ist7 hE dL_law_597 (by decide) rfl ?_
  refine j_aload_n hE (i := 2) dL_law_599 rfl rfl ?_
  refine j_cVi hE mlL_92 hw2.m0 (lw_thrown hw2) rfl rfl (Nat.le_of_ble_eq_true rfl) (by decide) (by decide) (by omega) (by omega) dL_law_600 (fun r3 G3 hs3 hp3 => ?_) (fun _ _ h => h.elim)
  obtain ⟨e4, e5⟩ := hp3
  subst e5
  rw [hth] at e4
  subst e4
  refine j_iload hE dL_law_603 rfl ?_
  refine j_ic_eqN hE (tgt := 610) dL_law_605 (by decide) (by omega) (by omega) (fun _ => ?_) (fun q => absurd rfl q)
  refine j_iload hE dL_law_610 rfl ?_
  refine j_if_neN hE (tgt := 627) dL_law_612 (by decide) (by omega) (fun _ => ?_) (fun q => ?_)
  · refine j_goto hE (tgt := 1453) dL_law_627 (by decide) ?_
    refine j_widen (k := cells + 4) (n := slots + 24) (by omega) (by omega) ?_
    refine j_less (lo2 := lwL b x i) lwL_less ?_
    exact nx _ _ _ _ hR2 hw2
  · refine j_aload_n hE (i := 3) dL_law_615 rfl rfl ?_
    refine j_iconst hE (v := nI 0) dL_law_616 (by decide) ?_
    refine j_lald hE (e233.trans hf) rfl (by omega) (by decide) dL_law_617 ?_
    rw [hf0 q]
    refine j_iload hE dL_law_618 rfl ?_
    refine j_i2l hE dL_law_620 ?_
    refine j_lcmp hE dL_law_621 ?_
    refine j_if_eq hE (tgt := 627) dL_law_622 (by decide) (fun _ => ?_) (fun q2 => absurd ((lg_cmp_eq _ _).mpr rfl) q2)
    refine j_goto hE (tgt := 1453) dL_law_627 (by decide) ?_
    refine j_widen (k := cells + 4) (n := slots + 24) (by omega) (by omega) ?_
    refine j_less (lo2 := lwL b x i) lwL_less ?_
    exact nx _ _ _ _ hR2 hw2
set_option maxRecDepth 100000 in
set_option maxHeartbeats 4000000 in
theorem law_send (hE : jC K A E RL cL_law 9 12 438 601024 7293034) (hZ : jScr A E b L xs) (hL : L ≤ 2560) (hi : i + 5 ≤ L) (hR : RelV c v) (hw : lwOk K G x c v) (hc9 : cells + 4 ≤ 601024) (hs9 : slots + 24 ≤ 7293034) (nx : lwN K A E b x cells slots i) : J K A E 9 G hs cells slots 630 (lwL b x i) [] := by
  obtain ⟨kk, bb, c2, v2, hkk, hR2, hth, hH, hM⟩ := OP_send (K := K) (x := x) hR (xs (i + 1))
  dsimp only at hH hM
  refine j_aload_n hE (i := 1) dL_law_630 rfl rfl ?_
  refine j_aload_n hE (i := 0) dL_law_631 rfl rfl ?_
  refine j_iload hE dL_law_632 rfl ?_
  refine j_iconst hE (v := nI 1) dL_law_634 (by decide) ?_
  refine j_iaddN hE dL_law_635 ?_
  refine j_sld hE hZ rfl (by omega) hL dL_law_636 ?_
  refine j_aload_n hE (i := 3) dL_law_637 rfl rfl ?_
  refine j_cSWi hE swL_120 (fun l hl => hH l hl G hs hw) rfl rfl (Nat.le_of_ble_eq_true rfl) (by decide) (by decide) (by omega) (by omega) dL_law_638 (fun r G1 hs1 hp => ?_)
  obtain ⟨rfl, hw1, f, hf, hf0⟩ := hp
  refine j_ist6 hE dL_law_641 (by decide) rfl ?_
  refine j_aload_n hE (i := 2) dL_law_643 rfl rfl ?_
  refine j_aload_n hE (i := 0) dL_law_644 rfl rfl ?_
  refine j_iload hE dL_law_645 rfl ?_
  refine j_iconst hE (v := nI 1) dL_law_647 (by decide) ?_
  refine j_iaddN hE dL_law_648 ?_
  refine j_sld hE hZ rfl (by omega) hL dL_law_649 ?_
  refine j_cVi hE mlL_122 hw1.m0 (fun l hl => hM l hl G1 hs1 hw1) rfl rfl (Nat.le_of_ble_eq_true rfl) (by decide) (by decide) (by omega) (by omega) dL_law_650 (fun r2 G2 hs2 hp2 => ?_) (fun _ _ h => h.elim)
  obtain ⟨e2, e3⟩ := hp2
  subst e2
  obtain ⟨hw2, e233, e234⟩ := hw1.md e3
  refine j_ist7 hE dL_law_653 (by decide) rfl ?_
  refine j_aload_n hE (i := 2) dL_law_655 rfl rfl ?_
  refine j_cVi hE mlL_92 hw2.m0 (lw_thrown hw2) rfl rfl (Nat.le_of_ble_eq_true rfl) (by decide) (by decide) (by omega) (by omega) dL_law_656 (fun r3 G3 hs3 hp3 => ?_) (fun _ _ h => h.elim)
  obtain ⟨e4, e5⟩ := hp3
  subst e5
  rw [hth] at e4
  subst e4
  refine j_iload hE dL_law_659 rfl ?_
  refine j_ic_eqN hE (tgt := 666) dL_law_661 (by decide) (by omega) (by omega) (fun _ => ?_) (fun q => absurd rfl q)
  refine j_iload hE dL_law_666 rfl ?_
  refine j_if_neN hE (tgt := 683) dL_law_668 (by decide) (by omega) (fun _ => ?_) (fun q => ?_)
  · refine j_goto hE (tgt := 1453) dL_law_683 (by decide) ?_
    refine j_widen (k := cells + 4) (n := slots + 24) (by omega) (by omega) ?_
    refine j_less (lo2 := lwL b x i) lwL_less ?_
    exact nx _ _ _ _ hR2 hw2
  · refine j_aload_n hE (i := 3) dL_law_671 rfl rfl ?_
    refine j_iconst hE (v := nI 0) dL_law_672 (by decide) ?_
    refine j_lald hE (e233.trans hf) rfl (by omega) (by decide) dL_law_673 ?_
    rw [hf0 q]
    refine j_iload hE dL_law_674 rfl ?_
    refine j_i2l hE dL_law_676 ?_
    refine j_lcmp hE dL_law_677 ?_
    refine j_if_eq hE (tgt := 683) dL_law_678 (by decide) (fun _ => ?_) (fun q2 => absurd ((lg_cmp_eq _ _).mpr rfl) q2)
    refine j_goto hE (tgt := 1453) dL_law_683 (by decide) ?_
    refine j_widen (k := cells + 4) (n := slots + 24) (by omega) (by omega) ?_
    refine j_less (lo2 := lwL b x i) lwL_less ?_
    exact nx _ _ _ _ hR2 hw2
set_option maxRecDepth 100000 in
set_option maxHeartbeats 4000000 in
theorem law_pending (hE : jC K A E RL cL_law 9 12 438 601024 7293034) (hZ : jScr A E b L xs) (hL : L ≤ 2560) (hi : i + 5 ≤ L) (hR : RelV c v) (hw : lwOk K G x c v) (hc9 : cells + 4 ≤ 601024) (hs9 : slots + 24 ≤ 7293034) (nx : lwN K A E b x cells slots i) : J K A E 9 G hs cells slots 686 (lwL b x i) [] := by
  obtain ⟨bb, c2, v2, hR2, hH, hM⟩ := OP_pending (K := K) (x := x) hR
  dsimp only at hH hM
  refine j_aload_n hE (i := 1) dL_law_686 rfl rfl ?_
  refine j_cVi hE mlL_123 hw.1.f0 (fun l hl => hH l hl G hs hw) rfl rfl (Nat.le_of_ble_eq_true rfl) (by decide) (by decide) (by omega) (by omega) dL_law_687 (fun r G1 hs1 hp => ?_) (fun _ _ h => h.elim)
  obtain ⟨rfl, hw1⟩ := hp
  refine j_aload_n hE (i := 2) dL_law_690 rfl rfl ?_
  refine j_cVi hE mlL_126 hw1.m0 (fun l hl => hM l hl G1 hs1 hw1) rfl rfl (Nat.le_of_ble_eq_true rfl) (by decide) (by decide) (by omega) (by omega) dL_law_691 (fun r2 G2 hs2 hp2 => ?_) (fun _ _ h => h.elim)
  obtain ⟨e2, hw2⟩ := hp2
  subst e2
  refine j_ic_eq hE (tgt := 1453) dL_law_694 (by decide) (fun _ => ?_) (fun q => absurd rfl q)
  refine j_widen (k := cells + 4) (n := slots + 24) (by omega) (by omega) ?_
  refine j_less (lo2 := lwL b x i) lwL_less ?_
  exact nx _ _ _ _ hR2 hw2
set_option maxRecDepth 100000 in
set_option maxHeartbeats 4000000 in
theorem law_bit (hE : jC K A E RL cL_law 9 12 438 601024 7293034) (hZ : jScr A E b L xs) (hL : L ≤ 2560) (hi : i + 5 ≤ L) (hR : RelV c v) (hw : lwOk K G x c v) (hc9 : cells + 4 ≤ 601024) (hs9 : slots + 24 ≤ 7293034) (nx : lwN K A E b x cells slots i) : J K A E 9 G hs cells slots 699 (lwL b x i) [] := by
  obtain ⟨kk, bb, c2, v2, hkk, hR2, hth, hH, hM⟩ := OP_bit (K := K) (x := x) hR (xs (i + 1))
  dsimp only at hH hM
  refine j_aload_n hE (i := 1) dL_law_699 rfl rfl ?_
  refine j_aload_n hE (i := 0) dL_law_700 rfl rfl ?_
  refine j_iload hE dL_law_701 rfl ?_
  refine j_iconst hE (v := nI 1) dL_law_703 (by decide) ?_
  refine j_iaddN hE dL_law_704 ?_
  refine j_sld hE hZ rfl (by omega) hL dL_law_705 ?_
  refine j_aload_n hE (i := 3) dL_law_706 rfl rfl ?_
  refine j_cSWi hE swL_127 (fun l hl => hH l hl G hs hw) rfl rfl (Nat.le_of_ble_eq_true rfl) (by decide) (by decide) (by omega) (by omega) dL_law_707 (fun r G1 hs1 hp => ?_)
  obtain ⟨rfl, hw1, f, hf, hf0⟩ := hp
  refine j_ist6 hE dL_law_710 (by decide) rfl ?_
  refine j_aload_n hE (i := 2) dL_law_712 rfl rfl ?_
  refine j_aload_n hE (i := 0) dL_law_713 rfl rfl ?_
  refine j_iload hE dL_law_714 rfl ?_
  refine j_iconst hE (v := nI 1) dL_law_716 (by decide) ?_
  refine j_iaddN hE dL_law_717 ?_
  refine j_sld hE hZ rfl (by omega) hL dL_law_718 ?_
  refine j_cVi hE mlL_129 hw1.m0 (fun l hl => hM l hl G1 hs1 hw1) rfl rfl (Nat.le_of_ble_eq_true rfl) (by decide) (by decide) (by omega) (by omega) dL_law_719 (fun r2 G2 hs2 hp2 => ?_) (fun _ _ h => h.elim)
  obtain ⟨e2, e3⟩ := hp2
  subst e2
  obtain ⟨hw2, e233, e234⟩ := hw1.md e3
  refine j_ist7 hE dL_law_722 (by decide) rfl ?_
  refine j_aload_n hE (i := 2) dL_law_724 rfl rfl ?_
  refine j_cVi hE mlL_92 hw2.m0 (lw_thrown hw2) rfl rfl (Nat.le_of_ble_eq_true rfl) (by decide) (by decide) (by omega) (by omega) dL_law_725 (fun r3 G3 hs3 hp3 => ?_) (fun _ _ h => h.elim)
  obtain ⟨e4, e5⟩ := hp3
  subst e5
  rw [hth] at e4
  subst e4
  refine j_iload hE dL_law_728 rfl ?_
  refine j_ic_eqN hE (tgt := 735) dL_law_730 (by decide) (by omega) (by omega) (fun _ => ?_) (fun q => absurd rfl q)
  refine j_iload hE dL_law_735 rfl ?_
  refine j_if_neN hE (tgt := 752) dL_law_737 (by decide) (by omega) (fun _ => ?_) (fun q => ?_)
  · refine j_goto hE (tgt := 1453) dL_law_752 (by decide) ?_
    refine j_widen (k := cells + 4) (n := slots + 24) (by omega) (by omega) ?_
    refine j_less (lo2 := lwL b x i) lwL_less ?_
    exact nx _ _ _ _ hR2 hw2
  · refine j_aload_n hE (i := 3) dL_law_740 rfl rfl ?_
    refine j_iconst hE (v := nI 0) dL_law_741 (by decide) ?_
    refine j_lald hE (e233.trans hf) rfl (by omega) (by decide) dL_law_742 ?_
    rw [hf0 q]
    refine j_iload hE dL_law_743 rfl ?_
    refine j_i2l hE dL_law_745 ?_
    refine j_lcmp hE dL_law_746 ?_
    refine j_if_eq hE (tgt := 752) dL_law_747 (by decide) (fun _ => ?_) (fun q2 => absurd ((lg_cmp_eq _ _).mpr rfl) q2)
    refine j_goto hE (tgt := 1453) dL_law_752 (by decide) ?_
    refine j_widen (k := cells + 4) (n := slots + 24) (by omega) (by omega) ?_
    refine j_less (lo2 := lwL b x i) lwL_less ?_
    exact nx _ _ _ _ hR2 hw2
set_option maxRecDepth 100000 in
set_option maxHeartbeats 4000000 in
theorem law_disturb (hE : jC K A E RL cL_law 9 12 438 601024 7293034) (hZ : jScr A E b L xs) (hL : L ≤ 2560) (hi : i + 5 ≤ L) (hR : RelV c v) (hw : lwOk K G x c v) (hc9 : cells + 4 ≤ 601024) (hs9 : slots + 24 ≤ 7293034) (nx : lwN K A E b x cells slots i) : J K A E 9 G hs cells slots 755 (lwL b x i) [] := by
  obtain ⟨kk, bb, c2, v2, hkk, hR2, hth, hH, hM⟩ := OP_disturb (K := K) (x := x) hR (xs (i + 1)) (xs (i + 2))
  dsimp only at hH hM
  refine j_aload_n hE (i := 1) dL_law_755 rfl rfl ?_
  refine j_aload_n hE (i := 0) dL_law_756 rfl rfl ?_
  refine j_iload hE dL_law_757 rfl ?_
  refine j_iconst hE (v := nI 1) dL_law_759 (by decide) ?_
  refine j_iaddN hE dL_law_760 ?_
  refine j_sld hE hZ rfl (by omega) hL dL_law_761 ?_
  refine j_aload_n hE (i := 0) dL_law_762 rfl rfl ?_
  refine j_iload hE dL_law_763 rfl ?_
  refine j_iconst hE (v := nI 2) dL_law_765 (by decide) ?_
  refine j_iaddN hE dL_law_766 ?_
  refine j_sld hE hZ rfl (by omega) hL dL_law_767 ?_
  refine j_aload_n hE (i := 3) dL_law_768 rfl rfl ?_
  refine j_cSWi hE swL_130 (fun l hl => hH l hl G hs hw) rfl rfl (Nat.le_of_ble_eq_true rfl) (by decide) (by decide) (by omega) (by omega) dL_law_769 (fun r G1 hs1 hp => ?_)
  obtain ⟨rfl, hw1, f, hf, hf0⟩ := hp
  refine j_ist6 hE dL_law_772 (by decide) rfl ?_
  refine j_aload_n hE (i := 2) dL_law_774 rfl rfl ?_
  refine j_aload_n hE (i := 0) dL_law_775 rfl rfl ?_
  refine j_iload hE dL_law_776 rfl ?_
  refine j_iconst hE (v := nI 1) dL_law_778 (by decide) ?_
  refine j_iaddN hE dL_law_779 ?_
  refine j_sld hE hZ rfl (by omega) hL dL_law_780 ?_
  refine j_aload_n hE (i := 0) dL_law_781 rfl rfl ?_
  refine j_iload hE dL_law_782 rfl ?_
  refine j_iconst hE (v := nI 2) dL_law_784 (by decide) ?_
  refine j_iaddN hE dL_law_785 ?_
  refine j_sld hE hZ rfl (by omega) hL dL_law_786 ?_
  refine j_cVi hE mlL_132 hw1.m0 (fun l hl => hM l hl G1 hs1 hw1) rfl rfl (Nat.le_of_ble_eq_true rfl) (by decide) (by decide) (by omega) (by omega) dL_law_787 (fun r2 G2 hs2 hp2 => ?_) (fun _ _ h => h.elim)
  obtain ⟨e2, e3⟩ := hp2
  subst e2
  obtain ⟨hw2, e233, e234⟩ := hw1.md e3
  refine j_ist7 hE dL_law_790 (by decide) rfl ?_
  refine j_aload_n hE (i := 2) dL_law_792 rfl rfl ?_
  refine j_cVi hE mlL_92 hw2.m0 (lw_thrown hw2) rfl rfl (Nat.le_of_ble_eq_true rfl) (by decide) (by decide) (by omega) (by omega) dL_law_793 (fun r3 G3 hs3 hp3 => ?_) (fun _ _ h => h.elim)
  obtain ⟨e4, e5⟩ := hp3
  subst e5
  rw [hth] at e4
  subst e4
  refine j_iload hE dL_law_796 rfl ?_
  refine j_ic_eqN hE (tgt := 803) dL_law_798 (by decide) (by omega) (by omega) (fun _ => ?_) (fun q => absurd rfl q)
  refine j_iload hE dL_law_803 rfl ?_
  refine j_if_neN hE (tgt := 820) dL_law_805 (by decide) (by omega) (fun _ => ?_) (fun q => ?_)
  · refine j_goto hE (tgt := 1453) dL_law_820 (by decide) ?_
    refine j_widen (k := cells + 4) (n := slots + 24) (by omega) (by omega) ?_
    refine j_less (lo2 := lwL b x i) lwL_less ?_
    exact nx _ _ _ _ hR2 hw2
  · refine j_aload_n hE (i := 3) dL_law_808 rfl rfl ?_
    refine j_iconst hE (v := nI 0) dL_law_809 (by decide) ?_
    refine j_lald hE (e233.trans hf) rfl (by omega) (by decide) dL_law_810 ?_
    rw [hf0 q]
    refine j_iload hE dL_law_811 rfl ?_
    refine j_i2l hE dL_law_813 ?_
    refine j_lcmp hE dL_law_814 ?_
    refine j_if_eq hE (tgt := 820) dL_law_815 (by decide) (fun _ => ?_) (fun q2 => absurd ((lg_cmp_eq _ _).mpr rfl) q2)
    refine j_goto hE (tgt := 1453) dL_law_820 (by decide) ?_
    refine j_widen (k := cells + 4) (n := slots + 24) (by omega) (by omega) ?_
    refine j_less (lo2 := lwL b x i) lwL_less ?_
    exact nx _ _ _ _ hR2 hw2
end LC1
