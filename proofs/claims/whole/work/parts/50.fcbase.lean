/-! ===== the class: what its calls share ===== -/
set_option maxRecDepth 100000 in
set_option maxHeartbeats 4000000 in
theorem c_X5_requireArgument_t {l : Launch} (hl : l.stackTraces = false) (K : jK) (G : GH) (hs : Nat) : Ct l K yX5_requireArgument cX5_requireArgument 1 none 6 82 1 6 [.int (nI 1)] G hs (pV (fun G' _ => G' = G)) jno := by
  refine Ct.ofA hl (by decide) (Nat.le_of_ble_eq_true rfl) (L0 := [some (.int (nI 1))]) (jL_of 0 rfl) ?_
  intro A E hE hQ hX hNm
  refine j_iload_n hE (i := 0) dX5_requireArgument_0 rfl rfl ?_
  refine j_if_neN hE (tgt := 14) dX5_requireArgument_1 (by decide) (by omega) (fun h1 => ?_) (fun h1 => ?_)
  · refine j_vret hE hQ (by omega) (by omega) dX5_requireArgument_14 ?_
    exact ⟨rfl, rfl⟩
  · exfalso; omega

set_option maxRecDepth 100000 in
set_option maxHeartbeats 4000000 in
theorem c_X5_requireArgument_f {l : Launch} (hl : l.stackTraces = false) (K : jK) (G : GH) (hs : Nat) : Ct l K yX5_requireArgument cX5_requireArgument 1 none 6 82 1 6 [.int (nI 0)] G hs (pV (fun _ _ => False)) (fun X G' => X = jIA ∧ G' = G) := by
  refine Ct.ofA hl (by decide) (Nat.le_of_ble_eq_true rfl) (L0 := [some (.int (nI 0))]) (jL_of 0 rfl) ?_
  intro A E hE hQ hX hNm
  refine j_iload_n hE (i := 0) dX5_requireArgument_0 rfl rfl ?_
  refine j_if_neN hE (tgt := 14) dX5_requireArgument_1 (by decide) (by omega) (fun h1 => ?_) (fun h1 => ?_)
  · exfalso; omega
  · exact j_throwB hE hX hQ jTh_A (by decide) (Nat.le_of_ble_eq_true rfl) (by omega) (by omega) dX5_requireArgument_4 dX5_requireArgument_7 dX5_requireArgument_8 dX5_requireArgument_10 dX5_requireArgument_13 ⟨rfl, rfl⟩

set_option maxRecDepth 100000 in
set_option maxHeartbeats 4000000 in
theorem c_X5_requireState_t {l : Launch} (hl : l.stackTraces = false) (K : jK) (G : GH) (hs : Nat) : Ct l K yX5_requireState cX5_requireState 1 none 6 82 1 6 [.int (nI 1)] G hs (pV (fun G' _ => G' = G)) jno := by
  refine Ct.ofA hl (by decide) (Nat.le_of_ble_eq_true rfl) (L0 := [some (.int (nI 1))]) (jL_of 0 rfl) ?_
  intro A E hE hQ hX hNm
  refine j_iload_n hE (i := 0) dX5_requireState_0 rfl rfl ?_
  refine j_if_neN hE (tgt := 14) dX5_requireState_1 (by decide) (by omega) (fun h1 => ?_) (fun h1 => ?_)
  · refine j_vret hE hQ (by omega) (by omega) dX5_requireState_14 ?_
    exact ⟨rfl, rfl⟩
  · exfalso; omega

set_option maxRecDepth 100000 in
set_option maxHeartbeats 4000000 in
theorem c_X5_requireState_f {l : Launch} (hl : l.stackTraces = false) (K : jK) (G : GH) (hs : Nat) : Ct l K yX5_requireState cX5_requireState 1 none 6 82 1 6 [.int (nI 0)] G hs (pV (fun _ _ => False)) (fun X G' => X = jIS ∧ G' = G) := by
  refine Ct.ofA hl (by decide) (Nat.le_of_ble_eq_true rfl) (L0 := [some (.int (nI 0))]) (jL_of 0 rfl) ?_
  intro A E hE hQ hX hNm
  refine j_iload_n hE (i := 0) dX5_requireState_0 rfl rfl ?_
  refine j_if_neN hE (tgt := 14) dX5_requireState_1 (by decide) (by omega) (fun h1 => ?_) (fun h1 => ?_)
  · exfalso; omega
  · exact j_throwB hE hX hQ jTh_S (by decide) (Nat.le_of_ble_eq_true rfl) (by omega) (by omega) dX5_requireState_4 dX5_requireState_7 dX5_requireState_8 dX5_requireState_10 dX5_requireState_13 ⟨rfl, rfl⟩

set_option maxRecDepth 100000 in
set_option maxHeartbeats 4000000 in
theorem c_X5_requireIndex_t {l : Launch} (hl : l.stackTraces = false) (K : jK) (G : GH) (hs i n : Nat) (h : i < n) (hn : n < 2 ^ 31) : Ct l K yX5_requireIndex cX5_requireIndex 2 none 6 82 1 6 [.int (nI i), .int (nI n)] G hs (pV (fun G' _ => G' = G)) jno := by
  refine Ct.ofA hl (by decide) (Nat.le_of_ble_eq_true rfl) (L0 := [some (.int (nI i)), some (.int (nI n))]) (jL_of 0 rfl) ?_
  intro A E hE hQ hX hNm
  refine j_iload_n hE (i := 0) dX5_requireIndex_0 rfl rfl ?_
  refine j_if_lt hE (tgt := 9) dX5_requireIndex_1 (by decide) (fun h1 => ?_) (fun h1 => ?_)
  · exact absurd h1 (nI_pos (by omega))
  · refine j_iload_n hE (i := 0) dX5_requireIndex_4 rfl rfl ?_
    refine j_iload_n hE (i := 1) dX5_requireIndex_5 rfl rfl ?_
    refine j_ic_ltN hE (tgt := 19) dX5_requireIndex_6 (by decide) (by omega) (by omega) (fun h6 => ?_) (fun h6 => ?_)
    · refine j_vret hE hQ (by omega) (by omega) dX5_requireIndex_19 ?_
      exact ⟨rfl, rfl⟩
    · exfalso; omega

set_option maxRecDepth 100000 in
set_option maxHeartbeats 4000000 in
theorem c_X5_requireIndex_f {l : Launch} (hl : l.stackTraces = false) (K : jK) (G : GH) (hs n : Nat) (p : Int32) (h : ∀ j, j < n → p ≠ nI j) (hn : n < 2 ^ 31) : Ct l K yX5_requireIndex cX5_requireIndex 2 none 6 82 1 6 [.int p, .int (nI n)] G hs (pV (fun _ _ => False)) (fun X G' => X = jIX ∧ G' = G) := by
  refine Ct.ofA hl (by decide) (Nat.le_of_ble_eq_true rfl) (L0 := [some (.int p), some (.int (nI n))]) (jL_of 0 rfl) ?_
  intro A E hE hQ hX hNm
  refine j_iload_n hE (i := 0) dX5_requireIndex_0 rfl rfl ?_
  refine j_if_lt hE (tgt := 9) dX5_requireIndex_1 (by decide) (fun h1 => ?_) (fun h1 => ?_)
  · exact j_throwB hE hX hQ jTh_X (by decide) (Nat.le_of_ble_eq_true rfl) (by omega) (by omega) dX5_requireIndex_9 dX5_requireIndex_12 dX5_requireIndex_13 dX5_requireIndex_15 dX5_requireIndex_18 ⟨rfl, rfl⟩
  · refine j_iload_n hE (i := 0) dX5_requireIndex_4 rfl rfl ?_
    refine j_iload_n hE (i := 1) dX5_requireIndex_5 rfl rfl ?_
    refine j_ic_lt hE (tgt := 19) dX5_requireIndex_6 (by decide) (fun h6 => ?_) (fun h6 => ?_)
    · obtain ⟨j, hj, rfl⟩ := nI_of h1
      exact absurd rfl (h j ((nI_ltI hj hn).mp h6))
    · exact j_throwB hE hX hQ jTh_X (by decide) (Nat.le_of_ble_eq_true rfl) (by omega) (by omega) dX5_requireIndex_9 dX5_requireIndex_12 dX5_requireIndex_13 dX5_requireIndex_15 dX5_requireIndex_18 ⟨rfl, rfl⟩

set_option maxRecDepth 100000 in
set_option maxHeartbeats 4000000 in
theorem c_X5_parameterAt_t {l : Launch} (hl : l.stackTraces = false) (K : jK) (G : GH) (x hs n : Nat) (q : Nat → Nat) (cnt nw w m : Nat) (pl : Bool) (tk : Nat) (ow : Nat → Int32) (P : Nat → PaV) (pc nx : Nat) (bits : Nat → Int32) (nb : Nat) (rc : RcV) (md : Nat) (S : Nat → StV) (d : LyV) (hc : fcOk K G x n q cnt nw (w, m, pl, tk, ow, P, pc, nx, bits, nb, rc, md) S d) (hpc : pc ≤ 12) (j : Nat) (hj : j < pc) : Ct l K yX5_parameterAt cX5_parameterAt 2 (some (.object "FrameCommutator$Parameter")) 7 103 1 6 [.ref x, .int (nI j)] G hs (pR (fun z9 G' _ => z9 = n + 9 + 3 * j ∧ G' = G)) jno := by
  refine Ct.ofA hl (by decide) (Nat.le_of_ble_eq_true rfl) (L0 := [some (.ref x), some (.int (nI j))]) (jL_of 0 rfl) ?_
  intro A E hE hQ hX hNm
  refine j_iload_n hE (i := 1) dX5_parameterAt_0 rfl rfl ?_
  refine j_aload_n hE (i := 0) dX5_parameterAt_1 rfl rfl ?_
  refine j_get hE flX5_12 hc.f0 rfl dX5_parameterAt_2 ?_
  refine j_get hE flX5_53 (hc.g st_0) rfl dX5_parameterAt_5 ?_
  refine j_cSv hE mlX5_95 (fun l hl => c_X5_requireIndex_t hl K _ _ _ _ hj (by omega)) rfl rfl (Nat.le_of_ble_eq_true rfl) (by decide) (by decide) (by omega) (by omega) dX5_parameterAt_8 (fun G9 hs9 hp => ?_) (fun _ _ h => h.elim)
  subst hp
  refine j_aload_n hE (i := 0) dX5_parameterAt_11 rfl rfl ?_
  refine j_get hE flX5_12 hc.f0 rfl dX5_parameterAt_12 ?_
  refine j_get hE flX5_59 (hc.g st_0) rfl dX5_parameterAt_15 ?_
  refine j_iload_n hE (i := 1) dX5_parameterAt_18 rfl rfl ?_
  refine j_par hE (hc.g st_3) rfl (by omega) dX5_parameterAt_19 ?_
  refine j_aret hE hQ (by omega) (by omega) dX5_parameterAt_20 ?_
  exact ⟨_, rfl, rfl, rfl⟩

set_option maxRecDepth 100000 in
set_option maxHeartbeats 4000000 in
theorem c_X5_parameterAt_f {l : Launch} (hl : l.stackTraces = false) (K : jK) (G : GH) (x hs n : Nat) (q : Nat → Nat) (cnt nw w m : Nat) (pl : Bool) (tk : Nat) (ow : Nat → Int32) (P : Nat → PaV) (pc nx : Nat) (bits : Nat → Int32) (nb : Nat) (rc : RcV) (md : Nat) (S : Nat → StV) (d : LyV) (hc : fcOk K G x n q cnt nw (w, m, pl, tk, ow, P, pc, nx, bits, nb, rc, md) S d) (hpc : pc ≤ 12) (p : Int32) (hj : ∀ j, j < pc → p ≠ nI j) : Ct l K yX5_parameterAt cX5_parameterAt 2 (some (.object "FrameCommutator$Parameter")) 7 103 1 6 [.ref x, .int p] G hs (pR (fun _ _ _ => False)) (fun X G' => X = jIX ∧ G' = G) := by
  refine Ct.ofA hl (by decide) (Nat.le_of_ble_eq_true rfl) (L0 := [some (.ref x), some (.int p)]) (jL_of 0 rfl) ?_
  intro A E hE hQ hX hNm
  refine j_iload_n hE (i := 1) dX5_parameterAt_0 rfl rfl ?_
  refine j_aload_n hE (i := 0) dX5_parameterAt_1 rfl rfl ?_
  refine j_get hE flX5_12 hc.f0 rfl dX5_parameterAt_2 ?_
  refine j_get hE flX5_53 (hc.g st_0) rfl dX5_parameterAt_5 ?_
  refine j_cSv hE mlX5_95 (fun l hl => c_X5_requireIndex_f hl K _ _ _ _ hj (by omega)) rfl rfl (Nat.le_of_ble_eq_true rfl) (by decide) (by decide) (by omega) (by omega) dX5_parameterAt_8 (fun G9 hs9 hp => ?_) (fun X G9 h => by obtain ⟨rfl, rfl⟩ := h; exact j_out hE hX hQ (by omega) (by omega) ⟨rfl, rfl⟩)
  exact hp.elim

set_option maxRecDepth 100000 in
set_option maxHeartbeats 4000000 in
theorem c_X5_save {l : Launch} (hl : l.stackTraces = false) (K : jK) (G : GH) (x hs n : Nat) (q : Nat → Nat) (cnt nw w m : Nat) (pl : Bool) (tk : Nat) (ow : Nat → Int32) (P : Nat → PaV) (pc nx : Nat) (bits : Nat → Int32) (nb : Nat) (rc : RcV) (md : Nat) (S : Nat → StV) (d : LyV) (hc : fcOk K G x n q cnt nw (w, m, pl, tk, ow, P, pc, nx, bits, nb, rc, md) S d) (hpc : pc ≤ 12) : Ct l K yX5_save cX5_save 1 none 3 61 0 0 [.ref x] G hs (pV (fun G' _ => fcOk K G' x n q (sC cnt) ((nw + 1) % 4) (w, m, pl, tk, ow, P, pc, nx, bits, nb, rc, md) (svS S nw (w, m, pl, tk, ow, P, pc, nx, bits, nb, rc, md)) d ∧ fO x G G')) jno := by
  refine Ct.ofA hl (by decide) (Nat.le_of_ble_eq_true rfl) (L0 := [some (.ref x)]) (jL_of 0 rfl) ?_
  intro A E hE hQ hX hNm
  have h4 : (nw + 1) % 4 < 4 := Nat.mod_lt _ (by omega)
  have hnw := hc.f6
  have hcnt := hc.f7
  refine j_aload_n hE (i := 0) dX5_save_0 rfl rfl ?_
  refine j_aload_n hE (i := 0) dX5_save_1 rfl rfl ?_
  refine j_get hE flX5_24 hc.f0 rfl dX5_save_2 ?_
  refine j_iconst hE (v := nI 1) dX5_save_5 (by decide) ?_
  refine j_iaddN hE dX5_save_6 ?_
  refine j_iconst hE (v := nI 4) dX5_save_7 (by decide) ?_
  refine j_iremN hE dX5_save_8 (by omega) (by omega) (by omega) ?_
  refine j_put hE flX5_24 hc.f0 rfl rfl (by simp only [List.length_cons, List.length_nil]; omega) dX5_save_9 ?_
  generalize hG1 : gset G _ _ = G1
  obtain ⟨hc, hO⟩ := hc.self (cnt' := cnt) h4 hcnt hG1.symm
  refine j_aload_n hE (i := 0) dX5_save_12 rfl rfl ?_
  refine j_get hE flX5_16 hc.f0 rfl dX5_save_13 ?_
  refine j_aload_n hE (i := 0) dX5_save_16 rfl rfl ?_
  refine j_get hE flX5_24 hc.f0 rfl dX5_save_17 ?_
  refine j_sav hE hc.f1 rfl h4 dX5_save_20 ?_
  refine j_aload_n hE (i := 0) dX5_save_21 rfl rfl ?_
  refine j_get hE flX5_12 hc.f0 rfl dX5_save_22 ?_
  refine j_cVv hE mlX5_200 ((congrFun (hc.f4 _ h4) _).symm.trans st_0) (fun l hl => Ct.at (hc.f4 _ h4) (c_X4_copyFrom hl K _ (q ((nw + 1) % 4)) _ _ _ _ _ _ _ _ _ _ _ _ _ (hc.f9 _ h4) n _ _ _ _ _ _ _ _ _ _ _ _ hpc hc.f8 hc.f3 (by have := hc.f5.1.dis (hc.f5.2.1 _ h4) (fun e => hc.f5.2.2.1 _ h4 e.symm); omega))) rfl rfl (Nat.le_of_ble_eq_true rfl) (by decide) (by decide) (by omega) (by omega) dX5_save_25 (fun G9 hs9 hp => ?_) (fun _ _ h => h.elim)
  obtain ⟨hc, hO2⟩ := hc.kp h4 (s' := cpS (S ((nw + 1) % 4)) (w, m, pl, tk, ow, P, pc, nx, bits, nb, rc, md)) hc.f8 hp
  replace hO := hO.tr hO2
  refine j_aload_n hE (i := 0) dX5_save_28 rfl rfl ?_
  refine j_get hE flX5_20 hc.f0 rfl dX5_save_29 ?_
  refine j_iconst hE (v := nI 4) dX5_save_32 (by decide) ?_
  refine j_ic_geN hE (tgt := 46) dX5_save_33 (by decide) (by omega) (by omega) (fun h33 => ?_) (fun h33 => ?_)
  · have e6 : sC cnt = cnt := if_neg (by omega)
    refine j_vret hE hQ (by omega) (by omega) dX5_save_46 ?_
    exact ⟨rfl, by rw [e6]; exact hc, hO⟩
  · have e6 : sC cnt = cnt + 1 := if_pos (by omega)
    refine j_aload_n hE (i := 0) dX5_save_36 rfl rfl ?_
    refine j_dup hE dX5_save_37 rfl ?_
    refine j_get hE flX5_20 hc.f0 rfl dX5_save_38 ?_
    refine j_iconst hE (v := nI 1) dX5_save_41 (by decide) ?_
    refine j_iaddN hE dX5_save_42 ?_
    refine j_put hE flX5_20 hc.f0 rfl rfl (by simp only [List.length_cons, List.length_nil]; omega) dX5_save_43 ?_
    generalize hG2 : gset G9 _ _ = G2
    obtain ⟨hc, hO3⟩ := hc.self (cnt' := cnt + 1) h4 (by omega) hG2.symm
    replace hO := hO.tr hO3
    refine j_vret hE hQ (by omega) (by omega) dX5_save_46 ?_
    exact ⟨rfl, by rw [e6]; exact hc, hO⟩

