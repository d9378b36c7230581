/-! ===== the class: the rest of its calls ===== -/
/-- a minor frame sent: the bits, how many, the next minor frame -/
def sM (w m : Nat) (ow : Nat → Int32) (P : Nat → PaV) (pc : Nat) (_ : Nat) (t : (Nat → Int32) × Nat × Nat) : (Nat → Int32) × Nat × Nat :=
  (itr (sBd ow P pc t.2.2 t.2.1) (w - 3) (sHd t.2.2 t.2.1 t.1), t.2.1 + 24 + 8 * (w - 3), sNx m t.2.2)
theorem sM_nb {w m : Nat} {ow : Nat → Int32} {P : Nat → PaV} {pc : Nat} {t : (Nat → Int32) × Nat × Nat} (hw : 3 ≤ w) : ∀ i, (itr (sM w m ow P pc) i t).2.1 = t.2.1 + 8 * (i * w)
  | 0 => by rw [itr_0]; omega
  | i + 1 => by
    rw [itr_s]
    show (itr (sM w m ow P pc) i t).2.1 + 24 + 8 * (w - 3) = _
    rw [sM_nb hw i, show (i + 1) * w = i * w + w from Nat.succ_mul i w]
    omega
theorem sNx_lt {m nx : Nat} (h : 1 ≤ m) : sNx m nx < m := by
  unfold sNx
  split <;> omega
theorem sM_nx {w m : Nat} {ow : Nat → Int32} {P : Nat → PaV} {pc : Nat} {t : (Nat → Int32) × Nat × Nat} (hm : 1 ≤ m) (h : t.2.2 < m) : ∀ i, (itr (sM w m ow P pc) i t).2.2 < m
  | 0 => h
  | i + 1 => sNx_lt hm
set_option maxRecDepth 100000 in
set_option maxHeartbeats 4000000 in
theorem c_X5_plan_t {l : Launch} (hl : l.stackTraces = false) (K : jK) (G : GH) (x hs n : Nat) (q : Nat → Nat) (cnt nw w m : Nat) (pl : Bool) (tk : Nat) (ow : Nat → Int32) (P : Nat → PaV) (pc nx : Nat) (bits : Nat → Int32) (nb : Nat) (rc : RcV) (md : Nat) (S : Nat → StV) (dw dm : Nat) (dpl : Bool) (dtk : Nat) (dow : Nat → Int32) (hc : fcOk K G x n q cnt nw (w, m, pl, tk, ow, P, pc, nx, bits, nb, rc, md) S (dw, dm, dpl, dtk, dow)) (hpc : pc ≤ 12) (hw6 : 6 ≤ w) (hw9 : w ≤ 16) (hm1 : 1 ≤ m) (hm9 : m ≤ 8) (hr : ∀ j, j < pc → rOk (P j).1) (S9 : Nat → Nat) (hS9 : ∀ j, S9 j = sOf m (P j).1) (D : Nat → Nat → Int32) (TK : Nat → Nat) (hTK0 : TK 0 = 0) (hD0 : D 0 = itr (flF (-1)) 128 (va_cpy ow dow 0 0 128)) (hok : ∀ p, p < pc → plOk w m (P p).1 p (D (rank S9 pc p)) (D (rank S9 pc p + 1))) (hTK : ∀ p, p < pc → TK (rank S9 pc p + 1) = TK (rank S9 pc p) + S9 p) : Ct l K yX5_plan cX5_plan 2 (some .int) 6 142 0 0 [.ref x] G hs (pI (fun z9 G' _ => z9 = nI (TK pc) ∧ fcOk K G' x n q (sC cnt) ((nw + 1) % 4) (w, m, true, (TK pc), (va_cpy (D pc) ow 0 0 128), P, pc, nx, bits, nb, rc, md) (svS S nw (w, m, pl, tk, ow, P, pc, nx, bits, nb, rc, md)) (w, m, true, TK pc, D pc) ∧ fO x G G')) jno := by
  refine Ct.ofA hl (by decide) (Nat.le_of_ble_eq_true rfl) (L0 := [some (.ref x), none]) (jL_of 1 rfl) ?_
  intro A E hE hQ hX hNm
  have hO : fO x G G := fO.rf
  have hnb : nb ≤ 2048 := hc.f8
  refine j_aload_n hE (i := 0) dX5_plan_0 rfl rfl ?_
  refine j_get hE flX5_30 hc.f0 rfl dX5_plan_1 ?_
  refine j_aload_n hE (i := 0) dX5_plan_4 rfl rfl ?_
  refine j_get hE flX5_12 hc.f0 rfl dX5_plan_5 ?_
  refine j_get hE flX5_41 hc.g0 rfl dX5_plan_8 ?_
  refine j_cVv hE mlX5_69 (hc.gd rfl) (fun l hl => Ct.at hc.f2 (c_X1_copyFrom hl K _ (x + 227) _ _ _ _ _ _ (n + 1) _ _ _ _ _ hc.g1 hc.g2 (by have := hc.f5.1.at; omega))) rfl rfl (Nat.le_of_ble_eq_true rfl) (by decide) (by decide) (by omega) (by omega) dX5_plan_11 (fun G9 hs9 hp => ?_) (fun _ _ h => h.elim)
  obtain ⟨hc, hO9⟩ := hc.dr (d' := (w, m, pl, tk, va_cpy ow dow 0 0 128)) hp
  replace hO := hO.tr hO9
  refine j_aload_n hE (i := 0) dX5_plan_14 rfl rfl ?_
  refine j_get hE flX5_30 hc.f0 rfl dX5_plan_15 ?_
  refine j_cVv hE mlX5_73 (hc.gd rfl) (fun l hl => Ct.at hc.f2 (c_X1_freeAll hl K _ (x + 227) _ _ _ _ _ _)) rfl rfl (Nat.le_of_ble_eq_true rfl) (by decide) (by decide) (by omega) (by omega) dX5_plan_18 (fun G9 hs9 hp => ?_) (fun _ _ h => h.elim)
  obtain ⟨hc, hO9⟩ := hc.dr (d' := (w, m, pl, 0, itr (flF (-1)) 128 (va_cpy ow dow 0 0 128))) hp
  replace hO := hO.tr hO9
  rw [← hD0] at hc
  rw [show (w, m, pl, 0, D 0) = (w, m, pl, TK 0, D 0) by rw [hTK0]] at hc
  refine j_aload_n hE (i := 0) dX5_plan_21 rfl rfl ?_
  refine j_cVi hE mlX5_76 hc.f0 (fun l hl => c_X5_placeAll_t hl K _ _ _ _ _ _ _ _ _ _ _ _ _ _ _ _ _ _ _ _ pl D TK hc hpc hw6 hw9 hm1 hm9 hr S9 hS9 hok hTK) rfl rfl (Nat.le_of_ble_eq_true rfl) (by decide) (by decide) (by omega) (by omega) dX5_plan_22 (fun r G9 hs9 hp => ?_) (fun _ _ h => h.elim)
  obtain ⟨rfl, hc, hO9⟩ := hp
  replace hO := hO.tr hO9
  refine j_ist1 hE dX5_plan_25 rfl (by decide) rfl ?_
  refine j_iload_n hE (i := 1) dX5_plan_26 rfl rfl ?_
  refine j_iconst hE (v := -1) dX5_plan_27 (by decide) ?_
  refine j_ic_eq hE (tgt := 36) dX5_plan_28 (by decide) (fun h28 => ?_) (fun h28 => ?_)
  · refine j_aload_n hE (i := 0) dX5_plan_36 rfl rfl ?_
    refine j_cVv hE mlX5_38 hc.f0 (fun l hl => c_X5_save hl K _ _ _ _ _ _ _ _ _ _ _ _ _ _ _ _ _ _ _ _ _ hc hpc) rfl rfl (Nat.le_of_ble_eq_true rfl) (by decide) (by decide) (by omega) (by omega) dX5_plan_37 (fun G9 hs9 hp => ?_) (fun _ _ h => h.elim)
    obtain ⟨hc, hO9⟩ := hp
    replace hO := hO.tr hO9
    refine j_aload_n hE (i := 0) dX5_plan_40 rfl rfl ?_
    refine j_get hE flX5_30 hc.f0 rfl dX5_plan_41 ?_
    refine j_iconst hE (v := nI 1) dX5_plan_44 (by decide) ?_
    refine j_put hE flX5_80 (hc.gd rfl) (by decide) (by decide) (by simp only [List.length_cons, List.length_nil]; omega) dX5_plan_45 ?_
    refine jgen (fun G8 hG8 => ?_)
    obtain ⟨hc, hO9⟩ := hc.dr (d' := (w, m, true, TK pc, D pc)) (hG8.trans ((congrArg (fun Q => gset Q (x + 227) _) hc.f2.symm).trans (gB_set (i := 0) (by simp only [List.length_cons, List.length_nil]; omega))))
    replace hO := hO.tr hO9
    refine j_aload_n hE (i := 0) dX5_plan_48 rfl rfl ?_
    refine j_get hE flX5_12 hc.f0 rfl dX5_plan_49 ?_
    refine j_get hE flX5_41 hc.g0 rfl dX5_plan_52 ?_
    refine j_aload_n hE (i := 0) dX5_plan_55 rfl rfl ?_
    refine j_get hE flX5_30 hc.f0 rfl dX5_plan_56 ?_
    refine j_cVv hE mlX5_69 hc.g1 (fun l hl => Ct.at (st_ly.trans hc.f3) (c_X1_copyFrom hl K _ (n + 1) _ _ _ _ _ _ (x + 227) _ _ _ _ _ ((congrFun hc.f3 _).trans hc.d0) ((congrFun hc.f3 _).trans hc.d1) (by have := hc.f5.1.at; omega))) rfl rfl (Nat.le_of_ble_eq_true rfl) (by decide) (by decide) (by omega) (by omega) dX5_plan_59 (fun G9 hs9 hp => ?_) (fun _ _ h => h.elim)
    obtain ⟨hc, hO9⟩ := hc.now (s' := (w, m, true, (TK pc), (va_cpy (D pc) ow 0 0 128), P, pc, nx, bits, nb, rc, md)) hc.f8 (hp.trans (st_ly' _ _ _ _ _))
    replace hO := hO.tr hO9
    refine j_aload_n hE (i := 0) dX5_plan_62 rfl rfl ?_
    refine j_get hE flX5_30 hc.f0 rfl dX5_plan_63 ?_
    refine j_get hE flX5_84 (hc.gd rfl) rfl dX5_plan_66 ?_
    refine j_iret hE hQ rfl (by omega) (by omega) dX5_plan_69 ?_
    exact ⟨_, rfl, rfl, hc, hO⟩
  · exact absurd rfl h28

set_option maxRecDepth 100000 in
set_option maxHeartbeats 4000000 in
theorem c_X5_plan_f {l : Launch} (hl : l.stackTraces = false) (K : jK) (G : GH) (x hs n : Nat) (q : Nat → Nat) (cnt nw w m : Nat) (pl : Bool) (tk : Nat) (ow : Nat → Int32) (P : Nat → PaV) (pc nx : Nat) (bits : Nat → Int32) (nb : Nat) (rc : RcV) (md : Nat) (S : Nat → StV) (dw dm : Nat) (dpl : Bool) (dtk : Nat) (dow : Nat → Int32) (hc : fcOk K G x n q cnt nw (w, m, pl, tk, ow, P, pc, nx, bits, nb, rc, md) S (dw, dm, dpl, dtk, dow)) (hpc : pc ≤ 12) (hw6 : 6 ≤ w) (hw9 : w ≤ 16) (hm1 : 1 ≤ m) (hm9 : m ≤ 8) (hr : ∀ j, j < pc → rOk (P j).1) (S9 : Nat → Nat) (hS9 : ∀ j, S9 j = sOf m (P j).1) (D : Nat → Nat → Int32) (TK : Nat → Nat) (hTK0 : TK 0 = 0) (hD0 : D 0 = itr (flF (-1)) 128 (va_cpy ow dow 0 0 128)) (pT u0 : Nat) (hpT : pT < pc) (hu0 : S9 pT + u0 = 32) (hok : ∀ p, p < pc → (S9 pT < S9 p ∨ (S9 p = S9 pT ∧ p < pT)) → plOk w m (P p).1 p (D (rank S9 pc p)) (D (rank S9 pc p + 1))) (hTK : ∀ p, p < pc → (S9 pT < S9 p ∨ (S9 p = S9 pT ∧ p < pT)) → TK (rank S9 pc p + 1) = TK (rank S9 pc p) + S9 p) (hno : plNo w m (P pT).1 (D (rank S9 pc pT))) : Ct l K yX5_plan cX5_plan 2 (some .int) 6 142 0 0 [.ref x] G hs (pI (fun z9 G' _ => z9 = -10 - nI pT ∧ fcOk K G' x n q cnt nw (w, m, pl, tk, ow, P, pc, nx, bits, nb, rc, md) S (w, m, pl, TK (rank S9 pc pT), D (rank S9 pc pT)) ∧ fO x G G')) jno := by
  refine Ct.ofA hl (by decide) (Nat.le_of_ble_eq_true rfl) (L0 := [some (.ref x), none]) (jL_of 1 rfl) ?_
  intro A E hE hQ hX hNm
  have hO : fO x G G := fO.rf
  have hnb : nb ≤ 2048 := hc.f8
  refine j_aload_n hE (i := 0) dX5_plan_0 rfl rfl ?_
  refine j_get hE flX5_30 hc.f0 rfl dX5_plan_1 ?_
  refine j_aload_n hE (i := 0) dX5_plan_4 rfl rfl ?_
  refine j_get hE flX5_12 hc.f0 rfl dX5_plan_5 ?_
  refine j_get hE flX5_41 hc.g0 rfl dX5_plan_8 ?_
  refine j_cVv hE mlX5_69 (hc.gd rfl) (fun l hl => Ct.at hc.f2 (c_X1_copyFrom hl K _ (x + 227) _ _ _ _ _ _ (n + 1) _ _ _ _ _ hc.g1 hc.g2 (by have := hc.f5.1.at; omega))) rfl rfl (Nat.le_of_ble_eq_true rfl) (by decide) (by decide) (by omega) (by omega) dX5_plan_11 (fun G9 hs9 hp => ?_) (fun _ _ h => h.elim)
  obtain ⟨hc, hO9⟩ := hc.dr (d' := (w, m, pl, tk, va_cpy ow dow 0 0 128)) hp
  replace hO := hO.tr hO9
  refine j_aload_n hE (i := 0) dX5_plan_14 rfl rfl ?_
  refine j_get hE flX5_30 hc.f0 rfl dX5_plan_15 ?_
  refine j_cVv hE mlX5_73 (hc.gd rfl) (fun l hl => Ct.at hc.f2 (c_X1_freeAll hl K _ (x + 227) _ _ _ _ _ _)) rfl rfl (Nat.le_of_ble_eq_true rfl) (by decide) (by decide) (by omega) (by omega) dX5_plan_18 (fun G9 hs9 hp => ?_) (fun _ _ h => h.elim)
  obtain ⟨hc, hO9⟩ := hc.dr (d' := (w, m, pl, 0, itr (flF (-1)) 128 (va_cpy ow dow 0 0 128))) hp
  replace hO := hO.tr hO9
  rw [← hD0] at hc
  rw [show (w, m, pl, 0, D 0) = (w, m, pl, TK 0, D 0) by rw [hTK0]] at hc
  refine j_aload_n hE (i := 0) dX5_plan_21 rfl rfl ?_
  refine j_cVi hE mlX5_76 hc.f0 (fun l hl => c_X5_placeAll_f hl K _ _ _ _ _ _ _ _ _ _ _ _ _ _ _ _ _ _ _ _ pl D TK hc hpc hw6 hw9 hm1 hm9 hr S9 hS9 pT u0 hpT hu0 hok hTK hno) rfl rfl (Nat.le_of_ble_eq_true rfl) (by decide) (by decide) (by omega) (by omega) dX5_plan_22 (fun r G9 hs9 hp => ?_) (fun _ _ h => h.elim)
  obtain ⟨rfl, hc, hO9⟩ := hp
  replace hO := hO.tr hO9
  refine j_ist1 hE dX5_plan_25 rfl (by decide) rfl ?_
  refine j_iload_n hE (i := 1) dX5_plan_26 rfl rfl ?_
  refine j_iconst hE (v := -1) dX5_plan_27 (by decide) ?_
  refine j_ic_eq hE (tgt := 36) dX5_plan_28 (by decide) (fun h28 => ?_) (fun h28 => ?_)
  · exact absurd h28 (nI_m1 (by omega))
  · refine j_bipush hE (v := -10) dX5_plan_31 (by decide) ?_
    refine j_iload_n hE (i := 1) dX5_plan_33 rfl rfl ?_
    refine j_isub hE dX5_plan_34 ?_
    refine j_iret hE hQ rfl (by omega) (by omega) dX5_plan_35 ?_
    exact ⟨_, rfl, rfl, hc, hO⟩

set_option maxRecDepth 100000 in
set_option maxHeartbeats 4000000 in
theorem c_X5_slot_t0 {l : Launch} (hl : l.stackTraces = false) (K : jK) (G : GH) (x hs n : Nat) (q : Nat → Nat) (cnt nw w m : Nat) (tk : Nat) (ow : Nat → Int32) (P : Nat → PaV) (pc nx : Nat) (bits : Nat → Int32) (nb : Nat) (rc : RcV) (md : Nat) (S : Nat → StV) (d : LyV) (hc : fcOk K G x n q cnt nw (w, m, true, tk, ow, P, pc, nx, bits, nb, rc, md) S d) (hpc : pc ≤ 12) (j : Nat) (hj : j < pc) (s : Int32) (k0 : Nat) (hk0 : k0 < 128) (hyes : oP ow (nI j) k0 = true) (hyes2 : nI (cntB (oP ow (nI j)) k0) = s) (hno : ∀ k, k < k0 → oP ow (nI j) k = true → ¬ nI (cntB (oP ow (nI j)) k) = s) : Ct l K yX5_slot cX5_slot 5 (some .int) 7 103 4 24 [.ref x, .int (nI j), .int s, .int (nI 0)] G hs (pI (fun z9 G' _ => z9 = nI (k0 / 16) ∧ G' = G)) jno := by
  refine Ct.ofA hl (by decide) (Nat.le_of_ble_eq_true rfl) (L0 := [some (.ref x), some (.int (nI j)), some (.int s), some (.int (nI 0)), none]) (jL_of 1 rfl) ?_
  intro A E hE hQ hX hNm
  have hO : fO x G G := fO.rf
  have hnb : nb ≤ 2048 := hc.f8
  refine j_iload_n hE (i := 1) dX5_slot_0 rfl rfl ?_
  refine j_aload_n hE (i := 0) dX5_slot_1 rfl rfl ?_
  refine j_get hE flX5_12 hc.f0 rfl dX5_slot_2 ?_
  refine j_get hE flX5_53 hc.g0 rfl dX5_slot_5 ?_
  refine j_cSv hE mlX5_95 (fun l hl => c_X5_requireIndex_t hl K _ _ _ _ hj (by omega)) rfl rfl (Nat.le_of_ble_eq_true rfl) (by decide) (by decide) (by omega) (by omega) dX5_slot_8 (fun G9 hs9 hp => ?_) (fun _ _ h => h.elim)
  subst hp
  refine j_iload_n hE (i := 3) dX5_slot_11 rfl rfl ?_
  refine j_if_eqN hE (tgt := 20) dX5_slot_12 (by decide) (by omega) (fun h12 => ?_) (fun h12 => ?_)
  · refine j_iconst hE (v := nI 1) dX5_slot_20 (by decide) ?_
    refine j_goto hE (tgt := 25) dX5_slot_21 (by decide) ?_
    refine j_cSv hE mlX5_34 (fun l hl => c_X5_requireArgument_t hl K _ _) rfl rfl (Nat.le_of_ble_eq_true rfl) (by decide) (by decide) (by omega) (by omega) dX5_slot_25 (fun G9 hs9 hp => ?_) (fun _ _ h => h.elim)
    subst hp
    refine j_aload_n hE (i := 0) dX5_slot_28 rfl rfl ?_
    refine j_get hE flX5_12 hc.f0 rfl dX5_slot_29 ?_
    refine j_get hE flX5_41 hc.g0 rfl dX5_slot_32 ?_
    refine j_get hE flX5_80 hc.g1 rfl dX5_slot_35 ?_
    refine j_cSv hE mlX5_56 (fun l hl => c_X5_requireState_t hl K _ _) rfl rfl (Nat.le_of_ble_eq_true rfl) (by decide) (by decide) (by omega) (by omega) dX5_slot_38 (fun G9 hs9 hp => ?_) (fun _ _ h => h.elim)
    subst hp
    refine j_aload_n hE (i := 0) dX5_slot_41 rfl rfl ?_
    refine j_get hE flX5_12 hc.f0 rfl dX5_slot_42 ?_
    refine j_get hE flX5_41 hc.g0 rfl dX5_slot_45 ?_
    refine j_iload_n hE (i := 1) dX5_slot_48 rfl rfl ?_
    refine j_iload_n hE (i := 2) dX5_slot_49 rfl rfl ?_
    refine j_cVi hE mlX5_99 hc.g1 (fun l hl => Ct.at (st_ly.trans hc.f3) (c_X1_placeOf_t hl K _ (n + 1) _ _ _ _ _ _ _ _ k0 hk0 hyes hyes2 hno)) rfl rfl (Nat.le_of_ble_eq_true rfl) (by decide) (by decide) (by omega) (by omega) dX5_slot_50 (fun r G9 hs9 hp => ?_) (fun _ _ h => h.elim)
    obtain ⟨rfl, hp⟩ := hp
    have hp9 := hp.trans (st_ly.trans hc.f3)
    subst hp9
    refine j_ist4 hE dX5_slot_53 (by decide) rfl ?_
    refine j_iload hE dX5_slot_55 rfl ?_
    refine j_iconst hE (v := -1) dX5_slot_57 (by decide) ?_
    refine j_ic_eq hE (tgt := 65) dX5_slot_58 (by decide) (fun h58 => ?_) (fun h58 => ?_)
    · exact absurd h58 (nI_m1 (by omega))
    · refine j_iconst hE (v := nI 1) dX5_slot_61 (by decide) ?_
      refine j_goto hE (tgt := 66) dX5_slot_62 (by decide) ?_
      refine j_cSv hE mlX5_56 (fun l hl => c_X5_requireState_t hl K _ _) rfl rfl (Nat.le_of_ble_eq_true rfl) (by decide) (by decide) (by omega) (by omega) dX5_slot_66 (fun G9 hs9 hp => ?_) (fun _ _ h => h.elim)
      subst hp
      refine j_iload_n hE (i := 3) dX5_slot_69 rfl rfl ?_
      refine j_if_neN hE (tgt := 81) dX5_slot_70 (by decide) (by omega) (fun h70 => ?_) (fun h70 => ?_)
      · exfalso; omega
      · refine j_iload hE dX5_slot_73 rfl ?_
        refine j_bipush hE (v := nI 16) dX5_slot_75 (by decide) ?_
        refine j_idivN hE dX5_slot_77 (by omega) (by omega) (by omega) ?_
        refine j_goto hE (tgt := 86) dX5_slot_78 (by decide) ?_
        refine j_iret hE hQ rfl (by omega) (by omega) dX5_slot_86 ?_
        exact ⟨_, rfl, rfl, rfl⟩
  · exfalso; omega

set_option maxRecDepth 100000 in
set_option maxHeartbeats 4000000 in
theorem c_X5_slot_t1 {l : Launch} (hl : l.stackTraces = false) (K : jK) (G : GH) (x hs n : Nat) (q : Nat → Nat) (cnt nw w m : Nat) (tk : Nat) (ow : Nat → Int32) (P : Nat → PaV) (pc nx : Nat) (bits : Nat → Int32) (nb : Nat) (rc : RcV) (md : Nat) (S : Nat → StV) (d : LyV) (hc : fcOk K G x n q cnt nw (w, m, true, tk, ow, P, pc, nx, bits, nb, rc, md) S d) (hpc : pc ≤ 12) (j : Nat) (hj : j < pc) (s : Int32) (k0 : Nat) (hk0 : k0 < 128) (hyes : oP ow (nI j) k0 = true) (hyes2 : nI (cntB (oP ow (nI j)) k0) = s) (hno : ∀ k, k < k0 → oP ow (nI j) k = true → ¬ nI (cntB (oP ow (nI j)) k) = s) : Ct l K yX5_slot cX5_slot 5 (some .int) 7 103 4 24 [.ref x, .int (nI j), .int s, .int (nI 1)] G hs (pI (fun z9 G' _ => z9 = nI (k0 % 16) ∧ G' = G)) jno := by
  refine Ct.ofA hl (by decide) (Nat.le_of_ble_eq_true rfl) (L0 := [some (.ref x), some (.int (nI j)), some (.int s), some (.int (nI 1)), none]) (jL_of 1 rfl) ?_
  intro A E hE hQ hX hNm
  have hO : fO x G G := fO.rf
  have hnb : nb ≤ 2048 := hc.f8
  refine j_iload_n hE (i := 1) dX5_slot_0 rfl rfl ?_
  refine j_aload_n hE (i := 0) dX5_slot_1 rfl rfl ?_
  refine j_get hE flX5_12 hc.f0 rfl dX5_slot_2 ?_
  refine j_get hE flX5_53 hc.g0 rfl dX5_slot_5 ?_
  refine j_cSv hE mlX5_95 (fun l hl => c_X5_requireIndex_t hl K _ _ _ _ hj (by omega)) rfl rfl (Nat.le_of_ble_eq_true rfl) (by decide) (by decide) (by omega) (by omega) dX5_slot_8 (fun G9 hs9 hp => ?_) (fun _ _ h => h.elim)
  subst hp
  refine j_iload_n hE (i := 3) dX5_slot_11 rfl rfl ?_
  refine j_if_eqN hE (tgt := 20) dX5_slot_12 (by decide) (by omega) (fun h12 => ?_) (fun h12 => ?_)
  · exfalso; omega
  · refine j_iload_n hE (i := 3) dX5_slot_15 rfl rfl ?_
    refine j_iconst hE (v := nI 1) dX5_slot_16 (by decide) ?_
    refine j_ic_neN hE (tgt := 24) dX5_slot_17 (by decide) (by omega) (by omega) (fun h17 => ?_) (fun h17 => ?_)
    · exfalso; omega
    · refine j_iconst hE (v := nI 1) dX5_slot_20 (by decide) ?_
      refine j_goto hE (tgt := 25) dX5_slot_21 (by decide) ?_
      refine j_cSv hE mlX5_34 (fun l hl => c_X5_requireArgument_t hl K _ _) rfl rfl (Nat.le_of_ble_eq_true rfl) (by decide) (by decide) (by omega) (by omega) dX5_slot_25 (fun G9 hs9 hp => ?_) (fun _ _ h => h.elim)
      subst hp
      refine j_aload_n hE (i := 0) dX5_slot_28 rfl rfl ?_
      refine j_get hE flX5_12 hc.f0 rfl dX5_slot_29 ?_
      refine j_get hE flX5_41 hc.g0 rfl dX5_slot_32 ?_
      refine j_get hE flX5_80 hc.g1 rfl dX5_slot_35 ?_
      refine j_cSv hE mlX5_56 (fun l hl => c_X5_requireState_t hl K _ _) rfl rfl (Nat.le_of_ble_eq_true rfl) (by decide) (by decide) (by omega) (by omega) dX5_slot_38 (fun G9 hs9 hp => ?_) (fun _ _ h => h.elim)
      subst hp
      refine j_aload_n hE (i := 0) dX5_slot_41 rfl rfl ?_
      refine j_get hE flX5_12 hc.f0 rfl dX5_slot_42 ?_
      refine j_get hE flX5_41 hc.g0 rfl dX5_slot_45 ?_
      refine j_iload_n hE (i := 1) dX5_slot_48 rfl rfl ?_
      refine j_iload_n hE (i := 2) dX5_slot_49 rfl rfl ?_
      refine j_cVi hE mlX5_99 hc.g1 (fun l hl => Ct.at (st_ly.trans hc.f3) (c_X1_placeOf_t hl K _ (n + 1) _ _ _ _ _ _ _ _ k0 hk0 hyes hyes2 hno)) rfl rfl (Nat.le_of_ble_eq_true rfl) (by decide) (by decide) (by omega) (by omega) dX5_slot_50 (fun r G9 hs9 hp => ?_) (fun _ _ h => h.elim)
      obtain ⟨rfl, hp⟩ := hp
      have hp9 := hp.trans (st_ly.trans hc.f3)
      subst hp9
      refine j_ist4 hE dX5_slot_53 (by decide) rfl ?_
      refine j_iload hE dX5_slot_55 rfl ?_
      refine j_iconst hE (v := -1) dX5_slot_57 (by decide) ?_
      refine j_ic_eq hE (tgt := 65) dX5_slot_58 (by decide) (fun h58 => ?_) (fun h58 => ?_)
      · exact absurd h58 (nI_m1 (by omega))
      · refine j_iconst hE (v := nI 1) dX5_slot_61 (by decide) ?_
        refine j_goto hE (tgt := 66) dX5_slot_62 (by decide) ?_
        refine j_cSv hE mlX5_56 (fun l hl => c_X5_requireState_t hl K _ _) rfl rfl (Nat.le_of_ble_eq_true rfl) (by decide) (by decide) (by omega) (by omega) dX5_slot_66 (fun G9 hs9 hp => ?_) (fun _ _ h => h.elim)
        subst hp
        refine j_iload_n hE (i := 3) dX5_slot_69 rfl rfl ?_
        refine j_if_neN hE (tgt := 81) dX5_slot_70 (by decide) (by omega) (fun h70 => ?_) (fun h70 => ?_)
        · refine j_iload hE dX5_slot_81 rfl ?_
          refine j_bipush hE (v := nI 16) dX5_slot_83 (by decide) ?_
          refine j_iremN hE dX5_slot_85 (by omega) (by omega) (by omega) ?_
          refine j_iret hE hQ rfl (by omega) (by omega) dX5_slot_86 ?_
          exact ⟨_, rfl, rfl, rfl⟩
        · exfalso; omega

set_option maxRecDepth 100000 in
set_option maxHeartbeats 4000000 in
theorem c_X5_slot_f1 {l : Launch} (hl : l.stackTraces = false) (K : jK) (G : GH) (x hs n : Nat) (q : Nat → Nat) (cnt nw w m : Nat) (pl : Bool) (tk : Nat) (ow : Nat → Int32) (P : Nat → PaV) (pc nx : Nat) (bits : Nat → Int32) (nb : Nat) (rc : RcV) (md : Nat) (S : Nat → StV) (d : LyV) (hc : fcOk K G x n q cnt nw (w, m, pl, tk, ow, P, pc, nx, bits, nb, rc, md) S d) (hpc : pc ≤ 12) (p s v : Int32) (hj : ∀ j, j < pc → p ≠ nI j) : Ct l K yX5_slot cX5_slot 5 (some .int) 7 103 4 24 [.ref x, .int p, .int s, .int v] G hs (pI (fun _ _ _ => False)) (fun X G' => X = jIX ∧ G' = G) := by
  refine Ct.ofA hl (by decide) (Nat.le_of_ble_eq_true rfl) (L0 := [some (.ref x), some (.int p), some (.int s), some (.int v), none]) (jL_of 1 rfl) ?_
  intro A E hE hQ hX hNm
  have hO : fO x G G := fO.rf
  have hnb : nb ≤ 2048 := hc.f8
  refine j_iload_n hE (i := 1) dX5_slot_0 rfl rfl ?_
  refine j_aload_n hE (i := 0) dX5_slot_1 rfl rfl ?_
  refine j_get hE flX5_12 hc.f0 rfl dX5_slot_2 ?_
  refine j_get hE flX5_53 hc.g0 rfl dX5_slot_5 ?_
  refine j_cSv hE mlX5_95 (fun l hl => c_X5_requireIndex_f hl K _ _ _ _ hj (by omega)) rfl rfl (Nat.le_of_ble_eq_true rfl) (by decide) (by decide) (by omega) (by omega) dX5_slot_8 (fun G9 hs9 hp => ?_) (fun X G9 h => by obtain ⟨rfl, rfl⟩ := h; exact j_out hE hX hQ (by omega) (by omega) ⟨rfl, rfl⟩)
  exact hp.elim

set_option maxRecDepth 100000 in
set_option maxHeartbeats 4000000 in
theorem c_X5_slot_f2 {l : Launch} (hl : l.stackTraces = false) (K : jK) (G : GH) (x hs n : Nat) (q : Nat → Nat) (cnt nw w m : Nat) (pl : Bool) (tk : Nat) (ow : Nat → Int32) (P : Nat → PaV) (pc nx : Nat) (bits : Nat → Int32) (nb : Nat) (rc : RcV) (md : Nat) (S : Nat → StV) (d : LyV) (hc : fcOk K G x n q cnt nw (w, m, pl, tk, ow, P, pc, nx, bits, nb, rc, md) S d) (hpc : pc ≤ 12) (j : Nat) (hj : j < pc) (s v : Int32) (hv : ∀ i, 0 ≤ i → i ≤ 1 → v ≠ nI i) : Ct l K yX5_slot cX5_slot 5 (some .int) 7 103 4 24 [.ref x, .int (nI j), .int s, .int v] G hs (pI (fun _ _ _ => False)) (fun X G' => X = jIA ∧ G' = G) := by
  refine Ct.ofA hl (by decide) (Nat.le_of_ble_eq_true rfl) (L0 := [some (.ref x), some (.int (nI j)), some (.int s), some (.int v), none]) (jL_of 1 rfl) ?_
  intro A E hE hQ hX hNm
  have hO : fO x G G := fO.rf
  have hnb : nb ≤ 2048 := hc.f8
  refine j_iload_n hE (i := 1) dX5_slot_0 rfl rfl ?_
  refine j_aload_n hE (i := 0) dX5_slot_1 rfl rfl ?_
  refine j_get hE flX5_12 hc.f0 rfl dX5_slot_2 ?_
  refine j_get hE flX5_53 hc.g0 rfl dX5_slot_5 ?_
  refine j_cSv hE mlX5_95 (fun l hl => c_X5_requireIndex_t hl K _ _ _ _ hj (by omega)) rfl rfl (Nat.le_of_ble_eq_true rfl) (by decide) (by decide) (by omega) (by omega) dX5_slot_8 (fun G9 hs9 hp => ?_) (fun _ _ h => h.elim)
  subst hp
  refine j_iload_n hE (i := 3) dX5_slot_11 rfl rfl ?_
  refine j_if_eq hE (tgt := 20) dX5_slot_12 (by decide) (fun h12 => ?_) (fun h12 => ?_)
  · exact absurd h12 (hv 0 (by omega) (by omega))
  · refine j_iload_n hE (i := 3) dX5_slot_15 rfl rfl ?_
    refine j_iconst hE (v := nI 1) dX5_slot_16 (by decide) ?_
    refine j_ic_ne hE (tgt := 24) dX5_slot_17 (by decide) (fun h17 => ?_) (fun h17 => ?_)
    · refine j_iconst hE (v := nI 0) dX5_slot_24 (by decide) ?_
      refine j_cSv hE mlX5_34 (fun l hl => c_X5_requireArgument_f hl K _ _) rfl rfl (Nat.le_of_ble_eq_true rfl) (by decide) (by decide) (by omega) (by omega) dX5_slot_25 (fun G9 hs9 hp => ?_) (fun X G9 h => by obtain ⟨rfl, rfl⟩ := h; exact j_out hE hX hQ (by omega) (by omega) ⟨rfl, rfl⟩)
      exact hp.elim
    · exact absurd h17 (hv 1 (by omega) (by omega))

set_option maxRecDepth 100000 in
set_option maxHeartbeats 4000000 in
theorem c_X5_slot_f3 {l : Launch} (hl : l.stackTraces = false) (K : jK) (G : GH) (x hs n : Nat) (q : Nat → Nat) (cnt nw w m : Nat) (tk : Nat) (ow : Nat → Int32) (P : Nat → PaV) (pc nx : Nat) (bits : Nat → Int32) (nb : Nat) (rc : RcV) (md : Nat) (S : Nat → StV) (d : LyV) (hc : fcOk K G x n q cnt nw (w, m, false, tk, ow, P, pc, nx, bits, nb, rc, md) S d) (hpc : pc ≤ 12) (j : Nat) (hj : j < pc) (s : Int32) (v : Nat) (hv : v ≤ 1) : Ct l K yX5_slot cX5_slot 5 (some .int) 7 103 4 24 [.ref x, .int (nI j), .int s, .int (nI v)] G hs (pI (fun _ _ _ => False)) (fun X G' => X = jIS ∧ G' = G) := by
  refine Ct.ofA hl (by decide) (Nat.le_of_ble_eq_true rfl) (L0 := [some (.ref x), some (.int (nI j)), some (.int s), some (.int (nI v)), none]) (jL_of 1 rfl) ?_
  intro A E hE hQ hX hNm
  have hO : fO x G G := fO.rf
  have hnb : nb ≤ 2048 := hc.f8
  refine j_iload_n hE (i := 1) dX5_slot_0 rfl rfl ?_
  refine j_aload_n hE (i := 0) dX5_slot_1 rfl rfl ?_
  refine j_get hE flX5_12 hc.f0 rfl dX5_slot_2 ?_
  refine j_get hE flX5_53 hc.g0 rfl dX5_slot_5 ?_
  refine j_cSv hE mlX5_95 (fun l hl => c_X5_requireIndex_t hl K _ _ _ _ hj (by omega)) rfl rfl (Nat.le_of_ble_eq_true rfl) (by decide) (by decide) (by omega) (by omega) dX5_slot_8 (fun G9 hs9 hp => ?_) (fun _ _ h => h.elim)
  subst hp
  refine j_iload_n hE (i := 3) dX5_slot_11 rfl rfl ?_
  refine j_if_eqN hE (tgt := 20) dX5_slot_12 (by decide) (by omega) (fun h12 => ?_) (fun h12 => ?_)
  · refine j_iconst hE (v := nI 1) dX5_slot_20 (by decide) ?_
    refine j_goto hE (tgt := 25) dX5_slot_21 (by decide) ?_
    refine j_cSv hE mlX5_34 (fun l hl => c_X5_requireArgument_t hl K _ _) rfl rfl (Nat.le_of_ble_eq_true rfl) (by decide) (by decide) (by omega) (by omega) dX5_slot_25 (fun G9 hs9 hp => ?_) (fun _ _ h => h.elim)
    subst hp
    refine j_aload_n hE (i := 0) dX5_slot_28 rfl rfl ?_
    refine j_get hE flX5_12 hc.f0 rfl dX5_slot_29 ?_
    refine j_get hE flX5_41 hc.g0 rfl dX5_slot_32 ?_
    refine j_get hE flX5_80 hc.g1 rfl dX5_slot_35 ?_
    refine j_cSv hE mlX5_56 (fun l hl => c_X5_requireState_f hl K _ _) rfl rfl (Nat.le_of_ble_eq_true rfl) (by decide) (by decide) (by omega) (by omega) dX5_slot_38 (fun G9 hs9 hp => ?_) (fun X G9 h => by obtain ⟨rfl, rfl⟩ := h; exact j_out hE hX hQ (by omega) (by omega) ⟨rfl, rfl⟩)
    exact hp.elim
  · refine j_iload_n hE (i := 3) dX5_slot_15 rfl rfl ?_
    refine j_iconst hE (v := nI 1) dX5_slot_16 (by decide) ?_
    refine j_ic_neN hE (tgt := 24) dX5_slot_17 (by decide) (by omega) (by omega) (fun h17 => ?_) (fun h17 => ?_)
    · exfalso; omega
    · refine j_iconst hE (v := nI 1) dX5_slot_20 (by decide) ?_
      refine j_goto hE (tgt := 25) dX5_slot_21 (by decide) ?_
      refine j_cSv hE mlX5_34 (fun l hl => c_X5_requireArgument_t hl K _ _) rfl rfl (Nat.le_of_ble_eq_true rfl) (by decide) (by decide) (by omega) (by omega) dX5_slot_25 (fun G9 hs9 hp => ?_) (fun _ _ h => h.elim)
      subst hp
      refine j_aload_n hE (i := 0) dX5_slot_28 rfl rfl ?_
      refine j_get hE flX5_12 hc.f0 rfl dX5_slot_29 ?_
      refine j_get hE flX5_41 hc.g0 rfl dX5_slot_32 ?_
      refine j_get hE flX5_80 hc.g1 rfl dX5_slot_35 ?_
      refine j_cSv hE mlX5_56 (fun l hl => c_X5_requireState_f hl K _ _) rfl rfl (Nat.le_of_ble_eq_true rfl) (by decide) (by decide) (by omega) (by omega) dX5_slot_38 (fun G9 hs9 hp => ?_) (fun X G9 h => by obtain ⟨rfl, rfl⟩ := h; exact j_out hE hX hQ (by omega) (by omega) ⟨rfl, rfl⟩)
      exact hp.elim

set_option maxRecDepth 100000 in
set_option maxHeartbeats 4000000 in
theorem c_X5_slot_f4 {l : Launch} (hl : l.stackTraces = false) (K : jK) (G : GH) (x hs n : Nat) (q : Nat → Nat) (cnt nw w m : Nat) (tk : Nat) (ow : Nat → Int32) (P : Nat → PaV) (pc nx : Nat) (bits : Nat → Int32) (nb : Nat) (rc : RcV) (md : Nat) (S : Nat → StV) (d : LyV) (hc : fcOk K G x n q cnt nw (w, m, true, tk, ow, P, pc, nx, bits, nb, rc, md) S d) (hpc : pc ≤ 12) (j : Nat) (hj : j < pc) (s : Int32) (v : Nat) (hv : v ≤ 1) (hno : ∀ k, k < 128 → oP ow (nI j) k = true → ¬ nI (cntB (oP ow (nI j)) k) = s) : Ct l K yX5_slot cX5_slot 5 (some .int) 7 103 4 24 [.ref x, .int (nI j), .int s, .int (nI v)] G hs (pI (fun _ _ _ => False)) (fun X G' => X = jIS ∧ G' = G) := by
  refine Ct.ofA hl (by decide) (Nat.le_of_ble_eq_true rfl) (L0 := [some (.ref x), some (.int (nI j)), some (.int s), some (.int (nI v)), none]) (jL_of 1 rfl) ?_
  intro A E hE hQ hX hNm
  have hO : fO x G G := fO.rf
  have hnb : nb ≤ 2048 := hc.f8
  refine j_iload_n hE (i := 1) dX5_slot_0 rfl rfl ?_
  refine j_aload_n hE (i := 0) dX5_slot_1 rfl rfl ?_
  refine j_get hE flX5_12 hc.f0 rfl dX5_slot_2 ?_
  refine j_get hE flX5_53 hc.g0 rfl dX5_slot_5 ?_
  refine j_cSv hE mlX5_95 (fun l hl => c_X5_requireIndex_t hl K _ _ _ _ hj (by omega)) rfl rfl (Nat.le_of_ble_eq_true rfl) (by decide) (by decide) (by omega) (by omega) dX5_slot_8 (fun G9 hs9 hp => ?_) (fun _ _ h => h.elim)
  subst hp
  refine j_iload_n hE (i := 3) dX5_slot_11 rfl rfl ?_
  refine j_if_eqN hE (tgt := 20) dX5_slot_12 (by decide) (by omega) (fun h12 => ?_) (fun h12 => ?_)
  · refine j_iconst hE (v := nI 1) dX5_slot_20 (by decide) ?_
    refine j_goto hE (tgt := 25) dX5_slot_21 (by decide) ?_
    refine j_cSv hE mlX5_34 (fun l hl => c_X5_requireArgument_t hl K _ _) rfl rfl (Nat.le_of_ble_eq_true rfl) (by decide) (by decide) (by omega) (by omega) dX5_slot_25 (fun G9 hs9 hp => ?_) (fun _ _ h => h.elim)
    subst hp
    refine j_aload_n hE (i := 0) dX5_slot_28 rfl rfl ?_
    refine j_get hE flX5_12 hc.f0 rfl dX5_slot_29 ?_
    refine j_get hE flX5_41 hc.g0 rfl dX5_slot_32 ?_
    refine j_get hE flX5_80 hc.g1 rfl dX5_slot_35 ?_
    refine j_cSv hE mlX5_56 (fun l hl => c_X5_requireState_t hl K _ _) rfl rfl (Nat.le_of_ble_eq_true rfl) (by decide) (by decide) (by omega) (by omega) dX5_slot_38 (fun G9 hs9 hp => ?_) (fun _ _ h => h.elim)
    subst hp
    refine j_aload_n hE (i := 0) dX5_slot_41 rfl rfl ?_
    refine j_get hE flX5_12 hc.f0 rfl dX5_slot_42 ?_
    refine j_get hE flX5_41 hc.g0 rfl dX5_slot_45 ?_
    refine j_iload_n hE (i := 1) dX5_slot_48 rfl rfl ?_
    refine j_iload_n hE (i := 2) dX5_slot_49 rfl rfl ?_
    refine j_cVi hE mlX5_99 hc.g1 (fun l hl => Ct.at (st_ly.trans hc.f3) (c_X1_placeOf_f hl K _ (n + 1) _ _ _ _ _ _ _ _ hno)) rfl rfl (Nat.le_of_ble_eq_true rfl) (by decide) (by decide) (by omega) (by omega) dX5_slot_50 (fun r G9 hs9 hp => ?_) (fun _ _ h => h.elim)
    obtain ⟨rfl, hp⟩ := hp
    have hp9 := hp.trans (st_ly.trans hc.f3)
    subst hp9
    refine j_ist4 hE dX5_slot_53 (by decide) rfl ?_
    refine j_iload hE dX5_slot_55 rfl ?_
    refine j_iconst hE (v := -1) dX5_slot_57 (by decide) ?_
    refine j_ic_eq hE (tgt := 65) dX5_slot_58 (by decide) (fun h58 => ?_) (fun h58 => ?_)
    · refine j_iconst hE (v := nI 0) dX5_slot_65 (by decide) ?_
      refine j_cSv hE mlX5_56 (fun l hl => c_X5_requireState_f hl K _ _) rfl rfl (Nat.le_of_ble_eq_true rfl) (by decide) (by decide) (by omega) (by omega) dX5_slot_66 (fun G9 hs9 hp => ?_) (fun X G9 h => by obtain ⟨rfl, rfl⟩ := h; exact j_out hE hX hQ (by omega) (by omega) ⟨rfl, rfl⟩)
      exact hp.elim
    · exact absurd rfl h58
  · refine j_iload_n hE (i := 3) dX5_slot_15 rfl rfl ?_
    refine j_iconst hE (v := nI 1) dX5_slot_16 (by decide) ?_
    refine j_ic_neN hE (tgt := 24) dX5_slot_17 (by decide) (by omega) (by omega) (fun h17 => ?_) (fun h17 => ?_)
    · exfalso; omega
    · refine j_iconst hE (v := nI 1) dX5_slot_20 (by decide) ?_
      refine j_goto hE (tgt := 25) dX5_slot_21 (by decide) ?_
      refine j_cSv hE mlX5_34 (fun l hl => c_X5_requireArgument_t hl K _ _) rfl rfl (Nat.le_of_ble_eq_true rfl) (by decide) (by decide) (by omega) (by omega) dX5_slot_25 (fun G9 hs9 hp => ?_) (fun _ _ h => h.elim)
      subst hp
      refine j_aload_n hE (i := 0) dX5_slot_28 rfl rfl ?_
      refine j_get hE flX5_12 hc.f0 rfl dX5_slot_29 ?_
      refine j_get hE flX5_41 hc.g0 rfl dX5_slot_32 ?_
      refine j_get hE flX5_80 hc.g1 rfl dX5_slot_35 ?_
      refine j_cSv hE mlX5_56 (fun l hl => c_X5_requireState_t hl K _ _) rfl rfl (Nat.le_of_ble_eq_true rfl) (by decide) (by decide) (by omega) (by omega) dX5_slot_38 (fun G9 hs9 hp => ?_) (fun _ _ h => h.elim)
      subst hp
      refine j_aload_n hE (i := 0) dX5_slot_41 rfl rfl ?_
      refine j_get hE flX5_12 hc.f0 rfl dX5_slot_42 ?_
      refine j_get hE flX5_41 hc.g0 rfl dX5_slot_45 ?_
      refine j_iload_n hE (i := 1) dX5_slot_48 rfl rfl ?_
      refine j_iload_n hE (i := 2) dX5_slot_49 rfl rfl ?_
      refine j_cVi hE mlX5_99 hc.g1 (fun l hl => Ct.at (st_ly.trans hc.f3) (c_X1_placeOf_f hl K _ (n + 1) _ _ _ _ _ _ _ _ hno)) rfl rfl (Nat.le_of_ble_eq_true rfl) (by decide) (by decide) (by omega) (by omega) dX5_slot_50 (fun r G9 hs9 hp => ?_) (fun _ _ h => h.elim)
      obtain ⟨rfl, hp⟩ := hp
      have hp9 := hp.trans (st_ly.trans hc.f3)
      subst hp9
      refine j_ist4 hE dX5_slot_53 (by decide) rfl ?_
      refine j_iload hE dX5_slot_55 rfl ?_
      refine j_iconst hE (v := -1) dX5_slot_57 (by decide) ?_
      refine j_ic_eq hE (tgt := 65) dX5_slot_58 (by decide) (fun h58 => ?_) (fun h58 => ?_)
      · refine j_iconst hE (v := nI 0) dX5_slot_65 (by decide) ?_
        refine j_cSv hE mlX5_56 (fun l hl => c_X5_requireState_f hl K _ _) rfl rfl (Nat.le_of_ble_eq_true rfl) (by decide) (by decide) (by omega) (by omega) dX5_slot_66 (fun G9 hs9 hp => ?_) (fun X G9 h => by obtain ⟨rfl, rfl⟩ := h; exact j_out hE hX hQ (by omega) (by omega) ⟨rfl, rfl⟩)
        exact hp.elim
      · exact absurd rfl h58

set_option maxRecDepth 100000 in
set_option maxHeartbeats 4000000 in
theorem c_X5_send_t {l : Launch} (hl : l.stackTraces = false) (K : jK) (G : GH) (x hs n : Nat) (q : Nat → Nat) (cnt nw w m : Nat) (tk : Nat) (ow : Nat → Int32) (P : Nat → PaV) (pc nx : Nat) (bits : Nat → Int32) (nb : Nat) (rc : RcV) (md : Nat) (S : Nat → StV) (d : LyV) (hc : fcOk K G x n q cnt nw (w, m, true, tk, ow, P, pc, nx, bits, nb, rc, md) S d) (hpc : pc ≤ 12) (hw6 : 6 ≤ w) (hw9 : w ≤ 16) (hm1 : 1 ≤ m) (hm9 : m ≤ 8) (hnx : nx < m) (c : Nat) (hc1 : 1 ≤ c) (hc16 : c ≤ 16) (hroom : nb + 8 * (c * w) ≤ 2048) : Ct l K yX5_send cX5_send 3 (some .int) 7 102 3 18 [.ref x, .int (nI c)] G hs (pI (fun z9 G' _ => z9 = nI (itr (sM w m ow P pc) c (bits, nb, nx)).2.1 ∧ fcOk K G' x n q (sC cnt) ((nw + 1) % 4) (w, m, true, tk, ow, P, pc, (itr (sM w m ow P pc) c (bits, nb, nx)).2.2, (itr (sM w m ow P pc) c (bits, nb, nx)).1, (itr (sM w m ow P pc) c (bits, nb, nx)).2.1, rc, md) (svS S nw (w, m, true, tk, ow, P, pc, nx, bits, nb, rc, md)) d ∧ fO x G G')) jno := by
  refine Ct.ofA hl (by decide) (Nat.le_of_ble_eq_true rfl) (L0 := [some (.ref x), some (.int (nI c)), none]) (jL_of 1 rfl) ?_
  intro A E hE hQ hX hNm
  have hO : fO x G G := fO.rf
  have hnb : nb ≤ 2048 := hc.f8
  have hcw : c * w ≤ 256 := by omega
  refine j_iload_n hE (i := 1) dX5_send_0 rfl rfl ?_
  refine j_iconst hE (v := nI 1) dX5_send_1 (by decide) ?_
  refine j_ic_ltN hE (tgt := 15) dX5_send_2 (by decide) (by omega) (by omega) (fun h2 => ?_) (fun h2 => ?_)
  · exfalso; omega
  · refine j_iload_n hE (i := 1) dX5_send_5 rfl rfl ?_
    refine j_bipush hE (v := nI 16) dX5_send_6 (by decide) ?_
    refine j_ic_gtN hE (tgt := 15) dX5_send_8 (by decide) (by omega) (by omega) (fun h8 => ?_) (fun h8 => ?_)
    · exfalso; omega
    · refine j_iconst hE (v := nI 1) dX5_send_11 (by decide) ?_
      refine j_goto hE (tgt := 16) dX5_send_12 (by decide) ?_
      refine j_cSv hE mlX5_34 (fun l hl => c_X5_requireArgument_t hl K _ _) rfl rfl (Nat.le_of_ble_eq_true rfl) (by decide) (by decide) (by omega) (by omega) dX5_send_16 (fun G9 hs9 hp => ?_) (fun _ _ h => h.elim)
      rw [hp]
      refine j_aload_n hE (i := 0) dX5_send_19 rfl rfl ?_
      refine j_get hE flX5_12 hc.f0 rfl dX5_send_20 ?_
      refine j_get hE flX5_41 hc.g0 rfl dX5_send_23 ?_
      refine j_get hE flX5_80 hc.g1 rfl dX5_send_26 ?_
      refine j_cSv hE mlX5_56 (fun l hl => c_X5_requireState_t hl K _ _) rfl rfl (Nat.le_of_ble_eq_true rfl) (by decide) (by decide) (by omega) (by omega) dX5_send_29 (fun G9 hs9 hp => ?_) (fun _ _ h => h.elim)
      rw [hp]
      refine j_aload_n hE (i := 0) dX5_send_32 rfl rfl ?_
      refine j_get hE flX5_12 hc.f0 rfl dX5_send_33 ?_
      refine j_get hE flX5_109 hc.g0 rfl dX5_send_36 ?_
      refine j_get hE flX5_113 hc.g4 rfl dX5_send_39 ?_
      refine j_iload_n hE (i := 1) dX5_send_42 rfl rfl ?_
      refine j_aload_n hE (i := 0) dX5_send_43 rfl rfl ?_
      refine j_get hE flX5_12 hc.f0 rfl dX5_send_44 ?_
      refine j_get hE flX5_41 hc.g0 rfl dX5_send_47 ?_
      refine j_get hE flX5_44 hc.g1 rfl dX5_send_50 ?_
      refine j_imulN hE dX5_send_53 ?_
      refine j_bipush hE (v := nI 8) dX5_send_54 (by decide) ?_
      refine j_imulN hE dX5_send_56 ?_
      refine j_iaddN hE dX5_send_57 ?_
      refine j_sipush hE (v := nI 2048) dX5_send_58 (by decide) ?_
      refine j_ic_gtN hE (tgt := 68) dX5_send_61 (by decide) (by omega) (by omega) (fun h61 => ?_) (fun h61 => ?_)
      · exfalso; omega
      · refine j_iconst hE (v := nI 1) dX5_send_64 (by decide) ?_
        refine j_goto hE (tgt := 69) dX5_send_65 (by decide) ?_
        refine j_cSv hE mlX5_56 (fun l hl => c_X5_requireState_t hl K _ _) rfl rfl (Nat.le_of_ble_eq_true rfl) (by decide) (by decide) (by omega) (by omega) dX5_send_69 (fun G9 hs9 hp => ?_) (fun _ _ h => h.elim)
        rw [hp]
        refine j_aload_n hE (i := 0) dX5_send_72 rfl rfl ?_
        refine j_cVv hE mlX5_38 hc.f0 (fun l hl => c_X5_save hl K _ _ _ _ _ _ _ _ _ _ _ _ _ _ _ _ _ _ _ _ _ hc hpc) rfl rfl (Nat.le_of_ble_eq_true rfl) (by decide) (by decide) (by omega) (by omega) dX5_send_73 (fun G9 hs9 hp => ?_) (fun _ _ h => h.elim)
        obtain ⟨hc, hO9⟩ := hp
        replace hO := hO.tr hO9
        refine j_iconst hE (v := nI 0) dX5_send_76 (by decide) ?_
        refine j_ist2 hE dX5_send_77 rfl (by decide) rfl ?_
        have key78 : ∀ i, i ≤ c → ∀ hs : Nat, ∀ G1, fcOk K G1 x n q (sC cnt) ((nw + 1) % 4) (w, m, true, tk, ow, P, pc, (itr (sM w m ow P pc) i (bits, nb, nx)).2.2, (itr (sM w m ow P pc) i (bits, nb, nx)).1, (itr (sM w m ow P pc) i (bits, nb, nx)).2.1, rc, md) (svS S nw (w, m, true, tk, ow, P, pc, nx, bits, nb, rc, md)) d → fO x G G1 → J K A E 3 G1 hs 3 18 78 [some (.ref x), some (.int (nI c)), some (.int (nI i))] [] := by
          refine dloop (fun i => ∀ hs : Nat, ∀ G1, fcOk K G1 x n q (sC cnt) ((nw + 1) % 4) (w, m, true, tk, ow, P, pc, (itr (sM w m ow P pc) i (bits, nb, nx)).2.2, (itr (sM w m ow P pc) i (bits, nb, nx)).1, (itr (sM w m ow P pc) i (bits, nb, nx)).2.1, rc, md) (svS S nw (w, m, true, tk, ow, P, pc, nx, bits, nb, rc, md)) d → fO x G G1 → J K A E 3 G1 hs 3 18 78 [some (.ref x), some (.int (nI c)), some (.int (nI i))] []) (c) (fun i hi78 ih78 => ?_) ?_
          · intro hs
            intro G1 hc hO
            have e1 := sM_nb (w := w) (m := m) (ow := ow) (P := P) (pc := pc) (t := (bits, nb, nx)) (by omega) i
            have e2 := sM_nb (w := w) (m := m) (ow := ow) (P := P) (pc := pc) (t := (bits, nb, nx)) (by omega) (i + 1)
            have e3 := sM_nx (w := w) (ow := ow) (P := P) (pc := pc) (t := (bits, nb, nx)) hm1 hnx i
            have e4 : i * w + w ≤ c * w := by rw [show i * w + w = (i + 1) * w from (Nat.succ_mul i w).symm]; exact Nat.mul_le_mul_right w (by omega)
            rw [show (i + 1) * w = i * w + w from Nat.succ_mul i w] at e2
            simp only at e1 e2
            have hx7 : (itr (sM w m ow P pc) (i + 1) (bits, nb, nx)).2.1 ≤ 2048 := by omega
            have hx8 : (itr (sM w m ow P pc) i (bits, nb, nx)).2.2 < 8 := by omega
            have hx9 : (itr (sM w m ow P pc) i (bits, nb, nx)).2.1 + 8 * w ≤ 2048 := by omega
            refine j_iload_n hE (i := 2) dX5_send_78 rfl rfl ?_
            refine j_iload_n hE (i := 1) dX5_send_79 rfl rfl ?_
            refine j_ic_geN hE (tgt := 96) dX5_send_80 (by decide) (by omega) (by omega) (fun h80 => ?_) (fun h80 => ?_)
            · exfalso; omega
            · refine j_aload_n hE (i := 0) dX5_send_83 rfl rfl ?_
              refine j_get hE flX5_12 hc.f0 rfl dX5_send_84 ?_
              refine j_cVv hE mlX5_118 hc.g0 (fun l hl => Ct.at hc.f3 (c_X4_sendMinor hl K _ n _ _ _ _ _ _ _ _ _ _ _ _ _ hpc hw6 hw9 hm9 hx8 hx9)) rfl rfl (Nat.le_of_ble_eq_true rfl) (by decide) (by decide) (by omega) (by omega) dX5_send_87 (fun G9 hs9 hp => ?_) (fun _ _ h => h.elim)
              obtain ⟨hc, hO9⟩ := hc.now (s' := (w, m, true, tk, ow, P, pc, (itr (sM w m ow P pc) (i + 1) (bits, nb, nx)).2.2, (itr (sM w m ow P pc) (i + 1) (bits, nb, nx)).1, (itr (sM w m ow P pc) (i + 1) (bits, nb, nx)).2.1, rc, md)) hx7 hp
              replace hO := hO.tr hO9
              refine j_incN2 hE dX5_send_90 (by decide) rfl ?_
              refine j_goto hE (tgt := 78) dX5_send_93 (by decide) ?_
              exact ih78 _ _ hc hO
          · intro hs
            intro G1 hc hO
            refine j_iload_n hE (i := 2) dX5_send_78 rfl rfl ?_
            refine j_iload_n hE (i := 1) dX5_send_79 rfl rfl ?_
            refine j_ic_geN hE (tgt := 96) dX5_send_80 (by decide) (by omega) (by omega) (fun h80 => ?_) (fun h80 => ?_)
            · refine j_aload_n hE (i := 0) dX5_send_96 rfl rfl ?_
              refine j_get hE flX5_12 hc.f0 rfl dX5_send_97 ?_
              refine j_get hE flX5_109 hc.g0 rfl dX5_send_100 ?_
              refine j_get hE flX5_113 hc.g4 rfl dX5_send_103 ?_
              refine j_iret hE hQ rfl (by omega) (by omega) dX5_send_106 ?_
              exact ⟨_, rfl, rfl, hc, hO⟩
            · exfalso; omega
        exact key78 0 (by omega) _ _ hc hO

set_option maxRecDepth 100000 in
set_option maxHeartbeats 4000000 in
theorem c_X5_send_f1 {l : Launch} (hl : l.stackTraces = false) (K : jK) (G : GH) (x hs n : Nat) (q : Nat → Nat) (cnt nw w m : Nat) (pl : Bool) (tk : Nat) (ow : Nat → Int32) (P : Nat → PaV) (pc nx : Nat) (bits : Nat → Int32) (nb : Nat) (rc : RcV) (md : Nat) (S : Nat → StV) (d : LyV) (hc : fcOk K G x n q cnt nw (w, m, pl, tk, ow, P, pc, nx, bits, nb, rc, md) S d) (hpc : pc ≤ 12) (p : Int32) (hp : ∀ j, 1 ≤ j → j ≤ 16 → p ≠ nI j) : Ct l K yX5_send cX5_send 3 (some .int) 7 102 3 18 [.ref x, .int p] G hs (pI (fun _ _ _ => False)) (fun X G' => X = jIA ∧ G' = G) := by
  refine Ct.ofA hl (by decide) (Nat.le_of_ble_eq_true rfl) (L0 := [some (.ref x), some (.int p), none]) (jL_of 1 rfl) ?_
  intro A E hE hQ hX hNm
  have hO : fO x G G := fO.rf
  have hnb : nb ≤ 2048 := hc.f8
  refine j_iload_n hE (i := 1) dX5_send_0 rfl rfl ?_
  refine j_iconst hE (v := nI 1) dX5_send_1 (by decide) ?_
  refine j_ic_lt hE (tgt := 15) dX5_send_2 (by decide) (fun h2 => ?_) (fun h2 => ?_)
  · refine j_iconst hE (v := nI 0) dX5_send_15 (by decide) ?_
    refine j_cSv hE mlX5_34 (fun l hl => c_X5_requireArgument_f hl K _ _) rfl rfl (Nat.le_of_ble_eq_true rfl) (by decide) (by decide) (by omega) (by omega) dX5_send_16 (fun G9 hs9 hp => ?_) (fun X G9 h => by obtain ⟨rfl, rfl⟩ := h; exact j_out hE hX hQ (by omega) (by omega) ⟨rfl, rfl⟩)
    exact hp.elim
  · refine j_iload_n hE (i := 1) dX5_send_5 rfl rfl ?_
    refine j_bipush hE (v := nI 16) dX5_send_6 (by decide) ?_
    refine j_ic_gt hE (tgt := 15) dX5_send_8 (by decide) (fun h8 => ?_) (fun h8 => ?_)
    · refine j_iconst hE (v := nI 0) dX5_send_15 (by decide) ?_
      refine j_cSv hE mlX5_34 (fun l hl => c_X5_requireArgument_f hl K _ _) rfl rfl (Nat.le_of_ble_eq_true rfl) (by decide) (by decide) (by omega) (by omega) dX5_send_16 (fun G9 hs9 hp => ?_) (fun X G9 h => by obtain ⟨rfl, rfl⟩ := h; exact j_out hE hX hQ (by omega) (by omega) ⟨rfl, rfl⟩)
      exact hp.elim
    · exact absurd (And.intro (Int32.not_lt.mp h2) (Int32.not_lt.mp h8)) (rg_f (a := 1) (b := 16) hp (by omega) (by omega))

set_option maxRecDepth 100000 in
set_option maxHeartbeats 4000000 in
theorem c_X5_send_f2 {l : Launch} (hl : l.stackTraces = false) (K : jK) (G : GH) (x hs n : Nat) (q : Nat → Nat) (cnt nw w m : Nat) (tk : Nat) (ow : Nat → Int32) (P : Nat → PaV) (pc nx : Nat) (bits : Nat → Int32) (nb : Nat) (rc : RcV) (md : Nat) (S : Nat → StV) (d : LyV) (hc : fcOk K G x n q cnt nw (w, m, false, tk, ow, P, pc, nx, bits, nb, rc, md) S d) (hpc : pc ≤ 12) (c : Nat) (hc1 : 1 ≤ c) (hc16 : c ≤ 16) : Ct l K yX5_send cX5_send 3 (some .int) 7 102 3 18 [.ref x, .int (nI c)] G hs (pI (fun _ _ _ => False)) (fun X G' => X = jIS ∧ G' = G) := by
  refine Ct.ofA hl (by decide) (Nat.le_of_ble_eq_true rfl) (L0 := [some (.ref x), some (.int (nI c)), none]) (jL_of 1 rfl) ?_
  intro A E hE hQ hX hNm
  have hO : fO x G G := fO.rf
  have hnb : nb ≤ 2048 := hc.f8
  refine j_iload_n hE (i := 1) dX5_send_0 rfl rfl ?_
  refine j_iconst hE (v := nI 1) dX5_send_1 (by decide) ?_
  refine j_ic_ltN hE (tgt := 15) dX5_send_2 (by decide) (by omega) (by omega) (fun h2 => ?_) (fun h2 => ?_)
  · exfalso; omega
  · refine j_iload_n hE (i := 1) dX5_send_5 rfl rfl ?_
    refine j_bipush hE (v := nI 16) dX5_send_6 (by decide) ?_
    refine j_ic_gtN hE (tgt := 15) dX5_send_8 (by decide) (by omega) (by omega) (fun h8 => ?_) (fun h8 => ?_)
    · exfalso; omega
    · refine j_iconst hE (v := nI 1) dX5_send_11 (by decide) ?_
      refine j_goto hE (tgt := 16) dX5_send_12 (by decide) ?_
      refine j_cSv hE mlX5_34 (fun l hl => c_X5_requireArgument_t hl K _ _) rfl rfl (Nat.le_of_ble_eq_true rfl) (by decide) (by decide) (by omega) (by omega) dX5_send_16 (fun G9 hs9 hp => ?_) (fun _ _ h => h.elim)
      subst hp
      refine j_aload_n hE (i := 0) dX5_send_19 rfl rfl ?_
      refine j_get hE flX5_12 hc.f0 rfl dX5_send_20 ?_
      refine j_get hE flX5_41 hc.g0 rfl dX5_send_23 ?_
      refine j_get hE flX5_80 hc.g1 rfl dX5_send_26 ?_
      refine j_cSv hE mlX5_56 (fun l hl => c_X5_requireState_f hl K _ _) rfl rfl (Nat.le_of_ble_eq_true rfl) (by decide) (by decide) (by omega) (by omega) dX5_send_29 (fun G9 hs9 hp => ?_) (fun X G9 h => by obtain ⟨rfl, rfl⟩ := h; exact j_out hE hX hQ (by omega) (by omega) ⟨rfl, rfl⟩)
      exact hp.elim

set_option maxRecDepth 100000 in
set_option maxHeartbeats 4000000 in
theorem c_X5_send_f3 {l : Launch} (hl : l.stackTraces = false) (K : jK) (G : GH) (x hs n : Nat) (q : Nat → Nat) (cnt nw w m : Nat) (tk : Nat) (ow : Nat → Int32) (P : Nat → PaV) (pc nx : Nat) (bits : Nat → Int32) (nb : Nat) (rc : RcV) (md : Nat) (S : Nat → StV) (d : LyV) (hc : fcOk K G x n q cnt nw (w, m, true, tk, ow, P, pc, nx, bits, nb, rc, md) S d) (hpc : pc ≤ 12) (hw9 : w ≤ 16) (c : Nat) (hc1 : 1 ≤ c) (hc16 : c ≤ 16) (hroom : 2048 < nb + 8 * (c * w)) : Ct l K yX5_send cX5_send 3 (some .int) 7 102 3 18 [.ref x, .int (nI c)] G hs (pI (fun _ _ _ => False)) (fun X G' => X = jIS ∧ G' = G) := by
  refine Ct.ofA hl (by decide) (Nat.le_of_ble_eq_true rfl) (L0 := [some (.ref x), some (.int (nI c)), none]) (jL_of 1 rfl) ?_
  intro A E hE hQ hX hNm
  have hO : fO x G G := fO.rf
  have hnb : nb ≤ 2048 := hc.f8
  have hcw : c * w ≤ 16 * 16 := Nat.mul_le_mul hc16 hw9
  refine j_iload_n hE (i := 1) dX5_send_0 rfl rfl ?_
  refine j_iconst hE (v := nI 1) dX5_send_1 (by decide) ?_
  refine j_ic_ltN hE (tgt := 15) dX5_send_2 (by decide) (by omega) (by omega) (fun h2 => ?_) (fun h2 => ?_)
  · exfalso; omega
  · refine j_iload_n hE (i := 1) dX5_send_5 rfl rfl ?_
    refine j_bipush hE (v := nI 16) dX5_send_6 (by decide) ?_
    refine j_ic_gtN hE (tgt := 15) dX5_send_8 (by decide) (by omega) (by omega) (fun h8 => ?_) (fun h8 => ?_)
    · exfalso; omega
    · refine j_iconst hE (v := nI 1) dX5_send_11 (by decide) ?_
      refine j_goto hE (tgt := 16) dX5_send_12 (by decide) ?_
      refine j_cSv hE mlX5_34 (fun l hl => c_X5_requireArgument_t hl K _ _) rfl rfl (Nat.le_of_ble_eq_true rfl) (by decide) (by decide) (by omega) (by omega) dX5_send_16 (fun G9 hs9 hp => ?_) (fun _ _ h => h.elim)
      subst hp
      refine j_aload_n hE (i := 0) dX5_send_19 rfl rfl ?_
      refine j_get hE flX5_12 hc.f0 rfl dX5_send_20 ?_
      refine j_get hE flX5_41 hc.g0 rfl dX5_send_23 ?_
      refine j_get hE flX5_80 hc.g1 rfl dX5_send_26 ?_
      refine j_cSv hE mlX5_56 (fun l hl => c_X5_requireState_t hl K _ _) rfl rfl (Nat.le_of_ble_eq_true rfl) (by decide) (by decide) (by omega) (by omega) dX5_send_29 (fun G9 hs9 hp => ?_) (fun _ _ h => h.elim)
      subst hp
      refine j_aload_n hE (i := 0) dX5_send_32 rfl rfl ?_
      refine j_get hE flX5_12 hc.f0 rfl dX5_send_33 ?_
      refine j_get hE flX5_109 hc.g0 rfl dX5_send_36 ?_
      refine j_get hE flX5_113 hc.g4 rfl dX5_send_39 ?_
      refine j_iload_n hE (i := 1) dX5_send_42 rfl rfl ?_
      refine j_aload_n hE (i := 0) dX5_send_43 rfl rfl ?_
      refine j_get hE flX5_12 hc.f0 rfl dX5_send_44 ?_
      refine j_get hE flX5_41 hc.g0 rfl dX5_send_47 ?_
      refine j_get hE flX5_44 hc.g1 rfl dX5_send_50 ?_
      refine j_imulN hE dX5_send_53 ?_
      refine j_bipush hE (v := nI 8) dX5_send_54 (by decide) ?_
      refine j_imulN hE dX5_send_56 ?_
      refine j_iaddN hE dX5_send_57 ?_
      refine j_sipush hE (v := nI 2048) dX5_send_58 (by decide) ?_
      refine j_ic_gtN hE (tgt := 68) dX5_send_61 (by decide) (by omega) (by omega) (fun h61 => ?_) (fun h61 => ?_)
      · refine j_iconst hE (v := nI 0) dX5_send_68 (by decide) ?_
        refine j_cSv hE mlX5_56 (fun l hl => c_X5_requireState_f hl K _ _) rfl rfl (Nat.le_of_ble_eq_true rfl) (by decide) (by decide) (by omega) (by omega) dX5_send_69 (fun G9 hs9 hp => ?_) (fun X G9 h => by obtain ⟨rfl, rfl⟩ := h; exact j_out hE hX hQ (by omega) (by omega) ⟨rfl, rfl⟩)
        exact hp.elim
      · exfalso; omega

set_option maxRecDepth 100000 in
set_option maxHeartbeats 4000000 in
theorem c_X5_disturb_0 {l : Launch} (hl : l.stackTraces = false) (K : jK) (G : GH) (x hs n : Nat) (q : Nat → Nat) (cnt nw w m : Nat) (pl : Bool) (tk : Nat) (ow : Nat → Int32) (P : Nat → PaV) (pc nx : Nat) (bits : Nat → Int32) (nb : Nat) (rc : RcV) (md : Nat) (S : Nat → StV) (d : LyV) (hc : fcOk K G x n q cnt nw (w, m, pl, tk, ow, P, pc, nx, bits, nb, rc, md) S d) (hpc : pc ≤ 12) (j : Nat) (hj : j < nb) : Ct l K yX5_disturb cX5_disturb 4 (some .int) 7 103 3 18 [.ref x, .int (nI 0), .int (nI j)] G hs (pI (fun z9 G' _ => z9 = nI nb ∧ fcOk K G' x n q (sC cnt) ((nw + 1) % 4) (w, m, pl, tk, ow, P, pc, nx, (upd bits j (nI 1 - bits j)), nb, rc, md) (svS S nw (w, m, pl, tk, ow, P, pc, nx, bits, nb, rc, md)) d ∧ fO x G G')) jno := by
  refine Ct.ofA hl (by decide) (Nat.le_of_ble_eq_true rfl) (L0 := [some (.ref x), some (.int (nI 0)), some (.int (nI j)), none]) (jL_of 1 rfl) ?_
  intro A E hE hQ hX hNm
  have hO : fO x G G := fO.rf
  have hnb : nb ≤ 2048 := hc.f8
  refine j_iload_n hE (i := 1) dX5_disturb_0 rfl rfl ?_
  refine j_if_lt hE (tgt := 13) dX5_disturb_1 (by decide) (fun h1 => ?_) (fun h1 => ?_)
  · exact absurd h1 (nI_pos (by omega))
  · refine j_iload_n hE (i := 1) dX5_disturb_4 rfl rfl ?_
    refine j_iconst hE (v := nI 3) dX5_disturb_5 (by decide) ?_
    refine j_ic_gtN hE (tgt := 13) dX5_disturb_6 (by decide) (by omega) (by omega) (fun h6 => ?_) (fun h6 => ?_)
    · exfalso; omega
    · refine j_iconst hE (v := nI 1) dX5_disturb_9 (by decide) ?_
      refine j_goto hE (tgt := 14) dX5_disturb_10 (by decide) ?_
      refine j_cSv hE mlX5_34 (fun l hl => c_X5_requireArgument_t hl K _ _) rfl rfl (Nat.le_of_ble_eq_true rfl) (by decide) (by decide) (by omega) (by omega) dX5_disturb_14 (fun G9 hs9 hp => ?_) (fun _ _ h => h.elim)
      subst hp
      refine j_iload_n hE (i := 2) dX5_disturb_17 rfl rfl ?_
      refine j_aload_n hE (i := 0) dX5_disturb_18 rfl rfl ?_
      refine j_get hE flX5_12 hc.f0 rfl dX5_disturb_19 ?_
      refine j_get hE flX5_109 hc.g0 rfl dX5_disturb_22 ?_
      refine j_get hE flX5_113 hc.g4 rfl dX5_disturb_25 ?_
      refine j_cSv hE mlX5_95 (fun l hl => c_X5_requireIndex_t hl K _ _ _ _ hj (by omega)) rfl rfl (Nat.le_of_ble_eq_true rfl) (by decide) (by decide) (by omega) (by omega) dX5_disturb_28 (fun G9 hs9 hp => ?_) (fun _ _ h => h.elim)
      subst hp
      refine j_iload_n hE (i := 1) dX5_disturb_31 rfl rfl ?_
      refine j_iconst hE (v := nI 2) dX5_disturb_32 (by decide) ?_
      refine j_ic_eqN hE (tgt := 41) dX5_disturb_33 (by decide) (by omega) (by omega) (fun h33 => ?_) (fun h33 => ?_)
      · exfalso; omega
      · refine j_iload_n hE (i := 1) dX5_disturb_36 rfl rfl ?_
        refine j_iconst hE (v := nI 3) dX5_disturb_37 (by decide) ?_
        refine j_ic_neN hE (tgt := 45) dX5_disturb_38 (by decide) (by omega) (by omega) (fun h38 => ?_) (fun h38 => ?_)
        · refine j_iconst hE (v := nI 0) dX5_disturb_45 (by decide) ?_
          refine j_ist3 hE dX5_disturb_46 rfl (by decide) rfl ?_
          refine j_iload_n hE (i := 3) dX5_disturb_47 rfl rfl ?_
          refine j_if_eqN hE (tgt := 67) dX5_disturb_48 (by decide) (by omega) (fun h48 => ?_) (fun h48 => ?_)
          · refine j_iconst hE (v := nI 1) dX5_disturb_67 (by decide) ?_
            refine j_goto hE (tgt := 72) dX5_disturb_68 (by decide) ?_
            refine j_cSv hE mlX5_56 (fun l hl => c_X5_requireState_t hl K _ _) rfl rfl (Nat.le_of_ble_eq_true rfl) (by decide) (by decide) (by omega) (by omega) dX5_disturb_72 (fun G9 hs9 hp => ?_) (fun _ _ h => h.elim)
            subst hp
            refine j_aload_n hE (i := 0) dX5_disturb_75 rfl rfl ?_
            refine j_cVv hE mlX5_38 hc.f0 (fun l hl => c_X5_save hl K _ _ _ _ _ _ _ _ _ _ _ _ _ _ _ _ _ _ _ _ _ hc hpc) rfl rfl (Nat.le_of_ble_eq_true rfl) (by decide) (by decide) (by omega) (by omega) dX5_disturb_76 (fun G9 hs9 hp => ?_) (fun _ _ h => h.elim)
            obtain ⟨hc, hO9⟩ := hp
            replace hO := hO.tr hO9
            refine j_iload_n hE (i := 1) dX5_disturb_79 rfl rfl ?_
            refine j_if_neN hE (tgt := 97) dX5_disturb_80 (by decide) (by omega) (fun h80 => ?_) (fun h80 => ?_)
            · exfalso; omega
            · refine j_aload_n hE (i := 0) dX5_disturb_83 rfl rfl ?_
              refine j_get hE flX5_12 hc.f0 rfl dX5_disturb_84 ?_
              refine j_get hE flX5_109 hc.g0 rfl dX5_disturb_87 ?_
              refine j_iload_n hE (i := 2) dX5_disturb_90 rfl rfl ?_
              refine j_cVv hE mlX5_125 hc.g4 (fun l hl => Ct.at (st_ch.trans hc.f3) (c_X0_flip hl K _ (n + 4) _ _ _ hnb j hj)) rfl rfl (Nat.le_of_ble_eq_true rfl) (by decide) (by decide) (by omega) (by omega) dX5_disturb_91 (fun G9 hs9 hp => ?_) (fun _ _ h => h.elim)
              obtain ⟨hc, hO9⟩ := hc.now (s' := (w, m, pl, tk, ow, P, pc, nx, (upd bits j (nI 1 - bits j)), nb, rc, md)) (by show nb ≤ 2048; omega) (hp.trans (st_ch' _ _))
              replace hO := hO.tr hO9
              refine j_goto hE (tgt := 137) dX5_disturb_94 (by decide) ?_
              refine j_aload_n hE (i := 0) dX5_disturb_137 rfl rfl ?_
              refine j_get hE flX5_12 hc.f0 rfl dX5_disturb_138 ?_
              refine j_get hE flX5_109 hc.g0 rfl dX5_disturb_141 ?_
              refine j_get hE flX5_113 hc.g4 rfl dX5_disturb_144 ?_
              refine j_iret hE hQ rfl (by omega) (by omega) dX5_disturb_147 ?_
              exact ⟨_, rfl, rfl, hc, hO⟩
          · exfalso; omega
        · exfalso; omega

set_option maxRecDepth 100000 in
set_option maxHeartbeats 4000000 in
theorem c_X5_disturb_1 {l : Launch} (hl : l.stackTraces = false) (K : jK) (G : GH) (x hs n : Nat) (q : Nat → Nat) (cnt nw w m : Nat) (pl : Bool) (tk : Nat) (ow : Nat → Int32) (P : Nat → PaV) (pc nx : Nat) (bits : Nat → Int32) (nb : Nat) (rc : RcV) (md : Nat) (S : Nat → StV) (d : LyV) (hc : fcOk K G x n q cnt nw (w, m, pl, tk, ow, P, pc, nx, bits, nb, rc, md) S d) (hpc : pc ≤ 12) (j : Nat) (hj : j < nb) : Ct l K yX5_disturb cX5_disturb 4 (some .int) 7 103 3 18 [.ref x, .int (nI 1), .int (nI j)] G hs (pI (fun z9 G' _ => z9 = nI (nb - 1) ∧ fcOk K G' x n q (sC cnt) ((nw + 1) % 4) (w, m, pl, tk, ow, P, pc, nx, (va_cpy bits bits (j + 1) j (nb - j - 1)), (nb - 1), rc, md) (svS S nw (w, m, pl, tk, ow, P, pc, nx, bits, nb, rc, md)) d ∧ fO x G G')) jno := by
  refine Ct.ofA hl (by decide) (Nat.le_of_ble_eq_true rfl) (L0 := [some (.ref x), some (.int (nI 1)), some (.int (nI j)), none]) (jL_of 1 rfl) ?_
  intro A E hE hQ hX hNm
  have hO : fO x G G := fO.rf
  have hnb : nb ≤ 2048 := hc.f8
  refine j_iload_n hE (i := 1) dX5_disturb_0 rfl rfl ?_
  refine j_if_lt hE (tgt := 13) dX5_disturb_1 (by decide) (fun h1 => ?_) (fun h1 => ?_)
  · exact absurd h1 (nI_pos (by omega))
  · refine j_iload_n hE (i := 1) dX5_disturb_4 rfl rfl ?_
    refine j_iconst hE (v := nI 3) dX5_disturb_5 (by decide) ?_
    refine j_ic_gtN hE (tgt := 13) dX5_disturb_6 (by decide) (by omega) (by omega) (fun h6 => ?_) (fun h6 => ?_)
    · exfalso; omega
    · refine j_iconst hE (v := nI 1) dX5_disturb_9 (by decide) ?_
      refine j_goto hE (tgt := 14) dX5_disturb_10 (by decide) ?_
      refine j_cSv hE mlX5_34 (fun l hl => c_X5_requireArgument_t hl K _ _) rfl rfl (Nat.le_of_ble_eq_true rfl) (by decide) (by decide) (by omega) (by omega) dX5_disturb_14 (fun G9 hs9 hp => ?_) (fun _ _ h => h.elim)
      subst hp
      refine j_iload_n hE (i := 2) dX5_disturb_17 rfl rfl ?_
      refine j_aload_n hE (i := 0) dX5_disturb_18 rfl rfl ?_
      refine j_get hE flX5_12 hc.f0 rfl dX5_disturb_19 ?_
      refine j_get hE flX5_109 hc.g0 rfl dX5_disturb_22 ?_
      refine j_get hE flX5_113 hc.g4 rfl dX5_disturb_25 ?_
      refine j_cSv hE mlX5_95 (fun l hl => c_X5_requireIndex_t hl K _ _ _ _ hj (by omega)) rfl rfl (Nat.le_of_ble_eq_true rfl) (by decide) (by decide) (by omega) (by omega) dX5_disturb_28 (fun G9 hs9 hp => ?_) (fun _ _ h => h.elim)
      subst hp
      refine j_iload_n hE (i := 1) dX5_disturb_31 rfl rfl ?_
      refine j_iconst hE (v := nI 2) dX5_disturb_32 (by decide) ?_
      refine j_ic_eqN hE (tgt := 41) dX5_disturb_33 (by decide) (by omega) (by omega) (fun h33 => ?_) (fun h33 => ?_)
      · exfalso; omega
      · refine j_iload_n hE (i := 1) dX5_disturb_36 rfl rfl ?_
        refine j_iconst hE (v := nI 3) dX5_disturb_37 (by decide) ?_
        refine j_ic_neN hE (tgt := 45) dX5_disturb_38 (by decide) (by omega) (by omega) (fun h38 => ?_) (fun h38 => ?_)
        · refine j_iconst hE (v := nI 0) dX5_disturb_45 (by decide) ?_
          refine j_ist3 hE dX5_disturb_46 rfl (by decide) rfl ?_
          refine j_iload_n hE (i := 3) dX5_disturb_47 rfl rfl ?_
          refine j_if_eqN hE (tgt := 67) dX5_disturb_48 (by decide) (by omega) (fun h48 => ?_) (fun h48 => ?_)
          · refine j_iconst hE (v := nI 1) dX5_disturb_67 (by decide) ?_
            refine j_goto hE (tgt := 72) dX5_disturb_68 (by decide) ?_
            refine j_cSv hE mlX5_56 (fun l hl => c_X5_requireState_t hl K _ _) rfl rfl (Nat.le_of_ble_eq_true rfl) (by decide) (by decide) (by omega) (by omega) dX5_disturb_72 (fun G9 hs9 hp => ?_) (fun _ _ h => h.elim)
            subst hp
            refine j_aload_n hE (i := 0) dX5_disturb_75 rfl rfl ?_
            refine j_cVv hE mlX5_38 hc.f0 (fun l hl => c_X5_save hl K _ _ _ _ _ _ _ _ _ _ _ _ _ _ _ _ _ _ _ _ _ hc hpc) rfl rfl (Nat.le_of_ble_eq_true rfl) (by decide) (by decide) (by omega) (by omega) dX5_disturb_76 (fun G9 hs9 hp => ?_) (fun _ _ h => h.elim)
            obtain ⟨hc, hO9⟩ := hp
            replace hO := hO.tr hO9
            refine j_iload_n hE (i := 1) dX5_disturb_79 rfl rfl ?_
            refine j_if_neN hE (tgt := 97) dX5_disturb_80 (by decide) (by omega) (fun h80 => ?_) (fun h80 => ?_)
            · refine j_iload_n hE (i := 1) dX5_disturb_97 rfl rfl ?_
              refine j_iconst hE (v := nI 1) dX5_disturb_98 (by decide) ?_
              refine j_ic_neN hE (tgt := 116) dX5_disturb_99 (by decide) (by omega) (by omega) (fun h99 => ?_) (fun h99 => ?_)
              · exfalso; omega
              · refine j_aload_n hE (i := 0) dX5_disturb_102 rfl rfl ?_
                refine j_get hE flX5_12 hc.f0 rfl dX5_disturb_103 ?_
                refine j_get hE flX5_109 hc.g0 rfl dX5_disturb_106 ?_
                refine j_iload_n hE (i := 2) dX5_disturb_109 rfl rfl ?_
                refine j_cVv hE mlX5_128 hc.g4 (fun l hl => Ct.at (st_ch.trans hc.f3) (c_X0_remove hl K _ (n + 4) _ _ _ hnb j hj)) rfl rfl (Nat.le_of_ble_eq_true rfl) (by decide) (by decide) (by omega) (by omega) dX5_disturb_110 (fun G9 hs9 hp => ?_) (fun _ _ h => h.elim)
                obtain ⟨hc, hO9⟩ := hc.now (s' := (w, m, pl, tk, ow, P, pc, nx, (va_cpy bits bits (j + 1) j (nb - j - 1)), (nb - 1), rc, md)) (by show (nb - 1) ≤ 2048; omega) (hp.trans (st_ch' _ _))
                replace hO := hO.tr hO9
                refine j_goto hE (tgt := 137) dX5_disturb_113 (by decide) ?_
                refine j_aload_n hE (i := 0) dX5_disturb_137 rfl rfl ?_
                refine j_get hE flX5_12 hc.f0 rfl dX5_disturb_138 ?_
                refine j_get hE flX5_109 hc.g0 rfl dX5_disturb_141 ?_
                refine j_get hE flX5_113 hc.g4 rfl dX5_disturb_144 ?_
                refine j_iret hE hQ rfl (by omega) (by omega) dX5_disturb_147 ?_
                exact ⟨_, rfl, rfl, hc, hO⟩
            · exfalso; omega
          · exfalso; omega
        · exfalso; omega

set_option maxRecDepth 100000 in
set_option maxHeartbeats 4000000 in
theorem c_X5_disturb_2 {l : Launch} (hl : l.stackTraces = false) (K : jK) (G : GH) (x hs n : Nat) (q : Nat → Nat) (cnt nw w m : Nat) (pl : Bool) (tk : Nat) (ow : Nat → Int32) (P : Nat → PaV) (pc nx : Nat) (bits : Nat → Int32) (nb : Nat) (rc : RcV) (md : Nat) (S : Nat → StV) (d : LyV) (hc : fcOk K G x n q cnt nw (w, m, pl, tk, ow, P, pc, nx, bits, nb, rc, md) S d) (hpc : pc ≤ 12) (j : Nat) (hj : j < nb) (hlt : nb < 2048) : Ct l K yX5_disturb cX5_disturb 4 (some .int) 7 103 3 18 [.ref x, .int (nI 2), .int (nI j)] G hs (pI (fun z9 G' _ => z9 = nI (nb + 1) ∧ fcOk K G' x n q (sC cnt) ((nw + 1) % 4) (w, m, pl, tk, ow, P, pc, nx, (upd (va_cpy bits bits j (j + 1) (nb - j)) j (nI 0)), (nb + 1), rc, md) (svS S nw (w, m, pl, tk, ow, P, pc, nx, bits, nb, rc, md)) d ∧ fO x G G')) jno := by
  refine Ct.ofA hl (by decide) (Nat.le_of_ble_eq_true rfl) (L0 := [some (.ref x), some (.int (nI 2)), some (.int (nI j)), none]) (jL_of 1 rfl) ?_
  intro A E hE hQ hX hNm
  have hO : fO x G G := fO.rf
  have hnb : nb ≤ 2048 := hc.f8
  refine j_iload_n hE (i := 1) dX5_disturb_0 rfl rfl ?_
  refine j_if_lt hE (tgt := 13) dX5_disturb_1 (by decide) (fun h1 => ?_) (fun h1 => ?_)
  · exact absurd h1 (nI_pos (by omega))
  · refine j_iload_n hE (i := 1) dX5_disturb_4 rfl rfl ?_
    refine j_iconst hE (v := nI 3) dX5_disturb_5 (by decide) ?_
    refine j_ic_gtN hE (tgt := 13) dX5_disturb_6 (by decide) (by omega) (by omega) (fun h6 => ?_) (fun h6 => ?_)
    · exfalso; omega
    · refine j_iconst hE (v := nI 1) dX5_disturb_9 (by decide) ?_
      refine j_goto hE (tgt := 14) dX5_disturb_10 (by decide) ?_
      refine j_cSv hE mlX5_34 (fun l hl => c_X5_requireArgument_t hl K _ _) rfl rfl (Nat.le_of_ble_eq_true rfl) (by decide) (by decide) (by omega) (by omega) dX5_disturb_14 (fun G9 hs9 hp => ?_) (fun _ _ h => h.elim)
      subst hp
      refine j_iload_n hE (i := 2) dX5_disturb_17 rfl rfl ?_
      refine j_aload_n hE (i := 0) dX5_disturb_18 rfl rfl ?_
      refine j_get hE flX5_12 hc.f0 rfl dX5_disturb_19 ?_
      refine j_get hE flX5_109 hc.g0 rfl dX5_disturb_22 ?_
      refine j_get hE flX5_113 hc.g4 rfl dX5_disturb_25 ?_
      refine j_cSv hE mlX5_95 (fun l hl => c_X5_requireIndex_t hl K _ _ _ _ hj (by omega)) rfl rfl (Nat.le_of_ble_eq_true rfl) (by decide) (by decide) (by omega) (by omega) dX5_disturb_28 (fun G9 hs9 hp => ?_) (fun _ _ h => h.elim)
      subst hp
      refine j_iload_n hE (i := 1) dX5_disturb_31 rfl rfl ?_
      refine j_iconst hE (v := nI 2) dX5_disturb_32 (by decide) ?_
      refine j_ic_eqN hE (tgt := 41) dX5_disturb_33 (by decide) (by omega) (by omega) (fun h33 => ?_) (fun h33 => ?_)
      · refine j_iconst hE (v := nI 1) dX5_disturb_41 (by decide) ?_
        refine j_goto hE (tgt := 46) dX5_disturb_42 (by decide) ?_
        refine j_ist3 hE dX5_disturb_46 rfl (by decide) rfl ?_
        refine j_iload_n hE (i := 3) dX5_disturb_47 rfl rfl ?_
        refine j_if_eqN hE (tgt := 67) dX5_disturb_48 (by decide) (by omega) (fun h48 => ?_) (fun h48 => ?_)
        · exfalso; omega
        · refine j_aload_n hE (i := 0) dX5_disturb_51 rfl rfl ?_
          refine j_get hE flX5_12 hc.f0 rfl dX5_disturb_52 ?_
          refine j_get hE flX5_109 hc.g0 rfl dX5_disturb_55 ?_
          refine j_get hE flX5_113 hc.g4 rfl dX5_disturb_58 ?_
          refine j_sipush hE (v := nI 2048) dX5_disturb_61 (by decide) ?_
          refine j_ic_geN hE (tgt := 71) dX5_disturb_64 (by decide) (by omega) (by omega) (fun h64 => ?_) (fun h64 => ?_)
          · exfalso; omega
          · refine j_iconst hE (v := nI 1) dX5_disturb_67 (by decide) ?_
            refine j_goto hE (tgt := 72) dX5_disturb_68 (by decide) ?_
            refine j_cSv hE mlX5_56 (fun l hl => c_X5_requireState_t hl K _ _) rfl rfl (Nat.le_of_ble_eq_true rfl) (by decide) (by decide) (by omega) (by omega) dX5_disturb_72 (fun G9 hs9 hp => ?_) (fun _ _ h => h.elim)
            subst hp
            refine j_aload_n hE (i := 0) dX5_disturb_75 rfl rfl ?_
            refine j_cVv hE mlX5_38 hc.f0 (fun l hl => c_X5_save hl K _ _ _ _ _ _ _ _ _ _ _ _ _ _ _ _ _ _ _ _ _ hc hpc) rfl rfl (Nat.le_of_ble_eq_true rfl) (by decide) (by decide) (by omega) (by omega) dX5_disturb_76 (fun G9 hs9 hp => ?_) (fun _ _ h => h.elim)
            obtain ⟨hc, hO9⟩ := hp
            replace hO := hO.tr hO9
            refine j_iload_n hE (i := 1) dX5_disturb_79 rfl rfl ?_
            refine j_if_neN hE (tgt := 97) dX5_disturb_80 (by decide) (by omega) (fun h80 => ?_) (fun h80 => ?_)
            · refine j_iload_n hE (i := 1) dX5_disturb_97 rfl rfl ?_
              refine j_iconst hE (v := nI 1) dX5_disturb_98 (by decide) ?_
              refine j_ic_neN hE (tgt := 116) dX5_disturb_99 (by decide) (by omega) (by omega) (fun h99 => ?_) (fun h99 => ?_)
              · refine j_aload_n hE (i := 0) dX5_disturb_116 rfl rfl ?_
                refine j_get hE flX5_12 hc.f0 rfl dX5_disturb_117 ?_
                refine j_get hE flX5_109 hc.g0 rfl dX5_disturb_120 ?_
                refine j_iload_n hE (i := 2) dX5_disturb_123 rfl rfl ?_
                refine j_iload_n hE (i := 1) dX5_disturb_124 rfl rfl ?_
                refine j_iconst hE (v := nI 3) dX5_disturb_125 (by decide) ?_
                refine j_ic_neN hE (tgt := 133) dX5_disturb_126 (by decide) (by omega) (by omega) (fun h126 => ?_) (fun h126 => ?_)
                · refine j_iconst hE (v := nI 0) dX5_disturb_133 (by decide) ?_
                  refine j_cVv hE mlX5_131 hc.g4 (fun l hl => Ct.at (st_ch.trans hc.f3) (c_X0_insert hl K _ (n + 4) _ _ _ hlt j (nI 0) hj)) rfl rfl (Nat.le_of_ble_eq_true rfl) (by decide) (by decide) (by omega) (by omega) dX5_disturb_134 (fun G9 hs9 hp => ?_) (fun _ _ h => h.elim)
                  obtain ⟨hc, hO9⟩ := hc.now (s' := (w, m, pl, tk, ow, P, pc, nx, (upd (va_cpy bits bits j (j + 1) (nb - j)) j (nI 0)), (nb + 1), rc, md)) (by show (nb + 1) ≤ 2048; omega) (hp.trans (st_ch' _ _))
                  replace hO := hO.tr hO9
                  refine j_aload_n hE (i := 0) dX5_disturb_137 rfl rfl ?_
                  refine j_get hE flX5_12 hc.f0 rfl dX5_disturb_138 ?_
                  refine j_get hE flX5_109 hc.g0 rfl dX5_disturb_141 ?_
                  refine j_get hE flX5_113 hc.g4 rfl dX5_disturb_144 ?_
                  refine j_iret hE hQ rfl (by omega) (by omega) dX5_disturb_147 ?_
                  exact ⟨_, rfl, rfl, hc, hO⟩
                · exfalso; omega
              · exfalso; omega
            · exfalso; omega
      · exfalso; omega

set_option maxRecDepth 100000 in
set_option maxHeartbeats 4000000 in
theorem c_X5_disturb_3 {l : Launch} (hl : l.stackTraces = false) (K : jK) (G : GH) (x hs n : Nat) (q : Nat → Nat) (cnt nw w m : Nat) (pl : Bool) (tk : Nat) (ow : Nat → Int32) (P : Nat → PaV) (pc nx : Nat) (bits : Nat → Int32) (nb : Nat) (rc : RcV) (md : Nat) (S : Nat → StV) (d : LyV) (hc : fcOk K G x n q cnt nw (w, m, pl, tk, ow, P, pc, nx, bits, nb, rc, md) S d) (hpc : pc ≤ 12) (j : Nat) (hj : j < nb) (hlt : nb < 2048) : Ct l K yX5_disturb cX5_disturb 4 (some .int) 7 103 3 18 [.ref x, .int (nI 3), .int (nI j)] G hs (pI (fun z9 G' _ => z9 = nI (nb + 1) ∧ fcOk K G' x n q (sC cnt) ((nw + 1) % 4) (w, m, pl, tk, ow, P, pc, nx, (upd (va_cpy bits bits j (j + 1) (nb - j)) j (nI 1)), (nb + 1), rc, md) (svS S nw (w, m, pl, tk, ow, P, pc, nx, bits, nb, rc, md)) d ∧ fO x G G')) jno := by
  refine Ct.ofA hl (by decide) (Nat.le_of_ble_eq_true rfl) (L0 := [some (.ref x), some (.int (nI 3)), some (.int (nI j)), none]) (jL_of 1 rfl) ?_
  intro A E hE hQ hX hNm
  have hO : fO x G G := fO.rf
  have hnb : nb ≤ 2048 := hc.f8
  refine j_iload_n hE (i := 1) dX5_disturb_0 rfl rfl ?_
  refine j_if_lt hE (tgt := 13) dX5_disturb_1 (by decide) (fun h1 => ?_) (fun h1 => ?_)
  · exact absurd h1 (nI_pos (by omega))
  · refine j_iload_n hE (i := 1) dX5_disturb_4 rfl rfl ?_
    refine j_iconst hE (v := nI 3) dX5_disturb_5 (by decide) ?_
    refine j_ic_gtN hE (tgt := 13) dX5_disturb_6 (by decide) (by omega) (by omega) (fun h6 => ?_) (fun h6 => ?_)
    · exfalso; omega
    · refine j_iconst hE (v := nI 1) dX5_disturb_9 (by decide) ?_
      refine j_goto hE (tgt := 14) dX5_disturb_10 (by decide) ?_
      refine j_cSv hE mlX5_34 (fun l hl => c_X5_requireArgument_t hl K _ _) rfl rfl (Nat.le_of_ble_eq_true rfl) (by decide) (by decide) (by omega) (by omega) dX5_disturb_14 (fun G9 hs9 hp => ?_) (fun _ _ h => h.elim)
      subst hp
      refine j_iload_n hE (i := 2) dX5_disturb_17 rfl rfl ?_
      refine j_aload_n hE (i := 0) dX5_disturb_18 rfl rfl ?_
      refine j_get hE flX5_12 hc.f0 rfl dX5_disturb_19 ?_
      refine j_get hE flX5_109 hc.g0 rfl dX5_disturb_22 ?_
      refine j_get hE flX5_113 hc.g4 rfl dX5_disturb_25 ?_
      refine j_cSv hE mlX5_95 (fun l hl => c_X5_requireIndex_t hl K _ _ _ _ hj (by omega)) rfl rfl (Nat.le_of_ble_eq_true rfl) (by decide) (by decide) (by omega) (by omega) dX5_disturb_28 (fun G9 hs9 hp => ?_) (fun _ _ h => h.elim)
      subst hp
      refine j_iload_n hE (i := 1) dX5_disturb_31 rfl rfl ?_
      refine j_iconst hE (v := nI 2) dX5_disturb_32 (by decide) ?_
      refine j_ic_eqN hE (tgt := 41) dX5_disturb_33 (by decide) (by omega) (by omega) (fun h33 => ?_) (fun h33 => ?_)
      · exfalso; omega
      · refine j_iload_n hE (i := 1) dX5_disturb_36 rfl rfl ?_
        refine j_iconst hE (v := nI 3) dX5_disturb_37 (by decide) ?_
        refine j_ic_neN hE (tgt := 45) dX5_disturb_38 (by decide) (by omega) (by omega) (fun h38 => ?_) (fun h38 => ?_)
        · exfalso; omega
        · refine j_iconst hE (v := nI 1) dX5_disturb_41 (by decide) ?_
          refine j_goto hE (tgt := 46) dX5_disturb_42 (by decide) ?_
          refine j_ist3 hE dX5_disturb_46 rfl (by decide) rfl ?_
          refine j_iload_n hE (i := 3) dX5_disturb_47 rfl rfl ?_
          refine j_if_eqN hE (tgt := 67) dX5_disturb_48 (by decide) (by omega) (fun h48 => ?_) (fun h48 => ?_)
          · exfalso; omega
          · refine j_aload_n hE (i := 0) dX5_disturb_51 rfl rfl ?_
            refine j_get hE flX5_12 hc.f0 rfl dX5_disturb_52 ?_
            refine j_get hE flX5_109 hc.g0 rfl dX5_disturb_55 ?_
            refine j_get hE flX5_113 hc.g4 rfl dX5_disturb_58 ?_
            refine j_sipush hE (v := nI 2048) dX5_disturb_61 (by decide) ?_
            refine j_ic_geN hE (tgt := 71) dX5_disturb_64 (by decide) (by omega) (by omega) (fun h64 => ?_) (fun h64 => ?_)
            · exfalso; omega
            · refine j_iconst hE (v := nI 1) dX5_disturb_67 (by decide) ?_
              refine j_goto hE (tgt := 72) dX5_disturb_68 (by decide) ?_
              refine j_cSv hE mlX5_56 (fun l hl => c_X5_requireState_t hl K _ _) rfl rfl (Nat.le_of_ble_eq_true rfl) (by decide) (by decide) (by omega) (by omega) dX5_disturb_72 (fun G9 hs9 hp => ?_) (fun _ _ h => h.elim)
              subst hp
              refine j_aload_n hE (i := 0) dX5_disturb_75 rfl rfl ?_
              refine j_cVv hE mlX5_38 hc.f0 (fun l hl => c_X5_save hl K _ _ _ _ _ _ _ _ _ _ _ _ _ _ _ _ _ _ _ _ _ hc hpc) rfl rfl (Nat.le_of_ble_eq_true rfl) (by decide) (by decide) (by omega) (by omega) dX5_disturb_76 (fun G9 hs9 hp => ?_) (fun _ _ h => h.elim)
              obtain ⟨hc, hO9⟩ := hp
              replace hO := hO.tr hO9
              refine j_iload_n hE (i := 1) dX5_disturb_79 rfl rfl ?_
              refine j_if_neN hE (tgt := 97) dX5_disturb_80 (by decide) (by omega) (fun h80 => ?_) (fun h80 => ?_)
              · refine j_iload_n hE (i := 1) dX5_disturb_97 rfl rfl ?_
                refine j_iconst hE (v := nI 1) dX5_disturb_98 (by decide) ?_
                refine j_ic_neN hE (tgt := 116) dX5_disturb_99 (by decide) (by omega) (by omega) (fun h99 => ?_) (fun h99 => ?_)
                · refine j_aload_n hE (i := 0) dX5_disturb_116 rfl rfl ?_
                  refine j_get hE flX5_12 hc.f0 rfl dX5_disturb_117 ?_
                  refine j_get hE flX5_109 hc.g0 rfl dX5_disturb_120 ?_
                  refine j_iload_n hE (i := 2) dX5_disturb_123 rfl rfl ?_
                  refine j_iload_n hE (i := 1) dX5_disturb_124 rfl rfl ?_
                  refine j_iconst hE (v := nI 3) dX5_disturb_125 (by decide) ?_
                  refine j_ic_neN hE (tgt := 133) dX5_disturb_126 (by decide) (by omega) (by omega) (fun h126 => ?_) (fun h126 => ?_)
                  · exfalso; omega
                  · refine j_iconst hE (v := nI 1) dX5_disturb_129 (by decide) ?_
                    refine j_goto hE (tgt := 134) dX5_disturb_130 (by decide) ?_
                    refine j_cVv hE mlX5_131 hc.g4 (fun l hl => Ct.at (st_ch.trans hc.f3) (c_X0_insert hl K _ (n + 4) _ _ _ hlt j (nI 1) hj)) rfl rfl (Nat.le_of_ble_eq_true rfl) (by decide) (by decide) (by omega) (by omega) dX5_disturb_134 (fun G9 hs9 hp => ?_) (fun _ _ h => h.elim)
                    obtain ⟨hc, hO9⟩ := hc.now (s' := (w, m, pl, tk, ow, P, pc, nx, (upd (va_cpy bits bits j (j + 1) (nb - j)) j (nI 1)), (nb + 1), rc, md)) (by show (nb + 1) ≤ 2048; omega) (hp.trans (st_ch' _ _))
                    replace hO := hO.tr hO9
                    refine j_aload_n hE (i := 0) dX5_disturb_137 rfl rfl ?_
                    refine j_get hE flX5_12 hc.f0 rfl dX5_disturb_138 ?_
                    refine j_get hE flX5_109 hc.g0 rfl dX5_disturb_141 ?_
                    refine j_get hE flX5_113 hc.g4 rfl dX5_disturb_144 ?_
                    refine j_iret hE hQ rfl (by omega) (by omega) dX5_disturb_147 ?_
                    exact ⟨_, rfl, rfl, hc, hO⟩
                · exfalso; omega
              · exfalso; omega

set_option maxRecDepth 100000 in
set_option maxHeartbeats 4000000 in
theorem c_X5_disturb_f1 {l : Launch} (hl : l.stackTraces = false) (K : jK) (G : GH) (x hs n : Nat) (q : Nat → Nat) (cnt nw w m : Nat) (pl : Bool) (tk : Nat) (ow : Nat → Int32) (P : Nat → PaV) (pc nx : Nat) (bits : Nat → Int32) (nb : Nat) (rc : RcV) (md : Nat) (S : Nat → StV) (d : LyV) (hc : fcOk K G x n q cnt nw (w, m, pl, tk, ow, P, pc, nx, bits, nb, rc, md) S d) (hpc : pc ≤ 12) (p r : Int32) (hp : ∀ j, 0 ≤ j → j ≤ 3 → p ≠ nI j) : Ct l K yX5_disturb cX5_disturb 4 (some .int) 7 103 3 18 [.ref x, .int p, .int r] G hs (pI (fun _ _ _ => False)) (fun X G' => X = jIA ∧ G' = G) := by
  refine Ct.ofA hl (by decide) (Nat.le_of_ble_eq_true rfl) (L0 := [some (.ref x), some (.int p), some (.int r), none]) (jL_of 1 rfl) ?_
  intro A E hE hQ hX hNm
  have hO : fO x G G := fO.rf
  have hnb : nb ≤ 2048 := hc.f8
  refine j_iload_n hE (i := 1) dX5_disturb_0 rfl rfl ?_
  refine j_if_lt hE (tgt := 13) dX5_disturb_1 (by decide) (fun h1 => ?_) (fun h1 => ?_)
  · refine j_iconst hE (v := nI 0) dX5_disturb_13 (by decide) ?_
    refine j_cSv hE mlX5_34 (fun l hl => c_X5_requireArgument_f hl K _ _) rfl rfl (Nat.le_of_ble_eq_true rfl) (by decide) (by decide) (by omega) (by omega) dX5_disturb_14 (fun G9 hs9 hp => ?_) (fun X G9 h => by obtain ⟨rfl, rfl⟩ := h; exact j_out hE hX hQ (by omega) (by omega) ⟨rfl, rfl⟩)
    exact hp.elim
  · refine j_iload_n hE (i := 1) dX5_disturb_4 rfl rfl ?_
    refine j_iconst hE (v := nI 3) dX5_disturb_5 (by decide) ?_
    refine j_ic_gt hE (tgt := 13) dX5_disturb_6 (by decide) (fun h6 => ?_) (fun h6 => ?_)
    · refine j_iconst hE (v := nI 0) dX5_disturb_13 (by decide) ?_
      refine j_cSv hE mlX5_34 (fun l hl => c_X5_requireArgument_f hl K _ _) rfl rfl (Nat.le_of_ble_eq_true rfl) (by decide) (by decide) (by omega) (by omega) dX5_disturb_14 (fun G9 hs9 hp => ?_) (fun X G9 h => by obtain ⟨rfl, rfl⟩ := h; exact j_out hE hX hQ (by omega) (by omega) ⟨rfl, rfl⟩)
      exact hp.elim
    · exact absurd (And.intro (Int32.not_lt.mp h1) (Int32.not_lt.mp h6)) (rg_f (a := 0) (b := 3) hp (by omega) (by omega))

set_option maxRecDepth 100000 in
set_option maxHeartbeats 4000000 in
theorem c_X5_disturb_f2 {l : Launch} (hl : l.stackTraces = false) (K : jK) (G : GH) (x hs n : Nat) (q : Nat → Nat) (cnt nw w m : Nat) (pl : Bool) (tk : Nat) (ow : Nat → Int32) (P : Nat → PaV) (pc nx : Nat) (bits : Nat → Int32) (nb : Nat) (rc : RcV) (md : Nat) (S : Nat → StV) (d : LyV) (hc : fcOk K G x n q cnt nw (w, m, pl, tk, ow, P, pc, nx, bits, nb, rc, md) S d) (hpc : pc ≤ 12) (kd : Nat) (hk : kd ≤ 3) (r : Int32) (hj : ∀ j, j < nb → r ≠ nI j) : Ct l K yX5_disturb cX5_disturb 4 (some .int) 7 103 3 18 [.ref x, .int (nI kd), .int r] G hs (pI (fun _ _ _ => False)) (fun X G' => X = jIX ∧ G' = G) := by
  refine Ct.ofA hl (by decide) (Nat.le_of_ble_eq_true rfl) (L0 := [some (.ref x), some (.int (nI kd)), some (.int r), none]) (jL_of 1 rfl) ?_
  intro A E hE hQ hX hNm
  have hO : fO x G G := fO.rf
  have hnb : nb ≤ 2048 := hc.f8
  refine j_iload_n hE (i := 1) dX5_disturb_0 rfl rfl ?_
  refine j_if_lt hE (tgt := 13) dX5_disturb_1 (by decide) (fun h1 => ?_) (fun h1 => ?_)
  · exact absurd h1 (nI_pos (by omega))
  · refine j_iload_n hE (i := 1) dX5_disturb_4 rfl rfl ?_
    refine j_iconst hE (v := nI 3) dX5_disturb_5 (by decide) ?_
    refine j_ic_gtN hE (tgt := 13) dX5_disturb_6 (by decide) (by omega) (by omega) (fun h6 => ?_) (fun h6 => ?_)
    · exfalso; omega
    · refine j_iconst hE (v := nI 1) dX5_disturb_9 (by decide) ?_
      refine j_goto hE (tgt := 14) dX5_disturb_10 (by decide) ?_
      refine j_cSv hE mlX5_34 (fun l hl => c_X5_requireArgument_t hl K _ _) rfl rfl (Nat.le_of_ble_eq_true rfl) (by decide) (by decide) (by omega) (by omega) dX5_disturb_14 (fun G9 hs9 hp => ?_) (fun _ _ h => h.elim)
      subst hp
      refine j_iload_n hE (i := 2) dX5_disturb_17 rfl rfl ?_
      refine j_aload_n hE (i := 0) dX5_disturb_18 rfl rfl ?_
      refine j_get hE flX5_12 hc.f0 rfl dX5_disturb_19 ?_
      refine j_get hE flX5_109 hc.g0 rfl dX5_disturb_22 ?_
      refine j_get hE flX5_113 hc.g4 rfl dX5_disturb_25 ?_
      refine j_cSv hE mlX5_95 (fun l hl => c_X5_requireIndex_f hl K _ _ _ _ hj (by omega)) rfl rfl (Nat.le_of_ble_eq_true rfl) (by decide) (by decide) (by omega) (by omega) dX5_disturb_28 (fun G9 hs9 hp => ?_) (fun X G9 h => by obtain ⟨rfl, rfl⟩ := h; exact j_out hE hX hQ (by omega) (by omega) ⟨rfl, rfl⟩)
      exact hp.elim

set_option maxRecDepth 100000 in
set_option maxHeartbeats 4000000 in
theorem c_X5_disturb_f3 {l : Launch} (hl : l.stackTraces = false) (K : jK) (G : GH) (x hs n : Nat) (q : Nat → Nat) (cnt nw w m : Nat) (pl : Bool) (tk : Nat) (ow : Nat → Int32) (P : Nat → PaV) (pc nx : Nat) (bits : Nat → Int32) (nb : Nat) (rc : RcV) (md : Nat) (S : Nat → StV) (d : LyV) (hc : fcOk K G x n q cnt nw (w, m, pl, tk, ow, P, pc, nx, bits, nb, rc, md) S d) (hpc : pc ≤ 12) (kd : Nat) (hk2 : 2 ≤ kd) (hk3 : kd ≤ 3) (j : Nat) (hj : j < nb) (hfull : nb = 2048) : Ct l K yX5_disturb cX5_disturb 4 (some .int) 7 103 3 18 [.ref x, .int (nI kd), .int (nI j)] G hs (pI (fun _ _ _ => False)) (fun X G' => X = jIS ∧ G' = G) := by
  refine Ct.ofA hl (by decide) (Nat.le_of_ble_eq_true rfl) (L0 := [some (.ref x), some (.int (nI kd)), some (.int (nI j)), none]) (jL_of 1 rfl) ?_
  intro A E hE hQ hX hNm
  have hO : fO x G G := fO.rf
  have hnb : nb ≤ 2048 := hc.f8
  refine j_iload_n hE (i := 1) dX5_disturb_0 rfl rfl ?_
  refine j_if_lt hE (tgt := 13) dX5_disturb_1 (by decide) (fun h1 => ?_) (fun h1 => ?_)
  · exact absurd h1 (nI_pos (by omega))
  · refine j_iload_n hE (i := 1) dX5_disturb_4 rfl rfl ?_
    refine j_iconst hE (v := nI 3) dX5_disturb_5 (by decide) ?_
    refine j_ic_gtN hE (tgt := 13) dX5_disturb_6 (by decide) (by omega) (by omega) (fun h6 => ?_) (fun h6 => ?_)
    · exfalso; omega
    · refine j_iconst hE (v := nI 1) dX5_disturb_9 (by decide) ?_
      refine j_goto hE (tgt := 14) dX5_disturb_10 (by decide) ?_
      refine j_cSv hE mlX5_34 (fun l hl => c_X5_requireArgument_t hl K _ _) rfl rfl (Nat.le_of_ble_eq_true rfl) (by decide) (by decide) (by omega) (by omega) dX5_disturb_14 (fun G9 hs9 hp => ?_) (fun _ _ h => h.elim)
      subst hp
      refine j_iload_n hE (i := 2) dX5_disturb_17 rfl rfl ?_
      refine j_aload_n hE (i := 0) dX5_disturb_18 rfl rfl ?_
      refine j_get hE flX5_12 hc.f0 rfl dX5_disturb_19 ?_
      refine j_get hE flX5_109 hc.g0 rfl dX5_disturb_22 ?_
      refine j_get hE flX5_113 hc.g4 rfl dX5_disturb_25 ?_
      refine j_cSv hE mlX5_95 (fun l hl => c_X5_requireIndex_t hl K _ _ _ _ hj (by omega)) rfl rfl (Nat.le_of_ble_eq_true rfl) (by decide) (by decide) (by omega) (by omega) dX5_disturb_28 (fun G9 hs9 hp => ?_) (fun _ _ h => h.elim)
      subst hp
      refine j_iload_n hE (i := 1) dX5_disturb_31 rfl rfl ?_
      refine j_iconst hE (v := nI 2) dX5_disturb_32 (by decide) ?_
      refine j_ic_eqN hE (tgt := 41) dX5_disturb_33 (by decide) (by omega) (by omega) (fun h33 => ?_) (fun h33 => ?_)
      · refine j_iconst hE (v := nI 1) dX5_disturb_41 (by decide) ?_
        refine j_goto hE (tgt := 46) dX5_disturb_42 (by decide) ?_
        refine j_ist3 hE dX5_disturb_46 rfl (by decide) rfl ?_
        refine j_iload_n hE (i := 3) dX5_disturb_47 rfl rfl ?_
        refine j_if_eqN hE (tgt := 67) dX5_disturb_48 (by decide) (by omega) (fun h48 => ?_) (fun h48 => ?_)
        · exfalso; omega
        · refine j_aload_n hE (i := 0) dX5_disturb_51 rfl rfl ?_
          refine j_get hE flX5_12 hc.f0 rfl dX5_disturb_52 ?_
          refine j_get hE flX5_109 hc.g0 rfl dX5_disturb_55 ?_
          refine j_get hE flX5_113 hc.g4 rfl dX5_disturb_58 ?_
          refine j_sipush hE (v := nI 2048) dX5_disturb_61 (by decide) ?_
          refine j_ic_geN hE (tgt := 71) dX5_disturb_64 (by decide) (by omega) (by omega) (fun h64 => ?_) (fun h64 => ?_)
          · refine j_iconst hE (v := nI 0) dX5_disturb_71 (by decide) ?_
            refine j_cSv hE mlX5_56 (fun l hl => c_X5_requireState_f hl K _ _) rfl rfl (Nat.le_of_ble_eq_true rfl) (by decide) (by decide) (by omega) (by omega) dX5_disturb_72 (fun G9 hs9 hp => ?_) (fun X G9 h => by obtain ⟨rfl, rfl⟩ := h; exact j_out hE hX hQ (by omega) (by omega) ⟨rfl, rfl⟩)
            exact hp.elim
          · exfalso; omega
      · refine j_iload_n hE (i := 1) dX5_disturb_36 rfl rfl ?_
        refine j_iconst hE (v := nI 3) dX5_disturb_37 (by decide) ?_
        refine j_ic_neN hE (tgt := 45) dX5_disturb_38 (by decide) (by omega) (by omega) (fun h38 => ?_) (fun h38 => ?_)
        · exfalso; omega
        · refine j_iconst hE (v := nI 1) dX5_disturb_41 (by decide) ?_
          refine j_goto hE (tgt := 46) dX5_disturb_42 (by decide) ?_
          refine j_ist3 hE dX5_disturb_46 rfl (by decide) rfl ?_
          refine j_iload_n hE (i := 3) dX5_disturb_47 rfl rfl ?_
          refine j_if_eqN hE (tgt := 67) dX5_disturb_48 (by decide) (by omega) (fun h48 => ?_) (fun h48 => ?_)
          · exfalso; omega
          · refine j_aload_n hE (i := 0) dX5_disturb_51 rfl rfl ?_
            refine j_get hE flX5_12 hc.f0 rfl dX5_disturb_52 ?_
            refine j_get hE flX5_109 hc.g0 rfl dX5_disturb_55 ?_
            refine j_get hE flX5_113 hc.g4 rfl dX5_disturb_58 ?_
            refine j_sipush hE (v := nI 2048) dX5_disturb_61 (by decide) ?_
            refine j_ic_geN hE (tgt := 71) dX5_disturb_64 (by decide) (by omega) (by omega) (fun h64 => ?_) (fun h64 => ?_)
            · refine j_iconst hE (v := nI 0) dX5_disturb_71 (by decide) ?_
              refine j_cSv hE mlX5_56 (fun l hl => c_X5_requireState_f hl K _ _) rfl rfl (Nat.le_of_ble_eq_true rfl) (by decide) (by decide) (by omega) (by omega) dX5_disturb_72 (fun G9 hs9 hp => ?_) (fun X G9 h => by obtain ⟨rfl, rfl⟩ := h; exact j_out hE hX hQ (by omega) (by omega) ⟨rfl, rfl⟩)
              exact hp.elim
            · exfalso; omega

set_option maxRecDepth 100000 in
set_option maxHeartbeats 4000000 in
theorem c_X5_receive_t {l : Launch} (hl : l.stackTraces = false) (K : jK) (G : GH) (x hs n : Nat) (q : Nat → Nat) (cnt nw w m : Nat) (tk : Nat) (ow : Nat → Int32) (P : Nat → PaV) (pc nx : Nat) (bits : Nat → Int32) (nb : Nat) (rc : RcV) (md : Nat) (S : Nat → StV) (d : LyV) (hc : fcOk K G x n q cnt nw (w, m, true, tk, ow, P, pc, nx, bits, nb, rc, md) S d) (hpc : pc ≤ 12) (hw6 : 6 ≤ w) (hw9 : w ≤ 16) (hm9 : m ≤ 8) (hmd : md ≤ 2) (c : Nat) (hc1 : 1 ≤ c) (hcb : c ≤ nb) (hok : ∀ i, i < c → (itr (tB w m ow pc md bits) i (rc, P)).1.2.2.2.2.1 ≤ 1000 ∧ ∃ f, (tK (itr (tB w m ow pc md bits) i (rc, P)).1 (bits i) ((w - 2) * 8)).2.2.2.1 0 = nI f ∧ f < 2 ^ 31) : Ct l K yX5_receive cX5_receive 3 (some .int) 7 109 3 18 [.ref x, .int (nI c)] G hs (pI (fun z9 G' _ => z9 = (itr (tB w m ow pc md bits) c (rc, P)).1.2.2.1 0 - rc.2.2.1 0 ∧ fcOk K G' x n q (sC cnt) ((nw + 1) % 4) (w, m, true, tk, ow, (itr (tB w m ow pc md bits) c (rc, P)).2, pc, nx, (va_cpy bits bits c 0 (nb - c)), (nb - c), (itr (tB w m ow pc md bits) c (rc, P)).1, md) (svS S nw (w, m, true, tk, ow, P, pc, nx, bits, nb, rc, md)) d ∧ fO x G G')) jno := by
  refine Ct.ofA hl (by decide) (Nat.le_of_ble_eq_true rfl) (L0 := [some (.ref x), some (.int (nI c)), none]) (jL_of 1 rfl) ?_
  intro A E hE hQ hX hNm
  have hO : fO x G G := fO.rf
  have hnb : nb ≤ 2048 := hc.f8
  refine j_iload_n hE (i := 1) dX5_receive_0 rfl rfl ?_
  refine j_iconst hE (v := nI 1) dX5_receive_1 (by decide) ?_
  refine j_ic_ltN hE (tgt := 16) dX5_receive_2 (by decide) (by omega) (by omega) (fun h2 => ?_) (fun h2 => ?_)
  · exfalso; omega
  · refine j_iload_n hE (i := 1) dX5_receive_5 rfl rfl ?_
    refine j_sipush hE (v := nI 2048) dX5_receive_6 (by decide) ?_
    refine j_ic_gtN hE (tgt := 16) dX5_receive_9 (by decide) (by omega) (by omega) (fun h9 => ?_) (fun h9 => ?_)
    · exfalso; omega
    · refine j_iconst hE (v := nI 1) dX5_receive_12 (by decide) ?_
      refine j_goto hE (tgt := 17) dX5_receive_13 (by decide) ?_
      refine j_cSv hE mlX5_34 (fun l hl => c_X5_requireArgument_t hl K _ _) rfl rfl (Nat.le_of_ble_eq_true rfl) (by decide) (by decide) (by omega) (by omega) dX5_receive_17 (fun G9 hs9 hp => ?_) (fun _ _ h => h.elim)
      subst hp
      refine j_aload_n hE (i := 0) dX5_receive_20 rfl rfl ?_
      refine j_get hE flX5_12 hc.f0 rfl dX5_receive_21 ?_
      refine j_get hE flX5_41 hc.g0 rfl dX5_receive_24 ?_
      refine j_get hE flX5_80 hc.g1 rfl dX5_receive_27 ?_
      refine j_cSv hE mlX5_56 (fun l hl => c_X5_requireState_t hl K _ _) rfl rfl (Nat.le_of_ble_eq_true rfl) (by decide) (by decide) (by omega) (by omega) dX5_receive_30 (fun G9 hs9 hp => ?_) (fun _ _ h => h.elim)
      subst hp
      refine j_iload_n hE (i := 1) dX5_receive_33 rfl rfl ?_
      refine j_aload_n hE (i := 0) dX5_receive_34 rfl rfl ?_
      refine j_get hE flX5_12 hc.f0 rfl dX5_receive_35 ?_
      refine j_get hE flX5_109 hc.g0 rfl dX5_receive_38 ?_
      refine j_get hE flX5_113 hc.g4 rfl dX5_receive_41 ?_
      refine j_ic_gtN hE (tgt := 51) dX5_receive_44 (by decide) (by omega) (by omega) (fun h44 => ?_) (fun h44 => ?_)
      · exfalso; omega
      · refine j_iconst hE (v := nI 1) dX5_receive_47 (by decide) ?_
        refine j_goto hE (tgt := 52) dX5_receive_48 (by decide) ?_
        refine j_cSv hE mlX5_56 (fun l hl => c_X5_requireState_t hl K _ _) rfl rfl (Nat.le_of_ble_eq_true rfl) (by decide) (by decide) (by omega) (by omega) dX5_receive_52 (fun G9 hs9 hp => ?_) (fun _ _ h => h.elim)
        subst hp
        refine j_aload_n hE (i := 0) dX5_receive_55 rfl rfl ?_
        refine j_cVv hE mlX5_38 hc.f0 (fun l hl => c_X5_save hl K _ _ _ _ _ _ _ _ _ _ _ _ _ _ _ _ _ _ _ _ _ hc hpc) rfl rfl (Nat.le_of_ble_eq_true rfl) (by decide) (by decide) (by omega) (by omega) dX5_receive_56 (fun G9 hs9 hp => ?_) (fun _ _ h => h.elim)
        obtain ⟨hc, hO9⟩ := hp
        replace hO := hO.tr hO9
        refine j_aload_n hE (i := 0) dX5_receive_59 rfl rfl ?_
        refine j_get hE flX5_12 hc.f0 rfl dX5_receive_60 ?_
        refine j_get hE flX5_134 hc.g0 rfl dX5_receive_63 ?_
        refine j_get hE flX5_138 hc.g6 rfl dX5_receive_66 ?_
        refine j_iconst hE (v := nI 0) dX5_receive_69 (by decide) ?_
        refine j_iald hE hc.g7 rfl (by omega) (by decide) dX5_receive_70 ?_
        refine j_ist2 hE dX5_receive_71 rfl (by decide) rfl ?_
        refine j_aload_n hE (i := 0) dX5_receive_72 rfl rfl ?_
        refine j_get hE flX5_12 hc.f0 rfl dX5_receive_73 ?_
        refine j_iload_n hE (i := 1) dX5_receive_76 rfl rfl ?_
        refine j_cVv hE mlX5_143 hc.g0 (fun l hl => Ct.at hc.f3 (c_X4_takeBits hl K _ n _ _ _ _ _ _ _ _ _ _ _ _ _ hpc hw6 hw9 hm9 hmd hnb c hcb hok)) rfl rfl (Nat.le_of_ble_eq_true rfl) (by decide) (by decide) (by omega) (by omega) dX5_receive_77 (fun G9 hs9 hp => ?_) (fun _ _ h => h.elim)
        obtain ⟨hc, hO9⟩ := hc.now (s' := (w, m, true, tk, ow, (itr (tB w m ow pc md bits) c (rc, P)).2, pc, nx, (va_cpy bits bits c 0 (nb - c)), (nb - c), (itr (tB w m ow pc md bits) c (rc, P)).1, md)) (by show nb - c ≤ 2048; omega) hp
        replace hO := hO.tr hO9
        refine j_aload_n hE (i := 0) dX5_receive_80 rfl rfl ?_
        refine j_get hE flX5_12 hc.f0 rfl dX5_receive_81 ?_
        refine j_get hE flX5_134 hc.g0 rfl dX5_receive_84 ?_
        refine j_get hE flX5_138 hc.g6 rfl dX5_receive_87 ?_
        refine j_iconst hE (v := nI 0) dX5_receive_90 (by decide) ?_
        refine j_iald hE hc.g7 rfl (by omega) (by decide) dX5_receive_91 ?_
        refine j_iload_n hE (i := 2) dX5_receive_92 rfl rfl ?_
        refine j_isub hE dX5_receive_93 ?_
        refine j_iret hE hQ rfl (by omega) (by omega) dX5_receive_94 ?_
        exact ⟨_, rfl, rfl, hc, hO⟩

set_option maxRecDepth 100000 in
set_option maxHeartbeats 4000000 in
theorem c_X5_receive_f1 {l : Launch} (hl : l.stackTraces = false) (K : jK) (G : GH) (x hs n : Nat) (q : Nat → Nat) (cnt nw w m : Nat) (pl : Bool) (tk : Nat) (ow : Nat → Int32) (P : Nat → PaV) (pc nx : Nat) (bits : Nat → Int32) (nb : Nat) (rc : RcV) (md : Nat) (S : Nat → StV) (d : LyV) (hc : fcOk K G x n q cnt nw (w, m, pl, tk, ow, P, pc, nx, bits, nb, rc, md) S d) (hpc : pc ≤ 12) (p : Int32) (hp : ∀ j, 1 ≤ j → j ≤ 2048 → p ≠ nI j) : Ct l K yX5_receive cX5_receive 3 (some .int) 7 109 3 18 [.ref x, .int p] G hs (pI (fun _ _ _ => False)) (fun X G' => X = jIA ∧ G' = G) := by
  refine Ct.ofA hl (by decide) (Nat.le_of_ble_eq_true rfl) (L0 := [some (.ref x), some (.int p), none]) (jL_of 1 rfl) ?_
  intro A E hE hQ hX hNm
  have hO : fO x G G := fO.rf
  have hnb : nb ≤ 2048 := hc.f8
  refine j_iload_n hE (i := 1) dX5_receive_0 rfl rfl ?_
  refine j_iconst hE (v := nI 1) dX5_receive_1 (by decide) ?_
  refine j_ic_lt hE (tgt := 16) dX5_receive_2 (by decide) (fun h2 => ?_) (fun h2 => ?_)
  · refine j_iconst hE (v := nI 0) dX5_receive_16 (by decide) ?_
    refine j_cSv hE mlX5_34 (fun l hl => c_X5_requireArgument_f hl K _ _) rfl rfl (Nat.le_of_ble_eq_true rfl) (by decide) (by decide) (by omega) (by omega) dX5_receive_17 (fun G9 hs9 hp => ?_) (fun X G9 h => by obtain ⟨rfl, rfl⟩ := h; exact j_out hE hX hQ (by omega) (by omega) ⟨rfl, rfl⟩)
    exact hp.elim
  · refine j_iload_n hE (i := 1) dX5_receive_5 rfl rfl ?_
    refine j_sipush hE (v := nI 2048) dX5_receive_6 (by decide) ?_
    refine j_ic_gt hE (tgt := 16) dX5_receive_9 (by decide) (fun h9 => ?_) (fun h9 => ?_)
    · refine j_iconst hE (v := nI 0) dX5_receive_16 (by decide) ?_
      refine j_cSv hE mlX5_34 (fun l hl => c_X5_requireArgument_f hl K _ _) rfl rfl (Nat.le_of_ble_eq_true rfl) (by decide) (by decide) (by omega) (by omega) dX5_receive_17 (fun G9 hs9 hp => ?_) (fun X G9 h => by obtain ⟨rfl, rfl⟩ := h; exact j_out hE hX hQ (by omega) (by omega) ⟨rfl, rfl⟩)
      exact hp.elim
    · exact absurd (And.intro (Int32.not_lt.mp h2) (Int32.not_lt.mp h9)) (rg_f (a := 1) (b := 2048) hp (by omega) (by omega))

set_option maxRecDepth 100000 in
set_option maxHeartbeats 4000000 in
theorem c_X5_receive_f2 {l : Launch} (hl : l.stackTraces = false) (K : jK) (G : GH) (x hs n : Nat) (q : Nat → Nat) (cnt nw w m : Nat) (tk : Nat) (ow : Nat → Int32) (P : Nat → PaV) (pc nx : Nat) (bits : Nat → Int32) (nb : Nat) (rc : RcV) (md : Nat) (S : Nat → StV) (d : LyV) (hc : fcOk K G x n q cnt nw (w, m, false, tk, ow, P, pc, nx, bits, nb, rc, md) S d) (hpc : pc ≤ 12) (c : Nat) (hc1 : 1 ≤ c) (hc9 : c ≤ 2048) : Ct l K yX5_receive cX5_receive 3 (some .int) 7 109 3 18 [.ref x, .int (nI c)] G hs (pI (fun _ _ _ => False)) (fun X G' => X = jIS ∧ G' = G) := by
  refine Ct.ofA hl (by decide) (Nat.le_of_ble_eq_true rfl) (L0 := [some (.ref x), some (.int (nI c)), none]) (jL_of 1 rfl) ?_
  intro A E hE hQ hX hNm
  have hO : fO x G G := fO.rf
  have hnb : nb ≤ 2048 := hc.f8
  refine j_iload_n hE (i := 1) dX5_receive_0 rfl rfl ?_
  refine j_iconst hE (v := nI 1) dX5_receive_1 (by decide) ?_
  refine j_ic_ltN hE (tgt := 16) dX5_receive_2 (by decide) (by omega) (by omega) (fun h2 => ?_) (fun h2 => ?_)
  · exfalso; omega
  · refine j_iload_n hE (i := 1) dX5_receive_5 rfl rfl ?_
    refine j_sipush hE (v := nI 2048) dX5_receive_6 (by decide) ?_
    refine j_ic_gtN hE (tgt := 16) dX5_receive_9 (by decide) (by omega) (by omega) (fun h9 => ?_) (fun h9 => ?_)
    · exfalso; omega
    · refine j_iconst hE (v := nI 1) dX5_receive_12 (by decide) ?_
      refine j_goto hE (tgt := 17) dX5_receive_13 (by decide) ?_
      refine j_cSv hE mlX5_34 (fun l hl => c_X5_requireArgument_t hl K _ _) rfl rfl (Nat.le_of_ble_eq_true rfl) (by decide) (by decide) (by omega) (by omega) dX5_receive_17 (fun G9 hs9 hp => ?_) (fun _ _ h => h.elim)
      subst hp
      refine j_aload_n hE (i := 0) dX5_receive_20 rfl rfl ?_
      refine j_get hE flX5_12 hc.f0 rfl dX5_receive_21 ?_
      refine j_get hE flX5_41 hc.g0 rfl dX5_receive_24 ?_
      refine j_get hE flX5_80 hc.g1 rfl dX5_receive_27 ?_
      refine j_cSv hE mlX5_56 (fun l hl => c_X5_requireState_f hl K _ _) rfl rfl (Nat.le_of_ble_eq_true rfl) (by decide) (by decide) (by omega) (by omega) dX5_receive_30 (fun G9 hs9 hp => ?_) (fun X G9 h => by obtain ⟨rfl, rfl⟩ := h; exact j_out hE hX hQ (by omega) (by omega) ⟨rfl, rfl⟩)
      exact hp.elim

set_option maxRecDepth 100000 in
set_option maxHeartbeats 4000000 in
theorem c_X5_receive_f3 {l : Launch} (hl : l.stackTraces = false) (K : jK) (G : GH) (x hs n : Nat) (q : Nat → Nat) (cnt nw w m : Nat) (tk : Nat) (ow : Nat → Int32) (P : Nat → PaV) (pc nx : Nat) (bits : Nat → Int32) (nb : Nat) (rc : RcV) (md : Nat) (S : Nat → StV) (d : LyV) (hc : fcOk K G x n q cnt nw (w, m, true, tk, ow, P, pc, nx, bits, nb, rc, md) S d) (hpc : pc ≤ 12) (c : Nat) (hc1 : 1 ≤ c) (hc9 : c ≤ 2048) (hcb : nb < c) : Ct l K yX5_receive cX5_receive 3 (some .int) 7 109 3 18 [.ref x, .int (nI c)] G hs (pI (fun _ _ _ => False)) (fun X G' => X = jIS ∧ G' = G) := by
  refine Ct.ofA hl (by decide) (Nat.le_of_ble_eq_true rfl) (L0 := [some (.ref x), some (.int (nI c)), none]) (jL_of 1 rfl) ?_
  intro A E hE hQ hX hNm
  have hO : fO x G G := fO.rf
  have hnb : nb ≤ 2048 := hc.f8
  refine j_iload_n hE (i := 1) dX5_receive_0 rfl rfl ?_
  refine j_iconst hE (v := nI 1) dX5_receive_1 (by decide) ?_
  refine j_ic_ltN hE (tgt := 16) dX5_receive_2 (by decide) (by omega) (by omega) (fun h2 => ?_) (fun h2 => ?_)
  · exfalso; omega
  · refine j_iload_n hE (i := 1) dX5_receive_5 rfl rfl ?_
    refine j_sipush hE (v := nI 2048) dX5_receive_6 (by decide) ?_
    refine j_ic_gtN hE (tgt := 16) dX5_receive_9 (by decide) (by omega) (by omega) (fun h9 => ?_) (fun h9 => ?_)
    · exfalso; omega
    · refine j_iconst hE (v := nI 1) dX5_receive_12 (by decide) ?_
      refine j_goto hE (tgt := 17) dX5_receive_13 (by decide) ?_
      refine j_cSv hE mlX5_34 (fun l hl => c_X5_requireArgument_t hl K _ _) rfl rfl (Nat.le_of_ble_eq_true rfl) (by decide) (by decide) (by omega) (by omega) dX5_receive_17 (fun G9 hs9 hp => ?_) (fun _ _ h => h.elim)
      subst hp
      refine j_aload_n hE (i := 0) dX5_receive_20 rfl rfl ?_
      refine j_get hE flX5_12 hc.f0 rfl dX5_receive_21 ?_
      refine j_get hE flX5_41 hc.g0 rfl dX5_receive_24 ?_
      refine j_get hE flX5_80 hc.g1 rfl dX5_receive_27 ?_
      refine j_cSv hE mlX5_56 (fun l hl => c_X5_requireState_t hl K _ _) rfl rfl (Nat.le_of_ble_eq_true rfl) (by decide) (by decide) (by omega) (by omega) dX5_receive_30 (fun G9 hs9 hp => ?_) (fun _ _ h => h.elim)
      subst hp
      refine j_iload_n hE (i := 1) dX5_receive_33 rfl rfl ?_
      refine j_aload_n hE (i := 0) dX5_receive_34 rfl rfl ?_
      refine j_get hE flX5_12 hc.f0 rfl dX5_receive_35 ?_
      refine j_get hE flX5_109 hc.g0 rfl dX5_receive_38 ?_
      refine j_get hE flX5_113 hc.g4 rfl dX5_receive_41 ?_
      refine j_ic_gtN hE (tgt := 51) dX5_receive_44 (by decide) (by omega) (by omega) (fun h44 => ?_) (fun h44 => ?_)
      · refine j_iconst hE (v := nI 0) dX5_receive_51 (by decide) ?_
        refine j_cSv hE mlX5_56 (fun l hl => c_X5_requireState_f hl K _ _) rfl rfl (Nat.le_of_ble_eq_true rfl) (by decide) (by decide) (by omega) (by omega) dX5_receive_52 (fun G9 hs9 hp => ?_) (fun X G9 h => by obtain ⟨rfl, rfl⟩ := h; exact j_out hE hX hQ (by omega) (by omega) ⟨rfl, rfl⟩)
        exact hp.elim
      · exfalso; omega

set_option maxRecDepth 100000 in
set_option maxHeartbeats 4000000 in
theorem c_X5_digest {l : Launch} (hl : l.stackTraces = false) (K : jK) (G : GH) (x hs n : Nat) (q : Nat → Nat) (cnt nw w m : Nat) (pl : Bool) (tk : Nat) (ow : Nat → Int32) (P : Nat → PaV) (pc nx : Nat) (bits : Nat → Int32) (nb : Nat) (rc : RcV) (md : Nat) (S : Nat → StV) (d : LyV) (hc : fcOk K G x n q cnt nw (w, m, pl, tk, ow, P, pc, nx, bits, nb, rc, md) S d) (hpc : pc ≤ 12) (hw6 : 6 ≤ w) (hw9 : w ≤ 16) (hm9 : m ≤ 8) : Ct l K yX5_digest cX5_digest 1 (some .long) 3 74 0 0 [.ref x] G hs (pL (fun z9 G' _ => z9 = 31 * sHs w m pl ow P pc nx bits nb rc md 2837 + (nI cnt).toInt64 ∧ G' = G)) jno := by
  refine Ct.ofA hl (by decide) (Nat.le_of_ble_eq_true rfl) (L0 := [some (.ref x)]) (jL_of 0 rfl) ?_
  intro A E hE hQ hX hNm
  have hO : fO x G G := fO.rf
  have hnb : nb ≤ 2048 := hc.f8
  refine j_aload_n hE (i := 0) dX5_digest_0 rfl rfl ?_
  refine j_get hE flX5_12 hc.f0 rfl dX5_digest_1 ?_
  refine j_ldc2 hE dX5_digest_4 tw_303 ?_
  refine j_cVl hE mlX5_175 hc.g0 (fun l hl => Ct.at hc.f3 (c_X4_mixInto hl K _ n _ _ _ _ _ _ _ _ _ _ _ _ _ hpc hw6 hw9 hm9 hnb _)) rfl rfl (Nat.le_of_ble_eq_true rfl) (by decide) (by decide) (by omega) (by omega) dX5_digest_7 (fun r G9 hs9 hp => ?_) (fun _ _ h => h.elim)
  obtain ⟨rfl, hp⟩ := hp
  have hp9 := hp.trans hc.f3
  subst hp9
  refine j_aload_n hE (i := 0) dX5_digest_10 rfl rfl ?_
  refine j_get hE flX5_20 hc.f0 rfl dX5_digest_11 ?_
  refine j_i2l hE dX5_digest_14 ?_
  refine j_cSl hE mlX5_179 (fun l hl => c_X5_mix hl K _ _ _ _) rfl rfl (Nat.le_of_ble_eq_true rfl) (by decide) (by decide) (by omega) (by omega) dX5_digest_15 (fun r G9 hs9 hp => ?_) (fun _ _ h => h.elim)
  obtain ⟨rfl, rfl⟩ := hp
  refine j_lret hE hQ (by omega) (by omega) dX5_digest_18 ?_
  exact ⟨_, rfl, rfl, rfl⟩

