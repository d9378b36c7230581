/-! ===== the class: parameters and the plan ===== -/
section FE
variable {K : jK} {G : GH} {x n : Nat} {q : Nat → Nat} {cnt nw w m : Nat} {pl : Bool} {tk : Nat} {ow : Nat → Int32} {P : Nat → PaV} {pc nx : Nat} {bits : Nat → Int32} {nb : Nat} {rc : RcV} {md : Nat} {S : Nat → StV} {d : LyV}
theorem fcOk.g0 (h : fcOk K G x n q cnt nw (w, m, pl, tk, ow, P, pc, nx, bits, nb, rc, md) S d) : G n = some (.inr (4, [.ref (n + 1), .ref (n + 3), .int (nI pc), .int (nI nx), .ref (n + 4), .ref (n + 6), .int (nI md)])) := h.g st_0
theorem fcOk.g1 (h : fcOk K G x n q cnt nw (w, m, pl, tk, ow, P, pc, nx, bits, nb, rc, md) S d) : G (n + 1) = some (.inr (1, [.int (nI w), .int (nI m), .int (jb pl), .int (nI tk), .ref (n + 1 + 1)])) := h.g st_1
theorem fcOk.g2 (h : fcOk K G x n q cnt nw (w, m, pl, tk, ow, P, pc, nx, bits, nb, rc, md) S d) : G (n + 1 + 1) = some (iA K 128 ow) := h.g st_2
theorem fcOk.g3 (h : fcOk K G x n q cnt nw (w, m, pl, tk, ow, P, pc, nx, bits, nb, rc, md) S d) : G (n + 3) = some (pA K 12 (pFn n)) := h.g st_3
theorem fcOk.g4 (h : fcOk K G x n q cnt nw (w, m, pl, tk, ow, P, pc, nx, bits, nb, rc, md) S d) : G (n + 4) = some (.inr (0, [.ref (n + 4 + 1), .int (nI nb)])) := h.g st_4
theorem fcOk.g5 (h : fcOk K G x n q cnt nw (w, m, pl, tk, ow, P, pc, nx, bits, nb, rc, md) S d) : G (n + 4 + 1) = some (iA K 2048 bits) := h.g st_5
theorem fcOk.g6 (h : fcOk K G x n q cnt nw (w, m, pl, tk, ow, P, pc, nx, bits, nb, rc, md) S d) : G (n + 6) = some (.inr (3, [.int rc.1, .int rc.2.1, .ref (n + 6 + 1), .ref (n + 6 + 2), .int (nI rc.2.2.2.2.1), .int rc.2.2.2.2.2])) := h.g st_6
theorem fcOk.g7 (h : fcOk K G x n q cnt nw (w, m, pl, tk, ow, P, pc, nx, bits, nb, rc, md) S d) : G (n + 6 + 1) = some (iA K 6 rc.2.2.1) := h.g st_7
theorem fcOk.g8 (h : fcOk K G x n q cnt nw (w, m, pl, tk, ow, P, pc, nx, bits, nb, rc, md) S d) : G (n + 6 + 2) = some (iA K 16 rc.2.2.2.1) := h.g st_8
theorem fcOk.gp0 (h : fcOk K G x n q cnt nw (w, m, pl, tk, ow, P, pc, nx, bits, nb, rc, md) S d) {j : Nat} (hj : j < 12) : G (n + 9 + 3 * j) = some (.inr (2, [.int (P j).1, .int (P j).2.1, .int (P j).2.2.1, .int (P j).2.2.2.1, .ref (n + 9 + 3 * j + 1), .ref (n + 9 + 3 * j + 2), .int (P j).2.2.2.2.2.2.1, .int (jb (P j).2.2.2.2.2.2.2.1), .int (P j).2.2.2.2.2.2.2.2.1, .int (P j).2.2.2.2.2.2.2.2.2])) := h.g (st_p0 hj)
theorem fcOk.gd (h : fcOk K G x n q cnt nw (w, m, pl, tk, ow, P, pc, nx, bits, nb, rc, md) S d) {dw dm : Nat} {dpl : Bool} {dtk : Nat} {dow : Nat → Int32} (e : d = (dw, dm, dpl, dtk, dow)) : G (x + 227) = some (.inr (1, [.int (nI dw), .int (nI dm), .int (jb dpl), .int (nI dtk), .ref (x + 227 + 1)])) := by
  subst e
  exact h.d0
end FE
theorem cntB_cg {P Q : Nat → Bool} : ∀ {n : Nat}, (∀ o, o < n → P o = Q o) → cntB P n = cntB Q n
  | 0, _ => rfl
  | n + 1, h => by
    show cntB P n + _ = cntB Q n + _
    rw [cntB_cg (fun o ho => h o (by omega)), h n (by omega)]
theorem cntB_one {P Q : Nat → Bool} {i : Nat} (h1 : P i = false) (h2 : Q i = true) (h : ∀ o, o ≠ i → P o = Q o) : ∀ {n : Nat}, i < n → cntB Q n = cntB P n + 1
  | n + 1, hi => by
    show cntB Q n + _ = cntB P n + _ + 1
    by_cases e : n = i
    · subst e
      rw [h1, h2, cntB_cg (P := Q) (Q := P) (fun o ho => (h o (by omega)).symm)]
      rfl
    · rw [cntB_one h1 h2 h (n := n) (by omega), h n e]
      omega
theorem cntB_none {P : Nat → Bool} : ∀ {n : Nat}, (∀ o, o < n → P o = false) → cntB P n = 0
  | 0, _ => rfl
  | n + 1, h => by
    show cntB P n + _ = 0
    rw [cntB_none (fun o ho => h o (by omega)), h n (by omega)]
    rfl
theorem cntB_all {P : Nat → Bool} : ∀ {n : Nat}, (∀ o, o < n → P o = true) → cntB P n = n
  | 0, _ => rfl
  | n + 1, h => by
    show cntB P n + _ = n + 1
    rw [cntB_all (fun o ho => h o (by omega)), h n (by omega)]
    rfl
/-- the turn at which the class stands: with 32 - u samples, before the parameter i -/
def tin (S : Nat → Nat) (n u i : Nat) : Nat := cntB (fun o => decide (32 < S o + u ∨ (S o + u = 32 ∧ o < i))) n
def tou (S : Nat → Nat) (n u : Nat) : Nat := cntB (fun o => decide (32 < S o + u)) n
theorem tin_0 {S : Nat → Nat} {n u : Nat} : tin S n u 0 = tou S n u := cntB_cg (fun o _ => decide_eq_decide.mpr (by omega))
theorem tin_n {S : Nat → Nat} {n u : Nat} : tin S n u n = tou S n (u + 1) := cntB_cg (fun o _ => decide_eq_decide.mpr (by omega))
theorem tin_ne {S : Nat → Nat} {n u i : Nat} (h : S i + u ≠ 32) : tin S n u (i + 1) = tin S n u i := cntB_cg (fun o _ => decide_eq_decide.mpr (by
  by_cases e : o = i
  · subst e; omega
  · omega))
theorem tin_eq {S : Nat → Nat} {n u i : Nat} (hi : i < n) (h : S i + u = 32) : tin S n u (i + 1) = tin S n u i + 1 := cntB_one (i := i) (decide_eq_false (by omega)) (decide_eq_true (by omega)) (fun o ho => decide_eq_decide.mpr (by omega)) hi
theorem tin_rank {S : Nat → Nat} {n u i : Nat} (h : S i + u = 32) : tin S n u i = rank S n i := cntB_cg (fun o _ => decide_eq_decide.mpr (by omega))
theorem tou_0 {S : Nat → Nat} {n : Nat} (h : ∀ o, o < n → S o ≤ 32) : tou S n 0 = 0 := cntB_none (fun o ho => decide_eq_false (by have := h o ho; omega))
theorem tou_33 {S : Nat → Nat} {n : Nat} : tou S n 33 = n := cntB_all (fun o ho => decide_eq_true (by omega))
theorem sOf_le {m : Nat} {x : Int32} (hm : m ≤ 8) (h : rOk x) : sOf m x ≤ 32 := by
  rcases h with ⟨r, h1, h4, rfl⟩ | ⟨q, hq, rfl⟩
  · rw [sOf_p h1 h4]
    exact Nat.le_trans (Nat.mul_le_mul h4 hm) (by omega)
  · rw [sOf_n hq]
    exact Nat.le_trans (Nat.div_le_self _ _) (by omega)
theorem s32_dec {u : Nat} (h : u ≤ 32) : nI (32 - u) + Int32.ofInt (-1) = nI 32 - nI (u + 1) := by
  rw [← pk_sub h, nI_succ u, show Int32.ofInt (-1) = -1 by decide, Int32.add_neg_eq_sub, Int32.sub_sub]
theorem s32_ge : nI 32 - nI 33 < 0 := by decide
set_option maxRecDepth 100000 in
set_option maxHeartbeats 4000000 in
theorem c_X5_addParameter_t {l : Launch} (hl : l.stackTraces = false) (K : jK) (G : GH) (x hs n : Nat) (q : Nat → Nat) (cnt nw w m : Nat) (pl : Bool) (tk : Nat) (ow : Nat → Int32) (P : Nat → PaV) (pc nx : Nat) (bits : Nat → Int32) (nb : Nat) (rc : RcV) (md : Nat) (S : Nat → StV) (d : LyV) (hc : fcOk K G x n q cnt nw (w, m, pl, tk, ow, P, pc, nx, bits, nb, rc, md) S d) (hpc : pc ≤ 12) (rate : Int32) (hr : rOk rate) (hlt : pc < 12) : Ct l K yX5_addParameter cX5_addParameter 5 (some .int) 7 102 2 12 [.ref x, .int rate] G hs (pI (fun z9 G' _ => z9 = nI pc ∧ fcOk K G' x n q (sC cnt) ((nw + 1) % 4) (w, m, false, tk, ow, (va_up P pc (rate, nI 0, -1, nI 0, itr (flF (nI 0)) 3 (P pc).2.2.2.2.1, itr (flF (nI 255)) 3 (P pc).2.2.2.2.2.1, nI 1, false, nI 0, nI 0)), (pc + 1), 0, bits, 0, (nI 0, nI 0, rc.2.2.1, rc.2.2.2.1, rc.2.2.2.2.1, nI 0), md) (svS S nw (w, m, pl, tk, ow, P, pc, nx, bits, nb, rc, md)) d ∧ fO x G G')) jno := by
  refine Ct.ofA hl (by decide) (Nat.le_of_ble_eq_true rfl) (L0 := [some (.ref x), some (.int rate), none, none, none]) (jL_of 3 rfl) ?_
  intro A E hE hQ hX hNm
  have hO : fO x G G := fO.rf
  have hnb : nb ≤ 2048 := hc.f8
  have hpc12 : pc < 12 := hlt
  have hj12 : pc < 12 := hlt
  refine j_iload_n hE (i := 1) dX5_addParameter_0 rfl rfl ?_
  refine j_iconst hE (v := nI 1) dX5_addParameter_1 (by decide) ?_
  refine j_ic_lt hE (tgt := 14) dX5_addParameter_2 (by decide) (fun h2 => ?_) (fun h2 => ?_)
  · refine j_iconst hE (v := nI 0) dX5_addParameter_14 (by decide) ?_
    refine j_ist2 hE dX5_addParameter_15 rfl (by decide) rfl ?_
    refine j_iload_n hE (i := 1) dX5_addParameter_16 rfl rfl ?_
    refine j_bipush hE (v := -2) dX5_addParameter_17 (by decide) ?_
    refine j_ic_eq hE (tgt := 34) dX5_addParameter_19 (by decide) (fun h19 => ?_) (fun h19 => ?_)
    · refine j_iconst hE (v := nI 1) dX5_addParameter_34 (by decide) ?_
      refine j_goto hE (tgt := 39) dX5_addParameter_35 (by decide) ?_
      refine j_ist3 hE dX5_addParameter_39 rfl (by decide) rfl ?_
      refine j_iload_n hE (i := 2) dX5_addParameter_40 rfl rfl ?_
      refine j_if_neN hE (tgt := 48) dX5_addParameter_41 (by decide) (by omega) (fun h41 => ?_) (fun h41 => ?_)
      · exfalso; omega
      · refine j_iload_n hE (i := 3) dX5_addParameter_44 rfl rfl ?_
        refine j_if_eqN hE (tgt := 52) dX5_addParameter_45 (by decide) (by omega) (fun h45 => ?_) (fun h45 => ?_)
        · exfalso; omega
        · refine j_iconst hE (v := nI 1) dX5_addParameter_48 (by decide) ?_
          refine j_goto hE (tgt := 53) dX5_addParameter_49 (by decide) ?_
          refine j_cSv hE mlX5_34 (fun l hl => c_X5_requireArgument_t hl K _ _) rfl rfl (Nat.le_of_ble_eq_true rfl) (by decide) (by decide) (by omega) (by omega) dX5_addParameter_53 (fun G9 hs9 hp => ?_) (fun _ _ h => h.elim)
          subst hp
          refine j_aload_n hE (i := 0) dX5_addParameter_56 rfl rfl ?_
          refine j_get hE flX5_12 hc.f0 rfl dX5_addParameter_57 ?_
          refine j_get hE flX5_53 hc.g0 rfl dX5_addParameter_60 ?_
          refine j_bipush hE (v := nI 12) dX5_addParameter_63 (by decide) ?_
          refine j_ic_geN hE (tgt := 72) dX5_addParameter_65 (by decide) (by omega) (by omega) (fun h65 => ?_) (fun h65 => ?_)
          · exfalso; omega
          · refine j_iconst hE (v := nI 1) dX5_addParameter_68 (by decide) ?_
            refine j_goto hE (tgt := 73) dX5_addParameter_69 (by decide) ?_
            refine j_cSv hE mlX5_56 (fun l hl => c_X5_requireState_t hl K _ _) rfl rfl (Nat.le_of_ble_eq_true rfl) (by decide) (by decide) (by omega) (by omega) dX5_addParameter_73 (fun G9 hs9 hp => ?_) (fun _ _ h => h.elim)
            subst hp
            refine j_aload_n hE (i := 0) dX5_addParameter_76 rfl rfl ?_
            refine j_cVv hE mlX5_38 hc.f0 (fun l hl => c_X5_save hl K _ _ _ _ _ _ _ _ _ _ _ _ _ _ _ _ _ _ _ _ _ hc hpc) rfl rfl (Nat.le_of_ble_eq_true rfl) (by decide) (by decide) (by omega) (by omega) dX5_addParameter_77 (fun G9 hs9 hp => ?_) (fun _ _ h => h.elim)
            obtain ⟨hc, hO9⟩ := hp
            replace hO := hO.tr hO9
            refine j_aload_n hE (i := 0) dX5_addParameter_80 rfl rfl ?_
            refine j_get hE flX5_12 hc.f0 rfl dX5_addParameter_81 ?_
            refine j_get hE flX5_53 hc.g0 rfl dX5_addParameter_84 ?_
            refine j_ist4 hE dX5_addParameter_87 (by decide) rfl ?_
            refine j_aload_n hE (i := 0) dX5_addParameter_89 rfl rfl ?_
            refine j_get hE flX5_12 hc.f0 rfl dX5_addParameter_90 ?_
            refine j_get hE flX5_59 hc.g0 rfl dX5_addParameter_93 ?_
            refine j_iload hE dX5_addParameter_96 rfl ?_
            refine j_par hE hc.g3 rfl hpc12 dX5_addParameter_98 ?_
            refine j_iload_n hE (i := 1) dX5_addParameter_99 rfl rfl ?_
            refine j_cVv hE mlX5_63 (hc.gp0 hj12) (fun l hl => Ct.at ((st_pa hpc12).trans hc.f3) (c_X2_begin hl K _ _ _ _ _ _ _ _ _ _ _ _ _ _)) rfl rfl (Nat.le_of_ble_eq_true rfl) (by decide) (by decide) (by omega) (by omega) dX5_addParameter_100 (fun G9 hs9 hp => ?_) (fun _ _ h => h.elim)
            obtain ⟨hc, hO9⟩ := hc.now (s' := (w, m, pl, tk, ow, (va_up P pc (rate, nI 0, -1, nI 0, itr (flF (nI 0)) 3 (P pc).2.2.2.2.1, itr (flF (nI 255)) 3 (P pc).2.2.2.2.2.1, nI 1, false, nI 0, nI 0)), pc, nx, bits, nb, rc, md)) hc.f8 (hp.trans (st_pa' hpc12 (rate, nI 0, -1, nI 0, itr (flF (nI 0)) 3 (P pc).2.2.2.2.1, itr (flF (nI 255)) 3 (P pc).2.2.2.2.2.1, nI 1, false, nI 0, nI 0)))
            replace hO := hO.tr hO9
            refine j_aload_n hE (i := 0) dX5_addParameter_103 rfl rfl ?_
            refine j_get hE flX5_12 hc.f0 rfl dX5_addParameter_104 ?_
            refine j_iload hE dX5_addParameter_107 rfl ?_
            refine j_iconst hE (v := nI 1) dX5_addParameter_109 (by decide) ?_
            refine j_iaddN hE dX5_addParameter_110 ?_
            refine j_put hE flX5_53 hc.g0 rfl rfl (by simp only [List.length_cons, List.length_nil]; omega) dX5_addParameter_111 ?_
            refine jgen (fun G8 hG8 => ?_)
            obtain ⟨hc, hO9⟩ := hc.sf (pc + 1) nx md hG8
            replace hO := hO.tr hO9
            refine j_aload_n hE (i := 0) dX5_addParameter_114 rfl rfl ?_
            refine j_get hE flX5_12 hc.f0 rfl dX5_addParameter_115 ?_
            refine j_cVv hE mlX5_50 hc.g0 (fun l hl => Ct.at hc.f3 (c_X4_restartLink hl K _ n _ _ _ _ _ _ _ _ _ _ _ _ _)) rfl rfl (Nat.le_of_ble_eq_true rfl) (by decide) (by decide) (by omega) (by omega) dX5_addParameter_118 (fun G9 hs9 hp => ?_) (fun _ _ h => h.elim)
            obtain ⟨hc, hO9⟩ := hc.now (s' := (w, m, false, tk, ow, (va_up P pc (rate, nI 0, -1, nI 0, itr (flF (nI 0)) 3 (P pc).2.2.2.2.1, itr (flF (nI 255)) 3 (P pc).2.2.2.2.2.1, nI 1, false, nI 0, nI 0)), (pc + 1), 0, bits, 0, (nI 0, nI 0, rc.2.2.1, rc.2.2.2.1, rc.2.2.2.2.1, nI 0), md)) (Nat.zero_le _) hp
            replace hO := hO.tr hO9
            refine j_iload hE dX5_addParameter_121 rfl ?_
            refine j_iret hE hQ rfl (by omega) (by omega) dX5_addParameter_123 ?_
            exact ⟨_, rfl, rfl, hc, hO⟩
    · refine j_iload_n hE (i := 1) dX5_addParameter_22 rfl rfl ?_
      refine j_bipush hE (v := -4) dX5_addParameter_23 (by decide) ?_
      refine j_ic_eq hE (tgt := 34) dX5_addParameter_25 (by decide) (fun h25 => ?_) (fun h25 => ?_)
      · refine j_iconst hE (v := nI 1) dX5_addParameter_34 (by decide) ?_
        refine j_goto hE (tgt := 39) dX5_addParameter_35 (by decide) ?_
        refine j_ist3 hE dX5_addParameter_39 rfl (by decide) rfl ?_
        refine j_iload_n hE (i := 2) dX5_addParameter_40 rfl rfl ?_
        refine j_if_neN hE (tgt := 48) dX5_addParameter_41 (by decide) (by omega) (fun h41 => ?_) (fun h41 => ?_)
        · exfalso; omega
        · refine j_iload_n hE (i := 3) dX5_addParameter_44 rfl rfl ?_
          refine j_if_eqN hE (tgt := 52) dX5_addParameter_45 (by decide) (by omega) (fun h45 => ?_) (fun h45 => ?_)
          · exfalso; omega
          · refine j_iconst hE (v := nI 1) dX5_addParameter_48 (by decide) ?_
            refine j_goto hE (tgt := 53) dX5_addParameter_49 (by decide) ?_
            refine j_cSv hE mlX5_34 (fun l hl => c_X5_requireArgument_t hl K _ _) rfl rfl (Nat.le_of_ble_eq_true rfl) (by decide) (by decide) (by omega) (by omega) dX5_addParameter_53 (fun G9 hs9 hp => ?_) (fun _ _ h => h.elim)
            subst hp
            refine j_aload_n hE (i := 0) dX5_addParameter_56 rfl rfl ?_
            refine j_get hE flX5_12 hc.f0 rfl dX5_addParameter_57 ?_
            refine j_get hE flX5_53 hc.g0 rfl dX5_addParameter_60 ?_
            refine j_bipush hE (v := nI 12) dX5_addParameter_63 (by decide) ?_
            refine j_ic_geN hE (tgt := 72) dX5_addParameter_65 (by decide) (by omega) (by omega) (fun h65 => ?_) (fun h65 => ?_)
            · exfalso; omega
            · refine j_iconst hE (v := nI 1) dX5_addParameter_68 (by decide) ?_
              refine j_goto hE (tgt := 73) dX5_addParameter_69 (by decide) ?_
              refine j_cSv hE mlX5_56 (fun l hl => c_X5_requireState_t hl K _ _) rfl rfl (Nat.le_of_ble_eq_true rfl) (by decide) (by decide) (by omega) (by omega) dX5_addParameter_73 (fun G9 hs9 hp => ?_) (fun _ _ h => h.elim)
              subst hp
              refine j_aload_n hE (i := 0) dX5_addParameter_76 rfl rfl ?_
              refine j_cVv hE mlX5_38 hc.f0 (fun l hl => c_X5_save hl K _ _ _ _ _ _ _ _ _ _ _ _ _ _ _ _ _ _ _ _ _ hc hpc) rfl rfl (Nat.le_of_ble_eq_true rfl) (by decide) (by decide) (by omega) (by omega) dX5_addParameter_77 (fun G9 hs9 hp => ?_) (fun _ _ h => h.elim)
              obtain ⟨hc, hO9⟩ := hp
              replace hO := hO.tr hO9
              refine j_aload_n hE (i := 0) dX5_addParameter_80 rfl rfl ?_
              refine j_get hE flX5_12 hc.f0 rfl dX5_addParameter_81 ?_
              refine j_get hE flX5_53 hc.g0 rfl dX5_addParameter_84 ?_
              refine j_ist4 hE dX5_addParameter_87 (by decide) rfl ?_
              refine j_aload_n hE (i := 0) dX5_addParameter_89 rfl rfl ?_
              refine j_get hE flX5_12 hc.f0 rfl dX5_addParameter_90 ?_
              refine j_get hE flX5_59 hc.g0 rfl dX5_addParameter_93 ?_
              refine j_iload hE dX5_addParameter_96 rfl ?_
              refine j_par hE hc.g3 rfl hpc12 dX5_addParameter_98 ?_
              refine j_iload_n hE (i := 1) dX5_addParameter_99 rfl rfl ?_
              refine j_cVv hE mlX5_63 (hc.gp0 hj12) (fun l hl => Ct.at ((st_pa hpc12).trans hc.f3) (c_X2_begin hl K _ _ _ _ _ _ _ _ _ _ _ _ _ _)) rfl rfl (Nat.le_of_ble_eq_true rfl) (by decide) (by decide) (by omega) (by omega) dX5_addParameter_100 (fun G9 hs9 hp => ?_) (fun _ _ h => h.elim)
              obtain ⟨hc, hO9⟩ := hc.now (s' := (w, m, pl, tk, ow, (va_up P pc (rate, nI 0, -1, nI 0, itr (flF (nI 0)) 3 (P pc).2.2.2.2.1, itr (flF (nI 255)) 3 (P pc).2.2.2.2.2.1, nI 1, false, nI 0, nI 0)), pc, nx, bits, nb, rc, md)) hc.f8 (hp.trans (st_pa' hpc12 (rate, nI 0, -1, nI 0, itr (flF (nI 0)) 3 (P pc).2.2.2.2.1, itr (flF (nI 255)) 3 (P pc).2.2.2.2.2.1, nI 1, false, nI 0, nI 0)))
              replace hO := hO.tr hO9
              refine j_aload_n hE (i := 0) dX5_addParameter_103 rfl rfl ?_
              refine j_get hE flX5_12 hc.f0 rfl dX5_addParameter_104 ?_
              refine j_iload hE dX5_addParameter_107 rfl ?_
              refine j_iconst hE (v := nI 1) dX5_addParameter_109 (by decide) ?_
              refine j_iaddN hE dX5_addParameter_110 ?_
              refine j_put hE flX5_53 hc.g0 rfl rfl (by simp only [List.length_cons, List.length_nil]; omega) dX5_addParameter_111 ?_
              refine jgen (fun G8 hG8 => ?_)
              obtain ⟨hc, hO9⟩ := hc.sf (pc + 1) nx md hG8
              replace hO := hO.tr hO9
              refine j_aload_n hE (i := 0) dX5_addParameter_114 rfl rfl ?_
              refine j_get hE flX5_12 hc.f0 rfl dX5_addParameter_115 ?_
              refine j_cVv hE mlX5_50 hc.g0 (fun l hl => Ct.at hc.f3 (c_X4_restartLink hl K _ n _ _ _ _ _ _ _ _ _ _ _ _ _)) rfl rfl (Nat.le_of_ble_eq_true rfl) (by decide) (by decide) (by omega) (by omega) dX5_addParameter_118 (fun G9 hs9 hp => ?_) (fun _ _ h => h.elim)
              obtain ⟨hc, hO9⟩ := hc.now (s' := (w, m, false, tk, ow, (va_up P pc (rate, nI 0, -1, nI 0, itr (flF (nI 0)) 3 (P pc).2.2.2.2.1, itr (flF (nI 255)) 3 (P pc).2.2.2.2.2.1, nI 1, false, nI 0, nI 0)), (pc + 1), 0, bits, 0, (nI 0, nI 0, rc.2.2.1, rc.2.2.2.1, rc.2.2.2.2.1, nI 0), md)) (Nat.zero_le _) hp
              replace hO := hO.tr hO9
              refine j_iload hE dX5_addParameter_121 rfl ?_
              refine j_iret hE hQ rfl (by omega) (by omega) dX5_addParameter_123 ?_
              exact ⟨_, rfl, rfl, hc, hO⟩
      · refine j_iload_n hE (i := 1) dX5_addParameter_28 rfl rfl ?_
        refine j_bipush hE (v := -8) dX5_addParameter_29 (by decide) ?_
        refine j_ic_ne hE (tgt := 38) dX5_addParameter_31 (by decide) (fun h31 => ?_) (fun h31 => ?_)
        · refine j_iconst hE (v := nI 0) dX5_addParameter_38 (by decide) ?_
          refine j_ist3 hE dX5_addParameter_39 rfl (by decide) rfl ?_
          refine j_iload_n hE (i := 2) dX5_addParameter_40 rfl rfl ?_
          refine j_if_neN hE (tgt := 48) dX5_addParameter_41 (by decide) (by omega) (fun h41 => ?_) (fun h41 => ?_)
          · exfalso; omega
          · refine j_iload_n hE (i := 3) dX5_addParameter_44 rfl rfl ?_
            refine j_if_eqN hE (tgt := 52) dX5_addParameter_45 (by decide) (by omega) (fun h45 => ?_) (fun h45 => ?_)
            · rcases rOk_neg hr (fun q9 => by first | exact absurd q9.1 (Int32.not_le.mpr h2) | exact absurd q9.2 (Int32.not_le.mpr h7)) with q9 | q9 | q9
              · exact absurd q9 h19
              · exact absurd q9 h25
              · exact absurd q9 h31
            · exfalso; omega
        · refine j_iconst hE (v := nI 1) dX5_addParameter_34 (by decide) ?_
          refine j_goto hE (tgt := 39) dX5_addParameter_35 (by decide) ?_
          refine j_ist3 hE dX5_addParameter_39 rfl (by decide) rfl ?_
          refine j_iload_n hE (i := 2) dX5_addParameter_40 rfl rfl ?_
          refine j_if_neN hE (tgt := 48) dX5_addParameter_41 (by decide) (by omega) (fun h41 => ?_) (fun h41 => ?_)
          · exfalso; omega
          · refine j_iload_n hE (i := 3) dX5_addParameter_44 rfl rfl ?_
            refine j_if_eqN hE (tgt := 52) dX5_addParameter_45 (by decide) (by omega) (fun h45 => ?_) (fun h45 => ?_)
            · exfalso; omega
            · refine j_iconst hE (v := nI 1) dX5_addParameter_48 (by decide) ?_
              refine j_goto hE (tgt := 53) dX5_addParameter_49 (by decide) ?_
              refine j_cSv hE mlX5_34 (fun l hl => c_X5_requireArgument_t hl K _ _) rfl rfl (Nat.le_of_ble_eq_true rfl) (by decide) (by decide) (by omega) (by omega) dX5_addParameter_53 (fun G9 hs9 hp => ?_) (fun _ _ h => h.elim)
              subst hp
              refine j_aload_n hE (i := 0) dX5_addParameter_56 rfl rfl ?_
              refine j_get hE flX5_12 hc.f0 rfl dX5_addParameter_57 ?_
              refine j_get hE flX5_53 hc.g0 rfl dX5_addParameter_60 ?_
              refine j_bipush hE (v := nI 12) dX5_addParameter_63 (by decide) ?_
              refine j_ic_geN hE (tgt := 72) dX5_addParameter_65 (by decide) (by omega) (by omega) (fun h65 => ?_) (fun h65 => ?_)
              · exfalso; omega
              · refine j_iconst hE (v := nI 1) dX5_addParameter_68 (by decide) ?_
                refine j_goto hE (tgt := 73) dX5_addParameter_69 (by decide) ?_
                refine j_cSv hE mlX5_56 (fun l hl => c_X5_requireState_t hl K _ _) rfl rfl (Nat.le_of_ble_eq_true rfl) (by decide) (by decide) (by omega) (by omega) dX5_addParameter_73 (fun G9 hs9 hp => ?_) (fun _ _ h => h.elim)
                subst hp
                refine j_aload_n hE (i := 0) dX5_addParameter_76 rfl rfl ?_
                refine j_cVv hE mlX5_38 hc.f0 (fun l hl => c_X5_save hl K _ _ _ _ _ _ _ _ _ _ _ _ _ _ _ _ _ _ _ _ _ hc hpc) rfl rfl (Nat.le_of_ble_eq_true rfl) (by decide) (by decide) (by omega) (by omega) dX5_addParameter_77 (fun G9 hs9 hp => ?_) (fun _ _ h => h.elim)
                obtain ⟨hc, hO9⟩ := hp
                replace hO := hO.tr hO9
                refine j_aload_n hE (i := 0) dX5_addParameter_80 rfl rfl ?_
                refine j_get hE flX5_12 hc.f0 rfl dX5_addParameter_81 ?_
                refine j_get hE flX5_53 hc.g0 rfl dX5_addParameter_84 ?_
                refine j_ist4 hE dX5_addParameter_87 (by decide) rfl ?_
                refine j_aload_n hE (i := 0) dX5_addParameter_89 rfl rfl ?_
                refine j_get hE flX5_12 hc.f0 rfl dX5_addParameter_90 ?_
                refine j_get hE flX5_59 hc.g0 rfl dX5_addParameter_93 ?_
                refine j_iload hE dX5_addParameter_96 rfl ?_
                refine j_par hE hc.g3 rfl hpc12 dX5_addParameter_98 ?_
                refine j_iload_n hE (i := 1) dX5_addParameter_99 rfl rfl ?_
                refine j_cVv hE mlX5_63 (hc.gp0 hj12) (fun l hl => Ct.at ((st_pa hpc12).trans hc.f3) (c_X2_begin hl K _ _ _ _ _ _ _ _ _ _ _ _ _ _)) rfl rfl (Nat.le_of_ble_eq_true rfl) (by decide) (by decide) (by omega) (by omega) dX5_addParameter_100 (fun G9 hs9 hp => ?_) (fun _ _ h => h.elim)
                obtain ⟨hc, hO9⟩ := hc.now (s' := (w, m, pl, tk, ow, (va_up P pc (rate, nI 0, -1, nI 0, itr (flF (nI 0)) 3 (P pc).2.2.2.2.1, itr (flF (nI 255)) 3 (P pc).2.2.2.2.2.1, nI 1, false, nI 0, nI 0)), pc, nx, bits, nb, rc, md)) hc.f8 (hp.trans (st_pa' hpc12 (rate, nI 0, -1, nI 0, itr (flF (nI 0)) 3 (P pc).2.2.2.2.1, itr (flF (nI 255)) 3 (P pc).2.2.2.2.2.1, nI 1, false, nI 0, nI 0)))
                replace hO := hO.tr hO9
                refine j_aload_n hE (i := 0) dX5_addParameter_103 rfl rfl ?_
                refine j_get hE flX5_12 hc.f0 rfl dX5_addParameter_104 ?_
                refine j_iload hE dX5_addParameter_107 rfl ?_
                refine j_iconst hE (v := nI 1) dX5_addParameter_109 (by decide) ?_
                refine j_iaddN hE dX5_addParameter_110 ?_
                refine j_put hE flX5_53 hc.g0 rfl rfl (by simp only [List.length_cons, List.length_nil]; omega) dX5_addParameter_111 ?_
                refine jgen (fun G8 hG8 => ?_)
                obtain ⟨hc, hO9⟩ := hc.sf (pc + 1) nx md hG8
                replace hO := hO.tr hO9
                refine j_aload_n hE (i := 0) dX5_addParameter_114 rfl rfl ?_
                refine j_get hE flX5_12 hc.f0 rfl dX5_addParameter_115 ?_
                refine j_cVv hE mlX5_50 hc.g0 (fun l hl => Ct.at hc.f3 (c_X4_restartLink hl K _ n _ _ _ _ _ _ _ _ _ _ _ _ _)) rfl rfl (Nat.le_of_ble_eq_true rfl) (by decide) (by decide) (by omega) (by omega) dX5_addParameter_118 (fun G9 hs9 hp => ?_) (fun _ _ h => h.elim)
                obtain ⟨hc, hO9⟩ := hc.now (s' := (w, m, false, tk, ow, (va_up P pc (rate, nI 0, -1, nI 0, itr (flF (nI 0)) 3 (P pc).2.2.2.2.1, itr (flF (nI 255)) 3 (P pc).2.2.2.2.2.1, nI 1, false, nI 0, nI 0)), (pc + 1), 0, bits, 0, (nI 0, nI 0, rc.2.2.1, rc.2.2.2.1, rc.2.2.2.2.1, nI 0), md)) (Nat.zero_le _) hp
                replace hO := hO.tr hO9
                refine j_iload hE dX5_addParameter_121 rfl ?_
                refine j_iret hE hQ rfl (by omega) (by omega) dX5_addParameter_123 ?_
                exact ⟨_, rfl, rfl, hc, hO⟩
  · refine j_iload_n hE (i := 1) dX5_addParameter_5 rfl rfl ?_
    refine j_iconst hE (v := nI 4) dX5_addParameter_6 (by decide) ?_
    refine j_ic_gt hE (tgt := 14) dX5_addParameter_7 (by decide) (fun h7 => ?_) (fun h7 => ?_)
    · refine j_iconst hE (v := nI 0) dX5_addParameter_14 (by decide) ?_
      refine j_ist2 hE dX5_addParameter_15 rfl (by decide) rfl ?_
      refine j_iload_n hE (i := 1) dX5_addParameter_16 rfl rfl ?_
      refine j_bipush hE (v := -2) dX5_addParameter_17 (by decide) ?_
      refine j_ic_eq hE (tgt := 34) dX5_addParameter_19 (by decide) (fun h19 => ?_) (fun h19 => ?_)
      · refine j_iconst hE (v := nI 1) dX5_addParameter_34 (by decide) ?_
        refine j_goto hE (tgt := 39) dX5_addParameter_35 (by decide) ?_
        refine j_ist3 hE dX5_addParameter_39 rfl (by decide) rfl ?_
        refine j_iload_n hE (i := 2) dX5_addParameter_40 rfl rfl ?_
        refine j_if_neN hE (tgt := 48) dX5_addParameter_41 (by decide) (by omega) (fun h41 => ?_) (fun h41 => ?_)
        · exfalso; omega
        · refine j_iload_n hE (i := 3) dX5_addParameter_44 rfl rfl ?_
          refine j_if_eqN hE (tgt := 52) dX5_addParameter_45 (by decide) (by omega) (fun h45 => ?_) (fun h45 => ?_)
          · exfalso; omega
          · refine j_iconst hE (v := nI 1) dX5_addParameter_48 (by decide) ?_
            refine j_goto hE (tgt := 53) dX5_addParameter_49 (by decide) ?_
            refine j_cSv hE mlX5_34 (fun l hl => c_X5_requireArgument_t hl K _ _) rfl rfl (Nat.le_of_ble_eq_true rfl) (by decide) (by decide) (by omega) (by omega) dX5_addParameter_53 (fun G9 hs9 hp => ?_) (fun _ _ h => h.elim)
            subst hp
            refine j_aload_n hE (i := 0) dX5_addParameter_56 rfl rfl ?_
            refine j_get hE flX5_12 hc.f0 rfl dX5_addParameter_57 ?_
            refine j_get hE flX5_53 hc.g0 rfl dX5_addParameter_60 ?_
            refine j_bipush hE (v := nI 12) dX5_addParameter_63 (by decide) ?_
            refine j_ic_geN hE (tgt := 72) dX5_addParameter_65 (by decide) (by omega) (by omega) (fun h65 => ?_) (fun h65 => ?_)
            · exfalso; omega
            · refine j_iconst hE (v := nI 1) dX5_addParameter_68 (by decide) ?_
              refine j_goto hE (tgt := 73) dX5_addParameter_69 (by decide) ?_
              refine j_cSv hE mlX5_56 (fun l hl => c_X5_requireState_t hl K _ _) rfl rfl (Nat.le_of_ble_eq_true rfl) (by decide) (by decide) (by omega) (by omega) dX5_addParameter_73 (fun G9 hs9 hp => ?_) (fun _ _ h => h.elim)
              subst hp
              refine j_aload_n hE (i := 0) dX5_addParameter_76 rfl rfl ?_
              refine j_cVv hE mlX5_38 hc.f0 (fun l hl => c_X5_save hl K _ _ _ _ _ _ _ _ _ _ _ _ _ _ _ _ _ _ _ _ _ hc hpc) rfl rfl (Nat.le_of_ble_eq_true rfl) (by decide) (by decide) (by omega) (by omega) dX5_addParameter_77 (fun G9 hs9 hp => ?_) (fun _ _ h => h.elim)
              obtain ⟨hc, hO9⟩ := hp
              replace hO := hO.tr hO9
              refine j_aload_n hE (i := 0) dX5_addParameter_80 rfl rfl ?_
              refine j_get hE flX5_12 hc.f0 rfl dX5_addParameter_81 ?_
              refine j_get hE flX5_53 hc.g0 rfl dX5_addParameter_84 ?_
              refine j_ist4 hE dX5_addParameter_87 (by decide) rfl ?_
              refine j_aload_n hE (i := 0) dX5_addParameter_89 rfl rfl ?_
              refine j_get hE flX5_12 hc.f0 rfl dX5_addParameter_90 ?_
              refine j_get hE flX5_59 hc.g0 rfl dX5_addParameter_93 ?_
              refine j_iload hE dX5_addParameter_96 rfl ?_
              refine j_par hE hc.g3 rfl hpc12 dX5_addParameter_98 ?_
              refine j_iload_n hE (i := 1) dX5_addParameter_99 rfl rfl ?_
              refine j_cVv hE mlX5_63 (hc.gp0 hj12) (fun l hl => Ct.at ((st_pa hpc12).trans hc.f3) (c_X2_begin hl K _ _ _ _ _ _ _ _ _ _ _ _ _ _)) rfl rfl (Nat.le_of_ble_eq_true rfl) (by decide) (by decide) (by omega) (by omega) dX5_addParameter_100 (fun G9 hs9 hp => ?_) (fun _ _ h => h.elim)
              obtain ⟨hc, hO9⟩ := hc.now (s' := (w, m, pl, tk, ow, (va_up P pc (rate, nI 0, -1, nI 0, itr (flF (nI 0)) 3 (P pc).2.2.2.2.1, itr (flF (nI 255)) 3 (P pc).2.2.2.2.2.1, nI 1, false, nI 0, nI 0)), pc, nx, bits, nb, rc, md)) hc.f8 (hp.trans (st_pa' hpc12 (rate, nI 0, -1, nI 0, itr (flF (nI 0)) 3 (P pc).2.2.2.2.1, itr (flF (nI 255)) 3 (P pc).2.2.2.2.2.1, nI 1, false, nI 0, nI 0)))
              replace hO := hO.tr hO9
              refine j_aload_n hE (i := 0) dX5_addParameter_103 rfl rfl ?_
              refine j_get hE flX5_12 hc.f0 rfl dX5_addParameter_104 ?_
              refine j_iload hE dX5_addParameter_107 rfl ?_
              refine j_iconst hE (v := nI 1) dX5_addParameter_109 (by decide) ?_
              refine j_iaddN hE dX5_addParameter_110 ?_
              refine j_put hE flX5_53 hc.g0 rfl rfl (by simp only [List.length_cons, List.length_nil]; omega) dX5_addParameter_111 ?_
              refine jgen (fun G8 hG8 => ?_)
              obtain ⟨hc, hO9⟩ := hc.sf (pc + 1) nx md hG8
              replace hO := hO.tr hO9
              refine j_aload_n hE (i := 0) dX5_addParameter_114 rfl rfl ?_
              refine j_get hE flX5_12 hc.f0 rfl dX5_addParameter_115 ?_
              refine j_cVv hE mlX5_50 hc.g0 (fun l hl => Ct.at hc.f3 (c_X4_restartLink hl K _ n _ _ _ _ _ _ _ _ _ _ _ _ _)) rfl rfl (Nat.le_of_ble_eq_true rfl) (by decide) (by decide) (by omega) (by omega) dX5_addParameter_118 (fun G9 hs9 hp => ?_) (fun _ _ h => h.elim)
              obtain ⟨hc, hO9⟩ := hc.now (s' := (w, m, false, tk, ow, (va_up P pc (rate, nI 0, -1, nI 0, itr (flF (nI 0)) 3 (P pc).2.2.2.2.1, itr (flF (nI 255)) 3 (P pc).2.2.2.2.2.1, nI 1, false, nI 0, nI 0)), (pc + 1), 0, bits, 0, (nI 0, nI 0, rc.2.2.1, rc.2.2.2.1, rc.2.2.2.2.1, nI 0), md)) (Nat.zero_le _) hp
              replace hO := hO.tr hO9
              refine j_iload hE dX5_addParameter_121 rfl ?_
              refine j_iret hE hQ rfl (by omega) (by omega) dX5_addParameter_123 ?_
              exact ⟨_, rfl, rfl, hc, hO⟩
      · refine j_iload_n hE (i := 1) dX5_addParameter_22 rfl rfl ?_
        refine j_bipush hE (v := -4) dX5_addParameter_23 (by decide) ?_
        refine j_ic_eq hE (tgt := 34) dX5_addParameter_25 (by decide) (fun h25 => ?_) (fun h25 => ?_)
        · refine j_iconst hE (v := nI 1) dX5_addParameter_34 (by decide) ?_
          refine j_goto hE (tgt := 39) dX5_addParameter_35 (by decide) ?_
          refine j_ist3 hE dX5_addParameter_39 rfl (by decide) rfl ?_
          refine j_iload_n hE (i := 2) dX5_addParameter_40 rfl rfl ?_
          refine j_if_neN hE (tgt := 48) dX5_addParameter_41 (by decide) (by omega) (fun h41 => ?_) (fun h41 => ?_)
          · exfalso; omega
          · refine j_iload_n hE (i := 3) dX5_addParameter_44 rfl rfl ?_
            refine j_if_eqN hE (tgt := 52) dX5_addParameter_45 (by decide) (by omega) (fun h45 => ?_) (fun h45 => ?_)
            · exfalso; omega
            · refine j_iconst hE (v := nI 1) dX5_addParameter_48 (by decide) ?_
              refine j_goto hE (tgt := 53) dX5_addParameter_49 (by decide) ?_
              refine j_cSv hE mlX5_34 (fun l hl => c_X5_requireArgument_t hl K _ _) rfl rfl (Nat.le_of_ble_eq_true rfl) (by decide) (by decide) (by omega) (by omega) dX5_addParameter_53 (fun G9 hs9 hp => ?_) (fun _ _ h => h.elim)
              subst hp
              refine j_aload_n hE (i := 0) dX5_addParameter_56 rfl rfl ?_
              refine j_get hE flX5_12 hc.f0 rfl dX5_addParameter_57 ?_
              refine j_get hE flX5_53 hc.g0 rfl dX5_addParameter_60 ?_
              refine j_bipush hE (v := nI 12) dX5_addParameter_63 (by decide) ?_
              refine j_ic_geN hE (tgt := 72) dX5_addParameter_65 (by decide) (by omega) (by omega) (fun h65 => ?_) (fun h65 => ?_)
              · exfalso; omega
              · refine j_iconst hE (v := nI 1) dX5_addParameter_68 (by decide) ?_
                refine j_goto hE (tgt := 73) dX5_addParameter_69 (by decide) ?_
                refine j_cSv hE mlX5_56 (fun l hl => c_X5_requireState_t hl K _ _) rfl rfl (Nat.le_of_ble_eq_true rfl) (by decide) (by decide) (by omega) (by omega) dX5_addParameter_73 (fun G9 hs9 hp => ?_) (fun _ _ h => h.elim)
                subst hp
                refine j_aload_n hE (i := 0) dX5_addParameter_76 rfl rfl ?_
                refine j_cVv hE mlX5_38 hc.f0 (fun l hl => c_X5_save hl K _ _ _ _ _ _ _ _ _ _ _ _ _ _ _ _ _ _ _ _ _ hc hpc) rfl rfl (Nat.le_of_ble_eq_true rfl) (by decide) (by decide) (by omega) (by omega) dX5_addParameter_77 (fun G9 hs9 hp => ?_) (fun _ _ h => h.elim)
                obtain ⟨hc, hO9⟩ := hp
                replace hO := hO.tr hO9
                refine j_aload_n hE (i := 0) dX5_addParameter_80 rfl rfl ?_
                refine j_get hE flX5_12 hc.f0 rfl dX5_addParameter_81 ?_
                refine j_get hE flX5_53 hc.g0 rfl dX5_addParameter_84 ?_
                refine j_ist4 hE dX5_addParameter_87 (by decide) rfl ?_
                refine j_aload_n hE (i := 0) dX5_addParameter_89 rfl rfl ?_
                refine j_get hE flX5_12 hc.f0 rfl dX5_addParameter_90 ?_
                refine j_get hE flX5_59 hc.g0 rfl dX5_addParameter_93 ?_
                refine j_iload hE dX5_addParameter_96 rfl ?_
                refine j_par hE hc.g3 rfl hpc12 dX5_addParameter_98 ?_
                refine j_iload_n hE (i := 1) dX5_addParameter_99 rfl rfl ?_
                refine j_cVv hE mlX5_63 (hc.gp0 hj12) (fun l hl => Ct.at ((st_pa hpc12).trans hc.f3) (c_X2_begin hl K _ _ _ _ _ _ _ _ _ _ _ _ _ _)) rfl rfl (Nat.le_of_ble_eq_true rfl) (by decide) (by decide) (by omega) (by omega) dX5_addParameter_100 (fun G9 hs9 hp => ?_) (fun _ _ h => h.elim)
                obtain ⟨hc, hO9⟩ := hc.now (s' := (w, m, pl, tk, ow, (va_up P pc (rate, nI 0, -1, nI 0, itr (flF (nI 0)) 3 (P pc).2.2.2.2.1, itr (flF (nI 255)) 3 (P pc).2.2.2.2.2.1, nI 1, false, nI 0, nI 0)), pc, nx, bits, nb, rc, md)) hc.f8 (hp.trans (st_pa' hpc12 (rate, nI 0, -1, nI 0, itr (flF (nI 0)) 3 (P pc).2.2.2.2.1, itr (flF (nI 255)) 3 (P pc).2.2.2.2.2.1, nI 1, false, nI 0, nI 0)))
                replace hO := hO.tr hO9
                refine j_aload_n hE (i := 0) dX5_addParameter_103 rfl rfl ?_
                refine j_get hE flX5_12 hc.f0 rfl dX5_addParameter_104 ?_
                refine j_iload hE dX5_addParameter_107 rfl ?_
                refine j_iconst hE (v := nI 1) dX5_addParameter_109 (by decide) ?_
                refine j_iaddN hE dX5_addParameter_110 ?_
                refine j_put hE flX5_53 hc.g0 rfl rfl (by simp only [List.length_cons, List.length_nil]; omega) dX5_addParameter_111 ?_
                refine jgen (fun G8 hG8 => ?_)
                obtain ⟨hc, hO9⟩ := hc.sf (pc + 1) nx md hG8
                replace hO := hO.tr hO9
                refine j_aload_n hE (i := 0) dX5_addParameter_114 rfl rfl ?_
                refine j_get hE flX5_12 hc.f0 rfl dX5_addParameter_115 ?_
                refine j_cVv hE mlX5_50 hc.g0 (fun l hl => Ct.at hc.f3 (c_X4_restartLink hl K _ n _ _ _ _ _ _ _ _ _ _ _ _ _)) rfl rfl (Nat.le_of_ble_eq_true rfl) (by decide) (by decide) (by omega) (by omega) dX5_addParameter_118 (fun G9 hs9 hp => ?_) (fun _ _ h => h.elim)
                obtain ⟨hc, hO9⟩ := hc.now (s' := (w, m, false, tk, ow, (va_up P pc (rate, nI 0, -1, nI 0, itr (flF (nI 0)) 3 (P pc).2.2.2.2.1, itr (flF (nI 255)) 3 (P pc).2.2.2.2.2.1, nI 1, false, nI 0, nI 0)), (pc + 1), 0, bits, 0, (nI 0, nI 0, rc.2.2.1, rc.2.2.2.1, rc.2.2.2.2.1, nI 0), md)) (Nat.zero_le _) hp
                replace hO := hO.tr hO9
                refine j_iload hE dX5_addParameter_121 rfl ?_
                refine j_iret hE hQ rfl (by omega) (by omega) dX5_addParameter_123 ?_
                exact ⟨_, rfl, rfl, hc, hO⟩
        · refine j_iload_n hE (i := 1) dX5_addParameter_28 rfl rfl ?_
          refine j_bipush hE (v := -8) dX5_addParameter_29 (by decide) ?_
          refine j_ic_ne hE (tgt := 38) dX5_addParameter_31 (by decide) (fun h31 => ?_) (fun h31 => ?_)
          · refine j_iconst hE (v := nI 0) dX5_addParameter_38 (by decide) ?_
            refine j_ist3 hE dX5_addParameter_39 rfl (by decide) rfl ?_
            refine j_iload_n hE (i := 2) dX5_addParameter_40 rfl rfl ?_
            refine j_if_neN hE (tgt := 48) dX5_addParameter_41 (by decide) (by omega) (fun h41 => ?_) (fun h41 => ?_)
            · exfalso; omega
            · refine j_iload_n hE (i := 3) dX5_addParameter_44 rfl rfl ?_
              refine j_if_eqN hE (tgt := 52) dX5_addParameter_45 (by decide) (by omega) (fun h45 => ?_) (fun h45 => ?_)
              · rcases rOk_neg hr (fun q9 => by first | exact absurd q9.1 (Int32.not_le.mpr h2) | exact absurd q9.2 (Int32.not_le.mpr h7)) with q9 | q9 | q9
                · exact absurd q9 h19
                · exact absurd q9 h25
                · exact absurd q9 h31
              · exfalso; omega
          · refine j_iconst hE (v := nI 1) dX5_addParameter_34 (by decide) ?_
            refine j_goto hE (tgt := 39) dX5_addParameter_35 (by decide) ?_
            refine j_ist3 hE dX5_addParameter_39 rfl (by decide) rfl ?_
            refine j_iload_n hE (i := 2) dX5_addParameter_40 rfl rfl ?_
            refine j_if_neN hE (tgt := 48) dX5_addParameter_41 (by decide) (by omega) (fun h41 => ?_) (fun h41 => ?_)
            · exfalso; omega
            · refine j_iload_n hE (i := 3) dX5_addParameter_44 rfl rfl ?_
              refine j_if_eqN hE (tgt := 52) dX5_addParameter_45 (by decide) (by omega) (fun h45 => ?_) (fun h45 => ?_)
              · exfalso; omega
              · refine j_iconst hE (v := nI 1) dX5_addParameter_48 (by decide) ?_
                refine j_goto hE (tgt := 53) dX5_addParameter_49 (by decide) ?_
                refine j_cSv hE mlX5_34 (fun l hl => c_X5_requireArgument_t hl K _ _) rfl rfl (Nat.le_of_ble_eq_true rfl) (by decide) (by decide) (by omega) (by omega) dX5_addParameter_53 (fun G9 hs9 hp => ?_) (fun _ _ h => h.elim)
                subst hp
                refine j_aload_n hE (i := 0) dX5_addParameter_56 rfl rfl ?_
                refine j_get hE flX5_12 hc.f0 rfl dX5_addParameter_57 ?_
                refine j_get hE flX5_53 hc.g0 rfl dX5_addParameter_60 ?_
                refine j_bipush hE (v := nI 12) dX5_addParameter_63 (by decide) ?_
                refine j_ic_geN hE (tgt := 72) dX5_addParameter_65 (by decide) (by omega) (by omega) (fun h65 => ?_) (fun h65 => ?_)
                · exfalso; omega
                · refine j_iconst hE (v := nI 1) dX5_addParameter_68 (by decide) ?_
                  refine j_goto hE (tgt := 73) dX5_addParameter_69 (by decide) ?_
                  refine j_cSv hE mlX5_56 (fun l hl => c_X5_requireState_t hl K _ _) rfl rfl (Nat.le_of_ble_eq_true rfl) (by decide) (by decide) (by omega) (by omega) dX5_addParameter_73 (fun G9 hs9 hp => ?_) (fun _ _ h => h.elim)
                  subst hp
                  refine j_aload_n hE (i := 0) dX5_addParameter_76 rfl rfl ?_
                  refine j_cVv hE mlX5_38 hc.f0 (fun l hl => c_X5_save hl K _ _ _ _ _ _ _ _ _ _ _ _ _ _ _ _ _ _ _ _ _ hc hpc) rfl rfl (Nat.le_of_ble_eq_true rfl) (by decide) (by decide) (by omega) (by omega) dX5_addParameter_77 (fun G9 hs9 hp => ?_) (fun _ _ h => h.elim)
                  obtain ⟨hc, hO9⟩ := hp
                  replace hO := hO.tr hO9
                  refine j_aload_n hE (i := 0) dX5_addParameter_80 rfl rfl ?_
                  refine j_get hE flX5_12 hc.f0 rfl dX5_addParameter_81 ?_
                  refine j_get hE flX5_53 hc.g0 rfl dX5_addParameter_84 ?_
                  refine j_ist4 hE dX5_addParameter_87 (by decide) rfl ?_
                  refine j_aload_n hE (i := 0) dX5_addParameter_89 rfl rfl ?_
                  refine j_get hE flX5_12 hc.f0 rfl dX5_addParameter_90 ?_
                  refine j_get hE flX5_59 hc.g0 rfl dX5_addParameter_93 ?_
                  refine j_iload hE dX5_addParameter_96 rfl ?_
                  refine j_par hE hc.g3 rfl hpc12 dX5_addParameter_98 ?_
                  refine j_iload_n hE (i := 1) dX5_addParameter_99 rfl rfl ?_
                  refine j_cVv hE mlX5_63 (hc.gp0 hj12) (fun l hl => Ct.at ((st_pa hpc12).trans hc.f3) (c_X2_begin hl K _ _ _ _ _ _ _ _ _ _ _ _ _ _)) rfl rfl (Nat.le_of_ble_eq_true rfl) (by decide) (by decide) (by omega) (by omega) dX5_addParameter_100 (fun G9 hs9 hp => ?_) (fun _ _ h => h.elim)
                  obtain ⟨hc, hO9⟩ := hc.now (s' := (w, m, pl, tk, ow, (va_up P pc (rate, nI 0, -1, nI 0, itr (flF (nI 0)) 3 (P pc).2.2.2.2.1, itr (flF (nI 255)) 3 (P pc).2.2.2.2.2.1, nI 1, false, nI 0, nI 0)), pc, nx, bits, nb, rc, md)) hc.f8 (hp.trans (st_pa' hpc12 (rate, nI 0, -1, nI 0, itr (flF (nI 0)) 3 (P pc).2.2.2.2.1, itr (flF (nI 255)) 3 (P pc).2.2.2.2.2.1, nI 1, false, nI 0, nI 0)))
                  replace hO := hO.tr hO9
                  refine j_aload_n hE (i := 0) dX5_addParameter_103 rfl rfl ?_
                  refine j_get hE flX5_12 hc.f0 rfl dX5_addParameter_104 ?_
                  refine j_iload hE dX5_addParameter_107 rfl ?_
                  refine j_iconst hE (v := nI 1) dX5_addParameter_109 (by decide) ?_
                  refine j_iaddN hE dX5_addParameter_110 ?_
                  refine j_put hE flX5_53 hc.g0 rfl rfl (by simp only [List.length_cons, List.length_nil]; omega) dX5_addParameter_111 ?_
                  refine jgen (fun G8 hG8 => ?_)
                  obtain ⟨hc, hO9⟩ := hc.sf (pc + 1) nx md hG8
                  replace hO := hO.tr hO9
                  refine j_aload_n hE (i := 0) dX5_addParameter_114 rfl rfl ?_
                  refine j_get hE flX5_12 hc.f0 rfl dX5_addParameter_115 ?_
                  refine j_cVv hE mlX5_50 hc.g0 (fun l hl => Ct.at hc.f3 (c_X4_restartLink hl K _ n _ _ _ _ _ _ _ _ _ _ _ _ _)) rfl rfl (Nat.le_of_ble_eq_true rfl) (by decide) (by decide) (by omega) (by omega) dX5_addParameter_118 (fun G9 hs9 hp => ?_) (fun _ _ h => h.elim)
                  obtain ⟨hc, hO9⟩ := hc.now (s' := (w, m, false, tk, ow, (va_up P pc (rate, nI 0, -1, nI 0, itr (flF (nI 0)) 3 (P pc).2.2.2.2.1, itr (flF (nI 255)) 3 (P pc).2.2.2.2.2.1, nI 1, false, nI 0, nI 0)), (pc + 1), 0, bits, 0, (nI 0, nI 0, rc.2.2.1, rc.2.2.2.1, rc.2.2.2.2.1, nI 0), md)) (Nat.zero_le _) hp
                  replace hO := hO.tr hO9
                  refine j_iload hE dX5_addParameter_121 rfl ?_
                  refine j_iret hE hQ rfl (by omega) (by omega) dX5_addParameter_123 ?_
                  exact ⟨_, rfl, rfl, hc, hO⟩
    · refine j_iconst hE (v := nI 1) dX5_addParameter_10 (by decide) ?_
      refine j_goto hE (tgt := 15) dX5_addParameter_11 (by decide) ?_
      refine j_ist2 hE dX5_addParameter_15 rfl (by decide) rfl ?_
      refine j_iload_n hE (i := 1) dX5_addParameter_16 rfl rfl ?_
      refine j_bipush hE (v := -2) dX5_addParameter_17 (by decide) ?_
      refine j_ic_eq hE (tgt := 34) dX5_addParameter_19 (by decide) (fun h19 => ?_) (fun h19 => ?_)
      · refine j_iconst hE (v := nI 1) dX5_addParameter_34 (by decide) ?_
        refine j_goto hE (tgt := 39) dX5_addParameter_35 (by decide) ?_
        refine j_ist3 hE dX5_addParameter_39 rfl (by decide) rfl ?_
        refine j_iload_n hE (i := 2) dX5_addParameter_40 rfl rfl ?_
        refine j_if_neN hE (tgt := 48) dX5_addParameter_41 (by decide) (by omega) (fun h41 => ?_) (fun h41 => ?_)
        · refine j_iconst hE (v := nI 1) dX5_addParameter_48 (by decide) ?_
          refine j_goto hE (tgt := 53) dX5_addParameter_49 (by decide) ?_
          refine j_cSv hE mlX5_34 (fun l hl => c_X5_requireArgument_t hl K _ _) rfl rfl (Nat.le_of_ble_eq_true rfl) (by decide) (by decide) (by omega) (by omega) dX5_addParameter_53 (fun G9 hs9 hp => ?_) (fun _ _ h => h.elim)
          subst hp
          refine j_aload_n hE (i := 0) dX5_addParameter_56 rfl rfl ?_
          refine j_get hE flX5_12 hc.f0 rfl dX5_addParameter_57 ?_
          refine j_get hE flX5_53 hc.g0 rfl dX5_addParameter_60 ?_
          refine j_bipush hE (v := nI 12) dX5_addParameter_63 (by decide) ?_
          refine j_ic_geN hE (tgt := 72) dX5_addParameter_65 (by decide) (by omega) (by omega) (fun h65 => ?_) (fun h65 => ?_)
          · exfalso; omega
          · refine j_iconst hE (v := nI 1) dX5_addParameter_68 (by decide) ?_
            refine j_goto hE (tgt := 73) dX5_addParameter_69 (by decide) ?_
            refine j_cSv hE mlX5_56 (fun l hl => c_X5_requireState_t hl K _ _) rfl rfl (Nat.le_of_ble_eq_true rfl) (by decide) (by decide) (by omega) (by omega) dX5_addParameter_73 (fun G9 hs9 hp => ?_) (fun _ _ h => h.elim)
            subst hp
            refine j_aload_n hE (i := 0) dX5_addParameter_76 rfl rfl ?_
            refine j_cVv hE mlX5_38 hc.f0 (fun l hl => c_X5_save hl K _ _ _ _ _ _ _ _ _ _ _ _ _ _ _ _ _ _ _ _ _ hc hpc) rfl rfl (Nat.le_of_ble_eq_true rfl) (by decide) (by decide) (by omega) (by omega) dX5_addParameter_77 (fun G9 hs9 hp => ?_) (fun _ _ h => h.elim)
            obtain ⟨hc, hO9⟩ := hp
            replace hO := hO.tr hO9
            refine j_aload_n hE (i := 0) dX5_addParameter_80 rfl rfl ?_
            refine j_get hE flX5_12 hc.f0 rfl dX5_addParameter_81 ?_
            refine j_get hE flX5_53 hc.g0 rfl dX5_addParameter_84 ?_
            refine j_ist4 hE dX5_addParameter_87 (by decide) rfl ?_
            refine j_aload_n hE (i := 0) dX5_addParameter_89 rfl rfl ?_
            refine j_get hE flX5_12 hc.f0 rfl dX5_addParameter_90 ?_
            refine j_get hE flX5_59 hc.g0 rfl dX5_addParameter_93 ?_
            refine j_iload hE dX5_addParameter_96 rfl ?_
            refine j_par hE hc.g3 rfl hpc12 dX5_addParameter_98 ?_
            refine j_iload_n hE (i := 1) dX5_addParameter_99 rfl rfl ?_
            refine j_cVv hE mlX5_63 (hc.gp0 hj12) (fun l hl => Ct.at ((st_pa hpc12).trans hc.f3) (c_X2_begin hl K _ _ _ _ _ _ _ _ _ _ _ _ _ _)) rfl rfl (Nat.le_of_ble_eq_true rfl) (by decide) (by decide) (by omega) (by omega) dX5_addParameter_100 (fun G9 hs9 hp => ?_) (fun _ _ h => h.elim)
            obtain ⟨hc, hO9⟩ := hc.now (s' := (w, m, pl, tk, ow, (va_up P pc (rate, nI 0, -1, nI 0, itr (flF (nI 0)) 3 (P pc).2.2.2.2.1, itr (flF (nI 255)) 3 (P pc).2.2.2.2.2.1, nI 1, false, nI 0, nI 0)), pc, nx, bits, nb, rc, md)) hc.f8 (hp.trans (st_pa' hpc12 (rate, nI 0, -1, nI 0, itr (flF (nI 0)) 3 (P pc).2.2.2.2.1, itr (flF (nI 255)) 3 (P pc).2.2.2.2.2.1, nI 1, false, nI 0, nI 0)))
            replace hO := hO.tr hO9
            refine j_aload_n hE (i := 0) dX5_addParameter_103 rfl rfl ?_
            refine j_get hE flX5_12 hc.f0 rfl dX5_addParameter_104 ?_
            refine j_iload hE dX5_addParameter_107 rfl ?_
            refine j_iconst hE (v := nI 1) dX5_addParameter_109 (by decide) ?_
            refine j_iaddN hE dX5_addParameter_110 ?_
            refine j_put hE flX5_53 hc.g0 rfl rfl (by simp only [List.length_cons, List.length_nil]; omega) dX5_addParameter_111 ?_
            refine jgen (fun G8 hG8 => ?_)
            obtain ⟨hc, hO9⟩ := hc.sf (pc + 1) nx md hG8
            replace hO := hO.tr hO9
            refine j_aload_n hE (i := 0) dX5_addParameter_114 rfl rfl ?_
            refine j_get hE flX5_12 hc.f0 rfl dX5_addParameter_115 ?_
            refine j_cVv hE mlX5_50 hc.g0 (fun l hl => Ct.at hc.f3 (c_X4_restartLink hl K _ n _ _ _ _ _ _ _ _ _ _ _ _ _)) rfl rfl (Nat.le_of_ble_eq_true rfl) (by decide) (by decide) (by omega) (by omega) dX5_addParameter_118 (fun G9 hs9 hp => ?_) (fun _ _ h => h.elim)
            obtain ⟨hc, hO9⟩ := hc.now (s' := (w, m, false, tk, ow, (va_up P pc (rate, nI 0, -1, nI 0, itr (flF (nI 0)) 3 (P pc).2.2.2.2.1, itr (flF (nI 255)) 3 (P pc).2.2.2.2.2.1, nI 1, false, nI 0, nI 0)), (pc + 1), 0, bits, 0, (nI 0, nI 0, rc.2.2.1, rc.2.2.2.1, rc.2.2.2.2.1, nI 0), md)) (Nat.zero_le _) hp
            replace hO := hO.tr hO9
            refine j_iload hE dX5_addParameter_121 rfl ?_
            refine j_iret hE hQ rfl (by omega) (by omega) dX5_addParameter_123 ?_
            exact ⟨_, rfl, rfl, hc, hO⟩
        · exfalso; omega
      · refine j_iload_n hE (i := 1) dX5_addParameter_22 rfl rfl ?_
        refine j_bipush hE (v := -4) dX5_addParameter_23 (by decide) ?_
        refine j_ic_eq hE (tgt := 34) dX5_addParameter_25 (by decide) (fun h25 => ?_) (fun h25 => ?_)
        · refine j_iconst hE (v := nI 1) dX5_addParameter_34 (by decide) ?_
          refine j_goto hE (tgt := 39) dX5_addParameter_35 (by decide) ?_
          refine j_ist3 hE dX5_addParameter_39 rfl (by decide) rfl ?_
          refine j_iload_n hE (i := 2) dX5_addParameter_40 rfl rfl ?_
          refine j_if_neN hE (tgt := 48) dX5_addParameter_41 (by decide) (by omega) (fun h41 => ?_) (fun h41 => ?_)
          · refine j_iconst hE (v := nI 1) dX5_addParameter_48 (by decide) ?_
            refine j_goto hE (tgt := 53) dX5_addParameter_49 (by decide) ?_
            refine j_cSv hE mlX5_34 (fun l hl => c_X5_requireArgument_t hl K _ _) rfl rfl (Nat.le_of_ble_eq_true rfl) (by decide) (by decide) (by omega) (by omega) dX5_addParameter_53 (fun G9 hs9 hp => ?_) (fun _ _ h => h.elim)
            subst hp
            refine j_aload_n hE (i := 0) dX5_addParameter_56 rfl rfl ?_
            refine j_get hE flX5_12 hc.f0 rfl dX5_addParameter_57 ?_
            refine j_get hE flX5_53 hc.g0 rfl dX5_addParameter_60 ?_
            refine j_bipush hE (v := nI 12) dX5_addParameter_63 (by decide) ?_
            refine j_ic_geN hE (tgt := 72) dX5_addParameter_65 (by decide) (by omega) (by omega) (fun h65 => ?_) (fun h65 => ?_)
            · exfalso; omega
            · refine j_iconst hE (v := nI 1) dX5_addParameter_68 (by decide) ?_
              refine j_goto hE (tgt := 73) dX5_addParameter_69 (by decide) ?_
              refine j_cSv hE mlX5_56 (fun l hl => c_X5_requireState_t hl K _ _) rfl rfl (Nat.le_of_ble_eq_true rfl) (by decide) (by decide) (by omega) (by omega) dX5_addParameter_73 (fun G9 hs9 hp => ?_) (fun _ _ h => h.elim)
              subst hp
              refine j_aload_n hE (i := 0) dX5_addParameter_76 rfl rfl ?_
              refine j_cVv hE mlX5_38 hc.f0 (fun l hl => c_X5_save hl K _ _ _ _ _ _ _ _ _ _ _ _ _ _ _ _ _ _ _ _ _ hc hpc) rfl rfl (Nat.le_of_ble_eq_true rfl) (by decide) (by decide) (by omega) (by omega) dX5_addParameter_77 (fun G9 hs9 hp => ?_) (fun _ _ h => h.elim)
              obtain ⟨hc, hO9⟩ := hp
              replace hO := hO.tr hO9
              refine j_aload_n hE (i := 0) dX5_addParameter_80 rfl rfl ?_
              refine j_get hE flX5_12 hc.f0 rfl dX5_addParameter_81 ?_
              refine j_get hE flX5_53 hc.g0 rfl dX5_addParameter_84 ?_
              refine j_ist4 hE dX5_addParameter_87 (by decide) rfl ?_
              refine j_aload_n hE (i := 0) dX5_addParameter_89 rfl rfl ?_
              refine j_get hE flX5_12 hc.f0 rfl dX5_addParameter_90 ?_
              refine j_get hE flX5_59 hc.g0 rfl dX5_addParameter_93 ?_
              refine j_iload hE dX5_addParameter_96 rfl ?_
              refine j_par hE hc.g3 rfl hpc12 dX5_addParameter_98 ?_
              refine j_iload_n hE (i := 1) dX5_addParameter_99 rfl rfl ?_
              refine j_cVv hE mlX5_63 (hc.gp0 hj12) (fun l hl => Ct.at ((st_pa hpc12).trans hc.f3) (c_X2_begin hl K _ _ _ _ _ _ _ _ _ _ _ _ _ _)) rfl rfl (Nat.le_of_ble_eq_true rfl) (by decide) (by decide) (by omega) (by omega) dX5_addParameter_100 (fun G9 hs9 hp => ?_) (fun _ _ h => h.elim)
              obtain ⟨hc, hO9⟩ := hc.now (s' := (w, m, pl, tk, ow, (va_up P pc (rate, nI 0, -1, nI 0, itr (flF (nI 0)) 3 (P pc).2.2.2.2.1, itr (flF (nI 255)) 3 (P pc).2.2.2.2.2.1, nI 1, false, nI 0, nI 0)), pc, nx, bits, nb, rc, md)) hc.f8 (hp.trans (st_pa' hpc12 (rate, nI 0, -1, nI 0, itr (flF (nI 0)) 3 (P pc).2.2.2.2.1, itr (flF (nI 255)) 3 (P pc).2.2.2.2.2.1, nI 1, false, nI 0, nI 0)))
              replace hO := hO.tr hO9
              refine j_aload_n hE (i := 0) dX5_addParameter_103 rfl rfl ?_
              refine j_get hE flX5_12 hc.f0 rfl dX5_addParameter_104 ?_
              refine j_iload hE dX5_addParameter_107 rfl ?_
              refine j_iconst hE (v := nI 1) dX5_addParameter_109 (by decide) ?_
              refine j_iaddN hE dX5_addParameter_110 ?_
              refine j_put hE flX5_53 hc.g0 rfl rfl (by simp only [List.length_cons, List.length_nil]; omega) dX5_addParameter_111 ?_
              refine jgen (fun G8 hG8 => ?_)
              obtain ⟨hc, hO9⟩ := hc.sf (pc + 1) nx md hG8
              replace hO := hO.tr hO9
              refine j_aload_n hE (i := 0) dX5_addParameter_114 rfl rfl ?_
              refine j_get hE flX5_12 hc.f0 rfl dX5_addParameter_115 ?_
              refine j_cVv hE mlX5_50 hc.g0 (fun l hl => Ct.at hc.f3 (c_X4_restartLink hl K _ n _ _ _ _ _ _ _ _ _ _ _ _ _)) rfl rfl (Nat.le_of_ble_eq_true rfl) (by decide) (by decide) (by omega) (by omega) dX5_addParameter_118 (fun G9 hs9 hp => ?_) (fun _ _ h => h.elim)
              obtain ⟨hc, hO9⟩ := hc.now (s' := (w, m, false, tk, ow, (va_up P pc (rate, nI 0, -1, nI 0, itr (flF (nI 0)) 3 (P pc).2.2.2.2.1, itr (flF (nI 255)) 3 (P pc).2.2.2.2.2.1, nI 1, false, nI 0, nI 0)), (pc + 1), 0, bits, 0, (nI 0, nI 0, rc.2.2.1, rc.2.2.2.1, rc.2.2.2.2.1, nI 0), md)) (Nat.zero_le _) hp
              replace hO := hO.tr hO9
              refine j_iload hE dX5_addParameter_121 rfl ?_
              refine j_iret hE hQ rfl (by omega) (by omega) dX5_addParameter_123 ?_
              exact ⟨_, rfl, rfl, hc, hO⟩
          · exfalso; omega
        · refine j_iload_n hE (i := 1) dX5_addParameter_28 rfl rfl ?_
          refine j_bipush hE (v := -8) dX5_addParameter_29 (by decide) ?_
          refine j_ic_ne hE (tgt := 38) dX5_addParameter_31 (by decide) (fun h31 => ?_) (fun h31 => ?_)
          · refine j_iconst hE (v := nI 0) dX5_addParameter_38 (by decide) ?_
            refine j_ist3 hE dX5_addParameter_39 rfl (by decide) rfl ?_
            refine j_iload_n hE (i := 2) dX5_addParameter_40 rfl rfl ?_
            refine j_if_neN hE (tgt := 48) dX5_addParameter_41 (by decide) (by omega) (fun h41 => ?_) (fun h41 => ?_)
            · refine j_iconst hE (v := nI 1) dX5_addParameter_48 (by decide) ?_
              refine j_goto hE (tgt := 53) dX5_addParameter_49 (by decide) ?_
              refine j_cSv hE mlX5_34 (fun l hl => c_X5_requireArgument_t hl K _ _) rfl rfl (Nat.le_of_ble_eq_true rfl) (by decide) (by decide) (by omega) (by omega) dX5_addParameter_53 (fun G9 hs9 hp => ?_) (fun _ _ h => h.elim)
              subst hp
              refine j_aload_n hE (i := 0) dX5_addParameter_56 rfl rfl ?_
              refine j_get hE flX5_12 hc.f0 rfl dX5_addParameter_57 ?_
              refine j_get hE flX5_53 hc.g0 rfl dX5_addParameter_60 ?_
              refine j_bipush hE (v := nI 12) dX5_addParameter_63 (by decide) ?_
              refine j_ic_geN hE (tgt := 72) dX5_addParameter_65 (by decide) (by omega) (by omega) (fun h65 => ?_) (fun h65 => ?_)
              · exfalso; omega
              · refine j_iconst hE (v := nI 1) dX5_addParameter_68 (by decide) ?_
                refine j_goto hE (tgt := 73) dX5_addParameter_69 (by decide) ?_
                refine j_cSv hE mlX5_56 (fun l hl => c_X5_requireState_t hl K _ _) rfl rfl (Nat.le_of_ble_eq_true rfl) (by decide) (by decide) (by omega) (by omega) dX5_addParameter_73 (fun G9 hs9 hp => ?_) (fun _ _ h => h.elim)
                subst hp
                refine j_aload_n hE (i := 0) dX5_addParameter_76 rfl rfl ?_
                refine j_cVv hE mlX5_38 hc.f0 (fun l hl => c_X5_save hl K _ _ _ _ _ _ _ _ _ _ _ _ _ _ _ _ _ _ _ _ _ hc hpc) rfl rfl (Nat.le_of_ble_eq_true rfl) (by decide) (by decide) (by omega) (by omega) dX5_addParameter_77 (fun G9 hs9 hp => ?_) (fun _ _ h => h.elim)
                obtain ⟨hc, hO9⟩ := hp
                replace hO := hO.tr hO9
                refine j_aload_n hE (i := 0) dX5_addParameter_80 rfl rfl ?_
                refine j_get hE flX5_12 hc.f0 rfl dX5_addParameter_81 ?_
                refine j_get hE flX5_53 hc.g0 rfl dX5_addParameter_84 ?_
                refine j_ist4 hE dX5_addParameter_87 (by decide) rfl ?_
                refine j_aload_n hE (i := 0) dX5_addParameter_89 rfl rfl ?_
                refine j_get hE flX5_12 hc.f0 rfl dX5_addParameter_90 ?_
                refine j_get hE flX5_59 hc.g0 rfl dX5_addParameter_93 ?_
                refine j_iload hE dX5_addParameter_96 rfl ?_
                refine j_par hE hc.g3 rfl hpc12 dX5_addParameter_98 ?_
                refine j_iload_n hE (i := 1) dX5_addParameter_99 rfl rfl ?_
                refine j_cVv hE mlX5_63 (hc.gp0 hj12) (fun l hl => Ct.at ((st_pa hpc12).trans hc.f3) (c_X2_begin hl K _ _ _ _ _ _ _ _ _ _ _ _ _ _)) rfl rfl (Nat.le_of_ble_eq_true rfl) (by decide) (by decide) (by omega) (by omega) dX5_addParameter_100 (fun G9 hs9 hp => ?_) (fun _ _ h => h.elim)
                obtain ⟨hc, hO9⟩ := hc.now (s' := (w, m, pl, tk, ow, (va_up P pc (rate, nI 0, -1, nI 0, itr (flF (nI 0)) 3 (P pc).2.2.2.2.1, itr (flF (nI 255)) 3 (P pc).2.2.2.2.2.1, nI 1, false, nI 0, nI 0)), pc, nx, bits, nb, rc, md)) hc.f8 (hp.trans (st_pa' hpc12 (rate, nI 0, -1, nI 0, itr (flF (nI 0)) 3 (P pc).2.2.2.2.1, itr (flF (nI 255)) 3 (P pc).2.2.2.2.2.1, nI 1, false, nI 0, nI 0)))
                replace hO := hO.tr hO9
                refine j_aload_n hE (i := 0) dX5_addParameter_103 rfl rfl ?_
                refine j_get hE flX5_12 hc.f0 rfl dX5_addParameter_104 ?_
                refine j_iload hE dX5_addParameter_107 rfl ?_
                refine j_iconst hE (v := nI 1) dX5_addParameter_109 (by decide) ?_
                refine j_iaddN hE dX5_addParameter_110 ?_
                refine j_put hE flX5_53 hc.g0 rfl rfl (by simp only [List.length_cons, List.length_nil]; omega) dX5_addParameter_111 ?_
                refine jgen (fun G8 hG8 => ?_)
                obtain ⟨hc, hO9⟩ := hc.sf (pc + 1) nx md hG8
                replace hO := hO.tr hO9
                refine j_aload_n hE (i := 0) dX5_addParameter_114 rfl rfl ?_
                refine j_get hE flX5_12 hc.f0 rfl dX5_addParameter_115 ?_
                refine j_cVv hE mlX5_50 hc.g0 (fun l hl => Ct.at hc.f3 (c_X4_restartLink hl K _ n _ _ _ _ _ _ _ _ _ _ _ _ _)) rfl rfl (Nat.le_of_ble_eq_true rfl) (by decide) (by decide) (by omega) (by omega) dX5_addParameter_118 (fun G9 hs9 hp => ?_) (fun _ _ h => h.elim)
                obtain ⟨hc, hO9⟩ := hc.now (s' := (w, m, false, tk, ow, (va_up P pc (rate, nI 0, -1, nI 0, itr (flF (nI 0)) 3 (P pc).2.2.2.2.1, itr (flF (nI 255)) 3 (P pc).2.2.2.2.2.1, nI 1, false, nI 0, nI 0)), (pc + 1), 0, bits, 0, (nI 0, nI 0, rc.2.2.1, rc.2.2.2.1, rc.2.2.2.2.1, nI 0), md)) (Nat.zero_le _) hp
                replace hO := hO.tr hO9
                refine j_iload hE dX5_addParameter_121 rfl ?_
                refine j_iret hE hQ rfl (by omega) (by omega) dX5_addParameter_123 ?_
                exact ⟨_, rfl, rfl, hc, hO⟩
            · exfalso; omega
          · refine j_iconst hE (v := nI 1) dX5_addParameter_34 (by decide) ?_
            refine j_goto hE (tgt := 39) dX5_addParameter_35 (by decide) ?_
            refine j_ist3 hE dX5_addParameter_39 rfl (by decide) rfl ?_
            refine j_iload_n hE (i := 2) dX5_addParameter_40 rfl rfl ?_
            refine j_if_neN hE (tgt := 48) dX5_addParameter_41 (by decide) (by omega) (fun h41 => ?_) (fun h41 => ?_)
            · refine j_iconst hE (v := nI 1) dX5_addParameter_48 (by decide) ?_
              refine j_goto hE (tgt := 53) dX5_addParameter_49 (by decide) ?_
              refine j_cSv hE mlX5_34 (fun l hl => c_X5_requireArgument_t hl K _ _) rfl rfl (Nat.le_of_ble_eq_true rfl) (by decide) (by decide) (by omega) (by omega) dX5_addParameter_53 (fun G9 hs9 hp => ?_) (fun _ _ h => h.elim)
              subst hp
              refine j_aload_n hE (i := 0) dX5_addParameter_56 rfl rfl ?_
              refine j_get hE flX5_12 hc.f0 rfl dX5_addParameter_57 ?_
              refine j_get hE flX5_53 hc.g0 rfl dX5_addParameter_60 ?_
              refine j_bipush hE (v := nI 12) dX5_addParameter_63 (by decide) ?_
              refine j_ic_geN hE (tgt := 72) dX5_addParameter_65 (by decide) (by omega) (by omega) (fun h65 => ?_) (fun h65 => ?_)
              · exfalso; omega
              · refine j_iconst hE (v := nI 1) dX5_addParameter_68 (by decide) ?_
                refine j_goto hE (tgt := 73) dX5_addParameter_69 (by decide) ?_
                refine j_cSv hE mlX5_56 (fun l hl => c_X5_requireState_t hl K _ _) rfl rfl (Nat.le_of_ble_eq_true rfl) (by decide) (by decide) (by omega) (by omega) dX5_addParameter_73 (fun G9 hs9 hp => ?_) (fun _ _ h => h.elim)
                subst hp
                refine j_aload_n hE (i := 0) dX5_addParameter_76 rfl rfl ?_
                refine j_cVv hE mlX5_38 hc.f0 (fun l hl => c_X5_save hl K _ _ _ _ _ _ _ _ _ _ _ _ _ _ _ _ _ _ _ _ _ hc hpc) rfl rfl (Nat.le_of_ble_eq_true rfl) (by decide) (by decide) (by omega) (by omega) dX5_addParameter_77 (fun G9 hs9 hp => ?_) (fun _ _ h => h.elim)
                obtain ⟨hc, hO9⟩ := hp
                replace hO := hO.tr hO9
                refine j_aload_n hE (i := 0) dX5_addParameter_80 rfl rfl ?_
                refine j_get hE flX5_12 hc.f0 rfl dX5_addParameter_81 ?_
                refine j_get hE flX5_53 hc.g0 rfl dX5_addParameter_84 ?_
                refine j_ist4 hE dX5_addParameter_87 (by decide) rfl ?_
                refine j_aload_n hE (i := 0) dX5_addParameter_89 rfl rfl ?_
                refine j_get hE flX5_12 hc.f0 rfl dX5_addParameter_90 ?_
                refine j_get hE flX5_59 hc.g0 rfl dX5_addParameter_93 ?_
                refine j_iload hE dX5_addParameter_96 rfl ?_
                refine j_par hE hc.g3 rfl hpc12 dX5_addParameter_98 ?_
                refine j_iload_n hE (i := 1) dX5_addParameter_99 rfl rfl ?_
                refine j_cVv hE mlX5_63 (hc.gp0 hj12) (fun l hl => Ct.at ((st_pa hpc12).trans hc.f3) (c_X2_begin hl K _ _ _ _ _ _ _ _ _ _ _ _ _ _)) rfl rfl (Nat.le_of_ble_eq_true rfl) (by decide) (by decide) (by omega) (by omega) dX5_addParameter_100 (fun G9 hs9 hp => ?_) (fun _ _ h => h.elim)
                obtain ⟨hc, hO9⟩ := hc.now (s' := (w, m, pl, tk, ow, (va_up P pc (rate, nI 0, -1, nI 0, itr (flF (nI 0)) 3 (P pc).2.2.2.2.1, itr (flF (nI 255)) 3 (P pc).2.2.2.2.2.1, nI 1, false, nI 0, nI 0)), pc, nx, bits, nb, rc, md)) hc.f8 (hp.trans (st_pa' hpc12 (rate, nI 0, -1, nI 0, itr (flF (nI 0)) 3 (P pc).2.2.2.2.1, itr (flF (nI 255)) 3 (P pc).2.2.2.2.2.1, nI 1, false, nI 0, nI 0)))
                replace hO := hO.tr hO9
                refine j_aload_n hE (i := 0) dX5_addParameter_103 rfl rfl ?_
                refine j_get hE flX5_12 hc.f0 rfl dX5_addParameter_104 ?_
                refine j_iload hE dX5_addParameter_107 rfl ?_
                refine j_iconst hE (v := nI 1) dX5_addParameter_109 (by decide) ?_
                refine j_iaddN hE dX5_addParameter_110 ?_
                refine j_put hE flX5_53 hc.g0 rfl rfl (by simp only [List.length_cons, List.length_nil]; omega) dX5_addParameter_111 ?_
                refine jgen (fun G8 hG8 => ?_)
                obtain ⟨hc, hO9⟩ := hc.sf (pc + 1) nx md hG8
                replace hO := hO.tr hO9
                refine j_aload_n hE (i := 0) dX5_addParameter_114 rfl rfl ?_
                refine j_get hE flX5_12 hc.f0 rfl dX5_addParameter_115 ?_
                refine j_cVv hE mlX5_50 hc.g0 (fun l hl => Ct.at hc.f3 (c_X4_restartLink hl K _ n _ _ _ _ _ _ _ _ _ _ _ _ _)) rfl rfl (Nat.le_of_ble_eq_true rfl) (by decide) (by decide) (by omega) (by omega) dX5_addParameter_118 (fun G9 hs9 hp => ?_) (fun _ _ h => h.elim)
                obtain ⟨hc, hO9⟩ := hc.now (s' := (w, m, false, tk, ow, (va_up P pc (rate, nI 0, -1, nI 0, itr (flF (nI 0)) 3 (P pc).2.2.2.2.1, itr (flF (nI 255)) 3 (P pc).2.2.2.2.2.1, nI 1, false, nI 0, nI 0)), (pc + 1), 0, bits, 0, (nI 0, nI 0, rc.2.2.1, rc.2.2.2.1, rc.2.2.2.2.1, nI 0), md)) (Nat.zero_le _) hp
                replace hO := hO.tr hO9
                refine j_iload hE dX5_addParameter_121 rfl ?_
                refine j_iret hE hQ rfl (by omega) (by omega) dX5_addParameter_123 ?_
                exact ⟨_, rfl, rfl, hc, hO⟩
            · exfalso; omega

set_option maxRecDepth 100000 in
set_option maxHeartbeats 4000000 in
theorem c_X5_addParameter_f2 {l : Launch} (hl : l.stackTraces = false) (K : jK) (G : GH) (x hs n : Nat) (q : Nat → Nat) (cnt nw w m : Nat) (pl : Bool) (tk : Nat) (ow : Nat → Int32) (P : Nat → PaV) (pc nx : Nat) (bits : Nat → Int32) (nb : Nat) (rc : RcV) (md : Nat) (S : Nat → StV) (d : LyV) (hc : fcOk K G x n q cnt nw (w, m, pl, tk, ow, P, pc, nx, bits, nb, rc, md) S d) (hpc : pc ≤ 12) (rate : Int32) (hr : rOk rate) (hlt : pc = 12) : Ct l K yX5_addParameter cX5_addParameter 5 (some .int) 7 102 2 12 [.ref x, .int rate] G hs (pI (fun _ _ _ => False)) (fun X G' => X = jIS ∧ G' = G) := by
  refine Ct.ofA hl (by decide) (Nat.le_of_ble_eq_true rfl) (L0 := [some (.ref x), some (.int rate), none, none, none]) (jL_of 3 rfl) ?_
  intro A E hE hQ hX hNm
  have hO : fO x G G := fO.rf
  have hnb : nb ≤ 2048 := hc.f8
  refine j_iload_n hE (i := 1) dX5_addParameter_0 rfl rfl ?_
  refine j_iconst hE (v := nI 1) dX5_addParameter_1 (by decide) ?_
  refine j_ic_lt hE (tgt := 14) dX5_addParameter_2 (by decide) (fun h2 => ?_) (fun h2 => ?_)
  · refine j_iconst hE (v := nI 0) dX5_addParameter_14 (by decide) ?_
    refine j_ist2 hE dX5_addParameter_15 rfl (by decide) rfl ?_
    refine j_iload_n hE (i := 1) dX5_addParameter_16 rfl rfl ?_
    refine j_bipush hE (v := -2) dX5_addParameter_17 (by decide) ?_
    refine j_ic_eq hE (tgt := 34) dX5_addParameter_19 (by decide) (fun h19 => ?_) (fun h19 => ?_)
    · refine j_iconst hE (v := nI 1) dX5_addParameter_34 (by decide) ?_
      refine j_goto hE (tgt := 39) dX5_addParameter_35 (by decide) ?_
      refine j_ist3 hE dX5_addParameter_39 rfl (by decide) rfl ?_
      refine j_iload_n hE (i := 2) dX5_addParameter_40 rfl rfl ?_
      refine j_if_neN hE (tgt := 48) dX5_addParameter_41 (by decide) (by omega) (fun h41 => ?_) (fun h41 => ?_)
      · exfalso; omega
      · refine j_iload_n hE (i := 3) dX5_addParameter_44 rfl rfl ?_
        refine j_if_eqN hE (tgt := 52) dX5_addParameter_45 (by decide) (by omega) (fun h45 => ?_) (fun h45 => ?_)
        · exfalso; omega
        · refine j_iconst hE (v := nI 1) dX5_addParameter_48 (by decide) ?_
          refine j_goto hE (tgt := 53) dX5_addParameter_49 (by decide) ?_
          refine j_cSv hE mlX5_34 (fun l hl => c_X5_requireArgument_t hl K _ _) rfl rfl (Nat.le_of_ble_eq_true rfl) (by decide) (by decide) (by omega) (by omega) dX5_addParameter_53 (fun G9 hs9 hp => ?_) (fun _ _ h => h.elim)
          subst hp
          refine j_aload_n hE (i := 0) dX5_addParameter_56 rfl rfl ?_
          refine j_get hE flX5_12 hc.f0 rfl dX5_addParameter_57 ?_
          refine j_get hE flX5_53 hc.g0 rfl dX5_addParameter_60 ?_
          refine j_bipush hE (v := nI 12) dX5_addParameter_63 (by decide) ?_
          refine j_ic_geN hE (tgt := 72) dX5_addParameter_65 (by decide) (by omega) (by omega) (fun h65 => ?_) (fun h65 => ?_)
          · refine j_iconst hE (v := nI 0) dX5_addParameter_72 (by decide) ?_
            refine j_cSv hE mlX5_56 (fun l hl => c_X5_requireState_f hl K _ _) rfl rfl (Nat.le_of_ble_eq_true rfl) (by decide) (by decide) (by omega) (by omega) dX5_addParameter_73 (fun G9 hs9 hp => ?_) (fun X G9 h => by obtain ⟨rfl, rfl⟩ := h; exact j_out hE hX hQ (by omega) (by omega) ⟨rfl, rfl⟩)
            exact hp.elim
          · exfalso; omega
    · refine j_iload_n hE (i := 1) dX5_addParameter_22 rfl rfl ?_
      refine j_bipush hE (v := -4) dX5_addParameter_23 (by decide) ?_
      refine j_ic_eq hE (tgt := 34) dX5_addParameter_25 (by decide) (fun h25 => ?_) (fun h25 => ?_)
      · refine j_iconst hE (v := nI 1) dX5_addParameter_34 (by decide) ?_
        refine j_goto hE (tgt := 39) dX5_addParameter_35 (by decide) ?_
        refine j_ist3 hE dX5_addParameter_39 rfl (by decide) rfl ?_
        refine j_iload_n hE (i := 2) dX5_addParameter_40 rfl rfl ?_
        refine j_if_neN hE (tgt := 48) dX5_addParameter_41 (by decide) (by omega) (fun h41 => ?_) (fun h41 => ?_)
        · exfalso; omega
        · refine j_iload_n hE (i := 3) dX5_addParameter_44 rfl rfl ?_
          refine j_if_eqN hE (tgt := 52) dX5_addParameter_45 (by decide) (by omega) (fun h45 => ?_) (fun h45 => ?_)
          · exfalso; omega
          · refine j_iconst hE (v := nI 1) dX5_addParameter_48 (by decide) ?_
            refine j_goto hE (tgt := 53) dX5_addParameter_49 (by decide) ?_
            refine j_cSv hE mlX5_34 (fun l hl => c_X5_requireArgument_t hl K _ _) rfl rfl (Nat.le_of_ble_eq_true rfl) (by decide) (by decide) (by omega) (by omega) dX5_addParameter_53 (fun G9 hs9 hp => ?_) (fun _ _ h => h.elim)
            subst hp
            refine j_aload_n hE (i := 0) dX5_addParameter_56 rfl rfl ?_
            refine j_get hE flX5_12 hc.f0 rfl dX5_addParameter_57 ?_
            refine j_get hE flX5_53 hc.g0 rfl dX5_addParameter_60 ?_
            refine j_bipush hE (v := nI 12) dX5_addParameter_63 (by decide) ?_
            refine j_ic_geN hE (tgt := 72) dX5_addParameter_65 (by decide) (by omega) (by omega) (fun h65 => ?_) (fun h65 => ?_)
            · refine j_iconst hE (v := nI 0) dX5_addParameter_72 (by decide) ?_
              refine j_cSv hE mlX5_56 (fun l hl => c_X5_requireState_f hl K _ _) rfl rfl (Nat.le_of_ble_eq_true rfl) (by decide) (by decide) (by omega) (by omega) dX5_addParameter_73 (fun G9 hs9 hp => ?_) (fun X G9 h => by obtain ⟨rfl, rfl⟩ := h; exact j_out hE hX hQ (by omega) (by omega) ⟨rfl, rfl⟩)
              exact hp.elim
            · exfalso; omega
      · refine j_iload_n hE (i := 1) dX5_addParameter_28 rfl rfl ?_
        refine j_bipush hE (v := -8) dX5_addParameter_29 (by decide) ?_
        refine j_ic_ne hE (tgt := 38) dX5_addParameter_31 (by decide) (fun h31 => ?_) (fun h31 => ?_)
        · refine j_iconst hE (v := nI 0) dX5_addParameter_38 (by decide) ?_
          refine j_ist3 hE dX5_addParameter_39 rfl (by decide) rfl ?_
          refine j_iload_n hE (i := 2) dX5_addParameter_40 rfl rfl ?_
          refine j_if_neN hE (tgt := 48) dX5_addParameter_41 (by decide) (by omega) (fun h41 => ?_) (fun h41 => ?_)
          · exfalso; omega
          · refine j_iload_n hE (i := 3) dX5_addParameter_44 rfl rfl ?_
            refine j_if_eqN hE (tgt := 52) dX5_addParameter_45 (by decide) (by omega) (fun h45 => ?_) (fun h45 => ?_)
            · rcases rOk_neg hr (fun q9 => by first | exact absurd q9.1 (Int32.not_le.mpr h2) | exact absurd q9.2 (Int32.not_le.mpr h7)) with q9 | q9 | q9
              · exact absurd q9 h19
              · exact absurd q9 h25
              · exact absurd q9 h31
            · exfalso; omega
        · refine j_iconst hE (v := nI 1) dX5_addParameter_34 (by decide) ?_
          refine j_goto hE (tgt := 39) dX5_addParameter_35 (by decide) ?_
          refine j_ist3 hE dX5_addParameter_39 rfl (by decide) rfl ?_
          refine j_iload_n hE (i := 2) dX5_addParameter_40 rfl rfl ?_
          refine j_if_neN hE (tgt := 48) dX5_addParameter_41 (by decide) (by omega) (fun h41 => ?_) (fun h41 => ?_)
          · exfalso; omega
          · refine j_iload_n hE (i := 3) dX5_addParameter_44 rfl rfl ?_
            refine j_if_eqN hE (tgt := 52) dX5_addParameter_45 (by decide) (by omega) (fun h45 => ?_) (fun h45 => ?_)
            · exfalso; omega
            · refine j_iconst hE (v := nI 1) dX5_addParameter_48 (by decide) ?_
              refine j_goto hE (tgt := 53) dX5_addParameter_49 (by decide) ?_
              refine j_cSv hE mlX5_34 (fun l hl => c_X5_requireArgument_t hl K _ _) rfl rfl (Nat.le_of_ble_eq_true rfl) (by decide) (by decide) (by omega) (by omega) dX5_addParameter_53 (fun G9 hs9 hp => ?_) (fun _ _ h => h.elim)
              subst hp
              refine j_aload_n hE (i := 0) dX5_addParameter_56 rfl rfl ?_
              refine j_get hE flX5_12 hc.f0 rfl dX5_addParameter_57 ?_
              refine j_get hE flX5_53 hc.g0 rfl dX5_addParameter_60 ?_
              refine j_bipush hE (v := nI 12) dX5_addParameter_63 (by decide) ?_
              refine j_ic_geN hE (tgt := 72) dX5_addParameter_65 (by decide) (by omega) (by omega) (fun h65 => ?_) (fun h65 => ?_)
              · refine j_iconst hE (v := nI 0) dX5_addParameter_72 (by decide) ?_
                refine j_cSv hE mlX5_56 (fun l hl => c_X5_requireState_f hl K _ _) rfl rfl (Nat.le_of_ble_eq_true rfl) (by decide) (by decide) (by omega) (by omega) dX5_addParameter_73 (fun G9 hs9 hp => ?_) (fun X G9 h => by obtain ⟨rfl, rfl⟩ := h; exact j_out hE hX hQ (by omega) (by omega) ⟨rfl, rfl⟩)
                exact hp.elim
              · exfalso; omega
  · refine j_iload_n hE (i := 1) dX5_addParameter_5 rfl rfl ?_
    refine j_iconst hE (v := nI 4) dX5_addParameter_6 (by decide) ?_
    refine j_ic_gt hE (tgt := 14) dX5_addParameter_7 (by decide) (fun h7 => ?_) (fun h7 => ?_)
    · refine j_iconst hE (v := nI 0) dX5_addParameter_14 (by decide) ?_
      refine j_ist2 hE dX5_addParameter_15 rfl (by decide) rfl ?_
      refine j_iload_n hE (i := 1) dX5_addParameter_16 rfl rfl ?_
      refine j_bipush hE (v := -2) dX5_addParameter_17 (by decide) ?_
      refine j_ic_eq hE (tgt := 34) dX5_addParameter_19 (by decide) (fun h19 => ?_) (fun h19 => ?_)
      · refine j_iconst hE (v := nI 1) dX5_addParameter_34 (by decide) ?_
        refine j_goto hE (tgt := 39) dX5_addParameter_35 (by decide) ?_
        refine j_ist3 hE dX5_addParameter_39 rfl (by decide) rfl ?_
        refine j_iload_n hE (i := 2) dX5_addParameter_40 rfl rfl ?_
        refine j_if_neN hE (tgt := 48) dX5_addParameter_41 (by decide) (by omega) (fun h41 => ?_) (fun h41 => ?_)
        · exfalso; omega
        · refine j_iload_n hE (i := 3) dX5_addParameter_44 rfl rfl ?_
          refine j_if_eqN hE (tgt := 52) dX5_addParameter_45 (by decide) (by omega) (fun h45 => ?_) (fun h45 => ?_)
          · exfalso; omega
          · refine j_iconst hE (v := nI 1) dX5_addParameter_48 (by decide) ?_
            refine j_goto hE (tgt := 53) dX5_addParameter_49 (by decide) ?_
            refine j_cSv hE mlX5_34 (fun l hl => c_X5_requireArgument_t hl K _ _) rfl rfl (Nat.le_of_ble_eq_true rfl) (by decide) (by decide) (by omega) (by omega) dX5_addParameter_53 (fun G9 hs9 hp => ?_) (fun _ _ h => h.elim)
            subst hp
            refine j_aload_n hE (i := 0) dX5_addParameter_56 rfl rfl ?_
            refine j_get hE flX5_12 hc.f0 rfl dX5_addParameter_57 ?_
            refine j_get hE flX5_53 hc.g0 rfl dX5_addParameter_60 ?_
            refine j_bipush hE (v := nI 12) dX5_addParameter_63 (by decide) ?_
            refine j_ic_geN hE (tgt := 72) dX5_addParameter_65 (by decide) (by omega) (by omega) (fun h65 => ?_) (fun h65 => ?_)
            · refine j_iconst hE (v := nI 0) dX5_addParameter_72 (by decide) ?_
              refine j_cSv hE mlX5_56 (fun l hl => c_X5_requireState_f hl K _ _) rfl rfl (Nat.le_of_ble_eq_true rfl) (by decide) (by decide) (by omega) (by omega) dX5_addParameter_73 (fun G9 hs9 hp => ?_) (fun X G9 h => by obtain ⟨rfl, rfl⟩ := h; exact j_out hE hX hQ (by omega) (by omega) ⟨rfl, rfl⟩)
              exact hp.elim
            · exfalso; omega
      · refine j_iload_n hE (i := 1) dX5_addParameter_22 rfl rfl ?_
        refine j_bipush hE (v := -4) dX5_addParameter_23 (by decide) ?_
        refine j_ic_eq hE (tgt := 34) dX5_addParameter_25 (by decide) (fun h25 => ?_) (fun h25 => ?_)
        · refine j_iconst hE (v := nI 1) dX5_addParameter_34 (by decide) ?_
          refine j_goto hE (tgt := 39) dX5_addParameter_35 (by decide) ?_
          refine j_ist3 hE dX5_addParameter_39 rfl (by decide) rfl ?_
          refine j_iload_n hE (i := 2) dX5_addParameter_40 rfl rfl ?_
          refine j_if_neN hE (tgt := 48) dX5_addParameter_41 (by decide) (by omega) (fun h41 => ?_) (fun h41 => ?_)
          · exfalso; omega
          · refine j_iload_n hE (i := 3) dX5_addParameter_44 rfl rfl ?_
            refine j_if_eqN hE (tgt := 52) dX5_addParameter_45 (by decide) (by omega) (fun h45 => ?_) (fun h45 => ?_)
            · exfalso; omega
            · refine j_iconst hE (v := nI 1) dX5_addParameter_48 (by decide) ?_
              refine j_goto hE (tgt := 53) dX5_addParameter_49 (by decide) ?_
              refine j_cSv hE mlX5_34 (fun l hl => c_X5_requireArgument_t hl K _ _) rfl rfl (Nat.le_of_ble_eq_true rfl) (by decide) (by decide) (by omega) (by omega) dX5_addParameter_53 (fun G9 hs9 hp => ?_) (fun _ _ h => h.elim)
              subst hp
              refine j_aload_n hE (i := 0) dX5_addParameter_56 rfl rfl ?_
              refine j_get hE flX5_12 hc.f0 rfl dX5_addParameter_57 ?_
              refine j_get hE flX5_53 hc.g0 rfl dX5_addParameter_60 ?_
              refine j_bipush hE (v := nI 12) dX5_addParameter_63 (by decide) ?_
              refine j_ic_geN hE (tgt := 72) dX5_addParameter_65 (by decide) (by omega) (by omega) (fun h65 => ?_) (fun h65 => ?_)
              · refine j_iconst hE (v := nI 0) dX5_addParameter_72 (by decide) ?_
                refine j_cSv hE mlX5_56 (fun l hl => c_X5_requireState_f hl K _ _) rfl rfl (Nat.le_of_ble_eq_true rfl) (by decide) (by decide) (by omega) (by omega) dX5_addParameter_73 (fun G9 hs9 hp => ?_) (fun X G9 h => by obtain ⟨rfl, rfl⟩ := h; exact j_out hE hX hQ (by omega) (by omega) ⟨rfl, rfl⟩)
                exact hp.elim
              · exfalso; omega
        · refine j_iload_n hE (i := 1) dX5_addParameter_28 rfl rfl ?_
          refine j_bipush hE (v := -8) dX5_addParameter_29 (by decide) ?_
          refine j_ic_ne hE (tgt := 38) dX5_addParameter_31 (by decide) (fun h31 => ?_) (fun h31 => ?_)
          · refine j_iconst hE (v := nI 0) dX5_addParameter_38 (by decide) ?_
            refine j_ist3 hE dX5_addParameter_39 rfl (by decide) rfl ?_
            refine j_iload_n hE (i := 2) dX5_addParameter_40 rfl rfl ?_
            refine j_if_neN hE (tgt := 48) dX5_addParameter_41 (by decide) (by omega) (fun h41 => ?_) (fun h41 => ?_)
            · exfalso; omega
            · refine j_iload_n hE (i := 3) dX5_addParameter_44 rfl rfl ?_
              refine j_if_eqN hE (tgt := 52) dX5_addParameter_45 (by decide) (by omega) (fun h45 => ?_) (fun h45 => ?_)
              · rcases rOk_neg hr (fun q9 => by first | exact absurd q9.1 (Int32.not_le.mpr h2) | exact absurd q9.2 (Int32.not_le.mpr h7)) with q9 | q9 | q9
                · exact absurd q9 h19
                · exact absurd q9 h25
                · exact absurd q9 h31
              · exfalso; omega
          · refine j_iconst hE (v := nI 1) dX5_addParameter_34 (by decide) ?_
            refine j_goto hE (tgt := 39) dX5_addParameter_35 (by decide) ?_
            refine j_ist3 hE dX5_addParameter_39 rfl (by decide) rfl ?_
            refine j_iload_n hE (i := 2) dX5_addParameter_40 rfl rfl ?_
            refine j_if_neN hE (tgt := 48) dX5_addParameter_41 (by decide) (by omega) (fun h41 => ?_) (fun h41 => ?_)
            · exfalso; omega
            · refine j_iload_n hE (i := 3) dX5_addParameter_44 rfl rfl ?_
              refine j_if_eqN hE (tgt := 52) dX5_addParameter_45 (by decide) (by omega) (fun h45 => ?_) (fun h45 => ?_)
              · exfalso; omega
              · refine j_iconst hE (v := nI 1) dX5_addParameter_48 (by decide) ?_
                refine j_goto hE (tgt := 53) dX5_addParameter_49 (by decide) ?_
                refine j_cSv hE mlX5_34 (fun l hl => c_X5_requireArgument_t hl K _ _) rfl rfl (Nat.le_of_ble_eq_true rfl) (by decide) (by decide) (by omega) (by omega) dX5_addParameter_53 (fun G9 hs9 hp => ?_) (fun _ _ h => h.elim)
                subst hp
                refine j_aload_n hE (i := 0) dX5_addParameter_56 rfl rfl ?_
                refine j_get hE flX5_12 hc.f0 rfl dX5_addParameter_57 ?_
                refine j_get hE flX5_53 hc.g0 rfl dX5_addParameter_60 ?_
                refine j_bipush hE (v := nI 12) dX5_addParameter_63 (by decide) ?_
                refine j_ic_geN hE (tgt := 72) dX5_addParameter_65 (by decide) (by omega) (by omega) (fun h65 => ?_) (fun h65 => ?_)
                · refine j_iconst hE (v := nI 0) dX5_addParameter_72 (by decide) ?_
                  refine j_cSv hE mlX5_56 (fun l hl => c_X5_requireState_f hl K _ _) rfl rfl (Nat.le_of_ble_eq_true rfl) (by decide) (by decide) (by omega) (by omega) dX5_addParameter_73 (fun G9 hs9 hp => ?_) (fun X G9 h => by obtain ⟨rfl, rfl⟩ := h; exact j_out hE hX hQ (by omega) (by omega) ⟨rfl, rfl⟩)
                  exact hp.elim
                · exfalso; omega
    · refine j_iconst hE (v := nI 1) dX5_addParameter_10 (by decide) ?_
      refine j_goto hE (tgt := 15) dX5_addParameter_11 (by decide) ?_
      refine j_ist2 hE dX5_addParameter_15 rfl (by decide) rfl ?_
      refine j_iload_n hE (i := 1) dX5_addParameter_16 rfl rfl ?_
      refine j_bipush hE (v := -2) dX5_addParameter_17 (by decide) ?_
      refine j_ic_eq hE (tgt := 34) dX5_addParameter_19 (by decide) (fun h19 => ?_) (fun h19 => ?_)
      · refine j_iconst hE (v := nI 1) dX5_addParameter_34 (by decide) ?_
        refine j_goto hE (tgt := 39) dX5_addParameter_35 (by decide) ?_
        refine j_ist3 hE dX5_addParameter_39 rfl (by decide) rfl ?_
        refine j_iload_n hE (i := 2) dX5_addParameter_40 rfl rfl ?_
        refine j_if_neN hE (tgt := 48) dX5_addParameter_41 (by decide) (by omega) (fun h41 => ?_) (fun h41 => ?_)
        · refine j_iconst hE (v := nI 1) dX5_addParameter_48 (by decide) ?_
          refine j_goto hE (tgt := 53) dX5_addParameter_49 (by decide) ?_
          refine j_cSv hE mlX5_34 (fun l hl => c_X5_requireArgument_t hl K _ _) rfl rfl (Nat.le_of_ble_eq_true rfl) (by decide) (by decide) (by omega) (by omega) dX5_addParameter_53 (fun G9 hs9 hp => ?_) (fun _ _ h => h.elim)
          subst hp
          refine j_aload_n hE (i := 0) dX5_addParameter_56 rfl rfl ?_
          refine j_get hE flX5_12 hc.f0 rfl dX5_addParameter_57 ?_
          refine j_get hE flX5_53 hc.g0 rfl dX5_addParameter_60 ?_
          refine j_bipush hE (v := nI 12) dX5_addParameter_63 (by decide) ?_
          refine j_ic_geN hE (tgt := 72) dX5_addParameter_65 (by decide) (by omega) (by omega) (fun h65 => ?_) (fun h65 => ?_)
          · refine j_iconst hE (v := nI 0) dX5_addParameter_72 (by decide) ?_
            refine j_cSv hE mlX5_56 (fun l hl => c_X5_requireState_f hl K _ _) rfl rfl (Nat.le_of_ble_eq_true rfl) (by decide) (by decide) (by omega) (by omega) dX5_addParameter_73 (fun G9 hs9 hp => ?_) (fun X G9 h => by obtain ⟨rfl, rfl⟩ := h; exact j_out hE hX hQ (by omega) (by omega) ⟨rfl, rfl⟩)
            exact hp.elim
          · exfalso; omega
        · exfalso; omega
      · refine j_iload_n hE (i := 1) dX5_addParameter_22 rfl rfl ?_
        refine j_bipush hE (v := -4) dX5_addParameter_23 (by decide) ?_
        refine j_ic_eq hE (tgt := 34) dX5_addParameter_25 (by decide) (fun h25 => ?_) (fun h25 => ?_)
        · refine j_iconst hE (v := nI 1) dX5_addParameter_34 (by decide) ?_
          refine j_goto hE (tgt := 39) dX5_addParameter_35 (by decide) ?_
          refine j_ist3 hE dX5_addParameter_39 rfl (by decide) rfl ?_
          refine j_iload_n hE (i := 2) dX5_addParameter_40 rfl rfl ?_
          refine j_if_neN hE (tgt := 48) dX5_addParameter_41 (by decide) (by omega) (fun h41 => ?_) (fun h41 => ?_)
          · refine j_iconst hE (v := nI 1) dX5_addParameter_48 (by decide) ?_
            refine j_goto hE (tgt := 53) dX5_addParameter_49 (by decide) ?_
            refine j_cSv hE mlX5_34 (fun l hl => c_X5_requireArgument_t hl K _ _) rfl rfl (Nat.le_of_ble_eq_true rfl) (by decide) (by decide) (by omega) (by omega) dX5_addParameter_53 (fun G9 hs9 hp => ?_) (fun _ _ h => h.elim)
            subst hp
            refine j_aload_n hE (i := 0) dX5_addParameter_56 rfl rfl ?_
            refine j_get hE flX5_12 hc.f0 rfl dX5_addParameter_57 ?_
            refine j_get hE flX5_53 hc.g0 rfl dX5_addParameter_60 ?_
            refine j_bipush hE (v := nI 12) dX5_addParameter_63 (by decide) ?_
            refine j_ic_geN hE (tgt := 72) dX5_addParameter_65 (by decide) (by omega) (by omega) (fun h65 => ?_) (fun h65 => ?_)
            · refine j_iconst hE (v := nI 0) dX5_addParameter_72 (by decide) ?_
              refine j_cSv hE mlX5_56 (fun l hl => c_X5_requireState_f hl K _ _) rfl rfl (Nat.le_of_ble_eq_true rfl) (by decide) (by decide) (by omega) (by omega) dX5_addParameter_73 (fun G9 hs9 hp => ?_) (fun X G9 h => by obtain ⟨rfl, rfl⟩ := h; exact j_out hE hX hQ (by omega) (by omega) ⟨rfl, rfl⟩)
              exact hp.elim
            · exfalso; omega
          · exfalso; omega
        · refine j_iload_n hE (i := 1) dX5_addParameter_28 rfl rfl ?_
          refine j_bipush hE (v := -8) dX5_addParameter_29 (by decide) ?_
          refine j_ic_ne hE (tgt := 38) dX5_addParameter_31 (by decide) (fun h31 => ?_) (fun h31 => ?_)
          · refine j_iconst hE (v := nI 0) dX5_addParameter_38 (by decide) ?_
            refine j_ist3 hE dX5_addParameter_39 rfl (by decide) rfl ?_
            refine j_iload_n hE (i := 2) dX5_addParameter_40 rfl rfl ?_
            refine j_if_neN hE (tgt := 48) dX5_addParameter_41 (by decide) (by omega) (fun h41 => ?_) (fun h41 => ?_)
            · refine j_iconst hE (v := nI 1) dX5_addParameter_48 (by decide) ?_
              refine j_goto hE (tgt := 53) dX5_addParameter_49 (by decide) ?_
              refine j_cSv hE mlX5_34 (fun l hl => c_X5_requireArgument_t hl K _ _) rfl rfl (Nat.le_of_ble_eq_true rfl) (by decide) (by decide) (by omega) (by omega) dX5_addParameter_53 (fun G9 hs9 hp => ?_) (fun _ _ h => h.elim)
              subst hp
              refine j_aload_n hE (i := 0) dX5_addParameter_56 rfl rfl ?_
              refine j_get hE flX5_12 hc.f0 rfl dX5_addParameter_57 ?_
              refine j_get hE flX5_53 hc.g0 rfl dX5_addParameter_60 ?_
              refine j_bipush hE (v := nI 12) dX5_addParameter_63 (by decide) ?_
              refine j_ic_geN hE (tgt := 72) dX5_addParameter_65 (by decide) (by omega) (by omega) (fun h65 => ?_) (fun h65 => ?_)
              · refine j_iconst hE (v := nI 0) dX5_addParameter_72 (by decide) ?_
                refine j_cSv hE mlX5_56 (fun l hl => c_X5_requireState_f hl K _ _) rfl rfl (Nat.le_of_ble_eq_true rfl) (by decide) (by decide) (by omega) (by omega) dX5_addParameter_73 (fun G9 hs9 hp => ?_) (fun X G9 h => by obtain ⟨rfl, rfl⟩ := h; exact j_out hE hX hQ (by omega) (by omega) ⟨rfl, rfl⟩)
                exact hp.elim
              · exfalso; omega
            · exfalso; omega
          · refine j_iconst hE (v := nI 1) dX5_addParameter_34 (by decide) ?_
            refine j_goto hE (tgt := 39) dX5_addParameter_35 (by decide) ?_
            refine j_ist3 hE dX5_addParameter_39 rfl (by decide) rfl ?_
            refine j_iload_n hE (i := 2) dX5_addParameter_40 rfl rfl ?_
            refine j_if_neN hE (tgt := 48) dX5_addParameter_41 (by decide) (by omega) (fun h41 => ?_) (fun h41 => ?_)
            · refine j_iconst hE (v := nI 1) dX5_addParameter_48 (by decide) ?_
              refine j_goto hE (tgt := 53) dX5_addParameter_49 (by decide) ?_
              refine j_cSv hE mlX5_34 (fun l hl => c_X5_requireArgument_t hl K _ _) rfl rfl (Nat.le_of_ble_eq_true rfl) (by decide) (by decide) (by omega) (by omega) dX5_addParameter_53 (fun G9 hs9 hp => ?_) (fun _ _ h => h.elim)
              subst hp
              refine j_aload_n hE (i := 0) dX5_addParameter_56 rfl rfl ?_
              refine j_get hE flX5_12 hc.f0 rfl dX5_addParameter_57 ?_
              refine j_get hE flX5_53 hc.g0 rfl dX5_addParameter_60 ?_
              refine j_bipush hE (v := nI 12) dX5_addParameter_63 (by decide) ?_
              refine j_ic_geN hE (tgt := 72) dX5_addParameter_65 (by decide) (by omega) (by omega) (fun h65 => ?_) (fun h65 => ?_)
              · refine j_iconst hE (v := nI 0) dX5_addParameter_72 (by decide) ?_
                refine j_cSv hE mlX5_56 (fun l hl => c_X5_requireState_f hl K _ _) rfl rfl (Nat.le_of_ble_eq_true rfl) (by decide) (by decide) (by omega) (by omega) dX5_addParameter_73 (fun G9 hs9 hp => ?_) (fun X G9 h => by obtain ⟨rfl, rfl⟩ := h; exact j_out hE hX hQ (by omega) (by omega) ⟨rfl, rfl⟩)
                exact hp.elim
              · exfalso; omega
            · exfalso; omega

set_option maxRecDepth 100000 in
set_option maxHeartbeats 4000000 in
theorem c_X5_addParameter_f1 {l : Launch} (hl : l.stackTraces = false) (K : jK) (G : GH) (x hs n : Nat) (q : Nat → Nat) (cnt nw w m : Nat) (pl : Bool) (tk : Nat) (ow : Nat → Int32) (P : Nat → PaV) (pc nx : Nat) (bits : Nat → Int32) (nb : Nat) (rc : RcV) (md : Nat) (S : Nat → StV) (d : LyV) (hc : fcOk K G x n q cnt nw (w, m, pl, tk, ow, P, pc, nx, bits, nb, rc, md) S d) (hpc : pc ≤ 12) (rate : Int32) (hr : ¬ rOk rate) : Ct l K yX5_addParameter cX5_addParameter 5 (some .int) 7 102 2 12 [.ref x, .int rate] G hs (pI (fun _ _ _ => False)) (fun X G' => X = jIA ∧ G' = G) := by
  refine Ct.ofA hl (by decide) (Nat.le_of_ble_eq_true rfl) (L0 := [some (.ref x), some (.int rate), none, none, none]) (jL_of 3 rfl) ?_
  intro A E hE hQ hX hNm
  have hO : fO x G G := fO.rf
  have hnb : nb ≤ 2048 := hc.f8
  refine j_iload_n hE (i := 1) dX5_addParameter_0 rfl rfl ?_
  refine j_iconst hE (v := nI 1) dX5_addParameter_1 (by decide) ?_
  refine j_ic_lt hE (tgt := 14) dX5_addParameter_2 (by decide) (fun h2 => ?_) (fun h2 => ?_)
  · refine j_iconst hE (v := nI 0) dX5_addParameter_14 (by decide) ?_
    refine j_ist2 hE dX5_addParameter_15 rfl (by decide) rfl ?_
    refine j_iload_n hE (i := 1) dX5_addParameter_16 rfl rfl ?_
    refine j_bipush hE (v := -2) dX5_addParameter_17 (by decide) ?_
    refine j_ic_eq hE (tgt := 34) dX5_addParameter_19 (by decide) (fun h19 => ?_) (fun h19 => ?_)
    · exact absurd (rOk_of (Or.inr (Or.inl h19))) hr
    · refine j_iload_n hE (i := 1) dX5_addParameter_22 rfl rfl ?_
      refine j_bipush hE (v := -4) dX5_addParameter_23 (by decide) ?_
      refine j_ic_eq hE (tgt := 34) dX5_addParameter_25 (by decide) (fun h25 => ?_) (fun h25 => ?_)
      · exact absurd (rOk_of (Or.inr (Or.inr (Or.inl h25)))) hr
      · refine j_iload_n hE (i := 1) dX5_addParameter_28 rfl rfl ?_
        refine j_bipush hE (v := -8) dX5_addParameter_29 (by decide) ?_
        refine j_ic_ne hE (tgt := 38) dX5_addParameter_31 (by decide) (fun h31 => ?_) (fun h31 => ?_)
        · refine j_iconst hE (v := nI 0) dX5_addParameter_38 (by decide) ?_
          refine j_ist3 hE dX5_addParameter_39 rfl (by decide) rfl ?_
          refine j_iload_n hE (i := 2) dX5_addParameter_40 rfl rfl ?_
          refine j_if_neN hE (tgt := 48) dX5_addParameter_41 (by decide) (by omega) (fun h41 => ?_) (fun h41 => ?_)
          · exfalso; omega
          · refine j_iload_n hE (i := 3) dX5_addParameter_44 rfl rfl ?_
            refine j_if_eqN hE (tgt := 52) dX5_addParameter_45 (by decide) (by omega) (fun h45 => ?_) (fun h45 => ?_)
            · refine j_iconst hE (v := nI 0) dX5_addParameter_52 (by decide) ?_
              refine j_cSv hE mlX5_34 (fun l hl => c_X5_requireArgument_f hl K _ _) rfl rfl (Nat.le_of_ble_eq_true rfl) (by decide) (by decide) (by omega) (by omega) dX5_addParameter_53 (fun G9 hs9 hp => ?_) (fun X G9 h => by obtain ⟨rfl, rfl⟩ := h; exact j_out hE hX hQ (by omega) (by omega) ⟨rfl, rfl⟩)
              exact hp.elim
            · exfalso; omega
        · exact absurd (rOk_of (Or.inr (Or.inr (Or.inr h31)))) hr
  · refine j_iload_n hE (i := 1) dX5_addParameter_5 rfl rfl ?_
    refine j_iconst hE (v := nI 4) dX5_addParameter_6 (by decide) ?_
    refine j_ic_gt hE (tgt := 14) dX5_addParameter_7 (by decide) (fun h7 => ?_) (fun h7 => ?_)
    · refine j_iconst hE (v := nI 0) dX5_addParameter_14 (by decide) ?_
      refine j_ist2 hE dX5_addParameter_15 rfl (by decide) rfl ?_
      refine j_iload_n hE (i := 1) dX5_addParameter_16 rfl rfl ?_
      refine j_bipush hE (v := -2) dX5_addParameter_17 (by decide) ?_
      refine j_ic_eq hE (tgt := 34) dX5_addParameter_19 (by decide) (fun h19 => ?_) (fun h19 => ?_)
      · exact absurd (rOk_of (Or.inr (Or.inl h19))) hr
      · refine j_iload_n hE (i := 1) dX5_addParameter_22 rfl rfl ?_
        refine j_bipush hE (v := -4) dX5_addParameter_23 (by decide) ?_
        refine j_ic_eq hE (tgt := 34) dX5_addParameter_25 (by decide) (fun h25 => ?_) (fun h25 => ?_)
        · exact absurd (rOk_of (Or.inr (Or.inr (Or.inl h25)))) hr
        · refine j_iload_n hE (i := 1) dX5_addParameter_28 rfl rfl ?_
          refine j_bipush hE (v := -8) dX5_addParameter_29 (by decide) ?_
          refine j_ic_ne hE (tgt := 38) dX5_addParameter_31 (by decide) (fun h31 => ?_) (fun h31 => ?_)
          · refine j_iconst hE (v := nI 0) dX5_addParameter_38 (by decide) ?_
            refine j_ist3 hE dX5_addParameter_39 rfl (by decide) rfl ?_
            refine j_iload_n hE (i := 2) dX5_addParameter_40 rfl rfl ?_
            refine j_if_neN hE (tgt := 48) dX5_addParameter_41 (by decide) (by omega) (fun h41 => ?_) (fun h41 => ?_)
            · exfalso; omega
            · refine j_iload_n hE (i := 3) dX5_addParameter_44 rfl rfl ?_
              refine j_if_eqN hE (tgt := 52) dX5_addParameter_45 (by decide) (by omega) (fun h45 => ?_) (fun h45 => ?_)
              · refine j_iconst hE (v := nI 0) dX5_addParameter_52 (by decide) ?_
                refine j_cSv hE mlX5_34 (fun l hl => c_X5_requireArgument_f hl K _ _) rfl rfl (Nat.le_of_ble_eq_true rfl) (by decide) (by decide) (by omega) (by omega) dX5_addParameter_53 (fun G9 hs9 hp => ?_) (fun X G9 h => by obtain ⟨rfl, rfl⟩ := h; exact j_out hE hX hQ (by omega) (by omega) ⟨rfl, rfl⟩)
                exact hp.elim
              · exfalso; omega
          · exact absurd (rOk_of (Or.inr (Or.inr (Or.inr h31)))) hr
    · exact absurd (rOk_of (Or.inl ⟨Int32.not_lt.mp h2, Int32.not_lt.mp h7⟩)) hr

set_option maxRecDepth 100000 in
set_option maxHeartbeats 4000000 in
theorem c_X5_placeAll_t {l : Launch} (hl : l.stackTraces = false) (K : jK) (G : GH) (x hs n : Nat) (q : Nat → Nat) (cnt nw w m : Nat) (pl : Bool) (tk : Nat) (ow : Nat → Int32) (P : Nat → PaV) (pc nx : Nat) (bits : Nat → Int32) (nb : Nat) (rc : RcV) (md : Nat) (S : Nat → StV) (dpl : Bool) (D : Nat → Nat → Int32) (TK : Nat → Nat) (hc : fcOk K G x n q cnt nw (w, m, pl, tk, ow, P, pc, nx, bits, nb, rc, md) S (w, m, dpl, TK 0, D 0)) (hpc : pc ≤ 12) (hw6 : 6 ≤ w) (hw9 : w ≤ 16) (hm1 : 1 ≤ m) (hm9 : m ≤ 8) (hr : ∀ j, j < pc → rOk (P j).1) (S9 : Nat → Nat) (hS9 : ∀ j, S9 j = sOf m (P j).1) (hok : ∀ p, p < pc → plOk w m (P p).1 p (D (rank S9 pc p)) (D (rank S9 pc p + 1))) (hTK : ∀ p, p < pc → TK (rank S9 pc p + 1) = TK (rank S9 pc p) + S9 p) : Ct l K yX5_placeAll cX5_placeAll 4 (some .int) 5 119 0 0 [.ref x] G hs (pI (fun z9 G' _ => z9 = -1 ∧ fcOk K G' x n q cnt nw (w, m, pl, tk, ow, P, pc, nx, bits, nb, rc, md) S (w, m, dpl, TK pc, D pc) ∧ fO x G G')) jno := by
  refine Ct.ofA hl (by decide) (Nat.le_of_ble_eq_true rfl) (L0 := [some (.ref x), none, none, none]) (jL_of 3 rfl) ?_
  intro A E hE hQ hX hNm
  have hO : fO x G G := fO.rf
  have hnb : nb ≤ 2048 := hc.f8
  have h32 : ∀ o, o < pc → S9 o ≤ 32 := fun o ho => by rw [hS9 o]; exact sOf_le hm9 (hr o ho)
  refine j_bipush hE (v := nI 32) dX5_placeAll_0 (by decide) ?_
  refine j_ist1 hE dX5_placeAll_2 rfl (by decide) rfl ?_
  have key3 : ∀ u, u ≤ 33 → ∀ hs : Nat, ∀ G1, fcOk K G1 x n q cnt nw (w, m, pl, tk, ow, P, pc, nx, bits, nb, rc, md) S (w, m, dpl, TK (tou S9 pc u), D (tou S9 pc u)) → fO x G G1 → ∀ a2 a3, J K A E 4 G1 hs 0 0 3 [some (.ref x), some (.int (nI 32 - nI u)), a2, a3] [] := by
    refine dloop (fun u => ∀ hs : Nat, ∀ G1, fcOk K G1 x n q cnt nw (w, m, pl, tk, ow, P, pc, nx, bits, nb, rc, md) S (w, m, dpl, TK (tou S9 pc u), D (tou S9 pc u)) → fO x G G1 → ∀ a2 a3, J K A E 4 G1 hs 0 0 3 [some (.ref x), some (.int (nI 32 - nI u)), a2, a3] []) (33) (fun u hi3 ih3 => ?_) ?_
    · intro hs
      intro G1 hc hO a2 a3
      rw [pk_sub (by omega)]
      refine j_iload_n hE (i := 1) dX5_placeAll_3 rfl rfl ?_
      refine j_if_lt hE (tgt := 74) dX5_placeAll_4 (by decide) (fun h4 => ?_) (fun h4 => ?_)
      · exact absurd h4 (nI_pos (by omega))
      · refine j_iconst hE (v := nI 0) dX5_placeAll_7 (by decide) ?_
        refine j_ist2 hE dX5_placeAll_8 rfl (by decide) rfl ?_
        have key9 : ∀ i, i ≤ pc → ∀ hs : Nat, ∀ G1, fcOk K G1 x n q cnt nw (w, m, pl, tk, ow, P, pc, nx, bits, nb, rc, md) S (w, m, dpl, TK (tin S9 pc u i), D (tin S9 pc u i)) → fO x G G1 → ∀ a3, J K A E 4 G1 hs 0 0 9 [some (.ref x), some (.int (nI (32 - u))), some (.int (nI i)), a3] [] := by
          refine dloop (fun i => ∀ hs : Nat, ∀ G1, fcOk K G1 x n q cnt nw (w, m, pl, tk, ow, P, pc, nx, bits, nb, rc, md) S (w, m, dpl, TK (tin S9 pc u i), D (tin S9 pc u i)) → fO x G G1 → ∀ a3, J K A E 4 G1 hs 0 0 9 [some (.ref x), some (.int (nI (32 - u))), some (.int (nI i)), a3] []) (pc) (fun i hi9 ih9 => ?_) ?_
          · intro hs
            intro G1 hc hO a3
            have hi12 : i < 12 := by omega
            have h32i := h32 i (by omega)
            refine j_iload_n hE (i := 2) dX5_placeAll_9 rfl rfl ?_
            refine j_aload_n hE (i := 0) dX5_placeAll_10 rfl rfl ?_
            refine j_get hE flX5_12 hc.f0 rfl dX5_placeAll_11 ?_
            refine j_get hE flX5_53 hc.g0 rfl dX5_placeAll_14 ?_
            refine j_ic_geN hE (tgt := 68) dX5_placeAll_17 (by decide) (by omega) (by omega) (fun h17 => ?_) (fun h17 => ?_)
            · exfalso; omega
            · refine j_aload_n hE (i := 0) dX5_placeAll_20 rfl rfl ?_
              refine j_get hE flX5_12 hc.f0 rfl dX5_placeAll_21 ?_
              refine j_get hE flX5_59 hc.g0 rfl dX5_placeAll_24 ?_
              refine j_iload_n hE (i := 2) dX5_placeAll_27 rfl rfl ?_
              refine j_par hE hc.g3 rfl (by omega) dX5_placeAll_28 ?_
              refine j_ast3 hE dX5_placeAll_29 rfl (by decide) rfl ?_
              refine j_aload_n hE (i := 3) dX5_placeAll_30 rfl rfl ?_
              refine j_aload_n hE (i := 0) dX5_placeAll_31 rfl rfl ?_
              refine j_get hE flX5_30 hc.f0 rfl dX5_placeAll_32 ?_
              refine j_get hE flX5_47 (hc.gd rfl) rfl dX5_placeAll_35 ?_
              refine j_cVi hE mlX5_91 (hc.gp0 hi12) (fun l hl => Ct.at ((st_pa hi12).trans hc.f3) (c_X2_samplesIn hl K _ _ _ _ _ _ _ _ _ _ _ _ _ _ hm9 (hr i (by omega)))) rfl rfl (Nat.le_of_ble_eq_true rfl) (by decide) (by decide) (by omega) (by omega) dX5_placeAll_38 (fun r G9 hs9 hp => ?_) (fun _ _ h => h.elim)
              obtain ⟨rfl, hp⟩ := hp
              have hp9 := hp.trans ((st_pa hi12).trans hc.f3)
              subst hp9
              rw [← hS9 i]
              refine j_iload_n hE (i := 1) dX5_placeAll_41 rfl rfl ?_
              refine j_ic_neN hE (tgt := 62) dX5_placeAll_42 (by decide) (by omega) (by omega) (fun h42 => ?_) (fun h42 => ?_)
              · have e7 : S9 i + u ≠ 32 := by omega
                rw [← tin_ne e7] at hc
                refine j_incN2 hE dX5_placeAll_62 (by decide) rfl ?_
                refine j_goto hE (tgt := 9) dX5_placeAll_65 (by decide) ?_
                exact ih9 _ _ hc hO _
              · have e8 : S9 i + u = 32 := by omega
                have hok9 := hok i (by omega)
                have hTK9 := hTK i (by omega)
                rw [← tin_rank e8] at hok9
                refine j_aload_n hE (i := 0) dX5_placeAll_45 rfl rfl ?_
                refine j_get hE flX5_30 hc.f0 rfl dX5_placeAll_46 ?_
                refine j_iload_n hE (i := 2) dX5_placeAll_49 rfl rfl ?_
                refine j_aload_n hE (i := 3) dX5_placeAll_50 rfl rfl ?_
                refine j_get hE flX5_203 (hc.gp0 hi12) rfl dX5_placeAll_51 ?_
                refine j_cVi hE mlX5_206 (hc.gd rfl) (fun l hl => Ct.at hc.f2 (c_X1_place_t hl K _ (x + 227) _ _ _ _ _ _ hw6 hw9 hm9 hm1 i _ _ hok9)) rfl rfl (Nat.le_of_ble_eq_true rfl) (by decide) (by decide) (by omega) (by omega) dX5_placeAll_54 (fun r G9 hs9 hp => ?_) (fun _ _ h => h.elim)
                obtain ⟨rfl, hp⟩ := hp
                have e5 : TK (tin S9 pc u (i + 1)) = TK (tin S9 pc u i) + sOf m (P i).1 := by rw [tin_eq (by omega) e8, tin_rank e8, hTK9, hS9 i]
                have e6 : tin S9 pc u (i + 1) = tin S9 pc u i + 1 := tin_eq (by omega) e8
                obtain ⟨hc, hO9⟩ := hc.dr (d' := (w, m, dpl, TK (tin S9 pc u i) + sOf m (P i).1, D (tin S9 pc u i + 1))) hp
                rw [← e5, ← e6] at hc
                replace hO := hO.tr hO9
                refine j_if_neN hE (tgt := 62) dX5_placeAll_57 (by decide) (by omega) (fun h57 => ?_) (fun h57 => ?_)
                · refine j_incN2 hE dX5_placeAll_62 (by decide) rfl ?_
                  refine j_goto hE (tgt := 9) dX5_placeAll_65 (by decide) ?_
                  exact ih9 _ _ hc hO _
                · exfalso; omega
          · intro hs
            intro G1 hc hO a3
            rw [tin_n] at hc
            refine j_iload_n hE (i := 2) dX5_placeAll_9 rfl rfl ?_
            refine j_aload_n hE (i := 0) dX5_placeAll_10 rfl rfl ?_
            refine j_get hE flX5_12 hc.f0 rfl dX5_placeAll_11 ?_
            refine j_get hE flX5_53 hc.g0 rfl dX5_placeAll_14 ?_
            refine j_ic_geN hE (tgt := 68) dX5_placeAll_17 (by decide) (by omega) (by omega) (fun h17 => ?_) (fun h17 => ?_)
            · refine j_inc1 hE dX5_placeAll_68 (s32_dec (by omega)) (by decide) rfl ?_
              refine j_goto hE (tgt := 3) dX5_placeAll_71 (by decide) ?_
              exact ih3 _ _ hc hO _ _
            · exfalso; omega
        exact key9 0 (by omega) _ _ (by rw [tin_0]; exact hc) hO _
    · intro hs
      intro G1 hc hO a2 a3
      refine j_iload_n hE (i := 1) dX5_placeAll_3 rfl rfl ?_
      refine j_if_lt hE (tgt := 74) dX5_placeAll_4 (by decide) (fun h4 => ?_) (fun h4 => ?_)
      · refine j_iconst hE (v := -1) dX5_placeAll_74 (by decide) ?_
        refine j_iret hE hQ rfl (by omega) (by omega) dX5_placeAll_75 ?_
        rw [tou_33] at hc
        exact ⟨_, rfl, rfl, hc, hO⟩
      · exact absurd s32_ge h4
  exact key3 0 (by omega) _ _ (by rw [tou_0 h32]; exact hc) hO _ _

set_option maxRecDepth 100000 in
set_option maxHeartbeats 4000000 in
theorem c_X5_placeAll_f {l : Launch} (hl : l.stackTraces = false) (K : jK) (G : GH) (x hs n : Nat) (q : Nat → Nat) (cnt nw w m : Nat) (pl : Bool) (tk : Nat) (ow : Nat → Int32) (P : Nat → PaV) (pc nx : Nat) (bits : Nat → Int32) (nb : Nat) (rc : RcV) (md : Nat) (S : Nat → StV) (dpl : Bool) (D : Nat → Nat → Int32) (TK : Nat → Nat) (hc : fcOk K G x n q cnt nw (w, m, pl, tk, ow, P, pc, nx, bits, nb, rc, md) S (w, m, dpl, TK 0, D 0)) (hpc : pc ≤ 12) (hw6 : 6 ≤ w) (hw9 : w ≤ 16) (hm1 : 1 ≤ m) (hm9 : m ≤ 8) (hr : ∀ j, j < pc → rOk (P j).1) (S9 : Nat → Nat) (hS9 : ∀ j, S9 j = sOf m (P j).1) (pT u0 : Nat) (hpT : pT < pc) (hu0 : S9 pT + u0 = 32) (hok : ∀ p, p < pc → (S9 pT < S9 p ∨ (S9 p = S9 pT ∧ p < pT)) → plOk w m (P p).1 p (D (rank S9 pc p)) (D (rank S9 pc p + 1))) (hTK : ∀ p, p < pc → (S9 pT < S9 p ∨ (S9 p = S9 pT ∧ p < pT)) → TK (rank S9 pc p + 1) = TK (rank S9 pc p) + S9 p) (hno : plNo w m (P pT).1 (D (rank S9 pc pT))) : Ct l K yX5_placeAll cX5_placeAll 4 (some .int) 5 119 0 0 [.ref x] G hs (pI (fun z9 G' _ => z9 = nI pT ∧ fcOk K G' x n q cnt nw (w, m, pl, tk, ow, P, pc, nx, bits, nb, rc, md) S (w, m, dpl, TK (rank S9 pc pT), D (rank S9 pc pT)) ∧ fO x G G')) jno := by
  refine Ct.ofA hl (by decide) (Nat.le_of_ble_eq_true rfl) (L0 := [some (.ref x), none, none, none]) (jL_of 3 rfl) ?_
  intro A E hE hQ hX hNm
  have hO : fO x G G := fO.rf
  have hnb : nb ≤ 2048 := hc.f8
  have h32 : ∀ o, o < pc → S9 o ≤ 32 := fun o ho => by rw [hS9 o]; exact sOf_le hm9 (hr o ho)
  refine j_bipush hE (v := nI 32) dX5_placeAll_0 (by decide) ?_
  refine j_ist1 hE dX5_placeAll_2 rfl (by decide) rfl ?_
  have key3 : ∀ u, u ≤ u0 → ∀ hs : Nat, ∀ G1, fcOk K G1 x n q cnt nw (w, m, pl, tk, ow, P, pc, nx, bits, nb, rc, md) S (w, m, dpl, TK (tou S9 pc u), D (tou S9 pc u)) → fO x G G1 → ∀ a2 a3, J K A E 4 G1 hs 0 0 3 [some (.ref x), some (.int (nI 32 - nI u)), a2, a3] [] := by
    refine dloop (fun u => ∀ hs : Nat, ∀ G1, fcOk K G1 x n q cnt nw (w, m, pl, tk, ow, P, pc, nx, bits, nb, rc, md) S (w, m, dpl, TK (tou S9 pc u), D (tou S9 pc u)) → fO x G G1 → ∀ a2 a3, J K A E 4 G1 hs 0 0 3 [some (.ref x), some (.int (nI 32 - nI u)), a2, a3] []) (u0) (fun u hi3 ih3 => ?_) ?_
    · intro hs
      intro G1 hc hO a2 a3
      rw [pk_sub (by omega)]
      refine j_iload_n hE (i := 1) dX5_placeAll_3 rfl rfl ?_
      refine j_if_lt hE (tgt := 74) dX5_placeAll_4 (by decide) (fun h4 => ?_) (fun h4 => ?_)
      · exact absurd h4 (nI_pos (by omega))
      · refine j_iconst hE (v := nI 0) dX5_placeAll_7 (by decide) ?_
        refine j_ist2 hE dX5_placeAll_8 rfl (by decide) rfl ?_
        have key9 : ∀ i, i ≤ pc → ∀ hs : Nat, ∀ G1, fcOk K G1 x n q cnt nw (w, m, pl, tk, ow, P, pc, nx, bits, nb, rc, md) S (w, m, dpl, TK (tin S9 pc u i), D (tin S9 pc u i)) → fO x G G1 → ∀ a3, J K A E 4 G1 hs 0 0 9 [some (.ref x), some (.int (nI (32 - u))), some (.int (nI i)), a3] [] := by
          refine dloop (fun i => ∀ hs : Nat, ∀ G1, fcOk K G1 x n q cnt nw (w, m, pl, tk, ow, P, pc, nx, bits, nb, rc, md) S (w, m, dpl, TK (tin S9 pc u i), D (tin S9 pc u i)) → fO x G G1 → ∀ a3, J K A E 4 G1 hs 0 0 9 [some (.ref x), some (.int (nI (32 - u))), some (.int (nI i)), a3] []) (pc) (fun i hi9 ih9 => ?_) ?_
          · intro hs
            intro G1 hc hO a3
            have hi12 : i < 12 := by omega
            have h32i := h32 i (by omega)
            refine j_iload_n hE (i := 2) dX5_placeAll_9 rfl rfl ?_
            refine j_aload_n hE (i := 0) dX5_placeAll_10 rfl rfl ?_
            refine j_get hE flX5_12 hc.f0 rfl dX5_placeAll_11 ?_
            refine j_get hE flX5_53 hc.g0 rfl dX5_placeAll_14 ?_
            refine j_ic_geN hE (tgt := 68) dX5_placeAll_17 (by decide) (by omega) (by omega) (fun h17 => ?_) (fun h17 => ?_)
            · exfalso; omega
            · refine j_aload_n hE (i := 0) dX5_placeAll_20 rfl rfl ?_
              refine j_get hE flX5_12 hc.f0 rfl dX5_placeAll_21 ?_
              refine j_get hE flX5_59 hc.g0 rfl dX5_placeAll_24 ?_
              refine j_iload_n hE (i := 2) dX5_placeAll_27 rfl rfl ?_
              refine j_par hE hc.g3 rfl (by omega) dX5_placeAll_28 ?_
              refine j_ast3 hE dX5_placeAll_29 rfl (by decide) rfl ?_
              refine j_aload_n hE (i := 3) dX5_placeAll_30 rfl rfl ?_
              refine j_aload_n hE (i := 0) dX5_placeAll_31 rfl rfl ?_
              refine j_get hE flX5_30 hc.f0 rfl dX5_placeAll_32 ?_
              refine j_get hE flX5_47 (hc.gd rfl) rfl dX5_placeAll_35 ?_
              refine j_cVi hE mlX5_91 (hc.gp0 hi12) (fun l hl => Ct.at ((st_pa hi12).trans hc.f3) (c_X2_samplesIn hl K _ _ _ _ _ _ _ _ _ _ _ _ _ _ hm9 (hr i (by omega)))) rfl rfl (Nat.le_of_ble_eq_true rfl) (by decide) (by decide) (by omega) (by omega) dX5_placeAll_38 (fun r G9 hs9 hp => ?_) (fun _ _ h => h.elim)
              obtain ⟨rfl, hp⟩ := hp
              have hp9 := hp.trans ((st_pa hi12).trans hc.f3)
              subst hp9
              rw [← hS9 i]
              refine j_iload_n hE (i := 1) dX5_placeAll_41 rfl rfl ?_
              refine j_ic_neN hE (tgt := 62) dX5_placeAll_42 (by decide) (by omega) (by omega) (fun h42 => ?_) (fun h42 => ?_)
              · have e7 : S9 i + u ≠ 32 := by omega
                rw [← tin_ne e7] at hc
                refine j_incN2 hE dX5_placeAll_62 (by decide) rfl ?_
                refine j_goto hE (tgt := 9) dX5_placeAll_65 (by decide) ?_
                exact ih9 _ _ hc hO _
              · have e8 : S9 i + u = 32 := by omega
                have hok9 := hok i (by omega) (Or.inl (by omega))
                have hTK9 := hTK i (by omega) (Or.inl (by omega))
                rw [← tin_rank e8] at hok9
                refine j_aload_n hE (i := 0) dX5_placeAll_45 rfl rfl ?_
                refine j_get hE flX5_30 hc.f0 rfl dX5_placeAll_46 ?_
                refine j_iload_n hE (i := 2) dX5_placeAll_49 rfl rfl ?_
                refine j_aload_n hE (i := 3) dX5_placeAll_50 rfl rfl ?_
                refine j_get hE flX5_203 (hc.gp0 hi12) rfl dX5_placeAll_51 ?_
                refine j_cVi hE mlX5_206 (hc.gd rfl) (fun l hl => Ct.at hc.f2 (c_X1_place_t hl K _ (x + 227) _ _ _ _ _ _ hw6 hw9 hm9 hm1 i _ _ hok9)) rfl rfl (Nat.le_of_ble_eq_true rfl) (by decide) (by decide) (by omega) (by omega) dX5_placeAll_54 (fun r G9 hs9 hp => ?_) (fun _ _ h => h.elim)
                obtain ⟨rfl, hp⟩ := hp
                have e5 : TK (tin S9 pc u (i + 1)) = TK (tin S9 pc u i) + sOf m (P i).1 := by rw [tin_eq (by omega) e8, tin_rank e8, hTK9, hS9 i]
                have e6 : tin S9 pc u (i + 1) = tin S9 pc u i + 1 := tin_eq (by omega) e8
                obtain ⟨hc, hO9⟩ := hc.dr (d' := (w, m, dpl, TK (tin S9 pc u i) + sOf m (P i).1, D (tin S9 pc u i + 1))) hp
                rw [← e5, ← e6] at hc
                replace hO := hO.tr hO9
                refine j_if_neN hE (tgt := 62) dX5_placeAll_57 (by decide) (by omega) (fun h57 => ?_) (fun h57 => ?_)
                · refine j_incN2 hE dX5_placeAll_62 (by decide) rfl ?_
                  refine j_goto hE (tgt := 9) dX5_placeAll_65 (by decide) ?_
                  exact ih9 _ _ hc hO _
                · exfalso; omega
          · intro hs
            intro G1 hc hO a3
            rw [tin_n] at hc
            refine j_iload_n hE (i := 2) dX5_placeAll_9 rfl rfl ?_
            refine j_aload_n hE (i := 0) dX5_placeAll_10 rfl rfl ?_
            refine j_get hE flX5_12 hc.f0 rfl dX5_placeAll_11 ?_
            refine j_get hE flX5_53 hc.g0 rfl dX5_placeAll_14 ?_
            refine j_ic_geN hE (tgt := 68) dX5_placeAll_17 (by decide) (by omega) (by omega) (fun h17 => ?_) (fun h17 => ?_)
            · refine j_inc1 hE dX5_placeAll_68 (s32_dec (by omega)) (by decide) rfl ?_
              refine j_goto hE (tgt := 3) dX5_placeAll_71 (by decide) ?_
              exact ih3 _ _ hc hO _ _
            · exfalso; omega
        exact key9 0 (by omega) _ _ (by rw [tin_0]; exact hc) hO _
    · intro hs
      intro G1 hc hO a2 a3
      rw [pk_sub (by omega)]
      refine j_iload_n hE (i := 1) dX5_placeAll_3 rfl rfl ?_
      refine j_if_lt hE (tgt := 74) dX5_placeAll_4 (by decide) (fun h4 => ?_) (fun h4 => ?_)
      · exact absurd h4 (nI_pos (by omega))
      · refine j_iconst hE (v := nI 0) dX5_placeAll_7 (by decide) ?_
        refine j_ist2 hE dX5_placeAll_8 rfl (by decide) rfl ?_
        have key9 : ∀ i, i ≤ pT → ∀ hs : Nat, ∀ G1, fcOk K G1 x n q cnt nw (w, m, pl, tk, ow, P, pc, nx, bits, nb, rc, md) S (w, m, dpl, TK (tin S9 pc u0 i), D (tin S9 pc u0 i)) → fO x G G1 → ∀ a3, J K A E 4 G1 hs 0 0 9 [some (.ref x), some (.int (nI (32 - u0))), some (.int (nI i)), a3] [] := by
          refine dloop (fun i => ∀ hs : Nat, ∀ G1, fcOk K G1 x n q cnt nw (w, m, pl, tk, ow, P, pc, nx, bits, nb, rc, md) S (w, m, dpl, TK (tin S9 pc u0 i), D (tin S9 pc u0 i)) → fO x G G1 → ∀ a3, J K A E 4 G1 hs 0 0 9 [some (.ref x), some (.int (nI (32 - u0))), some (.int (nI i)), a3] []) (pT) (fun i hi9 ih9 => ?_) ?_
          · intro hs
            intro G1 hc hO a3
            have hi12 : i < 12 := by omega
            have h32i := h32 i (by omega)
            refine j_iload_n hE (i := 2) dX5_placeAll_9 rfl rfl ?_
            refine j_aload_n hE (i := 0) dX5_placeAll_10 rfl rfl ?_
            refine j_get hE flX5_12 hc.f0 rfl dX5_placeAll_11 ?_
            refine j_get hE flX5_53 hc.g0 rfl dX5_placeAll_14 ?_
            refine j_ic_geN hE (tgt := 68) dX5_placeAll_17 (by decide) (by omega) (by omega) (fun h17 => ?_) (fun h17 => ?_)
            · exfalso; omega
            · refine j_aload_n hE (i := 0) dX5_placeAll_20 rfl rfl ?_
              refine j_get hE flX5_12 hc.f0 rfl dX5_placeAll_21 ?_
              refine j_get hE flX5_59 hc.g0 rfl dX5_placeAll_24 ?_
              refine j_iload_n hE (i := 2) dX5_placeAll_27 rfl rfl ?_
              refine j_par hE hc.g3 rfl (by omega) dX5_placeAll_28 ?_
              refine j_ast3 hE dX5_placeAll_29 rfl (by decide) rfl ?_
              refine j_aload_n hE (i := 3) dX5_placeAll_30 rfl rfl ?_
              refine j_aload_n hE (i := 0) dX5_placeAll_31 rfl rfl ?_
              refine j_get hE flX5_30 hc.f0 rfl dX5_placeAll_32 ?_
              refine j_get hE flX5_47 (hc.gd rfl) rfl dX5_placeAll_35 ?_
              refine j_cVi hE mlX5_91 (hc.gp0 hi12) (fun l hl => Ct.at ((st_pa hi12).trans hc.f3) (c_X2_samplesIn hl K _ _ _ _ _ _ _ _ _ _ _ _ _ _ hm9 (hr i (by omega)))) rfl rfl (Nat.le_of_ble_eq_true rfl) (by decide) (by decide) (by omega) (by omega) dX5_placeAll_38 (fun r G9 hs9 hp => ?_) (fun _ _ h => h.elim)
              obtain ⟨rfl, hp⟩ := hp
              have hp9 := hp.trans ((st_pa hi12).trans hc.f3)
              subst hp9
              rw [← hS9 i]
              refine j_iload_n hE (i := 1) dX5_placeAll_41 rfl rfl ?_
              refine j_ic_neN hE (tgt := 62) dX5_placeAll_42 (by decide) (by omega) (by omega) (fun h42 => ?_) (fun h42 => ?_)
              · have e7 : S9 i + u0 ≠ 32 := by omega
                rw [← tin_ne e7] at hc
                refine j_incN2 hE dX5_placeAll_62 (by decide) rfl ?_
                refine j_goto hE (tgt := 9) dX5_placeAll_65 (by decide) ?_
                exact ih9 _ _ hc hO _
              · have e8 : S9 i + u0 = 32 := by omega
                have hok9 := hok i (by omega) (Or.inr (by omega))
                have hTK9 := hTK i (by omega) (Or.inr (by omega))
                rw [← tin_rank e8] at hok9
                refine j_aload_n hE (i := 0) dX5_placeAll_45 rfl rfl ?_
                refine j_get hE flX5_30 hc.f0 rfl dX5_placeAll_46 ?_
                refine j_iload_n hE (i := 2) dX5_placeAll_49 rfl rfl ?_
                refine j_aload_n hE (i := 3) dX5_placeAll_50 rfl rfl ?_
                refine j_get hE flX5_203 (hc.gp0 hi12) rfl dX5_placeAll_51 ?_
                refine j_cVi hE mlX5_206 (hc.gd rfl) (fun l hl => Ct.at hc.f2 (c_X1_place_t hl K _ (x + 227) _ _ _ _ _ _ hw6 hw9 hm9 hm1 i _ _ hok9)) rfl rfl (Nat.le_of_ble_eq_true rfl) (by decide) (by decide) (by omega) (by omega) dX5_placeAll_54 (fun r G9 hs9 hp => ?_) (fun _ _ h => h.elim)
                obtain ⟨rfl, hp⟩ := hp
                have e5 : TK (tin S9 pc u0 (i + 1)) = TK (tin S9 pc u0 i) + sOf m (P i).1 := by rw [tin_eq (by omega) e8, tin_rank e8, hTK9, hS9 i]
                have e6 : tin S9 pc u0 (i + 1) = tin S9 pc u0 i + 1 := tin_eq (by omega) e8
                obtain ⟨hc, hO9⟩ := hc.dr (d' := (w, m, dpl, TK (tin S9 pc u0 i) + sOf m (P i).1, D (tin S9 pc u0 i + 1))) hp
                rw [← e5, ← e6] at hc
                replace hO := hO.tr hO9
                refine j_if_neN hE (tgt := 62) dX5_placeAll_57 (by decide) (by omega) (fun h57 => ?_) (fun h57 => ?_)
                · refine j_incN2 hE dX5_placeAll_62 (by decide) rfl ?_
                  refine j_goto hE (tgt := 9) dX5_placeAll_65 (by decide) ?_
                  exact ih9 _ _ hc hO _
                · exfalso; omega
          · intro hs
            intro G1 hc hO a3
            have hi12 : pT < 12 := by omega
            have h32i := h32 pT (by omega)
            refine j_iload_n hE (i := 2) dX5_placeAll_9 rfl rfl ?_
            refine j_aload_n hE (i := 0) dX5_placeAll_10 rfl rfl ?_
            refine j_get hE flX5_12 hc.f0 rfl dX5_placeAll_11 ?_
            refine j_get hE flX5_53 hc.g0 rfl dX5_placeAll_14 ?_
            refine j_ic_geN hE (tgt := 68) dX5_placeAll_17 (by decide) (by omega) (by omega) (fun h17 => ?_) (fun h17 => ?_)
            · exfalso; omega
            · refine j_aload_n hE (i := 0) dX5_placeAll_20 rfl rfl ?_
              refine j_get hE flX5_12 hc.f0 rfl dX5_placeAll_21 ?_
              refine j_get hE flX5_59 hc.g0 rfl dX5_placeAll_24 ?_
              refine j_iload_n hE (i := 2) dX5_placeAll_27 rfl rfl ?_
              refine j_par hE hc.g3 rfl (by omega) dX5_placeAll_28 ?_
              refine j_ast3 hE dX5_placeAll_29 rfl (by decide) rfl ?_
              refine j_aload_n hE (i := 3) dX5_placeAll_30 rfl rfl ?_
              refine j_aload_n hE (i := 0) dX5_placeAll_31 rfl rfl ?_
              refine j_get hE flX5_30 hc.f0 rfl dX5_placeAll_32 ?_
              refine j_get hE flX5_47 (hc.gd rfl) rfl dX5_placeAll_35 ?_
              refine j_cVi hE mlX5_91 (hc.gp0 hi12) (fun l hl => Ct.at ((st_pa hi12).trans hc.f3) (c_X2_samplesIn hl K _ _ _ _ _ _ _ _ _ _ _ _ _ _ hm9 (hr pT (by omega)))) rfl rfl (Nat.le_of_ble_eq_true rfl) (by decide) (by decide) (by omega) (by omega) dX5_placeAll_38 (fun r G9 hs9 hp => ?_) (fun _ _ h => h.elim)
              obtain ⟨rfl, hp⟩ := hp
              have hp9 := hp.trans ((st_pa hi12).trans hc.f3)
              subst hp9
              rw [← hS9 pT]
              refine j_iload_n hE (i := 1) dX5_placeAll_41 rfl rfl ?_
              refine j_ic_neN hE (tgt := 62) dX5_placeAll_42 (by decide) (by omega) (by omega) (fun h42 => ?_) (fun h42 => ?_)
              · exfalso; omega
              · have e8 : S9 pT + u0 = 32 := hu0
                have hno9 := hno
                rw [← tin_rank e8] at hno9
                refine j_aload_n hE (i := 0) dX5_placeAll_45 rfl rfl ?_
                refine j_get hE flX5_30 hc.f0 rfl dX5_placeAll_46 ?_
                refine j_iload_n hE (i := 2) dX5_placeAll_49 rfl rfl ?_
                refine j_aload_n hE (i := 3) dX5_placeAll_50 rfl rfl ?_
                refine j_get hE flX5_203 (hc.gp0 hi12) rfl dX5_placeAll_51 ?_
                refine j_cVi hE mlX5_206 (hc.gd rfl) (fun l hl => Ct.at hc.f2 (c_X1_place_f hl K _ (x + 227) _ _ _ _ _ _ hw6 hw9 hm9 pT _ hno9)) rfl rfl (Nat.le_of_ble_eq_true rfl) (by decide) (by decide) (by omega) (by omega) dX5_placeAll_54 (fun r G9 hs9 hp => ?_) (fun _ _ h => h.elim)
                obtain ⟨rfl, hp⟩ := hp
                have hp9 := hp.trans hc.f2
                subst hp9
                refine j_if_neN hE (tgt := 62) dX5_placeAll_57 (by decide) (by omega) (fun h57 => ?_) (fun h57 => ?_)
                · exfalso; omega
                · refine j_iload_n hE (i := 2) dX5_placeAll_60 rfl rfl ?_
                  refine j_iret hE hQ rfl (by omega) (by omega) dX5_placeAll_61 ?_
                  rw [tin_rank hu0] at hc
                  exact ⟨_, rfl, rfl, hc, hO⟩
        exact key9 0 (by omega) _ _ (by rw [tin_0]; exact hc) hO _
  exact key3 0 (by omega) _ _ (by rw [tou_0 h32]; exact hc) hO _ _

