/-! ===== the class: its calls ===== -/
theorem jgen {K : jK} {A : Nat → Prop} {E : jE} {nL : Nat} {G : GH} {hs cells slots pc : Nat} {lo : List (Option Value)} {st : List Value} (k : ∀ G1, G1 = G → J K A E nL G1 hs cells slots pc lo st) : J K A E nL G hs cells slots pc lo st := k _ rfl
theorem va_up_up {α : Type} (f : Nat → α) (j : Nat) (u v : α) : va_up (va_up f j u) j v = va_up f j v := by
  funext i
  by_cases h : i = j
  · subst h
    rw [va_up_self, va_up_self]
  · rw [va_up_ne _ _ h, va_up_ne _ _ h, va_up_ne _ _ h]
section FD
variable {K : jK} {G G' : GH} {x n : Nat} {q : Nat → Nat} {cnt nw w m : Nat} {pl : Bool} {tk : Nat} {ow : Nat → Int32} {P : Nat → PaV} {pc nx : Nat} {bits : Nat → Int32} {nb : Nat} {rc : RcV} {md : Nat} {S : Nat → StV} {d : LyV}
theorem fcOk.lf (h : fcOk K G x n q cnt nw (w, m, pl, tk, ow, P, pc, nx, bits, nb, rc, md) S d) (w2 m2 : Nat) (pl2 : Bool) (tk2 : Nat) (e : G' = gset G (n + 1) (.inr (1, [.int (nI w2), .int (nI m2), .int (jb pl2), .int (nI tk2), .ref (n + 1 + 1)]))) : fcOk K G' x n q cnt nw (w2, m2, pl2, tk2, ow, P, pc, nx, bits, nb, rc, md) S d ∧ fO x G G' := h.now h.f8 (e.trans ((congrArg (fun Q => gset Q (n + 1) _) h.f3.symm).trans (st_lf w2 m2 pl2 tk2)))
theorem fcOk.sf (h : fcOk K G x n q cnt nw (w, m, pl, tk, ow, P, pc, nx, bits, nb, rc, md) S d) (pc2 nx2 md2 : Nat) (e : G' = gset G n (.inr (4, [.ref (n + 1), .ref (n + 3), .int (nI pc2), .int (nI nx2), .ref (n + 4), .ref (n + 6), .int (nI md2)]))) : fcOk K G' x n q cnt nw (w, m, pl, tk, ow, P, pc2, nx2, bits, nb, rc, md2) S d ∧ fO x G G' := h.now h.f8 (e.trans ((congrArg (fun Q => gset Q n _) h.f3.symm).trans (st_set pc2 nx2 md2)))
theorem fcOk.pf (h : fcOk K G x n q cnt nw (w, m, pl, tk, ow, P, pc, nx, bits, nb, rc, md) S d) {j : Nat} (hj : j < 12) (ra va la ct pe : Int32) (al : Bool) (ou na : Int32) (e : G' = gset G (n + 9 + 3 * j) (.inr (2, [.int ra, .int va, .int la, .int ct, .ref (n + 9 + 3 * j + 1), .ref (n + 9 + 3 * j + 2), .int pe, .int (jb al), .int ou, .int na]))) : fcOk K G' x n q cnt nw (w, m, pl, tk, ow, va_up P j (ra, va, la, ct, (P j).2.2.2.2.1, (P j).2.2.2.2.2.1, pe, al, ou, na), pc, nx, bits, nb, rc, md) S d ∧ fO x G G' := h.now h.f8 (e.trans ((congrArg (fun Q => gset Q (n + 9 + 3 * j) _) h.f3.symm).trans (st_pb hj (i := 0) (by omega) (ra, va, la, ct, (P j).2.2.2.2.1, (P j).2.2.2.2.2.1, pe, al, ou, na) rfl)))
theorem fcOk.p1 (h : fcOk K G x n q cnt nw (w, m, pl, tk, ow, P, pc, nx, bits, nb, rc, md) S d) {j : Nat} (hj : j < 12) (lw : Nat → Int32) (e : G' = gset G (n + 9 + 3 * j + 1) (iA K 3 lw)) : fcOk K G' x n q cnt nw (w, m, pl, tk, ow, va_up P j ((P j).1, (P j).2.1, (P j).2.2.1, (P j).2.2.2.1, lw, (P j).2.2.2.2.2), pc, nx, bits, nb, rc, md) S d ∧ fO x G G' := h.now h.f8 (e.trans ((congrArg (fun Q => gset Q (n + 9 + 3 * j + 1) _) h.f3.symm).trans (st_pb hj (i := 1) (by omega) ((P j).1, (P j).2.1, (P j).2.2.1, (P j).2.2.2.1, lw, (P j).2.2.2.2.2) rfl)))
theorem fcOk.p2 (h : fcOk K G x n q cnt nw (w, m, pl, tk, ow, P, pc, nx, bits, nb, rc, md) S d) {j : Nat} (hj : j < 12) (hg : Nat → Int32) (e : G' = gset G (n + 9 + 3 * j + 2) (iA K 3 hg)) : fcOk K G' x n q cnt nw (w, m, pl, tk, ow, va_up P j ((P j).1, (P j).2.1, (P j).2.2.1, (P j).2.2.2.1, (P j).2.2.2.2.1, hg, (P j).2.2.2.2.2.2), pc, nx, bits, nb, rc, md) S d ∧ fO x G G' := h.now h.f8 (e.trans ((congrArg (fun Q => gset Q (n + 9 + 3 * j + 2) _) h.f3.symm).trans (st_pb hj (i := 2) (by omega) ((P j).1, (P j).2.1, (P j).2.2.1, (P j).2.2.2.1, (P j).2.2.2.2.1, hg, (P j).2.2.2.2.2.2) rfl)))
end FD
abbrev mOk (m : Nat) : Prop := m = 1 ∨ m = 2 ∨ m = 4 ∨ m = 8
set_option maxRecDepth 100000 in
set_option maxHeartbeats 4000000 in
theorem c_X5_setFrame_t {l : Launch} (hl : l.stackTraces = false) (K : jK) (G : GH) (x hs n : Nat) (q : Nat → Nat) (cnt nw w m : Nat) (pl : Bool) (tk : Nat) (ow : Nat → Int32) (P : Nat → PaV) (pc nx : Nat) (bits : Nat → Int32) (nb : Nat) (rc : RcV) (md : Nat) (S : Nat → StV) (d : LyV) (hc : fcOk K G x n q cnt nw (w, m, pl, tk, ow, P, pc, nx, bits, nb, rc, md) S d) (hpc : pc ≤ 12) (w2 m2 : Nat) (hw6 : 6 ≤ w2) (hw9 : w2 ≤ 16) (hm : mOk m2) : Ct l K yX5_setFrame cX5_setFrame 3 (some .int) 7 102 2 12 [.ref x, .int (nI w2), .int (nI m2)] G hs (pI (fun z9 G' _ => z9 = nI (w2 * m2) ∧ fcOk K G' x n q (sC cnt) ((nw + 1) % 4) (w2, m2, false, tk, ow, P, pc, 0, bits, 0, (nI 0, nI 0, rc.2.2.1, rc.2.2.2.1, rc.2.2.2.2.1, nI 0), md) (svS S nw (w, m, pl, tk, ow, P, pc, nx, bits, nb, rc, md)) d ∧ fO x G G')) jno := by
  refine Ct.ofA hl (by decide) (Nat.le_of_ble_eq_true rfl) (L0 := [some (.ref x), some (.int (nI w2)), some (.int (nI m2))]) (jL_of 0 rfl) ?_
  intro A E hE hQ hX hNm
  have hO : fO x G G := fO.rf
  have hnb : nb ≤ 2048 := hc.f8
  have hm9 : m2 ≤ 8 := by omega
  refine j_iload_n hE (i := 1) dX5_setFrame_0 rfl rfl ?_
  refine j_bipush hE (v := nI 6) dX5_setFrame_1 (by decide) ?_
  refine j_ic_ltN hE (tgt := 16) dX5_setFrame_3 (by decide) (by omega) (by omega) (fun h3 => ?_) (fun h3 => ?_)
  · exfalso; omega
  · refine j_iload_n hE (i := 1) dX5_setFrame_6 rfl rfl ?_
    refine j_bipush hE (v := nI 16) dX5_setFrame_7 (by decide) ?_
    refine j_ic_gtN hE (tgt := 16) dX5_setFrame_9 (by decide) (by omega) (by omega) (fun h9 => ?_) (fun h9 => ?_)
    · exfalso; omega
    · refine j_iconst hE (v := nI 1) dX5_setFrame_12 (by decide) ?_
      refine j_goto hE (tgt := 17) dX5_setFrame_13 (by decide) ?_
      refine j_cSv hE mlX5_34 (fun l hl => c_X5_requireArgument_t hl K _ _) rfl rfl (Nat.le_of_ble_eq_true rfl) (by decide) (by decide) (by omega) (by omega) dX5_setFrame_17 (fun G9 hs9 hp => ?_) (fun _ _ h => h.elim)
      subst hp
      refine j_iload_n hE (i := 2) dX5_setFrame_20 rfl rfl ?_
      refine j_iconst hE (v := nI 1) dX5_setFrame_21 (by decide) ?_
      refine j_ic_eqN hE (tgt := 41) dX5_setFrame_22 (by decide) (by omega) (by omega) (fun h22 => ?_) (fun h22 => ?_)
      · refine j_iconst hE (v := nI 1) dX5_setFrame_41 (by decide) ?_
        refine j_goto hE (tgt := 46) dX5_setFrame_42 (by decide) ?_
        refine j_cSv hE mlX5_34 (fun l hl => c_X5_requireArgument_t hl K _ _) rfl rfl (Nat.le_of_ble_eq_true rfl) (by decide) (by decide) (by omega) (by omega) dX5_setFrame_46 (fun G9 hs9 hp => ?_) (fun _ _ h => h.elim)
        subst hp
        refine j_aload_n hE (i := 0) dX5_setFrame_49 rfl rfl ?_
        refine j_cVv hE mlX5_38 hc.f0 (fun l hl => c_X5_save hl K _ _ _ _ _ _ _ _ _ _ _ _ _ _ _ _ _ _ _ _ _ hc hpc) rfl rfl (Nat.le_of_ble_eq_true rfl) (by decide) (by decide) (by omega) (by omega) dX5_setFrame_50 (fun G9 hs9 hp => ?_) (fun _ _ h => h.elim)
        obtain ⟨hc, hO9⟩ := hp
        replace hO := hO.tr hO9
        refine j_aload_n hE (i := 0) dX5_setFrame_53 rfl rfl ?_
        refine j_get hE flX5_12 hc.f0 rfl dX5_setFrame_54 ?_
        refine j_get hE flX5_41 (hc.g st_0) rfl dX5_setFrame_57 ?_
        refine j_iload_n hE (i := 1) dX5_setFrame_60 rfl rfl ?_
        refine j_put hE flX5_44 (hc.g st_1) rfl rfl (by simp only [List.length_cons, List.length_nil]; omega) dX5_setFrame_61 ?_
        refine jgen (fun G8 hG8 => ?_)
        obtain ⟨hc, hO9⟩ := hc.lf w2 m pl tk hG8
        replace hO := hO.tr hO9
        refine j_aload_n hE (i := 0) dX5_setFrame_64 rfl rfl ?_
        refine j_get hE flX5_12 hc.f0 rfl dX5_setFrame_65 ?_
        refine j_get hE flX5_41 (hc.g st_0) rfl dX5_setFrame_68 ?_
        refine j_iload_n hE (i := 2) dX5_setFrame_71 rfl rfl ?_
        refine j_put hE flX5_47 (hc.g st_1) rfl rfl (by simp only [List.length_cons, List.length_nil]; omega) dX5_setFrame_72 ?_
        refine jgen (fun G8 hG8 => ?_)
        obtain ⟨hc, hO9⟩ := hc.lf w2 m2 pl tk hG8
        replace hO := hO.tr hO9
        refine j_aload_n hE (i := 0) dX5_setFrame_75 rfl rfl ?_
        refine j_get hE flX5_12 hc.f0 rfl dX5_setFrame_76 ?_
        refine j_cVv hE mlX5_50 (hc.g st_0) (fun l hl => Ct.at hc.f3 (c_X4_restartLink hl K _ n _ _ _ _ _ _ _ _ _ _ _ _ _)) rfl rfl (Nat.le_of_ble_eq_true rfl) (by decide) (by decide) (by omega) (by omega) dX5_setFrame_79 (fun G9 hs9 hp => ?_) (fun _ _ h => h.elim)
        obtain ⟨hc, hO9⟩ := hc.now (s' := (w2, m2, false, tk, ow, P, pc, 0, bits, 0, (nI 0, nI 0, rc.2.2.1, rc.2.2.2.1, rc.2.2.2.2.1, nI 0), md)) (Nat.zero_le _) hp
        replace hO := hO.tr hO9
        refine j_iload_n hE (i := 1) dX5_setFrame_82 rfl rfl ?_
        refine j_iload_n hE (i := 2) dX5_setFrame_83 rfl rfl ?_
        refine j_imulN hE dX5_setFrame_84 ?_
        refine j_iret hE hQ rfl (by omega) (by omega) dX5_setFrame_85 ?_
        exact ⟨_, rfl, rfl, hc, hO⟩
      · refine j_iload_n hE (i := 2) dX5_setFrame_25 rfl rfl ?_
        refine j_iconst hE (v := nI 2) dX5_setFrame_26 (by decide) ?_
        refine j_ic_eqN hE (tgt := 41) dX5_setFrame_27 (by decide) (by omega) (by omega) (fun h27 => ?_) (fun h27 => ?_)
        · refine j_iconst hE (v := nI 1) dX5_setFrame_41 (by decide) ?_
          refine j_goto hE (tgt := 46) dX5_setFrame_42 (by decide) ?_
          refine j_cSv hE mlX5_34 (fun l hl => c_X5_requireArgument_t hl K _ _) rfl rfl (Nat.le_of_ble_eq_true rfl) (by decide) (by decide) (by omega) (by omega) dX5_setFrame_46 (fun G9 hs9 hp => ?_) (fun _ _ h => h.elim)
          subst hp
          refine j_aload_n hE (i := 0) dX5_setFrame_49 rfl rfl ?_
          refine j_cVv hE mlX5_38 hc.f0 (fun l hl => c_X5_save hl K _ _ _ _ _ _ _ _ _ _ _ _ _ _ _ _ _ _ _ _ _ hc hpc) rfl rfl (Nat.le_of_ble_eq_true rfl) (by decide) (by decide) (by omega) (by omega) dX5_setFrame_50 (fun G9 hs9 hp => ?_) (fun _ _ h => h.elim)
          obtain ⟨hc, hO9⟩ := hp
          replace hO := hO.tr hO9
          refine j_aload_n hE (i := 0) dX5_setFrame_53 rfl rfl ?_
          refine j_get hE flX5_12 hc.f0 rfl dX5_setFrame_54 ?_
          refine j_get hE flX5_41 (hc.g st_0) rfl dX5_setFrame_57 ?_
          refine j_iload_n hE (i := 1) dX5_setFrame_60 rfl rfl ?_
          refine j_put hE flX5_44 (hc.g st_1) rfl rfl (by simp only [List.length_cons, List.length_nil]; omega) dX5_setFrame_61 ?_
          refine jgen (fun G8 hG8 => ?_)
          obtain ⟨hc, hO9⟩ := hc.lf w2 m pl tk hG8
          replace hO := hO.tr hO9
          refine j_aload_n hE (i := 0) dX5_setFrame_64 rfl rfl ?_
          refine j_get hE flX5_12 hc.f0 rfl dX5_setFrame_65 ?_
          refine j_get hE flX5_41 (hc.g st_0) rfl dX5_setFrame_68 ?_
          refine j_iload_n hE (i := 2) dX5_setFrame_71 rfl rfl ?_
          refine j_put hE flX5_47 (hc.g st_1) rfl rfl (by simp only [List.length_cons, List.length_nil]; omega) dX5_setFrame_72 ?_
          refine jgen (fun G8 hG8 => ?_)
          obtain ⟨hc, hO9⟩ := hc.lf w2 m2 pl tk hG8
          replace hO := hO.tr hO9
          refine j_aload_n hE (i := 0) dX5_setFrame_75 rfl rfl ?_
          refine j_get hE flX5_12 hc.f0 rfl dX5_setFrame_76 ?_
          refine j_cVv hE mlX5_50 (hc.g st_0) (fun l hl => Ct.at hc.f3 (c_X4_restartLink hl K _ n _ _ _ _ _ _ _ _ _ _ _ _ _)) rfl rfl (Nat.le_of_ble_eq_true rfl) (by decide) (by decide) (by omega) (by omega) dX5_setFrame_79 (fun G9 hs9 hp => ?_) (fun _ _ h => h.elim)
          obtain ⟨hc, hO9⟩ := hc.now (s' := (w2, m2, false, tk, ow, P, pc, 0, bits, 0, (nI 0, nI 0, rc.2.2.1, rc.2.2.2.1, rc.2.2.2.2.1, nI 0), md)) (Nat.zero_le _) hp
          replace hO := hO.tr hO9
          refine j_iload_n hE (i := 1) dX5_setFrame_82 rfl rfl ?_
          refine j_iload_n hE (i := 2) dX5_setFrame_83 rfl rfl ?_
          refine j_imulN hE dX5_setFrame_84 ?_
          refine j_iret hE hQ rfl (by omega) (by omega) dX5_setFrame_85 ?_
          exact ⟨_, rfl, rfl, hc, hO⟩
        · refine j_iload_n hE (i := 2) dX5_setFrame_30 rfl rfl ?_
          refine j_iconst hE (v := nI 4) dX5_setFrame_31 (by decide) ?_
          refine j_ic_eqN hE (tgt := 41) dX5_setFrame_32 (by decide) (by omega) (by omega) (fun h32 => ?_) (fun h32 => ?_)
          · refine j_iconst hE (v := nI 1) dX5_setFrame_41 (by decide) ?_
            refine j_goto hE (tgt := 46) dX5_setFrame_42 (by decide) ?_
            refine j_cSv hE mlX5_34 (fun l hl => c_X5_requireArgument_t hl K _ _) rfl rfl (Nat.le_of_ble_eq_true rfl) (by decide) (by decide) (by omega) (by omega) dX5_setFrame_46 (fun G9 hs9 hp => ?_) (fun _ _ h => h.elim)
            subst hp
            refine j_aload_n hE (i := 0) dX5_setFrame_49 rfl rfl ?_
            refine j_cVv hE mlX5_38 hc.f0 (fun l hl => c_X5_save hl K _ _ _ _ _ _ _ _ _ _ _ _ _ _ _ _ _ _ _ _ _ hc hpc) rfl rfl (Nat.le_of_ble_eq_true rfl) (by decide) (by decide) (by omega) (by omega) dX5_setFrame_50 (fun G9 hs9 hp => ?_) (fun _ _ h => h.elim)
            obtain ⟨hc, hO9⟩ := hp
            replace hO := hO.tr hO9
            refine j_aload_n hE (i := 0) dX5_setFrame_53 rfl rfl ?_
            refine j_get hE flX5_12 hc.f0 rfl dX5_setFrame_54 ?_
            refine j_get hE flX5_41 (hc.g st_0) rfl dX5_setFrame_57 ?_
            refine j_iload_n hE (i := 1) dX5_setFrame_60 rfl rfl ?_
            refine j_put hE flX5_44 (hc.g st_1) rfl rfl (by simp only [List.length_cons, List.length_nil]; omega) dX5_setFrame_61 ?_
            refine jgen (fun G8 hG8 => ?_)
            obtain ⟨hc, hO9⟩ := hc.lf w2 m pl tk hG8
            replace hO := hO.tr hO9
            refine j_aload_n hE (i := 0) dX5_setFrame_64 rfl rfl ?_
            refine j_get hE flX5_12 hc.f0 rfl dX5_setFrame_65 ?_
            refine j_get hE flX5_41 (hc.g st_0) rfl dX5_setFrame_68 ?_
            refine j_iload_n hE (i := 2) dX5_setFrame_71 rfl rfl ?_
            refine j_put hE flX5_47 (hc.g st_1) rfl rfl (by simp only [List.length_cons, List.length_nil]; omega) dX5_setFrame_72 ?_
            refine jgen (fun G8 hG8 => ?_)
            obtain ⟨hc, hO9⟩ := hc.lf w2 m2 pl tk hG8
            replace hO := hO.tr hO9
            refine j_aload_n hE (i := 0) dX5_setFrame_75 rfl rfl ?_
            refine j_get hE flX5_12 hc.f0 rfl dX5_setFrame_76 ?_
            refine j_cVv hE mlX5_50 (hc.g st_0) (fun l hl => Ct.at hc.f3 (c_X4_restartLink hl K _ n _ _ _ _ _ _ _ _ _ _ _ _ _)) rfl rfl (Nat.le_of_ble_eq_true rfl) (by decide) (by decide) (by omega) (by omega) dX5_setFrame_79 (fun G9 hs9 hp => ?_) (fun _ _ h => h.elim)
            obtain ⟨hc, hO9⟩ := hc.now (s' := (w2, m2, false, tk, ow, P, pc, 0, bits, 0, (nI 0, nI 0, rc.2.2.1, rc.2.2.2.1, rc.2.2.2.2.1, nI 0), md)) (Nat.zero_le _) hp
            replace hO := hO.tr hO9
            refine j_iload_n hE (i := 1) dX5_setFrame_82 rfl rfl ?_
            refine j_iload_n hE (i := 2) dX5_setFrame_83 rfl rfl ?_
            refine j_imulN hE dX5_setFrame_84 ?_
            refine j_iret hE hQ rfl (by omega) (by omega) dX5_setFrame_85 ?_
            exact ⟨_, rfl, rfl, hc, hO⟩
          · refine j_iload_n hE (i := 2) dX5_setFrame_35 rfl rfl ?_
            refine j_bipush hE (v := nI 8) dX5_setFrame_36 (by decide) ?_
            refine j_ic_neN hE (tgt := 45) dX5_setFrame_38 (by decide) (by omega) (by omega) (fun h38 => ?_) (fun h38 => ?_)
            · exfalso; omega
            · refine j_iconst hE (v := nI 1) dX5_setFrame_41 (by decide) ?_
              refine j_goto hE (tgt := 46) dX5_setFrame_42 (by decide) ?_
              refine j_cSv hE mlX5_34 (fun l hl => c_X5_requireArgument_t hl K _ _) rfl rfl (Nat.le_of_ble_eq_true rfl) (by decide) (by decide) (by omega) (by omega) dX5_setFrame_46 (fun G9 hs9 hp => ?_) (fun _ _ h => h.elim)
              subst hp
              refine j_aload_n hE (i := 0) dX5_setFrame_49 rfl rfl ?_
              refine j_cVv hE mlX5_38 hc.f0 (fun l hl => c_X5_save hl K _ _ _ _ _ _ _ _ _ _ _ _ _ _ _ _ _ _ _ _ _ hc hpc) rfl rfl (Nat.le_of_ble_eq_true rfl) (by decide) (by decide) (by omega) (by omega) dX5_setFrame_50 (fun G9 hs9 hp => ?_) (fun _ _ h => h.elim)
              obtain ⟨hc, hO9⟩ := hp
              replace hO := hO.tr hO9
              refine j_aload_n hE (i := 0) dX5_setFrame_53 rfl rfl ?_
              refine j_get hE flX5_12 hc.f0 rfl dX5_setFrame_54 ?_
              refine j_get hE flX5_41 (hc.g st_0) rfl dX5_setFrame_57 ?_
              refine j_iload_n hE (i := 1) dX5_setFrame_60 rfl rfl ?_
              refine j_put hE flX5_44 (hc.g st_1) rfl rfl (by simp only [List.length_cons, List.length_nil]; omega) dX5_setFrame_61 ?_
              refine jgen (fun G8 hG8 => ?_)
              obtain ⟨hc, hO9⟩ := hc.lf w2 m pl tk hG8
              replace hO := hO.tr hO9
              refine j_aload_n hE (i := 0) dX5_setFrame_64 rfl rfl ?_
              refine j_get hE flX5_12 hc.f0 rfl dX5_setFrame_65 ?_
              refine j_get hE flX5_41 (hc.g st_0) rfl dX5_setFrame_68 ?_
              refine j_iload_n hE (i := 2) dX5_setFrame_71 rfl rfl ?_
              refine j_put hE flX5_47 (hc.g st_1) rfl rfl (by simp only [List.length_cons, List.length_nil]; omega) dX5_setFrame_72 ?_
              refine jgen (fun G8 hG8 => ?_)
              obtain ⟨hc, hO9⟩ := hc.lf w2 m2 pl tk hG8
              replace hO := hO.tr hO9
              refine j_aload_n hE (i := 0) dX5_setFrame_75 rfl rfl ?_
              refine j_get hE flX5_12 hc.f0 rfl dX5_setFrame_76 ?_
              refine j_cVv hE mlX5_50 (hc.g st_0) (fun l hl => Ct.at hc.f3 (c_X4_restartLink hl K _ n _ _ _ _ _ _ _ _ _ _ _ _ _)) rfl rfl (Nat.le_of_ble_eq_true rfl) (by decide) (by decide) (by omega) (by omega) dX5_setFrame_79 (fun G9 hs9 hp => ?_) (fun _ _ h => h.elim)
              obtain ⟨hc, hO9⟩ := hc.now (s' := (w2, m2, false, tk, ow, P, pc, 0, bits, 0, (nI 0, nI 0, rc.2.2.1, rc.2.2.2.1, rc.2.2.2.2.1, nI 0), md)) (Nat.zero_le _) hp
              replace hO := hO.tr hO9
              refine j_iload_n hE (i := 1) dX5_setFrame_82 rfl rfl ?_
              refine j_iload_n hE (i := 2) dX5_setFrame_83 rfl rfl ?_
              refine j_imulN hE dX5_setFrame_84 ?_
              refine j_iret hE hQ rfl (by omega) (by omega) dX5_setFrame_85 ?_
              exact ⟨_, rfl, rfl, hc, hO⟩

set_option maxRecDepth 100000 in
set_option maxHeartbeats 4000000 in
theorem c_X5_setFrame_f1 {l : Launch} (hl : l.stackTraces = false) (K : jK) (G : GH) (x hs n : Nat) (q : Nat → Nat) (cnt nw w m : Nat) (pl : Bool) (tk : Nat) (ow : Nat → Int32) (P : Nat → PaV) (pc nx : Nat) (bits : Nat → Int32) (nb : Nat) (rc : RcV) (md : Nat) (S : Nat → StV) (d : LyV) (hc : fcOk K G x n q cnt nw (w, m, pl, tk, ow, P, pc, nx, bits, nb, rc, md) S d) (hpc : pc ≤ 12) (p r : Int32) (hp : ∀ j, 6 ≤ j → j ≤ 16 → p ≠ nI j) : Ct l K yX5_setFrame cX5_setFrame 3 (some .int) 7 102 2 12 [.ref x, .int p, .int r] G hs (pI (fun _ _ _ => False)) (fun X G' => X = jIA ∧ G' = G) := by
  refine Ct.ofA hl (by decide) (Nat.le_of_ble_eq_true rfl) (L0 := [some (.ref x), some (.int p), some (.int r)]) (jL_of 0 rfl) ?_
  intro A E hE hQ hX hNm
  have hO : fO x G G := fO.rf
  have hnb : nb ≤ 2048 := hc.f8
  refine j_iload_n hE (i := 1) dX5_setFrame_0 rfl rfl ?_
  refine j_bipush hE (v := nI 6) dX5_setFrame_1 (by decide) ?_
  refine j_ic_lt hE (tgt := 16) dX5_setFrame_3 (by decide) (fun h3 => ?_) (fun h3 => ?_)
  · refine j_iconst hE (v := nI 0) dX5_setFrame_16 (by decide) ?_
    refine j_cSv hE mlX5_34 (fun l hl => c_X5_requireArgument_f hl K _ _) rfl rfl (Nat.le_of_ble_eq_true rfl) (by decide) (by decide) (by omega) (by omega) dX5_setFrame_17 (fun G9 hs9 hp => ?_) (fun X G9 h => by obtain ⟨rfl, rfl⟩ := h; exact j_out hE hX hQ (by omega) (by omega) ⟨rfl, rfl⟩)
    exact hp.elim
  · refine j_iload_n hE (i := 1) dX5_setFrame_6 rfl rfl ?_
    refine j_bipush hE (v := nI 16) dX5_setFrame_7 (by decide) ?_
    refine j_ic_gt hE (tgt := 16) dX5_setFrame_9 (by decide) (fun h9 => ?_) (fun h9 => ?_)
    · refine j_iconst hE (v := nI 0) dX5_setFrame_16 (by decide) ?_
      refine j_cSv hE mlX5_34 (fun l hl => c_X5_requireArgument_f hl K _ _) rfl rfl (Nat.le_of_ble_eq_true rfl) (by decide) (by decide) (by omega) (by omega) dX5_setFrame_17 (fun G9 hs9 hp => ?_) (fun X G9 h => by obtain ⟨rfl, rfl⟩ := h; exact j_out hE hX hQ (by omega) (by omega) ⟨rfl, rfl⟩)
      exact hp.elim
    · exact absurd (And.intro (Int32.not_lt.mp h3) (Int32.not_lt.mp h9)) (rg_f hp (by omega) (by omega))

set_option maxRecDepth 100000 in
set_option maxHeartbeats 4000000 in
theorem c_X5_setFrame_f2 {l : Launch} (hl : l.stackTraces = false) (K : jK) (G : GH) (x hs n : Nat) (q : Nat → Nat) (cnt nw w m : Nat) (pl : Bool) (tk : Nat) (ow : Nat → Int32) (P : Nat → PaV) (pc nx : Nat) (bits : Nat → Int32) (nb : Nat) (rc : RcV) (md : Nat) (S : Nat → StV) (d : LyV) (hc : fcOk K G x n q cnt nw (w, m, pl, tk, ow, P, pc, nx, bits, nb, rc, md) S d) (hpc : pc ≤ 12) (w2 : Nat) (r : Int32) (hw6 : 6 ≤ w2) (hw9 : w2 ≤ 16) (hp : ∀ j, mOk j → r ≠ nI j) : Ct l K yX5_setFrame cX5_setFrame 3 (some .int) 7 102 2 12 [.ref x, .int (nI w2), .int r] G hs (pI (fun _ _ _ => False)) (fun X G' => X = jIA ∧ G' = G) := by
  refine Ct.ofA hl (by decide) (Nat.le_of_ble_eq_true rfl) (L0 := [some (.ref x), some (.int (nI w2)), some (.int r)]) (jL_of 0 rfl) ?_
  intro A E hE hQ hX hNm
  have hO : fO x G G := fO.rf
  have hnb : nb ≤ 2048 := hc.f8
  refine j_iload_n hE (i := 1) dX5_setFrame_0 rfl rfl ?_
  refine j_bipush hE (v := nI 6) dX5_setFrame_1 (by decide) ?_
  refine j_ic_ltN hE (tgt := 16) dX5_setFrame_3 (by decide) (by omega) (by omega) (fun h3 => ?_) (fun h3 => ?_)
  · exfalso; omega
  · refine j_iload_n hE (i := 1) dX5_setFrame_6 rfl rfl ?_
    refine j_bipush hE (v := nI 16) dX5_setFrame_7 (by decide) ?_
    refine j_ic_gtN hE (tgt := 16) dX5_setFrame_9 (by decide) (by omega) (by omega) (fun h9 => ?_) (fun h9 => ?_)
    · exfalso; omega
    · refine j_iconst hE (v := nI 1) dX5_setFrame_12 (by decide) ?_
      refine j_goto hE (tgt := 17) dX5_setFrame_13 (by decide) ?_
      refine j_cSv hE mlX5_34 (fun l hl => c_X5_requireArgument_t hl K _ _) rfl rfl (Nat.le_of_ble_eq_true rfl) (by decide) (by decide) (by omega) (by omega) dX5_setFrame_17 (fun G9 hs9 hp => ?_) (fun _ _ h => h.elim)
      subst hp
      refine j_iload_n hE (i := 2) dX5_setFrame_20 rfl rfl ?_
      refine j_iconst hE (v := nI 1) dX5_setFrame_21 (by decide) ?_
      refine j_ic_eq hE (tgt := 41) dX5_setFrame_22 (by decide) (fun h22 => ?_) (fun h22 => ?_)
      · exact absurd h22 (hp 1 (by omega))
      · refine j_iload_n hE (i := 2) dX5_setFrame_25 rfl rfl ?_
        refine j_iconst hE (v := nI 2) dX5_setFrame_26 (by decide) ?_
        refine j_ic_eq hE (tgt := 41) dX5_setFrame_27 (by decide) (fun h27 => ?_) (fun h27 => ?_)
        · exact absurd h27 (hp 2 (by omega))
        · refine j_iload_n hE (i := 2) dX5_setFrame_30 rfl rfl ?_
          refine j_iconst hE (v := nI 4) dX5_setFrame_31 (by decide) ?_
          refine j_ic_eq hE (tgt := 41) dX5_setFrame_32 (by decide) (fun h32 => ?_) (fun h32 => ?_)
          · exact absurd h32 (hp 4 (by omega))
          · refine j_iload_n hE (i := 2) dX5_setFrame_35 rfl rfl ?_
            refine j_bipush hE (v := nI 8) dX5_setFrame_36 (by decide) ?_
            refine j_ic_ne hE (tgt := 45) dX5_setFrame_38 (by decide) (fun h38 => ?_) (fun h38 => ?_)
            · refine j_iconst hE (v := nI 0) dX5_setFrame_45 (by decide) ?_
              refine j_cSv hE mlX5_34 (fun l hl => c_X5_requireArgument_f hl K _ _) rfl rfl (Nat.le_of_ble_eq_true rfl) (by decide) (by decide) (by omega) (by omega) dX5_setFrame_46 (fun G9 hs9 hp => ?_) (fun X G9 h => by obtain ⟨rfl, rfl⟩ := h; exact j_out hE hX hQ (by omega) (by omega) ⟨rfl, rfl⟩)
              exact hp.elim
            · exact absurd h38 (hp 8 (by omega))

set_option maxRecDepth 100000 in
set_option maxHeartbeats 4000000 in
theorem c_X5_pending {l : Launch} (hl : l.stackTraces = false) (K : jK) (G : GH) (x hs n : Nat) (q : Nat → Nat) (cnt nw w m : Nat) (pl : Bool) (tk : Nat) (ow : Nat → Int32) (P : Nat → PaV) (pc nx : Nat) (bits : Nat → Int32) (nb : Nat) (rc : RcV) (md : Nat) (S : Nat → StV) (d : LyV) (hc : fcOk K G x n q cnt nw (w, m, pl, tk, ow, P, pc, nx, bits, nb, rc, md) S d) (hpc : pc ≤ 12)  : Ct l K yX5_pending cX5_pending 1 (some .int) 0 0 0 0 [.ref x] G hs (pI (fun z9 G' _ => z9 = nI nb ∧ G' = G)) jno := by
  refine Ct.ofA hl (by decide) (Nat.le_of_ble_eq_true rfl) (L0 := [some (.ref x)]) (jL_of 0 rfl) ?_
  intro A E hE hQ hX hNm
  have hO : fO x G G := fO.rf
  have hnb : nb ≤ 2048 := hc.f8
  refine j_aload_n hE (i := 0) dX5_pending_0 rfl rfl ?_
  refine j_get hE flX5_12 hc.f0 rfl dX5_pending_1 ?_
  refine j_get hE flX5_109 (hc.g st_0) rfl dX5_pending_4 ?_
  refine j_get hE flX5_113 (hc.g st_4) rfl dX5_pending_7 ?_
  refine j_iret hE hQ rfl (by omega) (by omega) dX5_pending_10 ?_
  exact ⟨_, rfl, rfl, rfl⟩

set_option maxRecDepth 100000 in
set_option maxHeartbeats 4000000 in
theorem c_X5_receiverState {l : Launch} (hl : l.stackTraces = false) (K : jK) (G : GH) (x hs n : Nat) (q : Nat → Nat) (cnt nw w m : Nat) (pl : Bool) (tk : Nat) (ow : Nat → Int32) (P : Nat → PaV) (pc nx : Nat) (bits : Nat → Int32) (nb : Nat) (rc : RcV) (md : Nat) (S : Nat → StV) (d : LyV) (hc : fcOk K G x n q cnt nw (w, m, pl, tk, ow, P, pc, nx, bits, nb, rc, md) S d) (hpc : pc ≤ 12)  : Ct l K yX5_receiverState cX5_receiverState 1 (some .int) 0 0 0 0 [.ref x] G hs (pI (fun z9 G' _ => z9 = rc.1 ∧ G' = G)) jno := by
  refine Ct.ofA hl (by decide) (Nat.le_of_ble_eq_true rfl) (L0 := [some (.ref x)]) (jL_of 0 rfl) ?_
  intro A E hE hQ hX hNm
  have hO : fO x G G := fO.rf
  have hnb : nb ≤ 2048 := hc.f8
  refine j_aload_n hE (i := 0) dX5_receiverState_0 rfl rfl ?_
  refine j_get hE flX5_12 hc.f0 rfl dX5_receiverState_1 ?_
  refine j_get hE flX5_134 (hc.g st_0) rfl dX5_receiverState_4 ?_
  refine j_get hE flX5_146 (hc.g st_6) rfl dX5_receiverState_7 ?_
  refine j_iret hE hQ rfl (by omega) (by omega) dX5_receiverState_10 ?_
  exact ⟨_, rfl, rfl, rfl⟩

set_option maxRecDepth 100000 in
set_option maxHeartbeats 4000000 in
theorem c_X5_sample_t {l : Launch} (hl : l.stackTraces = false) (K : jK) (G : GH) (x hs n : Nat) (q : Nat → Nat) (cnt nw w m : Nat) (pl : Bool) (tk : Nat) (ow : Nat → Int32) (P : Nat → PaV) (pc nx : Nat) (bits : Nat → Int32) (nb : Nat) (rc : RcV) (md : Nat) (S : Nat → StV) (d : LyV) (hc : fcOk K G x n q cnt nw (w, m, pl, tk, ow, P, pc, nx, bits, nb, rc, md) S d) (hpc : pc ≤ 12) (j : Nat) (hj : j < pc) : Ct l K yX5_sample cX5_sample 2 (some .int) 8 124 1 6 [.ref x, .int (nI j)] G hs (pI (fun z9 G' _ => z9 = (P j).2.2.1 ∧ G' = G)) jno := by
  refine Ct.ofA hl (by decide) (Nat.le_of_ble_eq_true rfl) (L0 := [some (.ref x), some (.int (nI j))]) (jL_of 0 rfl) ?_
  intro A E hE hQ hX hNm
  have hO : fO x G G := fO.rf
  have hnb : nb ≤ 2048 := hc.f8
  have hj12 : j < 12 := by omega
  refine j_aload_n hE (i := 0) dX5_sample_0 rfl rfl ?_
  refine j_iload_n hE (i := 1) dX5_sample_1 rfl rfl ?_
  refine j_cVr hE mlX5_87 hc.f0 (fun l hl => c_X5_parameterAt_t hl K _ _ _ _ _ _ _ _ _ _ _ _ _ _ _ _ _ _ _ _ _ hc hpc j hj) rfl rfl (Nat.le_of_ble_eq_true rfl) (by decide) (by decide) (by omega) (by omega) dX5_sample_2 (fun r G9 hs9 hp => ?_) (fun _ _ h => h.elim)
  obtain ⟨rfl, rfl⟩ := hp
  refine j_get hE flX5_149 (hc.g (st_p0 hj12)) rfl dX5_sample_5 ?_
  refine j_iret hE hQ rfl (by omega) (by omega) dX5_sample_8 ?_
  exact ⟨_, rfl, rfl, rfl⟩

set_option maxRecDepth 100000 in
set_option maxHeartbeats 4000000 in
theorem c_X5_sample_f {l : Launch} (hl : l.stackTraces = false) (K : jK) (G : GH) (x hs n : Nat) (q : Nat → Nat) (cnt nw w m : Nat) (pl : Bool) (tk : Nat) (ow : Nat → Int32) (P : Nat → PaV) (pc nx : Nat) (bits : Nat → Int32) (nb : Nat) (rc : RcV) (md : Nat) (S : Nat → StV) (d : LyV) (hc : fcOk K G x n q cnt nw (w, m, pl, tk, ow, P, pc, nx, bits, nb, rc, md) S d) (hpc : pc ≤ 12) (p : Int32) (hj : ∀ j, j < pc → p ≠ nI j) : Ct l K yX5_sample cX5_sample 2 (some .int) 8 124 1 6 [.ref x, .int p] G hs (pI (fun _ _ _ => False)) (fun X G' => X = jIX ∧ G' = G) := by
  refine Ct.ofA hl (by decide) (Nat.le_of_ble_eq_true rfl) (L0 := [some (.ref x), some (.int p)]) (jL_of 0 rfl) ?_
  intro A E hE hQ hX hNm
  have hO : fO x G G := fO.rf
  have hnb : nb ≤ 2048 := hc.f8
  refine j_aload_n hE (i := 0) dX5_sample_0 rfl rfl ?_
  refine j_iload_n hE (i := 1) dX5_sample_1 rfl rfl ?_
  refine j_cVr hE mlX5_87 hc.f0 (fun l hl => c_X5_parameterAt_f hl K _ _ _ _ _ _ _ _ _ _ _ _ _ _ _ _ _ _ _ _ _ hc hpc _ hj) rfl rfl (Nat.le_of_ble_eq_true rfl) (by decide) (by decide) (by omega) (by omega) dX5_sample_2 (fun r G9 hs9 hp => ?_) (fun X G9 h => by obtain ⟨rfl, rfl⟩ := h; exact j_out hE hX hQ (by omega) (by omega) ⟨rfl, rfl⟩)
  exact hp.elim

set_option maxRecDepth 100000 in
set_option maxHeartbeats 4000000 in
theorem c_X5_samples_t {l : Launch} (hl : l.stackTraces = false) (K : jK) (G : GH) (x hs n : Nat) (q : Nat → Nat) (cnt nw w m : Nat) (pl : Bool) (tk : Nat) (ow : Nat → Int32) (P : Nat → PaV) (pc nx : Nat) (bits : Nat → Int32) (nb : Nat) (rc : RcV) (md : Nat) (S : Nat → StV) (d : LyV) (hc : fcOk K G x n q cnt nw (w, m, pl, tk, ow, P, pc, nx, bits, nb, rc, md) S d) (hpc : pc ≤ 12) (j : Nat) (hj : j < pc) : Ct l K yX5_samples cX5_samples 2 (some .int) 8 124 1 6 [.ref x, .int (nI j)] G hs (pI (fun z9 G' _ => z9 = (P j).2.2.2.1 ∧ G' = G)) jno := by
  refine Ct.ofA hl (by decide) (Nat.le_of_ble_eq_true rfl) (L0 := [some (.ref x), some (.int (nI j))]) (jL_of 0 rfl) ?_
  intro A E hE hQ hX hNm
  have hO : fO x G G := fO.rf
  have hnb : nb ≤ 2048 := hc.f8
  have hj12 : j < 12 := by omega
  refine j_aload_n hE (i := 0) dX5_samples_0 rfl rfl ?_
  refine j_iload_n hE (i := 1) dX5_samples_1 rfl rfl ?_
  refine j_cVr hE mlX5_87 hc.f0 (fun l hl => c_X5_parameterAt_t hl K _ _ _ _ _ _ _ _ _ _ _ _ _ _ _ _ _ _ _ _ _ hc hpc j hj) rfl rfl (Nat.le_of_ble_eq_true rfl) (by decide) (by decide) (by omega) (by omega) dX5_samples_2 (fun r G9 hs9 hp => ?_) (fun _ _ h => h.elim)
  obtain ⟨rfl, rfl⟩ := hp
  refine j_get hE flX5_152 (hc.g (st_p0 hj12)) rfl dX5_samples_5 ?_
  refine j_iret hE hQ rfl (by omega) (by omega) dX5_samples_8 ?_
  exact ⟨_, rfl, rfl, rfl⟩

set_option maxRecDepth 100000 in
set_option maxHeartbeats 4000000 in
theorem c_X5_samples_f {l : Launch} (hl : l.stackTraces = false) (K : jK) (G : GH) (x hs n : Nat) (q : Nat → Nat) (cnt nw w m : Nat) (pl : Bool) (tk : Nat) (ow : Nat → Int32) (P : Nat → PaV) (pc nx : Nat) (bits : Nat → Int32) (nb : Nat) (rc : RcV) (md : Nat) (S : Nat → StV) (d : LyV) (hc : fcOk K G x n q cnt nw (w, m, pl, tk, ow, P, pc, nx, bits, nb, rc, md) S d) (hpc : pc ≤ 12) (p : Int32) (hj : ∀ j, j < pc → p ≠ nI j) : Ct l K yX5_samples cX5_samples 2 (some .int) 8 124 1 6 [.ref x, .int p] G hs (pI (fun _ _ _ => False)) (fun X G' => X = jIX ∧ G' = G) := by
  refine Ct.ofA hl (by decide) (Nat.le_of_ble_eq_true rfl) (L0 := [some (.ref x), some (.int p)]) (jL_of 0 rfl) ?_
  intro A E hE hQ hX hNm
  have hO : fO x G G := fO.rf
  have hnb : nb ≤ 2048 := hc.f8
  refine j_aload_n hE (i := 0) dX5_samples_0 rfl rfl ?_
  refine j_iload_n hE (i := 1) dX5_samples_1 rfl rfl ?_
  refine j_cVr hE mlX5_87 hc.f0 (fun l hl => c_X5_parameterAt_f hl K _ _ _ _ _ _ _ _ _ _ _ _ _ _ _ _ _ _ _ _ _ hc hpc _ hj) rfl rfl (Nat.le_of_ble_eq_true rfl) (by decide) (by decide) (by omega) (by omega) dX5_samples_2 (fun r G9 hs9 hp => ?_) (fun X G9 h => by obtain ⟨rfl, rfl⟩ := h; exact j_out hE hX hQ (by omega) (by omega) ⟨rfl, rfl⟩)
  exact hp.elim

set_option maxRecDepth 100000 in
set_option maxHeartbeats 4000000 in
theorem c_X5_alarms_t {l : Launch} (hl : l.stackTraces = false) (K : jK) (G : GH) (x hs n : Nat) (q : Nat → Nat) (cnt nw w m : Nat) (pl : Bool) (tk : Nat) (ow : Nat → Int32) (P : Nat → PaV) (pc nx : Nat) (bits : Nat → Int32) (nb : Nat) (rc : RcV) (md : Nat) (S : Nat → StV) (d : LyV) (hc : fcOk K G x n q cnt nw (w, m, pl, tk, ow, P, pc, nx, bits, nb, rc, md) S d) (hpc : pc ≤ 12) (j : Nat) (hj : j < pc) : Ct l K yX5_alarms cX5_alarms 2 (some .int) 8 124 1 6 [.ref x, .int (nI j)] G hs (pI (fun z9 G' _ => z9 = (P j).2.2.2.2.2.2.2.2.2 ∧ G' = G)) jno := by
  refine Ct.ofA hl (by decide) (Nat.le_of_ble_eq_true rfl) (L0 := [some (.ref x), some (.int (nI j))]) (jL_of 0 rfl) ?_
  intro A E hE hQ hX hNm
  have hO : fO x G G := fO.rf
  have hnb : nb ≤ 2048 := hc.f8
  have hj12 : j < 12 := by omega
  refine j_aload_n hE (i := 0) dX5_alarms_0 rfl rfl ?_
  refine j_iload_n hE (i := 1) dX5_alarms_1 rfl rfl ?_
  refine j_cVr hE mlX5_87 hc.f0 (fun l hl => c_X5_parameterAt_t hl K _ _ _ _ _ _ _ _ _ _ _ _ _ _ _ _ _ _ _ _ _ hc hpc j hj) rfl rfl (Nat.le_of_ble_eq_true rfl) (by decide) (by decide) (by omega) (by omega) dX5_alarms_2 (fun r G9 hs9 hp => ?_) (fun _ _ h => h.elim)
  obtain ⟨rfl, rfl⟩ := hp
  refine j_get hE flX5_170 (hc.g (st_p0 hj12)) rfl dX5_alarms_5 ?_
  refine j_iret hE hQ rfl (by omega) (by omega) dX5_alarms_8 ?_
  exact ⟨_, rfl, rfl, rfl⟩

set_option maxRecDepth 100000 in
set_option maxHeartbeats 4000000 in
theorem c_X5_alarms_f {l : Launch} (hl : l.stackTraces = false) (K : jK) (G : GH) (x hs n : Nat) (q : Nat → Nat) (cnt nw w m : Nat) (pl : Bool) (tk : Nat) (ow : Nat → Int32) (P : Nat → PaV) (pc nx : Nat) (bits : Nat → Int32) (nb : Nat) (rc : RcV) (md : Nat) (S : Nat → StV) (d : LyV) (hc : fcOk K G x n q cnt nw (w, m, pl, tk, ow, P, pc, nx, bits, nb, rc, md) S d) (hpc : pc ≤ 12) (p : Int32) (hj : ∀ j, j < pc → p ≠ nI j) : Ct l K yX5_alarms cX5_alarms 2 (some .int) 8 124 1 6 [.ref x, .int p] G hs (pI (fun _ _ _ => False)) (fun X G' => X = jIX ∧ G' = G) := by
  refine Ct.ofA hl (by decide) (Nat.le_of_ble_eq_true rfl) (L0 := [some (.ref x), some (.int p)]) (jL_of 0 rfl) ?_
  intro A E hE hQ hX hNm
  have hO : fO x G G := fO.rf
  have hnb : nb ≤ 2048 := hc.f8
  refine j_aload_n hE (i := 0) dX5_alarms_0 rfl rfl ?_
  refine j_iload_n hE (i := 1) dX5_alarms_1 rfl rfl ?_
  refine j_cVr hE mlX5_87 hc.f0 (fun l hl => c_X5_parameterAt_f hl K _ _ _ _ _ _ _ _ _ _ _ _ _ _ _ _ _ _ _ _ _ hc hpc _ hj) rfl rfl (Nat.le_of_ble_eq_true rfl) (by decide) (by decide) (by omega) (by omega) dX5_alarms_2 (fun r G9 hs9 hp => ?_) (fun X G9 h => by obtain ⟨rfl, rfl⟩ := h; exact j_out hE hX hQ (by omega) (by omega) ⟨rfl, rfl⟩)
  exact hp.elim

set_option maxRecDepth 100000 in
set_option maxHeartbeats 4000000 in
theorem c_X5_hasAlarm_t {l : Launch} (hl : l.stackTraces = false) (K : jK) (G : GH) (x hs n : Nat) (q : Nat → Nat) (cnt nw w m : Nat) (pl : Bool) (tk : Nat) (ow : Nat → Int32) (P : Nat → PaV) (pc nx : Nat) (bits : Nat → Int32) (nb : Nat) (rc : RcV) (md : Nat) (S : Nat → StV) (d : LyV) (hc : fcOk K G x n q cnt nw (w, m, pl, tk, ow, P, pc, nx, bits, nb, rc, md) S d) (hpc : pc ≤ 12) (j : Nat) (hj : j < pc) : Ct l K yX5_hasAlarm cX5_hasAlarm 2 (some .boolean) 8 124 1 6 [.ref x, .int (nI j)] G hs (pI (fun z9 G' _ => z9 = jb (P j).2.2.2.2.2.2.2.1 ∧ G' = G)) jno := by
  refine Ct.ofA hl (by decide) (Nat.le_of_ble_eq_true rfl) (L0 := [some (.ref x), some (.int (nI j))]) (jL_of 0 rfl) ?_
  intro A E hE hQ hX hNm
  have hO : fO x G G := fO.rf
  have hnb : nb ≤ 2048 := hc.f8
  have hj12 : j < 12 := by omega
  refine j_aload_n hE (i := 0) dX5_hasAlarm_0 rfl rfl ?_
  refine j_iload_n hE (i := 1) dX5_hasAlarm_1 rfl rfl ?_
  refine j_cVr hE mlX5_87 hc.f0 (fun l hl => c_X5_parameterAt_t hl K _ _ _ _ _ _ _ _ _ _ _ _ _ _ _ _ _ _ _ _ _ hc hpc j hj) rfl rfl (Nat.le_of_ble_eq_true rfl) (by decide) (by decide) (by omega) (by omega) dX5_hasAlarm_2 (fun r G9 hs9 hp => ?_) (fun _ _ h => h.elim)
  obtain ⟨rfl, rfl⟩ := hp
  refine j_get hE flX5_167 (hc.g (st_p0 hj12)) rfl dX5_hasAlarm_5 ?_
  refine j_iret hE hQ (jb_nar _) (by omega) (by omega) dX5_hasAlarm_8 ?_
  exact ⟨_, rfl, rfl, rfl⟩

set_option maxRecDepth 100000 in
set_option maxHeartbeats 4000000 in
theorem c_X5_hasAlarm_f {l : Launch} (hl : l.stackTraces = false) (K : jK) (G : GH) (x hs n : Nat) (q : Nat → Nat) (cnt nw w m : Nat) (pl : Bool) (tk : Nat) (ow : Nat → Int32) (P : Nat → PaV) (pc nx : Nat) (bits : Nat → Int32) (nb : Nat) (rc : RcV) (md : Nat) (S : Nat → StV) (d : LyV) (hc : fcOk K G x n q cnt nw (w, m, pl, tk, ow, P, pc, nx, bits, nb, rc, md) S d) (hpc : pc ≤ 12) (p : Int32) (hj : ∀ j, j < pc → p ≠ nI j) : Ct l K yX5_hasAlarm cX5_hasAlarm 2 (some .boolean) 8 124 1 6 [.ref x, .int p] G hs (pI (fun _ _ _ => False)) (fun X G' => X = jIX ∧ G' = G) := by
  refine Ct.ofA hl (by decide) (Nat.le_of_ble_eq_true rfl) (L0 := [some (.ref x), some (.int p)]) (jL_of 0 rfl) ?_
  intro A E hE hQ hX hNm
  have hO : fO x G G := fO.rf
  have hnb : nb ≤ 2048 := hc.f8
  refine j_aload_n hE (i := 0) dX5_hasAlarm_0 rfl rfl ?_
  refine j_iload_n hE (i := 1) dX5_hasAlarm_1 rfl rfl ?_
  refine j_cVr hE mlX5_87 hc.f0 (fun l hl => c_X5_parameterAt_f hl K _ _ _ _ _ _ _ _ _ _ _ _ _ _ _ _ _ _ _ _ _ hc hpc _ hj) rfl rfl (Nat.le_of_ble_eq_true rfl) (by decide) (by decide) (by omega) (by omega) dX5_hasAlarm_2 (fun r G9 hs9 hp => ?_) (fun X G9 h => by obtain ⟨rfl, rfl⟩ := h; exact j_out hE hX hQ (by omega) (by omega) ⟨rfl, rfl⟩)
  exact hp.elim

set_option maxRecDepth 100000 in
set_option maxHeartbeats 4000000 in
theorem c_X5_samplesPerMajor_t {l : Launch} (hl : l.stackTraces = false) (K : jK) (G : GH) (x hs n : Nat) (q : Nat → Nat) (cnt nw w m : Nat) (pl : Bool) (tk : Nat) (ow : Nat → Int32) (P : Nat → PaV) (pc nx : Nat) (bits : Nat → Int32) (nb : Nat) (rc : RcV) (md : Nat) (S : Nat → StV) (d : LyV) (hc : fcOk K G x n q cnt nw (w, m, pl, tk, ow, P, pc, nx, bits, nb, rc, md) S d) (hpc : pc ≤ 12) (hm9 : m ≤ 8) (j : Nat) (hj : j < pc) (hr : rOk (P j).1) : Ct l K yX5_samplesPerMajor cX5_samplesPerMajor 2 (some .int) 8 124 1 6 [.ref x, .int (nI j)] G hs (pI (fun z9 G' _ => z9 = nI (sOf m (P j).1) ∧ G' = G)) jno := by
  refine Ct.ofA hl (by decide) (Nat.le_of_ble_eq_true rfl) (L0 := [some (.ref x), some (.int (nI j))]) (jL_of 0 rfl) ?_
  intro A E hE hQ hX hNm
  have hO : fO x G G := fO.rf
  have hnb : nb ≤ 2048 := hc.f8
  have hj12 : j < 12 := by omega
  refine j_aload_n hE (i := 0) dX5_samplesPerMajor_0 rfl rfl ?_
  refine j_iload_n hE (i := 1) dX5_samplesPerMajor_1 rfl rfl ?_
  refine j_cVr hE mlX5_87 hc.f0 (fun l hl => c_X5_parameterAt_t hl K _ _ _ _ _ _ _ _ _ _ _ _ _ _ _ _ _ _ _ _ _ hc hpc j hj) rfl rfl (Nat.le_of_ble_eq_true rfl) (by decide) (by decide) (by omega) (by omega) dX5_samplesPerMajor_2 (fun r G9 hs9 hp => ?_) (fun _ _ h => h.elim)
  obtain ⟨rfl, rfl⟩ := hp
  refine j_aload_n hE (i := 0) dX5_samplesPerMajor_5 rfl rfl ?_
  refine j_get hE flX5_12 hc.f0 rfl dX5_samplesPerMajor_6 ?_
  refine j_get hE flX5_41 (hc.g st_0) rfl dX5_samplesPerMajor_9 ?_
  refine j_get hE flX5_47 (hc.g st_1) rfl dX5_samplesPerMajor_12 ?_
  refine j_cVi hE mlX5_91 (hc.g (st_p0 hj12)) (fun l hl => Ct.at ((st_pa hj12).trans hc.f3) (c_X2_samplesIn hl K _ _ _ _ _ _ _ _ _ _ _ _ _ _ hm9 hr)) rfl rfl (Nat.le_of_ble_eq_true rfl) (by decide) (by decide) (by omega) (by omega) dX5_samplesPerMajor_15 (fun r G9 hs9 hp => ?_) (fun _ _ h => h.elim)
  obtain ⟨rfl, hp⟩ := hp
  have hp9 := hp.trans ((st_pa hj12).trans hc.f3)
  subst hp9
  refine j_iret hE hQ rfl (by omega) (by omega) dX5_samplesPerMajor_18 ?_
  exact ⟨_, rfl, rfl, rfl⟩

set_option maxRecDepth 100000 in
set_option maxHeartbeats 4000000 in
theorem c_X5_samplesPerMajor_f {l : Launch} (hl : l.stackTraces = false) (K : jK) (G : GH) (x hs n : Nat) (q : Nat → Nat) (cnt nw w m : Nat) (pl : Bool) (tk : Nat) (ow : Nat → Int32) (P : Nat → PaV) (pc nx : Nat) (bits : Nat → Int32) (nb : Nat) (rc : RcV) (md : Nat) (S : Nat → StV) (d : LyV) (hc : fcOk K G x n q cnt nw (w, m, pl, tk, ow, P, pc, nx, bits, nb, rc, md) S d) (hpc : pc ≤ 12) (p : Int32) (hj : ∀ j, j < pc → p ≠ nI j) : Ct l K yX5_samplesPerMajor cX5_samplesPerMajor 2 (some .int) 8 124 1 6 [.ref x, .int p] G hs (pI (fun _ _ _ => False)) (fun X G' => X = jIX ∧ G' = G) := by
  refine Ct.ofA hl (by decide) (Nat.le_of_ble_eq_true rfl) (L0 := [some (.ref x), some (.int p)]) (jL_of 0 rfl) ?_
  intro A E hE hQ hX hNm
  have hO : fO x G G := fO.rf
  have hnb : nb ≤ 2048 := hc.f8
  refine j_aload_n hE (i := 0) dX5_samplesPerMajor_0 rfl rfl ?_
  refine j_iload_n hE (i := 1) dX5_samplesPerMajor_1 rfl rfl ?_
  refine j_cVr hE mlX5_87 hc.f0 (fun l hl => c_X5_parameterAt_f hl K _ _ _ _ _ _ _ _ _ _ _ _ _ _ _ _ _ _ _ _ _ hc hpc _ hj) rfl rfl (Nat.le_of_ble_eq_true rfl) (by decide) (by decide) (by omega) (by omega) dX5_samplesPerMajor_2 (fun r G9 hs9 hp => ?_) (fun X G9 h => by obtain ⟨rfl, rfl⟩ := h; exact j_out hE hX hQ (by omega) (by omega) ⟨rfl, rfl⟩)
  exact hp.elim

set_option maxRecDepth 100000 in
set_option maxHeartbeats 4000000 in
theorem c_X5_bit_t {l : Launch} (hl : l.stackTraces = false) (K : jK) (G : GH) (x hs n : Nat) (q : Nat → Nat) (cnt nw w m : Nat) (pl : Bool) (tk : Nat) (ow : Nat → Int32) (P : Nat → PaV) (pc nx : Nat) (bits : Nat → Int32) (nb : Nat) (rc : RcV) (md : Nat) (S : Nat → StV) (d : LyV) (hc : fcOk K G x n q cnt nw (w, m, pl, tk, ow, P, pc, nx, bits, nb, rc, md) S d) (hpc : pc ≤ 12) (j : Nat) (hj : j < nb) : Ct l K yX5_bit cX5_bit 2 (some .int) 7 103 1 6 [.ref x, .int (nI j)] G hs (pI (fun z9 G' _ => z9 = bits j ∧ G' = G)) jno := by
  refine Ct.ofA hl (by decide) (Nat.le_of_ble_eq_true rfl) (L0 := [some (.ref x), some (.int (nI j))]) (jL_of 0 rfl) ?_
  intro A E hE hQ hX hNm
  have hO : fO x G G := fO.rf
  have hnb : nb ≤ 2048 := hc.f8
  refine j_iload_n hE (i := 1) dX5_bit_0 rfl rfl ?_
  refine j_aload_n hE (i := 0) dX5_bit_1 rfl rfl ?_
  refine j_get hE flX5_12 hc.f0 rfl dX5_bit_2 ?_
  refine j_get hE flX5_109 (hc.g st_0) rfl dX5_bit_5 ?_
  refine j_get hE flX5_113 (hc.g st_4) rfl dX5_bit_8 ?_
  refine j_cSv hE mlX5_95 (fun l hl => c_X5_requireIndex_t hl K _ _ _ _ hj (by omega)) rfl rfl (Nat.le_of_ble_eq_true rfl) (by decide) (by decide) (by omega) (by omega) dX5_bit_11 (fun G9 hs9 hp => ?_) (fun _ _ h => h.elim)
  subst hp
  refine j_aload_n hE (i := 0) dX5_bit_14 rfl rfl ?_
  refine j_get hE flX5_12 hc.f0 rfl dX5_bit_15 ?_
  refine j_get hE flX5_109 (hc.g st_0) rfl dX5_bit_18 ?_
  refine j_get hE flX5_121 (hc.g st_4) rfl dX5_bit_21 ?_
  refine j_iload_n hE (i := 1) dX5_bit_24 rfl rfl ?_
  refine j_iald hE (hc.g st_5) rfl (by omega) (by decide) dX5_bit_25 ?_
  refine j_iret hE hQ rfl (by omega) (by omega) dX5_bit_26 ?_
  exact ⟨_, rfl, rfl, rfl⟩

set_option maxRecDepth 100000 in
set_option maxHeartbeats 4000000 in
theorem c_X5_bit_f {l : Launch} (hl : l.stackTraces = false) (K : jK) (G : GH) (x hs n : Nat) (q : Nat → Nat) (cnt nw w m : Nat) (pl : Bool) (tk : Nat) (ow : Nat → Int32) (P : Nat → PaV) (pc nx : Nat) (bits : Nat → Int32) (nb : Nat) (rc : RcV) (md : Nat) (S : Nat → StV) (d : LyV) (hc : fcOk K G x n q cnt nw (w, m, pl, tk, ow, P, pc, nx, bits, nb, rc, md) S d) (hpc : pc ≤ 12) (p : Int32) (hj : ∀ j, j < nb → p ≠ nI j) : Ct l K yX5_bit cX5_bit 2 (some .int) 7 103 1 6 [.ref x, .int p] G hs (pI (fun _ _ _ => False)) (fun X G' => X = jIX ∧ G' = G) := by
  refine Ct.ofA hl (by decide) (Nat.le_of_ble_eq_true rfl) (L0 := [some (.ref x), some (.int p)]) (jL_of 0 rfl) ?_
  intro A E hE hQ hX hNm
  have hO : fO x G G := fO.rf
  have hnb : nb ≤ 2048 := hc.f8
  refine j_iload_n hE (i := 1) dX5_bit_0 rfl rfl ?_
  refine j_aload_n hE (i := 0) dX5_bit_1 rfl rfl ?_
  refine j_get hE flX5_12 hc.f0 rfl dX5_bit_2 ?_
  refine j_get hE flX5_109 (hc.g st_0) rfl dX5_bit_5 ?_
  refine j_get hE flX5_113 (hc.g st_4) rfl dX5_bit_8 ?_
  refine j_cSv hE mlX5_95 (fun l hl => c_X5_requireIndex_f hl K _ _ _ _ hj (by omega)) rfl rfl (Nat.le_of_ble_eq_true rfl) (by decide) (by decide) (by omega) (by omega) dX5_bit_11 (fun G9 hs9 hp => ?_) (fun X G9 h => by obtain ⟨rfl, rfl⟩ := h; exact j_out hE hX hQ (by omega) (by omega) ⟨rfl, rfl⟩)
  exact hp.elim

set_option maxRecDepth 100000 in
set_option maxHeartbeats 4000000 in
theorem c_X5_received_t {l : Launch} (hl : l.stackTraces = false) (K : jK) (G : GH) (x hs n : Nat) (q : Nat → Nat) (cnt nw w m : Nat) (pl : Bool) (tk : Nat) (ow : Nat → Int32) (P : Nat → PaV) (pc nx : Nat) (bits : Nat → Int32) (nb : Nat) (rc : RcV) (md : Nat) (S : Nat → StV) (d : LyV) (hc : fcOk K G x n q cnt nw (w, m, pl, tk, ow, P, pc, nx, bits, nb, rc, md) S d) (hpc : pc ≤ 12) (j : Nat) (hj : j ≤ 5) : Ct l K yX5_received cX5_received 2 (some .int) 7 102 1 6 [.ref x, .int (nI j)] G hs (pI (fun z9 G' _ => z9 = rc.2.2.1 j ∧ G' = G)) jno := by
  refine Ct.ofA hl (by decide) (Nat.le_of_ble_eq_true rfl) (L0 := [some (.ref x), some (.int (nI j))]) (jL_of 0 rfl) ?_
  intro A E hE hQ hX hNm
  have hO : fO x G G := fO.rf
  have hnb : nb ≤ 2048 := hc.f8
  refine j_iload_n hE (i := 1) dX5_received_0 rfl rfl ?_
  refine j_if_lt hE (tgt := 14) dX5_received_1 (by decide) (fun h1 => ?_) (fun h1 => ?_)
  · exact absurd h1 (nI_pos (by omega))
  · refine j_iload_n hE (i := 1) dX5_received_4 rfl rfl ?_
    refine j_bipush hE (v := nI 6) dX5_received_5 (by decide) ?_
    refine j_ic_geN hE (tgt := 14) dX5_received_7 (by decide) (by omega) (by omega) (fun h7 => ?_) (fun h7 => ?_)
    · exfalso; omega
    · refine j_iconst hE (v := nI 1) dX5_received_10 (by decide) ?_
      refine j_goto hE (tgt := 15) dX5_received_11 (by decide) ?_
      refine j_cSv hE mlX5_34 (fun l hl => c_X5_requireArgument_t hl K _ _) rfl rfl (Nat.le_of_ble_eq_true rfl) (by decide) (by decide) (by omega) (by omega) dX5_received_15 (fun G9 hs9 hp => ?_) (fun _ _ h => h.elim)
      subst hp
      refine j_aload_n hE (i := 0) dX5_received_18 rfl rfl ?_
      refine j_get hE flX5_12 hc.f0 rfl dX5_received_19 ?_
      refine j_get hE flX5_134 (hc.g st_0) rfl dX5_received_22 ?_
      refine j_get hE flX5_138 (hc.g st_6) rfl dX5_received_25 ?_
      refine j_iload_n hE (i := 1) dX5_received_28 rfl rfl ?_
      refine j_iald hE (hc.g st_7) rfl (by omega) (by decide) dX5_received_29 ?_
      refine j_iret hE hQ rfl (by omega) (by omega) dX5_received_30 ?_
      exact ⟨_, rfl, rfl, rfl⟩

set_option maxRecDepth 100000 in
set_option maxHeartbeats 4000000 in
theorem c_X5_received_f {l : Launch} (hl : l.stackTraces = false) (K : jK) (G : GH) (x hs n : Nat) (q : Nat → Nat) (cnt nw w m : Nat) (pl : Bool) (tk : Nat) (ow : Nat → Int32) (P : Nat → PaV) (pc nx : Nat) (bits : Nat → Int32) (nb : Nat) (rc : RcV) (md : Nat) (S : Nat → StV) (d : LyV) (hc : fcOk K G x n q cnt nw (w, m, pl, tk, ow, P, pc, nx, bits, nb, rc, md) S d) (hpc : pc ≤ 12) (p : Int32) (hj : ∀ j, 0 ≤ j → j ≤ 5 → p ≠ nI j) : Ct l K yX5_received cX5_received 2 (some .int) 7 102 1 6 [.ref x, .int p] G hs (pI (fun _ _ _ => False)) (fun X G' => X = jIA ∧ G' = G) := by
  refine Ct.ofA hl (by decide) (Nat.le_of_ble_eq_true rfl) (L0 := [some (.ref x), some (.int p)]) (jL_of 0 rfl) ?_
  intro A E hE hQ hX hNm
  have hO : fO x G G := fO.rf
  have hnb : nb ≤ 2048 := hc.f8
  refine j_iload_n hE (i := 1) dX5_received_0 rfl rfl ?_
  refine j_if_lt hE (tgt := 14) dX5_received_1 (by decide) (fun h1 => ?_) (fun h1 => ?_)
  · refine j_iconst hE (v := nI 0) dX5_received_14 (by decide) ?_
    refine j_cSv hE mlX5_34 (fun l hl => c_X5_requireArgument_f hl K _ _) rfl rfl (Nat.le_of_ble_eq_true rfl) (by decide) (by decide) (by omega) (by omega) dX5_received_15 (fun G9 hs9 hp => ?_) (fun X G9 h => by obtain ⟨rfl, rfl⟩ := h; exact j_out hE hX hQ (by omega) (by omega) ⟨rfl, rfl⟩)
    exact hp.elim
  · refine j_iload_n hE (i := 1) dX5_received_4 rfl rfl ?_
    refine j_bipush hE (v := nI 6) dX5_received_5 (by decide) ?_
    refine j_ic_ge hE (tgt := 14) dX5_received_7 (by decide) (fun h7 => ?_) (fun h7 => ?_)
    · refine j_iconst hE (v := nI 0) dX5_received_14 (by decide) ?_
      refine j_cSv hE mlX5_34 (fun l hl => c_X5_requireArgument_f hl K _ _) rfl rfl (Nat.le_of_ble_eq_true rfl) (by decide) (by decide) (by omega) (by omega) dX5_received_15 (fun G9 hs9 hp => ?_) (fun X G9 h => by obtain ⟨rfl, rfl⟩ := h; exact j_out hE hX hQ (by omega) (by omega) ⟨rfl, rfl⟩)
      exact hp.elim
    · obtain ⟨j, hj9, rfl⟩ := nI_of h1
      exact absurd rfl (hj j (by omega) (by have := (nI_ltI hj9 (b := 6) (by omega)).mp (Int32.not_le.mp h7); omega))

set_option maxRecDepth 100000 in
set_option maxHeartbeats 4000000 in
theorem c_X5_ownerOf_t {l : Launch} (hl : l.stackTraces = false) (K : jK) (G : GH) (x hs n : Nat) (q : Nat → Nat) (cnt nw w m : Nat) (tk : Nat) (ow : Nat → Int32) (P : Nat → PaV) (pc nx : Nat) (bits : Nat → Int32) (nb : Nat) (rc : RcV) (md : Nat) (S : Nat → StV) (d : LyV) (hc : fcOk K G x n q cnt nw (w, m, true, tk, ow, P, pc, nx, bits, nb, rc, md) S d) (hpc : pc ≤ 12) (hw9 : w ≤ 16) (hm9 : m ≤ 8) (f k : Nat) (hf : f < m) (hk : k < w) : Ct l K yX5_ownerOf cX5_ownerOf 3 (some .int) 7 103 3 18 [.ref x, .int (nI f), .int (nI k)] G hs (pI (fun z9 G' _ => z9 = ow (16 * f + k) ∧ G' = G)) jno := by
  refine Ct.ofA hl (by decide) (Nat.le_of_ble_eq_true rfl) (L0 := [some (.ref x), some (.int (nI f)), some (.int (nI k))]) (jL_of 0 rfl) ?_
  intro A E hE hQ hX hNm
  have hO : fO x G G := fO.rf
  have hnb : nb ≤ 2048 := hc.f8
  refine j_iload_n hE (i := 1) dX5_ownerOf_0 rfl rfl ?_
  refine j_aload_n hE (i := 0) dX5_ownerOf_1 rfl rfl ?_
  refine j_get hE flX5_12 hc.f0 rfl dX5_ownerOf_2 ?_
  refine j_get hE flX5_41 (hc.g st_0) rfl dX5_ownerOf_5 ?_
  refine j_get hE flX5_47 (hc.g st_1) rfl dX5_ownerOf_8 ?_
  refine j_cSv hE mlX5_95 (fun l hl => c_X5_requireIndex_t hl K _ _ _ _ hf (by omega)) rfl rfl (Nat.le_of_ble_eq_true rfl) (by decide) (by decide) (by omega) (by omega) dX5_ownerOf_11 (fun G9 hs9 hp => ?_) (fun _ _ h => h.elim)
  subst hp
  refine j_iload_n hE (i := 2) dX5_ownerOf_14 rfl rfl ?_
  refine j_aload_n hE (i := 0) dX5_ownerOf_15 rfl rfl ?_
  refine j_get hE flX5_12 hc.f0 rfl dX5_ownerOf_16 ?_
  refine j_get hE flX5_41 (hc.g st_0) rfl dX5_ownerOf_19 ?_
  refine j_get hE flX5_44 (hc.g st_1) rfl dX5_ownerOf_22 ?_
  refine j_cSv hE mlX5_95 (fun l hl => c_X5_requireIndex_t hl K _ _ _ _ hk (by omega)) rfl rfl (Nat.le_of_ble_eq_true rfl) (by decide) (by decide) (by omega) (by omega) dX5_ownerOf_25 (fun G9 hs9 hp => ?_) (fun _ _ h => h.elim)
  subst hp
  refine j_aload_n hE (i := 0) dX5_ownerOf_28 rfl rfl ?_
  refine j_get hE flX5_12 hc.f0 rfl dX5_ownerOf_29 ?_
  refine j_get hE flX5_41 (hc.g st_0) rfl dX5_ownerOf_32 ?_
  refine j_get hE flX5_80 (hc.g st_1) rfl dX5_ownerOf_35 ?_
  refine j_cSv hE mlX5_56 (fun l hl => c_X5_requireState_t hl K _ _) rfl rfl (Nat.le_of_ble_eq_true rfl) (by decide) (by decide) (by omega) (by omega) dX5_ownerOf_38 (fun G9 hs9 hp => ?_) (fun _ _ h => h.elim)
  subst hp
  refine j_aload_n hE (i := 0) dX5_ownerOf_41 rfl rfl ?_
  refine j_get hE flX5_12 hc.f0 rfl dX5_ownerOf_42 ?_
  refine j_get hE flX5_41 (hc.g st_0) rfl dX5_ownerOf_45 ?_
  refine j_iload_n hE (i := 1) dX5_ownerOf_48 rfl rfl ?_
  refine j_iload_n hE (i := 2) dX5_ownerOf_49 rfl rfl ?_
  refine j_cVi hE mlX5_103 (hc.g st_1) (fun l hl => Ct.at (st_ly.trans hc.f3) (c_X1_ownerAt hl K _ (n + 1) _ _ _ _ _ _ _ _ (by omega) (by omega))) rfl rfl (Nat.le_of_ble_eq_true rfl) (by decide) (by decide) (by omega) (by omega) dX5_ownerOf_50 (fun r G9 hs9 hp => ?_) (fun _ _ h => h.elim)
  obtain ⟨rfl, hp⟩ := hp
  have hp9 := hp.trans (st_ly.trans hc.f3)
  subst hp9
  refine j_iret hE hQ rfl (by omega) (by omega) dX5_ownerOf_53 ?_
  exact ⟨_, rfl, rfl, rfl⟩

set_option maxRecDepth 100000 in
set_option maxHeartbeats 4000000 in
theorem c_X5_ownerOf_f1 {l : Launch} (hl : l.stackTraces = false) (K : jK) (G : GH) (x hs n : Nat) (q : Nat → Nat) (cnt nw w m : Nat) (pl : Bool) (tk : Nat) (ow : Nat → Int32) (P : Nat → PaV) (pc nx : Nat) (bits : Nat → Int32) (nb : Nat) (rc : RcV) (md : Nat) (S : Nat → StV) (d : LyV) (hc : fcOk K G x n q cnt nw (w, m, pl, tk, ow, P, pc, nx, bits, nb, rc, md) S d) (hpc : pc ≤ 12) (hw9 : w ≤ 16) (hm9 : m ≤ 8) (p r : Int32) (hf : ∀ j, j < m → p ≠ nI j) : Ct l K yX5_ownerOf cX5_ownerOf 3 (some .int) 7 103 3 18 [.ref x, .int p, .int r] G hs (pI (fun _ _ _ => False)) (fun X G' => X = jIX ∧ G' = G) := by
  refine Ct.ofA hl (by decide) (Nat.le_of_ble_eq_true rfl) (L0 := [some (.ref x), some (.int p), some (.int r)]) (jL_of 0 rfl) ?_
  intro A E hE hQ hX hNm
  have hO : fO x G G := fO.rf
  have hnb : nb ≤ 2048 := hc.f8
  refine j_iload_n hE (i := 1) dX5_ownerOf_0 rfl rfl ?_
  refine j_aload_n hE (i := 0) dX5_ownerOf_1 rfl rfl ?_
  refine j_get hE flX5_12 hc.f0 rfl dX5_ownerOf_2 ?_
  refine j_get hE flX5_41 (hc.g st_0) rfl dX5_ownerOf_5 ?_
  refine j_get hE flX5_47 (hc.g st_1) rfl dX5_ownerOf_8 ?_
  refine j_cSv hE mlX5_95 (fun l hl => c_X5_requireIndex_f hl K _ _ _ _ hf (by omega)) rfl rfl (Nat.le_of_ble_eq_true rfl) (by decide) (by decide) (by omega) (by omega) dX5_ownerOf_11 (fun G9 hs9 hp => ?_) (fun X G9 h => by obtain ⟨rfl, rfl⟩ := h; exact j_out hE hX hQ (by omega) (by omega) ⟨rfl, rfl⟩)
  exact hp.elim

set_option maxRecDepth 100000 in
set_option maxHeartbeats 4000000 in
theorem c_X5_ownerOf_f2 {l : Launch} (hl : l.stackTraces = false) (K : jK) (G : GH) (x hs n : Nat) (q : Nat → Nat) (cnt nw w m : Nat) (pl : Bool) (tk : Nat) (ow : Nat → Int32) (P : Nat → PaV) (pc nx : Nat) (bits : Nat → Int32) (nb : Nat) (rc : RcV) (md : Nat) (S : Nat → StV) (d : LyV) (hc : fcOk K G x n q cnt nw (w, m, pl, tk, ow, P, pc, nx, bits, nb, rc, md) S d) (hpc : pc ≤ 12) (hw9 : w ≤ 16) (hm9 : m ≤ 8) (f : Nat) (r : Int32) (hf : f < m) (hk : ∀ j, j < w → r ≠ nI j) : Ct l K yX5_ownerOf cX5_ownerOf 3 (some .int) 7 103 3 18 [.ref x, .int (nI f), .int r] G hs (pI (fun _ _ _ => False)) (fun X G' => X = jIX ∧ G' = G) := by
  refine Ct.ofA hl (by decide) (Nat.le_of_ble_eq_true rfl) (L0 := [some (.ref x), some (.int (nI f)), some (.int r)]) (jL_of 0 rfl) ?_
  intro A E hE hQ hX hNm
  have hO : fO x G G := fO.rf
  have hnb : nb ≤ 2048 := hc.f8
  refine j_iload_n hE (i := 1) dX5_ownerOf_0 rfl rfl ?_
  refine j_aload_n hE (i := 0) dX5_ownerOf_1 rfl rfl ?_
  refine j_get hE flX5_12 hc.f0 rfl dX5_ownerOf_2 ?_
  refine j_get hE flX5_41 (hc.g st_0) rfl dX5_ownerOf_5 ?_
  refine j_get hE flX5_47 (hc.g st_1) rfl dX5_ownerOf_8 ?_
  refine j_cSv hE mlX5_95 (fun l hl => c_X5_requireIndex_t hl K _ _ _ _ hf (by omega)) rfl rfl (Nat.le_of_ble_eq_true rfl) (by decide) (by decide) (by omega) (by omega) dX5_ownerOf_11 (fun G9 hs9 hp => ?_) (fun _ _ h => h.elim)
  subst hp
  refine j_iload_n hE (i := 2) dX5_ownerOf_14 rfl rfl ?_
  refine j_aload_n hE (i := 0) dX5_ownerOf_15 rfl rfl ?_
  refine j_get hE flX5_12 hc.f0 rfl dX5_ownerOf_16 ?_
  refine j_get hE flX5_41 (hc.g st_0) rfl dX5_ownerOf_19 ?_
  refine j_get hE flX5_44 (hc.g st_1) rfl dX5_ownerOf_22 ?_
  refine j_cSv hE mlX5_95 (fun l hl => c_X5_requireIndex_f hl K _ _ _ _ hk (by omega)) rfl rfl (Nat.le_of_ble_eq_true rfl) (by decide) (by decide) (by omega) (by omega) dX5_ownerOf_25 (fun G9 hs9 hp => ?_) (fun X G9 h => by obtain ⟨rfl, rfl⟩ := h; exact j_out hE hX hQ (by omega) (by omega) ⟨rfl, rfl⟩)
  exact hp.elim

set_option maxRecDepth 100000 in
set_option maxHeartbeats 4000000 in
theorem c_X5_ownerOf_f3 {l : Launch} (hl : l.stackTraces = false) (K : jK) (G : GH) (x hs n : Nat) (q : Nat → Nat) (cnt nw w m : Nat) (tk : Nat) (ow : Nat → Int32) (P : Nat → PaV) (pc nx : Nat) (bits : Nat → Int32) (nb : Nat) (rc : RcV) (md : Nat) (S : Nat → StV) (d : LyV) (hc : fcOk K G x n q cnt nw (w, m, false, tk, ow, P, pc, nx, bits, nb, rc, md) S d) (hpc : pc ≤ 12) (hw9 : w ≤ 16) (hm9 : m ≤ 8) (f k : Nat) (hf : f < m) (hk : k < w) : Ct l K yX5_ownerOf cX5_ownerOf 3 (some .int) 7 103 3 18 [.ref x, .int (nI f), .int (nI k)] G hs (pI (fun _ _ _ => False)) (fun X G' => X = jIS ∧ G' = G) := by
  refine Ct.ofA hl (by decide) (Nat.le_of_ble_eq_true rfl) (L0 := [some (.ref x), some (.int (nI f)), some (.int (nI k))]) (jL_of 0 rfl) ?_
  intro A E hE hQ hX hNm
  have hO : fO x G G := fO.rf
  have hnb : nb ≤ 2048 := hc.f8
  refine j_iload_n hE (i := 1) dX5_ownerOf_0 rfl rfl ?_
  refine j_aload_n hE (i := 0) dX5_ownerOf_1 rfl rfl ?_
  refine j_get hE flX5_12 hc.f0 rfl dX5_ownerOf_2 ?_
  refine j_get hE flX5_41 (hc.g st_0) rfl dX5_ownerOf_5 ?_
  refine j_get hE flX5_47 (hc.g st_1) rfl dX5_ownerOf_8 ?_
  refine j_cSv hE mlX5_95 (fun l hl => c_X5_requireIndex_t hl K _ _ _ _ hf (by omega)) rfl rfl (Nat.le_of_ble_eq_true rfl) (by decide) (by decide) (by omega) (by omega) dX5_ownerOf_11 (fun G9 hs9 hp => ?_) (fun _ _ h => h.elim)
  subst hp
  refine j_iload_n hE (i := 2) dX5_ownerOf_14 rfl rfl ?_
  refine j_aload_n hE (i := 0) dX5_ownerOf_15 rfl rfl ?_
  refine j_get hE flX5_12 hc.f0 rfl dX5_ownerOf_16 ?_
  refine j_get hE flX5_41 (hc.g st_0) rfl dX5_ownerOf_19 ?_
  refine j_get hE flX5_44 (hc.g st_1) rfl dX5_ownerOf_22 ?_
  refine j_cSv hE mlX5_95 (fun l hl => c_X5_requireIndex_t hl K _ _ _ _ hk (by omega)) rfl rfl (Nat.le_of_ble_eq_true rfl) (by decide) (by decide) (by omega) (by omega) dX5_ownerOf_25 (fun G9 hs9 hp => ?_) (fun _ _ h => h.elim)
  subst hp
  refine j_aload_n hE (i := 0) dX5_ownerOf_28 rfl rfl ?_
  refine j_get hE flX5_12 hc.f0 rfl dX5_ownerOf_29 ?_
  refine j_get hE flX5_41 (hc.g st_0) rfl dX5_ownerOf_32 ?_
  refine j_get hE flX5_80 (hc.g st_1) rfl dX5_ownerOf_35 ?_
  refine j_cSv hE mlX5_56 (fun l hl => c_X5_requireState_f hl K _ _) rfl rfl (Nat.le_of_ble_eq_true rfl) (by decide) (by decide) (by omega) (by omega) dX5_ownerOf_38 (fun G9 hs9 hp => ?_) (fun X G9 h => by obtain ⟨rfl, rfl⟩ := h; exact j_out hE hX hQ (by omega) (by omega) ⟨rfl, rfl⟩)
  exact hp.elim

set_option maxRecDepth 100000 in
set_option maxHeartbeats 4000000 in
theorem c_X5_efficiency_t {l : Launch} (hl : l.stackTraces = false) (K : jK) (G : GH) (x hs n : Nat) (q : Nat → Nat) (cnt nw w m : Nat) (tk : Nat) (ow : Nat → Int32) (P : Nat → PaV) (pc nx : Nat) (bits : Nat → Int32) (nb : Nat) (rc : RcV) (md : Nat) (S : Nat → StV) (d : LyV) (hc : fcOk K G x n q cnt nw (w, m, true, tk, ow, P, pc, nx, bits, nb, rc, md) S d) (hpc : pc ≤ 12) (hw9 : w ≤ 16) (hm9 : m ≤ 8) (hne : vf_n64 (FP.ddiv (FP.i2d (nI tk)) (FP.i2d (nI (w * m))))) : Ct l K yX5_efficiency cX5_efficiency 1 (some .double) 7 102 1 6 [.ref x] G hs (pD (fun z9 G' _ => z9 = FP.ddiv (FP.i2d (nI tk)) (FP.i2d (nI (w * m))) ∧ G' = G)) jno := by
  refine Ct.ofA hl (by decide) (Nat.le_of_ble_eq_true rfl) (L0 := [some (.ref x)]) (jL_of 0 rfl) ?_
  intro A E hE hQ hX hNm
  have hO : fO x G G := fO.rf
  have hnb : nb ≤ 2048 := hc.f8
  refine j_aload_n hE (i := 0) dX5_efficiency_0 rfl rfl ?_
  refine j_get hE flX5_12 hc.f0 rfl dX5_efficiency_1 ?_
  refine j_get hE flX5_41 (hc.g st_0) rfl dX5_efficiency_4 ?_
  refine j_get hE flX5_80 (hc.g st_1) rfl dX5_efficiency_7 ?_
  refine j_cSv hE mlX5_56 (fun l hl => c_X5_requireState_t hl K _ _) rfl rfl (Nat.le_of_ble_eq_true rfl) (by decide) (by decide) (by omega) (by omega) dX5_efficiency_10 (fun G9 hs9 hp => ?_) (fun _ _ h => h.elim)
  subst hp
  refine j_aload_n hE (i := 0) dX5_efficiency_13 rfl rfl ?_
  refine j_get hE flX5_12 hc.f0 rfl dX5_efficiency_14 ?_
  refine j_get hE flX5_41 (hc.g st_0) rfl dX5_efficiency_17 ?_
  refine j_get hE flX5_84 (hc.g st_1) rfl dX5_efficiency_20 ?_
  refine j_i2d hE dX5_efficiency_23 ?_
  refine j_aload_n hE (i := 0) dX5_efficiency_24 rfl rfl ?_
  refine j_get hE flX5_12 hc.f0 rfl dX5_efficiency_25 ?_
  refine j_get hE flX5_41 (hc.g st_0) rfl dX5_efficiency_28 ?_
  refine j_get hE flX5_44 (hc.g st_1) rfl dX5_efficiency_31 ?_
  refine j_aload_n hE (i := 0) dX5_efficiency_34 rfl rfl ?_
  refine j_get hE flX5_12 hc.f0 rfl dX5_efficiency_35 ?_
  refine j_get hE flX5_41 (hc.g st_0) rfl dX5_efficiency_38 ?_
  refine j_get hE flX5_47 (hc.g st_1) rfl dX5_efficiency_41 ?_
  refine j_imulN hE dX5_efficiency_44 ?_
  refine j_i2d hE dX5_efficiency_45 ?_
  refine j_ddiv hE dX5_efficiency_46 hne ?_
  refine j_dret hE hQ (by omega) (by omega) dX5_efficiency_47 ?_
  exact ⟨_, rfl, rfl, rfl⟩

set_option maxRecDepth 100000 in
set_option maxHeartbeats 4000000 in
theorem c_X5_efficiency_f {l : Launch} (hl : l.stackTraces = false) (K : jK) (G : GH) (x hs n : Nat) (q : Nat → Nat) (cnt nw w m : Nat) (tk : Nat) (ow : Nat → Int32) (P : Nat → PaV) (pc nx : Nat) (bits : Nat → Int32) (nb : Nat) (rc : RcV) (md : Nat) (S : Nat → StV) (d : LyV) (hc : fcOk K G x n q cnt nw (w, m, false, tk, ow, P, pc, nx, bits, nb, rc, md) S d) (hpc : pc ≤ 12)  : Ct l K yX5_efficiency cX5_efficiency 1 (some .double) 7 102 1 6 [.ref x] G hs (pD (fun _ _ _ => False)) (fun X G' => X = jIS ∧ G' = G) := by
  refine Ct.ofA hl (by decide) (Nat.le_of_ble_eq_true rfl) (L0 := [some (.ref x)]) (jL_of 0 rfl) ?_
  intro A E hE hQ hX hNm
  have hO : fO x G G := fO.rf
  have hnb : nb ≤ 2048 := hc.f8
  refine j_aload_n hE (i := 0) dX5_efficiency_0 rfl rfl ?_
  refine j_get hE flX5_12 hc.f0 rfl dX5_efficiency_1 ?_
  refine j_get hE flX5_41 (hc.g st_0) rfl dX5_efficiency_4 ?_
  refine j_get hE flX5_80 (hc.g st_1) rfl dX5_efficiency_7 ?_
  refine j_cSv hE mlX5_56 (fun l hl => c_X5_requireState_f hl K _ _) rfl rfl (Nat.le_of_ble_eq_true rfl) (by decide) (by decide) (by omega) (by omega) dX5_efficiency_10 (fun G9 hs9 hp => ?_) (fun X G9 h => by obtain ⟨rfl, rfl⟩ := h; exact j_out hE hX hQ (by omega) (by omega) ⟨rfl, rfl⟩)
  exact hp.elim

set_option maxRecDepth 100000 in
set_option maxHeartbeats 4000000 in
theorem c_X5_setValue_t {l : Launch} (hl : l.stackTraces = false) (K : jK) (G : GH) (x hs n : Nat) (q : Nat → Nat) (cnt nw w m : Nat) (pl : Bool) (tk : Nat) (ow : Nat → Int32) (P : Nat → PaV) (pc nx : Nat) (bits : Nat → Int32) (nb : Nat) (rc : RcV) (md : Nat) (S : Nat → StV) (d : LyV) (hc : fcOk K G x n q cnt nw (w, m, pl, tk, ow, P, pc, nx, bits, nb, rc, md) S d) (hpc : pc ≤ 12) (j v : Nat) (hj : j < pc) (hv : v ≤ 255) : Ct l K yX5_setValue cX5_setValue 5 (some .int) 8 124 2 12 [.ref x, .int (nI j), .int (nI v)] G hs (pI (fun z9 G' _ => z9 = (P j).2.1 ∧ fcOk K G' x n q (sC cnt) ((nw + 1) % 4) (w, m, pl, tk, ow, (va_up P j ((P j).1, nI v, (P j).2.2)), pc, nx, bits, nb, rc, md) (svS S nw (w, m, pl, tk, ow, P, pc, nx, bits, nb, rc, md)) d ∧ fO x G G')) jno := by
  refine Ct.ofA hl (by decide) (Nat.le_of_ble_eq_true rfl) (L0 := [some (.ref x), some (.int (nI j)), some (.int (nI v)), none, none]) (jL_of 2 rfl) ?_
  intro A E hE hQ hX hNm
  have hO : fO x G G := fO.rf
  have hnb : nb ≤ 2048 := hc.f8
  have hj12 : j < 12 := by omega
  refine j_aload_n hE (i := 0) dX5_setValue_0 rfl rfl ?_
  refine j_iload_n hE (i := 1) dX5_setValue_1 rfl rfl ?_
  refine j_cVr hE mlX5_87 hc.f0 (fun l hl => c_X5_parameterAt_t hl K _ _ _ _ _ _ _ _ _ _ _ _ _ _ _ _ _ _ _ _ _ hc hpc j hj) rfl rfl (Nat.le_of_ble_eq_true rfl) (by decide) (by decide) (by omega) (by omega) dX5_setValue_2 (fun r G9 hs9 hp => ?_) (fun _ _ h => h.elim)
  obtain ⟨rfl, rfl⟩ := hp
  refine j_ast3 hE dX5_setValue_5 rfl (by decide) rfl ?_
  refine j_iload_n hE (i := 2) dX5_setValue_6 rfl rfl ?_
  refine j_if_lt hE (tgt := 21) dX5_setValue_7 (by decide) (fun h7 => ?_) (fun h7 => ?_)
  · exact absurd h7 (nI_pos (by omega))
  · refine j_iload_n hE (i := 2) dX5_setValue_10 rfl rfl ?_
    refine j_sipush hE (v := nI 255) dX5_setValue_11 (by decide) ?_
    refine j_ic_gtN hE (tgt := 21) dX5_setValue_14 (by decide) (by omega) (by omega) (fun h14 => ?_) (fun h14 => ?_)
    · exfalso; omega
    · refine j_iconst hE (v := nI 1) dX5_setValue_17 (by decide) ?_
      refine j_goto hE (tgt := 22) dX5_setValue_18 (by decide) ?_
      refine j_cSv hE mlX5_34 (fun l hl => c_X5_requireArgument_t hl K _ _) rfl rfl (Nat.le_of_ble_eq_true rfl) (by decide) (by decide) (by omega) (by omega) dX5_setValue_22 (fun G9 hs9 hp => ?_) (fun _ _ h => h.elim)
      subst hp
      refine j_aload_n hE (i := 0) dX5_setValue_25 rfl rfl ?_
      refine j_cVv hE mlX5_38 hc.f0 (fun l hl => c_X5_save hl K _ _ _ _ _ _ _ _ _ _ _ _ _ _ _ _ _ _ _ _ _ hc hpc) rfl rfl (Nat.le_of_ble_eq_true rfl) (by decide) (by decide) (by omega) (by omega) dX5_setValue_26 (fun G9 hs9 hp => ?_) (fun _ _ h => h.elim)
      obtain ⟨hc, hO9⟩ := hp
      replace hO := hO.tr hO9
      refine j_aload_n hE (i := 3) dX5_setValue_29 rfl rfl ?_
      refine j_get hE flX5_106 (hc.g (st_p0 hj12)) rfl dX5_setValue_30 ?_
      refine j_ist4 hE dX5_setValue_33 (by decide) rfl ?_
      refine j_aload_n hE (i := 3) dX5_setValue_35 rfl rfl ?_
      refine j_iload_n hE (i := 2) dX5_setValue_36 rfl rfl ?_
      refine j_put hE flX5_106 (hc.g (st_p0 hj12)) rfl rfl (by simp only [List.length_cons, List.length_nil]; omega) dX5_setValue_37 ?_
      refine jgen (fun G8 hG8 => ?_)
      obtain ⟨hc, hO9⟩ := hc.pf hj12 _ (nI v) _ _ _ _ _ _ hG8
      replace hO := hO.tr hO9
      refine j_iload hE dX5_setValue_40 rfl ?_
      refine j_iret hE hQ rfl (by omega) (by omega) dX5_setValue_42 ?_
      exact ⟨_, rfl, rfl, hc, hO⟩

set_option maxRecDepth 100000 in
set_option maxHeartbeats 4000000 in
theorem c_X5_setValue_f1 {l : Launch} (hl : l.stackTraces = false) (K : jK) (G : GH) (x hs n : Nat) (q : Nat → Nat) (cnt nw w m : Nat) (pl : Bool) (tk : Nat) (ow : Nat → Int32) (P : Nat → PaV) (pc nx : Nat) (bits : Nat → Int32) (nb : Nat) (rc : RcV) (md : Nat) (S : Nat → StV) (d : LyV) (hc : fcOk K G x n q cnt nw (w, m, pl, tk, ow, P, pc, nx, bits, nb, rc, md) S d) (hpc : pc ≤ 12) (p r : Int32) (hj : ∀ j, j < pc → p ≠ nI j) : Ct l K yX5_setValue cX5_setValue 5 (some .int) 8 124 2 12 [.ref x, .int p, .int r] G hs (pI (fun _ _ _ => False)) (fun X G' => X = jIX ∧ G' = G) := by
  refine Ct.ofA hl (by decide) (Nat.le_of_ble_eq_true rfl) (L0 := [some (.ref x), some (.int p), some (.int r), none, none]) (jL_of 2 rfl) ?_
  intro A E hE hQ hX hNm
  have hO : fO x G G := fO.rf
  have hnb : nb ≤ 2048 := hc.f8
  refine j_aload_n hE (i := 0) dX5_setValue_0 rfl rfl ?_
  refine j_iload_n hE (i := 1) dX5_setValue_1 rfl rfl ?_
  refine j_cVr hE mlX5_87 hc.f0 (fun l hl => c_X5_parameterAt_f hl K _ _ _ _ _ _ _ _ _ _ _ _ _ _ _ _ _ _ _ _ _ hc hpc _ hj) rfl rfl (Nat.le_of_ble_eq_true rfl) (by decide) (by decide) (by omega) (by omega) dX5_setValue_2 (fun r G9 hs9 hp => ?_) (fun X G9 h => by obtain ⟨rfl, rfl⟩ := h; exact j_out hE hX hQ (by omega) (by omega) ⟨rfl, rfl⟩)
  exact hp.elim

set_option maxRecDepth 100000 in
set_option maxHeartbeats 4000000 in
theorem c_X5_setValue_f2 {l : Launch} (hl : l.stackTraces = false) (K : jK) (G : GH) (x hs n : Nat) (q : Nat → Nat) (cnt nw w m : Nat) (pl : Bool) (tk : Nat) (ow : Nat → Int32) (P : Nat → PaV) (pc nx : Nat) (bits : Nat → Int32) (nb : Nat) (rc : RcV) (md : Nat) (S : Nat → StV) (d : LyV) (hc : fcOk K G x n q cnt nw (w, m, pl, tk, ow, P, pc, nx, bits, nb, rc, md) S d) (hpc : pc ≤ 12) (j : Nat) (hj : j < pc) (r : Int32) (hq : ∀ j, 0 ≤ j → j ≤ 255 → r ≠ nI j) : Ct l K yX5_setValue cX5_setValue 5 (some .int) 8 124 2 12 [.ref x, .int (nI j), .int r] G hs (pI (fun _ _ _ => False)) (fun X G' => X = jIA ∧ G' = G) := by
  refine Ct.ofA hl (by decide) (Nat.le_of_ble_eq_true rfl) (L0 := [some (.ref x), some (.int (nI j)), some (.int r), none, none]) (jL_of 2 rfl) ?_
  intro A E hE hQ hX hNm
  have hO : fO x G G := fO.rf
  have hnb : nb ≤ 2048 := hc.f8
  have hj12 : j < 12 := by omega
  refine j_aload_n hE (i := 0) dX5_setValue_0 rfl rfl ?_
  refine j_iload_n hE (i := 1) dX5_setValue_1 rfl rfl ?_
  refine j_cVr hE mlX5_87 hc.f0 (fun l hl => c_X5_parameterAt_t hl K _ _ _ _ _ _ _ _ _ _ _ _ _ _ _ _ _ _ _ _ _ hc hpc j hj) rfl rfl (Nat.le_of_ble_eq_true rfl) (by decide) (by decide) (by omega) (by omega) dX5_setValue_2 (fun r G9 hs9 hp => ?_) (fun _ _ h => h.elim)
  obtain ⟨rfl, rfl⟩ := hp
  refine j_ast3 hE dX5_setValue_5 rfl (by decide) rfl ?_
  refine j_iload_n hE (i := 2) dX5_setValue_6 rfl rfl ?_
  refine j_if_lt hE (tgt := 21) dX5_setValue_7 (by decide) (fun h7 => ?_) (fun h7 => ?_)
  · refine j_iconst hE (v := nI 0) dX5_setValue_21 (by decide) ?_
    refine j_cSv hE mlX5_34 (fun l hl => c_X5_requireArgument_f hl K _ _) rfl rfl (Nat.le_of_ble_eq_true rfl) (by decide) (by decide) (by omega) (by omega) dX5_setValue_22 (fun G9 hs9 hp => ?_) (fun X G9 h => by obtain ⟨rfl, rfl⟩ := h; exact j_out hE hX hQ (by omega) (by omega) ⟨rfl, rfl⟩)
    exact hp.elim
  · refine j_iload_n hE (i := 2) dX5_setValue_10 rfl rfl ?_
    refine j_sipush hE (v := nI 255) dX5_setValue_11 (by decide) ?_
    refine j_ic_gt hE (tgt := 21) dX5_setValue_14 (by decide) (fun h14 => ?_) (fun h14 => ?_)
    · refine j_iconst hE (v := nI 0) dX5_setValue_21 (by decide) ?_
      refine j_cSv hE mlX5_34 (fun l hl => c_X5_requireArgument_f hl K _ _) rfl rfl (Nat.le_of_ble_eq_true rfl) (by decide) (by decide) (by omega) (by omega) dX5_setValue_22 (fun G9 hs9 hp => ?_) (fun X G9 h => by obtain ⟨rfl, rfl⟩ := h; exact j_out hE hX hQ (by omega) (by omega) ⟨rfl, rfl⟩)
      exact hp.elim
    · exact absurd (And.intro (Int32.not_lt.mp h7) (Int32.not_lt.mp h14)) (rg_f (a := 0) (b := 255) hq (by omega) (by omega))

set_option maxRecDepth 100000 in
set_option maxHeartbeats 4000000 in
theorem c_X5_setPersistence_t {l : Launch} (hl : l.stackTraces = false) (K : jK) (G : GH) (x hs n : Nat) (q : Nat → Nat) (cnt nw w m : Nat) (pl : Bool) (tk : Nat) (ow : Nat → Int32) (P : Nat → PaV) (pc nx : Nat) (bits : Nat → Int32) (nb : Nat) (rc : RcV) (md : Nat) (S : Nat → StV) (d : LyV) (hc : fcOk K G x n q cnt nw (w, m, pl, tk, ow, P, pc, nx, bits, nb, rc, md) S d) (hpc : pc ≤ 12) (j v : Nat) (hj : j < pc) (hv1 : 1 ≤ v) (hv : v ≤ 5) : Ct l K yX5_setPersistence cX5_setPersistence 5 (some .int) 8 124 2 12 [.ref x, .int (nI j), .int (nI v)] G hs (pI (fun z9 G' _ => z9 = (P j).2.2.2.2.2.2.1 ∧ fcOk K G' x n q (sC cnt) ((nw + 1) % 4) (w, m, pl, tk, ow, (va_up P j ((P j).1, (P j).2.1, (P j).2.2.1, (P j).2.2.2.1, (P j).2.2.2.2.1, (P j).2.2.2.2.2.1, nI v, (P j).2.2.2.2.2.2.2)), pc, nx, bits, nb, rc, md) (svS S nw (w, m, pl, tk, ow, P, pc, nx, bits, nb, rc, md)) d ∧ fO x G G')) jno := by
  refine Ct.ofA hl (by decide) (Nat.le_of_ble_eq_true rfl) (L0 := [some (.ref x), some (.int (nI j)), some (.int (nI v)), none, none]) (jL_of 2 rfl) ?_
  intro A E hE hQ hX hNm
  have hO : fO x G G := fO.rf
  have hnb : nb ≤ 2048 := hc.f8
  have hj12 : j < 12 := by omega
  refine j_aload_n hE (i := 0) dX5_setPersistence_0 rfl rfl ?_
  refine j_iload_n hE (i := 1) dX5_setPersistence_1 rfl rfl ?_
  refine j_cVr hE mlX5_87 hc.f0 (fun l hl => c_X5_parameterAt_t hl K _ _ _ _ _ _ _ _ _ _ _ _ _ _ _ _ _ _ _ _ _ hc hpc j hj) rfl rfl (Nat.le_of_ble_eq_true rfl) (by decide) (by decide) (by omega) (by omega) dX5_setPersistence_2 (fun r G9 hs9 hp => ?_) (fun _ _ h => h.elim)
  obtain ⟨rfl, rfl⟩ := hp
  refine j_ast3 hE dX5_setPersistence_5 rfl (by decide) rfl ?_
  refine j_iload_n hE (i := 2) dX5_setPersistence_6 rfl rfl ?_
  refine j_iconst hE (v := nI 1) dX5_setPersistence_7 (by decide) ?_
  refine j_ic_ltN hE (tgt := 20) dX5_setPersistence_8 (by decide) (by omega) (by omega) (fun h8 => ?_) (fun h8 => ?_)
  · exfalso; omega
  · refine j_iload_n hE (i := 2) dX5_setPersistence_11 rfl rfl ?_
    refine j_iconst hE (v := nI 5) dX5_setPersistence_12 (by decide) ?_
    refine j_ic_gtN hE (tgt := 20) dX5_setPersistence_13 (by decide) (by omega) (by omega) (fun h13 => ?_) (fun h13 => ?_)
    · exfalso; omega
    · refine j_iconst hE (v := nI 1) dX5_setPersistence_16 (by decide) ?_
      refine j_goto hE (tgt := 21) dX5_setPersistence_17 (by decide) ?_
      refine j_cSv hE mlX5_34 (fun l hl => c_X5_requireArgument_t hl K _ _) rfl rfl (Nat.le_of_ble_eq_true rfl) (by decide) (by decide) (by omega) (by omega) dX5_setPersistence_21 (fun G9 hs9 hp => ?_) (fun _ _ h => h.elim)
      subst hp
      refine j_aload_n hE (i := 0) dX5_setPersistence_24 rfl rfl ?_
      refine j_cVv hE mlX5_38 hc.f0 (fun l hl => c_X5_save hl K _ _ _ _ _ _ _ _ _ _ _ _ _ _ _ _ _ _ _ _ _ hc hpc) rfl rfl (Nat.le_of_ble_eq_true rfl) (by decide) (by decide) (by omega) (by omega) dX5_setPersistence_25 (fun G9 hs9 hp => ?_) (fun _ _ h => h.elim)
      obtain ⟨hc, hO9⟩ := hp
      replace hO := hO.tr hO9
      refine j_aload_n hE (i := 3) dX5_setPersistence_28 rfl rfl ?_
      refine j_get hE flX5_164 (hc.g (st_p0 hj12)) rfl dX5_setPersistence_29 ?_
      refine j_ist4 hE dX5_setPersistence_32 (by decide) rfl ?_
      refine j_aload_n hE (i := 3) dX5_setPersistence_34 rfl rfl ?_
      refine j_iload_n hE (i := 2) dX5_setPersistence_35 rfl rfl ?_
      refine j_put hE flX5_164 (hc.g (st_p0 hj12)) rfl rfl (by simp only [List.length_cons, List.length_nil]; omega) dX5_setPersistence_36 ?_
      refine jgen (fun G8 hG8 => ?_)
      obtain ⟨hc, hO9⟩ := hc.pf hj12 _ _ _ _ (nI v) _ _ _ hG8
      replace hO := hO.tr hO9
      refine j_iload hE dX5_setPersistence_39 rfl ?_
      refine j_iret hE hQ rfl (by omega) (by omega) dX5_setPersistence_41 ?_
      exact ⟨_, rfl, rfl, hc, hO⟩

set_option maxRecDepth 100000 in
set_option maxHeartbeats 4000000 in
theorem c_X5_setPersistence_f1 {l : Launch} (hl : l.stackTraces = false) (K : jK) (G : GH) (x hs n : Nat) (q : Nat → Nat) (cnt nw w m : Nat) (pl : Bool) (tk : Nat) (ow : Nat → Int32) (P : Nat → PaV) (pc nx : Nat) (bits : Nat → Int32) (nb : Nat) (rc : RcV) (md : Nat) (S : Nat → StV) (d : LyV) (hc : fcOk K G x n q cnt nw (w, m, pl, tk, ow, P, pc, nx, bits, nb, rc, md) S d) (hpc : pc ≤ 12) (p r : Int32) (hj : ∀ j, j < pc → p ≠ nI j) : Ct l K yX5_setPersistence cX5_setPersistence 5 (some .int) 8 124 2 12 [.ref x, .int p, .int r] G hs (pI (fun _ _ _ => False)) (fun X G' => X = jIX ∧ G' = G) := by
  refine Ct.ofA hl (by decide) (Nat.le_of_ble_eq_true rfl) (L0 := [some (.ref x), some (.int p), some (.int r), none, none]) (jL_of 2 rfl) ?_
  intro A E hE hQ hX hNm
  have hO : fO x G G := fO.rf
  have hnb : nb ≤ 2048 := hc.f8
  refine j_aload_n hE (i := 0) dX5_setPersistence_0 rfl rfl ?_
  refine j_iload_n hE (i := 1) dX5_setPersistence_1 rfl rfl ?_
  refine j_cVr hE mlX5_87 hc.f0 (fun l hl => c_X5_parameterAt_f hl K _ _ _ _ _ _ _ _ _ _ _ _ _ _ _ _ _ _ _ _ _ hc hpc _ hj) rfl rfl (Nat.le_of_ble_eq_true rfl) (by decide) (by decide) (by omega) (by omega) dX5_setPersistence_2 (fun r G9 hs9 hp => ?_) (fun X G9 h => by obtain ⟨rfl, rfl⟩ := h; exact j_out hE hX hQ (by omega) (by omega) ⟨rfl, rfl⟩)
  exact hp.elim

set_option maxRecDepth 100000 in
set_option maxHeartbeats 4000000 in
theorem c_X5_setPersistence_f2 {l : Launch} (hl : l.stackTraces = false) (K : jK) (G : GH) (x hs n : Nat) (q : Nat → Nat) (cnt nw w m : Nat) (pl : Bool) (tk : Nat) (ow : Nat → Int32) (P : Nat → PaV) (pc nx : Nat) (bits : Nat → Int32) (nb : Nat) (rc : RcV) (md : Nat) (S : Nat → StV) (d : LyV) (hc : fcOk K G x n q cnt nw (w, m, pl, tk, ow, P, pc, nx, bits, nb, rc, md) S d) (hpc : pc ≤ 12) (j : Nat) (hj : j < pc) (r : Int32) (hq : ∀ j, 1 ≤ j → j ≤ 5 → r ≠ nI j) : Ct l K yX5_setPersistence cX5_setPersistence 5 (some .int) 8 124 2 12 [.ref x, .int (nI j), .int r] G hs (pI (fun _ _ _ => False)) (fun X G' => X = jIA ∧ G' = G) := by
  refine Ct.ofA hl (by decide) (Nat.le_of_ble_eq_true rfl) (L0 := [some (.ref x), some (.int (nI j)), some (.int r), none, none]) (jL_of 2 rfl) ?_
  intro A E hE hQ hX hNm
  have hO : fO x G G := fO.rf
  have hnb : nb ≤ 2048 := hc.f8
  have hj12 : j < 12 := by omega
  refine j_aload_n hE (i := 0) dX5_setPersistence_0 rfl rfl ?_
  refine j_iload_n hE (i := 1) dX5_setPersistence_1 rfl rfl ?_
  refine j_cVr hE mlX5_87 hc.f0 (fun l hl => c_X5_parameterAt_t hl K _ _ _ _ _ _ _ _ _ _ _ _ _ _ _ _ _ _ _ _ _ hc hpc j hj) rfl rfl (Nat.le_of_ble_eq_true rfl) (by decide) (by decide) (by omega) (by omega) dX5_setPersistence_2 (fun r G9 hs9 hp => ?_) (fun _ _ h => h.elim)
  obtain ⟨rfl, rfl⟩ := hp
  refine j_ast3 hE dX5_setPersistence_5 rfl (by decide) rfl ?_
  refine j_iload_n hE (i := 2) dX5_setPersistence_6 rfl rfl ?_
  refine j_iconst hE (v := nI 1) dX5_setPersistence_7 (by decide) ?_
  refine j_ic_lt hE (tgt := 20) dX5_setPersistence_8 (by decide) (fun h8 => ?_) (fun h8 => ?_)
  · refine j_iconst hE (v := nI 0) dX5_setPersistence_20 (by decide) ?_
    refine j_cSv hE mlX5_34 (fun l hl => c_X5_requireArgument_f hl K _ _) rfl rfl (Nat.le_of_ble_eq_true rfl) (by decide) (by decide) (by omega) (by omega) dX5_setPersistence_21 (fun G9 hs9 hp => ?_) (fun X G9 h => by obtain ⟨rfl, rfl⟩ := h; exact j_out hE hX hQ (by omega) (by omega) ⟨rfl, rfl⟩)
    exact hp.elim
  · refine j_iload_n hE (i := 2) dX5_setPersistence_11 rfl rfl ?_
    refine j_iconst hE (v := nI 5) dX5_setPersistence_12 (by decide) ?_
    refine j_ic_gt hE (tgt := 20) dX5_setPersistence_13 (by decide) (fun h13 => ?_) (fun h13 => ?_)
    · refine j_iconst hE (v := nI 0) dX5_setPersistence_20 (by decide) ?_
      refine j_cSv hE mlX5_34 (fun l hl => c_X5_requireArgument_f hl K _ _) rfl rfl (Nat.le_of_ble_eq_true rfl) (by decide) (by decide) (by omega) (by omega) dX5_setPersistence_21 (fun G9 hs9 hp => ?_) (fun X G9 h => by obtain ⟨rfl, rfl⟩ := h; exact j_out hE hX hQ (by omega) (by omega) ⟨rfl, rfl⟩)
      exact hp.elim
    · exact absurd (And.intro (Int32.not_lt.mp h8) (Int32.not_lt.mp h13)) (rg_f (a := 1) (b := 5) hq (by omega) (by omega))

set_option maxRecDepth 100000 in
set_option maxHeartbeats 4000000 in
theorem c_X5_setMode_t {l : Launch} (hl : l.stackTraces = false) (K : jK) (G : GH) (x hs n : Nat) (q : Nat → Nat) (cnt nw w m : Nat) (pl : Bool) (tk : Nat) (ow : Nat → Int32) (P : Nat → PaV) (pc nx : Nat) (bits : Nat → Int32) (nb : Nat) (rc : RcV) (md : Nat) (S : Nat → StV) (d : LyV) (hc : fcOk K G x n q cnt nw (w, m, pl, tk, ow, P, pc, nx, bits, nb, rc, md) S d) (hpc : pc ≤ 12) (v : Nat) (hv : v ≤ 2) : Ct l K yX5_setMode cX5_setMode 3 (some .int) 7 102 1 6 [.ref x, .int (nI v)] G hs (pI (fun z9 G' _ => z9 = nI md ∧ fcOk K G' x n q (sC cnt) ((nw + 1) % 4) (w, m, pl, tk, ow, P, pc, nx, bits, nb, rc, v) (svS S nw (w, m, pl, tk, ow, P, pc, nx, bits, nb, rc, md)) d ∧ fO x G G')) jno := by
  refine Ct.ofA hl (by decide) (Nat.le_of_ble_eq_true rfl) (L0 := [some (.ref x), some (.int (nI v)), none]) (jL_of 1 rfl) ?_
  intro A E hE hQ hX hNm
  have hO : fO x G G := fO.rf
  have hnb : nb ≤ 2048 := hc.f8
  refine j_iload_n hE (i := 1) dX5_setMode_0 rfl rfl ?_
  refine j_if_lt hE (tgt := 13) dX5_setMode_1 (by decide) (fun h1 => ?_) (fun h1 => ?_)
  · exact absurd h1 (nI_pos (by omega))
  · refine j_iload_n hE (i := 1) dX5_setMode_4 rfl rfl ?_
    refine j_iconst hE (v := nI 3) dX5_setMode_5 (by decide) ?_
    refine j_ic_geN hE (tgt := 13) dX5_setMode_6 (by decide) (by omega) (by omega) (fun h6 => ?_) (fun h6 => ?_)
    · exfalso; omega
    · refine j_iconst hE (v := nI 1) dX5_setMode_9 (by decide) ?_
      refine j_goto hE (tgt := 14) dX5_setMode_10 (by decide) ?_
      refine j_cSv hE mlX5_34 (fun l hl => c_X5_requireArgument_t hl K _ _) rfl rfl (Nat.le_of_ble_eq_true rfl) (by decide) (by decide) (by omega) (by omega) dX5_setMode_14 (fun G9 hs9 hp => ?_) (fun _ _ h => h.elim)
      subst hp
      refine j_aload_n hE (i := 0) dX5_setMode_17 rfl rfl ?_
      refine j_cVv hE mlX5_38 hc.f0 (fun l hl => c_X5_save hl K _ _ _ _ _ _ _ _ _ _ _ _ _ _ _ _ _ _ _ _ _ hc hpc) rfl rfl (Nat.le_of_ble_eq_true rfl) (by decide) (by decide) (by omega) (by omega) dX5_setMode_18 (fun G9 hs9 hp => ?_) (fun _ _ h => h.elim)
      obtain ⟨hc, hO9⟩ := hp
      replace hO := hO.tr hO9
      refine j_aload_n hE (i := 0) dX5_setMode_21 rfl rfl ?_
      refine j_get hE flX5_12 hc.f0 rfl dX5_setMode_22 ?_
      refine j_get hE flX5_155 (hc.g st_0) rfl dX5_setMode_25 ?_
      refine j_ist2 hE dX5_setMode_28 rfl (by decide) rfl ?_
      refine j_aload_n hE (i := 0) dX5_setMode_29 rfl rfl ?_
      refine j_get hE flX5_12 hc.f0 rfl dX5_setMode_30 ?_
      refine j_iload_n hE (i := 1) dX5_setMode_33 rfl rfl ?_
      refine j_put hE flX5_155 (hc.g st_0) rfl rfl (by simp only [List.length_cons, List.length_nil]; omega) dX5_setMode_34 ?_
      refine jgen (fun G8 hG8 => ?_)
      obtain ⟨hc, hO9⟩ := hc.sf pc nx v hG8
      replace hO := hO.tr hO9
      refine j_iload_n hE (i := 2) dX5_setMode_37 rfl rfl ?_
      refine j_iret hE hQ rfl (by omega) (by omega) dX5_setMode_38 ?_
      exact ⟨_, rfl, rfl, hc, hO⟩

set_option maxRecDepth 100000 in
set_option maxHeartbeats 4000000 in
theorem c_X5_setMode_f {l : Launch} (hl : l.stackTraces = false) (K : jK) (G : GH) (x hs n : Nat) (q : Nat → Nat) (cnt nw w m : Nat) (pl : Bool) (tk : Nat) (ow : Nat → Int32) (P : Nat → PaV) (pc nx : Nat) (bits : Nat → Int32) (nb : Nat) (rc : RcV) (md : Nat) (S : Nat → StV) (d : LyV) (hc : fcOk K G x n q cnt nw (w, m, pl, tk, ow, P, pc, nx, bits, nb, rc, md) S d) (hpc : pc ≤ 12) (p : Int32) (hj : ∀ j, 0 ≤ j → j ≤ 2 → p ≠ nI j) : Ct l K yX5_setMode cX5_setMode 3 (some .int) 7 102 1 6 [.ref x, .int p] G hs (pI (fun _ _ _ => False)) (fun X G' => X = jIA ∧ G' = G) := by
  refine Ct.ofA hl (by decide) (Nat.le_of_ble_eq_true rfl) (L0 := [some (.ref x), some (.int p), none]) (jL_of 1 rfl) ?_
  intro A E hE hQ hX hNm
  have hO : fO x G G := fO.rf
  have hnb : nb ≤ 2048 := hc.f8
  refine j_iload_n hE (i := 1) dX5_setMode_0 rfl rfl ?_
  refine j_if_lt hE (tgt := 13) dX5_setMode_1 (by decide) (fun h1 => ?_) (fun h1 => ?_)
  · refine j_iconst hE (v := nI 0) dX5_setMode_13 (by decide) ?_
    refine j_cSv hE mlX5_34 (fun l hl => c_X5_requireArgument_f hl K _ _) rfl rfl (Nat.le_of_ble_eq_true rfl) (by decide) (by decide) (by omega) (by omega) dX5_setMode_14 (fun G9 hs9 hp => ?_) (fun X G9 h => by obtain ⟨rfl, rfl⟩ := h; exact j_out hE hX hQ (by omega) (by omega) ⟨rfl, rfl⟩)
    exact hp.elim
  · refine j_iload_n hE (i := 1) dX5_setMode_4 rfl rfl ?_
    refine j_iconst hE (v := nI 3) dX5_setMode_5 (by decide) ?_
    refine j_ic_ge hE (tgt := 13) dX5_setMode_6 (by decide) (fun h6 => ?_) (fun h6 => ?_)
    · refine j_iconst hE (v := nI 0) dX5_setMode_13 (by decide) ?_
      refine j_cSv hE mlX5_34 (fun l hl => c_X5_requireArgument_f hl K _ _) rfl rfl (Nat.le_of_ble_eq_true rfl) (by decide) (by decide) (by omega) (by omega) dX5_setMode_14 (fun G9 hs9 hp => ?_) (fun X G9 h => by obtain ⟨rfl, rfl⟩ := h; exact j_out hE hX hQ (by omega) (by omega) ⟨rfl, rfl⟩)
      exact hp.elim
    · obtain ⟨j, hj9, rfl⟩ := nI_of h1
      exact absurd rfl (hj j (by omega) (by have := (nI_ltI hj9 (b := 3) (by omega)).mp (Int32.not_le.mp h6); omega))

set_option maxRecDepth 100000 in
set_option maxHeartbeats 4000000 in
theorem c_X5_setLimits_t {l : Launch} (hl : l.stackTraces = false) (K : jK) (G : GH) (x hs n : Nat) (q : Nat → Nat) (cnt nw w m : Nat) (pl : Bool) (tk : Nat) (ow : Nat → Int32) (P : Nat → PaV) (pc nx : Nat) (bits : Nat → Int32) (nb : Nat) (rc : RcV) (md : Nat) (S : Nat → StV) (d : LyV) (hc : fcOk K G x n q cnt nw (w, m, pl, tk, ow, P, pc, nx, bits, nb, rc, md) S d) (hpc : pc ≤ 12) (j v a b : Nat) (hj : j < pc) (hv : v ≤ 2) (hab : a ≤ b) (hb : b ≤ 255) : Ct l K yX5_setLimits cX5_setLimits 7 (some .int) 8 124 3 18 [.ref x, .int (nI j), .int (nI v), .int (nI a), .int (nI b)] G hs (pI (fun z9 G' _ => z9 = nI 1000 * (P j).2.2.2.2.1 v + (P j).2.2.2.2.2.1 v ∧ fcOk K G' x n q (sC cnt) ((nw + 1) % 4) (w, m, pl, tk, ow, (va_up P j ((P j).1, (P j).2.1, (P j).2.2.1, (P j).2.2.2.1, upd (P j).2.2.2.2.1 v (nI a), upd (P j).2.2.2.2.2.1 v (nI b), (P j).2.2.2.2.2.2)), pc, nx, bits, nb, rc, md) (svS S nw (w, m, pl, tk, ow, P, pc, nx, bits, nb, rc, md)) d ∧ fO x G G')) jno := by
  refine Ct.ofA hl (by decide) (Nat.le_of_ble_eq_true rfl) (L0 := [some (.ref x), some (.int (nI j)), some (.int (nI v)), some (.int (nI a)), some (.int (nI b)), none, none]) (jL_of 2 rfl) ?_
  intro A E hE hQ hX hNm
  have hO : fO x G G := fO.rf
  have hnb : nb ≤ 2048 := hc.f8
  have hj12 : j < 12 := by omega
  refine j_aload_n hE (i := 0) dX5_setLimits_0 rfl rfl ?_
  refine j_iload_n hE (i := 1) dX5_setLimits_1 rfl rfl ?_
  refine j_cVr hE mlX5_87 hc.f0 (fun l hl => c_X5_parameterAt_t hl K _ _ _ _ _ _ _ _ _ _ _ _ _ _ _ _ _ _ _ _ _ hc hpc j hj) rfl rfl (Nat.le_of_ble_eq_true rfl) (by decide) (by decide) (by omega) (by omega) dX5_setLimits_2 (fun r G9 hs9 hp => ?_) (fun _ _ h => h.elim)
  obtain ⟨rfl, rfl⟩ := hp
  refine j_ast5 hE dX5_setLimits_5 (by decide) rfl ?_
  refine j_iload_n hE (i := 2) dX5_setLimits_7 rfl rfl ?_
  refine j_if_lt hE (tgt := 20) dX5_setLimits_8 (by decide) (fun h8 => ?_) (fun h8 => ?_)
  · exact absurd h8 (nI_pos (by omega))
  · refine j_iload_n hE (i := 2) dX5_setLimits_11 rfl rfl ?_
    refine j_iconst hE (v := nI 3) dX5_setLimits_12 (by decide) ?_
    refine j_ic_geN hE (tgt := 20) dX5_setLimits_13 (by decide) (by omega) (by omega) (fun h13 => ?_) (fun h13 => ?_)
    · exfalso; omega
    · refine j_iconst hE (v := nI 1) dX5_setLimits_16 (by decide) ?_
      refine j_goto hE (tgt := 21) dX5_setLimits_17 (by decide) ?_
      refine j_cSv hE mlX5_34 (fun l hl => c_X5_requireArgument_t hl K _ _) rfl rfl (Nat.le_of_ble_eq_true rfl) (by decide) (by decide) (by omega) (by omega) dX5_setLimits_21 (fun G9 hs9 hp => ?_) (fun _ _ h => h.elim)
      subst hp
      refine j_iload_n hE (i := 3) dX5_setLimits_24 rfl rfl ?_
      refine j_if_lt hE (tgt := 46) dX5_setLimits_25 (by decide) (fun h25 => ?_) (fun h25 => ?_)
      · exact absurd h25 (nI_pos (by omega))
      · refine j_iload_n hE (i := 3) dX5_setLimits_28 rfl rfl ?_
        refine j_iload hE dX5_setLimits_29 rfl ?_
        refine j_ic_gtN hE (tgt := 46) dX5_setLimits_31 (by decide) (by omega) (by omega) (fun h31 => ?_) (fun h31 => ?_)
        · exfalso; omega
        · refine j_iload hE dX5_setLimits_34 rfl ?_
          refine j_sipush hE (v := nI 255) dX5_setLimits_36 (by decide) ?_
          refine j_ic_gtN hE (tgt := 46) dX5_setLimits_39 (by decide) (by omega) (by omega) (fun h39 => ?_) (fun h39 => ?_)
          · exfalso; omega
          · refine j_iconst hE (v := nI 1) dX5_setLimits_42 (by decide) ?_
            refine j_goto hE (tgt := 47) dX5_setLimits_43 (by decide) ?_
            refine j_cSv hE mlX5_34 (fun l hl => c_X5_requireArgument_t hl K _ _) rfl rfl (Nat.le_of_ble_eq_true rfl) (by decide) (by decide) (by omega) (by omega) dX5_setLimits_47 (fun G9 hs9 hp => ?_) (fun _ _ h => h.elim)
            subst hp
            refine j_aload_n hE (i := 0) dX5_setLimits_50 rfl rfl ?_
            refine j_cVv hE mlX5_38 hc.f0 (fun l hl => c_X5_save hl K _ _ _ _ _ _ _ _ _ _ _ _ _ _ _ _ _ _ _ _ _ hc hpc) rfl rfl (Nat.le_of_ble_eq_true rfl) (by decide) (by decide) (by omega) (by omega) dX5_setLimits_51 (fun G9 hs9 hp => ?_) (fun _ _ h => h.elim)
            obtain ⟨hc, hO9⟩ := hp
            replace hO := hO.tr hO9
            refine j_sipush hE (v := nI 1000) dX5_setLimits_54 (by decide) ?_
            refine j_aload hE dX5_setLimits_57 rfl ?_
            refine j_get hE flX5_158 (hc.g (st_p0 hj12)) rfl dX5_setLimits_59 ?_
            refine j_iload_n hE (i := 2) dX5_setLimits_62 rfl rfl ?_
            refine j_iald hE (hc.g (st_p1 hj12)) rfl (by omega) (by decide) dX5_setLimits_63 ?_
            refine j_imul hE dX5_setLimits_64 ?_
            refine j_aload hE dX5_setLimits_65 rfl ?_
            refine j_get hE flX5_161 (hc.g (st_p0 hj12)) rfl dX5_setLimits_67 ?_
            refine j_iload_n hE (i := 2) dX5_setLimits_70 rfl rfl ?_
            refine j_iald hE (hc.g (st_p2 hj12)) rfl (by omega) (by decide) dX5_setLimits_71 ?_
            refine j_iadd hE dX5_setLimits_72 ?_
            refine j_ist6 hE dX5_setLimits_73 (by decide) rfl ?_
            refine j_aload hE dX5_setLimits_75 rfl ?_
            refine j_get hE flX5_158 (hc.g (st_p0 hj12)) rfl dX5_setLimits_77 ?_
            refine j_iload_n hE (i := 2) dX5_setLimits_80 rfl rfl ?_
            refine j_iload_n hE (i := 3) dX5_setLimits_81 rfl rfl ?_
            refine j_iast hE (hc.g (st_p1 hj12)) rfl (by omega) (by decide) dX5_setLimits_82 ?_
            refine jgen (fun G8 hG8 => ?_)
            obtain ⟨hc, hO9⟩ := hc.p1 hj12 (upd (P j).2.2.2.2.1 v (nI a)) hG8
            replace hO := hO.tr hO9
            refine j_aload hE dX5_setLimits_83 rfl ?_
            refine j_get hE flX5_161 (hc.g (st_p0 hj12)) rfl dX5_setLimits_85 ?_
            refine j_iload_n hE (i := 2) dX5_setLimits_88 rfl rfl ?_
            refine j_iload hE dX5_setLimits_89 rfl ?_
            refine j_iast hE (hc.g (st_p2 hj12)) rfl (by omega) (by decide) dX5_setLimits_91 ?_
            refine jgen (fun G8 hG8 => ?_)
            simp only [va_up_self] at hG8
            obtain ⟨hc, hO9⟩ := hc.p2 hj12 (upd (P j).2.2.2.2.2.1 v (nI b)) hG8
            replace hO := hO.tr hO9
            refine j_iload hE dX5_setLimits_92 rfl ?_
            refine j_iret hE hQ rfl (by omega) (by omega) dX5_setLimits_94 ?_
            rw [va_up_self, va_up_up] at hc
            exact ⟨_, rfl, rfl, hc, hO⟩

set_option maxRecDepth 100000 in
set_option maxHeartbeats 4000000 in
theorem c_X5_setLimits_f1 {l : Launch} (hl : l.stackTraces = false) (K : jK) (G : GH) (x hs n : Nat) (q : Nat → Nat) (cnt nw w m : Nat) (pl : Bool) (tk : Nat) (ow : Nat → Int32) (P : Nat → PaV) (pc nx : Nat) (bits : Nat → Int32) (nb : Nat) (rc : RcV) (md : Nat) (S : Nat → StV) (d : LyV) (hc : fcOk K G x n q cnt nw (w, m, pl, tk, ow, P, pc, nx, bits, nb, rc, md) S d) (hpc : pc ≤ 12) (p r a b : Int32) (hj : ∀ j, j < pc → p ≠ nI j) : Ct l K yX5_setLimits cX5_setLimits 7 (some .int) 8 124 3 18 [.ref x, .int p, .int r, .int a, .int b] G hs (pI (fun _ _ _ => False)) (fun X G' => X = jIX ∧ G' = G) := by
  refine Ct.ofA hl (by decide) (Nat.le_of_ble_eq_true rfl) (L0 := [some (.ref x), some (.int p), some (.int r), some (.int a), some (.int b), none, none]) (jL_of 2 rfl) ?_
  intro A E hE hQ hX hNm
  have hO : fO x G G := fO.rf
  have hnb : nb ≤ 2048 := hc.f8
  refine j_aload_n hE (i := 0) dX5_setLimits_0 rfl rfl ?_
  refine j_iload_n hE (i := 1) dX5_setLimits_1 rfl rfl ?_
  refine j_cVr hE mlX5_87 hc.f0 (fun l hl => c_X5_parameterAt_f hl K _ _ _ _ _ _ _ _ _ _ _ _ _ _ _ _ _ _ _ _ _ hc hpc _ hj) rfl rfl (Nat.le_of_ble_eq_true rfl) (by decide) (by decide) (by omega) (by omega) dX5_setLimits_2 (fun r G9 hs9 hp => ?_) (fun X G9 h => by obtain ⟨rfl, rfl⟩ := h; exact j_out hE hX hQ (by omega) (by omega) ⟨rfl, rfl⟩)
  exact hp.elim

set_option maxRecDepth 100000 in
set_option maxHeartbeats 4000000 in
theorem c_X5_setLimits_f2 {l : Launch} (hl : l.stackTraces = false) (K : jK) (G : GH) (x hs n : Nat) (q : Nat → Nat) (cnt nw w m : Nat) (pl : Bool) (tk : Nat) (ow : Nat → Int32) (P : Nat → PaV) (pc nx : Nat) (bits : Nat → Int32) (nb : Nat) (rc : RcV) (md : Nat) (S : Nat → StV) (d : LyV) (hc : fcOk K G x n q cnt nw (w, m, pl, tk, ow, P, pc, nx, bits, nb, rc, md) S d) (hpc : pc ≤ 12) (j : Nat) (hj : j < pc) (r a b : Int32) (hbad : ∀ v c e, v ≤ 2 → c ≤ e → e ≤ 255 → r = nI v → a = nI c → b = nI e → False) : Ct l K yX5_setLimits cX5_setLimits 7 (some .int) 8 124 3 18 [.ref x, .int (nI j), .int r, .int a, .int b] G hs (pI (fun _ _ _ => False)) (fun X G' => X = jIA ∧ G' = G) := by
  refine Ct.ofA hl (by decide) (Nat.le_of_ble_eq_true rfl) (L0 := [some (.ref x), some (.int (nI j)), some (.int r), some (.int a), some (.int b), none, none]) (jL_of 2 rfl) ?_
  intro A E hE hQ hX hNm
  have hO : fO x G G := fO.rf
  have hnb : nb ≤ 2048 := hc.f8
  have hj12 : j < 12 := by omega
  refine j_aload_n hE (i := 0) dX5_setLimits_0 rfl rfl ?_
  refine j_iload_n hE (i := 1) dX5_setLimits_1 rfl rfl ?_
  refine j_cVr hE mlX5_87 hc.f0 (fun l hl => c_X5_parameterAt_t hl K _ _ _ _ _ _ _ _ _ _ _ _ _ _ _ _ _ _ _ _ _ hc hpc j hj) rfl rfl (Nat.le_of_ble_eq_true rfl) (by decide) (by decide) (by omega) (by omega) dX5_setLimits_2 (fun r G9 hs9 hp => ?_) (fun _ _ h => h.elim)
  obtain ⟨rfl, rfl⟩ := hp
  refine j_ast5 hE dX5_setLimits_5 (by decide) rfl ?_
  refine j_iload_n hE (i := 2) dX5_setLimits_7 rfl rfl ?_
  refine j_if_lt hE (tgt := 20) dX5_setLimits_8 (by decide) (fun h8 => ?_) (fun h8 => ?_)
  · refine j_iconst hE (v := nI 0) dX5_setLimits_20 (by decide) ?_
    refine j_cSv hE mlX5_34 (fun l hl => c_X5_requireArgument_f hl K _ _) rfl rfl (Nat.le_of_ble_eq_true rfl) (by decide) (by decide) (by omega) (by omega) dX5_setLimits_21 (fun G9 hs9 hp => ?_) (fun X G9 h => by obtain ⟨rfl, rfl⟩ := h; exact j_out hE hX hQ (by omega) (by omega) ⟨rfl, rfl⟩)
    exact hp.elim
  · refine j_iload_n hE (i := 2) dX5_setLimits_11 rfl rfl ?_
    refine j_iconst hE (v := nI 3) dX5_setLimits_12 (by decide) ?_
    refine j_ic_ge hE (tgt := 20) dX5_setLimits_13 (by decide) (fun h13 => ?_) (fun h13 => ?_)
    · refine j_iconst hE (v := nI 0) dX5_setLimits_20 (by decide) ?_
      refine j_cSv hE mlX5_34 (fun l hl => c_X5_requireArgument_f hl K _ _) rfl rfl (Nat.le_of_ble_eq_true rfl) (by decide) (by decide) (by omega) (by omega) dX5_setLimits_21 (fun G9 hs9 hp => ?_) (fun X G9 h => by obtain ⟨rfl, rfl⟩ := h; exact j_out hE hX hQ (by omega) (by omega) ⟨rfl, rfl⟩)
      exact hp.elim
    · refine j_iconst hE (v := nI 1) dX5_setLimits_16 (by decide) ?_
      refine j_goto hE (tgt := 21) dX5_setLimits_17 (by decide) ?_
      refine j_cSv hE mlX5_34 (fun l hl => c_X5_requireArgument_t hl K _ _) rfl rfl (Nat.le_of_ble_eq_true rfl) (by decide) (by decide) (by omega) (by omega) dX5_setLimits_21 (fun G9 hs9 hp => ?_) (fun _ _ h => h.elim)
      subst hp
      refine j_iload_n hE (i := 3) dX5_setLimits_24 rfl rfl ?_
      refine j_if_lt hE (tgt := 46) dX5_setLimits_25 (by decide) (fun h25 => ?_) (fun h25 => ?_)
      · refine j_iconst hE (v := nI 0) dX5_setLimits_46 (by decide) ?_
        refine j_cSv hE mlX5_34 (fun l hl => c_X5_requireArgument_f hl K _ _) rfl rfl (Nat.le_of_ble_eq_true rfl) (by decide) (by decide) (by omega) (by omega) dX5_setLimits_47 (fun G9 hs9 hp => ?_) (fun X G9 h => by obtain ⟨rfl, rfl⟩ := h; exact j_out hE hX hQ (by omega) (by omega) ⟨rfl, rfl⟩)
        exact hp.elim
      · refine j_iload_n hE (i := 3) dX5_setLimits_28 rfl rfl ?_
        refine j_iload hE dX5_setLimits_29 rfl ?_
        refine j_ic_gt hE (tgt := 46) dX5_setLimits_31 (by decide) (fun h31 => ?_) (fun h31 => ?_)
        · refine j_iconst hE (v := nI 0) dX5_setLimits_46 (by decide) ?_
          refine j_cSv hE mlX5_34 (fun l hl => c_X5_requireArgument_f hl K _ _) rfl rfl (Nat.le_of_ble_eq_true rfl) (by decide) (by decide) (by omega) (by omega) dX5_setLimits_47 (fun G9 hs9 hp => ?_) (fun X G9 h => by obtain ⟨rfl, rfl⟩ := h; exact j_out hE hX hQ (by omega) (by omega) ⟨rfl, rfl⟩)
          exact hp.elim
        · refine j_iload hE dX5_setLimits_34 rfl ?_
          refine j_sipush hE (v := nI 255) dX5_setLimits_36 (by decide) ?_
          refine j_ic_gt hE (tgt := 46) dX5_setLimits_39 (by decide) (fun h39 => ?_) (fun h39 => ?_)
          · refine j_iconst hE (v := nI 0) dX5_setLimits_46 (by decide) ?_
            refine j_cSv hE mlX5_34 (fun l hl => c_X5_requireArgument_f hl K _ _) rfl rfl (Nat.le_of_ble_eq_true rfl) (by decide) (by decide) (by omega) (by omega) dX5_setLimits_47 (fun G9 hs9 hp => ?_) (fun X G9 h => by obtain ⟨rfl, rfl⟩ := h; exact j_out hE hX hQ (by omega) (by omega) ⟨rfl, rfl⟩)
            exact hp.elim
          · obtain ⟨j8, hj8, rfl⟩ := nI_of h8
            have q8 := (nI_ltI hj8 (b := 3) (by omega)).mp (Int32.not_le.mp h13)
            obtain ⟨j25, hj25, rfl⟩ := nI_of h25
            have q0 : ¬ b < 0 := fun q => h31 (Int32.lt_of_lt_of_le q (Int32.not_lt.mp (nI_pos hj25)))
            obtain ⟨j4, hj4, rfl⟩ := nI_of q0
            exact (hbad j8 j25 j4 (by omega) ((nI_leI hj25 hj4).mp (Int32.not_lt.mp h31)) ((nI_leI hj4 (b := 255) (by omega)).mp (Int32.not_lt.mp h39)) rfl rfl rfl).elim

