/-! ===== the class: a parameter ===== -/
abbrev paC (K : jK) (h : Nat) (ra va la ct : Int32) (lw hg : Nat → Int32) (pe : Int32) (al : Bool) (ou na : Int32) : List va_E := [.inr (2, [.int ra, .int va, .int la, .int ct, .ref (h + 1), .ref (h + 2), .int pe, .int (jb al), .int ou, .int na]), iA K 3 lw, iA K 3 hg]
set_option maxRecDepth 100000 in
set_option maxHeartbeats 4000000 in
theorem c_X2_begin {l : Launch} (hl : l.stackTraces = false) (K : jK) (F : GH) (h hs : Nat) (ra va la ct : Int32) (lw hg : Nat → Int32) (pe : Int32) (al : Bool) (ou na : Int32) (x : Int32) : Ct l K yX2_begin cX2_begin 2 none 1 23 0 0 [.ref h, .int x] (gB F h (paC K h ra va la ct lw hg pe al ou na)) hs (pV (fun G' _ => G' = (gB F h (paC K h x (nI 0) (-1) (nI 0) (itr (flF (nI 0)) 3 lw) (itr (flF (nI 255)) 3 hg) (nI 1) false (nI 0) (nI 0))))) jno := by
  refine Ct.ofA hl (by decide) (Nat.le_of_ble_eq_true rfl) (L0 := [some (.ref h), some (.int x)]) (jL_of 0 rfl) ?_
  intro A E hE hQ hX hNm
  refine j_aload_n hE (i := 0) dX2_begin_0 rfl rfl ?_
  refine j_iload_n hE (i := 1) dX2_begin_1 rfl rfl ?_
  refine b_put0 hE flX2_18 rfl rfl dX2_begin_2 ?_
  refine j_aload_n hE (i := 0) dX2_begin_5 rfl rfl ?_
  refine j_iconst hE (v := nI 0) dX2_begin_6 (by decide) ?_
  refine b_put1 hE flX2_22 rfl rfl dX2_begin_7 ?_
  refine j_aload_n hE (i := 0) dX2_begin_10 rfl rfl ?_
  refine j_iconst hE (v := -1) dX2_begin_11 (by decide) ?_
  refine b_put2 hE flX2_25 rfl rfl dX2_begin_12 ?_
  refine j_aload_n hE (i := 0) dX2_begin_15 rfl rfl ?_
  refine j_iconst hE (v := nI 0) dX2_begin_16 (by decide) ?_
  refine b_put3 hE flX2_28 rfl rfl dX2_begin_17 ?_
  refine j_aload_n hE (i := 0) dX2_begin_20 rfl rfl ?_
  refine j_get hE flX2_9 gB_0 rfl dX2_begin_21 ?_
  refine j_iconst hE (v := nI 0) dX2_begin_24 (by decide) ?_
  refine j_cSv hE mlX2_31 (fun l hl => c_fill hl K _ _ _ 3 _ _ gB_1 (by decide)) rfl rfl (Nat.le_of_ble_eq_true rfl) (by decide) (by decide) (by omega) (by omega) dX2_begin_25 (fun G9 hs9 hp => ?_) (fun _ _ h => h.elim)
  subst hp
  rw [gB_s1]
  refine j_aload_n hE (i := 0) dX2_begin_28 rfl rfl ?_
  refine j_get hE flX2_15 gB_0 rfl dX2_begin_29 ?_
  refine j_sipush hE (v := nI 255) dX2_begin_32 (by decide) ?_
  refine j_cSv hE mlX2_31 (fun l hl => c_fill hl K _ _ _ 3 _ _ gB_2 (by decide)) rfl rfl (Nat.le_of_ble_eq_true rfl) (by decide) (by decide) (by omega) (by omega) dX2_begin_35 (fun G9 hs9 hp => ?_) (fun _ _ h => h.elim)
  subst hp
  rw [gB_s2]
  refine j_aload_n hE (i := 0) dX2_begin_38 rfl rfl ?_
  refine j_iconst hE (v := nI 1) dX2_begin_39 (by decide) ?_
  refine b_put6 hE flX2_37 rfl rfl dX2_begin_40 ?_
  refine j_aload_n hE (i := 0) dX2_begin_43 rfl rfl ?_
  refine j_iconst hE (v := nI 0) dX2_begin_44 (by decide) ?_
  refine b_put7 hE flX2_40 (by decide) (by decide) dX2_begin_45 ?_
  refine j_aload_n hE (i := 0) dX2_begin_48 rfl rfl ?_
  refine j_iconst hE (v := nI 0) dX2_begin_49 (by decide) ?_
  refine b_put8 hE flX2_44 rfl rfl dX2_begin_50 ?_
  refine j_aload_n hE (i := 0) dX2_begin_53 rfl rfl ?_
  refine j_iconst hE (v := nI 0) dX2_begin_54 (by decide) ?_
  refine b_put9 hE flX2_47 rfl rfl dX2_begin_55 ?_
  refine j_vret hE hQ (by omega) (by omega) dX2_begin_58 ?_
  exact ⟨rfl, rfl⟩

set_option maxRecDepth 100000 in
set_option maxHeartbeats 4000000 in
theorem c_X2_copyFrom {l : Launch} (hl : l.stackTraces = false) (K : jK) (F : GH) (h hs : Nat) (ra va la ct : Int32) (lw hg : Nat → Int32) (pe : Int32) (al : Bool) (ou na : Int32) (o : Nat) (ra2 va2 la2 ct2 : Int32) (lw2 hg2 : Nat → Int32) (pe2 : Int32) (al2 : Bool) (ou2 na2 : Int32) (hF0 : F o = some (.inr (2, [.int ra2, .int va2, .int la2, .int ct2, .ref (o + 1), .ref (o + 2), .int pe2, .int (jb al2), .int ou2, .int na2]))) (hF1 : F (o + 1) = some (iA K 3 lw2)) (hF2 : F (o + 2) = some (iA K 3 hg2)) (hd : o + 3 ≤ h ∨ h + 3 ≤ o) : Ct l K yX2_copyFrom cX2_copyFrom 2 none 1 18 0 0 [.ref h, .ref o] (gB F h (paC K h ra va la ct lw hg pe al ou na)) hs (pV (fun G' _ => G' = (gB F h (paC K h ra2 va2 la2 ct2 (va_cpy lw2 lw 0 0 3) (va_cpy hg2 hg 0 0 3) pe2 al2 ou2 na2)))) jno := by
  refine Ct.ofA hl (by decide) (Nat.le_of_ble_eq_true rfl) (L0 := [some (.ref h), some (.ref o)]) (jL_of 0 rfl) ?_
  intro A E hE hQ hX hNm
  refine j_aload_n hE (i := 0) dX2_copyFrom_0 rfl rfl ?_
  refine j_aload_n hE (i := 1) dX2_copyFrom_1 rfl rfl ?_
  refine j_get hE flX2_18 ((gB_out (by simp only [List.length_cons, List.length_nil]; omega)).trans hF0) rfl dX2_copyFrom_2 ?_
  refine b_put0 hE flX2_18 rfl rfl dX2_copyFrom_5 ?_
  refine j_aload_n hE (i := 0) dX2_copyFrom_8 rfl rfl ?_
  refine j_aload_n hE (i := 1) dX2_copyFrom_9 rfl rfl ?_
  refine j_get hE flX2_22 ((gB_out (by simp only [List.length_cons, List.length_nil]; omega)).trans hF0) rfl dX2_copyFrom_10 ?_
  refine b_put1 hE flX2_22 rfl rfl dX2_copyFrom_13 ?_
  refine j_aload_n hE (i := 0) dX2_copyFrom_16 rfl rfl ?_
  refine j_aload_n hE (i := 1) dX2_copyFrom_17 rfl rfl ?_
  refine j_get hE flX2_25 ((gB_out (by simp only [List.length_cons, List.length_nil]; omega)).trans hF0) rfl dX2_copyFrom_18 ?_
  refine b_put2 hE flX2_25 rfl rfl dX2_copyFrom_21 ?_
  refine j_aload_n hE (i := 0) dX2_copyFrom_24 rfl rfl ?_
  refine j_aload_n hE (i := 1) dX2_copyFrom_25 rfl rfl ?_
  refine j_get hE flX2_28 ((gB_out (by simp only [List.length_cons, List.length_nil]; omega)).trans hF0) rfl dX2_copyFrom_26 ?_
  refine b_put3 hE flX2_28 rfl rfl dX2_copyFrom_29 ?_
  refine j_aload_n hE (i := 1) dX2_copyFrom_32 rfl rfl ?_
  refine j_get hE flX2_9 ((gB_out (by simp only [List.length_cons, List.length_nil]; omega)).trans hF0) rfl dX2_copyFrom_33 ?_
  refine j_iconst hE (v := nI 0) dX2_copyFrom_36 (by decide) ?_
  refine j_aload_n hE (i := 0) dX2_copyFrom_37 rfl rfl ?_
  refine j_get hE flX2_9 gB_0 rfl dX2_copyFrom_38 ?_
  refine j_iconst hE (v := nI 0) dX2_copyFrom_41 (by decide) ?_
  refine j_iconst hE (v := nI 3) dX2_copyFrom_42 (by decide) ?_
  refine b_copy1 hE tw_280 tw_211 tw_210 tw_12 ((gB_out (by simp only [List.length_cons, List.length_nil]; omega)).trans hF1) rfl rfl rfl (by omega) (by omega) (by decide) (by decide) (by decide) (Nat.le_of_ble_eq_true rfl) dX2_copyFrom_43 (fun hs => ?_)
  refine j_aload_n hE (i := 1) dX2_copyFrom_46 rfl rfl ?_
  refine j_get hE flX2_15 ((gB_out (by simp only [List.length_cons, List.length_nil]; omega)).trans hF0) rfl dX2_copyFrom_47 ?_
  refine j_iconst hE (v := nI 0) dX2_copyFrom_50 (by decide) ?_
  refine j_aload_n hE (i := 0) dX2_copyFrom_51 rfl rfl ?_
  refine j_get hE flX2_15 gB_0 rfl dX2_copyFrom_52 ?_
  refine j_iconst hE (v := nI 0) dX2_copyFrom_55 (by decide) ?_
  refine j_iconst hE (v := nI 3) dX2_copyFrom_56 (by decide) ?_
  refine b_copy2 hE tw_280 tw_211 tw_210 tw_12 ((gB_out (by simp only [List.length_cons, List.length_nil]; omega)).trans hF2) rfl rfl rfl (by omega) (by omega) (by decide) (by decide) (by decide) (Nat.le_of_ble_eq_true rfl) dX2_copyFrom_57 (fun hs => ?_)
  refine j_aload_n hE (i := 0) dX2_copyFrom_60 rfl rfl ?_
  refine j_aload_n hE (i := 1) dX2_copyFrom_61 rfl rfl ?_
  refine j_get hE flX2_37 ((gB_out (by simp only [List.length_cons, List.length_nil]; omega)).trans hF0) rfl dX2_copyFrom_62 ?_
  refine b_put6 hE flX2_37 rfl rfl dX2_copyFrom_65 ?_
  refine j_aload_n hE (i := 0) dX2_copyFrom_68 rfl rfl ?_
  refine j_aload_n hE (i := 1) dX2_copyFrom_69 rfl rfl ?_
  refine j_get hE flX2_40 ((gB_out (by simp only [List.length_cons, List.length_nil]; omega)).trans hF0) rfl dX2_copyFrom_70 ?_
  refine b_put7 hE flX2_40 (jb_nar _) (jb_fit _) dX2_copyFrom_73 ?_
  refine j_aload_n hE (i := 0) dX2_copyFrom_76 rfl rfl ?_
  refine j_aload_n hE (i := 1) dX2_copyFrom_77 rfl rfl ?_
  refine j_get hE flX2_44 ((gB_out (by simp only [List.length_cons, List.length_nil]; omega)).trans hF0) rfl dX2_copyFrom_78 ?_
  refine b_put8 hE flX2_44 rfl rfl dX2_copyFrom_81 ?_
  refine j_aload_n hE (i := 0) dX2_copyFrom_84 rfl rfl ?_
  refine j_aload_n hE (i := 1) dX2_copyFrom_85 rfl rfl ?_
  refine j_get hE flX2_47 ((gB_out (by simp only [List.length_cons, List.length_nil]; omega)).trans hF0) rfl dX2_copyFrom_86 ?_
  refine b_put9 hE flX2_47 rfl rfl dX2_copyFrom_89 ?_
  refine j_vret hE hQ (by omega) (by omega) dX2_copyFrom_92 ?_
  exact ⟨rfl, rfl⟩

set_option maxRecDepth 100000 in
set_option maxHeartbeats 4000000 in
theorem c_X2_samplesIn_p {l : Launch} (hl : l.stackTraces = false) (K : jK) (F : GH) (h hs : Nat) (va la ct : Int32) (lw hg : Nat → Int32) (pe : Int32) (al : Bool) (ou na : Int32) (m r : Nat) (hm : m ≤ 8) (hr1 : 1 ≤ r) (hr4 : r ≤ 4) : Ct l K yX2_samplesIn cX2_samplesIn 2 (some .int) 0 0 0 0 [.ref h, .int (nI m)] (gB F h (paC K h (nI r) va la ct lw hg pe al ou na)) hs (pI (fun z9 G' _ => z9 = nI (r * m) ∧ G' = (gB F h (paC K h (nI r) va la ct lw hg pe al ou na)))) jno := by
  refine Ct.ofA hl (by decide) (Nat.le_of_ble_eq_true rfl) (L0 := [some (.ref h), some (.int (nI m))]) (jL_of 0 rfl) ?_
  intro A E hE hQ hX hNm
  refine j_aload_n hE (i := 0) dX2_samplesIn_0 rfl rfl ?_
  refine j_get hE flX2_18 gB_0 rfl dX2_samplesIn_1 ?_
  refine j_if_lt hE (tgt := 16) dX2_samplesIn_4 (by decide) (fun h4 => ?_) (fun h4 => ?_)
  · exact absurd h4 (nI_pos (by omega))
  · refine j_aload_n hE (i := 0) dX2_samplesIn_7 rfl rfl ?_
    refine j_get hE flX2_18 gB_0 rfl dX2_samplesIn_8 ?_
    refine j_iload_n hE (i := 1) dX2_samplesIn_11 rfl rfl ?_
    refine j_imulN hE dX2_samplesIn_12 ?_
    refine j_goto hE (tgt := 23) dX2_samplesIn_13 (by decide) ?_
    refine j_iret hE hQ rfl (by omega) (by omega) dX2_samplesIn_23 ?_
    exact ⟨_, rfl, rfl, rfl⟩

set_option maxRecDepth 100000 in
set_option maxHeartbeats 4000000 in
theorem c_X2_samplesIn_n {l : Launch} (hl : l.stackTraces = false) (K : jK) (F : GH) (h hs : Nat) (va la ct : Int32) (lw hg : Nat → Int32) (pe : Int32) (al : Bool) (ou na : Int32) (m q : Nat) (hm : m ≤ 8) (hq : q = 2 ∨ q = 4 ∨ q = 8) : Ct l K yX2_samplesIn cX2_samplesIn 2 (some .int) 0 0 0 0 [.ref h, .int (nI m)] (gB F h (paC K h (-nI q) va la ct lw hg pe al ou na)) hs (pI (fun z9 G' _ => z9 = nI (m / q) ∧ G' = (gB F h (paC K h (-nI q) va la ct lw hg pe al ou na)))) jno := by
  refine Ct.ofA hl (by decide) (Nat.le_of_ble_eq_true rfl) (L0 := [some (.ref h), some (.int (nI m))]) (jL_of 0 rfl) ?_
  intro A E hE hQ hX hNm
  refine j_aload_n hE (i := 0) dX2_samplesIn_0 rfl rfl ?_
  refine j_get hE flX2_18 gB_0 rfl dX2_samplesIn_1 ?_
  refine j_if_lt hE (tgt := 16) dX2_samplesIn_4 (by decide) (fun h4 => ?_) (fun h4 => ?_)
  · refine j_iload_n hE (i := 1) dX2_samplesIn_16 rfl rfl ?_
    refine j_aload_n hE (i := 0) dX2_samplesIn_17 rfl rfl ?_
    refine j_get hE flX2_18 gB_0 rfl dX2_samplesIn_18 ?_
    refine j_ineg hE dX2_samplesIn_21 ?_
    rw [Int32.neg_neg]
    have hq9 : 1 ≤ q ∧ q ≤ 8 := by omega
    refine j_idivN hE dX2_samplesIn_22 (by omega) (by omega) (by omega) ?_
    refine j_iret hE hQ rfl (by omega) (by omega) dX2_samplesIn_23 ?_
    exact ⟨_, rfl, rfl, rfl⟩
  · exact absurd (by rcases hq with rfl | rfl | rfl <;> decide) h4

theorem c_X2_samplesIn {l : Launch} (hl : l.stackTraces = false) (K : jK) (F : GH) (h hs : Nat) (ra va la ct : Int32) (lw hg : Nat → Int32) (pe : Int32) (al : Bool) (ou na : Int32) (m : Nat) (hm : m ≤ 8) (hr : rOk ra) : Ct l K yX2_samplesIn cX2_samplesIn 2 (some .int) 0 0 0 0 [.ref h, .int (nI m)] (gB F h (paC K h ra va la ct lw hg pe al ou na)) hs (pI (fun z9 G' _ => z9 = nI (sOf m ra) ∧ G' = (gB F h (paC K h ra va la ct lw hg pe al ou na)))) jno := by
  rcases hr with ⟨r, h1, h4, rfl⟩ | ⟨q, hq, rfl⟩
  · rw [sOf_p h1 h4]
    exact c_X2_samplesIn_p hl K F h hs va la ct lw hg pe al ou na m r hm h1 h4
  · rw [sOf_n hq]
    exact c_X2_samplesIn_n hl K F h hs va la ct lw hg pe al ou na m q hm hq
set_option maxRecDepth 100000 in
set_option maxHeartbeats 4000000 in
theorem c_X2_isWithinLimits_t {l : Launch} (hl : l.stackTraces = false) (K : jK) (F : GH) (h hs : Nat) (ra va la ct : Int32) (lw hg : Nat → Int32) (pe : Int32) (al : Bool) (ou na : Int32) (v : Int32) (md : Nat) (hmd : md ≤ 2) (hin : lw md ≤ v ∧ v ≤ hg md) : Ct l K yX2_isWithinLimits cX2_isWithinLimits 3 (some .boolean) 0 0 0 0 [.ref h, .int v, .int (nI md)] (gB F h (paC K h ra va la ct lw hg pe al ou na)) hs (pI (fun z9 G' _ => z9 = nI 1 ∧ G' = (gB F h (paC K h ra va la ct lw hg pe al ou na)))) jno := by
  refine Ct.ofA hl (by decide) (Nat.le_of_ble_eq_true rfl) (L0 := [some (.ref h), some (.int v), some (.int (nI md))]) (jL_of 0 rfl) ?_
  intro A E hE hQ hX hNm
  refine j_iload_n hE (i := 2) dX2_isWithinLimits_0 rfl rfl ?_
  refine j_if_lt hE (tgt := 29) dX2_isWithinLimits_1 (by decide) (fun h1 => ?_) (fun h1 => ?_)
  · exact absurd h1 (nI_pos (by omega))
  · refine j_iload_n hE (i := 2) dX2_isWithinLimits_4 rfl rfl ?_
    refine j_iconst hE (v := nI 3) dX2_isWithinLimits_5 (by decide) ?_
    refine j_ic_geN hE (tgt := 29) dX2_isWithinLimits_6 (by decide) (by omega) (by omega) (fun h6 => ?_) (fun h6 => ?_)
    · exfalso; omega
    · refine j_iload_n hE (i := 1) dX2_isWithinLimits_9 rfl rfl ?_
      refine j_aload_n hE (i := 0) dX2_isWithinLimits_10 rfl rfl ?_
      refine j_get hE flX2_9 gB_0 rfl dX2_isWithinLimits_11 ?_
      refine j_iload_n hE (i := 2) dX2_isWithinLimits_14 rfl rfl ?_
      refine j_iald hE gB_1 rfl (by omega) (by decide) dX2_isWithinLimits_15 ?_
      refine j_ic_lt hE (tgt := 33) dX2_isWithinLimits_16 (by decide) (fun h16 => ?_) (fun h16 => ?_)
      · exact absurd h16 (Int32.not_lt.mpr hin.1)
      · refine j_iload_n hE (i := 1) dX2_isWithinLimits_19 rfl rfl ?_
        refine j_aload_n hE (i := 0) dX2_isWithinLimits_20 rfl rfl ?_
        refine j_get hE flX2_15 gB_0 rfl dX2_isWithinLimits_21 ?_
        refine j_iload_n hE (i := 2) dX2_isWithinLimits_24 rfl rfl ?_
        refine j_iald hE gB_2 rfl (by omega) (by decide) dX2_isWithinLimits_25 ?_
        refine j_ic_gt hE (tgt := 33) dX2_isWithinLimits_26 (by decide) (fun h26 => ?_) (fun h26 => ?_)
        · exact absurd h26 (Int32.not_lt.mpr hin.2)
        · refine j_iconst hE (v := nI 1) dX2_isWithinLimits_29 (by decide) ?_
          refine j_goto hE (tgt := 34) dX2_isWithinLimits_30 (by decide) ?_
          refine j_iret hE hQ rfl (by omega) (by omega) dX2_isWithinLimits_34 ?_
          exact ⟨_, rfl, rfl, rfl⟩

set_option maxRecDepth 100000 in
set_option maxHeartbeats 4000000 in
theorem c_X2_isWithinLimits_f {l : Launch} (hl : l.stackTraces = false) (K : jK) (F : GH) (h hs : Nat) (ra va la ct : Int32) (lw hg : Nat → Int32) (pe : Int32) (al : Bool) (ou na : Int32) (v : Int32) (md : Nat) (hmd : md ≤ 2) (hin : ¬ (lw md ≤ v ∧ v ≤ hg md)) : Ct l K yX2_isWithinLimits cX2_isWithinLimits 3 (some .boolean) 0 0 0 0 [.ref h, .int v, .int (nI md)] (gB F h (paC K h ra va la ct lw hg pe al ou na)) hs (pI (fun z9 G' _ => z9 = nI 0 ∧ G' = (gB F h (paC K h ra va la ct lw hg pe al ou na)))) jno := by
  refine Ct.ofA hl (by decide) (Nat.le_of_ble_eq_true rfl) (L0 := [some (.ref h), some (.int v), some (.int (nI md))]) (jL_of 0 rfl) ?_
  intro A E hE hQ hX hNm
  refine j_iload_n hE (i := 2) dX2_isWithinLimits_0 rfl rfl ?_
  refine j_if_lt hE (tgt := 29) dX2_isWithinLimits_1 (by decide) (fun h1 => ?_) (fun h1 => ?_)
  · exact absurd h1 (nI_pos (by omega))
  · refine j_iload_n hE (i := 2) dX2_isWithinLimits_4 rfl rfl ?_
    refine j_iconst hE (v := nI 3) dX2_isWithinLimits_5 (by decide) ?_
    refine j_ic_geN hE (tgt := 29) dX2_isWithinLimits_6 (by decide) (by omega) (by omega) (fun h6 => ?_) (fun h6 => ?_)
    · exfalso; omega
    · refine j_iload_n hE (i := 1) dX2_isWithinLimits_9 rfl rfl ?_
      refine j_aload_n hE (i := 0) dX2_isWithinLimits_10 rfl rfl ?_
      refine j_get hE flX2_9 gB_0 rfl dX2_isWithinLimits_11 ?_
      refine j_iload_n hE (i := 2) dX2_isWithinLimits_14 rfl rfl ?_
      refine j_iald hE gB_1 rfl (by omega) (by decide) dX2_isWithinLimits_15 ?_
      refine j_ic_lt hE (tgt := 33) dX2_isWithinLimits_16 (by decide) (fun h16 => ?_) (fun h16 => ?_)
      · refine j_iconst hE (v := nI 0) dX2_isWithinLimits_33 (by decide) ?_
        refine j_iret hE hQ rfl (by omega) (by omega) dX2_isWithinLimits_34 ?_
        exact ⟨_, rfl, rfl, rfl⟩
      · refine j_iload_n hE (i := 1) dX2_isWithinLimits_19 rfl rfl ?_
        refine j_aload_n hE (i := 0) dX2_isWithinLimits_20 rfl rfl ?_
        refine j_get hE flX2_15 gB_0 rfl dX2_isWithinLimits_21 ?_
        refine j_iload_n hE (i := 2) dX2_isWithinLimits_24 rfl rfl ?_
        refine j_iald hE gB_2 rfl (by omega) (by decide) dX2_isWithinLimits_25 ?_
        refine j_ic_gt hE (tgt := 33) dX2_isWithinLimits_26 (by decide) (fun h26 => ?_) (fun h26 => ?_)
        · refine j_iconst hE (v := nI 0) dX2_isWithinLimits_33 (by decide) ?_
          refine j_iret hE hQ rfl (by omega) (by omega) dX2_isWithinLimits_34 ?_
          exact ⟨_, rfl, rfl, rfl⟩
        · exact absurd ⟨Int32.not_lt.mp h16, Int32.not_lt.mp h26⟩ hin

set_option maxRecDepth 100000 in
set_option maxHeartbeats 4000000 in
theorem c_X2_takeSample_1 {l : Launch} (hl : l.stackTraces = false) (K : jK) (F : GH) (h hs : Nat) (ra va la ct : Int32) (lw hg : Nat → Int32) (pe : Int32) (al : Bool) (ou na : Int32) (v : Int32) (md : Nat) (hmd : md ≤ 2) (hin : lw md ≤ v ∧ v ≤ hg md) : Ct l K yX2_takeSample cX2_takeSample 3 none 1 22 0 0 [.ref h, .int v, .int (nI md)] (gB F h (paC K h ra va la ct lw hg pe al ou na)) hs (pV (fun G' _ => G' = (gB F h (paC K h ra va v (ct + nI 1) lw hg pe false (nI 0) na)))) jno := by
  refine Ct.ofA hl (by decide) (Nat.le_of_ble_eq_true rfl) (L0 := [some (.ref h), some (.int v), some (.int (nI md))]) (jL_of 0 rfl) ?_
  intro A E hE hQ hX hNm
  refine j_aload_n hE (i := 0) dX2_takeSample_0 rfl rfl ?_
  refine j_iload_n hE (i := 1) dX2_takeSample_1 rfl rfl ?_
  refine b_put2 hE flX2_25 rfl rfl dX2_takeSample_2 ?_
  refine j_aload_n hE (i := 0) dX2_takeSample_5 rfl rfl ?_
  refine j_dup hE dX2_takeSample_6 rfl ?_
  refine j_get hE flX2_28 gB_0 rfl dX2_takeSample_7 ?_
  refine j_iconst hE (v := nI 1) dX2_takeSample_10 (by decide) ?_
  refine j_iadd hE dX2_takeSample_11 ?_
  refine b_put3 hE flX2_28 rfl rfl dX2_takeSample_12 ?_
  refine j_aload_n hE (i := 0) dX2_takeSample_15 rfl rfl ?_
  refine j_iload_n hE (i := 1) dX2_takeSample_16 rfl rfl ?_
  refine j_iload_n hE (i := 2) dX2_takeSample_17 rfl rfl ?_
  refine j_cVi hE mlX2_56 gB_0 (fun l hl => c_X2_isWithinLimits_t hl K F h _ _ _ _ _ _ _ _ _ _ _ v md hmd hin) rfl rfl (Nat.le_of_ble_eq_true rfl) (by decide) (by decide) (by omega) (by omega) dX2_takeSample_18 (fun r G9 hs9 hp => ?_) (fun _ _ h => h.elim)
  obtain ⟨rfl, rfl⟩ := hp
  refine j_if_eqN hE (tgt := 35) dX2_takeSample_21 (by decide) (by omega) (fun h21 => ?_) (fun h21 => ?_)
  · exfalso; omega
  · refine j_aload_n hE (i := 0) dX2_takeSample_24 rfl rfl ?_
    refine j_iconst hE (v := nI 0) dX2_takeSample_25 (by decide) ?_
    refine b_put7 hE flX2_40 (by decide) (by decide) dX2_takeSample_26 ?_
    refine j_aload_n hE (i := 0) dX2_takeSample_29 rfl rfl ?_
    refine j_iconst hE (v := nI 0) dX2_takeSample_30 (by decide) ?_
    refine b_put8 hE flX2_44 rfl rfl dX2_takeSample_31 ?_
    refine j_vret hE hQ (by omega) (by omega) dX2_takeSample_34 ?_
    exact ⟨rfl, rfl⟩

set_option maxRecDepth 100000 in
set_option maxHeartbeats 4000000 in
theorem c_X2_takeSample_2 {l : Launch} (hl : l.stackTraces = false) (K : jK) (F : GH) (h hs : Nat) (ra va la ct : Int32) (lw hg : Nat → Int32) (pe : Int32) (al : Bool) (ou na : Int32) (v : Int32) (md : Nat) (hmd : md ≤ 2) (hin : ¬ (lw md ≤ v ∧ v ≤ hg md)) (hq : ou + nI 1 < pe ∨ al = true) : Ct l K yX2_takeSample cX2_takeSample 3 none 1 22 0 0 [.ref h, .int v, .int (nI md)] (gB F h (paC K h ra va la ct lw hg pe al ou na)) hs (pV (fun G' _ => G' = (gB F h (paC K h ra va v (ct + nI 1) lw hg pe al (ou + nI 1) na)))) jno := by
  refine Ct.ofA hl (by decide) (Nat.le_of_ble_eq_true rfl) (L0 := [some (.ref h), some (.int v), some (.int (nI md))]) (jL_of 0 rfl) ?_
  intro A E hE hQ hX hNm
  refine j_aload_n hE (i := 0) dX2_takeSample_0 rfl rfl ?_
  refine j_iload_n hE (i := 1) dX2_takeSample_1 rfl rfl ?_
  refine b_put2 hE flX2_25 rfl rfl dX2_takeSample_2 ?_
  refine j_aload_n hE (i := 0) dX2_takeSample_5 rfl rfl ?_
  refine j_dup hE dX2_takeSample_6 rfl ?_
  refine j_get hE flX2_28 gB_0 rfl dX2_takeSample_7 ?_
  refine j_iconst hE (v := nI 1) dX2_takeSample_10 (by decide) ?_
  refine j_iadd hE dX2_takeSample_11 ?_
  refine b_put3 hE flX2_28 rfl rfl dX2_takeSample_12 ?_
  refine j_aload_n hE (i := 0) dX2_takeSample_15 rfl rfl ?_
  refine j_iload_n hE (i := 1) dX2_takeSample_16 rfl rfl ?_
  refine j_iload_n hE (i := 2) dX2_takeSample_17 rfl rfl ?_
  refine j_cVi hE mlX2_56 gB_0 (fun l hl => c_X2_isWithinLimits_f hl K F h _ _ _ _ _ _ _ _ _ _ _ v md hmd hin) rfl rfl (Nat.le_of_ble_eq_true rfl) (by decide) (by decide) (by omega) (by omega) dX2_takeSample_18 (fun r G9 hs9 hp => ?_) (fun _ _ h => h.elim)
  obtain ⟨rfl, rfl⟩ := hp
  refine j_if_eqN hE (tgt := 35) dX2_takeSample_21 (by decide) (by omega) (fun h21 => ?_) (fun h21 => ?_)
  · refine j_aload_n hE (i := 0) dX2_takeSample_35 rfl rfl ?_
    refine j_dup hE dX2_takeSample_36 rfl ?_
    refine j_get hE flX2_44 gB_0 rfl dX2_takeSample_37 ?_
    refine j_iconst hE (v := nI 1) dX2_takeSample_40 (by decide) ?_
    refine j_iadd hE dX2_takeSample_41 ?_
    refine b_put8 hE flX2_44 rfl rfl dX2_takeSample_42 ?_
    refine j_aload_n hE (i := 0) dX2_takeSample_45 rfl rfl ?_
    refine j_get hE flX2_44 gB_0 rfl dX2_takeSample_46 ?_
    refine j_aload_n hE (i := 0) dX2_takeSample_49 rfl rfl ?_
    refine j_get hE flX2_37 gB_0 rfl dX2_takeSample_50 ?_
    refine j_ic_lt hE (tgt := 78) dX2_takeSample_53 (by decide) (fun h53 => ?_) (fun h53 => ?_)
    · refine j_vret hE hQ (by omega) (by omega) dX2_takeSample_78 ?_
      exact ⟨rfl, rfl⟩
    · refine j_aload_n hE (i := 0) dX2_takeSample_56 rfl rfl ?_
      refine j_get hE flX2_40 gB_0 rfl dX2_takeSample_57 ?_
      refine j_if_ne hE (tgt := 78) dX2_takeSample_60 (by decide) (fun h60 => ?_) (fun h60 => ?_)
      · refine j_vret hE hQ (by omega) (by omega) dX2_takeSample_78 ?_
        exact ⟨rfl, rfl⟩
      · exact absurd (jb_eq h60) (by rw [hq.resolve_left h53]; decide)
  · exfalso; omega

set_option maxRecDepth 100000 in
set_option maxHeartbeats 4000000 in
theorem c_X2_takeSample_3 {l : Launch} (hl : l.stackTraces = false) (K : jK) (F : GH) (h hs : Nat) (ra va la ct : Int32) (lw hg : Nat → Int32) (pe : Int32) (al : Bool) (ou na : Int32) (v : Int32) (md : Nat) (hmd : md ≤ 2) (hin : ¬ (lw md ≤ v ∧ v ≤ hg md)) (hq : ¬ ou + nI 1 < pe) (hal : al = false) : Ct l K yX2_takeSample cX2_takeSample 3 none 1 22 0 0 [.ref h, .int v, .int (nI md)] (gB F h (paC K h ra va la ct lw hg pe al ou na)) hs (pV (fun G' _ => G' = (gB F h (paC K h ra va v (ct + nI 1) lw hg pe true (ou + nI 1) (na + nI 1))))) jno := by
  refine Ct.ofA hl (by decide) (Nat.le_of_ble_eq_true rfl) (L0 := [some (.ref h), some (.int v), some (.int (nI md))]) (jL_of 0 rfl) ?_
  intro A E hE hQ hX hNm
  refine j_aload_n hE (i := 0) dX2_takeSample_0 rfl rfl ?_
  refine j_iload_n hE (i := 1) dX2_takeSample_1 rfl rfl ?_
  refine b_put2 hE flX2_25 rfl rfl dX2_takeSample_2 ?_
  refine j_aload_n hE (i := 0) dX2_takeSample_5 rfl rfl ?_
  refine j_dup hE dX2_takeSample_6 rfl ?_
  refine j_get hE flX2_28 gB_0 rfl dX2_takeSample_7 ?_
  refine j_iconst hE (v := nI 1) dX2_takeSample_10 (by decide) ?_
  refine j_iadd hE dX2_takeSample_11 ?_
  refine b_put3 hE flX2_28 rfl rfl dX2_takeSample_12 ?_
  refine j_aload_n hE (i := 0) dX2_takeSample_15 rfl rfl ?_
  refine j_iload_n hE (i := 1) dX2_takeSample_16 rfl rfl ?_
  refine j_iload_n hE (i := 2) dX2_takeSample_17 rfl rfl ?_
  refine j_cVi hE mlX2_56 gB_0 (fun l hl => c_X2_isWithinLimits_f hl K F h _ _ _ _ _ _ _ _ _ _ _ v md hmd hin) rfl rfl (Nat.le_of_ble_eq_true rfl) (by decide) (by decide) (by omega) (by omega) dX2_takeSample_18 (fun r G9 hs9 hp => ?_) (fun _ _ h => h.elim)
  obtain ⟨rfl, rfl⟩ := hp
  refine j_if_eqN hE (tgt := 35) dX2_takeSample_21 (by decide) (by omega) (fun h21 => ?_) (fun h21 => ?_)
  · refine j_aload_n hE (i := 0) dX2_takeSample_35 rfl rfl ?_
    refine j_dup hE dX2_takeSample_36 rfl ?_
    refine j_get hE flX2_44 gB_0 rfl dX2_takeSample_37 ?_
    refine j_iconst hE (v := nI 1) dX2_takeSample_40 (by decide) ?_
    refine j_iadd hE dX2_takeSample_41 ?_
    refine b_put8 hE flX2_44 rfl rfl dX2_takeSample_42 ?_
    refine j_aload_n hE (i := 0) dX2_takeSample_45 rfl rfl ?_
    refine j_get hE flX2_44 gB_0 rfl dX2_takeSample_46 ?_
    refine j_aload_n hE (i := 0) dX2_takeSample_49 rfl rfl ?_
    refine j_get hE flX2_37 gB_0 rfl dX2_takeSample_50 ?_
    refine j_ic_lt hE (tgt := 78) dX2_takeSample_53 (by decide) (fun h53 => ?_) (fun h53 => ?_)
    · exact absurd h53 hq
    · refine j_aload_n hE (i := 0) dX2_takeSample_56 rfl rfl ?_
      refine j_get hE flX2_40 gB_0 rfl dX2_takeSample_57 ?_
      refine j_if_ne hE (tgt := 78) dX2_takeSample_60 (by decide) (fun h60 => ?_) (fun h60 => ?_)
      · exact absurd (jb_ne h60) (by rw [hal]; decide)
      · refine j_aload_n hE (i := 0) dX2_takeSample_63 rfl rfl ?_
        refine j_iconst hE (v := nI 1) dX2_takeSample_64 (by decide) ?_
        refine b_put7 hE flX2_40 (by decide) (by decide) dX2_takeSample_65 ?_
        refine j_aload_n hE (i := 0) dX2_takeSample_68 rfl rfl ?_
        refine j_dup hE dX2_takeSample_69 rfl ?_
        refine j_get hE flX2_47 gB_0 rfl dX2_takeSample_70 ?_
        refine j_iconst hE (v := nI 1) dX2_takeSample_73 (by decide) ?_
        refine j_iadd hE dX2_takeSample_74 ?_
        refine b_put9 hE flX2_47 rfl rfl dX2_takeSample_75 ?_
        refine j_vret hE hQ (by omega) (by omega) dX2_takeSample_78 ?_
        exact ⟨rfl, rfl⟩
  · exfalso; omega

def pHl (lw hg : Nat → Int32) (i : Nat) (h : Int64) : Int64 := 31 * (31 * h + (lw i).toInt64) + (hg i).toInt64
def pHs (ra va la ct : Int32) (lw hg : Nat → Int32) (pe : Int32) (al : Bool) (ou na : Int32) (h : Int64) : Int64 :=
  let h1 := itr (pHl lw hg) 3 (31 * (31 * (31 * (31 * h + ra.toInt64) + va.toInt64) + la.toInt64) + ct.toInt64)
  31 * (31 * (31 * (31 * h1 + pe.toInt64) + (if al then 1 else 0)) + ou.toInt64) + na.toInt64
set_option maxRecDepth 100000 in
set_option maxHeartbeats 4000000 in
theorem c_X2_mixInto {l : Launch} (hl : l.stackTraces = false) (K : jK) (F : GH) (h hs : Nat) (ra va la ct : Int32) (lw hg : Nat → Int32) (pe : Int32) (al : Bool) (ou na : Int32) (z : Int64) : Ct l K yX2_mixInto cX2_mixInto 6 (some .long) 1 23 0 0 [.ref h, .long z] (gB F h (paC K h ra va la ct lw hg pe al ou na)) hs (pL (fun z9 G' _ => z9 = pHs ra va la ct lw hg pe al ou na z ∧ G' = (gB F h (paC K h ra va la ct lw hg pe al ou na)))) jno := by
  refine Ct.ofA hl (by decide) (Nat.le_of_ble_eq_true rfl) (L0 := [some (.ref h), some (.long z), none, none, none, none]) (jL_of 3 rfl) ?_
  intro A E hE hQ hX hNm
  refine j_lload_n hE (i := 1) dX2_mixInto_0 rfl rfl ?_
  refine j_aload_n hE (i := 0) dX2_mixInto_1 rfl rfl ?_
  refine j_get hE flX2_18 gB_0 rfl dX2_mixInto_2 ?_
  refine j_i2l hE dX2_mixInto_5 ?_
  refine j_cNl hE mlX2_60 (fun l hl => c_X5_mix hl K _ _ _ _) rfl rfl (Nat.le_of_ble_eq_true rfl) (by decide) (by decide) (by omega) (by omega) dX2_mixInto_6 (fun r G9 hs9 hp => ?_)
  obtain ⟨rfl, rfl⟩ := hp
  refine j_lst3 hE dX2_mixInto_9 rfl (by decide) rfl ?_
  refine j_lload_n hE (i := 3) dX2_mixInto_10 rfl rfl ?_
  refine j_aload_n hE (i := 0) dX2_mixInto_11 rfl rfl ?_
  refine j_get hE flX2_22 gB_0 rfl dX2_mixInto_12 ?_
  refine j_i2l hE dX2_mixInto_15 ?_
  refine j_cNl hE mlX2_60 (fun l hl => c_X5_mix hl K _ _ _ _) rfl rfl (Nat.le_of_ble_eq_true rfl) (by decide) (by decide) (by omega) (by omega) dX2_mixInto_16 (fun r G9 hs9 hp => ?_)
  obtain ⟨rfl, rfl⟩ := hp
  refine j_lst3 hE dX2_mixInto_19 rfl (by decide) rfl ?_
  refine j_lload_n hE (i := 3) dX2_mixInto_20 rfl rfl ?_
  refine j_aload_n hE (i := 0) dX2_mixInto_21 rfl rfl ?_
  refine j_get hE flX2_25 gB_0 rfl dX2_mixInto_22 ?_
  refine j_i2l hE dX2_mixInto_25 ?_
  refine j_cNl hE mlX2_60 (fun l hl => c_X5_mix hl K _ _ _ _) rfl rfl (Nat.le_of_ble_eq_true rfl) (by decide) (by decide) (by omega) (by omega) dX2_mixInto_26 (fun r G9 hs9 hp => ?_)
  obtain ⟨rfl, rfl⟩ := hp
  refine j_lst3 hE dX2_mixInto_29 rfl (by decide) rfl ?_
  refine j_lload_n hE (i := 3) dX2_mixInto_30 rfl rfl ?_
  refine j_aload_n hE (i := 0) dX2_mixInto_31 rfl rfl ?_
  refine j_get hE flX2_28 gB_0 rfl dX2_mixInto_32 ?_
  refine j_i2l hE dX2_mixInto_35 ?_
  refine j_cNl hE mlX2_60 (fun l hl => c_X5_mix hl K _ _ _ _) rfl rfl (Nat.le_of_ble_eq_true rfl) (by decide) (by decide) (by omega) (by omega) dX2_mixInto_36 (fun r G9 hs9 hp => ?_)
  obtain ⟨rfl, rfl⟩ := hp
  refine j_lst3 hE dX2_mixInto_39 rfl (by decide) rfl ?_
  refine j_iconst hE (v := nI 0) dX2_mixInto_40 (by decide) ?_
  refine j_ist5 hE dX2_mixInto_41 (by decide) rfl ?_
  have key43 : ∀ i, i ≤ 3 → ∀ hs, J K A E 6 (gB F h (paC K h ra va la ct lw hg pe al ou na)) hs 0 0 43 [some (.ref h), some (.long z), none, some (.long (itr (pHl lw hg) i (31 * (31 * (31 * (31 * z + ra.toInt64) + va.toInt64) + la.toInt64) + ct.toInt64))), none, some (.int (nI i))] [] := by
    refine dloop (fun i => ∀ hs, J K A E 6 (gB F h (paC K h ra va la ct lw hg pe al ou na)) hs 0 0 43 [some (.ref h), some (.long z), none, some (.long (itr (pHl lw hg) i (31 * (31 * (31 * (31 * z + ra.toInt64) + va.toInt64) + la.toInt64) + ct.toInt64))), none, some (.int (nI i))] []) (3) (fun i hi43 ih43 => ?_) ?_
    · intro hs
      refine j_iload hE dX2_mixInto_43 rfl ?_
      refine j_iconst hE (v := nI 3) dX2_mixInto_45 (by decide) ?_
      refine j_ic_geN hE (tgt := 81) dX2_mixInto_46 (by decide) (by omega) (by omega) (fun h46 => ?_) (fun h46 => ?_)
      · exfalso; omega
      · refine j_lload_n hE (i := 3) dX2_mixInto_49 rfl rfl ?_
        refine j_aload_n hE (i := 0) dX2_mixInto_50 rfl rfl ?_
        refine j_get hE flX2_9 gB_0 rfl dX2_mixInto_51 ?_
        refine j_iload hE dX2_mixInto_54 rfl ?_
        refine j_iald hE gB_1 rfl (by omega) (by decide) dX2_mixInto_56 ?_
        refine j_i2l hE dX2_mixInto_57 ?_
        refine j_cNl hE mlX2_60 (fun l hl => c_X5_mix hl K _ _ _ _) rfl rfl (Nat.le_of_ble_eq_true rfl) (by decide) (by decide) (by omega) (by omega) dX2_mixInto_58 (fun r G9 hs9 hp => ?_)
        obtain ⟨rfl, rfl⟩ := hp
        refine j_lst3 hE dX2_mixInto_61 rfl (by decide) rfl ?_
        refine j_lload_n hE (i := 3) dX2_mixInto_62 rfl rfl ?_
        refine j_aload_n hE (i := 0) dX2_mixInto_63 rfl rfl ?_
        refine j_get hE flX2_15 gB_0 rfl dX2_mixInto_64 ?_
        refine j_iload hE dX2_mixInto_67 rfl ?_
        refine j_iald hE gB_2 rfl (by omega) (by decide) dX2_mixInto_69 ?_
        refine j_i2l hE dX2_mixInto_70 ?_
        refine j_cNl hE mlX2_60 (fun l hl => c_X5_mix hl K _ _ _ _) rfl rfl (Nat.le_of_ble_eq_true rfl) (by decide) (by decide) (by omega) (by omega) dX2_mixInto_71 (fun r G9 hs9 hp => ?_)
        obtain ⟨rfl, rfl⟩ := hp
        refine j_lst3 hE dX2_mixInto_74 rfl (by decide) rfl ?_
        refine j_incN5 hE dX2_mixInto_75 (by decide) rfl ?_
        refine j_goto hE (tgt := 43) dX2_mixInto_78 (by decide) ?_
        exact ih43 _
    · intro hs
      refine j_iload hE dX2_mixInto_43 rfl ?_
      refine j_iconst hE (v := nI 3) dX2_mixInto_45 (by decide) ?_
      refine j_ic_geN hE (tgt := 81) dX2_mixInto_46 (by decide) (by omega) (by omega) (fun h46 => ?_) (fun h46 => ?_)
      · refine j_lload_n hE (i := 3) dX2_mixInto_81 rfl rfl ?_
        refine j_aload_n hE (i := 0) dX2_mixInto_82 rfl rfl ?_
        refine j_get hE flX2_37 gB_0 rfl dX2_mixInto_83 ?_
        refine j_i2l hE dX2_mixInto_86 ?_
        refine j_cNl hE mlX2_60 (fun l hl => c_X5_mix hl K _ _ _ _) rfl rfl (Nat.le_of_ble_eq_true rfl) (by decide) (by decide) (by omega) (by omega) dX2_mixInto_87 (fun r G9 hs9 hp => ?_)
        obtain ⟨rfl, rfl⟩ := hp
        refine j_lst3 hE dX2_mixInto_90 rfl (by decide) rfl ?_
        refine j_lload_n hE (i := 3) dX2_mixInto_91 rfl rfl ?_
        refine j_aload_n hE (i := 0) dX2_mixInto_92 rfl rfl ?_
        refine j_get hE flX2_40 gB_0 rfl dX2_mixInto_93 ?_
        refine j_if_eq hE (tgt := 103) dX2_mixInto_96 (by decide) (fun h96 => ?_) (fun h96 => ?_)
        · have e9 : al = false := jb_eq h96
          subst e9
          refine j_lconst hE (v := 0) dX2_mixInto_103 (by decide) ?_
          refine j_cNl hE mlX2_60 (fun l hl => c_X5_mix hl K _ _ _ _) rfl rfl (Nat.le_of_ble_eq_true rfl) (by decide) (by decide) (by omega) (by omega) dX2_mixInto_104 (fun r G9 hs9 hp => ?_)
          obtain ⟨rfl, rfl⟩ := hp
          refine j_lst3 hE dX2_mixInto_107 rfl (by decide) rfl ?_
          refine j_lload_n hE (i := 3) dX2_mixInto_108 rfl rfl ?_
          refine j_aload_n hE (i := 0) dX2_mixInto_109 rfl rfl ?_
          refine j_get hE flX2_44 gB_0 rfl dX2_mixInto_110 ?_
          refine j_i2l hE dX2_mixInto_113 ?_
          refine j_cNl hE mlX2_60 (fun l hl => c_X5_mix hl K _ _ _ _) rfl rfl (Nat.le_of_ble_eq_true rfl) (by decide) (by decide) (by omega) (by omega) dX2_mixInto_114 (fun r G9 hs9 hp => ?_)
          obtain ⟨rfl, rfl⟩ := hp
          refine j_lst3 hE dX2_mixInto_117 rfl (by decide) rfl ?_
          refine j_lload_n hE (i := 3) dX2_mixInto_118 rfl rfl ?_
          refine j_aload_n hE (i := 0) dX2_mixInto_119 rfl rfl ?_
          refine j_get hE flX2_47 gB_0 rfl dX2_mixInto_120 ?_
          refine j_i2l hE dX2_mixInto_123 ?_
          refine j_cNl hE mlX2_60 (fun l hl => c_X5_mix hl K _ _ _ _) rfl rfl (Nat.le_of_ble_eq_true rfl) (by decide) (by decide) (by omega) (by omega) dX2_mixInto_124 (fun r G9 hs9 hp => ?_)
          obtain ⟨rfl, rfl⟩ := hp
          refine j_lret hE hQ (by omega) (by omega) dX2_mixInto_127 ?_
          exact ⟨_, rfl, rfl, rfl⟩
        · have e9 : al = true := jb_ne h96
          subst e9
          refine j_lconst hE (v := 1) dX2_mixInto_99 (by decide) ?_
          refine j_goto hE (tgt := 104) dX2_mixInto_100 (by decide) ?_
          refine j_cNl hE mlX2_60 (fun l hl => c_X5_mix hl K _ _ _ _) rfl rfl (Nat.le_of_ble_eq_true rfl) (by decide) (by decide) (by omega) (by omega) dX2_mixInto_104 (fun r G9 hs9 hp => ?_)
          obtain ⟨rfl, rfl⟩ := hp
          refine j_lst3 hE dX2_mixInto_107 rfl (by decide) rfl ?_
          refine j_lload_n hE (i := 3) dX2_mixInto_108 rfl rfl ?_
          refine j_aload_n hE (i := 0) dX2_mixInto_109 rfl rfl ?_
          refine j_get hE flX2_44 gB_0 rfl dX2_mixInto_110 ?_
          refine j_i2l hE dX2_mixInto_113 ?_
          refine j_cNl hE mlX2_60 (fun l hl => c_X5_mix hl K _ _ _ _) rfl rfl (Nat.le_of_ble_eq_true rfl) (by decide) (by decide) (by omega) (by omega) dX2_mixInto_114 (fun r G9 hs9 hp => ?_)
          obtain ⟨rfl, rfl⟩ := hp
          refine j_lst3 hE dX2_mixInto_117 rfl (by decide) rfl ?_
          refine j_lload_n hE (i := 3) dX2_mixInto_118 rfl rfl ?_
          refine j_aload_n hE (i := 0) dX2_mixInto_119 rfl rfl ?_
          refine j_get hE flX2_47 gB_0 rfl dX2_mixInto_120 ?_
          refine j_i2l hE dX2_mixInto_123 ?_
          refine j_cNl hE mlX2_60 (fun l hl => c_X5_mix hl K _ _ _ _) rfl rfl (Nat.le_of_ble_eq_true rfl) (by decide) (by decide) (by omega) (by omega) dX2_mixInto_124 (fun r G9 hs9 hp => ?_)
          obtain ⟨rfl, rfl⟩ := hp
          refine j_lret hE hQ (by omega) (by omega) dX2_mixInto_127 ?_
          exact ⟨_, rfl, rfl, rfl⟩
      · exfalso; omega
  exact key43 0 (by omega) _

set_option maxRecDepth 100000 in
set_option maxHeartbeats 4000000 in
theorem c_X2_init {l : Launch} (hl : l.stackTraces = false) (K : jK) (F : GH) (h : Nat) : Ct l K yX2_init cX2_init 1 none 1 12 2 6 [.ref h] (gB F h [.inr (2, [.int 0, .int 0, .int 0, .int 0, .null, .null, .int 0, .int 0, .int 0, .int 0])]) (h + 1) (pV (fun G' hs' => G' = gB F h (paC K h 0 0 0 0 (fun _ => 0) (fun _ => 0) 0 false 0 0) ∧ hs' = h + 3)) jno := by
  refine Ct.ofA hl (by decide) (Nat.le_of_ble_eq_true rfl) (L0 := [some (.ref h)]) (jL_of 0 rfl) ?_
  intro A E hE hQ hX hNm
  refine j_aload_n hE (i := 0) dX2_init_0 rfl rfl ?_
  refine j_obj hE tw_112 tw_22 tw_23 (by decide) (Nat.le_of_ble_eq_true rfl) dX2_init_1 ?_
  refine j_aload_n hE (i := 0) dX2_init_4 rfl rfl ?_
  refine j_iconst hE (v := nI 3) dX2_init_5 (by decide) ?_
  refine j_newi hE (N := 3) rfl (by decide) tw_59 (by decide) (by decide) dX2_init_6 ?_
  rw [gB_push (by simp only [List.length_cons, List.length_nil])]
  simp only [List.cons_append, List.nil_append]
  refine b_putF4 hE hNm rfl flX2_9 rfl rfl dX2_init_8 ?_
  refine j_aload_n hE (i := 0) dX2_init_11 rfl rfl ?_
  refine j_iconst hE (v := nI 3) dX2_init_12 (by decide) ?_
  refine j_newi hE (N := 3) rfl (by decide) tw_59 (by decide) (by decide) dX2_init_13 ?_
  rw [gB_push (by simp only [List.length_cons, List.length_nil])]
  simp only [List.cons_append, List.nil_append]
  refine b_putF5 hE hNm rfl flX2_15 rfl rfl dX2_init_15 ?_
  refine j_vret hE hQ (by omega) (by omega) dX2_init_18 ?_
  exact ⟨rfl, rfl, by omega⟩

