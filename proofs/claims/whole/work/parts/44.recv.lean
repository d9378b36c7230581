/-! ===== the class: the receiver ===== -/
abbrev RcV : Type := Int32 × Int32 × (Nat → Int32) × (Nat → Int32) × Nat × Int32
abbrev rcC (K : jK) (h : Nat) (co mi : Int32) (cn fm : Nat → Int32) (p : Nat) (hi : Int32) : List va_E := [.inr (3, [.int co, .int mi, .ref (h + 1), .ref (h + 2), .int (nI p), .int hi]), iA K 6 cn, iA K 16 fm]
abbrev rcS (K : jK) (h : Nat) (s : RcV) : List va_E := rcC K h s.1 s.2.1 s.2.2.1 s.2.2.2.1 s.2.2.2.2.1 s.2.2.2.2.2
abbrev isSy (x : Int32) : Prop := x &&& 65535 = 60304
def rSt (fm : Nat → Int32) (p : Nat) (bit : Int32) : Nat → Int32 := upd fm ((p - 1) / 8) (((fm ((p - 1) / 8) <<< (nI 1 &&& 31)) ||| bit) &&& nI 255)
def rLook (mi : Int32) (cn fm : Nat → Int32) (p : Nat) (hi : Int32) : RcV :=  if isSy hi then (nI 1, mi, upd cn 5 (cn 5 + nI 1), fm, 0, hi) else (nI 0, mi, cn, fm, p, hi)
def rExp (co mi : Int32) (cn fm : Nat → Int32) (p : Nat) (hi bit : Int32) : RcV := 
  if isSy hi then (nI 2, nI 0, cn, fm, 0, hi) else if co = nI 1 then (nI 0, mi, cn, fm, p, hi)
  else if isSy (hi >>> (nI 1 &&& 31)) then (co, nI 0, upd cn 2 (cn 2 + nI 1), rSt fm 1 bit, 1, hi) else (co, mi, cn, fm, p, hi)
def rLate (co mi : Int32) (cn fm : Nat → Int32) (p : Nat) (hi bit : Int32) : RcV := 
  if isSy hi then (co, nI 0, upd cn 3 (cn 3 + nI 1), fm, 0, hi)
  else if mi + nI 1 < nI 3 then (co, mi + nI 1, upd cn 4 (cn 4 + nI 1), rSt fm 1 bit, 1, hi) else (nI 0, nI 0, upd cn 4 (cn 4 + nI 1), fm, p, nI 0)
set_option maxRecDepth 100000 in
set_option maxHeartbeats 4000000 in
theorem c_X3_restart {l : Launch} (hl : l.stackTraces = false) (K : jK) (F : GH) (h hs : Nat) (co mi : Int32) (cn fm : Nat → Int32) (p : Nat) (hi : Int32) : Ct l K yX3_restart cX3_restart 1 none 0 0 0 0 [.ref h] (gB F h (rcC K h co mi cn fm p hi)) hs (pV (fun G' _ => G' = (gB F h (rcC K h (nI 0) (nI 0) cn fm p (nI 0))))) jno := by
  refine Ct.ofA hl (by decide) (Nat.le_of_ble_eq_true rfl) (L0 := [some (.ref h)]) (jL_of 0 rfl) ?_
  intro A E hE hQ hX hNm
  refine j_aload_n hE (i := 0) dX3_restart_0 rfl rfl ?_
  refine j_iconst hE (v := nI 0) dX3_restart_1 (by decide) ?_
  refine b_put0 hE flX3_9 rfl rfl dX3_restart_2 ?_
  refine j_aload_n hE (i := 0) dX3_restart_5 rfl rfl ?_
  refine j_iconst hE (v := nI 0) dX3_restart_6 (by decide) ?_
  refine b_put1 hE flX3_15 rfl rfl dX3_restart_7 ?_
  refine j_aload_n hE (i := 0) dX3_restart_10 rfl rfl ?_
  refine j_iconst hE (v := nI 0) dX3_restart_11 (by decide) ?_
  refine b_put5 hE flX3_28 rfl rfl dX3_restart_12 ?_
  refine j_vret hE hQ (by omega) (by omega) dX3_restart_15 ?_
  exact ⟨rfl, rfl⟩

set_option maxRecDepth 100000 in
set_option maxHeartbeats 4000000 in
theorem c_X3_continueAfterSync {l : Launch} (hl : l.stackTraces = false) (K : jK) (F : GH) (h hs : Nat) (co mi : Int32) (cn fm : Nat → Int32) (p : Nat) (hi : Int32) : Ct l K yX3_continueAfterSync cX3_continueAfterSync 1 none 0 0 0 0 [.ref h] (gB F h (rcC K h co mi cn fm p hi)) hs (pV (fun G' _ => G' = (gB F h (rcC K h co (nI 0) cn fm 0 hi)))) jno := by
  refine Ct.ofA hl (by decide) (Nat.le_of_ble_eq_true rfl) (L0 := [some (.ref h)]) (jL_of 0 rfl) ?_
  intro A E hE hQ hX hNm
  refine j_aload_n hE (i := 0) dX3_continueAfterSync_0 rfl rfl ?_
  refine j_iconst hE (v := nI 0) dX3_continueAfterSync_1 (by decide) ?_
  refine b_put1 hE flX3_15 rfl rfl dX3_continueAfterSync_2 ?_
  refine j_aload_n hE (i := 0) dX3_continueAfterSync_5 rfl rfl ?_
  refine j_iconst hE (v := nI 0) dX3_continueAfterSync_6 (by decide) ?_
  refine b_put4 hE flX3_25 rfl rfl dX3_continueAfterSync_7 ?_
  refine j_vret hE hQ (by omega) (by omega) dX3_continueAfterSync_10 ?_
  exact ⟨rfl, rfl⟩

set_option maxRecDepth 100000 in
set_option maxHeartbeats 4000000 in
theorem c_X3_endsWithSync_t {l : Launch} (hl : l.stackTraces = false) (K : jK) (F : GH) (h hs : Nat) (co mi : Int32) (cn fm : Nat → Int32) (p : Nat) (hi : Int32) (x : Int32) (hx : isSy x) : Ct l K yX3_endsWithSync cX3_endsWithSync 2 (some .boolean) 0 0 0 0 [.ref h, .int x] (gB F h (rcC K h co mi cn fm p hi)) hs (pI (fun z9 G' _ => z9 = nI 1 ∧ G' = (gB F h (rcC K h co mi cn fm p hi)))) jno := by
  refine Ct.ofA hl (by decide) (Nat.le_of_ble_eq_true rfl) (L0 := [some (.ref h), some (.int x)]) (jL_of 0 rfl) ?_
  intro A E hE hQ hX hNm
  refine j_iload_n hE (i := 1) dX3_endsWithSync_0 rfl rfl ?_
  refine j_ldc hE dX3_endsWithSync_1 tw_586 ?_
  refine j_iand hE dX3_endsWithSync_3 ?_
  refine j_ldc hE dX3_endsWithSync_4 tw_587 ?_
  refine j_ic_ne hE (tgt := 13) dX3_endsWithSync_6 (by decide) (fun h6 => ?_) (fun h6 => ?_)
  · exact absurd hx h6
  · refine j_iconst hE (v := nI 1) dX3_endsWithSync_9 (by decide) ?_
    refine j_goto hE (tgt := 14) dX3_endsWithSync_10 (by decide) ?_
    refine j_iret hE hQ rfl (by omega) (by omega) dX3_endsWithSync_14 ?_
    exact ⟨_, rfl, rfl, rfl⟩

set_option maxRecDepth 100000 in
set_option maxHeartbeats 4000000 in
theorem c_X3_endsWithSync_f {l : Launch} (hl : l.stackTraces = false) (K : jK) (F : GH) (h hs : Nat) (co mi : Int32) (cn fm : Nat → Int32) (p : Nat) (hi : Int32) (x : Int32) (hx : ¬ isSy x) : Ct l K yX3_endsWithSync cX3_endsWithSync 2 (some .boolean) 0 0 0 0 [.ref h, .int x] (gB F h (rcC K h co mi cn fm p hi)) hs (pI (fun z9 G' _ => z9 = nI 0 ∧ G' = (gB F h (rcC K h co mi cn fm p hi)))) jno := by
  refine Ct.ofA hl (by decide) (Nat.le_of_ble_eq_true rfl) (L0 := [some (.ref h), some (.int x)]) (jL_of 0 rfl) ?_
  intro A E hE hQ hX hNm
  refine j_iload_n hE (i := 1) dX3_endsWithSync_0 rfl rfl ?_
  refine j_ldc hE dX3_endsWithSync_1 tw_586 ?_
  refine j_iand hE dX3_endsWithSync_3 ?_
  refine j_ldc hE dX3_endsWithSync_4 tw_587 ?_
  refine j_ic_ne hE (tgt := 13) dX3_endsWithSync_6 (by decide) (fun h6 => ?_) (fun h6 => ?_)
  · refine j_iconst hE (v := nI 0) dX3_endsWithSync_13 (by decide) ?_
    refine j_iret hE hQ rfl (by omega) (by omega) dX3_endsWithSync_14 ?_
    exact ⟨_, rfl, rfl, rfl⟩
  · exact absurd h6 hx

theorem c_X3_endsWithSync {l : Launch} (hl : l.stackTraces = false) (K : jK) (F : GH) (h hs : Nat) (co mi : Int32) (cn fm : Nat → Int32) (p : Nat) (hi : Int32) (x : Int32) : Ct l K yX3_endsWithSync cX3_endsWithSync 2 (some .boolean) 0 0 0 0 [.ref h, .int x] (gB F h (rcC K h co mi cn fm p hi)) hs (pI (fun z9 G' _ => z9 = jb (decide (isSy x)) ∧ G' = (gB F h (rcC K h co mi cn fm p hi)))) jno := by
  by_cases hx : isSy x
  · rw [decide_eq_true hx]
    exact c_X3_endsWithSync_t hl K F h hs co mi cn fm p hi x hx
  · rw [decide_eq_false hx]
    exact c_X3_endsWithSync_f hl K F h hs co mi cn fm p hi x hx
set_option maxRecDepth 100000 in
set_option maxHeartbeats 4000000 in
theorem c_X3_storeBit {l : Launch} (hl : l.stackTraces = false) (K : jK) (F : GH) (h hs : Nat) (co mi : Int32) (cn fm : Nat → Int32) (p : Nat) (hi : Int32) (bit : Int32) (hp1 : 1 ≤ p) (hp : p ≤ 128) : Ct l K yX3_storeBit cX3_storeBit 3 none 0 0 0 0 [.ref h, .int bit] (gB F h (rcC K h co mi cn fm p hi)) hs (pV (fun G' _ => G' = (gB F h (rcC K h co mi cn (rSt fm p bit) p hi)))) jno := by
  refine Ct.ofA hl (by decide) (Nat.le_of_ble_eq_true rfl) (L0 := [some (.ref h), some (.int bit), none]) (jL_of 1 rfl) ?_
  intro A E hE hQ hX hNm
  refine j_aload_n hE (i := 0) dX3_storeBit_0 rfl rfl ?_
  refine j_get hE flX3_25 gB_0 rfl dX3_storeBit_1 ?_
  refine j_iconst hE (v := nI 1) dX3_storeBit_4 (by decide) ?_
  refine j_isubN hE dX3_storeBit_5 (by omega) ?_
  refine j_bipush hE (v := nI 8) dX3_storeBit_6 (by decide) ?_
  refine j_idivN hE dX3_storeBit_8 (by omega) (by omega) (by omega) ?_
  refine j_ist2 hE dX3_storeBit_9 rfl (by decide) rfl ?_
  refine j_iload_n hE (i := 2) dX3_storeBit_10 rfl rfl ?_
  refine j_if_lt hE (tgt := 43) dX3_storeBit_11 (by decide) (fun h11 => ?_) (fun h11 => ?_)
  · exact absurd h11 (nI_pos (by omega))
  · refine j_iload_n hE (i := 2) dX3_storeBit_14 rfl rfl ?_
    refine j_aload_n hE (i := 0) dX3_storeBit_15 rfl rfl ?_
    refine j_get hE flX3_22 gB_0 rfl dX3_storeBit_16 ?_
    refine j_alen hE gB_2 dX3_storeBit_19 ?_
    refine j_ic_geN hE (tgt := 43) dX3_storeBit_20 (by decide) (by omega) (by omega) (fun h20 => ?_) (fun h20 => ?_)
    · exfalso; omega
    · refine j_aload_n hE (i := 0) dX3_storeBit_23 rfl rfl ?_
      refine j_get hE flX3_22 gB_0 rfl dX3_storeBit_24 ?_
      refine j_iload_n hE (i := 2) dX3_storeBit_27 rfl rfl ?_
      refine j_aload_n hE (i := 0) dX3_storeBit_28 rfl rfl ?_
      refine j_get hE flX3_22 gB_0 rfl dX3_storeBit_29 ?_
      refine j_iload_n hE (i := 2) dX3_storeBit_32 rfl rfl ?_
      refine j_iald hE gB_2 rfl (by omega) (by decide) dX3_storeBit_33 ?_
      refine j_iconst hE (v := nI 1) dX3_storeBit_34 (by decide) ?_
      refine j_ishl hE dX3_storeBit_35 ?_
      refine j_iload_n hE (i := 1) dX3_storeBit_36 rfl rfl ?_
      refine j_ior hE dX3_storeBit_37 ?_
      refine j_sipush hE (v := nI 255) dX3_storeBit_38 (by decide) ?_
      refine j_iand hE dX3_storeBit_41 ?_
      refine b_ast2 hE rfl (by omega) (by decide) dX3_storeBit_42 ?_
      refine j_vret hE hQ (by omega) (by omega) dX3_storeBit_43 ?_
      exact ⟨rfl, rfl⟩

set_option maxRecDepth 100000 in
set_option maxHeartbeats 4000000 in
theorem c_X3_beginFrameWith {l : Launch} (hl : l.stackTraces = false) (K : jK) (F : GH) (h hs : Nat) (co mi : Int32) (cn fm : Nat → Int32) (p : Nat) (hi : Int32) (bit : Int32) : Ct l K yX3_beginFrameWith cX3_beginFrameWith 2 none 1 22 0 0 [.ref h, .int bit] (gB F h (rcC K h co mi cn fm p hi)) hs (pV (fun G' _ => G' = (gB F h (rcC K h co mi cn (rSt fm 1 bit) 1 hi)))) jno := by
  refine Ct.ofA hl (by decide) (Nat.le_of_ble_eq_true rfl) (L0 := [some (.ref h), some (.int bit)]) (jL_of 0 rfl) ?_
  intro A E hE hQ hX hNm
  refine j_aload_n hE (i := 0) dX3_beginFrameWith_0 rfl rfl ?_
  refine j_iconst hE (v := nI 1) dX3_beginFrameWith_1 (by decide) ?_
  refine b_put4 hE flX3_25 rfl rfl dX3_beginFrameWith_2 ?_
  refine j_aload_n hE (i := 0) dX3_beginFrameWith_5 rfl rfl ?_
  refine j_iload_n hE (i := 1) dX3_beginFrameWith_6 rfl rfl ?_
  refine j_cVv hE mlX3_40 gB_0 (fun l hl => c_X3_storeBit hl K F h _ _ _ _ _ _ _ _ (by omega) (by omega)) rfl rfl (Nat.le_of_ble_eq_true rfl) (by decide) (by decide) (by omega) (by omega) dX3_beginFrameWith_7 (fun G9 hs9 hp => ?_) (fun _ _ h => h.elim)
  subst hp
  refine j_vret hE hQ (by omega) (by omega) dX3_beginFrameWith_10 ?_
  exact ⟨rfl, rfl⟩

set_option maxRecDepth 100000 in
set_option maxHeartbeats 4000000 in
theorem c_X3_lookForSync {l : Launch} (hl : l.stackTraces = false) (K : jK) (F : GH) (h hs : Nat) (mi : Int32) (cn fm : Nat → Int32) (p : Nat) (hi : Int32) : Ct l K yX3_lookForSync cX3_lookForSync 1 none 1 21 0 0 [.ref h] (gB F h (rcC K h (nI 0) mi cn fm p hi)) hs (pV (fun G' _ => G' = (gB F h (rcS K h (rLook mi cn fm p hi))))) jno := by
  refine Ct.ofA hl (by decide) (Nat.le_of_ble_eq_true rfl) (L0 := [some (.ref h)]) (jL_of 0 rfl) ?_
  intro A E hE hQ hX hNm
  refine j_aload_n hE (i := 0) dX3_lookForSync_0 rfl rfl ?_
  refine j_aload_n hE (i := 0) dX3_lookForSync_1 rfl rfl ?_
  refine j_get hE flX3_28 gB_0 rfl dX3_lookForSync_2 ?_
  refine j_cVi hE mlX3_52 gB_0 (fun l hl => c_X3_endsWithSync hl K F h _ _ _ _ _ _ _ _) rfl rfl (Nat.le_of_ble_eq_true rfl) (by decide) (by decide) (by omega) (by omega) dX3_lookForSync_5 (fun r G9 hs9 hp => ?_) (fun _ _ h => h.elim)
  obtain ⟨rfl, rfl⟩ := hp
  refine j_if_eq hE (tgt := 31) dX3_lookForSync_8 (by decide) (fun h8 => ?_) (fun h8 => ?_)
  · refine j_vret hE hQ (by omega) (by omega) dX3_lookForSync_31 ?_
    refine ⟨rfl, ?_⟩
    unfold rLook
    first
      | (rw [if_pos (jbd_ne h8)]; done)
      | (rw [if_pos (jbd_ne h8)]; rfl)
      | (rw [if_neg (jbd_eq h8)]; done)
      | (rw [if_neg (jbd_eq h8)]; rfl)
  · refine j_aload_n hE (i := 0) dX3_lookForSync_11 rfl rfl ?_
    refine j_iconst hE (v := nI 1) dX3_lookForSync_12 (by decide) ?_
    refine b_put0 hE flX3_9 rfl rfl dX3_lookForSync_13 ?_
    refine j_aload_n hE (i := 0) dX3_lookForSync_16 rfl rfl ?_
    refine j_get hE flX3_18 gB_0 rfl dX3_lookForSync_17 ?_
    refine j_iconst hE (v := nI 5) dX3_lookForSync_20 (by decide) ?_
    refine j_dup2 hE dX3_lookForSync_21 rfl rfl ?_
    refine j_iald hE gB_1 rfl (by omega) (by decide) dX3_lookForSync_22 ?_
    refine j_iconst hE (v := nI 1) dX3_lookForSync_23 (by decide) ?_
    refine j_iadd hE dX3_lookForSync_24 ?_
    refine b_ast1 hE rfl (by omega) (by decide) dX3_lookForSync_25 ?_
    refine j_aload_n hE (i := 0) dX3_lookForSync_26 rfl rfl ?_
    refine j_iconst hE (v := nI 0) dX3_lookForSync_27 (by decide) ?_
    refine b_put4 hE flX3_25 rfl rfl dX3_lookForSync_28 ?_
    refine j_vret hE hQ (by omega) (by omega) dX3_lookForSync_31 ?_
    refine ⟨rfl, ?_⟩
    unfold rLook
    first
      | (rw [if_pos (jbd_ne h8)]; done)
      | (rw [if_pos (jbd_ne h8)]; rfl)
      | (rw [if_neg (jbd_eq h8)]; done)
      | (rw [if_neg (jbd_eq h8)]; rfl)

set_option maxRecDepth 100000 in
set_option maxHeartbeats 4000000 in
theorem c_X3_expectSync {l : Launch} (hl : l.stackTraces = false) (K : jK) (F : GH) (h hs : Nat) (co mi : Int32) (cn fm : Nat → Int32) (p : Nat) (hi : Int32) (bit : Int32) : Ct l K yX3_expectSync cX3_expectSync 2 none 2 43 0 0 [.ref h, .int bit] (gB F h (rcC K h co mi cn fm p hi)) hs (pV (fun G' _ => G' = (gB F h (rcS K h (rExp co mi cn fm p hi bit))))) jno := by
  refine Ct.ofA hl (by decide) (Nat.le_of_ble_eq_true rfl) (L0 := [some (.ref h), some (.int bit)]) (jL_of 0 rfl) ?_
  intro A E hE hQ hX hNm
  refine j_aload_n hE (i := 0) dX3_expectSync_0 rfl rfl ?_
  refine j_aload_n hE (i := 0) dX3_expectSync_1 rfl rfl ?_
  refine j_get hE flX3_28 gB_0 rfl dX3_expectSync_2 ?_
  refine j_cVi hE mlX3_52 gB_0 (fun l hl => c_X3_endsWithSync hl K F h _ _ _ _ _ _ _ _) rfl rfl (Nat.le_of_ble_eq_true rfl) (by decide) (by decide) (by omega) (by omega) dX3_expectSync_5 (fun r G9 hs9 hp => ?_) (fun _ _ h => h.elim)
  obtain ⟨rfl, rfl⟩ := hp
  refine j_if_eq hE (tgt := 23) dX3_expectSync_8 (by decide) (fun h8 => ?_) (fun h8 => ?_)
  · refine j_aload_n hE (i := 0) dX3_expectSync_23 rfl rfl ?_
    refine j_get hE flX3_9 gB_0 rfl dX3_expectSync_24 ?_
    refine j_iconst hE (v := nI 1) dX3_expectSync_27 (by decide) ?_
    refine j_ic_ne hE (tgt := 39) dX3_expectSync_28 (by decide) (fun h28 => ?_) (fun h28 => ?_)
    · refine j_aload_n hE (i := 0) dX3_expectSync_39 rfl rfl ?_
      refine j_aload_n hE (i := 0) dX3_expectSync_40 rfl rfl ?_
      refine j_get hE flX3_28 gB_0 rfl dX3_expectSync_41 ?_
      refine j_iconst hE (v := nI 1) dX3_expectSync_44 (by decide) ?_
      refine j_ishr hE dX3_expectSync_45 ?_
      refine j_cVi hE mlX3_52 gB_0 (fun l hl => c_X3_endsWithSync hl K F h _ _ _ _ _ _ _ _) rfl rfl (Nat.le_of_ble_eq_true rfl) (by decide) (by decide) (by omega) (by omega) dX3_expectSync_46 (fun r G9 hs9 hp => ?_) (fun _ _ h => h.elim)
      obtain ⟨rfl, rfl⟩ := hp
      refine j_if_eq hE (tgt := 71) dX3_expectSync_49 (by decide) (fun h49 => ?_) (fun h49 => ?_)
      · refine j_vret hE hQ (by omega) (by omega) dX3_expectSync_71 ?_
        refine ⟨rfl, ?_⟩
        unfold rExp
        first
          | (rw [if_pos (jbd_ne h8)]; done)
          | (rw [if_pos (jbd_ne h8)]; rfl)
          | (rw [if_neg (jbd_eq h8), if_pos h28]; done)
          | (rw [if_neg (jbd_eq h8), if_pos h28]; rfl)
          | (rw [if_neg (jbd_eq h8), if_neg h28, if_pos (jbd_ne h49)]; done)
          | (rw [if_neg (jbd_eq h8), if_neg h28, if_pos (jbd_ne h49)]; rfl)
          | (rw [if_neg (jbd_eq h8), if_neg h28, if_neg (jbd_eq h49)]; done)
          | (rw [if_neg (jbd_eq h8), if_neg h28, if_neg (jbd_eq h49)]; rfl)
      · refine j_aload_n hE (i := 0) dX3_expectSync_52 rfl rfl ?_
        refine j_get hE flX3_18 gB_0 rfl dX3_expectSync_53 ?_
        refine j_iconst hE (v := nI 2) dX3_expectSync_56 (by decide) ?_
        refine j_dup2 hE dX3_expectSync_57 rfl rfl ?_
        refine j_iald hE gB_1 rfl (by omega) (by decide) dX3_expectSync_58 ?_
        refine j_iconst hE (v := nI 1) dX3_expectSync_59 (by decide) ?_
        refine j_iadd hE dX3_expectSync_60 ?_
        refine b_ast1 hE rfl (by omega) (by decide) dX3_expectSync_61 ?_
        refine j_aload_n hE (i := 0) dX3_expectSync_62 rfl rfl ?_
        refine j_cVv hE mlX3_56 gB_0 (fun l hl => c_X3_continueAfterSync hl K F h _ _ _ _ _ _ _) rfl rfl (Nat.le_of_ble_eq_true rfl) (by decide) (by decide) (by omega) (by omega) dX3_expectSync_63 (fun G9 hs9 hp => ?_) (fun _ _ h => h.elim)
        subst hp
        refine j_aload_n hE (i := 0) dX3_expectSync_66 rfl rfl ?_
        refine j_iload_n hE (i := 1) dX3_expectSync_67 rfl rfl ?_
        refine j_cVv hE mlX3_59 gB_0 (fun l hl => c_X3_beginFrameWith hl K F h _ _ _ _ _ _ _ _) rfl rfl (Nat.le_of_ble_eq_true rfl) (by decide) (by decide) (by omega) (by omega) dX3_expectSync_68 (fun G9 hs9 hp => ?_) (fun _ _ h => h.elim)
        subst hp
        refine j_vret hE hQ (by omega) (by omega) dX3_expectSync_71 ?_
        refine ⟨rfl, ?_⟩
        unfold rExp
        first
          | (rw [if_pos (jbd_ne h8)]; done)
          | (rw [if_pos (jbd_ne h8)]; rfl)
          | (rw [if_neg (jbd_eq h8), if_pos h28]; done)
          | (rw [if_neg (jbd_eq h8), if_pos h28]; rfl)
          | (rw [if_neg (jbd_eq h8), if_neg h28, if_pos (jbd_ne h49)]; done)
          | (rw [if_neg (jbd_eq h8), if_neg h28, if_pos (jbd_ne h49)]; rfl)
          | (rw [if_neg (jbd_eq h8), if_neg h28, if_neg (jbd_eq h49)]; done)
          | (rw [if_neg (jbd_eq h8), if_neg h28, if_neg (jbd_eq h49)]; rfl)
    · refine j_aload_n hE (i := 0) dX3_expectSync_31 rfl rfl ?_
      refine j_iconst hE (v := nI 0) dX3_expectSync_32 (by decide) ?_
      refine b_put0 hE flX3_9 rfl rfl dX3_expectSync_33 ?_
      refine j_goto hE (tgt := 71) dX3_expectSync_36 (by decide) ?_
      refine j_vret hE hQ (by omega) (by omega) dX3_expectSync_71 ?_
      refine ⟨rfl, ?_⟩
      unfold rExp
      first
        | (rw [if_pos (jbd_ne h8)]; done)
        | (rw [if_pos (jbd_ne h8)]; rfl)
        | (rw [if_neg (jbd_eq h8), if_pos h28]; done)
        | (rw [if_neg (jbd_eq h8), if_pos h28]; rfl)
        | (rw [if_neg (jbd_eq h8), if_neg h28, if_pos (jbd_ne h49)]; done)
        | (rw [if_neg (jbd_eq h8), if_neg h28, if_pos (jbd_ne h49)]; rfl)
        | (rw [if_neg (jbd_eq h8), if_neg h28, if_neg (jbd_eq h49)]; done)
        | (rw [if_neg (jbd_eq h8), if_neg h28, if_neg (jbd_eq h49)]; rfl)
  · refine j_aload_n hE (i := 0) dX3_expectSync_11 rfl rfl ?_
    refine j_iconst hE (v := nI 2) dX3_expectSync_12 (by decide) ?_
    refine b_put0 hE flX3_9 rfl rfl dX3_expectSync_13 ?_
    refine j_aload_n hE (i := 0) dX3_expectSync_16 rfl rfl ?_
    refine j_cVv hE mlX3_56 gB_0 (fun l hl => c_X3_continueAfterSync hl K F h _ _ _ _ _ _ _) rfl rfl (Nat.le_of_ble_eq_true rfl) (by decide) (by decide) (by omega) (by omega) dX3_expectSync_17 (fun G9 hs9 hp => ?_) (fun _ _ h => h.elim)
    subst hp
    refine j_goto hE (tgt := 71) dX3_expectSync_20 (by decide) ?_
    refine j_vret hE hQ (by omega) (by omega) dX3_expectSync_71 ?_
    refine ⟨rfl, ?_⟩
    unfold rExp
    first
      | (rw [if_pos (jbd_ne h8)]; done)
      | (rw [if_pos (jbd_ne h8)]; rfl)
      | (rw [if_neg (jbd_eq h8), if_pos h28]; done)
      | (rw [if_neg (jbd_eq h8), if_pos h28]; rfl)
      | (rw [if_neg (jbd_eq h8), if_neg h28, if_pos (jbd_ne h49)]; done)
      | (rw [if_neg (jbd_eq h8), if_neg h28, if_pos (jbd_ne h49)]; rfl)
      | (rw [if_neg (jbd_eq h8), if_neg h28, if_neg (jbd_eq h49)]; done)
      | (rw [if_neg (jbd_eq h8), if_neg h28, if_neg (jbd_eq h49)]; rfl)

set_option maxRecDepth 100000 in
set_option maxHeartbeats 4000000 in
theorem c_X3_expectLateSync {l : Launch} (hl : l.stackTraces = false) (K : jK) (F : GH) (h hs : Nat) (co mi : Int32) (cn fm : Nat → Int32) (p : Nat) (hi : Int32) (bit : Int32) : Ct l K yX3_expectLateSync cX3_expectLateSync 2 none 2 43 0 0 [.ref h, .int bit] (gB F h (rcC K h co mi cn fm p hi)) hs (pV (fun G' _ => G' = (gB F h (rcS K h (rLate co mi cn fm p hi bit))))) jno := by
  refine Ct.ofA hl (by decide) (Nat.le_of_ble_eq_true rfl) (L0 := [some (.ref h), some (.int bit)]) (jL_of 0 rfl) ?_
  intro A E hE hQ hX hNm
  refine j_aload_n hE (i := 0) dX3_expectLateSync_0 rfl rfl ?_
  refine j_aload_n hE (i := 0) dX3_expectLateSync_1 rfl rfl ?_
  refine j_get hE flX3_28 gB_0 rfl dX3_expectLateSync_2 ?_
  refine j_cVi hE mlX3_52 gB_0 (fun l hl => c_X3_endsWithSync hl K F h _ _ _ _ _ _ _ _) rfl rfl (Nat.le_of_ble_eq_true rfl) (by decide) (by decide) (by omega) (by omega) dX3_expectLateSync_5 (fun r G9 hs9 hp => ?_) (fun _ _ h => h.elim)
  obtain ⟨rfl, rfl⟩ := hp
  refine j_if_eq hE (tgt := 26) dX3_expectLateSync_8 (by decide) (fun h8 => ?_) (fun h8 => ?_)
  · refine j_aload_n hE (i := 0) dX3_expectLateSync_26 rfl rfl ?_
    refine j_get hE flX3_18 gB_0 rfl dX3_expectLateSync_27 ?_
    refine j_iconst hE (v := nI 4) dX3_expectLateSync_30 (by decide) ?_
    refine j_dup2 hE dX3_expectLateSync_31 rfl rfl ?_
    refine j_iald hE gB_1 rfl (by omega) (by decide) dX3_expectLateSync_32 ?_
    refine j_iconst hE (v := nI 1) dX3_expectLateSync_33 (by decide) ?_
    refine j_iadd hE dX3_expectLateSync_34 ?_
    refine b_ast1 hE rfl (by omega) (by decide) dX3_expectLateSync_35 ?_
    refine j_aload_n hE (i := 0) dX3_expectLateSync_36 rfl rfl ?_
    refine j_dup hE dX3_expectLateSync_37 rfl ?_
    refine j_get hE flX3_15 gB_0 rfl dX3_expectLateSync_38 ?_
    refine j_iconst hE (v := nI 1) dX3_expectLateSync_41 (by decide) ?_
    refine j_iadd hE dX3_expectLateSync_42 ?_
    refine b_put1 hE flX3_15 rfl rfl dX3_expectLateSync_43 ?_
    refine j_aload_n hE (i := 0) dX3_expectLateSync_46 rfl rfl ?_
    refine j_get hE flX3_15 gB_0 rfl dX3_expectLateSync_47 ?_
    refine j_iconst hE (v := nI 3) dX3_expectLateSync_50 (by decide) ?_
    refine j_ic_lt hE (tgt := 61) dX3_expectLateSync_51 (by decide) (fun h51 => ?_) (fun h51 => ?_)
    · refine j_aload_n hE (i := 0) dX3_expectLateSync_61 rfl rfl ?_
      refine j_iload_n hE (i := 1) dX3_expectLateSync_62 rfl rfl ?_
      refine j_cVv hE mlX3_59 gB_0 (fun l hl => c_X3_beginFrameWith hl K F h _ _ _ _ _ _ _ _) rfl rfl (Nat.le_of_ble_eq_true rfl) (by decide) (by decide) (by omega) (by omega) dX3_expectLateSync_63 (fun G9 hs9 hp => ?_) (fun _ _ h => h.elim)
      subst hp
      refine j_vret hE hQ (by omega) (by omega) dX3_expectLateSync_66 ?_
      refine ⟨rfl, ?_⟩
      unfold rLate
      first
        | (rw [if_neg (jbd_eq h8), if_pos h51]; done)
        | (rw [if_neg (jbd_eq h8), if_pos h51]; rfl)
        | (rw [if_neg (jbd_eq h8), if_neg h51]; done)
        | (rw [if_neg (jbd_eq h8), if_neg h51]; rfl)
    · refine j_aload_n hE (i := 0) dX3_expectLateSync_54 rfl rfl ?_
      refine j_cVv hE mlX3_62 gB_0 (fun l hl => c_X3_restart hl K F h _ _ _ _ _ _ _) rfl rfl (Nat.le_of_ble_eq_true rfl) (by decide) (by decide) (by omega) (by omega) dX3_expectLateSync_55 (fun G9 hs9 hp => ?_) (fun _ _ h => h.elim)
      subst hp
      refine j_goto hE (tgt := 66) dX3_expectLateSync_58 (by decide) ?_
      refine j_vret hE hQ (by omega) (by omega) dX3_expectLateSync_66 ?_
      refine ⟨rfl, ?_⟩
      unfold rLate
      first
        | (rw [if_neg (jbd_eq h8), if_pos h51]; done)
        | (rw [if_neg (jbd_eq h8), if_pos h51]; rfl)
        | (rw [if_neg (jbd_eq h8), if_neg h51]; done)
        | (rw [if_neg (jbd_eq h8), if_neg h51]; rfl)
  · refine j_aload_n hE (i := 0) dX3_expectLateSync_11 rfl rfl ?_
    refine j_get hE flX3_18 gB_0 rfl dX3_expectLateSync_12 ?_
    refine j_iconst hE (v := nI 3) dX3_expectLateSync_15 (by decide) ?_
    refine j_dup2 hE dX3_expectLateSync_16 rfl rfl ?_
    refine j_iald hE gB_1 rfl (by omega) (by decide) dX3_expectLateSync_17 ?_
    refine j_iconst hE (v := nI 1) dX3_expectLateSync_18 (by decide) ?_
    refine j_iadd hE dX3_expectLateSync_19 ?_
    refine b_ast1 hE rfl (by omega) (by decide) dX3_expectLateSync_20 ?_
    refine j_aload_n hE (i := 0) dX3_expectLateSync_21 rfl rfl ?_
    refine j_cVv hE mlX3_56 gB_0 (fun l hl => c_X3_continueAfterSync hl K F h _ _ _ _ _ _ _) rfl rfl (Nat.le_of_ble_eq_true rfl) (by decide) (by decide) (by omega) (by omega) dX3_expectLateSync_22 (fun G9 hs9 hp => ?_) (fun _ _ h => h.elim)
    subst hp
    refine j_vret hE hQ (by omega) (by omega) dX3_expectLateSync_25 ?_
    refine ⟨rfl, ?_⟩
    unfold rLate
    first
      | (rw [if_pos (jbd_ne h8)]; done)
      | (rw [if_pos (jbd_ne h8)]; rfl)

/-- a bit taken: the receiver behind it; whether a minor frame is to be delivered -/
def rTk (co mi : Int32) (cn fm : Nat → Int32) (p : Nat) (hi bit : Int32) (B : Nat) : RcV :=
  if co = 0 then rLook mi cn fm p ((hi <<< (nI 1 &&& 31)) ||| bit)
  else if p + 1 ≤ B then (co, mi, cn, rSt fm (p + 1) bit, p + 1, (hi <<< (nI 1 &&& 31)) ||| bit)
  else if p + 1 = B + 16 then rExp co mi cn fm (p + 1) ((hi <<< (nI 1 &&& 31)) ||| bit) bit
  else if B + 16 < p + 1 then rLate co mi cn fm (p + 1) ((hi <<< (nI 1 &&& 31)) ||| bit) bit
  else (co, mi, cn, fm, p + 1, (hi <<< (nI 1 &&& 31)) ||| bit)
def rDo (co : Int32) (p B : Nat) : Bool := decide (¬ co = 0 ∧ p + 1 = B ∧ co = nI 2)
set_option maxRecDepth 100000 in
set_option maxHeartbeats 4000000 in
theorem c_X3_takeBit {l : Launch} (hl : l.stackTraces = false) (K : jK) (F : GH) (h hs : Nat) (co mi : Int32) (cn fm : Nat → Int32) (p : Nat) (hi : Int32) (bit : Int32) (B : Nat) (hB : B ≤ 112) (hp : p ≤ 1000) : Ct l K yX3_takeBit cX3_takeBit 3 (some .boolean) 3 64 0 0 [.ref h, .int bit, .int (nI B)] (gB F h (rcC K h co mi cn fm p hi)) hs (pI (fun z9 G' _ => z9 = jb (rDo co p B) ∧ G' = (gB F h (rcS K h (rTk co mi cn fm p hi bit B))))) jno := by
  refine Ct.ofA hl (by decide) (Nat.le_of_ble_eq_true rfl) (L0 := [some (.ref h), some (.int bit), some (.int (nI B))]) (jL_of 0 rfl) ?_
  intro A E hE hQ hX hNm
  refine j_aload_n hE (i := 0) dX3_takeBit_0 rfl rfl ?_
  refine j_aload_n hE (i := 0) dX3_takeBit_1 rfl rfl ?_
  refine j_get hE flX3_28 gB_0 rfl dX3_takeBit_2 ?_
  refine j_iconst hE (v := nI 1) dX3_takeBit_5 (by decide) ?_
  refine j_ishl hE dX3_takeBit_6 ?_
  refine j_iload_n hE (i := 1) dX3_takeBit_7 rfl rfl ?_
  refine j_ior hE dX3_takeBit_8 ?_
  refine b_put5 hE flX3_28 rfl rfl dX3_takeBit_9 ?_
  refine j_aload_n hE (i := 0) dX3_takeBit_12 rfl rfl ?_
  refine j_get hE flX3_9 gB_0 rfl dX3_takeBit_13 ?_
  refine j_if_ne hE (tgt := 25) dX3_takeBit_16 (by decide) (fun h16 => ?_) (fun h16 => ?_)
  · refine j_aload_n hE (i := 0) dX3_takeBit_25 rfl rfl ?_
    refine j_dup hE dX3_takeBit_26 rfl ?_
    refine j_get hE flX3_25 gB_0 rfl dX3_takeBit_27 ?_
    refine j_iconst hE (v := nI 1) dX3_takeBit_30 (by decide) ?_
    refine j_iaddN hE dX3_takeBit_31 ?_
    refine b_put4 hE flX3_25 rfl rfl dX3_takeBit_32 ?_
    refine j_aload_n hE (i := 0) dX3_takeBit_35 rfl rfl ?_
    refine j_get hE flX3_25 gB_0 rfl dX3_takeBit_36 ?_
    refine j_iload_n hE (i := 2) dX3_takeBit_39 rfl rfl ?_
    refine j_ic_gtN hE (tgt := 70) dX3_takeBit_40 (by decide) (by omega) (by omega) (fun h40 => ?_) (fun h40 => ?_)
    · refine j_aload_n hE (i := 0) dX3_takeBit_70 rfl rfl ?_
      refine j_get hE flX3_25 gB_0 rfl dX3_takeBit_71 ?_
      refine j_iload_n hE (i := 2) dX3_takeBit_74 rfl rfl ?_
      refine j_bipush hE (v := nI 16) dX3_takeBit_75 (by decide) ?_
      refine j_iaddN hE dX3_takeBit_77 ?_
      refine j_ic_neN hE (tgt := 89) dX3_takeBit_78 (by decide) (by omega) (by omega) (fun h78 => ?_) (fun h78 => ?_)
      · refine j_aload_n hE (i := 0) dX3_takeBit_89 rfl rfl ?_
        refine j_get hE flX3_25 gB_0 rfl dX3_takeBit_90 ?_
        refine j_iload_n hE (i := 2) dX3_takeBit_93 rfl rfl ?_
        refine j_bipush hE (v := nI 16) dX3_takeBit_94 (by decide) ?_
        refine j_iaddN hE dX3_takeBit_96 ?_
        refine j_ic_leN hE (tgt := 105) dX3_takeBit_97 (by decide) (by omega) (by omega) (fun h97 => ?_) (fun h97 => ?_)
        · refine j_iconst hE (v := nI 0) dX3_takeBit_105 (by decide) ?_
          refine j_iret hE hQ rfl (by omega) (by omega) dX3_takeBit_106 ?_
          refine ⟨_, rfl, ?_, ?_⟩
          · exact (congrArg jb (decide_eq_false (fun q => by omega))).symm
          · unfold rTk
            first
              | (rw [if_neg h16, if_neg (by omega), if_pos h78]; done)
              | (rw [if_neg h16, if_neg (by omega), if_pos h78]; rfl)
              | (rw [if_neg h16, if_neg (by omega), if_neg h78, if_pos h97]; done)
              | (rw [if_neg h16, if_neg (by omega), if_neg h78, if_pos h97]; rfl)
              | (rw [if_neg h16, if_neg (by omega), if_neg h78, if_neg (by omega)]; done)
              | (rw [if_neg h16, if_neg (by omega), if_neg h78, if_neg (by omega)]; rfl)
        · refine j_aload_n hE (i := 0) dX3_takeBit_100 rfl rfl ?_
          refine j_iload_n hE (i := 1) dX3_takeBit_101 rfl rfl ?_
          refine j_cVv hE mlX3_47 gB_0 (fun l hl => c_X3_expectLateSync hl K F h _ _ _ _ _ _ _ _) rfl rfl (Nat.le_of_ble_eq_true rfl) (by decide) (by decide) (by omega) (by omega) dX3_takeBit_102 (fun G9 hs9 hp => ?_) (fun _ _ h => h.elim)
          subst hp
          refine j_iconst hE (v := nI 0) dX3_takeBit_105 (by decide) ?_
          refine j_iret hE hQ rfl (by omega) (by omega) dX3_takeBit_106 ?_
          refine ⟨_, rfl, ?_, ?_⟩
          · exact (congrArg jb (decide_eq_false (fun q => by omega))).symm
          · unfold rTk
            first
              | (rw [if_neg h16, if_neg (by omega), if_pos h78]; done)
              | (rw [if_neg h16, if_neg (by omega), if_pos h78]; rfl)
              | (rw [if_neg h16, if_neg (by omega), if_neg h78, if_pos h97]; done)
              | (rw [if_neg h16, if_neg (by omega), if_neg h78, if_pos h97]; rfl)
              | (rw [if_neg h16, if_neg (by omega), if_neg h78, if_neg (by omega)]; done)
              | (rw [if_neg h16, if_neg (by omega), if_neg h78, if_neg (by omega)]; rfl)
      · refine j_aload_n hE (i := 0) dX3_takeBit_81 rfl rfl ?_
        refine j_iload_n hE (i := 1) dX3_takeBit_82 rfl rfl ?_
        refine j_cVv hE mlX3_44 gB_0 (fun l hl => c_X3_expectSync hl K F h _ _ _ _ _ _ _ _) rfl rfl (Nat.le_of_ble_eq_true rfl) (by decide) (by decide) (by omega) (by omega) dX3_takeBit_83 (fun G9 hs9 hp => ?_) (fun _ _ h => h.elim)
        subst hp
        refine j_goto hE (tgt := 105) dX3_takeBit_86 (by decide) ?_
        refine j_iconst hE (v := nI 0) dX3_takeBit_105 (by decide) ?_
        refine j_iret hE hQ rfl (by omega) (by omega) dX3_takeBit_106 ?_
        refine ⟨_, rfl, ?_, ?_⟩
        · exact (congrArg jb (decide_eq_false (fun q => by omega))).symm
        · unfold rTk
          first
            | (rw [if_neg h16, if_neg (by omega), if_pos h78]; done)
            | (rw [if_neg h16, if_neg (by omega), if_pos h78]; rfl)
            | (rw [if_neg h16, if_neg (by omega), if_neg h78, if_pos h97]; done)
            | (rw [if_neg h16, if_neg (by omega), if_neg h78, if_pos h97]; rfl)
            | (rw [if_neg h16, if_neg (by omega), if_neg h78, if_neg (by omega)]; done)
            | (rw [if_neg h16, if_neg (by omega), if_neg h78, if_neg (by omega)]; rfl)
    · refine j_aload_n hE (i := 0) dX3_takeBit_43 rfl rfl ?_
      refine j_iload_n hE (i := 1) dX3_takeBit_44 rfl rfl ?_
      refine j_cVv hE mlX3_40 gB_0 (fun l hl => c_X3_storeBit hl K F h _ _ _ _ _ _ _ _ (by omega) (by omega)) rfl rfl (Nat.le_of_ble_eq_true rfl) (by decide) (by decide) (by omega) (by omega) dX3_takeBit_45 (fun G9 hs9 hp => ?_) (fun _ _ h => h.elim)
      subst hp
      refine j_aload_n hE (i := 0) dX3_takeBit_48 rfl rfl ?_
      refine j_get hE flX3_25 gB_0 rfl dX3_takeBit_49 ?_
      refine j_iload_n hE (i := 2) dX3_takeBit_52 rfl rfl ?_
      refine j_ic_neN hE (tgt := 68) dX3_takeBit_53 (by decide) (by omega) (by omega) (fun h53 => ?_) (fun h53 => ?_)
      · refine j_iconst hE (v := nI 0) dX3_takeBit_68 (by decide) ?_
        refine j_iret hE hQ rfl (by omega) (by omega) dX3_takeBit_69 ?_
        refine ⟨_, rfl, ?_, ?_⟩
        · exact (congrArg jb ((show rDo co p B = _ from (by first | exact decide_eq_true (p := ¬ co = 0 ∧ p + 1 = B ∧ co = nI 2) ⟨h16, h53, h61⟩ | exact decide_eq_false (p := ¬ co = 0 ∧ p + 1 = B ∧ co = nI 2) (fun q => h61 q.2.2) | exact decide_eq_false (p := ¬ co = 0 ∧ p + 1 = B ∧ co = nI 2) (fun q => h53 q.2.1))))).symm
        · unfold rTk
          first
            | (rw [if_neg h16, if_pos h40]; done)
            | (rw [if_neg h16, if_pos h40]; rfl)
      · refine j_aload_n hE (i := 0) dX3_takeBit_56 rfl rfl ?_
        refine j_get hE flX3_9 gB_0 rfl dX3_takeBit_57 ?_
        refine j_iconst hE (v := nI 2) dX3_takeBit_60 (by decide) ?_
        refine j_ic_ne hE (tgt := 68) dX3_takeBit_61 (by decide) (fun h61 => ?_) (fun h61 => ?_)
        · refine j_iconst hE (v := nI 0) dX3_takeBit_68 (by decide) ?_
          refine j_iret hE hQ rfl (by omega) (by omega) dX3_takeBit_69 ?_
          refine ⟨_, rfl, ?_, ?_⟩
          · exact (congrArg jb ((show rDo co p B = _ from (by first | exact decide_eq_true (p := ¬ co = 0 ∧ p + 1 = B ∧ co = nI 2) ⟨h16, h53, h61⟩ | exact decide_eq_false (p := ¬ co = 0 ∧ p + 1 = B ∧ co = nI 2) (fun q => h61 q.2.2) | exact decide_eq_false (p := ¬ co = 0 ∧ p + 1 = B ∧ co = nI 2) (fun q => h53 q.2.1))))).symm
          · unfold rTk
            first
              | (rw [if_neg h16, if_pos h40]; done)
              | (rw [if_neg h16, if_pos h40]; rfl)
        · refine j_iconst hE (v := nI 1) dX3_takeBit_64 (by decide) ?_
          refine j_goto hE (tgt := 69) dX3_takeBit_65 (by decide) ?_
          refine j_iret hE hQ rfl (by omega) (by omega) dX3_takeBit_69 ?_
          refine ⟨_, rfl, ?_, ?_⟩
          · exact (congrArg jb ((show rDo co p B = _ from (by first | exact decide_eq_true (p := ¬ co = 0 ∧ p + 1 = B ∧ co = nI 2) ⟨h16, h53, h61⟩ | exact decide_eq_false (p := ¬ co = 0 ∧ p + 1 = B ∧ co = nI 2) (fun q => h61 q.2.2) | exact decide_eq_false (p := ¬ co = 0 ∧ p + 1 = B ∧ co = nI 2) (fun q => h53 q.2.1))))).symm
          · unfold rTk
            first
              | (rw [if_neg h16, if_pos h40]; done)
              | (rw [if_neg h16, if_pos h40]; rfl)
  · have c9 : co = nI 0 := h16
    subst c9
    refine j_aload_n hE (i := 0) dX3_takeBit_19 rfl rfl ?_
    refine j_cVv hE mlX3_37 gB_0 (fun l hl => c_X3_lookForSync hl K F h _ _ _ _ _ _) rfl rfl (Nat.le_of_ble_eq_true rfl) (by decide) (by decide) (by omega) (by omega) dX3_takeBit_20 (fun G9 hs9 hp => ?_) (fun _ _ h => h.elim)
    subst hp
    refine j_iconst hE (v := nI 0) dX3_takeBit_23 (by decide) ?_
    refine j_iret hE hQ rfl (by omega) (by omega) dX3_takeBit_24 ?_
    refine ⟨_, rfl, ?_, ?_⟩
    · exact (congrArg jb (decide_eq_false (fun q => q.1 rfl))).symm
    · unfold rTk
      first
        | (rw [if_pos (show nI 0 = 0 from rfl)]; done)
        | (rw [if_pos (show nI 0 = 0 from rfl)]; rfl)

def rH (cn : Nat → Int32) (i : Nat) (h : Int64) : Int64 := 31 * h + (cn i).toInt64
set_option maxRecDepth 100000 in
set_option maxHeartbeats 4000000 in
theorem c_X3_mixInto {l : Launch} (hl : l.stackTraces = false) (K : jK) (F : GH) (h hs : Nat) (co mi : Int32) (cn fm : Nat → Int32) (p : Nat) (hi : Int32) (z : Int64) : Ct l K yX3_mixInto cX3_mixInto 6 (some .long) 1 23 0 0 [.ref h, .long z] (gB F h (rcC K h co mi cn fm p hi)) hs (pL (fun z9 G' _ => z9 = itr (rH cn) 6 (31 * (31 * z + co.toInt64) + mi.toInt64) ∧ G' = (gB F h (rcC K h co mi cn fm p hi)))) jno := by
  refine Ct.ofA hl (by decide) (Nat.le_of_ble_eq_true rfl) (L0 := [some (.ref h), some (.long z), none, none, none, none]) (jL_of 3 rfl) ?_
  intro A E hE hQ hX hNm
  refine j_lload_n hE (i := 1) dX3_mixInto_0 rfl rfl ?_
  refine j_aload_n hE (i := 0) dX3_mixInto_1 rfl rfl ?_
  refine j_get hE flX3_9 gB_0 rfl dX3_mixInto_2 ?_
  refine j_i2l hE dX3_mixInto_5 ?_
  refine j_cNl hE mlX3_65 (fun l hl => c_X5_mix hl K _ _ _ _) rfl rfl (Nat.le_of_ble_eq_true rfl) (by decide) (by decide) (by omega) (by omega) dX3_mixInto_6 (fun r G9 hs9 hp => ?_)
  obtain ⟨rfl, rfl⟩ := hp
  refine j_lst3 hE dX3_mixInto_9 rfl (by decide) rfl ?_
  refine j_lload_n hE (i := 3) dX3_mixInto_10 rfl rfl ?_
  refine j_aload_n hE (i := 0) dX3_mixInto_11 rfl rfl ?_
  refine j_get hE flX3_15 gB_0 rfl dX3_mixInto_12 ?_
  refine j_i2l hE dX3_mixInto_15 ?_
  refine j_cNl hE mlX3_65 (fun l hl => c_X5_mix hl K _ _ _ _) rfl rfl (Nat.le_of_ble_eq_true rfl) (by decide) (by decide) (by omega) (by omega) dX3_mixInto_16 (fun r G9 hs9 hp => ?_)
  obtain ⟨rfl, rfl⟩ := hp
  refine j_lst3 hE dX3_mixInto_19 rfl (by decide) rfl ?_
  refine j_iconst hE (v := nI 0) dX3_mixInto_20 (by decide) ?_
  refine j_ist5 hE dX3_mixInto_21 (by decide) rfl ?_
  have key23 : ∀ i, i ≤ 6 → ∀ hs, J K A E 6 (gB F h (rcC K h co mi cn fm p hi)) hs 0 0 23 [some (.ref h), some (.long z), none, some (.long (itr (rH cn) i (31 * (31 * z + co.toInt64) + mi.toInt64))), none, some (.int (nI i))] [] := by
    refine dloop (fun i => ∀ hs, J K A E 6 (gB F h (rcC K h co mi cn fm p hi)) hs 0 0 23 [some (.ref h), some (.long z), none, some (.long (itr (rH cn) i (31 * (31 * z + co.toInt64) + mi.toInt64))), none, some (.int (nI i))] []) (6) (fun i hi23 ih23 => ?_) ?_
    · intro hs
      refine j_iload hE dX3_mixInto_23 rfl ?_
      refine j_bipush hE (v := nI 6) dX3_mixInto_25 (by decide) ?_
      refine j_ic_geN hE (tgt := 49) dX3_mixInto_27 (by decide) (by omega) (by omega) (fun h27 => ?_) (fun h27 => ?_)
      · exfalso; omega
      · refine j_lload_n hE (i := 3) dX3_mixInto_30 rfl rfl ?_
        refine j_aload_n hE (i := 0) dX3_mixInto_31 rfl rfl ?_
        refine j_get hE flX3_18 gB_0 rfl dX3_mixInto_32 ?_
        refine j_iload hE dX3_mixInto_35 rfl ?_
        refine j_iald hE gB_1 rfl (by omega) (by decide) dX3_mixInto_37 ?_
        refine j_i2l hE dX3_mixInto_38 ?_
        refine j_cNl hE mlX3_65 (fun l hl => c_X5_mix hl K _ _ _ _) rfl rfl (Nat.le_of_ble_eq_true rfl) (by decide) (by decide) (by omega) (by omega) dX3_mixInto_39 (fun r G9 hs9 hp => ?_)
        obtain ⟨rfl, rfl⟩ := hp
        refine j_lst3 hE dX3_mixInto_42 rfl (by decide) rfl ?_
        refine j_incN5 hE dX3_mixInto_43 (by decide) rfl ?_
        refine j_goto hE (tgt := 23) dX3_mixInto_46 (by decide) ?_
        exact ih23 _
    · intro hs
      refine j_iload hE dX3_mixInto_23 rfl ?_
      refine j_bipush hE (v := nI 6) dX3_mixInto_25 (by decide) ?_
      refine j_ic_geN hE (tgt := 49) dX3_mixInto_27 (by decide) (by omega) (by omega) (fun h27 => ?_) (fun h27 => ?_)
      · refine j_lload_n hE (i := 3) dX3_mixInto_49 rfl rfl ?_
        refine j_lret hE hQ (by omega) (by omega) dX3_mixInto_50 ?_
        exact ⟨_, rfl, rfl, rfl⟩
      · exfalso; omega
  exact key23 0 (by omega) _

set_option maxRecDepth 100000 in
set_option maxHeartbeats 4000000 in
theorem c_X3_copyFrom {l : Launch} (hl : l.stackTraces = false) (K : jK) (F : GH) (h hs : Nat) (co mi : Int32) (cn fm : Nat → Int32) (p : Nat) (hi : Int32) (o : Nat) (co2 mi2 : Int32) (cn2 fm2 : Nat → Int32) (p2 : Nat) (hi2 : Int32) (hF0 : F o = some (.inr (3, [.int co2, .int mi2, .ref (o + 1), .ref (o + 2), .int (nI p2), .int hi2]))) (hF1 : F (o + 1) = some (iA K 6 cn2)) (hF2 : F (o + 2) = some (iA K 16 fm2)) (hd : o + 3 ≤ h ∨ h + 3 ≤ o) : Ct l K yX3_copyFrom cX3_copyFrom 2 none 1 18 0 0 [.ref h, .ref o] (gB F h (rcC K h co mi cn fm p hi)) hs (pV (fun G' _ => G' = (gB F h (rcC K h co2 mi2 (va_cpy cn2 cn 0 0 6) (va_cpy fm2 fm 0 0 16) p2 hi2)))) jno := by
  refine Ct.ofA hl (by decide) (Nat.le_of_ble_eq_true rfl) (L0 := [some (.ref h), some (.ref o)]) (jL_of 0 rfl) ?_
  intro A E hE hQ hX hNm
  refine j_aload_n hE (i := 0) dX3_copyFrom_0 rfl rfl ?_
  refine j_aload_n hE (i := 1) dX3_copyFrom_1 rfl rfl ?_
  refine j_get hE flX3_9 ((gB_out (by simp only [List.length_cons, List.length_nil]; omega)).trans hF0) rfl dX3_copyFrom_2 ?_
  refine b_put0 hE flX3_9 rfl rfl dX3_copyFrom_5 ?_
  refine j_aload_n hE (i := 0) dX3_copyFrom_8 rfl rfl ?_
  refine j_aload_n hE (i := 1) dX3_copyFrom_9 rfl rfl ?_
  refine j_get hE flX3_15 ((gB_out (by simp only [List.length_cons, List.length_nil]; omega)).trans hF0) rfl dX3_copyFrom_10 ?_
  refine b_put1 hE flX3_15 rfl rfl dX3_copyFrom_13 ?_
  refine j_aload_n hE (i := 1) dX3_copyFrom_16 rfl rfl ?_
  refine j_get hE flX3_18 ((gB_out (by simp only [List.length_cons, List.length_nil]; omega)).trans hF0) rfl dX3_copyFrom_17 ?_
  refine j_iconst hE (v := nI 0) dX3_copyFrom_20 (by decide) ?_
  refine j_aload_n hE (i := 0) dX3_copyFrom_21 rfl rfl ?_
  refine j_get hE flX3_18 gB_0 rfl dX3_copyFrom_22 ?_
  refine j_iconst hE (v := nI 0) dX3_copyFrom_25 (by decide) ?_
  refine j_aload_n hE (i := 0) dX3_copyFrom_26 rfl rfl ?_
  refine j_get hE flX3_18 gB_0 rfl dX3_copyFrom_27 ?_
  refine j_alen hE gB_1 dX3_copyFrom_30 ?_
  refine b_copy1 hE tw_290 tw_211 tw_210 tw_12 ((gB_out (by simp only [List.length_cons, List.length_nil]; omega)).trans hF1) rfl rfl rfl (by omega) (by omega) (by decide) (by decide) (by decide) (Nat.le_of_ble_eq_true rfl) dX3_copyFrom_31 (fun hs => ?_)
  refine j_aload_n hE (i := 1) dX3_copyFrom_34 rfl rfl ?_
  refine j_get hE flX3_22 ((gB_out (by simp only [List.length_cons, List.length_nil]; omega)).trans hF0) rfl dX3_copyFrom_35 ?_
  refine j_iconst hE (v := nI 0) dX3_copyFrom_38 (by decide) ?_
  refine j_aload_n hE (i := 0) dX3_copyFrom_39 rfl rfl ?_
  refine j_get hE flX3_22 gB_0 rfl dX3_copyFrom_40 ?_
  refine j_iconst hE (v := nI 0) dX3_copyFrom_43 (by decide) ?_
  refine j_aload_n hE (i := 0) dX3_copyFrom_44 rfl rfl ?_
  refine j_get hE flX3_22 gB_0 rfl dX3_copyFrom_45 ?_
  refine j_alen hE gB_2 dX3_copyFrom_48 ?_
  refine b_copy2 hE tw_290 tw_211 tw_210 tw_12 ((gB_out (by simp only [List.length_cons, List.length_nil]; omega)).trans hF2) rfl rfl rfl (by omega) (by omega) (by decide) (by decide) (by decide) (Nat.le_of_ble_eq_true rfl) dX3_copyFrom_49 (fun hs => ?_)
  refine j_aload_n hE (i := 0) dX3_copyFrom_52 rfl rfl ?_
  refine j_aload_n hE (i := 1) dX3_copyFrom_53 rfl rfl ?_
  refine j_get hE flX3_25 ((gB_out (by simp only [List.length_cons, List.length_nil]; omega)).trans hF0) rfl dX3_copyFrom_54 ?_
  refine b_put4 hE flX3_25 rfl rfl dX3_copyFrom_57 ?_
  refine j_aload_n hE (i := 0) dX3_copyFrom_60 rfl rfl ?_
  refine j_aload_n hE (i := 1) dX3_copyFrom_61 rfl rfl ?_
  refine j_get hE flX3_28 ((gB_out (by simp only [List.length_cons, List.length_nil]; omega)).trans hF0) rfl dX3_copyFrom_62 ?_
  refine b_put5 hE flX3_28 rfl rfl dX3_copyFrom_65 ?_
  refine j_vret hE hQ (by omega) (by omega) dX3_copyFrom_68 ?_
  exact ⟨rfl, rfl⟩

set_option maxRecDepth 100000 in
set_option maxHeartbeats 4000000 in
theorem c_X3_init {l : Launch} (hl : l.stackTraces = false) (K : jK) (F : GH) (h : Nat) : Ct l K yX3_init cX3_init 1 none 1 12 2 22 [.ref h] (gB F h [.inr (3, [.int 0, .int 0, .null, .null, .int 0, .int 0])]) (h + 1) (pV (fun G' hs' => G' = gB F h (rcC K h (nI 0) (nI 0) (fun _ => 0) (fun _ => 0) 0 (nI 0)) ∧ hs' = h + 3)) jno := by
  refine Ct.ofA hl (by decide) (Nat.le_of_ble_eq_true rfl) (L0 := [some (.ref h)]) (jL_of 0 rfl) ?_
  intro A E hE hQ hX hNm
  refine j_aload_n hE (i := 0) dX3_init_0 rfl rfl ?_
  refine j_obj hE tw_84 tw_22 tw_23 (by decide) (Nat.le_of_ble_eq_true rfl) dX3_init_1 ?_
  refine j_aload_n hE (i := 0) dX3_init_4 rfl rfl ?_
  refine j_iconst hE (v := nI 0) dX3_init_5 (by decide) ?_
  refine b_put0 hE flX3_9 rfl rfl dX3_init_6 ?_
  refine j_aload_n hE (i := 0) dX3_init_9 rfl rfl ?_
  refine j_iconst hE (v := nI 0) dX3_init_10 (by decide) ?_
  refine b_put1 hE flX3_15 rfl rfl dX3_init_11 ?_
  refine j_aload_n hE (i := 0) dX3_init_14 rfl rfl ?_
  refine j_bipush hE (v := nI 6) dX3_init_15 (by decide) ?_
  refine j_newi hE (N := 6) rfl (by decide) tw_59 (by decide) (by decide) dX3_init_17 ?_
  rw [gB_push (by simp only [List.length_cons, List.length_nil])]
  simp only [List.cons_append, List.nil_append]
  refine b_putF2 hE hNm rfl flX3_18 rfl rfl dX3_init_19 ?_
  refine j_aload_n hE (i := 0) dX3_init_22 rfl rfl ?_
  refine j_bipush hE (v := nI 16) dX3_init_23 (by decide) ?_
  refine j_newi hE (N := 16) rfl (by decide) tw_59 (by decide) (by decide) dX3_init_25 ?_
  rw [gB_push (by simp only [List.length_cons, List.length_nil])]
  simp only [List.cons_append, List.nil_append]
  refine b_putF3 hE hNm rfl flX3_22 rfl rfl dX3_init_27 ?_
  refine j_aload_n hE (i := 0) dX3_init_30 rfl rfl ?_
  refine j_iconst hE (v := nI 0) dX3_init_31 (by decide) ?_
  refine b_put4 hE flX3_25 rfl rfl dX3_init_32 ?_
  refine j_aload_n hE (i := 0) dX3_init_35 rfl rfl ?_
  refine j_iconst hE (v := nI 0) dX3_init_36 (by decide) ?_
  refine b_put5 hE flX3_28 rfl rfl dX3_init_37 ?_
  refine j_vret hE hQ (by omega) (by omega) dX3_init_40 ?_
  exact ⟨rfl, rfl, by omega⟩

