/-! ===== the law: its helpers ===== -/
set_option maxRecDepth 100000 in
set_option maxHeartbeats 4000000 in
theorem c_L_setFrame_ok {l : Launch} (hl : l.stackTraces = false) (K : jK) (G : GH) (hs x o : Nat) (fs : List Value) (p0 p1 : Int32) (hx0 : G x = some (.inr (5, fs))) (f : Nat → Int64) (r : Int32) (Φ : GH → Prop) (hΦ : ∀ G', Φ G' → G' o = some (lA K 1 f)) (hM : ∀ l : Launch, l.stackTraces = false → Ct l K yX5_setFrame cX5_setFrame 3 (some .int) 7 102 2 12 [.ref x, .int p0, .int p1] G hs (pI (fun z9 G' _ => z9 = r ∧ Φ G')) jno) : CtW l K yL_setFrame cL_setFrame 5 (some .int) [(0, 10, 13, 13)] 8 124 2 12 [.ref x, .int p0, .int p1, .ref o] G hs (pI (fun z9 G' _ => z9 = nI 0 ∧ ∃ G1, Φ G1 ∧ G' = gset G1 o (lA K 1 (vp_updL f 0 r.toInt64)))) := by
  refine CtW.of hl (by decide) (Nat.le_of_ble_eq_true rfl) (L0 := [some (.ref x), some (.int p0), some (.int p1), some (.ref o), none]) (jL_of 1 rfl) ?_
  intro A E hE hQ hTab
  refine j_aload_n hE (i := 3) dL_setFrame_0 rfl rfl ?_
  refine j_iconst hE (v := nI 0) dL_setFrame_1 (by decide) ?_
  refine j_aload_n hE (i := 0) dL_setFrame_2 rfl rfl ?_
  refine j_iload_n hE (i := 1) dL_setFrame_3 rfl rfl ?_
  refine j_iload_n hE (i := 2) dL_setFrame_4 rfl rfl ?_
  refine j_cVi hE mlL_7 hx0 (fun l hl => hM l hl) rfl rfl (Nat.le_of_ble_eq_true rfl) (by decide) (by decide) (by omega) (by omega) dL_setFrame_5 (fun r G9 hs9 hp => ?_) (fun _ _ h => h.elim)
  obtain ⟨rfl, hp⟩ := hp
  refine j_i2l hE dL_setFrame_8 ?_
  refine j_last hE (hΦ _ hp) rfl (by omega) (by decide) dL_setFrame_9 (fun hs => ?_)
  refine j_goto hE (tgt := 17) dL_setFrame_10 (by decide) ?_
  refine j_iconst hE (v := nI 0) dL_setFrame_17 (by decide) ?_
  refine j_iret hE hQ rfl (by omega) (by omega) dL_setFrame_18 ?_
  exact ⟨_, rfl, rfl, _, hp, rfl⟩
set_option maxRecDepth 100000 in
set_option maxHeartbeats 4000000 in
theorem c_L_setFrame_x1 {l : Launch} (hl : l.stackTraces = false) (K : jK) (G : GH) (hs x o : Nat) (fs : List Value) (p0 p1 : Int32) (hx0 : G x = some (.inr (5, fs))) (hM : ∀ l : Launch, l.stackTraces = false → Ct l K yX5_setFrame cX5_setFrame 3 (some .int) 7 102 2 12 [.ref x, .int p0, .int p1] G hs (pI (fun _ _ _ => False)) (fun X G' => X = jIA ∧ G' = G)) : CtW l K yL_setFrame cL_setFrame 5 (some .int) [(0, 10, 13, 13)] 8 124 2 12 [.ref x, .int p0, .int p1, .ref o] G hs (pI (fun z9 G' _ => z9 = nI 1 ∧ G' = G)) := by
  refine CtW.of hl (by decide) (Nat.le_of_ble_eq_true rfl) (L0 := [some (.ref x), some (.int p0), some (.int p1), some (.ref o), none]) (jL_of 1 rfl) ?_
  intro A E hE hQ hTab
  refine j_aload_n hE (i := 3) dL_setFrame_0 rfl rfl ?_
  refine j_iconst hE (v := nI 0) dL_setFrame_1 (by decide) ?_
  refine j_aload_n hE (i := 0) dL_setFrame_2 rfl rfl ?_
  refine j_iload_n hE (i := 1) dL_setFrame_3 rfl rfl ?_
  refine j_iload_n hE (i := 2) dL_setFrame_4 rfl rfl ?_
  refine j_cVi hE mlL_7 hx0 (fun l hl => hM l hl) rfl rfl (Nat.le_of_ble_eq_true rfl) (by decide) (by decide) (by omega) (by omega) dL_setFrame_5 (fun r G9 hs9 hp => ?_) (fun X G9 h => ?_)
  · exact hp.elim
  · obtain ⟨rfl, rfl⟩ := h
    refine j_catch hE hTab [] (0, 10, 13, 13) [] rfl (fun _ h => absurd h List.not_mem_nil) (by decide) (by decide) lkA (by decide) (fun hs9 q9 => ?_)
    refine j_ast4 hE dL_setFrame_13 (by decide) rfl ?_
    refine j_iconst hE (v := nI 1) dL_setFrame_15 (by decide) ?_
    refine j_iret hE hQ rfl (by omega) (by omega) dL_setFrame_16 ?_
    exact ⟨_, rfl, rfl, rfl⟩
set_option maxRecDepth 100000 in
set_option maxHeartbeats 4000000 in
theorem c_L_addParameter_ok {l : Launch} (hl : l.stackTraces = false) (K : jK) (G : GH) (hs x o : Nat) (fs : List Value) (p0 : Int32) (hx0 : G x = some (.inr (5, fs))) (f : Nat → Int64) (r : Int32) (Φ : GH → Prop) (hΦ : ∀ G', Φ G' → G' o = some (lA K 1 f)) (hM : ∀ l : Launch, l.stackTraces = false → Ct l K yX5_addParameter cX5_addParameter 5 (some .int) 7 102 2 12 [.ref x, .int p0] G hs (pI (fun z9 G' _ => z9 = r ∧ Φ G')) jno) : CtW l K yL_addParameter cL_addParameter 4 (some .int) [(0, 9, 12, 13), (0, 9, 15, 19)] 8 126 2 12 [.ref x, .int p0, .ref o] G hs (pI (fun z9 G' _ => z9 = nI 0 ∧ ∃ G1, Φ G1 ∧ G' = gset G1 o (lA K 1 (vp_updL f 0 r.toInt64)))) := by
  refine CtW.of hl (by decide) (Nat.le_of_ble_eq_true rfl) (L0 := [some (.ref x), some (.int p0), some (.ref o), none]) (jL_of 1 rfl) ?_
  intro A E hE hQ hTab
  refine j_aload_n hE (i := 2) dL_addParameter_0 rfl rfl ?_
  refine j_iconst hE (v := nI 0) dL_addParameter_1 (by decide) ?_
  refine j_aload_n hE (i := 0) dL_addParameter_2 rfl rfl ?_
  refine j_iload_n hE (i := 1) dL_addParameter_3 rfl rfl ?_
  refine j_cVi hE mlL_15 hx0 (fun l hl => hM l hl) rfl rfl (Nat.le_of_ble_eq_true rfl) (by decide) (by decide) (by omega) (by omega) dL_addParameter_4 (fun r G9 hs9 hp => ?_) (fun _ _ h => h.elim)
  obtain ⟨rfl, hp⟩ := hp
  refine j_i2l hE dL_addParameter_7 ?_
  refine j_last hE (hΦ _ hp) rfl (by omega) (by decide) dL_addParameter_8 (fun hs => ?_)
  refine j_goto hE (tgt := 18) dL_addParameter_9 (by decide) ?_
  refine j_iconst hE (v := nI 0) dL_addParameter_18 (by decide) ?_
  refine j_iret hE hQ rfl (by omega) (by omega) dL_addParameter_19 ?_
  exact ⟨_, rfl, rfl, _, hp, rfl⟩
set_option maxRecDepth 100000 in
set_option maxHeartbeats 4000000 in
theorem c_L_addParameter_x1 {l : Launch} (hl : l.stackTraces = false) (K : jK) (G : GH) (hs x o : Nat) (fs : List Value) (p0 : Int32) (hx0 : G x = some (.inr (5, fs))) (hM : ∀ l : Launch, l.stackTraces = false → Ct l K yX5_addParameter cX5_addParameter 5 (some .int) 7 102 2 12 [.ref x, .int p0] G hs (pI (fun _ _ _ => False)) (fun X G' => X = jIA ∧ G' = G)) : CtW l K yL_addParameter cL_addParameter 4 (some .int) [(0, 9, 12, 13), (0, 9, 15, 19)] 8 126 2 12 [.ref x, .int p0, .ref o] G hs (pI (fun z9 G' _ => z9 = nI 1 ∧ G' = G)) := by
  refine CtW.of hl (by decide) (Nat.le_of_ble_eq_true rfl) (L0 := [some (.ref x), some (.int p0), some (.ref o), none]) (jL_of 1 rfl) ?_
  intro A E hE hQ hTab
  refine j_aload_n hE (i := 2) dL_addParameter_0 rfl rfl ?_
  refine j_iconst hE (v := nI 0) dL_addParameter_1 (by decide) ?_
  refine j_aload_n hE (i := 0) dL_addParameter_2 rfl rfl ?_
  refine j_iload_n hE (i := 1) dL_addParameter_3 rfl rfl ?_
  refine j_cVi hE mlL_15 hx0 (fun l hl => hM l hl) rfl rfl (Nat.le_of_ble_eq_true rfl) (by decide) (by decide) (by omega) (by omega) dL_addParameter_4 (fun r G9 hs9 hp => ?_) (fun X G9 h => ?_)
  · exact hp.elim
  · obtain ⟨rfl, rfl⟩ := h
    refine j_catch hE hTab [] (0, 9, 12, 13) [(0, 9, 15, 19)] rfl (fun _ h => absurd h List.not_mem_nil) (by decide) (by decide) lkA (by decide) (fun hs9 q9 => ?_)
    refine j_ast3 hE dL_addParameter_12 rfl (by decide) rfl ?_
    refine j_iconst hE (v := nI 1) dL_addParameter_13 (by decide) ?_
    refine j_iret hE hQ rfl (by omega) (by omega) dL_addParameter_14 ?_
    exact ⟨_, rfl, rfl, rfl⟩
set_option maxRecDepth 100000 in
set_option maxHeartbeats 4000000 in
theorem c_L_addParameter_x2 {l : Launch} (hl : l.stackTraces = false) (K : jK) (G : GH) (hs x o : Nat) (fs : List Value) (p0 : Int32) (hx0 : G x = some (.inr (5, fs))) (hM : ∀ l : Launch, l.stackTraces = false → Ct l K yX5_addParameter cX5_addParameter 5 (some .int) 7 102 2 12 [.ref x, .int p0] G hs (pI (fun _ _ _ => False)) (fun X G' => X = jIS ∧ G' = G)) : CtW l K yL_addParameter cL_addParameter 4 (some .int) [(0, 9, 12, 13), (0, 9, 15, 19)] 8 126 2 12 [.ref x, .int p0, .ref o] G hs (pI (fun z9 G' _ => z9 = nI 2 ∧ G' = G)) := by
  refine CtW.of hl (by decide) (Nat.le_of_ble_eq_true rfl) (L0 := [some (.ref x), some (.int p0), some (.ref o), none]) (jL_of 1 rfl) ?_
  intro A E hE hQ hTab
  refine j_aload_n hE (i := 2) dL_addParameter_0 rfl rfl ?_
  refine j_iconst hE (v := nI 0) dL_addParameter_1 (by decide) ?_
  refine j_aload_n hE (i := 0) dL_addParameter_2 rfl rfl ?_
  refine j_iload_n hE (i := 1) dL_addParameter_3 rfl rfl ?_
  refine j_cVi hE mlL_15 hx0 (fun l hl => hM l hl) rfl rfl (Nat.le_of_ble_eq_true rfl) (by decide) (by decide) (by omega) (by omega) dL_addParameter_4 (fun r G9 hs9 hp => ?_) (fun X G9 h => ?_)
  · exact hp.elim
  · obtain ⟨rfl, rfl⟩ := h
    refine j_catch hE hTab [((0, 9, 12, 13), jIA)] (0, 9, 15, 19) [] rfl (List.forall_mem_cons.mpr ⟨⟨by decide, lkA, by decide⟩, (fun _ h => absurd h List.not_mem_nil)⟩) (by decide) (by decide) lkS (by decide) (fun hs9 q9 => ?_)
    refine j_ast3 hE dL_addParameter_15 rfl (by decide) rfl ?_
    refine j_iconst hE (v := nI 2) dL_addParameter_16 (by decide) ?_
    refine j_iret hE hQ rfl (by omega) (by omega) dL_addParameter_17 ?_
    exact ⟨_, rfl, rfl, rfl⟩
set_option maxRecDepth 100000 in
set_option maxHeartbeats 4000000 in
theorem c_L_samplesPerMajor_ok {l : Launch} (hl : l.stackTraces = false) (K : jK) (G : GH) (hs x o : Nat) (fs : List Value) (p0 : Int32) (hx0 : G x = some (.inr (5, fs))) (f : Nat → Int64) (r : Int32) (Φ : GH → Prop) (hΦ : ∀ G', Φ G' → G' o = some (lA K 1 f)) (hM : ∀ l : Launch, l.stackTraces = false → Ct l K yX5_samplesPerMajor cX5_samplesPerMajor 2 (some .int) 8 124 1 6 [.ref x, .int p0] G hs (pI (fun z9 G' _ => z9 = r ∧ Φ G')) jno) : CtW l K yL_samplesPerMajor cL_samplesPerMajor 4 (some .int) [(0, 9, 12, 24)] 9 145 1 6 [.ref x, .int p0, .ref o] G hs (pI (fun z9 G' _ => z9 = nI 0 ∧ ∃ G1, Φ G1 ∧ G' = gset G1 o (lA K 1 (vp_updL f 0 r.toInt64)))) := by
  refine CtW.of hl (by decide) (Nat.le_of_ble_eq_true rfl) (L0 := [some (.ref x), some (.int p0), some (.ref o), none]) (jL_of 1 rfl) ?_
  intro A E hE hQ hTab
  refine j_aload_n hE (i := 2) dL_samplesPerMajor_0 rfl rfl ?_
  refine j_iconst hE (v := nI 0) dL_samplesPerMajor_1 (by decide) ?_
  refine j_aload_n hE (i := 0) dL_samplesPerMajor_2 rfl rfl ?_
  refine j_iload_n hE (i := 1) dL_samplesPerMajor_3 rfl rfl ?_
  refine j_cVi hE mlL_21 hx0 (fun l hl => hM l hl) rfl rfl (Nat.le_of_ble_eq_true rfl) (by decide) (by decide) (by omega) (by omega) dL_samplesPerMajor_4 (fun r G9 hs9 hp => ?_) (fun _ _ h => h.elim)
  obtain ⟨rfl, hp⟩ := hp
  refine j_i2l hE dL_samplesPerMajor_7 ?_
  refine j_last hE (hΦ _ hp) rfl (by omega) (by decide) dL_samplesPerMajor_8 (fun hs => ?_)
  refine j_goto hE (tgt := 15) dL_samplesPerMajor_9 (by decide) ?_
  refine j_iconst hE (v := nI 0) dL_samplesPerMajor_15 (by decide) ?_
  refine j_iret hE hQ rfl (by omega) (by omega) dL_samplesPerMajor_16 ?_
  exact ⟨_, rfl, rfl, _, hp, rfl⟩
set_option maxRecDepth 100000 in
set_option maxHeartbeats 4000000 in
theorem c_L_samplesPerMajor_x1 {l : Launch} (hl : l.stackTraces = false) (K : jK) (G : GH) (hs x o : Nat) (fs : List Value) (p0 : Int32) (hx0 : G x = some (.inr (5, fs))) (hM : ∀ l : Launch, l.stackTraces = false → Ct l K yX5_samplesPerMajor cX5_samplesPerMajor 2 (some .int) 8 124 1 6 [.ref x, .int p0] G hs (pI (fun _ _ _ => False)) (fun X G' => X = jIX ∧ G' = G)) : CtW l K yL_samplesPerMajor cL_samplesPerMajor 4 (some .int) [(0, 9, 12, 24)] 9 145 1 6 [.ref x, .int p0, .ref o] G hs (pI (fun z9 G' _ => z9 = nI 1 ∧ G' = G)) := by
  refine CtW.of hl (by decide) (Nat.le_of_ble_eq_true rfl) (L0 := [some (.ref x), some (.int p0), some (.ref o), none]) (jL_of 1 rfl) ?_
  intro A E hE hQ hTab
  refine j_aload_n hE (i := 2) dL_samplesPerMajor_0 rfl rfl ?_
  refine j_iconst hE (v := nI 0) dL_samplesPerMajor_1 (by decide) ?_
  refine j_aload_n hE (i := 0) dL_samplesPerMajor_2 rfl rfl ?_
  refine j_iload_n hE (i := 1) dL_samplesPerMajor_3 rfl rfl ?_
  refine j_cVi hE mlL_21 hx0 (fun l hl => hM l hl) rfl rfl (Nat.le_of_ble_eq_true rfl) (by decide) (by decide) (by omega) (by omega) dL_samplesPerMajor_4 (fun r G9 hs9 hp => ?_) (fun X G9 h => ?_)
  · exact hp.elim
  · obtain ⟨rfl, rfl⟩ := h
    refine j_catch hE hTab [] (0, 9, 12, 24) [] rfl (fun _ h => absurd h List.not_mem_nil) (by decide) (by decide) lkX (by decide) (fun hs9 q9 => ?_)
    refine j_ast3 hE dL_samplesPerMajor_12 rfl (by decide) rfl ?_
    refine j_iconst hE (v := nI 1) dL_samplesPerMajor_13 (by decide) ?_
    refine j_iret hE hQ rfl (by omega) (by omega) dL_samplesPerMajor_14 ?_
    exact ⟨_, rfl, rfl, rfl⟩
set_option maxRecDepth 100000 in
set_option maxHeartbeats 4000000 in
theorem c_L_slot_ok {l : Launch} (hl : l.stackTraces = false) (K : jK) (G : GH) (hs x o : Nat) (fs : List Value) (p0 p1 p2 : Int32) (hx0 : G x = some (.inr (5, fs))) (f : Nat → Int64) (r : Int32) (Φ : GH → Prop) (hΦ : ∀ G', Φ G' → G' o = some (lA K 1 f)) (hM : ∀ l : Launch, l.stackTraces = false → Ct l K yX5_slot cX5_slot 5 (some .int) 7 103 4 24 [.ref x, .int p0, .int p1, .int p2] G hs (pI (fun z9 G' _ => z9 = r ∧ Φ G')) jno) : CtW l K yL_slot cL_slot 6 (some .int) [(0, 12, 15, 24), (0, 12, 19, 13), (0, 12, 23, 19)] 8 127 4 24 [.ref x, .int p0, .int p1, .int p2, .ref o] G hs (pI (fun z9 G' _ => z9 = nI 0 ∧ ∃ G1, Φ G1 ∧ G' = gset G1 o (lA K 1 (vp_updL f 0 r.toInt64)))) := by
  refine CtW.of hl (by decide) (Nat.le_of_ble_eq_true rfl) (L0 := [some (.ref x), some (.int p0), some (.int p1), some (.int p2), some (.ref o), none]) (jL_of 1 rfl) ?_
  intro A E hE hQ hTab
  refine j_aload hE dL_slot_0 rfl ?_
  refine j_iconst hE (v := nI 0) dL_slot_2 (by decide) ?_
  refine j_aload_n hE (i := 0) dL_slot_3 rfl rfl ?_
  refine j_iload_n hE (i := 1) dL_slot_4 rfl rfl ?_
  refine j_iload_n hE (i := 2) dL_slot_5 rfl rfl ?_
  refine j_iload_n hE (i := 3) dL_slot_6 rfl rfl ?_
  refine j_cVi hE mlL_26 hx0 (fun l hl => hM l hl) rfl rfl (Nat.le_of_ble_eq_true rfl) (by decide) (by decide) (by omega) (by omega) dL_slot_7 (fun r G9 hs9 hp => ?_) (fun _ _ h => h.elim)
  obtain ⟨rfl, hp⟩ := hp
  refine j_i2l hE dL_slot_10 ?_
  refine j_last hE (hΦ _ hp) rfl (by omega) (by decide) dL_slot_11 (fun hs => ?_)
  refine j_goto hE (tgt := 27) dL_slot_12 (by decide) ?_
  refine j_iconst hE (v := nI 0) dL_slot_27 (by decide) ?_
  refine j_iret hE hQ rfl (by omega) (by omega) dL_slot_28 ?_
  exact ⟨_, rfl, rfl, _, hp, rfl⟩
set_option maxRecDepth 100000 in
set_option maxHeartbeats 4000000 in
theorem c_L_slot_x1 {l : Launch} (hl : l.stackTraces = false) (K : jK) (G : GH) (hs x o : Nat) (fs : List Value) (p0 p1 p2 : Int32) (hx0 : G x = some (.inr (5, fs))) (hM : ∀ l : Launch, l.stackTraces = false → Ct l K yX5_slot cX5_slot 5 (some .int) 7 103 4 24 [.ref x, .int p0, .int p1, .int p2] G hs (pI (fun _ _ _ => False)) (fun X G' => X = jIX ∧ G' = G)) : CtW l K yL_slot cL_slot 6 (some .int) [(0, 12, 15, 24), (0, 12, 19, 13), (0, 12, 23, 19)] 8 127 4 24 [.ref x, .int p0, .int p1, .int p2, .ref o] G hs (pI (fun z9 G' _ => z9 = nI 1 ∧ G' = G)) := by
  refine CtW.of hl (by decide) (Nat.le_of_ble_eq_true rfl) (L0 := [some (.ref x), some (.int p0), some (.int p1), some (.int p2), some (.ref o), none]) (jL_of 1 rfl) ?_
  intro A E hE hQ hTab
  refine j_aload hE dL_slot_0 rfl ?_
  refine j_iconst hE (v := nI 0) dL_slot_2 (by decide) ?_
  refine j_aload_n hE (i := 0) dL_slot_3 rfl rfl ?_
  refine j_iload_n hE (i := 1) dL_slot_4 rfl rfl ?_
  refine j_iload_n hE (i := 2) dL_slot_5 rfl rfl ?_
  refine j_iload_n hE (i := 3) dL_slot_6 rfl rfl ?_
  refine j_cVi hE mlL_26 hx0 (fun l hl => hM l hl) rfl rfl (Nat.le_of_ble_eq_true rfl) (by decide) (by decide) (by omega) (by omega) dL_slot_7 (fun r G9 hs9 hp => ?_) (fun X G9 h => ?_)
  · exact hp.elim
  · obtain ⟨rfl, rfl⟩ := h
    refine j_catch hE hTab [] (0, 12, 15, 24) [(0, 12, 19, 13), (0, 12, 23, 19)] rfl (fun _ h => absurd h List.not_mem_nil) (by decide) (by decide) lkX (by decide) (fun hs9 q9 => ?_)
    refine j_ast5 hE dL_slot_15 (by decide) rfl ?_
    refine j_iconst hE (v := nI 1) dL_slot_17 (by decide) ?_
    refine j_iret hE hQ rfl (by omega) (by omega) dL_slot_18 ?_
    exact ⟨_, rfl, rfl, rfl⟩
set_option maxRecDepth 100000 in
set_option maxHeartbeats 4000000 in
theorem c_L_slot_x2 {l : Launch} (hl : l.stackTraces = false) (K : jK) (G : GH) (hs x o : Nat) (fs : List Value) (p0 p1 p2 : Int32) (hx0 : G x = some (.inr (5, fs))) (hM : ∀ l : Launch, l.stackTraces = false → Ct l K yX5_slot cX5_slot 5 (some .int) 7 103 4 24 [.ref x, .int p0, .int p1, .int p2] G hs (pI (fun _ _ _ => False)) (fun X G' => X = jIA ∧ G' = G)) : CtW l K yL_slot cL_slot 6 (some .int) [(0, 12, 15, 24), (0, 12, 19, 13), (0, 12, 23, 19)] 8 127 4 24 [.ref x, .int p0, .int p1, .int p2, .ref o] G hs (pI (fun z9 G' _ => z9 = nI 2 ∧ G' = G)) := by
  refine CtW.of hl (by decide) (Nat.le_of_ble_eq_true rfl) (L0 := [some (.ref x), some (.int p0), some (.int p1), some (.int p2), some (.ref o), none]) (jL_of 1 rfl) ?_
  intro A E hE hQ hTab
  refine j_aload hE dL_slot_0 rfl ?_
  refine j_iconst hE (v := nI 0) dL_slot_2 (by decide) ?_
  refine j_aload_n hE (i := 0) dL_slot_3 rfl rfl ?_
  refine j_iload_n hE (i := 1) dL_slot_4 rfl rfl ?_
  refine j_iload_n hE (i := 2) dL_slot_5 rfl rfl ?_
  refine j_iload_n hE (i := 3) dL_slot_6 rfl rfl ?_
  refine j_cVi hE mlL_26 hx0 (fun l hl => hM l hl) rfl rfl (Nat.le_of_ble_eq_true rfl) (by decide) (by decide) (by omega) (by omega) dL_slot_7 (fun r G9 hs9 hp => ?_) (fun X G9 h => ?_)
  · exact hp.elim
  · obtain ⟨rfl, rfl⟩ := h
    refine j_catch hE hTab [((0, 12, 15, 24), jIX)] (0, 12, 19, 13) [(0, 12, 23, 19)] rfl (List.forall_mem_cons.mpr ⟨⟨by decide, lkX, by decide⟩, (fun _ h => absurd h List.not_mem_nil)⟩) (by decide) (by decide) lkA (by decide) (fun hs9 q9 => ?_)
    refine j_ast5 hE dL_slot_19 (by decide) rfl ?_
    refine j_iconst hE (v := nI 2) dL_slot_21 (by decide) ?_
    refine j_iret hE hQ rfl (by omega) (by omega) dL_slot_22 ?_
    exact ⟨_, rfl, rfl, rfl⟩
set_option maxRecDepth 100000 in
set_option maxHeartbeats 4000000 in
theorem c_L_slot_x3 {l : Launch} (hl : l.stackTraces = false) (K : jK) (G : GH) (hs x o : Nat) (fs : List Value) (p0 p1 p2 : Int32) (hx0 : G x = some (.inr (5, fs))) (hM : ∀ l : Launch, l.stackTraces = false → Ct l K yX5_slot cX5_slot 5 (some .int) 7 103 4 24 [.ref x, .int p0, .int p1, .int p2] G hs (pI (fun _ _ _ => False)) (fun X G' => X = jIS ∧ G' = G)) : CtW l K yL_slot cL_slot 6 (some .int) [(0, 12, 15, 24), (0, 12, 19, 13), (0, 12, 23, 19)] 8 127 4 24 [.ref x, .int p0, .int p1, .int p2, .ref o] G hs (pI (fun z9 G' _ => z9 = nI 3 ∧ G' = G)) := by
  refine CtW.of hl (by decide) (Nat.le_of_ble_eq_true rfl) (L0 := [some (.ref x), some (.int p0), some (.int p1), some (.int p2), some (.ref o), none]) (jL_of 1 rfl) ?_
  intro A E hE hQ hTab
  refine j_aload hE dL_slot_0 rfl ?_
  refine j_iconst hE (v := nI 0) dL_slot_2 (by decide) ?_
  refine j_aload_n hE (i := 0) dL_slot_3 rfl rfl ?_
  refine j_iload_n hE (i := 1) dL_slot_4 rfl rfl ?_
  refine j_iload_n hE (i := 2) dL_slot_5 rfl rfl ?_
  refine j_iload_n hE (i := 3) dL_slot_6 rfl rfl ?_
  refine j_cVi hE mlL_26 hx0 (fun l hl => hM l hl) rfl rfl (Nat.le_of_ble_eq_true rfl) (by decide) (by decide) (by omega) (by omega) dL_slot_7 (fun r G9 hs9 hp => ?_) (fun X G9 h => ?_)
  · exact hp.elim
  · obtain ⟨rfl, rfl⟩ := h
    refine j_catch hE hTab [((0, 12, 15, 24), jIX), ((0, 12, 19, 13), jIA)] (0, 12, 23, 19) [] rfl (List.forall_mem_cons.mpr ⟨⟨by decide, lkX, by decide⟩, (List.forall_mem_cons.mpr ⟨⟨by decide, lkA, by decide⟩, (fun _ h => absurd h List.not_mem_nil)⟩)⟩) (by decide) (by decide) lkS (by decide) (fun hs9 q9 => ?_)
    refine j_ast5 hE dL_slot_23 (by decide) rfl ?_
    refine j_iconst hE (v := nI 3) dL_slot_25 (by decide) ?_
    refine j_iret hE hQ rfl (by omega) (by omega) dL_slot_26 ?_
    exact ⟨_, rfl, rfl, rfl⟩
set_option maxRecDepth 100000 in
set_option maxHeartbeats 4000000 in
theorem c_L_ownerOf_ok {l : Launch} (hl : l.stackTraces = false) (K : jK) (G : GH) (hs x o : Nat) (fs : List Value) (p0 p1 : Int32) (hx0 : G x = some (.inr (5, fs))) (f : Nat → Int64) (r : Int32) (Φ : GH → Prop) (hΦ : ∀ G', Φ G' → G' o = some (lA K 1 f)) (hM : ∀ l : Launch, l.stackTraces = false → Ct l K yX5_ownerOf cX5_ownerOf 3 (some .int) 7 103 3 18 [.ref x, .int p0, .int p1] G hs (pI (fun z9 G' _ => z9 = r ∧ Φ G')) jno) : CtW l K yL_ownerOf cL_ownerOf 5 (some .int) [(0, 10, 13, 24), (0, 10, 17, 19)] 8 125 3 18 [.ref x, .int p0, .int p1, .ref o] G hs (pI (fun z9 G' _ => z9 = nI 0 ∧ ∃ G1, Φ G1 ∧ G' = gset G1 o (lA K 1 (vp_updL f 0 r.toInt64)))) := by
  refine CtW.of hl (by decide) (Nat.le_of_ble_eq_true rfl) (L0 := [some (.ref x), some (.int p0), some (.int p1), some (.ref o), none]) (jL_of 1 rfl) ?_
  intro A E hE hQ hTab
  refine j_aload_n hE (i := 3) dL_ownerOf_0 rfl rfl ?_
  refine j_iconst hE (v := nI 0) dL_ownerOf_1 (by decide) ?_
  refine j_aload_n hE (i := 0) dL_ownerOf_2 rfl rfl ?_
  refine j_iload_n hE (i := 1) dL_ownerOf_3 rfl rfl ?_
  refine j_iload_n hE (i := 2) dL_ownerOf_4 rfl rfl ?_
  refine j_cVi hE mlL_30 hx0 (fun l hl => hM l hl) rfl rfl (Nat.le_of_ble_eq_true rfl) (by decide) (by decide) (by omega) (by omega) dL_ownerOf_5 (fun r G9 hs9 hp => ?_) (fun _ _ h => h.elim)
  obtain ⟨rfl, hp⟩ := hp
  refine j_i2l hE dL_ownerOf_8 ?_
  refine j_last hE (hΦ _ hp) rfl (by omega) (by decide) dL_ownerOf_9 (fun hs => ?_)
  refine j_goto hE (tgt := 21) dL_ownerOf_10 (by decide) ?_
  refine j_iconst hE (v := nI 0) dL_ownerOf_21 (by decide) ?_
  refine j_iret hE hQ rfl (by omega) (by omega) dL_ownerOf_22 ?_
  exact ⟨_, rfl, rfl, _, hp, rfl⟩
set_option maxRecDepth 100000 in
set_option maxHeartbeats 4000000 in
theorem c_L_ownerOf_x1 {l : Launch} (hl : l.stackTraces = false) (K : jK) (G : GH) (hs x o : Nat) (fs : List Value) (p0 p1 : Int32) (hx0 : G x = some (.inr (5, fs))) (hM : ∀ l : Launch, l.stackTraces = false → Ct l K yX5_ownerOf cX5_ownerOf 3 (some .int) 7 103 3 18 [.ref x, .int p0, .int p1] G hs (pI (fun _ _ _ => False)) (fun X G' => X = jIX ∧ G' = G)) : CtW l K yL_ownerOf cL_ownerOf 5 (some .int) [(0, 10, 13, 24), (0, 10, 17, 19)] 8 125 3 18 [.ref x, .int p0, .int p1, .ref o] G hs (pI (fun z9 G' _ => z9 = nI 1 ∧ G' = G)) := by
  refine CtW.of hl (by decide) (Nat.le_of_ble_eq_true rfl) (L0 := [some (.ref x), some (.int p0), some (.int p1), some (.ref o), none]) (jL_of 1 rfl) ?_
  intro A E hE hQ hTab
  refine j_aload_n hE (i := 3) dL_ownerOf_0 rfl rfl ?_
  refine j_iconst hE (v := nI 0) dL_ownerOf_1 (by decide) ?_
  refine j_aload_n hE (i := 0) dL_ownerOf_2 rfl rfl ?_
  refine j_iload_n hE (i := 1) dL_ownerOf_3 rfl rfl ?_
  refine j_iload_n hE (i := 2) dL_ownerOf_4 rfl rfl ?_
  refine j_cVi hE mlL_30 hx0 (fun l hl => hM l hl) rfl rfl (Nat.le_of_ble_eq_true rfl) (by decide) (by decide) (by omega) (by omega) dL_ownerOf_5 (fun r G9 hs9 hp => ?_) (fun X G9 h => ?_)
  · exact hp.elim
  · obtain ⟨rfl, rfl⟩ := h
    refine j_catch hE hTab [] (0, 10, 13, 24) [(0, 10, 17, 19)] rfl (fun _ h => absurd h List.not_mem_nil) (by decide) (by decide) lkX (by decide) (fun hs9 q9 => ?_)
    refine j_ast4 hE dL_ownerOf_13 (by decide) rfl ?_
    refine j_iconst hE (v := nI 1) dL_ownerOf_15 (by decide) ?_
    refine j_iret hE hQ rfl (by omega) (by omega) dL_ownerOf_16 ?_
    exact ⟨_, rfl, rfl, rfl⟩
set_option maxRecDepth 100000 in
set_option maxHeartbeats 4000000 in
theorem c_L_ownerOf_x2 {l : Launch} (hl : l.stackTraces = false) (K : jK) (G : GH) (hs x o : Nat) (fs : List Value) (p0 p1 : Int32) (hx0 : G x = some (.inr (5, fs))) (hM : ∀ l : Launch, l.stackTraces = false → Ct l K yX5_ownerOf cX5_ownerOf 3 (some .int) 7 103 3 18 [.ref x, .int p0, .int p1] G hs (pI (fun _ _ _ => False)) (fun X G' => X = jIS ∧ G' = G)) : CtW l K yL_ownerOf cL_ownerOf 5 (some .int) [(0, 10, 13, 24), (0, 10, 17, 19)] 8 125 3 18 [.ref x, .int p0, .int p1, .ref o] G hs (pI (fun z9 G' _ => z9 = nI 2 ∧ G' = G)) := by
  refine CtW.of hl (by decide) (Nat.le_of_ble_eq_true rfl) (L0 := [some (.ref x), some (.int p0), some (.int p1), some (.ref o), none]) (jL_of 1 rfl) ?_
  intro A E hE hQ hTab
  refine j_aload_n hE (i := 3) dL_ownerOf_0 rfl rfl ?_
  refine j_iconst hE (v := nI 0) dL_ownerOf_1 (by decide) ?_
  refine j_aload_n hE (i := 0) dL_ownerOf_2 rfl rfl ?_
  refine j_iload_n hE (i := 1) dL_ownerOf_3 rfl rfl ?_
  refine j_iload_n hE (i := 2) dL_ownerOf_4 rfl rfl ?_
  refine j_cVi hE mlL_30 hx0 (fun l hl => hM l hl) rfl rfl (Nat.le_of_ble_eq_true rfl) (by decide) (by decide) (by omega) (by omega) dL_ownerOf_5 (fun r G9 hs9 hp => ?_) (fun X G9 h => ?_)
  · exact hp.elim
  · obtain ⟨rfl, rfl⟩ := h
    refine j_catch hE hTab [((0, 10, 13, 24), jIX)] (0, 10, 17, 19) [] rfl (List.forall_mem_cons.mpr ⟨⟨by decide, lkX, by decide⟩, (fun _ h => absurd h List.not_mem_nil)⟩) (by decide) (by decide) lkS (by decide) (fun hs9 q9 => ?_)
    refine j_ast4 hE dL_ownerOf_17 (by decide) rfl ?_
    refine j_iconst hE (v := nI 2) dL_ownerOf_19 (by decide) ?_
    refine j_iret hE hQ rfl (by omega) (by omega) dL_ownerOf_20 ?_
    exact ⟨_, rfl, rfl, rfl⟩
set_option maxRecDepth 100000 in
set_option maxHeartbeats 4000000 in
theorem c_L_efficiency_ok {l : Launch} (hl : l.stackTraces = false) (K : jK) (G : GH) (hs x o : Nat) (fs : List Value) (hx0 : G x = some (.inr (5, fs))) (f : Nat → UInt64) (r : UInt64) (Φ : GH → Prop) (hΦ : ∀ G', Φ G' → G' o = some (dA K 1 f)) (hM : ∀ l : Launch, l.stackTraces = false → Ct l K yX5_efficiency cX5_efficiency 1 (some .double) 7 102 1 6 [.ref x] G hs (pD (fun z9 G' _ => z9 = r ∧ Φ G')) jno) : CtW l K yL_efficiency cL_efficiency 3 (some .int) [(0, 7, 10, 19)] 8 122 1 6 [.ref x, .ref o] G hs (pI (fun z9 G' _ => z9 = nI 0 ∧ ∃ G1, Φ G1 ∧ G' = gset G1 o (dA K 1 (vf_upd f 0 r)))) := by
  refine CtW.of hl (by decide) (Nat.le_of_ble_eq_true rfl) (L0 := [some (.ref x), some (.ref o), none]) (jL_of 1 rfl) ?_
  intro A E hE hQ hTab
  refine j_aload_n hE (i := 1) dL_efficiency_0 rfl rfl ?_
  refine j_iconst hE (v := nI 0) dL_efficiency_1 (by decide) ?_
  refine j_aload_n hE (i := 0) dL_efficiency_2 rfl rfl ?_
  refine j_cVd hE mlL_33 hx0 (fun l hl => hM l hl) rfl rfl (Nat.le_of_ble_eq_true rfl) (by decide) (by decide) (by omega) (by omega) dL_efficiency_3 (fun r G9 hs9 hp => ?_) (fun _ _ h => h.elim)
  obtain ⟨rfl, hp⟩ := hp
  refine j_dast hE (hΦ _ hp) rfl (by omega) (by decide) dL_efficiency_6 (fun hs => ?_)
  refine j_goto hE (tgt := 13) dL_efficiency_7 (by decide) ?_
  refine j_iconst hE (v := nI 0) dL_efficiency_13 (by decide) ?_
  refine j_iret hE hQ rfl (by omega) (by omega) dL_efficiency_14 ?_
  exact ⟨_, rfl, rfl, _, hp, rfl⟩
set_option maxRecDepth 100000 in
set_option maxHeartbeats 4000000 in
theorem c_L_efficiency_x1 {l : Launch} (hl : l.stackTraces = false) (K : jK) (G : GH) (hs x o : Nat) (fs : List Value) (hx0 : G x = some (.inr (5, fs))) (hM : ∀ l : Launch, l.stackTraces = false → Ct l K yX5_efficiency cX5_efficiency 1 (some .double) 7 102 1 6 [.ref x] G hs (pD (fun _ _ _ => False)) (fun X G' => X = jIS ∧ G' = G)) : CtW l K yL_efficiency cL_efficiency 3 (some .int) [(0, 7, 10, 19)] 8 122 1 6 [.ref x, .ref o] G hs (pI (fun z9 G' _ => z9 = nI 1 ∧ G' = G)) := by
  refine CtW.of hl (by decide) (Nat.le_of_ble_eq_true rfl) (L0 := [some (.ref x), some (.ref o), none]) (jL_of 1 rfl) ?_
  intro A E hE hQ hTab
  refine j_aload_n hE (i := 1) dL_efficiency_0 rfl rfl ?_
  refine j_iconst hE (v := nI 0) dL_efficiency_1 (by decide) ?_
  refine j_aload_n hE (i := 0) dL_efficiency_2 rfl rfl ?_
  refine j_cVd hE mlL_33 hx0 (fun l hl => hM l hl) rfl rfl (Nat.le_of_ble_eq_true rfl) (by decide) (by decide) (by omega) (by omega) dL_efficiency_3 (fun r G9 hs9 hp => ?_) (fun X G9 h => ?_)
  · exact hp.elim
  · obtain ⟨rfl, rfl⟩ := h
    refine j_catch hE hTab [] (0, 7, 10, 19) [] rfl (fun _ h => absurd h List.not_mem_nil) (by decide) (by decide) lkS (by decide) (fun hs9 q9 => ?_)
    refine j_ast2 hE dL_efficiency_10 rfl (by decide) rfl ?_
    refine j_iconst hE (v := nI 1) dL_efficiency_11 (by decide) ?_
    refine j_iret hE hQ rfl (by omega) (by omega) dL_efficiency_12 ?_
    exact ⟨_, rfl, rfl, rfl⟩
set_option maxRecDepth 100000 in
set_option maxHeartbeats 4000000 in
theorem c_L_setValue_ok {l : Launch} (hl : l.stackTraces = false) (K : jK) (G : GH) (hs x o : Nat) (fs : List Value) (p0 p1 : Int32) (hx0 : G x = some (.inr (5, fs))) (f : Nat → Int64) (r : Int32) (Φ : GH → Prop) (hΦ : ∀ G', Φ G' → G' o = some (lA K 1 f)) (hM : ∀ l : Launch, l.stackTraces = false → Ct l K yX5_setValue cX5_setValue 5 (some .int) 8 124 2 12 [.ref x, .int p0, .int p1] G hs (pI (fun z9 G' _ => z9 = r ∧ Φ G')) jno) : CtW l K yL_setValue cL_setValue 5 (some .int) [(0, 10, 13, 24), (0, 10, 17, 13)] 9 148 2 12 [.ref x, .int p0, .int p1, .ref o] G hs (pI (fun z9 G' _ => z9 = nI 0 ∧ ∃ G1, Φ G1 ∧ G' = gset G1 o (lA K 1 (vp_updL f 0 r.toInt64)))) := by
  refine CtW.of hl (by decide) (Nat.le_of_ble_eq_true rfl) (L0 := [some (.ref x), some (.int p0), some (.int p1), some (.ref o), none]) (jL_of 1 rfl) ?_
  intro A E hE hQ hTab
  refine j_aload_n hE (i := 3) dL_setValue_0 rfl rfl ?_
  refine j_iconst hE (v := nI 0) dL_setValue_1 (by decide) ?_
  refine j_aload_n hE (i := 0) dL_setValue_2 rfl rfl ?_
  refine j_iload_n hE (i := 1) dL_setValue_3 rfl rfl ?_
  refine j_iload_n hE (i := 2) dL_setValue_4 rfl rfl ?_
  refine j_cVi hE mlL_37 hx0 (fun l hl => hM l hl) rfl rfl (Nat.le_of_ble_eq_true rfl) (by decide) (by decide) (by omega) (by omega) dL_setValue_5 (fun r G9 hs9 hp => ?_) (fun _ _ h => h.elim)
  obtain ⟨rfl, hp⟩ := hp
  refine j_i2l hE dL_setValue_8 ?_
  refine j_last hE (hΦ _ hp) rfl (by omega) (by decide) dL_setValue_9 (fun hs => ?_)
  refine j_goto hE (tgt := 21) dL_setValue_10 (by decide) ?_
  refine j_iconst hE (v := nI 0) dL_setValue_21 (by decide) ?_
  refine j_iret hE hQ rfl (by omega) (by omega) dL_setValue_22 ?_
  exact ⟨_, rfl, rfl, _, hp, rfl⟩
set_option maxRecDepth 100000 in
set_option maxHeartbeats 4000000 in
theorem c_L_setValue_x1 {l : Launch} (hl : l.stackTraces = false) (K : jK) (G : GH) (hs x o : Nat) (fs : List Value) (p0 p1 : Int32) (hx0 : G x = some (.inr (5, fs))) (hM : ∀ l : Launch, l.stackTraces = false → Ct l K yX5_setValue cX5_setValue 5 (some .int) 8 124 2 12 [.ref x, .int p0, .int p1] G hs (pI (fun _ _ _ => False)) (fun X G' => X = jIX ∧ G' = G)) : CtW l K yL_setValue cL_setValue 5 (some .int) [(0, 10, 13, 24), (0, 10, 17, 13)] 9 148 2 12 [.ref x, .int p0, .int p1, .ref o] G hs (pI (fun z9 G' _ => z9 = nI 1 ∧ G' = G)) := by
  refine CtW.of hl (by decide) (Nat.le_of_ble_eq_true rfl) (L0 := [some (.ref x), some (.int p0), some (.int p1), some (.ref o), none]) (jL_of 1 rfl) ?_
  intro A E hE hQ hTab
  refine j_aload_n hE (i := 3) dL_setValue_0 rfl rfl ?_
  refine j_iconst hE (v := nI 0) dL_setValue_1 (by decide) ?_
  refine j_aload_n hE (i := 0) dL_setValue_2 rfl rfl ?_
  refine j_iload_n hE (i := 1) dL_setValue_3 rfl rfl ?_
  refine j_iload_n hE (i := 2) dL_setValue_4 rfl rfl ?_
  refine j_cVi hE mlL_37 hx0 (fun l hl => hM l hl) rfl rfl (Nat.le_of_ble_eq_true rfl) (by decide) (by decide) (by omega) (by omega) dL_setValue_5 (fun r G9 hs9 hp => ?_) (fun X G9 h => ?_)
  · exact hp.elim
  · obtain ⟨rfl, rfl⟩ := h
    refine j_catch hE hTab [] (0, 10, 13, 24) [(0, 10, 17, 13)] rfl (fun _ h => absurd h List.not_mem_nil) (by decide) (by decide) lkX (by decide) (fun hs9 q9 => ?_)
    refine j_ast4 hE dL_setValue_13 (by decide) rfl ?_
    refine j_iconst hE (v := nI 1) dL_setValue_15 (by decide) ?_
    refine j_iret hE hQ rfl (by omega) (by omega) dL_setValue_16 ?_
    exact ⟨_, rfl, rfl, rfl⟩
set_option maxRecDepth 100000 in
set_option maxHeartbeats 4000000 in
theorem c_L_setValue_x2 {l : Launch} (hl : l.stackTraces = false) (K : jK) (G : GH) (hs x o : Nat) (fs : List Value) (p0 p1 : Int32) (hx0 : G x = some (.inr (5, fs))) (hM : ∀ l : Launch, l.stackTraces = false → Ct l K yX5_setValue cX5_setValue 5 (some .int) 8 124 2 12 [.ref x, .int p0, .int p1] G hs (pI (fun _ _ _ => False)) (fun X G' => X = jIA ∧ G' = G)) : CtW l K yL_setValue cL_setValue 5 (some .int) [(0, 10, 13, 24), (0, 10, 17, 13)] 9 148 2 12 [.ref x, .int p0, .int p1, .ref o] G hs (pI (fun z9 G' _ => z9 = nI 2 ∧ G' = G)) := by
  refine CtW.of hl (by decide) (Nat.le_of_ble_eq_true rfl) (L0 := [some (.ref x), some (.int p0), some (.int p1), some (.ref o), none]) (jL_of 1 rfl) ?_
  intro A E hE hQ hTab
  refine j_aload_n hE (i := 3) dL_setValue_0 rfl rfl ?_
  refine j_iconst hE (v := nI 0) dL_setValue_1 (by decide) ?_
  refine j_aload_n hE (i := 0) dL_setValue_2 rfl rfl ?_
  refine j_iload_n hE (i := 1) dL_setValue_3 rfl rfl ?_
  refine j_iload_n hE (i := 2) dL_setValue_4 rfl rfl ?_
  refine j_cVi hE mlL_37 hx0 (fun l hl => hM l hl) rfl rfl (Nat.le_of_ble_eq_true rfl) (by decide) (by decide) (by omega) (by omega) dL_setValue_5 (fun r G9 hs9 hp => ?_) (fun X G9 h => ?_)
  · exact hp.elim
  · obtain ⟨rfl, rfl⟩ := h
    refine j_catch hE hTab [((0, 10, 13, 24), jIX)] (0, 10, 17, 13) [] rfl (List.forall_mem_cons.mpr ⟨⟨by decide, lkX, by decide⟩, (fun _ h => absurd h List.not_mem_nil)⟩) (by decide) (by decide) lkA (by decide) (fun hs9 q9 => ?_)
    refine j_ast4 hE dL_setValue_17 (by decide) rfl ?_
    refine j_iconst hE (v := nI 2) dL_setValue_19 (by decide) ?_
    refine j_iret hE hQ rfl (by omega) (by omega) dL_setValue_20 ?_
    exact ⟨_, rfl, rfl, rfl⟩
set_option maxRecDepth 100000 in
set_option maxHeartbeats 4000000 in
theorem c_L_send_ok {l : Launch} (hl : l.stackTraces = false) (K : jK) (G : GH) (hs x o : Nat) (fs : List Value) (p0 : Int32) (hx0 : G x = some (.inr (5, fs))) (f : Nat → Int64) (r : Int32) (Φ : GH → Prop) (hΦ : ∀ G', Φ G' → G' o = some (lA K 1 f)) (hM : ∀ l : Launch, l.stackTraces = false → Ct l K yX5_send cX5_send 3 (some .int) 7 102 3 18 [.ref x, .int p0] G hs (pI (fun z9 G' _ => z9 = r ∧ Φ G')) jno) : CtW l K yL_send cL_send 4 (some .int) [(0, 9, 12, 13), (0, 9, 15, 19)] 8 124 3 18 [.ref x, .int p0, .ref o] G hs (pI (fun z9 G' _ => z9 = nI 0 ∧ ∃ G1, Φ G1 ∧ G' = gset G1 o (lA K 1 (vp_updL f 0 r.toInt64)))) := by
  refine CtW.of hl (by decide) (Nat.le_of_ble_eq_true rfl) (L0 := [some (.ref x), some (.int p0), some (.ref o), none]) (jL_of 1 rfl) ?_
  intro A E hE hQ hTab
  refine j_aload_n hE (i := 2) dL_send_0 rfl rfl ?_
  refine j_iconst hE (v := nI 0) dL_send_1 (by decide) ?_
  refine j_aload_n hE (i := 0) dL_send_2 rfl rfl ?_
  refine j_iload_n hE (i := 1) dL_send_3 rfl rfl ?_
  refine j_cVi hE mlL_40 hx0 (fun l hl => hM l hl) rfl rfl (Nat.le_of_ble_eq_true rfl) (by decide) (by decide) (by omega) (by omega) dL_send_4 (fun r G9 hs9 hp => ?_) (fun _ _ h => h.elim)
  obtain ⟨rfl, hp⟩ := hp
  refine j_i2l hE dL_send_7 ?_
  refine j_last hE (hΦ _ hp) rfl (by omega) (by decide) dL_send_8 (fun hs => ?_)
  refine j_goto hE (tgt := 18) dL_send_9 (by decide) ?_
  refine j_iconst hE (v := nI 0) dL_send_18 (by decide) ?_
  refine j_iret hE hQ rfl (by omega) (by omega) dL_send_19 ?_
  exact ⟨_, rfl, rfl, _, hp, rfl⟩
set_option maxRecDepth 100000 in
set_option maxHeartbeats 4000000 in
theorem c_L_send_x1 {l : Launch} (hl : l.stackTraces = false) (K : jK) (G : GH) (hs x o : Nat) (fs : List Value) (p0 : Int32) (hx0 : G x = some (.inr (5, fs))) (hM : ∀ l : Launch, l.stackTraces = false → Ct l K yX5_send cX5_send 3 (some .int) 7 102 3 18 [.ref x, .int p0] G hs (pI (fun _ _ _ => False)) (fun X G' => X = jIA ∧ G' = G)) : CtW l K yL_send cL_send 4 (some .int) [(0, 9, 12, 13), (0, 9, 15, 19)] 8 124 3 18 [.ref x, .int p0, .ref o] G hs (pI (fun z9 G' _ => z9 = nI 1 ∧ G' = G)) := by
  refine CtW.of hl (by decide) (Nat.le_of_ble_eq_true rfl) (L0 := [some (.ref x), some (.int p0), some (.ref o), none]) (jL_of 1 rfl) ?_
  intro A E hE hQ hTab
  refine j_aload_n hE (i := 2) dL_send_0 rfl rfl ?_
  refine j_iconst hE (v := nI 0) dL_send_1 (by decide) ?_
  refine j_aload_n hE (i := 0) dL_send_2 rfl rfl ?_
  refine j_iload_n hE (i := 1) dL_send_3 rfl rfl ?_
  refine j_cVi hE mlL_40 hx0 (fun l hl => hM l hl) rfl rfl (Nat.le_of_ble_eq_true rfl) (by decide) (by decide) (by omega) (by omega) dL_send_4 (fun r G9 hs9 hp => ?_) (fun X G9 h => ?_)
  · exact hp.elim
  · obtain ⟨rfl, rfl⟩ := h
    refine j_catch hE hTab [] (0, 9, 12, 13) [(0, 9, 15, 19)] rfl (fun _ h => absurd h List.not_mem_nil) (by decide) (by decide) lkA (by decide) (fun hs9 q9 => ?_)
    refine j_ast3 hE dL_send_12 rfl (by decide) rfl ?_
    refine j_iconst hE (v := nI 1) dL_send_13 (by decide) ?_
    refine j_iret hE hQ rfl (by omega) (by omega) dL_send_14 ?_
    exact ⟨_, rfl, rfl, rfl⟩
set_option maxRecDepth 100000 in
set_option maxHeartbeats 4000000 in
theorem c_L_send_x2 {l : Launch} (hl : l.stackTraces = false) (K : jK) (G : GH) (hs x o : Nat) (fs : List Value) (p0 : Int32) (hx0 : G x = some (.inr (5, fs))) (hM : ∀ l : Launch, l.stackTraces = false → Ct l K yX5_send cX5_send 3 (some .int) 7 102 3 18 [.ref x, .int p0] G hs (pI (fun _ _ _ => False)) (fun X G' => X = jIS ∧ G' = G)) : CtW l K yL_send cL_send 4 (some .int) [(0, 9, 12, 13), (0, 9, 15, 19)] 8 124 3 18 [.ref x, .int p0, .ref o] G hs (pI (fun z9 G' _ => z9 = nI 2 ∧ G' = G)) := by
  refine CtW.of hl (by decide) (Nat.le_of_ble_eq_true rfl) (L0 := [some (.ref x), some (.int p0), some (.ref o), none]) (jL_of 1 rfl) ?_
  intro A E hE hQ hTab
  refine j_aload_n hE (i := 2) dL_send_0 rfl rfl ?_
  refine j_iconst hE (v := nI 0) dL_send_1 (by decide) ?_
  refine j_aload_n hE (i := 0) dL_send_2 rfl rfl ?_
  refine j_iload_n hE (i := 1) dL_send_3 rfl rfl ?_
  refine j_cVi hE mlL_40 hx0 (fun l hl => hM l hl) rfl rfl (Nat.le_of_ble_eq_true rfl) (by decide) (by decide) (by omega) (by omega) dL_send_4 (fun r G9 hs9 hp => ?_) (fun X G9 h => ?_)
  · exact hp.elim
  · obtain ⟨rfl, rfl⟩ := h
    refine j_catch hE hTab [((0, 9, 12, 13), jIA)] (0, 9, 15, 19) [] rfl (List.forall_mem_cons.mpr ⟨⟨by decide, lkA, by decide⟩, (fun _ h => absurd h List.not_mem_nil)⟩) (by decide) (by decide) lkS (by decide) (fun hs9 q9 => ?_)
    refine j_ast3 hE dL_send_15 rfl (by decide) rfl ?_
    refine j_iconst hE (v := nI 2) dL_send_16 (by decide) ?_
    refine j_iret hE hQ rfl (by omega) (by omega) dL_send_17 ?_
    exact ⟨_, rfl, rfl, rfl⟩
set_option maxRecDepth 100000 in
set_option maxHeartbeats 4000000 in
theorem c_L_bit_ok {l : Launch} (hl : l.stackTraces = false) (K : jK) (G : GH) (hs x o : Nat) (fs : List Value) (p0 : Int32) (hx0 : G x = some (.inr (5, fs))) (f : Nat → Int64) (r : Int32) (Φ : GH → Prop) (hΦ : ∀ G', Φ G' → G' o = some (lA K 1 f)) (hM : ∀ l : Launch, l.stackTraces = false → Ct l K yX5_bit cX5_bit 2 (some .int) 7 103 1 6 [.ref x, .int p0] G hs (pI (fun z9 G' _ => z9 = r ∧ Φ G')) jno) : CtW l K yL_bit cL_bit 4 (some .int) [(0, 9, 12, 24)] 8 124 1 6 [.ref x, .int p0, .ref o] G hs (pI (fun z9 G' _ => z9 = nI 0 ∧ ∃ G1, Φ G1 ∧ G' = gset G1 o (lA K 1 (vp_updL f 0 r.toInt64)))) := by
  refine CtW.of hl (by decide) (Nat.le_of_ble_eq_true rfl) (L0 := [some (.ref x), some (.int p0), some (.ref o), none]) (jL_of 1 rfl) ?_
  intro A E hE hQ hTab
  refine j_aload_n hE (i := 2) dL_bit_0 rfl rfl ?_
  refine j_iconst hE (v := nI 0) dL_bit_1 (by decide) ?_
  refine j_aload_n hE (i := 0) dL_bit_2 rfl rfl ?_
  refine j_iload_n hE (i := 1) dL_bit_3 rfl rfl ?_
  refine j_cVi hE mlL_43 hx0 (fun l hl => hM l hl) rfl rfl (Nat.le_of_ble_eq_true rfl) (by decide) (by decide) (by omega) (by omega) dL_bit_4 (fun r G9 hs9 hp => ?_) (fun _ _ h => h.elim)
  obtain ⟨rfl, hp⟩ := hp
  refine j_i2l hE dL_bit_7 ?_
  refine j_last hE (hΦ _ hp) rfl (by omega) (by decide) dL_bit_8 (fun hs => ?_)
  refine j_goto hE (tgt := 15) dL_bit_9 (by decide) ?_
  refine j_iconst hE (v := nI 0) dL_bit_15 (by decide) ?_
  refine j_iret hE hQ rfl (by omega) (by omega) dL_bit_16 ?_
  exact ⟨_, rfl, rfl, _, hp, rfl⟩
set_option maxRecDepth 100000 in
set_option maxHeartbeats 4000000 in
theorem c_L_bit_x1 {l : Launch} (hl : l.stackTraces = false) (K : jK) (G : GH) (hs x o : Nat) (fs : List Value) (p0 : Int32) (hx0 : G x = some (.inr (5, fs))) (hM : ∀ l : Launch, l.stackTraces = false → Ct l K yX5_bit cX5_bit 2 (some .int) 7 103 1 6 [.ref x, .int p0] G hs (pI (fun _ _ _ => False)) (fun X G' => X = jIX ∧ G' = G)) : CtW l K yL_bit cL_bit 4 (some .int) [(0, 9, 12, 24)] 8 124 1 6 [.ref x, .int p0, .ref o] G hs (pI (fun z9 G' _ => z9 = nI 1 ∧ G' = G)) := by
  refine CtW.of hl (by decide) (Nat.le_of_ble_eq_true rfl) (L0 := [some (.ref x), some (.int p0), some (.ref o), none]) (jL_of 1 rfl) ?_
  intro A E hE hQ hTab
  refine j_aload_n hE (i := 2) dL_bit_0 rfl rfl ?_
  refine j_iconst hE (v := nI 0) dL_bit_1 (by decide) ?_
  refine j_aload_n hE (i := 0) dL_bit_2 rfl rfl ?_
  refine j_iload_n hE (i := 1) dL_bit_3 rfl rfl ?_
  refine j_cVi hE mlL_43 hx0 (fun l hl => hM l hl) rfl rfl (Nat.le_of_ble_eq_true rfl) (by decide) (by decide) (by omega) (by omega) dL_bit_4 (fun r G9 hs9 hp => ?_) (fun X G9 h => ?_)
  · exact hp.elim
  · obtain ⟨rfl, rfl⟩ := h
    refine j_catch hE hTab [] (0, 9, 12, 24) [] rfl (fun _ h => absurd h List.not_mem_nil) (by decide) (by decide) lkX (by decide) (fun hs9 q9 => ?_)
    refine j_ast3 hE dL_bit_12 rfl (by decide) rfl ?_
    refine j_iconst hE (v := nI 1) dL_bit_13 (by decide) ?_
    refine j_iret hE hQ rfl (by omega) (by omega) dL_bit_14 ?_
    exact ⟨_, rfl, rfl, rfl⟩
set_option maxRecDepth 100000 in
set_option maxHeartbeats 4000000 in
theorem c_L_disturb_ok {l : Launch} (hl : l.stackTraces = false) (K : jK) (G : GH) (hs x o : Nat) (fs : List Value) (p0 p1 : Int32) (hx0 : G x = some (.inr (5, fs))) (f : Nat → Int64) (r : Int32) (Φ : GH → Prop) (hΦ : ∀ G', Φ G' → G' o = some (lA K 1 f)) (hM : ∀ l : Launch, l.stackTraces = false → Ct l K yX5_disturb cX5_disturb 4 (some .int) 7 103 3 18 [.ref x, .int p0, .int p1] G hs (pI (fun z9 G' _ => z9 = r ∧ Φ G')) jno) : CtW l K yL_disturb cL_disturb 5 (some .int) [(0, 10, 13, 13), (0, 10, 17, 24), (0, 10, 21, 19)] 8 126 3 18 [.ref x, .int p0, .int p1, .ref o] G hs (pI (fun z9 G' _ => z9 = nI 0 ∧ ∃ G1, Φ G1 ∧ G' = gset G1 o (lA K 1 (vp_updL f 0 r.toInt64)))) := by
  refine CtW.of hl (by decide) (Nat.le_of_ble_eq_true rfl) (L0 := [some (.ref x), some (.int p0), some (.int p1), some (.ref o), none]) (jL_of 1 rfl) ?_
  intro A E hE hQ hTab
  refine j_aload_n hE (i := 3) dL_disturb_0 rfl rfl ?_
  refine j_iconst hE (v := nI 0) dL_disturb_1 (by decide) ?_
  refine j_aload_n hE (i := 0) dL_disturb_2 rfl rfl ?_
  refine j_iload_n hE (i := 1) dL_disturb_3 rfl rfl ?_
  refine j_iload_n hE (i := 2) dL_disturb_4 rfl rfl ?_
  refine j_cVi hE mlL_46 hx0 (fun l hl => hM l hl) rfl rfl (Nat.le_of_ble_eq_true rfl) (by decide) (by decide) (by omega) (by omega) dL_disturb_5 (fun r G9 hs9 hp => ?_) (fun _ _ h => h.elim)
  obtain ⟨rfl, hp⟩ := hp
  refine j_i2l hE dL_disturb_8 ?_
  refine j_last hE (hΦ _ hp) rfl (by omega) (by decide) dL_disturb_9 (fun hs => ?_)
  refine j_goto hE (tgt := 25) dL_disturb_10 (by decide) ?_
  refine j_iconst hE (v := nI 0) dL_disturb_25 (by decide) ?_
  refine j_iret hE hQ rfl (by omega) (by omega) dL_disturb_26 ?_
  exact ⟨_, rfl, rfl, _, hp, rfl⟩
set_option maxRecDepth 100000 in
set_option maxHeartbeats 4000000 in
theorem c_L_disturb_x1 {l : Launch} (hl : l.stackTraces = false) (K : jK) (G : GH) (hs x o : Nat) (fs : List Value) (p0 p1 : Int32) (hx0 : G x = some (.inr (5, fs))) (hM : ∀ l : Launch, l.stackTraces = false → Ct l K yX5_disturb cX5_disturb 4 (some .int) 7 103 3 18 [.ref x, .int p0, .int p1] G hs (pI (fun _ _ _ => False)) (fun X G' => X = jIA ∧ G' = G)) : CtW l K yL_disturb cL_disturb 5 (some .int) [(0, 10, 13, 13), (0, 10, 17, 24), (0, 10, 21, 19)] 8 126 3 18 [.ref x, .int p0, .int p1, .ref o] G hs (pI (fun z9 G' _ => z9 = nI 1 ∧ G' = G)) := by
  refine CtW.of hl (by decide) (Nat.le_of_ble_eq_true rfl) (L0 := [some (.ref x), some (.int p0), some (.int p1), some (.ref o), none]) (jL_of 1 rfl) ?_
  intro A E hE hQ hTab
  refine j_aload_n hE (i := 3) dL_disturb_0 rfl rfl ?_
  refine j_iconst hE (v := nI 0) dL_disturb_1 (by decide) ?_
  refine j_aload_n hE (i := 0) dL_disturb_2 rfl rfl ?_
  refine j_iload_n hE (i := 1) dL_disturb_3 rfl rfl ?_
  refine j_iload_n hE (i := 2) dL_disturb_4 rfl rfl ?_
  refine j_cVi hE mlL_46 hx0 (fun l hl => hM l hl) rfl rfl (Nat.le_of_ble_eq_true rfl) (by decide) (by decide) (by omega) (by omega) dL_disturb_5 (fun r G9 hs9 hp => ?_) (fun X G9 h => ?_)
  · exact hp.elim
  · obtain ⟨rfl, rfl⟩ := h
    refine j_catch hE hTab [] (0, 10, 13, 13) [(0, 10, 17, 24), (0, 10, 21, 19)] rfl (fun _ h => absurd h List.not_mem_nil) (by decide) (by decide) lkA (by decide) (fun hs9 q9 => ?_)
    refine j_ast4 hE dL_disturb_13 (by decide) rfl ?_
    refine j_iconst hE (v := nI 1) dL_disturb_15 (by decide) ?_
    refine j_iret hE hQ rfl (by omega) (by omega) dL_disturb_16 ?_
    exact ⟨_, rfl, rfl, rfl⟩
set_option maxRecDepth 100000 in
set_option maxHeartbeats 4000000 in
theorem c_L_disturb_x2 {l : Launch} (hl : l.stackTraces = false) (K : jK) (G : GH) (hs x o : Nat) (fs : List Value) (p0 p1 : Int32) (hx0 : G x = some (.inr (5, fs))) (hM : ∀ l : Launch, l.stackTraces = false → Ct l K yX5_disturb cX5_disturb 4 (some .int) 7 103 3 18 [.ref x, .int p0, .int p1] G hs (pI (fun _ _ _ => False)) (fun X G' => X = jIX ∧ G' = G)) : CtW l K yL_disturb cL_disturb 5 (some .int) [(0, 10, 13, 13), (0, 10, 17, 24), (0, 10, 21, 19)] 8 126 3 18 [.ref x, .int p0, .int p1, .ref o] G hs (pI (fun z9 G' _ => z9 = nI 2 ∧ G' = G)) := by
  refine CtW.of hl (by decide) (Nat.le_of_ble_eq_true rfl) (L0 := [some (.ref x), some (.int p0), some (.int p1), some (.ref o), none]) (jL_of 1 rfl) ?_
  intro A E hE hQ hTab
  refine j_aload_n hE (i := 3) dL_disturb_0 rfl rfl ?_
  refine j_iconst hE (v := nI 0) dL_disturb_1 (by decide) ?_
  refine j_aload_n hE (i := 0) dL_disturb_2 rfl rfl ?_
  refine j_iload_n hE (i := 1) dL_disturb_3 rfl rfl ?_
  refine j_iload_n hE (i := 2) dL_disturb_4 rfl rfl ?_
  refine j_cVi hE mlL_46 hx0 (fun l hl => hM l hl) rfl rfl (Nat.le_of_ble_eq_true rfl) (by decide) (by decide) (by omega) (by omega) dL_disturb_5 (fun r G9 hs9 hp => ?_) (fun X G9 h => ?_)
  · exact hp.elim
  · obtain ⟨rfl, rfl⟩ := h
    refine j_catch hE hTab [((0, 10, 13, 13), jIA)] (0, 10, 17, 24) [(0, 10, 21, 19)] rfl (List.forall_mem_cons.mpr ⟨⟨by decide, lkA, by decide⟩, (fun _ h => absurd h List.not_mem_nil)⟩) (by decide) (by decide) lkX (by decide) (fun hs9 q9 => ?_)
    refine j_ast4 hE dL_disturb_17 (by decide) rfl ?_
    refine j_iconst hE (v := nI 2) dL_disturb_19 (by decide) ?_
    refine j_iret hE hQ rfl (by omega) (by omega) dL_disturb_20 ?_
    exact ⟨_, rfl, rfl, rfl⟩
set_option maxRecDepth 100000 in
set_option maxHeartbeats 4000000 in
theorem c_L_disturb_x3 {l : Launch} (hl : l.stackTraces = false) (K : jK) (G : GH) (hs x o : Nat) (fs : List Value) (p0 p1 : Int32) (hx0 : G x = some (.inr (5, fs))) (hM : ∀ l : Launch, l.stackTraces = false → Ct l K yX5_disturb cX5_disturb 4 (some .int) 7 103 3 18 [.ref x, .int p0, .int p1] G hs (pI (fun _ _ _ => False)) (fun X G' => X = jIS ∧ G' = G)) : CtW l K yL_disturb cL_disturb 5 (some .int) [(0, 10, 13, 13), (0, 10, 17, 24), (0, 10, 21, 19)] 8 126 3 18 [.ref x, .int p0, .int p1, .ref o] G hs (pI (fun z9 G' _ => z9 = nI 3 ∧ G' = G)) := by
  refine CtW.of hl (by decide) (Nat.le_of_ble_eq_true rfl) (L0 := [some (.ref x), some (.int p0), some (.int p1), some (.ref o), none]) (jL_of 1 rfl) ?_
  intro A E hE hQ hTab
  refine j_aload_n hE (i := 3) dL_disturb_0 rfl rfl ?_
  refine j_iconst hE (v := nI 0) dL_disturb_1 (by decide) ?_
  refine j_aload_n hE (i := 0) dL_disturb_2 rfl rfl ?_
  refine j_iload_n hE (i := 1) dL_disturb_3 rfl rfl ?_
  refine j_iload_n hE (i := 2) dL_disturb_4 rfl rfl ?_
  refine j_cVi hE mlL_46 hx0 (fun l hl => hM l hl) rfl rfl (Nat.le_of_ble_eq_true rfl) (by decide) (by decide) (by omega) (by omega) dL_disturb_5 (fun r G9 hs9 hp => ?_) (fun X G9 h => ?_)
  · exact hp.elim
  · obtain ⟨rfl, rfl⟩ := h
    refine j_catch hE hTab [((0, 10, 13, 13), jIA), ((0, 10, 17, 24), jIX)] (0, 10, 21, 19) [] rfl (List.forall_mem_cons.mpr ⟨⟨by decide, lkA, by decide⟩, (List.forall_mem_cons.mpr ⟨⟨by decide, lkX, by decide⟩, (fun _ h => absurd h List.not_mem_nil)⟩)⟩) (by decide) (by decide) lkS (by decide) (fun hs9 q9 => ?_)
    refine j_ast4 hE dL_disturb_21 (by decide) rfl ?_
    refine j_iconst hE (v := nI 3) dL_disturb_23 (by decide) ?_
    refine j_iret hE hQ rfl (by omega) (by omega) dL_disturb_24 ?_
    exact ⟨_, rfl, rfl, rfl⟩
set_option maxRecDepth 100000 in
set_option maxHeartbeats 4000000 in
theorem c_L_receive_ok {l : Launch} (hl : l.stackTraces = false) (K : jK) (G : GH) (hs x o : Nat) (fs : List Value) (p0 : Int32) (hx0 : G x = some (.inr (5, fs))) (f : Nat → Int64) (r : Int32) (Φ : GH → Prop) (hΦ : ∀ G', Φ G' → G' o = some (lA K 1 f)) (hM : ∀ l : Launch, l.stackTraces = false → Ct l K yX5_receive cX5_receive 3 (some .int) 7 109 3 18 [.ref x, .int p0] G hs (pI (fun z9 G' _ => z9 = r ∧ Φ G')) jno) : CtW l K yL_receive cL_receive 4 (some .int) [(0, 9, 12, 13), (0, 9, 15, 19)] 8 131 3 18 [.ref x, .int p0, .ref o] G hs (pI (fun z9 G' _ => z9 = nI 0 ∧ ∃ G1, Φ G1 ∧ G' = gset G1 o (lA K 1 (vp_updL f 0 r.toInt64)))) := by
  refine CtW.of hl (by decide) (Nat.le_of_ble_eq_true rfl) (L0 := [some (.ref x), some (.int p0), some (.ref o), none]) (jL_of 1 rfl) ?_
  intro A E hE hQ hTab
  refine j_aload_n hE (i := 2) dL_receive_0 rfl rfl ?_
  refine j_iconst hE (v := nI 0) dL_receive_1 (by decide) ?_
  refine j_aload_n hE (i := 0) dL_receive_2 rfl rfl ?_
  refine j_iload_n hE (i := 1) dL_receive_3 rfl rfl ?_
  refine j_cVi hE mlL_49 hx0 (fun l hl => hM l hl) rfl rfl (Nat.le_of_ble_eq_true rfl) (by decide) (by decide) (by omega) (by omega) dL_receive_4 (fun r G9 hs9 hp => ?_) (fun _ _ h => h.elim)
  obtain ⟨rfl, hp⟩ := hp
  refine j_i2l hE dL_receive_7 ?_
  refine j_last hE (hΦ _ hp) rfl (by omega) (by decide) dL_receive_8 (fun hs => ?_)
  refine j_goto hE (tgt := 18) dL_receive_9 (by decide) ?_
  refine j_iconst hE (v := nI 0) dL_receive_18 (by decide) ?_
  refine j_iret hE hQ rfl (by omega) (by omega) dL_receive_19 ?_
  exact ⟨_, rfl, rfl, _, hp, rfl⟩
set_option maxRecDepth 100000 in
set_option maxHeartbeats 4000000 in
theorem c_L_receive_x1 {l : Launch} (hl : l.stackTraces = false) (K : jK) (G : GH) (hs x o : Nat) (fs : List Value) (p0 : Int32) (hx0 : G x = some (.inr (5, fs))) (hM : ∀ l : Launch, l.stackTraces = false → Ct l K yX5_receive cX5_receive 3 (some .int) 7 109 3 18 [.ref x, .int p0] G hs (pI (fun _ _ _ => False)) (fun X G' => X = jIA ∧ G' = G)) : CtW l K yL_receive cL_receive 4 (some .int) [(0, 9, 12, 13), (0, 9, 15, 19)] 8 131 3 18 [.ref x, .int p0, .ref o] G hs (pI (fun z9 G' _ => z9 = nI 1 ∧ G' = G)) := by
  refine CtW.of hl (by decide) (Nat.le_of_ble_eq_true rfl) (L0 := [some (.ref x), some (.int p0), some (.ref o), none]) (jL_of 1 rfl) ?_
  intro A E hE hQ hTab
  refine j_aload_n hE (i := 2) dL_receive_0 rfl rfl ?_
  refine j_iconst hE (v := nI 0) dL_receive_1 (by decide) ?_
  refine j_aload_n hE (i := 0) dL_receive_2 rfl rfl ?_
  refine j_iload_n hE (i := 1) dL_receive_3 rfl rfl ?_
  refine j_cVi hE mlL_49 hx0 (fun l hl => hM l hl) rfl rfl (Nat.le_of_ble_eq_true rfl) (by decide) (by decide) (by omega) (by omega) dL_receive_4 (fun r G9 hs9 hp => ?_) (fun X G9 h => ?_)
  · exact hp.elim
  · obtain ⟨rfl, rfl⟩ := h
    refine j_catch hE hTab [] (0, 9, 12, 13) [(0, 9, 15, 19)] rfl (fun _ h => absurd h List.not_mem_nil) (by decide) (by decide) lkA (by decide) (fun hs9 q9 => ?_)
    refine j_ast3 hE dL_receive_12 rfl (by decide) rfl ?_
    refine j_iconst hE (v := nI 1) dL_receive_13 (by decide) ?_
    refine j_iret hE hQ rfl (by omega) (by omega) dL_receive_14 ?_
    exact ⟨_, rfl, rfl, rfl⟩
set_option maxRecDepth 100000 in
set_option maxHeartbeats 4000000 in
theorem c_L_receive_x2 {l : Launch} (hl : l.stackTraces = false) (K : jK) (G : GH) (hs x o : Nat) (fs : List Value) (p0 : Int32) (hx0 : G x = some (.inr (5, fs))) (hM : ∀ l : Launch, l.stackTraces = false → Ct l K yX5_receive cX5_receive 3 (some .int) 7 109 3 18 [.ref x, .int p0] G hs (pI (fun _ _ _ => False)) (fun X G' => X = jIS ∧ G' = G)) : CtW l K yL_receive cL_receive 4 (some .int) [(0, 9, 12, 13), (0, 9, 15, 19)] 8 131 3 18 [.ref x, .int p0, .ref o] G hs (pI (fun z9 G' _ => z9 = nI 2 ∧ G' = G)) := by
  refine CtW.of hl (by decide) (Nat.le_of_ble_eq_true rfl) (L0 := [some (.ref x), some (.int p0), some (.ref o), none]) (jL_of 1 rfl) ?_
  intro A E hE hQ hTab
  refine j_aload_n hE (i := 2) dL_receive_0 rfl rfl ?_
  refine j_iconst hE (v := nI 0) dL_receive_1 (by decide) ?_
  refine j_aload_n hE (i := 0) dL_receive_2 rfl rfl ?_
  refine j_iload_n hE (i := 1) dL_receive_3 rfl rfl ?_
  refine j_cVi hE mlL_49 hx0 (fun l hl => hM l hl) rfl rfl (Nat.le_of_ble_eq_true rfl) (by decide) (by decide) (by omega) (by omega) dL_receive_4 (fun r G9 hs9 hp => ?_) (fun X G9 h => ?_)
  · exact hp.elim
  · obtain ⟨rfl, rfl⟩ := h
    refine j_catch hE hTab [((0, 9, 12, 13), jIA)] (0, 9, 15, 19) [] rfl (List.forall_mem_cons.mpr ⟨⟨by decide, lkA, by decide⟩, (fun _ h => absurd h List.not_mem_nil)⟩) (by decide) (by decide) lkS (by decide) (fun hs9 q9 => ?_)
    refine j_ast3 hE dL_receive_15 rfl (by decide) rfl ?_
    refine j_iconst hE (v := nI 2) dL_receive_16 (by decide) ?_
    refine j_iret hE hQ rfl (by omega) (by omega) dL_receive_17 ?_
    exact ⟨_, rfl, rfl, rfl⟩
set_option maxRecDepth 100000 in
set_option maxHeartbeats 4000000 in
theorem c_L_received_ok {l : Launch} (hl : l.stackTraces = false) (K : jK) (G : GH) (hs x o : Nat) (fs : List Value) (p0 : Int32) (hx0 : G x = some (.inr (5, fs))) (f : Nat → Int64) (r : Int32) (Φ : GH → Prop) (hΦ : ∀ G', Φ G' → G' o = some (lA K 1 f)) (hM : ∀ l : Launch, l.stackTraces = false → Ct l K yX5_received cX5_received 2 (some .int) 7 102 1 6 [.ref x, .int p0] G hs (pI (fun z9 G' _ => z9 = r ∧ Φ G')) jno) : CtW l K yL_received cL_received 4 (some .int) [(0, 9, 12, 13)] 8 123 1 6 [.ref x, .int p0, .ref o] G hs (pI (fun z9 G' _ => z9 = nI 0 ∧ ∃ G1, Φ G1 ∧ G' = gset G1 o (lA K 1 (vp_updL f 0 r.toInt64)))) := by
  refine CtW.of hl (by decide) (Nat.le_of_ble_eq_true rfl) (L0 := [some (.ref x), some (.int p0), some (.ref o), none]) (jL_of 1 rfl) ?_
  intro A E hE hQ hTab
  refine j_aload_n hE (i := 2) dL_received_0 rfl rfl ?_
  refine j_iconst hE (v := nI 0) dL_received_1 (by decide) ?_
  refine j_aload_n hE (i := 0) dL_received_2 rfl rfl ?_
  refine j_iload_n hE (i := 1) dL_received_3 rfl rfl ?_
  refine j_cVi hE mlL_52 hx0 (fun l hl => hM l hl) rfl rfl (Nat.le_of_ble_eq_true rfl) (by decide) (by decide) (by omega) (by omega) dL_received_4 (fun r G9 hs9 hp => ?_) (fun _ _ h => h.elim)
  obtain ⟨rfl, hp⟩ := hp
  refine j_i2l hE dL_received_7 ?_
  refine j_last hE (hΦ _ hp) rfl (by omega) (by decide) dL_received_8 (fun hs => ?_)
  refine j_goto hE (tgt := 15) dL_received_9 (by decide) ?_
  refine j_iconst hE (v := nI 0) dL_received_15 (by decide) ?_
  refine j_iret hE hQ rfl (by omega) (by omega) dL_received_16 ?_
  exact ⟨_, rfl, rfl, _, hp, rfl⟩
set_option maxRecDepth 100000 in
set_option maxHeartbeats 4000000 in
theorem c_L_received_x1 {l : Launch} (hl : l.stackTraces = false) (K : jK) (G : GH) (hs x o : Nat) (fs : List Value) (p0 : Int32) (hx0 : G x = some (.inr (5, fs))) (hM : ∀ l : Launch, l.stackTraces = false → Ct l K yX5_received cX5_received 2 (some .int) 7 102 1 6 [.ref x, .int p0] G hs (pI (fun _ _ _ => False)) (fun X G' => X = jIA ∧ G' = G)) : CtW l K yL_received cL_received 4 (some .int) [(0, 9, 12, 13)] 8 123 1 6 [.ref x, .int p0, .ref o] G hs (pI (fun z9 G' _ => z9 = nI 1 ∧ G' = G)) := by
  refine CtW.of hl (by decide) (Nat.le_of_ble_eq_true rfl) (L0 := [some (.ref x), some (.int p0), some (.ref o), none]) (jL_of 1 rfl) ?_
  intro A E hE hQ hTab
  refine j_aload_n hE (i := 2) dL_received_0 rfl rfl ?_
  refine j_iconst hE (v := nI 0) dL_received_1 (by decide) ?_
  refine j_aload_n hE (i := 0) dL_received_2 rfl rfl ?_
  refine j_iload_n hE (i := 1) dL_received_3 rfl rfl ?_
  refine j_cVi hE mlL_52 hx0 (fun l hl => hM l hl) rfl rfl (Nat.le_of_ble_eq_true rfl) (by decide) (by decide) (by omega) (by omega) dL_received_4 (fun r G9 hs9 hp => ?_) (fun X G9 h => ?_)
  · exact hp.elim
  · obtain ⟨rfl, rfl⟩ := h
    refine j_catch hE hTab [] (0, 9, 12, 13) [] rfl (fun _ h => absurd h List.not_mem_nil) (by decide) (by decide) lkA (by decide) (fun hs9 q9 => ?_)
    refine j_ast3 hE dL_received_12 rfl (by decide) rfl ?_
    refine j_iconst hE (v := nI 1) dL_received_13 (by decide) ?_
    refine j_iret hE hQ rfl (by omega) (by omega) dL_received_14 ?_
    exact ⟨_, rfl, rfl, rfl⟩
set_option maxRecDepth 100000 in
set_option maxHeartbeats 4000000 in
theorem c_L_sample_ok {l : Launch} (hl : l.stackTraces = false) (K : jK) (G : GH) (hs x o : Nat) (fs : List Value) (p0 : Int32) (hx0 : G x = some (.inr (5, fs))) (f : Nat → Int64) (r : Int32) (Φ : GH → Prop) (hΦ : ∀ G', Φ G' → G' o = some (lA K 1 f)) (hM : ∀ l : Launch, l.stackTraces = false → Ct l K yX5_sample cX5_sample 2 (some .int) 8 124 1 6 [.ref x, .int p0] G hs (pI (fun z9 G' _ => z9 = r ∧ Φ G')) jno) : CtW l K yL_sample cL_sample 4 (some .int) [(0, 9, 12, 24)] 9 145 1 6 [.ref x, .int p0, .ref o] G hs (pI (fun z9 G' _ => z9 = nI 0 ∧ ∃ G1, Φ G1 ∧ G' = gset G1 o (lA K 1 (vp_updL f 0 r.toInt64)))) := by
  refine CtW.of hl (by decide) (Nat.le_of_ble_eq_true rfl) (L0 := [some (.ref x), some (.int p0), some (.ref o), none]) (jL_of 1 rfl) ?_
  intro A E hE hQ hTab
  refine j_aload_n hE (i := 2) dL_sample_0 rfl rfl ?_
  refine j_iconst hE (v := nI 0) dL_sample_1 (by decide) ?_
  refine j_aload_n hE (i := 0) dL_sample_2 rfl rfl ?_
  refine j_iload_n hE (i := 1) dL_sample_3 rfl rfl ?_
  refine j_cVi hE mlL_55 hx0 (fun l hl => hM l hl) rfl rfl (Nat.le_of_ble_eq_true rfl) (by decide) (by decide) (by omega) (by omega) dL_sample_4 (fun r G9 hs9 hp => ?_) (fun _ _ h => h.elim)
  obtain ⟨rfl, hp⟩ := hp
  refine j_i2l hE dL_sample_7 ?_
  refine j_last hE (hΦ _ hp) rfl (by omega) (by decide) dL_sample_8 (fun hs => ?_)
  refine j_goto hE (tgt := 15) dL_sample_9 (by decide) ?_
  refine j_iconst hE (v := nI 0) dL_sample_15 (by decide) ?_
  refine j_iret hE hQ rfl (by omega) (by omega) dL_sample_16 ?_
  exact ⟨_, rfl, rfl, _, hp, rfl⟩
set_option maxRecDepth 100000 in
set_option maxHeartbeats 4000000 in
theorem c_L_sample_x1 {l : Launch} (hl : l.stackTraces = false) (K : jK) (G : GH) (hs x o : Nat) (fs : List Value) (p0 : Int32) (hx0 : G x = some (.inr (5, fs))) (hM : ∀ l : Launch, l.stackTraces = false → Ct l K yX5_sample cX5_sample 2 (some .int) 8 124 1 6 [.ref x, .int p0] G hs (pI (fun _ _ _ => False)) (fun X G' => X = jIX ∧ G' = G)) : CtW l K yL_sample cL_sample 4 (some .int) [(0, 9, 12, 24)] 9 145 1 6 [.ref x, .int p0, .ref o] G hs (pI (fun z9 G' _ => z9 = nI 1 ∧ G' = G)) := by
  refine CtW.of hl (by decide) (Nat.le_of_ble_eq_true rfl) (L0 := [some (.ref x), some (.int p0), some (.ref o), none]) (jL_of 1 rfl) ?_
  intro A E hE hQ hTab
  refine j_aload_n hE (i := 2) dL_sample_0 rfl rfl ?_
  refine j_iconst hE (v := nI 0) dL_sample_1 (by decide) ?_
  refine j_aload_n hE (i := 0) dL_sample_2 rfl rfl ?_
  refine j_iload_n hE (i := 1) dL_sample_3 rfl rfl ?_
  refine j_cVi hE mlL_55 hx0 (fun l hl => hM l hl) rfl rfl (Nat.le_of_ble_eq_true rfl) (by decide) (by decide) (by omega) (by omega) dL_sample_4 (fun r G9 hs9 hp => ?_) (fun X G9 h => ?_)
  · exact hp.elim
  · obtain ⟨rfl, rfl⟩ := h
    refine j_catch hE hTab [] (0, 9, 12, 24) [] rfl (fun _ h => absurd h List.not_mem_nil) (by decide) (by decide) lkX (by decide) (fun hs9 q9 => ?_)
    refine j_ast3 hE dL_sample_12 rfl (by decide) rfl ?_
    refine j_iconst hE (v := nI 1) dL_sample_13 (by decide) ?_
    refine j_iret hE hQ rfl (by omega) (by omega) dL_sample_14 ?_
    exact ⟨_, rfl, rfl, rfl⟩
set_option maxRecDepth 100000 in
set_option maxHeartbeats 4000000 in
theorem c_L_samples_ok {l : Launch} (hl : l.stackTraces = false) (K : jK) (G : GH) (hs x o : Nat) (fs : List Value) (p0 : Int32) (hx0 : G x = some (.inr (5, fs))) (f : Nat → Int64) (r : Int32) (Φ : GH → Prop) (hΦ : ∀ G', Φ G' → G' o = some (lA K 1 f)) (hM : ∀ l : Launch, l.stackTraces = false → Ct l K yX5_samples cX5_samples 2 (some .int) 8 124 1 6 [.ref x, .int p0] G hs (pI (fun z9 G' _ => z9 = r ∧ Φ G')) jno) : CtW l K yL_samples cL_samples 4 (some .int) [(0, 9, 12, 24)] 9 145 1 6 [.ref x, .int p0, .ref o] G hs (pI (fun z9 G' _ => z9 = nI 0 ∧ ∃ G1, Φ G1 ∧ G' = gset G1 o (lA K 1 (vp_updL f 0 r.toInt64)))) := by
  refine CtW.of hl (by decide) (Nat.le_of_ble_eq_true rfl) (L0 := [some (.ref x), some (.int p0), some (.ref o), none]) (jL_of 1 rfl) ?_
  intro A E hE hQ hTab
  refine j_aload_n hE (i := 2) dL_samples_0 rfl rfl ?_
  refine j_iconst hE (v := nI 0) dL_samples_1 (by decide) ?_
  refine j_aload_n hE (i := 0) dL_samples_2 rfl rfl ?_
  refine j_iload_n hE (i := 1) dL_samples_3 rfl rfl ?_
  refine j_cVi hE mlL_58 hx0 (fun l hl => hM l hl) rfl rfl (Nat.le_of_ble_eq_true rfl) (by decide) (by decide) (by omega) (by omega) dL_samples_4 (fun r G9 hs9 hp => ?_) (fun _ _ h => h.elim)
  obtain ⟨rfl, hp⟩ := hp
  refine j_i2l hE dL_samples_7 ?_
  refine j_last hE (hΦ _ hp) rfl (by omega) (by decide) dL_samples_8 (fun hs => ?_)
  refine j_goto hE (tgt := 15) dL_samples_9 (by decide) ?_
  refine j_iconst hE (v := nI 0) dL_samples_15 (by decide) ?_
  refine j_iret hE hQ rfl (by omega) (by omega) dL_samples_16 ?_
  exact ⟨_, rfl, rfl, _, hp, rfl⟩
set_option maxRecDepth 100000 in
set_option maxHeartbeats 4000000 in
theorem c_L_samples_x1 {l : Launch} (hl : l.stackTraces = false) (K : jK) (G : GH) (hs x o : Nat) (fs : List Value) (p0 : Int32) (hx0 : G x = some (.inr (5, fs))) (hM : ∀ l : Launch, l.stackTraces = false → Ct l K yX5_samples cX5_samples 2 (some .int) 8 124 1 6 [.ref x, .int p0] G hs (pI (fun _ _ _ => False)) (fun X G' => X = jIX ∧ G' = G)) : CtW l K yL_samples cL_samples 4 (some .int) [(0, 9, 12, 24)] 9 145 1 6 [.ref x, .int p0, .ref o] G hs (pI (fun z9 G' _ => z9 = nI 1 ∧ G' = G)) := by
  refine CtW.of hl (by decide) (Nat.le_of_ble_eq_true rfl) (L0 := [some (.ref x), some (.int p0), some (.ref o), none]) (jL_of 1 rfl) ?_
  intro A E hE hQ hTab
  refine j_aload_n hE (i := 2) dL_samples_0 rfl rfl ?_
  refine j_iconst hE (v := nI 0) dL_samples_1 (by decide) ?_
  refine j_aload_n hE (i := 0) dL_samples_2 rfl rfl ?_
  refine j_iload_n hE (i := 1) dL_samples_3 rfl rfl ?_
  refine j_cVi hE mlL_58 hx0 (fun l hl => hM l hl) rfl rfl (Nat.le_of_ble_eq_true rfl) (by decide) (by decide) (by omega) (by omega) dL_samples_4 (fun r G9 hs9 hp => ?_) (fun X G9 h => ?_)
  · exact hp.elim
  · obtain ⟨rfl, rfl⟩ := h
    refine j_catch hE hTab [] (0, 9, 12, 24) [] rfl (fun _ h => absurd h List.not_mem_nil) (by decide) (by decide) lkX (by decide) (fun hs9 q9 => ?_)
    refine j_ast3 hE dL_samples_12 rfl (by decide) rfl ?_
    refine j_iconst hE (v := nI 1) dL_samples_13 (by decide) ?_
    refine j_iret hE hQ rfl (by omega) (by omega) dL_samples_14 ?_
    exact ⟨_, rfl, rfl, rfl⟩
set_option maxRecDepth 100000 in
set_option maxHeartbeats 4000000 in
theorem c_L_setMode_ok {l : Launch} (hl : l.stackTraces = false) (K : jK) (G : GH) (hs x o : Nat) (fs : List Value) (p0 : Int32) (hx0 : G x = some (.inr (5, fs))) (f : Nat → Int64) (r : Int32) (Φ : GH → Prop) (hΦ : ∀ G', Φ G' → G' o = some (lA K 1 f)) (hM : ∀ l : Launch, l.stackTraces = false → Ct l K yX5_setMode cX5_setMode 3 (some .int) 7 102 1 6 [.ref x, .int p0] G hs (pI (fun z9 G' _ => z9 = r ∧ Φ G')) jno) : CtW l K yL_setMode cL_setMode 4 (some .int) [(0, 9, 12, 13)] 8 124 1 6 [.ref x, .int p0, .ref o] G hs (pI (fun z9 G' _ => z9 = nI 0 ∧ ∃ G1, Φ G1 ∧ G' = gset G1 o (lA K 1 (vp_updL f 0 r.toInt64)))) := by
  refine CtW.of hl (by decide) (Nat.le_of_ble_eq_true rfl) (L0 := [some (.ref x), some (.int p0), some (.ref o), none]) (jL_of 1 rfl) ?_
  intro A E hE hQ hTab
  refine j_aload_n hE (i := 2) dL_setMode_0 rfl rfl ?_
  refine j_iconst hE (v := nI 0) dL_setMode_1 (by decide) ?_
  refine j_aload_n hE (i := 0) dL_setMode_2 rfl rfl ?_
  refine j_iload_n hE (i := 1) dL_setMode_3 rfl rfl ?_
  refine j_cVi hE mlL_61 hx0 (fun l hl => hM l hl) rfl rfl (Nat.le_of_ble_eq_true rfl) (by decide) (by decide) (by omega) (by omega) dL_setMode_4 (fun r G9 hs9 hp => ?_) (fun _ _ h => h.elim)
  obtain ⟨rfl, hp⟩ := hp
  refine j_i2l hE dL_setMode_7 ?_
  refine j_last hE (hΦ _ hp) rfl (by omega) (by decide) dL_setMode_8 (fun hs => ?_)
  refine j_goto hE (tgt := 15) dL_setMode_9 (by decide) ?_
  refine j_iconst hE (v := nI 0) dL_setMode_15 (by decide) ?_
  refine j_iret hE hQ rfl (by omega) (by omega) dL_setMode_16 ?_
  exact ⟨_, rfl, rfl, _, hp, rfl⟩
set_option maxRecDepth 100000 in
set_option maxHeartbeats 4000000 in
theorem c_L_setMode_x1 {l : Launch} (hl : l.stackTraces = false) (K : jK) (G : GH) (hs x o : Nat) (fs : List Value) (p0 : Int32) (hx0 : G x = some (.inr (5, fs))) (hM : ∀ l : Launch, l.stackTraces = false → Ct l K yX5_setMode cX5_setMode 3 (some .int) 7 102 1 6 [.ref x, .int p0] G hs (pI (fun _ _ _ => False)) (fun X G' => X = jIA ∧ G' = G)) : CtW l K yL_setMode cL_setMode 4 (some .int) [(0, 9, 12, 13)] 8 124 1 6 [.ref x, .int p0, .ref o] G hs (pI (fun z9 G' _ => z9 = nI 1 ∧ G' = G)) := by
  refine CtW.of hl (by decide) (Nat.le_of_ble_eq_true rfl) (L0 := [some (.ref x), some (.int p0), some (.ref o), none]) (jL_of 1 rfl) ?_
  intro A E hE hQ hTab
  refine j_aload_n hE (i := 2) dL_setMode_0 rfl rfl ?_
  refine j_iconst hE (v := nI 0) dL_setMode_1 (by decide) ?_
  refine j_aload_n hE (i := 0) dL_setMode_2 rfl rfl ?_
  refine j_iload_n hE (i := 1) dL_setMode_3 rfl rfl ?_
  refine j_cVi hE mlL_61 hx0 (fun l hl => hM l hl) rfl rfl (Nat.le_of_ble_eq_true rfl) (by decide) (by decide) (by omega) (by omega) dL_setMode_4 (fun r G9 hs9 hp => ?_) (fun X G9 h => ?_)
  · exact hp.elim
  · obtain ⟨rfl, rfl⟩ := h
    refine j_catch hE hTab [] (0, 9, 12, 13) [] rfl (fun _ h => absurd h List.not_mem_nil) (by decide) (by decide) lkA (by decide) (fun hs9 q9 => ?_)
    refine j_ast3 hE dL_setMode_12 rfl (by decide) rfl ?_
    refine j_iconst hE (v := nI 1) dL_setMode_13 (by decide) ?_
    refine j_iret hE hQ rfl (by omega) (by omega) dL_setMode_14 ?_
    exact ⟨_, rfl, rfl, rfl⟩
set_option maxRecDepth 100000 in
set_option maxHeartbeats 4000000 in
theorem c_L_setLimits_ok {l : Launch} (hl : l.stackTraces = false) (K : jK) (G : GH) (hs x o : Nat) (fs : List Value) (p0 p1 p2 p3 : Int32) (hx0 : G x = some (.inr (5, fs))) (f : Nat → Int64) (r : Int32) (Φ : GH → Prop) (hΦ : ∀ G', Φ G' → G' o = some (lA K 1 f)) (hM : ∀ l : Launch, l.stackTraces = false → Ct l K yX5_setLimits cX5_setLimits 7 (some .int) 8 124 3 18 [.ref x, .int p0, .int p1, .int p2, .int p3] G hs (pI (fun z9 G' _ => z9 = r ∧ Φ G')) jno) : CtW l K yL_setLimits cL_setLimits 7 (some .int) [(0, 14, 17, 24), (0, 14, 21, 13)] 9 150 3 18 [.ref x, .int p0, .int p1, .int p2, .int p3, .ref o] G hs (pI (fun z9 G' _ => z9 = nI 0 ∧ ∃ G1, Φ G1 ∧ G' = gset G1 o (lA K 1 (vp_updL f 0 r.toInt64)))) := by
  refine CtW.of hl (by decide) (Nat.le_of_ble_eq_true rfl) (L0 := [some (.ref x), some (.int p0), some (.int p1), some (.int p2), some (.int p3), some (.ref o), none]) (jL_of 1 rfl) ?_
  intro A E hE hQ hTab
  refine j_aload hE dL_setLimits_0 rfl ?_
  refine j_iconst hE (v := nI 0) dL_setLimits_2 (by decide) ?_
  refine j_aload_n hE (i := 0) dL_setLimits_3 rfl rfl ?_
  refine j_iload_n hE (i := 1) dL_setLimits_4 rfl rfl ?_
  refine j_iload_n hE (i := 2) dL_setLimits_5 rfl rfl ?_
  refine j_iload_n hE (i := 3) dL_setLimits_6 rfl rfl ?_
  refine j_iload hE dL_setLimits_7 rfl ?_
  refine j_cVi hE mlL_64 hx0 (fun l hl => hM l hl) rfl rfl (Nat.le_of_ble_eq_true rfl) (by decide) (by decide) (by omega) (by omega) dL_setLimits_9 (fun r G9 hs9 hp => ?_) (fun _ _ h => h.elim)
  obtain ⟨rfl, hp⟩ := hp
  refine j_i2l hE dL_setLimits_12 ?_
  refine j_last hE (hΦ _ hp) rfl (by omega) (by decide) dL_setLimits_13 (fun hs => ?_)
  refine j_goto hE (tgt := 25) dL_setLimits_14 (by decide) ?_
  refine j_iconst hE (v := nI 0) dL_setLimits_25 (by decide) ?_
  refine j_iret hE hQ rfl (by omega) (by omega) dL_setLimits_26 ?_
  exact ⟨_, rfl, rfl, _, hp, rfl⟩
set_option maxRecDepth 100000 in
set_option maxHeartbeats 4000000 in
theorem c_L_setLimits_x1 {l : Launch} (hl : l.stackTraces = false) (K : jK) (G : GH) (hs x o : Nat) (fs : List Value) (p0 p1 p2 p3 : Int32) (hx0 : G x = some (.inr (5, fs))) (hM : ∀ l : Launch, l.stackTraces = false → Ct l K yX5_setLimits cX5_setLimits 7 (some .int) 8 124 3 18 [.ref x, .int p0, .int p1, .int p2, .int p3] G hs (pI (fun _ _ _ => False)) (fun X G' => X = jIX ∧ G' = G)) : CtW l K yL_setLimits cL_setLimits 7 (some .int) [(0, 14, 17, 24), (0, 14, 21, 13)] 9 150 3 18 [.ref x, .int p0, .int p1, .int p2, .int p3, .ref o] G hs (pI (fun z9 G' _ => z9 = nI 1 ∧ G' = G)) := by
  refine CtW.of hl (by decide) (Nat.le_of_ble_eq_true rfl) (L0 := [some (.ref x), some (.int p0), some (.int p1), some (.int p2), some (.int p3), some (.ref o), none]) (jL_of 1 rfl) ?_
  intro A E hE hQ hTab
  refine j_aload hE dL_setLimits_0 rfl ?_
  refine j_iconst hE (v := nI 0) dL_setLimits_2 (by decide) ?_
  refine j_aload_n hE (i := 0) dL_setLimits_3 rfl rfl ?_
  refine j_iload_n hE (i := 1) dL_setLimits_4 rfl rfl ?_
  refine j_iload_n hE (i := 2) dL_setLimits_5 rfl rfl ?_
  refine j_iload_n hE (i := 3) dL_setLimits_6 rfl rfl ?_
  refine j_iload hE dL_setLimits_7 rfl ?_
  refine j_cVi hE mlL_64 hx0 (fun l hl => hM l hl) rfl rfl (Nat.le_of_ble_eq_true rfl) (by decide) (by decide) (by omega) (by omega) dL_setLimits_9 (fun r G9 hs9 hp => ?_) (fun X G9 h => ?_)
  · exact hp.elim
  · obtain ⟨rfl, rfl⟩ := h
    refine j_catch hE hTab [] (0, 14, 17, 24) [(0, 14, 21, 13)] rfl (fun _ h => absurd h List.not_mem_nil) (by decide) (by decide) lkX (by decide) (fun hs9 q9 => ?_)
    refine j_ast6 hE dL_setLimits_17 (by decide) rfl ?_
    refine j_iconst hE (v := nI 1) dL_setLimits_19 (by decide) ?_
    refine j_iret hE hQ rfl (by omega) (by omega) dL_setLimits_20 ?_
    exact ⟨_, rfl, rfl, rfl⟩
set_option maxRecDepth 100000 in
set_option maxHeartbeats 4000000 in
theorem c_L_setLimits_x2 {l : Launch} (hl : l.stackTraces = false) (K : jK) (G : GH) (hs x o : Nat) (fs : List Value) (p0 p1 p2 p3 : Int32) (hx0 : G x = some (.inr (5, fs))) (hM : ∀ l : Launch, l.stackTraces = false → Ct l K yX5_setLimits cX5_setLimits 7 (some .int) 8 124 3 18 [.ref x, .int p0, .int p1, .int p2, .int p3] G hs (pI (fun _ _ _ => False)) (fun X G' => X = jIA ∧ G' = G)) : CtW l K yL_setLimits cL_setLimits 7 (some .int) [(0, 14, 17, 24), (0, 14, 21, 13)] 9 150 3 18 [.ref x, .int p0, .int p1, .int p2, .int p3, .ref o] G hs (pI (fun z9 G' _ => z9 = nI 2 ∧ G' = G)) := by
  refine CtW.of hl (by decide) (Nat.le_of_ble_eq_true rfl) (L0 := [some (.ref x), some (.int p0), some (.int p1), some (.int p2), some (.int p3), some (.ref o), none]) (jL_of 1 rfl) ?_
  intro A E hE hQ hTab
  refine j_aload hE dL_setLimits_0 rfl ?_
  refine j_iconst hE (v := nI 0) dL_setLimits_2 (by decide) ?_
  refine j_aload_n hE (i := 0) dL_setLimits_3 rfl rfl ?_
  refine j_iload_n hE (i := 1) dL_setLimits_4 rfl rfl ?_
  refine j_iload_n hE (i := 2) dL_setLimits_5 rfl rfl ?_
  refine j_iload_n hE (i := 3) dL_setLimits_6 rfl rfl ?_
  refine j_iload hE dL_setLimits_7 rfl ?_
  refine j_cVi hE mlL_64 hx0 (fun l hl => hM l hl) rfl rfl (Nat.le_of_ble_eq_true rfl) (by decide) (by decide) (by omega) (by omega) dL_setLimits_9 (fun r G9 hs9 hp => ?_) (fun X G9 h => ?_)
  · exact hp.elim
  · obtain ⟨rfl, rfl⟩ := h
    refine j_catch hE hTab [((0, 14, 17, 24), jIX)] (0, 14, 21, 13) [] rfl (List.forall_mem_cons.mpr ⟨⟨by decide, lkX, by decide⟩, (fun _ h => absurd h List.not_mem_nil)⟩) (by decide) (by decide) lkA (by decide) (fun hs9 q9 => ?_)
    refine j_ast6 hE dL_setLimits_21 (by decide) rfl ?_
    refine j_iconst hE (v := nI 2) dL_setLimits_23 (by decide) ?_
    refine j_iret hE hQ rfl (by omega) (by omega) dL_setLimits_24 ?_
    exact ⟨_, rfl, rfl, rfl⟩
set_option maxRecDepth 100000 in
set_option maxHeartbeats 4000000 in
theorem c_L_setPersistence_ok {l : Launch} (hl : l.stackTraces = false) (K : jK) (G : GH) (hs x o : Nat) (fs : List Value) (p0 p1 : Int32) (hx0 : G x = some (.inr (5, fs))) (f : Nat → Int64) (r : Int32) (Φ : GH → Prop) (hΦ : ∀ G', Φ G' → G' o = some (lA K 1 f)) (hM : ∀ l : Launch, l.stackTraces = false → Ct l K yX5_setPersistence cX5_setPersistence 5 (some .int) 8 124 2 12 [.ref x, .int p0, .int p1] G hs (pI (fun z9 G' _ => z9 = r ∧ Φ G')) jno) : CtW l K yL_setPersistence cL_setPersistence 5 (some .int) [(0, 10, 13, 24), (0, 10, 17, 13)] 9 148 2 12 [.ref x, .int p0, .int p1, .ref o] G hs (pI (fun z9 G' _ => z9 = nI 0 ∧ ∃ G1, Φ G1 ∧ G' = gset G1 o (lA K 1 (vp_updL f 0 r.toInt64)))) := by
  refine CtW.of hl (by decide) (Nat.le_of_ble_eq_true rfl) (L0 := [some (.ref x), some (.int p0), some (.int p1), some (.ref o), none]) (jL_of 1 rfl) ?_
  intro A E hE hQ hTab
  refine j_aload_n hE (i := 3) dL_setPersistence_0 rfl rfl ?_
  refine j_iconst hE (v := nI 0) dL_setPersistence_1 (by decide) ?_
  refine j_aload_n hE (i := 0) dL_setPersistence_2 rfl rfl ?_
  refine j_iload_n hE (i := 1) dL_setPersistence_3 rfl rfl ?_
  refine j_iload_n hE (i := 2) dL_setPersistence_4 rfl rfl ?_
  refine j_cVi hE mlL_68 hx0 (fun l hl => hM l hl) rfl rfl (Nat.le_of_ble_eq_true rfl) (by decide) (by decide) (by omega) (by omega) dL_setPersistence_5 (fun r G9 hs9 hp => ?_) (fun _ _ h => h.elim)
  obtain ⟨rfl, hp⟩ := hp
  refine j_i2l hE dL_setPersistence_8 ?_
  refine j_last hE (hΦ _ hp) rfl (by omega) (by decide) dL_setPersistence_9 (fun hs => ?_)
  refine j_goto hE (tgt := 21) dL_setPersistence_10 (by decide) ?_
  refine j_iconst hE (v := nI 0) dL_setPersistence_21 (by decide) ?_
  refine j_iret hE hQ rfl (by omega) (by omega) dL_setPersistence_22 ?_
  exact ⟨_, rfl, rfl, _, hp, rfl⟩
set_option maxRecDepth 100000 in
set_option maxHeartbeats 4000000 in
theorem c_L_setPersistence_x1 {l : Launch} (hl : l.stackTraces = false) (K : jK) (G : GH) (hs x o : Nat) (fs : List Value) (p0 p1 : Int32) (hx0 : G x = some (.inr (5, fs))) (hM : ∀ l : Launch, l.stackTraces = false → Ct l K yX5_setPersistence cX5_setPersistence 5 (some .int) 8 124 2 12 [.ref x, .int p0, .int p1] G hs (pI (fun _ _ _ => False)) (fun X G' => X = jIX ∧ G' = G)) : CtW l K yL_setPersistence cL_setPersistence 5 (some .int) [(0, 10, 13, 24), (0, 10, 17, 13)] 9 148 2 12 [.ref x, .int p0, .int p1, .ref o] G hs (pI (fun z9 G' _ => z9 = nI 1 ∧ G' = G)) := by
  refine CtW.of hl (by decide) (Nat.le_of_ble_eq_true rfl) (L0 := [some (.ref x), some (.int p0), some (.int p1), some (.ref o), none]) (jL_of 1 rfl) ?_
  intro A E hE hQ hTab
  refine j_aload_n hE (i := 3) dL_setPersistence_0 rfl rfl ?_
  refine j_iconst hE (v := nI 0) dL_setPersistence_1 (by decide) ?_
  refine j_aload_n hE (i := 0) dL_setPersistence_2 rfl rfl ?_
  refine j_iload_n hE (i := 1) dL_setPersistence_3 rfl rfl ?_
  refine j_iload_n hE (i := 2) dL_setPersistence_4 rfl rfl ?_
  refine j_cVi hE mlL_68 hx0 (fun l hl => hM l hl) rfl rfl (Nat.le_of_ble_eq_true rfl) (by decide) (by decide) (by omega) (by omega) dL_setPersistence_5 (fun r G9 hs9 hp => ?_) (fun X G9 h => ?_)
  · exact hp.elim
  · obtain ⟨rfl, rfl⟩ := h
    refine j_catch hE hTab [] (0, 10, 13, 24) [(0, 10, 17, 13)] rfl (fun _ h => absurd h List.not_mem_nil) (by decide) (by decide) lkX (by decide) (fun hs9 q9 => ?_)
    refine j_ast4 hE dL_setPersistence_13 (by decide) rfl ?_
    refine j_iconst hE (v := nI 1) dL_setPersistence_15 (by decide) ?_
    refine j_iret hE hQ rfl (by omega) (by omega) dL_setPersistence_16 ?_
    exact ⟨_, rfl, rfl, rfl⟩
set_option maxRecDepth 100000 in
set_option maxHeartbeats 4000000 in
theorem c_L_setPersistence_x2 {l : Launch} (hl : l.stackTraces = false) (K : jK) (G : GH) (hs x o : Nat) (fs : List Value) (p0 p1 : Int32) (hx0 : G x = some (.inr (5, fs))) (hM : ∀ l : Launch, l.stackTraces = false → Ct l K yX5_setPersistence cX5_setPersistence 5 (some .int) 8 124 2 12 [.ref x, .int p0, .int p1] G hs (pI (fun _ _ _ => False)) (fun X G' => X = jIA ∧ G' = G)) : CtW l K yL_setPersistence cL_setPersistence 5 (some .int) [(0, 10, 13, 24), (0, 10, 17, 13)] 9 148 2 12 [.ref x, .int p0, .int p1, .ref o] G hs (pI (fun z9 G' _ => z9 = nI 2 ∧ G' = G)) := by
  refine CtW.of hl (by decide) (Nat.le_of_ble_eq_true rfl) (L0 := [some (.ref x), some (.int p0), some (.int p1), some (.ref o), none]) (jL_of 1 rfl) ?_
  intro A E hE hQ hTab
  refine j_aload_n hE (i := 3) dL_setPersistence_0 rfl rfl ?_
  refine j_iconst hE (v := nI 0) dL_setPersistence_1 (by decide) ?_
  refine j_aload_n hE (i := 0) dL_setPersistence_2 rfl rfl ?_
  refine j_iload_n hE (i := 1) dL_setPersistence_3 rfl rfl ?_
  refine j_iload_n hE (i := 2) dL_setPersistence_4 rfl rfl ?_
  refine j_cVi hE mlL_68 hx0 (fun l hl => hM l hl) rfl rfl (Nat.le_of_ble_eq_true rfl) (by decide) (by decide) (by omega) (by omega) dL_setPersistence_5 (fun r G9 hs9 hp => ?_) (fun X G9 h => ?_)
  · exact hp.elim
  · obtain ⟨rfl, rfl⟩ := h
    refine j_catch hE hTab [((0, 10, 13, 24), jIX)] (0, 10, 17, 13) [] rfl (List.forall_mem_cons.mpr ⟨⟨by decide, lkX, by decide⟩, (fun _ h => absurd h List.not_mem_nil)⟩) (by decide) (by decide) lkA (by decide) (fun hs9 q9 => ?_)
    refine j_ast4 hE dL_setPersistence_17 (by decide) rfl ?_
    refine j_iconst hE (v := nI 2) dL_setPersistence_19 (by decide) ?_
    refine j_iret hE hQ rfl (by omega) (by omega) dL_setPersistence_20 ?_
    exact ⟨_, rfl, rfl, rfl⟩
set_option maxRecDepth 100000 in
set_option maxHeartbeats 4000000 in
theorem c_L_hasAlarm_ok {l : Launch} (hl : l.stackTraces = false) (K : jK) (G : GH) (hs x o : Nat) (fs : List Value) (p0 : Int32) (hx0 : G x = some (.inr (5, fs))) (f : Nat → Int64) (r : Bool) (Φ : GH → Prop) (hΦ : ∀ G', Φ G' → G' o = some (lA K 1 f)) (hM : ∀ l : Launch, l.stackTraces = false → Ct l K yX5_hasAlarm cX5_hasAlarm 2 (some .boolean) 8 124 1 6 [.ref x, .int p0] G hs (pI (fun z9 G' _ => z9 = jb r ∧ Φ G')) jno) : CtW l K yL_hasAlarm cL_hasAlarm 4 (some .int) [(0, 16, 19, 24)] 9 145 1 6 [.ref x, .int p0, .ref o] G hs (pI (fun z9 G' _ => z9 = nI 0 ∧ ∃ G1, Φ G1 ∧ G' = gset G1 o (lA K 1 (vp_updL f 0 (if r then 1 else 0))))) := by
  refine CtW.of hl (by decide) (Nat.le_of_ble_eq_true rfl) (L0 := [some (.ref x), some (.int p0), some (.ref o), none]) (jL_of 1 rfl) ?_
  intro A E hE hQ hTab
  refine j_aload_n hE (i := 2) dL_hasAlarm_0 rfl rfl ?_
  refine j_iconst hE (v := nI 0) dL_hasAlarm_1 (by decide) ?_
  refine j_aload_n hE (i := 0) dL_hasAlarm_2 rfl rfl ?_
  refine j_iload_n hE (i := 1) dL_hasAlarm_3 rfl rfl ?_
  refine j_cVi hE mlL_71 hx0 (fun l hl => hM l hl) rfl rfl (Nat.le_of_ble_eq_true rfl) (by decide) (by decide) (by omega) (by omega) dL_hasAlarm_4 (fun r G9 hs9 hp => ?_) (fun _ _ h => h.elim)
  obtain ⟨rfl, hp⟩ := hp
  refine j_if_eq hE (tgt := 14) dL_hasAlarm_7 (by decide) (fun h7 => ?_) (fun h7 => ?_)
  · have e9 : r = false := jb_eq h7
    subst e9
    refine j_lconst hE (v := 0) dL_hasAlarm_14 (by decide) ?_
    refine j_last hE (hΦ _ hp) rfl (by omega) (by decide) dL_hasAlarm_15 (fun hs => ?_)
    refine j_goto hE (tgt := 22) dL_hasAlarm_16 (by decide) ?_
    refine j_iconst hE (v := nI 0) dL_hasAlarm_22 (by decide) ?_
    refine j_iret hE hQ rfl (by omega) (by omega) dL_hasAlarm_23 ?_
    exact ⟨_, rfl, rfl, _, hp, rfl⟩
  · have e9 : r = true := jb_ne h7
    subst e9
    refine j_lconst hE (v := 1) dL_hasAlarm_10 (by decide) ?_
    refine j_goto hE (tgt := 15) dL_hasAlarm_11 (by decide) ?_
    refine j_last hE (hΦ _ hp) rfl (by omega) (by decide) dL_hasAlarm_15 (fun hs => ?_)
    refine j_goto hE (tgt := 22) dL_hasAlarm_16 (by decide) ?_
    refine j_iconst hE (v := nI 0) dL_hasAlarm_22 (by decide) ?_
    refine j_iret hE hQ rfl (by omega) (by omega) dL_hasAlarm_23 ?_
    exact ⟨_, rfl, rfl, _, hp, rfl⟩
set_option maxRecDepth 100000 in
set_option maxHeartbeats 4000000 in
theorem c_L_hasAlarm_x1 {l : Launch} (hl : l.stackTraces = false) (K : jK) (G : GH) (hs x o : Nat) (fs : List Value) (p0 : Int32) (hx0 : G x = some (.inr (5, fs))) (hM : ∀ l : Launch, l.stackTraces = false → Ct l K yX5_hasAlarm cX5_hasAlarm 2 (some .boolean) 8 124 1 6 [.ref x, .int p0] G hs (pI (fun _ _ _ => False)) (fun X G' => X = jIX ∧ G' = G)) : CtW l K yL_hasAlarm cL_hasAlarm 4 (some .int) [(0, 16, 19, 24)] 9 145 1 6 [.ref x, .int p0, .ref o] G hs (pI (fun z9 G' _ => z9 = nI 1 ∧ G' = G)) := by
  refine CtW.of hl (by decide) (Nat.le_of_ble_eq_true rfl) (L0 := [some (.ref x), some (.int p0), some (.ref o), none]) (jL_of 1 rfl) ?_
  intro A E hE hQ hTab
  refine j_aload_n hE (i := 2) dL_hasAlarm_0 rfl rfl ?_
  refine j_iconst hE (v := nI 0) dL_hasAlarm_1 (by decide) ?_
  refine j_aload_n hE (i := 0) dL_hasAlarm_2 rfl rfl ?_
  refine j_iload_n hE (i := 1) dL_hasAlarm_3 rfl rfl ?_
  refine j_cVi hE mlL_71 hx0 (fun l hl => hM l hl) rfl rfl (Nat.le_of_ble_eq_true rfl) (by decide) (by decide) (by omega) (by omega) dL_hasAlarm_4 (fun r G9 hs9 hp => ?_) (fun X G9 h => ?_)
  · exact hp.elim
  · obtain ⟨rfl, rfl⟩ := h
    refine j_catch hE hTab [] (0, 16, 19, 24) [] rfl (fun _ h => absurd h List.not_mem_nil) (by decide) (by decide) lkX (by decide) (fun hs9 q9 => ?_)
    refine j_ast3 hE dL_hasAlarm_19 rfl (by decide) rfl ?_
    refine j_iconst hE (v := nI 1) dL_hasAlarm_20 (by decide) ?_
    refine j_iret hE hQ rfl (by omega) (by omega) dL_hasAlarm_21 ?_
    exact ⟨_, rfl, rfl, rfl⟩
set_option maxRecDepth 100000 in
set_option maxHeartbeats 4000000 in
theorem c_L_alarms_ok {l : Launch} (hl : l.stackTraces = false) (K : jK) (G : GH) (hs x o : Nat) (fs : List Value) (p0 : Int32) (hx0 : G x = some (.inr (5, fs))) (f : Nat → Int64) (r : Int32) (Φ : GH → Prop) (hΦ : ∀ G', Φ G' → G' o = some (lA K 1 f)) (hM : ∀ l : Launch, l.stackTraces = false → Ct l K yX5_alarms cX5_alarms 2 (some .int) 8 124 1 6 [.ref x, .int p0] G hs (pI (fun z9 G' _ => z9 = r ∧ Φ G')) jno) : CtW l K yL_alarms cL_alarms 4 (some .int) [(0, 9, 12, 24)] 9 145 1 6 [.ref x, .int p0, .ref o] G hs (pI (fun z9 G' _ => z9 = nI 0 ∧ ∃ G1, Φ G1 ∧ G' = gset G1 o (lA K 1 (vp_updL f 0 r.toInt64)))) := by
  refine CtW.of hl (by decide) (Nat.le_of_ble_eq_true rfl) (L0 := [some (.ref x), some (.int p0), some (.ref o), none]) (jL_of 1 rfl) ?_
  intro A E hE hQ hTab
  refine j_aload_n hE (i := 2) dL_alarms_0 rfl rfl ?_
  refine j_iconst hE (v := nI 0) dL_alarms_1 (by decide) ?_
  refine j_aload_n hE (i := 0) dL_alarms_2 rfl rfl ?_
  refine j_iload_n hE (i := 1) dL_alarms_3 rfl rfl ?_
  refine j_cVi hE mlL_75 hx0 (fun l hl => hM l hl) rfl rfl (Nat.le_of_ble_eq_true rfl) (by decide) (by decide) (by omega) (by omega) dL_alarms_4 (fun r G9 hs9 hp => ?_) (fun _ _ h => h.elim)
  obtain ⟨rfl, hp⟩ := hp
  refine j_i2l hE dL_alarms_7 ?_
  refine j_last hE (hΦ _ hp) rfl (by omega) (by decide) dL_alarms_8 (fun hs => ?_)
  refine j_goto hE (tgt := 15) dL_alarms_9 (by decide) ?_
  refine j_iconst hE (v := nI 0) dL_alarms_15 (by decide) ?_
  refine j_iret hE hQ rfl (by omega) (by omega) dL_alarms_16 ?_
  exact ⟨_, rfl, rfl, _, hp, rfl⟩
set_option maxRecDepth 100000 in
set_option maxHeartbeats 4000000 in
theorem c_L_alarms_x1 {l : Launch} (hl : l.stackTraces = false) (K : jK) (G : GH) (hs x o : Nat) (fs : List Value) (p0 : Int32) (hx0 : G x = some (.inr (5, fs))) (hM : ∀ l : Launch, l.stackTraces = false → Ct l K yX5_alarms cX5_alarms 2 (some .int) 8 124 1 6 [.ref x, .int p0] G hs (pI (fun _ _ _ => False)) (fun X G' => X = jIX ∧ G' = G)) : CtW l K yL_alarms cL_alarms 4 (some .int) [(0, 9, 12, 24)] 9 145 1 6 [.ref x, .int p0, .ref o] G hs (pI (fun z9 G' _ => z9 = nI 1 ∧ G' = G)) := by
  refine CtW.of hl (by decide) (Nat.le_of_ble_eq_true rfl) (L0 := [some (.ref x), some (.int p0), some (.ref o), none]) (jL_of 1 rfl) ?_
  intro A E hE hQ hTab
  refine j_aload_n hE (i := 2) dL_alarms_0 rfl rfl ?_
  refine j_iconst hE (v := nI 0) dL_alarms_1 (by decide) ?_
  refine j_aload_n hE (i := 0) dL_alarms_2 rfl rfl ?_
  refine j_iload_n hE (i := 1) dL_alarms_3 rfl rfl ?_
  refine j_cVi hE mlL_75 hx0 (fun l hl => hM l hl) rfl rfl (Nat.le_of_ble_eq_true rfl) (by decide) (by decide) (by omega) (by omega) dL_alarms_4 (fun r G9 hs9 hp => ?_) (fun X G9 h => ?_)
  · exact hp.elim
  · obtain ⟨rfl, rfl⟩ := h
    refine j_catch hE hTab [] (0, 9, 12, 24) [] rfl (fun _ h => absurd h List.not_mem_nil) (by decide) (by decide) lkX (by decide) (fun hs9 q9 => ?_)
    refine j_ast3 hE dL_alarms_12 rfl (by decide) rfl ?_
    refine j_iconst hE (v := nI 1) dL_alarms_13 (by decide) ?_
    refine j_iret hE hQ rfl (by omega) (by omega) dL_alarms_14 ?_
    exact ⟨_, rfl, rfl, rfl⟩
set_option maxRecDepth 100000 in
set_option maxHeartbeats 4000000 in
theorem c_L_undo_ok {l : Launch} (hl : l.stackTraces = false) (K : jK) (G : GH) (hs x o : Nat) (fs : List Value) (hx0 : G x = some (.inr (5, fs))) (f : Nat → Int64) (r : Int32) (Φ : GH → Prop) (hΦ : ∀ G', Φ G' → G' o = some (lA K 1 f)) (hM : ∀ l : Launch, l.stackTraces = false → Ct l K yX5_undo cX5_undo 2 (some .int) 7 102 1 6 [.ref x] G hs (pI (fun z9 G' _ => z9 = r ∧ Φ G')) jno) : CtW l K yL_undo cL_undo 3 (some .int) [(0, 8, 11, 19)] 8 123 1 6 [.ref x, .ref o] G hs (pI (fun z9 G' _ => z9 = nI 0 ∧ ∃ G1, Φ G1 ∧ G' = gset G1 o (lA K 1 (vp_updL f 0 r.toInt64)))) := by
  refine CtW.of hl (by decide) (Nat.le_of_ble_eq_true rfl) (L0 := [some (.ref x), some (.ref o), none]) (jL_of 1 rfl) ?_
  intro A E hE hQ hTab
  refine j_aload_n hE (i := 1) dL_undo_0 rfl rfl ?_
  refine j_iconst hE (v := nI 0) dL_undo_1 (by decide) ?_
  refine j_aload_n hE (i := 0) dL_undo_2 rfl rfl ?_
  refine j_cVi hE mlL_78 hx0 (fun l hl => hM l hl) rfl rfl (Nat.le_of_ble_eq_true rfl) (by decide) (by decide) (by omega) (by omega) dL_undo_3 (fun r G9 hs9 hp => ?_) (fun _ _ h => h.elim)
  obtain ⟨rfl, hp⟩ := hp
  refine j_i2l hE dL_undo_6 ?_
  refine j_last hE (hΦ _ hp) rfl (by omega) (by decide) dL_undo_7 (fun hs => ?_)
  refine j_goto hE (tgt := 14) dL_undo_8 (by decide) ?_
  refine j_iconst hE (v := nI 0) dL_undo_14 (by decide) ?_
  refine j_iret hE hQ rfl (by omega) (by omega) dL_undo_15 ?_
  exact ⟨_, rfl, rfl, _, hp, rfl⟩
set_option maxRecDepth 100000 in
set_option maxHeartbeats 4000000 in
theorem c_L_undo_x1 {l : Launch} (hl : l.stackTraces = false) (K : jK) (G : GH) (hs x o : Nat) (fs : List Value) (hx0 : G x = some (.inr (5, fs))) (hM : ∀ l : Launch, l.stackTraces = false → Ct l K yX5_undo cX5_undo 2 (some .int) 7 102 1 6 [.ref x] G hs (pI (fun _ _ _ => False)) (fun X G' => X = jIS ∧ G' = G)) : CtW l K yL_undo cL_undo 3 (some .int) [(0, 8, 11, 19)] 8 123 1 6 [.ref x, .ref o] G hs (pI (fun z9 G' _ => z9 = nI 1 ∧ G' = G)) := by
  refine CtW.of hl (by decide) (Nat.le_of_ble_eq_true rfl) (L0 := [some (.ref x), some (.ref o), none]) (jL_of 1 rfl) ?_
  intro A E hE hQ hTab
  refine j_aload_n hE (i := 1) dL_undo_0 rfl rfl ?_
  refine j_iconst hE (v := nI 0) dL_undo_1 (by decide) ?_
  refine j_aload_n hE (i := 0) dL_undo_2 rfl rfl ?_
  refine j_cVi hE mlL_78 hx0 (fun l hl => hM l hl) rfl rfl (Nat.le_of_ble_eq_true rfl) (by decide) (by decide) (by omega) (by omega) dL_undo_3 (fun r G9 hs9 hp => ?_) (fun X G9 h => ?_)
  · exact hp.elim
  · obtain ⟨rfl, rfl⟩ := h
    refine j_catch hE hTab [] (0, 8, 11, 19) [] rfl (fun _ h => absurd h List.not_mem_nil) (by decide) (by decide) lkS (by decide) (fun hs9 q9 => ?_)
    refine j_ast2 hE dL_undo_11 rfl (by decide) rfl ?_
    refine j_iconst hE (v := nI 1) dL_undo_12 (by decide) ?_
    refine j_iret hE hQ rfl (by omega) (by omega) dL_undo_13 ?_
    exact ⟨_, rfl, rfl, rfl⟩
