/-! ===== the reference: its cells, its small methods ===== -/
abbrev mC (K : jK) (h0 : Nat) (now past : Nat → Int32) (kept thrown : Int32) (drawn : Nat → Int32) (hash : Int64) : List va_E := [.inr (6, [.ref (h0 + 1), .ref (h0 + 2), .int kept, .int thrown, .ref (h0 + 3), .long hash]), iA K 2377 now, iA K 9508 past, iA K 128 drawn]
set_option maxRecDepth 100000 in
set_option maxHeartbeats 4000000 in
theorem c_X6_thrown {l : Launch} (hl : l.stackTraces = false) (K : jK) (F : GH) (h0 hs : Nat) (now past : Nat → Int32) (kept thrown : Int32) (drawn : Nat → Int32) (hash : Int64) : Ct l K yX6_thrown cX6_thrown 1 (some .int) 0 0 0 0 [.ref h0] (gB F h0 (mC K h0 now past kept thrown drawn hash)) hs (pI (fun r G' _ => r = thrown ∧ G' = (gB F h0 (mC K h0 now past kept thrown drawn hash)))) jno := by
  refine Ct.ofA hl (by decide) (Nat.le_of_ble_eq_true rfl) (L0 := [some (.ref h0)]) (jL_of 0 rfl) ?_
  intro A E hE hQ hX hNm
  refine j_aload_n hE (i := 0) dX6_thrown_0 rfl rfl ?_
  refine j_get hE flX6_19 gB_0 rfl dX6_thrown_1 ?_
  refine j_iret hE hQ rfl (by omega) (by omega) dX6_thrown_4 ?_
  exact ⟨_, rfl, rfl, rfl⟩

set_option maxRecDepth 100000 in
set_option maxHeartbeats 4000000 in
theorem c_X6_of {l : Launch} (hl : l.stackTraces = false) (K : jK) (F : GH) (h0 hs : Nat) (now past : Nat → Int32) (kept thrown : Int32) (drawn : Nat → Int32) (hash : Int64) (p w : Nat) (hp : 33 + 14 * p + w < 2377) : Ct l K yX6_of cX6_of 3 (some .int) 0 0 0 0 [.ref h0, .int (nI p), .int (nI w)] (gB F h0 (mC K h0 now past kept thrown drawn hash)) hs (pI (fun r G' _ => r = now (33 + 14 * p + w) ∧ G' = (gB F h0 (mC K h0 now past kept thrown drawn hash)))) jno := by
  refine Ct.ofA hl (by decide) (Nat.le_of_ble_eq_true rfl) (L0 := [some (.ref h0), some (.int (nI p)), some (.int (nI w))]) (jL_of 0 rfl) ?_
  intro A E hE hQ hX hNm
  refine j_aload_n hE (i := 0) dX6_of_0 rfl rfl ?_
  refine j_get hE flX6_7 gB_0 rfl dX6_of_1 ?_
  refine j_bipush hE (v := nI 33) dX6_of_4 (by decide) ?_
  refine j_bipush hE (v := nI 14) dX6_of_6 (by decide) ?_
  refine j_iload_n hE (i := 1) dX6_of_8 rfl rfl ?_
  refine j_imulN hE dX6_of_9 ?_
  refine j_iaddN hE dX6_of_10 ?_
  refine j_iload_n hE (i := 2) dX6_of_11 rfl rfl ?_
  refine j_iaddN hE dX6_of_12 ?_
  refine j_iald hE gB_1 rfl (by omega) (by decide) dX6_of_13 ?_
  refine j_iret hE hQ rfl (by omega) (by omega) dX6_of_14 ?_
  exact ⟨_, rfl, rfl, rfl⟩

set_option maxRecDepth 100000 in
set_option maxHeartbeats 4000000 in
theorem c_X6_put {l : Launch} (hl : l.stackTraces = false) (K : jK) (F : GH) (h0 hs : Nat) (now past : Nat → Int32) (kept thrown : Int32) (drawn : Nat → Int32) (hash : Int64) (p w : Nat) (v : Int32) (hp : 33 + 14 * p + w < 2377) : Ct l K yX6_put cX6_put 4 none 0 0 0 0 [.ref h0, .int (nI p), .int (nI w), .int v] (gB F h0 (mC K h0 now past kept thrown drawn hash)) hs (pV (fun G' _ => G' = (gB F h0 (mC K h0 (upd now (33 + 14 * p + w) v) past kept thrown drawn hash)))) jno := by
  refine Ct.ofA hl (by decide) (Nat.le_of_ble_eq_true rfl) (L0 := [some (.ref h0), some (.int (nI p)), some (.int (nI w)), some (.int v)]) (jL_of 0 rfl) ?_
  intro A E hE hQ hX hNm
  refine j_aload_n hE (i := 0) dX6_put_0 rfl rfl ?_
  refine j_get hE flX6_7 gB_0 rfl dX6_put_1 ?_
  refine j_bipush hE (v := nI 33) dX6_put_4 (by decide) ?_
  refine j_bipush hE (v := nI 14) dX6_put_6 (by decide) ?_
  refine j_iload_n hE (i := 1) dX6_put_8 rfl rfl ?_
  refine j_imulN hE dX6_put_9 ?_
  refine j_iaddN hE dX6_put_10 ?_
  refine j_iload_n hE (i := 2) dX6_put_11 rfl rfl ?_
  refine j_iaddN hE dX6_put_12 ?_
  refine j_iload_n hE (i := 3) dX6_put_13 rfl rfl ?_
  refine b_ast1 hE rfl (by omega) (by decide) dX6_put_14 ?_
  refine j_vret hE hQ (by omega) (by omega) dX6_put_15 ?_
  exact ⟨rfl, rfl⟩

set_option maxRecDepth 100000 in
set_option maxHeartbeats 4000000 in
theorem c_X6_in_t {l : Launch} (hl : l.stackTraces = false) (K : jK) (G : GH) (hs : Nat) (v low high : Int32) (h : low ≤ v ∧ v ≤ high) : Ct l K yX6_in cX6_in 3 (some .boolean) 0 0 0 0 [.int v, .int low, .int high] G hs (pI (fun r G' _ => r = nI 1 ∧ G' = G)) jno := by
  refine Ct.ofA hl (by decide) (Nat.le_of_ble_eq_true rfl) (L0 := [some (.int v), some (.int low), some (.int high)]) (jL_of 0 rfl) ?_
  intro A E hE hQ hX hNm
  refine j_iload_n hE (i := 0) dX6_in_0 rfl rfl ?_
  refine j_iload_n hE (i := 1) dX6_in_1 rfl rfl ?_
  refine j_ic_lt hE (tgt := 14) dX6_in_2 (by decide) (fun h2 => ?_) (fun h2 => ?_)
  · exact absurd h2 (Int32.not_lt.mpr h.1)
  · refine j_iload_n hE (i := 0) dX6_in_5 rfl rfl ?_
    refine j_iload_n hE (i := 2) dX6_in_6 rfl rfl ?_
    refine j_ic_gt hE (tgt := 14) dX6_in_7 (by decide) (fun h7 => ?_) (fun h7 => ?_)
    · exact absurd h7 (Int32.not_lt.mpr h.2)
    · refine j_iconst hE (v := nI 1) dX6_in_10 (by decide) ?_
      refine j_goto hE (tgt := 15) dX6_in_11 (by decide) ?_
      refine j_iret hE hQ rfl (by omega) (by omega) dX6_in_15 ?_
      exact ⟨_, rfl, rfl, rfl⟩

set_option maxRecDepth 100000 in
set_option maxHeartbeats 4000000 in
theorem c_X6_in_f {l : Launch} (hl : l.stackTraces = false) (K : jK) (G : GH) (hs : Nat) (v low high : Int32) (h : ¬ (low ≤ v ∧ v ≤ high)) : Ct l K yX6_in cX6_in 3 (some .boolean) 0 0 0 0 [.int v, .int low, .int high] G hs (pI (fun r G' _ => r = nI 0 ∧ G' = G)) jno := by
  refine Ct.ofA hl (by decide) (Nat.le_of_ble_eq_true rfl) (L0 := [some (.int v), some (.int low), some (.int high)]) (jL_of 0 rfl) ?_
  intro A E hE hQ hX hNm
  refine j_iload_n hE (i := 0) dX6_in_0 rfl rfl ?_
  refine j_iload_n hE (i := 1) dX6_in_1 rfl rfl ?_
  refine j_ic_lt hE (tgt := 14) dX6_in_2 (by decide) (fun h2 => ?_) (fun h2 => ?_)
  · refine j_iconst hE (v := nI 0) dX6_in_14 (by decide) ?_
    refine j_iret hE hQ rfl (by omega) (by omega) dX6_in_15 ?_
    exact ⟨_, rfl, rfl, rfl⟩
  · refine j_iload_n hE (i := 0) dX6_in_5 rfl rfl ?_
    refine j_iload_n hE (i := 2) dX6_in_6 rfl rfl ?_
    refine j_ic_gt hE (tgt := 14) dX6_in_7 (by decide) (fun h7 => ?_) (fun h7 => ?_)
    · refine j_iconst hE (v := nI 0) dX6_in_14 (by decide) ?_
      refine j_iret hE hQ rfl (by omega) (by omega) dX6_in_15 ?_
      exact ⟨_, rfl, rfl, rfl⟩
    · exact absurd ⟨Int32.not_lt.mp h2, Int32.not_lt.mp h7⟩ h

set_option maxRecDepth 100000 in
set_option maxHeartbeats 4000000 in
theorem c_X6_searches {l : Launch} (hl : l.stackTraces = false) (K : jK) (F : GH) (h0 hs : Nat) (now past : Nat → Int32) (kept thrown : Int32) (drawn : Nat → Int32) (hash : Int64) : Ct l K yX6_searches cX6_searches 1 none 0 0 0 0 [.ref h0] (gB F h0 (mC K h0 now past kept thrown drawn hash)) hs (pV (fun G' _ => G' = (gB F h0 (mC K h0 (upd (upd (upd (upd now 7 (nI 0)) 15 (nI 0)) 16 (nI 0)) 17 (nI 0)) past kept thrown drawn hash)))) jno := by
  refine Ct.ofA hl (by decide) (Nat.le_of_ble_eq_true rfl) (L0 := [some (.ref h0)]) (jL_of 0 rfl) ?_
  intro A E hE hQ hX hNm
  refine j_aload_n hE (i := 0) dX6_searches_0 rfl rfl ?_
  refine j_get hE flX6_7 gB_0 rfl dX6_searches_1 ?_
  refine j_bipush hE (v := nI 7) dX6_searches_4 (by decide) ?_
  refine j_iconst hE (v := nI 0) dX6_searches_6 (by decide) ?_
  refine b_ast1 hE rfl (by omega) (by decide) dX6_searches_7 ?_
  refine j_aload_n hE (i := 0) dX6_searches_8 rfl rfl ?_
  refine j_get hE flX6_7 gB_0 rfl dX6_searches_9 ?_
  refine j_bipush hE (v := nI 15) dX6_searches_12 (by decide) ?_
  refine j_iconst hE (v := nI 0) dX6_searches_14 (by decide) ?_
  refine b_ast1 hE rfl (by omega) (by decide) dX6_searches_15 ?_
  refine j_aload_n hE (i := 0) dX6_searches_16 rfl rfl ?_
  refine j_get hE flX6_7 gB_0 rfl dX6_searches_17 ?_
  refine j_bipush hE (v := nI 16) dX6_searches_20 (by decide) ?_
  refine j_iconst hE (v := nI 0) dX6_searches_22 (by decide) ?_
  refine b_ast1 hE rfl (by omega) (by decide) dX6_searches_23 ?_
  refine j_aload_n hE (i := 0) dX6_searches_24 rfl rfl ?_
  refine j_get hE flX6_7 gB_0 rfl dX6_searches_25 ?_
  refine j_bipush hE (v := nI 17) dX6_searches_28 (by decide) ?_
  refine j_iconst hE (v := nI 0) dX6_searches_30 (by decide) ?_
  refine b_ast1 hE rfl (by omega) (by decide) dX6_searches_31 ?_
  refine j_vret hE hQ (by omega) (by omega) dX6_searches_32 ?_
  exact ⟨rfl, rfl⟩

def mSear (now : Nat → Int32) : Nat → Int32 := upd (upd (upd (upd now 7 (nI 0)) 15 (nI 0)) 16 (nI 0)) 17 (nI 0)
def mAnew (now : Nat → Int32) : Nat → Int32 := mSear (upd (upd (upd (upd now 3 (nI 0)) 5 (nI 0)) 4 (nI 0)) 8 (nI 0))
set_option maxRecDepth 100000 in
set_option maxHeartbeats 4000000 in
theorem c_X6_beginsAnew {l : Launch} (hl : l.stackTraces = false) (K : jK) (F : GH) (h0 hs : Nat) (now past : Nat → Int32) (kept thrown : Int32) (drawn : Nat → Int32) (hash : Int64) : Ct l K yX6_beginsAnew cX6_beginsAnew 1 none 1 20 0 0 [.ref h0] (gB F h0 (mC K h0 now past kept thrown drawn hash)) hs (pV (fun G' _ => G' = (gB F h0 (mC K h0 (mAnew now) past kept thrown drawn hash)))) jno := by
  refine Ct.ofA hl (by decide) (Nat.le_of_ble_eq_true rfl) (L0 := [some (.ref h0)]) (jL_of 0 rfl) ?_
  intro A E hE hQ hX hNm
  refine j_aload_n hE (i := 0) dX6_beginsAnew_0 rfl rfl ?_
  refine j_get hE flX6_7 gB_0 rfl dX6_beginsAnew_1 ?_
  refine j_iconst hE (v := nI 3) dX6_beginsAnew_4 (by decide) ?_
  refine j_iconst hE (v := nI 0) dX6_beginsAnew_5 (by decide) ?_
  refine b_ast1 hE rfl (by omega) (by decide) dX6_beginsAnew_6 ?_
  refine j_aload_n hE (i := 0) dX6_beginsAnew_7 rfl rfl ?_
  refine j_get hE flX6_7 gB_0 rfl dX6_beginsAnew_8 ?_
  refine j_iconst hE (v := nI 5) dX6_beginsAnew_11 (by decide) ?_
  refine j_iconst hE (v := nI 0) dX6_beginsAnew_12 (by decide) ?_
  refine b_ast1 hE rfl (by omega) (by decide) dX6_beginsAnew_13 ?_
  refine j_aload_n hE (i := 0) dX6_beginsAnew_14 rfl rfl ?_
  refine j_get hE flX6_7 gB_0 rfl dX6_beginsAnew_15 ?_
  refine j_iconst hE (v := nI 4) dX6_beginsAnew_18 (by decide) ?_
  refine j_iconst hE (v := nI 0) dX6_beginsAnew_19 (by decide) ?_
  refine b_ast1 hE rfl (by omega) (by decide) dX6_beginsAnew_20 ?_
  refine j_aload_n hE (i := 0) dX6_beginsAnew_21 rfl rfl ?_
  refine j_get hE flX6_7 gB_0 rfl dX6_beginsAnew_22 ?_
  refine j_bipush hE (v := nI 8) dX6_beginsAnew_25 (by decide) ?_
  refine j_iconst hE (v := nI 0) dX6_beginsAnew_27 (by decide) ?_
  refine b_ast1 hE rfl (by omega) (by decide) dX6_beginsAnew_28 ?_
  refine j_aload_n hE (i := 0) dX6_beginsAnew_29 rfl rfl ?_
  refine j_cVv hE mlX6_30 gB_0 (fun l hl => c_X6_searches hl K F h0 _ _ _ _ _ _ _) rfl rfl (Nat.le_of_ble_eq_true rfl) (by decide) (by decide) (by omega) (by omega) dX6_beginsAnew_30 (fun G9 hs9 hp => ?_) (fun _ _ h => h.elim)
  subst hp
  refine j_vret hE hQ (by omega) (by omega) dX6_beginsAnew_33 ?_
  exact ⟨rfl, rfl⟩

set_option maxRecDepth 100000 in
set_option maxHeartbeats 4000000 in
theorem c_X6_isParameter_t {l : Launch} (hl : l.stackTraces = false) (K : jK) (F : GH) (h0 hs : Nat) (now past : Nat → Int32) (kept thrown : Int32) (drawn : Nat → Int32) (hash : Int64) (n j : Nat) (hn : now 2 = nI n) (hn9 : n ≤ 12) (hj : j < n) : Ct l K yX6_isParameter cX6_isParameter 2 (some .boolean) 1 22 0 0 [.ref h0, .int (nI j)] (gB F h0 (mC K h0 now past kept thrown drawn hash)) hs (pI (fun r G' _ => r = nI 1 ∧ G' = (gB F h0 (mC K h0 now past kept thrown drawn hash)))) jno := by
  refine Ct.ofA hl (by decide) (Nat.le_of_ble_eq_true rfl) (L0 := [some (.ref h0), some (.int (nI j))]) (jL_of 0 rfl) ?_
  intro A E hE hQ hX hNm
  refine j_iload_n hE (i := 1) dX6_isParameter_0 rfl rfl ?_
  refine j_iconst hE (v := nI 0) dX6_isParameter_1 (by decide) ?_
  refine j_aload_n hE (i := 0) dX6_isParameter_2 rfl rfl ?_
  refine j_get hE flX6_7 gB_0 rfl dX6_isParameter_3 ?_
  refine j_iconst hE (v := nI 2) dX6_isParameter_6 (by decide) ?_
  refine j_iald hE gB_1 rfl (by omega) (by decide) dX6_isParameter_7 ?_
  rw [hn]
  refine j_iconst hE (v := nI 1) dX6_isParameter_8 (by decide) ?_
  refine j_isub hE dX6_isParameter_9 ?_
  refine j_cSi hE mlX6_26 (fun l hl => c_X6_in_t hl K _ _ _ _ _ (ix_t hj (by omega))) rfl rfl (Nat.le_of_ble_eq_true rfl) (by decide) (by decide) (by omega) (by omega) dX6_isParameter_10 (fun r G9 hs9 hp => ?_) (fun _ _ h => h.elim)
  obtain ⟨rfl, rfl⟩ := hp
  refine j_iret hE hQ rfl (by omega) (by omega) dX6_isParameter_13 ?_
  exact ⟨_, rfl, rfl, rfl⟩

set_option maxRecDepth 100000 in
set_option maxHeartbeats 4000000 in
theorem c_X6_isParameter_f {l : Launch} (hl : l.stackTraces = false) (K : jK) (F : GH) (h0 hs : Nat) (now past : Nat → Int32) (kept thrown : Int32) (drawn : Nat → Int32) (hash : Int64) (n : Nat) (p : Int32) (hn : now 2 = nI n) (hn9 : n ≤ 12) (hj : ∀ j, j < n → p ≠ nI j) : Ct l K yX6_isParameter cX6_isParameter 2 (some .boolean) 1 22 0 0 [.ref h0, .int p] (gB F h0 (mC K h0 now past kept thrown drawn hash)) hs (pI (fun r G' _ => r = nI 0 ∧ G' = (gB F h0 (mC K h0 now past kept thrown drawn hash)))) jno := by
  refine Ct.ofA hl (by decide) (Nat.le_of_ble_eq_true rfl) (L0 := [some (.ref h0), some (.int p)]) (jL_of 0 rfl) ?_
  intro A E hE hQ hX hNm
  refine j_iload_n hE (i := 1) dX6_isParameter_0 rfl rfl ?_
  refine j_iconst hE (v := nI 0) dX6_isParameter_1 (by decide) ?_
  refine j_aload_n hE (i := 0) dX6_isParameter_2 rfl rfl ?_
  refine j_get hE flX6_7 gB_0 rfl dX6_isParameter_3 ?_
  refine j_iconst hE (v := nI 2) dX6_isParameter_6 (by decide) ?_
  refine j_iald hE gB_1 rfl (by omega) (by decide) dX6_isParameter_7 ?_
  rw [hn]
  refine j_iconst hE (v := nI 1) dX6_isParameter_8 (by decide) ?_
  refine j_isub hE dX6_isParameter_9 ?_
  refine j_cSi hE mlX6_26 (fun l hl => c_X6_in_f hl K _ _ _ _ _ (ix_f hj (by omega))) rfl rfl (Nat.le_of_ble_eq_true rfl) (by decide) (by decide) (by omega) (by omega) dX6_isParameter_10 (fun r G9 hs9 hp => ?_) (fun _ _ h => h.elim)
  obtain ⟨rfl, rfl⟩ := hp
  refine j_iret hE hQ rfl (by omega) (by omega) dX6_isParameter_13 ?_
  exact ⟨_, rfl, rfl, rfl⟩

set_option maxRecDepth 100000 in
set_option maxHeartbeats 4000000 in
theorem c_X6_isBit_t {l : Launch} (hl : l.stackTraces = false) (K : jK) (F : GH) (h0 hs : Nat) (now past : Nat → Int32) (kept thrown : Int32) (drawn : Nat → Int32) (hash : Int64) (n j : Nat) (hn : now 5 = nI n) (hn9 : n ≤ 2048) (hj : j < n) : Ct l K yX6_isBit cX6_isBit 2 (some .boolean) 1 22 0 0 [.ref h0, .int (nI j)] (gB F h0 (mC K h0 now past kept thrown drawn hash)) hs (pI (fun r G' _ => r = nI 1 ∧ G' = (gB F h0 (mC K h0 now past kept thrown drawn hash)))) jno := by
  refine Ct.ofA hl (by decide) (Nat.le_of_ble_eq_true rfl) (L0 := [some (.ref h0), some (.int (nI j))]) (jL_of 0 rfl) ?_
  intro A E hE hQ hX hNm
  refine j_iload_n hE (i := 1) dX6_isBit_0 rfl rfl ?_
  refine j_iconst hE (v := nI 0) dX6_isBit_1 (by decide) ?_
  refine j_aload_n hE (i := 0) dX6_isBit_2 rfl rfl ?_
  refine j_get hE flX6_7 gB_0 rfl dX6_isBit_3 ?_
  refine j_iconst hE (v := nI 5) dX6_isBit_6 (by decide) ?_
  refine j_iald hE gB_1 rfl (by omega) (by decide) dX6_isBit_7 ?_
  rw [hn]
  refine j_iconst hE (v := nI 1) dX6_isBit_8 (by decide) ?_
  refine j_isub hE dX6_isBit_9 ?_
  refine j_cSi hE mlX6_26 (fun l hl => c_X6_in_t hl K _ _ _ _ _ (ix_t hj (by omega))) rfl rfl (Nat.le_of_ble_eq_true rfl) (by decide) (by decide) (by omega) (by omega) dX6_isBit_10 (fun r G9 hs9 hp => ?_) (fun _ _ h => h.elim)
  obtain ⟨rfl, rfl⟩ := hp
  refine j_iret hE hQ rfl (by omega) (by omega) dX6_isBit_13 ?_
  exact ⟨_, rfl, rfl, rfl⟩

set_option maxRecDepth 100000 in
set_option maxHeartbeats 4000000 in
theorem c_X6_isBit_f {l : Launch} (hl : l.stackTraces = false) (K : jK) (F : GH) (h0 hs : Nat) (now past : Nat → Int32) (kept thrown : Int32) (drawn : Nat → Int32) (hash : Int64) (n : Nat) (p : Int32) (hn : now 5 = nI n) (hn9 : n ≤ 2048) (hj : ∀ j, j < n → p ≠ nI j) : Ct l K yX6_isBit cX6_isBit 2 (some .boolean) 1 22 0 0 [.ref h0, .int p] (gB F h0 (mC K h0 now past kept thrown drawn hash)) hs (pI (fun r G' _ => r = nI 0 ∧ G' = (gB F h0 (mC K h0 now past kept thrown drawn hash)))) jno := by
  refine Ct.ofA hl (by decide) (Nat.le_of_ble_eq_true rfl) (L0 := [some (.ref h0), some (.int p)]) (jL_of 0 rfl) ?_
  intro A E hE hQ hX hNm
  refine j_iload_n hE (i := 1) dX6_isBit_0 rfl rfl ?_
  refine j_iconst hE (v := nI 0) dX6_isBit_1 (by decide) ?_
  refine j_aload_n hE (i := 0) dX6_isBit_2 rfl rfl ?_
  refine j_get hE flX6_7 gB_0 rfl dX6_isBit_3 ?_
  refine j_iconst hE (v := nI 5) dX6_isBit_6 (by decide) ?_
  refine j_iald hE gB_1 rfl (by omega) (by decide) dX6_isBit_7 ?_
  rw [hn]
  refine j_iconst hE (v := nI 1) dX6_isBit_8 (by decide) ?_
  refine j_isub hE dX6_isBit_9 ?_
  refine j_cSi hE mlX6_26 (fun l hl => c_X6_in_f hl K _ _ _ _ _ (ix_f hj (by omega))) rfl rfl (Nat.le_of_ble_eq_true rfl) (by decide) (by decide) (by omega) (by omega) dX6_isBit_10 (fun r G9 hs9 hp => ?_) (fun _ _ h => h.elim)
  obtain ⟨rfl, rfl⟩ := hp
  refine j_iret hE hQ rfl (by omega) (by omega) dX6_isBit_13 ?_
  exact ⟨_, rfl, rfl, rfl⟩

set_option maxRecDepth 100000 in
set_option maxHeartbeats 4000000 in
theorem c_X6_pending {l : Launch} (hl : l.stackTraces = false) (K : jK) (F : GH) (h0 hs : Nat) (now past : Nat → Int32) (kept thrown : Int32) (drawn : Nat → Int32) (hash : Int64) : Ct l K yX6_pending cX6_pending 1 (some .int) 0 0 0 0 [.ref h0] (gB F h0 (mC K h0 now past kept thrown drawn hash)) hs (pI (fun r G' _ => r = now 5 ∧ G' = (gB F h0 (mC K h0 now past kept (nI 0) drawn hash)))) jno := by
  refine Ct.ofA hl (by decide) (Nat.le_of_ble_eq_true rfl) (L0 := [some (.ref h0)]) (jL_of 0 rfl) ?_
  intro A E hE hQ hX hNm
  refine j_aload_n hE (i := 0) dX6_pending_0 rfl rfl ?_
  refine j_iconst hE (v := nI 0) dX6_pending_1 (by decide) ?_
  refine b_put3 hE flX6_19 rfl rfl dX6_pending_2 ?_
  refine j_aload_n hE (i := 0) dX6_pending_5 rfl rfl ?_
  refine j_get hE flX6_7 gB_0 rfl dX6_pending_6 ?_
  refine j_iconst hE (v := nI 5) dX6_pending_9 (by decide) ?_
  refine j_iald hE gB_1 rfl (by omega) (by decide) dX6_pending_10 ?_
  refine j_iret hE hQ rfl (by omega) (by omega) dX6_pending_11 ?_
  exact ⟨_, rfl, rfl, rfl⟩

set_option maxRecDepth 100000 in
set_option maxHeartbeats 4000000 in
theorem c_X6_receiverState {l : Launch} (hl : l.stackTraces = false) (K : jK) (F : GH) (h0 hs : Nat) (now past : Nat → Int32) (kept thrown : Int32) (drawn : Nat → Int32) (hash : Int64) : Ct l K yX6_receiverState cX6_receiverState 1 (some .int) 0 0 0 0 [.ref h0] (gB F h0 (mC K h0 now past kept thrown drawn hash)) hs (pI (fun r G' _ => r = now 7 ∧ G' = (gB F h0 (mC K h0 now past kept (nI 0) drawn hash)))) jno := by
  refine Ct.ofA hl (by decide) (Nat.le_of_ble_eq_true rfl) (L0 := [some (.ref h0)]) (jL_of 0 rfl) ?_
  intro A E hE hQ hX hNm
  refine j_aload_n hE (i := 0) dX6_receiverState_0 rfl rfl ?_
  refine j_iconst hE (v := nI 0) dX6_receiverState_1 (by decide) ?_
  refine b_put3 hE flX6_19 rfl rfl dX6_receiverState_2 ?_
  refine j_aload_n hE (i := 0) dX6_receiverState_5 rfl rfl ?_
  refine j_get hE flX6_7 gB_0 rfl dX6_receiverState_6 ?_
  refine j_bipush hE (v := nI 7) dX6_receiverState_9 (by decide) ?_
  refine j_iald hE gB_1 rfl (by omega) (by decide) dX6_receiverState_11 ?_
  refine j_iret hE hQ rfl (by omega) (by omega) dX6_receiverState_12 ?_
  exact ⟨_, rfl, rfl, rfl⟩

set_option maxRecDepth 100000 in
set_option maxHeartbeats 4000000 in
theorem c_X6_ownerAt {l : Launch} (hl : l.stackTraces = false) (K : jK) (F : GH) (h0 hs : Nat) (now past : Nat → Int32) (kept thrown : Int32) (drawn : Nat → Int32) (hash : Int64) (f w : Nat) (hp : 201 + 16 * f + w < 2377) : Ct l K yX6_ownerAt cX6_ownerAt 3 (some .int) 0 0 0 0 [.ref h0, .int (nI f), .int (nI w)] (gB F h0 (mC K h0 now past kept thrown drawn hash)) hs (pI (fun r G' _ => r = now (201 + 16 * f + w) ∧ G' = (gB F h0 (mC K h0 now past kept thrown drawn hash)))) jno := by
  refine Ct.ofA hl (by decide) (Nat.le_of_ble_eq_true rfl) (L0 := [some (.ref h0), some (.int (nI f)), some (.int (nI w))]) (jL_of 0 rfl) ?_
  intro A E hE hQ hX hNm
  refine j_aload_n hE (i := 0) dX6_ownerAt_0 rfl rfl ?_
  refine j_get hE flX6_7 gB_0 rfl dX6_ownerAt_1 ?_
  refine j_sipush hE (v := nI 201) dX6_ownerAt_4 (by decide) ?_
  refine j_bipush hE (v := nI 16) dX6_ownerAt_7 (by decide) ?_
  refine j_iload_n hE (i := 1) dX6_ownerAt_9 rfl rfl ?_
  refine j_imulN hE dX6_ownerAt_10 ?_
  refine j_iaddN hE dX6_ownerAt_11 ?_
  refine j_iload_n hE (i := 2) dX6_ownerAt_12 rfl rfl ?_
  refine j_iaddN hE dX6_ownerAt_13 ?_
  refine j_iald hE gB_1 rfl (by omega) (by decide) dX6_ownerAt_14 ?_
  refine j_iret hE hQ rfl (by omega) (by omega) dX6_ownerAt_15 ?_
  exact ⟨_, rfl, rfl, rfl⟩

set_option maxRecDepth 100000 in
set_option maxHeartbeats 4000000 in
theorem c_X6_bit_t {l : Launch} (hl : l.stackTraces = false) (K : jK) (F : GH) (h0 hs : Nat) (now past : Nat → Int32) (kept thrown : Int32) (drawn : Nat → Int32) (hash : Int64) (n j : Nat) (hn : now 5 = nI n) (hn9 : n ≤ 2048) (hj : j < n) : Ct l K yX6_bit cX6_bit 2 (some .int) 2 43 0 0 [.ref h0, .int (nI j)] (gB F h0 (mC K h0 now past kept thrown drawn hash)) hs (pI (fun r G' _ => r = now (329 + j) ∧ G' = (gB F h0 (mC K h0 now past kept (nI 0) drawn hash)))) jno := by
  refine Ct.ofA hl (by decide) (Nat.le_of_ble_eq_true rfl) (L0 := [some (.ref h0), some (.int (nI j))]) (jL_of 0 rfl) ?_
  intro A E hE hQ hX hNm
  refine j_aload_n hE (i := 0) dX6_bit_0 rfl rfl ?_
  refine j_aload_n hE (i := 0) dX6_bit_1 rfl rfl ?_
  refine j_iload_n hE (i := 1) dX6_bit_2 rfl rfl ?_
  refine j_cVi hE mlX6_91 gB_0 (fun l hl => c_X6_isBit_t hl K F h0 _ _ _ _ _ _ _ n _ hn hn9 hj) rfl rfl (Nat.le_of_ble_eq_true rfl) (by decide) (by decide) (by omega) (by omega) dX6_bit_3 (fun r G9 hs9 hp => ?_) (fun _ _ h => h.elim)
  obtain ⟨rfl, rfl⟩ := hp
  refine j_if_eqN hE (tgt := 13) dX6_bit_6 (by decide) (by omega) (fun h6 => ?_) (fun h6 => ?_)
  · exfalso; omega
  · refine j_iconst hE (v := nI 0) dX6_bit_9 (by decide) ?_
    refine j_goto hE (tgt := 14) dX6_bit_10 (by decide) ?_
    refine b_put3 hE flX6_19 rfl rfl dX6_bit_14 ?_
    refine j_aload_n hE (i := 0) dX6_bit_17 rfl rfl ?_
    refine j_get hE flX6_19 gB_0 rfl dX6_bit_18 ?_
    refine j_if_eqN hE (tgt := 28) dX6_bit_21 (by decide) (by omega) (fun h21 => ?_) (fun h21 => ?_)
    · refine j_aload_n hE (i := 0) dX6_bit_28 rfl rfl ?_
      refine j_get hE flX6_7 gB_0 rfl dX6_bit_29 ?_
      refine j_sipush hE (v := nI 329) dX6_bit_32 (by decide) ?_
      refine j_iload_n hE (i := 1) dX6_bit_35 rfl rfl ?_
      refine j_iaddN hE dX6_bit_36 ?_
      refine j_iald hE gB_1 rfl (by omega) (by decide) dX6_bit_37 ?_
      refine j_iret hE hQ rfl (by omega) (by omega) dX6_bit_38 ?_
      exact ⟨_, rfl, rfl, rfl⟩
    · exfalso; omega

set_option maxRecDepth 100000 in
set_option maxHeartbeats 4000000 in
theorem c_X6_bit_f {l : Launch} (hl : l.stackTraces = false) (K : jK) (F : GH) (h0 hs : Nat) (now past : Nat → Int32) (kept thrown : Int32) (drawn : Nat → Int32) (hash : Int64) (n : Nat) (p : Int32) (hn : now 5 = nI n) (hn9 : n ≤ 2048) (hj : ∀ j, j < n → p ≠ nI j) : Ct l K yX6_bit cX6_bit 2 (some .int) 2 43 0 0 [.ref h0, .int p] (gB F h0 (mC K h0 now past kept thrown drawn hash)) hs (pI (fun r G' _ => r = nI 0 ∧ G' = (gB F h0 (mC K h0 now past kept (nI 1) drawn hash)))) jno := by
  refine Ct.ofA hl (by decide) (Nat.le_of_ble_eq_true rfl) (L0 := [some (.ref h0), some (.int p)]) (jL_of 0 rfl) ?_
  intro A E hE hQ hX hNm
  refine j_aload_n hE (i := 0) dX6_bit_0 rfl rfl ?_
  refine j_aload_n hE (i := 0) dX6_bit_1 rfl rfl ?_
  refine j_iload_n hE (i := 1) dX6_bit_2 rfl rfl ?_
  refine j_cVi hE mlX6_91 gB_0 (fun l hl => c_X6_isBit_f hl K F h0 _ _ _ _ _ _ _ n _ hn hn9 hj) rfl rfl (Nat.le_of_ble_eq_true rfl) (by decide) (by decide) (by omega) (by omega) dX6_bit_3 (fun r G9 hs9 hp => ?_) (fun _ _ h => h.elim)
  obtain ⟨rfl, rfl⟩ := hp
  refine j_if_eqN hE (tgt := 13) dX6_bit_6 (by decide) (by omega) (fun h6 => ?_) (fun h6 => ?_)
  · refine j_iconst hE (v := nI 1) dX6_bit_13 (by decide) ?_
    refine b_put3 hE flX6_19 rfl rfl dX6_bit_14 ?_
    refine j_aload_n hE (i := 0) dX6_bit_17 rfl rfl ?_
    refine j_get hE flX6_19 gB_0 rfl dX6_bit_18 ?_
    refine j_if_eqN hE (tgt := 28) dX6_bit_21 (by decide) (by omega) (fun h21 => ?_) (fun h21 => ?_)
    · exfalso; omega
    · refine j_iconst hE (v := nI 0) dX6_bit_24 (by decide) ?_
      refine j_goto hE (tgt := 38) dX6_bit_25 (by decide) ?_
      refine j_iret hE hQ rfl (by omega) (by omega) dX6_bit_38 ?_
      exact ⟨_, rfl, rfl, rfl⟩
  · exfalso; omega

set_option maxRecDepth 100000 in
set_option maxHeartbeats 4000000 in
theorem c_X6_received_t {l : Launch} (hl : l.stackTraces = false) (K : jK) (F : GH) (h0 hs : Nat) (now past : Nat → Int32) (kept thrown : Int32) (drawn : Nat → Int32) (hash : Int64) (j : Nat) (hj : j ≤ 5) : Ct l K yX6_received cX6_received 2 (some .int) 1 22 0 0 [.ref h0, .int (nI j)] (gB F h0 (mC K h0 now past kept thrown drawn hash)) hs (pI (fun r G' _ => r = now (9 + j) ∧ G' = (gB F h0 (mC K h0 now past kept (nI 0) drawn hash)))) jno := by
  refine Ct.ofA hl (by decide) (Nat.le_of_ble_eq_true rfl) (L0 := [some (.ref h0), some (.int (nI j))]) (jL_of 0 rfl) ?_
  intro A E hE hQ hX hNm
  refine j_aload_n hE (i := 0) dX6_received_0 rfl rfl ?_
  refine j_iload_n hE (i := 1) dX6_received_1 rfl rfl ?_
  refine j_iconst hE (v := nI 0) dX6_received_2 (by decide) ?_
  refine j_iconst hE (v := nI 5) dX6_received_3 (by decide) ?_
  refine j_cSi hE mlX6_26 (fun l hl => c_X6_in_t hl K _ _ _ _ _ (rg_t (Nat.zero_le _) hj (by decide))) rfl rfl (Nat.le_of_ble_eq_true rfl) (by decide) (by decide) (by omega) (by omega) dX6_received_4 (fun r G9 hs9 hp => ?_) (fun _ _ h => h.elim)
  obtain ⟨rfl, rfl⟩ := hp
  refine j_if_eqN hE (tgt := 14) dX6_received_7 (by decide) (by omega) (fun h7 => ?_) (fun h7 => ?_)
  · exfalso; omega
  · refine j_iconst hE (v := nI 0) dX6_received_10 (by decide) ?_
    refine j_goto hE (tgt := 15) dX6_received_11 (by decide) ?_
    refine b_put3 hE flX6_19 rfl rfl dX6_received_15 ?_
    refine j_aload_n hE (i := 0) dX6_received_18 rfl rfl ?_
    refine j_get hE flX6_19 gB_0 rfl dX6_received_19 ?_
    refine j_if_eqN hE (tgt := 29) dX6_received_22 (by decide) (by omega) (fun h22 => ?_) (fun h22 => ?_)
    · refine j_aload_n hE (i := 0) dX6_received_29 rfl rfl ?_
      refine j_get hE flX6_7 gB_0 rfl dX6_received_30 ?_
      refine j_bipush hE (v := nI 9) dX6_received_33 (by decide) ?_
      refine j_iload_n hE (i := 1) dX6_received_35 rfl rfl ?_
      refine j_iaddN hE dX6_received_36 ?_
      refine j_iald hE gB_1 rfl (by omega) (by decide) dX6_received_37 ?_
      refine j_iret hE hQ rfl (by omega) (by omega) dX6_received_38 ?_
      exact ⟨_, rfl, rfl, rfl⟩
    · exfalso; omega

set_option maxRecDepth 100000 in
set_option maxHeartbeats 4000000 in
theorem c_X6_received_f {l : Launch} (hl : l.stackTraces = false) (K : jK) (F : GH) (h0 hs : Nat) (now past : Nat → Int32) (kept thrown : Int32) (drawn : Nat → Int32) (hash : Int64) (p : Int32) (hj : ∀ j, 0 ≤ j → j ≤ 5 → p ≠ nI j) : Ct l K yX6_received cX6_received 2 (some .int) 1 22 0 0 [.ref h0, .int p] (gB F h0 (mC K h0 now past kept thrown drawn hash)) hs (pI (fun r G' _ => r = nI 0 ∧ G' = (gB F h0 (mC K h0 now past kept (nI 1) drawn hash)))) jno := by
  refine Ct.ofA hl (by decide) (Nat.le_of_ble_eq_true rfl) (L0 := [some (.ref h0), some (.int p)]) (jL_of 0 rfl) ?_
  intro A E hE hQ hX hNm
  refine j_aload_n hE (i := 0) dX6_received_0 rfl rfl ?_
  refine j_iload_n hE (i := 1) dX6_received_1 rfl rfl ?_
  refine j_iconst hE (v := nI 0) dX6_received_2 (by decide) ?_
  refine j_iconst hE (v := nI 5) dX6_received_3 (by decide) ?_
  refine j_cSi hE mlX6_26 (fun l hl => c_X6_in_f hl K _ _ _ _ _ (rg_f hj (by decide) (by decide))) rfl rfl (Nat.le_of_ble_eq_true rfl) (by decide) (by decide) (by omega) (by omega) dX6_received_4 (fun r G9 hs9 hp => ?_) (fun _ _ h => h.elim)
  obtain ⟨rfl, rfl⟩ := hp
  refine j_if_eqN hE (tgt := 14) dX6_received_7 (by decide) (by omega) (fun h7 => ?_) (fun h7 => ?_)
  · refine j_iconst hE (v := nI 1) dX6_received_14 (by decide) ?_
    refine b_put3 hE flX6_19 rfl rfl dX6_received_15 ?_
    refine j_aload_n hE (i := 0) dX6_received_18 rfl rfl ?_
    refine j_get hE flX6_19 gB_0 rfl dX6_received_19 ?_
    refine j_if_eqN hE (tgt := 29) dX6_received_22 (by decide) (by omega) (fun h22 => ?_) (fun h22 => ?_)
    · exfalso; omega
    · refine j_iconst hE (v := nI 0) dX6_received_25 (by decide) ?_
      refine j_goto hE (tgt := 38) dX6_received_26 (by decide) ?_
      refine j_iret hE hQ rfl (by omega) (by omega) dX6_received_38 ?_
      exact ⟨_, rfl, rfl, rfl⟩
  · exfalso; omega

set_option maxRecDepth 100000 in
set_option maxHeartbeats 4000000 in
theorem c_X6_tells_t {l : Launch} (hl : l.stackTraces = false) (K : jK) (F : GH) (h0 hs : Nat) (now past : Nat → Int32) (kept thrown : Int32) (drawn : Nat → Int32) (hash : Int64) (n j : Nat) (hn : now 2 = nI n) (hn9 : n ≤ 12) (hj : j < n) (w : Nat) (hw : w < 14) : Ct l K yX6_tells cX6_tells 3 (some .int) 2 43 0 0 [.ref h0, .int (nI j), .int (nI w)] (gB F h0 (mC K h0 now past kept thrown drawn hash)) hs (pI (fun r G' _ => r = now (33 + 14 * j + w) ∧ G' = (gB F h0 (mC K h0 now past kept (nI 0) drawn hash)))) jno := by
  refine Ct.ofA hl (by decide) (Nat.le_of_ble_eq_true rfl) (L0 := [some (.ref h0), some (.int (nI j)), some (.int (nI w))]) (jL_of 0 rfl) ?_
  intro A E hE hQ hX hNm
  refine j_aload_n hE (i := 0) dX6_tells_0 rfl rfl ?_
  refine j_aload_n hE (i := 0) dX6_tells_1 rfl rfl ?_
  refine j_iload_n hE (i := 1) dX6_tells_2 rfl rfl ?_
  refine j_cVi hE mlX6_75 gB_0 (fun l hl => c_X6_isParameter_t hl K F h0 _ _ _ _ _ _ _ n _ hn hn9 hj) rfl rfl (Nat.le_of_ble_eq_true rfl) (by decide) (by decide) (by omega) (by omega) dX6_tells_3 (fun r G9 hs9 hp => ?_) (fun _ _ h => h.elim)
  obtain ⟨rfl, rfl⟩ := hp
  refine j_if_eqN hE (tgt := 13) dX6_tells_6 (by decide) (by omega) (fun h6 => ?_) (fun h6 => ?_)
  · exfalso; omega
  · refine j_iconst hE (v := nI 0) dX6_tells_9 (by decide) ?_
    refine j_goto hE (tgt := 14) dX6_tells_10 (by decide) ?_
    refine b_put3 hE flX6_19 rfl rfl dX6_tells_14 ?_
    refine j_aload_n hE (i := 0) dX6_tells_17 rfl rfl ?_
    refine j_get hE flX6_19 gB_0 rfl dX6_tells_18 ?_
    refine j_if_eqN hE (tgt := 28) dX6_tells_21 (by decide) (by omega) (fun h21 => ?_) (fun h21 => ?_)
    · refine j_aload_n hE (i := 0) dX6_tells_28 rfl rfl ?_
      refine j_iload_n hE (i := 1) dX6_tells_29 rfl rfl ?_
      refine j_iload_n hE (i := 2) dX6_tells_30 rfl rfl ?_
      refine j_cVi hE mlX6_43 gB_0 (fun l hl => c_X6_of hl K F h0 _ _ _ _ _ _ _ _ _ (by omega)) rfl rfl (Nat.le_of_ble_eq_true rfl) (by decide) (by decide) (by omega) (by omega) dX6_tells_31 (fun r G9 hs9 hp => ?_) (fun _ _ h => h.elim)
      obtain ⟨rfl, rfl⟩ := hp
      refine j_iret hE hQ rfl (by omega) (by omega) dX6_tells_34 ?_
      exact ⟨_, rfl, rfl, rfl⟩
    · exfalso; omega

set_option maxRecDepth 100000 in
set_option maxHeartbeats 4000000 in
theorem c_X6_tells_f {l : Launch} (hl : l.stackTraces = false) (K : jK) (F : GH) (h0 hs : Nat) (now past : Nat → Int32) (kept thrown : Int32) (drawn : Nat → Int32) (hash : Int64) (n : Nat) (p : Int32) (hn : now 2 = nI n) (hn9 : n ≤ 12) (hj : ∀ j, j < n → p ≠ nI j) (w : Nat) (hw : w < 14) : Ct l K yX6_tells cX6_tells 3 (some .int) 2 43 0 0 [.ref h0, .int p, .int (nI w)] (gB F h0 (mC K h0 now past kept thrown drawn hash)) hs (pI (fun r G' _ => r = nI 0 ∧ G' = (gB F h0 (mC K h0 now past kept (nI 1) drawn hash)))) jno := by
  refine Ct.ofA hl (by decide) (Nat.le_of_ble_eq_true rfl) (L0 := [some (.ref h0), some (.int p), some (.int (nI w))]) (jL_of 0 rfl) ?_
  intro A E hE hQ hX hNm
  refine j_aload_n hE (i := 0) dX6_tells_0 rfl rfl ?_
  refine j_aload_n hE (i := 0) dX6_tells_1 rfl rfl ?_
  refine j_iload_n hE (i := 1) dX6_tells_2 rfl rfl ?_
  refine j_cVi hE mlX6_75 gB_0 (fun l hl => c_X6_isParameter_f hl K F h0 _ _ _ _ _ _ _ n _ hn hn9 hj) rfl rfl (Nat.le_of_ble_eq_true rfl) (by decide) (by decide) (by omega) (by omega) dX6_tells_3 (fun r G9 hs9 hp => ?_) (fun _ _ h => h.elim)
  obtain ⟨rfl, rfl⟩ := hp
  refine j_if_eqN hE (tgt := 13) dX6_tells_6 (by decide) (by omega) (fun h6 => ?_) (fun h6 => ?_)
  · refine j_iconst hE (v := nI 1) dX6_tells_13 (by decide) ?_
    refine b_put3 hE flX6_19 rfl rfl dX6_tells_14 ?_
    refine j_aload_n hE (i := 0) dX6_tells_17 rfl rfl ?_
    refine j_get hE flX6_19 gB_0 rfl dX6_tells_18 ?_
    refine j_if_eqN hE (tgt := 28) dX6_tells_21 (by decide) (by omega) (fun h21 => ?_) (fun h21 => ?_)
    · exfalso; omega
    · refine j_iconst hE (v := nI 0) dX6_tells_24 (by decide) ?_
      refine j_goto hE (tgt := 34) dX6_tells_25 (by decide) ?_
      refine j_iret hE hQ rfl (by omega) (by omega) dX6_tells_34 ?_
      exact ⟨_, rfl, rfl, rfl⟩
  · exfalso; omega

set_option maxRecDepth 100000 in
set_option maxHeartbeats 4000000 in
theorem c_X6_sample_t {l : Launch} (hl : l.stackTraces = false) (K : jK) (F : GH) (h0 hs : Nat) (now past : Nat → Int32) (kept thrown : Int32) (drawn : Nat → Int32) (hash : Int64) (n j : Nat) (hn : now 2 = nI n) (hn9 : n ≤ 12) (hj : j < n) : Ct l K yX6_sample cX6_sample 2 (some .int) 3 65 0 0 [.ref h0, .int (nI j)] (gB F h0 (mC K h0 now past kept thrown drawn hash)) hs (pI (fun r G' _ => r = now (33 + 14 * j + 2) ∧ G' = (gB F h0 (mC K h0 now past kept (nI 0) drawn hash)))) jno := by
  refine Ct.ofA hl (by decide) (Nat.le_of_ble_eq_true rfl) (L0 := [some (.ref h0), some (.int (nI j))]) (jL_of 0 rfl) ?_
  intro A E hE hQ hX hNm
  refine j_aload_n hE (i := 0) dX6_sample_0 rfl rfl ?_
  refine j_iload_n hE (i := 1) dX6_sample_1 rfl rfl ?_
  refine j_iconst hE (v := nI 2) dX6_sample_2 (by decide) ?_
  refine j_cVi hE mlX6_125 gB_0 (fun l hl => c_X6_tells_t hl K F h0 _ _ _ _ _ _ _ n _ hn hn9 hj _ (by decide)) rfl rfl (Nat.le_of_ble_eq_true rfl) (by decide) (by decide) (by omega) (by omega) dX6_sample_3 (fun r G9 hs9 hp => ?_) (fun _ _ h => h.elim)
  obtain ⟨rfl, rfl⟩ := hp
  refine j_iret hE hQ rfl (by omega) (by omega) dX6_sample_6 ?_
  exact ⟨_, rfl, rfl, rfl⟩

set_option maxRecDepth 100000 in
set_option maxHeartbeats 4000000 in
theorem c_X6_sample_f {l : Launch} (hl : l.stackTraces = false) (K : jK) (F : GH) (h0 hs : Nat) (now past : Nat → Int32) (kept thrown : Int32) (drawn : Nat → Int32) (hash : Int64) (n : Nat) (p : Int32) (hn : now 2 = nI n) (hn9 : n ≤ 12) (hj : ∀ j, j < n → p ≠ nI j) : Ct l K yX6_sample cX6_sample 2 (some .int) 3 65 0 0 [.ref h0, .int p] (gB F h0 (mC K h0 now past kept thrown drawn hash)) hs (pI (fun r G' _ => r = nI 0 ∧ G' = (gB F h0 (mC K h0 now past kept (nI 1) drawn hash)))) jno := by
  refine Ct.ofA hl (by decide) (Nat.le_of_ble_eq_true rfl) (L0 := [some (.ref h0), some (.int p)]) (jL_of 0 rfl) ?_
  intro A E hE hQ hX hNm
  refine j_aload_n hE (i := 0) dX6_sample_0 rfl rfl ?_
  refine j_iload_n hE (i := 1) dX6_sample_1 rfl rfl ?_
  refine j_iconst hE (v := nI 2) dX6_sample_2 (by decide) ?_
  refine j_cVi hE mlX6_125 gB_0 (fun l hl => c_X6_tells_f hl K F h0 _ _ _ _ _ _ _ n _ hn hn9 hj _ (by decide)) rfl rfl (Nat.le_of_ble_eq_true rfl) (by decide) (by decide) (by omega) (by omega) dX6_sample_3 (fun r G9 hs9 hp => ?_) (fun _ _ h => h.elim)
  obtain ⟨rfl, rfl⟩ := hp
  refine j_iret hE hQ rfl (by omega) (by omega) dX6_sample_6 ?_
  exact ⟨_, rfl, rfl, rfl⟩

set_option maxRecDepth 100000 in
set_option maxHeartbeats 4000000 in
theorem c_X6_samples_t {l : Launch} (hl : l.stackTraces = false) (K : jK) (F : GH) (h0 hs : Nat) (now past : Nat → Int32) (kept thrown : Int32) (drawn : Nat → Int32) (hash : Int64) (n j : Nat) (hn : now 2 = nI n) (hn9 : n ≤ 12) (hj : j < n) : Ct l K yX6_samples cX6_samples 2 (some .int) 3 65 0 0 [.ref h0, .int (nI j)] (gB F h0 (mC K h0 now past kept thrown drawn hash)) hs (pI (fun r G' _ => r = now (33 + 14 * j + 3) ∧ G' = (gB F h0 (mC K h0 now past kept (nI 0) drawn hash)))) jno := by
  refine Ct.ofA hl (by decide) (Nat.le_of_ble_eq_true rfl) (L0 := [some (.ref h0), some (.int (nI j))]) (jL_of 0 rfl) ?_
  intro A E hE hQ hX hNm
  refine j_aload_n hE (i := 0) dX6_samples_0 rfl rfl ?_
  refine j_iload_n hE (i := 1) dX6_samples_1 rfl rfl ?_
  refine j_iconst hE (v := nI 3) dX6_samples_2 (by decide) ?_
  refine j_cVi hE mlX6_125 gB_0 (fun l hl => c_X6_tells_t hl K F h0 _ _ _ _ _ _ _ n _ hn hn9 hj _ (by decide)) rfl rfl (Nat.le_of_ble_eq_true rfl) (by decide) (by decide) (by omega) (by omega) dX6_samples_3 (fun r G9 hs9 hp => ?_) (fun _ _ h => h.elim)
  obtain ⟨rfl, rfl⟩ := hp
  refine j_iret hE hQ rfl (by omega) (by omega) dX6_samples_6 ?_
  exact ⟨_, rfl, rfl, rfl⟩

set_option maxRecDepth 100000 in
set_option maxHeartbeats 4000000 in
theorem c_X6_samples_f {l : Launch} (hl : l.stackTraces = false) (K : jK) (F : GH) (h0 hs : Nat) (now past : Nat → Int32) (kept thrown : Int32) (drawn : Nat → Int32) (hash : Int64) (n : Nat) (p : Int32) (hn : now 2 = nI n) (hn9 : n ≤ 12) (hj : ∀ j, j < n → p ≠ nI j) : Ct l K yX6_samples cX6_samples 2 (some .int) 3 65 0 0 [.ref h0, .int p] (gB F h0 (mC K h0 now past kept thrown drawn hash)) hs (pI (fun r G' _ => r = nI 0 ∧ G' = (gB F h0 (mC K h0 now past kept (nI 1) drawn hash)))) jno := by
  refine Ct.ofA hl (by decide) (Nat.le_of_ble_eq_true rfl) (L0 := [some (.ref h0), some (.int p)]) (jL_of 0 rfl) ?_
  intro A E hE hQ hX hNm
  refine j_aload_n hE (i := 0) dX6_samples_0 rfl rfl ?_
  refine j_iload_n hE (i := 1) dX6_samples_1 rfl rfl ?_
  refine j_iconst hE (v := nI 3) dX6_samples_2 (by decide) ?_
  refine j_cVi hE mlX6_125 gB_0 (fun l hl => c_X6_tells_f hl K F h0 _ _ _ _ _ _ _ n _ hn hn9 hj _ (by decide)) rfl rfl (Nat.le_of_ble_eq_true rfl) (by decide) (by decide) (by omega) (by omega) dX6_samples_3 (fun r G9 hs9 hp => ?_) (fun _ _ h => h.elim)
  obtain ⟨rfl, rfl⟩ := hp
  refine j_iret hE hQ rfl (by omega) (by omega) dX6_samples_6 ?_
  exact ⟨_, rfl, rfl, rfl⟩

set_option maxRecDepth 100000 in
set_option maxHeartbeats 4000000 in
theorem c_X6_alarms_t {l : Launch} (hl : l.stackTraces = false) (K : jK) (F : GH) (h0 hs : Nat) (now past : Nat → Int32) (kept thrown : Int32) (drawn : Nat → Int32) (hash : Int64) (n j : Nat) (hn : now 2 = nI n) (hn9 : n ≤ 12) (hj : j < n) : Ct l K yX6_alarms cX6_alarms 2 (some .int) 3 65 0 0 [.ref h0, .int (nI j)] (gB F h0 (mC K h0 now past kept thrown drawn hash)) hs (pI (fun r G' _ => r = now (33 + 14 * j + 13) ∧ G' = (gB F h0 (mC K h0 now past kept (nI 0) drawn hash)))) jno := by
  refine Ct.ofA hl (by decide) (Nat.le_of_ble_eq_true rfl) (L0 := [some (.ref h0), some (.int (nI j))]) (jL_of 0 rfl) ?_
  intro A E hE hQ hX hNm
  refine j_aload_n hE (i := 0) dX6_alarms_0 rfl rfl ?_
  refine j_iload_n hE (i := 1) dX6_alarms_1 rfl rfl ?_
  refine j_bipush hE (v := nI 13) dX6_alarms_2 (by decide) ?_
  refine j_cVi hE mlX6_125 gB_0 (fun l hl => c_X6_tells_t hl K F h0 _ _ _ _ _ _ _ n _ hn hn9 hj _ (by decide)) rfl rfl (Nat.le_of_ble_eq_true rfl) (by decide) (by decide) (by omega) (by omega) dX6_alarms_4 (fun r G9 hs9 hp => ?_) (fun _ _ h => h.elim)
  obtain ⟨rfl, rfl⟩ := hp
  refine j_iret hE hQ rfl (by omega) (by omega) dX6_alarms_7 ?_
  exact ⟨_, rfl, rfl, rfl⟩

set_option maxRecDepth 100000 in
set_option maxHeartbeats 4000000 in
theorem c_X6_alarms_f {l : Launch} (hl : l.stackTraces = false) (K : jK) (F : GH) (h0 hs : Nat) (now past : Nat → Int32) (kept thrown : Int32) (drawn : Nat → Int32) (hash : Int64) (n : Nat) (p : Int32) (hn : now 2 = nI n) (hn9 : n ≤ 12) (hj : ∀ j, j < n → p ≠ nI j) : Ct l K yX6_alarms cX6_alarms 2 (some .int) 3 65 0 0 [.ref h0, .int p] (gB F h0 (mC K h0 now past kept thrown drawn hash)) hs (pI (fun r G' _ => r = nI 0 ∧ G' = (gB F h0 (mC K h0 now past kept (nI 1) drawn hash)))) jno := by
  refine Ct.ofA hl (by decide) (Nat.le_of_ble_eq_true rfl) (L0 := [some (.ref h0), some (.int p)]) (jL_of 0 rfl) ?_
  intro A E hE hQ hX hNm
  refine j_aload_n hE (i := 0) dX6_alarms_0 rfl rfl ?_
  refine j_iload_n hE (i := 1) dX6_alarms_1 rfl rfl ?_
  refine j_bipush hE (v := nI 13) dX6_alarms_2 (by decide) ?_
  refine j_cVi hE mlX6_125 gB_0 (fun l hl => c_X6_tells_f hl K F h0 _ _ _ _ _ _ _ n _ hn hn9 hj _ (by decide)) rfl rfl (Nat.le_of_ble_eq_true rfl) (by decide) (by decide) (by omega) (by omega) dX6_alarms_4 (fun r G9 hs9 hp => ?_) (fun _ _ h => h.elim)
  obtain ⟨rfl, rfl⟩ := hp
  refine j_iret hE hQ rfl (by omega) (by omega) dX6_alarms_7 ?_
  exact ⟨_, rfl, rfl, rfl⟩

set_option maxRecDepth 100000 in
set_option maxHeartbeats 4000000 in
theorem c_X6_hasAlarm_t {l : Launch} (hl : l.stackTraces = false) (K : jK) (F : GH) (h0 hs : Nat) (now past : Nat → Int32) (kept thrown : Int32) (drawn : Nat → Int32) (hash : Int64) (n j : Nat) (hn : now 2 = nI n) (hn9 : n ≤ 12) (hj : j < n) (b : Bool) (hb : now (33 + 14 * j + 11) = jb b) : Ct l K yX6_hasAlarm cX6_hasAlarm 2 (some .boolean) 3 65 0 0 [.ref h0, .int (nI j)] (gB F h0 (mC K h0 now past kept thrown drawn hash)) hs (pI (fun r G' _ => r = jb b ∧ G' = (gB F h0 (mC K h0 now past kept (nI 0) drawn hash)))) jno := by
  refine Ct.ofA hl (by decide) (Nat.le_of_ble_eq_true rfl) (L0 := [some (.ref h0), some (.int (nI j))]) (jL_of 0 rfl) ?_
  intro A E hE hQ hX hNm
  refine j_aload_n hE (i := 0) dX6_hasAlarm_0 rfl rfl ?_
  refine j_iload_n hE (i := 1) dX6_hasAlarm_1 rfl rfl ?_
  refine j_bipush hE (v := nI 11) dX6_hasAlarm_2 (by decide) ?_
  refine j_cVi hE mlX6_125 gB_0 (fun l hl => c_X6_tells_t hl K F h0 _ _ _ _ _ _ _ n _ hn hn9 hj _ (by decide)) rfl rfl (Nat.le_of_ble_eq_true rfl) (by decide) (by decide) (by omega) (by omega) dX6_hasAlarm_4 (fun r G9 hs9 hp => ?_) (fun _ _ h => h.elim)
  obtain ⟨rfl, rfl⟩ := hp
  rw [hb]
  refine j_iconst hE (v := nI 1) dX6_hasAlarm_7 (by decide) ?_
  refine j_ic_ne hE (tgt := 15) dX6_hasAlarm_8 (by decide) (fun h8 => ?_) (fun h8 => ?_)
  · have e : b = false := by cases b <;> first | rfl | exact absurd rfl h8
    subst e
    refine j_iconst hE (v := nI 0) dX6_hasAlarm_15 (by decide) ?_
    refine j_iret hE hQ rfl (by omega) (by omega) dX6_hasAlarm_16 ?_
    exact ⟨_, rfl, rfl, rfl⟩
  · have e : b = true := by cases b <;> first | rfl | exact absurd h8 (by decide)
    subst e
    refine j_iconst hE (v := nI 1) dX6_hasAlarm_11 (by decide) ?_
    refine j_goto hE (tgt := 16) dX6_hasAlarm_12 (by decide) ?_
    refine j_iret hE hQ rfl (by omega) (by omega) dX6_hasAlarm_16 ?_
    exact ⟨_, rfl, rfl, rfl⟩

set_option maxRecDepth 100000 in
set_option maxHeartbeats 4000000 in
theorem c_X6_hasAlarm_f {l : Launch} (hl : l.stackTraces = false) (K : jK) (F : GH) (h0 hs : Nat) (now past : Nat → Int32) (kept thrown : Int32) (drawn : Nat → Int32) (hash : Int64) (n : Nat) (p : Int32) (hn : now 2 = nI n) (hn9 : n ≤ 12) (hj : ∀ j, j < n → p ≠ nI j) : Ct l K yX6_hasAlarm cX6_hasAlarm 2 (some .boolean) 3 65 0 0 [.ref h0, .int p] (gB F h0 (mC K h0 now past kept thrown drawn hash)) hs (pI (fun r G' _ => r = nI 0 ∧ G' = (gB F h0 (mC K h0 now past kept (nI 1) drawn hash)))) jno := by
  refine Ct.ofA hl (by decide) (Nat.le_of_ble_eq_true rfl) (L0 := [some (.ref h0), some (.int p)]) (jL_of 0 rfl) ?_
  intro A E hE hQ hX hNm
  refine j_aload_n hE (i := 0) dX6_hasAlarm_0 rfl rfl ?_
  refine j_iload_n hE (i := 1) dX6_hasAlarm_1 rfl rfl ?_
  refine j_bipush hE (v := nI 11) dX6_hasAlarm_2 (by decide) ?_
  refine j_cVi hE mlX6_125 gB_0 (fun l hl => c_X6_tells_f hl K F h0 _ _ _ _ _ _ _ n _ hn hn9 hj _ (by decide)) rfl rfl (Nat.le_of_ble_eq_true rfl) (by decide) (by decide) (by omega) (by omega) dX6_hasAlarm_4 (fun r G9 hs9 hp => ?_) (fun _ _ h => h.elim)
  obtain ⟨rfl, rfl⟩ := hp
  refine j_iconst hE (v := nI 1) dX6_hasAlarm_7 (by decide) ?_
  refine j_ic_neN hE (tgt := 15) dX6_hasAlarm_8 (by decide) (by omega) (by omega) (fun h8 => ?_) (fun h8 => ?_)
  · refine j_iconst hE (v := nI 0) dX6_hasAlarm_15 (by decide) ?_
    refine j_iret hE hQ rfl (by omega) (by omega) dX6_hasAlarm_16 ?_
    exact ⟨_, rfl, rfl, rfl⟩
  · exfalso; omega

set_option maxRecDepth 100000 in
set_option maxHeartbeats 4000000 in
theorem c_X6_mix {l : Launch} (hl : l.stackTraces = false) (K : jK) (F : GH) (h0 hs : Nat) (now past : Nat → Int32) (kept thrown : Int32) (drawn : Nat → Int32) (hash : Int64) (v : Int64) : Ct l K yX6_mix cX6_mix 3 none 0 0 0 0 [.ref h0, .long v] (gB F h0 (mC K h0 now past kept thrown drawn hash)) hs (pV (fun G' _ => G' = (gB F h0 (mC K h0 now past kept thrown drawn (31 * hash + v))))) jno := by
  refine Ct.ofA hl (by decide) (Nat.le_of_ble_eq_true rfl) (L0 := [some (.ref h0), some (.long v), none]) (jL_of 0 rfl) ?_
  intro A E hE hQ hX hNm
  refine j_aload_n hE (i := 0) dX6_mix_0 rfl rfl ?_
  refine j_ldc2 hE dX6_mix_1 tw_939 ?_
  refine j_aload_n hE (i := 0) dX6_mix_4 rfl rfl ?_
  refine j_get hE flX6_130 gB_0 rfl dX6_mix_5 ?_
  refine j_lmul hE dX6_mix_8 ?_
  refine j_lload_n hE (i := 1) dX6_mix_9 rfl rfl ?_
  refine j_ladd hE dX6_mix_10 ?_
  refine b_put5 hE flX6_130 rfl rfl dX6_mix_11 ?_
  refine j_vret hE hQ (by omega) (by omega) dX6_mix_14 ?_
  exact ⟨rfl, rfl⟩

