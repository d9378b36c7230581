/-! ===== the reference: its cells, its small methods ===== -/
abbrev mC (K : jK) (h0 : Nat) (now past : Nat → Int32) (kept thrown : Int32) (drawn : Nat → Int32) (hash : Int64) : List va_E := [.inr (6, [.ref (h0 + 1), .ref (h0 + 2), .int kept, .int thrown, .ref (h0 + 3), .long hash]), iA K 2377 now, iA K 9508 past, iA K 128 drawn]
set_option maxRecDepth 100000 in
set_option maxHeartbeats 4000000 in
theorem c_X6_thrown {l : Launch} (hl : l.stackTraces = false) (K : jK) (F : GH) (h0 hs : Nat) (now past : Nat → Int32) (kept thrown : Int32) (drawn : Nat → Int32) (hash : Int64) : Ct l K yX6_thrown cX6_thrown 1 (some .int) 0 0 0 0 [.ref h0] (gB F h0 (mC K h0 now past kept thrown drawn hash)) hs (pI (fun r G' _ => r = thrown ∧ G' = (gB F h0 (mC K h0 now past kept thrown drawn hash)))) jno := by
  refine Ct.of hl (by decide) (Nat.le_of_ble_eq_true rfl) (L0 := [some (.ref h0)]) (jL_of 0 rfl) ?_
  intro E hE hQ hX hNm
  refine j_aload_n hE (i := 0) dX6_thrown_0 rfl rfl ?_
  refine j_get hE flX6_19 gB_0 rfl dX6_thrown_1 ?_
  refine j_iret hE hQ rfl (by omega) (by omega) dX6_thrown_4 ?_
  exact ⟨_, rfl, rfl, rfl⟩

set_option maxRecDepth 100000 in
set_option maxHeartbeats 4000000 in
theorem c_X6_of {l : Launch} (hl : l.stackTraces = false) (K : jK) (F : GH) (h0 hs : Nat) (now past : Nat → Int32) (kept thrown : Int32) (drawn : Nat → Int32) (hash : Int64) (p w : Nat) (hp : 33 + 14 * p + w < 2377) : Ct l K yX6_of cX6_of 3 (some .int) 0 0 0 0 [.ref h0, .int (nI p), .int (nI w)] (gB F h0 (mC K h0 now past kept thrown drawn hash)) hs (pI (fun r G' _ => r = now (33 + 14 * p + w) ∧ G' = (gB F h0 (mC K h0 now past kept thrown drawn hash)))) jno := by
  refine Ct.of hl (by decide) (Nat.le_of_ble_eq_true rfl) (L0 := [some (.ref h0), some (.int (nI p)), some (.int (nI w))]) (jL_of 0 rfl) ?_
  intro E hE hQ hX hNm
  refine j_aload_n hE (i := 0) dX6_of_0 rfl rfl ?_
  refine j_get hE flX6_7 gB_0 rfl dX6_of_1 ?_
  refine j_bipush hE (v := nI 33) dX6_of_4 (by decide) ?_
  refine j_bipush hE (v := nI 14) dX6_of_6 (by decide) ?_
  refine j_iload_n hE (i := 1) dX6_of_8 rfl rfl ?_
  refine j_imulN hE dX6_of_9 ?_
  refine j_iaddN hE dX6_of_10 ?_
  refine j_iload_n hE (i := 2) dX6_of_11 rfl rfl ?_
  refine j_iaddN hE dX6_of_12 ?_
  refine j_iald hE gB_1 rfl (by omega) (by decide) dX6_of_13 ?_
  refine j_iret hE hQ rfl (by omega) (by omega) dX6_of_14 ?_
  exact ⟨_, rfl, rfl, rfl⟩

set_option maxRecDepth 100000 in
set_option maxHeartbeats 4000000 in
theorem c_X6_put {l : Launch} (hl : l.stackTraces = false) (K : jK) (F : GH) (h0 hs : Nat) (now past : Nat → Int32) (kept thrown : Int32) (drawn : Nat → Int32) (hash : Int64) (p w : Nat) (v : Int32) (hp : 33 + 14 * p + w < 2377) : Ct l K yX6_put cX6_put 4 none 0 0 0 0 [.ref h0, .int (nI p), .int (nI w), .int v] (gB F h0 (mC K h0 now past kept thrown drawn hash)) hs (pV (fun G' _ => G' = (gB F h0 (mC K h0 (upd now (33 + 14 * p + w) v) past kept thrown drawn hash)))) jno := by
  refine Ct.of hl (by decide) (Nat.le_of_ble_eq_true rfl) (L0 := [some (.ref h0), some (.int (nI p)), some (.int (nI w)), some (.int v)]) (jL_of 0 rfl) ?_
  intro E hE hQ hX hNm
  refine j_aload_n hE (i := 0) dX6_put_0 rfl rfl ?_
  refine j_get hE flX6_7 gB_0 rfl dX6_put_1 ?_
  refine j_bipush hE (v := nI 33) dX6_put_4 (by decide) ?_
  refine j_bipush hE (v := nI 14) dX6_put_6 (by decide) ?_
  refine j_iload_n hE (i := 1) dX6_put_8 rfl rfl ?_
  refine j_imulN hE dX6_put_9 ?_
  refine j_iaddN hE dX6_put_10 ?_
  refine j_iload_n hE (i := 2) dX6_put_11 rfl rfl ?_
  refine j_iaddN hE dX6_put_12 ?_
  refine j_iload_n hE (i := 3) dX6_put_13 rfl rfl ?_
  refine b_ast1 hE rfl (by omega) (by decide) dX6_put_14 ?_
  refine j_vret hE hQ (by omega) (by omega) dX6_put_15 ?_
  exact ⟨rfl, rfl⟩

def jb (b : Bool) : Int32 := if b then nI 1 else nI 0
theorem jb_t : jb true = nI 1 := rfl
theorem jb_f : jb false = nI 0 := rfl
theorem jb_nar (b : Bool) : narrow .boolean (.int (jb b)) = .int (jb b) := by cases b <;> decide
theorem jb_fit (b : Bool) : fits .boolean (.int (jb b)) = true := by cases b <;> decide
theorem jb_0 {b : Bool} : jb b = 0 ↔ b = false := by cases b <;> decide
set_option maxRecDepth 100000 in
set_option maxHeartbeats 4000000 in
theorem c_X6_in {l : Launch} (hl : l.stackTraces = false) (K : jK) (G : GH) (hs : Nat) (v low high : Int32) : Ct l K yX6_in cX6_in 3 (some .boolean) 0 0 0 0 [.int v, .int low, .int high] G hs (pI (fun r G' _ => r = jb (decide (low ≤ v ∧ v ≤ high)) ∧ G' = G)) jno := by
  refine Ct.of hl (by decide) (Nat.le_of_ble_eq_true rfl) (L0 := [some (.int v), some (.int low), some (.int high)]) (jL_of 0 rfl) ?_
  intro E hE hQ hX hNm
  refine j_iload_n hE (i := 0) dX6_in_0 rfl rfl ?_
  refine j_iload_n hE (i := 1) dX6_in_1 rfl rfl ?_
  refine j_ic_lt hE (tgt := 14) dX6_in_2 (by decide) (fun h2 => ?_) (fun h2 => ?_)
  · refine j_iconst hE (v := nI 0) dX6_in_14 (by decide) ?_
    refine j_iret hE hQ rfl (by omega) (by omega) dX6_in_15 ?_
    refine ⟨_, rfl, ?_, rfl⟩
    simp_all [jb, Int32.not_lt, Int32.not_le]
  · refine j_iload_n hE (i := 0) dX6_in_5 rfl rfl ?_
    refine j_iload_n hE (i := 2) dX6_in_6 rfl rfl ?_
    refine j_ic_gt hE (tgt := 14) dX6_in_7 (by decide) (fun h7 => ?_) (fun h7 => ?_)
    · refine j_iconst hE (v := nI 0) dX6_in_14 (by decide) ?_
      refine j_iret hE hQ rfl (by omega) (by omega) dX6_in_15 ?_
      refine ⟨_, rfl, ?_, rfl⟩
      simp_all [jb, Int32.not_lt, Int32.not_le]
    · refine j_iconst hE (v := nI 1) dX6_in_10 (by decide) ?_
      refine j_goto hE (tgt := 15) dX6_in_11 (by decide) ?_
      refine j_iret hE hQ rfl (by omega) (by omega) dX6_in_15 ?_
      refine ⟨_, rfl, ?_, rfl⟩
      simp_all [jb, Int32.not_lt, Int32.not_le]

set_option maxRecDepth 100000 in
set_option maxHeartbeats 4000000 in
theorem c_X6_searches {l : Launch} (hl : l.stackTraces = false) (K : jK) (F : GH) (h0 hs : Nat) (now past : Nat → Int32) (kept thrown : Int32) (drawn : Nat → Int32) (hash : Int64) : Ct l K yX6_searches cX6_searches 1 none 0 0 0 0 [.ref h0] (gB F h0 (mC K h0 now past kept thrown drawn hash)) hs (pV (fun G' _ => G' = (gB F h0 (mC K h0 (upd (upd (upd (upd now 7 (nI 0)) 15 (nI 0)) 16 (nI 0)) 17 (nI 0)) past kept thrown drawn hash)))) jno := by
  refine Ct.of hl (by decide) (Nat.le_of_ble_eq_true rfl) (L0 := [some (.ref h0)]) (jL_of 0 rfl) ?_
  intro E hE hQ hX hNm
  refine j_aload_n hE (i := 0) dX6_searches_0 rfl rfl ?_
  refine j_get hE flX6_7 gB_0 rfl dX6_searches_1 ?_
  refine j_bipush hE (v := nI 7) dX6_searches_4 (by decide) ?_
  refine j_iconst hE (v := nI 0) dX6_searches_6 (by decide) ?_
  refine b_ast1 hE rfl (by omega) (by decide) dX6_searches_7 ?_
  refine j_aload_n hE (i := 0) dX6_searches_8 rfl rfl ?_
  refine j_get hE flX6_7 gB_0 rfl dX6_searches_9 ?_
  refine j_bipush hE (v := nI 15) dX6_searches_12 (by decide) ?_
  refine j_iconst hE (v := nI 0) dX6_searches_14 (by decide) ?_
  refine b_ast1 hE rfl (by omega) (by decide) dX6_searches_15 ?_
  refine j_aload_n hE (i := 0) dX6_searches_16 rfl rfl ?_
  refine j_get hE flX6_7 gB_0 rfl dX6_searches_17 ?_
  refine j_bipush hE (v := nI 16) dX6_searches_20 (by decide) ?_
  refine j_iconst hE (v := nI 0) dX6_searches_22 (by decide) ?_
  refine b_ast1 hE rfl (by omega) (by decide) dX6_searches_23 ?_
  refine j_aload_n hE (i := 0) dX6_searches_24 rfl rfl ?_
  refine j_get hE flX6_7 gB_0 rfl dX6_searches_25 ?_
  refine j_bipush hE (v := nI 17) dX6_searches_28 (by decide) ?_
  refine j_iconst hE (v := nI 0) dX6_searches_30 (by decide) ?_
  refine b_ast1 hE rfl (by omega) (by decide) dX6_searches_31 ?_
  refine j_vret hE hQ (by omega) (by omega) dX6_searches_32 ?_
  exact ⟨rfl, rfl⟩

