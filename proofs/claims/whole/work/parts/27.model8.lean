/-! ===== the reference: the receiver, bit by bit ===== -/
theorem zW_out (now : Nat → Int32) {j : Nat} (h : j < 19 ∨ 33 ≤ j) : ∀ n, n ≤ 14 → itr zW n now j = now j
  | 0, _ => rfl
  | n + 1, hn => by
    rw [itr_s]
    unfold zW
    rw [upd_n (by omega)]
    exact zW_out now h n (by omega)
theorem mBeg_out (now : Nat → Int32) {j : Nat} (h : j < 15 ∨ j = 17 ∨ j = 18 ∨ 33 ≤ j) : mBeg now j = now j := by
  unfold mBeg
  rw [zW_out _ (by omega) 14 (by omega), upd_n (by omega), upd_n (by omega)]
theorem mBeg_15 (now : Nat → Int32) : mBeg now 15 = nI 1 := by
  unfold mBeg
  rw [zW_out _ (by omega) 14 (by omega), upd_n (by omega), upd_s]
theorem mBeg_16 (now : Nat → Int32) : mBeg now 16 = nI 0 := by
  unfold mBeg
  rw [zW_out _ (by omega) 14 (by omega), upd_s]
theorem zW_in (now : Nat → Int32) : ∀ n k, k < n → itr zW n now (19 + k) = nI 0
  | 0, k, h => by omega
  | n + 1, k, h => by
    rw [itr_s]
    unfold zW
    by_cases e : k = n
    · subst e; rw [upd_s]
    · rw [upd_n (by omega)]; exact zW_in now n k (by omega)
theorem mBeg_w (now : Nat → Int32) {k : Nat} (h : k < 14) : mBeg now (19 + k) = nI 0 := zW_in _ 14 k h
def mCp (now : Nat → Int32) (W : Nat) : Nat → Int32 :=
  if now 17 = 60304 then mBeg (upd (upd now 7 (nI 2)) 8 (nI 0))
  else if now 7 = nI 1 then upd (upd now 7 (nI 0)) 15 (nI 0)
  else if (now 18 <<< (nI 15 &&& 31)) ||| (now 17 >>> (nI 1 &&& 31)) = 60304 then mTI (mBeg (upd (upd now 11 (now 11 + nI 1)) 8 (nI 0))) W 0 0 0 0 (upd (upd now 11 (now 11 + nI 1)) 8 (nI 0) 17 &&& nI 1)
  else upd now 15 (nI 3)
def mOM (now : Nat → Int32) (W : Nat) (bit : Int32) : Nat → Int32 :=
  if now 17 = 60304 then mBeg (upd (upd now 12 (now 12 + nI 1)) 8 (nI 0))
  else
    let n1 := upd now 13 (now 13 + nI 1)
    let n2 := upd n1 8 (n1 8 + nI 1)
    if n2 8 = nI 3 then mSear (upd n2 8 (nI 0)) else mTI (mBeg n2) W 0 0 0 0 bit
def mTB2 (now : Nat → Int32) (W : Nat) (bit : Int32) : Nat → Int32 :=
  if now 15 = nI 3 then mOM now W bit
  else if now 15 = nI 2 then (if now 16 = nI 16 then mCp now W else now)
  else if now 16 = nI 16 then (if now 17 = 60304 then mBeg (upd (upd now 7 (nI 1)) 14 (upd now 7 (nI 1) 14 + nI 1)) else now) else now
def mTB (now : Nat → Int32) (W M mm md t : Nat) (bit : Int32) : Nat → Int32 :=
  if now 15 = nI 1 then mTI now W M mm md t bit
  else
    let n1 := upd now 17 (((now 17 <<< (nI 1 &&& 31)) ||| bit) &&& 65535)
    mTB2 (upd n1 16 (n1 16 + (if nI 16 ≤ n1 16 then nI 0 else nI 1))) W bit
set_option maxRecDepth 100000 in
set_option maxHeartbeats 4000000 in
theorem c_X6_compares {l : Launch} (hl : l.stackTraces = false) (K : jK) (F : GH) (h0 hs : Nat) (now past : Nat → Int32) (kept thrown : Int32) (drawn : Nat → Int32) (hash : Int64) (W : Nat) (hW : now 0 = nI W) (hW6 : 6 ≤ W) (hW9 : W ≤ 16) : Ct l K yX6_compares cX6_compares 2 none 4 91 0 0 [.ref h0] (gB F h0 (mC K h0 now past kept thrown drawn hash)) hs (pV (fun G' _ => G' = (gB F h0 (mC K h0 (mCp now W) past kept thrown drawn hash)))) jno := by
  refine Ct.ofA hl (by decide) (Nat.le_of_ble_eq_true rfl) (L0 := [some (.ref h0), none]) (jL_of 1 rfl) ?_
  intro A E hE hQ hX hNm
  refine j_aload_n hE (i := 0) dX6_compares_0 rfl rfl ?_
  refine j_get hE flX6_7 gB_0 rfl dX6_compares_1 ?_
  refine j_bipush hE (v := nI 17) dX6_compares_4 (by decide) ?_
  refine j_iald hE gB_1 rfl (by omega) (by decide) dX6_compares_6 ?_
  refine j_ldc hE dX6_compares_7 tw_877 ?_
  refine j_ic_ne hE (tgt := 35) dX6_compares_9 (by decide) (fun h9 => ?_) (fun h9 => ?_)
  · refine j_aload_n hE (i := 0) dX6_compares_35 rfl rfl ?_
    refine j_get hE flX6_7 gB_0 rfl dX6_compares_36 ?_
    refine j_bipush hE (v := nI 7) dX6_compares_39 (by decide) ?_
    refine j_iald hE gB_1 rfl (by omega) (by decide) dX6_compares_41 ?_
    refine j_iconst hE (v := nI 1) dX6_compares_42 (by decide) ?_
    refine j_ic_ne hE (tgt := 65) dX6_compares_43 (by decide) (fun h43 => ?_) (fun h43 => ?_)
    · refine j_aload_n hE (i := 0) dX6_compares_65 rfl rfl ?_
      refine j_get hE flX6_7 gB_0 rfl dX6_compares_66 ?_
      refine j_bipush hE (v := nI 18) dX6_compares_69 (by decide) ?_
      refine j_iald hE gB_1 rfl (by omega) (by decide) dX6_compares_71 ?_
      refine j_bipush hE (v := nI 15) dX6_compares_72 (by decide) ?_
      refine j_ishl hE dX6_compares_74 ?_
      refine j_aload_n hE (i := 0) dX6_compares_75 rfl rfl ?_
      refine j_get hE flX6_7 gB_0 rfl dX6_compares_76 ?_
      refine j_bipush hE (v := nI 17) dX6_compares_79 (by decide) ?_
      refine j_iald hE gB_1 rfl (by omega) (by decide) dX6_compares_81 ?_
      refine j_iconst hE (v := nI 1) dX6_compares_82 (by decide) ?_
      refine j_ishr hE dX6_compares_83 ?_
      refine j_ior hE dX6_compares_84 ?_
      refine j_ldc hE dX6_compares_85 tw_877 ?_
      refine j_ic_ne hE (tgt := 131) dX6_compares_87 (by decide) (fun h87 => ?_) (fun h87 => ?_)
      · refine j_aload_n hE (i := 0) dX6_compares_131 rfl rfl ?_
        refine j_get hE flX6_7 gB_0 rfl dX6_compares_132 ?_
        refine j_bipush hE (v := nI 15) dX6_compares_135 (by decide) ?_
        refine j_iconst hE (v := nI 3) dX6_compares_137 (by decide) ?_
        refine b_ast1 hE rfl (by omega) (by decide) dX6_compares_138 ?_
        refine j_vret hE hQ (by omega) (by omega) dX6_compares_139 ?_
        refine ⟨rfl, ?_⟩
        unfold mCp
        dsimp only
        first
          | (rw [if_pos h9]; done)
          | (rw [if_pos h9]; rfl)
          | rw [if_pos h9]
          | (rw [if_neg h9, if_pos h43]; done)
          | (rw [if_neg h9, if_pos h43]; rfl)
          | rw [if_neg h9, if_pos h43]
          | (rw [if_neg h9, if_neg h43, if_pos h87]; done)
          | (rw [if_neg h9, if_neg h43, if_pos h87]; rfl)
          | rw [if_neg h9, if_neg h43, if_pos h87]
          | (rw [if_neg h9, if_neg h43, if_neg h87]; done)
          | (rw [if_neg h9, if_neg h43, if_neg h87]; rfl)
          | rw [if_neg h9, if_neg h43, if_neg h87]
      · refine j_aload_n hE (i := 0) dX6_compares_90 rfl rfl ?_
        refine j_get hE flX6_7 gB_0 rfl dX6_compares_91 ?_
        refine j_bipush hE (v := nI 11) dX6_compares_94 (by decide) ?_
        refine j_dup2 hE dX6_compares_96 rfl rfl ?_
        refine j_iald hE gB_1 rfl (by omega) (by decide) dX6_compares_97 ?_
        refine j_iconst hE (v := nI 1) dX6_compares_98 (by decide) ?_
        refine j_iadd hE dX6_compares_99 ?_
        refine b_ast1 hE rfl (by omega) (by decide) dX6_compares_100 ?_
        refine j_aload_n hE (i := 0) dX6_compares_101 rfl rfl ?_
        refine j_get hE flX6_7 gB_0 rfl dX6_compares_102 ?_
        refine j_bipush hE (v := nI 8) dX6_compares_105 (by decide) ?_
        refine j_iconst hE (v := nI 0) dX6_compares_107 (by decide) ?_
        refine b_ast1 hE rfl (by omega) (by decide) dX6_compares_108 ?_
        refine j_aload_n hE (i := 0) dX6_compares_109 rfl rfl ?_
        refine j_get hE flX6_7 gB_0 rfl dX6_compares_110 ?_
        refine j_bipush hE (v := nI 17) dX6_compares_113 (by decide) ?_
        refine j_iald hE gB_1 rfl (by omega) (by decide) dX6_compares_115 ?_
        refine j_iconst hE (v := nI 1) dX6_compares_116 (by decide) ?_
        refine j_iand hE dX6_compares_117 ?_
        refine j_ist1 hE dX6_compares_118 rfl (by decide) rfl ?_
        refine j_aload_n hE (i := 0) dX6_compares_119 rfl rfl ?_
        refine j_cVv hE mlX6_109 gB_0 (fun l hl => c_X6_beginsFrame hl K F h0 _ _ _ _ _ _ _) rfl rfl (Nat.le_of_ble_eq_true rfl) (by decide) (by decide) (by omega) (by omega) dX6_compares_120 (fun G9 hs9 hp => ?_) (fun _ _ h => h.elim)
        subst hp
        refine j_aload_n hE (i := 0) dX6_compares_123 rfl rfl ?_
        refine j_iload_n hE (i := 1) dX6_compares_124 rfl rfl ?_
        refine j_cVv hE mlX6_112 gB_0 (fun l hl => c_X6_takesIntoFrame hl K F h0 _ _ _ _ _ _ _ W 0 0 0 0 (fun q => by omega) (by rw [mBeg_out _ (by omega)]; exact upd2_at hW (by decide) (by decide)) hW6 hW9 (mBeg_16 _) (by omega) _) rfl rfl (Nat.le_of_ble_eq_true rfl) (by decide) (by decide) (by omega) (by omega) dX6_compares_125 (fun G9 hs9 hp => ?_) (fun _ _ h => h.elim)
        subst hp
        refine j_goto hE (tgt := 139) dX6_compares_128 (by decide) ?_
        refine j_vret hE hQ (by omega) (by omega) dX6_compares_139 ?_
        refine ⟨rfl, ?_⟩
        unfold mCp
        dsimp only
        first
          | (rw [if_pos h9]; done)
          | (rw [if_pos h9]; rfl)
          | rw [if_pos h9]
          | (rw [if_neg h9, if_pos h43]; done)
          | (rw [if_neg h9, if_pos h43]; rfl)
          | rw [if_neg h9, if_pos h43]
          | (rw [if_neg h9, if_neg h43, if_pos h87]; done)
          | (rw [if_neg h9, if_neg h43, if_pos h87]; rfl)
          | rw [if_neg h9, if_neg h43, if_pos h87]
          | (rw [if_neg h9, if_neg h43, if_neg h87]; done)
          | (rw [if_neg h9, if_neg h43, if_neg h87]; rfl)
          | rw [if_neg h9, if_neg h43, if_neg h87]
    · refine j_aload_n hE (i := 0) dX6_compares_46 rfl rfl ?_
      refine j_get hE flX6_7 gB_0 rfl dX6_compares_47 ?_
      refine j_bipush hE (v := nI 7) dX6_compares_50 (by decide) ?_
      refine j_iconst hE (v := nI 0) dX6_compares_52 (by decide) ?_
      refine b_ast1 hE rfl (by omega) (by decide) dX6_compares_53 ?_
      refine j_aload_n hE (i := 0) dX6_compares_54 rfl rfl ?_
      refine j_get hE flX6_7 gB_0 rfl dX6_compares_55 ?_
      refine j_bipush hE (v := nI 15) dX6_compares_58 (by decide) ?_
      refine j_iconst hE (v := nI 0) dX6_compares_60 (by decide) ?_
      refine b_ast1 hE rfl (by omega) (by decide) dX6_compares_61 ?_
      refine j_goto hE (tgt := 139) dX6_compares_62 (by decide) ?_
      refine j_vret hE hQ (by omega) (by omega) dX6_compares_139 ?_
      refine ⟨rfl, ?_⟩
      unfold mCp
      dsimp only
      first
        | (rw [if_pos h9]; done)
        | (rw [if_pos h9]; rfl)
        | rw [if_pos h9]
        | (rw [if_neg h9, if_pos h43]; done)
        | (rw [if_neg h9, if_pos h43]; rfl)
        | rw [if_neg h9, if_pos h43]
        | (rw [if_neg h9, if_neg h43, if_pos h87]; done)
        | (rw [if_neg h9, if_neg h43, if_pos h87]; rfl)
        | rw [if_neg h9, if_neg h43, if_pos h87]
        | (rw [if_neg h9, if_neg h43, if_neg h87]; done)
        | (rw [if_neg h9, if_neg h43, if_neg h87]; rfl)
        | rw [if_neg h9, if_neg h43, if_neg h87]
  · refine j_aload_n hE (i := 0) dX6_compares_12 rfl rfl ?_
    refine j_get hE flX6_7 gB_0 rfl dX6_compares_13 ?_
    refine j_bipush hE (v := nI 7) dX6_compares_16 (by decide) ?_
    refine j_iconst hE (v := nI 2) dX6_compares_18 (by decide) ?_
    refine b_ast1 hE rfl (by omega) (by decide) dX6_compares_19 ?_
    refine j_aload_n hE (i := 0) dX6_compares_20 rfl rfl ?_
    refine j_get hE flX6_7 gB_0 rfl dX6_compares_21 ?_
    refine j_bipush hE (v := nI 8) dX6_compares_24 (by decide) ?_
    refine j_iconst hE (v := nI 0) dX6_compares_26 (by decide) ?_
    refine b_ast1 hE rfl (by omega) (by decide) dX6_compares_27 ?_
    refine j_aload_n hE (i := 0) dX6_compares_28 rfl rfl ?_
    refine j_cVv hE mlX6_109 gB_0 (fun l hl => c_X6_beginsFrame hl K F h0 _ _ _ _ _ _ _) rfl rfl (Nat.le_of_ble_eq_true rfl) (by decide) (by decide) (by omega) (by omega) dX6_compares_29 (fun G9 hs9 hp => ?_) (fun _ _ h => h.elim)
    subst hp
    refine j_goto hE (tgt := 139) dX6_compares_32 (by decide) ?_
    refine j_vret hE hQ (by omega) (by omega) dX6_compares_139 ?_
    refine ⟨rfl, ?_⟩
    unfold mCp
    dsimp only
    first
      | (rw [if_pos h9]; done)
      | (rw [if_pos h9]; rfl)
      | rw [if_pos h9]
      | (rw [if_neg h9, if_pos h43]; done)
      | (rw [if_neg h9, if_pos h43]; rfl)
      | rw [if_neg h9, if_pos h43]
      | (rw [if_neg h9, if_neg h43, if_pos h87]; done)
      | (rw [if_neg h9, if_neg h43, if_pos h87]; rfl)
      | rw [if_neg h9, if_neg h43, if_pos h87]
      | (rw [if_neg h9, if_neg h43, if_neg h87]; done)
      | (rw [if_neg h9, if_neg h43, if_neg h87]; rfl)
      | rw [if_neg h9, if_neg h43, if_neg h87]

set_option maxRecDepth 100000 in
set_option maxHeartbeats 4000000 in
theorem c_X6_takesOneMore {l : Launch} (hl : l.stackTraces = false) (K : jK) (F : GH) (h0 hs : Nat) (now past : Nat → Int32) (kept thrown : Int32) (drawn : Nat → Int32) (hash : Int64) (W : Nat) (hW : now 0 = nI W) (hW6 : 6 ≤ W) (hW9 : W ≤ 16) (bit : Int32) : Ct l K yX6_takesOneMore cX6_takesOneMore 2 none 4 91 0 0 [.ref h0, .int bit] (gB F h0 (mC K h0 now past kept thrown drawn hash)) hs (pV (fun G' _ => G' = (gB F h0 (mC K h0 (mOM now W bit) past kept thrown drawn hash)))) jno := by
  refine Ct.ofA hl (by decide) (Nat.le_of_ble_eq_true rfl) (L0 := [some (.ref h0), some (.int bit)]) (jL_of 0 rfl) ?_
  intro A E hE hQ hX hNm
  refine j_aload_n hE (i := 0) dX6_takesOneMore_0 rfl rfl ?_
  refine j_get hE flX6_7 gB_0 rfl dX6_takesOneMore_1 ?_
  refine j_bipush hE (v := nI 17) dX6_takesOneMore_4 (by decide) ?_
  refine j_iald hE gB_1 rfl (by omega) (by decide) dX6_takesOneMore_6 ?_
  refine j_ldc hE dX6_takesOneMore_7 tw_877 ?_
  refine j_ic_ne hE (tgt := 36) dX6_takesOneMore_9 (by decide) (fun h9 => ?_) (fun h9 => ?_)
  · refine j_aload_n hE (i := 0) dX6_takesOneMore_36 rfl rfl ?_
    refine j_get hE flX6_7 gB_0 rfl dX6_takesOneMore_37 ?_
    refine j_bipush hE (v := nI 13) dX6_takesOneMore_40 (by decide) ?_
    refine j_dup2 hE dX6_takesOneMore_42 rfl rfl ?_
    refine j_iald hE gB_1 rfl (by omega) (by decide) dX6_takesOneMore_43 ?_
    refine j_iconst hE (v := nI 1) dX6_takesOneMore_44 (by decide) ?_
    refine j_iadd hE dX6_takesOneMore_45 ?_
    refine b_ast1 hE rfl (by omega) (by decide) dX6_takesOneMore_46 ?_
    refine j_aload_n hE (i := 0) dX6_takesOneMore_47 rfl rfl ?_
    refine j_get hE flX6_7 gB_0 rfl dX6_takesOneMore_48 ?_
    refine j_bipush hE (v := nI 8) dX6_takesOneMore_51 (by decide) ?_
    refine j_dup2 hE dX6_takesOneMore_53 rfl rfl ?_
    refine j_iald hE gB_1 rfl (by omega) (by decide) dX6_takesOneMore_54 ?_
    refine j_iconst hE (v := nI 1) dX6_takesOneMore_55 (by decide) ?_
    refine j_iadd hE dX6_takesOneMore_56 ?_
    refine b_ast1 hE rfl (by omega) (by decide) dX6_takesOneMore_57 ?_
    refine j_aload_n hE (i := 0) dX6_takesOneMore_58 rfl rfl ?_
    refine j_get hE flX6_7 gB_0 rfl dX6_takesOneMore_59 ?_
    refine j_bipush hE (v := nI 8) dX6_takesOneMore_62 (by decide) ?_
    refine j_iald hE gB_1 rfl (by omega) (by decide) dX6_takesOneMore_64 ?_
    refine j_iconst hE (v := nI 3) dX6_takesOneMore_65 (by decide) ?_
    refine j_ic_ne hE (tgt := 84) dX6_takesOneMore_66 (by decide) (fun h66 => ?_) (fun h66 => ?_)
    · refine j_aload_n hE (i := 0) dX6_takesOneMore_84 rfl rfl ?_
      refine j_cVv hE mlX6_109 gB_0 (fun l hl => c_X6_beginsFrame hl K F h0 _ _ _ _ _ _ _) rfl rfl (Nat.le_of_ble_eq_true rfl) (by decide) (by decide) (by omega) (by omega) dX6_takesOneMore_85 (fun G9 hs9 hp => ?_) (fun _ _ h => h.elim)
      subst hp
      refine j_aload_n hE (i := 0) dX6_takesOneMore_88 rfl rfl ?_
      refine j_iload_n hE (i := 1) dX6_takesOneMore_89 rfl rfl ?_
      refine j_cVv hE mlX6_112 gB_0 (fun l hl => c_X6_takesIntoFrame hl K F h0 _ _ _ _ _ _ _ W 0 0 0 0 (fun q => by omega) (by rw [mBeg_out _ (by omega)]; exact upd2_at hW (by decide) (by decide)) hW6 hW9 (mBeg_16 _) (by omega) _) rfl rfl (Nat.le_of_ble_eq_true rfl) (by decide) (by decide) (by omega) (by omega) dX6_takesOneMore_90 (fun G9 hs9 hp => ?_) (fun _ _ h => h.elim)
      subst hp
      refine j_vret hE hQ (by omega) (by omega) dX6_takesOneMore_93 ?_
      refine ⟨rfl, ?_⟩
      unfold mOM
      dsimp only
      first
        | (rw [if_neg h9, if_pos h66]; done)
        | (rw [if_neg h9, if_pos h66]; rfl)
        | rw [if_neg h9, if_pos h66]
        | (rw [if_neg h9, if_neg h66]; done)
        | (rw [if_neg h9, if_neg h66]; rfl)
        | rw [if_neg h9, if_neg h66]
    · refine j_aload_n hE (i := 0) dX6_takesOneMore_69 rfl rfl ?_
      refine j_get hE flX6_7 gB_0 rfl dX6_takesOneMore_70 ?_
      refine j_bipush hE (v := nI 8) dX6_takesOneMore_73 (by decide) ?_
      refine j_iconst hE (v := nI 0) dX6_takesOneMore_75 (by decide) ?_
      refine b_ast1 hE rfl (by omega) (by decide) dX6_takesOneMore_76 ?_
      refine j_aload_n hE (i := 0) dX6_takesOneMore_77 rfl rfl ?_
      refine j_cVv hE mlX6_30 gB_0 (fun l hl => c_X6_searches hl K F h0 _ _ _ _ _ _ _) rfl rfl (Nat.le_of_ble_eq_true rfl) (by decide) (by decide) (by omega) (by omega) dX6_takesOneMore_78 (fun G9 hs9 hp => ?_) (fun _ _ h => h.elim)
      subst hp
      refine j_goto hE (tgt := 93) dX6_takesOneMore_81 (by decide) ?_
      refine j_vret hE hQ (by omega) (by omega) dX6_takesOneMore_93 ?_
      refine ⟨rfl, ?_⟩
      unfold mOM
      dsimp only
      first
        | (rw [if_neg h9, if_pos h66]; done)
        | (rw [if_neg h9, if_pos h66]; rfl)
        | rw [if_neg h9, if_pos h66]
        | (rw [if_neg h9, if_neg h66]; done)
        | (rw [if_neg h9, if_neg h66]; rfl)
        | rw [if_neg h9, if_neg h66]
  · refine j_aload_n hE (i := 0) dX6_takesOneMore_12 rfl rfl ?_
    refine j_get hE flX6_7 gB_0 rfl dX6_takesOneMore_13 ?_
    refine j_bipush hE (v := nI 12) dX6_takesOneMore_16 (by decide) ?_
    refine j_dup2 hE dX6_takesOneMore_18 rfl rfl ?_
    refine j_iald hE gB_1 rfl (by omega) (by decide) dX6_takesOneMore_19 ?_
    refine j_iconst hE (v := nI 1) dX6_takesOneMore_20 (by decide) ?_
    refine j_iadd hE dX6_takesOneMore_21 ?_
    refine b_ast1 hE rfl (by omega) (by decide) dX6_takesOneMore_22 ?_
    refine j_aload_n hE (i := 0) dX6_takesOneMore_23 rfl rfl ?_
    refine j_get hE flX6_7 gB_0 rfl dX6_takesOneMore_24 ?_
    refine j_bipush hE (v := nI 8) dX6_takesOneMore_27 (by decide) ?_
    refine j_iconst hE (v := nI 0) dX6_takesOneMore_29 (by decide) ?_
    refine b_ast1 hE rfl (by omega) (by decide) dX6_takesOneMore_30 ?_
    refine j_aload_n hE (i := 0) dX6_takesOneMore_31 rfl rfl ?_
    refine j_cVv hE mlX6_109 gB_0 (fun l hl => c_X6_beginsFrame hl K F h0 _ _ _ _ _ _ _) rfl rfl (Nat.le_of_ble_eq_true rfl) (by decide) (by decide) (by omega) (by omega) dX6_takesOneMore_32 (fun G9 hs9 hp => ?_) (fun _ _ h => h.elim)
    subst hp
    refine j_vret hE hQ (by omega) (by omega) dX6_takesOneMore_35 ?_
    refine ⟨rfl, ?_⟩
    unfold mOM
    dsimp only
    first
      | (rw [if_pos h9]; done)
      | (rw [if_pos h9]; rfl)
      | rw [if_pos h9]

set_option maxRecDepth 100000 in
set_option maxHeartbeats 4000000 in
theorem c_X6_takesBit {l : Launch} (hl : l.stackTraces = false) (K : jK) (F : GH) (h0 hs : Nat) (now past : Nat → Int32) (kept thrown : Int32) (drawn : Nat → Int32) (hash : Int64) (W M mm md t : Nat) (hW : now 0 = nI W) (hW6 : 6 ≤ W) (hW9 : W ≤ 16) (hfr : now 15 = nI 1 → now 16 = nI t ∧ t < 8 * (W - 2) ∧ (t + 1 = 8 * (W - 2) → dlP now W M mm md)) (bit : Int32) : Ct l K yX6_takesBit cX6_takesBit 2 none 5 112 0 0 [.ref h0, .int bit] (gB F h0 (mC K h0 now past kept thrown drawn hash)) hs (pV (fun G' _ => G' = (gB F h0 (mC K h0 (mTB now W M mm md t bit) past kept thrown drawn hash)))) jno := by
  refine Ct.ofA hl (by decide) (Nat.le_of_ble_eq_true rfl) (L0 := [some (.ref h0), some (.int bit)]) (jL_of 0 rfl) ?_
  intro A E hE hQ hX hNm
  refine j_aload_n hE (i := 0) dX6_takesBit_0 rfl rfl ?_
  refine j_get hE flX6_7 gB_0 rfl dX6_takesBit_1 ?_
  refine j_bipush hE (v := nI 15) dX6_takesBit_4 (by decide) ?_
  refine j_iald hE gB_1 rfl (by omega) (by decide) dX6_takesBit_6 ?_
  refine j_iconst hE (v := nI 1) dX6_takesBit_7 (by decide) ?_
  refine j_ic_ne hE (tgt := 17) dX6_takesBit_8 (by decide) (fun h8 => ?_) (fun h8 => ?_)
  · refine j_aload_n hE (i := 0) dX6_takesBit_17 rfl rfl ?_
    refine j_get hE flX6_7 gB_0 rfl dX6_takesBit_18 ?_
    refine j_bipush hE (v := nI 17) dX6_takesBit_21 (by decide) ?_
    refine j_aload_n hE (i := 0) dX6_takesBit_23 rfl rfl ?_
    refine j_get hE flX6_7 gB_0 rfl dX6_takesBit_24 ?_
    refine j_bipush hE (v := nI 17) dX6_takesBit_27 (by decide) ?_
    refine j_iald hE gB_1 rfl (by omega) (by decide) dX6_takesBit_29 ?_
    refine j_iconst hE (v := nI 1) dX6_takesBit_30 (by decide) ?_
    refine j_ishl hE dX6_takesBit_31 ?_
    refine j_iload_n hE (i := 1) dX6_takesBit_32 rfl rfl ?_
    refine j_ior hE dX6_takesBit_33 ?_
    refine j_ldc hE dX6_takesBit_34 tw_872 ?_
    refine j_iand hE dX6_takesBit_36 ?_
    refine b_ast1 hE rfl (by omega) (by decide) dX6_takesBit_37 ?_
    refine j_aload_n hE (i := 0) dX6_takesBit_38 rfl rfl ?_
    refine j_get hE flX6_7 gB_0 rfl dX6_takesBit_39 ?_
    refine j_bipush hE (v := nI 16) dX6_takesBit_42 (by decide) ?_
    refine j_dup2 hE dX6_takesBit_44 rfl rfl ?_
    refine j_iald hE gB_1 rfl (by omega) (by decide) dX6_takesBit_45 ?_
    refine j_aload_n hE (i := 0) dX6_takesBit_46 rfl rfl ?_
    refine j_get hE flX6_7 gB_0 rfl dX6_takesBit_47 ?_
    refine j_bipush hE (v := nI 16) dX6_takesBit_50 (by decide) ?_
    refine j_iald hE gB_1 rfl (by omega) (by decide) dX6_takesBit_52 ?_
    refine j_bipush hE (v := nI 16) dX6_takesBit_53 (by decide) ?_
    refine j_ic_ge hE (tgt := 62) dX6_takesBit_55 (by decide) (fun h55 => ?_) (fun h55 => ?_)
    · refine j_iconst hE (v := nI 0) dX6_takesBit_62 (by decide) ?_
      refine j_iadd hE dX6_takesBit_63 ?_
      refine b_ast1 hE rfl (by omega) (by decide) dX6_takesBit_64 ?_
      first
        | (obtain ⟨n2, hn2⟩ : ∃ n2, n2 = upd (upd now 17 (((now 17 <<< (nI 1 &&& 31)) ||| bit) &&& 65535)) 16 (upd now 17 (((now 17 <<< (nI 1 &&& 31)) ||| bit) &&& 65535) 16 + nI 0) := ⟨_, rfl⟩; rw [← hn2])
        | (obtain ⟨n2, hn2⟩ : ∃ n2, n2 = upd (upd now 17 (((now 17 <<< (nI 1 &&& 31)) ||| bit) &&& 65535)) 16 (upd now 17 (((now 17 <<< (nI 1 &&& 31)) ||| bit) &&& 65535) 16 + nI 1) := ⟨_, rfl⟩; rw [← hn2])
      have hW2 : n2 0 = nI W := by rw [hn2]; exact upd2_at hW (by decide) (by decide)
      have hsp : mTB now W M mm md t bit = mTB2 n2 W bit := by
        unfold mTB
        dsimp only
        rw [if_neg h8, hn2]
        first
          | rw [if_pos h55]
          | rw [if_neg h55]
      refine j_aload_n hE (i := 0) dX6_takesBit_65 rfl rfl ?_
      refine j_get hE flX6_7 gB_0 rfl dX6_takesBit_66 ?_
      refine j_bipush hE (v := nI 15) dX6_takesBit_69 (by decide) ?_
      refine j_iald hE gB_1 rfl (by omega) (by decide) dX6_takesBit_71 ?_
      refine j_iconst hE (v := nI 3) dX6_takesBit_72 (by decide) ?_
      refine j_ic_ne hE (tgt := 84) dX6_takesBit_73 (by decide) (fun h73 => ?_) (fun h73 => ?_)
      · refine j_aload_n hE (i := 0) dX6_takesBit_84 rfl rfl ?_
        refine j_get hE flX6_7 gB_0 rfl dX6_takesBit_85 ?_
        refine j_bipush hE (v := nI 15) dX6_takesBit_88 (by decide) ?_
        refine j_iald hE gB_1 rfl (by omega) (by decide) dX6_takesBit_90 ?_
        refine j_iconst hE (v := nI 2) dX6_takesBit_91 (by decide) ?_
        refine j_ic_ne hE (tgt := 114) dX6_takesBit_92 (by decide) (fun h92 => ?_) (fun h92 => ?_)
        · refine j_aload_n hE (i := 0) dX6_takesBit_114 rfl rfl ?_
          refine j_get hE flX6_7 gB_0 rfl dX6_takesBit_115 ?_
          refine j_bipush hE (v := nI 16) dX6_takesBit_118 (by decide) ?_
          refine j_iald hE gB_1 rfl (by omega) (by decide) dX6_takesBit_120 ?_
          refine j_bipush hE (v := nI 16) dX6_takesBit_121 (by decide) ?_
          refine j_ic_ne hE (tgt := 161) dX6_takesBit_123 (by decide) (fun h123 => ?_) (fun h123 => ?_)
          · refine j_vret hE hQ (by omega) (by omega) dX6_takesBit_161 ?_
            refine ⟨rfl, ?_⟩
            rw [hsp]
            unfold mTB2
            first
              | (rw [if_pos h73]; done)
              | (rw [if_pos h73]; rfl)
              | rw [if_pos h73]
              | (rw [if_neg h73, if_pos h92, if_neg h104]; done)
              | (rw [if_neg h73, if_pos h92, if_neg h104]; rfl)
              | rw [if_neg h73, if_pos h92, if_neg h104]
              | (rw [if_neg h73, if_pos h92, if_pos h104]; done)
              | (rw [if_neg h73, if_pos h92, if_pos h104]; rfl)
              | rw [if_neg h73, if_pos h92, if_pos h104]
              | (rw [if_neg h73, if_neg h92, if_neg h123]; done)
              | (rw [if_neg h73, if_neg h92, if_neg h123]; rfl)
              | rw [if_neg h73, if_neg h92, if_neg h123]
              | (rw [if_neg h73, if_neg h92, if_pos h123, if_neg h135]; done)
              | (rw [if_neg h73, if_neg h92, if_pos h123, if_neg h135]; rfl)
              | rw [if_neg h73, if_neg h92, if_pos h123, if_neg h135]
              | (rw [if_neg h73, if_neg h92, if_pos h123, if_pos h135]; done)
              | (rw [if_neg h73, if_neg h92, if_pos h123, if_pos h135]; rfl)
              | rw [if_neg h73, if_neg h92, if_pos h123, if_pos h135]
          · refine j_aload_n hE (i := 0) dX6_takesBit_126 rfl rfl ?_
            refine j_get hE flX6_7 gB_0 rfl dX6_takesBit_127 ?_
            refine j_bipush hE (v := nI 17) dX6_takesBit_130 (by decide) ?_
            refine j_iald hE gB_1 rfl (by omega) (by decide) dX6_takesBit_132 ?_
            refine j_ldc hE dX6_takesBit_133 tw_877 ?_
            refine j_ic_ne hE (tgt := 161) dX6_takesBit_135 (by decide) (fun h135 => ?_) (fun h135 => ?_)
            · refine j_vret hE hQ (by omega) (by omega) dX6_takesBit_161 ?_
              refine ⟨rfl, ?_⟩
              rw [hsp]
              unfold mTB2
              first
                | (rw [if_pos h73]; done)
                | (rw [if_pos h73]; rfl)
                | rw [if_pos h73]
                | (rw [if_neg h73, if_pos h92, if_neg h104]; done)
                | (rw [if_neg h73, if_pos h92, if_neg h104]; rfl)
                | rw [if_neg h73, if_pos h92, if_neg h104]
                | (rw [if_neg h73, if_pos h92, if_pos h104]; done)
                | (rw [if_neg h73, if_pos h92, if_pos h104]; rfl)
                | rw [if_neg h73, if_pos h92, if_pos h104]
                | (rw [if_neg h73, if_neg h92, if_neg h123]; done)
                | (rw [if_neg h73, if_neg h92, if_neg h123]; rfl)
                | rw [if_neg h73, if_neg h92, if_neg h123]
                | (rw [if_neg h73, if_neg h92, if_pos h123, if_neg h135]; done)
                | (rw [if_neg h73, if_neg h92, if_pos h123, if_neg h135]; rfl)
                | rw [if_neg h73, if_neg h92, if_pos h123, if_neg h135]
                | (rw [if_neg h73, if_neg h92, if_pos h123, if_pos h135]; done)
                | (rw [if_neg h73, if_neg h92, if_pos h123, if_pos h135]; rfl)
                | rw [if_neg h73, if_neg h92, if_pos h123, if_pos h135]
            · refine j_aload_n hE (i := 0) dX6_takesBit_138 rfl rfl ?_
              refine j_get hE flX6_7 gB_0 rfl dX6_takesBit_139 ?_
              refine j_bipush hE (v := nI 7) dX6_takesBit_142 (by decide) ?_
              refine j_iconst hE (v := nI 1) dX6_takesBit_144 (by decide) ?_
              refine b_ast1 hE rfl (by omega) (by decide) dX6_takesBit_145 ?_
              refine j_aload_n hE (i := 0) dX6_takesBit_146 rfl rfl ?_
              refine j_get hE flX6_7 gB_0 rfl dX6_takesBit_147 ?_
              refine j_bipush hE (v := nI 14) dX6_takesBit_150 (by decide) ?_
              refine j_dup2 hE dX6_takesBit_152 rfl rfl ?_
              refine j_iald hE gB_1 rfl (by omega) (by decide) dX6_takesBit_153 ?_
              refine j_iconst hE (v := nI 1) dX6_takesBit_154 (by decide) ?_
              refine j_iadd hE dX6_takesBit_155 ?_
              refine b_ast1 hE rfl (by omega) (by decide) dX6_takesBit_156 ?_
              refine j_aload_n hE (i := 0) dX6_takesBit_157 rfl rfl ?_
              refine j_cVv hE mlX6_109 gB_0 (fun l hl => c_X6_beginsFrame hl K F h0 _ _ _ _ _ _ _) rfl rfl (Nat.le_of_ble_eq_true rfl) (by decide) (by decide) (by omega) (by omega) dX6_takesBit_158 (fun G9 hs9 hp => ?_) (fun _ _ h => h.elim)
              subst hp
              refine j_vret hE hQ (by omega) (by omega) dX6_takesBit_161 ?_
              refine ⟨rfl, ?_⟩
              rw [hsp]
              unfold mTB2
              first
                | (rw [if_pos h73]; done)
                | (rw [if_pos h73]; rfl)
                | rw [if_pos h73]
                | (rw [if_neg h73, if_pos h92, if_neg h104]; done)
                | (rw [if_neg h73, if_pos h92, if_neg h104]; rfl)
                | rw [if_neg h73, if_pos h92, if_neg h104]
                | (rw [if_neg h73, if_pos h92, if_pos h104]; done)
                | (rw [if_neg h73, if_pos h92, if_pos h104]; rfl)
                | rw [if_neg h73, if_pos h92, if_pos h104]
                | (rw [if_neg h73, if_neg h92, if_neg h123]; done)
                | (rw [if_neg h73, if_neg h92, if_neg h123]; rfl)
                | rw [if_neg h73, if_neg h92, if_neg h123]
                | (rw [if_neg h73, if_neg h92, if_pos h123, if_neg h135]; done)
                | (rw [if_neg h73, if_neg h92, if_pos h123, if_neg h135]; rfl)
                | rw [if_neg h73, if_neg h92, if_pos h123, if_neg h135]
                | (rw [if_neg h73, if_neg h92, if_pos h123, if_pos h135]; done)
                | (rw [if_neg h73, if_neg h92, if_pos h123, if_pos h135]; rfl)
                | rw [if_neg h73, if_neg h92, if_pos h123, if_pos h135]
        · refine j_aload_n hE (i := 0) dX6_takesBit_95 rfl rfl ?_
          refine j_get hE flX6_7 gB_0 rfl dX6_takesBit_96 ?_
          refine j_bipush hE (v := nI 16) dX6_takesBit_99 (by decide) ?_
          refine j_iald hE gB_1 rfl (by omega) (by decide) dX6_takesBit_101 ?_
          refine j_bipush hE (v := nI 16) dX6_takesBit_102 (by decide) ?_
          refine j_ic_ne hE (tgt := 161) dX6_takesBit_104 (by decide) (fun h104 => ?_) (fun h104 => ?_)
          · refine j_vret hE hQ (by omega) (by omega) dX6_takesBit_161 ?_
            refine ⟨rfl, ?_⟩
            rw [hsp]
            unfold mTB2
            first
              | (rw [if_pos h73]; done)
              | (rw [if_pos h73]; rfl)
              | rw [if_pos h73]
              | (rw [if_neg h73, if_pos h92, if_neg h104]; done)
              | (rw [if_neg h73, if_pos h92, if_neg h104]; rfl)
              | rw [if_neg h73, if_pos h92, if_neg h104]
              | (rw [if_neg h73, if_pos h92, if_pos h104]; done)
              | (rw [if_neg h73, if_pos h92, if_pos h104]; rfl)
              | rw [if_neg h73, if_pos h92, if_pos h104]
              | (rw [if_neg h73, if_neg h92, if_neg h123]; done)
              | (rw [if_neg h73, if_neg h92, if_neg h123]; rfl)
              | rw [if_neg h73, if_neg h92, if_neg h123]
              | (rw [if_neg h73, if_neg h92, if_pos h123, if_neg h135]; done)
              | (rw [if_neg h73, if_neg h92, if_pos h123, if_neg h135]; rfl)
              | rw [if_neg h73, if_neg h92, if_pos h123, if_neg h135]
              | (rw [if_neg h73, if_neg h92, if_pos h123, if_pos h135]; done)
              | (rw [if_neg h73, if_neg h92, if_pos h123, if_pos h135]; rfl)
              | rw [if_neg h73, if_neg h92, if_pos h123, if_pos h135]
          · refine j_aload_n hE (i := 0) dX6_takesBit_107 rfl rfl ?_
            refine j_cVv hE mlX6_119 gB_0 (fun l hl => c_X6_compares hl K F h0 _ _ _ _ _ _ _ W hW2 hW6 hW9) rfl rfl (Nat.le_of_ble_eq_true rfl) (by decide) (by decide) (by omega) (by omega) dX6_takesBit_108 (fun G9 hs9 hp => ?_) (fun _ _ h => h.elim)
            subst hp
            refine j_goto hE (tgt := 161) dX6_takesBit_111 (by decide) ?_
            refine j_vret hE hQ (by omega) (by omega) dX6_takesBit_161 ?_
            refine ⟨rfl, ?_⟩
            rw [hsp]
            unfold mTB2
            first
              | (rw [if_pos h73]; done)
              | (rw [if_pos h73]; rfl)
              | rw [if_pos h73]
              | (rw [if_neg h73, if_pos h92, if_neg h104]; done)
              | (rw [if_neg h73, if_pos h92, if_neg h104]; rfl)
              | rw [if_neg h73, if_pos h92, if_neg h104]
              | (rw [if_neg h73, if_pos h92, if_pos h104]; done)
              | (rw [if_neg h73, if_pos h92, if_pos h104]; rfl)
              | rw [if_neg h73, if_pos h92, if_pos h104]
              | (rw [if_neg h73, if_neg h92, if_neg h123]; done)
              | (rw [if_neg h73, if_neg h92, if_neg h123]; rfl)
              | rw [if_neg h73, if_neg h92, if_neg h123]
              | (rw [if_neg h73, if_neg h92, if_pos h123, if_neg h135]; done)
              | (rw [if_neg h73, if_neg h92, if_pos h123, if_neg h135]; rfl)
              | rw [if_neg h73, if_neg h92, if_pos h123, if_neg h135]
              | (rw [if_neg h73, if_neg h92, if_pos h123, if_pos h135]; done)
              | (rw [if_neg h73, if_neg h92, if_pos h123, if_pos h135]; rfl)
              | rw [if_neg h73, if_neg h92, if_pos h123, if_pos h135]
      · refine j_aload_n hE (i := 0) dX6_takesBit_76 rfl rfl ?_
        refine j_iload_n hE (i := 1) dX6_takesBit_77 rfl rfl ?_
        refine j_cVv hE mlX6_116 gB_0 (fun l hl => c_X6_takesOneMore hl K F h0 _ _ _ _ _ _ _ W hW2 hW6 hW9 _) rfl rfl (Nat.le_of_ble_eq_true rfl) (by decide) (by decide) (by omega) (by omega) dX6_takesBit_78 (fun G9 hs9 hp => ?_) (fun _ _ h => h.elim)
        subst hp
        refine j_goto hE (tgt := 161) dX6_takesBit_81 (by decide) ?_
        refine j_vret hE hQ (by omega) (by omega) dX6_takesBit_161 ?_
        refine ⟨rfl, ?_⟩
        rw [hsp]
        unfold mTB2
        first
          | (rw [if_pos h73]; done)
          | (rw [if_pos h73]; rfl)
          | rw [if_pos h73]
          | (rw [if_neg h73, if_pos h92, if_neg h104]; done)
          | (rw [if_neg h73, if_pos h92, if_neg h104]; rfl)
          | rw [if_neg h73, if_pos h92, if_neg h104]
          | (rw [if_neg h73, if_pos h92, if_pos h104]; done)
          | (rw [if_neg h73, if_pos h92, if_pos h104]; rfl)
          | rw [if_neg h73, if_pos h92, if_pos h104]
          | (rw [if_neg h73, if_neg h92, if_neg h123]; done)
          | (rw [if_neg h73, if_neg h92, if_neg h123]; rfl)
          | rw [if_neg h73, if_neg h92, if_neg h123]
          | (rw [if_neg h73, if_neg h92, if_pos h123, if_neg h135]; done)
          | (rw [if_neg h73, if_neg h92, if_pos h123, if_neg h135]; rfl)
          | rw [if_neg h73, if_neg h92, if_pos h123, if_neg h135]
          | (rw [if_neg h73, if_neg h92, if_pos h123, if_pos h135]; done)
          | (rw [if_neg h73, if_neg h92, if_pos h123, if_pos h135]; rfl)
          | rw [if_neg h73, if_neg h92, if_pos h123, if_pos h135]
    · refine j_iconst hE (v := nI 1) dX6_takesBit_58 (by decide) ?_
      refine j_goto hE (tgt := 63) dX6_takesBit_59 (by decide) ?_
      refine j_iadd hE dX6_takesBit_63 ?_
      refine b_ast1 hE rfl (by omega) (by decide) dX6_takesBit_64 ?_
      first
        | (obtain ⟨n2, hn2⟩ : ∃ n2, n2 = upd (upd now 17 (((now 17 <<< (nI 1 &&& 31)) ||| bit) &&& 65535)) 16 (upd now 17 (((now 17 <<< (nI 1 &&& 31)) ||| bit) &&& 65535) 16 + nI 0) := ⟨_, rfl⟩; rw [← hn2])
        | (obtain ⟨n2, hn2⟩ : ∃ n2, n2 = upd (upd now 17 (((now 17 <<< (nI 1 &&& 31)) ||| bit) &&& 65535)) 16 (upd now 17 (((now 17 <<< (nI 1 &&& 31)) ||| bit) &&& 65535) 16 + nI 1) := ⟨_, rfl⟩; rw [← hn2])
      have hW2 : n2 0 = nI W := by rw [hn2]; exact upd2_at hW (by decide) (by decide)
      have hsp : mTB now W M mm md t bit = mTB2 n2 W bit := by
        unfold mTB
        dsimp only
        rw [if_neg h8, hn2]
        first
          | rw [if_pos h55]
          | rw [if_neg h55]
      refine j_aload_n hE (i := 0) dX6_takesBit_65 rfl rfl ?_
      refine j_get hE flX6_7 gB_0 rfl dX6_takesBit_66 ?_
      refine j_bipush hE (v := nI 15) dX6_takesBit_69 (by decide) ?_
      refine j_iald hE gB_1 rfl (by omega) (by decide) dX6_takesBit_71 ?_
      refine j_iconst hE (v := nI 3) dX6_takesBit_72 (by decide) ?_
      refine j_ic_ne hE (tgt := 84) dX6_takesBit_73 (by decide) (fun h73 => ?_) (fun h73 => ?_)
      · refine j_aload_n hE (i := 0) dX6_takesBit_84 rfl rfl ?_
        refine j_get hE flX6_7 gB_0 rfl dX6_takesBit_85 ?_
        refine j_bipush hE (v := nI 15) dX6_takesBit_88 (by decide) ?_
        refine j_iald hE gB_1 rfl (by omega) (by decide) dX6_takesBit_90 ?_
        refine j_iconst hE (v := nI 2) dX6_takesBit_91 (by decide) ?_
        refine j_ic_ne hE (tgt := 114) dX6_takesBit_92 (by decide) (fun h92 => ?_) (fun h92 => ?_)
        · refine j_aload_n hE (i := 0) dX6_takesBit_114 rfl rfl ?_
          refine j_get hE flX6_7 gB_0 rfl dX6_takesBit_115 ?_
          refine j_bipush hE (v := nI 16) dX6_takesBit_118 (by decide) ?_
          refine j_iald hE gB_1 rfl (by omega) (by decide) dX6_takesBit_120 ?_
          refine j_bipush hE (v := nI 16) dX6_takesBit_121 (by decide) ?_
          refine j_ic_ne hE (tgt := 161) dX6_takesBit_123 (by decide) (fun h123 => ?_) (fun h123 => ?_)
          · refine j_vret hE hQ (by omega) (by omega) dX6_takesBit_161 ?_
            refine ⟨rfl, ?_⟩
            rw [hsp]
            unfold mTB2
            first
              | (rw [if_pos h73]; done)
              | (rw [if_pos h73]; rfl)
              | rw [if_pos h73]
              | (rw [if_neg h73, if_pos h92, if_neg h104]; done)
              | (rw [if_neg h73, if_pos h92, if_neg h104]; rfl)
              | rw [if_neg h73, if_pos h92, if_neg h104]
              | (rw [if_neg h73, if_pos h92, if_pos h104]; done)
              | (rw [if_neg h73, if_pos h92, if_pos h104]; rfl)
              | rw [if_neg h73, if_pos h92, if_pos h104]
              | (rw [if_neg h73, if_neg h92, if_neg h123]; done)
              | (rw [if_neg h73, if_neg h92, if_neg h123]; rfl)
              | rw [if_neg h73, if_neg h92, if_neg h123]
              | (rw [if_neg h73, if_neg h92, if_pos h123, if_neg h135]; done)
              | (rw [if_neg h73, if_neg h92, if_pos h123, if_neg h135]; rfl)
              | rw [if_neg h73, if_neg h92, if_pos h123, if_neg h135]
              | (rw [if_neg h73, if_neg h92, if_pos h123, if_pos h135]; done)
              | (rw [if_neg h73, if_neg h92, if_pos h123, if_pos h135]; rfl)
              | rw [if_neg h73, if_neg h92, if_pos h123, if_pos h135]
          · refine j_aload_n hE (i := 0) dX6_takesBit_126 rfl rfl ?_
            refine j_get hE flX6_7 gB_0 rfl dX6_takesBit_127 ?_
            refine j_bipush hE (v := nI 17) dX6_takesBit_130 (by decide) ?_
            refine j_iald hE gB_1 rfl (by omega) (by decide) dX6_takesBit_132 ?_
            refine j_ldc hE dX6_takesBit_133 tw_877 ?_
            refine j_ic_ne hE (tgt := 161) dX6_takesBit_135 (by decide) (fun h135 => ?_) (fun h135 => ?_)
            · refine j_vret hE hQ (by omega) (by omega) dX6_takesBit_161 ?_
              refine ⟨rfl, ?_⟩
              rw [hsp]
              unfold mTB2
              first
                | (rw [if_pos h73]; done)
                | (rw [if_pos h73]; rfl)
                | rw [if_pos h73]
                | (rw [if_neg h73, if_pos h92, if_neg h104]; done)
                | (rw [if_neg h73, if_pos h92, if_neg h104]; rfl)
                | rw [if_neg h73, if_pos h92, if_neg h104]
                | (rw [if_neg h73, if_pos h92, if_pos h104]; done)
                | (rw [if_neg h73, if_pos h92, if_pos h104]; rfl)
                | rw [if_neg h73, if_pos h92, if_pos h104]
                | (rw [if_neg h73, if_neg h92, if_neg h123]; done)
                | (rw [if_neg h73, if_neg h92, if_neg h123]; rfl)
                | rw [if_neg h73, if_neg h92, if_neg h123]
                | (rw [if_neg h73, if_neg h92, if_pos h123, if_neg h135]; done)
                | (rw [if_neg h73, if_neg h92, if_pos h123, if_neg h135]; rfl)
                | rw [if_neg h73, if_neg h92, if_pos h123, if_neg h135]
                | (rw [if_neg h73, if_neg h92, if_pos h123, if_pos h135]; done)
                | (rw [if_neg h73, if_neg h92, if_pos h123, if_pos h135]; rfl)
                | rw [if_neg h73, if_neg h92, if_pos h123, if_pos h135]
            · refine j_aload_n hE (i := 0) dX6_takesBit_138 rfl rfl ?_
              refine j_get hE flX6_7 gB_0 rfl dX6_takesBit_139 ?_
              refine j_bipush hE (v := nI 7) dX6_takesBit_142 (by decide) ?_
              refine j_iconst hE (v := nI 1) dX6_takesBit_144 (by decide) ?_
              refine b_ast1 hE rfl (by omega) (by decide) dX6_takesBit_145 ?_
              refine j_aload_n hE (i := 0) dX6_takesBit_146 rfl rfl ?_
              refine j_get hE flX6_7 gB_0 rfl dX6_takesBit_147 ?_
              refine j_bipush hE (v := nI 14) dX6_takesBit_150 (by decide) ?_
              refine j_dup2 hE dX6_takesBit_152 rfl rfl ?_
              refine j_iald hE gB_1 rfl (by omega) (by decide) dX6_takesBit_153 ?_
              refine j_iconst hE (v := nI 1) dX6_takesBit_154 (by decide) ?_
              refine j_iadd hE dX6_takesBit_155 ?_
              refine b_ast1 hE rfl (by omega) (by decide) dX6_takesBit_156 ?_
              refine j_aload_n hE (i := 0) dX6_takesBit_157 rfl rfl ?_
              refine j_cVv hE mlX6_109 gB_0 (fun l hl => c_X6_beginsFrame hl K F h0 _ _ _ _ _ _ _) rfl rfl (Nat.le_of_ble_eq_true rfl) (by decide) (by decide) (by omega) (by omega) dX6_takesBit_158 (fun G9 hs9 hp => ?_) (fun _ _ h => h.elim)
              subst hp
              refine j_vret hE hQ (by omega) (by omega) dX6_takesBit_161 ?_
              refine ⟨rfl, ?_⟩
              rw [hsp]
              unfold mTB2
              first
                | (rw [if_pos h73]; done)
                | (rw [if_pos h73]; rfl)
                | rw [if_pos h73]
                | (rw [if_neg h73, if_pos h92, if_neg h104]; done)
                | (rw [if_neg h73, if_pos h92, if_neg h104]; rfl)
                | rw [if_neg h73, if_pos h92, if_neg h104]
                | (rw [if_neg h73, if_pos h92, if_pos h104]; done)
                | (rw [if_neg h73, if_pos h92, if_pos h104]; rfl)
                | rw [if_neg h73, if_pos h92, if_pos h104]
                | (rw [if_neg h73, if_neg h92, if_neg h123]; done)
                | (rw [if_neg h73, if_neg h92, if_neg h123]; rfl)
                | rw [if_neg h73, if_neg h92, if_neg h123]
                | (rw [if_neg h73, if_neg h92, if_pos h123, if_neg h135]; done)
                | (rw [if_neg h73, if_neg h92, if_pos h123, if_neg h135]; rfl)
                | rw [if_neg h73, if_neg h92, if_pos h123, if_neg h135]
                | (rw [if_neg h73, if_neg h92, if_pos h123, if_pos h135]; done)
                | (rw [if_neg h73, if_neg h92, if_pos h123, if_pos h135]; rfl)
                | rw [if_neg h73, if_neg h92, if_pos h123, if_pos h135]
        · refine j_aload_n hE (i := 0) dX6_takesBit_95 rfl rfl ?_
          refine j_get hE flX6_7 gB_0 rfl dX6_takesBit_96 ?_
          refine j_bipush hE (v := nI 16) dX6_takesBit_99 (by decide) ?_
          refine j_iald hE gB_1 rfl (by omega) (by decide) dX6_takesBit_101 ?_
          refine j_bipush hE (v := nI 16) dX6_takesBit_102 (by decide) ?_
          refine j_ic_ne hE (tgt := 161) dX6_takesBit_104 (by decide) (fun h104 => ?_) (fun h104 => ?_)
          · refine j_vret hE hQ (by omega) (by omega) dX6_takesBit_161 ?_
            refine ⟨rfl, ?_⟩
            rw [hsp]
            unfold mTB2
            first
              | (rw [if_pos h73]; done)
              | (rw [if_pos h73]; rfl)
              | rw [if_pos h73]
              | (rw [if_neg h73, if_pos h92, if_neg h104]; done)
              | (rw [if_neg h73, if_pos h92, if_neg h104]; rfl)
              | rw [if_neg h73, if_pos h92, if_neg h104]
              | (rw [if_neg h73, if_pos h92, if_pos h104]; done)
              | (rw [if_neg h73, if_pos h92, if_pos h104]; rfl)
              | rw [if_neg h73, if_pos h92, if_pos h104]
              | (rw [if_neg h73, if_neg h92, if_neg h123]; done)
              | (rw [if_neg h73, if_neg h92, if_neg h123]; rfl)
              | rw [if_neg h73, if_neg h92, if_neg h123]
              | (rw [if_neg h73, if_neg h92, if_pos h123, if_neg h135]; done)
              | (rw [if_neg h73, if_neg h92, if_pos h123, if_neg h135]; rfl)
              | rw [if_neg h73, if_neg h92, if_pos h123, if_neg h135]
              | (rw [if_neg h73, if_neg h92, if_pos h123, if_pos h135]; done)
              | (rw [if_neg h73, if_neg h92, if_pos h123, if_pos h135]; rfl)
              | rw [if_neg h73, if_neg h92, if_pos h123, if_pos h135]
          · refine j_aload_n hE (i := 0) dX6_takesBit_107 rfl rfl ?_
            refine j_cVv hE mlX6_119 gB_0 (fun l hl => c_X6_compares hl K F h0 _ _ _ _ _ _ _ W hW2 hW6 hW9) rfl rfl (Nat.le_of_ble_eq_true rfl) (by decide) (by decide) (by omega) (by omega) dX6_takesBit_108 (fun G9 hs9 hp => ?_) (fun _ _ h => h.elim)
            subst hp
            refine j_goto hE (tgt := 161) dX6_takesBit_111 (by decide) ?_
            refine j_vret hE hQ (by omega) (by omega) dX6_takesBit_161 ?_
            refine ⟨rfl, ?_⟩
            rw [hsp]
            unfold mTB2
            first
              | (rw [if_pos h73]; done)
              | (rw [if_pos h73]; rfl)
              | rw [if_pos h73]
              | (rw [if_neg h73, if_pos h92, if_neg h104]; done)
              | (rw [if_neg h73, if_pos h92, if_neg h104]; rfl)
              | rw [if_neg h73, if_pos h92, if_neg h104]
              | (rw [if_neg h73, if_pos h92, if_pos h104]; done)
              | (rw [if_neg h73, if_pos h92, if_pos h104]; rfl)
              | rw [if_neg h73, if_pos h92, if_pos h104]
              | (rw [if_neg h73, if_neg h92, if_neg h123]; done)
              | (rw [if_neg h73, if_neg h92, if_neg h123]; rfl)
              | rw [if_neg h73, if_neg h92, if_neg h123]
              | (rw [if_neg h73, if_neg h92, if_pos h123, if_neg h135]; done)
              | (rw [if_neg h73, if_neg h92, if_pos h123, if_neg h135]; rfl)
              | rw [if_neg h73, if_neg h92, if_pos h123, if_neg h135]
              | (rw [if_neg h73, if_neg h92, if_pos h123, if_pos h135]; done)
              | (rw [if_neg h73, if_neg h92, if_pos h123, if_pos h135]; rfl)
              | rw [if_neg h73, if_neg h92, if_pos h123, if_pos h135]
      · refine j_aload_n hE (i := 0) dX6_takesBit_76 rfl rfl ?_
        refine j_iload_n hE (i := 1) dX6_takesBit_77 rfl rfl ?_
        refine j_cVv hE mlX6_116 gB_0 (fun l hl => c_X6_takesOneMore hl K F h0 _ _ _ _ _ _ _ W hW2 hW6 hW9 _) rfl rfl (Nat.le_of_ble_eq_true rfl) (by decide) (by decide) (by omega) (by omega) dX6_takesBit_78 (fun G9 hs9 hp => ?_) (fun _ _ h => h.elim)
        subst hp
        refine j_goto hE (tgt := 161) dX6_takesBit_81 (by decide) ?_
        refine j_vret hE hQ (by omega) (by omega) dX6_takesBit_161 ?_
        refine ⟨rfl, ?_⟩
        rw [hsp]
        unfold mTB2
        first
          | (rw [if_pos h73]; done)
          | (rw [if_pos h73]; rfl)
          | rw [if_pos h73]
          | (rw [if_neg h73, if_pos h92, if_neg h104]; done)
          | (rw [if_neg h73, if_pos h92, if_neg h104]; rfl)
          | rw [if_neg h73, if_pos h92, if_neg h104]
          | (rw [if_neg h73, if_pos h92, if_pos h104]; done)
          | (rw [if_neg h73, if_pos h92, if_pos h104]; rfl)
          | rw [if_neg h73, if_pos h92, if_pos h104]
          | (rw [if_neg h73, if_neg h92, if_neg h123]; done)
          | (rw [if_neg h73, if_neg h92, if_neg h123]; rfl)
          | rw [if_neg h73, if_neg h92, if_neg h123]
          | (rw [if_neg h73, if_neg h92, if_pos h123, if_neg h135]; done)
          | (rw [if_neg h73, if_neg h92, if_pos h123, if_neg h135]; rfl)
          | rw [if_neg h73, if_neg h92, if_pos h123, if_neg h135]
          | (rw [if_neg h73, if_neg h92, if_pos h123, if_pos h135]; done)
          | (rw [if_neg h73, if_neg h92, if_pos h123, if_pos h135]; rfl)
          | rw [if_neg h73, if_neg h92, if_pos h123, if_pos h135]
  · refine j_aload_n hE (i := 0) dX6_takesBit_11 rfl rfl ?_
    refine j_iload_n hE (i := 1) dX6_takesBit_12 rfl rfl ?_
    refine j_cVv hE mlX6_112 gB_0 (fun l hl => c_X6_takesIntoFrame hl K F h0 _ _ _ _ _ _ _ W M mm md t (hfr h8).2.2 hW hW6 hW9 (hfr h8).1 (hfr h8).2.1 _) rfl rfl (Nat.le_of_ble_eq_true rfl) (by decide) (by decide) (by omega) (by omega) dX6_takesBit_13 (fun G9 hs9 hp => ?_) (fun _ _ h => h.elim)
    subst hp
    refine j_vret hE hQ (by omega) (by omega) dX6_takesBit_16 ?_
    refine ⟨rfl, ?_⟩
    unfold mTB
    dsimp only
    first
      | (rw [if_pos h8]; done)
      | (rw [if_pos h8]; rfl)
      | rw [if_pos h8]

