/-! ===== the reference: the receiver ===== -/
theorem upd1_at {f : Nat → Int32} {a j : Nat} {x0 v : Int32} (h : f j = v) (ha : j ≠ a) : (upd f a x0) j = v := by rw [upd_n ha]; exact h
theorem upd2_at {f : Nat → Int32} {a b j : Nat} {x0 x1 v : Int32} (h : f j = v) (ha : j ≠ a) (hb : j ≠ b) : (upd (upd f a x0) b x1) j = v := by rw [upd_n hb, upd_n ha]; exact h
theorem upd3_at {f : Nat → Int32} {a b c j : Nat} {x0 x1 x2 v : Int32} (h : f j = v) (ha : j ≠ a) (hb : j ≠ b) (hc : j ≠ c) : (upd (upd (upd f a x0) b x1) c x2) j = v := by rw [upd_n hc, upd_n hb, upd_n ha]; exact h
theorem upd4_at {f : Nat → Int32} {a b c d j : Nat} {x0 x1 x2 x3 v : Int32} (h : f j = v) (ha : j ≠ a) (hb : j ≠ b) (hc : j ≠ c) (hd : j ≠ d) : (upd (upd (upd (upd f a x0) b x1) c x2) d x3) j = v := by rw [upd_n hd, upd_n hc, upd_n hb, upd_n ha]; exact h
theorem upd5_at {f : Nat → Int32} {a b c d e j : Nat} {x0 x1 x2 x3 x4 v : Int32} (h : f j = v) (ha : j ≠ a) (hb : j ≠ b) (hc : j ≠ c) (hd : j ≠ d) (he : j ≠ e) : (upd (upd (upd (upd (upd f a x0) b x1) c x2) d x3) e x4) j = v := by rw [upd_n he, upd_n hd, upd_n hc, upd_n hb, upd_n ha]; exact h
theorem upd6_at {f : Nat → Int32} {a b c d e g j : Nat} {x0 x1 x2 x3 x4 x5 v : Int32} (h : f j = v) (ha : j ≠ a) (hb : j ≠ b) (hc : j ≠ c) (hd : j ≠ d) (he : j ≠ e) (hg : j ≠ g) : (upd (upd (upd (upd (upd (upd f a x0) b x1) c x2) d x3) e x4) g x5) j = v := by rw [upd_n hg, upd_n he, upd_n hd, upd_n hc, upd_n hb, upd_n ha]; exact h
def zW (k : Nat) (now : Nat → Int32) : Nat → Int32 := upd now (19 + k) (nI 0)
def mBeg (now : Nat → Int32) : Nat → Int32 := itr zW 14 (upd (upd now 15 (nI 1)) 16 (nI 0))
/-- a received sample v of the parameter p, in the mode md -/
def mRs (now : Nat → Int32) (p md : Nat) (v : Int32) : Nat → Int32 :=
  let n1 := upd now (33 + 14 * p + 2) v
  let n2 := upd n1 (33 + 14 * p + 3) (n1 (33 + 14 * p + 3) + nI 1)
  if n2 (33 + 14 * p + (4 + 2 * md)) ≤ v ∧ v ≤ n2 (33 + 14 * p + (4 + 2 * md + 1)) then upd (upd n2 (33 + 14 * p + 11) (nI 0)) (33 + 14 * p + 12) (nI 0)
  else
    let n3 := upd n2 (33 + 14 * p + 12) (n2 (33 + 14 * p + 12) + nI 1)
    if n3 (33 + 14 * p + 12) < n3 (33 + 14 * p + 10) then n3
    else if ¬ n3 (33 + 14 * p + 11) = 0 then n3
    else
      let n4 := upd n3 (33 + 14 * p + 11) (nI 1)
      upd n4 (33 + 14 * p + 13) (n4 (33 + 14 * p + 13) + nI 1)
theorem mRs_out (now : Nat → Int32) {p md : Nat} (v : Int32) {j : Nat} (h : j < 33 + 14 * p ∨ 33 + 14 * p + 14 ≤ j) : mRs now p md v j = now j := by
  unfold mRs
  dsimp only
  split
  · rw [upd_n (by omega), upd_n (by omega), upd_n (by omega), upd_n (by omega)]
  · split
    · rw [upd_n (by omega), upd_n (by omega), upd_n (by omega)]
    · split
      · rw [upd_n (by omega), upd_n (by omega), upd_n (by omega)]
      · rw [upd_n (by omega), upd_n (by omega), upd_n (by omega), upd_n (by omega), upd_n (by omega)]
set_option maxRecDepth 100000 in
set_option maxHeartbeats 4000000 in
theorem c_X6_beginsFrame {l : Launch} (hl : l.stackTraces = false) (K : jK) (F : GH) (h0 hs : Nat) (now past : Nat → Int32) (kept thrown : Int32) (drawn : Nat → Int32) (hash : Int64) : Ct l K yX6_beginsFrame cX6_beginsFrame 2 none 0 0 0 0 [.ref h0] (gB F h0 (mC K h0 now past kept thrown drawn hash)) hs (pV (fun G' _ => G' = (gB F h0 (mC K h0 (mBeg now) past kept thrown drawn hash)))) jno := by
  refine Ct.ofA hl (by decide) (Nat.le_of_ble_eq_true rfl) (L0 := [some (.ref h0), none]) (jL_of 1 rfl) ?_
  intro A E hE hQ hX hNm
  refine j_aload_n hE (i := 0) dX6_beginsFrame_0 rfl rfl ?_
  refine j_get hE flX6_7 gB_0 rfl dX6_beginsFrame_1 ?_
  refine j_bipush hE (v := nI 15) dX6_beginsFrame_4 (by decide) ?_
  refine j_iconst hE (v := nI 1) dX6_beginsFrame_6 (by decide) ?_
  refine b_ast1 hE rfl (by omega) (by decide) dX6_beginsFrame_7 ?_
  refine j_aload_n hE (i := 0) dX6_beginsFrame_8 rfl rfl ?_
  refine j_get hE flX6_7 gB_0 rfl dX6_beginsFrame_9 ?_
  refine j_bipush hE (v := nI 16) dX6_beginsFrame_12 (by decide) ?_
  refine j_iconst hE (v := nI 0) dX6_beginsFrame_14 (by decide) ?_
  refine b_ast1 hE rfl (by omega) (by decide) dX6_beginsFrame_15 ?_
  refine j_iconst hE (v := nI 0) dX6_beginsFrame_16 (by decide) ?_
  refine j_ist1 hE dX6_beginsFrame_17 rfl (by decide) rfl ?_
  have key18 : ∀ i, i ≤ 14 → ∀ hs, J K A E 2 (gB F h0 (mC K h0 (itr zW i (upd (upd now 15 (nI 1)) 16 (nI 0))) past kept thrown drawn hash)) hs 0 0 18 [some (.ref h0), some (.int (nI i))] [] := by
    refine dloop (fun i => ∀ hs, J K A E 2 (gB F h0 (mC K h0 (itr zW i (upd (upd now 15 (nI 1)) 16 (nI 0))) past kept thrown drawn hash)) hs 0 0 18 [some (.ref h0), some (.int (nI i))] []) (14) (fun i hi18 ih18 => ?_) ?_
    · intro hs
      refine j_iload_n hE (i := 1) dX6_beginsFrame_18 rfl rfl ?_
      refine j_bipush hE (v := nI 14) dX6_beginsFrame_19 (by decide) ?_
      refine j_ic_geN hE (tgt := 40) dX6_beginsFrame_21 (by decide) (by omega) (by omega) (fun h21 => ?_) (fun h21 => ?_)
      · exfalso; omega
      · refine j_aload_n hE (i := 0) dX6_beginsFrame_24 rfl rfl ?_
        refine j_get hE flX6_7 gB_0 rfl dX6_beginsFrame_25 ?_
        refine j_bipush hE (v := nI 19) dX6_beginsFrame_28 (by decide) ?_
        refine j_iload_n hE (i := 1) dX6_beginsFrame_30 rfl rfl ?_
        refine j_iaddN hE dX6_beginsFrame_31 ?_
        refine j_iconst hE (v := nI 0) dX6_beginsFrame_32 (by decide) ?_
        refine b_ast1 hE rfl (by omega) (by decide) dX6_beginsFrame_33 ?_
        refine j_incN1 hE dX6_beginsFrame_34 (by decide) rfl ?_
        refine j_goto hE (tgt := 18) dX6_beginsFrame_37 (by decide) ?_
        exact ih18 _
    · intro hs
      refine j_iload_n hE (i := 1) dX6_beginsFrame_18 rfl rfl ?_
      refine j_bipush hE (v := nI 14) dX6_beginsFrame_19 (by decide) ?_
      refine j_ic_geN hE (tgt := 40) dX6_beginsFrame_21 (by decide) (by omega) (by omega) (fun h21 => ?_) (fun h21 => ?_)
      · refine j_vret hE hQ (by omega) (by omega) dX6_beginsFrame_40 ?_
        exact ⟨rfl, rfl⟩
      · exfalso; omega
  exact key18 0 (by omega) _

theorem mRs_1 {now : Nat → Int32} {p md : Nat} {v : Int32} (h : ¬ ¬ ((upd (upd now (33 + 14 * p + 2) v) (33 + 14 * p + 3) (upd now (33 + 14 * p + 2) v (33 + 14 * p + 3) + nI 1)) (33 + 14 * p + (4 + 2 * md)) ≤ v ∧ v ≤ (upd (upd now (33 + 14 * p + 2) v) (33 + 14 * p + 3) (upd now (33 + 14 * p + 2) v (33 + 14 * p + 3) + nI 1)) (33 + 14 * p + (4 + 2 * md + 1)))) : mRs now p md v = upd (upd (upd (upd now (33 + 14 * p + 2) v) (33 + 14 * p + 3) (upd now (33 + 14 * p + 2) v (33 + 14 * p + 3) + nI 1)) (33 + 14 * p + 11) (nI 0)) (33 + 14 * p + 12) (nI 0) := by
  unfold mRs
  dsimp only
  rw [if_pos (Classical.not_not.mp h)]
set_option maxRecDepth 100000 in
set_option maxHeartbeats 4000000 in
theorem c_X6_receivesSample {l : Launch} (hl : l.stackTraces = false) (K : jK) (F : GH) (h0 hs : Nat) (now past : Nat → Int32) (kept thrown : Int32) (drawn : Nat → Int32) (hash : Int64) (p md : Nat) (v : Int32) (hp : p < 12) (hmd : md ≤ 2) (hmode : now 6 = nI md) : Ct l K yX6_receivesSample cX6_receivesSample 4 none 1 23 0 0 [.ref h0, .int (nI p), .int v] (gB F h0 (mC K h0 now past kept thrown drawn hash)) hs (pV (fun G' _ => G' = (gB F h0 (mC K h0 (mRs now p md v) past kept thrown drawn hash)))) jno := by
  refine Ct.ofA hl (by decide) (Nat.le_of_ble_eq_true rfl) (L0 := [some (.ref h0), some (.int (nI p)), some (.int v), none]) (jL_of 1 rfl) ?_
  intro A E hE hQ hX hNm
  refine j_aload_n hE (i := 0) dX6_receivesSample_0 rfl rfl ?_
  refine j_iload_n hE (i := 1) dX6_receivesSample_1 rfl rfl ?_
  refine j_iconst hE (v := nI 2) dX6_receivesSample_2 (by decide) ?_
  refine j_iload_n hE (i := 2) dX6_receivesSample_3 rfl rfl ?_
  refine j_cVv hE mlX6_39 gB_0 (fun l hl => c_X6_put hl K F h0 _ _ _ _ _ _ _ _ _ _ (by omega)) rfl rfl (Nat.le_of_ble_eq_true rfl) (by decide) (by decide) (by omega) (by omega) dX6_receivesSample_4 (fun G9 hs9 hp => ?_) (fun _ _ h => h.elim)
  subst hp
  refine j_aload_n hE (i := 0) dX6_receivesSample_7 rfl rfl ?_
  refine j_iload_n hE (i := 1) dX6_receivesSample_8 rfl rfl ?_
  refine j_iconst hE (v := nI 3) dX6_receivesSample_9 (by decide) ?_
  refine j_aload_n hE (i := 0) dX6_receivesSample_10 rfl rfl ?_
  refine j_iload_n hE (i := 1) dX6_receivesSample_11 rfl rfl ?_
  refine j_iconst hE (v := nI 3) dX6_receivesSample_12 (by decide) ?_
  refine j_cVi hE mlX6_43 gB_0 (fun l hl => c_X6_of hl K F h0 _ _ _ _ _ _ _ _ _ (by omega)) rfl rfl (Nat.le_of_ble_eq_true rfl) (by decide) (by decide) (by omega) (by omega) dX6_receivesSample_13 (fun r G9 hs9 hp => ?_) (fun _ _ h => h.elim)
  obtain ⟨rfl, rfl⟩ := hp
  refine j_iconst hE (v := nI 1) dX6_receivesSample_16 (by decide) ?_
  refine j_iadd hE dX6_receivesSample_17 ?_
  refine j_cVv hE mlX6_39 gB_0 (fun l hl => c_X6_put hl K F h0 _ _ _ _ _ _ _ _ _ _ (by omega)) rfl rfl (Nat.le_of_ble_eq_true rfl) (by decide) (by decide) (by omega) (by omega) dX6_receivesSample_18 (fun G9 hs9 hp => ?_) (fun _ _ h => h.elim)
  subst hp
  refine j_iconst hE (v := nI 4) dX6_receivesSample_21 (by decide) ?_
  refine j_iconst hE (v := nI 2) dX6_receivesSample_22 (by decide) ?_
  refine j_aload_n hE (i := 0) dX6_receivesSample_23 rfl rfl ?_
  refine j_get hE flX6_7 gB_0 rfl dX6_receivesSample_24 ?_
  refine j_bipush hE (v := nI 6) dX6_receivesSample_27 (by decide) ?_
  refine j_iald hE gB_1 rfl (by omega) (by decide) dX6_receivesSample_29 ?_
  rw [upd2_at hmode (by omega) (by omega)]
  refine j_imulN hE dX6_receivesSample_30 ?_
  refine j_iaddN hE dX6_receivesSample_31 ?_
  refine j_ist3 hE dX6_receivesSample_32 rfl (by decide) rfl ?_
  refine j_iload_n hE (i := 2) dX6_receivesSample_33 rfl rfl ?_
  refine j_aload_n hE (i := 0) dX6_receivesSample_34 rfl rfl ?_
  refine j_iload_n hE (i := 1) dX6_receivesSample_35 rfl rfl ?_
  refine j_iload_n hE (i := 3) dX6_receivesSample_36 rfl rfl ?_
  refine j_cVi hE mlX6_43 gB_0 (fun l hl => c_X6_of hl K F h0 _ _ _ _ _ _ _ _ _ (by omega)) rfl rfl (Nat.le_of_ble_eq_true rfl) (by decide) (by decide) (by omega) (by omega) dX6_receivesSample_37 (fun r G9 hs9 hp => ?_) (fun _ _ h => h.elim)
  obtain ⟨rfl, rfl⟩ := hp
  refine j_aload_n hE (i := 0) dX6_receivesSample_40 rfl rfl ?_
  refine j_iload_n hE (i := 1) dX6_receivesSample_41 rfl rfl ?_
  refine j_iload_n hE (i := 3) dX6_receivesSample_42 rfl rfl ?_
  refine j_iconst hE (v := nI 1) dX6_receivesSample_43 (by decide) ?_
  refine j_iaddN hE dX6_receivesSample_44 ?_
  refine j_cVi hE mlX6_43 gB_0 (fun l hl => c_X6_of hl K F h0 _ _ _ _ _ _ _ _ _ (by omega)) rfl rfl (Nat.le_of_ble_eq_true rfl) (by decide) (by decide) (by omega) (by omega) dX6_receivesSample_45 (fun r G9 hs9 hp => ?_) (fun _ _ h => h.elim)
  obtain ⟨rfl, rfl⟩ := hp
  refine j_cSi hE mlX6_26 (fun l hl => c_X6_in hl K _ _ _ _ _) rfl rfl (Nat.le_of_ble_eq_true rfl) (by decide) (by decide) (by omega) (by omega) dX6_receivesSample_48 (fun r G9 hs9 hp => ?_) (fun _ _ h => h.elim)
  obtain ⟨rfl, rfl⟩ := hp
  refine j_if_eq hE (tgt := 71) dX6_receivesSample_51 (by decide) (fun h51 => ?_) (fun h51 => ?_)
  · refine j_aload_n hE (i := 0) dX6_receivesSample_71 rfl rfl ?_
    refine j_iload_n hE (i := 1) dX6_receivesSample_72 rfl rfl ?_
    refine j_bipush hE (v := nI 12) dX6_receivesSample_73 (by decide) ?_
    refine j_aload_n hE (i := 0) dX6_receivesSample_75 rfl rfl ?_
    refine j_iload_n hE (i := 1) dX6_receivesSample_76 rfl rfl ?_
    refine j_bipush hE (v := nI 12) dX6_receivesSample_77 (by decide) ?_
    refine j_cVi hE mlX6_43 gB_0 (fun l hl => c_X6_of hl K F h0 _ _ _ _ _ _ _ _ _ (by omega)) rfl rfl (Nat.le_of_ble_eq_true rfl) (by decide) (by decide) (by omega) (by omega) dX6_receivesSample_79 (fun r G9 hs9 hp => ?_) (fun _ _ h => h.elim)
    obtain ⟨rfl, rfl⟩ := hp
    refine j_iconst hE (v := nI 1) dX6_receivesSample_82 (by decide) ?_
    refine j_iadd hE dX6_receivesSample_83 ?_
    refine j_cVv hE mlX6_39 gB_0 (fun l hl => c_X6_put hl K F h0 _ _ _ _ _ _ _ _ _ _ (by omega)) rfl rfl (Nat.le_of_ble_eq_true rfl) (by decide) (by decide) (by omega) (by omega) dX6_receivesSample_84 (fun G9 hs9 hp => ?_) (fun _ _ h => h.elim)
    subst hp
    refine j_aload_n hE (i := 0) dX6_receivesSample_87 rfl rfl ?_
    refine j_iload_n hE (i := 1) dX6_receivesSample_88 rfl rfl ?_
    refine j_bipush hE (v := nI 12) dX6_receivesSample_89 (by decide) ?_
    refine j_cVi hE mlX6_43 gB_0 (fun l hl => c_X6_of hl K F h0 _ _ _ _ _ _ _ _ _ (by omega)) rfl rfl (Nat.le_of_ble_eq_true rfl) (by decide) (by decide) (by omega) (by omega) dX6_receivesSample_91 (fun r G9 hs9 hp => ?_) (fun _ _ h => h.elim)
    obtain ⟨rfl, rfl⟩ := hp
    refine j_aload_n hE (i := 0) dX6_receivesSample_94 rfl rfl ?_
    refine j_iload_n hE (i := 1) dX6_receivesSample_95 rfl rfl ?_
    refine j_bipush hE (v := nI 10) dX6_receivesSample_96 (by decide) ?_
    refine j_cVi hE mlX6_43 gB_0 (fun l hl => c_X6_of hl K F h0 _ _ _ _ _ _ _ _ _ (by omega)) rfl rfl (Nat.le_of_ble_eq_true rfl) (by decide) (by decide) (by omega) (by omega) dX6_receivesSample_98 (fun r G9 hs9 hp => ?_) (fun _ _ h => h.elim)
    obtain ⟨rfl, rfl⟩ := hp
    refine j_ic_lt hE (tgt := 138) dX6_receivesSample_101 (by decide) (fun h101 => ?_) (fun h101 => ?_)
    · refine j_vret hE hQ (by omega) (by omega) dX6_receivesSample_138 ?_
      refine ⟨rfl, ?_⟩
      unfold mRs
      dsimp only
      rw [if_neg (jbd_eq h51)]
      first
        | rw [if_pos h101]
        | rw [if_neg h101, if_pos h111]
        | rw [if_neg h101, if_neg (fun q => q h111)]
    · refine j_aload_n hE (i := 0) dX6_receivesSample_104 rfl rfl ?_
      refine j_iload_n hE (i := 1) dX6_receivesSample_105 rfl rfl ?_
      refine j_bipush hE (v := nI 11) dX6_receivesSample_106 (by decide) ?_
      refine j_cVi hE mlX6_43 gB_0 (fun l hl => c_X6_of hl K F h0 _ _ _ _ _ _ _ _ _ (by omega)) rfl rfl (Nat.le_of_ble_eq_true rfl) (by decide) (by decide) (by omega) (by omega) dX6_receivesSample_108 (fun r G9 hs9 hp => ?_) (fun _ _ h => h.elim)
      obtain ⟨rfl, rfl⟩ := hp
      refine j_if_ne hE (tgt := 138) dX6_receivesSample_111 (by decide) (fun h111 => ?_) (fun h111 => ?_)
      · refine j_vret hE hQ (by omega) (by omega) dX6_receivesSample_138 ?_
        refine ⟨rfl, ?_⟩
        unfold mRs
        dsimp only
        rw [if_neg (jbd_eq h51)]
        first
          | rw [if_pos h101]
          | rw [if_neg h101, if_pos h111]
          | rw [if_neg h101, if_neg (fun q => q h111)]
      · refine j_aload_n hE (i := 0) dX6_receivesSample_114 rfl rfl ?_
        refine j_iload_n hE (i := 1) dX6_receivesSample_115 rfl rfl ?_
        refine j_bipush hE (v := nI 11) dX6_receivesSample_116 (by decide) ?_
        refine j_iconst hE (v := nI 1) dX6_receivesSample_118 (by decide) ?_
        refine j_cVv hE mlX6_39 gB_0 (fun l hl => c_X6_put hl K F h0 _ _ _ _ _ _ _ _ _ _ (by omega)) rfl rfl (Nat.le_of_ble_eq_true rfl) (by decide) (by decide) (by omega) (by omega) dX6_receivesSample_119 (fun G9 hs9 hp => ?_) (fun _ _ h => h.elim)
        subst hp
        refine j_aload_n hE (i := 0) dX6_receivesSample_122 rfl rfl ?_
        refine j_iload_n hE (i := 1) dX6_receivesSample_123 rfl rfl ?_
        refine j_bipush hE (v := nI 13) dX6_receivesSample_124 (by decide) ?_
        refine j_aload_n hE (i := 0) dX6_receivesSample_126 rfl rfl ?_
        refine j_iload_n hE (i := 1) dX6_receivesSample_127 rfl rfl ?_
        refine j_bipush hE (v := nI 13) dX6_receivesSample_128 (by decide) ?_
        refine j_cVi hE mlX6_43 gB_0 (fun l hl => c_X6_of hl K F h0 _ _ _ _ _ _ _ _ _ (by omega)) rfl rfl (Nat.le_of_ble_eq_true rfl) (by decide) (by decide) (by omega) (by omega) dX6_receivesSample_130 (fun r G9 hs9 hp => ?_) (fun _ _ h => h.elim)
        obtain ⟨rfl, rfl⟩ := hp
        refine j_iconst hE (v := nI 1) dX6_receivesSample_133 (by decide) ?_
        refine j_iadd hE dX6_receivesSample_134 ?_
        refine j_cVv hE mlX6_39 gB_0 (fun l hl => c_X6_put hl K F h0 _ _ _ _ _ _ _ _ _ _ (by omega)) rfl rfl (Nat.le_of_ble_eq_true rfl) (by decide) (by decide) (by omega) (by omega) dX6_receivesSample_135 (fun G9 hs9 hp => ?_) (fun _ _ h => h.elim)
        subst hp
        refine j_vret hE hQ (by omega) (by omega) dX6_receivesSample_138 ?_
        refine ⟨rfl, ?_⟩
        unfold mRs
        dsimp only
        rw [if_neg (jbd_eq h51)]
        first
          | rw [if_pos h101]
          | rw [if_neg h101, if_pos h111]
          | rw [if_neg h101, if_neg (fun q => q h111)]
  · refine j_aload_n hE (i := 0) dX6_receivesSample_54 rfl rfl ?_
    refine j_iload_n hE (i := 1) dX6_receivesSample_55 rfl rfl ?_
    refine j_bipush hE (v := nI 11) dX6_receivesSample_56 (by decide) ?_
    refine j_iconst hE (v := nI 0) dX6_receivesSample_58 (by decide) ?_
    refine j_cVv hE mlX6_39 gB_0 (fun l hl => c_X6_put hl K F h0 _ _ _ _ _ _ _ _ _ _ (by omega)) rfl rfl (Nat.le_of_ble_eq_true rfl) (by decide) (by decide) (by omega) (by omega) dX6_receivesSample_59 (fun G9 hs9 hp => ?_) (fun _ _ h => h.elim)
    subst hp
    refine j_aload_n hE (i := 0) dX6_receivesSample_62 rfl rfl ?_
    refine j_iload_n hE (i := 1) dX6_receivesSample_63 rfl rfl ?_
    refine j_bipush hE (v := nI 12) dX6_receivesSample_64 (by decide) ?_
    refine j_iconst hE (v := nI 0) dX6_receivesSample_66 (by decide) ?_
    refine j_cVv hE mlX6_39 gB_0 (fun l hl => c_X6_put hl K F h0 _ _ _ _ _ _ _ _ _ _ (by omega)) rfl rfl (Nat.le_of_ble_eq_true rfl) (by decide) (by decide) (by omega) (by omega) dX6_receivesSample_67 (fun G9 hs9 hp => ?_) (fun _ _ h => h.elim)
    subst hp
    refine j_vret hE hQ (by omega) (by omega) dX6_receivesSample_70 ?_
    refine ⟨rfl, ?_⟩
    unfold mRs
    dsimp only
    rw [if_pos (jbd_ne h51)]

/-- the column 3 + j of a delivered minor frame mm -/
def mDl (mm md j : Nat) (now : Nat → Int32) : Nat → Int32 := if now (201 + 16 * mm + (3 + j)) = -1 then now else mRs now (now (201 + 16 * mm + (3 + j))).toNatClampNeg md (now (19 + (3 + j) - 2))
def mDel (now : Nat → Int32) (W M mm md : Nat) : Nat → Int32 := if mm < M then itr (mDl mm md) (W - 3) (upd now 9 (now 9 + nI 1)) else upd (upd now 9 (now 9 + nI 1)) 10 (upd now 9 (now 9 + nI 1) 10 + nI 1)
def owP (now : Nat → Int32) (k : Nat) : Prop := now (201 + k) = -1 ∨ ∃ p, p < 12 ∧ now (201 + k) = nI p
theorem mDl_out {now : Nat → Int32} {mm md j : Nat} (ho : owP now (16 * mm + (3 + j))) {i : Nat} (h : i < 33 ∨ 201 ≤ i) : mDl mm md j now i = now i := by
  unfold mDl
  rcases ho with ho | ⟨p, hp, ho⟩
  · rw [if_pos (by rw [← ho, Nat.add_assoc])]
  · have e : now (201 + 16 * mm + (3 + j)) = nI p := by rw [← ho, Nat.add_assoc]
    rw [if_neg (by rw [e]; exact nI_m1 (by omega)), e, nI_clamp (by omega)]
    exact mRs_out now _ (by omega)
theorem mDls_out {mm md : Nat} : ∀ (n : Nat) {now : Nat → Int32}, (∀ j, j < n → owP now (16 * mm + (3 + j))) → ∀ {i : Nat}, (i < 33 ∨ 201 ≤ i) → itr (mDl mm md) n now i = now i
  | 0, now, _, i, _ => rfl
  | n + 1, now, ho, i, h => by
    rw [itr_s]
    have ih : ∀ {i : Nat}, (i < 33 ∨ 201 ≤ i) → itr (mDl mm md) n now i = now i := fun h => mDls_out n (fun j hj => ho j (by omega)) h
    rw [mDl_out (by have := ho n (by omega); unfold owP at this ⊢; rw [ih (by omega)]; exact this) h]
    exact ih h
set_option maxRecDepth 100000 in
set_option maxHeartbeats 4000000 in
theorem c_X6_delivers {l : Launch} (hl : l.stackTraces = false) (K : jK) (F : GH) (h0 hs : Nat) (now past : Nat → Int32) (kept thrown : Int32) (drawn : Nat → Int32) (hash : Int64) (W M mm md : Nat) (hW : now 0 = nI W) (hM : now 1 = nI M) (hW6 : 6 ≤ W) (hW9 : W ≤ 16) (hM9 : M ≤ 8) (hmm : now 19 = nI mm) (hmm9 : mm < 2 ^ 31) (hmd : md ≤ 2) (hmode : now 6 = nI md) (how : mm < M → ∀ k, k < 16 → owP now (16 * mm + k)) : Ct l K yX6_delivers cX6_delivers 4 none 2 46 0 0 [.ref h0] (gB F h0 (mC K h0 now past kept thrown drawn hash)) hs (pV (fun G' _ => G' = (gB F h0 (mC K h0 (mDel now W M mm md) past kept thrown drawn hash)))) jno := by
  refine Ct.ofA hl (by decide) (Nat.le_of_ble_eq_true rfl) (L0 := [some (.ref h0), none, none, none]) (jL_of 3 rfl) ?_
  intro A E hE hQ hX hNm
  refine j_aload_n hE (i := 0) dX6_delivers_0 rfl rfl ?_
  refine j_get hE flX6_7 gB_0 rfl dX6_delivers_1 ?_
  refine j_bipush hE (v := nI 9) dX6_delivers_4 (by decide) ?_
  refine j_dup2 hE dX6_delivers_6 rfl rfl ?_
  refine j_iald hE gB_1 rfl (by omega) (by decide) dX6_delivers_7 ?_
  refine j_iconst hE (v := nI 1) dX6_delivers_8 (by decide) ?_
  refine j_iadd hE dX6_delivers_9 ?_
  refine b_ast1 hE rfl (by omega) (by decide) dX6_delivers_10 ?_
  refine j_aload_n hE (i := 0) dX6_delivers_11 rfl rfl ?_
  refine j_get hE flX6_7 gB_0 rfl dX6_delivers_12 ?_
  refine j_bipush hE (v := nI 19) dX6_delivers_15 (by decide) ?_
  refine j_iald hE gB_1 rfl (by omega) (by decide) dX6_delivers_17 ?_
  rw [upd_n (by decide), hmm]
  refine j_ist1 hE dX6_delivers_18 rfl (by decide) rfl ?_
  refine j_iload_n hE (i := 1) dX6_delivers_19 rfl rfl ?_
  refine j_aload_n hE (i := 0) dX6_delivers_20 rfl rfl ?_
  refine j_get hE flX6_7 gB_0 rfl dX6_delivers_21 ?_
  refine j_iconst hE (v := nI 1) dX6_delivers_24 (by decide) ?_
  refine j_iald hE gB_1 rfl (by omega) (by decide) dX6_delivers_25 ?_
  rw [upd_n (by decide), hM]
  refine j_ic_ltN hE (tgt := 41) dX6_delivers_26 (by decide) (by omega) (by omega) (fun h26 => ?_) (fun h26 => ?_)
  · refine j_iconst hE (v := nI 3) dX6_delivers_41 (by decide) ?_
    refine j_ist2 hE dX6_delivers_42 rfl (by decide) rfl ?_
    have key43 : ∀ j, j ≤ W - 3 → ∀ hs, ∀ a3, J K A E 4 (gB F h0 (mC K h0 (itr (mDl mm md) j (upd now 9 (now 9 + nI 1))) past kept thrown drawn hash)) hs 0 0 43 [some (.ref h0), some (.int (nI mm)), some (.int (nI (3 + j))), a3] [] := by
      refine dloop (fun j => ∀ hs, ∀ a3, J K A E 4 (gB F h0 (mC K h0 (itr (mDl mm md) j (upd now 9 (now 9 + nI 1))) past kept thrown drawn hash)) hs 0 0 43 [some (.ref h0), some (.int (nI mm)), some (.int (nI (3 + j))), a3] []) (W - 3) (fun j hi43 ih43 => ?_) ?_
      · intro hs
        intro a3
        obtain ⟨nw, hnw⟩ : ∃ nw, nw = itr (mDl mm md) j (upd now 9 (now 9 + nI 1)) := ⟨_, rfl⟩
        rw [← hnw]
        have hout : ∀ {i : Nat}, (i < 33 ∨ 201 ≤ i) → nw i = upd now 9 (now 9 + nI 1) i := fun h => by rw [hnw]; exact mDls_out j (fun j' hj' => by have := how h26 (3 + j') (by omega); unfold owP at this ⊢; rw [upd_n (by omega)]; exact this) h
        have hW2 : nw 0 = nI W := by rw [hout (by omega), upd_n (by decide)]; exact hW
        have hmd2 : nw 6 = nI md := by rw [hout (by omega), upd_n (by decide)]; exact hmode
        have ho2 : nw (201 + 16 * mm + (3 + j)) = -1 ∨ ∃ p, p < 12 ∧ nw (201 + 16 * mm + (3 + j)) = nI p := by
          have := how h26 (3 + j) (by omega)
          unfold owP at this
          rw [hout (by omega), upd_n (by omega), Nat.add_assoc]
          exact this
        have hst : itr (mDl mm md) (j + 1) (upd now 9 (now 9 + nI 1)) = mDl mm md j nw := by rw [itr_s, hnw]
        rw [hst] at ih43
        refine j_iload_n hE (i := 2) dX6_delivers_43 rfl rfl ?_
        refine j_aload_n hE (i := 0) dX6_delivers_44 rfl rfl ?_
        refine j_get hE flX6_7 gB_0 rfl dX6_delivers_45 ?_
        refine j_iconst hE (v := nI 0) dX6_delivers_48 (by decide) ?_
        refine j_iald hE gB_1 rfl (by omega) (by decide) dX6_delivers_49 ?_
        rw [hW2]
        refine j_ic_geN hE (tgt := 87) dX6_delivers_50 (by decide) (by omega) (by omega) (fun h50 => ?_) (fun h50 => ?_)
        · exfalso; omega
        · refine j_aload_n hE (i := 0) dX6_delivers_53 rfl rfl ?_
          refine j_iload_n hE (i := 1) dX6_delivers_54 rfl rfl ?_
          refine j_iload_n hE (i := 2) dX6_delivers_55 rfl rfl ?_
          refine j_cVi hE mlX6_82 gB_0 (fun l hl => c_X6_ownerAt hl K F h0 _ _ _ _ _ _ _ _ _ (by omega)) rfl rfl (Nat.le_of_ble_eq_true rfl) (by decide) (by decide) (by omega) (by omega) dX6_delivers_56 (fun r G9 hs9 hp => ?_) (fun _ _ h => h.elim)
          obtain ⟨rfl, rfl⟩ := hp
          refine j_ist3 hE dX6_delivers_59 rfl (by decide) rfl ?_
          refine j_iload_n hE (i := 3) dX6_delivers_60 rfl rfl ?_
          refine j_iconst hE (v := -1) dX6_delivers_61 (by decide) ?_
          refine j_ic_eq hE (tgt := 81) dX6_delivers_62 (by decide) (fun h62 => ?_) (fun h62 => ?_)
          · have q9 : mDl mm md j nw = nw := by unfold mDl; rw [if_pos h62]
            refine j_incN2 hE dX6_delivers_81 (by decide) rfl ?_
            refine j_goto hE (tgt := 43) dX6_delivers_84 (by decide) ?_
            rw [show 3 + j + 1 = 3 + (j + 1) by omega]
            rw [← q9]
            exact ih43 _ _
          · obtain ⟨p, hp, ho3⟩ := ho2.resolve_left h62
            have q9 : mDl mm md j nw = mRs nw p md (nw (19 + (3 + j) - 2)) := by unfold mDl; rw [if_neg h62, ho3, nI_clamp (by omega)]
            rw [ho3]
            refine j_aload_n hE (i := 0) dX6_delivers_65 rfl rfl ?_
            refine j_iload_n hE (i := 3) dX6_delivers_66 rfl rfl ?_
            refine j_aload_n hE (i := 0) dX6_delivers_67 rfl rfl ?_
            refine j_get hE flX6_7 gB_0 rfl dX6_delivers_68 ?_
            refine j_bipush hE (v := nI 19) dX6_delivers_71 (by decide) ?_
            refine j_iload_n hE (i := 2) dX6_delivers_73 rfl rfl ?_
            refine j_iaddN hE dX6_delivers_74 ?_
            refine j_iconst hE (v := nI 2) dX6_delivers_75 (by decide) ?_
            refine j_isubN hE dX6_delivers_76 (by omega) ?_
            refine j_iald hE gB_1 rfl (by omega) (by decide) dX6_delivers_77 ?_
            refine j_cVv hE mlX6_102 gB_0 (fun l hl => c_X6_receivesSample hl K F h0 _ _ _ _ _ _ _ _ md _ hp hmd hmd2) rfl rfl (Nat.le_of_ble_eq_true rfl) (by decide) (by decide) (by omega) (by omega) dX6_delivers_78 (fun G9 hs9 hp => ?_) (fun _ _ h => h.elim)
            subst hp
            refine j_incN2 hE dX6_delivers_81 (by decide) rfl ?_
            refine j_goto hE (tgt := 43) dX6_delivers_84 (by decide) ?_
            rw [show 3 + j + 1 = 3 + (j + 1) by omega]
            rw [← q9]
            exact ih43 _ _
      · intro hs
        intro a3
        have hW2 : itr (mDl mm md) (W - 3) (upd now 9 (now 9 + nI 1)) 0 = nI W := by
          rw [mDls_out (W - 3) (fun j' hj' => by have := how h26 (3 + j') (by omega); unfold owP at this ⊢; rw [upd_n (by omega)]; exact this) (by omega), upd_n (by decide)]
          exact hW
        refine j_iload_n hE (i := 2) dX6_delivers_43 rfl rfl ?_
        refine j_aload_n hE (i := 0) dX6_delivers_44 rfl rfl ?_
        refine j_get hE flX6_7 gB_0 rfl dX6_delivers_45 ?_
        refine j_iconst hE (v := nI 0) dX6_delivers_48 (by decide) ?_
        refine j_iald hE gB_1 rfl (by omega) (by decide) dX6_delivers_49 ?_
        rw [hW2]
        refine j_ic_geN hE (tgt := 87) dX6_delivers_50 (by decide) (by omega) (by omega) (fun h50 => ?_) (fun h50 => ?_)
        · refine j_vret hE hQ (by omega) (by omega) dX6_delivers_87 ?_
          refine ⟨rfl, ?_⟩
          unfold mDel
          rw [if_pos h26]
        · exfalso; omega
    exact key43 0 (by omega) _ _
  · refine j_aload_n hE (i := 0) dX6_delivers_29 rfl rfl ?_
    refine j_get hE flX6_7 gB_0 rfl dX6_delivers_30 ?_
    refine j_bipush hE (v := nI 10) dX6_delivers_33 (by decide) ?_
    refine j_dup2 hE dX6_delivers_35 rfl rfl ?_
    refine j_iald hE gB_1 rfl (by omega) (by decide) dX6_delivers_36 ?_
    refine j_iconst hE (v := nI 1) dX6_delivers_37 (by decide) ?_
    refine j_iadd hE dX6_delivers_38 ?_
    refine b_ast1 hE rfl (by omega) (by decide) dX6_delivers_39 ?_
    refine j_vret hE hQ (by omega) (by omega) dX6_delivers_40 ?_
    refine ⟨rfl, ?_⟩
    unfold mDel
    rw [if_neg (by omega)]

/-- what is known of the row where a minor frame may be delivered -/
def dlP (now : Nat → Int32) (W M mm md : Nat) : Prop := now 0 = nI W ∧ now 1 = nI M ∧ 6 ≤ W ∧ W ≤ 16 ∧ M ≤ 8 ∧ now 19 = nI mm ∧ mm < 2 ^ 31 ∧ md ≤ 2 ∧ now 6 = nI md ∧ (mm < M → ∀ k, k < 16 → owP now (16 * mm + k))
theorem dlP.keep {now n2 : Nat → Int32} {W M mm md : Nat} (h : dlP now W M mm md) (h0 : n2 0 = now 0) (h1 : n2 1 = now 1) (h6 : n2 6 = now 6) (h19 : n2 19 = now 19) (ho : ∀ k, 201 ≤ k → n2 k = now k) : dlP n2 W M mm md := by
  obtain ⟨q1, q2, q3, q4, q5, q6, q7, q8, q9, q10⟩ := h
  refine ⟨h0.trans q1, h1.trans q2, q3, q4, q5, h19.trans q6, q7, q8, h6.trans q9, fun hm k hk => ?_⟩
  have := q10 hm k hk
  unfold owP at this ⊢
  rw [ho _ (by omega)]
  exact this
def mTI (now : Nat → Int32) (W M mm md t : Nat) (bit : Int32) : Nat → Int32 :=
  let n1 := upd (upd (upd now (19 + t / 8) (nI 2 * now (19 + t / 8) + bit)) 18 bit) 16 (nI (t + 1))
  if t + 1 = 8 * (W - 2) then upd (upd (upd (if now 7 = nI 2 then mDel n1 W M mm md else n1) 15 (nI 2)) 16 (nI 0)) 17 (nI 0) else n1
set_option maxRecDepth 100000 in
set_option maxHeartbeats 4000000 in
theorem c_X6_takesIntoFrame {l : Launch} (hl : l.stackTraces = false) (K : jK) (F : GH) (h0 hs : Nat) (now past : Nat → Int32) (kept thrown : Int32) (drawn : Nat → Int32) (hash : Int64) (W M mm md t : Nat) (hdl : t + 1 = 8 * (W - 2) → dlP now W M mm md) (hW : now 0 = nI W) (hW6 : 6 ≤ W) (hW9 : W ≤ 16) (ht : now 16 = nI t) (ht9 : t < 8 * (W - 2)) (bit : Int32) : Ct l K yX6_takesIntoFrame cX6_takesIntoFrame 3 none 3 69 0 0 [.ref h0, .int bit] (gB F h0 (mC K h0 now past kept thrown drawn hash)) hs (pV (fun G' _ => G' = (gB F h0 (mC K h0 (mTI now W M mm md t bit) past kept thrown drawn hash)))) jno := by
  refine Ct.ofA hl (by decide) (Nat.le_of_ble_eq_true rfl) (L0 := [some (.ref h0), some (.int bit), none]) (jL_of 1 rfl) ?_
  intro A E hE hQ hX hNm
  have ht8 : t / 8 < 14 := by omega
  refine j_bipush hE (v := nI 19) dX6_takesIntoFrame_0 (by decide) ?_
  refine j_aload_n hE (i := 0) dX6_takesIntoFrame_2 rfl rfl ?_
  refine j_get hE flX6_7 gB_0 rfl dX6_takesIntoFrame_3 ?_
  refine j_bipush hE (v := nI 16) dX6_takesIntoFrame_6 (by decide) ?_
  refine j_iald hE gB_1 rfl (by omega) (by decide) dX6_takesIntoFrame_8 ?_
  rw [ht]
  refine j_bipush hE (v := nI 8) dX6_takesIntoFrame_9 (by decide) ?_
  refine j_idivN hE dX6_takesIntoFrame_11 (by omega) (by omega) (by omega) ?_
  refine j_iaddN hE dX6_takesIntoFrame_12 ?_
  refine j_ist2 hE dX6_takesIntoFrame_13 rfl (by decide) rfl ?_
  refine j_aload_n hE (i := 0) dX6_takesIntoFrame_14 rfl rfl ?_
  refine j_get hE flX6_7 gB_0 rfl dX6_takesIntoFrame_15 ?_
  refine j_iload_n hE (i := 2) dX6_takesIntoFrame_18 rfl rfl ?_
  refine j_iconst hE (v := nI 2) dX6_takesIntoFrame_19 (by decide) ?_
  refine j_aload_n hE (i := 0) dX6_takesIntoFrame_20 rfl rfl ?_
  refine j_get hE flX6_7 gB_0 rfl dX6_takesIntoFrame_21 ?_
  refine j_iload_n hE (i := 2) dX6_takesIntoFrame_24 rfl rfl ?_
  refine j_iald hE gB_1 rfl (by omega) (by decide) dX6_takesIntoFrame_25 ?_
  refine j_imul hE dX6_takesIntoFrame_26 ?_
  refine j_iload_n hE (i := 1) dX6_takesIntoFrame_27 rfl rfl ?_
  refine j_iadd hE dX6_takesIntoFrame_28 ?_
  refine b_ast1 hE rfl (by omega) (by decide) dX6_takesIntoFrame_29 ?_
  refine j_aload_n hE (i := 0) dX6_takesIntoFrame_30 rfl rfl ?_
  refine j_get hE flX6_7 gB_0 rfl dX6_takesIntoFrame_31 ?_
  refine j_bipush hE (v := nI 18) dX6_takesIntoFrame_34 (by decide) ?_
  refine j_iload_n hE (i := 1) dX6_takesIntoFrame_36 rfl rfl ?_
  refine b_ast1 hE rfl (by omega) (by decide) dX6_takesIntoFrame_37 ?_
  refine j_aload_n hE (i := 0) dX6_takesIntoFrame_38 rfl rfl ?_
  refine j_get hE flX6_7 gB_0 rfl dX6_takesIntoFrame_39 ?_
  refine j_bipush hE (v := nI 16) dX6_takesIntoFrame_42 (by decide) ?_
  refine j_dup2 hE dX6_takesIntoFrame_44 rfl rfl ?_
  refine j_iald hE gB_1 rfl (by omega) (by decide) dX6_takesIntoFrame_45 ?_
  rw [upd2_at ht (by omega) (by omega)]
  refine j_iconst hE (v := nI 1) dX6_takesIntoFrame_46 (by decide) ?_
  refine j_iaddN hE dX6_takesIntoFrame_47 ?_
  refine b_ast1 hE rfl (by omega) (by decide) dX6_takesIntoFrame_48 ?_
  refine j_aload_n hE (i := 0) dX6_takesIntoFrame_49 rfl rfl ?_
  refine j_get hE flX6_7 gB_0 rfl dX6_takesIntoFrame_50 ?_
  refine j_bipush hE (v := nI 16) dX6_takesIntoFrame_53 (by decide) ?_
  refine j_iald hE gB_1 rfl (by omega) (by decide) dX6_takesIntoFrame_55 ?_
  rw [upd_s]
  refine j_bipush hE (v := nI 8) dX6_takesIntoFrame_56 (by decide) ?_
  refine j_aload_n hE (i := 0) dX6_takesIntoFrame_58 rfl rfl ?_
  refine j_get hE flX6_7 gB_0 rfl dX6_takesIntoFrame_59 ?_
  refine j_iconst hE (v := nI 0) dX6_takesIntoFrame_62 (by decide) ?_
  refine j_iald hE gB_1 rfl (by omega) (by decide) dX6_takesIntoFrame_63 ?_
  rw [upd3_at hW (by omega) (by omega) (by omega)]
  refine j_iconst hE (v := nI 2) dX6_takesIntoFrame_64 (by decide) ?_
  refine j_isubN hE dX6_takesIntoFrame_65 (by omega) ?_
  refine j_imulN hE dX6_takesIntoFrame_66 ?_
  refine j_ic_neN hE (tgt := 109) dX6_takesIntoFrame_67 (by decide) (by omega) (by omega) (fun h67 => ?_) (fun h67 => ?_)
  · refine j_vret hE hQ (by omega) (by omega) dX6_takesIntoFrame_109 ?_
    refine ⟨rfl, ?_⟩
    unfold mTI
    dsimp only
    first
      | rw [if_neg h67]
      | rw [if_pos h67, if_neg h78]
      | rw [if_pos h67, if_pos h78]
  · have hd9 : dlP (upd (upd (upd now (19 + t / 8) (nI 2 * now (19 + t / 8) + bit)) 18 bit) 16 (nI (t + 1))) W M mm md := (hdl h67).keep (upd3_at rfl (by omega) (by omega) (by omega)) (upd3_at rfl (by omega) (by omega) (by omega)) (upd3_at rfl (by omega) (by omega) (by omega)) (upd3_at rfl (by omega) (by omega) (by omega)) (fun k hk => upd3_at rfl (by omega) (by omega) (by omega))
    refine j_aload_n hE (i := 0) dX6_takesIntoFrame_70 rfl rfl ?_
    refine j_get hE flX6_7 gB_0 rfl dX6_takesIntoFrame_71 ?_
    refine j_bipush hE (v := nI 7) dX6_takesIntoFrame_74 (by decide) ?_
    refine j_iald hE gB_1 rfl (by omega) (by decide) dX6_takesIntoFrame_76 ?_
    rw [upd3_at (rfl : now 7 = now 7) (by omega) (by omega) (by omega)]
    refine j_iconst hE (v := nI 2) dX6_takesIntoFrame_77 (by decide) ?_
    refine j_ic_ne hE (tgt := 85) dX6_takesIntoFrame_78 (by decide) (fun h78 => ?_) (fun h78 => ?_)
    · refine j_aload_n hE (i := 0) dX6_takesIntoFrame_85 rfl rfl ?_
      refine j_get hE flX6_7 gB_0 rfl dX6_takesIntoFrame_86 ?_
      refine j_bipush hE (v := nI 15) dX6_takesIntoFrame_89 (by decide) ?_
      refine j_iconst hE (v := nI 2) dX6_takesIntoFrame_91 (by decide) ?_
      refine b_ast1 hE rfl (by omega) (by decide) dX6_takesIntoFrame_92 ?_
      refine j_aload_n hE (i := 0) dX6_takesIntoFrame_93 rfl rfl ?_
      refine j_get hE flX6_7 gB_0 rfl dX6_takesIntoFrame_94 ?_
      refine j_bipush hE (v := nI 16) dX6_takesIntoFrame_97 (by decide) ?_
      refine j_iconst hE (v := nI 0) dX6_takesIntoFrame_99 (by decide) ?_
      refine b_ast1 hE rfl (by omega) (by decide) dX6_takesIntoFrame_100 ?_
      refine j_aload_n hE (i := 0) dX6_takesIntoFrame_101 rfl rfl ?_
      refine j_get hE flX6_7 gB_0 rfl dX6_takesIntoFrame_102 ?_
      refine j_bipush hE (v := nI 17) dX6_takesIntoFrame_105 (by decide) ?_
      refine j_iconst hE (v := nI 0) dX6_takesIntoFrame_107 (by decide) ?_
      refine b_ast1 hE rfl (by omega) (by decide) dX6_takesIntoFrame_108 ?_
      refine j_vret hE hQ (by omega) (by omega) dX6_takesIntoFrame_109 ?_
      refine ⟨rfl, ?_⟩
      unfold mTI
      dsimp only
      first
        | rw [if_neg h67]
        | rw [if_pos h67, if_neg h78]
        | rw [if_pos h67, if_pos h78]
    · refine j_aload_n hE (i := 0) dX6_takesIntoFrame_81 rfl rfl ?_
      refine j_cVv hE mlX6_105 gB_0 (fun l hl => c_X6_delivers hl K F h0 _ _ _ _ _ _ _ W M mm md hd9.1 hd9.2.1 hW6 hW9 hd9.2.2.2.2.1 hd9.2.2.2.2.2.1 hd9.2.2.2.2.2.2.1 hd9.2.2.2.2.2.2.2.1 hd9.2.2.2.2.2.2.2.2.1 hd9.2.2.2.2.2.2.2.2.2) rfl rfl (Nat.le_of_ble_eq_true rfl) (by decide) (by decide) (by omega) (by omega) dX6_takesIntoFrame_82 (fun G9 hs9 hp => ?_) (fun _ _ h => h.elim)
      subst hp
      refine j_aload_n hE (i := 0) dX6_takesIntoFrame_85 rfl rfl ?_
      refine j_get hE flX6_7 gB_0 rfl dX6_takesIntoFrame_86 ?_
      refine j_bipush hE (v := nI 15) dX6_takesIntoFrame_89 (by decide) ?_
      refine j_iconst hE (v := nI 2) dX6_takesIntoFrame_91 (by decide) ?_
      refine b_ast1 hE rfl (by omega) (by decide) dX6_takesIntoFrame_92 ?_
      refine j_aload_n hE (i := 0) dX6_takesIntoFrame_93 rfl rfl ?_
      refine j_get hE flX6_7 gB_0 rfl dX6_takesIntoFrame_94 ?_
      refine j_bipush hE (v := nI 16) dX6_takesIntoFrame_97 (by decide) ?_
      refine j_iconst hE (v := nI 0) dX6_takesIntoFrame_99 (by decide) ?_
      refine b_ast1 hE rfl (by omega) (by decide) dX6_takesIntoFrame_100 ?_
      refine j_aload_n hE (i := 0) dX6_takesIntoFrame_101 rfl rfl ?_
      refine j_get hE flX6_7 gB_0 rfl dX6_takesIntoFrame_102 ?_
      refine j_bipush hE (v := nI 17) dX6_takesIntoFrame_105 (by decide) ?_
      refine j_iconst hE (v := nI 0) dX6_takesIntoFrame_107 (by decide) ?_
      refine b_ast1 hE rfl (by omega) (by decide) dX6_takesIntoFrame_108 ?_
      refine j_vret hE hQ (by omega) (by omega) dX6_takesIntoFrame_109 ?_
      refine ⟨rfl, ?_⟩
      unfold mTI
      dsimp only
      first
        | rw [if_neg h67]
        | rw [if_pos h67, if_neg h78]
        | rw [if_pos h67, if_pos h78]

