/-! ===== the reference: the channel disturbed, receiving, the digest, a new object ===== -/
def rmB (j i : Nat) (now : Nat → Int32) : Nat → Int32 := upd now (329 + (j + i)) (now (329 + (j + i) + 1))
def inB (b i : Nat) (now : Nat → Int32) : Nat → Int32 := upd now (329 + (b - i)) (now (329 + (b - i) - 1))
def shB (c i : Nat) (now : Nat → Int32) : Nat → Int32 := upd now (329 + i) (now (329 + i + c))
theorem rmB_out (j : Nat) (now : Nat → Int32) {i : Nat} (h : i < 329) : ∀ n, itr (rmB j) n now i = now i
  | 0 => rfl
  | n + 1 => by
    rw [itr_s]
    unfold rmB
    rw [upd_n (by omega)]
    exact rmB_out j now h n
theorem inB_out (b : Nat) (now : Nat → Int32) {i : Nat} (h : i < 329) : ∀ n, itr (inB b) n now i = now i
  | 0 => rfl
  | n + 1 => by
    rw [itr_s]
    unfold inB
    rw [upd_n (by omega)]
    exact inB_out b now h n
theorem shB_out (c : Nat) (now : Nat → Int32) {i : Nat} (h : i < 329) : ∀ n, itr (shB c) n now i = now i
  | 0 => rfl
  | n + 1 => by
    rw [itr_s]
    unfold shB
    rw [upd_n (by omega)]
    exact shB_out c now h n
def mRem (now : Nat → Int32) (b j : Nat) : Nat → Int32 := itr (rmB j) (b - 1 - j) (upd now 5 (nI (b - 1)))
def mIns (now : Nat → Int32) (b j : Nat) (bit : Int32) : Nat → Int32 := upd (upd (itr (inB b) (b - j) now) (329 + j) bit) 5 (nI (b + 1))
set_option maxRecDepth 100000 in
set_option maxHeartbeats 4000000 in
theorem c_X6_removes {l : Launch} (hl : l.stackTraces = false) (K : jK) (F : GH) (h0 hs : Nat) (now past : Nat → Int32) (kept thrown : Int32) (drawn : Nat → Int32) (hash : Int64) (b j : Nat) (hb : now 5 = nI b) (hb9 : b ≤ 2048) (hj : j < b) : Ct l K yX6_removes cX6_removes 3 none 0 0 0 0 [.ref h0, .int (nI j)] (gB F h0 (mC K h0 now past kept thrown drawn hash)) hs (pV (fun G' _ => G' = (gB F h0 (mC K h0 (mRem now b j) past kept thrown drawn hash)))) jno := by
  refine Ct.ofA hl (by decide) (Nat.le_of_ble_eq_true rfl) (L0 := [some (.ref h0), some (.int (nI j)), none]) (jL_of 1 rfl) ?_
  intro A E hE hQ hX hNm
  refine j_aload_n hE (i := 0) dX6_removes_0 rfl rfl ?_
  refine j_get hE flX6_7 gB_0 rfl dX6_removes_1 ?_
  refine j_iconst hE (v := nI 5) dX6_removes_4 (by decide) ?_
  refine j_dup2 hE dX6_removes_5 rfl rfl ?_
  refine j_iald hE gB_1 rfl (by omega) (by decide) dX6_removes_6 ?_
  rw [hb]
  refine j_iconst hE (v := nI 1) dX6_removes_7 (by decide) ?_
  refine j_isubN hE dX6_removes_8 (by omega) ?_
  refine b_ast1 hE rfl (by omega) (by decide) dX6_removes_9 ?_
  refine j_iload_n hE (i := 1) dX6_removes_10 rfl rfl ?_
  refine j_ist2 hE dX6_removes_11 rfl (by decide) rfl ?_
  have key12 : ∀ i, i ≤ b - 1 - j → ∀ hs, J K A E 3 (gB F h0 (mC K h0 (itr (rmB j) i (upd now 5 (nI (b - 1)))) past kept thrown drawn hash)) hs 0 0 12 [some (.ref h0), some (.int (nI j)), some (.int (nI (j + i)))] [] := by
    refine dloop (fun i => ∀ hs, J K A E 3 (gB F h0 (mC K h0 (itr (rmB j) i (upd now 5 (nI (b - 1)))) past kept thrown drawn hash)) hs 0 0 12 [some (.ref h0), some (.int (nI j)), some (.int (nI (j + i)))] []) (b - 1 - j) (fun i hi12 ih12 => ?_) ?_
    · intro hs
      have h5 : itr (rmB j) i (upd now 5 (nI (b - 1))) 5 = nI (b - 1) := (rmB_out j _ (by decide) i).trans (upd_s _ _ _)
      refine j_iload_n hE (i := 2) dX6_removes_12 rfl rfl ?_
      refine j_aload_n hE (i := 0) dX6_removes_13 rfl rfl ?_
      refine j_get hE flX6_7 gB_0 rfl dX6_removes_14 ?_
      refine j_iconst hE (v := nI 5) dX6_removes_17 (by decide) ?_
      refine j_iald hE gB_1 rfl (by omega) (by decide) dX6_removes_18 ?_
      rw [h5]
      refine j_ic_geN hE (tgt := 50) dX6_removes_19 (by decide) (by omega) (by omega) (fun h19 => ?_) (fun h19 => ?_)
      · exfalso; omega
      · refine j_aload_n hE (i := 0) dX6_removes_22 rfl rfl ?_
        refine j_get hE flX6_7 gB_0 rfl dX6_removes_23 ?_
        refine j_sipush hE (v := nI 329) dX6_removes_26 (by decide) ?_
        refine j_iload_n hE (i := 2) dX6_removes_29 rfl rfl ?_
        refine j_iaddN hE dX6_removes_30 ?_
        refine j_aload_n hE (i := 0) dX6_removes_31 rfl rfl ?_
        refine j_get hE flX6_7 gB_0 rfl dX6_removes_32 ?_
        refine j_sipush hE (v := nI 329) dX6_removes_35 (by decide) ?_
        refine j_iload_n hE (i := 2) dX6_removes_38 rfl rfl ?_
        refine j_iaddN hE dX6_removes_39 ?_
        refine j_iconst hE (v := nI 1) dX6_removes_40 (by decide) ?_
        refine j_iaddN hE dX6_removes_41 ?_
        refine j_iald hE gB_1 rfl (by omega) (by decide) dX6_removes_42 ?_
        refine b_ast1 hE rfl (by omega) (by decide) dX6_removes_43 ?_
        refine j_incN2 hE dX6_removes_44 (by decide) rfl ?_
        refine j_goto hE (tgt := 12) dX6_removes_47 (by decide) ?_
        exact ih12 _
    · intro hs
      have h5 : itr (rmB j) (b - 1 - j) (upd now 5 (nI (b - 1))) 5 = nI (b - 1) := (rmB_out j _ (by decide) _).trans (upd_s _ _ _)
      refine j_iload_n hE (i := 2) dX6_removes_12 rfl rfl ?_
      refine j_aload_n hE (i := 0) dX6_removes_13 rfl rfl ?_
      refine j_get hE flX6_7 gB_0 rfl dX6_removes_14 ?_
      refine j_iconst hE (v := nI 5) dX6_removes_17 (by decide) ?_
      refine j_iald hE gB_1 rfl (by omega) (by decide) dX6_removes_18 ?_
      rw [h5]
      refine j_ic_geN hE (tgt := 50) dX6_removes_19 (by decide) (by omega) (by omega) (fun h19 => ?_) (fun h19 => ?_)
      · refine j_vret hE hQ (by omega) (by omega) dX6_removes_50 ?_
        exact ⟨rfl, rfl⟩
      · exfalso; omega
  exact key12 0 (by omega) _

set_option maxRecDepth 100000 in
set_option maxHeartbeats 4000000 in
theorem c_X6_inserts {l : Launch} (hl : l.stackTraces = false) (K : jK) (F : GH) (h0 hs : Nat) (now past : Nat → Int32) (kept thrown : Int32) (drawn : Nat → Int32) (hash : Int64) (b j : Nat) (hb : now 5 = nI b) (hb9 : b < 2048) (hj : j < b) (bit : Int32) : Ct l K yX6_inserts cX6_inserts 4 none 0 0 0 0 [.ref h0, .int (nI j), .int bit] (gB F h0 (mC K h0 now past kept thrown drawn hash)) hs (pV (fun G' _ => G' = (gB F h0 (mC K h0 (mIns now b j bit) past kept thrown drawn hash)))) jno := by
  refine Ct.ofA hl (by decide) (Nat.le_of_ble_eq_true rfl) (L0 := [some (.ref h0), some (.int (nI j)), some (.int bit), none]) (jL_of 1 rfl) ?_
  intro A E hE hQ hX hNm
  refine j_aload_n hE (i := 0) dX6_inserts_0 rfl rfl ?_
  refine j_get hE flX6_7 gB_0 rfl dX6_inserts_1 ?_
  refine j_iconst hE (v := nI 5) dX6_inserts_4 (by decide) ?_
  refine j_iald hE gB_1 rfl (by omega) (by decide) dX6_inserts_5 ?_
  rw [hb]
  refine j_ist3 hE dX6_inserts_6 rfl (by decide) rfl ?_
  have key7 : ∀ i, i ≤ b - j → ∀ hs, J K A E 4 (gB F h0 (mC K h0 (itr (inB b) i now) past kept thrown drawn hash)) hs 0 0 7 [some (.ref h0), some (.int (nI j)), some (.int bit), some (.int (nI (b - i)))] [] := by
    refine dloop (fun i => ∀ hs, J K A E 4 (gB F h0 (mC K h0 (itr (inB b) i now) past kept thrown drawn hash)) hs 0 0 7 [some (.ref h0), some (.int (nI j)), some (.int bit), some (.int (nI (b - i)))] []) (b - j) (fun i hi7 ih7 => ?_) ?_
    · intro hs
      obtain ⟨u, hu⟩ : ∃ u, b - i = u + 1 := ⟨b - i - 1, by omega⟩
      have hst : itr (inB b) (i + 1) now = upd (itr (inB b) i now) (329 + (u + 1)) (itr (inB b) i now (329 + (u + 1) - 1)) := by rw [itr_s]; unfold inB; rw [hu]
      rw [hst, show b - (i + 1) = u by omega] at ih7
      rw [hu]
      refine j_iload_n hE (i := 3) dX6_inserts_7 rfl rfl ?_
      refine j_iload_n hE (i := 1) dX6_inserts_8 rfl rfl ?_
      refine j_ic_leN hE (tgt := 40) dX6_inserts_9 (by decide) (by omega) (by omega) (fun h9 => ?_) (fun h9 => ?_)
      · exfalso; omega
      · refine j_aload_n hE (i := 0) dX6_inserts_12 rfl rfl ?_
        refine j_get hE flX6_7 gB_0 rfl dX6_inserts_13 ?_
        refine j_sipush hE (v := nI 329) dX6_inserts_16 (by decide) ?_
        refine j_iload_n hE (i := 3) dX6_inserts_19 rfl rfl ?_
        refine j_iaddN hE dX6_inserts_20 ?_
        refine j_aload_n hE (i := 0) dX6_inserts_21 rfl rfl ?_
        refine j_get hE flX6_7 gB_0 rfl dX6_inserts_22 ?_
        refine j_sipush hE (v := nI 329) dX6_inserts_25 (by decide) ?_
        refine j_iload_n hE (i := 3) dX6_inserts_28 rfl rfl ?_
        refine j_iaddN hE dX6_inserts_29 ?_
        refine j_iconst hE (v := nI 1) dX6_inserts_30 (by decide) ?_
        refine j_isubN hE dX6_inserts_31 (by omega) ?_
        refine j_iald hE gB_1 rfl (by omega) (by decide) dX6_inserts_32 ?_
        refine b_ast1 hE rfl (by omega) (by decide) dX6_inserts_33 ?_
        refine j_inc3 hE dX6_inserts_34 (nI_dec _) (by decide) rfl ?_
        refine j_goto hE (tgt := 7) dX6_inserts_37 (by decide) ?_
        exact ih7 _
    · intro hs
      refine j_iload_n hE (i := 3) dX6_inserts_7 rfl rfl ?_
      refine j_iload_n hE (i := 1) dX6_inserts_8 rfl rfl ?_
      refine j_ic_leN hE (tgt := 40) dX6_inserts_9 (by decide) (by omega) (by omega) (fun h9 => ?_) (fun h9 => ?_)
      · refine j_aload_n hE (i := 0) dX6_inserts_40 rfl rfl ?_
        refine j_get hE flX6_7 gB_0 rfl dX6_inserts_41 ?_
        refine j_sipush hE (v := nI 329) dX6_inserts_44 (by decide) ?_
        refine j_iload_n hE (i := 1) dX6_inserts_47 rfl rfl ?_
        refine j_iaddN hE dX6_inserts_48 ?_
        refine j_iload_n hE (i := 2) dX6_inserts_49 rfl rfl ?_
        refine b_ast1 hE rfl (by omega) (by decide) dX6_inserts_50 ?_
        refine j_aload_n hE (i := 0) dX6_inserts_51 rfl rfl ?_
        refine j_get hE flX6_7 gB_0 rfl dX6_inserts_52 ?_
        refine j_iconst hE (v := nI 5) dX6_inserts_55 (by decide) ?_
        refine j_dup2 hE dX6_inserts_56 rfl rfl ?_
        refine j_iald hE gB_1 rfl (by omega) (by decide) dX6_inserts_57 ?_
        rw [upd1_at ((inB_out b now (by decide) _).trans hb) (by omega)]
        refine j_iconst hE (v := nI 1) dX6_inserts_58 (by decide) ?_
        refine j_iaddN hE dX6_inserts_59 ?_
        refine b_ast1 hE rfl (by omega) (by decide) dX6_inserts_60 ?_
        refine j_vret hE hQ (by omega) (by omega) dX6_inserts_61 ?_
        exact ⟨rfl, rfl⟩
      · exfalso; omega
  exact key7 0 (by omega) _

set_option maxRecDepth 100000 in
set_option maxHeartbeats 4000000 in
theorem c_X6_disturb_0 {l : Launch} (hl : l.stackTraces = false) (K : jK) (F : GH) (h0 hs : Nat) (now past : Nat → Int32) (thrown : Int32) (k : Nat) (hk : k ≤ 4) (drawn : Nat → Int32) (hash : Int64) (b j : Nat) (hb : now 5 = nI b) (hb9 : b ≤ 2048) (hj : j < b) : Ct l K yX6_disturb cX6_disturb 3 (some .int) 2 43 0 0 [.ref h0, .int (nI 0), .int (nI j)] (gB F h0 (mC K h0 now past (nI k) thrown drawn hash)) hs (pI (fun z9 G' _ => z9 = nI b ∧ G' = (gB F h0 (mC K h0 (upd now (329 + j) (nI 1 - now (329 + j))) (mKeep now past k) (nI (mKept k)) (nI 0) drawn hash)))) jno := by
  refine Ct.ofA hl (by decide) (Nat.le_of_ble_eq_true rfl) (L0 := [some (.ref h0), some (.int (nI 0)), some (.int (nI j))]) (jL_of 0 rfl) ?_
  intro A E hE hQ hX hNm
  refine j_aload_n hE (i := 0) dX6_disturb_0 rfl rfl ?_
  refine j_iload_n hE (i := 1) dX6_disturb_1 rfl rfl ?_
  refine j_iconst hE (v := nI 0) dX6_disturb_2 (by decide) ?_
  refine j_iconst hE (v := nI 3) dX6_disturb_3 (by decide) ?_
  refine j_cSi hE mlX6_26 (fun l hl => c_X6_in_t hl K _ _ _ _ _ (rg_t (by omega) (by omega) (by decide))) rfl rfl (Nat.le_of_ble_eq_true rfl) (by decide) (by decide) (by omega) (by omega) dX6_disturb_4 (fun r G9 hs9 hp => ?_) (fun _ _ h => h.elim)
  obtain ⟨rfl, rfl⟩ := hp
  refine j_if_neN hE (tgt := 14) dX6_disturb_7 (by decide) (by omega) (fun h7 => ?_) (fun h7 => ?_)
  · refine j_aload_n hE (i := 0) dX6_disturb_14 rfl rfl ?_
    refine j_iload_n hE (i := 2) dX6_disturb_15 rfl rfl ?_
    refine j_cVi hE mlX6_91 gB_0 (fun l hl => c_X6_isBit_t hl K F h0 _ _ _ _ _ _ _ b _ hb (by omega) hj) rfl rfl (Nat.le_of_ble_eq_true rfl) (by decide) (by decide) (by omega) (by omega) dX6_disturb_16 (fun r G9 hs9 hp => ?_) (fun _ _ h => h.elim)
    obtain ⟨rfl, rfl⟩ := hp
    refine j_if_neN hE (tgt := 26) dX6_disturb_19 (by decide) (by omega) (fun h19 => ?_) (fun h19 => ?_)
    · refine j_iload_n hE (i := 1) dX6_disturb_26 rfl rfl ?_
      refine j_iconst hE (v := nI 1) dX6_disturb_27 (by decide) ?_
      refine j_ic_leN hE (tgt := 47) dX6_disturb_28 (by decide) (by omega) (by omega) (fun h28 => ?_) (fun h28 => ?_)
      · refine j_iconst hE (v := nI 0) dX6_disturb_47 (by decide) ?_
        refine b_put3 hE flX6_19 rfl rfl dX6_disturb_48 ?_
        refine j_aload_n hE (i := 0) dX6_disturb_51 rfl rfl ?_
        refine j_get hE flX6_19 gB_0 rfl dX6_disturb_52 ?_
        refine j_if_eqN hE (tgt := 60) dX6_disturb_55 (by decide) (by omega) (fun h55 => ?_) (fun h55 => ?_)
        · refine j_aload_n hE (i := 0) dX6_disturb_60 rfl rfl ?_
          refine j_cVv hE mlX6_33 gB_0 (fun l hl => c_X6_keep hl K F h0 _ _ _ _ _ hk _ _) rfl rfl (Nat.le_of_ble_eq_true rfl) (by decide) (by decide) (by omega) (by omega) dX6_disturb_61 (fun G9 hs9 hp => ?_) (fun _ _ h => h.elim)
          subst hp
          refine j_iload_n hE (i := 1) dX6_disturb_64 rfl rfl ?_
          refine j_if_neN hE (tgt := 93) dX6_disturb_65 (by decide) (by omega) (fun h65 => ?_) (fun h65 => ?_)
          · exfalso; omega
          · refine j_aload_n hE (i := 0) dX6_disturb_68 rfl rfl ?_
            refine j_get hE flX6_7 gB_0 rfl dX6_disturb_69 ?_
            refine j_sipush hE (v := nI 329) dX6_disturb_72 (by decide) ?_
            refine j_iload_n hE (i := 2) dX6_disturb_75 rfl rfl ?_
            refine j_iaddN hE dX6_disturb_76 ?_
            refine j_iconst hE (v := nI 1) dX6_disturb_77 (by decide) ?_
            refine j_aload_n hE (i := 0) dX6_disturb_78 rfl rfl ?_
            refine j_get hE flX6_7 gB_0 rfl dX6_disturb_79 ?_
            refine j_sipush hE (v := nI 329) dX6_disturb_82 (by decide) ?_
            refine j_iload_n hE (i := 2) dX6_disturb_85 rfl rfl ?_
            refine j_iaddN hE dX6_disturb_86 ?_
            refine j_iald hE gB_1 rfl (by omega) (by decide) dX6_disturb_87 ?_
            refine j_isub hE dX6_disturb_88 ?_
            refine b_ast1 hE rfl (by omega) (by decide) dX6_disturb_89 ?_
            refine j_goto hE (tgt := 114) dX6_disturb_90 (by decide) ?_
            refine j_aload_n hE (i := 0) dX6_disturb_114 rfl rfl ?_
            refine j_get hE flX6_7 gB_0 rfl dX6_disturb_115 ?_
            refine j_iconst hE (v := nI 5) dX6_disturb_118 (by decide) ?_
            refine j_iald hE gB_1 rfl (by omega) (by decide) dX6_disturb_119 ?_
            rw [upd1_at hb (by omega)]
            refine j_iret hE hQ rfl (by omega) (by omega) dX6_disturb_120 ?_
            exact ⟨_, rfl, rfl, rfl⟩
        · exfalso; omega
      · exfalso; omega
    · exfalso; omega
  · exfalso; omega

set_option maxRecDepth 100000 in
set_option maxHeartbeats 4000000 in
theorem c_X6_disturb_1 {l : Launch} (hl : l.stackTraces = false) (K : jK) (F : GH) (h0 hs : Nat) (now past : Nat → Int32) (thrown : Int32) (k : Nat) (hk : k ≤ 4) (drawn : Nat → Int32) (hash : Int64) (b j : Nat) (hb : now 5 = nI b) (hb9 : b ≤ 2048) (hj : j < b) : Ct l K yX6_disturb cX6_disturb 3 (some .int) 2 43 0 0 [.ref h0, .int (nI 1), .int (nI j)] (gB F h0 (mC K h0 now past (nI k) thrown drawn hash)) hs (pI (fun z9 G' _ => z9 = nI (b - 1) ∧ G' = (gB F h0 (mC K h0 (mRem now b j) (mKeep now past k) (nI (mKept k)) (nI 0) drawn hash)))) jno := by
  refine Ct.ofA hl (by decide) (Nat.le_of_ble_eq_true rfl) (L0 := [some (.ref h0), some (.int (nI 1)), some (.int (nI j))]) (jL_of 0 rfl) ?_
  intro A E hE hQ hX hNm
  refine j_aload_n hE (i := 0) dX6_disturb_0 rfl rfl ?_
  refine j_iload_n hE (i := 1) dX6_disturb_1 rfl rfl ?_
  refine j_iconst hE (v := nI 0) dX6_disturb_2 (by decide) ?_
  refine j_iconst hE (v := nI 3) dX6_disturb_3 (by decide) ?_
  refine j_cSi hE mlX6_26 (fun l hl => c_X6_in_t hl K _ _ _ _ _ (rg_t (by omega) (by omega) (by decide))) rfl rfl (Nat.le_of_ble_eq_true rfl) (by decide) (by decide) (by omega) (by omega) dX6_disturb_4 (fun r G9 hs9 hp => ?_) (fun _ _ h => h.elim)
  obtain ⟨rfl, rfl⟩ := hp
  refine j_if_neN hE (tgt := 14) dX6_disturb_7 (by decide) (by omega) (fun h7 => ?_) (fun h7 => ?_)
  · refine j_aload_n hE (i := 0) dX6_disturb_14 rfl rfl ?_
    refine j_iload_n hE (i := 2) dX6_disturb_15 rfl rfl ?_
    refine j_cVi hE mlX6_91 gB_0 (fun l hl => c_X6_isBit_t hl K F h0 _ _ _ _ _ _ _ b _ hb (by omega) hj) rfl rfl (Nat.le_of_ble_eq_true rfl) (by decide) (by decide) (by omega) (by omega) dX6_disturb_16 (fun r G9 hs9 hp => ?_) (fun _ _ h => h.elim)
    obtain ⟨rfl, rfl⟩ := hp
    refine j_if_neN hE (tgt := 26) dX6_disturb_19 (by decide) (by omega) (fun h19 => ?_) (fun h19 => ?_)
    · refine j_iload_n hE (i := 1) dX6_disturb_26 rfl rfl ?_
      refine j_iconst hE (v := nI 1) dX6_disturb_27 (by decide) ?_
      refine j_ic_leN hE (tgt := 47) dX6_disturb_28 (by decide) (by omega) (by omega) (fun h28 => ?_) (fun h28 => ?_)
      · refine j_iconst hE (v := nI 0) dX6_disturb_47 (by decide) ?_
        refine b_put3 hE flX6_19 rfl rfl dX6_disturb_48 ?_
        refine j_aload_n hE (i := 0) dX6_disturb_51 rfl rfl ?_
        refine j_get hE flX6_19 gB_0 rfl dX6_disturb_52 ?_
        refine j_if_eqN hE (tgt := 60) dX6_disturb_55 (by decide) (by omega) (fun h55 => ?_) (fun h55 => ?_)
        · refine j_aload_n hE (i := 0) dX6_disturb_60 rfl rfl ?_
          refine j_cVv hE mlX6_33 gB_0 (fun l hl => c_X6_keep hl K F h0 _ _ _ _ _ hk _ _) rfl rfl (Nat.le_of_ble_eq_true rfl) (by decide) (by decide) (by omega) (by omega) dX6_disturb_61 (fun G9 hs9 hp => ?_) (fun _ _ h => h.elim)
          subst hp
          refine j_iload_n hE (i := 1) dX6_disturb_64 rfl rfl ?_
          refine j_if_neN hE (tgt := 93) dX6_disturb_65 (by decide) (by omega) (fun h65 => ?_) (fun h65 => ?_)
          · refine j_iload_n hE (i := 1) dX6_disturb_93 rfl rfl ?_
            refine j_iconst hE (v := nI 1) dX6_disturb_94 (by decide) ?_
            refine j_ic_neN hE (tgt := 106) dX6_disturb_95 (by decide) (by omega) (by omega) (fun h95 => ?_) (fun h95 => ?_)
            · exfalso; omega
            · refine j_aload_n hE (i := 0) dX6_disturb_98 rfl rfl ?_
              refine j_iload_n hE (i := 2) dX6_disturb_99 rfl rfl ?_
              refine j_cVv hE mlX6_94 gB_0 (fun l hl => c_X6_removes hl K F h0 _ _ _ _ _ _ _ b _ hb hb9 hj) rfl rfl (Nat.le_of_ble_eq_true rfl) (by decide) (by decide) (by omega) (by omega) dX6_disturb_100 (fun G9 hs9 hp => ?_) (fun _ _ h => h.elim)
              subst hp
              refine j_goto hE (tgt := 114) dX6_disturb_103 (by decide) ?_
              refine j_aload_n hE (i := 0) dX6_disturb_114 rfl rfl ?_
              refine j_get hE flX6_7 gB_0 rfl dX6_disturb_115 ?_
              refine j_iconst hE (v := nI 5) dX6_disturb_118 (by decide) ?_
              refine j_iald hE gB_1 rfl (by omega) (by decide) dX6_disturb_119 ?_
              rw [show mRem now b j 5 = nI (b - 1) from (rmB_out j _ (by decide) _).trans (upd_s _ _ _)]
              refine j_iret hE hQ rfl (by omega) (by omega) dX6_disturb_120 ?_
              exact ⟨_, rfl, rfl, rfl⟩
          · exfalso; omega
        · exfalso; omega
      · exfalso; omega
    · exfalso; omega
  · exfalso; omega

set_option maxRecDepth 100000 in
set_option maxHeartbeats 4000000 in
theorem c_X6_disturb_2 {l : Launch} (hl : l.stackTraces = false) (K : jK) (F : GH) (h0 hs : Nat) (now past : Nat → Int32) (thrown : Int32) (k : Nat) (hk : k ≤ 4) (drawn : Nat → Int32) (hash : Int64) (b j : Nat) (hb : now 5 = nI b) (hb9 : b < 2048) (hj : j < b) (kd : Nat) (hk2 : 2 ≤ kd) (hk3 : kd ≤ 3) : Ct l K yX6_disturb cX6_disturb 3 (some .int) 2 43 0 0 [.ref h0, .int (nI kd), .int (nI j)] (gB F h0 (mC K h0 now past (nI k) thrown drawn hash)) hs (pI (fun z9 G' _ => z9 = nI (b + 1) ∧ G' = (gB F h0 (mC K h0 (mIns now b j (nI (kd - 2))) (mKeep now past k) (nI (mKept k)) (nI 0) drawn hash)))) jno := by
  refine Ct.ofA hl (by decide) (Nat.le_of_ble_eq_true rfl) (L0 := [some (.ref h0), some (.int (nI kd)), some (.int (nI j))]) (jL_of 0 rfl) ?_
  intro A E hE hQ hX hNm
  refine j_aload_n hE (i := 0) dX6_disturb_0 rfl rfl ?_
  refine j_iload_n hE (i := 1) dX6_disturb_1 rfl rfl ?_
  refine j_iconst hE (v := nI 0) dX6_disturb_2 (by decide) ?_
  refine j_iconst hE (v := nI 3) dX6_disturb_3 (by decide) ?_
  refine j_cSi hE mlX6_26 (fun l hl => c_X6_in_t hl K _ _ _ _ _ (rg_t (by omega) (by omega) (by decide))) rfl rfl (Nat.le_of_ble_eq_true rfl) (by decide) (by decide) (by omega) (by omega) dX6_disturb_4 (fun r G9 hs9 hp => ?_) (fun _ _ h => h.elim)
  obtain ⟨rfl, rfl⟩ := hp
  refine j_if_neN hE (tgt := 14) dX6_disturb_7 (by decide) (by omega) (fun h7 => ?_) (fun h7 => ?_)
  · refine j_aload_n hE (i := 0) dX6_disturb_14 rfl rfl ?_
    refine j_iload_n hE (i := 2) dX6_disturb_15 rfl rfl ?_
    refine j_cVi hE mlX6_91 gB_0 (fun l hl => c_X6_isBit_t hl K F h0 _ _ _ _ _ _ _ b _ hb (by omega) hj) rfl rfl (Nat.le_of_ble_eq_true rfl) (by decide) (by decide) (by omega) (by omega) dX6_disturb_16 (fun r G9 hs9 hp => ?_) (fun _ _ h => h.elim)
    obtain ⟨rfl, rfl⟩ := hp
    refine j_if_neN hE (tgt := 26) dX6_disturb_19 (by decide) (by omega) (fun h19 => ?_) (fun h19 => ?_)
    · refine j_iload_n hE (i := 1) dX6_disturb_26 rfl rfl ?_
      refine j_iconst hE (v := nI 1) dX6_disturb_27 (by decide) ?_
      refine j_ic_leN hE (tgt := 47) dX6_disturb_28 (by decide) (by omega) (by omega) (fun h28 => ?_) (fun h28 => ?_)
      · exfalso; omega
      · refine j_aload_n hE (i := 0) dX6_disturb_31 rfl rfl ?_
        refine j_get hE flX6_7 gB_0 rfl dX6_disturb_32 ?_
        refine j_iconst hE (v := nI 5) dX6_disturb_35 (by decide) ?_
        refine j_iald hE gB_1 rfl (by omega) (by decide) dX6_disturb_36 ?_
        rw [hb]
        refine j_sipush hE (v := nI 2048) dX6_disturb_37 (by decide) ?_
        refine j_ic_neN hE (tgt := 47) dX6_disturb_40 (by decide) (by omega) (by omega) (fun h40 => ?_) (fun h40 => ?_)
        · refine j_iconst hE (v := nI 0) dX6_disturb_47 (by decide) ?_
          refine b_put3 hE flX6_19 rfl rfl dX6_disturb_48 ?_
          refine j_aload_n hE (i := 0) dX6_disturb_51 rfl rfl ?_
          refine j_get hE flX6_19 gB_0 rfl dX6_disturb_52 ?_
          refine j_if_eqN hE (tgt := 60) dX6_disturb_55 (by decide) (by omega) (fun h55 => ?_) (fun h55 => ?_)
          · refine j_aload_n hE (i := 0) dX6_disturb_60 rfl rfl ?_
            refine j_cVv hE mlX6_33 gB_0 (fun l hl => c_X6_keep hl K F h0 _ _ _ _ _ hk _ _) rfl rfl (Nat.le_of_ble_eq_true rfl) (by decide) (by decide) (by omega) (by omega) dX6_disturb_61 (fun G9 hs9 hp => ?_) (fun _ _ h => h.elim)
            subst hp
            refine j_iload_n hE (i := 1) dX6_disturb_64 rfl rfl ?_
            refine j_if_neN hE (tgt := 93) dX6_disturb_65 (by decide) (by omega) (fun h65 => ?_) (fun h65 => ?_)
            · refine j_iload_n hE (i := 1) dX6_disturb_93 rfl rfl ?_
              refine j_iconst hE (v := nI 1) dX6_disturb_94 (by decide) ?_
              refine j_ic_neN hE (tgt := 106) dX6_disturb_95 (by decide) (by omega) (by omega) (fun h95 => ?_) (fun h95 => ?_)
              · refine j_aload_n hE (i := 0) dX6_disturb_106 rfl rfl ?_
                refine j_iload_n hE (i := 2) dX6_disturb_107 rfl rfl ?_
                refine j_iload_n hE (i := 1) dX6_disturb_108 rfl rfl ?_
                refine j_iconst hE (v := nI 2) dX6_disturb_109 (by decide) ?_
                refine j_isubN hE dX6_disturb_110 (by omega) ?_
                refine j_cVv hE mlX6_98 gB_0 (fun l hl => c_X6_inserts hl K F h0 _ _ _ _ _ _ _ b _ hb hb9 hj _) rfl rfl (Nat.le_of_ble_eq_true rfl) (by decide) (by decide) (by omega) (by omega) dX6_disturb_111 (fun G9 hs9 hp => ?_) (fun _ _ h => h.elim)
                subst hp
                refine j_aload_n hE (i := 0) dX6_disturb_114 rfl rfl ?_
                refine j_get hE flX6_7 gB_0 rfl dX6_disturb_115 ?_
                refine j_iconst hE (v := nI 5) dX6_disturb_118 (by decide) ?_
                refine j_iald hE gB_1 rfl (by omega) (by decide) dX6_disturb_119 ?_
                rw [show mIns now b j (nI (kd - 2)) 5 = nI (b + 1) from upd_s _ _ _]
                refine j_iret hE hQ rfl (by omega) (by omega) dX6_disturb_120 ?_
                exact ⟨_, rfl, rfl, rfl⟩
              · exfalso; omega
            · exfalso; omega
          · exfalso; omega
        · exfalso; omega
    · exfalso; omega
  · exfalso; omega

set_option maxRecDepth 100000 in
set_option maxHeartbeats 4000000 in
theorem c_X6_disturb_f1 {l : Launch} (hl : l.stackTraces = false) (K : jK) (F : GH) (h0 hs : Nat) (now past : Nat → Int32) (thrown : Int32) (k : Nat) (hk : k ≤ 4) (drawn : Nat → Int32) (hash : Int64) (p q : Int32) (hp : ∀ j, 0 ≤ j → j ≤ 3 → p ≠ nI j) : Ct l K yX6_disturb cX6_disturb 3 (some .int) 2 43 0 0 [.ref h0, .int p, .int q] (gB F h0 (mC K h0 now past (nI k) thrown drawn hash)) hs (pI (fun z9 G' _ => z9 = nI 0 ∧ G' = (gB F h0 (mC K h0 now past (nI k) (nI 1) drawn hash)))) jno := by
  refine Ct.ofA hl (by decide) (Nat.le_of_ble_eq_true rfl) (L0 := [some (.ref h0), some (.int p), some (.int q)]) (jL_of 0 rfl) ?_
  intro A E hE hQ hX hNm
  refine j_aload_n hE (i := 0) dX6_disturb_0 rfl rfl ?_
  refine j_iload_n hE (i := 1) dX6_disturb_1 rfl rfl ?_
  refine j_iconst hE (v := nI 0) dX6_disturb_2 (by decide) ?_
  refine j_iconst hE (v := nI 3) dX6_disturb_3 (by decide) ?_
  refine j_cSi hE mlX6_26 (fun l hl => c_X6_in_f hl K _ _ _ _ _ (rg_f hp (by decide) (by decide))) rfl rfl (Nat.le_of_ble_eq_true rfl) (by decide) (by decide) (by omega) (by omega) dX6_disturb_4 (fun r G9 hs9 hp => ?_) (fun _ _ h => h.elim)
  obtain ⟨rfl, rfl⟩ := hp
  refine j_if_neN hE (tgt := 14) dX6_disturb_7 (by decide) (by omega) (fun h7 => ?_) (fun h7 => ?_)
  · exfalso; omega
  · refine j_iconst hE (v := nI 1) dX6_disturb_10 (by decide) ?_
    refine j_goto hE (tgt := 48) dX6_disturb_11 (by decide) ?_
    refine b_put3 hE flX6_19 rfl rfl dX6_disturb_48 ?_
    refine j_aload_n hE (i := 0) dX6_disturb_51 rfl rfl ?_
    refine j_get hE flX6_19 gB_0 rfl dX6_disturb_52 ?_
    refine j_if_eqN hE (tgt := 60) dX6_disturb_55 (by decide) (by omega) (fun h55 => ?_) (fun h55 => ?_)
    · exfalso; omega
    · refine j_iconst hE (v := nI 0) dX6_disturb_58 (by decide) ?_
      refine j_iret hE hQ rfl (by omega) (by omega) dX6_disturb_59 ?_
      exact ⟨_, rfl, rfl, rfl⟩

set_option maxRecDepth 100000 in
set_option maxHeartbeats 4000000 in
theorem c_X6_disturb_f2 {l : Launch} (hl : l.stackTraces = false) (K : jK) (F : GH) (h0 hs : Nat) (now past : Nat → Int32) (thrown : Int32) (k : Nat) (hk : k ≤ 4) (drawn : Nat → Int32) (hash : Int64) (b kd : Nat) (hb : now 5 = nI b) (hb9 : b ≤ 2048) (hk3 : kd ≤ 3) (q : Int32) (hq : ∀ j, j < b → q ≠ nI j) : Ct l K yX6_disturb cX6_disturb 3 (some .int) 2 43 0 0 [.ref h0, .int (nI kd), .int q] (gB F h0 (mC K h0 now past (nI k) thrown drawn hash)) hs (pI (fun z9 G' _ => z9 = nI 0 ∧ G' = (gB F h0 (mC K h0 now past (nI k) (nI 2) drawn hash)))) jno := by
  refine Ct.ofA hl (by decide) (Nat.le_of_ble_eq_true rfl) (L0 := [some (.ref h0), some (.int (nI kd)), some (.int q)]) (jL_of 0 rfl) ?_
  intro A E hE hQ hX hNm
  refine j_aload_n hE (i := 0) dX6_disturb_0 rfl rfl ?_
  refine j_iload_n hE (i := 1) dX6_disturb_1 rfl rfl ?_
  refine j_iconst hE (v := nI 0) dX6_disturb_2 (by decide) ?_
  refine j_iconst hE (v := nI 3) dX6_disturb_3 (by decide) ?_
  refine j_cSi hE mlX6_26 (fun l hl => c_X6_in_t hl K _ _ _ _ _ (rg_t (by omega) (by omega) (by decide))) rfl rfl (Nat.le_of_ble_eq_true rfl) (by decide) (by decide) (by omega) (by omega) dX6_disturb_4 (fun r G9 hs9 hp => ?_) (fun _ _ h => h.elim)
  obtain ⟨rfl, rfl⟩ := hp
  refine j_if_neN hE (tgt := 14) dX6_disturb_7 (by decide) (by omega) (fun h7 => ?_) (fun h7 => ?_)
  · refine j_aload_n hE (i := 0) dX6_disturb_14 rfl rfl ?_
    refine j_iload_n hE (i := 2) dX6_disturb_15 rfl rfl ?_
    refine j_cVi hE mlX6_91 gB_0 (fun l hl => c_X6_isBit_f hl K F h0 _ _ _ _ _ _ _ b _ hb hb9 hq) rfl rfl (Nat.le_of_ble_eq_true rfl) (by decide) (by decide) (by omega) (by omega) dX6_disturb_16 (fun r G9 hs9 hp => ?_) (fun _ _ h => h.elim)
    obtain ⟨rfl, rfl⟩ := hp
    refine j_if_neN hE (tgt := 26) dX6_disturb_19 (by decide) (by omega) (fun h19 => ?_) (fun h19 => ?_)
    · exfalso; omega
    · refine j_iconst hE (v := nI 2) dX6_disturb_22 (by decide) ?_
      refine j_goto hE (tgt := 48) dX6_disturb_23 (by decide) ?_
      refine b_put3 hE flX6_19 rfl rfl dX6_disturb_48 ?_
      refine j_aload_n hE (i := 0) dX6_disturb_51 rfl rfl ?_
      refine j_get hE flX6_19 gB_0 rfl dX6_disturb_52 ?_
      refine j_if_eqN hE (tgt := 60) dX6_disturb_55 (by decide) (by omega) (fun h55 => ?_) (fun h55 => ?_)
      · exfalso; omega
      · refine j_iconst hE (v := nI 0) dX6_disturb_58 (by decide) ?_
        refine j_iret hE hQ rfl (by omega) (by omega) dX6_disturb_59 ?_
        exact ⟨_, rfl, rfl, rfl⟩
  · exfalso; omega

set_option maxRecDepth 100000 in
set_option maxHeartbeats 4000000 in
theorem c_X6_disturb_f3 {l : Launch} (hl : l.stackTraces = false) (K : jK) (F : GH) (h0 hs : Nat) (now past : Nat → Int32) (thrown : Int32) (k : Nat) (hk : k ≤ 4) (drawn : Nat → Int32) (hash : Int64) (kd j : Nat) (hb : now 5 = nI 2048) (hj : j < 2048) (hk2 : 2 ≤ kd) (hk3 : kd ≤ 3) : Ct l K yX6_disturb cX6_disturb 3 (some .int) 2 43 0 0 [.ref h0, .int (nI kd), .int (nI j)] (gB F h0 (mC K h0 now past (nI k) thrown drawn hash)) hs (pI (fun z9 G' _ => z9 = nI 0 ∧ G' = (gB F h0 (mC K h0 now past (nI k) (nI 3) drawn hash)))) jno := by
  refine Ct.ofA hl (by decide) (Nat.le_of_ble_eq_true rfl) (L0 := [some (.ref h0), some (.int (nI kd)), some (.int (nI j))]) (jL_of 0 rfl) ?_
  intro A E hE hQ hX hNm
  refine j_aload_n hE (i := 0) dX6_disturb_0 rfl rfl ?_
  refine j_iload_n hE (i := 1) dX6_disturb_1 rfl rfl ?_
  refine j_iconst hE (v := nI 0) dX6_disturb_2 (by decide) ?_
  refine j_iconst hE (v := nI 3) dX6_disturb_3 (by decide) ?_
  refine j_cSi hE mlX6_26 (fun l hl => c_X6_in_t hl K _ _ _ _ _ (rg_t (by omega) (by omega) (by decide))) rfl rfl (Nat.le_of_ble_eq_true rfl) (by decide) (by decide) (by omega) (by omega) dX6_disturb_4 (fun r G9 hs9 hp => ?_) (fun _ _ h => h.elim)
  obtain ⟨rfl, rfl⟩ := hp
  refine j_if_neN hE (tgt := 14) dX6_disturb_7 (by decide) (by omega) (fun h7 => ?_) (fun h7 => ?_)
  · refine j_aload_n hE (i := 0) dX6_disturb_14 rfl rfl ?_
    refine j_iload_n hE (i := 2) dX6_disturb_15 rfl rfl ?_
    refine j_cVi hE mlX6_91 gB_0 (fun l hl => c_X6_isBit_t hl K F h0 _ _ _ _ _ _ _ 2048 _ hb (by omega) hj) rfl rfl (Nat.le_of_ble_eq_true rfl) (by decide) (by decide) (by omega) (by omega) dX6_disturb_16 (fun r G9 hs9 hp => ?_) (fun _ _ h => h.elim)
    obtain ⟨rfl, rfl⟩ := hp
    refine j_if_neN hE (tgt := 26) dX6_disturb_19 (by decide) (by omega) (fun h19 => ?_) (fun h19 => ?_)
    · refine j_iload_n hE (i := 1) dX6_disturb_26 rfl rfl ?_
      refine j_iconst hE (v := nI 1) dX6_disturb_27 (by decide) ?_
      refine j_ic_leN hE (tgt := 47) dX6_disturb_28 (by decide) (by omega) (by omega) (fun h28 => ?_) (fun h28 => ?_)
      · exfalso; omega
      · refine j_aload_n hE (i := 0) dX6_disturb_31 rfl rfl ?_
        refine j_get hE flX6_7 gB_0 rfl dX6_disturb_32 ?_
        refine j_iconst hE (v := nI 5) dX6_disturb_35 (by decide) ?_
        refine j_iald hE gB_1 rfl (by omega) (by decide) dX6_disturb_36 ?_
        rw [hb]
        refine j_sipush hE (v := nI 2048) dX6_disturb_37 (by decide) ?_
        refine j_ic_neN hE (tgt := 47) dX6_disturb_40 (by decide) (by omega) (by omega) (fun h40 => ?_) (fun h40 => ?_)
        · exfalso; omega
        · refine j_iconst hE (v := nI 3) dX6_disturb_43 (by decide) ?_
          refine j_goto hE (tgt := 48) dX6_disturb_44 (by decide) ?_
          refine b_put3 hE flX6_19 rfl rfl dX6_disturb_48 ?_
          refine j_aload_n hE (i := 0) dX6_disturb_51 rfl rfl ?_
          refine j_get hE flX6_19 gB_0 rfl dX6_disturb_52 ?_
          refine j_if_eqN hE (tgt := 60) dX6_disturb_55 (by decide) (by omega) (fun h55 => ?_) (fun h55 => ?_)
          · exfalso; omega
          · refine j_iconst hE (v := nI 0) dX6_disturb_58 (by decide) ?_
            refine j_iret hE hQ rfl (by omega) (by omega) dX6_disturb_59 ?_
            exact ⟨_, rfl, rfl, rfl⟩
    · exfalso; omega
  · exfalso; omega

def hx (h : Int64) (x : Int32) : Int64 := 31 * h + x.toInt64
def hP (now : Nat → Int32) (W k : Nat) (h : Int64) : Int64 := if k % 16 < W then hx h (now (201 + k)) else h
def hA (now : Nat → Int32) (a k : Nat) (h : Int64) : Int64 := hx h (now (a + k))
def mHp (now : Nat → Int32) (W M : Nat) (pl : Nat) (h : Int64) : Int64 := if pl = 1 then itr (hP now W) (16 * M) (hx h (nI 1)) else hx h (nI 0)
set_option maxRecDepth 100000 in
set_option maxHeartbeats 4000000 in
theorem c_X6_mixPlan_t {l : Launch} (hl : l.stackTraces = false) (K : jK) (F : GH) (h0 hs : Nat) (now past : Nat → Int32) (kept thrown : Int32) (drawn : Nat → Int32) (hash : Int64) (W M : Nat) (hW : now 0 = nI W) (hM : now 1 = nI M) (hW9 : W ≤ 16) (hM1 : 1 ≤ M) (hM9 : M ≤ 8) (hpl : now 3 = nI 1) : Ct l K yX6_mixPlan cX6_mixPlan 2 none 1 22 0 0 [.ref h0] (gB F h0 (mC K h0 now past kept thrown drawn hash)) hs (pV (fun G' _ => G' = (gB F h0 (mC K h0 now past kept thrown drawn (itr (hP now W) (16 * M) (hx hash (nI 1))))))) jno := by
  refine Ct.ofA hl (by decide) (Nat.le_of_ble_eq_true rfl) (L0 := [some (.ref h0), none]) (jL_of 1 rfl) ?_
  intro A E hE hQ hX hNm
  refine j_aload_n hE (i := 0) dX6_mixPlan_0 rfl rfl ?_
  refine j_aload_n hE (i := 0) dX6_mixPlan_1 rfl rfl ?_
  refine j_get hE flX6_7 gB_0 rfl dX6_mixPlan_2 ?_
  refine j_iconst hE (v := nI 3) dX6_mixPlan_5 (by decide) ?_
  refine j_iald hE gB_1 rfl (by omega) (by decide) dX6_mixPlan_6 ?_
  rw [hpl]
  refine j_i2l hE dX6_mixPlan_7 ?_
  refine j_cVv hE mlX6_134 gB_0 (fun l hl => c_X6_mix hl K F h0 _ _ _ _ _ _ _ _) rfl rfl (Nat.le_of_ble_eq_true rfl) (by decide) (by decide) (by omega) (by omega) dX6_mixPlan_8 (fun G9 hs9 hp => ?_) (fun _ _ h => h.elim)
  subst hp
  refine j_iconst hE (v := nI 0) dX6_mixPlan_11 (by decide) ?_
  refine j_ist1 hE dX6_mixPlan_12 rfl (by decide) rfl ?_
  have key13 : ∀ i, i ≤ 16 * M → ∀ hs, J K A E 2 (gB F h0 (mC K h0 now past kept thrown drawn (itr (hP now W) i (hx hash (nI 1))))) hs 0 0 13 [some (.ref h0), some (.int (nI i))] [] := by
    refine dloop (fun i => ∀ hs, J K A E 2 (gB F h0 (mC K h0 now past kept thrown drawn (itr (hP now W) i (hx hash (nI 1))))) hs 0 0 13 [some (.ref h0), some (.int (nI i))] []) (16 * M) (fun i hi13 ih13 => ?_) ?_
    · intro hs
      have hm16 : i % 16 < 16 := Nat.mod_lt _ (by omega)
      rw [itr_s] at ih13
      refine j_iload_n hE (i := 1) dX6_mixPlan_13 rfl rfl ?_
      refine j_bipush hE (v := nI 16) dX6_mixPlan_14 (by decide) ?_
      refine j_aload_n hE (i := 0) dX6_mixPlan_16 rfl rfl ?_
      refine j_get hE flX6_7 gB_0 rfl dX6_mixPlan_17 ?_
      refine j_iconst hE (v := nI 1) dX6_mixPlan_20 (by decide) ?_
      refine j_iald hE gB_1 rfl (by omega) (by decide) dX6_mixPlan_21 ?_
      rw [hM]
      refine j_imulN hE dX6_mixPlan_22 ?_
      refine j_ic_geN hE (tgt := 70) dX6_mixPlan_23 (by decide) (by omega) (by omega) (fun h23 => ?_) (fun h23 => ?_)
      · exfalso; omega
      · refine j_aload_n hE (i := 0) dX6_mixPlan_26 rfl rfl ?_
        refine j_get hE flX6_7 gB_0 rfl dX6_mixPlan_27 ?_
        refine j_iconst hE (v := nI 3) dX6_mixPlan_30 (by decide) ?_
        refine j_iald hE gB_1 rfl (by omega) (by decide) dX6_mixPlan_31 ?_
        rw [hpl]
        refine j_iconst hE (v := nI 1) dX6_mixPlan_32 (by decide) ?_
        refine j_ic_neN hE (tgt := 70) dX6_mixPlan_33 (by decide) (by omega) (by omega) (fun h33 => ?_) (fun h33 => ?_)
        · exfalso; omega
        · refine j_iload_n hE (i := 1) dX6_mixPlan_36 rfl rfl ?_
          refine j_bipush hE (v := nI 16) dX6_mixPlan_37 (by decide) ?_
          refine j_iremN hE dX6_mixPlan_39 (by omega) (by omega) (by omega) ?_
          refine j_aload_n hE (i := 0) dX6_mixPlan_40 rfl rfl ?_
          refine j_get hE flX6_7 gB_0 rfl dX6_mixPlan_41 ?_
          refine j_iconst hE (v := nI 0) dX6_mixPlan_44 (by decide) ?_
          refine j_iald hE gB_1 rfl (by omega) (by decide) dX6_mixPlan_45 ?_
          rw [hW]
          refine j_ic_geN hE (tgt := 64) dX6_mixPlan_46 (by decide) (by omega) (by omega) (fun h46 => ?_) (fun h46 => ?_)
          · have q9 : hP now W i (itr (hP now W) i (hx hash (nI 1))) = itr (hP now W) i (hx hash (nI 1)) := if_neg (by omega)
            rw [q9] at ih13
            refine j_incN1 hE dX6_mixPlan_64 (by decide) rfl ?_
            refine j_goto hE (tgt := 13) dX6_mixPlan_67 (by decide) ?_
            exact ih13 _
          · have q9 : hP now W i (itr (hP now W) i (hx hash (nI 1))) = hx (itr (hP now W) i (hx hash (nI 1))) (now (201 + i)) := if_pos h46
            rw [q9] at ih13
            refine j_aload_n hE (i := 0) dX6_mixPlan_49 rfl rfl ?_
            refine j_aload_n hE (i := 0) dX6_mixPlan_50 rfl rfl ?_
            refine j_get hE flX6_7 gB_0 rfl dX6_mixPlan_51 ?_
            refine j_sipush hE (v := nI 201) dX6_mixPlan_54 (by decide) ?_
            refine j_iload_n hE (i := 1) dX6_mixPlan_57 rfl rfl ?_
            refine j_iaddN hE dX6_mixPlan_58 ?_
            refine j_iald hE gB_1 rfl (by omega) (by decide) dX6_mixPlan_59 ?_
            refine j_i2l hE dX6_mixPlan_60 ?_
            refine j_cVv hE mlX6_134 gB_0 (fun l hl => c_X6_mix hl K F h0 _ _ _ _ _ _ _ _) rfl rfl (Nat.le_of_ble_eq_true rfl) (by decide) (by decide) (by omega) (by omega) dX6_mixPlan_61 (fun G9 hs9 hp => ?_) (fun _ _ h => h.elim)
            subst hp
            refine j_incN1 hE dX6_mixPlan_64 (by decide) rfl ?_
            refine j_goto hE (tgt := 13) dX6_mixPlan_67 (by decide) ?_
            exact ih13 _
    · intro hs
      refine j_iload_n hE (i := 1) dX6_mixPlan_13 rfl rfl ?_
      refine j_bipush hE (v := nI 16) dX6_mixPlan_14 (by decide) ?_
      refine j_aload_n hE (i := 0) dX6_mixPlan_16 rfl rfl ?_
      refine j_get hE flX6_7 gB_0 rfl dX6_mixPlan_17 ?_
      refine j_iconst hE (v := nI 1) dX6_mixPlan_20 (by decide) ?_
      refine j_iald hE gB_1 rfl (by omega) (by decide) dX6_mixPlan_21 ?_
      rw [hM]
      refine j_imulN hE dX6_mixPlan_22 ?_
      refine j_ic_geN hE (tgt := 70) dX6_mixPlan_23 (by decide) (by omega) (by omega) (fun h23 => ?_) (fun h23 => ?_)
      · refine j_vret hE hQ (by omega) (by omega) dX6_mixPlan_70 ?_
        exact ⟨rfl, rfl⟩
      · exfalso; omega
  exact key13 0 (by omega) _

set_option maxRecDepth 100000 in
set_option maxHeartbeats 4000000 in
theorem c_X6_mixPlan_f {l : Launch} (hl : l.stackTraces = false) (K : jK) (F : GH) (h0 hs : Nat) (now past : Nat → Int32) (kept thrown : Int32) (drawn : Nat → Int32) (hash : Int64) (W M : Nat) (hW : now 0 = nI W) (hM : now 1 = nI M) (hW9 : W ≤ 16) (hM1 : 1 ≤ M) (hM9 : M ≤ 8) (hpl : now 3 = nI 0) : Ct l K yX6_mixPlan cX6_mixPlan 2 none 1 22 0 0 [.ref h0] (gB F h0 (mC K h0 now past kept thrown drawn hash)) hs (pV (fun G' _ => G' = (gB F h0 (mC K h0 now past kept thrown drawn (hx hash (nI 0)))))) jno := by
  refine Ct.ofA hl (by decide) (Nat.le_of_ble_eq_true rfl) (L0 := [some (.ref h0), none]) (jL_of 1 rfl) ?_
  intro A E hE hQ hX hNm
  refine j_aload_n hE (i := 0) dX6_mixPlan_0 rfl rfl ?_
  refine j_aload_n hE (i := 0) dX6_mixPlan_1 rfl rfl ?_
  refine j_get hE flX6_7 gB_0 rfl dX6_mixPlan_2 ?_
  refine j_iconst hE (v := nI 3) dX6_mixPlan_5 (by decide) ?_
  refine j_iald hE gB_1 rfl (by omega) (by decide) dX6_mixPlan_6 ?_
  rw [hpl]
  refine j_i2l hE dX6_mixPlan_7 ?_
  refine j_cVv hE mlX6_134 gB_0 (fun l hl => c_X6_mix hl K F h0 _ _ _ _ _ _ _ _) rfl rfl (Nat.le_of_ble_eq_true rfl) (by decide) (by decide) (by omega) (by omega) dX6_mixPlan_8 (fun G9 hs9 hp => ?_) (fun _ _ h => h.elim)
  subst hp
  refine j_iconst hE (v := nI 0) dX6_mixPlan_11 (by decide) ?_
  refine j_ist1 hE dX6_mixPlan_12 rfl (by decide) rfl ?_
  refine j_iload_n hE (i := 1) dX6_mixPlan_13 rfl rfl ?_
  refine j_bipush hE (v := nI 16) dX6_mixPlan_14 (by decide) ?_
  refine j_aload_n hE (i := 0) dX6_mixPlan_16 rfl rfl ?_
  refine j_get hE flX6_7 gB_0 rfl dX6_mixPlan_17 ?_
  refine j_iconst hE (v := nI 1) dX6_mixPlan_20 (by decide) ?_
  refine j_iald hE gB_1 rfl (by omega) (by decide) dX6_mixPlan_21 ?_
  rw [hM]
  refine j_imulN hE dX6_mixPlan_22 ?_
  refine j_ic_geN hE (tgt := 70) dX6_mixPlan_23 (by decide) (by omega) (by omega) (fun h23 => ?_) (fun h23 => ?_)
  · exfalso; omega
  · refine j_aload_n hE (i := 0) dX6_mixPlan_26 rfl rfl ?_
    refine j_get hE flX6_7 gB_0 rfl dX6_mixPlan_27 ?_
    refine j_iconst hE (v := nI 3) dX6_mixPlan_30 (by decide) ?_
    refine j_iald hE gB_1 rfl (by omega) (by decide) dX6_mixPlan_31 ?_
    rw [hpl]
    refine j_iconst hE (v := nI 1) dX6_mixPlan_32 (by decide) ?_
    refine j_ic_neN hE (tgt := 70) dX6_mixPlan_33 (by decide) (by omega) (by omega) (fun h33 => ?_) (fun h33 => ?_)
    · refine j_vret hE hQ (by omega) (by omega) dX6_mixPlan_70 ?_
      exact ⟨rfl, rfl⟩
    · exfalso; omega

theorem c_X6_mixPlan {l : Launch} (hl : l.stackTraces = false) (K : jK) (F : GH) (h0 hs : Nat) (now past : Nat → Int32) (kept thrown : Int32) (drawn : Nat → Int32) (hash : Int64) (W M pl : Nat) (hW : now 0 = nI W) (hM : now 1 = nI M) (hW9 : W ≤ 16) (hM1 : 1 ≤ M) (hM9 : M ≤ 8) (hpl : now 3 = nI pl) (hpl1 : pl ≤ 1) : Ct l K yX6_mixPlan cX6_mixPlan 2 none 1 22 0 0 [.ref h0] (gB F h0 (mC K h0 now past kept thrown drawn hash)) hs (pV (fun G' _ => G' = (gB F h0 (mC K h0 now past kept thrown drawn (mHp now W M pl hash))))) jno := by
  rcases (show pl = 1 ∨ pl = 0 by omega) with rfl | rfl
  · exact c_X6_mixPlan_t hl K F h0 hs now past kept thrown drawn hash W M hW hM hW9 hM1 hM9 hpl
  · exact c_X6_mixPlan_f hl K F h0 hs now past kept thrown drawn hash W M hW hM hW9 hM1 hM9 hpl
/-- the digest of a row, behind which the number of kept states comes -/
def mDg (now : Nat → Int32) (W M n pl b : Nat) (kept : Int32) : Int64 :=
  let h1 := itr (hA now 33) (14 * n) (hx (hx (hx 2837 (now 0)) (now 1)) (now 2))
  let h2 := itr (hA now 329) b (hx (hx (mHp now W M pl h1) (now 4)) (now 5))
  let h3 := itr (hA now 9) 6 (hx (hx h2 (now 7)) (now 8))
  hx (hx h3 (now 6)) kept
set_option maxRecDepth 100000 in
set_option maxHeartbeats 4000000 in
theorem c_X6_digest {l : Launch} (hl : l.stackTraces = false) (K : jK) (F : GH) (h0 hs : Nat) (now past : Nat → Int32) (kept thrown : Int32) (drawn : Nat → Int32) (hash : Int64) (W M n pl b : Nat) (hW : now 0 = nI W) (hM : now 1 = nI M) (hW9 : W ≤ 16) (hM1 : 1 ≤ M) (hM9 : M ≤ 8) (hn : now 2 = nI n) (hn9 : n ≤ 12) (hpl : now 3 = nI pl) (hpl1 : pl ≤ 1) (hb : now 5 = nI b) (hb9 : b ≤ 2048) : Ct l K yX6_digest cX6_digest 2 (some .long) 2 43 0 0 [.ref h0] (gB F h0 (mC K h0 now past kept thrown drawn hash)) hs (pL (fun z9 G' _ => z9 = mDg now W M n pl b kept ∧ ∃ h9, G' = (gB F h0 (mC K h0 now past kept (nI 0) drawn h9)))) jno := by
  refine Ct.ofA hl (by decide) (Nat.le_of_ble_eq_true rfl) (L0 := [some (.ref h0), none]) (jL_of 1 rfl) ?_
  intro A E hE hQ hX hNm
  refine j_aload_n hE (i := 0) dX6_digest_0 rfl rfl ?_
  refine j_iconst hE (v := nI 0) dX6_digest_1 (by decide) ?_
  refine b_put3 hE flX6_19 rfl rfl dX6_digest_2 ?_
  refine j_aload_n hE (i := 0) dX6_digest_5 rfl rfl ?_
  refine j_ldc2 hE dX6_digest_6 tw_934 ?_
  refine b_put5 hE flX6_130 rfl rfl dX6_digest_9 ?_
  refine j_aload_n hE (i := 0) dX6_digest_12 rfl rfl ?_
  refine j_aload_n hE (i := 0) dX6_digest_13 rfl rfl ?_
  refine j_get hE flX6_7 gB_0 rfl dX6_digest_14 ?_
  refine j_iconst hE (v := nI 0) dX6_digest_17 (by decide) ?_
  refine j_iald hE gB_1 rfl (by omega) (by decide) dX6_digest_18 ?_
  refine j_i2l hE dX6_digest_19 ?_
  refine j_cVv hE mlX6_134 gB_0 (fun l hl => c_X6_mix hl K F h0 _ _ _ _ _ _ _ _) rfl rfl (Nat.le_of_ble_eq_true rfl) (by decide) (by decide) (by omega) (by omega) dX6_digest_20 (fun G9 hs9 hp => ?_) (fun _ _ h => h.elim)
  subst hp
  refine j_aload_n hE (i := 0) dX6_digest_23 rfl rfl ?_
  refine j_aload_n hE (i := 0) dX6_digest_24 rfl rfl ?_
  refine j_get hE flX6_7 gB_0 rfl dX6_digest_25 ?_
  refine j_iconst hE (v := nI 1) dX6_digest_28 (by decide) ?_
  refine j_iald hE gB_1 rfl (by omega) (by decide) dX6_digest_29 ?_
  refine j_i2l hE dX6_digest_30 ?_
  refine j_cVv hE mlX6_134 gB_0 (fun l hl => c_X6_mix hl K F h0 _ _ _ _ _ _ _ _) rfl rfl (Nat.le_of_ble_eq_true rfl) (by decide) (by decide) (by omega) (by omega) dX6_digest_31 (fun G9 hs9 hp => ?_) (fun _ _ h => h.elim)
  subst hp
  refine j_aload_n hE (i := 0) dX6_digest_34 rfl rfl ?_
  refine j_aload_n hE (i := 0) dX6_digest_35 rfl rfl ?_
  refine j_get hE flX6_7 gB_0 rfl dX6_digest_36 ?_
  refine j_iconst hE (v := nI 2) dX6_digest_39 (by decide) ?_
  refine j_iald hE gB_1 rfl (by omega) (by decide) dX6_digest_40 ?_
  refine j_i2l hE dX6_digest_41 ?_
  refine j_cVv hE mlX6_134 gB_0 (fun l hl => c_X6_mix hl K F h0 _ _ _ _ _ _ _ _) rfl rfl (Nat.le_of_ble_eq_true rfl) (by decide) (by decide) (by omega) (by omega) dX6_digest_42 (fun G9 hs9 hp => ?_) (fun _ _ h => h.elim)
  subst hp
  obtain ⟨hz, hhz⟩ : ∃ hz, hz = (31 : Int64) * (31 * (31 * 2837 + (now 0).toInt64) + (now 1).toInt64) + (now 2).toInt64 := ⟨_, rfl⟩
  rw [← hhz]
  refine j_iconst hE (v := nI 0) dX6_digest_45 (by decide) ?_
  refine j_ist1 hE dX6_digest_46 rfl (by decide) rfl ?_
  have key47 : ∀ i, i ≤ 14 * n → ∀ hs, J K A E 2 (gB F h0 (mC K h0 now past kept (nI 0) drawn (itr (hA now 33) i hz))) hs 0 0 47 [some (.ref h0), some (.int (nI i))] [] := by
    refine dloop (fun i => ∀ hs, J K A E 2 (gB F h0 (mC K h0 now past kept (nI 0) drawn (itr (hA now 33) i hz))) hs 0 0 47 [some (.ref h0), some (.int (nI i))] []) (14 * n) (fun i hi47 ih47 => ?_) ?_
    · intro hs
      refine j_iload_n hE (i := 1) dX6_digest_47 rfl rfl ?_
      refine j_bipush hE (v := nI 14) dX6_digest_48 (by decide) ?_
      refine j_aload_n hE (i := 0) dX6_digest_50 rfl rfl ?_
      refine j_get hE flX6_7 gB_0 rfl dX6_digest_51 ?_
      refine j_iconst hE (v := nI 2) dX6_digest_54 (by decide) ?_
      refine j_iald hE gB_1 rfl (by omega) (by decide) dX6_digest_55 ?_
      rw [hn]
      refine j_imulN hE dX6_digest_56 ?_
      refine j_ic_geN hE (tgt := 80) dX6_digest_57 (by decide) (by omega) (by omega) (fun h57 => ?_) (fun h57 => ?_)
      · exfalso; omega
      · refine j_aload_n hE (i := 0) dX6_digest_60 rfl rfl ?_
        refine j_aload_n hE (i := 0) dX6_digest_61 rfl rfl ?_
        refine j_get hE flX6_7 gB_0 rfl dX6_digest_62 ?_
        refine j_bipush hE (v := nI 33) dX6_digest_65 (by decide) ?_
        refine j_iload_n hE (i := 1) dX6_digest_67 rfl rfl ?_
        refine j_iaddN hE dX6_digest_68 ?_
        refine j_iald hE gB_1 rfl (by omega) (by decide) dX6_digest_69 ?_
        refine j_i2l hE dX6_digest_70 ?_
        refine j_cVv hE mlX6_134 gB_0 (fun l hl => c_X6_mix hl K F h0 _ _ _ _ _ _ _ _) rfl rfl (Nat.le_of_ble_eq_true rfl) (by decide) (by decide) (by omega) (by omega) dX6_digest_71 (fun G9 hs9 hp => ?_) (fun _ _ h => h.elim)
        subst hp
        refine j_incN1 hE dX6_digest_74 (by decide) rfl ?_
        refine j_goto hE (tgt := 47) dX6_digest_77 (by decide) ?_
        exact ih47 _
    · intro hs
      refine j_iload_n hE (i := 1) dX6_digest_47 rfl rfl ?_
      refine j_bipush hE (v := nI 14) dX6_digest_48 (by decide) ?_
      refine j_aload_n hE (i := 0) dX6_digest_50 rfl rfl ?_
      refine j_get hE flX6_7 gB_0 rfl dX6_digest_51 ?_
      refine j_iconst hE (v := nI 2) dX6_digest_54 (by decide) ?_
      refine j_iald hE gB_1 rfl (by omega) (by decide) dX6_digest_55 ?_
      rw [hn]
      refine j_imulN hE dX6_digest_56 ?_
      refine j_ic_geN hE (tgt := 80) dX6_digest_57 (by decide) (by omega) (by omega) (fun h57 => ?_) (fun h57 => ?_)
      · obtain ⟨h1, hh1⟩ : ∃ h1, h1 = itr (hA now 33) (14 * n) hz := ⟨_, rfl⟩
        rw [← hh1]
        refine j_aload_n hE (i := 0) dX6_digest_80 rfl rfl ?_
        refine j_cVv hE mlX6_140 gB_0 (fun l hl => c_X6_mixPlan hl K F h0 _ _ _ _ _ _ _ W M pl hW hM hW9 hM1 hM9 hpl hpl1) rfl rfl (Nat.le_of_ble_eq_true rfl) (by decide) (by decide) (by omega) (by omega) dX6_digest_81 (fun G9 hs9 hp => ?_) (fun _ _ h => h.elim)
        subst hp
        refine j_aload_n hE (i := 0) dX6_digest_84 rfl rfl ?_
        refine j_aload_n hE (i := 0) dX6_digest_85 rfl rfl ?_
        refine j_get hE flX6_7 gB_0 rfl dX6_digest_86 ?_
        refine j_iconst hE (v := nI 4) dX6_digest_89 (by decide) ?_
        refine j_iald hE gB_1 rfl (by omega) (by decide) dX6_digest_90 ?_
        refine j_i2l hE dX6_digest_91 ?_
        refine j_cVv hE mlX6_134 gB_0 (fun l hl => c_X6_mix hl K F h0 _ _ _ _ _ _ _ _) rfl rfl (Nat.le_of_ble_eq_true rfl) (by decide) (by decide) (by omega) (by omega) dX6_digest_92 (fun G9 hs9 hp => ?_) (fun _ _ h => h.elim)
        subst hp
        refine j_aload_n hE (i := 0) dX6_digest_95 rfl rfl ?_
        refine j_aload_n hE (i := 0) dX6_digest_96 rfl rfl ?_
        refine j_get hE flX6_7 gB_0 rfl dX6_digest_97 ?_
        refine j_iconst hE (v := nI 5) dX6_digest_100 (by decide) ?_
        refine j_iald hE gB_1 rfl (by omega) (by decide) dX6_digest_101 ?_
        refine j_i2l hE dX6_digest_102 ?_
        refine j_cVv hE mlX6_134 gB_0 (fun l hl => c_X6_mix hl K F h0 _ _ _ _ _ _ _ _) rfl rfl (Nat.le_of_ble_eq_true rfl) (by decide) (by decide) (by omega) (by omega) dX6_digest_103 (fun G9 hs9 hp => ?_) (fun _ _ h => h.elim)
        subst hp
        obtain ⟨hy, hhy⟩ : ∃ hy, hy = (31 : Int64) * (31 * mHp now W M pl h1 + (now 4).toInt64) + (now 5).toInt64 := ⟨_, rfl⟩
        rw [← hhy]
        refine j_iconst hE (v := nI 0) dX6_digest_106 (by decide) ?_
        refine j_ist1 hE dX6_digest_107 rfl (by decide) rfl ?_
        have key108 : ∀ i, i ≤ b → ∀ hs, J K A E 2 (gB F h0 (mC K h0 now past kept (nI 0) drawn (itr (hA now 329) i hy))) hs 0 0 108 [some (.ref h0), some (.int (nI i))] [] := by
          refine dloop (fun i => ∀ hs, J K A E 2 (gB F h0 (mC K h0 now past kept (nI 0) drawn (itr (hA now 329) i hy))) hs 0 0 108 [some (.ref h0), some (.int (nI i))] []) (b) (fun i hi108 ih108 => ?_) ?_
          · intro hs
            refine j_iload_n hE (i := 1) dX6_digest_108 rfl rfl ?_
            refine j_aload_n hE (i := 0) dX6_digest_109 rfl rfl ?_
            refine j_get hE flX6_7 gB_0 rfl dX6_digest_110 ?_
            refine j_iconst hE (v := nI 5) dX6_digest_113 (by decide) ?_
            refine j_iald hE gB_1 rfl (by omega) (by decide) dX6_digest_114 ?_
            rw [hb]
            refine j_ic_geN hE (tgt := 139) dX6_digest_115 (by decide) (by omega) (by omega) (fun h115 => ?_) (fun h115 => ?_)
            · exfalso; omega
            · refine j_aload_n hE (i := 0) dX6_digest_118 rfl rfl ?_
              refine j_aload_n hE (i := 0) dX6_digest_119 rfl rfl ?_
              refine j_get hE flX6_7 gB_0 rfl dX6_digest_120 ?_
              refine j_sipush hE (v := nI 329) dX6_digest_123 (by decide) ?_
              refine j_iload_n hE (i := 1) dX6_digest_126 rfl rfl ?_
              refine j_iaddN hE dX6_digest_127 ?_
              refine j_iald hE gB_1 rfl (by omega) (by decide) dX6_digest_128 ?_
              refine j_i2l hE dX6_digest_129 ?_
              refine j_cVv hE mlX6_134 gB_0 (fun l hl => c_X6_mix hl K F h0 _ _ _ _ _ _ _ _) rfl rfl (Nat.le_of_ble_eq_true rfl) (by decide) (by decide) (by omega) (by omega) dX6_digest_130 (fun G9 hs9 hp => ?_) (fun _ _ h => h.elim)
              subst hp
              refine j_incN1 hE dX6_digest_133 (by decide) rfl ?_
              refine j_goto hE (tgt := 108) dX6_digest_136 (by decide) ?_
              exact ih108 _
          · intro hs
            refine j_iload_n hE (i := 1) dX6_digest_108 rfl rfl ?_
            refine j_aload_n hE (i := 0) dX6_digest_109 rfl rfl ?_
            refine j_get hE flX6_7 gB_0 rfl dX6_digest_110 ?_
            refine j_iconst hE (v := nI 5) dX6_digest_113 (by decide) ?_
            refine j_iald hE gB_1 rfl (by omega) (by decide) dX6_digest_114 ?_
            rw [hb]
            refine j_ic_geN hE (tgt := 139) dX6_digest_115 (by decide) (by omega) (by omega) (fun h115 => ?_) (fun h115 => ?_)
            · obtain ⟨h2, hh2⟩ : ∃ h2, h2 = itr (hA now 329) b hy := ⟨_, rfl⟩
              rw [← hh2]
              refine j_aload_n hE (i := 0) dX6_digest_139 rfl rfl ?_
              refine j_aload_n hE (i := 0) dX6_digest_140 rfl rfl ?_
              refine j_get hE flX6_7 gB_0 rfl dX6_digest_141 ?_
              refine j_bipush hE (v := nI 7) dX6_digest_144 (by decide) ?_
              refine j_iald hE gB_1 rfl (by omega) (by decide) dX6_digest_146 ?_
              refine j_i2l hE dX6_digest_147 ?_
              refine j_cVv hE mlX6_134 gB_0 (fun l hl => c_X6_mix hl K F h0 _ _ _ _ _ _ _ _) rfl rfl (Nat.le_of_ble_eq_true rfl) (by decide) (by decide) (by omega) (by omega) dX6_digest_148 (fun G9 hs9 hp => ?_) (fun _ _ h => h.elim)
              subst hp
              refine j_aload_n hE (i := 0) dX6_digest_151 rfl rfl ?_
              refine j_aload_n hE (i := 0) dX6_digest_152 rfl rfl ?_
              refine j_get hE flX6_7 gB_0 rfl dX6_digest_153 ?_
              refine j_bipush hE (v := nI 8) dX6_digest_156 (by decide) ?_
              refine j_iald hE gB_1 rfl (by omega) (by decide) dX6_digest_158 ?_
              refine j_i2l hE dX6_digest_159 ?_
              refine j_cVv hE mlX6_134 gB_0 (fun l hl => c_X6_mix hl K F h0 _ _ _ _ _ _ _ _) rfl rfl (Nat.le_of_ble_eq_true rfl) (by decide) (by decide) (by omega) (by omega) dX6_digest_160 (fun G9 hs9 hp => ?_) (fun _ _ h => h.elim)
              subst hp
              refine j_iconst hE (v := nI 0) dX6_digest_163 (by decide) ?_
              refine j_ist1 hE dX6_digest_164 rfl (by decide) rfl ?_
              have key165 : ∀ i, i ≤ 6 → ∀ hs, J K A E 2 (gB F h0 (mC K h0 now past kept (nI 0) drawn (itr (hA now 9) i (hx (hx h2 (now 7)) (now 8))))) hs 0 0 165 [some (.ref h0), some (.int (nI i))] [] := by
                refine dloop (fun i => ∀ hs, J K A E 2 (gB F h0 (mC K h0 now past kept (nI 0) drawn (itr (hA now 9) i (hx (hx h2 (now 7)) (now 8))))) hs 0 0 165 [some (.ref h0), some (.int (nI i))] []) (6) (fun i hi165 ih165 => ?_) ?_
                · intro hs
                  refine j_iload_n hE (i := 1) dX6_digest_165 rfl rfl ?_
                  refine j_bipush hE (v := nI 6) dX6_digest_166 (by decide) ?_
                  refine j_ic_geN hE (tgt := 191) dX6_digest_168 (by decide) (by omega) (by omega) (fun h168 => ?_) (fun h168 => ?_)
                  · exfalso; omega
                  · refine j_aload_n hE (i := 0) dX6_digest_171 rfl rfl ?_
                    refine j_aload_n hE (i := 0) dX6_digest_172 rfl rfl ?_
                    refine j_get hE flX6_7 gB_0 rfl dX6_digest_173 ?_
                    refine j_bipush hE (v := nI 9) dX6_digest_176 (by decide) ?_
                    refine j_iload_n hE (i := 1) dX6_digest_178 rfl rfl ?_
                    refine j_iaddN hE dX6_digest_179 ?_
                    refine j_iald hE gB_1 rfl (by omega) (by decide) dX6_digest_180 ?_
                    refine j_i2l hE dX6_digest_181 ?_
                    refine j_cVv hE mlX6_134 gB_0 (fun l hl => c_X6_mix hl K F h0 _ _ _ _ _ _ _ _) rfl rfl (Nat.le_of_ble_eq_true rfl) (by decide) (by decide) (by omega) (by omega) dX6_digest_182 (fun G9 hs9 hp => ?_) (fun _ _ h => h.elim)
                    subst hp
                    refine j_incN1 hE dX6_digest_185 (by decide) rfl ?_
                    refine j_goto hE (tgt := 165) dX6_digest_188 (by decide) ?_
                    exact ih165 _
                · intro hs
                  refine j_iload_n hE (i := 1) dX6_digest_165 rfl rfl ?_
                  refine j_bipush hE (v := nI 6) dX6_digest_166 (by decide) ?_
                  refine j_ic_geN hE (tgt := 191) dX6_digest_168 (by decide) (by omega) (by omega) (fun h168 => ?_) (fun h168 => ?_)
                  · refine j_aload_n hE (i := 0) dX6_digest_191 rfl rfl ?_
                    refine j_aload_n hE (i := 0) dX6_digest_192 rfl rfl ?_
                    refine j_get hE flX6_7 gB_0 rfl dX6_digest_193 ?_
                    refine j_bipush hE (v := nI 6) dX6_digest_196 (by decide) ?_
                    refine j_iald hE gB_1 rfl (by omega) (by decide) dX6_digest_198 ?_
                    refine j_i2l hE dX6_digest_199 ?_
                    refine j_cVv hE mlX6_134 gB_0 (fun l hl => c_X6_mix hl K F h0 _ _ _ _ _ _ _ _) rfl rfl (Nat.le_of_ble_eq_true rfl) (by decide) (by decide) (by omega) (by omega) dX6_digest_200 (fun G9 hs9 hp => ?_) (fun _ _ h => h.elim)
                    subst hp
                    refine j_aload_n hE (i := 0) dX6_digest_203 rfl rfl ?_
                    refine j_aload_n hE (i := 0) dX6_digest_204 rfl rfl ?_
                    refine j_get hE flX6_23 gB_0 rfl dX6_digest_205 ?_
                    refine j_i2l hE dX6_digest_208 ?_
                    refine j_cVv hE mlX6_134 gB_0 (fun l hl => c_X6_mix hl K F h0 _ _ _ _ _ _ _ _) rfl rfl (Nat.le_of_ble_eq_true rfl) (by decide) (by decide) (by omega) (by omega) dX6_digest_209 (fun G9 hs9 hp => ?_) (fun _ _ h => h.elim)
                    subst hp
                    refine j_aload_n hE (i := 0) dX6_digest_212 rfl rfl ?_
                    refine j_get hE flX6_130 gB_0 rfl dX6_digest_213 ?_
                    refine j_lret hE hQ (by omega) (by omega) dX6_digest_216 ?_
                    exact ⟨_, rfl, by rw [hh2, hhy, hh1, hhz]; rfl, _, rfl⟩
                  · exfalso; omega
              exact key165 0 (by omega) _
            · exfalso; omega
        exact key108 0 (by omega) _
      · exfalso; omega
  exact key47 0 (by omega) _

