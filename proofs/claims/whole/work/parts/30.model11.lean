/-! ===== the reference: receiving, slots, a parameter more, a new object ===== -/
def tbP (now : Nat → Int32) (W M mm md t : Nat) : Prop := now 0 = nI W ∧ (now 15 = nI 1 → now 16 = nI t ∧ t < 8 * (W - 2) ∧ (t + 1 = 8 * (W - 2) → dlP now W M mm md))
/-- the rows bit by bit: the first c bits of the channel are taken -/
def rxP (W c : Nat) (R : Nat → Nat → Int32) : Prop := ∀ k, k < c → ∃ M mm md t, tbP (R k) W M mm md t ∧ R (k + 1) = mTB (R k) W M mm md t (R k (329 + k))
def mRcv (R : Nat → Nat → Int32) (b c : Nat) : Nat → Int32 := itr (shB c) (b - c) (upd (R c) 5 (nI (b - c)))
set_option maxRecDepth 100000 in
set_option maxHeartbeats 4000000 in
theorem c_X6_receive_t {l : Launch} (hl : l.stackTraces = false) (K : jK) (F : GH) (h0 hs : Nat) (now past : Nat → Int32) (thrown : Int32) (k : Nat) (hk : k ≤ 4) (drawn : Nat → Int32) (hash : Int64) (W b c : Nat) (hW6 : 6 ≤ W) (hW9 : W ≤ 16) (hpl : now 3 = nI 1) (hb : now 5 = nI b) (hb9 : b ≤ 2048) (hc1 : 1 ≤ c) (hcb : c ≤ b) (R : Nat → Nat → Int32) (hR0 : R 0 = now) (hR : rxP W c R) (hRb : R c 5 = nI b) : Ct l K yX6_receive cX6_receive 4 (some .int) 6 133 0 0 [.ref h0, .int (nI c)] (gB F h0 (mC K h0 now past (nI k) thrown drawn hash)) hs (pI (fun z9 G' _ => z9 = R c 9 - now 9 ∧ G' = (gB F h0 (mC K h0 (mRcv R b c) (mKeep now past k) (nI (mKept k)) (nI 0) drawn hash)))) jno := by
  refine Ct.ofA hl (by decide) (Nat.le_of_ble_eq_true rfl) (L0 := [some (.ref h0), some (.int (nI c)), none, none]) (jL_of 2 rfl) ?_
  intro A E hE hQ hX hNm
  refine j_aload_n hE (i := 0) dX6_receive_0 rfl rfl ?_
  refine j_iload_n hE (i := 1) dX6_receive_1 rfl rfl ?_
  refine j_iconst hE (v := nI 1) dX6_receive_2 (by decide) ?_
  refine j_sipush hE (v := nI 2048) dX6_receive_3 (by decide) ?_
  refine j_cSi hE mlX6_26 (fun l hl => c_X6_in_t hl K _ _ _ _ _ (rg_t (by omega) (by omega) (by decide))) rfl rfl (Nat.le_of_ble_eq_true rfl) (by decide) (by decide) (by omega) (by omega) dX6_receive_6 (fun r G9 hs9 hp => ?_) (fun _ _ h => h.elim)
  obtain ⟨rfl, rfl⟩ := hp
  refine j_if_neN hE (tgt := 16) dX6_receive_9 (by decide) (by omega) (fun h9 => ?_) (fun h9 => ?_)
  · refine j_aload_n hE (i := 0) dX6_receive_16 rfl rfl ?_
    refine j_get hE flX6_7 gB_0 rfl dX6_receive_17 ?_
    refine j_iconst hE (v := nI 3) dX6_receive_20 (by decide) ?_
    refine j_iald hE gB_1 rfl (by omega) (by decide) dX6_receive_21 ?_
    rw [hpl]
    refine j_if_eqN hE (tgt := 35) dX6_receive_22 (by decide) (by omega) (fun h22 => ?_) (fun h22 => ?_)
    · exfalso; omega
    · refine j_iload_n hE (i := 1) dX6_receive_25 rfl rfl ?_
      refine j_aload_n hE (i := 0) dX6_receive_26 rfl rfl ?_
      refine j_get hE flX6_7 gB_0 rfl dX6_receive_27 ?_
      refine j_iconst hE (v := nI 5) dX6_receive_30 (by decide) ?_
      refine j_iald hE gB_1 rfl (by omega) (by decide) dX6_receive_31 ?_
      rw [hb]
      refine j_ic_leN hE (tgt := 39) dX6_receive_32 (by decide) (by omega) (by omega) (fun h32 => ?_) (fun h32 => ?_)
      · refine j_iconst hE (v := nI 0) dX6_receive_39 (by decide) ?_
        refine b_put3 hE flX6_19 rfl rfl dX6_receive_40 ?_
        refine j_aload_n hE (i := 0) dX6_receive_43 rfl rfl ?_
        refine j_get hE flX6_19 gB_0 rfl dX6_receive_44 ?_
        refine j_if_eqN hE (tgt := 52) dX6_receive_47 (by decide) (by omega) (fun h47 => ?_) (fun h47 => ?_)
        · refine j_aload_n hE (i := 0) dX6_receive_52 rfl rfl ?_
          refine j_cVv hE mlX6_33 gB_0 (fun l hl => c_X6_keep hl K F h0 _ _ _ _ _ hk _ _) rfl rfl (Nat.le_of_ble_eq_true rfl) (by decide) (by decide) (by omega) (by omega) dX6_receive_53 (fun G9 hs9 hp => ?_) (fun _ _ h => h.elim)
          subst hp
          refine j_aload_n hE (i := 0) dX6_receive_56 rfl rfl ?_
          refine j_get hE flX6_7 gB_0 rfl dX6_receive_57 ?_
          refine j_bipush hE (v := nI 9) dX6_receive_60 (by decide) ?_
          refine j_iald hE gB_1 rfl (by omega) (by decide) dX6_receive_62 ?_
          refine j_ist2 hE dX6_receive_63 rfl (by decide) rfl ?_
          refine j_iconst hE (v := nI 0) dX6_receive_64 (by decide) ?_
          refine j_ist3 hE dX6_receive_65 rfl (by decide) rfl ?_
          have key66 : ∀ i, i ≤ c → ∀ hs, J K A E 4 (gB F h0 (mC K h0 (R i) (mKeep now past k) (nI (mKept k)) (nI 0) drawn hash)) hs 0 0 66 [some (.ref h0), some (.int (nI c)), some (.int (now 9)), some (.int (nI i))] [] := by
            refine dloop (fun i => ∀ hs, J K A E 4 (gB F h0 (mC K h0 (R i) (mKeep now past k) (nI (mKept k)) (nI 0) drawn hash)) hs 0 0 66 [some (.ref h0), some (.int (nI c)), some (.int (now 9)), some (.int (nI i))] []) (c) (fun i hi66 ih66 => ?_) ?_
            · intro hs
              obtain ⟨M, mm, md, t, htb, hnx⟩ := hR i hi66
              rw [hnx] at ih66
              refine j_iload_n hE (i := 3) dX6_receive_66 rfl rfl ?_
              refine j_iload_n hE (i := 1) dX6_receive_67 rfl rfl ?_
              refine j_ic_geN hE (tgt := 91) dX6_receive_68 (by decide) (by omega) (by omega) (fun h68 => ?_) (fun h68 => ?_)
              · exfalso; omega
              · refine j_aload_n hE (i := 0) dX6_receive_71 rfl rfl ?_
                refine j_aload_n hE (i := 0) dX6_receive_72 rfl rfl ?_
                refine j_get hE flX6_7 gB_0 rfl dX6_receive_73 ?_
                refine j_sipush hE (v := nI 329) dX6_receive_76 (by decide) ?_
                refine j_iload_n hE (i := 3) dX6_receive_79 rfl rfl ?_
                refine j_iaddN hE dX6_receive_80 ?_
                refine j_iald hE gB_1 rfl (by omega) (by decide) dX6_receive_81 ?_
                refine j_cVv hE mlX6_122 gB_0 (fun l hl => c_X6_takesBit hl K F h0 _ _ _ _ _ _ _ W M mm md t htb.1 hW6 hW9 htb.2 _) rfl rfl (Nat.le_of_ble_eq_true rfl) (by decide) (by decide) (by omega) (by omega) dX6_receive_82 (fun G9 hs9 hp => ?_) (fun _ _ h => h.elim)
                subst hp
                refine j_incN3 hE dX6_receive_85 (by decide) rfl ?_
                refine j_goto hE (tgt := 66) dX6_receive_88 (by decide) ?_
                exact ih66 _
            · intro hs
              refine j_iload_n hE (i := 3) dX6_receive_66 rfl rfl ?_
              refine j_iload_n hE (i := 1) dX6_receive_67 rfl rfl ?_
              refine j_ic_geN hE (tgt := 91) dX6_receive_68 (by decide) (by omega) (by omega) (fun h68 => ?_) (fun h68 => ?_)
              · refine j_aload_n hE (i := 0) dX6_receive_91 rfl rfl ?_
                refine j_get hE flX6_7 gB_0 rfl dX6_receive_92 ?_
                refine j_iconst hE (v := nI 5) dX6_receive_95 (by decide) ?_
                refine j_dup2 hE dX6_receive_96 rfl rfl ?_
                refine j_iald hE gB_1 rfl (by omega) (by decide) dX6_receive_97 ?_
                rw [hRb]
                refine j_iload_n hE (i := 1) dX6_receive_98 rfl rfl ?_
                refine j_isubN hE dX6_receive_99 (by omega) ?_
                refine b_ast1 hE rfl (by omega) (by decide) dX6_receive_100 ?_
                refine j_iconst hE (v := nI 0) dX6_receive_101 (by decide) ?_
                refine j_ist3 hE dX6_receive_102 rfl (by decide) rfl ?_
                have key103 : ∀ i, i ≤ b - c → ∀ hs, J K A E 4 (gB F h0 (mC K h0 (itr (shB c) i (upd (R c) 5 (nI (b - c)))) (mKeep now past k) (nI (mKept k)) (nI 0) drawn hash)) hs 0 0 103 [some (.ref h0), some (.int (nI c)), some (.int (now 9)), some (.int (nI i))] [] := by
                  refine dloop (fun i => ∀ hs, J K A E 4 (gB F h0 (mC K h0 (itr (shB c) i (upd (R c) 5 (nI (b - c)))) (mKeep now past k) (nI (mKept k)) (nI 0) drawn hash)) hs 0 0 103 [some (.ref h0), some (.int (nI c)), some (.int (now 9)), some (.int (nI i))] []) (b - c) (fun i hi103 ih103 => ?_) ?_
                  · intro hs
                    have h5 : itr (shB c) i (upd (R c) 5 (nI (b - c))) 5 = nI (b - c) := (shB_out c _ (by decide) i).trans (upd_s _ _ _)
                    refine j_iload_n hE (i := 3) dX6_receive_103 rfl rfl ?_
                    refine j_aload_n hE (i := 0) dX6_receive_104 rfl rfl ?_
                    refine j_get hE flX6_7 gB_0 rfl dX6_receive_105 ?_
                    refine j_iconst hE (v := nI 5) dX6_receive_108 (by decide) ?_
                    refine j_iald hE gB_1 rfl (by omega) (by decide) dX6_receive_109 ?_
                    rw [h5]
                    refine j_ic_geN hE (tgt := 141) dX6_receive_110 (by decide) (by omega) (by omega) (fun h110 => ?_) (fun h110 => ?_)
                    · exfalso; omega
                    · refine j_aload_n hE (i := 0) dX6_receive_113 rfl rfl ?_
                      refine j_get hE flX6_7 gB_0 rfl dX6_receive_114 ?_
                      refine j_sipush hE (v := nI 329) dX6_receive_117 (by decide) ?_
                      refine j_iload_n hE (i := 3) dX6_receive_120 rfl rfl ?_
                      refine j_iaddN hE dX6_receive_121 ?_
                      refine j_aload_n hE (i := 0) dX6_receive_122 rfl rfl ?_
                      refine j_get hE flX6_7 gB_0 rfl dX6_receive_123 ?_
                      refine j_sipush hE (v := nI 329) dX6_receive_126 (by decide) ?_
                      refine j_iload_n hE (i := 3) dX6_receive_129 rfl rfl ?_
                      refine j_iaddN hE dX6_receive_130 ?_
                      refine j_iload_n hE (i := 1) dX6_receive_131 rfl rfl ?_
                      refine j_iaddN hE dX6_receive_132 ?_
                      refine j_iald hE gB_1 rfl (by omega) (by decide) dX6_receive_133 ?_
                      refine b_ast1 hE rfl (by omega) (by decide) dX6_receive_134 ?_
                      refine j_incN3 hE dX6_receive_135 (by decide) rfl ?_
                      refine j_goto hE (tgt := 103) dX6_receive_138 (by decide) ?_
                      exact ih103 _
                  · intro hs
                    have h5 : itr (shB c) (b - c) (upd (R c) 5 (nI (b - c))) 5 = nI (b - c) := (shB_out c _ (by decide) _).trans (upd_s _ _ _)
                    have h9 : itr (shB c) (b - c) (upd (R c) 5 (nI (b - c))) 9 = R c 9 := (shB_out c _ (by decide) _).trans (upd_n (by decide))
                    refine j_iload_n hE (i := 3) dX6_receive_103 rfl rfl ?_
                    refine j_aload_n hE (i := 0) dX6_receive_104 rfl rfl ?_
                    refine j_get hE flX6_7 gB_0 rfl dX6_receive_105 ?_
                    refine j_iconst hE (v := nI 5) dX6_receive_108 (by decide) ?_
                    refine j_iald hE gB_1 rfl (by omega) (by decide) dX6_receive_109 ?_
                    rw [h5]
                    refine j_ic_geN hE (tgt := 141) dX6_receive_110 (by decide) (by omega) (by omega) (fun h110 => ?_) (fun h110 => ?_)
                    · refine j_aload_n hE (i := 0) dX6_receive_141 rfl rfl ?_
                      refine j_get hE flX6_7 gB_0 rfl dX6_receive_142 ?_
                      refine j_bipush hE (v := nI 9) dX6_receive_145 (by decide) ?_
                      refine j_iald hE gB_1 rfl (by omega) (by decide) dX6_receive_147 ?_
                      rw [h9]
                      refine j_iload_n hE (i := 2) dX6_receive_148 rfl rfl ?_
                      refine j_isub hE dX6_receive_149 ?_
                      refine j_iret hE hQ rfl (by omega) (by omega) dX6_receive_150 ?_
                      exact ⟨_, rfl, rfl, rfl⟩
                    · exfalso; omega
                exact key103 0 (by omega) _
              · exfalso; omega
          have q9 := key66 0 (by omega)
          rw [hR0] at q9
          exact q9 _
        · exfalso; omega
      · exfalso; omega
  · exfalso; omega

set_option maxRecDepth 100000 in
set_option maxHeartbeats 4000000 in
theorem c_X6_receive_f1 {l : Launch} (hl : l.stackTraces = false) (K : jK) (F : GH) (h0 hs : Nat) (now past : Nat → Int32) (thrown : Int32) (k : Nat) (hk : k ≤ 4) (drawn : Nat → Int32) (hash : Int64) (p : Int32) (hj : ∀ j, 1 ≤ j → j ≤ 2048 → p ≠ nI j) : Ct l K yX6_receive cX6_receive 4 (some .int) 6 133 0 0 [.ref h0, .int p] (gB F h0 (mC K h0 now past (nI k) thrown drawn hash)) hs (pI (fun z9 G' _ => z9 = nI 0 ∧ G' = (gB F h0 (mC K h0 now past (nI k) (nI 1) drawn hash)))) jno := by
  refine Ct.ofA hl (by decide) (Nat.le_of_ble_eq_true rfl) (L0 := [some (.ref h0), some (.int p), none, none]) (jL_of 2 rfl) ?_
  intro A E hE hQ hX hNm
  refine j_aload_n hE (i := 0) dX6_receive_0 rfl rfl ?_
  refine j_iload_n hE (i := 1) dX6_receive_1 rfl rfl ?_
  refine j_iconst hE (v := nI 1) dX6_receive_2 (by decide) ?_
  refine j_sipush hE (v := nI 2048) dX6_receive_3 (by decide) ?_
  refine j_cSi hE mlX6_26 (fun l hl => c_X6_in_f hl K _ _ _ _ _ (rg_f hj (by decide) (by decide))) rfl rfl (Nat.le_of_ble_eq_true rfl) (by decide) (by decide) (by omega) (by omega) dX6_receive_6 (fun r G9 hs9 hp => ?_) (fun _ _ h => h.elim)
  obtain ⟨rfl, rfl⟩ := hp
  refine j_if_neN hE (tgt := 16) dX6_receive_9 (by decide) (by omega) (fun h9 => ?_) (fun h9 => ?_)
  · exfalso; omega
  · refine j_iconst hE (v := nI 1) dX6_receive_12 (by decide) ?_
    refine j_goto hE (tgt := 40) dX6_receive_13 (by decide) ?_
    refine b_put3 hE flX6_19 rfl rfl dX6_receive_40 ?_
    refine j_aload_n hE (i := 0) dX6_receive_43 rfl rfl ?_
    refine j_get hE flX6_19 gB_0 rfl dX6_receive_44 ?_
    refine j_if_eqN hE (tgt := 52) dX6_receive_47 (by decide) (by omega) (fun h47 => ?_) (fun h47 => ?_)
    · exfalso; omega
    · refine j_iconst hE (v := nI 0) dX6_receive_50 (by decide) ?_
      refine j_iret hE hQ rfl (by omega) (by omega) dX6_receive_51 ?_
      exact ⟨_, rfl, rfl, rfl⟩

set_option maxRecDepth 100000 in
set_option maxHeartbeats 4000000 in
theorem c_X6_receive_f2 {l : Launch} (hl : l.stackTraces = false) (K : jK) (F : GH) (h0 hs : Nat) (now past : Nat → Int32) (thrown : Int32) (k : Nat) (hk : k ≤ 4) (drawn : Nat → Int32) (hash : Int64) (c : Nat) (hc1 : 1 ≤ c) (hc : c ≤ 2048) (hpl : now 3 = nI 0) : Ct l K yX6_receive cX6_receive 4 (some .int) 6 133 0 0 [.ref h0, .int (nI c)] (gB F h0 (mC K h0 now past (nI k) thrown drawn hash)) hs (pI (fun z9 G' _ => z9 = nI 0 ∧ G' = (gB F h0 (mC K h0 now past (nI k) (nI 2) drawn hash)))) jno := by
  refine Ct.ofA hl (by decide) (Nat.le_of_ble_eq_true rfl) (L0 := [some (.ref h0), some (.int (nI c)), none, none]) (jL_of 2 rfl) ?_
  intro A E hE hQ hX hNm
  refine j_aload_n hE (i := 0) dX6_receive_0 rfl rfl ?_
  refine j_iload_n hE (i := 1) dX6_receive_1 rfl rfl ?_
  refine j_iconst hE (v := nI 1) dX6_receive_2 (by decide) ?_
  refine j_sipush hE (v := nI 2048) dX6_receive_3 (by decide) ?_
  refine j_cSi hE mlX6_26 (fun l hl => c_X6_in_t hl K _ _ _ _ _ (rg_t (by omega) (by omega) (by decide))) rfl rfl (Nat.le_of_ble_eq_true rfl) (by decide) (by decide) (by omega) (by omega) dX6_receive_6 (fun r G9 hs9 hp => ?_) (fun _ _ h => h.elim)
  obtain ⟨rfl, rfl⟩ := hp
  refine j_if_neN hE (tgt := 16) dX6_receive_9 (by decide) (by omega) (fun h9 => ?_) (fun h9 => ?_)
  · refine j_aload_n hE (i := 0) dX6_receive_16 rfl rfl ?_
    refine j_get hE flX6_7 gB_0 rfl dX6_receive_17 ?_
    refine j_iconst hE (v := nI 3) dX6_receive_20 (by decide) ?_
    refine j_iald hE gB_1 rfl (by omega) (by decide) dX6_receive_21 ?_
    rw [hpl]
    refine j_if_eqN hE (tgt := 35) dX6_receive_22 (by decide) (by omega) (fun h22 => ?_) (fun h22 => ?_)
    · refine j_iconst hE (v := nI 2) dX6_receive_35 (by decide) ?_
      refine j_goto hE (tgt := 40) dX6_receive_36 (by decide) ?_
      refine b_put3 hE flX6_19 rfl rfl dX6_receive_40 ?_
      refine j_aload_n hE (i := 0) dX6_receive_43 rfl rfl ?_
      refine j_get hE flX6_19 gB_0 rfl dX6_receive_44 ?_
      refine j_if_eqN hE (tgt := 52) dX6_receive_47 (by decide) (by omega) (fun h47 => ?_) (fun h47 => ?_)
      · exfalso; omega
      · refine j_iconst hE (v := nI 0) dX6_receive_50 (by decide) ?_
        refine j_iret hE hQ rfl (by omega) (by omega) dX6_receive_51 ?_
        exact ⟨_, rfl, rfl, rfl⟩
    · exfalso; omega
  · exfalso; omega

set_option maxRecDepth 100000 in
set_option maxHeartbeats 4000000 in
theorem c_X6_receive_f3 {l : Launch} (hl : l.stackTraces = false) (K : jK) (F : GH) (h0 hs : Nat) (now past : Nat → Int32) (thrown : Int32) (k : Nat) (hk : k ≤ 4) (drawn : Nat → Int32) (hash : Int64) (b c : Nat) (hc1 : 1 ≤ c) (hc : c ≤ 2048) (hpl : now 3 = nI 1) (hb : now 5 = nI b) (hcb : b < c) : Ct l K yX6_receive cX6_receive 4 (some .int) 6 133 0 0 [.ref h0, .int (nI c)] (gB F h0 (mC K h0 now past (nI k) thrown drawn hash)) hs (pI (fun z9 G' _ => z9 = nI 0 ∧ G' = (gB F h0 (mC K h0 now past (nI k) (nI 2) drawn hash)))) jno := by
  refine Ct.ofA hl (by decide) (Nat.le_of_ble_eq_true rfl) (L0 := [some (.ref h0), some (.int (nI c)), none, none]) (jL_of 2 rfl) ?_
  intro A E hE hQ hX hNm
  refine j_aload_n hE (i := 0) dX6_receive_0 rfl rfl ?_
  refine j_iload_n hE (i := 1) dX6_receive_1 rfl rfl ?_
  refine j_iconst hE (v := nI 1) dX6_receive_2 (by decide) ?_
  refine j_sipush hE (v := nI 2048) dX6_receive_3 (by decide) ?_
  refine j_cSi hE mlX6_26 (fun l hl => c_X6_in_t hl K _ _ _ _ _ (rg_t (by omega) (by omega) (by decide))) rfl rfl (Nat.le_of_ble_eq_true rfl) (by decide) (by decide) (by omega) (by omega) dX6_receive_6 (fun r G9 hs9 hp => ?_) (fun _ _ h => h.elim)
  obtain ⟨rfl, rfl⟩ := hp
  refine j_if_neN hE (tgt := 16) dX6_receive_9 (by decide) (by omega) (fun h9 => ?_) (fun h9 => ?_)
  · refine j_aload_n hE (i := 0) dX6_receive_16 rfl rfl ?_
    refine j_get hE flX6_7 gB_0 rfl dX6_receive_17 ?_
    refine j_iconst hE (v := nI 3) dX6_receive_20 (by decide) ?_
    refine j_iald hE gB_1 rfl (by omega) (by decide) dX6_receive_21 ?_
    rw [hpl]
    refine j_if_eqN hE (tgt := 35) dX6_receive_22 (by decide) (by omega) (fun h22 => ?_) (fun h22 => ?_)
    · exfalso; omega
    · refine j_iload_n hE (i := 1) dX6_receive_25 rfl rfl ?_
      refine j_aload_n hE (i := 0) dX6_receive_26 rfl rfl ?_
      refine j_get hE flX6_7 gB_0 rfl dX6_receive_27 ?_
      refine j_iconst hE (v := nI 5) dX6_receive_30 (by decide) ?_
      refine j_iald hE gB_1 rfl (by omega) (by decide) dX6_receive_31 ?_
      rw [hb]
      refine j_ic_leN hE (tgt := 39) dX6_receive_32 (by decide) (by omega) (by omega) (fun h32 => ?_) (fun h32 => ?_)
      · exfalso; omega
      · refine j_iconst hE (v := nI 2) dX6_receive_35 (by decide) ?_
        refine j_goto hE (tgt := 40) dX6_receive_36 (by decide) ?_
        refine b_put3 hE flX6_19 rfl rfl dX6_receive_40 ?_
        refine j_aload_n hE (i := 0) dX6_receive_43 rfl rfl ?_
        refine j_get hE flX6_19 gB_0 rfl dX6_receive_44 ?_
        refine j_if_eqN hE (tgt := 52) dX6_receive_47 (by decide) (by omega) (fun h47 => ?_) (fun h47 => ?_)
        · exfalso; omega
        · refine j_iconst hE (v := nI 0) dX6_receive_50 (by decide) ?_
          refine j_iret hE hQ rfl (by omega) (by omega) dX6_receive_51 ?_
          exact ⟨_, rfl, rfl, rfl⟩
  · exfalso; omega

set_option maxRecDepth 100000 in
set_option maxHeartbeats 4000000 in
theorem c_X6_slot_t0 {l : Launch} (hl : l.stackTraces = false) (K : jK) (F : GH) (h0 hs : Nat) (now past : Nat → Int32) (kept thrown : Int32) (drawn : Nat → Int32) (hash : Int64) (n j : Nat) (hn : now 2 = nI n) (hn9 : n ≤ 12) (hj : j < n) (W M : Nat) (hW : now 0 = nI W) (hM : now 1 = nI M) (hW6 : 6 ≤ W) (hW9 : W ≤ 16) (hM9 : M ≤ 8) (hpl : now 3 = nI 1) (s : Nat) (hs31 : s < 2 ^ 31) (k0 : Nat) (hk0 : k0 < 16 * M) (hyes : slP now W (nI j) k0 = true) (hyes2 : cntB (slP now W (nI j)) k0 = s) (hle : ∀ k, k ≤ k0 → cntB (slP now W (nI j)) k ≤ s) (hno : ∀ k, k < k0 → slP now W (nI j) k = true → cntB (slP now W (nI j)) k ≠ s) : Ct l K yX6_slot cX6_slot 5 (some .int) 2 43 0 0 [.ref h0, .int (nI j), .int (nI s), .int (nI 0)] (gB F h0 (mC K h0 now past kept thrown drawn hash)) hs (pI (fun z9 G' _ => z9 = nI (k0 / 16) ∧ G' = (gB F h0 (mC K h0 now past kept (nI 0) drawn hash)))) jno := by
  refine Ct.ofA hl (by decide) (Nat.le_of_ble_eq_true rfl) (L0 := [some (.ref h0), some (.int (nI j)), some (.int (nI s)), some (.int (nI 0)), none]) (jL_of 1 rfl) ?_
  intro A E hE hQ hX hNm
  refine j_aload_n hE (i := 0) dX6_slot_0 rfl rfl ?_
  refine j_aload_n hE (i := 0) dX6_slot_1 rfl rfl ?_
  refine j_iload_n hE (i := 1) dX6_slot_2 rfl rfl ?_
  refine j_cVi hE mlX6_75 gB_0 (fun l hl => c_X6_isParameter_t hl K F h0 _ _ _ _ _ _ _ n _ hn hn9 hj) rfl rfl (Nat.le_of_ble_eq_true rfl) (by decide) (by decide) (by omega) (by omega) dX6_slot_3 (fun r G9 hs9 hp => ?_) (fun _ _ h => h.elim)
  obtain ⟨rfl, rfl⟩ := hp
  refine j_if_neN hE (tgt := 13) dX6_slot_6 (by decide) (by omega) (fun h6 => ?_) (fun h6 => ?_)
  · refine j_iload_n hE (i := 3) dX6_slot_13 rfl rfl ?_
    refine j_iconst hE (v := nI 0) dX6_slot_14 (by decide) ?_
    refine j_iconst hE (v := nI 1) dX6_slot_15 (by decide) ?_
    refine j_cSi hE mlX6_26 (fun l hl => c_X6_in_t hl K _ _ _ _ _ (rg_t (by omega) (by omega) (by decide))) rfl rfl (Nat.le_of_ble_eq_true rfl) (by decide) (by decide) (by omega) (by omega) dX6_slot_16 (fun r G9 hs9 hp => ?_) (fun _ _ h => h.elim)
    obtain ⟨rfl, rfl⟩ := hp
    refine j_if_neN hE (tgt := 26) dX6_slot_19 (by decide) (by omega) (fun h19 => ?_) (fun h19 => ?_)
    · refine j_iconst hE (v := nI 0) dX6_slot_26 (by decide) ?_
      refine b_put3 hE flX6_19 rfl rfl dX6_slot_27 ?_
      refine j_aload_n hE (i := 0) dX6_slot_30 rfl rfl ?_
      refine j_get hE flX6_19 gB_0 rfl dX6_slot_31 ?_
      refine j_if_eqN hE (tgt := 39) dX6_slot_34 (by decide) (by omega) (fun h34 => ?_) (fun h34 => ?_)
      · refine j_aload_n hE (i := 0) dX6_slot_39 rfl rfl ?_
        refine j_get hE flX6_7 gB_0 rfl dX6_slot_40 ?_
        refine j_iconst hE (v := nI 3) dX6_slot_43 (by decide) ?_
        refine j_iald hE gB_1 rfl (by omega) (by decide) dX6_slot_44 ?_
        rw [hpl]
        refine j_iconst hE (v := nI 1) dX6_slot_45 (by decide) ?_
        refine j_ic_neN hE (tgt := 62) dX6_slot_46 (by decide) (by omega) (by omega) (fun h46 => ?_) (fun h46 => ?_)
        · exfalso; omega
        · refine j_iload_n hE (i := 2) dX6_slot_49 rfl rfl ?_
          refine j_if_lt hE (tgt := 62) dX6_slot_50 (by decide) (fun h50 => ?_) (fun h50 => ?_)
          · exact absurd h50 (nI_pos hs31)
          · refine j_aload_n hE (i := 0) dX6_slot_53 rfl rfl ?_
            refine j_iload_n hE (i := 1) dX6_slot_54 rfl rfl ?_
            refine j_iload_n hE (i := 2) dX6_slot_55 rfl rfl ?_
            refine j_cVi hE mlX6_79 gB_0 (fun l hl => c_X6_slotOf_t hl K F h0 _ _ _ _ _ _ _ W M hW hM hW6 hW9 hM9 _ s hs31 k0 hk0 hyes hyes2 hle hno) rfl rfl (Nat.le_of_ble_eq_true rfl) (by decide) (by decide) (by omega) (by omega) dX6_slot_56 (fun r G9 hs9 hp => ?_) (fun _ _ h => h.elim)
            obtain ⟨rfl, rfl⟩ := hp
            refine j_goto hE (tgt := 63) dX6_slot_59 (by decide) ?_
            refine j_ist4 hE dX6_slot_63 (by decide) rfl ?_
            refine j_aload_n hE (i := 0) dX6_slot_65 rfl rfl ?_
            refine j_iload hE dX6_slot_66 rfl ?_
            refine j_iconst hE (v := -1) dX6_slot_68 (by decide) ?_
            refine j_ic_ne hE (tgt := 76) dX6_slot_69 (by decide) (fun h69 => ?_) (fun h69 => ?_)
            · refine j_iconst hE (v := nI 0) dX6_slot_76 (by decide) ?_
              refine b_put3 hE flX6_19 rfl rfl dX6_slot_77 ?_
              refine j_aload_n hE (i := 0) dX6_slot_80 rfl rfl ?_
              refine j_get hE flX6_19 gB_0 rfl dX6_slot_81 ?_
              refine j_if_eqN hE (tgt := 91) dX6_slot_84 (by decide) (by omega) (fun h84 => ?_) (fun h84 => ?_)
              · refine j_iload_n hE (i := 3) dX6_slot_91 rfl rfl ?_
                refine j_if_neN hE (tgt := 103) dX6_slot_92 (by decide) (by omega) (fun h92 => ?_) (fun h92 => ?_)
                · exfalso; omega
                · refine j_iload hE dX6_slot_95 rfl ?_
                  refine j_bipush hE (v := nI 16) dX6_slot_97 (by decide) ?_
                  refine j_idivN hE dX6_slot_99 (by omega) (by omega) (by omega) ?_
                  refine j_goto hE (tgt := 108) dX6_slot_100 (by decide) ?_
                  refine j_iret hE hQ rfl (by omega) (by omega) dX6_slot_108 ?_
                  exact ⟨_, rfl, rfl, rfl⟩
              · exfalso; omega
            · exact absurd h69 (nI_m1 (by omega))
      · exfalso; omega
    · exfalso; omega
  · exfalso; omega

set_option maxRecDepth 100000 in
set_option maxHeartbeats 4000000 in
theorem c_X6_slot_t1 {l : Launch} (hl : l.stackTraces = false) (K : jK) (F : GH) (h0 hs : Nat) (now past : Nat → Int32) (kept thrown : Int32) (drawn : Nat → Int32) (hash : Int64) (n j : Nat) (hn : now 2 = nI n) (hn9 : n ≤ 12) (hj : j < n) (W M : Nat) (hW : now 0 = nI W) (hM : now 1 = nI M) (hW6 : 6 ≤ W) (hW9 : W ≤ 16) (hM9 : M ≤ 8) (hpl : now 3 = nI 1) (s : Nat) (hs31 : s < 2 ^ 31) (k0 : Nat) (hk0 : k0 < 16 * M) (hyes : slP now W (nI j) k0 = true) (hyes2 : cntB (slP now W (nI j)) k0 = s) (hle : ∀ k, k ≤ k0 → cntB (slP now W (nI j)) k ≤ s) (hno : ∀ k, k < k0 → slP now W (nI j) k = true → cntB (slP now W (nI j)) k ≠ s) : Ct l K yX6_slot cX6_slot 5 (some .int) 2 43 0 0 [.ref h0, .int (nI j), .int (nI s), .int (nI 1)] (gB F h0 (mC K h0 now past kept thrown drawn hash)) hs (pI (fun z9 G' _ => z9 = nI (k0 % 16) ∧ G' = (gB F h0 (mC K h0 now past kept (nI 0) drawn hash)))) jno := by
  refine Ct.ofA hl (by decide) (Nat.le_of_ble_eq_true rfl) (L0 := [some (.ref h0), some (.int (nI j)), some (.int (nI s)), some (.int (nI 1)), none]) (jL_of 1 rfl) ?_
  intro A E hE hQ hX hNm
  refine j_aload_n hE (i := 0) dX6_slot_0 rfl rfl ?_
  refine j_aload_n hE (i := 0) dX6_slot_1 rfl rfl ?_
  refine j_iload_n hE (i := 1) dX6_slot_2 rfl rfl ?_
  refine j_cVi hE mlX6_75 gB_0 (fun l hl => c_X6_isParameter_t hl K F h0 _ _ _ _ _ _ _ n _ hn hn9 hj) rfl rfl (Nat.le_of_ble_eq_true rfl) (by decide) (by decide) (by omega) (by omega) dX6_slot_3 (fun r G9 hs9 hp => ?_) (fun _ _ h => h.elim)
  obtain ⟨rfl, rfl⟩ := hp
  refine j_if_neN hE (tgt := 13) dX6_slot_6 (by decide) (by omega) (fun h6 => ?_) (fun h6 => ?_)
  · refine j_iload_n hE (i := 3) dX6_slot_13 rfl rfl ?_
    refine j_iconst hE (v := nI 0) dX6_slot_14 (by decide) ?_
    refine j_iconst hE (v := nI 1) dX6_slot_15 (by decide) ?_
    refine j_cSi hE mlX6_26 (fun l hl => c_X6_in_t hl K _ _ _ _ _ (rg_t (by omega) (by omega) (by decide))) rfl rfl (Nat.le_of_ble_eq_true rfl) (by decide) (by decide) (by omega) (by omega) dX6_slot_16 (fun r G9 hs9 hp => ?_) (fun _ _ h => h.elim)
    obtain ⟨rfl, rfl⟩ := hp
    refine j_if_neN hE (tgt := 26) dX6_slot_19 (by decide) (by omega) (fun h19 => ?_) (fun h19 => ?_)
    · refine j_iconst hE (v := nI 0) dX6_slot_26 (by decide) ?_
      refine b_put3 hE flX6_19 rfl rfl dX6_slot_27 ?_
      refine j_aload_n hE (i := 0) dX6_slot_30 rfl rfl ?_
      refine j_get hE flX6_19 gB_0 rfl dX6_slot_31 ?_
      refine j_if_eqN hE (tgt := 39) dX6_slot_34 (by decide) (by omega) (fun h34 => ?_) (fun h34 => ?_)
      · refine j_aload_n hE (i := 0) dX6_slot_39 rfl rfl ?_
        refine j_get hE flX6_7 gB_0 rfl dX6_slot_40 ?_
        refine j_iconst hE (v := nI 3) dX6_slot_43 (by decide) ?_
        refine j_iald hE gB_1 rfl (by omega) (by decide) dX6_slot_44 ?_
        rw [hpl]
        refine j_iconst hE (v := nI 1) dX6_slot_45 (by decide) ?_
        refine j_ic_neN hE (tgt := 62) dX6_slot_46 (by decide) (by omega) (by omega) (fun h46 => ?_) (fun h46 => ?_)
        · exfalso; omega
        · refine j_iload_n hE (i := 2) dX6_slot_49 rfl rfl ?_
          refine j_if_lt hE (tgt := 62) dX6_slot_50 (by decide) (fun h50 => ?_) (fun h50 => ?_)
          · exact absurd h50 (nI_pos hs31)
          · refine j_aload_n hE (i := 0) dX6_slot_53 rfl rfl ?_
            refine j_iload_n hE (i := 1) dX6_slot_54 rfl rfl ?_
            refine j_iload_n hE (i := 2) dX6_slot_55 rfl rfl ?_
            refine j_cVi hE mlX6_79 gB_0 (fun l hl => c_X6_slotOf_t hl K F h0 _ _ _ _ _ _ _ W M hW hM hW6 hW9 hM9 _ s hs31 k0 hk0 hyes hyes2 hle hno) rfl rfl (Nat.le_of_ble_eq_true rfl) (by decide) (by decide) (by omega) (by omega) dX6_slot_56 (fun r G9 hs9 hp => ?_) (fun _ _ h => h.elim)
            obtain ⟨rfl, rfl⟩ := hp
            refine j_goto hE (tgt := 63) dX6_slot_59 (by decide) ?_
            refine j_ist4 hE dX6_slot_63 (by decide) rfl ?_
            refine j_aload_n hE (i := 0) dX6_slot_65 rfl rfl ?_
            refine j_iload hE dX6_slot_66 rfl ?_
            refine j_iconst hE (v := -1) dX6_slot_68 (by decide) ?_
            refine j_ic_ne hE (tgt := 76) dX6_slot_69 (by decide) (fun h69 => ?_) (fun h69 => ?_)
            · refine j_iconst hE (v := nI 0) dX6_slot_76 (by decide) ?_
              refine b_put3 hE flX6_19 rfl rfl dX6_slot_77 ?_
              refine j_aload_n hE (i := 0) dX6_slot_80 rfl rfl ?_
              refine j_get hE flX6_19 gB_0 rfl dX6_slot_81 ?_
              refine j_if_eqN hE (tgt := 91) dX6_slot_84 (by decide) (by omega) (fun h84 => ?_) (fun h84 => ?_)
              · refine j_iload_n hE (i := 3) dX6_slot_91 rfl rfl ?_
                refine j_if_neN hE (tgt := 103) dX6_slot_92 (by decide) (by omega) (fun h92 => ?_) (fun h92 => ?_)
                · refine j_iload hE dX6_slot_103 rfl ?_
                  refine j_bipush hE (v := nI 16) dX6_slot_105 (by decide) ?_
                  refine j_iremN hE dX6_slot_107 (by omega) (by omega) (by omega) ?_
                  refine j_iret hE hQ rfl (by omega) (by omega) dX6_slot_108 ?_
                  exact ⟨_, rfl, rfl, rfl⟩
                · exfalso; omega
              · exfalso; omega
            · exact absurd h69 (nI_m1 (by omega))
      · exfalso; omega
    · exfalso; omega
  · exfalso; omega

set_option maxRecDepth 100000 in
set_option maxHeartbeats 4000000 in
theorem c_X6_slot_f1 {l : Launch} (hl : l.stackTraces = false) (K : jK) (F : GH) (h0 hs : Nat) (now past : Nat → Int32) (kept thrown : Int32) (drawn : Nat → Int32) (hash : Int64) (n : Nat) (p : Int32) (hn : now 2 = nI n) (hn9 : n ≤ 12) (hj : ∀ j, j < n → p ≠ nI j) (q w : Int32) : Ct l K yX6_slot cX6_slot 5 (some .int) 2 43 0 0 [.ref h0, .int p, .int q, .int w] (gB F h0 (mC K h0 now past kept thrown drawn hash)) hs (pI (fun z9 G' _ => z9 = nI 0 ∧ G' = (gB F h0 (mC K h0 now past kept (nI 1) drawn hash)))) jno := by
  refine Ct.ofA hl (by decide) (Nat.le_of_ble_eq_true rfl) (L0 := [some (.ref h0), some (.int p), some (.int q), some (.int w), none]) (jL_of 1 rfl) ?_
  intro A E hE hQ hX hNm
  refine j_aload_n hE (i := 0) dX6_slot_0 rfl rfl ?_
  refine j_aload_n hE (i := 0) dX6_slot_1 rfl rfl ?_
  refine j_iload_n hE (i := 1) dX6_slot_2 rfl rfl ?_
  refine j_cVi hE mlX6_75 gB_0 (fun l hl => c_X6_isParameter_f hl K F h0 _ _ _ _ _ _ _ n _ hn hn9 hj) rfl rfl (Nat.le_of_ble_eq_true rfl) (by decide) (by decide) (by omega) (by omega) dX6_slot_3 (fun r G9 hs9 hp => ?_) (fun _ _ h => h.elim)
  obtain ⟨rfl, rfl⟩ := hp
  refine j_if_neN hE (tgt := 13) dX6_slot_6 (by decide) (by omega) (fun h6 => ?_) (fun h6 => ?_)
  · exfalso; omega
  · refine j_iconst hE (v := nI 1) dX6_slot_9 (by decide) ?_
    refine j_goto hE (tgt := 27) dX6_slot_10 (by decide) ?_
    refine b_put3 hE flX6_19 rfl rfl dX6_slot_27 ?_
    refine j_aload_n hE (i := 0) dX6_slot_30 rfl rfl ?_
    refine j_get hE flX6_19 gB_0 rfl dX6_slot_31 ?_
    refine j_if_eqN hE (tgt := 39) dX6_slot_34 (by decide) (by omega) (fun h34 => ?_) (fun h34 => ?_)
    · exfalso; omega
    · refine j_iconst hE (v := nI 0) dX6_slot_37 (by decide) ?_
      refine j_iret hE hQ rfl (by omega) (by omega) dX6_slot_38 ?_
      exact ⟨_, rfl, rfl, rfl⟩

set_option maxRecDepth 100000 in
set_option maxHeartbeats 4000000 in
theorem c_X6_slot_f2 {l : Launch} (hl : l.stackTraces = false) (K : jK) (F : GH) (h0 hs : Nat) (now past : Nat → Int32) (kept thrown : Int32) (drawn : Nat → Int32) (hash : Int64) (n j : Nat) (hn : now 2 = nI n) (hn9 : n ≤ 12) (hj : j < n) (q w : Int32) (hw : ∀ i, 0 ≤ i → i ≤ 1 → w ≠ nI i) : Ct l K yX6_slot cX6_slot 5 (some .int) 2 43 0 0 [.ref h0, .int (nI j), .int q, .int w] (gB F h0 (mC K h0 now past kept thrown drawn hash)) hs (pI (fun z9 G' _ => z9 = nI 0 ∧ G' = (gB F h0 (mC K h0 now past kept (nI 2) drawn hash)))) jno := by
  refine Ct.ofA hl (by decide) (Nat.le_of_ble_eq_true rfl) (L0 := [some (.ref h0), some (.int (nI j)), some (.int q), some (.int w), none]) (jL_of 1 rfl) ?_
  intro A E hE hQ hX hNm
  refine j_aload_n hE (i := 0) dX6_slot_0 rfl rfl ?_
  refine j_aload_n hE (i := 0) dX6_slot_1 rfl rfl ?_
  refine j_iload_n hE (i := 1) dX6_slot_2 rfl rfl ?_
  refine j_cVi hE mlX6_75 gB_0 (fun l hl => c_X6_isParameter_t hl K F h0 _ _ _ _ _ _ _ n _ hn hn9 hj) rfl rfl (Nat.le_of_ble_eq_true rfl) (by decide) (by decide) (by omega) (by omega) dX6_slot_3 (fun r G9 hs9 hp => ?_) (fun _ _ h => h.elim)
  obtain ⟨rfl, rfl⟩ := hp
  refine j_if_neN hE (tgt := 13) dX6_slot_6 (by decide) (by omega) (fun h6 => ?_) (fun h6 => ?_)
  · refine j_iload_n hE (i := 3) dX6_slot_13 rfl rfl ?_
    refine j_iconst hE (v := nI 0) dX6_slot_14 (by decide) ?_
    refine j_iconst hE (v := nI 1) dX6_slot_15 (by decide) ?_
    refine j_cSi hE mlX6_26 (fun l hl => c_X6_in_f hl K _ _ _ _ _ (rg_f hw (by decide) (by decide))) rfl rfl (Nat.le_of_ble_eq_true rfl) (by decide) (by decide) (by omega) (by omega) dX6_slot_16 (fun r G9 hs9 hp => ?_) (fun _ _ h => h.elim)
    obtain ⟨rfl, rfl⟩ := hp
    refine j_if_neN hE (tgt := 26) dX6_slot_19 (by decide) (by omega) (fun h19 => ?_) (fun h19 => ?_)
    · exfalso; omega
    · refine j_iconst hE (v := nI 2) dX6_slot_22 (by decide) ?_
      refine j_goto hE (tgt := 27) dX6_slot_23 (by decide) ?_
      refine b_put3 hE flX6_19 rfl rfl dX6_slot_27 ?_
      refine j_aload_n hE (i := 0) dX6_slot_30 rfl rfl ?_
      refine j_get hE flX6_19 gB_0 rfl dX6_slot_31 ?_
      refine j_if_eqN hE (tgt := 39) dX6_slot_34 (by decide) (by omega) (fun h34 => ?_) (fun h34 => ?_)
      · exfalso; omega
      · refine j_iconst hE (v := nI 0) dX6_slot_37 (by decide) ?_
        refine j_iret hE hQ rfl (by omega) (by omega) dX6_slot_38 ?_
        exact ⟨_, rfl, rfl, rfl⟩
  · exfalso; omega

set_option maxRecDepth 100000 in
set_option maxHeartbeats 4000000 in
theorem c_X6_slot_f3 {l : Launch} (hl : l.stackTraces = false) (K : jK) (F : GH) (h0 hs : Nat) (now past : Nat → Int32) (kept thrown : Int32) (drawn : Nat → Int32) (hash : Int64) (n j : Nat) (hn : now 2 = nI n) (hn9 : n ≤ 12) (hj : j < n) (q : Int32) (w : Nat) (hw : w ≤ 1) (hpl : now 3 = nI 0) : Ct l K yX6_slot cX6_slot 5 (some .int) 2 43 0 0 [.ref h0, .int (nI j), .int q, .int (nI w)] (gB F h0 (mC K h0 now past kept thrown drawn hash)) hs (pI (fun z9 G' _ => z9 = nI 0 ∧ G' = (gB F h0 (mC K h0 now past kept (nI 3) drawn hash)))) jno := by
  refine Ct.ofA hl (by decide) (Nat.le_of_ble_eq_true rfl) (L0 := [some (.ref h0), some (.int (nI j)), some (.int q), some (.int (nI w)), none]) (jL_of 1 rfl) ?_
  intro A E hE hQ hX hNm
  refine j_aload_n hE (i := 0) dX6_slot_0 rfl rfl ?_
  refine j_aload_n hE (i := 0) dX6_slot_1 rfl rfl ?_
  refine j_iload_n hE (i := 1) dX6_slot_2 rfl rfl ?_
  refine j_cVi hE mlX6_75 gB_0 (fun l hl => c_X6_isParameter_t hl K F h0 _ _ _ _ _ _ _ n _ hn hn9 hj) rfl rfl (Nat.le_of_ble_eq_true rfl) (by decide) (by decide) (by omega) (by omega) dX6_slot_3 (fun r G9 hs9 hp => ?_) (fun _ _ h => h.elim)
  obtain ⟨rfl, rfl⟩ := hp
  refine j_if_neN hE (tgt := 13) dX6_slot_6 (by decide) (by omega) (fun h6 => ?_) (fun h6 => ?_)
  · refine j_iload_n hE (i := 3) dX6_slot_13 rfl rfl ?_
    refine j_iconst hE (v := nI 0) dX6_slot_14 (by decide) ?_
    refine j_iconst hE (v := nI 1) dX6_slot_15 (by decide) ?_
    refine j_cSi hE mlX6_26 (fun l hl => c_X6_in_t hl K _ _ _ _ _ (rg_t (by omega) (by omega) (by decide))) rfl rfl (Nat.le_of_ble_eq_true rfl) (by decide) (by decide) (by omega) (by omega) dX6_slot_16 (fun r G9 hs9 hp => ?_) (fun _ _ h => h.elim)
    obtain ⟨rfl, rfl⟩ := hp
    refine j_if_neN hE (tgt := 26) dX6_slot_19 (by decide) (by omega) (fun h19 => ?_) (fun h19 => ?_)
    · refine j_iconst hE (v := nI 0) dX6_slot_26 (by decide) ?_
      refine b_put3 hE flX6_19 rfl rfl dX6_slot_27 ?_
      refine j_aload_n hE (i := 0) dX6_slot_30 rfl rfl ?_
      refine j_get hE flX6_19 gB_0 rfl dX6_slot_31 ?_
      refine j_if_eqN hE (tgt := 39) dX6_slot_34 (by decide) (by omega) (fun h34 => ?_) (fun h34 => ?_)
      · refine j_aload_n hE (i := 0) dX6_slot_39 rfl rfl ?_
        refine j_get hE flX6_7 gB_0 rfl dX6_slot_40 ?_
        refine j_iconst hE (v := nI 3) dX6_slot_43 (by decide) ?_
        refine j_iald hE gB_1 rfl (by omega) (by decide) dX6_slot_44 ?_
        rw [hpl]
        refine j_iconst hE (v := nI 1) dX6_slot_45 (by decide) ?_
        refine j_ic_neN hE (tgt := 62) dX6_slot_46 (by decide) (by omega) (by omega) (fun h46 => ?_) (fun h46 => ?_)
        · refine j_iconst hE (v := -1) dX6_slot_62 (by decide) ?_
          refine j_ist4 hE dX6_slot_63 (by decide) rfl ?_
          refine j_aload_n hE (i := 0) dX6_slot_65 rfl rfl ?_
          refine j_iload hE dX6_slot_66 rfl ?_
          refine j_iconst hE (v := -1) dX6_slot_68 (by decide) ?_
          refine j_ic_ne hE (tgt := 76) dX6_slot_69 (by decide) (fun h69 => ?_) (fun h69 => ?_)
          · exact absurd rfl h69
          · refine j_iconst hE (v := nI 3) dX6_slot_72 (by decide) ?_
            refine j_goto hE (tgt := 77) dX6_slot_73 (by decide) ?_
            refine b_put3 hE flX6_19 rfl rfl dX6_slot_77 ?_
            refine j_aload_n hE (i := 0) dX6_slot_80 rfl rfl ?_
            refine j_get hE flX6_19 gB_0 rfl dX6_slot_81 ?_
            refine j_if_eqN hE (tgt := 91) dX6_slot_84 (by decide) (by omega) (fun h84 => ?_) (fun h84 => ?_)
            · exfalso; omega
            · refine j_iconst hE (v := nI 0) dX6_slot_87 (by decide) ?_
              refine j_goto hE (tgt := 108) dX6_slot_88 (by decide) ?_
              refine j_iret hE hQ rfl (by omega) (by omega) dX6_slot_108 ?_
              exact ⟨_, rfl, rfl, rfl⟩
        · exfalso; omega
      · exfalso; omega
    · exfalso; omega
  · exfalso; omega

set_option maxRecDepth 100000 in
set_option maxHeartbeats 4000000 in
theorem c_X6_slot_f4 {l : Launch} (hl : l.stackTraces = false) (K : jK) (F : GH) (h0 hs : Nat) (now past : Nat → Int32) (kept thrown : Int32) (drawn : Nat → Int32) (hash : Int64) (n j : Nat) (hn : now 2 = nI n) (hn9 : n ≤ 12) (hj : j < n) (q : Int32) (w : Nat) (hw : w ≤ 1) (hpl : now 3 = nI 1) (hq : q < 0) : Ct l K yX6_slot cX6_slot 5 (some .int) 2 43 0 0 [.ref h0, .int (nI j), .int q, .int (nI w)] (gB F h0 (mC K h0 now past kept thrown drawn hash)) hs (pI (fun z9 G' _ => z9 = nI 0 ∧ G' = (gB F h0 (mC K h0 now past kept (nI 3) drawn hash)))) jno := by
  refine Ct.ofA hl (by decide) (Nat.le_of_ble_eq_true rfl) (L0 := [some (.ref h0), some (.int (nI j)), some (.int q), some (.int (nI w)), none]) (jL_of 1 rfl) ?_
  intro A E hE hQ hX hNm
  refine j_aload_n hE (i := 0) dX6_slot_0 rfl rfl ?_
  refine j_aload_n hE (i := 0) dX6_slot_1 rfl rfl ?_
  refine j_iload_n hE (i := 1) dX6_slot_2 rfl rfl ?_
  refine j_cVi hE mlX6_75 gB_0 (fun l hl => c_X6_isParameter_t hl K F h0 _ _ _ _ _ _ _ n _ hn hn9 hj) rfl rfl (Nat.le_of_ble_eq_true rfl) (by decide) (by decide) (by omega) (by omega) dX6_slot_3 (fun r G9 hs9 hp => ?_) (fun _ _ h => h.elim)
  obtain ⟨rfl, rfl⟩ := hp
  refine j_if_neN hE (tgt := 13) dX6_slot_6 (by decide) (by omega) (fun h6 => ?_) (fun h6 => ?_)
  · refine j_iload_n hE (i := 3) dX6_slot_13 rfl rfl ?_
    refine j_iconst hE (v := nI 0) dX6_slot_14 (by decide) ?_
    refine j_iconst hE (v := nI 1) dX6_slot_15 (by decide) ?_
    refine j_cSi hE mlX6_26 (fun l hl => c_X6_in_t hl K _ _ _ _ _ (rg_t (by omega) (by omega) (by decide))) rfl rfl (Nat.le_of_ble_eq_true rfl) (by decide) (by decide) (by omega) (by omega) dX6_slot_16 (fun r G9 hs9 hp => ?_) (fun _ _ h => h.elim)
    obtain ⟨rfl, rfl⟩ := hp
    refine j_if_neN hE (tgt := 26) dX6_slot_19 (by decide) (by omega) (fun h19 => ?_) (fun h19 => ?_)
    · refine j_iconst hE (v := nI 0) dX6_slot_26 (by decide) ?_
      refine b_put3 hE flX6_19 rfl rfl dX6_slot_27 ?_
      refine j_aload_n hE (i := 0) dX6_slot_30 rfl rfl ?_
      refine j_get hE flX6_19 gB_0 rfl dX6_slot_31 ?_
      refine j_if_eqN hE (tgt := 39) dX6_slot_34 (by decide) (by omega) (fun h34 => ?_) (fun h34 => ?_)
      · refine j_aload_n hE (i := 0) dX6_slot_39 rfl rfl ?_
        refine j_get hE flX6_7 gB_0 rfl dX6_slot_40 ?_
        refine j_iconst hE (v := nI 3) dX6_slot_43 (by decide) ?_
        refine j_iald hE gB_1 rfl (by omega) (by decide) dX6_slot_44 ?_
        rw [hpl]
        refine j_iconst hE (v := nI 1) dX6_slot_45 (by decide) ?_
        refine j_ic_neN hE (tgt := 62) dX6_slot_46 (by decide) (by omega) (by omega) (fun h46 => ?_) (fun h46 => ?_)
        · exfalso; omega
        · refine j_iload_n hE (i := 2) dX6_slot_49 rfl rfl ?_
          refine j_if_lt hE (tgt := 62) dX6_slot_50 (by decide) (fun h50 => ?_) (fun h50 => ?_)
          · refine j_iconst hE (v := -1) dX6_slot_62 (by decide) ?_
            refine j_ist4 hE dX6_slot_63 (by decide) rfl ?_
            refine j_aload_n hE (i := 0) dX6_slot_65 rfl rfl ?_
            refine j_iload hE dX6_slot_66 rfl ?_
            refine j_iconst hE (v := -1) dX6_slot_68 (by decide) ?_
            refine j_ic_ne hE (tgt := 76) dX6_slot_69 (by decide) (fun h69 => ?_) (fun h69 => ?_)
            · exact absurd rfl h69
            · refine j_iconst hE (v := nI 3) dX6_slot_72 (by decide) ?_
              refine j_goto hE (tgt := 77) dX6_slot_73 (by decide) ?_
              refine b_put3 hE flX6_19 rfl rfl dX6_slot_77 ?_
              refine j_aload_n hE (i := 0) dX6_slot_80 rfl rfl ?_
              refine j_get hE flX6_19 gB_0 rfl dX6_slot_81 ?_
              refine j_if_eqN hE (tgt := 91) dX6_slot_84 (by decide) (by omega) (fun h84 => ?_) (fun h84 => ?_)
              · exfalso; omega
              · refine j_iconst hE (v := nI 0) dX6_slot_87 (by decide) ?_
                refine j_goto hE (tgt := 108) dX6_slot_88 (by decide) ?_
                refine j_iret hE hQ rfl (by omega) (by omega) dX6_slot_108 ?_
                exact ⟨_, rfl, rfl, rfl⟩
          · exact absurd hq h50
      · exfalso; omega
    · exfalso; omega
  · exfalso; omega

set_option maxRecDepth 100000 in
set_option maxHeartbeats 4000000 in
theorem c_X6_slot_f5 {l : Launch} (hl : l.stackTraces = false) (K : jK) (F : GH) (h0 hs : Nat) (now past : Nat → Int32) (kept thrown : Int32) (drawn : Nat → Int32) (hash : Int64) (n j : Nat) (hn : now 2 = nI n) (hn9 : n ≤ 12) (hj : j < n) (W M : Nat) (hW : now 0 = nI W) (hM : now 1 = nI M) (hW6 : 6 ≤ W) (hW9 : W ≤ 16) (hM9 : M ≤ 8) (s w : Nat) (hs31 : s < 2 ^ 31) (hw : w ≤ 1) (hpl : now 3 = nI 1) (hle : ∀ k, k ≤ 16 * M → cntB (slP now W (nI j)) k ≤ s) (hno : ∀ k, k < 16 * M → slP now W (nI j) k = true → cntB (slP now W (nI j)) k ≠ s) : Ct l K yX6_slot cX6_slot 5 (some .int) 2 43 0 0 [.ref h0, .int (nI j), .int (nI s), .int (nI w)] (gB F h0 (mC K h0 now past kept thrown drawn hash)) hs (pI (fun z9 G' _ => z9 = nI 0 ∧ G' = (gB F h0 (mC K h0 now past kept (nI 3) drawn hash)))) jno := by
  refine Ct.ofA hl (by decide) (Nat.le_of_ble_eq_true rfl) (L0 := [some (.ref h0), some (.int (nI j)), some (.int (nI s)), some (.int (nI w)), none]) (jL_of 1 rfl) ?_
  intro A E hE hQ hX hNm
  refine j_aload_n hE (i := 0) dX6_slot_0 rfl rfl ?_
  refine j_aload_n hE (i := 0) dX6_slot_1 rfl rfl ?_
  refine j_iload_n hE (i := 1) dX6_slot_2 rfl rfl ?_
  refine j_cVi hE mlX6_75 gB_0 (fun l hl => c_X6_isParameter_t hl K F h0 _ _ _ _ _ _ _ n _ hn hn9 hj) rfl rfl (Nat.le_of_ble_eq_true rfl) (by decide) (by decide) (by omega) (by omega) dX6_slot_3 (fun r G9 hs9 hp => ?_) (fun _ _ h => h.elim)
  obtain ⟨rfl, rfl⟩ := hp
  refine j_if_neN hE (tgt := 13) dX6_slot_6 (by decide) (by omega) (fun h6 => ?_) (fun h6 => ?_)
  · refine j_iload_n hE (i := 3) dX6_slot_13 rfl rfl ?_
    refine j_iconst hE (v := nI 0) dX6_slot_14 (by decide) ?_
    refine j_iconst hE (v := nI 1) dX6_slot_15 (by decide) ?_
    refine j_cSi hE mlX6_26 (fun l hl => c_X6_in_t hl K _ _ _ _ _ (rg_t (by omega) (by omega) (by decide))) rfl rfl (Nat.le_of_ble_eq_true rfl) (by decide) (by decide) (by omega) (by omega) dX6_slot_16 (fun r G9 hs9 hp => ?_) (fun _ _ h => h.elim)
    obtain ⟨rfl, rfl⟩ := hp
    refine j_if_neN hE (tgt := 26) dX6_slot_19 (by decide) (by omega) (fun h19 => ?_) (fun h19 => ?_)
    · refine j_iconst hE (v := nI 0) dX6_slot_26 (by decide) ?_
      refine b_put3 hE flX6_19 rfl rfl dX6_slot_27 ?_
      refine j_aload_n hE (i := 0) dX6_slot_30 rfl rfl ?_
      refine j_get hE flX6_19 gB_0 rfl dX6_slot_31 ?_
      refine j_if_eqN hE (tgt := 39) dX6_slot_34 (by decide) (by omega) (fun h34 => ?_) (fun h34 => ?_)
      · refine j_aload_n hE (i := 0) dX6_slot_39 rfl rfl ?_
        refine j_get hE flX6_7 gB_0 rfl dX6_slot_40 ?_
        refine j_iconst hE (v := nI 3) dX6_slot_43 (by decide) ?_
        refine j_iald hE gB_1 rfl (by omega) (by decide) dX6_slot_44 ?_
        rw [hpl]
        refine j_iconst hE (v := nI 1) dX6_slot_45 (by decide) ?_
        refine j_ic_neN hE (tgt := 62) dX6_slot_46 (by decide) (by omega) (by omega) (fun h46 => ?_) (fun h46 => ?_)
        · exfalso; omega
        · refine j_iload_n hE (i := 2) dX6_slot_49 rfl rfl ?_
          refine j_if_lt hE (tgt := 62) dX6_slot_50 (by decide) (fun h50 => ?_) (fun h50 => ?_)
          · exact absurd h50 (nI_pos hs31)
          · refine j_aload_n hE (i := 0) dX6_slot_53 rfl rfl ?_
            refine j_iload_n hE (i := 1) dX6_slot_54 rfl rfl ?_
            refine j_iload_n hE (i := 2) dX6_slot_55 rfl rfl ?_
            refine j_cVi hE mlX6_79 gB_0 (fun l hl => c_X6_slotOf_f hl K F h0 _ _ _ _ _ _ _ W M hW hM hW6 hW9 hM9 _ s hs31 hle hno) rfl rfl (Nat.le_of_ble_eq_true rfl) (by decide) (by decide) (by omega) (by omega) dX6_slot_56 (fun r G9 hs9 hp => ?_) (fun _ _ h => h.elim)
            obtain ⟨rfl, rfl⟩ := hp
            refine j_goto hE (tgt := 63) dX6_slot_59 (by decide) ?_
            refine j_ist4 hE dX6_slot_63 (by decide) rfl ?_
            refine j_aload_n hE (i := 0) dX6_slot_65 rfl rfl ?_
            refine j_iload hE dX6_slot_66 rfl ?_
            refine j_iconst hE (v := -1) dX6_slot_68 (by decide) ?_
            refine j_ic_ne hE (tgt := 76) dX6_slot_69 (by decide) (fun h69 => ?_) (fun h69 => ?_)
            · exact absurd rfl h69
            · refine j_iconst hE (v := nI 3) dX6_slot_72 (by decide) ?_
              refine j_goto hE (tgt := 77) dX6_slot_73 (by decide) ?_
              refine b_put3 hE flX6_19 rfl rfl dX6_slot_77 ?_
              refine j_aload_n hE (i := 0) dX6_slot_80 rfl rfl ?_
              refine j_get hE flX6_19 gB_0 rfl dX6_slot_81 ?_
              refine j_if_eqN hE (tgt := 91) dX6_slot_84 (by decide) (by omega) (fun h84 => ?_) (fun h84 => ?_)
              · exfalso; omega
              · refine j_iconst hE (v := nI 0) dX6_slot_87 (by decide) ?_
                refine j_goto hE (tgt := 108) dX6_slot_88 (by decide) ?_
                refine j_iret hE hQ rfl (by omega) (by omega) dX6_slot_108 ?_
                exact ⟨_, rfl, rfl, rfl⟩
      · exfalso; omega
    · exfalso; omega
  · exfalso; omega

def pz (p k : Nat) (now : Nat → Int32) : Nat → Int32 := upd now (33 + 14 * p + k) (nI 0)
def pl255 (p m : Nat) (now : Nat → Int32) : Nat → Int32 := upd now (33 + 14 * p + (4 + 2 * m + 1)) (nI 255)
theorem pz_out (p : Nat) (now : Nat → Int32) {i : Nat} (h : i < 33 + 14 * p ∨ 33 + 14 * p + 14 ≤ i) : ∀ n, n ≤ 14 → itr (pz p) n now i = now i
  | 0, _ => rfl
  | n + 1, hn => by
    rw [itr_s]
    unfold pz
    rw [upd_n (by omega)]
    exact pz_out p now h n (by omega)
theorem pl255_out (p : Nat) (now : Nat → Int32) {i : Nat} (h : i < 33 + 14 * p ∨ 33 + 14 * p + 14 ≤ i) : ∀ n, n ≤ 3 → itr (pl255 p) n now i = now i
  | 0, _ => rfl
  | n + 1, hn => by
    rw [itr_s]
    unfold pl255
    rw [upd_n (by omega)]
    exact pl255_out p now h n (by omega)
def mPar (now : Nat → Int32) (p : Nat) (rate : Int32) : Nat → Int32 := itr (pl255 p) 3 (upd (upd (upd (itr (pz p) 14 now) (33 + 14 * p + 0) rate) (33 + 14 * p + 2) (-1)) (33 + 14 * p + 10) (nI 1))
theorem mPar_out (now : Nat → Int32) (p : Nat) (rate : Int32) {i : Nat} (h : i < 33 + 14 * p ∨ 33 + 14 * p + 14 ≤ i) : mPar now p rate i = now i := by
  unfold mPar
  rw [pl255_out p _ h 3 (by omega), upd_n (by omega), upd_n (by omega), upd_n (by omega), pz_out p _ h 14 (by omega)]
def mAdd (now : Nat → Int32) (n : Nat) (rate : Int32) : Nat → Int32 := mAnew (upd (mPar now n rate) 2 (nI (n + 1)))
theorem rOk_neg {x : Int32} (h : rOk x) (h2 : ¬ (nI 1 ≤ x ∧ x ≤ nI 4)) : x = -2 ∨ x = -4 ∨ x = -8 := by
  rcases h with ⟨r, h1, h4, rfl⟩ | ⟨q, hq, rfl⟩
  · exact absurd (rg_t h1 h4 (by decide)) h2
  · rcases hq with rfl | rfl | rfl
    · exact Or.inl (by decide)
    · exact Or.inr (Or.inl (by decide))
    · exact Or.inr (Or.inr (by decide))
theorem rOk_of {x : Int32} (h : (nI 1 ≤ x ∧ x ≤ nI 4) ∨ x = -2 ∨ x = -4 ∨ x = -8) : rOk x := by
  rcases h with h | rfl | rfl | rfl
  · obtain ⟨j, h1, h2, rfl⟩ := rg_ex h (by decide) (by decide)
    exact Or.inl ⟨j, h1, h2, rfl⟩
  · exact Or.inr ⟨2, by omega, by decide⟩
  · exact Or.inr ⟨4, by omega, by decide⟩
  · exact Or.inr ⟨8, by omega, by decide⟩
set_option maxRecDepth 100000 in
set_option maxHeartbeats 4000000 in
theorem c_X6_addParameter_t {l : Launch} (hl : l.stackTraces = false) (K : jK) (F : GH) (h0 hs : Nat) (now past : Nat → Int32) (thrown : Int32) (k : Nat) (hk : k ≤ 4) (drawn : Nat → Int32) (hash : Int64) (n : Nat) (hn : now 2 = nI n) (hn9 : n < 12) (rate : Int32) (hr : rOk rate) : Ct l K yX6_addParameter cX6_addParameter 5 (some .int) 2 40 0 0 [.ref h0, .int rate] (gB F h0 (mC K h0 now past (nI k) thrown drawn hash)) hs (pI (fun z9 G' _ => z9 = nI n ∧ G' = (gB F h0 (mC K h0 (mAdd now n rate) (mKeep now past k) (nI (mKept k)) (nI 0) drawn hash)))) jno := by
  refine Ct.ofA hl (by decide) (Nat.le_of_ble_eq_true rfl) (L0 := [some (.ref h0), some (.int rate), none, none, none]) (jL_of 3 rfl) ?_
  intro A E hE hQ hX hNm
  refine j_iload_n hE (i := 1) dX6_addParameter_0 rfl rfl ?_
  refine j_iconst hE (v := nI 1) dX6_addParameter_1 (by decide) ?_
  refine j_iconst hE (v := nI 4) dX6_addParameter_2 (by decide) ?_
  refine j_cSi hE mlX6_26 (fun l hl => c_X6_in hl K _ _ _ _ _) rfl rfl (Nat.le_of_ble_eq_true rfl) (by decide) (by decide) (by omega) (by omega) dX6_addParameter_3 (fun r G9 hs9 hp => ?_) (fun _ _ h => h.elim)
  obtain ⟨rfl, rfl⟩ := hp
  refine j_if_ne hE (tgt := 27) dX6_addParameter_6 (by decide) (fun h6 => ?_) (fun h6 => ?_)
  · refine j_iconst hE (v := nI 1) dX6_addParameter_27 (by decide) ?_
    refine j_goto hE (tgt := 32) dX6_addParameter_28 (by decide) ?_
    refine j_ist2 hE dX6_addParameter_32 rfl (by decide) rfl ?_
    refine j_aload_n hE (i := 0) dX6_addParameter_33 rfl rfl ?_
    refine j_iload_n hE (i := 2) dX6_addParameter_34 rfl rfl ?_
    refine j_if_neN hE (tgt := 42) dX6_addParameter_35 (by decide) (by omega) (fun h35 => ?_) (fun h35 => ?_)
    · refine j_aload_n hE (i := 0) dX6_addParameter_42 rfl rfl ?_
      refine j_get hE flX6_7 gB_0 rfl dX6_addParameter_43 ?_
      refine j_iconst hE (v := nI 2) dX6_addParameter_46 (by decide) ?_
      refine j_iald hE gB_1 rfl (by omega) (by decide) dX6_addParameter_47 ?_
      rw [hn]
      refine j_bipush hE (v := nI 12) dX6_addParameter_48 (by decide) ?_
      refine j_ic_neN hE (tgt := 57) dX6_addParameter_50 (by decide) (by omega) (by omega) (fun h50 => ?_) (fun h50 => ?_)
      · refine j_iconst hE (v := nI 0) dX6_addParameter_57 (by decide) ?_
        refine b_put3 hE flX6_19 rfl rfl dX6_addParameter_58 ?_
        refine j_aload_n hE (i := 0) dX6_addParameter_61 rfl rfl ?_
        refine j_get hE flX6_19 gB_0 rfl dX6_addParameter_62 ?_
        refine j_if_eqN hE (tgt := 70) dX6_addParameter_65 (by decide) (by omega) (fun h65 => ?_) (fun h65 => ?_)
        · refine j_aload_n hE (i := 0) dX6_addParameter_70 rfl rfl ?_
          refine j_cVv hE mlX6_33 gB_0 (fun l hl => c_X6_keep hl K F h0 _ _ _ _ _ hk _ _) rfl rfl (Nat.le_of_ble_eq_true rfl) (by decide) (by decide) (by omega) (by omega) dX6_addParameter_71 (fun G9 hs9 hp => ?_) (fun _ _ h => h.elim)
          subst hp
          refine j_aload_n hE (i := 0) dX6_addParameter_74 rfl rfl ?_
          refine j_get hE flX6_7 gB_0 rfl dX6_addParameter_75 ?_
          refine j_iconst hE (v := nI 2) dX6_addParameter_78 (by decide) ?_
          refine j_iald hE gB_1 rfl (by omega) (by decide) dX6_addParameter_79 ?_
          rw [hn]
          refine j_ist3 hE dX6_addParameter_80 rfl (by decide) rfl ?_
          refine j_iconst hE (v := nI 0) dX6_addParameter_81 (by decide) ?_
          refine j_ist4 hE dX6_addParameter_82 (by decide) rfl ?_
          have key84 : ∀ i, i ≤ 14 → ∀ hs, J K A E 5 (gB F h0 (mC K h0 (itr (pz n) i now) (mKeep now past k) (nI (mKept k)) (nI 0) drawn hash)) hs 0 0 84 [some (.ref h0), some (.int rate), some (.int (nI 1)), some (.int (nI n)), some (.int (nI i))] [] := by
            refine dloop (fun i => ∀ hs, J K A E 5 (gB F h0 (mC K h0 (itr (pz n) i now) (mKeep now past k) (nI (mKept k)) (nI 0) drawn hash)) hs 0 0 84 [some (.ref h0), some (.int rate), some (.int (nI 1)), some (.int (nI n)), some (.int (nI i))] []) (14) (fun i hi84 ih84 => ?_) ?_
            · intro hs
              refine j_iload hE dX6_addParameter_84 rfl ?_
              refine j_bipush hE (v := nI 14) dX6_addParameter_86 (by decide) ?_
              refine j_ic_geN hE (tgt := 105) dX6_addParameter_88 (by decide) (by omega) (by omega) (fun h88 => ?_) (fun h88 => ?_)
              · exfalso; omega
              · refine j_aload_n hE (i := 0) dX6_addParameter_91 rfl rfl ?_
                refine j_iload_n hE (i := 3) dX6_addParameter_92 rfl rfl ?_
                refine j_iload hE dX6_addParameter_93 rfl ?_
                refine j_iconst hE (v := nI 0) dX6_addParameter_95 (by decide) ?_
                refine j_cVv hE mlX6_39 gB_0 (fun l hl => c_X6_put hl K F h0 _ _ _ _ _ _ _ _ _ _ (by omega)) rfl rfl (Nat.le_of_ble_eq_true rfl) (by decide) (by decide) (by omega) (by omega) dX6_addParameter_96 (fun G9 hs9 hp => ?_) (fun _ _ h => h.elim)
                subst hp
                refine j_incN4 hE dX6_addParameter_99 (by decide) rfl ?_
                refine j_goto hE (tgt := 84) dX6_addParameter_102 (by decide) ?_
                exact ih84 _
            · intro hs
              refine j_iload hE dX6_addParameter_84 rfl ?_
              refine j_bipush hE (v := nI 14) dX6_addParameter_86 (by decide) ?_
              refine j_ic_geN hE (tgt := 105) dX6_addParameter_88 (by decide) (by omega) (by omega) (fun h88 => ?_) (fun h88 => ?_)
              · refine j_aload_n hE (i := 0) dX6_addParameter_105 rfl rfl ?_
                refine j_iload_n hE (i := 3) dX6_addParameter_106 rfl rfl ?_
                refine j_iconst hE (v := nI 0) dX6_addParameter_107 (by decide) ?_
                refine j_iload_n hE (i := 1) dX6_addParameter_108 rfl rfl ?_
                refine j_cVv hE mlX6_39 gB_0 (fun l hl => c_X6_put hl K F h0 _ _ _ _ _ _ _ _ _ _ (by omega)) rfl rfl (Nat.le_of_ble_eq_true rfl) (by decide) (by decide) (by omega) (by omega) dX6_addParameter_109 (fun G9 hs9 hp => ?_) (fun _ _ h => h.elim)
                subst hp
                refine j_aload_n hE (i := 0) dX6_addParameter_112 rfl rfl ?_
                refine j_iload_n hE (i := 3) dX6_addParameter_113 rfl rfl ?_
                refine j_iconst hE (v := nI 2) dX6_addParameter_114 (by decide) ?_
                refine j_iconst hE (v := -1) dX6_addParameter_115 (by decide) ?_
                refine j_cVv hE mlX6_39 gB_0 (fun l hl => c_X6_put hl K F h0 _ _ _ _ _ _ _ _ _ _ (by omega)) rfl rfl (Nat.le_of_ble_eq_true rfl) (by decide) (by decide) (by omega) (by omega) dX6_addParameter_116 (fun G9 hs9 hp => ?_) (fun _ _ h => h.elim)
                subst hp
                refine j_aload_n hE (i := 0) dX6_addParameter_119 rfl rfl ?_
                refine j_iload_n hE (i := 3) dX6_addParameter_120 rfl rfl ?_
                refine j_bipush hE (v := nI 10) dX6_addParameter_121 (by decide) ?_
                refine j_iconst hE (v := nI 1) dX6_addParameter_123 (by decide) ?_
                refine j_cVv hE mlX6_39 gB_0 (fun l hl => c_X6_put hl K F h0 _ _ _ _ _ _ _ _ _ _ (by omega)) rfl rfl (Nat.le_of_ble_eq_true rfl) (by decide) (by decide) (by omega) (by omega) dX6_addParameter_124 (fun G9 hs9 hp => ?_) (fun _ _ h => h.elim)
                subst hp
                refine j_iconst hE (v := nI 0) dX6_addParameter_127 (by decide) ?_
                refine j_ist4 hE dX6_addParameter_128 (by decide) rfl ?_
                have key130 : ∀ i, i ≤ 3 → ∀ hs, J K A E 5 (gB F h0 (mC K h0 (itr (pl255 n) i (upd (upd (upd (itr (pz n) 14 now) (33 + 14 * n + 0) rate) (33 + 14 * n + 2) (-1)) (33 + 14 * n + 10) (nI 1))) (mKeep now past k) (nI (mKept k)) (nI 0) drawn hash)) hs 0 0 130 [some (.ref h0), some (.int rate), some (.int (nI 1)), some (.int (nI n)), some (.int (nI i))] [] := by
                  refine dloop (fun i => ∀ hs, J K A E 5 (gB F h0 (mC K h0 (itr (pl255 n) i (upd (upd (upd (itr (pz n) 14 now) (33 + 14 * n + 0) rate) (33 + 14 * n + 2) (-1)) (33 + 14 * n + 10) (nI 1))) (mKeep now past k) (nI (mKept k)) (nI 0) drawn hash)) hs 0 0 130 [some (.ref h0), some (.int rate), some (.int (nI 1)), some (.int (nI n)), some (.int (nI i))] []) (3) (fun i hi130 ih130 => ?_) ?_
                  · intro hs
                    refine j_iload hE dX6_addParameter_130 rfl ?_
                    refine j_iconst hE (v := nI 3) dX6_addParameter_132 (by decide) ?_
                    refine j_ic_geN hE (tgt := 158) dX6_addParameter_133 (by decide) (by omega) (by omega) (fun h133 => ?_) (fun h133 => ?_)
                    · exfalso; omega
                    · refine j_aload_n hE (i := 0) dX6_addParameter_136 rfl rfl ?_
                      refine j_iload_n hE (i := 3) dX6_addParameter_137 rfl rfl ?_
                      refine j_iconst hE (v := nI 4) dX6_addParameter_138 (by decide) ?_
                      refine j_iconst hE (v := nI 2) dX6_addParameter_139 (by decide) ?_
                      refine j_iload hE dX6_addParameter_140 rfl ?_
                      refine j_imulN hE dX6_addParameter_142 ?_
                      refine j_iaddN hE dX6_addParameter_143 ?_
                      refine j_iconst hE (v := nI 1) dX6_addParameter_144 (by decide) ?_
                      refine j_iaddN hE dX6_addParameter_145 ?_
                      refine j_sipush hE (v := nI 255) dX6_addParameter_146 (by decide) ?_
                      refine j_cVv hE mlX6_39 gB_0 (fun l hl => c_X6_put hl K F h0 _ _ _ _ _ _ _ _ _ _ (by omega)) rfl rfl (Nat.le_of_ble_eq_true rfl) (by decide) (by decide) (by omega) (by omega) dX6_addParameter_149 (fun G9 hs9 hp => ?_) (fun _ _ h => h.elim)
                      subst hp
                      refine j_incN4 hE dX6_addParameter_152 (by decide) rfl ?_
                      refine j_goto hE (tgt := 130) dX6_addParameter_155 (by decide) ?_
                      exact ih130 _
                  · intro hs
                    refine j_iload hE dX6_addParameter_130 rfl ?_
                    refine j_iconst hE (v := nI 3) dX6_addParameter_132 (by decide) ?_
                    refine j_ic_geN hE (tgt := 158) dX6_addParameter_133 (by decide) (by omega) (by omega) (fun h133 => ?_) (fun h133 => ?_)
                    · refine j_aload_n hE (i := 0) dX6_addParameter_158 rfl rfl ?_
                      refine j_get hE flX6_7 gB_0 rfl dX6_addParameter_159 ?_
                      refine j_iconst hE (v := nI 2) dX6_addParameter_162 (by decide) ?_
                      refine j_dup2 hE dX6_addParameter_163 rfl rfl ?_
                      refine j_iald hE gB_1 rfl (by omega) (by decide) dX6_addParameter_164 ?_
                      rw [show itr (pl255 n) 3 (upd (upd (upd (itr (pz n) 14 now) (33 + 14 * n + 0) rate) (33 + 14 * n + 2) (-1)) (33 + 14 * n + 10) (nI 1)) 2 = nI n from (mPar_out now n rate (by omega)).trans hn]
                      refine j_iconst hE (v := nI 1) dX6_addParameter_165 (by decide) ?_
                      refine j_iaddN hE dX6_addParameter_166 ?_
                      refine b_ast1 hE rfl (by omega) (by decide) dX6_addParameter_167 ?_
                      refine j_aload_n hE (i := 0) dX6_addParameter_168 rfl rfl ?_
                      refine j_cVv hE mlX6_36 gB_0 (fun l hl => c_X6_beginsAnew hl K F h0 _ _ _ _ _ _ _) rfl rfl (Nat.le_of_ble_eq_true rfl) (by decide) (by decide) (by omega) (by omega) dX6_addParameter_169 (fun G9 hs9 hp => ?_) (fun _ _ h => h.elim)
                      subst hp
                      refine j_iload_n hE (i := 3) dX6_addParameter_172 rfl rfl ?_
                      refine j_iret hE hQ rfl (by omega) (by omega) dX6_addParameter_173 ?_
                      exact ⟨_, rfl, rfl, rfl⟩
                    · exfalso; omega
                exact key130 0 (by omega) _
              · exfalso; omega
          exact key84 0 (by omega) _
        · exfalso; omega
      · exfalso; omega
    · exfalso; omega
  · refine j_iload_n hE (i := 1) dX6_addParameter_9 rfl rfl ?_
    refine j_bipush hE (v := -2) dX6_addParameter_10 (by decide) ?_
    refine j_ic_eq hE (tgt := 27) dX6_addParameter_12 (by decide) (fun h12 => ?_) (fun h12 => ?_)
    · refine j_iconst hE (v := nI 1) dX6_addParameter_27 (by decide) ?_
      refine j_goto hE (tgt := 32) dX6_addParameter_28 (by decide) ?_
      refine j_ist2 hE dX6_addParameter_32 rfl (by decide) rfl ?_
      refine j_aload_n hE (i := 0) dX6_addParameter_33 rfl rfl ?_
      refine j_iload_n hE (i := 2) dX6_addParameter_34 rfl rfl ?_
      refine j_if_neN hE (tgt := 42) dX6_addParameter_35 (by decide) (by omega) (fun h35 => ?_) (fun h35 => ?_)
      · refine j_aload_n hE (i := 0) dX6_addParameter_42 rfl rfl ?_
        refine j_get hE flX6_7 gB_0 rfl dX6_addParameter_43 ?_
        refine j_iconst hE (v := nI 2) dX6_addParameter_46 (by decide) ?_
        refine j_iald hE gB_1 rfl (by omega) (by decide) dX6_addParameter_47 ?_
        rw [hn]
        refine j_bipush hE (v := nI 12) dX6_addParameter_48 (by decide) ?_
        refine j_ic_neN hE (tgt := 57) dX6_addParameter_50 (by decide) (by omega) (by omega) (fun h50 => ?_) (fun h50 => ?_)
        · refine j_iconst hE (v := nI 0) dX6_addParameter_57 (by decide) ?_
          refine b_put3 hE flX6_19 rfl rfl dX6_addParameter_58 ?_
          refine j_aload_n hE (i := 0) dX6_addParameter_61 rfl rfl ?_
          refine j_get hE flX6_19 gB_0 rfl dX6_addParameter_62 ?_
          refine j_if_eqN hE (tgt := 70) dX6_addParameter_65 (by decide) (by omega) (fun h65 => ?_) (fun h65 => ?_)
          · refine j_aload_n hE (i := 0) dX6_addParameter_70 rfl rfl ?_
            refine j_cVv hE mlX6_33 gB_0 (fun l hl => c_X6_keep hl K F h0 _ _ _ _ _ hk _ _) rfl rfl (Nat.le_of_ble_eq_true rfl) (by decide) (by decide) (by omega) (by omega) dX6_addParameter_71 (fun G9 hs9 hp => ?_) (fun _ _ h => h.elim)
            subst hp
            refine j_aload_n hE (i := 0) dX6_addParameter_74 rfl rfl ?_
            refine j_get hE flX6_7 gB_0 rfl dX6_addParameter_75 ?_
            refine j_iconst hE (v := nI 2) dX6_addParameter_78 (by decide) ?_
            refine j_iald hE gB_1 rfl (by omega) (by decide) dX6_addParameter_79 ?_
            rw [hn]
            refine j_ist3 hE dX6_addParameter_80 rfl (by decide) rfl ?_
            refine j_iconst hE (v := nI 0) dX6_addParameter_81 (by decide) ?_
            refine j_ist4 hE dX6_addParameter_82 (by decide) rfl ?_
            have key84 : ∀ i, i ≤ 14 → ∀ hs, J K A E 5 (gB F h0 (mC K h0 (itr (pz n) i now) (mKeep now past k) (nI (mKept k)) (nI 0) drawn hash)) hs 0 0 84 [some (.ref h0), some (.int rate), some (.int (nI 1)), some (.int (nI n)), some (.int (nI i))] [] := by
              refine dloop (fun i => ∀ hs, J K A E 5 (gB F h0 (mC K h0 (itr (pz n) i now) (mKeep now past k) (nI (mKept k)) (nI 0) drawn hash)) hs 0 0 84 [some (.ref h0), some (.int rate), some (.int (nI 1)), some (.int (nI n)), some (.int (nI i))] []) (14) (fun i hi84 ih84 => ?_) ?_
              · intro hs
                refine j_iload hE dX6_addParameter_84 rfl ?_
                refine j_bipush hE (v := nI 14) dX6_addParameter_86 (by decide) ?_
                refine j_ic_geN hE (tgt := 105) dX6_addParameter_88 (by decide) (by omega) (by omega) (fun h88 => ?_) (fun h88 => ?_)
                · exfalso; omega
                · refine j_aload_n hE (i := 0) dX6_addParameter_91 rfl rfl ?_
                  refine j_iload_n hE (i := 3) dX6_addParameter_92 rfl rfl ?_
                  refine j_iload hE dX6_addParameter_93 rfl ?_
                  refine j_iconst hE (v := nI 0) dX6_addParameter_95 (by decide) ?_
                  refine j_cVv hE mlX6_39 gB_0 (fun l hl => c_X6_put hl K F h0 _ _ _ _ _ _ _ _ _ _ (by omega)) rfl rfl (Nat.le_of_ble_eq_true rfl) (by decide) (by decide) (by omega) (by omega) dX6_addParameter_96 (fun G9 hs9 hp => ?_) (fun _ _ h => h.elim)
                  subst hp
                  refine j_incN4 hE dX6_addParameter_99 (by decide) rfl ?_
                  refine j_goto hE (tgt := 84) dX6_addParameter_102 (by decide) ?_
                  exact ih84 _
              · intro hs
                refine j_iload hE dX6_addParameter_84 rfl ?_
                refine j_bipush hE (v := nI 14) dX6_addParameter_86 (by decide) ?_
                refine j_ic_geN hE (tgt := 105) dX6_addParameter_88 (by decide) (by omega) (by omega) (fun h88 => ?_) (fun h88 => ?_)
                · refine j_aload_n hE (i := 0) dX6_addParameter_105 rfl rfl ?_
                  refine j_iload_n hE (i := 3) dX6_addParameter_106 rfl rfl ?_
                  refine j_iconst hE (v := nI 0) dX6_addParameter_107 (by decide) ?_
                  refine j_iload_n hE (i := 1) dX6_addParameter_108 rfl rfl ?_
                  refine j_cVv hE mlX6_39 gB_0 (fun l hl => c_X6_put hl K F h0 _ _ _ _ _ _ _ _ _ _ (by omega)) rfl rfl (Nat.le_of_ble_eq_true rfl) (by decide) (by decide) (by omega) (by omega) dX6_addParameter_109 (fun G9 hs9 hp => ?_) (fun _ _ h => h.elim)
                  subst hp
                  refine j_aload_n hE (i := 0) dX6_addParameter_112 rfl rfl ?_
                  refine j_iload_n hE (i := 3) dX6_addParameter_113 rfl rfl ?_
                  refine j_iconst hE (v := nI 2) dX6_addParameter_114 (by decide) ?_
                  refine j_iconst hE (v := -1) dX6_addParameter_115 (by decide) ?_
                  refine j_cVv hE mlX6_39 gB_0 (fun l hl => c_X6_put hl K F h0 _ _ _ _ _ _ _ _ _ _ (by omega)) rfl rfl (Nat.le_of_ble_eq_true rfl) (by decide) (by decide) (by omega) (by omega) dX6_addParameter_116 (fun G9 hs9 hp => ?_) (fun _ _ h => h.elim)
                  subst hp
                  refine j_aload_n hE (i := 0) dX6_addParameter_119 rfl rfl ?_
                  refine j_iload_n hE (i := 3) dX6_addParameter_120 rfl rfl ?_
                  refine j_bipush hE (v := nI 10) dX6_addParameter_121 (by decide) ?_
                  refine j_iconst hE (v := nI 1) dX6_addParameter_123 (by decide) ?_
                  refine j_cVv hE mlX6_39 gB_0 (fun l hl => c_X6_put hl K F h0 _ _ _ _ _ _ _ _ _ _ (by omega)) rfl rfl (Nat.le_of_ble_eq_true rfl) (by decide) (by decide) (by omega) (by omega) dX6_addParameter_124 (fun G9 hs9 hp => ?_) (fun _ _ h => h.elim)
                  subst hp
                  refine j_iconst hE (v := nI 0) dX6_addParameter_127 (by decide) ?_
                  refine j_ist4 hE dX6_addParameter_128 (by decide) rfl ?_
                  have key130 : ∀ i, i ≤ 3 → ∀ hs, J K A E 5 (gB F h0 (mC K h0 (itr (pl255 n) i (upd (upd (upd (itr (pz n) 14 now) (33 + 14 * n + 0) rate) (33 + 14 * n + 2) (-1)) (33 + 14 * n + 10) (nI 1))) (mKeep now past k) (nI (mKept k)) (nI 0) drawn hash)) hs 0 0 130 [some (.ref h0), some (.int rate), some (.int (nI 1)), some (.int (nI n)), some (.int (nI i))] [] := by
                    refine dloop (fun i => ∀ hs, J K A E 5 (gB F h0 (mC K h0 (itr (pl255 n) i (upd (upd (upd (itr (pz n) 14 now) (33 + 14 * n + 0) rate) (33 + 14 * n + 2) (-1)) (33 + 14 * n + 10) (nI 1))) (mKeep now past k) (nI (mKept k)) (nI 0) drawn hash)) hs 0 0 130 [some (.ref h0), some (.int rate), some (.int (nI 1)), some (.int (nI n)), some (.int (nI i))] []) (3) (fun i hi130 ih130 => ?_) ?_
                    · intro hs
                      refine j_iload hE dX6_addParameter_130 rfl ?_
                      refine j_iconst hE (v := nI 3) dX6_addParameter_132 (by decide) ?_
                      refine j_ic_geN hE (tgt := 158) dX6_addParameter_133 (by decide) (by omega) (by omega) (fun h133 => ?_) (fun h133 => ?_)
                      · exfalso; omega
                      · refine j_aload_n hE (i := 0) dX6_addParameter_136 rfl rfl ?_
                        refine j_iload_n hE (i := 3) dX6_addParameter_137 rfl rfl ?_
                        refine j_iconst hE (v := nI 4) dX6_addParameter_138 (by decide) ?_
                        refine j_iconst hE (v := nI 2) dX6_addParameter_139 (by decide) ?_
                        refine j_iload hE dX6_addParameter_140 rfl ?_
                        refine j_imulN hE dX6_addParameter_142 ?_
                        refine j_iaddN hE dX6_addParameter_143 ?_
                        refine j_iconst hE (v := nI 1) dX6_addParameter_144 (by decide) ?_
                        refine j_iaddN hE dX6_addParameter_145 ?_
                        refine j_sipush hE (v := nI 255) dX6_addParameter_146 (by decide) ?_
                        refine j_cVv hE mlX6_39 gB_0 (fun l hl => c_X6_put hl K F h0 _ _ _ _ _ _ _ _ _ _ (by omega)) rfl rfl (Nat.le_of_ble_eq_true rfl) (by decide) (by decide) (by omega) (by omega) dX6_addParameter_149 (fun G9 hs9 hp => ?_) (fun _ _ h => h.elim)
                        subst hp
                        refine j_incN4 hE dX6_addParameter_152 (by decide) rfl ?_
                        refine j_goto hE (tgt := 130) dX6_addParameter_155 (by decide) ?_
                        exact ih130 _
                    · intro hs
                      refine j_iload hE dX6_addParameter_130 rfl ?_
                      refine j_iconst hE (v := nI 3) dX6_addParameter_132 (by decide) ?_
                      refine j_ic_geN hE (tgt := 158) dX6_addParameter_133 (by decide) (by omega) (by omega) (fun h133 => ?_) (fun h133 => ?_)
                      · refine j_aload_n hE (i := 0) dX6_addParameter_158 rfl rfl ?_
                        refine j_get hE flX6_7 gB_0 rfl dX6_addParameter_159 ?_
                        refine j_iconst hE (v := nI 2) dX6_addParameter_162 (by decide) ?_
                        refine j_dup2 hE dX6_addParameter_163 rfl rfl ?_
                        refine j_iald hE gB_1 rfl (by omega) (by decide) dX6_addParameter_164 ?_
                        rw [show itr (pl255 n) 3 (upd (upd (upd (itr (pz n) 14 now) (33 + 14 * n + 0) rate) (33 + 14 * n + 2) (-1)) (33 + 14 * n + 10) (nI 1)) 2 = nI n from (mPar_out now n rate (by omega)).trans hn]
                        refine j_iconst hE (v := nI 1) dX6_addParameter_165 (by decide) ?_
                        refine j_iaddN hE dX6_addParameter_166 ?_
                        refine b_ast1 hE rfl (by omega) (by decide) dX6_addParameter_167 ?_
                        refine j_aload_n hE (i := 0) dX6_addParameter_168 rfl rfl ?_
                        refine j_cVv hE mlX6_36 gB_0 (fun l hl => c_X6_beginsAnew hl K F h0 _ _ _ _ _ _ _) rfl rfl (Nat.le_of_ble_eq_true rfl) (by decide) (by decide) (by omega) (by omega) dX6_addParameter_169 (fun G9 hs9 hp => ?_) (fun _ _ h => h.elim)
                        subst hp
                        refine j_iload_n hE (i := 3) dX6_addParameter_172 rfl rfl ?_
                        refine j_iret hE hQ rfl (by omega) (by omega) dX6_addParameter_173 ?_
                        exact ⟨_, rfl, rfl, rfl⟩
                      · exfalso; omega
                  exact key130 0 (by omega) _
                · exfalso; omega
            exact key84 0 (by omega) _
          · exfalso; omega
        · exfalso; omega
      · exfalso; omega
    · refine j_iload_n hE (i := 1) dX6_addParameter_15 rfl rfl ?_
      refine j_bipush hE (v := -4) dX6_addParameter_16 (by decide) ?_
      refine j_ic_eq hE (tgt := 27) dX6_addParameter_18 (by decide) (fun h18 => ?_) (fun h18 => ?_)
      · refine j_iconst hE (v := nI 1) dX6_addParameter_27 (by decide) ?_
        refine j_goto hE (tgt := 32) dX6_addParameter_28 (by decide) ?_
        refine j_ist2 hE dX6_addParameter_32 rfl (by decide) rfl ?_
        refine j_aload_n hE (i := 0) dX6_addParameter_33 rfl rfl ?_
        refine j_iload_n hE (i := 2) dX6_addParameter_34 rfl rfl ?_
        refine j_if_neN hE (tgt := 42) dX6_addParameter_35 (by decide) (by omega) (fun h35 => ?_) (fun h35 => ?_)
        · refine j_aload_n hE (i := 0) dX6_addParameter_42 rfl rfl ?_
          refine j_get hE flX6_7 gB_0 rfl dX6_addParameter_43 ?_
          refine j_iconst hE (v := nI 2) dX6_addParameter_46 (by decide) ?_
          refine j_iald hE gB_1 rfl (by omega) (by decide) dX6_addParameter_47 ?_
          rw [hn]
          refine j_bipush hE (v := nI 12) dX6_addParameter_48 (by decide) ?_
          refine j_ic_neN hE (tgt := 57) dX6_addParameter_50 (by decide) (by omega) (by omega) (fun h50 => ?_) (fun h50 => ?_)
          · refine j_iconst hE (v := nI 0) dX6_addParameter_57 (by decide) ?_
            refine b_put3 hE flX6_19 rfl rfl dX6_addParameter_58 ?_
            refine j_aload_n hE (i := 0) dX6_addParameter_61 rfl rfl ?_
            refine j_get hE flX6_19 gB_0 rfl dX6_addParameter_62 ?_
            refine j_if_eqN hE (tgt := 70) dX6_addParameter_65 (by decide) (by omega) (fun h65 => ?_) (fun h65 => ?_)
            · refine j_aload_n hE (i := 0) dX6_addParameter_70 rfl rfl ?_
              refine j_cVv hE mlX6_33 gB_0 (fun l hl => c_X6_keep hl K F h0 _ _ _ _ _ hk _ _) rfl rfl (Nat.le_of_ble_eq_true rfl) (by decide) (by decide) (by omega) (by omega) dX6_addParameter_71 (fun G9 hs9 hp => ?_) (fun _ _ h => h.elim)
              subst hp
              refine j_aload_n hE (i := 0) dX6_addParameter_74 rfl rfl ?_
              refine j_get hE flX6_7 gB_0 rfl dX6_addParameter_75 ?_
              refine j_iconst hE (v := nI 2) dX6_addParameter_78 (by decide) ?_
              refine j_iald hE gB_1 rfl (by omega) (by decide) dX6_addParameter_79 ?_
              rw [hn]
              refine j_ist3 hE dX6_addParameter_80 rfl (by decide) rfl ?_
              refine j_iconst hE (v := nI 0) dX6_addParameter_81 (by decide) ?_
              refine j_ist4 hE dX6_addParameter_82 (by decide) rfl ?_
              have key84 : ∀ i, i ≤ 14 → ∀ hs, J K A E 5 (gB F h0 (mC K h0 (itr (pz n) i now) (mKeep now past k) (nI (mKept k)) (nI 0) drawn hash)) hs 0 0 84 [some (.ref h0), some (.int rate), some (.int (nI 1)), some (.int (nI n)), some (.int (nI i))] [] := by
                refine dloop (fun i => ∀ hs, J K A E 5 (gB F h0 (mC K h0 (itr (pz n) i now) (mKeep now past k) (nI (mKept k)) (nI 0) drawn hash)) hs 0 0 84 [some (.ref h0), some (.int rate), some (.int (nI 1)), some (.int (nI n)), some (.int (nI i))] []) (14) (fun i hi84 ih84 => ?_) ?_
                · intro hs
                  refine j_iload hE dX6_addParameter_84 rfl ?_
                  refine j_bipush hE (v := nI 14) dX6_addParameter_86 (by decide) ?_
                  refine j_ic_geN hE (tgt := 105) dX6_addParameter_88 (by decide) (by omega) (by omega) (fun h88 => ?_) (fun h88 => ?_)
                  · exfalso; omega
                  · refine j_aload_n hE (i := 0) dX6_addParameter_91 rfl rfl ?_
                    refine j_iload_n hE (i := 3) dX6_addParameter_92 rfl rfl ?_
                    refine j_iload hE dX6_addParameter_93 rfl ?_
                    refine j_iconst hE (v := nI 0) dX6_addParameter_95 (by decide) ?_
                    refine j_cVv hE mlX6_39 gB_0 (fun l hl => c_X6_put hl K F h0 _ _ _ _ _ _ _ _ _ _ (by omega)) rfl rfl (Nat.le_of_ble_eq_true rfl) (by decide) (by decide) (by omega) (by omega) dX6_addParameter_96 (fun G9 hs9 hp => ?_) (fun _ _ h => h.elim)
                    subst hp
                    refine j_incN4 hE dX6_addParameter_99 (by decide) rfl ?_
                    refine j_goto hE (tgt := 84) dX6_addParameter_102 (by decide) ?_
                    exact ih84 _
                · intro hs
                  refine j_iload hE dX6_addParameter_84 rfl ?_
                  refine j_bipush hE (v := nI 14) dX6_addParameter_86 (by decide) ?_
                  refine j_ic_geN hE (tgt := 105) dX6_addParameter_88 (by decide) (by omega) (by omega) (fun h88 => ?_) (fun h88 => ?_)
                  · refine j_aload_n hE (i := 0) dX6_addParameter_105 rfl rfl ?_
                    refine j_iload_n hE (i := 3) dX6_addParameter_106 rfl rfl ?_
                    refine j_iconst hE (v := nI 0) dX6_addParameter_107 (by decide) ?_
                    refine j_iload_n hE (i := 1) dX6_addParameter_108 rfl rfl ?_
                    refine j_cVv hE mlX6_39 gB_0 (fun l hl => c_X6_put hl K F h0 _ _ _ _ _ _ _ _ _ _ (by omega)) rfl rfl (Nat.le_of_ble_eq_true rfl) (by decide) (by decide) (by omega) (by omega) dX6_addParameter_109 (fun G9 hs9 hp => ?_) (fun _ _ h => h.elim)
                    subst hp
                    refine j_aload_n hE (i := 0) dX6_addParameter_112 rfl rfl ?_
                    refine j_iload_n hE (i := 3) dX6_addParameter_113 rfl rfl ?_
                    refine j_iconst hE (v := nI 2) dX6_addParameter_114 (by decide) ?_
                    refine j_iconst hE (v := -1) dX6_addParameter_115 (by decide) ?_
                    refine j_cVv hE mlX6_39 gB_0 (fun l hl => c_X6_put hl K F h0 _ _ _ _ _ _ _ _ _ _ (by omega)) rfl rfl (Nat.le_of_ble_eq_true rfl) (by decide) (by decide) (by omega) (by omega) dX6_addParameter_116 (fun G9 hs9 hp => ?_) (fun _ _ h => h.elim)
                    subst hp
                    refine j_aload_n hE (i := 0) dX6_addParameter_119 rfl rfl ?_
                    refine j_iload_n hE (i := 3) dX6_addParameter_120 rfl rfl ?_
                    refine j_bipush hE (v := nI 10) dX6_addParameter_121 (by decide) ?_
                    refine j_iconst hE (v := nI 1) dX6_addParameter_123 (by decide) ?_
                    refine j_cVv hE mlX6_39 gB_0 (fun l hl => c_X6_put hl K F h0 _ _ _ _ _ _ _ _ _ _ (by omega)) rfl rfl (Nat.le_of_ble_eq_true rfl) (by decide) (by decide) (by omega) (by omega) dX6_addParameter_124 (fun G9 hs9 hp => ?_) (fun _ _ h => h.elim)
                    subst hp
                    refine j_iconst hE (v := nI 0) dX6_addParameter_127 (by decide) ?_
                    refine j_ist4 hE dX6_addParameter_128 (by decide) rfl ?_
                    have key130 : ∀ i, i ≤ 3 → ∀ hs, J K A E 5 (gB F h0 (mC K h0 (itr (pl255 n) i (upd (upd (upd (itr (pz n) 14 now) (33 + 14 * n + 0) rate) (33 + 14 * n + 2) (-1)) (33 + 14 * n + 10) (nI 1))) (mKeep now past k) (nI (mKept k)) (nI 0) drawn hash)) hs 0 0 130 [some (.ref h0), some (.int rate), some (.int (nI 1)), some (.int (nI n)), some (.int (nI i))] [] := by
                      refine dloop (fun i => ∀ hs, J K A E 5 (gB F h0 (mC K h0 (itr (pl255 n) i (upd (upd (upd (itr (pz n) 14 now) (33 + 14 * n + 0) rate) (33 + 14 * n + 2) (-1)) (33 + 14 * n + 10) (nI 1))) (mKeep now past k) (nI (mKept k)) (nI 0) drawn hash)) hs 0 0 130 [some (.ref h0), some (.int rate), some (.int (nI 1)), some (.int (nI n)), some (.int (nI i))] []) (3) (fun i hi130 ih130 => ?_) ?_
                      · intro hs
                        refine j_iload hE dX6_addParameter_130 rfl ?_
                        refine j_iconst hE (v := nI 3) dX6_addParameter_132 (by decide) ?_
                        refine j_ic_geN hE (tgt := 158) dX6_addParameter_133 (by decide) (by omega) (by omega) (fun h133 => ?_) (fun h133 => ?_)
                        · exfalso; omega
                        · refine j_aload_n hE (i := 0) dX6_addParameter_136 rfl rfl ?_
                          refine j_iload_n hE (i := 3) dX6_addParameter_137 rfl rfl ?_
                          refine j_iconst hE (v := nI 4) dX6_addParameter_138 (by decide) ?_
                          refine j_iconst hE (v := nI 2) dX6_addParameter_139 (by decide) ?_
                          refine j_iload hE dX6_addParameter_140 rfl ?_
                          refine j_imulN hE dX6_addParameter_142 ?_
                          refine j_iaddN hE dX6_addParameter_143 ?_
                          refine j_iconst hE (v := nI 1) dX6_addParameter_144 (by decide) ?_
                          refine j_iaddN hE dX6_addParameter_145 ?_
                          refine j_sipush hE (v := nI 255) dX6_addParameter_146 (by decide) ?_
                          refine j_cVv hE mlX6_39 gB_0 (fun l hl => c_X6_put hl K F h0 _ _ _ _ _ _ _ _ _ _ (by omega)) rfl rfl (Nat.le_of_ble_eq_true rfl) (by decide) (by decide) (by omega) (by omega) dX6_addParameter_149 (fun G9 hs9 hp => ?_) (fun _ _ h => h.elim)
                          subst hp
                          refine j_incN4 hE dX6_addParameter_152 (by decide) rfl ?_
                          refine j_goto hE (tgt := 130) dX6_addParameter_155 (by decide) ?_
                          exact ih130 _
                      · intro hs
                        refine j_iload hE dX6_addParameter_130 rfl ?_
                        refine j_iconst hE (v := nI 3) dX6_addParameter_132 (by decide) ?_
                        refine j_ic_geN hE (tgt := 158) dX6_addParameter_133 (by decide) (by omega) (by omega) (fun h133 => ?_) (fun h133 => ?_)
                        · refine j_aload_n hE (i := 0) dX6_addParameter_158 rfl rfl ?_
                          refine j_get hE flX6_7 gB_0 rfl dX6_addParameter_159 ?_
                          refine j_iconst hE (v := nI 2) dX6_addParameter_162 (by decide) ?_
                          refine j_dup2 hE dX6_addParameter_163 rfl rfl ?_
                          refine j_iald hE gB_1 rfl (by omega) (by decide) dX6_addParameter_164 ?_
                          rw [show itr (pl255 n) 3 (upd (upd (upd (itr (pz n) 14 now) (33 + 14 * n + 0) rate) (33 + 14 * n + 2) (-1)) (33 + 14 * n + 10) (nI 1)) 2 = nI n from (mPar_out now n rate (by omega)).trans hn]
                          refine j_iconst hE (v := nI 1) dX6_addParameter_165 (by decide) ?_
                          refine j_iaddN hE dX6_addParameter_166 ?_
                          refine b_ast1 hE rfl (by omega) (by decide) dX6_addParameter_167 ?_
                          refine j_aload_n hE (i := 0) dX6_addParameter_168 rfl rfl ?_
                          refine j_cVv hE mlX6_36 gB_0 (fun l hl => c_X6_beginsAnew hl K F h0 _ _ _ _ _ _ _) rfl rfl (Nat.le_of_ble_eq_true rfl) (by decide) (by decide) (by omega) (by omega) dX6_addParameter_169 (fun G9 hs9 hp => ?_) (fun _ _ h => h.elim)
                          subst hp
                          refine j_iload_n hE (i := 3) dX6_addParameter_172 rfl rfl ?_
                          refine j_iret hE hQ rfl (by omega) (by omega) dX6_addParameter_173 ?_
                          exact ⟨_, rfl, rfl, rfl⟩
                        · exfalso; omega
                    exact key130 0 (by omega) _
                  · exfalso; omega
              exact key84 0 (by omega) _
            · exfalso; omega
          · exfalso; omega
        · exfalso; omega
      · refine j_iload_n hE (i := 1) dX6_addParameter_21 rfl rfl ?_
        refine j_bipush hE (v := -8) dX6_addParameter_22 (by decide) ?_
        refine j_ic_ne hE (tgt := 31) dX6_addParameter_24 (by decide) (fun h24 => ?_) (fun h24 => ?_)
        · rcases rOk_neg hr (jbd_eq (Classical.not_not.mp (fun q => q h6))) with q | q | q
          · exact absurd q h12
          · exact absurd q h18
          · exact absurd q h24
        · refine j_iconst hE (v := nI 1) dX6_addParameter_27 (by decide) ?_
          refine j_goto hE (tgt := 32) dX6_addParameter_28 (by decide) ?_
          refine j_ist2 hE dX6_addParameter_32 rfl (by decide) rfl ?_
          refine j_aload_n hE (i := 0) dX6_addParameter_33 rfl rfl ?_
          refine j_iload_n hE (i := 2) dX6_addParameter_34 rfl rfl ?_
          refine j_if_neN hE (tgt := 42) dX6_addParameter_35 (by decide) (by omega) (fun h35 => ?_) (fun h35 => ?_)
          · refine j_aload_n hE (i := 0) dX6_addParameter_42 rfl rfl ?_
            refine j_get hE flX6_7 gB_0 rfl dX6_addParameter_43 ?_
            refine j_iconst hE (v := nI 2) dX6_addParameter_46 (by decide) ?_
            refine j_iald hE gB_1 rfl (by omega) (by decide) dX6_addParameter_47 ?_
            rw [hn]
            refine j_bipush hE (v := nI 12) dX6_addParameter_48 (by decide) ?_
            refine j_ic_neN hE (tgt := 57) dX6_addParameter_50 (by decide) (by omega) (by omega) (fun h50 => ?_) (fun h50 => ?_)
            · refine j_iconst hE (v := nI 0) dX6_addParameter_57 (by decide) ?_
              refine b_put3 hE flX6_19 rfl rfl dX6_addParameter_58 ?_
              refine j_aload_n hE (i := 0) dX6_addParameter_61 rfl rfl ?_
              refine j_get hE flX6_19 gB_0 rfl dX6_addParameter_62 ?_
              refine j_if_eqN hE (tgt := 70) dX6_addParameter_65 (by decide) (by omega) (fun h65 => ?_) (fun h65 => ?_)
              · refine j_aload_n hE (i := 0) dX6_addParameter_70 rfl rfl ?_
                refine j_cVv hE mlX6_33 gB_0 (fun l hl => c_X6_keep hl K F h0 _ _ _ _ _ hk _ _) rfl rfl (Nat.le_of_ble_eq_true rfl) (by decide) (by decide) (by omega) (by omega) dX6_addParameter_71 (fun G9 hs9 hp => ?_) (fun _ _ h => h.elim)
                subst hp
                refine j_aload_n hE (i := 0) dX6_addParameter_74 rfl rfl ?_
                refine j_get hE flX6_7 gB_0 rfl dX6_addParameter_75 ?_
                refine j_iconst hE (v := nI 2) dX6_addParameter_78 (by decide) ?_
                refine j_iald hE gB_1 rfl (by omega) (by decide) dX6_addParameter_79 ?_
                rw [hn]
                refine j_ist3 hE dX6_addParameter_80 rfl (by decide) rfl ?_
                refine j_iconst hE (v := nI 0) dX6_addParameter_81 (by decide) ?_
                refine j_ist4 hE dX6_addParameter_82 (by decide) rfl ?_
                have key84 : ∀ i, i ≤ 14 → ∀ hs, J K A E 5 (gB F h0 (mC K h0 (itr (pz n) i now) (mKeep now past k) (nI (mKept k)) (nI 0) drawn hash)) hs 0 0 84 [some (.ref h0), some (.int rate), some (.int (nI 1)), some (.int (nI n)), some (.int (nI i))] [] := by
                  refine dloop (fun i => ∀ hs, J K A E 5 (gB F h0 (mC K h0 (itr (pz n) i now) (mKeep now past k) (nI (mKept k)) (nI 0) drawn hash)) hs 0 0 84 [some (.ref h0), some (.int rate), some (.int (nI 1)), some (.int (nI n)), some (.int (nI i))] []) (14) (fun i hi84 ih84 => ?_) ?_
                  · intro hs
                    refine j_iload hE dX6_addParameter_84 rfl ?_
                    refine j_bipush hE (v := nI 14) dX6_addParameter_86 (by decide) ?_
                    refine j_ic_geN hE (tgt := 105) dX6_addParameter_88 (by decide) (by omega) (by omega) (fun h88 => ?_) (fun h88 => ?_)
                    · exfalso; omega
                    · refine j_aload_n hE (i := 0) dX6_addParameter_91 rfl rfl ?_
                      refine j_iload_n hE (i := 3) dX6_addParameter_92 rfl rfl ?_
                      refine j_iload hE dX6_addParameter_93 rfl ?_
                      refine j_iconst hE (v := nI 0) dX6_addParameter_95 (by decide) ?_
                      refine j_cVv hE mlX6_39 gB_0 (fun l hl => c_X6_put hl K F h0 _ _ _ _ _ _ _ _ _ _ (by omega)) rfl rfl (Nat.le_of_ble_eq_true rfl) (by decide) (by decide) (by omega) (by omega) dX6_addParameter_96 (fun G9 hs9 hp => ?_) (fun _ _ h => h.elim)
                      subst hp
                      refine j_incN4 hE dX6_addParameter_99 (by decide) rfl ?_
                      refine j_goto hE (tgt := 84) dX6_addParameter_102 (by decide) ?_
                      exact ih84 _
                  · intro hs
                    refine j_iload hE dX6_addParameter_84 rfl ?_
                    refine j_bipush hE (v := nI 14) dX6_addParameter_86 (by decide) ?_
                    refine j_ic_geN hE (tgt := 105) dX6_addParameter_88 (by decide) (by omega) (by omega) (fun h88 => ?_) (fun h88 => ?_)
                    · refine j_aload_n hE (i := 0) dX6_addParameter_105 rfl rfl ?_
                      refine j_iload_n hE (i := 3) dX6_addParameter_106 rfl rfl ?_
                      refine j_iconst hE (v := nI 0) dX6_addParameter_107 (by decide) ?_
                      refine j_iload_n hE (i := 1) dX6_addParameter_108 rfl rfl ?_
                      refine j_cVv hE mlX6_39 gB_0 (fun l hl => c_X6_put hl K F h0 _ _ _ _ _ _ _ _ _ _ (by omega)) rfl rfl (Nat.le_of_ble_eq_true rfl) (by decide) (by decide) (by omega) (by omega) dX6_addParameter_109 (fun G9 hs9 hp => ?_) (fun _ _ h => h.elim)
                      subst hp
                      refine j_aload_n hE (i := 0) dX6_addParameter_112 rfl rfl ?_
                      refine j_iload_n hE (i := 3) dX6_addParameter_113 rfl rfl ?_
                      refine j_iconst hE (v := nI 2) dX6_addParameter_114 (by decide) ?_
                      refine j_iconst hE (v := -1) dX6_addParameter_115 (by decide) ?_
                      refine j_cVv hE mlX6_39 gB_0 (fun l hl => c_X6_put hl K F h0 _ _ _ _ _ _ _ _ _ _ (by omega)) rfl rfl (Nat.le_of_ble_eq_true rfl) (by decide) (by decide) (by omega) (by omega) dX6_addParameter_116 (fun G9 hs9 hp => ?_) (fun _ _ h => h.elim)
                      subst hp
                      refine j_aload_n hE (i := 0) dX6_addParameter_119 rfl rfl ?_
                      refine j_iload_n hE (i := 3) dX6_addParameter_120 rfl rfl ?_
                      refine j_bipush hE (v := nI 10) dX6_addParameter_121 (by decide) ?_
                      refine j_iconst hE (v := nI 1) dX6_addParameter_123 (by decide) ?_
                      refine j_cVv hE mlX6_39 gB_0 (fun l hl => c_X6_put hl K F h0 _ _ _ _ _ _ _ _ _ _ (by omega)) rfl rfl (Nat.le_of_ble_eq_true rfl) (by decide) (by decide) (by omega) (by omega) dX6_addParameter_124 (fun G9 hs9 hp => ?_) (fun _ _ h => h.elim)
                      subst hp
                      refine j_iconst hE (v := nI 0) dX6_addParameter_127 (by decide) ?_
                      refine j_ist4 hE dX6_addParameter_128 (by decide) rfl ?_
                      have key130 : ∀ i, i ≤ 3 → ∀ hs, J K A E 5 (gB F h0 (mC K h0 (itr (pl255 n) i (upd (upd (upd (itr (pz n) 14 now) (33 + 14 * n + 0) rate) (33 + 14 * n + 2) (-1)) (33 + 14 * n + 10) (nI 1))) (mKeep now past k) (nI (mKept k)) (nI 0) drawn hash)) hs 0 0 130 [some (.ref h0), some (.int rate), some (.int (nI 1)), some (.int (nI n)), some (.int (nI i))] [] := by
                        refine dloop (fun i => ∀ hs, J K A E 5 (gB F h0 (mC K h0 (itr (pl255 n) i (upd (upd (upd (itr (pz n) 14 now) (33 + 14 * n + 0) rate) (33 + 14 * n + 2) (-1)) (33 + 14 * n + 10) (nI 1))) (mKeep now past k) (nI (mKept k)) (nI 0) drawn hash)) hs 0 0 130 [some (.ref h0), some (.int rate), some (.int (nI 1)), some (.int (nI n)), some (.int (nI i))] []) (3) (fun i hi130 ih130 => ?_) ?_
                        · intro hs
                          refine j_iload hE dX6_addParameter_130 rfl ?_
                          refine j_iconst hE (v := nI 3) dX6_addParameter_132 (by decide) ?_
                          refine j_ic_geN hE (tgt := 158) dX6_addParameter_133 (by decide) (by omega) (by omega) (fun h133 => ?_) (fun h133 => ?_)
                          · exfalso; omega
                          · refine j_aload_n hE (i := 0) dX6_addParameter_136 rfl rfl ?_
                            refine j_iload_n hE (i := 3) dX6_addParameter_137 rfl rfl ?_
                            refine j_iconst hE (v := nI 4) dX6_addParameter_138 (by decide) ?_
                            refine j_iconst hE (v := nI 2) dX6_addParameter_139 (by decide) ?_
                            refine j_iload hE dX6_addParameter_140 rfl ?_
                            refine j_imulN hE dX6_addParameter_142 ?_
                            refine j_iaddN hE dX6_addParameter_143 ?_
                            refine j_iconst hE (v := nI 1) dX6_addParameter_144 (by decide) ?_
                            refine j_iaddN hE dX6_addParameter_145 ?_
                            refine j_sipush hE (v := nI 255) dX6_addParameter_146 (by decide) ?_
                            refine j_cVv hE mlX6_39 gB_0 (fun l hl => c_X6_put hl K F h0 _ _ _ _ _ _ _ _ _ _ (by omega)) rfl rfl (Nat.le_of_ble_eq_true rfl) (by decide) (by decide) (by omega) (by omega) dX6_addParameter_149 (fun G9 hs9 hp => ?_) (fun _ _ h => h.elim)
                            subst hp
                            refine j_incN4 hE dX6_addParameter_152 (by decide) rfl ?_
                            refine j_goto hE (tgt := 130) dX6_addParameter_155 (by decide) ?_
                            exact ih130 _
                        · intro hs
                          refine j_iload hE dX6_addParameter_130 rfl ?_
                          refine j_iconst hE (v := nI 3) dX6_addParameter_132 (by decide) ?_
                          refine j_ic_geN hE (tgt := 158) dX6_addParameter_133 (by decide) (by omega) (by omega) (fun h133 => ?_) (fun h133 => ?_)
                          · refine j_aload_n hE (i := 0) dX6_addParameter_158 rfl rfl ?_
                            refine j_get hE flX6_7 gB_0 rfl dX6_addParameter_159 ?_
                            refine j_iconst hE (v := nI 2) dX6_addParameter_162 (by decide) ?_
                            refine j_dup2 hE dX6_addParameter_163 rfl rfl ?_
                            refine j_iald hE gB_1 rfl (by omega) (by decide) dX6_addParameter_164 ?_
                            rw [show itr (pl255 n) 3 (upd (upd (upd (itr (pz n) 14 now) (33 + 14 * n + 0) rate) (33 + 14 * n + 2) (-1)) (33 + 14 * n + 10) (nI 1)) 2 = nI n from (mPar_out now n rate (by omega)).trans hn]
                            refine j_iconst hE (v := nI 1) dX6_addParameter_165 (by decide) ?_
                            refine j_iaddN hE dX6_addParameter_166 ?_
                            refine b_ast1 hE rfl (by omega) (by decide) dX6_addParameter_167 ?_
                            refine j_aload_n hE (i := 0) dX6_addParameter_168 rfl rfl ?_
                            refine j_cVv hE mlX6_36 gB_0 (fun l hl => c_X6_beginsAnew hl K F h0 _ _ _ _ _ _ _) rfl rfl (Nat.le_of_ble_eq_true rfl) (by decide) (by decide) (by omega) (by omega) dX6_addParameter_169 (fun G9 hs9 hp => ?_) (fun _ _ h => h.elim)
                            subst hp
                            refine j_iload_n hE (i := 3) dX6_addParameter_172 rfl rfl ?_
                            refine j_iret hE hQ rfl (by omega) (by omega) dX6_addParameter_173 ?_
                            exact ⟨_, rfl, rfl, rfl⟩
                          · exfalso; omega
                      exact key130 0 (by omega) _
                    · exfalso; omega
                exact key84 0 (by omega) _
              · exfalso; omega
            · exfalso; omega
          · exfalso; omega

set_option maxRecDepth 100000 in
set_option maxHeartbeats 4000000 in
theorem c_X6_addParameter_f2 {l : Launch} (hl : l.stackTraces = false) (K : jK) (F : GH) (h0 hs : Nat) (now past : Nat → Int32) (thrown : Int32) (k : Nat) (hk : k ≤ 4) (drawn : Nat → Int32) (hash : Int64) (hn : now 2 = nI 12) (rate : Int32) (hr : rOk rate) : Ct l K yX6_addParameter cX6_addParameter 5 (some .int) 2 40 0 0 [.ref h0, .int rate] (gB F h0 (mC K h0 now past (nI k) thrown drawn hash)) hs (pI (fun z9 G' _ => z9 = nI 0 ∧ G' = (gB F h0 (mC K h0 now past (nI k) (nI 2) drawn hash)))) jno := by
  refine Ct.ofA hl (by decide) (Nat.le_of_ble_eq_true rfl) (L0 := [some (.ref h0), some (.int rate), none, none, none]) (jL_of 3 rfl) ?_
  intro A E hE hQ hX hNm
  refine j_iload_n hE (i := 1) dX6_addParameter_0 rfl rfl ?_
  refine j_iconst hE (v := nI 1) dX6_addParameter_1 (by decide) ?_
  refine j_iconst hE (v := nI 4) dX6_addParameter_2 (by decide) ?_
  refine j_cSi hE mlX6_26 (fun l hl => c_X6_in hl K _ _ _ _ _) rfl rfl (Nat.le_of_ble_eq_true rfl) (by decide) (by decide) (by omega) (by omega) dX6_addParameter_3 (fun r G9 hs9 hp => ?_) (fun _ _ h => h.elim)
  obtain ⟨rfl, rfl⟩ := hp
  refine j_if_ne hE (tgt := 27) dX6_addParameter_6 (by decide) (fun h6 => ?_) (fun h6 => ?_)
  · refine j_iconst hE (v := nI 1) dX6_addParameter_27 (by decide) ?_
    refine j_goto hE (tgt := 32) dX6_addParameter_28 (by decide) ?_
    refine j_ist2 hE dX6_addParameter_32 rfl (by decide) rfl ?_
    refine j_aload_n hE (i := 0) dX6_addParameter_33 rfl rfl ?_
    refine j_iload_n hE (i := 2) dX6_addParameter_34 rfl rfl ?_
    refine j_if_neN hE (tgt := 42) dX6_addParameter_35 (by decide) (by omega) (fun h35 => ?_) (fun h35 => ?_)
    · refine j_aload_n hE (i := 0) dX6_addParameter_42 rfl rfl ?_
      refine j_get hE flX6_7 gB_0 rfl dX6_addParameter_43 ?_
      refine j_iconst hE (v := nI 2) dX6_addParameter_46 (by decide) ?_
      refine j_iald hE gB_1 rfl (by omega) (by decide) dX6_addParameter_47 ?_
      rw [hn]
      refine j_bipush hE (v := nI 12) dX6_addParameter_48 (by decide) ?_
      refine j_ic_neN hE (tgt := 57) dX6_addParameter_50 (by decide) (by omega) (by omega) (fun h50 => ?_) (fun h50 => ?_)
      · exfalso; omega
      · refine j_iconst hE (v := nI 2) dX6_addParameter_53 (by decide) ?_
        refine j_goto hE (tgt := 58) dX6_addParameter_54 (by decide) ?_
        refine b_put3 hE flX6_19 rfl rfl dX6_addParameter_58 ?_
        refine j_aload_n hE (i := 0) dX6_addParameter_61 rfl rfl ?_
        refine j_get hE flX6_19 gB_0 rfl dX6_addParameter_62 ?_
        refine j_if_eqN hE (tgt := 70) dX6_addParameter_65 (by decide) (by omega) (fun h65 => ?_) (fun h65 => ?_)
        · exfalso; omega
        · refine j_iconst hE (v := nI 0) dX6_addParameter_68 (by decide) ?_
          refine j_iret hE hQ rfl (by omega) (by omega) dX6_addParameter_69 ?_
          exact ⟨_, rfl, rfl, rfl⟩
    · exfalso; omega
  · refine j_iload_n hE (i := 1) dX6_addParameter_9 rfl rfl ?_
    refine j_bipush hE (v := -2) dX6_addParameter_10 (by decide) ?_
    refine j_ic_eq hE (tgt := 27) dX6_addParameter_12 (by decide) (fun h12 => ?_) (fun h12 => ?_)
    · refine j_iconst hE (v := nI 1) dX6_addParameter_27 (by decide) ?_
      refine j_goto hE (tgt := 32) dX6_addParameter_28 (by decide) ?_
      refine j_ist2 hE dX6_addParameter_32 rfl (by decide) rfl ?_
      refine j_aload_n hE (i := 0) dX6_addParameter_33 rfl rfl ?_
      refine j_iload_n hE (i := 2) dX6_addParameter_34 rfl rfl ?_
      refine j_if_neN hE (tgt := 42) dX6_addParameter_35 (by decide) (by omega) (fun h35 => ?_) (fun h35 => ?_)
      · refine j_aload_n hE (i := 0) dX6_addParameter_42 rfl rfl ?_
        refine j_get hE flX6_7 gB_0 rfl dX6_addParameter_43 ?_
        refine j_iconst hE (v := nI 2) dX6_addParameter_46 (by decide) ?_
        refine j_iald hE gB_1 rfl (by omega) (by decide) dX6_addParameter_47 ?_
        rw [hn]
        refine j_bipush hE (v := nI 12) dX6_addParameter_48 (by decide) ?_
        refine j_ic_neN hE (tgt := 57) dX6_addParameter_50 (by decide) (by omega) (by omega) (fun h50 => ?_) (fun h50 => ?_)
        · exfalso; omega
        · refine j_iconst hE (v := nI 2) dX6_addParameter_53 (by decide) ?_
          refine j_goto hE (tgt := 58) dX6_addParameter_54 (by decide) ?_
          refine b_put3 hE flX6_19 rfl rfl dX6_addParameter_58 ?_
          refine j_aload_n hE (i := 0) dX6_addParameter_61 rfl rfl ?_
          refine j_get hE flX6_19 gB_0 rfl dX6_addParameter_62 ?_
          refine j_if_eqN hE (tgt := 70) dX6_addParameter_65 (by decide) (by omega) (fun h65 => ?_) (fun h65 => ?_)
          · exfalso; omega
          · refine j_iconst hE (v := nI 0) dX6_addParameter_68 (by decide) ?_
            refine j_iret hE hQ rfl (by omega) (by omega) dX6_addParameter_69 ?_
            exact ⟨_, rfl, rfl, rfl⟩
      · exfalso; omega
    · refine j_iload_n hE (i := 1) dX6_addParameter_15 rfl rfl ?_
      refine j_bipush hE (v := -4) dX6_addParameter_16 (by decide) ?_
      refine j_ic_eq hE (tgt := 27) dX6_addParameter_18 (by decide) (fun h18 => ?_) (fun h18 => ?_)
      · refine j_iconst hE (v := nI 1) dX6_addParameter_27 (by decide) ?_
        refine j_goto hE (tgt := 32) dX6_addParameter_28 (by decide) ?_
        refine j_ist2 hE dX6_addParameter_32 rfl (by decide) rfl ?_
        refine j_aload_n hE (i := 0) dX6_addParameter_33 rfl rfl ?_
        refine j_iload_n hE (i := 2) dX6_addParameter_34 rfl rfl ?_
        refine j_if_neN hE (tgt := 42) dX6_addParameter_35 (by decide) (by omega) (fun h35 => ?_) (fun h35 => ?_)
        · refine j_aload_n hE (i := 0) dX6_addParameter_42 rfl rfl ?_
          refine j_get hE flX6_7 gB_0 rfl dX6_addParameter_43 ?_
          refine j_iconst hE (v := nI 2) dX6_addParameter_46 (by decide) ?_
          refine j_iald hE gB_1 rfl (by omega) (by decide) dX6_addParameter_47 ?_
          rw [hn]
          refine j_bipush hE (v := nI 12) dX6_addParameter_48 (by decide) ?_
          refine j_ic_neN hE (tgt := 57) dX6_addParameter_50 (by decide) (by omega) (by omega) (fun h50 => ?_) (fun h50 => ?_)
          · exfalso; omega
          · refine j_iconst hE (v := nI 2) dX6_addParameter_53 (by decide) ?_
            refine j_goto hE (tgt := 58) dX6_addParameter_54 (by decide) ?_
            refine b_put3 hE flX6_19 rfl rfl dX6_addParameter_58 ?_
            refine j_aload_n hE (i := 0) dX6_addParameter_61 rfl rfl ?_
            refine j_get hE flX6_19 gB_0 rfl dX6_addParameter_62 ?_
            refine j_if_eqN hE (tgt := 70) dX6_addParameter_65 (by decide) (by omega) (fun h65 => ?_) (fun h65 => ?_)
            · exfalso; omega
            · refine j_iconst hE (v := nI 0) dX6_addParameter_68 (by decide) ?_
              refine j_iret hE hQ rfl (by omega) (by omega) dX6_addParameter_69 ?_
              exact ⟨_, rfl, rfl, rfl⟩
        · exfalso; omega
      · refine j_iload_n hE (i := 1) dX6_addParameter_21 rfl rfl ?_
        refine j_bipush hE (v := -8) dX6_addParameter_22 (by decide) ?_
        refine j_ic_ne hE (tgt := 31) dX6_addParameter_24 (by decide) (fun h24 => ?_) (fun h24 => ?_)
        · rcases rOk_neg hr (jbd_eq (Classical.not_not.mp (fun q => q h6))) with q | q | q
          · exact absurd q h12
          · exact absurd q h18
          · exact absurd q h24
        · refine j_iconst hE (v := nI 1) dX6_addParameter_27 (by decide) ?_
          refine j_goto hE (tgt := 32) dX6_addParameter_28 (by decide) ?_
          refine j_ist2 hE dX6_addParameter_32 rfl (by decide) rfl ?_
          refine j_aload_n hE (i := 0) dX6_addParameter_33 rfl rfl ?_
          refine j_iload_n hE (i := 2) dX6_addParameter_34 rfl rfl ?_
          refine j_if_neN hE (tgt := 42) dX6_addParameter_35 (by decide) (by omega) (fun h35 => ?_) (fun h35 => ?_)
          · refine j_aload_n hE (i := 0) dX6_addParameter_42 rfl rfl ?_
            refine j_get hE flX6_7 gB_0 rfl dX6_addParameter_43 ?_
            refine j_iconst hE (v := nI 2) dX6_addParameter_46 (by decide) ?_
            refine j_iald hE gB_1 rfl (by omega) (by decide) dX6_addParameter_47 ?_
            rw [hn]
            refine j_bipush hE (v := nI 12) dX6_addParameter_48 (by decide) ?_
            refine j_ic_neN hE (tgt := 57) dX6_addParameter_50 (by decide) (by omega) (by omega) (fun h50 => ?_) (fun h50 => ?_)
            · exfalso; omega
            · refine j_iconst hE (v := nI 2) dX6_addParameter_53 (by decide) ?_
              refine j_goto hE (tgt := 58) dX6_addParameter_54 (by decide) ?_
              refine b_put3 hE flX6_19 rfl rfl dX6_addParameter_58 ?_
              refine j_aload_n hE (i := 0) dX6_addParameter_61 rfl rfl ?_
              refine j_get hE flX6_19 gB_0 rfl dX6_addParameter_62 ?_
              refine j_if_eqN hE (tgt := 70) dX6_addParameter_65 (by decide) (by omega) (fun h65 => ?_) (fun h65 => ?_)
              · exfalso; omega
              · refine j_iconst hE (v := nI 0) dX6_addParameter_68 (by decide) ?_
                refine j_iret hE hQ rfl (by omega) (by omega) dX6_addParameter_69 ?_
                exact ⟨_, rfl, rfl, rfl⟩
          · exfalso; omega

set_option maxRecDepth 100000 in
set_option maxHeartbeats 4000000 in
theorem c_X6_addParameter_f1 {l : Launch} (hl : l.stackTraces = false) (K : jK) (F : GH) (h0 hs : Nat) (now past : Nat → Int32) (thrown : Int32) (k : Nat) (hk : k ≤ 4) (drawn : Nat → Int32) (hash : Int64) (rate : Int32) (hr : ¬ rOk rate) : Ct l K yX6_addParameter cX6_addParameter 5 (some .int) 2 40 0 0 [.ref h0, .int rate] (gB F h0 (mC K h0 now past (nI k) thrown drawn hash)) hs (pI (fun z9 G' _ => z9 = nI 0 ∧ G' = (gB F h0 (mC K h0 now past (nI k) (nI 1) drawn hash)))) jno := by
  refine Ct.ofA hl (by decide) (Nat.le_of_ble_eq_true rfl) (L0 := [some (.ref h0), some (.int rate), none, none, none]) (jL_of 3 rfl) ?_
  intro A E hE hQ hX hNm
  refine j_iload_n hE (i := 1) dX6_addParameter_0 rfl rfl ?_
  refine j_iconst hE (v := nI 1) dX6_addParameter_1 (by decide) ?_
  refine j_iconst hE (v := nI 4) dX6_addParameter_2 (by decide) ?_
  refine j_cSi hE mlX6_26 (fun l hl => c_X6_in hl K _ _ _ _ _) rfl rfl (Nat.le_of_ble_eq_true rfl) (by decide) (by decide) (by omega) (by omega) dX6_addParameter_3 (fun r G9 hs9 hp => ?_) (fun _ _ h => h.elim)
  obtain ⟨rfl, rfl⟩ := hp
  refine j_if_ne hE (tgt := 27) dX6_addParameter_6 (by decide) (fun h6 => ?_) (fun h6 => ?_)
  · exact absurd (rOk_of (Or.inl (jbd_ne h6))) hr
  · refine j_iload_n hE (i := 1) dX6_addParameter_9 rfl rfl ?_
    refine j_bipush hE (v := -2) dX6_addParameter_10 (by decide) ?_
    refine j_ic_eq hE (tgt := 27) dX6_addParameter_12 (by decide) (fun h12 => ?_) (fun h12 => ?_)
    · exact absurd (rOk_of (Or.inr (Or.inl h12))) hr
    · refine j_iload_n hE (i := 1) dX6_addParameter_15 rfl rfl ?_
      refine j_bipush hE (v := -4) dX6_addParameter_16 (by decide) ?_
      refine j_ic_eq hE (tgt := 27) dX6_addParameter_18 (by decide) (fun h18 => ?_) (fun h18 => ?_)
      · exact absurd (rOk_of (Or.inr (Or.inr (Or.inl h18)))) hr
      · refine j_iload_n hE (i := 1) dX6_addParameter_21 rfl rfl ?_
        refine j_bipush hE (v := -8) dX6_addParameter_22 (by decide) ?_
        refine j_ic_ne hE (tgt := 31) dX6_addParameter_24 (by decide) (fun h24 => ?_) (fun h24 => ?_)
        · refine j_iconst hE (v := nI 0) dX6_addParameter_31 (by decide) ?_
          refine j_ist2 hE dX6_addParameter_32 rfl (by decide) rfl ?_
          refine j_aload_n hE (i := 0) dX6_addParameter_33 rfl rfl ?_
          refine j_iload_n hE (i := 2) dX6_addParameter_34 rfl rfl ?_
          refine j_if_neN hE (tgt := 42) dX6_addParameter_35 (by decide) (by omega) (fun h35 => ?_) (fun h35 => ?_)
          · exfalso; omega
          · refine j_iconst hE (v := nI 1) dX6_addParameter_38 (by decide) ?_
            refine j_goto hE (tgt := 58) dX6_addParameter_39 (by decide) ?_
            refine b_put3 hE flX6_19 rfl rfl dX6_addParameter_58 ?_
            refine j_aload_n hE (i := 0) dX6_addParameter_61 rfl rfl ?_
            refine j_get hE flX6_19 gB_0 rfl dX6_addParameter_62 ?_
            refine j_if_eqN hE (tgt := 70) dX6_addParameter_65 (by decide) (by omega) (fun h65 => ?_) (fun h65 => ?_)
            · exfalso; omega
            · refine j_iconst hE (v := nI 0) dX6_addParameter_68 (by decide) ?_
              refine j_iret hE hQ rfl (by omega) (by omega) dX6_addParameter_69 ?_
              exact ⟨_, rfl, rfl, rfl⟩
        · exact absurd (rOk_of (Or.inr (Or.inr (Or.inr h24)))) hr

theorem gB_push {F : GH} {h0 : Nat} {es : List va_E} {e : va_E} {a : Nat} (h : a = h0 + es.length) : gset (gB F h0 es) a e = gB F h0 (es ++ [e]) := by
  subst h
  funext b
  by_cases hb : b = h0 + es.length
  · subst hb
    rw [gset_s, gB_at (e := e)]
    rw [List.getElem?_append_right (Nat.le_refl _), Nat.sub_self]
    rfl
  · rw [gset_n hb]
    by_cases h1 : b < h0 ∨ h0 + (es ++ [e]).length ≤ b
    · rw [gB_out (es := es ++ [e]) h1, gB_out (by simp only [List.length_append, List.length_cons, List.length_nil] at h1; omega)]
    · simp only [List.length_append, List.length_cons, List.length_nil] at h1
      have h2 : b - h0 < es.length := by omega
      have e1 : es[b - h0]? = some es[b - h0] := List.getElem?_eq_getElem h2
      have e2 := gB_at (F := F) (h0 := h0) e1
      have e3 := gB_at (F := F) (h0 := h0) (es := es ++ [e]) (i := b - h0) (e := es[b - h0]) (by rw [List.getElem?_append_left h2]; exact e1)
      rw [show h0 + (b - h0) = b by omega] at e2 e3
      rw [e2, e3]
set_option maxRecDepth 100000 in
set_option maxHeartbeats 4000000 in
theorem c_X6_init {l : Launch} (hl : l.stackTraces = false) (K : jK) (F : GH) (h0 : Nat) : Ct l K yX6_init cX6_init 1 none 1 12 3 12013 [.ref h0] (gB F h0 [.inr (6, [.null, .null, .int 0, .int 0, .null, .long 0])]) (h0 + 1) (pV (fun G' hs' => G' = gB F h0 (mC K h0 (upd (upd (fun _ => 0) 0 (nI 8)) 1 (nI 4)) (fun _ => 0) 0 0 (fun _ => 0) 0) ∧ hs' = h0 + 4)) jno := by
  refine Ct.ofA hl (by decide) (Nat.le_of_ble_eq_true rfl) (L0 := [some (.ref h0)]) (jL_of 0 rfl) ?_
  intro A E hE hQ hX hNm
  refine j_aload_n hE (i := 0) dX6_init_0 rfl rfl ?_
  refine j_obj hE tw_693 tw_22 tw_23 (by decide) (Nat.le_of_ble_eq_true rfl) dX6_init_1 ?_
  refine j_aload_n hE (i := 0) dX6_init_4 rfl rfl ?_
  refine j_sipush hE (v := nI 2377) dX6_init_5 (by decide) ?_
  refine j_newi hE (N := 2377) rfl (by decide) tw_59 (by decide) (by decide) dX6_init_8 ?_
  rw [gB_push (by simp only [List.length_cons, List.length_nil])]
  simp only [List.cons_append, List.nil_append]
  refine b_putF0 hE hNm rfl flX6_7 rfl rfl dX6_init_10 ?_
  refine j_aload_n hE (i := 0) dX6_init_13 rfl rfl ?_
  refine j_sipush hE (v := nI 9508) dX6_init_14 (by decide) ?_
  refine j_newi hE (N := 9508) rfl (by decide) tw_59 (by decide) (by decide) dX6_init_17 ?_
  rw [gB_push (by simp only [List.length_cons, List.length_nil])]
  simp only [List.cons_append, List.nil_append]
  refine b_putF1 hE hNm rfl flX6_13 rfl rfl dX6_init_19 ?_
  refine j_aload_n hE (i := 0) dX6_init_22 rfl rfl ?_
  refine j_sipush hE (v := nI 128) dX6_init_23 (by decide) ?_
  refine j_newi hE (N := 128) rfl (by decide) tw_59 (by decide) (by decide) dX6_init_26 ?_
  rw [gB_push (by simp only [List.length_cons, List.length_nil])]
  simp only [List.cons_append, List.nil_append]
  refine b_putF4 hE hNm rfl flX6_16 rfl rfl dX6_init_28 ?_
  refine j_aload_n hE (i := 0) dX6_init_31 rfl rfl ?_
  refine j_get hE flX6_7 gB_0 rfl dX6_init_32 ?_
  refine j_iconst hE (v := nI 0) dX6_init_35 (by decide) ?_
  refine j_bipush hE (v := nI 8) dX6_init_36 (by decide) ?_
  refine b_ast1 hE rfl (by omega) (by decide) dX6_init_38 ?_
  refine j_aload_n hE (i := 0) dX6_init_39 rfl rfl ?_
  refine j_get hE flX6_7 gB_0 rfl dX6_init_40 ?_
  refine j_iconst hE (v := nI 1) dX6_init_43 (by decide) ?_
  refine j_iconst hE (v := nI 4) dX6_init_44 (by decide) ?_
  refine b_ast1 hE rfl (by omega) (by decide) dX6_init_45 ?_
  refine j_vret hE hQ (by omega) (by omega) dX6_init_46 ?_
  exact ⟨rfl, rfl, by omega⟩

