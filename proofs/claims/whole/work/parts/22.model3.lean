/-! ===== the reference: layout, values, limits ===== -/
theorem c_X6_in {l : Launch} (hl : l.stackTraces = false) (K : jK) (G : GH) (hs : Nat) (v low high : Int32) : Ct l K yX6_in cX6_in 3 (some .boolean) 0 0 0 0 [.int v, .int low, .int high] G hs (pI (fun r G' _ => r = jb (decide (low ≤ v ∧ v ≤ high)) ∧ G' = G)) jno := by
  by_cases h : low ≤ v ∧ v ≤ high
  · rw [decide_eq_true h]
    exact c_X6_in_t hl K G hs v low high h
  · rw [decide_eq_false h]
    exact c_X6_in_f hl K G hs v low high h
theorem jb_ne {b : Bool} (h : ¬ jb b = 0) : b = true := by cases b <;> first | rfl | exact absurd rfl h
theorem jb_eq {b : Bool} (h : jb b = 0) : b = false := jb_0.mp h
theorem jbd_ne {p : Prop} [Decidable p] (h : ¬ jb (decide p) = 0) : p := of_decide_eq_true (jb_ne h)
theorem jbd_eq {p : Prop} [Decidable p] (h : jb (decide p) = 0) : ¬ p := of_decide_eq_false (jb_eq h)
theorem rg_ex {a b : Nat} {p : Int32} (h : nI a ≤ p ∧ p ≤ nI b) (ha : a < 2 ^ 31) (hb : b < 2 ^ 31) : ∃ j, a ≤ j ∧ j ≤ b ∧ p = nI j := by
  apply Classical.byContradiction
  intro hn
  exact rg_f (fun j h1 h2 e => hn ⟨j, h1, h2, e⟩) ha hb h
set_option maxRecDepth 100000 in
set_option maxHeartbeats 4000000 in
theorem c_X6_setFrame_t {l : Launch} (hl : l.stackTraces = false) (K : jK) (F : GH) (h0 hs : Nat) (now past : Nat → Int32) (thrown : Int32) (k : Nat) (hk : k ≤ 4) (drawn : Nat → Int32) (hash : Int64) (w m : Nat) (hw : 6 ≤ w) (hw2 : w ≤ 16) (hm : m = 1 ∨ m = 2 ∨ m = 4 ∨ m = 8) : Ct l K yX6_setFrame cX6_setFrame 3 (some .int) 2 40 0 0 [.ref h0, .int (nI w), .int (nI m)] (gB F h0 (mC K h0 now past (nI k) thrown drawn hash)) hs (pI (fun r G' _ => r = nI (w * m) ∧ G' = (gB F h0 (mC K h0 (mAnew (upd (upd now 0 (nI w)) 1 (nI m))) (mKeep now past k) (nI (mKept k)) (nI 0) drawn hash)))) jno := by
  refine Ct.ofA hl (by decide) (Nat.le_of_ble_eq_true rfl) (L0 := [some (.ref h0), some (.int (nI w)), some (.int (nI m))]) (jL_of 0 rfl) ?_
  intro A E hE hQ hX hNm
  refine j_aload_n hE (i := 0) dX6_setFrame_0 rfl rfl ?_
  refine j_iload_n hE (i := 1) dX6_setFrame_1 rfl rfl ?_
  refine j_bipush hE (v := nI 6) dX6_setFrame_2 (by decide) ?_
  refine j_bipush hE (v := nI 16) dX6_setFrame_4 (by decide) ?_
  refine j_cSi hE mlX6_26 (fun l hl => c_X6_in_t hl K _ _ _ _ _ (rg_t (by omega) (by omega) (by decide))) rfl rfl (Nat.le_of_ble_eq_true rfl) (by decide) (by decide) (by omega) (by omega) dX6_setFrame_6 (fun r G9 hs9 hp => ?_) (fun _ _ h => h.elim)
  obtain ⟨rfl, rfl⟩ := hp
  refine j_if_eqN hE (tgt := 34) dX6_setFrame_9 (by decide) (by omega) (fun h9 => ?_) (fun h9 => ?_)
  · exfalso; omega
  · refine j_iload_n hE (i := 2) dX6_setFrame_12 rfl rfl ?_
    refine j_iconst hE (v := nI 1) dX6_setFrame_13 (by decide) ?_
    refine j_bipush hE (v := nI 8) dX6_setFrame_14 (by decide) ?_
    refine j_cSi hE mlX6_26 (fun l hl => c_X6_in_t hl K _ _ _ _ _ (rg_t (by omega) (by omega) (by decide))) rfl rfl (Nat.le_of_ble_eq_true rfl) (by decide) (by decide) (by omega) (by omega) dX6_setFrame_16 (fun r G9 hs9 hp => ?_) (fun _ _ h => h.elim)
    obtain ⟨rfl, rfl⟩ := hp
    refine j_if_eqN hE (tgt := 34) dX6_setFrame_19 (by decide) (by omega) (fun h19 => ?_) (fun h19 => ?_)
    · exfalso; omega
    · refine j_iload_n hE (i := 2) dX6_setFrame_22 rfl rfl ?_
      refine j_iload_n hE (i := 2) dX6_setFrame_23 rfl rfl ?_
      refine j_iconst hE (v := nI 1) dX6_setFrame_24 (by decide) ?_
      refine j_isub hE dX6_setFrame_25 ?_
      refine j_iand hE dX6_setFrame_26 ?_
      refine j_if_ne hE (tgt := 34) dX6_setFrame_27 (by decide) (fun h27 => ?_) (fun h27 => ?_)
      · exact absurd (by rcases hm with rfl | rfl | rfl | rfl <;> decide) h27
      · refine j_iconst hE (v := nI 0) dX6_setFrame_30 (by decide) ?_
        refine j_goto hE (tgt := 35) dX6_setFrame_31 (by decide) ?_
        refine b_put3 hE flX6_19 rfl rfl dX6_setFrame_35 ?_
        refine j_aload_n hE (i := 0) dX6_setFrame_38 rfl rfl ?_
        refine j_get hE flX6_19 gB_0 rfl dX6_setFrame_39 ?_
        refine j_if_eqN hE (tgt := 47) dX6_setFrame_42 (by decide) (by omega) (fun h42 => ?_) (fun h42 => ?_)
        · refine j_aload_n hE (i := 0) dX6_setFrame_47 rfl rfl ?_
          refine j_cVv hE mlX6_33 gB_0 (fun l hl => c_X6_keep hl K F h0 _ _ _ _ _ hk _ _) rfl rfl (Nat.le_of_ble_eq_true rfl) (by decide) (by decide) (by omega) (by omega) dX6_setFrame_48 (fun G9 hs9 hp => ?_) (fun _ _ h => h.elim)
          subst hp
          refine j_aload_n hE (i := 0) dX6_setFrame_51 rfl rfl ?_
          refine j_get hE flX6_7 gB_0 rfl dX6_setFrame_52 ?_
          refine j_iconst hE (v := nI 0) dX6_setFrame_55 (by decide) ?_
          refine j_iload_n hE (i := 1) dX6_setFrame_56 rfl rfl ?_
          refine b_ast1 hE rfl (by omega) (by decide) dX6_setFrame_57 ?_
          refine j_aload_n hE (i := 0) dX6_setFrame_58 rfl rfl ?_
          refine j_get hE flX6_7 gB_0 rfl dX6_setFrame_59 ?_
          refine j_iconst hE (v := nI 1) dX6_setFrame_62 (by decide) ?_
          refine j_iload_n hE (i := 2) dX6_setFrame_63 rfl rfl ?_
          refine b_ast1 hE rfl (by omega) (by decide) dX6_setFrame_64 ?_
          refine j_aload_n hE (i := 0) dX6_setFrame_65 rfl rfl ?_
          refine j_cVv hE mlX6_36 gB_0 (fun l hl => c_X6_beginsAnew hl K F h0 _ _ _ _ _ _ _) rfl rfl (Nat.le_of_ble_eq_true rfl) (by decide) (by decide) (by omega) (by omega) dX6_setFrame_66 (fun G9 hs9 hp => ?_) (fun _ _ h => h.elim)
          subst hp
          refine j_iload_n hE (i := 1) dX6_setFrame_69 rfl rfl ?_
          refine j_iload_n hE (i := 2) dX6_setFrame_70 rfl rfl ?_
          refine j_imulN hE dX6_setFrame_71 ?_
          refine j_iret hE hQ rfl (by omega) (by omega) dX6_setFrame_72 ?_
          exact ⟨_, rfl, rfl, rfl⟩
        · exfalso; omega

set_option maxRecDepth 100000 in
set_option maxHeartbeats 4000000 in
theorem c_X6_setFrame_f {l : Launch} (hl : l.stackTraces = false) (K : jK) (F : GH) (h0 hs : Nat) (now past : Nat → Int32) (thrown : Int32) (k : Nat) (hk : k ≤ 4) (drawn : Nat → Int32) (hash : Int64) (p q : Int32) (hbad : ∀ w m, 6 ≤ w → w ≤ 16 → (m = 1 ∨ m = 2 ∨ m = 4 ∨ m = 8) → p = nI w → q = nI m → False) : Ct l K yX6_setFrame cX6_setFrame 3 (some .int) 2 40 0 0 [.ref h0, .int p, .int q] (gB F h0 (mC K h0 now past (nI k) thrown drawn hash)) hs (pI (fun r G' _ => r = nI 0 ∧ G' = (gB F h0 (mC K h0 now past (nI k) (nI 1) drawn hash)))) jno := by
  refine Ct.ofA hl (by decide) (Nat.le_of_ble_eq_true rfl) (L0 := [some (.ref h0), some (.int p), some (.int q)]) (jL_of 0 rfl) ?_
  intro A E hE hQ hX hNm
  refine j_aload_n hE (i := 0) dX6_setFrame_0 rfl rfl ?_
  refine j_iload_n hE (i := 1) dX6_setFrame_1 rfl rfl ?_
  refine j_bipush hE (v := nI 6) dX6_setFrame_2 (by decide) ?_
  refine j_bipush hE (v := nI 16) dX6_setFrame_4 (by decide) ?_
  refine j_cSi hE mlX6_26 (fun l hl => c_X6_in hl K _ _ _ _ _) rfl rfl (Nat.le_of_ble_eq_true rfl) (by decide) (by decide) (by omega) (by omega) dX6_setFrame_6 (fun r G9 hs9 hp => ?_) (fun _ _ h => h.elim)
  obtain ⟨rfl, rfl⟩ := hp
  refine j_if_eq hE (tgt := 34) dX6_setFrame_9 (by decide) (fun h9 => ?_) (fun h9 => ?_)
  · refine j_iconst hE (v := nI 1) dX6_setFrame_34 (by decide) ?_
    refine b_put3 hE flX6_19 rfl rfl dX6_setFrame_35 ?_
    refine j_aload_n hE (i := 0) dX6_setFrame_38 rfl rfl ?_
    refine j_get hE flX6_19 gB_0 rfl dX6_setFrame_39 ?_
    refine j_if_eqN hE (tgt := 47) dX6_setFrame_42 (by decide) (by omega) (fun h42 => ?_) (fun h42 => ?_)
    · exfalso; omega
    · refine j_iconst hE (v := nI 0) dX6_setFrame_45 (by decide) ?_
      refine j_iret hE hQ rfl (by omega) (by omega) dX6_setFrame_46 ?_
      exact ⟨_, rfl, rfl, rfl⟩
  · refine j_iload_n hE (i := 2) dX6_setFrame_12 rfl rfl ?_
    refine j_iconst hE (v := nI 1) dX6_setFrame_13 (by decide) ?_
    refine j_bipush hE (v := nI 8) dX6_setFrame_14 (by decide) ?_
    refine j_cSi hE mlX6_26 (fun l hl => c_X6_in hl K _ _ _ _ _) rfl rfl (Nat.le_of_ble_eq_true rfl) (by decide) (by decide) (by omega) (by omega) dX6_setFrame_16 (fun r G9 hs9 hp => ?_) (fun _ _ h => h.elim)
    obtain ⟨rfl, rfl⟩ := hp
    refine j_if_eq hE (tgt := 34) dX6_setFrame_19 (by decide) (fun h19 => ?_) (fun h19 => ?_)
    · refine j_iconst hE (v := nI 1) dX6_setFrame_34 (by decide) ?_
      refine b_put3 hE flX6_19 rfl rfl dX6_setFrame_35 ?_
      refine j_aload_n hE (i := 0) dX6_setFrame_38 rfl rfl ?_
      refine j_get hE flX6_19 gB_0 rfl dX6_setFrame_39 ?_
      refine j_if_eqN hE (tgt := 47) dX6_setFrame_42 (by decide) (by omega) (fun h42 => ?_) (fun h42 => ?_)
      · exfalso; omega
      · refine j_iconst hE (v := nI 0) dX6_setFrame_45 (by decide) ?_
        refine j_iret hE hQ rfl (by omega) (by omega) dX6_setFrame_46 ?_
        exact ⟨_, rfl, rfl, rfl⟩
    · refine j_iload_n hE (i := 2) dX6_setFrame_22 rfl rfl ?_
      refine j_iload_n hE (i := 2) dX6_setFrame_23 rfl rfl ?_
      refine j_iconst hE (v := nI 1) dX6_setFrame_24 (by decide) ?_
      refine j_isub hE dX6_setFrame_25 ?_
      refine j_iand hE dX6_setFrame_26 ?_
      refine j_if_ne hE (tgt := 34) dX6_setFrame_27 (by decide) (fun h27 => ?_) (fun h27 => ?_)
      · refine j_iconst hE (v := nI 1) dX6_setFrame_34 (by decide) ?_
        refine b_put3 hE flX6_19 rfl rfl dX6_setFrame_35 ?_
        refine j_aload_n hE (i := 0) dX6_setFrame_38 rfl rfl ?_
        refine j_get hE flX6_19 gB_0 rfl dX6_setFrame_39 ?_
        refine j_if_eqN hE (tgt := 47) dX6_setFrame_42 (by decide) (by omega) (fun h42 => ?_) (fun h42 => ?_)
        · exfalso; omega
        · refine j_iconst hE (v := nI 0) dX6_setFrame_45 (by decide) ?_
          refine j_iret hE hQ rfl (by omega) (by omega) dX6_setFrame_46 ?_
          exact ⟨_, rfl, rfl, rfl⟩
      · obtain ⟨w, w1, w2, rfl⟩ := rg_ex (jbd_ne h9) (by decide) (by decide)
        obtain ⟨m, m1, m2, rfl⟩ := rg_ex (jbd_ne h19) (by decide) (by decide)
        refine (hbad w m w1 w2 ?_ rfl rfl).elim
        rcases (show m = 1 ∨ m = 2 ∨ m = 3 ∨ m = 4 ∨ m = 5 ∨ m = 6 ∨ m = 7 ∨ m = 8 by omega) with rfl | rfl | rfl | rfl | rfl | rfl | rfl | rfl <;> first | omega | exact absurd h27 (by decide)

set_option maxRecDepth 100000 in
set_option maxHeartbeats 4000000 in
theorem c_X6_setMode_t {l : Launch} (hl : l.stackTraces = false) (K : jK) (F : GH) (h0 hs : Nat) (now past : Nat → Int32) (thrown : Int32) (k : Nat) (hk : k ≤ 4) (drawn : Nat → Int32) (hash : Int64) (j : Nat) (hj : j ≤ 2) : Ct l K yX6_setMode cX6_setMode 3 (some .int) 1 22 0 0 [.ref h0, .int (nI j)] (gB F h0 (mC K h0 now past (nI k) thrown drawn hash)) hs (pI (fun r G' _ => r = now 6 ∧ G' = (gB F h0 (mC K h0 (upd now 6 (nI j)) (mKeep now past k) (nI (mKept k)) (nI 0) drawn hash)))) jno := by
  refine Ct.ofA hl (by decide) (Nat.le_of_ble_eq_true rfl) (L0 := [some (.ref h0), some (.int (nI j)), none]) (jL_of 1 rfl) ?_
  intro A E hE hQ hX hNm
  refine j_aload_n hE (i := 0) dX6_setMode_0 rfl rfl ?_
  refine j_iload_n hE (i := 1) dX6_setMode_1 rfl rfl ?_
  refine j_iconst hE (v := nI 0) dX6_setMode_2 (by decide) ?_
  refine j_iconst hE (v := nI 2) dX6_setMode_3 (by decide) ?_
  refine j_cSi hE mlX6_26 (fun l hl => c_X6_in_t hl K _ _ _ _ _ (rg_t (by omega) (by omega) (by decide))) rfl rfl (Nat.le_of_ble_eq_true rfl) (by decide) (by decide) (by omega) (by omega) dX6_setMode_4 (fun r G9 hs9 hp => ?_) (fun _ _ h => h.elim)
  obtain ⟨rfl, rfl⟩ := hp
  refine j_if_eqN hE (tgt := 14) dX6_setMode_7 (by decide) (by omega) (fun h7 => ?_) (fun h7 => ?_)
  · exfalso; omega
  · refine j_iconst hE (v := nI 0) dX6_setMode_10 (by decide) ?_
    refine j_goto hE (tgt := 15) dX6_setMode_11 (by decide) ?_
    refine b_put3 hE flX6_19 rfl rfl dX6_setMode_15 ?_
    refine j_aload_n hE (i := 0) dX6_setMode_18 rfl rfl ?_
    refine j_get hE flX6_19 gB_0 rfl dX6_setMode_19 ?_
    refine j_if_eqN hE (tgt := 27) dX6_setMode_22 (by decide) (by omega) (fun h22 => ?_) (fun h22 => ?_)
    · refine j_aload_n hE (i := 0) dX6_setMode_27 rfl rfl ?_
      refine j_cVv hE mlX6_33 gB_0 (fun l hl => c_X6_keep hl K F h0 _ _ _ _ _ hk _ _) rfl rfl (Nat.le_of_ble_eq_true rfl) (by decide) (by decide) (by omega) (by omega) dX6_setMode_28 (fun G9 hs9 hp => ?_) (fun _ _ h => h.elim)
      subst hp
      refine j_aload_n hE (i := 0) dX6_setMode_31 rfl rfl ?_
      refine j_get hE flX6_7 gB_0 rfl dX6_setMode_32 ?_
      refine j_bipush hE (v := nI 6) dX6_setMode_35 (by decide) ?_
      refine j_iald hE gB_1 rfl (by omega) (by decide) dX6_setMode_37 ?_
      refine j_ist2 hE dX6_setMode_38 rfl (by decide) rfl ?_
      refine j_aload_n hE (i := 0) dX6_setMode_39 rfl rfl ?_
      refine j_get hE flX6_7 gB_0 rfl dX6_setMode_40 ?_
      refine j_bipush hE (v := nI 6) dX6_setMode_43 (by decide) ?_
      refine j_iload_n hE (i := 1) dX6_setMode_45 rfl rfl ?_
      refine b_ast1 hE rfl (by omega) (by decide) dX6_setMode_46 ?_
      refine j_iload_n hE (i := 2) dX6_setMode_47 rfl rfl ?_
      refine j_iret hE hQ rfl (by omega) (by omega) dX6_setMode_48 ?_
      exact ⟨_, rfl, rfl, rfl⟩
    · exfalso; omega

set_option maxRecDepth 100000 in
set_option maxHeartbeats 4000000 in
theorem c_X6_setMode_f {l : Launch} (hl : l.stackTraces = false) (K : jK) (F : GH) (h0 hs : Nat) (now past : Nat → Int32) (thrown : Int32) (k : Nat) (hk : k ≤ 4) (drawn : Nat → Int32) (hash : Int64) (p : Int32) (hj : ∀ j, 0 ≤ j → j ≤ 2 → p ≠ nI j) : Ct l K yX6_setMode cX6_setMode 3 (some .int) 1 22 0 0 [.ref h0, .int p] (gB F h0 (mC K h0 now past (nI k) thrown drawn hash)) hs (pI (fun r G' _ => r = nI 0 ∧ G' = (gB F h0 (mC K h0 now past (nI k) (nI 1) drawn hash)))) jno := by
  refine Ct.ofA hl (by decide) (Nat.le_of_ble_eq_true rfl) (L0 := [some (.ref h0), some (.int p), none]) (jL_of 1 rfl) ?_
  intro A E hE hQ hX hNm
  refine j_aload_n hE (i := 0) dX6_setMode_0 rfl rfl ?_
  refine j_iload_n hE (i := 1) dX6_setMode_1 rfl rfl ?_
  refine j_iconst hE (v := nI 0) dX6_setMode_2 (by decide) ?_
  refine j_iconst hE (v := nI 2) dX6_setMode_3 (by decide) ?_
  refine j_cSi hE mlX6_26 (fun l hl => c_X6_in_f hl K _ _ _ _ _ (rg_f hj (by decide) (by decide))) rfl rfl (Nat.le_of_ble_eq_true rfl) (by decide) (by decide) (by omega) (by omega) dX6_setMode_4 (fun r G9 hs9 hp => ?_) (fun _ _ h => h.elim)
  obtain ⟨rfl, rfl⟩ := hp
  refine j_if_eqN hE (tgt := 14) dX6_setMode_7 (by decide) (by omega) (fun h7 => ?_) (fun h7 => ?_)
  · refine j_iconst hE (v := nI 1) dX6_setMode_14 (by decide) ?_
    refine b_put3 hE flX6_19 rfl rfl dX6_setMode_15 ?_
    refine j_aload_n hE (i := 0) dX6_setMode_18 rfl rfl ?_
    refine j_get hE flX6_19 gB_0 rfl dX6_setMode_19 ?_
    refine j_if_eqN hE (tgt := 27) dX6_setMode_22 (by decide) (by omega) (fun h22 => ?_) (fun h22 => ?_)
    · exfalso; omega
    · refine j_iconst hE (v := nI 0) dX6_setMode_25 (by decide) ?_
      refine j_iret hE hQ rfl (by omega) (by omega) dX6_setMode_26 ?_
      exact ⟨_, rfl, rfl, rfl⟩
  · exfalso; omega

set_option maxRecDepth 100000 in
set_option maxHeartbeats 4000000 in
theorem c_X6_setValue_t {l : Launch} (hl : l.stackTraces = false) (K : jK) (F : GH) (h0 hs : Nat) (now past : Nat → Int32) (thrown : Int32) (k : Nat) (hk : k ≤ 4) (drawn : Nat → Int32) (hash : Int64) (n j : Nat) (hn : now 2 = nI n) (hn9 : n ≤ 12) (hj : j < n) (v : Nat) (hv : 0 ≤ v) (hv2 : v ≤ 255) : Ct l K yX6_setValue cX6_setValue 4 (some .int) 2 43 0 0 [.ref h0, .int (nI j), .int (nI v)] (gB F h0 (mC K h0 now past (nI k) thrown drawn hash)) hs (pI (fun r G' _ => r = now (33 + 14 * j + 1) ∧ G' = (gB F h0 (mC K h0 (upd now (33 + 14 * j + 1) (nI v)) (mKeep now past k) (nI (mKept k)) (nI 0) drawn hash)))) jno := by
  refine Ct.ofA hl (by decide) (Nat.le_of_ble_eq_true rfl) (L0 := [some (.ref h0), some (.int (nI j)), some (.int (nI v)), none]) (jL_of 1 rfl) ?_
  intro A E hE hQ hX hNm
  refine j_aload_n hE (i := 0) dX6_setValue_0 rfl rfl ?_
  refine j_aload_n hE (i := 0) dX6_setValue_1 rfl rfl ?_
  refine j_iload_n hE (i := 1) dX6_setValue_2 rfl rfl ?_
  refine j_cVi hE mlX6_75 gB_0 (fun l hl => c_X6_isParameter_t hl K F h0 _ _ _ _ _ _ _ n _ hn hn9 hj) rfl rfl (Nat.le_of_ble_eq_true rfl) (by decide) (by decide) (by omega) (by omega) dX6_setValue_3 (fun r G9 hs9 hp => ?_) (fun _ _ h => h.elim)
  obtain ⟨rfl, rfl⟩ := hp
  refine j_if_neN hE (tgt := 13) dX6_setValue_6 (by decide) (by omega) (fun h6 => ?_) (fun h6 => ?_)
  · refine j_iload_n hE (i := 2) dX6_setValue_13 rfl rfl ?_
    refine j_iconst hE (v := nI 0) dX6_setValue_14 (by decide) ?_
    refine j_sipush hE (v := nI 255) dX6_setValue_15 (by decide) ?_
    refine j_cSi hE mlX6_26 (fun l hl => c_X6_in_t hl K _ _ _ _ _ (rg_t (by omega) (by omega) (by decide))) rfl rfl (Nat.le_of_ble_eq_true rfl) (by decide) (by decide) (by omega) (by omega) dX6_setValue_18 (fun r G9 hs9 hp => ?_) (fun _ _ h => h.elim)
    obtain ⟨rfl, rfl⟩ := hp
    refine j_if_neN hE (tgt := 28) dX6_setValue_21 (by decide) (by omega) (fun h21 => ?_) (fun h21 => ?_)
    · refine j_iconst hE (v := nI 0) dX6_setValue_28 (by decide) ?_
      refine b_put3 hE flX6_19 rfl rfl dX6_setValue_29 ?_
      refine j_aload_n hE (i := 0) dX6_setValue_32 rfl rfl ?_
      refine j_get hE flX6_19 gB_0 rfl dX6_setValue_33 ?_
      refine j_if_eqN hE (tgt := 41) dX6_setValue_36 (by decide) (by omega) (fun h36 => ?_) (fun h36 => ?_)
      · refine j_aload_n hE (i := 0) dX6_setValue_41 rfl rfl ?_
        refine j_cVv hE mlX6_33 gB_0 (fun l hl => c_X6_keep hl K F h0 _ _ _ _ _ hk _ _) rfl rfl (Nat.le_of_ble_eq_true rfl) (by decide) (by decide) (by omega) (by omega) dX6_setValue_42 (fun G9 hs9 hp => ?_) (fun _ _ h => h.elim)
        subst hp
        refine j_aload_n hE (i := 0) dX6_setValue_45 rfl rfl ?_
        refine j_iload_n hE (i := 1) dX6_setValue_46 rfl rfl ?_
        refine j_iconst hE (v := nI 1) dX6_setValue_47 (by decide) ?_
        refine j_cVi hE mlX6_43 gB_0 (fun l hl => c_X6_of hl K F h0 _ _ _ _ _ _ _ _ _ (by omega)) rfl rfl (Nat.le_of_ble_eq_true rfl) (by decide) (by decide) (by omega) (by omega) dX6_setValue_48 (fun r G9 hs9 hp => ?_) (fun _ _ h => h.elim)
        obtain ⟨rfl, rfl⟩ := hp
        refine j_ist3 hE dX6_setValue_51 rfl (by decide) rfl ?_
        refine j_aload_n hE (i := 0) dX6_setValue_52 rfl rfl ?_
        refine j_iload_n hE (i := 1) dX6_setValue_53 rfl rfl ?_
        refine j_iconst hE (v := nI 1) dX6_setValue_54 (by decide) ?_
        refine j_iload_n hE (i := 2) dX6_setValue_55 rfl rfl ?_
        refine j_cVv hE mlX6_39 gB_0 (fun l hl => c_X6_put hl K F h0 _ _ _ _ _ _ _ _ _ _ (by omega)) rfl rfl (Nat.le_of_ble_eq_true rfl) (by decide) (by decide) (by omega) (by omega) dX6_setValue_56 (fun G9 hs9 hp => ?_) (fun _ _ h => h.elim)
        subst hp
        refine j_iload_n hE (i := 3) dX6_setValue_59 rfl rfl ?_
        refine j_iret hE hQ rfl (by omega) (by omega) dX6_setValue_60 ?_
        exact ⟨_, rfl, rfl, rfl⟩
      · exfalso; omega
    · exfalso; omega
  · exfalso; omega

set_option maxRecDepth 100000 in
set_option maxHeartbeats 4000000 in
theorem c_X6_setValue_f1 {l : Launch} (hl : l.stackTraces = false) (K : jK) (F : GH) (h0 hs : Nat) (now past : Nat → Int32) (thrown : Int32) (k : Nat) (hk : k ≤ 4) (drawn : Nat → Int32) (hash : Int64) (n : Nat) (p : Int32) (hn : now 2 = nI n) (hn9 : n ≤ 12) (hj : ∀ j, j < n → p ≠ nI j) (q : Int32) : Ct l K yX6_setValue cX6_setValue 4 (some .int) 2 43 0 0 [.ref h0, .int p, .int q] (gB F h0 (mC K h0 now past (nI k) thrown drawn hash)) hs (pI (fun r G' _ => r = nI 0 ∧ G' = (gB F h0 (mC K h0 now past (nI k) (nI 1) drawn hash)))) jno := by
  refine Ct.ofA hl (by decide) (Nat.le_of_ble_eq_true rfl) (L0 := [some (.ref h0), some (.int p), some (.int q), none]) (jL_of 1 rfl) ?_
  intro A E hE hQ hX hNm
  refine j_aload_n hE (i := 0) dX6_setValue_0 rfl rfl ?_
  refine j_aload_n hE (i := 0) dX6_setValue_1 rfl rfl ?_
  refine j_iload_n hE (i := 1) dX6_setValue_2 rfl rfl ?_
  refine j_cVi hE mlX6_75 gB_0 (fun l hl => c_X6_isParameter_f hl K F h0 _ _ _ _ _ _ _ n _ hn hn9 hj) rfl rfl (Nat.le_of_ble_eq_true rfl) (by decide) (by decide) (by omega) (by omega) dX6_setValue_3 (fun r G9 hs9 hp => ?_) (fun _ _ h => h.elim)
  obtain ⟨rfl, rfl⟩ := hp
  refine j_if_neN hE (tgt := 13) dX6_setValue_6 (by decide) (by omega) (fun h6 => ?_) (fun h6 => ?_)
  · exfalso; omega
  · refine j_iconst hE (v := nI 1) dX6_setValue_9 (by decide) ?_
    refine j_goto hE (tgt := 29) dX6_setValue_10 (by decide) ?_
    refine b_put3 hE flX6_19 rfl rfl dX6_setValue_29 ?_
    refine j_aload_n hE (i := 0) dX6_setValue_32 rfl rfl ?_
    refine j_get hE flX6_19 gB_0 rfl dX6_setValue_33 ?_
    refine j_if_eqN hE (tgt := 41) dX6_setValue_36 (by decide) (by omega) (fun h36 => ?_) (fun h36 => ?_)
    · exfalso; omega
    · refine j_iconst hE (v := nI 0) dX6_setValue_39 (by decide) ?_
      refine j_iret hE hQ rfl (by omega) (by omega) dX6_setValue_40 ?_
      exact ⟨_, rfl, rfl, rfl⟩

set_option maxRecDepth 100000 in
set_option maxHeartbeats 4000000 in
theorem c_X6_setValue_f2 {l : Launch} (hl : l.stackTraces = false) (K : jK) (F : GH) (h0 hs : Nat) (now past : Nat → Int32) (thrown : Int32) (k : Nat) (hk : k ≤ 4) (drawn : Nat → Int32) (hash : Int64) (n j : Nat) (hn : now 2 = nI n) (hn9 : n ≤ 12) (hj : j < n) (q : Int32) (hq : ∀ i, 0 ≤ i → i ≤ 255 → q ≠ nI i) : Ct l K yX6_setValue cX6_setValue 4 (some .int) 2 43 0 0 [.ref h0, .int (nI j), .int q] (gB F h0 (mC K h0 now past (nI k) thrown drawn hash)) hs (pI (fun r G' _ => r = nI 0 ∧ G' = (gB F h0 (mC K h0 now past (nI k) (nI 2) drawn hash)))) jno := by
  refine Ct.ofA hl (by decide) (Nat.le_of_ble_eq_true rfl) (L0 := [some (.ref h0), some (.int (nI j)), some (.int q), none]) (jL_of 1 rfl) ?_
  intro A E hE hQ hX hNm
  refine j_aload_n hE (i := 0) dX6_setValue_0 rfl rfl ?_
  refine j_aload_n hE (i := 0) dX6_setValue_1 rfl rfl ?_
  refine j_iload_n hE (i := 1) dX6_setValue_2 rfl rfl ?_
  refine j_cVi hE mlX6_75 gB_0 (fun l hl => c_X6_isParameter_t hl K F h0 _ _ _ _ _ _ _ n _ hn hn9 hj) rfl rfl (Nat.le_of_ble_eq_true rfl) (by decide) (by decide) (by omega) (by omega) dX6_setValue_3 (fun r G9 hs9 hp => ?_) (fun _ _ h => h.elim)
  obtain ⟨rfl, rfl⟩ := hp
  refine j_if_neN hE (tgt := 13) dX6_setValue_6 (by decide) (by omega) (fun h6 => ?_) (fun h6 => ?_)
  · refine j_iload_n hE (i := 2) dX6_setValue_13 rfl rfl ?_
    refine j_iconst hE (v := nI 0) dX6_setValue_14 (by decide) ?_
    refine j_sipush hE (v := nI 255) dX6_setValue_15 (by decide) ?_
    refine j_cSi hE mlX6_26 (fun l hl => c_X6_in_f hl K _ _ _ _ _ (rg_f hq (by decide) (by decide))) rfl rfl (Nat.le_of_ble_eq_true rfl) (by decide) (by decide) (by omega) (by omega) dX6_setValue_18 (fun r G9 hs9 hp => ?_) (fun _ _ h => h.elim)
    obtain ⟨rfl, rfl⟩ := hp
    refine j_if_neN hE (tgt := 28) dX6_setValue_21 (by decide) (by omega) (fun h21 => ?_) (fun h21 => ?_)
    · exfalso; omega
    · refine j_iconst hE (v := nI 2) dX6_setValue_24 (by decide) ?_
      refine j_goto hE (tgt := 29) dX6_setValue_25 (by decide) ?_
      refine b_put3 hE flX6_19 rfl rfl dX6_setValue_29 ?_
      refine j_aload_n hE (i := 0) dX6_setValue_32 rfl rfl ?_
      refine j_get hE flX6_19 gB_0 rfl dX6_setValue_33 ?_
      refine j_if_eqN hE (tgt := 41) dX6_setValue_36 (by decide) (by omega) (fun h36 => ?_) (fun h36 => ?_)
      · exfalso; omega
      · refine j_iconst hE (v := nI 0) dX6_setValue_39 (by decide) ?_
        refine j_iret hE hQ rfl (by omega) (by omega) dX6_setValue_40 ?_
        exact ⟨_, rfl, rfl, rfl⟩
  · exfalso; omega

set_option maxRecDepth 100000 in
set_option maxHeartbeats 4000000 in
theorem c_X6_setPersistence_t {l : Launch} (hl : l.stackTraces = false) (K : jK) (F : GH) (h0 hs : Nat) (now past : Nat → Int32) (thrown : Int32) (k : Nat) (hk : k ≤ 4) (drawn : Nat → Int32) (hash : Int64) (n j : Nat) (hn : now 2 = nI n) (hn9 : n ≤ 12) (hj : j < n) (v : Nat) (hv : 1 ≤ v) (hv2 : v ≤ 5) : Ct l K yX6_setPersistence cX6_setPersistence 4 (some .int) 2 43 0 0 [.ref h0, .int (nI j), .int (nI v)] (gB F h0 (mC K h0 now past (nI k) thrown drawn hash)) hs (pI (fun r G' _ => r = now (33 + 14 * j + 10) ∧ G' = (gB F h0 (mC K h0 (upd now (33 + 14 * j + 10) (nI v)) (mKeep now past k) (nI (mKept k)) (nI 0) drawn hash)))) jno := by
  refine Ct.ofA hl (by decide) (Nat.le_of_ble_eq_true rfl) (L0 := [some (.ref h0), some (.int (nI j)), some (.int (nI v)), none]) (jL_of 1 rfl) ?_
  intro A E hE hQ hX hNm
  refine j_aload_n hE (i := 0) dX6_setPersistence_0 rfl rfl ?_
  refine j_aload_n hE (i := 0) dX6_setPersistence_1 rfl rfl ?_
  refine j_iload_n hE (i := 1) dX6_setPersistence_2 rfl rfl ?_
  refine j_cVi hE mlX6_75 gB_0 (fun l hl => c_X6_isParameter_t hl K F h0 _ _ _ _ _ _ _ n _ hn hn9 hj) rfl rfl (Nat.le_of_ble_eq_true rfl) (by decide) (by decide) (by omega) (by omega) dX6_setPersistence_3 (fun r G9 hs9 hp => ?_) (fun _ _ h => h.elim)
  obtain ⟨rfl, rfl⟩ := hp
  refine j_if_neN hE (tgt := 13) dX6_setPersistence_6 (by decide) (by omega) (fun h6 => ?_) (fun h6 => ?_)
  · refine j_iload_n hE (i := 2) dX6_setPersistence_13 rfl rfl ?_
    refine j_iconst hE (v := nI 1) dX6_setPersistence_14 (by decide) ?_
    refine j_iconst hE (v := nI 5) dX6_setPersistence_15 (by decide) ?_
    refine j_cSi hE mlX6_26 (fun l hl => c_X6_in_t hl K _ _ _ _ _ (rg_t (by omega) (by omega) (by decide))) rfl rfl (Nat.le_of_ble_eq_true rfl) (by decide) (by decide) (by omega) (by omega) dX6_setPersistence_16 (fun r G9 hs9 hp => ?_) (fun _ _ h => h.elim)
    obtain ⟨rfl, rfl⟩ := hp
    refine j_if_neN hE (tgt := 26) dX6_setPersistence_19 (by decide) (by omega) (fun h19 => ?_) (fun h19 => ?_)
    · refine j_iconst hE (v := nI 0) dX6_setPersistence_26 (by decide) ?_
      refine b_put3 hE flX6_19 rfl rfl dX6_setPersistence_27 ?_
      refine j_aload_n hE (i := 0) dX6_setPersistence_30 rfl rfl ?_
      refine j_get hE flX6_19 gB_0 rfl dX6_setPersistence_31 ?_
      refine j_if_eqN hE (tgt := 39) dX6_setPersistence_34 (by decide) (by omega) (fun h34 => ?_) (fun h34 => ?_)
      · refine j_aload_n hE (i := 0) dX6_setPersistence_39 rfl rfl ?_
        refine j_cVv hE mlX6_33 gB_0 (fun l hl => c_X6_keep hl K F h0 _ _ _ _ _ hk _ _) rfl rfl (Nat.le_of_ble_eq_true rfl) (by decide) (by decide) (by omega) (by omega) dX6_setPersistence_40 (fun G9 hs9 hp => ?_) (fun _ _ h => h.elim)
        subst hp
        refine j_aload_n hE (i := 0) dX6_setPersistence_43 rfl rfl ?_
        refine j_iload_n hE (i := 1) dX6_setPersistence_44 rfl rfl ?_
        refine j_bipush hE (v := nI 10) dX6_setPersistence_45 (by decide) ?_
        refine j_cVi hE mlX6_43 gB_0 (fun l hl => c_X6_of hl K F h0 _ _ _ _ _ _ _ _ _ (by omega)) rfl rfl (Nat.le_of_ble_eq_true rfl) (by decide) (by decide) (by omega) (by omega) dX6_setPersistence_47 (fun r G9 hs9 hp => ?_) (fun _ _ h => h.elim)
        obtain ⟨rfl, rfl⟩ := hp
        refine j_ist3 hE dX6_setPersistence_50 rfl (by decide) rfl ?_
        refine j_aload_n hE (i := 0) dX6_setPersistence_51 rfl rfl ?_
        refine j_iload_n hE (i := 1) dX6_setPersistence_52 rfl rfl ?_
        refine j_bipush hE (v := nI 10) dX6_setPersistence_53 (by decide) ?_
        refine j_iload_n hE (i := 2) dX6_setPersistence_55 rfl rfl ?_
        refine j_cVv hE mlX6_39 gB_0 (fun l hl => c_X6_put hl K F h0 _ _ _ _ _ _ _ _ _ _ (by omega)) rfl rfl (Nat.le_of_ble_eq_true rfl) (by decide) (by decide) (by omega) (by omega) dX6_setPersistence_56 (fun G9 hs9 hp => ?_) (fun _ _ h => h.elim)
        subst hp
        refine j_iload_n hE (i := 3) dX6_setPersistence_59 rfl rfl ?_
        refine j_iret hE hQ rfl (by omega) (by omega) dX6_setPersistence_60 ?_
        exact ⟨_, rfl, rfl, rfl⟩
      · exfalso; omega
    · exfalso; omega
  · exfalso; omega

set_option maxRecDepth 100000 in
set_option maxHeartbeats 4000000 in
theorem c_X6_setPersistence_f1 {l : Launch} (hl : l.stackTraces = false) (K : jK) (F : GH) (h0 hs : Nat) (now past : Nat → Int32) (thrown : Int32) (k : Nat) (hk : k ≤ 4) (drawn : Nat → Int32) (hash : Int64) (n : Nat) (p : Int32) (hn : now 2 = nI n) (hn9 : n ≤ 12) (hj : ∀ j, j < n → p ≠ nI j) (q : Int32) : Ct l K yX6_setPersistence cX6_setPersistence 4 (some .int) 2 43 0 0 [.ref h0, .int p, .int q] (gB F h0 (mC K h0 now past (nI k) thrown drawn hash)) hs (pI (fun r G' _ => r = nI 0 ∧ G' = (gB F h0 (mC K h0 now past (nI k) (nI 1) drawn hash)))) jno := by
  refine Ct.ofA hl (by decide) (Nat.le_of_ble_eq_true rfl) (L0 := [some (.ref h0), some (.int p), some (.int q), none]) (jL_of 1 rfl) ?_
  intro A E hE hQ hX hNm
  refine j_aload_n hE (i := 0) dX6_setPersistence_0 rfl rfl ?_
  refine j_aload_n hE (i := 0) dX6_setPersistence_1 rfl rfl ?_
  refine j_iload_n hE (i := 1) dX6_setPersistence_2 rfl rfl ?_
  refine j_cVi hE mlX6_75 gB_0 (fun l hl => c_X6_isParameter_f hl K F h0 _ _ _ _ _ _ _ n _ hn hn9 hj) rfl rfl (Nat.le_of_ble_eq_true rfl) (by decide) (by decide) (by omega) (by omega) dX6_setPersistence_3 (fun r G9 hs9 hp => ?_) (fun _ _ h => h.elim)
  obtain ⟨rfl, rfl⟩ := hp
  refine j_if_neN hE (tgt := 13) dX6_setPersistence_6 (by decide) (by omega) (fun h6 => ?_) (fun h6 => ?_)
  · exfalso; omega
  · refine j_iconst hE (v := nI 1) dX6_setPersistence_9 (by decide) ?_
    refine j_goto hE (tgt := 27) dX6_setPersistence_10 (by decide) ?_
    refine b_put3 hE flX6_19 rfl rfl dX6_setPersistence_27 ?_
    refine j_aload_n hE (i := 0) dX6_setPersistence_30 rfl rfl ?_
    refine j_get hE flX6_19 gB_0 rfl dX6_setPersistence_31 ?_
    refine j_if_eqN hE (tgt := 39) dX6_setPersistence_34 (by decide) (by omega) (fun h34 => ?_) (fun h34 => ?_)
    · exfalso; omega
    · refine j_iconst hE (v := nI 0) dX6_setPersistence_37 (by decide) ?_
      refine j_iret hE hQ rfl (by omega) (by omega) dX6_setPersistence_38 ?_
      exact ⟨_, rfl, rfl, rfl⟩

set_option maxRecDepth 100000 in
set_option maxHeartbeats 4000000 in
theorem c_X6_setPersistence_f2 {l : Launch} (hl : l.stackTraces = false) (K : jK) (F : GH) (h0 hs : Nat) (now past : Nat → Int32) (thrown : Int32) (k : Nat) (hk : k ≤ 4) (drawn : Nat → Int32) (hash : Int64) (n j : Nat) (hn : now 2 = nI n) (hn9 : n ≤ 12) (hj : j < n) (q : Int32) (hq : ∀ i, 1 ≤ i → i ≤ 5 → q ≠ nI i) : Ct l K yX6_setPersistence cX6_setPersistence 4 (some .int) 2 43 0 0 [.ref h0, .int (nI j), .int q] (gB F h0 (mC K h0 now past (nI k) thrown drawn hash)) hs (pI (fun r G' _ => r = nI 0 ∧ G' = (gB F h0 (mC K h0 now past (nI k) (nI 2) drawn hash)))) jno := by
  refine Ct.ofA hl (by decide) (Nat.le_of_ble_eq_true rfl) (L0 := [some (.ref h0), some (.int (nI j)), some (.int q), none]) (jL_of 1 rfl) ?_
  intro A E hE hQ hX hNm
  refine j_aload_n hE (i := 0) dX6_setPersistence_0 rfl rfl ?_
  refine j_aload_n hE (i := 0) dX6_setPersistence_1 rfl rfl ?_
  refine j_iload_n hE (i := 1) dX6_setPersistence_2 rfl rfl ?_
  refine j_cVi hE mlX6_75 gB_0 (fun l hl => c_X6_isParameter_t hl K F h0 _ _ _ _ _ _ _ n _ hn hn9 hj) rfl rfl (Nat.le_of_ble_eq_true rfl) (by decide) (by decide) (by omega) (by omega) dX6_setPersistence_3 (fun r G9 hs9 hp => ?_) (fun _ _ h => h.elim)
  obtain ⟨rfl, rfl⟩ := hp
  refine j_if_neN hE (tgt := 13) dX6_setPersistence_6 (by decide) (by omega) (fun h6 => ?_) (fun h6 => ?_)
  · refine j_iload_n hE (i := 2) dX6_setPersistence_13 rfl rfl ?_
    refine j_iconst hE (v := nI 1) dX6_setPersistence_14 (by decide) ?_
    refine j_iconst hE (v := nI 5) dX6_setPersistence_15 (by decide) ?_
    refine j_cSi hE mlX6_26 (fun l hl => c_X6_in_f hl K _ _ _ _ _ (rg_f hq (by decide) (by decide))) rfl rfl (Nat.le_of_ble_eq_true rfl) (by decide) (by decide) (by omega) (by omega) dX6_setPersistence_16 (fun r G9 hs9 hp => ?_) (fun _ _ h => h.elim)
    obtain ⟨rfl, rfl⟩ := hp
    refine j_if_neN hE (tgt := 26) dX6_setPersistence_19 (by decide) (by omega) (fun h19 => ?_) (fun h19 => ?_)
    · exfalso; omega
    · refine j_iconst hE (v := nI 2) dX6_setPersistence_22 (by decide) ?_
      refine j_goto hE (tgt := 27) dX6_setPersistence_23 (by decide) ?_
      refine b_put3 hE flX6_19 rfl rfl dX6_setPersistence_27 ?_
      refine j_aload_n hE (i := 0) dX6_setPersistence_30 rfl rfl ?_
      refine j_get hE flX6_19 gB_0 rfl dX6_setPersistence_31 ?_
      refine j_if_eqN hE (tgt := 39) dX6_setPersistence_34 (by decide) (by omega) (fun h34 => ?_) (fun h34 => ?_)
      · exfalso; omega
      · refine j_iconst hE (v := nI 0) dX6_setPersistence_37 (by decide) ?_
        refine j_iret hE hQ rfl (by omega) (by omega) dX6_setPersistence_38 ?_
        exact ⟨_, rfl, rfl, rfl⟩
  · exfalso; omega

set_option maxRecDepth 100000 in
set_option maxHeartbeats 4000000 in
theorem c_X6_setLimits_t {l : Launch} (hl : l.stackTraces = false) (K : jK) (F : GH) (h0 hs : Nat) (now past : Nat → Int32) (thrown : Int32) (k : Nat) (hk : k ≤ 4) (drawn : Nat → Int32) (hash : Int64) (n j : Nat) (hn : now 2 = nI n) (hn9 : n ≤ 12) (hj : j < n) (m a b : Nat) (hm : m ≤ 2) (hab : a ≤ b) (hb : b ≤ 255) : Ct l K yX6_setLimits cX6_setLimits 7 (some .int) 2 43 0 0 [.ref h0, .int (nI j), .int (nI m), .int (nI a), .int (nI b)] (gB F h0 (mC K h0 now past (nI k) thrown drawn hash)) hs (pI (fun r G' _ => r = nI 1000 * now (33 + 14 * j + (4 + 2 * m)) + now (33 + 14 * j + (4 + 2 * m + 1)) ∧ G' = (gB F h0 (mC K h0 (upd (upd now (33 + 14 * j + (4 + 2 * m)) (nI a)) (33 + 14 * j + (4 + 2 * m + 1)) (nI b)) (mKeep now past k) (nI (mKept k)) (nI 0) drawn hash)))) jno := by
  refine Ct.ofA hl (by decide) (Nat.le_of_ble_eq_true rfl) (L0 := [some (.ref h0), some (.int (nI j)), some (.int (nI m)), some (.int (nI a)), some (.int (nI b)), none, none]) (jL_of 2 rfl) ?_
  intro A E hE hQ hX hNm
  refine j_aload_n hE (i := 0) dX6_setLimits_0 rfl rfl ?_
  refine j_aload_n hE (i := 0) dX6_setLimits_1 rfl rfl ?_
  refine j_iload_n hE (i := 1) dX6_setLimits_2 rfl rfl ?_
  refine j_cVi hE mlX6_75 gB_0 (fun l hl => c_X6_isParameter_t hl K F h0 _ _ _ _ _ _ _ n _ hn hn9 hj) rfl rfl (Nat.le_of_ble_eq_true rfl) (by decide) (by decide) (by omega) (by omega) dX6_setLimits_3 (fun r G9 hs9 hp => ?_) (fun _ _ h => h.elim)
  obtain ⟨rfl, rfl⟩ := hp
  refine j_if_neN hE (tgt := 13) dX6_setLimits_6 (by decide) (by omega) (fun h6 => ?_) (fun h6 => ?_)
  · refine j_iload_n hE (i := 2) dX6_setLimits_13 rfl rfl ?_
    refine j_iconst hE (v := nI 0) dX6_setLimits_14 (by decide) ?_
    refine j_iconst hE (v := nI 2) dX6_setLimits_15 (by decide) ?_
    refine j_cSi hE mlX6_26 (fun l hl => c_X6_in_t hl K _ _ _ _ _ (rg_t (by omega) (by omega) (by decide))) rfl rfl (Nat.le_of_ble_eq_true rfl) (by decide) (by decide) (by omega) (by omega) dX6_setLimits_16 (fun r G9 hs9 hp => ?_) (fun _ _ h => h.elim)
    obtain ⟨rfl, rfl⟩ := hp
    refine j_if_eqN hE (tgt := 40) dX6_setLimits_19 (by decide) (by omega) (fun h19 => ?_) (fun h19 => ?_)
    · exfalso; omega
    · refine j_iload_n hE (i := 3) dX6_setLimits_22 rfl rfl ?_
      refine j_if_lt hE (tgt := 40) dX6_setLimits_23 (by decide) (fun h23 => ?_) (fun h23 => ?_)
      · exact absurd h23 (nI_pos (by omega))
      · refine j_iload hE dX6_setLimits_26 rfl ?_
        refine j_sipush hE (v := nI 255) dX6_setLimits_28 (by decide) ?_
        refine j_ic_gtN hE (tgt := 40) dX6_setLimits_31 (by decide) (by omega) (by omega) (fun h31 => ?_) (fun h31 => ?_)
        · exfalso; omega
        · refine j_iload_n hE (i := 3) dX6_setLimits_34 rfl rfl ?_
          refine j_iload hE dX6_setLimits_35 rfl ?_
          refine j_ic_leN hE (tgt := 44) dX6_setLimits_37 (by decide) (by omega) (by omega) (fun h37 => ?_) (fun h37 => ?_)
          · refine j_iconst hE (v := nI 0) dX6_setLimits_44 (by decide) ?_
            refine b_put3 hE flX6_19 rfl rfl dX6_setLimits_45 ?_
            refine j_aload_n hE (i := 0) dX6_setLimits_48 rfl rfl ?_
            refine j_get hE flX6_19 gB_0 rfl dX6_setLimits_49 ?_
            refine j_if_eqN hE (tgt := 57) dX6_setLimits_52 (by decide) (by omega) (fun h52 => ?_) (fun h52 => ?_)
            · refine j_aload_n hE (i := 0) dX6_setLimits_57 rfl rfl ?_
              refine j_cVv hE mlX6_33 gB_0 (fun l hl => c_X6_keep hl K F h0 _ _ _ _ _ hk _ _) rfl rfl (Nat.le_of_ble_eq_true rfl) (by decide) (by decide) (by omega) (by omega) dX6_setLimits_58 (fun G9 hs9 hp => ?_) (fun _ _ h => h.elim)
              subst hp
              refine j_iconst hE (v := nI 4) dX6_setLimits_61 (by decide) ?_
              refine j_iconst hE (v := nI 2) dX6_setLimits_62 (by decide) ?_
              refine j_iload_n hE (i := 2) dX6_setLimits_63 rfl rfl ?_
              refine j_imulN hE dX6_setLimits_64 ?_
              refine j_iaddN hE dX6_setLimits_65 ?_
              refine j_ist5 hE dX6_setLimits_66 (by decide) rfl ?_
              refine j_sipush hE (v := nI 1000) dX6_setLimits_68 (by decide) ?_
              refine j_aload_n hE (i := 0) dX6_setLimits_71 rfl rfl ?_
              refine j_iload_n hE (i := 1) dX6_setLimits_72 rfl rfl ?_
              refine j_iload hE dX6_setLimits_73 rfl ?_
              refine j_cVi hE mlX6_43 gB_0 (fun l hl => c_X6_of hl K F h0 _ _ _ _ _ _ _ _ _ (by omega)) rfl rfl (Nat.le_of_ble_eq_true rfl) (by decide) (by decide) (by omega) (by omega) dX6_setLimits_75 (fun r G9 hs9 hp => ?_) (fun _ _ h => h.elim)
              obtain ⟨rfl, rfl⟩ := hp
              refine j_imul hE dX6_setLimits_78 ?_
              refine j_aload_n hE (i := 0) dX6_setLimits_79 rfl rfl ?_
              refine j_iload_n hE (i := 1) dX6_setLimits_80 rfl rfl ?_
              refine j_iload hE dX6_setLimits_81 rfl ?_
              refine j_iconst hE (v := nI 1) dX6_setLimits_83 (by decide) ?_
              refine j_iaddN hE dX6_setLimits_84 ?_
              refine j_cVi hE mlX6_43 gB_0 (fun l hl => c_X6_of hl K F h0 _ _ _ _ _ _ _ _ _ (by omega)) rfl rfl (Nat.le_of_ble_eq_true rfl) (by decide) (by decide) (by omega) (by omega) dX6_setLimits_85 (fun r G9 hs9 hp => ?_) (fun _ _ h => h.elim)
              obtain ⟨rfl, rfl⟩ := hp
              refine j_iadd hE dX6_setLimits_88 ?_
              refine j_ist6 hE dX6_setLimits_89 (by decide) rfl ?_
              refine j_aload_n hE (i := 0) dX6_setLimits_91 rfl rfl ?_
              refine j_iload_n hE (i := 1) dX6_setLimits_92 rfl rfl ?_
              refine j_iload hE dX6_setLimits_93 rfl ?_
              refine j_iload_n hE (i := 3) dX6_setLimits_95 rfl rfl ?_
              refine j_cVv hE mlX6_39 gB_0 (fun l hl => c_X6_put hl K F h0 _ _ _ _ _ _ _ _ _ _ (by omega)) rfl rfl (Nat.le_of_ble_eq_true rfl) (by decide) (by decide) (by omega) (by omega) dX6_setLimits_96 (fun G9 hs9 hp => ?_) (fun _ _ h => h.elim)
              subst hp
              refine j_aload_n hE (i := 0) dX6_setLimits_99 rfl rfl ?_
              refine j_iload_n hE (i := 1) dX6_setLimits_100 rfl rfl ?_
              refine j_iload hE dX6_setLimits_101 rfl ?_
              refine j_iconst hE (v := nI 1) dX6_setLimits_103 (by decide) ?_
              refine j_iaddN hE dX6_setLimits_104 ?_
              refine j_iload hE dX6_setLimits_105 rfl ?_
              refine j_cVv hE mlX6_39 gB_0 (fun l hl => c_X6_put hl K F h0 _ _ _ _ _ _ _ _ _ _ (by omega)) rfl rfl (Nat.le_of_ble_eq_true rfl) (by decide) (by decide) (by omega) (by omega) dX6_setLimits_107 (fun G9 hs9 hp => ?_) (fun _ _ h => h.elim)
              subst hp
              refine j_iload hE dX6_setLimits_110 rfl ?_
              refine j_iret hE hQ rfl (by omega) (by omega) dX6_setLimits_112 ?_
              exact ⟨_, rfl, rfl, rfl⟩
            · exfalso; omega
          · exfalso; omega
  · exfalso; omega

set_option maxRecDepth 100000 in
set_option maxHeartbeats 4000000 in
theorem c_X6_setLimits_f1 {l : Launch} (hl : l.stackTraces = false) (K : jK) (F : GH) (h0 hs : Nat) (now past : Nat → Int32) (thrown : Int32) (k : Nat) (hk : k ≤ 4) (drawn : Nat → Int32) (hash : Int64) (n : Nat) (p : Int32) (hn : now 2 = nI n) (hn9 : n ≤ 12) (hj : ∀ j, j < n → p ≠ nI j) (q a b : Int32) : Ct l K yX6_setLimits cX6_setLimits 7 (some .int) 2 43 0 0 [.ref h0, .int p, .int q, .int a, .int b] (gB F h0 (mC K h0 now past (nI k) thrown drawn hash)) hs (pI (fun r G' _ => r = nI 0 ∧ G' = (gB F h0 (mC K h0 now past (nI k) (nI 1) drawn hash)))) jno := by
  refine Ct.ofA hl (by decide) (Nat.le_of_ble_eq_true rfl) (L0 := [some (.ref h0), some (.int p), some (.int q), some (.int a), some (.int b), none, none]) (jL_of 2 rfl) ?_
  intro A E hE hQ hX hNm
  refine j_aload_n hE (i := 0) dX6_setLimits_0 rfl rfl ?_
  refine j_aload_n hE (i := 0) dX6_setLimits_1 rfl rfl ?_
  refine j_iload_n hE (i := 1) dX6_setLimits_2 rfl rfl ?_
  refine j_cVi hE mlX6_75 gB_0 (fun l hl => c_X6_isParameter_f hl K F h0 _ _ _ _ _ _ _ n _ hn hn9 hj) rfl rfl (Nat.le_of_ble_eq_true rfl) (by decide) (by decide) (by omega) (by omega) dX6_setLimits_3 (fun r G9 hs9 hp => ?_) (fun _ _ h => h.elim)
  obtain ⟨rfl, rfl⟩ := hp
  refine j_if_neN hE (tgt := 13) dX6_setLimits_6 (by decide) (by omega) (fun h6 => ?_) (fun h6 => ?_)
  · exfalso; omega
  · refine j_iconst hE (v := nI 1) dX6_setLimits_9 (by decide) ?_
    refine j_goto hE (tgt := 45) dX6_setLimits_10 (by decide) ?_
    refine b_put3 hE flX6_19 rfl rfl dX6_setLimits_45 ?_
    refine j_aload_n hE (i := 0) dX6_setLimits_48 rfl rfl ?_
    refine j_get hE flX6_19 gB_0 rfl dX6_setLimits_49 ?_
    refine j_if_eqN hE (tgt := 57) dX6_setLimits_52 (by decide) (by omega) (fun h52 => ?_) (fun h52 => ?_)
    · exfalso; omega
    · refine j_iconst hE (v := nI 0) dX6_setLimits_55 (by decide) ?_
      refine j_iret hE hQ rfl (by omega) (by omega) dX6_setLimits_56 ?_
      exact ⟨_, rfl, rfl, rfl⟩

set_option maxRecDepth 100000 in
set_option maxHeartbeats 4000000 in
theorem c_X6_setLimits_f2 {l : Launch} (hl : l.stackTraces = false) (K : jK) (F : GH) (h0 hs : Nat) (now past : Nat → Int32) (thrown : Int32) (k : Nat) (hk : k ≤ 4) (drawn : Nat → Int32) (hash : Int64) (n j : Nat) (hn : now 2 = nI n) (hn9 : n ≤ 12) (hj : j < n) (q a b : Int32) (hbad : ∀ m c d, m ≤ 2 → c ≤ d → d ≤ 255 → q = nI m → a = nI c → b = nI d → False) : Ct l K yX6_setLimits cX6_setLimits 7 (some .int) 2 43 0 0 [.ref h0, .int (nI j), .int q, .int a, .int b] (gB F h0 (mC K h0 now past (nI k) thrown drawn hash)) hs (pI (fun r G' _ => r = nI 0 ∧ G' = (gB F h0 (mC K h0 now past (nI k) (nI 2) drawn hash)))) jno := by
  refine Ct.ofA hl (by decide) (Nat.le_of_ble_eq_true rfl) (L0 := [some (.ref h0), some (.int (nI j)), some (.int q), some (.int a), some (.int b), none, none]) (jL_of 2 rfl) ?_
  intro A E hE hQ hX hNm
  refine j_aload_n hE (i := 0) dX6_setLimits_0 rfl rfl ?_
  refine j_aload_n hE (i := 0) dX6_setLimits_1 rfl rfl ?_
  refine j_iload_n hE (i := 1) dX6_setLimits_2 rfl rfl ?_
  refine j_cVi hE mlX6_75 gB_0 (fun l hl => c_X6_isParameter_t hl K F h0 _ _ _ _ _ _ _ n _ hn hn9 hj) rfl rfl (Nat.le_of_ble_eq_true rfl) (by decide) (by decide) (by omega) (by omega) dX6_setLimits_3 (fun r G9 hs9 hp => ?_) (fun _ _ h => h.elim)
  obtain ⟨rfl, rfl⟩ := hp
  refine j_if_neN hE (tgt := 13) dX6_setLimits_6 (by decide) (by omega) (fun h6 => ?_) (fun h6 => ?_)
  · refine j_iload_n hE (i := 2) dX6_setLimits_13 rfl rfl ?_
    refine j_iconst hE (v := nI 0) dX6_setLimits_14 (by decide) ?_
    refine j_iconst hE (v := nI 2) dX6_setLimits_15 (by decide) ?_
    refine j_cSi hE mlX6_26 (fun l hl => c_X6_in hl K _ _ _ _ _) rfl rfl (Nat.le_of_ble_eq_true rfl) (by decide) (by decide) (by omega) (by omega) dX6_setLimits_16 (fun r G9 hs9 hp => ?_) (fun _ _ h => h.elim)
    obtain ⟨rfl, rfl⟩ := hp
    refine j_if_eq hE (tgt := 40) dX6_setLimits_19 (by decide) (fun h19 => ?_) (fun h19 => ?_)
    · refine j_iconst hE (v := nI 2) dX6_setLimits_40 (by decide) ?_
      refine j_goto hE (tgt := 45) dX6_setLimits_41 (by decide) ?_
      refine b_put3 hE flX6_19 rfl rfl dX6_setLimits_45 ?_
      refine j_aload_n hE (i := 0) dX6_setLimits_48 rfl rfl ?_
      refine j_get hE flX6_19 gB_0 rfl dX6_setLimits_49 ?_
      refine j_if_eqN hE (tgt := 57) dX6_setLimits_52 (by decide) (by omega) (fun h52 => ?_) (fun h52 => ?_)
      · exfalso; omega
      · refine j_iconst hE (v := nI 0) dX6_setLimits_55 (by decide) ?_
        refine j_iret hE hQ rfl (by omega) (by omega) dX6_setLimits_56 ?_
        exact ⟨_, rfl, rfl, rfl⟩
    · refine j_iload_n hE (i := 3) dX6_setLimits_22 rfl rfl ?_
      refine j_if_lt hE (tgt := 40) dX6_setLimits_23 (by decide) (fun h23 => ?_) (fun h23 => ?_)
      · refine j_iconst hE (v := nI 2) dX6_setLimits_40 (by decide) ?_
        refine j_goto hE (tgt := 45) dX6_setLimits_41 (by decide) ?_
        refine b_put3 hE flX6_19 rfl rfl dX6_setLimits_45 ?_
        refine j_aload_n hE (i := 0) dX6_setLimits_48 rfl rfl ?_
        refine j_get hE flX6_19 gB_0 rfl dX6_setLimits_49 ?_
        refine j_if_eqN hE (tgt := 57) dX6_setLimits_52 (by decide) (by omega) (fun h52 => ?_) (fun h52 => ?_)
        · exfalso; omega
        · refine j_iconst hE (v := nI 0) dX6_setLimits_55 (by decide) ?_
          refine j_iret hE hQ rfl (by omega) (by omega) dX6_setLimits_56 ?_
          exact ⟨_, rfl, rfl, rfl⟩
      · refine j_iload hE dX6_setLimits_26 rfl ?_
        refine j_sipush hE (v := nI 255) dX6_setLimits_28 (by decide) ?_
        refine j_ic_gt hE (tgt := 40) dX6_setLimits_31 (by decide) (fun h31 => ?_) (fun h31 => ?_)
        · refine j_iconst hE (v := nI 2) dX6_setLimits_40 (by decide) ?_
          refine j_goto hE (tgt := 45) dX6_setLimits_41 (by decide) ?_
          refine b_put3 hE flX6_19 rfl rfl dX6_setLimits_45 ?_
          refine j_aload_n hE (i := 0) dX6_setLimits_48 rfl rfl ?_
          refine j_get hE flX6_19 gB_0 rfl dX6_setLimits_49 ?_
          refine j_if_eqN hE (tgt := 57) dX6_setLimits_52 (by decide) (by omega) (fun h52 => ?_) (fun h52 => ?_)
          · exfalso; omega
          · refine j_iconst hE (v := nI 0) dX6_setLimits_55 (by decide) ?_
            refine j_iret hE hQ rfl (by omega) (by omega) dX6_setLimits_56 ?_
            exact ⟨_, rfl, rfl, rfl⟩
        · refine j_iload_n hE (i := 3) dX6_setLimits_34 rfl rfl ?_
          refine j_iload hE dX6_setLimits_35 rfl ?_
          refine j_ic_le hE (tgt := 44) dX6_setLimits_37 (by decide) (fun h37 => ?_) (fun h37 => ?_)
          · obtain ⟨m, m1, m2, rfl⟩ := rg_ex (jbd_ne h19) (by decide) (by decide)
            obtain ⟨c, c1, rfl⟩ := nI_of h23
            have hb0 : ¬ b < 0 := fun q => by
              have q1 := Int32.lt_iff_toInt_lt.mp q
              have q2 := Int32.le_iff_toInt_le.mp h37
              rw [nI_toInt c1] at q2
              rw [Int32.toInt_zero] at q1
              omega
            obtain ⟨d, d1, rfl⟩ := nI_of hb0
            exact (hbad m c d m2 ((nI_leI c1 d1).mp h37) (by have := mt (nI_ltI (a := 255) (by decide) d1).mpr h31; omega) rfl rfl rfl).elim
          · refine j_iconst hE (v := nI 2) dX6_setLimits_40 (by decide) ?_
            refine j_goto hE (tgt := 45) dX6_setLimits_41 (by decide) ?_
            refine b_put3 hE flX6_19 rfl rfl dX6_setLimits_45 ?_
            refine j_aload_n hE (i := 0) dX6_setLimits_48 rfl rfl ?_
            refine j_get hE flX6_19 gB_0 rfl dX6_setLimits_49 ?_
            refine j_if_eqN hE (tgt := 57) dX6_setLimits_52 (by decide) (by omega) (fun h52 => ?_) (fun h52 => ?_)
            · exfalso; omega
            · refine j_iconst hE (v := nI 0) dX6_setLimits_55 (by decide) ?_
              refine j_iret hE hQ rfl (by omega) (by omega) dX6_setLimits_56 ?_
              exact ⟨_, rfl, rfl, rfl⟩
  · exfalso; omega

/-- the rates that there are -/
def rOk (x : Int32) : Prop := (∃ r, 1 ≤ r ∧ r ≤ 4 ∧ x = nI r) ∨ ∃ q, (q = 2 ∨ q = 4 ∨ q = 8) ∧ x = -nI q
/-- samples in a major frame of M minor frames, at a rate -/
def sOf (M : Nat) (x : Int32) : Nat := if 0 < x then x.toInt.toNat * M else M / (-x).toInt.toNat
theorem sOf_p {M r : Nat} (h1 : 1 ≤ r) (h4 : r ≤ 4) : sOf M (nI r) = r * M := by
  unfold sOf
  rw [if_pos (by rw [← nI_0]; exact nI_lt h1 (by omega)), nI_toInt (by omega)]
  rfl
theorem sOf_n {M q : Nat} (hq : q = 2 ∨ q = 4 ∨ q = 8) : sOf M (-nI q) = M / q := by
  unfold sOf
  rcases hq with rfl | rfl | rfl
  · rw [if_neg (by decide), show (- -nI 2).toInt.toNat = 2 by decide]
  · rw [if_neg (by decide), show (- -nI 4).toInt.toNat = 4 by decide]
  · rw [if_neg (by decide), show (- -nI 8).toInt.toNat = 8 by decide]
set_option maxRecDepth 100000 in
set_option maxHeartbeats 4000000 in
theorem c_X6_samplesOf_p {l : Launch} (hl : l.stackTraces = false) (K : jK) (F : GH) (h0 hs : Nat) (now past : Nat → Int32) (kept thrown : Int32) (drawn : Nat → Int32) (hash : Int64) (M : Nat) (hM : now 1 = nI M) (hM9 : M ≤ 8) (j z : Nat) (hj : j < 12) (hr1 : 1 ≤ z) (hr4 : z ≤ 4) (hr : now (33 + 14 * j + 0) = nI z) : Ct l K yX6_samplesOf cX6_samplesOf 3 (some .int) 1 22 0 0 [.ref h0, .int (nI j)] (gB F h0 (mC K h0 now past kept thrown drawn hash)) hs (pI (fun r G' _ => r = nI (z * M) ∧ G' = (gB F h0 (mC K h0 now past kept thrown drawn hash)))) jno := by
  refine Ct.ofA hl (by decide) (Nat.le_of_ble_eq_true rfl) (L0 := [some (.ref h0), some (.int (nI j)), none]) (jL_of 1 rfl) ?_
  intro A E hE hQ hX hNm
  refine j_aload_n hE (i := 0) dX6_samplesOf_0 rfl rfl ?_
  refine j_iload_n hE (i := 1) dX6_samplesOf_1 rfl rfl ?_
  refine j_iconst hE (v := nI 0) dX6_samplesOf_2 (by decide) ?_
  refine j_cVi hE mlX6_43 gB_0 (fun l hl => c_X6_of hl K F h0 _ _ _ _ _ _ _ _ _ (by omega)) rfl rfl (Nat.le_of_ble_eq_true rfl) (by decide) (by decide) (by omega) (by omega) dX6_samplesOf_3 (fun r G9 hs9 hp => ?_) (fun _ _ h => h.elim)
  obtain ⟨rfl, rfl⟩ := hp
  rw [hr]
  refine j_ist2 hE dX6_samplesOf_6 rfl (by decide) rfl ?_
  refine j_iload_n hE (i := 2) dX6_samplesOf_7 rfl rfl ?_
  refine j_if_leN hE (tgt := 22) dX6_samplesOf_8 (by decide) (by omega) (fun h8 => ?_) (fun h8 => ?_)
  · exfalso; omega
  · refine j_iload_n hE (i := 2) dX6_samplesOf_11 rfl rfl ?_
    refine j_aload_n hE (i := 0) dX6_samplesOf_12 rfl rfl ?_
    refine j_get hE flX6_7 gB_0 rfl dX6_samplesOf_13 ?_
    refine j_iconst hE (v := nI 1) dX6_samplesOf_16 (by decide) ?_
    refine j_iald hE gB_1 rfl (by omega) (by decide) dX6_samplesOf_17 ?_
    rw [hM]
    refine j_imulN hE dX6_samplesOf_18 ?_
    refine j_goto hE (tgt := 31) dX6_samplesOf_19 (by decide) ?_
    refine j_iret hE hQ rfl (by omega) (by omega) dX6_samplesOf_31 ?_
    exact ⟨_, rfl, rfl, rfl⟩

set_option maxRecDepth 100000 in
set_option maxHeartbeats 4000000 in
theorem c_X6_samplesOf_n {l : Launch} (hl : l.stackTraces = false) (K : jK) (F : GH) (h0 hs : Nat) (now past : Nat → Int32) (kept thrown : Int32) (drawn : Nat → Int32) (hash : Int64) (M : Nat) (hM : now 1 = nI M) (hM9 : M ≤ 8) (j q : Nat) (hj : j < 12) (hq : q = 2 ∨ q = 4 ∨ q = 8) (hr : now (33 + 14 * j + 0) = -nI q) : Ct l K yX6_samplesOf cX6_samplesOf 3 (some .int) 1 22 0 0 [.ref h0, .int (nI j)] (gB F h0 (mC K h0 now past kept thrown drawn hash)) hs (pI (fun r G' _ => r = nI (M / q) ∧ G' = (gB F h0 (mC K h0 now past kept thrown drawn hash)))) jno := by
  refine Ct.ofA hl (by decide) (Nat.le_of_ble_eq_true rfl) (L0 := [some (.ref h0), some (.int (nI j)), none]) (jL_of 1 rfl) ?_
  intro A E hE hQ hX hNm
  refine j_aload_n hE (i := 0) dX6_samplesOf_0 rfl rfl ?_
  refine j_iload_n hE (i := 1) dX6_samplesOf_1 rfl rfl ?_
  refine j_iconst hE (v := nI 0) dX6_samplesOf_2 (by decide) ?_
  refine j_cVi hE mlX6_43 gB_0 (fun l hl => c_X6_of hl K F h0 _ _ _ _ _ _ _ _ _ (by omega)) rfl rfl (Nat.le_of_ble_eq_true rfl) (by decide) (by decide) (by omega) (by omega) dX6_samplesOf_3 (fun r G9 hs9 hp => ?_) (fun _ _ h => h.elim)
  obtain ⟨rfl, rfl⟩ := hp
  rw [hr]
  refine j_ist2 hE dX6_samplesOf_6 rfl (by decide) rfl ?_
  refine j_iload_n hE (i := 2) dX6_samplesOf_7 rfl rfl ?_
  refine j_if_le hE (tgt := 22) dX6_samplesOf_8 (by decide) (fun h8 => ?_) (fun h8 => ?_)
  · refine j_aload_n hE (i := 0) dX6_samplesOf_22 rfl rfl ?_
    refine j_get hE flX6_7 gB_0 rfl dX6_samplesOf_23 ?_
    refine j_iconst hE (v := nI 1) dX6_samplesOf_26 (by decide) ?_
    refine j_iald hE gB_1 rfl (by omega) (by decide) dX6_samplesOf_27 ?_
    rw [hM]
    refine j_iload_n hE (i := 2) dX6_samplesOf_28 rfl rfl ?_
    refine j_ineg hE dX6_samplesOf_29 ?_
    rw [Int32.neg_neg]
    have hq9 : 0 < q ∧ q ≤ 8 := by omega
    refine j_idivN hE dX6_samplesOf_30 (by omega) (by omega) (by omega) ?_
    refine j_iret hE hQ rfl (by omega) (by omega) dX6_samplesOf_31 ?_
    exact ⟨_, rfl, rfl, rfl⟩
  · exact absurd (by rcases hq with rfl | rfl | rfl <;> decide) h8

theorem c_X6_samplesOf {l : Launch} (hl : l.stackTraces = false) (K : jK) (F : GH) (h0 hs : Nat) (now past : Nat → Int32) (kept thrown : Int32) (drawn : Nat → Int32) (hash : Int64) (M : Nat) (hM : now 1 = nI M) (hM9 : M ≤ 8) (j : Nat) (hj : j < 12) (hr : rOk (now (33 + 14 * j + 0))) : Ct l K yX6_samplesOf cX6_samplesOf 3 (some .int) 1 22 0 0 [.ref h0, .int (nI j)] (gB F h0 (mC K h0 now past kept thrown drawn hash)) hs (pI (fun r G' _ => r = nI (sOf M (now (33 + 14 * j + 0))) ∧ G' = (gB F h0 (mC K h0 now past kept thrown drawn hash)))) jno := by
  rcases hr with ⟨r, h1, h4, h⟩ | ⟨q, hq, h⟩
  · rw [h, sOf_p h1 h4]
    exact c_X6_samplesOf_p hl K F h0 hs now past kept thrown drawn hash M hM hM9 j r hj h1 h4 h
  · rw [h, sOf_n hq]
    exact c_X6_samplesOf_n hl K F h0 hs now past kept thrown drawn hash M hM hM9 j q hj hq h
set_option maxRecDepth 100000 in
set_option maxHeartbeats 4000000 in
theorem c_X6_samplesPerMajor_t {l : Launch} (hl : l.stackTraces = false) (K : jK) (F : GH) (h0 hs : Nat) (now past : Nat → Int32) (kept thrown : Int32) (drawn : Nat → Int32) (hash : Int64) (M : Nat) (hM : now 1 = nI M) (hM9 : M ≤ 8) (n j : Nat) (hn : now 2 = nI n) (hn9 : n ≤ 12) (hj : j < n) (hr : rOk (now (33 + 14 * j + 0))) : Ct l K yX6_samplesPerMajor cX6_samplesPerMajor 2 (some .int) 2 44 0 0 [.ref h0, .int (nI j)] (gB F h0 (mC K h0 now past kept thrown drawn hash)) hs (pI (fun r G' _ => r = nI (sOf M (now (33 + 14 * j + 0))) ∧ G' = (gB F h0 (mC K h0 now past kept (nI 0) drawn hash)))) jno := by
  refine Ct.ofA hl (by decide) (Nat.le_of_ble_eq_true rfl) (L0 := [some (.ref h0), some (.int (nI j))]) (jL_of 0 rfl) ?_
  intro A E hE hQ hX hNm
  refine j_aload_n hE (i := 0) dX6_samplesPerMajor_0 rfl rfl ?_
  refine j_aload_n hE (i := 0) dX6_samplesPerMajor_1 rfl rfl ?_
  refine j_iload_n hE (i := 1) dX6_samplesPerMajor_2 rfl rfl ?_
  refine j_cVi hE mlX6_75 gB_0 (fun l hl => c_X6_isParameter_t hl K F h0 _ _ _ _ _ _ _ n _ hn hn9 hj) rfl rfl (Nat.le_of_ble_eq_true rfl) (by decide) (by decide) (by omega) (by omega) dX6_samplesPerMajor_3 (fun r G9 hs9 hp => ?_) (fun _ _ h => h.elim)
  obtain ⟨rfl, rfl⟩ := hp
  refine j_if_eqN hE (tgt := 13) dX6_samplesPerMajor_6 (by decide) (by omega) (fun h6 => ?_) (fun h6 => ?_)
  · exfalso; omega
  · refine j_iconst hE (v := nI 0) dX6_samplesPerMajor_9 (by decide) ?_
    refine j_goto hE (tgt := 14) dX6_samplesPerMajor_10 (by decide) ?_
    refine b_put3 hE flX6_19 rfl rfl dX6_samplesPerMajor_14 ?_
    refine j_aload_n hE (i := 0) dX6_samplesPerMajor_17 rfl rfl ?_
    refine j_get hE flX6_19 gB_0 rfl dX6_samplesPerMajor_18 ?_
    refine j_if_eqN hE (tgt := 28) dX6_samplesPerMajor_21 (by decide) (by omega) (fun h21 => ?_) (fun h21 => ?_)
    · refine j_aload_n hE (i := 0) dX6_samplesPerMajor_28 rfl rfl ?_
      refine j_iload_n hE (i := 1) dX6_samplesPerMajor_29 rfl rfl ?_
      refine j_cVi hE mlX6_54 gB_0 (fun l hl => c_X6_samplesOf hl K F h0 _ _ _ _ _ _ _ M hM hM9 _ (by omega) hr) rfl rfl (Nat.le_of_ble_eq_true rfl) (by decide) (by decide) (by omega) (by omega) dX6_samplesPerMajor_30 (fun r G9 hs9 hp => ?_) (fun _ _ h => h.elim)
      obtain ⟨rfl, rfl⟩ := hp
      refine j_iret hE hQ rfl (by omega) (by omega) dX6_samplesPerMajor_33 ?_
      exact ⟨_, rfl, rfl, rfl⟩
    · exfalso; omega

set_option maxRecDepth 100000 in
set_option maxHeartbeats 4000000 in
theorem c_X6_samplesPerMajor_f {l : Launch} (hl : l.stackTraces = false) (K : jK) (F : GH) (h0 hs : Nat) (now past : Nat → Int32) (kept thrown : Int32) (drawn : Nat → Int32) (hash : Int64) (n : Nat) (p : Int32) (hn : now 2 = nI n) (hn9 : n ≤ 12) (hj : ∀ j, j < n → p ≠ nI j) : Ct l K yX6_samplesPerMajor cX6_samplesPerMajor 2 (some .int) 2 44 0 0 [.ref h0, .int p] (gB F h0 (mC K h0 now past kept thrown drawn hash)) hs (pI (fun r G' _ => r = nI 0 ∧ G' = (gB F h0 (mC K h0 now past kept (nI 1) drawn hash)))) jno := by
  refine Ct.ofA hl (by decide) (Nat.le_of_ble_eq_true rfl) (L0 := [some (.ref h0), some (.int p)]) (jL_of 0 rfl) ?_
  intro A E hE hQ hX hNm
  refine j_aload_n hE (i := 0) dX6_samplesPerMajor_0 rfl rfl ?_
  refine j_aload_n hE (i := 0) dX6_samplesPerMajor_1 rfl rfl ?_
  refine j_iload_n hE (i := 1) dX6_samplesPerMajor_2 rfl rfl ?_
  refine j_cVi hE mlX6_75 gB_0 (fun l hl => c_X6_isParameter_f hl K F h0 _ _ _ _ _ _ _ n _ hn hn9 hj) rfl rfl (Nat.le_of_ble_eq_true rfl) (by decide) (by decide) (by omega) (by omega) dX6_samplesPerMajor_3 (fun r G9 hs9 hp => ?_) (fun _ _ h => h.elim)
  obtain ⟨rfl, rfl⟩ := hp
  refine j_if_eqN hE (tgt := 13) dX6_samplesPerMajor_6 (by decide) (by omega) (fun h6 => ?_) (fun h6 => ?_)
  · refine j_iconst hE (v := nI 1) dX6_samplesPerMajor_13 (by decide) ?_
    refine b_put3 hE flX6_19 rfl rfl dX6_samplesPerMajor_14 ?_
    refine j_aload_n hE (i := 0) dX6_samplesPerMajor_17 rfl rfl ?_
    refine j_get hE flX6_19 gB_0 rfl dX6_samplesPerMajor_18 ?_
    refine j_if_eqN hE (tgt := 28) dX6_samplesPerMajor_21 (by decide) (by omega) (fun h21 => ?_) (fun h21 => ?_)
    · exfalso; omega
    · refine j_iconst hE (v := nI 0) dX6_samplesPerMajor_24 (by decide) ?_
      refine j_goto hE (tgt := 33) dX6_samplesPerMajor_25 (by decide) ?_
      refine j_iret hE hQ rfl (by omega) (by omega) dX6_samplesPerMajor_33 ?_
      exact ⟨_, rfl, rfl, rfl⟩
  · exfalso; omega

def uRow (past : Nat → Int32) (k i : Nat) (p : Nat → Int32) : Nat → Int32 := upd p i (past (2377 * k + i))
set_option maxRecDepth 100000 in
set_option maxHeartbeats 4000000 in
theorem c_X6_undo_t {l : Launch} (hl : l.stackTraces = false) (K : jK) (F : GH) (h0 hs : Nat) (now past : Nat → Int32) (thrown : Int32) (k : Nat) (hk : k ≤ 4) (drawn : Nat → Int32) (hash : Int64) (hk1 : 1 ≤ k) : Ct l K yX6_undo cX6_undo 2 (some .int) 0 0 0 0 [.ref h0] (gB F h0 (mC K h0 now past (nI k) thrown drawn hash)) hs (pI (fun r G' _ => r = nI (k - 1) ∧ G' = (gB F h0 (mC K h0 (itr (uRow past (k - 1)) 2377 now) past (nI (k - 1)) (nI 0) drawn hash)))) jno := by
  refine Ct.ofA hl (by decide) (Nat.le_of_ble_eq_true rfl) (L0 := [some (.ref h0), none]) (jL_of 1 rfl) ?_
  intro A E hE hQ hX hNm
  refine j_aload_n hE (i := 0) dX6_undo_0 rfl rfl ?_
  refine j_aload_n hE (i := 0) dX6_undo_1 rfl rfl ?_
  refine j_get hE flX6_23 gB_0 rfl dX6_undo_2 ?_
  refine j_if_neN hE (tgt := 12) dX6_undo_5 (by decide) (by omega) (fun h5 => ?_) (fun h5 => ?_)
  · refine j_iconst hE (v := nI 0) dX6_undo_12 (by decide) ?_
    refine b_put3 hE flX6_19 rfl rfl dX6_undo_13 ?_
    refine j_aload_n hE (i := 0) dX6_undo_16 rfl rfl ?_
    refine j_get hE flX6_19 gB_0 rfl dX6_undo_17 ?_
    refine j_if_eqN hE (tgt := 25) dX6_undo_20 (by decide) (by omega) (fun h20 => ?_) (fun h20 => ?_)
    · refine j_aload_n hE (i := 0) dX6_undo_25 rfl rfl ?_
      refine j_dup hE dX6_undo_26 rfl ?_
      refine j_get hE flX6_23 gB_0 rfl dX6_undo_27 ?_
      refine j_iconst hE (v := nI 1) dX6_undo_30 (by decide) ?_
      refine j_isubN hE dX6_undo_31 (by omega) ?_
      refine b_put2 hE flX6_23 rfl rfl dX6_undo_32 ?_
      refine j_iconst hE (v := nI 0) dX6_undo_35 (by decide) ?_
      refine j_ist1 hE dX6_undo_36 rfl (by decide) rfl ?_
      have key37 : ∀ i, i ≤ 2377 → ∀ hs, J K A E 2 (gB F h0 (mC K h0 (itr (uRow past (k - 1)) i now) past (nI (k - 1)) (nI 0) drawn hash)) hs 0 0 37 [some (.ref h0), some (.int (nI i))] [] := by
        refine dloop (fun i => ∀ hs, J K A E 2 (gB F h0 (mC K h0 (itr (uRow past (k - 1)) i now) past (nI (k - 1)) (nI 0) drawn hash)) hs 0 0 37 [some (.ref h0), some (.int (nI i))] []) (2377) (fun i hi37 ih37 => ?_) ?_
        · intro hs
          refine j_iload_n hE (i := 1) dX6_undo_37 rfl rfl ?_
          refine j_sipush hE (v := nI 2377) dX6_undo_38 (by decide) ?_
          refine j_ic_geN hE (tgt := 71) dX6_undo_41 (by decide) (by omega) (by omega) (fun h41 => ?_) (fun h41 => ?_)
          · exfalso; omega
          · refine j_aload_n hE (i := 0) dX6_undo_44 rfl rfl ?_
            refine j_get hE flX6_7 gB_0 rfl dX6_undo_45 ?_
            refine j_iload_n hE (i := 1) dX6_undo_48 rfl rfl ?_
            refine j_aload_n hE (i := 0) dX6_undo_49 rfl rfl ?_
            refine j_get hE flX6_13 gB_0 rfl dX6_undo_50 ?_
            refine j_sipush hE (v := nI 2377) dX6_undo_53 (by decide) ?_
            refine j_aload_n hE (i := 0) dX6_undo_56 rfl rfl ?_
            refine j_get hE flX6_23 gB_0 rfl dX6_undo_57 ?_
            refine j_imulN hE dX6_undo_60 ?_
            refine j_iload_n hE (i := 1) dX6_undo_61 rfl rfl ?_
            refine j_iaddN hE dX6_undo_62 ?_
            refine j_iald hE gB_2 rfl (by omega) (by decide) dX6_undo_63 ?_
            refine b_ast1 hE rfl (by omega) (by decide) dX6_undo_64 ?_
            refine j_incN1 hE dX6_undo_65 (by decide) rfl ?_
            refine j_goto hE (tgt := 37) dX6_undo_68 (by decide) ?_
            exact ih37 _
        · intro hs
          refine j_iload_n hE (i := 1) dX6_undo_37 rfl rfl ?_
          refine j_sipush hE (v := nI 2377) dX6_undo_38 (by decide) ?_
          refine j_ic_geN hE (tgt := 71) dX6_undo_41 (by decide) (by omega) (by omega) (fun h41 => ?_) (fun h41 => ?_)
          · refine j_aload_n hE (i := 0) dX6_undo_71 rfl rfl ?_
            refine j_get hE flX6_23 gB_0 rfl dX6_undo_72 ?_
            refine j_iret hE hQ rfl (by omega) (by omega) dX6_undo_75 ?_
            exact ⟨_, rfl, rfl, rfl⟩
          · exfalso; omega
      exact key37 0 (by omega) _
    · exfalso; omega
  · exfalso; omega

set_option maxRecDepth 100000 in
set_option maxHeartbeats 4000000 in
theorem c_X6_undo_f {l : Launch} (hl : l.stackTraces = false) (K : jK) (F : GH) (h0 hs : Nat) (now past : Nat → Int32) (kept thrown : Int32) (drawn : Nat → Int32) (hash : Int64) : Ct l K yX6_undo cX6_undo 2 (some .int) 0 0 0 0 [.ref h0] (gB F h0 (mC K h0 now past (nI 0) thrown drawn hash)) hs (pI (fun r G' _ => r = nI 0 ∧ G' = (gB F h0 (mC K h0 now past (nI 0) (nI 1) drawn hash)))) jno := by
  refine Ct.ofA hl (by decide) (Nat.le_of_ble_eq_true rfl) (L0 := [some (.ref h0), none]) (jL_of 1 rfl) ?_
  intro A E hE hQ hX hNm
  refine j_aload_n hE (i := 0) dX6_undo_0 rfl rfl ?_
  refine j_aload_n hE (i := 0) dX6_undo_1 rfl rfl ?_
  refine j_get hE flX6_23 gB_0 rfl dX6_undo_2 ?_
  refine j_if_neN hE (tgt := 12) dX6_undo_5 (by decide) (by omega) (fun h5 => ?_) (fun h5 => ?_)
  · exfalso; omega
  · refine j_iconst hE (v := nI 1) dX6_undo_8 (by decide) ?_
    refine j_goto hE (tgt := 13) dX6_undo_9 (by decide) ?_
    refine b_put3 hE flX6_19 rfl rfl dX6_undo_13 ?_
    refine j_aload_n hE (i := 0) dX6_undo_16 rfl rfl ?_
    refine j_get hE flX6_19 gB_0 rfl dX6_undo_17 ?_
    refine j_if_eqN hE (tgt := 25) dX6_undo_20 (by decide) (by omega) (fun h20 => ?_) (fun h20 => ?_)
    · exfalso; omega
    · refine j_iconst hE (v := nI 0) dX6_undo_23 (by decide) ?_
      refine j_iret hE hQ rfl (by omega) (by omega) dX6_undo_24 ?_
      exact ⟨_, rfl, rfl, rfl⟩

set_option maxRecDepth 100000 in
set_option maxHeartbeats 4000000 in
theorem c_X6_ownerOf_t {l : Launch} (hl : l.stackTraces = false) (K : jK) (F : GH) (h0 hs : Nat) (now past : Nat → Int32) (kept thrown : Int32) (drawn : Nat → Int32) (hash : Int64) (W M : Nat) (hW : now 0 = nI W) (hM : now 1 = nI M) (hW9 : W ≤ 16) (hM9 : M ≤ 8) (f w : Nat) (hf : f < M) (hw : w < W) (hp : now 3 = nI 1) : Ct l K yX6_ownerOf cX6_ownerOf 3 (some .int) 1 22 0 0 [.ref h0, .int (nI f), .int (nI w)] (gB F h0 (mC K h0 now past kept thrown drawn hash)) hs (pI (fun r G' _ => r = now (201 + 16 * f + w) ∧ G' = (gB F h0 (mC K h0 now past kept (nI 0) drawn hash)))) jno := by
  refine Ct.ofA hl (by decide) (Nat.le_of_ble_eq_true rfl) (L0 := [some (.ref h0), some (.int (nI f)), some (.int (nI w))]) (jL_of 0 rfl) ?_
  intro A E hE hQ hX hNm
  refine j_aload_n hE (i := 0) dX6_ownerOf_0 rfl rfl ?_
  refine j_iload_n hE (i := 1) dX6_ownerOf_1 rfl rfl ?_
  refine j_iconst hE (v := nI 0) dX6_ownerOf_2 (by decide) ?_
  refine j_aload_n hE (i := 0) dX6_ownerOf_3 rfl rfl ?_
  refine j_get hE flX6_7 gB_0 rfl dX6_ownerOf_4 ?_
  refine j_iconst hE (v := nI 1) dX6_ownerOf_7 (by decide) ?_
  refine j_iald hE gB_1 rfl (by omega) (by decide) dX6_ownerOf_8 ?_
  rw [hM]
  refine j_iconst hE (v := nI 1) dX6_ownerOf_9 (by decide) ?_
  refine j_isub hE dX6_ownerOf_10 ?_
  refine j_cSi hE mlX6_26 (fun l hl => c_X6_in_t hl K _ _ _ _ _ (ix_t (by assumption) (by omega))) rfl rfl (Nat.le_of_ble_eq_true rfl) (by decide) (by decide) (by omega) (by omega) dX6_ownerOf_11 (fun r G9 hs9 hp => ?_) (fun _ _ h => h.elim)
  obtain ⟨rfl, rfl⟩ := hp
  refine j_if_eqN hE (tgt := 33) dX6_ownerOf_14 (by decide) (by omega) (fun h14 => ?_) (fun h14 => ?_)
  · exfalso; omega
  · refine j_iload_n hE (i := 2) dX6_ownerOf_17 rfl rfl ?_
    refine j_iconst hE (v := nI 0) dX6_ownerOf_18 (by decide) ?_
    refine j_aload_n hE (i := 0) dX6_ownerOf_19 rfl rfl ?_
    refine j_get hE flX6_7 gB_0 rfl dX6_ownerOf_20 ?_
    refine j_iconst hE (v := nI 0) dX6_ownerOf_23 (by decide) ?_
    refine j_iald hE gB_1 rfl (by omega) (by decide) dX6_ownerOf_24 ?_
    rw [hW]
    refine j_iconst hE (v := nI 1) dX6_ownerOf_25 (by decide) ?_
    refine j_isub hE dX6_ownerOf_26 ?_
    refine j_cSi hE mlX6_26 (fun l hl => c_X6_in_t hl K _ _ _ _ _ (ix_t (by assumption) (by omega))) rfl rfl (Nat.le_of_ble_eq_true rfl) (by decide) (by decide) (by omega) (by omega) dX6_ownerOf_27 (fun r G9 hs9 hp => ?_) (fun _ _ h => h.elim)
    obtain ⟨rfl, rfl⟩ := hp
    refine j_if_neN hE (tgt := 37) dX6_ownerOf_30 (by decide) (by omega) (fun h30 => ?_) (fun h30 => ?_)
    · refine j_aload_n hE (i := 0) dX6_ownerOf_37 rfl rfl ?_
      refine j_get hE flX6_7 gB_0 rfl dX6_ownerOf_38 ?_
      refine j_iconst hE (v := nI 3) dX6_ownerOf_41 (by decide) ?_
      refine j_iald hE gB_1 rfl (by omega) (by decide) dX6_ownerOf_42 ?_
      rw [hp]
      refine j_if_neN hE (tgt := 50) dX6_ownerOf_43 (by decide) (by omega) (fun h43 => ?_) (fun h43 => ?_)
      · refine j_iconst hE (v := nI 0) dX6_ownerOf_50 (by decide) ?_
        refine b_put3 hE flX6_19 rfl rfl dX6_ownerOf_51 ?_
        refine j_aload_n hE (i := 0) dX6_ownerOf_54 rfl rfl ?_
        refine j_get hE flX6_19 gB_0 rfl dX6_ownerOf_55 ?_
        refine j_if_eqN hE (tgt := 65) dX6_ownerOf_58 (by decide) (by omega) (fun h58 => ?_) (fun h58 => ?_)
        · refine j_aload_n hE (i := 0) dX6_ownerOf_65 rfl rfl ?_
          refine j_iload_n hE (i := 1) dX6_ownerOf_66 rfl rfl ?_
          refine j_iload_n hE (i := 2) dX6_ownerOf_67 rfl rfl ?_
          refine j_cVi hE mlX6_82 gB_0 (fun l hl => c_X6_ownerAt hl K F h0 _ _ _ _ _ _ _ _ _ (by omega)) rfl rfl (Nat.le_of_ble_eq_true rfl) (by decide) (by decide) (by omega) (by omega) dX6_ownerOf_68 (fun r G9 hs9 hp => ?_) (fun _ _ h => h.elim)
          obtain ⟨rfl, rfl⟩ := hp
          refine j_iret hE hQ rfl (by omega) (by omega) dX6_ownerOf_71 ?_
          exact ⟨_, rfl, rfl, rfl⟩
        · exfalso; omega
      · exfalso; omega
    · exfalso; omega

set_option maxRecDepth 100000 in
set_option maxHeartbeats 4000000 in
theorem c_X6_ownerOf_f2 {l : Launch} (hl : l.stackTraces = false) (K : jK) (F : GH) (h0 hs : Nat) (now past : Nat → Int32) (kept thrown : Int32) (drawn : Nat → Int32) (hash : Int64) (W M : Nat) (hW : now 0 = nI W) (hM : now 1 = nI M) (hW9 : W ≤ 16) (hM9 : M ≤ 8) (f w : Nat) (hf : f < M) (hw : w < W) (hp : now 3 = nI 0) : Ct l K yX6_ownerOf cX6_ownerOf 3 (some .int) 1 22 0 0 [.ref h0, .int (nI f), .int (nI w)] (gB F h0 (mC K h0 now past kept thrown drawn hash)) hs (pI (fun r G' _ => r = nI 0 ∧ G' = (gB F h0 (mC K h0 now past kept (nI 2) drawn hash)))) jno := by
  refine Ct.ofA hl (by decide) (Nat.le_of_ble_eq_true rfl) (L0 := [some (.ref h0), some (.int (nI f)), some (.int (nI w))]) (jL_of 0 rfl) ?_
  intro A E hE hQ hX hNm
  refine j_aload_n hE (i := 0) dX6_ownerOf_0 rfl rfl ?_
  refine j_iload_n hE (i := 1) dX6_ownerOf_1 rfl rfl ?_
  refine j_iconst hE (v := nI 0) dX6_ownerOf_2 (by decide) ?_
  refine j_aload_n hE (i := 0) dX6_ownerOf_3 rfl rfl ?_
  refine j_get hE flX6_7 gB_0 rfl dX6_ownerOf_4 ?_
  refine j_iconst hE (v := nI 1) dX6_ownerOf_7 (by decide) ?_
  refine j_iald hE gB_1 rfl (by omega) (by decide) dX6_ownerOf_8 ?_
  rw [hM]
  refine j_iconst hE (v := nI 1) dX6_ownerOf_9 (by decide) ?_
  refine j_isub hE dX6_ownerOf_10 ?_
  refine j_cSi hE mlX6_26 (fun l hl => c_X6_in_t hl K _ _ _ _ _ (ix_t (by assumption) (by omega))) rfl rfl (Nat.le_of_ble_eq_true rfl) (by decide) (by decide) (by omega) (by omega) dX6_ownerOf_11 (fun r G9 hs9 hp => ?_) (fun _ _ h => h.elim)
  obtain ⟨rfl, rfl⟩ := hp
  refine j_if_eqN hE (tgt := 33) dX6_ownerOf_14 (by decide) (by omega) (fun h14 => ?_) (fun h14 => ?_)
  · exfalso; omega
  · refine j_iload_n hE (i := 2) dX6_ownerOf_17 rfl rfl ?_
    refine j_iconst hE (v := nI 0) dX6_ownerOf_18 (by decide) ?_
    refine j_aload_n hE (i := 0) dX6_ownerOf_19 rfl rfl ?_
    refine j_get hE flX6_7 gB_0 rfl dX6_ownerOf_20 ?_
    refine j_iconst hE (v := nI 0) dX6_ownerOf_23 (by decide) ?_
    refine j_iald hE gB_1 rfl (by omega) (by decide) dX6_ownerOf_24 ?_
    rw [hW]
    refine j_iconst hE (v := nI 1) dX6_ownerOf_25 (by decide) ?_
    refine j_isub hE dX6_ownerOf_26 ?_
    refine j_cSi hE mlX6_26 (fun l hl => c_X6_in_t hl K _ _ _ _ _ (ix_t (by assumption) (by omega))) rfl rfl (Nat.le_of_ble_eq_true rfl) (by decide) (by decide) (by omega) (by omega) dX6_ownerOf_27 (fun r G9 hs9 hp => ?_) (fun _ _ h => h.elim)
    obtain ⟨rfl, rfl⟩ := hp
    refine j_if_neN hE (tgt := 37) dX6_ownerOf_30 (by decide) (by omega) (fun h30 => ?_) (fun h30 => ?_)
    · refine j_aload_n hE (i := 0) dX6_ownerOf_37 rfl rfl ?_
      refine j_get hE flX6_7 gB_0 rfl dX6_ownerOf_38 ?_
      refine j_iconst hE (v := nI 3) dX6_ownerOf_41 (by decide) ?_
      refine j_iald hE gB_1 rfl (by omega) (by decide) dX6_ownerOf_42 ?_
      rw [hp]
      refine j_if_neN hE (tgt := 50) dX6_ownerOf_43 (by decide) (by omega) (fun h43 => ?_) (fun h43 => ?_)
      · exfalso; omega
      · refine j_iconst hE (v := nI 2) dX6_ownerOf_46 (by decide) ?_
        refine j_goto hE (tgt := 51) dX6_ownerOf_47 (by decide) ?_
        refine b_put3 hE flX6_19 rfl rfl dX6_ownerOf_51 ?_
        refine j_aload_n hE (i := 0) dX6_ownerOf_54 rfl rfl ?_
        refine j_get hE flX6_19 gB_0 rfl dX6_ownerOf_55 ?_
        refine j_if_eqN hE (tgt := 65) dX6_ownerOf_58 (by decide) (by omega) (fun h58 => ?_) (fun h58 => ?_)
        · exfalso; omega
        · refine j_iconst hE (v := nI 0) dX6_ownerOf_61 (by decide) ?_
          refine j_goto hE (tgt := 71) dX6_ownerOf_62 (by decide) ?_
          refine j_iret hE hQ rfl (by omega) (by omega) dX6_ownerOf_71 ?_
          exact ⟨_, rfl, rfl, rfl⟩
    · exfalso; omega

set_option maxRecDepth 100000 in
set_option maxHeartbeats 4000000 in
theorem c_X6_ownerOf_f1a {l : Launch} (hl : l.stackTraces = false) (K : jK) (F : GH) (h0 hs : Nat) (now past : Nat → Int32) (kept thrown : Int32) (drawn : Nat → Int32) (hash : Int64) (W M : Nat) (hW : now 0 = nI W) (hM : now 1 = nI M) (hW9 : W ≤ 16) (hM9 : M ≤ 8) (p : Int32) (w : Int32) (hp : ∀ j, j < M → p ≠ nI j) : Ct l K yX6_ownerOf cX6_ownerOf 3 (some .int) 1 22 0 0 [.ref h0, .int p, .int w] (gB F h0 (mC K h0 now past kept thrown drawn hash)) hs (pI (fun r G' _ => r = nI 0 ∧ G' = (gB F h0 (mC K h0 now past kept (nI 1) drawn hash)))) jno := by
  refine Ct.ofA hl (by decide) (Nat.le_of_ble_eq_true rfl) (L0 := [some (.ref h0), some (.int p), some (.int w)]) (jL_of 0 rfl) ?_
  intro A E hE hQ hX hNm
  refine j_aload_n hE (i := 0) dX6_ownerOf_0 rfl rfl ?_
  refine j_iload_n hE (i := 1) dX6_ownerOf_1 rfl rfl ?_
  refine j_iconst hE (v := nI 0) dX6_ownerOf_2 (by decide) ?_
  refine j_aload_n hE (i := 0) dX6_ownerOf_3 rfl rfl ?_
  refine j_get hE flX6_7 gB_0 rfl dX6_ownerOf_4 ?_
  refine j_iconst hE (v := nI 1) dX6_ownerOf_7 (by decide) ?_
  refine j_iald hE gB_1 rfl (by omega) (by decide) dX6_ownerOf_8 ?_
  rw [hM]
  refine j_iconst hE (v := nI 1) dX6_ownerOf_9 (by decide) ?_
  refine j_isub hE dX6_ownerOf_10 ?_
  refine j_cSi hE mlX6_26 (fun l hl => c_X6_in_f hl K _ _ _ _ _ (ix_f hp (by omega))) rfl rfl (Nat.le_of_ble_eq_true rfl) (by decide) (by decide) (by omega) (by omega) dX6_ownerOf_11 (fun r G9 hs9 hp => ?_) (fun _ _ h => h.elim)
  obtain ⟨rfl, rfl⟩ := hp
  refine j_if_eqN hE (tgt := 33) dX6_ownerOf_14 (by decide) (by omega) (fun h14 => ?_) (fun h14 => ?_)
  · refine j_iconst hE (v := nI 1) dX6_ownerOf_33 (by decide) ?_
    refine j_goto hE (tgt := 51) dX6_ownerOf_34 (by decide) ?_
    refine b_put3 hE flX6_19 rfl rfl dX6_ownerOf_51 ?_
    refine j_aload_n hE (i := 0) dX6_ownerOf_54 rfl rfl ?_
    refine j_get hE flX6_19 gB_0 rfl dX6_ownerOf_55 ?_
    refine j_if_eqN hE (tgt := 65) dX6_ownerOf_58 (by decide) (by omega) (fun h58 => ?_) (fun h58 => ?_)
    · exfalso; omega
    · refine j_iconst hE (v := nI 0) dX6_ownerOf_61 (by decide) ?_
      refine j_goto hE (tgt := 71) dX6_ownerOf_62 (by decide) ?_
      refine j_iret hE hQ rfl (by omega) (by omega) dX6_ownerOf_71 ?_
      exact ⟨_, rfl, rfl, rfl⟩
  · exfalso; omega

set_option maxRecDepth 100000 in
set_option maxHeartbeats 4000000 in
theorem c_X6_ownerOf_f1b {l : Launch} (hl : l.stackTraces = false) (K : jK) (F : GH) (h0 hs : Nat) (now past : Nat → Int32) (kept thrown : Int32) (drawn : Nat → Int32) (hash : Int64) (W M : Nat) (hW : now 0 = nI W) (hM : now 1 = nI M) (hW9 : W ≤ 16) (hM9 : M ≤ 8) (f : Nat) (hf : f < M) (p : Int32) (hp : ∀ j, j < W → p ≠ nI j) : Ct l K yX6_ownerOf cX6_ownerOf 3 (some .int) 1 22 0 0 [.ref h0, .int (nI f), .int p] (gB F h0 (mC K h0 now past kept thrown drawn hash)) hs (pI (fun r G' _ => r = nI 0 ∧ G' = (gB F h0 (mC K h0 now past kept (nI 1) drawn hash)))) jno := by
  refine Ct.ofA hl (by decide) (Nat.le_of_ble_eq_true rfl) (L0 := [some (.ref h0), some (.int (nI f)), some (.int p)]) (jL_of 0 rfl) ?_
  intro A E hE hQ hX hNm
  refine j_aload_n hE (i := 0) dX6_ownerOf_0 rfl rfl ?_
  refine j_iload_n hE (i := 1) dX6_ownerOf_1 rfl rfl ?_
  refine j_iconst hE (v := nI 0) dX6_ownerOf_2 (by decide) ?_
  refine j_aload_n hE (i := 0) dX6_ownerOf_3 rfl rfl ?_
  refine j_get hE flX6_7 gB_0 rfl dX6_ownerOf_4 ?_
  refine j_iconst hE (v := nI 1) dX6_ownerOf_7 (by decide) ?_
  refine j_iald hE gB_1 rfl (by omega) (by decide) dX6_ownerOf_8 ?_
  rw [hM]
  refine j_iconst hE (v := nI 1) dX6_ownerOf_9 (by decide) ?_
  refine j_isub hE dX6_ownerOf_10 ?_
  refine j_cSi hE mlX6_26 (fun l hl => c_X6_in_t hl K _ _ _ _ _ (ix_t (by assumption) (by omega))) rfl rfl (Nat.le_of_ble_eq_true rfl) (by decide) (by decide) (by omega) (by omega) dX6_ownerOf_11 (fun r G9 hs9 hp => ?_) (fun _ _ h => h.elim)
  obtain ⟨rfl, rfl⟩ := hp
  refine j_if_eqN hE (tgt := 33) dX6_ownerOf_14 (by decide) (by omega) (fun h14 => ?_) (fun h14 => ?_)
  · exfalso; omega
  · refine j_iload_n hE (i := 2) dX6_ownerOf_17 rfl rfl ?_
    refine j_iconst hE (v := nI 0) dX6_ownerOf_18 (by decide) ?_
    refine j_aload_n hE (i := 0) dX6_ownerOf_19 rfl rfl ?_
    refine j_get hE flX6_7 gB_0 rfl dX6_ownerOf_20 ?_
    refine j_iconst hE (v := nI 0) dX6_ownerOf_23 (by decide) ?_
    refine j_iald hE gB_1 rfl (by omega) (by decide) dX6_ownerOf_24 ?_
    rw [hW]
    refine j_iconst hE (v := nI 1) dX6_ownerOf_25 (by decide) ?_
    refine j_isub hE dX6_ownerOf_26 ?_
    refine j_cSi hE mlX6_26 (fun l hl => c_X6_in_f hl K _ _ _ _ _ (ix_f hp (by omega))) rfl rfl (Nat.le_of_ble_eq_true rfl) (by decide) (by decide) (by omega) (by omega) dX6_ownerOf_27 (fun r G9 hs9 hp => ?_) (fun _ _ h => h.elim)
    obtain ⟨rfl, rfl⟩ := hp
    refine j_if_neN hE (tgt := 37) dX6_ownerOf_30 (by decide) (by omega) (fun h30 => ?_) (fun h30 => ?_)
    · exfalso; omega
    · refine j_iconst hE (v := nI 1) dX6_ownerOf_33 (by decide) ?_
      refine j_goto hE (tgt := 51) dX6_ownerOf_34 (by decide) ?_
      refine b_put3 hE flX6_19 rfl rfl dX6_ownerOf_51 ?_
      refine j_aload_n hE (i := 0) dX6_ownerOf_54 rfl rfl ?_
      refine j_get hE flX6_19 gB_0 rfl dX6_ownerOf_55 ?_
      refine j_if_eqN hE (tgt := 65) dX6_ownerOf_58 (by decide) (by omega) (fun h58 => ?_) (fun h58 => ?_)
      · exfalso; omega
      · refine j_iconst hE (v := nI 0) dX6_ownerOf_61 (by decide) ?_
        refine j_goto hE (tgt := 71) dX6_ownerOf_62 (by decide) ?_
        refine j_iret hE hQ rfl (by omega) (by omega) dX6_ownerOf_71 ?_
        exact ⟨_, rfl, rfl, rfl⟩

