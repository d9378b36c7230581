/-! ===== the reference: what is kept, undone; loops that copy ===== -/
def itr {σ : Type} (f : Nat → σ → σ) : Nat → σ → σ
  | 0, s => s
  | n + 1, s => f n (itr f n s)
theorem itr_0 {σ : Type} (f : Nat → σ → σ) (s : σ) : itr f 0 s = s := rfl
theorem itr_s {σ : Type} (f : Nat → σ → σ) (n : Nat) (s : σ) : itr f (n + 1) s = f n (itr f n s) := rfl
def kShift (i : Nat) (p : Nat → Int32) : Nat → Int32 := upd p i (p (i + 2377))
def kRow (now : Nat → Int32) (k i : Nat) (p : Nat → Int32) : Nat → Int32 := upd p (2377 * k + i) (now i)
/-- what keep() makes of the past: k states were kept -/
def mKeep (now past : Nat → Int32) (k : Nat) : Nat → Int32 := if k = 4 then itr (kRow now 3) 2377 (itr kShift 7131 past) else itr (kRow now k) 2377 past
def mKept (k : Nat) : Nat := if k = 4 then 4 else k + 1
set_option maxRecDepth 100000 in
set_option maxHeartbeats 4000000 in
theorem c_X6_keep {l : Launch} (hl : l.stackTraces = false) (K : jK) (F : GH) (h0 hs : Nat) (now past : Nat → Int32) (thrown : Int32) (k : Nat) (hk : k ≤ 4) (drawn : Nat → Int32) (hash : Int64) : Ct l K yX6_keep cX6_keep 2 none 0 0 0 0 [.ref h0] (gB F h0 (mC K h0 now past (nI k) thrown drawn hash)) hs (pV (fun G' _ => G' = (gB F h0 (mC K h0 now (mKeep now past k) (nI (mKept k)) thrown drawn hash)))) jno := by
  refine Ct.ofA hl (by decide) (Nat.le_of_ble_eq_true rfl) (L0 := [some (.ref h0), none]) (jL_of 1 rfl) ?_
  intro A E hE hQ hX hNm
  refine j_aload_n hE (i := 0) dX6_keep_0 rfl rfl ?_
  refine j_get hE flX6_23 gB_0 rfl dX6_keep_1 ?_
  refine j_iconst hE (v := nI 4) dX6_keep_4 (by decide) ?_
  refine j_ic_neN hE (tgt := 49) dX6_keep_5 (by decide) (by omega) (by omega) (fun h5 => ?_) (fun h5 => ?_)
  · obtain ⟨p9, hp9⟩ : ∃ p9, p9 = past := ⟨_, rfl⟩
    obtain ⟨k9, hk9⟩ : ∃ k9, k9 = k := ⟨_, rfl⟩
    rw [← hp9, ← hk9]
    have hk4 : k9 ≤ 3 := by omega
    have hq : mKeep now past k = itr (kRow now k9) 2377 p9 ∧ mKept k = k9 + 1 := by
      subst hp9; subst hk9
      exact ⟨if_neg (by omega), if_neg (by omega)⟩
    refine j_iconst hE (v := nI 0) dX6_keep_49 (by decide) ?_
    refine j_ist1 hE dX6_keep_50 rfl (by decide) rfl ?_
    have key51 : ∀ i, i ≤ 2377 → ∀ hs, J K A E 2 (gB F h0 (mC K h0 now (itr (kRow now k9) i p9) (nI k9) thrown drawn hash)) hs 0 0 51 [some (.ref h0), some (.int (nI i))] [] := by
      refine dloop (fun i => ∀ hs, J K A E 2 (gB F h0 (mC K h0 now (itr (kRow now k9) i p9) (nI k9) thrown drawn hash)) hs 0 0 51 [some (.ref h0), some (.int (nI i))] []) (2377) (fun i hi51 ih51 => ?_) ?_
      · intro hs
        refine j_iload_n hE (i := 1) dX6_keep_51 rfl rfl ?_
        refine j_sipush hE (v := nI 2377) dX6_keep_52 (by decide) ?_
        refine j_ic_geN hE (tgt := 85) dX6_keep_55 (by decide) (by omega) (by omega) (fun h55 => ?_) (fun h55 => ?_)
        · exfalso; omega
        · refine j_aload_n hE (i := 0) dX6_keep_58 rfl rfl ?_
          refine j_get hE flX6_13 gB_0 rfl dX6_keep_59 ?_
          refine j_sipush hE (v := nI 2377) dX6_keep_62 (by decide) ?_
          refine j_aload_n hE (i := 0) dX6_keep_65 rfl rfl ?_
          refine j_get hE flX6_23 gB_0 rfl dX6_keep_66 ?_
          refine j_imulN hE dX6_keep_69 ?_
          refine j_iload_n hE (i := 1) dX6_keep_70 rfl rfl ?_
          refine j_iaddN hE dX6_keep_71 ?_
          refine j_aload_n hE (i := 0) dX6_keep_72 rfl rfl ?_
          refine j_get hE flX6_7 gB_0 rfl dX6_keep_73 ?_
          refine j_iload_n hE (i := 1) dX6_keep_76 rfl rfl ?_
          refine j_iald hE gB_1 rfl (by omega) (by decide) dX6_keep_77 ?_
          refine b_ast2 hE rfl (by omega) (by decide) dX6_keep_78 ?_
          refine j_incN1 hE dX6_keep_79 (by decide) rfl ?_
          refine j_goto hE (tgt := 51) dX6_keep_82 (by decide) ?_
          exact ih51 _
      · intro hs
        refine j_iload_n hE (i := 1) dX6_keep_51 rfl rfl ?_
        refine j_sipush hE (v := nI 2377) dX6_keep_52 (by decide) ?_
        refine j_ic_geN hE (tgt := 85) dX6_keep_55 (by decide) (by omega) (by omega) (fun h55 => ?_) (fun h55 => ?_)
        · refine j_aload_n hE (i := 0) dX6_keep_85 rfl rfl ?_
          refine j_dup hE dX6_keep_86 rfl ?_
          refine j_get hE flX6_23 gB_0 rfl dX6_keep_87 ?_
          refine j_iconst hE (v := nI 1) dX6_keep_90 (by decide) ?_
          refine j_iaddN hE dX6_keep_91 ?_
          refine b_put2 hE flX6_23 rfl rfl dX6_keep_92 ?_
          refine j_vret hE hQ (by omega) (by omega) dX6_keep_95 ?_
          exact ⟨rfl, by rw [hq.1, hq.2]⟩
        · exfalso; omega
    exact key51 0 (by omega) _
  · subst h5
    refine j_iconst hE (v := nI 0) dX6_keep_8 (by decide) ?_
    refine j_ist1 hE dX6_keep_9 rfl (by decide) rfl ?_
    have key10 : ∀ i, i ≤ 7131 → ∀ hs, J K A E 2 (gB F h0 (mC K h0 now (itr kShift i past) (nI 4) thrown drawn hash)) hs 0 0 10 [some (.ref h0), some (.int (nI i))] [] := by
      refine dloop (fun i => ∀ hs, J K A E 2 (gB F h0 (mC K h0 now (itr kShift i past) (nI 4) thrown drawn hash)) hs 0 0 10 [some (.ref h0), some (.int (nI i))] []) (7131) (fun i hi10 ih10 => ?_) ?_
      · intro hs
        refine j_iload_n hE (i := 1) dX6_keep_10 rfl rfl ?_
        refine j_sipush hE (v := nI 7131) dX6_keep_11 (by decide) ?_
        refine j_ic_geN hE (tgt := 39) dX6_keep_14 (by decide) (by omega) (by omega) (fun h14 => ?_) (fun h14 => ?_)
        · exfalso; omega
        · refine j_aload_n hE (i := 0) dX6_keep_17 rfl rfl ?_
          refine j_get hE flX6_13 gB_0 rfl dX6_keep_18 ?_
          refine j_iload_n hE (i := 1) dX6_keep_21 rfl rfl ?_
          refine j_aload_n hE (i := 0) dX6_keep_22 rfl rfl ?_
          refine j_get hE flX6_13 gB_0 rfl dX6_keep_23 ?_
          refine j_iload_n hE (i := 1) dX6_keep_26 rfl rfl ?_
          refine j_sipush hE (v := nI 2377) dX6_keep_27 (by decide) ?_
          refine j_iaddN hE dX6_keep_30 ?_
          refine j_iald hE gB_2 rfl (by omega) (by decide) dX6_keep_31 ?_
          refine b_ast2 hE rfl (by omega) (by decide) dX6_keep_32 ?_
          refine j_incN1 hE dX6_keep_33 (by decide) rfl ?_
          refine j_goto hE (tgt := 10) dX6_keep_36 (by decide) ?_
          exact ih10 _
      · intro hs
        refine j_iload_n hE (i := 1) dX6_keep_10 rfl rfl ?_
        refine j_sipush hE (v := nI 7131) dX6_keep_11 (by decide) ?_
        refine j_ic_geN hE (tgt := 39) dX6_keep_14 (by decide) (by omega) (by omega) (fun h14 => ?_) (fun h14 => ?_)
        · refine j_aload_n hE (i := 0) dX6_keep_39 rfl rfl ?_
          refine j_dup hE dX6_keep_40 rfl ?_
          refine j_get hE flX6_23 gB_0 rfl dX6_keep_41 ?_
          refine j_iconst hE (v := nI 1) dX6_keep_44 (by decide) ?_
          refine j_isubN hE dX6_keep_45 (by omega) ?_
          obtain ⟨p9, hp9⟩ : ∃ p9, p9 = itr kShift 7131 past := ⟨_, rfl⟩
          obtain ⟨k9, hk9⟩ : ∃ k9, k9 = 4 - 1 := ⟨_, rfl⟩
          rw [← hp9, ← hk9]
          have hk4 : k9 ≤ 3 := by omega
          have hq : mKeep now past 4 = itr (kRow now k9) 2377 p9 ∧ mKept 4 = k9 + 1 := by
            subst hp9; subst hk9
            exact ⟨rfl, rfl⟩
          refine b_put2 hE flX6_23 rfl rfl dX6_keep_46 ?_
          refine j_iconst hE (v := nI 0) dX6_keep_49 (by decide) ?_
          refine j_ist1 hE dX6_keep_50 rfl (by decide) rfl ?_
          have key51 : ∀ i, i ≤ 2377 → ∀ hs, J K A E 2 (gB F h0 (mC K h0 now (itr (kRow now k9) i p9) (nI k9) thrown drawn hash)) hs 0 0 51 [some (.ref h0), some (.int (nI i))] [] := by
            refine dloop (fun i => ∀ hs, J K A E 2 (gB F h0 (mC K h0 now (itr (kRow now k9) i p9) (nI k9) thrown drawn hash)) hs 0 0 51 [some (.ref h0), some (.int (nI i))] []) (2377) (fun i hi51 ih51 => ?_) ?_
            · intro hs
              refine j_iload_n hE (i := 1) dX6_keep_51 rfl rfl ?_
              refine j_sipush hE (v := nI 2377) dX6_keep_52 (by decide) ?_
              refine j_ic_geN hE (tgt := 85) dX6_keep_55 (by decide) (by omega) (by omega) (fun h55 => ?_) (fun h55 => ?_)
              · exfalso; omega
              · refine j_aload_n hE (i := 0) dX6_keep_58 rfl rfl ?_
                refine j_get hE flX6_13 gB_0 rfl dX6_keep_59 ?_
                refine j_sipush hE (v := nI 2377) dX6_keep_62 (by decide) ?_
                refine j_aload_n hE (i := 0) dX6_keep_65 rfl rfl ?_
                refine j_get hE flX6_23 gB_0 rfl dX6_keep_66 ?_
                refine j_imulN hE dX6_keep_69 ?_
                refine j_iload_n hE (i := 1) dX6_keep_70 rfl rfl ?_
                refine j_iaddN hE dX6_keep_71 ?_
                refine j_aload_n hE (i := 0) dX6_keep_72 rfl rfl ?_
                refine j_get hE flX6_7 gB_0 rfl dX6_keep_73 ?_
                refine j_iload_n hE (i := 1) dX6_keep_76 rfl rfl ?_
                refine j_iald hE gB_1 rfl (by omega) (by decide) dX6_keep_77 ?_
                refine b_ast2 hE rfl (by omega) (by decide) dX6_keep_78 ?_
                refine j_incN1 hE dX6_keep_79 (by decide) rfl ?_
                refine j_goto hE (tgt := 51) dX6_keep_82 (by decide) ?_
                exact ih51 _
            · intro hs
              refine j_iload_n hE (i := 1) dX6_keep_51 rfl rfl ?_
              refine j_sipush hE (v := nI 2377) dX6_keep_52 (by decide) ?_
              refine j_ic_geN hE (tgt := 85) dX6_keep_55 (by decide) (by omega) (by omega) (fun h55 => ?_) (fun h55 => ?_)
              · refine j_aload_n hE (i := 0) dX6_keep_85 rfl rfl ?_
                refine j_dup hE dX6_keep_86 rfl ?_
                refine j_get hE flX6_23 gB_0 rfl dX6_keep_87 ?_
                refine j_iconst hE (v := nI 1) dX6_keep_90 (by decide) ?_
                refine j_iaddN hE dX6_keep_91 ?_
                refine b_put2 hE flX6_23 rfl rfl dX6_keep_92 ?_
                refine j_vret hE hQ (by omega) (by omega) dX6_keep_95 ?_
                exact ⟨rfl, by rw [hq.1, hq.2]⟩
              · exfalso; omega
          exact key51 0 (by omega) _
        · exfalso; omega
    exact key10 0 (by omega) _

