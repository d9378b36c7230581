/-! ===== the class: the layout ===== -/
abbrev lyC (K : jK) (h w m : Nat) (pl : Bool) (tk : Nat) (ow : Nat → Int32) : List va_E := [.inr (1, [.int (nI w), .int (nI m), .int (jb pl), .int (nI tk), .ref (h + 1)]), iA K 128 ow]
theorem frI_t {d : Nat → Int32} {col f s : Nat} : ∀ {n : Nat}, frI d col f s n = true → ∀ i, i < n → d (16 * (f + i * s) + 3 + col) = -1
  | 0, _, i, h => by omega
  | n + 1, h, i, hi => by
    simp only [frI, Bool.and_eq_true, decide_eq_true_eq] at h
    by_cases e : i = n
    · subst e; exact h.2
    · exact frI_t h.1 i (by omega)
theorem frI_f {d : Nat → Int32} {col f s : Nat} : ∀ {n : Nat}, frI d col f s n = false → ∃ i, i < n ∧ ¬ d (16 * (f + i * s) + 3 + col) = -1 ∧ ∀ i', i' < i → d (16 * (f + i' * s) + 3 + col) = -1
  | 0, h => by simp [frI] at h
  | n + 1, h => by
    by_cases h1 : frI d col f s n = true
    · refine ⟨n, by omega, fun q => ?_, frI_t h1⟩
      simp [frI, h1, q] at h
    · obtain ⟨i, q1, q2, q3⟩ := frI_f (Bool.eq_false_iff.mpr h1)
      exact ⟨i, by omega, q2, q3⟩
theorem manyI_t {d : Nat → Int32} {M g c : Nat} : ∀ {n : Nat}, manyI d M g c n = true → ∀ i, i < n → frI d (c + i * g) 0 1 M = true
  | 0, _, i, h => by omega
  | n + 1, h, i, hi => by
    simp only [manyI, Bool.and_eq_true] at h
    by_cases e : i = n
    · subst e; exact h.2
    · exact manyI_t h.1 i (by omega)
theorem manyI_f {d : Nat → Int32} {M g c : Nat} : ∀ {n : Nat}, manyI d M g c n = false → ∃ i, i < n ∧ frI d (c + i * g) 0 1 M = false ∧ ∀ i', i' < i → frI d (c + i' * g) 0 1 M = true
  | 0, h => by simp [manyI] at h
  | n + 1, h => by
    by_cases h1 : manyI d M g c n = true
    · refine ⟨n, by omega, ?_, manyI_t h1⟩
      simpa [manyI, h1] using h
    · obtain ⟨i, q1, q2, q3⟩ := manyI_f (Bool.eq_false_iff.mpr h1)
      exact ⟨i, by omega, q2, q3⟩
set_option maxRecDepth 100000 in
set_option maxHeartbeats 4000000 in
theorem c_X1_columns {l : Launch} (hl : l.stackTraces = false) (K : jK) (F : GH) (h hs w m : Nat) (pl : Bool) (tk : Nat) (ow : Nat → Int32) (hw6 : 6 ≤ w) (hw9 : w ≤ 16) (hm9 : m ≤ 8) : Ct l K yX1_columns cX1_columns 1 (some .int) 0 0 0 0 [.ref h] (gB F h (lyC K h w m pl tk ow)) hs (pI (fun z9 G' _ => z9 = nI (w - 3) ∧ G' = (gB F h (lyC K h w m pl tk ow)))) jno := by
  refine Ct.ofA hl (by decide) (Nat.le_of_ble_eq_true rfl) (L0 := [some (.ref h)]) (jL_of 0 rfl) ?_
  intro A E hE hQ hX hNm
  refine j_aload_n hE (i := 0) dX1_columns_0 rfl rfl ?_
  refine j_get hE flX1_9 gB_0 rfl dX1_columns_1 ?_
  refine j_iconst hE (v := nI 3) dX1_columns_4 (by decide) ?_
  refine j_isubN hE dX1_columns_5 (by omega) ?_
  refine j_iret hE hQ rfl (by omega) (by omega) dX1_columns_6 ?_
  exact ⟨_, rfl, rfl, rfl⟩

set_option maxRecDepth 100000 in
set_option maxHeartbeats 4000000 in
theorem c_X1_ownerAt {l : Launch} (hl : l.stackTraces = false) (K : jK) (F : GH) (h hs w m : Nat) (pl : Bool) (tk : Nat) (ow : Nat → Int32) (f k : Nat) (hf : f < 8) (hk : k < 16) : Ct l K yX1_ownerAt cX1_ownerAt 4 (some .int) 0 0 0 0 [.ref h, .int (nI f), .int (nI k)] (gB F h (lyC K h w m pl tk ow)) hs (pI (fun z9 G' _ => z9 = ow (16 * f + k) ∧ G' = (gB F h (lyC K h w m pl tk ow)))) jno := by
  refine Ct.ofA hl (by decide) (Nat.le_of_ble_eq_true rfl) (L0 := [some (.ref h), some (.int (nI f)), some (.int (nI k)), none]) (jL_of 1 rfl) ?_
  intro A E hE hQ hX hNm
  refine j_iload_n hE (i := 1) dX1_ownerAt_0 rfl rfl ?_
  refine j_bipush hE (v := nI 16) dX1_ownerAt_1 (by decide) ?_
  refine j_imulN hE dX1_ownerAt_3 ?_
  refine j_iload_n hE (i := 2) dX1_ownerAt_4 rfl rfl ?_
  refine j_iaddN hE dX1_ownerAt_5 ?_
  refine j_ist3 hE dX1_ownerAt_6 rfl (by decide) rfl ?_
  refine j_iload_n hE (i := 3) dX1_ownerAt_7 rfl rfl ?_
  refine j_if_lt hE (tgt := 29) dX1_ownerAt_8 (by decide) (fun h8 => ?_) (fun h8 => ?_)
  · exact absurd h8 (nI_pos (by omega))
  · refine j_iload_n hE (i := 3) dX1_ownerAt_11 rfl rfl ?_
    refine j_aload_n hE (i := 0) dX1_ownerAt_12 rfl rfl ?_
    refine j_get hE flX1_25 gB_0 rfl dX1_ownerAt_13 ?_
    refine j_alen hE gB_1 dX1_ownerAt_16 ?_
    refine j_ic_geN hE (tgt := 29) dX1_ownerAt_17 (by decide) (by omega) (by omega) (fun h17 => ?_) (fun h17 => ?_)
    · exfalso; omega
    · refine j_aload_n hE (i := 0) dX1_ownerAt_20 rfl rfl ?_
      refine j_get hE flX1_25 gB_0 rfl dX1_ownerAt_21 ?_
      refine j_iload_n hE (i := 3) dX1_ownerAt_24 rfl rfl ?_
      refine j_iald hE gB_1 rfl (by omega) (by decide) dX1_ownerAt_25 ?_
      refine j_goto hE (tgt := 30) dX1_ownerAt_26 (by decide) ?_
      refine j_iret hE hQ rfl (by omega) (by omega) dX1_ownerAt_30 ?_
      exact ⟨_, rfl, by rw [Nat.mul_comm 16 f], rfl⟩

set_option maxRecDepth 100000 in
set_option maxHeartbeats 4000000 in
theorem c_X1_giveWord {l : Launch} (hl : l.stackTraces = false) (K : jK) (F : GH) (h hs w m : Nat) (pl : Bool) (tk : Nat) (ow : Nat → Int32) (f k : Nat) (p : Int32) (hf : f < 8) (hk : k < 16) : Ct l K yX1_giveWord cX1_giveWord 5 none 0 0 0 0 [.ref h, .int (nI f), .int (nI k), .int p] (gB F h (lyC K h w m pl tk ow)) hs (pV (fun G' _ => G' = (gB F h (lyC K h w m pl (tk + 1) (upd ow (16 * f + k) p))))) jno := by
  refine Ct.ofA hl (by decide) (Nat.le_of_ble_eq_true rfl) (L0 := [some (.ref h), some (.int (nI f)), some (.int (nI k)), some (.int p), none]) (jL_of 1 rfl) ?_
  intro A E hE hQ hX hNm
  refine j_iload_n hE (i := 1) dX1_giveWord_0 rfl rfl ?_
  refine j_bipush hE (v := nI 16) dX1_giveWord_1 (by decide) ?_
  refine j_imulN hE dX1_giveWord_3 ?_
  refine j_iload_n hE (i := 2) dX1_giveWord_4 rfl rfl ?_
  refine j_iaddN hE dX1_giveWord_5 ?_
  refine j_ist4 hE dX1_giveWord_6 (by decide) rfl ?_
  refine j_iload hE dX1_giveWord_8 rfl ?_
  refine j_if_lt hE (tgt := 41) dX1_giveWord_10 (by decide) (fun h10 => ?_) (fun h10 => ?_)
  · exact absurd h10 (nI_pos (by omega))
  · refine j_iload hE dX1_giveWord_13 rfl ?_
    refine j_aload_n hE (i := 0) dX1_giveWord_15 rfl rfl ?_
    refine j_get hE flX1_25 gB_0 rfl dX1_giveWord_16 ?_
    refine j_alen hE gB_1 dX1_giveWord_19 ?_
    refine j_ic_geN hE (tgt := 41) dX1_giveWord_20 (by decide) (by omega) (by omega) (fun h20 => ?_) (fun h20 => ?_)
    · exfalso; omega
    · refine j_aload_n hE (i := 0) dX1_giveWord_23 rfl rfl ?_
      refine j_get hE flX1_25 gB_0 rfl dX1_giveWord_24 ?_
      refine j_iload hE dX1_giveWord_27 rfl ?_
      refine j_iload_n hE (i := 3) dX1_giveWord_29 rfl rfl ?_
      refine b_ast1 hE rfl (by omega) (by decide) dX1_giveWord_30 ?_
      refine j_aload_n hE (i := 0) dX1_giveWord_31 rfl rfl ?_
      refine j_dup hE dX1_giveWord_32 rfl ?_
      refine j_get hE flX1_22 gB_0 rfl dX1_giveWord_33 ?_
      refine j_iconst hE (v := nI 1) dX1_giveWord_36 (by decide) ?_
      refine j_iaddN hE dX1_giveWord_37 ?_
      refine b_put3 hE flX1_22 rfl rfl dX1_giveWord_38 ?_
      refine j_vret hE hQ (by omega) (by omega) dX1_giveWord_41 ?_
      exact ⟨rfl, by rw [Nat.mul_comm 16 f]⟩

set_option maxRecDepth 100000 in
set_option maxHeartbeats 4000000 in
theorem c_X1_minorsOf {l : Launch} (hl : l.stackTraces = false) (K : jK) (F : GH) (h hs w m : Nat) (pl : Bool) (tk : Nat) (ow : Nat → Int32) (hw6 : 6 ≤ w) (hw9 : w ≤ 16) (hm9 : m ≤ 8) (q : Nat) (hq : 1 ≤ q) (hq8 : q ≤ 8) : Ct l K yX1_minorsOf cX1_minorsOf 2 (some .int) 0 0 0 0 [.ref h, .int (nI q)] (gB F h (lyC K h w m pl tk ow)) hs (pI (fun z9 G' _ => z9 = nI (m / q) ∧ G' = (gB F h (lyC K h w m pl tk ow)))) jno := by
  refine Ct.ofA hl (by decide) (Nat.le_of_ble_eq_true rfl) (L0 := [some (.ref h), some (.int (nI q))]) (jL_of 0 rfl) ?_
  intro A E hE hQ hX hNm
  refine j_iload_n hE (i := 1) dX1_minorsOf_0 rfl rfl ?_
  refine j_if_leN hE (tgt := 13) dX1_minorsOf_1 (by decide) (by omega) (fun h1 => ?_) (fun h1 => ?_)
  · exfalso; omega
  · refine j_aload_n hE (i := 0) dX1_minorsOf_4 rfl rfl ?_
    refine j_get hE flX1_15 gB_0 rfl dX1_minorsOf_5 ?_
    refine j_iload_n hE (i := 1) dX1_minorsOf_8 rfl rfl ?_
    refine j_idivN hE dX1_minorsOf_9 (by omega) (by omega) (by omega) ?_
    refine j_goto hE (tgt := 14) dX1_minorsOf_10 (by decide) ?_
    refine j_iret hE hQ rfl (by omega) (by omega) dX1_minorsOf_14 ?_
    exact ⟨_, rfl, rfl, rfl⟩

set_option maxRecDepth 100000 in
set_option maxHeartbeats 4000000 in
theorem c_X1_isFree_t {l : Launch} (hl : l.stackTraces = false) (K : jK) (F : GH) (h hs w m : Nat) (pl : Bool) (tk : Nat) (ow : Nat → Int32) (hw6 : 6 ≤ w) (hw9 : w ≤ 16) (hm9 : m ≤ 8) (col f s N : Nat) (hN : m = N * s) (hf : f < s) (hs8 : s ≤ 8) (hcol : col < 13) (hok : ∀ i, i < N → ow (16 * (f + i * s) + 3 + col) = -1) : Ct l K yX1_isFree cX1_isFree 6 (some .boolean) 1 23 0 0 [.ref h, .int (nI col), .int (nI f), .int (nI s)] (gB F h (lyC K h w m pl tk ow)) hs (pI (fun z9 G' _ => z9 = nI 1 ∧ G' = (gB F h (lyC K h w m pl tk ow)))) jno := by
  refine Ct.ofA hl (by decide) (Nat.le_of_ble_eq_true rfl) (L0 := [some (.ref h), some (.int (nI col)), some (.int (nI f)), some (.int (nI s)), none, none]) (jL_of 2 rfl) ?_
  intro A E hE hQ hX hNm
  have hNd : m / s = N := by rw [hN]; exact Nat.mul_div_cancel _ (by omega)
  have hN8 : N ≤ 8 := by rw [← hNd]; exact Nat.le_trans (Nat.div_le_self _ _) hm9
  refine j_aload_n hE (i := 0) dX1_isFree_0 rfl rfl ?_
  refine j_iload_n hE (i := 3) dX1_isFree_1 rfl rfl ?_
  refine j_cVi hE mlX1_63 gB_0 (fun l hl => c_X1_minorsOf hl K F h _ w m _ _ _ hw6 hw9 hm9 _ (by omega) (by omega)) rfl rfl (Nat.le_of_ble_eq_true rfl) (by decide) (by decide) (by omega) (by omega) dX1_isFree_2 (fun r G9 hs9 hp => ?_) (fun _ _ h => h.elim)
  obtain ⟨rfl, rfl⟩ := hp
  rw [hNd]
  refine j_ist4 hE dX1_isFree_5 (by decide) rfl ?_
  refine j_iconst hE (v := nI 0) dX1_isFree_7 (by decide) ?_
  refine j_ist5 hE dX1_isFree_8 (by decide) rfl ?_
  have key10 : ∀ i, i ≤ N → ∀ hs, J K A E 6 (gB F h (lyC K h w m pl tk ow)) hs 0 0 10 [some (.ref h), some (.int (nI col)), some (.int (nI f)), some (.int (nI s)), some (.int (nI N)), some (.int (nI i))] [] := by
    refine dloop (fun i => ∀ hs, J K A E 6 (gB F h (lyC K h w m pl tk ow)) hs 0 0 10 [some (.ref h), some (.int (nI col)), some (.int (nI f)), some (.int (nI s)), some (.int (nI N)), some (.int (nI i))] []) (N) (fun i hi10 ih10 => ?_) ?_
    · intro hs
      have hlt := fr_lt hN hf (show i < N by omega)
      have hok9 := hok i hi10
      refine j_iload hE dX1_isFree_10 rfl ?_
      refine j_iload hE dX1_isFree_12 rfl ?_
      refine j_ic_geN hE (tgt := 42) dX1_isFree_14 (by decide) (by omega) (by omega) (fun h14 => ?_) (fun h14 => ?_)
      · exfalso; omega
      · refine j_aload_n hE (i := 0) dX1_isFree_17 rfl rfl ?_
        refine j_iload_n hE (i := 2) dX1_isFree_18 rfl rfl ?_
        refine j_iload hE dX1_isFree_19 rfl ?_
        refine j_iload_n hE (i := 3) dX1_isFree_21 rfl rfl ?_
        refine j_imulN hE dX1_isFree_22 ?_
        refine j_iaddN hE dX1_isFree_23 ?_
        refine j_iconst hE (v := nI 3) dX1_isFree_24 (by decide) ?_
        refine j_iload_n hE (i := 1) dX1_isFree_25 rfl rfl ?_
        refine j_iaddN hE dX1_isFree_26 ?_
        refine j_cVi hE mlX1_67 gB_0 (fun l hl => c_X1_ownerAt hl K F h _ w m _ _ _ _ _ (by omega) (by omega)) rfl rfl (Nat.le_of_ble_eq_true rfl) (by decide) (by decide) (by omega) (by omega) dX1_isFree_27 (fun r G9 hs9 hp => ?_) (fun _ _ h => h.elim)
        obtain ⟨rfl, rfl⟩ := hp
        have e9 : 16 * (f + i * s) + (3 + col) = 16 * (f + i * s) + 3 + col := by omega
        rw [e9]
        refine j_iconst hE (v := -1) dX1_isFree_30 (by decide) ?_
        refine j_ic_eq hE (tgt := 36) dX1_isFree_31 (by decide) (fun h31 => ?_) (fun h31 => ?_)
        · refine j_incN5 hE dX1_isFree_36 (by decide) rfl ?_
          refine j_goto hE (tgt := 10) dX1_isFree_39 (by decide) ?_
          exact ih10 _
        · exact absurd hok9 h31
    · intro hs
      refine j_iload hE dX1_isFree_10 rfl ?_
      refine j_iload hE dX1_isFree_12 rfl ?_
      refine j_ic_geN hE (tgt := 42) dX1_isFree_14 (by decide) (by omega) (by omega) (fun h14 => ?_) (fun h14 => ?_)
      · refine j_iconst hE (v := nI 1) dX1_isFree_42 (by decide) ?_
        refine j_iret hE hQ rfl (by omega) (by omega) dX1_isFree_43 ?_
        exact ⟨_, rfl, rfl, rfl⟩
      · exfalso; omega
  exact key10 0 (by omega) _

set_option maxRecDepth 100000 in
set_option maxHeartbeats 4000000 in
theorem c_X1_isFree_f {l : Launch} (hl : l.stackTraces = false) (K : jK) (F : GH) (h hs w m : Nat) (pl : Bool) (tk : Nat) (ow : Nat → Int32) (hw6 : 6 ≤ w) (hw9 : w ≤ 16) (hm9 : m ≤ 8) (col f s N : Nat) (hN : m = N * s) (hf : f < s) (hs8 : s ≤ 8) (hcol : col < 13) (i0 : Nat) (hi0 : i0 < N) (hok : ∀ i, i < i0 → ow (16 * (f + i * s) + 3 + col) = -1) (hbad : ¬ ow (16 * (f + i0 * s) + 3 + col) = -1) : Ct l K yX1_isFree cX1_isFree 6 (some .boolean) 1 23 0 0 [.ref h, .int (nI col), .int (nI f), .int (nI s)] (gB F h (lyC K h w m pl tk ow)) hs (pI (fun z9 G' _ => z9 = nI 0 ∧ G' = (gB F h (lyC K h w m pl tk ow)))) jno := by
  refine Ct.ofA hl (by decide) (Nat.le_of_ble_eq_true rfl) (L0 := [some (.ref h), some (.int (nI col)), some (.int (nI f)), some (.int (nI s)), none, none]) (jL_of 2 rfl) ?_
  intro A E hE hQ hX hNm
  have hNd : m / s = N := by rw [hN]; exact Nat.mul_div_cancel _ (by omega)
  have hN8 : N ≤ 8 := by rw [← hNd]; exact Nat.le_trans (Nat.div_le_self _ _) hm9
  refine j_aload_n hE (i := 0) dX1_isFree_0 rfl rfl ?_
  refine j_iload_n hE (i := 3) dX1_isFree_1 rfl rfl ?_
  refine j_cVi hE mlX1_63 gB_0 (fun l hl => c_X1_minorsOf hl K F h _ w m _ _ _ hw6 hw9 hm9 _ (by omega) (by omega)) rfl rfl (Nat.le_of_ble_eq_true rfl) (by decide) (by decide) (by omega) (by omega) dX1_isFree_2 (fun r G9 hs9 hp => ?_) (fun _ _ h => h.elim)
  obtain ⟨rfl, rfl⟩ := hp
  rw [hNd]
  refine j_ist4 hE dX1_isFree_5 (by decide) rfl ?_
  refine j_iconst hE (v := nI 0) dX1_isFree_7 (by decide) ?_
  refine j_ist5 hE dX1_isFree_8 (by decide) rfl ?_
  have key10 : ∀ i, i ≤ i0 → ∀ hs, J K A E 6 (gB F h (lyC K h w m pl tk ow)) hs 0 0 10 [some (.ref h), some (.int (nI col)), some (.int (nI f)), some (.int (nI s)), some (.int (nI N)), some (.int (nI i))] [] := by
    refine dloop (fun i => ∀ hs, J K A E 6 (gB F h (lyC K h w m pl tk ow)) hs 0 0 10 [some (.ref h), some (.int (nI col)), some (.int (nI f)), some (.int (nI s)), some (.int (nI N)), some (.int (nI i))] []) (i0) (fun i hi10 ih10 => ?_) ?_
    · intro hs
      have hlt := fr_lt hN hf (show i < N by omega)
      have hok9 := hok i hi10
      refine j_iload hE dX1_isFree_10 rfl ?_
      refine j_iload hE dX1_isFree_12 rfl ?_
      refine j_ic_geN hE (tgt := 42) dX1_isFree_14 (by decide) (by omega) (by omega) (fun h14 => ?_) (fun h14 => ?_)
      · exfalso; omega
      · refine j_aload_n hE (i := 0) dX1_isFree_17 rfl rfl ?_
        refine j_iload_n hE (i := 2) dX1_isFree_18 rfl rfl ?_
        refine j_iload hE dX1_isFree_19 rfl ?_
        refine j_iload_n hE (i := 3) dX1_isFree_21 rfl rfl ?_
        refine j_imulN hE dX1_isFree_22 ?_
        refine j_iaddN hE dX1_isFree_23 ?_
        refine j_iconst hE (v := nI 3) dX1_isFree_24 (by decide) ?_
        refine j_iload_n hE (i := 1) dX1_isFree_25 rfl rfl ?_
        refine j_iaddN hE dX1_isFree_26 ?_
        refine j_cVi hE mlX1_67 gB_0 (fun l hl => c_X1_ownerAt hl K F h _ w m _ _ _ _ _ (by omega) (by omega)) rfl rfl (Nat.le_of_ble_eq_true rfl) (by decide) (by decide) (by omega) (by omega) dX1_isFree_27 (fun r G9 hs9 hp => ?_) (fun _ _ h => h.elim)
        obtain ⟨rfl, rfl⟩ := hp
        have e9 : 16 * (f + i * s) + (3 + col) = 16 * (f + i * s) + 3 + col := by omega
        rw [e9]
        refine j_iconst hE (v := -1) dX1_isFree_30 (by decide) ?_
        refine j_ic_eq hE (tgt := 36) dX1_isFree_31 (by decide) (fun h31 => ?_) (fun h31 => ?_)
        · refine j_incN5 hE dX1_isFree_36 (by decide) rfl ?_
          refine j_goto hE (tgt := 10) dX1_isFree_39 (by decide) ?_
          exact ih10 _
        · exact absurd hok9 h31
    · intro hs
      have hlt := fr_lt hN hf hi0
      refine j_iload hE dX1_isFree_10 rfl ?_
      refine j_iload hE dX1_isFree_12 rfl ?_
      refine j_ic_geN hE (tgt := 42) dX1_isFree_14 (by decide) (by omega) (by omega) (fun h14 => ?_) (fun h14 => ?_)
      · exfalso; omega
      · refine j_aload_n hE (i := 0) dX1_isFree_17 rfl rfl ?_
        refine j_iload_n hE (i := 2) dX1_isFree_18 rfl rfl ?_
        refine j_iload hE dX1_isFree_19 rfl ?_
        refine j_iload_n hE (i := 3) dX1_isFree_21 rfl rfl ?_
        refine j_imulN hE dX1_isFree_22 ?_
        refine j_iaddN hE dX1_isFree_23 ?_
        refine j_iconst hE (v := nI 3) dX1_isFree_24 (by decide) ?_
        refine j_iload_n hE (i := 1) dX1_isFree_25 rfl rfl ?_
        refine j_iaddN hE dX1_isFree_26 ?_
        refine j_cVi hE mlX1_67 gB_0 (fun l hl => c_X1_ownerAt hl K F h _ w m _ _ _ _ _ (by omega) (by omega)) rfl rfl (Nat.le_of_ble_eq_true rfl) (by decide) (by decide) (by omega) (by omega) dX1_isFree_27 (fun r G9 hs9 hp => ?_) (fun _ _ h => h.elim)
        obtain ⟨rfl, rfl⟩ := hp
        have e9 : 16 * (f + i0 * s) + (3 + col) = 16 * (f + i0 * s) + 3 + col := by omega
        rw [e9]
        refine j_iconst hE (v := -1) dX1_isFree_30 (by decide) ?_
        refine j_ic_eq hE (tgt := 36) dX1_isFree_31 (by decide) (fun h31 => ?_) (fun h31 => ?_)
        · exact absurd h31 hbad
        · refine j_iconst hE (v := nI 0) dX1_isFree_34 (by decide) ?_
          refine j_iret hE hQ rfl (by omega) (by omega) dX1_isFree_35 ?_
          exact ⟨_, rfl, rfl, rfl⟩
  exact key10 0 (by omega) _

theorem c_X1_isFree {l : Launch} (hl : l.stackTraces = false) (K : jK) (F : GH) (h hs w m : Nat) (pl : Bool) (tk : Nat) (ow : Nat → Int32) (hw6 : 6 ≤ w) (hw9 : w ≤ 16) (hm9 : m ≤ 8) (col f s N : Nat) (hN : m = N * s) (hf : f < s) (hs8 : s ≤ 8) (hcol : col < 13) : Ct l K yX1_isFree cX1_isFree 6 (some .boolean) 1 23 0 0 [.ref h, .int (nI col), .int (nI f), .int (nI s)] (gB F h (lyC K h w m pl tk ow)) hs (pI (fun z9 G' _ => z9 = jb (frI ow col f s N) ∧ G' = (gB F h (lyC K h w m pl tk ow)))) jno := by
  cases hq : frI ow col f s N with
  | true => exact c_X1_isFree_t hl K F h hs w m pl tk ow hw6 hw9 hm9 col f s N hN hf hs8 hcol (frI_t hq)
  | false =>
    obtain ⟨i0, q1, q2, q3⟩ := frI_f hq
    exact c_X1_isFree_f hl K F h hs w m pl tk ow hw6 hw9 hm9 col f s N hN hf hs8 hcol i0 q1 q3 q2
set_option maxRecDepth 100000 in
set_option maxHeartbeats 4000000 in
theorem c_X1_giveColumn {l : Launch} (hl : l.stackTraces = false) (K : jK) (F : GH) (h hs w m : Nat) (pl : Bool) (tk : Nat) (ow : Nat → Int32) (hw6 : 6 ≤ w) (hw9 : w ≤ 16) (hm9 : m ≤ 8) (col f s N : Nat) (hN : m = N * s) (hf : f < s) (hs8 : s ≤ 8) (hcol : col < 13) (p : Int32) : Ct l K yX1_giveColumn cX1_giveColumn 7 none 1 24 0 0 [.ref h, .int (nI col), .int (nI f), .int (nI s), .int p] (gB F h (lyC K h w m pl tk ow)) hs (pV (fun G' _ => G' = (gB F h (lyC K h w m pl (tk + N) (itr (tkS p col f s) N ow))))) jno := by
  refine Ct.ofA hl (by decide) (Nat.le_of_ble_eq_true rfl) (L0 := [some (.ref h), some (.int (nI col)), some (.int (nI f)), some (.int (nI s)), some (.int p), none, none]) (jL_of 2 rfl) ?_
  intro A E hE hQ hX hNm
  have hNd : m / s = N := by rw [hN]; exact Nat.mul_div_cancel _ (by omega)
  have hN8 : N ≤ 8 := by rw [← hNd]; exact Nat.le_trans (Nat.div_le_self _ _) hm9
  refine j_aload_n hE (i := 0) dX1_giveColumn_0 rfl rfl ?_
  refine j_iload_n hE (i := 3) dX1_giveColumn_1 rfl rfl ?_
  refine j_cVi hE mlX1_63 gB_0 (fun l hl => c_X1_minorsOf hl K F h _ w m _ _ _ hw6 hw9 hm9 _ (by omega) (by omega)) rfl rfl (Nat.le_of_ble_eq_true rfl) (by decide) (by decide) (by omega) (by omega) dX1_giveColumn_2 (fun r G9 hs9 hp => ?_) (fun _ _ h => h.elim)
  obtain ⟨rfl, rfl⟩ := hp
  rw [hNd]
  refine j_ist5 hE dX1_giveColumn_5 (by decide) rfl ?_
  refine j_iconst hE (v := nI 0) dX1_giveColumn_7 (by decide) ?_
  refine j_ist6 hE dX1_giveColumn_8 (by decide) rfl ?_
  have key10 : ∀ i, i ≤ N → ∀ hs, J K A E 7 (gB F h (lyC K h w m pl (tk + i) (itr (tkS p col f s) i ow))) hs 0 0 10 [some (.ref h), some (.int (nI col)), some (.int (nI f)), some (.int (nI s)), some (.int p), some (.int (nI N)), some (.int (nI i))] [] := by
    refine dloop (fun i => ∀ hs, J K A E 7 (gB F h (lyC K h w m pl (tk + i) (itr (tkS p col f s) i ow))) hs 0 0 10 [some (.ref h), some (.int (nI col)), some (.int (nI f)), some (.int (nI s)), some (.int p), some (.int (nI N)), some (.int (nI i))] []) (N) (fun i hi10 ih10 => ?_) ?_
    · intro hs
      have hlt := fr_lt hN hf hi10
      refine j_iload hE dX1_giveColumn_10 rfl ?_
      refine j_iload hE dX1_giveColumn_12 rfl ?_
      refine j_ic_geN hE (tgt := 38) dX1_giveColumn_14 (by decide) (by omega) (by omega) (fun h14 => ?_) (fun h14 => ?_)
      · exfalso; omega
      · refine j_aload_n hE (i := 0) dX1_giveColumn_17 rfl rfl ?_
        refine j_iload_n hE (i := 2) dX1_giveColumn_18 rfl rfl ?_
        refine j_iload hE dX1_giveColumn_19 rfl ?_
        refine j_iload_n hE (i := 3) dX1_giveColumn_21 rfl rfl ?_
        refine j_imulN hE dX1_giveColumn_22 ?_
        refine j_iaddN hE dX1_giveColumn_23 ?_
        refine j_iconst hE (v := nI 3) dX1_giveColumn_24 (by decide) ?_
        refine j_iload_n hE (i := 1) dX1_giveColumn_25 rfl rfl ?_
        refine j_iaddN hE dX1_giveColumn_26 ?_
        refine j_iload hE dX1_giveColumn_27 rfl ?_
        refine j_cVv hE mlX1_71 gB_0 (fun l hl => c_X1_giveWord hl K F h _ w m _ _ _ _ _ _ (by omega) (by omega)) rfl rfl (Nat.le_of_ble_eq_true rfl) (by decide) (by decide) (by omega) (by omega) dX1_giveColumn_29 (fun G9 hs9 hp => ?_) (fun _ _ h => h.elim)
        subst hp
        have e9 : 16 * (f + i * s) + (3 + col) = 16 * (f + i * s) + 3 + col := by omega
        rw [e9]
        refine j_incN6 hE dX1_giveColumn_32 (by decide) rfl ?_
        refine j_goto hE (tgt := 10) dX1_giveColumn_35 (by decide) ?_
        exact ih10 _
    · intro hs
      refine j_iload hE dX1_giveColumn_10 rfl ?_
      refine j_iload hE dX1_giveColumn_12 rfl ?_
      refine j_ic_geN hE (tgt := 38) dX1_giveColumn_14 (by decide) (by omega) (by omega) (fun h14 => ?_) (fun h14 => ?_)
      · refine j_vret hE hQ (by omega) (by omega) dX1_giveColumn_38 ?_
        exact ⟨rfl, rfl⟩
      · exfalso; omega
  exact key10 0 (by omega) _

set_option maxRecDepth 100000 in
set_option maxHeartbeats 4000000 in
theorem c_X1_areFree_t {l : Launch} (hl : l.stackTraces = false) (K : jK) (F : GH) (h hs w m : Nat) (pl : Bool) (tk : Nat) (ow : Nat → Int32) (hw6 : 6 ≤ w) (hw9 : w ≤ 16) (hm9 : m ≤ 8) (c g r : Nat) (hc : c < g) (hg : g * r ≤ w - 3) (hr4 : r ≤ 4) (hok : ∀ i, i < r → frI ow (c + i * g) 0 1 m = true) : Ct l K yX1_areFree cX1_areFree 5 (some .boolean) 2 48 0 0 [.ref h, .int (nI c), .int (nI g), .int (nI r)] (gB F h (lyC K h w m pl tk ow)) hs (pI (fun z9 G' _ => z9 = nI 1 ∧ G' = (gB F h (lyC K h w m pl tk ow)))) jno := by
  refine Ct.ofA hl (by decide) (Nat.le_of_ble_eq_true rfl) (L0 := [some (.ref h), some (.int (nI c)), some (.int (nI g)), some (.int (nI r)), none]) (jL_of 1 rfl) ?_
  intro A E hE hQ hX hNm
  refine j_iconst hE (v := nI 0) dX1_areFree_0 (by decide) ?_
  refine j_ist4 hE dX1_areFree_1 (by decide) rfl ?_
  have key3 : ∀ i, i ≤ r → ∀ hs, J K A E 5 (gB F h (lyC K h w m pl tk ow)) hs 0 0 3 [some (.ref h), some (.int (nI c)), some (.int (nI g)), some (.int (nI r)), some (.int (nI i))] [] := by
    refine dloop (fun i => ∀ hs, J K A E 5 (gB F h (lyC K h w m pl tk ow)) hs 0 0 3 [some (.ref h), some (.int (nI c)), some (.int (nI g)), some (.int (nI r)), some (.int (nI i))] []) (r) (fun i hi3 ih3 => ?_) ?_
    · intro hs
      have hok9 := hok i hi3
      refine j_iload hE dX1_areFree_3 rfl ?_
      refine j_iload_n hE (i := 3) dX1_areFree_5 rfl rfl ?_
      refine j_ic_geN hE (tgt := 32) dX1_areFree_6 (by decide) (by omega) (by omega) (fun h6 => ?_) (fun h6 => ?_)
      · exfalso; omega
      · refine j_aload_n hE (i := 0) dX1_areFree_9 rfl rfl ?_
        refine j_iload_n hE (i := 1) dX1_areFree_10 rfl rfl ?_
        refine j_iload hE dX1_areFree_11 rfl ?_
        refine j_iload_n hE (i := 2) dX1_areFree_13 rfl rfl ?_
        refine j_imulN hE dX1_areFree_14 ?_
        refine j_iaddN hE dX1_areFree_15 ?_
        refine j_iconst hE (v := nI 0) dX1_areFree_16 (by decide) ?_
        refine j_iconst hE (v := nI 1) dX1_areFree_17 (by decide) ?_
        refine j_cVi hE mlX1_60 gB_0 (fun l hl => c_X1_isFree hl K F h _ w m _ _ _ hw6 hw9 hm9 _ 0 1 m (Nat.mul_one m).symm (by omega) (by omega) (col_lt hc (by omega) hg |> fun q => by omega)) rfl rfl (Nat.le_of_ble_eq_true rfl) (by decide) (by decide) (by omega) (by omega) dX1_areFree_18 (fun r G9 hs9 hp => ?_) (fun _ _ h => h.elim)
        obtain ⟨rfl, rfl⟩ := hp
        refine j_if_ne hE (tgt := 26) dX1_areFree_21 (by decide) (fun h21 => ?_) (fun h21 => ?_)
        · refine j_incN4 hE dX1_areFree_26 (by decide) rfl ?_
          refine j_goto hE (tgt := 3) dX1_areFree_29 (by decide) ?_
          exact ih3 _
        · exact absurd (jb_eq h21) (by rw [hok9]; decide)
    · intro hs
      refine j_iload hE dX1_areFree_3 rfl ?_
      refine j_iload_n hE (i := 3) dX1_areFree_5 rfl rfl ?_
      refine j_ic_geN hE (tgt := 32) dX1_areFree_6 (by decide) (by omega) (by omega) (fun h6 => ?_) (fun h6 => ?_)
      · refine j_iconst hE (v := nI 1) dX1_areFree_32 (by decide) ?_
        refine j_iret hE hQ rfl (by omega) (by omega) dX1_areFree_33 ?_
        exact ⟨_, rfl, rfl, rfl⟩
      · exfalso; omega
  exact key3 0 (by omega) _

set_option maxRecDepth 100000 in
set_option maxHeartbeats 4000000 in
theorem c_X1_areFree_f {l : Launch} (hl : l.stackTraces = false) (K : jK) (F : GH) (h hs w m : Nat) (pl : Bool) (tk : Nat) (ow : Nat → Int32) (hw6 : 6 ≤ w) (hw9 : w ≤ 16) (hm9 : m ≤ 8) (c g r : Nat) (hc : c < g) (hg : g * r ≤ w - 3) (hr4 : r ≤ 4) (i0 : Nat) (hi0 : i0 < r) (hok : ∀ i, i < i0 → frI ow (c + i * g) 0 1 m = true) (hbad : frI ow (c + i0 * g) 0 1 m = false) : Ct l K yX1_areFree cX1_areFree 5 (some .boolean) 2 48 0 0 [.ref h, .int (nI c), .int (nI g), .int (nI r)] (gB F h (lyC K h w m pl tk ow)) hs (pI (fun z9 G' _ => z9 = nI 0 ∧ G' = (gB F h (lyC K h w m pl tk ow)))) jno := by
  refine Ct.ofA hl (by decide) (Nat.le_of_ble_eq_true rfl) (L0 := [some (.ref h), some (.int (nI c)), some (.int (nI g)), some (.int (nI r)), none]) (jL_of 1 rfl) ?_
  intro A E hE hQ hX hNm
  refine j_iconst hE (v := nI 0) dX1_areFree_0 (by decide) ?_
  refine j_ist4 hE dX1_areFree_1 (by decide) rfl ?_
  have key3 : ∀ i, i ≤ i0 → ∀ hs, J K A E 5 (gB F h (lyC K h w m pl tk ow)) hs 0 0 3 [some (.ref h), some (.int (nI c)), some (.int (nI g)), some (.int (nI r)), some (.int (nI i))] [] := by
    refine dloop (fun i => ∀ hs, J K A E 5 (gB F h (lyC K h w m pl tk ow)) hs 0 0 3 [some (.ref h), some (.int (nI c)), some (.int (nI g)), some (.int (nI r)), some (.int (nI i))] []) (i0) (fun i hi3 ih3 => ?_) ?_
    · intro hs
      have hok9 := hok i hi3
      refine j_iload hE dX1_areFree_3 rfl ?_
      refine j_iload_n hE (i := 3) dX1_areFree_5 rfl rfl ?_
      refine j_ic_geN hE (tgt := 32) dX1_areFree_6 (by decide) (by omega) (by omega) (fun h6 => ?_) (fun h6 => ?_)
      · exfalso; omega
      · refine j_aload_n hE (i := 0) dX1_areFree_9 rfl rfl ?_
        refine j_iload_n hE (i := 1) dX1_areFree_10 rfl rfl ?_
        refine j_iload hE dX1_areFree_11 rfl ?_
        refine j_iload_n hE (i := 2) dX1_areFree_13 rfl rfl ?_
        refine j_imulN hE dX1_areFree_14 ?_
        refine j_iaddN hE dX1_areFree_15 ?_
        refine j_iconst hE (v := nI 0) dX1_areFree_16 (by decide) ?_
        refine j_iconst hE (v := nI 1) dX1_areFree_17 (by decide) ?_
        refine j_cVi hE mlX1_60 gB_0 (fun l hl => c_X1_isFree hl K F h _ w m _ _ _ hw6 hw9 hm9 _ 0 1 m (Nat.mul_one m).symm (by omega) (by omega) (col_lt hc (by omega) hg |> fun q => by omega)) rfl rfl (Nat.le_of_ble_eq_true rfl) (by decide) (by decide) (by omega) (by omega) dX1_areFree_18 (fun r G9 hs9 hp => ?_) (fun _ _ h => h.elim)
        obtain ⟨rfl, rfl⟩ := hp
        refine j_if_ne hE (tgt := 26) dX1_areFree_21 (by decide) (fun h21 => ?_) (fun h21 => ?_)
        · refine j_incN4 hE dX1_areFree_26 (by decide) rfl ?_
          refine j_goto hE (tgt := 3) dX1_areFree_29 (by decide) ?_
          exact ih3 _
        · exact absurd (jb_eq h21) (by rw [hok9]; decide)
    · intro hs
      refine j_iload hE dX1_areFree_3 rfl ?_
      refine j_iload_n hE (i := 3) dX1_areFree_5 rfl rfl ?_
      refine j_ic_geN hE (tgt := 32) dX1_areFree_6 (by decide) (by omega) (by omega) (fun h6 => ?_) (fun h6 => ?_)
      · exfalso; omega
      · refine j_aload_n hE (i := 0) dX1_areFree_9 rfl rfl ?_
        refine j_iload_n hE (i := 1) dX1_areFree_10 rfl rfl ?_
        refine j_iload hE dX1_areFree_11 rfl ?_
        refine j_iload_n hE (i := 2) dX1_areFree_13 rfl rfl ?_
        refine j_imulN hE dX1_areFree_14 ?_
        refine j_iaddN hE dX1_areFree_15 ?_
        refine j_iconst hE (v := nI 0) dX1_areFree_16 (by decide) ?_
        refine j_iconst hE (v := nI 1) dX1_areFree_17 (by decide) ?_
        refine j_cVi hE mlX1_60 gB_0 (fun l hl => c_X1_isFree hl K F h _ w m _ _ _ hw6 hw9 hm9 _ 0 1 m (Nat.mul_one m).symm (by omega) (by omega) (col_lt hc (by omega) hg |> fun q => by omega)) rfl rfl (Nat.le_of_ble_eq_true rfl) (by decide) (by decide) (by omega) (by omega) dX1_areFree_18 (fun r G9 hs9 hp => ?_) (fun _ _ h => h.elim)
        obtain ⟨rfl, rfl⟩ := hp
        refine j_if_ne hE (tgt := 26) dX1_areFree_21 (by decide) (fun h21 => ?_) (fun h21 => ?_)
        · exact absurd (jb_ne h21) (by rw [hbad]; decide)
        · refine j_iconst hE (v := nI 0) dX1_areFree_24 (by decide) ?_
          refine j_iret hE hQ rfl (by omega) (by omega) dX1_areFree_25 ?_
          exact ⟨_, rfl, rfl, rfl⟩
  exact key3 0 (by omega) _

theorem c_X1_areFree {l : Launch} (hl : l.stackTraces = false) (K : jK) (F : GH) (h hs w m : Nat) (pl : Bool) (tk : Nat) (ow : Nat → Int32) (hw6 : 6 ≤ w) (hw9 : w ≤ 16) (hm9 : m ≤ 8) (c g r : Nat) (hc : c < g) (hg : g * r ≤ w - 3) (hr4 : r ≤ 4) : Ct l K yX1_areFree cX1_areFree 5 (some .boolean) 2 48 0 0 [.ref h, .int (nI c), .int (nI g), .int (nI r)] (gB F h (lyC K h w m pl tk ow)) hs (pI (fun z9 G' _ => z9 = jb (manyI ow m g c r) ∧ G' = (gB F h (lyC K h w m pl tk ow)))) jno := by
  cases hq : manyI ow m g c r with
  | true => exact c_X1_areFree_t hl K F h hs w m pl tk ow hw6 hw9 hm9 c g r hc hg hr4 (manyI_t hq)
  | false =>
    obtain ⟨i0, q1, q2, q3⟩ := manyI_f hq
    exact c_X1_areFree_f hl K F h hs w m pl tk ow hw6 hw9 hm9 c g r hc hg hr4 i0 q1 q3 q2
set_option maxRecDepth 100000 in
set_option maxHeartbeats 4000000 in
theorem c_X1_placeOften_t {l : Launch} (hl : l.stackTraces = false) (K : jK) (F : GH) (h hs w m : Nat) (pl : Bool) (tk : Nat) (ow : Nat → Int32) (hw6 : 6 ≤ w) (hw9 : w ≤ 16) (hm9 : m ≤ 8) (p r : Nat) (hr1 : 1 ≤ r) (hr4 : r ≤ 4) (hdiv : (w - 3) % r = 0) (c0 : Nat) (hc0 : c0 < (w - 3) / r) (hno : ∀ c, c < c0 → manyI ow m ((w - 3) / r) c r = false) (hyes : manyI ow m ((w - 3) / r) c0 r = true) : Ct l K yX1_placeOften cX1_placeOften 6 (some .boolean) 3 72 0 0 [.ref h, .int (nI p), .int (nI r)] (gB F h (lyC K h w m pl tk ow)) hs (pI (fun z9 G' _ => z9 = nI 1 ∧ G' = (gB F h (lyC K h w m pl (tk + r * m) (itr (tkM (nI p) m ((w - 3) / r) c0) r ow))))) jno := by
  refine Ct.ofA hl (by decide) (Nat.le_of_ble_eq_true rfl) (L0 := [some (.ref h), some (.int (nI p)), some (.int (nI r)), none, none, none]) (jL_of 3 rfl) ?_
  intro A E hE hQ hX hNm
  obtain ⟨g, hgd⟩ : ∃ g, g = (w - 3) / r := ⟨_, rfl⟩
  have hg : g * r ≤ w - 3 := by rw [hgd]; exact Nat.div_mul_le_self _ _
  have hg9 : g ≤ w - 3 := by rw [hgd]; exact Nat.div_le_self _ _
  have hm9' : (w - 3) % r < r := Nat.mod_lt _ (by omega)
  rw [← hgd] at hc0 hno hyes hQ
  refine j_iload_n hE (i := 2) dX1_placeOften_0 rfl rfl ?_
  refine j_if_leN hE (tgt := 13) dX1_placeOften_1 (by decide) (by omega) (fun h1 => ?_) (fun h1 => ?_)
  · exfalso; omega
  · refine j_aload_n hE (i := 0) dX1_placeOften_4 rfl rfl ?_
    refine j_cVi hE mlX1_48 gB_0 (fun l hl => c_X1_columns hl K F h _ w m _ _ _ hw6 hw9 hm9) rfl rfl (Nat.le_of_ble_eq_true rfl) (by decide) (by decide) (by omega) (by omega) dX1_placeOften_5 (fun r G9 hs9 hp => ?_) (fun _ _ h => h.elim)
    obtain ⟨rfl, rfl⟩ := hp
    refine j_iload_n hE (i := 2) dX1_placeOften_8 rfl rfl ?_
    refine j_iremN hE dX1_placeOften_9 (by omega) (by omega) (by omega) ?_
    refine j_if_eqN hE (tgt := 15) dX1_placeOften_10 (by decide) (by omega) (fun h10 => ?_) (fun h10 => ?_)
    · refine j_aload_n hE (i := 0) dX1_placeOften_15 rfl rfl ?_
      refine j_cVi hE mlX1_48 gB_0 (fun l hl => c_X1_columns hl K F h _ w m _ _ _ hw6 hw9 hm9) rfl rfl (Nat.le_of_ble_eq_true rfl) (by decide) (by decide) (by omega) (by omega) dX1_placeOften_16 (fun r G9 hs9 hp => ?_) (fun _ _ h => h.elim)
      obtain ⟨rfl, rfl⟩ := hp
      refine j_iload_n hE (i := 2) dX1_placeOften_19 rfl rfl ?_
      refine j_idivN hE dX1_placeOften_20 (by omega) (by omega) (by omega) ?_
      rw [← hgd]
      refine j_ist3 hE dX1_placeOften_21 rfl (by decide) rfl ?_
      refine j_iconst hE (v := nI 0) dX1_placeOften_22 (by decide) ?_
      refine j_ist4 hE dX1_placeOften_23 (by decide) rfl ?_
      have key25 : ∀ c, c ≤ c0 → ∀ hs, ∀ a5, J K A E 6 (gB F h (lyC K h w m pl tk ow)) hs 0 0 25 [some (.ref h), some (.int (nI p)), some (.int (nI r)), some (.int (nI g)), some (.int (nI c)), a5] [] := by
        refine dloop (fun c => ∀ hs, ∀ a5, J K A E 6 (gB F h (lyC K h w m pl tk ow)) hs 0 0 25 [some (.ref h), some (.int (nI p)), some (.int (nI r)), some (.int (nI g)), some (.int (nI c)), a5] []) (c0) (fun c hi25 ih25 => ?_) ?_
        · intro hs
          intro a5
          have hno9 := hno c hi25
          refine j_iload hE dX1_placeOften_25 rfl ?_
          refine j_iload_n hE (i := 3) dX1_placeOften_27 rfl rfl ?_
          refine j_ic_geN hE (tgt := 79) dX1_placeOften_28 (by decide) (by omega) (by omega) (fun h28 => ?_) (fun h28 => ?_)
          · exfalso; omega
          · refine j_aload_n hE (i := 0) dX1_placeOften_31 rfl rfl ?_
            refine j_iload hE dX1_placeOften_32 rfl ?_
            refine j_iload_n hE (i := 3) dX1_placeOften_34 rfl rfl ?_
            refine j_iload_n hE (i := 2) dX1_placeOften_35 rfl rfl ?_
            refine j_cVi hE mlX1_52 gB_0 (fun l hl => c_X1_areFree hl K F h _ w m _ _ _ hw6 hw9 hm9 _ _ _ (by omega) hg hr4) rfl rfl (Nat.le_of_ble_eq_true rfl) (by decide) (by decide) (by omega) (by omega) dX1_placeOften_36 (fun r G9 hs9 hp => ?_) (fun _ _ h => h.elim)
            obtain ⟨rfl, rfl⟩ := hp
            refine j_if_eq hE (tgt := 73) dX1_placeOften_39 (by decide) (fun h39 => ?_) (fun h39 => ?_)
            · refine j_incN4 hE dX1_placeOften_73 (by decide) rfl ?_
              refine j_goto hE (tgt := 25) dX1_placeOften_76 (by decide) ?_
              exact ih25 _ _
            · exact absurd (jb_ne h39) (by rw [hno9]; decide)
        · intro hs
          intro a5
          refine j_iload hE dX1_placeOften_25 rfl ?_
          refine j_iload_n hE (i := 3) dX1_placeOften_27 rfl rfl ?_
          refine j_ic_geN hE (tgt := 79) dX1_placeOften_28 (by decide) (by omega) (by omega) (fun h28 => ?_) (fun h28 => ?_)
          · exfalso; omega
          · refine j_aload_n hE (i := 0) dX1_placeOften_31 rfl rfl ?_
            refine j_iload hE dX1_placeOften_32 rfl ?_
            refine j_iload_n hE (i := 3) dX1_placeOften_34 rfl rfl ?_
            refine j_iload_n hE (i := 2) dX1_placeOften_35 rfl rfl ?_
            refine j_cVi hE mlX1_52 gB_0 (fun l hl => c_X1_areFree hl K F h _ w m _ _ _ hw6 hw9 hm9 _ _ _ (by omega) hg hr4) rfl rfl (Nat.le_of_ble_eq_true rfl) (by decide) (by decide) (by omega) (by omega) dX1_placeOften_36 (fun r G9 hs9 hp => ?_) (fun _ _ h => h.elim)
            obtain ⟨rfl, rfl⟩ := hp
            refine j_if_eq hE (tgt := 73) dX1_placeOften_39 (by decide) (fun h39 => ?_) (fun h39 => ?_)
            · exact absurd (jb_eq h39) (by rw [hyes]; decide)
            · refine j_iconst hE (v := nI 0) dX1_placeOften_42 (by decide) ?_
              refine j_ist5 hE dX1_placeOften_43 (by decide) rfl ?_
              have key45 : ∀ i, i ≤ r → ∀ hs, J K A E 6 (gB F h (lyC K h w m pl (tk + i * m) (itr (tkM (nI p) m g c0) i ow))) hs 0 0 45 [some (.ref h), some (.int (nI p)), some (.int (nI r)), some (.int (nI g)), some (.int (nI c0)), some (.int (nI i))] [] := by
                refine dloop (fun i => ∀ hs, J K A E 6 (gB F h (lyC K h w m pl (tk + i * m) (itr (tkM (nI p) m g c0) i ow))) hs 0 0 45 [some (.ref h), some (.int (nI p)), some (.int (nI r)), some (.int (nI g)), some (.int (nI c0)), some (.int (nI i))] []) (r) (fun i hi45 ih45 => ?_) ?_
                · intro hs
                  refine j_iload hE dX1_placeOften_45 rfl ?_
                  refine j_iload_n hE (i := 2) dX1_placeOften_47 rfl rfl ?_
                  refine j_ic_geN hE (tgt := 71) dX1_placeOften_48 (by decide) (by omega) (by omega) (fun h48 => ?_) (fun h48 => ?_)
                  · exfalso; omega
                  · refine j_aload_n hE (i := 0) dX1_placeOften_51 rfl rfl ?_
                    refine j_iload hE dX1_placeOften_52 rfl ?_
                    refine j_iload hE dX1_placeOften_54 rfl ?_
                    refine j_iload_n hE (i := 3) dX1_placeOften_56 rfl rfl ?_
                    refine j_imulN hE dX1_placeOften_57 ?_
                    refine j_iaddN hE dX1_placeOften_58 ?_
                    refine j_iconst hE (v := nI 0) dX1_placeOften_59 (by decide) ?_
                    refine j_iconst hE (v := nI 1) dX1_placeOften_60 (by decide) ?_
                    refine j_iload_n hE (i := 1) dX1_placeOften_61 rfl rfl ?_
                    refine j_cVv hE mlX1_56 gB_0 (fun l hl => c_X1_giveColumn hl K F h _ w m _ _ _ hw6 hw9 hm9 _ 0 1 m (Nat.mul_one m).symm (by omega) (by omega) (col_lt hc0 (by omega) hg |> fun q => by omega) _) rfl rfl (Nat.le_of_ble_eq_true rfl) (by decide) (by decide) (by omega) (by omega) dX1_placeOften_62 (fun G9 hs9 hp => ?_) (fun _ _ h => h.elim)
                    subst hp
                    refine j_incN5 hE dX1_placeOften_65 (by decide) rfl ?_
                    refine j_goto hE (tgt := 45) dX1_placeOften_68 (by decide) ?_
                    rw [show tk + i * m + m = tk + (i + 1) * m by rw [Nat.succ_mul]; omega]
                    exact ih45 _
                · intro hs
                  refine j_iload hE dX1_placeOften_45 rfl ?_
                  refine j_iload_n hE (i := 2) dX1_placeOften_47 rfl rfl ?_
                  refine j_ic_geN hE (tgt := 71) dX1_placeOften_48 (by decide) (by omega) (by omega) (fun h48 => ?_) (fun h48 => ?_)
                  · refine j_iconst hE (v := nI 1) dX1_placeOften_71 (by decide) ?_
                    refine j_iret hE hQ rfl (by omega) (by omega) dX1_placeOften_72 ?_
                    exact ⟨_, rfl, rfl, rfl⟩
                  · exfalso; omega
              have q9 := key45 0 (by omega)
              rw [Nat.zero_mul] at q9
              exact q9 _
      exact key25 0 (by omega) _ _
    · exfalso; omega

set_option maxRecDepth 100000 in
set_option maxHeartbeats 4000000 in
theorem c_X1_placeOften_f {l : Launch} (hl : l.stackTraces = false) (K : jK) (F : GH) (h hs w m : Nat) (pl : Bool) (tk : Nat) (ow : Nat → Int32) (hw6 : 6 ≤ w) (hw9 : w ≤ 16) (hm9 : m ≤ 8) (p r : Nat) (hr1 : 1 ≤ r) (hr4 : r ≤ 4) (hdiv : (w - 3) % r = 0) (hno : ∀ c, c < (w - 3) / r → manyI ow m ((w - 3) / r) c r = false) : Ct l K yX1_placeOften cX1_placeOften 6 (some .boolean) 3 72 0 0 [.ref h, .int (nI p), .int (nI r)] (gB F h (lyC K h w m pl tk ow)) hs (pI (fun z9 G' _ => z9 = nI 0 ∧ G' = (gB F h (lyC K h w m pl tk ow)))) jno := by
  refine Ct.ofA hl (by decide) (Nat.le_of_ble_eq_true rfl) (L0 := [some (.ref h), some (.int (nI p)), some (.int (nI r)), none, none, none]) (jL_of 3 rfl) ?_
  intro A E hE hQ hX hNm
  obtain ⟨g, hgd⟩ : ∃ g, g = (w - 3) / r := ⟨_, rfl⟩
  have hg : g * r ≤ w - 3 := by rw [hgd]; exact Nat.div_mul_le_self _ _
  have hg9 : g ≤ w - 3 := by rw [hgd]; exact Nat.div_le_self _ _
  have hm9' : (w - 3) % r < r := Nat.mod_lt _ (by omega)
  rw [← hgd] at hno
  refine j_iload_n hE (i := 2) dX1_placeOften_0 rfl rfl ?_
  refine j_if_leN hE (tgt := 13) dX1_placeOften_1 (by decide) (by omega) (fun h1 => ?_) (fun h1 => ?_)
  · exfalso; omega
  · refine j_aload_n hE (i := 0) dX1_placeOften_4 rfl rfl ?_
    refine j_cVi hE mlX1_48 gB_0 (fun l hl => c_X1_columns hl K F h _ w m _ _ _ hw6 hw9 hm9) rfl rfl (Nat.le_of_ble_eq_true rfl) (by decide) (by decide) (by omega) (by omega) dX1_placeOften_5 (fun r G9 hs9 hp => ?_) (fun _ _ h => h.elim)
    obtain ⟨rfl, rfl⟩ := hp
    refine j_iload_n hE (i := 2) dX1_placeOften_8 rfl rfl ?_
    refine j_iremN hE dX1_placeOften_9 (by omega) (by omega) (by omega) ?_
    refine j_if_eqN hE (tgt := 15) dX1_placeOften_10 (by decide) (by omega) (fun h10 => ?_) (fun h10 => ?_)
    · refine j_aload_n hE (i := 0) dX1_placeOften_15 rfl rfl ?_
      refine j_cVi hE mlX1_48 gB_0 (fun l hl => c_X1_columns hl K F h _ w m _ _ _ hw6 hw9 hm9) rfl rfl (Nat.le_of_ble_eq_true rfl) (by decide) (by decide) (by omega) (by omega) dX1_placeOften_16 (fun r G9 hs9 hp => ?_) (fun _ _ h => h.elim)
      obtain ⟨rfl, rfl⟩ := hp
      refine j_iload_n hE (i := 2) dX1_placeOften_19 rfl rfl ?_
      refine j_idivN hE dX1_placeOften_20 (by omega) (by omega) (by omega) ?_
      rw [← hgd]
      refine j_ist3 hE dX1_placeOften_21 rfl (by decide) rfl ?_
      refine j_iconst hE (v := nI 0) dX1_placeOften_22 (by decide) ?_
      refine j_ist4 hE dX1_placeOften_23 (by decide) rfl ?_
      have key25 : ∀ c, c ≤ g → ∀ hs, ∀ a5, J K A E 6 (gB F h (lyC K h w m pl tk ow)) hs 0 0 25 [some (.ref h), some (.int (nI p)), some (.int (nI r)), some (.int (nI g)), some (.int (nI c)), a5] [] := by
        refine dloop (fun c => ∀ hs, ∀ a5, J K A E 6 (gB F h (lyC K h w m pl tk ow)) hs 0 0 25 [some (.ref h), some (.int (nI p)), some (.int (nI r)), some (.int (nI g)), some (.int (nI c)), a5] []) (g) (fun c hi25 ih25 => ?_) ?_
        · intro hs
          intro a5
          have hno9 := hno c hi25
          refine j_iload hE dX1_placeOften_25 rfl ?_
          refine j_iload_n hE (i := 3) dX1_placeOften_27 rfl rfl ?_
          refine j_ic_geN hE (tgt := 79) dX1_placeOften_28 (by decide) (by omega) (by omega) (fun h28 => ?_) (fun h28 => ?_)
          · exfalso; omega
          · refine j_aload_n hE (i := 0) dX1_placeOften_31 rfl rfl ?_
            refine j_iload hE dX1_placeOften_32 rfl ?_
            refine j_iload_n hE (i := 3) dX1_placeOften_34 rfl rfl ?_
            refine j_iload_n hE (i := 2) dX1_placeOften_35 rfl rfl ?_
            refine j_cVi hE mlX1_52 gB_0 (fun l hl => c_X1_areFree hl K F h _ w m _ _ _ hw6 hw9 hm9 _ _ _ (by omega) hg hr4) rfl rfl (Nat.le_of_ble_eq_true rfl) (by decide) (by decide) (by omega) (by omega) dX1_placeOften_36 (fun r G9 hs9 hp => ?_) (fun _ _ h => h.elim)
            obtain ⟨rfl, rfl⟩ := hp
            refine j_if_eq hE (tgt := 73) dX1_placeOften_39 (by decide) (fun h39 => ?_) (fun h39 => ?_)
            · refine j_incN4 hE dX1_placeOften_73 (by decide) rfl ?_
              refine j_goto hE (tgt := 25) dX1_placeOften_76 (by decide) ?_
              exact ih25 _ _
            · exact absurd (jb_ne h39) (by rw [hno9]; decide)
        · intro hs
          intro a5
          refine j_iload hE dX1_placeOften_25 rfl ?_
          refine j_iload_n hE (i := 3) dX1_placeOften_27 rfl rfl ?_
          refine j_ic_geN hE (tgt := 79) dX1_placeOften_28 (by decide) (by omega) (by omega) (fun h28 => ?_) (fun h28 => ?_)
          · refine j_iconst hE (v := nI 0) dX1_placeOften_79 (by decide) ?_
            refine j_iret hE hQ rfl (by omega) (by omega) dX1_placeOften_80 ?_
            exact ⟨_, rfl, rfl, rfl⟩
          · exfalso; omega
      exact key25 0 (by omega) _ _
    · exfalso; omega

set_option maxRecDepth 100000 in
set_option maxHeartbeats 4000000 in
theorem c_X1_placeOften_d {l : Launch} (hl : l.stackTraces = false) (K : jK) (F : GH) (h hs w m : Nat) (pl : Bool) (tk : Nat) (ow : Nat → Int32) (hw6 : 6 ≤ w) (hw9 : w ≤ 16) (hm9 : m ≤ 8) (p r : Nat) (hr1 : 1 ≤ r) (hr4 : r ≤ 4) (hdiv : (w - 3) % r ≠ 0) : Ct l K yX1_placeOften cX1_placeOften 6 (some .boolean) 3 72 0 0 [.ref h, .int (nI p), .int (nI r)] (gB F h (lyC K h w m pl tk ow)) hs (pI (fun z9 G' _ => z9 = nI 0 ∧ G' = (gB F h (lyC K h w m pl tk ow)))) jno := by
  refine Ct.ofA hl (by decide) (Nat.le_of_ble_eq_true rfl) (L0 := [some (.ref h), some (.int (nI p)), some (.int (nI r)), none, none, none]) (jL_of 3 rfl) ?_
  intro A E hE hQ hX hNm
  obtain ⟨g, hgd⟩ : ∃ g, g = (w - 3) / r := ⟨_, rfl⟩
  have hg : g * r ≤ w - 3 := by rw [hgd]; exact Nat.div_mul_le_self _ _
  have hg9 : g ≤ w - 3 := by rw [hgd]; exact Nat.div_le_self _ _
  have hm9' : (w - 3) % r < r := Nat.mod_lt _ (by omega)
  refine j_iload_n hE (i := 2) dX1_placeOften_0 rfl rfl ?_
  refine j_if_leN hE (tgt := 13) dX1_placeOften_1 (by decide) (by omega) (fun h1 => ?_) (fun h1 => ?_)
  · exfalso; omega
  · refine j_aload_n hE (i := 0) dX1_placeOften_4 rfl rfl ?_
    refine j_cVi hE mlX1_48 gB_0 (fun l hl => c_X1_columns hl K F h _ w m _ _ _ hw6 hw9 hm9) rfl rfl (Nat.le_of_ble_eq_true rfl) (by decide) (by decide) (by omega) (by omega) dX1_placeOften_5 (fun r G9 hs9 hp => ?_) (fun _ _ h => h.elim)
    obtain ⟨rfl, rfl⟩ := hp
    refine j_iload_n hE (i := 2) dX1_placeOften_8 rfl rfl ?_
    refine j_iremN hE dX1_placeOften_9 (by omega) (by omega) (by omega) ?_
    refine j_if_eqN hE (tgt := 15) dX1_placeOften_10 (by decide) (by omega) (fun h10 => ?_) (fun h10 => ?_)
    · exfalso; omega
    · refine j_iconst hE (v := nI 0) dX1_placeOften_13 (by decide) ?_
      refine j_iret hE hQ rfl (by omega) (by omega) dX1_placeOften_14 ?_
      exact ⟨_, rfl, rfl, rfl⟩

