/-! ===== planning, the reference: the few, the order, the plan ===== -/
set_option maxRecDepth 100000 in
set_option maxHeartbeats 4000000 in
theorem c_X6_placesFew_t {l : Launch} (hl : l.stackTraces = false) (K : jK) (F : GH) (h0 hs : Nat) (now past : Nat → Int32) (kept thrown : Int32) (drawn : Nat → Int32) (hash : Int64) (W M : Nat) (hW : now 0 = nI W) (hM : now 1 = nI M) (hW6 : 6 ≤ W) (hW9 : W ≤ 16) (hM9 : M ≤ 8) (p q N : Nat) (hq1 : 1 ≤ q) (hq8 : q ≤ 8) (hN : M = N * q) (hqM : q ≤ M) (k0 : Nat) (hk0 : k0 < (W - 3) * q) (hno : ∀ k, k < k0 → frI drawn (k / q) (k % q) q N = false) (hyes : frI drawn (k0 / q) (k0 % q) q N = true) : Ct l K yX6_placesFew cX6_placesFew 5 (some .boolean) 1 25 0 0 [.ref h0, .int (nI p), .int (nI q)] (gB F h0 (mC K h0 now past kept thrown drawn hash)) hs (pI (fun z9 G' _ => z9 = nI 1 ∧ G' = (gB F h0 (mC K h0 now past kept thrown (itr (tkS (nI p) (k0 / q) (k0 % q) q) N drawn) hash)))) jno := by
  refine Ct.ofA hl (by decide) (Nat.le_of_ble_eq_true rfl) (L0 := [some (.ref h0), some (.int (nI p)), some (.int (nI q)), none, none]) (jL_of 2 rfl) ?_
  intro A E hE hQ hX hNm
  have hways : (W - 3) * q ≤ 13 * 8 := Nat.mul_le_mul (by omega) hq8
  refine j_aload_n hE (i := 0) dX6_placesFew_0 rfl rfl ?_
  refine j_get hE flX6_7 gB_0 rfl dX6_placesFew_1 ?_
  refine j_iconst hE (v := nI 1) dX6_placesFew_4 (by decide) ?_
  refine j_iald hE gB_1 rfl (by omega) (by decide) dX6_placesFew_5 ?_
  rw [hM]
  refine j_iload_n hE (i := 2) dX6_placesFew_6 rfl rfl ?_
  refine j_ic_geN hE (tgt := 14) dX6_placesFew_7 (by decide) (by omega) (by omega) (fun h7 => ?_) (fun h7 => ?_)
  · refine j_aload_n hE (i := 0) dX6_placesFew_14 rfl rfl ?_
    refine j_get hE flX6_7 gB_0 rfl dX6_placesFew_15 ?_
    refine j_iconst hE (v := nI 0) dX6_placesFew_18 (by decide) ?_
    refine j_iald hE gB_1 rfl (by omega) (by decide) dX6_placesFew_19 ?_
    rw [hW]
    refine j_iconst hE (v := nI 3) dX6_placesFew_20 (by decide) ?_
    refine j_isubN hE dX6_placesFew_21 (by omega) ?_
    refine j_iload_n hE (i := 2) dX6_placesFew_22 rfl rfl ?_
    refine j_imulN hE dX6_placesFew_23 ?_
    refine j_ist3 hE dX6_placesFew_24 rfl (by decide) rfl ?_
    refine j_iconst hE (v := nI 0) dX6_placesFew_25 (by decide) ?_
    refine j_ist4 hE dX6_placesFew_26 (by decide) rfl ?_
    have key28 : ∀ k, k ≤ k0 → ∀ hs, J K A E 5 (gB F h0 (mC K h0 now past kept thrown drawn hash)) hs 0 0 28 [some (.ref h0), some (.int (nI p)), some (.int (nI q)), some (.int (nI ((W - 3) * q))), some (.int (nI k))] [] := by
      refine dloop (fun k => ∀ hs, J K A E 5 (gB F h0 (mC K h0 now past kept thrown drawn hash)) hs 0 0 28 [some (.ref h0), some (.int (nI p)), some (.int (nI q)), some (.int (nI ((W - 3) * q))), some (.int (nI k))] []) (k0) (fun k hi28 ih28 => ?_) ?_
      · intro hs
        have hcol : k / q < 13 := by
          have : k / q < W - 3 := Nat.div_lt_of_lt_mul (by rw [Nat.mul_comm]; omega)
          omega
        have hkq : k % q < q := Nat.mod_lt _ (by omega)
        have hno9 := hno k hi28
        refine j_iload hE dX6_placesFew_28 rfl ?_
        refine j_iload_n hE (i := 3) dX6_placesFew_30 rfl rfl ?_
        refine j_ic_geN hE (tgt := 72) dX6_placesFew_31 (by decide) (by omega) (by omega) (fun h31 => ?_) (fun h31 => ?_)
        · exfalso; omega
        · refine j_aload_n hE (i := 0) dX6_placesFew_34 rfl rfl ?_
          refine j_iload hE dX6_placesFew_35 rfl ?_
          refine j_iload_n hE (i := 2) dX6_placesFew_37 rfl rfl ?_
          refine j_idivN hE dX6_placesFew_38 (by omega) (by omega) (by omega) ?_
          refine j_iload hE dX6_placesFew_39 rfl ?_
          refine j_iload_n hE (i := 2) dX6_placesFew_41 rfl rfl ?_
          refine j_iremN hE dX6_placesFew_42 (by omega) (by omega) (by omega) ?_
          refine j_iload_n hE (i := 2) dX6_placesFew_43 rfl rfl ?_
          refine j_cVi hE mlX6_47 gB_0 (fun l hl => c_X6_isFree hl K F h0 _ _ _ _ _ _ _ M N hM hM9 _ q _ hN (Nat.mod_lt _ (by omega)) hcol (by omega)) rfl rfl (Nat.le_of_ble_eq_true rfl) (by decide) (by decide) (by omega) (by omega) dX6_placesFew_44 (fun r G9 hs9 hp => ?_) (fun _ _ h => h.elim)
          obtain ⟨rfl, rfl⟩ := hp
          refine j_if_eq hE (tgt := 66) dX6_placesFew_47 (by decide) (fun h47 => ?_) (fun h47 => ?_)
          · refine j_incN4 hE dX6_placesFew_66 (by decide) rfl ?_
            refine j_goto hE (tgt := 28) dX6_placesFew_69 (by decide) ?_
            exact ih28 _
          · exact absurd (jb_ne h47) (by rw [hno9]; decide)
      · intro hs
        have hcol : k0 / q < 13 := by
          have : k0 / q < W - 3 := Nat.div_lt_of_lt_mul (by rw [Nat.mul_comm]; omega)
          omega
        have hkq : k0 % q < q := Nat.mod_lt _ (by omega)
        refine j_iload hE dX6_placesFew_28 rfl ?_
        refine j_iload_n hE (i := 3) dX6_placesFew_30 rfl rfl ?_
        refine j_ic_geN hE (tgt := 72) dX6_placesFew_31 (by decide) (by omega) (by omega) (fun h31 => ?_) (fun h31 => ?_)
        · exfalso; omega
        · refine j_aload_n hE (i := 0) dX6_placesFew_34 rfl rfl ?_
          refine j_iload hE dX6_placesFew_35 rfl ?_
          refine j_iload_n hE (i := 2) dX6_placesFew_37 rfl rfl ?_
          refine j_idivN hE dX6_placesFew_38 (by omega) (by omega) (by omega) ?_
          refine j_iload hE dX6_placesFew_39 rfl ?_
          refine j_iload_n hE (i := 2) dX6_placesFew_41 rfl rfl ?_
          refine j_iremN hE dX6_placesFew_42 (by omega) (by omega) (by omega) ?_
          refine j_iload_n hE (i := 2) dX6_placesFew_43 rfl rfl ?_
          refine j_cVi hE mlX6_47 gB_0 (fun l hl => c_X6_isFree hl K F h0 _ _ _ _ _ _ _ M N hM hM9 _ q _ hN (Nat.mod_lt _ (by omega)) hcol (by omega)) rfl rfl (Nat.le_of_ble_eq_true rfl) (by decide) (by decide) (by omega) (by omega) dX6_placesFew_44 (fun r G9 hs9 hp => ?_) (fun _ _ h => h.elim)
          obtain ⟨rfl, rfl⟩ := hp
          refine j_if_eq hE (tgt := 66) dX6_placesFew_47 (by decide) (fun h47 => ?_) (fun h47 => ?_)
          · exact absurd (jb_eq h47) (by rw [hyes]; decide)
          · refine j_aload_n hE (i := 0) dX6_placesFew_50 rfl rfl ?_
            refine j_iload_n hE (i := 1) dX6_placesFew_51 rfl rfl ?_
            refine j_iload hE dX6_placesFew_52 rfl ?_
            refine j_iload_n hE (i := 2) dX6_placesFew_54 rfl rfl ?_
            refine j_idivN hE dX6_placesFew_55 (by omega) (by omega) (by omega) ?_
            refine j_iload hE dX6_placesFew_56 rfl ?_
            refine j_iload_n hE (i := 2) dX6_placesFew_58 rfl rfl ?_
            refine j_iremN hE dX6_placesFew_59 (by omega) (by omega) (by omega) ?_
            refine j_iload_n hE (i := 2) dX6_placesFew_60 rfl rfl ?_
            refine j_cVv hE mlX6_50 gB_0 (fun l hl => c_X6_takes hl K F h0 _ _ _ _ _ _ _ M N hM hM9 _ q _ hN (Nat.mod_lt _ (by omega)) hcol (by omega) _) rfl rfl (Nat.le_of_ble_eq_true rfl) (by decide) (by decide) (by omega) (by omega) dX6_placesFew_61 (fun G9 hs9 hp => ?_) (fun _ _ h => h.elim)
            subst hp
            refine j_iconst hE (v := nI 1) dX6_placesFew_64 (by decide) ?_
            refine j_iret hE hQ rfl (by omega) (by omega) dX6_placesFew_65 ?_
            exact ⟨_, rfl, rfl, rfl⟩
    exact key28 0 (by omega) _
  · exfalso; omega

set_option maxRecDepth 100000 in
set_option maxHeartbeats 4000000 in
theorem c_X6_placesFew_f {l : Launch} (hl : l.stackTraces = false) (K : jK) (F : GH) (h0 hs : Nat) (now past : Nat → Int32) (kept thrown : Int32) (drawn : Nat → Int32) (hash : Int64) (W M : Nat) (hW : now 0 = nI W) (hM : now 1 = nI M) (hW6 : 6 ≤ W) (hW9 : W ≤ 16) (hM9 : M ≤ 8) (p q N : Nat) (hq1 : 1 ≤ q) (hq8 : q ≤ 8) (hN : M = N * q) (hqM : q ≤ M) (hno : ∀ k, k < (W - 3) * q → frI drawn (k / q) (k % q) q N = false) : Ct l K yX6_placesFew cX6_placesFew 5 (some .boolean) 1 25 0 0 [.ref h0, .int (nI p), .int (nI q)] (gB F h0 (mC K h0 now past kept thrown drawn hash)) hs (pI (fun z9 G' _ => z9 = nI 0 ∧ G' = (gB F h0 (mC K h0 now past kept thrown drawn hash)))) jno := by
  refine Ct.ofA hl (by decide) (Nat.le_of_ble_eq_true rfl) (L0 := [some (.ref h0), some (.int (nI p)), some (.int (nI q)), none, none]) (jL_of 2 rfl) ?_
  intro A E hE hQ hX hNm
  have hways : (W - 3) * q ≤ 13 * 8 := Nat.mul_le_mul (by omega) hq8
  refine j_aload_n hE (i := 0) dX6_placesFew_0 rfl rfl ?_
  refine j_get hE flX6_7 gB_0 rfl dX6_placesFew_1 ?_
  refine j_iconst hE (v := nI 1) dX6_placesFew_4 (by decide) ?_
  refine j_iald hE gB_1 rfl (by omega) (by decide) dX6_placesFew_5 ?_
  rw [hM]
  refine j_iload_n hE (i := 2) dX6_placesFew_6 rfl rfl ?_
  refine j_ic_geN hE (tgt := 14) dX6_placesFew_7 (by decide) (by omega) (by omega) (fun h7 => ?_) (fun h7 => ?_)
  · refine j_aload_n hE (i := 0) dX6_placesFew_14 rfl rfl ?_
    refine j_get hE flX6_7 gB_0 rfl dX6_placesFew_15 ?_
    refine j_iconst hE (v := nI 0) dX6_placesFew_18 (by decide) ?_
    refine j_iald hE gB_1 rfl (by omega) (by decide) dX6_placesFew_19 ?_
    rw [hW]
    refine j_iconst hE (v := nI 3) dX6_placesFew_20 (by decide) ?_
    refine j_isubN hE dX6_placesFew_21 (by omega) ?_
    refine j_iload_n hE (i := 2) dX6_placesFew_22 rfl rfl ?_
    refine j_imulN hE dX6_placesFew_23 ?_
    refine j_ist3 hE dX6_placesFew_24 rfl (by decide) rfl ?_
    refine j_iconst hE (v := nI 0) dX6_placesFew_25 (by decide) ?_
    refine j_ist4 hE dX6_placesFew_26 (by decide) rfl ?_
    have key28 : ∀ k, k ≤ (W - 3) * q → ∀ hs, J K A E 5 (gB F h0 (mC K h0 now past kept thrown drawn hash)) hs 0 0 28 [some (.ref h0), some (.int (nI p)), some (.int (nI q)), some (.int (nI ((W - 3) * q))), some (.int (nI k))] [] := by
      refine dloop (fun k => ∀ hs, J K A E 5 (gB F h0 (mC K h0 now past kept thrown drawn hash)) hs 0 0 28 [some (.ref h0), some (.int (nI p)), some (.int (nI q)), some (.int (nI ((W - 3) * q))), some (.int (nI k))] []) ((W - 3) * q) (fun k hi28 ih28 => ?_) ?_
      · intro hs
        have hcol : k / q < 13 := by
          have : k / q < W - 3 := Nat.div_lt_of_lt_mul (by rw [Nat.mul_comm]; omega)
          omega
        have hkq : k % q < q := Nat.mod_lt _ (by omega)
        have hno9 := hno k hi28
        refine j_iload hE dX6_placesFew_28 rfl ?_
        refine j_iload_n hE (i := 3) dX6_placesFew_30 rfl rfl ?_
        refine j_ic_geN hE (tgt := 72) dX6_placesFew_31 (by decide) (by omega) (by omega) (fun h31 => ?_) (fun h31 => ?_)
        · exfalso; omega
        · refine j_aload_n hE (i := 0) dX6_placesFew_34 rfl rfl ?_
          refine j_iload hE dX6_placesFew_35 rfl ?_
          refine j_iload_n hE (i := 2) dX6_placesFew_37 rfl rfl ?_
          refine j_idivN hE dX6_placesFew_38 (by omega) (by omega) (by omega) ?_
          refine j_iload hE dX6_placesFew_39 rfl ?_
          refine j_iload_n hE (i := 2) dX6_placesFew_41 rfl rfl ?_
          refine j_iremN hE dX6_placesFew_42 (by omega) (by omega) (by omega) ?_
          refine j_iload_n hE (i := 2) dX6_placesFew_43 rfl rfl ?_
          refine j_cVi hE mlX6_47 gB_0 (fun l hl => c_X6_isFree hl K F h0 _ _ _ _ _ _ _ M N hM hM9 _ q _ hN (Nat.mod_lt _ (by omega)) hcol (by omega)) rfl rfl (Nat.le_of_ble_eq_true rfl) (by decide) (by decide) (by omega) (by omega) dX6_placesFew_44 (fun r G9 hs9 hp => ?_) (fun _ _ h => h.elim)
          obtain ⟨rfl, rfl⟩ := hp
          refine j_if_eq hE (tgt := 66) dX6_placesFew_47 (by decide) (fun h47 => ?_) (fun h47 => ?_)
          · refine j_incN4 hE dX6_placesFew_66 (by decide) rfl ?_
            refine j_goto hE (tgt := 28) dX6_placesFew_69 (by decide) ?_
            exact ih28 _
          · exact absurd (jb_ne h47) (by rw [hno9]; decide)
      · intro hs
        refine j_iload hE dX6_placesFew_28 rfl ?_
        refine j_iload_n hE (i := 3) dX6_placesFew_30 rfl rfl ?_
        refine j_ic_geN hE (tgt := 72) dX6_placesFew_31 (by decide) (by omega) (by omega) (fun h31 => ?_) (fun h31 => ?_)
        · refine j_iconst hE (v := nI 0) dX6_placesFew_72 (by decide) ?_
          refine j_iret hE hQ rfl (by omega) (by omega) dX6_placesFew_73 ?_
          exact ⟨_, rfl, rfl, rfl⟩
        · exfalso; omega
    exact key28 0 (by omega) _
  · exfalso; omega

set_option maxRecDepth 100000 in
set_option maxHeartbeats 4000000 in
theorem c_X6_placesFew_m {l : Launch} (hl : l.stackTraces = false) (K : jK) (F : GH) (h0 hs : Nat) (now past : Nat → Int32) (kept thrown : Int32) (drawn : Nat → Int32) (hash : Int64) (W M : Nat) (hW : now 0 = nI W) (hM : now 1 = nI M) (hW6 : 6 ≤ W) (hW9 : W ≤ 16) (hM9 : M ≤ 8) (p q : Nat) (hq8 : q ≤ 8) (hqM : M < q) : Ct l K yX6_placesFew cX6_placesFew 5 (some .boolean) 1 25 0 0 [.ref h0, .int (nI p), .int (nI q)] (gB F h0 (mC K h0 now past kept thrown drawn hash)) hs (pI (fun z9 G' _ => z9 = nI 0 ∧ G' = (gB F h0 (mC K h0 now past kept thrown drawn hash)))) jno := by
  refine Ct.ofA hl (by decide) (Nat.le_of_ble_eq_true rfl) (L0 := [some (.ref h0), some (.int (nI p)), some (.int (nI q)), none, none]) (jL_of 2 rfl) ?_
  intro A E hE hQ hX hNm
  refine j_aload_n hE (i := 0) dX6_placesFew_0 rfl rfl ?_
  refine j_get hE flX6_7 gB_0 rfl dX6_placesFew_1 ?_
  refine j_iconst hE (v := nI 1) dX6_placesFew_4 (by decide) ?_
  refine j_iald hE gB_1 rfl (by omega) (by decide) dX6_placesFew_5 ?_
  rw [hM]
  refine j_iload_n hE (i := 2) dX6_placesFew_6 rfl rfl ?_
  refine j_ic_geN hE (tgt := 14) dX6_placesFew_7 (by decide) (by omega) (by omega) (fun h7 => ?_) (fun h7 => ?_)
  · exfalso; omega
  · refine j_iconst hE (v := nI 0) dX6_placesFew_10 (by decide) ?_
    refine j_goto hE (tgt := 24) dX6_placesFew_11 (by decide) ?_
    refine j_ist3 hE dX6_placesFew_24 rfl (by decide) rfl ?_
    refine j_iconst hE (v := nI 0) dX6_placesFew_25 (by decide) ?_
    refine j_ist4 hE dX6_placesFew_26 (by decide) rfl ?_
    refine j_iload hE dX6_placesFew_28 rfl ?_
    refine j_iload_n hE (i := 3) dX6_placesFew_30 rfl rfl ?_
    refine j_ic_geN hE (tgt := 72) dX6_placesFew_31 (by decide) (by omega) (by omega) (fun h31 => ?_) (fun h31 => ?_)
    · refine j_iconst hE (v := nI 0) dX6_placesFew_72 (by decide) ?_
      refine j_iret hE hQ rfl (by omega) (by omega) dX6_placesFew_73 ?_
      exact ⟨_, rfl, rfl, rfl⟩
    · exfalso; omega

/-- o goes ahead of p: more samples, or as many and a smaller number -/
def ahead (S : Nat → Nat) (p o : Nat) : Bool := decide (S p < S o ∨ (S o = S p ∧ o < p))
theorem ahead_t1 {S : Nat → Nat} {p o : Nat} (h : S p < S o) : ahead S p o = true := decide_eq_true (Or.inl h)
theorem ahead_t2 {S : Nat → Nat} {p o : Nat} (h : S o = S p) (h2 : o < p) : ahead S p o = true := decide_eq_true (Or.inr ⟨h, h2⟩)
theorem ahead_f1 {S : Nat → Nat} {p o : Nat} (h : ¬ S p < S o) (h2 : S o ≠ S p) : ahead S p o = false := decide_eq_false (fun q => q.elim h (fun z => h2 z.1))
theorem ahead_f2 {S : Nat → Nat} {p o : Nat} (h : ¬ S p < S o) (h2 : p ≤ o) : ahead S p o = false := decide_eq_false (fun q => q.elim h (fun z => by omega))
def rank (S : Nat → Nat) (n p : Nat) : Nat := cntB (ahead S p) n
set_option maxRecDepth 100000 in
set_option maxHeartbeats 4000000 in
theorem c_X6_placedAt {l : Launch} (hl : l.stackTraces = false) (K : jK) (F : GH) (h0 hs : Nat) (now past : Nat → Int32) (kept thrown : Int32) (drawn : Nat → Int32) (hash : Int64) (n M : Nat) (hn : now 2 = nI n) (hn9 : n ≤ 12) (hM : now 1 = nI M) (hM9 : M ≤ 8) (hR : ∀ j, j < n → rOk (now (33 + 14 * j + 0))) (S : Nat → Nat) (hS : S = fun j => sOf M (now (33 + 14 * j + 0))) (hS9 : ∀ j, j < n → S j < 1000) (t : Nat) (ht : t < 1000) (p0 : Nat) (hp0 : p0 < n) (hno : ∀ p, p < p0 → rank S n p ≠ t) (hyes : rank S n p0 = t) : Ct l K yX6_placedAt cX6_placedAt 6 (some .int) 2 44 0 0 [.ref h0, .int (nI t)] (gB F h0 (mC K h0 now past kept thrown drawn hash)) hs (pI (fun z9 G' _ => z9 = nI p0 ∧ G' = (gB F h0 (mC K h0 now past kept thrown drawn hash)))) jno := by
  refine Ct.ofA hl (by decide) (Nat.le_of_ble_eq_true rfl) (L0 := [some (.ref h0), some (.int (nI t)), none, none, none, none]) (jL_of 4 rfl) ?_
  intro A E hE hQ hX hNm
  refine j_iconst hE (v := nI 0) dX6_placedAt_0 (by decide) ?_
  refine j_ist2 hE dX6_placedAt_1 rfl (by decide) rfl ?_
  have key2 : ∀ p, p ≤ p0 → ∀ hs, ∀ a3 a4 a5, J K A E 6 (gB F h0 (mC K h0 now past kept thrown drawn hash)) hs 0 0 2 [some (.ref h0), some (.int (nI t)), some (.int (nI p)), a3, a4, a5] [] := by
    refine dloop (fun p => ∀ hs, ∀ a3 a4 a5, J K A E 6 (gB F h0 (mC K h0 now past kept thrown drawn hash)) hs 0 0 2 [some (.ref h0), some (.int (nI t)), some (.int (nI p)), a3, a4, a5] []) (p0) (fun p hi2 ih2 => ?_) ?_
    · intro hs
      intro a3 a4 a5
      have hp9 := hS9 p (by omega)
      have hno9 := hno p hi2
      refine j_iload_n hE (i := 2) dX6_placedAt_2 rfl rfl ?_
      refine j_aload_n hE (i := 0) dX6_placedAt_3 rfl rfl ?_
      refine j_get hE flX6_7 gB_0 rfl dX6_placedAt_4 ?_
      refine j_iconst hE (v := nI 2) dX6_placedAt_7 (by decide) ?_
      refine j_iald hE gB_1 rfl (by omega) (by decide) dX6_placedAt_8 ?_
      rw [hn]
      refine j_ic_geN hE (tgt := 85) dX6_placedAt_9 (by decide) (by omega) (by omega) (fun h9 => ?_) (fun h9 => ?_)
      · exfalso; omega
      · refine j_iconst hE (v := nI 0) dX6_placedAt_12 (by decide) ?_
        refine j_ist3 hE dX6_placedAt_13 rfl (by decide) rfl ?_
        refine j_iconst hE (v := nI 0) dX6_placedAt_14 (by decide) ?_
        refine j_ist4 hE dX6_placedAt_15 (by decide) rfl ?_
        have key17 : ∀ o, o ≤ n → ∀ hs, ∀ a5, J K A E 6 (gB F h0 (mC K h0 now past kept thrown drawn hash)) hs 0 0 17 [some (.ref h0), some (.int (nI t)), some (.int (nI p)), some (.int (nI (cntB (ahead S p) o))), some (.int (nI o)), a5] [] := by
          refine dloop (fun o => ∀ hs, ∀ a5, J K A E 6 (gB F h0 (mC K h0 now past kept thrown drawn hash)) hs 0 0 17 [some (.ref h0), some (.int (nI t)), some (.int (nI p)), some (.int (nI (cntB (ahead S p) o))), some (.int (nI o)), a5] []) (n) (fun o hi17 ih17 => ?_) ?_
          · intro hs
            intro a5
            have ho9 := hS9 o hi17
            have hc9 := cntB_le (ahead S p) o
            refine j_iload hE dX6_placedAt_17 rfl ?_
            refine j_aload_n hE (i := 0) dX6_placedAt_19 rfl rfl ?_
            refine j_get hE flX6_7 gB_0 rfl dX6_placedAt_20 ?_
            refine j_iconst hE (v := nI 2) dX6_placedAt_23 (by decide) ?_
            refine j_iald hE gB_1 rfl (by omega) (by decide) dX6_placedAt_24 ?_
            rw [hn]
            refine j_ic_geN hE (tgt := 72) dX6_placedAt_25 (by decide) (by omega) (by omega) (fun h25 => ?_) (fun h25 => ?_)
            · exfalso; omega
            · refine j_aload_n hE (i := 0) dX6_placedAt_28 rfl rfl ?_
              refine j_iload hE dX6_placedAt_29 rfl ?_
              refine j_cVi hE mlX6_54 gB_0 (fun l hl => c_X6_samplesOf hl K F h0 _ _ _ _ _ _ _ M hM hM9 _ (by omega) (hR _ (by omega))) rfl rfl (Nat.le_of_ble_eq_true rfl) (by decide) (by decide) (by omega) (by omega) dX6_placedAt_31 (fun r G9 hs9 hp => ?_) (fun _ _ h => h.elim)
              obtain ⟨rfl, rfl⟩ := hp
              rw [show sOf M (now (33 + 14 * o + 0)) = S o by rw [hS]]
              refine j_aload_n hE (i := 0) dX6_placedAt_34 rfl rfl ?_
              refine j_iload_n hE (i := 2) dX6_placedAt_35 rfl rfl ?_
              refine j_cVi hE mlX6_54 gB_0 (fun l hl => c_X6_samplesOf hl K F h0 _ _ _ _ _ _ _ M hM hM9 _ (by omega) (hR _ (by omega))) rfl rfl (Nat.le_of_ble_eq_true rfl) (by decide) (by decide) (by omega) (by omega) dX6_placedAt_36 (fun r G9 hs9 hp => ?_) (fun _ _ h => h.elim)
              obtain ⟨rfl, rfl⟩ := hp
              rw [show sOf M (now (33 + 14 * p + 0)) = S p by rw [hS]]
              refine j_isub hE dX6_placedAt_39 ?_
              refine j_ist5 hE dX6_placedAt_40 (by decide) rfl ?_
              refine j_iload_n hE (i := 3) dX6_placedAt_42 rfl rfl ?_
              refine j_iload hE dX6_placedAt_43 rfl ?_
              refine j_if_gt hE (tgt := 59) dX6_placedAt_45 (by decide) (fun h45 => ?_) (fun h45 => ?_)
              · have q9 : cntB (ahead S p) (o + 1) = cntB (ahead S p) o + 1 := cntB_t (ahead_t1 ((sub_gt (by omega) (by omega)).mp h45))
                refine j_iconst hE (v := nI 1) dX6_placedAt_59 (by decide) ?_
                refine j_goto hE (tgt := 64) dX6_placedAt_60 (by decide) ?_
                refine j_iaddN hE dX6_placedAt_64 ?_
                refine j_ist3 hE dX6_placedAt_65 rfl (by decide) rfl ?_
                refine j_incN4 hE dX6_placedAt_66 (by decide) rfl ?_
                refine j_goto hE (tgt := 17) dX6_placedAt_69 (by decide) ?_
                rw [← q9]
                exact ih17 _ _
              · refine j_iload hE dX6_placedAt_48 rfl ?_
                refine j_if_ne hE (tgt := 63) dX6_placedAt_50 (by decide) (fun h50 => ?_) (fun h50 => ?_)
                · have q9 : cntB (ahead S p) (o + 1) = cntB (ahead S p) o + 0 := cntB_f (ahead_f1 (mt (sub_gt (by omega) (by omega)).mpr h45) (mt (sub_eq (by omega) (by omega)).mpr h50))
                  refine j_iconst hE (v := nI 0) dX6_placedAt_63 (by decide) ?_
                  refine j_iaddN hE dX6_placedAt_64 ?_
                  refine j_ist3 hE dX6_placedAt_65 rfl (by decide) rfl ?_
                  refine j_incN4 hE dX6_placedAt_66 (by decide) rfl ?_
                  refine j_goto hE (tgt := 17) dX6_placedAt_69 (by decide) ?_
                  rw [← q9]
                  exact ih17 _ _
                · refine j_iload hE dX6_placedAt_53 rfl ?_
                  refine j_iload_n hE (i := 2) dX6_placedAt_55 rfl rfl ?_
                  refine j_ic_geN hE (tgt := 63) dX6_placedAt_56 (by decide) (by omega) (by omega) (fun h56 => ?_) (fun h56 => ?_)
                  · have q9 : cntB (ahead S p) (o + 1) = cntB (ahead S p) o + 0 := cntB_f (ahead_f2 (mt (sub_gt (by omega) (by omega)).mpr h45) h56)
                    refine j_iconst hE (v := nI 0) dX6_placedAt_63 (by decide) ?_
                    refine j_iaddN hE dX6_placedAt_64 ?_
                    refine j_ist3 hE dX6_placedAt_65 rfl (by decide) rfl ?_
                    refine j_incN4 hE dX6_placedAt_66 (by decide) rfl ?_
                    refine j_goto hE (tgt := 17) dX6_placedAt_69 (by decide) ?_
                    rw [← q9]
                    exact ih17 _ _
                  · have q9 : cntB (ahead S p) (o + 1) = cntB (ahead S p) o + 1 := cntB_t (ahead_t2 ((sub_eq (by omega) (by omega)).mp h50) h56)
                    refine j_iconst hE (v := nI 1) dX6_placedAt_59 (by decide) ?_
                    refine j_goto hE (tgt := 64) dX6_placedAt_60 (by decide) ?_
                    refine j_iaddN hE dX6_placedAt_64 ?_
                    refine j_ist3 hE dX6_placedAt_65 rfl (by decide) rfl ?_
                    refine j_incN4 hE dX6_placedAt_66 (by decide) rfl ?_
                    refine j_goto hE (tgt := 17) dX6_placedAt_69 (by decide) ?_
                    rw [← q9]
                    exact ih17 _ _
          · intro hs
            intro a5
            have hc9 := cntB_le (ahead S p) n
            have hrk : cntB (ahead S p) n = rank S n p := rfl
            refine j_iload hE dX6_placedAt_17 rfl ?_
            refine j_aload_n hE (i := 0) dX6_placedAt_19 rfl rfl ?_
            refine j_get hE flX6_7 gB_0 rfl dX6_placedAt_20 ?_
            refine j_iconst hE (v := nI 2) dX6_placedAt_23 (by decide) ?_
            refine j_iald hE gB_1 rfl (by omega) (by decide) dX6_placedAt_24 ?_
            rw [hn]
            refine j_ic_geN hE (tgt := 72) dX6_placedAt_25 (by decide) (by omega) (by omega) (fun h25 => ?_) (fun h25 => ?_)
            · refine j_iload_n hE (i := 3) dX6_placedAt_72 rfl rfl ?_
              refine j_iload_n hE (i := 1) dX6_placedAt_73 rfl rfl ?_
              refine j_ic_neN hE (tgt := 79) dX6_placedAt_74 (by decide) (by omega) (by omega) (fun h74 => ?_) (fun h74 => ?_)
              · refine j_incN2 hE dX6_placedAt_79 (by decide) rfl ?_
                refine j_goto hE (tgt := 2) dX6_placedAt_82 (by decide) ?_
                exact ih2 _ _ _ _
              · exfalso; omega
            · exfalso; omega
        exact key17 0 (by omega) _ _
    · intro hs
      intro a3 a4 a5
      obtain ⟨p, hp⟩ : ∃ p, p = p0 := ⟨_, rfl⟩
      rw [← hp] at hyes hp0 ⊢
      have hp9 := hS9 p hp0
      refine j_iload_n hE (i := 2) dX6_placedAt_2 rfl rfl ?_
      refine j_aload_n hE (i := 0) dX6_placedAt_3 rfl rfl ?_
      refine j_get hE flX6_7 gB_0 rfl dX6_placedAt_4 ?_
      refine j_iconst hE (v := nI 2) dX6_placedAt_7 (by decide) ?_
      refine j_iald hE gB_1 rfl (by omega) (by decide) dX6_placedAt_8 ?_
      rw [hn]
      refine j_ic_geN hE (tgt := 85) dX6_placedAt_9 (by decide) (by omega) (by omega) (fun h9 => ?_) (fun h9 => ?_)
      · exfalso; omega
      · refine j_iconst hE (v := nI 0) dX6_placedAt_12 (by decide) ?_
        refine j_ist3 hE dX6_placedAt_13 rfl (by decide) rfl ?_
        refine j_iconst hE (v := nI 0) dX6_placedAt_14 (by decide) ?_
        refine j_ist4 hE dX6_placedAt_15 (by decide) rfl ?_
        have key17 : ∀ o, o ≤ n → ∀ hs, ∀ a5, J K A E 6 (gB F h0 (mC K h0 now past kept thrown drawn hash)) hs 0 0 17 [some (.ref h0), some (.int (nI t)), some (.int (nI p)), some (.int (nI (cntB (ahead S p) o))), some (.int (nI o)), a5] [] := by
          refine dloop (fun o => ∀ hs, ∀ a5, J K A E 6 (gB F h0 (mC K h0 now past kept thrown drawn hash)) hs 0 0 17 [some (.ref h0), some (.int (nI t)), some (.int (nI p)), some (.int (nI (cntB (ahead S p) o))), some (.int (nI o)), a5] []) (n) (fun o hi17 ih17 => ?_) ?_
          · intro hs
            intro a5
            have ho9 := hS9 o hi17
            have hc9 := cntB_le (ahead S p) o
            refine j_iload hE dX6_placedAt_17 rfl ?_
            refine j_aload_n hE (i := 0) dX6_placedAt_19 rfl rfl ?_
            refine j_get hE flX6_7 gB_0 rfl dX6_placedAt_20 ?_
            refine j_iconst hE (v := nI 2) dX6_placedAt_23 (by decide) ?_
            refine j_iald hE gB_1 rfl (by omega) (by decide) dX6_placedAt_24 ?_
            rw [hn]
            refine j_ic_geN hE (tgt := 72) dX6_placedAt_25 (by decide) (by omega) (by omega) (fun h25 => ?_) (fun h25 => ?_)
            · exfalso; omega
            · refine j_aload_n hE (i := 0) dX6_placedAt_28 rfl rfl ?_
              refine j_iload hE dX6_placedAt_29 rfl ?_
              refine j_cVi hE mlX6_54 gB_0 (fun l hl => c_X6_samplesOf hl K F h0 _ _ _ _ _ _ _ M hM hM9 _ (by omega) (hR _ (by omega))) rfl rfl (Nat.le_of_ble_eq_true rfl) (by decide) (by decide) (by omega) (by omega) dX6_placedAt_31 (fun r G9 hs9 hp => ?_) (fun _ _ h => h.elim)
              obtain ⟨rfl, rfl⟩ := hp
              rw [show sOf M (now (33 + 14 * o + 0)) = S o by rw [hS]]
              refine j_aload_n hE (i := 0) dX6_placedAt_34 rfl rfl ?_
              refine j_iload_n hE (i := 2) dX6_placedAt_35 rfl rfl ?_
              refine j_cVi hE mlX6_54 gB_0 (fun l hl => c_X6_samplesOf hl K F h0 _ _ _ _ _ _ _ M hM hM9 _ (by omega) (hR _ (by omega))) rfl rfl (Nat.le_of_ble_eq_true rfl) (by decide) (by decide) (by omega) (by omega) dX6_placedAt_36 (fun r G9 hs9 hp => ?_) (fun _ _ h => h.elim)
              obtain ⟨rfl, rfl⟩ := hp
              rw [show sOf M (now (33 + 14 * p + 0)) = S p by rw [hS]]
              refine j_isub hE dX6_placedAt_39 ?_
              refine j_ist5 hE dX6_placedAt_40 (by decide) rfl ?_
              refine j_iload_n hE (i := 3) dX6_placedAt_42 rfl rfl ?_
              refine j_iload hE dX6_placedAt_43 rfl ?_
              refine j_if_gt hE (tgt := 59) dX6_placedAt_45 (by decide) (fun h45 => ?_) (fun h45 => ?_)
              · have q9 : cntB (ahead S p) (o + 1) = cntB (ahead S p) o + 1 := cntB_t (ahead_t1 ((sub_gt (by omega) (by omega)).mp h45))
                refine j_iconst hE (v := nI 1) dX6_placedAt_59 (by decide) ?_
                refine j_goto hE (tgt := 64) dX6_placedAt_60 (by decide) ?_
                refine j_iaddN hE dX6_placedAt_64 ?_
                refine j_ist3 hE dX6_placedAt_65 rfl (by decide) rfl ?_
                refine j_incN4 hE dX6_placedAt_66 (by decide) rfl ?_
                refine j_goto hE (tgt := 17) dX6_placedAt_69 (by decide) ?_
                rw [← q9]
                exact ih17 _ _
              · refine j_iload hE dX6_placedAt_48 rfl ?_
                refine j_if_ne hE (tgt := 63) dX6_placedAt_50 (by decide) (fun h50 => ?_) (fun h50 => ?_)
                · have q9 : cntB (ahead S p) (o + 1) = cntB (ahead S p) o + 0 := cntB_f (ahead_f1 (mt (sub_gt (by omega) (by omega)).mpr h45) (mt (sub_eq (by omega) (by omega)).mpr h50))
                  refine j_iconst hE (v := nI 0) dX6_placedAt_63 (by decide) ?_
                  refine j_iaddN hE dX6_placedAt_64 ?_
                  refine j_ist3 hE dX6_placedAt_65 rfl (by decide) rfl ?_
                  refine j_incN4 hE dX6_placedAt_66 (by decide) rfl ?_
                  refine j_goto hE (tgt := 17) dX6_placedAt_69 (by decide) ?_
                  rw [← q9]
                  exact ih17 _ _
                · refine j_iload hE dX6_placedAt_53 rfl ?_
                  refine j_iload_n hE (i := 2) dX6_placedAt_55 rfl rfl ?_
                  refine j_ic_geN hE (tgt := 63) dX6_placedAt_56 (by decide) (by omega) (by omega) (fun h56 => ?_) (fun h56 => ?_)
                  · have q9 : cntB (ahead S p) (o + 1) = cntB (ahead S p) o + 0 := cntB_f (ahead_f2 (mt (sub_gt (by omega) (by omega)).mpr h45) h56)
                    refine j_iconst hE (v := nI 0) dX6_placedAt_63 (by decide) ?_
                    refine j_iaddN hE dX6_placedAt_64 ?_
                    refine j_ist3 hE dX6_placedAt_65 rfl (by decide) rfl ?_
                    refine j_incN4 hE dX6_placedAt_66 (by decide) rfl ?_
                    refine j_goto hE (tgt := 17) dX6_placedAt_69 (by decide) ?_
                    rw [← q9]
                    exact ih17 _ _
                  · have q9 : cntB (ahead S p) (o + 1) = cntB (ahead S p) o + 1 := cntB_t (ahead_t2 ((sub_eq (by omega) (by omega)).mp h50) h56)
                    refine j_iconst hE (v := nI 1) dX6_placedAt_59 (by decide) ?_
                    refine j_goto hE (tgt := 64) dX6_placedAt_60 (by decide) ?_
                    refine j_iaddN hE dX6_placedAt_64 ?_
                    refine j_ist3 hE dX6_placedAt_65 rfl (by decide) rfl ?_
                    refine j_incN4 hE dX6_placedAt_66 (by decide) rfl ?_
                    refine j_goto hE (tgt := 17) dX6_placedAt_69 (by decide) ?_
                    rw [← q9]
                    exact ih17 _ _
          · intro hs
            intro a5
            have hc9 := cntB_le (ahead S p) n
            have hrk : cntB (ahead S p) n = rank S n p := rfl
            refine j_iload hE dX6_placedAt_17 rfl ?_
            refine j_aload_n hE (i := 0) dX6_placedAt_19 rfl rfl ?_
            refine j_get hE flX6_7 gB_0 rfl dX6_placedAt_20 ?_
            refine j_iconst hE (v := nI 2) dX6_placedAt_23 (by decide) ?_
            refine j_iald hE gB_1 rfl (by omega) (by decide) dX6_placedAt_24 ?_
            rw [hn]
            refine j_ic_geN hE (tgt := 72) dX6_placedAt_25 (by decide) (by omega) (by omega) (fun h25 => ?_) (fun h25 => ?_)
            · refine j_iload_n hE (i := 3) dX6_placedAt_72 rfl rfl ?_
              refine j_iload_n hE (i := 1) dX6_placedAt_73 rfl rfl ?_
              refine j_ic_neN hE (tgt := 79) dX6_placedAt_74 (by decide) (by omega) (by omega) (fun h74 => ?_) (fun h74 => ?_)
              · exfalso; omega
              · refine j_iload_n hE (i := 2) dX6_placedAt_77 rfl rfl ?_
                refine j_iret hE hQ rfl (by omega) (by omega) dX6_placedAt_78 ?_
                exact ⟨_, rfl, by rw [hp], rfl⟩
            · exfalso; omega
        exact key17 0 (by omega) _ _
  exact key2 0 (by omega) _ _ _ _

def tkP (now : Nat → Int32) (W k : Nat) : Bool := decide (k % 16 < W ∧ now (201 + k) ≠ -1)
theorem tkP_t {now : Nat → Int32} {W k : Nat} (h : k % 16 < W) (h2 : ¬ now (201 + k) = -1) : tkP now W k = true := decide_eq_true ⟨h, h2⟩
theorem tkP_f1 {now : Nat → Int32} {W k : Nat} (h : W ≤ k % 16) : tkP now W k = false := decide_eq_false (fun q => by omega)
theorem tkP_f2 {now : Nat → Int32} {W k : Nat} (h : now (201 + k) = -1) : tkP now W k = false := decide_eq_false (fun q => q.2 h)
set_option maxRecDepth 100000 in
set_option maxHeartbeats 4000000 in
theorem c_X6_takenWords {l : Launch} (hl : l.stackTraces = false) (K : jK) (F : GH) (h0 hs : Nat) (now past : Nat → Int32) (kept thrown : Int32) (drawn : Nat → Int32) (hash : Int64) (W M : Nat) (hW : now 0 = nI W) (hM : now 1 = nI M) (hW6 : 6 ≤ W) (hW9 : W ≤ 16) (hM9 : M ≤ 8) : Ct l K yX6_takenWords cX6_takenWords 3 (some .int) 0 0 0 0 [.ref h0] (gB F h0 (mC K h0 now past kept thrown drawn hash)) hs (pI (fun z9 G' _ => z9 = nI (cntB (tkP now W) (16 * M)) ∧ G' = (gB F h0 (mC K h0 now past kept thrown drawn hash)))) jno := by
  refine Ct.ofA hl (by decide) (Nat.le_of_ble_eq_true rfl) (L0 := [some (.ref h0), none, none]) (jL_of 2 rfl) ?_
  intro A E hE hQ hX hNm
  refine j_iconst hE (v := nI 0) dX6_takenWords_0 (by decide) ?_
  refine j_ist1 hE dX6_takenWords_1 rfl (by decide) rfl ?_
  refine j_iconst hE (v := nI 0) dX6_takenWords_2 (by decide) ?_
  refine j_ist2 hE dX6_takenWords_3 rfl (by decide) rfl ?_
  have key4 : ∀ k, k ≤ 16 * M → ∀ hs, J K A E 3 (gB F h0 (mC K h0 now past kept thrown drawn hash)) hs 0 0 4 [some (.ref h0), some (.int (nI (cntB (tkP now W) k))), some (.int (nI k))] [] := by
    refine dloop (fun k => ∀ hs, J K A E 3 (gB F h0 (mC K h0 now past kept thrown drawn hash)) hs 0 0 4 [some (.ref h0), some (.int (nI (cntB (tkP now W) k))), some (.int (nI k))] []) (16 * M) (fun k hi4 ih4 => ?_) ?_
    · intro hs
      have hm16 : k % 16 < 16 := Nat.mod_lt _ (by omega)
      refine j_iload_n hE (i := 2) dX6_takenWords_4 rfl rfl ?_
      refine j_bipush hE (v := nI 16) dX6_takenWords_5 (by decide) ?_
      refine j_aload_n hE (i := 0) dX6_takenWords_7 rfl rfl ?_
      refine j_get hE flX6_7 gB_0 rfl dX6_takenWords_8 ?_
      refine j_iconst hE (v := nI 1) dX6_takenWords_11 (by decide) ?_
      refine j_iald hE gB_1 rfl (by omega) (by decide) dX6_takenWords_12 ?_
      rw [hM]
      refine j_imulN hE dX6_takenWords_13 ?_
      refine j_ic_geN hE (tgt := 58) dX6_takenWords_14 (by decide) (by omega) (by omega) (fun h14 => ?_) (fun h14 => ?_)
      · exfalso; omega
      · refine j_iload_n hE (i := 1) dX6_takenWords_17 rfl rfl ?_
        refine j_iload_n hE (i := 2) dX6_takenWords_18 rfl rfl ?_
        refine j_bipush hE (v := nI 16) dX6_takenWords_19 (by decide) ?_
        refine j_iremN hE dX6_takenWords_21 (by omega) (by omega) (by omega) ?_
        refine j_aload_n hE (i := 0) dX6_takenWords_22 rfl rfl ?_
        refine j_get hE flX6_7 gB_0 rfl dX6_takenWords_23 ?_
        refine j_iconst hE (v := nI 0) dX6_takenWords_26 (by decide) ?_
        refine j_iald hE gB_1 rfl (by omega) (by decide) dX6_takenWords_27 ?_
        rw [hW]
        refine j_ic_geN hE (tgt := 49) dX6_takenWords_28 (by decide) (by omega) (by omega) (fun h28 => ?_) (fun h28 => ?_)
        · have q9 : cntB (tkP now W) (k + 1) = cntB (tkP now W) k + 0 := cntB_f (tkP_f1 h28)
          refine j_iconst hE (v := nI 0) dX6_takenWords_49 (by decide) ?_
          refine j_iaddN hE dX6_takenWords_50 ?_
          refine j_ist1 hE dX6_takenWords_51 rfl (by decide) rfl ?_
          refine j_incN2 hE dX6_takenWords_52 (by decide) rfl ?_
          refine j_goto hE (tgt := 4) dX6_takenWords_55 (by decide) ?_
          rw [← q9]
          exact ih4 _
        · refine j_aload_n hE (i := 0) dX6_takenWords_31 rfl rfl ?_
          refine j_get hE flX6_7 gB_0 rfl dX6_takenWords_32 ?_
          refine j_sipush hE (v := nI 201) dX6_takenWords_35 (by decide) ?_
          refine j_iload_n hE (i := 2) dX6_takenWords_38 rfl rfl ?_
          refine j_iaddN hE dX6_takenWords_39 ?_
          refine j_iald hE gB_1 rfl (by omega) (by decide) dX6_takenWords_40 ?_
          refine j_iconst hE (v := -1) dX6_takenWords_41 (by decide) ?_
          refine j_ic_eq hE (tgt := 49) dX6_takenWords_42 (by decide) (fun h42 => ?_) (fun h42 => ?_)
          · have q9 : cntB (tkP now W) (k + 1) = cntB (tkP now W) k + 0 := cntB_f (tkP_f2 h42)
            refine j_iconst hE (v := nI 0) dX6_takenWords_49 (by decide) ?_
            refine j_iaddN hE dX6_takenWords_50 ?_
            refine j_ist1 hE dX6_takenWords_51 rfl (by decide) rfl ?_
            refine j_incN2 hE dX6_takenWords_52 (by decide) rfl ?_
            refine j_goto hE (tgt := 4) dX6_takenWords_55 (by decide) ?_
            rw [← q9]
            exact ih4 _
          · have q9 : cntB (tkP now W) (k + 1) = cntB (tkP now W) k + 1 := cntB_t (tkP_t h28 h42)
            refine j_iconst hE (v := nI 1) dX6_takenWords_45 (by decide) ?_
            refine j_goto hE (tgt := 50) dX6_takenWords_46 (by decide) ?_
            refine j_iaddN hE dX6_takenWords_50 ?_
            refine j_ist1 hE dX6_takenWords_51 rfl (by decide) rfl ?_
            refine j_incN2 hE dX6_takenWords_52 (by decide) rfl ?_
            refine j_goto hE (tgt := 4) dX6_takenWords_55 (by decide) ?_
            rw [← q9]
            exact ih4 _
    · intro hs
      refine j_iload_n hE (i := 2) dX6_takenWords_4 rfl rfl ?_
      refine j_bipush hE (v := nI 16) dX6_takenWords_5 (by decide) ?_
      refine j_aload_n hE (i := 0) dX6_takenWords_7 rfl rfl ?_
      refine j_get hE flX6_7 gB_0 rfl dX6_takenWords_8 ?_
      refine j_iconst hE (v := nI 1) dX6_takenWords_11 (by decide) ?_
      refine j_iald hE gB_1 rfl (by omega) (by decide) dX6_takenWords_12 ?_
      rw [hM]
      refine j_imulN hE dX6_takenWords_13 ?_
      refine j_ic_geN hE (tgt := 58) dX6_takenWords_14 (by decide) (by omega) (by omega) (fun h14 => ?_) (fun h14 => ?_)
      · refine j_iload_n hE (i := 1) dX6_takenWords_58 rfl rfl ?_
        refine j_iret hE hQ rfl (by omega) (by omega) dX6_takenWords_59 ?_
        exact ⟨_, rfl, rfl, rfl⟩
      · exfalso; omega
  exact key4 0 (by omega) _

