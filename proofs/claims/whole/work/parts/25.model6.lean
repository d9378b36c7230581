/-! ===== the reference: drawing a plan, and what is read off it ===== -/
/-- p, at the rate x, finds its place in d, which becomes d' -/
def plOk (W M : Nat) (x : Int32) (p : Nat) (d d' : Nat → Int32) : Prop :=
  (∃ r c0, (1 ≤ r ∧ r ≤ 4 ∧ x = nI r) ∧ (W - 3) % r = 0 ∧ c0 < (W - 3) / r ∧ (∀ c, c < c0 → manyI d M ((W - 3) / r) c r = false) ∧ manyI d M ((W - 3) / r) c0 r = true ∧ d' = itr (tkM (nI p) M ((W - 3) / r) c0) r d) ∨
  ∃ q N k0, ((q = 2 ∨ q = 4 ∨ q = 8) ∧ x = -nI q) ∧ (M = N * q ∧ q ≤ M) ∧ k0 < (W - 3) * q ∧ (∀ k, k < k0 → frI d (k / q) (k % q) q N = false) ∧ frI d (k0 / q) (k0 % q) q N = true ∧ d' = itr (tkS (nI p) (k0 / q) (k0 % q) q) N d
/-- it finds none -/
def plNo (W M : Nat) (x : Int32) (d : Nat → Int32) : Prop :=
  (∃ r, (1 ≤ r ∧ r ≤ 4 ∧ x = nI r) ∧ (W - 3) % r ≠ 0) ∨ (∃ r, (1 ≤ r ∧ r ≤ 4 ∧ x = nI r) ∧ (W - 3) % r = 0 ∧ ∀ c, c < (W - 3) / r → manyI d M ((W - 3) / r) c r = false) ∨
  (∃ q, ((q = 2 ∨ q = 4 ∨ q = 8) ∧ x = -nI q) ∧ M < q) ∨ ∃ q N, ((q = 2 ∨ q = 4 ∨ q = 8) ∧ x = -nI q) ∧ (M = N * q ∧ q ≤ M) ∧ ∀ k, k < (W - 3) * q → frI d (k / q) (k % q) q N = false
def fillM (i : Nat) (d : Nat → Int32) : Nat → Int32 := upd d i (-1)
def ownS (d : Nat → Int32) (k : Nat) (now : Nat → Int32) : Nat → Int32 := upd now (201 + k) (d k)
theorem ownS_lo (d now : Nat → Int32) {j : Nat} (h : j < 201) : ∀ n, itr (ownS d) n now j = now j
  | 0 => rfl
  | n + 1 => by
    rw [itr_s]
    unfold ownS
    rw [upd_n (by omega)]
    exact ownS_lo d now h n
theorem neg_le {q : Nat} (hq : q = 2 ∨ q = 4 ∨ q = 8) : -nI q ≤ 0 := by rcases hq with rfl | rfl | rfl <;> decide
set_option maxRecDepth 100000 in
set_option maxHeartbeats 4000000 in
theorem c_X6_draws_t {l : Launch} (hl : l.stackTraces = false) (K : jK) (F : GH) (h0 hs : Nat) (now past : Nat → Int32) (kept thrown : Int32) (drawn : Nat → Int32) (hash : Int64) (W : Nat) (hW : now 0 = nI W) (hW6 : 6 ≤ W) (hW9 : W ≤ 16) (n M : Nat) (hn : now 2 = nI n) (hn9 : n ≤ 12) (hM : now 1 = nI M) (hM9 : M ≤ 8) (hR : ∀ j, j < n → rOk (now (33 + 14 * j + 0))) (S : Nat → Nat) (hS : S = fun j => sOf M (now (33 + 14 * j + 0))) (hS9 : ∀ j, j < n → S j < 1000) (D : Nat → Nat → Int32) (hD0 : D 0 = itr fillM 128 drawn) (pl : Nat → Nat) (hpl : ∀ t, t < n → pl t < n ∧ rank S n (pl t) = t ∧ ∀ p, p < pl t → rank S n p ≠ t) (hok : ∀ t, t < n → plOk W M (now (33 + 14 * pl t + 0)) (pl t) (D t) (D (t + 1))) : Ct l K yX6_draws cX6_draws 5 (some .int) 3 69 0 0 [.ref h0] (gB F h0 (mC K h0 now past kept thrown drawn hash)) hs (pI (fun z9 G' _ => z9 = -1 ∧ G' = (gB F h0 (mC K h0 now past kept thrown (D n) hash)))) jno := by
  refine Ct.ofA hl (by decide) (Nat.le_of_ble_eq_true rfl) (L0 := [some (.ref h0), none, none, none, none]) (jL_of 4 rfl) ?_
  intro A E hE hQ hX hNm
  refine j_iconst hE (v := nI 0) dX6_draws_0 (by decide) ?_
  refine j_ist1 hE dX6_draws_1 rfl (by decide) rfl ?_
  have key2 : ∀ i, i ≤ 128 → ∀ hs, J K A E 5 (gB F h0 (mC K h0 now past kept thrown (itr fillM i drawn) hash)) hs 0 0 2 [some (.ref h0), some (.int (nI i)), none, none, none] [] := by
    refine dloop (fun i => ∀ hs, J K A E 5 (gB F h0 (mC K h0 now past kept thrown (itr fillM i drawn) hash)) hs 0 0 2 [some (.ref h0), some (.int (nI i)), none, none, none] []) (128) (fun i hi2 ih2 => ?_) ?_
    · intro hs
      refine j_iload_n hE (i := 1) dX6_draws_2 rfl rfl ?_
      refine j_sipush hE (v := nI 128) dX6_draws_3 (by decide) ?_
      refine j_ic_geN hE (tgt := 22) dX6_draws_6 (by decide) (by omega) (by omega) (fun h6 => ?_) (fun h6 => ?_)
      · exfalso; omega
      · refine j_aload_n hE (i := 0) dX6_draws_9 rfl rfl ?_
        refine j_get hE flX6_16 gB_0 rfl dX6_draws_10 ?_
        refine j_iload_n hE (i := 1) dX6_draws_13 rfl rfl ?_
        refine j_iconst hE (v := -1) dX6_draws_14 (by decide) ?_
        refine b_ast3 hE rfl (by omega) (by decide) dX6_draws_15 ?_
        refine j_incN1 hE dX6_draws_16 (by decide) rfl ?_
        refine j_goto hE (tgt := 2) dX6_draws_19 (by decide) ?_
        exact ih2 _
    · intro hs
      refine j_iload_n hE (i := 1) dX6_draws_2 rfl rfl ?_
      refine j_sipush hE (v := nI 128) dX6_draws_3 (by decide) ?_
      refine j_ic_geN hE (tgt := 22) dX6_draws_6 (by decide) (by omega) (by omega) (fun h6 => ?_) (fun h6 => ?_)
      · rw [← hD0]
        refine j_iconst hE (v := nI 0) dX6_draws_22 (by decide) ?_
        refine j_ist1 hE dX6_draws_23 rfl (by decide) rfl ?_
        have key24 : ∀ t, t ≤ n → ∀ hs, ∀ a2 a3 a4, J K A E 5 (gB F h0 (mC K h0 now past kept thrown (D t) hash)) hs 0 0 24 [some (.ref h0), some (.int (nI t)), a2, a3, a4] [] := by
          refine dloop (fun t => ∀ hs, ∀ a2 a3 a4, J K A E 5 (gB F h0 (mC K h0 now past kept thrown (D t) hash)) hs 0 0 24 [some (.ref h0), some (.int (nI t)), a2, a3, a4] []) (n) (fun t hi24 ih24 => ?_) ?_
          · intro hs
            intro a2 a3 a4
            obtain ⟨T9, hT9⟩ : ∃ T9, T9 = t := ⟨_, rfl⟩
            rw [← hT9]
            have hp9 := (hpl T9 (by omega)).1
            have hok9 := hok T9 (by omega)
            rw [show t + 1 = T9 + 1 by omega] at ih24
            refine j_iload_n hE (i := 1) dX6_draws_24 rfl rfl ?_
            refine j_aload_n hE (i := 0) dX6_draws_25 rfl rfl ?_
            refine j_get hE flX6_7 gB_0 rfl dX6_draws_26 ?_
            refine j_iconst hE (v := nI 2) dX6_draws_29 (by decide) ?_
            refine j_iald hE gB_1 rfl (by omega) (by decide) dX6_draws_30 ?_
            rw [hn]
            refine j_ic_geN hE (tgt := 82) dX6_draws_31 (by decide) (by omega) (by omega) (fun h31 => ?_) (fun h31 => ?_)
            · exfalso; omega
            · refine j_aload_n hE (i := 0) dX6_draws_34 rfl rfl ?_
              refine j_iload_n hE (i := 1) dX6_draws_35 rfl rfl ?_
              refine j_cVi hE mlX6_58 gB_0 (fun l hl => c_X6_placedAt hl K F h0 _ _ _ _ _ _ _ n M hn hn9 hM hM9 hR S hS hS9 _ (by omega) (pl T9) (hpl T9 (by omega)).1 (hpl T9 (by omega)).2.2 (hpl T9 (by omega)).2.1) rfl rfl (Nat.le_of_ble_eq_true rfl) (by decide) (by decide) (by omega) (by omega) dX6_draws_36 (fun r G9 hs9 hp => ?_) (fun _ _ h => h.elim)
              obtain ⟨rfl, rfl⟩ := hp
              refine j_ist2 hE dX6_draws_39 rfl (by decide) rfl ?_
              refine j_aload_n hE (i := 0) dX6_draws_40 rfl rfl ?_
              refine j_iload_n hE (i := 2) dX6_draws_41 rfl rfl ?_
              refine j_iconst hE (v := nI 0) dX6_draws_42 (by decide) ?_
              refine j_cVi hE mlX6_43 gB_0 (fun l hl => c_X6_of hl K F h0 _ _ _ _ _ _ _ _ _ (by omega)) rfl rfl (Nat.le_of_ble_eq_true rfl) (by decide) (by decide) (by omega) (by omega) dX6_draws_43 (fun r G9 hs9 hp => ?_) (fun _ _ h => h.elim)
              obtain ⟨rfl, rfl⟩ := hp
              rcases hok9 with ⟨r, c0, ⟨hr1, hr4, hx⟩, h1, h2, h3, h4, h5⟩ | ⟨q, N9, k0, ⟨hq, hx⟩, ⟨hN, hqM⟩, h2, h3, h4, h5⟩
              · rw [hx]
                refine j_ist3 hE dX6_draws_46 rfl (by decide) rfl ?_
                refine j_iload_n hE (i := 3) dX6_draws_47 rfl rfl ?_
                refine j_if_leN hE (tgt := 60) dX6_draws_48 (by decide) (by omega) (fun h48 => ?_) (fun h48 => ?_)
                · exfalso; omega
                · refine j_aload_n hE (i := 0) dX6_draws_51 rfl rfl ?_
                  refine j_iload_n hE (i := 2) dX6_draws_52 rfl rfl ?_
                  refine j_iload_n hE (i := 3) dX6_draws_53 rfl rfl ?_
                  refine j_cVi hE mlX6_61 gB_0 (fun l hl => c_X6_placesMany_t hl K F h0 _ _ _ _ _ _ _ W M hW hM hW6 hW9 hM9 _ r hr1 hr4 h1 c0 h2 h3 h4) rfl rfl (Nat.le_of_ble_eq_true rfl) (by decide) (by decide) (by omega) (by omega) dX6_draws_54 (fun r G9 hs9 hp => ?_) (fun _ _ h => h.elim)
                  obtain ⟨rfl, rfl⟩ := hp
                  rw [← h5]
                  refine j_goto hE (tgt := 67) dX6_draws_57 (by decide) ?_
                  refine j_ist4 hE dX6_draws_67 (by decide) rfl ?_
                  refine j_iload hE dX6_draws_69 rfl ?_
                  refine j_if_neN hE (tgt := 76) dX6_draws_71 (by decide) (by omega) (fun h71 => ?_) (fun h71 => ?_)
                  · refine j_incN1 hE dX6_draws_76 (by decide) rfl ?_
                    refine j_goto hE (tgt := 24) dX6_draws_79 (by decide) ?_
                    exact ih24 _ _ _ _
                  · exfalso; omega
              · rw [hx]
                refine j_ist3 hE dX6_draws_46 rfl (by decide) rfl ?_
                refine j_iload_n hE (i := 3) dX6_draws_47 rfl rfl ?_
                refine j_if_le hE (tgt := 60) dX6_draws_48 (by decide) (fun h48 => ?_) (fun h48 => ?_)
                · refine j_aload_n hE (i := 0) dX6_draws_60 rfl rfl ?_
                  refine j_iload_n hE (i := 2) dX6_draws_61 rfl rfl ?_
                  refine j_iload_n hE (i := 3) dX6_draws_62 rfl rfl ?_
                  refine j_ineg hE dX6_draws_63 ?_
                  rw [Int32.neg_neg]
                  have hq9 : 1 ≤ q ∧ q ≤ 8 := by omega
                  refine j_cVi hE mlX6_65 gB_0 (fun l hl => c_X6_placesFew_t hl K F h0 _ _ _ _ _ _ _ W M hW hM hW6 hW9 hM9 _ q N9 (by omega) (by omega) hN hqM k0 h2 h3 h4) rfl rfl (Nat.le_of_ble_eq_true rfl) (by decide) (by decide) (by omega) (by omega) dX6_draws_64 (fun r G9 hs9 hp => ?_) (fun _ _ h => h.elim)
                  obtain ⟨rfl, rfl⟩ := hp
                  rw [← h5]
                  refine j_ist4 hE dX6_draws_67 (by decide) rfl ?_
                  refine j_iload hE dX6_draws_69 rfl ?_
                  refine j_if_neN hE (tgt := 76) dX6_draws_71 (by decide) (by omega) (fun h71 => ?_) (fun h71 => ?_)
                  · refine j_incN1 hE dX6_draws_76 (by decide) rfl ?_
                    refine j_goto hE (tgt := 24) dX6_draws_79 (by decide) ?_
                    exact ih24 _ _ _ _
                  · exfalso; omega
                · exact absurd (neg_le hq) h48
          · intro hs
            intro a2 a3 a4
            refine j_iload_n hE (i := 1) dX6_draws_24 rfl rfl ?_
            refine j_aload_n hE (i := 0) dX6_draws_25 rfl rfl ?_
            refine j_get hE flX6_7 gB_0 rfl dX6_draws_26 ?_
            refine j_iconst hE (v := nI 2) dX6_draws_29 (by decide) ?_
            refine j_iald hE gB_1 rfl (by omega) (by decide) dX6_draws_30 ?_
            rw [hn]
            refine j_ic_geN hE (tgt := 82) dX6_draws_31 (by decide) (by omega) (by omega) (fun h31 => ?_) (fun h31 => ?_)
            · refine j_iconst hE (v := -1) dX6_draws_82 (by decide) ?_
              refine j_iret hE hQ rfl (by omega) (by omega) dX6_draws_83 ?_
              exact ⟨_, rfl, rfl, rfl⟩
            · exfalso; omega
        exact key24 0 (by omega) _ _ _ _
      · exfalso; omega
  exact key2 0 (by omega) _

set_option maxRecDepth 100000 in
set_option maxHeartbeats 4000000 in
theorem c_X6_draws_f {l : Launch} (hl : l.stackTraces = false) (K : jK) (F : GH) (h0 hs : Nat) (now past : Nat → Int32) (kept thrown : Int32) (drawn : Nat → Int32) (hash : Int64) (W : Nat) (hW : now 0 = nI W) (hW6 : 6 ≤ W) (hW9 : W ≤ 16) (n M : Nat) (hn : now 2 = nI n) (hn9 : n ≤ 12) (hM : now 1 = nI M) (hM9 : M ≤ 8) (hR : ∀ j, j < n → rOk (now (33 + 14 * j + 0))) (S : Nat → Nat) (hS : S = fun j => sOf M (now (33 + 14 * j + 0))) (hS9 : ∀ j, j < n → S j < 1000) (D : Nat → Nat → Int32) (hD0 : D 0 = itr fillM 128 drawn) (pl : Nat → Nat) (hpl : ∀ t, t < n → pl t < n ∧ rank S n (pl t) = t ∧ ∀ p, p < pl t → rank S n p ≠ t) (T : Nat) (hT : T < n) (hok : ∀ t, t < T → plOk W M (now (33 + 14 * pl t + 0)) (pl t) (D t) (D (t + 1))) (hno : plNo W M (now (33 + 14 * pl T + 0)) (D T)) : Ct l K yX6_draws cX6_draws 5 (some .int) 3 69 0 0 [.ref h0] (gB F h0 (mC K h0 now past kept thrown drawn hash)) hs (pI (fun z9 G' _ => z9 = nI (pl T) ∧ G' = (gB F h0 (mC K h0 now past kept thrown (D T) hash)))) jno := by
  refine Ct.ofA hl (by decide) (Nat.le_of_ble_eq_true rfl) (L0 := [some (.ref h0), none, none, none, none]) (jL_of 4 rfl) ?_
  intro A E hE hQ hX hNm
  refine j_iconst hE (v := nI 0) dX6_draws_0 (by decide) ?_
  refine j_ist1 hE dX6_draws_1 rfl (by decide) rfl ?_
  have key2 : ∀ i, i ≤ 128 → ∀ hs, J K A E 5 (gB F h0 (mC K h0 now past kept thrown (itr fillM i drawn) hash)) hs 0 0 2 [some (.ref h0), some (.int (nI i)), none, none, none] [] := by
    refine dloop (fun i => ∀ hs, J K A E 5 (gB F h0 (mC K h0 now past kept thrown (itr fillM i drawn) hash)) hs 0 0 2 [some (.ref h0), some (.int (nI i)), none, none, none] []) (128) (fun i hi2 ih2 => ?_) ?_
    · intro hs
      refine j_iload_n hE (i := 1) dX6_draws_2 rfl rfl ?_
      refine j_sipush hE (v := nI 128) dX6_draws_3 (by decide) ?_
      refine j_ic_geN hE (tgt := 22) dX6_draws_6 (by decide) (by omega) (by omega) (fun h6 => ?_) (fun h6 => ?_)
      · exfalso; omega
      · refine j_aload_n hE (i := 0) dX6_draws_9 rfl rfl ?_
        refine j_get hE flX6_16 gB_0 rfl dX6_draws_10 ?_
        refine j_iload_n hE (i := 1) dX6_draws_13 rfl rfl ?_
        refine j_iconst hE (v := -1) dX6_draws_14 (by decide) ?_
        refine b_ast3 hE rfl (by omega) (by decide) dX6_draws_15 ?_
        refine j_incN1 hE dX6_draws_16 (by decide) rfl ?_
        refine j_goto hE (tgt := 2) dX6_draws_19 (by decide) ?_
        exact ih2 _
    · intro hs
      refine j_iload_n hE (i := 1) dX6_draws_2 rfl rfl ?_
      refine j_sipush hE (v := nI 128) dX6_draws_3 (by decide) ?_
      refine j_ic_geN hE (tgt := 22) dX6_draws_6 (by decide) (by omega) (by omega) (fun h6 => ?_) (fun h6 => ?_)
      · rw [← hD0]
        refine j_iconst hE (v := nI 0) dX6_draws_22 (by decide) ?_
        refine j_ist1 hE dX6_draws_23 rfl (by decide) rfl ?_
        have key24 : ∀ t, t ≤ T → ∀ hs, ∀ a2 a3 a4, J K A E 5 (gB F h0 (mC K h0 now past kept thrown (D t) hash)) hs 0 0 24 [some (.ref h0), some (.int (nI t)), a2, a3, a4] [] := by
          refine dloop (fun t => ∀ hs, ∀ a2 a3 a4, J K A E 5 (gB F h0 (mC K h0 now past kept thrown (D t) hash)) hs 0 0 24 [some (.ref h0), some (.int (nI t)), a2, a3, a4] []) (T) (fun t hi24 ih24 => ?_) ?_
          · intro hs
            intro a2 a3 a4
            obtain ⟨T9, hT9⟩ : ∃ T9, T9 = t := ⟨_, rfl⟩
            rw [← hT9]
            have hp9 := (hpl T9 (by omega)).1
            have hok9 := hok T9 (by omega)
            rw [show t + 1 = T9 + 1 by omega] at ih24
            refine j_iload_n hE (i := 1) dX6_draws_24 rfl rfl ?_
            refine j_aload_n hE (i := 0) dX6_draws_25 rfl rfl ?_
            refine j_get hE flX6_7 gB_0 rfl dX6_draws_26 ?_
            refine j_iconst hE (v := nI 2) dX6_draws_29 (by decide) ?_
            refine j_iald hE gB_1 rfl (by omega) (by decide) dX6_draws_30 ?_
            rw [hn]
            refine j_ic_geN hE (tgt := 82) dX6_draws_31 (by decide) (by omega) (by omega) (fun h31 => ?_) (fun h31 => ?_)
            · exfalso; omega
            · refine j_aload_n hE (i := 0) dX6_draws_34 rfl rfl ?_
              refine j_iload_n hE (i := 1) dX6_draws_35 rfl rfl ?_
              refine j_cVi hE mlX6_58 gB_0 (fun l hl => c_X6_placedAt hl K F h0 _ _ _ _ _ _ _ n M hn hn9 hM hM9 hR S hS hS9 _ (by omega) (pl T9) (hpl T9 (by omega)).1 (hpl T9 (by omega)).2.2 (hpl T9 (by omega)).2.1) rfl rfl (Nat.le_of_ble_eq_true rfl) (by decide) (by decide) (by omega) (by omega) dX6_draws_36 (fun r G9 hs9 hp => ?_) (fun _ _ h => h.elim)
              obtain ⟨rfl, rfl⟩ := hp
              refine j_ist2 hE dX6_draws_39 rfl (by decide) rfl ?_
              refine j_aload_n hE (i := 0) dX6_draws_40 rfl rfl ?_
              refine j_iload_n hE (i := 2) dX6_draws_41 rfl rfl ?_
              refine j_iconst hE (v := nI 0) dX6_draws_42 (by decide) ?_
              refine j_cVi hE mlX6_43 gB_0 (fun l hl => c_X6_of hl K F h0 _ _ _ _ _ _ _ _ _ (by omega)) rfl rfl (Nat.le_of_ble_eq_true rfl) (by decide) (by decide) (by omega) (by omega) dX6_draws_43 (fun r G9 hs9 hp => ?_) (fun _ _ h => h.elim)
              obtain ⟨rfl, rfl⟩ := hp
              rcases hok9 with ⟨r, c0, ⟨hr1, hr4, hx⟩, h1, h2, h3, h4, h5⟩ | ⟨q, N9, k0, ⟨hq, hx⟩, ⟨hN, hqM⟩, h2, h3, h4, h5⟩
              · rw [hx]
                refine j_ist3 hE dX6_draws_46 rfl (by decide) rfl ?_
                refine j_iload_n hE (i := 3) dX6_draws_47 rfl rfl ?_
                refine j_if_leN hE (tgt := 60) dX6_draws_48 (by decide) (by omega) (fun h48 => ?_) (fun h48 => ?_)
                · exfalso; omega
                · refine j_aload_n hE (i := 0) dX6_draws_51 rfl rfl ?_
                  refine j_iload_n hE (i := 2) dX6_draws_52 rfl rfl ?_
                  refine j_iload_n hE (i := 3) dX6_draws_53 rfl rfl ?_
                  refine j_cVi hE mlX6_61 gB_0 (fun l hl => c_X6_placesMany_t hl K F h0 _ _ _ _ _ _ _ W M hW hM hW6 hW9 hM9 _ r hr1 hr4 h1 c0 h2 h3 h4) rfl rfl (Nat.le_of_ble_eq_true rfl) (by decide) (by decide) (by omega) (by omega) dX6_draws_54 (fun r G9 hs9 hp => ?_) (fun _ _ h => h.elim)
                  obtain ⟨rfl, rfl⟩ := hp
                  rw [← h5]
                  refine j_goto hE (tgt := 67) dX6_draws_57 (by decide) ?_
                  refine j_ist4 hE dX6_draws_67 (by decide) rfl ?_
                  refine j_iload hE dX6_draws_69 rfl ?_
                  refine j_if_neN hE (tgt := 76) dX6_draws_71 (by decide) (by omega) (fun h71 => ?_) (fun h71 => ?_)
                  · refine j_incN1 hE dX6_draws_76 (by decide) rfl ?_
                    refine j_goto hE (tgt := 24) dX6_draws_79 (by decide) ?_
                    exact ih24 _ _ _ _
                  · exfalso; omega
              · rw [hx]
                refine j_ist3 hE dX6_draws_46 rfl (by decide) rfl ?_
                refine j_iload_n hE (i := 3) dX6_draws_47 rfl rfl ?_
                refine j_if_le hE (tgt := 60) dX6_draws_48 (by decide) (fun h48 => ?_) (fun h48 => ?_)
                · refine j_aload_n hE (i := 0) dX6_draws_60 rfl rfl ?_
                  refine j_iload_n hE (i := 2) dX6_draws_61 rfl rfl ?_
                  refine j_iload_n hE (i := 3) dX6_draws_62 rfl rfl ?_
                  refine j_ineg hE dX6_draws_63 ?_
                  rw [Int32.neg_neg]
                  have hq9 : 1 ≤ q ∧ q ≤ 8 := by omega
                  refine j_cVi hE mlX6_65 gB_0 (fun l hl => c_X6_placesFew_t hl K F h0 _ _ _ _ _ _ _ W M hW hM hW6 hW9 hM9 _ q N9 (by omega) (by omega) hN hqM k0 h2 h3 h4) rfl rfl (Nat.le_of_ble_eq_true rfl) (by decide) (by decide) (by omega) (by omega) dX6_draws_64 (fun r G9 hs9 hp => ?_) (fun _ _ h => h.elim)
                  obtain ⟨rfl, rfl⟩ := hp
                  rw [← h5]
                  refine j_ist4 hE dX6_draws_67 (by decide) rfl ?_
                  refine j_iload hE dX6_draws_69 rfl ?_
                  refine j_if_neN hE (tgt := 76) dX6_draws_71 (by decide) (by omega) (fun h71 => ?_) (fun h71 => ?_)
                  · refine j_incN1 hE dX6_draws_76 (by decide) rfl ?_
                    refine j_goto hE (tgt := 24) dX6_draws_79 (by decide) ?_
                    exact ih24 _ _ _ _
                  · exfalso; omega
                · exact absurd (neg_le hq) h48
          · intro hs
            intro a2 a3 a4
            obtain ⟨T9, hT9⟩ : ∃ T9, T9 = T := ⟨_, rfl⟩
            rw [← hT9]
            have hp9 := (hpl T9 (by omega)).1
            rw [← hT9] at hno hQ
            refine j_iload_n hE (i := 1) dX6_draws_24 rfl rfl ?_
            refine j_aload_n hE (i := 0) dX6_draws_25 rfl rfl ?_
            refine j_get hE flX6_7 gB_0 rfl dX6_draws_26 ?_
            refine j_iconst hE (v := nI 2) dX6_draws_29 (by decide) ?_
            refine j_iald hE gB_1 rfl (by omega) (by decide) dX6_draws_30 ?_
            rw [hn]
            refine j_ic_geN hE (tgt := 82) dX6_draws_31 (by decide) (by omega) (by omega) (fun h31 => ?_) (fun h31 => ?_)
            · exfalso; omega
            · refine j_aload_n hE (i := 0) dX6_draws_34 rfl rfl ?_
              refine j_iload_n hE (i := 1) dX6_draws_35 rfl rfl ?_
              refine j_cVi hE mlX6_58 gB_0 (fun l hl => c_X6_placedAt hl K F h0 _ _ _ _ _ _ _ n M hn hn9 hM hM9 hR S hS hS9 _ (by omega) (pl T9) (hpl T9 (by omega)).1 (hpl T9 (by omega)).2.2 (hpl T9 (by omega)).2.1) rfl rfl (Nat.le_of_ble_eq_true rfl) (by decide) (by decide) (by omega) (by omega) dX6_draws_36 (fun r G9 hs9 hp => ?_) (fun _ _ h => h.elim)
              obtain ⟨rfl, rfl⟩ := hp
              refine j_ist2 hE dX6_draws_39 rfl (by decide) rfl ?_
              refine j_aload_n hE (i := 0) dX6_draws_40 rfl rfl ?_
              refine j_iload_n hE (i := 2) dX6_draws_41 rfl rfl ?_
              refine j_iconst hE (v := nI 0) dX6_draws_42 (by decide) ?_
              refine j_cVi hE mlX6_43 gB_0 (fun l hl => c_X6_of hl K F h0 _ _ _ _ _ _ _ _ _ (by omega)) rfl rfl (Nat.le_of_ble_eq_true rfl) (by decide) (by decide) (by omega) (by omega) dX6_draws_43 (fun r G9 hs9 hp => ?_) (fun _ _ h => h.elim)
              obtain ⟨rfl, rfl⟩ := hp
              rcases hno with ⟨r, ⟨hr1, hr4, hx⟩, h1⟩ | ⟨r, ⟨hr1, hr4, hx⟩, h1, h2⟩ | ⟨q, ⟨hq, hx⟩, h1⟩ | ⟨q, N9, ⟨hq, hx⟩, ⟨hN, hqM⟩, h2⟩
              · rw [hx]
                refine j_ist3 hE dX6_draws_46 rfl (by decide) rfl ?_
                refine j_iload_n hE (i := 3) dX6_draws_47 rfl rfl ?_
                refine j_if_leN hE (tgt := 60) dX6_draws_48 (by decide) (by omega) (fun h48 => ?_) (fun h48 => ?_)
                · exfalso; omega
                · refine j_aload_n hE (i := 0) dX6_draws_51 rfl rfl ?_
                  refine j_iload_n hE (i := 2) dX6_draws_52 rfl rfl ?_
                  refine j_iload_n hE (i := 3) dX6_draws_53 rfl rfl ?_
                  refine j_cVi hE mlX6_61 gB_0 (fun l hl => c_X6_placesMany_d hl K F h0 _ _ _ _ _ _ _ W M hW hM hW6 hW9 hM9 _ r hr1 hr4 h1) rfl rfl (Nat.le_of_ble_eq_true rfl) (by decide) (by decide) (by omega) (by omega) dX6_draws_54 (fun r G9 hs9 hp => ?_) (fun _ _ h => h.elim)
                  obtain ⟨rfl, rfl⟩ := hp
                  refine j_goto hE (tgt := 67) dX6_draws_57 (by decide) ?_
                  refine j_ist4 hE dX6_draws_67 (by decide) rfl ?_
                  refine j_iload hE dX6_draws_69 rfl ?_
                  refine j_if_neN hE (tgt := 76) dX6_draws_71 (by decide) (by omega) (fun h71 => ?_) (fun h71 => ?_)
                  · exfalso; omega
                  · refine j_iload_n hE (i := 2) dX6_draws_74 rfl rfl ?_
                    refine j_iret hE hQ rfl (by omega) (by omega) dX6_draws_75 ?_
                    exact ⟨_, rfl, rfl, rfl⟩
              · rw [hx]
                refine j_ist3 hE dX6_draws_46 rfl (by decide) rfl ?_
                refine j_iload_n hE (i := 3) dX6_draws_47 rfl rfl ?_
                refine j_if_leN hE (tgt := 60) dX6_draws_48 (by decide) (by omega) (fun h48 => ?_) (fun h48 => ?_)
                · exfalso; omega
                · refine j_aload_n hE (i := 0) dX6_draws_51 rfl rfl ?_
                  refine j_iload_n hE (i := 2) dX6_draws_52 rfl rfl ?_
                  refine j_iload_n hE (i := 3) dX6_draws_53 rfl rfl ?_
                  refine j_cVi hE mlX6_61 gB_0 (fun l hl => c_X6_placesMany_f hl K F h0 _ _ _ _ _ _ _ W M hW hM hW6 hW9 hM9 _ r hr1 hr4 h1 h2) rfl rfl (Nat.le_of_ble_eq_true rfl) (by decide) (by decide) (by omega) (by omega) dX6_draws_54 (fun r G9 hs9 hp => ?_) (fun _ _ h => h.elim)
                  obtain ⟨rfl, rfl⟩ := hp
                  refine j_goto hE (tgt := 67) dX6_draws_57 (by decide) ?_
                  refine j_ist4 hE dX6_draws_67 (by decide) rfl ?_
                  refine j_iload hE dX6_draws_69 rfl ?_
                  refine j_if_neN hE (tgt := 76) dX6_draws_71 (by decide) (by omega) (fun h71 => ?_) (fun h71 => ?_)
                  · exfalso; omega
                  · refine j_iload_n hE (i := 2) dX6_draws_74 rfl rfl ?_
                    refine j_iret hE hQ rfl (by omega) (by omega) dX6_draws_75 ?_
                    exact ⟨_, rfl, rfl, rfl⟩
              · rw [hx]
                refine j_ist3 hE dX6_draws_46 rfl (by decide) rfl ?_
                refine j_iload_n hE (i := 3) dX6_draws_47 rfl rfl ?_
                refine j_if_le hE (tgt := 60) dX6_draws_48 (by decide) (fun h48 => ?_) (fun h48 => ?_)
                · refine j_aload_n hE (i := 0) dX6_draws_60 rfl rfl ?_
                  refine j_iload_n hE (i := 2) dX6_draws_61 rfl rfl ?_
                  refine j_iload_n hE (i := 3) dX6_draws_62 rfl rfl ?_
                  refine j_ineg hE dX6_draws_63 ?_
                  rw [Int32.neg_neg]
                  have hq9 : 1 ≤ q ∧ q ≤ 8 := by omega
                  refine j_cVi hE mlX6_65 gB_0 (fun l hl => c_X6_placesFew_m hl K F h0 _ _ _ _ _ _ _ W M hW hM hW6 hW9 hM9 _ q (by omega) h1) rfl rfl (Nat.le_of_ble_eq_true rfl) (by decide) (by decide) (by omega) (by omega) dX6_draws_64 (fun r G9 hs9 hp => ?_) (fun _ _ h => h.elim)
                  obtain ⟨rfl, rfl⟩ := hp
                  refine j_ist4 hE dX6_draws_67 (by decide) rfl ?_
                  refine j_iload hE dX6_draws_69 rfl ?_
                  refine j_if_neN hE (tgt := 76) dX6_draws_71 (by decide) (by omega) (fun h71 => ?_) (fun h71 => ?_)
                  · exfalso; omega
                  · refine j_iload_n hE (i := 2) dX6_draws_74 rfl rfl ?_
                    refine j_iret hE hQ rfl (by omega) (by omega) dX6_draws_75 ?_
                    exact ⟨_, rfl, rfl, rfl⟩
                · exact absurd (neg_le hq) h48
              · rw [hx]
                refine j_ist3 hE dX6_draws_46 rfl (by decide) rfl ?_
                refine j_iload_n hE (i := 3) dX6_draws_47 rfl rfl ?_
                refine j_if_le hE (tgt := 60) dX6_draws_48 (by decide) (fun h48 => ?_) (fun h48 => ?_)
                · refine j_aload_n hE (i := 0) dX6_draws_60 rfl rfl ?_
                  refine j_iload_n hE (i := 2) dX6_draws_61 rfl rfl ?_
                  refine j_iload_n hE (i := 3) dX6_draws_62 rfl rfl ?_
                  refine j_ineg hE dX6_draws_63 ?_
                  rw [Int32.neg_neg]
                  have hq9 : 1 ≤ q ∧ q ≤ 8 := by omega
                  refine j_cVi hE mlX6_65 gB_0 (fun l hl => c_X6_placesFew_f hl K F h0 _ _ _ _ _ _ _ W M hW hM hW6 hW9 hM9 _ q N9 (by omega) (by omega) hN hqM h2) rfl rfl (Nat.le_of_ble_eq_true rfl) (by decide) (by decide) (by omega) (by omega) dX6_draws_64 (fun r G9 hs9 hp => ?_) (fun _ _ h => h.elim)
                  obtain ⟨rfl, rfl⟩ := hp
                  refine j_ist4 hE dX6_draws_67 (by decide) rfl ?_
                  refine j_iload hE dX6_draws_69 rfl ?_
                  refine j_if_neN hE (tgt := 76) dX6_draws_71 (by decide) (by omega) (fun h71 => ?_) (fun h71 => ?_)
                  · exfalso; omega
                  · refine j_iload_n hE (i := 2) dX6_draws_74 rfl rfl ?_
                    refine j_iret hE hQ rfl (by omega) (by omega) dX6_draws_75 ?_
                    exact ⟨_, rfl, rfl, rfl⟩
                · exact absurd (neg_le hq) h48
        exact key24 0 (by omega) _ _ _ _
      · exfalso; omega
  exact key2 0 (by omega) _

set_option maxRecDepth 100000 in
set_option maxHeartbeats 4000000 in
theorem c_X6_plan_t {l : Launch} (hl : l.stackTraces = false) (K : jK) (F : GH) (h0 hs : Nat) (now past : Nat → Int32) (thrown : Int32) (k : Nat) (hk : k ≤ 4) (drawn : Nat → Int32) (hash : Int64) (W : Nat) (hW : now 0 = nI W) (hW6 : 6 ≤ W) (hW9 : W ≤ 16) (n M : Nat) (hn : now 2 = nI n) (hn9 : n ≤ 12) (hM : now 1 = nI M) (hM9 : M ≤ 8) (hR : ∀ j, j < n → rOk (now (33 + 14 * j + 0))) (S : Nat → Nat) (hS : S = fun j => sOf M (now (33 + 14 * j + 0))) (hS9 : ∀ j, j < n → S j < 1000) (D : Nat → Nat → Int32) (hD0 : D 0 = itr fillM 128 drawn) (pl : Nat → Nat) (hpl : ∀ t, t < n → pl t < n ∧ rank S n (pl t) = t ∧ ∀ p, p < pl t → rank S n p ≠ t) (hok : ∀ t, t < n → plOk W M (now (33 + 14 * pl t + 0)) (pl t) (D t) (D (t + 1))) : Ct l K yX6_plan cX6_plan 3 (some .int) 4 93 0 0 [.ref h0] (gB F h0 (mC K h0 now past (nI k) thrown drawn hash)) hs (pI (fun z9 G' _ => z9 = nI (cntB (tkP (itr (ownS (D n)) 128 (upd now 3 (nI 1))) W) (16 * M)) ∧ G' = (gB F h0 (mC K h0 (itr (ownS (D n)) 128 (upd now 3 (nI 1))) (mKeep now past k) (nI (mKept k)) (nI 0) (D n) hash)))) jno := by
  refine Ct.ofA hl (by decide) (Nat.le_of_ble_eq_true rfl) (L0 := [some (.ref h0), none, none]) (jL_of 2 rfl) ?_
  intro A E hE hQ hX hNm
  refine j_aload_n hE (i := 0) dX6_plan_0 rfl rfl ?_
  refine j_iconst hE (v := nI 0) dX6_plan_1 (by decide) ?_
  refine b_put3 hE flX6_19 rfl rfl dX6_plan_2 ?_
  refine j_aload_n hE (i := 0) dX6_plan_5 rfl rfl ?_
  refine j_cVi hE mlX6_68 gB_0 (fun l hl => c_X6_draws_t hl K F h0 _ _ _ _ _ _ _ W hW hW6 hW9 n M hn hn9 hM hM9 hR S hS hS9 D hD0 pl hpl hok) rfl rfl (Nat.le_of_ble_eq_true rfl) (by decide) (by decide) (by omega) (by omega) dX6_plan_6 (fun r G9 hs9 hp => ?_) (fun _ _ h => h.elim)
  obtain ⟨rfl, rfl⟩ := hp
  refine j_ist1 hE dX6_plan_9 rfl (by decide) rfl ?_
  refine j_iload_n hE (i := 1) dX6_plan_10 rfl rfl ?_
  refine j_iconst hE (v := -1) dX6_plan_11 (by decide) ?_
  refine j_ic_eq hE (tgt := 20) dX6_plan_12 (by decide) (fun h12 => ?_) (fun h12 => ?_)
  · refine j_aload_n hE (i := 0) dX6_plan_20 rfl rfl ?_
    refine j_cVv hE mlX6_33 gB_0 (fun l hl => c_X6_keep hl K F h0 _ _ _ _ _ hk _ _) rfl rfl (Nat.le_of_ble_eq_true rfl) (by decide) (by decide) (by omega) (by omega) dX6_plan_21 (fun G9 hs9 hp => ?_) (fun _ _ h => h.elim)
    subst hp
    refine j_aload_n hE (i := 0) dX6_plan_24 rfl rfl ?_
    refine j_get hE flX6_7 gB_0 rfl dX6_plan_25 ?_
    refine j_iconst hE (v := nI 3) dX6_plan_28 (by decide) ?_
    refine j_iconst hE (v := nI 1) dX6_plan_29 (by decide) ?_
    refine b_ast1 hE rfl (by omega) (by decide) dX6_plan_30 ?_
    refine j_iconst hE (v := nI 0) dX6_plan_31 (by decide) ?_
    refine j_ist2 hE dX6_plan_32 rfl (by decide) rfl ?_
    have key33 : ∀ i, i ≤ 128 → ∀ hs, J K A E 3 (gB F h0 (mC K h0 (itr (ownS (D n)) i (upd now 3 (nI 1))) (mKeep now past k) (nI (mKept k)) (nI 0) (D n) hash)) hs 0 0 33 [some (.ref h0), some (.int (-1)), some (.int (nI i))] [] := by
      refine dloop (fun i => ∀ hs, J K A E 3 (gB F h0 (mC K h0 (itr (ownS (D n)) i (upd now 3 (nI 1))) (mKeep now past k) (nI (mKept k)) (nI 0) (D n) hash)) hs 0 0 33 [some (.ref h0), some (.int (-1)), some (.int (nI i))] []) (128) (fun i hi33 ih33 => ?_) ?_
      · intro hs
        refine j_iload_n hE (i := 2) dX6_plan_33 rfl rfl ?_
        refine j_sipush hE (v := nI 128) dX6_plan_34 (by decide) ?_
        refine j_ic_geN hE (tgt := 62) dX6_plan_37 (by decide) (by omega) (by omega) (fun h37 => ?_) (fun h37 => ?_)
        · exfalso; omega
        · refine j_aload_n hE (i := 0) dX6_plan_40 rfl rfl ?_
          refine j_get hE flX6_7 gB_0 rfl dX6_plan_41 ?_
          refine j_sipush hE (v := nI 201) dX6_plan_44 (by decide) ?_
          refine j_iload_n hE (i := 2) dX6_plan_47 rfl rfl ?_
          refine j_iaddN hE dX6_plan_48 ?_
          refine j_aload_n hE (i := 0) dX6_plan_49 rfl rfl ?_
          refine j_get hE flX6_16 gB_0 rfl dX6_plan_50 ?_
          refine j_iload_n hE (i := 2) dX6_plan_53 rfl rfl ?_
          refine j_iald hE gB_3 rfl (by omega) (by decide) dX6_plan_54 ?_
          refine b_ast1 hE rfl (by omega) (by decide) dX6_plan_55 ?_
          refine j_incN2 hE dX6_plan_56 (by decide) rfl ?_
          refine j_goto hE (tgt := 33) dX6_plan_59 (by decide) ?_
          exact ih33 _
      · intro hs
        refine j_iload_n hE (i := 2) dX6_plan_33 rfl rfl ?_
        refine j_sipush hE (v := nI 128) dX6_plan_34 (by decide) ?_
        refine j_ic_geN hE (tgt := 62) dX6_plan_37 (by decide) (by omega) (by omega) (fun h37 => ?_) (fun h37 => ?_)
        · refine j_aload_n hE (i := 0) dX6_plan_62 rfl rfl ?_
          refine j_cVi hE mlX6_72 gB_0 (fun l hl => c_X6_takenWords hl K F h0 _ _ _ _ _ _ _ W M (by rw [ownS_lo _ _ (by decide), upd_n (by decide)]; exact hW) (by rw [ownS_lo _ _ (by decide), upd_n (by decide)]; exact hM) hW6 hW9 hM9) rfl rfl (Nat.le_of_ble_eq_true rfl) (by decide) (by decide) (by omega) (by omega) dX6_plan_63 (fun r G9 hs9 hp => ?_) (fun _ _ h => h.elim)
          obtain ⟨rfl, rfl⟩ := hp
          refine j_iret hE hQ rfl (by omega) (by omega) dX6_plan_66 ?_
          exact ⟨_, rfl, rfl, rfl⟩
        · exfalso; omega
    exact key33 0 (by omega) _
  · exact absurd rfl h12

set_option maxRecDepth 100000 in
set_option maxHeartbeats 4000000 in
theorem c_X6_plan_f {l : Launch} (hl : l.stackTraces = false) (K : jK) (F : GH) (h0 hs : Nat) (now past : Nat → Int32) (thrown : Int32) (k : Nat) (hk : k ≤ 4) (drawn : Nat → Int32) (hash : Int64) (W : Nat) (hW : now 0 = nI W) (hW6 : 6 ≤ W) (hW9 : W ≤ 16) (n M : Nat) (hn : now 2 = nI n) (hn9 : n ≤ 12) (hM : now 1 = nI M) (hM9 : M ≤ 8) (hR : ∀ j, j < n → rOk (now (33 + 14 * j + 0))) (S : Nat → Nat) (hS : S = fun j => sOf M (now (33 + 14 * j + 0))) (hS9 : ∀ j, j < n → S j < 1000) (D : Nat → Nat → Int32) (hD0 : D 0 = itr fillM 128 drawn) (pl : Nat → Nat) (hpl : ∀ t, t < n → pl t < n ∧ rank S n (pl t) = t ∧ ∀ p, p < pl t → rank S n p ≠ t) (T : Nat) (hT : T < n) (hok : ∀ t, t < T → plOk W M (now (33 + 14 * pl t + 0)) (pl t) (D t) (D (t + 1))) (hno : plNo W M (now (33 + 14 * pl T + 0)) (D T)) : Ct l K yX6_plan cX6_plan 3 (some .int) 4 93 0 0 [.ref h0] (gB F h0 (mC K h0 now past (nI k) thrown drawn hash)) hs (pI (fun z9 G' _ => z9 = -10 - nI (pl T) ∧ G' = (gB F h0 (mC K h0 now past (nI k) (nI 0) (D T) hash)))) jno := by
  refine Ct.ofA hl (by decide) (Nat.le_of_ble_eq_true rfl) (L0 := [some (.ref h0), none, none]) (jL_of 2 rfl) ?_
  intro A E hE hQ hX hNm
  refine j_aload_n hE (i := 0) dX6_plan_0 rfl rfl ?_
  refine j_iconst hE (v := nI 0) dX6_plan_1 (by decide) ?_
  refine b_put3 hE flX6_19 rfl rfl dX6_plan_2 ?_
  refine j_aload_n hE (i := 0) dX6_plan_5 rfl rfl ?_
  refine j_cVi hE mlX6_68 gB_0 (fun l hl => c_X6_draws_f hl K F h0 _ _ _ _ _ _ _ W hW hW6 hW9 n M hn hn9 hM hM9 hR S hS hS9 D hD0 pl hpl T hT hok hno) rfl rfl (Nat.le_of_ble_eq_true rfl) (by decide) (by decide) (by omega) (by omega) dX6_plan_6 (fun r G9 hs9 hp => ?_) (fun _ _ h => h.elim)
  obtain ⟨rfl, rfl⟩ := hp
  refine j_ist1 hE dX6_plan_9 rfl (by decide) rfl ?_
  refine j_iload_n hE (i := 1) dX6_plan_10 rfl rfl ?_
  refine j_iconst hE (v := -1) dX6_plan_11 (by decide) ?_
  refine j_ic_eq hE (tgt := 20) dX6_plan_12 (by decide) (fun h12 => ?_) (fun h12 => ?_)
  · exact absurd h12 (nI_m1 (by have := (hpl T hT).1; omega))
  · refine j_bipush hE (v := -10) dX6_plan_15 (by decide) ?_
    refine j_iload_n hE (i := 1) dX6_plan_17 rfl rfl ?_
    refine j_isub hE dX6_plan_18 ?_
    refine j_iret hE hQ rfl (by omega) (by omega) dX6_plan_19 ?_
    exact ⟨_, rfl, rfl, rfl⟩

set_option maxRecDepth 100000 in
set_option maxHeartbeats 4000000 in
theorem c_X6_efficiency_t {l : Launch} (hl : l.stackTraces = false) (K : jK) (F : GH) (h0 hs : Nat) (now past : Nat → Int32) (kept thrown : Int32) (drawn : Nat → Int32) (hash : Int64) (W M : Nat) (hW : now 0 = nI W) (hM : now 1 = nI M) (hW6 : 6 ≤ W) (hW9 : W ≤ 16) (hM9 : M ≤ 8) (hp : now 3 = nI 1) (hne : vf_n64 (FP.ddiv (FP.i2d (nI (cntB (tkP now W) (16 * M)))) (FP.i2d (nI (W * M))))) : Ct l K yX6_efficiency cX6_efficiency 1 (some .double) 1 22 0 0 [.ref h0] (gB F h0 (mC K h0 now past kept thrown drawn hash)) hs (pD (fun z9 G' _ => z9 = FP.ddiv (FP.i2d (nI (cntB (tkP now W) (16 * M)))) (FP.i2d (nI (W * M))) ∧ G' = (gB F h0 (mC K h0 now past kept (nI 0) drawn hash)))) jno := by
  refine Ct.ofA hl (by decide) (Nat.le_of_ble_eq_true rfl) (L0 := [some (.ref h0)]) (jL_of 0 rfl) ?_
  intro A E hE hQ hX hNm
  refine j_aload_n hE (i := 0) dX6_efficiency_0 rfl rfl ?_
  refine j_aload_n hE (i := 0) dX6_efficiency_1 rfl rfl ?_
  refine j_get hE flX6_7 gB_0 rfl dX6_efficiency_2 ?_
  refine j_iconst hE (v := nI 3) dX6_efficiency_5 (by decide) ?_
  refine j_iald hE gB_1 rfl (by omega) (by decide) dX6_efficiency_6 ?_
  rw [hp]
  refine j_if_neN hE (tgt := 14) dX6_efficiency_7 (by decide) (by omega) (fun h7 => ?_) (fun h7 => ?_)
  · refine j_iconst hE (v := nI 0) dX6_efficiency_14 (by decide) ?_
    refine b_put3 hE flX6_19 rfl rfl dX6_efficiency_15 ?_
    refine j_aload_n hE (i := 0) dX6_efficiency_18 rfl rfl ?_
    refine j_get hE flX6_19 gB_0 rfl dX6_efficiency_19 ?_
    refine j_if_eqN hE (tgt := 29) dX6_efficiency_22 (by decide) (by omega) (fun h22 => ?_) (fun h22 => ?_)
    · refine j_aload_n hE (i := 0) dX6_efficiency_29 rfl rfl ?_
      refine j_cVi hE mlX6_72 gB_0 (fun l hl => c_X6_takenWords hl K F h0 _ _ _ _ _ _ _ W M hW hM hW6 hW9 hM9) rfl rfl (Nat.le_of_ble_eq_true rfl) (by decide) (by decide) (by omega) (by omega) dX6_efficiency_30 (fun r G9 hs9 hp => ?_) (fun _ _ h => h.elim)
      obtain ⟨rfl, rfl⟩ := hp
      refine j_i2d hE dX6_efficiency_33 ?_
      refine j_aload_n hE (i := 0) dX6_efficiency_34 rfl rfl ?_
      refine j_get hE flX6_7 gB_0 rfl dX6_efficiency_35 ?_
      refine j_iconst hE (v := nI 0) dX6_efficiency_38 (by decide) ?_
      refine j_iald hE gB_1 rfl (by omega) (by decide) dX6_efficiency_39 ?_
      rw [hW]
      refine j_aload_n hE (i := 0) dX6_efficiency_40 rfl rfl ?_
      refine j_get hE flX6_7 gB_0 rfl dX6_efficiency_41 ?_
      refine j_iconst hE (v := nI 1) dX6_efficiency_44 (by decide) ?_
      refine j_iald hE gB_1 rfl (by omega) (by decide) dX6_efficiency_45 ?_
      rw [hM]
      refine j_imulN hE dX6_efficiency_46 ?_
      refine j_i2d hE dX6_efficiency_47 ?_
      refine j_ddiv hE dX6_efficiency_48 hne ?_
      refine j_dret hE hQ (by omega) (by omega) dX6_efficiency_49 ?_
      exact ⟨_, rfl, rfl, rfl⟩
    · exfalso; omega
  · exfalso; omega

set_option maxRecDepth 100000 in
set_option maxHeartbeats 4000000 in
theorem c_X6_efficiency_f {l : Launch} (hl : l.stackTraces = false) (K : jK) (F : GH) (h0 hs : Nat) (now past : Nat → Int32) (kept thrown : Int32) (drawn : Nat → Int32) (hash : Int64) (hp : now 3 = nI 0) : Ct l K yX6_efficiency cX6_efficiency 1 (some .double) 1 22 0 0 [.ref h0] (gB F h0 (mC K h0 now past kept thrown drawn hash)) hs (pD (fun z9 G' _ => z9 = FP.dconst0 ∧ G' = (gB F h0 (mC K h0 now past kept (nI 1) drawn hash)))) jno := by
  refine Ct.ofA hl (by decide) (Nat.le_of_ble_eq_true rfl) (L0 := [some (.ref h0)]) (jL_of 0 rfl) ?_
  intro A E hE hQ hX hNm
  refine j_aload_n hE (i := 0) dX6_efficiency_0 rfl rfl ?_
  refine j_aload_n hE (i := 0) dX6_efficiency_1 rfl rfl ?_
  refine j_get hE flX6_7 gB_0 rfl dX6_efficiency_2 ?_
  refine j_iconst hE (v := nI 3) dX6_efficiency_5 (by decide) ?_
  refine j_iald hE gB_1 rfl (by omega) (by decide) dX6_efficiency_6 ?_
  rw [hp]
  refine j_if_neN hE (tgt := 14) dX6_efficiency_7 (by decide) (by omega) (fun h7 => ?_) (fun h7 => ?_)
  · exfalso; omega
  · refine j_iconst hE (v := nI 1) dX6_efficiency_10 (by decide) ?_
    refine j_goto hE (tgt := 15) dX6_efficiency_11 (by decide) ?_
    refine b_put3 hE flX6_19 rfl rfl dX6_efficiency_15 ?_
    refine j_aload_n hE (i := 0) dX6_efficiency_18 rfl rfl ?_
    refine j_get hE flX6_19 gB_0 rfl dX6_efficiency_19 ?_
    refine j_if_eqN hE (tgt := 29) dX6_efficiency_22 (by decide) (by omega) (fun h22 => ?_) (fun h22 => ?_)
    · exfalso; omega
    · refine j_dconst0 hE dX6_efficiency_25 ?_
      refine j_goto hE (tgt := 49) dX6_efficiency_26 (by decide) ?_
      refine j_dret hE hQ (by omega) (by omega) dX6_efficiency_49 ?_
      exact ⟨_, rfl, rfl, rfl⟩

def slP (now : Nat → Int32) (W : Nat) (p : Int32) (k : Nat) : Bool := decide (k % 16 < W ∧ now (201 + k) = p)
theorem slP_t {now : Nat → Int32} {W k : Nat} {p : Int32} (h : k % 16 < W) (h2 : now (201 + k) = p) : slP now W p k = true := decide_eq_true ⟨h, h2⟩
theorem slP_f1 {now : Nat → Int32} {W k : Nat} {p : Int32} (h : W ≤ k % 16) : slP now W p k = false := decide_eq_false (fun q => by omega)
theorem slP_f2 {now : Nat → Int32} {W k : Nat} {p : Int32} (h : ¬ now (201 + k) = p) : slP now W p k = false := decide_eq_false (fun q => h q.2)
theorem nI_dec (n : Nat) : nI (n + 1) + Int32.ofInt (-1) = nI n := pk_m1 n
set_option maxRecDepth 100000 in
set_option maxHeartbeats 4000000 in
theorem c_X6_slotOf_t {l : Launch} (hl : l.stackTraces = false) (K : jK) (F : GH) (h0 hs : Nat) (now past : Nat → Int32) (kept thrown : Int32) (drawn : Nat → Int32) (hash : Int64) (W M : Nat) (hW : now 0 = nI W) (hM : now 1 = nI M) (hW6 : 6 ≤ W) (hW9 : W ≤ 16) (hM9 : M ≤ 8) (p : Int32) (s : Nat) (hs31 : s < 2 ^ 31) (k0 : Nat) (hk0 : k0 < 16 * M) (hyes : slP now W p k0 = true) (hyes2 : cntB (slP now W p) k0 = s) (hle : ∀ k, k ≤ k0 → cntB (slP now W p) k ≤ s) (hno : ∀ k, k < k0 → slP now W p k = true → cntB (slP now W p) k ≠ s) : Ct l K yX6_slotOf cX6_slotOf 5 (some .int) 0 0 0 0 [.ref h0, .int p, .int (nI s)] (gB F h0 (mC K h0 now past kept thrown drawn hash)) hs (pI (fun z9 G' _ => z9 = nI k0 ∧ G' = (gB F h0 (mC K h0 now past kept thrown drawn hash)))) jno := by
  refine Ct.ofA hl (by decide) (Nat.le_of_ble_eq_true rfl) (L0 := [some (.ref h0), some (.int p), some (.int (nI s)), none, none]) (jL_of 2 rfl) ?_
  intro A E hE hQ hX hNm
  refine j_iload_n hE (i := 2) dX6_slotOf_0 rfl rfl ?_
  refine j_ist3 hE dX6_slotOf_1 rfl (by decide) rfl ?_
  refine j_iconst hE (v := nI 0) dX6_slotOf_2 (by decide) ?_
  refine j_ist4 hE dX6_slotOf_3 (by decide) rfl ?_
  have key5 : ∀ k, k ≤ k0 → ∀ hs, J K A E 5 (gB F h0 (mC K h0 now past kept thrown drawn hash)) hs 0 0 5 [some (.ref h0), some (.int p), some (.int (nI s)), some (.int (nI (s - cntB (slP now W p) k))), some (.int (nI k))] [] := by
    refine dloop (fun k => ∀ hs, J K A E 5 (gB F h0 (mC K h0 now past kept thrown drawn hash)) hs 0 0 5 [some (.ref h0), some (.int p), some (.int (nI s)), some (.int (nI (s - cntB (slP now W p) k))), some (.int (nI k))] []) (k0) (fun k hi5 ih5 => ?_) ?_
    · intro hs
      have hm16 : k % 16 < 16 := Nat.mod_lt _ (by omega)
      have hle9 := hle k (by omega)
      have hno9 := hno k hi5
      refine j_iload hE dX6_slotOf_5 rfl ?_
      refine j_bipush hE (v := nI 16) dX6_slotOf_7 (by decide) ?_
      refine j_aload_n hE (i := 0) dX6_slotOf_9 rfl rfl ?_
      refine j_get hE flX6_7 gB_0 rfl dX6_slotOf_10 ?_
      refine j_iconst hE (v := nI 1) dX6_slotOf_13 (by decide) ?_
      refine j_iald hE gB_1 rfl (by omega) (by decide) dX6_slotOf_14 ?_
      rw [hM]
      refine j_imulN hE dX6_slotOf_15 ?_
      refine j_ic_geN hE (tgt := 64) dX6_slotOf_16 (by decide) (by omega) (by omega) (fun h16 => ?_) (fun h16 => ?_)
      · exfalso; omega
      · refine j_iload hE dX6_slotOf_19 rfl ?_
        refine j_bipush hE (v := nI 16) dX6_slotOf_21 (by decide) ?_
        refine j_iremN hE dX6_slotOf_23 (by omega) (by omega) (by omega) ?_
        refine j_aload_n hE (i := 0) dX6_slotOf_24 rfl rfl ?_
        refine j_get hE flX6_7 gB_0 rfl dX6_slotOf_25 ?_
        refine j_iconst hE (v := nI 0) dX6_slotOf_28 (by decide) ?_
        refine j_iald hE gB_1 rfl (by omega) (by decide) dX6_slotOf_29 ?_
        rw [hW]
        refine j_ic_geN hE (tgt := 58) dX6_slotOf_30 (by decide) (by omega) (by omega) (fun h30 => ?_) (fun h30 => ?_)
        · have q9 : s - cntB (slP now W p) (k + 1) = s - cntB (slP now W p) k := by rw [cntB_f (slP_f1 h30)]; rfl
          refine j_incN4 hE dX6_slotOf_58 (by decide) rfl ?_
          refine j_goto hE (tgt := 5) dX6_slotOf_61 (by decide) ?_
          rw [← q9]
          exact ih5 _
        · refine j_aload_n hE (i := 0) dX6_slotOf_33 rfl rfl ?_
          refine j_get hE flX6_7 gB_0 rfl dX6_slotOf_34 ?_
          refine j_sipush hE (v := nI 201) dX6_slotOf_37 (by decide) ?_
          refine j_iload hE dX6_slotOf_40 rfl ?_
          refine j_iaddN hE dX6_slotOf_42 ?_
          refine j_iald hE gB_1 rfl (by omega) (by decide) dX6_slotOf_43 ?_
          refine j_iload_n hE (i := 1) dX6_slotOf_44 rfl rfl ?_
          refine j_ic_ne hE (tgt := 58) dX6_slotOf_45 (by decide) (fun h45 => ?_) (fun h45 => ?_)
          · have q9 : s - cntB (slP now W p) (k + 1) = s - cntB (slP now W p) k := by rw [cntB_f (slP_f2 h45)]; rfl
            refine j_incN4 hE dX6_slotOf_58 (by decide) rfl ?_
            refine j_goto hE (tgt := 5) dX6_slotOf_61 (by decide) ?_
            rw [← q9]
            exact ih5 _
          · refine j_iload_n hE (i := 3) dX6_slotOf_48 rfl rfl ?_
            refine j_if_neN hE (tgt := 55) dX6_slotOf_49 (by decide) (by omega) (fun h49 => ?_) (fun h49 => ?_)
            · obtain ⟨u, hu⟩ : ∃ u, s - cntB (slP now W p) k = u + 1 := ⟨s - cntB (slP now W p) k - 1, by omega⟩
              have q9 : s - cntB (slP now W p) (k + 1) = u := by rw [cntB_t (slP_t h30 h45)]; omega
              rw [hu]
              refine j_inc3 hE dX6_slotOf_55 (nI_dec _) (by decide) rfl ?_
              refine j_incN4 hE dX6_slotOf_58 (by decide) rfl ?_
              refine j_goto hE (tgt := 5) dX6_slotOf_61 (by decide) ?_
              rw [← q9]
              exact ih5 _
            · exfalso
              exact hno9 (slP_t h30 h45) (by omega)
    · intro hs
      obtain ⟨k, hk⟩ : ∃ k, k = k0 := ⟨_, rfl⟩
      rw [← hk] at hyes hyes2 hk0 hle hno ⊢
      have hm16 : k % 16 < 16 := Nat.mod_lt _ (by omega)
      have hle9 := hle k (by omega)
      refine j_iload hE dX6_slotOf_5 rfl ?_
      refine j_bipush hE (v := nI 16) dX6_slotOf_7 (by decide) ?_
      refine j_aload_n hE (i := 0) dX6_slotOf_9 rfl rfl ?_
      refine j_get hE flX6_7 gB_0 rfl dX6_slotOf_10 ?_
      refine j_iconst hE (v := nI 1) dX6_slotOf_13 (by decide) ?_
      refine j_iald hE gB_1 rfl (by omega) (by decide) dX6_slotOf_14 ?_
      rw [hM]
      refine j_imulN hE dX6_slotOf_15 ?_
      refine j_ic_geN hE (tgt := 64) dX6_slotOf_16 (by decide) (by omega) (by omega) (fun h16 => ?_) (fun h16 => ?_)
      · exfalso; omega
      · refine j_iload hE dX6_slotOf_19 rfl ?_
        refine j_bipush hE (v := nI 16) dX6_slotOf_21 (by decide) ?_
        refine j_iremN hE dX6_slotOf_23 (by omega) (by omega) (by omega) ?_
        refine j_aload_n hE (i := 0) dX6_slotOf_24 rfl rfl ?_
        refine j_get hE flX6_7 gB_0 rfl dX6_slotOf_25 ?_
        refine j_iconst hE (v := nI 0) dX6_slotOf_28 (by decide) ?_
        refine j_iald hE gB_1 rfl (by omega) (by decide) dX6_slotOf_29 ?_
        rw [hW]
        refine j_ic_geN hE (tgt := 58) dX6_slotOf_30 (by decide) (by omega) (by omega) (fun h30 => ?_) (fun h30 => ?_)
        · exact absurd (slP_f1 h30) (by rw [hyes]; decide)
        · refine j_aload_n hE (i := 0) dX6_slotOf_33 rfl rfl ?_
          refine j_get hE flX6_7 gB_0 rfl dX6_slotOf_34 ?_
          refine j_sipush hE (v := nI 201) dX6_slotOf_37 (by decide) ?_
          refine j_iload hE dX6_slotOf_40 rfl ?_
          refine j_iaddN hE dX6_slotOf_42 ?_
          refine j_iald hE gB_1 rfl (by omega) (by decide) dX6_slotOf_43 ?_
          refine j_iload_n hE (i := 1) dX6_slotOf_44 rfl rfl ?_
          refine j_ic_ne hE (tgt := 58) dX6_slotOf_45 (by decide) (fun h45 => ?_) (fun h45 => ?_)
          · exact absurd (slP_f2 h45) (by rw [hyes]; decide)
          · refine j_iload_n hE (i := 3) dX6_slotOf_48 rfl rfl ?_
            refine j_if_neN hE (tgt := 55) dX6_slotOf_49 (by decide) (by omega) (fun h49 => ?_) (fun h49 => ?_)
            · exfalso; omega
            · refine j_iload hE dX6_slotOf_52 rfl ?_
              refine j_iret hE hQ rfl (by omega) (by omega) dX6_slotOf_54 ?_
              exact ⟨_, rfl, by rw [hk], rfl⟩
  exact key5 0 (by omega) _

set_option maxRecDepth 100000 in
set_option maxHeartbeats 4000000 in
theorem c_X6_slotOf_f {l : Launch} (hl : l.stackTraces = false) (K : jK) (F : GH) (h0 hs : Nat) (now past : Nat → Int32) (kept thrown : Int32) (drawn : Nat → Int32) (hash : Int64) (W M : Nat) (hW : now 0 = nI W) (hM : now 1 = nI M) (hW6 : 6 ≤ W) (hW9 : W ≤ 16) (hM9 : M ≤ 8) (p : Int32) (s : Nat) (hs31 : s < 2 ^ 31) (hle : ∀ k, k ≤ 16 * M → cntB (slP now W p) k ≤ s) (hno : ∀ k, k < 16 * M → slP now W p k = true → cntB (slP now W p) k ≠ s) : Ct l K yX6_slotOf cX6_slotOf 5 (some .int) 0 0 0 0 [.ref h0, .int p, .int (nI s)] (gB F h0 (mC K h0 now past kept thrown drawn hash)) hs (pI (fun z9 G' _ => z9 = -1 ∧ G' = (gB F h0 (mC K h0 now past kept thrown drawn hash)))) jno := by
  refine Ct.ofA hl (by decide) (Nat.le_of_ble_eq_true rfl) (L0 := [some (.ref h0), some (.int p), some (.int (nI s)), none, none]) (jL_of 2 rfl) ?_
  intro A E hE hQ hX hNm
  refine j_iload_n hE (i := 2) dX6_slotOf_0 rfl rfl ?_
  refine j_ist3 hE dX6_slotOf_1 rfl (by decide) rfl ?_
  refine j_iconst hE (v := nI 0) dX6_slotOf_2 (by decide) ?_
  refine j_ist4 hE dX6_slotOf_3 (by decide) rfl ?_
  have key5 : ∀ k, k ≤ 16 * M → ∀ hs, J K A E 5 (gB F h0 (mC K h0 now past kept thrown drawn hash)) hs 0 0 5 [some (.ref h0), some (.int p), some (.int (nI s)), some (.int (nI (s - cntB (slP now W p) k))), some (.int (nI k))] [] := by
    refine dloop (fun k => ∀ hs, J K A E 5 (gB F h0 (mC K h0 now past kept thrown drawn hash)) hs 0 0 5 [some (.ref h0), some (.int p), some (.int (nI s)), some (.int (nI (s - cntB (slP now W p) k))), some (.int (nI k))] []) (16 * M) (fun k hi5 ih5 => ?_) ?_
    · intro hs
      have hm16 : k % 16 < 16 := Nat.mod_lt _ (by omega)
      have hle9 := hle k (by omega)
      have hno9 := hno k hi5
      refine j_iload hE dX6_slotOf_5 rfl ?_
      refine j_bipush hE (v := nI 16) dX6_slotOf_7 (by decide) ?_
      refine j_aload_n hE (i := 0) dX6_slotOf_9 rfl rfl ?_
      refine j_get hE flX6_7 gB_0 rfl dX6_slotOf_10 ?_
      refine j_iconst hE (v := nI 1) dX6_slotOf_13 (by decide) ?_
      refine j_iald hE gB_1 rfl (by omega) (by decide) dX6_slotOf_14 ?_
      rw [hM]
      refine j_imulN hE dX6_slotOf_15 ?_
      refine j_ic_geN hE (tgt := 64) dX6_slotOf_16 (by decide) (by omega) (by omega) (fun h16 => ?_) (fun h16 => ?_)
      · exfalso; omega
      · refine j_iload hE dX6_slotOf_19 rfl ?_
        refine j_bipush hE (v := nI 16) dX6_slotOf_21 (by decide) ?_
        refine j_iremN hE dX6_slotOf_23 (by omega) (by omega) (by omega) ?_
        refine j_aload_n hE (i := 0) dX6_slotOf_24 rfl rfl ?_
        refine j_get hE flX6_7 gB_0 rfl dX6_slotOf_25 ?_
        refine j_iconst hE (v := nI 0) dX6_slotOf_28 (by decide) ?_
        refine j_iald hE gB_1 rfl (by omega) (by decide) dX6_slotOf_29 ?_
        rw [hW]
        refine j_ic_geN hE (tgt := 58) dX6_slotOf_30 (by decide) (by omega) (by omega) (fun h30 => ?_) (fun h30 => ?_)
        · have q9 : s - cntB (slP now W p) (k + 1) = s - cntB (slP now W p) k := by rw [cntB_f (slP_f1 h30)]; rfl
          refine j_incN4 hE dX6_slotOf_58 (by decide) rfl ?_
          refine j_goto hE (tgt := 5) dX6_slotOf_61 (by decide) ?_
          rw [← q9]
          exact ih5 _
        · refine j_aload_n hE (i := 0) dX6_slotOf_33 rfl rfl ?_
          refine j_get hE flX6_7 gB_0 rfl dX6_slotOf_34 ?_
          refine j_sipush hE (v := nI 201) dX6_slotOf_37 (by decide) ?_
          refine j_iload hE dX6_slotOf_40 rfl ?_
          refine j_iaddN hE dX6_slotOf_42 ?_
          refine j_iald hE gB_1 rfl (by omega) (by decide) dX6_slotOf_43 ?_
          refine j_iload_n hE (i := 1) dX6_slotOf_44 rfl rfl ?_
          refine j_ic_ne hE (tgt := 58) dX6_slotOf_45 (by decide) (fun h45 => ?_) (fun h45 => ?_)
          · have q9 : s - cntB (slP now W p) (k + 1) = s - cntB (slP now W p) k := by rw [cntB_f (slP_f2 h45)]; rfl
            refine j_incN4 hE dX6_slotOf_58 (by decide) rfl ?_
            refine j_goto hE (tgt := 5) dX6_slotOf_61 (by decide) ?_
            rw [← q9]
            exact ih5 _
          · refine j_iload_n hE (i := 3) dX6_slotOf_48 rfl rfl ?_
            refine j_if_neN hE (tgt := 55) dX6_slotOf_49 (by decide) (by omega) (fun h49 => ?_) (fun h49 => ?_)
            · obtain ⟨u, hu⟩ : ∃ u, s - cntB (slP now W p) k = u + 1 := ⟨s - cntB (slP now W p) k - 1, by omega⟩
              have q9 : s - cntB (slP now W p) (k + 1) = u := by rw [cntB_t (slP_t h30 h45)]; omega
              rw [hu]
              refine j_inc3 hE dX6_slotOf_55 (nI_dec _) (by decide) rfl ?_
              refine j_incN4 hE dX6_slotOf_58 (by decide) rfl ?_
              refine j_goto hE (tgt := 5) dX6_slotOf_61 (by decide) ?_
              rw [← q9]
              exact ih5 _
            · exfalso
              exact hno9 (slP_t h30 h45) (by omega)
    · intro hs
      refine j_iload hE dX6_slotOf_5 rfl ?_
      refine j_bipush hE (v := nI 16) dX6_slotOf_7 (by decide) ?_
      refine j_aload_n hE (i := 0) dX6_slotOf_9 rfl rfl ?_
      refine j_get hE flX6_7 gB_0 rfl dX6_slotOf_10 ?_
      refine j_iconst hE (v := nI 1) dX6_slotOf_13 (by decide) ?_
      refine j_iald hE gB_1 rfl (by omega) (by decide) dX6_slotOf_14 ?_
      rw [hM]
      refine j_imulN hE dX6_slotOf_15 ?_
      refine j_ic_geN hE (tgt := 64) dX6_slotOf_16 (by decide) (by omega) (by omega) (fun h16 => ?_) (fun h16 => ?_)
      · refine j_iconst hE (v := -1) dX6_slotOf_64 (by decide) ?_
        refine j_iret hE hQ rfl (by omega) (by omega) dX6_slotOf_65 ?_
        exact ⟨_, rfl, rfl, rfl⟩
      · exfalso; omega
  exact key5 0 (by omega) _

