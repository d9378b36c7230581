/-! ===== the class: the layout, rest ===== -/
set_option maxRecDepth 100000 in
set_option maxHeartbeats 4000000 in
theorem c_X1_placeSeldom_f {l : Launch} (hl : l.stackTraces = false) (K : jK) (F : GH) (h hs w m : Nat) (pl : Bool) (tk : Nat) (ow : Nat → Int32) (hw6 : 6 ≤ w) (hw9 : w ≤ 16) (hm9 : m ≤ 8) (p q N : Nat) (hq1 : 1 ≤ q) (hq8 : q ≤ 8) (hN : m = N * q) (hqm : q ≤ m) (hno : ∀ c, c < w - 3 → ∀ f, f < q → frI ow c f q N = false) : Ct l K yX1_placeSeldom cX1_placeSeldom 5 (some .boolean) 2 50 0 0 [.ref h, .int (nI p), .int (nI q)] (gB F h (lyC K h w m pl tk ow)) hs (pI (fun z9 G' _ => z9 = nI 0 ∧ G' = (gB F h (lyC K h w m pl tk ow)))) jno := by
  refine Ct.ofA hl (by decide) (Nat.le_of_ble_eq_true rfl) (L0 := [some (.ref h), some (.int (nI p)), some (.int (nI q)), none, none]) (jL_of 2 rfl) ?_
  intro A E hE hQ hX hNm
  refine j_aload_n hE (i := 0) dX1_placeSeldom_0 rfl rfl ?_
  refine j_get hE flX1_15 gB_0 rfl dX1_placeSeldom_1 ?_
  refine j_iload_n hE (i := 2) dX1_placeSeldom_4 rfl rfl ?_
  refine j_ic_geN hE (tgt := 10) dX1_placeSeldom_5 (by decide) (by omega) (by omega) (fun h5 => ?_) (fun h5 => ?_)
  · refine j_iconst hE (v := nI 0) dX1_placeSeldom_10 (by decide) ?_
    refine j_ist3 hE dX1_placeSeldom_11 rfl (by decide) rfl ?_
    have key12 : ∀ c, c ≤ w - 3 → ∀ hs, ∀ a4, J K A E 5 (gB F h (lyC K h w m pl tk ow)) hs 0 0 12 [some (.ref h), some (.int (nI p)), some (.int (nI q)), some (.int (nI c)), a4] [] := by
      refine dloop (fun c => ∀ hs, ∀ a4, J K A E 5 (gB F h (lyC K h w m pl tk ow)) hs 0 0 12 [some (.ref h), some (.int (nI p)), some (.int (nI q)), some (.int (nI c)), a4] []) (w - 3) (fun c hi12 ih12 => ?_) ?_
      · intro hs
        intro a4
        have hno9 : ∀ f, f < q → frI ow c f q N = false := hno c hi12
        refine j_iload_n hE (i := 3) dX1_placeSeldom_12 rfl rfl ?_
        refine j_aload_n hE (i := 0) dX1_placeSeldom_13 rfl rfl ?_
        refine j_cVi hE mlX1_48 gB_0 (fun l hl => c_X1_columns hl K F h _ w m _ _ _ hw6 hw9 hm9) rfl rfl (Nat.le_of_ble_eq_true rfl) (by decide) (by decide) (by omega) (by omega) dX1_placeSeldom_14 (fun r G9 hs9 hp => ?_) (fun _ _ h => h.elim)
        obtain ⟨rfl, rfl⟩ := hp
        refine j_ic_geN hE (tgt := 63) dX1_placeSeldom_17 (by decide) (by omega) (by omega) (fun h17 => ?_) (fun h17 => ?_)
        · exfalso; omega
        · refine j_iconst hE (v := nI 0) dX1_placeSeldom_20 (by decide) ?_
          refine j_ist4 hE dX1_placeSeldom_21 (by decide) rfl ?_
          have key23 : ∀ f, f ≤ q → ∀ hs, J K A E 5 (gB F h (lyC K h w m pl tk ow)) hs 0 0 23 [some (.ref h), some (.int (nI p)), some (.int (nI q)), some (.int (nI c)), some (.int (nI f))] [] := by
            refine dloop (fun f => ∀ hs, J K A E 5 (gB F h (lyC K h w m pl tk ow)) hs 0 0 23 [some (.ref h), some (.int (nI p)), some (.int (nI q)), some (.int (nI c)), some (.int (nI f))] []) (q) (fun f hi23 ih23 => ?_) ?_
            · intro hs
              have hno8 := hno9 f hi23
              refine j_iload hE dX1_placeSeldom_23 rfl ?_
              refine j_iload_n hE (i := 2) dX1_placeSeldom_25 rfl rfl ?_
              refine j_ic_geN hE (tgt := 57) dX1_placeSeldom_26 (by decide) (by omega) (by omega) (fun h26 => ?_) (fun h26 => ?_)
              · exfalso; omega
              · refine j_aload_n hE (i := 0) dX1_placeSeldom_29 rfl rfl ?_
                refine j_iload_n hE (i := 3) dX1_placeSeldom_30 rfl rfl ?_
                refine j_iload hE dX1_placeSeldom_31 rfl ?_
                refine j_iload_n hE (i := 2) dX1_placeSeldom_33 rfl rfl ?_
                refine j_cVi hE mlX1_60 gB_0 (fun l hl => c_X1_isFree hl K F h _ w m _ _ _ hw6 hw9 hm9 _ _ q N hN (by omega) (by omega) (by omega)) rfl rfl (Nat.le_of_ble_eq_true rfl) (by decide) (by decide) (by omega) (by omega) dX1_placeSeldom_34 (fun r G9 hs9 hp => ?_) (fun _ _ h => h.elim)
                obtain ⟨rfl, rfl⟩ := hp
                refine j_if_eq hE (tgt := 51) dX1_placeSeldom_37 (by decide) (fun h37 => ?_) (fun h37 => ?_)
                · refine j_incN4 hE dX1_placeSeldom_51 (by decide) rfl ?_
                  refine j_goto hE (tgt := 23) dX1_placeSeldom_54 (by decide) ?_
                  exact ih23 _
                · exact absurd (jb_ne h37) (by rw [hno8]; decide)
            · intro hs
              refine j_iload hE dX1_placeSeldom_23 rfl ?_
              refine j_iload_n hE (i := 2) dX1_placeSeldom_25 rfl rfl ?_
              refine j_ic_geN hE (tgt := 57) dX1_placeSeldom_26 (by decide) (by omega) (by omega) (fun h26 => ?_) (fun h26 => ?_)
              · refine j_incN3 hE dX1_placeSeldom_57 (by decide) rfl ?_
                refine j_goto hE (tgt := 12) dX1_placeSeldom_60 (by decide) ?_
                exact ih12 _ _
              · exfalso; omega
          exact key23 0 (by omega) _
      · intro hs
        intro a4
        refine j_iload_n hE (i := 3) dX1_placeSeldom_12 rfl rfl ?_
        refine j_aload_n hE (i := 0) dX1_placeSeldom_13 rfl rfl ?_
        refine j_cVi hE mlX1_48 gB_0 (fun l hl => c_X1_columns hl K F h _ w m _ _ _ hw6 hw9 hm9) rfl rfl (Nat.le_of_ble_eq_true rfl) (by decide) (by decide) (by omega) (by omega) dX1_placeSeldom_14 (fun r G9 hs9 hp => ?_) (fun _ _ h => h.elim)
        obtain ⟨rfl, rfl⟩ := hp
        refine j_ic_geN hE (tgt := 63) dX1_placeSeldom_17 (by decide) (by omega) (by omega) (fun h17 => ?_) (fun h17 => ?_)
        · refine j_iconst hE (v := nI 0) dX1_placeSeldom_63 (by decide) ?_
          refine j_iret hE hQ rfl (by omega) (by omega) dX1_placeSeldom_64 ?_
          exact ⟨_, rfl, rfl, rfl⟩
        · exfalso; omega
    exact key12 0 (by omega) _ _
  · exfalso; omega

set_option maxRecDepth 100000 in
set_option maxHeartbeats 4000000 in
theorem c_X1_placeSeldom_t {l : Launch} (hl : l.stackTraces = false) (K : jK) (F : GH) (h hs w m : Nat) (pl : Bool) (tk : Nat) (ow : Nat → Int32) (hw6 : 6 ≤ w) (hw9 : w ≤ 16) (hm9 : m ≤ 8) (p q N : Nat) (hq1 : 1 ≤ q) (hq8 : q ≤ 8) (hN : m = N * q) (hqm : q ≤ m) (c0 f0 : Nat) (hc0 : c0 < w - 3) (hf0 : f0 < q) (hno : ∀ c, c < c0 → ∀ f, f < q → frI ow c f q N = false) (hno2 : ∀ f, f < f0 → frI ow c0 f q N = false) (hyes : frI ow c0 f0 q N = true) : Ct l K yX1_placeSeldom cX1_placeSeldom 5 (some .boolean) 2 50 0 0 [.ref h, .int (nI p), .int (nI q)] (gB F h (lyC K h w m pl tk ow)) hs (pI (fun z9 G' _ => z9 = nI 1 ∧ G' = (gB F h (lyC K h w m pl (tk + N) (itr (tkS (nI p) c0 f0 q) N ow))))) jno := by
  refine Ct.ofA hl (by decide) (Nat.le_of_ble_eq_true rfl) (L0 := [some (.ref h), some (.int (nI p)), some (.int (nI q)), none, none]) (jL_of 2 rfl) ?_
  intro A E hE hQ hX hNm
  refine j_aload_n hE (i := 0) dX1_placeSeldom_0 rfl rfl ?_
  refine j_get hE flX1_15 gB_0 rfl dX1_placeSeldom_1 ?_
  refine j_iload_n hE (i := 2) dX1_placeSeldom_4 rfl rfl ?_
  refine j_ic_geN hE (tgt := 10) dX1_placeSeldom_5 (by decide) (by omega) (by omega) (fun h5 => ?_) (fun h5 => ?_)
  · refine j_iconst hE (v := nI 0) dX1_placeSeldom_10 (by decide) ?_
    refine j_ist3 hE dX1_placeSeldom_11 rfl (by decide) rfl ?_
    have key12 : ∀ c, c ≤ c0 → ∀ hs, ∀ a4, J K A E 5 (gB F h (lyC K h w m pl tk ow)) hs 0 0 12 [some (.ref h), some (.int (nI p)), some (.int (nI q)), some (.int (nI c)), a4] [] := by
      refine dloop (fun c => ∀ hs, ∀ a4, J K A E 5 (gB F h (lyC K h w m pl tk ow)) hs 0 0 12 [some (.ref h), some (.int (nI p)), some (.int (nI q)), some (.int (nI c)), a4] []) (c0) (fun c hi12 ih12 => ?_) ?_
      · intro hs
        intro a4
        have hno9 : ∀ f, f < q → frI ow c f q N = false := hno c hi12
        refine j_iload_n hE (i := 3) dX1_placeSeldom_12 rfl rfl ?_
        refine j_aload_n hE (i := 0) dX1_placeSeldom_13 rfl rfl ?_
        refine j_cVi hE mlX1_48 gB_0 (fun l hl => c_X1_columns hl K F h _ w m _ _ _ hw6 hw9 hm9) rfl rfl (Nat.le_of_ble_eq_true rfl) (by decide) (by decide) (by omega) (by omega) dX1_placeSeldom_14 (fun r G9 hs9 hp => ?_) (fun _ _ h => h.elim)
        obtain ⟨rfl, rfl⟩ := hp
        refine j_ic_geN hE (tgt := 63) dX1_placeSeldom_17 (by decide) (by omega) (by omega) (fun h17 => ?_) (fun h17 => ?_)
        · exfalso; omega
        · refine j_iconst hE (v := nI 0) dX1_placeSeldom_20 (by decide) ?_
          refine j_ist4 hE dX1_placeSeldom_21 (by decide) rfl ?_
          have key23 : ∀ f, f ≤ q → ∀ hs, J K A E 5 (gB F h (lyC K h w m pl tk ow)) hs 0 0 23 [some (.ref h), some (.int (nI p)), some (.int (nI q)), some (.int (nI c)), some (.int (nI f))] [] := by
            refine dloop (fun f => ∀ hs, J K A E 5 (gB F h (lyC K h w m pl tk ow)) hs 0 0 23 [some (.ref h), some (.int (nI p)), some (.int (nI q)), some (.int (nI c)), some (.int (nI f))] []) (q) (fun f hi23 ih23 => ?_) ?_
            · intro hs
              have hno8 := hno9 f hi23
              refine j_iload hE dX1_placeSeldom_23 rfl ?_
              refine j_iload_n hE (i := 2) dX1_placeSeldom_25 rfl rfl ?_
              refine j_ic_geN hE (tgt := 57) dX1_placeSeldom_26 (by decide) (by omega) (by omega) (fun h26 => ?_) (fun h26 => ?_)
              · exfalso; omega
              · refine j_aload_n hE (i := 0) dX1_placeSeldom_29 rfl rfl ?_
                refine j_iload_n hE (i := 3) dX1_placeSeldom_30 rfl rfl ?_
                refine j_iload hE dX1_placeSeldom_31 rfl ?_
                refine j_iload_n hE (i := 2) dX1_placeSeldom_33 rfl rfl ?_
                refine j_cVi hE mlX1_60 gB_0 (fun l hl => c_X1_isFree hl K F h _ w m _ _ _ hw6 hw9 hm9 _ _ q N hN (by omega) (by omega) (by omega)) rfl rfl (Nat.le_of_ble_eq_true rfl) (by decide) (by decide) (by omega) (by omega) dX1_placeSeldom_34 (fun r G9 hs9 hp => ?_) (fun _ _ h => h.elim)
                obtain ⟨rfl, rfl⟩ := hp
                refine j_if_eq hE (tgt := 51) dX1_placeSeldom_37 (by decide) (fun h37 => ?_) (fun h37 => ?_)
                · refine j_incN4 hE dX1_placeSeldom_51 (by decide) rfl ?_
                  refine j_goto hE (tgt := 23) dX1_placeSeldom_54 (by decide) ?_
                  exact ih23 _
                · exact absurd (jb_ne h37) (by rw [hno8]; decide)
            · intro hs
              refine j_iload hE dX1_placeSeldom_23 rfl ?_
              refine j_iload_n hE (i := 2) dX1_placeSeldom_25 rfl rfl ?_
              refine j_ic_geN hE (tgt := 57) dX1_placeSeldom_26 (by decide) (by omega) (by omega) (fun h26 => ?_) (fun h26 => ?_)
              · refine j_incN3 hE dX1_placeSeldom_57 (by decide) rfl ?_
                refine j_goto hE (tgt := 12) dX1_placeSeldom_60 (by decide) ?_
                exact ih12 _ _
              · exfalso; omega
          exact key23 0 (by omega) _
      · intro hs
        intro a4
        refine j_iload_n hE (i := 3) dX1_placeSeldom_12 rfl rfl ?_
        refine j_aload_n hE (i := 0) dX1_placeSeldom_13 rfl rfl ?_
        refine j_cVi hE mlX1_48 gB_0 (fun l hl => c_X1_columns hl K F h _ w m _ _ _ hw6 hw9 hm9) rfl rfl (Nat.le_of_ble_eq_true rfl) (by decide) (by decide) (by omega) (by omega) dX1_placeSeldom_14 (fun r G9 hs9 hp => ?_) (fun _ _ h => h.elim)
        obtain ⟨rfl, rfl⟩ := hp
        refine j_ic_geN hE (tgt := 63) dX1_placeSeldom_17 (by decide) (by omega) (by omega) (fun h17 => ?_) (fun h17 => ?_)
        · exfalso; omega
        · refine j_iconst hE (v := nI 0) dX1_placeSeldom_20 (by decide) ?_
          refine j_ist4 hE dX1_placeSeldom_21 (by decide) rfl ?_
          have key23 : ∀ f, f ≤ f0 → ∀ hs, J K A E 5 (gB F h (lyC K h w m pl tk ow)) hs 0 0 23 [some (.ref h), some (.int (nI p)), some (.int (nI q)), some (.int (nI c0)), some (.int (nI f))] [] := by
            refine dloop (fun f => ∀ hs, J K A E 5 (gB F h (lyC K h w m pl tk ow)) hs 0 0 23 [some (.ref h), some (.int (nI p)), some (.int (nI q)), some (.int (nI c0)), some (.int (nI f))] []) (f0) (fun f hi23 ih23 => ?_) ?_
            · intro hs
              have hno8 := hno2 f hi23
              refine j_iload hE dX1_placeSeldom_23 rfl ?_
              refine j_iload_n hE (i := 2) dX1_placeSeldom_25 rfl rfl ?_
              refine j_ic_geN hE (tgt := 57) dX1_placeSeldom_26 (by decide) (by omega) (by omega) (fun h26 => ?_) (fun h26 => ?_)
              · exfalso; omega
              · refine j_aload_n hE (i := 0) dX1_placeSeldom_29 rfl rfl ?_
                refine j_iload_n hE (i := 3) dX1_placeSeldom_30 rfl rfl ?_
                refine j_iload hE dX1_placeSeldom_31 rfl ?_
                refine j_iload_n hE (i := 2) dX1_placeSeldom_33 rfl rfl ?_
                refine j_cVi hE mlX1_60 gB_0 (fun l hl => c_X1_isFree hl K F h _ w m _ _ _ hw6 hw9 hm9 _ _ q N hN (by omega) (by omega) (by omega)) rfl rfl (Nat.le_of_ble_eq_true rfl) (by decide) (by decide) (by omega) (by omega) dX1_placeSeldom_34 (fun r G9 hs9 hp => ?_) (fun _ _ h => h.elim)
                obtain ⟨rfl, rfl⟩ := hp
                refine j_if_eq hE (tgt := 51) dX1_placeSeldom_37 (by decide) (fun h37 => ?_) (fun h37 => ?_)
                · refine j_incN4 hE dX1_placeSeldom_51 (by decide) rfl ?_
                  refine j_goto hE (tgt := 23) dX1_placeSeldom_54 (by decide) ?_
                  exact ih23 _
                · exact absurd (jb_ne h37) (by rw [hno8]; decide)
            · intro hs
              refine j_iload hE dX1_placeSeldom_23 rfl ?_
              refine j_iload_n hE (i := 2) dX1_placeSeldom_25 rfl rfl ?_
              refine j_ic_geN hE (tgt := 57) dX1_placeSeldom_26 (by decide) (by omega) (by omega) (fun h26 => ?_) (fun h26 => ?_)
              · exfalso; omega
              · refine j_aload_n hE (i := 0) dX1_placeSeldom_29 rfl rfl ?_
                refine j_iload_n hE (i := 3) dX1_placeSeldom_30 rfl rfl ?_
                refine j_iload hE dX1_placeSeldom_31 rfl ?_
                refine j_iload_n hE (i := 2) dX1_placeSeldom_33 rfl rfl ?_
                refine j_cVi hE mlX1_60 gB_0 (fun l hl => c_X1_isFree hl K F h _ w m _ _ _ hw6 hw9 hm9 _ _ q N hN (by omega) (by omega) (by omega)) rfl rfl (Nat.le_of_ble_eq_true rfl) (by decide) (by decide) (by omega) (by omega) dX1_placeSeldom_34 (fun r G9 hs9 hp => ?_) (fun _ _ h => h.elim)
                obtain ⟨rfl, rfl⟩ := hp
                refine j_if_eq hE (tgt := 51) dX1_placeSeldom_37 (by decide) (fun h37 => ?_) (fun h37 => ?_)
                · exact absurd (jb_eq h37) (by rw [hyes]; decide)
                · refine j_aload_n hE (i := 0) dX1_placeSeldom_40 rfl rfl ?_
                  refine j_iload_n hE (i := 3) dX1_placeSeldom_41 rfl rfl ?_
                  refine j_iload hE dX1_placeSeldom_42 rfl ?_
                  refine j_iload_n hE (i := 2) dX1_placeSeldom_44 rfl rfl ?_
                  refine j_iload_n hE (i := 1) dX1_placeSeldom_45 rfl rfl ?_
                  refine j_cVv hE mlX1_56 gB_0 (fun l hl => c_X1_giveColumn hl K F h _ w m _ _ _ hw6 hw9 hm9 _ _ q N hN (by omega) (by omega) (by omega) _) rfl rfl (Nat.le_of_ble_eq_true rfl) (by decide) (by decide) (by omega) (by omega) dX1_placeSeldom_46 (fun G9 hs9 hp => ?_) (fun _ _ h => h.elim)
                  subst hp
                  refine j_iconst hE (v := nI 1) dX1_placeSeldom_49 (by decide) ?_
                  refine j_iret hE hQ rfl (by omega) (by omega) dX1_placeSeldom_50 ?_
                  exact ⟨_, rfl, rfl, rfl⟩
          exact key23 0 (by omega) _
    exact key12 0 (by omega) _ _
  · exfalso; omega

set_option maxRecDepth 100000 in
set_option maxHeartbeats 4000000 in
theorem c_X1_placeSeldom_m {l : Launch} (hl : l.stackTraces = false) (K : jK) (F : GH) (h hs w m : Nat) (pl : Bool) (tk : Nat) (ow : Nat → Int32) (hw6 : 6 ≤ w) (hw9 : w ≤ 16) (hm9 : m ≤ 8) (p q : Nat) (hq8 : q ≤ 8) (hqm : m < q) : Ct l K yX1_placeSeldom cX1_placeSeldom 5 (some .boolean) 2 50 0 0 [.ref h, .int (nI p), .int (nI q)] (gB F h (lyC K h w m pl tk ow)) hs (pI (fun z9 G' _ => z9 = nI 0 ∧ G' = (gB F h (lyC K h w m pl tk ow)))) jno := by
  refine Ct.ofA hl (by decide) (Nat.le_of_ble_eq_true rfl) (L0 := [some (.ref h), some (.int (nI p)), some (.int (nI q)), none, none]) (jL_of 2 rfl) ?_
  intro A E hE hQ hX hNm
  refine j_aload_n hE (i := 0) dX1_placeSeldom_0 rfl rfl ?_
  refine j_get hE flX1_15 gB_0 rfl dX1_placeSeldom_1 ?_
  refine j_iload_n hE (i := 2) dX1_placeSeldom_4 rfl rfl ?_
  refine j_ic_geN hE (tgt := 10) dX1_placeSeldom_5 (by decide) (by omega) (by omega) (fun h5 => ?_) (fun h5 => ?_)
  · exfalso; omega
  · refine j_iconst hE (v := nI 0) dX1_placeSeldom_8 (by decide) ?_
    refine j_iret hE hQ rfl (by omega) (by omega) dX1_placeSeldom_9 ?_
    exact ⟨_, rfl, rfl, rfl⟩

/-- how many words a parameter of the rate x takes: as many as it has samples -/
theorem flat_no {P : Nat → Nat → Bool} {q n : Nat} (h : ∀ k, k < n * q → P (k / q) (k % q) = false) (hq : 0 < q) : ∀ c, c < n → ∀ f, f < q → P c f = false := by
  intro c hc f hf
  have h1 : c * q + f < n * q := by
    have h2 : (c + 1) * q ≤ n * q := Nat.mul_le_mul_right q hc
    rw [Nat.succ_mul] at h2
    omega
  have h3 := h (c * q + f) h1
  rw [Nat.mul_comm c q, Nat.mul_add_div hq, Nat.div_eq_of_lt hf, Nat.add_zero, Nat.mul_add_mod, Nat.mod_eq_of_lt hf] at h3
  exact h3
theorem flat_lt {P : Nat → Nat → Bool} {q k0 : Nat} (h : ∀ k, k < k0 → P (k / q) (k % q) = false) (hq : 0 < q) : (∀ c, c < k0 / q → ∀ f, f < q → P c f = false) ∧ ∀ f, f < k0 % q → P (k0 / q) f = false := by
  have e := Nat.div_add_mod k0 q
  constructor
  · intro c hc f hf
    have h1 : c * q + f < k0 := by
      have h2 : (c + 1) * q ≤ k0 / q * q := Nat.mul_le_mul_right q hc
      rw [Nat.succ_mul, Nat.mul_comm (k0 / q) q] at h2
      omega
    have h3 := h (c * q + f) h1
    rw [Nat.mul_comm c q, Nat.mul_add_div hq, Nat.div_eq_of_lt hf, Nat.add_zero, Nat.mul_add_mod, Nat.mod_eq_of_lt hf] at h3
    exact h3
  · intro f hf
    have hf2 : f < q := Nat.lt_trans hf (Nat.mod_lt _ hq)
    have h3 := h (q * (k0 / q) + f) (by omega)
    rw [Nat.mul_add_div hq, Nat.div_eq_of_lt hf2, Nat.add_zero, Nat.mul_add_mod, Nat.mod_eq_of_lt hf2] at h3
    exact h3
set_option maxRecDepth 100000 in
set_option maxHeartbeats 4000000 in
theorem c_X1_place_1 {l : Launch} (hl : l.stackTraces = false) (K : jK) (F : GH) (h hs w m : Nat) (pl : Bool) (tk : Nat) (ow : Nat → Int32) (hw6 : 6 ≤ w) (hw9 : w ≤ 16) (hm9 : m ≤ 8) (p r : Nat) (hr1 : 1 ≤ r) (hr4 : r ≤ 4) (hdiv : (w - 3) % r = 0) (c0 : Nat) (hc0 : c0 < (w - 3) / r) (hno : ∀ c, c < c0 → manyI ow m ((w - 3) / r) c r = false) (hyes : manyI ow m ((w - 3) / r) c0 r = true) : Ct l K yX1_place cX1_place 3 (some .boolean) 4 97 0 0 [.ref h, .int (nI p), .int (nI r)] (gB F h (lyC K h w m pl tk ow)) hs (pI (fun z9 G' _ => z9 = nI 1 ∧ G' = (gB F h (lyC K h w m pl (tk + r * m) (itr (tkM (nI p) m ((w - 3) / r) c0) r ow))))) jno := by
  refine Ct.ofA hl (by decide) (Nat.le_of_ble_eq_true rfl) (L0 := [some (.ref h), some (.int (nI p)), some (.int (nI r))]) (jL_of 0 rfl) ?_
  intro A E hE hQ hX hNm
  refine j_iload_n hE (i := 2) dX1_place_0 rfl rfl ?_
  refine j_if_leN hE (tgt := 13) dX1_place_1 (by decide) (by omega) (fun h1 => ?_) (fun h1 => ?_)
  · exfalso; omega
  · refine j_aload_n hE (i := 0) dX1_place_4 rfl rfl ?_
    refine j_iload_n hE (i := 1) dX1_place_5 rfl rfl ?_
    refine j_iload_n hE (i := 2) dX1_place_6 rfl rfl ?_
    refine j_cVi hE mlX1_41 gB_0 (fun l hl => c_X1_placeOften_t hl K F h _ w m _ _ _ hw6 hw9 hm9 p r hr1 hr4 hdiv c0 hc0 hno hyes) rfl rfl (Nat.le_of_ble_eq_true rfl) (by decide) (by decide) (by omega) (by omega) dX1_place_7 (fun r G9 hs9 hp => ?_) (fun _ _ h => h.elim)
    obtain ⟨rfl, rfl⟩ := hp
    refine j_goto hE (tgt := 20) dX1_place_10 (by decide) ?_
    refine j_iret hE hQ rfl (by omega) (by omega) dX1_place_20 ?_
    exact ⟨_, rfl, rfl, rfl⟩

set_option maxRecDepth 100000 in
set_option maxHeartbeats 4000000 in
theorem c_X1_place_2 {l : Launch} (hl : l.stackTraces = false) (K : jK) (F : GH) (h hs w m : Nat) (pl : Bool) (tk : Nat) (ow : Nat → Int32) (hw6 : 6 ≤ w) (hw9 : w ≤ 16) (hm9 : m ≤ 8) (p r : Nat) (hr1 : 1 ≤ r) (hr4 : r ≤ 4) (hdiv : (w - 3) % r = 0) (hno : ∀ c, c < (w - 3) / r → manyI ow m ((w - 3) / r) c r = false) : Ct l K yX1_place cX1_place 3 (some .boolean) 4 97 0 0 [.ref h, .int (nI p), .int (nI r)] (gB F h (lyC K h w m pl tk ow)) hs (pI (fun z9 G' _ => z9 = nI 0 ∧ G' = (gB F h (lyC K h w m pl tk ow)))) jno := by
  refine Ct.ofA hl (by decide) (Nat.le_of_ble_eq_true rfl) (L0 := [some (.ref h), some (.int (nI p)), some (.int (nI r))]) (jL_of 0 rfl) ?_
  intro A E hE hQ hX hNm
  refine j_iload_n hE (i := 2) dX1_place_0 rfl rfl ?_
  refine j_if_leN hE (tgt := 13) dX1_place_1 (by decide) (by omega) (fun h1 => ?_) (fun h1 => ?_)
  · exfalso; omega
  · refine j_aload_n hE (i := 0) dX1_place_4 rfl rfl ?_
    refine j_iload_n hE (i := 1) dX1_place_5 rfl rfl ?_
    refine j_iload_n hE (i := 2) dX1_place_6 rfl rfl ?_
    refine j_cVi hE mlX1_41 gB_0 (fun l hl => c_X1_placeOften_f hl K F h _ w m _ _ _ hw6 hw9 hm9 p r hr1 hr4 hdiv hno) rfl rfl (Nat.le_of_ble_eq_true rfl) (by decide) (by decide) (by omega) (by omega) dX1_place_7 (fun r G9 hs9 hp => ?_) (fun _ _ h => h.elim)
    obtain ⟨rfl, rfl⟩ := hp
    refine j_goto hE (tgt := 20) dX1_place_10 (by decide) ?_
    refine j_iret hE hQ rfl (by omega) (by omega) dX1_place_20 ?_
    exact ⟨_, rfl, rfl, rfl⟩

set_option maxRecDepth 100000 in
set_option maxHeartbeats 4000000 in
theorem c_X1_place_3 {l : Launch} (hl : l.stackTraces = false) (K : jK) (F : GH) (h hs w m : Nat) (pl : Bool) (tk : Nat) (ow : Nat → Int32) (hw6 : 6 ≤ w) (hw9 : w ≤ 16) (hm9 : m ≤ 8) (p r : Nat) (hr1 : 1 ≤ r) (hr4 : r ≤ 4) (hdiv : (w - 3) % r ≠ 0) : Ct l K yX1_place cX1_place 3 (some .boolean) 4 97 0 0 [.ref h, .int (nI p), .int (nI r)] (gB F h (lyC K h w m pl tk ow)) hs (pI (fun z9 G' _ => z9 = nI 0 ∧ G' = (gB F h (lyC K h w m pl tk ow)))) jno := by
  refine Ct.ofA hl (by decide) (Nat.le_of_ble_eq_true rfl) (L0 := [some (.ref h), some (.int (nI p)), some (.int (nI r))]) (jL_of 0 rfl) ?_
  intro A E hE hQ hX hNm
  refine j_iload_n hE (i := 2) dX1_place_0 rfl rfl ?_
  refine j_if_leN hE (tgt := 13) dX1_place_1 (by decide) (by omega) (fun h1 => ?_) (fun h1 => ?_)
  · exfalso; omega
  · refine j_aload_n hE (i := 0) dX1_place_4 rfl rfl ?_
    refine j_iload_n hE (i := 1) dX1_place_5 rfl rfl ?_
    refine j_iload_n hE (i := 2) dX1_place_6 rfl rfl ?_
    refine j_cVi hE mlX1_41 gB_0 (fun l hl => c_X1_placeOften_d hl K F h _ w m _ _ _ hw6 hw9 hm9 p r hr1 hr4 hdiv) rfl rfl (Nat.le_of_ble_eq_true rfl) (by decide) (by decide) (by omega) (by omega) dX1_place_7 (fun r G9 hs9 hp => ?_) (fun _ _ h => h.elim)
    obtain ⟨rfl, rfl⟩ := hp
    refine j_goto hE (tgt := 20) dX1_place_10 (by decide) ?_
    refine j_iret hE hQ rfl (by omega) (by omega) dX1_place_20 ?_
    exact ⟨_, rfl, rfl, rfl⟩

set_option maxRecDepth 100000 in
set_option maxHeartbeats 4000000 in
theorem c_X1_place_4 {l : Launch} (hl : l.stackTraces = false) (K : jK) (F : GH) (h hs w m : Nat) (pl : Bool) (tk : Nat) (ow : Nat → Int32) (hw6 : 6 ≤ w) (hw9 : w ≤ 16) (hm9 : m ≤ 8) (p q : Nat) (hq : q = 2 ∨ q = 4 ∨ q = 8) (N : Nat) (hN : m = N * q) (hqm : q ≤ m) (k0 : Nat) (hk0 : k0 < (w - 3) * q) (hno : ∀ k, k < k0 → frI ow (k / q) (k % q) q N = false) (hyes : frI ow (k0 / q) (k0 % q) q N = true) : Ct l K yX1_place cX1_place 3 (some .boolean) 4 97 0 0 [.ref h, .int (nI p), .int (-nI q)] (gB F h (lyC K h w m pl tk ow)) hs (pI (fun z9 G' _ => z9 = nI 1 ∧ G' = (gB F h (lyC K h w m pl (tk + N) (itr (tkS (nI p) (k0 / q) (k0 % q) q) N ow))))) jno := by
  refine Ct.ofA hl (by decide) (Nat.le_of_ble_eq_true rfl) (L0 := [some (.ref h), some (.int (nI p)), some (.int (-nI q))]) (jL_of 0 rfl) ?_
  intro A E hE hQ hX hNm
  refine j_iload_n hE (i := 2) dX1_place_0 rfl rfl ?_
  refine j_if_le hE (tgt := 13) dX1_place_1 (by decide) (fun h1 => ?_) (fun h1 => ?_)
  · refine j_aload_n hE (i := 0) dX1_place_13 rfl rfl ?_
    refine j_iload_n hE (i := 1) dX1_place_14 rfl rfl ?_
    refine j_iload_n hE (i := 2) dX1_place_15 rfl rfl ?_
    refine j_ineg hE dX1_place_16 ?_
    rw [Int32.neg_neg]
    have hq9 : 1 ≤ q ∧ q ≤ 8 := by omega
    refine j_cVi hE mlX1_45 gB_0 (fun l hl => c_X1_placeSeldom_t hl K F h _ w m _ _ _ hw6 hw9 hm9 p q N (by omega) (by omega) hN hqm (k0 / q) (k0 % q) (Nat.div_lt_of_lt_mul (by rw [Nat.mul_comm]; exact hk0)) (Nat.mod_lt _ (by omega)) (flat_lt (P := fun c f => frI ow c f q N) hno (by omega)).1 (flat_lt (P := fun c f => frI ow c f q N) hno (by omega)).2 hyes) rfl rfl (Nat.le_of_ble_eq_true rfl) (by decide) (by decide) (by omega) (by omega) dX1_place_17 (fun r G9 hs9 hp => ?_) (fun _ _ h => h.elim)
    obtain ⟨rfl, rfl⟩ := hp
    refine j_iret hE hQ rfl (by omega) (by omega) dX1_place_20 ?_
    exact ⟨_, rfl, rfl, rfl⟩
  · exact absurd (neg_le hq) h1

set_option maxRecDepth 100000 in
set_option maxHeartbeats 4000000 in
theorem c_X1_place_5 {l : Launch} (hl : l.stackTraces = false) (K : jK) (F : GH) (h hs w m : Nat) (pl : Bool) (tk : Nat) (ow : Nat → Int32) (hw6 : 6 ≤ w) (hw9 : w ≤ 16) (hm9 : m ≤ 8) (p q : Nat) (hq : q = 2 ∨ q = 4 ∨ q = 8) (N : Nat) (hN : m = N * q) (hqm : q ≤ m) (hno : ∀ k, k < (w - 3) * q → frI ow (k / q) (k % q) q N = false) : Ct l K yX1_place cX1_place 3 (some .boolean) 4 97 0 0 [.ref h, .int (nI p), .int (-nI q)] (gB F h (lyC K h w m pl tk ow)) hs (pI (fun z9 G' _ => z9 = nI 0 ∧ G' = (gB F h (lyC K h w m pl tk ow)))) jno := by
  refine Ct.ofA hl (by decide) (Nat.le_of_ble_eq_true rfl) (L0 := [some (.ref h), some (.int (nI p)), some (.int (-nI q))]) (jL_of 0 rfl) ?_
  intro A E hE hQ hX hNm
  refine j_iload_n hE (i := 2) dX1_place_0 rfl rfl ?_
  refine j_if_le hE (tgt := 13) dX1_place_1 (by decide) (fun h1 => ?_) (fun h1 => ?_)
  · refine j_aload_n hE (i := 0) dX1_place_13 rfl rfl ?_
    refine j_iload_n hE (i := 1) dX1_place_14 rfl rfl ?_
    refine j_iload_n hE (i := 2) dX1_place_15 rfl rfl ?_
    refine j_ineg hE dX1_place_16 ?_
    rw [Int32.neg_neg]
    have hq9 : 1 ≤ q ∧ q ≤ 8 := by omega
    refine j_cVi hE mlX1_45 gB_0 (fun l hl => c_X1_placeSeldom_f hl K F h _ w m _ _ _ hw6 hw9 hm9 p q N (by omega) (by omega) hN hqm (flat_no (P := fun c f => frI ow c f q N) hno (by omega))) rfl rfl (Nat.le_of_ble_eq_true rfl) (by decide) (by decide) (by omega) (by omega) dX1_place_17 (fun r G9 hs9 hp => ?_) (fun _ _ h => h.elim)
    obtain ⟨rfl, rfl⟩ := hp
    refine j_iret hE hQ rfl (by omega) (by omega) dX1_place_20 ?_
    exact ⟨_, rfl, rfl, rfl⟩
  · exact absurd (neg_le hq) h1

set_option maxRecDepth 100000 in
set_option maxHeartbeats 4000000 in
theorem c_X1_place_6 {l : Launch} (hl : l.stackTraces = false) (K : jK) (F : GH) (h hs w m : Nat) (pl : Bool) (tk : Nat) (ow : Nat → Int32) (hw6 : 6 ≤ w) (hw9 : w ≤ 16) (hm9 : m ≤ 8) (p q : Nat) (hq : q = 2 ∨ q = 4 ∨ q = 8) (hqm : m < q) : Ct l K yX1_place cX1_place 3 (some .boolean) 4 97 0 0 [.ref h, .int (nI p), .int (-nI q)] (gB F h (lyC K h w m pl tk ow)) hs (pI (fun z9 G' _ => z9 = nI 0 ∧ G' = (gB F h (lyC K h w m pl tk ow)))) jno := by
  refine Ct.ofA hl (by decide) (Nat.le_of_ble_eq_true rfl) (L0 := [some (.ref h), some (.int (nI p)), some (.int (-nI q))]) (jL_of 0 rfl) ?_
  intro A E hE hQ hX hNm
  refine j_iload_n hE (i := 2) dX1_place_0 rfl rfl ?_
  refine j_if_le hE (tgt := 13) dX1_place_1 (by decide) (fun h1 => ?_) (fun h1 => ?_)
  · refine j_aload_n hE (i := 0) dX1_place_13 rfl rfl ?_
    refine j_iload_n hE (i := 1) dX1_place_14 rfl rfl ?_
    refine j_iload_n hE (i := 2) dX1_place_15 rfl rfl ?_
    refine j_ineg hE dX1_place_16 ?_
    rw [Int32.neg_neg]
    have hq9 : 1 ≤ q ∧ q ≤ 8 := by omega
    refine j_cVi hE mlX1_45 gB_0 (fun l hl => c_X1_placeSeldom_m hl K F h _ w m _ _ _ hw6 hw9 hm9 p q (by omega) hqm) rfl rfl (Nat.le_of_ble_eq_true rfl) (by decide) (by decide) (by omega) (by omega) dX1_place_17 (fun r G9 hs9 hp => ?_) (fun _ _ h => h.elim)
    obtain ⟨rfl, rfl⟩ := hp
    refine j_iret hE hQ rfl (by omega) (by omega) dX1_place_20 ?_
    exact ⟨_, rfl, rfl, rfl⟩
  · exact absurd (neg_le hq) h1

theorem c_X1_place_t {l : Launch} (hl : l.stackTraces = false) (K : jK) (F : GH) (h hs w m : Nat) (pl : Bool) (tk : Nat) (ow : Nat → Int32) (hw6 : 6 ≤ w) (hw9 : w ≤ 16) (hm9 : m ≤ 8) (hm1 : 1 ≤ m) (p : Nat) (x : Int32) (d' : Nat → Int32) (hok : plOk w m x p ow d') : Ct l K yX1_place cX1_place 3 (some .boolean) 4 97 0 0 [.ref h, .int (nI p), .int x] (gB F h (lyC K h w m pl tk ow)) hs (pI (fun z9 G' _ => z9 = nI 1 ∧ G' = (gB F h (lyC K h w m pl (tk + sOf m x) d')))) jno := by
  rcases hok with ⟨r, c0, ⟨hr1, hr4, rfl⟩, h1, h2, h3, h4, rfl⟩ | ⟨q, N, k0, ⟨hq, rfl⟩, ⟨hN, hqm⟩, h2, h3, h4, rfl⟩
  · rw [sOf_p hr1 hr4]
    exact c_X1_place_1 hl K F h hs w m pl tk ow hw6 hw9 hm9 p r hr1 hr4 h1 c0 h2 h3 h4
  · have e : m / q = N := by rw [hN]; exact Nat.mul_div_cancel _ (by omega)
    rw [sOf_n hq, e]
    exact c_X1_place_4 hl K F h hs w m pl tk ow hw6 hw9 hm9 p q hq N hN hqm k0 h2 h3 h4
theorem c_X1_place_f {l : Launch} (hl : l.stackTraces = false) (K : jK) (F : GH) (h hs w m : Nat) (pl : Bool) (tk : Nat) (ow : Nat → Int32) (hw6 : 6 ≤ w) (hw9 : w ≤ 16) (hm9 : m ≤ 8) (p : Nat) (x : Int32) (hno : plNo w m x ow) : Ct l K yX1_place cX1_place 3 (some .boolean) 4 97 0 0 [.ref h, .int (nI p), .int x] (gB F h (lyC K h w m pl tk ow)) hs (pI (fun z9 G' _ => z9 = nI 0 ∧ G' = (gB F h (lyC K h w m pl tk ow)))) jno := by
  rcases hno with ⟨r, ⟨hr1, hr4, rfl⟩, h1⟩ | ⟨r, ⟨hr1, hr4, rfl⟩, h1, h2⟩ | ⟨q, ⟨hq, rfl⟩, h1⟩ | ⟨q, N, ⟨hq, rfl⟩, ⟨hN, hqm⟩, h2⟩
  · exact c_X1_place_3 hl K F h hs w m pl tk ow hw6 hw9 hm9 p r hr1 hr4 h1
  · exact c_X1_place_2 hl K F h hs w m pl tk ow hw6 hw9 hm9 p r hr1 hr4 h1 h2
  · exact c_X1_place_6 hl K F h hs w m pl tk ow hw6 hw9 hm9 p q hq h1
  · exact c_X1_place_5 hl K F h hs w m pl tk ow hw6 hw9 hm9 p q hq N hN hqm h2
def oP (ow : Nat → Int32) (p : Int32) (k : Nat) : Bool := decide (ow k = p)
theorem oP_t {ow : Nat → Int32} {p : Int32} {k : Nat} (h : ow k = p) : oP ow p k = true := decide_eq_true h
theorem oP_f {ow : Nat → Int32} {p : Int32} {k : Nat} (h : ¬ ow k = p) : oP ow p k = false := decide_eq_false h
set_option maxRecDepth 100000 in
set_option maxHeartbeats 4000000 in
theorem c_X1_placeOf_t {l : Launch} (hl : l.stackTraces = false) (K : jK) (F : GH) (h hs w m : Nat) (pl : Bool) (tk : Nat) (ow : Nat → Int32) (p s : Int32) (k0 : Nat) (hk0 : k0 < 128) (hyes : oP ow p k0 = true) (hyes2 : nI (cntB (oP ow p) k0) = s) (hno : ∀ k, k < k0 → oP ow p k = true → ¬ nI (cntB (oP ow p) k) = s) : Ct l K yX1_placeOf cX1_placeOf 5 (some .int) 0 0 0 0 [.ref h, .int p, .int s] (gB F h (lyC K h w m pl tk ow)) hs (pI (fun z9 G' _ => z9 = nI k0 ∧ G' = (gB F h (lyC K h w m pl tk ow)))) jno := by
  refine Ct.ofA hl (by decide) (Nat.le_of_ble_eq_true rfl) (L0 := [some (.ref h), some (.int p), some (.int s), none, none]) (jL_of 2 rfl) ?_
  intro A E hE hQ hX hNm
  refine j_iconst hE (v := nI 0) dX1_placeOf_0 (by decide) ?_
  refine j_ist3 hE dX1_placeOf_1 rfl (by decide) rfl ?_
  refine j_iconst hE (v := nI 0) dX1_placeOf_2 (by decide) ?_
  refine j_ist4 hE dX1_placeOf_3 (by decide) rfl ?_
  have key5 : ∀ k, k ≤ k0 → ∀ hs, J K A E 5 (gB F h (lyC K h w m pl tk ow)) hs 0 0 5 [some (.ref h), some (.int p), some (.int s), some (.int (nI (cntB (oP ow p) k))), some (.int (nI k))] [] := by
    refine dloop (fun k => ∀ hs, J K A E 5 (gB F h (lyC K h w m pl tk ow)) hs 0 0 5 [some (.ref h), some (.int p), some (.int s), some (.int (nI (cntB (oP ow p) k))), some (.int (nI k))] []) (k0) (fun k hi5 ih5 => ?_) ?_
    · intro hs
      have hno9 := hno k hi5
      refine j_iload hE dX1_placeOf_5 rfl ?_
      refine j_aload_n hE (i := 0) dX1_placeOf_7 rfl rfl ?_
      refine j_get hE flX1_25 gB_0 rfl dX1_placeOf_8 ?_
      refine j_alen hE gB_1 dX1_placeOf_11 ?_
      refine j_ic_geN hE (tgt := 43) dX1_placeOf_12 (by decide) (by omega) (by omega) (fun h12 => ?_) (fun h12 => ?_)
      · exfalso; omega
      · refine j_aload_n hE (i := 0) dX1_placeOf_15 rfl rfl ?_
        refine j_get hE flX1_25 gB_0 rfl dX1_placeOf_16 ?_
        refine j_iload hE dX1_placeOf_19 rfl ?_
        refine j_iald hE gB_1 rfl (by omega) (by decide) dX1_placeOf_21 ?_
        refine j_iload_n hE (i := 1) dX1_placeOf_22 rfl rfl ?_
        refine j_ic_ne hE (tgt := 37) dX1_placeOf_23 (by decide) (fun h23 => ?_) (fun h23 => ?_)
        · have q9 : cntB (oP ow p) (k + 1) = cntB (oP ow p) k := by rw [cntB_f (oP_f h23)]; rfl
          refine j_incN4 hE dX1_placeOf_37 (by decide) rfl ?_
          refine j_goto hE (tgt := 5) dX1_placeOf_40 (by decide) ?_
          rw [← q9]
          exact ih5 _
        · refine j_iload_n hE (i := 3) dX1_placeOf_26 rfl rfl ?_
          refine j_iload_n hE (i := 2) dX1_placeOf_27 rfl rfl ?_
          refine j_ic_ne hE (tgt := 34) dX1_placeOf_28 (by decide) (fun h28 => ?_) (fun h28 => ?_)
          · have q9 : cntB (oP ow p) (k + 1) = cntB (oP ow p) k + 1 := cntB_t (oP_t h23)
            refine j_incN3 hE dX1_placeOf_34 (by decide) rfl ?_
            refine j_incN4 hE dX1_placeOf_37 (by decide) rfl ?_
            refine j_goto hE (tgt := 5) dX1_placeOf_40 (by decide) ?_
            rw [← q9]
            exact ih5 _
          · exact absurd h28 (hno9 (oP_t h23))
    · intro hs
      refine j_iload hE dX1_placeOf_5 rfl ?_
      refine j_aload_n hE (i := 0) dX1_placeOf_7 rfl rfl ?_
      refine j_get hE flX1_25 gB_0 rfl dX1_placeOf_8 ?_
      refine j_alen hE gB_1 dX1_placeOf_11 ?_
      refine j_ic_geN hE (tgt := 43) dX1_placeOf_12 (by decide) (by omega) (by omega) (fun h12 => ?_) (fun h12 => ?_)
      · exfalso; omega
      · refine j_aload_n hE (i := 0) dX1_placeOf_15 rfl rfl ?_
        refine j_get hE flX1_25 gB_0 rfl dX1_placeOf_16 ?_
        refine j_iload hE dX1_placeOf_19 rfl ?_
        refine j_iald hE gB_1 rfl (by omega) (by decide) dX1_placeOf_21 ?_
        refine j_iload_n hE (i := 1) dX1_placeOf_22 rfl rfl ?_
        refine j_ic_ne hE (tgt := 37) dX1_placeOf_23 (by decide) (fun h23 => ?_) (fun h23 => ?_)
        · exact absurd (oP_f h23) (by rw [hyes]; decide)
        · refine j_iload_n hE (i := 3) dX1_placeOf_26 rfl rfl ?_
          refine j_iload_n hE (i := 2) dX1_placeOf_27 rfl rfl ?_
          refine j_ic_ne hE (tgt := 34) dX1_placeOf_28 (by decide) (fun h28 => ?_) (fun h28 => ?_)
          · exact absurd hyes2 h28
          · refine j_iload hE dX1_placeOf_31 rfl ?_
            refine j_iret hE hQ rfl (by omega) (by omega) dX1_placeOf_33 ?_
            exact ⟨_, rfl, rfl, rfl⟩
  exact key5 0 (by omega) _

set_option maxRecDepth 100000 in
set_option maxHeartbeats 4000000 in
theorem c_X1_placeOf_f {l : Launch} (hl : l.stackTraces = false) (K : jK) (F : GH) (h hs w m : Nat) (pl : Bool) (tk : Nat) (ow : Nat → Int32) (p s : Int32) (hno : ∀ k, k < 128 → oP ow p k = true → ¬ nI (cntB (oP ow p) k) = s) : Ct l K yX1_placeOf cX1_placeOf 5 (some .int) 0 0 0 0 [.ref h, .int p, .int s] (gB F h (lyC K h w m pl tk ow)) hs (pI (fun z9 G' _ => z9 = -1 ∧ G' = (gB F h (lyC K h w m pl tk ow)))) jno := by
  refine Ct.ofA hl (by decide) (Nat.le_of_ble_eq_true rfl) (L0 := [some (.ref h), some (.int p), some (.int s), none, none]) (jL_of 2 rfl) ?_
  intro A E hE hQ hX hNm
  refine j_iconst hE (v := nI 0) dX1_placeOf_0 (by decide) ?_
  refine j_ist3 hE dX1_placeOf_1 rfl (by decide) rfl ?_
  refine j_iconst hE (v := nI 0) dX1_placeOf_2 (by decide) ?_
  refine j_ist4 hE dX1_placeOf_3 (by decide) rfl ?_
  have key5 : ∀ k, k ≤ 128 → ∀ hs, J K A E 5 (gB F h (lyC K h w m pl tk ow)) hs 0 0 5 [some (.ref h), some (.int p), some (.int s), some (.int (nI (cntB (oP ow p) k))), some (.int (nI k))] [] := by
    refine dloop (fun k => ∀ hs, J K A E 5 (gB F h (lyC K h w m pl tk ow)) hs 0 0 5 [some (.ref h), some (.int p), some (.int s), some (.int (nI (cntB (oP ow p) k))), some (.int (nI k))] []) (128) (fun k hi5 ih5 => ?_) ?_
    · intro hs
      have hno9 := hno k hi5
      refine j_iload hE dX1_placeOf_5 rfl ?_
      refine j_aload_n hE (i := 0) dX1_placeOf_7 rfl rfl ?_
      refine j_get hE flX1_25 gB_0 rfl dX1_placeOf_8 ?_
      refine j_alen hE gB_1 dX1_placeOf_11 ?_
      refine j_ic_geN hE (tgt := 43) dX1_placeOf_12 (by decide) (by omega) (by omega) (fun h12 => ?_) (fun h12 => ?_)
      · exfalso; omega
      · refine j_aload_n hE (i := 0) dX1_placeOf_15 rfl rfl ?_
        refine j_get hE flX1_25 gB_0 rfl dX1_placeOf_16 ?_
        refine j_iload hE dX1_placeOf_19 rfl ?_
        refine j_iald hE gB_1 rfl (by omega) (by decide) dX1_placeOf_21 ?_
        refine j_iload_n hE (i := 1) dX1_placeOf_22 rfl rfl ?_
        refine j_ic_ne hE (tgt := 37) dX1_placeOf_23 (by decide) (fun h23 => ?_) (fun h23 => ?_)
        · have q9 : cntB (oP ow p) (k + 1) = cntB (oP ow p) k := by rw [cntB_f (oP_f h23)]; rfl
          refine j_incN4 hE dX1_placeOf_37 (by decide) rfl ?_
          refine j_goto hE (tgt := 5) dX1_placeOf_40 (by decide) ?_
          rw [← q9]
          exact ih5 _
        · refine j_iload_n hE (i := 3) dX1_placeOf_26 rfl rfl ?_
          refine j_iload_n hE (i := 2) dX1_placeOf_27 rfl rfl ?_
          refine j_ic_ne hE (tgt := 34) dX1_placeOf_28 (by decide) (fun h28 => ?_) (fun h28 => ?_)
          · have q9 : cntB (oP ow p) (k + 1) = cntB (oP ow p) k + 1 := cntB_t (oP_t h23)
            refine j_incN3 hE dX1_placeOf_34 (by decide) rfl ?_
            refine j_incN4 hE dX1_placeOf_37 (by decide) rfl ?_
            refine j_goto hE (tgt := 5) dX1_placeOf_40 (by decide) ?_
            rw [← q9]
            exact ih5 _
          · exact absurd h28 (hno9 (oP_t h23))
    · intro hs
      refine j_iload hE dX1_placeOf_5 rfl ?_
      refine j_aload_n hE (i := 0) dX1_placeOf_7 rfl rfl ?_
      refine j_get hE flX1_25 gB_0 rfl dX1_placeOf_8 ?_
      refine j_alen hE gB_1 dX1_placeOf_11 ?_
      refine j_ic_geN hE (tgt := 43) dX1_placeOf_12 (by decide) (by omega) (by omega) (fun h12 => ?_) (fun h12 => ?_)
      · refine j_iconst hE (v := -1) dX1_placeOf_43 (by decide) ?_
        refine j_iret hE hQ rfl (by omega) (by omega) dX1_placeOf_44 ?_
        exact ⟨_, rfl, rfl, rfl⟩
      · exfalso; omega
  exact key5 0 (by omega) _

def lH (ow : Nat → Int32) (f k : Nat) (h : Int64) : Int64 := 31 * h + (ow (16 * f + k)).toInt64
def lHs (ow : Nat → Int32) (w f : Nat) (h : Int64) : Int64 := itr (lH ow f) w h
set_option maxRecDepth 100000 in
set_option maxHeartbeats 4000000 in
theorem c_X1_mixInto_t {l : Launch} (hl : l.stackTraces = false) (K : jK) (F : GH) (h hs w m : Nat) (tk : Nat) (ow : Nat → Int32) (hw6 : 6 ≤ w) (hw9 : w ≤ 16) (hm9 : m ≤ 8) (z : Int64) : Ct l K yX1_mixInto cX1_mixInto 7 (some .long) 1 23 0 0 [.ref h, .long z] (gB F h (lyC K h w m true tk ow)) hs (pL (fun z9 G' _ => z9 = itr (lHs ow w) m (31 * z + 1) ∧ G' = (gB F h (lyC K h w m true tk ow)))) jno := by
  refine Ct.ofA hl (by decide) (Nat.le_of_ble_eq_true rfl) (L0 := [some (.ref h), some (.long z), none, none, none, none, none]) (jL_of 4 rfl) ?_
  intro A E hE hQ hX hNm
  refine j_aload_n hE (i := 0) dX1_mixInto_0 rfl rfl ?_
  refine j_get hE flX1_18 gB_0 rfl dX1_mixInto_1 ?_
  refine j_if_neN hE (tgt := 13) dX1_mixInto_4 (by decide) (by omega) (fun h4 => ?_) (fun h4 => ?_)
  · refine j_lload_n hE (i := 1) dX1_mixInto_13 rfl rfl ?_
    refine j_lconst hE (v := 1) dX1_mixInto_14 (by decide) ?_
    refine j_cNl hE mlX1_75 (fun l hl => c_X5_mix hl K _ _ _ _) rfl rfl (Nat.le_of_ble_eq_true rfl) (by decide) (by decide) (by omega) (by omega) dX1_mixInto_15 (fun r G9 hs9 hp => ?_)
    obtain ⟨rfl, rfl⟩ := hp
    refine j_lst3 hE dX1_mixInto_18 rfl (by decide) rfl ?_
    refine j_iconst hE (v := nI 0) dX1_mixInto_19 (by decide) ?_
    refine j_ist5 hE dX1_mixInto_20 (by decide) rfl ?_
    have key22 : ∀ f, f ≤ m → ∀ hs, ∀ a6, J K A E 7 (gB F h (lyC K h w m true tk ow)) hs 0 0 22 [some (.ref h), some (.long z), none, some (.long (itr (lHs ow w) f (31 * z + 1))), none, some (.int (nI f)), a6] [] := by
      refine dloop (fun f => ∀ hs, ∀ a6, J K A E 7 (gB F h (lyC K h w m true tk ow)) hs 0 0 22 [some (.ref h), some (.long z), none, some (.long (itr (lHs ow w) f (31 * z + 1))), none, some (.int (nI f)), a6] []) (m) (fun f hi22 ih22 => ?_) ?_
      · intro hs
        intro a6
        refine j_iload hE dX1_mixInto_22 rfl ?_
        refine j_aload_n hE (i := 0) dX1_mixInto_24 rfl rfl ?_
        refine j_get hE flX1_15 gB_0 rfl dX1_mixInto_25 ?_
        refine j_ic_geN hE (tgt := 69) dX1_mixInto_28 (by decide) (by omega) (by omega) (fun h28 => ?_) (fun h28 => ?_)
        · exfalso; omega
        · refine j_iconst hE (v := nI 0) dX1_mixInto_31 (by decide) ?_
          refine j_ist6 hE dX1_mixInto_32 (by decide) rfl ?_
          have key34 : ∀ k, k ≤ w → ∀ hs, J K A E 7 (gB F h (lyC K h w m true tk ow)) hs 0 0 34 [some (.ref h), some (.long z), none, some (.long (itr (lH ow f) k (itr (lHs ow w) f (31 * z + 1)))), none, some (.int (nI f)), some (.int (nI k))] [] := by
            refine dloop (fun k => ∀ hs, J K A E 7 (gB F h (lyC K h w m true tk ow)) hs 0 0 34 [some (.ref h), some (.long z), none, some (.long (itr (lH ow f) k (itr (lHs ow w) f (31 * z + 1)))), none, some (.int (nI f)), some (.int (nI k))] []) (w) (fun k hi34 ih34 => ?_) ?_
            · intro hs
              refine j_iload hE dX1_mixInto_34 rfl ?_
              refine j_aload_n hE (i := 0) dX1_mixInto_36 rfl rfl ?_
              refine j_get hE flX1_9 gB_0 rfl dX1_mixInto_37 ?_
              refine j_ic_geN hE (tgt := 63) dX1_mixInto_40 (by decide) (by omega) (by omega) (fun h40 => ?_) (fun h40 => ?_)
              · exfalso; omega
              · refine j_lload_n hE (i := 3) dX1_mixInto_43 rfl rfl ?_
                refine j_aload_n hE (i := 0) dX1_mixInto_44 rfl rfl ?_
                refine j_iload hE dX1_mixInto_45 rfl ?_
                refine j_iload hE dX1_mixInto_47 rfl ?_
                refine j_cVi hE mlX1_67 gB_0 (fun l hl => c_X1_ownerAt hl K F h _ w m _ _ _ _ _ (by omega) (by omega)) rfl rfl (Nat.le_of_ble_eq_true rfl) (by decide) (by decide) (by omega) (by omega) dX1_mixInto_49 (fun r G9 hs9 hp => ?_) (fun _ _ h => h.elim)
                obtain ⟨rfl, rfl⟩ := hp
                refine j_i2l hE dX1_mixInto_52 ?_
                refine j_cNl hE mlX1_75 (fun l hl => c_X5_mix hl K _ _ _ _) rfl rfl (Nat.le_of_ble_eq_true rfl) (by decide) (by decide) (by omega) (by omega) dX1_mixInto_53 (fun r G9 hs9 hp => ?_)
                obtain ⟨rfl, rfl⟩ := hp
                refine j_lst3 hE dX1_mixInto_56 rfl (by decide) rfl ?_
                refine j_incN6 hE dX1_mixInto_57 (by decide) rfl ?_
                refine j_goto hE (tgt := 34) dX1_mixInto_60 (by decide) ?_
                exact ih34 _
            · intro hs
              refine j_iload hE dX1_mixInto_34 rfl ?_
              refine j_aload_n hE (i := 0) dX1_mixInto_36 rfl rfl ?_
              refine j_get hE flX1_9 gB_0 rfl dX1_mixInto_37 ?_
              refine j_ic_geN hE (tgt := 63) dX1_mixInto_40 (by decide) (by omega) (by omega) (fun h40 => ?_) (fun h40 => ?_)
              · refine j_incN5 hE dX1_mixInto_63 (by decide) rfl ?_
                refine j_goto hE (tgt := 22) dX1_mixInto_66 (by decide) ?_
                exact ih22 _ _
              · exfalso; omega
          exact key34 0 (by omega) _
      · intro hs
        intro a6
        refine j_iload hE dX1_mixInto_22 rfl ?_
        refine j_aload_n hE (i := 0) dX1_mixInto_24 rfl rfl ?_
        refine j_get hE flX1_15 gB_0 rfl dX1_mixInto_25 ?_
        refine j_ic_geN hE (tgt := 69) dX1_mixInto_28 (by decide) (by omega) (by omega) (fun h28 => ?_) (fun h28 => ?_)
        · refine j_lload_n hE (i := 3) dX1_mixInto_69 rfl rfl ?_
          refine j_lret hE hQ (by omega) (by omega) dX1_mixInto_70 ?_
          exact ⟨_, rfl, rfl, rfl⟩
        · exfalso; omega
    exact key22 0 (by omega) _ _
  · exfalso; omega

set_option maxRecDepth 100000 in
set_option maxHeartbeats 4000000 in
theorem c_X1_mixInto_f {l : Launch} (hl : l.stackTraces = false) (K : jK) (F : GH) (h hs w m : Nat) (tk : Nat) (ow : Nat → Int32) (z : Int64) : Ct l K yX1_mixInto cX1_mixInto 7 (some .long) 1 23 0 0 [.ref h, .long z] (gB F h (lyC K h w m false tk ow)) hs (pL (fun z9 G' _ => z9 = 31 * z + 0 ∧ G' = (gB F h (lyC K h w m false tk ow)))) jno := by
  refine Ct.ofA hl (by decide) (Nat.le_of_ble_eq_true rfl) (L0 := [some (.ref h), some (.long z), none, none, none, none, none]) (jL_of 4 rfl) ?_
  intro A E hE hQ hX hNm
  refine j_aload_n hE (i := 0) dX1_mixInto_0 rfl rfl ?_
  refine j_get hE flX1_18 gB_0 rfl dX1_mixInto_1 ?_
  refine j_if_neN hE (tgt := 13) dX1_mixInto_4 (by decide) (by omega) (fun h4 => ?_) (fun h4 => ?_)
  · exfalso; omega
  · refine j_lload_n hE (i := 1) dX1_mixInto_7 rfl rfl ?_
    refine j_lconst hE (v := 0) dX1_mixInto_8 (by decide) ?_
    refine j_cNl hE mlX1_75 (fun l hl => c_X5_mix hl K _ _ _ _) rfl rfl (Nat.le_of_ble_eq_true rfl) (by decide) (by decide) (by omega) (by omega) dX1_mixInto_9 (fun r G9 hs9 hp => ?_)
    obtain ⟨rfl, rfl⟩ := hp
    refine j_lret hE hQ (by omega) (by omega) dX1_mixInto_12 ?_
    exact ⟨_, rfl, rfl, rfl⟩

set_option maxRecDepth 100000 in
set_option maxHeartbeats 4000000 in
theorem c_X1_copyFrom {l : Launch} (hl : l.stackTraces = false) (K : jK) (F : GH) (h hs w m : Nat) (pl : Bool) (tk : Nat) (ow : Nat → Int32) (o w2 m2 : Nat) (pl2 : Bool) (tk2 : Nat) (ow2 : Nat → Int32) (hF0 : F o = some (.inr (1, [.int (nI w2), .int (nI m2), .int (jb pl2), .int (nI tk2), .ref (o + 1)]))) (hF1 : F (o + 1) = some (iA K 128 ow2)) (hd : o + 2 ≤ h ∨ h + 2 ≤ o) : Ct l K yX1_copyFrom cX1_copyFrom 2 none 1 18 0 0 [.ref h, .ref o] (gB F h (lyC K h w m pl tk ow)) hs (pV (fun G' _ => G' = (gB F h (lyC K h w2 m2 pl2 tk2 (va_cpy ow2 ow 0 0 128))))) jno := by
  refine Ct.ofA hl (by decide) (Nat.le_of_ble_eq_true rfl) (L0 := [some (.ref h), some (.ref o)]) (jL_of 0 rfl) ?_
  intro A E hE hQ hX hNm
  refine j_aload_n hE (i := 0) dX1_copyFrom_0 rfl rfl ?_
  refine j_aload_n hE (i := 1) dX1_copyFrom_1 rfl rfl ?_
  refine j_get hE flX1_9 ((gB_out (by simp only [List.length_cons, List.length_nil]; omega)).trans hF0) rfl dX1_copyFrom_2 ?_
  refine b_put0 hE flX1_9 rfl rfl dX1_copyFrom_5 ?_
  refine j_aload_n hE (i := 0) dX1_copyFrom_8 rfl rfl ?_
  refine j_aload_n hE (i := 1) dX1_copyFrom_9 rfl rfl ?_
  refine j_get hE flX1_15 ((gB_out (by simp only [List.length_cons, List.length_nil]; omega)).trans hF0) rfl dX1_copyFrom_10 ?_
  refine b_put1 hE flX1_15 rfl rfl dX1_copyFrom_13 ?_
  refine j_aload_n hE (i := 0) dX1_copyFrom_16 rfl rfl ?_
  refine j_aload_n hE (i := 1) dX1_copyFrom_17 rfl rfl ?_
  refine j_get hE flX1_18 ((gB_out (by simp only [List.length_cons, List.length_nil]; omega)).trans hF0) rfl dX1_copyFrom_18 ?_
  refine b_put2 hE flX1_18 (jb_nar _) (jb_fit _) dX1_copyFrom_21 ?_
  refine j_aload_n hE (i := 0) dX1_copyFrom_24 rfl rfl ?_
  refine j_aload_n hE (i := 1) dX1_copyFrom_25 rfl rfl ?_
  refine j_get hE flX1_22 ((gB_out (by simp only [List.length_cons, List.length_nil]; omega)).trans hF0) rfl dX1_copyFrom_26 ?_
  refine b_put3 hE flX1_22 rfl rfl dX1_copyFrom_29 ?_
  refine j_aload_n hE (i := 1) dX1_copyFrom_32 rfl rfl ?_
  refine j_get hE flX1_25 ((gB_out (by simp only [List.length_cons, List.length_nil]; omega)).trans hF0) rfl dX1_copyFrom_33 ?_
  refine j_iconst hE (v := nI 0) dX1_copyFrom_36 (by decide) ?_
  refine j_aload_n hE (i := 0) dX1_copyFrom_37 rfl rfl ?_
  refine j_get hE flX1_25 gB_0 rfl dX1_copyFrom_38 ?_
  refine j_iconst hE (v := nI 0) dX1_copyFrom_41 (by decide) ?_
  refine j_aload_n hE (i := 0) dX1_copyFrom_42 rfl rfl ?_
  refine j_get hE flX1_25 gB_0 rfl dX1_copyFrom_43 ?_
  refine j_alen hE gB_1 dX1_copyFrom_46 ?_
  refine b_copy1 hE tw_209 tw_211 tw_210 tw_12 ((gB_out (by simp only [List.length_cons, List.length_nil]; omega)).trans hF1) rfl rfl rfl (by omega) (by omega) (by decide) (by decide) (by decide) (Nat.le_of_ble_eq_true rfl) dX1_copyFrom_47 (fun hs => ?_)
  refine j_vret hE hQ (by omega) (by omega) dX1_copyFrom_50 ?_
  exact ⟨rfl, rfl⟩

set_option maxRecDepth 100000 in
set_option maxHeartbeats 4000000 in
theorem c_X1_freeAll {l : Launch} (hl : l.stackTraces = false) (K : jK) (F : GH) (h hs w m : Nat) (pl : Bool) (tk : Nat) (ow : Nat → Int32) : Ct l K yX1_freeAll cX1_freeAll 1 none 1 23 0 0 [.ref h] (gB F h (lyC K h w m pl tk ow)) hs (pV (fun G' _ => G' = (gB F h (lyC K h w m pl 0 (itr (flF (-1)) 128 ow))))) jno := by
  refine Ct.ofA hl (by decide) (Nat.le_of_ble_eq_true rfl) (L0 := [some (.ref h)]) (jL_of 0 rfl) ?_
  intro A E hE hQ hX hNm
  refine j_aload_n hE (i := 0) dX1_freeAll_0 rfl rfl ?_
  refine j_iconst hE (v := nI 0) dX1_freeAll_1 (by decide) ?_
  refine b_put3 hE flX1_22 rfl rfl dX1_freeAll_2 ?_
  refine j_aload_n hE (i := 0) dX1_freeAll_5 rfl rfl ?_
  refine j_get hE flX1_25 gB_0 rfl dX1_freeAll_6 ?_
  refine j_iconst hE (v := -1) dX1_freeAll_9 (by decide) ?_
  refine j_cSv hE mlX1_35 (fun l hl => c_fill hl K _ _ _ 128 _ _ gB_1 (by decide)) rfl rfl (Nat.le_of_ble_eq_true rfl) (by decide) (by decide) (by omega) (by omega) dX1_freeAll_10 (fun G9 hs9 hp => ?_) (fun _ _ h => h.elim)
  subst hp
  rw [gB_s1]
  refine j_vret hE hQ (by omega) (by omega) dX1_freeAll_13 ?_
  exact ⟨rfl, rfl⟩

set_option maxRecDepth 100000 in
set_option maxHeartbeats 4000000 in
theorem c_X1_init {l : Launch} (hl : l.stackTraces = false) (K : jK) (F : GH) (h : Nat) : Ct l K yX1_init cX1_init 1 none 1 12 1 128 [.ref h] (gB F h [.inr (1, [.int 0, .int 0, .int 0, .int 0, .null])]) (h + 1) (pV (fun G' hs' => G' = gB F h (lyC K h 8 4 false 0 (fun _ => 0)) ∧ hs' = h + 2)) jno := by
  refine Ct.ofA hl (by decide) (Nat.le_of_ble_eq_true rfl) (L0 := [some (.ref h)]) (jL_of 0 rfl) ?_
  intro A E hE hQ hX hNm
  refine j_aload_n hE (i := 0) dX1_init_0 rfl rfl ?_
  refine j_obj hE tw_35 tw_22 tw_23 (by decide) (Nat.le_of_ble_eq_true rfl) dX1_init_1 ?_
  refine j_aload_n hE (i := 0) dX1_init_4 rfl rfl ?_
  refine j_bipush hE (v := nI 8) dX1_init_5 (by decide) ?_
  refine b_put0 hE flX1_9 rfl rfl dX1_init_7 ?_
  refine j_aload_n hE (i := 0) dX1_init_10 rfl rfl ?_
  refine j_iconst hE (v := nI 4) dX1_init_11 (by decide) ?_
  refine b_put1 hE flX1_15 rfl rfl dX1_init_12 ?_
  refine j_aload_n hE (i := 0) dX1_init_15 rfl rfl ?_
  refine j_iconst hE (v := nI 0) dX1_init_16 (by decide) ?_
  refine b_put2 hE flX1_18 (by decide) (by decide) dX1_init_17 ?_
  refine j_aload_n hE (i := 0) dX1_init_20 rfl rfl ?_
  refine j_iconst hE (v := nI 0) dX1_init_21 (by decide) ?_
  refine b_put3 hE flX1_22 rfl rfl dX1_init_22 ?_
  refine j_aload_n hE (i := 0) dX1_init_25 rfl rfl ?_
  refine j_sipush hE (v := nI 128) dX1_init_26 (by decide) ?_
  refine j_newi hE (N := 128) rfl (by decide) tw_59 (by decide) (by decide) dX1_init_29 ?_
  rw [gB_push (by simp only [List.length_cons, List.length_nil])]
  simp only [List.cons_append, List.nil_append]
  refine b_putF4 hE hNm rfl flX1_25 rfl rfl dX1_init_31 ?_
  refine j_vret hE hQ (by omega) (by omega) dX1_init_34 ?_
  exact ⟨rfl, rfl, by omega⟩

