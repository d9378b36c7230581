/-! ===== the reference: sending, the channel ===== -/
def bitOf (v : Int32) (j : Nat) : Int32 := (v >>> ((nI 7 - nI j) &&& 31)) &&& nI 1
theorem s7_dec (j : Nat) : nI 7 - nI j + Int32.ofInt (-1) = nI 7 - nI (j + 1) := by
  rw [nI_succ j, show Int32.ofInt (-1) = -1 by decide, Int32.add_neg_eq_sub, Int32.sub_sub]
theorem s7_lt {j : Nat} (h : j ≤ 7) : ¬ nI 7 - nI j < 0 := by
  rw [pk_sub h]
  exact nI_pos (by omega)
theorem s7_ge : nI 7 - nI 8 < 0 := by decide
def wdOf (now : Nat → Int32) (f w : Nat) : Int32 := if w = 0 then nI 235 else if w = 1 then nI 144 else if w = 2 then nI f else if now (201 + 16 * f + w) = -1 then nI 85 else now (33 + 14 * (now (201 + 16 * f + w)).toNatClampNeg + 1)
/-- a bit of the word v goes to the place b + j of the channel -/
def sB (v : Int32) (b j : Nat) (now : Nat → Int32) : Nat → Int32 := upd (upd now (329 + (b + j)) (bitOf v j)) 5 (nI (b + j + 1))
def sW (n0 : Nat → Int32) (f b w : Nat) (now : Nat → Int32) : Nat → Int32 := itr (sB (wdOf n0 f w) (b + 8 * w)) 8 now
def mSend (now : Nat → Int32) (W M f b : Nat) : Nat → Int32 := upd (itr (sW now f b) W now) 4 (nI ((f + 1) % M))
theorem sB_out (v : Int32) (b : Nat) (now : Nat → Int32) {i : Nat} (h : i ≠ 5) (h2 : i < 329 + b) : ∀ n, itr (sB v b) n now i = now i
  | 0 => rfl
  | n + 1 => by
    rw [itr_s]
    unfold sB
    rw [upd_n h, upd_n (by omega)]
    exact sB_out v b now h h2 n
theorem sB_5 (v : Int32) (b : Nat) (now : Nat → Int32) (h : now 5 = nI b) : ∀ n, itr (sB v b) n now 5 = nI (b + n)
  | 0 => h
  | n + 1 => by
    rw [itr_s]
    unfold sB
    rw [upd_s]
    rfl
theorem sW_out (n0 : Nat → Int32) (f b : Nat) (now : Nat → Int32) {i : Nat} (h : i ≠ 5) (h2 : i < 329) : ∀ n, itr (sW n0 f b) n now i = now i
  | 0 => rfl
  | n + 1 => by
    rw [itr_s]
    unfold sW
    rw [sB_out _ _ _ h (by omega)]
    exact sW_out n0 f b now h h2 n
theorem sW_5 (n0 : Nat → Int32) (f b : Nat) (now : Nat → Int32) (h : now 5 = nI b) : ∀ n, itr (sW n0 f b) n now 5 = nI (b + 8 * n)
  | 0 => h
  | n + 1 => by
    rw [itr_s]
    show itr (sB (wdOf n0 f n) (b + 8 * n)) 8 (itr (sW n0 f b) n now) 5 = _
    rw [sB_5 _ _ _ (sW_5 n0 f b now h n)]
    congr 1
theorem wdOf_cong {n0 n1 : Nat → Int32} {f w : Nat} (h : ∀ i, i ≠ 5 → i < 329 → n1 i = n0 i) (hf : f < 8) (hw : w < 16) (ho : 3 ≤ w → owP n0 (16 * f + w)) : wdOf n1 f w = wdOf n0 f w := by
  unfold wdOf
  by_cases h3 : 3 ≤ w
  · have e1 : n1 (201 + 16 * f + w) = n0 (201 + 16 * f + w) := h _ (by omega) (by omega)
    rw [e1]
    rcases ho h3 with ho | ⟨p, hp, ho⟩
    · have e : n0 (201 + 16 * f + w) = -1 := by rw [← ho, Nat.add_assoc]
      rw [e]
      simp
    · have e : n0 (201 + 16 * f + w) = nI p := by rw [← ho, Nat.add_assoc]
      rw [e, nI_clamp (by omega), h _ (by omega) (by omega)]
  · rcases (show w = 0 ∨ w = 1 ∨ w = 2 by omega) with rfl | rfl | rfl <;> simp
set_option maxRecDepth 100000 in
set_option maxHeartbeats 4000000 in
theorem c_X6_wordOf_0 {l : Launch} (hl : l.stackTraces = false) (K : jK) (F : GH) (h0 hs : Nat) (now past : Nat → Int32) (kept thrown : Int32) (drawn : Nat → Int32) (hash : Int64) (f : Nat) : Ct l K yX6_wordOf cX6_wordOf 4 (some .int) 1 22 0 0 [.ref h0, .int (nI f), .int (nI 0)] (gB F h0 (mC K h0 now past kept thrown drawn hash)) hs (pI (fun z9 G' _ => z9 = nI 235 ∧ G' = (gB F h0 (mC K h0 now past kept thrown drawn hash)))) jno := by
  refine Ct.ofA hl (by decide) (Nat.le_of_ble_eq_true rfl) (L0 := [some (.ref h0), some (.int (nI f)), some (.int (nI 0)), none]) (jL_of 1 rfl) ?_
  intro A E hE hQ hX hNm
  refine j_iload_n hE (i := 2) dX6_wordOf_0 rfl rfl ?_
  refine j_tableIn hE (tgt := 28) dX6_wordOf_1 (by decide) (by decide) (show _ = some _ from rfl) (by decide) ?_
  refine j_sipush hE (v := nI 235) dX6_wordOf_28 (by decide) ?_
  refine j_iret hE hQ rfl (by omega) (by omega) dX6_wordOf_31 ?_
  exact ⟨_, rfl, rfl, rfl⟩

set_option maxRecDepth 100000 in
set_option maxHeartbeats 4000000 in
theorem c_X6_wordOf_1 {l : Launch} (hl : l.stackTraces = false) (K : jK) (F : GH) (h0 hs : Nat) (now past : Nat → Int32) (kept thrown : Int32) (drawn : Nat → Int32) (hash : Int64) (f : Nat) : Ct l K yX6_wordOf cX6_wordOf 4 (some .int) 1 22 0 0 [.ref h0, .int (nI f), .int (nI 1)] (gB F h0 (mC K h0 now past kept thrown drawn hash)) hs (pI (fun z9 G' _ => z9 = nI 144 ∧ G' = (gB F h0 (mC K h0 now past kept thrown drawn hash)))) jno := by
  refine Ct.ofA hl (by decide) (Nat.le_of_ble_eq_true rfl) (L0 := [some (.ref h0), some (.int (nI f)), some (.int (nI 1)), none]) (jL_of 1 rfl) ?_
  intro A E hE hQ hX hNm
  refine j_iload_n hE (i := 2) dX6_wordOf_0 rfl rfl ?_
  refine j_tableIn hE (tgt := 32) dX6_wordOf_1 (by decide) (by decide) (show _ = some _ from rfl) (by decide) ?_
  refine j_sipush hE (v := nI 144) dX6_wordOf_32 (by decide) ?_
  refine j_iret hE hQ rfl (by omega) (by omega) dX6_wordOf_35 ?_
  exact ⟨_, rfl, rfl, rfl⟩

set_option maxRecDepth 100000 in
set_option maxHeartbeats 4000000 in
theorem c_X6_wordOf_2 {l : Launch} (hl : l.stackTraces = false) (K : jK) (F : GH) (h0 hs : Nat) (now past : Nat → Int32) (kept thrown : Int32) (drawn : Nat → Int32) (hash : Int64) (f : Nat) : Ct l K yX6_wordOf cX6_wordOf 4 (some .int) 1 22 0 0 [.ref h0, .int (nI f), .int (nI 2)] (gB F h0 (mC K h0 now past kept thrown drawn hash)) hs (pI (fun z9 G' _ => z9 = nI f ∧ G' = (gB F h0 (mC K h0 now past kept thrown drawn hash)))) jno := by
  refine Ct.ofA hl (by decide) (Nat.le_of_ble_eq_true rfl) (L0 := [some (.ref h0), some (.int (nI f)), some (.int (nI 2)), none]) (jL_of 1 rfl) ?_
  intro A E hE hQ hX hNm
  refine j_iload_n hE (i := 2) dX6_wordOf_0 rfl rfl ?_
  refine j_tableIn hE (tgt := 36) dX6_wordOf_1 (by decide) (by decide) (show _ = some _ from rfl) (by decide) ?_
  refine j_iload_n hE (i := 1) dX6_wordOf_36 rfl rfl ?_
  refine j_iret hE hQ rfl (by omega) (by omega) dX6_wordOf_37 ?_
  exact ⟨_, rfl, rfl, rfl⟩

set_option maxRecDepth 100000 in
set_option maxHeartbeats 4000000 in
theorem c_X6_wordOf_n {l : Launch} (hl : l.stackTraces = false) (K : jK) (F : GH) (h0 hs : Nat) (now past : Nat → Int32) (kept thrown : Int32) (drawn : Nat → Int32) (hash : Int64) (f w : Nat) (hf : f < 8) (hw : 3 ≤ w) (hw9 : w < 16) (ho : now (201 + 16 * f + w) = -1) : Ct l K yX6_wordOf cX6_wordOf 4 (some .int) 1 22 0 0 [.ref h0, .int (nI f), .int (nI w)] (gB F h0 (mC K h0 now past kept thrown drawn hash)) hs (pI (fun z9 G' _ => z9 = nI 85 ∧ G' = (gB F h0 (mC K h0 now past kept thrown drawn hash)))) jno := by
  refine Ct.ofA hl (by decide) (Nat.le_of_ble_eq_true rfl) (L0 := [some (.ref h0), some (.int (nI f)), some (.int (nI w)), none]) (jL_of 1 rfl) ?_
  intro A E hE hQ hX hNm
  refine j_iload_n hE (i := 2) dX6_wordOf_0 rfl rfl ?_
  refine j_tableOut hE (tgt := 38) dX6_wordOf_1 (Or.inr (by rw [nI_toInt (by omega)]; omega)) (by decide) ?_
  refine j_aload_n hE (i := 0) dX6_wordOf_38 rfl rfl ?_
  refine j_iload_n hE (i := 1) dX6_wordOf_39 rfl rfl ?_
  refine j_iload_n hE (i := 2) dX6_wordOf_40 rfl rfl ?_
  refine j_cVi hE mlX6_82 gB_0 (fun l hl => c_X6_ownerAt hl K F h0 _ _ _ _ _ _ _ _ _ (by omega)) rfl rfl (Nat.le_of_ble_eq_true rfl) (by decide) (by decide) (by omega) (by omega) dX6_wordOf_41 (fun r G9 hs9 hp => ?_) (fun _ _ h => h.elim)
  obtain ⟨rfl, rfl⟩ := hp
  refine j_ist3 hE dX6_wordOf_44 rfl (by decide) rfl ?_
  refine j_iload_n hE (i := 3) dX6_wordOf_45 rfl rfl ?_
  refine j_iconst hE (v := -1) dX6_wordOf_46 (by decide) ?_
  refine j_ic_ne hE (tgt := 55) dX6_wordOf_47 (by decide) (fun h47 => ?_) (fun h47 => ?_)
  · exact absurd ho h47
  · refine j_bipush hE (v := nI 85) dX6_wordOf_50 (by decide) ?_
    refine j_goto hE (tgt := 61) dX6_wordOf_52 (by decide) ?_
    refine j_iret hE hQ rfl (by omega) (by omega) dX6_wordOf_61 ?_
    exact ⟨_, rfl, rfl, rfl⟩

set_option maxRecDepth 100000 in
set_option maxHeartbeats 4000000 in
theorem c_X6_wordOf_p {l : Launch} (hl : l.stackTraces = false) (K : jK) (F : GH) (h0 hs : Nat) (now past : Nat → Int32) (kept thrown : Int32) (drawn : Nat → Int32) (hash : Int64) (f w p : Nat) (hf : f < 8) (hw : 3 ≤ w) (hw9 : w < 16) (hp : p < 12) (ho : now (201 + 16 * f + w) = nI p) : Ct l K yX6_wordOf cX6_wordOf 4 (some .int) 1 22 0 0 [.ref h0, .int (nI f), .int (nI w)] (gB F h0 (mC K h0 now past kept thrown drawn hash)) hs (pI (fun z9 G' _ => z9 = now (33 + 14 * p + 1) ∧ G' = (gB F h0 (mC K h0 now past kept thrown drawn hash)))) jno := by
  refine Ct.ofA hl (by decide) (Nat.le_of_ble_eq_true rfl) (L0 := [some (.ref h0), some (.int (nI f)), some (.int (nI w)), none]) (jL_of 1 rfl) ?_
  intro A E hE hQ hX hNm
  refine j_iload_n hE (i := 2) dX6_wordOf_0 rfl rfl ?_
  refine j_tableOut hE (tgt := 38) dX6_wordOf_1 (Or.inr (by rw [nI_toInt (by omega)]; omega)) (by decide) ?_
  refine j_aload_n hE (i := 0) dX6_wordOf_38 rfl rfl ?_
  refine j_iload_n hE (i := 1) dX6_wordOf_39 rfl rfl ?_
  refine j_iload_n hE (i := 2) dX6_wordOf_40 rfl rfl ?_
  refine j_cVi hE mlX6_82 gB_0 (fun l hl => c_X6_ownerAt hl K F h0 _ _ _ _ _ _ _ _ _ (by omega)) rfl rfl (Nat.le_of_ble_eq_true rfl) (by decide) (by decide) (by omega) (by omega) dX6_wordOf_41 (fun r G9 hs9 hp => ?_) (fun _ _ h => h.elim)
  obtain ⟨rfl, rfl⟩ := hp
  rw [ho]
  refine j_ist3 hE dX6_wordOf_44 rfl (by decide) rfl ?_
  refine j_iload_n hE (i := 3) dX6_wordOf_45 rfl rfl ?_
  refine j_iconst hE (v := -1) dX6_wordOf_46 (by decide) ?_
  refine j_ic_ne hE (tgt := 55) dX6_wordOf_47 (by decide) (fun h47 => ?_) (fun h47 => ?_)
  · refine j_aload_n hE (i := 0) dX6_wordOf_55 rfl rfl ?_
    refine j_iload_n hE (i := 3) dX6_wordOf_56 rfl rfl ?_
    refine j_iconst hE (v := nI 1) dX6_wordOf_57 (by decide) ?_
    refine j_cVi hE mlX6_43 gB_0 (fun l hl => c_X6_of hl K F h0 _ _ _ _ _ _ _ _ _ (by omega)) rfl rfl (Nat.le_of_ble_eq_true rfl) (by decide) (by decide) (by omega) (by omega) dX6_wordOf_58 (fun r G9 hs9 hp => ?_) (fun _ _ h => h.elim)
    obtain ⟨rfl, rfl⟩ := hp
    refine j_iret hE hQ rfl (by omega) (by omega) dX6_wordOf_61 ?_
    exact ⟨_, rfl, rfl, rfl⟩
  · exact absurd h47 (nI_m1 (by omega))

theorem c_X6_wordOf {l : Launch} (hl : l.stackTraces = false) (K : jK) (F : GH) (h0 hs : Nat) (now past : Nat → Int32) (kept thrown : Int32) (drawn : Nat → Int32) (hash : Int64) (f w : Nat) (hf : f < 8) (hw9 : w < 16) (ho : 3 ≤ w → owP now (16 * f + w)) : Ct l K yX6_wordOf cX6_wordOf 4 (some .int) 1 22 0 0 [.ref h0, .int (nI f), .int (nI w)] (gB F h0 (mC K h0 now past kept thrown drawn hash)) hs (pI (fun z9 G' _ => z9 = wdOf now f w ∧ G' = (gB F h0 (mC K h0 now past kept thrown drawn hash)))) jno := by
  rcases (show w = 0 ∨ w = 1 ∨ w = 2 ∨ 3 ≤ w by omega) with rfl | rfl | rfl | hw
  · exact c_X6_wordOf_0 hl K F h0 hs now past kept thrown drawn hash f
  · exact c_X6_wordOf_1 hl K F h0 hs now past kept thrown drawn hash f
  · exact c_X6_wordOf_2 hl K F h0 hs now past kept thrown drawn hash f
  · rcases ho hw with ho | ⟨p, hp, ho⟩
    · have e : now (201 + 16 * f + w) = -1 := by rw [← ho, Nat.add_assoc]
      have e2 : wdOf now f w = nI 85 := by unfold wdOf; rw [if_neg (by omega), if_neg (by omega), if_neg (by omega), if_pos e]
      rw [e2]
      exact c_X6_wordOf_n hl K F h0 hs now past kept thrown drawn hash f w hf hw hw9 e
    · have e : now (201 + 16 * f + w) = nI p := by rw [← ho, Nat.add_assoc]
      have e2 : wdOf now f w = now (33 + 14 * p + 1) := by unfold wdOf; rw [if_neg (by omega), if_neg (by omega), if_neg (by omega), if_neg (by rw [e]; exact nI_m1 (by omega)), e, nI_clamp (by omega)]
      rw [e2]
      exact c_X6_wordOf_p hl K F h0 hs now past kept thrown drawn hash f w p hf hw hw9 hp e
set_option maxRecDepth 100000 in
set_option maxHeartbeats 4000000 in
theorem c_X6_sends {l : Launch} (hl : l.stackTraces = false) (K : jK) (F : GH) (h0 hs : Nat) (now past : Nat → Int32) (kept thrown : Int32) (drawn : Nat → Int32) (hash : Int64) (W M f b : Nat) (hW : now 0 = nI W) (hM : now 1 = nI M) (hW9 : W ≤ 16) (hM1 : 1 ≤ M) (hM9 : M ≤ 8) (hf : f < M) (hnx : now 4 = nI f) (hb : now 5 = nI b) (hroom : b + 8 * W ≤ 2048) (how : ∀ k, k < 16 → owP now (16 * f + k)) : Ct l K yX6_sends cX6_sends 4 none 2 45 0 0 [.ref h0] (gB F h0 (mC K h0 now past kept thrown drawn hash)) hs (pV (fun G' _ => G' = (gB F h0 (mC K h0 (mSend now W M f b) past kept thrown drawn hash)))) jno := by
  refine Ct.ofA hl (by decide) (Nat.le_of_ble_eq_true rfl) (L0 := [some (.ref h0), none, none, none]) (jL_of 3 rfl) ?_
  intro A E hE hQ hX hNm
  refine j_iconst hE (v := nI 0) dX6_sends_0 (by decide) ?_
  refine j_ist1 hE dX6_sends_1 rfl (by decide) rfl ?_
  have key2 : ∀ w, w ≤ W → ∀ hs, ∀ a2 a3, J K A E 4 (gB F h0 (mC K h0 (itr (sW now f b) w now) past kept thrown drawn hash)) hs 0 0 2 [some (.ref h0), some (.int (nI w)), a2, a3] [] := by
    refine dloop (fun w => ∀ hs, ∀ a2 a3, J K A E 4 (gB F h0 (mC K h0 (itr (sW now f b) w now) past kept thrown drawn hash)) hs 0 0 2 [some (.ref h0), some (.int (nI w)), a2, a3] []) (W) (fun w hi2 ih2 => ?_) ?_
    · intro hs
      intro a2 a3
      obtain ⟨nw, hnw⟩ : ∃ nw, nw = itr (sW now f b) w now := ⟨_, rfl⟩
      rw [← hnw]
      have hout : ∀ {i : Nat}, i ≠ 5 → i < 329 → nw i = now i := fun h h2 => by rw [hnw]; exact sW_out now f b now h h2 w
      have h5 : nw 5 = nI (b + 8 * w) := by rw [hnw]; exact sW_5 now f b now hb w
      have hwd : wdOf nw f w = wdOf now f w := wdOf_cong (fun i h h2 => hout h h2) (by omega) (by omega) (fun _ => how w (by omega))
      have hst : itr (sW now f b) (w + 1) now = itr (sB (wdOf now f w) (b + 8 * w)) 8 nw := by rw [itr_s, hnw]; rfl
      rw [hst] at ih2
      refine j_iload_n hE (i := 1) dX6_sends_2 rfl rfl ?_
      refine j_aload_n hE (i := 0) dX6_sends_3 rfl rfl ?_
      refine j_get hE flX6_7 gB_0 rfl dX6_sends_4 ?_
      refine j_iconst hE (v := nI 0) dX6_sends_7 (by decide) ?_
      refine j_iald hE gB_1 rfl (by omega) (by decide) dX6_sends_8 ?_
      rw [(hout (by decide) (by decide)).trans hW]
      refine j_ic_geN hE (tgt := 73) dX6_sends_9 (by decide) (by omega) (by omega) (fun h9 => ?_) (fun h9 => ?_)
      · exfalso; omega
      · refine j_aload_n hE (i := 0) dX6_sends_12 rfl rfl ?_
        refine j_aload_n hE (i := 0) dX6_sends_13 rfl rfl ?_
        refine j_get hE flX6_7 gB_0 rfl dX6_sends_14 ?_
        refine j_iconst hE (v := nI 4) dX6_sends_17 (by decide) ?_
        refine j_iald hE gB_1 rfl (by omega) (by decide) dX6_sends_18 ?_
        rw [(hout (by decide) (by decide)).trans hnx]
        refine j_iload_n hE (i := 1) dX6_sends_19 rfl rfl ?_
        refine j_cVi hE mlX6_85 gB_0 (fun l hl => c_X6_wordOf hl K F h0 _ _ _ _ _ _ _ f _ (by omega) (by omega) (fun _ => by have := how w (by omega); unfold owP at this ⊢; rw [hout (by omega) (by omega)]; exact this)) rfl rfl (Nat.le_of_ble_eq_true rfl) (by decide) (by decide) (by omega) (by omega) dX6_sends_20 (fun r G9 hs9 hp => ?_) (fun _ _ h => h.elim)
        obtain ⟨rfl, rfl⟩ := hp
        rw [hwd]
        refine j_ist2 hE dX6_sends_23 rfl (by decide) rfl ?_
        refine j_bipush hE (v := nI 7) dX6_sends_24 (by decide) ?_
        refine j_ist3 hE dX6_sends_26 rfl (by decide) rfl ?_
        have key27 : ∀ j, j ≤ 8 → ∀ hs, J K A E 4 (gB F h0 (mC K h0 (itr (sB (wdOf now f w) (b + 8 * w)) j nw) past kept thrown drawn hash)) hs 0 0 27 [some (.ref h0), some (.int (nI w)), some (.int (wdOf now f w)), some (.int (nI 7 - nI j))] [] := by
          refine dloop (fun j => ∀ hs, J K A E 4 (gB F h0 (mC K h0 (itr (sB (wdOf now f w) (b + 8 * w)) j nw) past kept thrown drawn hash)) hs 0 0 27 [some (.ref h0), some (.int (nI w)), some (.int (wdOf now f w)), some (.int (nI 7 - nI j))] []) (8) (fun j hi27 ih27 => ?_) ?_
          · intro hs
            have h5j := sB_5 (wdOf now f w) (b + 8 * w) nw h5 j
            refine j_iload_n hE (i := 3) dX6_sends_27 rfl rfl ?_
            refine j_if_lt hE (tgt := 67) dX6_sends_28 (by decide) (fun h28 => ?_) (fun h28 => ?_)
            · exact absurd h28 (s7_lt (by omega))
            · refine j_aload_n hE (i := 0) dX6_sends_31 rfl rfl ?_
              refine j_get hE flX6_7 gB_0 rfl dX6_sends_32 ?_
              refine j_sipush hE (v := nI 329) dX6_sends_35 (by decide) ?_
              refine j_aload_n hE (i := 0) dX6_sends_38 rfl rfl ?_
              refine j_get hE flX6_7 gB_0 rfl dX6_sends_39 ?_
              refine j_iconst hE (v := nI 5) dX6_sends_42 (by decide) ?_
              refine j_iald hE gB_1 rfl (by omega) (by decide) dX6_sends_43 ?_
              rw [h5j]
              refine j_iaddN hE dX6_sends_44 ?_
              refine j_iload_n hE (i := 2) dX6_sends_45 rfl rfl ?_
              refine j_iload_n hE (i := 3) dX6_sends_46 rfl rfl ?_
              refine j_ishr hE dX6_sends_47 ?_
              refine j_iconst hE (v := nI 1) dX6_sends_48 (by decide) ?_
              refine j_iand hE dX6_sends_49 ?_
              refine b_ast1 hE rfl (by omega) (by decide) dX6_sends_50 ?_
              refine j_aload_n hE (i := 0) dX6_sends_51 rfl rfl ?_
              refine j_get hE flX6_7 gB_0 rfl dX6_sends_52 ?_
              refine j_iconst hE (v := nI 5) dX6_sends_55 (by decide) ?_
              refine j_dup2 hE dX6_sends_56 rfl rfl ?_
              refine j_iald hE gB_1 rfl (by omega) (by decide) dX6_sends_57 ?_
              rw [upd1_at h5j (by omega)]
              refine j_iconst hE (v := nI 1) dX6_sends_58 (by decide) ?_
              refine j_iaddN hE dX6_sends_59 ?_
              refine b_ast1 hE rfl (by omega) (by decide) dX6_sends_60 ?_
              refine j_inc3 hE dX6_sends_61 (s7_dec _) (by decide) rfl ?_
              refine j_goto hE (tgt := 27) dX6_sends_64 (by decide) ?_
              exact ih27 _
          · intro hs
            refine j_iload_n hE (i := 3) dX6_sends_27 rfl rfl ?_
            refine j_if_lt hE (tgt := 67) dX6_sends_28 (by decide) (fun h28 => ?_) (fun h28 => ?_)
            · refine j_incN1 hE dX6_sends_67 (by decide) rfl ?_
              refine j_goto hE (tgt := 2) dX6_sends_70 (by decide) ?_
              exact ih2 _ _ _
            · exact absurd s7_ge h28
        exact key27 0 (by omega) _
    · intro hs
      intro a2 a3
      obtain ⟨nw, hnw⟩ : ∃ nw, nw = itr (sW now f b) W now := ⟨_, rfl⟩
      rw [← hnw]
      have hout : ∀ {i : Nat}, i ≠ 5 → i < 329 → nw i = now i := fun h h2 => by rw [hnw]; exact sW_out now f b now h h2 W
      refine j_iload_n hE (i := 1) dX6_sends_2 rfl rfl ?_
      refine j_aload_n hE (i := 0) dX6_sends_3 rfl rfl ?_
      refine j_get hE flX6_7 gB_0 rfl dX6_sends_4 ?_
      refine j_iconst hE (v := nI 0) dX6_sends_7 (by decide) ?_
      refine j_iald hE gB_1 rfl (by omega) (by decide) dX6_sends_8 ?_
      rw [(hout (by decide) (by decide)).trans hW]
      refine j_ic_geN hE (tgt := 73) dX6_sends_9 (by decide) (by omega) (by omega) (fun h9 => ?_) (fun h9 => ?_)
      · refine j_aload_n hE (i := 0) dX6_sends_73 rfl rfl ?_
        refine j_get hE flX6_7 gB_0 rfl dX6_sends_74 ?_
        refine j_iconst hE (v := nI 4) dX6_sends_77 (by decide) ?_
        refine j_aload_n hE (i := 0) dX6_sends_78 rfl rfl ?_
        refine j_get hE flX6_7 gB_0 rfl dX6_sends_79 ?_
        refine j_iconst hE (v := nI 4) dX6_sends_82 (by decide) ?_
        refine j_iald hE gB_1 rfl (by omega) (by decide) dX6_sends_83 ?_
        rw [(hout (by decide) (by decide)).trans hnx]
        refine j_iconst hE (v := nI 1) dX6_sends_84 (by decide) ?_
        refine j_iaddN hE dX6_sends_85 ?_
        refine j_aload_n hE (i := 0) dX6_sends_86 rfl rfl ?_
        refine j_get hE flX6_7 gB_0 rfl dX6_sends_87 ?_
        refine j_iconst hE (v := nI 1) dX6_sends_90 (by decide) ?_
        refine j_iald hE gB_1 rfl (by omega) (by decide) dX6_sends_91 ?_
        rw [(hout (by decide) (by decide)).trans hM]
        refine j_iremN hE dX6_sends_92 (by omega) (by omega) (by omega) ?_
        refine b_ast1 hE rfl (by omega) (by decide) dX6_sends_93 ?_
        refine j_vret hE hQ (by omega) (by omega) dX6_sends_94 ?_
        refine ⟨rfl, ?_⟩
        rw [hnw]
        rfl
      · exfalso; omega
  exact key2 0 (by omega) _ _ _

theorem mSend_out (now : Nat → Int32) (W M f b : Nat) {i : Nat} (h : i ≠ 5) (h4 : i ≠ 4) (h2 : i < 329) : mSend now W M f b i = now i := by
  unfold mSend
  rw [upd_n h4]
  exact sW_out now f b now h h2 W
theorem mSend_5 (now : Nat → Int32) (W M f b : Nat) (h : now 5 = nI b) : mSend now W M f b 5 = nI (b + 8 * W) := by
  unfold mSend
  rw [upd_n (by decide)]
  exact sW_5 now f b now h W
theorem mSend_4 (now : Nat → Int32) (W M f b : Nat) : mSend now W M f b 4 = nI ((f + 1) % M) := upd_s _ _ _
def sS (W M f b k : Nat) (now : Nat → Int32) : Nat → Int32 := mSend now W M ((f + k) % M) (b + 8 * W * k)
theorem sS_out (W M f b : Nat) (now : Nat → Int32) {i : Nat} (h : i ≠ 5) (h4 : i ≠ 4) (h2 : i < 329) : ∀ n, itr (sS W M f b) n now i = now i
  | 0 => rfl
  | n + 1 => by
    rw [itr_s]
    unfold sS
    rw [mSend_out _ _ _ _ _ h h4 h2]
    exact sS_out W M f b now h h4 h2 n
theorem sS_5 (W M f b : Nat) (now : Nat → Int32) (h : now 5 = nI b) : ∀ n, itr (sS W M f b) n now 5 = nI (b + 8 * W * n)
  | 0 => h
  | n + 1 => by
    rw [itr_s]
    show mSend (itr (sS W M f b) n now) W M ((f + n) % M) (b + 8 * W * n) 5 = _
    rw [mSend_5 _ _ _ _ _ (sS_5 W M f b now h n), Nat.mul_succ, Nat.add_assoc]
theorem sS_4 (W M f b : Nat) (now : Nat → Int32) (h : now 4 = nI f) (hf : f < M) : ∀ n, itr (sS W M f b) n now 4 = nI ((f + n) % M)
  | 0 => by rw [itr_0, h, Nat.add_zero, Nat.mod_eq_of_lt hf]
  | n + 1 => by
    rw [itr_s]
    unfold sS
    rw [mSend_4, Nat.mod_add_mod]
    rfl
set_option maxRecDepth 100000 in
set_option maxHeartbeats 4000000 in
theorem c_X6_send_t {l : Launch} (hl : l.stackTraces = false) (K : jK) (F : GH) (h0 hs : Nat) (now past : Nat → Int32) (thrown : Int32) (k : Nat) (hk : k ≤ 4) (drawn : Nat → Int32) (hash : Int64) (W M f b c : Nat) (hW : now 0 = nI W) (hM : now 1 = nI M) (hW9 : W ≤ 16) (hM1 : 1 ≤ M) (hM9 : M ≤ 8) (hf : f < M) (hnx : now 4 = nI f) (hb : now 5 = nI b) (hpl : now 3 = nI 1) (hc1 : 1 ≤ c) (hc16 : c ≤ 16) (hroom : b + 8 * c * W ≤ 2048) (how : ∀ f, f < M → ∀ k, k < 16 → owP now (16 * f + k)) : Ct l K yX6_send cX6_send 3 (some .int) 3 68 0 0 [.ref h0, .int (nI c)] (gB F h0 (mC K h0 now past (nI k) thrown drawn hash)) hs (pI (fun z9 G' _ => z9 = nI (b + 8 * W * c) ∧ G' = (gB F h0 (mC K h0 (itr (sS W M f b) c now) (mKeep now past k) (nI (mKept k)) (nI 0) drawn hash)))) jno := by
  refine Ct.ofA hl (by decide) (Nat.le_of_ble_eq_true rfl) (L0 := [some (.ref h0), some (.int (nI c)), none]) (jL_of 1 rfl) ?_
  intro A E hE hQ hX hNm
  have h16 : 8 * c * W ≤ 8 * 16 * 16 := Nat.mul_le_mul (by omega) hW9
  refine j_aload_n hE (i := 0) dX6_send_0 rfl rfl ?_
  refine j_iload_n hE (i := 1) dX6_send_1 rfl rfl ?_
  refine j_iconst hE (v := nI 1) dX6_send_2 (by decide) ?_
  refine j_bipush hE (v := nI 16) dX6_send_3 (by decide) ?_
  refine j_cSi hE mlX6_26 (fun l hl => c_X6_in_t hl K _ _ _ _ _ (rg_t (by omega) (by omega) (by decide))) rfl rfl (Nat.le_of_ble_eq_true rfl) (by decide) (by decide) (by omega) (by omega) dX6_send_5 (fun r G9 hs9 hp => ?_) (fun _ _ h => h.elim)
  obtain ⟨rfl, rfl⟩ := hp
  refine j_if_neN hE (tgt := 15) dX6_send_8 (by decide) (by omega) (fun h8 => ?_) (fun h8 => ?_)
  · refine j_aload_n hE (i := 0) dX6_send_15 rfl rfl ?_
    refine j_get hE flX6_7 gB_0 rfl dX6_send_16 ?_
    refine j_iconst hE (v := nI 3) dX6_send_19 (by decide) ?_
    refine j_iald hE gB_1 rfl (by omega) (by decide) dX6_send_20 ?_
    rw [hpl]
    refine j_if_eqN hE (tgt := 48) dX6_send_21 (by decide) (by omega) (fun h21 => ?_) (fun h21 => ?_)
    · exfalso; omega
    · refine j_aload_n hE (i := 0) dX6_send_24 rfl rfl ?_
      refine j_get hE flX6_7 gB_0 rfl dX6_send_25 ?_
      refine j_iconst hE (v := nI 5) dX6_send_28 (by decide) ?_
      refine j_iald hE gB_1 rfl (by omega) (by decide) dX6_send_29 ?_
      rw [hb]
      refine j_bipush hE (v := nI 8) dX6_send_30 (by decide) ?_
      refine j_iload_n hE (i := 1) dX6_send_32 rfl rfl ?_
      refine j_imulN hE dX6_send_33 ?_
      refine j_aload_n hE (i := 0) dX6_send_34 rfl rfl ?_
      refine j_get hE flX6_7 gB_0 rfl dX6_send_35 ?_
      refine j_iconst hE (v := nI 0) dX6_send_38 (by decide) ?_
      refine j_iald hE gB_1 rfl (by omega) (by decide) dX6_send_39 ?_
      rw [hW]
      refine j_imulN hE dX6_send_40 ?_
      refine j_iaddN hE dX6_send_41 ?_
      refine j_sipush hE (v := nI 2048) dX6_send_42 (by decide) ?_
      refine j_ic_leN hE (tgt := 52) dX6_send_45 (by decide) (by omega) (by omega) (fun h45 => ?_) (fun h45 => ?_)
      · refine j_iconst hE (v := nI 0) dX6_send_52 (by decide) ?_
        refine b_put3 hE flX6_19 rfl rfl dX6_send_53 ?_
        refine j_aload_n hE (i := 0) dX6_send_56 rfl rfl ?_
        refine j_get hE flX6_19 gB_0 rfl dX6_send_57 ?_
        refine j_if_eqN hE (tgt := 65) dX6_send_60 (by decide) (by omega) (fun h60 => ?_) (fun h60 => ?_)
        · refine j_aload_n hE (i := 0) dX6_send_65 rfl rfl ?_
          refine j_cVv hE mlX6_33 gB_0 (fun l hl => c_X6_keep hl K F h0 _ _ _ _ _ hk _ _) rfl rfl (Nat.le_of_ble_eq_true rfl) (by decide) (by decide) (by omega) (by omega) dX6_send_66 (fun G9 hs9 hp => ?_) (fun _ _ h => h.elim)
          subst hp
          refine j_iconst hE (v := nI 0) dX6_send_69 (by decide) ?_
          refine j_ist2 hE dX6_send_70 rfl (by decide) rfl ?_
          have key71 : ∀ i, i ≤ c → ∀ hs, J K A E 3 (gB F h0 (mC K h0 (itr (sS W M f b) i now) (mKeep now past k) (nI (mKept k)) (nI 0) drawn hash)) hs 0 0 71 [some (.ref h0), some (.int (nI c)), some (.int (nI i))] [] := by
            refine dloop (fun i => ∀ hs, J K A E 3 (gB F h0 (mC K h0 (itr (sS W M f b) i now) (mKeep now past k) (nI (mKept k)) (nI 0) drawn hash)) hs 0 0 71 [some (.ref h0), some (.int (nI c)), some (.int (nI i))] []) (c) (fun i hi71 ih71 => ?_) ?_
            · intro hs
              have hb9 : b + 8 * W * i + 8 * W ≤ 2048 := by
                have h1 : 8 * W * (i + 1) ≤ 8 * W * c := Nat.mul_le_mul_left _ hi71
                rw [Nat.mul_succ] at h1
                rw [show 8 * c * W = 8 * W * c by rw [Nat.mul_assoc, Nat.mul_comm c W, ← Nat.mul_assoc]] at hroom
                omega
              refine j_iload_n hE (i := 2) dX6_send_71 rfl rfl ?_
              refine j_iload_n hE (i := 1) dX6_send_72 rfl rfl ?_
              refine j_ic_geN hE (tgt := 86) dX6_send_73 (by decide) (by omega) (by omega) (fun h73 => ?_) (fun h73 => ?_)
              · exfalso; omega
              · refine j_aload_n hE (i := 0) dX6_send_76 rfl rfl ?_
                refine j_cVv hE mlX6_88 gB_0 (fun l hl => c_X6_sends hl K F h0 _ _ _ _ _ _ _ W M ((f + i) % M) (b + 8 * W * i) ((sS_out W M f b now (by decide) (by decide) (by decide) i).trans hW) ((sS_out W M f b now (by decide) (by decide) (by decide) i).trans hM) hW9 hM1 hM9 (Nat.mod_lt _ hM1) (sS_4 W M f b now hnx hf i) (sS_5 W M f b now hb i) hb9 (fun k hk => by have := how ((f + i) % M) (Nat.mod_lt _ hM1) k hk; unfold owP at this ⊢; rw [sS_out W M f b now (by omega) (by omega) (by have := Nat.mod_lt (f + i) hM1; omega) i]; exact this)) rfl rfl (Nat.le_of_ble_eq_true rfl) (by decide) (by decide) (by omega) (by omega) dX6_send_77 (fun G9 hs9 hp => ?_) (fun _ _ h => h.elim)
                subst hp
                refine j_incN2 hE dX6_send_80 (by decide) rfl ?_
                refine j_goto hE (tgt := 71) dX6_send_83 (by decide) ?_
                exact ih71 _
            · intro hs
              refine j_iload_n hE (i := 2) dX6_send_71 rfl rfl ?_
              refine j_iload_n hE (i := 1) dX6_send_72 rfl rfl ?_
              refine j_ic_geN hE (tgt := 86) dX6_send_73 (by decide) (by omega) (by omega) (fun h73 => ?_) (fun h73 => ?_)
              · refine j_aload_n hE (i := 0) dX6_send_86 rfl rfl ?_
                refine j_get hE flX6_7 gB_0 rfl dX6_send_87 ?_
                refine j_iconst hE (v := nI 5) dX6_send_90 (by decide) ?_
                refine j_iald hE gB_1 rfl (by omega) (by decide) dX6_send_91 ?_
                rw [sS_5 W M f b now hb c]
                refine j_iret hE hQ rfl (by omega) (by omega) dX6_send_92 ?_
                exact ⟨_, rfl, rfl, rfl⟩
              · exfalso; omega
          exact key71 0 (by omega) _
        · exfalso; omega
      · exfalso; omega
  · exfalso; omega

set_option maxRecDepth 100000 in
set_option maxHeartbeats 4000000 in
theorem c_X6_send_f1 {l : Launch} (hl : l.stackTraces = false) (K : jK) (F : GH) (h0 hs : Nat) (now past : Nat → Int32) (thrown : Int32) (k : Nat) (hk : k ≤ 4) (drawn : Nat → Int32) (hash : Int64) (p : Int32) (hj : ∀ j, 1 ≤ j → j ≤ 16 → p ≠ nI j) : Ct l K yX6_send cX6_send 3 (some .int) 3 68 0 0 [.ref h0, .int p] (gB F h0 (mC K h0 now past (nI k) thrown drawn hash)) hs (pI (fun z9 G' _ => z9 = nI 0 ∧ G' = (gB F h0 (mC K h0 now past (nI k) (nI 1) drawn hash)))) jno := by
  refine Ct.ofA hl (by decide) (Nat.le_of_ble_eq_true rfl) (L0 := [some (.ref h0), some (.int p), none]) (jL_of 1 rfl) ?_
  intro A E hE hQ hX hNm
  refine j_aload_n hE (i := 0) dX6_send_0 rfl rfl ?_
  refine j_iload_n hE (i := 1) dX6_send_1 rfl rfl ?_
  refine j_iconst hE (v := nI 1) dX6_send_2 (by decide) ?_
  refine j_bipush hE (v := nI 16) dX6_send_3 (by decide) ?_
  refine j_cSi hE mlX6_26 (fun l hl => c_X6_in_f hl K _ _ _ _ _ (rg_f hj (by decide) (by decide))) rfl rfl (Nat.le_of_ble_eq_true rfl) (by decide) (by decide) (by omega) (by omega) dX6_send_5 (fun r G9 hs9 hp => ?_) (fun _ _ h => h.elim)
  obtain ⟨rfl, rfl⟩ := hp
  refine j_if_neN hE (tgt := 15) dX6_send_8 (by decide) (by omega) (fun h8 => ?_) (fun h8 => ?_)
  · exfalso; omega
  · refine j_iconst hE (v := nI 1) dX6_send_11 (by decide) ?_
    refine j_goto hE (tgt := 53) dX6_send_12 (by decide) ?_
    refine b_put3 hE flX6_19 rfl rfl dX6_send_53 ?_
    refine j_aload_n hE (i := 0) dX6_send_56 rfl rfl ?_
    refine j_get hE flX6_19 gB_0 rfl dX6_send_57 ?_
    refine j_if_eqN hE (tgt := 65) dX6_send_60 (by decide) (by omega) (fun h60 => ?_) (fun h60 => ?_)
    · exfalso; omega
    · refine j_iconst hE (v := nI 0) dX6_send_63 (by decide) ?_
      refine j_iret hE hQ rfl (by omega) (by omega) dX6_send_64 ?_
      exact ⟨_, rfl, rfl, rfl⟩

set_option maxRecDepth 100000 in
set_option maxHeartbeats 4000000 in
theorem c_X6_send_f2 {l : Launch} (hl : l.stackTraces = false) (K : jK) (F : GH) (h0 hs : Nat) (now past : Nat → Int32) (thrown : Int32) (k : Nat) (hk : k ≤ 4) (drawn : Nat → Int32) (hash : Int64) (c : Nat) (hc1 : 1 ≤ c) (hc16 : c ≤ 16) (hpl : now 3 = nI 0) : Ct l K yX6_send cX6_send 3 (some .int) 3 68 0 0 [.ref h0, .int (nI c)] (gB F h0 (mC K h0 now past (nI k) thrown drawn hash)) hs (pI (fun z9 G' _ => z9 = nI 0 ∧ G' = (gB F h0 (mC K h0 now past (nI k) (nI 2) drawn hash)))) jno := by
  refine Ct.ofA hl (by decide) (Nat.le_of_ble_eq_true rfl) (L0 := [some (.ref h0), some (.int (nI c)), none]) (jL_of 1 rfl) ?_
  intro A E hE hQ hX hNm
  refine j_aload_n hE (i := 0) dX6_send_0 rfl rfl ?_
  refine j_iload_n hE (i := 1) dX6_send_1 rfl rfl ?_
  refine j_iconst hE (v := nI 1) dX6_send_2 (by decide) ?_
  refine j_bipush hE (v := nI 16) dX6_send_3 (by decide) ?_
  refine j_cSi hE mlX6_26 (fun l hl => c_X6_in_t hl K _ _ _ _ _ (rg_t (by omega) (by omega) (by decide))) rfl rfl (Nat.le_of_ble_eq_true rfl) (by decide) (by decide) (by omega) (by omega) dX6_send_5 (fun r G9 hs9 hp => ?_) (fun _ _ h => h.elim)
  obtain ⟨rfl, rfl⟩ := hp
  refine j_if_neN hE (tgt := 15) dX6_send_8 (by decide) (by omega) (fun h8 => ?_) (fun h8 => ?_)
  · refine j_aload_n hE (i := 0) dX6_send_15 rfl rfl ?_
    refine j_get hE flX6_7 gB_0 rfl dX6_send_16 ?_
    refine j_iconst hE (v := nI 3) dX6_send_19 (by decide) ?_
    refine j_iald hE gB_1 rfl (by omega) (by decide) dX6_send_20 ?_
    rw [hpl]
    refine j_if_eqN hE (tgt := 48) dX6_send_21 (by decide) (by omega) (fun h21 => ?_) (fun h21 => ?_)
    · refine j_iconst hE (v := nI 2) dX6_send_48 (by decide) ?_
      refine j_goto hE (tgt := 53) dX6_send_49 (by decide) ?_
      refine b_put3 hE flX6_19 rfl rfl dX6_send_53 ?_
      refine j_aload_n hE (i := 0) dX6_send_56 rfl rfl ?_
      refine j_get hE flX6_19 gB_0 rfl dX6_send_57 ?_
      refine j_if_eqN hE (tgt := 65) dX6_send_60 (by decide) (by omega) (fun h60 => ?_) (fun h60 => ?_)
      · exfalso; omega
      · refine j_iconst hE (v := nI 0) dX6_send_63 (by decide) ?_
        refine j_iret hE hQ rfl (by omega) (by omega) dX6_send_64 ?_
        exact ⟨_, rfl, rfl, rfl⟩
    · exfalso; omega
  · exfalso; omega

set_option maxRecDepth 100000 in
set_option maxHeartbeats 4000000 in
theorem c_X6_send_f3 {l : Launch} (hl : l.stackTraces = false) (K : jK) (F : GH) (h0 hs : Nat) (now past : Nat → Int32) (thrown : Int32) (k : Nat) (hk : k ≤ 4) (drawn : Nat → Int32) (hash : Int64) (W b c : Nat) (hW : now 0 = nI W) (hW9 : W ≤ 16) (hb : now 5 = nI b) (hb9 : b ≤ 2048) (hc1 : 1 ≤ c) (hc16 : c ≤ 16) (hpl : now 3 = nI 1) (hroom : 2048 < b + 8 * c * W) : Ct l K yX6_send cX6_send 3 (some .int) 3 68 0 0 [.ref h0, .int (nI c)] (gB F h0 (mC K h0 now past (nI k) thrown drawn hash)) hs (pI (fun z9 G' _ => z9 = nI 0 ∧ G' = (gB F h0 (mC K h0 now past (nI k) (nI 2) drawn hash)))) jno := by
  refine Ct.ofA hl (by decide) (Nat.le_of_ble_eq_true rfl) (L0 := [some (.ref h0), some (.int (nI c)), none]) (jL_of 1 rfl) ?_
  intro A E hE hQ hX hNm
  have h16 : 8 * c * W ≤ 8 * 16 * 16 := Nat.mul_le_mul (by omega) hW9
  refine j_aload_n hE (i := 0) dX6_send_0 rfl rfl ?_
  refine j_iload_n hE (i := 1) dX6_send_1 rfl rfl ?_
  refine j_iconst hE (v := nI 1) dX6_send_2 (by decide) ?_
  refine j_bipush hE (v := nI 16) dX6_send_3 (by decide) ?_
  refine j_cSi hE mlX6_26 (fun l hl => c_X6_in_t hl K _ _ _ _ _ (rg_t (by omega) (by omega) (by decide))) rfl rfl (Nat.le_of_ble_eq_true rfl) (by decide) (by decide) (by omega) (by omega) dX6_send_5 (fun r G9 hs9 hp => ?_) (fun _ _ h => h.elim)
  obtain ⟨rfl, rfl⟩ := hp
  refine j_if_neN hE (tgt := 15) dX6_send_8 (by decide) (by omega) (fun h8 => ?_) (fun h8 => ?_)
  · refine j_aload_n hE (i := 0) dX6_send_15 rfl rfl ?_
    refine j_get hE flX6_7 gB_0 rfl dX6_send_16 ?_
    refine j_iconst hE (v := nI 3) dX6_send_19 (by decide) ?_
    refine j_iald hE gB_1 rfl (by omega) (by decide) dX6_send_20 ?_
    rw [hpl]
    refine j_if_eqN hE (tgt := 48) dX6_send_21 (by decide) (by omega) (fun h21 => ?_) (fun h21 => ?_)
    · exfalso; omega
    · refine j_aload_n hE (i := 0) dX6_send_24 rfl rfl ?_
      refine j_get hE flX6_7 gB_0 rfl dX6_send_25 ?_
      refine j_iconst hE (v := nI 5) dX6_send_28 (by decide) ?_
      refine j_iald hE gB_1 rfl (by omega) (by decide) dX6_send_29 ?_
      rw [hb]
      refine j_bipush hE (v := nI 8) dX6_send_30 (by decide) ?_
      refine j_iload_n hE (i := 1) dX6_send_32 rfl rfl ?_
      refine j_imulN hE dX6_send_33 ?_
      refine j_aload_n hE (i := 0) dX6_send_34 rfl rfl ?_
      refine j_get hE flX6_7 gB_0 rfl dX6_send_35 ?_
      refine j_iconst hE (v := nI 0) dX6_send_38 (by decide) ?_
      refine j_iald hE gB_1 rfl (by omega) (by decide) dX6_send_39 ?_
      rw [hW]
      refine j_imulN hE dX6_send_40 ?_
      refine j_iaddN hE dX6_send_41 ?_
      refine j_sipush hE (v := nI 2048) dX6_send_42 (by decide) ?_
      refine j_ic_leN hE (tgt := 52) dX6_send_45 (by decide) (by omega) (by omega) (fun h45 => ?_) (fun h45 => ?_)
      · exfalso; omega
      · refine j_iconst hE (v := nI 2) dX6_send_48 (by decide) ?_
        refine j_goto hE (tgt := 53) dX6_send_49 (by decide) ?_
        refine b_put3 hE flX6_19 rfl rfl dX6_send_53 ?_
        refine j_aload_n hE (i := 0) dX6_send_56 rfl rfl ?_
        refine j_get hE flX6_19 gB_0 rfl dX6_send_57 ?_
        refine j_if_eqN hE (tgt := 65) dX6_send_60 (by decide) (by omega) (fun h60 => ?_) (fun h60 => ?_)
        · exfalso; omega
        · refine j_iconst hE (v := nI 0) dX6_send_63 (by decide) ?_
          refine j_iret hE hQ rfl (by omega) (by omega) dX6_send_64 ?_
          exact ⟨_, rfl, rfl, rfl⟩
  · exfalso; omega

