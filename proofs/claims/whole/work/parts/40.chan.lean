/-! ===== the class: what its parts share; the channel ===== -/
def flF (v : Int32) (i : Nat) (f : Nat → Int32) : Nat → Int32 := upd f i v
set_option maxRecDepth 100000 in
set_option maxHeartbeats 4000000 in
theorem c_fill {l : Launch} (hl : l.stackTraces = false) (K : jK) (G : GH) (hs a n : Nat) (f : Nat → Int32) (v : Int32) (hG : G a = some (iA K n f)) (hn : n < 2 ^ 31) : Ct l K yJ7_fill_53178 cJ7_fill_53178 4 none 0 0 0 0 [.ref a, .int v] G hs (pV (fun G' _ => G' = gset G a (iA K n (itr (flF v) n f)))) jno := by
  refine Ct.ofA hl (by decide) (Nat.le_of_ble_eq_true rfl) (L0 := [some (.ref a), some (.int v), none, none]) (jL_of 2 rfl) ?_
  intro A E hE hQ hX hNm
  refine j_iconst hE (v := nI 0) dJ7_fill_53178_0 (by decide) ?_
  refine j_ist2 hE dJ7_fill_53178_1 rfl (by decide) rfl ?_
  refine j_aload_n hE (i := 0) dJ7_fill_53178_2 rfl rfl ?_
  refine j_alen hE hG dJ7_fill_53178_3 ?_
  refine j_ist3 hE dJ7_fill_53178_4 rfl (by decide) rfl ?_
  have key5 : ∀ i, i ≤ n → ∀ hs, J K A E 4 (gset G a (iA K n (itr (flF v) i f))) hs 0 0 5 [some (.ref a), some (.int v), some (.int (nI i)), some (.int (nI n))] [] := by
    refine dloop (fun i => ∀ hs, J K A E 4 (gset G a (iA K n (itr (flF v) i f))) hs 0 0 5 [some (.ref a), some (.int v), some (.int (nI i)), some (.int (nI n))] []) (n) (fun i hi5 ih5 => ?_) ?_
    · intro hs
      refine j_iload_n hE (i := 2) dJ7_fill_53178_5 rfl rfl ?_
      refine j_iload_n hE (i := 3) dJ7_fill_53178_6 rfl rfl ?_
      refine j_ic_geN hE (tgt := 20) dJ7_fill_53178_7 (by decide) (by omega) (by omega) (fun h7 => ?_) (fun h7 => ?_)
      · exfalso; omega
      · refine j_aload_n hE (i := 0) dJ7_fill_53178_10 rfl rfl ?_
        refine j_iload_n hE (i := 2) dJ7_fill_53178_11 rfl rfl ?_
        refine j_iload_n hE (i := 1) dJ7_fill_53178_12 rfl rfl ?_
        refine j_iast hE (gset_s _ _ _) rfl (by omega) hn dJ7_fill_53178_13 ?_
        rw [gset_gset]
        refine j_incN2 hE dJ7_fill_53178_14 (by decide) rfl ?_
        refine j_goto hE (tgt := 5) dJ7_fill_53178_17 (by decide) ?_
        exact ih5 _
    · intro hs
      refine j_iload_n hE (i := 2) dJ7_fill_53178_5 rfl rfl ?_
      refine j_iload_n hE (i := 3) dJ7_fill_53178_6 rfl rfl ?_
      refine j_ic_geN hE (tgt := 20) dJ7_fill_53178_7 (by decide) (by omega) (by omega) (fun h7 => ?_) (fun h7 => ?_)
      · refine j_vret hE hQ (by omega) (by omega) dJ7_fill_53178_20 ?_
        exact ⟨rfl, rfl⟩
      · exfalso; omega
  have q9 := key5 0 (by omega)
  rw [itr_0, gset_id hG] at q9
  exact q9 _

set_option maxRecDepth 100000 in
set_option maxHeartbeats 4000000 in
theorem c_X5_mix {l : Launch} (hl : l.stackTraces = false) (K : jK) (G : GH) (hs : Nat) (h v : Int64) : Ct l K yX5_mix cX5_mix 4 (some .long) 0 0 0 0 [.long h, .long v] G hs (pL (fun z9 G' _ => z9 = 31 * h + v ∧ G' = G)) jno := by
  refine Ct.ofA hl (by decide) (Nat.le_of_ble_eq_true rfl) (L0 := [some (.long h), none, some (.long v), none]) (jL_of 0 rfl) ?_
  intro A E hE hQ hX hNm
  refine j_ldc2 hE dX5_mix_0 tw_311 ?_
  refine j_lload_n hE (i := 0) dX5_mix_3 rfl rfl ?_
  refine j_lmul hE dX5_mix_4 ?_
  refine j_lload_n hE (i := 2) dX5_mix_5 rfl rfl ?_
  refine j_ladd hE dX5_mix_6 ?_
  refine j_lret hE hQ (by omega) (by omega) dX5_mix_7 ?_
  exact ⟨_, rfl, rfl, rfl⟩

abbrev chC (K : jK) (h : Nat) (bits : Nat → Int32) (b : Nat) : List va_E := [.inr (0, [.ref (h + 1), .int (nI b)]), iA K 2048 bits]
def cB (v : Int32) (b j : Nat) (bits : Nat → Int32) : Nat → Int32 := upd bits (b + j) (bitOf v j)
def cH (bits : Nat → Int32) (i : Nat) (h : Int64) : Int64 := 31 * h + (bits i).toInt64
set_option maxRecDepth 100000 in
set_option maxHeartbeats 4000000 in
theorem c_X0_flip {l : Launch} (hl : l.stackTraces = false) (K : jK) (F : GH) (h hs : Nat) (bits : Nat → Int32) (b : Nat) (hb9 : b ≤ 2048) (j : Nat) (hj : j < b) : Ct l K yX0_flip cX0_flip 2 none 0 0 0 0 [.ref h, .int (nI j)] (gB F h (chC K h bits b)) hs (pV (fun G' _ => G' = (gB F h (chC K h (upd bits j (nI 1 - bits j)) b)))) jno := by
  refine Ct.ofA hl (by decide) (Nat.le_of_ble_eq_true rfl) (L0 := [some (.ref h), some (.int (nI j))]) (jL_of 0 rfl) ?_
  intro A E hE hQ hX hNm
  refine j_aload_n hE (i := 0) dX0_flip_0 rfl rfl ?_
  refine j_get hE flX0_9 gB_0 rfl dX0_flip_1 ?_
  refine j_iload_n hE (i := 1) dX0_flip_4 rfl rfl ?_
  refine j_iconst hE (v := nI 1) dX0_flip_5 (by decide) ?_
  refine j_aload_n hE (i := 0) dX0_flip_6 rfl rfl ?_
  refine j_get hE flX0_9 gB_0 rfl dX0_flip_7 ?_
  refine j_iload_n hE (i := 1) dX0_flip_10 rfl rfl ?_
  refine j_iald hE gB_1 rfl (by omega) (by decide) dX0_flip_11 ?_
  refine j_isub hE dX0_flip_12 ?_
  refine b_ast1 hE rfl (by omega) (by decide) dX0_flip_13 ?_
  refine j_vret hE hQ (by omega) (by omega) dX0_flip_14 ?_
  exact ⟨rfl, rfl⟩

set_option maxRecDepth 100000 in
set_option maxHeartbeats 4000000 in
theorem c_X0_remove {l : Launch} (hl : l.stackTraces = false) (K : jK) (F : GH) (h hs : Nat) (bits : Nat → Int32) (b : Nat) (hb9 : b ≤ 2048) (j : Nat) (hj : j < b) : Ct l K yX0_remove cX0_remove 2 none 1 18 0 0 [.ref h, .int (nI j)] (gB F h (chC K h bits b)) hs (pV (fun G' _ => G' = (gB F h (chC K h (va_cpy bits bits (j + 1) j (b - j - 1)) (b - 1))))) jno := by
  refine Ct.ofA hl (by decide) (Nat.le_of_ble_eq_true rfl) (L0 := [some (.ref h), some (.int (nI j))]) (jL_of 0 rfl) ?_
  intro A E hE hQ hX hNm
  refine j_aload_n hE (i := 0) dX0_remove_0 rfl rfl ?_
  refine j_get hE flX0_9 gB_0 rfl dX0_remove_1 ?_
  refine j_iload_n hE (i := 1) dX0_remove_4 rfl rfl ?_
  refine j_iconst hE (v := nI 1) dX0_remove_5 (by decide) ?_
  refine j_iaddN hE dX0_remove_6 ?_
  refine j_aload_n hE (i := 0) dX0_remove_7 rfl rfl ?_
  refine j_get hE flX0_9 gB_0 rfl dX0_remove_8 ?_
  refine j_iload_n hE (i := 1) dX0_remove_11 rfl rfl ?_
  refine j_aload_n hE (i := 0) dX0_remove_12 rfl rfl ?_
  refine j_get hE flX0_15 gB_0 rfl dX0_remove_13 ?_
  refine j_iload_n hE (i := 1) dX0_remove_16 rfl rfl ?_
  refine j_isubN hE dX0_remove_17 (by omega) ?_
  refine j_iconst hE (v := nI 1) dX0_remove_18 (by decide) ?_
  refine j_isubN hE dX0_remove_19 (by omega) ?_
  refine b_copy1 hE tw_285 tw_211 tw_210 tw_12 gB_1 rfl rfl rfl (by omega) (by omega) (by decide) (by decide) (by decide) (Nat.le_of_ble_eq_true rfl) dX0_remove_20 (fun hs => ?_)
  refine j_aload_n hE (i := 0) dX0_remove_23 rfl rfl ?_
  refine j_dup hE dX0_remove_24 rfl ?_
  refine j_get hE flX0_15 gB_0 rfl dX0_remove_25 ?_
  refine j_iconst hE (v := nI 1) dX0_remove_28 (by decide) ?_
  refine j_isubN hE dX0_remove_29 (by omega) ?_
  refine b_put1 hE flX0_15 rfl rfl dX0_remove_30 ?_
  refine j_vret hE hQ (by omega) (by omega) dX0_remove_33 ?_
  exact ⟨rfl, rfl⟩

set_option maxRecDepth 100000 in
set_option maxHeartbeats 4000000 in
theorem c_X0_insert {l : Launch} (hl : l.stackTraces = false) (K : jK) (F : GH) (h hs : Nat) (bits : Nat → Int32) (b : Nat) (hb9 : b < 2048) (j : Nat) (bit : Int32) (hj : j < b) : Ct l K yX0_insert cX0_insert 3 none 1 18 0 0 [.ref h, .int (nI j), .int bit] (gB F h (chC K h bits b)) hs (pV (fun G' _ => G' = (gB F h (chC K h (upd (va_cpy bits bits j (j + 1) (b - j)) j bit) (b + 1))))) jno := by
  refine Ct.ofA hl (by decide) (Nat.le_of_ble_eq_true rfl) (L0 := [some (.ref h), some (.int (nI j)), some (.int bit)]) (jL_of 0 rfl) ?_
  intro A E hE hQ hX hNm
  refine j_aload_n hE (i := 0) dX0_insert_0 rfl rfl ?_
  refine j_get hE flX0_9 gB_0 rfl dX0_insert_1 ?_
  refine j_iload_n hE (i := 1) dX0_insert_4 rfl rfl ?_
  refine j_aload_n hE (i := 0) dX0_insert_5 rfl rfl ?_
  refine j_get hE flX0_9 gB_0 rfl dX0_insert_6 ?_
  refine j_iload_n hE (i := 1) dX0_insert_9 rfl rfl ?_
  refine j_iconst hE (v := nI 1) dX0_insert_10 (by decide) ?_
  refine j_iaddN hE dX0_insert_11 ?_
  refine j_aload_n hE (i := 0) dX0_insert_12 rfl rfl ?_
  refine j_get hE flX0_15 gB_0 rfl dX0_insert_13 ?_
  refine j_iload_n hE (i := 1) dX0_insert_16 rfl rfl ?_
  refine j_isubN hE dX0_insert_17 (by omega) ?_
  refine b_copy1 hE tw_285 tw_211 tw_210 tw_12 gB_1 rfl rfl rfl (by omega) (by omega) (by decide) (by decide) (by decide) (Nat.le_of_ble_eq_true rfl) dX0_insert_18 (fun hs => ?_)
  refine j_aload_n hE (i := 0) dX0_insert_21 rfl rfl ?_
  refine j_get hE flX0_9 gB_0 rfl dX0_insert_22 ?_
  refine j_iload_n hE (i := 1) dX0_insert_25 rfl rfl ?_
  refine j_iload_n hE (i := 2) dX0_insert_26 rfl rfl ?_
  refine b_ast1 hE rfl (by omega) (by decide) dX0_insert_27 ?_
  refine j_aload_n hE (i := 0) dX0_insert_28 rfl rfl ?_
  refine j_dup hE dX0_insert_29 rfl ?_
  refine j_get hE flX0_15 gB_0 rfl dX0_insert_30 ?_
  refine j_iconst hE (v := nI 1) dX0_insert_33 (by decide) ?_
  refine j_iaddN hE dX0_insert_34 ?_
  refine b_put1 hE flX0_15 rfl rfl dX0_insert_35 ?_
  refine j_vret hE hQ (by omega) (by omega) dX0_insert_38 ?_
  exact ⟨rfl, rfl⟩

set_option maxRecDepth 100000 in
set_option maxHeartbeats 4000000 in
theorem c_X0_dropFirst {l : Launch} (hl : l.stackTraces = false) (K : jK) (F : GH) (h hs : Nat) (bits : Nat → Int32) (b : Nat) (hb9 : b ≤ 2048) (c : Nat) (hc : c ≤ b) : Ct l K yX0_dropFirst cX0_dropFirst 2 none 1 18 0 0 [.ref h, .int (nI c)] (gB F h (chC K h bits b)) hs (pV (fun G' _ => G' = (gB F h (chC K h (va_cpy bits bits c 0 (b - c)) (b - c))))) jno := by
  refine Ct.ofA hl (by decide) (Nat.le_of_ble_eq_true rfl) (L0 := [some (.ref h), some (.int (nI c))]) (jL_of 0 rfl) ?_
  intro A E hE hQ hX hNm
  refine j_aload_n hE (i := 0) dX0_dropFirst_0 rfl rfl ?_
  refine j_get hE flX0_9 gB_0 rfl dX0_dropFirst_1 ?_
  refine j_iload_n hE (i := 1) dX0_dropFirst_4 rfl rfl ?_
  refine j_aload_n hE (i := 0) dX0_dropFirst_5 rfl rfl ?_
  refine j_get hE flX0_9 gB_0 rfl dX0_dropFirst_6 ?_
  refine j_iconst hE (v := nI 0) dX0_dropFirst_9 (by decide) ?_
  refine j_aload_n hE (i := 0) dX0_dropFirst_10 rfl rfl ?_
  refine j_get hE flX0_15 gB_0 rfl dX0_dropFirst_11 ?_
  refine j_iload_n hE (i := 1) dX0_dropFirst_14 rfl rfl ?_
  refine j_isubN hE dX0_dropFirst_15 (by omega) ?_
  refine b_copy1 hE tw_285 tw_211 tw_210 tw_12 gB_1 rfl rfl rfl (by omega) (by omega) (by decide) (by decide) (by decide) (Nat.le_of_ble_eq_true rfl) dX0_dropFirst_16 (fun hs => ?_)
  refine j_aload_n hE (i := 0) dX0_dropFirst_19 rfl rfl ?_
  refine j_aload_n hE (i := 0) dX0_dropFirst_20 rfl rfl ?_
  refine j_get hE flX0_15 gB_0 rfl dX0_dropFirst_21 ?_
  refine j_iload_n hE (i := 1) dX0_dropFirst_24 rfl rfl ?_
  refine j_isubN hE dX0_dropFirst_25 (by omega) ?_
  refine b_put1 hE flX0_15 rfl rfl dX0_dropFirst_26 ?_
  refine j_vret hE hQ (by omega) (by omega) dX0_dropFirst_29 ?_
  exact ⟨rfl, rfl⟩

set_option maxRecDepth 100000 in
set_option maxHeartbeats 4000000 in
theorem c_X0_copyFrom {l : Launch} (hl : l.stackTraces = false) (K : jK) (F : GH) (h hs : Nat) (bits : Nat → Int32) (b : Nat) (hb9 : b ≤ 2048) (o : Nat) (bits2 : Nat → Int32) (b2 : Nat) (hb2 : b2 ≤ 2048) (hF0 : F o = some (.inr (0, [.ref (o + 1), .int (nI b2)]))) (hF1 : F (o + 1) = some (iA K 2048 bits2)) (hd : o + 2 ≤ h ∨ h + 2 ≤ o) : Ct l K yX0_copyFrom cX0_copyFrom 2 none 1 18 0 0 [.ref h, .ref o] (gB F h (chC K h bits b)) hs (pV (fun G' _ => G' = (gB F h (chC K h (va_cpy bits2 bits 0 0 b2) b2)))) jno := by
  refine Ct.ofA hl (by decide) (Nat.le_of_ble_eq_true rfl) (L0 := [some (.ref h), some (.ref o)]) (jL_of 0 rfl) ?_
  intro A E hE hQ hX hNm
  refine j_aload_n hE (i := 0) dX0_copyFrom_0 rfl rfl ?_
  refine j_aload_n hE (i := 1) dX0_copyFrom_1 rfl rfl ?_
  refine j_get hE flX0_15 ((gB_out (by simp only [List.length_cons, List.length_nil]; omega)).trans hF0) rfl dX0_copyFrom_2 ?_
  refine b_put1 hE flX0_15 rfl rfl dX0_copyFrom_5 ?_
  refine j_aload_n hE (i := 1) dX0_copyFrom_8 rfl rfl ?_
  refine j_get hE flX0_9 ((gB_out (by simp only [List.length_cons, List.length_nil]; omega)).trans hF0) rfl dX0_copyFrom_9 ?_
  refine j_iconst hE (v := nI 0) dX0_copyFrom_12 (by decide) ?_
  refine j_aload_n hE (i := 0) dX0_copyFrom_13 rfl rfl ?_
  refine j_get hE flX0_9 gB_0 rfl dX0_copyFrom_14 ?_
  refine j_iconst hE (v := nI 0) dX0_copyFrom_17 (by decide) ?_
  refine j_aload_n hE (i := 0) dX0_copyFrom_18 rfl rfl ?_
  refine j_get hE flX0_15 gB_0 rfl dX0_copyFrom_19 ?_
  refine b_copy1 hE tw_285 tw_211 tw_210 tw_12 ((gB_out (by simp only [List.length_cons, List.length_nil]; omega)).trans hF1) rfl rfl rfl (by omega) (by omega) (by decide) (by decide) (by decide) (Nat.le_of_ble_eq_true rfl) dX0_copyFrom_22 (fun hs => ?_)
  refine j_vret hE hQ (by omega) (by omega) dX0_copyFrom_25 ?_
  exact ⟨rfl, rfl⟩

set_option maxRecDepth 100000 in
set_option maxHeartbeats 4000000 in
theorem c_X0_appendWord {l : Launch} (hl : l.stackTraces = false) (K : jK) (F : GH) (h hs : Nat) (bits : Nat → Int32) (b : Nat) (hb9 : b + 8 ≤ 2048) (v : Int32) : Ct l K yX0_appendWord cX0_appendWord 3 none 0 0 0 0 [.ref h, .int v] (gB F h (chC K h bits b)) hs (pV (fun G' _ => G' = (gB F h (chC K h (itr (cB v b) 8 bits) (b + 8))))) jno := by
  refine Ct.ofA hl (by decide) (Nat.le_of_ble_eq_true rfl) (L0 := [some (.ref h), some (.int v), none]) (jL_of 1 rfl) ?_
  intro A E hE hQ hX hNm
  refine j_bipush hE (v := nI 7) dX0_appendWord_0 (by decide) ?_
  refine j_ist2 hE dX0_appendWord_2 rfl (by decide) rfl ?_
  have key3 : ∀ j, j ≤ 8 → ∀ hs, J K A E 3 (gB F h (chC K h (itr (cB v b) j bits) (b + j))) hs 0 0 3 [some (.ref h), some (.int v), some (.int (nI 7 - nI j))] [] := by
    refine dloop (fun j => ∀ hs, J K A E 3 (gB F h (chC K h (itr (cB v b) j bits) (b + j))) hs 0 0 3 [some (.ref h), some (.int v), some (.int (nI 7 - nI j))] []) (8) (fun j hi3 ih3 => ?_) ?_
    · intro hs
      refine j_iload_n hE (i := 2) dX0_appendWord_3 rfl rfl ?_
      refine j_if_lt hE (tgt := 47) dX0_appendWord_4 (by decide) (fun h4 => ?_) (fun h4 => ?_)
      · exact absurd h4 (s7_lt (by omega))
      · refine j_aload_n hE (i := 0) dX0_appendWord_7 rfl rfl ?_
        refine j_get hE flX0_15 gB_0 rfl dX0_appendWord_8 ?_
        refine j_sipush hE (v := nI 2048) dX0_appendWord_11 (by decide) ?_
        refine j_ic_geN hE (tgt := 41) dX0_appendWord_14 (by decide) (by omega) (by omega) (fun h14 => ?_) (fun h14 => ?_)
        · exfalso; omega
        · refine j_aload_n hE (i := 0) dX0_appendWord_17 rfl rfl ?_
          refine j_get hE flX0_9 gB_0 rfl dX0_appendWord_18 ?_
          refine j_aload_n hE (i := 0) dX0_appendWord_21 rfl rfl ?_
          refine j_get hE flX0_15 gB_0 rfl dX0_appendWord_22 ?_
          refine j_iload_n hE (i := 1) dX0_appendWord_25 rfl rfl ?_
          refine j_iload_n hE (i := 2) dX0_appendWord_26 rfl rfl ?_
          refine j_ishr hE dX0_appendWord_27 ?_
          refine j_iconst hE (v := nI 1) dX0_appendWord_28 (by decide) ?_
          refine j_iand hE dX0_appendWord_29 ?_
          refine b_ast1 hE rfl (by omega) (by decide) dX0_appendWord_30 ?_
          refine j_aload_n hE (i := 0) dX0_appendWord_31 rfl rfl ?_
          refine j_dup hE dX0_appendWord_32 rfl ?_
          refine j_get hE flX0_15 gB_0 rfl dX0_appendWord_33 ?_
          refine j_iconst hE (v := nI 1) dX0_appendWord_36 (by decide) ?_
          refine j_iaddN hE dX0_appendWord_37 ?_
          refine b_put1 hE flX0_15 rfl rfl dX0_appendWord_38 ?_
          refine j_inc2 hE dX0_appendWord_41 (s7_dec _) (by decide) rfl ?_
          refine j_goto hE (tgt := 3) dX0_appendWord_44 (by decide) ?_
          exact ih3 _
    · intro hs
      refine j_iload_n hE (i := 2) dX0_appendWord_3 rfl rfl ?_
      refine j_if_lt hE (tgt := 47) dX0_appendWord_4 (by decide) (fun h4 => ?_) (fun h4 => ?_)
      · refine j_vret hE hQ (by omega) (by omega) dX0_appendWord_47 ?_
        exact ⟨rfl, rfl⟩
      · exact absurd s7_ge h4
  exact key3 0 (by omega) _

set_option maxRecDepth 100000 in
set_option maxHeartbeats 4000000 in
theorem c_X0_mixInto {l : Launch} (hl : l.stackTraces = false) (K : jK) (F : GH) (h hs : Nat) (bits : Nat → Int32) (b : Nat) (hb9 : b ≤ 2048) (h0 : Int64) : Ct l K yX0_mixInto cX0_mixInto 6 (some .long) 1 23 0 0 [.ref h, .long h0] (gB F h (chC K h bits b)) hs (pL (fun z9 G' _ => z9 = itr (cH bits) b (31 * h0 + (nI b).toInt64) ∧ G' = (gB F h (chC K h bits b)))) jno := by
  refine Ct.ofA hl (by decide) (Nat.le_of_ble_eq_true rfl) (L0 := [some (.ref h), some (.long h0), none, none, none, none]) (jL_of 3 rfl) ?_
  intro A E hE hQ hX hNm
  refine j_lload_n hE (i := 1) dX0_mixInto_0 rfl rfl ?_
  refine j_aload_n hE (i := 0) dX0_mixInto_1 rfl rfl ?_
  refine j_get hE flX0_15 gB_0 rfl dX0_mixInto_2 ?_
  refine j_i2l hE dX0_mixInto_5 ?_
  refine j_cNl hE mlX0_25 (fun l hl => c_X5_mix hl K _ _ _ _) rfl rfl (Nat.le_of_ble_eq_true rfl) (by decide) (by decide) (by omega) (by omega) dX0_mixInto_6 (fun r G9 hs9 hp => ?_)
  obtain ⟨rfl, rfl⟩ := hp
  refine j_lst3 hE dX0_mixInto_9 rfl (by decide) rfl ?_
  refine j_iconst hE (v := nI 0) dX0_mixInto_10 (by decide) ?_
  refine j_ist5 hE dX0_mixInto_11 (by decide) rfl ?_
  have key13 : ∀ i, i ≤ b → ∀ hs, J K A E 6 (gB F h (chC K h bits b)) hs 0 0 13 [some (.ref h), some (.long h0), none, some (.long (itr (cH bits) i (31 * h0 + (nI b).toInt64))), none, some (.int (nI i))] [] := by
    refine dloop (fun i => ∀ hs, J K A E 6 (gB F h (chC K h bits b)) hs 0 0 13 [some (.ref h), some (.long h0), none, some (.long (itr (cH bits) i (31 * h0 + (nI b).toInt64))), none, some (.int (nI i))] []) (b) (fun i hi13 ih13 => ?_) ?_
    · intro hs
      refine j_iload hE dX0_mixInto_13 rfl ?_
      refine j_aload_n hE (i := 0) dX0_mixInto_15 rfl rfl ?_
      refine j_get hE flX0_15 gB_0 rfl dX0_mixInto_16 ?_
      refine j_ic_geN hE (tgt := 43) dX0_mixInto_19 (by decide) (by omega) (by omega) (fun h19 => ?_) (fun h19 => ?_)
      · exfalso; omega
      · refine j_ldc2 hE dX0_mixInto_22 tw_327 ?_
        refine j_lload_n hE (i := 3) dX0_mixInto_25 rfl rfl ?_
        refine j_lmul hE dX0_mixInto_26 ?_
        refine j_aload_n hE (i := 0) dX0_mixInto_27 rfl rfl ?_
        refine j_get hE flX0_9 gB_0 rfl dX0_mixInto_28 ?_
        refine j_iload hE dX0_mixInto_31 rfl ?_
        refine j_iald hE gB_1 rfl (by omega) (by decide) dX0_mixInto_33 ?_
        refine j_i2l hE dX0_mixInto_34 ?_
        refine j_ladd hE dX0_mixInto_35 ?_
        refine j_lst3 hE dX0_mixInto_36 rfl (by decide) rfl ?_
        refine j_incN5 hE dX0_mixInto_37 (by decide) rfl ?_
        refine j_goto hE (tgt := 13) dX0_mixInto_40 (by decide) ?_
        exact ih13 _
    · intro hs
      refine j_iload hE dX0_mixInto_13 rfl ?_
      refine j_aload_n hE (i := 0) dX0_mixInto_15 rfl rfl ?_
      refine j_get hE flX0_15 gB_0 rfl dX0_mixInto_16 ?_
      refine j_ic_geN hE (tgt := 43) dX0_mixInto_19 (by decide) (by omega) (by omega) (fun h19 => ?_) (fun h19 => ?_)
      · refine j_lload_n hE (i := 3) dX0_mixInto_43 rfl rfl ?_
        refine j_lret hE hQ (by omega) (by omega) dX0_mixInto_44 ?_
        exact ⟨_, rfl, rfl, rfl⟩
      · exfalso; omega
  exact key13 0 (by omega) _

set_option maxRecDepth 100000 in
set_option maxHeartbeats 4000000 in
theorem c_X0_init {l : Launch} (hl : l.stackTraces = false) (K : jK) (F : GH) (h : Nat) : Ct l K yX0_init cX0_init 1 none 1 12 1 2048 [.ref h] (gB F h [.inr (0, [.null, .int 0])]) (h + 1) (pV (fun G' hs' => G' = gB F h (chC K h (fun _ => 0) 0) ∧ hs' = h + 2)) jno := by
  refine Ct.ofA hl (by decide) (Nat.le_of_ble_eq_true rfl) (L0 := [some (.ref h)]) (jL_of 0 rfl) ?_
  intro A E hE hQ hX hNm
  refine j_aload_n hE (i := 0) dX0_init_0 rfl rfl ?_
  refine j_obj hE tw_67 tw_22 tw_23 (by decide) (Nat.le_of_ble_eq_true rfl) dX0_init_1 ?_
  refine j_aload_n hE (i := 0) dX0_init_4 rfl rfl ?_
  refine j_sipush hE (v := nI 2048) dX0_init_5 (by decide) ?_
  refine j_newi hE (N := 2048) rfl (by decide) tw_59 (by decide) (by decide) dX0_init_8 ?_
  rw [gB_push (by simp only [List.length_cons, List.length_nil])]
  simp only [List.cons_append, List.nil_append]
  refine b_putF0 hE hNm rfl flX0_9 rfl rfl dX0_init_10 ?_
  refine j_aload_n hE (i := 0) dX0_init_13 rfl rfl ?_
  refine j_iconst hE (v := nI 0) dX0_init_14 (by decide) ?_
  refine b_put1 hE flX0_15 rfl rfl dX0_init_15 ?_
  refine j_vret hE hQ (by omega) (by omega) dX0_init_18 ?_
  exact ⟨rfl, rfl, by omega⟩

