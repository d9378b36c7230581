/-! ===== planning: pure words, and the reference's methods ===== -/
/-- a column is free in the first n of the minor frames f, f + s, f + 2 s .. -/
def frI (d : Nat → Int32) (col f s : Nat) : Nat → Bool
  | 0 => true
  | n + 1 => frI d col f s n && decide (d (16 * (f + n * s) + 3 + col) = -1)
def tkS (p : Int32) (col f s i : Nat) (d : Nat → Int32) : Nat → Int32 := upd d (16 * (f + i * s) + 3 + col) p
def cntB (P : Nat → Bool) : Nat → Nat
  | 0 => 0
  | n + 1 => cntB P n + (if P n then 1 else 0)
theorem cntB_t {P : Nat → Bool} {n : Nat} (h : P n = true) : cntB P (n + 1) = cntB P n + 1 := by simp [cntB, h]
theorem cntB_f {P : Nat → Bool} {n : Nat} (h : P n = false) : cntB P (n + 1) = cntB P n + 0 := by simp [cntB, h]
theorem cntB_le (P : Nat → Bool) : ∀ n, cntB P n ≤ n
  | 0 => Nat.le_refl _
  | n + 1 => by
    have := cntB_le P n
    unfold cntB
    split <;> omega
theorem fr_lt {f s i N M : Nat} (hM : M = N * s) (hf : f < s) (hi : i < N) : f + i * s < M := by
  have h1 : (i + 1) * s ≤ N * s := Nat.mul_le_mul_right s hi
  rw [Nat.succ_mul] at h1
  omega
theorem fr_ge {f s N M : Nat} (hM : M = N * s) : M ≤ f + N * s := by omega
theorem fr_st (f i s : Nat) : f + i * s + s = f + (i + 1) * s := by rw [Nat.succ_mul]; omega
theorem sub_gt {a b : Nat} (ha : a < 2 ^ 30) (hb : b < 2 ^ 30) : 0 < nI a - nI b ↔ b < a := by
  rw [Int32.lt_iff_toInt_lt, pk_sub_toInt ha hb, Int32.toInt_zero]
  omega
theorem sub_eq {a b : Nat} (ha : a < 2 ^ 30) (hb : b < 2 ^ 30) : nI a - nI b = 0 ↔ a = b := by
  constructor
  · intro h
    have := congrArg Int32.toInt h
    rw [pk_sub_toInt ha hb, Int32.toInt_zero] at this
    omega
  · rintro rfl
    rw [pk_sub (Nat.le_refl _), Nat.sub_self]
    rfl
set_option maxRecDepth 100000 in
set_option maxHeartbeats 4000000 in
theorem c_X6_isFree {l : Launch} (hl : l.stackTraces = false) (K : jK) (F : GH) (h0 hs : Nat) (now past : Nat → Int32) (kept thrown : Int32) (drawn : Nat → Int32) (hash : Int64) (M N : Nat) (hM : now 1 = nI M) (hM9 : M ≤ 8) (f s col : Nat) (hN : M = N * s) (hf : f < s) (hcol : col < 13) (hs8 : s ≤ 8) : Ct l K yX6_isFree cX6_isFree 6 (some .boolean) 0 0 0 0 [.ref h0, .int (nI col), .int (nI f), .int (nI s)] (gB F h0 (mC K h0 now past kept thrown drawn hash)) hs (pI (fun r G' _ => r = jb (frI drawn col f s N) ∧ G' = (gB F h0 (mC K h0 now past kept thrown drawn hash)))) jno := by
  refine Ct.ofA hl (by decide) (Nat.le_of_ble_eq_true rfl) (L0 := [some (.ref h0), some (.int (nI col)), some (.int (nI f)), some (.int (nI s)), none, none]) (jL_of 2 rfl) ?_
  intro A E hE hQ hX hNm
  refine j_iconst hE (v := nI 1) dX6_isFree_0 (by decide) ?_
  refine j_ist4 hE dX6_isFree_1 (by decide) rfl ?_
  refine j_iload_n hE (i := 2) dX6_isFree_3 rfl rfl ?_
  refine j_ist5 hE dX6_isFree_4 (by decide) rfl ?_
  have key6 : ∀ i, i ≤ N → ∀ hs, J K A E 6 (gB F h0 (mC K h0 now past kept thrown drawn hash)) hs 0 0 6 [some (.ref h0), some (.int (nI col)), some (.int (nI f)), some (.int (nI s)), some (.int (jb (frI drawn col f s i))), some (.int (nI (f + i * s)))] [] := by
    refine dloop (fun i => ∀ hs, J K A E 6 (gB F h0 (mC K h0 now past kept thrown drawn hash)) hs 0 0 6 [some (.ref h0), some (.int (nI col)), some (.int (nI f)), some (.int (nI s)), some (.int (jb (frI drawn col f s i))), some (.int (nI (f + i * s)))] []) (N) (fun i hi6 ih6 => ?_) ?_
    · intro hs
      have hlt := fr_lt hN hf hi6
      refine j_iload hE dX6_isFree_6 rfl ?_
      refine j_aload_n hE (i := 0) dX6_isFree_8 rfl rfl ?_
      refine j_get hE flX6_7 gB_0 rfl dX6_isFree_9 ?_
      refine j_iconst hE (v := nI 1) dX6_isFree_12 (by decide) ?_
      refine j_iald hE gB_1 rfl (by omega) (by decide) dX6_isFree_13 ?_
      rw [hM]
      refine j_ic_geN hE (tgt := 56) dX6_isFree_14 (by decide) (by omega) (by omega) (fun h14 => ?_) (fun h14 => ?_)
      · exfalso; omega
      · refine j_iload hE dX6_isFree_17 rfl ?_
        refine j_if_eq hE (tgt := 44) dX6_isFree_19 (by decide) (fun h19 => ?_) (fun h19 => ?_)
        · have q9 : jb (frI drawn col f s (i + 1)) = nI 0 := by
            first
              | (have h1 := jb_eq h19; simp [frI, h1, jb])
              | simp [frI, h37, jb]
          refine j_iconst hE (v := nI 0) dX6_isFree_44 (by decide) ?_
          refine j_ist4 hE dX6_isFree_45 (by decide) rfl ?_
          refine j_iload hE dX6_isFree_47 rfl ?_
          refine j_iload_n hE (i := 3) dX6_isFree_49 rfl rfl ?_
          refine j_iaddN hE dX6_isFree_50 ?_
          rw [fr_st]
          refine j_ist5 hE dX6_isFree_51 (by decide) rfl ?_
          refine j_goto hE (tgt := 6) dX6_isFree_53 (by decide) ?_
          have e9 : jb (frI drawn col f s (i + 1)) = nI _ := q9
          rw [← e9]
          exact ih6 _
        · refine j_aload_n hE (i := 0) dX6_isFree_22 rfl rfl ?_
          refine j_get hE flX6_16 gB_0 rfl dX6_isFree_23 ?_
          refine j_bipush hE (v := nI 16) dX6_isFree_26 (by decide) ?_
          refine j_iload hE dX6_isFree_28 rfl ?_
          refine j_imulN hE dX6_isFree_30 ?_
          refine j_iconst hE (v := nI 3) dX6_isFree_31 (by decide) ?_
          refine j_iaddN hE dX6_isFree_32 ?_
          refine j_iload_n hE (i := 1) dX6_isFree_33 rfl rfl ?_
          refine j_iaddN hE dX6_isFree_34 ?_
          refine j_iald hE gB_3 rfl (by omega) (by decide) dX6_isFree_35 ?_
          refine j_iconst hE (v := -1) dX6_isFree_36 (by decide) ?_
          refine j_ic_ne hE (tgt := 44) dX6_isFree_37 (by decide) (fun h37 => ?_) (fun h37 => ?_)
          · have q9 : jb (frI drawn col f s (i + 1)) = nI 0 := by
              first
                | (have h1 := jb_eq h19; simp [frI, h1, jb])
                | simp [frI, h37, jb]
            refine j_iconst hE (v := nI 0) dX6_isFree_44 (by decide) ?_
            refine j_ist4 hE dX6_isFree_45 (by decide) rfl ?_
            refine j_iload hE dX6_isFree_47 rfl ?_
            refine j_iload_n hE (i := 3) dX6_isFree_49 rfl rfl ?_
            refine j_iaddN hE dX6_isFree_50 ?_
            rw [fr_st]
            refine j_ist5 hE dX6_isFree_51 (by decide) rfl ?_
            refine j_goto hE (tgt := 6) dX6_isFree_53 (by decide) ?_
            have e9 : jb (frI drawn col f s (i + 1)) = nI _ := q9
            rw [← e9]
            exact ih6 _
          · have q9 : jb (frI drawn col f s (i + 1)) = nI 1 := by
              have h1 := jb_ne h19
              simp [frI, h1, h37, jb]
            refine j_iconst hE (v := nI 1) dX6_isFree_40 (by decide) ?_
            refine j_goto hE (tgt := 45) dX6_isFree_41 (by decide) ?_
            refine j_ist4 hE dX6_isFree_45 (by decide) rfl ?_
            refine j_iload hE dX6_isFree_47 rfl ?_
            refine j_iload_n hE (i := 3) dX6_isFree_49 rfl rfl ?_
            refine j_iaddN hE dX6_isFree_50 ?_
            rw [fr_st]
            refine j_ist5 hE dX6_isFree_51 (by decide) rfl ?_
            refine j_goto hE (tgt := 6) dX6_isFree_53 (by decide) ?_
            have e9 : jb (frI drawn col f s (i + 1)) = nI _ := q9
            rw [← e9]
            exact ih6 _
    · intro hs
      have hge := fr_ge (f := f) hN
      refine j_iload hE dX6_isFree_6 rfl ?_
      refine j_aload_n hE (i := 0) dX6_isFree_8 rfl rfl ?_
      refine j_get hE flX6_7 gB_0 rfl dX6_isFree_9 ?_
      refine j_iconst hE (v := nI 1) dX6_isFree_12 (by decide) ?_
      refine j_iald hE gB_1 rfl (by omega) (by decide) dX6_isFree_13 ?_
      rw [hM]
      refine j_ic_geN hE (tgt := 56) dX6_isFree_14 (by decide) (by omega) (by omega) (fun h14 => ?_) (fun h14 => ?_)
      · refine j_iload hE dX6_isFree_56 rfl ?_
        refine j_iret hE hQ (jb_nar _) (by omega) (by omega) dX6_isFree_58 ?_
        exact ⟨_, rfl, rfl, rfl⟩
      · exfalso; omega
  exact (by have := key6 0 (by omega) hs; rw [Nat.zero_mul] at this; exact this)

set_option maxRecDepth 100000 in
set_option maxHeartbeats 4000000 in
theorem c_X6_takes {l : Launch} (hl : l.stackTraces = false) (K : jK) (F : GH) (h0 hs : Nat) (now past : Nat → Int32) (kept thrown : Int32) (drawn : Nat → Int32) (hash : Int64) (M N : Nat) (hM : now 1 = nI M) (hM9 : M ≤ 8) (f s col : Nat) (hN : M = N * s) (hf : f < s) (hcol : col < 13) (hs8 : s ≤ 8) (p : Int32) : Ct l K yX6_takes cX6_takes 6 none 0 0 0 0 [.ref h0, .int p, .int (nI col), .int (nI f), .int (nI s)] (gB F h0 (mC K h0 now past kept thrown drawn hash)) hs (pV (fun G' _ => G' = (gB F h0 (mC K h0 now past kept thrown (itr (tkS p col f s) N drawn) hash)))) jno := by
  refine Ct.ofA hl (by decide) (Nat.le_of_ble_eq_true rfl) (L0 := [some (.ref h0), some (.int p), some (.int (nI col)), some (.int (nI f)), some (.int (nI s)), none]) (jL_of 1 rfl) ?_
  intro A E hE hQ hX hNm
  refine j_iload_n hE (i := 3) dX6_takes_0 rfl rfl ?_
  refine j_ist5 hE dX6_takes_1 (by decide) rfl ?_
  have key3 : ∀ i, i ≤ N → ∀ hs, J K A E 6 (gB F h0 (mC K h0 now past kept thrown (itr (tkS p col f s) i drawn) hash)) hs 0 0 3 [some (.ref h0), some (.int p), some (.int (nI col)), some (.int (nI f)), some (.int (nI s)), some (.int (nI (f + i * s)))] [] := by
    refine dloop (fun i => ∀ hs, J K A E 6 (gB F h0 (mC K h0 now past kept thrown (itr (tkS p col f s) i drawn) hash)) hs 0 0 3 [some (.ref h0), some (.int p), some (.int (nI col)), some (.int (nI f)), some (.int (nI s)), some (.int (nI (f + i * s)))] []) (N) (fun i hi3 ih3 => ?_) ?_
    · intro hs
      have hlt := fr_lt hN hf hi3
      refine j_iload hE dX6_takes_3 rfl ?_
      refine j_aload_n hE (i := 0) dX6_takes_5 rfl rfl ?_
      refine j_get hE flX6_7 gB_0 rfl dX6_takes_6 ?_
      refine j_iconst hE (v := nI 1) dX6_takes_9 (by decide) ?_
      refine j_iald hE gB_1 rfl (by omega) (by decide) dX6_takes_10 ?_
      rw [hM]
      refine j_ic_geN hE (tgt := 39) dX6_takes_11 (by decide) (by omega) (by omega) (fun h11 => ?_) (fun h11 => ?_)
      · exfalso; omega
      · refine j_aload_n hE (i := 0) dX6_takes_14 rfl rfl ?_
        refine j_get hE flX6_16 gB_0 rfl dX6_takes_15 ?_
        refine j_bipush hE (v := nI 16) dX6_takes_18 (by decide) ?_
        refine j_iload hE dX6_takes_20 rfl ?_
        refine j_imulN hE dX6_takes_22 ?_
        refine j_iconst hE (v := nI 3) dX6_takes_23 (by decide) ?_
        refine j_iaddN hE dX6_takes_24 ?_
        refine j_iload_n hE (i := 2) dX6_takes_25 rfl rfl ?_
        refine j_iaddN hE dX6_takes_26 ?_
        refine j_iload_n hE (i := 1) dX6_takes_27 rfl rfl ?_
        refine b_ast3 hE rfl (by omega) (by decide) dX6_takes_28 ?_
        refine j_iload hE dX6_takes_29 rfl ?_
        refine j_iload hE dX6_takes_31 rfl ?_
        refine j_iaddN hE dX6_takes_33 ?_
        rw [fr_st]
        refine j_ist5 hE dX6_takes_34 (by decide) rfl ?_
        refine j_goto hE (tgt := 3) dX6_takes_36 (by decide) ?_
        exact ih3 _
    · intro hs
      have hge := fr_ge (f := f) hN
      refine j_iload hE dX6_takes_3 rfl ?_
      refine j_aload_n hE (i := 0) dX6_takes_5 rfl rfl ?_
      refine j_get hE flX6_7 gB_0 rfl dX6_takes_6 ?_
      refine j_iconst hE (v := nI 1) dX6_takes_9 (by decide) ?_
      refine j_iald hE gB_1 rfl (by omega) (by decide) dX6_takes_10 ?_
      rw [hM]
      refine j_ic_geN hE (tgt := 39) dX6_takes_11 (by decide) (by omega) (by omega) (fun h11 => ?_) (fun h11 => ?_)
      · refine j_vret hE hQ (by omega) (by omega) dX6_takes_39 ?_
        exact ⟨rfl, rfl⟩
      · exfalso; omega
  exact (by have := key3 0 (by omega) hs; rw [Nat.zero_mul] at this; exact this)

/-- all r columns c, c + g, c + 2 g .. are free in all M minor frames -/
def manyI (d : Nat → Int32) (M g c : Nat) : Nat → Bool
  | 0 => true
  | n + 1 => manyI d M g c n && frI d (c + n * g) 0 1 M
def tkM (p : Int32) (M g c i : Nat) (d : Nat → Int32) : Nat → Int32 := itr (tkS p (c + i * g) 0 1) M d
theorem col_lt {c g k r D : Nat} (hc : c < g) (hk : k < r) (hD : g * r ≤ D) : c + k * g < D := by
  have h1 : (k + 1) * g ≤ r * g := Nat.mul_le_mul_right g hk
  rw [Nat.succ_mul, Nat.mul_comm r g] at h1
  omega
set_option maxRecDepth 100000 in
set_option maxHeartbeats 4000000 in
theorem c_X6_placesMany_t {l : Launch} (hl : l.stackTraces = false) (K : jK) (F : GH) (h0 hs : Nat) (now past : Nat → Int32) (kept thrown : Int32) (drawn : Nat → Int32) (hash : Int64) (W M : Nat) (hW : now 0 = nI W) (hM : now 1 = nI M) (hW6 : 6 ≤ W) (hW9 : W ≤ 16) (hM9 : M ≤ 8) (p r : Nat) (hr1 : 1 ≤ r) (hr4 : r ≤ 4) (hdiv : (W - 3) % r = 0) (c0 : Nat) (hc0 : c0 < (W - 3) / r) (hno : ∀ c, c < c0 → manyI drawn M ((W - 3) / r) c r = false) (hyes : manyI drawn M ((W - 3) / r) c0 r = true) : Ct l K yX6_placesMany cX6_placesMany 8 (some .boolean) 1 25 0 0 [.ref h0, .int (nI p), .int (nI r)] (gB F h0 (mC K h0 now past kept thrown drawn hash)) hs (pI (fun z G' _ => z = nI 1 ∧ G' = (gB F h0 (mC K h0 now past kept thrown (itr (tkM (nI p) M ((W - 3) / r) c0) r drawn) hash)))) jno := by
  refine Ct.ofA hl (by decide) (Nat.le_of_ble_eq_true rfl) (L0 := [some (.ref h0), some (.int (nI p)), some (.int (nI r)), none, none, none, none, none]) (jL_of 5 rfl) ?_
  intro A E hE hQ hX hNm
  obtain ⟨g, hgd⟩ : ∃ g, g = (W - 3) / r := ⟨_, rfl⟩
  have hg : g * r ≤ W - 3 := by rw [hgd]; exact Nat.div_mul_le_self _ _
  have hg9 : g ≤ W - 3 := by rw [hgd]; exact Nat.div_le_self _ _
  have hm9 : (W - 3) % r < r := Nat.mod_lt _ (by omega)
  rw [← hgd] at hc0 hno hyes hQ
  refine j_aload_n hE (i := 0) dX6_placesMany_0 rfl rfl ?_
  refine j_get hE flX6_7 gB_0 rfl dX6_placesMany_1 ?_
  refine j_iconst hE (v := nI 0) dX6_placesMany_4 (by decide) ?_
  refine j_iald hE gB_1 rfl (by omega) (by decide) dX6_placesMany_5 ?_
  rw [hW]
  refine j_iconst hE (v := nI 3) dX6_placesMany_6 (by decide) ?_
  refine j_isubN hE dX6_placesMany_7 (by omega) ?_
  refine j_ist3 hE dX6_placesMany_8 rfl (by decide) rfl ?_
  refine j_iload_n hE (i := 3) dX6_placesMany_9 rfl rfl ?_
  refine j_iload_n hE (i := 2) dX6_placesMany_10 rfl rfl ?_
  refine j_idivN hE dX6_placesMany_11 (by omega) (by omega) (by omega) ?_
  rw [← hgd]
  refine j_ist4 hE dX6_placesMany_12 (by decide) rfl ?_
  refine j_iconst hE (v := nI 0) dX6_placesMany_14 (by decide) ?_
  refine j_ist5 hE dX6_placesMany_15 (by decide) rfl ?_
  have key17 : ∀ c, c ≤ c0 → ∀ hs, ∀ a6 a7, J K A E 8 (gB F h0 (mC K h0 now past kept thrown drawn hash)) hs 0 0 17 [some (.ref h0), some (.int (nI p)), some (.int (nI r)), some (.int (nI (W - 3))), some (.int (nI g)), some (.int (nI c)), a6, a7] [] := by
    refine dloop (fun c => ∀ hs, ∀ a6 a7, J K A E 8 (gB F h0 (mC K h0 now past kept thrown drawn hash)) hs 0 0 17 [some (.ref h0), some (.int (nI p)), some (.int (nI r)), some (.int (nI (W - 3))), some (.int (nI g)), some (.int (nI c)), a6, a7] []) (c0) (fun c hi17 ih17 => ?_) ?_
    · intro hs
      intro a6 a7
      have hno9 := hno c hi17
      refine j_iload hE dX6_placesMany_17 rfl ?_
      refine j_iload hE dX6_placesMany_19 rfl ?_
      refine j_ic_geN hE (tgt := 120) dX6_placesMany_21 (by decide) (by omega) (by omega) (fun h21 => ?_) (fun h21 => ?_)
      · exfalso; omega
      · refine j_iload_n hE (i := 3) dX6_placesMany_24 rfl rfl ?_
        refine j_iload_n hE (i := 2) dX6_placesMany_25 rfl rfl ?_
        refine j_iremN hE dX6_placesMany_26 (by omega) (by omega) (by omega) ?_
        refine j_if_neN hE (tgt := 120) dX6_placesMany_27 (by decide) (by omega) (fun h27 => ?_) (fun h27 => ?_)
        · exfalso; omega
        · refine j_iconst hE (v := nI 1) dX6_placesMany_30 (by decide) ?_
          refine j_ist6 hE dX6_placesMany_31 (by decide) rfl ?_
          refine j_iconst hE (v := nI 0) dX6_placesMany_33 (by decide) ?_
          refine j_ist7 hE dX6_placesMany_34 (by decide) rfl ?_
          have key36 : ∀ k, k ≤ r → ∀ hs, J K A E 8 (gB F h0 (mC K h0 now past kept thrown drawn hash)) hs 0 0 36 [some (.ref h0), some (.int (nI p)), some (.int (nI r)), some (.int (nI (W - 3))), some (.int (nI g)), some (.int (nI c)), some (.int (jb (manyI drawn M g c k))), some (.int (nI k))] [] := by
            refine dloop (fun k => ∀ hs, J K A E 8 (gB F h0 (mC K h0 now past kept thrown drawn hash)) hs 0 0 36 [some (.ref h0), some (.int (nI p)), some (.int (nI r)), some (.int (nI (W - 3))), some (.int (nI g)), some (.int (nI c)), some (.int (jb (manyI drawn M g c k))), some (.int (nI k))] []) (r) (fun k hi36 ih36 => ?_) ?_
            · intro hs
              refine j_iload hE dX6_placesMany_36 rfl ?_
              refine j_iload_n hE (i := 2) dX6_placesMany_38 rfl rfl ?_
              refine j_ic_geN hE (tgt := 77) dX6_placesMany_39 (by decide) (by omega) (by omega) (fun h39 => ?_) (fun h39 => ?_)
              · exfalso; omega
              · refine j_iload hE dX6_placesMany_42 rfl ?_
                refine j_if_eq hE (tgt := 68) dX6_placesMany_44 (by decide) (fun h44 => ?_) (fun h44 => ?_)
                · have q9 : jb (manyI drawn M g c (k + 1)) = nI 0 := by
                    first
                      | (have h1 := jb_eq h44; simp [manyI, h1, jb])
                      | (have h2 := jb_eq h61; simp [manyI, h2, jb])
                  refine j_iconst hE (v := nI 0) dX6_placesMany_68 (by decide) ?_
                  refine j_ist6 hE dX6_placesMany_69 (by decide) rfl ?_
                  refine j_incN7 hE dX6_placesMany_71 (by decide) rfl ?_
                  refine j_goto hE (tgt := 36) dX6_placesMany_74 (by decide) ?_
                  have e9 : jb (manyI drawn M g c (k + 1)) = nI _ := q9
                  rw [← e9]
                  exact ih36 _
                · refine j_aload_n hE (i := 0) dX6_placesMany_47 rfl rfl ?_
                  refine j_iload hE dX6_placesMany_48 rfl ?_
                  refine j_iload hE dX6_placesMany_50 rfl ?_
                  refine j_iload hE dX6_placesMany_52 rfl ?_
                  refine j_imulN hE dX6_placesMany_54 ?_
                  refine j_iaddN hE dX6_placesMany_55 ?_
                  refine j_iconst hE (v := nI 0) dX6_placesMany_56 (by decide) ?_
                  refine j_iconst hE (v := nI 1) dX6_placesMany_57 (by decide) ?_
                  refine j_cVi hE mlX6_47 gB_0 (fun l hl => c_X6_isFree hl K F h0 _ _ _ _ _ _ _ M M hM hM9 0 1 _ (Nat.mul_one M).symm (by omega) (col_lt (by omega) (by omega) hg |> fun q => by omega) (by omega)) rfl rfl (Nat.le_of_ble_eq_true rfl) (by decide) (by decide) (by omega) (by omega) dX6_placesMany_58 (fun r G9 hs9 hp => ?_) (fun _ _ h => h.elim)
                  obtain ⟨rfl, rfl⟩ := hp
                  refine j_if_eq hE (tgt := 68) dX6_placesMany_61 (by decide) (fun h61 => ?_) (fun h61 => ?_)
                  · have q9 : jb (manyI drawn M g c (k + 1)) = nI 0 := by
                      first
                        | (have h1 := jb_eq h44; simp [manyI, h1, jb])
                        | (have h2 := jb_eq h61; simp [manyI, h2, jb])
                    refine j_iconst hE (v := nI 0) dX6_placesMany_68 (by decide) ?_
                    refine j_ist6 hE dX6_placesMany_69 (by decide) rfl ?_
                    refine j_incN7 hE dX6_placesMany_71 (by decide) rfl ?_
                    refine j_goto hE (tgt := 36) dX6_placesMany_74 (by decide) ?_
                    have e9 : jb (manyI drawn M g c (k + 1)) = nI _ := q9
                    rw [← e9]
                    exact ih36 _
                  · have q9 : jb (manyI drawn M g c (k + 1)) = nI 1 := by
                      have h1 := jb_ne h44
                      have h2 := jb_ne h61
                      simp [manyI, h1, h2, jb]
                    refine j_iconst hE (v := nI 1) dX6_placesMany_64 (by decide) ?_
                    refine j_goto hE (tgt := 69) dX6_placesMany_65 (by decide) ?_
                    refine j_ist6 hE dX6_placesMany_69 (by decide) rfl ?_
                    refine j_incN7 hE dX6_placesMany_71 (by decide) rfl ?_
                    refine j_goto hE (tgt := 36) dX6_placesMany_74 (by decide) ?_
                    have e9 : jb (manyI drawn M g c (k + 1)) = nI _ := q9
                    rw [← e9]
                    exact ih36 _
            · intro hs
              refine j_iload hE dX6_placesMany_36 rfl ?_
              refine j_iload_n hE (i := 2) dX6_placesMany_38 rfl rfl ?_
              refine j_ic_geN hE (tgt := 77) dX6_placesMany_39 (by decide) (by omega) (by omega) (fun h39 => ?_) (fun h39 => ?_)
              · refine j_iload hE dX6_placesMany_77 rfl ?_
                refine j_if_eq hE (tgt := 114) dX6_placesMany_79 (by decide) (fun h79 => ?_) (fun h79 => ?_)
                · refine j_incN5 hE dX6_placesMany_114 (by decide) rfl ?_
                  refine j_goto hE (tgt := 17) dX6_placesMany_117 (by decide) ?_
                  exact ih17 _ _ _
                · exact absurd (jb_ne h79) (by rw [hno9]; decide)
              · exfalso; omega
          exact key36 0 (by omega) _
    · intro hs
      intro a6 a7
      obtain ⟨c, hc⟩ : ∃ c, c = c0 := ⟨_, rfl⟩
      rw [← hc] at hyes hc0 ⊢
      refine j_iload hE dX6_placesMany_17 rfl ?_
      refine j_iload hE dX6_placesMany_19 rfl ?_
      refine j_ic_geN hE (tgt := 120) dX6_placesMany_21 (by decide) (by omega) (by omega) (fun h21 => ?_) (fun h21 => ?_)
      · exfalso; omega
      · refine j_iload_n hE (i := 3) dX6_placesMany_24 rfl rfl ?_
        refine j_iload_n hE (i := 2) dX6_placesMany_25 rfl rfl ?_
        refine j_iremN hE dX6_placesMany_26 (by omega) (by omega) (by omega) ?_
        refine j_if_neN hE (tgt := 120) dX6_placesMany_27 (by decide) (by omega) (fun h27 => ?_) (fun h27 => ?_)
        · exfalso; omega
        · refine j_iconst hE (v := nI 1) dX6_placesMany_30 (by decide) ?_
          refine j_ist6 hE dX6_placesMany_31 (by decide) rfl ?_
          refine j_iconst hE (v := nI 0) dX6_placesMany_33 (by decide) ?_
          refine j_ist7 hE dX6_placesMany_34 (by decide) rfl ?_
          have key36 : ∀ k, k ≤ r → ∀ hs, J K A E 8 (gB F h0 (mC K h0 now past kept thrown drawn hash)) hs 0 0 36 [some (.ref h0), some (.int (nI p)), some (.int (nI r)), some (.int (nI (W - 3))), some (.int (nI g)), some (.int (nI c)), some (.int (jb (manyI drawn M g c k))), some (.int (nI k))] [] := by
            refine dloop (fun k => ∀ hs, J K A E 8 (gB F h0 (mC K h0 now past kept thrown drawn hash)) hs 0 0 36 [some (.ref h0), some (.int (nI p)), some (.int (nI r)), some (.int (nI (W - 3))), some (.int (nI g)), some (.int (nI c)), some (.int (jb (manyI drawn M g c k))), some (.int (nI k))] []) (r) (fun k hi36 ih36 => ?_) ?_
            · intro hs
              refine j_iload hE dX6_placesMany_36 rfl ?_
              refine j_iload_n hE (i := 2) dX6_placesMany_38 rfl rfl ?_
              refine j_ic_geN hE (tgt := 77) dX6_placesMany_39 (by decide) (by omega) (by omega) (fun h39 => ?_) (fun h39 => ?_)
              · exfalso; omega
              · refine j_iload hE dX6_placesMany_42 rfl ?_
                refine j_if_eq hE (tgt := 68) dX6_placesMany_44 (by decide) (fun h44 => ?_) (fun h44 => ?_)
                · have q9 : jb (manyI drawn M g c (k + 1)) = nI 0 := by
                    first
                      | (have h1 := jb_eq h44; simp [manyI, h1, jb])
                      | (have h2 := jb_eq h61; simp [manyI, h2, jb])
                  refine j_iconst hE (v := nI 0) dX6_placesMany_68 (by decide) ?_
                  refine j_ist6 hE dX6_placesMany_69 (by decide) rfl ?_
                  refine j_incN7 hE dX6_placesMany_71 (by decide) rfl ?_
                  refine j_goto hE (tgt := 36) dX6_placesMany_74 (by decide) ?_
                  have e9 : jb (manyI drawn M g c (k + 1)) = nI _ := q9
                  rw [← e9]
                  exact ih36 _
                · refine j_aload_n hE (i := 0) dX6_placesMany_47 rfl rfl ?_
                  refine j_iload hE dX6_placesMany_48 rfl ?_
                  refine j_iload hE dX6_placesMany_50 rfl ?_
                  refine j_iload hE dX6_placesMany_52 rfl ?_
                  refine j_imulN hE dX6_placesMany_54 ?_
                  refine j_iaddN hE dX6_placesMany_55 ?_
                  refine j_iconst hE (v := nI 0) dX6_placesMany_56 (by decide) ?_
                  refine j_iconst hE (v := nI 1) dX6_placesMany_57 (by decide) ?_
                  refine j_cVi hE mlX6_47 gB_0 (fun l hl => c_X6_isFree hl K F h0 _ _ _ _ _ _ _ M M hM hM9 0 1 _ (Nat.mul_one M).symm (by omega) (col_lt (by omega) (by omega) hg |> fun q => by omega) (by omega)) rfl rfl (Nat.le_of_ble_eq_true rfl) (by decide) (by decide) (by omega) (by omega) dX6_placesMany_58 (fun r G9 hs9 hp => ?_) (fun _ _ h => h.elim)
                  obtain ⟨rfl, rfl⟩ := hp
                  refine j_if_eq hE (tgt := 68) dX6_placesMany_61 (by decide) (fun h61 => ?_) (fun h61 => ?_)
                  · have q9 : jb (manyI drawn M g c (k + 1)) = nI 0 := by
                      first
                        | (have h1 := jb_eq h44; simp [manyI, h1, jb])
                        | (have h2 := jb_eq h61; simp [manyI, h2, jb])
                    refine j_iconst hE (v := nI 0) dX6_placesMany_68 (by decide) ?_
                    refine j_ist6 hE dX6_placesMany_69 (by decide) rfl ?_
                    refine j_incN7 hE dX6_placesMany_71 (by decide) rfl ?_
                    refine j_goto hE (tgt := 36) dX6_placesMany_74 (by decide) ?_
                    have e9 : jb (manyI drawn M g c (k + 1)) = nI _ := q9
                    rw [← e9]
                    exact ih36 _
                  · have q9 : jb (manyI drawn M g c (k + 1)) = nI 1 := by
                      have h1 := jb_ne h44
                      have h2 := jb_ne h61
                      simp [manyI, h1, h2, jb]
                    refine j_iconst hE (v := nI 1) dX6_placesMany_64 (by decide) ?_
                    refine j_goto hE (tgt := 69) dX6_placesMany_65 (by decide) ?_
                    refine j_ist6 hE dX6_placesMany_69 (by decide) rfl ?_
                    refine j_incN7 hE dX6_placesMany_71 (by decide) rfl ?_
                    refine j_goto hE (tgt := 36) dX6_placesMany_74 (by decide) ?_
                    have e9 : jb (manyI drawn M g c (k + 1)) = nI _ := q9
                    rw [← e9]
                    exact ih36 _
            · intro hs
              refine j_iload hE dX6_placesMany_36 rfl ?_
              refine j_iload_n hE (i := 2) dX6_placesMany_38 rfl rfl ?_
              refine j_ic_geN hE (tgt := 77) dX6_placesMany_39 (by decide) (by omega) (by omega) (fun h39 => ?_) (fun h39 => ?_)
              · refine j_iload hE dX6_placesMany_77 rfl ?_
                refine j_if_eq hE (tgt := 114) dX6_placesMany_79 (by decide) (fun h79 => ?_) (fun h79 => ?_)
                · exact absurd (jb_eq h79) (by rw [hyes]; decide)
                · refine j_iconst hE (v := nI 0) dX6_placesMany_82 (by decide) ?_
                  refine j_ist7 hE dX6_placesMany_83 (by decide) rfl ?_
                  have key85 : ∀ k, k ≤ r → ∀ hs, J K A E 8 (gB F h0 (mC K h0 now past kept thrown (itr (tkM (nI p) M g c) k drawn) hash)) hs 0 0 85 [some (.ref h0), some (.int (nI p)), some (.int (nI r)), some (.int (nI (W - 3))), some (.int (nI g)), some (.int (nI c)), some (.int (jb (manyI drawn M g c r))), some (.int (nI k))] [] := by
                    refine dloop (fun k => ∀ hs, J K A E 8 (gB F h0 (mC K h0 now past kept thrown (itr (tkM (nI p) M g c) k drawn) hash)) hs 0 0 85 [some (.ref h0), some (.int (nI p)), some (.int (nI r)), some (.int (nI (W - 3))), some (.int (nI g)), some (.int (nI c)), some (.int (jb (manyI drawn M g c r))), some (.int (nI k))] []) (r) (fun k hi85 ih85 => ?_) ?_
                    · intro hs
                      refine j_iload hE dX6_placesMany_85 rfl ?_
                      refine j_iload_n hE (i := 2) dX6_placesMany_87 rfl rfl ?_
                      refine j_ic_geN hE (tgt := 112) dX6_placesMany_88 (by decide) (by omega) (by omega) (fun h88 => ?_) (fun h88 => ?_)
                      · exfalso; omega
                      · refine j_aload_n hE (i := 0) dX6_placesMany_91 rfl rfl ?_
                        refine j_iload_n hE (i := 1) dX6_placesMany_92 rfl rfl ?_
                        refine j_iload hE dX6_placesMany_93 rfl ?_
                        refine j_iload hE dX6_placesMany_95 rfl ?_
                        refine j_iload hE dX6_placesMany_97 rfl ?_
                        refine j_imulN hE dX6_placesMany_99 ?_
                        refine j_iaddN hE dX6_placesMany_100 ?_
                        refine j_iconst hE (v := nI 0) dX6_placesMany_101 (by decide) ?_
                        refine j_iconst hE (v := nI 1) dX6_placesMany_102 (by decide) ?_
                        refine j_cVv hE mlX6_50 gB_0 (fun l hl => c_X6_takes hl K F h0 _ _ _ _ _ _ _ M M hM hM9 0 1 _ (Nat.mul_one M).symm (by omega) (col_lt (by omega) (by omega) hg |> fun q => by omega) (by omega) _) rfl rfl (Nat.le_of_ble_eq_true rfl) (by decide) (by decide) (by omega) (by omega) dX6_placesMany_103 (fun G9 hs9 hp => ?_) (fun _ _ h => h.elim)
                        subst hp
                        refine j_incN7 hE dX6_placesMany_106 (by decide) rfl ?_
                        refine j_goto hE (tgt := 85) dX6_placesMany_109 (by decide) ?_
                        exact ih85 _
                    · intro hs
                      refine j_iload hE dX6_placesMany_85 rfl ?_
                      refine j_iload_n hE (i := 2) dX6_placesMany_87 rfl rfl ?_
                      refine j_ic_geN hE (tgt := 112) dX6_placesMany_88 (by decide) (by omega) (by omega) (fun h88 => ?_) (fun h88 => ?_)
                      · refine j_iconst hE (v := nI 1) dX6_placesMany_112 (by decide) ?_
                        refine j_iret hE hQ rfl (by omega) (by omega) dX6_placesMany_113 ?_
                        exact ⟨_, rfl, rfl, by rw [hc]⟩
                      · exfalso; omega
                  exact key85 0 (by omega) _
              · exfalso; omega
          exact key36 0 (by omega) _
  exact key17 0 (by omega) _ _ _

set_option maxRecDepth 100000 in
set_option maxHeartbeats 4000000 in
theorem c_X6_placesMany_f {l : Launch} (hl : l.stackTraces = false) (K : jK) (F : GH) (h0 hs : Nat) (now past : Nat → Int32) (kept thrown : Int32) (drawn : Nat → Int32) (hash : Int64) (W M : Nat) (hW : now 0 = nI W) (hM : now 1 = nI M) (hW6 : 6 ≤ W) (hW9 : W ≤ 16) (hM9 : M ≤ 8) (p r : Nat) (hr1 : 1 ≤ r) (hr4 : r ≤ 4) (hdiv : (W - 3) % r = 0) (hno : ∀ c, c < (W - 3) / r → manyI drawn M ((W - 3) / r) c r = false) : Ct l K yX6_placesMany cX6_placesMany 8 (some .boolean) 1 25 0 0 [.ref h0, .int (nI p), .int (nI r)] (gB F h0 (mC K h0 now past kept thrown drawn hash)) hs (pI (fun z G' _ => z = nI 0 ∧ G' = (gB F h0 (mC K h0 now past kept thrown drawn hash)))) jno := by
  refine Ct.ofA hl (by decide) (Nat.le_of_ble_eq_true rfl) (L0 := [some (.ref h0), some (.int (nI p)), some (.int (nI r)), none, none, none, none, none]) (jL_of 5 rfl) ?_
  intro A E hE hQ hX hNm
  obtain ⟨g, hgd⟩ : ∃ g, g = (W - 3) / r := ⟨_, rfl⟩
  have hg : g * r ≤ W - 3 := by rw [hgd]; exact Nat.div_mul_le_self _ _
  have hg9 : g ≤ W - 3 := by rw [hgd]; exact Nat.div_le_self _ _
  have hm9 : (W - 3) % r < r := Nat.mod_lt _ (by omega)
  rw [← hgd] at hno
  refine j_aload_n hE (i := 0) dX6_placesMany_0 rfl rfl ?_
  refine j_get hE flX6_7 gB_0 rfl dX6_placesMany_1 ?_
  refine j_iconst hE (v := nI 0) dX6_placesMany_4 (by decide) ?_
  refine j_iald hE gB_1 rfl (by omega) (by decide) dX6_placesMany_5 ?_
  rw [hW]
  refine j_iconst hE (v := nI 3) dX6_placesMany_6 (by decide) ?_
  refine j_isubN hE dX6_placesMany_7 (by omega) ?_
  refine j_ist3 hE dX6_placesMany_8 rfl (by decide) rfl ?_
  refine j_iload_n hE (i := 3) dX6_placesMany_9 rfl rfl ?_
  refine j_iload_n hE (i := 2) dX6_placesMany_10 rfl rfl ?_
  refine j_idivN hE dX6_placesMany_11 (by omega) (by omega) (by omega) ?_
  rw [← hgd]
  refine j_ist4 hE dX6_placesMany_12 (by decide) rfl ?_
  refine j_iconst hE (v := nI 0) dX6_placesMany_14 (by decide) ?_
  refine j_ist5 hE dX6_placesMany_15 (by decide) rfl ?_
  have key17 : ∀ c, c ≤ g → ∀ hs, ∀ a6 a7, J K A E 8 (gB F h0 (mC K h0 now past kept thrown drawn hash)) hs 0 0 17 [some (.ref h0), some (.int (nI p)), some (.int (nI r)), some (.int (nI (W - 3))), some (.int (nI g)), some (.int (nI c)), a6, a7] [] := by
    refine dloop (fun c => ∀ hs, ∀ a6 a7, J K A E 8 (gB F h0 (mC K h0 now past kept thrown drawn hash)) hs 0 0 17 [some (.ref h0), some (.int (nI p)), some (.int (nI r)), some (.int (nI (W - 3))), some (.int (nI g)), some (.int (nI c)), a6, a7] []) (g) (fun c hi17 ih17 => ?_) ?_
    · intro hs
      intro a6 a7
      have hno9 := hno c hi17
      refine j_iload hE dX6_placesMany_17 rfl ?_
      refine j_iload hE dX6_placesMany_19 rfl ?_
      refine j_ic_geN hE (tgt := 120) dX6_placesMany_21 (by decide) (by omega) (by omega) (fun h21 => ?_) (fun h21 => ?_)
      · exfalso; omega
      · refine j_iload_n hE (i := 3) dX6_placesMany_24 rfl rfl ?_
        refine j_iload_n hE (i := 2) dX6_placesMany_25 rfl rfl ?_
        refine j_iremN hE dX6_placesMany_26 (by omega) (by omega) (by omega) ?_
        refine j_if_neN hE (tgt := 120) dX6_placesMany_27 (by decide) (by omega) (fun h27 => ?_) (fun h27 => ?_)
        · exfalso; omega
        · refine j_iconst hE (v := nI 1) dX6_placesMany_30 (by decide) ?_
          refine j_ist6 hE dX6_placesMany_31 (by decide) rfl ?_
          refine j_iconst hE (v := nI 0) dX6_placesMany_33 (by decide) ?_
          refine j_ist7 hE dX6_placesMany_34 (by decide) rfl ?_
          have key36 : ∀ k, k ≤ r → ∀ hs, J K A E 8 (gB F h0 (mC K h0 now past kept thrown drawn hash)) hs 0 0 36 [some (.ref h0), some (.int (nI p)), some (.int (nI r)), some (.int (nI (W - 3))), some (.int (nI g)), some (.int (nI c)), some (.int (jb (manyI drawn M g c k))), some (.int (nI k))] [] := by
            refine dloop (fun k => ∀ hs, J K A E 8 (gB F h0 (mC K h0 now past kept thrown drawn hash)) hs 0 0 36 [some (.ref h0), some (.int (nI p)), some (.int (nI r)), some (.int (nI (W - 3))), some (.int (nI g)), some (.int (nI c)), some (.int (jb (manyI drawn M g c k))), some (.int (nI k))] []) (r) (fun k hi36 ih36 => ?_) ?_
            · intro hs
              refine j_iload hE dX6_placesMany_36 rfl ?_
              refine j_iload_n hE (i := 2) dX6_placesMany_38 rfl rfl ?_
              refine j_ic_geN hE (tgt := 77) dX6_placesMany_39 (by decide) (by omega) (by omega) (fun h39 => ?_) (fun h39 => ?_)
              · exfalso; omega
              · refine j_iload hE dX6_placesMany_42 rfl ?_
                refine j_if_eq hE (tgt := 68) dX6_placesMany_44 (by decide) (fun h44 => ?_) (fun h44 => ?_)
                · have q9 : jb (manyI drawn M g c (k + 1)) = nI 0 := by
                    first
                      | (have h1 := jb_eq h44; simp [manyI, h1, jb])
                      | (have h2 := jb_eq h61; simp [manyI, h2, jb])
                  refine j_iconst hE (v := nI 0) dX6_placesMany_68 (by decide) ?_
                  refine j_ist6 hE dX6_placesMany_69 (by decide) rfl ?_
                  refine j_incN7 hE dX6_placesMany_71 (by decide) rfl ?_
                  refine j_goto hE (tgt := 36) dX6_placesMany_74 (by decide) ?_
                  have e9 : jb (manyI drawn M g c (k + 1)) = nI _ := q9
                  rw [← e9]
                  exact ih36 _
                · refine j_aload_n hE (i := 0) dX6_placesMany_47 rfl rfl ?_
                  refine j_iload hE dX6_placesMany_48 rfl ?_
                  refine j_iload hE dX6_placesMany_50 rfl ?_
                  refine j_iload hE dX6_placesMany_52 rfl ?_
                  refine j_imulN hE dX6_placesMany_54 ?_
                  refine j_iaddN hE dX6_placesMany_55 ?_
                  refine j_iconst hE (v := nI 0) dX6_placesMany_56 (by decide) ?_
                  refine j_iconst hE (v := nI 1) dX6_placesMany_57 (by decide) ?_
                  refine j_cVi hE mlX6_47 gB_0 (fun l hl => c_X6_isFree hl K F h0 _ _ _ _ _ _ _ M M hM hM9 0 1 _ (Nat.mul_one M).symm (by omega) (col_lt (by omega) (by omega) hg |> fun q => by omega) (by omega)) rfl rfl (Nat.le_of_ble_eq_true rfl) (by decide) (by decide) (by omega) (by omega) dX6_placesMany_58 (fun r G9 hs9 hp => ?_) (fun _ _ h => h.elim)
                  obtain ⟨rfl, rfl⟩ := hp
                  refine j_if_eq hE (tgt := 68) dX6_placesMany_61 (by decide) (fun h61 => ?_) (fun h61 => ?_)
                  · have q9 : jb (manyI drawn M g c (k + 1)) = nI 0 := by
                      first
                        | (have h1 := jb_eq h44; simp [manyI, h1, jb])
                        | (have h2 := jb_eq h61; simp [manyI, h2, jb])
                    refine j_iconst hE (v := nI 0) dX6_placesMany_68 (by decide) ?_
                    refine j_ist6 hE dX6_placesMany_69 (by decide) rfl ?_
                    refine j_incN7 hE dX6_placesMany_71 (by decide) rfl ?_
                    refine j_goto hE (tgt := 36) dX6_placesMany_74 (by decide) ?_
                    have e9 : jb (manyI drawn M g c (k + 1)) = nI _ := q9
                    rw [← e9]
                    exact ih36 _
                  · have q9 : jb (manyI drawn M g c (k + 1)) = nI 1 := by
                      have h1 := jb_ne h44
                      have h2 := jb_ne h61
                      simp [manyI, h1, h2, jb]
                    refine j_iconst hE (v := nI 1) dX6_placesMany_64 (by decide) ?_
                    refine j_goto hE (tgt := 69) dX6_placesMany_65 (by decide) ?_
                    refine j_ist6 hE dX6_placesMany_69 (by decide) rfl ?_
                    refine j_incN7 hE dX6_placesMany_71 (by decide) rfl ?_
                    refine j_goto hE (tgt := 36) dX6_placesMany_74 (by decide) ?_
                    have e9 : jb (manyI drawn M g c (k + 1)) = nI _ := q9
                    rw [← e9]
                    exact ih36 _
            · intro hs
              refine j_iload hE dX6_placesMany_36 rfl ?_
              refine j_iload_n hE (i := 2) dX6_placesMany_38 rfl rfl ?_
              refine j_ic_geN hE (tgt := 77) dX6_placesMany_39 (by decide) (by omega) (by omega) (fun h39 => ?_) (fun h39 => ?_)
              · refine j_iload hE dX6_placesMany_77 rfl ?_
                refine j_if_eq hE (tgt := 114) dX6_placesMany_79 (by decide) (fun h79 => ?_) (fun h79 => ?_)
                · refine j_incN5 hE dX6_placesMany_114 (by decide) rfl ?_
                  refine j_goto hE (tgt := 17) dX6_placesMany_117 (by decide) ?_
                  exact ih17 _ _ _
                · exact absurd (jb_ne h79) (by rw [hno9]; decide)
              · exfalso; omega
          exact key36 0 (by omega) _
    · intro hs
      intro a6 a7
      refine j_iload hE dX6_placesMany_17 rfl ?_
      refine j_iload hE dX6_placesMany_19 rfl ?_
      refine j_ic_geN hE (tgt := 120) dX6_placesMany_21 (by decide) (by omega) (by omega) (fun h21 => ?_) (fun h21 => ?_)
      · refine j_iconst hE (v := nI 0) dX6_placesMany_120 (by decide) ?_
        refine j_iret hE hQ rfl (by omega) (by omega) dX6_placesMany_121 ?_
        exact ⟨_, rfl, rfl, rfl⟩
      · exfalso; omega
  exact key17 0 (by omega) _ _ _

set_option maxRecDepth 100000 in
set_option maxHeartbeats 4000000 in
theorem c_X6_placesMany_d {l : Launch} (hl : l.stackTraces = false) (K : jK) (F : GH) (h0 hs : Nat) (now past : Nat → Int32) (kept thrown : Int32) (drawn : Nat → Int32) (hash : Int64) (W M : Nat) (hW : now 0 = nI W) (hM : now 1 = nI M) (hW6 : 6 ≤ W) (hW9 : W ≤ 16) (hM9 : M ≤ 8) (p r : Nat) (hr1 : 1 ≤ r) (hr4 : r ≤ 4) (hdiv : (W - 3) % r ≠ 0) : Ct l K yX6_placesMany cX6_placesMany 8 (some .boolean) 1 25 0 0 [.ref h0, .int (nI p), .int (nI r)] (gB F h0 (mC K h0 now past kept thrown drawn hash)) hs (pI (fun z G' _ => z = nI 0 ∧ G' = (gB F h0 (mC K h0 now past kept thrown drawn hash)))) jno := by
  refine Ct.ofA hl (by decide) (Nat.le_of_ble_eq_true rfl) (L0 := [some (.ref h0), some (.int (nI p)), some (.int (nI r)), none, none, none, none, none]) (jL_of 5 rfl) ?_
  intro A E hE hQ hX hNm
  obtain ⟨g, hgd⟩ : ∃ g, g = (W - 3) / r := ⟨_, rfl⟩
  have hg : g * r ≤ W - 3 := by rw [hgd]; exact Nat.div_mul_le_self _ _
  have hg9 : g ≤ W - 3 := by rw [hgd]; exact Nat.div_le_self _ _
  have hm9 : (W - 3) % r < r := Nat.mod_lt _ (by omega)
  refine j_aload_n hE (i := 0) dX6_placesMany_0 rfl rfl ?_
  refine j_get hE flX6_7 gB_0 rfl dX6_placesMany_1 ?_
  refine j_iconst hE (v := nI 0) dX6_placesMany_4 (by decide) ?_
  refine j_iald hE gB_1 rfl (by omega) (by decide) dX6_placesMany_5 ?_
  rw [hW]
  refine j_iconst hE (v := nI 3) dX6_placesMany_6 (by decide) ?_
  refine j_isubN hE dX6_placesMany_7 (by omega) ?_
  refine j_ist3 hE dX6_placesMany_8 rfl (by decide) rfl ?_
  refine j_iload_n hE (i := 3) dX6_placesMany_9 rfl rfl ?_
  refine j_iload_n hE (i := 2) dX6_placesMany_10 rfl rfl ?_
  refine j_idivN hE dX6_placesMany_11 (by omega) (by omega) (by omega) ?_
  rw [← hgd]
  refine j_ist4 hE dX6_placesMany_12 (by decide) rfl ?_
  refine j_iconst hE (v := nI 0) dX6_placesMany_14 (by decide) ?_
  refine j_ist5 hE dX6_placesMany_15 (by decide) rfl ?_
  refine j_iload hE dX6_placesMany_17 rfl ?_
  refine j_iload hE dX6_placesMany_19 rfl ?_
  refine j_ic_geN hE (tgt := 120) dX6_placesMany_21 (by decide) (by omega) (by omega) (fun h21 => ?_) (fun h21 => ?_)
  · refine j_iconst hE (v := nI 0) dX6_placesMany_120 (by decide) ?_
    refine j_iret hE hQ rfl (by omega) (by omega) dX6_placesMany_121 ?_
    exact ⟨_, rfl, rfl, rfl⟩
  · refine j_iload_n hE (i := 3) dX6_placesMany_24 rfl rfl ?_
    refine j_iload_n hE (i := 2) dX6_placesMany_25 rfl rfl ?_
    refine j_iremN hE dX6_placesMany_26 (by omega) (by omega) (by omega) ?_
    refine j_if_neN hE (tgt := 120) dX6_placesMany_27 (by decide) (by omega) (fun h27 => ?_) (fun h27 => ?_)
    · refine j_iconst hE (v := nI 0) dX6_placesMany_120 (by decide) ?_
      refine j_iret hE hQ rfl (by omega) (by omega) dX6_placesMany_121 ?_
      exact ⟨_, rfl, rfl, rfl⟩
    · exfalso; omega

