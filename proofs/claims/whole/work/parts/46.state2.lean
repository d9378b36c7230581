/-! ===== the class: a state's methods ===== -/
def oI (x : Int32) : Nat := x.toInt.toNat
theorem oI_nI {j : Nat} (h : j < 2 ^ 31) : oI (nI j) = j := by
  unfold oI
  rw [nI_toInt h]
  rfl
abbrev isP (x : Int32) (pc : Nat) : Prop := 0 ≤ x ∧ x < nI pc
theorem isP_of {x : Int32} {pc : Nat} (h : isP x pc) (hp : pc ≤ 12) : ∃ j, j < pc ∧ x = nI j ∧ oI x = j := by
  obtain ⟨j, hj, rfl⟩ := nI_of (Int32.not_lt.mpr h.1)
  exact ⟨j, (nI_ltI hj (by omega)).mp h.2, rfl, oI_nI hj⟩
/-- what a word of a frame carries -/
def sV (P : Nat → PaV) (pc : Nat) (x : Int32) : Int32 := if isP x pc then (P (oI x)).2.1 else nI 85
def cW (v : Int32) (q : Nat) (bits : Nat → Int32) : Nat → Int32 := itr (cB v q) 8 bits
def sHd (nx nb : Nat) (bits : Nat → Int32) : Nat → Int32 := cW (nI nx) (nb + 8 + 8) (cW (nI 144) (nb + 8) (cW (nI 235) nb bits))
def sBd (ow : Nat → Int32) (P : Nat → PaV) (pc nx nb i : Nat) (bits : Nat → Int32) : Nat → Int32 := cW (sV P pc (ow (16 * nx + (3 + i)))) (nb + 24 + 8 * i) bits
def sNx (m nx : Nat) : Nat := if nx + 1 < m then nx + 1 else 0
/-- a sample taken -/
def pTk (v : PaV) (x : Int32) (md : Nat) : PaV :=
  if v.2.2.2.2.1 md ≤ x ∧ x ≤ v.2.2.2.2.2.1 md then (v.1, v.2.1, x, v.2.2.2.1 + nI 1, v.2.2.2.2.1, v.2.2.2.2.2.1, v.2.2.2.2.2.2.1, false, nI 0, v.2.2.2.2.2.2.2.2.2)
  else if v.2.2.2.2.2.2.2.2.1 + nI 1 < v.2.2.2.2.2.2.1 ∨ v.2.2.2.2.2.2.2.1 = true then (v.1, v.2.1, x, v.2.2.2.1 + nI 1, v.2.2.2.2.1, v.2.2.2.2.2.1, v.2.2.2.2.2.2.1, v.2.2.2.2.2.2.2.1, v.2.2.2.2.2.2.2.2.1 + nI 1, v.2.2.2.2.2.2.2.2.2)
  else (v.1, v.2.1, x, v.2.2.2.1 + nI 1, v.2.2.2.2.1, v.2.2.2.2.2.1, v.2.2.2.2.2.2.1, true, v.2.2.2.2.2.2.2.2.1 + nI 1, v.2.2.2.2.2.2.2.2.2 + nI 1)
theorem c_X2_takeSample {l : Launch} (hl : l.stackTraces = false) (K : jK) (F : GH) (h hs : Nat) (v : PaV) (x : Int32) (md : Nat) (hmd : md ≤ 2) : Ct l K yX2_takeSample cX2_takeSample 3 none 1 22 0 0 [.ref h, .int x, .int (nI md)] (gB F h (paS K h v)) hs (pV (fun G' _ => G' = gB F h (paS K h (pTk v x md)))) jno := by
  by_cases h1 : v.2.2.2.2.1 md ≤ x ∧ x ≤ v.2.2.2.2.2.1 md
  · rw [show pTk v x md = _ from if_pos h1]
    exact c_X2_takeSample_1 hl K F h hs _ _ _ _ _ _ _ _ _ _ x md hmd h1
  · by_cases h2 : v.2.2.2.2.2.2.2.2.1 + nI 1 < v.2.2.2.2.2.2.1 ∨ v.2.2.2.2.2.2.2.1 = true
    · rw [show pTk v x md = _ from (if_neg h1).trans (if_pos h2)]
      exact c_X2_takeSample_2 hl K F h hs _ _ _ _ _ _ _ _ _ _ x md hmd h1 h2
    · rw [show pTk v x md = _ from (if_neg h1).trans (if_neg h2)]
      exact c_X2_takeSample_3 hl K F h hs _ _ _ _ _ _ _ _ _ _ x md hmd h1 (fun q => h2 (Or.inl q)) (by
        cases q : v.2.2.2.2.2.2.2.1 with
        | false => rfl
        | true => exact absurd (Or.inr q) h2)
/-- a word of a frame delivered -/
def dW (ow : Nat → Int32) (pc md : Nat) (fm : Nat → Int32) (f k : Nat) (P : Nat → PaV) : Nat → PaV :=
  if isP (ow (16 * f + (3 + k))) pc then va_up P (oI (ow (16 * f + (3 + k)))) (pTk (P (oI (ow (16 * f + (3 + k))))) (fm (3 + k - 2)) md) else P
/-- a frame delivered: the receiver, the parameters -/
def dRc (m : Nat) (rc : RcV) : RcV := if oI (rc.2.2.2.1 0) < m then (rc.1, rc.2.1, upd rc.2.2.1 0 (rc.2.2.1 0 + nI 1), rc.2.2.2.1, rc.2.2.2.2.1, rc.2.2.2.2.2)
  else (rc.1, rc.2.1, upd (upd rc.2.2.1 0 (rc.2.2.1 0 + nI 1)) 1 (upd rc.2.2.1 0 (rc.2.2.1 0 + nI 1) 1 + nI 1), rc.2.2.2.1, rc.2.2.2.2.1, rc.2.2.2.2.2)
def dPa (w m : Nat) (ow : Nat → Int32) (pc md : Nat) (rc : RcV) (P : Nat → PaV) : Nat → PaV := if oI (rc.2.2.2.1 0) < m then itr (dW ow pc md rc.2.2.2.1 (oI (rc.2.2.2.1 0))) (w - 3) P else P
def tK (rc : RcV) (bit : Int32) (B : Nat) : RcV := rTk rc.1 rc.2.1 rc.2.2.1 rc.2.2.2.1 rc.2.2.2.2.1 rc.2.2.2.2.2 bit B
/-- a bit taken by a state -/
def tB (w m : Nat) (ow : Nat → Int32) (pc md : Nat) (bits : Nat → Int32) (i : Nat) (s : RcV × (Nat → PaV)) : RcV × (Nat → PaV) :=
  if rDo s.1.1 s.1.2.2.2.2.1 ((w - 2) * 8) = true then (dRc m (tK s.1 (bits i) ((w - 2) * 8)), dPa w m ow pc md (tK s.1 (bits i) ((w - 2) * 8)) s.2)
  else (tK s.1 (bits i) ((w - 2) * 8), s.2)
def pHv (v : PaV) (h : Int64) : Int64 := pHs v.1 v.2.1 v.2.2.1 v.2.2.2.1 v.2.2.2.2.1 v.2.2.2.2.2.1 v.2.2.2.2.2.2.1 v.2.2.2.2.2.2.2.1 v.2.2.2.2.2.2.2.2.1 v.2.2.2.2.2.2.2.2.2 h
def sHp (P : Nat → PaV) (i : Nat) (h : Int64) : Int64 := pHv (P i) h
def sHl (w m : Nat) (pl : Bool) (ow : Nat → Int32) (h : Int64) : Int64 := if pl then itr (lHs ow w) m (31 * h + 1) else 31 * h + 0
def sHs (w m : Nat) (pl : Bool) (ow : Nat → Int32) (P : Nat → PaV) (pc nx : Nat) (bits : Nat → Int32) (nb : Nat) (rc : RcV) (md : Nat) (z : Int64) : Int64 :=
  31 * itr (rH rc.2.2.1) 6 (31 * (31 * (itr (cH bits) nb (31 * (31 * (sHl w m pl ow (itr (sHp P) pc (31 * (31 * (31 * z + (nI w).toInt64) + (nI m).toInt64) + (nI pc).toInt64))) + (nI nx).toInt64) + (nI nb).toInt64)) + rc.1.toInt64) + rc.2.1.toInt64) + (nI md).toInt64
def cpV (v v2 : PaV) : PaV := (v2.1, v2.2.1, v2.2.2.1, v2.2.2.2.1, va_cpy v2.2.2.2.2.1 v.2.2.2.2.1 0 0 3, va_cpy v2.2.2.2.2.2.1 v.2.2.2.2.2.1 0 0 3, v2.2.2.2.2.2.2.1, v2.2.2.2.2.2.2.2.1, v2.2.2.2.2.2.2.2.2.1, v2.2.2.2.2.2.2.2.2.2)
def cpP (P2 : Nat → PaV) (i : Nat) (P : Nat → PaV) : Nat → PaV := va_up P i (cpV (P i) (P2 i))
def cpR (rc rc2 : RcV) : RcV := (rc2.1, rc2.2.1, va_cpy rc2.2.2.1 rc.2.2.1 0 0 6, va_cpy rc2.2.2.2.1 rc.2.2.2.1 0 0 16, rc2.2.2.2.2.1, rc2.2.2.2.2.2)
def paZ : PaV := (0, 0, 0, 0, fun _ => 0, fun _ => 0, 0, false, 0, 0)
set_option maxRecDepth 100000 in
set_option maxHeartbeats 4000000 in
theorem c_X4_restartLink {l : Launch} (hl : l.stackTraces = false) (K : jK) (F : GH) (b hs w m : Nat) (pl : Bool) (tk : Nat) (ow : Nat → Int32) (P : Nat → PaV) (pc nx : Nat) (bits : Nat → Int32) (nb : Nat) (rc : RcV) (md : Nat) : Ct l K yX4_restartLink cX4_restartLink 1 none 1 20 0 0 [.ref b] (stG K F b w m pl tk ow P pc nx bits nb rc md) hs (pV (fun G' _ => G' = (stG K F b w m false tk ow P pc 0 bits 0 (nI 0, nI 0, rc.2.2.1, rc.2.2.2.1, rc.2.2.2.2.1, nI 0) md))) jno := by
  refine Ct.ofA hl (by decide) (Nat.le_of_ble_eq_true rfl) (L0 := [some (.ref b)]) (jL_of 0 rfl) ?_
  intro A E hE hQ hX hNm
  refine j_aload_n hE (i := 0) dX4_restartLink_0 rfl rfl ?_
  refine j_get hE flX4_12 st_0 rfl dX4_restartLink_1 ?_
  refine j_iconst hE (v := nI 0) dX4_restartLink_4 (by decide) ?_
  refine j_put hE flX4_62 st_1 (by decide) (by decide) (by simp only [List.length_cons, List.length_nil]; omega) dX4_restartLink_5 ?_
  refine jeq (st_lf w m false tk) ?_
  refine j_aload_n hE (i := 0) dX4_restartLink_8 rfl rfl ?_
  refine j_get hE flX4_34 st_0 rfl dX4_restartLink_9 ?_
  refine j_iconst hE (v := nI 0) dX4_restartLink_12 (by decide) ?_
  refine j_put hE flX4_66 st_4 rfl rfl (by simp only [List.length_cons, List.length_nil]; omega) dX4_restartLink_13 ?_
  refine jeq (st_cs 0) ?_
  refine j_aload_n hE (i := 0) dX4_restartLink_16 rfl rfl ?_
  refine j_iconst hE (v := nI 0) dX4_restartLink_17 (by decide) ?_
  refine j_put hE flX4_28 st_0 rfl rfl (by simp only [List.length_cons, List.length_nil]; omega) dX4_restartLink_18 ?_
  refine jeq (st_set pc 0 md) ?_
  refine j_aload_n hE (i := 0) dX4_restartLink_21 rfl rfl ?_
  refine j_get hE flX4_41 st_0 rfl dX4_restartLink_22 ?_
  refine j_cVv hE mlX4_69 st_6 (fun l hl => Ct.at st_rc (c_X3_restart hl K _ (b + 6) _ _ _ _ _ _ _)) rfl rfl (Nat.le_of_ble_eq_true rfl) (by decide) (by decide) (by omega) (by omega) dX4_restartLink_25 (fun G9 hs9 hp => ?_) (fun _ _ h => h.elim)
  have hp9 := hp.trans (st_rc' (nI 0, nI 0, rc.2.2.1, rc.2.2.2.1, rc.2.2.2.2.1, nI 0))
  subst hp9
  refine j_vret hE hQ (by omega) (by omega) dX4_restartLink_28 ?_
  exact ⟨rfl, rfl⟩

set_option maxRecDepth 100000 in
set_option maxHeartbeats 4000000 in
theorem c_X4_isParameter {l : Launch} (hl : l.stackTraces = false) (K : jK) (F : GH) (b hs w m : Nat) (pl : Bool) (tk : Nat) (ow : Nat → Int32) (P : Nat → PaV) (pc nx : Nat) (bits : Nat → Int32) (nb : Nat) (rc : RcV) (md : Nat) (hpc : pc ≤ 12) (x : Int32) : Ct l K yX4_isParameter cX4_isParameter 2 (some .boolean) 0 0 0 0 [.ref b, .int x] (stG K F b w m pl tk ow P pc nx bits nb rc md) hs (pI (fun z9 G' _ => z9 = jb (decide (isP x pc)) ∧ G' = (stG K F b w m pl tk ow P pc nx bits nb rc md))) jno := by
  refine Ct.ofA hl (by decide) (Nat.le_of_ble_eq_true rfl) (L0 := [some (.ref b), some (.int x)]) (jL_of 0 rfl) ?_
  intro A E hE hQ hX hNm
  refine j_iload_n hE (i := 1) dX4_isParameter_0 rfl rfl ?_
  refine j_if_lt hE (tgt := 16) dX4_isParameter_1 (by decide) (fun h1 => ?_) (fun h1 => ?_)
  · refine j_iconst hE (v := nI 0) dX4_isParameter_16 (by decide) ?_
    refine j_iret hE hQ rfl (by omega) (by omega) dX4_isParameter_17 ?_
    refine ⟨_, rfl, ?_, rfl⟩
    first
      | exact (congrArg jb (decide_eq_true (p := isP x pc) (And.intro (Int32.not_lt.mp h1) (Int32.not_le.mp h9)))).symm
      | exact (congrArg jb (decide_eq_false (p := isP x pc) (fun q => absurd h1 (Int32.not_lt.mpr q.1)))).symm
      | exact (congrArg jb (decide_eq_false (p := isP x pc) (fun q => absurd q.2 (Int32.not_lt.mpr h9)))).symm
  · refine j_iload_n hE (i := 1) dX4_isParameter_4 rfl rfl ?_
    refine j_aload_n hE (i := 0) dX4_isParameter_5 rfl rfl ?_
    refine j_get hE flX4_24 st_0 rfl dX4_isParameter_6 ?_
    refine j_ic_ge hE (tgt := 16) dX4_isParameter_9 (by decide) (fun h9 => ?_) (fun h9 => ?_)
    · refine j_iconst hE (v := nI 0) dX4_isParameter_16 (by decide) ?_
      refine j_iret hE hQ rfl (by omega) (by omega) dX4_isParameter_17 ?_
      refine ⟨_, rfl, ?_, rfl⟩
      first
        | exact (congrArg jb (decide_eq_true (p := isP x pc) (And.intro (Int32.not_lt.mp h1) (Int32.not_le.mp h9)))).symm
        | exact (congrArg jb (decide_eq_false (p := isP x pc) (fun q => absurd h1 (Int32.not_lt.mpr q.1)))).symm
        | exact (congrArg jb (decide_eq_false (p := isP x pc) (fun q => absurd q.2 (Int32.not_lt.mpr h9)))).symm
    · refine j_iconst hE (v := nI 1) dX4_isParameter_12 (by decide) ?_
      refine j_goto hE (tgt := 17) dX4_isParameter_13 (by decide) ?_
      refine j_iret hE hQ rfl (by omega) (by omega) dX4_isParameter_17 ?_
      refine ⟨_, rfl, ?_, rfl⟩
      first
        | exact (congrArg jb (decide_eq_true (p := isP x pc) (And.intro (Int32.not_lt.mp h1) (Int32.not_le.mp h9)))).symm
        | exact (congrArg jb (decide_eq_false (p := isP x pc) (fun q => absurd h1 (Int32.not_lt.mpr q.1)))).symm
        | exact (congrArg jb (decide_eq_false (p := isP x pc) (fun q => absurd q.2 (Int32.not_lt.mpr h9)))).symm

set_option maxRecDepth 100000 in
set_option maxHeartbeats 4000000 in
theorem c_X4_sendMinor {l : Launch} (hl : l.stackTraces = false) (K : jK) (F : GH) (b hs w m : Nat) (pl : Bool) (tk : Nat) (ow : Nat → Int32) (P : Nat → PaV) (pc nx : Nat) (bits : Nat → Int32) (nb : Nat) (rc : RcV) (md : Nat) (hpc : pc ≤ 12) (hw6 : 6 ≤ w) (hw9 : w ≤ 16) (hm9 : m ≤ 8) (hnx : nx < 8) (hnb : nb + 8 * w ≤ 2048) : Ct l K yX4_sendMinor cX4_sendMinor 3 none 1 23 0 0 [.ref b] (stG K F b w m pl tk ow P pc nx bits nb rc md) hs (pV (fun G' _ => G' = (stG K F b w m pl tk ow P pc (sNx m nx) (itr (sBd ow P pc nx nb) (w - 3) (sHd nx nb bits)) (nb + 24 + 8 * (w - 3)) rc md))) jno := by
  refine Ct.ofA hl (by decide) (Nat.le_of_ble_eq_true rfl) (L0 := [some (.ref b), none, none]) (jL_of 2 rfl) ?_
  intro A E hE hQ hX hNm
  refine j_aload_n hE (i := 0) dX4_sendMinor_0 rfl rfl ?_
  refine j_get hE flX4_34 st_0 rfl dX4_sendMinor_1 ?_
  refine j_sipush hE (v := nI 235) dX4_sendMinor_4 (by decide) ?_
  refine j_cVv hE mlX4_72 st_4 (fun l hl => Ct.at st_ch (c_X0_appendWord hl K _ (b + 4) _ _ _ (by omega) _)) rfl rfl (Nat.le_of_ble_eq_true rfl) (by decide) (by decide) (by omega) (by omega) dX4_sendMinor_7 (fun G9 hs9 hp => ?_) (fun _ _ h => h.elim)
  have hp9 := hp.trans (st_ch' _ _)
  subst hp9
  refine j_aload_n hE (i := 0) dX4_sendMinor_10 rfl rfl ?_
  refine j_get hE flX4_34 st_0 rfl dX4_sendMinor_11 ?_
  refine j_sipush hE (v := nI 144) dX4_sendMinor_14 (by decide) ?_
  refine j_cVv hE mlX4_72 st_4 (fun l hl => Ct.at st_ch (c_X0_appendWord hl K _ (b + 4) _ _ _ (by omega) _)) rfl rfl (Nat.le_of_ble_eq_true rfl) (by decide) (by decide) (by omega) (by omega) dX4_sendMinor_17 (fun G9 hs9 hp => ?_) (fun _ _ h => h.elim)
  have hp9 := hp.trans (st_ch' _ _)
  subst hp9
  refine j_aload_n hE (i := 0) dX4_sendMinor_20 rfl rfl ?_
  refine j_get hE flX4_34 st_0 rfl dX4_sendMinor_21 ?_
  refine j_aload_n hE (i := 0) dX4_sendMinor_24 rfl rfl ?_
  refine j_get hE flX4_28 st_0 rfl dX4_sendMinor_25 ?_
  refine j_cVv hE mlX4_72 st_4 (fun l hl => Ct.at st_ch (c_X0_appendWord hl K _ (b + 4) _ _ _ (by omega) _)) rfl rfl (Nat.le_of_ble_eq_true rfl) (by decide) (by decide) (by omega) (by omega) dX4_sendMinor_28 (fun G9 hs9 hp => ?_) (fun _ _ h => h.elim)
  have hp9 := hp.trans (st_ch' _ _)
  subst hp9
  refine j_iconst hE (v := nI 3) dX4_sendMinor_31 (by decide) ?_
  refine j_ist1 hE dX4_sendMinor_32 rfl (by decide) rfl ?_
  have key33 : ∀ i, i ≤ w - 3 → ∀ hs, ∀ q9 : Option Value, J K A E 3 (stG K F b w m pl tk ow P pc nx (itr (sBd ow P pc nx nb) i (sHd nx nb bits)) (nb + 24 + 8 * i) rc md) hs 0 0 33 [some (.ref b), some (.int (nI (3 + i))), q9] [] := by
    refine dloop (fun i => ∀ hs, ∀ q9 : Option Value, J K A E 3 (stG K F b w m pl tk ow P pc nx (itr (sBd ow P pc nx nb) i (sHd nx nb bits)) (nb + 24 + 8 * i) rc md) hs 0 0 33 [some (.ref b), some (.int (nI (3 + i))), q9] []) (w - 3) (fun i hi33 ih33 => ?_) ?_
    · intro hs
      intro q9
      refine j_iload_n hE (i := 1) dX4_sendMinor_33 rfl rfl ?_
      refine j_aload_n hE (i := 0) dX4_sendMinor_34 rfl rfl ?_
      refine j_get hE flX4_12 st_0 rfl dX4_sendMinor_35 ?_
      refine j_get hE flX4_76 st_1 rfl dX4_sendMinor_38 ?_
      refine j_ic_geN hE (tgt := 92) dX4_sendMinor_41 (by decide) (by omega) (by omega) (fun h41 => ?_) (fun h41 => ?_)
      · exfalso; omega
      · refine j_aload_n hE (i := 0) dX4_sendMinor_44 rfl rfl ?_
        refine j_get hE flX4_12 st_0 rfl dX4_sendMinor_45 ?_
        refine j_aload_n hE (i := 0) dX4_sendMinor_48 rfl rfl ?_
        refine j_get hE flX4_28 st_0 rfl dX4_sendMinor_49 ?_
        refine j_iload_n hE (i := 1) dX4_sendMinor_52 rfl rfl ?_
        refine j_cVi hE mlX4_79 st_1 (fun l hl => Ct.at st_ly (c_X1_ownerAt hl K _ (b + 1) _ _ _ _ _ _ _ _ (by omega) (by omega))) rfl rfl (Nat.le_of_ble_eq_true rfl) (by decide) (by decide) (by omega) (by omega) dX4_sendMinor_53 (fun r G9 hs9 hp => ?_) (fun _ _ h => h.elim)
        obtain ⟨rfl, hp⟩ := hp
        have hp9 := hp.trans st_ly
        subst hp9
        refine j_ist2 hE dX4_sendMinor_56 rfl (by decide) rfl ?_
        refine j_aload_n hE (i := 0) dX4_sendMinor_57 rfl rfl ?_
        refine j_get hE flX4_34 st_0 rfl dX4_sendMinor_58 ?_
        refine j_aload_n hE (i := 0) dX4_sendMinor_61 rfl rfl ?_
        refine j_iload_n hE (i := 2) dX4_sendMinor_62 rfl rfl ?_
        refine j_cVi hE mlX4_83 st_0 (fun l hl => c_X4_isParameter hl K _ _ _ _ _ _ _ _ _ _ _ _ _ _ _ (by omega) _) rfl rfl (Nat.le_of_ble_eq_true rfl) (by decide) (by decide) (by omega) (by omega) dX4_sendMinor_63 (fun r G9 hs9 hp => ?_) (fun _ _ h => h.elim)
        obtain ⟨rfl, rfl⟩ := hp
        refine j_if_eq hE (tgt := 81) dX4_sendMinor_66 (by decide) (fun h66 => ?_) (fun h66 => ?_)
        · have e7 : sV P pc (ow (16 * nx + (3 + i))) = nI 85 := if_neg (jbd_eq h66)
          refine j_bipush hE (v := nI 85) dX4_sendMinor_81 (by decide) ?_
          rw [← e7]
          refine j_cVv hE mlX4_72 st_4 (fun l hl => Ct.at st_ch (c_X0_appendWord hl K _ (b + 4) _ _ _ (by omega) _)) rfl rfl (Nat.le_of_ble_eq_true rfl) (by decide) (by decide) (by omega) (by omega) dX4_sendMinor_83 (fun G9 hs9 hp => ?_) (fun _ _ h => h.elim)
          have hp9 := hp.trans (st_ch' _ _)
          subst hp9
          refine j_incN1 hE dX4_sendMinor_86 (by decide) rfl ?_
          refine j_goto hE (tgt := 33) dX4_sendMinor_89 (by decide) ?_
          exact ih33 _ _
        · obtain ⟨j, hj, e8, e9⟩ := isP_of (jbd_ne h66) hpc
          have e7 : sV P pc (ow (16 * nx + (3 + i))) = (P j).2.1 := (if_pos (jbd_ne h66)).trans (by rw [e9])
          refine j_aload_n hE (i := 0) dX4_sendMinor_69 rfl rfl ?_
          refine j_get hE flX4_20 st_0 rfl dX4_sendMinor_70 ?_
          refine j_iload_n hE (i := 2) dX4_sendMinor_73 rfl rfl ?_
          refine j_par hE st_3 e8 (by omega) dX4_sendMinor_74 ?_
          refine j_get hE flX4_87 (st_p0 (by omega)) rfl dX4_sendMinor_75 ?_
          rw [← e7]
          refine j_goto hE (tgt := 83) dX4_sendMinor_78 (by decide) ?_
          refine j_cVv hE mlX4_72 st_4 (fun l hl => Ct.at st_ch (c_X0_appendWord hl K _ (b + 4) _ _ _ (by omega) _)) rfl rfl (Nat.le_of_ble_eq_true rfl) (by decide) (by decide) (by omega) (by omega) dX4_sendMinor_83 (fun G9 hs9 hp => ?_) (fun _ _ h => h.elim)
          have hp9 := hp.trans (st_ch' _ _)
          subst hp9
          refine j_incN1 hE dX4_sendMinor_86 (by decide) rfl ?_
          refine j_goto hE (tgt := 33) dX4_sendMinor_89 (by decide) ?_
          exact ih33 _ _
    · intro hs
      intro q9
      refine j_iload_n hE (i := 1) dX4_sendMinor_33 rfl rfl ?_
      refine j_aload_n hE (i := 0) dX4_sendMinor_34 rfl rfl ?_
      refine j_get hE flX4_12 st_0 rfl dX4_sendMinor_35 ?_
      refine j_get hE flX4_76 st_1 rfl dX4_sendMinor_38 ?_
      refine j_ic_geN hE (tgt := 92) dX4_sendMinor_41 (by decide) (by omega) (by omega) (fun h41 => ?_) (fun h41 => ?_)
      · refine j_aload_n hE (i := 0) dX4_sendMinor_92 rfl rfl ?_
        refine j_aload_n hE (i := 0) dX4_sendMinor_93 rfl rfl ?_
        refine j_get hE flX4_28 st_0 rfl dX4_sendMinor_94 ?_
        refine j_iconst hE (v := nI 1) dX4_sendMinor_97 (by decide) ?_
        refine j_iaddN hE dX4_sendMinor_98 ?_
        refine j_aload_n hE (i := 0) dX4_sendMinor_99 rfl rfl ?_
        refine j_get hE flX4_12 st_0 rfl dX4_sendMinor_100 ?_
        refine j_get hE flX4_90 st_1 rfl dX4_sendMinor_103 ?_
        refine j_ic_geN hE (tgt := 118) dX4_sendMinor_106 (by decide) (by omega) (by omega) (fun h106 => ?_) (fun h106 => ?_)
        · have e6 : sNx m nx = 0 := if_neg (by omega)
          refine j_iconst hE (v := nI 0) dX4_sendMinor_118 (by decide) ?_
          refine j_put hE flX4_28 st_0 rfl rfl (by simp only [List.length_cons, List.length_nil]; omega) dX4_sendMinor_119 ?_
          refine jeq (st_set pc _ md) ?_
          refine j_vret hE hQ (by omega) (by omega) dX4_sendMinor_122 ?_
          exact ⟨rfl, by rw [e6]⟩
        · have e6 : sNx m nx = nx + 1 := if_pos (by omega)
          refine j_aload_n hE (i := 0) dX4_sendMinor_109 rfl rfl ?_
          refine j_get hE flX4_28 st_0 rfl dX4_sendMinor_110 ?_
          refine j_iconst hE (v := nI 1) dX4_sendMinor_113 (by decide) ?_
          refine j_iaddN hE dX4_sendMinor_114 ?_
          refine j_goto hE (tgt := 119) dX4_sendMinor_115 (by decide) ?_
          refine j_put hE flX4_28 st_0 rfl rfl (by simp only [List.length_cons, List.length_nil]; omega) dX4_sendMinor_119 ?_
          refine jeq (st_set pc _ md) ?_
          refine j_vret hE hQ (by omega) (by omega) dX4_sendMinor_122 ?_
          exact ⟨rfl, by rw [e6]⟩
      · exfalso; omega
  exact key33 0 (by omega) _ _

set_option maxRecDepth 100000 in
set_option maxHeartbeats 4000000 in
theorem c_X4_deliver {l : Launch} (hl : l.stackTraces = false) (K : jK) (F : GH) (b hs w m : Nat) (pl : Bool) (tk : Nat) (ow : Nat → Int32) (P : Nat → PaV) (pc nx : Nat) (bits : Nat → Int32) (nb : Nat) (rc : RcV) (md : Nat) (hpc : pc ≤ 12) (hw6 : 6 ≤ w) (hw9 : w ≤ 16) (hm9 : m ≤ 8) (hmd : md ≤ 2) (f : Nat) (hf : rc.2.2.2.1 0 = nI f) (hf9 : f < 2 ^ 31) : Ct l K yX4_deliver cX4_deliver 4 none 2 44 0 0 [.ref b] (stG K F b w m pl tk ow P pc nx bits nb rc md) hs (pV (fun G' _ => G' = (stG K F b w m pl tk ow (dPa w m ow pc md rc P) pc nx bits nb (dRc m rc) md))) jno := by
  refine Ct.ofA hl (by decide) (Nat.le_of_ble_eq_true rfl) (L0 := [some (.ref b), none, none, none]) (jL_of 3 rfl) ?_
  intro A E hE hQ hX hNm
  have ef : oI (rc.2.2.2.1 0) = f := by rw [hf]; exact oI_nI hf9
  refine j_aload_n hE (i := 0) dX4_deliver_0 rfl rfl ?_
  refine j_get hE flX4_41 st_0 rfl dX4_deliver_1 ?_
  refine j_get hE flX4_107 st_6 rfl dX4_deliver_4 ?_
  refine j_iconst hE (v := nI 0) dX4_deliver_7 (by decide) ?_
  refine j_dup2 hE dX4_deliver_8 rfl rfl ?_
  refine j_iald hE st_7 rfl (by omega) (by decide) dX4_deliver_9 ?_
  refine j_iconst hE (v := nI 1) dX4_deliver_10 (by decide) ?_
  refine j_iadd hE dX4_deliver_11 ?_
  refine j_iast hE st_7 rfl (by omega) (by decide) dX4_deliver_12 ?_
  refine jeq (st_cn _) ?_
  refine j_aload_n hE (i := 0) dX4_deliver_13 rfl rfl ?_
  refine j_get hE flX4_41 st_0 rfl dX4_deliver_14 ?_
  refine j_get hE flX4_110 st_6 rfl dX4_deliver_17 ?_
  refine j_iconst hE (v := nI 0) dX4_deliver_20 (by decide) ?_
  refine j_iald hE st_8 rfl (by omega) (by decide) dX4_deliver_21 ?_
  rw [hf]
  refine j_ist1 hE dX4_deliver_22 rfl (by decide) rfl ?_
  refine j_iload_n hE (i := 1) dX4_deliver_23 rfl rfl ?_
  refine j_aload_n hE (i := 0) dX4_deliver_24 rfl rfl ?_
  refine j_get hE flX4_12 st_0 rfl dX4_deliver_25 ?_
  refine j_get hE flX4_90 st_1 rfl dX4_deliver_28 ?_
  refine j_ic_ltN hE (tgt := 48) dX4_deliver_31 (by decide) (by omega) (by omega) (fun h31 => ?_) (fun h31 => ?_)
  · have e6 : oI (rc.2.2.2.1 0) < m := by omega
    refine j_iconst hE (v := nI 3) dX4_deliver_48 (by decide) ?_
    refine j_ist2 hE dX4_deliver_49 rfl (by decide) rfl ?_
    have key50 : ∀ i, i ≤ w - 3 → ∀ hs, ∀ q9 : Option Value, J K A E 4 (stG K F b w m pl tk ow (itr (dW ow pc md rc.2.2.2.1 f) i P) pc nx bits nb (rc.1, rc.2.1, (upd rc.2.2.1 0 (rc.2.2.1 0 + nI 1)), rc.2.2.2.1, rc.2.2.2.2.1, rc.2.2.2.2.2) md) hs 0 0 50 [some (.ref b), some (.int (nI f)), some (.int (nI (3 + i))), q9] [] := by
      refine dloop (fun i => ∀ hs, ∀ q9 : Option Value, J K A E 4 (stG K F b w m pl tk ow (itr (dW ow pc md rc.2.2.2.1 f) i P) pc nx bits nb (rc.1, rc.2.1, (upd rc.2.2.1 0 (rc.2.2.1 0 + nI 1)), rc.2.2.2.1, rc.2.2.2.2.1, rc.2.2.2.2.2) md) hs 0 0 50 [some (.ref b), some (.int (nI f)), some (.int (nI (3 + i))), q9] []) (w - 3) (fun i hi50 ih50 => ?_) ?_
      · intro hs
        intro q9
        refine j_iload_n hE (i := 2) dX4_deliver_50 rfl rfl ?_
        refine j_aload_n hE (i := 0) dX4_deliver_51 rfl rfl ?_
        refine j_get hE flX4_12 st_0 rfl dX4_deliver_52 ?_
        refine j_get hE flX4_76 st_1 rfl dX4_deliver_55 ?_
        refine j_ic_geN hE (tgt := 109) dX4_deliver_58 (by decide) (by omega) (by omega) (fun h58 => ?_) (fun h58 => ?_)
        · exfalso; omega
        · refine j_aload_n hE (i := 0) dX4_deliver_61 rfl rfl ?_
          refine j_get hE flX4_12 st_0 rfl dX4_deliver_62 ?_
          refine j_iload_n hE (i := 1) dX4_deliver_65 rfl rfl ?_
          refine j_iload_n hE (i := 2) dX4_deliver_66 rfl rfl ?_
          refine j_cVi hE mlX4_79 st_1 (fun l hl => Ct.at st_ly (c_X1_ownerAt hl K _ (b + 1) _ _ _ _ _ _ _ _ (by omega) (by omega))) rfl rfl (Nat.le_of_ble_eq_true rfl) (by decide) (by decide) (by omega) (by omega) dX4_deliver_67 (fun r G9 hs9 hp => ?_) (fun _ _ h => h.elim)
          obtain ⟨rfl, hp⟩ := hp
          have hp9 := hp.trans st_ly
          subst hp9
          refine j_ist3 hE dX4_deliver_70 rfl (by decide) rfl ?_
          refine j_aload_n hE (i := 0) dX4_deliver_71 rfl rfl ?_
          refine j_iload_n hE (i := 3) dX4_deliver_72 rfl rfl ?_
          refine j_cVi hE mlX4_83 st_0 (fun l hl => c_X4_isParameter hl K _ _ _ _ _ _ _ _ _ _ _ _ _ _ _ (by omega) _) rfl rfl (Nat.le_of_ble_eq_true rfl) (by decide) (by decide) (by omega) (by omega) dX4_deliver_73 (fun r G9 hs9 hp => ?_) (fun _ _ h => h.elim)
          obtain ⟨rfl, rfl⟩ := hp
          refine j_if_eq hE (tgt := 103) dX4_deliver_76 (by decide) (fun h76 => ?_) (fun h76 => ?_)
          · have e7 : itr (dW ow pc md rc.2.2.2.1 f) (i + 1) P = itr (dW ow pc md rc.2.2.2.1 f) i P := if_neg (jbd_eq h76)
            rw [← e7]
            refine j_incN2 hE dX4_deliver_103 (by decide) rfl ?_
            refine j_goto hE (tgt := 50) dX4_deliver_106 (by decide) ?_
            exact ih50 _ _
          · obtain ⟨j, hj, e8, e9⟩ := isP_of (jbd_ne h76) hpc
            refine j_aload_n hE (i := 0) dX4_deliver_79 rfl rfl ?_
            refine j_get hE flX4_20 st_0 rfl dX4_deliver_80 ?_
            refine j_iload_n hE (i := 3) dX4_deliver_83 rfl rfl ?_
            refine j_par hE st_3 e8 (by omega) dX4_deliver_84 ?_
            refine j_aload_n hE (i := 0) dX4_deliver_85 rfl rfl ?_
            refine j_get hE flX4_41 st_0 rfl dX4_deliver_86 ?_
            refine j_get hE flX4_110 st_6 rfl dX4_deliver_89 ?_
            refine j_iload_n hE (i := 2) dX4_deliver_92 rfl rfl ?_
            refine j_iconst hE (v := nI 2) dX4_deliver_93 (by decide) ?_
            refine j_isubN hE dX4_deliver_94 (by omega) ?_
            refine j_iald hE st_8 rfl (by omega) (by decide) dX4_deliver_95 ?_
            refine j_aload_n hE (i := 0) dX4_deliver_96 rfl rfl ?_
            refine j_get hE flX4_45 st_0 rfl dX4_deliver_97 ?_
            refine j_cVv hE mlX4_113 (st_p0 (by omega)) (fun l hl => Ct.at (st_pa (j := j) (by omega)) (c_X2_takeSample hl K _ _ _ _ _ _ hmd)) rfl rfl (Nat.le_of_ble_eq_true rfl) (by decide) (by decide) (by omega) (by omega) dX4_deliver_100 (fun G9 hs9 hp => ?_) (fun _ _ h => h.elim)
            have hp9 := hp.trans (st_pa' (by omega) _)
            subst hp9
            have e7 : itr (dW ow pc md rc.2.2.2.1 f) (i + 1) P = va_up (itr (dW ow pc md rc.2.2.2.1 f) i P) j (pTk (itr (dW ow pc md rc.2.2.2.1 f) i P j) (rc.2.2.2.1 (3 + i - 2)) md) := (if_pos (jbd_ne h76)).trans (by rw [e9])
            rw [← e7]
            refine j_incN2 hE dX4_deliver_103 (by decide) rfl ?_
            refine j_goto hE (tgt := 50) dX4_deliver_106 (by decide) ?_
            exact ih50 _ _
      · intro hs
        intro q9
        refine j_iload_n hE (i := 2) dX4_deliver_50 rfl rfl ?_
        refine j_aload_n hE (i := 0) dX4_deliver_51 rfl rfl ?_
        refine j_get hE flX4_12 st_0 rfl dX4_deliver_52 ?_
        refine j_get hE flX4_76 st_1 rfl dX4_deliver_55 ?_
        refine j_ic_geN hE (tgt := 109) dX4_deliver_58 (by decide) (by omega) (by omega) (fun h58 => ?_) (fun h58 => ?_)
        · refine j_vret hE hQ (by omega) (by omega) dX4_deliver_109 ?_
          refine ⟨rfl, ?_⟩
          rw [show dRc m rc = _ from if_pos e6, show dPa w m ow pc md rc P = _ from if_pos e6, ef]
        · exfalso; omega
    exact key50 0 (by omega) _ _
  · have e6 : ¬ oI (rc.2.2.2.1 0) < m := by omega
    refine j_aload_n hE (i := 0) dX4_deliver_34 rfl rfl ?_
    refine j_get hE flX4_41 st_0 rfl dX4_deliver_35 ?_
    refine j_get hE flX4_107 st_6 rfl dX4_deliver_38 ?_
    refine j_iconst hE (v := nI 1) dX4_deliver_41 (by decide) ?_
    refine j_dup2 hE dX4_deliver_42 rfl rfl ?_
    refine j_iald hE st_7 rfl (by omega) (by decide) dX4_deliver_43 ?_
    refine j_iconst hE (v := nI 1) dX4_deliver_44 (by decide) ?_
    refine j_iadd hE dX4_deliver_45 ?_
    refine j_iast hE st_7 rfl (by omega) (by decide) dX4_deliver_46 ?_
    refine jeq (st_cn _) ?_
    refine j_vret hE hQ (by omega) (by omega) dX4_deliver_47 ?_
    refine ⟨rfl, ?_⟩
    rw [show dRc m rc = _ from if_neg e6, show dPa w m ow pc md rc P = P from if_neg e6]

set_option maxRecDepth 100000 in
set_option maxHeartbeats 4000000 in
theorem c_X4_takeBits {l : Launch} (hl : l.stackTraces = false) (K : jK) (F : GH) (b hs w m : Nat) (pl : Bool) (tk : Nat) (ow : Nat → Int32) (P : Nat → PaV) (pc nx : Nat) (bits : Nat → Int32) (nb : Nat) (rc : RcV) (md : Nat) (hpc : pc ≤ 12) (hw6 : 6 ≤ w) (hw9 : w ≤ 16) (hm9 : m ≤ 8) (hmd : md ≤ 2) (hnb : nb ≤ 2048) (c : Nat) (hc : c ≤ nb) (hok : ∀ i, i < c → (itr (tB w m ow pc md bits) i (rc, P)).1.2.2.2.2.1 ≤ 1000 ∧ ∃ f, (tK (itr (tB w m ow pc md bits) i (rc, P)).1 (bits i) ((w - 2) * 8)).2.2.2.1 0 = nI f ∧ f < 2 ^ 31) : Ct l K yX4_takeBits cX4_takeBits 4 none 4 86 0 0 [.ref b, .int (nI c)] (stG K F b w m pl tk ow P pc nx bits nb rc md) hs (pV (fun G' _ => G' = (stG K F b w m pl tk ow (itr (tB w m ow pc md bits) c (rc, P)).2 pc nx (va_cpy bits bits c 0 (nb - c)) (nb - c) (itr (tB w m ow pc md bits) c (rc, P)).1 md))) jno := by
  refine Ct.ofA hl (by decide) (Nat.le_of_ble_eq_true rfl) (L0 := [some (.ref b), some (.int (nI c)), none, none]) (jL_of 2 rfl) ?_
  intro A E hE hQ hX hNm
  refine j_aload_n hE (i := 0) dX4_takeBits_0 rfl rfl ?_
  refine j_get hE flX4_12 st_0 rfl dX4_takeBits_1 ?_
  refine j_get hE flX4_76 st_1 rfl dX4_takeBits_4 ?_
  refine j_iconst hE (v := nI 2) dX4_takeBits_7 (by decide) ?_
  refine j_isubN hE dX4_takeBits_8 (by omega) ?_
  refine j_bipush hE (v := nI 8) dX4_takeBits_9 (by decide) ?_
  refine j_imulN hE dX4_takeBits_11 ?_
  refine j_ist2 hE dX4_takeBits_12 rfl (by decide) rfl ?_
  refine j_iconst hE (v := nI 0) dX4_takeBits_13 (by decide) ?_
  refine j_ist3 hE dX4_takeBits_14 rfl (by decide) rfl ?_
  have key15 : ∀ i, i ≤ c → ∀ hs, J K A E 4 (stG K F b w m pl tk ow (itr (tB w m ow pc md bits) i (rc, P)).2 pc nx bits nb (itr (tB w m ow pc md bits) i (rc, P)).1 md) hs 0 0 15 [some (.ref b), some (.int (nI c)), some (.int (nI ((w - 2) * 8))), some (.int (nI i))] [] := by
    refine dloop (fun i => ∀ hs, J K A E 4 (stG K F b w m pl tk ow (itr (tB w m ow pc md bits) i (rc, P)).2 pc nx bits nb (itr (tB w m ow pc md bits) i (rc, P)).1 md) hs 0 0 15 [some (.ref b), some (.int (nI c)), some (.int (nI ((w - 2) * 8))), some (.int (nI i))] []) (c) (fun i hi15 ih15 => ?_) ?_
    · intro hs
      obtain ⟨hp0, f, hf, hf9⟩ := hok i hi15
      refine j_iload_n hE (i := 3) dX4_takeBits_15 rfl rfl ?_
      refine j_iload_n hE (i := 1) dX4_takeBits_16 rfl rfl ?_
      refine j_ic_geN hE (tgt := 50) dX4_takeBits_17 (by decide) (by omega) (by omega) (fun h17 => ?_) (fun h17 => ?_)
      · exfalso; omega
      · refine j_aload_n hE (i := 0) dX4_takeBits_20 rfl rfl ?_
        refine j_get hE flX4_41 st_0 rfl dX4_takeBits_21 ?_
        refine j_aload_n hE (i := 0) dX4_takeBits_24 rfl rfl ?_
        refine j_get hE flX4_34 st_0 rfl dX4_takeBits_25 ?_
        refine j_get hE flX4_93 st_4 rfl dX4_takeBits_28 ?_
        refine j_iload_n hE (i := 3) dX4_takeBits_31 rfl rfl ?_
        refine j_iald hE st_5 rfl (by omega) (by decide) dX4_takeBits_32 ?_
        refine j_iload_n hE (i := 2) dX4_takeBits_33 rfl rfl ?_
        refine j_cVi hE mlX4_97 st_6 (fun l hl => Ct.at st_rc (c_X3_takeBit hl K _ (b + 6) _ _ _ _ _ _ _ _ _ (by omega) (by omega))) rfl rfl (Nat.le_of_ble_eq_true rfl) (by decide) (by decide) (by omega) (by omega) dX4_takeBits_34 (fun r G9 hs9 hp => ?_) (fun _ _ h => h.elim)
        obtain ⟨rfl, hp⟩ := hp
        have hp9 := hp.trans (st_rc' _)
        subst hp9
        refine j_if_eq hE (tgt := 44) dX4_takeBits_37 (by decide) (fun h37 => ?_) (fun h37 => ?_)
        · have e7 : (itr (tB w m ow pc md bits) (i + 1) (rc, P)) = (tK (itr (tB w m ow pc md bits) i (rc, P)).1 (bits i) ((w - 2) * 8), (itr (tB w m ow pc md bits) i (rc, P)).2) := if_neg (by rw [jb_eq h37]; exact Bool.false_ne_true)
          refine j_incN3 hE dX4_takeBits_44 (by decide) rfl ?_
          refine j_goto hE (tgt := 15) dX4_takeBits_47 (by decide) ?_
          rw [e7] at ih15
          exact ih15 _
        · have e7 : (itr (tB w m ow pc md bits) (i + 1) (rc, P)) = (dRc m (tK (itr (tB w m ow pc md bits) i (rc, P)).1 (bits i) ((w - 2) * 8)), dPa w m ow pc md (tK (itr (tB w m ow pc md bits) i (rc, P)).1 (bits i) ((w - 2) * 8)) (itr (tB w m ow pc md bits) i (rc, P)).2) := if_pos (jb_ne h37)
          refine j_aload_n hE (i := 0) dX4_takeBits_40 rfl rfl ?_
          refine j_cVv hE mlX4_101 st_0 (fun l hl => c_X4_deliver hl K _ _ _ _ _ _ _ _ _ _ _ _ _ _ _ hpc hw6 hw9 hm9 hmd f hf hf9) rfl rfl (Nat.le_of_ble_eq_true rfl) (by decide) (by decide) (by omega) (by omega) dX4_takeBits_41 (fun G9 hs9 hp => ?_) (fun _ _ h => h.elim)
          subst hp
          refine j_incN3 hE dX4_takeBits_44 (by decide) rfl ?_
          refine j_goto hE (tgt := 15) dX4_takeBits_47 (by decide) ?_
          rw [e7] at ih15
          exact ih15 _
    · intro hs
      refine j_iload_n hE (i := 3) dX4_takeBits_15 rfl rfl ?_
      refine j_iload_n hE (i := 1) dX4_takeBits_16 rfl rfl ?_
      refine j_ic_geN hE (tgt := 50) dX4_takeBits_17 (by decide) (by omega) (by omega) (fun h17 => ?_) (fun h17 => ?_)
      · refine j_aload_n hE (i := 0) dX4_takeBits_50 rfl rfl ?_
        refine j_get hE flX4_34 st_0 rfl dX4_takeBits_51 ?_
        refine j_iload_n hE (i := 1) dX4_takeBits_54 rfl rfl ?_
        refine j_cVv hE mlX4_104 st_4 (fun l hl => Ct.at st_ch (c_X0_dropFirst hl K _ (b + 4) _ _ _ hnb c hc)) rfl rfl (Nat.le_of_ble_eq_true rfl) (by decide) (by decide) (by omega) (by omega) dX4_takeBits_55 (fun G9 hs9 hp => ?_) (fun _ _ h => h.elim)
        have hp9 := hp.trans (st_ch' _ _)
        subst hp9
        refine j_vret hE hQ (by omega) (by omega) dX4_takeBits_58 ?_
        exact ⟨rfl, rfl⟩
      · exfalso; omega
  exact key15 0 (by omega) _

theorem c_X1_mixInto {l : Launch} (hl : l.stackTraces = false) (K : jK) (F : GH) (h hs w m : Nat) (pl : Bool) (tk : Nat) (ow : Nat → Int32) (hw6 : 6 ≤ w) (hw9 : w ≤ 16) (hm9 : m ≤ 8) (z : Int64) : Ct l K yX1_mixInto cX1_mixInto 7 (some .long) 1 23 0 0 [.ref h, .long z] (gB F h (lyC K h w m pl tk ow)) hs (pL (fun z9 G' _ => z9 = sHl w m pl ow z ∧ G' = (gB F h (lyC K h w m pl tk ow)))) jno := by
  cases pl with
  | true => exact c_X1_mixInto_t hl K F h hs w m tk ow hw6 hw9 hm9 z
  | false => exact c_X1_mixInto_f hl K F h hs w m tk ow z
set_option maxRecDepth 100000 in
set_option maxHeartbeats 4000000 in
theorem c_X4_mixInto {l : Launch} (hl : l.stackTraces = false) (K : jK) (F : GH) (b hs w m : Nat) (pl : Bool) (tk : Nat) (ow : Nat → Int32) (P : Nat → PaV) (pc nx : Nat) (bits : Nat → Int32) (nb : Nat) (rc : RcV) (md : Nat) (hpc : pc ≤ 12) (hw6 : 6 ≤ w) (hw9 : w ≤ 16) (hm9 : m ≤ 8) (hnb : nb ≤ 2048) (z : Int64) : Ct l K yX4_mixInto cX4_mixInto 6 (some .long) 2 49 0 0 [.ref b, .long z] (stG K F b w m pl tk ow P pc nx bits nb rc md) hs (pL (fun z9 G' _ => z9 = sHs w m pl ow P pc nx bits nb rc md z ∧ G' = (stG K F b w m pl tk ow P pc nx bits nb rc md))) jno := by
  refine Ct.ofA hl (by decide) (Nat.le_of_ble_eq_true rfl) (L0 := [some (.ref b), some (.long z), none, none, none, none]) (jL_of 3 rfl) ?_
  intro A E hE hQ hX hNm
  refine j_lload_n hE (i := 1) dX4_mixInto_0 rfl rfl ?_
  refine j_aload_n hE (i := 0) dX4_mixInto_1 rfl rfl ?_
  refine j_get hE flX4_12 st_0 rfl dX4_mixInto_2 ?_
  refine j_get hE flX4_76 st_1 rfl dX4_mixInto_5 ?_
  refine j_i2l hE dX4_mixInto_8 ?_
  refine j_cNl hE mlX4_117 (fun l hl => c_X5_mix hl K _ _ _ _) rfl rfl (Nat.le_of_ble_eq_true rfl) (by decide) (by decide) (by omega) (by omega) dX4_mixInto_9 (fun r G9 hs9 hp => ?_)
  obtain ⟨rfl, rfl⟩ := hp
  refine j_lst3 hE dX4_mixInto_12 rfl (by decide) rfl ?_
  refine j_lload_n hE (i := 3) dX4_mixInto_13 rfl rfl ?_
  refine j_aload_n hE (i := 0) dX4_mixInto_14 rfl rfl ?_
  refine j_get hE flX4_12 st_0 rfl dX4_mixInto_15 ?_
  refine j_get hE flX4_90 st_1 rfl dX4_mixInto_18 ?_
  refine j_i2l hE dX4_mixInto_21 ?_
  refine j_cNl hE mlX4_117 (fun l hl => c_X5_mix hl K _ _ _ _) rfl rfl (Nat.le_of_ble_eq_true rfl) (by decide) (by decide) (by omega) (by omega) dX4_mixInto_22 (fun r G9 hs9 hp => ?_)
  obtain ⟨rfl, rfl⟩ := hp
  refine j_lst3 hE dX4_mixInto_25 rfl (by decide) rfl ?_
  refine j_lload_n hE (i := 3) dX4_mixInto_26 rfl rfl ?_
  refine j_aload_n hE (i := 0) dX4_mixInto_27 rfl rfl ?_
  refine j_get hE flX4_24 st_0 rfl dX4_mixInto_28 ?_
  refine j_i2l hE dX4_mixInto_31 ?_
  refine j_cNl hE mlX4_117 (fun l hl => c_X5_mix hl K _ _ _ _) rfl rfl (Nat.le_of_ble_eq_true rfl) (by decide) (by decide) (by omega) (by omega) dX4_mixInto_32 (fun r G9 hs9 hp => ?_)
  obtain ⟨rfl, rfl⟩ := hp
  refine j_lst3 hE dX4_mixInto_35 rfl (by decide) rfl ?_
  refine j_iconst hE (v := nI 0) dX4_mixInto_36 (by decide) ?_
  refine j_ist5 hE dX4_mixInto_37 (by decide) rfl ?_
  have key39 : ∀ i, i ≤ pc → ∀ hs, J K A E 6 (stG K F b w m pl tk ow P pc nx bits nb rc md) hs 0 0 39 [some (.ref b), some (.long z), none, some (.long (itr (sHp P) i (31 * (31 * (31 * z + (nI w).toInt64) + (nI m).toInt64) + (nI pc).toInt64))), none, some (.int (nI i))] [] := by
    refine dloop (fun i => ∀ hs, J K A E 6 (stG K F b w m pl tk ow P pc nx bits nb rc md) hs 0 0 39 [some (.ref b), some (.long z), none, some (.long (itr (sHp P) i (31 * (31 * (31 * z + (nI w).toInt64) + (nI m).toInt64) + (nI pc).toInt64))), none, some (.int (nI i))] []) (pc) (fun i hi39 ih39 => ?_) ?_
    · intro hs
      refine j_iload hE dX4_mixInto_39 rfl ?_
      refine j_aload_n hE (i := 0) dX4_mixInto_41 rfl rfl ?_
      refine j_get hE flX4_24 st_0 rfl dX4_mixInto_42 ?_
      refine j_ic_geN hE (tgt := 66) dX4_mixInto_45 (by decide) (by omega) (by omega) (fun h45 => ?_) (fun h45 => ?_)
      · exfalso; omega
      · refine j_aload_n hE (i := 0) dX4_mixInto_48 rfl rfl ?_
        refine j_get hE flX4_20 st_0 rfl dX4_mixInto_49 ?_
        refine j_iload hE dX4_mixInto_52 rfl ?_
        refine j_par hE st_3 rfl (by omega) dX4_mixInto_54 ?_
        refine j_lload_n hE (i := 3) dX4_mixInto_55 rfl rfl ?_
        refine j_cVl hE mlX4_121 (st_p0 (by omega)) (fun l hl => Ct.at (st_pa (j := i) (by omega)) (c_X2_mixInto hl K _ _ _ _ _ _ _ _ _ _ _ _ _ _)) rfl rfl (Nat.le_of_ble_eq_true rfl) (by decide) (by decide) (by omega) (by omega) dX4_mixInto_56 (fun r G9 hs9 hp => ?_) (fun _ _ h => h.elim)
        obtain ⟨rfl, hp⟩ := hp
        have hp9 := hp.trans (st_pa (by omega))
        subst hp9
        refine j_lst3 hE dX4_mixInto_59 rfl (by decide) rfl ?_
        refine j_incN5 hE dX4_mixInto_60 (by decide) rfl ?_
        refine j_goto hE (tgt := 39) dX4_mixInto_63 (by decide) ?_
        exact ih39 _
    · intro hs
      refine j_iload hE dX4_mixInto_39 rfl ?_
      refine j_aload_n hE (i := 0) dX4_mixInto_41 rfl rfl ?_
      refine j_get hE flX4_24 st_0 rfl dX4_mixInto_42 ?_
      refine j_ic_geN hE (tgt := 66) dX4_mixInto_45 (by decide) (by omega) (by omega) (fun h45 => ?_) (fun h45 => ?_)
      · refine j_aload_n hE (i := 0) dX4_mixInto_66 rfl rfl ?_
        refine j_get hE flX4_12 st_0 rfl dX4_mixInto_67 ?_
        refine j_lload_n hE (i := 3) dX4_mixInto_70 rfl rfl ?_
        refine j_cVl hE mlX4_125 st_1 (fun l hl => Ct.at st_ly (c_X1_mixInto hl K _ (b + 1) _ _ _ _ _ _ hw6 hw9 hm9 _)) rfl rfl (Nat.le_of_ble_eq_true rfl) (by decide) (by decide) (by omega) (by omega) dX4_mixInto_71 (fun r G9 hs9 hp => ?_) (fun _ _ h => h.elim)
        obtain ⟨rfl, hp⟩ := hp
        have hp9 := hp.trans st_ly
        subst hp9
        refine j_lst3 hE dX4_mixInto_74 rfl (by decide) rfl ?_
        refine j_lload_n hE (i := 3) dX4_mixInto_75 rfl rfl ?_
        refine j_aload_n hE (i := 0) dX4_mixInto_76 rfl rfl ?_
        refine j_get hE flX4_28 st_0 rfl dX4_mixInto_77 ?_
        refine j_i2l hE dX4_mixInto_80 ?_
        refine j_cNl hE mlX4_117 (fun l hl => c_X5_mix hl K _ _ _ _) rfl rfl (Nat.le_of_ble_eq_true rfl) (by decide) (by decide) (by omega) (by omega) dX4_mixInto_81 (fun r G9 hs9 hp => ?_)
        obtain ⟨rfl, rfl⟩ := hp
        refine j_lst3 hE dX4_mixInto_84 rfl (by decide) rfl ?_
        refine j_aload_n hE (i := 0) dX4_mixInto_85 rfl rfl ?_
        refine j_get hE flX4_34 st_0 rfl dX4_mixInto_86 ?_
        refine j_lload_n hE (i := 3) dX4_mixInto_89 rfl rfl ?_
        refine j_cVl hE mlX4_126 st_4 (fun l hl => Ct.at st_ch (c_X0_mixInto hl K _ (b + 4) _ _ _ hnb _)) rfl rfl (Nat.le_of_ble_eq_true rfl) (by decide) (by decide) (by omega) (by omega) dX4_mixInto_90 (fun r G9 hs9 hp => ?_) (fun _ _ h => h.elim)
        obtain ⟨rfl, hp⟩ := hp
        have hp9 := hp.trans st_ch
        subst hp9
        refine j_lst3 hE dX4_mixInto_93 rfl (by decide) rfl ?_
        refine j_aload_n hE (i := 0) dX4_mixInto_94 rfl rfl ?_
        refine j_get hE flX4_41 st_0 rfl dX4_mixInto_95 ?_
        refine j_lload_n hE (i := 3) dX4_mixInto_98 rfl rfl ?_
        refine j_cVl hE mlX4_127 st_6 (fun l hl => Ct.at st_rc (c_X3_mixInto hl K _ (b + 6) _ _ _ _ _ _ _ _)) rfl rfl (Nat.le_of_ble_eq_true rfl) (by decide) (by decide) (by omega) (by omega) dX4_mixInto_99 (fun r G9 hs9 hp => ?_) (fun _ _ h => h.elim)
        obtain ⟨rfl, hp⟩ := hp
        have hp9 := hp.trans st_rc
        subst hp9
        refine j_lst3 hE dX4_mixInto_102 rfl (by decide) rfl ?_
        refine j_lload_n hE (i := 3) dX4_mixInto_103 rfl rfl ?_
        refine j_aload_n hE (i := 0) dX4_mixInto_104 rfl rfl ?_
        refine j_get hE flX4_45 st_0 rfl dX4_mixInto_105 ?_
        refine j_i2l hE dX4_mixInto_108 ?_
        refine j_cNl hE mlX4_117 (fun l hl => c_X5_mix hl K _ _ _ _) rfl rfl (Nat.le_of_ble_eq_true rfl) (by decide) (by decide) (by omega) (by omega) dX4_mixInto_109 (fun r G9 hs9 hp => ?_)
        obtain ⟨rfl, rfl⟩ := hp
        refine j_lret hE hQ (by omega) (by omega) dX4_mixInto_112 ?_
        exact ⟨_, rfl, rfl, rfl⟩
      · exfalso; omega
  exact key39 0 (by omega) _

set_option maxRecDepth 100000 in
set_option maxHeartbeats 4000000 in
theorem c_X4_copyFrom {l : Launch} (hl : l.stackTraces = false) (K : jK) (F : GH) (b hs w m : Nat) (pl : Bool) (tk : Nat) (ow : Nat → Int32) (P : Nat → PaV) (pc nx : Nat) (bits : Nat → Int32) (nb : Nat) (rc : RcV) (md : Nat) (hnb : nb ≤ 2048) (o w2 m2 : Nat) (pl2 : Bool) (tk2 : Nat) (ow2 : Nat → Int32) (P2 : Nat → PaV) (pc2 nx2 : Nat) (bits2 : Nat → Int32) (nb2 : Nat) (rc2 : RcV) (md2 : Nat) (hpc2 : pc2 ≤ 12) (hnb2 : nb2 ≤ 2048) (ho : stG K F o w2 m2 pl2 tk2 ow2 P2 pc2 nx2 bits2 nb2 rc2 md2 = F) (hd : o + 45 ≤ b ∨ b + 45 ≤ o) : Ct l K yX4_copyFrom cX4_copyFrom 3 none 2 39 0 0 [.ref b, .ref o] (stG K F b w m pl tk ow P pc nx bits nb rc md) hs (pV (fun G' _ => G' = (stG K F b w2 m2 pl2 tk2 (va_cpy ow2 ow 0 0 128) (itr (cpP P2) pc2 P) pc2 nx2 (va_cpy bits2 bits 0 0 nb2) nb2 (cpR rc rc2) md2))) jno := by
  refine Ct.ofA hl (by decide) (Nat.le_of_ble_eq_true rfl) (L0 := [some (.ref b), some (.ref o), none]) (jL_of 1 rfl) ?_
  intro A E hE hQ hX hNm
  refine j_aload_n hE (i := 0) dX4_copyFrom_0 rfl rfl ?_
  refine j_get hE flX4_12 st_0 rfl dX4_copyFrom_1 ?_
  refine j_aload_n hE (i := 1) dX4_copyFrom_4 rfl rfl ?_
  refine j_get hE flX4_12 ((st_out (by omega)).trans ((congrFun ho _).symm.trans st_0)) rfl dX4_copyFrom_5 ?_
  refine j_cVv hE mlX4_49 st_1 (fun l hl => Ct.at st_ly (c_X1_copyFrom hl K _ (b + 1) _ _ _ _ _ _ (o + 1) _ _ _ _ _ ((st_out (by omega)).trans ((congrFun ho _).symm.trans st_1)) ((st_out (by omega)).trans ((congrFun ho _).symm.trans st_2)) (by omega))) rfl rfl (Nat.le_of_ble_eq_true rfl) (by decide) (by decide) (by omega) (by omega) dX4_copyFrom_8 (fun G9 hs9 hp => ?_) (fun _ _ h => h.elim)
  have hp9 := hp.trans (st_ly' _ _ _ _ _)
  subst hp9
  refine j_aload_n hE (i := 0) dX4_copyFrom_11 rfl rfl ?_
  refine j_aload_n hE (i := 1) dX4_copyFrom_12 rfl rfl ?_
  refine j_get hE flX4_24 ((st_out (by omega)).trans ((congrFun ho _).symm.trans st_0)) rfl dX4_copyFrom_13 ?_
  refine j_put hE flX4_24 st_0 rfl rfl (by simp only [List.length_cons, List.length_nil]; omega) dX4_copyFrom_16 ?_
  refine jeq (st_set pc2 nx md) ?_
  refine j_iconst hE (v := nI 0) dX4_copyFrom_19 (by decide) ?_
  refine j_ist2 hE dX4_copyFrom_20 rfl (by decide) rfl ?_
  have key21 : ∀ i, i ≤ pc2 → ∀ hs, J K A E 3 (stG K F b w2 m2 pl2 tk2 (va_cpy ow2 ow 0 0 128) (itr (cpP P2) i P) pc2 nx bits nb rc md) hs 0 0 21 [some (.ref b), some (.ref o), some (.int (nI i))] [] := by
    refine dloop (fun i => ∀ hs, J K A E 3 (stG K F b w2 m2 pl2 tk2 (va_cpy ow2 ow 0 0 128) (itr (cpP P2) i P) pc2 nx bits nb rc md) hs 0 0 21 [some (.ref b), some (.ref o), some (.int (nI i))] []) (pc2) (fun i hi21 ih21 => ?_) ?_
    · intro hs
      refine j_iload_n hE (i := 2) dX4_copyFrom_21 rfl rfl ?_
      refine j_aload_n hE (i := 0) dX4_copyFrom_22 rfl rfl ?_
      refine j_get hE flX4_24 st_0 rfl dX4_copyFrom_23 ?_
      refine j_ic_geN hE (tgt := 50) dX4_copyFrom_26 (by decide) (by omega) (by omega) (fun h26 => ?_) (fun h26 => ?_)
      · exfalso; omega
      · refine j_aload_n hE (i := 0) dX4_copyFrom_29 rfl rfl ?_
        refine j_get hE flX4_20 st_0 rfl dX4_copyFrom_30 ?_
        refine j_iload_n hE (i := 2) dX4_copyFrom_33 rfl rfl ?_
        refine j_par hE st_3 rfl (by omega) dX4_copyFrom_34 ?_
        refine j_aload_n hE (i := 1) dX4_copyFrom_35 rfl rfl ?_
        refine j_get hE flX4_20 ((st_out (by omega)).trans ((congrFun ho _).symm.trans st_0)) rfl dX4_copyFrom_36 ?_
        refine j_iload_n hE (i := 2) dX4_copyFrom_39 rfl rfl ?_
        refine j_par hE ((st_out (by omega)).trans ((congrFun ho _).symm.trans st_3)) rfl (by omega) dX4_copyFrom_40 ?_
        refine j_cVv hE mlX4_53 (st_p0 (by omega)) (fun l hl => Ct.at (st_pa (j := i) (by omega)) (c_X2_copyFrom hl K _ _ _ _ _ _ _ _ _ _ _ _ _ (o + 9 + 3 * i) _ _ _ _ _ _ _ _ _ _ ((st_out (by omega)).trans ((congrFun ho _).symm.trans (st_p0 (by omega)))) ((st_out (by omega)).trans ((congrFun ho _).symm.trans (st_p1 (by omega)))) ((st_out (by omega)).trans ((congrFun ho _).symm.trans (st_p2 (by omega)))) (by omega))) rfl rfl (Nat.le_of_ble_eq_true rfl) (by decide) (by decide) (by omega) (by omega) dX4_copyFrom_41 (fun G9 hs9 hp => ?_) (fun _ _ h => h.elim)
        have hp9 := hp.trans (st_pa' (by omega) (cpV (itr (cpP P2) i P i) (P2 i)))
        subst hp9
        refine j_incN2 hE dX4_copyFrom_44 (by decide) rfl ?_
        refine j_goto hE (tgt := 21) dX4_copyFrom_47 (by decide) ?_
        exact ih21 _
    · intro hs
      refine j_iload_n hE (i := 2) dX4_copyFrom_21 rfl rfl ?_
      refine j_aload_n hE (i := 0) dX4_copyFrom_22 rfl rfl ?_
      refine j_get hE flX4_24 st_0 rfl dX4_copyFrom_23 ?_
      refine j_ic_geN hE (tgt := 50) dX4_copyFrom_26 (by decide) (by omega) (by omega) (fun h26 => ?_) (fun h26 => ?_)
      · refine j_aload_n hE (i := 0) dX4_copyFrom_50 rfl rfl ?_
        refine j_aload_n hE (i := 1) dX4_copyFrom_51 rfl rfl ?_
        refine j_get hE flX4_28 ((st_out (by omega)).trans ((congrFun ho _).symm.trans st_0)) rfl dX4_copyFrom_52 ?_
        refine j_put hE flX4_28 st_0 rfl rfl (by simp only [List.length_cons, List.length_nil]; omega) dX4_copyFrom_55 ?_
        refine jeq (st_set pc2 nx2 md) ?_
        refine j_aload_n hE (i := 0) dX4_copyFrom_58 rfl rfl ?_
        refine j_get hE flX4_34 st_0 rfl dX4_copyFrom_59 ?_
        refine j_aload_n hE (i := 1) dX4_copyFrom_62 rfl rfl ?_
        refine j_get hE flX4_34 ((st_out (by omega)).trans ((congrFun ho _).symm.trans st_0)) rfl dX4_copyFrom_63 ?_
        refine j_cVv hE mlX4_56 st_4 (fun l hl => Ct.at st_ch (c_X0_copyFrom hl K _ (b + 4) _ _ _ hnb (o + 4) _ _ hnb2 ((st_out (by omega)).trans ((congrFun ho _).symm.trans st_4)) ((st_out (by omega)).trans ((congrFun ho _).symm.trans st_5)) (by omega))) rfl rfl (Nat.le_of_ble_eq_true rfl) (by decide) (by decide) (by omega) (by omega) dX4_copyFrom_66 (fun G9 hs9 hp => ?_) (fun _ _ h => h.elim)
        have hp9 := hp.trans (st_ch' _ _)
        subst hp9
        refine j_aload_n hE (i := 0) dX4_copyFrom_69 rfl rfl ?_
        refine j_get hE flX4_41 st_0 rfl dX4_copyFrom_70 ?_
        refine j_aload_n hE (i := 1) dX4_copyFrom_73 rfl rfl ?_
        refine j_get hE flX4_41 ((st_out (by omega)).trans ((congrFun ho _).symm.trans st_0)) rfl dX4_copyFrom_74 ?_
        refine j_cVv hE mlX4_59 st_6 (fun l hl => Ct.at st_rc (c_X3_copyFrom hl K _ (b + 6) _ _ _ _ _ _ _ (o + 6) _ _ _ _ _ _ ((st_out (by omega)).trans ((congrFun ho _).symm.trans st_6)) ((st_out (by omega)).trans ((congrFun ho _).symm.trans st_7)) ((st_out (by omega)).trans ((congrFun ho _).symm.trans st_8)) (by omega))) rfl rfl (Nat.le_of_ble_eq_true rfl) (by decide) (by decide) (by omega) (by omega) dX4_copyFrom_77 (fun G9 hs9 hp => ?_) (fun _ _ h => h.elim)
        have hp9 := hp.trans (st_rc' (cpR rc rc2))
        subst hp9
        refine j_aload_n hE (i := 0) dX4_copyFrom_80 rfl rfl ?_
        refine j_aload_n hE (i := 1) dX4_copyFrom_81 rfl rfl ?_
        refine j_get hE flX4_45 ((st_out (by omega)).trans ((congrFun ho _).symm.trans st_0)) rfl dX4_copyFrom_82 ?_
        refine j_put hE flX4_45 st_0 rfl rfl (by simp only [List.length_cons, List.length_nil]; omega) dX4_copyFrom_85 ?_
        refine jeq (st_set pc2 nx2 md2) ?_
        refine j_vret hE hQ (by omega) (by omega) dX4_copyFrom_88 ?_
        exact ⟨rfl, rfl⟩
      · exfalso; omega
  exact key21 0 (by omega) _

