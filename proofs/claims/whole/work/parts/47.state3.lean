/-! ===== the class: a new state ===== -/
theorem gB_one {G : GH} {a : Nat} {e : va_E} : gset G a e = gB G a [e] := by
  funext x
  by_cases hx : x = a
  · subst hx
    rw [gset_s, gB_0]
  · rw [gset_n hx, gB_out (by simp only [List.length_cons, List.length_nil]; omega)]
theorem gB_app {F : GH} {b a : Nat} {es fs : List va_E} (h : a = b + es.length) : gB (gB F b es) a fs = gB F b (es ++ fs) := by
  subst h
  funext x
  by_cases h1 : x < b ∨ b + (es ++ fs).length ≤ x
  · rw [gB_out (es := es ++ fs) h1]
    rw [List.length_append] at h1
    rw [gB_out (by omega), gB_out (by omega)]
  · rw [List.length_append] at h1
    have h2 : x - b < (es ++ fs).length := by rw [List.length_append]; omega
    have e1 : (es ++ fs)[x - b]? = some (es ++ fs)[x - b] := List.getElem?_eq_getElem h2
    have e2 := gB_at (F := F) (h0 := b) e1
    rw [show b + (x - b) = x by omega] at e2
    rw [e2]
    by_cases h3 : x < b + es.length
    · rw [gB_out (Or.inl h3)]
      rw [List.getElem?_append_left (by omega)] at e1
      have e3 := gB_at (F := F) (h0 := b) e1
      rwa [show b + (x - b) = x by omega] at e3
    · rw [List.getElem?_append_right (by omega)] at e1
      have e3 := gB_at (F := gB F b es) (h0 := b + es.length) (i := x - b - es.length) e1
      rwa [show b + es.length + (x - b - es.length) = x by omega] at e3
theorem paG_0 {K : jK} {F : GH} {a : Nat} {P : Nat → PaV} : paG K F a 0 P = F := by
  funext x
  exact paG_out (by omega)
theorem paG_push {K : jK} {F : GH} {a n : Nat} {P : Nat → PaV} : gB (paG K F a n P) (a + 3 * n) (paS K (a + 3 * n) (P n)) = paG K F a (n + 1) P := by
  funext x
  by_cases h1 : x < a + 3 * n ∨ a + 3 * n + 3 ≤ x
  · rw [gB_out (by simp only [List.length_cons, List.length_nil]; omega)]
    unfold paG
    by_cases h2 : a ≤ x ∧ x < a + 3 * n
    · rw [if_pos h2, if_pos (by omega)]
    · rw [if_neg h2, if_neg (by omega)]
  · obtain ⟨i, hi, rfl⟩ : ∃ i, i < 3 ∧ x = a + 3 * n + i := ⟨x - (a + 3 * n), by omega, by omega⟩
    rw [paG_at (by omega) hi]
    have e1 : (paS K (a + 3 * n) (P n))[i]? = some (paS K (a + 3 * n) (P n))[i] := List.getElem?_eq_getElem hi
    rw [e1]
    exact gB_at e1
theorem jnum {K : jK} {A : Nat → Prop} {E : jE} {nL : Nat} {G : GH} {hs cells slots hs' cells' slots' pc : Nat} {lo : List (Option Value)} {st : List Value} (e1 : hs = hs') (e2 : cells = cells') (e3 : slots = slots') (k : J K A E nL G hs' cells' slots' pc lo st) : J K A E nL G hs cells slots pc lo st := by
  subst e1 e2 e3
  exact k
def pFk (b i : Nat) : Nat → Option Nat := fun j => if j < i then some (b + 9 + 3 * j) else none
theorem pFk_0 (b : Nat) : (fun _ => none) = pFk b 0 := by
  funext j
  exact (if_neg (by omega)).symm
theorem pFk_s (b i : Nat) : va_up (pFk b i) i (some (b + 9 + 3 * i)) = pFk b (i + 1) := by
  funext j
  by_cases h : j = i
  · subst h
    rw [va_up_self]
    exact (if_pos (by omega)).symm
  · rw [va_up_ne _ _ h]
    by_cases h2 : j < i
    · exact (if_pos h2).trans (if_pos (by omega)).symm
    · exact (if_neg h2).trans (if_neg (by omega)).symm
abbrev stI (K : jK) (b i : Nat) : List va_E :=
  [.inr (4, [.ref (b + 1), .ref (b + 3), .int (nI 0), .int (nI 0), .ref (b + 4), .ref (b + 6), .int (nI 0)]), .inr (1, [.int (nI 8), .int (nI 4), .int (jb false), .int (nI 0), .ref (b + 1 + 1)]), iA K 128 (fun _ => 0), pA K 12 (pFk b i), .inr (0, [.ref (b + 4 + 1), .int (nI 0)]), iA K 2048 (fun _ => 0), .inr (3, [.int (nI 0), .int (nI 0), .ref (b + 6 + 1), .ref (b + 6 + 2), .int (nI 0), .int (nI 0)]), iA K 6 (fun _ => 0), iA K 16 (fun _ => 0)]
abbrev rcZ : RcV := (nI 0, nI 0, fun _ => 0, fun _ => 0, 0, nI 0)
set_option maxRecDepth 100000 in
set_option maxHeartbeats 4000000 in
theorem c_X4_init {l : Launch} (hl : l.stackTraces = false) (K : jK) (F : GH) (b : Nat) : Ct l K yX4_init cX4_init 2 none 2 32 44 2415 [.ref b] (gB F b [.inr (4, [.null, .null, .int 0, .int 0, .null, .null, .int 0])]) (b + 1) (pV (fun G' hs' => G' = stG K F b 8 4 false 0 (fun _ => 0) (fun _ => paZ) 0 0 (fun _ => 0) 0 rcZ 0 ∧ hs' = b + 45)) jno := by
  refine Ct.ofA hl (by decide) (Nat.le_of_ble_eq_true rfl) (L0 := [some (.ref b), none]) (jL_of 1 rfl) ?_
  intro A E hE hQ hX hNm
  refine j_aload_n hE (i := 0) dX4_init_0 rfl rfl ?_
  refine j_obj hE tw_29 tw_22 tw_23 (by decide) (Nat.le_of_ble_eq_true rfl) dX4_init_1 ?_
  refine j_aload_n hE (i := 0) dX4_init_4 rfl rfl ?_
  refine j_new hE mkX4_9 (by omega) (by omega) dX4_init_5 ?_
  rw [gB_one]
  refine j_dup hE dX4_init_8 rfl ?_
  refine j_cIN hE mlX4_11 (fun l hl => c_X1_init hl K _ (b + 1)) rfl rfl (Nat.le_of_ble_eq_true rfl) (by decide) (by decide) (by omega) (by omega) dX4_init_9 (fun G9 hs9 hp => ?_)
  obtain ⟨hp, hq⟩ := hp
  have hp9 := hp.trans (gB_app (by simp only [List.length_cons, List.length_nil]))
  subst hp9
  have hq9 : hs9 = b + 3 := by omega
  subst hq9
  simp only [List.cons_append, List.nil_append]
  refine b_putF0 hE hNm rfl flX4_12 rfl rfl dX4_init_12 ?_
  refine j_aload_n hE (i := 0) dX4_init_15 rfl rfl ?_
  refine j_bipush hE (v := nI 12) dX4_init_16 (by decide) ?_
  refine j_newq 1 (fun _ => rfl) (fun q => q.2.2.2.2.2.1) hE (N := 12) rfl (by decide) tw_60 (by omega) (by omega) dX4_init_18 ?_
  rw [gB_push (by simp only [List.length_cons, List.length_nil])]
  simp only [List.cons_append, List.nil_append]
  refine b_putF1 hE hNm rfl flX4_20 rfl rfl dX4_init_21 ?_
  refine j_aload_n hE (i := 0) dX4_init_24 rfl rfl ?_
  refine j_iconst hE (v := nI 0) dX4_init_25 (by decide) ?_
  refine b_put2 hE flX4_24 rfl rfl dX4_init_26 ?_
  refine j_aload_n hE (i := 0) dX4_init_29 rfl rfl ?_
  refine j_iconst hE (v := nI 0) dX4_init_30 (by decide) ?_
  refine b_put3 hE flX4_28 rfl rfl dX4_init_31 ?_
  refine j_aload_n hE (i := 0) dX4_init_34 rfl rfl ?_
  refine j_new hE mkX4_31 (by omega) (by omega) dX4_init_35 ?_
  rw [gB_one]
  refine j_dup hE dX4_init_38 rfl ?_
  refine j_cIN hE mlX4_33 (fun l hl => c_X0_init hl K _ (b + 4)) rfl rfl (Nat.le_of_ble_eq_true rfl) (by decide) (by decide) (by omega) (by omega) dX4_init_39 (fun G9 hs9 hp => ?_)
  obtain ⟨hp, hq⟩ := hp
  have hp9 := hp.trans (gB_app (by simp only [List.length_cons, List.length_nil]))
  subst hp9
  have hq9 : hs9 = b + 6 := by omega
  subst hq9
  simp only [List.cons_append, List.nil_append]
  refine b_putF4 hE hNm rfl flX4_34 rfl rfl dX4_init_42 ?_
  refine j_aload_n hE (i := 0) dX4_init_45 rfl rfl ?_
  refine j_new hE mkX4_38 (by omega) (by omega) dX4_init_46 ?_
  rw [gB_one]
  refine j_dup hE dX4_init_49 rfl ?_
  refine j_cIN hE mlX4_40 (fun l hl => c_X3_init hl K _ (b + 6)) rfl rfl (Nat.le_of_ble_eq_true rfl) (by decide) (by decide) (by omega) (by omega) dX4_init_50 (fun G9 hs9 hp => ?_)
  obtain ⟨hp, hq⟩ := hp
  have hp9 := hp.trans (gB_app (by simp only [List.length_cons, List.length_nil]))
  subst hp9
  have hq9 : hs9 = b + 9 := by omega
  subst hq9
  simp only [List.cons_append, List.nil_append]
  refine b_putF5 hE hNm rfl flX4_41 rfl rfl dX4_init_53 ?_
  refine j_aload_n hE (i := 0) dX4_init_56 rfl rfl ?_
  refine j_iconst hE (v := nI 0) dX4_init_57 (by decide) ?_
  refine b_put6 hE flX4_45 rfl rfl dX4_init_58 ?_
  refine j_iconst hE (v := nI 0) dX4_init_61 (by decide) ?_
  refine j_ist1 hE dX4_init_62 rfl (by decide) rfl ?_
  have key63 : ∀ i, i ≤ 12 → ∀ hs : Nat, J K A E 2 (gB (paG K F (b + 9) i (fun _ => paZ)) b (stI K b i)) (b + 9 + 3 * i) (8 + 3 * i) (2223 + 16 * i) 63 [some (.ref b), some (.int (nI i))] [] := by
    refine dloop (fun i => ∀ hs : Nat, J K A E 2 (gB (paG K F (b + 9) i (fun _ => paZ)) b (stI K b i)) (b + 9 + 3 * i) (8 + 3 * i) (2223 + 16 * i) 63 [some (.ref b), some (.int (nI i))] []) (12) (fun i hi63 ih63 => ?_) ?_
    · intro hs
      refine j_iload_n hE (i := 1) dX4_init_63 rfl rfl ?_
      refine j_aload_n hE (i := 0) dX4_init_64 rfl rfl ?_
      refine j_get hE flX4_20 gB_0 rfl dX4_init_65 ?_
      refine j_alenP hE gB_3 dX4_init_68 ?_
      refine j_ic_geN hE (tgt := 91) dX4_init_69 (by decide) (by omega) (by omega) (fun h69 => ?_) (fun h69 => ?_)
      · exfalso; omega
      · refine j_aload_n hE (i := 0) dX4_init_72 rfl rfl ?_
        refine j_get hE flX4_20 gB_0 rfl dX4_init_73 ?_
        refine j_iload_n hE (i := 1) dX4_init_76 rfl rfl ?_
        refine j_new hE mkX4_18 (by omega) (by omega) dX4_init_77 ?_
        rw [gB_one]
        refine j_dup hE dX4_init_80 rfl ?_
        refine j_cIN hE mlX4_48 (fun l hl => c_X2_init hl K _ _) rfl rfl (Nat.le_of_ble_eq_true rfl) (by decide) (by decide) (by omega) (by omega) dX4_init_81 (fun G9 hs9 hp => ?_)
        obtain ⟨hp, hq⟩ := hp
        have hp9 := hp.trans ((gB_comm (by simp only [List.length_cons, List.length_nil]; omega)).trans (congrArg (fun q => gB q b _) (paG_push (P := fun _ => paZ))))
        subst hp9
        subst hq
        refine j_astq 1 2 (fun _ => rfl) ⟨TX2, 10, rfl⟩ hE gB_3 (j := i) ((gB_out (by simp only [List.length_cons, List.length_nil]; omega)).trans (paG_at (j := i) (i := 0) (by omega) (by omega))) rfl (by omega) (by decide) dX4_init_84 ?_
        rw [gB_set (i := 3) (by simp), pFk_s]
        simp only [List.set_cons_succ, List.set_cons_zero]
        refine j_incN1 hE dX4_init_85 (by decide) rfl ?_
        refine j_goto hE (tgt := 63) dX4_init_88 (by decide) ?_
        exact jnum (by omega) (by omega) (by omega) (ih63 0)
    · intro hs
      refine j_iload_n hE (i := 1) dX4_init_63 rfl rfl ?_
      refine j_aload_n hE (i := 0) dX4_init_64 rfl rfl ?_
      refine j_get hE flX4_20 gB_0 rfl dX4_init_65 ?_
      refine j_alenP hE gB_3 dX4_init_68 ?_
      refine j_ic_geN hE (tgt := 91) dX4_init_69 (by decide) (by omega) (by omega) (fun h69 => ?_) (fun h69 => ?_)
      · refine j_vret hE hQ (by omega) (by omega) dX4_init_91 ?_
        exact ⟨rfl, rfl, rfl⟩
      · exfalso; omega
  have q9 := key63 0 (by omega) 0
  rw [paG_0] at q9
  unfold stI at q9
  rw [← pFk_0] at q9
  exact q9

