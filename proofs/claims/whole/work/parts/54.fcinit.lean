/-! ===== the class: undo; a new object ===== -/
theorem qF_up {q : Nat → Nat} {j n : Nat} (hj : j < 4) : va_up (qF q) j (some n) = qF (va_up q j n) := by
  funext i
  by_cases e : i = j
  · subst e
    rw [va_up_self]
    unfold qF
    rw [if_pos hj, va_up_self]
  · rw [va_up_ne _ _ e]
    unfold qF
    by_cases h : i < 4
    · rw [if_pos h, if_pos h, va_up_ne _ _ e]
    · rw [if_neg h, if_neg h]
theorem fcOk.swap {K : jK} {G G' : GH} {x n : Nat} {q : Nat → Nat} {cnt nw : Nat} {s : StV} {S : Nat → StV} {d : LyV} (h : fcOk K G x n q cnt nw s S d) (e : G' = gset (gset G x (.inr (5, [.ref (q nw), .ref (x + 46), .int (nI cnt), .int (nI nw), .ref (x + 227)]))) (x + 46) (sA K 4 (qF (va_up q nw n)))) : fcOk K G' x (q nw) (va_up q nw n) cnt nw (S nw) (va_up S nw s) d ∧ fO x G G' := by
  have hb := h.f5
  have hw := h.f6
  have ho : ∀ a, a ≠ x → a ≠ x + 46 → G' a = G a := fun a h1 h2 => by rw [e, gset_n h2, gset_n h1]
  have hm : ∀ {b : Nat} {s : StV}, Bs x b → sG K G b s = G → sG K G' b s = G' := fun hB hs => sG_move hs (fun a h1 h2 => by
    have := hB.at
    exact ho a (by omega) (by omega))
  refine ⟨⟨?_, ?_, gB_move h.f2 (fun a h1 h2 => ho a (by omega) (by omega)), hm (hb.2.1 _ hw) (h.f4 _ hw), fun i hi => ?_, ⟨hb.2.1 _ hw, fun i hi => ?_, fun i hi => ?_, fun i hi j hj hij => ?_⟩, hw, h.f7, h.f9 _ hw, fun i hi => ?_⟩, fun a ha => ho a (by omega) (by omega)⟩
  · rw [e, gset_n (by omega), gset_s]
  · rw [e, gset_s]
  · by_cases e : i = nw
    · subst e
      rw [va_up_self, va_up_self]
      exact hm hb.1 h.f3
    · rw [va_up_ne _ _ e, va_up_ne _ _ e]
      exact hm (hb.2.1 i hi) (h.f4 i hi)
  · by_cases e : i = nw
    · subst e
      rw [va_up_self]
      exact hb.1
    · rw [va_up_ne _ _ e]
      exact hb.2.1 i hi
  · by_cases e : i = nw
    · subst e
      rw [va_up_self]
      exact fun q9 => hb.2.2.1 _ hi q9.symm
    · rw [va_up_ne _ _ e]
      exact hb.2.2.2 i hi nw hw e
  · by_cases e : i = nw
    · subst e
      rw [va_up_self, va_up_ne _ _ (fun q9 => hij q9.symm)]
      exact fun q9 => hb.2.2.1 j hj q9.symm
    · rw [va_up_ne _ _ e]
      by_cases e2 : j = nw
      · subst e2
        rw [va_up_self]
        exact hb.2.2.1 i hi
      · rw [va_up_ne _ _ e2]
        exact hb.2.2.2 i hi j hj hij
  · by_cases e : i = nw
    · subst e
      rw [va_up_self]
      exact h.f8
    · rw [va_up_ne _ _ e]
      exact h.f9 i hi
/-- a new state -/
abbrev sZ : StV := (8, 4, false, 0, fun _ => 0, fun _ => paZ, 0, 0, fun _ => 0, 0, rcZ, 0)
def qFk (x i : Nat) : Nat → Option Nat := fun j => if j < i then some (x + 47 + 45 * j) else none
theorem qFk_0 (x : Nat) : (fun _ => none) = qFk x 0 := by
  funext j
  exact (if_neg (by omega)).symm
theorem qFk_s (x i : Nat) : va_up (qFk x i) i (some (x + 47 + 45 * i)) = qFk x (i + 1) := by
  funext j
  by_cases h : j = i
  · subst h
    rw [va_up_self]
    exact (if_pos (by omega)).symm
  · rw [va_up_ne _ _ h]
    by_cases h2 : j < i
    · exact (if_pos h2).trans (if_pos (by omega)).symm
    · exact (if_neg h2).trans (if_neg (by omega)).symm
/-- an object under construction -/
def zOk (K : jK) (F G : GH) (x i : Nat) (o : List Value) : Prop := G x = some (.inr (5, o)) ∧ G (x + 46) = some (sA K 4 (qFk x i)) ∧ sG K G (x + 1) sZ = G ∧ (∀ j, j < i → sG K G (x + 47 + 45 * j) sZ = G) ∧ ∀ a, (a < x ∨ x + 47 + 45 * i ≤ a) → G a = F a
theorem zOk.set {K : jK} {F G G' : GH} {x i : Nat} {o o' : List Value} (h : zOk K F G x i o) (e : G' = gset G x (.inr (5, o'))) : zOk K F G' x i o' := by
  obtain ⟨h1, h2, h3, h4, h5⟩ := h
  have ho : ∀ a, a ≠ x → G' a = G a := fun a ha => by rw [e, gset_n ha]
  refine ⟨by rw [e, gset_s], (ho _ (by omega)).trans h2, sG_move h3 (fun a q1 q2 => ho a (by omega)), fun j hj => sG_move (h4 j hj) (fun a q1 q2 => ho a (by omega)), fun a ha => (ho a (by omega)).trans (h5 a ha)⟩
theorem zOk.step {K : jK} {F G G' : GH} {x i : Nat} {o : List Value} (h : zOk K F G x i o) (e : G' = gset (sG K G (x + 47 + 45 * i) sZ) (x + 46) (sA K 4 (qFk x (i + 1)))) : zOk K F G' x (i + 1) o := by
  obtain ⟨h1, h2, h3, h4, h5⟩ := h
  have ho : ∀ a, a ≠ x + 46 → (a < x + 47 + 45 * i ∨ x + 47 + 45 * i + 45 ≤ a) → G' a = G a := fun a q1 q2 => by
    rw [e, gset_n q1]
    exact st_out q2
  refine ⟨(ho x (by omega) (by omega)).trans h1, by rw [e, gset_s], sG_move h3 (fun a q1 q2 => ho a (by omega) (by omega)), fun j hj => ?_, fun a ha => (ho a (by omega) (by omega)).trans (h5 a (by omega))⟩
  by_cases ej : j = i
  · subst ej
    have hz : sG K (sG K G (x + 47 + 45 * j) sZ) (x + 47 + 45 * j) sZ = sG K G (x + 47 + 45 * j) sZ := sG_sG
    exact sG_move hz (fun a q1 q2 => by rw [e, gset_n (by omega)])
  · exact sG_move (h4 j (by omega)) (fun a q1 q2 => ho a (by omega) (by omega))
theorem zOk.fin {K : jK} {F G G' : GH} {x : Nat} {o : List Value} (h : zOk K F G x 4 o) (e : G' = gset (gB G (x + 227) (lyC K (x + 227) 8 4 false 0 (fun _ => 0))) x (.inr (5, [.ref (x + 1), .ref (x + 46), .int (nI 0), .int (nI 0), .ref (x + 227)]))) : fcOk K G' x (x + 1) (fun i => x + 47 + 45 * i) 0 0 sZ (fun _ => sZ) (8, 4, false, 0, fun _ => 0) ∧ fO x F G' := by
  obtain ⟨h1, h2, h3, h4, h5⟩ := h
  have ho : ∀ a, a ≠ x → (a < x + 227 ∨ x + 229 ≤ a) → G' a = G a := fun a q1 q2 => by
    rw [e, gset_n q1, gB_out (by simp only [List.length_cons, List.length_nil]; omega)]
  refine ⟨⟨by rw [e, gset_s], (ho _ (by omega) (by omega)).trans h2, ?_, sG_move h3 (fun a q1 q2 => ho a (by omega) (by omega)), fun i hi => sG_move (b := x + 47 + 45 * i) (h4 i hi) (fun a q1 q2 => ho a (by omega) (by omega)), ⟨Or.inl rfl, fun i hi => Or.inr ⟨i, hi, rfl⟩, fun i hi => (by show x + 47 + 45 * i ≠ x + 1; omega), fun i hi j hj hij => (by show x + 47 + 45 * i ≠ x + 47 + 45 * j; omega)⟩, by omega, by omega, Nat.zero_le _, fun i hi => Nat.zero_le _⟩, fun a ha => (ho a (by omega) (by omega)).trans (h5 a (by omega))⟩
  have hz : gB (gB G (x + 227) (lyC K (x + 227) 8 4 false 0 (fun _ => 0))) (x + 227) (lyC K (x + 227) 8 4 false 0 (fun _ => 0)) = gB G (x + 227) (lyC K (x + 227) 8 4 false 0 (fun _ => 0)) := gB_gB rfl
  exact gB_move hz (fun a q1 q2 => by rw [e, gset_n (by omega)])
set_option maxRecDepth 100000 in
set_option maxHeartbeats 4000000 in
theorem c_X5_undo_t {l : Launch} (hl : l.stackTraces = false) (K : jK) (G : GH) (x hs n : Nat) (q : Nat → Nat) (cnt nw w m : Nat) (pl : Bool) (tk : Nat) (ow : Nat → Int32) (P : Nat → PaV) (pc nx : Nat) (bits : Nat → Int32) (nb : Nat) (rc : RcV) (md : Nat) (S : Nat → StV) (d : LyV) (hc : fcOk K G x n q cnt nw (w, m, pl, tk, ow, P, pc, nx, bits, nb, rc, md) S d) (hpc : pc ≤ 12) (hcnt1 : 1 ≤ cnt) : Ct l K yX5_undo cX5_undo 2 (some .int) 7 102 1 6 [.ref x] G hs (pI (fun z9 G' _ => z9 = nI (cnt - 1) ∧ fcOk K G' x (q nw) (va_up q nw n) (cnt - 1) ((nw + 3) % 4) (S nw) (va_up S nw (w, m, pl, tk, ow, P, pc, nx, bits, nb, rc, md)) d ∧ fO x G G')) jno := by
  refine Ct.ofA hl (by decide) (Nat.le_of_ble_eq_true rfl) (L0 := [some (.ref x), none]) (jL_of 1 rfl) ?_
  intro A E hE hQ hX hNm
  have hO : fO x G G := fO.rf
  have hnb : nb ≤ 2048 := hc.f8
  have hnw := hc.f6
  have hcnt := hc.f7
  refine j_aload_n hE (i := 0) dX5_undo_0 rfl rfl ?_
  refine j_get hE flX5_20 hc.f0 rfl dX5_undo_1 ?_
  refine j_if_leN hE (tgt := 11) dX5_undo_4 (by decide) (by omega) (fun h4 => ?_) (fun h4 => ?_)
  · exfalso; omega
  · refine j_iconst hE (v := nI 1) dX5_undo_7 (by decide) ?_
    refine j_goto hE (tgt := 12) dX5_undo_8 (by decide) ?_
    refine j_cSv hE mlX5_56 (fun l hl => c_X5_requireState_t hl K _ _) rfl rfl (Nat.le_of_ble_eq_true rfl) (by decide) (by decide) (by omega) (by omega) dX5_undo_12 (fun G9 hs9 hp => ?_) (fun _ _ h => h.elim)
    subst hp
    refine j_aload_n hE (i := 0) dX5_undo_15 rfl rfl ?_
    refine j_get hE flX5_12 hc.f0 rfl dX5_undo_16 ?_
    refine j_ast1 hE dX5_undo_19 rfl (by decide) rfl ?_
    refine j_aload_n hE (i := 0) dX5_undo_20 rfl rfl ?_
    refine j_aload_n hE (i := 0) dX5_undo_21 rfl rfl ?_
    refine j_get hE flX5_16 hc.f0 rfl dX5_undo_22 ?_
    refine j_aload_n hE (i := 0) dX5_undo_25 rfl rfl ?_
    refine j_get hE flX5_24 hc.f0 rfl dX5_undo_26 ?_
    refine j_sav hE hc.f1 rfl hnw dX5_undo_29 ?_
    refine j_put hE flX5_12 hc.f0 rfl rfl (by simp only [List.length_cons, List.length_nil]; omega) dX5_undo_30 ?_
    refine j_aload_n hE (i := 0) dX5_undo_33 rfl rfl ?_
    refine j_get hE flX5_16 (gset_s _ _ _) rfl dX5_undo_34 ?_
    refine j_aload_n hE (i := 0) dX5_undo_37 rfl rfl ?_
    refine j_get hE flX5_24 (gset_s _ _ _) rfl dX5_undo_38 ?_
    refine j_aload_n hE (i := 1) dX5_undo_41 rfl rfl ?_
    refine j_astq 2 4 (fun _ => rfl) ⟨TX4, 7, rfl⟩ hE ((gset_n (by omega)).trans hc.f1) ((gset_n (by have := hc.f5.1.at; omega)).trans hc.g0) rfl hnw (by decide) dX5_undo_42 ?_
    rw [qF_up hnw]
    refine jgen (fun G8 hG8 => ?_)
    obtain ⟨hc, hO9⟩ := hc.swap hG8
    replace hO := hO.tr hO9
    refine j_aload_n hE (i := 0) dX5_undo_43 rfl rfl ?_
    refine j_aload_n hE (i := 0) dX5_undo_44 rfl rfl ?_
    refine j_get hE flX5_24 hc.f0 rfl dX5_undo_45 ?_
    refine j_iconst hE (v := nI 4) dX5_undo_48 (by decide) ?_
    refine j_iaddN hE dX5_undo_49 ?_
    refine j_iconst hE (v := nI 1) dX5_undo_50 (by decide) ?_
    refine j_isubN hE dX5_undo_51 (by omega) ?_
    refine j_iconst hE (v := nI 4) dX5_undo_52 (by decide) ?_
    refine j_iremN hE dX5_undo_53 (by omega) (by omega) (by omega) ?_
    rw [show (nw + 4 - 1) % 4 = (nw + 3) % 4 by omega]
    refine j_put hE flX5_24 hc.f0 rfl rfl (by simp only [List.length_cons, List.length_nil]; omega) dX5_undo_54 ?_
    refine jgen (fun G8 hG8 => ?_)
    obtain ⟨hc, hO9⟩ := hc.self (cnt' := cnt) (Nat.mod_lt _ (by omega)) hcnt hG8
    replace hO := hO.tr hO9
    refine j_aload_n hE (i := 0) dX5_undo_57 rfl rfl ?_
    refine j_dup hE dX5_undo_58 rfl ?_
    refine j_get hE flX5_20 hc.f0 rfl dX5_undo_59 ?_
    refine j_iconst hE (v := nI 1) dX5_undo_62 (by decide) ?_
    refine j_isubN hE dX5_undo_63 (by omega) ?_
    refine j_put hE flX5_20 hc.f0 rfl rfl (by simp only [List.length_cons, List.length_nil]; omega) dX5_undo_64 ?_
    refine jgen (fun G8 hG8 => ?_)
    obtain ⟨hc, hO9⟩ := hc.self (cnt' := cnt - 1) (Nat.mod_lt _ (by omega)) (by omega) hG8
    replace hO := hO.tr hO9
    refine j_aload_n hE (i := 0) dX5_undo_67 rfl rfl ?_
    refine j_get hE flX5_20 hc.f0 rfl dX5_undo_68 ?_
    refine j_iret hE hQ rfl (by omega) (by omega) dX5_undo_71 ?_
    exact ⟨_, rfl, rfl, hc, hO⟩

set_option maxRecDepth 100000 in
set_option maxHeartbeats 4000000 in
theorem c_X5_undo_f {l : Launch} (hl : l.stackTraces = false) (K : jK) (G : GH) (x hs n : Nat) (q : Nat → Nat) (cnt nw w m : Nat) (pl : Bool) (tk : Nat) (ow : Nat → Int32) (P : Nat → PaV) (pc nx : Nat) (bits : Nat → Int32) (nb : Nat) (rc : RcV) (md : Nat) (S : Nat → StV) (d : LyV) (hc : fcOk K G x n q cnt nw (w, m, pl, tk, ow, P, pc, nx, bits, nb, rc, md) S d) (hpc : pc ≤ 12) (hcnt0 : cnt = 0) : Ct l K yX5_undo cX5_undo 2 (some .int) 7 102 1 6 [.ref x] G hs (pI (fun _ _ _ => False)) (fun X G' => X = jIS ∧ G' = G) := by
  refine Ct.ofA hl (by decide) (Nat.le_of_ble_eq_true rfl) (L0 := [some (.ref x), none]) (jL_of 1 rfl) ?_
  intro A E hE hQ hX hNm
  have hO : fO x G G := fO.rf
  have hnb : nb ≤ 2048 := hc.f8
  refine j_aload_n hE (i := 0) dX5_undo_0 rfl rfl ?_
  refine j_get hE flX5_20 hc.f0 rfl dX5_undo_1 ?_
  refine j_if_leN hE (tgt := 11) dX5_undo_4 (by decide) (by omega) (fun h4 => ?_) (fun h4 => ?_)
  · refine j_iconst hE (v := nI 0) dX5_undo_11 (by decide) ?_
    refine j_cSv hE mlX5_56 (fun l hl => c_X5_requireState_f hl K _ _) rfl rfl (Nat.le_of_ble_eq_true rfl) (by decide) (by decide) (by omega) (by omega) dX5_undo_12 (fun G9 hs9 hp => ?_) (fun X G9 h => by obtain ⟨rfl, rfl⟩ := h; exact j_out hE hX hQ (by omega) (by omega) ⟨rfl, rfl⟩)
    exact hp.elim
  · exfalso; omega

set_option maxRecDepth 100000 in
set_option maxHeartbeats 4000000 in
theorem c_X5_init {l : Launch} (hl : l.stackTraces = false) (K : jK) (F : GH) (x : Nat) : Ct l K yX5_init cX5_init 2 none 3 53 228 12247 [.ref x] (gB F x [.inr (5, [.null, .null, .int 0, .int 0, .null])]) (x + 1) (pV (fun G' hs' => fcOk K G' x (x + 1) (fun i => x + 47 + 45 * i) 0 0 sZ (fun _ => sZ) (8, 4, false, 0, fun _ => 0) ∧ fO x F G' ∧ hs' = x + 229)) jno := by
  refine Ct.ofA hl (by decide) (Nat.le_of_ble_eq_true rfl) (L0 := [some (.ref x), none]) (jL_of 1 rfl) ?_
  intro A E hE hQ hX hNm
  refine j_aload_n hE (i := 0) dX5_init_0 rfl rfl ?_
  refine j_obj hE tw_21 tw_22 tw_23 (by decide) (Nat.le_of_ble_eq_true rfl) dX5_init_1 ?_
  refine j_aload_n hE (i := 0) dX5_init_4 rfl rfl ?_
  refine j_new hE mkX5_9 (by omega) (by omega) dX5_init_5 ?_
  rw [gB_one]
  refine j_dup hE dX5_init_8 rfl ?_
  refine j_cI hE mlX5_11 (fun l hl => c_X4_init hl K _ (x + 1)) rfl rfl (Nat.le_of_ble_eq_true rfl) (by decide) (by decide) (by omega) (by omega) dX5_init_9 (fun G9 hs9 hp => ?_)
  obtain ⟨hp, hq⟩ := hp
  have hq9 : hs9 = x + 46 := by omega
  subst hq9
  refine j_put hE flX5_12 (by rw [hp]; exact (st_out (by omega)).trans gB_0) rfl rfl (by simp only [List.length_cons, List.length_nil]; omega) dX5_init_12 ?_
  refine jgen (fun G2 hG2 => ?_)
  refine j_aload_n hE (i := 0) dX5_init_15 rfl rfl ?_
  refine j_iconst hE (v := nI 4) dX5_init_16 (by decide) ?_
  refine j_newq 2 (fun _ => rfl) (fun q => q.2.2.2.2.2.2.1) hE (N := 4) rfl (by decide) tw_24 (by omega) (by omega) dX5_init_17 ?_
  refine jgen (fun G3 hG3 => ?_)
  have e1 : ∀ a, (a < x + 1 ∨ x + 46 ≤ a) → G9 a = gB F x [.inr (5, [.null, .null, .int 0, .int 0, .null])] a := fun a ha => by rw [hp]; exact st_out ha
  refine j_putF hE hNm flX5_16 rfl (by rw [hG3, gset_n (by omega), hG2, gset_s]) rfl rfl (by simp) dX5_init_20 ?_
  refine jgen (fun G4 hG4 => ?_)
  have hz : zOk K F G4 x 0 [.ref (x + 1), .ref (x + 46), .int (nI 0), .int (nI 0), .null] := by
    refine ⟨by rw [hG4, gset_s]; rfl, by rw [hG4, gset_n (by omega), hG3, gset_s, qFk_0 x], ?_, fun j hj => by omega, fun a ha => ?_⟩
    · have q0 : sG K G9 (x + 1) sZ = G9 := by rw [hp]; exact sG_sG (s := sZ)
      exact sG_move q0 (fun a h1 h2 => by rw [hG4, gset_n (by omega), hG3, gset_n (by omega), hG2, gset_n (by omega)])
    · rw [hG4, gset_n (by omega), hG3, gset_n (by omega), hG2, gset_n (by omega), e1 a (by omega), gB_out (by simp only [List.length_cons, List.length_nil]; omega)]
  refine j_iconst hE (v := nI 0) dX5_init_23 (by decide) ?_
  refine j_ist1 hE dX5_init_24 rfl (by decide) rfl ?_
  have key25 : ∀ i, i ≤ 4 → ∀ hs : Nat, ∀ G1, zOk K F G1 x i [.ref (x + 1), .ref (x + 46), .int (nI 0), .int (nI 0), .null] → J K A E 2 G1 (x + 47 + 45 * i) (46 + 45 * i) (2426 + 2422 * i) 25 [some (.ref x), some (.int (nI i))] [] := by
    refine dloop (fun i => ∀ hs : Nat, ∀ G1, zOk K F G1 x i [.ref (x + 1), .ref (x + 46), .int (nI 0), .int (nI 0), .null] → J K A E 2 G1 (x + 47 + 45 * i) (46 + 45 * i) (2426 + 2422 * i) 25 [some (.ref x), some (.int (nI i))] []) (4) (fun i hi25 ih25 => ?_) ?_
    · intro hs
      intro G1 hz
      refine j_iload_n hE (i := 1) dX5_init_25 rfl rfl ?_
      refine j_aload_n hE (i := 0) dX5_init_26 rfl rfl ?_
      refine j_get hE flX5_16 hz.1 rfl dX5_init_27 ?_
      refine j_alenS hE hz.2.1 dX5_init_30 ?_
      refine j_ic_geN hE (tgt := 53) dX5_init_31 (by decide) (by omega) (by omega) (fun h31 => ?_) (fun h31 => ?_)
      · exfalso; omega
      · refine j_aload_n hE (i := 0) dX5_init_34 rfl rfl ?_
        refine j_get hE flX5_16 hz.1 rfl dX5_init_35 ?_
        refine j_iload_n hE (i := 1) dX5_init_38 rfl rfl ?_
        refine j_new hE mkX5_9 (by omega) (by omega) dX5_init_39 ?_
        rw [gB_one]
        refine j_dup hE dX5_init_42 rfl ?_
        refine j_cI hE mlX5_11 (fun l hl => c_X4_init hl K _ (x + 47 + 45 * i)) rfl rfl (Nat.le_of_ble_eq_true rfl) (by decide) (by decide) (by omega) (by omega) dX5_init_43 (fun G9 hs9 hp => ?_)
        obtain ⟨hp, hq⟩ := hp
        have hq9 : hs9 = x + 47 + 45 * (i + 1) := by omega
        subst hq9
        refine j_astq 2 4 (fun _ => rfl) ⟨TX4, 7, rfl⟩ hE (by rw [hp]; exact (st_out (by omega)).trans hz.2.1) (j := i) (by rw [hp]; exact st_0) rfl (by omega) (by decide) dX5_init_46 ?_
        rw [qFk_s, hp]
        refine jgen (fun G8 hG8 => ?_)
        have hz := hz.step hG8
        refine j_incN1 hE dX5_init_47 (by decide) rfl ?_
        refine j_goto hE (tgt := 25) dX5_init_50 (by decide) ?_
        exact jnum (by omega) (by omega) (by omega) (ih25 0 _ hz)
    · intro hs
      intro G1 hz
      refine j_iload_n hE (i := 1) dX5_init_25 rfl rfl ?_
      refine j_aload_n hE (i := 0) dX5_init_26 rfl rfl ?_
      refine j_get hE flX5_16 hz.1 rfl dX5_init_27 ?_
      refine j_alenS hE hz.2.1 dX5_init_30 ?_
      refine j_ic_geN hE (tgt := 53) dX5_init_31 (by decide) (by omega) (by omega) (fun h31 => ?_) (fun h31 => ?_)
      · refine j_aload_n hE (i := 0) dX5_init_53 rfl rfl ?_
        refine j_iconst hE (v := nI 0) dX5_init_54 (by decide) ?_
        refine j_put hE flX5_20 hz.1 rfl rfl (by simp) dX5_init_55 ?_
        refine jgen (fun G8 hG8 => ?_)
        have hz := hz.set hG8
        refine j_aload_n hE (i := 0) dX5_init_58 rfl rfl ?_
        refine j_iconst hE (v := nI 0) dX5_init_59 (by decide) ?_
        refine j_put hE flX5_24 hz.1 rfl rfl (by simp) dX5_init_60 ?_
        refine jgen (fun G8 hG8 => ?_)
        have hz := hz.set hG8
        refine j_aload_n hE (i := 0) dX5_init_63 rfl rfl ?_
        refine j_new hE mkX5_27 (by omega) (by omega) dX5_init_64 ?_
        rw [gB_one]
        refine j_dup hE dX5_init_67 rfl ?_
        refine j_cIN hE mlX5_29 (fun l hl => c_X1_init hl K _ (x + 227)) rfl rfl (Nat.le_of_ble_eq_true rfl) (by decide) (by decide) (by omega) (by omega) dX5_init_68 (fun G9 hs9 hp => ?_)
        obtain ⟨hp, hq⟩ := hp
        have hq9 : hs9 = x + 229 := by omega
        subst hq9
        refine j_putF hE hNm flX5_30 rfl (by rw [hp]; exact (gB_out (by omega)).trans hz.1) rfl rfl (by simp) dX5_init_71 ?_
        refine jgen (fun G8 hG8 => ?_)
        rw [hp] at hG8
        obtain ⟨hc, hO⟩ := hz.fin hG8
        refine j_vret hE hQ (by omega) (by omega) dX5_init_74 ?_
        exact ⟨rfl, hc, hO, rfl⟩
      · exfalso; omega
  exact key25 0 (by omega) 0 _ hz

