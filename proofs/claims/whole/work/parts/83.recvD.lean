/-! ===== the receiver: a bit on both sides ===== -/
theorem bit_row {r : Nat → Int32} {w m tk : Nat} {ow : Nat → Int32} {P : Nat → PaV} {pc nx : Nat} {bits : Nat → Int32} {nb : Nat} {rc : RcV} {md : Nat} (h : rowR r (w, m, true, tk, ow, P, pc, nx, bits, nb, rc, md)) {i : Nat} (hi : i < nb) : ∃ M mm md' t, tbP r w M mm md' t ∧ rowR (mTB r w M mm md' t (r (329 + i))) (w, m, true, tk, ow, (tB w m ow pc md bits i (rc, P)).2, pc, nx, bits, nb, (tB w m ow pc md bits i (rc, P)).1, md) := by
  obtain ⟨co, mi, cn, fm, p, hy⟩ := rc
  obtain ⟨g1, g2, g3, g4, g5⟩ := h
  have g1' := g1
  have g5' := g5
  obtain ⟨e0, e1, e2, e3, e4, e5, e6, hw6, hw9, hmo, hpc, hnx, hnb, hmd⟩ := g1'
  obtain ⟨c7, c8, c9, cm, cf, cp⟩ := g5'
  have hm8 : m ≤ 8 := by omega
  obtain ⟨l1, l2, l3, l4⟩ := g3 rfl
  obtain ⟨cb1, b, hb, cb2⟩ := g4 i hi
  have erb : r (329 + i) = nI b := cb1.trans cb2
  rw [erb]
  have glue : ∀ (n : Nat → Int32) (s' : RcV × (Nat → PaV)), rcR n s'.1 w → (∀ q, q < pc → parR n q (s'.2 q)) → (∀ j, (j < 7 ∨ 201 ≤ j) → n j = r j) → rowR n (w, m, true, tk, ow, s'.2, pc, nx, bits, nb, s'.1, md) := fun n s' q1 q2 q3 => ⟨g1.mv (fun j hj => q3 j (by omega)), q2, g3.mv (fun k hk => q3 _ (by omega)), g4.mv (fun k hk => q3 _ (by omega)), q1⟩
  have plain : rDo co p ((w - 2) * 8) = false → ¬ r 15 = nI 1 → (rcR (mTB r w 0 0 0 0 (nI b)) (tK (co, mi, cn, fm, p, hy) (nI b) ((w - 2) * 8)) w ∧ ∀ j, (j < 7 ∨ 33 ≤ j) → mTB r w 0 0 0 0 (nI b) j = r j) → ∃ M mm md' t, tbP r w M mm md' t ∧ rowR (mTB r w M mm md' t (nI b)) (w, m, true, tk, ow, (tB w m ow pc md bits i ((co, mi, cn, fm, p, hy), P)).2, pc, nx, bits, nb, (tB w m ow pc md bits i ((co, mi, cn, fm, p, hy), P)).1, md) := fun z1 z2 z3 => by
    have eT : tB w m ow pc md bits i ((co, mi, cn, fm, p, hy), P) = (tK (co, mi, cn, fm, p, hy) (nI b) ((w - 2) * 8), P) := by
      unfold tB
      dsimp only
      rw [z1, if_neg (by decide), cb2]
    rw [eT]
    exact ⟨0, 0, 0, 0, tbP_n e0 z2, glue _ (tK (co, mi, cn, fm, p, hy) (nI b) ((w - 2) * 8), P) z3.1 (fun q hq => (g2 q hq).mv (fun j hj => z3.2 _ (by omega))) (fun j hj => z3.2 j (by omega))⟩
  rcases cp with ⟨a1, a2, a3, t, a4, a5, a6, a7⟩ | ⟨a1, a2, a3, a4, a5⟩ | ⟨a1, a2, t, a3, a4, a5, a6, a7⟩ | ⟨a1, a2, a3, a4, a5⟩
  · exact plain (decide_eq_false (fun q => q.1 a1)) (by rw [a2]; decide) (phS e0 hw6 hw9 hb c7 c8 c9 cm cf a1 a2 a3 a4 a5 a6 a7)
  · dsimp only at a1 a2 a3 a4 a5
    have hc0 : ¬ co = 0 := by rcases a1 with rfl | rfl <;> decide
    obtain ⟨s1, s2⟩ := store_row (r := r) (fm := fm) (p := p) (b := b) a5 (by omega) hb
    have eK : tK (co, mi, cn, fm, p, hy) (nI b) ((w - 2) * 8) = (co, mi, cn, rSt fm (p + 1) (nI b), p + 1, h1 hy b) := by
      rw [tK_eq]
      unfold rTk
      rw [if_neg hc0, if_pos (by omega)]
    have n1o : ∀ j, (j < 16 ∨ j = 17 ∨ 33 ≤ j) → upd (upd (upd r (19 + p / 8) (nI 2 * r (19 + p / 8) + nI b)) 18 (nI b)) 16 (nI (p + 1)) j = r j := fun j hj => by
      rw [upd_n (by omega), upd_n (by omega), upd_n (by omega)]
    have n18 : upd (upd (upd r (19 + p / 8) (nI 2 * r (19 + p / 8) + nI b)) 18 (nI b)) 16 (nI (p + 1)) 18 = nI b := by
      rw [upd_n (by omega), upd_s]
    have n16 : upd (upd (upd r (19 + p / 8) (nI 2 * r (19 + p / 8) + nI b)) 18 (nI b)) 16 (nI (p + 1)) 16 = nI (p + 1) := upd_s _ _ _
    have eI : ∀ M mm md', mTB r w M mm md' p (nI b) = (if p + 1 = 8 * (w - 2) then upd (upd (upd (if r 7 = nI 2 then mDel (upd (upd (upd r (19 + p / 8) (nI 2 * r (19 + p / 8) + nI b)) 18 (nI b)) 16 (nI (p + 1))) w M mm md' else upd (upd (upd r (19 + p / 8) (nI 2 * r (19 + p / 8) + nI b)) 18 (nI b)) 16 (nI (p + 1))) 15 (nI 2)) 16 (nI 0)) 17 (nI 0) else upd (upd (upd r (19 + p / 8) (nI 2 * r (19 + p / 8) + nI b)) 18 (nI b)) 16 (nI (p + 1))) := fun M mm md' => by
      unfold mTB
      rw [if_pos a2]
      rfl
    generalize upd (upd (upd r (19 + p / 8) (nI 2 * r (19 + p / 8) + nI b)) 18 (nI b)) 16 (nI (p + 1)) = n1 at s1 n1o n18 n16 eI
    by_cases hend : p + 1 = 8 * (w - 2)
    · obtain ⟨v, hv, v1, v2⟩ := a5 0 (by omega)
      have v3 : r 19 = nI v := by
        have v2' : r (19 + 0) = nI (v % 2 ^ (min 8 (p - 8 * 0))) := v2
        rw [show min 8 (p - 8 * 0) = 8 by omega, show v % 2 ^ 8 = v from Nat.mod_eq_of_lt (by omega)] at v2'
        exact v2'
      have hdl : dlP r w m v md := ⟨e0, e1, hw6, hw9, hm8, v3, by omega, hmd, e6, fun hm k hk => by
        unfold owP
        rw [l1 _ (by omega)]
        rcases l2 (16 * v + k) (by omega) with e | ⟨j, hj, e⟩
        · exact Or.inl e
        · exact Or.inr ⟨j, by omega, e⟩⟩
      refine ⟨m, v, md, p, ⟨e0, fun _ => ⟨a4, a3, fun _ => hdl⟩⟩, ?_⟩
      rw [eI, if_pos hend, c7]
      by_cases h2c : co = nI 2
      · have eT : tB w m ow pc md bits i ((co, mi, cn, fm, p, hy), P) = (dRc m (co, mi, cn, rSt fm (p + 1) (nI b), p + 1, h1 hy b), dPa w m ow pc md (co, mi, cn, rSt fm (p + 1) (nI b), p + 1, h1 hy b) P) := by
          unfold tB
          dsimp only
          rw [if_pos (show rDo co p ((w - 2) * 8) = true from decide_eq_true ⟨hc0, by omega, h2c⟩), cb2, eK]
        rw [eT, if_pos h2c]
        have f0 : rSt fm (p + 1) (nI b) 0 = nI v := by
          unfold rSt
          rw [upd_n (by omega)]
          exact v1
        have hfm : ∀ k, k < w - 2 → n1 (19 + k) = rSt fm (p + 1) (nI b) k := fun k hk => by
          obtain ⟨u, hu, u1, u2⟩ := s1 k (by omega)
          have u2' : n1 (19 + k) = nI (u % 2 ^ (min 8 (p + 1 - 8 * k))) := u2
          rw [u2', u1, show min 8 (p + 1 - 8 * k) = 8 by omega, show u % 2 ^ 8 = u from Nat.mod_eq_of_lt (by omega)]
        have oI0 : oI (rSt fm (p + 1) (nI b) 0) = v := by
          rw [f0, oI_nI (by omega)]
        by_cases hvm : v < m
        · have eR : dRc m (co, mi, cn, rSt fm (p + 1) (nI b), p + 1, h1 hy b) = (co, mi, upd cn 0 (cn 0 + nI 1), rSt fm (p + 1) (nI b), p + 1, h1 hy b) := if_pos (by show oI (rSt fm (p + 1) (nI b) 0) < m; rw [f0, oI_nI (by omega)]; exact hvm)
          have eP : dPa w m ow pc md (co, mi, cn, rSt fm (p + 1) (nI b), p + 1, h1 hy b) P = itr (dW ow pc md (rSt fm (p + 1) (nI b)) v) (w - 3) P := by
            unfold dPa
            dsimp only
            rw [if_pos (show oI (rSt fm (p + 1) (nI b) 0) < m by rw [oI0]; exact hvm), oI0]
          have eD : mDel n1 w m v md = itr (mDl v md) (w - 3) (upd n1 9 (n1 9 + nI 1)) := if_pos hvm
          obtain ⟨d1, d2⟩ := del_rows (n := upd n1 9 (n1 9 + nI 1)) (fm := rSt fm (p + 1) (nI b)) (ow := ow) (P := P) (w := w) (m := m) (pc := pc) (md := md) (mm := v) hpc hw9 hm8 hvm hmd (fun q hq => (g2 q hq).mv (fun j hj => by rw [upd_n (by omega)]; exact n1o _ (by omega))) (fun k hk => by rw [upd_n (by omega), n1o _ (by omega)]; exact l1 k hk) l2 (fun k hk => by rw [upd_n (by omega)]; exact hfm k hk) (w - 3) (Nat.le_refl _)
          rw [eR, eP, eD]
          refine glue _ ((co, mi, upd cn 0 (cn 0 + nI 1), rSt fm (p + 1) (nI b), p + 1, h1 hy b), itr (dW ow pc md (rSt fm (p + 1) (nI b)) v) (w - 3) P) (rcR_end ?_ ?_ (fun k hk => ?_) ?_ cm s2 a1 hb hend) (fun q hq => (d1 q hq).mv (fun j hj => by rw [upd_n (by omega), upd_n (by omega), upd_n (by omega)])) (fun j hj => ?_)
          · rw [d2 _ (by omega), upd_n (by omega), n1o _ (by omega)]; exact c7
          · rw [d2 _ (by omega), upd_n (by omega), n1o _ (by omega)]; exact c8
          · rw [d2 _ (by omega)]
            have q0 : ∀ k, k < 6 → n1 (9 + k) = cn k := fun k hk => (n1o _ (by omega)).trans (c9 k hk)
            have q1 := cn_up q0 (i := 0) (by omega) (cn 0 + nI 1) k hk
            rw [show n1 9 = cn 0 from q0 0 (by omega)]
            exact q1
          · rw [d2 _ (by omega), upd_n (by omega)]; exact n18
          · rw [upd_n (by omega), upd_n (by omega), upd_n (by omega), d2 _ (by omega), upd_n (by omega)]; exact n1o _ (by omega)
        · have eR : dRc m (co, mi, cn, rSt fm (p + 1) (nI b), p + 1, h1 hy b) = (co, mi, upd (upd cn 0 (cn 0 + nI 1)) 1 (upd cn 0 (cn 0 + nI 1) 1 + nI 1), rSt fm (p + 1) (nI b), p + 1, h1 hy b) := if_neg (by show ¬ oI (rSt fm (p + 1) (nI b) 0) < m; rw [f0, oI_nI (by omega)]; exact hvm)
          have eP : dPa w m ow pc md (co, mi, cn, rSt fm (p + 1) (nI b), p + 1, h1 hy b) P = P := by
            unfold dPa
            dsimp only
            rw [if_neg (show ¬ oI (rSt fm (p + 1) (nI b) 0) < m by rw [oI0]; exact hvm)]
          have eD : mDel n1 w m v md = upd (upd n1 9 (n1 9 + nI 1)) 10 (upd n1 9 (n1 9 + nI 1) 10 + nI 1) := if_neg hvm
          rw [eR, eP, eD]
          refine glue _ ((co, mi, upd (upd cn 0 (cn 0 + nI 1)) 1 (upd cn 0 (cn 0 + nI 1) 1 + nI 1), rSt fm (p + 1) (nI b), p + 1, h1 hy b), P) (rcR_end ?_ ?_ (fun k hk => ?_) ?_ cm s2 a1 hb hend) (fun q hq => (g2 q hq).mv (fun j hj => ?_)) (fun j hj => ?_)
          · rw [upd_n (by omega), upd_n (by omega), n1o _ (by omega)]; exact c7
          · rw [upd_n (by omega), upd_n (by omega), n1o _ (by omega)]; exact c8
          · have q0 : ∀ k, k < 6 → n1 (9 + k) = cn k := fun k hk => (n1o _ (by omega)).trans (c9 k hk)
            have q1 := cn_up q0 (i := 0) (by omega) (cn 0 + nI 1)
            have q2 := cn_up q1 (i := 1) (by omega) (upd cn 0 (cn 0 + nI 1) 1 + nI 1) k hk
            rw [show n1 9 = cn 0 from q0 0 (by omega), show upd n1 9 (cn 0 + nI 1) 10 = upd cn 0 (cn 0 + nI 1) 1 from q1 1 (by omega)]
            exact q2
          · rw [upd_n (by omega), upd_n (by omega)]; exact n18
          · rw [upd_n (by omega), upd_n (by omega), upd_n (by omega), upd_n (by omega), upd_n (by omega)]; exact n1o _ (by omega)
          · rw [upd_n (by omega), upd_n (by omega), upd_n (by omega), upd_n (by omega), upd_n (by omega)]; exact n1o _ (by omega)
      · have eT : tB w m ow pc md bits i ((co, mi, cn, fm, p, hy), P) = ((co, mi, cn, rSt fm (p + 1) (nI b), p + 1, h1 hy b), P) := by
          unfold tB
          dsimp only
          rw [if_neg (show ¬ rDo co p ((w - 2) * 8) = true from fun q => h2c (of_decide_eq_true q).2.2), cb2, eK]
        rw [eT, if_neg h2c]
        refine glue _ ((co, mi, cn, rSt fm (p + 1) (nI b), p + 1, h1 hy b), P) (rcR_end ((n1o _ (by omega)).trans c7) ((n1o _ (by omega)).trans c8) (fun k hk => (n1o _ (by omega)).trans (c9 k hk)) n18 cm s2 a1 hb hend) (fun q hq => (g2 q hq).mv (fun j hj => ?_)) (fun j hj => ?_)
        · rw [upd_n (by omega), upd_n (by omega), upd_n (by omega)]; exact n1o _ (by omega)
        · rw [upd_n (by omega), upd_n (by omega), upd_n (by omega)]; exact n1o _ (by omega)
    · refine ⟨0, 0, 0, p, ⟨e0, fun _ => ⟨a4, a3, fun q => absurd q hend⟩⟩, ?_⟩
      rw [eI, if_neg hend]
      have eT : tB w m ow pc md bits i ((co, mi, cn, fm, p, hy), P) = ((co, mi, cn, rSt fm (p + 1) (nI b), p + 1, h1 hy b), P) := by
        unfold tB
        dsimp only
        rw [if_neg (show ¬ rDo co p ((w - 2) * 8) = true from fun q => hend (by have := (of_decide_eq_true q).2.1; omega)), cb2, eK]
      rw [eT]
      exact glue _ ((co, mi, cn, rSt fm (p + 1) (nI b), p + 1, h1 hy b), P) ⟨(n1o _ (by omega)).trans c7, (n1o _ (by omega)).trans c8, fun k hk => (n1o _ (by omega)).trans (c9 k hk), cm, s2, Or.inr (Or.inl ⟨a1, (n1o _ (by omega)).trans a2, by show p + 1 < 8 * (w - 2); omega, n16, s1⟩)⟩ (fun q hq => (g2 q hq).mv (fun j hj => n1o _ (by omega))) (fun j hj => n1o _ (by omega))
  · exact plain (decide_eq_false (fun q => by have := q.2.1; dsimp only at a4; omega)) (by rw [a2]; decide) (phE e0 hw6 hw9 hb c7 c8 c9 cm cf a1 a2 a3 a4 a5 a6 a7)
  · exact plain (decide_eq_false (fun q => by have := q.2.1; dsimp only at a3; omega)) (by rw [a2]; decide) (phM e0 hw6 hw9 hb c7 c8 c9 cm cf a1 a2 a3 a4 a5)
