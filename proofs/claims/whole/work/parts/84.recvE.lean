/-! ===== receive ===== -/
theorem bits_rows {r : Nat → Int32} {w m tk : Nat} {ow : Nat → Int32} {P : Nat → PaV} {pc nx : Nat} {bits : Nat → Int32} {nb : Nat} {rc : RcV} {md : Nat} (h : rowR r (w, m, true, tk, ow, P, pc, nx, bits, nb, rc, md)) : ∀ c, c ≤ nb → ∃ R : Nat → Nat → Int32, R 0 = r ∧ rxP w c R ∧ ∀ k, k ≤ c → rowR (R k) (w, m, true, tk, ow, (itr (tB w m ow pc md bits) k (rc, P)).2, pc, nx, bits, nb, (itr (tB w m ow pc md bits) k (rc, P)).1, md)
  | 0, _ => ⟨fun _ => r, rfl, fun k hk => absurd hk (Nat.not_lt_zero _), fun k hk => by
      rw [show k = 0 by omega]
      exact h⟩
  | c + 1, hc => by
    obtain ⟨R, q0, q1, q2⟩ := bits_rows h c (by omega)
    obtain ⟨M, mm, md', t, s1, s2⟩ := bit_row (q2 c (Nat.le_refl _)) (i := c) (by omega)
    refine ⟨fun k => if k ≤ c then R k else mTB (R c) w M mm md' t (R c (329 + c)), ?_, ?_, ?_⟩
    · dsimp only
      rw [if_pos (Nat.zero_le _)]
      exact q0
    · intro k hk
      dsimp only
      rcases Nat.lt_or_eq_of_le (Nat.le_of_lt_succ hk) with e | e
      · obtain ⟨M2, mm2, md2, t2, u1, u2⟩ := q1 k e
        refine ⟨M2, mm2, md2, t2, ?_, ?_⟩
        · rw [if_pos (show k ≤ c by omega)]
          exact u1
        · rw [if_pos (show k ≤ c by omega), if_pos (show k + 1 ≤ c by omega)]
          exact u2
      · refine ⟨M, mm, md', t, ?_, ?_⟩
        · rw [if_pos (show k ≤ c by omega), e]
          exact s1
        · rw [if_pos (show k ≤ c by omega), if_neg (show ¬ k + 1 ≤ c by omega), e]
    · intro k hk
      dsimp only
      by_cases e : k ≤ c
      · rw [if_pos e]
        exact q2 k e
      · rw [if_neg e, show k = c + 1 by omega, itr_s]
        exact s2
theorem shB_at (c : Nat) (r : Nat → Int32) : ∀ n k, itr (shB c) n r (329 + k) = if k < n then r (329 + k + c) else r (329 + k)
  | 0, k => by
    rw [if_neg (Nat.not_lt_zero _)]
    rfl
  | n + 1, k => by
    have ih := shB_at c r n
    rw [itr_s]
    generalize itr (shB c) n r = g at ih ⊢
    unfold shB
    by_cases e : k = n
    · rw [e, upd_s, if_pos (Nat.lt_succ_self _), show 329 + n + c = 329 + (n + c) by omega, ih (n + c), if_neg (by omega)]
    · rw [upd_n (by omega), ih k]
      by_cases q : k < n
      · rw [if_pos q, if_pos (by omega)]
      · rw [if_neg q, if_neg (by omega)]
theorem chR_drop {r bits : Nat → Int32} {nb c : Nat} {x : Int32} (h : chR r bits nb) (hc : c ≤ nb) : chR (itr (shB c) (nb - c) (upd r 5 x)) (va_cpy bits bits c 0 (nb - c)) (nb - c) := fun k hk => by
  rw [shB_at, if_pos hk, upd_n (by omega), cpy_at, if_pos (by omega), show 329 + k + c = 329 + (c + (k - 0)) by omega]
  exact h _ (by omega)
set_option maxRecDepth 100000 in
set_option maxHeartbeats 4000000 in
theorem OP_receive {K : jK} {x : Nat} {c : FcV} {v : MdV} (hR : RelV c v) (p0 : Int32) : OpI K x (fun l G hs post => CtW l K yL_receive cL_receive 4 (some .int) [(0, 9, 12, 13), (0, 9, 15, 19)] 8 131 3 18 [.ref x, .int p0, .ref (x + 233)] G hs post) (fun l G hs post => Ct l K yX6_receive cX6_receive 4 (some .int) 6 133 0 0 [.ref (x + 229), .int p0] G hs post jno) c v := by
  obtain ⟨n, q, cnt, nw, ⟨w, m, pl, tk, ow, P, pc, nx, bits, nb, rc, md⟩, S, d⟩ := c
  obtain ⟨now, past, kept, thrown, drawn, hash⟩ := v
  have hrow : rowR now (w, m, pl, tk, ow, P, pc, nx, bits, nb, rc, md) := hR.1
  have hpast : pastR past kept S nw := hR.2.1
  have hcnt : cnt = kept := hR.2.2.1
  subst hcnt
  have hk : cnt ≤ 4 := hR.2.2.2.1
  have hnw : nw < 4 := hR.2.2.2.2
  have hrow0 := hrow
  obtain ⟨⟨e0, e1, e2, e3, e4, e5, e6, hw6, hw9, hmo, hpc, hnx, hnb, hmd⟩, hpar, hly, hch, hrc⟩ := hrow
  have hm8 : m ≤ 8 := by omega
  rcases rg_cases p0 1 2048 with ⟨c, hc1, hc9, rfl⟩ | hbad
  · cases pl with
    | true =>
      by_cases hcb : c ≤ nb
      · obtain ⟨R, q0, q1, q2⟩ := bits_rows hrow0 c hcb
        have hend := q2 c (Nat.le_refl _)
        have hok : ∀ i, i < c → (itr (tB w m ow pc md bits) i (rc, P)).1.2.2.2.2.1 ≤ 1000 ∧ ∃ f, (tK (itr (tB w m ow pc md bits) i (rc, P)).1 (bits i) ((w - 2) * 8)).2.2.2.1 0 = nI f ∧ f < 2 ^ 31 := fun i hi => by
          have r1 := q2 i (by omega)
          have r2 := q2 (i + 1) (by omega)
          refine ⟨?_, ?_⟩
          · have := phR.p r1.2.2.2.2.2.2.2.2.2 hw9
            omega
          · obtain ⟨f, b1, b2⟩ := r2.2.2.2.2.2.2.2.2.1 0 (by omega)
            rw [itr_s, tB_fm] at b2
            exact ⟨f, b2, by omega⟩
        have hans : (itr (tB w m ow pc md bits) c (rc, P)).1.2.2.1 0 - rc.2.2.1 0 = R c 9 - now 9 := by
          rw [← hend.2.2.2.2.2.2.1 0 (by omega), ← hrc.2.2.1 0 (by omega)]
        refine op_receive_ok _ (R c 9 - now 9) (n, q, sC cnt, (nw + 1) % 4, (w, m, true, tk, ow, (itr (tB w m ow pc md bits) c (rc, P)).2, pc, nx, (va_cpy bits bits c 0 (nb - c)), (nb - c), (itr (tB w m ow pc md bits) c (rc, P)).1, md), svS S nw (w, m, true, tk, ow, P, pc, nx, bits, nb, rc, md), d) (mRcv R nb c, mKeep now past cnt, mKept cnt, nI 0, drawn, hash) ⟨rowR_ch hend (fun i g1 g2 => (shB_out c _ g2 _).trans (upd_n g1)) ((shB_out c _ (by omega) _).trans (upd_s _ _ _)) (by omega) (chR_drop hend.2.2.2.1 hcb), hpast.keep hk hnw hR.1, (mKept_sC hk).symm, by show mKept cnt ≤ 4; unfold mKept; split <;> omega, Nat.mod_lt _ (by omega)⟩ rfl (fun l hl G hs hc => ?_) (fun l hl F hs => ?_)
        · have h9 := c_X5_receive_t hl K G x hs n q cnt nw w m tk ow P pc nx bits nb rc md S d hc hpc hw6 hw9 hm8 hmd c hc1 hcb hok
          rw [hans] at h9
          exact h9
        · exact c_X6_receive_t hl K F (x + 229) hs now past thrown cnt hk drawn hash w nb c hw6 hw9 e3 e5 hnb hc1 hcb R q0 q1 hend.1.2.2.2.2.2.1
      · exact op_receive_x2 _ (nI 0) hR (fun l hl G hs hc => c_X5_receive_f3 hl K _ _ _ _ _ _ _ _ _ _ _ _ _ _ _ _ _ _ _ _ hc hpc c hc1 hc9 (by omega)) (fun l hl F hs => c_X6_receive_f3 hl K F (x + 229) hs now past thrown cnt hk drawn hash nb c hc1 hc9 e3 e5 (by omega))
    | false => exact op_receive_x2 _ (nI 0) hR (fun l hl G hs hc => c_X5_receive_f2 hl K _ _ _ _ _ _ _ _ _ _ _ _ _ _ _ _ _ _ _ _ hc hpc c hc1 hc9) (fun l hl F hs => c_X6_receive_f2 hl K F (x + 229) hs now past thrown cnt hk drawn hash c hc1 hc9 e3)
  · exact op_receive_x1 _ (nI 0) hR (fun l hl G hs hc => c_X5_receive_f1 hl K _ _ _ _ _ _ _ _ _ _ _ _ _ _ _ _ _ _ _ _ _ hc hpc p0 hbad) (fun l hl F hs => c_X6_receive_f1 hl K F (x + 229) hs now past thrown cnt hk drawn hash p0 hbad)
