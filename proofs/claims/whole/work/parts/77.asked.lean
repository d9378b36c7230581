/-! ===== the plan is asked ===== -/
theorem cntB_mono {P : Nat → Bool} : ∀ {n k : Nat}, k ≤ n → cntB P k ≤ cntB P n
  | 0, k, h => by rw [show k = 0 by omega]; exact Nat.le_refl _
  | n + 1, k, h => by
    by_cases e : k = n + 1
    · rw [e]; exact Nat.le_refl _
    · have := cntB_mono (P := P) (n := n) (k := k) (by omega)
      show cntB P k ≤ cntB P n + _
      omega
theorem cnt_reach {P : Nat → Bool} {s : Nat} : ∀ {n : Nat}, s < cntB P n → ∃ k, k < n ∧ P k = true ∧ cntB P k = s
  | 0, h => absurd h (Nat.not_lt_zero _)
  | n + 1, h => by
    by_cases q : s < cntB P n
    · obtain ⟨k, h1, h2⟩ := cnt_reach q
      exact ⟨k, by omega, h2⟩
    · cases e : P n with
      | true => rw [cntB_t e] at h; exact ⟨n, by omega, e, by omega⟩
      | false => rw [cntB_f e] at h; omega
theorem oP_cnt (ow : Nat → Int32) (p : Int32) (n : Nat) : cntB (oP ow p) n ≤ n := cntB_le _ n
set_option maxRecDepth 100000 in
set_option maxHeartbeats 4000000 in
theorem OP_ownerOf {K : jK} {x : Nat} {c : FcV} {v : MdV} (hR : RelV c v) (p0 p1 : Int32) : OpI K x (fun l G hs post => CtW l K yL_ownerOf cL_ownerOf 5 (some .int) [(0, 10, 13, 24), (0, 10, 17, 19)] 8 125 3 18 [.ref x, .int p0, .int p1, .ref (x + 233)] G hs post) (fun l G hs post => Ct l K yX6_ownerOf cX6_ownerOf 3 (some .int) 1 22 0 0 [.ref (x + 229), .int p0, .int p1] G hs post jno) c v := by
  obtain ⟨n, q, cnt, nw, ⟨w, m, pl, tk, ow, P, pc, nx, bits, nb, rc, md⟩, S, d⟩ := c
  obtain ⟨now, past, kept, thrown, drawn, hash⟩ := v
  have hrow : rowR now (w, m, pl, tk, ow, P, pc, nx, bits, nb, rc, md) := hR.1
  have hpast : pastR past kept S nw := hR.2.1
  have hcnt : cnt = kept := hR.2.2.1
  subst hcnt
  have hk : cnt ≤ 4 := hR.2.2.2.1
  have hnw : nw < 4 := hR.2.2.2.2
  obtain ⟨⟨e0, e1, e2, e3, e4, e5, e6, hw6, hw9, hmo, hpc, hnx, hnb, hmd⟩, hpar, hly, hch, hrc⟩ := hrow
  have hm8 : m ≤ 8 := by omega
  rcases ix_cases p0 m with ⟨f, hf, rfl⟩ | hbad
  · rcases ix_cases p1 w with ⟨k, hk2, rfl⟩ | hbad2
    · cases pl with
      | true =>
        have e9 : now (201 + 16 * f + k) = ow (16 * f + k) := by rw [Nat.add_assoc]; exact (hly rfl).1 _ (by omega)
        exact op_ownerOf_q _ _ (ow (16 * f + k)) (now, past, cnt, nI 0, drawn, hash) hR rfl (fun l hl G hs hc => c_X5_ownerOf_t hl K _ _ _ _ _ _ _ _ _ _ _ _ _ _ _ _ _ _ _ _ hc hpc hw9 hm8 f k hf hk2) (fun l hl F hs => by
          have := c_X6_ownerOf_t hl K F (x + 229) hs now past (nI cnt) thrown drawn hash w m e0 e1 hw9 hm8 f k hf hk2 e3
          rw [e9] at this
          exact this)
      | false => exact op_ownerOf_x2 _ _ (nI 0) hR (fun l hl G hs hc => c_X5_ownerOf_f3 hl K _ _ _ _ _ _ _ _ _ _ _ _ _ _ _ _ _ _ _ _ hc hpc hw9 hm8 f k hf hk2) (fun l hl F hs => c_X6_ownerOf_f2 hl K F (x + 229) hs now past (nI cnt) thrown drawn hash w m e0 e1 hw9 hm8 f k hf hk2 e3)
    · exact op_ownerOf_x1 _ _ (nI 0) hR (fun l hl G hs hc => c_X5_ownerOf_f2 hl K _ _ _ _ _ _ _ _ _ _ _ _ _ _ _ _ _ _ _ _ _ hc hpc hw9 hm8 f p1 hf hbad2) (fun l hl F hs => c_X6_ownerOf_f1b hl K F (x + 229) hs now past (nI cnt) thrown drawn hash w m e0 e1 hw9 hm8 f hf p1 hbad2)
  · exact op_ownerOf_x1 _ _ (nI 0) hR (fun l hl G hs hc => c_X5_ownerOf_f1 hl K _ _ _ _ _ _ _ _ _ _ _ _ _ _ _ _ _ _ _ _ _ hc hpc hw9 hm8 p0 p1 hbad) (fun l hl F hs => c_X6_ownerOf_f1a hl K F (x + 229) hs now past (nI cnt) thrown drawn hash w m e0 e1 hw9 hm8 p0 p1 hbad)
set_option maxRecDepth 100000 in
set_option maxHeartbeats 4000000 in
theorem OP_efficiency {K : jK} {x : Nat} {c : FcV} {v : MdV} (hR : RelV c v) : OpD K x (fun l G hs post => CtW l K yL_efficiency cL_efficiency 3 (some .int) [(0, 7, 10, 19)] 8 122 1 6 [.ref x, .ref (x + 234)] G hs post) (fun l G hs post => Ct l K yX6_efficiency cX6_efficiency 1 (some .double) 1 22 0 0 [.ref (x + 229)] G hs post jno) c v := by
  obtain ⟨n, q, cnt, nw, ⟨w, m, pl, tk, ow, P, pc, nx, bits, nb, rc, md⟩, S, d⟩ := c
  obtain ⟨now, past, kept, thrown, drawn, hash⟩ := v
  have hrow : rowR now (w, m, pl, tk, ow, P, pc, nx, bits, nb, rc, md) := hR.1
  have hpast : pastR past kept S nw := hR.2.1
  have hcnt : cnt = kept := hR.2.2.1
  subst hcnt
  have hk : cnt ≤ 4 := hR.2.2.2.1
  have hnw : nw < 4 := hR.2.2.2.2
  obtain ⟨⟨e0, e1, e2, e3, e4, e5, e6, hw6, hw9, hmo, hpc, hnx, hnb, hmd⟩, hpar, hly, hch, hrc⟩ := hrow
  have hm8 : m ≤ 8 := by omega
  cases pl with
  | true =>
    obtain ⟨a1, a2, a3, a4⟩ := hly rfl
    have htk : cntB (tkP now w) (16 * m) = tk := (taken_eq hm8 a1 a3).trans a4.symm
    have ht9 : tk ≤ 128 := by rw [a4]; exact cntB_le _ _
    have hne := vd_ok ht9 hw6 hw9 hmo
    exact op_efficiency_q _ hne (now, past, cnt, nI 0, drawn, hash) hR rfl (fun l hl G hs hc => c_X5_efficiency_t hl K _ _ _ _ _ _ _ _ _ _ _ _ _ _ _ _ _ _ _ _ hc hpc hw9 hm8 hne) (fun l hl F hs => by
      have := c_X6_efficiency_t hl K F (x + 229) hs now past (nI cnt) thrown drawn hash w m e0 e1 hw6 hw9 hm8 e3 (by rw [htk]; exact hne)
      rw [htk] at this
      exact this)
  | false => exact op_efficiency_x1 FP.dconst0 hR (fun l hl G hs hc => c_X5_efficiency_f hl K _ _ _ _ _ _ _ _ _ _ _ _ _ _ _ _ _ _ _ _ hc hpc) (fun l hl F hs => c_X6_efficiency_f hl K F (x + 229) hs now past (nI cnt) thrown drawn hash e3)
set_option maxRecDepth 100000 in
set_option maxHeartbeats 4000000 in
theorem OP_slot {K : jK} {x : Nat} {c : FcV} {v : MdV} (hR : RelV c v) (p0 p1 p2 : Int32) : OpI K x (fun l G hs post => CtW l K yL_slot cL_slot 6 (some .int) [(0, 12, 15, 24), (0, 12, 19, 13), (0, 12, 23, 19)] 8 127 4 24 [.ref x, .int p0, .int p1, .int p2, .ref (x + 233)] G hs post) (fun l G hs post => Ct l K yX6_slot cX6_slot 5 (some .int) 2 43 0 0 [.ref (x + 229), .int p0, .int p1, .int p2] G hs post jno) c v := by
  obtain ⟨n, q, cnt, nw, ⟨w, m, pl, tk, ow, P, pc, nx, bits, nb, rc, md⟩, S, d⟩ := c
  obtain ⟨now, past, kept, thrown, drawn, hash⟩ := v
  have hrow : rowR now (w, m, pl, tk, ow, P, pc, nx, bits, nb, rc, md) := hR.1
  have hpast : pastR past kept S nw := hR.2.1
  have hcnt : cnt = kept := hR.2.2.1
  subst hcnt
  have hk : cnt ≤ 4 := hR.2.2.2.1
  have hnw : nw < 4 := hR.2.2.2.2
  obtain ⟨⟨e0, e1, e2, e3, e4, e5, e6, hw6, hw9, hmo, hpc, hnx, hnb, hmd⟩, hpar, hly, hch, hrc⟩ := hrow
  have hm8 : m ≤ 8 := by omega
  rcases ix_cases p0 pc with ⟨j, hj, rfl⟩ | hbad
  · rcases rg_cases p2 0 1 with ⟨g, -, hg, rfl⟩ | hbad2
    · cases pl with
      | true =>
        obtain ⟨a1, a2, a3, a4⟩ := hly rfl
        have hj1 : nI j ≠ -1 := nI_m1 (by omega)
        have hP : ∀ k, k < 16 * m → slP now w (nI j) k = oP ow (nI j) k := fun k hk => by
          unfold slP oP
          rw [a1 k (by omega)]
          refine decide_eq_decide.mpr ⟨fun q => q.2, fun q => ⟨?_, q⟩⟩
          by_cases e : k % 16 < w
          · exact e
          · exact absurd (q.symm.trans (a3 k (by omega) (by omega))) hj1
        have hC : ∀ n, n ≤ 16 * m → cntB (slP now w (nI j)) n = cntB (oP ow (nI j)) n := fun n hn => cntB_cg (fun o ho => hP o (by omega))
        by_cases hneg : p1 < 0
        · exact op_slot_x3 _ _ _ (nI 0) hR (fun l hl G hs hc => c_X5_slot_f4 hl K _ _ _ _ _ _ _ _ _ _ _ _ _ _ _ _ _ _ _ _ hc hpc j hj p1 g hg (fun k hk _ e => absurd hneg (by rw [← e]; exact nI_pos (by have := oP_cnt ow (nI j) k; omega)))) (fun l hl F hs => c_X6_slot_f4 hl K F (x + 229) hs now past (nI cnt) thrown drawn hash pc j e2 hpc hj p1 g hg e3 hneg)
        · obtain ⟨s, hs31, rfl⟩ := nI_of hneg
          rcases first_t (fun k => oP ow (nI j) k && decide (cntB (oP ow (nI j)) k = s)) 128 with hno | ⟨k0, b1, b2, b3⟩
          · have hno2 : ∀ k, k < 128 → oP ow (nI j) k = true → cntB (oP ow (nI j)) k ≠ s := fun k hk h1 h2 => by
              have := hno k hk
              simp only [h1, h2, decide_true, Bool.and_self] at this
              exact absurd this (by decide)
            exact op_slot_x3 _ _ _ (nI 0) hR (fun l hl G hs hc => c_X5_slot_f4 hl K _ _ _ _ _ _ _ _ _ _ _ _ _ _ _ _ _ _ _ _ hc hpc j hj (nI s) g hg (fun k hk h1 h2 => hno2 k hk h1 (nI_inj h2 (by have := oP_cnt ow (nI j) k; omega) hs31))) (fun l hl F hs => c_X6_slot_f5 hl K F (x + 229) hs now past (nI cnt) thrown drawn hash pc j e2 hpc hj w m e0 e1 hw6 hw9 hm8 s g hs31 hg e3 (fun k hk => by
              rw [hC k hk]
              by_cases q : cntB (oP ow (nI j)) k ≤ s
              · exact q
              · obtain ⟨k1, h1, h2, h3⟩ := cnt_reach (P := oP ow (nI j)) (s := s) (n := k) (by omega)
                exact absurd h3 (hno2 k1 (by omega) h2)) (fun k hk h1 h2 => hno2 k (by omega) ((hP k hk).symm.trans h1) ((hC k (by omega)).symm.trans h2)))
          · rw [Bool.and_eq_true] at b3
            have c1 : oP ow (nI j) k0 = true := b3.1
            have c2 : cntB (oP ow (nI j)) k0 = s := of_decide_eq_true b3.2
            have c3 : ∀ k, k < k0 → oP ow (nI j) k = true → cntB (oP ow (nI j)) k ≠ s := fun k hk h1 h2 => by
              have := b2 k hk
              simp only [h1, h2, decide_true, Bool.and_self] at this
              exact absurd this (by decide)
            have hk16 : k0 < 16 * m := by
              by_cases q : k0 < 16 * m
              · exact q
              · have e9 : ow k0 = nI j := of_decide_eq_true c1
                exact absurd (e9.symm.trans (a3 k0 b1 (by omega))) hj1
            rcases (show g = 0 ∨ g = 1 by omega) with rfl | rfl
            · exact op_slot_q _ _ _ (nI (k0 / 16)) (now, past, cnt, nI 0, drawn, hash) hR rfl (fun l hl G hs hc => c_X5_slot_t0 hl K _ _ _ _ _ _ _ _ _ _ _ _ _ _ _ _ _ _ _ _ hc hpc j hj (nI s) k0 b1 c1 (by rw [c2]) (fun k hk h1 h2 => c3 k hk h1 (nI_inj h2 (by have := oP_cnt ow (nI j) k; omega) hs31))) (fun l hl F hs => c_X6_slot_t0 hl K F (x + 229) hs now past (nI cnt) thrown drawn hash pc j e2 hpc hj w m e0 e1 hw6 hw9 hm8 e3 s hs31 k0 hk16 ((hP k0 hk16).trans c1) ((hC k0 (by omega)).trans c2) (fun k hk => by rw [hC k (by omega), ← c2]; exact cntB_mono hk) (fun k hk h1 h2 => c3 k hk ((hP k (by omega)).symm.trans h1) ((hC k (by omega)).symm.trans h2)))
            · exact op_slot_q _ _ _ (nI (k0 % 16)) (now, past, cnt, nI 0, drawn, hash) hR rfl (fun l hl G hs hc => c_X5_slot_t1 hl K _ _ _ _ _ _ _ _ _ _ _ _ _ _ _ _ _ _ _ _ hc hpc j hj (nI s) k0 b1 c1 (by rw [c2]) (fun k hk h1 h2 => c3 k hk h1 (nI_inj h2 (by have := oP_cnt ow (nI j) k; omega) hs31))) (fun l hl F hs => c_X6_slot_t1 hl K F (x + 229) hs now past (nI cnt) thrown drawn hash pc j e2 hpc hj w m e0 e1 hw6 hw9 hm8 e3 s hs31 k0 hk16 ((hP k0 hk16).trans c1) ((hC k0 (by omega)).trans c2) (fun k hk => by rw [hC k (by omega), ← c2]; exact cntB_mono hk) (fun k hk h1 h2 => c3 k hk ((hP k (by omega)).symm.trans h1) ((hC k (by omega)).symm.trans h2)))
      | false => exact op_slot_x3 _ _ _ (nI 0) hR (fun l hl G hs hc => c_X5_slot_f3 hl K _ _ _ _ _ _ _ _ _ _ _ _ _ _ _ _ _ _ _ _ hc hpc j hj p1 g hg) (fun l hl F hs => c_X6_slot_f3 hl K F (x + 229) hs now past (nI cnt) thrown drawn hash pc j e2 hpc hj p1 g hg e3)
    · exact op_slot_x2 _ _ _ (nI 0) hR (fun l hl G hs hc => c_X5_slot_f2 hl K _ _ _ _ _ _ _ _ _ _ _ _ _ _ _ _ _ _ _ _ _ hc hpc j hj p1 p2 hbad2) (fun l hl F hs => c_X6_slot_f2 hl K F (x + 229) hs now past (nI cnt) thrown drawn hash pc j e2 hpc hj p1 p2 hbad2)
  · exact op_slot_x1 _ _ _ (nI 0) hR (fun l hl G hs hc => c_X5_slot_f1 hl K _ _ _ _ _ _ _ _ _ _ _ _ _ _ _ _ _ _ _ _ _ hc hpc p0 p1 p2 hbad) (fun l hl F hs => c_X6_slot_f1 hl K F (x + 229) hs now past (nI cnt) thrown drawn hash pc p0 e2 hpc hbad p1 p2)
