/-! ===== calls that change little ===== -/
theorem mAnew_n (r : Nat → Int32) {j : Nat} (h : j ≠ 3 ∧ j ≠ 4 ∧ j ≠ 5 ∧ j ≠ 7 ∧ j ≠ 8 ∧ j ≠ 15 ∧ j ≠ 16 ∧ j ≠ 17) : mAnew r j = r j := by
  unfold mAnew mSear
  rw [upd_n (by omega), upd_n (by omega), upd_n (by omega), upd_n (by omega), upd_n (by omega), upd_n (by omega), upd_n (by omega), upd_n (by omega)]
theorem mAnew_0 (r : Nat → Int32) : mAnew r 3 = nI 0 ∧ mAnew r 4 = nI 0 ∧ mAnew r 5 = nI 0 ∧ mAnew r 7 = nI 0 ∧ mAnew r 8 = nI 0 ∧ mAnew r 15 = nI 0 ∧ mAnew r 16 = nI 0 ∧ mAnew r 17 = nI 0 := by
  unfold mAnew mSear
  refine ⟨?_, ?_, ?_, ?_, ?_, ?_, ?_, ?_⟩
  · rw [upd_n (by omega), upd_n (by omega), upd_n (by omega), upd_n (by omega), upd_n (by omega), upd_n (by omega), upd_n (by omega), upd_s]
  · rw [upd_n (by omega), upd_n (by omega), upd_n (by omega), upd_n (by omega), upd_n (by omega), upd_s]
  · rw [upd_n (by omega), upd_n (by omega), upd_n (by omega), upd_n (by omega), upd_n (by omega), upd_n (by omega), upd_s]
  · rw [upd_n (by omega), upd_n (by omega), upd_n (by omega), upd_s]
  · rw [upd_n (by omega), upd_n (by omega), upd_n (by omega), upd_n (by omega), upd_s]
  · rw [upd_n (by omega), upd_n (by omega), upd_s]
  · rw [upd_n (by omega), upd_s]
  · rw [upd_s]
theorem phR.p {ph tk lat last : Int32} {wd : Nat → Int32} {rc : RcV} {w : Nat} (h : phR ph tk lat last wd rc w) (hw : w ≤ 16) : rc.2.2.2.2.1 ≤ 129 := by
  rcases h with h | h | ⟨-, -, t, h1, h2, -⟩ | h
  · exact h.2.2.1
  · have := h.2.2.1
    omega
  · omega
  · have := h.2.2.1
    omega
/-- everything begins anew -/
theorem rowR_anew {r : Nat → Int32} {w m tk : Nat} {ow : Nat → Int32} {P : Nat → PaV} {pc : Nat} {bits : Nat → Int32} {rc : RcV} {md : Nat} (e0 : r 0 = nI w) (e1 : r 1 = nI m) (e2 : r 2 = nI pc) (e6 : r 6 = nI md) (h1 : 6 ≤ w) (h2 : w ≤ 16) (h3 : mOk m) (h4 : pc ≤ 12) (h5 : md ≤ 2) (hp : ∀ p, p < pc → parR r p (P p)) (hc : ∀ k, k < 6 → r (9 + k) = rc.2.2.1 k) (hf : byR rc.2.2.2.1) (hq : rc.2.2.2.2.1 ≤ 129) :
    rowR (mAnew r) (w, m, false, tk, ow, P, pc, 0, bits, 0, (nI 0, nI 0, rc.2.2.1, rc.2.2.2.1, rc.2.2.2.2.1, nI 0), md) := by
  obtain ⟨a3, a4, a5, a7, a8, a15, a16, a17⟩ := mAnew_0 r
  refine ⟨⟨by rw [mAnew_n r (by omega), e0], by rw [mAnew_n r (by omega), e1], by rw [mAnew_n r (by omega), e2], a3, a4, a5, by rw [mAnew_n r (by omega), e6], h1, h2, h3, h4, by omega, by omega, h5⟩, fun p hp9 => (hp p hp9).mv (fun j hj => mAnew_n r (by omega)), fun h => absurd h (by decide), fun k hk => absurd hk (Nat.not_lt_zero _), ?_⟩
  refine ⟨a7, a8, fun k hk => by rw [mAnew_n r (by omega)]; exact hc k hk, ⟨0, by omega, rfl⟩, hf, Or.inl ⟨rfl, a15, hq, 0, by omega, a16, ?_, fun _ => ?_⟩⟩
  · rw [a17]
    rfl
  · show hN (nI 0) % 65536 < 2 ^ 0
    decide
/-- a parameter changes -/
theorem rowR_par {r r' : Nat → Int32} {w m : Nat} {pl : Bool} {tk : Nat} {ow : Nat → Int32} {P : Nat → PaV} {pc nx : Nat} {bits : Nat → Int32} {nb : Nat} {rc : RcV} {md : Nat} (h : rowR r (w, m, pl, tk, ow, P, pc, nx, bits, nb, rc, md)) {j : Nat} {u : PaV} (hj : j < pc) (e : ∀ i, (i < 33 + 14 * j ∨ 33 + 14 * j + 14 ≤ i) → r' i = r i) (hu : parR r' j u) : rowR r' (w, m, pl, tk, ow, va_up P j u, pc, nx, bits, nb, rc, md) := by
  obtain ⟨h1, h2, h3, h4, h5⟩ := h
  have hp : pc ≤ 12 := h1.2.2.2.2.2.2.2.2.2.2.1
  refine ⟨h1.mv (fun i hi => e i (by omega)), fun p hp9 => ?_, h3.mv (fun k hk => e _ (by omega)), h4.mv (fun k hk => e _ (by omega)), h5.mv (fun i _ hi => e i (by omega))⟩
  by_cases q : p = j
  · subst q
    rw [va_up_self]
    exact hu
  · rw [va_up_ne _ _ q]
    exact (h2 p hp9).mv (fun i hi => e _ (by omega))
theorem flF_at (v : Int32) (f : Nat → Int32) : ∀ n i, i < n → itr (flF v) n f i = v
  | n + 1, i, hi => by
    rw [itr_s]
    unfold flF
    by_cases e : i = n
    · subst e
      rw [upd_s]
    · rw [upd_n e]
      exact flF_at v f n i (by omega)
theorem pz_at (p : Nat) (r : Nat → Int32) : ∀ n k, k < n → itr (pz p) n r (33 + 14 * p + k) = nI 0
  | n + 1, k, hk => by
    rw [itr_s]
    unfold pz
    by_cases e : k = n
    · subst e
      rw [upd_s]
    · rw [upd_n (by omega)]
      exact pz_at p r n k (by omega)
theorem pl255_at (p : Nat) (r : Nat → Int32) : ∀ n k, (k < n → itr (pl255 p) n r (33 + 14 * p + (4 + 2 * k + 1)) = nI 255) ∧ itr (pl255 p) n r (33 + 14 * p + (4 + 2 * k)) = r (33 + 14 * p + (4 + 2 * k))
  | 0, k => ⟨fun h => absurd h (Nat.not_lt_zero _), rfl⟩
  | n + 1, k => by
    obtain ⟨h1, h2⟩ := pl255_at p r n k
    rw [itr_s]
    unfold pl255
    refine ⟨fun hk => ?_, ?_⟩
    · by_cases e : k = n
      · subst e
        rw [upd_s]
      · rw [upd_n (by omega)]
        exact h1 (by omega)
    · rw [upd_n (by omega)]
      exact h2
theorem pl255_o (p : Nat) (r : Nat → Int32) {i : Nat} (h : i < 4 ∨ 10 ≤ i) : ∀ n, n ≤ 3 → itr (pl255 p) n r (33 + 14 * p + i) = r (33 + 14 * p + i)
  | 0, _ => rfl
  | n + 1, hn => by
    rw [itr_s]
    unfold pl255
    rw [upd_n (by omega)]
    exact pl255_o p r h n (by omega)
/-- a new parameter -/
theorem parR_new (r : Nat → Int32) (p : Nat) {rate : Int32} (hr : rOk rate) (lw hg : Nat → Int32) : parR (mPar r p rate) p (rate, nI 0, -1, nI 0, itr (flF (nI 0)) 3 lw, itr (flF (nI 255)) 3 hg, nI 1, false, nI 0, nI 0) := by
  unfold mPar
  have z : ∀ k, k < 14 → itr (pz p) 14 r (33 + 14 * p + k) = nI 0 := fun k hk => pz_at p r 14 k hk
  refine ⟨?_, ?_, ?_, ?_, fun j hj => ⟨?_, ?_⟩, ?_, ?_, ?_, ?_, hr⟩
  · rw [pl255_o p _ (by omega) 3 (by omega), upd_n (by omega), upd_n (by omega), upd_s]
  · rw [pl255_o p _ (by omega) 3 (by omega), upd_n (by omega), upd_n (by omega), upd_n (by omega), z _ (by omega)]
  · rw [pl255_o p _ (by omega) 3 (by omega), upd_n (by omega), upd_s]
  · rw [pl255_o p _ (by omega) 3 (by omega), upd_n (by omega), upd_n (by omega), upd_n (by omega), z _ (by omega)]
  · rw [(pl255_at p _ 3 j).2, upd_n (by omega), upd_n (by omega), upd_n (by omega), z _ (by omega)]
    exact (flF_at _ _ 3 j hj).symm
  · rw [(pl255_at p _ 3 j).1 hj]
    exact (flF_at _ _ 3 j hj).symm
  · rw [pl255_o p _ (by omega) 3 (by omega), upd_s]
  · rw [pl255_o p _ (by omega) 3 (by omega), upd_n (by omega), upd_n (by omega), upd_n (by omega), z _ (by omega)]
    rfl
  · rw [pl255_o p _ (by omega) 3 (by omega), upd_n (by omega), upd_n (by omega), upd_n (by omega), z _ (by omega)]
  · rw [pl255_o p _ (by omega) 3 (by omega), upd_n (by omega), upd_n (by omega), upd_n (by omega), z _ (by omega)]
theorem ix_cases (p : Int32) (n : Nat) : (∃ j, j < n ∧ p = nI j) ∨ ∀ j, j < n → p ≠ nI j := by
  by_cases h : ∃ j, j < n ∧ p = nI j
  · exact Or.inl h
  · exact Or.inr (fun j hj e => h ⟨j, hj, e⟩)
theorem rg_cases (p : Int32) (a b : Nat) : (∃ j, a ≤ j ∧ j ≤ b ∧ p = nI j) ∨ ∀ j, a ≤ j → j ≤ b → p ≠ nI j := by
  by_cases h : ∃ j, a ≤ j ∧ j ≤ b ∧ p = nI j
  · exact Or.inl h
  · exact Or.inr (fun j h1 h2 e => h ⟨j, h1, h2, e⟩)
set_option maxRecDepth 100000 in
set_option maxHeartbeats 4000000 in
theorem OP_setFrame {K : jK} {x : Nat} {c : FcV} {v : MdV} (hR : RelV c v) (p0 p1 : Int32) : OpI K x (fun l G hs post => CtW l K yL_setFrame cL_setFrame 5 (some .int) [(0, 10, 13, 13)] 8 124 2 12 [.ref x, .int p0, .int p1, .ref (x + 233)] G hs post) (fun l G hs post => Ct l K yX6_setFrame cX6_setFrame 3 (some .int) 2 40 0 0 [.ref (x + 229), .int p0, .int p1] G hs post jno) c v := by
  obtain ⟨n, q, cnt, nw, ⟨w, m, pl, tk, ow, P, pc, nx, bits, nb, rc, md⟩, S, d⟩ := c
  obtain ⟨now, past, kept, thrown, drawn, hash⟩ := v
  have hrow : rowR now (w, m, pl, tk, ow, P, pc, nx, bits, nb, rc, md) := hR.1
  have hpast : pastR past kept S nw := hR.2.1
  have hcnt : cnt = kept := hR.2.2.1
  subst hcnt
  have hk : cnt ≤ 4 := hR.2.2.2.1
  have hnw : nw < 4 := hR.2.2.2.2
  obtain ⟨⟨e0, e1, e2, e3, e4, e5, e6, hw6, hw9, hmo, hpc, hnx, hnb, hmd⟩, hpar, hly, hch, hrc⟩ := hrow
  rcases rg_cases p0 6 16 with ⟨w2, a1, a2, rfl⟩ | hbad
  · by_cases hm : ∃ m2, mOk m2 ∧ p1 = nI m2
    · obtain ⟨m2, hm2, rfl⟩ := hm
      refine op_setFrame_ok _ _ (nI (w2 * m2)) (n, q, sC cnt, (nw + 1) % 4, (w2, m2, false, tk, ow, P, pc, 0, bits, 0, (nI 0, nI 0, rc.2.2.1, rc.2.2.2.1, rc.2.2.2.2.1, nI 0), md), svS S nw (w, m, pl, tk, ow, P, pc, nx, bits, nb, rc, md), d) (mAnew (upd (upd now 0 (nI w2)) 1 (nI m2)), mKeep now past cnt, mKept cnt, nI 0, drawn, hash) ⟨?_, hpast.keep hk hnw hR.1, (mKept_sC hk).symm, by show mKept cnt ≤ 4; unfold mKept; split <;> omega, Nat.mod_lt _ (by omega)⟩ rfl (fun l hl G hs hc => c_X5_setFrame_t hl K _ _ _ _ _ _ _ _ _ _ _ _ _ _ _ _ _ _ _ _ _ hc hpc w2 m2 a1 a2 hm2) (fun l hl F hs => c_X6_setFrame_t hl K F (x + 229) hs now past thrown cnt hk drawn hash w2 m2 a1 a2 hm2)
      refine rowR_anew ?_ ?_ ?_ ?_ a1 a2 hm2 hpc hmd (fun p hp => (hpar p hp).mv (fun j hj => ?_)) (fun k hk => ?_) hrc.2.2.2.2.1 (hrc.2.2.2.2.2.p hw9)
      · rw [upd_n (by omega), upd_s]
      · rw [upd_s]
      · rw [upd_n (by omega), upd_n (by omega), e2]
      · rw [upd_n (by omega), upd_n (by omega), e6]
      · rw [upd_n (by omega), upd_n (by omega)]
      · rw [upd_n (by omega), upd_n (by omega)]
        exact hrc.2.2.1 k hk
    · exact op_setFrame_x1 _ _ (nI 0) hR (fun l hl G hs hc => c_X5_setFrame_f2 hl K _ _ _ _ _ _ _ _ _ _ _ _ _ _ _ _ _ _ _ _ _ hc hpc w2 p1 a1 a2 (fun j hj e => hm ⟨j, hj, e⟩)) (fun l hl F hs => c_X6_setFrame_f hl K F (x + 229) hs now past thrown cnt hk drawn hash _ _ (fun w3 m3 _ _ hm3 _ e => hm ⟨m3, hm3, e⟩))
  · exact op_setFrame_x1 _ _ (nI 0) hR (fun l hl G hs hc => c_X5_setFrame_f1 hl K _ _ _ _ _ _ _ _ _ _ _ _ _ _ _ _ _ _ _ _ _ hc hpc p0 p1 hbad) (fun l hl F hs => c_X6_setFrame_f hl K F (x + 229) hs now past thrown cnt hk drawn hash _ _ (fun w3 m3 h1 h2 _ e _ => hbad w3 h1 h2 e))
set_option maxRecDepth 100000 in
set_option maxHeartbeats 4000000 in
theorem OP_addParameter {K : jK} {x : Nat} {c : FcV} {v : MdV} (hR : RelV c v) (p0 : Int32) : OpI K x (fun l G hs post => CtW l K yL_addParameter cL_addParameter 4 (some .int) [(0, 9, 12, 13), (0, 9, 15, 19)] 8 126 2 12 [.ref x, .int p0, .ref (x + 233)] G hs post) (fun l G hs post => Ct l K yX6_addParameter cX6_addParameter 5 (some .int) 2 40 0 0 [.ref (x + 229), .int p0] G hs post jno) c v := by
  obtain ⟨n, q, cnt, nw, ⟨w, m, pl, tk, ow, P, pc, nx, bits, nb, rc, md⟩, S, d⟩ := c
  obtain ⟨now, past, kept, thrown, drawn, hash⟩ := v
  have hrow : rowR now (w, m, pl, tk, ow, P, pc, nx, bits, nb, rc, md) := hR.1
  have hpast : pastR past kept S nw := hR.2.1
  have hcnt : cnt = kept := hR.2.2.1
  subst hcnt
  have hk : cnt ≤ 4 := hR.2.2.2.1
  have hnw : nw < 4 := hR.2.2.2.2
  obtain ⟨⟨e0, e1, e2, e3, e4, e5, e6, hw6, hw9, hmo, hpc, hnx, hnb, hmd⟩, hpar, hly, hch, hrc⟩ := hrow
  by_cases hr : rOk p0
  · by_cases hlt : pc < 12
    · refine op_addParameter_ok _ (nI pc) (n, q, sC cnt, (nw + 1) % 4, (w, m, false, tk, ow, va_up P pc (p0, nI 0, -1, nI 0, itr (flF (nI 0)) 3 (P pc).2.2.2.2.1, itr (flF (nI 255)) 3 (P pc).2.2.2.2.2.1, nI 1, false, nI 0, nI 0), pc + 1, 0, bits, 0, (nI 0, nI 0, rc.2.2.1, rc.2.2.2.1, rc.2.2.2.2.1, nI 0), md), svS S nw (w, m, pl, tk, ow, P, pc, nx, bits, nb, rc, md), d) (mAdd now pc p0, mKeep now past cnt, mKept cnt, nI 0, drawn, hash) ⟨?_, hpast.keep hk hnw hR.1, (mKept_sC hk).symm, by show mKept cnt ≤ 4; unfold mKept; split <;> omega, Nat.mod_lt _ (by omega)⟩ rfl (fun l hl G hs hc => c_X5_addParameter_t hl K _ _ _ _ _ _ _ _ _ _ _ _ _ _ _ _ _ _ _ _ _ hc hpc p0 hr hlt) (fun l hl F hs => c_X6_addParameter_t hl K F (x + 229) hs now past thrown cnt hk drawn hash pc e2 hlt p0 hr)
      unfold mAdd
      have ho : ∀ i, i ≠ 2 → (i < 33 + 14 * pc ∨ 33 + 14 * pc + 14 ≤ i) → upd (mPar now pc p0) 2 (nI (pc + 1)) i = now i := fun i h1 h2 => by rw [upd_n h1, mPar_out now pc p0 h2]
      refine rowR_anew ?_ ?_ ?_ ?_ hw6 hw9 hmo (by omega) hmd (fun p hp => ?_) (fun k hk => ?_) hrc.2.2.2.2.1 (hrc.2.2.2.2.2.p hw9)
      · rw [ho _ (by omega) (by omega), e0]
      · rw [ho _ (by omega) (by omega), e1]
      · rw [upd_s]
      · rw [ho _ (by omega) (by omega), e6]
      · by_cases e : p = pc
        · subst e
          rw [va_up_self]
          exact (parR_new now p hr _ _).mv (fun j hj => upd_n (by omega))
        · rw [va_up_ne _ _ e]
          exact (hpar p (by omega)).mv (fun j hj => ho _ (by omega) (by omega))
      · rw [ho _ (by omega) (by omega)]
        exact hrc.2.2.1 k hk
    · have h12 : pc = 12 := by omega
      exact op_addParameter_x2 _ (nI 0) hR (fun l hl G hs hc => c_X5_addParameter_f2 hl K _ _ _ _ _ _ _ _ _ _ _ _ _ _ _ _ _ _ _ _ _ hc hpc p0 hr h12) (fun l hl F hs => c_X6_addParameter_f2 hl K F (x + 229) hs now past thrown cnt hk drawn hash (by rw [← h12]; exact e2) p0 hr)
  · exact op_addParameter_x1 _ (nI 0) hR (fun l hl G hs hc => c_X5_addParameter_f1 hl K _ _ _ _ _ _ _ _ _ _ _ _ _ _ _ _ _ _ _ _ _ hc hpc p0 hr) (fun l hl F hs => c_X6_addParameter_f1 hl K F (x + 229) hs now past thrown cnt hk drawn hash p0 hr)
set_option maxRecDepth 100000 in
set_option maxHeartbeats 4000000 in
theorem OP_sample {K : jK} {x : Nat} {c : FcV} {v : MdV} (hR : RelV c v) (p0 : Int32) : OpI K x (fun l G hs post => CtW l K yL_sample cL_sample 4 (some .int) [(0, 9, 12, 24)] 9 145 1 6 [.ref x, .int p0, .ref (x + 233)] G hs post) (fun l G hs post => Ct l K yX6_sample cX6_sample 2 (some .int) 3 65 0 0 [.ref (x + 229), .int p0] G hs post jno) c v := by
  obtain ⟨n, q, cnt, nw, ⟨w, m, pl, tk, ow, P, pc, nx, bits, nb, rc, md⟩, S, d⟩ := c
  obtain ⟨now, past, kept, thrown, drawn, hash⟩ := v
  have hrow : rowR now (w, m, pl, tk, ow, P, pc, nx, bits, nb, rc, md) := hR.1
  have hpast : pastR past kept S nw := hR.2.1
  have hcnt : cnt = kept := hR.2.2.1
  subst hcnt
  have hk : cnt ≤ 4 := hR.2.2.2.1
  have hnw : nw < 4 := hR.2.2.2.2
  obtain ⟨⟨e0, e1, e2, e3, e4, e5, e6, hw6, hw9, hmo, hpc, hnx, hnb, hmd⟩, hpar, hly, hch, hrc⟩ := hrow
  rcases ix_cases p0 pc with ⟨j, hj, rfl⟩ | hbad
  · obtain ⟨h0, h1, h2, h3, h4, h5, h6, h7, h8, h9⟩ := hpar j hj
    exact op_sample_q _ (P j).2.2.1 (now, past, cnt, nI 0, drawn, hash) hR rfl (fun l hl G hs hc => c_X5_sample_t hl K _ _ _ _ _ _ _ _ _ _ _ _ _ _ _ _ _ _ _ _ _ hc hpc j hj) (fun l hl F hs => by
      have := c_X6_sample_t hl K F (x + 229) hs now past (nI cnt) thrown drawn hash pc j e2 hpc hj
      rw [h2] at this
      exact this)
  · exact op_sample_x1 _ (nI 0) hR (fun l hl G hs hc => c_X5_sample_f hl K _ _ _ _ _ _ _ _ _ _ _ _ _ _ _ _ _ _ _ _ _ hc hpc p0 hbad) (fun l hl F hs => c_X6_sample_f hl K F (x + 229) hs now past (nI cnt) thrown drawn hash pc p0 e2 hpc hbad)
set_option maxRecDepth 100000 in
set_option maxHeartbeats 4000000 in
theorem OP_samples {K : jK} {x : Nat} {c : FcV} {v : MdV} (hR : RelV c v) (p0 : Int32) : OpI K x (fun l G hs post => CtW l K yL_samples cL_samples 4 (some .int) [(0, 9, 12, 24)] 9 145 1 6 [.ref x, .int p0, .ref (x + 233)] G hs post) (fun l G hs post => Ct l K yX6_samples cX6_samples 2 (some .int) 3 65 0 0 [.ref (x + 229), .int p0] G hs post jno) c v := by
  obtain ⟨n, q, cnt, nw, ⟨w, m, pl, tk, ow, P, pc, nx, bits, nb, rc, md⟩, S, d⟩ := c
  obtain ⟨now, past, kept, thrown, drawn, hash⟩ := v
  have hrow : rowR now (w, m, pl, tk, ow, P, pc, nx, bits, nb, rc, md) := hR.1
  have hpast : pastR past kept S nw := hR.2.1
  have hcnt : cnt = kept := hR.2.2.1
  subst hcnt
  have hk : cnt ≤ 4 := hR.2.2.2.1
  have hnw : nw < 4 := hR.2.2.2.2
  obtain ⟨⟨e0, e1, e2, e3, e4, e5, e6, hw6, hw9, hmo, hpc, hnx, hnb, hmd⟩, hpar, hly, hch, hrc⟩ := hrow
  rcases ix_cases p0 pc with ⟨j, hj, rfl⟩ | hbad
  · obtain ⟨h0, h1, h2, h3, h4, h5, h6, h7, h8, h9⟩ := hpar j hj
    exact op_samples_q _ (P j).2.2.2.1 (now, past, cnt, nI 0, drawn, hash) hR rfl (fun l hl G hs hc => c_X5_samples_t hl K _ _ _ _ _ _ _ _ _ _ _ _ _ _ _ _ _ _ _ _ _ hc hpc j hj) (fun l hl F hs => by
      have := c_X6_samples_t hl K F (x + 229) hs now past (nI cnt) thrown drawn hash pc j e2 hpc hj
      rw [h3] at this
      exact this)
  · exact op_samples_x1 _ (nI 0) hR (fun l hl G hs hc => c_X5_samples_f hl K _ _ _ _ _ _ _ _ _ _ _ _ _ _ _ _ _ _ _ _ _ hc hpc p0 hbad) (fun l hl F hs => c_X6_samples_f hl K F (x + 229) hs now past (nI cnt) thrown drawn hash pc p0 e2 hpc hbad)
set_option maxRecDepth 100000 in
set_option maxHeartbeats 4000000 in
theorem OP_alarms {K : jK} {x : Nat} {c : FcV} {v : MdV} (hR : RelV c v) (p0 : Int32) : OpI K x (fun l G hs post => CtW l K yL_alarms cL_alarms 4 (some .int) [(0, 9, 12, 24)] 9 145 1 6 [.ref x, .int p0, .ref (x + 233)] G hs post) (fun l G hs post => Ct l K yX6_alarms cX6_alarms 2 (some .int) 3 65 0 0 [.ref (x + 229), .int p0] G hs post jno) c v := by
  obtain ⟨n, q, cnt, nw, ⟨w, m, pl, tk, ow, P, pc, nx, bits, nb, rc, md⟩, S, d⟩ := c
  obtain ⟨now, past, kept, thrown, drawn, hash⟩ := v
  have hrow : rowR now (w, m, pl, tk, ow, P, pc, nx, bits, nb, rc, md) := hR.1
  have hpast : pastR past kept S nw := hR.2.1
  have hcnt : cnt = kept := hR.2.2.1
  subst hcnt
  have hk : cnt ≤ 4 := hR.2.2.2.1
  have hnw : nw < 4 := hR.2.2.2.2
  obtain ⟨⟨e0, e1, e2, e3, e4, e5, e6, hw6, hw9, hmo, hpc, hnx, hnb, hmd⟩, hpar, hly, hch, hrc⟩ := hrow
  rcases ix_cases p0 pc with ⟨j, hj, rfl⟩ | hbad
  · obtain ⟨h0, h1, h2, h3, h4, h5, h6, h7, h8, h9⟩ := hpar j hj
    exact op_alarms_q _ (P j).2.2.2.2.2.2.2.2.2 (now, past, cnt, nI 0, drawn, hash) hR rfl (fun l hl G hs hc => c_X5_alarms_t hl K _ _ _ _ _ _ _ _ _ _ _ _ _ _ _ _ _ _ _ _ _ hc hpc j hj) (fun l hl F hs => by
      have := c_X6_alarms_t hl K F (x + 229) hs now past (nI cnt) thrown drawn hash pc j e2 hpc hj
      rw [h8] at this
      exact this)
  · exact op_alarms_x1 _ (nI 0) hR (fun l hl G hs hc => c_X5_alarms_f hl K _ _ _ _ _ _ _ _ _ _ _ _ _ _ _ _ _ _ _ _ _ hc hpc p0 hbad) (fun l hl F hs => c_X6_alarms_f hl K F (x + 229) hs now past (nI cnt) thrown drawn hash pc p0 e2 hpc hbad)
set_option maxRecDepth 100000 in
set_option maxHeartbeats 4000000 in
theorem OP_hasAlarm {K : jK} {x : Nat} {c : FcV} {v : MdV} (hR : RelV c v) (p0 : Int32) : OpI K x (fun l G hs post => CtW l K yL_hasAlarm cL_hasAlarm 4 (some .int) [(0, 16, 19, 24)] 9 145 1 6 [.ref x, .int p0, .ref (x + 233)] G hs post) (fun l G hs post => Ct l K yX6_hasAlarm cX6_hasAlarm 2 (some .boolean) 3 65 0 0 [.ref (x + 229), .int p0] G hs post jno) c v := by
  obtain ⟨n, q, cnt, nw, ⟨w, m, pl, tk, ow, P, pc, nx, bits, nb, rc, md⟩, S, d⟩ := c
  obtain ⟨now, past, kept, thrown, drawn, hash⟩ := v
  have hrow : rowR now (w, m, pl, tk, ow, P, pc, nx, bits, nb, rc, md) := hR.1
  have hpast : pastR past kept S nw := hR.2.1
  have hcnt : cnt = kept := hR.2.2.1
  subst hcnt
  have hk : cnt ≤ 4 := hR.2.2.2.1
  have hnw : nw < 4 := hR.2.2.2.2
  obtain ⟨⟨e0, e1, e2, e3, e4, e5, e6, hw6, hw9, hmo, hpc, hnx, hnb, hmd⟩, hpar, hly, hch, hrc⟩ := hrow
  rcases ix_cases p0 pc with ⟨j, hj, rfl⟩ | hbad
  · obtain ⟨h0, h1, h2, h3, h4, h5, h6, h7, h8, h9⟩ := hpar j hj
    exact op_hasAlarm_q _ (P j).2.2.2.2.2.2.2.1 (now, past, cnt, nI 0, drawn, hash) hR rfl (fun l hl G hs hc => c_X5_hasAlarm_t hl K _ _ _ _ _ _ _ _ _ _ _ _ _ _ _ _ _ _ _ _ _ hc hpc j hj) (fun l hl F hs => c_X6_hasAlarm_t hl K F (x + 229) hs now past (nI cnt) thrown drawn hash pc j e2 hpc hj _ h6)
  · exact op_hasAlarm_x1 _ (nI 0) hR (fun l hl G hs hc => c_X5_hasAlarm_f hl K _ _ _ _ _ _ _ _ _ _ _ _ _ _ _ _ _ _ _ _ _ hc hpc p0 hbad) (fun l hl F hs => c_X6_hasAlarm_f hl K F (x + 229) hs now past (nI cnt) thrown drawn hash pc p0 e2 hpc hbad)
set_option maxRecDepth 100000 in
set_option maxHeartbeats 4000000 in
theorem OP_samplesPerMajor {K : jK} {x : Nat} {c : FcV} {v : MdV} (hR : RelV c v) (p0 : Int32) : OpI K x (fun l G hs post => CtW l K yL_samplesPerMajor cL_samplesPerMajor 4 (some .int) [(0, 9, 12, 24)] 9 145 1 6 [.ref x, .int p0, .ref (x + 233)] G hs post) (fun l G hs post => Ct l K yX6_samplesPerMajor cX6_samplesPerMajor 2 (some .int) 2 44 0 0 [.ref (x + 229), .int p0] G hs post jno) c v := by
  obtain ⟨n, q, cnt, nw, ⟨w, m, pl, tk, ow, P, pc, nx, bits, nb, rc, md⟩, S, d⟩ := c
  obtain ⟨now, past, kept, thrown, drawn, hash⟩ := v
  have hrow : rowR now (w, m, pl, tk, ow, P, pc, nx, bits, nb, rc, md) := hR.1
  have hpast : pastR past kept S nw := hR.2.1
  have hcnt : cnt = kept := hR.2.2.1
  subst hcnt
  have hk : cnt ≤ 4 := hR.2.2.2.1
  have hnw : nw < 4 := hR.2.2.2.2
  obtain ⟨⟨e0, e1, e2, e3, e4, e5, e6, hw6, hw9, hmo, hpc, hnx, hnb, hmd⟩, hpar, hly, hch, hrc⟩ := hrow
  have hm9 : m ≤ 8 := by omega
  rcases ix_cases p0 pc with ⟨j, hj, rfl⟩ | hbad
  · obtain ⟨h0, h1, h2, h3, h4, h5, h6, h7, h8, h9⟩ := hpar j hj
    exact op_samplesPerMajor_q _ (nI (sOf m (P j).1)) (now, past, cnt, nI 0, drawn, hash) hR rfl (fun l hl G hs hc => c_X5_samplesPerMajor_t hl K _ _ _ _ _ _ _ _ _ _ _ _ _ _ _ _ _ _ _ _ _ hc hpc hm9 j hj h9) (fun l hl F hs => by
      have := c_X6_samplesPerMajor_t hl K F (x + 229) hs now past (nI cnt) thrown drawn hash m e1 hm9 pc j e2 hpc hj (by rw [h0]; exact h9)
      rw [h0] at this
      exact this)
  · exact op_samplesPerMajor_x1 _ (nI 0) hR (fun l hl G hs hc => c_X5_samplesPerMajor_f hl K _ _ _ _ _ _ _ _ _ _ _ _ _ _ _ _ _ _ _ _ _ hc hpc p0 hbad) (fun l hl F hs => c_X6_samplesPerMajor_f hl K F (x + 229) hs now past (nI cnt) thrown drawn hash pc p0 e2 hpc hbad)
set_option maxRecDepth 100000 in
set_option maxHeartbeats 4000000 in
theorem OP_bit {K : jK} {x : Nat} {c : FcV} {v : MdV} (hR : RelV c v) (p0 : Int32) : OpI K x (fun l G hs post => CtW l K yL_bit cL_bit 4 (some .int) [(0, 9, 12, 24)] 8 124 1 6 [.ref x, .int p0, .ref (x + 233)] G hs post) (fun l G hs post => Ct l K yX6_bit cX6_bit 2 (some .int) 2 43 0 0 [.ref (x + 229), .int p0] G hs post jno) c v := by
  obtain ⟨n, q, cnt, nw, ⟨w, m, pl, tk, ow, P, pc, nx, bits, nb, rc, md⟩, S, d⟩ := c
  obtain ⟨now, past, kept, thrown, drawn, hash⟩ := v
  have hrow : rowR now (w, m, pl, tk, ow, P, pc, nx, bits, nb, rc, md) := hR.1
  have hpast : pastR past kept S nw := hR.2.1
  have hcnt : cnt = kept := hR.2.2.1
  subst hcnt
  have hk : cnt ≤ 4 := hR.2.2.2.1
  have hnw : nw < 4 := hR.2.2.2.2
  obtain ⟨⟨e0, e1, e2, e3, e4, e5, e6, hw6, hw9, hmo, hpc, hnx, hnb, hmd⟩, hpar, hly, hch, hrc⟩ := hrow
  rcases ix_cases p0 nb with ⟨j, hj, rfl⟩ | hbad
  · exact op_bit_q _ (bits j) (now, past, cnt, nI 0, drawn, hash) hR rfl (fun l hl G hs hc => c_X5_bit_t hl K _ _ _ _ _ _ _ _ _ _ _ _ _ _ _ _ _ _ _ _ _ hc hpc j hj) (fun l hl F hs => by
      have := c_X6_bit_t hl K F (x + 229) hs now past (nI cnt) thrown drawn hash nb j e5 hnb hj
      rw [(hch j hj).1] at this
      exact this)
  · exact op_bit_x1 _ (nI 0) hR (fun l hl G hs hc => c_X5_bit_f hl K _ _ _ _ _ _ _ _ _ _ _ _ _ _ _ _ _ _ _ _ _ hc hpc p0 hbad) (fun l hl F hs => c_X6_bit_f hl K F (x + 229) hs now past (nI cnt) thrown drawn hash nb p0 e5 hnb hbad)
set_option maxRecDepth 100000 in
set_option maxHeartbeats 4000000 in
theorem OP_received {K : jK} {x : Nat} {c : FcV} {v : MdV} (hR : RelV c v) (p0 : Int32) : OpI K x (fun l G hs post => CtW l K yL_received cL_received 4 (some .int) [(0, 9, 12, 13)] 8 123 1 6 [.ref x, .int p0, .ref (x + 233)] G hs post) (fun l G hs post => Ct l K yX6_received cX6_received 2 (some .int) 1 22 0 0 [.ref (x + 229), .int p0] G hs post jno) c v := by
  obtain ⟨n, q, cnt, nw, ⟨w, m, pl, tk, ow, P, pc, nx, bits, nb, rc, md⟩, S, d⟩ := c
  obtain ⟨now, past, kept, thrown, drawn, hash⟩ := v
  have hrow : rowR now (w, m, pl, tk, ow, P, pc, nx, bits, nb, rc, md) := hR.1
  have hpast : pastR past kept S nw := hR.2.1
  have hcnt : cnt = kept := hR.2.2.1
  subst hcnt
  have hk : cnt ≤ 4 := hR.2.2.2.1
  have hnw : nw < 4 := hR.2.2.2.2
  obtain ⟨⟨e0, e1, e2, e3, e4, e5, e6, hw6, hw9, hmo, hpc, hnx, hnb, hmd⟩, hpar, hly, hch, hrc⟩ := hrow
  rcases rg_cases p0 0 5 with ⟨j, -, hj, rfl⟩ | hbad
  · exact op_received_q _ (rc.2.2.1 j) (now, past, cnt, nI 0, drawn, hash) hR rfl (fun l hl G hs hc => c_X5_received_t hl K _ _ _ _ _ _ _ _ _ _ _ _ _ _ _ _ _ _ _ _ _ hc hpc j hj) (fun l hl F hs => by
      have := c_X6_received_t hl K F (x + 229) hs now past (nI cnt) thrown drawn hash j hj
      rw [hrc.2.2.1 j (by omega)] at this
      exact this)
  · exact op_received_x1 _ (nI 0) hR (fun l hl G hs hc => c_X5_received_f hl K _ _ _ _ _ _ _ _ _ _ _ _ _ _ _ _ _ _ _ _ _ hc hpc p0 hbad) (fun l hl F hs => c_X6_received_f hl K F (x + 229) hs now past (nI cnt) thrown drawn hash p0 hbad)
set_option maxRecDepth 100000 in
set_option maxHeartbeats 4000000 in
theorem OP_setMode {K : jK} {x : Nat} {c : FcV} {v : MdV} (hR : RelV c v) (p0 : Int32) : OpI K x (fun l G hs post => CtW l K yL_setMode cL_setMode 4 (some .int) [(0, 9, 12, 13)] 8 124 1 6 [.ref x, .int p0, .ref (x + 233)] G hs post) (fun l G hs post => Ct l K yX6_setMode cX6_setMode 3 (some .int) 1 22 0 0 [.ref (x + 229), .int p0] G hs post jno) c v := by
  obtain ⟨n, q, cnt, nw, ⟨w, m, pl, tk, ow, P, pc, nx, bits, nb, rc, md⟩, S, d⟩ := c
  obtain ⟨now, past, kept, thrown, drawn, hash⟩ := v
  have hrow : rowR now (w, m, pl, tk, ow, P, pc, nx, bits, nb, rc, md) := hR.1
  have hpast : pastR past kept S nw := hR.2.1
  have hcnt : cnt = kept := hR.2.2.1
  subst hcnt
  have hk : cnt ≤ 4 := hR.2.2.2.1
  have hnw : nw < 4 := hR.2.2.2.2
  obtain ⟨⟨e0, e1, e2, e3, e4, e5, e6, hw6, hw9, hmo, hpc, hnx, hnb, hmd⟩, hpar, hly, hch, hrc⟩ := hrow
  rcases rg_cases p0 0 2 with ⟨j, -, hj, rfl⟩ | hbad
  · refine op_setMode_ok _ (nI md) (n, q, sC cnt, (nw + 1) % 4, (w, m, pl, tk, ow, P, pc, nx, bits, nb, rc, j), svS S nw (w, m, pl, tk, ow, P, pc, nx, bits, nb, rc, md), d) (upd now 6 (nI j), mKeep now past cnt, mKept cnt, nI 0, drawn, hash) ⟨?_, hpast.keep hk hnw hR.1, (mKept_sC hk).symm, by show mKept cnt ≤ 4; unfold mKept; split <;> omega, Nat.mod_lt _ (by omega)⟩ rfl (fun l hl G hs hc => c_X5_setMode_t hl K _ _ _ _ _ _ _ _ _ _ _ _ _ _ _ _ _ _ _ _ _ hc hpc j hj) (fun l hl F hs => by
      have := c_X6_setMode_t hl K F (x + 229) hs now past thrown cnt hk drawn hash j hj
      rw [e6] at this
      exact this)
    have ho : ∀ i, i ≠ 6 → upd now 6 (nI j) i = now i := fun i hi => upd_n hi
    exact ⟨⟨(ho _ (by omega)).trans e0, (ho _ (by omega)).trans e1, (ho _ (by omega)).trans e2, (ho _ (by omega)).trans e3, (ho _ (by omega)).trans e4, (ho _ (by omega)).trans e5, upd_s now 6 (nI j), hw6, hw9, hmo, hpc, hnx, hnb, hj⟩, fun p hp => (hpar p hp).mv (fun i hi => ho _ (by omega)), hly.mv (fun k hk => ho _ (by omega)), hch.mv (fun k hk => ho _ (by omega)), hrc.mv (fun i h1 h2 => ho _ (by omega))⟩
  · exact op_setMode_x1 _ (nI 0) hR (fun l hl G hs hc => c_X5_setMode_f hl K _ _ _ _ _ _ _ _ _ _ _ _ _ _ _ _ _ _ _ _ _ hc hpc p0 hbad) (fun l hl F hs => c_X6_setMode_f hl K F (x + 229) hs now past thrown cnt hk drawn hash p0 hbad)
set_option maxRecDepth 100000 in
set_option maxHeartbeats 4000000 in
theorem OP_setValue {K : jK} {x : Nat} {c : FcV} {v : MdV} (hR : RelV c v) (p0 p1 : Int32) : OpI K x (fun l G hs post => CtW l K yL_setValue cL_setValue 5 (some .int) [(0, 10, 13, 24), (0, 10, 17, 13)] 9 148 2 12 [.ref x, .int p0, .int p1, .ref (x + 233)] G hs post) (fun l G hs post => Ct l K yX6_setValue cX6_setValue 4 (some .int) 2 43 0 0 [.ref (x + 229), .int p0, .int p1] G hs post jno) c v := by
  obtain ⟨n, q, cnt, nw, ⟨w, m, pl, tk, ow, P, pc, nx, bits, nb, rc, md⟩, S, d⟩ := c
  obtain ⟨now, past, kept, thrown, drawn, hash⟩ := v
  have hrow : rowR now (w, m, pl, tk, ow, P, pc, nx, bits, nb, rc, md) := hR.1
  have hpast : pastR past kept S nw := hR.2.1
  have hcnt : cnt = kept := hR.2.2.1
  subst hcnt
  have hk : cnt ≤ 4 := hR.2.2.2.1
  have hnw : nw < 4 := hR.2.2.2.2
  obtain ⟨⟨e0, e1, e2, e3, e4, e5, e6, hw6, hw9, hmo, hpc, hnx, hnb, hmd⟩, hpar, hly, hch, hrc⟩ := hrow
  rcases ix_cases p0 pc with ⟨j, hj, rfl⟩ | hbad
  · rcases rg_cases p1 0 255 with ⟨v, -, hv, rfl⟩ | hbad2
    · obtain ⟨h0, h1, h2, h3, h4, h5, h6, h7, h8, h9⟩ := hpar j hj
      refine op_setValue_ok _ _ (P j).2.1 (n, q, sC cnt, (nw + 1) % 4, (w, m, pl, tk, ow, va_up P j ((P j).1, nI v, (P j).2.2), pc, nx, bits, nb, rc, md), svS S nw (w, m, pl, tk, ow, P, pc, nx, bits, nb, rc, md), d) (upd now (33 + 14 * j + 1) (nI v), mKeep now past cnt, mKept cnt, nI 0, drawn, hash) ⟨?_, hpast.keep hk hnw hR.1, (mKept_sC hk).symm, by show mKept cnt ≤ 4; unfold mKept; split <;> omega, Nat.mod_lt _ (by omega)⟩ rfl (fun l hl G hs hc => c_X5_setValue_t hl K _ _ _ _ _ _ _ _ _ _ _ _ _ _ _ _ _ _ _ _ _ hc hpc j v hj hv) (fun l hl F hs => by
        have := c_X6_setValue_t hl K F (x + 229) hs now past thrown cnt hk drawn hash pc j e2 hpc hj v (Nat.zero_le _) hv
        rw [h1] at this
        exact this)
      have ho : ∀ i, i ≠ 33 + 14 * j + 1 → upd now (33 + 14 * j + 1) (nI v) i = now i := fun i hi => upd_n hi
      exact rowR_par hR.1 hj (fun i hi => ho i (by omega)) ⟨(ho _ (by omega)).trans h0, upd_s _ _ _, (ho _ (by omega)).trans h2, (ho _ (by omega)).trans h3, fun i hi => ⟨(ho _ (by omega)).trans (h4 i hi).1, (ho _ (by omega)).trans (h4 i hi).2⟩, (ho _ (by omega)).trans h5, (ho _ (by omega)).trans h6, (ho _ (by omega)).trans h7, (ho _ (by omega)).trans h8, h9⟩
    · exact op_setValue_x2 _ _ (nI 0) hR (fun l hl G hs hc => c_X5_setValue_f2 hl K _ _ _ _ _ _ _ _ _ _ _ _ _ _ _ _ _ _ _ _ _ hc hpc j hj p1 hbad2) (fun l hl F hs => c_X6_setValue_f2 hl K F (x + 229) hs now past thrown cnt hk drawn hash pc j e2 hpc hj p1 hbad2)
  · exact op_setValue_x1 _ _ (nI 0) hR (fun l hl G hs hc => c_X5_setValue_f1 hl K _ _ _ _ _ _ _ _ _ _ _ _ _ _ _ _ _ _ _ _ _ hc hpc p0 p1 hbad) (fun l hl F hs => c_X6_setValue_f1 hl K F (x + 229) hs now past thrown cnt hk drawn hash pc p0 e2 hpc hbad p1)
set_option maxRecDepth 100000 in
set_option maxHeartbeats 4000000 in
theorem OP_setPersistence {K : jK} {x : Nat} {c : FcV} {v : MdV} (hR : RelV c v) (p0 p1 : Int32) : OpI K x (fun l G hs post => CtW l K yL_setPersistence cL_setPersistence 5 (some .int) [(0, 10, 13, 24), (0, 10, 17, 13)] 9 148 2 12 [.ref x, .int p0, .int p1, .ref (x + 233)] G hs post) (fun l G hs post => Ct l K yX6_setPersistence cX6_setPersistence 4 (some .int) 2 43 0 0 [.ref (x + 229), .int p0, .int p1] G hs post jno) c v := by
  obtain ⟨n, q, cnt, nw, ⟨w, m, pl, tk, ow, P, pc, nx, bits, nb, rc, md⟩, S, d⟩ := c
  obtain ⟨now, past, kept, thrown, drawn, hash⟩ := v
  have hrow : rowR now (w, m, pl, tk, ow, P, pc, nx, bits, nb, rc, md) := hR.1
  have hpast : pastR past kept S nw := hR.2.1
  have hcnt : cnt = kept := hR.2.2.1
  subst hcnt
  have hk : cnt ≤ 4 := hR.2.2.2.1
  have hnw : nw < 4 := hR.2.2.2.2
  obtain ⟨⟨e0, e1, e2, e3, e4, e5, e6, hw6, hw9, hmo, hpc, hnx, hnb, hmd⟩, hpar, hly, hch, hrc⟩ := hrow
  rcases ix_cases p0 pc with ⟨j, hj, rfl⟩ | hbad
  · rcases rg_cases p1 1 5 with ⟨v, hv1, hv, rfl⟩ | hbad2
    · obtain ⟨h0, h1, h2, h3, h4, h5, h6, h7, h8, h9⟩ := hpar j hj
      refine op_setPersistence_ok _ _ (P j).2.2.2.2.2.2.1 (n, q, sC cnt, (nw + 1) % 4, (w, m, pl, tk, ow, va_up P j ((P j).1, (P j).2.1, (P j).2.2.1, (P j).2.2.2.1, (P j).2.2.2.2.1, (P j).2.2.2.2.2.1, nI v, (P j).2.2.2.2.2.2.2), pc, nx, bits, nb, rc, md), svS S nw (w, m, pl, tk, ow, P, pc, nx, bits, nb, rc, md), d) (upd now (33 + 14 * j + 10) (nI v), mKeep now past cnt, mKept cnt, nI 0, drawn, hash) ⟨?_, hpast.keep hk hnw hR.1, (mKept_sC hk).symm, by show mKept cnt ≤ 4; unfold mKept; split <;> omega, Nat.mod_lt _ (by omega)⟩ rfl (fun l hl G hs hc => c_X5_setPersistence_t hl K _ _ _ _ _ _ _ _ _ _ _ _ _ _ _ _ _ _ _ _ _ hc hpc j v hj hv1 hv) (fun l hl F hs => by
        have := c_X6_setPersistence_t hl K F (x + 229) hs now past thrown cnt hk drawn hash pc j e2 hpc hj v hv1 hv
        rw [h5] at this
        exact this)
      have ho : ∀ i, i ≠ 33 + 14 * j + 10 → upd now (33 + 14 * j + 10) (nI v) i = now i := fun i hi => upd_n hi
      exact rowR_par hR.1 hj (fun i hi => ho i (by omega)) ⟨(ho _ (by omega)).trans h0, (ho _ (by omega)).trans h1, (ho _ (by omega)).trans h2, (ho _ (by omega)).trans h3, fun i hi => ⟨(ho _ (by omega)).trans (h4 i hi).1, (ho _ (by omega)).trans (h4 i hi).2⟩, upd_s _ _ _, (ho _ (by omega)).trans h6, (ho _ (by omega)).trans h7, (ho _ (by omega)).trans h8, h9⟩
    · exact op_setPersistence_x2 _ _ (nI 0) hR (fun l hl G hs hc => c_X5_setPersistence_f2 hl K _ _ _ _ _ _ _ _ _ _ _ _ _ _ _ _ _ _ _ _ _ hc hpc j hj p1 hbad2) (fun l hl F hs => c_X6_setPersistence_f2 hl K F (x + 229) hs now past thrown cnt hk drawn hash pc j e2 hpc hj p1 hbad2)
  · exact op_setPersistence_x1 _ _ (nI 0) hR (fun l hl G hs hc => c_X5_setPersistence_f1 hl K _ _ _ _ _ _ _ _ _ _ _ _ _ _ _ _ _ _ _ _ _ hc hpc p0 p1 hbad) (fun l hl F hs => c_X6_setPersistence_f1 hl K F (x + 229) hs now past thrown cnt hk drawn hash pc p0 e2 hpc hbad p1)
set_option maxRecDepth 100000 in
set_option maxHeartbeats 4000000 in
theorem OP_setLimits {K : jK} {x : Nat} {c : FcV} {v : MdV} (hR : RelV c v) (p0 p1 p2 p3 : Int32) : OpI K x (fun l G hs post => CtW l K yL_setLimits cL_setLimits 7 (some .int) [(0, 14, 17, 24), (0, 14, 21, 13)] 9 150 3 18 [.ref x, .int p0, .int p1, .int p2, .int p3, .ref (x + 233)] G hs post) (fun l G hs post => Ct l K yX6_setLimits cX6_setLimits 7 (some .int) 2 43 0 0 [.ref (x + 229), .int p0, .int p1, .int p2, .int p3] G hs post jno) c v := by
  obtain ⟨n, q, cnt, nw, ⟨w, m, pl, tk, ow, P, pc, nx, bits, nb, rc, md⟩, S, d⟩ := c
  obtain ⟨now, past, kept, thrown, drawn, hash⟩ := v
  have hrow : rowR now (w, m, pl, tk, ow, P, pc, nx, bits, nb, rc, md) := hR.1
  have hpast : pastR past kept S nw := hR.2.1
  have hcnt : cnt = kept := hR.2.2.1
  subst hcnt
  have hk : cnt ≤ 4 := hR.2.2.2.1
  have hnw : nw < 4 := hR.2.2.2.2
  obtain ⟨⟨e0, e1, e2, e3, e4, e5, e6, hw6, hw9, hmo, hpc, hnx, hnb, hmd⟩, hpar, hly, hch, hrc⟩ := hrow
  rcases ix_cases p0 pc with ⟨j, hj, rfl⟩ | hbad
  · by_cases hg : ∃ g a b, g ≤ 2 ∧ a ≤ b ∧ b ≤ 255 ∧ p1 = nI g ∧ p2 = nI a ∧ p3 = nI b
    · obtain ⟨g, a, b, hg, hab, hb, rfl, rfl, rfl⟩ := hg
      obtain ⟨h0, h1, h2, h3, h4, h5, h6, h7, h8, h9⟩ := hpar j hj
      refine op_setLimits_ok _ _ _ _ (nI 1000 * (P j).2.2.2.2.1 g + (P j).2.2.2.2.2.1 g) (n, q, sC cnt, (nw + 1) % 4, (w, m, pl, tk, ow, va_up P j ((P j).1, (P j).2.1, (P j).2.2.1, (P j).2.2.2.1, upd (P j).2.2.2.2.1 g (nI a), upd (P j).2.2.2.2.2.1 g (nI b), (P j).2.2.2.2.2.2), pc, nx, bits, nb, rc, md), svS S nw (w, m, pl, tk, ow, P, pc, nx, bits, nb, rc, md), d) (upd (upd now (33 + 14 * j + (4 + 2 * g)) (nI a)) (33 + 14 * j + (4 + 2 * g + 1)) (nI b), mKeep now past cnt, mKept cnt, nI 0, drawn, hash) ⟨?_, hpast.keep hk hnw hR.1, (mKept_sC hk).symm, by show mKept cnt ≤ 4; unfold mKept; split <;> omega, Nat.mod_lt _ (by omega)⟩ rfl (fun l hl G hs hc => c_X5_setLimits_t hl K _ _ _ _ _ _ _ _ _ _ _ _ _ _ _ _ _ _ _ _ _ hc hpc j g a b hj hg hab hb) (fun l hl F hs => by
        have := c_X6_setLimits_t hl K F (x + 229) hs now past thrown cnt hk drawn hash pc j e2 hpc hj g a b hg hab hb
        rw [(h4 g (by omega)).1, (h4 g (by omega)).2] at this
        exact this)
      have ho : ∀ i, i ≠ 33 + 14 * j + (4 + 2 * g) → i ≠ 33 + 14 * j + (4 + 2 * g + 1) → (upd (upd now (33 + 14 * j + (4 + 2 * g)) (nI a)) (33 + 14 * j + (4 + 2 * g + 1)) (nI b)) i = now i := fun i h1 h2 => by rw [upd_n h2, upd_n h1]
      show rowR (upd (upd now (33 + 14 * j + (4 + 2 * g)) (nI a)) (33 + 14 * j + (4 + 2 * g + 1)) (nI b)) (w, m, pl, tk, ow, va_up P j ((P j).1, (P j).2.1, (P j).2.2.1, (P j).2.2.2.1, upd (P j).2.2.2.2.1 g (nI a), upd (P j).2.2.2.2.2.1 g (nI b), (P j).2.2.2.2.2.2), pc, nx, bits, nb, rc, md)
      refine rowR_par hR.1 hj (fun i hi => ho i (by omega) (by omega)) ⟨(ho _ (by omega) (by omega)).trans h0, (ho _ (by omega) (by omega)).trans h1, (ho _ (by omega) (by omega)).trans h2, (ho _ (by omega) (by omega)).trans h3, fun i hi => ?_, (ho _ (by omega) (by omega)).trans h5, (ho _ (by omega) (by omega)).trans h6, (ho _ (by omega) (by omega)).trans h7, (ho _ (by omega) (by omega)).trans h8, h9⟩
      by_cases e : i = g
      · subst e
        refine ⟨?_, ?_⟩
        · rw [upd_n (by omega), upd_s]
          exact (upd_s _ _ _).symm
        · rw [upd_s]
          exact (upd_s _ _ _).symm
      · refine ⟨?_, ?_⟩
        · rw [ho _ (by omega) (by omega), (h4 i hi).1]
          exact (upd_n e).symm
        · rw [ho _ (by omega) (by omega), (h4 i hi).2]
          exact (upd_n e).symm
    · exact op_setLimits_x2 _ _ _ _ (nI 0) hR (fun l hl G hs hc => c_X5_setLimits_f2 hl K _ _ _ _ _ _ _ _ _ _ _ _ _ _ _ _ _ _ _ _ _ hc hpc j hj p1 p2 p3 (fun v c e h1 h2 h3 h4 h5 h6 => hg ⟨v, c, e, h1, h2, h3, h4, h5, h6⟩)) (fun l hl F hs => c_X6_setLimits_f2 hl K F (x + 229) hs now past thrown cnt hk drawn hash pc j e2 hpc hj p1 p2 p3 (fun v c e h1 h2 h3 h4 h5 h6 => hg ⟨v, c, e, h1, h2, h3, h4, h5, h6⟩))
  · exact op_setLimits_x1 _ _ _ _ (nI 0) hR (fun l hl G hs hc => c_X5_setLimits_f1 hl K _ _ _ _ _ _ _ _ _ _ _ _ _ _ _ _ _ _ _ _ _ hc hpc p0 p1 p2 p3 hbad) (fun l hl F hs => c_X6_setLimits_f1 hl K F (x + 229) hs now past thrown cnt hk drawn hash pc p0 e2 hpc hbad p1 p2 p3)
set_option maxRecDepth 100000 in
set_option maxHeartbeats 4000000 in
theorem OP_undo {K : jK} {x : Nat} {c : FcV} {v : MdV} (hR : RelV c v) : OpI K x (fun l G hs post => CtW l K yL_undo cL_undo 3 (some .int) [(0, 8, 11, 19)] 8 123 1 6 [.ref x, .ref (x + 233)] G hs post) (fun l G hs post => Ct l K yX6_undo cX6_undo 2 (some .int) 0 0 0 0 [.ref (x + 229)] G hs post jno) c v := by
  obtain ⟨n, q, cnt, nw, ⟨w, m, pl, tk, ow, P, pc, nx, bits, nb, rc, md⟩, S, d⟩ := c
  obtain ⟨now, past, kept, thrown, drawn, hash⟩ := v
  have hrow : rowR now (w, m, pl, tk, ow, P, pc, nx, bits, nb, rc, md) := hR.1
  have hpast : pastR past kept S nw := hR.2.1
  have hcnt : cnt = kept := hR.2.2.1
  subst hcnt
  have hk : cnt ≤ 4 := hR.2.2.2.1
  have hnw : nw < 4 := hR.2.2.2.2
  obtain ⟨⟨e0, e1, e2, e3, e4, e5, e6, hw6, hw9, hmo, hpc, hnx, hnb, hmd⟩, hpar, hly, hch, hrc⟩ := hrow
  by_cases h1 : 1 ≤ cnt
  · obtain ⟨hb1, hb2⟩ := hpast.back (now := now) (s := (w, m, pl, tk, ow, P, pc, nx, bits, nb, rc, md)) h1 hk hnw
    exact op_undo_ok (nI (cnt - 1)) (q nw, va_up q nw n, cnt - 1, (nw + 3) % 4, S nw, va_up S nw (w, m, pl, tk, ow, P, pc, nx, bits, nb, rc, md), d) (itr (uRow past (cnt - 1)) 2377 now, past, cnt - 1, nI 0, drawn, hash) ⟨hb1, hb2, rfl, by show cnt - 1 ≤ 4; omega, Nat.mod_lt _ (by omega)⟩ rfl (fun l hl G hs hc => c_X5_undo_t hl K _ _ _ _ _ _ _ _ _ _ _ _ _ _ _ _ _ _ _ _ _ hc hpc h1) (fun l hl F hs => c_X6_undo_t hl K F (x + 229) hs now past thrown cnt hk drawn hash h1)
  · have h0 : cnt = 0 := by omega
    subst h0
    exact op_undo_x1 (nI 0) hR (fun l hl G hs hc => c_X5_undo_f hl K _ _ _ _ _ _ _ _ _ _ _ _ _ _ _ _ _ _ _ _ _ hc hpc rfl) (fun l hl F hs => c_X6_undo_f hl K F (x + 229) hs now past (nI 0) thrown drawn hash)
