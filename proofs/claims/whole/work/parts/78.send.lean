/-! ===== the channel ===== -/
theorem bitOf_N (v : Int32) (j : Nat) : ∃ b, b ≤ 1 ∧ bitOf v j = nI b := ⟨_, by omega, hN_and1 _⟩
/-- a word goes out on both sides -/
theorem ap_bits {v : Int32} {q : Nat} {r bits : Nat → Int32} (h : chR r bits q) : ∀ n, chR (itr (sB v q) n r) (itr (cB v q) n bits) (q + n) ∧ ∀ j, j ≠ 5 → (j < 329 + q ∨ 329 + q + n ≤ j) → itr (sB v q) n r j = r j
  | 0 => ⟨h, fun _ _ _ => rfl⟩
  | n + 1 => by
    obtain ⟨h1, h2⟩ := ap_bits h n
    rw [itr_s, itr_s]
    unfold sB cB
    refine ⟨fun k hk => ?_, fun j h5 hj => ?_⟩
    · rw [upd_n (by omega)]
      by_cases e : k = q + n
      · subst e
        rw [upd_s, upd_s]
        exact ⟨rfl, bitOf_N v n⟩
      · rw [upd_n (by omega), upd_n e]
        exact h1 k (by omega)
    · rw [upd_n h5, upd_n (by omega)]
      exact h2 j h5 (by omega)
def clW (ow : Nat → Int32) (P : Nat → PaV) (pc nx i : Nat) : Int32 := if i = 0 then nI 235 else if i = 1 then nI 144 else if i = 2 then nI nx else sV P pc (ow (16 * nx + i))
def clB (ow : Nat → Int32) (P : Nat → PaV) (pc nx nb i : Nat) (bits : Nat → Int32) : Nat → Int32 := cW (clW ow P pc nx i) (nb + 8 * i) bits
theorem ap_words {ow : Nat → Int32} {P : Nat → PaV} {pc nx nb w : Nat} {r bits : Nat → Int32} (h : chR r bits nb) (hw : ∀ i, i < w → wdOf r nx i = clW ow P pc nx i) : ∀ n, n ≤ w → chR (itr (sW r nx nb) n r) (itr (clB ow P pc nx nb) n bits) (nb + 8 * n) ∧ ∀ j, j ≠ 5 → (j < 329 + nb ∨ 329 + nb + 8 * n ≤ j) → itr (sW r nx nb) n r j = r j
  | 0, _ => ⟨h, fun _ _ _ => rfl⟩
  | n + 1, hn => by
    obtain ⟨h1, h2⟩ := ap_words h hw n (by omega)
    rw [itr_s, itr_s]
    unfold sW clB cW
    rw [hw n (by omega)]
    obtain ⟨h3, h4⟩ := ap_bits (v := clW ow P pc nx n) h1 8
    refine ⟨by rw [show nb + 8 * (n + 1) = nb + 8 * n + 8 by omega]; exact h3, fun j h5 hj => ?_⟩
    exact (h4 j h5 (by omega)).trans (h2 j h5 (by omega))
theorem itr_3 {σ : Type} (g : Nat → σ → σ) (s : σ) : ∀ k, itr g (3 + k) s = itr (fun i => g (3 + i)) k (g 2 (g 1 (g 0 s)))
  | 0 => rfl
  | k + 1 => by
    rw [show 3 + (k + 1) = (3 + k) + 1 by omega, itr_s, itr_s, itr_3 g s k]
theorem itr_cg {σ : Type} {f g : Nat → σ → σ} {s : σ} : ∀ {n : Nat}, (∀ i, i < n → ∀ t, f i t = g i t) → itr f n s = itr g n s
  | 0, _ => rfl
  | n + 1, h => by rw [itr_s, itr_s, itr_cg (fun i hi => h i (by omega)), h n (by omega)]
theorem cl_eq (ow : Nat → Int32) (P : Nat → PaV) (pc nx nb : Nat) {w : Nat} (hw : 3 ≤ w) (bits : Nat → Int32) : itr (sBd ow P pc nx nb) (w - 3) (sHd nx nb bits) = itr (clB ow P pc nx nb) w bits := by
  rw [show itr (clB ow P pc nx nb) w bits = itr (clB ow P pc nx nb) (3 + (w - 3)) bits from by rw [show 3 + (w - 3) = w by omega], itr_3]
  have e : clB ow P pc nx nb 2 (clB ow P pc nx nb 1 (clB ow P pc nx nb 0 bits)) = sHd nx nb bits := rfl
  rw [e]
  refine itr_cg (fun i hi t => ?_)
  unfold sBd clB clW
  rw [if_neg (by omega), if_neg (by omega), if_neg (by omega), show nb + 24 + 8 * i = nb + 8 * (3 + i) by omega]
theorem wd_eq {r : Nat → Int32} {w m tk : Nat} {ow : Nat → Int32} {P : Nat → PaV} {pc nx i : Nat} (hly : lyR r w m true tk ow pc) (hpar : ∀ p, p < pc → parR r p (P p)) (hpc : pc ≤ 12) (hw9 : w ≤ 16) (hm8 : m ≤ 8) (hnx : nx < m) (hi : i < w) : wdOf r nx i = clW ow P pc nx i := by
  unfold wdOf clW
  by_cases h0 : i = 0
  · rw [if_pos h0, if_pos h0]
  · rw [if_neg h0, if_neg h0]
    by_cases h1 : i = 1
    · rw [if_pos h1, if_pos h1]
    · rw [if_neg h1, if_neg h1]
      by_cases h2 : i = 2
      · rw [if_pos h2, if_pos h2]
      · rw [if_neg h2, if_neg h2]
        obtain ⟨a1, a2, a3, a4⟩ := hly rfl
        have e1 : r (201 + 16 * nx + i) = ow (16 * nx + i) := by rw [Nat.add_assoc]; exact a1 _ (by omega)
        rw [e1]
        unfold sV
        rcases a2 (16 * nx + i) (by omega) with e | ⟨j, hj, e⟩
        · rw [e, if_pos rfl, if_neg (fun q => absurd q.1 (by decide))]
        · rw [e, if_neg (nI_m1 (by omega)), if_pos ⟨Int32.not_lt.mp (nI_pos (by omega)), nI_lt hj (by omega)⟩, oI_nI (by omega), nI_clamp (by omega)]
          exact (hpar j hj).2.1
theorem sNx_mod {m nx : Nat} (h : nx < m) : (nx + 1) % m = sNx m nx := by
  unfold sNx
  by_cases q : nx + 1 < m
  · rw [if_pos q, Nat.mod_eq_of_lt q]
  · rw [if_neg q, show nx + 1 = m by omega, Nat.mod_self]
/-- a minor frame goes out on both sides -/
theorem rowR_send {r : Nat → Int32} {w m tk : Nat} {ow : Nat → Int32} {P : Nat → PaV} {pc nx : Nat} {bits : Nat → Int32} {nb : Nat} {rc : RcV} {md : Nat} (h : rowR r (w, m, true, tk, ow, P, pc, nx, bits, nb, rc, md)) (hroom : nb + 8 * w ≤ 2048) : rowR (mSend r w m nx nb) (w, m, true, tk, ow, P, pc, sNx m nx, itr (sBd ow P pc nx nb) (w - 3) (sHd nx nb bits), nb + 24 + 8 * (w - 3), rc, md) := by
  obtain ⟨⟨e0, e1, e2, e3, e4, e5, e6, hw6, hw9, hmo, hpc, hnx, hnb, hmd⟩, hpar, hly, hch, hrc⟩ := h
  obtain ⟨h1, h2⟩ := ap_words (w := w) hch (fun i hi => wd_eq hly hpar hpc hw9 (by omega) hnx hi) w (Nat.le_refl _)
  have h5 : itr (sW r nx nb) w r 5 = nI (nb + 8 * w) := sW_5 r nx nb r e5 w
  have ho : ∀ j, j ≠ 4 → j ≠ 5 → j < 329 + nb → mSend r w m nx nb j = r j := fun j q4 q5 hj => by
    unfold mSend
    rw [upd_n q4]
    exact h2 j q5 (by omega)
  rw [cl_eq ow P pc nx nb (by omega), show nb + 24 + 8 * (w - 3) = nb + 8 * w by omega]
  refine ⟨⟨(ho _ (by omega) (by omega) (by omega)).trans e0, (ho _ (by omega) (by omega) (by omega)).trans e1, (ho _ (by omega) (by omega) (by omega)).trans e2, (ho _ (by omega) (by omega) (by omega)).trans e3, ?_, ?_, (ho _ (by omega) (by omega) (by omega)).trans e6, hw6, hw9, hmo, hpc, sNx_lt (by omega), by omega, hmd⟩, fun p hp => (hpar p hp).mv (fun j hj => ho _ (by omega) (by omega) (by omega)), hly.mv (fun k hk => ho _ (by omega) (by omega) (by omega)), fun k hk => ?_, hrc.mv (fun j q1 q2 => ho _ (by omega) (by omega) (by omega))⟩
  · unfold mSend
    rw [upd_s, sNx_mod hnx]
  · unfold mSend
    rw [upd_n (by omega), h5]
  · unfold mSend
    rw [upd_n (by omega)]
    exact h1 k hk
theorem nx_step {m f k : Nat} (hm : 1 ≤ m) : sNx m ((f + k) % m) = (f + (k + 1)) % m := by
  rw [← sNx_mod (Nat.mod_lt _ hm), ← Nat.add_assoc, Nat.mod_add_mod]
/-- c minor frames -/
theorem rowR_sends {r : Nat → Int32} {w m tk : Nat} {ow : Nat → Int32} {P : Nat → PaV} {pc nx : Nat} {bits : Nat → Int32} {nb : Nat} {rc : RcV} {md : Nat} (h : rowR r (w, m, true, tk, ow, P, pc, nx, bits, nb, rc, md)) : ∀ c, nb + 8 * (c * w) ≤ 2048 → (itr (sM w m ow P pc) c (bits, nb, nx)).2.2 = (nx + c) % m ∧ rowR (itr (sS w m nx nb) c r) (w, m, true, tk, ow, P, pc, (itr (sM w m ow P pc) c (bits, nb, nx)).2.2, (itr (sM w m ow P pc) c (bits, nb, nx)).1, (itr (sM w m ow P pc) c (bits, nb, nx)).2.1, rc, md)
  | 0, _ => ⟨by rw [Nat.add_zero, Nat.mod_eq_of_lt h.1.2.2.2.2.2.2.2.2.2.2.2.1]; rfl, h⟩
  | c + 1, hr => by
    have hmo : mOk m := h.1.2.2.2.2.2.2.2.2.2.1
    have hw6 : 6 ≤ w := h.1.2.2.2.2.2.2.2.1
    have e1 : (c + 1) * w = c * w + w := Nat.succ_mul c w
    obtain ⟨h1, h2⟩ := rowR_sends h c (by omega)
    have hnb := sM_nb (w := w) (m := m) (ow := ow) (P := P) (pc := pc) (t := (bits, nb, nx)) (by omega) c
    have h3 := rowR_send h2 (by rw [hnb]; show nb + 8 * (c * w) + 8 * w ≤ 2048; omega)
    refine ⟨?_, ?_⟩
    · rw [itr_s]
      show sNx m (itr (sM w m ow P pc) c (bits, nb, nx)).2.2 = _
      rw [h1, nx_step (by omega)]
    · rw [itr_s, itr_s]
      have e2 : sS w m nx nb c (itr (sS w m nx nb) c r) = mSend (itr (sS w m nx nb) c r) w m (itr (sM w m ow P pc) c (bits, nb, nx)).2.2 (itr (sM w m ow P pc) c (bits, nb, nx)).2.1 := by
        unfold sS
        rw [h1, hnb, show 8 * w * c = 8 * (c * w) by rw [Nat.mul_assoc, Nat.mul_comm w c]]
      rw [e2]
      exact h3
set_option maxRecDepth 100000 in
set_option maxHeartbeats 4000000 in
theorem OP_send {K : jK} {x : Nat} {c : FcV} {v : MdV} (hR : RelV c v) (p0 : Int32) : OpI K x (fun l G hs post => CtW l K yL_send cL_send 4 (some .int) [(0, 9, 12, 13), (0, 9, 15, 19)] 8 124 3 18 [.ref x, .int p0, .ref (x + 233)] G hs post) (fun l G hs post => Ct l K yX6_send cX6_send 3 (some .int) 3 68 0 0 [.ref (x + 229), .int p0] G hs post jno) c v := by
  obtain ⟨n, q, cnt, nw, ⟨w, m, pl, tk, ow, P, pc, nx, bits, nb, rc, md⟩, S, d⟩ := c
  obtain ⟨now, past, kept, thrown, drawn, hash⟩ := v
  have hrow : rowR now (w, m, pl, tk, ow, P, pc, nx, bits, nb, rc, md) := hR.1
  have hpast : pastR past kept S nw := hR.2.1
  have hcnt : cnt = kept := hR.2.2.1
  subst hcnt
  have hk : cnt ≤ 4 := hR.2.2.2.1
  have hnw : nw < 4 := hR.2.2.2.2
  obtain ⟨⟨e0, e1, e2, e3, e4, e5, e6, hw6, hw9, hmo, hpc, hnx, hnb, hmd⟩, hpar, hly, hch, hrc⟩ := hrow
  have hm8 : m ≤ 8 := by omega
  rcases rg_cases p0 1 16 with ⟨c, hc1, hc16, rfl⟩ | hbad
  · have ecw : 8 * c * w = 8 * (c * w) := Nat.mul_assoc 8 c w
    have ecw2 : 8 * w * c = 8 * (c * w) := by rw [Nat.mul_assoc, Nat.mul_comm w c]
    cases pl with
    | true =>
      by_cases hroom : nb + 8 * (c * w) ≤ 2048
      · obtain ⟨a1, a2, a3, a4⟩ := hly rfl
        have hnbc := sM_nb (w := w) (m := m) (ow := ow) (P := P) (pc := pc) (t := (bits, nb, nx)) (by omega) c
        exact op_send_ok _ (nI (itr (sM w m ow P pc) c (bits, nb, nx)).2.1) (n, q, sC cnt, (nw + 1) % 4, (w, m, true, tk, ow, P, pc, (itr (sM w m ow P pc) c (bits, nb, nx)).2.2, (itr (sM w m ow P pc) c (bits, nb, nx)).1, (itr (sM w m ow P pc) c (bits, nb, nx)).2.1, rc, md), svS S nw (w, m, true, tk, ow, P, pc, nx, bits, nb, rc, md), d) (itr (sS w m nx nb) c now, mKeep now past cnt, mKept cnt, nI 0, drawn, hash) ⟨(rowR_sends hR.1 c hroom).2, hpast.keep hk hnw hR.1, (mKept_sC hk).symm, by show mKept cnt ≤ 4; unfold mKept; split <;> omega, Nat.mod_lt _ (by omega)⟩ rfl (fun l hl G hs hc => c_X5_send_t hl K _ _ _ _ _ _ _ _ _ _ _ _ _ _ _ _ _ _ _ _ hc hpc hw6 hw9 (by omega) hm8 hnx c hc1 hc16 hroom) (fun l hl F hs => by
          have h9 := c_X6_send_t hl K F (x + 229) hs now past thrown cnt hk drawn hash w m nx nb c e0 e1 hw9 (by omega) hm8 hnx e4 e5 e3 hc1 hc16 (by omega) (fun f hf k hk9 => by
            unfold owP
            rw [a1 _ (by omega)]
            rcases a2 (16 * f + k) (by omega) with e | ⟨j, hj, e⟩
            · exact Or.inl e
            · exact Or.inr ⟨j, by omega, e⟩)
          rw [show nI (nb + 8 * w * c) = nI (itr (sM w m ow P pc) c (bits, nb, nx)).2.1 by rw [hnbc, ecw2]] at h9
          exact h9)
      · exact op_send_x2 _ (nI 0) hR (fun l hl G hs hc => c_X5_send_f3 hl K _ _ _ _ _ _ _ _ _ _ _ _ _ _ _ _ _ _ _ _ hc hpc hw9 c hc1 hc16 (by omega)) (fun l hl F hs => c_X6_send_f3 hl K F (x + 229) hs now past thrown cnt hk drawn hash w nb c e0 hw9 e5 hnb hc1 hc16 e3 (by omega))
    | false => exact op_send_x2 _ (nI 0) hR (fun l hl G hs hc => c_X5_send_f2 hl K _ _ _ _ _ _ _ _ _ _ _ _ _ _ _ _ _ _ _ _ hc hpc c hc1 hc16) (fun l hl F hs => c_X6_send_f2 hl K F (x + 229) hs now past thrown cnt hk drawn hash c hc1 hc16 e3)
  · exact op_send_x1 _ (nI 0) hR (fun l hl G hs hc => c_X5_send_f1 hl K _ _ _ _ _ _ _ _ _ _ _ _ _ _ _ _ _ _ _ _ _ hc hpc p0 hbad) (fun l hl F hs => c_X6_send_f1 hl K F (x + 229) hs now past thrown cnt hk drawn hash p0 hbad)
