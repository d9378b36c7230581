/-! ===== the channel is disturbed; the digest ===== -/
theorem rmB_at (j : Nat) (r : Nat → Int32) : ∀ n k, itr (rmB j) n r (329 + k) = if j ≤ k ∧ k < j + n then r (329 + k + 1) else r (329 + k)
  | 0, k => by rw [if_neg (by omega)]; rfl
  | n + 1, k => by
    rw [itr_s]
    unfold rmB
    by_cases e : k = j + n
    · subst e
      rw [upd_s, if_pos (by omega)]
      have := rmB_at j r n (j + n + 1)
      rw [if_neg (by omega)] at this
      exact this
    · rw [upd_n (by omega)]
      have := rmB_at j r n k
      unfold rmB at this
      rw [this]
      by_cases q : j ≤ k ∧ k < j + n
      · rw [if_pos q, if_pos (by omega)]
      · rw [if_neg q, if_neg (by omega)]
theorem inB_at (b : Nat) (r : Nat → Int32) : ∀ n k, n ≤ b → itr (inB b) n r (329 + k) = if b < k + n ∧ k ≤ b then r (329 + k - 1) else r (329 + k)
  | 0, k, _ => by rw [if_neg (by omega)]; rfl
  | n + 1, k, hn => by
    rw [itr_s]
    unfold inB
    by_cases e : k = b - n
    · subst e
      rw [upd_s, if_pos (by omega)]
      have := inB_at b r n (b - n - 1) (by omega)
      rw [if_neg (by omega)] at this
      rw [show 329 + (b - n) - 1 = 329 + (b - n - 1) by omega]
      exact this
    · rw [upd_n (by omega)]
      have := inB_at b r n k (by omega)
      unfold inB at this
      rw [this]
      by_cases q : b < k + n ∧ k ≤ b
      · rw [if_pos q, if_pos (by omega)]
      · rw [if_neg q, if_neg (by omega)]
theorem cpy_at {f g : Nat → Int32} {sp dp n k : Nat} : va_cpy f g sp dp n k = if dp ≤ k ∧ k < dp + n then f (sp + (k - dp)) else g k := rfl
/-- the channel changes, and nothing else -/
theorem rowR_ch {r r' : Nat → Int32} {w m : Nat} {pl : Bool} {tk : Nat} {ow : Nat → Int32} {P : Nat → PaV} {pc nx : Nat} {bits bits' : Nat → Int32} {nb nb' : Nat} {rc : RcV} {md : Nat} (h : rowR r (w, m, pl, tk, ow, P, pc, nx, bits, nb, rc, md)) (ho : ∀ j, j ≠ 5 → j < 329 → r' j = r j) (h5 : r' 5 = nI nb') (hb : nb' ≤ 2048) (hc : chR r' bits' nb') : rowR r' (w, m, pl, tk, ow, P, pc, nx, bits', nb', rc, md) := by
  obtain ⟨⟨e0, e1, e2, e3, e4, e5, e6, hw6, hw9, hmo, hpc, hnx, hnb, hmd⟩, hpar, hly, hch, hrc⟩ := h
  exact ⟨⟨(ho _ (by omega) (by omega)).trans e0, (ho _ (by omega) (by omega)).trans e1, (ho _ (by omega) (by omega)).trans e2, (ho _ (by omega) (by omega)).trans e3, (ho _ (by omega) (by omega)).trans e4, h5, (ho _ (by omega) (by omega)).trans e6, hw6, hw9, hmo, hpc, hnx, hb, hmd⟩, fun p hp => (hpar p hp).mv (fun j hj => ho _ (by omega) (by omega)), hly.mv (fun k hk => ho _ (by omega) (by omega)), hc, hrc.mv (fun j q1 q2 => ho _ (by omega) (by omega))⟩
theorem chR_rem {r bits : Nat → Int32} {nb j : Nat} (h : chR r bits nb) (hj : j < nb) : chR (mRem r nb j) (va_cpy bits bits (j + 1) j (nb - j - 1)) (nb - 1) := fun k hk => by
  unfold mRem
  rw [rmB_at, cpy_at]
  by_cases q : j ≤ k
  · rw [if_pos (by omega), if_pos (by omega), upd_n (by omega), show j + 1 + (k - j) = k + 1 by omega]
    exact h (k + 1) (by omega)
  · rw [if_neg (by omega), if_neg (by omega), upd_n (by omega)]
    exact h k (by omega)
theorem chR_ins {r bits : Nat → Int32} {nb j b : Nat} (h : chR r bits nb) (hj : j < nb) (hb : b ≤ 1) : chR (mIns r nb j (nI b)) (upd (va_cpy bits bits j (j + 1) (nb - j)) j (nI b)) (nb + 1) := fun k hk => by
  unfold mIns
  rw [upd_n (by omega)]
  by_cases e : k = j
  · subst e
    rw [upd_s, upd_s]
    exact ⟨rfl, b, hb, rfl⟩
  · rw [upd_n (by omega), upd_n e, inB_at _ _ _ _ (by omega), cpy_at]
    by_cases q : j < k
    · rw [if_pos (by omega), if_pos (by omega), show j + (k - (j + 1)) = k - 1 by omega, show 329 + k - 1 = 329 + (k - 1) by omega]
      exact h (k - 1) (by omega)
    · rw [if_neg (by omega), if_neg (by omega)]
      exact h k (by omega)
theorem mIns_5 (r : Nat → Int32) (b j : Nat) (x : Int32) : mIns r b j x 5 = nI (b + 1) := by
  unfold mIns
  exact upd_s _ _ _
theorem chR_flip {r bits : Nat → Int32} {nb j : Nat} (h : chR r bits nb) (hj : j < nb) : chR (upd r (329 + j) (nI 1 - r (329 + j))) (upd bits j (nI 1 - bits j)) nb := fun k hk => by
  by_cases e : k = j
  · subst e
    obtain ⟨h1, b, hb, h2⟩ := h k hk
    rw [upd_s, upd_s, h1, h2]
    exact ⟨rfl, 1 - b, by omega, pk_sub hb⟩
  · rw [upd_n (by omega), upd_n e]
    exact h k hk
/-! the digest -/
theorem itr_add {σ : Type} (g : Nat → σ → σ) (s : σ) (a : Nat) : ∀ b, itr g (a + b) s = itr (fun i => g (a + i)) b (itr g a s)
  | 0 => rfl
  | b + 1 => by rw [← Nat.add_assoc, itr_s, itr_s, itr_add g s a b]
/-- a parameter's part -/
theorem dg_par {r : Nat → Int32} {p : Nat} {v : PaV} (h : parR r p v) (z : Int64) : itr (fun i => hA r 33 (14 * p + i)) 14 z = pHv v z := by
  obtain ⟨h0, h1, h2, h3, h4, h5, h6, h7, h8, -⟩ := h
  have g0 := h4 0 (by omega)
  have g1 := h4 1 (by omega)
  have g2 := h4 2 (by omega)
  have hx9 : ∀ i z, (fun i => hA r 33 (14 * p + i)) i z = hx z (r (33 + 14 * p + i)) := fun i z => by
    show hx z (r (33 + (14 * p + i))) = _
    rw [Nat.add_assoc]
  show (fun i => hA r 33 (14 * p + i)) 13 ((fun i => hA r 33 (14 * p + i)) 12 ((fun i => hA r 33 (14 * p + i)) 11 ((fun i => hA r 33 (14 * p + i)) 10 ((fun i => hA r 33 (14 * p + i)) 9 ((fun i => hA r 33 (14 * p + i)) 8 ((fun i => hA r 33 (14 * p + i)) 7 ((fun i => hA r 33 (14 * p + i)) 6 ((fun i => hA r 33 (14 * p + i)) 5 ((fun i => hA r 33 (14 * p + i)) 4 ((fun i => hA r 33 (14 * p + i)) 3 ((fun i => hA r 33 (14 * p + i)) 2 ((fun i => hA r 33 (14 * p + i)) 1 ((fun i => hA r 33 (14 * p + i)) 0 z))))))))))))) = _
  rw [hx9, hx9, hx9, hx9, hx9, hx9, hx9, hx9, hx9, hx9, hx9, hx9, hx9, hx9, h0, h1, h2, h3, g0.1, g0.2, g1.1, g1.2, g2.1, g2.2, h5, h6, h7, h8]
  obtain ⟨ra, va, la, ct, lw, hg, pe, al, ou, na⟩ := v
  unfold pHv pHs
  cases al <;> rfl
theorem itr_blk {σ : Type} (g h : Nat → σ → σ) (k : Nat) (z : σ) : ∀ n, (∀ p, p < n → ∀ z, itr (fun i => g (k * p + i)) k z = h p z) → itr g (k * n) z = itr h n z
  | 0, _ => by rw [Nat.mul_zero]; rfl
  | n + 1, e => by
    rw [Nat.mul_succ, itr_add, itr_blk g h k z n (fun p hp => e p (by omega)), e n (by omega), itr_s]
theorem dg_pars {r : Nat → Int32} {P : Nat → PaV} (z : Int64) (n : Nat) (h : ∀ p, p < n → parR r p (P p)) : itr (hA r 33) (14 * n) z = itr (sHp P) n z := itr_blk (hA r 33) (sHp P) 14 z n (fun p hp z => dg_par (h p hp) z)
theorem dg_row {r d : Nat → Int32} {w f : Nat} (hw : w ≤ 16) (h1 : ∀ k, k < 16 → r (201 + (16 * f + k)) = d (16 * f + k)) (z : Int64) : itr (fun i => hP r w (16 * f + i)) 16 z = lHs d w f z := by
  have e0 : itr (fun i => hP r w (16 * f + i)) 16 z = itr (fun i => hP r w (16 * f + i)) (w + (16 - w)) z := by rw [show w + (16 - w) = 16 by omega]
  rw [e0, itr_add]
  have e1 : ∀ (z : Int64) n, n ≤ w → itr (fun i => hP r w (16 * f + i)) n z = itr (fun k h => 31 * h + (d (16 * f + k)).toInt64) n z := fun z n hn => itr_cg (fun i hi t => by
    show hP r w (16 * f + i) t = _
    unfold hP
    rw [if_pos (by omega), h1 i (by omega)]
    rfl)
  have e2 : ∀ (z : Int64) n, n ≤ 16 - w → itr (fun i => hP r w (16 * f + (w + i))) n z = z := fun z n => by
    induction n with
    | zero => intro _; rfl
    | succ n ih =>
      intro hn
      rw [itr_s, ih (by omega)]
      show hP r w (16 * f + (w + n)) z = z
      unfold hP
      rw [if_neg (by omega)]
  have e3 : ∀ z, itr (fun i => hP r w (16 * f + (w + i))) (16 - w) z = z := fun z => e2 z _ (Nat.le_refl _)
  rw [e3, e1 z w (Nat.le_refl _)]
  unfold lHs
  rfl
theorem dg_plan {r d : Nat → Int32} {w : Nat} (hw : w ≤ 16) (z : Int64) : ∀ m, m ≤ 8 → (∀ k, k < 128 → r (201 + k) = d k) → itr (hP r w) (16 * m) z = itr (lHs d w) m z
  | 0, _, _ => rfl
  | m + 1, hm, h => by
    rw [show 16 * (m + 1) = 16 * m + 16 by omega, itr_add, dg_plan hw z m (by omega) h, itr_s]
    exact dg_row hw (fun k hk => h _ (by omega)) _
set_option maxRecDepth 100000 in
set_option maxHeartbeats 4000000 in
theorem OP_disturb {K : jK} {x : Nat} {c : FcV} {v : MdV} (hR : RelV c v) (p0 p1 : Int32) : OpI K x (fun l G hs post => CtW l K yL_disturb cL_disturb 5 (some .int) [(0, 10, 13, 13), (0, 10, 17, 24), (0, 10, 21, 19)] 8 126 3 18 [.ref x, .int p0, .int p1, .ref (x + 233)] G hs post) (fun l G hs post => Ct l K yX6_disturb cX6_disturb 3 (some .int) 2 43 0 0 [.ref (x + 229), .int p0, .int p1] G hs post jno) c v := by
  obtain ⟨n, q, cnt, nw, ⟨w, m, pl, tk, ow, P, pc, nx, bits, nb, rc, md⟩, S, d⟩ := c
  obtain ⟨now, past, kept, thrown, drawn, hash⟩ := v
  have hrow : rowR now (w, m, pl, tk, ow, P, pc, nx, bits, nb, rc, md) := hR.1
  have hpast : pastR past kept S nw := hR.2.1
  have hcnt : cnt = kept := hR.2.2.1
  subst hcnt
  have hk : cnt ≤ 4 := hR.2.2.2.1
  have hnw : nw < 4 := hR.2.2.2.2
  obtain ⟨⟨e0, e1, e2, e3, e4, e5, e6, hw6, hw9, hmo, hpc, hnx, hnb, hmd⟩, hpar, hly, hch, hrc⟩ := hrow
  rcases rg_cases p0 0 3 with ⟨kd, -, hk3, rfl⟩ | hbad
  · rcases ix_cases p1 nb with ⟨j, hj, rfl⟩ | hbad2
    · by_cases h0 : kd = 0
      · subst h0
        exact op_disturb_ok _ _ (nI nb) (n, q, sC cnt, (nw + 1) % 4, (w, m, pl, tk, ow, P, pc, nx, upd bits j (nI 1 - bits j), nb, rc, md), svS S nw (w, m, pl, tk, ow, P, pc, nx, bits, nb, rc, md), d) (upd now (329 + j) (nI 1 - now (329 + j)), mKeep now past cnt, mKept cnt, nI 0, drawn, hash) ⟨rowR_ch hR.1 (fun i h1 h2 => upd_n (by omega)) ((upd_n (by omega)).trans e5) hnb (chR_flip hch hj), hpast.keep hk hnw hR.1, (mKept_sC hk).symm, by show mKept cnt ≤ 4; unfold mKept; split <;> omega, Nat.mod_lt _ (by omega)⟩ rfl (fun l hl G hs hc => c_X5_disturb_0 hl K _ _ _ _ _ _ _ _ _ _ _ _ _ _ _ _ _ _ _ _ _ hc hpc j hj) (fun l hl F hs => c_X6_disturb_0 hl K F (x + 229) hs now past thrown cnt hk drawn hash nb j e5 hnb hj)
      · by_cases h1 : kd = 1
        · subst h1
          exact op_disturb_ok _ _ (nI (nb - 1)) (n, q, sC cnt, (nw + 1) % 4, (w, m, pl, tk, ow, P, pc, nx, va_cpy bits bits (j + 1) j (nb - j - 1), nb - 1, rc, md), svS S nw (w, m, pl, tk, ow, P, pc, nx, bits, nb, rc, md), d) (mRem now nb j, mKeep now past cnt, mKept cnt, nI 0, drawn, hash) ⟨rowR_ch hR.1 (fun i h1 h2 => (rmB_out j _ h2 _).trans (upd_n h1)) ((rmB_out j _ (by omega) _).trans (upd_s _ _ _)) (by omega) (chR_rem hch hj), hpast.keep hk hnw hR.1, (mKept_sC hk).symm, by show mKept cnt ≤ 4; unfold mKept; split <;> omega, Nat.mod_lt _ (by omega)⟩ rfl (fun l hl G hs hc => c_X5_disturb_1 hl K _ _ _ _ _ _ _ _ _ _ _ _ _ _ _ _ _ _ _ _ _ hc hpc j hj) (fun l hl F hs => c_X6_disturb_1 hl K F (x + 229) hs now past thrown cnt hk drawn hash nb j e5 hnb hj)
        · by_cases hfull : nb = 2048
          · exact op_disturb_x3 _ _ (nI 0) hR (fun l hl G hs hc => c_X5_disturb_f3 hl K _ _ _ _ _ _ _ _ _ _ _ _ _ _ _ _ _ _ _ _ _ hc hpc kd (by omega) hk3 j hj hfull) (fun l hl F hs => c_X6_disturb_f3 hl K F (x + 229) hs now past thrown cnt hk drawn hash kd j (by rw [← hfull]; exact e5) (by omega) (by omega) hk3)
          · have hlt : nb < 2048 := by omega
            rcases (show kd = 2 ∨ kd = 3 by omega) with rfl | rfl
            · exact op_disturb_ok _ _ (nI (nb + 1)) (n, q, sC cnt, (nw + 1) % 4, (w, m, pl, tk, ow, P, pc, nx, upd (va_cpy bits bits j (j + 1) (nb - j)) j (nI 0), nb + 1, rc, md), svS S nw (w, m, pl, tk, ow, P, pc, nx, bits, nb, rc, md), d) (mIns now nb j (nI 0), mKeep now past cnt, mKept cnt, nI 0, drawn, hash) ⟨rowR_ch hR.1 (fun i h1 h2 => (upd_n h1).trans ((upd_n (by omega)).trans (inB_out nb now h2 _))) (mIns_5 now nb j (nI 0)) (by omega) (chR_ins hch hj (by omega)), hpast.keep hk hnw hR.1, (mKept_sC hk).symm, by show mKept cnt ≤ 4; unfold mKept; split <;> omega, Nat.mod_lt _ (by omega)⟩ rfl (fun l hl G hs hc => c_X5_disturb_2 hl K _ _ _ _ _ _ _ _ _ _ _ _ _ _ _ _ _ _ _ _ _ hc hpc j hj hlt) (fun l hl F hs => c_X6_disturb_2 hl K F (x + 229) hs now past thrown cnt hk drawn hash nb j e5 hlt hj 2 (by omega) (by omega))
            · exact op_disturb_ok _ _ (nI (nb + 1)) (n, q, sC cnt, (nw + 1) % 4, (w, m, pl, tk, ow, P, pc, nx, upd (va_cpy bits bits j (j + 1) (nb - j)) j (nI 1), nb + 1, rc, md), svS S nw (w, m, pl, tk, ow, P, pc, nx, bits, nb, rc, md), d) (mIns now nb j (nI 1), mKeep now past cnt, mKept cnt, nI 0, drawn, hash) ⟨rowR_ch hR.1 (fun i h1 h2 => (upd_n h1).trans ((upd_n (by omega)).trans (inB_out nb now h2 _))) (mIns_5 now nb j (nI 1)) (by omega) (chR_ins hch hj (by omega)), hpast.keep hk hnw hR.1, (mKept_sC hk).symm, by show mKept cnt ≤ 4; unfold mKept; split <;> omega, Nat.mod_lt _ (by omega)⟩ rfl (fun l hl G hs hc => c_X5_disturb_3 hl K _ _ _ _ _ _ _ _ _ _ _ _ _ _ _ _ _ _ _ _ _ hc hpc j hj hlt) (fun l hl F hs => c_X6_disturb_2 hl K F (x + 229) hs now past thrown cnt hk drawn hash nb j e5 hlt hj 3 (by omega) (by omega))
    · exact op_disturb_x2 _ _ (nI 0) hR (fun l hl G hs hc => c_X5_disturb_f2 hl K _ _ _ _ _ _ _ _ _ _ _ _ _ _ _ _ _ _ _ _ _ hc hpc kd hk3 p1 hbad2) (fun l hl F hs => c_X6_disturb_f2 hl K F (x + 229) hs now past thrown cnt hk drawn hash nb kd e5 hnb hk3 p1 hbad2)
  · exact op_disturb_x1 _ _ (nI 0) hR (fun l hl G hs hc => c_X5_disturb_f1 hl K _ _ _ _ _ _ _ _ _ _ _ _ _ _ _ _ _ _ _ _ _ hc hpc p0 p1 hbad) (fun l hl F hs => c_X6_disturb_f1 hl K F (x + 229) hs now past thrown cnt hk drawn hash p0 p1 hbad)
def OpQ (K : jK) (x : Nat) (H M : CtF) (c : FcV) (v : MdV) : Prop := ∃ (b : Int64), 
  (∀ l : Launch, l.stackTraces = false → ∀ G hs, lwOk K G x c v → H l G hs (pL (fun z G' _ => z = b ∧ lwOk K G' x c v))) ∧
  (∀ l : Launch, l.stackTraces = false → ∀ G hs, lwOk K G x c v → M l G hs (pL (fun z G' _ => z = b ∧ ∃ v', RelV c v' ∧ lwOk K G' x c v')))
set_option maxRecDepth 100000 in
set_option maxHeartbeats 4000000 in
theorem OP_digest {K : jK} {x : Nat} {c : FcV} {v : MdV} (hR : RelV c v) : OpQ K x (fun l G hs post => Ct l K yX5_digest cX5_digest 1 (some .long) 3 74 0 0 [.ref x] G hs post jno) (fun l G hs post => Ct l K yX6_digest cX6_digest 2 (some .long) 2 43 0 0 [.ref (x + 229)] G hs post jno) c v := by
  obtain ⟨n, q, cnt, nw, ⟨w, m, pl, tk, ow, P, pc, nx, bits, nb, rc, md⟩, S, d⟩ := c
  obtain ⟨now, past, kept, thrown, drawn, hash⟩ := v
  have hrow : rowR now (w, m, pl, tk, ow, P, pc, nx, bits, nb, rc, md) := hR.1
  have hpast : pastR past kept S nw := hR.2.1
  have hcnt : cnt = kept := hR.2.2.1
  subst hcnt
  have hk : cnt ≤ 4 := hR.2.2.2.1
  have hnw : nw < 4 := hR.2.2.2.2
  obtain ⟨⟨e0, e1, e2, e3, e4, e5, e6, hw6, hw9, hmo, hpc, hnx, hnb, hmd⟩, hpar, hly, hch, hrc⟩ := hrow
  have hm8 : m ≤ 8 := by omega
  have hplb : ∃ pb : Nat, pb ≤ 1 ∧ now 3 = nI pb ∧ (pb = 1 ↔ pl = true) := by
    rw [e3]
    cases pl
    · exact ⟨0, by omega, rfl, by simp⟩
    · exact ⟨1, by omega, rfl, by simp⟩
  obtain ⟨pb, hp1, hp2, hp3⟩ := hplb
  have key : mDg now w m pc pb nb (nI cnt) = 31 * sHs w m pl ow P pc nx bits nb rc md 2837 + (nI cnt).toInt64 := by
    have k1 : ∀ z, itr (hA now 33) (14 * pc) z = itr (sHp P) pc z := fun z => dg_pars z pc hpar
    have k2 : ∀ z, mHp now w m pb z = sHl w m pl ow z := fun z => by
      unfold mHp sHl
      cases pl with
      | true =>
        rw [if_pos (hp3.mpr rfl)]
        exact dg_plan hw9 _ m hm8 (hly rfl).1
      | false =>
        rw [if_neg (fun q => by have := hp3.mp q; cases this)]
        rfl
    have k3 : ∀ z, itr (hA now 329) nb z = itr (cH bits) nb z := fun z => itr_cg (fun i hi t => by
      show hx t (now (329 + i)) = _
      rw [(hch i hi).1]
      rfl)
    have k4 : ∀ z, itr (hA now 9) 6 z = itr (rH rc.2.2.1) 6 z := fun z => itr_cg (fun i hi t => by
      show hx t (now (9 + i)) = _
      rw [hrc.2.2.1 i hi]
      rfl)
    unfold mDg
    dsimp only
    rw [k1, k2, k3, k4, e0, e1, e2, e4, e5, hrc.1, hrc.2.1, e6]
    rfl
  refine ⟨31 * sHs w m pl ow P pc nx bits nb rc md 2837 + (nI cnt).toInt64, fun l hl G hs hw => ?_, fun l hl G hs hw => ?_⟩
  · have hc := hw.1
    exact Ct.mono (c_X5_digest hl K _ _ _ _ _ _ _ _ _ _ _ _ _ _ _ _ _ _ _ _ _ hc hpc hw6 hw9 hm8) (fun z G' h q9 => by
      obtain ⟨z9, e, e8, e9⟩ := q9
      subst e9
      exact ⟨z9, e, e8, hw⟩) (fun _ _ h => h)
  · have h9 := c_X6_digest hl K G (x + 229) hs now past (nI cnt) thrown drawn hash w m pc pb nb e0 e1 hw9 (by omega) hm8 e2 hpc hp2 hp1 e5 hnb
    refine Ct.mono (Ct.at hw.2.1 h9) (fun z G' h q9 => ?_) (fun _ _ h => h)
    obtain ⟨z9, e, e8, h8, e9⟩ := q9
    exact ⟨z9, e, e8.trans key, (now, past, cnt, nI 0, drawn, h8), hR, (hw.md (v' := (now, past, cnt, nI 0, drawn, h8)) e9).1⟩
