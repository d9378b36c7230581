/-! ===== the receiver: a sample, a frame delivered, a bit ===== -/
theorem parR_tk {r : Nat → Int32} {p : Nat} {u : PaV} (h : parR r p u) {md : Nat} (hmd : md ≤ 2) (x : Int32) : parR (mRs r p md x) p (pTk u x md) := by
  obtain ⟨ra, va, la, ct, lw, hg, pe, al, ou, na⟩ := u
  obtain ⟨g0, g1, g2, g3, g4, g5, g6, g7, g8, g9⟩ := h
  dsimp only at g0 g1 g2 g3 g4 g5 g6 g7 g8 g9
  have hL := (g4 md (by omega)).1
  have hH := (g4 md (by omega)).2
  unfold mRs pTk
  dsimp only
  have o2 : ∀ j, j ≠ 2 → j ≠ 3 → upd (upd r (33 + 14 * p + 2) x) (33 + 14 * p + 3) (upd r (33 + 14 * p + 2) x (33 + 14 * p + 3) + nI 1) (33 + 14 * p + j) = r (33 + 14 * p + j) := fun j q1 q2 => by
    rw [upd_n (by omega), upd_n (by omega)]
  have o3 : upd (upd r (33 + 14 * p + 2) x) (33 + 14 * p + 3) (upd r (33 + 14 * p + 2) x (33 + 14 * p + 3) + nI 1) (33 + 14 * p + 3) = ct + nI 1 := by
    rw [upd_s, upd_n (by omega), g3]
  have o4 : upd (upd r (33 + 14 * p + 2) x) (33 + 14 * p + 3) (upd r (33 + 14 * p + 2) x (33 + 14 * p + 3) + nI 1) (33 + 14 * p + 2) = x := by
    rw [upd_n (by omega), upd_s]
  generalize upd (upd r (33 + 14 * p + 2) x) (33 + 14 * p + 3) (upd r (33 + 14 * p + 2) x (33 + 14 * p + 3) + nI 1) = n2 at o2 o3 o4
  rw [o2 _ (by omega) (by omega), o2 (4 + 2 * md + 1) (by omega) (by omega), hL, hH]
  have lim : ∀ n : Nat → Int32, (∀ j, j < 6 → n (33 + 14 * p + (4 + j)) = n2 (33 + 14 * p + (4 + j))) → ∀ j, j < 3 → n (33 + 14 * p + (4 + 2 * j)) = lw j ∧ n (33 + 14 * p + (4 + 2 * j + 1)) = hg j := fun n hn j hj => by
    obtain ⟨a, b⟩ := g4 j hj
    have q1 := hn (2 * j) (by omega)
    have q2 := hn (2 * j + 1) (by omega)
    rw [show 4 + (2 * j + 1) = 4 + 2 * j + 1 by omega] at q2
    rw [q1, q2, o2 _ (by omega) (by omega), o2 _ (by omega) (by omega)]
    exact ⟨a, b⟩
  by_cases hc : lw md ≤ x ∧ x ≤ hg md
  · rw [if_pos hc, if_pos hc]
    have oz : ∀ j, j ≠ 11 → j ≠ 12 → upd (upd n2 (33 + 14 * p + 11) (nI 0)) (33 + 14 * p + 12) (nI 0) (33 + 14 * p + j) = n2 (33 + 14 * p + j) := fun j q1 q2 => by
      rw [upd_n (by omega), upd_n (by omega)]
    refine ⟨?_, ?_, ?_, ?_, lim _ (fun j hj => oz _ (by omega) (by omega)), ?_, ?_, ?_, ?_, g9⟩
    · rw [oz _ (by omega) (by omega), o2 _ (by omega) (by omega)]; exact g0
    · rw [oz _ (by omega) (by omega), o2 _ (by omega) (by omega)]; exact g1
    · rw [oz _ (by omega) (by omega)]; exact o4
    · rw [oz _ (by omega) (by omega)]; exact o3
    · rw [oz _ (by omega) (by omega), o2 _ (by omega) (by omega)]; exact g5
    · rw [upd_n (by omega), upd_s]; rfl
    · rw [upd_s]
    · rw [oz _ (by omega) (by omega), o2 _ (by omega) (by omega)]; exact g8
  · rw [if_neg hc, if_neg hc]
    have v12 : upd n2 (33 + 14 * p + 12) (n2 (33 + 14 * p + 12) + nI 1) (33 + 14 * p + 12) = ou + nI 1 := by
      rw [upd_s, o2 _ (by omega) (by omega), g7]
    have v10 : upd n2 (33 + 14 * p + 12) (n2 (33 + 14 * p + 12) + nI 1) (33 + 14 * p + 10) = pe := by
      rw [upd_n (by omega), o2 _ (by omega) (by omega), g5]
    have v11 : upd n2 (33 + 14 * p + 12) (n2 (33 + 14 * p + 12) + nI 1) (33 + 14 * p + 11) = jb al := by
      rw [upd_n (by omega), o2 _ (by omega) (by omega), g6]
    have v13 : upd n2 (33 + 14 * p + 12) (n2 (33 + 14 * p + 12) + nI 1) (33 + 14 * p + 13) = na := by
      rw [upd_n (by omega), o2 _ (by omega) (by omega), g8]
    have vz : ∀ j, j < 10 → upd n2 (33 + 14 * p + 12) (n2 (33 + 14 * p + 12) + nI 1) (33 + 14 * p + j) = n2 (33 + 14 * p + j) := fun j q1 => by
      rw [upd_n (by omega)]
    generalize upd n2 (33 + 14 * p + 12) (n2 (33 + 14 * p + 12) + nI 1) = n3 at v10 v11 v12 v13 vz
    have same : parR n3 p (ra, va, x, ct + nI 1, lw, hg, pe, al, ou + nI 1, na) := by
      refine ⟨?_, ?_, ?_, ?_, lim _ (fun j hj => vz _ (by omega)), v10, v11, v12, v13, g9⟩
      · rw [vz _ (by omega), o2 _ (by omega) (by omega)]; exact g0
      · rw [vz _ (by omega), o2 _ (by omega) (by omega)]; exact g1
      · rw [vz _ (by omega)]; exact o4
      · rw [vz _ (by omega)]; exact o3
    rw [v12, v10, v11]
    by_cases hd : ou + nI 1 < pe
    · rw [if_pos hd, if_pos (Or.inl hd)]
      exact same
    · rw [if_neg hd]
      cases al with
      | true =>
        rw [if_pos (show ¬ jb true = 0 by decide), if_pos (Or.inr rfl)]
        exact same
      | false =>
        rw [if_neg (show ¬ ¬ jb false = 0 by decide), if_neg (show ¬ (ou + nI 1 < pe ∨ false = true) from fun q => q.elim hd (fun z => by cases z))]
        obtain ⟨s0, s1, s2, s3, s4, s5, s6, s7, s8, s9⟩ := same
        have oz : ∀ j, j < 11 ∨ j = 12 → upd (upd n3 (33 + 14 * p + 11) (nI 1)) (33 + 14 * p + 13) (upd n3 (33 + 14 * p + 11) (nI 1) (33 + 14 * p + 13) + nI 1) (33 + 14 * p + j) = n3 (33 + 14 * p + j) := fun j q => by
          rw [upd_n (by omega), upd_n (by omega)]
        refine ⟨?_, ?_, ?_, ?_, fun j hj => ⟨?_, ?_⟩, ?_, ?_, ?_, ?_, s9⟩
        · rw [oz _ (by omega)]; exact s0
        · rw [oz _ (by omega)]; exact s1
        · rw [oz _ (by omega)]; exact s2
        · rw [oz _ (by omega)]; exact s3
        · rw [oz _ (by omega)]; exact (s4 j hj).1
        · rw [oz _ (by omega)]; exact (s4 j hj).2
        · rw [oz _ (by omega)]; exact s5
        · rw [upd_n (by omega), upd_s]; rfl
        · rw [oz _ (by omega)]; exact s7
        · rw [upd_s, upd_n (by omega), v13]
/-- the words of a delivered frame -/
theorem del_rows {n fm ow : Nat → Int32} {P : Nat → PaV} {w m pc md mm : Nat} (hpc : pc ≤ 12) (hw9 : w ≤ 16) (hm8 : m ≤ 8) (hmm : mm < m) (hmd : md ≤ 2) (hpar : ∀ p, p < pc → parR n p (P p)) (how : ∀ k, k < 128 → n (201 + k) = ow k) (ho2 : ∀ k, k < 128 → ow k = -1 ∨ ∃ j, j < pc ∧ ow k = nI j) (hfm : ∀ k, k < w - 2 → n (19 + k) = fm k) : ∀ N, N ≤ w - 3 → (∀ p, p < pc → parR (itr (mDl mm md) N n) p (itr (dW ow pc md fm mm) N P p)) ∧ ∀ i, (i < 33 ∨ 201 ≤ i) → itr (mDl mm md) N n i = n i
  | 0, _ => ⟨hpar, fun _ _ => rfl⟩
  | N + 1, hN => by
    obtain ⟨a1, a2⟩ := del_rows hpc hw9 hm8 hmm hmd hpar how ho2 hfm N (by omega)
    rw [itr_s, itr_s]
    have e0 : itr (mDl mm md) N n (201 + 16 * mm + (3 + N)) = ow (16 * mm + (3 + N)) := by
      rw [Nat.add_assoc, a2 _ (by omega)]
      exact how _ (by omega)
    have e1 : itr (mDl mm md) N n (19 + (3 + N) - 2) = fm (3 + N - 2) := by
      rw [show 19 + (3 + N) - 2 = 19 + (3 + N - 2) by omega, a2 _ (by omega)]
      exact hfm _ (by omega)
    generalize itr (mDl mm md) N n = nn at a1 a2 e0 e1 ⊢
    generalize itr (dW ow pc md fm mm) N P = PP at a1 ⊢
    unfold mDl dW
    rw [e0, e1]
    rcases ho2 (16 * mm + (3 + N)) (by omega) with e | ⟨j, hj, e⟩
    · rw [e, if_pos rfl, if_neg (fun q => absurd q.1 (by decide))]
      exact ⟨a1, a2⟩
    · rw [e, if_neg (nI_m1 (by omega)), if_pos ⟨Int32.not_lt.mp (nI_pos (by omega)), nI_lt hj (by omega)⟩, oI_nI (by omega), nI_clamp (by omega)]
      refine ⟨fun p hp => ?_, fun i hi => ?_⟩
      · by_cases q : p = j
        · rw [q, va_up_self]
          exact parR_tk (a1 j hj) hmd _
        · rw [va_up_ne _ _ q]
          exact (a1 p hp).mv (fun i hi => mRs_out _ _ (by omega))
      · rw [mRs_out _ _ (by omega)]
        exact a2 i hi
theorem rcR_end {n cn fm : Nat → Int32} {co mi hy : Int32} {w b p : Nat} (h7 : n 7 = co) (h8 : n 8 = mi) (h9 : ∀ k, k < 6 → n (9 + k) = cn k) (h18 : n 18 = nI b) (hm : ∃ k, k ≤ 2 ∧ mi = nI k) (hf : byR fm) (hco : co = nI 1 ∨ co = nI 2) (hb : b ≤ 1) (hp : p = 8 * (w - 2)) : rcR (upd (upd (upd n 15 (nI 2)) 16 (nI 0)) 17 (nI 0)) (co, mi, cn, fm, p, h1 hy b) w := by
  refine ⟨?_, ?_, fun k hk => ?_, hm, hf, Or.inr (Or.inr (Or.inl ⟨hco, ?_, 0, by omega, by show p = 8 * (w - 2) + 0; omega, ?_, ?_, ?_⟩))⟩
  · rw [upd_n (by omega), upd_n (by omega), upd_n (by omega)]
    exact h7
  · rw [upd_n (by omega), upd_n (by omega), upd_n (by omega)]
    exact h8
  · rw [upd_n (by omega), upd_n (by omega), upd_n (by omega)]
    exact h9 k hk
  · rw [upd_n (by omega), upd_n (by omega), upd_s]
  · rw [upd_n (by omega), upd_s]
  · rw [upd_s, Nat.pow_zero, Nat.mod_one]
  · rw [upd_n (by omega), upd_n (by omega), upd_n (by omega), h18]
    show nI b = nI (hN (h1 hy b) / 2 ^ 0 % 2)
    rw [hN_shl1 hy hb, Nat.pow_zero, Nat.div_one]
    congr 1
    omega
theorem tB_fm (w m : Nat) (ow : Nat → Int32) (pc md : Nat) (bits : Nat → Int32) (i : Nat) (s : RcV × (Nat → PaV)) : (tB w m ow pc md bits i s).1.2.2.2.1 = (tK s.1 (bits i) ((w - 2) * 8)).2.2.2.1 := by
  unfold tB
  split
  · unfold dRc
    split <;> rfl
  · rfl
