/-! ===== the receiver: the phases ===== -/
theorem eA {H b t : Nat} (ht : t < 16) (hb : b ≤ 1) : (2 * (H % 2 ^ t) + b) % 65536 = (2 * H + b) % 2 ^ 32 % 2 ^ (t + 1) := by
  rcases (show t = 0 ∨ t = 1 ∨ t = 2 ∨ t = 3 ∨ t = 4 ∨ t = 5 ∨ t = 6 ∨ t = 7 ∨ t = 8 ∨ t = 9 ∨ t = 10 ∨ t = 11 ∨ t = 12 ∨ t = 13 ∨ t = 14 ∨ t = 15 by omega) with rfl | rfl | rfl | rfl | rfl | rfl | rfl | rfl | rfl | rfl | rfl | rfl | rfl | rfl | rfl | rfl <;> simp only [Nat.reducePow, Nat.reduceAdd] <;> omega
theorem eB {H b t : Nat} (ht : t < 16) (hb : b ≤ 1) : H / 2 ^ t % 2 = (2 * H + b) % 2 ^ 32 / 2 ^ (t + 1) % 2 := by
  rcases (show t = 0 ∨ t = 1 ∨ t = 2 ∨ t = 3 ∨ t = 4 ∨ t = 5 ∨ t = 6 ∨ t = 7 ∨ t = 8 ∨ t = 9 ∨ t = 10 ∨ t = 11 ∨ t = 12 ∨ t = 13 ∨ t = 14 ∨ t = 15 by omega) with rfl | rfl | rfl | rfl | rfl | rfl | rfl | rfl | rfl | rfl | rfl | rfl | rfl | rfl | rfl | rfl <;> simp only [Nat.reducePow, Nat.reduceAdd] <;> omega
theorem eL {H t : Nat} (ht : t < 16) : H % 2 ^ t < 65536 := Nat.lt_of_lt_of_le (Nat.mod_lt _ (Nat.two_pow_pos t)) (Nat.le_trans (Nat.pow_le_pow_right (by omega) (show t ≤ 16 by omega)) (by decide))
theorem cn_up {r cn : Nat → Int32} {i : Nat} (h : ∀ k, k < 6 → r (9 + k) = cn k) (hi : i < 6) (x : Int32) : ∀ k, k < 6 → upd r (9 + i) x (9 + k) = upd cn i x k := fun k hk => by
  by_cases e : k = i
  · subst e
    rw [upd_s, upd_s]
  · rw [upd_n (by omega), upd_n e]
    exact h k hk
abbrev h1 (hi : Int32) (b : Nat) : Int32 := (hi <<< (nI 1 &&& 31)) ||| nI b
theorem tK_eq (co mi : Int32) (cn fm : Nat → Int32) (p : Nat) (hi bit : Int32) (B : Nat) : tK (co, mi, cn, fm, p, hi) bit B = rTk co mi cn fm p hi bit B := rfl
section RB
variable {r : Nat → Int32} {co mi : Int32} {cn fm : Nat → Int32} {p : Nat} {hi : Int32} {w b : Nat}
/-- searching -/
theorem phS (h0 : r 0 = nI w) (hw6 : 6 ≤ w) (hw9 : w ≤ 16) (hb : b ≤ 1) (h7 : r 7 = co) (h8 : r 8 = mi) (h9 : ∀ k, k < 6 → r (9 + k) = cn k) (hm : ∃ k, k ≤ 2 ∧ mi = nI k) (hf : byR fm) (hco : co = nI 0) (h15 : r 15 = nI 0) (hp : p ≤ 129) {t : Nat} (ht : t ≤ 16) (h16 : r 16 = nI t) (h17 : r 17 = nI (hN hi % 65536)) (hlt : t < 16 → hN hi % 65536 < 2 ^ t) :
    rcR (mTB r w 0 0 0 0 (nI b)) (tK (co, mi, cn, fm, p, hi) (nI b) ((w - 2) * 8)) w ∧ ∀ j, (j < 7 ∨ 33 ≤ j) → mTB r w 0 0 0 0 (nI b) j = r j := by
  have n15 : ¬ r 15 = nI 1 := by rw [h15]; decide
  rw [mTB_n n15, tK_eq]
  obtain ⟨a17, a16, ao⟩ := mN2_at h17 (by omega) h16 ht hb
  have hH := hN_shl1 hi hb
  have b15 : mN2 r (nI b) 15 = nI 0 := (ao 15 (by omega) (by omega)).trans h15
  have a17' : mN2 r (nI b) 17 = nI (hN (h1 hi b) % 65536) := by
    rw [a17, hH]
    congr 1
    omega
  have e1 : mTB2 (mN2 r (nI b)) w (nI b) = (if mN2 r (nI b) 16 = nI 16 then (if mN2 r (nI b) 17 = 60304 then mBeg (upd (upd (mN2 r (nI b)) 7 (nI 1)) 14 (upd (mN2 r (nI b)) 7 (nI 1) 14 + nI 1)) else mN2 r (nI b)) else mN2 r (nI b)) := by
    unfold mTB2
    rw [if_neg (by rw [b15]; decide), if_neg (by rw [b15]; decide)]
  have e2 : rTk co mi cn fm p hi (nI b) ((w - 2) * 8) = rLook mi cn fm p (h1 hi b) := if_pos (by rw [hco]; rfl)
  rw [e1, e2]
  unfold rLook
  by_cases hs : hN (h1 hi b) % 65536 = 60304
  · have ht16 : ¬ t < 15 := fun q => by
      have q1 := hlt (by omega)
      have q2 : 2 ^ (t + 1) ≤ 2 ^ 15 := Nat.pow_le_pow_right (by omega) (by omega)
      rw [Nat.pow_succ] at q2
      rw [hH] at hs
      simp only [Nat.reducePow] at q2 hs
      omega
    have et : (if t < 16 then t + 1 else 16) = 16 := by split <;> omega
    rw [if_pos (by rw [a16, et]), if_pos (by rw [a17', hN_sy (by omega)]; exact hs), if_pos ((isSy_N _).mpr hs)]
    refine ⟨rcR_beg ?_ ?_ ?_ hm hf (Or.inl rfl) hw6, fun j hj => ?_⟩
    · rw [upd_n (by omega), upd_s]
    · rw [upd_n (by omega), upd_n (by omega), ao _ (by omega) (by omega), h8]
    · have q0 : ∀ k, k < 6 → upd (mN2 r (nI b)) 7 (nI 1) (9 + k) = cn k := fun k hk => by rw [upd_n (by omega), ao _ (by omega) (by omega)]; exact h9 k hk
      have q1 := cn_up q0 (i := 5) (by omega) (cn 5 + nI 1)
      rw [show upd (mN2 r (nI b)) 7 (nI 1) 14 = cn 5 from q0 5 (by omega)]
      exact q1
    · rw [(mBeg_at _).2.2.2 j (by omega) (by omega) (by omega), upd_n (by omega), upd_n (by omega), ao _ (by omega) (by omega)]
  · have e3 : (if mN2 r (nI b) 16 = nI 16 then (if mN2 r (nI b) 17 = 60304 then mBeg (upd (upd (mN2 r (nI b)) 7 (nI 1)) 14 (upd (mN2 r (nI b)) 7 (nI 1) 14 + nI 1)) else mN2 r (nI b)) else mN2 r (nI b)) = mN2 r (nI b) := by
      split
      · rw [if_neg (by rw [a17', hN_sy (by omega)]; exact hs)]
      · rfl
    rw [e3, if_neg (fun q => hs ((isSy_N _).mp q))]
    refine ⟨⟨?_, (ao _ (by omega) (by omega)).trans h8, fun k hk => (ao _ (by omega) (by omega)).trans (h9 k hk), hm, hf, Or.inl ⟨rfl, b15, hp, _, ?_, a16, a17', fun q => ?_⟩⟩, fun j hj => ao _ (by omega) (by omega)⟩
    · exact ((ao _ (by omega) (by omega)).trans h7).trans hco
    · split <;> omega
    · have q0 : t < 16 := by
        by_cases z : t < 16
        · exact z
        · rw [if_neg z] at q; omega
      rw [if_pos q0]
      have q1 := hlt q0
      rw [Nat.pow_succ]
      show hN (h1 hi b) % 65536 < _
      rw [hH, hN_le]
      have := Nat.mod_le (2 * hN hi + b) 65536
      omega
/-- the bits behind a frame -/
theorem phE (h0 : r 0 = nI w) (hw6 : 6 ≤ w) (hw9 : w ≤ 16) (hb : b ≤ 1) (h7 : r 7 = co) (h8 : r 8 = mi) (h9 : ∀ k, k < 6 → r (9 + k) = cn k) (hm : ∃ k, k ≤ 2 ∧ mi = nI k) (hf : byR fm) (hco : co = nI 1 ∨ co = nI 2) (h15 : r 15 = nI 2) {t : Nat} (ht : t < 16) (hp : p = 8 * (w - 2) + t) (h16 : r 16 = nI t) (h17 : r 17 = nI (hN hi % 2 ^ t)) (h18 : r 18 = nI (hN hi / 2 ^ t % 2)) :
    rcR (mTB r w 0 0 0 0 (nI b)) (tK (co, mi, cn, fm, p, hi) (nI b) ((w - 2) * 8)) w ∧ ∀ j, (j < 7 ∨ 33 ≤ j) → mTB r w 0 0 0 0 (nI b) j = r j := by
  have n15 : ¬ r 15 = nI 1 := by rw [h15]; decide
  rw [mTB_n n15, tK_eq]
  obtain ⟨a17, a16, ao⟩ := mN2_at h17 (eL ht) h16 (by omega) hb
  have hH := hN_shl1 hi hb
  have b15 : mN2 r (nI b) 15 = nI 2 := (ao 15 (by omega) (by omega)).trans h15
  rw [eA ht hb, ← hH] at a17
  rw [if_pos ht] at a16
  have b18 : mN2 r (nI b) 18 = nI (hN (h1 hi b) / 2 ^ (t + 1) % 2) := by rw [ao _ (by omega) (by omega), h18, eB ht hb, ← hH]
  have hc0 : ¬ co = 0 := by rcases hco with rfl | rfl <;> decide
  have o7 : mN2 r (nI b) 7 = co := (ao _ (by omega) (by omega)).trans h7
  have o8 : mN2 r (nI b) 8 = mi := (ao _ (by omega) (by omega)).trans h8
  have o9 : ∀ k, k < 6 → mN2 r (nI b) (9 + k) = cn k := fun k hk => (ao _ (by omega) (by omega)).trans (h9 k hk)
  have e1 : mTB2 (mN2 r (nI b)) w (nI b) = (if mN2 r (nI b) 16 = nI 16 then mCp (mN2 r (nI b)) w else mN2 r (nI b)) := by
    unfold mTB2
    rw [if_neg (by rw [b15]; decide), if_pos b15]
  have eT : rTk co mi cn fm p hi (nI b) ((w - 2) * 8) = (if p + 1 = (w - 2) * 8 + 16 then rExp co mi cn fm (p + 1) (h1 hi b) (nI b) else if (w - 2) * 8 + 16 < p + 1 then rLate co mi cn fm (p + 1) (h1 hi b) (nI b) else (co, mi, cn, fm, p + 1, h1 hi b)) := by
    unfold rTk
    rw [if_neg hc0, if_neg (show ¬ p + 1 ≤ (w - 2) * 8 by omega)]
  rw [e1, eT]
  by_cases t15 : t = 15
  · subst t15
    rw [if_pos a16, if_pos (show p + 1 = (w - 2) * 8 + 16 by omega)]
    have a17' : mN2 r (nI b) 17 = nI (hN (h1 hi b) % 65536) := a17
    unfold rExp mCp
    by_cases hs : hN (h1 hi b) % 65536 = 60304
    · rw [if_pos (by rw [a17', hN_sy (by omega)]; exact hs), if_pos ((isSy_N _).mpr hs)]
      refine ⟨rcR_beg ?_ ?_ ?_ ⟨0, by omega, rfl⟩ hf (Or.inr rfl) hw6, fun j hj => ?_⟩
      · rw [upd_n (by omega), upd_s]
      · rw [upd_s]
      · intro k hk
        rw [upd_n (by omega), upd_n (by omega)]
        exact o9 k hk
      · rw [(mBeg_at _).2.2.2 j (by omega) (by omega) (by omega), upd_n (by omega), upd_n (by omega), ao _ (by omega) (by omega)]
    · rw [if_neg (by rw [a17', hN_sy (by omega)]; exact hs), if_neg (fun q => hs ((isSy_N _).mp q)), o7]
      by_cases c1 : co = nI 1
      · rw [if_pos c1, if_pos c1]
        refine ⟨⟨?_, ?_, ?_, hm, hf, Or.inl ⟨rfl, upd_s _ _ _, by show p + 1 ≤ 129; omega, 16, by omega, ?_, ?_, fun q => by omega⟩⟩, fun j hj => ?_⟩
        · rw [upd_n (by omega), upd_s]
        · rw [upd_n (by omega), upd_n (by omega), o8]
        · intro k hk
          rw [upd_n (by omega), upd_n (by omega)]
          exact o9 k hk
        · rw [upd_n (by omega), upd_n (by omega), a16]
        · rw [upd_n (by omega), upd_n (by omega)]
          exact a17'
        · rw [upd_n (by omega), upd_n (by omega), ao _ (by omega) (by omega)]
      · have c2 : co = nI 2 := hco.resolve_left c1
        rw [if_neg c1, if_neg c1, b18, a17', lst_N (by omega) (by omega)]
        have e5 : hN (h1 hi b) / 2 ^ (15 + 1) % 2 * 32768 + hN (h1 hi b) % 65536 / 2 = hN (h1 hi b) / 2 % 65536 := by
          simp only [Nat.reduceAdd, Nat.reducePow]
          omega
        rw [e5]
        by_cases hs2 : hN (h1 hi b) / 2 % 65536 = 60304
        · rw [if_pos ((hN_sy (by omega)).mpr hs2), if_pos ((isSy_N1 _).mpr hs2)]
          have eb : upd (upd (mN2 r (nI b)) 11 (mN2 r (nI b) 11 + nI 1)) 8 (nI 0) 17 &&& nI 1 = nI b := by
            rw [upd_n (by omega), upd_n (by omega), a17', hN_and1, hN_nI (by omega)]
            congr 1
            rw [hH]
            omega
          rw [eb]
          refine ⟨rcR_beg1 ?_ ?_ ?_ ⟨0, by omega, rfl⟩ hf (Or.inr c2) hw6 hb, fun j hj => ?_⟩
          · rw [upd_n (by omega), upd_n (by omega), o7]
          · rw [upd_s]
          · intro k hk
            have q1 := cn_up o9 (i := 2) (by omega) (cn 2 + nI 1) k hk
            rw [upd_n (by omega), show mN2 r (nI b) 11 = cn 2 from o9 2 (by omega)]
            exact q1
          · rw [mTI0_out hw6 hj, upd_n (by omega), upd_n (by omega), ao _ (by omega) (by omega)]
        · rw [if_neg (fun q => hs2 ((hN_sy (by omega)).mp q)), if_neg (fun q => hs2 ((isSy_N1 _).mp q))]
          refine ⟨⟨?_, ?_, ?_, hm, hf, Or.inr (Or.inr (Or.inr ⟨c2, upd_s _ _ _, by show p + 1 = 8 * (w - 2) + 16; omega, ?_, ?_⟩))⟩, fun j hj => ?_⟩
          · rw [upd_n (by omega), o7]
          · rw [upd_n (by omega), o8]
          · intro k hk
            rw [upd_n (by omega)]
            exact o9 k hk
          · rw [upd_n (by omega), a16]
          · rw [upd_n (by omega)]
            exact a17'
          · rw [upd_n (by omega), ao _ (by omega) (by omega)]
  · rw [if_neg (show ¬ mN2 r (nI b) 16 = nI 16 by rw [a16]; exact nI_ne (by omega) (by omega) (by omega)), if_neg (show ¬ p + 1 = (w - 2) * 8 + 16 by omega), if_neg (show ¬ (w - 2) * 8 + 16 < p + 1 by omega)]
    exact ⟨⟨o7, o8, o9, hm, hf, Or.inr (Or.inr (Or.inl ⟨hco, b15, t + 1, by omega, by show p + 1 = _; omega, a16, a17, b18⟩))⟩, fun j hj => ao _ (by omega) (by omega)⟩
/-- one bit more -/
theorem phM (h0 : r 0 = nI w) (hw6 : 6 ≤ w) (hw9 : w ≤ 16) (hb : b ≤ 1) (h7 : r 7 = co) (h8 : r 8 = mi) (h9 : ∀ k, k < 6 → r (9 + k) = cn k) (hm : ∃ k, k ≤ 2 ∧ mi = nI k) (hf : byR fm) (hco : co = nI 2) (h15 : r 15 = nI 3) (hp : p = 8 * (w - 2) + 16) (h16 : r 16 = nI 16) (h17 : r 17 = nI (hN hi % 65536)) :
    rcR (mTB r w 0 0 0 0 (nI b)) (tK (co, mi, cn, fm, p, hi) (nI b) ((w - 2) * 8)) w ∧ ∀ j, (j < 7 ∨ 33 ≤ j) → mTB r w 0 0 0 0 (nI b) j = r j := by
  have n15 : ¬ r 15 = nI 1 := by rw [h15]; decide
  rw [mTB_n n15, tK_eq]
  obtain ⟨a17, a16, ao⟩ := mN2_at h17 (by omega) h16 (by omega) hb
  have hH := hN_shl1 hi hb
  have b15 : mN2 r (nI b) 15 = nI 3 := (ao 15 (by omega) (by omega)).trans h15
  have a17' : mN2 r (nI b) 17 = nI (hN (h1 hi b) % 65536) := by
    rw [a17, hH]
    congr 1
    omega
  have hc0 : ¬ co = 0 := by rw [hco]; decide
  have o7 : mN2 r (nI b) 7 = co := (ao _ (by omega) (by omega)).trans h7
  have o8 : mN2 r (nI b) 8 = mi := (ao _ (by omega) (by omega)).trans h8
  have o9 : ∀ k, k < 6 → mN2 r (nI b) (9 + k) = cn k := fun k hk => (ao _ (by omega) (by omega)).trans (h9 k hk)
  have e1 : mTB2 (mN2 r (nI b)) w (nI b) = mOM (mN2 r (nI b)) w (nI b) := if_pos b15
  rw [e1]
  unfold rTk
  rw [if_neg hc0, if_neg (by omega), if_neg (by omega), if_pos (by omega)]
  unfold rLate mOM
  dsimp only
  by_cases hs : hN (h1 hi b) % 65536 = 60304
  · rw [if_pos (by rw [a17', hN_sy (by omega)]; exact hs), if_pos ((isSy_N _).mpr hs)]
    refine ⟨rcR_beg ?_ ?_ ?_ ⟨0, by omega, rfl⟩ hf (Or.inr hco) hw6, fun j hj => ?_⟩
    · rw [upd_n (by omega), upd_n (by omega), o7]
    · rw [upd_s]
    · intro k hk
      have q1 := cn_up o9 (i := 3) (by omega) (cn 3 + nI 1) k hk
      rw [upd_n (by omega), show mN2 r (nI b) 12 = cn 3 from o9 3 (by omega)]
      exact q1
    · rw [(mBeg_at _).2.2.2 j (by omega) (by omega) (by omega), upd_n (by omega), upd_n (by omega), ao _ (by omega) (by omega)]
  · rw [if_neg (by rw [a17', hN_sy (by omega)]; exact hs), if_neg (fun q => hs ((isSy_N _).mp q))]
    obtain ⟨k, hk2, rfl⟩ := hm
    have v8 : upd (mN2 r (nI b)) 13 (mN2 r (nI b) 13 + nI 1) 8 + nI 1 = nI (k + 1) := by rw [upd_n (by omega), o8, nI_add]
    rw [v8, upd_s, nI_add]
    have q9 : ∀ x, ∀ i, i < 6 → upd (upd (mN2 r (nI b)) 13 (mN2 r (nI b) 13 + nI 1)) 8 x (9 + i) = upd cn 4 (cn 4 + nI 1) i := fun x i hi => by
      have q1 := cn_up o9 (i := 4) (by omega) (cn 4 + nI 1) i hi
      rw [upd_n (by omega), show mN2 r (nI b) 13 = cn 4 from o9 4 (by omega)]
      exact q1
    by_cases k3 : k = 2
    · subst k3
      rw [if_pos rfl, if_neg (by decide)]
      unfold mSear
      refine ⟨⟨?_, ?_, ?_, ⟨0, by omega, rfl⟩, hf, Or.inl ⟨rfl, ?_, by show p + 1 ≤ 129; omega, 0, by omega, ?_, ?_, fun _ => ?_⟩⟩, fun j hj => ?_⟩
      · rw [upd_n (by omega), upd_n (by omega), upd_n (by omega), upd_s]
      · rw [upd_n (by omega), upd_n (by omega), upd_n (by omega), upd_n (by omega), upd_s]
      · intro i hi
        rw [upd_n (by omega), upd_n (by omega), upd_n (by omega), upd_n (by omega), upd_n (by omega)]
        exact q9 _ i hi
      · rw [upd_n (by omega), upd_n (by omega), upd_s]
      · rw [upd_n (by omega), upd_s]
      · rw [upd_s]
        rfl
      · show hN (nI 0) % 65536 < 2 ^ 0
        decide
      · rw [upd_n (by omega), upd_n (by omega), upd_n (by omega), upd_n (by omega), upd_n (by omega), upd_n (by omega), upd_n (by omega), ao _ (by omega) (by omega)]
    · rw [if_neg (nI_ne (by omega) (by omega) (by omega)), if_pos (nI_lt (by omega) (by omega))]
      refine ⟨rcR_beg1 ?_ ?_ (q9 _) ⟨k + 1, by omega, rfl⟩ hf (Or.inr hco) hw6 hb, fun j hj => ?_⟩
      · rw [upd_n (by omega), upd_n (by omega), o7]
      · rw [upd_s]
      · rw [mTI0_out hw6 hj, upd_n (by omega), upd_n (by omega), ao _ (by omega) (by omega)]
end RB
