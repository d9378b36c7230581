/-! ===== the receiver: bit by bit on both sides ===== -/
theorem hN_le (x : Int32) (b : Nat) : (2 * hN x + b) % 2 ^ 32 % 65536 = (2 * hN x + b) % 65536 := by omega
/-- a bit goes into the frame -/
theorem store_row {r fm : Nat → Int32} {p b : Nat} (h : frR (fun k => r (19 + k)) fm p) (hp : p < 112) (hb : b ≤ 1) :
    frR (fun k => upd (upd (upd r (19 + p / 8) (nI 2 * r (19 + p / 8) + nI b)) 18 (nI b)) 16 (nI (p + 1)) (19 + k)) (rSt fm (p + 1) (nI b)) (p + 1) ∧ byR (rSt fm (p + 1) (nI b)) := by
  have key : ∀ k, k < 14 → ∃ v, v ≤ 255 ∧ rSt fm (p + 1) (nI b) k = nI v ∧ upd (upd (upd r (19 + p / 8) (nI 2 * r (19 + p / 8) + nI b)) 18 (nI b)) 16 (nI (p + 1)) (19 + k) = nI (v % 2 ^ (min 8 (p + 1 - 8 * k))) := by
    intro k hk
    obtain ⟨v, hv, e1, e2⟩ := h k hk
    have eF : rSt fm (p + 1) (nI b) = upd fm (p / 8) (((fm (p / 8) <<< (nI 1 &&& 31)) ||| nI b) &&& nI 255) := by
      unfold rSt
      rw [Nat.add_sub_cancel]
    have eR : upd (upd (upd r (19 + p / 8) (nI 2 * r (19 + p / 8) + nI b)) 18 (nI b)) 16 (nI (p + 1)) (19 + k) = upd r (19 + p / 8) (nI 2 * r (19 + p / 8) + nI b) (19 + k) := by
      rw [upd_n (show 19 + k ≠ 16 by omega), upd_n (show 19 + k ≠ 18 by omega)]
    rw [eF, eR]
    by_cases e : k = p / 8
    · subst e
      rw [upd_s fm, upd_s r, e1, frm_N (by omega) hb]
      have e2' : r (19 + p / 8) = nI (v % 2 ^ (min 8 (p - 8 * (p / 8)))) := e2
      rw [e2', dbl_N]
      refine ⟨(2 * v + b) % 256, by omega, rfl, ?_⟩
      congr 1
      have ht : p - 8 * (p / 8) < 8 := by omega
      have e3 : p + 1 - 8 * (p / 8) = (p - 8 * (p / 8)) + 1 := by omega
      rw [e3]
      generalize p - 8 * (p / 8) = t at ht
      rw [show min 8 t = t by omega, show min 8 (t + 1) = t + 1 by omega]
      rcases (show t = 0 ∨ t = 1 ∨ t = 2 ∨ t = 3 ∨ t = 4 ∨ t = 5 ∨ t = 6 ∨ t = 7 by omega) with rfl | rfl | rfl | rfl | rfl | rfl | rfl | rfl <;> simp only [Nat.reducePow, Nat.reduceAdd] <;> omega
    · rw [upd_n (f := fm) e, upd_n (f := r) (show 19 + k ≠ 19 + p / 8 by omega)]
      refine ⟨v, hv, e1, ?_⟩
      have e2' : r (19 + k) = nI (v % 2 ^ (min 8 (p - 8 * k))) := e2
      rw [e2', show min 8 (p - 8 * k) = min 8 (p + 1 - 8 * k) by omega]
  exact ⟨key, fun k hk => by obtain ⟨v, a1, a2, -⟩ := key k hk; exact ⟨v, a1, a2⟩⟩
theorem zW_at (r : Nat → Int32) : ∀ n, (∀ k, k < n → itr zW n r (19 + k) = nI 0) ∧ ∀ j, (j < 19 ∨ 19 + n ≤ j) → itr zW n r j = r j
  | 0 => ⟨fun k hk => absurd hk (Nat.not_lt_zero _), fun _ _ => rfl⟩
  | n + 1 => by
    obtain ⟨h1, h2⟩ := zW_at r n
    rw [itr_s]
    unfold zW
    refine ⟨fun k hk => ?_, fun j hj => ?_⟩
    · by_cases e : k = n
      · subst e
        rw [upd_s]
      · rw [upd_n (by omega)]
        exact h1 k (by omega)
    · rw [upd_n (by omega)]
      exact h2 j (by omega)
theorem mBeg_at (r : Nat → Int32) : mBeg r 15 = nI 1 ∧ mBeg r 16 = nI 0 ∧ (∀ k, k < 14 → mBeg r (19 + k) = nI 0) ∧ ∀ j, j ≠ 15 → j ≠ 16 → (j < 19 ∨ 33 ≤ j) → mBeg r j = r j := by
  unfold mBeg
  obtain ⟨h1, h2⟩ := zW_at (upd (upd r 15 (nI 1)) 16 (nI 0)) 14
  refine ⟨?_, ?_, h1, fun j a b c => ?_⟩
  · rw [h2 _ (by omega), upd_n (by omega), upd_s]
  · rw [h2 _ (by omega), upd_s]
  · rw [h2 _ (by omega), upd_n b, upd_n a]
theorem frR_beg {r fm : Nat → Int32} (hf : byR fm) : frR (fun k => mBeg r (19 + k)) fm 0 := fun k hk => by
  obtain ⟨v, a1, a2⟩ := hf k hk
  refine ⟨v, a1, a2, ?_⟩
  show mBeg r (19 + k) = _
  rw [(mBeg_at r).2.2.1 k hk, Nat.zero_sub, Nat.min_eq_right (Nat.zero_le _), Nat.pow_zero, Nat.mod_one]
/-- the first bit of a frame -/
theorem mTI_0 (r : Nat → Int32) {w : Nat} (hw6 : 6 ≤ w) (bit : Int32) : mTI r w 0 0 0 0 bit = upd (upd (upd r (19 + 0 / 8) (nI 2 * r (19 + 0 / 8) + bit)) 18 bit) 16 (nI (0 + 1)) := by
  unfold mTI
  dsimp only
  rw [if_neg (by omega)]
/-- the row that a taken bit makes outside of a frame -/
def mN2 (r : Nat → Int32) (bit : Int32) : Nat → Int32 := upd (upd r 17 (((r 17 <<< (nI 1 &&& 31)) ||| bit) &&& 65535)) 16 (upd r 17 (((r 17 <<< (nI 1 &&& 31)) ||| bit) &&& 65535) 16 + (if nI 16 ≤ upd r 17 (((r 17 <<< (nI 1 &&& 31)) ||| bit) &&& 65535) 16 then nI 0 else nI 1))
theorem mTB_n {r : Nat → Int32} {w : Nat} {bit : Int32} (h : ¬ r 15 = nI 1) : mTB r w 0 0 0 0 bit = mTB2 (mN2 r bit) w bit := by
  unfold mTB
  rw [if_neg h]
  rfl
theorem mN2_at {r : Nat → Int32} {L t b : Nat} (h17 : r 17 = nI L) (hL : L < 65536) (h16 : r 16 = nI t) (ht : t ≤ 16) (hb : b ≤ 1) : mN2 r (nI b) 17 = nI ((2 * L + b) % 65536) ∧ mN2 r (nI b) 16 = nI (if t < 16 then t + 1 else 16) ∧ ∀ j, j ≠ 16 → j ≠ 17 → mN2 r (nI b) j = r j := by
  unfold mN2
  refine ⟨?_, ?_, fun j h1 h2 => ?_⟩
  · rw [upd_n (by omega), upd_s, h17, lat_N hL hb]
  · rw [upd_s, upd_n (by omega), h16]
    by_cases q : t < 16
    · rw [if_neg (fun q9 => by have := (nI_leI (by omega) (by omega)).mp q9; omega), if_pos q, nI_add]
    · rw [if_pos (nI_le (by omega) (by omega)), if_neg q, nI_add, show t + 0 = 16 by omega]
  · rw [upd_n h1, upd_n h2]
theorem tbP_n {r : Nat → Int32} {w : Nat} (h0 : r 0 = nI w) (h : ¬ r 15 = nI 1) : tbP r w 0 0 0 0 := ⟨h0, fun q => absurd q h⟩
theorem nI_ne {a b : Nat} (h : a ≠ b) (ha : a < 2 ^ 31) (hb : b < 2 ^ 31) : ¬ nI a = nI b := fun q => h (nI_inj q ha hb)
theorem rcR_beg {n fm cn : Nat → Int32} {co mi : Int32} {hi : Int32} {w : Nat} (h7 : n 7 = co) (h8 : n 8 = mi) (h9 : ∀ k, k < 6 → n (9 + k) = cn k) (hm : ∃ k, k ≤ 2 ∧ mi = nI k) (hf : byR fm) (hco : co = nI 1 ∨ co = nI 2) (hw6 : 6 ≤ w) : rcR (mBeg n) (co, mi, cn, fm, 0, hi) w := by
  obtain ⟨a1, a2, a3, a4⟩ := mBeg_at n
  exact ⟨(a4 7 (by omega) (by omega) (by omega)).trans h7, (a4 8 (by omega) (by omega) (by omega)).trans h8, fun k hk => (a4 _ (by omega) (by omega) (by omega)).trans (h9 k hk), hm, hf, Or.inr (Or.inl ⟨hco, a1, by show 0 < 8 * (w - 2); omega, a2, frR_beg hf⟩)⟩
theorem rcR_beg1 {n fm cn : Nat → Int32} {co mi : Int32} {hi : Int32} {w b : Nat} (h7 : n 7 = co) (h8 : n 8 = mi) (h9 : ∀ k, k < 6 → n (9 + k) = cn k) (hm : ∃ k, k ≤ 2 ∧ mi = nI k) (hf : byR fm) (hco : co = nI 1 ∨ co = nI 2) (hw6 : 6 ≤ w) (hb : b ≤ 1) : rcR (mTI (mBeg n) w 0 0 0 0 (nI b)) (co, mi, cn, rSt fm 1 (nI b), 1, hi) w := by
  obtain ⟨a1, a2, a3, a4⟩ := mBeg_at n
  obtain ⟨s1, s2⟩ := store_row (r := mBeg n) (p := 0) (b := b) (frR_beg hf) (by omega) hb
  rw [mTI_0 _ hw6]
  have ho : ∀ j, j ≠ 16 → j ≠ 18 → j < 19 → upd (upd (upd (mBeg n) (19 + 0 / 8) (nI 2 * mBeg n (19 + 0 / 8) + nI b)) 18 (nI b)) 16 (nI (0 + 1)) j = mBeg n j := fun j q1 q2 q3 => by rw [upd_n q1, upd_n q2, upd_n (by omega)]
  exact ⟨(ho 7 (by omega) (by omega) (by omega)).trans ((a4 7 (by omega) (by omega) (by omega)).trans h7), (ho 8 (by omega) (by omega) (by omega)).trans ((a4 8 (by omega) (by omega) (by omega)).trans h8), fun k hk => (ho _ (by omega) (by omega) (by omega)).trans ((a4 _ (by omega) (by omega) (by omega)).trans (h9 k hk)), hm, s2, Or.inr (Or.inl ⟨hco, (ho 15 (by omega) (by omega) (by omega)).trans a1, by show 1 < 8 * (w - 2); omega, upd_s _ _ _, s1⟩)⟩
theorem mTI0_out {n : Nat → Int32} {w b : Nat} (hw6 : 6 ≤ w) {j : Nat} (h : j < 7 ∨ 33 ≤ j) : mTI (mBeg n) w 0 0 0 0 (nI b) j = n j := by
  rw [mTI_0 _ hw6, upd_n (by omega), upd_n (by omega), upd_n (by omega)]
  exact (mBeg_at n).2.2.2 j (by omega) (by omega) (by omega)
