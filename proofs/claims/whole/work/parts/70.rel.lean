/-! ===== the class's state and the reference's row ===== -/
def parR (r : Nat → Int32) (p : Nat) (v : PaV) : Prop :=
  r (33 + 14 * p + 0) = v.1 ∧ r (33 + 14 * p + 1) = v.2.1 ∧ r (33 + 14 * p + 2) = v.2.2.1 ∧ r (33 + 14 * p + 3) = v.2.2.2.1 ∧ (∀ j, j < 3 → r (33 + 14 * p + (4 + 2 * j)) = v.2.2.2.2.1 j ∧ r (33 + 14 * p + (4 + 2 * j + 1)) = v.2.2.2.2.2.1 j) ∧ r (33 + 14 * p + 10) = v.2.2.2.2.2.2.1 ∧ r (33 + 14 * p + 11) = jb v.2.2.2.2.2.2.2.1 ∧ r (33 + 14 * p + 12) = v.2.2.2.2.2.2.2.2.1 ∧ r (33 + 14 * p + 13) = v.2.2.2.2.2.2.2.2.2 ∧ rOk v.1
theorem parR.mv {r r' : Nat → Int32} {p : Nat} {v : PaV} (h : parR r p v) (e : ∀ j, j < 14 → r' (33 + 14 * p + j) = r (33 + 14 * p + j)) : parR r' p v := by
  obtain ⟨h0, h1, h2, h3, h4, h5, h6, h7, h8, h9⟩ := h
  refine ⟨by rw [e _ (by omega), h0], by rw [e _ (by omega), h1], by rw [e _ (by omega), h2], by rw [e _ (by omega), h3], fun j hj => ⟨by rw [e _ (by omega)]; exact (h4 j hj).1, by rw [e _ (by omega)]; exact (h4 j hj).2⟩, by rw [e _ (by omega), h5], by rw [e _ (by omega), h6], by rw [e _ (by omega), h7], by rw [e _ (by omega), h8], h9⟩
def nFr (ow : Nat → Int32) (k : Nat) : Bool := decide (ow k ≠ -1)
def lyR (r : Nat → Int32) (w m : Nat) (pl : Bool) (tk : Nat) (ow : Nat → Int32) (pc : Nat) : Prop :=
  pl = true → (∀ k, k < 128 → r (201 + k) = ow k) ∧ (∀ k, k < 128 → ow k = -1 ∨ ∃ j, j < pc ∧ ow k = nI j) ∧ (∀ k, k < 128 → ¬ (k < 16 * m ∧ k % 16 < w) → ow k = -1) ∧ tk = cntB (nFr ow) 128
theorem lyR.mv {r r' : Nat → Int32} {w m : Nat} {pl : Bool} {tk : Nat} {ow : Nat → Int32} {pc : Nat} (h : lyR r w m pl tk ow pc) (e : ∀ k, k < 128 → r' (201 + k) = r (201 + k)) : lyR r' w m pl tk ow pc := fun hp => by
  obtain ⟨h1, h2⟩ := h hp
  exact ⟨fun k hk => (e k hk).trans (h1 k hk), h2⟩
def chR (r : Nat → Int32) (bits : Nat → Int32) (nb : Nat) : Prop := ∀ k, k < nb → r (329 + k) = bits k ∧ ∃ b, b ≤ 1 ∧ bits k = nI b
theorem chR.mv {r r' : Nat → Int32} {bits : Nat → Int32} {nb : Nat} (h : chR r bits nb) (e : ∀ k, k < nb → r' (329 + k) = r (329 + k)) : chR r' bits nb := fun k hk => ⟨(e k hk).trans (h k hk).1, (h k hk).2⟩
/-- the words of a frame of which p bits are taken -/
def frR (wd fm : Nat → Int32) (p : Nat) : Prop := ∀ k, k < 14 → ∃ v, v ≤ 255 ∧ fm k = nI v ∧ wd k = nI (v % 2 ^ (min 8 (p - 8 * k)))
def byR (fm : Nat → Int32) : Prop := ∀ k, k < 14 → ∃ v, v ≤ 255 ∧ fm k = nI v
def phR (ph tk lat last : Int32) (wd : Nat → Int32) (rc : RcV) (w : Nat) : Prop :=
  (rc.1 = nI 0 ∧ ph = nI 0 ∧ rc.2.2.2.2.1 ≤ 129 ∧ ∃ t, t ≤ 16 ∧ tk = nI t ∧ lat = nI (hN rc.2.2.2.2.2 % 65536) ∧ (t < 16 → hN rc.2.2.2.2.2 % 65536 < 2 ^ t)) ∨
  ((rc.1 = nI 1 ∨ rc.1 = nI 2) ∧ ph = nI 1 ∧ rc.2.2.2.2.1 < 8 * (w - 2) ∧ tk = nI rc.2.2.2.2.1 ∧ frR wd rc.2.2.2.1 rc.2.2.2.2.1) ∨
  ((rc.1 = nI 1 ∨ rc.1 = nI 2) ∧ ph = nI 2 ∧ ∃ t, t < 16 ∧ rc.2.2.2.2.1 = 8 * (w - 2) + t ∧ tk = nI t ∧ lat = nI (hN rc.2.2.2.2.2 % 2 ^ t) ∧ last = nI (hN rc.2.2.2.2.2 / 2 ^ t % 2)) ∨
  (rc.1 = nI 2 ∧ ph = nI 3 ∧ rc.2.2.2.2.1 = 8 * (w - 2) + 16 ∧ tk = nI 16 ∧ lat = nI (hN rc.2.2.2.2.2 % 65536))
def rcR (r : Nat → Int32) (rc : RcV) (w : Nat) : Prop :=
  r 7 = rc.1 ∧ r 8 = rc.2.1 ∧ (∀ k, k < 6 → r (9 + k) = rc.2.2.1 k) ∧ (∃ k, k ≤ 2 ∧ rc.2.1 = nI k) ∧ byR rc.2.2.2.1 ∧ phR (r 15) (r 16) (r 17) (r 18) (fun k => r (19 + k)) rc w
theorem rcR.mv {r r' : Nat → Int32} {rc : RcV} {w : Nat} (h : rcR r rc w) (e : ∀ j, 7 ≤ j → j < 33 → r' j = r j) : rcR r' rc w := by
  obtain ⟨h1, h2, h3, h4, h5, h6⟩ := h
  refine ⟨by rw [e 7 (by omega) (by omega), h1], by rw [e 8 (by omega) (by omega), h2], fun k hk => by rw [e _ (by omega) (by omega)]; exact h3 k hk, h4, h5, ?_⟩
  rw [e 15 (by omega) (by omega), e 16 (by omega) (by omega), e 17 (by omega) (by omega), e 18 (by omega) (by omega)]
  have hw : ∀ p fm, frR (fun k => r (19 + k)) fm p → frR (fun k => r' (19 + k)) fm p := fun p fm hf k hk => by
    obtain ⟨v, a1, a2, a3⟩ := hf k hk
    exact ⟨v, a1, a2, (e _ (by omega) (by omega)).trans a3⟩
  rcases h6 with h6 | ⟨a1, a2, a3, a4, a5⟩ | h6 | h6
  · exact Or.inl h6
  · exact Or.inr (Or.inl ⟨a1, a2, a3, a4, hw _ _ a5⟩)
  · exact Or.inr (Or.inr (Or.inl h6))
  · exact Or.inr (Or.inr (Or.inr h6))
def hdR (r : Nat → Int32) (w m : Nat) (pl : Bool) (pc nx nb md : Nat) : Prop :=
  r 0 = nI w ∧ r 1 = nI m ∧ r 2 = nI pc ∧ r 3 = jb pl ∧ r 4 = nI nx ∧ r 5 = nI nb ∧ r 6 = nI md ∧ 6 ≤ w ∧ w ≤ 16 ∧ mOk m ∧ pc ≤ 12 ∧ nx < m ∧ nb ≤ 2048 ∧ md ≤ 2
theorem hdR.mv {r r' : Nat → Int32} {w m : Nat} {pl : Bool} {pc nx nb md : Nat} (h : hdR r w m pl pc nx nb md) (e : ∀ j, j < 7 → r' j = r j) : hdR r' w m pl pc nx nb md := by
  obtain ⟨h0, h1, h2, h3, h4, h5, h6, h7⟩ := h
  exact ⟨by rw [e 0 (by omega), h0], by rw [e 1 (by omega), h1], by rw [e 2 (by omega), h2], by rw [e 3 (by omega), h3], by rw [e 4 (by omega), h4], by rw [e 5 (by omega), h5], by rw [e 6 (by omega), h6], h7⟩
def rowR (r : Nat → Int32) (s : StV) : Prop := match s with
  | (w, m, pl, tk, ow, P, pc, nx, bits, nb, rc, md) => hdR r w m pl pc nx nb md ∧ (∀ p, p < pc → parR r p (P p)) ∧ lyR r w m pl tk ow pc ∧ chR r bits nb ∧ rcR r rc w
theorem rowR.mv {r r' : Nat → Int32} {s : StV} (h : rowR r s) (e : ∀ j, j < 2377 → r' j = r j) : rowR r' s := by
  obtain ⟨w, m, pl, tk, ow, P, pc, nx, bits, nb, rc, md⟩ := s
  obtain ⟨h1, h2, h3, h4, h5⟩ := h
  have hp : pc ≤ 12 := h1.2.2.2.2.2.2.2.2.2.2.1
  have hb : nb ≤ 2048 := h1.2.2.2.2.2.2.2.2.2.2.2.2.1
  exact ⟨h1.mv (fun j hj => e j (by omega)), fun p hp9 => (h2 p hp9).mv (fun j hj => e _ (by omega)), h3.mv (fun k hk => e _ (by omega)), h4.mv (fun k hk => e _ (by omega)), h5.mv (fun j _ hj => e j (by omega))⟩
/-! copies -/
theorem va_cpy_in {α : Type} {f g : Nat → α} {n k : Nat} (h : k < n) : va_cpy f g 0 0 n k = f k := by
  unfold va_cpy
  rw [if_pos (by omega), Nat.sub_zero, Nat.zero_add]
theorem cpP_at {P2 P : Nat → PaV} : ∀ {n p : Nat}, p < n → itr (cpP P2) n P p = cpV (P p) (P2 p)
  | n + 1, p, h => by
    rw [itr_s]
    have ho : ∀ m q, m ≤ q → itr (cpP P2) m P q = P q := by
      intro m
      induction m with
      | zero => intro q _; rfl
      | succ m ih => intro q hq; rw [itr_s]; unfold cpP; rw [va_up_ne _ _ (by omega)]; exact ih q (by omega)
    by_cases e : p = n
    · subst e
      unfold cpP
      rw [va_up_self, show (itr (fun i P => va_up P i (cpV (P i) (P2 i))) p P p) = P p from ho p p (Nat.le_refl _)]
    · unfold cpP
      rw [va_up_ne _ _ e]
      exact cpP_at (by omega)
theorem parR.cp {r : Nat → Int32} {p : Nat} {v v2 : PaV} (h : parR r p v2) : parR r p (cpV v v2) := by
  obtain ⟨h0, h1, h2, h3, h4, h5, h6, h7, h8, h9⟩ := h
  exact ⟨h0, h1, h2, h3, fun j hj => ⟨(h4 j hj).1.trans (va_cpy_in hj).symm, (h4 j hj).2.trans (va_cpy_in hj).symm⟩, h5, h6, h7, h8, h9⟩
theorem cntB_ow {f g : Nat → Int32} {n : Nat} (h : ∀ k, k < n → f k = g k) : cntB (nFr f) n = cntB (nFr g) n := cntB_cg (fun o ho => by unfold nFr; rw [h o ho])
theorem lyR.cp {r : Nat → Int32} {w m : Nat} {pl : Bool} {tk : Nat} {ow ow2 : Nat → Int32} {pc : Nat} (h : lyR r w m pl tk ow pc) (e : ∀ k, k < 128 → ow2 k = ow k) : lyR r w m pl tk ow2 pc := fun hp => by
  obtain ⟨h1, h2, h3, h4⟩ := h hp
  exact ⟨fun k hk => (h1 k hk).trans (e k hk).symm, fun k hk => by rw [e k hk]; exact h2 k hk, fun k hk => by rw [e k hk]; exact h3 k hk, h4.trans (cntB_ow e).symm⟩
theorem rcR.cp {r : Nat → Int32} {rc rc2 : RcV} {w : Nat} (h : rcR r rc w) : rcR r (cpR rc2 rc) w := by
  obtain ⟨h1, h2, h3, h4, h5, h6⟩ := h
  have hf : ∀ k, k < 14 → va_cpy rc.2.2.2.1 rc2.2.2.2.1 0 0 16 k = rc.2.2.2.1 k := fun k hk => va_cpy_in (by omega)
  refine ⟨h1, h2, fun k hk => (h3 k hk).trans (va_cpy_in hk).symm, h4, fun k hk => ?_, ?_⟩
  · obtain ⟨v, a1, a2⟩ := h5 k hk
    exact ⟨v, a1, (hf k hk).trans a2⟩
  · rcases h6 with h6 | ⟨a1, a2, a3, a4, a5⟩ | h6 | h6
    · exact Or.inl h6
    · refine Or.inr (Or.inl ⟨a1, a2, a3, a4, fun k hk => ?_⟩)
      obtain ⟨v, b1, b2, b3⟩ := a5 k hk
      exact ⟨v, b1, (hf k hk).trans b2, b3⟩
    · exact Or.inr (Or.inr (Or.inl h6))
    · exact Or.inr (Or.inr (Or.inr h6))
theorem rowR.cp {r : Nat → Int32} {s s2 : StV} (h : rowR r s) : rowR r (cpS s2 s) := by
  obtain ⟨w, m, pl, tk, ow, P, pc, nx, bits, nb, rc, md⟩ := s
  obtain ⟨h1, h2, h3, h4, h5⟩ := h
  refine ⟨h1, fun p hp => ?_, h3.cp (fun k hk => va_cpy_in hk), fun k hk => ?_, h5.cp⟩
  · show parR r p (itr (cpP P) pc s2.2.2.2.2.2.1 p)
    rw [cpP_at hp]
    exact (h2 p hp).cp
  · show r (329 + k) = va_cpy bits s2.2.2.2.2.2.2.2.2.1 0 0 nb k ∧ ∃ b, b ≤ 1 ∧ va_cpy bits s2.2.2.2.2.2.2.2.2.1 0 0 nb k = nI b
    rw [va_cpy_in hk]
    exact h4 k hk
/-! what is kept -/
def pastR (past : Nat → Int32) (kept : Nat) (S : Nat → StV) (nw : Nat) : Prop := ∀ t, t < kept → rowR (fun i => past (2377 * (kept - 1 - t) + i)) (S ((nw + 4 - t) % 4))
theorem kRow_at (now : Nat → Int32) (k : Nat) (p : Nat → Int32) : ∀ n, n ≤ 2377 → (∀ i, i < n → itr (kRow now k) n p (2377 * k + i) = now i) ∧ ∀ j, (j < 2377 * k ∨ 2377 * k + n ≤ j) → itr (kRow now k) n p j = p j
  | 0, _ => ⟨fun i hi => absurd hi (Nat.not_lt_zero _), fun j _ => rfl⟩
  | n + 1, hn => by
    obtain ⟨h1, h2⟩ := kRow_at now k p n (by omega)
    refine ⟨fun i hi => ?_, fun j hj => ?_⟩
    · rw [itr_s]
      unfold kRow
      by_cases e : i = n
      · subst e
        rw [upd_s]
      · rw [upd_n (by omega)]
        exact h1 i (by omega)
    · rw [itr_s]
      unfold kRow
      rw [upd_n (by omega)]
      exact h2 j (by omega)
theorem kShift_at (p : Nat → Int32) : ∀ n, (∀ i, i < n → itr kShift n p i = p (i + 2377)) ∧ ∀ j, n ≤ j → itr kShift n p j = p j
  | 0 => ⟨fun i hi => absurd hi (Nat.not_lt_zero _), fun j _ => rfl⟩
  | n + 1 => by
    obtain ⟨h1, h2⟩ := kShift_at p n
    refine ⟨fun i hi => ?_, fun j hj => ?_⟩
    · rw [itr_s]
      unfold kShift
      by_cases e : i = n
      · subst e
        rw [upd_s]
        exact h2 _ (by omega)
      · rw [upd_n e]
        exact h1 i (by omega)
    · rw [itr_s]
      unfold kShift
      rw [upd_n (by omega)]
      exact h2 j (by omega)
theorem mKept_sC {k : Nat} (h : k ≤ 4) : mKept k = sC k := by
  unfold mKept sC
  split <;> split <;> omega
/-- a state kept -/
theorem pastR.keep {now past : Nat → Int32} {k : Nat} {S : Nat → StV} {nw : Nat} {s : StV} (h : pastR past k S nw) (hk : k ≤ 4) (hnw : nw < 4) (hs : rowR now s) : pastR (mKeep now past k) (mKept k) (svS S nw s) ((nw + 1) % 4) := by
  intro t ht
  have hne : ∀ t, 1 ≤ t → t < 4 → ((nw + 1) % 4 + 4 - t) % 4 ≠ (nw + 1) % 4 := fun t _ _ => by omega
  have hix : ∀ t, 1 ≤ t → t < 4 → ((nw + 1) % 4 + 4 - t) % 4 = (nw + 4 - (t - 1)) % 4 := fun t _ _ => by omega
  unfold svS
  by_cases h4 : k = 4
  · subst h4
    have e1 : mKept 4 = 4 := rfl
    rw [e1] at ht ⊢
    have e2 : mKeep now past 4 = itr (kRow now 3) 2377 (itr kShift 7131 past) := rfl
    rw [e2]
    obtain ⟨q1, q2⟩ := kRow_at now 3 (itr kShift 7131 past) 2377 (Nat.le_refl _)
    obtain ⟨q3, q4⟩ := kShift_at past 7131
    by_cases t0 : t = 0
    · subst t0
      rw [show ((nw + 1) % 4 + 4 - 0) % 4 = (nw + 1) % 4 by omega, va_up_self]
      exact hs.cp.mv (fun j hj => q1 j hj)
    · rw [va_up_ne _ _ (hne t (by omega) ht), hix t (by omega) ht]
      refine (h (t - 1) (by omega)).mv (fun j hj => ?_)
      show itr (kRow now 3) 2377 (itr kShift 7131 past) (2377 * (4 - 1 - t) + j) = past (2377 * (4 - 1 - (t - 1)) + j)
      rw [q2 _ (by omega), q3 _ (by omega)]
      congr 1
      omega
  · have e1 : mKept k = k + 1 := if_neg h4
    rw [e1] at ht ⊢
    have e2 : mKeep now past k = itr (kRow now k) 2377 past := if_neg h4
    rw [e2]
    obtain ⟨q1, q2⟩ := kRow_at now k past 2377 (Nat.le_refl _)
    by_cases t0 : t = 0
    · subst t0
      rw [show ((nw + 1) % 4 + 4 - 0) % 4 = (nw + 1) % 4 by omega, va_up_self]
      refine hs.cp.mv (fun j hj => ?_)
      show itr (kRow now k) 2377 past (2377 * (k + 1 - 1 - 0) + j) = now j
      rw [show k + 1 - 1 - 0 = k by omega]
      exact q1 j hj
    · rw [va_up_ne _ _ (hne t (by omega) (by omega)), hix t (by omega) (by omega)]
      refine (h (t - 1) (by omega)).mv (fun j hj => ?_)
      show itr (kRow now k) 2377 past (2377 * (k + 1 - 1 - t) + j) = past (2377 * (k - 1 - (t - 1)) + j)
      rw [q2 _ (by omega), show k + 1 - 1 - t = k - 1 - (t - 1) by omega]
theorem uRow_at (past : Nat → Int32) (k : Nat) (p : Nat → Int32) : ∀ n i, i < n → itr (uRow past k) n p i = past (2377 * k + i)
  | n + 1, i, hi => by
    rw [itr_s]
    unfold uRow
    by_cases e : i = n
    · subst e
      rw [upd_s]
    · rw [upd_n e]
      exact uRow_at past k p n i (by omega)
/-- the last state that was kept comes back -/
theorem pastR.back {past now : Nat → Int32} {k : Nat} {S : Nat → StV} {nw : Nat} {s : StV} (h : pastR past k S nw) (hk1 : 1 ≤ k) (hk : k ≤ 4) (hnw : nw < 4) : rowR (itr (uRow past (k - 1)) 2377 now) (S nw) ∧ pastR past (k - 1) (va_up S nw s) ((nw + 3) % 4) := by
  refine ⟨?_, fun t ht => ?_⟩
  · have h0 := h 0 (by omega)
    rw [show (nw + 4 - 0) % 4 = nw by omega] at h0
    refine h0.mv (fun j hj => ?_)
    show itr (uRow past (k - 1)) 2377 now j = past (2377 * (k - 1 - 0) + j)
    rw [uRow_at past (k - 1) now 2377 j hj, Nat.sub_zero]
  · have h1 := h (t + 1) (by omega)
    rw [va_up_ne _ _ (by omega), show ((nw + 3) % 4 + 4 - t) % 4 = (nw + 4 - (t + 1)) % 4 by omega, show k - 1 - 1 - t = k - 1 - (t + 1) by omega]
    exact h1
