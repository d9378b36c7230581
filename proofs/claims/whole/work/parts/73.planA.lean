/-! ===== the plan: who comes when, what is placed ===== -/
theorem fb_holes : ∀ (m n : Nat) (f : Nat → Nat), (∀ i, i < n → f i < m) → (∀ i j, i < j → j < n → f i ≠ f j) → n ≤ m := by
  intro m
  induction m with
  | zero =>
    intro n f h1 _
    rcases Nat.eq_zero_or_pos n with h | h
    · omega
    · exact absurd (h1 0 h) (Nat.not_lt_zero _)
  | succ m ih =>
    intro n f h1 h2
    by_cases hx : ∃ i, i < n ∧ f i = m
    · obtain ⟨a, ha, hfa⟩ := hx
      have hg := ih (n - 1) (fun i => if i < a then f i else f (i + 1)) (by
        intro i hi
        by_cases q : i < a
        · simp only [if_pos q]
          have b1 := h1 i (by omega)
          have b2 := h2 i a q ha
          omega
        · simp only [if_neg q]
          have b1 := h1 (i + 1) (by omega)
          have b2 := h2 a (i + 1) (by omega) (by omega)
          omega) (by
        intro i j hij hj
        by_cases q : i < a
        · by_cases r : j < a
          · simp only [if_pos q, if_pos r]
            exact h2 i j hij (by omega)
          · simp only [if_pos q, if_neg r]
            exact h2 i (j + 1) (by omega) (by omega)
        · have r : ¬ j < a := by omega
          simp only [if_neg q, if_neg r]
          exact h2 (i + 1) (j + 1) (by omega) (by omega))
      omega
    · have hg := ih n f (fun i hi => by
        have b1 := h1 i hi
        have b2 : f i ≠ m := fun e => hx ⟨i, hi, e⟩
        omega) h2
      omega
/-- two of them in one place -/
theorem fb_twice {m n : Nat} {f : Nat → Nat} (h : ∀ i, i < n → f i < m) (hm : m < n) : ∃ i j, i < j ∧ j < n ∧ f i = f j := by
  refine Classical.byContradiction fun hx => ?_
  have := fb_holes m n f h (fun i j hij hj e => hx ⟨i, j, hij, hj, e⟩)
  omega
/-- as many as places, none twice: each place is taken -/
theorem fb_onto {n : Nat} {f : Nat → Nat} (h : ∀ i, i < n → f i < n) (h2 : ∀ i j, i < j → j < n → f i ≠ f j) {y : Nat} (hy : y < n) : ∃ i, i < n ∧ f i = y := by
  refine Classical.byContradiction fun hx => ?_
  have hne : ∀ i, i < n → f i ≠ y := fun i hi e => hx ⟨i, hi, e⟩
  have := fb_holes (n - 1) n (fun i => if f i < y then f i else f i - 1) (by
    intro i hi
    have b1 := h i hi
    have b2 := hne i hi
    by_cases q : f i < y
    · simp only [if_pos q]; omega
    · simp only [if_neg q]; omega) (by
    intro i j hij hj
    have b1 := hne i (by omega)
    have b2 := hne j hj
    have b3 := h2 i j hij hj
    by_cases q : f i < y
    · by_cases r : f j < y
      · simp only [if_pos q, if_pos r]; exact b3
      · simp only [if_pos q, if_neg r]; omega
    · by_cases r : f j < y
      · simp only [if_neg q, if_pos r]; omega
      · simp only [if_neg q, if_neg r]; omega)
  omega
theorem cntB_sub {P Q : Nat → Bool} (h : ∀ o, P o = true → Q o = true) : ∀ n, cntB P n ≤ cntB Q n
  | 0 => Nat.le_refl _
  | n + 1 => by
    have ih := cntB_sub h n
    show cntB P n + (if P n then 1 else 0) ≤ cntB Q n + (if Q n then 1 else 0)
    cases hp : P n with
    | false => simp only [Bool.false_eq_true, if_false]; omega
    | true => rw [h n hp]; simp only [if_true]; omega
theorem cntB_lt {P Q : Nat → Bool} (h : ∀ o, P o = true → Q o = true) {i : Nat} (h1 : P i = false) (h2 : Q i = true) : ∀ {n : Nat}, i < n → cntB P n < cntB Q n
  | n + 1, hi => by
    show cntB P n + (if P n then 1 else 0) < cntB Q n + (if Q n then 1 else 0)
    by_cases e : n = i
    · subst e
      rw [h1, h2]
      have := cntB_sub h n
      simp only [Bool.false_eq_true, if_false, if_true]
      omega
    · have ih := cntB_lt h h1 h2 (n := n) (by omega)
      cases hp : P n with
      | false => simp only [Bool.false_eq_true, if_false]; omega
      | true => rw [h n hp]; simp only [if_true]; omega
theorem ahead_iff {S : Nat → Nat} {p o : Nat} : ahead S p o = true ↔ (S p < S o ∨ (S o = S p ∧ o < p)) := decide_eq_true_iff
theorem ahead_no {S : Nat → Nat} {p o : Nat} (h : ¬ (S p < S o ∨ (S o = S p ∧ o < p))) : ahead S p o = false := decide_eq_false h
/-- who is ahead has the smaller turn -/
theorem rank_lt {S : Nat → Nat} {n p o : Nat} (ho : o < n) (h : S p < S o ∨ (S o = S p ∧ o < p)) : rank S n o < rank S n p := by
  refine cntB_lt (fun i hi => ?_) (i := o) (ahead_no (by omega)) (ahead_iff.mpr h) ho
  have := ahead_iff.mp hi
  exact ahead_iff.mpr (by omega)
theorem rank_n {S : Nat → Nat} {n p : Nat} (hp : p < n) : rank S n p < n := by
  have h := cntB_lt (P := ahead S p) (Q := fun _ => true) (fun _ _ => rfl) (i := p) (ahead_no (by omega)) rfl hp
  rw [cntB_all (P := fun _ => true) (fun _ _ => rfl)] at h
  exact h
theorem rank_ne {S : Nat → Nat} {n p o : Nat} (hp : p < n) (ho : o < n) (h : p ≠ o) : rank S n p ≠ rank S n o := by
  by_cases q : S p < S o ∨ (S o = S p ∧ o < p)
  · have := rank_lt (n := n) ho q
    omega
  · have := rank_lt (S := S) (n := n) (p := o) (o := p) hp (by omega)
    omega
/-- the order of placing -/
theorem plan_order (S : Nat → Nat) (n : Nat) : ∃ pl : Nat → Nat, ∀ t, t < n → pl t < n ∧ rank S n (pl t) = t ∧ ∀ p, p < n → rank S n p = t → p = pl t := by
  have h : ∀ t, ∃ p, t < n → p < n ∧ rank S n p = t := fun t => by
    by_cases ht : t < n
    · obtain ⟨p, h1, h2⟩ := fb_onto (f := rank S n) (fun i hi => rank_n hi) (fun i j hij hj => rank_ne (by omega) hj (by omega)) ht
      exact ⟨p, fun _ => ⟨h1, h2⟩⟩
    · exact ⟨0, fun q => absurd q ht⟩
  refine ⟨fun t => (h t).choose, fun t ht => ?_⟩
  have h1 := (h t).choose_spec ht
  refine ⟨h1.1, h1.2, fun p hp hr => ?_⟩
  by_cases e : p = (h t).choose
  · exact e
  · exact absurd (hr.trans h1.2.symm) (rank_ne hp h1.1 e)
/-! what a placing does -/
theorem nFr_up {d : Nat → Int32} {k : Nat} {v : Int32} (hk : k < 128) (h : d k = -1) (hv : v ≠ -1) : cntB (nFr (upd d k v)) 128 = cntB (nFr d) 128 + 1 := by
  refine cntB_one (i := k) ?_ ?_ (fun o ho => ?_) hk
  · unfold nFr
    exact decide_eq_false (fun q => q h)
  · unfold nFr
    rw [upd_s]
    exact decide_eq_true hv
  · unfold nFr
    rw [upd_n ho]
theorem tkS_eff {v : Int32} (hv : v ≠ -1) {col f s : Nat} (hs : 0 < s) : ∀ {N : Nat} {d : Nat → Int32}, (∀ i, i < N → 16 * (f + i * s) + 3 + col < 128 ∧ d (16 * (f + i * s) + 3 + col) = -1) →
    cntB (nFr (itr (tkS v col f s) N d)) 128 = cntB (nFr d) 128 + N ∧ (∀ k, (∀ i, i < N → k ≠ 16 * (f + i * s) + 3 + col) → itr (tkS v col f s) N d k = d k) ∧ ∀ i, i < N → itr (tkS v col f s) N d (16 * (f + i * s) + 3 + col) = v
  | 0, d, _ => ⟨by rw [itr_0, Nat.add_zero], fun _ _ => rfl, fun i hi => absurd hi (Nat.not_lt_zero _)⟩
  | N + 1, d, h => by
    obtain ⟨h1, h2, h3⟩ := tkS_eff hv (col := col) (f := f) hs (N := N) (d := d) (fun i hi => h i (by omega))
    have hne : ∀ i, i < N → 16 * (f + N * s) + 3 + col ≠ 16 * (f + i * s) + 3 + col := fun i hi => by
      have := Nat.mul_lt_mul_of_pos_right hi hs
      omega
    have e1 : itr (tkS v col f s) N d (16 * (f + N * s) + 3 + col) = -1 := (h2 _ hne).trans (h N (by omega)).2
    rw [itr_s]
    unfold tkS
    refine ⟨?_, fun k hk => ?_, fun i hi => ?_⟩
    · have := nFr_up (h N (by omega)).1 e1 hv
      unfold tkS at this h1
      rw [this, h1]
      omega
    · rw [upd_n (hk N (by omega))]
      exact h2 k (fun i hi => hk i (by omega))
    · by_cases e : i = N
      · subst e
        rw [upd_s]
      · rw [upd_n (fun q => hne i (by omega) q.symm)]
        exact h3 i (by omega)
theorem tkM_eff {v : Int32} (hv : v ≠ -1) {M g c : Nat} (hM : M ≤ 8) (hg : 0 < g) : ∀ {r : Nat} {d : Nat → Int32}, (∀ i, i < r → 3 + (c + i * g) < 16) → (∀ i, i < r → ∀ f, f < M → d (16 * f + 3 + (c + i * g)) = -1) →
    cntB (nFr (itr (tkM v M g c) r d)) 128 = cntB (nFr d) 128 + r * M ∧ (∀ k, (∀ i, i < r → ∀ f, f < M → k ≠ 16 * f + 3 + (c + i * g)) → itr (tkM v M g c) r d k = d k) ∧ ∀ i, i < r → ∀ f, f < M → itr (tkM v M g c) r d (16 * f + 3 + (c + i * g)) = v
  | 0, d, _, _ => ⟨by rw [Nat.zero_mul, itr_0, Nat.add_zero], fun _ _ => rfl, fun i hi => absurd hi (Nat.not_lt_zero _)⟩
  | r + 1, d, hb, h => by
    obtain ⟨h1, h2, h3⟩ := tkM_eff hv (M := M) (c := c) hM hg (r := r) (d := d) (fun i hi => hb i (by omega)) (fun i hi => h i (by omega))
    have hne : ∀ i, i < r → ∀ f f', 16 * f' + 3 + (c + r * g) ≠ 16 * f + 3 + (c + i * g) := fun i hi f f' => by
      have a1 := Nat.mul_lt_mul_of_pos_right hi hg
      have a2 := hb i (by omega)
      have a3 := hb r (by omega)
      omega
    have b3 := hb r (by omega)
    obtain ⟨q1, q2, q3⟩ := tkS_eff hv (col := c + r * g) (f := 0) (s := 1) (by omega) (N := M) (d := itr (tkM v M g c) r d) (fun i hi => ⟨by rw [Nat.mul_one]; omega, by
      rw [Nat.mul_one, Nat.zero_add, h2 _ (fun i' hi' f _ => hne i' hi' f i)]
      exact h r (by omega) i hi⟩)
    have q3' : ∀ f, f < M → itr (tkS v (c + r * g) 0 1) M (itr (tkM v M g c) r d) (16 * f + 3 + (c + r * g)) = v := fun f hf => by
      have := q3 f hf
      rwa [Nat.mul_one, Nat.zero_add] at this
    have q2' : ∀ k, (∀ f, f < M → k ≠ 16 * f + 3 + (c + r * g)) → itr (tkS v (c + r * g) 0 1) M (itr (tkM v M g c) r d) k = itr (tkM v M g c) r d k := fun k hk => q2 k (fun i hi => by rw [Nat.mul_one, Nat.zero_add]; exact hk i hi)
    rw [itr_s]
    show cntB (nFr (itr (tkS v (c + r * g) 0 1) M (itr (tkM v M g c) r d))) 128 = _ ∧ (∀ k, _ → itr (tkS v (c + r * g) 0 1) M (itr (tkM v M g c) r d) k = _) ∧ ∀ i, _ → ∀ f, _ → itr (tkS v (c + r * g) 0 1) M (itr (tkM v M g c) r d) _ = _
    refine ⟨by rw [q1, h1, Nat.succ_mul]; omega, fun k hk => ?_, fun i hi f hf => ?_⟩
    · rw [q2' k (fun f hf => hk r (by omega) f hf)]
      exact h2 k (fun i hi => hk i (by omega))
    · by_cases e : i = r
      · subst e
        exact q3' f hf
      · rw [q2' _ (fun f' hf' => fun q => hne i (by omega) f f' q.symm)]
        exact h3 i (by omega) f hf
/-- a plan under way -/
def dOk (w m pc : Nat) (d : Nat → Int32) : Prop := ∀ k, k < 128 → (d k = -1 ∨ ∃ j, j < pc ∧ d k = nI j) ∧ (¬ (k < 16 * m ∧ k % 16 < w) → d k = -1)
theorem mq_div {m q : Nat} (hm : mOk m) (hq : q = 2 ∨ q = 4 ∨ q = 8) (h : q ≤ m) : m = m / q * q := by
  rcases hm with rfl | rfl | rfl | rfl <;> rcases hq with rfl | rfl | rfl <;> omega
theorem md16 {A B w : Nat} (h : B < w - 3) (hw : w ≤ 16) : (16 * A + 3 + B) % 16 < w := by
  omega
theorem md16' {A B m w : Nat} (h : A < m) (hb : B < w - 3) (hw : w ≤ 16) : 16 * A + 3 + B < 16 * m := by
  omega
theorem plOk_eff {w m : Nat} {x : Int32} {p pc : Nat} {d d' : Nat → Int32} (h : plOk w m x p d d') (hw6 : 6 ≤ w) (hw9 : w ≤ 16) (hm : mOk m) (hp : p < pc) (hpc : pc ≤ 12) (hd : dOk w m pc d) : dOk w m pc d' ∧ cntB (nFr d') 128 = cntB (nFr d) 128 + sOf m x := by
  have hv : nI p ≠ -1 := nI_m1 (by omega)
  rcases h with ⟨r, c0, ⟨hr1, hr4, rfl⟩, hdiv, hc0, -, hyes, rfl⟩ | ⟨q, N, k0, ⟨hq, rfl⟩, ⟨hN, hqm⟩, hk0, -, hyes, rfl⟩
  · rw [sOf_p hr1 hr4]
    have hg0 : 0 < (w - 3) / r := by omega
    have hgr : (w - 3) / r * r ≤ w - 3 := Nat.div_mul_le_self _ _
    have hcol : ∀ i, i < r → c0 + i * ((w - 3) / r) < w - 3 := fun i hi => col_lt hc0 hi hgr
    have hfree := manyI_t hyes
    obtain ⟨h1, h2, h3⟩ := tkM_eff hv (M := m) (g := (w - 3) / r) (c := c0) (by omega) hg0 (r := r) (d := d) (fun i hi => by have := hcol i hi; omega) (fun i hi f hf => by
      have := frI_t (hfree i hi) f hf
      rwa [Nat.mul_one, Nat.zero_add] at this)
    refine ⟨fun k hk => ?_, h1⟩
    by_cases e : ∃ i, i < r ∧ ∃ f, f < m ∧ k = 16 * f + 3 + (c0 + i * ((w - 3) / r))
    · obtain ⟨i, hi, f, hf, rfl⟩ := e
      rw [h3 i hi f hf]
      have := hcol i hi
      exact ⟨Or.inr ⟨p, hp, rfl⟩, fun q9 => absurd ⟨by omega, by omega⟩ q9⟩
    · rw [h2 k (fun i hi f hf q9 => e ⟨i, hi, f, hf, q9⟩)]
      exact hd k hk
  · rw [sOf_n hq]
    have hq0 : 0 < q := by omega
    have hN9 : m / q = N := by rw [hN]; exact Nat.mul_div_cancel _ hq0
    have hf : k0 % q < q := Nat.mod_lt _ hq0
    have hcol : k0 / q < w - 3 := Nat.div_lt_of_lt_mul (by rw [Nat.mul_comm]; exact hk0)
    have hmi : ∀ i, i < N → k0 % q + i * q < m := fun i hi => by
      have a1 : (i + 1) * q ≤ N * q := Nat.mul_le_mul_right q hi
      rw [Nat.succ_mul] at a1
      omega
    have hfree := frI_t hyes
    obtain ⟨h1, h2, h3⟩ := tkS_eff hv (col := k0 / q) (f := k0 % q) hq0 (N := N) (d := d) (fun i hi => ⟨by have := hmi i hi; omega, hfree i hi⟩)
    refine ⟨fun k hk => ?_, by rw [h1, hN9]⟩
    by_cases e : ∃ i, i < N ∧ k = 16 * (k0 % q + i * q) + 3 + k0 / q
    · obtain ⟨i, hi, rfl⟩ := e
      rw [h3 i hi]
      exact ⟨Or.inr ⟨p, hp, rfl⟩, fun q9 => absurd ⟨md16' (hmi i hi) hcol hw9, md16 hcol hw9⟩ q9⟩
    · rw [h2 k (fun i hi q9 => e ⟨i, hi, q9⟩)]
      exact hd k hk
