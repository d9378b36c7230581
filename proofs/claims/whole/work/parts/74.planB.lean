/-! ===== the plan: both sides ===== -/
theorem frI_cg {d e : Nat → Int32} {col f s : Nat} : ∀ {n : Nat}, (∀ i, i < n → d (16 * (f + i * s) + 3 + col) = e (16 * (f + i * s) + 3 + col)) → frI d col f s n = frI e col f s n
  | 0, _ => rfl
  | n + 1, h => by
    show (frI d col f s n && _) = (frI e col f s n && _)
    rw [frI_cg (fun i hi => h i (by omega)), h n (by omega)]
theorem manyI_cg {d e : Nat → Int32} {M g c : Nat} : ∀ {n : Nat}, (∀ i, i < n → frI d (c + i * g) 0 1 M = frI e (c + i * g) 0 1 M) → manyI d M g c n = manyI e M g c n
  | 0, _ => rfl
  | n + 1, h => by
    show (manyI d M g c n && _) = (manyI e M g c n && _)
    rw [manyI_cg (fun i hi => h i (by omega)), h n (by omega)]
theorem fr1_cg {d e : Nat → Int32} (h : ∀ k, k < 128 → d k = e k) {col M : Nat} (hM : M ≤ 8) (hc : 3 + col < 16) : frI d col 0 1 M = frI e col 0 1 M := frI_cg (fun i hi => h _ (by rw [Nat.mul_one]; omega))
theorem mi_lt {N q m f i : Nat} (hN : m = N * q) (hf : f < q) (hi : i < N) : f + i * q < m := by
  have a1 : (i + 1) * q ≤ N * q := Nat.mul_le_mul_right q hi
  rw [Nat.succ_mul] at a1
  omega
theorem frq_cg {d e : Nat → Int32} (h : ∀ k, k < 128 → d k = e k) {col f q N m : Nat} (hm : m ≤ 8) (hN : m = N * q) (hf : f < q) (hc : 3 + col < 16) : frI d col f q N = frI e col f q N := frI_cg (fun i hi => h _ (by have := mi_lt hN hf hi; omega))
theorem tkS_cg {v : Int32} {col f s : Nat} {d e : Nat → Int32} (h : ∀ k, k < 128 → d k = e k) : ∀ n, ∀ k, k < 128 → itr (tkS v col f s) n d k = itr (tkS v col f s) n e k
  | 0, k, hk => h k hk
  | n + 1, k, hk => by
    rw [itr_s, itr_s]
    unfold tkS
    by_cases q : k = 16 * (f + n * s) + 3 + col
    · rw [q, upd_s, upd_s]
    · rw [upd_n q, upd_n q]
      exact tkS_cg h n k hk
theorem tkM_cg {v : Int32} {M g c : Nat} {d e : Nat → Int32} (h : ∀ k, k < 128 → d k = e k) : ∀ n, ∀ k, k < 128 → itr (tkM v M g c) n d k = itr (tkM v M g c) n e k
  | 0, k, hk => h k hk
  | n + 1, k, hk => by
    rw [itr_s, itr_s]
    exact tkS_cg (tkM_cg h n) M k hk
theorem manyI_cg2 {d e : Nat → Int32} (h : ∀ k, k < 128 → d k = e k) {w m r c : Nat} (hw9 : w ≤ 16) (hm : m ≤ 8) (hc : c < (w - 3) / r) : manyI d m ((w - 3) / r) c r = manyI e m ((w - 3) / r) c r := manyI_cg (fun i hi => fr1_cg h hm (by
  have := col_lt hc hi (Nat.div_mul_le_self (w - 3) r)
  omega))
theorem frI_cg2 {d e : Nat → Int32} (h : ∀ k, k < 128 → d k = e k) {w m q N k : Nat} (hw9 : w ≤ 16) (hm : m ≤ 8) (hN : m = N * q) (hq : 0 < q) (hk : k < (w - 3) * q) : frI d (k / q) (k % q) q N = frI e (k / q) (k % q) q N := frq_cg h hm hN (Nat.mod_lt _ hq) (by
  have : k / q < w - 3 := Nat.div_lt_of_lt_mul (by rw [Nat.mul_comm]; exact hk)
  omega)
theorem plOk_cg {w m : Nat} {x : Int32} {p : Nat} {d e d' : Nat → Int32} (h : ∀ k, k < 128 → d k = e k) (hw9 : w ≤ 16) (hm : m ≤ 8) (ho : plOk w m x p d d') : ∃ e', plOk w m x p e e' ∧ ∀ k, k < 128 → d' k = e' k := by
  rcases ho with ⟨r, c0, hr, hdiv, hc0, hno, hyes, rfl⟩ | ⟨q, N, k0, hq, hN, hk0, hno, hyes, rfl⟩
  · exact ⟨_, Or.inl ⟨r, c0, hr, hdiv, hc0, fun c hc => by rw [← manyI_cg2 h hw9 hm (by omega)]; exact hno c hc, by rw [← manyI_cg2 h hw9 hm hc0]; exact hyes, rfl⟩, tkM_cg h r⟩
  · have hq0 : 0 < q := by omega
    exact ⟨_, Or.inr ⟨q, N, k0, hq, hN, hk0, fun k hk => by rw [← frI_cg2 h hw9 hm hN.1 hq0 (by omega)]; exact hno k hk, by rw [← frI_cg2 h hw9 hm hN.1 hq0 hk0]; exact hyes, rfl⟩, tkS_cg h N⟩
theorem plNo_cg {w m : Nat} {x : Int32} {d e : Nat → Int32} (h : ∀ k, k < 128 → d k = e k) (hw9 : w ≤ 16) (hm : m ≤ 8) (ho : plNo w m x d) : plNo w m x e := by
  rcases ho with ho | ⟨r, hr, hdiv, hno⟩ | ho | ⟨q, N, hq, hN, hno⟩
  · exact Or.inl ho
  · exact Or.inr (Or.inl ⟨r, hr, hdiv, fun c hc => by rw [← manyI_cg2 h hw9 hm hc]; exact hno c hc⟩)
  · exact Or.inr (Or.inr (Or.inl ho))
  · exact Or.inr (Or.inr (Or.inr ⟨q, N, hq, hN, fun k hk => by rw [← frI_cg2 h hw9 hm hN.1 (by omega) hk]; exact hno k hk⟩))
theorem first_t (f : Nat → Bool) : ∀ n, (∀ k, k < n → f k = false) ∨ ∃ k0, k0 < n ∧ (∀ k, k < k0 → f k = false) ∧ f k0 = true
  | 0 => Or.inl (fun k hk => absurd hk (Nat.not_lt_zero _))
  | n + 1 => by
    rcases first_t f n with h | ⟨k0, h1, h2⟩
    · cases e : f n with
      | true => exact Or.inr ⟨n, by omega, h, e⟩
      | false => exact Or.inl (fun k hk => by
          by_cases q : k = n
          · rw [q]; exact e
          · exact h k (by omega))
    · exact Or.inr ⟨k0, by omega, h2⟩
/-- a parameter is placed, or it is not -/
theorem pl_or {w m : Nat} {x : Int32} (p : Nat) (d : Nat → Int32) (hm : mOk m) (hr : rOk x) : (∃ d', plOk w m x p d d') ∨ plNo w m x d := by
  rcases hr with ⟨r, h1, h4, rfl⟩ | ⟨q, hq, rfl⟩
  · by_cases hdiv : (w - 3) % r = 0
    · rcases first_t (fun c => manyI d m ((w - 3) / r) c r) ((w - 3) / r) with h | ⟨c0, a1, a2, a3⟩
      · exact Or.inr (Or.inr (Or.inl ⟨r, ⟨h1, h4, rfl⟩, hdiv, h⟩))
      · exact Or.inl ⟨_, Or.inl ⟨r, c0, ⟨h1, h4, rfl⟩, hdiv, a1, a2, a3, rfl⟩⟩
    · exact Or.inr (Or.inl ⟨r, ⟨h1, h4, rfl⟩, hdiv⟩)
  · by_cases hqm : q ≤ m
    · have hN := mq_div hm hq hqm
      rcases first_t (fun k => frI d (k / q) (k % q) q (m / q)) ((w - 3) * q) with h | ⟨c0, a1, a2, a3⟩
      · exact Or.inr (Or.inr (Or.inr (Or.inr ⟨q, m / q, ⟨hq, rfl⟩, ⟨hN, hqm⟩, h⟩)))
      · exact Or.inl ⟨_, Or.inr ⟨q, m / q, c0, ⟨hq, rfl⟩, ⟨hN, hqm⟩, a1, a2, a3, rfl⟩⟩
    · exact Or.inr (Or.inr (Or.inr (Or.inl ⟨q, ⟨hq, rfl⟩, by omega⟩)))
/-- all turns, on both sides at once -/
theorem plan_run {w m pc : Nat} (hw6 : 6 ≤ w) (hw9 : w ≤ 16) (hm : mOk m) (hpc : pc ≤ 12) {ra : Nat → Int32} (hr : ∀ j, j < pc → rOk (ra j)) (pl : Nat → Nat) (hpl : ∀ t, t < pc → pl t < pc) (d0 e0 : Nat → Int32) (hd0 : dOk w m pc d0) (h0 : ∀ k, k < 128 → d0 k = e0 k) : ∀ n, n ≤ pc →
    ∃ (T : Nat) (D E : Nat → Nat → Int32), T ≤ n ∧ D 0 = d0 ∧ E 0 = e0 ∧ (∀ t, t ≤ T → dOk w m pc (D t) ∧ ∀ k, k < 128 → D t k = E t k) ∧ (∀ t, t < T → plOk w m (ra (pl t)) (pl t) (D t) (D (t + 1)) ∧ plOk w m (ra (pl t)) (pl t) (E t) (E (t + 1)) ∧ cntB (nFr (D (t + 1))) 128 = cntB (nFr (D t)) 128 + sOf m (ra (pl t))) ∧ (T < n → plNo w m (ra (pl T)) (D T) ∧ plNo w m (ra (pl T)) (E T))
  | 0, _ => ⟨0, fun _ => d0, fun _ => e0, Nat.le_refl _, rfl, rfl, fun t _ => ⟨hd0, h0⟩, fun t ht => absurd ht (Nat.not_lt_zero _), fun h => absurd h (Nat.not_lt_zero _)⟩
  | n + 1, hn => by
    obtain ⟨T, D, E, hT, hD, hE, hag, hok, hno⟩ := plan_run hw6 hw9 hm hpc hr pl hpl d0 e0 hd0 h0 n (by omega)
    by_cases hTn : T < n
    · exact ⟨T, D, E, by omega, hD, hE, hag, hok, fun _ => hno hTn⟩
    · have eT : T = n := by omega
      subst eT
      have hm8 : m ≤ 8 := by omega
      obtain ⟨hdT, hcg⟩ := hag T (Nat.le_refl _)
      rcases pl_or (w := w) (pl T) (D T) hm (hr (pl T) (hpl T (by omega))) with ⟨d', hd'⟩ | hn9
      · obtain ⟨e', he', hcg'⟩ := plOk_cg hcg hw9 hm8 hd'
        obtain ⟨f1, f2⟩ := plOk_eff hd' hw6 hw9 hm (hpl T (by omega)) hpc hdT
        refine ⟨T + 1, fun t => if t ≤ T then D t else d', fun t => if t ≤ T then E t else e', by omega, ?_, ?_, fun t ht => ?_, fun t ht => ?_, fun h => absurd h (by omega)⟩
        · simp only [if_pos (Nat.zero_le _)]; exact hD
        · simp only [if_pos (Nat.zero_le _)]; exact hE
        · by_cases q : t ≤ T
          · simp only [if_pos q]; exact hag t q
          · simp only [if_neg q]; exact ⟨f1, hcg'⟩
        · by_cases q : t < T
          · simp only [if_pos (show t ≤ T by omega), if_pos (show t + 1 ≤ T by omega)]
            exact hok t q
          · have et : t = T := by omega
            subst et
            simp only [if_pos (Nat.le_refl t), if_neg (show ¬ t + 1 ≤ t by omega)]
            exact ⟨hd', he', f2⟩
      · exact ⟨T, D, E, by omega, hD, hE, hag, hok, fun _ => ⟨hn9, plNo_cg hcg hw9 hm8 hn9⟩⟩
theorem fillM_at (d : Nat → Int32) : ∀ n i, i < n → itr fillM n d i = -1
  | n + 1, i, hi => by
    rw [itr_s]
    unfold fillM
    by_cases e : i = n
    · subst e
      rw [upd_s]
    · rw [upd_n e]
      exact fillM_at d n i (by omega)
theorem ownS_at (d r : Nat → Int32) : ∀ n, (∀ k, k < n → itr (ownS d) n r (201 + k) = d k) ∧ ∀ j, (j < 201 ∨ 201 + n ≤ j) → itr (ownS d) n r j = r j
  | 0 => ⟨fun k hk => absurd hk (Nat.not_lt_zero _), fun _ _ => rfl⟩
  | n + 1 => by
    obtain ⟨h1, h2⟩ := ownS_at d r n
    rw [itr_s]
    unfold ownS
    refine ⟨fun k hk => ?_, fun j hj => ?_⟩
    · by_cases e : k = n
      · subst e
        rw [upd_s]
      · rw [upd_n (by omega)]
        exact h1 k (by omega)
    · rw [upd_n (by omega)]
      exact h2 j (by omega)
theorem cntB_tail {P : Nat → Bool} {n : Nat} : ∀ {N : Nat}, n ≤ N → (∀ k, n ≤ k → k < N → P k = false) → cntB P N = cntB P n
  | 0, h, _ => by rw [show n = 0 by omega]
  | N + 1, h, hP => by
    by_cases e : n = N + 1
    · rw [e]
    · rw [cntB_f (hP N (by omega) (by omega)), Nat.add_zero]
      exact cntB_tail (by omega) (fun k h1 h2 => hP k h1 (by omega))
/-- how many words are taken -/
theorem taken_eq {r d : Nat → Int32} {w m : Nat} (hm8 : m ≤ 8) (h1 : ∀ k, k < 128 → r (201 + k) = d k) (h2 : ∀ k, k < 128 → ¬ (k < 16 * m ∧ k % 16 < w) → d k = -1) : cntB (tkP r w) (16 * m) = cntB (nFr d) 128 := by
  have e1 : cntB (nFr d) 128 = cntB (nFr d) (16 * m) := cntB_tail (by omega) (fun k h3 h4 => decide_eq_false (fun q => q (h2 k h4 (by omega))))
  rw [e1]
  refine cntB_cg (fun k hk => ?_)
  unfold tkP nFr
  rw [h1 k (by omega)]
  refine decide_eq_decide.mpr ⟨fun q => q.2, fun q => ⟨?_, q⟩⟩
  by_cases e : k % 16 < w
  · exact e
  · exact absurd (h2 k (by omega) (by omega)) q
