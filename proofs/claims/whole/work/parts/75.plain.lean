/-! ===== plain calls; the plan ===== -/
theorem rank_cg {S S' : Nat → Nat} {n p : Nat} (h : ∀ j, j < n → S j = S' j) (hp : p < n) : rank S n p = rank S' n p := cntB_cg (fun o ho => by
  unfold ahead
  rw [h o ho, h p hp])
theorem dOk_m1 {w m pc : Nat} {d : Nat → Int32} (h : ∀ k, k < 128 → d k = -1) : dOk w m pc d := fun k hk => ⟨Or.inl (h k hk), fun _ => h k hk⟩
theorem op_plan_P {K : jK} {x : Nat} {c : FcV} {v : MdV} (b : Int32) (c' : FcV) (v' : MdV) (hR : RelV c' v') (hM : ∀ l : Launch, l.stackTraces = false → ∀ G hs, fcT K G x c → Ct l K yX5_plan cX5_plan 2 (some .int) 6 142 0 0 [.ref x] G hs (pI (fun z G' _ => z = b ∧ fcT K G' x c' ∧ fO x G G')) jno) (hm : ∀ l : Launch, l.stackTraces = false → ∀ F hs, Ct l K yX6_plan cX6_plan 3 (some .int) 4 93 0 0 [.ref (x + 229)] (gB F (x + 229) (mdC K (x + 229) v)) hs (pI (fun z G' _ => z = b ∧ G' = gB F (x + 229) (mdC K (x + 229) v'))) jno) : OpP K x (fun l G hs post => Ct l K yX5_plan cX5_plan 2 (some .int) 6 142 0 0 [.ref x] G hs post jno) (fun l G hs post => Ct l K yX6_plan cX6_plan 3 (some .int) 4 93 0 0 [.ref (x + 229)] G hs post jno) c v :=
  ⟨b, c', v', hR, fun l hl G hs hw => Ct.mono (hM l hl G hs hw.1) (fun z G' h q => by
    obtain ⟨z9, e, e1, q1, q2⟩ := q
    exact ⟨z9, e, e1, hw.cl q1 q2⟩) (fun _ _ h => h), fun l hl G hs hw => Ct.mono (Ct.at hw.2.1 (hm l hl G hs)) (fun z G' h q => by
    obtain ⟨z9, e, e1, q1⟩ := q
    exact ⟨z9, e, e1, (hw.md q1).1⟩) (fun _ _ h => h)⟩
theorem op_pending_P {K : jK} {x : Nat} {c : FcV} {v : MdV} (b : Int32) (c' : FcV) (v' : MdV) (hR : RelV c' v') (hM : ∀ l : Launch, l.stackTraces = false → ∀ G hs, fcT K G x c → Ct l K yX5_pending cX5_pending 1 (some .int) 0 0 0 0 [.ref x] G hs (pI (fun z G' _ => z = b ∧ fcT K G' x c' ∧ fO x G G')) jno) (hm : ∀ l : Launch, l.stackTraces = false → ∀ F hs, Ct l K yX6_pending cX6_pending 1 (some .int) 0 0 0 0 [.ref (x + 229)] (gB F (x + 229) (mdC K (x + 229) v)) hs (pI (fun z G' _ => z = b ∧ G' = gB F (x + 229) (mdC K (x + 229) v'))) jno) : OpP K x (fun l G hs post => Ct l K yX5_pending cX5_pending 1 (some .int) 0 0 0 0 [.ref x] G hs post jno) (fun l G hs post => Ct l K yX6_pending cX6_pending 1 (some .int) 0 0 0 0 [.ref (x + 229)] G hs post jno) c v :=
  ⟨b, c', v', hR, fun l hl G hs hw => Ct.mono (hM l hl G hs hw.1) (fun z G' h q => by
    obtain ⟨z9, e, e1, q1, q2⟩ := q
    exact ⟨z9, e, e1, hw.cl q1 q2⟩) (fun _ _ h => h), fun l hl G hs hw => Ct.mono (Ct.at hw.2.1 (hm l hl G hs)) (fun z G' h q => by
    obtain ⟨z9, e, e1, q1⟩ := q
    exact ⟨z9, e, e1, (hw.md q1).1⟩) (fun _ _ h => h)⟩
theorem op_receiverState_P {K : jK} {x : Nat} {c : FcV} {v : MdV} (b : Int32) (c' : FcV) (v' : MdV) (hR : RelV c' v') (hM : ∀ l : Launch, l.stackTraces = false → ∀ G hs, fcT K G x c → Ct l K yX5_receiverState cX5_receiverState 1 (some .int) 0 0 0 0 [.ref x] G hs (pI (fun z G' _ => z = b ∧ fcT K G' x c' ∧ fO x G G')) jno) (hm : ∀ l : Launch, l.stackTraces = false → ∀ F hs, Ct l K yX6_receiverState cX6_receiverState 1 (some .int) 0 0 0 0 [.ref (x + 229)] (gB F (x + 229) (mdC K (x + 229) v)) hs (pI (fun z G' _ => z = b ∧ G' = gB F (x + 229) (mdC K (x + 229) v'))) jno) : OpP K x (fun l G hs post => Ct l K yX5_receiverState cX5_receiverState 1 (some .int) 0 0 0 0 [.ref x] G hs post jno) (fun l G hs post => Ct l K yX6_receiverState cX6_receiverState 1 (some .int) 0 0 0 0 [.ref (x + 229)] G hs post jno) c v :=
  ⟨b, c', v', hR, fun l hl G hs hw => Ct.mono (hM l hl G hs hw.1) (fun z G' h q => by
    obtain ⟨z9, e, e1, q1, q2⟩ := q
    exact ⟨z9, e, e1, hw.cl q1 q2⟩) (fun _ _ h => h), fun l hl G hs hw => Ct.mono (Ct.at hw.2.1 (hm l hl G hs)) (fun z G' h q => by
    obtain ⟨z9, e, e1, q1⟩ := q
    exact ⟨z9, e, e1, (hw.md q1).1⟩) (fun _ _ h => h)⟩
set_option maxRecDepth 100000 in
set_option maxHeartbeats 4000000 in
theorem OP_pending {K : jK} {x : Nat} {c : FcV} {v : MdV} (hR : RelV c v) : OpP K x (fun l G hs post => Ct l K yX5_pending cX5_pending 1 (some .int) 0 0 0 0 [.ref x] G hs post jno) (fun l G hs post => Ct l K yX6_pending cX6_pending 1 (some .int) 0 0 0 0 [.ref (x + 229)] G hs post jno) c v := by
  obtain ⟨n, q, cnt, nw, ⟨w, m, pl, tk, ow, P, pc, nx, bits, nb, rc, md⟩, S, d⟩ := c
  obtain ⟨now, past, kept, thrown, drawn, hash⟩ := v
  have hrow : rowR now (w, m, pl, tk, ow, P, pc, nx, bits, nb, rc, md) := hR.1
  have hpast : pastR past kept S nw := hR.2.1
  have hcnt : cnt = kept := hR.2.2.1
  subst hcnt
  have hk : cnt ≤ 4 := hR.2.2.2.1
  have hnw : nw < 4 := hR.2.2.2.2
  obtain ⟨⟨e0, e1, e2, e3, e4, e5, e6, hw6, hw9, hmo, hpc, hnx, hnb, hmd⟩, hpar, hly, hch, hrc⟩ := hrow
  exact op_pending_P (nI nb) _ (now, past, cnt, nI 0, drawn, hash) hR (fun l hl G hs hc => Ct.mono (c_X5_pending hl K _ _ _ _ _ _ _ _ _ _ _ _ _ _ _ _ _ _ _ _ _ hc hpc) (fun z G' h q => by
      obtain ⟨z9, e, e1, e9⟩ := q
      subst e9
      exact ⟨z9, e, e1, hc, fO.rf⟩) (fun _ _ h => h)) (fun l hl F hs => by
    have := c_X6_pending hl K F (x + 229) hs now past (nI cnt) thrown drawn hash
    rw [e5] at this
    exact this)
set_option maxRecDepth 100000 in
set_option maxHeartbeats 4000000 in
theorem OP_receiverState {K : jK} {x : Nat} {c : FcV} {v : MdV} (hR : RelV c v) : OpP K x (fun l G hs post => Ct l K yX5_receiverState cX5_receiverState 1 (some .int) 0 0 0 0 [.ref x] G hs post jno) (fun l G hs post => Ct l K yX6_receiverState cX6_receiverState 1 (some .int) 0 0 0 0 [.ref (x + 229)] G hs post jno) c v := by
  obtain ⟨n, q, cnt, nw, ⟨w, m, pl, tk, ow, P, pc, nx, bits, nb, rc, md⟩, S, d⟩ := c
  obtain ⟨now, past, kept, thrown, drawn, hash⟩ := v
  have hrow : rowR now (w, m, pl, tk, ow, P, pc, nx, bits, nb, rc, md) := hR.1
  have hpast : pastR past kept S nw := hR.2.1
  have hcnt : cnt = kept := hR.2.2.1
  subst hcnt
  have hk : cnt ≤ 4 := hR.2.2.2.1
  have hnw : nw < 4 := hR.2.2.2.2
  obtain ⟨⟨e0, e1, e2, e3, e4, e5, e6, hw6, hw9, hmo, hpc, hnx, hnb, hmd⟩, hpar, hly, hch, hrc⟩ := hrow
  exact op_receiverState_P rc.1 _ (now, past, cnt, nI 0, drawn, hash) hR (fun l hl G hs hc => Ct.mono (c_X5_receiverState hl K _ _ _ _ _ _ _ _ _ _ _ _ _ _ _ _ _ _ _ _ _ hc hpc) (fun z G' h q => by
      obtain ⟨z9, e, e1, e9⟩ := q
      subst e9
      exact ⟨z9, e, e1, hc, fO.rf⟩) (fun _ _ h => h)) (fun l hl F hs => by
    have := c_X6_receiverState hl K F (x + 229) hs now past (nI cnt) thrown drawn hash
    rw [hrc.1] at this
    exact this)
set_option maxRecDepth 100000 in
set_option maxHeartbeats 4000000 in
theorem OP_plan {K : jK} {x : Nat} {c : FcV} {v : MdV} (hR : RelV c v) : OpP K x (fun l G hs post => Ct l K yX5_plan cX5_plan 2 (some .int) 6 142 0 0 [.ref x] G hs post jno) (fun l G hs post => Ct l K yX6_plan cX6_plan 3 (some .int) 4 93 0 0 [.ref (x + 229)] G hs post jno) c v := by
  obtain ⟨n, q, cnt, nw, ⟨w, m, pl, tk, ow, P, pc, nx, bits, nb, rc, md⟩, S, d⟩ := c
  obtain ⟨now, past, kept, thrown, drawn, hash⟩ := v
  have hrow : rowR now (w, m, pl, tk, ow, P, pc, nx, bits, nb, rc, md) := hR.1
  have hpast : pastR past kept S nw := hR.2.1
  have hcnt : cnt = kept := hR.2.2.1
  subst hcnt
  have hk : cnt ≤ 4 := hR.2.2.2.1
  have hnw : nw < 4 := hR.2.2.2.2
  obtain ⟨⟨e0, e1, e2, e3, e4, e5, e6, hw6, hw9, hmo, hpc, hnx, hnb, hmd⟩, hpar, hly, hch, hrc⟩ := hrow
  obtain ⟨dw, dm, dpl, dtk, dow⟩ := d
  have hm1 : 1 ≤ m := by omega
  have hm8 : m ≤ 8 := by omega
  have hra : ∀ j, j < pc → now (33 + 14 * j + 0) = (P j).1 := fun j hj => (hpar j hj).1
  have hrP : ∀ j, j < pc → rOk (P j).1 := fun j hj => (hpar j hj).2.2.2.2.2.2.2.2.2
  have hrM : ∀ j, j < pc → rOk (now (33 + 14 * j + 0)) := fun j hj => by rw [hra j hj]; exact hrP j hj
  obtain ⟨ord, hord⟩ := plan_order (fun j => sOf m (now (33 + 14 * j + 0))) pc
  have hS9 : ∀ j, j < pc → (fun j => sOf m (now (33 + 14 * j + 0))) j < 1000 := fun j hj => Nat.lt_of_le_of_lt (sOf_le hm8 (hrM j hj)) (by omega)
  have hord2 : ∀ t, t < pc → ord t < pc ∧ rank (fun j => sOf m (now (33 + 14 * j + 0))) pc (ord t) = t ∧ ∀ p, p < ord t → rank (fun j => sOf m (now (33 + 14 * j + 0))) pc p ≠ t := fun t ht => by
    obtain ⟨a1, a2, a3⟩ := hord t ht
    exact ⟨a1, a2, fun p hp e => absurd (a3 p (by omega) e) (by omega)⟩
  have hcgS : ∀ p, p < pc → rank (fun j => sOf m (P j).1) pc p = rank (fun j => sOf m (now (33 + 14 * j + 0))) pc p := fun p hp => rank_cg (fun j hj => by show sOf m (P j).1 = sOf m (now (33 + 14 * j + 0)); rw [hra j hj]) hp
  have hd1 : ∀ k, k < 128 → itr fillM 128 drawn k = -1 := fun k hk => fillM_at drawn 128 k hk
  have he1 : ∀ k, k < 128 → itr (flF (-1)) 128 (va_cpy ow dow 0 0 128) k = -1 := fun k hk => flF_at (-1) _ 128 k hk
  obtain ⟨T, D, E, hT, hD, hE, hag, hok, hno⟩ := plan_run hw6 hw9 hmo hpc (ra := fun j => now (33 + 14 * j + 0)) hrM ord (fun t ht => (hord t ht).1) (itr fillM 128 drawn) (itr (flF (-1)) 128 (va_cpy ow dow 0 0 128)) (dOk_m1 hd1) (fun k hk => (hd1 k hk).trans (he1 k hk).symm) pc (Nat.le_refl _)
  have hTK0 : cntB (nFr (D 0)) 128 = 0 := by
    rw [hD]
    exact cntB_none (fun k hk => decide_eq_false (fun q => q (hd1 k hk)))
  have hokE : ∀ p, p < pc → rank (fun j => sOf m (P j).1) pc p < T → plOk w m (P p).1 p (E (rank (fun j => sOf m (P j).1) pc p)) (E (rank (fun j => sOf m (P j).1) pc p + 1)) ∧ cntB (nFr (D (rank (fun j => sOf m (P j).1) pc p + 1))) 128 = cntB (nFr (D (rank (fun j => sOf m (P j).1) pc p))) 128 + sOf m (P p).1 := fun p hp hr9 => by
    have a1 := hok _ hr9
    have a2 : ord (rank (fun j => sOf m (P j).1) pc p) = p := ((hord _ (by omega)).2.2 p hp (hcgS p hp).symm).symm
    simp only [a2, hra p hp] at a1
    exact a1.2
  by_cases hTp : T < pc
  · obtain ⟨b1, b2, b3⟩ := hord T hTp
    have c1 : rank (fun j => sOf m (P j).1) pc (ord T) = T := (hcgS _ b1).trans b2
    have c2 : ∀ p, p < pc → ((fun j => sOf m (P j).1) (ord T) < (fun j => sOf m (P j).1) p ∨ ((fun j => sOf m (P j).1) p = (fun j => sOf m (P j).1) (ord T) ∧ p < ord T)) → rank (fun j => sOf m (P j).1) pc p < T := fun p hp h9 => by
      have := rank_lt (S := fun j => sOf m (P j).1) (n := pc) hp h9
      rwa [c1] at this
    have hnoT := hno hTp
    simp only [hra _ b1] at hnoT
    have h32 : sOf m (P (ord T)).1 ≤ 32 := sOf_le hm8 (hrP _ b1)
    refine op_plan_P (-10 - nI (ord T)) (n, q, cnt, nw, (w, m, pl, tk, ow, P, pc, nx, bits, nb, rc, md), S, (w, m, pl, cntB (nFr (D (rank (fun j => sOf m (P j).1) pc (ord T)))) 128, E (rank (fun j => sOf m (P j).1) pc (ord T)))) (now, past, cnt, nI 0, D T, hash) hR (fun l hl G hs hc => c_X5_plan_f hl K _ _ _ _ _ _ _ _ _ _ _ _ _ _ _ _ _ _ _ _ _ _ _ _ _ hc hpc hw6 hw9 hm1 hm8 hrP (fun j => sOf m (P j).1) (fun _ => rfl) E (fun t => cntB (nFr (D t)) 128) hTK0 hE (ord T) (32 - sOf m (P (ord T)).1) b1 (by show sOf m (P (ord T)).1 + (32 - sOf m (P (ord T)).1) = 32; omega) (fun p hp h9 => (hokE p hp (c2 p hp h9)).1) (fun p hp h9 => (hokE p hp (c2 p hp h9)).2) (by rw [c1]; exact hnoT.2)) (fun l hl F hs => c_X6_plan_f hl K F (x + 229) hs now past thrown cnt hk drawn hash w e0 hw6 hw9 pc m e2 hpc e1 hm8 hrM (fun j => sOf m (now (33 + 14 * j + 0))) rfl hS9 D hD ord hord2 T hTp (fun t ht => (hok t ht).1) (hno hTp).1)
  · have eT : T = pc := by omega
    subst eT
    obtain ⟨f1, f2⟩ := hag T (Nat.le_refl _)
    obtain ⟨g1, g2⟩ := ownS_at (D T) (upd now 3 (nI 1)) 128
    have htk : cntB (tkP (itr (ownS (D T)) 128 (upd now 3 (nI 1))) w) (16 * m) = cntB (nFr (D T)) 128 := taken_eq hm8 g1 (fun k hk => (f1 k hk).2)
    refine op_plan_P (nI (cntB (nFr (D T)) 128)) (n, q, sC cnt, (nw + 1) % 4, (w, m, true, cntB (nFr (D T)) 128, va_cpy (E T) ow 0 0 128, P, T, nx, bits, nb, rc, md), svS S nw (w, m, pl, tk, ow, P, T, nx, bits, nb, rc, md), (w, m, true, cntB (nFr (D T)) 128, E T)) (itr (ownS (D T)) 128 (upd now 3 (nI 1)), mKeep now past cnt, mKept cnt, nI 0, D T, hash) ⟨?_, hpast.keep hk hnw hR.1, (mKept_sC hk).symm, by show mKept cnt ≤ 4; unfold mKept; split <;> omega, Nat.mod_lt _ (by omega)⟩ (fun l hl G hs hc => c_X5_plan_t hl K _ _ _ _ _ _ _ _ _ _ _ _ _ _ _ _ _ _ _ _ _ _ _ _ _ hc hpc hw6 hw9 hm1 hm8 hrP (fun j => sOf m (P j).1) (fun _ => rfl) E (fun t => cntB (nFr (D t)) 128) hTK0 hE (fun p hp => (hokE p hp (by rw [hcgS p hp]; exact rank_n hp)).1) (fun p hp => (hokE p hp (by rw [hcgS p hp]; exact rank_n hp)).2)) (fun l hl F hs => by
      have h9 := c_X6_plan_t hl K F (x + 229) hs now past thrown cnt hk drawn hash w e0 hw6 hw9 T m e2 hpc e1 hm8 hrM (fun j => sOf m (now (33 + 14 * j + 0))) rfl hS9 D hD ord hord2 (fun t ht => (hok t ht).1)
      rw [htk] at h9
      exact h9)
    have ho : ∀ j, j ≠ 3 → (j < 201 ∨ 329 ≤ j) → (itr (ownS (D T)) 128 (upd now 3 (nI 1))) j = now j := fun j h1 h2 => by rw [g2 j (by omega), upd_n h1]
    have hcy : ∀ k, k < 128 → va_cpy (E T) ow 0 0 128 k = D T k := fun k hk => (va_cpy_in hk).trans (f2 k hk).symm
    refine ⟨⟨(ho _ (by omega) (by omega)).trans e0, (ho _ (by omega) (by omega)).trans e1, (ho _ (by omega) (by omega)).trans e2, (g2 3 (by omega)).trans (upd_s _ _ _), (ho _ (by omega) (by omega)).trans e4, (ho _ (by omega) (by omega)).trans e5, (ho _ (by omega) (by omega)).trans e6, hw6, hw9, hmo, hpc, hnx, hnb, hmd⟩, fun p hp => (hpar p hp).mv (fun j hj => ho _ (by omega) (by omega)), fun _ => ⟨fun k hk => (g1 k hk).trans (hcy k hk).symm, fun k hk => ?_, fun k hk => ?_, (cntB_ow hcy).symm⟩, hch.mv (fun k hk => ho _ (by omega) (by omega)), hrc.mv (fun j h1 h2 => ho _ (by omega) (by omega))⟩
    · rw [hcy k hk]
      exact (f1 k hk).1
    · rw [hcy k hk]
      exact (f1 k hk).2
