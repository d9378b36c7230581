/-! THE CLAIM OUT OF ONE WALK OF THE LAW'S BODY. Your part is whole_start (and what it stands on); all else here is the same for every law, but numbers. -/
def R_law : String := "FrameCommutatorLaw"
def lw_P (b : Addr) (xs : List Int32) (args : Array Value) (s : State) : Prop := args = #[.ref b] ∧ s.IntsAt b xs ∧ xs.length ≤ 2560 ∧ (Jvm.Cond.and given_1 narrow_1).before args s = true
/-- what a walk over the start with the record d0 says of its end, said of the start itself -/
theorem lw_closed {s t : State} {o : Outcome} {d0 : Drawn} {L : List Loc} {k n : Nat} (hd0 : s.drawn.sameBut d0 lw_cs) (hv : ∃ v, o = .returned v) (hW : (s.setDrawn d0).WarmedH t.vm) (hs : (s.setDrawn d0).sameButNew ({ t with vm := s.vm } : State) L k n) : State.butDraws s t lw_cs (fun t1 => Framed s o t1 L k n) := by
  have h2 : t.drawn = d0 := congrArg State.drawn hs.1
  refine ⟨⟨hv, hW, State.sameButNew.setDrawn hs s.drawn⟩, ?_, by decide⟩
  rw [h2]
  exact hd0
def lw_Q (_ : Array Value) (s : State) (o : Outcome) (t : State) : Prop := o = .returned (some (.int 1)) ∧ State.butDraws s t lw_cs (fun t1 => Framed s o t1 [] 601024 7293034)
def lw_Z (below : List Frame) (a : Array Value) (s : State) : State → Prop := fun t => ∃ o, t.status = .running ∧ Ended t below o ∧ lw_Q a s o t
/-- the law's own end, with 1 on the stack, nothing written that was there before, its room as the claim has it; d0: the record of draws at this point (at the entry s.drawn: begin with 'refine W.base ?_' and 'have hd0 := Drawn.sameBut.refl s.drawn lw_cs') -/
theorem lw_ret {p : Program} {l : Launch} {e : Env} {s : State} {m : MethodId} {below : List Frame} {meth : Method} {c : Code} {b : Nat} {d0 : Drawn} (hd0 : s.drawn.sameBut d0 lw_cs) (hx : p.tables.exec = Jvm.exec) (hb : c.code = code) (hr : meth.sig.returnType = ret) (hlocks : meth.locks = false) {pc : Nat} {H : Heap} {ls : Array Slot} (hdg : decode code pc = .ok (.ireturn, 1)) : W p l e room_1 (s.setDrawn d0) m #[Value.ref b] below meth c H [] 601024 7293034 (lw_Z below #[Value.ref b] s) (F0 m pc ls [.int 1]) := by
  intro T hT X
  obtain ⟨fs, hret, hrun, hended, hW, hframe⟩ := X.leave (v := some (.int 1)) (hlocks := hlocks) (fun h => by rw [hr] at h; cases h)
  have hmeth' : T.vm.method? m = some meth := X.method'
  refine ⟨T.setFrames fs, ?_, .returned (some (.int 1)), hrun, hended, rfl, lw_closed hd0 ⟨_, rfl⟩ hW hframe⟩
  jvm_step X.here [X.here.top, hx, hb, hdg, hmeth', hr, ret, narrow_b1]
  (try refine ⟨rfl, ?_⟩); (try refine ⟨rfl, ?_⟩)
  first | (intro acts; rw [hret _ acts rfl rfl rfl]) | rw [hret _ _ rfl rfl rfl]
  exact Steps.refl _
/-- what holds at the law's entry: the machine, the code, the tables' words (any of lw_tbl by 'hts w (by decide +kernel)'), the script of L ints xs at the cell b, what the Statement gives of the start (any of its parts by flat_of_before) -/
def lw_At (p : Program) (s : State) (m : MethodId) (meth : Method) (c : Code) (b L : Nat) (xs : Nat → Int32) : Prop :=
  p.tables.exec = Jvm.exec ∧ c.code = code ∧ meth.sig.returnType = ret ∧ c.maxLocals = 9 ∧ s.vm.findClass R_law = some m.cls ∧ (∀ w ∈ lw_tbl, w.before #[Value.ref b] s = true) ∧ va_X b L xs s s.heap ∧ b < s.heap.size ∧ meth.locks = false ∧ (Jvm.Cond.and given_1 narrow_1).before #[Value.ref b] s = true
/-! what the tables and the premises say at the entry, in the words of J -/
theorem tbl_all (l : List Cond) (h : (l.all fun w => lw_tbl.any fun v => decide (v = w)) = true) : ∀ w ∈ l, w ∈ lw_tbl := fun w hw => by
  have h1 := List.all_eq_true.mp h w hw
  obtain ⟨v, hv, e⟩ := List.any_eq_true.mp h1
  rw [← of_decide_eq_true e]
  exact hv
theorem st_nest : ∀ w ∈ jNest.map (fun q => Cond.methodLinkNest q.1 q.2.1 q.2.2.1 q.2.2.2), w ∈ lw_tbl := tbl_all _ (by decide +kernel)
theorem st_decl : ∀ w ∈ jDecl.map (fun q => Cond.declares q), w ∈ lw_tbl := tbl_all _ (by decide +kernel)
theorem st_cast : ∀ w ∈ jCast.map (fun q => Cond.castable q.1 q.2), w ∈ lw_tbl := tbl_all _ (by decide +kernel)
theorem st_str : ∀ w ∈ jStr.map (fun q => Cond.stringRef "FrameCommutator" q.1 q.2), w ∈ lw_tbl := tbl_all _ (by decide +kernel)
theorem st_not : ∀ q ∈ jNot, Cond.not (.castable q.1 q.2) ∈ flatC (Jvm.Cond.and given_1 narrow_1) := by decide +kernel
theorem st_arr : ∀ w ∈ [Cond.arrayOver (.object "FrameCommutator$Parameter"), Cond.arrayOver (.object "FrameCommutator$State"), Cond.laysStatic Bundle.tN "UNASSIGNED_STACK" Bundle.steD, Cond.laysStatic Bundle.tN "SUPPRESSED_SENTINEL" Bundle.listD, Cond.initialized Bundle.tN], w ∈ lw_tbl := tbl_all _ (by decide +kernel)
theorem st_u : Cond.isRef (.static Bundle.tN "UNASSIGNED_STACK" Bundle.steD) ∈ flatC (Jvm.Cond.and given_1 narrow_1) := by decide +kernel
theorem st_s : Cond.isRef (.static Bundle.tN "SUPPRESSED_SENTINEL" Bundle.listD) ∈ flatC (Jvm.Cond.and given_1 narrow_1) := by decide +kernel
set_option maxHeartbeats 4000000 in
theorem gN_start {p : Program} {s : State} {m : MethodId} {meth : Method} {c : Code} {b L : Nat} {xs : Nat → Int32} (C0 : lw_At p s m meth c b L xs) : ∃ K : jK, gN K (fun q : Nat => s.heap.size ≤ q) s := by
  obtain ⟨hx, hb, hr, hml, hown, hts, hX, hbl, hlocks, hgv⟩ := C0
  have hJ : ∀ w ∈ jW, w.before #[Value.ref b] s = true := fun w hw => hts w (List.mem_filter.mp hw).1
  have hG := flat_of_before _ hgv
  obtain ⟨c0, i0, k0⟩ := u_known (C := RX0) (T := TX0) (N := 2) (n := 2) hJ in9X0 (hJ _ tw_63)
  obtain ⟨c1, i1, k1⟩ := u_known (C := RX1) (T := TX1) (N := 5) (n := 5) hJ in9X1 (hJ _ tw_31)
  obtain ⟨c2, i2, k2⟩ := u_known (C := RX2) (T := TX2) (N := 10) (n := 10) hJ in9X2 (hJ _ tw_108)
  obtain ⟨c3, i3, k3⟩ := u_known (C := RX3) (T := TX3) (N := 6) (n := 6) hJ in9X3 (hJ _ tw_80)
  obtain ⟨c4, i4, k4⟩ := u_known (C := RX4) (T := TX4) (N := 7) (n := 7) hJ in9X4 (hJ _ tw_25)
  obtain ⟨c5, i5, k5⟩ := u_known (C := RX5) (T := TX5) (N := 5) (n := 5) hJ in9X5 (hJ _ tw_17)
  obtain ⟨c6, i6, k6⟩ := u_known (C := RX6) (T := TX6) (N := 6) (n := 6) hJ in9X6 (hJ _ tw_689)
  obtain ⟨a0, q0, m0, f0, g0, h0⟩ := Cond.arrayClass_spec (hJ _ tw_59)
  obtain ⟨a3, q3, m3, f3, g3, h3⟩ := Cond.arrayClass_spec (hJ _ tw_944)
  obtain ⟨a4, q4, m4, f4, g4, h4⟩ := Cond.arrayClass_spec (hJ _ tw_945)
  have o1 := hts _ (st_arr _ (List.mem_cons_self ..))
  have o2 := hts _ (st_arr _ (List.mem_cons_of_mem _ (List.mem_cons_self ..)))
  have o3 := hts _ (st_arr _ (List.mem_cons_of_mem _ (List.mem_cons_of_mem _ (List.mem_cons_self ..))))
  have o4 := hts _ (st_arr _ (List.mem_cons_of_mem _ (List.mem_cons_of_mem _ (List.mem_cons_of_mem _ (List.mem_cons_self ..)))))
  have o5 := hts _ (st_arr _ (List.mem_cons_of_mem _ (List.mem_cons_of_mem _ (List.mem_cons_of_mem _ (List.mem_cons_of_mem _ (List.mem_cons_self ..))))))
  obtain ⟨p1, a1, q1, f1, -, g1, h1, n1⟩ := Cond.arrayOver_spec o1
  obtain ⟨p2, a2, q2, f2, -, g2, h2, n2⟩ := Cond.arrayOver_spec o2
  refine ⟨((fun k => match k with | 0 => c0 | 1 => c1 | 2 => c2 | 3 => c3 | 4 => c4 | 5 => c5 | _ => c6, fun k => match k with | 0 => i0 | 1 => i1 | 2 => i2 | 3 => i3 | 4 => i4 | 5 => i5 | _ => i6), fun k => match k with | 0 => a0 | 1 => a1 | 2 => a2 | 3 => a3 | _ => a4), ⟨fun k q hq => ?_, fun k q hq => ?_⟩, fun q hq => va_Nw.of rfl (hts _ (st_nest _ (List.mem_map.mpr ⟨q, hq, rfl⟩))), fun q hq => va_Nw.of rfl (hts _ (st_decl _ (List.mem_map.mpr ⟨q, hq, rfl⟩))), fun q hq => va_Nw.of rfl (hts _ (st_cast _ (List.mem_map.mpr ⟨q, hq, rfl⟩))), fun q hq => va_Nc.of (hG _ (st_not q hq)), va_AO.of o1, va_AO.of o2, fun q hq => ?_, vx_Zqof o3 o5 (hG _ st_u) (fun a ha => Nat.not_le.mpr ha), vx_Zqof o4 o5 (hG _ st_s) (fun a ha => Nat.not_le.mpr ha)⟩
  · match k, hq with
    | 0, hq => cases hq; exact k0
    | 1, hq => cases hq; exact k1
    | 2, hq => cases hq; exact k2
    | 3, hq => cases hq; exact k3
    | 4, hq => cases hq; exact k4
    | 5, hq => cases hq; exact k5
    | 6, hq => cases hq; exact k6
    | k + 7, hq => cases hq
  · match k, hq with
    | 0, hq => cases hq; exact ⟨fun n z => ⟨fun k h => (by cases h), q0, g0, m0, h0⟩, f0⟩
    | 1, hq => cases hq; exact ⟨fun n z => ⟨fun k h => (by cases h), q1, g1, p1, h1⟩, q1, p1, g1, h1, f1, n1⟩
    | 2, hq => cases hq; exact ⟨fun n z => ⟨fun k h => (by cases h), q2, g2, p2, h2⟩, q2, p2, g2, h2, f2, n2⟩
    | 3, hq => cases hq; exact ⟨fun n z => ⟨fun k h => (by cases h), q3, g3, m3, h3⟩, f3⟩
    | 4, hq => cases hq; exact ⟨fun n z => ⟨fun k h => (by cases h), q4, g4, m4, h4⟩, f4⟩
    | k + 5, hq => cases hq
  · have w := hts _ (st_str _ (List.mem_map.mpr ⟨q, hq, rfl⟩))
    obtain ⟨k, cf, i, a, -, -, -, -, -, ev⟩ := Cond.stringRef_spec k5.2.1 w
    exact ⟨a, vk_R.of w ev⟩
/-! a fresh pair of objects -/
abbrev cI (x : Nat) : FcV := (x + 1, fun i => x + 47 + 45 * i, 0, 0, sZ, fun _ => sZ, (8, 4, false, 0, fun _ => 0))
abbrev nwI : Nat → Int32 := upd (upd (fun _ => 0) 0 (nI 8)) 1 (nI 4)
abbrev vI : MdV := (nwI, fun _ => 0, 0, 0, fun _ => 0, 0)
theorem nwI_0 {j : Nat} (h : 2 ≤ j) : nwI j = nI 0 := (upd_n (by omega)).trans ((upd_n (by omega)).trans nI_0.symm)
theorem rel_init (x : Nat) : RelV (cI x) vI := by
  refine ⟨⟨⟨?_, ?_, nwI_0 (j := 2) (by omega), nwI_0 (j := 3) (by omega), nwI_0 (j := 4) (by omega), nwI_0 (j := 5) (by omega), nwI_0 (j := 6) (by omega), by omega, by omega, by unfold mOk; omega, by omega, by omega, by omega, by omega⟩, fun p hp => absurd hp (Nat.not_lt_zero _), fun h => absurd h (by decide), fun k hk => absurd hk (Nat.not_lt_zero _), ?_⟩, fun t ht => absurd ht (Nat.not_lt_zero _), rfl, Nat.zero_le _, by show 0 < 4; omega⟩
  · exact (upd_n (f := upd (fun _ => 0) 0 (nI 8)) (k := 1) (j := 0) (x := nI 4) (by omega)).trans (upd_s _ _ _)
  · exact upd_s (upd (fun _ => 0) 0 (nI 8)) 1 (nI 4)
  · refine ⟨nwI_0 (j := 7) (by omega), nwI_0 (j := 8) (by omega), fun k hk => (nwI_0 (j := 9 + k) (by omega)).trans nI_0, ⟨0, by omega, rfl⟩, fun k hk => ⟨0, by omega, nI_0.symm⟩, Or.inl ⟨rfl, nwI_0 (j := 15) (by omega), Nat.zero_le _, 0, by omega, nwI_0 (j := 16) (by omega), ?_, fun _ => ?_⟩⟩
    · rw [show vI.1 17 = nI 0 from nwI_0 (j := 17) (by omega)]
      decide
    · show hN (nI 0) % 65536 < 2 ^ 0
      decide
theorem lw_init {K : jK} {G1 G : GH} {x : Nat} (h : fcOk K G1 x (x + 1) (fun i => x + 47 + 45 * i) 0 0 sZ (fun _ => sZ) (8, 4, false, 0, fun _ => 0)) (e : G = gset (gset (gB G1 (x + 229) (mC K (x + 229) nwI (fun _ => 0) 0 0 (fun _ => 0) 0)) (x + 229 + 4) (lA K 1 (fun _ => 0))) (x + 229 + 4 + 1) (dA K 1 (fun _ => 0))) : lwOk K G x (cI x) vI := by
  have ho : ∀ a, a < x + 233 → G a = gB G1 (x + 229) (mC K (x + 229) nwI (fun _ => 0) 0 0 (fun _ => 0) 0) a := fun a ha => by
    rw [e, gset_n (by omega), gset_n (by omega)]
  refine ⟨h.move (fun a q1 q2 => ?_), ?_, ⟨fun _ => 0, ?_⟩, ⟨fun _ => 0, ?_⟩⟩
  · rw [ho a (by omega)]
    exact gB_out (by simp only [List.length_cons, List.length_nil]; omega)
  · have e2 : mdC K (x + 229) vI = mC K (x + 229) nwI (fun _ => 0) 0 0 (fun _ => 0) 0 := by
      show mC K (x + 229) nwI (fun _ => 0) (nI 0) 0 (fun _ => 0) 0 = _
      rw [nI_0]
    rw [e2]
    exact gB_move (gB_gB rfl) (fun a q1 q2 => ho a (by simp only [List.length_cons, List.length_nil] at q2; omega))
  · rw [e, gset_n (by omega)]
    exact gset_s _ _ _
  · rw [e]
    exact gset_s _ _ _
