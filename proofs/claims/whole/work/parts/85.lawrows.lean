/-! ===== the law: its script, its end, what its cases share ===== -/
def jScr (A : Nat → Prop) (E : jE) (b L : Nat) (xs : Nat → Int32) : Prop := match E with
  | (_, _, _, _, s, _, _, _, _, _, _) => va_X b L xs s s.heap ∧ b < s.heap.size ∧ ¬ A b
section JZ
variable {K : jK} {A : Nat → Prop} {E : jE} {own : String} {cc : ByteArray} {nL fr lo9 mc ms : Nat} {G : GH} {hs cells slots pc : Nat} {lo : List (Option Value)} {rest : List Value} {b L : Nat} {xs : Nat → Int32}
theorem j_sld (hE : jC K A E own cc nL fr lo9 mc ms) (hZ : jScr A E b L xs) {x : Int32} {j : Nat} (hx9 : x = nI j) (hj : j < L) (hL : L ≤ 2560) (hd : decode cc pc = .ok (.iaload, 1)) (kk : J K A E nL G hs cells slots (pc + 1) lo (.int (xs j) :: rest)) : J K A E nL G hs cells slots pc lo (.int x :: .ref b :: rest) := by
  obtain ⟨p, l, e, R, s, m, args, below, meth, c, Q⟩ := E
  obtain ⟨hx, hb, hml, hown, hlk, hts, hN, hA, hst, hR⟩ := hE
  obtain ⟨hX, hbl, hbA⟩ := hZ
  intro H locs ls hP hz hS hl
  subst hx9
  refine va_sld hx hb hX hbl hbA hS (i := nI j) (nI_in hj (by omega)) hd ?_
  rw [nI_clamp (by omega)]
  exact kk H locs ls hP hz hS hl
theorem j_slen (hE : jC K A E own cc nL fr lo9 mc ms) (hZ : jScr A E b L xs) (hd : decode cc pc = .ok (.arraylength, 1)) (kk : J K A E nL G hs cells slots (pc + 1) lo (.int (nI L) :: rest)) : J K A E nL G hs cells slots pc lo (.ref b :: rest) := by
  obtain ⟨p, l, e, R, s, m, args, below, meth, c, Q⟩ := E
  obtain ⟨hx, hb, hml, hown, hlk, hts, hN, hA, hst, hR⟩ := hE
  obtain ⟨hX, hbl, hbA⟩ := hZ
  intro H locs ls hP hz hS hl
  exact va_slen hx hb hX hbl hbA hS hd (kk H locs ls hP hz hS hl)
end JZ
theorem lwOk.m0 {K : jK} {G : GH} {x : Nat} {c : FcV} {v : MdV} (h : lwOk K G x c v) : G (x + 229) = some (.inr (6, [.ref (x + 229 + 1), .ref (x + 229 + 2), .int (nI v.2.2.1), .int v.2.2.2.1, .ref (x + 229 + 3), .long v.2.2.2.2.2])) := (congrFun h.2.1 (x + 229)).symm.trans gB_0
theorem lw_thrown {K : jK} {G : GH} {x hs : Nat} {c : FcV} {v : MdV} (h : lwOk K G x c v) : ∀ l : Launch, l.stackTraces = false → Ct l K yX6_thrown cX6_thrown 1 (some .int) 0 0 0 0 [.ref (x + 229)] G hs (pI (fun r G' _ => r = v.2.2.2.1 ∧ G' = G)) jno := fun l hl =>
  Ct.mono (Ct.at h.2.1 (c_X6_thrown hl K G (x + 229) hs v.1 v.2.1 (nI v.2.2.1) v.2.2.2.1 v.2.2.2.2.1 v.2.2.2.2.2)) (fun z G' h9 q => by
    obtain ⟨r, e, e1, e2⟩ := q
    exact ⟨r, e, e1, e2.trans h.2.1⟩) (fun _ _ h => h)
abbrev lwL (b x i : Nat) : List (Option Value) := [some (.ref b), some (.ref x), some (.ref (x + 229)), some (.ref (x + 233)), some (.ref (x + 234)), some (.int (nI i)), none, none, none]
theorem lwL_less {b x i : Nat} {w1 w2 w3 : Option Value} : ∀ (j : Nat) (v : Value), (lwL b x i)[j]? = some (some v) → ([some (.ref b), some (.ref x), some (.ref (x + 229)), some (.ref (x + 233)), some (.ref (x + 234)), some (.int (nI i)), w1, w2, w3] : List (Option Value))[j]? = some (some v)
  | 0, _, h => h
  | 1, _, h => h
  | 2, _, h => h
  | 3, _, h => h
  | 4, _, h => h
  | 5, _, h => h
  | 6, _, h => by cases h
  | 7, _, h => by cases h
  | 8, _, h => by cases h
  | _ + 9, _, h => by cases h
/-- behind a call: the law goes on at its step -/
def lwN (K : jK) (A : Nat → Prop) (E : jE) (b x cells slots i : Nat) : Prop := ∀ (c' : FcV) (v' : MdV) (G' : GH) (hs' : Nat), RelV c' v' → lwOk K G' x c' v' → J K A E 9 G' hs' (cells + 4) (slots + 24) 1453 (lwL b x i) []
/-- a call that answers true or false -/
def OpB (K : jK) (x : Nat) (H M : CtF) (c : FcV) (v : MdV) : Prop := ∃ (kk : Nat) (b : Bool) (c' : FcV) (v' : MdV), kk ≤ 3 ∧ RelV c' v' ∧ v'.2.2.2.1 = nI kk ∧
  (∀ l : Launch, l.stackTraces = false → ∀ G hs, lwOk K G x c v → H l G hs (pI (fun z G' _ => z = nI kk ∧ lwOk K G' x c' v ∧ ∃ f, G' (x + 233) = some (lA K 1 f) ∧ (kk = 0 → f 0 = (jb b).toInt64)))) ∧
  (∀ l : Launch, l.stackTraces = false → ∀ G hs, lwOk K G x c' v → M l G hs (pI (fun z G' _ => z = jb b ∧ G' = gB G (x + 229) (mdC K (x + 229) v'))))
theorem opB_hasAlarm_ok {K : jK} {x : Nat} {c : FcV} {v : MdV} (p0 : Int32) (b : Bool) (c' : FcV) (v' : MdV) (hR : RelV c' v') (ht : v'.2.2.2.1 = nI 0) (hM : ∀ l : Launch, l.stackTraces = false → ∀ G hs, fcT K G x c → Ct l K yX5_hasAlarm cX5_hasAlarm 2 (some .boolean) 8 124 1 6 [.ref x, .int p0] G hs (pI (fun z G' _ => z = jb b ∧ fcT K G' x c' ∧ fO x G G')) jno) (hm : ∀ l : Launch, l.stackTraces = false → ∀ F hs, Ct l K yX6_hasAlarm cX6_hasAlarm 2 (some .boolean) 3 65 0 0 [.ref (x + 229), .int p0] (gB F (x + 229) (mdC K (x + 229) v)) hs (pI (fun z G' _ => z = jb b ∧ G' = gB F (x + 229) (mdC K (x + 229) v'))) jno) :
    OpB K x (fun l G hs post => CtW l K yL_hasAlarm cL_hasAlarm 4 (some .int) [(0, 16, 19, 24)] 9 145 1 6 [.ref x, .int p0, .ref (x + 233)] G hs post) (fun l G hs post => Ct l K yX6_hasAlarm cX6_hasAlarm 2 (some .boolean) 3 65 0 0 [.ref (x + 229), .int p0] G hs post jno) c v := by
  refine ⟨0, b, c', v', by omega, hR, ht, fun l hl G hs hw => ?_, fun l hl G hs hw => Ct.at hw.2.1 (hm l hl G hs)⟩
  have hw0 := hw
  obtain ⟨h1, h2, ⟨f, h3⟩, ⟨f2, h4⟩⟩ := hw
  refine CtW.mono (c_L_hasAlarm_ok hl K G hs x (x + 233) _ p0 h1.f0 f b (fun G' => fcT K G' x c' ∧ fO x G G') (fun G' h => (h.2 _ (by omega)).trans h3) (fun l hl => hM l hl G hs h1)) ?_
  rintro z G' h ⟨z9, e, rfl, G1, ⟨q1, q2⟩, e2⟩
  obtain ⟨a1, a2⟩ := lwOk.ou (hw0.cl q1 q2) e2
  exact ⟨_, e, rfl, a1, _, a2, (fun _ => by cases b <;> exact updL_0 _ _)⟩
theorem opB_hasAlarm_q {K : jK} {x : Nat} {c : FcV} {v : MdV} (p0 : Int32) (b : Bool) (v' : MdV) (hR : RelV c v') (ht : v'.2.2.2.1 = nI 0) (hM : ∀ l : Launch, l.stackTraces = false → ∀ G hs, fcT K G x c → Ct l K yX5_hasAlarm cX5_hasAlarm 2 (some .boolean) 8 124 1 6 [.ref x, .int p0] G hs (pI (fun z G' _ => z = jb b ∧ G' = G)) jno) (hm : ∀ l : Launch, l.stackTraces = false → ∀ F hs, Ct l K yX6_hasAlarm cX6_hasAlarm 2 (some .boolean) 3 65 0 0 [.ref (x + 229), .int p0] (gB F (x + 229) (mdC K (x + 229) v)) hs (pI (fun z G' _ => z = jb b ∧ G' = gB F (x + 229) (mdC K (x + 229) v'))) jno) :
    OpB K x (fun l G hs post => CtW l K yL_hasAlarm cL_hasAlarm 4 (some .int) [(0, 16, 19, 24)] 9 145 1 6 [.ref x, .int p0, .ref (x + 233)] G hs post) (fun l G hs post => Ct l K yX6_hasAlarm cX6_hasAlarm 2 (some .boolean) 3 65 0 0 [.ref (x + 229), .int p0] G hs post jno) c v :=
  opB_hasAlarm_ok p0 b c v' hR ht (fun l hl G hs hc => Ct.mono (hM l hl G hs hc) (fun z G' h q => by
    obtain ⟨z9, e, e1, rfl⟩ := q
    exact ⟨z9, e, e1, hc, fO.rf⟩) (fun _ _ h => h)) hm
theorem opB_hasAlarm_x1 {K : jK} {x : Nat} {c : FcV} {v : MdV} (p0 : Int32) (hR : RelV c v) (hM : ∀ l : Launch, l.stackTraces = false → ∀ G hs, fcT K G x c → Ct l K yX5_hasAlarm cX5_hasAlarm 2 (some .boolean) 8 124 1 6 [.ref x, .int p0] G hs (pI (fun _ _ _ => False)) (fun X G' => X = jIX ∧ G' = G)) (hm : ∀ l : Launch, l.stackTraces = false → ∀ F hs, Ct l K yX6_hasAlarm cX6_hasAlarm 2 (some .boolean) 3 65 0 0 [.ref (x + 229), .int p0] (gB F (x + 229) (mdC K (x + 229) v)) hs (pI (fun z G' _ => z = jb false ∧ G' = gB F (x + 229) (mdC K (x + 229) (v.1, v.2.1, v.2.2.1, nI 1, v.2.2.2.2.1, v.2.2.2.2.2)))) jno) :
    OpB K x (fun l G hs post => CtW l K yL_hasAlarm cL_hasAlarm 4 (some .int) [(0, 16, 19, 24)] 9 145 1 6 [.ref x, .int p0, .ref (x + 233)] G hs post) (fun l G hs post => Ct l K yX6_hasAlarm cX6_hasAlarm 2 (some .boolean) 3 65 0 0 [.ref (x + 229), .int p0] G hs post jno) c v := by
  refine ⟨1, false, c, (v.1, v.2.1, v.2.2.1, nI 1, v.2.2.2.2.1, v.2.2.2.2.2), by omega, hR, rfl, fun l hl G hs hw => ?_, fun l hl G hs hw => Ct.at hw.2.1 (hm l hl G hs)⟩
  have hw0 := hw
  obtain ⟨h1, h2, ⟨f, h3⟩, ⟨f2, h4⟩⟩ := hw
  refine CtW.mono (c_L_hasAlarm_x1 hl K G hs x (x + 233) _ p0 h1.f0 (fun l hl => hM l hl G hs h1)) ?_
  rintro z G' h ⟨z9, e, rfl, rfl⟩
  exact ⟨_, e, rfl, hw0, _, h3, fun q => absurd q (by omega)⟩
set_option maxRecDepth 100000 in
set_option maxHeartbeats 4000000 in
theorem OPB_hasAlarm {K : jK} {x : Nat} {c : FcV} {v : MdV} (hR : RelV c v) (p0 : Int32) : OpB K x (fun l G hs post => CtW l K yL_hasAlarm cL_hasAlarm 4 (some .int) [(0, 16, 19, 24)] 9 145 1 6 [.ref x, .int p0, .ref (x + 233)] G hs post) (fun l G hs post => Ct l K yX6_hasAlarm cX6_hasAlarm 2 (some .boolean) 3 65 0 0 [.ref (x + 229), .int p0] G hs post jno) c v := by
  obtain ⟨n, q, cnt, nw, ⟨w, m, pl, tk, ow, P, pc, nx, bits, nb, rc, md⟩, S, d⟩ := c
  obtain ⟨now, past, kept, thrown, drawn, hash⟩ := v
  have hrow : rowR now (w, m, pl, tk, ow, P, pc, nx, bits, nb, rc, md) := hR.1
  have hpast : pastR past kept S nw := hR.2.1
  have hcnt : cnt = kept := hR.2.2.1
  subst hcnt
  have hk : cnt ≤ 4 := hR.2.2.2.1
  have hnw : nw < 4 := hR.2.2.2.2
  obtain ⟨⟨e0, e1, e2, e3, e4, e5, e6, hw6, hw9, hmo, hpc, hnx, hnb, hmd⟩, hpar, hly, hch, hrc⟩ := hrow
  rcases ix_cases p0 pc with ⟨j, hj, rfl⟩ | hbad
  · obtain ⟨h0, h1, h2, h3, h4, h5, h6, h7, h8, h9⟩ := hpar j hj
    exact opB_hasAlarm_q _ (P j).2.2.2.2.2.2.2.1 (now, past, cnt, nI 0, drawn, hash) hR rfl (fun l hl G hs hc => c_X5_hasAlarm_t hl K _ _ _ _ _ _ _ _ _ _ _ _ _ _ _ _ _ _ _ _ _ hc hpc j hj) (fun l hl F hs => c_X6_hasAlarm_t hl K F (x + 229) hs now past (nI cnt) thrown drawn hash pc j e2 hpc hj _ h6)
  · exact opB_hasAlarm_x1 _ hR (fun l hl G hs hc => c_X5_hasAlarm_f hl K _ _ _ _ _ _ _ _ _ _ _ _ _ _ _ _ _ _ _ _ _ hc hpc p0 hbad) (fun l hl F hs => c_X6_hasAlarm_f hl K F (x + 229) hs now past (nI cnt) thrown drawn hash pc p0 e2 hpc hbad)
