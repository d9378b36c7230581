/-! ===== methods with handlers ===== -/
def CtW (l : Launch) (K : jK) (y : MethodName) (cc : ByteArray) (nL : Nat) (ret : Option FieldType) (hh : List (Nat × Nat × Nat × Nat)) (fr lo mc ms : Nat) (args : List Value) (G : GH) (hs : Nat) (post : Option Value → GH → Nat → Prop) : Prop :=
  Met l y (Cond.codeWith y cc nL ret hh :: jW) { frames := fr, cells := mc, slots := ms, locals := lo } (va_Pc args (fun U => U.heap.size = hs ∧ gP K.1 (gA G hs) G U.heap ∧ gN K (gA G hs) U)) (gQ K (gA G hs) post) mc ms (gA G hs)
def jTab (E : jE) (hh : List (Nat × Nat × Nat × Nat)) : Prop := match E with | (_, _, _, _, _, _, _, _, _, c, _) => c.exceptionTable.toList = tableOf hh
theorem CtW.of {l : Launch} {K : jK} {y : MethodName} {cc : ByteArray} {nL : Nat} {ret : Option FieldType} {hh : List (Nat × Nat × Nat × Nat)} {fr lo mc ms : Nat} {args : List Value} {G : GH} {hs : Nat} {post : Option Value → GH → Nat → Prop} (hl : l.stackTraces = false) (hy : plainName y.cls = true) (hn : (lg_sl args).length ≤ nL) {L0 : List (Option Value)} (hL0 : ∀ (i : Nat) (v : Value), L0[i]? = some (some v) → (jsl args)[i]? = some (some v))
    (h : ∀ A E, jC K A E y.cls cc nL fr lo mc ms → jQ K A E ret mc ms post jno → jTab E hh → J K A E nL G hs 0 0 0 L0 []) : CtW l K y cc nL ret hh fr lo mc ms args G hs post := by
  have hX : vx_Met l y (Cond.codeWith y cc nL ret hh :: jW) { frames := fr, cells := mc, slots := ms, locals := lo } (va_Pc args (fun U => U.heap.size = hs ∧ gP K.1 (gA G hs) G U.heap ∧ gN K (gA G hs) U)) (gQ K (gA G hs) post) (gX K (gA G hs) jno) mc ms (gA G hs) := by
    refine vx_ofWH (cc := cc) (maxL := nL) (ret := ret) (hh := hh) hy rfl ?_
    intro p e s m as below meth c s₁ B hml hv
    obtain ⟨rfl, hsz, hP, hN⟩ := hv
    have hts := atoms_spec (ws := Cond.codeWith y cc nL ret hh :: jW) B.pre
    have hown : s.vm.findClass y.cls = some m.cls := findClass_of_methodNamed B.named
    have hv0 := lv_entry args (n := nL) hn
    rw [lg_entry_eq]
    have key := h (gA G hs) (p, l, e, _, s, m, args.toArray, below, meth, c, vx_MQ below (gQ K (gA G hs) post) (gX K (gA G hs) jno) args.toArray s mc ms (gA G hs)) ⟨B.exec, B.bytes, hml, hown, B.notSynchronized, fun w hw => hts w (List.mem_cons_of_mem _ hw), hN, fun q hq => Or.inr (by rw [← hsz]; exact hq), hl, rfl⟩ ⟨B.returns, rfl⟩ (vx_table (x := y) B (hts _ List.mem_cons_self))
    exact key s.heap [] _ hP hsz va_S.rf (jlv.sub hv0 (fun i v hi => by
      have := jsl_args args 0 i v (hL0 i v hi)
      rwa [Nat.zero_add] at this))
  intro p e ha hf hc s m as below h1 h2 h3 h4
  obtain ⟨n, o, b1, b2, b3, b4⟩ := hX p e ha hf hc s m as below h1 h2 h3 h4
  refine ⟨n, o, b1, b2, b3, ?_⟩
  rcases b4 with b | ⟨q, -, X, ce, L, ⟨⟨G9, hx, -⟩, -⟩, -⟩
  · exact b
  · exact hx.elim
theorem CtW.mono {l : Launch} {K : jK} {y : MethodName} {cc : ByteArray} {nL : Nat} {ret : Option FieldType} {hh : List (Nat × Nat × Nat × Nat)} {fr lo mc ms : Nat} {args : List Value} {G : GH} {hs : Nat} {post post' : Option Value → GH → Nat → Prop} (h : CtW l K y cc nL ret hh fr lo mc ms args G hs post) (hp : ∀ v G h, post v G h → post' v G h) : CtW l K y cc nL ret hh fr lo mc ms args G hs post' := by
  intro p e ha hf hc s m as below h1 h2 h3 h4
  obtain ⟨n, o, b1, b2, b3, ⟨⟨v, G, e1, e2, e3⟩, hF⟩, b⟩ := h p e ha hf hc s m as below h1 h2 h3 h4
  exact ⟨n, o, b1, b2, b3, ⟨⟨v, G, e1, hp _ _ _ e2, e3⟩, hF⟩, b⟩
def jSW (own : String) (idx : Nat) (y : MethodName) (cc : ByteArray) (maxL : Nat) (ret : Option FieldType) (hh : List (Nat × Nat × Nat × Nat)) (n : Nat) : Prop := Cond.methodLink own idx y ∈ jW ∧ Cond.static y ∈ jW ∧ Cond.initialized y.cls ∈ jW ∧ Cond.codeWith y cc maxL ret hh ∈ jW ∧ (y.cls ≠ "java/lang/invoke/MethodHandle" ∧ y.cls ≠ "java/lang/invoke/VarHandle") ∧ (parseMethodDescriptor y.desc).map (fun d => d.parameters.length) = some n
section JW9
variable {K : jK} {A : Nat → Prop} {E : jE} {own : String} {cc : ByteArray} {nL fr lo9 mc ms : Nat} {G : GH} {hs cells slots pc : Nat} {lo : List (Option Value)} {rest st0 : List Value}
/-- caught by a row of the table; the rows ahead name other classes -/
theorem j_catch (hE : jC K A E own cc nL fr lo9 mc ms) {hh : List (Nat × Nat × Nat × Nat)} (hT : jTab E hh) {X name : String} (pre : List ((Nat × Nat × Nat × Nat) × String)) (x : Nat × Nat × Nat × Nat) (suf : List (Nat × Nat × Nat × Nat)) (hsplit : hh = pre.map (fun z => z.1) ++ x :: suf)
    (hpass : ∀ z ∈ pre, z.1.2.2.2 ≠ 0 ∧ Cond.classLink own z.1.2.2.2 z.2 ∈ jW ∧ (X, z.2) ∈ jNot) (hx : covers ⟨x.1, x.2.1, x.2.2.1, x.2.2.2⟩ pc = true) (h0 : x.2.2.2 ≠ 0) (hlink : Cond.classLink own x.2.2.2 name ∈ jW) (hcast : (X, name) ∈ jCast)
    (kk : ∀ (hs : Nat) (q : Nat), J K A E nL G hs cells slots x.2.2.1 lo [.ref q]) : JX K A E nL G cells slots pc lo rest X := by
  obtain ⟨p, l, e, R, s, m, args, below, meth, c, Q⟩ := E
  obtain ⟨hx9, hb, hml, hown, hlk, hts, hN, hA, hst, hR⟩ := hE
  intro H locs ls q ce hP hS hl hce hcv hcl
  refine vx_catch hown (tableOf (pre.map (fun z => z.1))) ⟨x.1, x.2.1, x.2.2.1, x.2.2.2⟩ (tableOf suf) ?_ (fun z hz => ?_) hx h0 (hts _ hlink) (va_Nw.use rfl (hN.2.2.2.1 _ hcast)) hce hcv hcl (kk H.size q H locs ls hP rfl hS hl)
  · rw [show c.exceptionTable.toList = tableOf hh from hT, hsplit]
    unfold tableOf
    rw [List.map_append, List.map_cons]
  · unfold tableOf at hz
    rw [List.map_map] at hz
    obtain ⟨w, hw, rfl⟩ := List.mem_map.mp hz
    obtain ⟨g1, g2, g3⟩ := hpass w hw
    exact Or.inr ⟨g1, w.2, hts _ g2, hN.2.2.2.2.1 _ g3⟩
theorem j_callSW (hE : jC K A E own cc nL fr lo9 mc ms) {idx : Nat} {y : MethodName} {cc' : ByteArray} {maxL : Nat} {ret : Option FieldType} {hh : List (Nat × Nat × Nat × Nat)} {n fr' lo' mc' ms' : Nat} {As : List Value} {post : Option Value → GH → Nat → Prop} (hV : jSW own idx y cc' maxL ret hh n)
    (hM : ∀ l, l.stackTraces = false → CtW l K y cc' maxL ret hh fr' lo' mc' ms' As G hs post) (hn : As.length = n) (hst0 : st0 = As.reverse ++ rest) (hrs : (rest.map fun v => v.category).sum ≤ 8) (hfr : fr' + 1 ≤ fr) (hlo : 8 + (maxL + 11) + lo' ≤ lo9) (hc9 : cells + mc' ≤ mc) (hs9 : slots + ms' ≤ ms) (hd : decode cc pc = .ok (.invokestatic idx, 3))
    (kk : ∀ (v : Option Value) (G' : GH) (hs' : Nat), post v G' hs' → J K A E nL G' hs' (cells + mc') (slots + ms') (pc + 3) lo (v.toList ++ rest)) : J K A E nL G hs cells slots pc lo st0 := by
  refine j_backM hE (mc' := mc') (ms' := ms') (aa := As.toArray) ?_ kk
  obtain ⟨p, l, e, R, s, m, args, below, meth, c, Q⟩ := E
  obtain ⟨hx, hb, hml, hown, hlk, hts, hN, hA, hst, hR⟩ := hE
  obtain ⟨h1, h2, h3, h4, h5, h6⟩ := hV
  intro H locs ls hP hz hS hl
  subst hR
  have hg : GoodIn jW (va_wsS own idx y (Cond.codeWith y cc' maxL ret hh :: jW)) := fun w hw => by
    have hw2 : w ∈ jW := by
      unfold va_wsS at hw
      rcases List.mem_append.mp hw with q | q
      · rcases List.mem_cons.mp q with rfl | q
        · exact h1
        · rcases List.mem_cons.mp q with rfl | q
          · exact h2
          · rw [List.mem_singleton.mp q]; exact h3
      · rcases List.mem_cons.mp q with rfl | q
        · exact h4
        · exact q
    exact ⟨hw2, jW_good _ hw2⟩
  exact vx_runSW ⟨hx, hb, hml, hown, hts⟩ (hM l hst) (vx_cwSW n hts hg rfl rfl rfl ⟨h5.1, h5.2, h6⟩ ⟨hfr, hlo⟩) ⟨gA_blind, j_pre hP hz hS hA hN⟩ rfl hn hl.1 hst0 (lv_room hrs) hd ⟨hc9, hs9⟩
theorem j_cSWi (hE : jC K A E own cc nL fr lo9 mc ms) {idx : Nat} {y : MethodName} {cc' : ByteArray} {maxL : Nat} {ret : Option FieldType} {hh : List (Nat × Nat × Nat × Nat)} {n fr' lo' mc' ms' : Nat} {As : List Value} {p : Int32 → GH → Nat → Prop} (hV : jSW own idx y cc' maxL ret hh n)
    (hM : ∀ l, l.stackTraces = false → CtW l K y cc' maxL ret hh fr' lo' mc' ms' As G hs (pI p)) (hn : As.length = n) (hst0 : st0 = As.reverse ++ rest) (hrs : (rest.map fun v => v.category).sum ≤ 8) (hfr : fr' + 1 ≤ fr) (hlo : 8 + (maxL + 11) + lo' ≤ lo9) (hc9 : cells + mc' ≤ mc) (hs9 : slots + ms' ≤ ms) (hd : decode cc pc = .ok (.invokestatic idx, 3))
    (kk : ∀ (r : Int32) (G' : GH) (hs' : Nat), p r G' hs' → J K A E nL G' hs' (cells + mc') (slots + ms') (pc + 3) lo (.int r :: rest)) : J K A E nL G hs cells slots pc lo st0 :=
  j_callSW hE hV hM hn hst0 hrs hfr hlo hc9 hs9 hd (fun v G' hs' h => by
    obtain ⟨r, rfl, h⟩ := h
    exact kk r G' hs' h)
end JW9
theorem lkA : Cond.classLink RL 13 jIA ∈ jW := jW_all [Cond.classLink RL 13 jIA] (by decide +kernel) _ (List.mem_cons_self ..)
theorem lkS : Cond.classLink RL 19 jIS ∈ jW := jW_all [Cond.classLink RL 19 jIS] (by decide +kernel) _ (List.mem_cons_self ..)
theorem lkX : Cond.classLink RL 24 jIX ∈ jW := jW_all [Cond.classLink RL 24 jIX] (by decide +kernel) _ (List.mem_cons_self ..)
theorem swL_86 : jSW RL 86 yL_setFrame cL_setFrame 5 (some .int) [(0, 10, 13, 13)] 4 := ⟨jW_tab 334 (by decide +kernel) (by decide +kernel), jW_tab 335 (by decide +kernel) (by decide +kernel), jW_tab 0 (by decide +kernel) (by decide +kernel), jW_tab 336 (by decide +kernel) (by decide +kernel), ⟨by decide, by decide⟩, by decide +kernel⟩
theorem swL_95 : jSW RL 95 yL_addParameter cL_addParameter 4 (some .int) [(0, 9, 12, 13), (0, 9, 15, 19)] 3 := ⟨jW_tab 421 (by decide +kernel) (by decide +kernel), jW_tab 422 (by decide +kernel) (by decide +kernel), jW_tab 0 (by decide +kernel) (by decide +kernel), jW_tab 423 (by decide +kernel) (by decide +kernel), ⟨by decide, by decide⟩, by decide +kernel⟩
theorem swL_103 : jSW RL 103 yL_samplesPerMajor cL_samplesPerMajor 4 (some .int) [(0, 9, 12, 24)] 3 := ⟨jW_tab 453 (by decide +kernel) (by decide +kernel), jW_tab 454 (by decide +kernel) (by decide +kernel), jW_tab 0 (by decide +kernel) (by decide +kernel), jW_tab 455 (by decide +kernel) (by decide +kernel), ⟨by decide, by decide⟩, by decide +kernel⟩
theorem swL_106 : jSW RL 106 yL_slot cL_slot 6 (some .int) [(0, 12, 15, 24), (0, 12, 19, 13), (0, 12, 23, 19)] 5 := ⟨jW_tab 484 (by decide +kernel) (by decide +kernel), jW_tab 485 (by decide +kernel) (by decide +kernel), jW_tab 0 (by decide +kernel) (by decide +kernel), jW_tab 486 (by decide +kernel) (by decide +kernel), ⟨by decide, by decide⟩, by decide +kernel⟩
theorem swL_110 : jSW RL 110 yL_ownerOf cL_ownerOf 5 (some .int) [(0, 10, 13, 24), (0, 10, 17, 19)] 4 := ⟨jW_tab 495 (by decide +kernel) (by decide +kernel), jW_tab 496 (by decide +kernel) (by decide +kernel), jW_tab 0 (by decide +kernel) (by decide +kernel), jW_tab 497 (by decide +kernel) (by decide +kernel), ⟨by decide, by decide⟩, by decide +kernel⟩
theorem swL_113 : jSW RL 113 yL_efficiency cL_efficiency 3 (some .int) [(0, 7, 10, 19)] 2 := ⟨jW_tab 503 (by decide +kernel) (by decide +kernel), jW_tab 504 (by decide +kernel) (by decide +kernel), jW_tab 0 (by decide +kernel) (by decide +kernel), jW_tab 505 (by decide +kernel) (by decide +kernel), ⟨by decide, by decide⟩, by decide +kernel⟩
theorem swL_117 : jSW RL 117 yL_setValue cL_setValue 5 (some .int) [(0, 10, 13, 24), (0, 10, 17, 13)] 4 := ⟨jW_tab 510 (by decide +kernel) (by decide +kernel), jW_tab 511 (by decide +kernel) (by decide +kernel), jW_tab 0 (by decide +kernel) (by decide +kernel), jW_tab 512 (by decide +kernel) (by decide +kernel), ⟨by decide, by decide⟩, by decide +kernel⟩
theorem swL_120 : jSW RL 120 yL_send cL_send 4 (some .int) [(0, 9, 12, 13), (0, 9, 15, 19)] 3 := ⟨jW_tab 517 (by decide +kernel) (by decide +kernel), jW_tab 518 (by decide +kernel) (by decide +kernel), jW_tab 0 (by decide +kernel) (by decide +kernel), jW_tab 519 (by decide +kernel) (by decide +kernel), ⟨by decide, by decide⟩, by decide +kernel⟩
theorem swL_127 : jSW RL 127 yL_bit cL_bit 4 (some .int) [(0, 9, 12, 24)] 3 := ⟨jW_tab 537 (by decide +kernel) (by decide +kernel), jW_tab 538 (by decide +kernel) (by decide +kernel), jW_tab 0 (by decide +kernel) (by decide +kernel), jW_tab 539 (by decide +kernel) (by decide +kernel), ⟨by decide, by decide⟩, by decide +kernel⟩
theorem swL_130 : jSW RL 130 yL_disturb cL_disturb 5 (some .int) [(0, 10, 13, 13), (0, 10, 17, 24), (0, 10, 21, 19)] 4 := ⟨jW_tab 544 (by decide +kernel) (by decide +kernel), jW_tab 545 (by decide +kernel) (by decide +kernel), jW_tab 0 (by decide +kernel) (by decide +kernel), jW_tab 546 (by decide +kernel) (by decide +kernel), ⟨by decide, by decide⟩, by decide +kernel⟩
theorem swL_133 : jSW RL 133 yL_receive cL_receive 4 (some .int) [(0, 9, 12, 13), (0, 9, 15, 19)] 3 := ⟨jW_tab 563 (by decide +kernel) (by decide +kernel), jW_tab 564 (by decide +kernel) (by decide +kernel), jW_tab 0 (by decide +kernel) (by decide +kernel), jW_tab 565 (by decide +kernel) (by decide +kernel), ⟨by decide, by decide⟩, by decide +kernel⟩
theorem swL_140 : jSW RL 140 yL_received cL_received 4 (some .int) [(0, 9, 12, 13)] 3 := ⟨jW_tab 625 (by decide +kernel) (by decide +kernel), jW_tab 626 (by decide +kernel) (by decide +kernel), jW_tab 0 (by decide +kernel) (by decide +kernel), jW_tab 627 (by decide +kernel) (by decide +kernel), ⟨by decide, by decide⟩, by decide +kernel⟩
theorem swL_143 : jSW RL 143 yL_sample cL_sample 4 (some .int) [(0, 9, 12, 24)] 3 := ⟨jW_tab 632 (by decide +kernel) (by decide +kernel), jW_tab 633 (by decide +kernel) (by decide +kernel), jW_tab 0 (by decide +kernel) (by decide +kernel), jW_tab 634 (by decide +kernel) (by decide +kernel), ⟨by decide, by decide⟩, by decide +kernel⟩
theorem swL_146 : jSW RL 146 yL_samples cL_samples 4 (some .int) [(0, 9, 12, 24)] 3 := ⟨jW_tab 639 (by decide +kernel) (by decide +kernel), jW_tab 640 (by decide +kernel) (by decide +kernel), jW_tab 0 (by decide +kernel) (by decide +kernel), jW_tab 641 (by decide +kernel) (by decide +kernel), ⟨by decide, by decide⟩, by decide +kernel⟩
theorem swL_149 : jSW RL 149 yL_setMode cL_setMode 4 (some .int) [(0, 9, 12, 13)] 3 := ⟨jW_tab 646 (by decide +kernel) (by decide +kernel), jW_tab 647 (by decide +kernel) (by decide +kernel), jW_tab 0 (by decide +kernel) (by decide +kernel), jW_tab 648 (by decide +kernel) (by decide +kernel), ⟨by decide, by decide⟩, by decide +kernel⟩
theorem swL_152 : jSW RL 152 yL_setLimits cL_setLimits 7 (some .int) [(0, 14, 17, 24), (0, 14, 21, 13)] 6 := ⟨jW_tab 653 (by decide +kernel) (by decide +kernel), jW_tab 654 (by decide +kernel) (by decide +kernel), jW_tab 0 (by decide +kernel) (by decide +kernel), jW_tab 655 (by decide +kernel) (by decide +kernel), ⟨by decide, by decide⟩, by decide +kernel⟩
theorem swL_156 : jSW RL 156 yL_setPersistence cL_setPersistence 5 (some .int) [(0, 10, 13, 24), (0, 10, 17, 13)] 4 := ⟨jW_tab 660 (by decide +kernel) (by decide +kernel), jW_tab 661 (by decide +kernel) (by decide +kernel), jW_tab 0 (by decide +kernel) (by decide +kernel), jW_tab 662 (by decide +kernel) (by decide +kernel), ⟨by decide, by decide⟩, by decide +kernel⟩
theorem swL_159 : jSW RL 159 yL_hasAlarm cL_hasAlarm 4 (some .int) [(0, 16, 19, 24)] 3 := ⟨jW_tab 667 (by decide +kernel) (by decide +kernel), jW_tab 668 (by decide +kernel) (by decide +kernel), jW_tab 0 (by decide +kernel) (by decide +kernel), jW_tab 669 (by decide +kernel) (by decide +kernel), ⟨by decide, by decide⟩, by decide +kernel⟩
theorem swL_162 : jSW RL 162 yL_alarms cL_alarms 4 (some .int) [(0, 9, 12, 24)] 3 := ⟨jW_tab 674 (by decide +kernel) (by decide +kernel), jW_tab 675 (by decide +kernel) (by decide +kernel), jW_tab 0 (by decide +kernel) (by decide +kernel), jW_tab 676 (by decide +kernel) (by decide +kernel), ⟨by decide, by decide⟩, by decide +kernel⟩
theorem swL_165 : jSW RL 165 yL_undo cL_undo 3 (some .int) [(0, 8, 11, 19)] 2 := ⟨jW_tab 681 (by decide +kernel) (by decide +kernel), jW_tab 682 (by decide +kernel) (by decide +kernel), jW_tab 0 (by decide +kernel) (by decide +kernel), jW_tab 683 (by decide +kernel) (by decide +kernel), ⟨by decide, by decide⟩, by decide +kernel⟩
