/-! ===== calls, ends, throws ===== -/
section JC
variable {K : jK} {A : Nat → Prop} {E : jE} {own : String} {cc : ByteArray} {nL fr lo9 mc ms : Nat} {G : GH} {hs cells slots pc : Nat} {lo : List (Option Value)} {rest st0 : List Value}
theorem gA_sub {H : Heap} {H0 : Heap} {locs : List Loc} (hP : gP K.1 A G H) (hz : H.size = hs) (hS : va_S A H0 H locs) (hA : ∀ q, H0.size ≤ q → A q) : ∀ q, gA G hs q → A q := by
  intro q h
  rcases h with h | h
  · cases hg : G q with
    | none => exact absurd hg h
    | some e => exact hP.inA hg
  · exact hA q (Nat.le_trans hS.1 (by rw [hz]; exact h))
theorem gP_up {B : Nat → Prop} {G' : GH} {H : Heap} (hP : gP K.1 B G' H) (hB : ∀ q, B q → A q) : gP K.1 A G' H := hP.weaken (fun a ha => by
  cases hg : G' a with
  | none => exact absurd hg ha
  | some e => exact hB a (hP.inA hg))
theorem gP_self {H : Heap} (hP : gP K.1 A G H) : gP K.1 (gA G hs) G H := hP.weaken (fun _ h => Or.inl h)
/-- behind a call that may throw -/
theorem j_back (hE : jC K A E own cc nL fr lo9 mc ms) {mc' ms' : Nat} {aa : Array Value} {post : Option Value → GH → Nat → Prop} {px : String → GH → Prop}
    (hr : match E with | (p, l, e, R, s, m, args, below, meth, c, _) => ∀ (H : Heap) (locs : List Loc) (ls : Array Slot), gP K.1 A G H → H.size = hs → va_S A s.heap H locs → jlv ls nL lo → vx_Run p l e R s m args below meth c H locs cells slots mc' ms' (F0 m pc ls st0) rest (gQ K (gA G hs) post aa) (gX K (gA G hs) px) (gA G hs))
    (kk : ∀ (v : Option Value) (G' : GH) (hs' : Nat), post v G' hs' → J K A E nL G' hs' (cells + mc') (slots + ms') (pc + 3) lo (v.toList ++ rest)) (kx : ∀ (X : String) (G' : GH), px X G' → JX K A E nL G' (cells + mc') (slots + ms') pc lo rest X) : J K A E nL G hs cells slots pc lo st0 := by
  obtain ⟨p, l, e, R, s, m, args, below, meth, c, Q⟩ := E
  obtain ⟨hx, hb, hml, hown, hlk, hts, hN, hA, hst, hR⟩ := hE
  intro H locs ls hP hz hS hl
  have hsub := gA_sub hP hz hS hA
  intro T hT X
  rcases hr H locs ls hP hz hS hl T hT X with ⟨v, st₀, t, T', L, h0, X', hL, e1, e2, ⟨⟨v9, G', hv, hp, hP'⟩, hF⟩, st⟩ | ⟨q, st₀, t, T', L, Xn, ce, h0, X', hL, e1, e2, ⟨⟨G', hp, hP'⟩, hF⟩, hce, hcv, hcl, st⟩
  · cases hv
    obtain ⟨k1, k2, k3⟩ := vx_keep h0 e1 hS (fun q _ h => hsub q h) hsub hL hF
    obtain ⟨t2, a1, b1⟩ := kk v G' t.heap.size hp T'.heap (locs ++ L) ls (by rw [e1]; exact gP_up hP' hsub) (by rw [e1]) k3 hl T' rfl X'
    exact ⟨t2, st t2 a1, b1⟩
  · obtain ⟨k1, k2, k3⟩ := vx_keep h0 e1 hS (fun q _ h => hsub q h) hsub hL hF
    obtain ⟨t2, a1, b1⟩ := kx Xn G' hp T'.heap (locs ++ L) ls q ce (by rw [e1]; exact gP_up hP' hsub) k3 hl (by rw [e1]; exact hce) hcv hcl T' rfl X'
    exact ⟨t2, st.trans a1, b1⟩
theorem j_backM (hE : jC K A E own cc nL fr lo9 mc ms) {mc' ms' : Nat} {aa : Array Value} {post : Option Value → GH → Nat → Prop}
    (hr : match E with | (p, l, e, R, s, m, args, below, meth, c, _) => ∀ (H : Heap) (locs : List Loc) (ls : Array Slot), gP K.1 A G H → H.size = hs → va_S A s.heap H locs → jlv ls nL lo → va_Run p l e R s m args below meth c H locs cells slots mc' ms' (F0 m pc ls st0) rest (gQ K (gA G hs) post aa) (gA G hs))
    (kk : ∀ (v : Option Value) (G' : GH) (hs' : Nat), post v G' hs' → J K A E nL G' hs' (cells + mc') (slots + ms') (pc + 3) lo (v.toList ++ rest)) : J K A E nL G hs cells slots pc lo st0 := by
  obtain ⟨p, l, e, R, s, m, args, below, meth, c, Q⟩ := E
  obtain ⟨hx, hb, hml, hown, hlk, hts, hN, hA, hst, hR⟩ := hE
  intro H locs ls hP hz hS hl
  have hsub := gA_sub hP hz hS hA
  intro T hT X
  obtain ⟨v, st₀, t, T', L, h0, X', hL, e1, e2, ⟨⟨v9, G', hv, hp, hP'⟩, hF⟩, st⟩ := hr H locs ls hP hz hS hl T hT X
  cases hv
  obtain ⟨k1, k2, k3⟩ := vx_keep h0 e1 hS (fun q _ h => hsub q h) hsub hL hF
  obtain ⟨t2, a1, b1⟩ := kk v G' t.heap.size hp T'.heap (locs ++ L) ls (by rw [e1]; exact gP_up hP' hsub) (by rw [e1]) k3 hl T' rfl X'
  exact ⟨t2, st t2 a1, b1⟩
theorem j_pre {s : State} {H : Heap} {locs : List Loc} {av : List Value} (hP : gP K.1 A G H) (hz : H.size = hs) (hS : va_S A s.heap H locs) (hA : ∀ q, s.heap.size ≤ q → A q) (hN : gN K A s) : ∀ U : State, U.heap = H → s.WarmedH U.vm → va_Pc av (fun U => U.heap.size = hs ∧ gP K.1 (gA G hs) G U.heap ∧ gN K (gA G hs) U) av.toArray U := by
  intro U hU hW
  exact ⟨rfl, by rw [hU]; exact hz, by rw [hU]; exact gP_self hP, hN.move hW (fun q h1 h2 => by rw [hU]; exact hS.2.1 q h1 h2) (gA_sub hP hz hS hA)⟩
theorem j_callV (hE : jC K A E own cc nL fr lo9 mc ms) {idx ci : Nat} {y : MethodName} {cc' : ByteArray} {maxL : Nat} {ret : Option FieldType} {n fr' lo' mc' ms' : Nat} {b : Nat} {As : List Value} {fs : List Value} {post : Option Value → GH → Nat → Prop} {px : String → GH → Prop} (hV : jV own idx ci y cc' maxL ret n) (hG : G b = some (.inr (ci, fs)))
    (hM : ∀ l, l.stackTraces = false → Ct l K y cc' maxL ret fr' lo' mc' ms' (.ref b :: As) G hs post px) (hn : As.length = n) (hst0 : st0 = As.reverse ++ .ref b :: rest) (hrs : (rest.map fun v => v.category).sum ≤ 8) (hfr : fr' + 1 ≤ fr) (hlo : 8 + (maxL + 11) + lo' ≤ lo9) (hc9 : cells + mc' ≤ mc) (hs9 : slots + ms' ≤ ms) (hd : decode cc pc = .ok (.invokevirtual idx, 3))
    (kk : ∀ (v : Option Value) (G' : GH) (hs' : Nat), post v G' hs' → J K A E nL G' hs' (cells + mc') (slots + ms') (pc + 3) lo (v.toList ++ rest)) (kx : ∀ (X : String) (G' : GH), px X G' → JX K A E nL G' (cells + mc') (slots + ms') pc lo rest X) : J K A E nL G hs cells slots pc lo st0 := by
  refine j_back hE (mc' := mc') (ms' := ms') (aa := (Value.ref b :: As).toArray) ?_ kk kx
  obtain ⟨p, l, e, R, s, m, args, below, meth, c, Q⟩ := E
  obtain ⟨hx, hb, hml, hown, hlk, hts, hN, hA, hst, hR⟩ := hE
  obtain ⟨h1, h2, h3, h4, h5, ⟨T9, N9, h6⟩, h7, h8⟩ := hV
  intro H locs ls hP hz hS hl
  subst hR
  refine vx_runV (C := y.cls) ⟨hx, hb, hml, hown, hts⟩ (hM l hst) (cwV n hts (fun w hw => ?_) rfl rfl rfl ⟨rfl, h7.1, h7.2, h8⟩ ⟨hfr, hlo⟩) ⟨gA_blind, va_recv hN.1 (hP.p1 hG) h6 (q0 := 0) rfl, j_pre hP hz hS hA hN⟩ rfl hn hl.1 hst0 (lv_room hrs) hd ⟨hc9, hs9⟩
  have hw' : w ∈ jW := by
    simp only [wsV, List.mem_append, List.mem_cons, List.not_mem_nil, or_false] at hw
    rcases hw with (rfl | rfl | rfl | rfl) | rfl | hw
    · exact h1
    · exact h2
    · exact h3
    · exact h4
    · exact h5
    · exact hw
  exact ⟨hw', jW_good _ hw'⟩
theorem j_callS (hE : jC K A E own cc nL fr lo9 mc ms) {idx : Nat} {y : MethodName} {cc' : ByteArray} {maxL : Nat} {ret : Option FieldType} {n fr' lo' mc' ms' : Nat} {As : List Value} {post : Option Value → GH → Nat → Prop} {px : String → GH → Prop} (hV : jS own idx y cc' maxL ret n)
    (hM : ∀ l, l.stackTraces = false → Ct l K y cc' maxL ret fr' lo' mc' ms' As G hs post px) (hn : As.length = n) (hst0 : st0 = As.reverse ++ rest) (hrs : (rest.map fun v => v.category).sum ≤ 8) (hfr : fr' + 1 ≤ fr) (hlo : 8 + (maxL + 11) + lo' ≤ lo9) (hc9 : cells + mc' ≤ mc) (hs9 : slots + ms' ≤ ms) (hd : decode cc pc = .ok (.invokestatic idx, 3))
    (kk : ∀ (v : Option Value) (G' : GH) (hs' : Nat), post v G' hs' → J K A E nL G' hs' (cells + mc') (slots + ms') (pc + 3) lo (v.toList ++ rest)) (kx : ∀ (X : String) (G' : GH), px X G' → JX K A E nL G' (cells + mc') (slots + ms') pc lo rest X) : J K A E nL G hs cells slots pc lo st0 := by
  refine j_back hE (mc' := mc') (ms' := ms') (aa := As.toArray) ?_ kk kx
  obtain ⟨p, l, e, R, s, m, args, below, meth, c, Q⟩ := E
  obtain ⟨hx, hb, hml, hown, hlk, hts, hN, hA, hst, hR⟩ := hE
  obtain ⟨h1, h2, h3, h4, h5, h6⟩ := hV
  intro H locs ls hP hz hS hl
  subst hR
  exact vx_runS ⟨hx, hb, hml, hown, hts⟩ (hM l hst) ⟨callB_of n hts (jW_cons h4) rfl rfl rfl (hts _ h3) (hts _ h1) ⟨h5.1, h5.2, h6⟩ ⟨hfr, hlo⟩, hts _ h2⟩ ⟨gA_blind, j_pre hP hz hS hA hN⟩ rfl hn hl.1 hst0 (lv_room hrs) hd ⟨hc9, hs9⟩
theorem j_callSN (hE : jC K A E own cc nL fr lo9 mc ms) {idx : Nat} {y : MethodName} {cc' : ByteArray} {maxL : Nat} {ret : Option FieldType} {n fr' lo' mc' ms' : Nat} {As : List Value} {post : Option Value → GH → Nat → Prop} (hV : jSN own idx y cc' maxL ret n)
    (hM : ∀ l, l.stackTraces = false → Ct l K y cc' maxL ret fr' lo' mc' ms' As G hs post jno) (hn : As.length = n) (hst0 : st0 = As.reverse ++ rest) (hrs : (rest.map fun v => v.category).sum ≤ 8) (hfr : fr' + 1 ≤ fr) (hlo : 8 + (maxL + 11) + lo' ≤ lo9) (hc9 : cells + mc' ≤ mc) (hs9 : slots + ms' ≤ ms) (hd : decode cc pc = .ok (.invokestatic idx, 3))
    (kk : ∀ (v : Option Value) (G' : GH) (hs' : Nat), post v G' hs' → J K A E nL G' hs' (cells + mc') (slots + ms') (pc + 3) lo (v.toList ++ rest)) : J K A E nL G hs cells slots pc lo st0 := by
  refine j_backM hE (mc' := mc') (ms' := ms') (aa := As.toArray) ?_ kk
  obtain ⟨p, l, e, R, s, m, args, below, meth, c, Q⟩ := E
  obtain ⟨hx, hb, hml, hown, hlk, hts, hN, hA, hst, hR⟩ := hE
  obtain ⟨h1, h2, h3, h4, h5, h6⟩ := hV
  intro H locs ls hP hz hS hl
  subst hR
  exact va_runSN ⟨hx, hb, hml, hown, hts⟩ (hM l hst).met ⟨va_cnB (host := "FrameCommutator") n hts (jW_cons h4) rfl rfl rfl (hN.2.1 _ h1) (hts _ h3) ⟨h5.1, h5.2, h6⟩ ⟨hfr, hlo⟩, hts _ h2, trivial⟩ ⟨gA_blind, j_pre hP hz hS hA hN⟩ rfl hn hl.1 hst0 (lv_room hrs) hd ⟨hc9, hs9⟩
theorem j_callI (hE : jC K A E own cc nL fr lo9 mc ms) {idx : Nat} {y : MethodName} {cc' : ByteArray} {maxL : Nat} {n fr' lo' mc' ms' : Nat} {b : Nat} {As : List Value} {post : Option Value → GH → Nat → Prop} (hV : jI own idx y cc' maxL n)
    (hM : ∀ l, l.stackTraces = false → Ct l K y cc' maxL none fr' lo' mc' ms' (.ref b :: As) G hs post jno) (hn : As.length = n) (hst0 : st0 = As.reverse ++ .ref b :: rest) (hrs : (rest.map fun v => v.category).sum ≤ 8) (hfr : fr' + 1 ≤ fr) (hlo : 8 + (maxL + 11) + lo' ≤ lo9) (hc9 : cells + mc' ≤ mc) (hs9 : slots + ms' ≤ ms) (hd : decode cc pc = .ok (.invokespecial idx, 3))
    (kk : ∀ (v : Option Value) (G' : GH) (hs' : Nat), post v G' hs' → J K A E nL G' hs' (cells + mc') (slots + ms') (pc + 3) lo (v.toList ++ rest)) : J K A E nL G hs cells slots pc lo st0 := by
  refine j_backM hE (mc' := mc') (ms' := ms') (aa := (Value.ref b :: As).toArray) ?_ kk
  obtain ⟨p, l, e, R, s, m, args, below, meth, c, Q⟩ := E
  obtain ⟨hx, hb, hml, hown, hlk, hts, hN, hA, hst, hR⟩ := hE
  obtain ⟨h1, h2, h3, h4, h5, h6, h7⟩ := hV
  intro H locs ls hP hz hS hl
  subst hR
  exact va_runI ⟨hx, hb, hml, hown, hts⟩ (hM l hst).met (cwI n hts (jW_cons h4) rfl rfl rfl (hts _ h3) (hts _ h1) (hts _ h2) h5 ⟨h6.1, h6.2, h7⟩ ⟨hfr, hlo⟩) ⟨gA_blind, j_pre hP hz hS hA hN⟩ rfl hn hl.1 hst0 (lv_room hrs) hd ⟨hc9, hs9⟩
theorem j_callIN (hE : jC K A E own cc nL fr lo9 mc ms) {idx : Nat} {y : MethodName} {cc' : ByteArray} {maxL : Nat} {n fr' lo' mc' ms' : Nat} {b : Nat} {As : List Value} {post : Option Value → GH → Nat → Prop} (hV : jIN own idx y cc' maxL n)
    (hM : ∀ l, l.stackTraces = false → Ct l K y cc' maxL none fr' lo' mc' ms' (.ref b :: As) G hs post jno) (hn : As.length = n) (hst0 : st0 = As.reverse ++ .ref b :: rest) (hrs : (rest.map fun v => v.category).sum ≤ 8) (hfr : fr' + 1 ≤ fr) (hlo : 8 + (maxL + 11) + lo' ≤ lo9) (hc9 : cells + mc' ≤ mc) (hs9 : slots + ms' ≤ ms) (hd : decode cc pc = .ok (.invokespecial idx, 3))
    (kk : ∀ (v : Option Value) (G' : GH) (hs' : Nat), post v G' hs' → J K A E nL G' hs' (cells + mc') (slots + ms') (pc + 3) lo (v.toList ++ rest)) : J K A E nL G hs cells slots pc lo st0 := by
  refine j_backM hE (mc' := mc') (ms' := ms') (aa := (Value.ref b :: As).toArray) ?_ kk
  obtain ⟨p, l, e, R, s, m, args, below, meth, c, Q⟩ := E
  obtain ⟨hx, hb, hml, hown, hlk, hts, hN, hA, hst, hR⟩ := hE
  obtain ⟨h1, h2, h3, h4, h5, h6, h7⟩ := hV
  intro H locs ls hP hz hS hl
  subst hR
  exact va_runIN ⟨hx, hb, hml, hown, hts⟩ (hM l hst).met ⟨va_cnB (host := "FrameCommutator") n hts (jW_cons h4) rfl rfl rfl (hN.2.1 _ h1) (hts _ h3) ⟨h6.1, h6.2, h7⟩ ⟨hfr, hlo⟩, h5, hts _ h2⟩ ⟨gA_blind, j_pre hP hz hS hA hN⟩ rfl hn hl.1 hst0 (lv_room hrs) hd ⟨hc9, hs9⟩
theorem j_obj (hE : jC K A E own cc nL fr lo9 mc ms) {idx a : Nat} (h1 : Cond.methodLink own idx objectInit ∈ jW) (h2 : Cond.instanceMethod objectInit ∈ jW) (h3 : Cond.code objectInit ⟨#[0xb1]⟩ 1 none ∈ jW) (hfr : 1 ≤ fr) (hlo : (rest.map fun v => v.category).sum + 12 ≤ lo9) (hd : decode cc pc = .ok (.invokespecial idx, 3)) (kk : J K A E nL G hs cells slots (pc + 3) lo rest) : J K A E nL G hs cells slots pc lo (.ref a :: rest) := by
  obtain ⟨p, l, e, R, s, m, args, below, meth, c, Q⟩ := E
  obtain ⟨hx, hb, hml, hown, hlk, hts, hN, hA, hst, hR⟩ := hE
  intro H locs ls hP hz hS hl
  subst hR
  refine W.objInit hx hb hown (hts _ h1) (hts _ h2) (hts _ h3) rfl (by rw [hml]; exact hl.1) rfl hd hfr (by show 2 * 0 + _ + 12 ≤ lo9; omega) ?_
  exact kk H locs ls hP hz hS hl
/-! ends -/
theorem j_iret (hE : jC K A E own cc nL fr lo9 mc ms) {post : Option Value → GH → Nat → Prop} {px : String → GH → Prop} {v : Int32} {ty : FieldType} (hQ : jQ K A E (some ty) mc ms post px) (hn : narrow ty (.int v) = .int v) (hc9 : cells ≤ mc) (hs9 : slots ≤ ms) (hd : decode cc pc = .ok (.ireturn, 1)) (hp : post (some (.int v)) G hs) : J K A E nL G hs cells slots pc lo [.int v] := by
  obtain ⟨p, l, e, R, s, m, args, below, meth, c, Q⟩ := E
  obtain ⟨hx, hb, hml, hown, hlk, hts, hN, hA, hst, hR⟩ := hE
  obtain ⟨hr, hQ⟩ := hQ
  intro H locs ls hP hz hS hl
  subst hQ
  exact W.widen hc9 hs9 (vx_ret (W.zret hx hb hr hn (fun t ht hW => ⟨⟨_, G, rfl, by rw [ht, hz]; exact hp, by rw [ht]; exact hP⟩, hS.F ht⟩) hS.2.2 hd hlk))
theorem j_lret (hE : jC K A E own cc nL fr lo9 mc ms) {post : Option Value → GH → Nat → Prop} {px : String → GH → Prop} {v : Int64} (hQ : jQ K A E (some .long) mc ms post px) (hc9 : cells ≤ mc) (hs9 : slots ≤ ms) (hd : decode cc pc = .ok (.lreturn, 1)) (hp : post (some (.long v)) G hs) : J K A E nL G hs cells slots pc lo [.long v] := by
  obtain ⟨p, l, e, R, s, m, args, below, meth, c, Q⟩ := E
  obtain ⟨hx, hb, hml, hown, hlk, hts, hN, hA, hst, hR⟩ := hE
  obtain ⟨hr, hQ⟩ := hQ
  intro H locs ls hP hz hS hl
  subst hQ
  exact W.widen hc9 hs9 (vx_ret (W.lret hx hb hr (fun t ht hW => ⟨⟨_, G, rfl, by rw [ht, hz]; exact hp, by rw [ht]; exact hP⟩, hS.F ht⟩) hS.2.2 hd hlk))
theorem j_dret (hE : jC K A E own cc nL fr lo9 mc ms) {post : Option Value → GH → Nat → Prop} {px : String → GH → Prop} {v : UInt64} (hQ : jQ K A E (some .double) mc ms post px) (hc9 : cells ≤ mc) (hs9 : slots ≤ ms) (hd : decode cc pc = .ok (.dreturn, 1)) (hp : post (some (.double v)) G hs) : J K A E nL G hs cells slots pc lo [.double v] := by
  obtain ⟨p, l, e, R, s, m, args, below, meth, c, Q⟩ := E
  obtain ⟨hx, hb, hml, hown, hlk, hts, hN, hA, hst, hR⟩ := hE
  obtain ⟨hr, hQ⟩ := hQ
  intro H locs ls hP hz hS hl
  subst hQ
  exact W.widen hc9 hs9 (vx_ret (W.dret hx hb hr (fun t ht hW => ⟨⟨_, G, rfl, by rw [ht, hz]; exact hp, by rw [ht]; exact hP⟩, hS.F ht⟩) hS.2.2 hd hlk))
theorem j_aret (hE : jC K A E own cc nL fr lo9 mc ms) {post : Option Value → GH → Nat → Prop} {px : String → GH → Prop} {a : Nat} {C : String} (hQ : jQ K A E (some (.object C)) mc ms post px) (hc9 : cells ≤ mc) (hs9 : slots ≤ ms) (hd : decode cc pc = .ok (.areturn, 1)) (hp : post (some (.ref a)) G hs) : J K A E nL G hs cells slots pc lo [.ref a] := by
  obtain ⟨p, l, e, R, s, m, args, below, meth, c, Q⟩ := E
  obtain ⟨hx, hb, hml, hown, hlk, hts, hN, hA, hst, hR⟩ := hE
  obtain ⟨hr, hQ⟩ := hQ
  intro H locs ls hP hz hS hl
  subst hQ
  exact W.widen hc9 hs9 (vx_ret (W.aret hx hb hr (Or.inl ⟨_, rfl⟩) (Or.inr ⟨_, rfl⟩) (fun t ht hW => ⟨⟨_, G, rfl, by rw [ht, hz]; exact hp, by rw [ht]; exact hP⟩, hS.F ht⟩) hS.2.2 hd hlk))
theorem j_vret (hE : jC K A E own cc nL fr lo9 mc ms) {post : Option Value → GH → Nat → Prop} {px : String → GH → Prop} (hQ : jQ K A E none mc ms post px) (hc9 : cells ≤ mc) (hs9 : slots ≤ ms) (hd : decode cc pc = .ok (.return_, 1)) (hp : post none G hs) : J K A E nL G hs cells slots pc lo [] := by
  obtain ⟨p, l, e, R, s, m, args, below, meth, c, Q⟩ := E
  obtain ⟨hx, hb, hml, hown, hlk, hts, hN, hA, hst, hR⟩ := hE
  obtain ⟨hr, hQ⟩ := hQ
  intro H locs ls hP hz hS hl
  subst hQ
  exact W.widen hc9 hs9 (vx_ret (W.vret hx hb hr (fun t ht hW => ⟨⟨_, G, rfl, by rw [ht, hz]; exact hp, by rw [ht]; exact hP⟩, hS.F ht⟩) hS.2.2 hd hlk))
/-- not caught here -/
theorem j_out (hE : jC K A E own cc nL fr lo9 mc ms) (hX : jNoX E) {ret : Option FieldType} {post : Option Value → GH → Nat → Prop} {px : String → GH → Prop} {X : String} (hQ : jQ K A E ret mc ms post px) (hc9 : cells ≤ mc) (hs9 : slots ≤ ms) (hp : px X G) : JX K A E nL G cells slots pc lo rest X := by
  obtain ⟨p, l, e, R, s, m, args, below, meth, c, Q⟩ := E
  obtain ⟨hx, hb, hml, hown, hlk, hts, hN, hA, hst, hR⟩ := hE
  obtain ⟨hr, hQ⟩ := hQ
  intro H locs ls q ce hP hS hl hce hcv hcl
  subst hQ
  exact vx_out (fun x hx => (hX x hx).elim) hlk hce hcv hcl (fun t ht hW => ⟨⟨G, hp, by rw [ht]; exact hP⟩, hS.F ht⟩) hS.2.2 hc9 hs9
/-- what a 'throw new E("text")' needs -/
def jTh (own cls : String) (ik is ic : Nat) (text : String) : Prop := own = "FrameCommutator" ∧ (is, text) ∈ jStr ∧ Bundle.fit cls = true ∧ Cond.classLink own ik cls ∈ jW ∧ Cond.initialized cls ∈ jW ∧ (∀ w ∈ (vx_atS own ic cls ["java/lang/RuntimeException", "java/lang/Exception"]).filter goodWord, w ∈ jW) ∧ (∀ w ∈ (vx_atS own ic cls ["java/lang/RuntimeException", "java/lang/Exception"]).filter (fun w => !goodWord w), w ∈ jDecl.map Cond.declares) ∧ (∀ w ∈ Cond.classLink own ik cls :: Cond.initialized cls :: vx_atS own ic cls ["java/lang/RuntimeException", "java/lang/Exception"], vx_ot w = true)
theorem j_throw (hE : jC K A E own cc nL fr lo9 mc ms) (hX : jNoX E) {ret : Option FieldType} {post : Option Value → GH → Nat → Prop} {px : String → GH → Prop} (hQ : jQ K A E ret mc ms post px) {cls text : String} {ik is ic : Nat} (hT : jTh own cls ik is ic text) (hfr : 6 ≤ fr) (hlo : (rest.map fun v => v.category).sum + 82 ≤ lo9) (hc9 : cells + 1 ≤ mc) (hs9 : slots + 6 ≤ ms)
    (d0 : decode cc pc = .ok (.new ik, 3)) (d3 : decode cc (pc + 3) = .ok (.dup, 1)) (d4 : decode cc (pc + 4) = .ok (.ldc is, 2)) (d6 : decode cc (pc + 6) = .ok (.invokespecial ic, 3)) (d9 : decode cc (pc + 9) = .ok (.athrow, 1)) (hp : px cls G) : J K A E nL G hs cells slots pc lo rest := by
  obtain ⟨p, l, e, R, s, m, args, below, meth, c, Q⟩ := E
  obtain ⟨hx, hb, hml, hown, hlk, hts, hN, hA, hst, hR⟩ := hE
  obtain ⟨hr, hQ⟩ := hQ
  obtain ⟨rfl, t1, t2, t3, t4, t5, t6, t7⟩ := hT
  intro H locs ls hP hz hS hl
  subst hQ
  subst hR
  obtain ⟨n1, n2, n3, n4, n5, n6, n7, n8, n9, n10⟩ := hN
  obtain ⟨sa, hsa⟩ := n8 _ t1
  refine vx_throwS (A := A) (names := ["java/lang/RuntimeException", "java/lang/Exception"]) hx hb hst hown t2 (by decide) (hts _ t3) (hts _ t4) hsa (vx_hat (fun w hw => hts _ (t5 w hw)) t6 (fun w hw => ?_)) t7 n9 n10 hS (hl.1.trans hml.symm) d0 d3 d4 d6 d9 (fun x hx => (hX x hx).elim) (by show 2 + 3 < fr; omega) (by show _ + (13 * (2 + 1) + 43) ≤ lo9; omega) hc9 hs9 hlk (fun t h1 h2 h3 => ⟨⟨G, hp, hP.kept h3⟩, ⟨Nat.le_trans hS.1 h2, fun q g1 g2 => (h3 q (Nat.lt_of_lt_of_le g1 hS.1)).trans (hS.2.1 q g1 g2)⟩⟩) hS.2.2 hc9 hs9
  obtain ⟨q, hq, rfl⟩ := List.mem_map.mp hw
  exact va_Nw.use rfl (n3 q hq)
end JC
