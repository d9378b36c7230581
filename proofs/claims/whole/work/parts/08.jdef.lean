/-! ===== the words that every method gets; what else holds at every call's start ===== -/
def jW : List Cond := lw_tbl.filter goodWord
theorem jW_good : ∀ w ∈ jW, (w.onTables && w.keeps) = true ∨ ∃ ty, w = .arrayClass ty := fun w h => good_of_word (List.mem_filter.mp h).2
theorem jW_tab {w : Cond} (i : Nat) (h : tables_1[i]? = some w) (g : goodWord w = true) : w ∈ jW := List.mem_filter.mpr ⟨List.mem_append_right _ (List.mem_of_getElem? h), g⟩
theorem jW_sel {w : Cond} (i : Nat) (h : (k2_sels lw_privs)[i]? = some w) (g : goodWord w = true) : w ∈ jW := List.mem_filter.mpr ⟨List.mem_append_left _ (List.mem_of_getElem? h), g⟩
abbrev jT (K : jK) : List (ClassId × FieldType) := [(K.2 0, .int), (K.2 1, .object "FrameCommutator$Parameter"), (K.2 2, .object "FrameCommutator$State"), (K.2 3, .long), (K.2 4, .double)]
/-- calls of a nest mate's private members -/
def jNest : List (String × Nat × MethodName × String) := [("FrameCommutator$State", 11, yX1_init, "FrameCommutator"), ("FrameCommutator$State", 33, yX0_init, "FrameCommutator"), ("FrameCommutator$State", 40, yX3_init, "FrameCommutator"), ("FrameCommutator$State", 48, yX2_init, "FrameCommutator"), ("FrameCommutator", 29, yX1_init, "FrameCommutator"), ("FrameCommutator$State", 117, yX5_mix, "FrameCommutator"), ("FrameCommutator$Parameter", 60, yX5_mix, "FrameCommutator"), ("FrameCommutator$Layout", 75, yX5_mix, "FrameCommutator"), ("FrameCommutator$Channel", 25, yX5_mix, "FrameCommutator"), ("FrameCommutator$Receiver", 65, yX5_mix, "FrameCommutator")]
def jDecl : List MethodName := [⟨"java/lang/RuntimeException", "<init>", "()V"⟩, ⟨"java/lang/RuntimeException", "<init>", "(Ljava/lang/String;)V"⟩, ⟨"java/lang/Exception", "<init>", "()V"⟩, ⟨"java/lang/Exception", "<init>", "(Ljava/lang/String;)V"⟩, ⟨"java/lang/Throwable", "<init>", "()V"⟩, ⟨"java/lang/Throwable", "<init>", "(Ljava/lang/String;)V"⟩]
abbrev jIA : String := "java/lang/IllegalArgumentException"
abbrev jIS : String := "java/lang/IllegalStateException"
abbrev jIX : String := "java/lang/IndexOutOfBoundsException"
def jCast : List (String × String) := [(jIA, jIA), (jIS, jIS), (jIX, jIX)]
def jNot : List (String × String) := [(jIA, jIS), (jIA, jIX), (jIS, jIA), (jIS, jIX), (jIX, jIA), (jIX, jIS)]
def jStr : List (Nat × String) := [(185, "an argument is out of range"), (192, "the call is not possible in this state"), (197, "there is nothing with this number")]
def gN (K : jK) (A : Nat → Prop) (U : State) : Prop :=
  va_K K.1 vwCl (jT K) U ∧ (∀ q ∈ jNest, va_Nw (.methodLinkNest q.1 q.2.1 q.2.2.1 q.2.2.2) U) ∧ (∀ q ∈ jDecl, va_Nw (.declares q) U) ∧ (∀ q ∈ jCast, va_Nw (.castable q.1 q.2) U) ∧ (∀ q ∈ jNot, va_Nc q.1 q.2 U) ∧
  va_AO "FrameCommutator$Parameter" U ∧ va_AO "FrameCommutator$State" U ∧ (∀ q ∈ jStr, ∃ a, vk_R "FrameCommutator" q.1 q.2 a U) ∧
  vx_Zq Bundle.tN "UNASSIGNED_STACK" Bundle.steD A U U.heap ∧ vx_Zq Bundle.tN "SUPPRESSED_SENTINEL" Bundle.listD A U U.heap
theorem gN.move {K : jK} {A B : Nat → Prop} {s U : State} (h : gN K A s) (hW : s.WarmedH U.vm) (hk : ∀ q : Nat, q < s.heap.size → ¬ A q → U.heap[q]? = s.heap[q]?) (hB : ∀ q, B q → A q) : gN K B U := by
  obtain ⟨h1, h2, h3, h4, h5, h6, h7, h8, h9, h10⟩ := h
  refine ⟨va_K.moved hW.alike h1, fun q hq => va_Nw.warmM hW (h2 q hq), fun q hq => va_Nw.warmD hW (h3 q hq), fun q hq => va_Nw.warmC hW (h4 q hq), fun q hq => (h5 q hq).moved hW.alike, h6.moved hW.alike, h7.moved hW.alike, fun q hq => ?_, ?_, ?_⟩
  · obtain ⟨a, ha⟩ := h8 q hq
    exact ⟨a, vk_R.warm hW ha⟩
  · exact ((h9.moved hW.alike).kept hk).narrow hB
  · exact ((h10.moved hW.alike).kept hk).narrow hB
theorem gN.calling {K : jK} {A : Nat → Prop} {U : State} (h : gN K A U) (g : JFrame) (mk : MethodId) (a : Array Value) : gN K A (U.calling g mk a) := by
  obtain ⟨h1, h2, h3, h4, h5, h6, h7, h8, h9, h10⟩ := h
  have hv : U.vm.Alike (U.calling g mk a).vm := Vm.Alike.refl U.vm
  refine ⟨va_K.moved hv h1, fun q hq => va_Nw.same rfl (rfl : U.vm = (U.calling g mk a).vm) (h2 q hq), fun q hq => va_Nw.same rfl (rfl : U.vm = (U.calling g mk a).vm) (h3 q hq), fun q hq => va_Nw.same rfl (rfl : U.vm = (U.calling g mk a).vm) (h4 q hq), fun q hq => (h5 q hq).moved hv, h6.moved hv, h7.moved hv, fun q hq => ?_, h9.moved hv, h10.moved hv⟩
  obtain ⟨b, hb⟩ := h8 q hq
  exact ⟨b, vk_R.same rfl hb⟩
/-! ===== the judgement ===== -/
abbrev jE : Type := Program × Launch × Env × Room × State × MethodId × Array Value × List Frame × Method × Code × (State → Prop)
def J (K : jK) (A : Nat → Prop) (E : jE) (nL : Nat) (G : GH) (hs cells slots pc : Nat) (lo : List (Option Value)) (st : List Value) : Prop := match E with
  | (p, l, e, R, s, m, args, below, meth, c, Q) => ∀ (H : Heap) (locs : List Loc) (ls : Array Slot), gP K.1 A G H → H.size = hs → va_S A s.heap H locs → jlv ls nL lo → W p l e R s m args below meth c H locs cells slots Q (F0 m pc ls st)
/-- the same with q, of the class X, thrown over the frame -/
def JX (K : jK) (A : Nat → Prop) (E : jE) (nL : Nat) (G : GH) (cells slots pc : Nat) (lo : List (Option Value)) (st : List Value) (X : String) : Prop := match E with
  | (p, l, e, R, s, m, args, below, meth, c, Q) => ∀ (H : Heap) (locs : List Loc) (ls : Array Slot) (q : Addr) (ce : Cell), gP K.1 A G H → va_S A s.heap H locs → jlv ls nL lo → H[q]? = some ce → ce.vm = .none → s.vm.findClass X = some ce.cls → vx_W p l e R s m args below meth c H locs cells slots Q (F0 m pc ls st) q
def jC (K : jK) (A : Nat → Prop) (E : jE) (own : String) (cc : ByteArray) (nL fr lo mc ms : Nat) : Prop := match E with
  | (p, l, _, R, s, m, args, _, meth, c, _) => p.tables.exec = Jvm.exec ∧ c.code = cc ∧ c.maxLocals = nL ∧ s.vm.findClass own = some m.cls ∧ meth.locks = false ∧ (∀ w ∈ jW, w.before args s = true) ∧ gN K A s ∧ (∀ q, s.heap.size ≤ q → A q) ∧ l.stackTraces = false ∧ R = { frames := fr, cells := mc, slots := ms, locals := lo }
def gQ (K : jK) (A : Nat → Prop) (post : Option Value → GH → Nat → Prop) : Array Value → State → Outcome → State → Prop := fun _ st oc t => (∃ (v : Option Value) (G : GH), oc = .returned v ∧ post v G t.heap.size ∧ gP K.1 A G t.heap) ∧ va_F A st t
def gX (K : jK) (A : Nat → Prop) (px : String → GH → Prop) : String → State → State → Prop := fun X st t => (∃ G : GH, px X G ∧ gP K.1 A G t.heap) ∧ va_F A st t
def jQ (K : jK) (A : Nat → Prop) (E : jE) (ret : Option FieldType) (mc ms : Nat) (post : Option Value → GH → Nat → Prop) (px : String → GH → Prop) : Prop := match E with
  | (_, _, _, _, s, _, args, below, meth, _, Q) => meth.sig.returnType = ret ∧ Q = vx_MQ below (gQ K A post) (gX K A px) args s mc ms A
def jNoX (E : jE) : Prop := match E with | (_, _, _, _, _, _, _, _, _, c, _) => ∀ x ∈ c.exceptionTable.toList, False
def jNm (E : jE) (n : String) : Prop := match E with | (_, _, _, _, _, _, _, _, meth, _, _) => meth.name = n
/-- a method's contract, from the ghost heap G of hs cells -/
def Ct (l : Launch) (K : jK) (y : MethodName) (cc : ByteArray) (nL : Nat) (ret : Option FieldType) (fr lo mc ms : Nat) (args : List Value) (G : GH) (hs : Nat) (post : Option Value → GH → Nat → Prop) (px : String → GH → Prop) : Prop :=
  vx_Met l y (Cond.code y cc nL ret :: jW) { frames := fr, cells := mc, slots := ms, locals := lo } (va_Pc args (fun U => U.heap.size = hs ∧ gP K.1 (gA G hs) G U.heap ∧ gN K (gA G hs) U)) (gQ K (gA G hs) post) (gX K (gA G hs) px) mc ms (gA G hs)
def jno : String → GH → Prop := fun _ _ => False
theorem Ct.of {l : Launch} {K : jK} {y : MethodName} {cc : ByteArray} {nL : Nat} {ret : Option FieldType} {fr lo mc ms : Nat} {args : List Value} {G : GH} {hs : Nat} {post : Option Value → GH → Nat → Prop} {px : String → GH → Prop} (hl : l.stackTraces = false) (hy : plainName y.cls = true) (hn : (lg_sl args).length ≤ nL) {L0 : List (Option Value)} (hL0 : ∀ (i : Nat) (v : Value), L0[i]? = some (some v) → (jsl args)[i]? = some (some v))
    (h : ∀ E, jC K (gA G hs) E y.cls cc nL fr lo mc ms → jQ K (gA G hs) E ret mc ms post px → jNoX E → jNm E y.name → J K (gA G hs) E nL G hs 0 0 0 L0 []) : Ct l K y cc nL ret fr lo mc ms args G hs post px := by
  refine vx_ofW (cc := cc) (maxL := nL) (ret := ret) hy rfl ?_
  intro p e s m as below meth c s₁ B hml hnx hv
  obtain ⟨rfl, hsz, hP, hN⟩ := hv
  have hts := atoms_spec (ws := Cond.code y cc nL ret :: jW) B.pre
  have hown : s.vm.findClass y.cls = some m.cls := findClass_of_methodNamed B.named
  have hin : meth.name = y.name := (name_of_methodNamed B.named B.method).1
  have hv0 := lv_entry args (n := nL) hn
  rw [lg_entry_eq]
  have key := h (p, l, e, _, s, m, args.toArray, below, meth, c, vx_MQ below (gQ K (gA G hs) post) (gX K (gA G hs) px) args.toArray s mc ms (gA G hs)) ⟨B.exec, B.bytes, hml, hown, B.notSynchronized, fun w hw => hts w (List.mem_cons_of_mem _ hw), hN, fun q hq => Or.inr (by rw [← hsz]; exact hq), hl, rfl⟩ ⟨B.returns, rfl⟩ hnx hin
  exact key s.heap [] _ hP hsz va_S.rf (jlv.sub hv0 (fun i v hi => by
    have := jsl_args args 0 i v (hL0 i v hi)
    rwa [Nat.zero_add] at this))
theorem Ct.met {l : Launch} {K : jK} {y : MethodName} {cc : ByteArray} {nL : Nat} {ret : Option FieldType} {fr lo mc ms : Nat} {args : List Value} {G : GH} {hs : Nat} {post : Option Value → GH → Nat → Prop} (h : Ct l K y cc nL ret fr lo mc ms args G hs post jno) :
    Met l y (Cond.code y cc nL ret :: jW) { frames := fr, cells := mc, slots := ms, locals := lo } (va_Pc args (fun U => U.heap.size = hs ∧ gP K.1 (gA G hs) G U.heap ∧ gN K (gA G hs) U)) (gQ K (gA G hs) post) mc ms (gA G hs) := by
  intro p e ha hf hc s m as below h1 h2 h3 h4
  obtain ⟨n, o, b1, b2, b3, b4⟩ := h p e ha hf hc s m as below h1 h2 h3 h4
  refine ⟨n, o, b1, b2, b3, ?_⟩
  rcases b4 with b | ⟨q, -, X, ce, L, ⟨⟨G9, hx, -⟩, -⟩, -⟩
  · exact b
  · exact hx.elim
theorem gA_blind {K : jK} {args : List Value} {G : GH} {hs : Nat} : FrameBlind (va_Pc args (fun U => U.heap.size = hs ∧ gP K.1 (gA G hs) G U.heap ∧ gN K (gA G hs) U)) := fun a U g mk q => by
  obtain ⟨q0, q1, qP, qN⟩ := q
  exact ⟨q0, q1, qP, qN.calling g mk a⟩
