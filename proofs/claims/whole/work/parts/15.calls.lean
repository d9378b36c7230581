/-! ===== posts by kind; calls by the kind of their answer; loops ===== -/
def pI (p : Int32 → GH → Nat → Prop) : Option Value → GH → Nat → Prop := fun v G h => ∃ r : Int32, v = some (.int r) ∧ p r G h
def pL (p : Int64 → GH → Nat → Prop) : Option Value → GH → Nat → Prop := fun v G h => ∃ r : Int64, v = some (.long r) ∧ p r G h
def pD (p : UInt64 → GH → Nat → Prop) : Option Value → GH → Nat → Prop := fun v G h => ∃ r : UInt64, v = some (.double r) ∧ p r G h
def pR (p : Nat → GH → Nat → Prop) : Option Value → GH → Nat → Prop := fun v G h => ∃ r : Nat, v = some (.ref r) ∧ p r G h
def pV (p : GH → Nat → Prop) : Option Value → GH → Nat → Prop := fun v G h => v = none ∧ p G h
theorem dloop (P : Nat → Prop) (N : Nat) (hs : ∀ i, i < N → P (i + 1) → P i) (he : P N) : ∀ i, i ≤ N → P i := by
  have key : ∀ k i, i + k = N → P i := by
    intro k
    induction k with
    | zero => intro i hi; rw [show i = N by omega]; exact he
    | succ k ih => intro i hi; exact hs i (by omega) (ih (i + 1) (by omega))
  exact fun i hi => key (N - i) i (by omega)
theorem jL_of {args : List Value} {L0 : List (Option Value)} (k : Nat) (h : L0 = jsl args ++ List.replicate k none) : ∀ (i : Nat) (v : Value), L0[i]? = some (some v) → (jsl args)[i]? = some (some v) := by
  intro i v hi
  rw [h] at hi
  by_cases hl : i < (jsl args).length
  · rwa [List.getElem?_append_left hl] at hi
  · rw [List.getElem?_append_right (by omega), List.getElem?_replicate] at hi
    split at hi
    · cases hi
    · cases hi
theorem Ct.mono {l : Launch} {K : jK} {y : MethodName} {cc : ByteArray} {nL : Nat} {ret : Option FieldType} {fr lo mc ms : Nat} {args : List Value} {G : GH} {hs : Nat} {post post' : Option Value → GH → Nat → Prop} {px px' : String → GH → Prop} (h : Ct l K y cc nL ret fr lo mc ms args G hs post px) (hp : ∀ v G h, post v G h → post' v G h) (hx : ∀ X G, px X G → px' X G) : Ct l K y cc nL ret fr lo mc ms args G hs post' px' := by
  intro p e ha hf hc s m as below h1 h2 h3 h4
  obtain ⟨n, o, b1, b2, b3, b4⟩ := h p e ha hf hc s m as below h1 h2 h3 h4
  refine ⟨n, o, b1, b2, b3, ?_⟩
  rcases b4 with ⟨⟨⟨v, G, e1, e2, e3⟩, hF⟩, b⟩ | ⟨q, hq, X, ce, L, ⟨⟨G9, hx9, hP⟩, hF⟩, b⟩
  · exact Or.inl ⟨⟨⟨v, G, e1, hp _ _ _ e2, e3⟩, hF⟩, b⟩
  · exact Or.inr ⟨q, hq, X, ce, L, ⟨⟨G9, hx _ _ hx9, hP⟩, hF⟩, b⟩
section JD
variable {K : jK} {A : Nat → Prop} {E : jE} {own : String} {cc : ByteArray} {nL fr lo9 mc ms : Nat} {G : GH} {hs cells slots pc : Nat} {lo : List (Option Value)} {rest st0 : List Value}
theorem j_cVi (hE : jC K A E own cc nL fr lo9 mc ms) {idx ci : Nat} {y : MethodName} {cc' : ByteArray} {maxL : Nat} {ret : Option FieldType} {n fr' lo' mc' ms' : Nat} {As : List Value} {b : Nat} {fs : List Value} {p : Int32 → GH → Nat → Prop} {px : String → GH → Prop} (hV : jV own idx ci y cc' maxL ret n) (hG : G b = some (.inr (ci, fs))) (hM : ∀ l : Launch, l.stackTraces = false → Ct l K y cc' maxL ret fr' lo' mc' ms' (.ref b :: As) G hs (pI p) px) (hn : As.length = n) (hst0 : st0 = As.reverse ++ .ref b :: rest) (hrs : (rest.map fun v => v.category).sum ≤ 8) (hfr : fr' + 1 ≤ fr) (hlo : 8 + (maxL + 11) + lo' ≤ lo9) (hc9 : cells + mc' ≤ mc) (hs9 : slots + ms' ≤ ms) (hd : decode cc pc = .ok (.invokevirtual idx, 3))
    (kk : ∀ (r : Int32) (G' : GH) (hs' : Nat), p r G' hs' → J K A E nL G' hs' (cells + mc') (slots + ms') (pc + 3) lo (.int r :: rest)) (kx : ∀ (X : String) (G' : GH), px X G' → JX K A E nL G' (cells + mc') (slots + ms') pc lo rest X) : J K A E nL G hs cells slots pc lo st0 :=
  j_callV hE hV hG hM hn hst0 hrs hfr hlo hc9 hs9 hd (fun v G' hs' h => by
    obtain ⟨r, rfl, h⟩ := h
    exact kk r G' hs' h) kx
theorem j_cVl (hE : jC K A E own cc nL fr lo9 mc ms) {idx ci : Nat} {y : MethodName} {cc' : ByteArray} {maxL : Nat} {ret : Option FieldType} {n fr' lo' mc' ms' : Nat} {As : List Value} {b : Nat} {fs : List Value} {p : Int64 → GH → Nat → Prop} {px : String → GH → Prop} (hV : jV own idx ci y cc' maxL ret n) (hG : G b = some (.inr (ci, fs))) (hM : ∀ l : Launch, l.stackTraces = false → Ct l K y cc' maxL ret fr' lo' mc' ms' (.ref b :: As) G hs (pL p) px) (hn : As.length = n) (hst0 : st0 = As.reverse ++ .ref b :: rest) (hrs : (rest.map fun v => v.category).sum ≤ 8) (hfr : fr' + 1 ≤ fr) (hlo : 8 + (maxL + 11) + lo' ≤ lo9) (hc9 : cells + mc' ≤ mc) (hs9 : slots + ms' ≤ ms) (hd : decode cc pc = .ok (.invokevirtual idx, 3))
    (kk : ∀ (r : Int64) (G' : GH) (hs' : Nat), p r G' hs' → J K A E nL G' hs' (cells + mc') (slots + ms') (pc + 3) lo (.long r :: rest)) (kx : ∀ (X : String) (G' : GH), px X G' → JX K A E nL G' (cells + mc') (slots + ms') pc lo rest X) : J K A E nL G hs cells slots pc lo st0 :=
  j_callV hE hV hG hM hn hst0 hrs hfr hlo hc9 hs9 hd (fun v G' hs' h => by
    obtain ⟨r, rfl, h⟩ := h
    exact kk r G' hs' h) kx
theorem j_cVd (hE : jC K A E own cc nL fr lo9 mc ms) {idx ci : Nat} {y : MethodName} {cc' : ByteArray} {maxL : Nat} {ret : Option FieldType} {n fr' lo' mc' ms' : Nat} {As : List Value} {b : Nat} {fs : List Value} {p : UInt64 → GH → Nat → Prop} {px : String → GH → Prop} (hV : jV own idx ci y cc' maxL ret n) (hG : G b = some (.inr (ci, fs))) (hM : ∀ l : Launch, l.stackTraces = false → Ct l K y cc' maxL ret fr' lo' mc' ms' (.ref b :: As) G hs (pD p) px) (hn : As.length = n) (hst0 : st0 = As.reverse ++ .ref b :: rest) (hrs : (rest.map fun v => v.category).sum ≤ 8) (hfr : fr' + 1 ≤ fr) (hlo : 8 + (maxL + 11) + lo' ≤ lo9) (hc9 : cells + mc' ≤ mc) (hs9 : slots + ms' ≤ ms) (hd : decode cc pc = .ok (.invokevirtual idx, 3))
    (kk : ∀ (r : UInt64) (G' : GH) (hs' : Nat), p r G' hs' → J K A E nL G' hs' (cells + mc') (slots + ms') (pc + 3) lo (.double r :: rest)) (kx : ∀ (X : String) (G' : GH), px X G' → JX K A E nL G' (cells + mc') (slots + ms') pc lo rest X) : J K A E nL G hs cells slots pc lo st0 :=
  j_callV hE hV hG hM hn hst0 hrs hfr hlo hc9 hs9 hd (fun v G' hs' h => by
    obtain ⟨r, rfl, h⟩ := h
    exact kk r G' hs' h) kx
theorem j_cVr (hE : jC K A E own cc nL fr lo9 mc ms) {idx ci : Nat} {y : MethodName} {cc' : ByteArray} {maxL : Nat} {ret : Option FieldType} {n fr' lo' mc' ms' : Nat} {As : List Value} {b : Nat} {fs : List Value} {p : Nat → GH → Nat → Prop} {px : String → GH → Prop} (hV : jV own idx ci y cc' maxL ret n) (hG : G b = some (.inr (ci, fs))) (hM : ∀ l : Launch, l.stackTraces = false → Ct l K y cc' maxL ret fr' lo' mc' ms' (.ref b :: As) G hs (pR p) px) (hn : As.length = n) (hst0 : st0 = As.reverse ++ .ref b :: rest) (hrs : (rest.map fun v => v.category).sum ≤ 8) (hfr : fr' + 1 ≤ fr) (hlo : 8 + (maxL + 11) + lo' ≤ lo9) (hc9 : cells + mc' ≤ mc) (hs9 : slots + ms' ≤ ms) (hd : decode cc pc = .ok (.invokevirtual idx, 3))
    (kk : ∀ (r : Nat) (G' : GH) (hs' : Nat), p r G' hs' → J K A E nL G' hs' (cells + mc') (slots + ms') (pc + 3) lo (.ref r :: rest)) (kx : ∀ (X : String) (G' : GH), px X G' → JX K A E nL G' (cells + mc') (slots + ms') pc lo rest X) : J K A E nL G hs cells slots pc lo st0 :=
  j_callV hE hV hG hM hn hst0 hrs hfr hlo hc9 hs9 hd (fun v G' hs' h => by
    obtain ⟨r, rfl, h⟩ := h
    exact kk r G' hs' h) kx
theorem j_cVv (hE : jC K A E own cc nL fr lo9 mc ms) {idx ci : Nat} {y : MethodName} {cc' : ByteArray} {maxL : Nat} {ret : Option FieldType} {n fr' lo' mc' ms' : Nat} {As : List Value} {b : Nat} {fs : List Value} {p : GH → Nat → Prop} {px : String → GH → Prop} (hV : jV own idx ci y cc' maxL ret n) (hG : G b = some (.inr (ci, fs))) (hM : ∀ l : Launch, l.stackTraces = false → Ct l K y cc' maxL ret fr' lo' mc' ms' (.ref b :: As) G hs (pV p) px) (hn : As.length = n) (hst0 : st0 = As.reverse ++ .ref b :: rest) (hrs : (rest.map fun v => v.category).sum ≤ 8) (hfr : fr' + 1 ≤ fr) (hlo : 8 + (maxL + 11) + lo' ≤ lo9) (hc9 : cells + mc' ≤ mc) (hs9 : slots + ms' ≤ ms) (hd : decode cc pc = .ok (.invokevirtual idx, 3))
    (kk : ∀ (G' : GH) (hs' : Nat), p G' hs' → J K A E nL G' hs' (cells + mc') (slots + ms') (pc + 3) lo (rest)) (kx : ∀ (X : String) (G' : GH), px X G' → JX K A E nL G' (cells + mc') (slots + ms') pc lo rest X) : J K A E nL G hs cells slots pc lo st0 :=
  j_callV hE hV hG hM hn hst0 hrs hfr hlo hc9 hs9 hd (fun v G' hs' h => by
    obtain ⟨rfl, h⟩ := h
    exact kk G' hs' h) kx
theorem j_cSi (hE : jC K A E own cc nL fr lo9 mc ms) {idx : Nat} {y : MethodName} {cc' : ByteArray} {maxL : Nat} {ret : Option FieldType} {n fr' lo' mc' ms' : Nat} {As : List Value} {p : Int32 → GH → Nat → Prop} {px : String → GH → Prop} (hV : jS own idx y cc' maxL ret n) (hM : ∀ l : Launch, l.stackTraces = false → Ct l K y cc' maxL ret fr' lo' mc' ms' As G hs (pI p) px) (hn : As.length = n) (hst0 : st0 = As.reverse ++ rest) (hrs : (rest.map fun v => v.category).sum ≤ 8) (hfr : fr' + 1 ≤ fr) (hlo : 8 + (maxL + 11) + lo' ≤ lo9) (hc9 : cells + mc' ≤ mc) (hs9 : slots + ms' ≤ ms) (hd : decode cc pc = .ok (.invokestatic idx, 3))
    (kk : ∀ (r : Int32) (G' : GH) (hs' : Nat), p r G' hs' → J K A E nL G' hs' (cells + mc') (slots + ms') (pc + 3) lo (.int r :: rest)) (kx : ∀ (X : String) (G' : GH), px X G' → JX K A E nL G' (cells + mc') (slots + ms') pc lo rest X) : J K A E nL G hs cells slots pc lo st0 :=
  j_callS hE hV hM hn hst0 hrs hfr hlo hc9 hs9 hd (fun v G' hs' h => by
    obtain ⟨r, rfl, h⟩ := h
    exact kk r G' hs' h) kx
theorem j_cSl (hE : jC K A E own cc nL fr lo9 mc ms) {idx : Nat} {y : MethodName} {cc' : ByteArray} {maxL : Nat} {ret : Option FieldType} {n fr' lo' mc' ms' : Nat} {As : List Value} {p : Int64 → GH → Nat → Prop} {px : String → GH → Prop} (hV : jS own idx y cc' maxL ret n) (hM : ∀ l : Launch, l.stackTraces = false → Ct l K y cc' maxL ret fr' lo' mc' ms' As G hs (pL p) px) (hn : As.length = n) (hst0 : st0 = As.reverse ++ rest) (hrs : (rest.map fun v => v.category).sum ≤ 8) (hfr : fr' + 1 ≤ fr) (hlo : 8 + (maxL + 11) + lo' ≤ lo9) (hc9 : cells + mc' ≤ mc) (hs9 : slots + ms' ≤ ms) (hd : decode cc pc = .ok (.invokestatic idx, 3))
    (kk : ∀ (r : Int64) (G' : GH) (hs' : Nat), p r G' hs' → J K A E nL G' hs' (cells + mc') (slots + ms') (pc + 3) lo (.long r :: rest)) (kx : ∀ (X : String) (G' : GH), px X G' → JX K A E nL G' (cells + mc') (slots + ms') pc lo rest X) : J K A E nL G hs cells slots pc lo st0 :=
  j_callS hE hV hM hn hst0 hrs hfr hlo hc9 hs9 hd (fun v G' hs' h => by
    obtain ⟨r, rfl, h⟩ := h
    exact kk r G' hs' h) kx
theorem j_cSv (hE : jC K A E own cc nL fr lo9 mc ms) {idx : Nat} {y : MethodName} {cc' : ByteArray} {maxL : Nat} {ret : Option FieldType} {n fr' lo' mc' ms' : Nat} {As : List Value} {p : GH → Nat → Prop} {px : String → GH → Prop} (hV : jS own idx y cc' maxL ret n) (hM : ∀ l : Launch, l.stackTraces = false → Ct l K y cc' maxL ret fr' lo' mc' ms' As G hs (pV p) px) (hn : As.length = n) (hst0 : st0 = As.reverse ++ rest) (hrs : (rest.map fun v => v.category).sum ≤ 8) (hfr : fr' + 1 ≤ fr) (hlo : 8 + (maxL + 11) + lo' ≤ lo9) (hc9 : cells + mc' ≤ mc) (hs9 : slots + ms' ≤ ms) (hd : decode cc pc = .ok (.invokestatic idx, 3))
    (kk : ∀ (G' : GH) (hs' : Nat), p G' hs' → J K A E nL G' hs' (cells + mc') (slots + ms') (pc + 3) lo (rest)) (kx : ∀ (X : String) (G' : GH), px X G' → JX K A E nL G' (cells + mc') (slots + ms') pc lo rest X) : J K A E nL G hs cells slots pc lo st0 :=
  j_callS hE hV hM hn hst0 hrs hfr hlo hc9 hs9 hd (fun v G' hs' h => by
    obtain ⟨rfl, h⟩ := h
    exact kk G' hs' h) kx
theorem j_cNl (hE : jC K A E own cc nL fr lo9 mc ms) {idx : Nat} {y : MethodName} {cc' : ByteArray} {maxL : Nat} {ret : Option FieldType} {n fr' lo' mc' ms' : Nat} {As : List Value} {p : Int64 → GH → Nat → Prop} (hV : jSN own idx y cc' maxL ret n) (hM : ∀ l : Launch, l.stackTraces = false → Ct l K y cc' maxL ret fr' lo' mc' ms' As G hs (pL p) jno) (hn : As.length = n) (hst0 : st0 = As.reverse ++ rest) (hrs : (rest.map fun v => v.category).sum ≤ 8) (hfr : fr' + 1 ≤ fr) (hlo : 8 + (maxL + 11) + lo' ≤ lo9) (hc9 : cells + mc' ≤ mc) (hs9 : slots + ms' ≤ ms) (hd : decode cc pc = .ok (.invokestatic idx, 3))
    (kk : ∀ (r : Int64) (G' : GH) (hs' : Nat), p r G' hs' → J K A E nL G' hs' (cells + mc') (slots + ms') (pc + 3) lo (.long r :: rest)) : J K A E nL G hs cells slots pc lo st0 :=
  j_callSN hE hV hM hn hst0 hrs hfr hlo hc9 hs9 hd (fun v G' hs' h => by
    obtain ⟨r, rfl, h⟩ := h
    exact kk r G' hs' h)
theorem j_cI (hE : jC K A E own cc nL fr lo9 mc ms) {idx : Nat} {y : MethodName} {cc' : ByteArray} {maxL : Nat} {n fr' lo' mc' ms' : Nat} {As : List Value} {b : Nat} {p : GH → Nat → Prop} (hV : jI own idx y cc' maxL n) (hM : ∀ l : Launch, l.stackTraces = false → Ct l K y cc' maxL none fr' lo' mc' ms' (.ref b :: As) G hs (pV p) jno) (hn : As.length = n) (hst0 : st0 = As.reverse ++ .ref b :: rest) (hrs : (rest.map fun v => v.category).sum ≤ 8) (hfr : fr' + 1 ≤ fr) (hlo : 8 + (maxL + 11) + lo' ≤ lo9) (hc9 : cells + mc' ≤ mc) (hs9 : slots + ms' ≤ ms) (hd : decode cc pc = .ok (.invokespecial idx, 3))
    (kk : ∀ (G' : GH) (hs' : Nat), p G' hs' → J K A E nL G' hs' (cells + mc') (slots + ms') (pc + 3) lo (rest)) : J K A E nL G hs cells slots pc lo st0 :=
  j_callI hE hV hM hn hst0 hrs hfr hlo hc9 hs9 hd (fun v G' hs' h => by
    obtain ⟨rfl, h⟩ := h
    exact kk G' hs' h)
theorem j_cIN (hE : jC K A E own cc nL fr lo9 mc ms) {idx : Nat} {y : MethodName} {cc' : ByteArray} {maxL : Nat} {n fr' lo' mc' ms' : Nat} {As : List Value} {b : Nat} {p : GH → Nat → Prop} (hV : jIN own idx y cc' maxL n) (hM : ∀ l : Launch, l.stackTraces = false → Ct l K y cc' maxL none fr' lo' mc' ms' (.ref b :: As) G hs (pV p) jno) (hn : As.length = n) (hst0 : st0 = As.reverse ++ .ref b :: rest) (hrs : (rest.map fun v => v.category).sum ≤ 8) (hfr : fr' + 1 ≤ fr) (hlo : 8 + (maxL + 11) + lo' ≤ lo9) (hc9 : cells + mc' ≤ mc) (hs9 : slots + ms' ≤ ms) (hd : decode cc pc = .ok (.invokespecial idx, 3))
    (kk : ∀ (G' : GH) (hs' : Nat), p G' hs' → J K A E nL G' hs' (cells + mc') (slots + ms') (pc + 3) lo (rest)) : J K A E nL G hs cells slots pc lo st0 :=
  j_callIN hE hV hM hn hst0 hrs hfr hlo hc9 hs9 hd (fun v G' hs' h => by
    obtain ⟨rfl, h⟩ := h
    exact kk G' hs' h)
end JD
