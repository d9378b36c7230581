/-! ===== the class: its cells ===== -/
abbrev StV : Type := Nat × Nat × Bool × Nat × (Nat → Int32) × (Nat → PaV) × Nat × Nat × (Nat → Int32) × Nat × RcV × Nat
abbrev LyV : Type := Nat × Nat × Bool × Nat × (Nat → Int32)
abbrev sG (K : jK) (F : GH) (b : Nat) (s : StV) : GH := stG K F b s.1 s.2.1 s.2.2.1 s.2.2.2.1 s.2.2.2.2.1 s.2.2.2.2.2.1 s.2.2.2.2.2.2.1 s.2.2.2.2.2.2.2.1 s.2.2.2.2.2.2.2.2.1 s.2.2.2.2.2.2.2.2.2.1 s.2.2.2.2.2.2.2.2.2.2.1 s.2.2.2.2.2.2.2.2.2.2.2
abbrev lyS (K : jK) (h : Nat) (d : LyV) : List va_E := lyC K h d.1 d.2.1 d.2.2.1 d.2.2.2.1 d.2.2.2.2
theorem st_in {K : jK} {F F2 : GH} {b w m : Nat} {pl : Bool} {tk : Nat} {ow : Nat → Int32} {P : Nat → PaV} {pc nx : Nat} {bits : Nat → Int32} {nb : Nat} {rc : RcV} {md a : Nat} (h1 : b ≤ a) (h2 : a < b + 45) : stG K F b w m pl tk ow P pc nx bits nb rc md a = stG K F2 b w m pl tk ow P pc nx bits nb rc md a := by
  unfold stG
  by_cases h : a < b + 9
  · have h3 : a - b < 9 := by omega
    have e1 : (stL K b w m pl tk ow pc nx bits nb rc md)[a - b]? = some (stL K b w m pl tk ow pc nx bits nb rc md)[a - b] := List.getElem?_eq_getElem h3
    have e2 : ∀ Q : GH, gB Q b (stL K b w m pl tk ow pc nx bits nb rc md) a = some (stL K b w m pl tk ow pc nx bits nb rc md)[a - b] := fun Q => by
      have := gB_at (F := Q) (h0 := b) e1
      rwa [show b + (a - b) = a by omega] at this
    rw [e2, e2]
  · rw [gB_out (by simp only [List.length_cons, List.length_nil]; omega), gB_out (by simp only [List.length_cons, List.length_nil]; omega)]
    unfold paG
    rw [if_pos (by omega), if_pos (by omega)]
theorem sG_move {K : jK} {G G' : GH} {b : Nat} {s : StV} (h : sG K G b s = G) (he : ∀ a, b ≤ a → a < b + 45 → G' a = G a) : sG K G' b s = G' := by
  funext a
  by_cases h1 : b ≤ a ∧ a < b + 45
  · rw [he a h1.1 h1.2]
    exact (st_in h1.1 h1.2).trans (congrFun h a)
  · exact st_out (by omega)
theorem sG_sG {K : jK} {F : GH} {b : Nat} {s s' : StV} : sG K (sG K F b s) b s' = sG K F b s' := by
  funext a
  by_cases h1 : b ≤ a ∧ a < b + 45
  · exact st_in h1.1 h1.2
  · exact ((st_out (by omega)).trans (st_out (by omega))).trans (st_out (by omega)).symm
theorem gB_move {G G' : GH} {b : Nat} {es : List va_E} (h : gB G b es = G) (he : ∀ a, b ≤ a → a < b + es.length → G' a = G a) : gB G' b es = G' := gB_id (fun i e hi => by
  have hl : i < es.length := by
    by_cases q : i < es.length
    · exact q
    · rw [List.getElem?_eq_none (by omega)] at hi
      cases hi
  rw [he (b + i) (by omega) (by omega), ← h]
  exact gB_at hi)
/-- the states that are kept: where they lie -/
def qF (q : Nat → Nat) : Nat → Option Nat := fun i => if i < 4 then some (q i) else none
theorem qF_rf {q : Nat → Nat} {i : Nat} (h : i < 4) : va_rf (qF q i) = .ref (q i) := by
  unfold qF
  rw [if_pos h]
  rfl
def Bs (x a : Nat) : Prop := a = x + 1 ∨ ∃ i, i < 4 ∧ a = x + 47 + 45 * i
def fcB (x n : Nat) (q : Nat → Nat) : Prop := Bs x n ∧ (∀ i, i < 4 → Bs x (q i)) ∧ (∀ i, i < 4 → q i ≠ n) ∧ (∀ i, i < 4 → ∀ j, j < 4 → i ≠ j → q i ≠ q j)
theorem Bs.dis {x a b : Nat} (ha : Bs x a) (hb : Bs x b) (h : a ≠ b) : a + 45 ≤ b ∨ b + 45 ≤ a := by
  rcases ha with rfl | ⟨i, hi, rfl⟩ <;> rcases hb with rfl | ⟨j, hj, rfl⟩ <;> omega
theorem Bs.at {x a : Nat} (ha : Bs x a) : x < a ∧ (a + 45 ≤ x + 46 ∨ x + 46 < a) ∧ a + 45 ≤ x + 227 := by
  rcases ha with rfl | ⟨i, hi, rfl⟩ <;> omega
def fcOk (K : jK) (G : GH) (x n : Nat) (q : Nat → Nat) (cnt nw : Nat) (s : StV) (S : Nat → StV) (d : LyV) : Prop :=
  G x = some (.inr (5, [.ref n, .ref (x + 46), .int (nI cnt), .int (nI nw), .ref (x + 227)])) ∧ G (x + 46) = some (sA K 4 (qF q)) ∧ gB G (x + 227) (lyS K (x + 227) d) = G ∧ sG K G n s = G ∧ (∀ i, i < 4 → sG K G (q i) (S i) = G) ∧ fcB x n q ∧ nw < 4 ∧ cnt ≤ 4 ∧ s.2.2.2.2.2.2.2.2.2.1 ≤ 2048 ∧ (∀ i, i < 4 → (S i).2.2.2.2.2.2.2.2.2.1 ≤ 2048)
def fO (x : Nat) (G G' : GH) : Prop := ∀ a, (a < x ∨ x + 229 ≤ a) → G' a = G a
theorem fO.rf {x : Nat} {G : GH} : fO x G G := fun _ _ => rfl
theorem fO.tr {x : Nat} {G G' G'' : GH} (h1 : fO x G G') (h2 : fO x G' G'') : fO x G G'' := fun a ha => (h2 a ha).trans (h1 a ha)
section FC
variable {K : jK} {G G' : GH} {x n : Nat} {q : Nat → Nat} {cnt nw : Nat} {s : StV} {S : Nat → StV} {d : LyV}
theorem fcOk.f0 (h : fcOk K G x n q cnt nw s S d) : G x = some (.inr (5, [.ref n, .ref (x + 46), .int (nI cnt), .int (nI nw), .ref (x + 227)])) := h.1
theorem fcOk.f1 (h : fcOk K G x n q cnt nw s S d) : G (x + 46) = some (sA K 4 (qF q)) := h.2.1
theorem fcOk.f2 (h : fcOk K G x n q cnt nw s S d) : gB G (x + 227) (lyS K (x + 227) d) = G := h.2.2.1
theorem fcOk.f3 (h : fcOk K G x n q cnt nw s S d) : sG K G n s = G := h.2.2.2.1
theorem fcOk.f4 (h : fcOk K G x n q cnt nw s S d) : ∀ i, i < 4 → sG K G (q i) (S i) = G := h.2.2.2.2.1
theorem fcOk.f5 (h : fcOk K G x n q cnt nw s S d) : fcB x n q := h.2.2.2.2.2.1
theorem fcOk.f6 (h : fcOk K G x n q cnt nw s S d) : nw < 4 := h.2.2.2.2.2.2.1
theorem fcOk.f7 (h : fcOk K G x n q cnt nw s S d) : cnt ≤ 4 := h.2.2.2.2.2.2.2.1
theorem fcOk.f8 (h : fcOk K G x n q cnt nw s S d) : s.2.2.2.2.2.2.2.2.2.1 ≤ 2048 := h.2.2.2.2.2.2.2.2.1
theorem fcOk.f9 (h : fcOk K G x n q cnt nw s S d) : ∀ i, i < 4 → (S i).2.2.2.2.2.2.2.2.2.1 ≤ 2048 := h.2.2.2.2.2.2.2.2.2
/-- cells of the state that is the present one, and of the draft -/
theorem fcOk.g {a : Nat} {e : va_E} (h : fcOk K G x n q cnt nw s S d) (hg : sG K G n s a = some e) : G a = some e := by
  rw [← hg]
  exact (congrFun h.f3 a).symm
theorem fcOk.d0 (h : fcOk K G x n q cnt nw s S d) : G (x + 227) = some (.inr (1, [.int (nI d.1), .int (nI d.2.1), .int (jb d.2.2.1), .int (nI d.2.2.2.1), .ref (x + 227 + 1)])) := by
  rw [← h.f2]
  exact gB_0
theorem fcOk.d1 (h : fcOk K G x n q cnt nw s S d) : G (x + 227 + 1) = some (iA K 128 d.2.2.2.2) := by
  rw [← h.f2]
  exact gB_1
/-- the present state changes -/
theorem fcOk.now (h : fcOk K G x n q cnt nw s S d) {s' : StV} (hs : s'.2.2.2.2.2.2.2.2.2.1 ≤ 2048) (e : G' = sG K G n s') : fcOk K G' x n q cnt nw s' S d ∧ fO x G G' := by
  subst e
  have hb := h.f5
  have hn := hb.1.at
  have ho : ∀ a, (a < n ∨ n + 45 ≤ a) → sG K G n s' a = G a := fun a ha => st_out ha
  refine ⟨⟨(ho x (by omega)).trans h.f0, (ho _ (by omega)).trans h.f1, gB_move h.f2 (fun a h1 h2 => ho a (by simp only [List.length_cons, List.length_nil] at h2; omega)), sG_sG, fun i hi => sG_move (h.f4 i hi) (fun a h1 h2 => ho a ?_), hb, h.f6, h.f7, hs, h.f9⟩, fun a ha => ho a (by omega)⟩
  have := (hb.2.1 i hi).dis hb.1 (hb.2.2.1 i hi)
  omega
/-- a kept state changes -/
theorem fcOk.kp (h : fcOk K G x n q cnt nw s S d) {j : Nat} (hj : j < 4) {s' : StV} (hs : s'.2.2.2.2.2.2.2.2.2.1 ≤ 2048) (e : G' = sG K G (q j) s') : fcOk K G' x n q cnt nw s (va_up S j s') d ∧ fO x G G' := by
  subst e
  have hb := h.f5
  have hn := (hb.2.1 j hj).at
  have ho : ∀ a, (a < q j ∨ q j + 45 ≤ a) → sG K G (q j) s' a = G a := fun a ha => st_out ha
  refine ⟨⟨(ho x (by omega)).trans h.f0, (ho _ (by omega)).trans h.f1, gB_move h.f2 (fun a h1 h2 => ho a (by simp only [List.length_cons, List.length_nil] at h2; omega)), sG_move h.f3 (fun a h1 h2 => ho a ?_), fun i hi => ?_, hb, h.f6, h.f7, h.f8, fun i hi => ?_⟩, fun a ha => ho a (by omega)⟩
  · have := (hb.2.1 j hj).dis hb.1 (hb.2.2.1 j hj)
    omega
  · by_cases e : i = j
    · subst e
      rw [va_up_self]
      exact sG_sG
    · rw [va_up_ne _ _ e]
      refine sG_move (h.f4 i hi) (fun a h1 h2 => ho a ?_)
      have := (hb.2.1 i hi).dis (hb.2.1 j hj) (hb.2.2.2 i hi j hj e)
      omega
  · by_cases e : i = j
    · subst e
      rw [va_up_self]
      exact hs
    · rw [va_up_ne _ _ e]
      exact h.f9 i hi
/-- the draft changes -/
theorem fcOk.dr (h : fcOk K G x n q cnt nw s S d) {d' : LyV} (e : G' = gB G (x + 227) (lyS K (x + 227) d')) : fcOk K G' x n q cnt nw s S d' ∧ fO x G G' := by
  subst e
  have hb := h.f5
  have ho : ∀ a, (a < x + 227 ∨ x + 229 ≤ a) → gB G (x + 227) (lyS K (x + 227) d') a = G a := fun a ha => gB_out (by simp only [List.length_cons, List.length_nil]; omega)
  refine ⟨⟨(ho x (by omega)).trans h.f0, (ho _ (by omega)).trans h.f1, gB_gB rfl, sG_move h.f3 (fun a h1 h2 => ho a ?_), fun i hi => sG_move (h.f4 i hi) (fun a h1 h2 => ho a ?_), hb, h.f6, h.f7, h.f8, h.f9⟩, fun a ha => ho a (by omega)⟩
  · have := hb.1.at
    omega
  · have := (hb.2.1 i hi).at
    omega
/-- its own fields change -/
theorem fcOk.self (h : fcOk K G x n q cnt nw s S d) {cnt' nw' : Nat} (h1 : nw' < 4) (h2 : cnt' ≤ 4) (e : G' = gset G x (.inr (5, [.ref n, .ref (x + 46), .int (nI cnt'), .int (nI nw'), .ref (x + 227)]))) : fcOk K G' x n q cnt' nw' s S d ∧ fO x G G' := by
  subst e
  have hb := h.f5
  have ho : ∀ a, a ≠ x → gset G x (.inr (5, [.ref n, .ref (x + 46), .int (nI cnt'), .int (nI nw'), .ref (x + 227)])) a = G a := fun a ha => gset_n ha
  refine ⟨⟨gset_s _ _ _, (ho _ (by omega)).trans h.f1, gB_move h.f2 (fun a h1 h2 => ho a (by omega)), sG_move h.f3 (fun a h1 h2 => ho a ?_), fun i hi => sG_move (h.f4 i hi) (fun a h1 h2 => ho a ?_), hb, h1, h2, h.f8, h.f9⟩, fun a ha => ho a (by omega)⟩
  · have := hb.1.at
    omega
  · have := (hb.2.1 i hi).at
    omega
end FC
/-- the row of the kept states, read -/
theorem j_sav {K : jK} {A : Nat → Prop} {E : jE} {own : String} {cc : ByteArray} {nL fr lo9 mc ms : Nat} {G : GH} {hs cells slots pc : Nat} {lo : List (Option Value)} {rest : List Value} (hE : jC K A E own cc nL fr lo9 mc ms) {a j : Nat} {q : Nat → Nat} {x : Int32} (hG : G a = some (sA K 4 (qF q))) (hx9 : x = nI j) (hj : j < 4) (hd : decode cc pc = .ok (.aaload, 1)) (kk : J K A E nL G hs cells slots (pc + 1) lo (.ref (q j) :: rest)) : J K A E nL G hs cells slots pc lo (.int x :: .ref a :: rest) := by
  refine j_aldS hE hG hx9 hj (by decide) hd ?_
  rw [qF_rf hj]
  exact kk
/-- a copy of a state over another -/
def cpS (s2 s : StV) : StV := (s.1, s.2.1, s.2.2.1, s.2.2.2.1, va_cpy s.2.2.2.2.1 s2.2.2.2.2.1 0 0 128, itr (cpP s.2.2.2.2.2.1) s.2.2.2.2.2.2.1 s2.2.2.2.2.2.1, s.2.2.2.2.2.2.1, s.2.2.2.2.2.2.2.1, va_cpy s.2.2.2.2.2.2.2.2.1 s2.2.2.2.2.2.2.2.2.1 0 0 s.2.2.2.2.2.2.2.2.2.1, s.2.2.2.2.2.2.2.2.2.1, cpR s2.2.2.2.2.2.2.2.2.2.2.1 s.2.2.2.2.2.2.2.2.2.2.1, s.2.2.2.2.2.2.2.2.2.2.2)
def svS (S : Nat → StV) (nw : Nat) (s : StV) : Nat → StV := va_up S ((nw + 1) % 4) (cpS (S ((nw + 1) % 4)) s)
def sC (cnt : Nat) : Nat := if cnt < 4 then cnt + 1 else cnt
