/-! ===== cells side by side from an address on ===== -/
def gB (F : GH) (h0 : Nat) (es : List va_E) : GH := fun a => if h0 ≤ a then (match es[a - h0]? with | some e => some e | none => F a) else F a
theorem gB_at {F : GH} {h0 : Nat} {es : List va_E} {i : Nat} {e : va_E} (h : es[i]? = some e) : gB F h0 es (h0 + i) = some e := by
  unfold gB
  rw [if_pos (Nat.le_add_right _ _), Nat.add_sub_cancel_left, h]
theorem gB_0 {F : GH} {h0 : Nat} {e : va_E} {tl : List va_E} : gB F h0 (e :: tl) h0 = some e := gB_at (i := 0) rfl
theorem gB_1 {F : GH} {h0 : Nat} {e0 e : va_E} {tl : List va_E} : gB F h0 (e0 :: e :: tl) (h0 + 1) = some e := gB_at (i := 1) rfl
theorem gB_2 {F : GH} {h0 : Nat} {e0 e1 e : va_E} {tl : List va_E} : gB F h0 (e0 :: e1 :: e :: tl) (h0 + 2) = some e := gB_at (i := 2) rfl
theorem gB_3 {F : GH} {h0 : Nat} {e0 e1 e2 e : va_E} {tl : List va_E} : gB F h0 (e0 :: e1 :: e2 :: e :: tl) (h0 + 3) = some e := gB_at (i := 3) rfl
theorem gB_out {F : GH} {h0 : Nat} {es : List va_E} {a : Nat} (h : a < h0 ∨ h0 + es.length ≤ a) : gB F h0 es a = F a := by
  unfold gB
  rcases h with h | h
  · rw [if_neg (by omega)]
  · by_cases h1 : h0 ≤ a
    · rw [if_pos h1, List.getElem?_eq_none (by omega)]
    · rw [if_neg h1]
theorem gB_set {F : GH} {h0 : Nat} {es : List va_E} {i : Nat} {e : va_E} (h : i < es.length) : gset (gB F h0 es) (h0 + i) e = gB F h0 (es.set i e) := by
  funext a
  by_cases ha : a = h0 + i
  · subst ha
    rw [gset_s, gB_at (e := e)]
    rw [List.getElem?_set_self h]
  · rw [gset_n ha]
    unfold gB
    by_cases h1 : h0 ≤ a
    · rw [if_pos h1, if_pos h1, List.getElem?_set_ne (by omega)]
    · rw [if_neg h1, if_neg h1]
theorem gB_id {G : GH} {h0 : Nat} {es : List va_E} (h : ∀ (i : Nat) (e : va_E), es[i]? = some e → G (h0 + i) = some e) : gB G h0 es = G := by
  funext a
  unfold gB
  by_cases h1 : h0 ≤ a
  · rw [if_pos h1]
    cases he : es[a - h0]? with
    | none => rfl
    | some e =>
      have := h _ _ he
      rw [show h0 + (a - h0) = a by omega] at this
      exact this.symm
  · rw [if_neg h1]
theorem gB_gB {F : GH} {h0 : Nat} {es es' : List va_E} (h : es.length = es'.length) : gB (gB F h0 es) h0 es' = gB F h0 es' := by
  funext a
  by_cases h1 : a < h0 ∨ h0 + es'.length ≤ a
  · rw [gB_out h1, gB_out (by omega), gB_out h1]
  · have h2 : a - h0 < es'.length := by omega
    have e1 : es'[a - h0]? = some es'[a - h0] := List.getElem?_eq_getElem h2
    have e2 : ∀ G : GH, gB G h0 es' a = some es'[a - h0] := fun G => by
      have := gB_at (F := G) (h0 := h0) e1
      rwa [show h0 + (a - h0) = a by omega] at this
    rw [e2, e2]
section JB
variable {K : jK} {A : Nat → Prop} {E : jE} {own : String} {cc : ByteArray} {nL fr lo9 mc ms : Nat} {F : GH} {h0 hs cells slots pc : Nat} {lo : List (Option Value)} {rest : List Value}
theorem b_put0 (hE : jC K A E own cc nL fr lo9 mc ms) {idx ci : Nat} {ty : FieldType} {x v : Value} {ft : List Value} {tl : List va_E} (hF : jF own idx ci 0 false ty) (hn : narrow ty v = v) (hfit : fits ty v = true) (hd : decode cc pc = .ok (.putfield idx, 3)) (kk : J K A E nL (gB F h0 (.inr (ci, v :: ft) :: tl)) hs cells slots (pc + 3) lo rest) : J K A E nL (gB F h0 (.inr (ci, x :: ft) :: tl)) hs cells slots pc lo (v :: .ref h0 :: rest) := by
  refine j_put hE hF gB_0 hn hfit (by simp only [List.length_cons]; omega) hd ?_
  have e := gB_set (F := F) (h0 := h0) (es := .inr (ci, x :: ft) :: tl) (i := 0) (e := .inr (ci, v :: ft)) (by simp)
  exact Eq.mpr (congrArg (fun G9 => J K A E nL G9 hs cells slots (pc + 3) lo rest) e) kk
theorem b_putF0 (hE : jC K A E own cc nL fr lo9 mc ms) {idx ci : Nat} {ty : FieldType} {x v : Value} {ft : List Value} {tl : List va_E} (hNm : jNm E "<init>") (hC : (vwCl[ci]?).map (fun q => q.1) = some own) (hF : jF own idx ci 0 true ty) (hn : narrow ty v = v) (hfit : fits ty v = true) (hd : decode cc pc = .ok (.putfield idx, 3)) (kk : J K A E nL (gB F h0 (.inr (ci, v :: ft) :: tl)) hs cells slots (pc + 3) lo rest) : J K A E nL (gB F h0 (.inr (ci, x :: ft) :: tl)) hs cells slots pc lo (v :: .ref h0 :: rest) := by
  refine j_putF hE hNm hF hC gB_0 hn hfit (by simp only [List.length_cons]; omega) hd ?_
  have e := gB_set (F := F) (h0 := h0) (es := .inr (ci, x :: ft) :: tl) (i := 0) (e := .inr (ci, v :: ft)) (by simp)
  exact Eq.mpr (congrArg (fun G9 => J K A E nL G9 hs cells slots (pc + 3) lo rest) e) kk
theorem b_put1 (hE : jC K A E own cc nL fr lo9 mc ms) {idx ci : Nat} {ty : FieldType} {f0 : Value} {x v : Value} {ft : List Value} {tl : List va_E} (hF : jF own idx ci 1 false ty) (hn : narrow ty v = v) (hfit : fits ty v = true) (hd : decode cc pc = .ok (.putfield idx, 3)) (kk : J K A E nL (gB F h0 (.inr (ci, f0 :: v :: ft) :: tl)) hs cells slots (pc + 3) lo rest) : J K A E nL (gB F h0 (.inr (ci, f0 :: x :: ft) :: tl)) hs cells slots pc lo (v :: .ref h0 :: rest) := by
  refine j_put hE hF gB_0 hn hfit (by simp only [List.length_cons]; omega) hd ?_
  have e := gB_set (F := F) (h0 := h0) (es := .inr (ci, f0 :: x :: ft) :: tl) (i := 0) (e := .inr (ci, f0 :: v :: ft)) (by simp)
  exact Eq.mpr (congrArg (fun G9 => J K A E nL G9 hs cells slots (pc + 3) lo rest) e) kk
theorem b_putF1 (hE : jC K A E own cc nL fr lo9 mc ms) {idx ci : Nat} {ty : FieldType} {f0 : Value} {x v : Value} {ft : List Value} {tl : List va_E} (hNm : jNm E "<init>") (hC : (vwCl[ci]?).map (fun q => q.1) = some own) (hF : jF own idx ci 1 true ty) (hn : narrow ty v = v) (hfit : fits ty v = true) (hd : decode cc pc = .ok (.putfield idx, 3)) (kk : J K A E nL (gB F h0 (.inr (ci, f0 :: v :: ft) :: tl)) hs cells slots (pc + 3) lo rest) : J K A E nL (gB F h0 (.inr (ci, f0 :: x :: ft) :: tl)) hs cells slots pc lo (v :: .ref h0 :: rest) := by
  refine j_putF hE hNm hF hC gB_0 hn hfit (by simp only [List.length_cons]; omega) hd ?_
  have e := gB_set (F := F) (h0 := h0) (es := .inr (ci, f0 :: x :: ft) :: tl) (i := 0) (e := .inr (ci, f0 :: v :: ft)) (by simp)
  exact Eq.mpr (congrArg (fun G9 => J K A E nL G9 hs cells slots (pc + 3) lo rest) e) kk
theorem b_put2 (hE : jC K A E own cc nL fr lo9 mc ms) {idx ci : Nat} {ty : FieldType} {f0 f1 : Value} {x v : Value} {ft : List Value} {tl : List va_E} (hF : jF own idx ci 2 false ty) (hn : narrow ty v = v) (hfit : fits ty v = true) (hd : decode cc pc = .ok (.putfield idx, 3)) (kk : J K A E nL (gB F h0 (.inr (ci, f0 :: f1 :: v :: ft) :: tl)) hs cells slots (pc + 3) lo rest) : J K A E nL (gB F h0 (.inr (ci, f0 :: f1 :: x :: ft) :: tl)) hs cells slots pc lo (v :: .ref h0 :: rest) := by
  refine j_put hE hF gB_0 hn hfit (by simp only [List.length_cons]; omega) hd ?_
  have e := gB_set (F := F) (h0 := h0) (es := .inr (ci, f0 :: f1 :: x :: ft) :: tl) (i := 0) (e := .inr (ci, f0 :: f1 :: v :: ft)) (by simp)
  exact Eq.mpr (congrArg (fun G9 => J K A E nL G9 hs cells slots (pc + 3) lo rest) e) kk
theorem b_putF2 (hE : jC K A E own cc nL fr lo9 mc ms) {idx ci : Nat} {ty : FieldType} {f0 f1 : Value} {x v : Value} {ft : List Value} {tl : List va_E} (hNm : jNm E "<init>") (hC : (vwCl[ci]?).map (fun q => q.1) = some own) (hF : jF own idx ci 2 true ty) (hn : narrow ty v = v) (hfit : fits ty v = true) (hd : decode cc pc = .ok (.putfield idx, 3)) (kk : J K A E nL (gB F h0 (.inr (ci, f0 :: f1 :: v :: ft) :: tl)) hs cells slots (pc + 3) lo rest) : J K A E nL (gB F h0 (.inr (ci, f0 :: f1 :: x :: ft) :: tl)) hs cells slots pc lo (v :: .ref h0 :: rest) := by
  refine j_putF hE hNm hF hC gB_0 hn hfit (by simp only [List.length_cons]; omega) hd ?_
  have e := gB_set (F := F) (h0 := h0) (es := .inr (ci, f0 :: f1 :: x :: ft) :: tl) (i := 0) (e := .inr (ci, f0 :: f1 :: v :: ft)) (by simp)
  exact Eq.mpr (congrArg (fun G9 => J K A E nL G9 hs cells slots (pc + 3) lo rest) e) kk
theorem b_put3 (hE : jC K A E own cc nL fr lo9 mc ms) {idx ci : Nat} {ty : FieldType} {f0 f1 f2 : Value} {x v : Value} {ft : List Value} {tl : List va_E} (hF : jF own idx ci 3 false ty) (hn : narrow ty v = v) (hfit : fits ty v = true) (hd : decode cc pc = .ok (.putfield idx, 3)) (kk : J K A E nL (gB F h0 (.inr (ci, f0 :: f1 :: f2 :: v :: ft) :: tl)) hs cells slots (pc + 3) lo rest) : J K A E nL (gB F h0 (.inr (ci, f0 :: f1 :: f2 :: x :: ft) :: tl)) hs cells slots pc lo (v :: .ref h0 :: rest) := by
  refine j_put hE hF gB_0 hn hfit (by simp only [List.length_cons]; omega) hd ?_
  have e := gB_set (F := F) (h0 := h0) (es := .inr (ci, f0 :: f1 :: f2 :: x :: ft) :: tl) (i := 0) (e := .inr (ci, f0 :: f1 :: f2 :: v :: ft)) (by simp)
  exact Eq.mpr (congrArg (fun G9 => J K A E nL G9 hs cells slots (pc + 3) lo rest) e) kk
theorem b_putF3 (hE : jC K A E own cc nL fr lo9 mc ms) {idx ci : Nat} {ty : FieldType} {f0 f1 f2 : Value} {x v : Value} {ft : List Value} {tl : List va_E} (hNm : jNm E "<init>") (hC : (vwCl[ci]?).map (fun q => q.1) = some own) (hF : jF own idx ci 3 true ty) (hn : narrow ty v = v) (hfit : fits ty v = true) (hd : decode cc pc = .ok (.putfield idx, 3)) (kk : J K A E nL (gB F h0 (.inr (ci, f0 :: f1 :: f2 :: v :: ft) :: tl)) hs cells slots (pc + 3) lo rest) : J K A E nL (gB F h0 (.inr (ci, f0 :: f1 :: f2 :: x :: ft) :: tl)) hs cells slots pc lo (v :: .ref h0 :: rest) := by
  refine j_putF hE hNm hF hC gB_0 hn hfit (by simp only [List.length_cons]; omega) hd ?_
  have e := gB_set (F := F) (h0 := h0) (es := .inr (ci, f0 :: f1 :: f2 :: x :: ft) :: tl) (i := 0) (e := .inr (ci, f0 :: f1 :: f2 :: v :: ft)) (by simp)
  exact Eq.mpr (congrArg (fun G9 => J K A E nL G9 hs cells slots (pc + 3) lo rest) e) kk
theorem b_put4 (hE : jC K A E own cc nL fr lo9 mc ms) {idx ci : Nat} {ty : FieldType} {f0 f1 f2 f3 : Value} {x v : Value} {ft : List Value} {tl : List va_E} (hF : jF own idx ci 4 false ty) (hn : narrow ty v = v) (hfit : fits ty v = true) (hd : decode cc pc = .ok (.putfield idx, 3)) (kk : J K A E nL (gB F h0 (.inr (ci, f0 :: f1 :: f2 :: f3 :: v :: ft) :: tl)) hs cells slots (pc + 3) lo rest) : J K A E nL (gB F h0 (.inr (ci, f0 :: f1 :: f2 :: f3 :: x :: ft) :: tl)) hs cells slots pc lo (v :: .ref h0 :: rest) := by
  refine j_put hE hF gB_0 hn hfit (by simp only [List.length_cons]; omega) hd ?_
  have e := gB_set (F := F) (h0 := h0) (es := .inr (ci, f0 :: f1 :: f2 :: f3 :: x :: ft) :: tl) (i := 0) (e := .inr (ci, f0 :: f1 :: f2 :: f3 :: v :: ft)) (by simp)
  exact Eq.mpr (congrArg (fun G9 => J K A E nL G9 hs cells slots (pc + 3) lo rest) e) kk
theorem b_putF4 (hE : jC K A E own cc nL fr lo9 mc ms) {idx ci : Nat} {ty : FieldType} {f0 f1 f2 f3 : Value} {x v : Value} {ft : List Value} {tl : List va_E} (hNm : jNm E "<init>") (hC : (vwCl[ci]?).map (fun q => q.1) = some own) (hF : jF own idx ci 4 true ty) (hn : narrow ty v = v) (hfit : fits ty v = true) (hd : decode cc pc = .ok (.putfield idx, 3)) (kk : J K A E nL (gB F h0 (.inr (ci, f0 :: f1 :: f2 :: f3 :: v :: ft) :: tl)) hs cells slots (pc + 3) lo rest) : J K A E nL (gB F h0 (.inr (ci, f0 :: f1 :: f2 :: f3 :: x :: ft) :: tl)) hs cells slots pc lo (v :: .ref h0 :: rest) := by
  refine j_putF hE hNm hF hC gB_0 hn hfit (by simp only [List.length_cons]; omega) hd ?_
  have e := gB_set (F := F) (h0 := h0) (es := .inr (ci, f0 :: f1 :: f2 :: f3 :: x :: ft) :: tl) (i := 0) (e := .inr (ci, f0 :: f1 :: f2 :: f3 :: v :: ft)) (by simp)
  exact Eq.mpr (congrArg (fun G9 => J K A E nL G9 hs cells slots (pc + 3) lo rest) e) kk
theorem b_put5 (hE : jC K A E own cc nL fr lo9 mc ms) {idx ci : Nat} {ty : FieldType} {f0 f1 f2 f3 f4 : Value} {x v : Value} {ft : List Value} {tl : List va_E} (hF : jF own idx ci 5 false ty) (hn : narrow ty v = v) (hfit : fits ty v = true) (hd : decode cc pc = .ok (.putfield idx, 3)) (kk : J K A E nL (gB F h0 (.inr (ci, f0 :: f1 :: f2 :: f3 :: f4 :: v :: ft) :: tl)) hs cells slots (pc + 3) lo rest) : J K A E nL (gB F h0 (.inr (ci, f0 :: f1 :: f2 :: f3 :: f4 :: x :: ft) :: tl)) hs cells slots pc lo (v :: .ref h0 :: rest) := by
  refine j_put hE hF gB_0 hn hfit (by simp only [List.length_cons]; omega) hd ?_
  have e := gB_set (F := F) (h0 := h0) (es := .inr (ci, f0 :: f1 :: f2 :: f3 :: f4 :: x :: ft) :: tl) (i := 0) (e := .inr (ci, f0 :: f1 :: f2 :: f3 :: f4 :: v :: ft)) (by simp)
  exact Eq.mpr (congrArg (fun G9 => J K A E nL G9 hs cells slots (pc + 3) lo rest) e) kk
theorem b_putF5 (hE : jC K A E own cc nL fr lo9 mc ms) {idx ci : Nat} {ty : FieldType} {f0 f1 f2 f3 f4 : Value} {x v : Value} {ft : List Value} {tl : List va_E} (hNm : jNm E "<init>") (hC : (vwCl[ci]?).map (fun q => q.1) = some own) (hF : jF own idx ci 5 true ty) (hn : narrow ty v = v) (hfit : fits ty v = true) (hd : decode cc pc = .ok (.putfield idx, 3)) (kk : J K A E nL (gB F h0 (.inr (ci, f0 :: f1 :: f2 :: f3 :: f4 :: v :: ft) :: tl)) hs cells slots (pc + 3) lo rest) : J K A E nL (gB F h0 (.inr (ci, f0 :: f1 :: f2 :: f3 :: f4 :: x :: ft) :: tl)) hs cells slots pc lo (v :: .ref h0 :: rest) := by
  refine j_putF hE hNm hF hC gB_0 hn hfit (by simp only [List.length_cons]; omega) hd ?_
  have e := gB_set (F := F) (h0 := h0) (es := .inr (ci, f0 :: f1 :: f2 :: f3 :: f4 :: x :: ft) :: tl) (i := 0) (e := .inr (ci, f0 :: f1 :: f2 :: f3 :: f4 :: v :: ft)) (by simp)
  exact Eq.mpr (congrArg (fun G9 => J K A E nL G9 hs cells slots (pc + 3) lo rest) e) kk
theorem b_put6 (hE : jC K A E own cc nL fr lo9 mc ms) {idx ci : Nat} {ty : FieldType} {f0 f1 f2 f3 f4 f5 : Value} {x v : Value} {ft : List Value} {tl : List va_E} (hF : jF own idx ci 6 false ty) (hn : narrow ty v = v) (hfit : fits ty v = true) (hd : decode cc pc = .ok (.putfield idx, 3)) (kk : J K A E nL (gB F h0 (.inr (ci, f0 :: f1 :: f2 :: f3 :: f4 :: f5 :: v :: ft) :: tl)) hs cells slots (pc + 3) lo rest) : J K A E nL (gB F h0 (.inr (ci, f0 :: f1 :: f2 :: f3 :: f4 :: f5 :: x :: ft) :: tl)) hs cells slots pc lo (v :: .ref h0 :: rest) := by
  refine j_put hE hF gB_0 hn hfit (by simp only [List.length_cons]; omega) hd ?_
  have e := gB_set (F := F) (h0 := h0) (es := .inr (ci, f0 :: f1 :: f2 :: f3 :: f4 :: f5 :: x :: ft) :: tl) (i := 0) (e := .inr (ci, f0 :: f1 :: f2 :: f3 :: f4 :: f5 :: v :: ft)) (by simp)
  exact Eq.mpr (congrArg (fun G9 => J K A E nL G9 hs cells slots (pc + 3) lo rest) e) kk
theorem b_putF6 (hE : jC K A E own cc nL fr lo9 mc ms) {idx ci : Nat} {ty : FieldType} {f0 f1 f2 f3 f4 f5 : Value} {x v : Value} {ft : List Value} {tl : List va_E} (hNm : jNm E "<init>") (hC : (vwCl[ci]?).map (fun q => q.1) = some own) (hF : jF own idx ci 6 true ty) (hn : narrow ty v = v) (hfit : fits ty v = true) (hd : decode cc pc = .ok (.putfield idx, 3)) (kk : J K A E nL (gB F h0 (.inr (ci, f0 :: f1 :: f2 :: f3 :: f4 :: f5 :: v :: ft) :: tl)) hs cells slots (pc + 3) lo rest) : J K A E nL (gB F h0 (.inr (ci, f0 :: f1 :: f2 :: f3 :: f4 :: f5 :: x :: ft) :: tl)) hs cells slots pc lo (v :: .ref h0 :: rest) := by
  refine j_putF hE hNm hF hC gB_0 hn hfit (by simp only [List.length_cons]; omega) hd ?_
  have e := gB_set (F := F) (h0 := h0) (es := .inr (ci, f0 :: f1 :: f2 :: f3 :: f4 :: f5 :: x :: ft) :: tl) (i := 0) (e := .inr (ci, f0 :: f1 :: f2 :: f3 :: f4 :: f5 :: v :: ft)) (by simp)
  exact Eq.mpr (congrArg (fun G9 => J K A E nL G9 hs cells slots (pc + 3) lo rest) e) kk
theorem b_put7 (hE : jC K A E own cc nL fr lo9 mc ms) {idx ci : Nat} {ty : FieldType} {f0 f1 f2 f3 f4 f5 f6 : Value} {x v : Value} {ft : List Value} {tl : List va_E} (hF : jF own idx ci 7 false ty) (hn : narrow ty v = v) (hfit : fits ty v = true) (hd : decode cc pc = .ok (.putfield idx, 3)) (kk : J K A E nL (gB F h0 (.inr (ci, f0 :: f1 :: f2 :: f3 :: f4 :: f5 :: f6 :: v :: ft) :: tl)) hs cells slots (pc + 3) lo rest) : J K A E nL (gB F h0 (.inr (ci, f0 :: f1 :: f2 :: f3 :: f4 :: f5 :: f6 :: x :: ft) :: tl)) hs cells slots pc lo (v :: .ref h0 :: rest) := by
  refine j_put hE hF gB_0 hn hfit (by simp only [List.length_cons]; omega) hd ?_
  have e := gB_set (F := F) (h0 := h0) (es := .inr (ci, f0 :: f1 :: f2 :: f3 :: f4 :: f5 :: f6 :: x :: ft) :: tl) (i := 0) (e := .inr (ci, f0 :: f1 :: f2 :: f3 :: f4 :: f5 :: f6 :: v :: ft)) (by simp)
  exact Eq.mpr (congrArg (fun G9 => J K A E nL G9 hs cells slots (pc + 3) lo rest) e) kk
theorem b_putF7 (hE : jC K A E own cc nL fr lo9 mc ms) {idx ci : Nat} {ty : FieldType} {f0 f1 f2 f3 f4 f5 f6 : Value} {x v : Value} {ft : List Value} {tl : List va_E} (hNm : jNm E "<init>") (hC : (vwCl[ci]?).map (fun q => q.1) = some own) (hF : jF own idx ci 7 true ty) (hn : narrow ty v = v) (hfit : fits ty v = true) (hd : decode cc pc = .ok (.putfield idx, 3)) (kk : J K A E nL (gB F h0 (.inr (ci, f0 :: f1 :: f2 :: f3 :: f4 :: f5 :: f6 :: v :: ft) :: tl)) hs cells slots (pc + 3) lo rest) : J K A E nL (gB F h0 (.inr (ci, f0 :: f1 :: f2 :: f3 :: f4 :: f5 :: f6 :: x :: ft) :: tl)) hs cells slots pc lo (v :: .ref h0 :: rest) := by
  refine j_putF hE hNm hF hC gB_0 hn hfit (by simp only [List.length_cons]; omega) hd ?_
  have e := gB_set (F := F) (h0 := h0) (es := .inr (ci, f0 :: f1 :: f2 :: f3 :: f4 :: f5 :: f6 :: x :: ft) :: tl) (i := 0) (e := .inr (ci, f0 :: f1 :: f2 :: f3 :: f4 :: f5 :: f6 :: v :: ft)) (by simp)
  exact Eq.mpr (congrArg (fun G9 => J K A E nL G9 hs cells slots (pc + 3) lo rest) e) kk
theorem b_put8 (hE : jC K A E own cc nL fr lo9 mc ms) {idx ci : Nat} {ty : FieldType} {f0 f1 f2 f3 f4 f5 f6 f7 : Value} {x v : Value} {ft : List Value} {tl : List va_E} (hF : jF own idx ci 8 false ty) (hn : narrow ty v = v) (hfit : fits ty v = true) (hd : decode cc pc = .ok (.putfield idx, 3)) (kk : J K A E nL (gB F h0 (.inr (ci, f0 :: f1 :: f2 :: f3 :: f4 :: f5 :: f6 :: f7 :: v :: ft) :: tl)) hs cells slots (pc + 3) lo rest) : J K A E nL (gB F h0 (.inr (ci, f0 :: f1 :: f2 :: f3 :: f4 :: f5 :: f6 :: f7 :: x :: ft) :: tl)) hs cells slots pc lo (v :: .ref h0 :: rest) := by
  refine j_put hE hF gB_0 hn hfit (by simp only [List.length_cons]; omega) hd ?_
  have e := gB_set (F := F) (h0 := h0) (es := .inr (ci, f0 :: f1 :: f2 :: f3 :: f4 :: f5 :: f6 :: f7 :: x :: ft) :: tl) (i := 0) (e := .inr (ci, f0 :: f1 :: f2 :: f3 :: f4 :: f5 :: f6 :: f7 :: v :: ft)) (by simp)
  exact Eq.mpr (congrArg (fun G9 => J K A E nL G9 hs cells slots (pc + 3) lo rest) e) kk
theorem b_putF8 (hE : jC K A E own cc nL fr lo9 mc ms) {idx ci : Nat} {ty : FieldType} {f0 f1 f2 f3 f4 f5 f6 f7 : Value} {x v : Value} {ft : List Value} {tl : List va_E} (hNm : jNm E "<init>") (hC : (vwCl[ci]?).map (fun q => q.1) = some own) (hF : jF own idx ci 8 true ty) (hn : narrow ty v = v) (hfit : fits ty v = true) (hd : decode cc pc = .ok (.putfield idx, 3)) (kk : J K A E nL (gB F h0 (.inr (ci, f0 :: f1 :: f2 :: f3 :: f4 :: f5 :: f6 :: f7 :: v :: ft) :: tl)) hs cells slots (pc + 3) lo rest) : J K A E nL (gB F h0 (.inr (ci, f0 :: f1 :: f2 :: f3 :: f4 :: f5 :: f6 :: f7 :: x :: ft) :: tl)) hs cells slots pc lo (v :: .ref h0 :: rest) := by
  refine j_putF hE hNm hF hC gB_0 hn hfit (by simp only [List.length_cons]; omega) hd ?_
  have e := gB_set (F := F) (h0 := h0) (es := .inr (ci, f0 :: f1 :: f2 :: f3 :: f4 :: f5 :: f6 :: f7 :: x :: ft) :: tl) (i := 0) (e := .inr (ci, f0 :: f1 :: f2 :: f3 :: f4 :: f5 :: f6 :: f7 :: v :: ft)) (by simp)
  exact Eq.mpr (congrArg (fun G9 => J K A E nL G9 hs cells slots (pc + 3) lo rest) e) kk
theorem b_put9 (hE : jC K A E own cc nL fr lo9 mc ms) {idx ci : Nat} {ty : FieldType} {f0 f1 f2 f3 f4 f5 f6 f7 f8 : Value} {x v : Value} {ft : List Value} {tl : List va_E} (hF : jF own idx ci 9 false ty) (hn : narrow ty v = v) (hfit : fits ty v = true) (hd : decode cc pc = .ok (.putfield idx, 3)) (kk : J K A E nL (gB F h0 (.inr (ci, f0 :: f1 :: f2 :: f3 :: f4 :: f5 :: f6 :: f7 :: f8 :: v :: ft) :: tl)) hs cells slots (pc + 3) lo rest) : J K A E nL (gB F h0 (.inr (ci, f0 :: f1 :: f2 :: f3 :: f4 :: f5 :: f6 :: f7 :: f8 :: x :: ft) :: tl)) hs cells slots pc lo (v :: .ref h0 :: rest) := by
  refine j_put hE hF gB_0 hn hfit (by simp only [List.length_cons]; omega) hd ?_
  have e := gB_set (F := F) (h0 := h0) (es := .inr (ci, f0 :: f1 :: f2 :: f3 :: f4 :: f5 :: f6 :: f7 :: f8 :: x :: ft) :: tl) (i := 0) (e := .inr (ci, f0 :: f1 :: f2 :: f3 :: f4 :: f5 :: f6 :: f7 :: f8 :: v :: ft)) (by simp)
  exact Eq.mpr (congrArg (fun G9 => J K A E nL G9 hs cells slots (pc + 3) lo rest) e) kk
theorem b_putF9 (hE : jC K A E own cc nL fr lo9 mc ms) {idx ci : Nat} {ty : FieldType} {f0 f1 f2 f3 f4 f5 f6 f7 f8 : Value} {x v : Value} {ft : List Value} {tl : List va_E} (hNm : jNm E "<init>") (hC : (vwCl[ci]?).map (fun q => q.1) = some own) (hF : jF own idx ci 9 true ty) (hn : narrow ty v = v) (hfit : fits ty v = true) (hd : decode cc pc = .ok (.putfield idx, 3)) (kk : J K A E nL (gB F h0 (.inr (ci, f0 :: f1 :: f2 :: f3 :: f4 :: f5 :: f6 :: f7 :: f8 :: v :: ft) :: tl)) hs cells slots (pc + 3) lo rest) : J K A E nL (gB F h0 (.inr (ci, f0 :: f1 :: f2 :: f3 :: f4 :: f5 :: f6 :: f7 :: f8 :: x :: ft) :: tl)) hs cells slots pc lo (v :: .ref h0 :: rest) := by
  refine j_putF hE hNm hF hC gB_0 hn hfit (by simp only [List.length_cons]; omega) hd ?_
  have e := gB_set (F := F) (h0 := h0) (es := .inr (ci, f0 :: f1 :: f2 :: f3 :: f4 :: f5 :: f6 :: f7 :: f8 :: x :: ft) :: tl) (i := 0) (e := .inr (ci, f0 :: f1 :: f2 :: f3 :: f4 :: f5 :: f6 :: f7 :: f8 :: v :: ft)) (by simp)
  exact Eq.mpr (congrArg (fun G9 => J K A E nL G9 hs cells slots (pc + 3) lo rest) e) kk
theorem b_ast1 (hE : jC K A E own cc nL fr lo9 mc ms) {e0 : va_E} {n j : Nat} {f : Nat → Int32} {x v : Int32} {tl : List va_E} (hx9 : x = nI j) (hj : j < n) (hn : n < 2 ^ 31) (hd : decode cc pc = .ok (.iastore, 1)) (kk : J K A E nL (gB F h0 (e0 :: iA K n (upd f j v) :: tl)) hs cells slots (pc + 1) lo rest) : J K A E nL (gB F h0 (e0 :: iA K n f :: tl)) hs cells slots pc lo (.int v :: .int x :: .ref (h0 + 1) :: rest) := by
  refine j_iast hE gB_1 hx9 hj hn hd ?_
  have e := gB_set (F := F) (h0 := h0) (es := e0 :: iA K n f :: tl) (i := 1) (e := iA K n (upd f j v)) (by simp)
  exact Eq.mpr (congrArg (fun G9 => J K A E nL G9 hs cells slots (pc + 1) lo rest) e) kk
theorem b_ast2 (hE : jC K A E own cc nL fr lo9 mc ms) {e0 e1 : va_E} {n j : Nat} {f : Nat → Int32} {x v : Int32} {tl : List va_E} (hx9 : x = nI j) (hj : j < n) (hn : n < 2 ^ 31) (hd : decode cc pc = .ok (.iastore, 1)) (kk : J K A E nL (gB F h0 (e0 :: e1 :: iA K n (upd f j v) :: tl)) hs cells slots (pc + 1) lo rest) : J K A E nL (gB F h0 (e0 :: e1 :: iA K n f :: tl)) hs cells slots pc lo (.int v :: .int x :: .ref (h0 + 2) :: rest) := by
  refine j_iast hE gB_2 hx9 hj hn hd ?_
  have e := gB_set (F := F) (h0 := h0) (es := e0 :: e1 :: iA K n f :: tl) (i := 2) (e := iA K n (upd f j v)) (by simp)
  exact Eq.mpr (congrArg (fun G9 => J K A E nL G9 hs cells slots (pc + 1) lo rest) e) kk
theorem b_ast3 (hE : jC K A E own cc nL fr lo9 mc ms) {e0 e1 e2 : va_E} {n j : Nat} {f : Nat → Int32} {x v : Int32} {tl : List va_E} (hx9 : x = nI j) (hj : j < n) (hn : n < 2 ^ 31) (hd : decode cc pc = .ok (.iastore, 1)) (kk : J K A E nL (gB F h0 (e0 :: e1 :: e2 :: iA K n (upd f j v) :: tl)) hs cells slots (pc + 1) lo rest) : J K A E nL (gB F h0 (e0 :: e1 :: e2 :: iA K n f :: tl)) hs cells slots pc lo (.int v :: .int x :: .ref (h0 + 3) :: rest) := by
  refine j_iast hE gB_3 hx9 hj hn hd ?_
  have e := gB_set (F := F) (h0 := h0) (es := e0 :: e1 :: e2 :: iA K n f :: tl) (i := 3) (e := iA K n (upd f j v)) (by simp)
  exact Eq.mpr (congrArg (fun G9 => J K A E nL G9 hs cells slots (pc + 1) lo rest) e) kk
end JB
