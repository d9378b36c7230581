/-! ===== the rows of J that read and write cells, make cells, call, return, throw ===== -/
abbrev iA (K : jK) (n : Nat) (f : Nat → Int32) : va_E := .inl (K.2 0, n, .inl f)
abbrev lA (K : jK) (n : Nat) (f : Nat → Int64) : va_E := .inl (K.2 3, n, .inr (.inl f))
abbrev dA (K : jK) (n : Nat) (f : Nat → UInt64) : va_E := .inl (K.2 4, n, .inr (.inr (.inr (.inl f))))
abbrev pA (K : jK) (n : Nat) (f : Nat → Option Nat) : va_E := .inl (K.2 1, n, .inr (.inr (.inr (.inr f))))
abbrev sA (K : jK) (n : Nat) (f : Nat → Option Nat) : va_E := .inl (K.2 2, n, .inr (.inr (.inr (.inr f))))
/-- a field by its link: the class's number, the field's number, final or not, its type -/
def jF (own : String) (idx ci k : Nat) (fin : Bool) (ty : FieldType) : Prop := ∃ (C : String) (T : u_T) (N : Nat) (ty0 : Nat → FieldType), vwCl[ci]? = some (C, T, N) ∧ (∀ w ∈ u_ws C T N, w ∈ jW) ∧ (∀ k, k < N → parseFieldDescriptor (T k).2.2.1 = some (ty0 k)) ∧ (∀ a, a < N → ∀ b, b < N → a ≠ b → (T a).2.1 ≠ (T b).2.1) ∧ k < N ∧ Cond.fieldLink own idx (T k).1 (T k).2.1 (T k).2.2.1 ∈ jW ∧ (T k).2.2.2 = fin ∧ (T k).1 = C ∧ parseFieldDescriptor (T k).2.2.1 = some ty
section JH
variable {K : jK} {A : Nat → Prop} {E : jE} {own : String} {cc : ByteArray} {nL fr lo9 mc ms : Nat} {G : GH} {hs cells slots pc : Nat} {lo : List (Option Value)} {rest : List Value}
theorem j_get (hE : jC K A E own cc nL fr lo9 mc ms) {idx ci k : Nat} {fin : Bool} {ty : FieldType} {a : Nat} {fs : List Value} {v : Value} (hF : jF own idx ci k fin ty) (hG : G a = some (.inr (ci, fs))) (hv : fs[k]? = some v) (hd : decode cc pc = .ok (.getfield idx, 3)) (kk : J K A E nL G hs cells slots (pc + 3) lo (v :: rest)) : J K A E nL G hs cells slots pc lo (.ref a :: rest) := by
  obtain ⟨p, l, e, R, s, m, args, below, meth, c, Q⟩ := E
  obtain ⟨hx, hb, hml, hown, hlk, hts, hN, hA, hst, hR⟩ := hE
  obtain ⟨C, T, N, ty0, h1, h2, h3, h4, h5, h6, h7, h8, h9⟩ := hF
  intro H locs ls hP hz hS hl
  exact va_get (D := K.1) (ci := ci) (C := C) (T := T) (N := N) hx hb hts h2 hown hN.1 (hP.p1 hG) 0 rfl h1 k h5 (hts _ h6) (fun _ h => h) hv hd (kk H locs ls hP hz hS hl)
theorem j_put (hE : jC K A E own cc nL fr lo9 mc ms) {idx ci k : Nat} {ty : FieldType} {a : Nat} {fs : List Value} {v : Value} (hF : jF own idx ci k false ty) (hG : G a = some (.inr (ci, fs))) (hn : narrow ty v = v) (hfit : fits ty v = true) (hl9 : k < fs.length) (hd : decode cc pc = .ok (.putfield idx, 3)) (kk : J K A E nL (gset G a (.inr (ci, fs.set k v))) hs cells slots (pc + 3) lo rest) : J K A E nL G hs cells slots pc lo (v :: .ref a :: rest) := by
  obtain ⟨p, l, e, R, s, m, args, below, meth, c, Q⟩ := E
  obtain ⟨hx, hb, hml, hown, hlk, hts, hN, hA, hst, hR⟩ := hE
  obtain ⟨C, T, N, ty0, h1, h2, h3, h4, h5, h6, h7, h8, h9⟩ := hF
  intro H locs ls hP hz hS hl
  have hK := hN.1
  have hap := va_apart (own := own) hts h2 ty0 h3 h4 hK h1
  obtain ⟨ws, q0, hPw, hDw, he, hback⟩ := hP.write (e' := .inr (ci, fs.set k v)) hG
  obtain ⟨r, g1, cell, q1, q2, q3, q4⟩ := hPw q0 _ he
  have hr : r = (C, T, N) := Option.some.inj (g1.symm.trans h1)
  subst hr
  obtain ⟨hSl, hfc, kC, hkC, hkind⟩ := hK.1 ci _ h1
  obtain ⟨cf, kf, fi, f, hi, hsl⟩ := hSl k h5
  have hlay := hts _ (h2 _ (u_in_lay h5))
  unfold u_lay at hlay
  rw [if_neg (by rw [h7]; decide)] at hlay
  have hst9 := (u_facts hfc hkC (u_lays hts h2 h5) hi).1
  have h6s := u_store hfc hkC hkind hlay hi h9 hn hfit
  refine W.putK hx hb (f := f) ⟨hown, hts _ h6, ⟨_, _, _, hi⟩, hst9⟩ (by rw [q2]; exact h6s) q1 q3 (by rw [hsl]; exact k2_hasslot (q4 k h5)) rfl rfl hd fun H' e1 e2 e3 => ?_
  rw [hsl] at e1 ⊢
  exact kk H' _ ls (hback H' (hPw.set hDw he ⟨_, h1, t_OB.to (V := updV (vp_V fs) k v) ⟨_, e1, q2, q3, t_set q4 hap h5 v⟩ (fun j _ => vp_updV_set hl9 v j)⟩ e3) (hDw.set he)) (e2.trans hz) (hS.put e2 e3 (hDw.2 q0 _ he)) hl
theorem j_putF (hE : jC K A E own cc nL fr lo9 mc ms) (hNm : jNm E "<init>") {idx ci k : Nat} {ty : FieldType} {a : Nat} {fs : List Value} {v : Value} (hF : jF own idx ci k true ty) (hC : (vwCl[ci]?).map (fun q => q.1) = some own) (hG : G a = some (.inr (ci, fs))) (hn : narrow ty v = v) (hfit : fits ty v = true) (hl9 : k < fs.length) (hd : decode cc pc = .ok (.putfield idx, 3)) (kk : J K A E nL (gset G a (.inr (ci, fs.set k v))) hs cells slots (pc + 3) lo rest) : J K A E nL G hs cells slots pc lo (v :: .ref a :: rest) := by
  obtain ⟨p, l, e, R, s, m, args, below, meth, c, Q⟩ := E
  obtain ⟨hx, hb, hml, hown, hlk, hts, hN, hA, hst, hR⟩ := hE
  obtain ⟨C, T, N, ty0, h1, h2, h3, h4, h5, h6, h7, h8, h9⟩ := hF
  intro H locs ls hP hz hS hl
  have hCo : C = own := by
    rw [h1] at hC
    exact Option.some.inj hC
  have hK := hN.1
  have hap := va_apart (own := own) hts h2 ty0 h3 h4 hK h1
  obtain ⟨ws, q0, hPw, hDw, he, hback⟩ := hP.write (e' := .inr (ci, fs.set k v)) hG
  obtain ⟨r, g1, cell, q1, q2, q3, q4⟩ := hPw q0 _ he
  have hr : r = (C, T, N) := Option.some.inj (g1.symm.trans h1)
  subst hr
  obtain ⟨hSl, hfc, kC, hkC, hkind⟩ := hK.1 ci _ h1
  obtain ⟨cf, kf, fi, f, hi, hsl⟩ := hSl k h5
  have hlay := hts _ (h2 _ (u_in_lay h5))
  unfold u_lay at hlay
  rw [if_pos h7] at hlay
  have hst9 := (u_facts hfc hkC (u_lays hts h2 h5) hi).1
  have hcf : m.cls = cf := by
    obtain ⟨_, _, c', _, _, _, -, -, hf', -, -, -, hown2, -⟩ := Cond.laysFinal_spec hlay
    have e1 : c' = cf := by have := hi.symm.trans hf'; simp at this; exact this.1.symm
    rw [h8, hCo] at hown2
    rw [← e1]; exact Option.some.inj (hown.symm.trans hown2)
  have h6s := u_fits hfc hkC hkind (Or.inr hlay) hi h9 hn hfit
  refine W.putFinK hx hb hown (hts _ h6) hi hst9 hcf hNm (by rw [q2]; exact h6s) q1 q3 (by rw [hsl]; exact k2_hasslot (q4 k h5)) rfl rfl hd fun H' e1 e2 e3 => ?_
  rw [hsl] at e1 ⊢
  exact kk H' _ ls (hback H' (hPw.set hDw he ⟨_, h1, t_OB.to (V := updV (vp_V fs) k v) ⟨_, e1, q2, q3, t_set q4 hap h5 v⟩ (fun j _ => vp_updV_set hl9 v j)⟩ e3) (hDw.set he)) (e2.trans hz) (hS.put e2 e3 (hDw.2 q0 _ he)) hl
theorem j_iald (hE : jC K A E own cc nL fr lo9 mc ms) {a n j : Nat} {f : Nat → Int32} {x : Int32} (hG : G a = some (iA K n f)) (hx9 : x = nI j) (hj : j < n) (hn : n < 2 ^ 31) (hd : decode cc pc = .ok (.iaload, 1)) (kk : J K A E nL G hs cells slots (pc + 1) lo (.int (f j) :: rest)) : J K A E nL G hs cells slots pc lo (.int x :: .ref a :: rest) := by
  obtain ⟨p, l, e, R, s, m, args, below, meth, c, Q⟩ := E
  obtain ⟨hx, hb, hml, hown, hlk, hts, hN, hA, hst, hR⟩ := hE
  intro H locs ls hP hz hS hl
  subst hx9
  refine va_iald (D := K.1) (cl := vwCl) hx hb hN.1 (hP.p1 hG) 0 0 rfl rfl (vp_in_nI hj hn) hd ?_
  rw [nI_clamp (by omega)]
  exact kk H locs ls hP hz hS hl
theorem j_lald (hE : jC K A E own cc nL fr lo9 mc ms) {a n j : Nat} {f : Nat → Int64} {x : Int32} (hG : G a = some (lA K n f)) (hx9 : x = nI j) (hj : j < n) (hn : n < 2 ^ 31) (hd : decode cc pc = .ok (.laload, 1)) (kk : J K A E nL G hs cells slots (pc + 1) lo (.long (f j) :: rest)) : J K A E nL G hs cells slots pc lo (.int x :: .ref a :: rest) := by
  obtain ⟨p, l, e, R, s, m, args, below, meth, c, Q⟩ := E
  obtain ⟨hx, hb, hml, hown, hlk, hts, hN, hA, hst, hR⟩ := hE
  intro H locs ls hP hz hS hl
  subst hx9
  refine va_lald (D := K.1) (cl := vwCl) hx hb hN.1 (hP.p1 hG) 0 3 rfl rfl (vp_in_nI hj hn) hd ?_
  rw [nI_clamp (by omega)]
  exact kk H locs ls hP hz hS hl
theorem j_dald (hE : jC K A E own cc nL fr lo9 mc ms) {a n j : Nat} {f : Nat → UInt64} {x : Int32} (hG : G a = some (dA K n f)) (hx9 : x = nI j) (hj : j < n) (hn : n < 2 ^ 31) (hd : decode cc pc = .ok (.daload, 1)) (kk : J K A E nL G hs cells slots (pc + 1) lo (.double (f j) :: rest)) : J K A E nL G hs cells slots pc lo (.int x :: .ref a :: rest) := by
  obtain ⟨p, l, e, R, s, m, args, below, meth, c, Q⟩ := E
  obtain ⟨hx, hb, hml, hown, hlk, hts, hN, hA, hst, hR⟩ := hE
  intro H locs ls hP hz hS hl
  subst hx9
  refine va_dald (D := K.1) (cl := vwCl) hx hb hN.1 (hP.p1 hG) 0 4 rfl rfl (vp_in_nI hj hn) hd ?_
  rw [nI_clamp (by omega)]
  exact kk H locs ls hP hz hS hl
theorem j_aldP (hE : jC K A E own cc nL fr lo9 mc ms) {a n j : Nat} {f : Nat → Option Nat} {x : Int32} (hG : G a = some (pA K n f)) (hx9 : x = nI j) (hj : j < n) (hn : n < 2 ^ 31) (hd : decode cc pc = .ok (.aaload, 1)) (kk : J K A E nL G hs cells slots (pc + 1) lo (va_rf (f j) :: rest)) : J K A E nL G hs cells slots pc lo (.int x :: .ref a :: rest) := by
  obtain ⟨p, l, e, R, s, m, args, below, meth, c, Q⟩ := E
  obtain ⟨hx, hb, hml, hown, hlk, hts, hN, hA, hst, hR⟩ := hE
  intro H locs ls hP hz hS hl
  subst hx9
  refine va_aldq (D := K.1) (cl := vwCl) hx hb hN.1 (hP.p1 hG) 0 1 rfl rfl (vp_in_nI hj hn) hd ?_
  rw [nI_clamp (by omega)]
  exact kk H locs ls hP hz hS hl
theorem j_aldS (hE : jC K A E own cc nL fr lo9 mc ms) {a n j : Nat} {f : Nat → Option Nat} {x : Int32} (hG : G a = some (sA K n f)) (hx9 : x = nI j) (hj : j < n) (hn : n < 2 ^ 31) (hd : decode cc pc = .ok (.aaload, 1)) (kk : J K A E nL G hs cells slots (pc + 1) lo (va_rf (f j) :: rest)) : J K A E nL G hs cells slots pc lo (.int x :: .ref a :: rest) := by
  obtain ⟨p, l, e, R, s, m, args, below, meth, c, Q⟩ := E
  obtain ⟨hx, hb, hml, hown, hlk, hts, hN, hA, hst, hR⟩ := hE
  intro H locs ls hP hz hS hl
  subst hx9
  refine va_aldq (D := K.1) (cl := vwCl) hx hb hN.1 (hP.p1 hG) 0 2 rfl rfl (vp_in_nI hj hn) hd ?_
  rw [nI_clamp (by omega)]
  exact kk H locs ls hP hz hS hl
theorem j_iast (hE : jC K A E own cc nL fr lo9 mc ms) {a n j : Nat} {f : Nat → Int32} {x v : Int32} (hG : G a = some (iA K n f)) (hx9 : x = nI j) (hj : j < n) (hn : n < 2 ^ 31) (hd : decode cc pc = .ok (.iastore, 1)) (kk : J K A E nL (gset G a (iA K n (upd f j v))) hs cells slots (pc + 1) lo rest) : J K A E nL G hs cells slots pc lo (.int v :: .int x :: .ref a :: rest) := by
  obtain ⟨p, l, e, R, s, m, args, below, meth, c, Q⟩ := E
  obtain ⟨hx, hb, hml, hown, hlk, hts, hN, hA, hst, hR⟩ := hE
  intro H locs ls hP hz hS hl
  subst hx9
  obtain ⟨ws, q0, hPw, hDw, he, hback⟩ := hP.write (e' := iA K n (upd f j v)) hG
  refine W.iast hx hb (hPw q0 _ he) ((hN.1.2 0 _ rfl).1 n (fun j => .int (f j))) (fun q => by cases q) (by show ¬ (_ ∨ (arrV _ _ _).slots.size ≤ _); rw [arrV_size]; exact vp_in_nI hj hn) rfl rfl hd fun H1 e z oq => ?_
  refine kk H1 _ ls (hback H1 (hPw.set hDw he ?_ oq) (hDw.set he)) (z.trans hz) (hS.put z oq (hDw.2 q0 _ he)) hl
  show H1[a]? = some (vp_cell _ _)
  rw [e, vp_cell_i, vp_cell_i, arrV_store, nI_clamp (by omega)]
  congr 2
  funext q
  by_cases hq : q = j
  · subst hq
    simp [updV, upd]
  · simp [updV, upd, hq]
theorem j_last (hE : jC K A E own cc nL fr lo9 mc ms) {a n j : Nat} {f : Nat → Int64} {x : Int32} {v : Int64} (hG : G a = some (lA K n f)) (hx9 : x = nI j) (hj : j < n) (hn : n < 2 ^ 31) (hd : decode cc pc = .ok (.lastore, 1)) (kk : ∀ hs, J K A E nL (gset G a (lA K n (vp_updL f j v))) hs cells slots (pc + 1) lo rest) : J K A E nL G hs cells slots pc lo (.long v :: .int x :: .ref a :: rest) := by
  obtain ⟨p, l, e, R, s, m, args, below, meth, c, Q⟩ := E
  obtain ⟨hx, hb, hml, hown, hlk, hts, hN, hA, hst, hR⟩ := hE
  intro H locs ls hP hz hS hl
  subst hx9
  obtain ⟨ws, q0, hPw, hDw, he, hback⟩ := hP.write (e' := lA K n (vp_updL f j v)) hG
  refine va_last (D := K.1) (cl := vwCl) hx hb hN.1 hPw hDw hS q0 3 he rfl (vp_in_nI hj hn) hd (fun H1 locs1 hP1 hD1 hS1 => ?_)
  rw [nI_clamp (by omega)] at hP1 hD1
  exact kk H1.size H1 locs1 ls (hback H1 hP1 hD1) rfl hS1 hl
theorem j_dast (hE : jC K A E own cc nL fr lo9 mc ms) {a n j : Nat} {f : Nat → UInt64} {x : Int32} {v : UInt64} (hG : G a = some (dA K n f)) (hx9 : x = nI j) (hj : j < n) (hn : n < 2 ^ 31) (hd : decode cc pc = .ok (.dastore, 1)) (kk : ∀ hs, J K A E nL (gset G a (dA K n (vf_upd f j v))) hs cells slots (pc + 1) lo rest) : J K A E nL G hs cells slots pc lo (.double v :: .int x :: .ref a :: rest) := by
  obtain ⟨p, l, e, R, s, m, args, below, meth, c, Q⟩ := E
  obtain ⟨hx, hb, hml, hown, hlk, hts, hN, hA, hst, hR⟩ := hE
  intro H locs ls hP hz hS hl
  subst hx9
  obtain ⟨ws, q0, hPw, hDw, he, hback⟩ := hP.write (e' := dA K n (vf_upd f j v)) hG
  refine va_dast (D := K.1) (cl := vwCl) hx hb hN.1 hPw hDw hS q0 4 he rfl (vp_in_nI hj hn) hd (fun H1 locs1 hP1 hD1 hS1 => ?_)
  rw [nI_clamp (by omega)] at hP1 hD1
  exact kk H1.size H1 locs1 ls (hback H1 hP1 hD1) rfl hS1 hl
theorem j_alen (hE : jC K A E own cc nL fr lo9 mc ms) {a n : Nat} {f : Nat → Int32} (hG : G a = some (iA K n f)) (hd : decode cc pc = .ok (.arraylength, 1)) (kk : J K A E nL G hs cells slots (pc + 1) lo (.int (nI n) :: rest)) : J K A E nL G hs cells slots pc lo (.ref a :: rest) := by
  obtain ⟨p, l, e, R, s, m, args, below, meth, c, Q⟩ := E
  obtain ⟨hx, hb, hml, hown, hlk, hts, hN, hA, hst, hR⟩ := hE
  intro H locs ls hP hz hS hl
  exact va_alen (D := K.1) (cl := vwCl) hx hb hN.1 (hP.p1 hG) 0 0 rfl rfl rfl hd (kk H locs ls hP hz hS hl)
theorem j_alenP (hE : jC K A E own cc nL fr lo9 mc ms) {a n : Nat} {f : Nat → Option Nat} (hG : G a = some (pA K n f)) (hd : decode cc pc = .ok (.arraylength, 1)) (kk : J K A E nL G hs cells slots (pc + 1) lo (.int (nI n) :: rest)) : J K A E nL G hs cells slots pc lo (.ref a :: rest) := by
  obtain ⟨p, l, e, R, s, m, args, below, meth, c, Q⟩ := E
  obtain ⟨hx, hb, hml, hown, hlk, hts, hN, hA, hst, hR⟩ := hE
  intro H locs ls hP hz hS hl
  exact va_alen (D := K.1) (cl := vwCl) hx hb hN.1 (hP.p1 hG) 0 1 rfl rfl rfl hd (kk H locs ls hP hz hS hl)
theorem j_alenS (hE : jC K A E own cc nL fr lo9 mc ms) {a n : Nat} {f : Nat → Option Nat} (hG : G a = some (sA K n f)) (hd : decode cc pc = .ok (.arraylength, 1)) (kk : J K A E nL G hs cells slots (pc + 1) lo (.int (nI n) :: rest)) : J K A E nL G hs cells slots pc lo (.ref a :: rest) := by
  obtain ⟨p, l, e, R, s, m, args, below, meth, c, Q⟩ := E
  obtain ⟨hx, hb, hml, hown, hlk, hts, hN, hA, hst, hR⟩ := hE
  intro H locs ls hP hz hS hl
  exact va_alen (D := K.1) (cl := vwCl) hx hb hN.1 (hP.p1 hG) 0 2 rfl rfl rfl hd (kk H locs ls hP hz hS hl)
end JH
