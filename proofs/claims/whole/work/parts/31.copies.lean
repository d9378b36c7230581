/-! ===== copies into a block; a plain fill ===== -/
theorem gset_id {G : GH} {a : Nat} {e : va_E} (h : G a = some e) : gset G a e = G := by
  funext b
  by_cases hb : b = a
  · subst hb; rw [gset_s, h]
  · rw [gset_n hb]
theorem gset_gset (G : GH) (a : Nat) (e e' : va_E) : gset (gset G a e) a e' = gset G a e' := by
  funext b
  by_cases hb : b = a
  · subst hb; rw [gset_s, gset_s]
  · rw [gset_n hb, gset_n hb, gset_n hb]
theorem gB_s1 {F : GH} {h0 : Nat} {e0 e1 e : va_E} {tl : List va_E} : gset (gB F h0 (e0 :: e1 :: tl)) (h0 + 1) e = gB F h0 (e0 :: e :: tl) := gB_set (i := 1) (by simp)
theorem gB_s2 {F : GH} {h0 : Nat} {e0 e1 e2 e : va_E} {tl : List va_E} : gset (gB F h0 (e0 :: e1 :: e2 :: tl)) (h0 + 2) e = gB F h0 (e0 :: e1 :: e :: tl) := gB_set (i := 2) (by simp)
section JY
variable {K : jK} {A : Nat → Prop} {E : jE} {own : String} {cc : ByteArray} {nL fr lo9 mc ms : Nat} {F : GH} {h0 hs cells slots pc : Nat} {lo : List (Option Value)} {rest : List Value}
theorem b_copy1 (hE : jC K A E own cc nL fr lo9 mc ms) {idx a0 n0 n1 sp dp n : Nat} {f g : Nat → Int32} {x y z : Int32} {e0 : va_E} {tl : List va_E} (hw : Cond.methodLink own idx arraycopyName ∈ jW) (hw1 : Cond.native arraycopyName ∈ jW) (hw2 : Cond.static arraycopyName ∈ jW) (hw3 : Cond.initialized "java/lang/System" ∈ jW) (hG0 : gB F h0 (e0 :: iA K n1 g :: tl) a0 = some (iA K n0 f)) (hx9 : x = nI n) (hy9 : y = nI dp) (hz9 : z = nI sp) (h4 : sp + n ≤ n0) (h5 : dp + n ≤ n1) (h6 : n0 < 2 ^ 31) (h7 : n1 < 2 ^ 31) (hfr : 1 ≤ fr) (hlo : (rest.map fun v => v.category).sum + 18 ≤ lo9) (hd : decode cc pc = .ok (.invokestatic idx, 3))
    (kk : ∀ hs, J K A E nL (gB F h0 (e0 :: iA K n1 (va_cpy f g sp dp n) :: tl)) hs cells slots (pc + 3) lo rest) : J K A E nL (gB F h0 (e0 :: iA K n1 g :: tl)) hs cells slots pc lo (.int x :: .int y :: .ref (h0 + 1) :: .int z :: .ref a0 :: rest) := by
  refine j_copy hE hw hw1 hw2 hw3 hG0 gB_1 hx9 hy9 hz9 h4 h5 h6 h7 hfr (by simpa [nativeFrameWords] using hlo) hd (fun hs => ?_)
  rw [gB_s1]
  exact kk hs
theorem b_copy2 (hE : jC K A E own cc nL fr lo9 mc ms) {idx a0 n0 n1 sp dp n : Nat} {f g : Nat → Int32} {x y z : Int32} {e0 e1 : va_E} {tl : List va_E} (hw : Cond.methodLink own idx arraycopyName ∈ jW) (hw1 : Cond.native arraycopyName ∈ jW) (hw2 : Cond.static arraycopyName ∈ jW) (hw3 : Cond.initialized "java/lang/System" ∈ jW) (hG0 : gB F h0 (e0 :: e1 :: iA K n1 g :: tl) a0 = some (iA K n0 f)) (hx9 : x = nI n) (hy9 : y = nI dp) (hz9 : z = nI sp) (h4 : sp + n ≤ n0) (h5 : dp + n ≤ n1) (h6 : n0 < 2 ^ 31) (h7 : n1 < 2 ^ 31) (hfr : 1 ≤ fr) (hlo : (rest.map fun v => v.category).sum + 18 ≤ lo9) (hd : decode cc pc = .ok (.invokestatic idx, 3))
    (kk : ∀ hs, J K A E nL (gB F h0 (e0 :: e1 :: iA K n1 (va_cpy f g sp dp n) :: tl)) hs cells slots (pc + 3) lo rest) : J K A E nL (gB F h0 (e0 :: e1 :: iA K n1 g :: tl)) hs cells slots pc lo (.int x :: .int y :: .ref (h0 + 2) :: .int z :: .ref a0 :: rest) := by
  refine j_copy hE hw hw1 hw2 hw3 hG0 gB_2 hx9 hy9 hz9 h4 h5 h6 h7 hfr (by simpa [nativeFrameWords] using hlo) hd (fun hs => ?_)
  rw [gB_s2]
  exact kk hs
end JY
