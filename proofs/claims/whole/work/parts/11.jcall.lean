/-! ===== cells that are made; copies; calls; ends ===== -/
theorem gP.two {D : va_G} {A : Nat → Prop} {G : GH} {H : Heap} (h : gP D A G H) {a b : Nat} {e e' eb : va_E} (hg : G a = some e) (hb : G b = some eb) :
    ∃ (ws : va_W) (k kb : Nat), va_P D vwCl ws H ∧ va_D A ws ∧ ws[k]? = some (a, e) ∧ ws[kb]? = some (b, eb) ∧ ∀ H1, va_P D vwCl (ws.set k (a, e')) H1 → va_D A (ws.set k (a, e')) → gP D A (gset G a e') H1 := by
  obtain ⟨L, f, hG, hP, hD⟩ := h
  obtain ⟨hm, he⟩ := gP.place (D := D) (H := H) hG hg
  obtain ⟨hm2, he2⟩ := gP.place (D := D) (H := H) hG hb
  obtain ⟨k, hk⟩ := va_pl_get (X := []) (f := f) hm
  obtain ⟨kb, hkb⟩ := va_pl_get (X := []) (f := f) hm2
  refine ⟨va_pl L f, k, kb, hP, hD, by rw [← he]; exact hk, by rw [← he2]; exact hkb, fun H1 hP1 hD1 => ?_⟩
  have e1 : (va_pl L f).set k (a, e') = va_pl L (va_up f a e') := va_pl_set (X := []) hD hm hk
  rw [e1] at hP1 hD1
  refine ⟨L, va_up f a e', fun b => ?_, hP1, hD1⟩
  by_cases hb : b = a
  · subst hb
    rw [gset_s, if_pos hm, va_up_self]
  · rw [gset_n hb, hG b, va_up_ne f e' hb]
/-- a class that is made: its link, its number, its fields at birth -/
def jMk (own : String) (idx ci N : Nat) (fs : List Value) : Prop := ∃ (C : String) (T : u_T) (ty0 : Nat → FieldType), vwCl[ci]? = some (C, T, N) ∧ (∀ w ∈ u_ws C T N, w ∈ jW) ∧ (∀ k, k < N → parseFieldDescriptor (T k).2.2.1 = some (ty0 k)) ∧ Cond.classLink own idx C ∈ jW ∧ Cond.instantiable C N ∈ jW ∧ Cond.initialized C ∈ jW ∧ ∀ j, j < N → defaultValue (ty0 j) = vp_V fs j
/-- a method that is called: by a receiver's class; static -/
def jV (own : String) (idx ci : Nat) (y : MethodName) (cc : ByteArray) (maxL : Nat) (ret : Option FieldType) (n : Nat) : Prop := Cond.methodLink own idx y ∈ jW ∧ Cond.instanceMethod y ∈ jW ∧ Cond.selects y.cls y y ∈ jW ∧ Cond.initialized y.cls ∈ jW ∧ Cond.code y cc maxL ret ∈ jW ∧ (∃ (T : u_T) (N : Nat), vwCl[ci]? = some (y.cls, T, N)) ∧ (y.cls ≠ "java/lang/invoke/MethodHandle" ∧ y.cls ≠ "java/lang/invoke/VarHandle") ∧ (parseMethodDescriptor y.desc).map (fun d => d.parameters.length) = some n
def jS (own : String) (idx : Nat) (y : MethodName) (cc : ByteArray) (maxL : Nat) (ret : Option FieldType) (n : Nat) : Prop := Cond.methodLink own idx y ∈ jW ∧ Cond.static y ∈ jW ∧ Cond.initialized y.cls ∈ jW ∧ Cond.code y cc maxL ret ∈ jW ∧ (y.cls ≠ "java/lang/invoke/MethodHandle" ∧ y.cls ≠ "java/lang/invoke/VarHandle") ∧ (parseMethodDescriptor y.desc).map (fun d => d.parameters.length) = some n
/-- a constructor by a plain link -/
def jI (own : String) (idx : Nat) (y : MethodName) (cc : ByteArray) (maxL : Nat) (n : Nat) : Prop := Cond.methodLink own idx y ∈ jW ∧ Cond.instanceMethod y ∈ jW ∧ Cond.initialized y.cls ∈ jW ∧ Cond.code y cc maxL none ∈ jW ∧ y.name = "<init>" ∧ (y.cls ≠ "java/lang/invoke/MethodHandle" ∧ y.cls ≠ "java/lang/invoke/VarHandle") ∧ (parseMethodDescriptor y.desc).map (fun d => d.parameters.length) = some n
/-- .. of a nest mate -/
def jIN (own : String) (idx : Nat) (y : MethodName) (cc : ByteArray) (maxL : Nat) (n : Nat) : Prop := (own, idx, y, "FrameCommutator") ∈ jNest ∧ Cond.instanceMethod y ∈ jW ∧ Cond.initialized y.cls ∈ jW ∧ Cond.code y cc maxL none ∈ jW ∧ y.name = "<init>" ∧ (y.cls ≠ "java/lang/invoke/MethodHandle" ∧ y.cls ≠ "java/lang/invoke/VarHandle") ∧ (parseMethodDescriptor y.desc).map (fun d => d.parameters.length) = some n
def jSN (own : String) (idx : Nat) (y : MethodName) (cc : ByteArray) (maxL : Nat) (ret : Option FieldType) (n : Nat) : Prop := (own, idx, y, "FrameCommutator") ∈ jNest ∧ Cond.static y ∈ jW ∧ Cond.initialized y.cls ∈ jW ∧ Cond.code y cc maxL ret ∈ jW ∧ (y.cls ≠ "java/lang/invoke/MethodHandle" ∧ y.cls ≠ "java/lang/invoke/VarHandle") ∧ (parseMethodDescriptor y.desc).map (fun d => d.parameters.length) = some n
theorem jW_cons {y : MethodName} {cc : ByteArray} {maxL : Nat} {ret : Option FieldType} (h : Cond.code y cc maxL ret ∈ jW) : GoodIn jW (Cond.code y cc maxL ret :: jW) := fun w hw => by
  rcases List.mem_cons.mp hw with rfl | hw
  · exact ⟨h, jW_good _ h⟩
  · exact ⟨hw, jW_good _ hw⟩
section JM
variable {K : jK} {A : Nat → Prop} {E : jE} {own : String} {cc : ByteArray} {nL fr lo9 mc ms : Nat} {G : GH} {hs cells slots pc : Nat} {lo : List (Option Value)} {rest : List Value}
theorem j_new (hE : jC K A E own cc nL fr lo9 mc ms) {idx ci N : Nat} {fs : List Value} (hM : jMk own idx ci N fs) (hc9 : cells + 1 ≤ mc) (hs9 : slots + N ≤ ms) (hd : decode cc pc = .ok (.new idx, 3)) (kk : J K A E nL (gset G hs (.inr (ci, fs))) (hs + 1) (cells + 1) (slots + N) (pc + 3) lo (.ref hs :: rest)) : J K A E nL G hs cells slots pc lo rest := by
  obtain ⟨p, l, e, R, s, m, args, below, meth, c, Q⟩ := E
  obtain ⟨hx, hb, hml, hown, hlk, hts, hN, hA, hst, hR⟩ := hE
  obtain ⟨C, T, ty0, h1, h2, h3, h4, h5, h6, h7⟩ := hM
  intro H locs ls hP hz hS hl
  subst hR
  have hKn := hN.1.1 ci _ h1
  refine W.newcK hx hb hown (hts _ h4) (hts _ h5) (hts _ h6) rfl hd hc9 hs9 hKn.2.1 rfl fun H1 kC hkC e1 z1 o1 => ?_
  rw [hz] at e1 z1 o1 ⊢
  refine kk H1 locs ls (hP.push hz.symm (hA _ (by rw [← hz]; exact hS.1)) ⟨_, h1, (u_born ty0 hts h2 hKn hkC e1 h3).to h7⟩ (by rw [hz]; exact o1)) z1 ⟨Nat.le_trans hS.1 (by omega), fun x g1 g2 => (o1 x (Nat.lt_of_lt_of_le g1 (by rw [← hz]; exact hS.1))).trans (hS.2.1 x g1 g2), hS.2.2⟩ hl
theorem j_newi (hE : jC K A E own cc nL fr lo9 mc ms) {N : Nat} {x : Int32} (hx9 : x = nI N) (hN9 : N ≤ 100000) (hw : Cond.arrayClass .int ∈ jW) (hc9 : cells + 1 ≤ mc) (hs9 : slots + N ≤ ms) (hd : decode cc pc = .ok (.newarray .int, 2)) (kk : J K A E nL (gset G hs (iA K N (fun _ => 0))) (hs + 1) (cells + 1) (slots + N) (pc + 2) lo (.ref hs :: rest)) : J K A E nL G hs cells slots pc lo (.int x :: rest) := by
  obtain ⟨p, l, e, R, s, m, args, below, meth, c, Q⟩ := E
  obtain ⟨hx, hb, hml, hown, hlk, hts, hN, hA, hst, hR⟩ := hE
  intro H locs ls hP hz hS hl
  subst hR
  subst hx9
  refine va_newaK (atype := .int) (N := N) (h := hs) hx hb (hts _ hw) rfl hd rfl (nI_pos (by omega)) (nI_clamp (by omega)) (by show N * 4 ≤ _; omega) hc9 hs9 hz fun H1 cA e1 z1 o1 hAr hNm => ?_
  have hcA : cA = K.2 0 := Option.some.inj (hNm.symm.trans (hN.1.2 0 _ rfl).2)
  subst hcA
  exact kk H1 locs ls (hP.push hz.symm (hA _ (by rw [← hz]; exact hS.1)) e1 (by rw [hz]; exact o1)) z1 ⟨Nat.le_trans hS.1 (by omega), fun x g1 g2 => (o1 x (Nat.lt_of_lt_of_le g1 (by rw [← hz]; exact hS.1))).trans (hS.2.1 x g1 g2), hS.2.2⟩ hl
theorem j_newl (hE : jC K A E own cc nL fr lo9 mc ms) {N : Nat} {x : Int32} (hx9 : x = nI N) (hN9 : N ≤ 100000) (hw : Cond.arrayClass .long ∈ jW) (hc9 : cells + 1 ≤ mc) (hs9 : slots + N ≤ ms) (hd : decode cc pc = .ok (.newarray .long, 2)) (kk : J K A E nL (gset G hs (lA K N (fun _ => 0))) (hs + 1) (cells + 1) (slots + N) (pc + 2) lo (.ref hs :: rest)) : J K A E nL G hs cells slots pc lo (.int x :: rest) := by
  obtain ⟨p, l, e, R, s, m, args, below, meth, c, Q⟩ := E
  obtain ⟨hx, hb, hml, hown, hlk, hts, hN, hA, hst, hR⟩ := hE
  intro H locs ls hP hz hS hl
  subst hR
  subst hx9
  refine va_newaK (atype := .long) (N := N) (h := hs) hx hb (hts _ hw) rfl hd rfl (nI_pos (by omega)) (nI_clamp (by omega)) (by show N * 8 ≤ _; omega) hc9 hs9 hz fun H1 cA e1 z1 o1 hAr hNm => ?_
  have hcA : cA = K.2 3 := Option.some.inj (hNm.symm.trans (hN.1.2 3 _ rfl).2)
  subst hcA
  exact kk H1 locs ls (hP.push hz.symm (hA _ (by rw [← hz]; exact hS.1)) e1 (by rw [hz]; exact o1)) z1 ⟨Nat.le_trans hS.1 (by omega), fun x g1 g2 => (o1 x (Nat.lt_of_lt_of_le g1 (by rw [← hz]; exact hS.1))).trans (hS.2.1 x g1 g2), hS.2.2⟩ hl
theorem j_newd (hE : jC K A E own cc nL fr lo9 mc ms) {N : Nat} {x : Int32} (hx9 : x = nI N) (hN9 : N ≤ 100000) (hw : Cond.arrayClass .double ∈ jW) (hc9 : cells + 1 ≤ mc) (hs9 : slots + N ≤ ms) (hd : decode cc pc = .ok (.newarray .double, 2)) (kk : J K A E nL (gset G hs (dA K N (fun _ => 0))) (hs + 1) (cells + 1) (slots + N) (pc + 2) lo (.ref hs :: rest)) : J K A E nL G hs cells slots pc lo (.int x :: rest) := by
  obtain ⟨p, l, e, R, s, m, args, below, meth, c, Q⟩ := E
  obtain ⟨hx, hb, hml, hown, hlk, hts, hN, hA, hst, hR⟩ := hE
  intro H locs ls hP hz hS hl
  subst hR
  subst hx9
  refine va_newaK (atype := .double) (N := N) (h := hs) hx hb (hts _ hw) rfl hd rfl (nI_pos (by omega)) (nI_clamp (by omega)) (by show N * 8 ≤ _; omega) hc9 hs9 hz fun H1 cA e1 z1 o1 hAr hNm => ?_
  have hcA : cA = K.2 4 := Option.some.inj (hNm.symm.trans (hN.1.2 4 _ rfl).2)
  subst hcA
  exact kk H1 locs ls (hP.push hz.symm (hA _ (by rw [← hz]; exact hS.1)) e1 (by rw [hz]; exact o1)) z1 ⟨Nat.le_trans hS.1 (by omega), fun x g1 g2 => (o1 x (Nat.lt_of_lt_of_le g1 (by rw [← hz]; exact hS.1))).trans (hS.2.1 x g1 g2), hS.2.2⟩ hl
theorem j_newq {C : String} (i9 : Nat) (hT9 : ∀ K : jK, (jT K)[i9]? = some (K.2 i9, .object C)) (hAO : gN K A E.2.2.2.2.1 → va_AO C E.2.2.2.2.1) (hE : jC K A E own cc nL fr lo9 mc ms) {idx N : Nat} {x : Int32} (hx9 : x = nI N) (hN9 : N ≤ 100000) (hw : Cond.classLink own idx C ∈ jW) (hc9 : cells + 1 ≤ mc) (hs9 : slots + N ≤ ms) (hd : decode cc pc = .ok (.anewarray idx, 3)) (kk : J K A E nL (gset G hs (.inl (K.2 i9, N, .inr (.inr (.inr (.inr (fun _ => none))))))) (hs + 1) (cells + 1) (slots + N) (pc + 3) lo (.ref hs :: rest)) : J K A E nL G hs cells slots pc lo (.int x :: rest) := by
  obtain ⟨p, l, e, R, s, m, args, below, meth, c, Q⟩ := E
  obtain ⟨hx, hb, hml, hown, hlk, hts, hN, hA, hst, hR⟩ := hE
  intro H locs ls hP hz hS hl
  subst hR
  subst hx9
  refine W.anew hx hb hown (hts _ hw) (va_AO.use (hAO hN)) rfl hd rfl (nI_pos (by omega)) (by rw [nI_clamp (by omega)]; show N * 4 ≤ _; omega) hc9 (by rw [nI_clamp (by omega)]; exact hs9) fun cA kA comp f1 f2 f3 f4 => ?_
  rw [nI_clamp (by omega)]
  generalize hH1 : H.push ({ cls := cA, slots := Array.replicate N .null, vm := .none } : Cell) = H1
  have z1 : H1.size = H.size + 1 := by rw [← hH1, Array.size_push]
  have e1 : H1[H.size]? = some (arrV cA N (fun _ => .null)) := by rw [← hH1, Array.getElem?_push_size, ← arrV_new]
  have o1 : ∀ q : Nat, q < H.size → H1[q]? = H[q]? := fun q hq => by rw [← hH1, Array.getElem?_push, if_neg (Nat.ne_of_lt hq)]
  have hcA : cA = K.2 i9 := by
    obtain ⟨kA9, comp9, g1, g2, g3, g4⟩ := (hN.1.2 i9 _ (hT9 K)).2
    exact Option.some.inj (f1.symm.trans g4)
  subst hcA
  rw [hz] at e1 z1 o1 ⊢
  exact kk H1 locs ls (hP.push hz.symm (hA _ (by rw [← hz]; exact hS.1)) e1 (by rw [hz]; exact o1)) z1 ⟨Nat.le_trans hS.1 (by omega), fun x g1 g2 => (o1 x (Nat.lt_of_lt_of_le g1 (by rw [← hz]; exact hS.1))).trans (hS.2.1 x g1 g2), hS.2.2⟩ hl
theorem j_astq {C : String} (i9 ci : Nat) (hT9 : ∀ K : jK, (jT K)[i9]? = some (K.2 i9, .object C)) (hC9 : ∃ (T : u_T) (N : Nat), vwCl[ci]? = some (C, T, N)) (hE : jC K A E own cc nL fr lo9 mc ms) {a n j v : Nat} {vs : List Value} {f : Nat → Option Nat} {x : Int32} (hG : G a = some (.inl (K.2 i9, n, .inr (.inr (.inr (.inr f)))))) (hv : G v = some (.inr (ci, vs))) (hx9 : x = nI j) (hj : j < n) (hn : n < 2 ^ 31) (hd : decode cc pc = .ok (.aastore, 1)) (kk : J K A E nL (gset G a (.inl (K.2 i9, n, .inr (.inr (.inr (.inr (va_up f j (some v)))))))) hs cells slots (pc + 1) lo rest) : J K A E nL G hs cells slots pc lo (.ref v :: .int x :: .ref a :: rest) := by
  obtain ⟨p, l, e, R, s, m, args, below, meth, c, Q⟩ := E
  obtain ⟨hx, hb, hml, hown, hlk, hts, hN, hA, hst, hR⟩ := hE
  obtain ⟨T9, N9, hC9⟩ := hC9
  intro H locs ls hP hz hS hl
  subst hx9
  obtain ⟨ws, q0, qk, hPw, hDw, he, hev, hback⟩ := hP.two (e' := .inl (K.2 i9, n, .inr (.inr (.inr (.inr (va_up f j (some v))))))) hG hv
  obtain ⟨r', hr', cellV, g1, g2, g3, -⟩ := hPw qk _ hev
  have hcls := (hN.1.1 ci _ hC9).2
  obtain ⟨kA, comp, k1, k2, k3, -⟩ := (hN.1.2 i9 _ (hT9 K)).2
  have hcomp : comp = K.1.1 ci := Option.some.inj (k3.symm.trans hcls.1)
  subst hcomp
  obtain ⟨kC, hkC, -⟩ := hcls.2
  refine W.aast hx hb (hPw q0 _ he) (fun q h => by cases h) (fun h => by cases h) k1 k2 rfl hkC ⟨nI_pos (by omega), by show _ < (arrV _ _ _).slots.size; rw [arrV_size, nI_clamp (by omega)]; exact hj⟩ g1 (fun q h => by rw [g3] at h; cases h) (by rw [g2]; exact hkC) (by rw [g2]; exact va_assign hcls) rfl rfl hd fun H1 e z oq => ?_
  refine kk H1 _ ls (hback H1 (hPw.set hDw he ?_ oq) (hDw.set he)) (z.trans hz) (hS.put z oq (hDw.2 q0 _ he)) hl
  show H1[a]? = some (vp_cell _ _)
  rw [e, vp_cell_q, vp_cell_q, arrV_store, nI_clamp (by omega)]
  congr 2
  funext q
  by_cases hq : q = j
  · subst hq
    simp [updV, va_up, va_rf]
  · simp [updV, va_up, hq]
theorem j_copy (hE : jC K A E own cc nL fr lo9 mc ms) {idx a0 a n0 n1 sp dp n : Nat} {f g : Nat → Int32} {x y z : Int32} (hw : Cond.methodLink own idx arraycopyName ∈ jW) (hw1 : Cond.native arraycopyName ∈ jW) (hw2 : Cond.static arraycopyName ∈ jW) (hw3 : Cond.initialized "java/lang/System" ∈ jW) (hG0 : G a0 = some (iA K n0 f)) (hG1 : G a = some (iA K n1 g)) (hx9 : x = nI n) (hy9 : y = nI dp) (hz9 : z = nI sp) (h4 : sp + n ≤ n0) (h5 : dp + n ≤ n1) (h6 : n0 < 2 ^ 31) (h7 : n1 < 2 ^ 31) (hfr : 1 ≤ fr) (hlo : (rest.map fun v => v.category).sum + (nativeFrameWords "java/lang/System" "arraycopy" 5 + 11) ≤ lo9) (hd : decode cc pc = .ok (.invokestatic idx, 3))
    (kk : ∀ hs, J K A E nL (gset G a (iA K n1 (va_cpy f g sp dp n))) hs cells slots (pc + 3) lo rest) : J K A E nL G hs cells slots pc lo (.int x :: .int y :: .ref a :: .int z :: .ref a0 :: rest) := by
  obtain ⟨p, l, e, R, s, m, args, below, meth, c, Q⟩ := E
  obtain ⟨hx, hb, hml, hown, hlk, hts, hN, hA, hst, hR⟩ := hE
  intro H locs ls hP hz hS hl
  subst hR
  subst hx9
  subst hy9
  subst hz9
  obtain ⟨ws, q1, q0, hPw, hDw, he1, he0, hback⟩ := hP.two (e' := iA K n1 (va_cpy f g sp dp n)) hG1 hG0
  refine va_copyi (D := K.1) (cl := vwCl) (ty := .int) hx hb (hml.trans hl.1.symm) hown (hts _ hw) (hts _ hw1) (hts _ hw2) (hts _ hw3) hN.1 hPw hDw hS q0 q1 0 0 he0 he1 rfl rfl rfl (nI_pos (by omega)) (nI_pos (by omega)) (nI_pos (by omega)) (by rw [nI_clamp (by omega), nI_clamp (by omega)]; exact h4) (by rw [nI_clamp (by omega), nI_clamp (by omega)]; exact h5) (fun i hi => rfl) hfr hlo hd (fun H1 locs1 hP1 hD1 hS1 => ?_)
  rw [nI_clamp (by omega), nI_clamp (by omega), nI_clamp (by omega)] at hP1 hD1
  exact kk H1.size H1 locs1 ls (hback H1 hP1 hD1) rfl hS1 hl
end JM
