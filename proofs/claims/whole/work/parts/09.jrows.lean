/-! ===== the rows of J, an instruction each ===== -/
section JR
variable {K : jK} {A : Nat → Prop} {E : jE} {own : String} {cc : ByteArray} {nL fr lo9 mc ms : Nat} {G : GH} {hs cells slots pc : Nat} {lo : List (Option Value)} {rest : List Value}
theorem j_iconst (hE : jC K A E own cc nL fr lo9 mc ms) {n : Int} {v : Int32} (hd : decode cc pc = .ok (.iconst n, 1)) (hv : Int32.ofInt n = v) (k : J K A E nL G hs cells slots (pc + 1) lo (.int v :: rest)) : J K A E nL G hs cells slots pc lo rest := by
  obtain ⟨p, l, e, R, s, m, args, below, meth, c, Q⟩ := E
  obtain ⟨hx, hb, hml, hown, hlk, hts, hN, hA, hst, hR⟩ := hE
  intro H locs ls hP hz hS hl
  exact lv_iconst hx hb hd hv (k H locs ls hP hz hS hl)
theorem j_bipush (hE : jC K A E own cc nL fr lo9 mc ms) {n : Int} {v : Int32} (hd : decode cc pc = .ok (.bipush n, 2)) (hv : (Int8.ofInt n).toInt32 = v) (k : J K A E nL G hs cells slots (pc + 2) lo (.int v :: rest)) : J K A E nL G hs cells slots pc lo rest := by
  obtain ⟨p, l, e, R, s, m, args, below, meth, c, Q⟩ := E
  obtain ⟨hx, hb, hml, hown, hlk, hts, hN, hA, hst, hR⟩ := hE
  intro H locs ls hP hz hS hl
  exact lv_bipush hx hb hd hv (k H locs ls hP hz hS hl)
theorem j_sipush (hE : jC K A E own cc nL fr lo9 mc ms) {n : Int} {v : Int32} (hd : decode cc pc = .ok (.sipush n, 3)) (hv : (Int16.ofInt n).toInt32 = v) (k : J K A E nL G hs cells slots (pc + 3) lo (.int v :: rest)) : J K A E nL G hs cells slots pc lo rest := by
  obtain ⟨p, l, e, R, s, m, args, below, meth, c, Q⟩ := E
  obtain ⟨hx, hb, hml, hown, hlk, hts, hN, hA, hst, hR⟩ := hE
  intro H locs ls hP hz hS hl
  exact lv_sipush hx hb hd hv (k H locs ls hP hz hS hl)
theorem j_lconst (hE : jC K A E own cc nL fr lo9 mc ms) {n : Fin 2} {v : Int64} (hd : decode cc pc = .ok (.lconst n, 1)) (hv : Int64.ofNat (n : Nat) = v) (k : J K A E nL G hs cells slots (pc + 1) lo (.long v :: rest)) : J K A E nL G hs cells slots pc lo rest := by
  obtain ⟨p, l, e, R, s, m, args, below, meth, c, Q⟩ := E
  obtain ⟨hx, hb, hml, hown, hlk, hts, hN, hA, hst, hR⟩ := hE
  intro H locs ls hP hz hS hl
  exact lv_lconst hx hb hd hv (k H locs ls hP hz hS hl)
theorem j_ldc (hE : jC K A E own cc nL fr lo9 mc ms) {idx : Nat} {v : Int32} (hd : decode cc pc = .ok (.ldc idx, 2)) (hw : Cond.constant own idx v ∈ jW) (k : J K A E nL G hs cells slots (pc + 2) lo (.int v :: rest)) : J K A E nL G hs cells slots pc lo rest := by
  obtain ⟨p, l, e, R, s, m, args, below, meth, c, Q⟩ := E
  obtain ⟨hx, hb, hml, hown, hlk, hts, hN, hA, hst, hR⟩ := hE
  intro H locs ls hP hz hS hl
  exact lv_ldc hx hb hown (hts _ hw) hd (k H locs ls hP hz hS hl)
theorem j_ldc2 (hE : jC K A E own cc nL fr lo9 mc ms) {idx : Nat} {v : Int64} (hd : decode cc pc = .ok (.ldc2_w idx, 3)) (hw : Cond.constantLong own idx v ∈ jW) (k : J K A E nL G hs cells slots (pc + 3) lo (.long v :: rest)) : J K A E nL G hs cells slots pc lo rest := by
  obtain ⟨p, l, e, R, s, m, args, below, meth, c, Q⟩ := E
  obtain ⟨hx, hb, hml, hown, hlk, hts, hN, hA, hst, hR⟩ := hE
  intro H locs ls hP hz hS hl
  exact lv_ldc2 hx hb hown (hts _ hw) hd (k H locs ls hP hz hS hl)
theorem j_dconst0 (hE : jC K A E own cc nL fr lo9 mc ms) (hd : decode cc pc = .ok (.dconst 0, 1)) (k : J K A E nL G hs cells slots (pc + 1) lo (.double FP.dconst0 :: rest)) : J K A E nL G hs cells slots pc lo rest := by
  obtain ⟨p, l, e, R, s, m, args, below, meth, c, Q⟩ := E
  obtain ⟨hx, hb, hml, hown, hlk, hts, hN, hA, hst, hR⟩ := hE
  intro H locs ls hP hz hS hl
  exact lv_dconst0 hx hb hd (k H locs ls hP hz hS hl)
theorem j_iload_n (hE : jC K A E own cc nL fr lo9 mc ms) {k : Fin 4} {i : Nat} {x : Int32} (hd : decode cc pc = .ok (.iload_n k, 1)) (hi : (k : Nat) = i) (hv : lo[i]? = some (some (.int x))) (k : J K A E nL G hs cells slots (pc + 1) lo (.int x :: rest)) : J K A E nL G hs cells slots pc lo rest := by
  obtain ⟨p, l, e, R, s, m, args, below, meth, c, Q⟩ := E
  obtain ⟨hx, hb, hml, hown, hlk, hts, hN, hA, hst, hR⟩ := hE
  intro H locs ls hP hz hS hl
  exact lv_iload_n hx hb hd hi (hl.at_ hv) (k H locs ls hP hz hS hl)
theorem j_aload_n (hE : jC K A E own cc nL fr lo9 mc ms) {k : Fin 4} {i : Nat} {x : Nat} (hd : decode cc pc = .ok (.aload_n k, 1)) (hi : (k : Nat) = i) (hv : lo[i]? = some (some (.ref x))) (k : J K A E nL G hs cells slots (pc + 1) lo (.ref x :: rest)) : J K A E nL G hs cells slots pc lo rest := by
  obtain ⟨p, l, e, R, s, m, args, below, meth, c, Q⟩ := E
  obtain ⟨hx, hb, hml, hown, hlk, hts, hN, hA, hst, hR⟩ := hE
  intro H locs ls hP hz hS hl
  exact lv_aload_n hx hb hd hi (hl.at_ hv) (k H locs ls hP hz hS hl)
theorem j_lload_n (hE : jC K A E own cc nL fr lo9 mc ms) {k : Fin 4} {i : Nat} {x : Int64} (hd : decode cc pc = .ok (.lload_n k, 1)) (hi : (k : Nat) = i) (hv : lo[i]? = some (some (.long x))) (k : J K A E nL G hs cells slots (pc + 1) lo (.long x :: rest)) : J K A E nL G hs cells slots pc lo rest := by
  obtain ⟨p, l, e, R, s, m, args, below, meth, c, Q⟩ := E
  obtain ⟨hx, hb, hml, hown, hlk, hts, hN, hA, hst, hR⟩ := hE
  intro H locs ls hP hz hS hl
  exact lv_lload_n hx hb hd hi (hl.at_ hv) (k H locs ls hP hz hS hl)
theorem j_iload (hE : jC K A E own cc nL fr lo9 mc ms) {i : Nat} {x : Int32} (hd : decode cc pc = .ok (.iload i, 2)) (hv : lo[i]? = some (some (.int x))) (k : J K A E nL G hs cells slots (pc + 2) lo (.int x :: rest)) : J K A E nL G hs cells slots pc lo rest := by
  obtain ⟨p, l, e, R, s, m, args, below, meth, c, Q⟩ := E
  obtain ⟨hx, hb, hml, hown, hlk, hts, hN, hA, hst, hR⟩ := hE
  intro H locs ls hP hz hS hl
  exact lv_iload hx hb hd (hl.at_ hv) (k H locs ls hP hz hS hl)
theorem j_aload (hE : jC K A E own cc nL fr lo9 mc ms) {i : Nat} {x : Nat} (hd : decode cc pc = .ok (.aload i, 2)) (hv : lo[i]? = some (some (.ref x))) (k : J K A E nL G hs cells slots (pc + 2) lo (.ref x :: rest)) : J K A E nL G hs cells slots pc lo rest := by
  obtain ⟨p, l, e, R, s, m, args, below, meth, c, Q⟩ := E
  obtain ⟨hx, hb, hml, hown, hlk, hts, hN, hA, hst, hR⟩ := hE
  intro H locs ls hP hz hS hl
  exact lv_aload hx hb hd (hl.at_ hv) (k H locs ls hP hz hS hl)
theorem j_dload (hE : jC K A E own cc nL fr lo9 mc ms) {i : Nat} {x : UInt64} (hd : decode cc pc = .ok (.dload i, 2)) (hv : lo[i]? = some (some (.double x))) (k : J K A E nL G hs cells slots (pc + 2) lo (.double x :: rest)) : J K A E nL G hs cells slots pc lo rest := by
  obtain ⟨p, l, e, R, s, m, args, below, meth, c, Q⟩ := E
  obtain ⟨hx, hb, hml, hown, hlk, hts, hN, hA, hst, hR⟩ := hE
  intro H locs ls hP hz hS hl
  exact lv_dload hx hb hd (hl.at_ hv) (k H locs ls hP hz hS hl)
theorem j_istore_n (hE : jC K A E own cc nL fr lo9 mc ms) {k : Fin 4} {i : Nat} {x : Int32} (hd : decode cc pc = .ok (.istore_n k, 1)) (hi : (k : Nat) = i) (hn : i < nL) (hc : ∀ (w : Value) (j : Nat), j + 1 = i → lo[j]? = some (some w) → w.category = 1) (k : J K A E nL G hs cells slots (pc + 1) (lo.set i (some (.int x))) rest) : J K A E nL G hs cells slots pc lo (.int x :: rest) := by
  obtain ⟨p, l, e, R, s, m, args, below, meth, c, Q⟩ := E
  obtain ⟨hx, hb, hml, hown, hlk, hts, hN, hA, hst, hR⟩ := hE
  intro H locs ls hP hz hS hl
  exact lv_istore_n hx hb hd hi hl hn rfl (fun ls hl => k H locs ls hP hz hS (jlv.store1 hl hc))
theorem j_istore (hE : jC K A E own cc nL fr lo9 mc ms) {i : Nat} {x : Int32} (hd : decode cc pc = .ok (.istore i, 2)) (hn : i < nL) (hc : ∀ (w : Value) (j : Nat), j + 1 = i → lo[j]? = some (some w) → w.category = 1) (k : J K A E nL G hs cells slots (pc + 2) (lo.set i (some (.int x))) rest) : J K A E nL G hs cells slots pc lo (.int x :: rest) := by
  obtain ⟨p, l, e, R, s, m, args, below, meth, c, Q⟩ := E
  obtain ⟨hx, hb, hml, hown, hlk, hts, hN, hA, hst, hR⟩ := hE
  intro H locs ls hP hz hS hl
  exact lv_istore hx hb hd hl hn rfl (fun ls hl => k H locs ls hP hz hS (jlv.store1 hl hc))
theorem j_astore_n (hE : jC K A E own cc nL fr lo9 mc ms) {k : Fin 4} {i : Nat} {x : Nat} (hd : decode cc pc = .ok (.astore_n k, 1)) (hi : (k : Nat) = i) (hn : i < nL) (hc : ∀ (w : Value) (j : Nat), j + 1 = i → lo[j]? = some (some w) → w.category = 1) (k : J K A E nL G hs cells slots (pc + 1) (lo.set i (some (.ref x))) rest) : J K A E nL G hs cells slots pc lo (.ref x :: rest) := by
  obtain ⟨p, l, e, R, s, m, args, below, meth, c, Q⟩ := E
  obtain ⟨hx, hb, hml, hown, hlk, hts, hN, hA, hst, hR⟩ := hE
  intro H locs ls hP hz hS hl
  exact lv_astore_n hx hb hd hi hl hn rfl (fun ls hl => k H locs ls hP hz hS (jlv.store1 hl hc))
theorem j_astore (hE : jC K A E own cc nL fr lo9 mc ms) {i : Nat} {x : Nat} (hd : decode cc pc = .ok (.astore i, 2)) (hn : i < nL) (hc : ∀ (w : Value) (j : Nat), j + 1 = i → lo[j]? = some (some w) → w.category = 1) (k : J K A E nL G hs cells slots (pc + 2) (lo.set i (some (.ref x))) rest) : J K A E nL G hs cells slots pc lo (.ref x :: rest) := by
  obtain ⟨p, l, e, R, s, m, args, below, meth, c, Q⟩ := E
  obtain ⟨hx, hb, hml, hown, hlk, hts, hN, hA, hst, hR⟩ := hE
  intro H locs ls hP hz hS hl
  exact lv_astore hx hb hd hl hn rfl (fun ls hl => k H locs ls hP hz hS (jlv.store1 hl hc))
theorem j_lstore_n (hE : jC K A E own cc nL fr lo9 mc ms) {k : Fin 4} {i : Nat} {x : Int64} (hd : decode cc pc = .ok (.lstore_n k, 1)) (hi : (k : Nat) = i) (hn : i + 1 < nL) (hc : ∀ (w : Value) (j : Nat), j + 1 = i → lo[j]? = some (some w) → w.category = 1) (k : J K A E nL G hs cells slots (pc + 1) ((lo.set i (some (.long x))).set (i + 1) none) rest) : J K A E nL G hs cells slots pc lo (.long x :: rest) := by
  obtain ⟨p, l, e, R, s, m, args, below, meth, c, Q⟩ := E
  obtain ⟨hx, hb, hml, hown, hlk, hts, hN, hA, hst, hR⟩ := hE
  intro H locs ls hP hz hS hl
  exact lv_lstore_n hx hb hd hi hl hn rfl (fun ls hl => k H locs ls hP hz hS (jlv.store2 hl hc))
theorem j_dstore (hE : jC K A E own cc nL fr lo9 mc ms) {i : Nat} {x : UInt64} (hd : decode cc pc = .ok (.dstore i, 2)) (hn : i + 1 < nL) (hc : ∀ (w : Value) (j : Nat), j + 1 = i → lo[j]? = some (some w) → w.category = 1) (k : J K A E nL G hs cells slots (pc + 2) ((lo.set i (some (.double x))).set (i + 1) none) rest) : J K A E nL G hs cells slots pc lo (.double x :: rest) := by
  obtain ⟨p, l, e, R, s, m, args, below, meth, c, Q⟩ := E
  obtain ⟨hx, hb, hml, hown, hlk, hts, hN, hA, hst, hR⟩ := hE
  intro H locs ls hP hz hS hl
  exact lv_dstore hx hb hd hl hn rfl (fun ls hl => k H locs ls hP hz hS (jlv.store2 hl hc))
theorem j_iinc (hE : jC K A E own cc nL fr lo9 mc ms) {i : Nat} {n : Int} {x v : Int32} (hd : decode cc pc = .ok (.iinc i n, 3)) (hx9 : lo[i]? = some (some (.int x))) (hv : x + Int32.ofInt n = v) (hn : i < nL) (hc : ∀ (w : Value) (j : Nat), j + 1 = i → lo[j]? = some (some w) → w.category = 1) (k : J K A E nL G hs cells slots (pc + 3) (lo.set i (some (.int v))) rest) : J K A E nL G hs cells slots pc lo rest := by
  obtain ⟨p, l, e, R, s, m, args, below, meth, c, Q⟩ := E
  obtain ⟨hx, hb, hml, hown, hlk, hts, hN, hA, hst, hR⟩ := hE
  intro H locs ls hP hz hS hl
  obtain ⟨k9, hk9⟩ := hl.place hx9
  exact lv_iinc hx hb hd hl hk9 hv hn rfl (fun ls hl => k H locs ls hP hz hS (jlv.store1 hl hc))
theorem j_dup (hE : jC K A E own cc nL fr lo9 mc ms) {va : Value} (hd : decode cc pc = .ok (.dup, 1)) (hva : va.category = 1) (k : J K A E nL G hs cells slots (pc + 1) lo (va :: va :: rest)) : J K A E nL G hs cells slots pc lo (va :: rest) := by
  obtain ⟨p, l, e, R, s, m, args, below, meth, c, Q⟩ := E
  obtain ⟨hx, hb, hml, hown, hlk, hts, hN, hA, hst, hR⟩ := hE
  intro H locs ls hP hz hS hl
  exact lv_dup hx hb hd hva (k H locs ls hP hz hS hl)
theorem j_dup2 (hE : jC K A E own cc nL fr lo9 mc ms) {va vb : Value} (hd : decode cc pc = .ok (.dup2, 1)) (hva : va.category = 1) (hvb : vb.category = 1) (k : J K A E nL G hs cells slots (pc + 1) lo (va :: vb :: va :: vb :: rest)) : J K A E nL G hs cells slots pc lo (va :: vb :: rest) := by
  obtain ⟨p, l, e, R, s, m, args, below, meth, c, Q⟩ := E
  obtain ⟨hx, hb, hml, hown, hlk, hts, hN, hA, hst, hR⟩ := hE
  intro H locs ls hP hz hS hl
  exact lv_dup2_11 hx hb hd hva hvb (k H locs ls hP hz hS hl)
theorem j_iadd (hE : jC K A E own cc nL fr lo9 mc ms) {x y : Int32} (hd : decode cc pc = .ok (.iadd, 1)) (k : J K A E nL G hs cells slots (pc + 1) lo (.int (x + y) :: rest)) : J K A E nL G hs cells slots pc lo (.int y :: .int x :: rest) := by
  obtain ⟨p, l, e, R, s, m, args, below, meth, c, Q⟩ := E
  obtain ⟨hx, hb, hml, hown, hlk, hts, hN, hA, hst, hR⟩ := hE
  intro H locs ls hP hz hS hl
  exact lv_iadd hx hb hd (k H locs ls hP hz hS hl)
theorem j_isub (hE : jC K A E own cc nL fr lo9 mc ms) {x y : Int32} (hd : decode cc pc = .ok (.isub, 1)) (k : J K A E nL G hs cells slots (pc + 1) lo (.int (x - y) :: rest)) : J K A E nL G hs cells slots pc lo (.int y :: .int x :: rest) := by
  obtain ⟨p, l, e, R, s, m, args, below, meth, c, Q⟩ := E
  obtain ⟨hx, hb, hml, hown, hlk, hts, hN, hA, hst, hR⟩ := hE
  intro H locs ls hP hz hS hl
  exact lv_isub hx hb hd (k H locs ls hP hz hS hl)
theorem j_imul (hE : jC K A E own cc nL fr lo9 mc ms) {x y : Int32} (hd : decode cc pc = .ok (.imul, 1)) (k : J K A E nL G hs cells slots (pc + 1) lo (.int (x * y) :: rest)) : J K A E nL G hs cells slots pc lo (.int y :: .int x :: rest) := by
  obtain ⟨p, l, e, R, s, m, args, below, meth, c, Q⟩ := E
  obtain ⟨hx, hb, hml, hown, hlk, hts, hN, hA, hst, hR⟩ := hE
  intro H locs ls hP hz hS hl
  exact lv_imul hx hb hd (k H locs ls hP hz hS hl)
theorem j_iand (hE : jC K A E own cc nL fr lo9 mc ms) {x y : Int32} (hd : decode cc pc = .ok (.iand, 1)) (k : J K A E nL G hs cells slots (pc + 1) lo (.int (x &&& y) :: rest)) : J K A E nL G hs cells slots pc lo (.int y :: .int x :: rest) := by
  obtain ⟨p, l, e, R, s, m, args, below, meth, c, Q⟩ := E
  obtain ⟨hx, hb, hml, hown, hlk, hts, hN, hA, hst, hR⟩ := hE
  intro H locs ls hP hz hS hl
  exact lv_iand hx hb hd (k H locs ls hP hz hS hl)
theorem j_ior (hE : jC K A E own cc nL fr lo9 mc ms) {x y : Int32} (hd : decode cc pc = .ok (.ior, 1)) (k : J K A E nL G hs cells slots (pc + 1) lo (.int (x ||| y) :: rest)) : J K A E nL G hs cells slots pc lo (.int y :: .int x :: rest) := by
  obtain ⟨p, l, e, R, s, m, args, below, meth, c, Q⟩ := E
  obtain ⟨hx, hb, hml, hown, hlk, hts, hN, hA, hst, hR⟩ := hE
  intro H locs ls hP hz hS hl
  exact lv_ior hx hb hd (k H locs ls hP hz hS hl)
theorem j_ishl (hE : jC K A E own cc nL fr lo9 mc ms) {x y : Int32} (hd : decode cc pc = .ok (.ishl, 1)) (k : J K A E nL G hs cells slots (pc + 1) lo (.int (x <<< (y &&& 31)) :: rest)) : J K A E nL G hs cells slots pc lo (.int y :: .int x :: rest) := by
  obtain ⟨p, l, e, R, s, m, args, below, meth, c, Q⟩ := E
  obtain ⟨hx, hb, hml, hown, hlk, hts, hN, hA, hst, hR⟩ := hE
  intro H locs ls hP hz hS hl
  exact lv_ishl hx hb hd (k H locs ls hP hz hS hl)
theorem j_ishr (hE : jC K A E own cc nL fr lo9 mc ms) {x y : Int32} (hd : decode cc pc = .ok (.ishr, 1)) (k : J K A E nL G hs cells slots (pc + 1) lo (.int (x >>> (y &&& 31)) :: rest)) : J K A E nL G hs cells slots pc lo (.int y :: .int x :: rest) := by
  obtain ⟨p, l, e, R, s, m, args, below, meth, c, Q⟩ := E
  obtain ⟨hx, hb, hml, hown, hlk, hts, hN, hA, hst, hR⟩ := hE
  intro H locs ls hP hz hS hl
  exact lv_ishr hx hb hd (k H locs ls hP hz hS hl)
theorem j_idiv (hE : jC K A E own cc nL fr lo9 mc ms) {x y : Int32} (hd : decode cc pc = .ok (.idiv, 1)) (hne : ¬ y = 0) (k : J K A E nL G hs cells slots (pc + 1) lo (.int (x / y) :: rest)) : J K A E nL G hs cells slots pc lo (.int y :: .int x :: rest) := by
  obtain ⟨p, l, e, R, s, m, args, below, meth, c, Q⟩ := E
  obtain ⟨hx, hb, hml, hown, hlk, hts, hN, hA, hst, hR⟩ := hE
  intro H locs ls hP hz hS hl
  exact lv_idiv hx hb hd hne (k H locs ls hP hz hS hl)
theorem j_irem (hE : jC K A E own cc nL fr lo9 mc ms) {x y : Int32} (hd : decode cc pc = .ok (.irem, 1)) (hne : ¬ y = 0) (k : J K A E nL G hs cells slots (pc + 1) lo (.int (x - x / y * y) :: rest)) : J K A E nL G hs cells slots pc lo (.int y :: .int x :: rest) := by
  obtain ⟨p, l, e, R, s, m, args, below, meth, c, Q⟩ := E
  obtain ⟨hx, hb, hml, hown, hlk, hts, hN, hA, hst, hR⟩ := hE
  intro H locs ls hP hz hS hl
  exact lv_irem hx hb hd hne (k H locs ls hP hz hS hl)
theorem j_ineg (hE : jC K A E own cc nL fr lo9 mc ms) {x : Int32} (hd : decode cc pc = .ok (.ineg, 1)) (k : J K A E nL G hs cells slots (pc + 1) lo (.int (-x) :: rest)) : J K A E nL G hs cells slots pc lo (.int x :: rest) := by
  obtain ⟨p, l, e, R, s, m, args, below, meth, c, Q⟩ := E
  obtain ⟨hx, hb, hml, hown, hlk, hts, hN, hA, hst, hR⟩ := hE
  intro H locs ls hP hz hS hl
  exact lv_ineg hx hb hd (k H locs ls hP hz hS hl)
theorem j_i2l (hE : jC K A E own cc nL fr lo9 mc ms) {x : Int32} (hd : decode cc pc = .ok (.i2l, 1)) (k : J K A E nL G hs cells slots (pc + 1) lo (.long x.toInt64 :: rest)) : J K A E nL G hs cells slots pc lo (.int x :: rest) := by
  obtain ⟨p, l, e, R, s, m, args, below, meth, c, Q⟩ := E
  obtain ⟨hx, hb, hml, hown, hlk, hts, hN, hA, hst, hR⟩ := hE
  intro H locs ls hP hz hS hl
  exact lv_i2l hx hb hd rfl (k H locs ls hP hz hS hl)
theorem j_i2d (hE : jC K A E own cc nL fr lo9 mc ms) {x : Int32} (hd : decode cc pc = .ok (.i2d, 1)) (k : J K A E nL G hs cells slots (pc + 1) lo (.double (FP.i2d x) :: rest)) : J K A E nL G hs cells slots pc lo (.int x :: rest) := by
  obtain ⟨p, l, e, R, s, m, args, below, meth, c, Q⟩ := E
  obtain ⟨hx, hb, hml, hown, hlk, hts, hN, hA, hst, hR⟩ := hE
  intro H locs ls hP hz hS hl
  exact lv_i2d hx hb hd (k H locs ls hP hz hS hl)
theorem j_ladd (hE : jC K A E own cc nL fr lo9 mc ms) {x y : Int64} (hd : decode cc pc = .ok (.ladd, 1)) (k : J K A E nL G hs cells slots (pc + 1) lo (.long (x + y) :: rest)) : J K A E nL G hs cells slots pc lo (.long y :: .long x :: rest) := by
  obtain ⟨p, l, e, R, s, m, args, below, meth, c, Q⟩ := E
  obtain ⟨hx, hb, hml, hown, hlk, hts, hN, hA, hst, hR⟩ := hE
  intro H locs ls hP hz hS hl
  exact lv_ladd hx hb hd (k H locs ls hP hz hS hl)
theorem j_lmul (hE : jC K A E own cc nL fr lo9 mc ms) {x y : Int64} (hd : decode cc pc = .ok (.lmul, 1)) (k : J K A E nL G hs cells slots (pc + 1) lo (.long (x * y) :: rest)) : J K A E nL G hs cells slots pc lo (.long y :: .long x :: rest) := by
  obtain ⟨p, l, e, R, s, m, args, below, meth, c, Q⟩ := E
  obtain ⟨hx, hb, hml, hown, hlk, hts, hN, hA, hst, hR⟩ := hE
  intro H locs ls hP hz hS hl
  exact lv_lmul hx hb hd (k H locs ls hP hz hS hl)
theorem j_lcmp (hE : jC K A E own cc nL fr lo9 mc ms) {x y : Int64} (hd : decode cc pc = .ok (.lcmp, 1)) (k : J K A E nL G hs cells slots (pc + 1) lo (.int (lg_cmp x y) :: rest)) : J K A E nL G hs cells slots pc lo (.long y :: .long x :: rest) := by
  obtain ⟨p, l, e, R, s, m, args, below, meth, c, Q⟩ := E
  obtain ⟨hx, hb, hml, hown, hlk, hts, hN, hA, hst, hR⟩ := hE
  intro H locs ls hP hz hS hl
  exact W.lcmp hx hb hd (k H locs ls hP hz hS hl)
theorem j_ddiv (hE : jC K A E own cc nL fr lo9 mc ms) {x y : UInt64} (hd : decode cc pc = .ok (.ddiv, 1)) (hne : vf_n64 (FP.ddiv x y)) (k : J K A E nL G hs cells slots (pc + 1) lo (.double (FP.ddiv x y) :: rest)) : J K A E nL G hs cells slots pc lo (.double y :: .double x :: rest) := by
  obtain ⟨p, l, e, R, s, m, args, below, meth, c, Q⟩ := E
  obtain ⟨hx, hb, hml, hown, hlk, hts, hN, hA, hst, hR⟩ := hE
  intro H locs ls hP hz hS hl
  exact lv_ddiv hx hb hd hne (k H locs ls hP hz hS hl)
theorem j_dcmp (hE : jC K A E own cc nL fr lo9 mc ms) {x y : UInt64} {op : CmpOp} (hd : decode cc pc = .ok (.dcmp op, 1)) (k : J K A E nL G hs cells slots (pc + 1) lo (.int (Op.cmpValue (FP.dcmp x y) op) :: rest)) : J K A E nL G hs cells slots pc lo (.double y :: .double x :: rest) := by
  obtain ⟨p, l, e, R, s, m, args, below, meth, c, Q⟩ := E
  obtain ⟨hx, hb, hml, hown, hlk, hts, hN, hA, hst, hR⟩ := hE
  intro H locs ls hP hz hS hl
  exact lv_dcmp hx hb hd (k H locs ls hP hz hS hl)
theorem j_iaddN (hE : jC K A E own cc nL fr lo9 mc ms) {x y : Nat} (hd : decode cc pc = .ok (.iadd, 1)) (k : J K A E nL G hs cells slots (pc + 1) lo (.int (nI (x + y)) :: rest)) : J K A E nL G hs cells slots pc lo (.int (nI y) :: .int (nI x) :: rest) := by
  obtain ⟨p, l, e, R, s, m, args, below, meth, c, Q⟩ := E
  obtain ⟨hx, hb, hml, hown, hlk, hts, hN, hA, hst, hR⟩ := hE
  intro H locs ls hP hz hS hl
  exact lv_iadd hx hb hd <| by rw [nI_add]; exact (k H locs ls hP hz hS hl)
theorem j_imulN (hE : jC K A E own cc nL fr lo9 mc ms) {x y : Nat} (hd : decode cc pc = .ok (.imul, 1)) (k : J K A E nL G hs cells slots (pc + 1) lo (.int (nI (x * y)) :: rest)) : J K A E nL G hs cells slots pc lo (.int (nI y) :: .int (nI x) :: rest) := by
  obtain ⟨p, l, e, R, s, m, args, below, meth, c, Q⟩ := E
  obtain ⟨hx, hb, hml, hown, hlk, hts, hN, hA, hst, hR⟩ := hE
  intro H locs ls hP hz hS hl
  exact lv_imul hx hb hd <| by rw [pk_mul]; exact (k H locs ls hP hz hS hl)
theorem j_isubN (hE : jC K A E own cc nL fr lo9 mc ms) {x y : Nat} (hd : decode cc pc = .ok (.isub, 1)) (hle : y ≤ x) (k : J K A E nL G hs cells slots (pc + 1) lo (.int (nI (x - y)) :: rest)) : J K A E nL G hs cells slots pc lo (.int (nI y) :: .int (nI x) :: rest) := by
  obtain ⟨p, l, e, R, s, m, args, below, meth, c, Q⟩ := E
  obtain ⟨hx, hb, hml, hown, hlk, hts, hN, hA, hst, hR⟩ := hE
  intro H locs ls hP hz hS hl
  exact lv_isub hx hb hd <| by rw [pk_sub hle]; exact (k H locs ls hP hz hS hl)
theorem j_idivN (hE : jC K A E own cc nL fr lo9 mc ms) {x y : Nat} (hd : decode cc pc = .ok (.idiv, 1)) (h0 : 0 < y) (hX : x < 2 ^ 31) (hY : y < 2 ^ 31) (k : J K A E nL G hs cells slots (pc + 1) lo (.int (nI (x / y)) :: rest)) : J K A E nL G hs cells slots pc lo (.int (nI y) :: .int (nI x) :: rest) := by
  obtain ⟨p, l, e, R, s, m, args, below, meth, c, Q⟩ := E
  obtain ⟨hx, hb, hml, hown, hlk, hts, hN, hA, hst, hR⟩ := hE
  intro H locs ls hP hz hS hl
  exact lv_idiv hx hb hd (nI_ne0 h0 hY) <| by rw [pk_div hX h0 hY]; exact (k H locs ls hP hz hS hl)
theorem j_iremN (hE : jC K A E own cc nL fr lo9 mc ms) {x y : Nat} (hd : decode cc pc = .ok (.irem, 1)) (h0 : 0 < y) (hX : x < 2 ^ 31) (hY : y < 2 ^ 31) (k : J K A E nL G hs cells slots (pc + 1) lo (.int (nI (x % y)) :: rest)) : J K A E nL G hs cells slots pc lo (.int (nI y) :: .int (nI x) :: rest) := by
  obtain ⟨p, l, e, R, s, m, args, below, meth, c, Q⟩ := E
  obtain ⟨hx, hb, hml, hown, hlk, hts, hN, hA, hst, hR⟩ := hE
  intro H locs ls hP hz hS hl
  exact lv_irem hx hb hd (nI_ne0 h0 hY) <| by rw [pk_rem hX h0 hY]; exact (k H locs ls hP hz hS hl)
theorem j_goto (hE : jC K A E own cc nL fr lo9 mc ms) {off : Int} {tgt : Nat} (hd : decode cc pc = .ok (.goto off, 3)) (ht : (pc : Int) + off = (tgt : Int)) (k : J K A E nL G hs cells slots tgt lo rest) : J K A E nL G hs cells slots pc lo rest := by
  obtain ⟨p, l, e, R, s, m, args, below, meth, c, Q⟩ := E
  obtain ⟨hx, hb, hml, hown, hlk, hts, hN, hA, hst, hR⟩ := hE
  intro H locs ls hP hz hS hl
  exact lv_goto hx hb hd ht (k H locs ls hP hz hS hl)
theorem j_if_eq (hE : jC K A E own cc nL fr lo9 mc ms) {x : Int32} {off : Int} {tgt : Nat} (hd : decode cc pc = .ok (.ifCond .eq off, 3)) (ht : (pc : Int) + off = (tgt : Int)) (kt : x = 0 → J K A E nL G hs cells slots tgt lo rest) (kf : ¬ x = 0 → J K A E nL G hs cells slots (pc + 3) lo rest) : J K A E nL G hs cells slots pc lo (.int x :: rest) := by
  obtain ⟨p, l, e, R, s, m, args, below, meth, c, Q⟩ := E
  obtain ⟨hx, hb, hml, hown, hlk, hts, hN, hA, hst, hR⟩ := hE
  intro H locs ls hP hz hS hl
  exact lv_if_eq hx hb hd ht (fun h => kt h H locs ls hP hz hS hl) (fun h => kf h H locs ls hP hz hS hl)
theorem j_if_ne (hE : jC K A E own cc nL fr lo9 mc ms) {x : Int32} {off : Int} {tgt : Nat} (hd : decode cc pc = .ok (.ifCond .ne off, 3)) (ht : (pc : Int) + off = (tgt : Int)) (kt : ¬ x = 0 → J K A E nL G hs cells slots tgt lo rest) (kf : x = 0 → J K A E nL G hs cells slots (pc + 3) lo rest) : J K A E nL G hs cells slots pc lo (.int x :: rest) := by
  obtain ⟨p, l, e, R, s, m, args, below, meth, c, Q⟩ := E
  obtain ⟨hx, hb, hml, hown, hlk, hts, hN, hA, hst, hR⟩ := hE
  intro H locs ls hP hz hS hl
  exact lv_if_ne hx hb hd ht (fun h => kt h H locs ls hP hz hS hl) (fun h => kf h H locs ls hP hz hS hl)
theorem j_if_lt (hE : jC K A E own cc nL fr lo9 mc ms) {x : Int32} {off : Int} {tgt : Nat} (hd : decode cc pc = .ok (.ifCond .lt off, 3)) (ht : (pc : Int) + off = (tgt : Int)) (kt : x < 0 → J K A E nL G hs cells slots tgt lo rest) (kf : ¬ x < 0 → J K A E nL G hs cells slots (pc + 3) lo rest) : J K A E nL G hs cells slots pc lo (.int x :: rest) := by
  obtain ⟨p, l, e, R, s, m, args, below, meth, c, Q⟩ := E
  obtain ⟨hx, hb, hml, hown, hlk, hts, hN, hA, hst, hR⟩ := hE
  intro H locs ls hP hz hS hl
  exact lv_if_lt hx hb hd ht (fun h => kt h H locs ls hP hz hS hl) (fun h => kf h H locs ls hP hz hS hl)
theorem j_if_ge (hE : jC K A E own cc nL fr lo9 mc ms) {x : Int32} {off : Int} {tgt : Nat} (hd : decode cc pc = .ok (.ifCond .ge off, 3)) (ht : (pc : Int) + off = (tgt : Int)) (kt : 0 ≤ x → J K A E nL G hs cells slots tgt lo rest) (kf : ¬ 0 ≤ x → J K A E nL G hs cells slots (pc + 3) lo rest) : J K A E nL G hs cells slots pc lo (.int x :: rest) := by
  obtain ⟨p, l, e, R, s, m, args, below, meth, c, Q⟩ := E
  obtain ⟨hx, hb, hml, hown, hlk, hts, hN, hA, hst, hR⟩ := hE
  intro H locs ls hP hz hS hl
  exact lv_if_ge hx hb hd ht (fun h => kt h H locs ls hP hz hS hl) (fun h => kf h H locs ls hP hz hS hl)
theorem j_if_gt (hE : jC K A E own cc nL fr lo9 mc ms) {x : Int32} {off : Int} {tgt : Nat} (hd : decode cc pc = .ok (.ifCond .gt off, 3)) (ht : (pc : Int) + off = (tgt : Int)) (kt : 0 < x → J K A E nL G hs cells slots tgt lo rest) (kf : ¬ 0 < x → J K A E nL G hs cells slots (pc + 3) lo rest) : J K A E nL G hs cells slots pc lo (.int x :: rest) := by
  obtain ⟨p, l, e, R, s, m, args, below, meth, c, Q⟩ := E
  obtain ⟨hx, hb, hml, hown, hlk, hts, hN, hA, hst, hR⟩ := hE
  intro H locs ls hP hz hS hl
  exact lv_if_gt hx hb hd ht (fun h => kt h H locs ls hP hz hS hl) (fun h => kf h H locs ls hP hz hS hl)
theorem j_if_le (hE : jC K A E own cc nL fr lo9 mc ms) {x : Int32} {off : Int} {tgt : Nat} (hd : decode cc pc = .ok (.ifCond .le off, 3)) (ht : (pc : Int) + off = (tgt : Int)) (kt : x ≤ 0 → J K A E nL G hs cells slots tgt lo rest) (kf : ¬ x ≤ 0 → J K A E nL G hs cells slots (pc + 3) lo rest) : J K A E nL G hs cells slots pc lo (.int x :: rest) := by
  obtain ⟨p, l, e, R, s, m, args, below, meth, c, Q⟩ := E
  obtain ⟨hx, hb, hml, hown, hlk, hts, hN, hA, hst, hR⟩ := hE
  intro H locs ls hP hz hS hl
  exact lv_if_le hx hb hd ht (fun h => kt h H locs ls hP hz hS hl) (fun h => kf h H locs ls hP hz hS hl)
theorem j_ic_eq (hE : jC K A E own cc nL fr lo9 mc ms) {x y : Int32} {off : Int} {tgt : Nat} (hd : decode cc pc = .ok (.if_icmp .eq off, 3)) (ht : (pc : Int) + off = (tgt : Int)) (kt : x = y → J K A E nL G hs cells slots tgt lo rest) (kf : ¬ x = y → J K A E nL G hs cells slots (pc + 3) lo rest) : J K A E nL G hs cells slots pc lo (.int y :: .int x :: rest) := by
  obtain ⟨p, l, e, R, s, m, args, below, meth, c, Q⟩ := E
  obtain ⟨hx, hb, hml, hown, hlk, hts, hN, hA, hst, hR⟩ := hE
  intro H locs ls hP hz hS hl
  exact lv_icmp_eq hx hb hd ht (fun h => kt h H locs ls hP hz hS hl) (fun h => kf h H locs ls hP hz hS hl)
theorem j_ic_ne (hE : jC K A E own cc nL fr lo9 mc ms) {x y : Int32} {off : Int} {tgt : Nat} (hd : decode cc pc = .ok (.if_icmp .ne off, 3)) (ht : (pc : Int) + off = (tgt : Int)) (kt : ¬ x = y → J K A E nL G hs cells slots tgt lo rest) (kf : x = y → J K A E nL G hs cells slots (pc + 3) lo rest) : J K A E nL G hs cells slots pc lo (.int y :: .int x :: rest) := by
  obtain ⟨p, l, e, R, s, m, args, below, meth, c, Q⟩ := E
  obtain ⟨hx, hb, hml, hown, hlk, hts, hN, hA, hst, hR⟩ := hE
  intro H locs ls hP hz hS hl
  exact lv_icmp_ne hx hb hd ht (fun h => kt h H locs ls hP hz hS hl) (fun h => kf h H locs ls hP hz hS hl)
theorem j_ic_lt (hE : jC K A E own cc nL fr lo9 mc ms) {x y : Int32} {off : Int} {tgt : Nat} (hd : decode cc pc = .ok (.if_icmp .lt off, 3)) (ht : (pc : Int) + off = (tgt : Int)) (kt : x < y → J K A E nL G hs cells slots tgt lo rest) (kf : ¬ x < y → J K A E nL G hs cells slots (pc + 3) lo rest) : J K A E nL G hs cells slots pc lo (.int y :: .int x :: rest) := by
  obtain ⟨p, l, e, R, s, m, args, below, meth, c, Q⟩ := E
  obtain ⟨hx, hb, hml, hown, hlk, hts, hN, hA, hst, hR⟩ := hE
  intro H locs ls hP hz hS hl
  exact lv_icmp_lt hx hb hd ht (fun h => kt h H locs ls hP hz hS hl) (fun h => kf h H locs ls hP hz hS hl)
theorem j_ic_ge (hE : jC K A E own cc nL fr lo9 mc ms) {x y : Int32} {off : Int} {tgt : Nat} (hd : decode cc pc = .ok (.if_icmp .ge off, 3)) (ht : (pc : Int) + off = (tgt : Int)) (kt : y ≤ x → J K A E nL G hs cells slots tgt lo rest) (kf : ¬ y ≤ x → J K A E nL G hs cells slots (pc + 3) lo rest) : J K A E nL G hs cells slots pc lo (.int y :: .int x :: rest) := by
  obtain ⟨p, l, e, R, s, m, args, below, meth, c, Q⟩ := E
  obtain ⟨hx, hb, hml, hown, hlk, hts, hN, hA, hst, hR⟩ := hE
  intro H locs ls hP hz hS hl
  exact lv_icmp_ge hx hb hd ht (fun h => kt h H locs ls hP hz hS hl) (fun h => kf h H locs ls hP hz hS hl)
theorem j_ic_gt (hE : jC K A E own cc nL fr lo9 mc ms) {x y : Int32} {off : Int} {tgt : Nat} (hd : decode cc pc = .ok (.if_icmp .gt off, 3)) (ht : (pc : Int) + off = (tgt : Int)) (kt : y < x → J K A E nL G hs cells slots tgt lo rest) (kf : ¬ y < x → J K A E nL G hs cells slots (pc + 3) lo rest) : J K A E nL G hs cells slots pc lo (.int y :: .int x :: rest) := by
  obtain ⟨p, l, e, R, s, m, args, below, meth, c, Q⟩ := E
  obtain ⟨hx, hb, hml, hown, hlk, hts, hN, hA, hst, hR⟩ := hE
  intro H locs ls hP hz hS hl
  exact lv_icmp_gt hx hb hd ht (fun h => kt h H locs ls hP hz hS hl) (fun h => kf h H locs ls hP hz hS hl)
theorem j_ic_le (hE : jC K A E own cc nL fr lo9 mc ms) {x y : Int32} {off : Int} {tgt : Nat} (hd : decode cc pc = .ok (.if_icmp .le off, 3)) (ht : (pc : Int) + off = (tgt : Int)) (kt : x ≤ y → J K A E nL G hs cells slots tgt lo rest) (kf : ¬ x ≤ y → J K A E nL G hs cells slots (pc + 3) lo rest) : J K A E nL G hs cells slots pc lo (.int y :: .int x :: rest) := by
  obtain ⟨p, l, e, R, s, m, args, below, meth, c, Q⟩ := E
  obtain ⟨hx, hb, hml, hown, hlk, hts, hN, hA, hst, hR⟩ := hE
  intro H locs ls hP hz hS hl
  exact lv_icmp_le hx hb hd ht (fun h => kt h H locs ls hP hz hS hl) (fun h => kf h H locs ls hP hz hS hl)
theorem j_ic_eqN (hE : jC K A E own cc nL fr lo9 mc ms) {x y : Nat} {off : Int} {tgt : Nat} (hd : decode cc pc = .ok (.if_icmp .eq off, 3)) (ht : (pc : Int) + off = (tgt : Int)) (hX : x < 2 ^ 31) (hY : y < 2 ^ 31) (kt : x = y → J K A E nL G hs cells slots tgt lo rest) (kf : x ≠ y → J K A E nL G hs cells slots (pc + 3) lo rest) : J K A E nL G hs cells slots pc lo (.int (nI y) :: .int (nI x) :: rest) := by
  exact j_ic_eq hE hd ht (fun h => kt ((nI_eq hX hY).mp h)) (fun h => kf (fun q => h ((nI_eq hX hY).mpr q)))
theorem j_ic_neN (hE : jC K A E own cc nL fr lo9 mc ms) {x y : Nat} {off : Int} {tgt : Nat} (hd : decode cc pc = .ok (.if_icmp .ne off, 3)) (ht : (pc : Int) + off = (tgt : Int)) (hX : x < 2 ^ 31) (hY : y < 2 ^ 31) (kt : x ≠ y → J K A E nL G hs cells slots tgt lo rest) (kf : x = y → J K A E nL G hs cells slots (pc + 3) lo rest) : J K A E nL G hs cells slots pc lo (.int (nI y) :: .int (nI x) :: rest) := by
  exact j_ic_ne hE hd ht (fun h => kt (fun q => h ((nI_eq hX hY).mpr q))) (fun h => kf ((nI_eq hX hY).mp h))
theorem j_ic_ltN (hE : jC K A E own cc nL fr lo9 mc ms) {x y : Nat} {off : Int} {tgt : Nat} (hd : decode cc pc = .ok (.if_icmp .lt off, 3)) (ht : (pc : Int) + off = (tgt : Int)) (hX : x < 2 ^ 31) (hY : y < 2 ^ 31) (kt : x < y → J K A E nL G hs cells slots tgt lo rest) (kf : y ≤ x → J K A E nL G hs cells slots (pc + 3) lo rest) : J K A E nL G hs cells slots pc lo (.int (nI y) :: .int (nI x) :: rest) := by
  exact j_ic_lt hE hd ht (fun h => kt ((nI_ltI hX hY).mp h)) (fun h => kf (by have h2 := mt (nI_ltI hX hY).mpr h; omega))
theorem j_ic_geN (hE : jC K A E own cc nL fr lo9 mc ms) {x y : Nat} {off : Int} {tgt : Nat} (hd : decode cc pc = .ok (.if_icmp .ge off, 3)) (ht : (pc : Int) + off = (tgt : Int)) (hX : x < 2 ^ 31) (hY : y < 2 ^ 31) (kt : y ≤ x → J K A E nL G hs cells slots tgt lo rest) (kf : x < y → J K A E nL G hs cells slots (pc + 3) lo rest) : J K A E nL G hs cells slots pc lo (.int (nI y) :: .int (nI x) :: rest) := by
  exact j_ic_ge hE hd ht (fun h => kt ((nI_leI hY hX).mp h)) (fun h => kf (by have h2 := mt (nI_leI hY hX).mpr h; omega))
theorem j_ic_gtN (hE : jC K A E own cc nL fr lo9 mc ms) {x y : Nat} {off : Int} {tgt : Nat} (hd : decode cc pc = .ok (.if_icmp .gt off, 3)) (ht : (pc : Int) + off = (tgt : Int)) (hX : x < 2 ^ 31) (hY : y < 2 ^ 31) (kt : y < x → J K A E nL G hs cells slots tgt lo rest) (kf : x ≤ y → J K A E nL G hs cells slots (pc + 3) lo rest) : J K A E nL G hs cells slots pc lo (.int (nI y) :: .int (nI x) :: rest) := by
  exact j_ic_gt hE hd ht (fun h => kt ((nI_ltI hY hX).mp h)) (fun h => kf (by have h2 := mt (nI_ltI hY hX).mpr h; omega))
theorem j_ic_leN (hE : jC K A E own cc nL fr lo9 mc ms) {x y : Nat} {off : Int} {tgt : Nat} (hd : decode cc pc = .ok (.if_icmp .le off, 3)) (ht : (pc : Int) + off = (tgt : Int)) (hX : x < 2 ^ 31) (hY : y < 2 ^ 31) (kt : x ≤ y → J K A E nL G hs cells slots tgt lo rest) (kf : y < x → J K A E nL G hs cells slots (pc + 3) lo rest) : J K A E nL G hs cells slots pc lo (.int (nI y) :: .int (nI x) :: rest) := by
  exact j_ic_le hE hd ht (fun h => kt ((nI_leI hX hY).mp h)) (fun h => kf (by have h2 := mt (nI_leI hX hY).mpr h; omega))
theorem j_if_eqN (hE : jC K A E own cc nL fr lo9 mc ms) {x : Nat} {off : Int} {tgt : Nat} (hd : decode cc pc = .ok (.ifCond .eq off, 3)) (ht : (pc : Int) + off = (tgt : Int)) (hX : x < 2 ^ 31) (kt : x = 0 → J K A E nL G hs cells slots tgt lo rest) (kf : x ≠ 0 → J K A E nL G hs cells slots (pc + 3) lo rest) : J K A E nL G hs cells slots pc lo (.int (nI x) :: rest) :=
  j_if_eq hE hd ht (fun h => kt ((Nat.eq_zero_or_pos x).elim (fun q => q) (fun q => absurd h (nI_ne0 q hX)))) (fun h => kf (fun q => h (by rw [q]; rfl)))
theorem j_if_neN (hE : jC K A E own cc nL fr lo9 mc ms) {x : Nat} {off : Int} {tgt : Nat} (hd : decode cc pc = .ok (.ifCond .ne off, 3)) (ht : (pc : Int) + off = (tgt : Int)) (hX : x < 2 ^ 31) (kt : x ≠ 0 → J K A E nL G hs cells slots tgt lo rest) (kf : x = 0 → J K A E nL G hs cells slots (pc + 3) lo rest) : J K A E nL G hs cells slots pc lo (.int (nI x) :: rest) :=
  j_if_ne hE hd ht (fun h => kt (fun q => h (by rw [q]; rfl))) (fun h => kf ((Nat.eq_zero_or_pos x).elim (fun q => q) (fun q => absurd h (nI_ne0 q hX))))
theorem j_if_leN (hE : jC K A E own cc nL fr lo9 mc ms) {x : Nat} {off : Int} {tgt : Nat} (hd : decode cc pc = .ok (.ifCond .le off, 3)) (ht : (pc : Int) + off = (tgt : Int)) (hX : x < 2 ^ 31) (kt : x = 0 → J K A E nL G hs cells slots tgt lo rest) (kf : 0 < x → J K A E nL G hs cells slots (pc + 3) lo rest) : J K A E nL G hs cells slots pc lo (.int (nI x) :: rest) :=
  j_if_le hE hd ht (fun h => kt ((Nat.eq_zero_or_pos x).elim (fun q => q) (fun q => absurd h (nI_nle q hX)))) (fun h => kf ((Nat.eq_zero_or_pos x).elim (fun q => absurd (by subst q; decide) h) (fun q => q)))
theorem j_if_gtN (hE : jC K A E own cc nL fr lo9 mc ms) {x : Nat} {off : Int} {tgt : Nat} (hd : decode cc pc = .ok (.ifCond .gt off, 3)) (ht : (pc : Int) + off = (tgt : Int)) (hX : x < 2 ^ 31) (kt : 0 < x → J K A E nL G hs cells slots tgt lo rest) (kf : x = 0 → J K A E nL G hs cells slots (pc + 3) lo rest) : J K A E nL G hs cells slots pc lo (.int (nI x) :: rest) :=
  j_if_gt hE hd ht (fun h => kt ((Nat.eq_zero_or_pos x).elim (fun q => absurd h (by subst q; decide)) (fun q => q))) (fun h => kf ((Nat.eq_zero_or_pos x).elim (fun q => q) (fun q => absurd (by rw [← nI_0]; exact nI_lt q hX) h)))
theorem j_tableIn (hE : jC K A E own cc nL fr lo9 mc ms) {dflt lw hi : Int} {offs : Array Int} {len : Nat} {x : Int32} {off : Int} {tgt : Nat} (hd : decode cc pc = .ok (.tableswitch dflt lw hi offs, len)) (h1 : ¬ x.toInt < lw) (h2 : ¬ hi < x.toInt) (ho : offs[(x.toInt - lw).toNat]? = some off) (ht : (pc : Int) + off = (tgt : Int)) (k : J K A E nL G hs cells slots tgt lo rest) : J K A E nL G hs cells slots pc lo (.int x :: rest) := by
  obtain ⟨p, l, e, R, s, m, args, below, meth, c, Q⟩ := E
  obtain ⟨hx, hb, hml, hown, hlk, hts, hN, hA, hst, hR⟩ := hE
  intro H locs ls hP hz hS hl
  exact lv_tableIn hx hb hd h1 h2 ho ht (k H locs ls hP hz hS hl)
theorem j_tableOut (hE : jC K A E own cc nL fr lo9 mc ms) {dflt lw hi : Int} {offs : Array Int} {len : Nat} {x : Int32} {tgt : Nat} (hd : decode cc pc = .ok (.tableswitch dflt lw hi offs, len)) (h : x.toInt < lw ∨ hi < x.toInt) (ht : (pc : Int) + dflt = (tgt : Int)) (k : J K A E nL G hs cells slots tgt lo rest) : J K A E nL G hs cells slots pc lo (.int x :: rest) := by
  obtain ⟨p, l, e, R, s, m, args, below, meth, c, Q⟩ := E
  obtain ⟨hx, hb, hml, hown, hlk, hts, hN, hA, hst, hR⟩ := hE
  intro H locs ls hP hz hS hl
  exact lv_tableOut hx hb hd h ht (k H locs ls hP hz hS hl)
theorem j_widen {k n : Nat} (h1 : cells ≤ k) (h2 : slots ≤ n) (kk : J K A E nL G hs k n pc lo rest) : J K A E nL G hs cells slots pc lo rest := by
  obtain ⟨p, l, e, R, s, m, args, below, meth, c, Q⟩ := E
  intro H locs ls hP hz hS hl
  exact W.widen h1 h2 (kk H locs ls hP hz hS hl)
theorem j_less {lo2 : List (Option Value)} (hq : ∀ (i : Nat) (v : Value), lo2[i]? = some (some v) → lo[i]? = some (some v)) (kk : J K A E nL G hs cells slots pc lo2 rest) : J K A E nL G hs cells slots pc lo rest := by
  obtain ⟨p, l, e, R, s, m, args, below, meth, c, Q⟩ := E
  intro H locs ls hP hz hS hl
  exact kk H locs ls hP hz hS (hl.less hq)
theorem j_ist0 (hE : jC K A E own cc nL fr lo9 mc ms) {z : Option Value} {tl : List (Option Value)} {k : Fin 4} {x : Int32} (hd : decode cc pc = .ok (.istore_n k, 1)) (hi : (k : Nat) = 0) (hn : 0 < nL) (k : J K A E nL G hs cells slots (pc + 1) (some (.int x) :: tl) rest) : J K A E nL G hs cells slots pc (z :: tl) (.int x :: rest) :=
  j_istore_n hE (i := 0) hd hi hn (fun w j hj => by omega) k
theorem j_ast0 (hE : jC K A E own cc nL fr lo9 mc ms) {z : Option Value} {tl : List (Option Value)} {k : Fin 4} {x : Nat} (hd : decode cc pc = .ok (.astore_n k, 1)) (hi : (k : Nat) = 0) (hn : 0 < nL) (k : J K A E nL G hs cells slots (pc + 1) (some (.ref x) :: tl) rest) : J K A E nL G hs cells slots pc (z :: tl) (.ref x :: rest) :=
  j_astore_n hE (i := 0) hd hi hn (fun w j hj => by omega) k
theorem j_inc0 (hE : jC K A E own cc nL fr lo9 mc ms) {tl : List (Option Value)} {n : Int} {x v : Int32} (hd : decode cc pc = .ok (.iinc 0 n, 3)) (hv : x + Int32.ofInt n = v) (hn : 0 < nL) (k : J K A E nL G hs cells slots (pc + 3) (some (.int v) :: tl) rest) : J K A E nL G hs cells slots pc (some (.int x) :: tl) rest :=
  j_iinc hE (i := 0) hd rfl hv hn (fun w j hj => by omega) k
theorem j_incN0 (hE : jC K A E own cc nL fr lo9 mc ms) {tl : List (Option Value)} {x : Nat} (hd : decode cc pc = .ok (.iinc 0 1, 3)) (hn : 0 < nL) (k : J K A E nL G hs cells slots (pc + 3) (some (.int (nI (x + 1))) :: tl) rest) : J K A E nL G hs cells slots pc (some (.int (nI x)) :: tl) rest :=
  j_inc0 hE hd (nI_1 x) hn k
theorem j_ist1 (hE : jC K A E own cc nL fr lo9 mc ms) {a0 : Option Value} {z : Option Value} {tl : List (Option Value)} {k : Fin 4} {x : Int32} (hd : decode cc pc = .ok (.istore_n k, 1)) (hi : (k : Nat) = 1) (hn : 1 < nL) (hc : a0.all (fun w => w.category == 1) = true) (k : J K A E nL G hs cells slots (pc + 1) (a0 :: some (.int x) :: tl) rest) : J K A E nL G hs cells slots pc (a0 :: z :: tl) (.int x :: rest) :=
  j_istore_n hE (i := 1) hd hi hn (fun w j hj hw => by
    have e : j = 0 := by omega
    subst e
    cases hw
    simpa using hc) k
theorem j_ast1 (hE : jC K A E own cc nL fr lo9 mc ms) {a0 : Option Value} {z : Option Value} {tl : List (Option Value)} {k : Fin 4} {x : Nat} (hd : decode cc pc = .ok (.astore_n k, 1)) (hi : (k : Nat) = 1) (hn : 1 < nL) (hc : a0.all (fun w => w.category == 1) = true) (k : J K A E nL G hs cells slots (pc + 1) (a0 :: some (.ref x) :: tl) rest) : J K A E nL G hs cells slots pc (a0 :: z :: tl) (.ref x :: rest) :=
  j_astore_n hE (i := 1) hd hi hn (fun w j hj hw => by
    have e : j = 0 := by omega
    subst e
    cases hw
    simpa using hc) k
theorem j_inc1 (hE : jC K A E own cc nL fr lo9 mc ms) {a0 : Option Value} {tl : List (Option Value)} {n : Int} {x v : Int32} (hd : decode cc pc = .ok (.iinc 1 n, 3)) (hv : x + Int32.ofInt n = v) (hn : 1 < nL) (hc : a0.all (fun w => w.category == 1) = true) (k : J K A E nL G hs cells slots (pc + 3) (a0 :: some (.int v) :: tl) rest) : J K A E nL G hs cells slots pc (a0 :: some (.int x) :: tl) rest :=
  j_iinc hE (i := 1) hd rfl hv hn (fun w j hj hw => by
    have e : j = 0 := by omega
    subst e
    cases hw
    simpa using hc) k
theorem j_incN1 (hE : jC K A E own cc nL fr lo9 mc ms) {a0 : Option Value} {tl : List (Option Value)} {x : Nat} (hd : decode cc pc = .ok (.iinc 1 1, 3)) (hn : 1 < nL) (hc : a0.all (fun w => w.category == 1) = true) (k : J K A E nL G hs cells slots (pc + 3) (a0 :: some (.int (nI (x + 1))) :: tl) rest) : J K A E nL G hs cells slots pc (a0 :: some (.int (nI x)) :: tl) rest :=
  j_inc1 hE hd (nI_1 x) hn hc k
theorem j_ist2 (hE : jC K A E own cc nL fr lo9 mc ms) {a0 a1 : Option Value} {z : Option Value} {tl : List (Option Value)} {k : Fin 4} {x : Int32} (hd : decode cc pc = .ok (.istore_n k, 1)) (hi : (k : Nat) = 2) (hn : 2 < nL) (hc : a1.all (fun w => w.category == 1) = true) (k : J K A E nL G hs cells slots (pc + 1) (a0 :: a1 :: some (.int x) :: tl) rest) : J K A E nL G hs cells slots pc (a0 :: a1 :: z :: tl) (.int x :: rest) :=
  j_istore_n hE (i := 2) hd hi hn (fun w j hj hw => by
    have e : j = 1 := by omega
    subst e
    cases hw
    simpa using hc) k
theorem j_ast2 (hE : jC K A E own cc nL fr lo9 mc ms) {a0 a1 : Option Value} {z : Option Value} {tl : List (Option Value)} {k : Fin 4} {x : Nat} (hd : decode cc pc = .ok (.astore_n k, 1)) (hi : (k : Nat) = 2) (hn : 2 < nL) (hc : a1.all (fun w => w.category == 1) = true) (k : J K A E nL G hs cells slots (pc + 1) (a0 :: a1 :: some (.ref x) :: tl) rest) : J K A E nL G hs cells slots pc (a0 :: a1 :: z :: tl) (.ref x :: rest) :=
  j_astore_n hE (i := 2) hd hi hn (fun w j hj hw => by
    have e : j = 1 := by omega
    subst e
    cases hw
    simpa using hc) k
theorem j_inc2 (hE : jC K A E own cc nL fr lo9 mc ms) {a0 a1 : Option Value} {tl : List (Option Value)} {n : Int} {x v : Int32} (hd : decode cc pc = .ok (.iinc 2 n, 3)) (hv : x + Int32.ofInt n = v) (hn : 2 < nL) (hc : a1.all (fun w => w.category == 1) = true) (k : J K A E nL G hs cells slots (pc + 3) (a0 :: a1 :: some (.int v) :: tl) rest) : J K A E nL G hs cells slots pc (a0 :: a1 :: some (.int x) :: tl) rest :=
  j_iinc hE (i := 2) hd rfl hv hn (fun w j hj hw => by
    have e : j = 1 := by omega
    subst e
    cases hw
    simpa using hc) k
theorem j_incN2 (hE : jC K A E own cc nL fr lo9 mc ms) {a0 a1 : Option Value} {tl : List (Option Value)} {x : Nat} (hd : decode cc pc = .ok (.iinc 2 1, 3)) (hn : 2 < nL) (hc : a1.all (fun w => w.category == 1) = true) (k : J K A E nL G hs cells slots (pc + 3) (a0 :: a1 :: some (.int (nI (x + 1))) :: tl) rest) : J K A E nL G hs cells slots pc (a0 :: a1 :: some (.int (nI x)) :: tl) rest :=
  j_inc2 hE hd (nI_1 x) hn hc k
theorem j_ist3 (hE : jC K A E own cc nL fr lo9 mc ms) {a0 a1 a2 : Option Value} {z : Option Value} {tl : List (Option Value)} {k : Fin 4} {x : Int32} (hd : decode cc pc = .ok (.istore_n k, 1)) (hi : (k : Nat) = 3) (hn : 3 < nL) (hc : a2.all (fun w => w.category == 1) = true) (k : J K A E nL G hs cells slots (pc + 1) (a0 :: a1 :: a2 :: some (.int x) :: tl) rest) : J K A E nL G hs cells slots pc (a0 :: a1 :: a2 :: z :: tl) (.int x :: rest) :=
  j_istore_n hE (i := 3) hd hi hn (fun w j hj hw => by
    have e : j = 2 := by omega
    subst e
    cases hw
    simpa using hc) k
theorem j_ast3 (hE : jC K A E own cc nL fr lo9 mc ms) {a0 a1 a2 : Option Value} {z : Option Value} {tl : List (Option Value)} {k : Fin 4} {x : Nat} (hd : decode cc pc = .ok (.astore_n k, 1)) (hi : (k : Nat) = 3) (hn : 3 < nL) (hc : a2.all (fun w => w.category == 1) = true) (k : J K A E nL G hs cells slots (pc + 1) (a0 :: a1 :: a2 :: some (.ref x) :: tl) rest) : J K A E nL G hs cells slots pc (a0 :: a1 :: a2 :: z :: tl) (.ref x :: rest) :=
  j_astore_n hE (i := 3) hd hi hn (fun w j hj hw => by
    have e : j = 2 := by omega
    subst e
    cases hw
    simpa using hc) k
theorem j_inc3 (hE : jC K A E own cc nL fr lo9 mc ms) {a0 a1 a2 : Option Value} {tl : List (Option Value)} {n : Int} {x v : Int32} (hd : decode cc pc = .ok (.iinc 3 n, 3)) (hv : x + Int32.ofInt n = v) (hn : 3 < nL) (hc : a2.all (fun w => w.category == 1) = true) (k : J K A E nL G hs cells slots (pc + 3) (a0 :: a1 :: a2 :: some (.int v) :: tl) rest) : J K A E nL G hs cells slots pc (a0 :: a1 :: a2 :: some (.int x) :: tl) rest :=
  j_iinc hE (i := 3) hd rfl hv hn (fun w j hj hw => by
    have e : j = 2 := by omega
    subst e
    cases hw
    simpa using hc) k
theorem j_incN3 (hE : jC K A E own cc nL fr lo9 mc ms) {a0 a1 a2 : Option Value} {tl : List (Option Value)} {x : Nat} (hd : decode cc pc = .ok (.iinc 3 1, 3)) (hn : 3 < nL) (hc : a2.all (fun w => w.category == 1) = true) (k : J K A E nL G hs cells slots (pc + 3) (a0 :: a1 :: a2 :: some (.int (nI (x + 1))) :: tl) rest) : J K A E nL G hs cells slots pc (a0 :: a1 :: a2 :: some (.int (nI x)) :: tl) rest :=
  j_inc3 hE hd (nI_1 x) hn hc k
theorem j_ist4 (hE : jC K A E own cc nL fr lo9 mc ms) {a0 a1 a2 a3 : Option Value} {z : Option Value} {tl : List (Option Value)} {x : Int32} (hd : decode cc pc = .ok (.istore 4, 2)) (hn : 4 < nL) (hc : a3.all (fun w => w.category == 1) = true) (k : J K A E nL G hs cells slots (pc + 2) (a0 :: a1 :: a2 :: a3 :: some (.int x) :: tl) rest) : J K A E nL G hs cells slots pc (a0 :: a1 :: a2 :: a3 :: z :: tl) (.int x :: rest) :=
  j_istore hE (i := 4) hd hn (fun w j hj hw => by
    have e : j = 3 := by omega
    subst e
    cases hw
    simpa using hc) k
theorem j_ast4 (hE : jC K A E own cc nL fr lo9 mc ms) {a0 a1 a2 a3 : Option Value} {z : Option Value} {tl : List (Option Value)} {x : Nat} (hd : decode cc pc = .ok (.astore 4, 2)) (hn : 4 < nL) (hc : a3.all (fun w => w.category == 1) = true) (k : J K A E nL G hs cells slots (pc + 2) (a0 :: a1 :: a2 :: a3 :: some (.ref x) :: tl) rest) : J K A E nL G hs cells slots pc (a0 :: a1 :: a2 :: a3 :: z :: tl) (.ref x :: rest) :=
  j_astore hE (i := 4) hd hn (fun w j hj hw => by
    have e : j = 3 := by omega
    subst e
    cases hw
    simpa using hc) k
theorem j_inc4 (hE : jC K A E own cc nL fr lo9 mc ms) {a0 a1 a2 a3 : Option Value} {tl : List (Option Value)} {n : Int} {x v : Int32} (hd : decode cc pc = .ok (.iinc 4 n, 3)) (hv : x + Int32.ofInt n = v) (hn : 4 < nL) (hc : a3.all (fun w => w.category == 1) = true) (k : J K A E nL G hs cells slots (pc + 3) (a0 :: a1 :: a2 :: a3 :: some (.int v) :: tl) rest) : J K A E nL G hs cells slots pc (a0 :: a1 :: a2 :: a3 :: some (.int x) :: tl) rest :=
  j_iinc hE (i := 4) hd rfl hv hn (fun w j hj hw => by
    have e : j = 3 := by omega
    subst e
    cases hw
    simpa using hc) k
theorem j_incN4 (hE : jC K A E own cc nL fr lo9 mc ms) {a0 a1 a2 a3 : Option Value} {tl : List (Option Value)} {x : Nat} (hd : decode cc pc = .ok (.iinc 4 1, 3)) (hn : 4 < nL) (hc : a3.all (fun w => w.category == 1) = true) (k : J K A E nL G hs cells slots (pc + 3) (a0 :: a1 :: a2 :: a3 :: some (.int (nI (x + 1))) :: tl) rest) : J K A E nL G hs cells slots pc (a0 :: a1 :: a2 :: a3 :: some (.int (nI x)) :: tl) rest :=
  j_inc4 hE hd (nI_1 x) hn hc k
theorem j_ist5 (hE : jC K A E own cc nL fr lo9 mc ms) {a0 a1 a2 a3 a4 : Option Value} {z : Option Value} {tl : List (Option Value)} {x : Int32} (hd : decode cc pc = .ok (.istore 5, 2)) (hn : 5 < nL) (hc : a4.all (fun w => w.category == 1) = true) (k : J K A E nL G hs cells slots (pc + 2) (a0 :: a1 :: a2 :: a3 :: a4 :: some (.int x) :: tl) rest) : J K A E nL G hs cells slots pc (a0 :: a1 :: a2 :: a3 :: a4 :: z :: tl) (.int x :: rest) :=
  j_istore hE (i := 5) hd hn (fun w j hj hw => by
    have e : j = 4 := by omega
    subst e
    cases hw
    simpa using hc) k
theorem j_ast5 (hE : jC K A E own cc nL fr lo9 mc ms) {a0 a1 a2 a3 a4 : Option Value} {z : Option Value} {tl : List (Option Value)} {x : Nat} (hd : decode cc pc = .ok (.astore 5, 2)) (hn : 5 < nL) (hc : a4.all (fun w => w.category == 1) = true) (k : J K A E nL G hs cells slots (pc + 2) (a0 :: a1 :: a2 :: a3 :: a4 :: some (.ref x) :: tl) rest) : J K A E nL G hs cells slots pc (a0 :: a1 :: a2 :: a3 :: a4 :: z :: tl) (.ref x :: rest) :=
  j_astore hE (i := 5) hd hn (fun w j hj hw => by
    have e : j = 4 := by omega
    subst e
    cases hw
    simpa using hc) k
theorem j_inc5 (hE : jC K A E own cc nL fr lo9 mc ms) {a0 a1 a2 a3 a4 : Option Value} {tl : List (Option Value)} {n : Int} {x v : Int32} (hd : decode cc pc = .ok (.iinc 5 n, 3)) (hv : x + Int32.ofInt n = v) (hn : 5 < nL) (hc : a4.all (fun w => w.category == 1) = true) (k : J K A E nL G hs cells slots (pc + 3) (a0 :: a1 :: a2 :: a3 :: a4 :: some (.int v) :: tl) rest) : J K A E nL G hs cells slots pc (a0 :: a1 :: a2 :: a3 :: a4 :: some (.int x) :: tl) rest :=
  j_iinc hE (i := 5) hd rfl hv hn (fun w j hj hw => by
    have e : j = 4 := by omega
    subst e
    cases hw
    simpa using hc) k
theorem j_incN5 (hE : jC K A E own cc nL fr lo9 mc ms) {a0 a1 a2 a3 a4 : Option Value} {tl : List (Option Value)} {x : Nat} (hd : decode cc pc = .ok (.iinc 5 1, 3)) (hn : 5 < nL) (hc : a4.all (fun w => w.category == 1) = true) (k : J K A E nL G hs cells slots (pc + 3) (a0 :: a1 :: a2 :: a3 :: a4 :: some (.int (nI (x + 1))) :: tl) rest) : J K A E nL G hs cells slots pc (a0 :: a1 :: a2 :: a3 :: a4 :: some (.int (nI x)) :: tl) rest :=
  j_inc5 hE hd (nI_1 x) hn hc k
theorem j_ist6 (hE : jC K A E own cc nL fr lo9 mc ms) {a0 a1 a2 a3 a4 a5 : Option Value} {z : Option Value} {tl : List (Option Value)} {x : Int32} (hd : decode cc pc = .ok (.istore 6, 2)) (hn : 6 < nL) (hc : a5.all (fun w => w.category == 1) = true) (k : J K A E nL G hs cells slots (pc + 2) (a0 :: a1 :: a2 :: a3 :: a4 :: a5 :: some (.int x) :: tl) rest) : J K A E nL G hs cells slots pc (a0 :: a1 :: a2 :: a3 :: a4 :: a5 :: z :: tl) (.int x :: rest) :=
  j_istore hE (i := 6) hd hn (fun w j hj hw => by
    have e : j = 5 := by omega
    subst e
    cases hw
    simpa using hc) k
theorem j_ast6 (hE : jC K A E own cc nL fr lo9 mc ms) {a0 a1 a2 a3 a4 a5 : Option Value} {z : Option Value} {tl : List (Option Value)} {x : Nat} (hd : decode cc pc = .ok (.astore 6, 2)) (hn : 6 < nL) (hc : a5.all (fun w => w.category == 1) = true) (k : J K A E nL G hs cells slots (pc + 2) (a0 :: a1 :: a2 :: a3 :: a4 :: a5 :: some (.ref x) :: tl) rest) : J K A E nL G hs cells slots pc (a0 :: a1 :: a2 :: a3 :: a4 :: a5 :: z :: tl) (.ref x :: rest) :=
  j_astore hE (i := 6) hd hn (fun w j hj hw => by
    have e : j = 5 := by omega
    subst e
    cases hw
    simpa using hc) k
theorem j_inc6 (hE : jC K A E own cc nL fr lo9 mc ms) {a0 a1 a2 a3 a4 a5 : Option Value} {tl : List (Option Value)} {n : Int} {x v : Int32} (hd : decode cc pc = .ok (.iinc 6 n, 3)) (hv : x + Int32.ofInt n = v) (hn : 6 < nL) (hc : a5.all (fun w => w.category == 1) = true) (k : J K A E nL G hs cells slots (pc + 3) (a0 :: a1 :: a2 :: a3 :: a4 :: a5 :: some (.int v) :: tl) rest) : J K A E nL G hs cells slots pc (a0 :: a1 :: a2 :: a3 :: a4 :: a5 :: some (.int x) :: tl) rest :=
  j_iinc hE (i := 6) hd rfl hv hn (fun w j hj hw => by
    have e : j = 5 := by omega
    subst e
    cases hw
    simpa using hc) k
theorem j_incN6 (hE : jC K A E own cc nL fr lo9 mc ms) {a0 a1 a2 a3 a4 a5 : Option Value} {tl : List (Option Value)} {x : Nat} (hd : decode cc pc = .ok (.iinc 6 1, 3)) (hn : 6 < nL) (hc : a5.all (fun w => w.category == 1) = true) (k : J K A E nL G hs cells slots (pc + 3) (a0 :: a1 :: a2 :: a3 :: a4 :: a5 :: some (.int (nI (x + 1))) :: tl) rest) : J K A E nL G hs cells slots pc (a0 :: a1 :: a2 :: a3 :: a4 :: a5 :: some (.int (nI x)) :: tl) rest :=
  j_inc6 hE hd (nI_1 x) hn hc k
theorem j_ist7 (hE : jC K A E own cc nL fr lo9 mc ms) {a0 a1 a2 a3 a4 a5 a6 : Option Value} {z : Option Value} {tl : List (Option Value)} {x : Int32} (hd : decode cc pc = .ok (.istore 7, 2)) (hn : 7 < nL) (hc : a6.all (fun w => w.category == 1) = true) (k : J K A E nL G hs cells slots (pc + 2) (a0 :: a1 :: a2 :: a3 :: a4 :: a5 :: a6 :: some (.int x) :: tl) rest) : J K A E nL G hs cells slots pc (a0 :: a1 :: a2 :: a3 :: a4 :: a5 :: a6 :: z :: tl) (.int x :: rest) :=
  j_istore hE (i := 7) hd hn (fun w j hj hw => by
    have e : j = 6 := by omega
    subst e
    cases hw
    simpa using hc) k
theorem j_ast7 (hE : jC K A E own cc nL fr lo9 mc ms) {a0 a1 a2 a3 a4 a5 a6 : Option Value} {z : Option Value} {tl : List (Option Value)} {x : Nat} (hd : decode cc pc = .ok (.astore 7, 2)) (hn : 7 < nL) (hc : a6.all (fun w => w.category == 1) = true) (k : J K A E nL G hs cells slots (pc + 2) (a0 :: a1 :: a2 :: a3 :: a4 :: a5 :: a6 :: some (.ref x) :: tl) rest) : J K A E nL G hs cells slots pc (a0 :: a1 :: a2 :: a3 :: a4 :: a5 :: a6 :: z :: tl) (.ref x :: rest) :=
  j_astore hE (i := 7) hd hn (fun w j hj hw => by
    have e : j = 6 := by omega
    subst e
    cases hw
    simpa using hc) k
theorem j_inc7 (hE : jC K A E own cc nL fr lo9 mc ms) {a0 a1 a2 a3 a4 a5 a6 : Option Value} {tl : List (Option Value)} {n : Int} {x v : Int32} (hd : decode cc pc = .ok (.iinc 7 n, 3)) (hv : x + Int32.ofInt n = v) (hn : 7 < nL) (hc : a6.all (fun w => w.category == 1) = true) (k : J K A E nL G hs cells slots (pc + 3) (a0 :: a1 :: a2 :: a3 :: a4 :: a5 :: a6 :: some (.int v) :: tl) rest) : J K A E nL G hs cells slots pc (a0 :: a1 :: a2 :: a3 :: a4 :: a5 :: a6 :: some (.int x) :: tl) rest :=
  j_iinc hE (i := 7) hd rfl hv hn (fun w j hj hw => by
    have e : j = 6 := by omega
    subst e
    cases hw
    simpa using hc) k
theorem j_incN7 (hE : jC K A E own cc nL fr lo9 mc ms) {a0 a1 a2 a3 a4 a5 a6 : Option Value} {tl : List (Option Value)} {x : Nat} (hd : decode cc pc = .ok (.iinc 7 1, 3)) (hn : 7 < nL) (hc : a6.all (fun w => w.category == 1) = true) (k : J K A E nL G hs cells slots (pc + 3) (a0 :: a1 :: a2 :: a3 :: a4 :: a5 :: a6 :: some (.int (nI (x + 1))) :: tl) rest) : J K A E nL G hs cells slots pc (a0 :: a1 :: a2 :: a3 :: a4 :: a5 :: a6 :: some (.int (nI x)) :: tl) rest :=
  j_inc7 hE hd (nI_1 x) hn hc k
theorem j_ist8 (hE : jC K A E own cc nL fr lo9 mc ms) {a0 a1 a2 a3 a4 a5 a6 a7 : Option Value} {z : Option Value} {tl : List (Option Value)} {x : Int32} (hd : decode cc pc = .ok (.istore 8, 2)) (hn : 8 < nL) (hc : a7.all (fun w => w.category == 1) = true) (k : J K A E nL G hs cells slots (pc + 2) (a0 :: a1 :: a2 :: a3 :: a4 :: a5 :: a6 :: a7 :: some (.int x) :: tl) rest) : J K A E nL G hs cells slots pc (a0 :: a1 :: a2 :: a3 :: a4 :: a5 :: a6 :: a7 :: z :: tl) (.int x :: rest) :=
  j_istore hE (i := 8) hd hn (fun w j hj hw => by
    have e : j = 7 := by omega
    subst e
    cases hw
    simpa using hc) k
theorem j_ast8 (hE : jC K A E own cc nL fr lo9 mc ms) {a0 a1 a2 a3 a4 a5 a6 a7 : Option Value} {z : Option Value} {tl : List (Option Value)} {x : Nat} (hd : decode cc pc = .ok (.astore 8, 2)) (hn : 8 < nL) (hc : a7.all (fun w => w.category == 1) = true) (k : J K A E nL G hs cells slots (pc + 2) (a0 :: a1 :: a2 :: a3 :: a4 :: a5 :: a6 :: a7 :: some (.ref x) :: tl) rest) : J K A E nL G hs cells slots pc (a0 :: a1 :: a2 :: a3 :: a4 :: a5 :: a6 :: a7 :: z :: tl) (.ref x :: rest) :=
  j_astore hE (i := 8) hd hn (fun w j hj hw => by
    have e : j = 7 := by omega
    subst e
    cases hw
    simpa using hc) k
theorem j_inc8 (hE : jC K A E own cc nL fr lo9 mc ms) {a0 a1 a2 a3 a4 a5 a6 a7 : Option Value} {tl : List (Option Value)} {n : Int} {x v : Int32} (hd : decode cc pc = .ok (.iinc 8 n, 3)) (hv : x + Int32.ofInt n = v) (hn : 8 < nL) (hc : a7.all (fun w => w.category == 1) = true) (k : J K A E nL G hs cells slots (pc + 3) (a0 :: a1 :: a2 :: a3 :: a4 :: a5 :: a6 :: a7 :: some (.int v) :: tl) rest) : J K A E nL G hs cells slots pc (a0 :: a1 :: a2 :: a3 :: a4 :: a5 :: a6 :: a7 :: some (.int x) :: tl) rest :=
  j_iinc hE (i := 8) hd rfl hv hn (fun w j hj hw => by
    have e : j = 7 := by omega
    subst e
    cases hw
    simpa using hc) k
theorem j_incN8 (hE : jC K A E own cc nL fr lo9 mc ms) {a0 a1 a2 a3 a4 a5 a6 a7 : Option Value} {tl : List (Option Value)} {x : Nat} (hd : decode cc pc = .ok (.iinc 8 1, 3)) (hn : 8 < nL) (hc : a7.all (fun w => w.category == 1) = true) (k : J K A E nL G hs cells slots (pc + 3) (a0 :: a1 :: a2 :: a3 :: a4 :: a5 :: a6 :: a7 :: some (.int (nI (x + 1))) :: tl) rest) : J K A E nL G hs cells slots pc (a0 :: a1 :: a2 :: a3 :: a4 :: a5 :: a6 :: a7 :: some (.int (nI x)) :: tl) rest :=
  j_inc8 hE hd (nI_1 x) hn hc k
theorem j_lst3 (hE : jC K A E own cc nL fr lo9 mc ms) {a0 a1 a2 : Option Value} {z z2 : Option Value} {tl : List (Option Value)} {k : Fin 4} {x : Int64} (hd : decode cc pc = .ok (.lstore_n k, 1)) (hi : (k : Nat) = 3) (hn : 3 + 1 < nL) (hc : a2.all (fun w => w.category == 1) = true) (k : J K A E nL G hs cells slots (pc + 1) (a0 :: a1 :: a2 :: some (.long x) :: none :: tl) rest) : J K A E nL G hs cells slots pc (a0 :: a1 :: a2 :: z :: z2 :: tl) (.long x :: rest) :=
  j_lstore_n hE (i := 3) hd hi hn (fun w j hj hw => by
    have e : j = 2 := by omega
    subst e
    cases hw
    simpa using hc) k
theorem j_dst7 (hE : jC K A E own cc nL fr lo9 mc ms) {a0 a1 a2 a3 a4 a5 a6 : Option Value} {z z2 : Option Value} {tl : List (Option Value)} {x : UInt64} (hd : decode cc pc = .ok (.dstore 7, 2)) (hn : 7 + 1 < nL) (hc : a6.all (fun w => w.category == 1) = true) (k : J K A E nL G hs cells slots (pc + 2) (a0 :: a1 :: a2 :: a3 :: a4 :: a5 :: a6 :: some (.double x) :: none :: tl) rest) : J K A E nL G hs cells slots pc (a0 :: a1 :: a2 :: a3 :: a4 :: a5 :: a6 :: z :: z2 :: tl) (.double x :: rest) :=
  j_dstore hE (i := 7) hd hn (fun w j hj hw => by
    have e : j = 6 := by omega
    subst e
    cases hw
    simpa using hc) k
end JR
