/-! ===== the class: what it throws ===== -/
theorem jW_all (l : List Cond) (h : (l.all fun w => (lw_tbl.any fun v => decide (v = w)) && goodWord w) = true) : ∀ w ∈ l, w ∈ jW := fun w hw => by
  have h1 := List.all_eq_true.mp h w hw
  rw [Bool.and_eq_true] at h1
  obtain ⟨v, hv, e⟩ := List.any_eq_true.mp h1.1
  rw [← of_decide_eq_true e] at h1 ⊢
  exact List.mem_filter.mpr ⟨hv, h1.2⟩
theorem jDecl_all (l : List Cond) (h : (l.all fun w => (jDecl.map Cond.declares ++ jCast.map (fun q => Cond.castable q.1 q.2)).any fun v => decide (v = w)) = true) : ∀ w ∈ l, w ∈ jDecl.map Cond.declares ++ jCast.map (fun q => Cond.castable q.1 q.2) := fun w hw => by
  have h1 := List.all_eq_true.mp h w hw
  obtain ⟨v, hv, e⟩ := List.any_eq_true.mp h1
  rw [← of_decide_eq_true e]
  exact hv
theorem vx_ot_all (l : List Cond) (h : (l.all fun w => vx_ot w) = true) : ∀ w ∈ l, vx_ot w = true := fun w hw => List.all_eq_true.mp h w hw
section JQ9
variable {K : jK} {A : Nat → Prop} {E : jE} {own : String} {cc : ByteArray} {nL fr lo9 mc ms : Nat} {G : GH} {hs cells slots pc : Nat} {lo : List (Option Value)} {rest st0 : List Value}
def jThB (own cls : String) (ik is ic : Nat) (text : String) : Prop := own = "FrameCommutator" ∧ (is, text) ∈ jStr ∧ Bundle.fit cls = true ∧ Cond.classLink own ik cls ∈ jW ∧ Cond.initialized cls ∈ jW ∧ (∀ w ∈ (vx_atS own ic cls ["java/lang/RuntimeException", "java/lang/Exception"]).filter goodWord, w ∈ jW) ∧ (∀ w ∈ (vx_atS own ic cls ["java/lang/RuntimeException", "java/lang/Exception"]).filter (fun w => !goodWord w), w ∈ jDecl.map Cond.declares ++ jCast.map (fun q => Cond.castable q.1 q.2)) ∧ (∀ w ∈ Cond.classLink own ik cls :: Cond.initialized cls :: vx_atS own ic cls ["java/lang/RuntimeException", "java/lang/Exception"], vx_ot w = true)
theorem j_throwB (hE : jC K A E own cc nL fr lo9 mc ms) (hX : jNoX E) {ret : Option FieldType} {post : Option Value → GH → Nat → Prop} {px : String → GH → Prop} (hQ : jQ K A E ret mc ms post px) {cls text : String} {ik is ic : Nat} (hT : jThB own cls ik is ic text) (hfr : 6 ≤ fr) (hlo : (rest.map fun v => v.category).sum + 82 ≤ lo9) (hc9 : cells + 1 ≤ mc) (hs9 : slots + 6 ≤ ms)
    (d0 : decode cc pc = .ok (.new ik, 3)) (d3 : decode cc (pc + 3) = .ok (.dup, 1)) (d4 : decode cc (pc + 4) = .ok (.ldc is, 2)) (d6 : decode cc (pc + 6) = .ok (.invokespecial ic, 3)) (d9 : decode cc (pc + 9) = .ok (.athrow, 1)) (hp : px cls G) : J K A E nL G hs cells slots pc lo rest := by
  obtain ⟨p, l, e, R, s, m, args, below, meth, c, Q⟩ := E
  obtain ⟨hx, hb, hml, hown, hlk, hts, hN, hA, hst, hR⟩ := hE
  obtain ⟨hr, hQ⟩ := hQ
  obtain ⟨rfl, t1, t2, t3, t4, t5, t6, t7⟩ := hT
  intro H locs ls hP hz hS hl
  subst hQ
  subst hR
  obtain ⟨n1, n2, n3, n4, n5, n6, n7, n8, n9, n10⟩ := hN
  obtain ⟨sa, hsa⟩ := n8 _ t1
  refine vx_throwS (A := A) (names := ["java/lang/RuntimeException", "java/lang/Exception"]) hx hb hst hown t2 (by decide) (hts _ t3) (hts _ t4) hsa (vx_hat (fun w hw => hts _ (t5 w hw)) t6 (fun w hw => ?_)) t7 n9 n10 hS (hl.1.trans hml.symm) d0 d3 d4 d6 d9 (fun x hx => (hX x hx).elim) (by show 2 + 3 < fr; omega) (by show _ + (13 * (2 + 1) + 43) ≤ lo9; omega) hc9 hs9 hlk (fun t h1 h2 h3 => ⟨⟨G, hp, hP.kept h3⟩, ⟨Nat.le_trans hS.1 h2, fun q g1 g2 => (h3 q (Nat.lt_of_lt_of_le g1 hS.1)).trans (hS.2.1 q g1 g2)⟩⟩) hS.2.2 hc9 hs9
  rcases List.mem_append.mp hw with hw | hw
  · obtain ⟨q, hq, rfl⟩ := List.mem_map.mp hw
    exact va_Nw.use rfl (n3 q hq)
  · obtain ⟨q, hq, rfl⟩ := List.mem_map.mp hw
    exact va_Nw.use rfl (n4 q hq)
end JQ9
theorem jTh_A : jThB "FrameCommutator" jIA 183 185 187 "an argument is out of range" := ⟨rfl, by decide, by decide +kernel, jW_all [Cond.classLink "FrameCommutator" 183 jIA] (by decide +kernel) _ (List.mem_cons_self ..), jW_all [Cond.initialized jIA] (by decide +kernel) _ (List.mem_cons_self ..), jW_all _ (by decide +kernel), jDecl_all _ (by decide +kernel), vx_ot_all _ (by decide +kernel)⟩
theorem jTh_S : jThB "FrameCommutator" jIS 190 192 194 "the call is not possible in this state" := ⟨rfl, by decide, by decide +kernel, jW_all [Cond.classLink "FrameCommutator" 190 jIS] (by decide +kernel) _ (List.mem_cons_self ..), jW_all [Cond.initialized jIS] (by decide +kernel) _ (List.mem_cons_self ..), jW_all _ (by decide +kernel), jDecl_all _ (by decide +kernel), vx_ot_all _ (by decide +kernel)⟩
theorem jTh_X : jThB "FrameCommutator" jIX 195 197 199 "there is nothing with this number" := ⟨rfl, by decide, by decide +kernel, jW_all [Cond.classLink "FrameCommutator" 195 jIX] (by decide +kernel) _ (List.mem_cons_self ..), jW_all [Cond.initialized jIX] (by decide +kernel) _ (List.mem_cons_self ..), jW_all _ (by decide +kernel), jDecl_all _ (by decide +kernel), vx_ot_all _ (by decide +kernel)⟩
