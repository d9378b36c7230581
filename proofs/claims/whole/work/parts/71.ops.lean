/-! ===== both sides of a call ===== -/
theorem fcOk.move {K : jK} {G G' : GH} {x n : Nat} {q : Nat → Nat} {cnt nw : Nat} {s : StV} {S : Nat → StV} {d : LyV} (h : fcOk K G x n q cnt nw s S d) (he : ∀ a, x ≤ a → a < x + 229 → G' a = G a) : fcOk K G' x n q cnt nw s S d := by
  have hb := h.f5
  refine ⟨(he x (by omega) (by omega)).trans h.f0, (he _ (by omega) (by omega)).trans h.f1, gB_move h.f2 (fun a h1 h2 => he a (by omega) (by simp only [List.length_cons, List.length_nil] at h2; omega)), sG_move h.f3 (fun a h1 h2 => ?_), fun i hi => sG_move (h.f4 i hi) (fun a h1 h2 => ?_), hb, h.f6, h.f7, h.f8, h.f9⟩
  · have := hb.1.at
    exact he a (by omega) (by omega)
  · have := (hb.2.1 i hi).at
    exact he a (by omega) (by omega)
abbrev FcV : Type := Nat × (Nat → Nat) × Nat × Nat × StV × (Nat → StV) × LyV
abbrev MdV : Type := (Nat → Int32) × (Nat → Int32) × Nat × Int32 × (Nat → Int32) × Int64
abbrev fcT (K : jK) (G : GH) (x : Nat) (c : FcV) : Prop := fcOk K G x c.1 c.2.1 c.2.2.1 c.2.2.2.1 c.2.2.2.2.1 c.2.2.2.2.2.1 c.2.2.2.2.2.2
abbrev mdC (K : jK) (y : Nat) (v : MdV) : List va_E := mC K y v.1 v.2.1 (nI v.2.2.1) v.2.2.2.1 v.2.2.2.2.1 v.2.2.2.2.2
def RelV (c : FcV) (v : MdV) : Prop := rowR v.1 c.2.2.2.2.1 ∧ pastR v.2.1 v.2.2.1 c.2.2.2.2.2.1 c.2.2.2.1 ∧ c.2.2.1 = v.2.2.1 ∧ v.2.2.1 ≤ 4 ∧ c.2.2.2.1 < 4
def lwOk (K : jK) (G : GH) (x : Nat) (c : FcV) (v : MdV) : Prop := fcT K G x c ∧ gB G (x + 229) (mdC K (x + 229) v) = G ∧ (∃ f, G (x + 233) = some (lA K 1 f)) ∧ ∃ f, G (x + 234) = some (dA K 1 f)
/-- the class's side has been called -/
theorem lwOk.cl {K : jK} {G G' : GH} {x : Nat} {c c' : FcV} {v : MdV} (h : lwOk K G x c v) (h1 : fcT K G' x c') (h2 : fO x G G') : lwOk K G' x c' v := by
  obtain ⟨-, g2, ⟨f3, g3⟩, ⟨f4, g4⟩⟩ := h
  exact ⟨h1, gB_move g2 (fun a q1 q2 => h2 a (by omega)), ⟨f3, (h2 _ (by omega)).trans g3⟩, ⟨f4, (h2 _ (by omega)).trans g4⟩⟩
/-- the reference's side has been called -/
theorem lwOk.md {K : jK} {G G' : GH} {x : Nat} {c : FcV} {v v' : MdV} (h : lwOk K G x c v) (e : G' = gB G (x + 229) (mdC K (x + 229) v')) : lwOk K G' x c v' ∧ G' (x + 233) = G (x + 233) ∧ G' (x + 234) = G (x + 234) := by
  obtain ⟨g1, g2, ⟨f3, g3⟩, ⟨f4, g4⟩⟩ := h
  subst e
  have ho : ∀ a, (a < x + 229 ∨ x + 233 ≤ a) → gB G (x + 229) (mdC K (x + 229) v') a = G a := fun a ha => gB_out (by simp only [List.length_cons, List.length_nil]; omega)
  exact ⟨⟨g1.move (fun a q1 q2 => ho a (by omega)), gB_gB rfl, ⟨f3, (ho _ (by omega)).trans g3⟩, ⟨f4, (ho _ (by omega)).trans g4⟩⟩, ho _ (by omega), ho _ (by omega)⟩
theorem lwOk.ou {K : jK} {G G' : GH} {x : Nat} {c : FcV} {v : MdV} {f : Nat → Int64} (h : lwOk K G x c v) (e : G' = gset G (x + 233) (lA K 1 f)) : lwOk K G' x c v ∧ G' (x + 233) = some (lA K 1 f) := by
  obtain ⟨g1, g2, -, ⟨f4, g4⟩⟩ := h
  subst e
  have ho : ∀ a, a ≠ x + 233 → gset G (x + 233) (lA K 1 f) a = G a := fun a ha => gset_n ha
  exact ⟨⟨g1.move (fun a q1 q2 => ho a (by omega)), gB_move g2 (fun a q1 q2 => ho a (by simp only [List.length_cons, List.length_nil] at q2; omega)), ⟨f, gset_s _ _ _⟩, ⟨f4, (ho _ (by omega)).trans g4⟩⟩, gset_s _ _ _⟩
theorem lwOk.od {K : jK} {G G' : GH} {x : Nat} {c : FcV} {v : MdV} {f : Nat → UInt64} (h : lwOk K G x c v) (e : G' = gset G (x + 234) (dA K 1 f)) : lwOk K G' x c v ∧ G' (x + 234) = some (dA K 1 f) := by
  obtain ⟨g1, g2, ⟨f3, g3⟩, -⟩ := h
  subst e
  have ho : ∀ a, a ≠ x + 234 → gset G (x + 234) (dA K 1 f) a = G a := fun a ha => gset_n ha
  exact ⟨⟨g1.move (fun a q1 q2 => ho a (by omega)), gB_move g2 (fun a q1 q2 => ho a (by simp only [List.length_cons, List.length_nil] at q2; omega)), ⟨f3, (ho _ (by omega)).trans g3⟩, ⟨f, gset_s _ _ _⟩⟩, gset_s _ _ _⟩
theorem updL_0 (f : Nat → Int64) (v : Int64) : vp_updL f 0 v 0 = v := by simp [vp_updL]
theorem updD_0 (f : Nat → UInt64) (v : UInt64) : vf_upd f 0 v 0 = v := by simp [vf_upd]
abbrev CtF : Type := Launch → GH → Nat → (Option Value → GH → Nat → Prop) → Prop
/-- a call in the law: the class by a helper, the reference; both answer alike -/
def OpI (K : jK) (x : Nat) (H M : CtF) (c : FcV) (v : MdV) : Prop := ∃ (kk : Nat) (b : Int32) (c' : FcV) (v' : MdV), kk ≤ 3 ∧ RelV c' v' ∧ v'.2.2.2.1 = nI kk ∧
  (∀ l : Launch, l.stackTraces = false → ∀ G hs, lwOk K G x c v → H l G hs (pI (fun z G' _ => z = nI kk ∧ lwOk K G' x c' v ∧ ∃ f, G' (x + 233) = some (lA K 1 f) ∧ (kk = 0 → f 0 = b.toInt64)))) ∧
  (∀ l : Launch, l.stackTraces = false → ∀ G hs, lwOk K G x c' v → M l G hs (pI (fun z G' _ => z = b ∧ G' = gB G (x + 229) (mdC K (x + 229) v'))))
def OpD (K : jK) (x : Nat) (H M : CtF) (c : FcV) (v : MdV) : Prop := ∃ (kk : Nat) (b : UInt64) (c' : FcV) (v' : MdV), kk ≤ 3 ∧ RelV c' v' ∧ v'.2.2.2.1 = nI kk ∧
  (∀ l : Launch, l.stackTraces = false → ∀ G hs, lwOk K G x c v → H l G hs (pI (fun z G' _ => z = nI kk ∧ lwOk K G' x c' v ∧ ∃ f, G' (x + 234) = some (dA K 1 f) ∧ (kk = 0 → f 0 = b ∧ vf_n64 b)))) ∧
  (∀ l : Launch, l.stackTraces = false → ∀ G hs, lwOk K G x c' v → M l G hs (pD (fun z G' _ => z = b ∧ G' = gB G (x + 229) (mdC K (x + 229) v'))))
/-- a plain call of both -/
def OpP (K : jK) (x : Nat) (H M : CtF) (c : FcV) (v : MdV) : Prop := ∃ (b : Int32) (c' : FcV) (v' : MdV), RelV c' v' ∧
  (∀ l : Launch, l.stackTraces = false → ∀ G hs, lwOk K G x c v → H l G hs (pI (fun z G' _ => z = b ∧ lwOk K G' x c' v))) ∧
  (∀ l : Launch, l.stackTraces = false → ∀ G hs, lwOk K G x c' v → M l G hs (pI (fun z G' _ => z = b ∧ lwOk K G' x c' v')))
def OpL (K : jK) (x : Nat) (H M : CtF) (c : FcV) (v : MdV) : Prop := ∃ (b : Int64) (c' : FcV) (v' : MdV), RelV c' v' ∧
  (∀ l : Launch, l.stackTraces = false → ∀ G hs, lwOk K G x c v → H l G hs (pL (fun z G' _ => z = b ∧ lwOk K G' x c' v))) ∧
  (∀ l : Launch, l.stackTraces = false → ∀ G hs, lwOk K G x c' v → M l G hs (pL (fun z G' _ => z = b ∧ lwOk K G' x c' v')))
theorem op_setFrame_ok {K : jK} {x : Nat} {c : FcV} {v : MdV} (p0 p1 : Int32) (b : Int32) (c' : FcV) (v' : MdV) (hR : RelV c' v') (ht : v'.2.2.2.1 = nI 0) (hM : ∀ l : Launch, l.stackTraces = false → ∀ G hs, fcT K G x c → Ct l K yX5_setFrame cX5_setFrame 3 (some .int) 7 102 2 12 [.ref x, .int p0, .int p1] G hs (pI (fun z G' _ => z = b ∧ fcT K G' x c' ∧ fO x G G')) jno) (hm : ∀ l : Launch, l.stackTraces = false → ∀ F hs, Ct l K yX6_setFrame cX6_setFrame 3 (some .int) 2 40 0 0 [.ref (x + 229), .int p0, .int p1] (gB F (x + 229) (mdC K (x + 229) v)) hs (pI (fun z G' _ => z = b ∧ G' = gB F (x + 229) (mdC K (x + 229) v'))) jno) :
    OpI K x (fun l G hs post => CtW l K yL_setFrame cL_setFrame 5 (some .int) [(0, 10, 13, 13)] 8 124 2 12 [.ref x, .int p0, .int p1, .ref (x + 233)] G hs post) (fun l G hs post => Ct l K yX6_setFrame cX6_setFrame 3 (some .int) 2 40 0 0 [.ref (x + 229), .int p0, .int p1] G hs post jno) c v := by
  refine ⟨0, b, c', v', by omega, hR, ht, fun l hl G hs hw => ?_, fun l hl G hs hw => Ct.at hw.2.1 (hm l hl G hs)⟩
  have hw0 := hw
  obtain ⟨h1, h2, ⟨f, h3⟩, ⟨f2, h4⟩⟩ := hw
  refine CtW.mono (c_L_setFrame_ok hl K G hs x (x + 233) _ p0 p1 h1.f0 f b (fun G' => fcT K G' x c' ∧ fO x G G') (fun G' h => (h.2 _ (by omega)).trans h3) (fun l hl => hM l hl G hs h1)) ?_
  rintro z G' h ⟨z9, e, rfl, G1, ⟨q1, q2⟩, e2⟩
  obtain ⟨a1, a2⟩ := lwOk.ou (hw0.cl q1 q2) e2
  exact ⟨_, e, rfl, a1, _, a2, (fun _ => updL_0 _ _)⟩
theorem op_setFrame_q {K : jK} {x : Nat} {c : FcV} {v : MdV} (p0 p1 : Int32) (b : Int32) (v' : MdV) (hR : RelV c v') (ht : v'.2.2.2.1 = nI 0) (hM : ∀ l : Launch, l.stackTraces = false → ∀ G hs, fcT K G x c → Ct l K yX5_setFrame cX5_setFrame 3 (some .int) 7 102 2 12 [.ref x, .int p0, .int p1] G hs (pI (fun z G' _ => z = b ∧ G' = G)) jno) (hm : ∀ l : Launch, l.stackTraces = false → ∀ F hs, Ct l K yX6_setFrame cX6_setFrame 3 (some .int) 2 40 0 0 [.ref (x + 229), .int p0, .int p1] (gB F (x + 229) (mdC K (x + 229) v)) hs (pI (fun z G' _ => z = b ∧ G' = gB F (x + 229) (mdC K (x + 229) v'))) jno) :
    OpI K x (fun l G hs post => CtW l K yL_setFrame cL_setFrame 5 (some .int) [(0, 10, 13, 13)] 8 124 2 12 [.ref x, .int p0, .int p1, .ref (x + 233)] G hs post) (fun l G hs post => Ct l K yX6_setFrame cX6_setFrame 3 (some .int) 2 40 0 0 [.ref (x + 229), .int p0, .int p1] G hs post jno) c v :=
  op_setFrame_ok p0 p1 b c v' hR ht (fun l hl G hs hc => Ct.mono (hM l hl G hs hc) (fun z G' h q => by
    obtain ⟨z9, e, e1, rfl⟩ := q
    exact ⟨z9, e, e1, hc, fO.rf⟩) (fun _ _ h => h)) hm
theorem op_setFrame_x1 {K : jK} {x : Nat} {c : FcV} {v : MdV} (p0 p1 : Int32) (b : Int32) (hR : RelV c v) (hM : ∀ l : Launch, l.stackTraces = false → ∀ G hs, fcT K G x c → Ct l K yX5_setFrame cX5_setFrame 3 (some .int) 7 102 2 12 [.ref x, .int p0, .int p1] G hs (pI (fun _ _ _ => False)) (fun X G' => X = jIA ∧ G' = G)) (hm : ∀ l : Launch, l.stackTraces = false → ∀ F hs, Ct l K yX6_setFrame cX6_setFrame 3 (some .int) 2 40 0 0 [.ref (x + 229), .int p0, .int p1] (gB F (x + 229) (mdC K (x + 229) v)) hs (pI (fun z G' _ => z = b ∧ G' = gB F (x + 229) (mdC K (x + 229) (v.1, v.2.1, v.2.2.1, nI 1, v.2.2.2.2.1, v.2.2.2.2.2)))) jno) :
    OpI K x (fun l G hs post => CtW l K yL_setFrame cL_setFrame 5 (some .int) [(0, 10, 13, 13)] 8 124 2 12 [.ref x, .int p0, .int p1, .ref (x + 233)] G hs post) (fun l G hs post => Ct l K yX6_setFrame cX6_setFrame 3 (some .int) 2 40 0 0 [.ref (x + 229), .int p0, .int p1] G hs post jno) c v := by
  refine ⟨1, b, c, (v.1, v.2.1, v.2.2.1, nI 1, v.2.2.2.2.1, v.2.2.2.2.2), by omega, hR, rfl, fun l hl G hs hw => ?_, fun l hl G hs hw => Ct.at hw.2.1 (hm l hl G hs)⟩
  have hw0 := hw
  obtain ⟨h1, h2, ⟨f, h3⟩, ⟨f2, h4⟩⟩ := hw
  refine CtW.mono (c_L_setFrame_x1 hl K G hs x (x + 233) _ p0 p1 h1.f0 (fun l hl => hM l hl G hs h1)) ?_
  rintro z G' h ⟨z9, e, rfl, rfl⟩
  exact ⟨_, e, rfl, hw0, _, h3, fun q => absurd q (by omega)⟩
theorem op_addParameter_ok {K : jK} {x : Nat} {c : FcV} {v : MdV} (p0 : Int32) (b : Int32) (c' : FcV) (v' : MdV) (hR : RelV c' v') (ht : v'.2.2.2.1 = nI 0) (hM : ∀ l : Launch, l.stackTraces = false → ∀ G hs, fcT K G x c → Ct l K yX5_addParameter cX5_addParameter 5 (some .int) 7 102 2 12 [.ref x, .int p0] G hs (pI (fun z G' _ => z = b ∧ fcT K G' x c' ∧ fO x G G')) jno) (hm : ∀ l : Launch, l.stackTraces = false → ∀ F hs, Ct l K yX6_addParameter cX6_addParameter 5 (some .int) 2 40 0 0 [.ref (x + 229), .int p0] (gB F (x + 229) (mdC K (x + 229) v)) hs (pI (fun z G' _ => z = b ∧ G' = gB F (x + 229) (mdC K (x + 229) v'))) jno) :
    OpI K x (fun l G hs post => CtW l K yL_addParameter cL_addParameter 4 (some .int) [(0, 9, 12, 13), (0, 9, 15, 19)] 8 126 2 12 [.ref x, .int p0, .ref (x + 233)] G hs post) (fun l G hs post => Ct l K yX6_addParameter cX6_addParameter 5 (some .int) 2 40 0 0 [.ref (x + 229), .int p0] G hs post jno) c v := by
  refine ⟨0, b, c', v', by omega, hR, ht, fun l hl G hs hw => ?_, fun l hl G hs hw => Ct.at hw.2.1 (hm l hl G hs)⟩
  have hw0 := hw
  obtain ⟨h1, h2, ⟨f, h3⟩, ⟨f2, h4⟩⟩ := hw
  refine CtW.mono (c_L_addParameter_ok hl K G hs x (x + 233) _ p0 h1.f0 f b (fun G' => fcT K G' x c' ∧ fO x G G') (fun G' h => (h.2 _ (by omega)).trans h3) (fun l hl => hM l hl G hs h1)) ?_
  rintro z G' h ⟨z9, e, rfl, G1, ⟨q1, q2⟩, e2⟩
  obtain ⟨a1, a2⟩ := lwOk.ou (hw0.cl q1 q2) e2
  exact ⟨_, e, rfl, a1, _, a2, (fun _ => updL_0 _ _)⟩
theorem op_addParameter_q {K : jK} {x : Nat} {c : FcV} {v : MdV} (p0 : Int32) (b : Int32) (v' : MdV) (hR : RelV c v') (ht : v'.2.2.2.1 = nI 0) (hM : ∀ l : Launch, l.stackTraces = false → ∀ G hs, fcT K G x c → Ct l K yX5_addParameter cX5_addParameter 5 (some .int) 7 102 2 12 [.ref x, .int p0] G hs (pI (fun z G' _ => z = b ∧ G' = G)) jno) (hm : ∀ l : Launch, l.stackTraces = false → ∀ F hs, Ct l K yX6_addParameter cX6_addParameter 5 (some .int) 2 40 0 0 [.ref (x + 229), .int p0] (gB F (x + 229) (mdC K (x + 229) v)) hs (pI (fun z G' _ => z = b ∧ G' = gB F (x + 229) (mdC K (x + 229) v'))) jno) :
    OpI K x (fun l G hs post => CtW l K yL_addParameter cL_addParameter 4 (some .int) [(0, 9, 12, 13), (0, 9, 15, 19)] 8 126 2 12 [.ref x, .int p0, .ref (x + 233)] G hs post) (fun l G hs post => Ct l K yX6_addParameter cX6_addParameter 5 (some .int) 2 40 0 0 [.ref (x + 229), .int p0] G hs post jno) c v :=
  op_addParameter_ok p0 b c v' hR ht (fun l hl G hs hc => Ct.mono (hM l hl G hs hc) (fun z G' h q => by
    obtain ⟨z9, e, e1, rfl⟩ := q
    exact ⟨z9, e, e1, hc, fO.rf⟩) (fun _ _ h => h)) hm
theorem op_addParameter_x1 {K : jK} {x : Nat} {c : FcV} {v : MdV} (p0 : Int32) (b : Int32) (hR : RelV c v) (hM : ∀ l : Launch, l.stackTraces = false → ∀ G hs, fcT K G x c → Ct l K yX5_addParameter cX5_addParameter 5 (some .int) 7 102 2 12 [.ref x, .int p0] G hs (pI (fun _ _ _ => False)) (fun X G' => X = jIA ∧ G' = G)) (hm : ∀ l : Launch, l.stackTraces = false → ∀ F hs, Ct l K yX6_addParameter cX6_addParameter 5 (some .int) 2 40 0 0 [.ref (x + 229), .int p0] (gB F (x + 229) (mdC K (x + 229) v)) hs (pI (fun z G' _ => z = b ∧ G' = gB F (x + 229) (mdC K (x + 229) (v.1, v.2.1, v.2.2.1, nI 1, v.2.2.2.2.1, v.2.2.2.2.2)))) jno) :
    OpI K x (fun l G hs post => CtW l K yL_addParameter cL_addParameter 4 (some .int) [(0, 9, 12, 13), (0, 9, 15, 19)] 8 126 2 12 [.ref x, .int p0, .ref (x + 233)] G hs post) (fun l G hs post => Ct l K yX6_addParameter cX6_addParameter 5 (some .int) 2 40 0 0 [.ref (x + 229), .int p0] G hs post jno) c v := by
  refine ⟨1, b, c, (v.1, v.2.1, v.2.2.1, nI 1, v.2.2.2.2.1, v.2.2.2.2.2), by omega, hR, rfl, fun l hl G hs hw => ?_, fun l hl G hs hw => Ct.at hw.2.1 (hm l hl G hs)⟩
  have hw0 := hw
  obtain ⟨h1, h2, ⟨f, h3⟩, ⟨f2, h4⟩⟩ := hw
  refine CtW.mono (c_L_addParameter_x1 hl K G hs x (x + 233) _ p0 h1.f0 (fun l hl => hM l hl G hs h1)) ?_
  rintro z G' h ⟨z9, e, rfl, rfl⟩
  exact ⟨_, e, rfl, hw0, _, h3, fun q => absurd q (by omega)⟩
theorem op_addParameter_x2 {K : jK} {x : Nat} {c : FcV} {v : MdV} (p0 : Int32) (b : Int32) (hR : RelV c v) (hM : ∀ l : Launch, l.stackTraces = false → ∀ G hs, fcT K G x c → Ct l K yX5_addParameter cX5_addParameter 5 (some .int) 7 102 2 12 [.ref x, .int p0] G hs (pI (fun _ _ _ => False)) (fun X G' => X = jIS ∧ G' = G)) (hm : ∀ l : Launch, l.stackTraces = false → ∀ F hs, Ct l K yX6_addParameter cX6_addParameter 5 (some .int) 2 40 0 0 [.ref (x + 229), .int p0] (gB F (x + 229) (mdC K (x + 229) v)) hs (pI (fun z G' _ => z = b ∧ G' = gB F (x + 229) (mdC K (x + 229) (v.1, v.2.1, v.2.2.1, nI 2, v.2.2.2.2.1, v.2.2.2.2.2)))) jno) :
    OpI K x (fun l G hs post => CtW l K yL_addParameter cL_addParameter 4 (some .int) [(0, 9, 12, 13), (0, 9, 15, 19)] 8 126 2 12 [.ref x, .int p0, .ref (x + 233)] G hs post) (fun l G hs post => Ct l K yX6_addParameter cX6_addParameter 5 (some .int) 2 40 0 0 [.ref (x + 229), .int p0] G hs post jno) c v := by
  refine ⟨2, b, c, (v.1, v.2.1, v.2.2.1, nI 2, v.2.2.2.2.1, v.2.2.2.2.2), by omega, hR, rfl, fun l hl G hs hw => ?_, fun l hl G hs hw => Ct.at hw.2.1 (hm l hl G hs)⟩
  have hw0 := hw
  obtain ⟨h1, h2, ⟨f, h3⟩, ⟨f2, h4⟩⟩ := hw
  refine CtW.mono (c_L_addParameter_x2 hl K G hs x (x + 233) _ p0 h1.f0 (fun l hl => hM l hl G hs h1)) ?_
  rintro z G' h ⟨z9, e, rfl, rfl⟩
  exact ⟨_, e, rfl, hw0, _, h3, fun q => absurd q (by omega)⟩
theorem op_samplesPerMajor_ok {K : jK} {x : Nat} {c : FcV} {v : MdV} (p0 : Int32) (b : Int32) (c' : FcV) (v' : MdV) (hR : RelV c' v') (ht : v'.2.2.2.1 = nI 0) (hM : ∀ l : Launch, l.stackTraces = false → ∀ G hs, fcT K G x c → Ct l K yX5_samplesPerMajor cX5_samplesPerMajor 2 (some .int) 8 124 1 6 [.ref x, .int p0] G hs (pI (fun z G' _ => z = b ∧ fcT K G' x c' ∧ fO x G G')) jno) (hm : ∀ l : Launch, l.stackTraces = false → ∀ F hs, Ct l K yX6_samplesPerMajor cX6_samplesPerMajor 2 (some .int) 2 44 0 0 [.ref (x + 229), .int p0] (gB F (x + 229) (mdC K (x + 229) v)) hs (pI (fun z G' _ => z = b ∧ G' = gB F (x + 229) (mdC K (x + 229) v'))) jno) :
    OpI K x (fun l G hs post => CtW l K yL_samplesPerMajor cL_samplesPerMajor 4 (some .int) [(0, 9, 12, 24)] 9 145 1 6 [.ref x, .int p0, .ref (x + 233)] G hs post) (fun l G hs post => Ct l K yX6_samplesPerMajor cX6_samplesPerMajor 2 (some .int) 2 44 0 0 [.ref (x + 229), .int p0] G hs post jno) c v := by
  refine ⟨0, b, c', v', by omega, hR, ht, fun l hl G hs hw => ?_, fun l hl G hs hw => Ct.at hw.2.1 (hm l hl G hs)⟩
  have hw0 := hw
  obtain ⟨h1, h2, ⟨f, h3⟩, ⟨f2, h4⟩⟩ := hw
  refine CtW.mono (c_L_samplesPerMajor_ok hl K G hs x (x + 233) _ p0 h1.f0 f b (fun G' => fcT K G' x c' ∧ fO x G G') (fun G' h => (h.2 _ (by omega)).trans h3) (fun l hl => hM l hl G hs h1)) ?_
  rintro z G' h ⟨z9, e, rfl, G1, ⟨q1, q2⟩, e2⟩
  obtain ⟨a1, a2⟩ := lwOk.ou (hw0.cl q1 q2) e2
  exact ⟨_, e, rfl, a1, _, a2, (fun _ => updL_0 _ _)⟩
theorem op_samplesPerMajor_q {K : jK} {x : Nat} {c : FcV} {v : MdV} (p0 : Int32) (b : Int32) (v' : MdV) (hR : RelV c v') (ht : v'.2.2.2.1 = nI 0) (hM : ∀ l : Launch, l.stackTraces = false → ∀ G hs, fcT K G x c → Ct l K yX5_samplesPerMajor cX5_samplesPerMajor 2 (some .int) 8 124 1 6 [.ref x, .int p0] G hs (pI (fun z G' _ => z = b ∧ G' = G)) jno) (hm : ∀ l : Launch, l.stackTraces = false → ∀ F hs, Ct l K yX6_samplesPerMajor cX6_samplesPerMajor 2 (some .int) 2 44 0 0 [.ref (x + 229), .int p0] (gB F (x + 229) (mdC K (x + 229) v)) hs (pI (fun z G' _ => z = b ∧ G' = gB F (x + 229) (mdC K (x + 229) v'))) jno) :
    OpI K x (fun l G hs post => CtW l K yL_samplesPerMajor cL_samplesPerMajor 4 (some .int) [(0, 9, 12, 24)] 9 145 1 6 [.ref x, .int p0, .ref (x + 233)] G hs post) (fun l G hs post => Ct l K yX6_samplesPerMajor cX6_samplesPerMajor 2 (some .int) 2 44 0 0 [.ref (x + 229), .int p0] G hs post jno) c v :=
  op_samplesPerMajor_ok p0 b c v' hR ht (fun l hl G hs hc => Ct.mono (hM l hl G hs hc) (fun z G' h q => by
    obtain ⟨z9, e, e1, rfl⟩ := q
    exact ⟨z9, e, e1, hc, fO.rf⟩) (fun _ _ h => h)) hm
theorem op_samplesPerMajor_x1 {K : jK} {x : Nat} {c : FcV} {v : MdV} (p0 : Int32) (b : Int32) (hR : RelV c v) (hM : ∀ l : Launch, l.stackTraces = false → ∀ G hs, fcT K G x c → Ct l K yX5_samplesPerMajor cX5_samplesPerMajor 2 (some .int) 8 124 1 6 [.ref x, .int p0] G hs (pI (fun _ _ _ => False)) (fun X G' => X = jIX ∧ G' = G)) (hm : ∀ l : Launch, l.stackTraces = false → ∀ F hs, Ct l K yX6_samplesPerMajor cX6_samplesPerMajor 2 (some .int) 2 44 0 0 [.ref (x + 229), .int p0] (gB F (x + 229) (mdC K (x + 229) v)) hs (pI (fun z G' _ => z = b ∧ G' = gB F (x + 229) (mdC K (x + 229) (v.1, v.2.1, v.2.2.1, nI 1, v.2.2.2.2.1, v.2.2.2.2.2)))) jno) :
    OpI K x (fun l G hs post => CtW l K yL_samplesPerMajor cL_samplesPerMajor 4 (some .int) [(0, 9, 12, 24)] 9 145 1 6 [.ref x, .int p0, .ref (x + 233)] G hs post) (fun l G hs post => Ct l K yX6_samplesPerMajor cX6_samplesPerMajor 2 (some .int) 2 44 0 0 [.ref (x + 229), .int p0] G hs post jno) c v := by
  refine ⟨1, b, c, (v.1, v.2.1, v.2.2.1, nI 1, v.2.2.2.2.1, v.2.2.2.2.2), by omega, hR, rfl, fun l hl G hs hw => ?_, fun l hl G hs hw => Ct.at hw.2.1 (hm l hl G hs)⟩
  have hw0 := hw
  obtain ⟨h1, h2, ⟨f, h3⟩, ⟨f2, h4⟩⟩ := hw
  refine CtW.mono (c_L_samplesPerMajor_x1 hl K G hs x (x + 233) _ p0 h1.f0 (fun l hl => hM l hl G hs h1)) ?_
  rintro z G' h ⟨z9, e, rfl, rfl⟩
  exact ⟨_, e, rfl, hw0, _, h3, fun q => absurd q (by omega)⟩
theorem op_slot_ok {K : jK} {x : Nat} {c : FcV} {v : MdV} (p0 p1 p2 : Int32) (b : Int32) (c' : FcV) (v' : MdV) (hR : RelV c' v') (ht : v'.2.2.2.1 = nI 0) (hM : ∀ l : Launch, l.stackTraces = false → ∀ G hs, fcT K G x c → Ct l K yX5_slot cX5_slot 5 (some .int) 7 103 4 24 [.ref x, .int p0, .int p1, .int p2] G hs (pI (fun z G' _ => z = b ∧ fcT K G' x c' ∧ fO x G G')) jno) (hm : ∀ l : Launch, l.stackTraces = false → ∀ F hs, Ct l K yX6_slot cX6_slot 5 (some .int) 2 43 0 0 [.ref (x + 229), .int p0, .int p1, .int p2] (gB F (x + 229) (mdC K (x + 229) v)) hs (pI (fun z G' _ => z = b ∧ G' = gB F (x + 229) (mdC K (x + 229) v'))) jno) :
    OpI K x (fun l G hs post => CtW l K yL_slot cL_slot 6 (some .int) [(0, 12, 15, 24), (0, 12, 19, 13), (0, 12, 23, 19)] 8 127 4 24 [.ref x, .int p0, .int p1, .int p2, .ref (x + 233)] G hs post) (fun l G hs post => Ct l K yX6_slot cX6_slot 5 (some .int) 2 43 0 0 [.ref (x + 229), .int p0, .int p1, .int p2] G hs post jno) c v := by
  refine ⟨0, b, c', v', by omega, hR, ht, fun l hl G hs hw => ?_, fun l hl G hs hw => Ct.at hw.2.1 (hm l hl G hs)⟩
  have hw0 := hw
  obtain ⟨h1, h2, ⟨f, h3⟩, ⟨f2, h4⟩⟩ := hw
  refine CtW.mono (c_L_slot_ok hl K G hs x (x + 233) _ p0 p1 p2 h1.f0 f b (fun G' => fcT K G' x c' ∧ fO x G G') (fun G' h => (h.2 _ (by omega)).trans h3) (fun l hl => hM l hl G hs h1)) ?_
  rintro z G' h ⟨z9, e, rfl, G1, ⟨q1, q2⟩, e2⟩
  obtain ⟨a1, a2⟩ := lwOk.ou (hw0.cl q1 q2) e2
  exact ⟨_, e, rfl, a1, _, a2, (fun _ => updL_0 _ _)⟩
theorem op_slot_q {K : jK} {x : Nat} {c : FcV} {v : MdV} (p0 p1 p2 : Int32) (b : Int32) (v' : MdV) (hR : RelV c v') (ht : v'.2.2.2.1 = nI 0) (hM : ∀ l : Launch, l.stackTraces = false → ∀ G hs, fcT K G x c → Ct l K yX5_slot cX5_slot 5 (some .int) 7 103 4 24 [.ref x, .int p0, .int p1, .int p2] G hs (pI (fun z G' _ => z = b ∧ G' = G)) jno) (hm : ∀ l : Launch, l.stackTraces = false → ∀ F hs, Ct l K yX6_slot cX6_slot 5 (some .int) 2 43 0 0 [.ref (x + 229), .int p0, .int p1, .int p2] (gB F (x + 229) (mdC K (x + 229) v)) hs (pI (fun z G' _ => z = b ∧ G' = gB F (x + 229) (mdC K (x + 229) v'))) jno) :
    OpI K x (fun l G hs post => CtW l K yL_slot cL_slot 6 (some .int) [(0, 12, 15, 24), (0, 12, 19, 13), (0, 12, 23, 19)] 8 127 4 24 [.ref x, .int p0, .int p1, .int p2, .ref (x + 233)] G hs post) (fun l G hs post => Ct l K yX6_slot cX6_slot 5 (some .int) 2 43 0 0 [.ref (x + 229), .int p0, .int p1, .int p2] G hs post jno) c v :=
  op_slot_ok p0 p1 p2 b c v' hR ht (fun l hl G hs hc => Ct.mono (hM l hl G hs hc) (fun z G' h q => by
    obtain ⟨z9, e, e1, rfl⟩ := q
    exact ⟨z9, e, e1, hc, fO.rf⟩) (fun _ _ h => h)) hm
theorem op_slot_x1 {K : jK} {x : Nat} {c : FcV} {v : MdV} (p0 p1 p2 : Int32) (b : Int32) (hR : RelV c v) (hM : ∀ l : Launch, l.stackTraces = false → ∀ G hs, fcT K G x c → Ct l K yX5_slot cX5_slot 5 (some .int) 7 103 4 24 [.ref x, .int p0, .int p1, .int p2] G hs (pI (fun _ _ _ => False)) (fun X G' => X = jIX ∧ G' = G)) (hm : ∀ l : Launch, l.stackTraces = false → ∀ F hs, Ct l K yX6_slot cX6_slot 5 (some .int) 2 43 0 0 [.ref (x + 229), .int p0, .int p1, .int p2] (gB F (x + 229) (mdC K (x + 229) v)) hs (pI (fun z G' _ => z = b ∧ G' = gB F (x + 229) (mdC K (x + 229) (v.1, v.2.1, v.2.2.1, nI 1, v.2.2.2.2.1, v.2.2.2.2.2)))) jno) :
    OpI K x (fun l G hs post => CtW l K yL_slot cL_slot 6 (some .int) [(0, 12, 15, 24), (0, 12, 19, 13), (0, 12, 23, 19)] 8 127 4 24 [.ref x, .int p0, .int p1, .int p2, .ref (x + 233)] G hs post) (fun l G hs post => Ct l K yX6_slot cX6_slot 5 (some .int) 2 43 0 0 [.ref (x + 229), .int p0, .int p1, .int p2] G hs post jno) c v := by
  refine ⟨1, b, c, (v.1, v.2.1, v.2.2.1, nI 1, v.2.2.2.2.1, v.2.2.2.2.2), by omega, hR, rfl, fun l hl G hs hw => ?_, fun l hl G hs hw => Ct.at hw.2.1 (hm l hl G hs)⟩
  have hw0 := hw
  obtain ⟨h1, h2, ⟨f, h3⟩, ⟨f2, h4⟩⟩ := hw
  refine CtW.mono (c_L_slot_x1 hl K G hs x (x + 233) _ p0 p1 p2 h1.f0 (fun l hl => hM l hl G hs h1)) ?_
  rintro z G' h ⟨z9, e, rfl, rfl⟩
  exact ⟨_, e, rfl, hw0, _, h3, fun q => absurd q (by omega)⟩
theorem op_slot_x2 {K : jK} {x : Nat} {c : FcV} {v : MdV} (p0 p1 p2 : Int32) (b : Int32) (hR : RelV c v) (hM : ∀ l : Launch, l.stackTraces = false → ∀ G hs, fcT K G x c → Ct l K yX5_slot cX5_slot 5 (some .int) 7 103 4 24 [.ref x, .int p0, .int p1, .int p2] G hs (pI (fun _ _ _ => False)) (fun X G' => X = jIA ∧ G' = G)) (hm : ∀ l : Launch, l.stackTraces = false → ∀ F hs, Ct l K yX6_slot cX6_slot 5 (some .int) 2 43 0 0 [.ref (x + 229), .int p0, .int p1, .int p2] (gB F (x + 229) (mdC K (x + 229) v)) hs (pI (fun z G' _ => z = b ∧ G' = gB F (x + 229) (mdC K (x + 229) (v.1, v.2.1, v.2.2.1, nI 2, v.2.2.2.2.1, v.2.2.2.2.2)))) jno) :
    OpI K x (fun l G hs post => CtW l K yL_slot cL_slot 6 (some .int) [(0, 12, 15, 24), (0, 12, 19, 13), (0, 12, 23, 19)] 8 127 4 24 [.ref x, .int p0, .int p1, .int p2, .ref (x + 233)] G hs post) (fun l G hs post => Ct l K yX6_slot cX6_slot 5 (some .int) 2 43 0 0 [.ref (x + 229), .int p0, .int p1, .int p2] G hs post jno) c v := by
  refine ⟨2, b, c, (v.1, v.2.1, v.2.2.1, nI 2, v.2.2.2.2.1, v.2.2.2.2.2), by omega, hR, rfl, fun l hl G hs hw => ?_, fun l hl G hs hw => Ct.at hw.2.1 (hm l hl G hs)⟩
  have hw0 := hw
  obtain ⟨h1, h2, ⟨f, h3⟩, ⟨f2, h4⟩⟩ := hw
  refine CtW.mono (c_L_slot_x2 hl K G hs x (x + 233) _ p0 p1 p2 h1.f0 (fun l hl => hM l hl G hs h1)) ?_
  rintro z G' h ⟨z9, e, rfl, rfl⟩
  exact ⟨_, e, rfl, hw0, _, h3, fun q => absurd q (by omega)⟩
theorem op_slot_x3 {K : jK} {x : Nat} {c : FcV} {v : MdV} (p0 p1 p2 : Int32) (b : Int32) (hR : RelV c v) (hM : ∀ l : Launch, l.stackTraces = false → ∀ G hs, fcT K G x c → Ct l K yX5_slot cX5_slot 5 (some .int) 7 103 4 24 [.ref x, .int p0, .int p1, .int p2] G hs (pI (fun _ _ _ => False)) (fun X G' => X = jIS ∧ G' = G)) (hm : ∀ l : Launch, l.stackTraces = false → ∀ F hs, Ct l K yX6_slot cX6_slot 5 (some .int) 2 43 0 0 [.ref (x + 229), .int p0, .int p1, .int p2] (gB F (x + 229) (mdC K (x + 229) v)) hs (pI (fun z G' _ => z = b ∧ G' = gB F (x + 229) (mdC K (x + 229) (v.1, v.2.1, v.2.2.1, nI 3, v.2.2.2.2.1, v.2.2.2.2.2)))) jno) :
    OpI K x (fun l G hs post => CtW l K yL_slot cL_slot 6 (some .int) [(0, 12, 15, 24), (0, 12, 19, 13), (0, 12, 23, 19)] 8 127 4 24 [.ref x, .int p0, .int p1, .int p2, .ref (x + 233)] G hs post) (fun l G hs post => Ct l K yX6_slot cX6_slot 5 (some .int) 2 43 0 0 [.ref (x + 229), .int p0, .int p1, .int p2] G hs post jno) c v := by
  refine ⟨3, b, c, (v.1, v.2.1, v.2.2.1, nI 3, v.2.2.2.2.1, v.2.2.2.2.2), by omega, hR, rfl, fun l hl G hs hw => ?_, fun l hl G hs hw => Ct.at hw.2.1 (hm l hl G hs)⟩
  have hw0 := hw
  obtain ⟨h1, h2, ⟨f, h3⟩, ⟨f2, h4⟩⟩ := hw
  refine CtW.mono (c_L_slot_x3 hl K G hs x (x + 233) _ p0 p1 p2 h1.f0 (fun l hl => hM l hl G hs h1)) ?_
  rintro z G' h ⟨z9, e, rfl, rfl⟩
  exact ⟨_, e, rfl, hw0, _, h3, fun q => absurd q (by omega)⟩
theorem op_ownerOf_ok {K : jK} {x : Nat} {c : FcV} {v : MdV} (p0 p1 : Int32) (b : Int32) (c' : FcV) (v' : MdV) (hR : RelV c' v') (ht : v'.2.2.2.1 = nI 0) (hM : ∀ l : Launch, l.stackTraces = false → ∀ G hs, fcT K G x c → Ct l K yX5_ownerOf cX5_ownerOf 3 (some .int) 7 103 3 18 [.ref x, .int p0, .int p1] G hs (pI (fun z G' _ => z = b ∧ fcT K G' x c' ∧ fO x G G')) jno) (hm : ∀ l : Launch, l.stackTraces = false → ∀ F hs, Ct l K yX6_ownerOf cX6_ownerOf 3 (some .int) 1 22 0 0 [.ref (x + 229), .int p0, .int p1] (gB F (x + 229) (mdC K (x + 229) v)) hs (pI (fun z G' _ => z = b ∧ G' = gB F (x + 229) (mdC K (x + 229) v'))) jno) :
    OpI K x (fun l G hs post => CtW l K yL_ownerOf cL_ownerOf 5 (some .int) [(0, 10, 13, 24), (0, 10, 17, 19)] 8 125 3 18 [.ref x, .int p0, .int p1, .ref (x + 233)] G hs post) (fun l G hs post => Ct l K yX6_ownerOf cX6_ownerOf 3 (some .int) 1 22 0 0 [.ref (x + 229), .int p0, .int p1] G hs post jno) c v := by
  refine ⟨0, b, c', v', by omega, hR, ht, fun l hl G hs hw => ?_, fun l hl G hs hw => Ct.at hw.2.1 (hm l hl G hs)⟩
  have hw0 := hw
  obtain ⟨h1, h2, ⟨f, h3⟩, ⟨f2, h4⟩⟩ := hw
  refine CtW.mono (c_L_ownerOf_ok hl K G hs x (x + 233) _ p0 p1 h1.f0 f b (fun G' => fcT K G' x c' ∧ fO x G G') (fun G' h => (h.2 _ (by omega)).trans h3) (fun l hl => hM l hl G hs h1)) ?_
  rintro z G' h ⟨z9, e, rfl, G1, ⟨q1, q2⟩, e2⟩
  obtain ⟨a1, a2⟩ := lwOk.ou (hw0.cl q1 q2) e2
  exact ⟨_, e, rfl, a1, _, a2, (fun _ => updL_0 _ _)⟩
theorem op_ownerOf_q {K : jK} {x : Nat} {c : FcV} {v : MdV} (p0 p1 : Int32) (b : Int32) (v' : MdV) (hR : RelV c v') (ht : v'.2.2.2.1 = nI 0) (hM : ∀ l : Launch, l.stackTraces = false → ∀ G hs, fcT K G x c → Ct l K yX5_ownerOf cX5_ownerOf 3 (some .int) 7 103 3 18 [.ref x, .int p0, .int p1] G hs (pI (fun z G' _ => z = b ∧ G' = G)) jno) (hm : ∀ l : Launch, l.stackTraces = false → ∀ F hs, Ct l K yX6_ownerOf cX6_ownerOf 3 (some .int) 1 22 0 0 [.ref (x + 229), .int p0, .int p1] (gB F (x + 229) (mdC K (x + 229) v)) hs (pI (fun z G' _ => z = b ∧ G' = gB F (x + 229) (mdC K (x + 229) v'))) jno) :
    OpI K x (fun l G hs post => CtW l K yL_ownerOf cL_ownerOf 5 (some .int) [(0, 10, 13, 24), (0, 10, 17, 19)] 8 125 3 18 [.ref x, .int p0, .int p1, .ref (x + 233)] G hs post) (fun l G hs post => Ct l K yX6_ownerOf cX6_ownerOf 3 (some .int) 1 22 0 0 [.ref (x + 229), .int p0, .int p1] G hs post jno) c v :=
  op_ownerOf_ok p0 p1 b c v' hR ht (fun l hl G hs hc => Ct.mono (hM l hl G hs hc) (fun z G' h q => by
    obtain ⟨z9, e, e1, rfl⟩ := q
    exact ⟨z9, e, e1, hc, fO.rf⟩) (fun _ _ h => h)) hm
theorem op_ownerOf_x1 {K : jK} {x : Nat} {c : FcV} {v : MdV} (p0 p1 : Int32) (b : Int32) (hR : RelV c v) (hM : ∀ l : Launch, l.stackTraces = false → ∀ G hs, fcT K G x c → Ct l K yX5_ownerOf cX5_ownerOf 3 (some .int) 7 103 3 18 [.ref x, .int p0, .int p1] G hs (pI (fun _ _ _ => False)) (fun X G' => X = jIX ∧ G' = G)) (hm : ∀ l : Launch, l.stackTraces = false → ∀ F hs, Ct l K yX6_ownerOf cX6_ownerOf 3 (some .int) 1 22 0 0 [.ref (x + 229), .int p0, .int p1] (gB F (x + 229) (mdC K (x + 229) v)) hs (pI (fun z G' _ => z = b ∧ G' = gB F (x + 229) (mdC K (x + 229) (v.1, v.2.1, v.2.2.1, nI 1, v.2.2.2.2.1, v.2.2.2.2.2)))) jno) :
    OpI K x (fun l G hs post => CtW l K yL_ownerOf cL_ownerOf 5 (some .int) [(0, 10, 13, 24), (0, 10, 17, 19)] 8 125 3 18 [.ref x, .int p0, .int p1, .ref (x + 233)] G hs post) (fun l G hs post => Ct l K yX6_ownerOf cX6_ownerOf 3 (some .int) 1 22 0 0 [.ref (x + 229), .int p0, .int p1] G hs post jno) c v := by
  refine ⟨1, b, c, (v.1, v.2.1, v.2.2.1, nI 1, v.2.2.2.2.1, v.2.2.2.2.2), by omega, hR, rfl, fun l hl G hs hw => ?_, fun l hl G hs hw => Ct.at hw.2.1 (hm l hl G hs)⟩
  have hw0 := hw
  obtain ⟨h1, h2, ⟨f, h3⟩, ⟨f2, h4⟩⟩ := hw
  refine CtW.mono (c_L_ownerOf_x1 hl K G hs x (x + 233) _ p0 p1 h1.f0 (fun l hl => hM l hl G hs h1)) ?_
  rintro z G' h ⟨z9, e, rfl, rfl⟩
  exact ⟨_, e, rfl, hw0, _, h3, fun q => absurd q (by omega)⟩
theorem op_ownerOf_x2 {K : jK} {x : Nat} {c : FcV} {v : MdV} (p0 p1 : Int32) (b : Int32) (hR : RelV c v) (hM : ∀ l : Launch, l.stackTraces = false → ∀ G hs, fcT K G x c → Ct l K yX5_ownerOf cX5_ownerOf 3 (some .int) 7 103 3 18 [.ref x, .int p0, .int p1] G hs (pI (fun _ _ _ => False)) (fun X G' => X = jIS ∧ G' = G)) (hm : ∀ l : Launch, l.stackTraces = false → ∀ F hs, Ct l K yX6_ownerOf cX6_ownerOf 3 (some .int) 1 22 0 0 [.ref (x + 229), .int p0, .int p1] (gB F (x + 229) (mdC K (x + 229) v)) hs (pI (fun z G' _ => z = b ∧ G' = gB F (x + 229) (mdC K (x + 229) (v.1, v.2.1, v.2.2.1, nI 2, v.2.2.2.2.1, v.2.2.2.2.2)))) jno) :
    OpI K x (fun l G hs post => CtW l K yL_ownerOf cL_ownerOf 5 (some .int) [(0, 10, 13, 24), (0, 10, 17, 19)] 8 125 3 18 [.ref x, .int p0, .int p1, .ref (x + 233)] G hs post) (fun l G hs post => Ct l K yX6_ownerOf cX6_ownerOf 3 (some .int) 1 22 0 0 [.ref (x + 229), .int p0, .int p1] G hs post jno) c v := by
  refine ⟨2, b, c, (v.1, v.2.1, v.2.2.1, nI 2, v.2.2.2.2.1, v.2.2.2.2.2), by omega, hR, rfl, fun l hl G hs hw => ?_, fun l hl G hs hw => Ct.at hw.2.1 (hm l hl G hs)⟩
  have hw0 := hw
  obtain ⟨h1, h2, ⟨f, h3⟩, ⟨f2, h4⟩⟩ := hw
  refine CtW.mono (c_L_ownerOf_x2 hl K G hs x (x + 233) _ p0 p1 h1.f0 (fun l hl => hM l hl G hs h1)) ?_
  rintro z G' h ⟨z9, e, rfl, rfl⟩
  exact ⟨_, e, rfl, hw0, _, h3, fun q => absurd q (by omega)⟩
theorem op_efficiency_ok {K : jK} {x : Nat} {c : FcV} {v : MdV} (b : UInt64) (hne : vf_n64 b) (c' : FcV) (v' : MdV) (hR : RelV c' v') (ht : v'.2.2.2.1 = nI 0) (hM : ∀ l : Launch, l.stackTraces = false → ∀ G hs, fcT K G x c → Ct l K yX5_efficiency cX5_efficiency 1 (some .double) 7 102 1 6 [.ref x] G hs (pD (fun z G' _ => z = b ∧ fcT K G' x c' ∧ fO x G G')) jno) (hm : ∀ l : Launch, l.stackTraces = false → ∀ F hs, Ct l K yX6_efficiency cX6_efficiency 1 (some .double) 1 22 0 0 [.ref (x + 229)] (gB F (x + 229) (mdC K (x + 229) v)) hs (pD (fun z G' _ => z = b ∧ G' = gB F (x + 229) (mdC K (x + 229) v'))) jno) :
    OpD K x (fun l G hs post => CtW l K yL_efficiency cL_efficiency 3 (some .int) [(0, 7, 10, 19)] 8 122 1 6 [.ref x, .ref (x + 234)] G hs post) (fun l G hs post => Ct l K yX6_efficiency cX6_efficiency 1 (some .double) 1 22 0 0 [.ref (x + 229)] G hs post jno) c v := by
  refine ⟨0, b, c', v', by omega, hR, ht, fun l hl G hs hw => ?_, fun l hl G hs hw => Ct.at hw.2.1 (hm l hl G hs)⟩
  have hw0 := hw
  obtain ⟨h1, h2, ⟨f, h3⟩, ⟨f2, h4⟩⟩ := hw
  refine CtW.mono (c_L_efficiency_ok hl K G hs x (x + 234) _ h1.f0 f2 b (fun G' => fcT K G' x c' ∧ fO x G G') (fun G' h => (h.2 _ (by omega)).trans h4) (fun l hl => hM l hl G hs h1)) ?_
  rintro z G' h ⟨z9, e, rfl, G1, ⟨q1, q2⟩, e2⟩
  obtain ⟨a1, a2⟩ := lwOk.od (hw0.cl q1 q2) e2
  exact ⟨_, e, rfl, a1, _, a2, (fun _ => ⟨updD_0 _ _, hne⟩)⟩
theorem op_efficiency_q {K : jK} {x : Nat} {c : FcV} {v : MdV} (b : UInt64) (hne : vf_n64 b) (v' : MdV) (hR : RelV c v') (ht : v'.2.2.2.1 = nI 0) (hM : ∀ l : Launch, l.stackTraces = false → ∀ G hs, fcT K G x c → Ct l K yX5_efficiency cX5_efficiency 1 (some .double) 7 102 1 6 [.ref x] G hs (pD (fun z G' _ => z = b ∧ G' = G)) jno) (hm : ∀ l : Launch, l.stackTraces = false → ∀ F hs, Ct l K yX6_efficiency cX6_efficiency 1 (some .double) 1 22 0 0 [.ref (x + 229)] (gB F (x + 229) (mdC K (x + 229) v)) hs (pD (fun z G' _ => z = b ∧ G' = gB F (x + 229) (mdC K (x + 229) v'))) jno) :
    OpD K x (fun l G hs post => CtW l K yL_efficiency cL_efficiency 3 (some .int) [(0, 7, 10, 19)] 8 122 1 6 [.ref x, .ref (x + 234)] G hs post) (fun l G hs post => Ct l K yX6_efficiency cX6_efficiency 1 (some .double) 1 22 0 0 [.ref (x + 229)] G hs post jno) c v :=
  op_efficiency_ok b hne c v' hR ht (fun l hl G hs hc => Ct.mono (hM l hl G hs hc) (fun z G' h q => by
    obtain ⟨z9, e, e1, rfl⟩ := q
    exact ⟨z9, e, e1, hc, fO.rf⟩) (fun _ _ h => h)) hm
theorem op_efficiency_x1 {K : jK} {x : Nat} {c : FcV} {v : MdV} (b : UInt64) (hR : RelV c v) (hM : ∀ l : Launch, l.stackTraces = false → ∀ G hs, fcT K G x c → Ct l K yX5_efficiency cX5_efficiency 1 (some .double) 7 102 1 6 [.ref x] G hs (pD (fun _ _ _ => False)) (fun X G' => X = jIS ∧ G' = G)) (hm : ∀ l : Launch, l.stackTraces = false → ∀ F hs, Ct l K yX6_efficiency cX6_efficiency 1 (some .double) 1 22 0 0 [.ref (x + 229)] (gB F (x + 229) (mdC K (x + 229) v)) hs (pD (fun z G' _ => z = b ∧ G' = gB F (x + 229) (mdC K (x + 229) (v.1, v.2.1, v.2.2.1, nI 1, v.2.2.2.2.1, v.2.2.2.2.2)))) jno) :
    OpD K x (fun l G hs post => CtW l K yL_efficiency cL_efficiency 3 (some .int) [(0, 7, 10, 19)] 8 122 1 6 [.ref x, .ref (x + 234)] G hs post) (fun l G hs post => Ct l K yX6_efficiency cX6_efficiency 1 (some .double) 1 22 0 0 [.ref (x + 229)] G hs post jno) c v := by
  refine ⟨1, b, c, (v.1, v.2.1, v.2.2.1, nI 1, v.2.2.2.2.1, v.2.2.2.2.2), by omega, hR, rfl, fun l hl G hs hw => ?_, fun l hl G hs hw => Ct.at hw.2.1 (hm l hl G hs)⟩
  have hw0 := hw
  obtain ⟨h1, h2, ⟨f, h3⟩, ⟨f2, h4⟩⟩ := hw
  refine CtW.mono (c_L_efficiency_x1 hl K G hs x (x + 234) _ h1.f0 (fun l hl => hM l hl G hs h1)) ?_
  rintro z G' h ⟨z9, e, rfl, rfl⟩
  exact ⟨_, e, rfl, hw0, _, h4, fun q => absurd q (by omega)⟩
theorem op_setValue_ok {K : jK} {x : Nat} {c : FcV} {v : MdV} (p0 p1 : Int32) (b : Int32) (c' : FcV) (v' : MdV) (hR : RelV c' v') (ht : v'.2.2.2.1 = nI 0) (hM : ∀ l : Launch, l.stackTraces = false → ∀ G hs, fcT K G x c → Ct l K yX5_setValue cX5_setValue 5 (some .int) 8 124 2 12 [.ref x, .int p0, .int p1] G hs (pI (fun z G' _ => z = b ∧ fcT K G' x c' ∧ fO x G G')) jno) (hm : ∀ l : Launch, l.stackTraces = false → ∀ F hs, Ct l K yX6_setValue cX6_setValue 4 (some .int) 2 43 0 0 [.ref (x + 229), .int p0, .int p1] (gB F (x + 229) (mdC K (x + 229) v)) hs (pI (fun z G' _ => z = b ∧ G' = gB F (x + 229) (mdC K (x + 229) v'))) jno) :
    OpI K x (fun l G hs post => CtW l K yL_setValue cL_setValue 5 (some .int) [(0, 10, 13, 24), (0, 10, 17, 13)] 9 148 2 12 [.ref x, .int p0, .int p1, .ref (x + 233)] G hs post) (fun l G hs post => Ct l K yX6_setValue cX6_setValue 4 (some .int) 2 43 0 0 [.ref (x + 229), .int p0, .int p1] G hs post jno) c v := by
  refine ⟨0, b, c', v', by omega, hR, ht, fun l hl G hs hw => ?_, fun l hl G hs hw => Ct.at hw.2.1 (hm l hl G hs)⟩
  have hw0 := hw
  obtain ⟨h1, h2, ⟨f, h3⟩, ⟨f2, h4⟩⟩ := hw
  refine CtW.mono (c_L_setValue_ok hl K G hs x (x + 233) _ p0 p1 h1.f0 f b (fun G' => fcT K G' x c' ∧ fO x G G') (fun G' h => (h.2 _ (by omega)).trans h3) (fun l hl => hM l hl G hs h1)) ?_
  rintro z G' h ⟨z9, e, rfl, G1, ⟨q1, q2⟩, e2⟩
  obtain ⟨a1, a2⟩ := lwOk.ou (hw0.cl q1 q2) e2
  exact ⟨_, e, rfl, a1, _, a2, (fun _ => updL_0 _ _)⟩
theorem op_setValue_q {K : jK} {x : Nat} {c : FcV} {v : MdV} (p0 p1 : Int32) (b : Int32) (v' : MdV) (hR : RelV c v') (ht : v'.2.2.2.1 = nI 0) (hM : ∀ l : Launch, l.stackTraces = false → ∀ G hs, fcT K G x c → Ct l K yX5_setValue cX5_setValue 5 (some .int) 8 124 2 12 [.ref x, .int p0, .int p1] G hs (pI (fun z G' _ => z = b ∧ G' = G)) jno) (hm : ∀ l : Launch, l.stackTraces = false → ∀ F hs, Ct l K yX6_setValue cX6_setValue 4 (some .int) 2 43 0 0 [.ref (x + 229), .int p0, .int p1] (gB F (x + 229) (mdC K (x + 229) v)) hs (pI (fun z G' _ => z = b ∧ G' = gB F (x + 229) (mdC K (x + 229) v'))) jno) :
    OpI K x (fun l G hs post => CtW l K yL_setValue cL_setValue 5 (some .int) [(0, 10, 13, 24), (0, 10, 17, 13)] 9 148 2 12 [.ref x, .int p0, .int p1, .ref (x + 233)] G hs post) (fun l G hs post => Ct l K yX6_setValue cX6_setValue 4 (some .int) 2 43 0 0 [.ref (x + 229), .int p0, .int p1] G hs post jno) c v :=
  op_setValue_ok p0 p1 b c v' hR ht (fun l hl G hs hc => Ct.mono (hM l hl G hs hc) (fun z G' h q => by
    obtain ⟨z9, e, e1, rfl⟩ := q
    exact ⟨z9, e, e1, hc, fO.rf⟩) (fun _ _ h => h)) hm
theorem op_setValue_x1 {K : jK} {x : Nat} {c : FcV} {v : MdV} (p0 p1 : Int32) (b : Int32) (hR : RelV c v) (hM : ∀ l : Launch, l.stackTraces = false → ∀ G hs, fcT K G x c → Ct l K yX5_setValue cX5_setValue 5 (some .int) 8 124 2 12 [.ref x, .int p0, .int p1] G hs (pI (fun _ _ _ => False)) (fun X G' => X = jIX ∧ G' = G)) (hm : ∀ l : Launch, l.stackTraces = false → ∀ F hs, Ct l K yX6_setValue cX6_setValue 4 (some .int) 2 43 0 0 [.ref (x + 229), .int p0, .int p1] (gB F (x + 229) (mdC K (x + 229) v)) hs (pI (fun z G' _ => z = b ∧ G' = gB F (x + 229) (mdC K (x + 229) (v.1, v.2.1, v.2.2.1, nI 1, v.2.2.2.2.1, v.2.2.2.2.2)))) jno) :
    OpI K x (fun l G hs post => CtW l K yL_setValue cL_setValue 5 (some .int) [(0, 10, 13, 24), (0, 10, 17, 13)] 9 148 2 12 [.ref x, .int p0, .int p1, .ref (x + 233)] G hs post) (fun l G hs post => Ct l K yX6_setValue cX6_setValue 4 (some .int) 2 43 0 0 [.ref (x + 229), .int p0, .int p1] G hs post jno) c v := by
  refine ⟨1, b, c, (v.1, v.2.1, v.2.2.1, nI 1, v.2.2.2.2.1, v.2.2.2.2.2), by omega, hR, rfl, fun l hl G hs hw => ?_, fun l hl G hs hw => Ct.at hw.2.1 (hm l hl G hs)⟩
  have hw0 := hw
  obtain ⟨h1, h2, ⟨f, h3⟩, ⟨f2, h4⟩⟩ := hw
  refine CtW.mono (c_L_setValue_x1 hl K G hs x (x + 233) _ p0 p1 h1.f0 (fun l hl => hM l hl G hs h1)) ?_
  rintro z G' h ⟨z9, e, rfl, rfl⟩
  exact ⟨_, e, rfl, hw0, _, h3, fun q => absurd q (by omega)⟩
theorem op_setValue_x2 {K : jK} {x : Nat} {c : FcV} {v : MdV} (p0 p1 : Int32) (b : Int32) (hR : RelV c v) (hM : ∀ l : Launch, l.stackTraces = false → ∀ G hs, fcT K G x c → Ct l K yX5_setValue cX5_setValue 5 (some .int) 8 124 2 12 [.ref x, .int p0, .int p1] G hs (pI (fun _ _ _ => False)) (fun X G' => X = jIA ∧ G' = G)) (hm : ∀ l : Launch, l.stackTraces = false → ∀ F hs, Ct l K yX6_setValue cX6_setValue 4 (some .int) 2 43 0 0 [.ref (x + 229), .int p0, .int p1] (gB F (x + 229) (mdC K (x + 229) v)) hs (pI (fun z G' _ => z = b ∧ G' = gB F (x + 229) (mdC K (x + 229) (v.1, v.2.1, v.2.2.1, nI 2, v.2.2.2.2.1, v.2.2.2.2.2)))) jno) :
    OpI K x (fun l G hs post => CtW l K yL_setValue cL_setValue 5 (some .int) [(0, 10, 13, 24), (0, 10, 17, 13)] 9 148 2 12 [.ref x, .int p0, .int p1, .ref (x + 233)] G hs post) (fun l G hs post => Ct l K yX6_setValue cX6_setValue 4 (some .int) 2 43 0 0 [.ref (x + 229), .int p0, .int p1] G hs post jno) c v := by
  refine ⟨2, b, c, (v.1, v.2.1, v.2.2.1, nI 2, v.2.2.2.2.1, v.2.2.2.2.2), by omega, hR, rfl, fun l hl G hs hw => ?_, fun l hl G hs hw => Ct.at hw.2.1 (hm l hl G hs)⟩
  have hw0 := hw
  obtain ⟨h1, h2, ⟨f, h3⟩, ⟨f2, h4⟩⟩ := hw
  refine CtW.mono (c_L_setValue_x2 hl K G hs x (x + 233) _ p0 p1 h1.f0 (fun l hl => hM l hl G hs h1)) ?_
  rintro z G' h ⟨z9, e, rfl, rfl⟩
  exact ⟨_, e, rfl, hw0, _, h3, fun q => absurd q (by omega)⟩
theorem op_send_ok {K : jK} {x : Nat} {c : FcV} {v : MdV} (p0 : Int32) (b : Int32) (c' : FcV) (v' : MdV) (hR : RelV c' v') (ht : v'.2.2.2.1 = nI 0) (hM : ∀ l : Launch, l.stackTraces = false → ∀ G hs, fcT K G x c → Ct l K yX5_send cX5_send 3 (some .int) 7 102 3 18 [.ref x, .int p0] G hs (pI (fun z G' _ => z = b ∧ fcT K G' x c' ∧ fO x G G')) jno) (hm : ∀ l : Launch, l.stackTraces = false → ∀ F hs, Ct l K yX6_send cX6_send 3 (some .int) 3 68 0 0 [.ref (x + 229), .int p0] (gB F (x + 229) (mdC K (x + 229) v)) hs (pI (fun z G' _ => z = b ∧ G' = gB F (x + 229) (mdC K (x + 229) v'))) jno) :
    OpI K x (fun l G hs post => CtW l K yL_send cL_send 4 (some .int) [(0, 9, 12, 13), (0, 9, 15, 19)] 8 124 3 18 [.ref x, .int p0, .ref (x + 233)] G hs post) (fun l G hs post => Ct l K yX6_send cX6_send 3 (some .int) 3 68 0 0 [.ref (x + 229), .int p0] G hs post jno) c v := by
  refine ⟨0, b, c', v', by omega, hR, ht, fun l hl G hs hw => ?_, fun l hl G hs hw => Ct.at hw.2.1 (hm l hl G hs)⟩
  have hw0 := hw
  obtain ⟨h1, h2, ⟨f, h3⟩, ⟨f2, h4⟩⟩ := hw
  refine CtW.mono (c_L_send_ok hl K G hs x (x + 233) _ p0 h1.f0 f b (fun G' => fcT K G' x c' ∧ fO x G G') (fun G' h => (h.2 _ (by omega)).trans h3) (fun l hl => hM l hl G hs h1)) ?_
  rintro z G' h ⟨z9, e, rfl, G1, ⟨q1, q2⟩, e2⟩
  obtain ⟨a1, a2⟩ := lwOk.ou (hw0.cl q1 q2) e2
  exact ⟨_, e, rfl, a1, _, a2, (fun _ => updL_0 _ _)⟩
theorem op_send_q {K : jK} {x : Nat} {c : FcV} {v : MdV} (p0 : Int32) (b : Int32) (v' : MdV) (hR : RelV c v') (ht : v'.2.2.2.1 = nI 0) (hM : ∀ l : Launch, l.stackTraces = false → ∀ G hs, fcT K G x c → Ct l K yX5_send cX5_send 3 (some .int) 7 102 3 18 [.ref x, .int p0] G hs (pI (fun z G' _ => z = b ∧ G' = G)) jno) (hm : ∀ l : Launch, l.stackTraces = false → ∀ F hs, Ct l K yX6_send cX6_send 3 (some .int) 3 68 0 0 [.ref (x + 229), .int p0] (gB F (x + 229) (mdC K (x + 229) v)) hs (pI (fun z G' _ => z = b ∧ G' = gB F (x + 229) (mdC K (x + 229) v'))) jno) :
    OpI K x (fun l G hs post => CtW l K yL_send cL_send 4 (some .int) [(0, 9, 12, 13), (0, 9, 15, 19)] 8 124 3 18 [.ref x, .int p0, .ref (x + 233)] G hs post) (fun l G hs post => Ct l K yX6_send cX6_send 3 (some .int) 3 68 0 0 [.ref (x + 229), .int p0] G hs post jno) c v :=
  op_send_ok p0 b c v' hR ht (fun l hl G hs hc => Ct.mono (hM l hl G hs hc) (fun z G' h q => by
    obtain ⟨z9, e, e1, rfl⟩ := q
    exact ⟨z9, e, e1, hc, fO.rf⟩) (fun _ _ h => h)) hm
theorem op_send_x1 {K : jK} {x : Nat} {c : FcV} {v : MdV} (p0 : Int32) (b : Int32) (hR : RelV c v) (hM : ∀ l : Launch, l.stackTraces = false → ∀ G hs, fcT K G x c → Ct l K yX5_send cX5_send 3 (some .int) 7 102 3 18 [.ref x, .int p0] G hs (pI (fun _ _ _ => False)) (fun X G' => X = jIA ∧ G' = G)) (hm : ∀ l : Launch, l.stackTraces = false → ∀ F hs, Ct l K yX6_send cX6_send 3 (some .int) 3 68 0 0 [.ref (x + 229), .int p0] (gB F (x + 229) (mdC K (x + 229) v)) hs (pI (fun z G' _ => z = b ∧ G' = gB F (x + 229) (mdC K (x + 229) (v.1, v.2.1, v.2.2.1, nI 1, v.2.2.2.2.1, v.2.2.2.2.2)))) jno) :
    OpI K x (fun l G hs post => CtW l K yL_send cL_send 4 (some .int) [(0, 9, 12, 13), (0, 9, 15, 19)] 8 124 3 18 [.ref x, .int p0, .ref (x + 233)] G hs post) (fun l G hs post => Ct l K yX6_send cX6_send 3 (some .int) 3 68 0 0 [.ref (x + 229), .int p0] G hs post jno) c v := by
  refine ⟨1, b, c, (v.1, v.2.1, v.2.2.1, nI 1, v.2.2.2.2.1, v.2.2.2.2.2), by omega, hR, rfl, fun l hl G hs hw => ?_, fun l hl G hs hw => Ct.at hw.2.1 (hm l hl G hs)⟩
  have hw0 := hw
  obtain ⟨h1, h2, ⟨f, h3⟩, ⟨f2, h4⟩⟩ := hw
  refine CtW.mono (c_L_send_x1 hl K G hs x (x + 233) _ p0 h1.f0 (fun l hl => hM l hl G hs h1)) ?_
  rintro z G' h ⟨z9, e, rfl, rfl⟩
  exact ⟨_, e, rfl, hw0, _, h3, fun q => absurd q (by omega)⟩
theorem op_send_x2 {K : jK} {x : Nat} {c : FcV} {v : MdV} (p0 : Int32) (b : Int32) (hR : RelV c v) (hM : ∀ l : Launch, l.stackTraces = false → ∀ G hs, fcT K G x c → Ct l K yX5_send cX5_send 3 (some .int) 7 102 3 18 [.ref x, .int p0] G hs (pI (fun _ _ _ => False)) (fun X G' => X = jIS ∧ G' = G)) (hm : ∀ l : Launch, l.stackTraces = false → ∀ F hs, Ct l K yX6_send cX6_send 3 (some .int) 3 68 0 0 [.ref (x + 229), .int p0] (gB F (x + 229) (mdC K (x + 229) v)) hs (pI (fun z G' _ => z = b ∧ G' = gB F (x + 229) (mdC K (x + 229) (v.1, v.2.1, v.2.2.1, nI 2, v.2.2.2.2.1, v.2.2.2.2.2)))) jno) :
    OpI K x (fun l G hs post => CtW l K yL_send cL_send 4 (some .int) [(0, 9, 12, 13), (0, 9, 15, 19)] 8 124 3 18 [.ref x, .int p0, .ref (x + 233)] G hs post) (fun l G hs post => Ct l K yX6_send cX6_send 3 (some .int) 3 68 0 0 [.ref (x + 229), .int p0] G hs post jno) c v := by
  refine ⟨2, b, c, (v.1, v.2.1, v.2.2.1, nI 2, v.2.2.2.2.1, v.2.2.2.2.2), by omega, hR, rfl, fun l hl G hs hw => ?_, fun l hl G hs hw => Ct.at hw.2.1 (hm l hl G hs)⟩
  have hw0 := hw
  obtain ⟨h1, h2, ⟨f, h3⟩, ⟨f2, h4⟩⟩ := hw
  refine CtW.mono (c_L_send_x2 hl K G hs x (x + 233) _ p0 h1.f0 (fun l hl => hM l hl G hs h1)) ?_
  rintro z G' h ⟨z9, e, rfl, rfl⟩
  exact ⟨_, e, rfl, hw0, _, h3, fun q => absurd q (by omega)⟩
theorem op_bit_ok {K : jK} {x : Nat} {c : FcV} {v : MdV} (p0 : Int32) (b : Int32) (c' : FcV) (v' : MdV) (hR : RelV c' v') (ht : v'.2.2.2.1 = nI 0) (hM : ∀ l : Launch, l.stackTraces = false → ∀ G hs, fcT K G x c → Ct l K yX5_bit cX5_bit 2 (some .int) 7 103 1 6 [.ref x, .int p0] G hs (pI (fun z G' _ => z = b ∧ fcT K G' x c' ∧ fO x G G')) jno) (hm : ∀ l : Launch, l.stackTraces = false → ∀ F hs, Ct l K yX6_bit cX6_bit 2 (some .int) 2 43 0 0 [.ref (x + 229), .int p0] (gB F (x + 229) (mdC K (x + 229) v)) hs (pI (fun z G' _ => z = b ∧ G' = gB F (x + 229) (mdC K (x + 229) v'))) jno) :
    OpI K x (fun l G hs post => CtW l K yL_bit cL_bit 4 (some .int) [(0, 9, 12, 24)] 8 124 1 6 [.ref x, .int p0, .ref (x + 233)] G hs post) (fun l G hs post => Ct l K yX6_bit cX6_bit 2 (some .int) 2 43 0 0 [.ref (x + 229), .int p0] G hs post jno) c v := by
  refine ⟨0, b, c', v', by omega, hR, ht, fun l hl G hs hw => ?_, fun l hl G hs hw => Ct.at hw.2.1 (hm l hl G hs)⟩
  have hw0 := hw
  obtain ⟨h1, h2, ⟨f, h3⟩, ⟨f2, h4⟩⟩ := hw
  refine CtW.mono (c_L_bit_ok hl K G hs x (x + 233) _ p0 h1.f0 f b (fun G' => fcT K G' x c' ∧ fO x G G') (fun G' h => (h.2 _ (by omega)).trans h3) (fun l hl => hM l hl G hs h1)) ?_
  rintro z G' h ⟨z9, e, rfl, G1, ⟨q1, q2⟩, e2⟩
  obtain ⟨a1, a2⟩ := lwOk.ou (hw0.cl q1 q2) e2
  exact ⟨_, e, rfl, a1, _, a2, (fun _ => updL_0 _ _)⟩
theorem op_bit_q {K : jK} {x : Nat} {c : FcV} {v : MdV} (p0 : Int32) (b : Int32) (v' : MdV) (hR : RelV c v') (ht : v'.2.2.2.1 = nI 0) (hM : ∀ l : Launch, l.stackTraces = false → ∀ G hs, fcT K G x c → Ct l K yX5_bit cX5_bit 2 (some .int) 7 103 1 6 [.ref x, .int p0] G hs (pI (fun z G' _ => z = b ∧ G' = G)) jno) (hm : ∀ l : Launch, l.stackTraces = false → ∀ F hs, Ct l K yX6_bit cX6_bit 2 (some .int) 2 43 0 0 [.ref (x + 229), .int p0] (gB F (x + 229) (mdC K (x + 229) v)) hs (pI (fun z G' _ => z = b ∧ G' = gB F (x + 229) (mdC K (x + 229) v'))) jno) :
    OpI K x (fun l G hs post => CtW l K yL_bit cL_bit 4 (some .int) [(0, 9, 12, 24)] 8 124 1 6 [.ref x, .int p0, .ref (x + 233)] G hs post) (fun l G hs post => Ct l K yX6_bit cX6_bit 2 (some .int) 2 43 0 0 [.ref (x + 229), .int p0] G hs post jno) c v :=
  op_bit_ok p0 b c v' hR ht (fun l hl G hs hc => Ct.mono (hM l hl G hs hc) (fun z G' h q => by
    obtain ⟨z9, e, e1, rfl⟩ := q
    exact ⟨z9, e, e1, hc, fO.rf⟩) (fun _ _ h => h)) hm
theorem op_bit_x1 {K : jK} {x : Nat} {c : FcV} {v : MdV} (p0 : Int32) (b : Int32) (hR : RelV c v) (hM : ∀ l : Launch, l.stackTraces = false → ∀ G hs, fcT K G x c → Ct l K yX5_bit cX5_bit 2 (some .int) 7 103 1 6 [.ref x, .int p0] G hs (pI (fun _ _ _ => False)) (fun X G' => X = jIX ∧ G' = G)) (hm : ∀ l : Launch, l.stackTraces = false → ∀ F hs, Ct l K yX6_bit cX6_bit 2 (some .int) 2 43 0 0 [.ref (x + 229), .int p0] (gB F (x + 229) (mdC K (x + 229) v)) hs (pI (fun z G' _ => z = b ∧ G' = gB F (x + 229) (mdC K (x + 229) (v.1, v.2.1, v.2.2.1, nI 1, v.2.2.2.2.1, v.2.2.2.2.2)))) jno) :
    OpI K x (fun l G hs post => CtW l K yL_bit cL_bit 4 (some .int) [(0, 9, 12, 24)] 8 124 1 6 [.ref x, .int p0, .ref (x + 233)] G hs post) (fun l G hs post => Ct l K yX6_bit cX6_bit 2 (some .int) 2 43 0 0 [.ref (x + 229), .int p0] G hs post jno) c v := by
  refine ⟨1, b, c, (v.1, v.2.1, v.2.2.1, nI 1, v.2.2.2.2.1, v.2.2.2.2.2), by omega, hR, rfl, fun l hl G hs hw => ?_, fun l hl G hs hw => Ct.at hw.2.1 (hm l hl G hs)⟩
  have hw0 := hw
  obtain ⟨h1, h2, ⟨f, h3⟩, ⟨f2, h4⟩⟩ := hw
  refine CtW.mono (c_L_bit_x1 hl K G hs x (x + 233) _ p0 h1.f0 (fun l hl => hM l hl G hs h1)) ?_
  rintro z G' h ⟨z9, e, rfl, rfl⟩
  exact ⟨_, e, rfl, hw0, _, h3, fun q => absurd q (by omega)⟩
theorem op_disturb_ok {K : jK} {x : Nat} {c : FcV} {v : MdV} (p0 p1 : Int32) (b : Int32) (c' : FcV) (v' : MdV) (hR : RelV c' v') (ht : v'.2.2.2.1 = nI 0) (hM : ∀ l : Launch, l.stackTraces = false → ∀ G hs, fcT K G x c → Ct l K yX5_disturb cX5_disturb 4 (some .int) 7 103 3 18 [.ref x, .int p0, .int p1] G hs (pI (fun z G' _ => z = b ∧ fcT K G' x c' ∧ fO x G G')) jno) (hm : ∀ l : Launch, l.stackTraces = false → ∀ F hs, Ct l K yX6_disturb cX6_disturb 3 (some .int) 2 43 0 0 [.ref (x + 229), .int p0, .int p1] (gB F (x + 229) (mdC K (x + 229) v)) hs (pI (fun z G' _ => z = b ∧ G' = gB F (x + 229) (mdC K (x + 229) v'))) jno) :
    OpI K x (fun l G hs post => CtW l K yL_disturb cL_disturb 5 (some .int) [(0, 10, 13, 13), (0, 10, 17, 24), (0, 10, 21, 19)] 8 126 3 18 [.ref x, .int p0, .int p1, .ref (x + 233)] G hs post) (fun l G hs post => Ct l K yX6_disturb cX6_disturb 3 (some .int) 2 43 0 0 [.ref (x + 229), .int p0, .int p1] G hs post jno) c v := by
  refine ⟨0, b, c', v', by omega, hR, ht, fun l hl G hs hw => ?_, fun l hl G hs hw => Ct.at hw.2.1 (hm l hl G hs)⟩
  have hw0 := hw
  obtain ⟨h1, h2, ⟨f, h3⟩, ⟨f2, h4⟩⟩ := hw
  refine CtW.mono (c_L_disturb_ok hl K G hs x (x + 233) _ p0 p1 h1.f0 f b (fun G' => fcT K G' x c' ∧ fO x G G') (fun G' h => (h.2 _ (by omega)).trans h3) (fun l hl => hM l hl G hs h1)) ?_
  rintro z G' h ⟨z9, e, rfl, G1, ⟨q1, q2⟩, e2⟩
  obtain ⟨a1, a2⟩ := lwOk.ou (hw0.cl q1 q2) e2
  exact ⟨_, e, rfl, a1, _, a2, (fun _ => updL_0 _ _)⟩
theorem op_disturb_q {K : jK} {x : Nat} {c : FcV} {v : MdV} (p0 p1 : Int32) (b : Int32) (v' : MdV) (hR : RelV c v') (ht : v'.2.2.2.1 = nI 0) (hM : ∀ l : Launch, l.stackTraces = false → ∀ G hs, fcT K G x c → Ct l K yX5_disturb cX5_disturb 4 (some .int) 7 103 3 18 [.ref x, .int p0, .int p1] G hs (pI (fun z G' _ => z = b ∧ G' = G)) jno) (hm : ∀ l : Launch, l.stackTraces = false → ∀ F hs, Ct l K yX6_disturb cX6_disturb 3 (some .int) 2 43 0 0 [.ref (x + 229), .int p0, .int p1] (gB F (x + 229) (mdC K (x + 229) v)) hs (pI (fun z G' _ => z = b ∧ G' = gB F (x + 229) (mdC K (x + 229) v'))) jno) :
    OpI K x (fun l G hs post => CtW l K yL_disturb cL_disturb 5 (some .int) [(0, 10, 13, 13), (0, 10, 17, 24), (0, 10, 21, 19)] 8 126 3 18 [.ref x, .int p0, .int p1, .ref (x + 233)] G hs post) (fun l G hs post => Ct l K yX6_disturb cX6_disturb 3 (some .int) 2 43 0 0 [.ref (x + 229), .int p0, .int p1] G hs post jno) c v :=
  op_disturb_ok p0 p1 b c v' hR ht (fun l hl G hs hc => Ct.mono (hM l hl G hs hc) (fun z G' h q => by
    obtain ⟨z9, e, e1, rfl⟩ := q
    exact ⟨z9, e, e1, hc, fO.rf⟩) (fun _ _ h => h)) hm
theorem op_disturb_x1 {K : jK} {x : Nat} {c : FcV} {v : MdV} (p0 p1 : Int32) (b : Int32) (hR : RelV c v) (hM : ∀ l : Launch, l.stackTraces = false → ∀ G hs, fcT K G x c → Ct l K yX5_disturb cX5_disturb 4 (some .int) 7 103 3 18 [.ref x, .int p0, .int p1] G hs (pI (fun _ _ _ => False)) (fun X G' => X = jIA ∧ G' = G)) (hm : ∀ l : Launch, l.stackTraces = false → ∀ F hs, Ct l K yX6_disturb cX6_disturb 3 (some .int) 2 43 0 0 [.ref (x + 229), .int p0, .int p1] (gB F (x + 229) (mdC K (x + 229) v)) hs (pI (fun z G' _ => z = b ∧ G' = gB F (x + 229) (mdC K (x + 229) (v.1, v.2.1, v.2.2.1, nI 1, v.2.2.2.2.1, v.2.2.2.2.2)))) jno) :
    OpI K x (fun l G hs post => CtW l K yL_disturb cL_disturb 5 (some .int) [(0, 10, 13, 13), (0, 10, 17, 24), (0, 10, 21, 19)] 8 126 3 18 [.ref x, .int p0, .int p1, .ref (x + 233)] G hs post) (fun l G hs post => Ct l K yX6_disturb cX6_disturb 3 (some .int) 2 43 0 0 [.ref (x + 229), .int p0, .int p1] G hs post jno) c v := by
  refine ⟨1, b, c, (v.1, v.2.1, v.2.2.1, nI 1, v.2.2.2.2.1, v.2.2.2.2.2), by omega, hR, rfl, fun l hl G hs hw => ?_, fun l hl G hs hw => Ct.at hw.2.1 (hm l hl G hs)⟩
  have hw0 := hw
  obtain ⟨h1, h2, ⟨f, h3⟩, ⟨f2, h4⟩⟩ := hw
  refine CtW.mono (c_L_disturb_x1 hl K G hs x (x + 233) _ p0 p1 h1.f0 (fun l hl => hM l hl G hs h1)) ?_
  rintro z G' h ⟨z9, e, rfl, rfl⟩
  exact ⟨_, e, rfl, hw0, _, h3, fun q => absurd q (by omega)⟩
theorem op_disturb_x2 {K : jK} {x : Nat} {c : FcV} {v : MdV} (p0 p1 : Int32) (b : Int32) (hR : RelV c v) (hM : ∀ l : Launch, l.stackTraces = false → ∀ G hs, fcT K G x c → Ct l K yX5_disturb cX5_disturb 4 (some .int) 7 103 3 18 [.ref x, .int p0, .int p1] G hs (pI (fun _ _ _ => False)) (fun X G' => X = jIX ∧ G' = G)) (hm : ∀ l : Launch, l.stackTraces = false → ∀ F hs, Ct l K yX6_disturb cX6_disturb 3 (some .int) 2 43 0 0 [.ref (x + 229), .int p0, .int p1] (gB F (x + 229) (mdC K (x + 229) v)) hs (pI (fun z G' _ => z = b ∧ G' = gB F (x + 229) (mdC K (x + 229) (v.1, v.2.1, v.2.2.1, nI 2, v.2.2.2.2.1, v.2.2.2.2.2)))) jno) :
    OpI K x (fun l G hs post => CtW l K yL_disturb cL_disturb 5 (some .int) [(0, 10, 13, 13), (0, 10, 17, 24), (0, 10, 21, 19)] 8 126 3 18 [.ref x, .int p0, .int p1, .ref (x + 233)] G hs post) (fun l G hs post => Ct l K yX6_disturb cX6_disturb 3 (some .int) 2 43 0 0 [.ref (x + 229), .int p0, .int p1] G hs post jno) c v := by
  refine ⟨2, b, c, (v.1, v.2.1, v.2.2.1, nI 2, v.2.2.2.2.1, v.2.2.2.2.2), by omega, hR, rfl, fun l hl G hs hw => ?_, fun l hl G hs hw => Ct.at hw.2.1 (hm l hl G hs)⟩
  have hw0 := hw
  obtain ⟨h1, h2, ⟨f, h3⟩, ⟨f2, h4⟩⟩ := hw
  refine CtW.mono (c_L_disturb_x2 hl K G hs x (x + 233) _ p0 p1 h1.f0 (fun l hl => hM l hl G hs h1)) ?_
  rintro z G' h ⟨z9, e, rfl, rfl⟩
  exact ⟨_, e, rfl, hw0, _, h3, fun q => absurd q (by omega)⟩
theorem op_disturb_x3 {K : jK} {x : Nat} {c : FcV} {v : MdV} (p0 p1 : Int32) (b : Int32) (hR : RelV c v) (hM : ∀ l : Launch, l.stackTraces = false → ∀ G hs, fcT K G x c → Ct l K yX5_disturb cX5_disturb 4 (some .int) 7 103 3 18 [.ref x, .int p0, .int p1] G hs (pI (fun _ _ _ => False)) (fun X G' => X = jIS ∧ G' = G)) (hm : ∀ l : Launch, l.stackTraces = false → ∀ F hs, Ct l K yX6_disturb cX6_disturb 3 (some .int) 2 43 0 0 [.ref (x + 229), .int p0, .int p1] (gB F (x + 229) (mdC K (x + 229) v)) hs (pI (fun z G' _ => z = b ∧ G' = gB F (x + 229) (mdC K (x + 229) (v.1, v.2.1, v.2.2.1, nI 3, v.2.2.2.2.1, v.2.2.2.2.2)))) jno) :
    OpI K x (fun l G hs post => CtW l K yL_disturb cL_disturb 5 (some .int) [(0, 10, 13, 13), (0, 10, 17, 24), (0, 10, 21, 19)] 8 126 3 18 [.ref x, .int p0, .int p1, .ref (x + 233)] G hs post) (fun l G hs post => Ct l K yX6_disturb cX6_disturb 3 (some .int) 2 43 0 0 [.ref (x + 229), .int p0, .int p1] G hs post jno) c v := by
  refine ⟨3, b, c, (v.1, v.2.1, v.2.2.1, nI 3, v.2.2.2.2.1, v.2.2.2.2.2), by omega, hR, rfl, fun l hl G hs hw => ?_, fun l hl G hs hw => Ct.at hw.2.1 (hm l hl G hs)⟩
  have hw0 := hw
  obtain ⟨h1, h2, ⟨f, h3⟩, ⟨f2, h4⟩⟩ := hw
  refine CtW.mono (c_L_disturb_x3 hl K G hs x (x + 233) _ p0 p1 h1.f0 (fun l hl => hM l hl G hs h1)) ?_
  rintro z G' h ⟨z9, e, rfl, rfl⟩
  exact ⟨_, e, rfl, hw0, _, h3, fun q => absurd q (by omega)⟩
theorem op_receive_ok {K : jK} {x : Nat} {c : FcV} {v : MdV} (p0 : Int32) (b : Int32) (c' : FcV) (v' : MdV) (hR : RelV c' v') (ht : v'.2.2.2.1 = nI 0) (hM : ∀ l : Launch, l.stackTraces = false → ∀ G hs, fcT K G x c → Ct l K yX5_receive cX5_receive 3 (some .int) 7 109 3 18 [.ref x, .int p0] G hs (pI (fun z G' _ => z = b ∧ fcT K G' x c' ∧ fO x G G')) jno) (hm : ∀ l : Launch, l.stackTraces = false → ∀ F hs, Ct l K yX6_receive cX6_receive 4 (some .int) 6 133 0 0 [.ref (x + 229), .int p0] (gB F (x + 229) (mdC K (x + 229) v)) hs (pI (fun z G' _ => z = b ∧ G' = gB F (x + 229) (mdC K (x + 229) v'))) jno) :
    OpI K x (fun l G hs post => CtW l K yL_receive cL_receive 4 (some .int) [(0, 9, 12, 13), (0, 9, 15, 19)] 8 131 3 18 [.ref x, .int p0, .ref (x + 233)] G hs post) (fun l G hs post => Ct l K yX6_receive cX6_receive 4 (some .int) 6 133 0 0 [.ref (x + 229), .int p0] G hs post jno) c v := by
  refine ⟨0, b, c', v', by omega, hR, ht, fun l hl G hs hw => ?_, fun l hl G hs hw => Ct.at hw.2.1 (hm l hl G hs)⟩
  have hw0 := hw
  obtain ⟨h1, h2, ⟨f, h3⟩, ⟨f2, h4⟩⟩ := hw
  refine CtW.mono (c_L_receive_ok hl K G hs x (x + 233) _ p0 h1.f0 f b (fun G' => fcT K G' x c' ∧ fO x G G') (fun G' h => (h.2 _ (by omega)).trans h3) (fun l hl => hM l hl G hs h1)) ?_
  rintro z G' h ⟨z9, e, rfl, G1, ⟨q1, q2⟩, e2⟩
  obtain ⟨a1, a2⟩ := lwOk.ou (hw0.cl q1 q2) e2
  exact ⟨_, e, rfl, a1, _, a2, (fun _ => updL_0 _ _)⟩
theorem op_receive_q {K : jK} {x : Nat} {c : FcV} {v : MdV} (p0 : Int32) (b : Int32) (v' : MdV) (hR : RelV c v') (ht : v'.2.2.2.1 = nI 0) (hM : ∀ l : Launch, l.stackTraces = false → ∀ G hs, fcT K G x c → Ct l K yX5_receive cX5_receive 3 (some .int) 7 109 3 18 [.ref x, .int p0] G hs (pI (fun z G' _ => z = b ∧ G' = G)) jno) (hm : ∀ l : Launch, l.stackTraces = false → ∀ F hs, Ct l K yX6_receive cX6_receive 4 (some .int) 6 133 0 0 [.ref (x + 229), .int p0] (gB F (x + 229) (mdC K (x + 229) v)) hs (pI (fun z G' _ => z = b ∧ G' = gB F (x + 229) (mdC K (x + 229) v'))) jno) :
    OpI K x (fun l G hs post => CtW l K yL_receive cL_receive 4 (some .int) [(0, 9, 12, 13), (0, 9, 15, 19)] 8 131 3 18 [.ref x, .int p0, .ref (x + 233)] G hs post) (fun l G hs post => Ct l K yX6_receive cX6_receive 4 (some .int) 6 133 0 0 [.ref (x + 229), .int p0] G hs post jno) c v :=
  op_receive_ok p0 b c v' hR ht (fun l hl G hs hc => Ct.mono (hM l hl G hs hc) (fun z G' h q => by
    obtain ⟨z9, e, e1, rfl⟩ := q
    exact ⟨z9, e, e1, hc, fO.rf⟩) (fun _ _ h => h)) hm
theorem op_receive_x1 {K : jK} {x : Nat} {c : FcV} {v : MdV} (p0 : Int32) (b : Int32) (hR : RelV c v) (hM : ∀ l : Launch, l.stackTraces = false → ∀ G hs, fcT K G x c → Ct l K yX5_receive cX5_receive 3 (some .int) 7 109 3 18 [.ref x, .int p0] G hs (pI (fun _ _ _ => False)) (fun X G' => X = jIA ∧ G' = G)) (hm : ∀ l : Launch, l.stackTraces = false → ∀ F hs, Ct l K yX6_receive cX6_receive 4 (some .int) 6 133 0 0 [.ref (x + 229), .int p0] (gB F (x + 229) (mdC K (x + 229) v)) hs (pI (fun z G' _ => z = b ∧ G' = gB F (x + 229) (mdC K (x + 229) (v.1, v.2.1, v.2.2.1, nI 1, v.2.2.2.2.1, v.2.2.2.2.2)))) jno) :
    OpI K x (fun l G hs post => CtW l K yL_receive cL_receive 4 (some .int) [(0, 9, 12, 13), (0, 9, 15, 19)] 8 131 3 18 [.ref x, .int p0, .ref (x + 233)] G hs post) (fun l G hs post => Ct l K yX6_receive cX6_receive 4 (some .int) 6 133 0 0 [.ref (x + 229), .int p0] G hs post jno) c v := by
  refine ⟨1, b, c, (v.1, v.2.1, v.2.2.1, nI 1, v.2.2.2.2.1, v.2.2.2.2.2), by omega, hR, rfl, fun l hl G hs hw => ?_, fun l hl G hs hw => Ct.at hw.2.1 (hm l hl G hs)⟩
  have hw0 := hw
  obtain ⟨h1, h2, ⟨f, h3⟩, ⟨f2, h4⟩⟩ := hw
  refine CtW.mono (c_L_receive_x1 hl K G hs x (x + 233) _ p0 h1.f0 (fun l hl => hM l hl G hs h1)) ?_
  rintro z G' h ⟨z9, e, rfl, rfl⟩
  exact ⟨_, e, rfl, hw0, _, h3, fun q => absurd q (by omega)⟩
theorem op_receive_x2 {K : jK} {x : Nat} {c : FcV} {v : MdV} (p0 : Int32) (b : Int32) (hR : RelV c v) (hM : ∀ l : Launch, l.stackTraces = false → ∀ G hs, fcT K G x c → Ct l K yX5_receive cX5_receive 3 (some .int) 7 109 3 18 [.ref x, .int p0] G hs (pI (fun _ _ _ => False)) (fun X G' => X = jIS ∧ G' = G)) (hm : ∀ l : Launch, l.stackTraces = false → ∀ F hs, Ct l K yX6_receive cX6_receive 4 (some .int) 6 133 0 0 [.ref (x + 229), .int p0] (gB F (x + 229) (mdC K (x + 229) v)) hs (pI (fun z G' _ => z = b ∧ G' = gB F (x + 229) (mdC K (x + 229) (v.1, v.2.1, v.2.2.1, nI 2, v.2.2.2.2.1, v.2.2.2.2.2)))) jno) :
    OpI K x (fun l G hs post => CtW l K yL_receive cL_receive 4 (some .int) [(0, 9, 12, 13), (0, 9, 15, 19)] 8 131 3 18 [.ref x, .int p0, .ref (x + 233)] G hs post) (fun l G hs post => Ct l K yX6_receive cX6_receive 4 (some .int) 6 133 0 0 [.ref (x + 229), .int p0] G hs post jno) c v := by
  refine ⟨2, b, c, (v.1, v.2.1, v.2.2.1, nI 2, v.2.2.2.2.1, v.2.2.2.2.2), by omega, hR, rfl, fun l hl G hs hw => ?_, fun l hl G hs hw => Ct.at hw.2.1 (hm l hl G hs)⟩
  have hw0 := hw
  obtain ⟨h1, h2, ⟨f, h3⟩, ⟨f2, h4⟩⟩ := hw
  refine CtW.mono (c_L_receive_x2 hl K G hs x (x + 233) _ p0 h1.f0 (fun l hl => hM l hl G hs h1)) ?_
  rintro z G' h ⟨z9, e, rfl, rfl⟩
  exact ⟨_, e, rfl, hw0, _, h3, fun q => absurd q (by omega)⟩
theorem op_received_ok {K : jK} {x : Nat} {c : FcV} {v : MdV} (p0 : Int32) (b : Int32) (c' : FcV) (v' : MdV) (hR : RelV c' v') (ht : v'.2.2.2.1 = nI 0) (hM : ∀ l : Launch, l.stackTraces = false → ∀ G hs, fcT K G x c → Ct l K yX5_received cX5_received 2 (some .int) 7 102 1 6 [.ref x, .int p0] G hs (pI (fun z G' _ => z = b ∧ fcT K G' x c' ∧ fO x G G')) jno) (hm : ∀ l : Launch, l.stackTraces = false → ∀ F hs, Ct l K yX6_received cX6_received 2 (some .int) 1 22 0 0 [.ref (x + 229), .int p0] (gB F (x + 229) (mdC K (x + 229) v)) hs (pI (fun z G' _ => z = b ∧ G' = gB F (x + 229) (mdC K (x + 229) v'))) jno) :
    OpI K x (fun l G hs post => CtW l K yL_received cL_received 4 (some .int) [(0, 9, 12, 13)] 8 123 1 6 [.ref x, .int p0, .ref (x + 233)] G hs post) (fun l G hs post => Ct l K yX6_received cX6_received 2 (some .int) 1 22 0 0 [.ref (x + 229), .int p0] G hs post jno) c v := by
  refine ⟨0, b, c', v', by omega, hR, ht, fun l hl G hs hw => ?_, fun l hl G hs hw => Ct.at hw.2.1 (hm l hl G hs)⟩
  have hw0 := hw
  obtain ⟨h1, h2, ⟨f, h3⟩, ⟨f2, h4⟩⟩ := hw
  refine CtW.mono (c_L_received_ok hl K G hs x (x + 233) _ p0 h1.f0 f b (fun G' => fcT K G' x c' ∧ fO x G G') (fun G' h => (h.2 _ (by omega)).trans h3) (fun l hl => hM l hl G hs h1)) ?_
  rintro z G' h ⟨z9, e, rfl, G1, ⟨q1, q2⟩, e2⟩
  obtain ⟨a1, a2⟩ := lwOk.ou (hw0.cl q1 q2) e2
  exact ⟨_, e, rfl, a1, _, a2, (fun _ => updL_0 _ _)⟩
theorem op_received_q {K : jK} {x : Nat} {c : FcV} {v : MdV} (p0 : Int32) (b : Int32) (v' : MdV) (hR : RelV c v') (ht : v'.2.2.2.1 = nI 0) (hM : ∀ l : Launch, l.stackTraces = false → ∀ G hs, fcT K G x c → Ct l K yX5_received cX5_received 2 (some .int) 7 102 1 6 [.ref x, .int p0] G hs (pI (fun z G' _ => z = b ∧ G' = G)) jno) (hm : ∀ l : Launch, l.stackTraces = false → ∀ F hs, Ct l K yX6_received cX6_received 2 (some .int) 1 22 0 0 [.ref (x + 229), .int p0] (gB F (x + 229) (mdC K (x + 229) v)) hs (pI (fun z G' _ => z = b ∧ G' = gB F (x + 229) (mdC K (x + 229) v'))) jno) :
    OpI K x (fun l G hs post => CtW l K yL_received cL_received 4 (some .int) [(0, 9, 12, 13)] 8 123 1 6 [.ref x, .int p0, .ref (x + 233)] G hs post) (fun l G hs post => Ct l K yX6_received cX6_received 2 (some .int) 1 22 0 0 [.ref (x + 229), .int p0] G hs post jno) c v :=
  op_received_ok p0 b c v' hR ht (fun l hl G hs hc => Ct.mono (hM l hl G hs hc) (fun z G' h q => by
    obtain ⟨z9, e, e1, rfl⟩ := q
    exact ⟨z9, e, e1, hc, fO.rf⟩) (fun _ _ h => h)) hm
theorem op_received_x1 {K : jK} {x : Nat} {c : FcV} {v : MdV} (p0 : Int32) (b : Int32) (hR : RelV c v) (hM : ∀ l : Launch, l.stackTraces = false → ∀ G hs, fcT K G x c → Ct l K yX5_received cX5_received 2 (some .int) 7 102 1 6 [.ref x, .int p0] G hs (pI (fun _ _ _ => False)) (fun X G' => X = jIA ∧ G' = G)) (hm : ∀ l : Launch, l.stackTraces = false → ∀ F hs, Ct l K yX6_received cX6_received 2 (some .int) 1 22 0 0 [.ref (x + 229), .int p0] (gB F (x + 229) (mdC K (x + 229) v)) hs (pI (fun z G' _ => z = b ∧ G' = gB F (x + 229) (mdC K (x + 229) (v.1, v.2.1, v.2.2.1, nI 1, v.2.2.2.2.1, v.2.2.2.2.2)))) jno) :
    OpI K x (fun l G hs post => CtW l K yL_received cL_received 4 (some .int) [(0, 9, 12, 13)] 8 123 1 6 [.ref x, .int p0, .ref (x + 233)] G hs post) (fun l G hs post => Ct l K yX6_received cX6_received 2 (some .int) 1 22 0 0 [.ref (x + 229), .int p0] G hs post jno) c v := by
  refine ⟨1, b, c, (v.1, v.2.1, v.2.2.1, nI 1, v.2.2.2.2.1, v.2.2.2.2.2), by omega, hR, rfl, fun l hl G hs hw => ?_, fun l hl G hs hw => Ct.at hw.2.1 (hm l hl G hs)⟩
  have hw0 := hw
  obtain ⟨h1, h2, ⟨f, h3⟩, ⟨f2, h4⟩⟩ := hw
  refine CtW.mono (c_L_received_x1 hl K G hs x (x + 233) _ p0 h1.f0 (fun l hl => hM l hl G hs h1)) ?_
  rintro z G' h ⟨z9, e, rfl, rfl⟩
  exact ⟨_, e, rfl, hw0, _, h3, fun q => absurd q (by omega)⟩
theorem op_sample_ok {K : jK} {x : Nat} {c : FcV} {v : MdV} (p0 : Int32) (b : Int32) (c' : FcV) (v' : MdV) (hR : RelV c' v') (ht : v'.2.2.2.1 = nI 0) (hM : ∀ l : Launch, l.stackTraces = false → ∀ G hs, fcT K G x c → Ct l K yX5_sample cX5_sample 2 (some .int) 8 124 1 6 [.ref x, .int p0] G hs (pI (fun z G' _ => z = b ∧ fcT K G' x c' ∧ fO x G G')) jno) (hm : ∀ l : Launch, l.stackTraces = false → ∀ F hs, Ct l K yX6_sample cX6_sample 2 (some .int) 3 65 0 0 [.ref (x + 229), .int p0] (gB F (x + 229) (mdC K (x + 229) v)) hs (pI (fun z G' _ => z = b ∧ G' = gB F (x + 229) (mdC K (x + 229) v'))) jno) :
    OpI K x (fun l G hs post => CtW l K yL_sample cL_sample 4 (some .int) [(0, 9, 12, 24)] 9 145 1 6 [.ref x, .int p0, .ref (x + 233)] G hs post) (fun l G hs post => Ct l K yX6_sample cX6_sample 2 (some .int) 3 65 0 0 [.ref (x + 229), .int p0] G hs post jno) c v := by
  refine ⟨0, b, c', v', by omega, hR, ht, fun l hl G hs hw => ?_, fun l hl G hs hw => Ct.at hw.2.1 (hm l hl G hs)⟩
  have hw0 := hw
  obtain ⟨h1, h2, ⟨f, h3⟩, ⟨f2, h4⟩⟩ := hw
  refine CtW.mono (c_L_sample_ok hl K G hs x (x + 233) _ p0 h1.f0 f b (fun G' => fcT K G' x c' ∧ fO x G G') (fun G' h => (h.2 _ (by omega)).trans h3) (fun l hl => hM l hl G hs h1)) ?_
  rintro z G' h ⟨z9, e, rfl, G1, ⟨q1, q2⟩, e2⟩
  obtain ⟨a1, a2⟩ := lwOk.ou (hw0.cl q1 q2) e2
  exact ⟨_, e, rfl, a1, _, a2, (fun _ => updL_0 _ _)⟩
theorem op_sample_q {K : jK} {x : Nat} {c : FcV} {v : MdV} (p0 : Int32) (b : Int32) (v' : MdV) (hR : RelV c v') (ht : v'.2.2.2.1 = nI 0) (hM : ∀ l : Launch, l.stackTraces = false → ∀ G hs, fcT K G x c → Ct l K yX5_sample cX5_sample 2 (some .int) 8 124 1 6 [.ref x, .int p0] G hs (pI (fun z G' _ => z = b ∧ G' = G)) jno) (hm : ∀ l : Launch, l.stackTraces = false → ∀ F hs, Ct l K yX6_sample cX6_sample 2 (some .int) 3 65 0 0 [.ref (x + 229), .int p0] (gB F (x + 229) (mdC K (x + 229) v)) hs (pI (fun z G' _ => z = b ∧ G' = gB F (x + 229) (mdC K (x + 229) v'))) jno) :
    OpI K x (fun l G hs post => CtW l K yL_sample cL_sample 4 (some .int) [(0, 9, 12, 24)] 9 145 1 6 [.ref x, .int p0, .ref (x + 233)] G hs post) (fun l G hs post => Ct l K yX6_sample cX6_sample 2 (some .int) 3 65 0 0 [.ref (x + 229), .int p0] G hs post jno) c v :=
  op_sample_ok p0 b c v' hR ht (fun l hl G hs hc => Ct.mono (hM l hl G hs hc) (fun z G' h q => by
    obtain ⟨z9, e, e1, rfl⟩ := q
    exact ⟨z9, e, e1, hc, fO.rf⟩) (fun _ _ h => h)) hm
theorem op_sample_x1 {K : jK} {x : Nat} {c : FcV} {v : MdV} (p0 : Int32) (b : Int32) (hR : RelV c v) (hM : ∀ l : Launch, l.stackTraces = false → ∀ G hs, fcT K G x c → Ct l K yX5_sample cX5_sample 2 (some .int) 8 124 1 6 [.ref x, .int p0] G hs (pI (fun _ _ _ => False)) (fun X G' => X = jIX ∧ G' = G)) (hm : ∀ l : Launch, l.stackTraces = false → ∀ F hs, Ct l K yX6_sample cX6_sample 2 (some .int) 3 65 0 0 [.ref (x + 229), .int p0] (gB F (x + 229) (mdC K (x + 229) v)) hs (pI (fun z G' _ => z = b ∧ G' = gB F (x + 229) (mdC K (x + 229) (v.1, v.2.1, v.2.2.1, nI 1, v.2.2.2.2.1, v.2.2.2.2.2)))) jno) :
    OpI K x (fun l G hs post => CtW l K yL_sample cL_sample 4 (some .int) [(0, 9, 12, 24)] 9 145 1 6 [.ref x, .int p0, .ref (x + 233)] G hs post) (fun l G hs post => Ct l K yX6_sample cX6_sample 2 (some .int) 3 65 0 0 [.ref (x + 229), .int p0] G hs post jno) c v := by
  refine ⟨1, b, c, (v.1, v.2.1, v.2.2.1, nI 1, v.2.2.2.2.1, v.2.2.2.2.2), by omega, hR, rfl, fun l hl G hs hw => ?_, fun l hl G hs hw => Ct.at hw.2.1 (hm l hl G hs)⟩
  have hw0 := hw
  obtain ⟨h1, h2, ⟨f, h3⟩, ⟨f2, h4⟩⟩ := hw
  refine CtW.mono (c_L_sample_x1 hl K G hs x (x + 233) _ p0 h1.f0 (fun l hl => hM l hl G hs h1)) ?_
  rintro z G' h ⟨z9, e, rfl, rfl⟩
  exact ⟨_, e, rfl, hw0, _, h3, fun q => absurd q (by omega)⟩
theorem op_samples_ok {K : jK} {x : Nat} {c : FcV} {v : MdV} (p0 : Int32) (b : Int32) (c' : FcV) (v' : MdV) (hR : RelV c' v') (ht : v'.2.2.2.1 = nI 0) (hM : ∀ l : Launch, l.stackTraces = false → ∀ G hs, fcT K G x c → Ct l K yX5_samples cX5_samples 2 (some .int) 8 124 1 6 [.ref x, .int p0] G hs (pI (fun z G' _ => z = b ∧ fcT K G' x c' ∧ fO x G G')) jno) (hm : ∀ l : Launch, l.stackTraces = false → ∀ F hs, Ct l K yX6_samples cX6_samples 2 (some .int) 3 65 0 0 [.ref (x + 229), .int p0] (gB F (x + 229) (mdC K (x + 229) v)) hs (pI (fun z G' _ => z = b ∧ G' = gB F (x + 229) (mdC K (x + 229) v'))) jno) :
    OpI K x (fun l G hs post => CtW l K yL_samples cL_samples 4 (some .int) [(0, 9, 12, 24)] 9 145 1 6 [.ref x, .int p0, .ref (x + 233)] G hs post) (fun l G hs post => Ct l K yX6_samples cX6_samples 2 (some .int) 3 65 0 0 [.ref (x + 229), .int p0] G hs post jno) c v := by
  refine ⟨0, b, c', v', by omega, hR, ht, fun l hl G hs hw => ?_, fun l hl G hs hw => Ct.at hw.2.1 (hm l hl G hs)⟩
  have hw0 := hw
  obtain ⟨h1, h2, ⟨f, h3⟩, ⟨f2, h4⟩⟩ := hw
  refine CtW.mono (c_L_samples_ok hl K G hs x (x + 233) _ p0 h1.f0 f b (fun G' => fcT K G' x c' ∧ fO x G G') (fun G' h => (h.2 _ (by omega)).trans h3) (fun l hl => hM l hl G hs h1)) ?_
  rintro z G' h ⟨z9, e, rfl, G1, ⟨q1, q2⟩, e2⟩
  obtain ⟨a1, a2⟩ := lwOk.ou (hw0.cl q1 q2) e2
  exact ⟨_, e, rfl, a1, _, a2, (fun _ => updL_0 _ _)⟩
theorem op_samples_q {K : jK} {x : Nat} {c : FcV} {v : MdV} (p0 : Int32) (b : Int32) (v' : MdV) (hR : RelV c v') (ht : v'.2.2.2.1 = nI 0) (hM : ∀ l : Launch, l.stackTraces = false → ∀ G hs, fcT K G x c → Ct l K yX5_samples cX5_samples 2 (some .int) 8 124 1 6 [.ref x, .int p0] G hs (pI (fun z G' _ => z = b ∧ G' = G)) jno) (hm : ∀ l : Launch, l.stackTraces = false → ∀ F hs, Ct l K yX6_samples cX6_samples 2 (some .int) 3 65 0 0 [.ref (x + 229), .int p0] (gB F (x + 229) (mdC K (x + 229) v)) hs (pI (fun z G' _ => z = b ∧ G' = gB F (x + 229) (mdC K (x + 229) v'))) jno) :
    OpI K x (fun l G hs post => CtW l K yL_samples cL_samples 4 (some .int) [(0, 9, 12, 24)] 9 145 1 6 [.ref x, .int p0, .ref (x + 233)] G hs post) (fun l G hs post => Ct l K yX6_samples cX6_samples 2 (some .int) 3 65 0 0 [.ref (x + 229), .int p0] G hs post jno) c v :=
  op_samples_ok p0 b c v' hR ht (fun l hl G hs hc => Ct.mono (hM l hl G hs hc) (fun z G' h q => by
    obtain ⟨z9, e, e1, rfl⟩ := q
    exact ⟨z9, e, e1, hc, fO.rf⟩) (fun _ _ h => h)) hm
theorem op_samples_x1 {K : jK} {x : Nat} {c : FcV} {v : MdV} (p0 : Int32) (b : Int32) (hR : RelV c v) (hM : ∀ l : Launch, l.stackTraces = false → ∀ G hs, fcT K G x c → Ct l K yX5_samples cX5_samples 2 (some .int) 8 124 1 6 [.ref x, .int p0] G hs (pI (fun _ _ _ => False)) (fun X G' => X = jIX ∧ G' = G)) (hm : ∀ l : Launch, l.stackTraces = false → ∀ F hs, Ct l K yX6_samples cX6_samples 2 (some .int) 3 65 0 0 [.ref (x + 229), .int p0] (gB F (x + 229) (mdC K (x + 229) v)) hs (pI (fun z G' _ => z = b ∧ G' = gB F (x + 229) (mdC K (x + 229) (v.1, v.2.1, v.2.2.1, nI 1, v.2.2.2.2.1, v.2.2.2.2.2)))) jno) :
    OpI K x (fun l G hs post => CtW l K yL_samples cL_samples 4 (some .int) [(0, 9, 12, 24)] 9 145 1 6 [.ref x, .int p0, .ref (x + 233)] G hs post) (fun l G hs post => Ct l K yX6_samples cX6_samples 2 (some .int) 3 65 0 0 [.ref (x + 229), .int p0] G hs post jno) c v := by
  refine ⟨1, b, c, (v.1, v.2.1, v.2.2.1, nI 1, v.2.2.2.2.1, v.2.2.2.2.2), by omega, hR, rfl, fun l hl G hs hw => ?_, fun l hl G hs hw => Ct.at hw.2.1 (hm l hl G hs)⟩
  have hw0 := hw
  obtain ⟨h1, h2, ⟨f, h3⟩, ⟨f2, h4⟩⟩ := hw
  refine CtW.mono (c_L_samples_x1 hl K G hs x (x + 233) _ p0 h1.f0 (fun l hl => hM l hl G hs h1)) ?_
  rintro z G' h ⟨z9, e, rfl, rfl⟩
  exact ⟨_, e, rfl, hw0, _, h3, fun q => absurd q (by omega)⟩
theorem op_setMode_ok {K : jK} {x : Nat} {c : FcV} {v : MdV} (p0 : Int32) (b : Int32) (c' : FcV) (v' : MdV) (hR : RelV c' v') (ht : v'.2.2.2.1 = nI 0) (hM : ∀ l : Launch, l.stackTraces = false → ∀ G hs, fcT K G x c → Ct l K yX5_setMode cX5_setMode 3 (some .int) 7 102 1 6 [.ref x, .int p0] G hs (pI (fun z G' _ => z = b ∧ fcT K G' x c' ∧ fO x G G')) jno) (hm : ∀ l : Launch, l.stackTraces = false → ∀ F hs, Ct l K yX6_setMode cX6_setMode 3 (some .int) 1 22 0 0 [.ref (x + 229), .int p0] (gB F (x + 229) (mdC K (x + 229) v)) hs (pI (fun z G' _ => z = b ∧ G' = gB F (x + 229) (mdC K (x + 229) v'))) jno) :
    OpI K x (fun l G hs post => CtW l K yL_setMode cL_setMode 4 (some .int) [(0, 9, 12, 13)] 8 124 1 6 [.ref x, .int p0, .ref (x + 233)] G hs post) (fun l G hs post => Ct l K yX6_setMode cX6_setMode 3 (some .int) 1 22 0 0 [.ref (x + 229), .int p0] G hs post jno) c v := by
  refine ⟨0, b, c', v', by omega, hR, ht, fun l hl G hs hw => ?_, fun l hl G hs hw => Ct.at hw.2.1 (hm l hl G hs)⟩
  have hw0 := hw
  obtain ⟨h1, h2, ⟨f, h3⟩, ⟨f2, h4⟩⟩ := hw
  refine CtW.mono (c_L_setMode_ok hl K G hs x (x + 233) _ p0 h1.f0 f b (fun G' => fcT K G' x c' ∧ fO x G G') (fun G' h => (h.2 _ (by omega)).trans h3) (fun l hl => hM l hl G hs h1)) ?_
  rintro z G' h ⟨z9, e, rfl, G1, ⟨q1, q2⟩, e2⟩
  obtain ⟨a1, a2⟩ := lwOk.ou (hw0.cl q1 q2) e2
  exact ⟨_, e, rfl, a1, _, a2, (fun _ => updL_0 _ _)⟩
theorem op_setMode_q {K : jK} {x : Nat} {c : FcV} {v : MdV} (p0 : Int32) (b : Int32) (v' : MdV) (hR : RelV c v') (ht : v'.2.2.2.1 = nI 0) (hM : ∀ l : Launch, l.stackTraces = false → ∀ G hs, fcT K G x c → Ct l K yX5_setMode cX5_setMode 3 (some .int) 7 102 1 6 [.ref x, .int p0] G hs (pI (fun z G' _ => z = b ∧ G' = G)) jno) (hm : ∀ l : Launch, l.stackTraces = false → ∀ F hs, Ct l K yX6_setMode cX6_setMode 3 (some .int) 1 22 0 0 [.ref (x + 229), .int p0] (gB F (x + 229) (mdC K (x + 229) v)) hs (pI (fun z G' _ => z = b ∧ G' = gB F (x + 229) (mdC K (x + 229) v'))) jno) :
    OpI K x (fun l G hs post => CtW l K yL_setMode cL_setMode 4 (some .int) [(0, 9, 12, 13)] 8 124 1 6 [.ref x, .int p0, .ref (x + 233)] G hs post) (fun l G hs post => Ct l K yX6_setMode cX6_setMode 3 (some .int) 1 22 0 0 [.ref (x + 229), .int p0] G hs post jno) c v :=
  op_setMode_ok p0 b c v' hR ht (fun l hl G hs hc => Ct.mono (hM l hl G hs hc) (fun z G' h q => by
    obtain ⟨z9, e, e1, rfl⟩ := q
    exact ⟨z9, e, e1, hc, fO.rf⟩) (fun _ _ h => h)) hm
theorem op_setMode_x1 {K : jK} {x : Nat} {c : FcV} {v : MdV} (p0 : Int32) (b : Int32) (hR : RelV c v) (hM : ∀ l : Launch, l.stackTraces = false → ∀ G hs, fcT K G x c → Ct l K yX5_setMode cX5_setMode 3 (some .int) 7 102 1 6 [.ref x, .int p0] G hs (pI (fun _ _ _ => False)) (fun X G' => X = jIA ∧ G' = G)) (hm : ∀ l : Launch, l.stackTraces = false → ∀ F hs, Ct l K yX6_setMode cX6_setMode 3 (some .int) 1 22 0 0 [.ref (x + 229), .int p0] (gB F (x + 229) (mdC K (x + 229) v)) hs (pI (fun z G' _ => z = b ∧ G' = gB F (x + 229) (mdC K (x + 229) (v.1, v.2.1, v.2.2.1, nI 1, v.2.2.2.2.1, v.2.2.2.2.2)))) jno) :
    OpI K x (fun l G hs post => CtW l K yL_setMode cL_setMode 4 (some .int) [(0, 9, 12, 13)] 8 124 1 6 [.ref x, .int p0, .ref (x + 233)] G hs post) (fun l G hs post => Ct l K yX6_setMode cX6_setMode 3 (some .int) 1 22 0 0 [.ref (x + 229), .int p0] G hs post jno) c v := by
  refine ⟨1, b, c, (v.1, v.2.1, v.2.2.1, nI 1, v.2.2.2.2.1, v.2.2.2.2.2), by omega, hR, rfl, fun l hl G hs hw => ?_, fun l hl G hs hw => Ct.at hw.2.1 (hm l hl G hs)⟩
  have hw0 := hw
  obtain ⟨h1, h2, ⟨f, h3⟩, ⟨f2, h4⟩⟩ := hw
  refine CtW.mono (c_L_setMode_x1 hl K G hs x (x + 233) _ p0 h1.f0 (fun l hl => hM l hl G hs h1)) ?_
  rintro z G' h ⟨z9, e, rfl, rfl⟩
  exact ⟨_, e, rfl, hw0, _, h3, fun q => absurd q (by omega)⟩
theorem op_setLimits_ok {K : jK} {x : Nat} {c : FcV} {v : MdV} (p0 p1 p2 p3 : Int32) (b : Int32) (c' : FcV) (v' : MdV) (hR : RelV c' v') (ht : v'.2.2.2.1 = nI 0) (hM : ∀ l : Launch, l.stackTraces = false → ∀ G hs, fcT K G x c → Ct l K yX5_setLimits cX5_setLimits 7 (some .int) 8 124 3 18 [.ref x, .int p0, .int p1, .int p2, .int p3] G hs (pI (fun z G' _ => z = b ∧ fcT K G' x c' ∧ fO x G G')) jno) (hm : ∀ l : Launch, l.stackTraces = false → ∀ F hs, Ct l K yX6_setLimits cX6_setLimits 7 (some .int) 2 43 0 0 [.ref (x + 229), .int p0, .int p1, .int p2, .int p3] (gB F (x + 229) (mdC K (x + 229) v)) hs (pI (fun z G' _ => z = b ∧ G' = gB F (x + 229) (mdC K (x + 229) v'))) jno) :
    OpI K x (fun l G hs post => CtW l K yL_setLimits cL_setLimits 7 (some .int) [(0, 14, 17, 24), (0, 14, 21, 13)] 9 150 3 18 [.ref x, .int p0, .int p1, .int p2, .int p3, .ref (x + 233)] G hs post) (fun l G hs post => Ct l K yX6_setLimits cX6_setLimits 7 (some .int) 2 43 0 0 [.ref (x + 229), .int p0, .int p1, .int p2, .int p3] G hs post jno) c v := by
  refine ⟨0, b, c', v', by omega, hR, ht, fun l hl G hs hw => ?_, fun l hl G hs hw => Ct.at hw.2.1 (hm l hl G hs)⟩
  have hw0 := hw
  obtain ⟨h1, h2, ⟨f, h3⟩, ⟨f2, h4⟩⟩ := hw
  refine CtW.mono (c_L_setLimits_ok hl K G hs x (x + 233) _ p0 p1 p2 p3 h1.f0 f b (fun G' => fcT K G' x c' ∧ fO x G G') (fun G' h => (h.2 _ (by omega)).trans h3) (fun l hl => hM l hl G hs h1)) ?_
  rintro z G' h ⟨z9, e, rfl, G1, ⟨q1, q2⟩, e2⟩
  obtain ⟨a1, a2⟩ := lwOk.ou (hw0.cl q1 q2) e2
  exact ⟨_, e, rfl, a1, _, a2, (fun _ => updL_0 _ _)⟩
theorem op_setLimits_q {K : jK} {x : Nat} {c : FcV} {v : MdV} (p0 p1 p2 p3 : Int32) (b : Int32) (v' : MdV) (hR : RelV c v') (ht : v'.2.2.2.1 = nI 0) (hM : ∀ l : Launch, l.stackTraces = false → ∀ G hs, fcT K G x c → Ct l K yX5_setLimits cX5_setLimits 7 (some .int) 8 124 3 18 [.ref x, .int p0, .int p1, .int p2, .int p3] G hs (pI (fun z G' _ => z = b ∧ G' = G)) jno) (hm : ∀ l : Launch, l.stackTraces = false → ∀ F hs, Ct l K yX6_setLimits cX6_setLimits 7 (some .int) 2 43 0 0 [.ref (x + 229), .int p0, .int p1, .int p2, .int p3] (gB F (x + 229) (mdC K (x + 229) v)) hs (pI (fun z G' _ => z = b ∧ G' = gB F (x + 229) (mdC K (x + 229) v'))) jno) :
    OpI K x (fun l G hs post => CtW l K yL_setLimits cL_setLimits 7 (some .int) [(0, 14, 17, 24), (0, 14, 21, 13)] 9 150 3 18 [.ref x, .int p0, .int p1, .int p2, .int p3, .ref (x + 233)] G hs post) (fun l G hs post => Ct l K yX6_setLimits cX6_setLimits 7 (some .int) 2 43 0 0 [.ref (x + 229), .int p0, .int p1, .int p2, .int p3] G hs post jno) c v :=
  op_setLimits_ok p0 p1 p2 p3 b c v' hR ht (fun l hl G hs hc => Ct.mono (hM l hl G hs hc) (fun z G' h q => by
    obtain ⟨z9, e, e1, rfl⟩ := q
    exact ⟨z9, e, e1, hc, fO.rf⟩) (fun _ _ h => h)) hm
theorem op_setLimits_x1 {K : jK} {x : Nat} {c : FcV} {v : MdV} (p0 p1 p2 p3 : Int32) (b : Int32) (hR : RelV c v) (hM : ∀ l : Launch, l.stackTraces = false → ∀ G hs, fcT K G x c → Ct l K yX5_setLimits cX5_setLimits 7 (some .int) 8 124 3 18 [.ref x, .int p0, .int p1, .int p2, .int p3] G hs (pI (fun _ _ _ => False)) (fun X G' => X = jIX ∧ G' = G)) (hm : ∀ l : Launch, l.stackTraces = false → ∀ F hs, Ct l K yX6_setLimits cX6_setLimits 7 (some .int) 2 43 0 0 [.ref (x + 229), .int p0, .int p1, .int p2, .int p3] (gB F (x + 229) (mdC K (x + 229) v)) hs (pI (fun z G' _ => z = b ∧ G' = gB F (x + 229) (mdC K (x + 229) (v.1, v.2.1, v.2.2.1, nI 1, v.2.2.2.2.1, v.2.2.2.2.2)))) jno) :
    OpI K x (fun l G hs post => CtW l K yL_setLimits cL_setLimits 7 (some .int) [(0, 14, 17, 24), (0, 14, 21, 13)] 9 150 3 18 [.ref x, .int p0, .int p1, .int p2, .int p3, .ref (x + 233)] G hs post) (fun l G hs post => Ct l K yX6_setLimits cX6_setLimits 7 (some .int) 2 43 0 0 [.ref (x + 229), .int p0, .int p1, .int p2, .int p3] G hs post jno) c v := by
  refine ⟨1, b, c, (v.1, v.2.1, v.2.2.1, nI 1, v.2.2.2.2.1, v.2.2.2.2.2), by omega, hR, rfl, fun l hl G hs hw => ?_, fun l hl G hs hw => Ct.at hw.2.1 (hm l hl G hs)⟩
  have hw0 := hw
  obtain ⟨h1, h2, ⟨f, h3⟩, ⟨f2, h4⟩⟩ := hw
  refine CtW.mono (c_L_setLimits_x1 hl K G hs x (x + 233) _ p0 p1 p2 p3 h1.f0 (fun l hl => hM l hl G hs h1)) ?_
  rintro z G' h ⟨z9, e, rfl, rfl⟩
  exact ⟨_, e, rfl, hw0, _, h3, fun q => absurd q (by omega)⟩
theorem op_setLimits_x2 {K : jK} {x : Nat} {c : FcV} {v : MdV} (p0 p1 p2 p3 : Int32) (b : Int32) (hR : RelV c v) (hM : ∀ l : Launch, l.stackTraces = false → ∀ G hs, fcT K G x c → Ct l K yX5_setLimits cX5_setLimits 7 (some .int) 8 124 3 18 [.ref x, .int p0, .int p1, .int p2, .int p3] G hs (pI (fun _ _ _ => False)) (fun X G' => X = jIA ∧ G' = G)) (hm : ∀ l : Launch, l.stackTraces = false → ∀ F hs, Ct l K yX6_setLimits cX6_setLimits 7 (some .int) 2 43 0 0 [.ref (x + 229), .int p0, .int p1, .int p2, .int p3] (gB F (x + 229) (mdC K (x + 229) v)) hs (pI (fun z G' _ => z = b ∧ G' = gB F (x + 229) (mdC K (x + 229) (v.1, v.2.1, v.2.2.1, nI 2, v.2.2.2.2.1, v.2.2.2.2.2)))) jno) :
    OpI K x (fun l G hs post => CtW l K yL_setLimits cL_setLimits 7 (some .int) [(0, 14, 17, 24), (0, 14, 21, 13)] 9 150 3 18 [.ref x, .int p0, .int p1, .int p2, .int p3, .ref (x + 233)] G hs post) (fun l G hs post => Ct l K yX6_setLimits cX6_setLimits 7 (some .int) 2 43 0 0 [.ref (x + 229), .int p0, .int p1, .int p2, .int p3] G hs post jno) c v := by
  refine ⟨2, b, c, (v.1, v.2.1, v.2.2.1, nI 2, v.2.2.2.2.1, v.2.2.2.2.2), by omega, hR, rfl, fun l hl G hs hw => ?_, fun l hl G hs hw => Ct.at hw.2.1 (hm l hl G hs)⟩
  have hw0 := hw
  obtain ⟨h1, h2, ⟨f, h3⟩, ⟨f2, h4⟩⟩ := hw
  refine CtW.mono (c_L_setLimits_x2 hl K G hs x (x + 233) _ p0 p1 p2 p3 h1.f0 (fun l hl => hM l hl G hs h1)) ?_
  rintro z G' h ⟨z9, e, rfl, rfl⟩
  exact ⟨_, e, rfl, hw0, _, h3, fun q => absurd q (by omega)⟩
theorem op_setPersistence_ok {K : jK} {x : Nat} {c : FcV} {v : MdV} (p0 p1 : Int32) (b : Int32) (c' : FcV) (v' : MdV) (hR : RelV c' v') (ht : v'.2.2.2.1 = nI 0) (hM : ∀ l : Launch, l.stackTraces = false → ∀ G hs, fcT K G x c → Ct l K yX5_setPersistence cX5_setPersistence 5 (some .int) 8 124 2 12 [.ref x, .int p0, .int p1] G hs (pI (fun z G' _ => z = b ∧ fcT K G' x c' ∧ fO x G G')) jno) (hm : ∀ l : Launch, l.stackTraces = false → ∀ F hs, Ct l K yX6_setPersistence cX6_setPersistence 4 (some .int) 2 43 0 0 [.ref (x + 229), .int p0, .int p1] (gB F (x + 229) (mdC K (x + 229) v)) hs (pI (fun z G' _ => z = b ∧ G' = gB F (x + 229) (mdC K (x + 229) v'))) jno) :
    OpI K x (fun l G hs post => CtW l K yL_setPersistence cL_setPersistence 5 (some .int) [(0, 10, 13, 24), (0, 10, 17, 13)] 9 148 2 12 [.ref x, .int p0, .int p1, .ref (x + 233)] G hs post) (fun l G hs post => Ct l K yX6_setPersistence cX6_setPersistence 4 (some .int) 2 43 0 0 [.ref (x + 229), .int p0, .int p1] G hs post jno) c v := by
  refine ⟨0, b, c', v', by omega, hR, ht, fun l hl G hs hw => ?_, fun l hl G hs hw => Ct.at hw.2.1 (hm l hl G hs)⟩
  have hw0 := hw
  obtain ⟨h1, h2, ⟨f, h3⟩, ⟨f2, h4⟩⟩ := hw
  refine CtW.mono (c_L_setPersistence_ok hl K G hs x (x + 233) _ p0 p1 h1.f0 f b (fun G' => fcT K G' x c' ∧ fO x G G') (fun G' h => (h.2 _ (by omega)).trans h3) (fun l hl => hM l hl G hs h1)) ?_
  rintro z G' h ⟨z9, e, rfl, G1, ⟨q1, q2⟩, e2⟩
  obtain ⟨a1, a2⟩ := lwOk.ou (hw0.cl q1 q2) e2
  exact ⟨_, e, rfl, a1, _, a2, (fun _ => updL_0 _ _)⟩
theorem op_setPersistence_q {K : jK} {x : Nat} {c : FcV} {v : MdV} (p0 p1 : Int32) (b : Int32) (v' : MdV) (hR : RelV c v') (ht : v'.2.2.2.1 = nI 0) (hM : ∀ l : Launch, l.stackTraces = false → ∀ G hs, fcT K G x c → Ct l K yX5_setPersistence cX5_setPersistence 5 (some .int) 8 124 2 12 [.ref x, .int p0, .int p1] G hs (pI (fun z G' _ => z = b ∧ G' = G)) jno) (hm : ∀ l : Launch, l.stackTraces = false → ∀ F hs, Ct l K yX6_setPersistence cX6_setPersistence 4 (some .int) 2 43 0 0 [.ref (x + 229), .int p0, .int p1] (gB F (x + 229) (mdC K (x + 229) v)) hs (pI (fun z G' _ => z = b ∧ G' = gB F (x + 229) (mdC K (x + 229) v'))) jno) :
    OpI K x (fun l G hs post => CtW l K yL_setPersistence cL_setPersistence 5 (some .int) [(0, 10, 13, 24), (0, 10, 17, 13)] 9 148 2 12 [.ref x, .int p0, .int p1, .ref (x + 233)] G hs post) (fun l G hs post => Ct l K yX6_setPersistence cX6_setPersistence 4 (some .int) 2 43 0 0 [.ref (x + 229), .int p0, .int p1] G hs post jno) c v :=
  op_setPersistence_ok p0 p1 b c v' hR ht (fun l hl G hs hc => Ct.mono (hM l hl G hs hc) (fun z G' h q => by
    obtain ⟨z9, e, e1, rfl⟩ := q
    exact ⟨z9, e, e1, hc, fO.rf⟩) (fun _ _ h => h)) hm
theorem op_setPersistence_x1 {K : jK} {x : Nat} {c : FcV} {v : MdV} (p0 p1 : Int32) (b : Int32) (hR : RelV c v) (hM : ∀ l : Launch, l.stackTraces = false → ∀ G hs, fcT K G x c → Ct l K yX5_setPersistence cX5_setPersistence 5 (some .int) 8 124 2 12 [.ref x, .int p0, .int p1] G hs (pI (fun _ _ _ => False)) (fun X G' => X = jIX ∧ G' = G)) (hm : ∀ l : Launch, l.stackTraces = false → ∀ F hs, Ct l K yX6_setPersistence cX6_setPersistence 4 (some .int) 2 43 0 0 [.ref (x + 229), .int p0, .int p1] (gB F (x + 229) (mdC K (x + 229) v)) hs (pI (fun z G' _ => z = b ∧ G' = gB F (x + 229) (mdC K (x + 229) (v.1, v.2.1, v.2.2.1, nI 1, v.2.2.2.2.1, v.2.2.2.2.2)))) jno) :
    OpI K x (fun l G hs post => CtW l K yL_setPersistence cL_setPersistence 5 (some .int) [(0, 10, 13, 24), (0, 10, 17, 13)] 9 148 2 12 [.ref x, .int p0, .int p1, .ref (x + 233)] G hs post) (fun l G hs post => Ct l K yX6_setPersistence cX6_setPersistence 4 (some .int) 2 43 0 0 [.ref (x + 229), .int p0, .int p1] G hs post jno) c v := by
  refine ⟨1, b, c, (v.1, v.2.1, v.2.2.1, nI 1, v.2.2.2.2.1, v.2.2.2.2.2), by omega, hR, rfl, fun l hl G hs hw => ?_, fun l hl G hs hw => Ct.at hw.2.1 (hm l hl G hs)⟩
  have hw0 := hw
  obtain ⟨h1, h2, ⟨f, h3⟩, ⟨f2, h4⟩⟩ := hw
  refine CtW.mono (c_L_setPersistence_x1 hl K G hs x (x + 233) _ p0 p1 h1.f0 (fun l hl => hM l hl G hs h1)) ?_
  rintro z G' h ⟨z9, e, rfl, rfl⟩
  exact ⟨_, e, rfl, hw0, _, h3, fun q => absurd q (by omega)⟩
theorem op_setPersistence_x2 {K : jK} {x : Nat} {c : FcV} {v : MdV} (p0 p1 : Int32) (b : Int32) (hR : RelV c v) (hM : ∀ l : Launch, l.stackTraces = false → ∀ G hs, fcT K G x c → Ct l K yX5_setPersistence cX5_setPersistence 5 (some .int) 8 124 2 12 [.ref x, .int p0, .int p1] G hs (pI (fun _ _ _ => False)) (fun X G' => X = jIA ∧ G' = G)) (hm : ∀ l : Launch, l.stackTraces = false → ∀ F hs, Ct l K yX6_setPersistence cX6_setPersistence 4 (some .int) 2 43 0 0 [.ref (x + 229), .int p0, .int p1] (gB F (x + 229) (mdC K (x + 229) v)) hs (pI (fun z G' _ => z = b ∧ G' = gB F (x + 229) (mdC K (x + 229) (v.1, v.2.1, v.2.2.1, nI 2, v.2.2.2.2.1, v.2.2.2.2.2)))) jno) :
    OpI K x (fun l G hs post => CtW l K yL_setPersistence cL_setPersistence 5 (some .int) [(0, 10, 13, 24), (0, 10, 17, 13)] 9 148 2 12 [.ref x, .int p0, .int p1, .ref (x + 233)] G hs post) (fun l G hs post => Ct l K yX6_setPersistence cX6_setPersistence 4 (some .int) 2 43 0 0 [.ref (x + 229), .int p0, .int p1] G hs post jno) c v := by
  refine ⟨2, b, c, (v.1, v.2.1, v.2.2.1, nI 2, v.2.2.2.2.1, v.2.2.2.2.2), by omega, hR, rfl, fun l hl G hs hw => ?_, fun l hl G hs hw => Ct.at hw.2.1 (hm l hl G hs)⟩
  have hw0 := hw
  obtain ⟨h1, h2, ⟨f, h3⟩, ⟨f2, h4⟩⟩ := hw
  refine CtW.mono (c_L_setPersistence_x2 hl K G hs x (x + 233) _ p0 p1 h1.f0 (fun l hl => hM l hl G hs h1)) ?_
  rintro z G' h ⟨z9, e, rfl, rfl⟩
  exact ⟨_, e, rfl, hw0, _, h3, fun q => absurd q (by omega)⟩
theorem op_hasAlarm_ok {K : jK} {x : Nat} {c : FcV} {v : MdV} (p0 : Int32) (b : Bool) (c' : FcV) (v' : MdV) (hR : RelV c' v') (ht : v'.2.2.2.1 = nI 0) (hM : ∀ l : Launch, l.stackTraces = false → ∀ G hs, fcT K G x c → Ct l K yX5_hasAlarm cX5_hasAlarm 2 (some .boolean) 8 124 1 6 [.ref x, .int p0] G hs (pI (fun z G' _ => z = jb b ∧ fcT K G' x c' ∧ fO x G G')) jno) (hm : ∀ l : Launch, l.stackTraces = false → ∀ F hs, Ct l K yX6_hasAlarm cX6_hasAlarm 2 (some .boolean) 3 65 0 0 [.ref (x + 229), .int p0] (gB F (x + 229) (mdC K (x + 229) v)) hs (pI (fun z G' _ => z = jb b ∧ G' = gB F (x + 229) (mdC K (x + 229) v'))) jno) :
    OpI K x (fun l G hs post => CtW l K yL_hasAlarm cL_hasAlarm 4 (some .int) [(0, 16, 19, 24)] 9 145 1 6 [.ref x, .int p0, .ref (x + 233)] G hs post) (fun l G hs post => Ct l K yX6_hasAlarm cX6_hasAlarm 2 (some .boolean) 3 65 0 0 [.ref (x + 229), .int p0] G hs post jno) c v := by
  refine ⟨0, jb b, c', v', by omega, hR, ht, fun l hl G hs hw => ?_, fun l hl G hs hw => Ct.at hw.2.1 (hm l hl G hs)⟩
  have hw0 := hw
  obtain ⟨h1, h2, ⟨f, h3⟩, ⟨f2, h4⟩⟩ := hw
  refine CtW.mono (c_L_hasAlarm_ok hl K G hs x (x + 233) _ p0 h1.f0 f b (fun G' => fcT K G' x c' ∧ fO x G G') (fun G' h => (h.2 _ (by omega)).trans h3) (fun l hl => hM l hl G hs h1)) ?_
  rintro z G' h ⟨z9, e, rfl, G1, ⟨q1, q2⟩, e2⟩
  obtain ⟨a1, a2⟩ := lwOk.ou (hw0.cl q1 q2) e2
  exact ⟨_, e, rfl, a1, _, a2, (fun _ => by cases b <;> exact updL_0 _ _)⟩
theorem op_hasAlarm_q {K : jK} {x : Nat} {c : FcV} {v : MdV} (p0 : Int32) (b : Bool) (v' : MdV) (hR : RelV c v') (ht : v'.2.2.2.1 = nI 0) (hM : ∀ l : Launch, l.stackTraces = false → ∀ G hs, fcT K G x c → Ct l K yX5_hasAlarm cX5_hasAlarm 2 (some .boolean) 8 124 1 6 [.ref x, .int p0] G hs (pI (fun z G' _ => z = jb b ∧ G' = G)) jno) (hm : ∀ l : Launch, l.stackTraces = false → ∀ F hs, Ct l K yX6_hasAlarm cX6_hasAlarm 2 (some .boolean) 3 65 0 0 [.ref (x + 229), .int p0] (gB F (x + 229) (mdC K (x + 229) v)) hs (pI (fun z G' _ => z = jb b ∧ G' = gB F (x + 229) (mdC K (x + 229) v'))) jno) :
    OpI K x (fun l G hs post => CtW l K yL_hasAlarm cL_hasAlarm 4 (some .int) [(0, 16, 19, 24)] 9 145 1 6 [.ref x, .int p0, .ref (x + 233)] G hs post) (fun l G hs post => Ct l K yX6_hasAlarm cX6_hasAlarm 2 (some .boolean) 3 65 0 0 [.ref (x + 229), .int p0] G hs post jno) c v :=
  op_hasAlarm_ok p0 b c v' hR ht (fun l hl G hs hc => Ct.mono (hM l hl G hs hc) (fun z G' h q => by
    obtain ⟨z9, e, e1, rfl⟩ := q
    exact ⟨z9, e, e1, hc, fO.rf⟩) (fun _ _ h => h)) hm
theorem op_hasAlarm_x1 {K : jK} {x : Nat} {c : FcV} {v : MdV} (p0 : Int32) (b : Int32) (hR : RelV c v) (hM : ∀ l : Launch, l.stackTraces = false → ∀ G hs, fcT K G x c → Ct l K yX5_hasAlarm cX5_hasAlarm 2 (some .boolean) 8 124 1 6 [.ref x, .int p0] G hs (pI (fun _ _ _ => False)) (fun X G' => X = jIX ∧ G' = G)) (hm : ∀ l : Launch, l.stackTraces = false → ∀ F hs, Ct l K yX6_hasAlarm cX6_hasAlarm 2 (some .boolean) 3 65 0 0 [.ref (x + 229), .int p0] (gB F (x + 229) (mdC K (x + 229) v)) hs (pI (fun z G' _ => z = b ∧ G' = gB F (x + 229) (mdC K (x + 229) (v.1, v.2.1, v.2.2.1, nI 1, v.2.2.2.2.1, v.2.2.2.2.2)))) jno) :
    OpI K x (fun l G hs post => CtW l K yL_hasAlarm cL_hasAlarm 4 (some .int) [(0, 16, 19, 24)] 9 145 1 6 [.ref x, .int p0, .ref (x + 233)] G hs post) (fun l G hs post => Ct l K yX6_hasAlarm cX6_hasAlarm 2 (some .boolean) 3 65 0 0 [.ref (x + 229), .int p0] G hs post jno) c v := by
  refine ⟨1, b, c, (v.1, v.2.1, v.2.2.1, nI 1, v.2.2.2.2.1, v.2.2.2.2.2), by omega, hR, rfl, fun l hl G hs hw => ?_, fun l hl G hs hw => Ct.at hw.2.1 (hm l hl G hs)⟩
  have hw0 := hw
  obtain ⟨h1, h2, ⟨f, h3⟩, ⟨f2, h4⟩⟩ := hw
  refine CtW.mono (c_L_hasAlarm_x1 hl K G hs x (x + 233) _ p0 h1.f0 (fun l hl => hM l hl G hs h1)) ?_
  rintro z G' h ⟨z9, e, rfl, rfl⟩
  exact ⟨_, e, rfl, hw0, _, h3, fun q => absurd q (by omega)⟩
theorem op_alarms_ok {K : jK} {x : Nat} {c : FcV} {v : MdV} (p0 : Int32) (b : Int32) (c' : FcV) (v' : MdV) (hR : RelV c' v') (ht : v'.2.2.2.1 = nI 0) (hM : ∀ l : Launch, l.stackTraces = false → ∀ G hs, fcT K G x c → Ct l K yX5_alarms cX5_alarms 2 (some .int) 8 124 1 6 [.ref x, .int p0] G hs (pI (fun z G' _ => z = b ∧ fcT K G' x c' ∧ fO x G G')) jno) (hm : ∀ l : Launch, l.stackTraces = false → ∀ F hs, Ct l K yX6_alarms cX6_alarms 2 (some .int) 3 65 0 0 [.ref (x + 229), .int p0] (gB F (x + 229) (mdC K (x + 229) v)) hs (pI (fun z G' _ => z = b ∧ G' = gB F (x + 229) (mdC K (x + 229) v'))) jno) :
    OpI K x (fun l G hs post => CtW l K yL_alarms cL_alarms 4 (some .int) [(0, 9, 12, 24)] 9 145 1 6 [.ref x, .int p0, .ref (x + 233)] G hs post) (fun l G hs post => Ct l K yX6_alarms cX6_alarms 2 (some .int) 3 65 0 0 [.ref (x + 229), .int p0] G hs post jno) c v := by
  refine ⟨0, b, c', v', by omega, hR, ht, fun l hl G hs hw => ?_, fun l hl G hs hw => Ct.at hw.2.1 (hm l hl G hs)⟩
  have hw0 := hw
  obtain ⟨h1, h2, ⟨f, h3⟩, ⟨f2, h4⟩⟩ := hw
  refine CtW.mono (c_L_alarms_ok hl K G hs x (x + 233) _ p0 h1.f0 f b (fun G' => fcT K G' x c' ∧ fO x G G') (fun G' h => (h.2 _ (by omega)).trans h3) (fun l hl => hM l hl G hs h1)) ?_
  rintro z G' h ⟨z9, e, rfl, G1, ⟨q1, q2⟩, e2⟩
  obtain ⟨a1, a2⟩ := lwOk.ou (hw0.cl q1 q2) e2
  exact ⟨_, e, rfl, a1, _, a2, (fun _ => updL_0 _ _)⟩
theorem op_alarms_q {K : jK} {x : Nat} {c : FcV} {v : MdV} (p0 : Int32) (b : Int32) (v' : MdV) (hR : RelV c v') (ht : v'.2.2.2.1 = nI 0) (hM : ∀ l : Launch, l.stackTraces = false → ∀ G hs, fcT K G x c → Ct l K yX5_alarms cX5_alarms 2 (some .int) 8 124 1 6 [.ref x, .int p0] G hs (pI (fun z G' _ => z = b ∧ G' = G)) jno) (hm : ∀ l : Launch, l.stackTraces = false → ∀ F hs, Ct l K yX6_alarms cX6_alarms 2 (some .int) 3 65 0 0 [.ref (x + 229), .int p0] (gB F (x + 229) (mdC K (x + 229) v)) hs (pI (fun z G' _ => z = b ∧ G' = gB F (x + 229) (mdC K (x + 229) v'))) jno) :
    OpI K x (fun l G hs post => CtW l K yL_alarms cL_alarms 4 (some .int) [(0, 9, 12, 24)] 9 145 1 6 [.ref x, .int p0, .ref (x + 233)] G hs post) (fun l G hs post => Ct l K yX6_alarms cX6_alarms 2 (some .int) 3 65 0 0 [.ref (x + 229), .int p0] G hs post jno) c v :=
  op_alarms_ok p0 b c v' hR ht (fun l hl G hs hc => Ct.mono (hM l hl G hs hc) (fun z G' h q => by
    obtain ⟨z9, e, e1, rfl⟩ := q
    exact ⟨z9, e, e1, hc, fO.rf⟩) (fun _ _ h => h)) hm
theorem op_alarms_x1 {K : jK} {x : Nat} {c : FcV} {v : MdV} (p0 : Int32) (b : Int32) (hR : RelV c v) (hM : ∀ l : Launch, l.stackTraces = false → ∀ G hs, fcT K G x c → Ct l K yX5_alarms cX5_alarms 2 (some .int) 8 124 1 6 [.ref x, .int p0] G hs (pI (fun _ _ _ => False)) (fun X G' => X = jIX ∧ G' = G)) (hm : ∀ l : Launch, l.stackTraces = false → ∀ F hs, Ct l K yX6_alarms cX6_alarms 2 (some .int) 3 65 0 0 [.ref (x + 229), .int p0] (gB F (x + 229) (mdC K (x + 229) v)) hs (pI (fun z G' _ => z = b ∧ G' = gB F (x + 229) (mdC K (x + 229) (v.1, v.2.1, v.2.2.1, nI 1, v.2.2.2.2.1, v.2.2.2.2.2)))) jno) :
    OpI K x (fun l G hs post => CtW l K yL_alarms cL_alarms 4 (some .int) [(0, 9, 12, 24)] 9 145 1 6 [.ref x, .int p0, .ref (x + 233)] G hs post) (fun l G hs post => Ct l K yX6_alarms cX6_alarms 2 (some .int) 3 65 0 0 [.ref (x + 229), .int p0] G hs post jno) c v := by
  refine ⟨1, b, c, (v.1, v.2.1, v.2.2.1, nI 1, v.2.2.2.2.1, v.2.2.2.2.2), by omega, hR, rfl, fun l hl G hs hw => ?_, fun l hl G hs hw => Ct.at hw.2.1 (hm l hl G hs)⟩
  have hw0 := hw
  obtain ⟨h1, h2, ⟨f, h3⟩, ⟨f2, h4⟩⟩ := hw
  refine CtW.mono (c_L_alarms_x1 hl K G hs x (x + 233) _ p0 h1.f0 (fun l hl => hM l hl G hs h1)) ?_
  rintro z G' h ⟨z9, e, rfl, rfl⟩
  exact ⟨_, e, rfl, hw0, _, h3, fun q => absurd q (by omega)⟩
theorem op_undo_ok {K : jK} {x : Nat} {c : FcV} {v : MdV} (b : Int32) (c' : FcV) (v' : MdV) (hR : RelV c' v') (ht : v'.2.2.2.1 = nI 0) (hM : ∀ l : Launch, l.stackTraces = false → ∀ G hs, fcT K G x c → Ct l K yX5_undo cX5_undo 2 (some .int) 7 102 1 6 [.ref x] G hs (pI (fun z G' _ => z = b ∧ fcT K G' x c' ∧ fO x G G')) jno) (hm : ∀ l : Launch, l.stackTraces = false → ∀ F hs, Ct l K yX6_undo cX6_undo 2 (some .int) 0 0 0 0 [.ref (x + 229)] (gB F (x + 229) (mdC K (x + 229) v)) hs (pI (fun z G' _ => z = b ∧ G' = gB F (x + 229) (mdC K (x + 229) v'))) jno) :
    OpI K x (fun l G hs post => CtW l K yL_undo cL_undo 3 (some .int) [(0, 8, 11, 19)] 8 123 1 6 [.ref x, .ref (x + 233)] G hs post) (fun l G hs post => Ct l K yX6_undo cX6_undo 2 (some .int) 0 0 0 0 [.ref (x + 229)] G hs post jno) c v := by
  refine ⟨0, b, c', v', by omega, hR, ht, fun l hl G hs hw => ?_, fun l hl G hs hw => Ct.at hw.2.1 (hm l hl G hs)⟩
  have hw0 := hw
  obtain ⟨h1, h2, ⟨f, h3⟩, ⟨f2, h4⟩⟩ := hw
  refine CtW.mono (c_L_undo_ok hl K G hs x (x + 233) _ h1.f0 f b (fun G' => fcT K G' x c' ∧ fO x G G') (fun G' h => (h.2 _ (by omega)).trans h3) (fun l hl => hM l hl G hs h1)) ?_
  rintro z G' h ⟨z9, e, rfl, G1, ⟨q1, q2⟩, e2⟩
  obtain ⟨a1, a2⟩ := lwOk.ou (hw0.cl q1 q2) e2
  exact ⟨_, e, rfl, a1, _, a2, (fun _ => updL_0 _ _)⟩
theorem op_undo_q {K : jK} {x : Nat} {c : FcV} {v : MdV} (b : Int32) (v' : MdV) (hR : RelV c v') (ht : v'.2.2.2.1 = nI 0) (hM : ∀ l : Launch, l.stackTraces = false → ∀ G hs, fcT K G x c → Ct l K yX5_undo cX5_undo 2 (some .int) 7 102 1 6 [.ref x] G hs (pI (fun z G' _ => z = b ∧ G' = G)) jno) (hm : ∀ l : Launch, l.stackTraces = false → ∀ F hs, Ct l K yX6_undo cX6_undo 2 (some .int) 0 0 0 0 [.ref (x + 229)] (gB F (x + 229) (mdC K (x + 229) v)) hs (pI (fun z G' _ => z = b ∧ G' = gB F (x + 229) (mdC K (x + 229) v'))) jno) :
    OpI K x (fun l G hs post => CtW l K yL_undo cL_undo 3 (some .int) [(0, 8, 11, 19)] 8 123 1 6 [.ref x, .ref (x + 233)] G hs post) (fun l G hs post => Ct l K yX6_undo cX6_undo 2 (some .int) 0 0 0 0 [.ref (x + 229)] G hs post jno) c v :=
  op_undo_ok b c v' hR ht (fun l hl G hs hc => Ct.mono (hM l hl G hs hc) (fun z G' h q => by
    obtain ⟨z9, e, e1, rfl⟩ := q
    exact ⟨z9, e, e1, hc, fO.rf⟩) (fun _ _ h => h)) hm
theorem op_undo_x1 {K : jK} {x : Nat} {c : FcV} {v : MdV} (b : Int32) (hR : RelV c v) (hM : ∀ l : Launch, l.stackTraces = false → ∀ G hs, fcT K G x c → Ct l K yX5_undo cX5_undo 2 (some .int) 7 102 1 6 [.ref x] G hs (pI (fun _ _ _ => False)) (fun X G' => X = jIS ∧ G' = G)) (hm : ∀ l : Launch, l.stackTraces = false → ∀ F hs, Ct l K yX6_undo cX6_undo 2 (some .int) 0 0 0 0 [.ref (x + 229)] (gB F (x + 229) (mdC K (x + 229) v)) hs (pI (fun z G' _ => z = b ∧ G' = gB F (x + 229) (mdC K (x + 229) (v.1, v.2.1, v.2.2.1, nI 1, v.2.2.2.2.1, v.2.2.2.2.2)))) jno) :
    OpI K x (fun l G hs post => CtW l K yL_undo cL_undo 3 (some .int) [(0, 8, 11, 19)] 8 123 1 6 [.ref x, .ref (x + 233)] G hs post) (fun l G hs post => Ct l K yX6_undo cX6_undo 2 (some .int) 0 0 0 0 [.ref (x + 229)] G hs post jno) c v := by
  refine ⟨1, b, c, (v.1, v.2.1, v.2.2.1, nI 1, v.2.2.2.2.1, v.2.2.2.2.2), by omega, hR, rfl, fun l hl G hs hw => ?_, fun l hl G hs hw => Ct.at hw.2.1 (hm l hl G hs)⟩
  have hw0 := hw
  obtain ⟨h1, h2, ⟨f, h3⟩, ⟨f2, h4⟩⟩ := hw
  refine CtW.mono (c_L_undo_x1 hl K G hs x (x + 233) _ h1.f0 (fun l hl => hM l hl G hs h1)) ?_
  rintro z G' h ⟨z9, e, rfl, rfl⟩
  exact ⟨_, e, rfl, hw0, _, h3, fun q => absurd q (by omega)⟩
