/-! ===== a ghost heap: which cell lies at which address; the judgement J over it ===== -/
abbrev GH : Type := Nat → Option va_E
abbrev jK : Type := va_G × (Nat → ClassId)
def gset (G : GH) (a : Nat) (e : va_E) : GH := fun b => if b = a then some e else G b
theorem gset_s (G : GH) (a : Nat) (e : va_E) : gset G a e a = some e := by simp [gset]
theorem gset_n {G : GH} {a b : Nat} {e : va_E} (h : b ≠ a) : gset G a e b = G b := by simp [gset, h]
def gA (G : GH) (hs : Nat) : Nat → Prop := fun q => G q ≠ none ∨ hs ≤ q
def gP (D : va_G) (A : Nat → Prop) (G : GH) (H : Heap) : Prop :=
  ∃ (L : List Nat) (f : Nat → va_E), (∀ a, G a = if a ∈ L then some (f a) else none) ∧ va_P D vwCl (va_pl L f) H ∧ va_D A (va_pl L f)
theorem gP.place {D : va_G} {G : GH} {H : Heap} {L : List Nat} {f : Nat → va_E} (hG : ∀ a, G a = if a ∈ L then some (f a) else none) {a : Nat} {e : va_E} (h : G a = some e) : a ∈ L ∧ f a = e := by
  rw [hG a] at h
  by_cases hm : a ∈ L
  · rw [if_pos hm] at h
    exact ⟨hm, Option.some.inj h⟩
  · rw [if_neg hm] at h
    cases h
theorem gP.at_ {D : va_G} {A : Nat → Prop} {G : GH} {H : Heap} (h : gP D A G H) {a : Nat} {e : va_E} (hg : G a = some e) : va_at D vwCl (a, e) H := by
  obtain ⟨L, f, hG, hP, hD⟩ := h
  obtain ⟨hm, he⟩ := gP.place (D := D) (H := H) hG hg
  obtain ⟨k, hk⟩ := va_pl_get (X := []) (f := f) hm
  rw [he] at hk
  exact hP k _ hk
theorem gP.inA {D : va_G} {A : Nat → Prop} {G : GH} {H : Heap} (h : gP D A G H) {a : Nat} {e : va_E} (hg : G a = some e) : A a := by
  obtain ⟨L, f, hG, hP, hD⟩ := h
  obtain ⟨hm, he⟩ := gP.place (D := D) (H := H) hG hg
  obtain ⟨k, hk⟩ := va_pl_get (X := []) (f := f) hm
  exact hD.2 k _ hk
theorem gP.lt {D : va_G} {A : Nat → Prop} {G : GH} {H : Heap} (h : gP D A G H) {a : Nat} {e : va_E} (hg : G a = some e) : a < H.size := (h.at_ hg).lt
theorem va_P1 {D : va_G} {cl : List vw_C} {q : Nat × va_E} {H : Heap} (h : va_at D cl q H) : va_P D cl [q] H := by
  intro k z hz
  have h1 : k < 1 := (List.getElem?_eq_some_iff.mp hz).1
  have h0 : k = 0 := by omega
  subst h0
  cases hz
  exact h
theorem gP.p1 {D : va_G} {A : Nat → Prop} {G : GH} {H : Heap} (h : gP D A G H) {a : Nat} {e : va_E} (hg : G a = some e) : va_P D vwCl [(a, e)] H := va_P1 (h.at_ hg)
/-- a write to one cell, by the kit's row over the whole world -/
theorem gP.write {D : va_G} {A : Nat → Prop} {G : GH} {H : Heap} (h : gP D A G H) {a : Nat} {e e' : va_E} (hg : G a = some e) :
    ∃ (ws : va_W) (k : Nat), va_P D vwCl ws H ∧ va_D A ws ∧ ws[k]? = some (a, e) ∧ ∀ H1, va_P D vwCl (ws.set k (a, e')) H1 → va_D A (ws.set k (a, e')) → gP D A (gset G a e') H1 := by
  obtain ⟨L, f, hG, hP, hD⟩ := h
  obtain ⟨hm, he⟩ := gP.place (D := D) (H := H) hG hg
  obtain ⟨k, hk⟩ := va_pl_get (X := []) (f := f) hm
  refine ⟨va_pl L f, k, hP, hD, by rw [← he]; exact hk, fun H1 hP1 hD1 => ?_⟩
  have e1 : (va_pl L f).set k (a, e') = va_pl L (va_up f a e') := va_pl_set (X := []) hD hm hk
  rw [e1] at hP1 hD1
  refine ⟨L, va_up f a e', fun b => ?_, hP1, hD1⟩
  by_cases hb : b = a
  · subst hb
    rw [gset_s, if_pos hm, va_up_self]
  · rw [gset_n hb, hG b, va_up_ne f e' hb]
theorem gP.push {D : va_G} {A : Nat → Prop} {G : GH} {H H1 : Heap} (h : gP D A G H) {a : Nat} {e : va_E} (ha : a = H.size) (hA : A a) (he : va_at D vwCl (a, e) H1) (ho : ∀ q, q < H.size → H1[q]? = H[q]?) : gP D A (gset G a e) H1 := by
  obtain ⟨L, f, hG, hP, hD⟩ := h
  have hn : a ∉ L := fun hm => by
    obtain ⟨k, hk⟩ := va_pl_get (X := []) (f := f) hm
    have := (hP k _ hk).lt
    omega
  refine ⟨L ++ [a], va_up f a e, fun b => ?_, ?_, ?_⟩
  · by_cases hb : b = a
    · subst hb
      rw [gset_s, va_up_self, if_pos (List.mem_append_right _ (List.mem_singleton.mpr rfl))]
    · rw [gset_n hb, hG b, va_up_ne f e hb]
      have : (b ∈ L ++ [a]) = (b ∈ L) := by simp [hb]
      simp only [this]
  · rw [← va_pl_push hn]
    exact (hP.kept (fun k q hk => ho q.1 (hP k q hk).lt)).app (va_P1 he)
  · rw [← va_pl_push hn]
    exact hD.push hP ha hA
theorem gP.weaken {D : va_G} {A B : Nat → Prop} {G : GH} {H : Heap} (h : gP D A G H) (hB : ∀ a, G a ≠ none → B a) : gP D B G H := by
  obtain ⟨L, f, hG, hP, hD⟩ := h
  refine ⟨L, f, hG, hP, hD.weaken (fun k q hk _ => hB q.1 ?_)⟩
  obtain ⟨b, hb, rfl⟩ := List.mem_map.mp (List.mem_of_getElem? hk)
  rw [hG b, if_pos hb]
  exact fun h => by cases h
theorem gP.kept {D : va_G} {A : Nat → Prop} {G : GH} {H H1 : Heap} (h : gP D A G H) (ho : ∀ q, q < H.size → H1[q]? = H[q]?) : gP D A G H1 := by
  obtain ⟨L, f, hG, hP, hD⟩ := h
  exact ⟨L, f, hG, hP.kept (fun k q hk => ho q.1 (hP k q hk).lt), hD⟩
/-! locals by their slots -/
def jla : Nat → List (Option Value) → List (Nat × Value)
  | _, [] => []
  | k, none :: t => jla (k + 1) t
  | k, some v :: t => (k, v) :: jla (k + 1) t
theorem jla_mem : ∀ (lo : List (Option Value)) (k j : Nat) (v : Value), (j, v) ∈ jla k lo ↔ ∃ i, j = k + i ∧ lo[i]? = some (some v)
  | [], k, j, v => by simp [jla]
  | none :: t, k, j, v => by
    rw [jla, jla_mem t (k + 1) j v]
    constructor
    · rintro ⟨i, h1, h2⟩
      exact ⟨i + 1, by omega, by simpa using h2⟩
    · rintro ⟨i, h1, h2⟩
      cases i with
      | zero => simp at h2
      | succ i => exact ⟨i, by omega, by simpa using h2⟩
  | some w :: t, k, j, v => by
    rw [jla, List.mem_cons, jla_mem t (k + 1) j v]
    constructor
    · rintro (h | ⟨i, h1, h2⟩)
      · cases h
        exact ⟨0, rfl, rfl⟩
      · exact ⟨i + 1, by omega, by simpa using h2⟩
    · rintro ⟨i, h1, h2⟩
      cases i with
      | zero =>
        simp at h2
        left
        rw [h1, ← h2]
        rfl
      | succ i => exact Or.inr ⟨i, by omega, by simpa using h2⟩
def jlv (ls : Array Slot) (nL : Nat) (lo : List (Option Value)) : Prop := lv_has ls nL (jla 0 lo)
theorem jlv.at_ {ls : Array Slot} {nL : Nat} {lo : List (Option Value)} (h : jlv ls nL lo) {i : Nat} {v : Value} (hi : lo[i]? = some (some v)) : ls[i]? = some (.val v) := h.2.2 (i, v) ((jla_mem lo 0 i v).mpr ⟨i, by omega, hi⟩)
theorem jlv.place {ls : Array Slot} {nL : Nat} {lo : List (Option Value)} (_ : jlv ls nL lo) {i : Nat} {v : Value} (hi : lo[i]? = some (some v)) : ∃ k : Nat, (jla 0 lo)[k]? = some (i, v) := List.getElem?_of_mem ((jla_mem lo 0 i v).mpr ⟨i, by omega, hi⟩)
theorem jlv.sub {ls : Array Slot} {nL : Nat} {l : List (Nat × Value)} {lo : List (Option Value)} (h : lv_has ls nL l) (hs : ∀ (i : Nat) (v : Value), lo[i]? = some (some v) → (i, v) ∈ l) : jlv ls nL lo :=
  ⟨h.1, h.2.1, fun q hq => by
    obtain ⟨i, h1, h2⟩ := (jla_mem lo 0 q.1 q.2).mp hq
    have h3 : q.1 = i := by omega
    have := hs i q.2 h2
    rw [← h3] at this
    exact h.2.2 q this⟩
theorem jlv.less {ls : Array Slot} {nL : Nat} {l lo : List (Option Value)} (h : jlv ls nL l) (hs : ∀ (i : Nat) (v : Value), lo[i]? = some (some v) → l[i]? = some (some v)) : jlv ls nL lo :=
  jlv.sub h (fun i v hi => (jla_mem l 0 i v).mpr ⟨i, by omega, hs i v hi⟩)
theorem jlv.store1 {ls : Array Slot} {nL i : Nat} {v : Value} {lo : List (Option Value)} (h : lv_has ls nL ((i, v) :: (jla 0 lo).filter (fun q => !(q.1 == i) && !(q.1 + 1 == i && q.2.category == 2)))) (hc : ∀ (w : Value) (j : Nat), j + 1 = i → lo[j]? = some (some w) → w.category = 1) : jlv ls nL (lo.set i (some v)) := by
  refine jlv.sub h (fun j w hj => ?_)
  by_cases hji : j = i
  · subst hji
    rw [List.getElem?_set_self'] at hj
    cases hl : lo[j]? with
    | none => rw [hl] at hj; cases hj
    | some z =>
      rw [hl] at hj
      cases hj
      exact List.mem_cons_self
  · rw [List.getElem?_set_ne (Ne.symm hji)] at hj
    refine List.mem_cons_of_mem _ (List.mem_filter.mpr ⟨(jla_mem lo 0 j w).mpr ⟨j, by omega, hj⟩, ?_⟩)
    have h1 : (j == i) = false := by simp [hji]
    by_cases h2 : j + 1 = i
    · simp [h1, hc w j h2 hj]
    · simp [h1, h2]
theorem jlv.store2 {ls : Array Slot} {nL i : Nat} {v : Value} {lo : List (Option Value)} (h : lv_has ls nL ((i, v) :: (jla 0 lo).filter (fun q => !(q.1 == i) && (!(q.1 == i + 1) && !(q.1 + 1 == i && q.2.category == 2))))) (hc : ∀ (w : Value) (j : Nat), j + 1 = i → lo[j]? = some (some w) → w.category = 1) : jlv ls nL ((lo.set i (some v)).set (i + 1) none) := by
  refine jlv.sub h (fun j w hj => ?_)
  by_cases hj1 : j = i + 1
  · subst hj1
    rw [List.getElem?_set_self'] at hj
    cases hl : (lo.set i (some v))[i + 1]? with
    | none => rw [hl] at hj; cases hj
    | some z => rw [hl] at hj; cases hj
  · rw [List.getElem?_set_ne (Ne.symm hj1)] at hj
    by_cases hji : j = i
    · subst hji
      rw [List.getElem?_set_self'] at hj
      cases hl : lo[j]? with
      | none => rw [hl] at hj; cases hj
      | some z =>
        rw [hl] at hj
        cases hj
        exact List.mem_cons_self
    · rw [List.getElem?_set_ne (Ne.symm hji)] at hj
      refine List.mem_cons_of_mem _ (List.mem_filter.mpr ⟨(jla_mem lo 0 j w).mpr ⟨j, by omega, hj⟩, ?_⟩)
      have h1 : (j == i) = false := by simp [hji]
      have h3 : (j == i + 1) = false := by simp [hj1]
      by_cases h2 : j + 1 = i
      · simp [h1, h3, hc w j h2 hj]
      · simp [h1, h3, h2]
/-- the slots of a method's arguments -/
def jsl : List Value → List (Option Value)
  | [] => []
  | v :: t => if v.category = 2 then some v :: none :: jsl t else some v :: jsl t
theorem jsl_args : ∀ (vs : List Value) (k i : Nat) (v : Value), (jsl vs)[i]? = some (some v) → (k + i, v) ∈ lv_args k vs
  | [], k, i, v, h => by simp [jsl] at h
  | w :: t, k, i, v, h => by
    rw [lv_args]
    unfold jsl at h
    by_cases hc : w.category = 2
    · rw [if_pos hc] at h ⊢
      cases i with
      | zero =>
        simp at h
        rw [h]
        exact List.mem_cons_self
      | succ i =>
        cases i with
        | zero => simp at h
        | succ i =>
          have := jsl_args t (k + 2) i v (by simpa using h)
          rw [show k + (i + 1 + 1) = k + 2 + i by omega]
          exact List.mem_cons_of_mem _ this
    · rw [if_neg hc] at h ⊢
      cases i with
      | zero =>
        simp at h
        rw [h]
        exact List.mem_cons_self
      | succ i =>
        have := jsl_args t (k + 1) i v (by simpa using h)
        rw [show k + (i + 1) = k + 1 + i by omega]
        exact List.mem_cons_of_mem _ this
