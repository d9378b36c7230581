/-! ===== the class: a state's cells ===== -/
theorem gB_comm {F : GH} {a b : Nat} {es fs : List va_E} (h : a + es.length ≤ b ∨ b + fs.length ≤ a) : gB (gB F a es) b fs = gB (gB F b fs) a es := by
  funext x
  by_cases h1 : x < b ∨ b + fs.length ≤ x
  · rw [gB_out h1]
    by_cases h2 : x < a ∨ a + es.length ≤ x
    · rw [gB_out h2, gB_out h2, gB_out h1]
    · have h3 : x - a < es.length := by omega
      have e1 : es[x - a]? = some es[x - a] := List.getElem?_eq_getElem h3
      have e2 : ∀ G : GH, gB G a es x = some es[x - a] := fun G => by
        have := gB_at (F := G) (h0 := a) e1
        rwa [show a + (x - a) = x by omega] at this
      rw [e2, e2]
  · have h3 : x - b < fs.length := by omega
    have e1 : fs[x - b]? = some fs[x - b] := List.getElem?_eq_getElem h3
    have e2 : ∀ G : GH, gB G b fs x = some fs[x - b] := fun G => by
      have := gB_at (F := G) (h0 := b) e1
      rwa [show b + (x - b) = x by omega] at this
    rw [e2, gB_out (by omega), e2]
/-- cells i .. of a block replaced -/
theorem gB_sub {F : GH} {b i : Nat} {L es L' : List va_E} (hl : L'.length = L.length) (h : i + es.length ≤ L.length) (h1 : ∀ k, k < es.length → L'[i + k]? = es[k]?) (h2 : ∀ k, k < i ∨ i + es.length ≤ k → L'[k]? = L[k]?) : gB (gB F b L) (b + i) es = gB F b L' := by
  funext x
  by_cases q1 : x < b ∨ b + L.length ≤ x
  · rw [gB_out (by omega), gB_out q1, gB_out (by rw [hl]; exact q1)]
  · have q3 : x - b < L'.length := by omega
    have e1 : L'[x - b]? = some L'[x - b] := List.getElem?_eq_getElem q3
    have e2 := gB_at (F := F) (h0 := b) e1
    rw [show b + (x - b) = x by omega] at e2
    rw [e2]
    by_cases q2 : x < b + i ∨ b + i + es.length ≤ x
    · rw [gB_out q2]
      have e3 := gB_at (F := F) (h0 := b) (es := L) (i := x - b) (e := L'[x - b]) (by rw [← h2 (x - b) (by omega)]; exact e1)
      rwa [show b + (x - b) = x by omega] at e3
    · have e3 := gB_at (F := gB F b L) (h0 := b + i) (es := es) (i := x - (b + i)) (e := L'[x - b]) (by rw [← h1 _ (by omega), show i + (x - (b + i)) = x - b by omega]; exact e1)
      rwa [show b + i + (x - (b + i)) = x by omega] at e3
abbrev PaV : Type := Int32 × Int32 × Int32 × Int32 × (Nat → Int32) × (Nat → Int32) × Int32 × Bool × Int32 × Int32
abbrev paS (K : jK) (h : Nat) (v : PaV) : List va_E := paC K h v.1 v.2.1 v.2.2.1 v.2.2.2.1 v.2.2.2.2.1 v.2.2.2.2.2.1 v.2.2.2.2.2.2.1 v.2.2.2.2.2.2.2.1 v.2.2.2.2.2.2.2.2.1 v.2.2.2.2.2.2.2.2.2
/-- n parameters side by side -/
def paG (K : jK) (F : GH) (a n : Nat) (P : Nat → PaV) : GH := fun x => if a ≤ x ∧ x < a + 3 * n then (paS K (a + 3 * ((x - a) / 3)) (P ((x - a) / 3)))[(x - a) % 3]? else F x
theorem paG_at {K : jK} {F : GH} {a n : Nat} {P : Nat → PaV} {j i : Nat} (hj : j < n) (hi : i < 3) : paG K F a n P (a + 3 * j + i) = (paS K (a + 3 * j) (P j))[i]? := by
  unfold paG
  rw [if_pos (by omega), show (a + 3 * j + i - a) / 3 = j by omega, show (a + 3 * j + i - a) % 3 = i by omega]
theorem paG_out {K : jK} {F : GH} {a n : Nat} {P : Nat → PaV} {x : Nat} (h : x < a ∨ a + 3 * n ≤ x) : paG K F a n P x = F x := by
  unfold paG
  rw [if_neg (by omega)]
theorem paG_sub {K : jK} {F : GH} {a n : Nat} {P : Nat → PaV} {j : Nat} {v : PaV} (hj : j < n) : gB (paG K F a n P) (a + 3 * j) (paS K (a + 3 * j) v) = paG K F a n (va_up P j v) := by
  funext x
  by_cases h1 : x < a + 3 * j ∨ a + 3 * j + 3 ≤ x
  · rw [gB_out (by simp only [List.length_cons, List.length_nil]; omega)]
    unfold paG
    by_cases h2 : a ≤ x ∧ x < a + 3 * n
    · rw [if_pos h2, if_pos h2, va_up_ne _ _ (by omega)]
    · rw [if_neg h2, if_neg h2]
  · obtain ⟨i, hi, rfl⟩ : ∃ i, i < 3 ∧ x = a + 3 * j + i := ⟨x - (a + 3 * j), by omega, by omega⟩
    rw [paG_at hj hi, va_up_self]
    have e1 : (paS K (a + 3 * j) v)[i]? = some (paS K (a + 3 * j) v)[i] := List.getElem?_eq_getElem hi
    rw [e1]
    exact gB_at e1
/-- the row of the parameters -/
def pFn (b : Nat) : Nat → Option Nat := fun j => if j < 12 then some (b + 9 + 3 * j) else none
theorem pFn_rf {b j : Nat} (h : j < 12) : va_rf (pFn b j) = .ref (b + 9 + 3 * j) := by
  unfold pFn
  rw [if_pos h]
  rfl
abbrev stL (K : jK) (b w m : Nat) (pl : Bool) (tk : Nat) (ow : Nat → Int32) (pc nx : Nat) (bits : Nat → Int32) (nb : Nat) (rc : RcV) (md : Nat) : List va_E :=
  [.inr (4, [.ref (b + 1), .ref (b + 3), .int (nI pc), .int (nI nx), .ref (b + 4), .ref (b + 6), .int (nI md)]), .inr (1, [.int (nI w), .int (nI m), .int (jb pl), .int (nI tk), .ref (b + 1 + 1)]), iA K 128 ow, pA K 12 (pFn b), .inr (0, [.ref (b + 4 + 1), .int (nI nb)]), iA K 2048 bits, .inr (3, [.int rc.1, .int rc.2.1, .ref (b + 6 + 1), .ref (b + 6 + 2), .int (nI rc.2.2.2.2.1), .int rc.2.2.2.2.2]), iA K 6 rc.2.2.1, iA K 16 rc.2.2.2.1]
/-- a state at b: 45 cells -/
def stG (K : jK) (F : GH) (b w m : Nat) (pl : Bool) (tk : Nat) (ow : Nat → Int32) (P : Nat → PaV) (pc nx : Nat) (bits : Nat → Int32) (nb : Nat) (rc : RcV) (md : Nat) : GH := gB (paG K F (b + 9) 12 P) b (stL K b w m pl tk ow pc nx bits nb rc md)
section SG
variable {K : jK} {F : GH} {b w m : Nat} {pl : Bool} {tk : Nat} {ow : Nat → Int32} {P : Nat → PaV} {pc nx : Nat} {bits : Nat → Int32} {nb : Nat} {rc : RcV} {md : Nat}
theorem st_0 : stG K F b w m pl tk ow P pc nx bits nb rc md b = some (.inr (4, [.ref (b + 1), .ref (b + 3), .int (nI pc), .int (nI nx), .ref (b + 4), .ref (b + 6), .int (nI md)])) := gB_0
theorem st_1 : stG K F b w m pl tk ow P pc nx bits nb rc md (b + 1) = some (.inr (1, [.int (nI w), .int (nI m), .int (jb pl), .int (nI tk), .ref (b + 1 + 1)])) := gB_1
theorem st_2 : stG K F b w m pl tk ow P pc nx bits nb rc md (b + 1 + 1) = some (iA K 128 ow) := gB_at (i := 2) rfl
theorem st_3 : stG K F b w m pl tk ow P pc nx bits nb rc md (b + 3) = some (pA K 12 (pFn b)) := gB_3
theorem st_4 : stG K F b w m pl tk ow P pc nx bits nb rc md (b + 4) = some (.inr (0, [.ref (b + 4 + 1), .int (nI nb)])) := gB_at (i := 4) rfl
theorem st_5 : stG K F b w m pl tk ow P pc nx bits nb rc md (b + 4 + 1) = some (iA K 2048 bits) := gB_at (i := 5) rfl
theorem st_6 : stG K F b w m pl tk ow P pc nx bits nb rc md (b + 6) = some (.inr (3, [.int rc.1, .int rc.2.1, .ref (b + 6 + 1), .ref (b + 6 + 2), .int (nI rc.2.2.2.2.1), .int rc.2.2.2.2.2])) := gB_at (i := 6) rfl
theorem st_7 : stG K F b w m pl tk ow P pc nx bits nb rc md (b + 6 + 1) = some (iA K 6 rc.2.2.1) := gB_at (i := 7) rfl
theorem st_8 : stG K F b w m pl tk ow P pc nx bits nb rc md (b + 6 + 2) = some (iA K 16 rc.2.2.2.1) := gB_at (i := 8) rfl
theorem st_p {j i : Nat} (hj : j < 12) (hi : i < 3) : stG K F b w m pl tk ow P pc nx bits nb rc md (b + 9 + 3 * j + i) = (paS K (b + 9 + 3 * j) (P j))[i]? := by
  unfold stG
  rw [gB_out (by simp only [List.length_cons, List.length_nil]; omega)]
  exact paG_at hj hi
theorem st_p0 {j : Nat} (hj : j < 12) : stG K F b w m pl tk ow P pc nx bits nb rc md (b + 9 + 3 * j) = some (.inr (2, [.int (P j).1, .int (P j).2.1, .int (P j).2.2.1, .int (P j).2.2.2.1, .ref (b + 9 + 3 * j + 1), .ref (b + 9 + 3 * j + 2), .int (P j).2.2.2.2.2.2.1, .int (jb (P j).2.2.2.2.2.2.2.1), .int (P j).2.2.2.2.2.2.2.2.1, .int (P j).2.2.2.2.2.2.2.2.2])) := st_p (i := 0) hj (by omega)
theorem st_p1 {j : Nat} (hj : j < 12) : stG K F b w m pl tk ow P pc nx bits nb rc md (b + 9 + 3 * j + 1) = some (iA K 3 (P j).2.2.2.2.1) := st_p (i := 1) hj (by omega)
theorem st_p2 {j : Nat} (hj : j < 12) : stG K F b w m pl tk ow P pc nx bits nb rc md (b + 9 + 3 * j + 2) = some (iA K 3 (P j).2.2.2.2.2.1) := st_p (i := 2) hj (by omega)
theorem st_out {x : Nat} (h : x < b ∨ b + 45 ≤ x) : stG K F b w m pl tk ow P pc nx bits nb rc md x = F x := by
  unfold stG
  rw [gB_out (by simp only [List.length_cons, List.length_nil]; omega), paG_out (by omega)]
/-! its parts as blocks of their own -/
theorem st_ly : gB (stG K F b w m pl tk ow P pc nx bits nb rc md) (b + 1) (lyC K (b + 1) w m pl tk ow) = stG K F b w m pl tk ow P pc nx bits nb rc md := gB_id (fun i e h => by
  match i, h with
  | 0, h => cases h; exact st_1
  | 1, h => cases h; exact st_2)
theorem st_ch : gB (stG K F b w m pl tk ow P pc nx bits nb rc md) (b + 4) (chC K (b + 4) bits nb) = stG K F b w m pl tk ow P pc nx bits nb rc md := gB_id (fun i e h => by
  match i, h with
  | 0, h => cases h; exact st_4
  | 1, h => cases h; exact st_5)
theorem st_rc : gB (stG K F b w m pl tk ow P pc nx bits nb rc md) (b + 6) (rcS K (b + 6) rc) = stG K F b w m pl tk ow P pc nx bits nb rc md := gB_id (fun i e h => by
  match i, h with
  | 0, h => cases h; exact st_6
  | 1, h => cases h; exact st_7
  | 2, h => cases h; exact st_8)
theorem st_pa {j : Nat} (hj : j < 12) : gB (stG K F b w m pl tk ow P pc nx bits nb rc md) (b + 9 + 3 * j) (paS K (b + 9 + 3 * j) (P j)) = stG K F b w m pl tk ow P pc nx bits nb rc md := gB_id (fun i e h => by
  match i, h with
  | 0, h => cases h; exact st_p0 hj
  | 1, h => cases h; exact st_p1 hj
  | 2, h => cases h; exact st_p2 hj)
theorem st_ly' (w2 m2 : Nat) (pl2 : Bool) (tk2 : Nat) (ow2 : Nat → Int32) : gB (stG K F b w m pl tk ow P pc nx bits nb rc md) (b + 1) (lyC K (b + 1) w2 m2 pl2 tk2 ow2) = stG K F b w2 m2 pl2 tk2 ow2 P pc nx bits nb rc md := by
  unfold stG
  refine gB_sub rfl (by simp) (fun k hk => ?_) (fun k hk => ?_)
  · match k, hk with
    | 0, _ => rfl
    | 1, _ => rfl
  · match k, hk with
    | 0, _ => rfl
    | 1, h => simp at h
    | 2, h => simp at h
    | k + 3, _ => rfl
theorem st_ch' (bits2 : Nat → Int32) (nb2 : Nat) : gB (stG K F b w m pl tk ow P pc nx bits nb rc md) (b + 4) (chC K (b + 4) bits2 nb2) = stG K F b w m pl tk ow P pc nx bits2 nb2 rc md := by
  unfold stG
  refine gB_sub rfl (by simp) (fun k hk => ?_) (fun k hk => ?_)
  · match k, hk with
    | 0, _ => rfl
    | 1, _ => rfl
  · match k, hk with
    | 0, _ => rfl
    | 1, _ => rfl
    | 2, _ => rfl
    | 3, _ => rfl
    | 4, h => simp at h
    | 5, h => simp at h
    | k + 6, _ => rfl
theorem st_rc' (rc2 : RcV) : gB (stG K F b w m pl tk ow P pc nx bits nb rc md) (b + 6) (rcS K (b + 6) rc2) = stG K F b w m pl tk ow P pc nx bits nb rc2 md := by
  unfold stG
  refine gB_sub rfl (by simp) (fun k hk => ?_) (fun k hk => ?_)
  · match k, hk with
    | 0, _ => rfl
    | 1, _ => rfl
    | 2, _ => rfl
  · match k, hk with
    | 0, _ => rfl
    | 1, _ => rfl
    | 2, _ => rfl
    | 3, _ => rfl
    | 4, _ => rfl
    | 5, _ => rfl
    | 6, h => simp at h
    | 7, h => simp at h
    | 8, h => simp at h
    | k + 9, _ => rfl
theorem st_pa' {j : Nat} (hj : j < 12) (v : PaV) : gB (stG K F b w m pl tk ow P pc nx bits nb rc md) (b + 9 + 3 * j) (paS K (b + 9 + 3 * j) v) = stG K F b w m pl tk ow (va_up P j v) pc nx bits nb rc md := by
  unfold stG
  rw [gB_comm (by simp only [List.length_cons, List.length_nil]; omega), paG_sub hj]
theorem st_set (pc2 nx2 md2 : Nat) : gset (stG K F b w m pl tk ow P pc nx bits nb rc md) b (.inr (4, [.ref (b + 1), .ref (b + 3), .int (nI pc2), .int (nI nx2), .ref (b + 4), .ref (b + 6), .int (nI md2)])) = stG K F b w m pl tk ow P pc2 nx2 bits nb rc md2 := by
  unfold stG
  exact gB_set (i := 0) (by simp)
theorem st_lf (w2 m2 : Nat) (pl2 : Bool) (tk2 : Nat) : gset (stG K F b w m pl tk ow P pc nx bits nb rc md) (b + 1) (.inr (1, [.int (nI w2), .int (nI m2), .int (jb pl2), .int (nI tk2), .ref (b + 1 + 1)])) = stG K F b w2 m2 pl2 tk2 ow P pc nx bits nb rc md := by
  unfold stG
  exact gB_set (i := 1) (by simp)
theorem st_cs (nb2 : Nat) : gset (stG K F b w m pl tk ow P pc nx bits nb rc md) (b + 4) (.inr (0, [.ref (b + 4 + 1), .int (nI nb2)])) = stG K F b w m pl tk ow P pc nx bits nb2 rc md := by
  unfold stG
  exact gB_set (i := 4) (by simp)
theorem st_cn (cn2 : Nat → Int32) : gset (stG K F b w m pl tk ow P pc nx bits nb rc md) (b + 6 + 1) (iA K 6 cn2) = stG K F b w m pl tk ow P pc nx bits nb (rc.1, rc.2.1, cn2, rc.2.2.2.1, rc.2.2.2.2.1, rc.2.2.2.2.2) md := by
  unfold stG
  exact gB_set (i := 7) (by simp)
theorem st_pb {j : Nat} (hj : j < 12) {i : Nat} (hi : i < 3) (v : PaV) {e : va_E} (hv : (paS K (b + 9 + 3 * j) (P j)).set i e = paS K (b + 9 + 3 * j) v) : gset (stG K F b w m pl tk ow P pc nx bits nb rc md) (b + 9 + 3 * j + i) e = stG K F b w m pl tk ow (va_up P j v) pc nx bits nb rc md := by
  rw [← st_pa' hj v, ← hv, ← gB_set (by simpa using hi), st_pa hj]
end SG
/-- the row of the parameters, read -/
theorem j_par {K : jK} {A : Nat → Prop} {E : jE} {own : String} {cc : ByteArray} {nL fr lo9 mc ms : Nat} {G : GH} {hs cells slots pc : Nat} {lo : List (Option Value)} {rest : List Value} (hE : jC K A E own cc nL fr lo9 mc ms) {a b j : Nat} {x : Int32} (hG : G a = some (pA K 12 (pFn b))) (hx9 : x = nI j) (hj : j < 12) (hd : decode cc pc = .ok (.aaload, 1)) (kk : J K A E nL G hs cells slots (pc + 1) lo (.ref (b + 9 + 3 * j) :: rest)) : J K A E nL G hs cells slots pc lo (.int x :: .ref a :: rest) := by
  refine j_aldP hE hG hx9 hj (by decide) hd ?_
  rw [pFn_rf hj]
  exact kk
theorem jeq {K : jK} {A : Nat → Prop} {E : jE} {nL : Nat} {G G' : GH} {hs cells slots pc : Nat} {lo : List (Option Value)} {st : List Value} (e : G = G') (k : J K A E nL G' hs cells slots pc lo st) : J K A E nL G hs cells slots pc lo st := e ▸ k
theorem Ct.at {l : Launch} {K : jK} {y : MethodName} {cc : ByteArray} {nL : Nat} {ret : Option FieldType} {fr lo mc ms : Nat} {args : List Value} {G G' : GH} {hs : Nat} {post : Option Value → GH → Nat → Prop} {px : String → GH → Prop} (e : G' = G) (h : Ct l K y cc nL ret fr lo mc ms args G' hs post px) : Ct l K y cc nL ret fr lo mc ms args G hs post px := e ▸ h
