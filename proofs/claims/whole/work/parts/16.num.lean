/-! ===== numbers: ranges of an Int32 by a natural number ===== -/
theorem rg_t {a j b : Nat} (h1 : a ≤ j) (h2 : j ≤ b) (hb : b < 2 ^ 31) : nI a ≤ nI j ∧ nI j ≤ nI b := ⟨nI_le h1 (by omega), nI_le h2 hb⟩
theorem rg_f {a b : Nat} {p : Int32} (h : ∀ j, a ≤ j → j ≤ b → p ≠ nI j) (ha : a < 2 ^ 31) (hb : b < 2 ^ 31) : ¬ (nI a ≤ p ∧ p ≤ nI b) := by
  rintro ⟨h1, h2⟩
  have h0 : ¬ p < 0 := fun q => by
    have q1 := Int32.lt_iff_toInt_lt.mp q
    have q2 := Int32.le_iff_toInt_le.mp h1
    rw [nI_toInt ha] at q2
    rw [Int32.toInt_zero] at q1
    omega
  obtain ⟨j, hj, rfl⟩ := nI_of h0
  exact h j ((nI_leI ha hj).mp h1) ((nI_leI hj hb).mp h2) rfl
theorem ix_t {j n : Nat} (h : j < n) (hn : n < 2 ^ 30) : nI 0 ≤ nI j ∧ nI j ≤ nI n - nI 1 := by
  rw [pk_sub (by omega)]
  exact rg_t (Nat.zero_le _) (by omega) (by omega)
theorem ix_f {n : Nat} {p : Int32} (h : ∀ j, j < n → p ≠ nI j) (hn : n < 2 ^ 30) : ¬ (nI 0 ≤ p ∧ p ≤ nI n - nI 1) := by
  rcases Nat.eq_zero_or_pos n with h0 | h0
  · subst h0
    rintro ⟨h1, h2⟩
    have q1 := Int32.le_iff_toInt_le.mp h1
    have q2 := Int32.le_iff_toInt_le.mp h2
    rw [show (nI 0).toInt = 0 from rfl] at q1
    rw [show (nI 0 - nI 1).toInt = -1 from by decide] at q2
    omega
  · rw [pk_sub (by omega)]
    exact rg_f (fun j _ h2 => h j (by omega)) (by omega) (by omega)
theorem nI_inj {a b : Nat} (h : nI a = nI b) (ha : a < 2 ^ 31) (hb : b < 2 ^ 31) : a = b := (nI_eq ha hb).mp h
theorem nI_m1 {a : Nat} (ha : a < 2 ^ 31) : nI a ≠ -1 := fun h => by
  have h1 := congrArg Int32.toInt h
  rw [nI_toInt ha] at h1
  have h2 : (-1 : Int32).toInt = -1 := by decide
  omega
theorem upd_s (f : Nat → Int32) (k : Nat) (x : Int32) : upd f k x k = x := by simp [upd]
theorem upd_n {f : Nat → Int32} {k j : Nat} {x : Int32} (h : j ≠ k) : upd f k x j = f j := by simp [upd, h]
def jb (b : Bool) : Int32 := if b then nI 1 else nI 0
theorem jb_t : jb true = nI 1 := rfl
theorem jb_f : jb false = nI 0 := rfl
theorem jb_nar (b : Bool) : narrow .boolean (.int (jb b)) = .int (jb b) := by cases b <;> decide
theorem jb_fit (b : Bool) : fits .boolean (.int (jb b)) = true := by cases b <;> decide
theorem jb_0 {b : Bool} : jb b = 0 ↔ b = false := by cases b <;> decide
theorem jb_nI : ∀ {b : Bool}, ∃ k : Nat, k ≤ 1 ∧ jb b = nI k ∧ (k = 1 ↔ b = true)
  | false => ⟨0, by omega, rfl, by simp⟩
  | true => ⟨1, by omega, rfl, by simp⟩
theorem Ct.ofA {l : Launch} {K : jK} {y : MethodName} {cc : ByteArray} {nL : Nat} {ret : Option FieldType} {fr lo mc ms : Nat} {args : List Value} {G : GH} {hs : Nat} {post : Option Value → GH → Nat → Prop} {px : String → GH → Prop} (hl : l.stackTraces = false) (hy : plainName y.cls = true) (hn : (lg_sl args).length ≤ nL) {L0 : List (Option Value)} (hL0 : ∀ (i : Nat) (v : Value), L0[i]? = some (some v) → (jsl args)[i]? = some (some v))
    (h : ∀ A E, jC K A E y.cls cc nL fr lo mc ms → jQ K A E ret mc ms post px → jNoX E → jNm E y.name → J K A E nL G hs 0 0 0 L0 []) : Ct l K y cc nL ret fr lo mc ms args G hs post px := Ct.of hl hy hn hL0 (h (gA G hs))
