/-! ===== bits as numbers ===== -/
def hN (x : Int32) : Nat := x.toBitVec.toNat
theorem hN_nI {n : Nat} (h : n < 2 ^ 32) : hN (nI n) = n := by
  unfold hN
  show (BitVec.ofNat 32 n).toNat = n
  rw [BitVec.toNat_ofNat, Nat.mod_eq_of_lt h]
theorem hN_lt (x : Int32) : hN x < 2 ^ 32 := x.toBitVec.isLt
theorem hN_or (x y : Int32) : hN (x ||| y) = hN x ||| hN y := by
  unfold hN
  rw [Int32.toBitVec_or, BitVec.toNat_or]
theorem hN_inj {x y : Int32} (h : hN x = hN y) : x = y := Int32.toBitVec_inj.mp (BitVec.eq_of_toNat_eq h)
theorem hN_shl1 (x : Int32) {b : Nat} (hb : b ≤ 1) : hN ((x <<< (nI 1 &&& 31)) ||| nI b) = (2 * hN x + b) % 2 ^ 32 := by
  have h1 : hN (x <<< (nI 1 &&& 31)) = hN x * 2 ^ 1 % 2 ^ 32 := pk_shl x (nI 1 &&& 31) 1 (by decide)
  rw [hN_or, h1, hN_nI (by omega), show hN x * 2 ^ 1 % 2 ^ 32 = 2 ^ 1 * (hN x % 2 ^ 31) by omega, ← Nat.two_pow_add_eq_or_of_lt (by omega)]
  omega
theorem hN_and16 (x : Int32) : x &&& 65535 = nI (hN x % 65536) := pk_and x 16 (by decide)
theorem hN_and8 (x : Int32) : x &&& nI 255 = nI (hN x % 256) := pk_and x 8 (by decide)
theorem hN_and1 (x : Int32) : x &&& nI 1 = nI (hN x % 2) := pk_and x 1 (by decide)
theorem hN_sy {a : Nat} (h : a < 2 ^ 31) : nI a = 60304 ↔ a = 60304 := by
  rw [show (60304 : Int32) = nI 60304 from rfl]
  exact nI_eq h (by decide)
theorem isSy_N (x : Int32) : isSy x ↔ hN x % 65536 = 60304 := by
  unfold isSy
  rw [hN_and16]
  exact hN_sy (by omega)
theorem hN_shr1 (x : Int32) : hN (x >>> (nI 1 &&& 31)) % 65536 = hN x / 2 % 65536 := by
  have h1 : (x >>> (nI 1 &&& 31)).toInt = x.toInt >>> 1 := pk_shr x (nI 1 &&& 31) 1 (by decide)
  have e : ∀ y : Int32, (y.toInt = (hN y : Int) ∨ y.toInt = (hN y : Int) - 2 ^ 32) := fun y => by
    have := BitVec.toInt_eq_toNat_cond (x := y.toBitVec)
    unfold hN
    show y.toBitVec.toInt = _ ∨ y.toBitVec.toInt = _
    rw [this]
    split
    · exact Or.inl rfl
    · exact Or.inr rfl
  have a1 := e x
  have a2 := e (x >>> (nI 1 &&& 31))
  rw [h1, Int.shiftRight_eq_div_pow] at a2
  have a3 : ((2 : Nat) ^ 1 : Nat) = 2 := rfl
  rw [a3] at a2
  omega
theorem isSy_N1 (x : Int32) : isSy (x >>> (nI 1 &&& 31)) ↔ hN x / 2 % 65536 = 60304 := by
  rw [isSy_N, hN_shr1]
/-- the model's latest bits -/
theorem lat_N {a b : Nat} (ha : a < 65536) (hb : b ≤ 1) : ((nI a <<< (nI 1 &&& 31)) ||| nI b) &&& 65535 = nI ((2 * a + b) % 65536) := by
  rw [hN_and16, hN_shl1 _ hb, hN_nI (by omega)]
  congr 1
  omega
theorem lst_N {c a : Nat} (hc : c ≤ 1) (ha : a < 65536) : (nI c <<< (nI 15 &&& 31)) ||| (nI a >>> (nI 1 &&& 31)) = nI (c * 32768 + a / 2) := by
  have h1 : nI c <<< (nI 15 &&& 31) = nI (c * 2 ^ 15) := pk_shlN (nI 15 &&& 31) 15 (by decide) (by omega)
  have h2 : nI a >>> (nI 1 &&& 31) = nI (a / 2 ^ 1) := pk_shrN (by omega) (nI 1 &&& 31) 1 (by decide)
  rw [h1, h2]
  apply hN_inj
  rw [hN_or, hN_nI (by omega), hN_nI (by omega), hN_nI (by omega), show c * 2 ^ 15 = 2 ^ 15 * c by omega, ← Nat.two_pow_add_eq_or_of_lt (by omega)]
theorem frm_N {v b : Nat} (hv : v < 256) (hb : b ≤ 1) : ((nI v <<< (nI 1 &&& 31)) ||| nI b) &&& nI 255 = nI ((2 * v + b) % 256) := by
  rw [hN_and8, hN_shl1 _ hb, hN_nI (by omega)]
  congr 1
  omega
theorem dbl_N (a b : Nat) : nI 2 * nI a + nI b = nI (2 * a + b) := by
  rw [show nI 2 * nI a = nI (2 * a) from (Int32.ofNat_mul 2 a).symm, nI_add]
