/-! ===== the efficiency is a number ===== -/
def vdL : List Nat := [6, 7, 8, 9, 10, 11, 12, 13, 14, 15, 16, 18, 20, 22, 24, 26, 28, 30, 32, 36, 40, 44, 48, 52, 56, 60, 64, 72, 80, 88, 96, 104, 112, 120, 128]
def vdB (t p : Nat) : Bool := decide (FP.ddiv (FP.i2d (nI t)) (FP.i2d (nI p)) &&& 0x7fffffffffffffff ≤ 0x7ff0000000000000)
theorem vd_all : ((List.range 129).all fun t => vdL.all fun p => vdB t p) = true := by decide +kernel
theorem vd_in : ((List.range 17).all fun w => ([1, 2, 4, 8] : List Nat).all fun m => decide (w < 6) || vdL.contains (w * m)) = true := by decide +kernel
theorem vd_ok {t w m : Nat} (ht : t ≤ 128) (hw6 : 6 ≤ w) (hw9 : w ≤ 16) (hm : m = 1 ∨ m = 2 ∨ m = 4 ∨ m = 8) : vf_n64 (FP.ddiv (FP.i2d (nI t)) (FP.i2d (nI (w * m)))) := by
  have h1 := List.all_eq_true.mp (List.all_eq_true.mp vd_in w (List.mem_range.mpr (by omega))) m (by rcases hm with rfl | rfl | rfl | rfl <;> simp)
  rw [Bool.or_eq_true] at h1
  have h2 : w * m ∈ vdL := by
    rcases h1 with h1 | h1
    · exact absurd (of_decide_eq_true h1) (by omega)
    · exact List.contains_iff_mem.mp h1
  have h3 : vdB t (w * m) = true := List.all_eq_true.mp (List.all_eq_true.mp vd_all t (List.mem_range.mpr (by omega))) _ h2
  unfold vdB at h3
  unfold vf_n64
  exact of_decide_eq_true h3
