/-! small facts on ints -/
theorem ti_add {a b : Int32} (h1 : -2147483648 ≤ a.toInt + b.toInt) (h2 : a.toInt + b.toInt < 2147483648) : (a + b).toInt = a.toInt + b.toInt := by
  rw [Int32.toInt_add]
  exact Int.bmod_eq_of_le (by omega) (by omega)
theorem ti_sub {a b : Int32} (h1 : -2147483648 ≤ a.toInt - b.toInt) (h2 : a.toInt - b.toInt < 2147483648) : (a - b).toInt = a.toInt - b.toInt := by
  rw [Int32.toInt_sub]
  exact Int.bmod_eq_of_le (by omega) (by omega)
theorem ti_mul {a b : Int32} (h1 : -2147483648 ≤ a.toInt * b.toInt) (h2 : a.toInt * b.toInt < 2147483648) : (a * b).toInt = a.toInt * b.toInt := by
  rw [Int32.toInt_mul]
  exact Int.bmod_eq_of_le (by omega) (by omega)
theorem ti_1 : (1 : Int32).toInt = 1 := by decide
theorem nle_ti {b x : Int32} (c : ¬ b ≤ x) : x.toInt < b.toInt := Int.not_le.mp fun h => c (Int32.le_iff_toInt_le.mpr h)
theorem le_ti {b x : Int32} (c : b ≤ x) : b.toInt ≤ x.toInt := Int32.le_iff_toInt_le.mp c
theorem lt_ti {b x : Int32} (c : b < x) : b.toInt < x.toInt := Int32.lt_iff_toInt_lt.mp c
theorem nlt_ti {b x : Int32} (c : ¬ b < x) : x.toInt ≤ b.toInt := Int.not_lt.mp fun h => c (Int32.lt_iff_toInt_lt.mpr h)
theorem ti_lo (x : Int32) : -2147483648 ≤ x.toInt := by have := Int32.le_toInt x; omega
theorem ti_hi (x : Int32) : x.toInt < 2147483648 := by have := Int32.toInt_lt x; omega
theorem up_1 {x b : Int32} (c : ¬ b ≤ x) : (x + 1).toInt = x.toInt + 1 := by
  have h1 := nle_ti c
  have h2 := ti_hi b
  have h3 := ti_lo x
  rw [ti_add (by rw [ti_1]; omega) (by rw [ti_1]; omega), ti_1]
theorem up_dec {x b : Int32} {n : Nat} (c : ¬ b ≤ x) (hm : (b.toInt - x.toInt).toNat < n + 1) : (b.toInt - (x + 1).toInt).toNat < n := by
  have h1 := nle_ti c
  rw [up_1 c]
  omega
theorem up_nn {x b : Int32} (c : ¬ b ≤ x) (h : 0 ≤ x.toInt) : 0 ≤ (x + 1).toInt := by
  rw [up_1 c]
  omega
theorem in_up {x b : Int32} {n : Nat} (h : 0 ≤ x.toInt) (c : ¬ b ≤ x) (hb : b.toInt ≤ n) : vp_in x n := by
  have h1 := nle_ti c
  exact vp_in_iff.mpr ⟨h, by omega⟩
theorem in_ge {x : Int32} {n : Nat} (h : ¬ x < 0) (c : ¬ Int32.ofNat n ≤ x) (hn : n < 2147483648) : vp_in x n := by
  have h1 := nle_ti c
  have h2 := nlt_ti h
  have h3 : (Int32.ofNat n).toInt = n := nI_toInt hn
  have h4 : (0 : Int32).toInt = 0 := by decide
  exact vp_in_iff.mpr ⟨by omega, by omega⟩
theorem nn_lt {x : Int32} (h : 0 ≤ x.toInt) : ¬ x < 0 := fun c => by
  have h1 := lt_ti c
  have h4 : (0 : Int32).toInt = 0 := by decide
  omega
theorem sw_out4 {x : Int32} (h0 : ¬ x = 0) (h1 : ¬ x = 1) (h2 : ¬ x = 2) (h3 : ¬ x = 3) : x.toInt < 0 ∨ 3 < x.toInt := by
  refine Classical.byContradiction fun h => ?_
  rcases (show x.toInt = 0 ∨ x.toInt = 1 ∨ x.toInt = 2 ∨ x.toInt = 3 by omega) with e | e | e | e
  · exact h0 (Int32.toInt_inj.mp (e.trans (by decide)))
  · exact h1 (Int32.toInt_inj.mp (e.trans (by decide)))
  · exact h2 (Int32.toInt_inj.mp (e.trans (by decide)))
  · exact h3 (Int32.toInt_inj.mp (e.trans (by decide)))
theorem up_1_le {x b : Int32} (c : ¬ b < x) (hb : b.toInt < 2147483647) : (x + 1).toInt = x.toInt + 1 := by
  have h1 := nlt_ti c
  have h3 := ti_lo x
  rw [ti_add (by rw [ti_1]; omega) (by rw [ti_1]; omega), ti_1]
theorem up_dec_le {x b : Int32} {n : Nat} (c : ¬ b < x) (hb : b.toInt < 2147483647) (hm : (b.toInt + 1 - x.toInt).toNat < n + 1) : (b.toInt + 1 - (x + 1).toInt).toNat < n := by
  have h1 := nlt_ti c
  rw [up_1_le c hb]
  omega
theorem up_nn_le {x b : Int32} (c : ¬ b < x) (hb : b.toInt < 2147483647) (h : 0 ≤ x.toInt) : 0 ≤ (x + 1).toInt := by
  rw [up_1_le c hb]
  omega
theorem ti_0 : (0 : Int32).toInt = 0 := by decide
theorem nlt_ti0 {x : Int32} (h : ¬ x < 0) : 0 ≤ x.toInt := by
  have h1 := nlt_ti h
  rw [ti_0] at h1
  exact h1
theorem tnc {x : Int32} (h : 0 ≤ x.toInt) : (x.toNatClampNeg : Int) = x.toInt := by
  show ((x.toInt.toNat : Nat) : Int) = x.toInt
  omega
theorem shr1 {x : Int32} (h : 0 ≤ x.toInt) : (x >>> ((1 : Int32) &&& 31)).toInt = x.toInt / 2 := by
  rw [pk_shr x ((1 : Int32) &&& 31) 1 (by decide)]
  exact Int.shiftRight_eq_div_pow x.toInt 1
theorem shr_dec {x : Int32} {n : Nat} (c : ¬ x ≤ 0) (hm : x.toInt.toNat < n + 1) : (x >>> ((1 : Int32) &&& 31)).toInt.toNat < n := by
  have h1 := nle_ti c
  rw [ti_0] at h1
  rw [shr1 (by omega)]
  omega
