theorem rd_y {y : Int32} (h01 : y = 0 ∨ y = 1) (cy : ¬ y = 0) : y.toInt = 1 := by
  rcases h01 with e | e
  · exact absurd e cy
  · rw [e]; exact ti_1
theorem i01 {i : Int32} (h : i = 0 ∨ i = 1) : 0 ≤ i.toInt ∧ i.toInt ≤ 1 := by
  rcases h with e | e <;> (rw [e]; decide)
theorem rdA {y rd i : Int32} {fu : Nat} (h01 : y = 0 ∨ y = 1) (cy : ¬ y = 0) (hi : i = 0) (hr : rd.toInt ≤ 6) (hm : (2 * (6 - rd.toInt) + y.toInt).toNat < fu + 1) : (2 * (6 - rd.toInt) + i.toInt).toNat < fu := by
  rw [rd_y h01 cy] at hm
  rw [hi, ti_0]
  omega
theorem rdB {y rd i : Int32} {fu : Nat} (h01 : y = 0 ∨ y = 1) (cy : ¬ y = 0) (hi : i = 0 ∨ i = 1) (c8 : ¬ (6 : Int32) ≤ rd) (hm : (2 * (6 - rd.toInt) + y.toInt).toNat < fu + 1) : (2 * (6 - (rd + 1).toInt) + i.toInt).toNat < fu := by
  rw [rd_y h01 cy] at hm
  rw [up_1 c8]
  have h1 := i01 hi
  have h2 := nle_ti c8
  rw [show (6 : Int32).toInt = 6 by decide] at h2
  omega
theorem rd6 {rd : Int32} (h0 : 0 ≤ rd.toInt) (c8 : ¬ (6 : Int32) ≤ rd) : 0 ≤ (rd + 1).toInt ∧ (rd + 1).toInt ≤ 6 := by
  have h2 := nle_ti c8
  rw [show (6 : Int32).toInt = 6 by decide] at h2
  rw [up_1 c8]
  omega
theorem rl_in {rl : Int32} (h : 0 ≤ rl.toInt ∧ rl.toInt ≤ 5) (c : ¬ rl = (5 : Int32)) : vp_in rl 5 := by
  refine vp_in_iff.mpr ⟨h.1, ?_⟩
  rcases Int.lt_or_eq_of_le h.2 with e | e
  · exact e
  · exact absurd (Int32.toInt_inj.mp (e.trans (by decide))) c
theorem ra_0 {ra : Int32} : ra + (if (0 : Int32) = 0 then (0 : Int32) else (1 : Int32)) = ra := by
  rw [if_pos rfl]; exact Int32.add_zero ra
theorem ra_c {ra : Int32} {sh : Nat → Int32} {frm n v : Int32} (h : 0 ≤ ra.toInt) (hv : ¬ v = (-9 : Int32)) : 0 ≤ (ra + (if (if (m_X8_codeAt ra sh frm n) = v then (1 : Int32) else (0 : Int32)) = 0 then (0 : Int32) else (1 : Int32))).toInt := by
  by_cases c : m_X8_codeAt ra sh frm n = v
  · rw [if_pos c, if_neg (by decide)]
    exact code_up c hv h
  · rw [if_neg c, if_pos rfl, Int32.add_zero]
    exact h
theorem if01 (c : Prop) [Decidable c] : (if c then (0 : Int32) else (1 : Int32)) = 0 ∨ (if c then (0 : Int32) else (1 : Int32)) = 1 := by
  by_cases h : c
  · exact Or.inl (if_pos h)
  · exact Or.inr (if_neg h)
