/-! the reference's bounds -/
theorem t64_0 : (0 : Int64).toInt = 0 := by decide
theorem t64_1 : (1 : Int64).toInt = 1 := by decide
theorem in_ne {v lo hi : Int64} (h : ¬ m_X8_in v lo hi = 0) : lo.toInt ≤ v.toInt ∧ v.toInt ≤ hi.toInt := by
  unfold m_X8_in at h
  by_cases h1 : lg_cmp v lo < 0
  · exact absurd (if_pos h1) h
  · rw [if_neg h1] at h
    by_cases h2 : 0 < lg_cmp v hi
    · exact absurd (if_pos h2) h
    · rw [lg_cmp_lt] at h1
      rw [lg_cmp_gt] at h2
      rw [Int64.lt_iff_toInt_lt] at h1 h2
      omega
theorem in_eq {v lo hi : Int64} (h : m_X8_in v lo hi = 0) : ¬ (lo.toInt ≤ v.toInt ∧ v.toInt ≤ hi.toInt) := by
  unfold m_X8_in at h
  by_cases h1 : lg_cmp v lo < 0
  · rw [lg_cmp_lt, Int64.lt_iff_toInt_lt] at h1
    omega
  · rw [if_neg h1] at h
    by_cases h2 : 0 < lg_cmp v hi
    · rw [lg_cmp_gt, Int64.lt_iff_toInt_lt] at h2
      omega
    · rw [if_neg h2] at h
      exact absurd h (by decide)
theorem lim64 (b : Int32) : (b.toInt64 - (1 : Int64)).toInt = b.toInt - 1 := by
  have h1 := ti_lo b
  have h2 := ti_hi b
  rw [Int64.toInt_sub, Int32.toInt_toInt64, t64_1]
  exact Int.bmod_eq_of_le (by omega) (by omega)
theorem lim_ok {a b : Int32} (h : ¬ m_X8_in a.toInt64 (0 : Int64) (b.toInt64 - (1 : Int64)) = 0) : 0 ≤ a.toInt ∧ a.toInt < b.toInt := by
  have h1 := in_ne h
  rw [lim64, Int32.toInt_toInt64, t64_0] at h1
  omega
theorem rng_ok {a b : Int32} (h : ¬ m_X8_in a.toInt64 (0 : Int64) b.toInt64 = 0) : 0 ≤ a.toInt ∧ a.toInt ≤ b.toInt := by
  have h1 := in_ne h
  rw [Int32.toInt_toInt64, Int32.toInt_toInt64, t64_0] at h1
  exact h1
theorem no_ok {p : Int32} (h : (if p = 0 then (1 : Int32) else (0 : Int32)) = 0) : ¬ p = 0 := by
  intro e
  rw [if_pos e] at h
  exact absurd h (by decide)
theorem nl_ok {b l : Int32} (c : m_X8_noLinen b l = 0) (h5 : b.toInt ≤ 5) : vp_in l 5 := by
  have h := lim_ok (no_ok c)
  exact vp_in_iff.mpr ⟨h.1, by omega⟩
theorem nd_ok {b d : Int32} (c : m_X8_noDay b d = 0) (h6 : b.toInt ≤ 6) : vp_in d 6 := by
  have h := lim_ok (no_ok c)
  exact vp_in_iff.mpr ⟨h.1, by omega⟩
theorem nw_ok {w : Int32} (c : m_X8_noWeeper w = 0) : vp_in w 4 := by
  have h := in_ne (no_ok c)
  rw [Int32.toInt_toInt64, t64_0, show (3 : Int64).toInt = 3 by decide] at h
  exact vp_in_iff.mpr ⟨h.1, by omega⟩
theorem ns_ok {k : Int32} (c : m_X8_noSheet k = 0) : vp_in k 4 := nw_ok c
theorem tle6 {t b : Int32} (h : ¬ m_X8_in t.toInt64 (0 : Int64) b.toInt64 = 0) (hd : b.toInt ≤ 6) : t.toInt ≤ 6 := by
  have h1 := rng_ok h
  omega
theorem rd_ok {b : Int32} (h0 : 0 ≤ b.toInt) (h8 : b.toInt ≤ 8) (c : ¬ b = 8) : vp_in b 8 := by
  refine vp_in_iff.mpr ⟨h0, ?_⟩
  rcases Int.lt_or_eq_of_le h8 with h | h
  · exact h
  · exact absurd (Int32.toInt_inj.mp (h.trans (by decide))) c
theorem x60 {k : Int32} (h : vp_in k 4) : ((60 : Int32) * k).toInt = 60 * k.toInt := by
  have h1 := vp_in_iff.mp h
  have e : (60 : Int32).toInt = 60 := by decide
  rw [ti_mul (by rw [e]; omega) (by rw [e]; omega), e]
theorem ix1 {k i : Int32} (h : vp_in k 4) (h0 : 0 ≤ i.toInt) (h1 : i.toInt < 60) : vp_in ((60 : Int32) * k + i) 240 := by
  have a := x60 h
  have b := vp_in_iff.mp h
  refine vp_in_iff.mpr ?_
  rw [ti_add (by omega) (by omega), a]
  omega
theorem ix2 {k i x : Int32} (h : vp_in k 4) (h0 : 0 ≤ i.toInt) (hx : 0 ≤ x.toInt) (h1 : i.toInt + x.toInt < 60) : vp_in ((60 : Int32) * k + i + x) 240 := by
  have a := x60 h
  have b := vp_in_iff.mp h
  have c : ((60 : Int32) * k + i).toInt = 60 * k.toInt + i.toInt := by rw [ti_add (by omega) (by omega), a]
  refine vp_in_iff.mpr ?_
  rw [ti_add (by omega) (by omega), c]
  omega
theorem bey_ok {i all : Int32} {n : Int32} (h : m_X8_isBeyond i n.toInt64 all = 0) : 0 ≤ i.toInt ∧ 0 ≤ n.toInt ∧ i.toInt + n.toInt ≤ all.toInt := by
  unfold m_X8_isBeyond at h
  by_cases h1 : i < 0
  · rw [if_pos h1] at h; exact absurd h (by decide)
  · rw [if_neg h1] at h
    by_cases h2 : lg_cmp n.toInt64 (0 : Int64) < 0
    · rw [if_pos h2] at h; exact absurd h (by decide)
    · rw [if_neg h2] at h
      by_cases h3 : lg_cmp (i.toInt64 + n.toInt64) all.toInt64 ≤ 0
      · rw [lg_cmp_le, Int64.le_iff_toInt_le, Int64.toInt_add, Int32.toInt_toInt64, Int32.toInt_toInt64, Int32.toInt_toInt64] at h3
        rw [lg_cmp_lt, Int64.lt_iff_toInt_lt, Int32.toInt_toInt64, t64_0] at h2
        have a1 := nlt_ti0 h1
        have b1 := ti_hi i
        have b2 := ti_hi n
        rw [Int.bmod_eq_of_le (by omega) (by omega)] at h3
        omega
      · rw [if_neg h3] at h; exact absurd h (by decide)
theorem code_up {ra : Int32} {sh : Nat → Int32} {frm n v : Int32} (c : m_X8_codeAt ra sh frm n = v) (hv : ¬ v = (-9 : Int32)) (h : 0 ≤ ra.toInt) : 0 ≤ (ra + 1).toInt := by
  unfold m_X8_codeAt at c
  by_cases h1 : n ≤ ra
  · rw [if_pos h1] at c; exact absurd c.symm hv
  · rw [up_1 h1]; omega
theorem fig_ra {ra : Int32} {sh : Nat → Int32} {frm n most : Int32} (h : 0 ≤ ra.toInt) : 0 ≤ (m_X8_figure ra sh frm n most).2.toInt := by
  unfold m_X8_figure
  by_cases h2 : m_X8_in ((m_X8_codeAt ra sh frm n) - (48 : Int32)).toInt64 (0 : Int64) most.toInt64 = 0
  · simp only [h2, if_true]
    rw [show ra + (0 : Int32) = ra by simp]
    exact h
  · simp only [h2, if_false]
    by_cases h1 : n ≤ ra
    · have e : m_X8_codeAt ra sh frm n = (-9 : Int32) := by unfold m_X8_codeAt; rw [if_pos h1]
      rw [e] at h2
      have := in_ne h2
      rw [Int32.toInt_toInt64, t64_0, show ((-9 : Int32) - 48).toInt = -57 by decide] at this
      omega
    · rw [up_1 h1]; omega
