theorem rs5_ra {sh : Nat → Int32} {frm n : Int32} : ∀ (fu : Nat) (y3 y4 ra : Int32) (rs : Nat → Int32), 0 ≤ ra.toInt → 0 ≤ (m_X8_readsSorrows_5 fu sh frm n y3 y4 ra rs).2.1.toInt := by
  intro fu
  induction fu with
  | zero => intro y3 y4 ra rs h; show 0 ≤ (default : Int32).toInt; decide
  | succ fu ih =>
    intro y3 y4 ra rs h
    rw [m_X8_readsSorrows_5]
    by_cases c1 : (4 : Int32) ≤ y4
    · rw [if_pos c1]
      by_cases c2 : y3 = 0
      · rw [if_pos c2]; show 0 ≤ (ra + (if (0 : Int32) = 0 then (0 : Int32) else (1 : Int32))).toInt; rw [ra_0]; exact h
      · rw [if_neg c2]; exact ra_c h (by decide)
    · rw [if_neg c1]
      by_cases c2 : y3 = 0
      · rw [if_pos c2, if_pos c2]; show 0 ≤ (ra + (if (0 : Int32) = 0 then (0 : Int32) else (1 : Int32))).toInt; rw [ra_0]; exact h
      · rw [if_neg c2]; exact ih _ _ _ _ (fig_ra h)
theorem rs_ra {ra : Int32} {sh rs : Nat → Int32} {frm n : Int32} (h : 0 ≤ ra.toInt) : 0 ≤ (m_X8_readsSorrows ra sh rs frm n).2.1.toInt := by
  rw [m_X8_readsSorrows]
  exact rs5_ra _ _ _ _ _ h
theorem rd2_ra {sh : Nat → Int32} {frm n : Int32} : ∀ (fu : Nat) (y3 ra rd : Int32) (rh : Nat → Int32), 0 ≤ ra.toInt → 0 ≤ rd.toInt ∧ rd.toInt ≤ 6 → 0 ≤ (m_X8_readsDays_2 fu sh frm n y3 ra rd rh).2.1.toInt ∧ 0 ≤ (m_X8_readsDays_2 fu sh frm n y3 ra rd rh).2.2.1.toInt ∧ (m_X8_readsDays_2 fu sh frm n y3 ra rd rh).2.2.1.toInt ≤ 6 := by
  intro fu
  induction fu with
  | zero => intro y3 ra rd rh h hr; show 0 ≤ (default : Int32).toInt ∧ 0 ≤ (default : Int32).toInt ∧ (default : Int32).toInt ≤ 6; decide
  | succ fu ih =>
    intro y3 ra rd rh h hr
    rw [m_X8_readsDays_2]
    by_cases c1 : (6 : Int32) ≤ rd
    · rw [if_pos c1]
      by_cases c2 : rd ≤ 0
      · rw [if_pos c2]; exact ⟨h, hr⟩
      · rw [if_neg c2]; exact ⟨h, hr⟩
    · rw [if_neg c1]
      by_cases c3 : y3 = 0
      · rw [if_pos c3]
        by_cases c2 : rd ≤ 0
        · rw [if_pos c2]; exact ⟨h, hr⟩
        · rw [if_neg c2]; exact ⟨h, hr⟩
      · rw [if_neg c3]
        by_cases c4 : (if (m_X8_figure ra sh frm n (9 : Int32)).1 < 0 then (0 : Int32) else (1 : Int32)) = 0
        · rw [if_pos c4]; exact ih _ _ _ _ (fig_ra h) hr
        · rw [if_neg c4]; exact ih _ _ _ _ (fig_ra h) (rd6 hr.1 c1)
theorem rd_ra {ra : Int32} {sh rh : Nat → Int32} {frm n : Int32} (h : 0 ≤ ra.toInt) : 0 ≤ (m_X8_readsDays ra (0 : Int32) sh rh frm n).2.1.toInt := by
  rw [m_X8_readsDays]
  exact (rd2_ra _ _ _ _ _ h (by decide)).1
theorem rd_dd {ra : Int32} {sh rh : Nat → Int32} {frm n : Int32} (h : 0 ≤ ra.toInt) : 0 ≤ (m_X8_readsDays ra (0 : Int32) sh rh frm n).2.2.1.toInt ∧ (m_X8_readsDays ra (0 : Int32) sh rh frm n).2.2.1.toInt ≤ 6 := by
  rw [m_X8_readsDays]
  exact (rd2_ra _ _ _ _ _ h (by decide)).2
