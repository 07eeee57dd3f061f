theorem rs5_ra {sh : Nat → Int32} {frm n : Int32} : ∀ (fu : Nat) (y3 y4 ra : Int32) (rs : Nat → Int32), 0 ≤ ra.toInt → 0 ≤ (m_X8_readsSorrows_5 fu sh frm n y3 y4 ra rs).2.1.toInt := by
  intro fu
  induction fu with
  | zero => intro y3 y4 ra rs h; show 0 ≤ (default : Int32).toInt; decide
  | succ fu ih =>
    intro y3 y4 ra rs h
    rw [m_X8_readsSorrows_5]
    by_cases c1 : (4 : Int32) ≤ y4
    · rw [if_pos c1]
      by_cases c2 : y3 = 0
      · rw [if_pos c2]; show 0 ≤ (ra + (if (0 : Int32) = 0 then (0 : Int32) else (1 : Int32))).toInt; rw [ra_0]; exact h
      · rw [if_neg c2]; exact ra_c h (by decide)
    · rw [if_neg c1]
      by_cases c2 : y3 = 0
      · rw [if_pos c2, if_pos c2]; show 0 ≤ (ra + (if (0 : Int32) = 0 then (0 : Int32) else (1 : Int32))).toInt; rw [ra_0]; exact h
      · rw [if_neg c2]; exact ih _ _ _ _ (fig_ra h)
theorem rs_ra {ra : Int32} {sh rs : Nat → Int32} {frm n : Int32} (h : 0 ≤ ra.toInt) : 0 ≤ (m_X8_readsSorrows ra sh rs frm n).2.1.toInt := rs5_ra _ _ _ _ _ h
theorem rd2_ra {sh : Nat → Int32} {frm n : Int32} : ∀ (fu : Nat) (y3 ra rd : Int32) (rh : Nat → Int32), 0 ≤ ra.toInt → 0 ≤ rd.toInt ∧ rd.toInt ≤ 6 → 0 ≤ (m_X8_readsDays_2 fu sh frm n y3 ra rd rh).2.1.toInt ∧ 0 ≤ (m_X8_readsDays_2 fu sh frm n y3 ra rd rh).2.2.1.toInt ∧ (m_X8_readsDays_2 fu sh frm n y3 ra rd rh).2.2.1.toInt ≤ 6 := by
  intro fu
  induction fu with
  | zero => intro y3 ra rd rh h hr; show 0 ≤ (default : Int32).toInt ∧ 0 ≤ (default : Int32).toInt ∧ (default : Int32).toInt ≤ 6; decide
  | succ fu ih =>
    intro y3 ra rd rh h hr
    rw [m_X8_readsDays_2]
    by_cases c1 : (6 : Int32) ≤ rd
    · rw [if_pos c1]
      by_cases c2 : rd ≤ 0
      · rw [if_pos c2]; exact ⟨h, hr⟩
      · rw [if_neg c2]; exact ⟨h, hr⟩
    · rw [if_neg c1]
      by_cases c3 : y3 = 0
      · rw [if_pos c3]
        by_cases c2 : rd ≤ 0
        · rw [if_pos c2]; exact ⟨h, hr⟩
        · rw [if_neg c2]; exact ⟨h, hr⟩
      · rw [if_neg c3]
        by_cases c4 : (if (m_X8_figure ra sh frm n (9 : Int32)).1 < 0 then (0 : Int32) else (1 : Int32)) = 0
        · rw [if_pos c4]; exact ih _ _ _ _ (fig_ra h) hr
        · rw [if_neg c4]; exact ih _ _ _ _ (fig_ra h) (rd6 hr.1 c1)
theorem rd_ra {ra : Int32} {sh rh : Nat → Int32} {frm n : Int32} (h : 0 ≤ ra.toInt) : 0 ≤ (m_X8_readsDays ra (0 : Int32) sh rh frm n).2.1.toInt := (rd2_ra _ _ _ _ _ h (by decide)).1
theorem rd_dd {ra : Int32} {sh rh : Nat → Int32} {frm n : Int32} (h : 0 ≤ ra.toInt) : 0 ≤ (m_X8_readsDays ra (0 : Int32) sh rh frm n).2.2.1.toInt ∧ (m_X8_readsDays ra (0 : Int32) sh rh frm n).2.2.1.toInt ≤ 6 := (rd2_ra _ _ _ _ _ h (by decide)).2
theorem rl_alt {ra rl : Int32} {sh rk ro rd : Nat → Int32} {frm n : Int32} : ((m_X8_readsLinen ra rl sh rk ro rd frm n).1 = 0 ∧ (m_X8_readsLinen ra rl sh rk ro rd frm n).2.2.1 = rl) ∨ ((m_X8_readsLinen ra rl sh rk ro rd frm n).1 = 1 ∧ (m_X8_readsLinen ra rl sh rk ro rd frm n).2.2.1 = rl + 1 ∧ ¬ rl = (5 : Int32)) := by
  unfold m_X8_readsLinen
  repeat' split
  all_goals first | exact Or.inl ⟨rfl, rfl⟩ | exact Or.inr ⟨rfl, rfl, by assumption⟩
theorem rl_ra {ra rl : Int32} {sh rk ro rd : Nat → Int32} {frm n : Int32} (h : 0 ≤ ra.toInt) : 0 ≤ (m_X8_readsLinen ra rl sh rk ro rd frm n).2.1.toInt := by
  by_cases e : m_X8_codeAt ra sh frm n = (59 : Int32)
  · have h1 := code_up e (by decide) h
    by_cases e2 : m_X8_codeAt (ra + (1 : Int32)) sh frm n = (99 : Int32) ∨ m_X8_codeAt (ra + (1 : Int32)) sh frm n = (108 : Int32) ∨ m_X8_codeAt (ra + (1 : Int32)) sh frm n = (115 : Int32)
    · have h2 : 0 ≤ ((ra + (1 : Int32)) + (1 : Int32)).toInt := by
        rcases e2 with e2 | e2 | e2 <;> exact code_up e2 (by decide) h1
      have h3 := fig_ra (sh := sh) (frm := frm) (n := n) (most := (3 : Int32)) h2
      have h4 := fig_ra (sh := sh) (frm := frm) (n := n) (most := (9 : Int32)) h3
      unfold m_X8_readsLinen
      repeat' split
      all_goals first | exact h | exact h1 | exact h2 | exact h3 | exact h4
    · unfold m_X8_readsLinen
      rw [if_pos e, if_neg (fun q => e2 (Or.inl q)), if_neg (fun q => e2 (Or.inr (Or.inl q))), if_neg (fun q => e2 (Or.inr (Or.inr q)))]
      split
      · exact h
      · exact h1
  · unfold m_X8_readsLinen
    rw [if_neg e]
    split <;> exact h
theorem rl_5 {ra rl : Int32} {sh rk ro rd : Nat → Int32} {frm n : Int32} (h : 0 ≤ rl.toInt ∧ rl.toInt ≤ 5) : 0 ≤ (m_X8_readsLinen ra rl sh rk ro rd frm n).2.2.1.toInt ∧ (m_X8_readsLinen ra rl sh rk ro rd frm n).2.2.1.toInt ≤ 5 := by
  rcases rl_alt (ra := ra) (rl := rl) (sh := sh) (rk := rk) (ro := ro) (rd := rd) (frm := frm) (n := n) with ⟨-, e⟩ | ⟨-, e, c⟩
  · rw [e]; exact h
  · rw [e]
    have h5 := vp_in_iff.mp (rl_in h c)
    rw [ti_add (by rw [ti_1]; omega) (by rw [ti_1]; omega), ti_1]
    omega
theorem rl_01 {ra rl : Int32} {sh rk ro rd : Nat → Int32} {frm n : Int32} : (m_X8_readsLinen ra rl sh rk ro rd frm n).1 = 0 ∨ (m_X8_readsLinen ra rl sh rk ro rd frm n).1 = 1 := by
  rcases rl_alt (ra := ra) (rl := rl) (sh := sh) (rk := rk) (ro := ro) (rd := rd) (frm := frm) (n := n) with ⟨e, -⟩ | ⟨e, -⟩
  · exact Or.inl e
  · exact Or.inr e
theorem rl_dec {y3 ra rl : Int32} {sh rk ro rd : Nat → Int32} {frm n : Int32} {fu : Nat} (h01 : y3 = 0 ∨ y3 = 1) (cy : ¬ y3 = 0) (h : 0 ≤ rl.toInt ∧ rl.toInt ≤ 5) (hm : (2 * (5 - rl.toInt) + y3.toInt).toNat < fu + 1) : (2 * (5 - (m_X8_readsLinen ra rl sh rk ro rd frm n).2.2.1.toInt) + (m_X8_readsLinen ra rl sh rk ro rd frm n).1.toInt).toNat < fu := by
  rw [rd_y h01 cy] at hm
  rcases rl_alt (ra := ra) (rl := rl) (sh := sh) (rk := rk) (ro := ro) (rd := rd) (frm := frm) (n := n) with ⟨e1, e⟩ | ⟨e1, e, c⟩
  · rw [e, e1, ti_0]; omega
  · have h5 := vp_in_iff.mp (rl_in h c)
    rw [e, e1, ti_add (by rw [ti_1]; omega) (by rw [ti_1]; omega), ti_1]
    omega
