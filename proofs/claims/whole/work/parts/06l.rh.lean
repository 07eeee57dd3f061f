theorem rr78 {sh : Nat → Int32} {frm n : Int32} : ∀ (fu : Nat) (kd : Int32) (rs rh : Nat → Int32) (y3 ra rl : Int32) (rk ro rd : Nat → Int32), 0 ≤ kd.toInt ∧ kd.toInt ≤ 6 → 0 ≤ rl.toInt ∧ rl.toInt ≤ 5 → (0 ≤ (m_X8_readsRealm_78 fu sh frm n kd rs rh y3 ra rl rk ro rd).2.2.1.toInt ∧ (m_X8_readsRealm_78 fu sh frm n kd rs rh y3 ra rl rk ro rd).2.2.1.toInt ≤ 6) ∧ 0 ≤ (m_X8_readsRealm_78 fu sh frm n kd rs rh y3 ra rl rk ro rd).2.2.2.1.toInt ∧ (m_X8_readsRealm_78 fu sh frm n kd rs rh y3 ra rl rk ro rd).2.2.2.1.toInt ≤ 5 := by
  intro fu
  induction fu with
  | zero => intro kd rs rh y3 ra rl rk ro rd h1 h2; show (0 ≤ (default : Int32).toInt ∧ (default : Int32).toInt ≤ 6) ∧ 0 ≤ (default : Int32).toInt ∧ (default : Int32).toInt ≤ 5; decide
  | succ fu ih =>
    intro kd rs rh y3 ra rl rk ro rd h1 h2
    rw [m_X8_readsRealm_78]
    by_cases c1 : y3 = 0
    · rw [if_pos c1]; exact ⟨h1, h2⟩
    · rw [if_neg c1]
      by_cases c2 : rl = 0
      · rw [if_pos c2]; exact ih _ _ _ _ _ _ _ _ _ h1 (rl_5 h2)
      · rw [if_neg c2]
        by_cases c3 : n ≤ ra
        · rw [if_pos c3]; exact ⟨h1, h2⟩
        · rw [if_neg c3]; exact ih _ _ _ _ _ _ _ _ _ h1 (rl_5 h2)
def rrP (r : (Int32 × Int32 × Int32 × Int32 × (Nat → Int32) × (Nat → Int32) × (Nat → Int32) × (Nat → Int32) × (Nat → Int32))) : Prop := (0 ≤ r.2.2.1.toInt ∧ r.2.2.1.toInt ≤ 6) ∧ 0 ≤ r.2.2.2.1.toInt ∧ r.2.2.2.1.toInt ≤ 5
theorem rr78P {sh : Nat → Int32} {frm n : Int32} (fu : Nat) (kd : Int32) (rs rh : Nat → Int32) (y3 ra rl : Int32) (rk ro rd : Nat → Int32) (h1 : 0 ≤ kd.toInt ∧ kd.toInt ≤ 6) (h2 : 0 ≤ rl.toInt ∧ rl.toInt ≤ 5) : rrP (m_X8_readsRealm_78 fu sh frm n kd rs rh y3 ra rl rk ro rd) := rr78 fu kd rs rh y3 ra rl rk ro rd h1 h2
theorem rr_okP {sh rs rh rk ro rd : Nat → Int32} {frm n : Int32} : rrP (m_X8_readsRealm sh rs rh rk ro rd frm n) := by
  have h0 : 0 ≤ ((0 : Int32) + (if (if (m_X8_codeAt (0 : Int32) sh frm n) = (107 : Int32) then (1 : Int32) else (0 : Int32)) = 0 then (0 : Int32) else (1 : Int32))).toInt := ra_c (by decide) (by decide)
  have z6 : 0 ≤ (0 : Int32).toInt ∧ (0 : Int32).toInt ≤ 6 := by decide
  have z5 : 0 ≤ (0 : Int32).toInt ∧ (0 : Int32).toInt ≤ 5 := by decide
  rw [m_X8_readsRealm]
  refine ite_P rrP (fun _ => ?_) (fun _ => ite_P rrP (fun _ => ?_) (fun _ => ?_))
  · apply rr78P
    · exact z6
    · exact z5
  · apply rr78P
    · exact z6
    · exact z5
  · apply rr78P
    · exact rd_dd (rs_ra h0)
    · exact z5
theorem rr_ok {sh rs rh rk ro rd : Nat → Int32} {frm n : Int32} : (0 ≤ (m_X8_readsRealm sh rs rh rk ro rd frm n).2.2.1.toInt ∧ (m_X8_readsRealm sh rs rh rk ro rd frm n).2.2.1.toInt ≤ 6) ∧ 0 ≤ (m_X8_readsRealm sh rs rh rk ro rd frm n).2.2.2.1.toInt ∧ (m_X8_readsRealm sh rs rh rk ro rd frm n).2.2.2.1.toInt ≤ 5 := rr_okP
theorem fail_neg {f : Int32} (h1 : 0 ≤ f.toInt) (h2 : f.toInt ≤ 4) : ¬ 0 ≤ (m_X8_failed f).1 := by
  intro h
  have := le_ti h
  rw [ti_0] at this
  unfold m_X8_failed at this
  rw [show ((-10 : Int32) - f, f).1 = (-10 : Int32) - f from rfl, ti_sub (by rw [show (-10 : Int32).toInt = -10 by decide]; omega) (by rw [show (-10 : Int32).toInt = -10 by decide]; omega), show (-10 : Int32).toInt = -10 by decide] at this
  omega
theorem cb_ok {F : Int32} {sz ln : Nat → Int32} {k lane i n : Int32} (h : 0 ≤ (m_X8_cellsBarred F sz ln k lane i n.toInt64).1) : 0 ≤ i.toInt ∧ 0 ≤ n.toInt ∧ i.toInt + n.toInt ≤ (sz k.toNatClampNeg).toInt := by
  unfold m_X8_cellsBarred at h
  repeat' (split at h)
  all_goals first | exact bey_ok (by assumption) | exact absurd h (fail_neg (by decide) (by decide))
theorem act_ok {b a : Int32} (h : ¬ m_X8_isAct b a = 0) (c : ¬ a = (40 : Int32)) (h5 : b.toInt ≤ 5) : vp_in (a / (10 : Int32)) 4 ∧ vp_in (a - a / (10 : Int32) * (10 : Int32)) 5 := by
  unfold m_X8_isAct at h
  rw [if_neg c] at h
  by_cases c1 : m_X8_in a.toInt64 (0 : Int64) (39 : Int64) = 0
  · rw [if_pos c1] at h; exact absurd rfl h
  · rw [if_neg c1] at h
    by_cases c2 : m_X8_noLinen b (a - a / (10 : Int32) * (10 : Int32)) = 0
    · refine ⟨?_, nl_ok c2 h5⟩
      have h1 := in_ne c1
      rw [Int32.toInt_toInt64, t64_0, show (39 : Int64).toInt = 39 by decide] at h1
      obtain ⟨j, hj, rfl⟩ := nI_of (x := a) (by intro q; have := lt_ti q; rw [ti_0] at this; omega)
      rw [nI_toInt hj] at h1
      rw [show (10 : Int32) = nI 10 by decide, pk_div hj (by decide) (by decide)]
      exact vp_in_nI (by omega) (by decide)
    · rw [if_neg c2] at h; exact absurd rfl h
theorem act_s {P : Int32 → Prop} {y b : Int32} (h : ∀ j : Int32, 0 ≤ j.toInt → j.toInt < y.toInt → P j) (hy : P y) (c : ¬ b ≤ y) : ∀ j : Int32, 0 ≤ j.toInt → j.toInt < (y + 1).toInt → P j := by
  intro j h0 h1
  rw [up_1 c] at h1
  rcases Int.lt_or_eq_of_le (Int.le_of_lt_add_one h1) with e | e
  · exact h j h0 e
  · rw [Int32.toInt_inj.mp e]; exact hy
theorem act_0 {P : Int32 → Prop} : ∀ j : Int32, 0 ≤ j.toInt → j.toInt < (0 : Int32).toInt → P j := by
  intro j h0 h1
  rw [ti_0] at h1
  omega
theorem act_e {P : Int32 → Prop} {y b : Int32} (h : ∀ j : Int32, 0 ≤ j.toInt → j.toInt < y.toInt → P j) (c : b ≤ y) : ∀ j : Int32, 0 ≤ j.toInt → j.toInt < b.toInt → P j := fun j h0 h1 => h j h0 (Int.lt_of_lt_of_le h1 (le_ti c))
theorem de15 {lin cool kd kl : Int32} {mH mK : Nat → Int32} : ∀ (fu : Nat) (y : Int32) (dn : Nat → Int32), (m_X8_doesEvening_15 fu lin cool mH mK kd kl y dn).2.1 = kd + 1 ∨ (m_X8_doesEvening_15 fu lin cool mH mK kd kl y dn).2.1 = 0 := by
  intro fu
  induction fu with
  | zero => intro y dn; exact Or.inr rfl
  | succ fu ih =>
    intro y dn
    rw [m_X8_doesEvening_15]
    by_cases c : lin ≤ y
    · rw [if_pos c]; exact Or.inl rfl
    · rw [if_neg c]; exact ih _ _
theorem de_dn {days lin cool d l : Int32} {dn mH mK : Nat → Int32} (h0 : 0 ≤ d.toInt) (h1 : d.toInt ≤ days.toInt) : 0 ≤ (m_X8_doesEvening days lin cool d l dn mH mK).2.1.toInt ∧ (m_X8_doesEvening days lin cool d l dn mH mK).2.1.toInt ≤ days.toInt := by
  unfold m_X8_doesEvening
  by_cases c : d = days
  · rw [if_pos c]; exact ⟨h0, h1⟩
  · rw [if_neg c]
    have h2 : d.toInt < days.toInt := by
      rcases Int.lt_or_eq_of_le h1 with e | e
      · exact e
      · exact absurd (Int32.toInt_inj.mp e) c
    have h3 := ti_hi days
    rcases de15 (lin := lin) (cool := cool) (kd := d) (kl := l) (mH := mH) (mK := mK) ((lin.toInt - (0 : Int32).toInt).toNat + 1) 0 dn with e | e
    · rw [e, ti_add (by rw [ti_1]; omega) (by rw [ti_1]; omega), ti_1]
      omega
    · rw [e, ti_0]
      omega
theorem dn_or {d days : Int32} (h0 : 0 ≤ d.toInt) (h1 : d.toInt ≤ days.toInt) (h6 : days.toInt ≤ 6) : vp_in d 6 ∨ d = days := by
  rcases Classical.em (d = days) with e | e
  · exact Or.inr e
  · exact Or.inl (spl h0 h1 h6 e)
theorem wh20 {w : Int32} (c : ¬ w < (20 : Int32)) (h : w.toInt ≤ 23) : vp_in (w - (20 : Int32)) 4 := by
  have h1 := nlt_ti c
  rw [show (20 : Int32).toInt = 20 by decide] at h1
  refine vp_in_iff.mpr ?_
  rw [ti_sub (by rw [show (20 : Int32).toInt = 20 by decide]; omega) (by rw [show (20 : Int32).toInt = 20 by decide]; omega), show (20 : Int32).toInt = 20 by decide]
  omega
theorem wh_in {w : Int32} {lo hi : Int64} (c : ¬ m_X8_in w.toInt64 lo hi = 0) (h : hi.toInt ≤ 23) : w.toInt ≤ 23 := by
  have h1 := in_ne c
  rw [Int32.toInt_toInt64] at h1
  omega
theorem wh_if {w : Int32} (c : ¬ (if (m_X8_in w.toInt64 (20 : Int64) (23 : Int64)) = 0 then (0 : Int32) else (1 : Int32)) = 0) : w.toInt ≤ 23 := by
  by_cases e : m_X8_in w.toInt64 (20 : Int64) (23 : Int64) = 0
  · rw [if_pos e] at c; exact absurd rfl c
  · exact wh_in e (by decide)
