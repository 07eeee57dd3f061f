theorem upd_back {z f : Nat → Int32} {k : Nat} (h : ∀ j : Nat, j ≠ k → z j = f j) : upd z k (f k) = f := by
  funext j
  by_cases e : j = k
  · subst e; rw [pk_us]
  · rw [pk_un e]; exact h j e
theorem upd_off {z f : Nat → Int32} {k : Nat} {v : Int32} (h : ∀ j : Nat, j ≠ k → z j = f j) : ∀ j : Nat, j ≠ k → upd z k v j = f j := fun j e => by rw [pk_un e]; exact h j e
theorem damps_l {b rc : Int32} {rL rE rD H K D : Nat → Int32} {l : Int32} (hb : b.toInt ≤ 6) (hI : rdI b rc rL rE) (hl : vp_in l 5) : ∀ (fu : Nat) (y6 y7 : Int32) (z : Nat → Int32), m_X1_fitting_D_13 fu rc rL rE rD b H K D l (10 : Int32) y6 y7 z = m_X8_damps_22 fu (0 : Int32) rc rL rE rD H K D l y6 y7 z := by
  have e := vp_in_iff.mp hl
  intro fu
  induction fu with
  | zero => intro y6 y7 z; rfl
  | succ fu ih =>
    intro y6 y7 z
    rw [m_X1_fitting_D_13, m_X8_damps_22, at_in (n := 5) e.1 e.2 (by decide), set_in (n := 5) e.1 e.2 (by decide), set_in (n := 5) e.1 e.2 (by decide), so_eq hb hI]
    by_cases h1 : (10 : Int32) ≤ y7
    · rw [if_pos h1, if_pos h1]
    · rw [if_neg h1, if_neg h1]
      by_cases q : m_X8_areSo (0 : Int32) rc rL rE rD H K (upd z l.toNatClampNeg y7) = 0
      · rw [if_pos q, if_pos q, or0]; exact ih _ _ _
      · rw [if_neg q, if_neg q]; exact ih _ _ _
theorem damps_b {rc : Int32} {rL rE rD H K D : Nat → Int32} {l : Int32} : ∀ (fu : Nat) (y6 y7 : Int32) (z : Nat → Int32), ((10 : Int32).toInt - y7.toInt).toNat < fu → (∀ j : Nat, j ≠ l.toNatClampNeg → z j = D j) → (m_X8_damps_22 fu (0 : Int32) rc rL rE rD H K D l y6 y7 z).2 = D := by
  intro fu
  induction fu with
  | zero => intro y6 y7 z hm; exact absurd hm (Nat.not_lt_zero _)
  | succ fu ih =>
    intro y6 y7 z hm hz
    rw [m_X8_damps_22]
    by_cases h1 : (10 : Int32) ≤ y7
    · rw [if_pos h1]; exact upd_back hz
    · rw [if_neg h1]; exact ih _ _ _ (up_dec h1 hm) (upd_off hz)
theorem eqf_damps {b n rc : Int32} {rL rE rD H K D : Nat → Int32} {l : Int32} (hb : b.toInt ≤ 6) (hn : n.toInt ≤ 5) (hI : rdI b rc rL rE) : m_X7_damps rc rL rE rD b n H K D l = m_X8_damps n (0 : Int32) rc rL rE rD H K D l ∧ (m_X8_damps n (0 : Int32) rc rL rE rD H K D l).2 = D := by
  unfold m_X7_damps m_X8_damps
  by_cases h : 0 ≤ l.toInt ∧ l.toInt < n.toInt
  · rw [if_neg (fun q => hasL_iff.mp q h), if_pos (noL_iff.mpr h), m_X1_fitting_D, damps_l hb hI (vl5 h hn)]
    exact ⟨rfl, damps_b _ _ _ _ (Nat.lt_succ_self _) (fun _ _ => rfl)⟩
  · rw [if_pos (hasL_iff.mpr h), if_neg (fun q => h (noL_iff.mp q))]
    exact ⟨rfl, rfl⟩
theorem kinds_l {b rc : Int32} {rL rE rD H K D : Nat → Int32} {l : Int32} (hb : b.toInt ≤ 6) (hI : rdI b rc rL rE) (hl : vp_in l 5) : ∀ (fu : Nat) (y6 y7 : Int32) (z : Nat → Int32), m_X1_fitting_K_13 fu rc rL rE rD b H K D l (3 : Int32) y6 y7 z = m_X8_kinds_22 fu (0 : Int32) rc rL rE rD H K D l y6 y7 z := by
  have e := vp_in_iff.mp hl
  intro fu
  induction fu with
  | zero => intro y6 y7 z; rfl
  | succ fu ih =>
    intro y6 y7 z
    rw [m_X1_fitting_K_13, m_X8_kinds_22, at_in (n := 5) e.1 e.2 (by decide), set_in (n := 5) e.1 e.2 (by decide), set_in (n := 5) e.1 e.2 (by decide), so_eq hb hI]
    by_cases h1 : (3 : Int32) ≤ y7
    · rw [if_pos h1, if_pos h1]
    · rw [if_neg h1, if_neg h1]
      by_cases q : m_X8_areSo (0 : Int32) rc rL rE rD H (upd z l.toNatClampNeg y7) D = 0
      · rw [if_pos q, if_pos q, or0]; exact ih _ _ _
      · rw [if_neg q, if_neg q]; exact ih _ _ _
theorem kinds_b {rc : Int32} {rL rE rD H K D : Nat → Int32} {l : Int32} : ∀ (fu : Nat) (y6 y7 : Int32) (z : Nat → Int32), ((3 : Int32).toInt - y7.toInt).toNat < fu → (∀ j : Nat, j ≠ l.toNatClampNeg → z j = K j) → (m_X8_kinds_22 fu (0 : Int32) rc rL rE rD H K D l y6 y7 z).2 = K := by
  intro fu
  induction fu with
  | zero => intro y6 y7 z hm; exact absurd hm (Nat.not_lt_zero _)
  | succ fu ih =>
    intro y6 y7 z hm hz
    rw [m_X8_kinds_22]
    by_cases h1 : (3 : Int32) ≤ y7
    · rw [if_pos h1]; exact upd_back hz
    · rw [if_neg h1]; exact ih _ _ _ (up_dec h1 hm) (upd_off hz)
theorem eqf_kinds {b n rc : Int32} {rL rE rD H K D : Nat → Int32} {l : Int32} (hb : b.toInt ≤ 6) (hn : n.toInt ≤ 5) (hI : rdI b rc rL rE) : m_X7_kinds rc rL rE rD b n H K D l = m_X8_kinds n (0 : Int32) rc rL rE rD H K D l ∧ (m_X8_kinds n (0 : Int32) rc rL rE rD H K D l).2 = K := by
  unfold m_X7_kinds m_X8_kinds
  by_cases h : 0 ≤ l.toInt ∧ l.toInt < n.toInt
  · rw [if_neg (fun q => hasL_iff.mp q h), if_pos (noL_iff.mpr h), m_X1_fitting_K, kinds_l hb hI (vl5 h hn)]
    exact ⟨rfl, kinds_b _ _ _ _ (Nat.lt_succ_self _) (fun _ _ => rfl)⟩
  · rw [if_pos (hasL_iff.mpr h), if_neg (fun q => h (noL_iff.mp q))]
    exact ⟨rfl, rfl⟩
theorem heats_l {b rc : Int32} {rL rE rD H K D : Nat → Int32} {l : Int32} (hb : b.toInt ≤ 6) (hI : rdI b rc rL rE) (hl : vp_in l 6) : ∀ (fu : Nat) (y6 y7 : Int32) (z : Nat → Int32), m_X1_fitting_H_13 fu rc rL rE rD b H K D l (10 : Int32) y6 y7 z = m_X8_heats_22 fu (0 : Int32) rc rL rE rD H K D l y6 y7 z := by
  have e := vp_in_iff.mp hl
  intro fu
  induction fu with
  | zero => intro y6 y7 z; rfl
  | succ fu ih =>
    intro y6 y7 z
    rw [m_X1_fitting_H_13, m_X8_heats_22, at_in (n := 6) e.1 e.2 (by decide), set_in (n := 6) e.1 e.2 (by decide), set_in (n := 6) e.1 e.2 (by decide), so_eq hb hI]
    by_cases h1 : (10 : Int32) ≤ y7
    · rw [if_pos h1, if_pos h1]
    · rw [if_neg h1, if_neg h1]
      by_cases q : m_X8_areSo (0 : Int32) rc rL rE rD (upd z l.toNatClampNeg y7) K D = 0
      · rw [if_pos q, if_pos q, or0]; exact ih _ _ _
      · rw [if_neg q, if_neg q]; exact ih _ _ _
theorem heats_b {rc : Int32} {rL rE rD H K D : Nat → Int32} {l : Int32} : ∀ (fu : Nat) (y6 y7 : Int32) (z : Nat → Int32), ((10 : Int32).toInt - y7.toInt).toNat < fu → (∀ j : Nat, j ≠ l.toNatClampNeg → z j = H j) → (m_X8_heats_22 fu (0 : Int32) rc rL rE rD H K D l y6 y7 z).2 = H := by
  intro fu
  induction fu with
  | zero => intro y6 y7 z hm; exact absurd hm (Nat.not_lt_zero _)
  | succ fu ih =>
    intro y6 y7 z hm hz
    rw [m_X8_heats_22]
    by_cases h1 : (10 : Int32) ≤ y7
    · rw [if_pos h1]; exact upd_back hz
    · rw [if_neg h1]; exact ih _ _ _ (up_dec h1 hm) (upd_off hz)
theorem eqf_heats {b n rc : Int32} {rL rE rD H K D : Nat → Int32} {l : Int32} (hb : b.toInt ≤ 6) (hn : n.toInt ≤ 5) (hI : rdI b rc rL rE) : m_X7_heats rc rL rE rD b H K D l = m_X8_heats b (0 : Int32) rc rL rE rD H K D l ∧ (m_X8_heats b (0 : Int32) rc rL rE rD H K D l).2 = H := by
  unfold m_X7_heats m_X8_heats
  by_cases h : 0 ≤ l.toInt ∧ l.toInt < b.toInt
  · rw [if_neg (fun q => hasD_iff.mp q h), if_pos (noD_iff.mpr h), m_X1_fitting_H, heats_l hb hI (vd6 h hb)]
    exact ⟨rfl, heats_b _ _ _ _ (Nat.lt_succ_self _) (fun _ _ => rfl)⟩
  · rw [if_pos (hasD_iff.mpr h), if_neg (fun q => h (noD_iff.mp q))]
    exact ⟨rfl, rfl⟩
theorem span_b {b l d : Int32} {H K D : Nat → Int32} : ∀ (fu : Nat) (y4 y5 : Int32) (z : Nat → Int32), ((10 : Int32).toInt - y5.toInt).toNat < fu → (∀ j : Nat, j ≠ d.toNatClampNeg → z j = H j) → (m_X8_span_32 fu b (0 : Int32) H K D l d y4 y5 z).2 = H := by
  intro fu
  induction fu with
  | zero => intro y4 y5 z hm; exact absurd hm (Nat.not_lt_zero _)
  | succ fu ih =>
    intro y4 y5 z hm hz
    rw [m_X8_span_32]
    by_cases h1 : (10 : Int32) ≤ y5
    · rw [if_pos h1]; exact upd_back hz
    · rw [if_neg h1]; exact ih _ _ _ (up_dec h1 hm) (upd_off hz)
theorem span_H {b n l d : Int32} {H K D : Nat → Int32} : (m_X8_span b n (0 : Int32) H K D l d).2 = H := by
  unfold m_X8_span
  by_cases h : m_X8_noLinen n l = 0
  · rw [if_pos h]
    by_cases c : m_X8_noDay b d = 0
    · rw [if_pos c]; exact span_b _ _ _ _ (Nat.lt_succ_self _) (fun _ _ => rfl)
    · rw [if_neg c]
  · rw [if_neg h]
theorem inv_rd {vDays vLin : Int32} {vS vH vK vO vD : Nat → Int32} {vRdn : Int32} {vRdL vRdE vRdD mSz mLane mSh : Nat → Int32} {sHas0 sLane0 sLen0 : Int32} {sA0 : Nat → Int32} {sHas1 sLane1 sLen1 : Int32} {sA1 : Nat → Int32} {sHas2 sLane2 sLen2 : Int32} {sA2 : Nat → Int32} {sHas3 sLane3 sLen3 : Int32} {sA3 : Nat → Int32} (hinv : INV vDays vLin vS vH vK vO vD vRdn vRdL vRdE vRdD mSz mLane mSh sHas0 sLane0 sLen0 sA0 sHas1 sLane1 sLen1 sA1 sHas2 sLane2 sLen2 sA2 sHas3 sLane3 sLen3 sA3) : rdI vDays vRdn vRdL vRdE := ⟨hinv.2.2.2.2.2.2.2.1, hinv.2.2.2.2.2.2.2.2.1, fun j h => (hinv.2.2.2.2.2.2.2.2.2.2.1 j h).1⟩
theorem sor_l {S : Nat → Int32} (y1 : Int32) : m_X2_allSorrow_4 5 S y1 (0 : Int32) = y1 + S 0 + S 1 + S 2 + S 3 := by
  rw [m_X2_allSorrow_4, if_neg (by decide), m_X2_allSorrow_4, if_neg (by decide), m_X2_allSorrow_4, if_neg (by decide), m_X2_allSorrow_4, if_neg (by decide), m_X2_allSorrow_4, if_pos (by decide)]
  rw [at_in (n := 4) (by decide) (by decide) (by decide), at_in (n := 4) (by decide) (by decide) (by decide), at_in (n := 4) (by decide) (by decide) (by decide), at_in (n := 4) (by decide) (by decide) (by decide)]
  rfl
theorem eqf_many {b n rc w : Int32} {S : Nat → Int32} : m_X7_many b n S rc w = m_X8_many b n rc S w := by
  unfold m_X7_many m_X8_many
  have e : m_X2_allSorrow S = S (0 : Int32).toNatClampNeg + S (1 : Int32).toNatClampNeg + S (2 : Int32).toNatClampNeg + S (3 : Int32).toNatClampNeg := by
    rw [m_X2_allSorrow, show ((4 : Int32).toInt - (0 : Int32).toInt).toNat + 1 = 5 by decide, sor_l, Int32.zero_add]
    rfl
  rw [e]
theorem eqf_tell {b t l : Int32} {D K : Nat → Int32} (hb : b.toInt ≤ 5) (hK : ∀ j : Nat, 0 ≤ (K j).toInt ∧ (K j).toInt ≤ 2) : m_X7_tell b D K t l = m_X8_tell b t K D l := by
  unfold m_X7_tell m_X8_tell
  by_cases h : 0 ≤ l.toInt ∧ l.toInt < b.toInt
  · rw [if_neg (fun q => hasL_iff.mp q h), if_pos (noL_iff.mpr h), at5 h hb, at5 h hb]
    have hk := hK l.toNatClampNeg
    generalize K l.toNatClampNeg = k at hk ⊢
    generalize D l.toNatClampNeg = dm
    rcases (show k.toInt = 0 ∨ k.toInt = 1 ∨ k.toInt = 2 by omega) with e | e | e
    · have e2 : k = (0 : Int32) := Int32.toInt_inj.mp (e.trans (by decide))
      subst e2
      simp only [show ¬ ((0 : Int32) = 2) by decide, show (0 : Int32) ≤ 0 by decide, if_true, if_false]
      rfl
    · have e2 : k = (1 : Int32) := Int32.toInt_inj.mp (e.trans (by decide))
      subst e2
      simp only [show ¬ ((1 : Int32) = 2) by decide, show ¬ ((1 : Int32) = 0) by decide, show ¬ ((1 : Int32) ≤ 0) by decide, if_true, if_false]
      rfl
    · have e2 : k = (2 : Int32) := Int32.toInt_inj.mp (e.trans (by decide))
      subst e2
      simp only [show ¬ ((2 : Int32) = 0) by decide, show ¬ ((2 : Int32) = 1) by decide, show ¬ ((2 : Int32) ≤ 0) by decide, if_true, if_false]
      have e3 : ∀ t2 : Int32, (m_X5_silkTells t dm).1 = (dm + 100) + dm := fun _ => rfl
      have e4 : (2 : Int32) * dm + 100 = (dm + 100) + dm := by
        rw [show (2 : Int32) = 1 + 1 by decide, Int32.add_mul, Int32.one_mul, Int32.add_assoc, Int32.add_comm dm (dm + 100)]
      rw [e4]
      rfl
  · rw [if_pos (hasL_iff.mpr h), if_neg (fun q => h (noL_iff.mp q))]
