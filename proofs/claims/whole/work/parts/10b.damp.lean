/-! drying, damp, laws, span, readings: both systems alike -/
theorem mx0 (x : Int32) : (if (0 : Int32) < x then x else (0 : Int32)) = (if 0 ≤ x then x else (0 : Int32)) := by
  by_cases h1 : (0 : Int32) < x
  · have a := lt_ti h1
    rw [if_pos h1, if_pos (Int32.le_iff_toInt_le.mpr (by omega))]
  · rw [if_neg h1]
    by_cases h2 : 0 ≤ x
    · rw [if_pos h2]
      have a := nlt_ti h1
      have c := le_ti h2
      exact (Int32.toInt_inj.mp (by omega)).symm
    · rw [if_neg h2]
theorem l5 {l : Int32} (h : vp_in l 5) : 0 ≤ l.toInt ∧ l.toInt < 5 := vp_in_iff.mp h
theorem dry_eq {c : Int32} {H K : Nat → Int32} {l d : Int32} (hl : vp_in l 5) (hd : vp_in d 6) : m_X8_driesOn c H K l d = m_X2_dryingBy (m_X7_at 5 K l) (if m_X8_isIn c d = 0 then m_X7_at 6 H d else (0 : Int32)) := by
  have a := vp_in_iff.mp hl
  have e := vp_in_iff.mp hd
  rw [at_in (n := 5) a.1 a.2 (by decide), at_in (n := 6) e.1 e.2 (by decide)]
  rfl
theorem damp_l {b c : Int32} {H K : Nat → Int32} {l t : Int32} (hl : vp_in l 5) (ht : t.toInt ≤ b.toInt) (hb : b.toInt ≤ 6) : ∀ (fu : Nat) (y4 y5 : Int32), 0 ≤ y5.toInt → m_X2_dampOnCoolDays_13 fu b H K l t c y4 y5 = m_X8_dampAt_10 fu c H K l t y4 y5 := by
  intro fu
  induction fu with
  | zero => intro y4 y5 h; rfl
  | succ fu ih =>
    intro y4 y5 h
    rw [m_X2_dampOnCoolDays_13, m_X8_dampAt_10]
    by_cases h1 : t ≤ y5
    · rw [if_pos h1, if_pos h1]
    · have a := nle_ti h1
      have h2 : ¬ b ≤ y5 := fun q => by have := le_ti q; omega
      have hd : vp_in y5 6 := vp_in_iff.mpr ⟨h, by omega⟩
      rw [if_neg h1, if_neg h2, if_neg h1]
      have e : m_X8_dried c H K y4 l y5 = (if (0 : Int32) < (y4 - m_X8_driesOn c H K l y5) then (y4 - m_X8_driesOn c H K l y5) else (0 : Int32)) := (mx0 _).symm
      by_cases q : m_X8_isIn c y5 = 0
      · have q2 : (if ((c >>> (y5 &&& 31)) &&& (1 : Int32)) = (1 : Int32) then (1 : Int32) else (0 : Int32)) = 0 := q
        rw [if_pos q2, e, dry_eq hl hd, if_pos q]
        exact ih _ _ (up_nn h1 h)
      · have q2 : ¬ (if ((c >>> (y5 &&& 31)) &&& (1 : Int32)) = (1 : Int32) then (1 : Int32) else (0 : Int32)) = 0 := q
        rw [if_neg q2, e, dry_eq hl hd, if_neg q]
        exact ih _ _ (up_nn h1 h)
theorem damp_eq {b c : Int32} {H K D : Nat → Int32} {l t : Int32} (hl : vp_in l 5) (ht : t.toInt ≤ b.toInt) (hb : b.toInt ≤ 6) : m_X2_dampOnCoolDays b H K D l t c = m_X8_dampAt c H K D l t := by
  have a := vp_in_iff.mp hl
  rw [m_X2_dampOnCoolDays, m_X8_dampAt, at_in (n := 5) a.1 a.2 (by decide)]
  exact damp_l hl ht hb _ _ _ (by decide)
theorem dampB_eq {b : Int32} {H K D : Nat → Int32} {l t : Int32} (hl : vp_in l 5) (ht : t.toInt ≤ b.toInt) (hb : b.toInt ≤ 6) : m_X2_dampBehind b H K D l t = m_X8_dampAt (0 : Int32) H K D l t := by
  rw [m_X2_dampBehind]
  exact damp_eq hl ht hb
theorem isIn0 {d : Int32} (hd : vp_in d 6) : m_X8_isIn (0 : Int32) d = 0 := by
  obtain ⟨j, hj, rfl⟩ := vp_in_of hd (by decide)
  rcases (show j = 0 ∨ j = 1 ∨ j = 2 ∨ j = 3 ∨ j = 4 ∨ j = 5 by omega) with e | e | e | e | e | e <;> (subst e; decide)
theorem vl5 {b l : Int32} (h : 0 ≤ l.toInt ∧ l.toInt < b.toInt) (hb : b.toInt ≤ 5) : vp_in l 5 := vp_in_iff.mpr ⟨h.1, by omega⟩
theorem vd6 {b l : Int32} (h : 0 ≤ l.toInt ∧ l.toInt < b.toInt) (hb : b.toInt ≤ 6) : vp_in l 6 := vp_in_iff.mpr ⟨h.1, by omega⟩
theorem eqf_dries {b n l d : Int32} {H K : Nat → Int32} (hb : b.toInt ≤ 6) (hn : n.toInt ≤ 5) : m_X7_dries b n H K l d = m_X8_dries b n (0 : Int32) H K l d := by
  unfold m_X7_dries m_X8_dries
  by_cases h : 0 ≤ l.toInt ∧ l.toInt < n.toInt
  · rw [if_neg (fun q => hasL_iff.mp q h), if_pos (noL_iff.mpr h)]
    by_cases c : 0 ≤ d.toInt ∧ d.toInt < b.toInt
    · rw [if_neg (fun q => hasD_iff.mp q c), if_pos (noD_iff.mpr c), dry_eq (vl5 h hn) (vd6 c hb), if_pos (isIn0 (vd6 c hb))]
      rfl
    · rw [if_pos (hasD_iff.mpr c), if_neg (fun q => c (noD_iff.mp q))]
  · rw [if_pos (hasL_iff.mpr h), if_neg (fun q => h (noL_iff.mp q))]
theorem eqf_damp {b n l t : Int32} {H K D : Nat → Int32} (hb : b.toInt ≤ 6) (hn : n.toInt ≤ 5) : m_X7_damp b n H K D l t = m_X8_damp b n (0 : Int32) H K D l t := by
  unfold m_X7_damp m_X8_damp
  by_cases h : 0 ≤ l.toInt ∧ l.toInt < n.toInt
  · rw [if_neg (fun q => hasL_iff.mp q h), if_pos (noL_iff.mpr h)]
    by_cases c : 0 ≤ t.toInt ∧ t.toInt ≤ b.toInt
    · rw [if_neg (fun q => hasE_iff.mp q c), if_neg (fun q => inE_iff.mp q c), dampB_eq (vl5 h hn) c.2 hb]
    · rw [if_pos (hasE_iff.mpr c), if_pos (inE_iff.mpr c)]
  · rw [if_pos (hasL_iff.mpr h), if_neg (fun q => h (noL_iff.mp q))]
theorem or0 (x : Int32) : x ||| (0 : Int32) = x := by simp
theorem laws_l {b n t : Int32} {H K D : Nat → Int32} (ht : t.toInt ≤ b.toInt) (hb : b.toInt ≤ 6) (hn : n.toInt ≤ 5) : ∀ (fu : Nat) (y2 y3 : Int32), 0 ≤ y3.toInt → m_X2_lawsBehind_4 fu b n H K D t y2 y3 = m_X8_laws_31 fu n (0 : Int32) H K D t y2 y3 := by
  intro fu
  induction fu with
  | zero => intro y2 y3 h; rfl
  | succ fu ih =>
    intro y2 y3 h
    rw [m_X2_lawsBehind_4, m_X8_laws_31]
    by_cases h1 : n ≤ y3
    · rw [if_pos h1, if_pos h1]
    · have a := nle_ti h1
      rw [if_neg h1, if_neg h1, dampB_eq (vl5 ⟨h, a⟩ hn) ht hb]
      by_cases q : m_X8_dampAt (0 : Int32) H K D y3 t ≤ 0
      · rw [if_pos q, if_pos q, or0]
        exact ih _ _ (up_nn h1 h)
      · rw [if_neg q, if_neg q]
        exact ih _ _ (up_nn h1 h)
theorem eqf_laws {b n t : Int32} {H K D : Nat → Int32} (hb : b.toInt ≤ 6) (hn0 : 0 ≤ n.toInt) (hn : n.toInt ≤ 5) : m_X7_laws b n H K D t = m_X8_laws b n (0 : Int32) H K D t := by
  unfold m_X7_laws m_X8_laws
  by_cases e : n = 0
  · rw [if_pos ((stands_iff hn0).mpr e), if_pos e]
  · rw [if_neg (fun q => e ((stands_iff hn0).mp q)), if_neg e]
    by_cases c : 0 ≤ t.toInt ∧ t.toInt ≤ b.toInt
    · rw [if_neg (fun q => hasE_iff.mp q c), if_neg (fun q => inE_iff.mp q c)]
      rw [m_X2_lawsBehind]
      exact laws_l c.2 hb hn _ _ _ (by decide)
    · rw [if_pos (hasE_iff.mpr c), if_pos (inE_iff.mpr c)]
theorem span_l {b l d : Int32} {H K D : Nat → Int32} (hl : vp_in l 5) (hd : vp_in d 6) (hb : b.toInt ≤ 6) : ∀ (fu : Nat) (y4 y5 : Int32) (z : Nat → Int32), m_X2_mostHeat_16 fu b H K D l d y4 y5 z = m_X8_span_32 fu b (0 : Int32) H K D l d y4 y5 z := by
  have e := vp_in_iff.mp hd
  intro fu
  induction fu with
  | zero => intro y4 y5 z; rfl
  | succ fu ih =>
    intro y4 y5 z
    rw [m_X2_mostHeat_16, m_X8_span_32, at_in (n := 6) e.1 e.2 (by decide), set_in (n := 6) e.1 e.2 (by decide), set_in (n := 6) e.1 e.2 (by decide), dampB_eq hl (Int.le_refl _) hb]
    by_cases h1 : (10 : Int32) ≤ y5
    · rw [if_pos h1, if_pos h1]
    · rw [if_neg h1, if_neg h1]
      by_cases q : m_X8_dampAt (0 : Int32) (upd z d.toNatClampNeg y5) K D l b ≤ 0
      · rw [if_pos q, if_pos q]; exact ih _ _ _
      · rw [if_neg q, if_neg q]; exact ih _ _ _
theorem eqf_span {b n l d : Int32} {H K D : Nat → Int32} (hb : b.toInt ≤ 6) (hn : n.toInt ≤ 5) : m_X7_span b n H K D l d = m_X8_span b n (0 : Int32) H K D l d := by
  unfold m_X7_span m_X8_span
  by_cases h : 0 ≤ l.toInt ∧ l.toInt < n.toInt
  · rw [if_neg (fun q => hasL_iff.mp q h), if_pos (noL_iff.mpr h)]
    by_cases c : 0 ≤ d.toInt ∧ d.toInt < b.toInt
    · rw [if_neg (fun q => hasD_iff.mp q c), if_pos (noD_iff.mpr c), m_X2_mostHeat, span_l (vl5 h hn) (vd6 c hb) hb]
    · rw [if_pos (hasD_iff.mpr c), if_neg (fun q => c (noD_iff.mp q))]
  · rw [if_pos (hasL_iff.mpr h), if_neg (fun q => h (noL_iff.mp q))]
def rdI (b rc : Int32) (rL rE : Nat → Int32) : Prop := (0 ≤ rc.toInt ∧ rc.toInt ≤ 8) ∧ (∀ j : Nat, vp_in (rL j) 5) ∧ ∀ j : Nat, (j : Int) < rc.toInt → (rE j).toInt ≤ b.toInt
theorem so_0 {rc : Int32} {rL rE rD H K D : Nat → Int32} : ∀ (fu : Nat) (y2 : Int32), m_X8_areSo_4 fu (0 : Int32) rc rL rE rD H K D (0 : Int32) y2 = 0 := by
  intro fu
  induction fu with
  | zero => intro y2; rfl
  | succ fu ih =>
    intro y2
    rw [m_X8_areSo_4]
    by_cases h : rc ≤ y2
    · rw [if_pos h]
    · rw [if_neg h, if_pos rfl]; exact ih _
theorem so_l {b rc : Int32} {rL rE rD H K D : Nat → Int32} (hb : b.toInt ≤ 6) (hI : rdI b rc rL rE) : ∀ (fu : Nat) (y2 : Int32), 0 ≤ y2.toInt → m_X1_areSo_2 fu rc rL rE rD b H K D y2 = m_X8_areSo_4 fu (0 : Int32) rc rL rE rD H K D (1 : Int32) y2 := by
  intro fu
  induction fu with
  | zero => intro y2 h; rfl
  | succ fu ih =>
    intro y2 h
    rw [m_X1_areSo_2, m_X8_areSo_4]
    by_cases h1 : rc ≤ y2
    · rw [if_pos h1, if_pos h1]
    · have a := nle_ti h1
      have h8 : y2.toInt < (8 : Nat) := by have := hI.1.2; omega
      have ej := tnc h
      rw [if_neg h1, if_neg h1, if_neg (show ¬ (1 : Int32) = 0 by decide), at_in (n := 8) h h8 (by decide), at_in (n := 8) h h8 (by decide), at_in (n := 8) h h8 (by decide), dampB_eq (hI.2.1 _) (hI.2.2 _ (by omega)) hb]
      by_cases q : m_X8_dampAt (0 : Int32) H K D (rL y2.toNatClampNeg) (rE y2.toNatClampNeg) = rD y2.toNatClampNeg
      · rw [if_pos q, if_pos q]; exact ih _ (up_nn h1 h)
      · rw [if_neg q, if_neg q]; exact (so_0 fu _).symm
theorem so_eq {b rc : Int32} {rL rE rD H K D : Nat → Int32} (hb : b.toInt ≤ 6) (hI : rdI b rc rL rE) : m_X1_areSo rc rL rE rD b H K D = m_X8_areSo (0 : Int32) rc rL rE rD H K D := by
  rw [m_X1_areSo, m_X8_areSo]
  exact so_l hb hI _ _ (by decide)
