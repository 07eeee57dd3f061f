theorem bey_iff {i n all : Int32} : m_X8_isBeyond i n.toInt64 all = 0 ↔ (0 ≤ i.toInt ∧ 0 ≤ n.toInt ∧ i.toInt + n.toInt ≤ all.toInt) := by
  refine ⟨bey_ok, fun q => ?_⟩
  unfold m_X8_isBeyond
  rw [if_neg (nlt0_of q.1), if_neg, if_pos]
  · rw [lg_cmp_le, Int64.le_iff_toInt_le, Int64.toInt_add, Int32.toInt_toInt64, Int32.toInt_toInt64, Int32.toInt_toInt64]
    have b1 := ti_hi i
    have b2 := ti_hi n
    rw [Int.bmod_eq_of_le (by omega) (by omega)]
    exact q.2.2
  · rw [lg_cmp_lt, Int64.lt_iff_toInt_lt, Int32.toInt_toInt64, t64_0]
    omega
theorem cb_eq {F has lane len ln i n k : Int32} {A mSz mLane mSh : Nat → Int32} (hk : vp_in k 4) (h : SHK k.toNatClampNeg has lane len A mSz mLane mSh) :
    (m_X4_faultOfCells has lane len ln i n = 0 ∧ 0 ≤ (m_X8_cellsBarred F mSz mLane k ln i n.toInt64).1 ∧ 0 ≤ i.toInt ∧ 0 ≤ n.toInt ∧ i.toInt + n.toInt ≤ 60 ∧ ∀ j : Nat, (j : Int) < i.toInt + n.toInt → A j = mSh (60 * k.toNatClampNeg + j)) ∨
    (¬ m_X4_faultOfCells has lane len ln i n = 0 ∧ ¬ 0 ≤ (m_X8_cellsBarred F mSz mLane k ln i n.toInt64).1 ∧ (m_X7_faulted (m_X4_faultOfCells has lane len ln i n)).1 = (m_X8_cellsBarred F mSz mLane k ln i n.toInt64).1 ∧ (m_X7_faulted (m_X4_faultOfCells has lane len ln i n)).2 = (m_X8_cellsBarred F mSz mLane k ln i n.toInt64).2) := by
  have hl := shr_len h
  unfold m_X4_faultOfCells m_X8_cellsBarred
  rcases id h.2 with ⟨a, e⟩ | ⟨a, e, el, en, eA⟩
  · rw [if_pos e, if_pos a, if_neg (fun q => le0_nlt.mp q a)]
    exact Or.inr ⟨by decide, fail_neg (by decide) (by decide), rfl, rfl⟩
  · have a0 := le0_of a
    have hh : ¬ has = 0 := by rw [e]; decide
    rw [if_neg hh, if_neg (le0_nlt.mp a0)]
    by_cases q : lane = ln
    · rw [if_pos q, if_pos (en.symm.trans q), if_pos a0]
      by_cases d : 0 ≤ n
      · have d1 := le_ti d
        rw [ti_0] at d1
        rw [if_pos d, if_pos (show 0 ≤ lg_cmp n.toInt64 (0 : Int64) by rw [lg_cmp_ge, Int64.le_iff_toInt_le, Int32.toInt_toInt64, t64_0]; exact d1)]
        by_cases c : 0 ≤ i.toInt ∧ 0 ≤ n.toInt ∧ i.toInt + n.toInt ≤ len.toInt
        · rw [if_neg (fun q => (holds_iff hl.1 hl.2).mp q c), if_pos (bey_iff.mpr (by rw [← el]; exact c))]
          exact Or.inl ⟨rfl, (show (0 : Int32) ≤ (0 : Int32) by decide), c.1, c.2.1, by omega, fun j hj => eA j (by rw [← el]; omega)⟩
        · rw [if_pos ((holds_iff hl.1 hl.2).mpr c), if_neg (fun q => c (by rw [el]; exact bey_iff.mp q))]
          exact Or.inr ⟨by decide, fail_neg (by decide) (by decide), rfl, rfl⟩
      · have d1 := nle_ti d
        rw [ti_0] at d1
        rw [if_neg d, if_neg (show ¬ 0 ≤ lg_cmp n.toInt64 (0 : Int64) by rw [lg_cmp_ge, Int64.le_iff_toInt_le, Int32.toInt_toInt64, t64_0]; omega)]
        exact Or.inr ⟨by decide, fail_neg (by decide) (by decide), rfl, rfl⟩
    · rw [if_neg q, if_neg (fun z => q (en.trans z))]
      exact Or.inr ⟨by decide, fail_neg (by decide) (by decide), rfl, rfl⟩
theorem num_eq {i n k : Int32} {A mSh : Nat → Int32} (hk : vp_in k 4) (h0 : 0 ≤ i.toInt) (h1 : i.toInt + n.toInt ≤ 60) (hA : ∀ j : Nat, (j : Int) < i.toInt + n.toInt → A j = mSh (60 * k.toNatClampNeg + j)) : ∀ y : Int32, 0 ≤ y.toInt → y.toInt < n.toInt → m_X4_number A (i + y) = mSh ((60 : Int32) * k + i + y).toNatClampNeg := by
  intro y g0 g1
  have e : (i + y).toInt = i.toInt + y.toInt := ti_add (by omega) (by omega)
  have t := tnc (x := i + y) (by omega)
  have ti := tnc h0
  have ty := tnc g0
  unfold m_X4_number
  rw [at_in (by omega) (by omega) (by decide), hA _ (by omega), idx2 hk h0 g0 (by omega)]
  exact congrArg mSh (by omega)
theorem asked_iff {w : Int32} : m_X6_isAsked w = 0 ↔ ¬ ((0 ≤ w.toInt ∧ w.toInt ≤ 3) ∨ (10 ≤ w.toInt ∧ w.toInt < 15) ∨ (20 ≤ w.toInt ∧ w.toInt < 24)) := by
  have k0 : (0 : Int32).toInt = 0 := by decide
  have k3 : (3 : Int32).toInt = 3 := by decide
  have k10 : (10 : Int32).toInt = 10 := by decide
  have k15 : (15 : Int32).toInt = 15 := by decide
  have k20 : (20 : Int32).toInt = 20 := by decide
  have k24 : (24 : Int32).toInt = 24 := by decide
  have y0 : ∀ {p : Prop}, ¬ p → ((0 : Int32) = 0 ↔ ¬ p) := fun h => ⟨fun _ => h, fun _ => rfl⟩
  have y1 : ∀ {p : Prop}, p → ((1 : Int32) = 0 ↔ ¬ p) := fun h => ⟨fun q => absurd q (by decide), fun q => absurd h q⟩
  unfold m_X6_isAsked
  by_cases a : w < 0
  · have a1 := lt_ti a
    rw [if_pos a, if_pos (Int32.lt_iff_toInt_lt.mpr (by omega)), if_pos (Int32.lt_iff_toInt_lt.mpr (by omega))]
    exact y0 (by omega)
  · have a1 := nlt_ti0 a
    rw [if_neg a]
    by_cases b : w ≤ (3 : Int32)
    · have b1 := le_ti b
      rw [if_pos b]
      exact y1 (by omega)
    · have b1 := nle_ti b
      rw [if_neg b]
      by_cases c : w < (10 : Int32)
      · have c1 := lt_ti c
        rw [if_pos c, if_pos (Int32.lt_iff_toInt_lt.mpr (by omega))]
        exact y0 (by omega)
      · have c1 := nlt_ti c
        rw [if_neg c]
        by_cases d : w < (15 : Int32)
        · have d1 := lt_ti d
          rw [if_pos d]
          exact y1 (by omega)
        · have d1 := nlt_ti d
          rw [if_neg d]
          by_cases e : w < (20 : Int32)
          · have e1 := lt_ti e
            rw [if_pos e]
            exact y0 (by omega)
          · have e1 := nlt_ti e
            rw [if_neg e]
            by_cases f : (24 : Int32) ≤ w
            · have f1 := le_ti f
              rw [if_pos f]
              exact y0 (by omega)
            · have f1 := nle_ti f
              rw [if_neg f]
              exact y1 (by omega)
theorem asks3 {α : Type} {P1 P2 P3 L N A : Int32} {r c : α} (hA : A = 0 ↔ (P1 = 0 ∧ P2 = 0 ∧ P3 = 0)) :
    (if P1 = 0 then (if P2 = 0 then (if L = 0 then r else (if N = 0 then r else (if (if P3 = 0 then (0 : Int32) else (1 : Int32)) = 0 then r else c))) else (if L = 0 then r else (if N = 0 then r else (if (1 : Int32) = 0 then r else c)))) else (if L = 0 then r else (if N = 0 then r else (if (1 : Int32) = 0 then r else c)))) = (if L = 0 then r else (if N = 0 then r else (if A = 0 then r else c))) := by
  by_cases h1 : P1 = 0
  · rw [if_pos h1]
    by_cases h2 : P2 = 0
    · rw [if_pos h2]
      by_cases h3 : P3 = 0
      · rw [if_pos h3, if_pos (rfl : (0 : Int32) = 0), if_pos (hA.mpr ⟨h1, h2, h3⟩)]
      · rw [if_neg h3, if_neg (show ¬ (1 : Int32) = 0 by decide), if_neg (fun q => h3 (hA.mp q).2.2)]
    · rw [if_neg h2, if_neg (show ¬ (1 : Int32) = 0 by decide), if_neg (fun q => h2 (hA.mp q).2.1)]
  · rw [if_neg h1, if_neg (show ¬ (1 : Int32) = 0 by decide), if_neg (fun q => h1 (hA.mp q).1)]
theorem asked3 {w : Int32} : m_X6_isAsked w = 0 ↔ (m_X8_in w.toInt64 (0 : Int64) (3 : Int64) = 0 ∧ m_X8_in w.toInt64 (10 : Int64) (14 : Int64) = 0 ∧ m_X8_in w.toInt64 (20 : Int64) (23 : Int64) = 0) := by
  rw [asked_iff, in_iff, in_iff, in_iff, Int32.toInt_toInt64, t64_0, show (3 : Int64).toInt = 3 by decide, show (10 : Int64).toInt = 10 by decide, show (14 : Int64).toInt = 14 by decide, show (20 : Int64).toInt = 20 by decide, show (23 : Int64).toInt = 23 by decide]
  omega
theorem in40_iff {v : Int32} : m_X8_in v.toInt64 (0 : Int64) (40 : Int64) = 0 ↔ ¬ (0 ≤ v.toInt ∧ v.toInt < 41) := by
  rw [in_iff, Int32.toInt_toInt64, t64_0, show (40 : Int64).toInt = 40 by decide]
  omega
theorem isB41_iff {v : Int32} : m_X7_isBelow v (41 : Int32) = 0 ↔ ¬ (0 ≤ v.toInt ∧ v.toInt < 41) := by
  rw [isB_iff, show (41 : Int32).toInt = 41 by decide]
/-- the states of both weepings -/
def RD (lin : Int32) (wD mD : Nat → Int32) : Prop := ∀ j : Nat, (j : Int) < lin.toInt → wD j = mD j
def RS (wS mS : Nat → Int32) : Prop := ∀ j : Nat, j < 4 → wS j = mS j ∧ 0 ≤ (wS j).toInt
theorem RD_u {lin v : Int32} {wD mD : Nat → Int32} {k : Nat} (h : RD lin wD mD) : RD lin (upd wD k v) (upd mD k v) := by
  intro j hj
  by_cases e : j = k
  · rw [e, pk_us, pk_us]
  · rw [pk_un e, pk_un e]; exact h j hj
theorem RS_u {v : Int32} {wS mS : Nat → Int32} {k : Nat} (h : RS wS mS) (hv : 0 ≤ v.toInt) : RS (upd wS k v) (upd mS k v) := by
  intro j hj
  by_cases e : j = k
  · rw [e, pk_us, pk_us]; exact ⟨rfl, hv⟩
  · rw [pk_un e, pk_un e]; exact h j hj
theorem ln_l {lin : Int32} {wD mD : Nat → Int32} (hn : lin.toInt ≤ 5) (hR : RD lin wD mD) : ∀ (fu : Nat) (y2 y3 : Int32), 0 ≤ y3.toInt → m_X6_lawsNow_4 fu wD lin y2 y3 = m_X8_lawNow_4 fu lin mD y2 y3 := by
  intro fu
  induction fu with
  | zero => intro y2 y3 _; rfl
  | succ fu ih =>
    intro y2 y3 h0
    rw [m_X6_lawsNow_4, m_X8_lawNow_4]
    by_cases q : lin ≤ y3
    · rw [if_pos q, if_pos q]
    · rw [if_neg q, if_neg q]
      have a := nle_ti q
      have t := tnc h0
      rw [at_in (n := 5) h0 (by omega) (by decide), hR _ (by omega)]
      by_cases c : (mD y3.toNatClampNeg) ≤ 0
      · rw [if_pos c, if_pos c, or0]
        exact ih y2 (y3 + 1) (up_nn q h0)
      · rw [if_neg c, if_neg c]
        exact ih _ (y3 + 1) (up_nn q h0)
theorem ln_eq {lin : Int32} {wD mD : Nat → Int32} (hn : lin.toInt ≤ 5) (hR : RD lin wD mD) : m_X6_lawsNow wD lin = m_X8_lawNow lin mD := ln_l hn hR _ 0 0 (by decide)
theorem ev_l {lin ev last : Int32} {H K : Nat → Int32} (hn : lin.toInt ≤ 5) (hd : vp_in ev 6) : ∀ (fu : Nat) (y : Int32) (wD mD : Nat → Int32), (lin.toInt - y.toInt).toNat < fu → 0 ≤ y.toInt → RD lin wD mD →
    (m_X6_eveningComes_15 fu lin H K ev last y wD).1 = (m_X8_doesEvening_15 fu lin (0 : Int32) H K ev last y mD).1 ∧ (m_X6_eveningComes_15 fu lin H K ev last y wD).2.1 = (m_X8_doesEvening_15 fu lin (0 : Int32) H K ev last y mD).2.1 ∧ (m_X6_eveningComes_15 fu lin H K ev last y wD).2.2.1 = (m_X8_doesEvening_15 fu lin (0 : Int32) H K ev last y mD).2.2.1 ∧ RD lin (m_X6_eveningComes_15 fu lin H K ev last y wD).2.2.2 (m_X8_doesEvening_15 fu lin (0 : Int32) H K ev last y mD).2.2.2 := by
  intro fu
  induction fu with
  | zero => intro y wD mD hm; exact absurd hm (Nat.not_lt_zero _)
  | succ fu ih =>
    intro y wD mD hm h0 hR
    rw [m_X6_eveningComes_15, m_X8_doesEvening_15]
    by_cases q : lin ≤ y
    · rw [if_pos q, if_pos q, ln_eq hn hR]
      exact ⟨rfl, rfl, rfl, hR⟩
    · rw [if_neg q, if_neg q]
      have a := nle_ti q
      have t := tnc h0
      have hl : vp_in y 5 := vp_in_iff.mpr ⟨h0, by omega⟩
      have e5 : ∀ v : Int32, m_X7_set 5 wD y v = upd wD y.toNatClampNeg v := fun v => set_in h0 (by omega) (by decide)
      rw [e5, at_in (n := 5) h0 (by omega) (by decide), hR _ (by omega)]
      unfold m_X8_dried
      rw [ons_eq hl hd, mx0]
      exact ih (y + 1) _ _ (up_dec q hm) (up_nn q h0) (RD_u hR)
theorem ev_eq {lin days ev last : Int32} {H K wD mD : Nat → Int32} (hn : lin.toInt ≤ 5) (h0 : 0 ≤ ev.toInt) (h1 : ev.toInt ≤ days.toInt) (h6 : days.toInt ≤ 6) (hR : RD lin wD mD) :
    (m_X6_eveningComes ev last wD days lin H K).1 = (m_X8_doesEvening days lin (0 : Int32) ev last mD H K).1 ∧ (m_X6_eveningComes ev last wD days lin H K).2.1 = (m_X8_doesEvening days lin (0 : Int32) ev last mD H K).2.1 ∧ (m_X6_eveningComes ev last wD days lin H K).2.2.1 = (m_X8_doesEvening days lin (0 : Int32) ev last mD H K).2.2.1 ∧ RD lin (m_X6_eveningComes ev last wD days lin H K).2.2.2 (m_X8_doesEvening days lin (0 : Int32) ev last mD H K).2.2.2 := by
  unfold m_X6_eveningComes m_X8_doesEvening
  by_cases c : ev = days
  · rw [if_pos c, if_neg (show ¬ ev < days from fun q => by have := lt_ti q; rw [c] at this; omega)]
    exact ⟨rfl, rfl, rfl, hR⟩
  · have h2 : ev.toInt < days.toInt := by
      refine Classical.byContradiction fun g => c (Int32.toInt_inj.mp (by omega))
    rw [if_neg c, if_pos (Int32.lt_iff_toInt_lt.mpr h2)]
    exact ev_l hn (vp_in_iff.mpr ⟨h0, by omega⟩) _ 0 wD mD (Nat.lt_succ_self _) (by decide) hR
theorem wept_eq {x : Int32} : (if (x + (3 : Int32)) < (9 : Int32) then (x + (3 : Int32)) else (9 : Int32)) = m_X8_wept x := by
  unfold m_X8_wept
  by_cases c : (x + (3 : Int32)) < (9 : Int32)
  · have := lt_ti c
    rw [if_pos c, if_pos (Int32.le_iff_toInt_le.mpr (by omega))]
  · have h1 := nlt_ti c
    rw [if_neg c]
    by_cases d : (x + (3 : Int32)) ≤ (9 : Int32)
    · have h2 := le_ti d
      rw [if_pos d]
      exact Int32.toInt_inj.mp (by omega)
    · rw [if_neg d]
theorem ws_eq {lin acts w l : Int32} {O wS mS wD mD : Nat → Int32} (hw : vp_in w 4) (hl : vp_in l 5) (hl2 : l.toInt < lin.toInt) (hS : RS wS mS) (hR : RD lin wD mD) :
    (m_X6_weeps acts wS wD O w l).1 = (m_X8_doesWeep acts mS mD O w l).1 ∧ (m_X6_weeps acts wS wD O w l).2.1 = (m_X8_doesWeep acts mS mD O w l).2.1 ∧ RS (m_X6_weeps acts wS wD O w l).2.2.1 (m_X8_doesWeep acts mS mD O w l).2.2.1 ∧ RD lin (m_X6_weeps acts wS wD O w l).2.2.2 (m_X8_doesWeep acts mS mD O w l).2.2.2 := by
  have w4 := vp_in_iff.mp hw
  have l5 := vp_in_iff.mp hl
  have tw := tnc w4.1
  have tl := tnc l5.1
  have e4 : ∀ v : Int32, m_X7_set 4 wS w v = upd wS w.toNatClampNeg v := fun v => set_in w4.1 (by omega) (by decide)
  have e5 : ∀ v : Int32, m_X7_set 5 wD l v = upd wD l.toNatClampNeg v := fun v => set_in l5.1 (by omega) (by decide)
  obtain ⟨s1, s2⟩ := hS w.toNatClampNeg (by omega)
  have d1 := hR l.toNatClampNeg (by omega)
  unfold m_X6_weeps m_X8_doesWeep
  rw [e4, e5, e5, at_in (n := 4) (f := wS) w4.1 (by omega) (by decide), at_in (n := 5) (f := O) l5.1 (by omega) (by decide), at_in (n := 5) (f := wD) l5.1 (by omega) (by decide), wept_eq, s1, d1]
  rw [s1] at s2
  by_cases c : (mS w.toNatClampNeg) = 0
  · rw [if_pos c, if_neg (show ¬ 0 < (mS w.toNatClampNeg) from fun q => by have := lt_ti q; rw [c] at this; omega)]
    exact ⟨rfl, rfl, hS, hR⟩
  · have p : 0 < (mS w.toNatClampNeg).toInt := by
      refine Classical.byContradiction fun g => c (Int32.toInt_inj.mp (by rw [ti_0]; omega))
    have hv : 0 ≤ ((mS w.toNatClampNeg) - (1 : Int32)).toInt := by
      have := ti_hi (mS w.toNatClampNeg)
      rw [ti_sub (by rw [ti_1]; omega) (by rw [ti_1]; omega), ti_1]; omega
    rw [if_neg c, if_pos (Int32.lt_iff_toInt_lt.mpr (by rw [ti_0]; exact p))]
    by_cases d : O l.toNatClampNeg = w
    · rw [if_pos d, if_pos d, if_neg (show ¬ (1 : Int32) = 0 by decide)]
      exact ⟨rfl, rfl, RS_u hS hv, RD_u hR⟩
    · rw [if_neg d, if_neg d, if_pos rfl]
      exact ⟨rfl, rfl, RS_u hS hv, RD_u hR⟩
theorem act_l {b a : Int32} (h : ¬ m_X8_isAct b a = 0) (c : ¬ a = (40 : Int32)) : (a - a / (10 : Int32) * (10 : Int32)).toInt < b.toInt := by
  unfold m_X8_isAct at h
  rw [if_neg c] at h
  by_cases c1 : m_X8_in a.toInt64 (0 : Int64) (39 : Int64) = 0
  · rw [if_pos c1] at h; exact absurd rfl h
  · rw [if_neg c1] at h
    by_cases c2 : m_X8_noLinen b (a - a / (10 : Int32) * (10 : Int32)) = 0
    · exact (noL_iff.mp c2).2
    · rw [if_neg c2] at h; exact absurd rfl h
def plP (lin : Int32) (c m : Int32 × Int32 × Int32 × Int32 × (Nat → Int32) × (Nat → Int32)) : Prop :=
  c.2.1 = m.2.2.1 ∧ c.2.2.1 = m.2.1 ∧ c.2.2.2.1 = m.2.2.2.1 ∧ RS c.2.2.2.2.1 m.2.2.2.2.2 ∧ RD lin c.2.2.2.2.2 m.2.2.2.2.1 ∧ (c.2.2.2.1 = (-9 : Int32) ∨ 0 ≤ c.2.2.2.1.toInt)
theorem pl_8 {lin days i n frm : Int32} {H K O A sh : Nat → Int32} (hn : lin.toInt ≤ 5) (h6 : days.toInt ≤ 6) (hC : ∀ y : Int32, 0 ≤ y.toInt → y.toInt < n.toInt → m_X4_number A (i + y) = sh (frm + y).toNatClampNeg) (hAct : ∀ y : Int32, 0 ≤ y.toInt → y.toInt < n.toInt → ¬ m_X8_isAct lin (sh (frm + y).toNatClampNeg) = 0) :
    ∀ (fu : Nat) (y ev acts last wrong : Int32) (wS mS wD mD : Nat → Int32), (n.toInt - y.toInt).toNat < fu → 0 ≤ y.toInt → 0 ≤ ev.toInt → ev.toInt ≤ days.toInt → (wrong = (-9 : Int32) ∨ 0 ≤ wrong.toInt) → RS wS mS → RD lin wD mD →
      plP lin (m_X6_play_8 fu days lin H K O A i n y ev acts last wrong wS wD) (m_X8_goWeeping_6 fu days lin (0 : Int32) sh H K O frm n y ev last acts wrong mD mS) := by
  intro fu
  induction fu with
  | zero => intro y ev acts last wrong wS mS wD mD hm; exact absurd hm (Nat.not_lt_zero _)
  | succ fu ih =>
    intro y ev acts last wrong wS mS wD mD hm h0 g0 g1 hw hS hR
    rw [m_X6_play_8, m_X8_goWeeping_6]
    by_cases q : n ≤ y
    · rw [if_pos q, if_pos q]
      exact ⟨rfl, rfl, rfl, hS, hR, hw⟩
    · rw [if_neg q, if_neg q]
      by_cases c : wrong = (-9 : Int32)
      · rw [if_pos c, if_neg (show ¬ 0 ≤ wrong from fun z => by have := le_ti z; rw [c] at this; exact absurd this (by decide))]
        have a := nle_ti q
        have e := hC y h0 a
        have ac := hAct y h0 a
        rw [e]
        by_cases d : sh (frm + y).toNatClampNeg = (40 : Int32)
        · rw [if_pos d, if_pos d]
          obtain ⟨v1, v2, v3, v4⟩ := ev_eq (last := last) (H := H) (K := K) hn g0 g1 h6 hR
          have v5 := de_dn (lin := lin) (cool := (0 : Int32)) (l := last) (dn := mD) (mH := H) (mK := K) g0 g1
          rw [v1, v2, v3]
          by_cases z : (m_X8_doesEvening days lin (0 : Int32) ev last mD H K).1 = 0
          · rw [if_pos z, if_pos z]
            exact ih (y + 1) _ _ _ _ _ _ _ _ (up_dec q hm) (up_nn q h0) v5.1 v5.2 (Or.inr h0) hS v4
          · rw [if_neg z, if_neg z, c]
            exact ih (y + 1) _ _ _ _ _ _ _ _ (up_dec q hm) (up_nn q h0) v5.1 v5.2 (Or.inl rfl) hS v4
        · rw [if_neg d, if_neg d]
          obtain ⟨k1, k2⟩ := act_ok ac d hn
          obtain ⟨v1, v2, v3, v4⟩ := ws_eq (acts := acts) (O := O) k1 k2 (act_l ac d) hS hR
          rw [v1, v2]
          by_cases z : (m_X8_doesWeep acts mS mD O ((sh (frm + y).toNatClampNeg) / (10 : Int32)) ((sh (frm + y).toNatClampNeg) - (sh (frm + y).toNatClampNeg) / (10 : Int32) * (10 : Int32))).1 = 0
          · rw [if_pos z, if_pos z]
            exact ih (y + 1) _ _ _ _ _ _ _ _ (up_dec q hm) (up_nn q h0) g0 g1 (Or.inr h0) v3 v4
          · rw [if_neg z, if_neg z, c]
            exact ih (y + 1) _ _ _ _ _ _ _ _ (up_dec q hm) (up_nn q h0) g0 g1 (Or.inl rfl) v3 v4
      · rw [if_neg c, if_pos (le0_of (hw.resolve_left c))]
        exact ⟨rfl, rfl, rfl, hS, hR, hw⟩
theorem bgC_31 {lin : Int32} {D kS : Nat → Int32} : ∀ (fu : Nat) (y : Int32) (z : Nat → Int32), ((5 : Int32).toInt - y.toInt).toNat < fu → 0 ≤ y.toInt → y.toInt ≤ 5 → (∀ j : Nat, j < y.toNatClampNeg → z j = D j) →
    ∃ s : Nat → Int32, m_X6_begin_31 fu lin D kS y z = ((0 : Int32), (0 : Int32), (((1 : Int32) <<< (lin &&& 31)) - (1 : Int32)), (-9 : Int32), kS, s) ∧ ∀ j : Nat, j < 5 → s j = D j := by
  intro fu
  induction fu with
  | zero => intro y z hm; exact absurd hm (Nat.not_lt_zero _)
  | succ fu ih =>
    intro y z hm h0 h5 hz
    have e5 : (5 : Int32).toInt = 5 := by decide
    have t := tnc h0
    rw [m_X6_begin_31]
    by_cases q : (5 : Int32) ≤ y
    · rw [if_pos q]
      have a := le_ti q
      exact ⟨z, rfl, fun j hj => hz j (by omega)⟩
    · rw [if_neg q]
      have a := nle_ti q
      have e1 := up_1 q
      have t1 := tnc (x := y + 1) (by omega)
      rw [at_in (n := 5) h0 (by omega) (by decide), set_in (n := 5) h0 (by omega) (by decide)]
      refine ih (y + 1) _ (up_dec q hm) (up_nn q h0) (by omega) (fun j hj => ?_)
      by_cases e : j = y.toNatClampNeg
      · rw [e, pk_us]
      · rw [pk_un e]; exact hz j (by omega)
theorem bgC_2 {lin : Int32} {S D kD : Nat → Int32} : ∀ (fu : Nat) (y : Int32) (z : Nat → Int32), ((4 : Int32).toInt - y.toInt).toNat < fu → 0 ≤ y.toInt → y.toInt ≤ 4 → (∀ j : Nat, j < y.toNatClampNeg → z j = S j) →
    ∃ s d : Nat → Int32, m_X6_begin_2 fu lin S D kD y z = ((0 : Int32), (0 : Int32), (((1 : Int32) <<< (lin &&& 31)) - (1 : Int32)), (-9 : Int32), s, d) ∧ (∀ j : Nat, j < 4 → s j = S j) ∧ ∀ j : Nat, j < 5 → d j = D j := by
  intro fu
  induction fu with
  | zero => intro y z hm; exact absurd hm (Nat.not_lt_zero _)
  | succ fu ih =>
    intro y z hm h0 h4 hz
    have e4 : (4 : Int32).toInt = 4 := by decide
    have t := tnc h0
    rw [m_X6_begin_2]
    by_cases q : (4 : Int32) ≤ y
    · rw [if_pos q]
      have a := le_ti q
      obtain ⟨d, d1, d2⟩ := bgC_31 (lin := lin) (D := D) (kS := z) (((5 : Int32).toInt - (0 : Int32).toInt).toNat + 1) 0 kD (Nat.lt_succ_self _) (by decide) (by decide) (fun j hj => absurd hj (by rw [show (0 : Int32).toNatClampNeg = 0 by decide]; omega))
      exact ⟨z, d, d1, fun j hj => hz j (by omega), d2⟩
    · rw [if_neg q]
      have a := nle_ti q
      have e1 := up_1 q
      have t1 := tnc (x := y + 1) (by omega)
      rw [at_in (n := 4) h0 (by omega) (by decide), set_in (n := 4) h0 (by omega) (by decide)]
      refine ih (y + 1) _ (up_dec q hm) (up_nn q h0) (by omega) (fun j hj => ?_)
      by_cases e : j = y.toNatClampNeg
      · rw [e, pk_us]
      · rw [pk_un e]; exact hz j (by omega)
theorem bgM_30 {lin : Int32} {S kD : Nat → Int32} : ∀ (fu : Nat) (y : Int32) (z : Nat → Int32), ((4 : Int32).toInt - y.toInt).toNat < fu → 0 ≤ y.toInt → y.toInt ≤ 4 → (∀ j : Nat, j < y.toNatClampNeg → z j = S j) →
    ∃ s : Nat → Int32, m_X8_begin_30 fu lin S kD y z = ((((1 : Int32) <<< (lin &&& 31)) - (1 : Int32)), kD, s) ∧ ∀ j : Nat, j < 4 → s j = S j := by
  intro fu
  induction fu with
  | zero => intro y z hm; exact absurd hm (Nat.not_lt_zero _)
  | succ fu ih =>
    intro y z hm h0 h4 hz
    have e4 : (4 : Int32).toInt = 4 := by decide
    have t := tnc h0
    rw [m_X8_begin_30]
    by_cases q : (4 : Int32) ≤ y
    · rw [if_pos q]
      have a := le_ti q
      exact ⟨z, rfl, fun j hj => hz j (by omega)⟩
    · rw [if_neg q]
      have a := nle_ti q
      have e1 := up_1 q
      have t1 := tnc (x := y + 1) (by omega)
      refine ih (y + 1) _ (up_dec q hm) (up_nn q h0) (by omega) (fun j hj => ?_)
      by_cases e : j = y.toNatClampNeg
      · rw [e, pk_us]
      · rw [pk_un e]; exact hz j (by omega)
theorem bgM_2 {lin : Int32} {S D kS : Nat → Int32} (hl0 : 0 ≤ lin.toInt) : ∀ (fu : Nat) (y : Int32) (z : Nat → Int32), (lin.toInt - y.toInt).toNat < fu → 0 ≤ y.toInt → y.toInt ≤ lin.toInt → (∀ j : Nat, j < y.toNatClampNeg → z j = D j) →
    ∃ d s : Nat → Int32, m_X8_begin_2 fu lin D S kS y z = ((((1 : Int32) <<< (lin &&& 31)) - (1 : Int32)), d, s) ∧ (∀ j : Nat, (j : Int) < lin.toInt → d j = D j) ∧ ∀ j : Nat, j < 4 → s j = S j := by
  intro fu
  induction fu with
  | zero => intro y z hm; exact absurd hm (Nat.not_lt_zero _)
  | succ fu ih =>
    intro y z hm h0 h4 hz
    have t := tnc h0
    rw [m_X8_begin_2]
    by_cases q : lin ≤ y
    · rw [if_pos q]
      have a := le_ti q
      obtain ⟨s, s1, s2⟩ := bgM_30 (lin := lin) (S := S) (kD := z) (((4 : Int32).toInt - (0 : Int32).toInt).toNat + 1) 0 kS (Nat.lt_succ_self _) (by decide) (by decide) (fun j hj => absurd hj (by rw [show (0 : Int32).toNatClampNeg = 0 by decide]; omega))
      exact ⟨z, s, s1, fun j hj => hz j (by omega), s2⟩
    · rw [if_neg q]
      have a := nle_ti q
      have e1 := up_1 q
      have t1 := tnc (x := y + 1) (by omega)
      refine ih (y + 1) _ (up_dec q hm) (up_nn q h0) (by omega) (fun j hj => ?_)
      by_cases e : j = y.toNatClampNeg
      · rw [e, pk_us]
      · rw [pk_un e]; exact hz j (by omega)
theorem go_eq {lin days i n frm : Int32} {H K O A sh wS wD mSN mDN S D : Nat → Int32} (hn0 : 0 ≤ lin.toInt) (hn : lin.toInt ≤ 5) (hd0 : 0 ≤ days.toInt) (h6 : days.toInt ≤ 6) (hS : ∀ j : Nat, 0 ≤ (S j).toInt ∧ (S j).toInt ≤ 9) (hC : ∀ y : Int32, 0 ≤ y.toInt → y.toInt < n.toInt → m_X4_number A (i + y) = sh (frm + y).toNatClampNeg) (hAct : ∀ y : Int32, 0 ≤ y.toInt → y.toInt < n.toInt → ¬ m_X8_isAct lin (sh (frm + y).toNatClampNeg) = 0) :
    plP lin (m_X6_play wS wD days lin S H K O D A i n) (m_X8_goWeeping days lin (0 : Int32) mDN D mSN S sh H K O frm n) := by
  have z0 : (0 : Int32).toNatClampNeg = 0 := by decide
  obtain ⟨s, d, B1, b2, b3⟩ := bgC_2 (lin := lin) (S := S) (D := D) (kD := wD) (((4 : Int32).toInt - (0 : Int32).toInt).toNat + 1) 0 wS (Nat.lt_succ_self _) (by decide) (by decide) (fun j hj => absurd hj (by rw [z0]; omega))
  obtain ⟨d', s', M1, m2, m3⟩ := bgM_2 (lin := lin) (S := S) (D := D) (kS := mSN) hn0 ((lin.toInt - (0 : Int32).toInt).toNat + 1) 0 mDN (Nat.lt_succ_self _) (by decide) (by rw [ti_0]; exact hn0) (fun j hj => absurd hj (by rw [z0]; omega))
  have E1 : m_X6_begin wS wD lin S D = ((0 : Int32), (0 : Int32), (((1 : Int32) <<< (lin &&& 31)) - (1 : Int32)), (-9 : Int32), s, d) := B1
  have E2 : m_X8_begin lin mDN D mSN S = ((((1 : Int32) <<< (lin &&& 31)) - (1 : Int32)), d', s') := M1
  unfold m_X6_play m_X8_goWeeping
  rw [E1, E2]
  exact pl_8 hn h6 hC hAct _ 0 0 0 _ (-9) s s' d d' (Nat.lt_succ_self _) (by decide) (by decide) (by rw [ti_0]; exact hd0) (Or.inl rfl) (fun j hj => by rw [b2 j hj, m3 j hj]; exact ⟨rfl, (hS j).1⟩) (fun j hj => by rw [b3 j (by omega), m2 j hj])
theorem an_eq {lin acts last wrong what : Int32} {wS mS wD mD : Nat → Int32} (hn : lin.toInt ≤ 5) (hw : wrong = (-9 : Int32) ∨ 0 ≤ wrong.toInt) (hS : RS wS mS) (hR : RD lin wD mD) (hA : (0 ≤ what.toInt ∧ what.toInt ≤ 3) ∨ (10 ≤ what.toInt ∧ what.toInt < 15) ∨ (20 ≤ what.toInt ∧ what.toInt < 24)) :
    m_X6_answer acts last wrong wS wD lin what = m_X8_weepingBy lin last acts wrong mD mS what := by
  have k3 : (3 : Int32).toInt = 3 := by decide
  have k2 : (2 : Int32).toInt = 2 := by decide
  have k10 : (10 : Int32).toInt = 10 := by decide
  have k20 : (20 : Int32).toInt = 20 := by decide
  unfold m_X6_answer m_X8_weepingBy
  by_cases c1 : what = (1 : Int32)
  · rw [if_pos c1, if_pos c1]
  · rw [if_neg c1, if_neg c1]
    by_cases c : wrong = (-9 : Int32)
    · rw [if_pos c, if_pos (show wrong < 0 by rw [c]; decide)]
      by_cases c0 : what = 0
      · rw [if_pos c0, if_pos (show what < (20 : Int32) by rw [c0]; decide), if_pos (show what < (10 : Int32) by rw [c0]; decide), if_pos c0]
        exact ln_eq hn hR
      · rw [if_neg c0]
        by_cases c2 : what = (2 : Int32)
        · rw [if_pos c2, if_pos (show what < (20 : Int32) by rw [c2]; decide), if_pos (show what < (10 : Int32) by rw [c2]; decide), if_neg c0, if_pos c2]
        · rw [if_neg c2]
          by_cases c3 : what = (3 : Int32)
          · rw [if_pos c3, if_pos (show what < (20 : Int32) by rw [c3]; decide), if_pos (show what < (10 : Int32) by rw [c3]; decide), if_neg c0, if_neg c2]
          · have n0 : ¬ what.toInt = 0 := fun g => c0 (Int32.toInt_inj.mp (by rw [ti_0]; exact g))
            have n1 : ¬ what.toInt = 1 := fun g => c1 (Int32.toInt_inj.mp (by rw [ti_1]; exact g))
            have n2 : ¬ what.toInt = 2 := fun g => c2 (Int32.toInt_inj.mp (by rw [k2]; exact g))
            have n3 : ¬ what.toInt = 3 := fun g => c3 (Int32.toInt_inj.mp (by rw [k3]; exact g))
            rw [if_neg c3]
            by_cases d : what < (20 : Int32)
            · have d1 := lt_ti d
              rw [if_pos d, if_pos d, if_neg (show ¬ what < (10 : Int32) from fun g => by have := lt_ti g; omega)]
              have e : (what - (10 : Int32)).toInt = what.toInt - 10 := by rw [ti_sub (by omega) (by omega), k10]
              by_cases f : 0 ≤ (what - (10 : Int32)).toInt ∧ (what - (10 : Int32)).toInt < lin.toInt
              · rw [if_neg (fun g => hasL_iff.mp g f), if_pos (noL_iff.mpr f), at5 f hn]
                have t := tnc f.1
                exact hR _ (by omega)
              · rw [if_pos (hasL_iff.mpr f), if_neg (fun g => f (noL_iff.mp g))]
            · have d1 := nlt_ti d
              rw [if_neg d, if_neg d]
              have e : (what - (20 : Int32)).toInt = what.toInt - 20 := by rw [ti_sub (by omega) (by omega), k20]
              have t := tnc (x := what - (20 : Int32)) (by omega)
              rw [at_in (n := 4) (by omega) (by omega) (by decide)]
              exact (hS _ (by omega)).1
    · have c' := hw.resolve_left c
      rw [if_neg c, if_neg (nlt0_of c')]
theorem aa_step {b a : Int32} : (m_X8_isAct b a = 0 ∧ ¬ a = (40 : Int32) ∧ (m_X7_isBelow a (40 : Int32) = 0 ∨ m_X2_hasLinen b (a - a / (10 : Int32) * (10 : Int32)) = 0)) ∨ (¬ m_X8_isAct b a = 0 ∧ (a = (40 : Int32) ∨ (¬ m_X7_isBelow a (40 : Int32) = 0 ∧ ¬ m_X2_hasLinen b (a - a / (10 : Int32) * (10 : Int32)) = 0))) := by
  unfold m_X8_isAct
  by_cases c : a = (40 : Int32)
  · rw [if_pos c]
    exact Or.inr ⟨by decide, Or.inl c⟩
  · rw [if_neg c]
    have k : m_X8_in a.toInt64 (0 : Int64) (39 : Int64) = 0 ↔ m_X7_isBelow a (40 : Int32) = 0 := by
      rw [in_iff, isB_iff, Int32.toInt_toInt64, t64_0, show (39 : Int64).toInt = 39 by decide, show (40 : Int32).toInt = 40 by decide]
      omega
    by_cases c1 : m_X8_in a.toInt64 (0 : Int64) (39 : Int64) = 0
    · rw [if_pos c1]
      exact Or.inl ⟨rfl, c, Or.inl (k.mp c1)⟩
    · rw [if_neg c1]
      by_cases c2 : m_X8_noLinen b (a - a / (10 : Int32) * (10 : Int32)) = 0
      · rw [if_pos c2]
        exact Or.inr ⟨by decide, Or.inr ⟨fun g => c1 (k.mpr g), fun g => hasL_iff.mp g (noL_iff.mp c2)⟩⟩
      · rw [if_neg c2]
        exact Or.inl ⟨rfl, c, Or.inr (hasL_iff.mpr (fun g => c2 (noL_iff.mpr g)))⟩
theorem aa_3 {lin i n : Int32} {A sh : Nat → Int32} {frm : Int32} (hC : ∀ y : Int32, 0 ≤ y.toInt → y.toInt < n.toInt → m_X4_number A (i + y) = sh (frm + y).toNatClampNeg) : ∀ (fu : Nat) (y : Int32), (n.toInt - y.toInt).toNat < fu → 0 ≤ y.toInt →
    (m_X6_areActs_3 fu lin A i n y = 0 ∧ ∃ j : Int32, y.toInt ≤ j.toInt ∧ j.toInt < n.toInt ∧ m_X8_isAct lin (sh (frm + j).toNatClampNeg) = 0) ∨ (¬ m_X6_areActs_3 fu lin A i n y = 0 ∧ ∀ j : Int32, y.toInt ≤ j.toInt → j.toInt < n.toInt → ¬ m_X8_isAct lin (sh (frm + j).toNatClampNeg) = 0) := by
  intro fu
  induction fu with
  | zero => intro y hm; exact absurd hm (Nat.not_lt_zero _)
  | succ fu ih =>
    intro y hm h0
    rw [m_X6_areActs_3]
    by_cases q : n ≤ y
    · rw [if_pos q]
      have a := le_ti q
      exact Or.inr ⟨by decide, fun j g g2 => absurd g2 (by omega)⟩
    · rw [if_neg q]
      have a := nle_ti q
      have e1 := up_1 q
      rw [hC y h0 a]
      have I := ih (y + 1) (up_dec q hm) (up_nn q h0)
      have go : ¬ m_X8_isAct lin (sh (frm + y).toNatClampNeg) = 0 → ((m_X6_areActs_3 fu lin A i n (y + 1) = 0 ∧ ∃ j : Int32, y.toInt ≤ j.toInt ∧ j.toInt < n.toInt ∧ m_X8_isAct lin (sh (frm + j).toNatClampNeg) = 0) ∨ (¬ m_X6_areActs_3 fu lin A i n (y + 1) = 0 ∧ ∀ j : Int32, y.toInt ≤ j.toInt → j.toInt < n.toInt → ¬ m_X8_isAct lin (sh (frm + j).toNatClampNeg) = 0)) := by
        intro hy
        rcases I with ⟨i1, j, j1, j2, j3⟩ | ⟨i1, i2⟩
        · exact Or.inl ⟨i1, j, by omega, j2, j3⟩
        · refine Or.inr ⟨i1, fun j g g2 => ?_⟩
          by_cases e : j.toInt = y.toInt
          · rw [Int32.toInt_inj.mp e]; exact hy
          · exact i2 j (by omega) g2
      rcases aa_step (b := lin) (a := sh (frm + y).toNatClampNeg) with ⟨s1, s2, s3⟩ | ⟨s1, s2⟩
      · refine Or.inl ⟨?_, y, Int.le_refl _, a, s1⟩
        by_cases b : m_X7_isBelow (sh (frm + y).toNatClampNeg) (40 : Int32) = 0
        · rw [if_pos b, if_neg s2, if_pos rfl]
        · rw [if_neg b, if_neg s2, if_pos (s3.resolve_left b), if_pos rfl]
      · by_cases b : m_X7_isBelow (sh (frm + y).toNatClampNeg) (40 : Int32) = 0
        · rw [if_pos b]
          rcases s2 with s2 | s2
          · rw [if_pos s2]; exact go s1
          · exact absurd b s2.1
        · rw [if_neg b]
          by_cases d : sh (frm + y).toNatClampNeg = (40 : Int32)
          · rw [if_pos d]; exact go s1
          · rw [if_neg d, if_neg (s2.resolve_left d).2, if_neg (show ¬ (1 : Int32) = 0 by decide)]; exact go s1
theorem wg_137 {days lin k i n what d l t w : Int32} {D S sh H K O DN SN : Nat → Int32} : ∀ (fu : Nat) (y : Int32), (n.toInt - y.toInt).toNat < fu → 0 ≤ y.toInt →
    ((∃ j : Int32, y.toInt ≤ j.toInt ∧ j.toInt < n.toInt ∧ m_X8_isAct lin (sh ((((60 : Int32) * k) + i) + j).toNatClampNeg) = 0) → (m_X8_weeping_137 fu days lin (0 : Int32) D S sh H K O k i n what d l t w DN SN y).1 = (-2 : Int32) ∧ (m_X8_weeping_137 fu days lin (0 : Int32) D S sh H K O k i n what d l t w DN SN y).2.1 = 0) ∧
    ((∀ j : Int32, y.toInt ≤ j.toInt → j.toInt < n.toInt → ¬ m_X8_isAct lin (sh ((((60 : Int32) * k) + i) + j).toNatClampNeg) = 0) → (m_X8_weeping_137 fu days lin (0 : Int32) D S sh H K O k i n what d l t w DN SN y).1 = m_X8_weepingBy lin ((m_X8_goWeeping days lin (0 : Int32) DN D SN S sh H K O (((60 : Int32) * k) + i) n).2.1) ((m_X8_goWeeping days lin (0 : Int32) DN D SN S sh H K O (((60 : Int32) * k) + i) n).2.2.1) ((m_X8_goWeeping days lin (0 : Int32) DN D SN S sh H K O (((60 : Int32) * k) + i) n).2.2.2.1) ((m_X8_goWeeping days lin (0 : Int32) DN D SN S sh H K O (((60 : Int32) * k) + i) n).2.2.2.2.1) ((m_X8_goWeeping days lin (0 : Int32) DN D SN S sh H K O (((60 : Int32) * k) + i) n).2.2.2.2.2) what ∧ (m_X8_weeping_137 fu days lin (0 : Int32) D S sh H K O k i n what d l t w DN SN y).2.1 = 0) := by
  intro fu
  induction fu with
  | zero => intro y hm; exact absurd hm (Nat.not_lt_zero _)
  | succ fu ih =>
    intro y hm h0
    rw [m_X8_weeping_137]
    by_cases q : n ≤ y
    · rw [if_pos q]
      have a := le_ti q
      exact ⟨fun hx => (by obtain ⟨j, g, g2, g3⟩ := hx; omega), fun _ => ⟨rfl, rfl⟩⟩
    · rw [if_neg q]
      have a := nle_ti q
      have e1 := up_1 q
      obtain ⟨i1, i2⟩ := ih (y + 1) (up_dec q hm) (up_nn q h0)
      by_cases c : m_X8_isAct lin (sh ((((60 : Int32) * k) + i) + y).toNatClampNeg) = 0
      · rw [if_pos c]
        exact ⟨fun _ => ⟨rfl, rfl⟩, fun h => absurd c (h y (Int.le_refl _) a)⟩
      · rw [if_neg c]
        refine ⟨fun hx => ?_, fun h => i2 (fun j g g2 => h j (by omega) g2)⟩
        obtain ⟨j, g, g2, g3⟩ := hx
        have : ¬ j.toInt = y.toInt := fun e => c (by rw [Int32.toInt_inj.mp e] at g3; exact g3)
        exact i1 ⟨j, by omega, g2, g3⟩
theorem eqf_weep {wEv wActs wLast wWrong has lane len days lin F k ln i n what mDay mLast mTears mWrong : Int32} {wS wD A S H K O D mSz mLane mSh mDN mSN : Nat → Int32} (hk : vp_in k 4) (h : SHK k.toNatClampNeg has lane len A mSz mLane mSh) (hn0 : 0 ≤ lin.toInt) (hn : lin.toInt ≤ 5) (hd0 : 0 ≤ days.toInt) (h6 : days.toInt ≤ 6) (hS : ∀ j : Nat, 0 ≤ (S j).toInt ∧ (S j).toInt ≤ 9) :
    (m_X7_weeping_in wEv wActs wLast wWrong wS wD days lin S H K O D has lane len A ln i n what).1 = (m_X8_weeping F days lin (0 : Int32) mDay mLast mTears mWrong mSz mLane mDN D mSN S mSh H K O k ln i n what).1 ∧ (m_X7_weeping_in wEv wActs wLast wWrong wS wD days lin S H K O D has lane len A ln i n what).2.1 = (m_X8_weeping F days lin (0 : Int32) mDay mLast mTears mWrong mSz mLane mDN D mSN S mSh H K O k ln i n what).2.1 := by
  unfold m_X7_weeping_in m_X8_weeping
  rw [if_pos (noS_iff.mpr (vp_in_iff.mp hk)), asks3 (A := m_X6_isAsked what) asked3]
  by_cases c1 : 0 ≤ ln.toInt ∧ ln.toInt < 3
  · rw [if_neg (fun q => isB3_iff.mp q c1), if_neg (fun q => in2_iff.mp q c1)]
    by_cases c2 : 0 ≤ n.toInt ∧ n.toInt < 41
    · rw [if_neg (fun q => isB41_iff.mp q c2), if_neg (fun q => in40_iff.mp q c2)]
      by_cases c3 : m_X6_isAsked what = 0
      · rw [if_pos c3, if_pos c3]; exact ⟨rfl, rfl⟩
      · rw [if_neg c3, if_neg c3]
        by_cases c4 : lin = 0
        · rw [if_pos ((stands_iff hn0).mpr c4), if_pos c4]; exact ⟨rfl, rfl⟩
        · rw [if_neg (fun q => c4 ((stands_iff hn0).mp q)), if_neg c4]
          rcases cb_eq (F := F) (ln := ln) (i := i) (n := n) hk h with ⟨f1, f2, f3, f4, f5, f6⟩ | ⟨f1, f2, f3, f4⟩
          · rw [if_pos f1, if_pos f2]
            have hC := num_eq hk f3 f5 f6
            have t0 : (0 : Int32).toInt = 0 := ti_0
            obtain ⟨w1, w2⟩ := wg_137 (days := days) (lin := lin) (k := k) (i := i) (n := n) (what := what) (d := mDay) (l := mLast) (t := mTears) (w := mWrong) (D := D) (S := S) (sh := mSh) (H := H) (K := K) (O := O) (DN := mDN) (SN := mSN) ((n.toInt - (0 : Int32).toInt).toNat + 1) 0 (Nat.lt_succ_self _) (by decide)
            rcases aa_3 (lin := lin) hC ((n.toInt - (0 : Int32).toInt).toNat + 1) 0 (Nat.lt_succ_self _) (by decide) with ⟨a1, a2⟩ | ⟨a1, a2⟩
            · rw [if_pos (show m_X6_areActs lin A i n = 0 from a1)]
              obtain ⟨v1, v2⟩ := w1 a2
              exact ⟨v1.symm, v2.symm⟩
            · rw [if_neg (show ¬ m_X6_areActs lin A i n = 0 from a1)]
              obtain ⟨v1, v2⟩ := w2 a2
              obtain ⟨p1, p2, p3, p4, p5, p6⟩ := go_eq (lin := lin) (days := days) (H := H) (K := K) (O := O) (wS := wS) (wD := wD) (mSN := mSN) (mDN := mDN) (S := S) (D := D) hn0 hn hd0 h6 hS hC (fun y g g2 => a2 y (by omega) g2)
              rw [v1, v2]
              refine ⟨?_, rfl⟩
              rw [← p1, ← p2, ← p3]
              exact an_eq hn p6 p4 p5 (Classical.byContradiction (fun g => c3 (asked_iff.mpr g)))
          · rw [if_neg f1, if_neg f2]
            exact ⟨f3, f4⟩
    · rw [if_pos (isB41_iff.mpr c2), if_pos (in40_iff.mpr c2)]; exact ⟨rfl, rfl⟩
  · rw [if_pos (isB3_iff.mpr c1), if_pos (in2_iff.mpr c1)]; exact ⟨rfl, rfl⟩
theorem weep_o {days lin F k ln i n what mDay mLast mTears mWrong : Int32} {S H K O D mSz mLane mSh mDN mSN : Nat → Int32} (h : ¬ m_X8_noSheet k = 0) : (m_X8_weeping F days lin (0 : Int32) mDay mLast mTears mWrong mSz mLane mDN D mSN S mSh H K O k ln i n what).1 = (-1 : Int32) ∧ (m_X8_weeping F days lin (0 : Int32) mDay mLast mTears mWrong mSz mLane mDN D mSN S mSh H K O k ln i n what).2.1 = 0 := by
  unfold m_X8_weeping
  rw [if_neg h]; exact ⟨rfl, rfl⟩
