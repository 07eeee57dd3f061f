theorem idx {k i : Int32} (hk : vp_in k 4) (h0 : 0 ≤ i.toInt) (h1 : i.toInt < 60) : ((60 : Int32) * k + i).toNatClampNeg = 60 * k.toNatClampNeg + i.toNatClampNeg := by
  have a := x60 hk
  have b := vp_in_iff.mp hk
  have e : ((60 : Int32) * k + i).toInt = 60 * k.toInt + i.toInt := by rw [ti_add (by omega) (by omega), a]
  have c1 := tnc (x := (60 : Int32) * k + i) (by omega)
  have c2 := tnc b.1
  have c3 := tnc h0
  omega
theorem idx2 {k i y : Int32} (hk : vp_in k 4) (h0 : 0 ≤ i.toInt) (hy : 0 ≤ y.toInt) (h1 : i.toInt + y.toInt < 60) : ((60 : Int32) * k + i + y).toNatClampNeg = 60 * k.toNatClampNeg + i.toNatClampNeg + y.toNatClampNeg := by
  have a := x60 hk
  have b := vp_in_iff.mp hk
  have e : ((60 : Int32) * k + i).toInt = 60 * k.toInt + i.toInt := by rw [ti_add (by omega) (by omega), a]
  have e2 : ((60 : Int32) * k + i + y).toInt = 60 * k.toInt + i.toInt + y.toInt := by rw [ti_add (by omega) (by omega), e]
  have c1 := tnc (x := (60 : Int32) * k + i + y) (by omega)
  have c2 := tnc b.1
  have c3 := tnc h0
  have c4 := tnc hy
  omega
def SHK (k : Nat) (has lane len : Int32) (A mSz mLane mSh : Nat → Int32) : Prop := shr has lane len A (mSz k) (mLane k) (fun j => mSh (60 * k + j))
theorem SHK_0 {has lane len : Int32} {A mSz mLane mSh : Nat → Int32} : shr has lane len A (mSz 0) (mLane 0) (fun j => mSh j) ↔ SHK 0 has lane len A mSz mLane mSh := by
  unfold SHK
  rw [show (fun j => mSh (60 * 0 + j)) = (fun j => mSh j) from funext fun j => by rw [show 60 * 0 + j = j by omega]]
theorem shr_B {has lane len : Int32} {A : Nat → Int32} {sz ln : Int32} {B B' : Nat → Int32} (h : shr has lane len A sz ln B) (hB : ∀ j : Nat, j < 60 → B' j = B j) : shr has lane len A sz ln B' := by
  obtain ⟨h1, h2⟩ := h
  refine ⟨h1, ?_⟩
  rcases h2 with h2 | ⟨a, b, c, d, e⟩
  · exact Or.inl h2
  · refine Or.inr ⟨a, b, c, d, fun j hj => ?_⟩
    rw [hB j (by have := h1.2.2; omega)]
    exact e j hj
theorem SHK_o {k q : Nat} {has lane len : Int32} {A mSz mLane mSh mSz' mLane' mSh' : Nat → Int32} (hkq : q ≠ k) (h : SHK q has lane len A mSz mLane mSh) (hz : ∀ x : Nat, x ≠ k → mSz' x = mSz x) (hl : ∀ x : Nat, x ≠ k → mLane' x = mLane x) (hs : ∀ x : Nat, (x < 60 * k ∨ 60 * k + 60 ≤ x) → mSh' x = mSh x) : SHK q has lane len A mSz' mLane' mSh' := by
  unfold SHK at h ⊢
  rw [hz q hkq, hl q hkq]
  refine shr_B h fun j hj => hs _ ?_
  rcases Nat.lt_or_gt_of_ne hkq with e | e
  · left
    have := Nat.mul_le_mul_left 60 (Nat.succ_le_of_lt e)
    omega
  · right
    have := Nat.mul_le_mul_left 60 (Nat.succ_le_of_lt e)
    omega
theorem holds_iff {len i n : Int32} (h0 : 0 ≤ len.toInt) (h6 : len.toInt ≤ 60) : m_X4_holds len i n = 0 ↔ ¬ (0 ≤ i.toInt ∧ 0 ≤ n.toInt ∧ i.toInt + n.toInt ≤ len.toInt) := by
  unfold m_X4_holds
  by_cases h1 : i < 0
  · rw [if_pos h1]
    have a := lt_ti h1
    rw [ti_0] at a
    exact ⟨fun _ => by omega, fun _ => rfl⟩
  · rw [if_neg h1]
    have a := nlt_ti0 h1
    by_cases h2 : n < 0
    · rw [if_pos h2]
      have b := lt_ti h2
      rw [ti_0] at b
      exact ⟨fun _ => by omega, fun _ => rfl⟩
    · rw [if_neg h2]
      have b := nlt_ti0 h2
      by_cases h3 : len < i
      · rw [if_pos h3]
        have c := lt_ti h3
        exact ⟨fun _ => by omega, fun _ => rfl⟩
      · rw [if_neg h3]
        have c := nlt_ti h3
        have e : (len - i).toInt = len.toInt - i.toInt := ti_sub (by omega) (by omega)
        by_cases h4 : (len - i) < n
        · rw [if_pos h4]
          have d := lt_ti h4
          exact ⟨fun _ => by omega, fun _ => rfl⟩
        · rw [if_neg h4]
          have d := nlt_ti h4
          exact ⟨fun q => absurd q (by decide), fun q => absurd ⟨a, b, by omega⟩ q⟩
theorem noC_n {sz : Nat → Int32} {k i : Int32} (h : sz k.toNatClampNeg < 0) : m_X8_noCell sz k i = (1 : Int32) := by
  unfold m_X8_noCell
  rw [if_neg (fun q => le0_nlt.mp q h)]
theorem noC_in {sz : Nat → Int32} {k i : Int32} (h : 0 ≤ sz k.toNatClampNeg) (hi : 0 ≤ i.toInt ∧ i.toInt < (sz k.toNatClampNeg).toInt) : m_X8_noCell sz k i = (0 : Int32) := by
  unfold m_X8_noCell
  rw [if_pos h, if_neg]
  intro q
  rw [in_iff, lim64, Int32.toInt_toInt64, t64_0] at q
  omega
theorem noC_out {sz : Nat → Int32} {k i : Int32} (h : 0 ≤ sz k.toNatClampNeg) (hi : ¬ (0 ≤ i.toInt ∧ i.toInt < (sz k.toNatClampNeg).toInt)) : m_X8_noCell sz k i = (3 : Int32) := by
  unfold m_X8_noCell
  rw [if_pos h, if_pos]
  rw [in_iff, lim64, Int32.toInt_toInt64, t64_0]
  omega
theorem le0_of {x : Int32} (h : 0 ≤ x.toInt) : 0 ≤ x := Int32.le_iff_toInt_le.mpr (by rw [ti_0]; exact h)
theorem nlt0_of {x : Int32} (h : 0 ≤ x.toInt) : ¬ x < 0 := fun q => by have := lt_ti q; rw [ti_0] at this; omega
theorem cut_eq {lane v : Int32} : m_X4_cut lane v = (if lane = 0 then v.toInt8.toInt32 else (if lane = (1 : Int32) then v.toInt16.toInt32 else v)) := rfl
theorem put_eq {has lane len : Int32} {A mSz mLane mSh : Nat → Int32} {k i v : Int32} (hk : vp_in k 4) (h : SHK k.toNatClampNeg has lane len A mSz mLane mSh) :
    (m_X7_put_in has lane len A i v).1 = (m_X8_put mSz mLane mSh k i v).1 ∧ (m_X7_put_in has lane len A i v).2.1 = (m_X8_put mSz mLane mSh k i v).2.1 ∧ SHK k.toNatClampNeg has lane len (m_X7_put_in has lane len A i v).2.2 mSz mLane (m_X8_put mSz mLane mSh k i v).2.2 ∧ ∀ x : Nat, (x < 60 * k.toNatClampNeg ∨ 60 * k.toNatClampNeg + 60 ≤ x) → (m_X8_put mSz mLane mSh k i v).2.2 x = mSh x := by
  have hS := noS_iff.mpr (vp_in_iff.mp hk)
  have hl := shr_len h
  unfold m_X7_put_in m_X8_put
  rw [if_pos hS]
  rcases id h.2 with ⟨a, e⟩ | ⟨a, e, el, en, eA⟩
  · rw [if_pos e, noC_n a, if_neg (by decide)]
    exact ⟨rfl, rfl, h, fun _ _ => rfl⟩
  · have a0 := le0_of a
    rw [if_neg (fun q => absurd (q.symm.trans e) (by decide))]
    have e1 : (1 : Int32).toInt = 1 := by decide
    by_cases c : 0 ≤ i.toInt ∧ i.toInt < (mSz k.toNatClampNeg).toInt
    · have c60 : i.toInt < 60 := by have := h.1.2.2; omega
      rw [if_neg (fun q => (holds_iff hl.1 hl.2).mp q ⟨c.1, by omega, by rw [el]; omega⟩), noC_in a0 c, if_pos (by decide)]
      have ei := idx hk c.1 c60
      have es : m_X4_store lane A i v = upd A i.toNatClampNeg (m_X4_cut lane v) := by
        unfold m_X4_store
        exact set_in c.1 (by omega) (by decide)
      have key : ∀ w : Int32, m_X4_cut lane v = w → (SHK k.toNatClampNeg has lane len (upd A i.toNatClampNeg (m_X4_cut lane v)) mSz mLane (upd mSh ((60 : Int32) * k + i).toNatClampNeg w)) ∧ ∀ x : Nat, (x < 60 * k.toNatClampNeg ∨ 60 * k.toNatClampNeg + 60 ≤ x) → upd mSh ((60 : Int32) * k + i).toNatClampNeg w x = mSh x := by
        intro w hw
        rw [ei, hw]
        have ci := tnc c.1
        refine ⟨⟨h.1, Or.inr ⟨a, e, el, en, fun j hj => ?_⟩⟩, fun x hx => pk_un (by omega)⟩
        by_cases q : j = i.toNatClampNeg
        · subst q
          rw [pk_us]
          exact (pk_us (f := mSh)).symm
        · rw [pk_un q]
          show A j = upd mSh _ _ _
          rw [pk_un (by omega)]
          exact eA j hj
      rw [es]
      by_cases z : mLane k.toNatClampNeg = 0
      · rw [if_pos z]
        have k2 := key v.toInt8.toInt32 (by rw [cut_eq, en, if_pos z])
        exact ⟨rfl, rfl, k2.1, k2.2⟩
      · rw [if_neg z]
        have k2 := key (if (mLane k.toNatClampNeg) = (1 : Int32) then v.toInt16.toInt32 else v) (by rw [cut_eq, en, if_neg z])
        exact ⟨rfl, rfl, k2.1, k2.2⟩
    · rw [if_pos ((holds_iff hl.1 hl.2).mpr (fun q => c ⟨q.1, by rw [el] at q; omega⟩)), noC_out a0 c, if_neg (by decide)]
      exact ⟨rfl, rfl, h, fun _ _ => rfl⟩
theorem cell_eq {has lane len : Int32} {A mSz mLane mSh : Nat → Int32} {k i ln : Int32} (hk : vp_in k 4) (h : SHK k.toNatClampNeg has lane len A mSz mLane mSh) : m_X7_cell_in has lane len A i ln = m_X8_cell mSz mLane mSh k i ln := by
  have hS := noS_iff.mpr (vp_in_iff.mp hk)
  have hl := shr_len h
  unfold m_X7_cell_in m_X8_cell
  rw [if_pos hS]
  by_cases hb : 0 ≤ ln.toInt ∧ ln.toInt < 3
  · rw [if_neg (fun q => isB3_iff.mp q hb), if_neg (fun q => in2_iff.mp q hb)]
    unfold m_X4_faultOfCells
    rcases id h.2 with ⟨a, e⟩ | ⟨a, e, el, en, eA⟩
    · rw [if_pos e, if_pos a, noC_n a, if_neg (show ¬ (1 : Int32) = 0 by decide), if_neg (show ¬ (1 : Int32) ≤ 0 by decide)]
      rfl
    · have a0 := le0_of a
      have hh : ¬ has = 0 := by rw [e]; decide
      rw [if_neg hh, if_neg (le0_nlt.mp a0)]
      by_cases q : lane = ln
      · rw [if_pos q, if_pos (en.symm.trans q), if_pos (show (0 : Int32) ≤ 1 by decide)]
        have e1 : (1 : Int32).toInt = 1 := by decide
        by_cases c : 0 ≤ i.toInt ∧ i.toInt < (mSz k.toNatClampNeg).toInt
        · have c60 : i.toInt < 60 := by have := h.1.2.2; omega
          rw [if_neg (fun q => (holds_iff hl.1 hl.2).mp q ⟨c.1, by omega, by rw [el]; omega⟩), noC_in a0 c, if_pos rfl, if_pos (show (0 : Int32) ≤ 0 by decide), idx hk c.1 c60]
          unfold m_X4_number
          have ci := tnc c.1
          rw [at_in c.1 (by omega) (by decide), eA _ (by omega)]
        · rw [if_pos ((holds_iff hl.1 hl.2).mpr (fun q => c ⟨q.1, by rw [el] at q; omega⟩)), noC_out a0 c, if_neg (show ¬ (3 : Int32) = 0 by decide), if_neg (show ¬ (3 : Int32) ≤ 0 by decide)]
          rfl
      · rw [if_neg q, if_neg (fun z => q (en.trans z)), if_neg (show ¬ (2 : Int32) = 0 by decide)]
        rfl
  · rw [if_pos (isB3_iff.mpr hb), if_pos (in2_iff.mpr hb)]
    rfl
theorem fill_l {v : Int32} : ∀ (fu : Nat) (y : Int32) (z : Nat → Int32), ((60 : Int32).toInt - y.toInt).toNat < fu → 0 ≤ y.toInt → ∀ j : Nat, j < 60 → (j < y.toNatClampNeg → z j = v) → m_J7_fill_53178_5 fu 60 v y z j = v := by
  intro fu
  induction fu with
  | zero => intro y z hm; exact absurd hm (Nat.not_lt_zero _)
  | succ fu ih =>
    intro y z hm h0 j hj hz
    rw [m_J7_fill_53178_5]
    have e6 : (Int32.ofNat 60).toInt = 60 := by decide
    by_cases c : (Int32.ofNat 60) ≤ y
    · rw [if_pos c]
      have := le_ti c
      have := tnc h0
      exact hz (by omega)
    · rw [if_neg c]
      have c' : ¬ (60 : Int32) ≤ y := c
      have e1 := up_1 c'
      have t0 := tnc h0
      have t1 := tnc (x := y + 1) (by omega)
      refine ih _ _ (up_dec c' hm) (up_nn c' h0) j hj (fun hlt => ?_)
      by_cases e : j = y.toNatClampNeg
      · subst e; rw [pk_us]
      · rw [pk_un e]; exact hz (by omega)
theorem fill_0 {A : Nat → Int32} {v : Int32} {j : Nat} (hj : j < 60) : m_J7_fill_53178 60 A v j = v := by
  rw [m_J7_fill_53178]
  exact fill_l _ _ _ (Nat.lt_succ_self _) (by decide) j hj (fun h => absurd h (by rw [show (0 : Int32).toNatClampNeg = 0 by decide]; omega))
theorem sheet_l {k n : Int32} {sz ln : Nat → Int32} (hk : vp_in k 4) (hn : n.toInt ≤ 60) : ∀ (fu : Nat) (y : Int32) (z : Nat → Int32), (n.toInt - y.toInt).toNat < fu → 0 ≤ y.toInt →
    ∃ s : Nat → Int32, m_X8_sheet_65 fu k n sz ln y z = ((1 : Int32), (0 : Int32), sz, ln, s) ∧ (∀ x : Nat, (x < 60 * k.toNatClampNeg ∨ 60 * k.toNatClampNeg + 60 ≤ x) → s x = z x) ∧ (∀ j : Nat, (j : Int) < n.toInt → (j < y.toNatClampNeg → z (60 * k.toNatClampNeg + j) = 0) → s (60 * k.toNatClampNeg + j) = 0) := by
  intro fu
  induction fu with
  | zero => intro y z hm; exact absurd hm (Nat.not_lt_zero _)
  | succ fu ih =>
    intro y z hm h0
    rw [m_X8_sheet_65]
    by_cases c : n ≤ y
    · rw [if_pos c]
      have t := le_ti c
      have t0 := tnc h0
      exact ⟨z, rfl, fun _ _ => rfl, fun j hj hz => hz (by omega)⟩
    · rw [if_neg c]
      have a := nle_ti c
      have e1 := up_1 c
      have t0 := tnc h0
      have t1 := tnc (x := y + 1) (by omega)
      have ei := idx hk h0 (by omega)
      rw [ei]
      obtain ⟨s, h1, h2, h3⟩ := ih (y + 1) (upd z (60 * k.toNatClampNeg + y.toNatClampNeg) 0) (up_dec c hm) (up_nn c h0)
      refine ⟨s, h1, fun x hx => by rw [h2 x hx, pk_un (by omega)], fun j hj hz => h3 j hj (fun hlt => ?_)⟩
      by_cases e : j = y.toNatClampNeg
      · subst e; rw [pk_us]
      · rw [pk_un (by omega)]; exact hz (by omega)
set_option maxRecDepth 20000 in
theorem sheet_eq {has lane len : Int32} {A mSz mLane mSh : Nat → Int32} {k nl n : Int32} (hk : vp_in k 4) (h : SHK k.toNatClampNeg has lane len A mSz mLane mSh) (hz : ∀ j : Nat, (mSz j).toInt ≤ 60) :
    (m_X7_sheet_in has lane len A nl n).1 = (m_X8_sheet mSz mLane mSh k nl n).1 ∧ (m_X7_sheet_in has lane len A nl n).2.1 = (m_X8_sheet mSz mLane mSh k nl n).2.1 ∧
    SHK k.toNatClampNeg (m_X7_sheet_in has lane len A nl n).2.2.1 (m_X7_sheet_in has lane len A nl n).2.2.2.1 (m_X7_sheet_in has lane len A nl n).2.2.2.2.1 (m_X7_sheet_in has lane len A nl n).2.2.2.2.2 (m_X8_sheet mSz mLane mSh k nl n).2.2.1 (m_X8_sheet mSz mLane mSh k nl n).2.2.2.1 (m_X8_sheet mSz mLane mSh k nl n).2.2.2.2 ∧
    (∀ x : Nat, x ≠ k.toNatClampNeg → (m_X8_sheet mSz mLane mSh k nl n).2.2.1 x = mSz x) ∧ (∀ x : Nat, x ≠ k.toNatClampNeg → (m_X8_sheet mSz mLane mSh k nl n).2.2.2.1 x = mLane x) ∧ (∀ x : Nat, (x < 60 * k.toNatClampNeg ∨ 60 * k.toNatClampNeg + 60 ≤ x) → (m_X8_sheet mSz mLane mSh k nl n).2.2.2.2 x = mSh x) ∧ (∀ j : Nat, ((m_X8_sheet mSz mLane mSh k nl n).2.2.1 j).toInt ≤ 60) := by
  have hS := noS_iff.mpr (vp_in_iff.mp hk)
  unfold m_X7_sheet_in m_X8_sheet
  rw [if_pos hS]
  by_cases hb : 0 ≤ nl.toInt ∧ nl.toInt < 3
  · rw [if_neg (fun q => isB3_iff.mp q hb), if_neg (fun q => in2_iff.mp q hb)]
    by_cases c : n ≤ (60 : Int32)
    · rw [if_pos c, if_pos c]
      have e60 : (60 : Int32).toInt = 60 := by decide
      have a := le_ti c
      rw [e60] at a
      by_cases d : 0 ≤ n
      · rw [if_pos d, if_pos d]
        have b := le_ti d
        rw [ti_0] at b
        obtain ⟨s, h1, h2, h3⟩ := sheet_l (sz := upd mSz k.toNatClampNeg n) (ln := upd mLane k.toNatClampNeg nl) hk a ((n.toInt - (0 : Int32).toInt).toNat + 1) 0 mSh (Nat.lt_succ_self _) (by decide)
        rw [h1]
        have en : (if (0 : Int32) < (if (60 : Int32) < n then (60 : Int32) else n) then (if (60 : Int32) < n then (60 : Int32) else n) else (0 : Int32)) = n := by
          rw [if_neg (show ¬ (60 : Int32) < n from fun q => by have := lt_ti q; omega), mx0, if_pos d]
        refine ⟨rfl, rfl, ?_, fun x hx => pk_un hx, fun x hx => pk_un hx, h2, upd_all (P := fun x => x.toInt ≤ 60) hz a⟩
        show shr (1 : Int32) nl (if (0 : Int32) < (if (60 : Int32) < n then (60 : Int32) else n) then (if (60 : Int32) < n then (60 : Int32) else n) else (0 : Int32)) (m_J7_fill_53178 60 A (0 : Int32)) (upd mSz k.toNatClampNeg n k.toNatClampNeg) (upd mLane k.toNatClampNeg nl k.toNatClampNeg) (fun j => s (60 * k.toNatClampNeg + j))
        rw [en, pk_us, pk_us]
        refine ⟨⟨b, a, a⟩, Or.inr ⟨b, rfl, rfl, rfl, fun j hj => ?_⟩⟩
        rw [fill_0 (by omega)]
        exact (h3 j hj (fun q => absurd q (by rw [show (0 : Int32).toNatClampNeg = 0 by decide]; omega))).symm
      · rw [if_neg d, if_neg d]
        exact ⟨rfl, rfl, h, fun _ _ => rfl, fun _ _ => rfl, fun _ _ => rfl, hz⟩
    · rw [if_neg c, if_neg c]
      exact ⟨rfl, rfl, h, fun _ _ => rfl, fun _ _ => rfl, fun _ _ => rfl, hz⟩
  · rw [if_pos (isB3_iff.mpr hb), if_pos (in2_iff.mpr hb)]
    exact ⟨rfl, rfl, h, fun _ _ => rfl, fun _ _ => rfl, fun _ _ => rfl, hz⟩
theorem cp2_l {o j n : Int32} {hd : Nat → Int32} (ho : vp_in o 4) (hj : 0 ≤ j.toInt) (hn : j.toInt + n.toInt ≤ 60) : ∀ (fu : Nat) (y : Int32) (z : Nat → Int32), (n.toInt - y.toInt).toNat < fu → 0 ≤ y.toInt →
    ∃ s : Nat → Int32, m_X8_copy_144 fu o j n hd y z = (n, (0 : Int32), s, hd) ∧ (∀ x : Nat, (x < 60 * o.toNatClampNeg + j.toNatClampNeg ∨ 60 * o.toNatClampNeg + j.toNatClampNeg + n.toNatClampNeg ≤ x) → s x = z x) ∧ (∀ q : Nat, (q : Int) < n.toInt → (q < y.toNatClampNeg → z (60 * o.toNatClampNeg + j.toNatClampNeg + q) = hd q) → s (60 * o.toNatClampNeg + j.toNatClampNeg + q) = hd q) := by
  intro fu
  induction fu with
  | zero => intro y z hm; exact absurd hm (Nat.not_lt_zero _)
  | succ fu ih =>
    intro y z hm h0
    rw [m_X8_copy_144]
    by_cases c : n ≤ y
    · rw [if_pos c]
      have t := le_ti c
      have t0 := tnc h0
      exact ⟨z, rfl, fun _ _ => rfl, fun q hq hz => hz (by omega)⟩
    · rw [if_neg c]
      have a := nle_ti c
      have e1 := up_1 c
      have t0 := tnc h0
      have tn := tnc (x := n) (by omega)
      have t1 := tnc (x := y + 1) (by omega)
      rw [idx2 ho hj h0 (by omega)]
      obtain ⟨s, h1, h2, h3⟩ := ih (y + 1) (upd z (60 * o.toNatClampNeg + j.toNatClampNeg + y.toNatClampNeg) (hd y.toNatClampNeg)) (up_dec c hm) (up_nn c h0)
      refine ⟨s, h1, fun x hx => by rw [h2 x hx, pk_un (by omega)], fun q hq hz => h3 q hq (fun hlt => ?_)⟩
      by_cases e : q = y.toNatClampNeg
      · subst e; rw [pk_us]
      · rw [pk_un (by omega)]; exact hz (by omega)
theorem cp1_l {k i o j n : Int32} {sh : Nat → Int32} (hk : vp_in k 4) (ho : vp_in o 4) (hi : 0 ≤ i.toInt) (hin : i.toInt + n.toInt ≤ 60) (hj : 0 ≤ j.toInt) (hjn : j.toInt + n.toInt ≤ 60) : ∀ (fu : Nat) (y : Int32) (z : Nat → Int32), (n.toInt - y.toInt).toNat < fu → 0 ≤ y.toInt → (∀ q : Nat, (q : Int) < n.toInt → q < y.toNatClampNeg → z q = sh (60 * k.toNatClampNeg + i.toNatClampNeg + q)) →
    ∃ s hd : Nat → Int32, m_X8_copy_107 fu k i o j n sh y z = (n, (0 : Int32), s, hd) ∧ (∀ x : Nat, (x < 60 * o.toNatClampNeg + j.toNatClampNeg ∨ 60 * o.toNatClampNeg + j.toNatClampNeg + n.toNatClampNeg ≤ x) → s x = sh x) ∧ (∀ q : Nat, (q : Int) < n.toInt → s (60 * o.toNatClampNeg + j.toNatClampNeg + q) = sh (60 * k.toNatClampNeg + i.toNatClampNeg + q)) := by
  intro fu
  induction fu with
  | zero => intro y z hm; exact absurd hm (Nat.not_lt_zero _)
  | succ fu ih =>
    intro y z hm h0 hz
    rw [m_X8_copy_107]
    by_cases c : n ≤ y
    · rw [if_pos c]
      have t := le_ti c
      have t0 := tnc h0
      obtain ⟨s, h1, h2, h3⟩ := cp2_l (hd := z) ho hj hjn ((n.toInt - (0 : Int32).toInt).toNat + 1) 0 sh (Nat.lt_succ_self _) (by decide)
      refine ⟨s, z, h1, h2, fun q hq => ?_⟩
      rw [h3 q hq (fun p => absurd p (by rw [show (0 : Int32).toNatClampNeg = 0 by decide]; omega))]
      exact hz q hq (by omega)
    · rw [if_neg c]
      have a := nle_ti c
      have e1 := up_1 c
      have t0 := tnc h0
      have t1 := tnc (x := y + 1) (by omega)
      rw [idx2 hk hi h0 (by omega)]
      refine ih (y + 1) _ (up_dec c hm) (up_nn c h0) (fun q hq hlt => ?_)
      by_cases e : q = y.toNatClampNeg
      · subst e; rw [pk_us]
      · rw [pk_un e]; exact hz q hq (by omega)
/-- what copy's moving leaves in the target sheet -/
theorem cp_shr {has lane len hasb laneb lenb : Int32} {A Ab mSz mLane sh s : Nat → Int32} {k o : Nat} {i j n : Int32} (hA : SHK k has lane len A mSz mLane sh) (hB : SHK o hasb laneb lenb Ab mSz mLane sh) (h1 : has = 1) (h2 : hasb = 1) (hi : 0 ≤ i.toInt) (hn : 0 ≤ n.toInt) (hin : i.toInt + n.toInt ≤ len.toInt) (hj : 0 ≤ j.toInt) (hjn : j.toInt + n.toInt ≤ lenb.toInt)
    (hs1 : ∀ x : Nat, (x < 60 * o + j.toNatClampNeg ∨ 60 * o + j.toNatClampNeg + n.toNatClampNeg ≤ x) → s x = sh x) (hs2 : ∀ q : Nat, (q : Int) < n.toInt → s (60 * o + j.toNatClampNeg + q) = sh (60 * k + i.toNatClampNeg + q)) : SHK o hasb laneb lenb (va_cpy A Ab i.toNatClampNeg j.toNatClampNeg n.toNatClampNeg) mSz mLane s := by
  rcases hA.2 with ⟨-, e⟩ | ⟨a1, e1, el1, en1, eA⟩
  · exact absurd (h1.symm.trans e) (by decide)
  rcases hB.2 with ⟨-, e⟩ | ⟨a2, e2, el2, en2, eB⟩
  · exact absurd (h2.symm.trans e) (by decide)
  have ti := tnc hi
  have tj := tnc hj
  have tn := tnc hn
  refine ⟨hB.1, Or.inr ⟨a2, e2, el2, en2, fun q hq => ?_⟩⟩
  show va_cpy A Ab i.toNatClampNeg j.toNatClampNeg n.toNatClampNeg q = s (60 * o + q)
  by_cases c : j.toNatClampNeg ≤ q ∧ q < j.toNatClampNeg + n.toNatClampNeg
  · rw [pk_cpy_in c.1 c.2, show 60 * o + q = 60 * o + j.toNatClampNeg + (q - j.toNatClampNeg) by omega, hs2 _ (by omega), show 60 * k + i.toNatClampNeg + (q - j.toNatClampNeg) = 60 * k + (i.toNatClampNeg + (q - j.toNatClampNeg)) by omega]
    exact eA _ (by rw [← el1]; omega)
  · rw [pk_cpy_out (by omega), hs1 _ (by omega)]
    exact eB q hq
def cpR (o : Nat) (Lr Lf : Int32) (LA : Nat → Int32) (hasb laneb lenb : Int32) (mSz mLane mSh : Nat → Int32) (r : Int32 × Int32 × (Nat → Int32) × (Nat → Int32)) : Prop :=
  Lr = r.1 ∧ Lf = r.2.1 ∧ SHK o hasb laneb lenb LA mSz mLane r.2.2.1 ∧ ∀ x : Nat, (x < 60 * o ∨ 60 * o + 60 ≤ x) → r.2.2.1 x = mSh x
theorem copy_core {has lane len hasb laneb lenb : Int32} {A Ab mSz mLane mSh mHands : Nat → Int32} {k o i j n : Int32} (hk : vp_in k 4) (ho : vp_in o 4) (hA : SHK k.toNatClampNeg has lane len A mSz mLane mSh) (hB : SHK o.toNatClampNeg hasb laneb lenb Ab mSz mLane mSh) :
    cpR o.toNatClampNeg (m_X7_copy_in has lane len A hasb laneb lenb Ab i j n).1 (m_X7_copy_in has lane len A hasb laneb lenb Ab i j n).2.1 (m_X7_copy_in has lane len A hasb laneb lenb Ab i j n).2.2 hasb laneb lenb mSz mLane mSh (m_X8_copy mSz mLane mSh mHands k i o j n) := by
  have hlA := shr_len hA
  have hlB := shr_len hB
  have bey : ∀ {i all : Int32}, 0 ≤ all.toInt → (m_X8_isBeyond i n.toInt64 all = 0 ↔ (0 ≤ i.toInt ∧ 0 ≤ n.toInt ∧ i.toInt + n.toInt ≤ all.toInt)) := by
    intro i all _
    refine ⟨bey_ok, fun q => ?_⟩
    unfold m_X8_isBeyond
    rw [if_neg (nlt0_of q.1), if_neg, if_pos]
    · rw [lg_cmp_le, Int64.le_iff_toInt_le, Int64.toInt_add, Int32.toInt_toInt64, Int32.toInt_toInt64, Int32.toInt_toInt64]
      have b1 := ti_hi i
      have b2 := ti_hi n
      rw [Int.bmod_eq_of_le (by omega) (by omega)]
      exact q.2.2
    · rw [lg_cmp_lt, Int64.lt_iff_toInt_lt, Int32.toInt_toInt64, t64_0]
      omega
  unfold m_X7_copy_in m_X8_copy
  rw [if_pos (noS_iff.mpr (vp_in_iff.mp hk)), if_pos (noS_iff.mpr (vp_in_iff.mp ho))]
  rcases id hA.2 with ⟨a1, e1⟩ | ⟨a1, e1, el1, en1, eA⟩
  · rw [if_pos e1, if_pos a1]
    exact ⟨rfl, rfl, hB, fun _ _ => rfl⟩
  · rw [if_neg (fun q => absurd (q.symm.trans e1) (by decide)), if_neg (nlt0_of a1)]
    rcases id hB.2 with ⟨a2, e2⟩ | ⟨a2, e2, el2, en2, eB⟩
    · rw [if_pos e2, if_neg (fun q => le0_nlt.mp q a2)]
      exact ⟨rfl, rfl, hB, fun _ _ => rfl⟩
    · rw [if_neg (fun q => absurd (q.symm.trans e2) (by decide)), if_pos (le0_of a2)]
      by_cases z : lane = laneb
      · rw [if_pos z, if_pos (show mLane k.toNatClampNeg = mLane o.toNatClampNeg from en1.symm.trans (z.trans en2))]
        by_cases c1 : 0 ≤ i.toInt ∧ 0 ≤ n.toInt ∧ i.toInt + n.toInt ≤ len.toInt
        · rw [if_neg (fun q => (holds_iff hlA.1 hlA.2).mp q c1), if_pos ((bey (by omega)).mpr (by rw [← el1]; exact c1))]
          by_cases c2 : 0 ≤ j.toInt ∧ 0 ≤ n.toInt ∧ j.toInt + n.toInt ≤ lenb.toInt
          · rw [if_neg (fun q => (holds_iff hlB.1 hlB.2).mp q c2), if_pos ((bey (by omega)).mpr (by rw [← el2]; exact c2))]
            obtain ⟨s, hd, h1, h2, h3⟩ := cp1_l (sh := mSh) hk ho c1.1 (by omega) c2.1 (by omega) ((n.toInt - (0 : Int32).toInt).toNat + 1) 0 mHands (Nat.lt_succ_self _) (by decide) (fun q hq p => absurd p (by rw [show (0 : Int32).toNatClampNeg = 0 by decide]; omega))
            rw [h1]
            have tj := tnc c2.1
            have tn := tnc c2.2.1
            refine ⟨rfl, rfl, cp_shr hA hB e1 e2 c1.1 c1.2.1 c1.2.2 c2.1 c2.2.2 h2 h3, fun x hx => h2 x (by omega)⟩
          · rw [if_pos ((holds_iff hlB.1 hlB.2).mpr c2), if_neg (fun q => c2 (by have := (bey (by omega)).mp q; rw [el2]; exact this))]
            exact ⟨rfl, rfl, hB, fun _ _ => rfl⟩
        · rw [if_pos ((holds_iff hlA.1 hlA.2).mpr c1), if_neg (fun q => c1 (by have := (bey (by omega)).mp q; rw [el1]; exact this))]
          exact ⟨rfl, rfl, hB, fun _ _ => rfl⟩
      · rw [if_neg z, if_neg (fun q => z (by rw [en1, en2]; exact q))]
        exact ⟨rfl, rfl, hB, fun _ _ => rfl⟩
theorem copy_same {has lane len : Int32} {A : Nat → Int32} {i j n : Int32} : m_X7_copy_same has lane len A i j n = m_X7_copy_in has lane len A has lane len A i j n := rfl
theorem noS_o {k : Int32} (h : ∀ f : Nat → Option Nat, m_X7_sheetOf f k = none) : ¬ m_X8_noSheet k = 0 := by
  intro c
  have a := noS_iff.mp c
  have b := h (fun _ => some 0)
  unfold m_X7_sheetOf at b
  rw [if_neg (fun q => by have := lt_ti q; rw [ti_0] at this; omega), if_neg (fun q => by have := le_ti q; rw [show (4 : Int32).toInt = 4 by decide] at this; omega)] at b
  exact absurd b (by simp)
theorem copy_o {mSz mLane mSh mHands : Nat → Int32} {k i o j n : Int32} (h : ¬ m_X8_noSheet k = 0 ∨ ¬ m_X8_noSheet o = 0) : m_X8_copy mSz mLane mSh mHands k i o j n = ((-1 : Int32), (0 : Int32), mSh, mHands) := by
  unfold m_X8_copy
  by_cases c : m_X8_noSheet k = 0
  · rw [if_pos c, if_neg (h.resolve_left (fun q => q c))]; rfl
  · rw [if_neg c]; rfl
theorem put_o {mSz mLane mSh : Nat → Int32} {k i v : Int32} (h : ¬ m_X8_noSheet k = 0) : m_X8_put mSz mLane mSh k i v = ((-1 : Int32), (0 : Int32), mSh) := by
  unfold m_X8_put
  rw [if_neg h]; rfl
theorem cell_o {mSz mLane mSh : Nat → Int32} {k i v : Int32} (h : ¬ m_X8_noSheet k = 0) : m_X8_cell mSz mLane mSh k i v = ((-9223372036854775808 : Int64), (0 : Int32)) := by
  unfold m_X8_cell
  rw [if_neg h]; rfl
theorem sheet_o {mSz mLane mSh : Nat → Int32} {k i v : Int32} (h : ¬ m_X8_noSheet k = 0) : m_X8_sheet mSz mLane mSh k i v = ((-1 : Int32), (0 : Int32), mSz, mLane, mSh) := by
  unfold m_X8_sheet
  rw [if_neg h]; rfl
