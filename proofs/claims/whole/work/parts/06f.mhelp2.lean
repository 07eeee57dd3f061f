theorem upd_all {f : Nat → Int32} {P : Int32 → Prop} {k : Nat} {x : Int32} (h : ∀ j : Nat, P (f j)) (hx : P x) : ∀ j : Nat, P (upd f k x j) := by
  intro j
  by_cases e : j = k
  · subst e; rw [pk_us]; exact hx
  · rw [pk_un e]; exact h j
theorem nc_ok {sz : Nat → Int32} {k i : Int32} (h : m_X8_noCell sz k i ≤ 0) : 0 ≤ i.toInt ∧ i.toInt < (sz k.toNatClampNeg).toInt := by
  unfold m_X8_noCell at h
  by_cases h1 : 0 ≤ sz k.toNatClampNeg
  · rw [if_pos h1] at h
    by_cases h2 : m_X8_in i.toInt64 (0 : Int64) ((sz k.toNatClampNeg).toInt64 - (1 : Int64)) = 0
    · rw [if_pos h2] at h; exact absurd h (by decide)
    · exact lim_ok h2
  · rw [if_neg h1] at h; exact absurd h (by decide)
theorem dry_nn {cool : Int32} {mH mK : Nat → Int32} {l d : Int32} (hH : ∀ j : Nat, 0 ≤ (mH j).toInt ∧ (mH j).toInt ≤ 9) : 0 ≤ (m_X8_driesOn cool mH mK l d).toInt ∧ (m_X8_driesOn cool mH mK l d).toInt ≤ 20 := by
  have hh : ∀ h : Int32, h = (if (m_X8_isIn cool d) = 0 then (mH d.toNatClampNeg) else (0 : Int32)) → 0 ≤ h.toInt ∧ h.toInt ≤ 9 := by
    intro h e
    subst e
    by_cases c : m_X8_isIn cool d = 0
    · rw [if_pos c]; exact hH _
    · rw [if_neg c]; decide
  unfold m_X8_driesOn
  generalize e : (if (m_X8_isIn cool d) = 0 then (mH d.toNatClampNeg) else (0 : Int32)) = h
  have h1 := hh h e.symm
  have h2 : (h + (1 : Int32)).toInt = h.toInt + 1 := by rw [ti_add (by rw [ti_1]; omega) (by rw [ti_1]; omega), ti_1]
  have e2 : (2 : Int32).toInt = 2 := by decide
  have h3 : ((2 : Int32) * (h + (1 : Int32))).toInt = 2 * (h.toInt + 1) := by rw [ti_mul (by rw [e2, h2]; omega) (by rw [e2, h2]; omega), e2, h2]
  by_cases c1 : (mK l.toNatClampNeg) = 0
  · rw [if_pos c1]; omega
  · rw [if_neg c1]
    by_cases c2 : (mK l.toNatClampNeg) = (1 : Int32)
    · rw [if_pos c2]; omega
    · rw [if_neg c2]; omega
theorem dr_le {cool : Int32} {mH mK : Nat → Int32} {x l d : Int32} (hH : ∀ j : Nat, 0 ≤ (mH j).toInt ∧ (mH j).toInt ≤ 9) (hx : 0 ≤ x.toInt ∧ x.toInt ≤ 9) : 0 ≤ (m_X8_dried cool mH mK x l d).toInt ∧ (m_X8_dried cool mH mK x l d).toInt ≤ 9 := by
  have h1 := dry_nn (cool := cool) (mK := mK) (l := l) (d := d) hH
  have h2 : (x - m_X8_driesOn cool mH mK l d).toInt = x.toInt - (m_X8_driesOn cool mH mK l d).toInt := ti_sub (by omega) (by omega)
  unfold m_X8_dried
  by_cases c : 0 ≤ x - m_X8_driesOn cool mH mK l d
  · rw [if_pos c]
    have := le_ti c
    rw [ti_0] at this
    omega
  · rw [if_neg c]; decide
theorem wept_ok {x : Int32} (h0 : 0 ≤ x.toInt) (h9 : x.toInt ≤ 9) : 0 ≤ (m_X8_wept x).toInt ∧ (m_X8_wept x).toInt ≤ 9 := by
  have e3 : (3 : Int32).toInt = 3 := by decide
  have e9 : (9 : Int32).toInt = 9 := by decide
  have h2 : (x + (3 : Int32)).toInt = x.toInt + 3 := by rw [ti_add (by rw [e3]; omega) (by rw [e3]; omega), e3]
  unfold m_X8_wept
  by_cases c : x + (3 : Int32) ≤ (9 : Int32)
  · rw [if_pos c]
    have := le_ti c
    omega
  · rw [if_neg c]; decide
theorem x10 {d : Int32} (h0 : 0 ≤ d.toInt) (h6 : d.toInt ≤ 6) : ((10 : Int32) * d).toInt = 10 * d.toInt := by
  have e : (10 : Int32).toInt = 10 := by decide
  rw [ti_mul (by rw [e]; omega) (by rw [e]; omega), e]
theorem ixF {d y : Int32} (h0 : 0 ≤ d.toInt) (h6 : d.toInt ≤ 6) (y0 : 0 ≤ y.toInt) (y9 : y.toInt ≤ 9) : vp_in ((10 : Int32) * d + y) 70 := by
  have a := x10 h0 h6
  refine vp_in_iff.mpr ?_
  rw [ti_add (by omega) (by omega), a]
  omega
theorem d1_ok {d : Int32} (h : vp_in d 6) : (d + (1 : Int32)).toInt = d.toInt + 1 := by
  have := vp_in_iff.mp h
  rw [ti_add (by rw [ti_1]; omega) (by rw [ti_1]; omega), ti_1]
theorem ixA {d y : Int32} (h : vp_in d 6) (hy : 0 ≤ y.toInt ∧ y.toInt ≤ 9) : vp_in ((10 : Int32) * (d + (1 : Int32)) + y) 70 := by
  have := vp_in_iff.mp h
  exact ixF (by rw [d1_ok h]; omega) (by rw [d1_ok h]; omega) hy.1 hy.2
theorem ixB {d y : Int32} (h : vp_in d 6) (hy : 0 ≤ y.toInt ∧ y.toInt ≤ 9) : vp_in ((10 : Int32) * d + y) 70 := by
  have := vp_in_iff.mp h
  exact ixF (by omega) (by omega) hy.1 hy.2
theorem lt9 {y : Int32} (c : ¬ (10 : Int32) ≤ y) : y.toInt ≤ 9 := by
  have := nle_ti c
  rw [show (10 : Int32).toInt = 10 by decide] at this
  omega
theorem lt8 {y : Int32} (c : ¬ (9 : Int32) ≤ y) : y.toInt ≤ 9 := by
  have := nle_ti c
  rw [show (9 : Int32).toInt = 9 by decide] at this
  omega
theorem dn_ok {x : Int32} (h : ¬ x < 0) : (x + (-1)).toInt = x.toInt - 1 := by
  have h1 := nlt_ti0 h
  have h2 := ti_hi x
  have e : (-1 : Int32).toInt = -1 := by decide
  rw [ti_add (by rw [e]; omega) (by rw [e]; omega), e]
  omega
theorem dn_dec {x : Int32} {n : Nat} (c : ¬ x < 0) (hm : (x.toInt + 1).toNat < n + 1) : ((x + (-1)).toInt + 1).toNat < n := by
  have h1 := nlt_ti0 c
  rw [dn_ok c]
  omega
theorem dv_ok {x : Int32} (c : ¬ x < 0) (h : x.toInt < 60) : vp_in (x / (10 : Int32)) 6 ∧ vp_in (x - x / (10 : Int32) * (10 : Int32)) 10 := by
  obtain ⟨j, hj, rfl⟩ := nI_of c
  rw [nI_toInt hj] at h
  have hj2 : j < 60 := by omega
  rw [show (10 : Int32) = nI 10 by decide, pk_rem hj (by decide) (by decide), pk_div hj (by decide) (by decide)]
  exact ⟨vp_in_nI (by omega) (by decide), vp_in_nI (by omega) (by decide)⟩
theorem in10 {x : Int32} (h : vp_in x 10) : 0 ≤ x.toInt ∧ x.toInt ≤ 9 := by
  have := vp_in_iff.mp h
  omega
theorem dgt70 {x : Int32} (h : 0 ≤ x.toInt ∧ x.toInt ≤ 9) : vp_in x 70 := vp_in_iff.mpr ⟨h.1, by omega⟩
theorem lt70 {x : Int32} (c : ¬ x < 0) (h : x.toInt < 60) : vp_in x 70 := vp_in_iff.mpr ⟨nlt_ti0 c, by omega⟩
theorem d59 {d : Int32} (h0 : 0 ≤ d.toInt) (h6 : d.toInt ≤ 6) : ((10 : Int32) * d - (1 : Int32)).toInt < 60 := by
  have a := x10 h0 h6
  rw [ti_sub (by rw [ti_1]; omega) (by rw [ti_1]; omega), a, ti_1]
  omega
theorem pw_ok {d : Int32} (h0 : 0 ≤ d.toInt) (h6 : d.toInt ≤ 6) : ((1 : Int32) <<< (d &&& 31)).toInt ≤ 64 ∧ ∃ b : Nat, 0 < b ∧ b < 2 ^ 31 ∧ (1 : Int64) <<< (d.toInt64 &&& 63) = lN b := by
  obtain ⟨j, hj, rfl⟩ := nI_of (x := d) (by intro c; have := lt_ti c; rw [ti_0] at this; omega)
  rw [nI_toInt hj] at h6
  have : j = 0 ∨ j = 1 ∨ j = 2 ∨ j = 3 ∨ j = 4 ∨ j = 5 ∨ j = 6 := by omega
  rcases this with rfl | rfl | rfl | rfl | rfl | rfl | rfl
  · exact ⟨by decide, 1, by decide, by decide, by decide⟩
  · exact ⟨by decide, 2, by decide, by decide, by decide⟩
  · exact ⟨by decide, 4, by decide, by decide, by decide⟩
  · exact ⟨by decide, 8, by decide, by decide, by decide⟩
  · exact ⟨by decide, 16, by decide, by decide, by decide⟩
  · exact ⟨by decide, 32, by decide, by decide, by decide⟩
  · exact ⟨by decide, 64, by decide, by decide, by decide⟩
theorem lN_inj0 {b : Nat} (hb : b < 2 ^ 31) (h : lN b = 0) : b = 0 := (lN_eq hb (by decide)).mp h
def shr_I (x y : Int64) : Prop := ∃ a b : Nat, a < 2 ^ 31 ∧ b < 2 ^ 31 ∧ (0 < a ∨ 0 < b) ∧ x = lN a ∧ y = lN b
theorem shr_0 {x y : Int64} (h1 : ∃ a : Nat, a < 2 ^ 31 ∧ x = lN a) (h2 : ∃ b : Nat, 0 < b ∧ b < 2 ^ 31 ∧ y = lN b) : shr_I x y := by
  obtain ⟨a, ha, e1⟩ := h1
  obtain ⟨b, hb0, hb, e2⟩ := h2
  exact ⟨a, b, ha, hb, Or.inr hb0, e1, e2⟩
theorem shr_s {x y : Int64} (h : shr_I x y) (c : ¬ lg_cmp y (0 : Int64) = 0) : shr_I y (x - x / y * y) ∧ (x - x / y * y).toInt.toNat < y.toInt.toNat := by
  obtain ⟨a, b, ha, hb, h0, rfl, rfl⟩ := h
  have hb0 : 0 < b := by
    rcases Nat.eq_zero_or_pos b with e | e
    · subst e; exact absurd ((lg_cmp_eq _ _).mpr rfl) c
    · exact e
  rw [pk_lRem (by omega) hb0 (by omega)]
  have hm := Nat.mod_lt a hb0
  refine ⟨⟨b, a % b, hb, by omega, Or.inl hb0, rfl, rfl⟩, ?_⟩
  rw [lN_toInt (by omega), lN_toInt hb]
  omega
theorem shr_d {x y : Int64} (h : shr_I x y) (c : lg_cmp y (0 : Int64) = 0) : ¬ x = 0 := by
  obtain ⟨a, b, ha, hb, h0, rfl, rfl⟩ := h
  have e : b = 0 := lN_inj0 hb ((lg_cmp_eq _ _).mp c)
  intro e2
  have := lN_inj0 ha e2
  omega
def cnt_I (y : Int32) (m : Int64) : Prop := 0 ≤ y.toInt ∧ y.toInt ≤ 64 ∧ ∃ a : Nat, (a : Int) ≤ y.toInt ∧ m = lN a
theorem cnt_s {y b : Int32} {m : Int64} {p : Int32} (h : cnt_I y m) (c : ¬ b ≤ y) (hb : b.toInt ≤ 64) : cnt_I (y + 1) (m + (if p ≤ 0 then (0 : Int64) else (1 : Int64))) := by
  obtain ⟨h0, h6, a, ha, rfl⟩ := h
  have h1 := nle_ti c
  refine ⟨up_nn c h0, by rw [up_1 c]; omega, ?_⟩
  rw [up_1 c]
  by_cases hp : p ≤ 0
  · rw [if_pos hp]
    exact ⟨a, by omega, by rw [show (0 : Int64) = lN 0 by decide, lN_add, Nat.add_zero]⟩
  · rw [if_neg hp]
    exact ⟨a + 1, by omega, lN_1 a⟩
theorem cnt_e {y : Int32} {m : Int64} (h : cnt_I y m) : ∃ a : Nat, a < 2 ^ 31 ∧ m = lN a := by
  obtain ⟨h0, h6, a, ha, rfl⟩ := h
  exact ⟨a, by omega, rfl⟩
theorem cnt_0 : cnt_I (0 : Int32) (0 : Int64) := ⟨by decide, by decide, 0, by decide, by decide⟩
theorem spl {a b : Int32} (h0 : 0 ≤ a.toInt) (h1 : a.toInt ≤ b.toInt) (h6 : b.toInt ≤ 6) (c : ¬ a = b) : vp_in a 6 := by
  refine vp_in_iff.mpr ⟨h0, ?_⟩
  rcases Int.lt_or_eq_of_le h1 with h | h
  · omega
  · exact absurd (Int32.toInt_inj.mp h) c
