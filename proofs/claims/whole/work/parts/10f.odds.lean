theorem fin_of {x : Int32} {n : Nat} (h0 : 0 ≤ x.toInt) (h1 : x.toInt < n) (hn : n < 2147483648) : ∃ d : Fin n, x = Int32.ofNat d.val := by
  refine ⟨⟨x.toNatClampNeg, by have := tnc h0; omega⟩, ?_⟩
  have t := tnc h0
  apply Int32.toInt_inj.mp
  rw [Int32.toInt_ofNat_of_lt (by show x.toNatClampNeg < _; omega)]
  exact t.symm
theorem lim_6 : ∀ d : Fin 7, ((1 : Int32) <<< (Int32.ofNat d.val &&& 31)).toInt ≤ 64 := by decide +kernel
theorem lim_60 : ∀ d : Fin 7, 0 ≤ ((1 : Int32) <<< (Int32.ofNat d.val &&& 31)).toInt := by decide +kernel
theorem odds_fin : ∀ d : Fin 7, ∀ w : Fin 65, ∀ q : Fin 2, (Int32.ofNat w.val).toInt ≤ ((1 : Int32) <<< (Int32.ofNat d.val &&& 31)).toInt → m_X7_odds_46 (((6 : Int32).toInt - (0 : Int32).toInt).toNat + 1) (Int32.ofNat q.val) ((1 : Int32) <<< (Int32.ofNat d.val &&& 31)) (Int32.ofNat w.val) (0 : Int32) = m_X8_share (Int32.ofNat w.val).toInt64 ((1 : Int64) <<< ((Int32.ofNat d.val).toInt64 &&& 63)) (Int32.ofNat q.val) := by decide +kernel
theorem add64_1 {y : Int32} (h0 : 0 ≤ y.toInt) (h1 : y.toInt < 100) : y.toInt64 + (1 : Int64) = (y + 1).toInt64 := by
  apply Int64.toInt_inj.mp
  rw [Int64.toInt_add, Int32.toInt_toInt64, Int32.toInt_toInt64, ti_add (by rw [ti_1]; omega) (by rw [ti_1]; omega), t64_1, ti_1]
  exact Int.bmod_eq_of_le (by omega) (by omega)
theorem odds_l {b l which : Int32} {H K D : Nat → Int32} (hl : vp_in l 5) (hb : b.toInt ≤ 6) (hL : ((1 : Int32) <<< (b &&& 31)).toInt ≤ 64) : ∀ (fu : Nat) (y2 y3 z : Int32), (((1 : Int32) <<< (b &&& 31)).toInt - y3.toInt).toNat < fu → 0 ≤ y3.toInt → 0 ≤ y2.toInt → y2.toInt ≤ y3.toInt → y3.toInt ≤ max 0 ((1 : Int32) <<< (b &&& 31)).toInt →
    m_X8_odds_27 fu b H K D l which y2.toInt64 y3 z = (m_X8_share (m_X2_waysToBeLaw_4 fu b H K D l y2 y3).toInt64 ((1 : Int64) <<< (b.toInt64 &&& 63)) which, (0 : Int32)) ∧ 0 ≤ (m_X2_waysToBeLaw_4 fu b H K D l y2 y3).toInt ∧ (m_X2_waysToBeLaw_4 fu b H K D l y2 y3).toInt ≤ max 0 ((1 : Int32) <<< (b &&& 31)).toInt := by
  intro fu
  induction fu with
  | zero => intro y2 y3 z hm; exact absurd hm (Nat.not_lt_zero _)
  | succ fu ih =>
    intro y2 y3 z hm h0 g0 g1 g2
    rw [m_X8_odds_27, m_X2_waysToBeLaw_4]
    by_cases c : ((1 : Int32) <<< (b &&& 31)) ≤ y3
    · rw [if_pos c, if_pos c]
      exact ⟨rfl, g0, by omega⟩
    · rw [if_neg c, if_neg c, damp_eq hl (Int.le_refl _) hb]
      have e1 := up_1 c
      have a := nle_ti c
      by_cases d : (m_X8_dampAt y3 H K D l b) ≤ 0
      · rw [if_pos d, if_pos d, show y2.toInt64 + (0 : Int64) = y2.toInt64 from Int64.add_zero _]
        exact ih y2 (y3 + 1) y3 (up_dec c hm) (up_nn c h0) g0 (by omega) (by omega)
      · rw [if_neg d, if_neg d, add64_1 g0 (by omega)]
        have e2 : (y2 + 1).toInt = y2.toInt + 1 := by rw [ti_add (by rw [ti_1]; omega) (by rw [ti_1]; omega), ti_1]
        exact ih (y2 + 1) (y3 + 1) y3 (up_dec c hm) (up_nn c h0) (by omega) (by omega) (by omega)
theorem eqf_odds {b n l w : Int32} {H K D : Nat → Int32} (hb0 : 0 ≤ b.toInt) (hb : b.toInt ≤ 6) (hn : n.toInt ≤ 5) : m_X8_odds b n (0 : Int32) H K D l w = (m_X7_odds b n H K D l w, (0 : Int32)) := by
  unfold m_X8_odds m_X7_odds
  by_cases c : 0 ≤ l.toInt ∧ l.toInt < n.toInt
  · rw [if_pos (noL_iff.mpr c), if_neg (fun q => hasL_iff.mp q c)]
    by_cases d : 0 ≤ w.toInt ∧ w.toInt < 2
    · rw [if_neg (show ¬ m_X8_in w.toInt64 (0 : Int64) (1 : Int64) = 0 from fun q => by rw [in_iff, Int32.toInt_toInt64, t64_0, t64_1] at q; omega), if_neg (show ¬ m_X7_isBelow w (2 : Int32) = 0 from fun q => by rw [isB_iff, show (2 : Int32).toInt = 2 by decide] at q; exact q d)]
      obtain ⟨bd, eb⟩ := fin_of (n := 7) hb0 (by omega) (by decide)
      have hL : ((1 : Int32) <<< (b &&& 31)).toInt ≤ 64 := by rw [eb]; exact lim_6 bd
      obtain ⟨E, B0, B1⟩ := odds_l (which := w) (H := H) (K := K) (D := D) (vl5 c hn) hb hL ((((1 : Int32) <<< (b &&& 31)).toInt - (0 : Int32).toInt).toNat + 1) 0 0 0 (Nat.lt_succ_self _) (by decide) (by decide) (by decide) (by rw [ti_0]; omega)
      rw [show (0 : Int64) = (0 : Int32).toInt64 by decide, E]
      unfold m_X2_waysToBeLaw
      obtain ⟨wd, ew⟩ := fin_of (n := 65) B0 (by omega) (by decide)
      obtain ⟨qd, eq⟩ := fin_of (n := 2) d.1 d.2 (by decide)
      rw [ew] at B0 B1 ⊢
      rw [eq, eb]
      rw [eb] at B1
      rw [odds_fin bd wd qd (by have p := lim_60 bd; omega)]
    · rw [if_pos (show m_X8_in w.toInt64 (0 : Int64) (1 : Int64) = 0 from by rw [in_iff, Int32.toInt_toInt64, t64_0, t64_1]; omega), if_pos (show m_X7_isBelow w (2 : Int32) = 0 from by rw [isB_iff, show (2 : Int32).toInt = 2 by decide]; exact d)]
      rfl
  · rw [if_neg (fun q => c (noL_iff.mp q)), if_pos (hasL_iff.mpr c)]
    rfl
