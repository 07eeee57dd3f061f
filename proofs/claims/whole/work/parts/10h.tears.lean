theorem fill10_l {v : Int32} : ∀ (fu : Nat) (y : Int32) (z : Nat → Int32), ((Int32.ofNat 10).toInt - y.toInt).toNat < fu → 0 ≤ y.toInt → y.toInt ≤ 10 → (∀ j : Nat, j < y.toNatClampNeg → z j = v) → ∀ j : Nat, j < 10 → m_J7_fill_53178_5 fu 10 v y z j = v := by
  intro fu
  induction fu with
  | zero => intro y z hm; exact absurd hm (Nat.not_lt_zero _)
  | succ fu ih =>
    intro y z hm h0 h10 hz j hj
    have e10 : (Int32.ofNat 10).toInt = 10 := by decide
    have t := tnc h0
    rw [m_J7_fill_53178_5]
    by_cases c : (Int32.ofNat 10) ≤ y
    · rw [if_pos c]
      have a := le_ti c
      exact hz j (by omega)
    · rw [if_neg c]
      have a := nle_ti c
      have e1 := up_1 c
      have t1 := tnc (x := y + 1) (by omega)
      refine ih (y + 1) _ (up_dec c hm) (up_nn c h0) (by omega) (fun i hi => ?_) j hj
      by_cases e : i = y.toNatClampNeg
      · rw [e, pk_us]
      · rw [pk_un e]; exact hz i (by omega)
theorem fill10 {A : Nat → Int32} {v : Int32} {j : Nat} (hj : j < 10) : m_J7_fill_53178 10 A v j = v := by
  unfold m_J7_fill_53178
  exact fill10_l _ 0 A (Nat.lt_succ_self _) (by decide) (by decide) (fun i hi => absurd hi (by rw [show (0 : Int32).toNatClampNeg = 0 by decide]; omega)) j hj
theorem drying_20 {H K : Nat → Int32} {l d : Int32} (hH : ∀ j : Nat, 0 ≤ (H j).toInt ∧ (H j).toInt ≤ 9) : 0 ≤ (m_X2_drying H K l d).toInt ∧ (m_X2_drying H K l d).toInt ≤ 20 := by
  unfold m_X2_drying
  have h : 0 ≤ (m_X7_at 6 H d).toInt ∧ (m_X7_at 6 H d).toInt ≤ 9 := by
    unfold m_X7_at
    repeat' split
    all_goals first | exact hH _ | decide
  unfold m_X2_dryingBy
  have e1 : ((m_X7_at 6 H d) + (1 : Int32)).toInt = (m_X7_at 6 H d).toInt + 1 := by rw [ti_add (by rw [ti_1]; omega) (by rw [ti_1]; omega), ti_1]
  by_cases a : (m_X7_at 5 K l) = 0
  · rw [if_pos a]; omega
  · rw [if_neg a]
    by_cases b : (m_X7_at 5 K l) = (1 : Int32)
    · rw [if_pos b]; omega
    · rw [if_neg b]
      have e2 : ((2 : Int32) * ((m_X7_at 6 H d) + (1 : Int32))).toInt = 2 * ((m_X7_at 6 H d) + (1 : Int32)).toInt := by
        have k : (2 : Int32).toInt = 2 := by decide
        rw [ti_mul (by rw [k]; omega) (by rw [k]; omega), k]
      omega
theorem ons_eq {H K : Nat → Int32} {l d : Int32} (hl : vp_in l 5) (hd : vp_in d 6) : m_X8_driesOn (0 : Int32) H K l d = m_X2_drying H K l d := by
  rw [dry_eq hl hd, if_pos (isIn0 hd)]
  rfl
def rhsN (H K : Nat → Int32) (l : Int32) (s : Nat → Int32) (j : Nat) : Int := min 99 (min (xN (m_X2_drying H K l (Int32.ofNat (j / 10))).toInt (fun w => (s (10 * (j / 10 + 1) + w)).toInt) (j % 10)) (if j % 10 < 9 then 1 + (s (10 * (j / 10) + wN (j % 10))).toInt else 99))
theorem rhs_loc {H K : Nat → Int32} {l : Int32} {s s' : Nat → Int32} {j : Nat} (hH : ∀ j : Nat, 0 ≤ (H j).toInt ∧ (H j).toInt ≤ 9) (h : ∀ i : Nat, j < i → s' i = s i) : rhsN H K l s' j = rhsN H K l s j := by
  have dr := drying_20 (H := H) (K := K) (l := l) (d := Int32.ofNat (j / 10)) hH
  unfold rhsN xN
  by_cases a : j % 10 < 9
  · have := wN_gt a
    rw [if_pos a, if_pos a, h (10 * (j / 10) + wN (j % 10)) (by omega)]
    by_cases b : (m_X2_drying H K l (Int32.ofNat (j / 10))).toInt < ((j % 10 : Nat) : Int)
    · rw [if_pos b, if_pos b]
      dsimp only
      rw [h _ (by omega)]
    · rw [if_neg b, if_neg b]
  · rw [if_neg a, if_neg a]
    by_cases b : (m_X2_drying H K l (Int32.ofNat (j / 10))).toInt < ((j % 10 : Nat) : Int)
    · rw [if_pos b, if_pos b]
      dsimp only
      rw [h _ (by omega)]
    · rw [if_neg b, if_neg b]
theorem dv60 : ∀ d : Fin 60, (Int32.ofNat d.val) / (10 : Int32) = Int32.ofNat (d.val / 10) ∧ ((Int32.ofNat d.val) - (Int32.ofNat d.val) / (10 : Int32) * (10 : Int32)) = Int32.ofNat (d.val % 10) := by decide +kernel
theorem ofN_ti {n : Nat} (h : n < 2147483648) : (Int32.ofNat n).toInt = n := Int32.toInt_ofNat_of_lt h
theorem ofN_tn {n : Nat} (h : n < 2147483648) : (Int32.ofNat n).toNatClampNeg = n := by
  have a := ofN_ti h
  have b := tnc (x := Int32.ofNat n) (by omega)
  omega
theorem x10d {d : Int32} (h0 : 0 ≤ d.toInt) (h1 : d.toInt ≤ 7) : ((10 : Int32) * d).toInt = 10 * d.toInt := by
  have k : (10 : Int32).toInt = 10 := by decide
  rw [ti_mul (by rw [k]; omega) (by rw [k]; omega), k]
theorem wept_ti {v : Nat} (h : v < 9) : (m_X8_wept (Int32.ofNat v)).toInt = wN v := by
  have q : ∀ d : Fin 9, (m_X8_wept (Int32.ofNat d.val)).toInt = wN d.val := by decide +kernel
  exact q ⟨v, h⟩
theorem on_s {H K z : Nat → Int32} {l : Int32} {j : Nat} (hl : vp_in l 5) (hH : ∀ j : Nat, 0 ≤ (H j).toInt ∧ (H j).toInt ≤ 9) (hj : j < 60) (hz : ∀ i : Nat, j < i → i < 10 * (j / 10) + 20 → 0 ≤ (z i).toInt ∧ (z i).toInt ≤ 99) :
    (if (m_X8_fewestOn (0 : Int32) z H K l ((Int32.ofNat j) / (10 : Int32)) ((Int32.ofNat j) - (Int32.ofNat j) / (10 : Int32) * (10 : Int32))) ≤ (99 : Int32) then (m_X8_fewestOn (0 : Int32) z H K l ((Int32.ofNat j) / (10 : Int32)) ((Int32.ofNat j) - (Int32.ofNat j) / (10 : Int32) * (10 : Int32))) else (99 : Int32)).toInt = rhsN H K l z j := by
  have q := dv60 ⟨j, hj⟩
  dsimp only at q
  rw [q.2, q.1]
  have hd : vp_in (Int32.ofNat (j / 10)) 6 := vp_in_iff.mpr (by rw [ofN_ti (by omega)]; omega)
  have dr := drying_20 (H := H) (K := K) (l := l) (d := Int32.ofNat (j / 10)) hH
  have k99 : (99 : Int32).toInt = 99 := by decide
  have k9 : (9 : Int32).toInt = 9 := by decide
  have ev : (Int32.ofNat (j % 10)).toInt = (j % 10 : Nat) := ofN_ti (by omega)
  have edd : (Int32.ofNat (j / 10)).toInt = (j / 10 : Nat) := ofN_ti (by omega)
  have ed1 : ((Int32.ofNat (j / 10)) + (1 : Int32)).toInt = (j / 10 : Nat) + 1 := by rw [ti_add (by rw [ti_1]; omega) (by rw [ti_1]; omega), ti_1, edd]
  have esub : ((Int32.ofNat (j % 10)) - (m_X2_drying H K l (Int32.ofNat (j / 10)))).toInt = (j % 10 : Nat) - (m_X2_drying H K l (Int32.ofNat (j / 10))).toInt := by rw [ti_sub (by omega) (by omega), ev]
  have hE : (if (m_X8_dried (0 : Int32) H K (Int32.ofNat (j % 10)) l (Int32.ofNat (j / 10))) ≤ 0 then (99 : Int32) else (z (((10 : Int32) * ((Int32.ofNat (j / 10)) + (1 : Int32))) + (m_X8_dried (0 : Int32) H K (Int32.ofNat (j % 10)) l (Int32.ofNat (j / 10)))).toNatClampNeg)).toInt = xN (m_X2_drying H K l (Int32.ofNat (j / 10))).toInt (fun w => (z (10 * (j / 10 + 1) + w)).toInt) (j % 10) := by
    unfold m_X8_dried
    rw [ons_eq hl hd]
    unfold xN
    by_cases b : (m_X2_drying H K l (Int32.ofNat (j / 10))).toInt < ((j % 10 : Nat) : Int)
    · have p : 0 ≤ ((Int32.ofNat (j % 10)) - (m_X2_drying H K l (Int32.ofNat (j / 10)))) := Int32.le_iff_toInt_le.mpr (by rw [ti_0, esub]; omega)
      rw [if_pos p, if_neg (fun c => by have := le_ti c; rw [ti_0, esub] at this; omega), if_pos b]
      dsimp only
      have ei : (((10 : Int32) * ((Int32.ofNat (j / 10)) + (1 : Int32))) + ((Int32.ofNat (j % 10)) - (m_X2_drying H K l (Int32.ofNat (j / 10))))).toInt = 10 * ((j / 10 : Nat) + 1) + ((j % 10 : Nat) - (m_X2_drying H K l (Int32.ofNat (j / 10))).toInt) := by
        have m := x10d (d := (Int32.ofNat (j / 10)) + (1 : Int32)) (by omega) (by omega)
        rw [ti_add (by omega) (by omega), m, esub, ed1]
      have t := tnc (x := ((10 : Int32) * ((Int32.ofNat (j / 10)) + (1 : Int32))) + ((Int32.ofNat (j % 10)) - (m_X2_drying H K l (Int32.ofNat (j / 10))))) (by omega)
      rw [show (((10 : Int32) * ((Int32.ofNat (j / 10)) + (1 : Int32))) + ((Int32.ofNat (j % 10)) - (m_X2_drying H K l (Int32.ofNat (j / 10))))).toNatClampNeg = 10 * (j / 10 + 1) + (((j % 10 : Nat) : Int) - (m_X2_drying H K l (Int32.ofNat (j / 10))).toInt).toNat by omega]
    · rw [if_neg b]
      by_cases p : 0 ≤ ((Int32.ofNat (j % 10)) - (m_X2_drying H K l (Int32.ofNat (j / 10))))
      · rw [if_pos p, if_pos (Int32.le_iff_toInt_le.mpr (by rw [ti_0, esub]; omega)), k99]
      · rw [if_neg p, if_pos (by decide), k99]
  have hE0 : 0 ≤ (xN (m_X2_drying H K l (Int32.ofNat (j / 10))).toInt (fun w => (z (10 * (j / 10 + 1) + w)).toInt) (j % 10)) ∧ (xN (m_X2_drying H K l (Int32.ofNat (j / 10))).toInt (fun w => (z (10 * (j / 10 + 1) + w)).toInt) (j % 10)) ≤ 99 := by
    unfold xN
    by_cases b : (m_X2_drying H K l (Int32.ofNat (j / 10))).toInt < ((j % 10 : Nat) : Int)
    · rw [if_pos b]; exact hz _ (by omega) (by omega)
    · rw [if_neg b]; omega
  unfold m_X8_fewestOn
  rw [← hE] at hE0
  unfold rhsN
  rw [← hE]
  obtain ⟨E, eE⟩ : ∃ E, E = (if (m_X8_dried (0 : Int32) H K (Int32.ofNat (j % 10)) l (Int32.ofNat (j / 10))) ≤ 0 then (99 : Int32) else (z (((10 : Int32) * ((Int32.ofNat (j / 10)) + (1 : Int32))) + (m_X8_dried (0 : Int32) H K (Int32.ofNat (j % 10)) l (Int32.ofNat (j / 10)))).toNatClampNeg)) := ⟨_, rfl⟩
  rw [← eE] at hE0 ⊢
  by_cases a : j % 10 < 9
  · have hw := wN_gt a
    have ew := wept_ti a
    have iw : (((10 : Int32) * (Int32.ofNat (j / 10))) + (m_X8_wept (Int32.ofNat (j % 10)))).toNatClampNeg = 10 * (j / 10) + wN (j % 10) := by
      have m := x10d (d := Int32.ofNat (j / 10)) (by omega) (by omega)
      have s := ti_add (a := (10 : Int32) * (Int32.ofNat (j / 10))) (b := m_X8_wept (Int32.ofNat (j % 10))) (by omega) (by omega)
      have t := tnc (x := ((10 : Int32) * (Int32.ofNat (j / 10))) + (m_X8_wept (Int32.ofNat (j % 10)))) (by omega)
      omega
    rw [iw, if_pos a, if_neg (show ¬ (9 : Int32) ≤ Int32.ofNat (j % 10) from fun c => by have := le_ti c; omega)]
    have hw2 := hz (10 * (j / 10) + wN (j % 10)) (by omega) (by omega)
    obtain ⟨W, eW⟩ : ∃ W, W = z (10 * (j / 10) + wN (j % 10)) := ⟨_, rfl⟩
    rw [← eW] at hw2 ⊢
    have e1 : ((1 : Int32) + W).toInt = 1 + W.toInt := by rw [ti_add (by rw [ti_1]; omega) (by rw [ti_1]; omega), ti_1]
    by_cases c : ((1 : Int32) + W) ≤ E
    · rw [if_pos c]
      have c1 := le_ti c
      by_cases d : ((1 : Int32) + W) ≤ (99 : Int32)
      · rw [if_pos d]; have := le_ti d; omega
      · rw [if_neg d]; have := nle_ti d; omega
    · rw [if_neg c]
      have c1 := nle_ti c
      by_cases d : E ≤ (99 : Int32)
      · rw [if_pos d]; have := le_ti d; omega
      · rw [if_neg d]; have := nle_ti d; omega
  · rw [if_neg a, if_pos (show (9 : Int32) ≤ Int32.ofNat (j % 10) from Int32.le_iff_toInt_le.mpr (by omega))]
    by_cases c : (99 : Int32) ≤ E
    · rw [if_pos c, if_pos (by decide)]; have := le_ti c; omega
    · rw [if_neg c]
      have c1 := nle_ti c
      rw [if_pos (Int32.le_iff_toInt_le.mpr (by omega))]
      omega
theorem down_1 {y : Int32} (h : 0 ≤ y.toInt) : (y + (-1 : Int32)).toInt = y.toInt - 1 := by
  have k : (-1 : Int32).toInt = -1 := by decide
  have := ti_hi y
  rw [ti_add (by rw [k]; omega) (by rw [k]; omega), k]
  omega
theorem back_39 {H K D : Nat → Int32} {l : Int32} {bN : Nat} (hb : bN ≤ 6) (hl : vp_in l 5) (hH : ∀ j : Nat, 0 ≤ (H j).toInt ∧ (H j).toInt ≤ 9) : ∀ (fu : Nat) (y : Int32) (z : Nat → Int32), (y.toInt + 1).toNat < fu → -1 ≤ y.toInt → y.toInt < 10 * bN →
    (∀ i : Nat, y.toInt < i → i < 10 * bN + 10 → 0 ≤ (z i).toInt ∧ (z i).toInt ≤ 99) → (∀ v : Nat, v < 10 → z (10 * bN + v) = 0) → (∀ j : Nat, y.toInt < j → j < 10 * bN → (z j).toInt = rhsN H K l z j) →
    ∃ s : Nat → Int32, m_X8_tearsOf_39 fu (0 : Int32) H K D l y z = ((if (99 : Int32) ≤ (s (D l.toNatClampNeg).toNatClampNeg) then (-9 : Int32) else (s (D l.toNatClampNeg).toNatClampNeg)), s) ∧ (∀ i : Nat, i < 10 * bN + 10 → 0 ≤ (s i).toInt ∧ (s i).toInt ≤ 99) ∧ (∀ v : Nat, v < 10 → s (10 * bN + v) = 0) ∧ (∀ j : Nat, j < 10 * bN → (s j).toInt = rhsN H K l s j) := by
  intro fu
  induction fu with
  | zero => intro y z hm; exact absurd hm (Nat.not_lt_zero _)
  | succ fu ih =>
    intro y z hm h0 h1 hr hz he
    rw [m_X8_tearsOf_39]
    by_cases c : y < 0
    · rw [if_pos c]
      have a := lt_ti c
      rw [ti_0] at a
      exact ⟨z, rfl, fun i hi => hr i (by omega) hi, hz, fun j hj => he j (by omega) hj⟩
    · rw [if_neg c]
      have a := nlt_ti0 c
      have t := tnc a
      have d1 := down_1 a
      have yj : y = Int32.ofNat y.toNatClampNeg := by
        apply Int32.toInt_inj.mp
        rw [ofN_ti (by omega)]
        omega
      have S := on_s (K := K) (z := z) (j := y.toNatClampNeg) hl hH (by omega) (fun i g g2 => hr i (by omega) (by omega))
      rw [← yj] at S
      obtain ⟨w, ew⟩ : ∃ w, w = (if (m_X8_fewestOn (0 : Int32) z H K l (y / (10 : Int32)) (y - y / (10 : Int32) * (10 : Int32))) ≤ (99 : Int32) then (m_X8_fewestOn (0 : Int32) z H K l (y / (10 : Int32)) (y - y / (10 : Int32) * (10 : Int32))) else (99 : Int32)) := ⟨_, rfl⟩
      rw [← ew] at S ⊢
      have L : ∀ j : Nat, y.toNatClampNeg ≤ j → rhsN H K l (upd z y.toNatClampNeg w) j = rhsN H K l z j := fun j hj => rhs_loc hH (fun i hi => pk_un (by omega))
      have W : 0 ≤ w.toInt ∧ w.toInt ≤ 99 := by
        rw [S]
        have B : 0 ≤ rhsN H K l z y.toNatClampNeg := by
          unfold rhsN xN
          have p1 : (if y.toNatClampNeg % 10 < 9 then 1 + (z (10 * (y.toNatClampNeg / 10) + wN (y.toNatClampNeg % 10))).toInt else 99) ≥ 0 := by
            by_cases g : y.toNatClampNeg % 10 < 9
            · rw [if_pos g]
              have := wN_gt g
              have := hr (10 * (y.toNatClampNeg / 10) + wN (y.toNatClampNeg % 10)) (by omega) (by omega)
              omega
            · rw [if_neg g]; omega
          have p2 : (if (m_X2_drying H K l (Int32.ofNat (y.toNatClampNeg / 10))).toInt < ((y.toNatClampNeg % 10 : Nat) : Int) then (fun w => (z (10 * (y.toNatClampNeg / 10 + 1) + w)).toInt) (((y.toNatClampNeg % 10 : Nat) : Int) - (m_X2_drying H K l (Int32.ofNat (y.toNatClampNeg / 10))).toInt).toNat else 99) ≥ 0 := by
            have dr := drying_20 (H := H) (K := K) (l := l) (d := Int32.ofNat (y.toNatClampNeg / 10)) hH
            by_cases g : (m_X2_drying H K l (Int32.ofNat (y.toNatClampNeg / 10))).toInt < ((y.toNatClampNeg % 10 : Nat) : Int)
            · rw [if_pos g]
              exact (hr _ (by omega) (by omega)).1
            · rw [if_neg g]; omega
          omega
        have B2 : rhsN H K l z y.toNatClampNeg ≤ 99 := by unfold rhsN; omega
        omega
      refine ih (y + (-1 : Int32)) _ (by omega) (by omega) (by omega) (fun i g g2 => ?_) (fun v hv => ?_) (fun j g g2 => ?_)
      · by_cases e : i = y.toNatClampNeg
        · rw [e, pk_us]; exact W
        · rw [pk_un e]; exact hr i (by omega) g2
      · rw [pk_un (by omega)]; exact hz v hv
      · rw [L j (by omega)]
        by_cases e : j = y.toNatClampNeg
        · rw [e, pk_us]; exact S
        · rw [pk_un e]; exact he j (by omega) g2
theorem back_2 {H K D : Nat → Int32} {l b : Int32} (hb0 : 0 ≤ b.toInt) (hb : b.toInt ≤ 6) (hl : vp_in l 5) (hH : ∀ j : Nat, 0 ≤ (H j).toInt ∧ (H j).toInt ≤ 9) : ∀ (fu : Nat) (y : Int32) (z : Nat → Int32), ((10 : Int32).toInt - y.toInt).toNat < fu → 0 ≤ y.toInt → y.toInt ≤ 10 → (∀ v : Nat, v < y.toNatClampNeg → z (10 * b.toNatClampNeg + v) = 0) →
    ∃ s : Nat → Int32, m_X8_tearsOf_2 fu b (0 : Int32) H K D l y z = ((if (99 : Int32) ≤ (s (D l.toNatClampNeg).toNatClampNeg) then (-9 : Int32) else (s (D l.toNatClampNeg).toNatClampNeg)), s) ∧ (∀ i : Nat, i < 10 * b.toNatClampNeg + 10 → 0 ≤ (s i).toInt ∧ (s i).toInt ≤ 99) ∧ (∀ v : Nat, v < 10 → s (10 * b.toNatClampNeg + v) = 0) ∧ (∀ j : Nat, j < 10 * b.toNatClampNeg → (s j).toInt = rhsN H K l s j) := by
  intro fu
  induction fu with
  | zero => intro y z hm; exact absurd hm (Nat.not_lt_zero _)
  | succ fu ih =>
    intro y z hm h0 h10 hz
    have t := tnc h0
    have tb := tnc hb0
    have e10 : (10 : Int32).toInt = 10 := by decide
    have m := x10d (d := b) hb0 (by omega)
    rw [m_X8_tearsOf_2]
    by_cases c : (10 : Int32) ≤ y
    · rw [if_pos c]
      have a := le_ti c
      have k1 : (((10 : Int32) * b) - (1 : Int32)).toInt = 10 * b.toInt - 1 := by rw [ti_sub (by rw [ti_1]; omega) (by rw [ti_1]; omega), ti_1, m]
      refine back_39 (bN := b.toNatClampNeg) (by omega) hl hH _ _ z (by omega) (by omega) (by omega) (fun i g g2 => ?_) (fun v hv => hz v (by omega)) (fun j g g2 => by omega)
      rw [show i = 10 * b.toNatClampNeg + (i - 10 * b.toNatClampNeg) by omega, hz _ (by omega)]
      decide
    · rw [if_neg c]
      have a := nle_ti c
      have e1 := up_1 c
      have t1 := tnc (x := y + 1) (by omega)
      have ei : (((10 : Int32) * b) + y).toInt = 10 * b.toInt + y.toInt := by rw [ti_add (by omega) (by omega), m]
      have ti := tnc (x := ((10 : Int32) * b) + y) (by omega)
      rw [show (((10 : Int32) * b) + y).toNatClampNeg = 10 * b.toNatClampNeg + y.toNatClampNeg by omega]
      refine ih (y + 1) _ (up_dec c hm) (up_nn c h0) (by omega) (fun v hv => ?_)
      by_cases e : v = y.toNatClampNeg
      · rw [e, pk_us]
      · rw [pk_un (by omega)]; exact hz v (by omega)
theorem tears_eq {b l : Int32} {H K D kF mTF : Nat → Int32} (hb1 : 1 ≤ b.toInt) (hb : b.toInt ≤ 6) (hl : vp_in l 5) (hH : ∀ j : Nat, 0 ≤ (H j).toInt ∧ (H j).toInt ≤ 9) (hD : ∀ j : Nat, 0 ≤ (D j).toInt ∧ (D j).toInt ≤ 9) :
    (m_X0_fewestActs kF b H K D l).1 = (m_X8_tearsOf b (0 : Int32) mTF H K D l).1 ∧ ((m_X8_tearsOf b (0 : Int32) mTF H K D l).1 = (-9 : Int32) ∨ (0 ≤ (m_X8_tearsOf b (0 : Int32) mTF H K D l).1.toInt ∧ (m_X8_tearsOf b (0 : Int32) mTF H K D l).1.toInt ≤ 54)) := by
  obtain ⟨s, s1, s2, s3, s4⟩ := back_2 (D := D) (by omega) hb hl hH (((10 : Int32).toInt - (0 : Int32).toInt).toNat + 1) 0 mTF (Nat.lt_succ_self _) (by decide) (by decide) (fun v hv => absurd hv (by rw [show (0 : Int32).toNatClampNeg = 0 by decide]; omega))
  have tb := tnc (x := b) (by omega)
  have l5 := vp_in_iff.mp hl
  have hDl := hD l.toNatClampNeg
  have tD := tnc hDl.1
  have eD : m_X7_at 5 D l = D l.toNatClampNeg := at_in l5.1 (by omega) (by decide)
  obtain ⟨r, q, r1, r2, r3, r4⟩ := few_l (H := H) (K := K) (l := l) (T := fun d v => if d ≤ b.toNatClampNeg ∧ v < 10 then (s (10 * d + v)).toInt else 0) hb hb1 (fun y _ _ => drying_20 hH)
    (fun d v => by
      try dsimp only
      by_cases c : d ≤ b.toNatClampNeg ∧ v < 10
      · rw [if_pos c]; exact (s2 _ (by omega)).1
      · rw [if_neg c]; exact Int.le_refl _)
    (fun v hv => by
      try dsimp only
      rw [if_pos ⟨Nat.le_refl _, hv⟩, s3 v hv]; rfl)
    (fun y g0 g1 => by
      have ty := tnc g0
      have ey : Int32.ofNat y.toNatClampNeg = y := by
        apply Int32.toInt_inj.mp
        rw [ofN_ti (by omega)]; omega
      have dr := drying_20 (H := H) (K := K) (l := l) (d := y) hH
      have X : ∀ v : Nat, v < 10 → xN (m_X2_drying H K l y).toInt (fun v => if y.toNatClampNeg + 1 ≤ b.toNatClampNeg ∧ v < 10 then (s (10 * (y.toNatClampNeg + 1) + v)).toInt else 0) v = xN (m_X2_drying H K l y).toInt (fun w => (s (10 * (y.toNatClampNeg + 1) + w)).toInt) v := fun v hv => by
        unfold xN
        by_cases g : (m_X2_drying H K l y).toInt < (v : Int)
        · rw [if_pos g, if_pos g]
          dsimp only
          rw [if_pos (by omega)]
        · rw [if_neg g, if_neg g]
      refine ⟨fun v hv => ?_, ?_⟩
      · have w := wN_gt hv
        rw [X v (by omega)]
        dsimp only
        rw [if_pos (by omega), if_pos (by omega), s4 _ (by omega)]
        unfold rhsN
        rw [show (10 * y.toNatClampNeg + v) / 10 = y.toNatClampNeg by omega, show (10 * y.toNatClampNeg + v) % 10 = v by omega, ey, if_pos hv]
      · rw [X 9 (by omega)]
        dsimp only
        rw [if_pos (by omega), s4 _ (by omega)]
        unfold rhsN
        rw [show (10 * y.toNatClampNeg + 9) / 10 = y.toNatClampNeg by omega, show (10 * y.toNatClampNeg + 9) % 10 = 9 by omega, ey, if_neg (by omega)]
        omega)
    ((b.toInt - (0 : Int32).toInt).toNat + 1) 0 (upd (m_J7_fill_53178 10 kF (1000 : Int32)) (D l.toNatClampNeg).toNatClampNeg (0 : Int32)) (Nat.lt_succ_self _) (by decide) (by rw [ti_0]; omega)
    (fun v hv => by
      by_cases e : v = (D l.toNatClampNeg).toNatClampNeg
      · rw [e, pk_us]; decide
      · rw [pk_un e, fill10 hv]; decide)
    (Or.inl (by decide))
  have E1 : m_X0_fewestActs kF b H K D l = ((if (1000 : Int32) ≤ r then (-9 : Int32) else r), q) := by
    unfold m_X0_fewestActs
    rw [eD, set10 hDl.1 (by omega)]
    exact r1
  have E2 : m_X8_tearsOf b (0 : Int32) mTF H K D l = ((if (99 : Int32) ≤ (s (D l.toNatClampNeg).toNatClampNeg) then (-9 : Int32) else (s (D l.toNatClampNeg).toNatClampNeg)), s) := s1
  rw [E1, E2]
  have sD := s2 (D l.toNatClampNeg).toNatClampNeg (by omega)
  have M : ∀ c : Int, c ≤ 99 → (c ≤ r.toInt ↔ c ≤ (s (D l.toNatClampNeg).toNatClampNeg).toInt) := fun c hc => (r4 c hc).trans ⟨fun h => by
      have h3 := h (D l.toNatClampNeg).toNatClampNeg (by omega)
      dsimp only at h3
      rw [pk_us, ti_0, show (0 : Int32).toNatClampNeg = 0 by decide, if_pos (by omega), show 10 * 0 + (D l.toNatClampNeg).toNatClampNeg = (D l.toNatClampNeg).toNatClampNeg by omega] at h3
      omega, fun h v hv => by
      dsimp only
      rw [show (0 : Int32).toNatClampNeg = 0 by decide, if_pos (by omega), show 10 * 0 + v = v by omega]
      by_cases e : v = (D l.toNatClampNeg).toNatClampNeg
      · rw [e, pk_us, ti_0]; omega
      · rw [pk_un e, fill10 hv, show (1000 : Int32).toInt = 1000 by decide]
        have := (s2 v (by omega)).1
        omega⟩
  have k1000 : (1000 : Int32).toInt = 1000 := by decide
  have k99 : (99 : Int32).toInt = 99 := by decide
  dsimp only
  by_cases c : (1000 : Int32) ≤ r
  · have a := le_ti c
    have := (M 99 (by omega)).mp (by omega)
    rw [if_pos c, if_pos (Int32.le_iff_toInt_le.mpr (by omega))]
    exact ⟨rfl, Or.inl rfl⟩
  · have a := nle_ti c
    have r54 : r.toInt ≤ 54 := by omega
    have m1 := (M r.toInt (by omega)).mp (Int.le_refl _)
    have m2 := (M (s (D l.toNatClampNeg).toNatClampNeg).toInt (by omega)).mpr (Int.le_refl _)
    rw [if_neg c, if_neg (fun g => by have := le_ti g; omega)]
    exact ⟨Int32.toInt_inj.mp (by omega), Or.inr ⟨by omega, by omega⟩⟩
