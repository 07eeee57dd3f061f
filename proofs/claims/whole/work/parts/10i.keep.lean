def okT (t : Int32) : Prop := t = (-9 : Int32) ∨ (0 ≤ t.toInt ∧ t.toInt ≤ 54)
theorem okT_b {t : Int32} (h : okT t) : -9 ≤ t.toInt ∧ t.toInt ≤ 54 := by
  rcases h with h | h
  · rw [h]; decide
  · omega
theorem okT_n {t : Int32} (h : okT t) : ¬ t = (-9 : Int32) ↔ 0 ≤ t.toInt := by
  rcases h with h | h
  · rw [h]; decide
  · exact ⟨fun _ => h.1, fun _ c => by rw [c] at h; exact absurd h.1 (by decide)⟩
def inS (sub : Int32) (l : Nat) : Prop := ((sub >>> ((Int32.ofNat l) &&& 31)) &&& (1 : Int32)) = (1 : Int32)
def trm (T O : Nat → Int32) (sub : Int32) (w l : Nat) : Int := if ((sub >>> ((Int32.ofNat l) &&& 31)) &&& (1 : Int32)) = (1 : Int32) then (if (O l).toNatClampNeg = w then (T l).toInt else 0) else 0
def sumW (T O : Nat → Int32) (sub : Int32) (w : Nat) : Nat → Int
  | 0 => 0
  | k + 1 => sumW T O sub w k + trm T O sub w k
def okW (T O : Nat → Int32) (sub : Int32) (w k : Nat) : Prop := ∀ l : Nat, l < k → inS sub l → (O l).toNatClampNeg = w → ¬ T l = (-9 : Int32)
def posW (T : Nat → Int32) (sub : Int32) (k : Nat) : Prop := ∀ l : Nat, l < k → inS sub l → 0 ≤ (T l).toInt
theorem trm_b {T O : Nat → Int32} {sub : Int32} {w l : Nat} (h : okT (T l)) : -9 ≤ trm T O sub w l ∧ trm T O sub w l ≤ 54 := by
  have := okT_b h
  unfold trm
  by_cases a : ((sub >>> ((Int32.ofNat l) &&& 31)) &&& (1 : Int32)) = (1 : Int32)
  · rw [if_pos a]
    by_cases c : (O l).toNatClampNeg = w
    · rw [if_pos c]; exact this
    · rw [if_neg c]; omega
  · rw [if_neg a]; omega
theorem sumW_b {T O : Nat → Int32} {sub : Int32} {w : Nat} : ∀ k : Nat, (∀ l : Nat, l < k → okT (T l)) → -9 * (k : Int) ≤ sumW T O sub w k ∧ sumW T O sub w k ≤ 54 * (k : Int) := by
  intro k
  induction k with
  | zero => intro _; rw [sumW]; omega
  | succ k ih =>
    intro h
    have a := ih (fun l hl => h l (by omega))
    have b := trm_b (O := O) (sub := sub) (w := w) (h k (by omega))
    rw [sumW]
    omega
theorem sumW_c {T T' O : Nat → Int32} {sub : Int32} {w : Nat} : ∀ k : Nat, (∀ l : Nat, l < k → T l = T' l) → sumW T O sub w k = sumW T' O sub w k := by
  intro k
  induction k with
  | zero => intro _; rfl
  | succ k ih =>
    intro h
    have e : trm T O sub w k = trm T' O sub w k := by unfold trm; rw [h k (by omega)]
    rw [sumW, sumW, ih (fun l hl => h l (by omega)), e]
theorem ofN_tnc {y : Int32} (h0 : 0 ≤ y.toInt) : Int32.ofNat y.toNatClampNeg = y := by
  have := tnc h0
  have := ti_hi y
  apply Int32.toInt_inj.mp
  rw [ofN_ti (by omega)]
  omega
theorem ck_20 {kx : Int32 → Int32 → Int32} {T O : Nat → Int32} {n sub k3 s : Int32} (hn : n.toInt ≤ 5) (hT : ∀ j : Nat, (j : Int) < n.toInt → okT (T j)) (hO : ∀ j : Nat, vp_in (O j) 4) (hk : 0 ≤ k3.toInt) (hs : 0 ≤ s.toInt ∧ s.toInt ≤ 9) :
    ∀ (fu : Nat) (y4 y5 : Int32), (n.toInt - y5.toInt).toNat < fu → 0 ≤ y5.toInt → y5.toInt ≤ n.toInt → y4.toInt = s.toInt - sumW T O sub k3.toNatClampNeg y5.toNatClampNeg → okW T O sub k3.toNatClampNeg y5.toNatClampNeg →
      (okW T O sub k3.toNatClampNeg n.toNatClampNeg ∧ ∃ y4' y5' : Int32, y4'.toInt = s.toInt - sumW T O sub k3.toNatClampNeg n.toNatClampNeg ∧ m_X0_canAllBeKept_20 kx fu T n O sub k3 y4 y5 = kx y4' y5') ∨ (¬ okW T O sub k3.toNatClampNeg n.toNatClampNeg ∧ m_X0_canAllBeKept_20 kx fu T n O sub k3 y4 y5 = 0) := by
  intro fu
  induction fu with
  | zero => intro y4 y5 hm; exact absurd hm (Nat.not_lt_zero _)
  | succ fu ih =>
    intro y4 y5 hm h0 h1 he hw
    have t := tnc h0
    have tn := tnc (x := n) (by omega)
    rw [m_X0_canAllBeKept_20]
    by_cases q : n ≤ y5
    · rw [if_pos q]
      have a := le_ti q
      have e : y5.toNatClampNeg = n.toNatClampNeg := by omega
      rw [e] at he hw
      exact Or.inl ⟨hw, y4, y5, he, rfl⟩
    · rw [if_neg q]
      have a := nle_ti q
      have e1 := up_1 q
      have t1 := tnc (x := y5 + 1) (by omega)
      have ey := ofN_tnc h0
      have et : (y5 + 1).toNatClampNeg = y5.toNatClampNeg + 1 := by omega
      have eO : m_X7_at 5 O y5 = O y5.toNatClampNeg := at_in h0 (by omega) (by decide)
      have eT : m_X7_at 5 T y5 = T y5.toNatClampNeg := at_in h0 (by omega) (by decide)
      have hTy := hT y5.toNatClampNeg (by omega)
      have bT := okT_b hTy
      have bS := sumW_b (O := O) (sub := sub) (w := k3.toNatClampNeg) y5.toNatClampNeg (fun l hl => hT l (by omega))
      have Oy := vp_in_iff.mp (hO y5.toNatClampNeg)
      have tO := tnc Oy.1
      have tk := tnc hk
      rw [eO, eT]
      have step : ∀ v : Int32, v.toInt = trm T O sub k3.toNatClampNeg y5.toNatClampNeg → (inS sub y5.toNatClampNeg → (O y5.toNatClampNeg).toNatClampNeg = k3.toNatClampNeg → ¬ T y5.toNatClampNeg = (-9 : Int32)) →
          (okW T O sub k3.toNatClampNeg n.toNatClampNeg ∧ ∃ y4' y5' : Int32, y4'.toInt = s.toInt - sumW T O sub k3.toNatClampNeg n.toNatClampNeg ∧ m_X0_canAllBeKept_20 kx fu T n O sub k3 (y4 - v) (y5 + 1) = kx y4' y5') ∨ (¬ okW T O sub k3.toNatClampNeg n.toNatClampNeg ∧ m_X0_canAllBeKept_20 kx fu T n O sub k3 (y4 - v) (y5 + 1) = 0) := by
        intro v hv hn9
        have bt := trm_b (O := O) (sub := sub) (w := k3.toNatClampNeg) hTy
        have ev : (y4 - v).toInt = y4.toInt - v.toInt := ti_sub (by omega) (by omega)
        refine ih (y4 - v) (y5 + 1) (up_dec q hm) (up_nn q h0) (by omega) ?_ ?_
        · rw [et, sumW]; omega
        · rw [et]
          intro l hl c1 c2
          by_cases e : l = y5.toNatClampNeg
          · subst e; exact hn9 c1 c2
          · exact hw l (by omega) c1 c2
      by_cases c1 : ((sub >>> (y5 &&& 31)) &&& (1 : Int32)) = (1 : Int32)
      · have i1 : ((sub >>> ((Int32.ofNat y5.toNatClampNeg) &&& 31)) &&& (1 : Int32)) = (1 : Int32) := by rw [ey]; exact c1
        rw [if_pos c1]
        by_cases c2 : O y5.toNatClampNeg = k3
        · have c2' : (O y5.toNatClampNeg).toNatClampNeg = k3.toNatClampNeg := by rw [c2]
          rw [if_pos c2, if_neg (show ¬ (1 : Int32) = 0 by decide)]
          by_cases c3 : T y5.toNatClampNeg = (-9 : Int32)
          · rw [if_pos c3]
            exact Or.inr ⟨fun h => h y5.toNatClampNeg (by omega) i1 c2' c3, rfl⟩
          · rw [if_neg c3, if_neg (show ¬ (1 : Int32) = 0 by decide)]
            exact step _ (by unfold trm; rw [if_pos i1, if_pos c2']) (fun _ _ => c3)
        · have c2' : ¬ (O y5.toNatClampNeg).toNatClampNeg = k3.toNatClampNeg := fun h => c2 (Int32.toInt_inj.mp (by omega))
          rw [if_neg c2, if_pos rfl, if_pos rfl]
          exact step _ (by unfold trm; rw [if_pos i1, if_neg c2', ti_0]) (fun _ h => absurd h c2')
      · have i1 : ¬ ((sub >>> ((Int32.ofNat y5.toNatClampNeg) &&& 31)) &&& (1 : Int32)) = (1 : Int32) := by rw [ey]; exact c1
        rw [if_neg c1, if_pos rfl, if_pos rfl]
        exact step _ (by unfold trm; rw [if_neg i1, ti_0]) (fun h _ => absurd h i1)
theorem ck_2 {T O S : Nat → Int32} {n sub : Int32} (hn0 : 0 ≤ n.toInt) (hn : n.toInt ≤ 5) (hT : ∀ j : Nat, (j : Int) < n.toInt → okT (T j)) (hO : ∀ j : Nat, vp_in (O j) 4) (hS : ∀ j : Nat, 0 ≤ (S j).toInt ∧ (S j).toInt ≤ 9) :
    ∀ (fu : Nat) (y3 : Int32), ((4 : Int32).toInt - y3.toInt).toNat < fu → 0 ≤ y3.toInt → y3.toInt ≤ 4 → (m_X0_canAllBeKept_2 fu T n S O sub y3 = 0 ↔ ¬ ∀ w : Nat, y3.toNatClampNeg ≤ w → w < 4 → okW T O sub w n.toNatClampNeg ∧ sumW T O sub w n.toNatClampNeg ≤ (S w).toInt) := by
  intro fu
  induction fu with
  | zero => intro y3 hm; exact absurd hm (Nat.not_lt_zero _)
  | succ fu ih =>
    intro y3 hm h0 h4
    have t := tnc h0
    have e4 : (4 : Int32).toInt = 4 := by decide
    have z0 : (0 : Int32).toNatClampNeg = 0 := by decide
    rw [m_X0_canAllBeKept_2]
    by_cases q : (4 : Int32) ≤ y3
    · rw [if_pos q]
      have a := le_ti q
      exact ⟨fun h => absurd h (by decide), fun h => absurd (fun w g g2 => absurd g2 (by omega)) h⟩
    · rw [if_neg q]
      have a := nle_ti q
      have e1 := up_1 q
      have t1 := tnc (x := y3 + 1) (by omega)
      have et : (y3 + 1).toNatClampNeg = y3.toNatClampNeg + 1 := by omega
      have eS : m_X7_at 4 S y3 = S y3.toNatClampNeg := at_in h0 (by omega) (by decide)
      have hSy := hS y3.toNatClampNeg
      rw [eS]
      have R := ck_20 (kx := fun y4 y5 => (if 0 ≤ y4 then (m_X0_canAllBeKept_2 fu T n S O sub (y3 + 1)) else (0 : Int32))) (T := T) (O := O) (n := n) (sub := sub) (k3 := y3) (s := S y3.toNatClampNeg) hn hT hO h0 hSy ((n.toInt - (0 : Int32).toInt).toNat + 1) (S y3.toNatClampNeg) (0 : Int32) (Nat.lt_succ_self _) (by decide) (by rw [ti_0]; exact hn0) (by rw [z0, sumW]; omega) (by rw [z0]; exact fun l hl => absurd hl (by omega))
      rcases R with ⟨ok, y4', y5', g4, E⟩ | ⟨nok, E⟩
      · rw [E]
        try dsimp only
        by_cases p : 0 ≤ y4'
        · rw [if_pos p]
          have p1 := le_ti p
          rw [ti_0] at p1
          refine (ih (y3 + 1) (up_dec q hm) (up_nn q h0) (by omega)).trans (not_congr ⟨fun h w g g2 => ?_, fun h w g g2 => h w (by omega) g2⟩)
          by_cases e : w = y3.toNatClampNeg
          · subst e; exact ⟨ok, by omega⟩
          · exact h w (by omega) g2
        · rw [if_neg p]
          have p1 := nle_ti p
          rw [ti_0] at p1
          exact ⟨fun _ h => by have := (h y3.toNatClampNeg (Nat.le_refl _) (by omega)).2; omega, fun _ => rfl⟩
      · rw [E]
        exact ⟨fun _ h => nok (h y3.toNatClampNeg (Nat.le_refl _) (by omega)).1, fun _ => rfl⟩
theorem mk_87 {S z : Nat → Int32} : ∀ (fu : Nat) (y2 y3 : Int32), ((4 : Int32).toInt - y3.toInt).toNat < fu → 0 ≤ y3.toInt → y3.toInt ≤ 4 → ((m_X8_canKeep_87 fu S z y2 y3).1 = 0 ↔ (y2 = 0 ∨ ¬ ∀ w : Nat, y3.toNatClampNeg ≤ w → w < 4 → (z w).toInt ≤ (S w).toInt)) := by
  intro fu
  induction fu with
  | zero => intro y2 y3 hm; exact absurd hm (Nat.not_lt_zero _)
  | succ fu ih =>
    intro y2 y3 hm h0 h4
    have t := tnc h0
    have e4 : (4 : Int32).toInt = 4 := by decide
    rw [m_X8_canKeep_87]
    by_cases q : (4 : Int32) ≤ y3
    · rw [if_pos q]
      have a := le_ti q
      exact ⟨fun h => Or.inl h, fun h => h.elim id (fun c => absurd (fun w g g2 => absurd g2 (by omega)) c)⟩
    · rw [if_neg q]
      have a := nle_ti q
      have e1 := up_1 q
      have t1 := tnc (x := y3 + 1) (by omega)
      by_cases c : y2 = 0
      · rw [if_pos c]
        exact ⟨fun _ => Or.inl c, fun _ => (ih 0 (y3 + 1) (up_dec q hm) (up_nn q h0) (by omega)).mpr (Or.inl rfl)⟩
      · rw [if_neg c]
        refine (ih _ (y3 + 1) (up_dec q hm) (up_nn q h0) (by omega)).trans ?_
        by_cases p : (S y3.toNatClampNeg) < (z y3.toNatClampNeg)
        · rw [if_pos p]
          have p1 := lt_ti p
          exact ⟨fun _ => Or.inr (fun h => by have := h y3.toNatClampNeg (Nat.le_refl _) (by omega); omega), fun _ => Or.inl rfl⟩
        · rw [if_neg p]
          have p1 := nlt_ti p
          refine ⟨fun h => h.elim (fun g => absurd g (by decide)) (fun g => Or.inr (fun k => g (fun w u u2 => k w (by omega) u2))), fun h => h.elim (fun g => absurd g c) (fun g => Or.inr (fun k => g (fun w u u2 => ?_)))⟩
          by_cases e : w = y3.toNatClampNeg
          · subst e; exact p1
          · exact k w (by omega) u2
theorem mk_24 {T O S : Nat → Int32} {n sub : Int32} (hn0 : 0 ≤ n.toInt) (hn : n.toInt ≤ 5) (hT : ∀ j : Nat, (j : Int) < n.toInt → okT (T j)) (hO : ∀ j : Nat, vp_in (O j) 4) :
    ∀ (fu : Nat) (y2 y3 : Int32) (z : Nat → Int32), (n.toInt - y3.toInt).toNat < fu → 0 ≤ y3.toInt → y3.toInt ≤ n.toInt → (y2 = 0 ↔ ¬ posW T sub y3.toNatClampNeg) → (∀ w : Nat, w < 4 → (z w).toInt = sumW T O sub w y3.toNatClampNeg) →
      ((m_X8_canKeep_24 fu n T O S sub y2 y3 z).1 = 0 ↔ ¬ (posW T sub n.toNatClampNeg ∧ ∀ w : Nat, w < 4 → sumW T O sub w n.toNatClampNeg ≤ (S w).toInt)) := by
  intro fu
  induction fu with
  | zero => intro y2 y3 z hm; exact absurd hm (Nat.not_lt_zero _)
  | succ fu ih =>
    intro y2 y3 z hm h0 h1 hf hz
    have t := tnc h0
    have tn := tnc hn0
    rw [m_X8_canKeep_24]
    by_cases q : n ≤ y3
    · rw [if_pos q]
      have a := le_ti q
      have e : y3.toNatClampNeg = n.toNatClampNeg := by omega
      rw [e] at hf hz
      refine (mk_87 _ y2 0 (Nat.lt_succ_self _) (by decide) (by decide)).trans ?_
      rw [hf]
      have z0 : (0 : Int32).toNatClampNeg = 0 := by decide
      refine ⟨fun h k => h.elim (fun g => g k.1) (fun g => g (fun w _ g2 => by rw [hz w g2]; exact k.2 w g2)), fun h => ?_⟩
      by_cases c : posW T sub n.toNatClampNeg
      · exact Or.inr (fun k => h ⟨c, fun w g2 => by rw [← hz w g2]; exact k w (by omega) g2⟩)
      · exact Or.inl c
    · rw [if_neg q]
      have a := nle_ti q
      have e1 := up_1 q
      have t1 := tnc (x := y3 + 1) (by omega)
      have ey := ofN_tnc h0
      have et : (y3 + 1).toNatClampNeg = y3.toNatClampNeg + 1 := by omega
      have hTy := hT y3.toNatClampNeg (by omega)
      have bT := okT_b hTy
      have Oy := vp_in_iff.mp (hO y3.toNatClampNeg)
      have tO := tnc Oy.1
      unfold m_X8_isIn
      by_cases c1 : ((sub >>> (y3 &&& 31)) &&& (1 : Int32)) = (1 : Int32)
      · have i1 : ((sub >>> ((Int32.ofNat y3.toNatClampNeg) &&& 31)) &&& (1 : Int32)) = (1 : Int32) := by rw [ey]; exact c1
        rw [if_pos c1, if_neg (show ¬ (1 : Int32) = 0 by decide)]
        have Z : ∀ w : Nat, w < 4 → ((upd z (O y3.toNatClampNeg).toNatClampNeg ((z (O y3.toNatClampNeg).toNatClampNeg) + (T y3.toNatClampNeg))) w).toInt = sumW T O sub w (y3 + 1).toNatClampNeg := by
          intro w hw
          rw [et, sumW]
          unfold trm
          rw [if_pos i1]
          have bS := sumW_b (O := O) (sub := sub) (w := w) y3.toNatClampNeg (fun l hl => hT l (by omega))
          have zw := hz w hw
          by_cases e : w = (O y3.toNatClampNeg).toNatClampNeg
          · rw [e, pk_us, if_pos rfl]
            rw [e] at zw bS
            rw [ti_add (by omega) (by omega), zw]
          · rw [pk_un e, if_neg (fun h => e h.symm), zw]; omega
        by_cases c : y2 = 0
        · rw [if_pos c]
          refine ih 0 (y3 + 1) _ (up_dec q hm) (up_nn q h0) (by omega) ⟨fun _ h => hf.mp c (fun l hl g => h l (by omega) g), fun _ => rfl⟩ Z
        · rw [if_neg c]
          have P : posW T sub y3.toNatClampNeg := Classical.byContradiction (fun g => c (hf.mpr g))
          refine ih _ (y3 + 1) _ (up_dec q hm) (up_nn q h0) (by omega) ?_ Z
          rw [et]
          by_cases p : (T y3.toNatClampNeg) < 0
          · have p1 := lt_ti p
            rw [ti_0] at p1
            rw [if_pos p]
            exact ⟨fun _ h => by have := h y3.toNatClampNeg (by omega) i1; omega, fun _ => rfl⟩
          · have p1 := nlt_ti0 p
            rw [if_neg p]
            refine ⟨fun h => absurd h (by decide), fun h => absurd (fun l hl g => ?_) h⟩
            by_cases e : l = y3.toNatClampNeg
            · subst e; exact p1
            · exact P l (by omega) g
      · have i1 : ¬ ((sub >>> ((Int32.ofNat y3.toNatClampNeg) &&& 31)) &&& (1 : Int32)) = (1 : Int32) := by rw [ey]; exact c1
        rw [if_neg c1, if_pos rfl]
        refine ih y2 (y3 + 1) z (up_dec q hm) (up_nn q h0) (by omega) (hf.trans (not_congr ?_)) (fun w hw => ?_)
        · rw [et]
          refine ⟨fun h l hl g => ?_, fun h l hl g => h l (by omega) g⟩
          by_cases e : l = y3.toNatClampNeg
          · subst e; exact absurd g i1
          · exact h l (by omega) g
        · rw [et, sumW, hz w hw]
          unfold trm
          rw [if_neg i1]
          omega
theorem mk_2 {T O S : Nat → Int32} {n sub : Int32} (hn0 : 0 ≤ n.toInt) (hn : n.toInt ≤ 5) (hT : ∀ j : Nat, (j : Int) < n.toInt → okT (T j)) (hO : ∀ j : Nat, vp_in (O j) 4) :
    ∀ (fu : Nat) (y2 : Int32) (z : Nat → Int32), ((4 : Int32).toInt - y2.toInt).toNat < fu → 0 ≤ y2.toInt → y2.toInt ≤ 4 → (∀ w : Nat, w < y2.toNatClampNeg → z w = 0) →
      ((m_X8_canKeep_2 fu n T O S sub y2 z).1 = 0 ↔ ¬ (posW T sub n.toNatClampNeg ∧ ∀ w : Nat, w < 4 → sumW T O sub w n.toNatClampNeg ≤ (S w).toInt)) := by
  intro fu
  induction fu with
  | zero => intro y2 z hm; exact absurd hm (Nat.not_lt_zero _)
  | succ fu ih =>
    intro y2 z hm h0 h4 hz
    have t := tnc h0
    have e4 : (4 : Int32).toInt = 4 := by decide
    have z0 : (0 : Int32).toNatClampNeg = 0 := by decide
    rw [m_X8_canKeep_2]
    by_cases q : (4 : Int32) ≤ y2
    · rw [if_pos q]
      have a := le_ti q
      refine mk_24 hn0 hn hT hO _ 1 0 z (Nat.lt_succ_self _) (by decide) (by rw [ti_0]; exact hn0) ⟨fun h => absurd h (by decide), fun h => absurd (fun l hl => absurd hl (by rw [z0]; omega)) h⟩ (fun w hw => ?_)
      rw [hz w (by omega), z0, sumW, ti_0]
    · rw [if_neg q]
      have a := nle_ti q
      have e1 := up_1 q
      have t1 := tnc (x := y2 + 1) (by omega)
      refine ih (y2 + 1) _ (up_dec q hm) (up_nn q h0) (by omega) (fun w hw => ?_)
      by_cases e : w = y2.toNatClampNeg
      · rw [e, pk_us]
      · rw [pk_un e]; exact hz w (by omega)
theorem ck_eq {T T' O S wb : Nat → Int32} {n sub : Int32} (hn0 : 0 ≤ n.toInt) (hn : n.toInt ≤ 5) (hT : ∀ j : Nat, (j : Int) < n.toInt → T j = T' j ∧ okT (T j)) (hO : ∀ j : Nat, vp_in (O j) 4) (hS : ∀ j : Nat, 0 ≤ (S j).toInt ∧ (S j).toInt ≤ 9) :
    m_X0_canAllBeKept T n S O sub = 0 ↔ (m_X8_canKeep n wb T' O S sub).1 = 0 := by
  have tn := tnc hn0
  have z0 : (0 : Int32).toNatClampNeg = 0 := by decide
  have A := ck_2 (sub := sub) hn0 hn (fun j hj => (hT j hj).2) hO hS (((4 : Int32).toInt - (0 : Int32).toInt).toNat + 1) 0 (Nat.lt_succ_self _) (by decide) (by decide)
  have B := mk_2 (T := T') (S := S) (sub := sub) hn0 hn (fun j hj => by rw [← (hT j hj).1]; exact (hT j hj).2) hO (((4 : Int32).toInt - (0 : Int32).toInt).toNat + 1) 0 wb (Nat.lt_succ_self _) (by decide) (by decide) (fun w hw => absurd hw (by rw [z0]; omega))
  refine Iff.trans A (Iff.trans (not_congr ⟨fun h => ⟨fun l hl g => ?_, fun w hw => ?_⟩, fun h w g hw => ⟨fun l hl g1 g2 => ?_, ?_⟩⟩) B.symm)
  · have hl' := hT l (by omega)
    exact (okT_n hl'.2).mpr (by rw [hl'.1]; exact h.1 l hl g1)
  · rw [sumW_c (T := T) n.toNatClampNeg (fun l hl => (hT l (by omega)).1)]
    exact h.2 w hw
  · have Ol := vp_in_iff.mp (hO l)
    have tO := tnc Ol.1
    have hl' := hT l (by omega)
    have := (h (O l).toNatClampNeg (by rw [z0]; omega) (by omega)).1 l hl g rfl
    rw [← hl'.1]
    exact (okT_n hl'.2).mp this
  · rw [← sumW_c (T := T) n.toNatClampNeg (fun l hl => (hT l (by omega)).1)]
    exact (h w (by rw [z0]; omega) hw).2
theorem lim_5 : ∀ d : Fin 6, ((1 : Int32) <<< (Int32.ofNat d.val &&& 31)).toInt ≤ 32 := by decide +kernel
theorem bc_eq : ∀ d : Fin 32, m_J6_bitCount_0f7a4 (Int32.ofNat d.val) = m_X8_bits (Int32.ofNat d.val) := by decide +kernel
theorem bc_e {y : Int32} (h0 : 0 ≤ y.toInt) (h1 : y.toInt < 32) : m_J6_bitCount_0f7a4 y = m_X8_bits y := by
  obtain ⟨d, ed⟩ := fin_of (n := 32) h0 h1 (by decide)
  rw [ed]
  exact bc_eq d
theorem kp_34 {T T' O S kF mTF : Nat → Int32} {n : Int32} (hn0 : 0 ≤ n.toInt) (hn : n.toInt ≤ 5) (hL : ((1 : Int32) <<< (n &&& 31)).toInt ≤ 32) (hT : ∀ j : Nat, (j : Int) < n.toInt → T j = T' j ∧ okT (T j)) (hO : ∀ j : Nat, vp_in (O j) 4) (hS : ∀ j : Nat, 0 ≤ (S j).toInt ∧ (S j).toInt ≤ 9) :
    ∀ (fu : Nat) (y2 y3 : Int32) (wb : Nat → Int32), (((1 : Int32) <<< (n &&& 31)).toInt - y3.toInt).toNat < fu → 0 ≤ y3.toInt → 0 ≤ y2.toInt → y2.toInt < 32 →
      (m_X0_largestSet_34 fu n S O kF T y2 y3).1 = (m_X8_keptNow_31 fu n O S mTF T' y2 y3 wb).1 ∧ 0 ≤ (m_X0_largestSet_34 fu n S O kF T y2 y3).1.toInt ∧ (m_X0_largestSet_34 fu n S O kF T y2 y3).1.toInt < 32 := by
  intro fu
  induction fu with
  | zero => intro y2 y3 wb hm; exact absurd hm (Nat.not_lt_zero _)
  | succ fu ih =>
    intro y2 y3 wb hm h0 g0 g1
    rw [m_X0_largestSet_34, m_X8_keptNow_31]
    by_cases q : ((1 : Int32) <<< (n &&& 31)) ≤ y3
    · rw [if_pos q, if_pos q]
      exact ⟨rfl, g0, g1⟩
    · rw [if_neg q, if_neg q]
      have a := nle_ti q
      rw [bc_e h0 (by omega), bc_e g0 g1]
      by_cases c : (m_X8_bits y3) ≤ (m_X8_bits y2)
      · rw [if_pos c, if_pos c]
        exact ih y2 (y3 + 1) wb (up_dec q hm) (up_nn q h0) g0 g1
      · rw [if_neg c, if_neg c]
        have E := ck_eq (wb := wb) (sub := y3) hn0 hn hT hO hS
        by_cases p : (m_X0_canAllBeKept T n S O y3) = 0
        · rw [if_pos p, if_pos (E.mp p)]
          exact ih y2 (y3 + 1) _ (up_dec q hm) (up_nn q h0) g0 g1
        · rw [if_neg p, if_neg (fun g => p (E.mpr g))]
          exact ih y3 (y3 + 1) _ (up_dec q hm) (up_nn q h0) h0 (by omega)
theorem kp_2 {O S H K D wb : Nat → Int32} {b n : Int32} (hb1 : 1 ≤ b.toInt) (hb : b.toInt ≤ 6) (hn0 : 0 ≤ n.toInt) (hn : n.toInt ≤ 5) (hH : ∀ j : Nat, 0 ≤ (H j).toInt ∧ (H j).toInt ≤ 9) (hD : ∀ j : Nat, 0 ≤ (D j).toInt ∧ (D j).toInt ≤ 9) (hO : ∀ j : Nat, vp_in (O j) 4) (hS : ∀ j : Nat, 0 ≤ (S j).toInt ∧ (S j).toInt ≤ 9) :
    ∀ (fu : Nat) (y : Int32) (kF kT mTF mT : Nat → Int32), (n.toInt - y.toInt).toNat < fu → 0 ≤ y.toInt → (∀ j : Nat, j < y.toNatClampNeg → kT j = mT j ∧ okT (kT j)) →
      (m_X0_largestSet_2 fu b n S H K O D y kF kT).1 = (m_X8_keptNow_2 fu b n (0 : Int32) H K D O S wb y mTF mT).1 ∧ 0 ≤ (m_X0_largestSet_2 fu b n S H K O D y kF kT).1.toInt ∧ (m_X0_largestSet_2 fu b n S H K O D y kF kT).1.toInt < 32 := by
  intro fu
  induction fu with
  | zero => intro y kF kT mTF mT hm; exact absurd hm (Nat.not_lt_zero _)
  | succ fu ih =>
    intro y kF kT mTF mT hm h0 hj
    have t := tnc h0
    rw [m_X0_largestSet_2, m_X8_keptNow_2]
    by_cases q : n ≤ y
    · rw [if_pos q, if_pos q]
      have a := le_ti q
      have hL : ((1 : Int32) <<< (n &&& 31)).toInt ≤ 32 := by
        obtain ⟨d, ed⟩ := fin_of (n := 6) hn0 (by omega) (by decide)
        rw [ed]
        exact lim_5 d
      exact kp_34 hn0 hn hL (fun j g => hj j (by omega)) hO hS _ 0 1 wb (Nat.lt_succ_self _) (by decide) (by decide) (by decide)
    · rw [if_neg q, if_neg q]
      have a := nle_ti q
      have e1 := up_1 q
      have t1 := tnc (x := y + 1) (by omega)
      have hl : vp_in y 5 := vp_in_iff.mpr ⟨h0, by omega⟩
      obtain ⟨E, B⟩ := tears_eq (kF := kF) (mTF := mTF) (K := K) hb1 hb hl hH hD
      have e5 : m_X7_set 5 kT y ((m_X0_fewestActs kF b H K D y).1) = upd kT y.toNatClampNeg ((m_X0_fewestActs kF b H K D y).1) := set_in h0 (by omega) (by decide)
      rw [e5, E]
      refine ih (y + 1) _ _ _ _ (up_dec q hm) (up_nn q h0) (fun j g => ?_)
      by_cases e : j = y.toNatClampNeg
      · rw [e, pk_us, pk_us]; exact ⟨rfl, B⟩
      · rw [pk_un e, pk_un e]; exact hj j (by omega)
theorem kept_eq {O S H K D kF kT mTF mT wb : Nat → Int32} {b n : Int32} (hb1 : 1 ≤ b.toInt) (hb : b.toInt ≤ 6) (hn0 : 0 ≤ n.toInt) (hn : n.toInt ≤ 5) (hH : ∀ j : Nat, 0 ≤ (H j).toInt ∧ (H j).toInt ≤ 9) (hD : ∀ j : Nat, 0 ≤ (D j).toInt ∧ (D j).toInt ≤ 9) (hO : ∀ j : Nat, vp_in (O j) 4) (hS : ∀ j : Nat, 0 ≤ (S j).toInt ∧ (S j).toInt ≤ 9) :
    (m_X0_largestSet kF kT b n S H K O D).1 = (m_X8_keptNow b n (0 : Int32) mTF mT wb H K D O S).1 ∧ 0 ≤ (m_X0_largestSet kF kT b n S H K O D).1.toInt ∧ (m_X0_largestSet kF kT b n S H K O D).1.toInt < 32 :=
  kp_2 hb1 hb hn0 hn hH hD hO hS _ 0 kF kT mTF mT (Nat.lt_succ_self _) (by decide) (fun j g => absurd g (by rw [show (0 : Int32).toNatClampNeg = 0 by decide]; omega))
theorem ap_18 {O S H K D : Nat → Int32} {b n l : Int32} (hb1 : 1 ≤ b.toInt) (hb : b.toInt ≤ 6) (hn0 : 0 ≤ n.toInt) (hn : n.toInt ≤ 5) (hl : vp_in l 5) (hH : ∀ j : Nat, 0 ≤ (H j).toInt ∧ (H j).toInt ≤ 9) (hD : ∀ j : Nat, 0 ≤ (D j).toInt ∧ (D j).toInt ≤ 9) (hO : ∀ j : Nat, vp_in (O j) 4) (hS : ∀ j : Nat, 0 ≤ (S j).toInt ∧ (S j).toInt ≤ 9) :
    ∀ (fu : Nat) (y4 y5 y6 : Int32) (kF kT mTF mT wb z : Nat → Int32), ((4 : Int32).toInt - y6.toInt).toNat < fu → 0 ≤ y6.toInt → (∀ j : Nat, j ≠ l.toNatClampNeg → z j = O j) → (∀ j : Nat, vp_in (z j) 4) →
      (m_X0_bestOffice_18 fu b n S H K O D l y4 y5 y6 kF kT z).1 = (m_X8_appoint_25 fu b n (0 : Int32) H K D O S l y4 y5 y6 mTF mT wb z).1 ∧ (m_X0_bestOffice_18 fu b n S H K O D l y4 y5 y6 kF kT z).2.2.2 = O ∧ (m_X8_appoint_25 fu b n (0 : Int32) H K D O S l y4 y5 y6 mTF mT wb z).2.2.2.2 = O := by
  intro fu
  induction fu with
  | zero => intro y4 y5 y6 kF kT mTF mT wb z hm; exact absurd hm (Nat.not_lt_zero _)
  | succ fu ih =>
    intro y4 y5 y6 kF kT mTF mT wb z hm h0 hz hz4
    have l5 := vp_in_iff.mp hl
    have e4 : (4 : Int32).toInt = 4 := by decide
    have s5 : ∀ (v : Int32), m_X7_set 5 z l v = upd z l.toNatClampNeg v := fun v => set_in l5.1 (by omega) (by decide)
    have a5 : m_X7_at 5 O l = O l.toNatClampNeg := at_in l5.1 (by omega) (by decide)
    rw [m_X0_bestOffice_18, m_X8_appoint_25]
    rw [s5 (m_X7_at 5 O l), s5 y6, a5]
    by_cases q : (4 : Int32) ≤ y6
    · rw [if_pos q, if_pos q]
      have a := le_ti q
      exact ⟨rfl, upd_back hz, upd_back hz⟩
    · rw [if_neg q, if_neg q]
      have a := nle_ti q
      have hz' : ∀ j : Nat, j ≠ l.toNatClampNeg → upd z l.toNatClampNeg y6 j = O j := upd_off hz
      have hz4' : ∀ j : Nat, vp_in (upd z l.toNatClampNeg y6 j) 4 := upd_all (P := fun x => vp_in x 4) hz4 (vp_in_iff.mpr ⟨h0, by omega⟩)
      obtain ⟨E, B0, B1⟩ := kept_eq (K := K) (kF := kF) (kT := kT) (mTF := mTF) (mT := mT) (wb := wb) (O := upd z l.toNatClampNeg y6) hb1 hb hn0 hn hH hD hz4' hS
      rw [bc_e B0 B1, E]
      by_cases c : (m_X8_bits ((m_X8_keptNow b n (0 : Int32) mTF mT wb H K D (upd z l.toNatClampNeg y6) S).1)) ≤ y5
      · rw [if_pos c, if_pos c, if_pos c]
        exact ih _ _ (y6 + 1) _ _ _ _ _ _ (up_dec q hm) (up_nn q h0) hz' hz4'
      · rw [if_neg c, if_neg c, if_neg c]
        exact ih _ _ (y6 + 1) _ _ _ _ _ _ (up_dec q hm) (up_nn q h0) hz' hz4'
theorem eqf_tears {b n l : Int32} {H K D kF mTF : Nat → Int32} (hb1 : 1 ≤ n.toInt → 1 ≤ b.toInt) (hb : b.toInt ≤ 6) (hn : n.toInt ≤ 5) (hH : ∀ j : Nat, 0 ≤ (H j).toInt ∧ (H j).toInt ≤ 9) (hD : ∀ j : Nat, 0 ≤ (D j).toInt ∧ (D j).toInt ≤ 9) : (m_X7_tears kF b n H K D l).1 = (m_X8_tears b n (0 : Int32) mTF H K D l).1 := by
  unfold m_X7_tears m_X8_tears
  by_cases c : 0 ≤ l.toInt ∧ l.toInt < n.toInt
  · rw [if_neg (fun q => hasL_iff.mp q c), if_pos (noL_iff.mpr c)]
    exact (tears_eq (hb1 (by omega)) hb (vl5 c hn) hH hD).1
  · rw [if_pos (hasL_iff.mpr c), if_neg (fun q => c (noL_iff.mp q))]
theorem eqf_keep {b n : Int32} {O S H K D kF kT mTF mT wb : Nat → Int32} (hb1 : 1 ≤ n.toInt → 1 ≤ b.toInt) (hb : b.toInt ≤ 6) (hn0 : 0 ≤ n.toInt) (hn : n.toInt ≤ 5) (hH : ∀ j : Nat, 0 ≤ (H j).toInt ∧ (H j).toInt ≤ 9) (hD : ∀ j : Nat, 0 ≤ (D j).toInt ∧ (D j).toInt ≤ 9) (hO : ∀ j : Nat, vp_in (O j) 4) (hS : ∀ j : Nat, 0 ≤ (S j).toInt ∧ (S j).toInt ≤ 9) : (m_X7_keep kF kT b n S H K O D).1 = (m_X8_keep b n (0 : Int32) mTF mT wb H K D O S).1 := by
  unfold m_X7_keep m_X8_keep
  by_cases c : n = 0
  · rw [if_pos ((stands_iff hn0).mpr c), if_pos c]
  · rw [if_neg (fun q => c ((stands_iff hn0).mp q)), if_neg c]
    have h1 : 1 ≤ n.toInt := by
      refine Classical.byContradiction fun g => c (Int32.toInt_inj.mp (by rw [ti_0]; omega))
    exact (kept_eq (hb1 h1) hb hn0 hn hH hD hO hS).1
theorem eqf_appoint {b n l : Int32} {O S H K D kF kT mTF mT wb : Nat → Int32} (hb1 : 1 ≤ n.toInt → 1 ≤ b.toInt) (hb : b.toInt ≤ 6) (hn0 : 0 ≤ n.toInt) (hn : n.toInt ≤ 5) (hH : ∀ j : Nat, 0 ≤ (H j).toInt ∧ (H j).toInt ≤ 9) (hD : ∀ j : Nat, 0 ≤ (D j).toInt ∧ (D j).toInt ≤ 9) (hO : ∀ j : Nat, vp_in (O j) 4) (hS : ∀ j : Nat, 0 ≤ (S j).toInt ∧ (S j).toInt ≤ 9) :
    (m_X7_appoint kF kT b n S H K O D l).1 = (m_X8_appoint b n (0 : Int32) mTF mT wb H K D O S l).1 ∧ (m_X7_appoint kF kT b n S H K O D l).2.2.2 = O ∧ (m_X8_appoint b n (0 : Int32) mTF mT wb H K D O S l).2.2.2.2 = O := by
  unfold m_X7_appoint m_X8_appoint
  by_cases c : 0 ≤ l.toInt ∧ l.toInt < n.toInt
  · rw [if_neg (fun q => hasL_iff.mp q c), if_pos (noL_iff.mpr c)]
    exact ap_18 (hb1 (by omega)) hb hn0 hn (vl5 c hn) hH hD hO hS _ 0 (-1) 0 kF kT mTF mT wb O (Nat.lt_succ_self _) (by decide) (fun _ _ => rfl) hO
  · rw [if_pos (hasL_iff.mpr c), if_neg (fun q => c (noL_iff.mp q))]
    exact ⟨rfl, rfl, rfl⟩
