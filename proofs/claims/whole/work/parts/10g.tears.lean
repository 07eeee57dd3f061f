def wN (v : Nat) : Nat := if v + 3 < 9 then v + 3 else 9
def BD (B : Int) (Z : Nat → Int32) : Prop := ∀ v : Nat, v < 10 → 0 ≤ (Z v).toInt ∧ ((Z v).toInt ≤ B ∨ (Z v).toInt = 1000)
def LB (c : Int) (Z : Nat → Int32) (T : Nat → Int) : Prop := ∀ v : Nat, v < 10 → c ≤ (Z v).toInt + T v
theorem wN_tn : ∀ d : Fin 9, (if ((Int32.ofNat d.val) + (3 : Int32)) < (9 : Int32) then ((Int32.ofNat d.val) + (3 : Int32)) else (9 : Int32)).toInt = wN d.val := by decide +kernel
theorem wN_gt {v : Nat} (h : v < 9) : v < wN v ∧ wN v < 10 := by
  unfold wN
  split <;> omega
theorem at10 {f : Nat → Int32} {x : Int32} (h0 : 0 ≤ x.toInt) (h1 : x.toInt < 10) : m_X7_at 10 f x = f x.toNatClampNeg := at_in h0 h1 (by decide)
theorem set10 {f : Nat → Int32} {x v : Int32} (h0 : 0 ≤ x.toInt) (h1 : x.toInt < 10) : m_X7_set 10 f x v = upd f x.toNatClampNeg v := set_in h0 h1 (by decide)
theorem weep_s {c B : Int} {T X : Nat → Int} {Z : Nat → Int32} {n : Nat} {val : Int32} (hc : c ≤ 99) (hB : 0 ≤ B ∧ B ≤ 90) (hT : ∀ v : Nat, v < 9 → T v = min 99 (min (X v) (1 + T (wN v)))) (hn : n < 9) (hZ : BD B Z) (hv : val.toInt = min ((Z n).toInt + 1) (Z (wN n)).toInt) :
    BD (B + 1) (upd Z (wN n) val) ∧ (LB c (upd Z (wN n) val) (fun v => if v < n + 1 then X v else T v) ↔ LB c Z (fun v => if v < n then X v else T v)) := by
  obtain ⟨w1, w2⟩ := wN_gt hn
  have zn := hZ n (by omega)
  have zw := hZ (wN n) w2
  have tn := hT n hn
  refine ⟨fun v hv' => ?_, fun h v hv' => ?_, fun h v hv' => ?_⟩
  · by_cases e : v = wN n
    · rw [e, pk_us]; omega
    · rw [pk_un e]
      have := hZ v hv'; omega
  · have h1 := h n (by omega)
    have h2 := h (wN n) w2
    dsimp only at h1 h2
    rw [pk_un (by omega), if_pos (by omega)] at h1
    rw [pk_us, if_neg (by omega)] at h2
    dsimp only
    by_cases a : v < n
    · have h3 := h v hv'
      dsimp only at h3
      rw [pk_un (by omega), if_pos (by omega)] at h3
      rw [if_pos a]; exact h3
    · rw [if_neg a]
      by_cases b : v = n
      · rw [b]; omega
      · by_cases e : v = wN n
        · rw [e]; omega
        · have h3 := h v hv'
          dsimp only at h3
          rw [pk_un e, if_neg (by omega)] at h3
          exact h3
  · have h1 := h n (by omega)
    have h2 := h (wN n) w2
    dsimp only at h1 h2
    rw [if_neg (by omega)] at h1
    rw [if_neg (by omega)] at h2
    dsimp only
    by_cases e : v = wN n
    · rw [e, pk_us, if_neg (by omega)]; omega
    · rw [pk_un e]
      by_cases b : v = n
      · rw [b, if_pos (by omega)]; omega
      · have h3 := h v hv'
        dsimp only at h3
        by_cases a : v < n
        · rw [if_pos a] at h3; rw [if_pos (by omega)]; exact h3
        · rw [if_neg a] at h3; rw [if_neg (by omega)]; exact h3
theorem weep_l {c : Int} {T X : Nat → Int} (hc : c ≤ 99) (hT : ∀ v : Nat, v < 9 → T v = min 99 (min (X v) (1 + T (wN v)))) : ∀ (fu : Nat) (y : Int32) (Z : Nat → Int32) (B : Int), ((9 : Int32).toInt - y.toInt).toNat < fu → 0 ≤ y.toInt → y.toInt ≤ 9 → 0 ≤ B → B + (9 - y.toInt) ≤ 90 → BD B Z →
    BD (B + (9 - y.toInt)) (m_X0_weepAsOneLikes_2 fu y Z) ∧ (LB c (m_X0_weepAsOneLikes_2 fu y Z) (fun v => if v < 9 then X v else T v) ↔ LB c Z (fun v => if v < y.toNatClampNeg then X v else T v)) := by
  intro fu
  induction fu with
  | zero => intro y Z B hm; exact absurd hm (Nat.not_lt_zero _)
  | succ fu ih =>
    intro y Z B hm h0 h9 hB hB2 hZ
    have e9 : (9 : Int32).toInt = 9 := by decide
    have t := tnc h0
    rw [m_X0_weepAsOneLikes_2]
    by_cases q : (9 : Int32) ≤ y
    · rw [if_pos q]
      have a := le_ti q
      rw [e9] at a
      have e : y.toNatClampNeg = 9 := by omega
      rw [e]
      refine ⟨?_, Iff.rfl⟩
      intro v hv
      have := hZ v hv
      omega
    · rw [if_neg q]
      have a := nle_ti q
      rw [e9] at a
      have e1 := up_1 q
      have t1 := tnc (x := y + 1) (by omega)
      obtain ⟨d, ed⟩ := fin_of (n := 9) h0 (by omega) (by decide)
      have ew := wN_tn d
      have edv : d.val = y.toNatClampNeg := by
        rw [ed, Int32.toNatClampNeg]
        have := Int32.toInt_ofNat_of_lt (n := d.val) (by have := d.2; omega)
        omega
      rw [← ed] at ew
      obtain ⟨w1, w2⟩ := wN_gt d.2
      have tw := tnc (x := (if (y + (3 : Int32)) < (9 : Int32) then (y + (3 : Int32)) else (9 : Int32))) (by omega)
      rw [at10 h0 (by omega), at10 (f := Z) (x := (if (y + (3 : Int32)) < (9 : Int32) then (y + (3 : Int32)) else (9 : Int32))) (by omega) (by omega), set10 (by omega) (by omega)]
      have ewn : (if (y + (3 : Int32)) < (9 : Int32) then (y + (3 : Int32)) else (9 : Int32)).toNatClampNeg = wN y.toNatClampNeg := by rw [← edv]; omega
      rw [ewn]
      have zn := hZ y.toNatClampNeg (by omega)
      have hadd : ((Z y.toNatClampNeg) + (1 : Int32)).toInt = (Z y.toNatClampNeg).toInt + 1 := by rw [ti_add (by rw [ti_1]; omega) (by rw [ti_1]; omega), ti_1]
      have hval : (if ((Z y.toNatClampNeg) + (1 : Int32)) < (Z (wN y.toNatClampNeg)) then ((Z y.toNatClampNeg) + (1 : Int32)) else (Z (wN y.toNatClampNeg))).toInt = min ((Z y.toNatClampNeg).toInt + 1) (Z (wN y.toNatClampNeg)).toInt := by
        by_cases u : ((Z y.toNatClampNeg) + (1 : Int32)) < (Z (wN y.toNatClampNeg))
        · rw [if_pos u]; have := lt_ti u; omega
        · rw [if_neg u]; have := nlt_ti u; omega
      obtain ⟨s1, s2⟩ := weep_s (T := T) (X := X) (n := y.toNatClampNeg) hc ⟨hB, by omega⟩ hT (by omega) hZ hval
      obtain ⟨i1, i2⟩ := ih (y + 1) _ (B + 1) (up_dec q hm) (up_nn q h0) (by omega) (by omega) (by omega) s1
      have et : (y + 1).toNatClampNeg = y.toNatClampNeg + 1 := by omega
      rw [et] at i2
      refine ⟨?_, i2.trans s2⟩
      rw [e1] at i1
      rw [show B + (9 - y.toInt) = B + 1 + (9 - (y.toInt + 1)) by omega]
      exact i1
def dryN (dr : Int) (Z : Nat → Int32) (v : Nat) : Int32 := if v = 0 then (1000 : Int32) else if (v : Int) + dr ≤ 9 then Z ((v : Int) + dr).toNat else (1000 : Int32)
theorem dry_l {dr : Int32} {F : Nat → Int32} (h0 : 0 ≤ dr.toInt) (h1 : dr.toInt ≤ 20) : ∀ (fu : Nat) (y : Int32) (Z : Nat → Int32), ((9 : Int32).toInt + 1 - y.toInt).toNat < fu → 1 ≤ y.toInt → y.toInt ≤ 10 → (∀ v : Nat, v < y.toNatClampNeg → Z v = dryN dr.toInt F v) → (∀ v : Nat, y.toNatClampNeg ≤ v → v < 10 → Z v = F v) →
    ∀ v : Nat, v < 10 → m_X0_dryAndStayLaw_13 fu dr y Z v = dryN dr.toInt F v := by
  intro fu
  induction fu with
  | zero => intro y Z hm; exact absurd hm (Nat.not_lt_zero _)
  | succ fu ih =>
    intro y Z hm y1 y2 hlo hhi
    have e9 : (9 : Int32).toInt = 9 := by decide
    have t := tnc (x := y) (by omega)
    rw [m_X0_dryAndStayLaw_13]
    by_cases q : (9 : Int32) < y
    · rw [if_pos q]
      have a := lt_ti q
      rw [e9] at a
      intro v hv
      exact hlo v (by omega)
    · rw [if_neg q]
      have a := nlt_ti q
      rw [e9] at a
      have e1 : (y + 1).toInt = y.toInt + 1 := by rw [ti_add (by rw [ti_1]; omega) (by rw [ti_1]; omega), ti_1]
      have ed : (y + dr).toInt = y.toInt + dr.toInt := ti_add (by omega) (by omega)
      have t1 := tnc (x := y + 1) (by omega)
      have td := tnc (x := y + dr) (by omega)
      by_cases u : (9 : Int32) < (y + dr)
      · have ua := lt_ti u
        rw [e9] at ua
        rw [if_pos u, if_pos rfl, set10 (by omega) (by omega)]
        refine ih (y + 1) _ (by omega) (by omega) (by omega) (fun v hv => ?_) (fun v hv hv2 => ?_)
        · by_cases e : v = y.toNatClampNeg
          · rw [e, pk_us]; unfold dryN; rw [if_neg (by omega), if_neg (by omega)]
          · rw [pk_un e]; exact hlo v (by omega)
        · rw [pk_un (by omega)]; exact hhi v (by omega) hv2
      · have ua := nlt_ti u
        rw [e9] at ua
        rw [if_neg u, if_neg (by decide), at10 (by omega) (by omega), set10 (by omega) (by omega)]
        refine ih (y + 1) _ (by omega) (by omega) (by omega) (fun v hv => ?_) (fun v hv hv2 => ?_)
        · by_cases e : v = y.toNatClampNeg
          · rw [e, pk_us, hhi _ (by omega) (by omega)]; unfold dryN; rw [if_neg (by omega), if_pos (by omega)]
            exact congrArg F (by omega)
          · rw [pk_un e]; exact hlo v (by omega)
        · rw [pk_un (by omega)]; exact hhi v (by omega) hv2
theorem dry_eqN {dr : Int32} {F : Nat → Int32} (h0 : 0 ≤ dr.toInt) (h1 : dr.toInt ≤ 20) : ∀ v : Nat, v < 10 → m_X0_dryAndStayLaw F dr v = dryN dr.toInt F v := by
  unfold m_X0_dryAndStayLaw
  rw [set10 (by decide) (by decide), show (0 : Int32).toNatClampNeg = 0 by decide]
  refine dry_l h0 h1 _ (1 : Int32) _ (Nat.lt_succ_self _) (by decide) (by decide) (fun v hv => ?_) (fun v hv hv2 => ?_)
  · rw [show (1 : Int32).toNatClampNeg = 1 by decide] at hv
    rw [show v = 0 by omega, pk_us]
    rfl
  · rw [show (1 : Int32).toNatClampNeg = 1 by decide] at hv
    rw [pk_un (by omega)]
def xN (dr : Int) (T' : Nat → Int) (v : Nat) : Int := if dr < v then T' ((v : Int) - dr).toNat else 99
theorem dry_lb {c B : Int} {dr : Int32} {G : Nat → Int32} {T' : Nat → Int} (hc : c ≤ 99) (h0 : 0 ≤ dr.toInt) (h1 : dr.toInt ≤ 20) (hB : 0 ≤ B) (hG : BD B G) (hT : ∀ v : Nat, 0 ≤ T' v) :
    BD B (m_X0_dryAndStayLaw G dr) ∧ (m_X0_dryAndStayLaw G dr 0).toInt = 1000 ∧ (LB c (m_X0_dryAndStayLaw G dr) T' ↔ LB c G (xN dr.toInt T')) := by
  have D := dry_eqN (dr := dr) (F := G) h0 h1
  have k : (1000 : Int32).toInt = 1000 := by decide
  refine ⟨fun v hv => ?_, ?_, fun h v hv => ?_, fun h v hv => ?_⟩
  · rw [D v hv]
    unfold dryN
    by_cases a : v = 0
    · rw [if_pos a, k]; omega
    · rw [if_neg a]
      by_cases b : (v : Int) + dr.toInt ≤ 9
      · rw [if_pos b]; exact hG _ (by omega)
      · rw [if_neg b, k]; omega
  · rw [D 0 (by omega)]
    exact k
  · unfold xN
    by_cases a : dr.toInt < v
    · rw [if_pos a]
      have h3 := h ((v : Int) - dr.toInt).toNat (by omega)
      rw [D _ (by omega)] at h3
      unfold dryN at h3
      rw [if_neg (by omega), if_pos (by omega)] at h3
      rw [show (((((v : Int) - dr.toInt).toNat : Nat) : Int) + dr.toInt).toNat = v by omega] at h3
      exact h3
    · rw [if_neg a]
      have := (hG v hv).1
      omega
  · rw [D v hv]
    have tv := hT v
    unfold dryN
    by_cases a : v = 0
    · rw [if_pos a, k]; omega
    · rw [if_neg a]
      by_cases b : (v : Int) + dr.toInt ≤ 9
      · rw [if_pos b]
        have h3 := h ((v : Int) + dr.toInt).toNat (by omega)
        unfold xN at h3
        rw [if_pos (by omega), show (((((v : Int) + dr.toInt).toNat : Nat) : Int) - dr.toInt).toNat = v by omega] at h3
        exact h3
      · rw [if_neg b, k]; omega
/-- what holds of the backward numbers of one day -/
def dayT (dr : Int) (T T' : Nat → Int) : Prop := (∀ v : Nat, v < 9 → T v = min 99 (min (xN dr T' v) (1 + T (wN v)))) ∧ T 9 = min 99 (xN dr T' 9)
theorem day_lb {c B : Int} {dr : Int32} {Z : Nat → Int32} {T T' : Nat → Int} (hc : c ≤ 99) (h0 : 0 ≤ dr.toInt) (h1 : dr.toInt ≤ 20) (hB : 0 ≤ B) (hB2 : B + 9 ≤ 90) (hZ : BD B Z) (hT' : ∀ v : Nat, 0 ≤ T' v) (hT : dayT dr.toInt T T') :
    BD (B + 9) (m_X0_dryAndStayLaw (m_X0_weepAsOneLikes Z) dr) ∧ (m_X0_dryAndStayLaw (m_X0_weepAsOneLikes Z) dr 0).toInt = 1000 ∧ (LB c (m_X0_dryAndStayLaw (m_X0_weepAsOneLikes Z) dr) T' ↔ LB c Z T) := by
  obtain ⟨w1, w2⟩ := weep_l (X := xN dr.toInt T') hc hT.1 (((9 : Int32).toInt - (0 : Int32).toInt).toNat + 1) 0 Z B (Nat.lt_succ_self _) (by decide) (by decide) hB (by rw [ti_0]; omega) hZ
  have hG : BD (B + 9) (m_X0_weepAsOneLikes Z) := by rw [ti_0] at w1; exact w1
  obtain ⟨d1, d2, d3⟩ := dry_lb (T' := T') hc h0 h1 (by omega) hG hT'
  refine ⟨d1, d2, d3.trans ?_⟩
  refine Iff.trans ⟨fun h v hv => ?_, fun h v hv => ?_⟩ (w2.trans ⟨fun h v hv => ?_, fun h v hv => ?_⟩)
  · have h3 := h v hv
    dsimp only
    by_cases a : v < 9
    · rw [if_pos a]; exact h3
    · rw [if_neg a]
      have e : v = 9 := by omega
      subst e
      have g := (hG 9 (by omega)).1
      have t9 := hT.2
      have e3 : m_X0_weepAsOneLikes Z = m_X0_weepAsOneLikes_2 (((9 : Int32).toInt - (0 : Int32).toInt).toNat + 1) (0 : Int32) Z := rfl
      rw [← e3]
      omega
  · have h3 := h v hv
    dsimp only at h3
    by_cases a : v < 9
    · rw [if_pos a] at h3; exact h3
    · rw [if_neg a] at h3
      have e : v = 9 := by omega
      subst e
      have t9 := hT.2
      have e3 : m_X0_weepAsOneLikes Z = m_X0_weepAsOneLikes_2 (((9 : Int32).toInt - (0 : Int32).toInt).toNat + 1) (0 : Int32) Z := rfl
      rw [← e3] at h3
      omega
  · have h3 := h v hv
    dsimp only at h3
    rw [if_neg (by rw [show (0 : Int32).toNatClampNeg = 0 by decide]; omega)] at h3
    exact h3
  · dsimp only
    rw [if_neg (by rw [show (0 : Int32).toNatClampNeg = 0 by decide]; omega)]
    exact h v hv
theorem fin_63 {Z : Nat → Int32} (hZ : BD 54 Z) : ∀ (fu : Nat) (y3 y4 : Int32), ((9 : Int32).toInt + 1 - y4.toInt).toNat < fu → 1 ≤ y4.toInt → y4.toInt ≤ 10 → 0 ≤ y3.toInt → (y3.toInt ≤ 54 ∨ y3.toInt = 1000) →
    ∃ r : Int32, m_X0_fewestActs_63 fu Z y3 y4 = ((if (1000 : Int32) ≤ r then (-9 : Int32) else r), Z) ∧ 0 ≤ r.toInt ∧ (r.toInt ≤ 54 ∨ r.toInt = 1000) ∧ ∀ c : Int, c ≤ r.toInt ↔ (c ≤ y3.toInt ∧ ∀ v : Nat, y4.toNatClampNeg ≤ v → v < 10 → c ≤ (Z v).toInt) := by
  intro fu
  induction fu with
  | zero => intro y3 y4 hm; exact absurd hm (Nat.not_lt_zero _)
  | succ fu ih =>
    intro y3 y4 hm a1 a2 b1 b2
    have e9 : (9 : Int32).toInt = 9 := by decide
    have t := tnc (x := y4) (by omega)
    rw [m_X0_fewestActs_63]
    by_cases q : (9 : Int32) < y4
    · rw [if_pos q]
      have a := lt_ti q
      rw [e9] at a
      exact ⟨y3, rfl, b1, b2, fun c => ⟨fun h => ⟨h, fun v g g2 => absurd g2 (by omega)⟩, fun h => h.1⟩⟩
    · rw [if_neg q]
      have a := nlt_ti q
      rw [e9] at a
      have e1 : (y4 + 1).toInt = y4.toInt + 1 := by rw [ti_add (by rw [ti_1]; omega) (by rw [ti_1]; omega), ti_1]
      have t1 := tnc (x := y4 + 1) (by omega)
      rw [at10 (by omega) (by omega)]
      have z := hZ y4.toNatClampNeg (by omega)
      have hval : (if (Z y4.toNatClampNeg) < y3 then (Z y4.toNatClampNeg) else y3).toInt = min (Z y4.toNatClampNeg).toInt y3.toInt := by
        by_cases u : (Z y4.toNatClampNeg) < y3
        · rw [if_pos u]; have := lt_ti u; omega
        · rw [if_neg u]; have := nlt_ti u; omega
      obtain ⟨r, r1, r2, r3, r4⟩ := ih (if (Z y4.toNatClampNeg) < y3 then (Z y4.toNatClampNeg) else y3) (y4 + 1) (by omega) (by omega) (by omega) (by omega) (by omega)
      refine ⟨r, r1, r2, r3, fun c => (r4 c).trans ⟨fun h => ⟨by omega, fun v g g2 => ?_⟩, fun h => ⟨?_, fun v g g2 => h.2 v (by omega) g2⟩⟩⟩
      · by_cases e : v = y4.toNatClampNeg
        · rw [e]; omega
        · exact h.2 v (by omega) g2
      · have := h.2 y4.toNatClampNeg (Nat.le_refl _) (by omega)
        omega
theorem few_l {b l : Int32} {H K : Nat → Int32} {T : Nat → Nat → Int} (hb : b.toInt ≤ 6) (hb1 : 1 ≤ b.toInt) (hdr : ∀ y : Int32, 0 ≤ y.toInt → y.toInt < b.toInt → 0 ≤ (m_X2_drying H K l y).toInt ∧ (m_X2_drying H K l y).toInt ≤ 20)
    (hT0 : ∀ d v : Nat, 0 ≤ T d v) (hTb : ∀ v : Nat, v < 10 → T b.toNatClampNeg v = 0) (hT : ∀ y : Int32, 0 ≤ y.toInt → y.toInt < b.toInt → dayT (m_X2_drying H K l y).toInt (T y.toNatClampNeg) (T (y.toNatClampNeg + 1))) :
    ∀ (fu : Nat) (y : Int32) (Z : Nat → Int32), (b.toInt - y.toInt).toNat < fu → 0 ≤ y.toInt → y.toInt ≤ b.toInt → BD (9 * y.toInt) Z → (y.toInt = 0 ∨ (Z 0).toInt = 1000) →
      ∃ (r : Int32) (s : Nat → Int32), m_X0_fewestActs_28 fu b H K l y Z = ((if (1000 : Int32) ≤ r then (-9 : Int32) else r), s) ∧ 0 ≤ r.toInt ∧ (r.toInt ≤ 54 ∨ r.toInt = 1000) ∧ ∀ c : Int, c ≤ 99 → (c ≤ r.toInt ↔ LB c Z (T y.toNatClampNeg)) := by
  intro fu
  induction fu with
  | zero => intro y Z hm; exact absurd hm (Nat.not_lt_zero _)
  | succ fu ih =>
    intro y Z hm h0 h6 hZ hz
    have t := tnc h0
    have tb := tnc (x := b) (by omega)
    rw [m_X0_fewestActs_28]
    by_cases q : b ≤ y
    · rw [if_pos q]
      have a := le_ti q
      have hZ54 : BD 54 Z := fun v hv => by have := hZ v hv; omega
      obtain ⟨r, r1, r2, r3, r4⟩ := fin_63 hZ54 (((9 : Int32).toInt + 1 - (1 : Int32).toInt).toNat + 1) (1000 : Int32) (1 : Int32) (Nat.lt_succ_self _) (by decide) (by decide) (by decide) (by decide)
      refine ⟨r, Z, r1, r2, r3, fun c hc => (r4 c).trans ⟨fun h v hv => ?_, fun h => ⟨?_, fun v g g2 => ?_⟩⟩⟩
      · rw [show y.toNatClampNeg = b.toNatClampNeg by omega, hTb v hv]
        by_cases e : v = 0
        · rw [e]; omega
        · have := h.2 v (by rw [show (1 : Int32).toNatClampNeg = 1 by decide]; omega) hv
          omega
      · rw [show (1000 : Int32).toInt = 1000 by decide]; omega
      · have h3 := h v g2
        rw [show y.toNatClampNeg = b.toNatClampNeg by omega, hTb v g2] at h3
        omega
    · rw [if_neg q]
      have a := nle_ti q
      have e1 := up_1 q
      have t1 := tnc (x := y + 1) (by omega)
      have hd := hdr y h0 a
      have hTy := hT y h0 a
      have D := fun (c : Int) (hc : c ≤ 99) => day_lb (c := c) (B := 9 * y.toInt) (Z := Z) (T := T y.toNatClampNeg) (T' := T (y.toNatClampNeg + 1)) hc hd.1 hd.2 (by omega) (by omega) hZ (hT0 _) hTy
      obtain ⟨d1, d2, -⟩ := D 0 (by decide)
      obtain ⟨r, s, r1, r2, r3, r4⟩ := ih (y + 1) (m_X0_dryAndStayLaw (m_X0_weepAsOneLikes Z) (m_X2_drying H K l y)) (up_dec q hm) (up_nn q h0) (by omega) (by rw [e1, show 9 * (y.toInt + 1) = 9 * y.toInt + 9 by omega]; exact d1) (Or.inr d2)
      refine ⟨r, s, r1, r2, r3, fun c hc => (r4 c hc).trans ?_⟩
      rw [show (y + 1).toNatClampNeg = y.toNatClampNeg + 1 by omega]
      exact (D c hc).2.2
