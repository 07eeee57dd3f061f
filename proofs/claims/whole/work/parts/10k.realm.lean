def RC (A sh : Nat → Int32) (i frm n : Int32) : Prop := 0 ≤ n.toInt ∧ n.toInt ≤ 60 ∧ ∀ p : Int32, 0 ≤ p.toInt → p.toInt < n.toInt → m_X4_number A (i + p) = sh (frm + p).toNatClampNeg
theorem cd_in {A sh : Nat → Int32} {i frm n p : Int32} (h : RC A sh i frm n) (hp : 0 ≤ p.toInt) (hn : p.toInt < n.toInt) : m_X3_codeAt i n A p = sh (frm + p).toNatClampNeg ∧ m_X8_codeAt p sh frm n = sh (frm + p).toNatClampNeg := by
  unfold m_X3_codeAt m_X8_codeAt
  rw [if_neg (fun q => isB_iff.mp q ⟨hp, hn⟩), if_neg (fun q => by have := le_ti q; omega)]
  exact ⟨h.2.2 p hp hn, rfl⟩
theorem cd_out {A sh : Nat → Int32} {i frm n p : Int32} (hn : n.toInt ≤ p.toInt) : m_X3_codeAt i n A p = (-1 : Int32) ∧ m_X8_codeAt p sh frm n = (-9 : Int32) := by
  unfold m_X3_codeAt m_X8_codeAt
  rw [if_pos (isB_iff.mpr (by omega)), if_pos (Int32.le_iff_toInt_le.mpr hn)]
  exact ⟨rfl, rfl⟩
theorem cd_eq {A sh : Nat → Int32} {i frm n p v : Int32} (h : RC A sh i frm n) (hp : 0 ≤ p.toInt) (hv : 0 ≤ v.toInt) : m_X3_codeAt i n A p = v ↔ m_X8_codeAt p sh frm n = v := by
  by_cases c : p.toInt < n.toInt
  · obtain ⟨e1, e2⟩ := cd_in h hp c
    rw [e1, e2]
  · obtain ⟨e1, e2⟩ := cd_out (A := A) (sh := sh) (i := i) (frm := frm) (n := n) (p := p) (by omega)
    rw [e1, e2]
    refine ⟨fun q => absurd hv (by rw [← q]; decide), fun q => absurd hv (by rw [← q]; decide)⟩
theorem fg {A sh : Nat → Int32} {i frm n p most : Int32} (h : RC A sh i frm n) (hp : 0 ≤ p.toInt) (hm : 0 ≤ most.toInt ∧ most.toInt ≤ 9) :
    (m_X3_hasDigit i n A p most = 0 ∧ m_X8_figure p sh frm n most = ((-9 : Int32), p)) ∨ (¬ m_X3_hasDigit i n A p most = 0 ∧ m_X8_figure p sh frm n most = (m_X3_digitAt i n A p, p + (1 : Int32)) ∧ (0 ≤ (m_X3_digitAt i n A p).toInt ∧ (m_X3_digitAt i n A p).toInt ≤ most.toInt) ∧ p.toInt < n.toInt) := by
  have k48 : (48 : Int32).toInt = 48 := by decide
  have km : ((48 : Int32) + most).toInt = 48 + most.toInt := by rw [ti_add (by omega) (by omega), k48]
  unfold m_X3_hasDigit m_X8_figure m_X3_digitAt
  by_cases c : p.toInt < n.toInt
  · obtain ⟨e1, e2⟩ := cd_in h hp c
    rw [e1, e2]
    obtain ⟨v, ev⟩ : ∃ v, v = sh (frm + p).toNatClampNeg := ⟨_, rfl⟩
    rw [← ev]
    by_cases q : 48 ≤ v.toInt ∧ v.toInt ≤ 48 + most.toInt
    · have ed : (v - (48 : Int32)).toInt = v.toInt - 48 := by rw [ti_sub (by omega) (by omega), k48]
      have hin : ¬ m_X8_in (v - (48 : Int32)).toInt64 (0 : Int64) most.toInt64 = 0 := fun g => inE_iff.mp g (by omega)
      rw [if_neg (show ¬ v < (48 : Int32) from fun g => by have := lt_ti g; omega), if_neg (show ¬ (48 : Int32) + most < v from fun g => by have := lt_ti g; omega), if_neg hin, if_neg hin]
      exact Or.inr ⟨by decide, rfl, by omega, c⟩
    · have hin : m_X8_in (v - (48 : Int32)).toInt64 (0 : Int64) most.toInt64 = 0 := inE_iff.mpr (fun g => q (by
        have e : (v - (48 : Int32)) + (48 : Int32) = v := Int32.sub_add_cancel v 48
        have e2 := ti_add (a := v - (48 : Int32)) (b := (48 : Int32)) (by omega) (by omega)
        rw [e] at e2
        omega))
      rw [if_pos hin, if_pos hin, Int32.add_zero]
      refine Or.inl ⟨?_, rfl⟩
      by_cases g : v < (48 : Int32)
      · rw [if_pos g]
      · have g1 := nlt_ti g
        rw [if_neg g, if_pos (Int32.lt_iff_toInt_lt.mpr (by omega))]
  · obtain ⟨e1, e2⟩ := cd_out (A := A) (sh := sh) (i := i) (frm := frm) (n := n) (p := p) (by omega)
    rw [e1, e2]
    have hin : m_X8_in ((-9 : Int32) - (48 : Int32)).toInt64 (0 : Int64) most.toInt64 = 0 := inE_iff.mpr (fun g => absurd g.1 (by decide))
    rw [if_pos (show (-1 : Int32) < (48 : Int32) by decide), if_pos hin, if_pos hin, Int32.add_zero]
    exact Or.inl ⟨rfl, rfl⟩
theorem sw_0 {sh : Nat → Int32} {frm n y ra : Int32} {rs : Nat → Int32} : ∀ fu : Nat, 0 < fu → m_X8_readsSorrows_5 fu sh frm n (0 : Int32) y ra rs = ((0 : Int32), ra, rs) := by
  intro fu hf
  obtain ⟨f, rfl⟩ : ∃ f, fu = f + 1 := ⟨fu - 1, by omega⟩
  rw [m_X8_readsSorrows_5]
  by_cases c : (4 : Int32) ≤ y
  · rw [if_pos c, if_pos rfl, ra_0]
  · rw [if_neg c, if_pos rfl, if_pos rfl, ra_0]
def soD (i n : Int32) (A rs : Nat → Int32) (w : Int32) : Prop := ∀ y : Int32, 0 ≤ y.toInt → y.toInt < w.toInt → rs y.toNatClampNeg = m_X3_digitAt i n A ((1 : Int32) + y) ∧ 0 ≤ (rs y.toNatClampNeg).toInt ∧ (rs y.toNatClampNeg).toInt ≤ 9
def soQ (i n kd kl : Int32) (A : Nat → Int32) (r : Int32 × Int32 × (Nat → Int32)) (f : Int32 × Int32 × Int32) : Prop :=
  (r.1 = 0 ∧ 0 ≤ r.2.1.toInt ∧ f = (r.2.1, kd, kl)) ∨ (¬ r.1 = 0 ∧ r.2.1 = (6 : Int32) ∧ soD i n A r.2.2 (4 : Int32) ∧ f = m_X3_firstFault_76 (((6 : Int32).toInt - (0 : Int32).toInt).toNat + 1) A i n kl (0 : Int32) (0 : Int32))
theorem sw_l {A sh : Nat → Int32} {i frm n kd kl : Int32} (h : RC A sh i frm n) : ∀ (fu fu' : Nat) (w p : Int32) (rs : Nat → Int32), ((5 : Int32).toInt - p.toInt).toNat < fu → ((4 : Int32).toInt - w.toInt).toNat < fu' → 0 ≤ w.toInt → w.toInt ≤ 4 → p = (1 : Int32) + w → soD i n A rs w →
    soQ i n kd kl A (m_X8_readsSorrows_5 fu' sh frm n (1 : Int32) w p rs) (m_X3_firstFault_30 fu A i n kd kl p) := by
  intro fu
  induction fu with
  | zero => intro fu' w p rs hm; exact absurd hm (Nat.not_lt_zero _)
  | succ fu ih =>
    intro fu' w p rs hm hm' h0 h4 hp hrs
    have e4 : (4 : Int32).toInt = 4 := by decide
    have e5 : (5 : Int32).toInt = 5 := by decide
    have n10 : ¬ (1 : Int32) = 0 := by decide
    have ep : p.toInt = 1 + w.toInt := by rw [hp, ti_add (by rw [ti_1]; omega) (by rw [ti_1]; omega), ti_1]
    obtain ⟨f2, rfl⟩ : ∃ f, fu' = f + 1 := ⟨fu' - 1, by omega⟩
    rw [m_X8_readsSorrows_5, m_X3_firstFault_30]
    by_cases q : (4 : Int32) ≤ w
    · have a := le_ti q
      have ew : w = (4 : Int32) := Int32.toInt_inj.mp (by omega)
      have epp : p = (5 : Int32) := Int32.toInt_inj.mp (by omega)
      subst ew
      rw [if_pos q, if_neg n10, epp, if_pos (show (5 : Int32) ≤ (5 : Int32) by decide)]
      by_cases c : m_X3_codeAt i n A (5 : Int32) = (44 : Int32)
      · have c' := (cd_eq h (by decide) (by decide)).mp c
        rw [if_pos c, if_pos c', if_neg n10]
        exact Or.inr ⟨n10, (show (5 : Int32) + (1 : Int32) = (6 : Int32) by decide), hrs, rfl⟩
      · have c' : ¬ m_X8_codeAt (5 : Int32) sh frm n = (44 : Int32) := fun g => c ((cd_eq h (by decide) (by decide)).mpr g)
        rw [if_neg c, if_neg c', if_pos rfl, Int32.add_zero]
        exact Or.inl ⟨rfl, (show (0 : Int) ≤ (5 : Int32).toInt by decide), rfl⟩
    · have a := nle_ti q
      have e1 := up_1 q
      have q5 : ¬ (5 : Int32) ≤ p := fun g => by have := le_ti g; omega
      have ep1 := up_1 q5
      rw [if_neg q, if_neg n10, if_neg q5]
      have tw := tnc h0
      rcases fg (p := p) (most := (9 : Int32)) h (by omega) (by decide) with ⟨d0, f⟩ | ⟨d1, f, hd, hpn⟩
      · rw [if_pos d0, f]
        dsimp only
        rw [pk_us, if_pos (show (-9 : Int32) < 0 by decide), sw_0 f2 (by omega)]
        exact Or.inl ⟨rfl, (show 0 ≤ p.toInt by omega), rfl⟩
      · rw [if_neg d1, f]
        dsimp only
        rw [pk_us, if_neg (nlt0_of hd.1)]
        refine ih f2 (w + 1) (p + 1) _ (up_dec q5 hm) (by omega) (up_nn q h0) (by omega) ?_ (fun y g g2 => ?_)
        · rw [hp, Int32.add_assoc]
        · have ty := tnc g
          by_cases e : y = w
          · rw [e, pk_us, ← hp]
            exact ⟨rfl, hd.1, by rw [show (9 : Int32).toInt = 9 by decide] at hd; exact hd.2⟩
          · have : ¬ y.toInt = w.toInt := fun g => e (Int32.toInt_inj.mp g)
            rw [pk_un (by omega)]
            exact hrs y g (by omega)
theorem da_0 {sh : Nat → Int32} {frm n ra rd : Int32} {rh : Nat → Int32} : ∀ fu : Nat, 0 < fu → m_X8_readsDays_2 fu sh frm n (0 : Int32) ra rd rh = (if rd ≤ 0 then ((0 : Int32), ra, rd, rh) else ((1 : Int32), ra, rd, rh)) := by
  intro fu hf
  obtain ⟨f, rfl⟩ : ∃ f, fu = f + 1 := ⟨fu - 1, by omega⟩
  rw [m_X8_readsDays_2]
  by_cases c : (6 : Int32) ≤ rd
  · rw [if_pos c]
  · rw [if_neg c, if_pos rfl]
theorem da_e {ra rd : Int32} {rh : Nat → Int32} : (if rd ≤ 0 then ((0 : Int32), ra, rd, rh) else ((1 : Int32), ra, rd, rh)) = ((if rd ≤ 0 then (0 : Int32) else (1 : Int32)), ra, rd, rh) := by
  by_cases c : rd ≤ 0
  · rw [if_pos c, if_pos c]
  · rw [if_neg c, if_neg c]
def daD (i n : Int32) (A rh : Nat → Int32) (b : Int32) : Prop := ∀ y : Int32, 0 ≤ y.toInt → y.toInt < b.toInt → rh y.toNatClampNeg = m_X3_digitAt i n A ((6 : Int32) + y) ∧ 0 ≤ (rh y.toNatClampNeg).toInt ∧ (rh y.toNatClampNeg).toInt ≤ 9
theorem da_l {A sh : Nat → Int32} {i frm n kl : Int32} (h : RC A sh i frm n) : ∀ (fu fu' : Nat) (rd ra : Int32) (rh : Nat → Int32), ((6 : Int32).toInt - rd.toInt).toNat < fu → (2 * ((6 : Int32).toInt - rd.toInt) + 1).toNat < fu' → 0 ≤ rd.toInt → rd.toInt ≤ 6 → (rd.toInt = 0 ∨ 6 + rd.toInt ≤ n.toInt) → ra = (6 : Int32) + rd → daD i n A rh rd →
    ∃ (b : Int32) (rh' : Nat → Int32), (0 ≤ b.toInt ∧ b.toInt ≤ 6) ∧ (b.toInt = 0 ∨ 6 + b.toInt ≤ n.toInt) ∧ daD i n A rh' b ∧ m_X8_readsDays_2 fu' sh frm n (1 : Int32) ra rd rh = ((if b ≤ 0 then (0 : Int32) else (1 : Int32)), (6 : Int32) + b, b, rh') ∧
      m_X3_firstFault_76 fu A i n kl rd rd = (if b = 0 then ((6 : Int32), b, kl) else ((m_X3_firstFaultOfLinens i n b A).1, b, (m_X3_firstFaultOfLinens i n b A).2)) := by
  intro fu
  induction fu with
  | zero => intro fu' rd ra rh hm; exact absurd hm (Nat.not_lt_zero _)
  | succ fu ih =>
    intro fu' rd ra rh hm hm' h0 h6 hn hra hrh
    have e6 : (6 : Int32).toInt = 6 := by decide
    have n10 : ¬ (1 : Int32) = 0 := by decide
    have era : ra.toInt = 6 + rd.toInt := by rw [hra, ti_add (by omega) (by omega), e6]
    obtain ⟨f2, rfl⟩ : ∃ f, fu' = f + 1 := ⟨fu' - 1, by omega⟩
    rw [m_X8_readsDays_2, m_X3_firstFault_76]
    by_cases q : (6 : Int32) ≤ rd
    · rw [if_pos q, if_pos q, da_e, hra]
      exact ⟨rd, rh, ⟨h0, h6⟩, hn, hrh, rfl, rfl⟩
    · have a := nle_ti q
      have e1 := up_1 q
      rw [if_neg q, if_neg n10, if_neg q]
      have td := tnc h0
      rcases fg (p := ra) (most := (9 : Int32)) h (by omega) (by decide) with ⟨d0, f⟩ | ⟨d1, f, hd, hpn⟩
      · rw [f]
        dsimp only
        rw [hra] at d0
        rw [if_pos d0, if_pos (show (-9 : Int32) < 0 by decide), if_pos rfl, da_0 f2 (by omega), da_e, hra]
        exact ⟨rd, rh, ⟨h0, h6⟩, hn, hrh, rfl, rfl⟩
      · rw [f]
        dsimp only
        have d1' := d1
        rw [hra] at d1'
        rw [if_neg d1', if_neg (nlt0_of hd.1), if_neg n10]
        refine ih f2 (rd + 1) (ra + 1) _ (up_dec q hm) (by omega) (up_nn q h0) (by omega) (Or.inr (by omega)) ?_ (fun y g g2 => ?_)
        · rw [hra, Int32.add_assoc]
        · have ty := tnc g
          by_cases e : y = rd
          · rw [e, pk_us, ← hra]
            exact ⟨rfl, hd.1, by rw [show (9 : Int32).toInt = 9 by decide] at hd; exact hd.2⟩
          · have : ¬ y.toInt = rd.toInt := fun g => e (Int32.toInt_inj.mp g)
            rw [pk_un (by omega)]
            exact hrh y g (by omega)
def rlQ (i n : Int32) (A : Nat → Int32) (p rl : Int32) (rk ro rd : Nat → Int32) (r : Int32 × Int32 × Int32 × (Nat → Int32) × (Nat → Int32) × (Nat → Int32)) : Prop :=
  (¬ m_X3_codeAt i n A p = (59 : Int32) ∧ r.1 = 0 ∧ r.2.1 = p) ∨
  (m_X3_codeAt i n A p = (59 : Int32) ∧ m_X3_kindOfLetter (m_X3_codeAt i n A (p + (1 : Int32))) = (-9 : Int32) ∧ r.1 = 0 ∧ r.2.1 = p + (1 : Int32)) ∨
  (m_X3_codeAt i n A p = (59 : Int32) ∧ ¬ m_X3_kindOfLetter (m_X3_codeAt i n A (p + (1 : Int32))) = (-9 : Int32) ∧ m_X3_hasDigit i n A (p + (2 : Int32)) (3 : Int32) = 0 ∧ r.1 = 0 ∧ r.2.1 = p + (2 : Int32)) ∨
  (m_X3_codeAt i n A p = (59 : Int32) ∧ ¬ m_X3_kindOfLetter (m_X3_codeAt i n A (p + (1 : Int32))) = (-9 : Int32) ∧ ¬ m_X3_hasDigit i n A (p + (2 : Int32)) (3 : Int32) = 0 ∧ m_X3_hasDigit i n A (p + (3 : Int32)) (9 : Int32) = 0 ∧ r.1 = 0 ∧ r.2.1 = p + (3 : Int32)) ∨
  (m_X3_codeAt i n A p = (59 : Int32) ∧ ¬ m_X3_kindOfLetter (m_X3_codeAt i n A (p + (1 : Int32))) = (-9 : Int32) ∧ ¬ m_X3_hasDigit i n A (p + (2 : Int32)) (3 : Int32) = 0 ∧ ¬ m_X3_hasDigit i n A (p + (3 : Int32)) (9 : Int32) = 0 ∧
    r = ((1 : Int32), p + (4 : Int32), rl + (1 : Int32), upd rk rl.toNatClampNeg (m_X3_kindOfLetter (m_X3_codeAt i n A (p + (1 : Int32)))), upd ro rl.toNatClampNeg (m_X3_digitAt i n A (p + (2 : Int32))), upd rd rl.toNatClampNeg (m_X3_digitAt i n A (p + (3 : Int32)))) ∧
    (0 ≤ (m_X3_kindOfLetter (m_X3_codeAt i n A (p + (1 : Int32)))).toInt ∧ (m_X3_kindOfLetter (m_X3_codeAt i n A (p + (1 : Int32)))).toInt ≤ 2) ∧ (0 ≤ (m_X3_digitAt i n A (p + (2 : Int32))).toInt ∧ (m_X3_digitAt i n A (p + (2 : Int32))).toInt ≤ 3) ∧ (0 ≤ (m_X3_digitAt i n A (p + (3 : Int32))).toInt ∧ (m_X3_digitAt i n A (p + (3 : Int32))).toInt ≤ 9) ∧ p.toInt + 4 ≤ n.toInt)
theorem rl_s {A sh : Nat → Int32} {i frm n p rl : Int32} {rk ro rd : Nat → Int32} (h : RC A sh i frm n) (hp : 0 ≤ p.toInt ∧ p.toInt ≤ 60) (hrl : ¬ rl = (5 : Int32)) : rlQ i n A p rl rk ro rd (m_X8_readsLinen p rl sh rk ro rd frm n) := by
  have k2 : (2 : Int32).toInt = 2 := by decide
  have k3 : (3 : Int32).toInt = 3 := by decide
  have k9 : (9 : Int32).toInt = 9 := by decide
  have p1 : (p + (1 : Int32)).toInt = p.toInt + 1 := by rw [ti_add (by rw [ti_1]; omega) (by rw [ti_1]; omega), ti_1]
  have p2 : (p + (2 : Int32)).toInt = p.toInt + 2 := by rw [ti_add (by omega) (by omega), k2]
  have p3 : (p + (3 : Int32)).toInt = p.toInt + 3 := by rw [ti_add (by omega) (by omega), k3]
  have e12 : p + (1 : Int32) + (1 : Int32) = p + (2 : Int32) := by rw [Int32.add_assoc]; rfl
  have e23 : p + (2 : Int32) + (1 : Int32) = p + (3 : Int32) := by rw [Int32.add_assoc]; rfl
  have e34 : p + (3 : Int32) + (1 : Int32) = p + (4 : Int32) := by rw [Int32.add_assoc]; rfl
  have n9 : ¬ (0 : Int32) ≤ (-9 : Int32) := by decide
  unfold m_X8_readsLinen
  rw [if_neg hrl, e12]
  by_cases c : m_X3_codeAt i n A p = (59 : Int32)
  · have c' := (cd_eq h hp.1 (by decide)).mp c
    rw [if_pos c']
    have F1 := fg (p := p + (2 : Int32)) (most := (3 : Int32)) h (by omega) (by decide)
    have F2 := fg (p := p + (3 : Int32)) (most := (9 : Int32)) h (by omega) (by decide)
    rw [e23] at F1
    rw [e34, k9] at F2
    rw [k3] at F1
    have L99 := cd_eq (v := (99 : Int32)) h (show 0 ≤ (p + (1 : Int32)).toInt by omega) (by decide)
    have L108 := cd_eq (v := (108 : Int32)) h (show 0 ≤ (p + (1 : Int32)).toInt by omega) (by decide)
    have L115 := cd_eq (v := (115 : Int32)) h (show 0 ≤ (p + (1 : Int32)).toInt by omega) (by decide)
    by_cases c1 : m_X3_codeAt i n A (p + (1 : Int32)) = (99 : Int32)
    · have g1 := L99.mp c1
      rw [if_pos g1]
      have hk : m_X3_kindOfLetter (m_X3_codeAt i n A (p + (1 : Int32))) = (0 : Int32) := by unfold m_X3_kindOfLetter; rw [if_pos c1]
      have hk9 : ¬ m_X3_kindOfLetter (m_X3_codeAt i n A (p + (1 : Int32))) = (-9 : Int32) := by rw [hk]; decide
      rcases F1 with ⟨d0, f⟩ | ⟨d1, f, hd, hpn⟩
      · rw [f]
        dsimp only
        rw [if_neg n9, if_neg n9]
        exact Or.inr (Or.inr (Or.inl ⟨c, hk9, d0, rfl, rfl⟩))
      · rw [f]
        dsimp only
        rw [if_pos (le0_of hd.1)]
        rcases F2 with ⟨d0, f'⟩ | ⟨d2, f', hd2, hpn2⟩
        · rw [f']
          dsimp only
          rw [if_neg n9]
          exact Or.inr (Or.inr (Or.inr (Or.inl ⟨c, hk9, d1, d0, rfl, rfl⟩)))
        · rw [f']
          dsimp only
          rw [if_pos (le0_of hd2.1), if_pos g1]
          refine Or.inr (Or.inr (Or.inr (Or.inr ⟨c, hk9, d1, d2, ?_, ?_, hd, hd2, by omega⟩)))
          · rw [hk]
          · rw [hk]; decide
    · have g1 : ¬ m_X8_codeAt (p + (1 : Int32)) sh frm n = (99 : Int32) := fun g => c1 (L99.mpr g)
      rw [if_neg g1]
      by_cases c2 : m_X3_codeAt i n A (p + (1 : Int32)) = (108 : Int32)
      · have g2 := L108.mp c2
        rw [if_pos g2]
        have hk : m_X3_kindOfLetter (m_X3_codeAt i n A (p + (1 : Int32))) = (1 : Int32) := by unfold m_X3_kindOfLetter; rw [if_neg c1, if_pos c2]
        have hk9 : ¬ m_X3_kindOfLetter (m_X3_codeAt i n A (p + (1 : Int32))) = (-9 : Int32) := by rw [hk]; decide
        rcases F1 with ⟨d0, f⟩ | ⟨d1, f, hd, hpn⟩
        · rw [f]
          dsimp only
          rw [if_neg n9, if_neg n9]
          exact Or.inr (Or.inr (Or.inl ⟨c, hk9, d0, rfl, rfl⟩))
        · rw [f]
          dsimp only
          rw [if_pos (le0_of hd.1)]
          rcases F2 with ⟨d0, f'⟩ | ⟨d2, f', hd2, hpn2⟩
          · rw [f']
            dsimp only
            rw [if_neg n9]
            exact Or.inr (Or.inr (Or.inr (Or.inl ⟨c, hk9, d1, d0, rfl, rfl⟩)))
          · rw [f']
            dsimp only
            rw [if_pos (le0_of hd2.1), if_neg g1, if_pos g2]
            refine Or.inr (Or.inr (Or.inr (Or.inr ⟨c, hk9, d1, d2, ?_, ?_, hd, hd2, by omega⟩)))
            · rw [hk]
            · rw [hk]; decide
      · have g2 : ¬ m_X8_codeAt (p + (1 : Int32)) sh frm n = (108 : Int32) := fun g => c2 (L108.mpr g)
        rw [if_neg g2]
        by_cases c3 : m_X3_codeAt i n A (p + (1 : Int32)) = (115 : Int32)
        · have g3 := L115.mp c3
          rw [if_pos g3]
          have hk : m_X3_kindOfLetter (m_X3_codeAt i n A (p + (1 : Int32))) = (2 : Int32) := by unfold m_X3_kindOfLetter; rw [if_neg c1, if_neg c2, if_pos c3]
          have hk9 : ¬ m_X3_kindOfLetter (m_X3_codeAt i n A (p + (1 : Int32))) = (-9 : Int32) := by rw [hk]; decide
          rcases F1 with ⟨d0, f⟩ | ⟨d1, f, hd, hpn⟩
          · rw [f]
            dsimp only
            rw [if_neg n9, if_neg n9]
            exact Or.inr (Or.inr (Or.inl ⟨c, hk9, d0, rfl, rfl⟩))
          · rw [f]
            dsimp only
            rw [if_pos (le0_of hd.1)]
            rcases F2 with ⟨d0, f'⟩ | ⟨d2, f', hd2, hpn2⟩
            · rw [f']
              dsimp only
              rw [if_neg n9]
              exact Or.inr (Or.inr (Or.inr (Or.inl ⟨c, hk9, d1, d0, rfl, rfl⟩)))
            · rw [f']
              dsimp only
              rw [if_pos (le0_of hd2.1), if_neg g1, if_neg g2]
              refine Or.inr (Or.inr (Or.inr (Or.inr ⟨c, hk9, d1, d2, ?_, ?_, hd, hd2, by omega⟩)))
              · rw [hk]
              · rw [hk]; decide
        · have g3 : ¬ m_X8_codeAt (p + (1 : Int32)) sh frm n = (115 : Int32) := fun g => c3 (L115.mpr g)
          rw [if_neg g3]
          exact Or.inr (Or.inl ⟨c, by unfold m_X3_kindOfLetter; rw [if_neg c1, if_neg c2, if_neg c3], rfl, rfl⟩)
  · have c' : ¬ m_X8_codeAt p sh frm n = (59 : Int32) := fun g => c ((cd_eq h hp.1 (by decide)).mpr g)
    rw [if_neg c']
    exact Or.inl ⟨c, rfl, rfl⟩
theorem rr_0 {sh rs rh rk ro rd : Nat → Int32} {frm n kd ra rl : Int32} : ∀ fu : Nat, 0 < fu → m_X8_readsRealm_78 fu sh frm n kd rs rh (0 : Int32) ra rl rk ro rd = ((0 : Int32), ra, kd, rl, rs, rh, rk, ro, rd) := by
  intro fu hf
  obtain ⟨f, rfl⟩ : ∃ f, fu = f + 1 := ⟨fu - 1, by omega⟩
  rw [m_X8_readsRealm_78, if_pos rfl]
def lnP (i n dy : Int32) (A : Nat → Int32) (b : Int32) (rk ro rd : Nat → Int32) : Prop := ∀ y : Int32, 0 ≤ y.toInt → y.toInt < b.toInt →
  (rk y.toNatClampNeg = m_X3_kindOfLetter (m_X3_codeAt i n A ((m_X3_linenPlace dy y) + (1 : Int32))) ∧ 0 ≤ (rk y.toNatClampNeg).toInt ∧ (rk y.toNatClampNeg).toInt ≤ 2) ∧
  (ro y.toNatClampNeg = m_X3_digitAt i n A ((m_X3_linenPlace dy y) + (2 : Int32)) ∧ 0 ≤ (ro y.toNatClampNeg).toInt ∧ (ro y.toNatClampNeg).toInt ≤ 3) ∧
  (rd y.toNatClampNeg = m_X3_digitAt i n A ((m_X3_linenPlace dy y) + (3 : Int32)) ∧ 0 ≤ (rd y.toNatClampNeg).toInt ∧ (rd y.toNatClampNeg).toInt ≤ 9)
theorem plc_ti {dy y : Int32} (hd : 1 ≤ dy.toInt ∧ dy.toInt ≤ 6) (h0 : 0 ≤ y.toInt) (h5 : y.toInt ≤ 6) : (m_X3_linenPlace dy y).toInt = 6 + dy.toInt + 4 * y.toInt := by
  unfold m_X3_linenPlace
  have k6 : (6 : Int32).toInt = 6 := by decide
  have k4 : (4 : Int32).toInt = 4 := by decide
  have a : ((6 : Int32) + dy).toInt = 6 + dy.toInt := by rw [ti_add (by omega) (by omega), k6]
  have b : ((4 : Int32) * y).toInt = 4 * y.toInt := by rw [ti_mul (by rw [k4]; omega) (by rw [k4]; omega), k4]
  rw [ti_add (by omega) (by omega), a, b]
def lnQ (i n dy : Int32) (A rs rh : Nat → Int32) (r : Int32 × Int32 × Int32 × Int32 × (Nat → Int32) × (Nat → Int32) × (Nat → Int32) × (Nat → Int32) × (Nat → Int32)) (f : Int32 × Int32) : Prop :=
  (r.1 = 0 ∧ 0 ≤ r.2.1.toInt ∧ f.1 = r.2.1) ∨ (¬ r.1 = 0 ∧ f = ((-9 : Int32), r.2.2.2.1) ∧ r.2.2.1 = dy ∧ (1 ≤ r.2.2.2.1.toInt ∧ r.2.2.2.1.toInt ≤ 5) ∧ r.2.2.2.2.1 = rs ∧ r.2.2.2.2.2.1 = rh ∧ lnP i n dy A r.2.2.2.1 r.2.2.2.2.2.2.1 r.2.2.2.2.2.2.2.1 r.2.2.2.2.2.2.2.2)
theorem li_l {A sh rs rh : Nat → Int32} {i frm n dy : Int32} (h : RC A sh i frm n) (hd : 1 ≤ dy.toInt ∧ dy.toInt ≤ 6) : ∀ (fu fu' : Nat) (rl p : Int32) (rk ro rd : Nat → Int32), ((5 : Int32).toInt - rl.toInt).toNat < fu → (2 * ((5 : Int32).toInt - rl.toInt) + 1).toNat < fu' → 0 ≤ rl.toInt → rl.toInt ≤ 5 → p = m_X3_linenPlace dy rl → p.toInt ≤ n.toInt → lnP i n dy A rl rk ro rd →
    lnQ i n dy A rs rh (m_X8_readsRealm_78 fu' sh frm n dy rs rh (1 : Int32) p rl rk ro rd) (m_X3_firstFaultOfLinens_7 fu i n dy A rl rl) := by
  intro fu
  induction fu with
  | zero => intro fu' rl p rk ro rd hm; exact absurd hm (Nat.not_lt_zero _)
  | succ fu ih =>
    intro fu' rl p rk ro rd hm hm' h0 h5 hp hpn hI
    have e5 : (5 : Int32).toInt = 5 := by decide
    have n10 : ¬ (1 : Int32) = 0 := by decide
    have tp := plc_ti hd h0 (by omega)
    rw [← hp] at tp
    have hn := h.2.1
    obtain ⟨f2, rfl⟩ : ∃ f, fu' = f + 1 := ⟨fu' - 1, by omega⟩
    rw [m_X8_readsRealm_78, m_X3_firstFaultOfLinens_7, if_neg n10]
    by_cases q : (5 : Int32) ≤ rl
    · have a := le_ti q
      have er : rl = (5 : Int32) := Int32.toInt_inj.mp (by omega)
      subst er
      rw [if_pos q, ← hp, if_neg (show ¬ (5 : Int32) = 0 by decide)]
      by_cases e : n ≤ p
      · have e1 := le_ti e
        rw [if_pos e, if_pos (show p = n from Int32.toInt_inj.mp (by omega))]
        exact Or.inr ⟨n10, rfl, rfl, (show (1 : Int) ≤ (5 : Int32).toInt ∧ (5 : Int32).toInt ≤ 5 by decide), rfl, rfl, hI⟩
      · have e1 := nle_ti e
        have R : m_X8_readsLinen p (5 : Int32) sh rk ro rd frm n = ((0 : Int32), p, (5 : Int32), rk, ro, rd) := by
          unfold m_X8_readsLinen
          rw [if_pos rfl]
        rw [if_neg e, if_neg (show ¬ p = n from fun g => by rw [g] at e1; omega), R]
        dsimp only
        rw [rr_0 f2 (by omega)]
        exact Or.inl ⟨rfl, by show 0 ≤ p.toInt; omega, rfl⟩
    · have a := nle_ti q
      have e1 := up_1 q
      have hrl : ¬ rl = (5 : Int32) := fun g => by rw [g] at a; omega
      have tr := tnc h0
      rw [if_neg q, ← hp]
      have main : lnQ i n dy A rs rh (m_X8_readsRealm_78 f2 sh frm n dy rs rh ((m_X8_readsLinen p rl sh rk ro rd frm n).1) ((m_X8_readsLinen p rl sh rk ro rd frm n).2.1) ((m_X8_readsLinen p rl sh rk ro rd frm n).2.2.1) ((m_X8_readsLinen p rl sh rk ro rd frm n).2.2.2.1) ((m_X8_readsLinen p rl sh rk ro rd frm n).2.2.2.2.1) ((m_X8_readsLinen p rl sh rk ro rd frm n).2.2.2.2.2))
          (if (m_X3_codeAt i n A p) = (59 : Int32) then (if (m_X3_kindOfLetter (m_X3_codeAt i n A (p + (1 : Int32)))) = (-9 : Int32) then ((p + (1 : Int32)), rl) else (if (m_X3_hasDigit i n A (p + (2 : Int32)) (3 : Int32)) = 0 then ((p + (2 : Int32)), rl) else (if (m_X3_hasDigit i n A (p + (3 : Int32)) (9 : Int32)) = 0 then ((p + (3 : Int32)), rl) else (m_X3_firstFaultOfLinens_7 fu i n dy A (rl + 1) (rl + (1 : Int32)))))) else (p, rl)) := by
        have k2 : (2 : Int32).toInt = 2 := by decide
        have k3 : (3 : Int32).toInt = 3 := by decide
        have p1 : (p + (1 : Int32)).toInt = p.toInt + 1 := by rw [ti_add (by rw [ti_1]; omega) (by rw [ti_1]; omega), ti_1]
        have p2 : (p + (2 : Int32)).toInt = p.toInt + 2 := by rw [ti_add (by omega) (by omega), k2]
        have p3 : (p + (3 : Int32)).toInt = p.toInt + 3 := by rw [ti_add (by omega) (by omega), k3]
        rcases rl_s (p := p) (rl := rl) (rk := rk) (ro := ro) (rd := rd) h ⟨by omega, by omega⟩ hrl with ⟨c1, r1, r2⟩ | ⟨c1, c2, r1, r2⟩ | ⟨c1, c2, c3, r1, r2⟩ | ⟨c1, c2, c3, c4, r1, r2⟩ | ⟨c1, c2, c3, c4, r1, g1, g2, g3, g4⟩
        · rw [if_neg c1, r1, r2, rr_0 f2 (by omega)]
          exact Or.inl ⟨rfl, by show 0 ≤ p.toInt; omega, rfl⟩
        · rw [if_pos c1, if_pos c2, r1, r2, rr_0 f2 (by omega)]
          exact Or.inl ⟨rfl, by show 0 ≤ (p + (1 : Int32)).toInt; omega, rfl⟩
        · rw [if_pos c1, if_neg c2, if_pos c3, r1, r2, rr_0 f2 (by omega)]
          exact Or.inl ⟨rfl, by show 0 ≤ (p + (2 : Int32)).toInt; omega, rfl⟩
        · rw [if_pos c1, if_neg c2, if_neg c3, if_pos c4, r1, r2, rr_0 f2 (by omega)]
          exact Or.inl ⟨rfl, by show 0 ≤ (p + (3 : Int32)).toInt; omega, rfl⟩
        · rw [if_pos c1, if_neg c2, if_neg c3, if_neg c4, r1]
          dsimp only
          have k4 : (4 : Int32).toInt = 4 := by decide
          have p4 : (p + (4 : Int32)).toInt = p.toInt + 4 := by rw [ti_add (by omega) (by omega), k4]
          have tp1 := plc_ti (y := rl + 1) hd (by omega) (by omega)
          refine ih f2 (rl + 1) (p + (4 : Int32)) _ _ _ (up_dec q hm) (by omega) (up_nn q h0) (by omega) (Int32.toInt_inj.mp (by omega)) (by omega) (fun y u u2 => ?_)
          have ty := tnc u
          by_cases e : y = rl
          · rw [e, pk_us, pk_us, pk_us, ← hp]
            exact ⟨⟨rfl, g1⟩, ⟨rfl, g2⟩, ⟨rfl, g3⟩⟩
          · have : ¬ y.toInt = rl.toInt := fun g => e (Int32.toInt_inj.mp g)
            rw [pk_un (by omega), pk_un (by omega), pk_un (by omega)]
            exact hI y u (by omega)
      by_cases z : rl = 0
      · rw [if_pos z, if_pos (show rl ≤ 0 by rw [z]; decide)]
        exact main
      · have z1 : 1 ≤ rl.toInt := by
          refine Classical.byContradiction fun g => z (Int32.toInt_inj.mp (by rw [ti_0]; omega))
        rw [if_neg z, if_neg (show ¬ rl ≤ 0 from fun g => by have := le_ti g; rw [ti_0] at this; omega)]
        by_cases e : n ≤ p
        · have e1 := le_ti e
          rw [if_pos e, if_pos (show p = n from Int32.toInt_inj.mp (by omega))]
          exact Or.inr ⟨n10, rfl, rfl, ⟨z1, h5⟩, rfl, rfl, hI⟩
        · have e1 := nle_ti e
          rw [if_neg e, if_neg (show ¬ p = n from fun g => by rw [g] at e1; omega)]
          exact main
def rrQ (i n : Int32) (A : Nat → Int32) (r : Int32 × Int32 × Int32 × Int32 × (Nat → Int32) × (Nat → Int32) × (Nat → Int32) × (Nat → Int32) × (Nat → Int32)) (f : Int32 × Int32 × Int32) : Prop :=
  (r.1 = 0 ∧ 0 ≤ r.2.1.toInt ∧ f.1 = r.2.1) ∨ (¬ r.1 = 0 ∧ f = ((-9 : Int32), r.2.2.1, r.2.2.2.1) ∧ (1 ≤ r.2.2.1.toInt ∧ r.2.2.1.toInt ≤ 6) ∧ (1 ≤ r.2.2.2.1.toInt ∧ r.2.2.2.1.toInt ≤ 5) ∧ soD i n A r.2.2.2.2.1 (4 : Int32) ∧ daD i n A r.2.2.2.2.2.1 r.2.2.1 ∧ lnP i n r.2.2.1 A r.2.2.2.1 r.2.2.2.2.2.2.1 r.2.2.2.2.2.2.2.1 r.2.2.2.2.2.2.2.2)
theorem rr_eq {A sh rs rh rk ro rd : Nat → Int32} {i frm n td tl : Int32} (h : RC A sh i frm n) : rrQ i n A (m_X8_readsRealm sh rs rh rk ro rd frm n) (m_X3_firstFault td tl A i n) := by
  have n10 : ¬ (1 : Int32) = 0 := by decide
  unfold m_X8_readsRealm m_X3_firstFault
  by_cases c : m_X3_codeAt i n A (0 : Int32) = (107 : Int32)
  · have c' := (cd_eq h (by decide) (by decide)).mp c
    rw [if_pos c, if_pos c', if_neg n10, if_neg n10, show (0 : Int32) + (1 : Int32) = (1 : Int32) by decide]
    have S : soQ i n td tl A (m_X8_readsSorrows (1 : Int32) sh rs frm n) (m_X3_firstFault_30 (((5 : Int32).toInt - (1 : Int32).toInt).toNat + 1) A i n td tl (1 : Int32)) :=
      sw_l h _ _ 0 1 rs (Nat.lt_succ_self _) (Nat.lt_succ_self _) (by decide) (by decide) (by decide) (fun y g g2 => absurd g2 (by rw [ti_0]; omega))
    obtain ⟨R, eR⟩ : ∃ R, R = m_X8_readsSorrows (1 : Int32) sh rs frm n := ⟨_, rfl⟩
    rw [← eR] at S ⊢
    rcases S with ⟨s1, s2, s3⟩ | ⟨s1, s2, s3, s4⟩
    · rw [if_pos s1, s3, rr_0 _ (Nat.succ_pos _)]
      exact Or.inl ⟨rfl, s2, rfl⟩
    · rw [if_neg s1, s4, s2]
      obtain ⟨b, rh', b1, b2, b3, b4, b5⟩ := da_l (kl := tl) h (((6 : Int32).toInt - (0 : Int32).toInt).toNat + 1) ((2 * (6 - (0 : Int32).toInt) + (1 : Int32).toInt).toNat + 1) 0 6 rh (Nat.lt_succ_self _) (by decide) (by decide) (by decide) (Or.inl (by decide)) (by decide) (fun y g g2 => absurd g2 (by rw [ti_0]; omega))
      have b4' : m_X8_readsDays (6 : Int32) (0 : Int32) sh rh frm n = ((if b ≤ 0 then (0 : Int32) else (1 : Int32)), (6 : Int32) + b, b, rh') := b4
      rw [b4', b5]
      dsimp only
      by_cases z : b = 0
      · rw [if_pos z, if_pos (show b ≤ 0 by rw [z]; decide), if_pos rfl, rr_0 _ (Nat.succ_pos _), z]
        exact Or.inl ⟨rfl, (show (0 : Int) ≤ ((6 : Int32) + 0).toInt by decide), (show (6 : Int32) = (6 : Int32) + 0 by decide)⟩
      · have z1 : 1 ≤ b.toInt := by
          refine Classical.byContradiction fun g => z (Int32.toInt_inj.mp (by rw [ti_0]; omega))
        rw [if_neg z, if_neg (show ¬ b ≤ 0 from fun g => by have := le_ti g; rw [ti_0] at this; omega), if_neg n10]
        have k6 : (6 : Int32).toInt = 6 := by decide
        have a6 : ((6 : Int32) + b).toInt = 6 + b.toInt := by rw [ti_add (by omega) (by omega), k6]
        have tp := plc_ti (y := (0 : Int32)) ⟨z1, b1.2⟩ (by decide) (by decide)
        rw [ti_0] at tp
        have L : lnQ i n b A R.2.2 rh' (m_X8_readsRealm_78 ((2 * (5 - (0 : Int32).toInt) + (1 : Int32).toInt).toNat + 1) sh frm n b R.2.2 rh' (1 : Int32) ((6 : Int32) + b) (0 : Int32) rk ro rd) (m_X3_firstFaultOfLinens i n b A) :=
          li_l h ⟨z1, b1.2⟩ _ _ 0 _ rk ro rd (Nat.lt_succ_self _) (by decide) (by decide) (by decide) (Int32.toInt_inj.mp (by omega)) (by omega) (fun y g g2 => absurd g2 (by rw [ti_0]; omega))
        rcases L with ⟨l1, l2, l3⟩ | ⟨l1, l2, l3, l4, l5, l6, l7⟩
        · exact Or.inl ⟨l1, l2, l3⟩
        · refine Or.inr ⟨l1, ?_, ?_, l4, ?_, ?_, ?_⟩
          · rw [l2, l3]
          · rw [l3]; exact ⟨z1, b1.2⟩
          · rw [l5]; exact s3
          · rw [l6, l3]; exact b3
          · rw [l3]; exact l7
  · have c' : ¬ m_X8_codeAt (0 : Int32) sh frm n = (107 : Int32) := fun g => c ((cd_eq h (by decide) (by decide)).mpr g)
    rw [if_neg c, if_neg c', if_pos rfl, ra_0, rr_0 _ (Nat.succ_pos _)]
    exact Or.inl ⟨rfl, (show (0 : Int) ≤ (0 : Int32).toInt by decide), rfl⟩
/-- both fillings -/
def fmP (days lin : Int32) (f : Int32 × Int32 × (Nat → Int32) × (Nat → Int32) × (Nat → Int32) × (Nat → Int32) × (Nat → Int32)) (m : Int32 × Int32 × Int32 × Int32 × Int32 × Int32 × Int32 × Int32 × (Nat → Int32) × (Nat → Int32) × (Nat → Int32) × (Nat → Int32) × (Nat → Int32) × (Nat → Int32) × (Nat → Int32) × (Nat → Int32) × (Nat → Int32) × (Nat → Int32)) : Prop :=
  (f.2.1 = m.1 ∧ m.2.1 = 0 ∧ f.1 = m.2.2.1 ∧ f.2.1 = m.2.2.2.1 ∧ f.2.2.1 = m.2.2.2.2.2.2.2.2.1 ∧ f.2.2.2.1 = m.2.2.2.2.2.2.2.2.2.1 ∧ f.2.2.2.2.1 = m.2.2.2.2.2.2.2.2.2.2.1 ∧ f.2.2.2.2.2.1 = m.2.2.2.2.2.2.2.2.2.2.2.1 ∧ f.2.2.2.2.2.2 = m.2.2.2.2.2.2.2.2.2.2.2.2.1 ∧ m.2.2.2.2.2.2.2.1 = 0) ∧
  m.2.2.1 = days ∧ m.2.2.2.1 = lin ∧ (∀ j : Nat, 0 ≤ (m.2.2.2.2.2.2.2.2.2.1 j).toInt ∧ (m.2.2.2.2.2.2.2.2.2.1 j).toInt ≤ 9) ∧ (∀ j : Nat, 0 ≤ (m.2.2.2.2.2.2.2.2.2.2.2.2.1 j).toInt ∧ (m.2.2.2.2.2.2.2.2.2.2.2.2.1 j).toInt ≤ 9) ∧ (∀ j : Nat, vp_in (m.2.2.2.2.2.2.2.2.2.2.2.1 j) 4) ∧ (∀ j : Nat, 0 ≤ (m.2.2.2.2.2.2.2.2.1 j).toInt ∧ (m.2.2.2.2.2.2.2.2.1 j).toInt ≤ 9) ∧ (∀ j : Nat, 0 ≤ (m.2.2.2.2.2.2.2.2.2.2.1 j).toInt ∧ (m.2.2.2.2.2.2.2.2.2.2.1 j).toInt ≤ 2)
def r9 (f : Nat → Int32) : Prop := ∀ j : Nat, 0 ≤ (f j).toInt ∧ (f j).toInt ≤ 9
theorem fl_78 {A S H rS rH rK rO rD : Nat → Int32} {i n days lin ra d' l' : Int32} (hl : lin.toInt ≤ 5) (hS : r9 S) (hH : r9 H) (hI : lnP i n days A lin rK rO rD) : ∀ (fu : Nat) (y : Int32) (zK zO zD : Nat → Int32), (lin.toInt - y.toInt).toNat < fu → 0 ≤ y.toInt → (∀ j : Nat, 0 ≤ (zK j).toInt ∧ (zK j).toInt ≤ 2) → (∀ j : Nat, vp_in (zO j) 4) → r9 zD →
    fmP days lin (m_X3_fill_78 fu i n days lin A days lin S H y zK zO zD) (m_X8_realm_159 fu days lin ra d' l' S H rS rH rK rO rD y zK zO zD) := by
  intro fu
  induction fu with
  | zero => intro y zK zO zD hm; exact absurd hm (Nat.not_lt_zero _)
  | succ fu ih =>
    intro y zK zO zD hm h0 hK hO hD
    rw [m_X3_fill_78, m_X8_realm_159]
    by_cases q : lin ≤ y
    · rw [if_pos q, if_pos q]
      exact ⟨⟨rfl, rfl, rfl, rfl, rfl, rfl, rfl, rfl, rfl, rfl⟩, rfl, rfl, hH, hD, hO, hS, hK⟩
    · rw [if_neg q, if_neg q]
      have a := nle_ti q
      obtain ⟨⟨k1, k2⟩, ⟨o1, o2⟩, ⟨d1, d2⟩⟩ := hI y h0 a
      have s5 : ∀ (z : Nat → Int32) (v : Int32), m_X7_set 5 z y v = upd z y.toNatClampNeg v := fun z v => set_in h0 (by omega) (by decide)
      rw [s5, s5, s5, ← k1, ← o1, ← d1]
      exact ih (y + 1) _ _ _ (up_dec q hm) (up_nn q h0) (upd_all (P := fun x => 0 ≤ x.toInt ∧ x.toInt ≤ 2) hK k2) (upd_all (P := fun x => vp_in x 4) hO (vp_in_iff.mpr ⟨o2.1, by omega⟩)) (upd_all (P := fun x => 0 ≤ x.toInt ∧ x.toInt ≤ 9) hD d2)
theorem fl_46 {A S K O D rS rH rK rO rD : Nat → Int32} {i n days lin ra d' l' : Int32} (hl : lin.toInt ≤ 5) (hd : days.toInt ≤ 6) (hS : r9 S) (hK : ∀ j : Nat, 0 ≤ (K j).toInt ∧ (K j).toInt ≤ 2) (hO : ∀ j : Nat, vp_in (O j) 4) (hD : r9 D) (hI : lnP i n days A lin rK rO rD) (hJ : daD i n A rH days) : ∀ (fu : Nat) (y : Int32) (z : Nat → Int32), (days.toInt - y.toInt).toNat < fu → 0 ≤ y.toInt → r9 z →
    fmP days lin (m_X3_fill_46 fu i n days lin A days lin S K O D y z) (m_X8_realm_127 fu days lin ra d' l' S K O D rS rH rK rO rD y z) := by
  intro fu
  induction fu with
  | zero => intro y z hm; exact absurd hm (Nat.not_lt_zero _)
  | succ fu ih =>
    intro y z hm h0 hz
    rw [m_X3_fill_46, m_X8_realm_127]
    by_cases q : days ≤ y
    · rw [if_pos q, if_pos q]
      exact fl_78 hl hS hz hI _ 0 K O D (Nat.lt_succ_self _) (by decide) hK hO hD
    · rw [if_neg q, if_neg q]
      have a := nle_ti q
      obtain ⟨k1, k2⟩ := hJ y h0 a
      rw [set_in (n := 6) h0 (by omega) (by decide), ← k1]
      exact ih (y + 1) _ (up_dec q hm) (up_nn q h0) (upd_all (P := fun x => 0 ≤ x.toInt ∧ x.toInt ≤ 9) hz k2)
theorem fl_18 {A H K O D rS rH rK rO rD : Nat → Int32} {i n days lin ra d' l' : Int32} (hl : lin.toInt ≤ 5) (hd : days.toInt ≤ 6) (hH : r9 H) (hK : ∀ j : Nat, 0 ≤ (K j).toInt ∧ (K j).toInt ≤ 2) (hO : ∀ j : Nat, vp_in (O j) 4) (hD : r9 D) (hI : lnP i n days A lin rK rO rD) (hJ : daD i n A rH days) (hW : soD i n A rS (4 : Int32)) : ∀ (fu : Nat) (y : Int32) (z : Nat → Int32), ((4 : Int32).toInt - y.toInt).toNat < fu → 0 ≤ y.toInt → r9 z →
    fmP days lin (m_X3_fill_18 fu i n days lin A days lin H K O D y z) (m_X8_realm_98 fu days lin ra d' l' H K O D rS rH rK rO rD y z) := by
  intro fu
  induction fu with
  | zero => intro y z hm; exact absurd hm (Nat.not_lt_zero _)
  | succ fu ih =>
    intro y z hm h0 hz
    have e4 : (4 : Int32).toInt = 4 := by decide
    rw [m_X3_fill_18, m_X8_realm_98]
    by_cases q : (4 : Int32) ≤ y
    · rw [if_pos q, if_pos q]
      exact fl_46 hl hd hz hK hO hD hI hJ _ 0 H (Nat.lt_succ_self _) (by decide) hH
    · rw [if_neg q, if_neg q]
      have a := nle_ti q
      obtain ⟨k1, k2⟩ := hW y h0 a
      rw [set_in (n := 4) h0 (by omega) (by decide), ← k1]
      exact ih (y + 1) _ (up_dec q hm) (up_nn q h0) (upd_all (P := fun x => 0 ≤ x.toInt ∧ x.toInt ≤ 9) hz k2)
def rmP (C : Int32 × Int32 × Option Nat × Int32 × Int32 × Int32 × Int32 × Int32 × Int32 × (Nat → Int32) × (Nat → Int32) × (Nat → Int32) × (Nat → Int32) × (Nat → Int32) × Int32) (m : Int32 × Int32 × Int32 × Int32 × Int32 × Int32 × Int32 × Int32 × (Nat → Int32) × (Nat → Int32) × (Nat → Int32) × (Nat → Int32) × (Nat → Int32) × (Nat → Int32) × (Nat → Int32) × (Nat → Int32) × (Nat → Int32) × (Nat → Int32)) : Prop :=
  C.1 = m.1 ∧ C.2.1 = m.2.1 ∧ C.2.2.2.2.2.2.2.1 = m.2.2.1 ∧ C.2.2.2.2.2.2.2.2.1 = m.2.2.2.1 ∧ C.2.2.2.2.2.2.2.2.2.1 = m.2.2.2.2.2.2.2.2.1 ∧ C.2.2.2.2.2.2.2.2.2.2.1 = m.2.2.2.2.2.2.2.2.2.1 ∧ C.2.2.2.2.2.2.2.2.2.2.2.1 = m.2.2.2.2.2.2.2.2.2.2.1 ∧ C.2.2.2.2.2.2.2.2.2.2.2.2.1 = m.2.2.2.2.2.2.2.2.2.2.2.1 ∧ C.2.2.2.2.2.2.2.2.2.2.2.2.2.1 = m.2.2.2.2.2.2.2.2.2.2.2.2.1 ∧ C.2.2.2.2.2.2.2.2.2.2.2.2.2.2 = m.2.2.2.2.2.2.2.1
def rmJ (days lin rdn : Int32) (S H K O D : Nat → Int32) (m : Int32 × Int32 × Int32 × Int32 × Int32 × Int32 × Int32 × Int32 × (Nat → Int32) × (Nat → Int32) × (Nat → Int32) × (Nat → Int32) × (Nat → Int32) × (Nat → Int32) × (Nat → Int32) × (Nat → Int32) × (Nat → Int32) × (Nat → Int32)) : Prop :=
  (m.2.2.1 = days ∧ m.2.2.2.1 = lin ∧ m.2.2.2.2.2.2.2.2.1 = S ∧ m.2.2.2.2.2.2.2.2.2.1 = H ∧ m.2.2.2.2.2.2.2.2.2.2.1 = K ∧ m.2.2.2.2.2.2.2.2.2.2.2.1 = O ∧ m.2.2.2.2.2.2.2.2.2.2.2.2.1 = D ∧ m.2.2.2.2.2.2.2.1 = rdn) ∨
  ((0 ≤ m.2.2.1.toInt ∧ m.2.2.1.toInt ≤ 6 ∧ (1 ≤ m.2.2.2.1.toInt → 1 ≤ m.2.2.1.toInt)) ∧ (0 ≤ m.2.2.2.1.toInt ∧ m.2.2.2.1.toInt ≤ 5) ∧ (∀ j : Nat, 0 ≤ (m.2.2.2.2.2.2.2.2.2.1 j).toInt ∧ (m.2.2.2.2.2.2.2.2.2.1 j).toInt ≤ 9) ∧ (∀ j : Nat, 0 ≤ (m.2.2.2.2.2.2.2.2.2.2.2.2.1 j).toInt ∧ (m.2.2.2.2.2.2.2.2.2.2.2.2.1 j).toInt ≤ 9) ∧ (∀ j : Nat, vp_in (m.2.2.2.2.2.2.2.2.2.2.2.1 j) 4) ∧ (∀ j : Nat, 0 ≤ (m.2.2.2.2.2.2.2.2.1 j).toInt ∧ (m.2.2.2.2.2.2.2.2.1 j).toInt ≤ 9) ∧ (∀ j : Nat, 0 ≤ (m.2.2.2.2.2.2.2.2.2.2.1 j).toInt ∧ (m.2.2.2.2.2.2.2.2.2.2.1 j).toInt ≤ 2) ∧ m.2.2.2.2.2.2.2.1 = 0)
theorem eqf_realm {src : Option Nat} {tS tL tD tLn has lane len days lin rdn F k ln i n ra rds rls : Int32} {aSh : Nat} {A S H K O D mSz mLane mSh mRS mRH mRK mRO mRD : Nat → Int32} (hk : vp_in k 4) (h : SHK k.toNatClampNeg has lane len A mSz mLane mSh) (hS : r9 S) (hH : r9 H) (hK : ∀ j : Nat, 0 ≤ (K j).toInt ∧ (K j).toInt ≤ 2) (hO : ∀ j : Nat, vp_in (O j) 4) (hD : r9 D) :
    rmP (m_X7_realm_in src tS tL tD tLn aSh has lane len A days lin S H K O D rdn ln i n) (m_X8_realm F days lin ra rds rls rdn mSz mLane mSh S H K O D mRS mRH mRK mRO mRD k ln i n) ∧ rmJ days lin rdn S H K O D (m_X8_realm F days lin ra rds rls rdn mSz mLane mSh S H K O D mRS mRH mRK mRO mRD k ln i n) := by
  unfold m_X7_realm_in m_X8_realm
  rw [if_pos (noS_iff.mpr (vp_in_iff.mp hk))]
  by_cases c1 : 0 ≤ ln.toInt ∧ ln.toInt < 3
  · rw [if_neg (fun q => isB3_iff.mp q c1), if_neg (fun q => in2_iff.mp q c1)]
    rcases cb_eq (F := F) (ln := ln) (i := i) (n := n) hk h with ⟨f1, f2, f3, f4, f5, f6⟩ | ⟨f1, f2, f3, f4⟩
    · rw [if_pos f1, if_pos f2]
      have R : RC A mSh i ((60 : Int32) * k + i) n := ⟨f4, by omega, num_eq hk f3 f5 f6⟩
      have Q := rr_eq (rs := mRS) (rh := mRH) (rk := mRK) (ro := mRO) (rd := mRD) (td := tD) (tl := tLn) R
      obtain ⟨r, er⟩ : ∃ r, r = m_X8_readsRealm mSh mRS mRH mRK mRO mRD ((60 : Int32) * k + i) n := ⟨_, rfl⟩
      obtain ⟨f, ef⟩ : ∃ f, f = m_X3_firstFault tD tLn A i n := ⟨_, rfl⟩
      rw [← er, ← ef] at Q
      rw [← er, ← ef]
      rcases Q with ⟨q1, q2, q3⟩ | ⟨q1, q2, q3, q4, q5, q6, q7⟩
      · have e9 : ¬ f.1 = (-9 : Int32) := fun g => by rw [← q3, g] at q2; exact absurd q2 (by decide)
        rw [if_pos q1, if_neg e9, q3]
        exact ⟨⟨rfl, rfl, rfl, rfl, rfl, rfl, rfl, rfl, rfl, rfl⟩, Or.inl ⟨rfl, rfl, rfl, rfl, rfl, rfl, rfl, rfl⟩⟩
      · have M := fl_18 (ra := r.2.1) (d' := r.2.2.1) (l' := r.2.2.2.1) q4.2 q3.2 hH hK hO hD q7 q6 q5 (((4 : Int32).toInt - (0 : Int32).toInt).toNat + 1) 0 S (Nat.lt_succ_self _) (by decide) hS
        have g0 : f.1 = (-9 : Int32) := by rw [q2]
        have g1 : f.2.1 = r.2.2.1 := by rw [q2]
        have g2 : f.2.2 = r.2.2.2.1 := by rw [q2]
        rw [if_neg q1, if_pos g0, g1, g2]
        have E : m_X3_fill i n r.2.2.1 r.2.2.2.1 A S H K O D = m_X3_fill_18 (((4 : Int32).toInt - (0 : Int32).toInt).toNat + 1) i n r.2.2.1 r.2.2.2.1 A r.2.2.1 r.2.2.2.1 H K O D (0 : Int32) S := rfl
        rw [E]
        obtain ⟨⟨m1, m2, m3, m4, m5, m6, m7, m8, m9, m10⟩, n1, n2, n3, n4, n5, n6, n7⟩ := M
        refine ⟨⟨m1, m2.symm, m3, m4, m5, m6, m7, m8, m9, m10.symm⟩, Or.inr ⟨?_, ?_, n3, n4, n5, n6, n7, m10⟩⟩
        · rw [n1]; exact ⟨by omega, q3.2, fun _ => q3.1⟩
        · rw [n2]; exact ⟨by omega, q4.2⟩
    · rw [if_neg f1, if_neg f2]
      exact ⟨⟨f3, f4, rfl, rfl, rfl, rfl, rfl, rfl, rfl, rfl⟩, Or.inl ⟨rfl, rfl, rfl, rfl, rfl, rfl, rfl, rfl⟩⟩
  · rw [if_pos (isB3_iff.mpr c1), if_pos (in2_iff.mpr c1)]
    exact ⟨⟨rfl, rfl, rfl, rfl, rfl, rfl, rfl, rfl, rfl, rfl⟩, Or.inl ⟨rfl, rfl, rfl, rfl, rfl, rfl, rfl, rfl⟩⟩
theorem realm_out {days lin rdn F k ln i n ra rds rls : Int32} {S H K O D mSz mLane mSh mRS mRH mRK mRO mRD : Nat → Int32} (h : ¬ m_X8_noSheet k = 0) :
    m_X8_realm F days lin ra rds rls rdn mSz mLane mSh S H K O D mRS mRH mRK mRO mRD k ln i n = ((-1 : Int32), (0 : Int32), days, lin, ra, rds, rls, rdn, S, H, K, O, D, mRS, mRH, mRK, mRO, mRD) := by
  unfold m_X8_realm
  rw [if_neg h]; rfl
