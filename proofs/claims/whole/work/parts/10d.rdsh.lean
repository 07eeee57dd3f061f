theorem sub_ti {b k : Int32} (h0 : 0 ≤ k.toInt) (h1 : k.toInt ≤ b.toInt) : (b - k).toInt = b.toInt - k.toInt := by
  have a1 := ti_hi b
  exact ti_sub (by omega) (by omega)
theorem back_le {b k : Int32} (h0 : 0 ≤ b.toInt) : 0 ≤ (m_X8_back b k).2.toInt ∧ (m_X8_back b k).2.toInt ≤ b.toInt := by
  unfold m_X8_back
  by_cases c : 0 ≤ k.toInt ∧ k.toInt ≤ b.toInt
  · rw [if_neg (fun q => inE_iff.mp q c)]
    show 0 ≤ (b - k).toInt ∧ (b - k).toInt ≤ b.toInt
    rw [sub_ti c.1 c.2]
    omega
  · rw [if_pos (inE_iff.mpr c)]
    exact ⟨h0, Int.le_refl _⟩
theorem cnt8 {rc : Int32} (h0 : 0 ≤ rc.toInt) (h8 : rc.toInt ≤ 8) : (8 : Int32) ≤ rc ↔ rc = 8 := by
  have e8 : (8 : Int32).toInt = 8 := by decide
  constructor
  · intro h
    have := le_ti h
    exact Int32.toInt_inj.mp (by omega)
  · intro h
    rw [h]; decide
theorem set8 {f : Nat → Int32} {x v : Int32} (h : 0 ≤ x.toInt) (h1 : x.toInt < 8) : m_X7_set 8 f x v = upd f x.toNatClampNeg v := set_in h h1 (by decide)
theorem eqf_reading {b n rc l t v : Int32} {rL rE rD : Nat → Int32} (h0 : 0 ≤ rc.toInt) (h8 : rc.toInt ≤ 8) : m_X7_reading b n rc rL rE rD l t v = m_X8_reading b n rc rL rE rD l t v := by
  unfold m_X7_reading m_X8_reading
  by_cases h : 0 ≤ l.toInt ∧ l.toInt < n.toInt
  · rw [if_neg (fun q => hasL_iff.mp q h), if_pos (noL_iff.mpr h)]
    by_cases c : 0 ≤ t.toInt ∧ t.toInt ≤ b.toInt
    · rw [if_neg (fun q => hasE_iff.mp q c), if_neg (fun q => inE_iff.mp q c)]
      by_cases d : 0 ≤ v.toInt ∧ v.toInt < 10
      · rw [if_neg (fun q => isB10_iff.mp q d), if_neg (fun q => in9_iff.mp q d)]
        by_cases e : rc = 8
        · rw [if_pos ((cnt8 h0 h8).mpr e), if_pos e]
        · have h7 : rc.toInt < 8 := by
            rcases Int.lt_or_eq_of_le h8 with q | q
            · exact q
            · exact absurd (Int32.toInt_inj.mp (q.trans (by decide))) e
          rw [if_neg (fun q => e ((cnt8 h0 h8).mp q)), if_neg e]
          unfold m_X1_append
          rw [set8 h0 h7, set8 h0 h7, set8 h0 h7]
      · rw [if_pos (isB10_iff.mpr d), if_pos (in9_iff.mpr d)]
    · rw [if_pos (hasE_iff.mpr c), if_pos (inE_iff.mpr c)]
  · rw [if_pos (hasL_iff.mpr h), if_neg (fun q => h (noL_iff.mp q))]
def rdJ (b n : Int32) (r : Int32 × Int32 × (Nat → Int32) × (Nat → Int32) × (Nat → Int32)) : Prop :=
  (0 ≤ r.2.1.toInt ∧ r.2.1.toInt ≤ 8) ∧ (∀ j : Nat, vp_in (r.2.2.1 j) 5) ∧ (∀ j : Nat, 0 ≤ (r.2.2.2.1 j).toInt ∧ (r.2.2.2.1 j).toInt ≤ 6) ∧ (∀ j : Nat, (j : Int) < r.2.1.toInt → (r.2.2.2.1 j).toInt ≤ b.toInt ∧ (r.2.2.1 j).toInt < n.toInt)
theorem reading_I {b n rc l t v : Int32} {rL rE rD : Nat → Int32} (hb : b.toInt ≤ 6) (hn : n.toInt ≤ 5) (h : rdJ b n (0, rc, rL, rE, rD)) : rdJ b n (m_X8_reading b n rc rL rE rD l t v) := by
  obtain ⟨⟨h0, h8⟩, h1, h2, h3⟩ := id h
  dsimp only at h0 h8 h1 h2 h3
  unfold m_X8_reading
  refine ite_P (rdJ b n) (fun c1 => ite_P (rdJ b n) (fun _ => h) (fun c2 => ite_P (rdJ b n) (fun _ => h) (fun c3 => ite_P (rdJ b n) (fun _ => h) (fun c4 => ?_)))) (fun _ => h)
  have a1 := noL_iff.mp c1
  have a2 := Classical.not_not.mp (fun q => c2 (inE_iff.mpr q))
  have h7 : rc.toInt < 8 := by
    rcases Int.lt_or_eq_of_le h8 with q | q
    · exact q
    · exact absurd (Int32.toInt_inj.mp (q.trans (by decide))) c4
  have e1 : (rc + (1 : Int32)).toInt = rc.toInt + 1 := by rw [ti_add (by rw [ti_1]; omega) (by rw [ti_1]; omega), ti_1]
  have ej := tnc h0
  refine ⟨⟨?_, ?_⟩, upd_all (P := fun x => vp_in x 5) h1 (vl5 a1 hn), upd_all (P := fun x => 0 ≤ x.toInt ∧ x.toInt ≤ 6) h2 ⟨a2.1, by omega⟩, fun j hj => ?_⟩
  · dsimp only; omega
  · dsimp only; omega
  · dsimp only at hj ⊢
    by_cases e : j = rc.toNatClampNeg
    · subst e
      rw [pk_us, pk_us]
      exact ⟨a2.2, a1.2⟩
    · rw [pk_un e, pk_un e]
      exact h3 j (by omega)
/-! sheets -/
theorem shr_len {has lane len : Int32} {A : Nat → Int32} {sz ln : Int32} {B : Nat → Int32} (h : shr has lane len A sz ln B) : 0 ≤ len.toInt ∧ len.toInt ≤ 60 := ⟨h.1.1, h.1.2.1⟩
theorem shr_has {has lane len : Int32} {A : Nat → Int32} {sz ln : Int32} {B : Nat → Int32} (h : shr has lane len A sz ln B) : (has = 0 ↔ sz < 0) ∧ (has = 0 ∨ has = 1) := by
  rcases h.2 with ⟨a, e⟩ | ⟨a, e, -⟩
  · exact ⟨⟨fun _ => a, fun _ => e⟩, Or.inl e⟩
  · refine ⟨⟨fun q => absurd (q.symm.trans e) (by decide), fun q => ?_⟩, Or.inr e⟩
    have := lt_ti q
    rw [ti_0] at this
    omega
theorem shr_lose {has lane len : Int32} {A : Nat → Int32} {sz ln : Int32} {B : Nat → Int32} (h : shr has lane len A sz ln B) : shr (0 : Int32) lane len A (-1 : Int32) ln B := ⟨⟨h.1.1, h.1.2.1, by decide⟩, Or.inl ⟨by decide, rfl⟩⟩
theorem le0_nlt {x : Int32} : 0 ≤ x ↔ ¬ x < 0 := by
  rw [Int32.not_lt]
theorem eqf_lose {has lane len : Int32} {A : Nat → Int32} {ln : Int32} {B : Nat → Int32} {mSz : Nat → Int32} {k : Int32} (hk : vp_in k 4) (h : shr has lane len A (mSz k.toNatClampNeg) ln B) : (m_X7_lose_in has).1 = (m_X8_lose mSz k).1 ∧ (m_X8_lose mSz k).2 = upd mSz k.toNatClampNeg (-1 : Int32) := by
  have a := shr_has h
  unfold m_X7_lose_in m_X8_lose
  rw [if_pos (noS_iff.mpr (vp_in_iff.mp hk))]
  refine ⟨?_, rfl⟩
  by_cases c : mSz k.toNatClampNeg < 0
  · show (if has = 0 then (0 : Int32) else (1 : Int32)) = (if 0 ≤ mSz k.toNatClampNeg then (1 : Int32) else (0 : Int32))
    rw [if_pos (a.1.mpr c), if_neg (fun q => le0_nlt.mp q c)]
  · show (if has = 0 then (0 : Int32) else (1 : Int32)) = (if 0 ≤ mSz k.toNatClampNeg then (1 : Int32) else (0 : Int32))
    rw [if_neg (fun q => c (a.1.mp q)), if_pos (le0_nlt.mpr c)]
theorem eqf_lose_o {mSz : Nat → Int32} {k : Int32} (h : ∀ f : Nat → Option Nat, m_X7_sheetOf f k = none) : m_X8_lose mSz k = ((-1 : Int32), mSz) := by
  unfold m_X8_lose
  rw [if_neg]
  intro c
  have a := noS_iff.mp c
  have b := h (fun _ => some 0)
  unfold m_X7_sheetOf at b
  rw [if_neg (fun q => by have := lt_ti q; rw [ti_0] at this; omega), if_neg (fun q => by have := le_ti q; rw [show (4 : Int32).toInt = 4 by decide] at this; omega)] at b
  exact absurd b (by simp)
