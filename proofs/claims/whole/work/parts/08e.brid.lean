/-! both systems' guards and reads, in the same words -/
theorem isB_iff {v lim : Int32} : m_X7_isBelow v lim = 0 ↔ ¬ (0 ≤ v.toInt ∧ v.toInt < lim.toInt) := by
  unfold m_X7_isBelow
  by_cases h1 : v < 0
  · rw [if_pos h1]
    have a := lt_ti h1
    rw [ti_0] at a
    exact ⟨fun _ => by omega, fun _ => rfl⟩
  · rw [if_neg h1]
    have a := nlt_ti0 h1
    by_cases h2 : lim ≤ v
    · rw [if_pos h2]
      have b := le_ti h2
      exact ⟨fun _ => by omega, fun _ => rfl⟩
    · rw [if_neg h2]
      have b := nle_ti h2
      exact ⟨fun q => absurd q (by decide), fun q => absurd ⟨a, b⟩ q⟩
theorem hasE_iff {b t : Int32} : m_X2_hasEvenings b t = 0 ↔ ¬ (0 ≤ t.toInt ∧ t.toInt ≤ b.toInt) := by
  unfold m_X2_hasEvenings
  by_cases h1 : t < 0
  · rw [if_pos h1]
    have a := lt_ti h1
    rw [ti_0] at a
    exact ⟨fun _ => by omega, fun _ => rfl⟩
  · rw [if_neg h1]
    have a := nlt_ti0 h1
    by_cases h2 : b < t
    · rw [if_pos h2]
      have c := lt_ti h2
      exact ⟨fun _ => by omega, fun _ => rfl⟩
    · rw [if_neg h2]
      have c := nlt_ti h2
      exact ⟨fun q => absurd q (by decide), fun q => absurd ⟨a, c⟩ q⟩
theorem in_iff {v lo hi : Int64} : m_X8_in v lo hi = 0 ↔ ¬ (lo.toInt ≤ v.toInt ∧ v.toInt ≤ hi.toInt) :=
  ⟨in_eq, fun h => Classical.byContradiction fun c => h (in_ne c)⟩
theorem ite01 {p : Prop} [Decidable p] : ((if p then (1 : Int32) else (0 : Int32)) = 0) ↔ ¬ p := by
  by_cases h : p
  · rw [if_pos h]; exact ⟨fun q => absurd q (by decide), fun q => absurd h q⟩
  · rw [if_neg h]; exact ⟨fun _ => h, fun _ => rfl⟩
theorem noL_iff {b l : Int32} : m_X8_noLinen b l = 0 ↔ (0 ≤ l.toInt ∧ l.toInt < b.toInt) := by
  unfold m_X8_noLinen
  rw [ite01, in_iff, lim64, Int32.toInt_toInt64, t64_0, Classical.not_not]
  omega
theorem noD_iff {b l : Int32} : m_X8_noDay b l = 0 ↔ (0 ≤ l.toInt ∧ l.toInt < b.toInt) := by
  unfold m_X8_noDay
  rw [ite01, in_iff, lim64, Int32.toInt_toInt64, t64_0, Classical.not_not]
  omega
theorem noW_iff {w : Int32} : m_X8_noWeeper w = 0 ↔ (0 ≤ w.toInt ∧ w.toInt < 4) := by
  unfold m_X8_noWeeper
  rw [ite01, in_iff, Int32.toInt_toInt64, t64_0, show (3 : Int64).toInt = 3 by decide, Classical.not_not]
  omega
theorem noS_iff {w : Int32} : m_X8_noSheet w = 0 ↔ (0 ≤ w.toInt ∧ w.toInt < 4) := noW_iff
theorem in9_iff {v : Int32} : m_X8_in v.toInt64 (0 : Int64) (9 : Int64) = 0 ↔ ¬ (0 ≤ v.toInt ∧ v.toInt < 10) := by
  rw [in_iff, Int32.toInt_toInt64, t64_0, show (9 : Int64).toInt = 9 by decide]
  omega
theorem in2_iff {v : Int32} : m_X8_in v.toInt64 (0 : Int64) (2 : Int64) = 0 ↔ ¬ (0 ≤ v.toInt ∧ v.toInt < 3) := by
  rw [in_iff, Int32.toInt_toInt64, t64_0, show (2 : Int64).toInt = 2 by decide]
  omega
theorem inE_iff {t b : Int32} : m_X8_in t.toInt64 (0 : Int64) b.toInt64 = 0 ↔ ¬ (0 ≤ t.toInt ∧ t.toInt ≤ b.toInt) := by
  rw [in_iff, Int32.toInt_toInt64, Int32.toInt_toInt64, t64_0]
theorem isB4_iff {v : Int32} : m_X7_isBelow v (4 : Int32) = 0 ↔ ¬ (0 ≤ v.toInt ∧ v.toInt < 4) := by
  rw [isB_iff, show (4 : Int32).toInt = 4 by decide]
theorem isB3_iff {v : Int32} : m_X7_isBelow v (3 : Int32) = 0 ↔ ¬ (0 ≤ v.toInt ∧ v.toInt < 3) := by
  rw [isB_iff, show (3 : Int32).toInt = 3 by decide]
theorem isB10_iff {v : Int32} : m_X7_isBelow v (10 : Int32) = 0 ↔ ¬ (0 ≤ v.toInt ∧ v.toInt < 10) := by
  rw [isB_iff, show (10 : Int32).toInt = 10 by decide]
theorem hasL_iff {b l : Int32} : m_X2_hasLinen b l = 0 ↔ ¬ (0 ≤ l.toInt ∧ l.toInt < b.toInt) := isB_iff
theorem hasD_iff {b l : Int32} : m_X2_hasDay b l = 0 ↔ ¬ (0 ≤ l.toInt ∧ l.toInt < b.toInt) := isB_iff
theorem stands_iff {b : Int32} (h : 0 ≤ b.toInt) : m_X2_stands b = 0 ↔ b = 0 := by
  unfold m_X2_stands
  by_cases c : b ≤ 0
  · rw [if_pos c]
    have a := le_ti c
    rw [ti_0] at a
    exact ⟨fun _ => Int32.toInt_inj.mp (by rw [ti_0]; omega), fun _ => rfl⟩
  · rw [if_neg c]
    exact ⟨fun q => absurd q (by decide), fun q => absurd (by rw [q]; decide) c⟩
theorem at_in {n : Nat} {f : Nat → Int32} {x : Int32} (h0 : 0 ≤ x.toInt) (h1 : x.toInt < n) (hn : n < 2147483648) : m_X7_at n f x = f x.toNatClampNeg := by
  unfold m_X7_at
  rw [if_neg, if_neg]
  · intro c
    have := le_ti c
    rw [show (Int32.ofNat n).toInt = n from nI_toInt hn] at this
    omega
  · intro c
    have := lt_ti c
    rw [ti_0] at this
    omega
theorem set_in {n : Nat} {f : Nat → Int32} {x v : Int32} (h0 : 0 ≤ x.toInt) (h1 : x.toInt < n) (hn : n < 2147483648) : m_X7_set n f x v = upd f x.toNatClampNeg v := by
  unfold m_X7_set
  rw [if_neg, if_neg]
  · intro c
    have := le_ti c
    rw [show (Int32.ofNat n).toInt = n from nI_toInt hn] at this
    omega
  · intro c
    have := lt_ti c
    rw [ti_0] at this
    omega
theorem at5 {f : Nat → Int32} {x b : Int32} (h : 0 ≤ x.toInt ∧ x.toInt < b.toInt) (hb : b.toInt ≤ 5) : m_X7_at 5 f x = f x.toNatClampNeg := at_in h.1 (by omega) (by decide)
theorem set5 {f : Nat → Int32} {x b v : Int32} (h : 0 ≤ x.toInt ∧ x.toInt < b.toInt) (hb : b.toInt ≤ 5) : m_X7_set 5 f x v = upd f x.toNatClampNeg v := set_in h.1 (by omega) (by decide)
theorem at6 {f : Nat → Int32} {x b : Int32} (h : 0 ≤ x.toInt ∧ x.toInt < b.toInt) (hb : b.toInt ≤ 6) : m_X7_at 6 f x = f x.toNatClampNeg := at_in h.1 (by omega) (by decide)
theorem set6 {f : Nat → Int32} {x b v : Int32} (h : 0 ≤ x.toInt ∧ x.toInt < b.toInt) (hb : b.toInt ≤ 6) : m_X7_set 6 f x v = upd f x.toNatClampNeg v := set_in h.1 (by omega) (by decide)
theorem at4 {f : Nat → Int32} {x : Int32} (h : 0 ≤ x.toInt ∧ x.toInt < 4) : m_X7_at 4 f x = f x.toNatClampNeg := at_in h.1 (by omega) (by decide)
theorem set4 {f : Nat → Int32} {x v : Int32} (h : 0 ≤ x.toInt ∧ x.toInt < 4) : m_X7_set 4 f x v = upd f x.toNatClampNeg v := set_in h.1 (by omega) (by decide)
theorem eqf_heat {b x : Int32} {f : Nat → Int32} (hb : b.toInt ≤ 6) : m_X7_heat b f x = m_X8_heat b f x := by
  unfold m_X7_heat m_X8_heat
  by_cases h : 0 ≤ x.toInt ∧ x.toInt < b.toInt
  · rw [if_neg (fun q => hasD_iff.mp q h), if_pos (noD_iff.mpr h), at6 h hb]
  · rw [if_pos (hasD_iff.mpr h), if_neg (fun q => h (noD_iff.mp q))]
theorem eqf_ofLinen {b x w : Int32} {f g h : Nat → Int32} (hb : b.toInt ≤ 5) : m_X7_ofLinen b f g h x w = m_X8_ofLinen b f g h x w := by
  unfold m_X7_ofLinen m_X8_ofLinen
  by_cases c : 0 ≤ x.toInt ∧ x.toInt < b.toInt
  · rw [if_neg (fun q => hasL_iff.mp q c), if_pos (noL_iff.mpr c), at5 c hb, at5 c hb, at5 c hb]
  · rw [if_pos (hasL_iff.mpr c), if_neg (fun q => c (noL_iff.mp q))]
theorem eqf_warm {b x v : Int32} {f : Nat → Int32} (hb : b.toInt ≤ 6) : m_X7_warm b f x v = m_X8_warm b f x v := by
  unfold m_X7_warm m_X8_warm
  by_cases h : 0 ≤ x.toInt ∧ x.toInt < b.toInt
  · rw [if_neg (fun q => hasD_iff.mp q h), if_pos (noD_iff.mpr h)]
    by_cases c : 0 ≤ v.toInt ∧ v.toInt < 10
    · rw [if_neg (fun q => isB10_iff.mp q c), if_neg (fun q => in9_iff.mp q c)]
      unfold m_X7_exchange
      rw [at6 h hb, set6 h hb]
    · rw [if_pos (isB10_iff.mpr c), if_pos (in9_iff.mpr c)]
  · rw [if_pos (hasD_iff.mpr h), if_neg (fun q => h (noD_iff.mp q))]
theorem warm_9 {b x v : Int32} {f : Nat → Int32} (hf : ∀ j : Nat, 0 ≤ (f j).toInt ∧ (f j).toInt ≤ 9) : ∀ j : Nat, 0 ≤ ((m_X8_warm b f x v).2 j).toInt ∧ ((m_X8_warm b f x v).2 j).toInt ≤ 9 := by
  unfold m_X8_warm
  by_cases h : m_X8_noDay b x = 0
  · rw [if_pos h]
    by_cases c : m_X8_in v.toInt64 (0 : Int64) (9 : Int64) = 0
    · rw [if_pos c]; exact hf
    · rw [if_neg c]
      have := Classical.not_not.mp (fun q => c (in9_iff.mpr q))
      exact upd_all (P := fun x => 0 ≤ x.toInt ∧ x.toInt ≤ 9) hf ⟨this.1, by omega⟩
  · rw [if_neg h]; exact hf
theorem eqf_grieve {b x v : Int32} {f : Nat → Int32} (h0 : 0 ≤ b.toInt) : m_X7_grieve b f x v = m_X8_grieve b f x v := by
  unfold m_X7_grieve m_X8_grieve
  by_cases h : 0 ≤ x.toInt ∧ x.toInt < 4
  · rw [if_neg (fun q => isB4_iff.mp q h), if_pos (noW_iff.mpr h)]
    by_cases c : 0 ≤ v.toInt ∧ v.toInt < 10
    · rw [if_neg (fun q => isB10_iff.mp q c), if_neg (fun q => in9_iff.mp q c)]
      by_cases e : b = 0
      · rw [if_pos ((stands_iff h0).mpr e), if_pos e]
      · rw [if_neg (fun q => e ((stands_iff h0).mp q)), if_neg e]
        unfold m_X7_exchange
        rw [at4 h, set4 h]
    · rw [if_pos (isB10_iff.mpr c), if_pos (in9_iff.mpr c)]
  · rw [if_pos (isB4_iff.mpr h), if_neg (fun q => h (noW_iff.mp q))]
theorem grieve_9 {b x v : Int32} {f : Nat → Int32} (hf : ∀ j : Nat, 0 ≤ (f j).toInt ∧ (f j).toInt ≤ 9) : ∀ j : Nat, 0 ≤ ((m_X8_grieve b f x v).2 j).toInt ∧ ((m_X8_grieve b f x v).2 j).toInt ≤ 9 := by
  unfold m_X8_grieve
  by_cases h : m_X8_noWeeper x = 0
  · rw [if_pos h]
    by_cases c : m_X8_in v.toInt64 (0 : Int64) (9 : Int64) = 0
    · rw [if_pos c]; exact hf
    · rw [if_neg c]
      have := Classical.not_not.mp (fun q => c (in9_iff.mpr q))
      by_cases e : b = 0
      · rw [if_pos e]; exact hf
      · rw [if_neg e]
        exact upd_all (P := fun x => 0 ≤ x.toInt ∧ x.toInt ≤ 9) hf ⟨this.1, by omega⟩
  · rw [if_neg h]; exact hf
theorem eqf_give {b x w : Int32} {f : Nat → Int32} (hb : b.toInt ≤ 5) : m_X7_give b f x w = m_X8_give b f x w := by
  unfold m_X7_give m_X8_give
  by_cases h : 0 ≤ x.toInt ∧ x.toInt < b.toInt
  · rw [if_neg (fun q => hasL_iff.mp q h), if_pos (noL_iff.mpr h)]
    by_cases c : 0 ≤ w.toInt ∧ w.toInt < 4
    · rw [if_neg (fun q => isB4_iff.mp q c), if_pos (noW_iff.mpr c)]
      unfold m_X7_exchange
      rw [at5 h hb, set5 h hb]
    · rw [if_pos (isB4_iff.mpr c), if_neg (fun q => c (noW_iff.mp q))]
  · rw [if_pos (hasL_iff.mpr h), if_neg (fun q => h (noL_iff.mp q))]
theorem give_4 {b x w : Int32} {f : Nat → Int32} (hf : ∀ j : Nat, vp_in (f j) 4) : ∀ j : Nat, vp_in ((m_X8_give b f x w).2 j) 4 := by
  unfold m_X8_give
  by_cases h : m_X8_noLinen b x = 0
  · rw [if_pos h]
    by_cases c : m_X8_noWeeper w = 0
    · rw [if_pos c]; exact upd_all (P := fun x => vp_in x 4) hf (nw_ok c)
    · rw [if_neg c]; exact hf
  · rw [if_neg h]; exact hf
theorem eqf_back {b k : Int32} : m_X7_back b k = m_X8_back b k := by
  unfold m_X7_back m_X8_back
  by_cases h1 : k < 0
  · have a := lt_ti h1
    rw [ti_0] at a
    rw [if_pos h1, if_pos (inE_iff.mpr (by omega))]
  · have a := nlt_ti0 h1
    rw [if_neg h1]
    by_cases h2 : k ≤ b
    · have c := le_ti h2
      rw [if_pos h2, if_neg (fun q => inE_iff.mp q ⟨a, c⟩)]
    · have c := nle_ti h2
      rw [if_neg h2, if_pos (inE_iff.mpr (by omega))]
theorem eqf_as {b x w : Int32} {f : Nat → Int32} (hb : b.toInt ≤ 5) : m_X7_as b f x w = m_X8_as b f x w := by
  unfold m_X7_as m_X8_as
  by_cases h : 0 ≤ x.toInt ∧ x.toInt < b.toInt
  · rw [if_neg (fun q => hasL_iff.mp q h), if_pos (noL_iff.mpr h)]
    by_cases c : 0 ≤ w.toInt ∧ w.toInt < 3
    · rw [if_neg (fun q => isB3_iff.mp q c), if_neg (fun q => in2_iff.mp q c), at5 h hb]
      rfl
    · rw [if_pos (isB3_iff.mpr c), if_pos (in2_iff.mpr c)]
      rfl
  · rw [if_pos (hasL_iff.mpr h), if_neg (fun q => h (noL_iff.mp q))]
    rfl
theorem eqf_knot {b x t : Int32} {f : Nat → Int32} (hb : b.toInt ≤ 5) : m_X7_knot b f t x = m_X8_knot b t f x := by
  unfold m_X7_knot m_X8_knot
  by_cases h : 0 ≤ x.toInt ∧ x.toInt < b.toInt
  · rw [if_neg (fun q => hasL_iff.mp q h), if_pos (noL_iff.mpr h), at5 h hb]
    by_cases c : f x.toNatClampNeg = (2 : Int32)
    · rw [if_pos c, if_pos c, if_pos c]; rfl
    · rw [if_neg c, if_neg c, if_neg c]; rfl
  · rw [if_pos (hasL_iff.mpr h), if_neg (fun q => h (noL_iff.mp q))]
