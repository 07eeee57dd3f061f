theorem ite_P {α : Type} (P : α → Prop) {c : Prop} [Decidable c] {a b : α} (h1 : c → P a) (h2 : ¬ c → P b) : P (if c then a else b) := by
  by_cases h : c
  · rw [if_pos h]; exact h1 h
  · rw [if_neg h]; exact h2 h
def rlP (rl : Int32) (r : (Int32 × Int32 × Int32 × (Nat → Int32) × (Nat → Int32) × (Nat → Int32))) : Prop := (r.1 = 0 ∧ r.2.2.1 = rl) ∨ (r.1 = 1 ∧ r.2.2.1 = rl + 1 ∧ ¬ rl = (5 : Int32))
theorem rl_altP {ra rl : Int32} {sh rk ro rd : Nat → Int32} {frm n : Int32} : rlP rl (m_X8_readsLinen ra rl sh rk ro rd frm n) := by
  unfold m_X8_readsLinen
  refine ite_P (rlP rl) (fun c5 => Or.inl ⟨rfl, rfl⟩) (fun c5 => ?_)
  repeat' refine ite_P (rlP rl) (fun _ => ?_) (fun _ => ?_)
  all_goals first | exact Or.inl ⟨rfl, rfl⟩ | exact Or.inr ⟨rfl, rfl, c5⟩
theorem rl_alt {ra rl : Int32} {sh rk ro rd : Nat → Int32} {frm n : Int32} : ((m_X8_readsLinen ra rl sh rk ro rd frm n).1 = 0 ∧ (m_X8_readsLinen ra rl sh rk ro rd frm n).2.2.1 = rl) ∨ ((m_X8_readsLinen ra rl sh rk ro rd frm n).1 = 1 ∧ (m_X8_readsLinen ra rl sh rk ro rd frm n).2.2.1 = rl + 1 ∧ ¬ rl = (5 : Int32)) := rl_altP
def raP (r : (Int32 × Int32 × Int32 × (Nat → Int32) × (Nat → Int32) × (Nat → Int32))) : Prop := 0 ≤ r.2.1.toInt
theorem rl_ra {ra rl : Int32} {sh rk ro rd : Nat → Int32} {frm n : Int32} (h : 0 ≤ ra.toInt) : 0 ≤ (m_X8_readsLinen ra rl sh rk ro rd frm n).2.1.toInt := by
  show raP _
  unfold m_X8_readsLinen
  refine ite_P raP (fun c5 => h) (fun c5 => ?_)
  refine ite_P raP (fun c => ?_) (fun c => h)
  have h1 := code_up c (by decide) h
  refine ite_P raP (fun c2 => ?_) (fun _ => ite_P raP (fun c2 => ?_) (fun _ => ite_P raP (fun c2 => ?_) (fun _ => h1)))
  all_goals
    have h2 : 0 ≤ ((ra + (1 : Int32)) + (1 : Int32)).toInt := code_up c2 (by decide) h1
    have h3 := fig_ra (sh := sh) (frm := frm) (n := n) (most := (3 : Int32)) h2
    have h4 := fig_ra (sh := sh) (frm := frm) (n := n) (most := (9 : Int32)) h3
    clear c c2 c5
    iterate 4 (all_goals try with_reducible refine ite_P raP (fun _ => ?_) (fun _ => ?_))
    all_goals dsimp only [raP]
    all_goals first | with_reducible exact h4 | with_reducible exact h3
theorem rl_5 {ra rl : Int32} {sh rk ro rd : Nat → Int32} {frm n : Int32} (h : 0 ≤ rl.toInt ∧ rl.toInt ≤ 5) : 0 ≤ (m_X8_readsLinen ra rl sh rk ro rd frm n).2.2.1.toInt ∧ (m_X8_readsLinen ra rl sh rk ro rd frm n).2.2.1.toInt ≤ 5 := by
  rcases rl_alt (ra := ra) (rl := rl) (sh := sh) (rk := rk) (ro := ro) (rd := rd) (frm := frm) (n := n) with ⟨-, e⟩ | ⟨-, e, c⟩
  · rw [e]; exact h
  · rw [e]
    have h5 := vp_in_iff.mp (rl_in h c)
    rw [ti_add (by rw [ti_1]; omega) (by rw [ti_1]; omega), ti_1]
    omega
theorem rl_01 {ra rl : Int32} {sh rk ro rd : Nat → Int32} {frm n : Int32} : (m_X8_readsLinen ra rl sh rk ro rd frm n).1 = 0 ∨ (m_X8_readsLinen ra rl sh rk ro rd frm n).1 = 1 := by
  rcases rl_alt (ra := ra) (rl := rl) (sh := sh) (rk := rk) (ro := ro) (rd := rd) (frm := frm) (n := n) with ⟨e, -⟩ | ⟨e, -⟩
  · exact Or.inl e
  · exact Or.inr e
theorem rl_dec {y3 ra rl : Int32} {sh rk ro rd : Nat → Int32} {frm n : Int32} {fu : Nat} (h01 : y3 = 0 ∨ y3 = 1) (cy : ¬ y3 = 0) (h : 0 ≤ rl.toInt ∧ rl.toInt ≤ 5) (hm : (2 * (5 - rl.toInt) + y3.toInt).toNat < fu + 1) : (2 * (5 - (m_X8_readsLinen ra rl sh rk ro rd frm n).2.2.1.toInt) + (m_X8_readsLinen ra rl sh rk ro rd frm n).1.toInt).toNat < fu := by
  rw [rd_y h01 cy] at hm
  rcases rl_alt (ra := ra) (rl := rl) (sh := sh) (rk := rk) (ro := ro) (rd := rd) (frm := frm) (n := n) with ⟨e1, e⟩ | ⟨e1, e, c⟩
  · rw [e, e1, ti_0]; omega
  · have h5 := vp_in_iff.mp (rl_in h c)
    rw [e, e1, ti_add (by rw [ti_1]; omega) (by rw [ti_1]; omega), ti_1]
    omega
