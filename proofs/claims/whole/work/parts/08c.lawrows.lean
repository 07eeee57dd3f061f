def LawX (X : gX) (b L : Nat) (xs : Nat → Int32) : Prop := match X with
  | (_, _, _, _, s, _, _, _, _, _, _, A, _, _) => va_X b L xs s s.heap ∧ b < s.heap.size ∧ ¬ A b
def LawQ (X : gX) (b : Nat) : Prop := match X with
  | (_, _, _, R, s, _, args, below, meth, _, Q, A, k, n) => Q = lw_Z below #[Value.ref b] s ∧ args = #[Value.ref b] ∧ A = (fun q : Nat => s.heap.size ≤ q) ∧ R = room_1 ∧ meth.locks = false ∧ k ≤ 600000 ∧ n ≤ 7302250
section GL
variable {X : gX} {cc : ByteArray} {nL : Nat} {own : String} {Ts : List Cond} {D : va_G} {tys : List (ClassId × FieldType)} {rm : Room} {rt : Option FieldType} {ws : va_W} {lv lv' : List (Nat × Value)} {pc q : Nat} {st : List Value} {b L : Nat} {xs : Nat → Int32}
theorem g_sld (hC : Cx X cc nL own Ts D tys rm rt) (hlx : LawX X b L xs) {i v : Int32} (hin : vp_in i L) (hv : xs i.toNatClampNeg = v) (hdg : decode cc pc = .ok (.iaload, 1)) (hq : pc + 1 = q) (kk : G X D nL ws lv q (.int v :: st)) : G X D nL ws lv pc (.int i :: .ref b :: st) := by
  obtain ⟨p, l, e, R, s, m, args, below, meth, c, Q, A, k0, n0⟩ := X
  obtain ⟨hx, hb, hml, hown, hts, hK, hA, hN, hR, hret, hk0, hn0⟩ := hC
  obtain ⟨h1, h2, h3⟩ := hlx
  subst hq
  subst hv
  exact fun H locs ls hP hD hS hl => va_sld hx hb h1 h2 h3 hS hin hdg (kk H locs ls hP hD hS hl)
theorem g_slen (hC : Cx X cc nL own Ts D tys rm rt) (hlx : LawX X b L xs) (hdg : decode cc pc = .ok (.arraylength, 1)) (hq : pc + 1 = q) (kk : G X D nL ws lv q (.int (Int32.ofNat L) :: st)) : G X D nL ws lv pc (.ref b :: st) := by
  obtain ⟨p, l, e, R, s, m, args, below, meth, c, Q, A, k0, n0⟩ := X
  obtain ⟨hx, hb, hml, hown, hts, hK, hA, hN, hR, hret, hk0, hn0⟩ := hC
  obtain ⟨h1, h2, h3⟩ := hlx
  subst hq
  exact fun H locs ls hP hD hS hl => va_slen hx hb h1 h2 h3 hS hdg (kk H locs ls hP hD hS hl)
theorem g_lawret (hC : Cx X code nL own Ts D tys rm (some .boolean)) (hQ : LawQ X b) (hdg : decode code pc = .ok (.ireturn, 1)) : G X D nL ws lv pc [.int 1] := by
  obtain ⟨p, l, e, R, s, m, args, below, meth, c, Q, A, k0, n0⟩ := X
  obtain ⟨hx, hb, hml, hown, hts, hK, hA, hN, hR, hret, hk0, hn0⟩ := hC
  obtain ⟨rfl, rfl, rfl, rfl, hlocks, h1, h2⟩ := hQ
  exact fun H locs ls hP hD hS hl => va_forget (fun q hq => hS.2.2 q hq) (W.widen h1 h2 (lw_ret hx hb hret hlocks hdg))
end GL
def rowsAt (f : Nat → Option Nat) (a b c d : Nat) : Prop := f 0 = some a ∧ f 1 = some b ∧ f 2 = some c ∧ f 3 = some d
theorem sheetOf_k {f : Nat → Option Nat} {a : Nat} {k : Int32} {n : Nat} (h : f n = some a) (h0 : ¬ k < 0) (h4 : ¬ (4 : Int32) ≤ k) (hn : k.toNatClampNeg = n) : m_X7_sheetOf f k = some a := by
  unfold m_X7_sheetOf
  rw [if_neg h0, if_neg h4, hn]
  exact h
theorem sheetOf_0 {f : Nat → Option Nat} {a : Nat} {k : Int32} (h : f 0 = some a) (hk : k = (0 : Int32)) : m_X7_sheetOf f k = some a := by subst hk; exact sheetOf_k h (by decide) (by decide) (by decide)
theorem sheetOf_1 {f : Nat → Option Nat} {a : Nat} {k : Int32} (h : f 1 = some a) (hk : k = (1 : Int32)) : m_X7_sheetOf f k = some a := by subst hk; exact sheetOf_k h (by decide) (by decide) (by decide)
theorem sheetOf_2 {f : Nat → Option Nat} {a : Nat} {k : Int32} (h : f 2 = some a) (hk : k = (2 : Int32)) : m_X7_sheetOf f k = some a := by subst hk; exact sheetOf_k h (by decide) (by decide) (by decide)
theorem sheetOf_3 {f : Nat → Option Nat} {a : Nat} {k : Int32} (h : f 3 = some a) (hk : k = (3 : Int32)) : m_X7_sheetOf f k = some a := by subst hk; exact sheetOf_k h (by decide) (by decide) (by decide)
theorem sh_cases (k : Int32) : k = (0 : Int32) ∨ k = (1 : Int32) ∨ k = (2 : Int32) ∨ k = (3 : Int32) ∨ ∀ f : Nat → Option Nat, m_X7_sheetOf f k = none := by
  by_cases h0 : k < 0
  · exact Or.inr (Or.inr (Or.inr (Or.inr fun f => by unfold m_X7_sheetOf; rw [if_pos h0])))
  · by_cases h4 : (4 : Int32) ≤ k
    · exact Or.inr (Or.inr (Or.inr (Or.inr fun f => by unfold m_X7_sheetOf; rw [if_neg h0, if_pos h4])))
    · have a1 := nlt_ti0 h0
      have a2 := nle_ti h4
      rw [show (4 : Int32).toInt = 4 by decide] at a2
      rcases (show k.toInt = 0 ∨ k.toInt = 1 ∨ k.toInt = 2 ∨ k.toInt = 3 by omega) with e | e | e | e
      · exact Or.inl (Int32.toInt_inj.mp (e.trans (by decide)))
      · exact Or.inr (Or.inl (Int32.toInt_inj.mp (e.trans (by decide))))
      · exact Or.inr (Or.inr (Or.inl (Int32.toInt_inj.mp (e.trans (by decide)))))
      · exact Or.inr (Or.inr (Or.inr (Or.inl (Int32.toInt_inj.mp (e.trans (by decide))))))
theorem hk_o {k : Int32} (h : ∀ f : Nat → Option Nat, m_X7_sheetOf f k = none) (f : Nat → Option Nat) : m_X7_sheetOf f k = none := h f
theorem lw_in {y : Int32} {L : Nat} (hL : L ≤ 3072) (h0 : 0 ≤ y.toInt) (c : ¬ (Int32.ofNat L - (6 : Int32)) < y) (n : Int32) (hn : 0 ≤ n.toInt) (hn6 : n.toInt ≤ 6) : (y + n).toInt = y.toInt + n.toInt ∧ y.toInt + 6 ≤ L := by
  have h1 := nlt_ti c
  have e6 : (6 : Int32).toInt = 6 := by decide
  have eL : (Int32.ofNat L).toInt = L := nI_toInt (by omega)
  rw [ti_sub (by rw [e6, eL]; omega) (by rw [e6, eL]; omega), e6, eL] at h1
  exact ⟨ti_add (by omega) (by omega), by omega⟩
theorem lw_b {y : Int32} {L : Nat} (hL : L ≤ 3072) (h0 : 0 ≤ y.toInt) (c : ¬ (Int32.ofNat L - (6 : Int32)) < y) (n : Int32) (hn : 0 ≤ n.toInt) (hn6 : n.toInt < 6) : vp_in (y + n) L := by
  obtain ⟨h1, h2⟩ := lw_in hL h0 c n hn (by omega)
  exact vp_in_iff.mpr ⟨by omega, by omega⟩
theorem lw_b0 {y : Int32} {L : Nat} (hL : L ≤ 3072) (h0 : 0 ≤ y.toInt) (c : ¬ (Int32.ofNat L - (6 : Int32)) < y) : vp_in y L := by
  obtain ⟨h1, h2⟩ := lw_in hL h0 c 0 (by decide) (by decide)
  exact vp_in_iff.mpr ⟨by omega, by omega⟩
theorem sw_out31 {x : Int32} (h : ∀ j : Nat, j < 31 → ¬ x = nI j) : x.toInt < 0 ∨ 30 < x.toInt := by
  refine Classical.byContradiction fun c => ?_
  obtain ⟨j, hj, e⟩ := vp_in_of (x := x) (n := 31) (vp_in_iff.mpr ⟨by omega, by omega⟩) (by decide)
  exact h j hj e
