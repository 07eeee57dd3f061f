def m_X6_isAsked (what : Int32) : (Int32) := (if what < 0 then (if what < (10 : Int32) then (if what < (20 : Int32) then (0 : Int32) else (if (24 : Int32) ≤ what then (0 : Int32) else (1 : Int32))) else (if what < (15 : Int32) then (1 : Int32) else (if what < (20 : Int32) then (0 : Int32) else (if (24 : Int32) ≤ what then (0 : Int32) else (1 : Int32))))) else (if what ≤ (3 : Int32) then (1 : Int32) else (if what < (10 : Int32) then (if what < (20 : Int32) then (0 : Int32) else (if (24 : Int32) ≤ what then (0 : Int32) else (1 : Int32))) else (if what < (15 : Int32) then (1 : Int32) else (if what < (20 : Int32) then (0 : Int32) else (if (24 : Int32) ≤ what then (0 : Int32) else (1 : Int32)))))))
set_option maxRecDepth 100000 in
set_option maxHeartbeats 4000000 in
theorem c_X6_isAsked (D : va_G) (cI : ClassId) (what : Int32) : MC yX6_isAsked wsX6_isAsked ({ frames := 0, cells := 0, slots := 0, locals := 0 } : Room) D [(cI, .int)] [.int what] [] (some (.int (m_X6_isAsked what))) [] := by
  refine g_entry (by decide) rfl rfl rfl rfl (Nat.le_of_ble_eq_true rfl) (lv := [(0, .int what)]) rfl ?_
  intro X hC hX
  obtain ⟨res, hres⟩ : ∃ z, z = (m_X6_isAsked what) := ⟨_, rfl⟩
  rw [← hres] at hX
  rw [m_X6_isAsked] at hres
  refine g_iload_n hC dX6_isAsked_0 rfl 0 rfl rfl ?_
  refine g_if_lt (tgt := 9) hC dX6_isAsked_1 (by decide) rfl (fun c_1 => ?_) (fun c_1 => ?_)
  · rw [if_pos c_1] at hres
    refine g_iload_n hC dX6_isAsked_9 rfl 0 rfl rfl ?_
    refine g_bipush (v := 10) hC dX6_isAsked_10 (by decide) rfl ?_
    refine g_icmp_lt (tgt := 21) hC dX6_isAsked_12 (by decide) rfl (fun c_12 => ?_) (fun c_12 => ?_)
    · rw [if_pos c_12] at hres
      refine g_iload_n hC dX6_isAsked_21 rfl 0 rfl rfl ?_
      refine g_bipush (v := 20) hC dX6_isAsked_22 (by decide) rfl ?_
      refine g_icmp_lt (tgt := 37) hC dX6_isAsked_24 (by decide) rfl (fun c_24 => ?_) (fun c_24 => ?_)
      · rw [if_pos c_24] at hres
        refine g_iconst (v := 0) hC dX6_isAsked_37 (by decide) rfl ?_
        subst hres
        exact g_zret hC hX rfl rfl dX6_isAsked_38 rfl rfl
      · rw [if_neg c_24] at hres
        refine g_iload_n hC dX6_isAsked_27 rfl 0 rfl rfl ?_
        refine g_bipush (v := 24) hC dX6_isAsked_28 (by decide) rfl ?_
        refine g_icmp_ge (tgt := 37) hC dX6_isAsked_30 (by decide) rfl (fun c_30 => ?_) (fun c_30 => ?_)
        · rw [if_pos c_30] at hres
          refine g_iconst (v := 0) hC dX6_isAsked_37 (by decide) rfl ?_
          subst hres
          exact g_zret hC hX rfl rfl dX6_isAsked_38 rfl rfl
        · rw [if_neg c_30] at hres
          refine g_iconst (v := 1) hC dX6_isAsked_33 (by decide) rfl ?_
          refine g_goto (tgt := 38) hC dX6_isAsked_34 (by decide) ?_
          subst hres
          exact g_zret hC hX rfl rfl dX6_isAsked_38 rfl rfl
    · rw [if_neg c_12] at hres
      refine g_iload_n hC dX6_isAsked_15 rfl 0 rfl rfl ?_
      refine g_bipush (v := 15) hC dX6_isAsked_16 (by decide) rfl ?_
      refine g_icmp_lt (tgt := 33) hC dX6_isAsked_18 (by decide) rfl (fun c_18 => ?_) (fun c_18 => ?_)
      · rw [if_pos c_18] at hres
        refine g_iconst (v := 1) hC dX6_isAsked_33 (by decide) rfl ?_
        refine g_goto (tgt := 38) hC dX6_isAsked_34 (by decide) ?_
        subst hres
        exact g_zret hC hX rfl rfl dX6_isAsked_38 rfl rfl
      · rw [if_neg c_18] at hres
        refine g_iload_n hC dX6_isAsked_21 rfl 0 rfl rfl ?_
        refine g_bipush (v := 20) hC dX6_isAsked_22 (by decide) rfl ?_
        refine g_icmp_lt (tgt := 37) hC dX6_isAsked_24 (by decide) rfl (fun c_24 => ?_) (fun c_24 => ?_)
        · rw [if_pos c_24] at hres
          refine g_iconst (v := 0) hC dX6_isAsked_37 (by decide) rfl ?_
          subst hres
          exact g_zret hC hX rfl rfl dX6_isAsked_38 rfl rfl
        · rw [if_neg c_24] at hres
          refine g_iload_n hC dX6_isAsked_27 rfl 0 rfl rfl ?_
          refine g_bipush (v := 24) hC dX6_isAsked_28 (by decide) rfl ?_
          refine g_icmp_ge (tgt := 37) hC dX6_isAsked_30 (by decide) rfl (fun c_30 => ?_) (fun c_30 => ?_)
          · rw [if_pos c_30] at hres
            refine g_iconst (v := 0) hC dX6_isAsked_37 (by decide) rfl ?_
            subst hres
            exact g_zret hC hX rfl rfl dX6_isAsked_38 rfl rfl
          · rw [if_neg c_30] at hres
            refine g_iconst (v := 1) hC dX6_isAsked_33 (by decide) rfl ?_
            refine g_goto (tgt := 38) hC dX6_isAsked_34 (by decide) ?_
            subst hres
            exact g_zret hC hX rfl rfl dX6_isAsked_38 rfl rfl
  · rw [if_neg c_1] at hres
    refine g_iload_n hC dX6_isAsked_4 rfl 0 rfl rfl ?_
    refine g_iconst (v := 3) hC dX6_isAsked_5 (by decide) rfl ?_
    refine g_icmp_le (tgt := 33) hC dX6_isAsked_6 (by decide) rfl (fun c_6 => ?_) (fun c_6 => ?_)
    · rw [if_pos c_6] at hres
      refine g_iconst (v := 1) hC dX6_isAsked_33 (by decide) rfl ?_
      refine g_goto (tgt := 38) hC dX6_isAsked_34 (by decide) ?_
      subst hres
      exact g_zret hC hX rfl rfl dX6_isAsked_38 rfl rfl
    · rw [if_neg c_6] at hres
      refine g_iload_n hC dX6_isAsked_9 rfl 0 rfl rfl ?_
      refine g_bipush (v := 10) hC dX6_isAsked_10 (by decide) rfl ?_
      refine g_icmp_lt (tgt := 21) hC dX6_isAsked_12 (by decide) rfl (fun c_12 => ?_) (fun c_12 => ?_)
      · rw [if_pos c_12] at hres
        refine g_iload_n hC dX6_isAsked_21 rfl 0 rfl rfl ?_
        refine g_bipush (v := 20) hC dX6_isAsked_22 (by decide) rfl ?_
        refine g_icmp_lt (tgt := 37) hC dX6_isAsked_24 (by decide) rfl (fun c_24 => ?_) (fun c_24 => ?_)
        · rw [if_pos c_24] at hres
          refine g_iconst (v := 0) hC dX6_isAsked_37 (by decide) rfl ?_
          subst hres
          exact g_zret hC hX rfl rfl dX6_isAsked_38 rfl rfl
        · rw [if_neg c_24] at hres
          refine g_iload_n hC dX6_isAsked_27 rfl 0 rfl rfl ?_
          refine g_bipush (v := 24) hC dX6_isAsked_28 (by decide) rfl ?_
          refine g_icmp_ge (tgt := 37) hC dX6_isAsked_30 (by decide) rfl (fun c_30 => ?_) (fun c_30 => ?_)
          · rw [if_pos c_30] at hres
            refine g_iconst (v := 0) hC dX6_isAsked_37 (by decide) rfl ?_
            subst hres
            exact g_zret hC hX rfl rfl dX6_isAsked_38 rfl rfl
          · rw [if_neg c_30] at hres
            refine g_iconst (v := 1) hC dX6_isAsked_33 (by decide) rfl ?_
            refine g_goto (tgt := 38) hC dX6_isAsked_34 (by decide) ?_
            subst hres
            exact g_zret hC hX rfl rfl dX6_isAsked_38 rfl rfl
      · rw [if_neg c_12] at hres
        refine g_iload_n hC dX6_isAsked_15 rfl 0 rfl rfl ?_
        refine g_bipush (v := 15) hC dX6_isAsked_16 (by decide) rfl ?_
        refine g_icmp_lt (tgt := 33) hC dX6_isAsked_18 (by decide) rfl (fun c_18 => ?_) (fun c_18 => ?_)
        · rw [if_pos c_18] at hres
          refine g_iconst (v := 1) hC dX6_isAsked_33 (by decide) rfl ?_
          refine g_goto (tgt := 38) hC dX6_isAsked_34 (by decide) ?_
          subst hres
          exact g_zret hC hX rfl rfl dX6_isAsked_38 rfl rfl
        · rw [if_neg c_18] at hres
          refine g_iload_n hC dX6_isAsked_21 rfl 0 rfl rfl ?_
          refine g_bipush (v := 20) hC dX6_isAsked_22 (by decide) rfl ?_
          refine g_icmp_lt (tgt := 37) hC dX6_isAsked_24 (by decide) rfl (fun c_24 => ?_) (fun c_24 => ?_)
          · rw [if_pos c_24] at hres
            refine g_iconst (v := 0) hC dX6_isAsked_37 (by decide) rfl ?_
            subst hres
            exact g_zret hC hX rfl rfl dX6_isAsked_38 rfl rfl
          · rw [if_neg c_24] at hres
            refine g_iload_n hC dX6_isAsked_27 rfl 0 rfl rfl ?_
            refine g_bipush (v := 24) hC dX6_isAsked_28 (by decide) rfl ?_
            refine g_icmp_ge (tgt := 37) hC dX6_isAsked_30 (by decide) rfl (fun c_30 => ?_) (fun c_30 => ?_)
            · rw [if_pos c_30] at hres
              refine g_iconst (v := 0) hC dX6_isAsked_37 (by decide) rfl ?_
              subst hres
              exact g_zret hC hX rfl rfl dX6_isAsked_38 rfl rfl
            · rw [if_neg c_30] at hres
              refine g_iconst (v := 1) hC dX6_isAsked_33 (by decide) rfl ?_
              refine g_goto (tgt := 38) hC dX6_isAsked_34 (by decide) ?_
              subst hres
              exact g_zret hC hX rfl rfl dX6_isAsked_38 rfl rfl
def m_X6_areActs_3 : Nat → Int32 → (Nat → Int32) → Int32 → Int32 → Int32 → (Int32)
  | 0, _, _, _, _, _ => default
  | fu + 1, cLin, sA, i, n, y5 => (if n ≤ y5 then (1 : Int32) else (if (m_X7_isBelow (m_X4_number sA (i + y5)) (40 : Int32)) = 0 then (if (m_X4_number sA (i + y5)) = (40 : Int32) then (m_X6_areActs_3 fu cLin sA i n (y5 + 1)) else (if (0 : Int32) = 0 then (0 : Int32) else (m_X6_areActs_3 fu cLin sA i n (y5 + 1)))) else (if (m_X4_number sA (i + y5)) = (40 : Int32) then (m_X6_areActs_3 fu cLin sA i n (y5 + 1)) else (if (if (m_X2_hasLinen cLin ((m_X4_number sA (i + y5)) - (m_X4_number sA (i + y5)) / (10 : Int32) * (10 : Int32))) = 0 then (0 : Int32) else (1 : Int32)) = 0 then (0 : Int32) else (m_X6_areActs_3 fu cLin sA i n (y5 + 1))))))
def m_X6_areActs (cLin : Int32) (sA : Nat → Int32) (i : Int32) (n : Int32) : (Int32) := (m_X6_areActs_3 ((n.toInt - (0 : Int32).toInt).toNat + 1) cLin sA i n (0 : Int32))
set_option maxRecDepth 100000 in
set_option maxHeartbeats 4000000 in
theorem l_X6_areActs_3 {X : gX} (D : va_G) (cI : ClassId) (aRE : Nat) (aReS : Nat) (aReH : Nat) (aReK : Nat) (aReO : Nat) (aReD : Nat) (cDays : Int32) (cLin : Int32) (aSh : Nat) (aShA : Nat) (sHas : Int32) (sLane : Int32) (sLen : Int32) (sA : Nat → Int32) (aTh : Nat) (i : Int32) (n : Int32) (hC : Cx X cX6_areActs 8 RX6 wsX6_areActs D [(cI, .int)] ({ frames := 2, cells := 0, slots := 0, locals := 42 } : Room) (some .boolean)) {res : (Int32)} (hX : Rx X D (some (.int res)) [(aRE, .inr (2, [.ref aReS, .ref aReH, .ref aReK, .ref aReO, .ref aReD, .int cDays, .int cLin])), (aSh, .inr (4, [.ref aShA, .int sHas, .int sLane, .int sLen])), (aShA, .inl (cI, 60, .inl sA))]) : ∀ (fu : Nat) (y5 : Int32) (hm : (n.toInt - y5.toInt).toNat < fu) (h0_y5 : 0 ≤ y5.toInt) (hres : res = m_X6_areActs_3 fu cLin sA i n y5), G X D 8 [(aRE, .inr (2, [.ref aReS, .ref aReH, .ref aReK, .ref aReO, .ref aReD, .int cDays, .int cLin])), (aSh, .inr (4, [.ref aShA, .int sHas, .int sLane, .int sLen])), (aShA, .inl (cI, 60, .inl sA))] [(1, .ref aRE), (2, .ref aSh), (3, .int i), (4, .int n), (5, .int y5)] 3 [] := by
  intro fu
  induction fu with
  | zero =>
    intro y5 hm
    exact absurd hm (Nat.not_lt_zero _)
  | succ fu ih =>
    intro y5 hm h0_y5 hres
    rw [m_X6_areActs_3] at hres
    refine g_iload hC dX6_areActs_3 4 rfl rfl ?_
    refine g_iload hC dX6_areActs_5 3 rfl rfl ?_
    refine g_icmp_ge (tgt := 69) hC dX6_areActs_7 (by decide) rfl (fun c_7 => ?_) (fun c_7 => ?_)
    · rw [if_pos c_7] at hres
      refine g_iconst (v := 1) hC dX6_areActs_69 (by decide) rfl ?_
      subst hres
      exact g_zret hC hX rfl rfl dX6_areActs_70 rfl rfl
    · rw [if_neg c_7] at hres
      refine g_aload_n hC dX6_areActs_10 rfl 1 rfl rfl ?_
      refine g_iload_n hC dX6_areActs_11 rfl 2 rfl rfl ?_
      refine g_iload hC dX6_areActs_12 4 rfl rfl ?_
      refine g_iadd hC dX6_areActs_14 rfl ?_
      refine g_callV (ws' := [(aRE, .inr (2, [.ref aReS, .ref aReH, .ref aReK, .ref aReO, .ref aReD, .int cDays, .int cLin])), (aSh, .inr (4, [.ref aShA, .int sHas, .int sLane, .int sLen])), (aShA, .inl (cI, 60, .inl sA))]) (st' := [.int (m_X4_number sA (i + y5))]) (nw := 3) (n1 := 2) hC gX6_areActs_X4_number hdV_yX4_number 1 rfl rfl (As := [.int (i + y5)]) (rest := []) (c_X4_number D cI aSh aShA sHas sLane sLen sA (i + y5)) rfl ⟨by decide, by decide⟩ rfl [1, 2] [0] [0, 1, 2] [0] rfl rfl rfl rfl (by decide) rfl rfl (Nat.le_of_ble_eq_true rfl) dX6_areActs_15 rfl rfl ?_
      refine g_istore (lv' := [(6, .int (m_X4_number sA (i + y5))), (1, .ref aRE), (2, .ref aSh), (3, .int i), (4, .int n), (5, .int y5)]) hC dX6_areActs_18 (by decide) rfl rfl ?_
      refine g_iload hC dX6_areActs_20 0 rfl rfl ?_
      refine g_bipush (v := 40) hC dX6_areActs_22 (by decide) rfl ?_
      refine g_callN (ws' := [(aRE, .inr (2, [.ref aReS, .ref aReH, .ref aReK, .ref aReO, .ref aReD, .int cDays, .int cLin])), (aSh, .inr (4, [.ref aShA, .int sHas, .int sLane, .int sLen])), (aShA, .inl (cI, 60, .inl sA))]) (st' := [.int (m_X7_isBelow (m_X4_number sA (i + y5)) (40 : Int32))]) (nw := 3) (n1 := 0) hC gX6_areActs_X7_isBelow_n37 (List.mem_of_getElem? (i := 18) rfl) (List.mem_of_getElem? (i := 8) rfl) (List.mem_of_getElem? (i := 10) rfl) hdS_yX7_isBelow (As := [.int (m_X4_number sA (i + y5)), .int (40 : Int32)]) (rest := []) (c_X7_isBelow D cI (m_X4_number sA (i + y5)) (40 : Int32)) rfl ⟨by decide, by decide⟩ rfl [] [0, 1, 2] [0, 1, 2] [0] rfl rfl rfl rfl (by decide) rfl rfl (Nat.le_of_ble_eq_true rfl) dX6_areActs_24 rfl rfl ?_
      refine g_if_eq (tgt := 46) hC dX6_areActs_27 (by decide) rfl (fun c_27 => ?_) (fun c_27 => ?_)
      · rw [if_pos c_27] at hres
        refine g_iconst (v := 0) hC dX6_areActs_46 (by decide) rfl ?_
        refine g_istore (lv' := [(7, .int (0 : Int32)), (6, .int (m_X4_number sA (i + y5))), (1, .ref aRE), (2, .ref aSh), (3, .int i), (4, .int n), (5, .int y5)]) hC dX6_areActs_47 (by decide) rfl rfl ?_
        refine g_iload hC dX6_areActs_49 1 rfl rfl ?_
        refine g_bipush (v := 40) hC dX6_areActs_51 (by decide) rfl ?_
        refine g_icmp_eq (tgt := 63) hC dX6_areActs_53 (by decide) rfl (fun c_53 => ?_) (fun c_53 => ?_)
        · rw [if_pos c_53] at hres
          refine g_iinc (v := (y5 + 1)) (lv' := [(5, .int (y5 + 1)), (7, .int (0 : Int32)), (6, .int (m_X4_number sA (i + y5))), (1, .ref aRE), (2, .ref aSh), (3, .int i), (4, .int n)]) hC dX6_areActs_63 6 rfl rfl (by decide) rfl rfl ?_
          refine g_goto (tgt := 3) hC dX6_areActs_66 (by decide) ?_
          refine g_sub [3, 4, 5, 6, 0] rfl ?_
          exact ih (y5 + 1) (up_dec c_7 hm) (up_nn c_7 h0_y5) hres
        · rw [if_neg c_53] at hres
          refine g_iload hC dX6_areActs_56 0 rfl rfl ?_
          refine g_if_ne (tgt := 63) hC dX6_areActs_58 (by decide) rfl (fun c_58 => ?_) (fun c_58 => ?_)
          · rw [if_neg c_58] at hres
            refine g_iinc (v := (y5 + 1)) (lv' := [(5, .int (y5 + 1)), (7, .int (0 : Int32)), (6, .int (m_X4_number sA (i + y5))), (1, .ref aRE), (2, .ref aSh), (3, .int i), (4, .int n)]) hC dX6_areActs_63 6 rfl rfl (by decide) rfl rfl ?_
            refine g_goto (tgt := 3) hC dX6_areActs_66 (by decide) ?_
            refine g_sub [3, 4, 5, 6, 0] rfl ?_
            exact ih (y5 + 1) (up_dec c_7 hm) (up_nn c_7 h0_y5) hres
          · rw [if_pos c_58] at hres
            refine g_iconst (v := 0) hC dX6_areActs_61 (by decide) rfl ?_
            subst hres
            exact g_zret hC hX rfl rfl dX6_areActs_62 rfl rfl
      · rw [if_neg c_27] at hres
        refine g_aload_n hC dX6_areActs_30 rfl 1 rfl rfl ?_
        refine g_iload hC dX6_areActs_31 0 rfl rfl ?_
        refine g_bipush (v := 10) hC dX6_areActs_33 (by decide) rfl ?_
        refine g_irem hC dX6_areActs_35 (by decide) rfl ?_
        refine g_callV (ws' := [(aRE, .inr (2, [.ref aReS, .ref aReH, .ref aReK, .ref aReO, .ref aReD, .int cDays, .int cLin])), (aSh, .inr (4, [.ref aShA, .int sHas, .int sLane, .int sLen])), (aShA, .inl (cI, 60, .inl sA))]) (st' := [.int (m_X2_hasLinen cLin ((m_X4_number sA (i + y5)) - (m_X4_number sA (i + y5)) / (10 : Int32) * (10 : Int32)))]) (nw := 3) (n1 := 1) hC gX6_areActs_X2_hasLinen hdV_yX2_hasLinen 0 rfl rfl (As := [.int ((m_X4_number sA (i + y5)) - (m_X4_number sA (i + y5)) / (10 : Int32) * (10 : Int32))]) (rest := []) (c_X2_hasLinen D cI aRE aReS aReH aReK aReO aReD cDays cLin ((m_X4_number sA (i + y5)) - (m_X4_number sA (i + y5)) / (10 : Int32) * (10 : Int32))) rfl ⟨by decide, by decide⟩ rfl [0] [1, 2] [2, 0, 1] [0] rfl rfl rfl rfl (by decide) rfl rfl (Nat.le_of_ble_eq_true rfl) dX6_areActs_36 rfl rfl ?_
        have K_39 : ∀ vK : Int32, vK = (if (m_X2_hasLinen cLin ((m_X4_number sA (i + y5)) - (m_X4_number sA (i + y5)) / (10 : Int32) * (10 : Int32))) = 0 then (0 : Int32) else (1 : Int32)) → G X D 8 [(aRE, .inr (2, [.ref aReS, .ref aReH, .ref aReK, .ref aReO, .ref aReD, .int cDays, .int cLin])), (aSh, .inr (4, [.ref aShA, .int sHas, .int sLane, .int sLen])), (aShA, .inl (cI, 60, .inl sA))] [(6, .int (m_X4_number sA (i + y5))), (1, .ref aRE), (2, .ref aSh), (3, .int i), (4, .int n), (5, .int y5)] 47 (.int vK :: []) := by
          intro vK hvK
          subst hvK
          refine g_istore (lv' := [(7, .int (if (m_X2_hasLinen cLin ((m_X4_number sA (i + y5)) - (m_X4_number sA (i + y5)) / (10 : Int32) * (10 : Int32))) = 0 then (0 : Int32) else (1 : Int32))), (6, .int (m_X4_number sA (i + y5))), (1, .ref aRE), (2, .ref aSh), (3, .int i), (4, .int n), (5, .int y5)]) hC dX6_areActs_47 (by decide) rfl rfl ?_
          refine g_iload hC dX6_areActs_49 1 rfl rfl ?_
          refine g_bipush (v := 40) hC dX6_areActs_51 (by decide) rfl ?_
          refine g_icmp_eq (tgt := 63) hC dX6_areActs_53 (by decide) rfl (fun c_53 => ?_) (fun c_53 => ?_)
          · rw [if_pos c_53] at hres
            refine g_iinc (v := (y5 + 1)) (lv' := [(5, .int (y5 + 1)), (7, .int (if (m_X2_hasLinen cLin ((m_X4_number sA (i + y5)) - (m_X4_number sA (i + y5)) / (10 : Int32) * (10 : Int32))) = 0 then (0 : Int32) else (1 : Int32))), (6, .int (m_X4_number sA (i + y5))), (1, .ref aRE), (2, .ref aSh), (3, .int i), (4, .int n)]) hC dX6_areActs_63 6 rfl rfl (by decide) rfl rfl ?_
            refine g_goto (tgt := 3) hC dX6_areActs_66 (by decide) ?_
            refine g_sub [3, 4, 5, 6, 0] rfl ?_
            exact ih (y5 + 1) (up_dec c_7 hm) (up_nn c_7 h0_y5) hres
          · rw [if_neg c_53] at hres
            refine g_iload hC dX6_areActs_56 0 rfl rfl ?_
            refine g_if_ne (tgt := 63) hC dX6_areActs_58 (by decide) rfl (fun c_58 => ?_) (fun c_58 => ?_)
            · rw [if_neg c_58] at hres
              refine g_iinc (v := (y5 + 1)) (lv' := [(5, .int (y5 + 1)), (7, .int (if (m_X2_hasLinen cLin ((m_X4_number sA (i + y5)) - (m_X4_number sA (i + y5)) / (10 : Int32) * (10 : Int32))) = 0 then (0 : Int32) else (1 : Int32))), (6, .int (m_X4_number sA (i + y5))), (1, .ref aRE), (2, .ref aSh), (3, .int i), (4, .int n)]) hC dX6_areActs_63 6 rfl rfl (by decide) rfl rfl ?_
              refine g_goto (tgt := 3) hC dX6_areActs_66 (by decide) ?_
              refine g_sub [3, 4, 5, 6, 0] rfl ?_
              exact ih (y5 + 1) (up_dec c_7 hm) (up_nn c_7 h0_y5) hres
            · rw [if_pos c_58] at hres
              refine g_iconst (v := 0) hC dX6_areActs_61 (by decide) rfl ?_
              subst hres
              exact g_zret hC hX rfl rfl dX6_areActs_62 rfl rfl
        refine g_if_eq (tgt := 46) hC dX6_areActs_39 (by decide) rfl (fun c_39 => ?_) (fun c_39 => ?_)
        · refine g_iconst (v := 0) hC dX6_areActs_46 (by decide) rfl ?_
          exact K_39 _ (if_pos c_39).symm
        · refine g_iconst (v := 1) hC dX6_areActs_42 (by decide) rfl ?_
          refine g_goto (tgt := 47) hC dX6_areActs_43 (by decide) ?_
          exact K_39 _ (if_neg c_39).symm
set_option maxRecDepth 100000 in
set_option maxHeartbeats 4000000 in
theorem c_X6_areActs (D : va_G) (cI : ClassId) (aRE : Nat) (aReS : Nat) (aReH : Nat) (aReK : Nat) (aReO : Nat) (aReD : Nat) (cDays : Int32) (cLin : Int32) (aSh : Nat) (aShA : Nat) (sHas : Int32) (sLane : Int32) (sLen : Int32) (sA : Nat → Int32) (aTh : Nat) (i : Int32) (n : Int32) : MC yX6_areActs wsX6_areActs ({ frames := 2, cells := 0, slots := 0, locals := 42 } : Room) D [(cI, .int)] [.ref aTh, .ref aRE, .ref aSh, .int i, .int n] [(aRE, .inr (2, [.ref aReS, .ref aReH, .ref aReK, .ref aReO, .ref aReD, .int cDays, .int cLin])), (aSh, .inr (4, [.ref aShA, .int sHas, .int sLane, .int sLen])), (aShA, .inl (cI, 60, .inl sA))] (some (.int (m_X6_areActs cLin sA i n))) [(aRE, .inr (2, [.ref aReS, .ref aReH, .ref aReK, .ref aReO, .ref aReD, .int cDays, .int cLin])), (aSh, .inr (4, [.ref aShA, .int sHas, .int sLane, .int sLen])), (aShA, .inl (cI, 60, .inl sA))] := by
  refine g_entry (by decide) rfl rfl rfl rfl (Nat.le_of_ble_eq_true rfl) (lv := [(0, .ref aTh), (1, .ref aRE), (2, .ref aSh), (3, .int i), (4, .int n)]) rfl ?_
  intro X hC hX
  obtain ⟨res, hres⟩ : ∃ z, z = (m_X6_areActs cLin sA i n) := ⟨_, rfl⟩
  rw [← hres] at hX
  rw [m_X6_areActs] at hres
  refine g_iconst (v := 0) hC dX6_areActs_0 (by decide) rfl ?_
  refine g_istore (lv' := [(5, .int (0 : Int32)), (0, .ref aTh), (1, .ref aRE), (2, .ref aSh), (3, .int i), (4, .int n)]) hC dX6_areActs_1 (by decide) rfl rfl ?_
  refine g_sub [2, 3, 4, 5, 0] rfl ?_
  exact l_X6_areActs_3 D cI aRE aReS aReH aReK aReO aReD cDays cLin aSh aShA sHas sLane sLen sA aTh i n  hC hX ((n.toInt - (0 : Int32).toInt).toNat + 1) (0 : Int32) (Nat.lt_succ_self _) (by decide) hres
theorem iw_X6_begin_RX2 : ∀ w ∈ wsX20, w ∈ wsX6_begin := fun _ h => List.mem_cons_of_mem _ (List.mem_append_right _ (h))
theorem iw_X6_begin_RX6 : ∀ w ∈ wsX60, w ∈ wsX6_begin := fun _ h => List.mem_cons_of_mem _ (List.mem_append_left _ (List.mem_append_right _ (h)))
def m_X6_begin_31 : Nat → Int32 → (Nat → Int32) → (Nat → Int32) → Int32 → (Nat → Int32) → (Int32 × Int32 × Int32 × Int32 × (Nat → Int32) × (Nat → Int32))
  | 0, _, _, _, _, _ => default
  | fu + 1, cLin, cD, k_wS, y2, z_wD => (if (5 : Int32) ≤ y2 then ((0 : Int32), (0 : Int32), (((1 : Int32) <<< (cLin &&& 31)) - (1 : Int32)), (-9 : Int32), k_wS, z_wD) else (m_X6_begin_31 fu cLin cD k_wS (y2 + 1) (m_X7_set 5 z_wD y2 (m_X7_at 5 cD y2))))
def m_X6_begin_2 : Nat → Int32 → (Nat → Int32) → (Nat → Int32) → (Nat → Int32) → Int32 → (Nat → Int32) → (Int32 × Int32 × Int32 × Int32 × (Nat → Int32) × (Nat → Int32))
  | 0, _, _, _, _, _, _ => default
  | fu + 1, cLin, cS, cD, k_wD, y2, z_wS => (if (4 : Int32) ≤ y2 then (m_X6_begin_31 (((5 : Int32).toInt - (0 : Int32).toInt).toNat + 1) cLin cD z_wS (0 : Int32) k_wD) else (m_X6_begin_2 fu cLin cS cD k_wD (y2 + 1) (m_X7_set 4 z_wS y2 (m_X7_at 4 cS y2))))
def m_X6_begin (wS : Nat → Int32) (wD : Nat → Int32) (cLin : Int32) (cS : Nat → Int32) (cD : Nat → Int32) : (Int32 × Int32 × Int32 × Int32 × (Nat → Int32) × (Nat → Int32)) := (m_X6_begin_2 (((4 : Int32).toInt - (0 : Int32).toInt).toNat + 1) cLin cS cD wD (0 : Int32) wS)
set_option maxRecDepth 100000 in
set_option maxHeartbeats 4000000 in
theorem l_X6_begin_31 {X : gX} (D : va_G) (cI : ClassId) (aWE : Nat) (aWeS : Nat) (aWeD : Nat) (wEv : Int32) (wActs : Int32) (wLast : Int32) (wWrong : Int32) (wS : Nat → Int32) (wD : Nat → Int32) (aRE : Nat) (aReS : Nat) (aReH : Nat) (aReK : Nat) (aReO : Nat) (aReD : Nat) (cDays : Int32) (cLin : Int32) (cS : Nat → Int32) (cD : Nat → Int32) (k_wEv : Int32) (k_wActs : Int32) (k_wLast : Int32) (k_wWrong : Int32) (k_wS : Nat → Int32) (hC : Cx X cX6_begin 3 RX6 wsX6_begin D [(cI, .int)] ({ frames := 1, cells := 0, slots := 0, locals := 22 } : Room) none) {res : (Int32 × Int32 × Int32 × Int32 × (Nat → Int32) × (Nat → Int32))} (hX : Rx X D none [(aWE, .inr (6, [.ref aWeS, .ref aWeD, .int res.1, .int res.2.1, .int res.2.2.1, .int res.2.2.2.1])), (aWeS, .inl (cI, 4, .inl res.2.2.2.2.1)), (aWeD, .inl (cI, 5, .inl res.2.2.2.2.2)), (aRE, .inr (2, [.ref aReS, .ref aReH, .ref aReK, .ref aReO, .ref aReD, .int cDays, .int cLin])), (aReS, .inl (cI, 4, .inl cS)), (aReD, .inl (cI, 5, .inl cD))]) : ∀ (fu : Nat) (y2 : Int32) (z_wD : Nat → Int32) (hm : ((5 : Int32).toInt - y2.toInt).toNat < fu) (h0_y2 : 0 ≤ y2.toInt) (hres : res = m_X6_begin_31 fu cLin cD k_wS y2 z_wD), G X D 3 [(aWE, .inr (6, [.ref aWeS, .ref aWeD, .int k_wEv, .int k_wActs, .int k_wLast, .int k_wWrong])), (aWeS, .inl (cI, 4, .inl k_wS)), (aWeD, .inl (cI, 5, .inl z_wD)), (aRE, .inr (2, [.ref aReS, .ref aReH, .ref aReK, .ref aReO, .ref aReD, .int cDays, .int cLin])), (aReS, .inl (cI, 4, .inl cS)), (aReD, .inl (cI, 5, .inl cD))] [(0, .ref aWE), (1, .ref aRE), (2, .int y2)] 31 [] := by
  intro fu
  induction fu with
  | zero =>
    intro y2 z_wD hm
    exact absurd hm (Nat.not_lt_zero _)
  | succ fu ih =>
    intro y2 z_wD hm h0_y2 hres
    rw [m_X6_begin_31] at hres
    refine g_iload_n hC dX6_begin_31 rfl 2 rfl rfl ?_
    refine g_iconst (v := 5) hC dX6_begin_32 (by decide) rfl ?_
    refine g_icmp_ge (tgt := 58) hC dX6_begin_33 (by decide) rfl (fun c_33 => ?_) (fun c_33 => ?_)
    · rw [if_pos c_33] at hres
      refine g_aload_n hC dX6_begin_58 rfl 0 rfl rfl ?_
      refine g_iconst (v := 0) hC dX6_begin_59 (by decide) rfl ?_
      refine g_put (ws' := [(aWE, .inr (6, [.ref aWeS, .ref aWeD, .int (0 : Int32), .int k_wActs, .int k_wLast, .int k_wWrong])), (aWeS, .inl (cI, 4, .inl k_wS)), (aWeD, .inl (cI, 5, .inl z_wD)), (aRE, .inr (2, [.ref aReS, .ref aReH, .ref aReK, .ref aReO, .ref aReD, .int cDays, .int cLin])), (aReS, .inl (cI, 4, .inl cS)), (aReD, .inl (cI, 5, .inl cD))]) hC iw_X6_begin_RX6 0 rfl rfl 2 (by decide) (List.mem_of_getElem? (i := 5) rfl) rfl tyX6 tyX6_ok nmX6 rfl rfl rfl (Nat.le_of_ble_eq_true rfl) rfl dX6_begin_60 rfl ?_
      refine g_aload_n hC dX6_begin_63 rfl 0 rfl rfl ?_
      refine g_iconst (v := 0) hC dX6_begin_64 (by decide) rfl ?_
      refine g_put (ws' := [(aWE, .inr (6, [.ref aWeS, .ref aWeD, .int (0 : Int32), .int (0 : Int32), .int k_wLast, .int k_wWrong])), (aWeS, .inl (cI, 4, .inl k_wS)), (aWeD, .inl (cI, 5, .inl z_wD)), (aRE, .inr (2, [.ref aReS, .ref aReH, .ref aReK, .ref aReO, .ref aReD, .int cDays, .int cLin])), (aReS, .inl (cI, 4, .inl cS)), (aReD, .inl (cI, 5, .inl cD))]) hC iw_X6_begin_RX6 0 rfl rfl 3 (by decide) (List.mem_of_getElem? (i := 6) rfl) rfl tyX6 tyX6_ok nmX6 rfl rfl rfl (Nat.le_of_ble_eq_true rfl) rfl dX6_begin_65 rfl ?_
      refine g_aload_n hC dX6_begin_68 rfl 0 rfl rfl ?_
      refine g_iconst (v := 1) hC dX6_begin_69 (by decide) rfl ?_
      refine g_aload_n hC dX6_begin_70 rfl 1 rfl rfl ?_
      refine g_get hC iw_X6_begin_RX2 3 rfl rfl 6 (by decide) (List.mem_of_getElem? (i := 7) rfl) rfl rfl dX6_begin_71 rfl ?_
      refine g_ishl hC dX6_begin_74 rfl ?_
      refine g_iconst (v := 1) hC dX6_begin_75 (by decide) rfl ?_
      refine g_isub hC dX6_begin_76 rfl ?_
      refine g_put (ws' := [(aWE, .inr (6, [.ref aWeS, .ref aWeD, .int (0 : Int32), .int (0 : Int32), .int (((1 : Int32) <<< (cLin &&& 31)) - (1 : Int32)), .int k_wWrong])), (aWeS, .inl (cI, 4, .inl k_wS)), (aWeD, .inl (cI, 5, .inl z_wD)), (aRE, .inr (2, [.ref aReS, .ref aReH, .ref aReK, .ref aReO, .ref aReD, .int cDays, .int cLin])), (aReS, .inl (cI, 4, .inl cS)), (aReD, .inl (cI, 5, .inl cD))]) hC iw_X6_begin_RX6 0 rfl rfl 4 (by decide) (List.mem_of_getElem? (i := 8) rfl) rfl tyX6 tyX6_ok nmX6 rfl rfl rfl (Nat.le_of_ble_eq_true rfl) rfl dX6_begin_77 rfl ?_
      refine g_aload_n hC dX6_begin_80 rfl 0 rfl rfl ?_
      refine g_bipush (v := -9) hC dX6_begin_81 (by decide) rfl ?_
      refine g_put (ws' := [(aWE, .inr (6, [.ref aWeS, .ref aWeD, .int (0 : Int32), .int (0 : Int32), .int (((1 : Int32) <<< (cLin &&& 31)) - (1 : Int32)), .int (-9 : Int32)])), (aWeS, .inl (cI, 4, .inl k_wS)), (aWeD, .inl (cI, 5, .inl z_wD)), (aRE, .inr (2, [.ref aReS, .ref aReH, .ref aReK, .ref aReO, .ref aReD, .int cDays, .int cLin])), (aReS, .inl (cI, 4, .inl cS)), (aReD, .inl (cI, 5, .inl cD))]) hC iw_X6_begin_RX6 0 rfl rfl 5 (by decide) (List.mem_of_getElem? (i := 9) rfl) rfl tyX6 tyX6_ok nmX6 rfl rfl rfl (Nat.le_of_ble_eq_true rfl) rfl dX6_begin_83 rfl ?_
      subst hres
      exact g_vret hC hX rfl dX6_begin_86 rfl rfl
    · rw [if_neg c_33] at hres
      refine g_aload_n hC dX6_begin_36 rfl 0 rfl rfl ?_
      refine g_get hC iw_X6_begin_RX6 0 rfl rfl 1 (by decide) (List.mem_of_getElem? (i := 3) rfl) rfl rfl dX6_begin_37 rfl ?_
      refine g_iload_n hC dX6_begin_40 rfl 2 rfl rfl ?_
      refine g_aload_n hC dX6_begin_41 rfl 1 rfl rfl ?_
      refine g_get hC iw_X6_begin_RX2 3 rfl rfl 4 (by decide) (List.mem_of_getElem? (i := 4) rfl) rfl rfl dX6_begin_42 rfl ?_
      refine g_iload_n hC dX6_begin_45 rfl 2 rfl rfl ?_
      refine g_callN (ws' := [(aWE, .inr (6, [.ref aWeS, .ref aWeD, .int k_wEv, .int k_wActs, .int k_wLast, .int k_wWrong])), (aWeS, .inl (cI, 4, .inl k_wS)), (aWeD, .inl (cI, 5, .inl z_wD)), (aRE, .inr (2, [.ref aReS, .ref aReH, .ref aReK, .ref aReO, .ref aReD, .int cDays, .int cLin])), (aReS, .inl (cI, 4, .inl cS)), (aReD, .inl (cI, 5, .inl cD))]) (st' := [.int (m_X7_at 5 cD y2), .int y2, .ref aWeD]) (nw := 6) (n1 := 1) hC gX6_begin_X7_at_n62 (List.mem_of_getElem? (i := 19) rfl) (List.mem_of_getElem? (i := 11) rfl) (List.mem_of_getElem? (i := 10) rfl) hdS_yX7_at (As := [.ref aReD, .int y2]) (rest := [.int y2, .ref aWeD]) (c_X7_at D cI aReD 5 cD y2 (by decide)) rfl ⟨by decide, by decide⟩ rfl [5] [0, 1, 2, 3, 4] [0, 1, 2, 3, 4, 5] [0] rfl rfl rfl rfl (by decide) rfl rfl (Nat.le_of_ble_eq_true rfl) dX6_begin_46 rfl rfl ?_
      refine g_callN (ws' := [(aWE, .inr (6, [.ref aWeS, .ref aWeD, .int k_wEv, .int k_wActs, .int k_wLast, .int k_wWrong])), (aWeS, .inl (cI, 4, .inl k_wS)), (aWeD, .inl (cI, 5, .inl (m_X7_set 5 z_wD y2 (m_X7_at 5 cD y2)))), (aRE, .inr (2, [.ref aReS, .ref aReH, .ref aReK, .ref aReO, .ref aReD, .int cDays, .int cLin])), (aReS, .inl (cI, 4, .inl cS)), (aReD, .inl (cI, 5, .inl cD))]) (st' := []) (nw := 6) (n1 := 1) hC gX6_begin_X7_set_n66 (List.mem_of_getElem? (i := 20) rfl) (List.mem_of_getElem? (i := 11) rfl) (List.mem_of_getElem? (i := 13) rfl) hdS_yX7_set (As := [.ref aWeD, .int y2, .int (m_X7_at 5 cD y2)]) (rest := []) (c_X7_set D cI aWeD 5 z_wD y2 (m_X7_at 5 cD y2) (by decide)) rfl ⟨by decide, by decide⟩ rfl [2] [0, 1, 3, 4, 5] [0, 1, 5, 2, 3, 4] [0] rfl rfl rfl rfl (by decide) rfl rfl (Nat.le_of_ble_eq_true rfl) dX6_begin_49 rfl rfl ?_
      refine g_iinc (v := (y2 + 1)) (lv' := [(2, .int (y2 + 1)), (0, .ref aWE), (1, .ref aRE)]) hC dX6_begin_52 2 rfl rfl (by decide) rfl rfl ?_
      refine g_goto (tgt := 31) hC dX6_begin_55 (by decide) ?_
      refine g_sub [1, 2, 0] rfl ?_
      exact ih (y2 + 1) (m_X7_set 5 z_wD y2 (m_X7_at 5 cD y2)) (up_dec c_33 hm) (up_nn c_33 h0_y2) hres
set_option maxRecDepth 100000 in
set_option maxHeartbeats 4000000 in
theorem l_X6_begin_2 {X : gX} (D : va_G) (cI : ClassId) (aWE : Nat) (aWeS : Nat) (aWeD : Nat) (wEv : Int32) (wActs : Int32) (wLast : Int32) (wWrong : Int32) (wS : Nat → Int32) (wD : Nat → Int32) (aRE : Nat) (aReS : Nat) (aReH : Nat) (aReK : Nat) (aReO : Nat) (aReD : Nat) (cDays : Int32) (cLin : Int32) (cS : Nat → Int32) (cD : Nat → Int32) (k_wEv : Int32) (k_wActs : Int32) (k_wLast : Int32) (k_wWrong : Int32) (k_wD : Nat → Int32) (hC : Cx X cX6_begin 3 RX6 wsX6_begin D [(cI, .int)] ({ frames := 1, cells := 0, slots := 0, locals := 22 } : Room) none) {res : (Int32 × Int32 × Int32 × Int32 × (Nat → Int32) × (Nat → Int32))} (hX : Rx X D none [(aWE, .inr (6, [.ref aWeS, .ref aWeD, .int res.1, .int res.2.1, .int res.2.2.1, .int res.2.2.2.1])), (aWeS, .inl (cI, 4, .inl res.2.2.2.2.1)), (aWeD, .inl (cI, 5, .inl res.2.2.2.2.2)), (aRE, .inr (2, [.ref aReS, .ref aReH, .ref aReK, .ref aReO, .ref aReD, .int cDays, .int cLin])), (aReS, .inl (cI, 4, .inl cS)), (aReD, .inl (cI, 5, .inl cD))]) : ∀ (fu : Nat) (y2 : Int32) (z_wS : Nat → Int32) (hm : ((4 : Int32).toInt - y2.toInt).toNat < fu) (h0_y2 : 0 ≤ y2.toInt) (hres : res = m_X6_begin_2 fu cLin cS cD k_wD y2 z_wS), G X D 3 [(aWE, .inr (6, [.ref aWeS, .ref aWeD, .int k_wEv, .int k_wActs, .int k_wLast, .int k_wWrong])), (aWeS, .inl (cI, 4, .inl z_wS)), (aWeD, .inl (cI, 5, .inl k_wD)), (aRE, .inr (2, [.ref aReS, .ref aReH, .ref aReK, .ref aReO, .ref aReD, .int cDays, .int cLin])), (aReS, .inl (cI, 4, .inl cS)), (aReD, .inl (cI, 5, .inl cD))] [(0, .ref aWE), (1, .ref aRE), (2, .int y2)] 2 [] := by
  intro fu
  induction fu with
  | zero =>
    intro y2 z_wS hm
    exact absurd hm (Nat.not_lt_zero _)
  | succ fu ih =>
    intro y2 z_wS hm h0_y2 hres
    rw [m_X6_begin_2] at hres
    refine g_iload_n hC dX6_begin_2 rfl 2 rfl rfl ?_
    refine g_iconst (v := 4) hC dX6_begin_3 (by decide) rfl ?_
    refine g_icmp_ge (tgt := 29) hC dX6_begin_4 (by decide) rfl (fun c_4 => ?_) (fun c_4 => ?_)
    · rw [if_pos c_4] at hres
      refine g_iconst (v := 0) hC dX6_begin_29 (by decide) rfl ?_
      refine g_istore_n (lv' := [(2, .int (0 : Int32)), (0, .ref aWE), (1, .ref aRE)]) hC dX6_begin_30 rfl (by decide) rfl rfl ?_
      refine g_sub [1, 2, 0] rfl ?_
      exact l_X6_begin_31 D cI aWE aWeS aWeD wEv wActs wLast wWrong wS wD aRE aReS aReH aReK aReO aReD cDays cLin cS cD k_wEv k_wActs k_wLast k_wWrong z_wS  hC hX (((5 : Int32).toInt - (0 : Int32).toInt).toNat + 1) (0 : Int32) k_wD (Nat.lt_succ_self _) (by decide) hres
    · rw [if_neg c_4] at hres
      refine g_aload_n hC dX6_begin_7 rfl 0 rfl rfl ?_
      refine g_get hC iw_X6_begin_RX6 0 rfl rfl 0 (by decide) (List.mem_of_getElem? (i := 1) rfl) rfl rfl dX6_begin_8 rfl ?_
      refine g_iload_n hC dX6_begin_11 rfl 2 rfl rfl ?_
      refine g_aload_n hC dX6_begin_12 rfl 1 rfl rfl ?_
      refine g_get hC iw_X6_begin_RX2 3 rfl rfl 0 (by decide) (List.mem_of_getElem? (i := 2) rfl) rfl rfl dX6_begin_13 rfl ?_
      refine g_iload_n hC dX6_begin_16 rfl 2 rfl rfl ?_
      refine g_callN (ws' := [(aWE, .inr (6, [.ref aWeS, .ref aWeD, .int k_wEv, .int k_wActs, .int k_wLast, .int k_wWrong])), (aWeS, .inl (cI, 4, .inl z_wS)), (aWeD, .inl (cI, 5, .inl k_wD)), (aRE, .inr (2, [.ref aReS, .ref aReH, .ref aReK, .ref aReO, .ref aReD, .int cDays, .int cLin])), (aReS, .inl (cI, 4, .inl cS)), (aReD, .inl (cI, 5, .inl cD))]) (st' := [.int (m_X7_at 4 cS y2), .int y2, .ref aWeS]) (nw := 6) (n1 := 1) hC gX6_begin_X7_at_n62 (List.mem_of_getElem? (i := 19) rfl) (List.mem_of_getElem? (i := 11) rfl) (List.mem_of_getElem? (i := 10) rfl) hdS_yX7_at (As := [.ref aReS, .int y2]) (rest := [.int y2, .ref aWeS]) (c_X7_at D cI aReS 4 cS y2 (by decide)) rfl ⟨by decide, by decide⟩ rfl [4] [0, 1, 2, 3, 5] [0, 1, 2, 3, 5, 4] [0] rfl rfl rfl rfl (by decide) rfl rfl (Nat.le_of_ble_eq_true rfl) dX6_begin_17 rfl rfl ?_
      refine g_callN (ws' := [(aWE, .inr (6, [.ref aWeS, .ref aWeD, .int k_wEv, .int k_wActs, .int k_wLast, .int k_wWrong])), (aWeS, .inl (cI, 4, .inl (m_X7_set 4 z_wS y2 (m_X7_at 4 cS y2)))), (aWeD, .inl (cI, 5, .inl k_wD)), (aRE, .inr (2, [.ref aReS, .ref aReH, .ref aReK, .ref aReO, .ref aReD, .int cDays, .int cLin])), (aReS, .inl (cI, 4, .inl cS)), (aReD, .inl (cI, 5, .inl cD))]) (st' := []) (nw := 6) (n1 := 1) hC gX6_begin_X7_set_n66 (List.mem_of_getElem? (i := 20) rfl) (List.mem_of_getElem? (i := 11) rfl) (List.mem_of_getElem? (i := 13) rfl) hdS_yX7_set (As := [.ref aWeS, .int y2, .int (m_X7_at 4 cS y2)]) (rest := []) (c_X7_set D cI aWeS 4 z_wS y2 (m_X7_at 4 cS y2) (by decide)) rfl ⟨by decide, by decide⟩ rfl [1] [0, 2, 3, 4, 5] [0, 5, 1, 2, 3, 4] [0] rfl rfl rfl rfl (by decide) rfl rfl (Nat.le_of_ble_eq_true rfl) dX6_begin_20 rfl rfl ?_
      refine g_iinc (v := (y2 + 1)) (lv' := [(2, .int (y2 + 1)), (0, .ref aWE), (1, .ref aRE)]) hC dX6_begin_23 2 rfl rfl (by decide) rfl rfl ?_
      refine g_goto (tgt := 2) hC dX6_begin_26 (by decide) ?_
      refine g_sub [1, 2, 0] rfl ?_
      exact ih (y2 + 1) (m_X7_set 4 z_wS y2 (m_X7_at 4 cS y2)) (up_dec c_4 hm) (up_nn c_4 h0_y2) hres
set_option maxRecDepth 100000 in
set_option maxHeartbeats 4000000 in
theorem c_X6_begin (D : va_G) (cI : ClassId) (aWE : Nat) (aWeS : Nat) (aWeD : Nat) (wEv : Int32) (wActs : Int32) (wLast : Int32) (wWrong : Int32) (wS : Nat → Int32) (wD : Nat → Int32) (aRE : Nat) (aReS : Nat) (aReH : Nat) (aReK : Nat) (aReO : Nat) (aReD : Nat) (cDays : Int32) (cLin : Int32) (cS : Nat → Int32) (cD : Nat → Int32) : MC yX6_begin wsX6_begin ({ frames := 1, cells := 0, slots := 0, locals := 22 } : Room) D [(cI, .int)] [.ref aWE, .ref aRE] [(aWE, .inr (6, [.ref aWeS, .ref aWeD, .int wEv, .int wActs, .int wLast, .int wWrong])), (aWeS, .inl (cI, 4, .inl wS)), (aWeD, .inl (cI, 5, .inl wD)), (aRE, .inr (2, [.ref aReS, .ref aReH, .ref aReK, .ref aReO, .ref aReD, .int cDays, .int cLin])), (aReS, .inl (cI, 4, .inl cS)), (aReD, .inl (cI, 5, .inl cD))] none [(aWE, .inr (6, [.ref aWeS, .ref aWeD, .int ((m_X6_begin wS wD cLin cS cD).1), .int ((m_X6_begin wS wD cLin cS cD).2.1), .int ((m_X6_begin wS wD cLin cS cD).2.2.1), .int ((m_X6_begin wS wD cLin cS cD).2.2.2.1)])), (aWeS, .inl (cI, 4, .inl ((m_X6_begin wS wD cLin cS cD).2.2.2.2.1))), (aWeD, .inl (cI, 5, .inl ((m_X6_begin wS wD cLin cS cD).2.2.2.2.2))), (aRE, .inr (2, [.ref aReS, .ref aReH, .ref aReK, .ref aReO, .ref aReD, .int cDays, .int cLin])), (aReS, .inl (cI, 4, .inl cS)), (aReD, .inl (cI, 5, .inl cD))] := by
  refine g_entry (by decide) rfl rfl rfl rfl (Nat.le_of_ble_eq_true rfl) (lv := [(0, .ref aWE), (1, .ref aRE)]) rfl ?_
  intro X hC hX
  obtain ⟨res, hres⟩ : ∃ z, z = (m_X6_begin wS wD cLin cS cD) := ⟨_, rfl⟩
  rw [← hres] at hX
  rw [m_X6_begin] at hres
  refine g_iconst (v := 0) hC dX6_begin_0 (by decide) rfl ?_
  refine g_istore_n (lv' := [(2, .int (0 : Int32)), (0, .ref aWE), (1, .ref aRE)]) hC dX6_begin_1 rfl (by decide) rfl rfl ?_
  refine g_sub [1, 2, 0] rfl ?_
  exact l_X6_begin_2 D cI aWE aWeS aWeD wEv wActs wLast wWrong wS wD aRE aReS aReH aReK aReO aReD cDays cLin cS cD wEv wActs wLast wWrong wD  hC hX (((4 : Int32).toInt - (0 : Int32).toInt).toNat + 1) (0 : Int32) wS (Nat.lt_succ_self _) (by decide) hres
theorem iw_X6_lawsNow_RX2 : ∀ w ∈ wsX20, w ∈ wsX6_lawsNow := fun _ h => List.mem_cons_of_mem _ (List.mem_append_left _ (List.mem_append_right _ (h)))
theorem iw_X6_lawsNow_RX6 : ∀ w ∈ wsX60, w ∈ wsX6_lawsNow := fun _ h => List.mem_cons_of_mem _ (List.mem_append_right _ (h))
def m_X6_lawsNow_4 : Nat → (Nat → Int32) → Int32 → Int32 → Int32 → (Int32)
  | 0, _, _, _, _ => default
  | fu + 1, wD, cLin, y2, y3 => (if cLin ≤ y3 then y2 else (if (m_X7_at 5 wD y3) ≤ 0 then (m_X6_lawsNow_4 fu wD cLin y2 (y3 + 1)) else (m_X6_lawsNow_4 fu wD cLin (y2 ||| ((1 : Int32) <<< (y3 &&& 31))) (y3 + 1))))
def m_X6_lawsNow (wD : Nat → Int32) (cLin : Int32) : (Int32) := (m_X6_lawsNow_4 ((cLin.toInt - (0 : Int32).toInt).toNat + 1) wD cLin (0 : Int32) (0 : Int32))
set_option maxRecDepth 100000 in
set_option maxHeartbeats 4000000 in
theorem l_X6_lawsNow_4 {X : gX} (D : va_G) (cI : ClassId) (aWE : Nat) (aWeS : Nat) (aWeD : Nat) (wEv : Int32) (wActs : Int32) (wLast : Int32) (wWrong : Int32) (wD : Nat → Int32) (aRE : Nat) (aReS : Nat) (aReH : Nat) (aReK : Nat) (aReO : Nat) (aReD : Nat) (cDays : Int32) (cLin : Int32) (hC : Cx X cX6_lawsNow 4 RX6 wsX6_lawsNow D [(cI, .int)] ({ frames := 1, cells := 0, slots := 0, locals := 21 } : Room) (some .int)) {res : (Int32)} (hX : Rx X D (some (.int res)) [(aWE, .inr (6, [.ref aWeS, .ref aWeD, .int wEv, .int wActs, .int wLast, .int wWrong])), (aWeD, .inl (cI, 5, .inl wD)), (aRE, .inr (2, [.ref aReS, .ref aReH, .ref aReK, .ref aReO, .ref aReD, .int cDays, .int cLin]))]) : ∀ (fu : Nat) (y2 : Int32) (y3 : Int32) (hm : (cLin.toInt - y3.toInt).toNat < fu) (h0_y3 : 0 ≤ y3.toInt) (hres : res = m_X6_lawsNow_4 fu wD cLin y2 y3), G X D 4 [(aWE, .inr (6, [.ref aWeS, .ref aWeD, .int wEv, .int wActs, .int wLast, .int wWrong])), (aWeD, .inl (cI, 5, .inl wD)), (aRE, .inr (2, [.ref aReS, .ref aReH, .ref aReK, .ref aReO, .ref aReD, .int cDays, .int cLin]))] [(0, .ref aWE), (1, .ref aRE), (2, .int y2), (3, .int y3)] 4 [] := by
  intro fu
  induction fu with
  | zero =>
    intro y2 y3 hm
    exact absurd hm (Nat.not_lt_zero _)
  | succ fu ih =>
    intro y2 y3 hm h0_y3 hres
    rw [m_X6_lawsNow_4] at hres
    refine g_iload_n hC dX6_lawsNow_4 rfl 3 rfl rfl ?_
    refine g_aload_n hC dX6_lawsNow_5 rfl 1 rfl rfl ?_
    refine g_get hC iw_X6_lawsNow_RX2 2 rfl rfl 6 (by decide) (List.mem_of_getElem? (i := 1) rfl) rfl rfl dX6_lawsNow_6 rfl ?_
    refine g_icmp_ge (tgt := 35) hC dX6_lawsNow_9 (by decide) rfl (fun c_9 => ?_) (fun c_9 => ?_)
    · rw [if_pos c_9] at hres
      refine g_iload_n hC dX6_lawsNow_35 rfl 2 rfl rfl ?_
      subst hres
      exact g_iret hC hX rfl dX6_lawsNow_36 rfl rfl
    · rw [if_neg c_9] at hres
      refine g_aload_n hC dX6_lawsNow_12 rfl 0 rfl rfl ?_
      refine g_get hC iw_X6_lawsNow_RX6 0 rfl rfl 1 (by decide) (List.mem_of_getElem? (i := 2) rfl) rfl rfl dX6_lawsNow_13 rfl ?_
      refine g_iload_n hC dX6_lawsNow_16 rfl 3 rfl rfl ?_
      refine g_callN (ws' := [(aWE, .inr (6, [.ref aWeS, .ref aWeD, .int wEv, .int wActs, .int wLast, .int wWrong])), (aWeD, .inl (cI, 5, .inl wD)), (aRE, .inr (2, [.ref aReS, .ref aReH, .ref aReK, .ref aReO, .ref aReD, .int cDays, .int cLin]))]) (st' := [.int (m_X7_at 5 wD y3)]) (nw := 3) (n1 := 1) hC gX6_lawsNow_X7_at_n62 (List.mem_of_getElem? (i := 19) rfl) (List.mem_of_getElem? (i := 4) rfl) (List.mem_of_getElem? (i := 3) rfl) hdS_yX7_at (As := [.ref aWeD, .int y3]) (rest := []) (c_X7_at D cI aWeD 5 wD y3 (by decide)) rfl ⟨by decide, by decide⟩ rfl [1] [0, 2] [0, 2, 1] [0] rfl rfl rfl rfl (by decide) rfl rfl (Nat.le_of_ble_eq_true rfl) dX6_lawsNow_17 rfl rfl ?_
      refine g_if_le (tgt := 29) hC dX6_lawsNow_20 (by decide) rfl (fun c_20 => ?_) (fun c_20 => ?_)
      · rw [if_pos c_20] at hres
        refine g_iinc (v := (y3 + 1)) (lv' := [(3, .int (y3 + 1)), (0, .ref aWE), (1, .ref aRE), (2, .int y2)]) hC dX6_lawsNow_29 3 rfl rfl (by decide) rfl rfl ?_
        refine g_goto (tgt := 4) hC dX6_lawsNow_32 (by decide) ?_
        refine g_sub [1, 2, 3, 0] rfl ?_
        exact ih y2 (y3 + 1) (up_dec c_9 hm) (up_nn c_9 h0_y3) hres
      · rw [if_neg c_20] at hres
        refine g_iload_n hC dX6_lawsNow_23 rfl 2 rfl rfl ?_
        refine g_iconst (v := 1) hC dX6_lawsNow_24 (by decide) rfl ?_
        refine g_iload_n hC dX6_lawsNow_25 rfl 3 rfl rfl ?_
        refine g_ishl hC dX6_lawsNow_26 rfl ?_
        refine g_ior hC dX6_lawsNow_27 rfl ?_
        refine g_istore_n (lv' := [(2, .int (y2 ||| ((1 : Int32) <<< (y3 &&& 31)))), (0, .ref aWE), (1, .ref aRE), (3, .int y3)]) hC dX6_lawsNow_28 rfl (by decide) rfl rfl ?_
        refine g_iinc (v := (y3 + 1)) (lv' := [(3, .int (y3 + 1)), (2, .int (y2 ||| ((1 : Int32) <<< (y3 &&& 31)))), (0, .ref aWE), (1, .ref aRE)]) hC dX6_lawsNow_29 3 rfl rfl (by decide) rfl rfl ?_
        refine g_goto (tgt := 4) hC dX6_lawsNow_32 (by decide) ?_
        refine g_sub [2, 3, 1, 0] rfl ?_
        exact ih (y2 ||| ((1 : Int32) <<< (y3 &&& 31))) (y3 + 1) (up_dec c_9 hm) (up_nn c_9 h0_y3) hres
set_option maxRecDepth 100000 in
set_option maxHeartbeats 4000000 in
theorem c_X6_lawsNow (D : va_G) (cI : ClassId) (aWE : Nat) (aWeS : Nat) (aWeD : Nat) (wEv : Int32) (wActs : Int32) (wLast : Int32) (wWrong : Int32) (wD : Nat → Int32) (aRE : Nat) (aReS : Nat) (aReH : Nat) (aReK : Nat) (aReO : Nat) (aReD : Nat) (cDays : Int32) (cLin : Int32) : MC yX6_lawsNow wsX6_lawsNow ({ frames := 1, cells := 0, slots := 0, locals := 21 } : Room) D [(cI, .int)] [.ref aWE, .ref aRE] [(aWE, .inr (6, [.ref aWeS, .ref aWeD, .int wEv, .int wActs, .int wLast, .int wWrong])), (aWeD, .inl (cI, 5, .inl wD)), (aRE, .inr (2, [.ref aReS, .ref aReH, .ref aReK, .ref aReO, .ref aReD, .int cDays, .int cLin]))] (some (.int (m_X6_lawsNow wD cLin))) [(aWE, .inr (6, [.ref aWeS, .ref aWeD, .int wEv, .int wActs, .int wLast, .int wWrong])), (aWeD, .inl (cI, 5, .inl wD)), (aRE, .inr (2, [.ref aReS, .ref aReH, .ref aReK, .ref aReO, .ref aReD, .int cDays, .int cLin]))] := by
  refine g_entry (by decide) rfl rfl rfl rfl (Nat.le_of_ble_eq_true rfl) (lv := [(0, .ref aWE), (1, .ref aRE)]) rfl ?_
  intro X hC hX
  obtain ⟨res, hres⟩ : ∃ z, z = (m_X6_lawsNow wD cLin) := ⟨_, rfl⟩
  rw [← hres] at hX
  rw [m_X6_lawsNow] at hres
  refine g_iconst (v := 0) hC dX6_lawsNow_0 (by decide) rfl ?_
  refine g_istore_n (lv' := [(2, .int (0 : Int32)), (0, .ref aWE), (1, .ref aRE)]) hC dX6_lawsNow_1 rfl (by decide) rfl rfl ?_
  refine g_iconst (v := 0) hC dX6_lawsNow_2 (by decide) rfl ?_
  refine g_istore_n (lv' := [(3, .int (0 : Int32)), (2, .int (0 : Int32)), (0, .ref aWE), (1, .ref aRE)]) hC dX6_lawsNow_3 rfl (by decide) rfl rfl ?_
  refine g_sub [2, 3, 1, 0] rfl ?_
  exact l_X6_lawsNow_4 D cI aWE aWeS aWeD wEv wActs wLast wWrong wD aRE aReS aReH aReK aReO aReD cDays cLin  hC hX ((cLin.toInt - (0 : Int32).toInt).toNat + 1) (0 : Int32) (0 : Int32) (Nat.lt_succ_self _) (by decide) hres
theorem iw_X6_eveningComes_RX2 : ∀ w ∈ wsX20, w ∈ wsX6_eveningComes := fun _ h => List.mem_cons_of_mem _ (List.mem_append_right _ (h))
theorem iw_X6_eveningComes_RX6 : ∀ w ∈ wsX60, w ∈ wsX6_eveningComes := fun _ h => List.mem_cons_of_mem _ (List.mem_append_left _ (List.mem_append_right _ (h)))
def m_X6_eveningComes_15 : Nat → Int32 → (Nat → Int32) → (Nat → Int32) → Int32 → Int32 → Int32 → (Nat → Int32) → (Int32 × Int32 × Int32 × (Nat → Int32))
  | 0, _, _, _, _, _, _, _ => default
  | fu + 1, cLin, cH, cK, k_wEv, k_wLast, y2, z_wD => (if cLin ≤ y2 then ((1 : Int32), (k_wEv + (1 : Int32)), (k_wLast &&& (m_X6_lawsNow z_wD cLin)), z_wD) else (m_X6_eveningComes_15 fu cLin cH cK k_wEv k_wLast (y2 + 1) (m_X7_set 5 z_wD y2 (if (0 : Int32) < ((m_X7_at 5 z_wD y2) - (m_X2_drying cH cK y2 k_wEv)) then ((m_X7_at 5 z_wD y2) - (m_X2_drying cH cK y2 k_wEv)) else (0 : Int32)))))
def m_X6_eveningComes (wEv : Int32) (wLast : Int32) (wD : Nat → Int32) (cDays : Int32) (cLin : Int32) (cH : Nat → Int32) (cK : Nat → Int32) : (Int32 × Int32 × Int32 × (Nat → Int32)) := (if wEv < cDays then (m_X6_eveningComes_15 ((cLin.toInt - (0 : Int32).toInt).toNat + 1) cLin cH cK wEv wLast (0 : Int32) wD) else ((0 : Int32), wEv, wLast, wD))
set_option maxRecDepth 100000 in
set_option maxHeartbeats 4000000 in
theorem l_X6_eveningComes_15 {X : gX} (D : va_G) (cI : ClassId) (aWE : Nat) (aWeS : Nat) (aWeD : Nat) (wEv : Int32) (wActs : Int32) (wLast : Int32) (wWrong : Int32) (wD : Nat → Int32) (aRE : Nat) (aReS : Nat) (aReH : Nat) (aReK : Nat) (aReO : Nat) (aReD : Nat) (cDays : Int32) (cLin : Int32) (cH : Nat → Int32) (cK : Nat → Int32) (k_wEv : Int32) (k_wLast : Int32) (hC : Cx X cX6_eveningComes 3 RX6 wsX6_eveningComes D [(cI, .int)] ({ frames := 2, cells := 0, slots := 0, locals := 45 } : Room) (some .boolean)) {res : (Int32 × Int32 × Int32 × (Nat → Int32))} (hX : Rx X D (some (.int res.1)) [(aWE, .inr (6, [.ref aWeS, .ref aWeD, .int res.2.1, .int wActs, .int res.2.2.1, .int wWrong])), (aWeD, .inl (cI, 5, .inl res.2.2.2)), (aRE, .inr (2, [.ref aReS, .ref aReH, .ref aReK, .ref aReO, .ref aReD, .int cDays, .int cLin])), (aReH, .inl (cI, 6, .inl cH)), (aReK, .inl (cI, 5, .inl cK))]) : ∀ (fu : Nat) (y2 : Int32) (z_wD : Nat → Int32) (hm : (cLin.toInt - y2.toInt).toNat < fu) (h0_y2 : 0 ≤ y2.toInt) (hres : res = m_X6_eveningComes_15 fu cLin cH cK k_wEv k_wLast y2 z_wD), G X D 3 [(aWE, .inr (6, [.ref aWeS, .ref aWeD, .int k_wEv, .int wActs, .int k_wLast, .int wWrong])), (aWeD, .inl (cI, 5, .inl z_wD)), (aRE, .inr (2, [.ref aReS, .ref aReH, .ref aReK, .ref aReO, .ref aReD, .int cDays, .int cLin])), (aReH, .inl (cI, 6, .inl cH)), (aReK, .inl (cI, 5, .inl cK))] [(0, .ref aWE), (1, .ref aRE), (2, .int y2)] 15 [] := by
  intro fu
  induction fu with
  | zero =>
    intro y2 z_wD hm
    exact absurd hm (Nat.not_lt_zero _)
  | succ fu ih =>
    intro y2 z_wD hm h0_y2 hres
    rw [m_X6_eveningComes_15] at hres
    refine g_iload_n hC dX6_eveningComes_15 rfl 2 rfl rfl ?_
    refine g_aload_n hC dX6_eveningComes_16 rfl 1 rfl rfl ?_
    refine g_get hC iw_X6_eveningComes_RX2 2 rfl rfl 6 (by decide) (List.mem_of_getElem? (i := 3) rfl) rfl rfl dX6_eveningComes_17 rfl ?_
    refine g_icmp_ge (tgt := 59) hC dX6_eveningComes_20 (by decide) rfl (fun c_20 => ?_) (fun c_20 => ?_)
    · rw [if_pos c_20] at hres
      refine g_aload_n hC dX6_eveningComes_59 rfl 0 rfl rfl ?_
      refine g_dup hC dX6_eveningComes_60 rfl rfl ?_
      refine g_get hC iw_X6_eveningComes_RX6 0 rfl rfl 2 (by decide) (List.mem_of_getElem? (i := 1) rfl) rfl rfl dX6_eveningComes_61 rfl ?_
      refine g_iconst (v := 1) hC dX6_eveningComes_64 (by decide) rfl ?_
      refine g_iadd hC dX6_eveningComes_65 rfl ?_
      refine g_put (ws' := [(aWE, .inr (6, [.ref aWeS, .ref aWeD, .int (k_wEv + (1 : Int32)), .int wActs, .int k_wLast, .int wWrong])), (aWeD, .inl (cI, 5, .inl z_wD)), (aRE, .inr (2, [.ref aReS, .ref aReH, .ref aReK, .ref aReO, .ref aReD, .int cDays, .int cLin])), (aReH, .inl (cI, 6, .inl cH)), (aReK, .inl (cI, 5, .inl cK))]) hC iw_X6_eveningComes_RX6 0 rfl rfl 2 (by decide) (List.mem_of_getElem? (i := 1) rfl) rfl tyX6 tyX6_ok nmX6 rfl rfl rfl (Nat.le_of_ble_eq_true rfl) rfl dX6_eveningComes_66 rfl ?_
      refine g_aload_n hC dX6_eveningComes_69 rfl 0 rfl rfl ?_
      refine g_dup hC dX6_eveningComes_70 rfl rfl ?_
      refine g_get hC iw_X6_eveningComes_RX6 0 rfl rfl 4 (by decide) (List.mem_of_getElem? (i := 9) rfl) rfl rfl dX6_eveningComes_71 rfl ?_
      refine g_aload_n hC dX6_eveningComes_74 rfl 0 rfl rfl ?_
      refine g_aload_n hC dX6_eveningComes_75 rfl 1 rfl rfl ?_
      refine g_callV (ws' := [(aWE, .inr (6, [.ref aWeS, .ref aWeD, .int (k_wEv + (1 : Int32)), .int wActs, .int k_wLast, .int wWrong])), (aWeD, .inl (cI, 5, .inl z_wD)), (aRE, .inr (2, [.ref aReS, .ref aReH, .ref aReK, .ref aReO, .ref aReD, .int cDays, .int cLin])), (aReH, .inl (cI, 6, .inl cH)), (aReK, .inl (cI, 5, .inl cK))]) (st' := [.int (m_X6_lawsNow z_wD cLin), .int k_wLast, .ref aWE]) (nw := 5) (n1 := 3) hC gX6_eveningComes_X6_lawsNow hdV_yX6_lawsNow 0 rfl rfl (As := [.ref aRE]) (rest := [.int k_wLast, .ref aWE]) (c_X6_lawsNow D cI aWE aWeS aWeD (k_wEv + (1 : Int32)) wActs k_wLast wWrong z_wD aRE aReS aReH aReK aReO aReD cDays cLin) rfl ⟨by decide, by decide⟩ rfl [0, 1, 2] [3, 4] [2, 3, 4, 0, 1] [0] rfl rfl rfl rfl (by decide) rfl rfl (Nat.le_of_ble_eq_true rfl) dX6_eveningComes_76 rfl rfl ?_
      refine g_iand hC dX6_eveningComes_79 rfl ?_
      refine g_put (ws' := [(aWE, .inr (6, [.ref aWeS, .ref aWeD, .int (k_wEv + (1 : Int32)), .int wActs, .int (k_wLast &&& (m_X6_lawsNow z_wD cLin)), .int wWrong])), (aWeD, .inl (cI, 5, .inl z_wD)), (aRE, .inr (2, [.ref aReS, .ref aReH, .ref aReK, .ref aReO, .ref aReD, .int cDays, .int cLin])), (aReH, .inl (cI, 6, .inl cH)), (aReK, .inl (cI, 5, .inl cK))]) hC iw_X6_eveningComes_RX6 0 rfl rfl 4 (by decide) (List.mem_of_getElem? (i := 9) rfl) rfl tyX6 tyX6_ok nmX6 rfl rfl rfl (Nat.le_of_ble_eq_true rfl) rfl dX6_eveningComes_80 rfl ?_
      refine g_iconst (v := 1) hC dX6_eveningComes_83 (by decide) rfl ?_
      subst hres
      exact g_zret hC hX rfl rfl dX6_eveningComes_84 rfl rfl
    · rw [if_neg c_20] at hres
      refine g_aload_n hC dX6_eveningComes_23 rfl 0 rfl rfl ?_
      refine g_get hC iw_X6_eveningComes_RX6 0 rfl rfl 1 (by decide) (List.mem_of_getElem? (i := 4) rfl) rfl rfl dX6_eveningComes_24 rfl ?_
      refine g_iload_n hC dX6_eveningComes_27 rfl 2 rfl rfl ?_
      refine g_iconst (v := 0) hC dX6_eveningComes_28 (by decide) rfl ?_
      refine g_aload_n hC dX6_eveningComes_29 rfl 0 rfl rfl ?_
      refine g_get hC iw_X6_eveningComes_RX6 0 rfl rfl 1 (by decide) (List.mem_of_getElem? (i := 4) rfl) rfl rfl dX6_eveningComes_30 rfl ?_
      refine g_iload_n hC dX6_eveningComes_33 rfl 2 rfl rfl ?_
      refine g_callN (ws' := [(aWE, .inr (6, [.ref aWeS, .ref aWeD, .int k_wEv, .int wActs, .int k_wLast, .int wWrong])), (aWeD, .inl (cI, 5, .inl z_wD)), (aRE, .inr (2, [.ref aReS, .ref aReH, .ref aReK, .ref aReO, .ref aReD, .int cDays, .int cLin])), (aReH, .inl (cI, 6, .inl cH)), (aReK, .inl (cI, 5, .inl cK))]) (st' := [.int (m_X7_at 5 z_wD y2), .int (0 : Int32), .int y2, .ref aWeD]) (nw := 5) (n1 := 1) hC gX6_eveningComes_X7_at_n62 (List.mem_of_getElem? (i := 19) rfl) (List.mem_of_getElem? (i := 11) rfl) (List.mem_of_getElem? (i := 10) rfl) hdS_yX7_at (As := [.ref aWeD, .int y2]) (rest := [.int (0 : Int32), .int y2, .ref aWeD]) (c_X7_at D cI aWeD 5 z_wD y2 (by decide)) rfl ⟨by decide, by decide⟩ rfl [1] [0, 2, 3, 4] [0, 4, 1, 2, 3] [0] rfl rfl rfl rfl (by decide) rfl rfl (Nat.le_of_ble_eq_true rfl) dX6_eveningComes_34 rfl rfl ?_
      refine g_aload_n hC dX6_eveningComes_37 rfl 1 rfl rfl ?_
      refine g_iload_n hC dX6_eveningComes_38 rfl 2 rfl rfl ?_
      refine g_aload_n hC dX6_eveningComes_39 rfl 0 rfl rfl ?_
      refine g_get hC iw_X6_eveningComes_RX6 0 rfl rfl 2 (by decide) (List.mem_of_getElem? (i := 1) rfl) rfl rfl dX6_eveningComes_40 rfl ?_
      refine g_callV (ws' := [(aWE, .inr (6, [.ref aWeS, .ref aWeD, .int k_wEv, .int wActs, .int k_wLast, .int wWrong])), (aWeD, .inl (cI, 5, .inl z_wD)), (aRE, .inr (2, [.ref aReS, .ref aReH, .ref aReK, .ref aReO, .ref aReD, .int cDays, .int cLin])), (aReH, .inl (cI, 6, .inl cH)), (aReK, .inl (cI, 5, .inl cK))]) (st' := [.int (m_X2_drying cH cK y2 k_wEv), .int (m_X7_at 5 z_wD y2), .int (0 : Int32), .int y2, .ref aWeD]) (nw := 5) (n1 := 3) hC gX6_eveningComes_X2_drying hdV_yX2_drying 2 rfl rfl (As := [.int y2, .int k_wEv]) (rest := [.int (m_X7_at 5 z_wD y2), .int (0 : Int32), .int y2, .ref aWeD]) (c_X2_drying D cI aRE aReS aReH aReK aReO aReD cDays cLin cH cK y2 k_wEv) rfl ⟨by decide, by decide⟩ rfl [2, 3, 4] [0, 1] [0, 1, 2, 3, 4] [0] rfl rfl rfl rfl (by decide) rfl rfl (Nat.le_of_ble_eq_true rfl) dX6_eveningComes_43 rfl rfl ?_
      refine g_isub hC dX6_eveningComes_46 rfl ?_
      refine g_mmax hC (List.mem_of_getElem? (i := 5) rfl) (List.mem_of_getElem? (i := 6) rfl) (List.mem_of_getElem? (i := 7) rfl) (List.mem_of_getElem? (i := 8) rfl) (by decide) (Nat.le_of_ble_eq_true rfl) dX6_eveningComes_47 rfl ?_
      refine g_callN (ws' := [(aWE, .inr (6, [.ref aWeS, .ref aWeD, .int k_wEv, .int wActs, .int k_wLast, .int wWrong])), (aWeD, .inl (cI, 5, .inl (m_X7_set 5 z_wD y2 (if (0 : Int32) < ((m_X7_at 5 z_wD y2) - (m_X2_drying cH cK y2 k_wEv)) then ((m_X7_at 5 z_wD y2) - (m_X2_drying cH cK y2 k_wEv)) else (0 : Int32))))), (aRE, .inr (2, [.ref aReS, .ref aReH, .ref aReK, .ref aReO, .ref aReD, .int cDays, .int cLin])), (aReH, .inl (cI, 6, .inl cH)), (aReK, .inl (cI, 5, .inl cK))]) (st' := []) (nw := 5) (n1 := 1) hC gX6_eveningComes_X7_set_n66 (List.mem_of_getElem? (i := 20) rfl) (List.mem_of_getElem? (i := 11) rfl) (List.mem_of_getElem? (i := 24) rfl) hdS_yX7_set (As := [.ref aWeD, .int y2, .int (if (0 : Int32) < ((m_X7_at 5 z_wD y2) - (m_X2_drying cH cK y2 k_wEv)) then ((m_X7_at 5 z_wD y2) - (m_X2_drying cH cK y2 k_wEv)) else (0 : Int32))]) (rest := []) (c_X7_set D cI aWeD 5 z_wD y2 (if (0 : Int32) < ((m_X7_at 5 z_wD y2) - (m_X2_drying cH cK y2 k_wEv)) then ((m_X7_at 5 z_wD y2) - (m_X2_drying cH cK y2 k_wEv)) else (0 : Int32)) (by decide)) rfl ⟨by decide, by decide⟩ rfl [1] [0, 2, 3, 4] [0, 4, 1, 2, 3] [0] rfl rfl rfl rfl (by decide) rfl rfl (Nat.le_of_ble_eq_true rfl) dX6_eveningComes_50 rfl rfl ?_
      refine g_iinc (v := (y2 + 1)) (lv' := [(2, .int (y2 + 1)), (0, .ref aWE), (1, .ref aRE)]) hC dX6_eveningComes_53 2 rfl rfl (by decide) rfl rfl ?_
      refine g_goto (tgt := 15) hC dX6_eveningComes_56 (by decide) ?_
      refine g_sub [1, 2, 0] rfl ?_
      exact ih (y2 + 1) (m_X7_set 5 z_wD y2 (if (0 : Int32) < ((m_X7_at 5 z_wD y2) - (m_X2_drying cH cK y2 k_wEv)) then ((m_X7_at 5 z_wD y2) - (m_X2_drying cH cK y2 k_wEv)) else (0 : Int32))) (up_dec c_20 hm) (up_nn c_20 h0_y2) hres
set_option maxRecDepth 100000 in
set_option maxHeartbeats 4000000 in
theorem c_X6_eveningComes (D : va_G) (cI : ClassId) (aWE : Nat) (aWeS : Nat) (aWeD : Nat) (wEv : Int32) (wActs : Int32) (wLast : Int32) (wWrong : Int32) (wD : Nat → Int32) (aRE : Nat) (aReS : Nat) (aReH : Nat) (aReK : Nat) (aReO : Nat) (aReD : Nat) (cDays : Int32) (cLin : Int32) (cH : Nat → Int32) (cK : Nat → Int32) : MC yX6_eveningComes wsX6_eveningComes ({ frames := 2, cells := 0, slots := 0, locals := 45 } : Room) D [(cI, .int)] [.ref aWE, .ref aRE] [(aWE, .inr (6, [.ref aWeS, .ref aWeD, .int wEv, .int wActs, .int wLast, .int wWrong])), (aWeD, .inl (cI, 5, .inl wD)), (aRE, .inr (2, [.ref aReS, .ref aReH, .ref aReK, .ref aReO, .ref aReD, .int cDays, .int cLin])), (aReH, .inl (cI, 6, .inl cH)), (aReK, .inl (cI, 5, .inl cK))] (some (.int ((m_X6_eveningComes wEv wLast wD cDays cLin cH cK).1))) [(aWE, .inr (6, [.ref aWeS, .ref aWeD, .int ((m_X6_eveningComes wEv wLast wD cDays cLin cH cK).2.1), .int wActs, .int ((m_X6_eveningComes wEv wLast wD cDays cLin cH cK).2.2.1), .int wWrong])), (aWeD, .inl (cI, 5, .inl ((m_X6_eveningComes wEv wLast wD cDays cLin cH cK).2.2.2))), (aRE, .inr (2, [.ref aReS, .ref aReH, .ref aReK, .ref aReO, .ref aReD, .int cDays, .int cLin])), (aReH, .inl (cI, 6, .inl cH)), (aReK, .inl (cI, 5, .inl cK))] := by
  refine g_entry (by decide) rfl rfl rfl rfl (Nat.le_of_ble_eq_true rfl) (lv := [(0, .ref aWE), (1, .ref aRE)]) rfl ?_
  intro X hC hX
  obtain ⟨res, hres⟩ : ∃ z, z = (m_X6_eveningComes wEv wLast wD cDays cLin cH cK) := ⟨_, rfl⟩
  rw [← hres] at hX
  rw [m_X6_eveningComes] at hres
  refine g_aload_n hC dX6_eveningComes_0 rfl 0 rfl rfl ?_
  refine g_get hC iw_X6_eveningComes_RX6 0 rfl rfl 2 (by decide) (List.mem_of_getElem? (i := 1) rfl) rfl rfl dX6_eveningComes_1 rfl ?_
  refine g_aload_n hC dX6_eveningComes_4 rfl 1 rfl rfl ?_
  refine g_get hC iw_X6_eveningComes_RX2 2 rfl rfl 5 (by decide) (List.mem_of_getElem? (i := 2) rfl) rfl rfl dX6_eveningComes_5 rfl ?_
  refine g_icmp_lt (tgt := 13) hC dX6_eveningComes_8 (by decide) rfl (fun c_8 => ?_) (fun c_8 => ?_)
  · rw [if_pos c_8] at hres
    refine g_iconst (v := 0) hC dX6_eveningComes_13 (by decide) rfl ?_
    refine g_istore_n (lv' := [(2, .int (0 : Int32)), (0, .ref aWE), (1, .ref aRE)]) hC dX6_eveningComes_14 rfl (by decide) rfl rfl ?_
    refine g_sub [1, 2, 0] rfl ?_
    exact l_X6_eveningComes_15 D cI aWE aWeS aWeD wEv wActs wLast wWrong wD aRE aReS aReH aReK aReO aReD cDays cLin cH cK wEv wLast  hC hX ((cLin.toInt - (0 : Int32).toInt).toNat + 1) (0 : Int32) wD (Nat.lt_succ_self _) (by decide) hres
  · rw [if_neg c_8] at hres
    refine g_iconst (v := 0) hC dX6_eveningComes_11 (by decide) rfl ?_
    subst hres
    exact g_zret hC hX rfl rfl dX6_eveningComes_12 rfl rfl
theorem iw_X6_weeps_RX2 : ∀ w ∈ wsX20, w ∈ wsX6_weeps := fun _ h => List.mem_cons_of_mem _ (List.mem_append_right _ (h))
theorem iw_X6_weeps_RX6 : ∀ w ∈ wsX60, w ∈ wsX6_weeps := fun _ h => List.mem_cons_of_mem _ (List.mem_append_left _ (List.mem_append_right _ (h)))
def m_X6_weeps (wActs : Int32) (wS : Nat → Int32) (wD : Nat → Int32) (cO_ : Nat → Int32) (w : Int32) (l : Int32) : (Int32 × Int32 × (Nat → Int32) × (Nat → Int32)) := (if 0 < (m_X7_at 4 wS w) then (if (if (m_X7_at 5 cO_ l) = w then (1 : Int32) else (0 : Int32)) = 0 then ((1 : Int32), (wActs + (1 : Int32)), (m_X7_set 4 wS w ((m_X7_at 4 wS w) - (1 : Int32))), (m_X7_set 5 wD l (0 : Int32))) else ((1 : Int32), (wActs + (1 : Int32)), (m_X7_set 4 wS w ((m_X7_at 4 wS w) - (1 : Int32))), (m_X7_set 5 wD l (if ((m_X7_at 5 wD l) + (3 : Int32)) < (9 : Int32) then ((m_X7_at 5 wD l) + (3 : Int32)) else (9 : Int32))))) else ((0 : Int32), wActs, wS, wD))
set_option maxRecDepth 100000 in
set_option maxHeartbeats 4000000 in
theorem c_X6_weeps (D : va_G) (cI : ClassId) (aWE : Nat) (aWeS : Nat) (aWeD : Nat) (wEv : Int32) (wActs : Int32) (wLast : Int32) (wWrong : Int32) (wS : Nat → Int32) (wD : Nat → Int32) (aRE : Nat) (aReS : Nat) (aReH : Nat) (aReK : Nat) (aReO : Nat) (aReD : Nat) (cDays : Int32) (cLin : Int32) (cO_ : Nat → Int32) (w : Int32) (l : Int32) : MC yX6_weeps wsX6_weeps ({ frames := 1, cells := 0, slots := 0, locals := 22 } : Room) D [(cI, .int)] [.ref aWE, .ref aRE, .int w, .int l] [(aWE, .inr (6, [.ref aWeS, .ref aWeD, .int wEv, .int wActs, .int wLast, .int wWrong])), (aWeS, .inl (cI, 4, .inl wS)), (aWeD, .inl (cI, 5, .inl wD)), (aRE, .inr (2, [.ref aReS, .ref aReH, .ref aReK, .ref aReO, .ref aReD, .int cDays, .int cLin])), (aReO, .inl (cI, 5, .inl cO_))] (some (.int ((m_X6_weeps wActs wS wD cO_ w l).1))) [(aWE, .inr (6, [.ref aWeS, .ref aWeD, .int wEv, .int ((m_X6_weeps wActs wS wD cO_ w l).2.1), .int wLast, .int wWrong])), (aWeS, .inl (cI, 4, .inl ((m_X6_weeps wActs wS wD cO_ w l).2.2.1))), (aWeD, .inl (cI, 5, .inl ((m_X6_weeps wActs wS wD cO_ w l).2.2.2))), (aRE, .inr (2, [.ref aReS, .ref aReH, .ref aReK, .ref aReO, .ref aReD, .int cDays, .int cLin])), (aReO, .inl (cI, 5, .inl cO_))] := by
  refine g_entry (by decide) rfl rfl rfl rfl (Nat.le_of_ble_eq_true rfl) (lv := [(0, .ref aWE), (1, .ref aRE), (2, .int w), (3, .int l)]) rfl ?_
  intro X hC hX
  obtain ⟨res, hres⟩ : ∃ z, z = (m_X6_weeps wActs wS wD cO_ w l) := ⟨_, rfl⟩
  rw [← hres] at hX
  rw [m_X6_weeps] at hres
  refine g_aload_n hC dX6_weeps_0 rfl 0 rfl rfl ?_
  refine g_get hC iw_X6_weeps_RX6 0 rfl rfl 0 (by decide) (List.mem_of_getElem? (i := 1) rfl) rfl rfl dX6_weeps_1 rfl ?_
  refine g_iload_n hC dX6_weeps_4 rfl 2 rfl rfl ?_
  refine g_callN (ws' := [(aWE, .inr (6, [.ref aWeS, .ref aWeD, .int wEv, .int wActs, .int wLast, .int wWrong])), (aWeS, .inl (cI, 4, .inl wS)), (aWeD, .inl (cI, 5, .inl wD)), (aRE, .inr (2, [.ref aReS, .ref aReH, .ref aReK, .ref aReO, .ref aReD, .int cDays, .int cLin])), (aReO, .inl (cI, 5, .inl cO_))]) (st' := [.int (m_X7_at 4 wS w)]) (nw := 5) (n1 := 1) hC gX6_weeps_X7_at_n62 (List.mem_of_getElem? (i := 19) rfl) (List.mem_of_getElem? (i := 10) rfl) (List.mem_of_getElem? (i := 9) rfl) hdS_yX7_at (As := [.ref aWeS, .int w]) (rest := []) (c_X7_at D cI aWeS 4 wS w (by decide)) rfl ⟨by decide, by decide⟩ rfl [1] [0, 2, 3, 4] [0, 4, 1, 2, 3] [0] rfl rfl rfl rfl (by decide) rfl rfl (Nat.le_of_ble_eq_true rfl) dX6_weeps_5 rfl rfl ?_
  refine g_if_gt (tgt := 13) hC dX6_weeps_8 (by decide) rfl (fun c_8 => ?_) (fun c_8 => ?_)
  · rw [if_pos c_8] at hres
    refine g_aload_n hC dX6_weeps_13 rfl 0 rfl rfl ?_
    refine g_get hC iw_X6_weeps_RX6 0 rfl rfl 0 (by decide) (List.mem_of_getElem? (i := 1) rfl) rfl rfl dX6_weeps_14 rfl ?_
    refine g_iload_n hC dX6_weeps_17 rfl 2 rfl rfl ?_
    refine g_aload_n hC dX6_weeps_18 rfl 0 rfl rfl ?_
    refine g_get hC iw_X6_weeps_RX6 0 rfl rfl 0 (by decide) (List.mem_of_getElem? (i := 1) rfl) rfl rfl dX6_weeps_19 rfl ?_
    refine g_iload_n hC dX6_weeps_22 rfl 2 rfl rfl ?_
    refine g_callN (ws' := [(aWE, .inr (6, [.ref aWeS, .ref aWeD, .int wEv, .int wActs, .int wLast, .int wWrong])), (aWeS, .inl (cI, 4, .inl wS)), (aWeD, .inl (cI, 5, .inl wD)), (aRE, .inr (2, [.ref aReS, .ref aReH, .ref aReK, .ref aReO, .ref aReD, .int cDays, .int cLin])), (aReO, .inl (cI, 5, .inl cO_))]) (st' := [.int (m_X7_at 4 wS w), .int w, .ref aWeS]) (nw := 5) (n1 := 1) hC gX6_weeps_X7_at_n62 (List.mem_of_getElem? (i := 19) rfl) (List.mem_of_getElem? (i := 10) rfl) (List.mem_of_getElem? (i := 9) rfl) hdS_yX7_at (As := [.ref aWeS, .int w]) (rest := [.int w, .ref aWeS]) (c_X7_at D cI aWeS 4 wS w (by decide)) rfl ⟨by decide, by decide⟩ rfl [1] [0, 2, 3, 4] [0, 4, 1, 2, 3] [0] rfl rfl rfl rfl (by decide) rfl rfl (Nat.le_of_ble_eq_true rfl) dX6_weeps_23 rfl rfl ?_
    refine g_iconst (v := 1) hC dX6_weeps_26 (by decide) rfl ?_
    refine g_isub hC dX6_weeps_27 rfl ?_
    refine g_callN (ws' := [(aWE, .inr (6, [.ref aWeS, .ref aWeD, .int wEv, .int wActs, .int wLast, .int wWrong])), (aWeS, .inl (cI, 4, .inl (m_X7_set 4 wS w ((m_X7_at 4 wS w) - (1 : Int32))))), (aWeD, .inl (cI, 5, .inl wD)), (aRE, .inr (2, [.ref aReS, .ref aReH, .ref aReK, .ref aReO, .ref aReD, .int cDays, .int cLin])), (aReO, .inl (cI, 5, .inl cO_))]) (st' := []) (nw := 5) (n1 := 1) hC gX6_weeps_X7_set_n66 (List.mem_of_getElem? (i := 20) rfl) (List.mem_of_getElem? (i := 10) rfl) (List.mem_of_getElem? (i := 12) rfl) hdS_yX7_set (As := [.ref aWeS, .int w, .int ((m_X7_at 4 wS w) - (1 : Int32))]) (rest := []) (c_X7_set D cI aWeS 4 wS w ((m_X7_at 4 wS w) - (1 : Int32)) (by decide)) rfl ⟨by decide, by decide⟩ rfl [1] [0, 2, 3, 4] [0, 4, 1, 2, 3] [0] rfl rfl rfl rfl (by decide) rfl rfl (Nat.le_of_ble_eq_true rfl) dX6_weeps_28 rfl rfl ?_
    refine g_aload_n hC dX6_weeps_31 rfl 1 rfl rfl ?_
    refine g_get hC iw_X6_weeps_RX2 3 rfl rfl 3 (by decide) (List.mem_of_getElem? (i := 2) rfl) rfl rfl dX6_weeps_32 rfl ?_
    refine g_iload_n hC dX6_weeps_35 rfl 3 rfl rfl ?_
    refine g_callN (ws' := [(aWE, .inr (6, [.ref aWeS, .ref aWeD, .int wEv, .int wActs, .int wLast, .int wWrong])), (aWeS, .inl (cI, 4, .inl (m_X7_set 4 wS w ((m_X7_at 4 wS w) - (1 : Int32))))), (aWeD, .inl (cI, 5, .inl wD)), (aRE, .inr (2, [.ref aReS, .ref aReH, .ref aReK, .ref aReO, .ref aReD, .int cDays, .int cLin])), (aReO, .inl (cI, 5, .inl cO_))]) (st' := [.int (m_X7_at 5 cO_ l)]) (nw := 5) (n1 := 1) hC gX6_weeps_X7_at_n62 (List.mem_of_getElem? (i := 19) rfl) (List.mem_of_getElem? (i := 10) rfl) (List.mem_of_getElem? (i := 9) rfl) hdS_yX7_at (As := [.ref aReO, .int l]) (rest := []) (c_X7_at D cI aReO 5 cO_ l (by decide)) rfl ⟨by decide, by decide⟩ rfl [4] [0, 1, 2, 3] [0, 1, 2, 3, 4] [0] rfl rfl rfl rfl (by decide) rfl rfl (Nat.le_of_ble_eq_true rfl) dX6_weeps_36 rfl rfl ?_
    refine g_iload_n hC dX6_weeps_39 rfl 2 rfl rfl ?_
    have K_40 : ∀ vK : Int32, vK = (if (m_X7_at 5 cO_ l) = w then (1 : Int32) else (0 : Int32)) → G X D 5 [(aWE, .inr (6, [.ref aWeS, .ref aWeD, .int wEv, .int wActs, .int wLast, .int wWrong])), (aWeS, .inl (cI, 4, .inl (m_X7_set 4 wS w ((m_X7_at 4 wS w) - (1 : Int32))))), (aWeD, .inl (cI, 5, .inl wD)), (aRE, .inr (2, [.ref aReS, .ref aReH, .ref aReK, .ref aReO, .ref aReD, .int cDays, .int cLin])), (aReO, .inl (cI, 5, .inl cO_))] [(0, .ref aWE), (1, .ref aRE), (2, .int w), (3, .int l)] 48 (.int vK :: []) := by
      intro vK hvK
      subst hvK
      refine g_istore (lv' := [(4, .int (if (m_X7_at 5 cO_ l) = w then (1 : Int32) else (0 : Int32))), (0, .ref aWE), (1, .ref aRE), (2, .int w), (3, .int l)]) hC dX6_weeps_48 (by decide) rfl rfl ?_
      refine g_aload_n hC dX6_weeps_50 rfl 1 rfl rfl ?_
      refine g_get hC iw_X6_weeps_RX6 0 rfl rfl 1 (by decide) (List.mem_of_getElem? (i := 3) rfl) rfl rfl dX6_weeps_51 rfl ?_
      refine g_iload_n hC dX6_weeps_54 rfl 4 rfl rfl ?_
      refine g_iload hC dX6_weeps_55 0 rfl rfl ?_
      refine g_if_eq (tgt := 78) hC dX6_weeps_57 (by decide) rfl (fun c_57 => ?_) (fun c_57 => ?_)
      · rw [if_pos c_57] at hres
        refine g_iconst (v := 0) hC dX6_weeps_78 (by decide) rfl ?_
        refine g_callN (ws' := [(aWE, .inr (6, [.ref aWeS, .ref aWeD, .int wEv, .int wActs, .int wLast, .int wWrong])), (aWeS, .inl (cI, 4, .inl (m_X7_set 4 wS w ((m_X7_at 4 wS w) - (1 : Int32))))), (aWeD, .inl (cI, 5, .inl (m_X7_set 5 wD l (0 : Int32)))), (aRE, .inr (2, [.ref aReS, .ref aReH, .ref aReK, .ref aReO, .ref aReD, .int cDays, .int cLin])), (aReO, .inl (cI, 5, .inl cO_))]) (st' := []) (nw := 5) (n1 := 1) hC gX6_weeps_X7_set_n66 (List.mem_of_getElem? (i := 20) rfl) (List.mem_of_getElem? (i := 10) rfl) (List.mem_of_getElem? (i := 12) rfl) hdS_yX7_set (As := [.ref aWeD, .int l, .int (0 : Int32)]) (rest := []) (c_X7_set D cI aWeD 5 wD l (0 : Int32) (by decide)) rfl ⟨by decide, by decide⟩ rfl [2] [0, 1, 3, 4] [0, 1, 4, 2, 3] [0] rfl rfl rfl rfl (by decide) rfl rfl (Nat.le_of_ble_eq_true rfl) dX6_weeps_79 rfl rfl ?_
        refine g_aload_n hC dX6_weeps_82 rfl 1 rfl rfl ?_
        refine g_dup hC dX6_weeps_83 rfl rfl ?_
        refine g_get hC iw_X6_weeps_RX6 0 rfl rfl 3 (by decide) (List.mem_of_getElem? (i := 8) rfl) rfl rfl dX6_weeps_84 rfl ?_
        refine g_iconst (v := 1) hC dX6_weeps_87 (by decide) rfl ?_
        refine g_iadd hC dX6_weeps_88 rfl ?_
        refine g_put (ws' := [(aWE, .inr (6, [.ref aWeS, .ref aWeD, .int wEv, .int (wActs + (1 : Int32)), .int wLast, .int wWrong])), (aWeS, .inl (cI, 4, .inl (m_X7_set 4 wS w ((m_X7_at 4 wS w) - (1 : Int32))))), (aWeD, .inl (cI, 5, .inl (m_X7_set 5 wD l (0 : Int32)))), (aRE, .inr (2, [.ref aReS, .ref aReH, .ref aReK, .ref aReO, .ref aReD, .int cDays, .int cLin])), (aReO, .inl (cI, 5, .inl cO_))]) hC iw_X6_weeps_RX6 0 rfl rfl 3 (by decide) (List.mem_of_getElem? (i := 8) rfl) rfl tyX6 tyX6_ok nmX6 rfl rfl rfl (Nat.le_of_ble_eq_true rfl) rfl dX6_weeps_89 rfl ?_
        refine g_iconst (v := 1) hC dX6_weeps_92 (by decide) rfl ?_
        subst hres
        exact g_zret hC hX rfl rfl dX6_weeps_93 rfl rfl
      · rw [if_neg c_57] at hres
        refine g_bipush (v := 9) hC dX6_weeps_60 (by decide) rfl ?_
        refine g_aload_n hC dX6_weeps_62 rfl 1 rfl rfl ?_
        refine g_get hC iw_X6_weeps_RX6 0 rfl rfl 1 (by decide) (List.mem_of_getElem? (i := 3) rfl) rfl rfl dX6_weeps_63 rfl ?_
        refine g_iload_n hC dX6_weeps_66 rfl 4 rfl rfl ?_
        refine g_callN (ws' := [(aWE, .inr (6, [.ref aWeS, .ref aWeD, .int wEv, .int wActs, .int wLast, .int wWrong])), (aWeS, .inl (cI, 4, .inl (m_X7_set 4 wS w ((m_X7_at 4 wS w) - (1 : Int32))))), (aWeD, .inl (cI, 5, .inl wD)), (aRE, .inr (2, [.ref aReS, .ref aReH, .ref aReK, .ref aReO, .ref aReD, .int cDays, .int cLin])), (aReO, .inl (cI, 5, .inl cO_))]) (st' := [.int (m_X7_at 5 wD l), .int (9 : Int32), .int l, .ref aWeD]) (nw := 5) (n1 := 1) hC gX6_weeps_X7_at_n62 (List.mem_of_getElem? (i := 19) rfl) (List.mem_of_getElem? (i := 10) rfl) (List.mem_of_getElem? (i := 9) rfl) hdS_yX7_at (As := [.ref aWeD, .int l]) (rest := [.int (9 : Int32), .int l, .ref aWeD]) (c_X7_at D cI aWeD 5 wD l (by decide)) rfl ⟨by decide, by decide⟩ rfl [2] [0, 1, 3, 4] [0, 1, 4, 2, 3] [0] rfl rfl rfl rfl (by decide) rfl rfl (Nat.le_of_ble_eq_true rfl) dX6_weeps_67 rfl rfl ?_
        refine g_iconst (v := 3) hC dX6_weeps_70 (by decide) rfl ?_
        refine g_iadd hC dX6_weeps_71 rfl ?_
        refine g_mmin hC (List.mem_of_getElem? (i := 4) rfl) (List.mem_of_getElem? (i := 5) rfl) (List.mem_of_getElem? (i := 6) rfl) (List.mem_of_getElem? (i := 7) rfl) (by decide) (Nat.le_of_ble_eq_true rfl) dX6_weeps_72 rfl ?_
        refine g_goto (tgt := 79) hC dX6_weeps_75 (by decide) ?_
        refine g_callN (ws' := [(aWE, .inr (6, [.ref aWeS, .ref aWeD, .int wEv, .int wActs, .int wLast, .int wWrong])), (aWeS, .inl (cI, 4, .inl (m_X7_set 4 wS w ((m_X7_at 4 wS w) - (1 : Int32))))), (aWeD, .inl (cI, 5, .inl (m_X7_set 5 wD l (if ((m_X7_at 5 wD l) + (3 : Int32)) < (9 : Int32) then ((m_X7_at 5 wD l) + (3 : Int32)) else (9 : Int32))))), (aRE, .inr (2, [.ref aReS, .ref aReH, .ref aReK, .ref aReO, .ref aReD, .int cDays, .int cLin])), (aReO, .inl (cI, 5, .inl cO_))]) (st' := []) (nw := 5) (n1 := 1) hC gX6_weeps_X7_set_n66 (List.mem_of_getElem? (i := 20) rfl) (List.mem_of_getElem? (i := 10) rfl) (List.mem_of_getElem? (i := 12) rfl) hdS_yX7_set (As := [.ref aWeD, .int l, .int (if ((m_X7_at 5 wD l) + (3 : Int32)) < (9 : Int32) then ((m_X7_at 5 wD l) + (3 : Int32)) else (9 : Int32))]) (rest := []) (c_X7_set D cI aWeD 5 wD l (if ((m_X7_at 5 wD l) + (3 : Int32)) < (9 : Int32) then ((m_X7_at 5 wD l) + (3 : Int32)) else (9 : Int32)) (by decide)) rfl ⟨by decide, by decide⟩ rfl [2] [0, 1, 3, 4] [0, 1, 4, 2, 3] [0] rfl rfl rfl rfl (by decide) rfl rfl (Nat.le_of_ble_eq_true rfl) dX6_weeps_79 rfl rfl ?_
        refine g_aload_n hC dX6_weeps_82 rfl 1 rfl rfl ?_
        refine g_dup hC dX6_weeps_83 rfl rfl ?_
        refine g_get hC iw_X6_weeps_RX6 0 rfl rfl 3 (by decide) (List.mem_of_getElem? (i := 8) rfl) rfl rfl dX6_weeps_84 rfl ?_
        refine g_iconst (v := 1) hC dX6_weeps_87 (by decide) rfl ?_
        refine g_iadd hC dX6_weeps_88 rfl ?_
        refine g_put (ws' := [(aWE, .inr (6, [.ref aWeS, .ref aWeD, .int wEv, .int (wActs + (1 : Int32)), .int wLast, .int wWrong])), (aWeS, .inl (cI, 4, .inl (m_X7_set 4 wS w ((m_X7_at 4 wS w) - (1 : Int32))))), (aWeD, .inl (cI, 5, .inl (m_X7_set 5 wD l (if ((m_X7_at 5 wD l) + (3 : Int32)) < (9 : Int32) then ((m_X7_at 5 wD l) + (3 : Int32)) else (9 : Int32))))), (aRE, .inr (2, [.ref aReS, .ref aReH, .ref aReK, .ref aReO, .ref aReD, .int cDays, .int cLin])), (aReO, .inl (cI, 5, .inl cO_))]) hC iw_X6_weeps_RX6 0 rfl rfl 3 (by decide) (List.mem_of_getElem? (i := 8) rfl) rfl tyX6 tyX6_ok nmX6 rfl rfl rfl (Nat.le_of_ble_eq_true rfl) rfl dX6_weeps_89 rfl ?_
        refine g_iconst (v := 1) hC dX6_weeps_92 (by decide) rfl ?_
        subst hres
        exact g_zret hC hX rfl rfl dX6_weeps_93 rfl rfl
    refine g_icmp_ne (tgt := 47) hC dX6_weeps_40 (by decide) rfl (fun c_40 => ?_) (fun c_40 => ?_)
    · refine g_iconst (v := 0) hC dX6_weeps_47 (by decide) rfl ?_
      exact K_40 _ (if_neg c_40).symm
    · refine g_iconst (v := 1) hC dX6_weeps_43 (by decide) rfl ?_
      refine g_goto (tgt := 48) hC dX6_weeps_44 (by decide) ?_
      exact K_40 _ (if_pos c_40).symm
  · rw [if_neg c_8] at hres
    refine g_iconst (v := 0) hC dX6_weeps_11 (by decide) rfl ?_
    subst hres
    exact g_zret hC hX rfl rfl dX6_weeps_12 rfl rfl
theorem iw_X6_play_RX6 : ∀ w ∈ wsX60, w ∈ wsX6_play := fun _ h => List.mem_cons_of_mem _ (List.mem_append_left _ (List.mem_append_left _ (List.mem_append_right _ (h))))
def m_X6_play_8 : Nat → Int32 → Int32 → (Nat → Int32) → (Nat → Int32) → (Nat → Int32) → (Nat → Int32) → Int32 → Int32 → Int32 → Int32 → Int32 → Int32 → Int32 → (Nat → Int32) → (Nat → Int32) → (Int32 × Int32 × Int32 × Int32 × (Nat → Int32) × (Nat → Int32))
  | 0, _, _, _, _, _, _, _, _, _, _, _, _, _, _, _ => default
  | fu + 1, cDays, cLin, cH, cK, cO_, sA, i, n, y5, z_wEv, z_wActs, z_wLast, z_wWrong, z_wS, z_wD => (if n ≤ y5 then (z_wEv, z_wActs, z_wLast, z_wWrong, z_wS, z_wD) else (if z_wWrong = (-9 : Int32) then (if (m_X4_number sA (i + y5)) = (40 : Int32) then (if (m_X6_eveningComes z_wEv z_wLast z_wD cDays cLin cH cK).1 = 0 then (m_X6_play_8 fu cDays cLin cH cK cO_ sA i n (y5 + 1) ((m_X6_eveningComes z_wEv z_wLast z_wD cDays cLin cH cK).2.1) z_wActs ((m_X6_eveningComes z_wEv z_wLast z_wD cDays cLin cH cK).2.2.1) y5 z_wS ((m_X6_eveningComes z_wEv z_wLast z_wD cDays cLin cH cK).2.2.2)) else (m_X6_play_8 fu cDays cLin cH cK cO_ sA i n (y5 + 1) ((m_X6_eveningComes z_wEv z_wLast z_wD cDays cLin cH cK).2.1) z_wActs ((m_X6_eveningComes z_wEv z_wLast z_wD cDays cLin cH cK).2.2.1) z_wWrong z_wS ((m_X6_eveningComes z_wEv z_wLast z_wD cDays cLin cH cK).2.2.2))) else (if (m_X6_weeps z_wActs z_wS z_wD cO_ ((m_X4_number sA (i + y5)) / (10 : Int32)) ((m_X4_number sA (i + y5)) - (m_X4_number sA (i + y5)) / (10 : Int32) * (10 : Int32))).1 = 0 then (m_X6_play_8 fu cDays cLin cH cK cO_ sA i n (y5 + 1) z_wEv ((m_X6_weeps z_wActs z_wS z_wD cO_ ((m_X4_number sA (i + y5)) / (10 : Int32)) ((m_X4_number sA (i + y5)) - (m_X4_number sA (i + y5)) / (10 : Int32) * (10 : Int32))).2.1) z_wLast y5 ((m_X6_weeps z_wActs z_wS z_wD cO_ ((m_X4_number sA (i + y5)) / (10 : Int32)) ((m_X4_number sA (i + y5)) - (m_X4_number sA (i + y5)) / (10 : Int32) * (10 : Int32))).2.2.1) ((m_X6_weeps z_wActs z_wS z_wD cO_ ((m_X4_number sA (i + y5)) / (10 : Int32)) ((m_X4_number sA (i + y5)) - (m_X4_number sA (i + y5)) / (10 : Int32) * (10 : Int32))).2.2.2)) else (m_X6_play_8 fu cDays cLin cH cK cO_ sA i n (y5 + 1) z_wEv ((m_X6_weeps z_wActs z_wS z_wD cO_ ((m_X4_number sA (i + y5)) / (10 : Int32)) ((m_X4_number sA (i + y5)) - (m_X4_number sA (i + y5)) / (10 : Int32) * (10 : Int32))).2.1) z_wLast z_wWrong ((m_X6_weeps z_wActs z_wS z_wD cO_ ((m_X4_number sA (i + y5)) / (10 : Int32)) ((m_X4_number sA (i + y5)) - (m_X4_number sA (i + y5)) / (10 : Int32) * (10 : Int32))).2.2.1) ((m_X6_weeps z_wActs z_wS z_wD cO_ ((m_X4_number sA (i + y5)) / (10 : Int32)) ((m_X4_number sA (i + y5)) - (m_X4_number sA (i + y5)) / (10 : Int32) * (10 : Int32))).2.2.2)))) else (z_wEv, z_wActs, z_wLast, z_wWrong, z_wS, z_wD)))
def m_X6_play (wS : Nat → Int32) (wD : Nat → Int32) (cDays : Int32) (cLin : Int32) (cS : Nat → Int32) (cH : Nat → Int32) (cK : Nat → Int32) (cO_ : Nat → Int32) (cD : Nat → Int32) (sA : Nat → Int32) (i : Int32) (n : Int32) : (Int32 × Int32 × Int32 × Int32 × (Nat → Int32) × (Nat → Int32)) := (m_X6_play_8 ((n.toInt - (0 : Int32).toInt).toNat + 1) cDays cLin cH cK cO_ sA i n (0 : Int32) ((m_X6_begin wS wD cLin cS cD).1) ((m_X6_begin wS wD cLin cS cD).2.1) ((m_X6_begin wS wD cLin cS cD).2.2.1) ((m_X6_begin wS wD cLin cS cD).2.2.2.1) ((m_X6_begin wS wD cLin cS cD).2.2.2.2.1) ((m_X6_begin wS wD cLin cS cD).2.2.2.2.2))
set_option maxRecDepth 100000 in
set_option maxHeartbeats 4000000 in
theorem l_X6_play_8 {X : gX} (D : va_G) (cI : ClassId) (aWE : Nat) (aWeS : Nat) (aWeD : Nat) (wEv : Int32) (wActs : Int32) (wLast : Int32) (wWrong : Int32) (wS : Nat → Int32) (wD : Nat → Int32) (aRE : Nat) (aReS : Nat) (aReH : Nat) (aReK : Nat) (aReO : Nat) (aReD : Nat) (cDays : Int32) (cLin : Int32) (cS : Nat → Int32) (cH : Nat → Int32) (cK : Nat → Int32) (cO_ : Nat → Int32) (cD : Nat → Int32) (aSh : Nat) (aShA : Nat) (sHas : Int32) (sLane : Int32) (sLen : Int32) (sA : Nat → Int32) (i : Int32) (n : Int32) (hC : Cx X cX6_play 8 RX6 wsX6_play D [(cI, .int)] ({ frames := 3, cells := 0, slots := 0, locals := 67 } : Room) none) {res : (Int32 × Int32 × Int32 × Int32 × (Nat → Int32) × (Nat → Int32))} (hX : Rx X D none [(aWE, .inr (6, [.ref aWeS, .ref aWeD, .int res.1, .int res.2.1, .int res.2.2.1, .int res.2.2.2.1])), (aWeS, .inl (cI, 4, .inl res.2.2.2.2.1)), (aWeD, .inl (cI, 5, .inl res.2.2.2.2.2)), (aRE, .inr (2, [.ref aReS, .ref aReH, .ref aReK, .ref aReO, .ref aReD, .int cDays, .int cLin])), (aReS, .inl (cI, 4, .inl cS)), (aReH, .inl (cI, 6, .inl cH)), (aReK, .inl (cI, 5, .inl cK)), (aReO, .inl (cI, 5, .inl cO_)), (aReD, .inl (cI, 5, .inl cD)), (aSh, .inr (4, [.ref aShA, .int sHas, .int sLane, .int sLen])), (aShA, .inl (cI, 60, .inl sA))]) : ∀ (fu : Nat) (y5 : Int32) (z_wEv : Int32) (z_wActs : Int32) (z_wLast : Int32) (z_wWrong : Int32) (z_wS : Nat → Int32) (z_wD : Nat → Int32) (hm : (n.toInt - y5.toInt).toNat < fu) (h0_y5 : 0 ≤ y5.toInt) (hres : res = m_X6_play_8 fu cDays cLin cH cK cO_ sA i n y5 z_wEv z_wActs z_wLast z_wWrong z_wS z_wD), G X D 8 [(aWE, .inr (6, [.ref aWeS, .ref aWeD, .int z_wEv, .int z_wActs, .int z_wLast, .int z_wWrong])), (aWeS, .inl (cI, 4, .inl z_wS)), (aWeD, .inl (cI, 5, .inl z_wD)), (aRE, .inr (2, [.ref aReS, .ref aReH, .ref aReK, .ref aReO, .ref aReD, .int cDays, .int cLin])), (aReS, .inl (cI, 4, .inl cS)), (aReH, .inl (cI, 6, .inl cH)), (aReK, .inl (cI, 5, .inl cK)), (aReO, .inl (cI, 5, .inl cO_)), (aReD, .inl (cI, 5, .inl cD)), (aSh, .inr (4, [.ref aShA, .int sHas, .int sLane, .int sLen])), (aShA, .inl (cI, 60, .inl sA))] [(0, .ref aWE), (1, .ref aRE), (2, .ref aSh), (3, .int i), (4, .int n), (5, .int y5)] 8 [] := by
  intro fu
  induction fu with
  | zero =>
    intro y5 z_wEv z_wActs z_wLast z_wWrong z_wS z_wD hm
    exact absurd hm (Nat.not_lt_zero _)
  | succ fu ih =>
    intro y5 z_wEv z_wActs z_wLast z_wWrong z_wS z_wD hm h0_y5 hres
    rw [m_X6_play_8] at hres
    refine g_iload hC dX6_play_8 5 rfl rfl ?_
    refine g_iload hC dX6_play_10 4 rfl rfl ?_
    refine g_icmp_ge (tgt := 83) hC dX6_play_12 (by decide) rfl (fun c_12 => ?_) (fun c_12 => ?_)
    · rw [if_pos c_12] at hres
      subst hres
      exact g_vret hC hX rfl dX6_play_83 rfl rfl
    · rw [if_neg c_12] at hres
      refine g_aload_n hC dX6_play_15 rfl 0 rfl rfl ?_
      refine g_get hC iw_X6_play_RX6 0 rfl rfl 5 (by decide) (List.mem_of_getElem? (i := 1) rfl) rfl rfl dX6_play_16 rfl ?_
      refine g_bipush (v := -9) hC dX6_play_19 (by decide) rfl ?_
      refine g_icmp_ne (tgt := 83) hC dX6_play_21 (by decide) rfl (fun c_21 => ?_) (fun c_21 => ?_)
      · rw [if_neg c_21] at hres
        subst hres
        exact g_vret hC hX rfl dX6_play_83 rfl rfl
      · rw [if_pos c_21] at hres
        refine g_aload_n hC dX6_play_24 rfl 2 rfl rfl ?_
        refine g_iload_n hC dX6_play_25 rfl 3 rfl rfl ?_
        refine g_iload hC dX6_play_26 5 rfl rfl ?_
        refine g_iadd hC dX6_play_28 rfl ?_
        refine g_callV (ws' := [(aWE, .inr (6, [.ref aWeS, .ref aWeD, .int z_wEv, .int z_wActs, .int z_wLast, .int z_wWrong])), (aWeS, .inl (cI, 4, .inl z_wS)), (aWeD, .inl (cI, 5, .inl z_wD)), (aRE, .inr (2, [.ref aReS, .ref aReH, .ref aReK, .ref aReO, .ref aReD, .int cDays, .int cLin])), (aReS, .inl (cI, 4, .inl cS)), (aReH, .inl (cI, 6, .inl cH)), (aReK, .inl (cI, 5, .inl cK)), (aReO, .inl (cI, 5, .inl cO_)), (aReD, .inl (cI, 5, .inl cD)), (aSh, .inr (4, [.ref aShA, .int sHas, .int sLane, .int sLen])), (aShA, .inl (cI, 60, .inl sA))]) (st' := [.int (m_X4_number sA (i + y5))]) (nw := 11) (n1 := 2) hC gX6_play_X4_number hdV_yX4_number 9 rfl rfl (As := [.int (i + y5)]) (rest := []) (c_X4_number D cI aSh aShA sHas sLane sLen sA (i + y5)) rfl ⟨by decide, by decide⟩ rfl [9, 10] [0, 1, 2, 3, 4, 5, 6, 7, 8] [0, 1, 2, 3, 4, 5, 6, 7, 8, 9, 10] [0] rfl rfl rfl rfl (by decide) rfl rfl (Nat.le_of_ble_eq_true rfl) dX6_play_29 rfl rfl ?_
        refine g_istore (lv' := [(6, .int (m_X4_number sA (i + y5))), (0, .ref aWE), (1, .ref aRE), (2, .ref aSh), (3, .int i), (4, .int n), (5, .int y5)]) hC dX6_play_32 (by decide) rfl rfl ?_
        refine g_iload hC dX6_play_34 0 rfl rfl ?_
        refine g_bipush (v := 40) hC dX6_play_36 (by decide) rfl ?_
        refine g_icmp_ne (tgt := 49) hC dX6_play_38 (by decide) rfl (fun c_38 => ?_) (fun c_38 => ?_)
        · rw [if_neg c_38] at hres
          refine g_aload_n hC dX6_play_49 rfl 1 rfl rfl ?_
          refine g_aload_n hC dX6_play_50 rfl 2 rfl rfl ?_
          refine g_iload hC dX6_play_51 0 rfl rfl ?_
          refine g_bipush (v := 10) hC dX6_play_53 (by decide) rfl ?_
          refine g_idiv hC dX6_play_55 (by decide) rfl ?_
          refine g_iload hC dX6_play_56 0 rfl rfl ?_
          refine g_bipush (v := 10) hC dX6_play_58 (by decide) rfl ?_
          refine g_irem hC dX6_play_60 (by decide) rfl ?_
          refine g_callV (ws' := [(aWE, .inr (6, [.ref aWeS, .ref aWeD, .int z_wEv, .int ((m_X6_weeps z_wActs z_wS z_wD cO_ ((m_X4_number sA (i + y5)) / (10 : Int32)) ((m_X4_number sA (i + y5)) - (m_X4_number sA (i + y5)) / (10 : Int32) * (10 : Int32))).2.1), .int z_wLast, .int z_wWrong])), (aWeS, .inl (cI, 4, .inl ((m_X6_weeps z_wActs z_wS z_wD cO_ ((m_X4_number sA (i + y5)) / (10 : Int32)) ((m_X4_number sA (i + y5)) - (m_X4_number sA (i + y5)) / (10 : Int32) * (10 : Int32))).2.2.1))), (aWeD, .inl (cI, 5, .inl ((m_X6_weeps z_wActs z_wS z_wD cO_ ((m_X4_number sA (i + y5)) / (10 : Int32)) ((m_X4_number sA (i + y5)) - (m_X4_number sA (i + y5)) / (10 : Int32) * (10 : Int32))).2.2.2))), (aRE, .inr (2, [.ref aReS, .ref aReH, .ref aReK, .ref aReO, .ref aReD, .int cDays, .int cLin])), (aReS, .inl (cI, 4, .inl cS)), (aReH, .inl (cI, 6, .inl cH)), (aReK, .inl (cI, 5, .inl cK)), (aReO, .inl (cI, 5, .inl cO_)), (aReD, .inl (cI, 5, .inl cD)), (aSh, .inr (4, [.ref aShA, .int sHas, .int sLane, .int sLen])), (aShA, .inl (cI, 60, .inl sA))]) (st' := [.int ((m_X6_weeps z_wActs z_wS z_wD cO_ ((m_X4_number sA (i + y5)) / (10 : Int32)) ((m_X4_number sA (i + y5)) - (m_X4_number sA (i + y5)) / (10 : Int32) * (10 : Int32))).1)]) (nw := 11) (n1 := 5) hC gX6_play_X6_weeps hdV_yX6_weeps 0 rfl rfl (As := [.ref aRE, .int ((m_X4_number sA (i + y5)) / (10 : Int32)), .int ((m_X4_number sA (i + y5)) - (m_X4_number sA (i + y5)) / (10 : Int32) * (10 : Int32))]) (rest := []) (c_X6_weeps D cI aWE aWeS aWeD z_wEv z_wActs z_wLast z_wWrong z_wS z_wD aRE aReS aReH aReK aReO aReD cDays cLin cO_ ((m_X4_number sA (i + y5)) / (10 : Int32)) ((m_X4_number sA (i + y5)) - (m_X4_number sA (i + y5)) / (10 : Int32) * (10 : Int32))) rfl ⟨by decide, by decide⟩ rfl [0, 1, 2, 3, 7] [4, 5, 6, 8, 9, 10] [6, 7, 8, 9, 0, 1, 2, 10, 3, 4, 5] [0] rfl rfl rfl rfl (by decide) rfl rfl (Nat.le_of_ble_eq_true rfl) dX6_play_61 rfl rfl ?_
          refine g_istore (lv' := [(7, .int ((m_X6_weeps z_wActs z_wS z_wD cO_ ((m_X4_number sA (i + y5)) / (10 : Int32)) ((m_X4_number sA (i + y5)) - (m_X4_number sA (i + y5)) / (10 : Int32) * (10 : Int32))).1)), (6, .int (m_X4_number sA (i + y5))), (0, .ref aWE), (1, .ref aRE), (2, .ref aSh), (3, .int i), (4, .int n), (5, .int y5)]) hC dX6_play_64 (by decide) rfl rfl ?_
          refine g_iload hC dX6_play_66 0 rfl rfl ?_
          refine g_if_ne (tgt := 77) hC dX6_play_68 (by decide) rfl (fun c_68 => ?_) (fun c_68 => ?_)
          · rw [if_neg c_68] at hres
            refine g_iinc (v := (y5 + 1)) (lv' := [(5, .int (y5 + 1)), (7, .int ((m_X6_weeps z_wActs z_wS z_wD cO_ ((m_X4_number sA (i + y5)) / (10 : Int32)) ((m_X4_number sA (i + y5)) - (m_X4_number sA (i + y5)) / (10 : Int32) * (10 : Int32))).1)), (6, .int (m_X4_number sA (i + y5))), (0, .ref aWE), (1, .ref aRE), (2, .ref aSh), (3, .int i), (4, .int n)]) hC dX6_play_77 7 rfl rfl (by decide) rfl rfl ?_
            refine g_goto (tgt := 8) hC dX6_play_80 (by decide) ?_
            refine g_sub [3, 4, 5, 6, 7, 0] rfl ?_
            exact ih (y5 + 1) z_wEv ((m_X6_weeps z_wActs z_wS z_wD cO_ ((m_X4_number sA (i + y5)) / (10 : Int32)) ((m_X4_number sA (i + y5)) - (m_X4_number sA (i + y5)) / (10 : Int32) * (10 : Int32))).2.1) z_wLast z_wWrong ((m_X6_weeps z_wActs z_wS z_wD cO_ ((m_X4_number sA (i + y5)) / (10 : Int32)) ((m_X4_number sA (i + y5)) - (m_X4_number sA (i + y5)) / (10 : Int32) * (10 : Int32))).2.2.1) ((m_X6_weeps z_wActs z_wS z_wD cO_ ((m_X4_number sA (i + y5)) / (10 : Int32)) ((m_X4_number sA (i + y5)) - (m_X4_number sA (i + y5)) / (10 : Int32) * (10 : Int32))).2.2.2) (up_dec c_12 hm) (up_nn c_12 h0_y5) hres
          · rw [if_pos c_68] at hres
            refine g_aload_n hC dX6_play_71 rfl 2 rfl rfl ?_
            refine g_iload hC dX6_play_72 7 rfl rfl ?_
            refine g_put (ws' := [(aWE, .inr (6, [.ref aWeS, .ref aWeD, .int z_wEv, .int ((m_X6_weeps z_wActs z_wS z_wD cO_ ((m_X4_number sA (i + y5)) / (10 : Int32)) ((m_X4_number sA (i + y5)) - (m_X4_number sA (i + y5)) / (10 : Int32) * (10 : Int32))).2.1), .int z_wLast, .int y5])), (aWeS, .inl (cI, 4, .inl ((m_X6_weeps z_wActs z_wS z_wD cO_ ((m_X4_number sA (i + y5)) / (10 : Int32)) ((m_X4_number sA (i + y5)) - (m_X4_number sA (i + y5)) / (10 : Int32) * (10 : Int32))).2.2.1))), (aWeD, .inl (cI, 5, .inl ((m_X6_weeps z_wActs z_wS z_wD cO_ ((m_X4_number sA (i + y5)) / (10 : Int32)) ((m_X4_number sA (i + y5)) - (m_X4_number sA (i + y5)) / (10 : Int32) * (10 : Int32))).2.2.2))), (aRE, .inr (2, [.ref aReS, .ref aReH, .ref aReK, .ref aReO, .ref aReD, .int cDays, .int cLin])), (aReS, .inl (cI, 4, .inl cS)), (aReH, .inl (cI, 6, .inl cH)), (aReK, .inl (cI, 5, .inl cK)), (aReO, .inl (cI, 5, .inl cO_)), (aReD, .inl (cI, 5, .inl cD)), (aSh, .inr (4, [.ref aShA, .int sHas, .int sLane, .int sLen])), (aShA, .inl (cI, 60, .inl sA))]) hC iw_X6_play_RX6 0 rfl rfl 5 (by decide) (List.mem_of_getElem? (i := 1) rfl) rfl tyX6 tyX6_ok nmX6 rfl rfl rfl (Nat.le_of_ble_eq_true rfl) rfl dX6_play_74 rfl ?_
            refine g_iinc (v := (y5 + 1)) (lv' := [(5, .int (y5 + 1)), (7, .int ((m_X6_weeps z_wActs z_wS z_wD cO_ ((m_X4_number sA (i + y5)) / (10 : Int32)) ((m_X4_number sA (i + y5)) - (m_X4_number sA (i + y5)) / (10 : Int32) * (10 : Int32))).1)), (6, .int (m_X4_number sA (i + y5))), (0, .ref aWE), (1, .ref aRE), (2, .ref aSh), (3, .int i), (4, .int n)]) hC dX6_play_77 7 rfl rfl (by decide) rfl rfl ?_
            refine g_goto (tgt := 8) hC dX6_play_80 (by decide) ?_
            refine g_sub [3, 4, 5, 6, 7, 0] rfl ?_
            exact ih (y5 + 1) z_wEv ((m_X6_weeps z_wActs z_wS z_wD cO_ ((m_X4_number sA (i + y5)) / (10 : Int32)) ((m_X4_number sA (i + y5)) - (m_X4_number sA (i + y5)) / (10 : Int32) * (10 : Int32))).2.1) z_wLast y5 ((m_X6_weeps z_wActs z_wS z_wD cO_ ((m_X4_number sA (i + y5)) / (10 : Int32)) ((m_X4_number sA (i + y5)) - (m_X4_number sA (i + y5)) / (10 : Int32) * (10 : Int32))).2.2.1) ((m_X6_weeps z_wActs z_wS z_wD cO_ ((m_X4_number sA (i + y5)) / (10 : Int32)) ((m_X4_number sA (i + y5)) - (m_X4_number sA (i + y5)) / (10 : Int32) * (10 : Int32))).2.2.2) (up_dec c_12 hm) (up_nn c_12 h0_y5) hres
        · rw [if_pos c_38] at hres
          refine g_aload_n hC dX6_play_41 rfl 1 rfl rfl ?_
          refine g_aload_n hC dX6_play_42 rfl 2 rfl rfl ?_
          refine g_callV (ws' := [(aWE, .inr (6, [.ref aWeS, .ref aWeD, .int ((m_X6_eveningComes z_wEv z_wLast z_wD cDays cLin cH cK).2.1), .int z_wActs, .int ((m_X6_eveningComes z_wEv z_wLast z_wD cDays cLin cH cK).2.2.1), .int z_wWrong])), (aWeS, .inl (cI, 4, .inl z_wS)), (aWeD, .inl (cI, 5, .inl ((m_X6_eveningComes z_wEv z_wLast z_wD cDays cLin cH cK).2.2.2))), (aRE, .inr (2, [.ref aReS, .ref aReH, .ref aReK, .ref aReO, .ref aReD, .int cDays, .int cLin])), (aReS, .inl (cI, 4, .inl cS)), (aReH, .inl (cI, 6, .inl cH)), (aReK, .inl (cI, 5, .inl cK)), (aReO, .inl (cI, 5, .inl cO_)), (aReD, .inl (cI, 5, .inl cD)), (aSh, .inr (4, [.ref aShA, .int sHas, .int sLane, .int sLen])), (aShA, .inl (cI, 60, .inl sA))]) (st' := [.int ((m_X6_eveningComes z_wEv z_wLast z_wD cDays cLin cH cK).1)]) (nw := 11) (n1 := 5) hC gX6_play_X6_eveningComes hdV_yX6_eveningComes 0 rfl rfl (As := [.ref aRE]) (rest := []) (c_X6_eveningComes D cI aWE aWeS aWeD z_wEv z_wActs z_wLast z_wWrong z_wD aRE aReS aReH aReK aReO aReD cDays cLin cH cK) rfl ⟨by decide, by decide⟩ rfl [0, 2, 3, 5, 6] [1, 4, 7, 8, 9, 10] [6, 0, 7, 8, 1, 9, 10, 2, 3, 4, 5] [0] rfl rfl rfl rfl (by decide) rfl rfl (Nat.le_of_ble_eq_true rfl) dX6_play_43 rfl rfl ?_
          refine g_goto (tgt := 64) hC dX6_play_46 (by decide) ?_
          refine g_istore (lv' := [(7, .int ((m_X6_eveningComes z_wEv z_wLast z_wD cDays cLin cH cK).1)), (6, .int (m_X4_number sA (i + y5))), (0, .ref aWE), (1, .ref aRE), (2, .ref aSh), (3, .int i), (4, .int n), (5, .int y5)]) hC dX6_play_64 (by decide) rfl rfl ?_
          refine g_iload hC dX6_play_66 0 rfl rfl ?_
          refine g_if_ne (tgt := 77) hC dX6_play_68 (by decide) rfl (fun c_68 => ?_) (fun c_68 => ?_)
          · rw [if_neg c_68] at hres
            refine g_iinc (v := (y5 + 1)) (lv' := [(5, .int (y5 + 1)), (7, .int ((m_X6_eveningComes z_wEv z_wLast z_wD cDays cLin cH cK).1)), (6, .int (m_X4_number sA (i + y5))), (0, .ref aWE), (1, .ref aRE), (2, .ref aSh), (3, .int i), (4, .int n)]) hC dX6_play_77 7 rfl rfl (by decide) rfl rfl ?_
            refine g_goto (tgt := 8) hC dX6_play_80 (by decide) ?_
            refine g_sub [3, 4, 5, 6, 7, 0] rfl ?_
            exact ih (y5 + 1) ((m_X6_eveningComes z_wEv z_wLast z_wD cDays cLin cH cK).2.1) z_wActs ((m_X6_eveningComes z_wEv z_wLast z_wD cDays cLin cH cK).2.2.1) z_wWrong z_wS ((m_X6_eveningComes z_wEv z_wLast z_wD cDays cLin cH cK).2.2.2) (up_dec c_12 hm) (up_nn c_12 h0_y5) hres
          · rw [if_pos c_68] at hres
            refine g_aload_n hC dX6_play_71 rfl 2 rfl rfl ?_
            refine g_iload hC dX6_play_72 7 rfl rfl ?_
            refine g_put (ws' := [(aWE, .inr (6, [.ref aWeS, .ref aWeD, .int ((m_X6_eveningComes z_wEv z_wLast z_wD cDays cLin cH cK).2.1), .int z_wActs, .int ((m_X6_eveningComes z_wEv z_wLast z_wD cDays cLin cH cK).2.2.1), .int y5])), (aWeS, .inl (cI, 4, .inl z_wS)), (aWeD, .inl (cI, 5, .inl ((m_X6_eveningComes z_wEv z_wLast z_wD cDays cLin cH cK).2.2.2))), (aRE, .inr (2, [.ref aReS, .ref aReH, .ref aReK, .ref aReO, .ref aReD, .int cDays, .int cLin])), (aReS, .inl (cI, 4, .inl cS)), (aReH, .inl (cI, 6, .inl cH)), (aReK, .inl (cI, 5, .inl cK)), (aReO, .inl (cI, 5, .inl cO_)), (aReD, .inl (cI, 5, .inl cD)), (aSh, .inr (4, [.ref aShA, .int sHas, .int sLane, .int sLen])), (aShA, .inl (cI, 60, .inl sA))]) hC iw_X6_play_RX6 0 rfl rfl 5 (by decide) (List.mem_of_getElem? (i := 1) rfl) rfl tyX6 tyX6_ok nmX6 rfl rfl rfl (Nat.le_of_ble_eq_true rfl) rfl dX6_play_74 rfl ?_
            refine g_iinc (v := (y5 + 1)) (lv' := [(5, .int (y5 + 1)), (7, .int ((m_X6_eveningComes z_wEv z_wLast z_wD cDays cLin cH cK).1)), (6, .int (m_X4_number sA (i + y5))), (0, .ref aWE), (1, .ref aRE), (2, .ref aSh), (3, .int i), (4, .int n)]) hC dX6_play_77 7 rfl rfl (by decide) rfl rfl ?_
            refine g_goto (tgt := 8) hC dX6_play_80 (by decide) ?_
            refine g_sub [3, 4, 5, 6, 7, 0] rfl ?_
            exact ih (y5 + 1) ((m_X6_eveningComes z_wEv z_wLast z_wD cDays cLin cH cK).2.1) z_wActs ((m_X6_eveningComes z_wEv z_wLast z_wD cDays cLin cH cK).2.2.1) y5 z_wS ((m_X6_eveningComes z_wEv z_wLast z_wD cDays cLin cH cK).2.2.2) (up_dec c_12 hm) (up_nn c_12 h0_y5) hres
set_option maxRecDepth 100000 in
set_option maxHeartbeats 4000000 in
theorem c_X6_play (D : va_G) (cI : ClassId) (aWE : Nat) (aWeS : Nat) (aWeD : Nat) (wEv : Int32) (wActs : Int32) (wLast : Int32) (wWrong : Int32) (wS : Nat → Int32) (wD : Nat → Int32) (aRE : Nat) (aReS : Nat) (aReH : Nat) (aReK : Nat) (aReO : Nat) (aReD : Nat) (cDays : Int32) (cLin : Int32) (cS : Nat → Int32) (cH : Nat → Int32) (cK : Nat → Int32) (cO_ : Nat → Int32) (cD : Nat → Int32) (aSh : Nat) (aShA : Nat) (sHas : Int32) (sLane : Int32) (sLen : Int32) (sA : Nat → Int32) (i : Int32) (n : Int32) : MC yX6_play wsX6_play ({ frames := 3, cells := 0, slots := 0, locals := 67 } : Room) D [(cI, .int)] [.ref aWE, .ref aRE, .ref aSh, .int i, .int n] [(aWE, .inr (6, [.ref aWeS, .ref aWeD, .int wEv, .int wActs, .int wLast, .int wWrong])), (aWeS, .inl (cI, 4, .inl wS)), (aWeD, .inl (cI, 5, .inl wD)), (aRE, .inr (2, [.ref aReS, .ref aReH, .ref aReK, .ref aReO, .ref aReD, .int cDays, .int cLin])), (aReS, .inl (cI, 4, .inl cS)), (aReH, .inl (cI, 6, .inl cH)), (aReK, .inl (cI, 5, .inl cK)), (aReO, .inl (cI, 5, .inl cO_)), (aReD, .inl (cI, 5, .inl cD)), (aSh, .inr (4, [.ref aShA, .int sHas, .int sLane, .int sLen])), (aShA, .inl (cI, 60, .inl sA))] none [(aWE, .inr (6, [.ref aWeS, .ref aWeD, .int ((m_X6_play wS wD cDays cLin cS cH cK cO_ cD sA i n).1), .int ((m_X6_play wS wD cDays cLin cS cH cK cO_ cD sA i n).2.1), .int ((m_X6_play wS wD cDays cLin cS cH cK cO_ cD sA i n).2.2.1), .int ((m_X6_play wS wD cDays cLin cS cH cK cO_ cD sA i n).2.2.2.1)])), (aWeS, .inl (cI, 4, .inl ((m_X6_play wS wD cDays cLin cS cH cK cO_ cD sA i n).2.2.2.2.1))), (aWeD, .inl (cI, 5, .inl ((m_X6_play wS wD cDays cLin cS cH cK cO_ cD sA i n).2.2.2.2.2))), (aRE, .inr (2, [.ref aReS, .ref aReH, .ref aReK, .ref aReO, .ref aReD, .int cDays, .int cLin])), (aReS, .inl (cI, 4, .inl cS)), (aReH, .inl (cI, 6, .inl cH)), (aReK, .inl (cI, 5, .inl cK)), (aReO, .inl (cI, 5, .inl cO_)), (aReD, .inl (cI, 5, .inl cD)), (aSh, .inr (4, [.ref aShA, .int sHas, .int sLane, .int sLen])), (aShA, .inl (cI, 60, .inl sA))] := by
  refine g_entry (by decide) rfl rfl rfl rfl (Nat.le_of_ble_eq_true rfl) (lv := [(0, .ref aWE), (1, .ref aRE), (2, .ref aSh), (3, .int i), (4, .int n)]) rfl ?_
  intro X hC hX
  obtain ⟨res, hres⟩ : ∃ z, z = (m_X6_play wS wD cDays cLin cS cH cK cO_ cD sA i n) := ⟨_, rfl⟩
  rw [← hres] at hX
  rw [m_X6_play] at hres
  refine g_aload_n hC dX6_play_0 rfl 0 rfl rfl ?_
  refine g_aload_n hC dX6_play_1 rfl 1 rfl rfl ?_
  refine g_callV (ws' := [(aWE, .inr (6, [.ref aWeS, .ref aWeD, .int ((m_X6_begin wS wD cLin cS cD).1), .int ((m_X6_begin wS wD cLin cS cD).2.1), .int ((m_X6_begin wS wD cLin cS cD).2.2.1), .int ((m_X6_begin wS wD cLin cS cD).2.2.2.1)])), (aWeS, .inl (cI, 4, .inl ((m_X6_begin wS wD cLin cS cD).2.2.2.2.1))), (aWeD, .inl (cI, 5, .inl ((m_X6_begin wS wD cLin cS cD).2.2.2.2.2))), (aRE, .inr (2, [.ref aReS, .ref aReH, .ref aReK, .ref aReO, .ref aReD, .int cDays, .int cLin])), (aReS, .inl (cI, 4, .inl cS)), (aReH, .inl (cI, 6, .inl cH)), (aReK, .inl (cI, 5, .inl cK)), (aReO, .inl (cI, 5, .inl cO_)), (aReD, .inl (cI, 5, .inl cD)), (aSh, .inr (4, [.ref aShA, .int sHas, .int sLane, .int sLen])), (aShA, .inl (cI, 60, .inl sA))]) (st' := []) (nw := 11) (n1 := 6) hC gX6_play_X6_begin hdV_yX6_begin 0 rfl rfl (As := [.ref aRE]) (rest := []) (c_X6_begin D cI aWE aWeS aWeD wEv wActs wLast wWrong wS wD aRE aReS aReH aReK aReO aReD cDays cLin cS cD) rfl ⟨by decide, by decide⟩ rfl [0, 1, 2, 3, 4, 8] [5, 6, 7, 9, 10] [5, 6, 7, 8, 9, 0, 1, 2, 10, 3, 4] [0] rfl rfl rfl rfl (by decide) rfl rfl (Nat.le_of_ble_eq_true rfl) dX6_play_2 rfl rfl ?_
  refine g_iconst (v := 0) hC dX6_play_5 (by decide) rfl ?_
  refine g_istore (lv' := [(5, .int (0 : Int32)), (0, .ref aWE), (1, .ref aRE), (2, .ref aSh), (3, .int i), (4, .int n)]) hC dX6_play_6 (by decide) rfl rfl ?_
  refine g_sub [1, 2, 3, 4, 5, 0] rfl ?_
  exact l_X6_play_8 D cI aWE aWeS aWeD wEv wActs wLast wWrong wS wD aRE aReS aReH aReK aReO aReD cDays cLin cS cH cK cO_ cD aSh aShA sHas sLane sLen sA i n  hC hX ((n.toInt - (0 : Int32).toInt).toNat + 1) (0 : Int32) ((m_X6_begin wS wD cLin cS cD).1) ((m_X6_begin wS wD cLin cS cD).2.1) ((m_X6_begin wS wD cLin cS cD).2.2.1) ((m_X6_begin wS wD cLin cS cD).2.2.2.1) ((m_X6_begin wS wD cLin cS cD).2.2.2.2.1) ((m_X6_begin wS wD cLin cS cD).2.2.2.2.2) (Nat.lt_succ_self _) (by decide) hres
theorem iw_X6_answer_RX6 : ∀ w ∈ wsX60, w ∈ wsX6_answer := fun _ h => List.mem_cons_of_mem _ (List.mem_append_left _ (List.mem_append_right _ (h)))
def m_X6_answer (wActs : Int32) (wLast : Int32) (wWrong : Int32) (wS : Nat → Int32) (wD : Nat → Int32) (cLin : Int32) (what : Int32) : (Int32) := (if what = (1 : Int32) then wWrong else (if wWrong = (-9 : Int32) then (if what = 0 then (m_X6_lawsNow wD cLin) else (if what = (2 : Int32) then wLast else (if what = (3 : Int32) then wActs else (if what < (20 : Int32) then (if (m_X2_hasLinen cLin (what - (10 : Int32))) = 0 then (-9 : Int32) else (m_X7_at 5 wD (what - (10 : Int32)))) else (m_X7_at 4 wS (what - (20 : Int32))))))) else ((-100 : Int32) - wWrong)))
set_option maxRecDepth 100000 in
set_option maxHeartbeats 4000000 in
theorem c_X6_answer (D : va_G) (cI : ClassId) (aWE : Nat) (aWeS : Nat) (aWeD : Nat) (wEv : Int32) (wActs : Int32) (wLast : Int32) (wWrong : Int32) (wS : Nat → Int32) (wD : Nat → Int32) (aRE : Nat) (aReS : Nat) (aReH : Nat) (aReK : Nat) (aReO : Nat) (aReD : Nat) (cDays : Int32) (cLin : Int32) (what : Int32) : MC yX6_answer wsX6_answer ({ frames := 2, cells := 0, slots := 0, locals := 44 } : Room) D [(cI, .int)] [.ref aWE, .ref aRE, .int what] [(aWE, .inr (6, [.ref aWeS, .ref aWeD, .int wEv, .int wActs, .int wLast, .int wWrong])), (aWeS, .inl (cI, 4, .inl wS)), (aWeD, .inl (cI, 5, .inl wD)), (aRE, .inr (2, [.ref aReS, .ref aReH, .ref aReK, .ref aReO, .ref aReD, .int cDays, .int cLin]))] (some (.int (m_X6_answer wActs wLast wWrong wS wD cLin what))) [(aWE, .inr (6, [.ref aWeS, .ref aWeD, .int wEv, .int wActs, .int wLast, .int wWrong])), (aWeS, .inl (cI, 4, .inl wS)), (aWeD, .inl (cI, 5, .inl wD)), (aRE, .inr (2, [.ref aReS, .ref aReH, .ref aReK, .ref aReO, .ref aReD, .int cDays, .int cLin]))] := by
  refine g_entry (by decide) rfl rfl rfl rfl (Nat.le_of_ble_eq_true rfl) (lv := [(0, .ref aWE), (1, .ref aRE), (2, .int what)]) rfl ?_
  intro X hC hX
  obtain ⟨res, hres⟩ : ∃ z, z = (m_X6_answer wActs wLast wWrong wS wD cLin what) := ⟨_, rfl⟩
  rw [← hres] at hX
  rw [m_X6_answer] at hres
  refine g_iload_n hC dX6_answer_0 rfl 2 rfl rfl ?_
  refine g_iconst (v := 1) hC dX6_answer_1 (by decide) rfl ?_
  refine g_icmp_ne (tgt := 10) hC dX6_answer_2 (by decide) rfl (fun c_2 => ?_) (fun c_2 => ?_)
  · rw [if_neg c_2] at hres
    refine g_aload_n hC dX6_answer_10 rfl 0 rfl rfl ?_
    refine g_get hC iw_X6_answer_RX6 0 rfl rfl 5 (by decide) (List.mem_of_getElem? (i := 1) rfl) rfl rfl dX6_answer_11 rfl ?_
    refine g_bipush (v := -9) hC dX6_answer_14 (by decide) rfl ?_
    refine g_icmp_eq (tgt := 27) hC dX6_answer_16 (by decide) rfl (fun c_16 => ?_) (fun c_16 => ?_)
    · rw [if_pos c_16] at hres
      refine g_iload_n hC dX6_answer_27 rfl 2 rfl rfl ?_
      refine g_if_ne (tgt := 37) hC dX6_answer_28 (by decide) rfl (fun c_28 => ?_) (fun c_28 => ?_)
      · rw [if_neg c_28] at hres
        refine g_iload_n hC dX6_answer_37 rfl 2 rfl rfl ?_
        refine g_iconst (v := 2) hC dX6_answer_38 (by decide) rfl ?_
        refine g_icmp_ne (tgt := 47) hC dX6_answer_39 (by decide) rfl (fun c_39 => ?_) (fun c_39 => ?_)
        · rw [if_neg c_39] at hres
          refine g_iload_n hC dX6_answer_47 rfl 2 rfl rfl ?_
          refine g_iconst (v := 3) hC dX6_answer_48 (by decide) rfl ?_
          refine g_icmp_ne (tgt := 57) hC dX6_answer_49 (by decide) rfl (fun c_49 => ?_) (fun c_49 => ?_)
          · rw [if_neg c_49] at hres
            refine g_iload_n hC dX6_answer_57 rfl 2 rfl rfl ?_
            refine g_bipush (v := 20) hC dX6_answer_58 (by decide) rfl ?_
            refine g_icmp_lt (tgt := 75) hC dX6_answer_60 (by decide) rfl (fun c_60 => ?_) (fun c_60 => ?_)
            · rw [if_pos c_60] at hres
              refine g_aload_n hC dX6_answer_75 rfl 1 rfl rfl ?_
              refine g_iload_n hC dX6_answer_76 rfl 2 rfl rfl ?_
              refine g_bipush (v := 10) hC dX6_answer_77 (by decide) rfl ?_
              refine g_isub hC dX6_answer_79 rfl ?_
              refine g_callV (ws' := [(aWE, .inr (6, [.ref aWeS, .ref aWeD, .int wEv, .int wActs, .int wLast, .int wWrong])), (aWeS, .inl (cI, 4, .inl wS)), (aWeD, .inl (cI, 5, .inl wD)), (aRE, .inr (2, [.ref aReS, .ref aReH, .ref aReK, .ref aReO, .ref aReD, .int cDays, .int cLin]))]) (st' := [.int (m_X2_hasLinen cLin (what - (10 : Int32)))]) (nw := 4) (n1 := 1) hC gX6_answer_X2_hasLinen hdV_yX2_hasLinen 3 rfl rfl (As := [.int (what - (10 : Int32))]) (rest := []) (c_X2_hasLinen D cI aRE aReS aReH aReK aReO aReD cDays cLin (what - (10 : Int32))) rfl ⟨by decide, by decide⟩ rfl [3] [0, 1, 2] [0, 1, 2, 3] [0] rfl rfl rfl rfl (by decide) rfl rfl (Nat.le_of_ble_eq_true rfl) dX6_answer_80 rfl rfl ?_
              refine g_if_eq (tgt := 100) hC dX6_answer_83 (by decide) rfl (fun c_83 => ?_) (fun c_83 => ?_)
              · rw [if_pos c_83] at hres
                refine g_bipush (v := -9) hC dX6_answer_100 (by decide) rfl ?_
                subst hres
                exact g_iret hC hX rfl dX6_answer_102 rfl rfl
              · rw [if_neg c_83] at hres
                refine g_aload_n hC dX6_answer_86 rfl 0 rfl rfl ?_
                refine g_get hC iw_X6_answer_RX6 0 rfl rfl 1 (by decide) (List.mem_of_getElem? (i := 5) rfl) rfl rfl dX6_answer_87 rfl ?_
                refine g_iload_n hC dX6_answer_90 rfl 2 rfl rfl ?_
                refine g_bipush (v := 10) hC dX6_answer_91 (by decide) rfl ?_
                refine g_isub hC dX6_answer_93 rfl ?_
                refine g_callN (ws' := [(aWE, .inr (6, [.ref aWeS, .ref aWeD, .int wEv, .int wActs, .int wLast, .int wWrong])), (aWeS, .inl (cI, 4, .inl wS)), (aWeD, .inl (cI, 5, .inl wD)), (aRE, .inr (2, [.ref aReS, .ref aReH, .ref aReK, .ref aReO, .ref aReD, .int cDays, .int cLin]))]) (st' := [.int (m_X7_at 5 wD (what - (10 : Int32)))]) (nw := 4) (n1 := 1) hC gX6_answer_X7_at_n62 (List.mem_of_getElem? (i := 19) rfl) (List.mem_of_getElem? (i := 13) rfl) (List.mem_of_getElem? (i := 12) rfl) hdS_yX7_at (As := [.ref aWeD, .int (what - (10 : Int32))]) (rest := []) (c_X7_at D cI aWeD 5 wD (what - (10 : Int32)) (by decide)) rfl ⟨by decide, by decide⟩ rfl [2] [0, 1, 3] [0, 1, 3, 2] [0] rfl rfl rfl rfl (by decide) rfl rfl (Nat.le_of_ble_eq_true rfl) dX6_answer_94 rfl rfl ?_
                refine g_goto (tgt := 102) hC dX6_answer_97 (by decide) ?_
                subst hres
                exact g_iret hC hX rfl dX6_answer_102 rfl rfl
            · rw [if_neg c_60] at hres
              refine g_aload_n hC dX6_answer_63 rfl 0 rfl rfl ?_
              refine g_get hC iw_X6_answer_RX6 0 rfl rfl 0 (by decide) (List.mem_of_getElem? (i := 4) rfl) rfl rfl dX6_answer_64 rfl ?_
              refine g_iload_n hC dX6_answer_67 rfl 2 rfl rfl ?_
              refine g_bipush (v := 20) hC dX6_answer_68 (by decide) rfl ?_
              refine g_isub hC dX6_answer_70 rfl ?_
              refine g_callN (ws' := [(aWE, .inr (6, [.ref aWeS, .ref aWeD, .int wEv, .int wActs, .int wLast, .int wWrong])), (aWeS, .inl (cI, 4, .inl wS)), (aWeD, .inl (cI, 5, .inl wD)), (aRE, .inr (2, [.ref aReS, .ref aReH, .ref aReK, .ref aReO, .ref aReD, .int cDays, .int cLin]))]) (st' := [.int (m_X7_at 4 wS (what - (20 : Int32)))]) (nw := 4) (n1 := 1) hC gX6_answer_X7_at_n62 (List.mem_of_getElem? (i := 19) rfl) (List.mem_of_getElem? (i := 13) rfl) (List.mem_of_getElem? (i := 12) rfl) hdS_yX7_at (As := [.ref aWeS, .int (what - (20 : Int32))]) (rest := []) (c_X7_at D cI aWeS 4 wS (what - (20 : Int32)) (by decide)) rfl ⟨by decide, by decide⟩ rfl [1] [0, 2, 3] [0, 3, 1, 2] [0] rfl rfl rfl rfl (by decide) rfl rfl (Nat.le_of_ble_eq_true rfl) dX6_answer_71 rfl rfl ?_
              subst hres
              exact g_iret hC hX rfl dX6_answer_74 rfl rfl
          · rw [if_pos c_49] at hres
            refine g_aload_n hC dX6_answer_52 rfl 0 rfl rfl ?_
            refine g_get hC iw_X6_answer_RX6 0 rfl rfl 3 (by decide) (List.mem_of_getElem? (i := 3) rfl) rfl rfl dX6_answer_53 rfl ?_
            subst hres
            exact g_iret hC hX rfl dX6_answer_56 rfl rfl
        · rw [if_pos c_39] at hres
          refine g_aload_n hC dX6_answer_42 rfl 0 rfl rfl ?_
          refine g_get hC iw_X6_answer_RX6 0 rfl rfl 4 (by decide) (List.mem_of_getElem? (i := 2) rfl) rfl rfl dX6_answer_43 rfl ?_
          subst hres
          exact g_iret hC hX rfl dX6_answer_46 rfl rfl
      · rw [if_pos c_28] at hres
        refine g_aload_n hC dX6_answer_31 rfl 0 rfl rfl ?_
        refine g_aload_n hC dX6_answer_32 rfl 1 rfl rfl ?_
        refine g_callV (ws' := [(aWE, .inr (6, [.ref aWeS, .ref aWeD, .int wEv, .int wActs, .int wLast, .int wWrong])), (aWeS, .inl (cI, 4, .inl wS)), (aWeD, .inl (cI, 5, .inl wD)), (aRE, .inr (2, [.ref aReS, .ref aReH, .ref aReK, .ref aReO, .ref aReD, .int cDays, .int cLin]))]) (st' := [.int (m_X6_lawsNow wD cLin)]) (nw := 4) (n1 := 3) hC gX6_answer_X6_lawsNow hdV_yX6_lawsNow 0 rfl rfl (As := [.ref aRE]) (rest := []) (c_X6_lawsNow D cI aWE aWeS aWeD wEv wActs wLast wWrong wD aRE aReS aReH aReK aReO aReD cDays cLin) rfl ⟨by decide, by decide⟩ rfl [0, 2, 3] [1] [1, 0, 2, 3] [0] rfl rfl rfl rfl (by decide) rfl rfl (Nat.le_of_ble_eq_true rfl) dX6_answer_33 rfl rfl ?_
        subst hres
        exact g_iret hC hX rfl dX6_answer_36 rfl rfl
    · rw [if_neg c_16] at hres
      refine g_bipush (v := -100) hC dX6_answer_19 (by decide) rfl ?_
      refine g_aload_n hC dX6_answer_21 rfl 0 rfl rfl ?_
      refine g_get hC iw_X6_answer_RX6 0 rfl rfl 5 (by decide) (List.mem_of_getElem? (i := 1) rfl) rfl rfl dX6_answer_22 rfl ?_
      refine g_isub hC dX6_answer_25 rfl ?_
      subst hres
      exact g_iret hC hX rfl dX6_answer_26 rfl rfl
  · rw [if_pos c_2] at hres
    refine g_aload_n hC dX6_answer_5 rfl 0 rfl rfl ?_
    refine g_get hC iw_X6_answer_RX6 0 rfl rfl 5 (by decide) (List.mem_of_getElem? (i := 1) rfl) rfl rfl dX6_answer_6 rfl ?_
    subst hres
    exact g_iret hC hX rfl dX6_answer_9 rfl rfl
