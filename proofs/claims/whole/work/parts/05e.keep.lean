theorem iw_X0_weepAsOneLikes_RX0 : ∀ w ∈ wsX00, w ∈ wsX0_weepAsOneLikes := fun _ h => List.mem_cons_of_mem _ (List.mem_append_right _ (h))
def m_X0_weepAsOneLikes_2 : Nat → Int32 → (Nat → Int32) → ((Nat → Int32))
  | 0, _, _ => default
  | fu + 1, y1, z_kF => (if (9 : Int32) ≤ y1 then z_kF else (m_X0_weepAsOneLikes_2 fu (y1 + 1) (m_X7_set 10 z_kF (if (y1 + (3 : Int32)) < (9 : Int32) then (y1 + (3 : Int32)) else (9 : Int32)) (if ((m_X7_at 10 z_kF y1) + (1 : Int32)) < (m_X7_at 10 z_kF (if (y1 + (3 : Int32)) < (9 : Int32) then (y1 + (3 : Int32)) else (9 : Int32))) then ((m_X7_at 10 z_kF y1) + (1 : Int32)) else (m_X7_at 10 z_kF (if (y1 + (3 : Int32)) < (9 : Int32) then (y1 + (3 : Int32)) else (9 : Int32)))))))
def m_X0_weepAsOneLikes (kF : Nat → Int32) : ((Nat → Int32)) := (m_X0_weepAsOneLikes_2 (((9 : Int32).toInt - (0 : Int32).toInt).toNat + 1) (0 : Int32) kF)
set_option maxRecDepth 100000 in
set_option maxHeartbeats 4000000 in
theorem l_X0_weepAsOneLikes_2 {X : gX} (D : va_G) (cI : ClassId) (aKE : Nat) (aKeF : Nat) (aKeT : Nat) (kF : Nat → Int32) (hC : Cx X cX0_weepAsOneLikes 3 RX0 wsX0_weepAsOneLikes D [(cI, .int)] ({ frames := 1, cells := 0, slots := 0, locals := 22 } : Room) none) {res : ((Nat → Int32))} (hX : Rx X D none [(aKE, .inr (0, [.ref aKeF, .ref aKeT])), (aKeF, .inl (cI, 10, .inl res))]) : ∀ (fu : Nat) (y1 : Int32) (z_kF : Nat → Int32) (hm : ((9 : Int32).toInt - y1.toInt).toNat < fu) (h0_y1 : 0 ≤ y1.toInt) (hres : res = m_X0_weepAsOneLikes_2 fu y1 z_kF), G X D 3 [(aKE, .inr (0, [.ref aKeF, .ref aKeT])), (aKeF, .inl (cI, 10, .inl z_kF))] [(0, .ref aKE), (1, .int y1)] 2 [] := by
  intro fu
  induction fu with
  | zero =>
    intro y1 z_kF hm
    exact absurd hm (Nat.not_lt_zero _)
  | succ fu ih =>
    intro y1 z_kF hm h0_y1 hres
    rw [m_X0_weepAsOneLikes_2] at hres
    refine g_iload_n hC dX0_weepAsOneLikes_2 rfl 1 rfl rfl ?_
    refine g_bipush (v := 9) hC dX0_weepAsOneLikes_3 (by decide) rfl ?_
    refine g_icmp_ge (tgt := 52) hC dX0_weepAsOneLikes_5 (by decide) rfl (fun c_5 => ?_) (fun c_5 => ?_)
    · rw [if_pos c_5] at hres
      subst hres
      exact g_vret hC hX rfl dX0_weepAsOneLikes_52 rfl rfl
    · rw [if_neg c_5] at hres
      refine g_bipush (v := 9) hC dX0_weepAsOneLikes_8 (by decide) rfl ?_
      refine g_iload_n hC dX0_weepAsOneLikes_10 rfl 1 rfl rfl ?_
      refine g_iconst (v := 3) hC dX0_weepAsOneLikes_11 (by decide) rfl ?_
      refine g_iadd hC dX0_weepAsOneLikes_12 rfl ?_
      refine g_mmin hC (List.mem_of_getElem? (i := 1) rfl) (List.mem_of_getElem? (i := 2) rfl) (List.mem_of_getElem? (i := 3) rfl) (List.mem_of_getElem? (i := 4) rfl) (by decide) (Nat.le_of_ble_eq_true rfl) dX0_weepAsOneLikes_13 rfl ?_
      refine g_istore_n (lv' := [(2, .int (if (y1 + (3 : Int32)) < (9 : Int32) then (y1 + (3 : Int32)) else (9 : Int32))), (0, .ref aKE), (1, .int y1)]) hC dX0_weepAsOneLikes_16 rfl (by decide) rfl rfl ?_
      refine g_aload_n hC dX0_weepAsOneLikes_17 rfl 1 rfl rfl ?_
      refine g_get hC iw_X0_weepAsOneLikes_RX0 0 rfl rfl 0 (by decide) (List.mem_of_getElem? (i := 5) rfl) rfl rfl dX0_weepAsOneLikes_18 rfl ?_
      refine g_iload_n hC dX0_weepAsOneLikes_21 rfl 0 rfl rfl ?_
      refine g_aload_n hC dX0_weepAsOneLikes_22 rfl 1 rfl rfl ?_
      refine g_get hC iw_X0_weepAsOneLikes_RX0 0 rfl rfl 0 (by decide) (List.mem_of_getElem? (i := 5) rfl) rfl rfl dX0_weepAsOneLikes_23 rfl ?_
      refine g_iload_n hC dX0_weepAsOneLikes_26 rfl 0 rfl rfl ?_
      refine g_callN (ws' := [(aKE, .inr (0, [.ref aKeF, .ref aKeT])), (aKeF, .inl (cI, 10, .inl z_kF))]) (st' := [.int (m_X7_at 10 z_kF (if (y1 + (3 : Int32)) < (9 : Int32) then (y1 + (3 : Int32)) else (9 : Int32))), .int (if (y1 + (3 : Int32)) < (9 : Int32) then (y1 + (3 : Int32)) else (9 : Int32)), .ref aKeF]) (nw := 2) (n1 := 1) hC gX0_weepAsOneLikes_X7_at_n29 (List.mem_of_getElem? (i := 7) rfl) (List.mem_of_getElem? (i := 7) rfl) (List.mem_of_getElem? (i := 6) rfl) hdS_yX7_at (As := [.ref aKeF, .int (if (y1 + (3 : Int32)) < (9 : Int32) then (y1 + (3 : Int32)) else (9 : Int32))]) (rest := [.int (if (y1 + (3 : Int32)) < (9 : Int32) then (y1 + (3 : Int32)) else (9 : Int32)), .ref aKeF]) (c_X7_at D cI aKeF 10 z_kF (if (y1 + (3 : Int32)) < (9 : Int32) then (y1 + (3 : Int32)) else (9 : Int32)) (by decide)) rfl ⟨by decide, by decide⟩ rfl [1] [0] [0, 1] [0] rfl rfl rfl rfl (by decide) rfl rfl (Nat.le_of_ble_eq_true rfl) dX0_weepAsOneLikes_27 rfl rfl ?_
      refine g_aload_n hC dX0_weepAsOneLikes_30 rfl 1 rfl rfl ?_
      refine g_get hC iw_X0_weepAsOneLikes_RX0 0 rfl rfl 0 (by decide) (List.mem_of_getElem? (i := 5) rfl) rfl rfl dX0_weepAsOneLikes_31 rfl ?_
      refine g_iload_n hC dX0_weepAsOneLikes_34 rfl 2 rfl rfl ?_
      refine g_callN (ws' := [(aKE, .inr (0, [.ref aKeF, .ref aKeT])), (aKeF, .inl (cI, 10, .inl z_kF))]) (st' := [.int (m_X7_at 10 z_kF y1), .int (m_X7_at 10 z_kF (if (y1 + (3 : Int32)) < (9 : Int32) then (y1 + (3 : Int32)) else (9 : Int32))), .int (if (y1 + (3 : Int32)) < (9 : Int32) then (y1 + (3 : Int32)) else (9 : Int32)), .ref aKeF]) (nw := 2) (n1 := 1) hC gX0_weepAsOneLikes_X7_at_n29 (List.mem_of_getElem? (i := 7) rfl) (List.mem_of_getElem? (i := 7) rfl) (List.mem_of_getElem? (i := 6) rfl) hdS_yX7_at (As := [.ref aKeF, .int y1]) (rest := [.int (m_X7_at 10 z_kF (if (y1 + (3 : Int32)) < (9 : Int32) then (y1 + (3 : Int32)) else (9 : Int32))), .int (if (y1 + (3 : Int32)) < (9 : Int32) then (y1 + (3 : Int32)) else (9 : Int32)), .ref aKeF]) (c_X7_at D cI aKeF 10 z_kF y1 (by decide)) rfl ⟨by decide, by decide⟩ rfl [1] [0] [0, 1] [0] rfl rfl rfl rfl (by decide) rfl rfl (Nat.le_of_ble_eq_true rfl) dX0_weepAsOneLikes_35 rfl rfl ?_
      refine g_iconst (v := 1) hC dX0_weepAsOneLikes_38 (by decide) rfl ?_
      refine g_iadd hC dX0_weepAsOneLikes_39 rfl ?_
      refine g_mmin hC (List.mem_of_getElem? (i := 1) rfl) (List.mem_of_getElem? (i := 2) rfl) (List.mem_of_getElem? (i := 3) rfl) (List.mem_of_getElem? (i := 4) rfl) (by decide) (Nat.le_of_ble_eq_true rfl) dX0_weepAsOneLikes_40 rfl ?_
      refine g_callN (ws' := [(aKE, .inr (0, [.ref aKeF, .ref aKeT])), (aKeF, .inl (cI, 10, .inl (m_X7_set 10 z_kF (if (y1 + (3 : Int32)) < (9 : Int32) then (y1 + (3 : Int32)) else (9 : Int32)) (if ((m_X7_at 10 z_kF y1) + (1 : Int32)) < (m_X7_at 10 z_kF (if (y1 + (3 : Int32)) < (9 : Int32) then (y1 + (3 : Int32)) else (9 : Int32))) then ((m_X7_at 10 z_kF y1) + (1 : Int32)) else (m_X7_at 10 z_kF (if (y1 + (3 : Int32)) < (9 : Int32) then (y1 + (3 : Int32)) else (9 : Int32)))))))]) (st' := []) (nw := 2) (n1 := 1) hC gX0_weepAsOneLikes_X7_set_n33 (List.mem_of_getElem? (i := 8) rfl) (List.mem_of_getElem? (i := 7) rfl) (List.mem_of_getElem? (i := 9) rfl) hdS_yX7_set (As := [.ref aKeF, .int (if (y1 + (3 : Int32)) < (9 : Int32) then (y1 + (3 : Int32)) else (9 : Int32)), .int (if ((m_X7_at 10 z_kF y1) + (1 : Int32)) < (m_X7_at 10 z_kF (if (y1 + (3 : Int32)) < (9 : Int32) then (y1 + (3 : Int32)) else (9 : Int32))) then ((m_X7_at 10 z_kF y1) + (1 : Int32)) else (m_X7_at 10 z_kF (if (y1 + (3 : Int32)) < (9 : Int32) then (y1 + (3 : Int32)) else (9 : Int32))))]) (rest := []) (c_X7_set D cI aKeF 10 z_kF (if (y1 + (3 : Int32)) < (9 : Int32) then (y1 + (3 : Int32)) else (9 : Int32)) (if ((m_X7_at 10 z_kF y1) + (1 : Int32)) < (m_X7_at 10 z_kF (if (y1 + (3 : Int32)) < (9 : Int32) then (y1 + (3 : Int32)) else (9 : Int32))) then ((m_X7_at 10 z_kF y1) + (1 : Int32)) else (m_X7_at 10 z_kF (if (y1 + (3 : Int32)) < (9 : Int32) then (y1 + (3 : Int32)) else (9 : Int32)))) (by decide)) rfl ⟨by decide, by decide⟩ rfl [1] [0] [0, 1] [0] rfl rfl rfl rfl (by decide) rfl rfl (Nat.le_of_ble_eq_true rfl) dX0_weepAsOneLikes_43 rfl rfl ?_
      refine g_iinc (v := (y1 + 1)) (lv' := [(1, .int (y1 + 1)), (2, .int (if (y1 + (3 : Int32)) < (9 : Int32) then (y1 + (3 : Int32)) else (9 : Int32))), (0, .ref aKE)]) hC dX0_weepAsOneLikes_46 2 rfl rfl (by decide) rfl rfl ?_
      refine g_goto (tgt := 2) hC dX0_weepAsOneLikes_49 (by decide) ?_
      refine g_sub [2, 0] rfl ?_
      exact ih (y1 + 1) (m_X7_set 10 z_kF (if (y1 + (3 : Int32)) < (9 : Int32) then (y1 + (3 : Int32)) else (9 : Int32)) (if ((m_X7_at 10 z_kF y1) + (1 : Int32)) < (m_X7_at 10 z_kF (if (y1 + (3 : Int32)) < (9 : Int32) then (y1 + (3 : Int32)) else (9 : Int32))) then ((m_X7_at 10 z_kF y1) + (1 : Int32)) else (m_X7_at 10 z_kF (if (y1 + (3 : Int32)) < (9 : Int32) then (y1 + (3 : Int32)) else (9 : Int32))))) (up_dec c_5 hm) (up_nn c_5 h0_y1) hres
set_option maxRecDepth 100000 in
set_option maxHeartbeats 4000000 in
theorem c_X0_weepAsOneLikes (D : va_G) (cI : ClassId) (aKE : Nat) (aKeF : Nat) (aKeT : Nat) (kF : Nat → Int32) : MC yX0_weepAsOneLikes wsX0_weepAsOneLikes ({ frames := 1, cells := 0, slots := 0, locals := 22 } : Room) D [(cI, .int)] [.ref aKE] [(aKE, .inr (0, [.ref aKeF, .ref aKeT])), (aKeF, .inl (cI, 10, .inl kF))] none [(aKE, .inr (0, [.ref aKeF, .ref aKeT])), (aKeF, .inl (cI, 10, .inl (m_X0_weepAsOneLikes kF)))] := by
  refine g_entry (by decide) rfl rfl rfl rfl (Nat.le_of_ble_eq_true rfl) (lv := [(0, .ref aKE)]) rfl ?_
  intro X hC hX
  obtain ⟨res, hres⟩ : ∃ z, z = (m_X0_weepAsOneLikes kF) := ⟨_, rfl⟩
  rw [← hres] at hX
  rw [m_X0_weepAsOneLikes] at hres
  refine g_iconst (v := 0) hC dX0_weepAsOneLikes_0 (by decide) rfl ?_
  refine g_istore_n (lv' := [(1, .int (0 : Int32)), (0, .ref aKE)]) hC dX0_weepAsOneLikes_1 rfl (by decide) rfl rfl ?_
  refine g_sub [1, 0] rfl ?_
  exact l_X0_weepAsOneLikes_2 D cI aKE aKeF aKeT kF  hC hX (((9 : Int32).toInt - (0 : Int32).toInt).toNat + 1) (0 : Int32) kF (Nat.lt_succ_self _) (by decide) hres
theorem iw_X0_dryAndStayLaw_RX0 : ∀ w ∈ wsX00, w ∈ wsX0_dryAndStayLaw := fun _ h => List.mem_cons_of_mem _ (List.mem_append_right _ (h))
def m_X0_dryAndStayLaw_13 : Nat → Int32 → Int32 → (Nat → Int32) → ((Nat → Int32))
  | 0, _, _, _ => default
  | fu + 1, dr, y2, z_kF => (if (9 : Int32) < y2 then z_kF else (if (if (9 : Int32) < (y2 + dr) then (0 : Int32) else (1 : Int32)) = 0 then (m_X0_dryAndStayLaw_13 fu dr (y2 + 1) (m_X7_set 10 z_kF y2 (1000 : Int32))) else (m_X0_dryAndStayLaw_13 fu dr (y2 + 1) (m_X7_set 10 z_kF y2 (m_X7_at 10 z_kF (y2 + dr))))))
def m_X0_dryAndStayLaw (kF : Nat → Int32) (dr : Int32) : ((Nat → Int32)) := (m_X0_dryAndStayLaw_13 (((9 : Int32).toInt + 1 - (1 : Int32).toInt).toNat + 1) dr (1 : Int32) (m_X7_set 10 kF (0 : Int32) (1000 : Int32)))
set_option maxRecDepth 100000 in
set_option maxHeartbeats 4000000 in
theorem l_X0_dryAndStayLaw_13 {X : gX} (D : va_G) (cI : ClassId) (aKE : Nat) (aKeF : Nat) (aKeT : Nat) (kF : Nat → Int32) (dr : Int32) (hC : Cx X cX0_dryAndStayLaw 4 RX0 wsX0_dryAndStayLaw D [(cI, .int)] ({ frames := 1, cells := 0, slots := 0, locals := 22 } : Room) none) {res : ((Nat → Int32))} (hX : Rx X D none [(aKE, .inr (0, [.ref aKeF, .ref aKeT])), (aKeF, .inl (cI, 10, .inl res))]) : ∀ (fu : Nat) (y2 : Int32) (z_kF : Nat → Int32) (hm : ((9 : Int32).toInt + 1 - y2.toInt).toNat < fu) (h0_y2 : 0 ≤ y2.toInt) (hres : res = m_X0_dryAndStayLaw_13 fu dr y2 z_kF), G X D 4 [(aKE, .inr (0, [.ref aKeF, .ref aKeT])), (aKeF, .inl (cI, 10, .inl z_kF))] [(0, .ref aKE), (1, .int dr), (2, .int y2)] 13 [] := by
  intro fu
  induction fu with
  | zero =>
    intro y2 z_kF hm
    exact absurd hm (Nat.not_lt_zero _)
  | succ fu ih =>
    intro y2 z_kF hm h0_y2 hres
    rw [m_X0_dryAndStayLaw_13] at hres
    refine g_iload_n hC dX0_dryAndStayLaw_13 rfl 2 rfl rfl ?_
    refine g_bipush (v := 9) hC dX0_dryAndStayLaw_14 (by decide) rfl ?_
    refine g_icmp_gt (tgt := 67) hC dX0_dryAndStayLaw_16 (by decide) rfl (fun c_16 => ?_) (fun c_16 => ?_)
    · rw [if_pos c_16] at hres
      subst hres
      exact g_vret hC hX rfl dX0_dryAndStayLaw_67 rfl rfl
    · rw [if_neg c_16] at hres
      refine g_iload_n hC dX0_dryAndStayLaw_19 rfl 2 rfl rfl ?_
      refine g_iload_n hC dX0_dryAndStayLaw_20 rfl 1 rfl rfl ?_
      refine g_iadd hC dX0_dryAndStayLaw_21 rfl ?_
      refine g_bipush (v := 9) hC dX0_dryAndStayLaw_22 (by decide) rfl ?_
      have K_24 : ∀ vK : Int32, vK = (if (9 : Int32) < (y2 + dr) then (0 : Int32) else (1 : Int32)) → G X D 4 [(aKE, .inr (0, [.ref aKeF, .ref aKeT])), (aKeF, .inl (cI, 10, .inl z_kF))] [(0, .ref aKE), (1, .int dr), (2, .int y2)] 32 (.int vK :: []) := by
        intro vK hvK
        subst hvK
        refine g_istore_n (lv' := [(3, .int (if (9 : Int32) < (y2 + dr) then (0 : Int32) else (1 : Int32))), (0, .ref aKE), (1, .int dr), (2, .int y2)]) hC dX0_dryAndStayLaw_32 rfl (by decide) rfl rfl ?_
        refine g_aload_n hC dX0_dryAndStayLaw_33 rfl 1 rfl rfl ?_
        refine g_get hC iw_X0_dryAndStayLaw_RX0 0 rfl rfl 0 (by decide) (List.mem_of_getElem? (i := 1) rfl) rfl rfl dX0_dryAndStayLaw_34 rfl ?_
        refine g_iload_n hC dX0_dryAndStayLaw_37 rfl 3 rfl rfl ?_
        refine g_iload_n hC dX0_dryAndStayLaw_38 rfl 0 rfl rfl ?_
        refine g_if_eq (tgt := 55) hC dX0_dryAndStayLaw_39 (by decide) rfl (fun c_39 => ?_) (fun c_39 => ?_)
        · rw [if_pos c_39] at hres
          refine g_sipush (v := 1000) hC dX0_dryAndStayLaw_55 (by decide) rfl ?_
          refine g_callN (ws' := [(aKE, .inr (0, [.ref aKeF, .ref aKeT])), (aKeF, .inl (cI, 10, .inl (m_X7_set 10 z_kF y2 (1000 : Int32))))]) (st' := []) (nw := 2) (n1 := 1) hC gX0_dryAndStayLaw_X7_set_n33 (List.mem_of_getElem? (i := 8) rfl) (List.mem_of_getElem? (i := 3) rfl) (List.mem_of_getElem? (i := 2) rfl) hdS_yX7_set (As := [.ref aKeF, .int y2, .int (1000 : Int32)]) (rest := []) (c_X7_set D cI aKeF 10 z_kF y2 (1000 : Int32) (by decide)) rfl ⟨by decide, by decide⟩ rfl [1] [0] [0, 1] [0] rfl rfl rfl rfl (by decide) rfl rfl (Nat.le_of_ble_eq_true rfl) dX0_dryAndStayLaw_58 rfl rfl ?_
          refine g_iinc (v := (y2 + 1)) (lv' := [(2, .int (y2 + 1)), (3, .int (if (9 : Int32) < (y2 + dr) then (0 : Int32) else (1 : Int32))), (0, .ref aKE), (1, .int dr)]) hC dX0_dryAndStayLaw_61 3 rfl rfl (by decide) rfl rfl ?_
          refine g_goto (tgt := 13) hC dX0_dryAndStayLaw_64 (by decide) ?_
          refine g_sub [2, 3, 0] rfl ?_
          exact ih (y2 + 1) (m_X7_set 10 z_kF y2 (1000 : Int32)) (up_dec_le c_16 (by decide) hm) (up_nn_le c_16 (by decide) h0_y2) hres
        · rw [if_neg c_39] at hres
          refine g_aload_n hC dX0_dryAndStayLaw_42 rfl 1 rfl rfl ?_
          refine g_get hC iw_X0_dryAndStayLaw_RX0 0 rfl rfl 0 (by decide) (List.mem_of_getElem? (i := 1) rfl) rfl rfl dX0_dryAndStayLaw_43 rfl ?_
          refine g_iload_n hC dX0_dryAndStayLaw_46 rfl 3 rfl rfl ?_
          refine g_iload_n hC dX0_dryAndStayLaw_47 rfl 2 rfl rfl ?_
          refine g_iadd hC dX0_dryAndStayLaw_48 rfl ?_
          refine g_callN (ws' := [(aKE, .inr (0, [.ref aKeF, .ref aKeT])), (aKeF, .inl (cI, 10, .inl z_kF))]) (st' := [.int (m_X7_at 10 z_kF (y2 + dr)), .int y2, .ref aKeF]) (nw := 2) (n1 := 1) hC gX0_dryAndStayLaw_X7_at_n29 (List.mem_of_getElem? (i := 7) rfl) (List.mem_of_getElem? (i := 3) rfl) (List.mem_of_getElem? (i := 5) rfl) hdS_yX7_at (As := [.ref aKeF, .int (y2 + dr)]) (rest := [.int y2, .ref aKeF]) (c_X7_at D cI aKeF 10 z_kF (y2 + dr) (by decide)) rfl ⟨by decide, by decide⟩ rfl [1] [0] [0, 1] [0] rfl rfl rfl rfl (by decide) rfl rfl (Nat.le_of_ble_eq_true rfl) dX0_dryAndStayLaw_49 rfl rfl ?_
          refine g_goto (tgt := 58) hC dX0_dryAndStayLaw_52 (by decide) ?_
          refine g_callN (ws' := [(aKE, .inr (0, [.ref aKeF, .ref aKeT])), (aKeF, .inl (cI, 10, .inl (m_X7_set 10 z_kF y2 (m_X7_at 10 z_kF (y2 + dr)))))]) (st' := []) (nw := 2) (n1 := 1) hC gX0_dryAndStayLaw_X7_set_n33 (List.mem_of_getElem? (i := 8) rfl) (List.mem_of_getElem? (i := 3) rfl) (List.mem_of_getElem? (i := 2) rfl) hdS_yX7_set (As := [.ref aKeF, .int y2, .int (m_X7_at 10 z_kF (y2 + dr))]) (rest := []) (c_X7_set D cI aKeF 10 z_kF y2 (m_X7_at 10 z_kF (y2 + dr)) (by decide)) rfl ⟨by decide, by decide⟩ rfl [1] [0] [0, 1] [0] rfl rfl rfl rfl (by decide) rfl rfl (Nat.le_of_ble_eq_true rfl) dX0_dryAndStayLaw_58 rfl rfl ?_
          refine g_iinc (v := (y2 + 1)) (lv' := [(2, .int (y2 + 1)), (3, .int (if (9 : Int32) < (y2 + dr) then (0 : Int32) else (1 : Int32))), (0, .ref aKE), (1, .int dr)]) hC dX0_dryAndStayLaw_61 3 rfl rfl (by decide) rfl rfl ?_
          refine g_goto (tgt := 13) hC dX0_dryAndStayLaw_64 (by decide) ?_
          refine g_sub [2, 3, 0] rfl ?_
          exact ih (y2 + 1) (m_X7_set 10 z_kF y2 (m_X7_at 10 z_kF (y2 + dr))) (up_dec_le c_16 (by decide) hm) (up_nn_le c_16 (by decide) h0_y2) hres
      refine g_icmp_gt (tgt := 31) hC dX0_dryAndStayLaw_24 (by decide) rfl (fun c_24 => ?_) (fun c_24 => ?_)
      · refine g_iconst (v := 0) hC dX0_dryAndStayLaw_31 (by decide) rfl ?_
        exact K_24 _ (if_pos c_24).symm
      · refine g_iconst (v := 1) hC dX0_dryAndStayLaw_27 (by decide) rfl ?_
        refine g_goto (tgt := 32) hC dX0_dryAndStayLaw_28 (by decide) ?_
        exact K_24 _ (if_neg c_24).symm
set_option maxRecDepth 100000 in
set_option maxHeartbeats 4000000 in
theorem c_X0_dryAndStayLaw (D : va_G) (cI : ClassId) (aKE : Nat) (aKeF : Nat) (aKeT : Nat) (kF : Nat → Int32) (dr : Int32) : MC yX0_dryAndStayLaw wsX0_dryAndStayLaw ({ frames := 1, cells := 0, slots := 0, locals := 22 } : Room) D [(cI, .int)] [.ref aKE, .int dr] [(aKE, .inr (0, [.ref aKeF, .ref aKeT])), (aKeF, .inl (cI, 10, .inl kF))] none [(aKE, .inr (0, [.ref aKeF, .ref aKeT])), (aKeF, .inl (cI, 10, .inl (m_X0_dryAndStayLaw kF dr)))] := by
  refine g_entry (by decide) rfl rfl rfl rfl (Nat.le_of_ble_eq_true rfl) (lv := [(0, .ref aKE), (1, .int dr)]) rfl ?_
  intro X hC hX
  obtain ⟨res, hres⟩ : ∃ z, z = (m_X0_dryAndStayLaw kF dr) := ⟨_, rfl⟩
  rw [← hres] at hX
  rw [m_X0_dryAndStayLaw] at hres
  refine g_aload_n hC dX0_dryAndStayLaw_0 rfl 0 rfl rfl ?_
  refine g_get hC iw_X0_dryAndStayLaw_RX0 0 rfl rfl 0 (by decide) (List.mem_of_getElem? (i := 1) rfl) rfl rfl dX0_dryAndStayLaw_1 rfl ?_
  refine g_iconst (v := 0) hC dX0_dryAndStayLaw_4 (by decide) rfl ?_
  refine g_sipush (v := 1000) hC dX0_dryAndStayLaw_5 (by decide) rfl ?_
  refine g_callN (ws' := [(aKE, .inr (0, [.ref aKeF, .ref aKeT])), (aKeF, .inl (cI, 10, .inl (m_X7_set 10 kF (0 : Int32) (1000 : Int32))))]) (st' := []) (nw := 2) (n1 := 1) hC gX0_dryAndStayLaw_X7_set_n33 (List.mem_of_getElem? (i := 8) rfl) (List.mem_of_getElem? (i := 3) rfl) (List.mem_of_getElem? (i := 2) rfl) hdS_yX7_set (As := [.ref aKeF, .int (0 : Int32), .int (1000 : Int32)]) (rest := []) (c_X7_set D cI aKeF 10 kF (0 : Int32) (1000 : Int32) (by decide)) rfl ⟨by decide, by decide⟩ rfl [1] [0] [0, 1] [0] rfl rfl rfl rfl (by decide) rfl rfl (Nat.le_of_ble_eq_true rfl) dX0_dryAndStayLaw_8 rfl rfl ?_
  refine g_iconst (v := 1) hC dX0_dryAndStayLaw_11 (by decide) rfl ?_
  refine g_istore_n (lv' := [(2, .int (1 : Int32)), (0, .ref aKE), (1, .int dr)]) hC dX0_dryAndStayLaw_12 rfl (by decide) rfl rfl ?_
  refine g_sub [1, 2, 0] rfl ?_
  exact l_X0_dryAndStayLaw_13 D cI aKE aKeF aKeT kF dr  hC hX (((9 : Int32).toInt + 1 - (1 : Int32).toInt).toNat + 1) (1 : Int32) (m_X7_set 10 kF (0 : Int32) (1000 : Int32)) (Nat.lt_succ_self _) (by decide) hres
theorem iw_X0_fewestActs_RX0 : ∀ w ∈ wsX00, w ∈ wsX0_fewestActs := fun _ h => List.mem_cons_of_mem _ (List.mem_append_left _ (List.mem_append_right _ (h)))
theorem iw_X0_fewestActs_RX2 : ∀ w ∈ wsX20, w ∈ wsX0_fewestActs := fun _ h => List.mem_cons_of_mem _ (List.mem_append_right _ (h))
def m_X0_fewestActs_63 : Nat → (Nat → Int32) → Int32 → Int32 → (Int32 × (Nat → Int32))
  | 0, _, _, _ => default
  | fu + 1, k_kF, y3, y4 => (if (9 : Int32) < y4 then ((if (1000 : Int32) ≤ y3 then (-9 : Int32) else y3), k_kF) else (m_X0_fewestActs_63 fu k_kF (if (m_X7_at 10 k_kF y4) < y3 then (m_X7_at 10 k_kF y4) else y3) (y4 + 1)))
def m_X0_fewestActs_28 : Nat → Int32 → (Nat → Int32) → (Nat → Int32) → Int32 → Int32 → (Nat → Int32) → (Int32 × (Nat → Int32))
  | 0, _, _, _, _, _, _ => default
  | fu + 1, cDays, cH, cK, l, y3, z_kF => (if cDays ≤ y3 then (m_X0_fewestActs_63 (((9 : Int32).toInt + 1 - (1 : Int32).toInt).toNat + 1) z_kF (1000 : Int32) (1 : Int32)) else (m_X0_fewestActs_28 fu cDays cH cK l (y3 + 1) (m_X0_dryAndStayLaw (m_X0_weepAsOneLikes z_kF) (m_X2_drying cH cK l y3))))
def m_X0_fewestActs (kF : Nat → Int32) (cDays : Int32) (cH : Nat → Int32) (cK : Nat → Int32) (cD : Nat → Int32) (l : Int32) : (Int32 × (Nat → Int32)) := (m_X0_fewestActs_28 ((cDays.toInt - (0 : Int32).toInt).toNat + 1) cDays cH cK l (0 : Int32) (m_X7_set 10 (m_J7_fill_53178 10 kF (1000 : Int32)) (m_X7_at 5 cD l) (0 : Int32)))
set_option maxRecDepth 100000 in
set_option maxHeartbeats 4000000 in
theorem l_X0_fewestActs_63 {X : gX} (D : va_G) (cI : ClassId) (aKE : Nat) (aKeF : Nat) (aKeT : Nat) (kF : Nat → Int32) (aRE : Nat) (aReS : Nat) (aReH : Nat) (aReK : Nat) (aReO : Nat) (aReD : Nat) (cDays : Int32) (cLin : Int32) (cH : Nat → Int32) (cK : Nat → Int32) (cD : Nat → Int32) (l : Int32) (k_kF : Nat → Int32) (hC : Cx X cX0_fewestActs 5 RX0 wsX0_fewestActs D [(cI, .int)] ({ frames := 2, cells := 0, slots := 0, locals := 45 } : Room) (some .int)) {res : (Int32 × (Nat → Int32))} (hX : Rx X D (some (.int res.1)) [(aKE, .inr (0, [.ref aKeF, .ref aKeT])), (aKeF, .inl (cI, 10, .inl res.2)), (aRE, .inr (2, [.ref aReS, .ref aReH, .ref aReK, .ref aReO, .ref aReD, .int cDays, .int cLin])), (aReH, .inl (cI, 6, .inl cH)), (aReK, .inl (cI, 5, .inl cK)), (aReD, .inl (cI, 5, .inl cD))]) : ∀ (fu : Nat) (y3 : Int32) (y4 : Int32) (hm : ((9 : Int32).toInt + 1 - y4.toInt).toNat < fu) (h0_y4 : 0 ≤ y4.toInt) (hres : res = m_X0_fewestActs_63 fu k_kF y3 y4), G X D 5 [(aKE, .inr (0, [.ref aKeF, .ref aKeT])), (aKeF, .inl (cI, 10, .inl k_kF)), (aRE, .inr (2, [.ref aReS, .ref aReH, .ref aReK, .ref aReO, .ref aReD, .int cDays, .int cLin])), (aReH, .inl (cI, 6, .inl cH)), (aReK, .inl (cI, 5, .inl cK)), (aReD, .inl (cI, 5, .inl cD))] [(0, .ref aKE), (3, .int y3), (4, .int y4)] 63 [] := by
  intro fu
  induction fu with
  | zero =>
    intro y3 y4 hm
    exact absurd hm (Nat.not_lt_zero _)
  | succ fu ih =>
    intro y3 y4 hm h0_y4 hres
    rw [m_X0_fewestActs_63] at hres
    refine g_iload hC dX0_fewestActs_63 2 rfl rfl ?_
    refine g_bipush (v := 9) hC dX0_fewestActs_65 (by decide) rfl ?_
    refine g_icmp_gt (tgt := 90) hC dX0_fewestActs_67 (by decide) rfl (fun c_67 => ?_) (fun c_67 => ?_)
    · rw [if_pos c_67] at hres
      refine g_iload_n hC dX0_fewestActs_90 rfl 1 rfl rfl ?_
      refine g_sipush (v := 1000) hC dX0_fewestActs_91 (by decide) rfl ?_
      have K_94 : ∀ vK : Int32, vK = (if (1000 : Int32) ≤ y3 then (-9 : Int32) else y3) → G X D 5 [(aKE, .inr (0, [.ref aKeF, .ref aKeT])), (aKeF, .inl (cI, 10, .inl k_kF)), (aRE, .inr (2, [.ref aReS, .ref aReH, .ref aReK, .ref aReO, .ref aReD, .int cDays, .int cLin])), (aReH, .inl (cI, 6, .inl cH)), (aReK, .inl (cI, 5, .inl cK)), (aReD, .inl (cI, 5, .inl cD))] [(0, .ref aKE), (3, .int y3), (4, .int y4)] 103 (.int vK :: []) := by
        intro vK hvK
        subst hvK
        subst hres
        exact g_iret hC hX rfl dX0_fewestActs_103 rfl rfl
      refine g_icmp_ge (tgt := 101) hC dX0_fewestActs_94 (by decide) rfl (fun c_94 => ?_) (fun c_94 => ?_)
      · refine g_bipush (v := -9) hC dX0_fewestActs_101 (by decide) rfl ?_
        exact K_94 _ (if_pos c_94).symm
      · refine g_iload_n hC dX0_fewestActs_97 rfl 1 rfl rfl ?_
        refine g_goto (tgt := 103) hC dX0_fewestActs_98 (by decide) ?_
        exact K_94 _ (if_neg c_94).symm
    · rw [if_neg c_67] at hres
      refine g_iload_n hC dX0_fewestActs_70 rfl 1 rfl rfl ?_
      refine g_aload_n hC dX0_fewestActs_71 rfl 0 rfl rfl ?_
      refine g_get hC iw_X0_fewestActs_RX0 0 rfl rfl 0 (by decide) (List.mem_of_getElem? (i := 1) rfl) rfl rfl dX0_fewestActs_72 rfl ?_
      refine g_iload hC dX0_fewestActs_75 2 rfl rfl ?_
      refine g_callN (ws' := [(aKE, .inr (0, [.ref aKeF, .ref aKeT])), (aKeF, .inl (cI, 10, .inl k_kF)), (aRE, .inr (2, [.ref aReS, .ref aReH, .ref aReK, .ref aReO, .ref aReD, .int cDays, .int cLin])), (aReH, .inl (cI, 6, .inl cH)), (aReK, .inl (cI, 5, .inl cK)), (aReD, .inl (cI, 5, .inl cD))]) (st' := [.int (m_X7_at 10 k_kF y4), .int y3]) (nw := 6) (n1 := 1) hC gX0_fewestActs_X7_at_n29 (List.mem_of_getElem? (i := 7) rfl) (List.mem_of_getElem? (i := 13) rfl) (List.mem_of_getElem? (i := 12) rfl) hdS_yX7_at (As := [.ref aKeF, .int y4]) (rest := [.int y3]) (c_X7_at D cI aKeF 10 k_kF y4 (by decide)) rfl ⟨by decide, by decide⟩ rfl [1] [0, 2, 3, 4, 5] [0, 5, 1, 2, 3, 4] [0] rfl rfl rfl rfl (by decide) rfl rfl (Nat.le_of_ble_eq_true rfl) dX0_fewestActs_77 rfl rfl ?_
      refine g_mmin hC (List.mem_of_getElem? (i := 4) rfl) (List.mem_of_getElem? (i := 5) rfl) (List.mem_of_getElem? (i := 6) rfl) (List.mem_of_getElem? (i := 7) rfl) (by decide) (Nat.le_of_ble_eq_true rfl) dX0_fewestActs_80 rfl ?_
      refine g_istore_n (lv' := [(3, .int (if (m_X7_at 10 k_kF y4) < y3 then (m_X7_at 10 k_kF y4) else y3)), (0, .ref aKE), (4, .int y4)]) hC dX0_fewestActs_83 rfl (by decide) rfl rfl ?_
      refine g_iinc (v := (y4 + 1)) (lv' := [(4, .int (y4 + 1)), (3, .int (if (m_X7_at 10 k_kF y4) < y3 then (m_X7_at 10 k_kF y4) else y3)), (0, .ref aKE)]) hC dX0_fewestActs_84 2 rfl rfl (by decide) rfl rfl ?_
      refine g_goto (tgt := 63) hC dX0_fewestActs_87 (by decide) ?_
      refine g_sub [2, 1, 0] rfl ?_
      exact ih (if (m_X7_at 10 k_kF y4) < y3 then (m_X7_at 10 k_kF y4) else y3) (y4 + 1) (up_dec_le c_67 (by decide) hm) (up_nn_le c_67 (by decide) h0_y4) hres
set_option maxRecDepth 100000 in
set_option maxHeartbeats 4000000 in
theorem l_X0_fewestActs_28 {X : gX} (D : va_G) (cI : ClassId) (aKE : Nat) (aKeF : Nat) (aKeT : Nat) (kF : Nat → Int32) (aRE : Nat) (aReS : Nat) (aReH : Nat) (aReK : Nat) (aReO : Nat) (aReD : Nat) (cDays : Int32) (cLin : Int32) (cH : Nat → Int32) (cK : Nat → Int32) (cD : Nat → Int32) (l : Int32) (hC : Cx X cX0_fewestActs 5 RX0 wsX0_fewestActs D [(cI, .int)] ({ frames := 2, cells := 0, slots := 0, locals := 45 } : Room) (some .int)) {res : (Int32 × (Nat → Int32))} (hX : Rx X D (some (.int res.1)) [(aKE, .inr (0, [.ref aKeF, .ref aKeT])), (aKeF, .inl (cI, 10, .inl res.2)), (aRE, .inr (2, [.ref aReS, .ref aReH, .ref aReK, .ref aReO, .ref aReD, .int cDays, .int cLin])), (aReH, .inl (cI, 6, .inl cH)), (aReK, .inl (cI, 5, .inl cK)), (aReD, .inl (cI, 5, .inl cD))]) : ∀ (fu : Nat) (y3 : Int32) (z_kF : Nat → Int32) (hm : (cDays.toInt - y3.toInt).toNat < fu) (h0_y3 : 0 ≤ y3.toInt) (hres : res = m_X0_fewestActs_28 fu cDays cH cK l y3 z_kF), G X D 5 [(aKE, .inr (0, [.ref aKeF, .ref aKeT])), (aKeF, .inl (cI, 10, .inl z_kF)), (aRE, .inr (2, [.ref aReS, .ref aReH, .ref aReK, .ref aReO, .ref aReD, .int cDays, .int cLin])), (aReH, .inl (cI, 6, .inl cH)), (aReK, .inl (cI, 5, .inl cK)), (aReD, .inl (cI, 5, .inl cD))] [(0, .ref aKE), (1, .ref aRE), (2, .int l), (3, .int y3)] 28 [] := by
  intro fu
  induction fu with
  | zero =>
    intro y3 z_kF hm
    exact absurd hm (Nat.not_lt_zero _)
  | succ fu ih =>
    intro y3 z_kF hm h0_y3 hres
    rw [m_X0_fewestActs_28] at hres
    refine g_iload_n hC dX0_fewestActs_28 rfl 3 rfl rfl ?_
    refine g_aload_n hC dX0_fewestActs_29 rfl 1 rfl rfl ?_
    refine g_get hC iw_X0_fewestActs_RX2 2 rfl rfl 5 (by decide) (List.mem_of_getElem? (i := 3) rfl) rfl rfl dX0_fewestActs_30 rfl ?_
    refine g_icmp_ge (tgt := 56) hC dX0_fewestActs_33 (by decide) rfl (fun c_33 => ?_) (fun c_33 => ?_)
    · rw [if_pos c_33] at hres
      refine g_sipush (v := 1000) hC dX0_fewestActs_56 (by decide) rfl ?_
      refine g_istore_n (lv' := [(3, .int (1000 : Int32)), (0, .ref aKE), (1, .ref aRE), (2, .int l)]) hC dX0_fewestActs_59 rfl (by decide) rfl rfl ?_
      refine g_iconst (v := 1) hC dX0_fewestActs_60 (by decide) rfl ?_
      refine g_istore (lv' := [(4, .int (1 : Int32)), (3, .int (1000 : Int32)), (0, .ref aKE), (1, .ref aRE), (2, .int l)]) hC dX0_fewestActs_61 (by decide) rfl rfl ?_
      refine g_sub [2, 1, 0] rfl ?_
      exact l_X0_fewestActs_63 D cI aKE aKeF aKeT kF aRE aReS aReH aReK aReO aReD cDays cLin cH cK cD l z_kF  hC hX (((9 : Int32).toInt + 1 - (1 : Int32).toInt).toNat + 1) (1000 : Int32) (1 : Int32) (Nat.lt_succ_self _) (by decide) hres
    · rw [if_neg c_33] at hres
      refine g_aload_n hC dX0_fewestActs_36 rfl 0 rfl rfl ?_
      refine g_callV (ws' := [(aKE, .inr (0, [.ref aKeF, .ref aKeT])), (aKeF, .inl (cI, 10, .inl (m_X0_weepAsOneLikes z_kF))), (aRE, .inr (2, [.ref aReS, .ref aReH, .ref aReK, .ref aReO, .ref aReD, .int cDays, .int cLin])), (aReH, .inl (cI, 6, .inl cH)), (aReK, .inl (cI, 5, .inl cK)), (aReD, .inl (cI, 5, .inl cD))]) (st' := []) (nw := 6) (n1 := 2) hC gX0_fewestActs_X0_weepAsOneLikes hdV_yX0_weepAsOneLikes 0 rfl rfl (As := []) (rest := []) (c_X0_weepAsOneLikes D cI aKE aKeF aKeT z_kF) rfl ⟨by decide, by decide⟩ rfl [0, 1] [2, 3, 4, 5] [4, 5, 0, 1, 2, 3] [0] rfl rfl rfl rfl (by decide) rfl rfl (Nat.le_of_ble_eq_true rfl) dX0_fewestActs_37 rfl rfl ?_
      refine g_aload_n hC dX0_fewestActs_40 rfl 0 rfl rfl ?_
      refine g_aload_n hC dX0_fewestActs_41 rfl 1 rfl rfl ?_
      refine g_iload_n hC dX0_fewestActs_42 rfl 2 rfl rfl ?_
      refine g_iload_n hC dX0_fewestActs_43 rfl 3 rfl rfl ?_
      refine g_callV (ws' := [(aKE, .inr (0, [.ref aKeF, .ref aKeT])), (aKeF, .inl (cI, 10, .inl (m_X0_weepAsOneLikes z_kF))), (aRE, .inr (2, [.ref aReS, .ref aReH, .ref aReK, .ref aReO, .ref aReD, .int cDays, .int cLin])), (aReH, .inl (cI, 6, .inl cH)), (aReK, .inl (cI, 5, .inl cK)), (aReD, .inl (cI, 5, .inl cD))]) (st' := [.int (m_X2_drying cH cK l y3), .ref aKE]) (nw := 6) (n1 := 3) hC gX0_fewestActs_X2_drying hdV_yX2_drying 2 rfl rfl (As := [.int l, .int y3]) (rest := [.ref aKE]) (c_X2_drying D cI aRE aReS aReH aReK aReO aReD cDays cLin cH cK l y3) rfl ⟨by decide, by decide⟩ rfl [2, 3, 4] [0, 1, 5] [0, 1, 3, 4, 5, 2] [0] rfl rfl rfl rfl (by decide) rfl rfl (Nat.le_of_ble_eq_true rfl) dX0_fewestActs_44 rfl rfl ?_
      refine g_callV (ws' := [(aKE, .inr (0, [.ref aKeF, .ref aKeT])), (aKeF, .inl (cI, 10, .inl (m_X0_dryAndStayLaw (m_X0_weepAsOneLikes z_kF) (m_X2_drying cH cK l y3)))), (aRE, .inr (2, [.ref aReS, .ref aReH, .ref aReK, .ref aReO, .ref aReD, .int cDays, .int cLin])), (aReH, .inl (cI, 6, .inl cH)), (aReK, .inl (cI, 5, .inl cK)), (aReD, .inl (cI, 5, .inl cD))]) (st' := []) (nw := 6) (n1 := 2) hC gX0_fewestActs_X0_dryAndStayLaw hdV_yX0_dryAndStayLaw 0 rfl rfl (As := [.int (m_X2_drying cH cK l y3)]) (rest := []) (c_X0_dryAndStayLaw D cI aKE aKeF aKeT (m_X0_weepAsOneLikes z_kF) (m_X2_drying cH cK l y3)) rfl ⟨by decide, by decide⟩ rfl [0, 1] [2, 3, 4, 5] [4, 5, 0, 1, 2, 3] [0] rfl rfl rfl rfl (by decide) rfl rfl (Nat.le_of_ble_eq_true rfl) dX0_fewestActs_47 rfl rfl ?_
      refine g_iinc (v := (y3 + 1)) (lv' := [(3, .int (y3 + 1)), (0, .ref aKE), (1, .ref aRE), (2, .int l)]) hC dX0_fewestActs_50 3 rfl rfl (by decide) rfl rfl ?_
      refine g_goto (tgt := 28) hC dX0_fewestActs_53 (by decide) ?_
      refine g_sub [1, 2, 3, 0] rfl ?_
      exact ih (y3 + 1) (m_X0_dryAndStayLaw (m_X0_weepAsOneLikes z_kF) (m_X2_drying cH cK l y3)) (up_dec c_33 hm) (up_nn c_33 h0_y3) hres
set_option maxRecDepth 100000 in
set_option maxHeartbeats 4000000 in
theorem c_X0_fewestActs (D : va_G) (cI : ClassId) (aKE : Nat) (aKeF : Nat) (aKeT : Nat) (kF : Nat → Int32) (aRE : Nat) (aReS : Nat) (aReH : Nat) (aReK : Nat) (aReO : Nat) (aReD : Nat) (cDays : Int32) (cLin : Int32) (cH : Nat → Int32) (cK : Nat → Int32) (cD : Nat → Int32) (l : Int32) : MC yX0_fewestActs wsX0_fewestActs ({ frames := 2, cells := 0, slots := 0, locals := 45 } : Room) D [(cI, .int)] [.ref aKE, .ref aRE, .int l] [(aKE, .inr (0, [.ref aKeF, .ref aKeT])), (aKeF, .inl (cI, 10, .inl kF)), (aRE, .inr (2, [.ref aReS, .ref aReH, .ref aReK, .ref aReO, .ref aReD, .int cDays, .int cLin])), (aReH, .inl (cI, 6, .inl cH)), (aReK, .inl (cI, 5, .inl cK)), (aReD, .inl (cI, 5, .inl cD))] (some (.int ((m_X0_fewestActs kF cDays cH cK cD l).1))) [(aKE, .inr (0, [.ref aKeF, .ref aKeT])), (aKeF, .inl (cI, 10, .inl ((m_X0_fewestActs kF cDays cH cK cD l).2))), (aRE, .inr (2, [.ref aReS, .ref aReH, .ref aReK, .ref aReO, .ref aReD, .int cDays, .int cLin])), (aReH, .inl (cI, 6, .inl cH)), (aReK, .inl (cI, 5, .inl cK)), (aReD, .inl (cI, 5, .inl cD))] := by
  refine g_entry (by decide) rfl rfl rfl rfl (Nat.le_of_ble_eq_true rfl) (lv := [(0, .ref aKE), (1, .ref aRE), (2, .int l)]) rfl ?_
  intro X hC hX
  obtain ⟨res, hres⟩ : ∃ z, z = (m_X0_fewestActs kF cDays cH cK cD l) := ⟨_, rfl⟩
  rw [← hres] at hX
  rw [m_X0_fewestActs] at hres
  refine g_aload_n hC dX0_fewestActs_0 rfl 0 rfl rfl ?_
  refine g_get hC iw_X0_fewestActs_RX0 0 rfl rfl 0 (by decide) (List.mem_of_getElem? (i := 1) rfl) rfl rfl dX0_fewestActs_1 rfl ?_
  refine g_sipush (v := 1000) hC dX0_fewestActs_4 (by decide) rfl ?_
  refine g_callS (ws' := [(aKE, .inr (0, [.ref aKeF, .ref aKeT])), (aKeF, .inl (cI, 10, .inl (m_J7_fill_53178 10 kF (1000 : Int32)))), (aRE, .inr (2, [.ref aReS, .ref aReH, .ref aReK, .ref aReO, .ref aReD, .int cDays, .int cLin])), (aReH, .inl (cI, 6, .inl cH)), (aReK, .inl (cI, 5, .inl cK)), (aReD, .inl (cI, 5, .inl cD))]) (st' := []) (nw := 6) (n1 := 1) hC gX0_fewestActs_J7_fill_53178 hdS_yJ7_fill_53178 (As := [.ref aKeF, .int (1000 : Int32)]) (rest := []) (c_J7_fill_53178 D cI aKeF 10 kF (1000 : Int32) (by decide)) rfl ⟨by decide, by decide⟩ rfl [1] [0, 2, 3, 4, 5] [0, 5, 1, 2, 3, 4] [0] rfl rfl rfl rfl (by decide) rfl rfl (Nat.le_of_ble_eq_true rfl) dX0_fewestActs_7 rfl rfl ?_
  refine g_aload_n hC dX0_fewestActs_10 rfl 0 rfl rfl ?_
  refine g_get hC iw_X0_fewestActs_RX0 0 rfl rfl 0 (by decide) (List.mem_of_getElem? (i := 1) rfl) rfl rfl dX0_fewestActs_11 rfl ?_
  refine g_aload_n hC dX0_fewestActs_14 rfl 1 rfl rfl ?_
  refine g_get hC iw_X0_fewestActs_RX2 2 rfl rfl 4 (by decide) (List.mem_of_getElem? (i := 2) rfl) rfl rfl dX0_fewestActs_15 rfl ?_
  refine g_iload_n hC dX0_fewestActs_18 rfl 2 rfl rfl ?_
  refine g_callN (ws' := [(aKE, .inr (0, [.ref aKeF, .ref aKeT])), (aKeF, .inl (cI, 10, .inl (m_J7_fill_53178 10 kF (1000 : Int32)))), (aRE, .inr (2, [.ref aReS, .ref aReH, .ref aReK, .ref aReO, .ref aReD, .int cDays, .int cLin])), (aReH, .inl (cI, 6, .inl cH)), (aReK, .inl (cI, 5, .inl cK)), (aReD, .inl (cI, 5, .inl cD))]) (st' := [.int (m_X7_at 5 cD l), .ref aKeF]) (nw := 6) (n1 := 1) hC gX0_fewestActs_X7_at_n29 (List.mem_of_getElem? (i := 7) rfl) (List.mem_of_getElem? (i := 13) rfl) (List.mem_of_getElem? (i := 12) rfl) hdS_yX7_at (As := [.ref aReD, .int l]) (rest := [.ref aKeF]) (c_X7_at D cI aReD 5 cD l (by decide)) rfl ⟨by decide, by decide⟩ rfl [5] [0, 1, 2, 3, 4] [0, 1, 2, 3, 4, 5] [0] rfl rfl rfl rfl (by decide) rfl rfl (Nat.le_of_ble_eq_true rfl) dX0_fewestActs_19 rfl rfl ?_
  refine g_iconst (v := 0) hC dX0_fewestActs_22 (by decide) rfl ?_
  refine g_callN (ws' := [(aKE, .inr (0, [.ref aKeF, .ref aKeT])), (aKeF, .inl (cI, 10, .inl (m_X7_set 10 (m_J7_fill_53178 10 kF (1000 : Int32)) (m_X7_at 5 cD l) (0 : Int32)))), (aRE, .inr (2, [.ref aReS, .ref aReH, .ref aReK, .ref aReO, .ref aReD, .int cDays, .int cLin])), (aReH, .inl (cI, 6, .inl cH)), (aReK, .inl (cI, 5, .inl cK)), (aReD, .inl (cI, 5, .inl cD))]) (st' := []) (nw := 6) (n1 := 1) hC gX0_fewestActs_X7_set_n33 (List.mem_of_getElem? (i := 8) rfl) (List.mem_of_getElem? (i := 13) rfl) (List.mem_of_getElem? (i := 15) rfl) hdS_yX7_set (As := [.ref aKeF, .int (m_X7_at 5 cD l), .int (0 : Int32)]) (rest := []) (c_X7_set D cI aKeF 10 (m_J7_fill_53178 10 kF (1000 : Int32)) (m_X7_at 5 cD l) (0 : Int32) (by decide)) rfl ⟨by decide, by decide⟩ rfl [1] [0, 2, 3, 4, 5] [0, 5, 1, 2, 3, 4] [0] rfl rfl rfl rfl (by decide) rfl rfl (Nat.le_of_ble_eq_true rfl) dX0_fewestActs_23 rfl rfl ?_
  refine g_iconst (v := 0) hC dX0_fewestActs_26 (by decide) rfl ?_
  refine g_istore_n (lv' := [(3, .int (0 : Int32)), (0, .ref aKE), (1, .ref aRE), (2, .int l)]) hC dX0_fewestActs_27 rfl (by decide) rfl rfl ?_
  refine g_sub [1, 2, 3, 0] rfl ?_
  exact l_X0_fewestActs_28 D cI aKE aKeF aKeT kF aRE aReS aReH aReK aReO aReD cDays cLin cH cK cD l  hC hX ((cDays.toInt - (0 : Int32).toInt).toNat + 1) (0 : Int32) (m_X7_set 10 (m_J7_fill_53178 10 kF (1000 : Int32)) (m_X7_at 5 cD l) (0 : Int32)) (Nat.lt_succ_self _) (by decide) hres
theorem iw_X0_canAllBeKept_RX0 : ∀ w ∈ wsX00, w ∈ wsX0_canAllBeKept := fun _ h => List.mem_cons_of_mem _ (List.mem_append_right _ (h))
theorem iw_X0_canAllBeKept_RX2 : ∀ w ∈ wsX20, w ∈ wsX0_canAllBeKept := fun _ h => List.mem_cons_of_mem _ (List.mem_append_left _ (List.mem_append_right _ (h)))
def m_X0_canAllBeKept_20 (kx : Int32 → Int32 → (Int32)) : Nat → (Nat → Int32) → Int32 → (Nat → Int32) → Int32 → Int32 → Int32 → Int32 → (Int32)
  | 0, _, _, _, _, _, _, _ => default
  | fu + 1, kT, cLin, cO_, sub, k3, y4, y5 => (if cLin ≤ y5 then (kx y4 y5) else (if ((sub >>> (y5 &&& 31)) &&& (1 : Int32)) = (1 : Int32) then (if (if (m_X7_at 5 cO_ y5) = k3 then (1 : Int32) else (0 : Int32)) = 0 then (if (if (m_X7_at 5 cO_ y5) = k3 then (1 : Int32) else (0 : Int32)) = 0 then (m_X0_canAllBeKept_20 kx fu kT cLin cO_ sub k3 (y4 - (0 : Int32)) (y5 + 1)) else (m_X0_canAllBeKept_20 kx fu kT cLin cO_ sub k3 (y4 - (m_X7_at 5 kT y5)) (y5 + 1))) else (if (m_X7_at 5 kT y5) = (-9 : Int32) then (0 : Int32) else (if (if (m_X7_at 5 cO_ y5) = k3 then (1 : Int32) else (0 : Int32)) = 0 then (m_X0_canAllBeKept_20 kx fu kT cLin cO_ sub k3 (y4 - (0 : Int32)) (y5 + 1)) else (m_X0_canAllBeKept_20 kx fu kT cLin cO_ sub k3 (y4 - (m_X7_at 5 kT y5)) (y5 + 1))))) else (if (0 : Int32) = 0 then (if (0 : Int32) = 0 then (m_X0_canAllBeKept_20 kx fu kT cLin cO_ sub k3 (y4 - (0 : Int32)) (y5 + 1)) else (m_X0_canAllBeKept_20 kx fu kT cLin cO_ sub k3 (y4 - (m_X7_at 5 kT y5)) (y5 + 1))) else (if (m_X7_at 5 kT y5) = (-9 : Int32) then (0 : Int32) else (if (0 : Int32) = 0 then (m_X0_canAllBeKept_20 kx fu kT cLin cO_ sub k3 (y4 - (0 : Int32)) (y5 + 1)) else (m_X0_canAllBeKept_20 kx fu kT cLin cO_ sub k3 (y4 - (m_X7_at 5 kT y5)) (y5 + 1)))))))
def m_X0_canAllBeKept_2 : Nat → (Nat → Int32) → Int32 → (Nat → Int32) → (Nat → Int32) → Int32 → Int32 → (Int32)
  | 0, _, _, _, _, _, _ => default
  | fu + 1, kT, cLin, cS, cO_, sub, y3 => (if (4 : Int32) ≤ y3 then (1 : Int32) else (m_X0_canAllBeKept_20 (fun y4 y5 => (if 0 ≤ y4 then (m_X0_canAllBeKept_2 fu kT cLin cS cO_ sub (y3 + 1)) else (0 : Int32))) ((cLin.toInt - (0 : Int32).toInt).toNat + 1) kT cLin cO_ sub y3 (m_X7_at 4 cS y3) (0 : Int32)))
def m_X0_canAllBeKept (kT : Nat → Int32) (cLin : Int32) (cS : Nat → Int32) (cO_ : Nat → Int32) (sub : Int32) : (Int32) := (m_X0_canAllBeKept_2 (((4 : Int32).toInt - (0 : Int32).toInt).toNat + 1) kT cLin cS cO_ sub (0 : Int32))
set_option maxRecDepth 100000 in
set_option maxHeartbeats 4000000 in
theorem l_X0_canAllBeKept_20 {X : gX} (D : va_G) (cI : ClassId) (aKE : Nat) (aKeF : Nat) (aKeT : Nat) (kT : Nat → Int32) (aRE : Nat) (aReS : Nat) (aReH : Nat) (aReK : Nat) (aReO : Nat) (aReD : Nat) (cDays : Int32) (cLin : Int32) (cS : Nat → Int32) (cO_ : Nat → Int32) (sub : Int32) (k3 : Int32) (hC : Cx X cX0_canAllBeKept 7 RX0 wsX0_canAllBeKept D [(cI, .int)] ({ frames := 1, cells := 0, slots := 0, locals := 21 } : Room) (some .boolean)) {res : (Int32)} (hX : Rx X D (some (.int res)) [(aKE, .inr (0, [.ref aKeF, .ref aKeT])), (aKeT, .inl (cI, 5, .inl kT)), (aRE, .inr (2, [.ref aReS, .ref aReH, .ref aReK, .ref aReO, .ref aReD, .int cDays, .int cLin])), (aReS, .inl (cI, 4, .inl cS)), (aReO, .inl (cI, 5, .inl cO_))]) (kx : Int32 → Int32 → (Int32)) (hk : ∀ (y4 : Int32) (y5 : Int32), res = kx y4 y5 → G X D 7 [(aKE, .inr (0, [.ref aKeF, .ref aKeT])), (aKeT, .inl (cI, 5, .inl kT)), (aRE, .inr (2, [.ref aReS, .ref aReH, .ref aReK, .ref aReO, .ref aReD, .int cDays, .int cLin])), (aReS, .inl (cI, 4, .inl cS)), (aReO, .inl (cI, 5, .inl cO_))] [(0, .ref aKE), (1, .ref aRE), (2, .int sub), (3, .int k3), (4, .int y4), (5, .int y5)] 109 []) : ∀ (fu : Nat) (y4 : Int32) (y5 : Int32) (hm : (cLin.toInt - y5.toInt).toNat < fu) (h0_y5 : 0 ≤ y5.toInt) (hres : res = m_X0_canAllBeKept_20 kx fu kT cLin cO_ sub k3 y4 y5), G X D 7 [(aKE, .inr (0, [.ref aKeF, .ref aKeT])), (aKeT, .inl (cI, 5, .inl kT)), (aRE, .inr (2, [.ref aReS, .ref aReH, .ref aReK, .ref aReO, .ref aReD, .int cDays, .int cLin])), (aReS, .inl (cI, 4, .inl cS)), (aReO, .inl (cI, 5, .inl cO_))] [(0, .ref aKE), (1, .ref aRE), (2, .int sub), (3, .int k3), (4, .int y4), (5, .int y5)] 20 [] := by
  intro fu
  induction fu with
  | zero =>
    intro y4 y5 hm
    exact absurd hm (Nat.not_lt_zero _)
  | succ fu ih =>
    intro y4 y5 hm h0_y5 hres
    rw [m_X0_canAllBeKept_20] at hres
    refine g_iload hC dX0_canAllBeKept_20 5 rfl rfl ?_
    refine g_aload_n hC dX0_canAllBeKept_22 rfl 1 rfl rfl ?_
    refine g_get hC iw_X0_canAllBeKept_RX2 2 rfl rfl 6 (by decide) (List.mem_of_getElem? (i := 2) rfl) rfl rfl dX0_canAllBeKept_23 rfl ?_
    refine g_icmp_ge (tgt := 109) hC dX0_canAllBeKept_26 (by decide) rfl (fun c_26 => ?_) (fun c_26 => ?_)
    · rw [if_pos c_26] at hres
      exact hk y4 y5 hres
    · rw [if_neg c_26] at hres
      refine g_iload_n hC dX0_canAllBeKept_29 rfl 2 rfl rfl ?_
      refine g_iload hC dX0_canAllBeKept_30 5 rfl rfl ?_
      refine g_ishr hC dX0_canAllBeKept_32 rfl ?_
      refine g_iconst (v := 1) hC dX0_canAllBeKept_33 (by decide) rfl ?_
      refine g_iand hC dX0_canAllBeKept_34 rfl ?_
      refine g_iconst (v := 1) hC dX0_canAllBeKept_35 (by decide) rfl ?_
      refine g_icmp_ne (tgt := 56) hC dX0_canAllBeKept_36 (by decide) rfl (fun c_36 => ?_) (fun c_36 => ?_)
      · rw [if_neg c_36] at hres
        refine g_iconst (v := 0) hC dX0_canAllBeKept_56 (by decide) rfl ?_
        refine g_istore (lv' := [(6, .int (0 : Int32)), (0, .ref aKE), (1, .ref aRE), (2, .int sub), (3, .int k3), (4, .int y4), (5, .int y5)]) hC dX0_canAllBeKept_57 (by decide) rfl rfl ?_
        refine g_iload hC dX0_canAllBeKept_59 0 rfl rfl ?_
        refine g_if_eq (tgt := 80) hC dX0_canAllBeKept_61 (by decide) rfl (fun c_61 => ?_) (fun c_61 => ?_)
        · replace hres := hres.trans (if_pos c_61)
          refine g_iload hC dX0_canAllBeKept_80 5 rfl rfl ?_
          refine g_iload hC dX0_canAllBeKept_82 0 rfl rfl ?_
          refine g_if_eq (tgt := 99) hC dX0_canAllBeKept_84 (by decide) rfl (fun c_84 => ?_) (fun c_84 => ?_)
          · rw [if_pos c_84] at hres
            refine g_iconst (v := 0) hC dX0_canAllBeKept_99 (by decide) rfl ?_
            refine g_isub hC dX0_canAllBeKept_100 rfl ?_
            refine g_istore (lv' := [(4, .int (y4 - (0 : Int32))), (6, .int (0 : Int32)), (0, .ref aKE), (1, .ref aRE), (2, .int sub), (3, .int k3), (5, .int y5)]) hC dX0_canAllBeKept_101 (by decide) rfl rfl ?_
            refine g_iinc (v := (y5 + 1)) (lv' := [(5, .int (y5 + 1)), (4, .int (y4 - (0 : Int32))), (6, .int (0 : Int32)), (0, .ref aKE), (1, .ref aRE), (2, .int sub), (3, .int k3)]) hC dX0_canAllBeKept_103 6 rfl rfl (by decide) rfl rfl ?_
            refine g_goto (tgt := 20) hC dX0_canAllBeKept_106 (by decide) ?_
            refine g_sub [3, 4, 5, 6, 1, 0] rfl ?_
            exact ih (y4 - (0 : Int32)) (y5 + 1) (up_dec c_26 hm) (up_nn c_26 h0_y5) hres
          · rw [if_neg c_84] at hres
            refine g_aload_n hC dX0_canAllBeKept_87 rfl 1 rfl rfl ?_
            refine g_get hC iw_X0_canAllBeKept_RX0 0 rfl rfl 1 (by decide) (List.mem_of_getElem? (i := 4) rfl) rfl rfl dX0_canAllBeKept_88 rfl ?_
            refine g_iload hC dX0_canAllBeKept_91 6 rfl rfl ?_
            refine g_callN (ws' := [(aKE, .inr (0, [.ref aKeF, .ref aKeT])), (aKeT, .inl (cI, 5, .inl kT)), (aRE, .inr (2, [.ref aReS, .ref aReH, .ref aReK, .ref aReO, .ref aReD, .int cDays, .int cLin])), (aReS, .inl (cI, 4, .inl cS)), (aReO, .inl (cI, 5, .inl cO_))]) (st' := [.int (m_X7_at 5 kT y5), .int y4]) (nw := 5) (n1 := 1) hC gX0_canAllBeKept_X7_at_n29 (List.mem_of_getElem? (i := 7) rfl) (List.mem_of_getElem? (i := 6) rfl) (List.mem_of_getElem? (i := 5) rfl) hdS_yX7_at (As := [.ref aKeT, .int y5]) (rest := [.int y4]) (c_X7_at D cI aKeT 5 kT y5 (by decide)) rfl ⟨by decide, by decide⟩ rfl [1] [0, 2, 3, 4] [0, 4, 1, 2, 3] [0] rfl rfl rfl rfl (by decide) rfl rfl (Nat.le_of_ble_eq_true rfl) dX0_canAllBeKept_93 rfl rfl ?_
            refine g_goto (tgt := 100) hC dX0_canAllBeKept_96 (by decide) ?_
            refine g_isub hC dX0_canAllBeKept_100 rfl ?_
            refine g_istore (lv' := [(4, .int (y4 - (m_X7_at 5 kT y5))), (6, .int (0 : Int32)), (0, .ref aKE), (1, .ref aRE), (2, .int sub), (3, .int k3), (5, .int y5)]) hC dX0_canAllBeKept_101 (by decide) rfl rfl ?_
            refine g_iinc (v := (y5 + 1)) (lv' := [(5, .int (y5 + 1)), (4, .int (y4 - (m_X7_at 5 kT y5))), (6, .int (0 : Int32)), (0, .ref aKE), (1, .ref aRE), (2, .int sub), (3, .int k3)]) hC dX0_canAllBeKept_103 6 rfl rfl (by decide) rfl rfl ?_
            refine g_goto (tgt := 20) hC dX0_canAllBeKept_106 (by decide) ?_
            refine g_sub [3, 4, 5, 6, 1, 0] rfl ?_
            exact ih (y4 - (m_X7_at 5 kT y5)) (y5 + 1) (up_dec c_26 hm) (up_nn c_26 h0_y5) hres
        · replace hres := hres.trans (if_neg c_61)
          refine g_aload_n hC dX0_canAllBeKept_64 rfl 1 rfl rfl ?_
          refine g_get hC iw_X0_canAllBeKept_RX0 0 rfl rfl 1 (by decide) (List.mem_of_getElem? (i := 4) rfl) rfl rfl dX0_canAllBeKept_65 rfl ?_
          refine g_iload hC dX0_canAllBeKept_68 6 rfl rfl ?_
          refine g_callN (ws' := [(aKE, .inr (0, [.ref aKeF, .ref aKeT])), (aKeT, .inl (cI, 5, .inl kT)), (aRE, .inr (2, [.ref aReS, .ref aReH, .ref aReK, .ref aReO, .ref aReD, .int cDays, .int cLin])), (aReS, .inl (cI, 4, .inl cS)), (aReO, .inl (cI, 5, .inl cO_))]) (st' := [.int (m_X7_at 5 kT y5)]) (nw := 5) (n1 := 1) hC gX0_canAllBeKept_X7_at_n29 (List.mem_of_getElem? (i := 7) rfl) (List.mem_of_getElem? (i := 6) rfl) (List.mem_of_getElem? (i := 5) rfl) hdS_yX7_at (As := [.ref aKeT, .int y5]) (rest := []) (c_X7_at D cI aKeT 5 kT y5 (by decide)) rfl ⟨by decide, by decide⟩ rfl [1] [0, 2, 3, 4] [0, 4, 1, 2, 3] [0] rfl rfl rfl rfl (by decide) rfl rfl (Nat.le_of_ble_eq_true rfl) dX0_canAllBeKept_70 rfl rfl ?_
          refine g_bipush (v := -9) hC dX0_canAllBeKept_73 (by decide) rfl ?_
          refine g_icmp_ne (tgt := 80) hC dX0_canAllBeKept_75 (by decide) rfl (fun c_75 => ?_) (fun c_75 => ?_)
          · rw [if_neg c_75] at hres
            refine g_iload hC dX0_canAllBeKept_80 5 rfl rfl ?_
            refine g_iload hC dX0_canAllBeKept_82 0 rfl rfl ?_
            refine g_if_eq (tgt := 99) hC dX0_canAllBeKept_84 (by decide) rfl (fun c_84 => ?_) (fun c_84 => ?_)
            · rw [if_pos c_84] at hres
              refine g_iconst (v := 0) hC dX0_canAllBeKept_99 (by decide) rfl ?_
              refine g_isub hC dX0_canAllBeKept_100 rfl ?_
              refine g_istore (lv' := [(4, .int (y4 - (0 : Int32))), (6, .int (0 : Int32)), (0, .ref aKE), (1, .ref aRE), (2, .int sub), (3, .int k3), (5, .int y5)]) hC dX0_canAllBeKept_101 (by decide) rfl rfl ?_
              refine g_iinc (v := (y5 + 1)) (lv' := [(5, .int (y5 + 1)), (4, .int (y4 - (0 : Int32))), (6, .int (0 : Int32)), (0, .ref aKE), (1, .ref aRE), (2, .int sub), (3, .int k3)]) hC dX0_canAllBeKept_103 6 rfl rfl (by decide) rfl rfl ?_
              refine g_goto (tgt := 20) hC dX0_canAllBeKept_106 (by decide) ?_
              refine g_sub [3, 4, 5, 6, 1, 0] rfl ?_
              exact ih (y4 - (0 : Int32)) (y5 + 1) (up_dec c_26 hm) (up_nn c_26 h0_y5) hres
            · rw [if_neg c_84] at hres
              refine g_aload_n hC dX0_canAllBeKept_87 rfl 1 rfl rfl ?_
              refine g_get hC iw_X0_canAllBeKept_RX0 0 rfl rfl 1 (by decide) (List.mem_of_getElem? (i := 4) rfl) rfl rfl dX0_canAllBeKept_88 rfl ?_
              refine g_iload hC dX0_canAllBeKept_91 6 rfl rfl ?_
              refine g_callN (ws' := [(aKE, .inr (0, [.ref aKeF, .ref aKeT])), (aKeT, .inl (cI, 5, .inl kT)), (aRE, .inr (2, [.ref aReS, .ref aReH, .ref aReK, .ref aReO, .ref aReD, .int cDays, .int cLin])), (aReS, .inl (cI, 4, .inl cS)), (aReO, .inl (cI, 5, .inl cO_))]) (st' := [.int (m_X7_at 5 kT y5), .int y4]) (nw := 5) (n1 := 1) hC gX0_canAllBeKept_X7_at_n29 (List.mem_of_getElem? (i := 7) rfl) (List.mem_of_getElem? (i := 6) rfl) (List.mem_of_getElem? (i := 5) rfl) hdS_yX7_at (As := [.ref aKeT, .int y5]) (rest := [.int y4]) (c_X7_at D cI aKeT 5 kT y5 (by decide)) rfl ⟨by decide, by decide⟩ rfl [1] [0, 2, 3, 4] [0, 4, 1, 2, 3] [0] rfl rfl rfl rfl (by decide) rfl rfl (Nat.le_of_ble_eq_true rfl) dX0_canAllBeKept_93 rfl rfl ?_
              refine g_goto (tgt := 100) hC dX0_canAllBeKept_96 (by decide) ?_
              refine g_isub hC dX0_canAllBeKept_100 rfl ?_
              refine g_istore (lv' := [(4, .int (y4 - (m_X7_at 5 kT y5))), (6, .int (0 : Int32)), (0, .ref aKE), (1, .ref aRE), (2, .int sub), (3, .int k3), (5, .int y5)]) hC dX0_canAllBeKept_101 (by decide) rfl rfl ?_
              refine g_iinc (v := (y5 + 1)) (lv' := [(5, .int (y5 + 1)), (4, .int (y4 - (m_X7_at 5 kT y5))), (6, .int (0 : Int32)), (0, .ref aKE), (1, .ref aRE), (2, .int sub), (3, .int k3)]) hC dX0_canAllBeKept_103 6 rfl rfl (by decide) rfl rfl ?_
              refine g_goto (tgt := 20) hC dX0_canAllBeKept_106 (by decide) ?_
              refine g_sub [3, 4, 5, 6, 1, 0] rfl ?_
              exact ih (y4 - (m_X7_at 5 kT y5)) (y5 + 1) (up_dec c_26 hm) (up_nn c_26 h0_y5) hres
          · rw [if_pos c_75] at hres
            refine g_iconst (v := 0) hC dX0_canAllBeKept_78 (by decide) rfl ?_
            subst hres
            exact g_zret hC hX rfl rfl dX0_canAllBeKept_79 rfl rfl
      · rw [if_pos c_36] at hres
        refine g_aload_n hC dX0_canAllBeKept_39 rfl 1 rfl rfl ?_
        refine g_get hC iw_X0_canAllBeKept_RX2 2 rfl rfl 3 (by decide) (List.mem_of_getElem? (i := 3) rfl) rfl rfl dX0_canAllBeKept_40 rfl ?_
        refine g_iload hC dX0_canAllBeKept_43 5 rfl rfl ?_
        refine g_callN (ws' := [(aKE, .inr (0, [.ref aKeF, .ref aKeT])), (aKeT, .inl (cI, 5, .inl kT)), (aRE, .inr (2, [.ref aReS, .ref aReH, .ref aReK, .ref aReO, .ref aReD, .int cDays, .int cLin])), (aReS, .inl (cI, 4, .inl cS)), (aReO, .inl (cI, 5, .inl cO_))]) (st' := [.int (m_X7_at 5 cO_ y5)]) (nw := 5) (n1 := 1) hC gX0_canAllBeKept_X7_at_n29 (List.mem_of_getElem? (i := 7) rfl) (List.mem_of_getElem? (i := 6) rfl) (List.mem_of_getElem? (i := 5) rfl) hdS_yX7_at (As := [.ref aReO, .int y5]) (rest := []) (c_X7_at D cI aReO 5 cO_ y5 (by decide)) rfl ⟨by decide, by decide⟩ rfl [4] [0, 1, 2, 3] [0, 1, 2, 3, 4] [0] rfl rfl rfl rfl (by decide) rfl rfl (Nat.le_of_ble_eq_true rfl) dX0_canAllBeKept_45 rfl rfl ?_
        refine g_iload_n hC dX0_canAllBeKept_48 rfl 3 rfl rfl ?_
        have K_49 : ∀ vK : Int32, vK = (if (m_X7_at 5 cO_ y5) = k3 then (1 : Int32) else (0 : Int32)) → G X D 7 [(aKE, .inr (0, [.ref aKeF, .ref aKeT])), (aKeT, .inl (cI, 5, .inl kT)), (aRE, .inr (2, [.ref aReS, .ref aReH, .ref aReK, .ref aReO, .ref aReD, .int cDays, .int cLin])), (aReS, .inl (cI, 4, .inl cS)), (aReO, .inl (cI, 5, .inl cO_))] [(0, .ref aKE), (1, .ref aRE), (2, .int sub), (3, .int k3), (4, .int y4), (5, .int y5)] 57 (.int vK :: []) := by
          intro vK hvK
          subst hvK
          refine g_istore (lv' := [(6, .int (if (m_X7_at 5 cO_ y5) = k3 then (1 : Int32) else (0 : Int32))), (0, .ref aKE), (1, .ref aRE), (2, .int sub), (3, .int k3), (4, .int y4), (5, .int y5)]) hC dX0_canAllBeKept_57 (by decide) rfl rfl ?_
          refine g_iload hC dX0_canAllBeKept_59 0 rfl rfl ?_
          refine g_if_eq (tgt := 80) hC dX0_canAllBeKept_61 (by decide) rfl (fun c_61 => ?_) (fun c_61 => ?_)
          · replace hres := hres.trans (if_pos c_61)
            refine g_iload hC dX0_canAllBeKept_80 5 rfl rfl ?_
            refine g_iload hC dX0_canAllBeKept_82 0 rfl rfl ?_
            refine g_if_eq (tgt := 99) hC dX0_canAllBeKept_84 (by decide) rfl (fun c_84 => ?_) (fun c_84 => ?_)
            · rw [if_pos c_84] at hres
              refine g_iconst (v := 0) hC dX0_canAllBeKept_99 (by decide) rfl ?_
              refine g_isub hC dX0_canAllBeKept_100 rfl ?_
              refine g_istore (lv' := [(4, .int (y4 - (0 : Int32))), (6, .int (if (m_X7_at 5 cO_ y5) = k3 then (1 : Int32) else (0 : Int32))), (0, .ref aKE), (1, .ref aRE), (2, .int sub), (3, .int k3), (5, .int y5)]) hC dX0_canAllBeKept_101 (by decide) rfl rfl ?_
              refine g_iinc (v := (y5 + 1)) (lv' := [(5, .int (y5 + 1)), (4, .int (y4 - (0 : Int32))), (6, .int (if (m_X7_at 5 cO_ y5) = k3 then (1 : Int32) else (0 : Int32))), (0, .ref aKE), (1, .ref aRE), (2, .int sub), (3, .int k3)]) hC dX0_canAllBeKept_103 6 rfl rfl (by decide) rfl rfl ?_
              refine g_goto (tgt := 20) hC dX0_canAllBeKept_106 (by decide) ?_
              refine g_sub [3, 4, 5, 6, 1, 0] rfl ?_
              exact ih (y4 - (0 : Int32)) (y5 + 1) (up_dec c_26 hm) (up_nn c_26 h0_y5) hres
            · rw [if_neg c_84] at hres
              refine g_aload_n hC dX0_canAllBeKept_87 rfl 1 rfl rfl ?_
              refine g_get hC iw_X0_canAllBeKept_RX0 0 rfl rfl 1 (by decide) (List.mem_of_getElem? (i := 4) rfl) rfl rfl dX0_canAllBeKept_88 rfl ?_
              refine g_iload hC dX0_canAllBeKept_91 6 rfl rfl ?_
              refine g_callN (ws' := [(aKE, .inr (0, [.ref aKeF, .ref aKeT])), (aKeT, .inl (cI, 5, .inl kT)), (aRE, .inr (2, [.ref aReS, .ref aReH, .ref aReK, .ref aReO, .ref aReD, .int cDays, .int cLin])), (aReS, .inl (cI, 4, .inl cS)), (aReO, .inl (cI, 5, .inl cO_))]) (st' := [.int (m_X7_at 5 kT y5), .int y4]) (nw := 5) (n1 := 1) hC gX0_canAllBeKept_X7_at_n29 (List.mem_of_getElem? (i := 7) rfl) (List.mem_of_getElem? (i := 6) rfl) (List.mem_of_getElem? (i := 5) rfl) hdS_yX7_at (As := [.ref aKeT, .int y5]) (rest := [.int y4]) (c_X7_at D cI aKeT 5 kT y5 (by decide)) rfl ⟨by decide, by decide⟩ rfl [1] [0, 2, 3, 4] [0, 4, 1, 2, 3] [0] rfl rfl rfl rfl (by decide) rfl rfl (Nat.le_of_ble_eq_true rfl) dX0_canAllBeKept_93 rfl rfl ?_
              refine g_goto (tgt := 100) hC dX0_canAllBeKept_96 (by decide) ?_
              refine g_isub hC dX0_canAllBeKept_100 rfl ?_
              refine g_istore (lv' := [(4, .int (y4 - (m_X7_at 5 kT y5))), (6, .int (if (m_X7_at 5 cO_ y5) = k3 then (1 : Int32) else (0 : Int32))), (0, .ref aKE), (1, .ref aRE), (2, .int sub), (3, .int k3), (5, .int y5)]) hC dX0_canAllBeKept_101 (by decide) rfl rfl ?_
              refine g_iinc (v := (y5 + 1)) (lv' := [(5, .int (y5 + 1)), (4, .int (y4 - (m_X7_at 5 kT y5))), (6, .int (if (m_X7_at 5 cO_ y5) = k3 then (1 : Int32) else (0 : Int32))), (0, .ref aKE), (1, .ref aRE), (2, .int sub), (3, .int k3)]) hC dX0_canAllBeKept_103 6 rfl rfl (by decide) rfl rfl ?_
              refine g_goto (tgt := 20) hC dX0_canAllBeKept_106 (by decide) ?_
              refine g_sub [3, 4, 5, 6, 1, 0] rfl ?_
              exact ih (y4 - (m_X7_at 5 kT y5)) (y5 + 1) (up_dec c_26 hm) (up_nn c_26 h0_y5) hres
          · replace hres := hres.trans (if_neg c_61)
            refine g_aload_n hC dX0_canAllBeKept_64 rfl 1 rfl rfl ?_
            refine g_get hC iw_X0_canAllBeKept_RX0 0 rfl rfl 1 (by decide) (List.mem_of_getElem? (i := 4) rfl) rfl rfl dX0_canAllBeKept_65 rfl ?_
            refine g_iload hC dX0_canAllBeKept_68 6 rfl rfl ?_
            refine g_callN (ws' := [(aKE, .inr (0, [.ref aKeF, .ref aKeT])), (aKeT, .inl (cI, 5, .inl kT)), (aRE, .inr (2, [.ref aReS, .ref aReH, .ref aReK, .ref aReO, .ref aReD, .int cDays, .int cLin])), (aReS, .inl (cI, 4, .inl cS)), (aReO, .inl (cI, 5, .inl cO_))]) (st' := [.int (m_X7_at 5 kT y5)]) (nw := 5) (n1 := 1) hC gX0_canAllBeKept_X7_at_n29 (List.mem_of_getElem? (i := 7) rfl) (List.mem_of_getElem? (i := 6) rfl) (List.mem_of_getElem? (i := 5) rfl) hdS_yX7_at (As := [.ref aKeT, .int y5]) (rest := []) (c_X7_at D cI aKeT 5 kT y5 (by decide)) rfl ⟨by decide, by decide⟩ rfl [1] [0, 2, 3, 4] [0, 4, 1, 2, 3] [0] rfl rfl rfl rfl (by decide) rfl rfl (Nat.le_of_ble_eq_true rfl) dX0_canAllBeKept_70 rfl rfl ?_
            refine g_bipush (v := -9) hC dX0_canAllBeKept_73 (by decide) rfl ?_
            refine g_icmp_ne (tgt := 80) hC dX0_canAllBeKept_75 (by decide) rfl (fun c_75 => ?_) (fun c_75 => ?_)
            · rw [if_neg c_75] at hres
              refine g_iload hC dX0_canAllBeKept_80 5 rfl rfl ?_
              refine g_iload hC dX0_canAllBeKept_82 0 rfl rfl ?_
              refine g_if_eq (tgt := 99) hC dX0_canAllBeKept_84 (by decide) rfl (fun c_84 => ?_) (fun c_84 => ?_)
              · rw [if_pos c_84] at hres
                refine g_iconst (v := 0) hC dX0_canAllBeKept_99 (by decide) rfl ?_
                refine g_isub hC dX0_canAllBeKept_100 rfl ?_
                refine g_istore (lv' := [(4, .int (y4 - (0 : Int32))), (6, .int (if (m_X7_at 5 cO_ y5) = k3 then (1 : Int32) else (0 : Int32))), (0, .ref aKE), (1, .ref aRE), (2, .int sub), (3, .int k3), (5, .int y5)]) hC dX0_canAllBeKept_101 (by decide) rfl rfl ?_
                refine g_iinc (v := (y5 + 1)) (lv' := [(5, .int (y5 + 1)), (4, .int (y4 - (0 : Int32))), (6, .int (if (m_X7_at 5 cO_ y5) = k3 then (1 : Int32) else (0 : Int32))), (0, .ref aKE), (1, .ref aRE), (2, .int sub), (3, .int k3)]) hC dX0_canAllBeKept_103 6 rfl rfl (by decide) rfl rfl ?_
                refine g_goto (tgt := 20) hC dX0_canAllBeKept_106 (by decide) ?_
                refine g_sub [3, 4, 5, 6, 1, 0] rfl ?_
                exact ih (y4 - (0 : Int32)) (y5 + 1) (up_dec c_26 hm) (up_nn c_26 h0_y5) hres
              · rw [if_neg c_84] at hres
                refine g_aload_n hC dX0_canAllBeKept_87 rfl 1 rfl rfl ?_
                refine g_get hC iw_X0_canAllBeKept_RX0 0 rfl rfl 1 (by decide) (List.mem_of_getElem? (i := 4) rfl) rfl rfl dX0_canAllBeKept_88 rfl ?_
                refine g_iload hC dX0_canAllBeKept_91 6 rfl rfl ?_
                refine g_callN (ws' := [(aKE, .inr (0, [.ref aKeF, .ref aKeT])), (aKeT, .inl (cI, 5, .inl kT)), (aRE, .inr (2, [.ref aReS, .ref aReH, .ref aReK, .ref aReO, .ref aReD, .int cDays, .int cLin])), (aReS, .inl (cI, 4, .inl cS)), (aReO, .inl (cI, 5, .inl cO_))]) (st' := [.int (m_X7_at 5 kT y5), .int y4]) (nw := 5) (n1 := 1) hC gX0_canAllBeKept_X7_at_n29 (List.mem_of_getElem? (i := 7) rfl) (List.mem_of_getElem? (i := 6) rfl) (List.mem_of_getElem? (i := 5) rfl) hdS_yX7_at (As := [.ref aKeT, .int y5]) (rest := [.int y4]) (c_X7_at D cI aKeT 5 kT y5 (by decide)) rfl ⟨by decide, by decide⟩ rfl [1] [0, 2, 3, 4] [0, 4, 1, 2, 3] [0] rfl rfl rfl rfl (by decide) rfl rfl (Nat.le_of_ble_eq_true rfl) dX0_canAllBeKept_93 rfl rfl ?_
                refine g_goto (tgt := 100) hC dX0_canAllBeKept_96 (by decide) ?_
                refine g_isub hC dX0_canAllBeKept_100 rfl ?_
                refine g_istore (lv' := [(4, .int (y4 - (m_X7_at 5 kT y5))), (6, .int (if (m_X7_at 5 cO_ y5) = k3 then (1 : Int32) else (0 : Int32))), (0, .ref aKE), (1, .ref aRE), (2, .int sub), (3, .int k3), (5, .int y5)]) hC dX0_canAllBeKept_101 (by decide) rfl rfl ?_
                refine g_iinc (v := (y5 + 1)) (lv' := [(5, .int (y5 + 1)), (4, .int (y4 - (m_X7_at 5 kT y5))), (6, .int (if (m_X7_at 5 cO_ y5) = k3 then (1 : Int32) else (0 : Int32))), (0, .ref aKE), (1, .ref aRE), (2, .int sub), (3, .int k3)]) hC dX0_canAllBeKept_103 6 rfl rfl (by decide) rfl rfl ?_
                refine g_goto (tgt := 20) hC dX0_canAllBeKept_106 (by decide) ?_
                refine g_sub [3, 4, 5, 6, 1, 0] rfl ?_
                exact ih (y4 - (m_X7_at 5 kT y5)) (y5 + 1) (up_dec c_26 hm) (up_nn c_26 h0_y5) hres
            · rw [if_pos c_75] at hres
              refine g_iconst (v := 0) hC dX0_canAllBeKept_78 (by decide) rfl ?_
              subst hres
              exact g_zret hC hX rfl rfl dX0_canAllBeKept_79 rfl rfl
        refine g_icmp_ne (tgt := 56) hC dX0_canAllBeKept_49 (by decide) rfl (fun c_49 => ?_) (fun c_49 => ?_)
        · refine g_iconst (v := 0) hC dX0_canAllBeKept_56 (by decide) rfl ?_
          exact K_49 _ (if_neg c_49).symm
        · refine g_iconst (v := 1) hC dX0_canAllBeKept_52 (by decide) rfl ?_
          refine g_goto (tgt := 57) hC dX0_canAllBeKept_53 (by decide) ?_
          exact K_49 _ (if_pos c_49).symm
set_option maxRecDepth 100000 in
set_option maxHeartbeats 4000000 in
theorem l_X0_canAllBeKept_2 {X : gX} (D : va_G) (cI : ClassId) (aKE : Nat) (aKeF : Nat) (aKeT : Nat) (kT : Nat → Int32) (aRE : Nat) (aReS : Nat) (aReH : Nat) (aReK : Nat) (aReO : Nat) (aReD : Nat) (cDays : Int32) (cLin : Int32) (cS : Nat → Int32) (cO_ : Nat → Int32) (sub : Int32) (hC : Cx X cX0_canAllBeKept 7 RX0 wsX0_canAllBeKept D [(cI, .int)] ({ frames := 1, cells := 0, slots := 0, locals := 21 } : Room) (some .boolean)) {res : (Int32)} (hX : Rx X D (some (.int res)) [(aKE, .inr (0, [.ref aKeF, .ref aKeT])), (aKeT, .inl (cI, 5, .inl kT)), (aRE, .inr (2, [.ref aReS, .ref aReH, .ref aReK, .ref aReO, .ref aReD, .int cDays, .int cLin])), (aReS, .inl (cI, 4, .inl cS)), (aReO, .inl (cI, 5, .inl cO_))]) : ∀ (fu : Nat) (y3 : Int32) (hm : ((4 : Int32).toInt - y3.toInt).toNat < fu) (h0_y3 : 0 ≤ y3.toInt) (hres : res = m_X0_canAllBeKept_2 fu kT cLin cS cO_ sub y3), G X D 7 [(aKE, .inr (0, [.ref aKeF, .ref aKeT])), (aKeT, .inl (cI, 5, .inl kT)), (aRE, .inr (2, [.ref aReS, .ref aReH, .ref aReK, .ref aReO, .ref aReD, .int cDays, .int cLin])), (aReS, .inl (cI, 4, .inl cS)), (aReO, .inl (cI, 5, .inl cO_))] [(0, .ref aKE), (1, .ref aRE), (2, .int sub), (3, .int y3)] 2 [] := by
  intro fu
  induction fu with
  | zero =>
    intro y3 hm
    exact absurd hm (Nat.not_lt_zero _)
  | succ fu ih =>
    intro y3 hm h0_y3 hres
    rw [m_X0_canAllBeKept_2] at hres
    refine g_iload_n hC dX0_canAllBeKept_2 rfl 3 rfl rfl ?_
    refine g_iconst (v := 4) hC dX0_canAllBeKept_3 (by decide) rfl ?_
    refine g_icmp_ge (tgt := 122) hC dX0_canAllBeKept_4 (by decide) rfl (fun c_4 => ?_) (fun c_4 => ?_)
    · rw [if_pos c_4] at hres
      refine g_iconst (v := 1) hC dX0_canAllBeKept_122 (by decide) rfl ?_
      subst hres
      exact g_zret hC hX rfl rfl dX0_canAllBeKept_123 rfl rfl
    · rw [if_neg c_4] at hres
      refine g_aload_n hC dX0_canAllBeKept_7 rfl 1 rfl rfl ?_
      refine g_get hC iw_X0_canAllBeKept_RX2 2 rfl rfl 0 (by decide) (List.mem_of_getElem? (i := 1) rfl) rfl rfl dX0_canAllBeKept_8 rfl ?_
      refine g_iload_n hC dX0_canAllBeKept_11 rfl 3 rfl rfl ?_
      refine g_callN (ws' := [(aKE, .inr (0, [.ref aKeF, .ref aKeT])), (aKeT, .inl (cI, 5, .inl kT)), (aRE, .inr (2, [.ref aReS, .ref aReH, .ref aReK, .ref aReO, .ref aReD, .int cDays, .int cLin])), (aReS, .inl (cI, 4, .inl cS)), (aReO, .inl (cI, 5, .inl cO_))]) (st' := [.int (m_X7_at 4 cS y3)]) (nw := 5) (n1 := 1) hC gX0_canAllBeKept_X7_at_n29 (List.mem_of_getElem? (i := 7) rfl) (List.mem_of_getElem? (i := 6) rfl) (List.mem_of_getElem? (i := 5) rfl) hdS_yX7_at (As := [.ref aReS, .int y3]) (rest := []) (c_X7_at D cI aReS 4 cS y3 (by decide)) rfl ⟨by decide, by decide⟩ rfl [3] [0, 1, 2, 4] [0, 1, 2, 4, 3] [0] rfl rfl rfl rfl (by decide) rfl rfl (Nat.le_of_ble_eq_true rfl) dX0_canAllBeKept_12 rfl rfl ?_
      refine g_istore (lv' := [(4, .int (m_X7_at 4 cS y3)), (0, .ref aKE), (1, .ref aRE), (2, .int sub), (3, .int y3)]) hC dX0_canAllBeKept_15 (by decide) rfl rfl ?_
      refine g_iconst (v := 0) hC dX0_canAllBeKept_17 (by decide) rfl ?_
      refine g_istore (lv' := [(5, .int (0 : Int32)), (4, .int (m_X7_at 4 cS y3)), (0, .ref aKE), (1, .ref aRE), (2, .int sub), (3, .int y3)]) hC dX0_canAllBeKept_18 (by decide) rfl rfl ?_
      refine g_sub [2, 3, 4, 5, 1, 0] rfl ?_
      refine l_X0_canAllBeKept_20 D cI aKE aKeF aKeT kT aRE aReS aReH aReK aReO aReD cDays cLin cS cO_ sub y3  hC hX (fun y4 y5 => (if 0 ≤ y4 then (m_X0_canAllBeKept_2 fu kT cLin cS cO_ sub (y3 + 1)) else (0 : Int32))) (fun y4 y5 hres => ?_) ((cLin.toInt - (0 : Int32).toInt).toNat + 1) (m_X7_at 4 cS y3) (0 : Int32) (Nat.lt_succ_self _) (by decide) hres
      have hres : res = (if 0 ≤ y4 then (m_X0_canAllBeKept_2 fu kT cLin cS cO_ sub (y3 + 1)) else (0 : Int32)) := hres
      refine g_iload hC dX0_canAllBeKept_109 4 rfl rfl ?_
      refine g_if_ge (tgt := 116) hC dX0_canAllBeKept_111 (by decide) rfl (fun c_111 => ?_) (fun c_111 => ?_)
      · rw [if_pos c_111] at hres
        refine g_iinc (v := (y3 + 1)) (lv' := [(3, .int (y3 + 1)), (0, .ref aKE), (1, .ref aRE), (2, .int sub), (4, .int y4), (5, .int y5)]) hC dX0_canAllBeKept_116 3 rfl rfl (by decide) rfl rfl ?_
        refine g_goto (tgt := 2) hC dX0_canAllBeKept_119 (by decide) ?_
        refine g_sub [1, 2, 3, 0] rfl ?_
        exact ih (y3 + 1) (up_dec c_4 hm) (up_nn c_4 h0_y3) hres
      · rw [if_neg c_111] at hres
        refine g_iconst (v := 0) hC dX0_canAllBeKept_114 (by decide) rfl ?_
        subst hres
        exact g_zret hC hX rfl rfl dX0_canAllBeKept_115 rfl rfl
set_option maxRecDepth 100000 in
set_option maxHeartbeats 4000000 in
theorem c_X0_canAllBeKept (D : va_G) (cI : ClassId) (aKE : Nat) (aKeF : Nat) (aKeT : Nat) (kT : Nat → Int32) (aRE : Nat) (aReS : Nat) (aReH : Nat) (aReK : Nat) (aReO : Nat) (aReD : Nat) (cDays : Int32) (cLin : Int32) (cS : Nat → Int32) (cO_ : Nat → Int32) (sub : Int32) : MC yX0_canAllBeKept wsX0_canAllBeKept ({ frames := 1, cells := 0, slots := 0, locals := 21 } : Room) D [(cI, .int)] [.ref aKE, .ref aRE, .int sub] [(aKE, .inr (0, [.ref aKeF, .ref aKeT])), (aKeT, .inl (cI, 5, .inl kT)), (aRE, .inr (2, [.ref aReS, .ref aReH, .ref aReK, .ref aReO, .ref aReD, .int cDays, .int cLin])), (aReS, .inl (cI, 4, .inl cS)), (aReO, .inl (cI, 5, .inl cO_))] (some (.int (m_X0_canAllBeKept kT cLin cS cO_ sub))) [(aKE, .inr (0, [.ref aKeF, .ref aKeT])), (aKeT, .inl (cI, 5, .inl kT)), (aRE, .inr (2, [.ref aReS, .ref aReH, .ref aReK, .ref aReO, .ref aReD, .int cDays, .int cLin])), (aReS, .inl (cI, 4, .inl cS)), (aReO, .inl (cI, 5, .inl cO_))] := by
  refine g_entry (by decide) rfl rfl rfl rfl (Nat.le_of_ble_eq_true rfl) (lv := [(0, .ref aKE), (1, .ref aRE), (2, .int sub)]) rfl ?_
  intro X hC hX
  obtain ⟨res, hres⟩ : ∃ z, z = (m_X0_canAllBeKept kT cLin cS cO_ sub) := ⟨_, rfl⟩
  rw [← hres] at hX
  rw [m_X0_canAllBeKept] at hres
  refine g_iconst (v := 0) hC dX0_canAllBeKept_0 (by decide) rfl ?_
  refine g_istore_n (lv' := [(3, .int (0 : Int32)), (0, .ref aKE), (1, .ref aRE), (2, .int sub)]) hC dX0_canAllBeKept_1 rfl (by decide) rfl rfl ?_
  refine g_sub [1, 2, 3, 0] rfl ?_
  exact l_X0_canAllBeKept_2 D cI aKE aKeF aKeT kT aRE aReS aReH aReK aReO aReD cDays cLin cS cO_ sub  hC hX (((4 : Int32).toInt - (0 : Int32).toInt).toNat + 1) (0 : Int32) (Nat.lt_succ_self _) (by decide) hres
theorem iw_X0_largestSet_RX0 : ∀ w ∈ wsX00, w ∈ wsX0_largestSet := fun _ h => List.mem_cons_of_mem _ (List.mem_append_right _ (h))
theorem iw_X0_largestSet_RX2 : ∀ w ∈ wsX20, w ∈ wsX0_largestSet := fun _ h => List.mem_cons_of_mem _ (List.mem_append_left _ (List.mem_append_right _ (h)))
def m_X0_largestSet_34 : Nat → Int32 → (Nat → Int32) → (Nat → Int32) → (Nat → Int32) → (Nat → Int32) → Int32 → Int32 → (Int32 × (Nat → Int32) × (Nat → Int32))
  | 0, _, _, _, _, _, _, _ => default
  | fu + 1, cLin, cS, cO_, k_kF, k_kT, y2, y3 => (if ((1 : Int32) <<< (cLin &&& 31)) ≤ y3 then (y2, k_kF, k_kT) else (if (m_J6_bitCount_0f7a4 y3) ≤ (m_J6_bitCount_0f7a4 y2) then (m_X0_largestSet_34 fu cLin cS cO_ k_kF k_kT y2 (y3 + 1)) else (if (m_X0_canAllBeKept k_kT cLin cS cO_ y3) = 0 then (m_X0_largestSet_34 fu cLin cS cO_ k_kF k_kT y2 (y3 + 1)) else (m_X0_largestSet_34 fu cLin cS cO_ k_kF k_kT y3 (y3 + 1)))))
def m_X0_largestSet_2 : Nat → Int32 → Int32 → (Nat → Int32) → (Nat → Int32) → (Nat → Int32) → (Nat → Int32) → (Nat → Int32) → Int32 → (Nat → Int32) → (Nat → Int32) → (Int32 × (Nat → Int32) × (Nat → Int32))
  | 0, _, _, _, _, _, _, _, _, _, _ => default
  | fu + 1, cDays, cLin, cS, cH, cK, cO_, cD, y2, z_kF, z_kT => (if cLin ≤ y2 then (m_X0_largestSet_34 ((((1 : Int32) <<< (cLin &&& 31)).toInt - (1 : Int32).toInt).toNat + 1) cLin cS cO_ z_kF z_kT (0 : Int32) (1 : Int32)) else (m_X0_largestSet_2 fu cDays cLin cS cH cK cO_ cD (y2 + 1) ((m_X0_fewestActs z_kF cDays cH cK cD y2).2) (m_X7_set 5 z_kT y2 ((m_X0_fewestActs z_kF cDays cH cK cD y2).1))))
def m_X0_largestSet (kF : Nat → Int32) (kT : Nat → Int32) (cDays : Int32) (cLin : Int32) (cS : Nat → Int32) (cH : Nat → Int32) (cK : Nat → Int32) (cO_ : Nat → Int32) (cD : Nat → Int32) : (Int32 × (Nat → Int32) × (Nat → Int32)) := (m_X0_largestSet_2 ((cLin.toInt - (0 : Int32).toInt).toNat + 1) cDays cLin cS cH cK cO_ cD (0 : Int32) kF kT)
set_option maxRecDepth 100000 in
set_option maxHeartbeats 4000000 in
theorem l_X0_largestSet_34 {X : gX} (D : va_G) (cI : ClassId) (aKE : Nat) (aKeF : Nat) (aKeT : Nat) (kF : Nat → Int32) (kT : Nat → Int32) (aRE : Nat) (aReS : Nat) (aReH : Nat) (aReK : Nat) (aReO : Nat) (aReD : Nat) (cDays : Int32) (cLin : Int32) (cS : Nat → Int32) (cH : Nat → Int32) (cK : Nat → Int32) (cO_ : Nat → Int32) (cD : Nat → Int32) (k_kF : Nat → Int32) (k_kT : Nat → Int32) (hC : Cx X cX0_largestSet 4 RX0 wsX0_largestSet D [(cI, .int)] ({ frames := 3, cells := 0, slots := 0, locals := 69 } : Room) (some .int)) {res : (Int32 × (Nat → Int32) × (Nat → Int32))} (hX : Rx X D (some (.int res.1)) [(aKE, .inr (0, [.ref aKeF, .ref aKeT])), (aKeF, .inl (cI, 10, .inl res.2.1)), (aKeT, .inl (cI, 5, .inl res.2.2)), (aRE, .inr (2, [.ref aReS, .ref aReH, .ref aReK, .ref aReO, .ref aReD, .int cDays, .int cLin])), (aReS, .inl (cI, 4, .inl cS)), (aReH, .inl (cI, 6, .inl cH)), (aReK, .inl (cI, 5, .inl cK)), (aReO, .inl (cI, 5, .inl cO_)), (aReD, .inl (cI, 5, .inl cD))]) : ∀ (fu : Nat) (y2 : Int32) (y3 : Int32) (hm : (((1 : Int32) <<< (cLin &&& 31)).toInt - y3.toInt).toNat < fu) (h0_y3 : 0 ≤ y3.toInt) (hres : res = m_X0_largestSet_34 fu cLin cS cO_ k_kF k_kT y2 y3), G X D 4 [(aKE, .inr (0, [.ref aKeF, .ref aKeT])), (aKeF, .inl (cI, 10, .inl k_kF)), (aKeT, .inl (cI, 5, .inl k_kT)), (aRE, .inr (2, [.ref aReS, .ref aReH, .ref aReK, .ref aReO, .ref aReD, .int cDays, .int cLin])), (aReS, .inl (cI, 4, .inl cS)), (aReH, .inl (cI, 6, .inl cH)), (aReK, .inl (cI, 5, .inl cK)), (aReO, .inl (cI, 5, .inl cO_)), (aReD, .inl (cI, 5, .inl cD))] [(0, .ref aKE), (1, .ref aRE), (2, .int y2), (3, .int y3)] 34 [] := by
  intro fu
  induction fu with
  | zero =>
    intro y2 y3 hm
    exact absurd hm (Nat.not_lt_zero _)
  | succ fu ih =>
    intro y2 y3 hm h0_y3 hres
    rw [m_X0_largestSet_34] at hres
    refine g_iload_n hC dX0_largestSet_34 rfl 3 rfl rfl ?_
    refine g_iconst (v := 1) hC dX0_largestSet_35 (by decide) rfl ?_
    refine g_aload_n hC dX0_largestSet_36 rfl 1 rfl rfl ?_
    refine g_get hC iw_X0_largestSet_RX2 3 rfl rfl 6 (by decide) (List.mem_of_getElem? (i := 1) rfl) rfl rfl dX0_largestSet_37 rfl ?_
    refine g_ishl hC dX0_largestSet_40 rfl ?_
    refine g_icmp_ge (tgt := 72) hC dX0_largestSet_41 (by decide) rfl (fun c_41 => ?_) (fun c_41 => ?_)
    · rw [if_pos c_41] at hres
      refine g_iload_n hC dX0_largestSet_72 rfl 2 rfl rfl ?_
      subst hres
      exact g_iret hC hX rfl dX0_largestSet_73 rfl rfl
    · rw [if_neg c_41] at hres
      refine g_iload_n hC dX0_largestSet_44 rfl 3 rfl rfl ?_
      refine g_callS (ws' := [(aKE, .inr (0, [.ref aKeF, .ref aKeT])), (aKeF, .inl (cI, 10, .inl k_kF)), (aKeT, .inl (cI, 5, .inl k_kT)), (aRE, .inr (2, [.ref aReS, .ref aReH, .ref aReK, .ref aReO, .ref aReD, .int cDays, .int cLin])), (aReS, .inl (cI, 4, .inl cS)), (aReH, .inl (cI, 6, .inl cH)), (aReK, .inl (cI, 5, .inl cK)), (aReO, .inl (cI, 5, .inl cO_)), (aReD, .inl (cI, 5, .inl cD))]) (st' := [.int (m_J6_bitCount_0f7a4 y3)]) (nw := 9) (n1 := 0) hC gX0_largestSet_J6_bitCount_0f7a4 hdS_yJ6_bitCount_0f7a4 (As := [.int y3]) (rest := []) (c_J6_bitCount_0f7a4 D cI y3) rfl ⟨by decide, by decide⟩ rfl [] [0, 1, 2, 3, 4, 5, 6, 7, 8] [0, 1, 2, 3, 4, 5, 6, 7, 8] [0] rfl rfl rfl rfl (by decide) rfl rfl (Nat.le_of_ble_eq_true rfl) dX0_largestSet_45 rfl rfl ?_
      refine g_iload_n hC dX0_largestSet_48 rfl 2 rfl rfl ?_
      refine g_callS (ws' := [(aKE, .inr (0, [.ref aKeF, .ref aKeT])), (aKeF, .inl (cI, 10, .inl k_kF)), (aKeT, .inl (cI, 5, .inl k_kT)), (aRE, .inr (2, [.ref aReS, .ref aReH, .ref aReK, .ref aReO, .ref aReD, .int cDays, .int cLin])), (aReS, .inl (cI, 4, .inl cS)), (aReH, .inl (cI, 6, .inl cH)), (aReK, .inl (cI, 5, .inl cK)), (aReO, .inl (cI, 5, .inl cO_)), (aReD, .inl (cI, 5, .inl cD))]) (st' := [.int (m_J6_bitCount_0f7a4 y2), .int (m_J6_bitCount_0f7a4 y3)]) (nw := 9) (n1 := 0) hC gX0_largestSet_J6_bitCount_0f7a4 hdS_yJ6_bitCount_0f7a4 (As := [.int y2]) (rest := [.int (m_J6_bitCount_0f7a4 y3)]) (c_J6_bitCount_0f7a4 D cI y2) rfl ⟨by decide, by decide⟩ rfl [] [0, 1, 2, 3, 4, 5, 6, 7, 8] [0, 1, 2, 3, 4, 5, 6, 7, 8] [0] rfl rfl rfl rfl (by decide) rfl rfl (Nat.le_of_ble_eq_true rfl) dX0_largestSet_49 rfl rfl ?_
      refine g_icmp_le (tgt := 66) hC dX0_largestSet_52 (by decide) rfl (fun c_52 => ?_) (fun c_52 => ?_)
      · rw [if_pos c_52] at hres
        refine g_iinc (v := (y3 + 1)) (lv' := [(3, .int (y3 + 1)), (0, .ref aKE), (1, .ref aRE), (2, .int y2)]) hC dX0_largestSet_66 3 rfl rfl (by decide) rfl rfl ?_
        refine g_goto (tgt := 34) hC dX0_largestSet_69 (by decide) ?_
        refine g_sub [1, 2, 3, 0] rfl ?_
        exact ih y2 (y3 + 1) (up_dec c_41 hm) (up_nn c_41 h0_y3) hres
      · rw [if_neg c_52] at hres
        refine g_aload_n hC dX0_largestSet_55 rfl 0 rfl rfl ?_
        refine g_aload_n hC dX0_largestSet_56 rfl 1 rfl rfl ?_
        refine g_iload_n hC dX0_largestSet_57 rfl 3 rfl rfl ?_
        refine g_callV (ws' := [(aKE, .inr (0, [.ref aKeF, .ref aKeT])), (aKeF, .inl (cI, 10, .inl k_kF)), (aKeT, .inl (cI, 5, .inl k_kT)), (aRE, .inr (2, [.ref aReS, .ref aReH, .ref aReK, .ref aReO, .ref aReD, .int cDays, .int cLin])), (aReS, .inl (cI, 4, .inl cS)), (aReH, .inl (cI, 6, .inl cH)), (aReK, .inl (cI, 5, .inl cK)), (aReO, .inl (cI, 5, .inl cO_)), (aReD, .inl (cI, 5, .inl cD))]) (st' := [.int (m_X0_canAllBeKept k_kT cLin cS cO_ y3)]) (nw := 9) (n1 := 5) hC gX0_largestSet_X0_canAllBeKept hdV_yX0_canAllBeKept 0 rfl rfl (As := [.ref aRE, .int y3]) (rest := []) (c_X0_canAllBeKept D cI aKE aKeF aKeT k_kT aRE aReS aReH aReK aReO aReD cDays cLin cS cO_ y3) rfl ⟨by decide, by decide⟩ rfl [0, 2, 3, 4, 7] [1, 5, 6, 8] [4, 0, 5, 6, 7, 1, 2, 8, 3] [0] rfl rfl rfl rfl (by decide) rfl rfl (Nat.le_of_ble_eq_true rfl) dX0_largestSet_58 rfl rfl ?_
        refine g_if_eq (tgt := 66) hC dX0_largestSet_61 (by decide) rfl (fun c_61 => ?_) (fun c_61 => ?_)
        · rw [if_pos c_61] at hres
          refine g_iinc (v := (y3 + 1)) (lv' := [(3, .int (y3 + 1)), (0, .ref aKE), (1, .ref aRE), (2, .int y2)]) hC dX0_largestSet_66 3 rfl rfl (by decide) rfl rfl ?_
          refine g_goto (tgt := 34) hC dX0_largestSet_69 (by decide) ?_
          refine g_sub [1, 2, 3, 0] rfl ?_
          exact ih y2 (y3 + 1) (up_dec c_41 hm) (up_nn c_41 h0_y3) hres
        · rw [if_neg c_61] at hres
          refine g_iload_n hC dX0_largestSet_64 rfl 3 rfl rfl ?_
          refine g_istore_n (lv' := [(2, .int y3), (0, .ref aKE), (1, .ref aRE), (3, .int y3)]) hC dX0_largestSet_65 rfl (by decide) rfl rfl ?_
          refine g_iinc (v := (y3 + 1)) (lv' := [(3, .int (y3 + 1)), (2, .int y3), (0, .ref aKE), (1, .ref aRE)]) hC dX0_largestSet_66 3 rfl rfl (by decide) rfl rfl ?_
          refine g_goto (tgt := 34) hC dX0_largestSet_69 (by decide) ?_
          refine g_sub [2, 3, 1, 0] rfl ?_
          exact ih y3 (y3 + 1) (up_dec c_41 hm) (up_nn c_41 h0_y3) hres
set_option maxRecDepth 100000 in
set_option maxHeartbeats 4000000 in
theorem l_X0_largestSet_2 {X : gX} (D : va_G) (cI : ClassId) (aKE : Nat) (aKeF : Nat) (aKeT : Nat) (kF : Nat → Int32) (kT : Nat → Int32) (aRE : Nat) (aReS : Nat) (aReH : Nat) (aReK : Nat) (aReO : Nat) (aReD : Nat) (cDays : Int32) (cLin : Int32) (cS : Nat → Int32) (cH : Nat → Int32) (cK : Nat → Int32) (cO_ : Nat → Int32) (cD : Nat → Int32) (hC : Cx X cX0_largestSet 4 RX0 wsX0_largestSet D [(cI, .int)] ({ frames := 3, cells := 0, slots := 0, locals := 69 } : Room) (some .int)) {res : (Int32 × (Nat → Int32) × (Nat → Int32))} (hX : Rx X D (some (.int res.1)) [(aKE, .inr (0, [.ref aKeF, .ref aKeT])), (aKeF, .inl (cI, 10, .inl res.2.1)), (aKeT, .inl (cI, 5, .inl res.2.2)), (aRE, .inr (2, [.ref aReS, .ref aReH, .ref aReK, .ref aReO, .ref aReD, .int cDays, .int cLin])), (aReS, .inl (cI, 4, .inl cS)), (aReH, .inl (cI, 6, .inl cH)), (aReK, .inl (cI, 5, .inl cK)), (aReO, .inl (cI, 5, .inl cO_)), (aReD, .inl (cI, 5, .inl cD))]) : ∀ (fu : Nat) (y2 : Int32) (z_kF : Nat → Int32) (z_kT : Nat → Int32) (hm : (cLin.toInt - y2.toInt).toNat < fu) (h0_y2 : 0 ≤ y2.toInt) (hres : res = m_X0_largestSet_2 fu cDays cLin cS cH cK cO_ cD y2 z_kF z_kT), G X D 4 [(aKE, .inr (0, [.ref aKeF, .ref aKeT])), (aKeF, .inl (cI, 10, .inl z_kF)), (aKeT, .inl (cI, 5, .inl z_kT)), (aRE, .inr (2, [.ref aReS, .ref aReH, .ref aReK, .ref aReO, .ref aReD, .int cDays, .int cLin])), (aReS, .inl (cI, 4, .inl cS)), (aReH, .inl (cI, 6, .inl cH)), (aReK, .inl (cI, 5, .inl cK)), (aReO, .inl (cI, 5, .inl cO_)), (aReD, .inl (cI, 5, .inl cD))] [(0, .ref aKE), (1, .ref aRE), (2, .int y2)] 2 [] := by
  intro fu
  induction fu with
  | zero =>
    intro y2 z_kF z_kT hm
    exact absurd hm (Nat.not_lt_zero _)
  | succ fu ih =>
    intro y2 z_kF z_kT hm h0_y2 hres
    rw [m_X0_largestSet_2] at hres
    refine g_iload_n hC dX0_largestSet_2 rfl 2 rfl rfl ?_
    refine g_aload_n hC dX0_largestSet_3 rfl 1 rfl rfl ?_
    refine g_get hC iw_X0_largestSet_RX2 3 rfl rfl 6 (by decide) (List.mem_of_getElem? (i := 1) rfl) rfl rfl dX0_largestSet_4 rfl ?_
    refine g_icmp_ge (tgt := 30) hC dX0_largestSet_7 (by decide) rfl (fun c_7 => ?_) (fun c_7 => ?_)
    · rw [if_pos c_7] at hres
      refine g_iconst (v := 0) hC dX0_largestSet_30 (by decide) rfl ?_
      refine g_istore_n (lv' := [(2, .int (0 : Int32)), (0, .ref aKE), (1, .ref aRE)]) hC dX0_largestSet_31 rfl (by decide) rfl rfl ?_
      refine g_iconst (v := 1) hC dX0_largestSet_32 (by decide) rfl ?_
      refine g_istore_n (lv' := [(3, .int (1 : Int32)), (2, .int (0 : Int32)), (0, .ref aKE), (1, .ref aRE)]) hC dX0_largestSet_33 rfl (by decide) rfl rfl ?_
      refine g_sub [2, 3, 1, 0] rfl ?_
      exact l_X0_largestSet_34 D cI aKE aKeF aKeT kF kT aRE aReS aReH aReK aReO aReD cDays cLin cS cH cK cO_ cD z_kF z_kT  hC hX ((((1 : Int32) <<< (cLin &&& 31)).toInt - (1 : Int32).toInt).toNat + 1) (0 : Int32) (1 : Int32) (Nat.lt_succ_self _) (by decide) hres
    · rw [if_neg c_7] at hres
      refine g_aload_n hC dX0_largestSet_10 rfl 0 rfl rfl ?_
      refine g_get hC iw_X0_largestSet_RX0 0 rfl rfl 1 (by decide) (List.mem_of_getElem? (i := 2) rfl) rfl rfl dX0_largestSet_11 rfl ?_
      refine g_iload_n hC dX0_largestSet_14 rfl 2 rfl rfl ?_
      refine g_aload_n hC dX0_largestSet_15 rfl 0 rfl rfl ?_
      refine g_aload_n hC dX0_largestSet_16 rfl 1 rfl rfl ?_
      refine g_iload_n hC dX0_largestSet_17 rfl 2 rfl rfl ?_
      refine g_callV (ws' := [(aKE, .inr (0, [.ref aKeF, .ref aKeT])), (aKeF, .inl (cI, 10, .inl ((m_X0_fewestActs z_kF cDays cH cK cD y2).2))), (aKeT, .inl (cI, 5, .inl z_kT)), (aRE, .inr (2, [.ref aReS, .ref aReH, .ref aReK, .ref aReO, .ref aReD, .int cDays, .int cLin])), (aReS, .inl (cI, 4, .inl cS)), (aReH, .inl (cI, 6, .inl cH)), (aReK, .inl (cI, 5, .inl cK)), (aReO, .inl (cI, 5, .inl cO_)), (aReD, .inl (cI, 5, .inl cD))]) (st' := [.int ((m_X0_fewestActs z_kF cDays cH cK cD y2).1), .int y2, .ref aKeT]) (nw := 9) (n1 := 6) hC gX0_largestSet_X0_fewestActs hdV_yX0_fewestActs 0 rfl rfl (As := [.ref aRE, .int y2]) (rest := [.int y2, .ref aKeT]) (c_X0_fewestActs D cI aKE aKeF aKeT z_kF aRE aReS aReH aReK aReO aReD cDays cLin cH cK cD y2) rfl ⟨by decide, by decide⟩ rfl [0, 1, 3, 5, 6, 8] [2, 4, 7] [3, 4, 0, 5, 1, 6, 7, 2, 8] [0] rfl rfl rfl rfl (by decide) rfl rfl (Nat.le_of_ble_eq_true rfl) dX0_largestSet_18 rfl rfl ?_
      refine g_callN (ws' := [(aKE, .inr (0, [.ref aKeF, .ref aKeT])), (aKeF, .inl (cI, 10, .inl ((m_X0_fewestActs z_kF cDays cH cK cD y2).2))), (aKeT, .inl (cI, 5, .inl (m_X7_set 5 z_kT y2 ((m_X0_fewestActs z_kF cDays cH cK cD y2).1)))), (aRE, .inr (2, [.ref aReS, .ref aReH, .ref aReK, .ref aReO, .ref aReD, .int cDays, .int cLin])), (aReS, .inl (cI, 4, .inl cS)), (aReH, .inl (cI, 6, .inl cH)), (aReK, .inl (cI, 5, .inl cK)), (aReO, .inl (cI, 5, .inl cO_)), (aReD, .inl (cI, 5, .inl cD))]) (st' := []) (nw := 9) (n1 := 1) hC gX0_largestSet_X7_set_n33 (List.mem_of_getElem? (i := 8) rfl) (List.mem_of_getElem? (i := 20) rfl) (List.mem_of_getElem? (i := 22) rfl) hdS_yX7_set (As := [.ref aKeT, .int y2, .int ((m_X0_fewestActs z_kF cDays cH cK cD y2).1)]) (rest := []) (c_X7_set D cI aKeT 5 z_kT y2 ((m_X0_fewestActs z_kF cDays cH cK cD y2).1) (by decide)) rfl ⟨by decide, by decide⟩ rfl [2] [0, 1, 3, 4, 5, 6, 7, 8] [0, 1, 8, 2, 3, 4, 5, 6, 7] [0] rfl rfl rfl rfl (by decide) rfl rfl (Nat.le_of_ble_eq_true rfl) dX0_largestSet_21 rfl rfl ?_
      refine g_iinc (v := (y2 + 1)) (lv' := [(2, .int (y2 + 1)), (0, .ref aKE), (1, .ref aRE)]) hC dX0_largestSet_24 2 rfl rfl (by decide) rfl rfl ?_
      refine g_goto (tgt := 2) hC dX0_largestSet_27 (by decide) ?_
      refine g_sub [1, 2, 0] rfl ?_
      exact ih (y2 + 1) ((m_X0_fewestActs z_kF cDays cH cK cD y2).2) (m_X7_set 5 z_kT y2 ((m_X0_fewestActs z_kF cDays cH cK cD y2).1)) (up_dec c_7 hm) (up_nn c_7 h0_y2) hres
set_option maxRecDepth 100000 in
set_option maxHeartbeats 4000000 in
theorem c_X0_largestSet (D : va_G) (cI : ClassId) (aKE : Nat) (aKeF : Nat) (aKeT : Nat) (kF : Nat → Int32) (kT : Nat → Int32) (aRE : Nat) (aReS : Nat) (aReH : Nat) (aReK : Nat) (aReO : Nat) (aReD : Nat) (cDays : Int32) (cLin : Int32) (cS : Nat → Int32) (cH : Nat → Int32) (cK : Nat → Int32) (cO_ : Nat → Int32) (cD : Nat → Int32) : MC yX0_largestSet wsX0_largestSet ({ frames := 3, cells := 0, slots := 0, locals := 69 } : Room) D [(cI, .int)] [.ref aKE, .ref aRE] [(aKE, .inr (0, [.ref aKeF, .ref aKeT])), (aKeF, .inl (cI, 10, .inl kF)), (aKeT, .inl (cI, 5, .inl kT)), (aRE, .inr (2, [.ref aReS, .ref aReH, .ref aReK, .ref aReO, .ref aReD, .int cDays, .int cLin])), (aReS, .inl (cI, 4, .inl cS)), (aReH, .inl (cI, 6, .inl cH)), (aReK, .inl (cI, 5, .inl cK)), (aReO, .inl (cI, 5, .inl cO_)), (aReD, .inl (cI, 5, .inl cD))] (some (.int ((m_X0_largestSet kF kT cDays cLin cS cH cK cO_ cD).1))) [(aKE, .inr (0, [.ref aKeF, .ref aKeT])), (aKeF, .inl (cI, 10, .inl ((m_X0_largestSet kF kT cDays cLin cS cH cK cO_ cD).2.1))), (aKeT, .inl (cI, 5, .inl ((m_X0_largestSet kF kT cDays cLin cS cH cK cO_ cD).2.2))), (aRE, .inr (2, [.ref aReS, .ref aReH, .ref aReK, .ref aReO, .ref aReD, .int cDays, .int cLin])), (aReS, .inl (cI, 4, .inl cS)), (aReH, .inl (cI, 6, .inl cH)), (aReK, .inl (cI, 5, .inl cK)), (aReO, .inl (cI, 5, .inl cO_)), (aReD, .inl (cI, 5, .inl cD))] := by
  refine g_entry (by decide) rfl rfl rfl rfl (Nat.le_of_ble_eq_true rfl) (lv := [(0, .ref aKE), (1, .ref aRE)]) rfl ?_
  intro X hC hX
  obtain ⟨res, hres⟩ : ∃ z, z = (m_X0_largestSet kF kT cDays cLin cS cH cK cO_ cD) := ⟨_, rfl⟩
  rw [← hres] at hX
  rw [m_X0_largestSet] at hres
  refine g_iconst (v := 0) hC dX0_largestSet_0 (by decide) rfl ?_
  refine g_istore_n (lv' := [(2, .int (0 : Int32)), (0, .ref aKE), (1, .ref aRE)]) hC dX0_largestSet_1 rfl (by decide) rfl rfl ?_
  refine g_sub [1, 2, 0] rfl ?_
  exact l_X0_largestSet_2 D cI aKE aKeF aKeT kF kT aRE aReS aReH aReK aReO aReD cDays cLin cS cH cK cO_ cD  hC hX ((cLin.toInt - (0 : Int32).toInt).toNat + 1) (0 : Int32) kF kT (Nat.lt_succ_self _) (by decide) hres
theorem iw_X0_bestOffice_RX2 : ∀ w ∈ wsX20, w ∈ wsX0_bestOffice := fun _ h => List.mem_cons_of_mem _ (List.mem_append_left _ (List.mem_append_right _ (h)))
def m_X0_bestOffice_18 : Nat → Int32 → Int32 → (Nat → Int32) → (Nat → Int32) → (Nat → Int32) → (Nat → Int32) → (Nat → Int32) → Int32 → Int32 → Int32 → Int32 → (Nat → Int32) → (Nat → Int32) → (Nat → Int32) → (Int32 × (Nat → Int32) × (Nat → Int32) × (Nat → Int32))
  | 0, _, _, _, _, _, _, _, _, _, _, _, _, _, _ => default
  | fu + 1, cDays, cLin, cS, cH, cK, cO_, cD, l, y4, y5, y6, z_kF, z_kT, z_cO_ => (if (4 : Int32) ≤ y6 then (y4, z_kF, z_kT, (m_X7_set 5 z_cO_ l (m_X7_at 5 cO_ l))) else (if (m_J6_bitCount_0f7a4 ((m_X0_largestSet z_kF z_kT cDays cLin cS cH cK (m_X7_set 5 z_cO_ l y6) cD).1)) ≤ y5 then (m_X0_bestOffice_18 fu cDays cLin cS cH cK cO_ cD l y4 y5 (y6 + 1) ((m_X0_largestSet z_kF z_kT cDays cLin cS cH cK (m_X7_set 5 z_cO_ l y6) cD).2.1) ((m_X0_largestSet z_kF z_kT cDays cLin cS cH cK (m_X7_set 5 z_cO_ l y6) cD).2.2) (m_X7_set 5 z_cO_ l y6)) else (m_X0_bestOffice_18 fu cDays cLin cS cH cK cO_ cD l y6 (m_J6_bitCount_0f7a4 ((m_X0_largestSet z_kF z_kT cDays cLin cS cH cK (m_X7_set 5 z_cO_ l y6) cD).1)) (y6 + 1) ((m_X0_largestSet z_kF z_kT cDays cLin cS cH cK (m_X7_set 5 z_cO_ l y6) cD).2.1) ((m_X0_largestSet z_kF z_kT cDays cLin cS cH cK (m_X7_set 5 z_cO_ l y6) cD).2.2) (m_X7_set 5 z_cO_ l y6))))
def m_X0_bestOffice (kF : Nat → Int32) (kT : Nat → Int32) (cDays : Int32) (cLin : Int32) (cS : Nat → Int32) (cH : Nat → Int32) (cK : Nat → Int32) (cO_ : Nat → Int32) (cD : Nat → Int32) (l : Int32) : (Int32 × (Nat → Int32) × (Nat → Int32) × (Nat → Int32)) := (m_X0_bestOffice_18 (((4 : Int32).toInt - (0 : Int32).toInt).toNat + 1) cDays cLin cS cH cK cO_ cD l (0 : Int32) (-1 : Int32) (0 : Int32) kF kT cO_)
set_option maxRecDepth 100000 in
set_option maxHeartbeats 4000000 in
theorem l_X0_bestOffice_18 {X : gX} (D : va_G) (cI : ClassId) (aKE : Nat) (aKeF : Nat) (aKeT : Nat) (kF : Nat → Int32) (kT : Nat → Int32) (aRE : Nat) (aReS : Nat) (aReH : Nat) (aReK : Nat) (aReO : Nat) (aReD : Nat) (cDays : Int32) (cLin : Int32) (cS : Nat → Int32) (cH : Nat → Int32) (cK : Nat → Int32) (cO_ : Nat → Int32) (cD : Nat → Int32) (l : Int32) (hC : Cx X cX0_bestOffice 8 RX0 wsX0_bestOffice D [(cI, .int)] ({ frames := 4, cells := 0, slots := 0, locals := 92 } : Room) (some .int)) {res : (Int32 × (Nat → Int32) × (Nat → Int32) × (Nat → Int32))} (hX : Rx X D (some (.int res.1)) [(aKE, .inr (0, [.ref aKeF, .ref aKeT])), (aKeF, .inl (cI, 10, .inl res.2.1)), (aKeT, .inl (cI, 5, .inl res.2.2.1)), (aRE, .inr (2, [.ref aReS, .ref aReH, .ref aReK, .ref aReO, .ref aReD, .int cDays, .int cLin])), (aReS, .inl (cI, 4, .inl cS)), (aReH, .inl (cI, 6, .inl cH)), (aReK, .inl (cI, 5, .inl cK)), (aReO, .inl (cI, 5, .inl res.2.2.2)), (aReD, .inl (cI, 5, .inl cD))]) : ∀ (fu : Nat) (y4 : Int32) (y5 : Int32) (y6 : Int32) (z_kF : Nat → Int32) (z_kT : Nat → Int32) (z_cO_ : Nat → Int32) (hm : ((4 : Int32).toInt - y6.toInt).toNat < fu) (h0_y6 : 0 ≤ y6.toInt) (hres : res = m_X0_bestOffice_18 fu cDays cLin cS cH cK cO_ cD l y4 y5 y6 z_kF z_kT z_cO_), G X D 8 [(aKE, .inr (0, [.ref aKeF, .ref aKeT])), (aKeF, .inl (cI, 10, .inl z_kF)), (aKeT, .inl (cI, 5, .inl z_kT)), (aRE, .inr (2, [.ref aReS, .ref aReH, .ref aReK, .ref aReO, .ref aReD, .int cDays, .int cLin])), (aReS, .inl (cI, 4, .inl cS)), (aReH, .inl (cI, 6, .inl cH)), (aReK, .inl (cI, 5, .inl cK)), (aReO, .inl (cI, 5, .inl z_cO_)), (aReD, .inl (cI, 5, .inl cD))] [(0, .ref aKE), (1, .ref aRE), (2, .int l), (3, .int (m_X7_at 5 cO_ l)), (4, .int y4), (5, .int y5), (6, .int y6)] 18 [] := by
  intro fu
  induction fu with
  | zero =>
    intro y4 y5 y6 z_kF z_kT z_cO_ hm
    exact absurd hm (Nat.not_lt_zero _)
  | succ fu ih =>
    intro y4 y5 y6 z_kF z_kT z_cO_ hm h0_y6 hres
    rw [m_X0_bestOffice_18] at hres
    refine g_iload hC dX0_bestOffice_18 6 rfl rfl ?_
    refine g_iconst (v := 4) hC dX0_bestOffice_20 (by decide) rfl ?_
    refine g_icmp_ge (tgt := 65) hC dX0_bestOffice_21 (by decide) rfl (fun c_21 => ?_) (fun c_21 => ?_)
    · rw [if_pos c_21] at hres
      refine g_aload_n hC dX0_bestOffice_65 rfl 1 rfl rfl ?_
      refine g_get hC iw_X0_bestOffice_RX2 3 rfl rfl 3 (by decide) (List.mem_of_getElem? (i := 1) rfl) rfl rfl dX0_bestOffice_66 rfl ?_
      refine g_iload_n hC dX0_bestOffice_69 rfl 2 rfl rfl ?_
      refine g_iload_n hC dX0_bestOffice_70 rfl 3 rfl rfl ?_
      refine g_callN (ws' := [(aKE, .inr (0, [.ref aKeF, .ref aKeT])), (aKeF, .inl (cI, 10, .inl z_kF)), (aKeT, .inl (cI, 5, .inl z_kT)), (aRE, .inr (2, [.ref aReS, .ref aReH, .ref aReK, .ref aReO, .ref aReD, .int cDays, .int cLin])), (aReS, .inl (cI, 4, .inl cS)), (aReH, .inl (cI, 6, .inl cH)), (aReK, .inl (cI, 5, .inl cK)), (aReO, .inl (cI, 5, .inl (m_X7_set 5 z_cO_ l (m_X7_at 5 cO_ l)))), (aReD, .inl (cI, 5, .inl cD))]) (st' := []) (nw := 9) (n1 := 1) hC gX0_bestOffice_X7_set_n33 (List.mem_of_getElem? (i := 8) rfl) (List.mem_of_getElem? (i := 3) rfl) (List.mem_of_getElem? (i := 5) rfl) hdS_yX7_set (As := [.ref aReO, .int l, .int (m_X7_at 5 cO_ l)]) (rest := []) (c_X7_set D cI aReO 5 z_cO_ l (m_X7_at 5 cO_ l) (by decide)) rfl ⟨by decide, by decide⟩ rfl [7] [0, 1, 2, 3, 4, 5, 6, 8] [0, 1, 2, 3, 4, 5, 6, 8, 7] [0] rfl rfl rfl rfl (by decide) rfl rfl (Nat.le_of_ble_eq_true rfl) dX0_bestOffice_71 rfl rfl ?_
      refine g_iload hC dX0_bestOffice_74 4 rfl rfl ?_
      subst hres
      exact g_iret hC hX rfl dX0_bestOffice_76 rfl rfl
    · rw [if_neg c_21] at hres
      refine g_aload_n hC dX0_bestOffice_24 rfl 1 rfl rfl ?_
      refine g_get hC iw_X0_bestOffice_RX2 3 rfl rfl 3 (by decide) (List.mem_of_getElem? (i := 1) rfl) rfl rfl dX0_bestOffice_25 rfl ?_
      refine g_iload_n hC dX0_bestOffice_28 rfl 2 rfl rfl ?_
      refine g_iload hC dX0_bestOffice_29 6 rfl rfl ?_
      refine g_callN (ws' := [(aKE, .inr (0, [.ref aKeF, .ref aKeT])), (aKeF, .inl (cI, 10, .inl z_kF)), (aKeT, .inl (cI, 5, .inl z_kT)), (aRE, .inr (2, [.ref aReS, .ref aReH, .ref aReK, .ref aReO, .ref aReD, .int cDays, .int cLin])), (aReS, .inl (cI, 4, .inl cS)), (aReH, .inl (cI, 6, .inl cH)), (aReK, .inl (cI, 5, .inl cK)), (aReO, .inl (cI, 5, .inl (m_X7_set 5 z_cO_ l y6))), (aReD, .inl (cI, 5, .inl cD))]) (st' := []) (nw := 9) (n1 := 1) hC gX0_bestOffice_X7_set_n33 (List.mem_of_getElem? (i := 8) rfl) (List.mem_of_getElem? (i := 3) rfl) (List.mem_of_getElem? (i := 5) rfl) hdS_yX7_set (As := [.ref aReO, .int l, .int y6]) (rest := []) (c_X7_set D cI aReO 5 z_cO_ l y6 (by decide)) rfl ⟨by decide, by decide⟩ rfl [7] [0, 1, 2, 3, 4, 5, 6, 8] [0, 1, 2, 3, 4, 5, 6, 8, 7] [0] rfl rfl rfl rfl (by decide) rfl rfl (Nat.le_of_ble_eq_true rfl) dX0_bestOffice_31 rfl rfl ?_
      refine g_aload_n hC dX0_bestOffice_34 rfl 0 rfl rfl ?_
      refine g_aload_n hC dX0_bestOffice_35 rfl 1 rfl rfl ?_
      refine g_callV (ws' := [(aKE, .inr (0, [.ref aKeF, .ref aKeT])), (aKeF, .inl (cI, 10, .inl ((m_X0_largestSet z_kF z_kT cDays cLin cS cH cK (m_X7_set 5 z_cO_ l y6) cD).2.1))), (aKeT, .inl (cI, 5, .inl ((m_X0_largestSet z_kF z_kT cDays cLin cS cH cK (m_X7_set 5 z_cO_ l y6) cD).2.2))), (aRE, .inr (2, [.ref aReS, .ref aReH, .ref aReK, .ref aReO, .ref aReD, .int cDays, .int cLin])), (aReS, .inl (cI, 4, .inl cS)), (aReH, .inl (cI, 6, .inl cH)), (aReK, .inl (cI, 5, .inl cK)), (aReO, .inl (cI, 5, .inl (m_X7_set 5 z_cO_ l y6))), (aReD, .inl (cI, 5, .inl cD))]) (st' := [.int ((m_X0_largestSet z_kF z_kT cDays cLin cS cH cK (m_X7_set 5 z_cO_ l y6) cD).1)]) (nw := 9) (n1 := 9) hC gX0_bestOffice_X0_largestSet hdV_yX0_largestSet 0 rfl rfl (As := [.ref aRE]) (rest := []) (c_X0_largestSet D cI aKE aKeF aKeT z_kF z_kT aRE aReS aReH aReK aReO aReD cDays cLin cS cH cK (m_X7_set 5 z_cO_ l y6) cD) rfl ⟨by decide, by decide⟩ rfl [0, 1, 2, 3, 4, 5, 6, 7, 8] [] [0, 1, 2, 3, 4, 5, 6, 7, 8] [0] rfl rfl rfl rfl (by decide) rfl rfl (Nat.le_of_ble_eq_true rfl) dX0_bestOffice_36 rfl rfl ?_
      refine g_callS (ws' := [(aKE, .inr (0, [.ref aKeF, .ref aKeT])), (aKeF, .inl (cI, 10, .inl ((m_X0_largestSet z_kF z_kT cDays cLin cS cH cK (m_X7_set 5 z_cO_ l y6) cD).2.1))), (aKeT, .inl (cI, 5, .inl ((m_X0_largestSet z_kF z_kT cDays cLin cS cH cK (m_X7_set 5 z_cO_ l y6) cD).2.2))), (aRE, .inr (2, [.ref aReS, .ref aReH, .ref aReK, .ref aReO, .ref aReD, .int cDays, .int cLin])), (aReS, .inl (cI, 4, .inl cS)), (aReH, .inl (cI, 6, .inl cH)), (aReK, .inl (cI, 5, .inl cK)), (aReO, .inl (cI, 5, .inl (m_X7_set 5 z_cO_ l y6))), (aReD, .inl (cI, 5, .inl cD))]) (st' := [.int (m_J6_bitCount_0f7a4 ((m_X0_largestSet z_kF z_kT cDays cLin cS cH cK (m_X7_set 5 z_cO_ l y6) cD).1))]) (nw := 9) (n1 := 0) hC gX0_bestOffice_J6_bitCount_0f7a4 hdS_yJ6_bitCount_0f7a4 (As := [.int ((m_X0_largestSet z_kF z_kT cDays cLin cS cH cK (m_X7_set 5 z_cO_ l y6) cD).1)]) (rest := []) (c_J6_bitCount_0f7a4 D cI ((m_X0_largestSet z_kF z_kT cDays cLin cS cH cK (m_X7_set 5 z_cO_ l y6) cD).1)) rfl ⟨by decide, by decide⟩ rfl [] [0, 1, 2, 3, 4, 5, 6, 7, 8] [0, 1, 2, 3, 4, 5, 6, 7, 8] [0] rfl rfl rfl rfl (by decide) rfl rfl (Nat.le_of_ble_eq_true rfl) dX0_bestOffice_39 rfl rfl ?_
      refine g_istore (lv' := [(7, .int (m_J6_bitCount_0f7a4 ((m_X0_largestSet z_kF z_kT cDays cLin cS cH cK (m_X7_set 5 z_cO_ l y6) cD).1))), (0, .ref aKE), (1, .ref aRE), (2, .int l), (3, .int (m_X7_at 5 cO_ l)), (4, .int y4), (5, .int y5), (6, .int y6)]) hC dX0_bestOffice_42 (by decide) rfl rfl ?_
      refine g_iload hC dX0_bestOffice_44 0 rfl rfl ?_
      refine g_iload hC dX0_bestOffice_46 6 rfl rfl ?_
      refine g_icmp_le (tgt := 59) hC dX0_bestOffice_48 (by decide) rfl (fun c_48 => ?_) (fun c_48 => ?_)
      · rw [if_pos c_48] at hres
        refine g_iinc (v := (y6 + 1)) (lv' := [(6, .int (y6 + 1)), (7, .int (m_J6_bitCount_0f7a4 ((m_X0_largestSet z_kF z_kT cDays cLin cS cH cK (m_X7_set 5 z_cO_ l y6) cD).1))), (0, .ref aKE), (1, .ref aRE), (2, .int l), (3, .int (m_X7_at 5 cO_ l)), (4, .int y4), (5, .int y5)]) hC dX0_bestOffice_59 7 rfl rfl (by decide) rfl rfl ?_
        refine g_goto (tgt := 18) hC dX0_bestOffice_62 (by decide) ?_
        refine g_sub [2, 3, 4, 5, 6, 7, 0] rfl ?_
        exact ih y4 y5 (y6 + 1) ((m_X0_largestSet z_kF z_kT cDays cLin cS cH cK (m_X7_set 5 z_cO_ l y6) cD).2.1) ((m_X0_largestSet z_kF z_kT cDays cLin cS cH cK (m_X7_set 5 z_cO_ l y6) cD).2.2) (m_X7_set 5 z_cO_ l y6) (up_dec c_21 hm) (up_nn c_21 h0_y6) hres
      · rw [if_neg c_48] at hres
        refine g_iload hC dX0_bestOffice_51 0 rfl rfl ?_
        refine g_istore (lv' := [(5, .int (m_J6_bitCount_0f7a4 ((m_X0_largestSet z_kF z_kT cDays cLin cS cH cK (m_X7_set 5 z_cO_ l y6) cD).1))), (7, .int (m_J6_bitCount_0f7a4 ((m_X0_largestSet z_kF z_kT cDays cLin cS cH cK (m_X7_set 5 z_cO_ l y6) cD).1))), (0, .ref aKE), (1, .ref aRE), (2, .int l), (3, .int (m_X7_at 5 cO_ l)), (4, .int y4), (6, .int y6)]) hC dX0_bestOffice_53 (by decide) rfl rfl ?_
        refine g_iload hC dX0_bestOffice_55 7 rfl rfl ?_
        refine g_istore (lv' := [(4, .int y6), (5, .int (m_J6_bitCount_0f7a4 ((m_X0_largestSet z_kF z_kT cDays cLin cS cH cK (m_X7_set 5 z_cO_ l y6) cD).1))), (7, .int (m_J6_bitCount_0f7a4 ((m_X0_largestSet z_kF z_kT cDays cLin cS cH cK (m_X7_set 5 z_cO_ l y6) cD).1))), (0, .ref aKE), (1, .ref aRE), (2, .int l), (3, .int (m_X7_at 5 cO_ l)), (6, .int y6)]) hC dX0_bestOffice_57 (by decide) rfl rfl ?_
        refine g_iinc (v := (y6 + 1)) (lv' := [(6, .int (y6 + 1)), (4, .int y6), (5, .int (m_J6_bitCount_0f7a4 ((m_X0_largestSet z_kF z_kT cDays cLin cS cH cK (m_X7_set 5 z_cO_ l y6) cD).1))), (7, .int (m_J6_bitCount_0f7a4 ((m_X0_largestSet z_kF z_kT cDays cLin cS cH cK (m_X7_set 5 z_cO_ l y6) cD).1))), (0, .ref aKE), (1, .ref aRE), (2, .int l), (3, .int (m_X7_at 5 cO_ l))]) hC dX0_bestOffice_59 7 rfl rfl (by decide) rfl rfl ?_
        refine g_goto (tgt := 18) hC dX0_bestOffice_62 (by decide) ?_
        refine g_sub [4, 5, 6, 7, 1, 2, 0] rfl ?_
        exact ih y6 (m_J6_bitCount_0f7a4 ((m_X0_largestSet z_kF z_kT cDays cLin cS cH cK (m_X7_set 5 z_cO_ l y6) cD).1)) (y6 + 1) ((m_X0_largestSet z_kF z_kT cDays cLin cS cH cK (m_X7_set 5 z_cO_ l y6) cD).2.1) ((m_X0_largestSet z_kF z_kT cDays cLin cS cH cK (m_X7_set 5 z_cO_ l y6) cD).2.2) (m_X7_set 5 z_cO_ l y6) (up_dec c_21 hm) (up_nn c_21 h0_y6) hres
set_option maxRecDepth 100000 in
set_option maxHeartbeats 4000000 in
theorem c_X0_bestOffice (D : va_G) (cI : ClassId) (aKE : Nat) (aKeF : Nat) (aKeT : Nat) (kF : Nat → Int32) (kT : Nat → Int32) (aRE : Nat) (aReS : Nat) (aReH : Nat) (aReK : Nat) (aReO : Nat) (aReD : Nat) (cDays : Int32) (cLin : Int32) (cS : Nat → Int32) (cH : Nat → Int32) (cK : Nat → Int32) (cO_ : Nat → Int32) (cD : Nat → Int32) (l : Int32) : MC yX0_bestOffice wsX0_bestOffice ({ frames := 4, cells := 0, slots := 0, locals := 92 } : Room) D [(cI, .int)] [.ref aKE, .ref aRE, .int l] [(aKE, .inr (0, [.ref aKeF, .ref aKeT])), (aKeF, .inl (cI, 10, .inl kF)), (aKeT, .inl (cI, 5, .inl kT)), (aRE, .inr (2, [.ref aReS, .ref aReH, .ref aReK, .ref aReO, .ref aReD, .int cDays, .int cLin])), (aReS, .inl (cI, 4, .inl cS)), (aReH, .inl (cI, 6, .inl cH)), (aReK, .inl (cI, 5, .inl cK)), (aReO, .inl (cI, 5, .inl cO_)), (aReD, .inl (cI, 5, .inl cD))] (some (.int ((m_X0_bestOffice kF kT cDays cLin cS cH cK cO_ cD l).1))) [(aKE, .inr (0, [.ref aKeF, .ref aKeT])), (aKeF, .inl (cI, 10, .inl ((m_X0_bestOffice kF kT cDays cLin cS cH cK cO_ cD l).2.1))), (aKeT, .inl (cI, 5, .inl ((m_X0_bestOffice kF kT cDays cLin cS cH cK cO_ cD l).2.2.1))), (aRE, .inr (2, [.ref aReS, .ref aReH, .ref aReK, .ref aReO, .ref aReD, .int cDays, .int cLin])), (aReS, .inl (cI, 4, .inl cS)), (aReH, .inl (cI, 6, .inl cH)), (aReK, .inl (cI, 5, .inl cK)), (aReO, .inl (cI, 5, .inl ((m_X0_bestOffice kF kT cDays cLin cS cH cK cO_ cD l).2.2.2))), (aReD, .inl (cI, 5, .inl cD))] := by
  refine g_entry (by decide) rfl rfl rfl rfl (Nat.le_of_ble_eq_true rfl) (lv := [(0, .ref aKE), (1, .ref aRE), (2, .int l)]) rfl ?_
  intro X hC hX
  obtain ⟨res, hres⟩ : ∃ z, z = (m_X0_bestOffice kF kT cDays cLin cS cH cK cO_ cD l) := ⟨_, rfl⟩
  rw [← hres] at hX
  rw [m_X0_bestOffice] at hres
  refine g_aload_n hC dX0_bestOffice_0 rfl 1 rfl rfl ?_
  refine g_get hC iw_X0_bestOffice_RX2 3 rfl rfl 3 (by decide) (List.mem_of_getElem? (i := 1) rfl) rfl rfl dX0_bestOffice_1 rfl ?_
  refine g_iload_n hC dX0_bestOffice_4 rfl 2 rfl rfl ?_
  refine g_callN (ws' := [(aKE, .inr (0, [.ref aKeF, .ref aKeT])), (aKeF, .inl (cI, 10, .inl kF)), (aKeT, .inl (cI, 5, .inl kT)), (aRE, .inr (2, [.ref aReS, .ref aReH, .ref aReK, .ref aReO, .ref aReD, .int cDays, .int cLin])), (aReS, .inl (cI, 4, .inl cS)), (aReH, .inl (cI, 6, .inl cH)), (aReK, .inl (cI, 5, .inl cK)), (aReO, .inl (cI, 5, .inl cO_)), (aReD, .inl (cI, 5, .inl cD))]) (st' := [.int (m_X7_at 5 cO_ l)]) (nw := 9) (n1 := 1) hC gX0_bestOffice_X7_at_n29 (List.mem_of_getElem? (i := 7) rfl) (List.mem_of_getElem? (i := 3) rfl) (List.mem_of_getElem? (i := 2) rfl) hdS_yX7_at (As := [.ref aReO, .int l]) (rest := []) (c_X7_at D cI aReO 5 cO_ l (by decide)) rfl ⟨by decide, by decide⟩ rfl [7] [0, 1, 2, 3, 4, 5, 6, 8] [0, 1, 2, 3, 4, 5, 6, 8, 7] [0] rfl rfl rfl rfl (by decide) rfl rfl (Nat.le_of_ble_eq_true rfl) dX0_bestOffice_5 rfl rfl ?_
  refine g_istore_n (lv' := [(3, .int (m_X7_at 5 cO_ l)), (0, .ref aKE), (1, .ref aRE), (2, .int l)]) hC dX0_bestOffice_8 rfl (by decide) rfl rfl ?_
  refine g_iconst (v := 0) hC dX0_bestOffice_9 (by decide) rfl ?_
  refine g_istore (lv' := [(4, .int (0 : Int32)), (3, .int (m_X7_at 5 cO_ l)), (0, .ref aKE), (1, .ref aRE), (2, .int l)]) hC dX0_bestOffice_10 (by decide) rfl rfl ?_
  refine g_iconst (v := -1) hC dX0_bestOffice_12 (by decide) rfl ?_
  refine g_istore (lv' := [(5, .int (-1 : Int32)), (4, .int (0 : Int32)), (3, .int (m_X7_at 5 cO_ l)), (0, .ref aKE), (1, .ref aRE), (2, .int l)]) hC dX0_bestOffice_13 (by decide) rfl rfl ?_
  refine g_iconst (v := 0) hC dX0_bestOffice_15 (by decide) rfl ?_
  refine g_istore (lv' := [(6, .int (0 : Int32)), (5, .int (-1 : Int32)), (4, .int (0 : Int32)), (3, .int (m_X7_at 5 cO_ l)), (0, .ref aKE), (1, .ref aRE), (2, .int l)]) hC dX0_bestOffice_16 (by decide) rfl rfl ?_
  refine g_sub [4, 5, 6, 3, 2, 1, 0] rfl ?_
  exact l_X0_bestOffice_18 D cI aKE aKeF aKeT kF kT aRE aReS aReH aReK aReO aReD cDays cLin cS cH cK cO_ cD l  hC hX (((4 : Int32).toInt - (0 : Int32).toInt).toNat + 1) (0 : Int32) (-1 : Int32) (0 : Int32) kF kT cO_ (Nat.lt_succ_self _) (by decide) hres
