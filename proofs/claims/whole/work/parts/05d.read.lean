theorem iw_X1_append_RX1 : ∀ w ∈ wsX10, w ∈ wsX1_append := fun _ h => List.mem_cons_of_mem _ (List.mem_append_right _ (h))
def m_X1_append (rCnt : Int32) (rL : Nat → Int32) (rE : Nat → Int32) (rD : Nat → Int32) (l : Int32) (t : Int32) (v : Int32) : (Int32 × Int32 × (Nat → Int32) × (Nat → Int32) × (Nat → Int32)) := (((rCnt + (1 : Int32)) - (1 : Int32)), (rCnt + (1 : Int32)), (m_X7_set 8 rL rCnt l), (m_X7_set 8 rE rCnt t), (m_X7_set 8 rD rCnt v))
set_option maxRecDepth 100000 in
set_option maxHeartbeats 4000000 in
theorem c_X1_append (D : va_G) (cI : ClassId) (aRD : Nat) (aRdL : Nat) (aRdE : Nat) (aRdD : Nat) (rCnt : Int32) (rL : Nat → Int32) (rE : Nat → Int32) (rD : Nat → Int32) (l : Int32) (t : Int32) (v : Int32) : MC yX1_append wsX1_append ({ frames := 1, cells := 0, slots := 0, locals := 22 } : Room) D [(cI, .int)] [.ref aRD, .int l, .int t, .int v] [(aRD, .inr (1, [.ref aRdL, .ref aRdE, .ref aRdD, .int rCnt])), (aRdL, .inl (cI, 8, .inl rL)), (aRdE, .inl (cI, 8, .inl rE)), (aRdD, .inl (cI, 8, .inl rD))] (some (.int ((m_X1_append rCnt rL rE rD l t v).1))) [(aRD, .inr (1, [.ref aRdL, .ref aRdE, .ref aRdD, .int ((m_X1_append rCnt rL rE rD l t v).2.1)])), (aRdL, .inl (cI, 8, .inl ((m_X1_append rCnt rL rE rD l t v).2.2.1))), (aRdE, .inl (cI, 8, .inl ((m_X1_append rCnt rL rE rD l t v).2.2.2.1))), (aRdD, .inl (cI, 8, .inl ((m_X1_append rCnt rL rE rD l t v).2.2.2.2)))] := by
  refine g_entry (by decide) rfl rfl rfl rfl (Nat.le_of_ble_eq_true rfl) (lv := [(0, .ref aRD), (1, .int l), (2, .int t), (3, .int v)]) rfl ?_
  intro X hC hX
  obtain ⟨res, hres⟩ : ∃ z, z = (m_X1_append rCnt rL rE rD l t v) := ⟨_, rfl⟩
  rw [← hres] at hX
  rw [m_X1_append] at hres
  refine g_aload_n hC dX1_append_0 rfl 0 rfl rfl ?_
  refine g_get hC iw_X1_append_RX1 0 rfl rfl 0 (by decide) (List.mem_of_getElem? (i := 1) rfl) rfl rfl dX1_append_1 rfl ?_
  refine g_aload_n hC dX1_append_4 rfl 0 rfl rfl ?_
  refine g_get hC iw_X1_append_RX1 0 rfl rfl 3 (by decide) (List.mem_of_getElem? (i := 2) rfl) rfl rfl dX1_append_5 rfl ?_
  refine g_iload_n hC dX1_append_8 rfl 1 rfl rfl ?_
  refine g_callN (ws' := [(aRD, .inr (1, [.ref aRdL, .ref aRdE, .ref aRdD, .int rCnt])), (aRdL, .inl (cI, 8, .inl (m_X7_set 8 rL rCnt l))), (aRdE, .inl (cI, 8, .inl rE)), (aRdD, .inl (cI, 8, .inl rD))]) (st' := []) (nw := 4) (n1 := 1) hC gX1_append_X7_set_n25 (List.mem_of_getElem? (i := 9) rfl) (List.mem_of_getElem? (i := 6) rfl) (List.mem_of_getElem? (i := 5) rfl) hdS_yX7_set (As := [.ref aRdL, .int rCnt, .int l]) (rest := []) (c_X7_set D cI aRdL 8 rL rCnt l (by decide)) rfl ⟨by decide, by decide⟩ rfl [1] [0, 2, 3] [0, 3, 1, 2] [0] rfl rfl rfl rfl (by decide) rfl rfl (Nat.le_of_ble_eq_true rfl) dX1_append_9 rfl rfl ?_
  refine g_aload_n hC dX1_append_12 rfl 0 rfl rfl ?_
  refine g_get hC iw_X1_append_RX1 0 rfl rfl 1 (by decide) (List.mem_of_getElem? (i := 3) rfl) rfl rfl dX1_append_13 rfl ?_
  refine g_aload_n hC dX1_append_16 rfl 0 rfl rfl ?_
  refine g_get hC iw_X1_append_RX1 0 rfl rfl 3 (by decide) (List.mem_of_getElem? (i := 2) rfl) rfl rfl dX1_append_17 rfl ?_
  refine g_iload_n hC dX1_append_20 rfl 2 rfl rfl ?_
  refine g_callN (ws' := [(aRD, .inr (1, [.ref aRdL, .ref aRdE, .ref aRdD, .int rCnt])), (aRdL, .inl (cI, 8, .inl (m_X7_set 8 rL rCnt l))), (aRdE, .inl (cI, 8, .inl (m_X7_set 8 rE rCnt t))), (aRdD, .inl (cI, 8, .inl rD))]) (st' := []) (nw := 4) (n1 := 1) hC gX1_append_X7_set_n25 (List.mem_of_getElem? (i := 9) rfl) (List.mem_of_getElem? (i := 6) rfl) (List.mem_of_getElem? (i := 5) rfl) hdS_yX7_set (As := [.ref aRdE, .int rCnt, .int t]) (rest := []) (c_X7_set D cI aRdE 8 rE rCnt t (by decide)) rfl ⟨by decide, by decide⟩ rfl [2] [0, 1, 3] [0, 1, 3, 2] [0] rfl rfl rfl rfl (by decide) rfl rfl (Nat.le_of_ble_eq_true rfl) dX1_append_21 rfl rfl ?_
  refine g_aload_n hC dX1_append_24 rfl 0 rfl rfl ?_
  refine g_get hC iw_X1_append_RX1 0 rfl rfl 2 (by decide) (List.mem_of_getElem? (i := 4) rfl) rfl rfl dX1_append_25 rfl ?_
  refine g_aload_n hC dX1_append_28 rfl 0 rfl rfl ?_
  refine g_get hC iw_X1_append_RX1 0 rfl rfl 3 (by decide) (List.mem_of_getElem? (i := 2) rfl) rfl rfl dX1_append_29 rfl ?_
  refine g_iload_n hC dX1_append_32 rfl 3 rfl rfl ?_
  refine g_callN (ws' := [(aRD, .inr (1, [.ref aRdL, .ref aRdE, .ref aRdD, .int rCnt])), (aRdL, .inl (cI, 8, .inl (m_X7_set 8 rL rCnt l))), (aRdE, .inl (cI, 8, .inl (m_X7_set 8 rE rCnt t))), (aRdD, .inl (cI, 8, .inl (m_X7_set 8 rD rCnt v)))]) (st' := []) (nw := 4) (n1 := 1) hC gX1_append_X7_set_n25 (List.mem_of_getElem? (i := 9) rfl) (List.mem_of_getElem? (i := 6) rfl) (List.mem_of_getElem? (i := 5) rfl) hdS_yX7_set (As := [.ref aRdD, .int rCnt, .int v]) (rest := []) (c_X7_set D cI aRdD 8 rD rCnt v (by decide)) rfl ⟨by decide, by decide⟩ rfl [3] [0, 1, 2] [0, 1, 2, 3] [0] rfl rfl rfl rfl (by decide) rfl rfl (Nat.le_of_ble_eq_true rfl) dX1_append_33 rfl rfl ?_
  refine g_aload_n hC dX1_append_36 rfl 0 rfl rfl ?_
  refine g_dup hC dX1_append_37 rfl rfl ?_
  refine g_get hC iw_X1_append_RX1 0 rfl rfl 3 (by decide) (List.mem_of_getElem? (i := 2) rfl) rfl rfl dX1_append_38 rfl ?_
  refine g_iconst (v := 1) hC dX1_append_41 (by decide) rfl ?_
  refine g_iadd hC dX1_append_42 rfl ?_
  refine g_put (ws' := [(aRD, .inr (1, [.ref aRdL, .ref aRdE, .ref aRdD, .int (rCnt + (1 : Int32))])), (aRdL, .inl (cI, 8, .inl (m_X7_set 8 rL rCnt l))), (aRdE, .inl (cI, 8, .inl (m_X7_set 8 rE rCnt t))), (aRdD, .inl (cI, 8, .inl (m_X7_set 8 rD rCnt v)))]) hC iw_X1_append_RX1 0 rfl rfl 3 (by decide) (List.mem_of_getElem? (i := 2) rfl) rfl tyX1 tyX1_ok nmX1 rfl rfl rfl (Nat.le_of_ble_eq_true rfl) rfl dX1_append_43 rfl ?_
  refine g_aload_n hC dX1_append_46 rfl 0 rfl rfl ?_
  refine g_get hC iw_X1_append_RX1 0 rfl rfl 3 (by decide) (List.mem_of_getElem? (i := 2) rfl) rfl rfl dX1_append_47 rfl ?_
  refine g_iconst (v := 1) hC dX1_append_50 (by decide) rfl ?_
  refine g_isub hC dX1_append_51 rfl ?_
  subst hres
  exact g_iret hC hX rfl dX1_append_52 rfl rfl
theorem iw_X1_areSo_RX1 : ∀ w ∈ wsX10, w ∈ wsX1_areSo := fun _ h => List.mem_cons_of_mem _ (List.mem_append_left _ (List.mem_append_right _ (h)))
def m_X1_areSo_2 : Nat → Int32 → (Nat → Int32) → (Nat → Int32) → (Nat → Int32) → Int32 → (Nat → Int32) → (Nat → Int32) → (Nat → Int32) → Int32 → (Int32)
  | 0, _, _, _, _, _, _, _, _, _ => default
  | fu + 1, rCnt, rL, rE, rD, cDays, cH, cK, cD, y2 => (if rCnt ≤ y2 then (1 : Int32) else (if (m_X2_dampBehind cDays cH cK cD (m_X7_at 8 rL y2) (m_X7_at 8 rE y2)) = (m_X7_at 8 rD y2) then (m_X1_areSo_2 fu rCnt rL rE rD cDays cH cK cD (y2 + 1)) else (0 : Int32)))
def m_X1_areSo (rCnt : Int32) (rL : Nat → Int32) (rE : Nat → Int32) (rD : Nat → Int32) (cDays : Int32) (cH : Nat → Int32) (cK : Nat → Int32) (cD : Nat → Int32) : (Int32) := (m_X1_areSo_2 ((rCnt.toInt - (0 : Int32).toInt).toNat + 1) rCnt rL rE rD cDays cH cK cD (0 : Int32))
set_option maxRecDepth 100000 in
set_option maxHeartbeats 4000000 in
theorem l_X1_areSo_2 {X : gX} (D : va_G) (cI : ClassId) (aRD : Nat) (aRdL : Nat) (aRdE : Nat) (aRdD : Nat) (rCnt : Int32) (rL : Nat → Int32) (rE : Nat → Int32) (rD : Nat → Int32) (aRE : Nat) (aReS : Nat) (aReH : Nat) (aReK : Nat) (aReO : Nat) (aReD : Nat) (cDays : Int32) (cLin : Int32) (cH : Nat → Int32) (cK : Nat → Int32) (cD : Nat → Int32) (hC : Cx X cX1_areSo 3 RX1 wsX1_areSo D [(cI, .int)] ({ frames := 3, cells := 0, slots := 0, locals := 71 } : Room) (some .boolean)) {res : (Int32)} (hX : Rx X D (some (.int res)) [(aRD, .inr (1, [.ref aRdL, .ref aRdE, .ref aRdD, .int rCnt])), (aRdL, .inl (cI, 8, .inl rL)), (aRdE, .inl (cI, 8, .inl rE)), (aRdD, .inl (cI, 8, .inl rD)), (aRE, .inr (2, [.ref aReS, .ref aReH, .ref aReK, .ref aReO, .ref aReD, .int cDays, .int cLin])), (aReH, .inl (cI, 6, .inl cH)), (aReK, .inl (cI, 5, .inl cK)), (aReD, .inl (cI, 5, .inl cD))]) : ∀ (fu : Nat) (y2 : Int32) (hm : (rCnt.toInt - y2.toInt).toNat < fu) (h0_y2 : 0 ≤ y2.toInt) (hres : res = m_X1_areSo_2 fu rCnt rL rE rD cDays cH cK cD y2), G X D 3 [(aRD, .inr (1, [.ref aRdL, .ref aRdE, .ref aRdD, .int rCnt])), (aRdL, .inl (cI, 8, .inl rL)), (aRdE, .inl (cI, 8, .inl rE)), (aRdD, .inl (cI, 8, .inl rD)), (aRE, .inr (2, [.ref aReS, .ref aReH, .ref aReK, .ref aReO, .ref aReD, .int cDays, .int cLin])), (aReH, .inl (cI, 6, .inl cH)), (aReK, .inl (cI, 5, .inl cK)), (aReD, .inl (cI, 5, .inl cD))] [(0, .ref aRD), (1, .ref aRE), (2, .int y2)] 2 [] := by
  intro fu
  induction fu with
  | zero =>
    intro y2 hm
    exact absurd hm (Nat.not_lt_zero _)
  | succ fu ih =>
    intro y2 hm h0_y2 hres
    rw [m_X1_areSo_2] at hres
    refine g_iload_n hC dX1_areSo_2 rfl 2 rfl rfl ?_
    refine g_aload_n hC dX1_areSo_3 rfl 0 rfl rfl ?_
    refine g_get hC iw_X1_areSo_RX1 0 rfl rfl 3 (by decide) (List.mem_of_getElem? (i := 1) rfl) rfl rfl dX1_areSo_4 rfl ?_
    refine g_icmp_ge (tgt := 49) hC dX1_areSo_7 (by decide) rfl (fun c_7 => ?_) (fun c_7 => ?_)
    · rw [if_pos c_7] at hres
      refine g_iconst (v := 1) hC dX1_areSo_49 (by decide) rfl ?_
      subst hres
      exact g_zret hC hX rfl rfl dX1_areSo_50 rfl rfl
    · rw [if_neg c_7] at hres
      refine g_aload_n hC dX1_areSo_10 rfl 1 rfl rfl ?_
      refine g_aload_n hC dX1_areSo_11 rfl 0 rfl rfl ?_
      refine g_get hC iw_X1_areSo_RX1 0 rfl rfl 0 (by decide) (List.mem_of_getElem? (i := 2) rfl) rfl rfl dX1_areSo_12 rfl ?_
      refine g_iload_n hC dX1_areSo_15 rfl 2 rfl rfl ?_
      refine g_callN (ws' := [(aRD, .inr (1, [.ref aRdL, .ref aRdE, .ref aRdD, .int rCnt])), (aRdL, .inl (cI, 8, .inl rL)), (aRdE, .inl (cI, 8, .inl rE)), (aRdD, .inl (cI, 8, .inl rD)), (aRE, .inr (2, [.ref aReS, .ref aReH, .ref aReK, .ref aReO, .ref aReD, .int cDays, .int cLin])), (aReH, .inl (cI, 6, .inl cH)), (aReK, .inl (cI, 5, .inl cK)), (aReD, .inl (cI, 5, .inl cD))]) (st' := [.int (m_X7_at 8 rL y2), .ref aRE]) (nw := 8) (n1 := 1) hC gX1_areSo_X7_at_n29 (List.mem_of_getElem? (i := 10) rfl) (List.mem_of_getElem? (i := 6) rfl) (List.mem_of_getElem? (i := 5) rfl) hdS_yX7_at (As := [.ref aRdL, .int y2]) (rest := [.ref aRE]) (c_X7_at D cI aRdL 8 rL y2 (by decide)) rfl ⟨by decide, by decide⟩ rfl [1] [0, 2, 3, 4, 5, 6, 7] [0, 7, 1, 2, 3, 4, 5, 6] [0] rfl rfl rfl rfl (by decide) rfl rfl (Nat.le_of_ble_eq_true rfl) dX1_areSo_16 rfl rfl ?_
      refine g_aload_n hC dX1_areSo_19 rfl 0 rfl rfl ?_
      refine g_get hC iw_X1_areSo_RX1 0 rfl rfl 1 (by decide) (List.mem_of_getElem? (i := 3) rfl) rfl rfl dX1_areSo_20 rfl ?_
      refine g_iload_n hC dX1_areSo_23 rfl 2 rfl rfl ?_
      refine g_callN (ws' := [(aRD, .inr (1, [.ref aRdL, .ref aRdE, .ref aRdD, .int rCnt])), (aRdL, .inl (cI, 8, .inl rL)), (aRdE, .inl (cI, 8, .inl rE)), (aRdD, .inl (cI, 8, .inl rD)), (aRE, .inr (2, [.ref aReS, .ref aReH, .ref aReK, .ref aReO, .ref aReD, .int cDays, .int cLin])), (aReH, .inl (cI, 6, .inl cH)), (aReK, .inl (cI, 5, .inl cK)), (aReD, .inl (cI, 5, .inl cD))]) (st' := [.int (m_X7_at 8 rE y2), .int (m_X7_at 8 rL y2), .ref aRE]) (nw := 8) (n1 := 1) hC gX1_areSo_X7_at_n29 (List.mem_of_getElem? (i := 10) rfl) (List.mem_of_getElem? (i := 6) rfl) (List.mem_of_getElem? (i := 5) rfl) hdS_yX7_at (As := [.ref aRdE, .int y2]) (rest := [.int (m_X7_at 8 rL y2), .ref aRE]) (c_X7_at D cI aRdE 8 rE y2 (by decide)) rfl ⟨by decide, by decide⟩ rfl [2] [0, 1, 3, 4, 5, 6, 7] [0, 1, 7, 2, 3, 4, 5, 6] [0] rfl rfl rfl rfl (by decide) rfl rfl (Nat.le_of_ble_eq_true rfl) dX1_areSo_24 rfl rfl ?_
      refine g_callV (ws' := [(aRD, .inr (1, [.ref aRdL, .ref aRdE, .ref aRdD, .int rCnt])), (aRdL, .inl (cI, 8, .inl rL)), (aRdE, .inl (cI, 8, .inl rE)), (aRdD, .inl (cI, 8, .inl rD)), (aRE, .inr (2, [.ref aReS, .ref aReH, .ref aReK, .ref aReO, .ref aReD, .int cDays, .int cLin])), (aReH, .inl (cI, 6, .inl cH)), (aReK, .inl (cI, 5, .inl cK)), (aReD, .inl (cI, 5, .inl cD))]) (st' := [.int (m_X2_dampBehind cDays cH cK cD (m_X7_at 8 rL y2) (m_X7_at 8 rE y2))]) (nw := 8) (n1 := 4) hC gX1_areSo_X2_dampBehind hdV_yX2_dampBehind 4 rfl rfl (As := [.int (m_X7_at 8 rL y2), .int (m_X7_at 8 rE y2)]) (rest := []) (c_X2_dampBehind D cI aRE aReS aReH aReK aReO aReD cDays cLin cH cK cD (m_X7_at 8 rL y2) (m_X7_at 8 rE y2)) rfl ⟨by decide, by decide⟩ rfl [4, 5, 6, 7] [0, 1, 2, 3] [0, 1, 2, 3, 4, 5, 6, 7] [0] rfl rfl rfl rfl (by decide) rfl rfl (Nat.le_of_ble_eq_true rfl) dX1_areSo_27 rfl rfl ?_
      refine g_aload_n hC dX1_areSo_30 rfl 0 rfl rfl ?_
      refine g_get hC iw_X1_areSo_RX1 0 rfl rfl 2 (by decide) (List.mem_of_getElem? (i := 4) rfl) rfl rfl dX1_areSo_31 rfl ?_
      refine g_iload_n hC dX1_areSo_34 rfl 2 rfl rfl ?_
      refine g_callN (ws' := [(aRD, .inr (1, [.ref aRdL, .ref aRdE, .ref aRdD, .int rCnt])), (aRdL, .inl (cI, 8, .inl rL)), (aRdE, .inl (cI, 8, .inl rE)), (aRdD, .inl (cI, 8, .inl rD)), (aRE, .inr (2, [.ref aReS, .ref aReH, .ref aReK, .ref aReO, .ref aReD, .int cDays, .int cLin])), (aReH, .inl (cI, 6, .inl cH)), (aReK, .inl (cI, 5, .inl cK)), (aReD, .inl (cI, 5, .inl cD))]) (st' := [.int (m_X7_at 8 rD y2), .int (m_X2_dampBehind cDays cH cK cD (m_X7_at 8 rL y2) (m_X7_at 8 rE y2))]) (nw := 8) (n1 := 1) hC gX1_areSo_X7_at_n29 (List.mem_of_getElem? (i := 10) rfl) (List.mem_of_getElem? (i := 6) rfl) (List.mem_of_getElem? (i := 5) rfl) hdS_yX7_at (As := [.ref aRdD, .int y2]) (rest := [.int (m_X2_dampBehind cDays cH cK cD (m_X7_at 8 rL y2) (m_X7_at 8 rE y2))]) (c_X7_at D cI aRdD 8 rD y2 (by decide)) rfl ⟨by decide, by decide⟩ rfl [3] [0, 1, 2, 4, 5, 6, 7] [0, 1, 2, 7, 3, 4, 5, 6] [0] rfl rfl rfl rfl (by decide) rfl rfl (Nat.le_of_ble_eq_true rfl) dX1_areSo_35 rfl rfl ?_
      refine g_icmp_eq (tgt := 43) hC dX1_areSo_38 (by decide) rfl (fun c_38 => ?_) (fun c_38 => ?_)
      · rw [if_pos c_38] at hres
        refine g_iinc (v := (y2 + 1)) (lv' := [(2, .int (y2 + 1)), (0, .ref aRD), (1, .ref aRE)]) hC dX1_areSo_43 2 rfl rfl (by decide) rfl rfl ?_
        refine g_goto (tgt := 2) hC dX1_areSo_46 (by decide) ?_
        refine g_sub [1, 2, 0] rfl ?_
        exact ih (y2 + 1) (up_dec c_7 hm) (up_nn c_7 h0_y2) hres
      · rw [if_neg c_38] at hres
        refine g_iconst (v := 0) hC dX1_areSo_41 (by decide) rfl ?_
        subst hres
        exact g_zret hC hX rfl rfl dX1_areSo_42 rfl rfl
set_option maxRecDepth 100000 in
set_option maxHeartbeats 4000000 in
theorem c_X1_areSo (D : va_G) (cI : ClassId) (aRD : Nat) (aRdL : Nat) (aRdE : Nat) (aRdD : Nat) (rCnt : Int32) (rL : Nat → Int32) (rE : Nat → Int32) (rD : Nat → Int32) (aRE : Nat) (aReS : Nat) (aReH : Nat) (aReK : Nat) (aReO : Nat) (aReD : Nat) (cDays : Int32) (cLin : Int32) (cH : Nat → Int32) (cK : Nat → Int32) (cD : Nat → Int32) : MC yX1_areSo wsX1_areSo ({ frames := 3, cells := 0, slots := 0, locals := 71 } : Room) D [(cI, .int)] [.ref aRD, .ref aRE] [(aRD, .inr (1, [.ref aRdL, .ref aRdE, .ref aRdD, .int rCnt])), (aRdL, .inl (cI, 8, .inl rL)), (aRdE, .inl (cI, 8, .inl rE)), (aRdD, .inl (cI, 8, .inl rD)), (aRE, .inr (2, [.ref aReS, .ref aReH, .ref aReK, .ref aReO, .ref aReD, .int cDays, .int cLin])), (aReH, .inl (cI, 6, .inl cH)), (aReK, .inl (cI, 5, .inl cK)), (aReD, .inl (cI, 5, .inl cD))] (some (.int (m_X1_areSo rCnt rL rE rD cDays cH cK cD))) [(aRD, .inr (1, [.ref aRdL, .ref aRdE, .ref aRdD, .int rCnt])), (aRdL, .inl (cI, 8, .inl rL)), (aRdE, .inl (cI, 8, .inl rE)), (aRdD, .inl (cI, 8, .inl rD)), (aRE, .inr (2, [.ref aReS, .ref aReH, .ref aReK, .ref aReO, .ref aReD, .int cDays, .int cLin])), (aReH, .inl (cI, 6, .inl cH)), (aReK, .inl (cI, 5, .inl cK)), (aReD, .inl (cI, 5, .inl cD))] := by
  refine g_entry (by decide) rfl rfl rfl rfl (Nat.le_of_ble_eq_true rfl) (lv := [(0, .ref aRD), (1, .ref aRE)]) rfl ?_
  intro X hC hX
  obtain ⟨res, hres⟩ : ∃ z, z = (m_X1_areSo rCnt rL rE rD cDays cH cK cD) := ⟨_, rfl⟩
  rw [← hres] at hX
  rw [m_X1_areSo] at hres
  refine g_iconst (v := 0) hC dX1_areSo_0 (by decide) rfl ?_
  refine g_istore_n (lv' := [(2, .int (0 : Int32)), (0, .ref aRD), (1, .ref aRE)]) hC dX1_areSo_1 rfl (by decide) rfl rfl ?_
  refine g_sub [1, 2, 0] rfl ?_
  exact l_X1_areSo_2 D cI aRD aRdL aRdE aRdD rCnt rL rE rD aRE aReS aReH aReK aReO aReD cDays cLin cH cK cD  hC hX ((rCnt.toInt - (0 : Int32).toInt).toNat + 1) (0 : Int32) (Nat.lt_succ_self _) (by decide) hres
def m_X1_fitting_D_13 : Nat → Int32 → (Nat → Int32) → (Nat → Int32) → (Nat → Int32) → Int32 → (Nat → Int32) → (Nat → Int32) → (Nat → Int32) → Int32 → Int32 → Int32 → Int32 → (Nat → Int32) → (Int32 × (Nat → Int32))
  | 0, _, _, _, _, _, _, _, _, _, _, _, _, _ => default
  | fu + 1, rCnt, rL, rE, rD, cDays, cH, cK, cD, pl, lim, y6, y7, z_cD => (if lim ≤ y7 then (y6, (m_X7_set 5 z_cD pl (m_X7_at 5 cD pl))) else (if (m_X1_areSo rCnt rL rE rD cDays cH cK (m_X7_set 5 z_cD pl y7)) = 0 then (m_X1_fitting_D_13 fu rCnt rL rE rD cDays cH cK cD pl lim y6 (y7 + 1) (m_X7_set 5 z_cD pl y7)) else (m_X1_fitting_D_13 fu rCnt rL rE rD cDays cH cK cD pl lim (y6 ||| ((1 : Int32) <<< (y7 &&& 31))) (y7 + 1) (m_X7_set 5 z_cD pl y7))))
def m_X1_fitting_D (rCnt : Int32) (rL : Nat → Int32) (rE : Nat → Int32) (rD : Nat → Int32) (cDays : Int32) (cH : Nat → Int32) (cK : Nat → Int32) (cD : Nat → Int32) (pl : Int32) (lim : Int32) : (Int32 × (Nat → Int32)) := (m_X1_fitting_D_13 ((lim.toInt - (0 : Int32).toInt).toNat + 1) rCnt rL rE rD cDays cH cK cD pl lim (0 : Int32) (0 : Int32) cD)
set_option maxRecDepth 100000 in
set_option maxHeartbeats 4000000 in
theorem l_X1_fitting_D_13 {X : gX} (D : va_G) (cI : ClassId) (aRD : Nat) (aRdL : Nat) (aRdE : Nat) (aRdD : Nat) (rCnt : Int32) (rL : Nat → Int32) (rE : Nat → Int32) (rD : Nat → Int32) (aRE : Nat) (aReS : Nat) (aReH : Nat) (aReK : Nat) (aReO : Nat) (aReD : Nat) (cDays : Int32) (cLin : Int32) (cH : Nat → Int32) (cK : Nat → Int32) (cD : Nat → Int32) (pl : Int32) (lim : Int32) (hC : Cx X cX1_fitting 8 RX1 wsX1_fitting D [(cI, .int)] ({ frames := 4, cells := 0, slots := 0, locals := 93 } : Room) (some .int)) {res : (Int32 × (Nat → Int32))} (hX : Rx X D (some (.int res.1)) [(aRD, .inr (1, [.ref aRdL, .ref aRdE, .ref aRdD, .int rCnt])), (aRdL, .inl (cI, 8, .inl rL)), (aRdE, .inl (cI, 8, .inl rE)), (aRdD, .inl (cI, 8, .inl rD)), (aRE, .inr (2, [.ref aReS, .ref aReH, .ref aReK, .ref aReO, .ref aReD, .int cDays, .int cLin])), (aReH, .inl (cI, 6, .inl cH)), (aReK, .inl (cI, 5, .inl cK)), (aReD, .inl (cI, 5, .inl res.2))]) : ∀ (fu : Nat) (y6 : Int32) (y7 : Int32) (z_cD : Nat → Int32) (hm : (lim.toInt - y7.toInt).toNat < fu) (h0_y7 : 0 ≤ y7.toInt) (hres : res = m_X1_fitting_D_13 fu rCnt rL rE rD cDays cH cK cD pl lim y6 y7 z_cD), G X D 8 [(aRD, .inr (1, [.ref aRdL, .ref aRdE, .ref aRdD, .int rCnt])), (aRdL, .inl (cI, 8, .inl rL)), (aRdE, .inl (cI, 8, .inl rE)), (aRdD, .inl (cI, 8, .inl rD)), (aRE, .inr (2, [.ref aReS, .ref aReH, .ref aReK, .ref aReO, .ref aReD, .int cDays, .int cLin])), (aReH, .inl (cI, 6, .inl cH)), (aReK, .inl (cI, 5, .inl cK)), (aReD, .inl (cI, 5, .inl z_cD))] [(0, .ref aRD), (1, .ref aRE), (2, .ref aReD), (3, .int pl), (4, .int lim), (5, .int (m_X7_at 5 cD pl)), (6, .int y6), (7, .int y7)] 13 [] := by
  intro fu
  induction fu with
  | zero =>
    intro y6 y7 z_cD hm
    exact absurd hm (Nat.not_lt_zero _)
  | succ fu ih =>
    intro y6 y7 z_cD hm h0_y7 hres
    rw [m_X1_fitting_D_13] at hres
    refine g_iload hC dX1_fitting_13 7 rfl rfl ?_
    refine g_iload hC dX1_fitting_15 4 rfl rfl ?_
    refine g_icmp_ge (tgt := 50) hC dX1_fitting_17 (by decide) rfl (fun c_17 => ?_) (fun c_17 => ?_)
    · rw [if_pos c_17] at hres
      refine g_aload_n hC dX1_fitting_50 rfl 2 rfl rfl ?_
      refine g_iload_n hC dX1_fitting_51 rfl 3 rfl rfl ?_
      refine g_iload hC dX1_fitting_52 5 rfl rfl ?_
      refine g_callN (ws' := [(aRD, .inr (1, [.ref aRdL, .ref aRdE, .ref aRdD, .int rCnt])), (aRdL, .inl (cI, 8, .inl rL)), (aRdE, .inl (cI, 8, .inl rE)), (aRdD, .inl (cI, 8, .inl rD)), (aRE, .inr (2, [.ref aReS, .ref aReH, .ref aReK, .ref aReO, .ref aReD, .int cDays, .int cLin])), (aReH, .inl (cI, 6, .inl cH)), (aReK, .inl (cI, 5, .inl cK)), (aReD, .inl (cI, 5, .inl (m_X7_set 5 z_cD pl (m_X7_at 5 cD pl))))]) (st' := []) (nw := 8) (n1 := 1) hC gX1_fitting_X7_set_n25 (List.mem_of_getElem? (i := 9) rfl) (List.mem_of_getElem? (i := 2) rfl) (List.mem_of_getElem? (i := 4) rfl) hdS_yX7_set (As := [.ref aReD, .int pl, .int (m_X7_at 5 cD pl)]) (rest := []) (c_X7_set D cI aReD 5 z_cD pl (m_X7_at 5 cD pl) (by decide)) rfl ⟨by decide, by decide⟩ rfl [7] [0, 1, 2, 3, 4, 5, 6] [0, 1, 2, 3, 4, 5, 6, 7] [0] rfl rfl rfl rfl (by decide) rfl rfl (Nat.le_of_ble_eq_true rfl) dX1_fitting_54 rfl rfl ?_
      refine g_iload hC dX1_fitting_57 6 rfl rfl ?_
      subst hres
      exact g_iret hC hX rfl dX1_fitting_59 rfl rfl
    · rw [if_neg c_17] at hres
      refine g_aload_n hC dX1_fitting_20 rfl 2 rfl rfl ?_
      refine g_iload_n hC dX1_fitting_21 rfl 3 rfl rfl ?_
      refine g_iload hC dX1_fitting_22 7 rfl rfl ?_
      refine g_callN (ws' := [(aRD, .inr (1, [.ref aRdL, .ref aRdE, .ref aRdD, .int rCnt])), (aRdL, .inl (cI, 8, .inl rL)), (aRdE, .inl (cI, 8, .inl rE)), (aRdD, .inl (cI, 8, .inl rD)), (aRE, .inr (2, [.ref aReS, .ref aReH, .ref aReK, .ref aReO, .ref aReD, .int cDays, .int cLin])), (aReH, .inl (cI, 6, .inl cH)), (aReK, .inl (cI, 5, .inl cK)), (aReD, .inl (cI, 5, .inl (m_X7_set 5 z_cD pl y7)))]) (st' := []) (nw := 8) (n1 := 1) hC gX1_fitting_X7_set_n25 (List.mem_of_getElem? (i := 9) rfl) (List.mem_of_getElem? (i := 2) rfl) (List.mem_of_getElem? (i := 4) rfl) hdS_yX7_set (As := [.ref aReD, .int pl, .int y7]) (rest := []) (c_X7_set D cI aReD 5 z_cD pl y7 (by decide)) rfl ⟨by decide, by decide⟩ rfl [7] [0, 1, 2, 3, 4, 5, 6] [0, 1, 2, 3, 4, 5, 6, 7] [0] rfl rfl rfl rfl (by decide) rfl rfl (Nat.le_of_ble_eq_true rfl) dX1_fitting_24 rfl rfl ?_
      refine g_aload_n hC dX1_fitting_27 rfl 0 rfl rfl ?_
      refine g_aload_n hC dX1_fitting_28 rfl 1 rfl rfl ?_
      refine g_callV (ws' := [(aRD, .inr (1, [.ref aRdL, .ref aRdE, .ref aRdD, .int rCnt])), (aRdL, .inl (cI, 8, .inl rL)), (aRdE, .inl (cI, 8, .inl rE)), (aRdD, .inl (cI, 8, .inl rD)), (aRE, .inr (2, [.ref aReS, .ref aReH, .ref aReK, .ref aReO, .ref aReD, .int cDays, .int cLin])), (aReH, .inl (cI, 6, .inl cH)), (aReK, .inl (cI, 5, .inl cK)), (aReD, .inl (cI, 5, .inl (m_X7_set 5 z_cD pl y7)))]) (st' := [.int (m_X1_areSo rCnt rL rE rD cDays cH cK (m_X7_set 5 z_cD pl y7))]) (nw := 8) (n1 := 8) hC gX1_fitting_X1_areSo hdV_yX1_areSo 0 rfl rfl (As := [.ref aRE]) (rest := []) (c_X1_areSo D cI aRD aRdL aRdE aRdD rCnt rL rE rD aRE aReS aReH aReK aReO aReD cDays cLin cH cK (m_X7_set 5 z_cD pl y7)) rfl ⟨by decide, by decide⟩ rfl [0, 1, 2, 3, 4, 5, 6, 7] [] [0, 1, 2, 3, 4, 5, 6, 7] [0] rfl rfl rfl rfl (by decide) rfl rfl (Nat.le_of_ble_eq_true rfl) dX1_fitting_29 rfl rfl ?_
      refine g_if_eq (tgt := 44) hC dX1_fitting_32 (by decide) rfl (fun c_32 => ?_) (fun c_32 => ?_)
      · rw [if_pos c_32] at hres
        refine g_iinc (v := (y7 + 1)) (lv' := [(7, .int (y7 + 1)), (0, .ref aRD), (1, .ref aRE), (2, .ref aReD), (3, .int pl), (4, .int lim), (5, .int (m_X7_at 5 cD pl)), (6, .int y6)]) hC dX1_fitting_44 7 rfl rfl (by decide) rfl rfl ?_
        refine g_goto (tgt := 13) hC dX1_fitting_47 (by decide) ?_
        refine g_sub [1, 2, 3, 4, 5, 6, 7, 0] rfl ?_
        exact ih y6 (y7 + 1) (m_X7_set 5 z_cD pl y7) (up_dec c_17 hm) (up_nn c_17 h0_y7) hres
      · rw [if_neg c_32] at hres
        refine g_iload hC dX1_fitting_35 6 rfl rfl ?_
        refine g_iconst (v := 1) hC dX1_fitting_37 (by decide) rfl ?_
        refine g_iload hC dX1_fitting_38 7 rfl rfl ?_
        refine g_ishl hC dX1_fitting_40 rfl ?_
        refine g_ior hC dX1_fitting_41 rfl ?_
        refine g_istore (lv' := [(6, .int (y6 ||| ((1 : Int32) <<< (y7 &&& 31)))), (0, .ref aRD), (1, .ref aRE), (2, .ref aReD), (3, .int pl), (4, .int lim), (5, .int (m_X7_at 5 cD pl)), (7, .int y7)]) hC dX1_fitting_42 (by decide) rfl rfl ?_
        refine g_iinc (v := (y7 + 1)) (lv' := [(7, .int (y7 + 1)), (6, .int (y6 ||| ((1 : Int32) <<< (y7 &&& 31)))), (0, .ref aRD), (1, .ref aRE), (2, .ref aReD), (3, .int pl), (4, .int lim), (5, .int (m_X7_at 5 cD pl))]) hC dX1_fitting_44 7 rfl rfl (by decide) rfl rfl ?_
        refine g_goto (tgt := 13) hC dX1_fitting_47 (by decide) ?_
        refine g_sub [2, 3, 4, 5, 6, 7, 1, 0] rfl ?_
        exact ih (y6 ||| ((1 : Int32) <<< (y7 &&& 31))) (y7 + 1) (m_X7_set 5 z_cD pl y7) (up_dec c_17 hm) (up_nn c_17 h0_y7) hres
set_option maxRecDepth 100000 in
set_option maxHeartbeats 4000000 in
theorem c_X1_fitting_D (D : va_G) (cI : ClassId) (aRD : Nat) (aRdL : Nat) (aRdE : Nat) (aRdD : Nat) (rCnt : Int32) (rL : Nat → Int32) (rE : Nat → Int32) (rD : Nat → Int32) (aRE : Nat) (aReS : Nat) (aReH : Nat) (aReK : Nat) (aReO : Nat) (aReD : Nat) (cDays : Int32) (cLin : Int32) (cH : Nat → Int32) (cK : Nat → Int32) (cD : Nat → Int32) (pl : Int32) (lim : Int32) : MC yX1_fitting wsX1_fitting ({ frames := 4, cells := 0, slots := 0, locals := 93 } : Room) D [(cI, .int)] [.ref aRD, .ref aRE, .ref aReD, .int pl, .int lim] [(aRD, .inr (1, [.ref aRdL, .ref aRdE, .ref aRdD, .int rCnt])), (aRdL, .inl (cI, 8, .inl rL)), (aRdE, .inl (cI, 8, .inl rE)), (aRdD, .inl (cI, 8, .inl rD)), (aRE, .inr (2, [.ref aReS, .ref aReH, .ref aReK, .ref aReO, .ref aReD, .int cDays, .int cLin])), (aReH, .inl (cI, 6, .inl cH)), (aReK, .inl (cI, 5, .inl cK)), (aReD, .inl (cI, 5, .inl cD))] (some (.int ((m_X1_fitting_D rCnt rL rE rD cDays cH cK cD pl lim).1))) [(aRD, .inr (1, [.ref aRdL, .ref aRdE, .ref aRdD, .int rCnt])), (aRdL, .inl (cI, 8, .inl rL)), (aRdE, .inl (cI, 8, .inl rE)), (aRdD, .inl (cI, 8, .inl rD)), (aRE, .inr (2, [.ref aReS, .ref aReH, .ref aReK, .ref aReO, .ref aReD, .int cDays, .int cLin])), (aReH, .inl (cI, 6, .inl cH)), (aReK, .inl (cI, 5, .inl cK)), (aReD, .inl (cI, 5, .inl ((m_X1_fitting_D rCnt rL rE rD cDays cH cK cD pl lim).2)))] := by
  refine g_entry (by decide) rfl rfl rfl rfl (Nat.le_of_ble_eq_true rfl) (lv := [(0, .ref aRD), (1, .ref aRE), (2, .ref aReD), (3, .int pl), (4, .int lim)]) rfl ?_
  intro X hC hX
  obtain ⟨res, hres⟩ : ∃ z, z = (m_X1_fitting_D rCnt rL rE rD cDays cH cK cD pl lim) := ⟨_, rfl⟩
  rw [← hres] at hX
  rw [m_X1_fitting_D] at hres
  refine g_aload_n hC dX1_fitting_0 rfl 2 rfl rfl ?_
  refine g_iload_n hC dX1_fitting_1 rfl 3 rfl rfl ?_
  refine g_callN (ws' := [(aRD, .inr (1, [.ref aRdL, .ref aRdE, .ref aRdD, .int rCnt])), (aRdL, .inl (cI, 8, .inl rL)), (aRdE, .inl (cI, 8, .inl rE)), (aRdD, .inl (cI, 8, .inl rD)), (aRE, .inr (2, [.ref aReS, .ref aReH, .ref aReK, .ref aReO, .ref aReD, .int cDays, .int cLin])), (aReH, .inl (cI, 6, .inl cH)), (aReK, .inl (cI, 5, .inl cK)), (aReD, .inl (cI, 5, .inl cD))]) (st' := [.int (m_X7_at 5 cD pl)]) (nw := 8) (n1 := 1) hC gX1_fitting_X7_at_n29 (List.mem_of_getElem? (i := 10) rfl) (List.mem_of_getElem? (i := 2) rfl) (List.mem_of_getElem? (i := 1) rfl) hdS_yX7_at (As := [.ref aReD, .int pl]) (rest := []) (c_X7_at D cI aReD 5 cD pl (by decide)) rfl ⟨by decide, by decide⟩ rfl [7] [0, 1, 2, 3, 4, 5, 6] [0, 1, 2, 3, 4, 5, 6, 7] [0] rfl rfl rfl rfl (by decide) rfl rfl (Nat.le_of_ble_eq_true rfl) dX1_fitting_2 rfl rfl ?_
  refine g_istore (lv' := [(5, .int (m_X7_at 5 cD pl)), (0, .ref aRD), (1, .ref aRE), (2, .ref aReD), (3, .int pl), (4, .int lim)]) hC dX1_fitting_5 (by decide) rfl rfl ?_
  refine g_iconst (v := 0) hC dX1_fitting_7 (by decide) rfl ?_
  refine g_istore (lv' := [(6, .int (0 : Int32)), (5, .int (m_X7_at 5 cD pl)), (0, .ref aRD), (1, .ref aRE), (2, .ref aReD), (3, .int pl), (4, .int lim)]) hC dX1_fitting_8 (by decide) rfl rfl ?_
  refine g_iconst (v := 0) hC dX1_fitting_10 (by decide) rfl ?_
  refine g_istore (lv' := [(7, .int (0 : Int32)), (6, .int (0 : Int32)), (5, .int (m_X7_at 5 cD pl)), (0, .ref aRD), (1, .ref aRE), (2, .ref aReD), (3, .int pl), (4, .int lim)]) hC dX1_fitting_11 (by decide) rfl rfl ?_
  refine g_sub [3, 4, 5, 6, 7, 2, 1, 0] rfl ?_
  exact l_X1_fitting_D_13 D cI aRD aRdL aRdE aRdD rCnt rL rE rD aRE aReS aReH aReK aReO aReD cDays cLin cH cK cD pl lim  hC hX ((lim.toInt - (0 : Int32).toInt).toNat + 1) (0 : Int32) (0 : Int32) cD (Nat.lt_succ_self _) (by decide) hres
def m_X1_fitting_K_13 : Nat → Int32 → (Nat → Int32) → (Nat → Int32) → (Nat → Int32) → Int32 → (Nat → Int32) → (Nat → Int32) → (Nat → Int32) → Int32 → Int32 → Int32 → Int32 → (Nat → Int32) → (Int32 × (Nat → Int32))
  | 0, _, _, _, _, _, _, _, _, _, _, _, _, _ => default
  | fu + 1, rCnt, rL, rE, rD, cDays, cH, cK, cD, pl, lim, y6, y7, z_cK => (if lim ≤ y7 then (y6, (m_X7_set 5 z_cK pl (m_X7_at 5 cK pl))) else (if (m_X1_areSo rCnt rL rE rD cDays cH (m_X7_set 5 z_cK pl y7) cD) = 0 then (m_X1_fitting_K_13 fu rCnt rL rE rD cDays cH cK cD pl lim y6 (y7 + 1) (m_X7_set 5 z_cK pl y7)) else (m_X1_fitting_K_13 fu rCnt rL rE rD cDays cH cK cD pl lim (y6 ||| ((1 : Int32) <<< (y7 &&& 31))) (y7 + 1) (m_X7_set 5 z_cK pl y7))))
def m_X1_fitting_K (rCnt : Int32) (rL : Nat → Int32) (rE : Nat → Int32) (rD : Nat → Int32) (cDays : Int32) (cH : Nat → Int32) (cK : Nat → Int32) (cD : Nat → Int32) (pl : Int32) (lim : Int32) : (Int32 × (Nat → Int32)) := (m_X1_fitting_K_13 ((lim.toInt - (0 : Int32).toInt).toNat + 1) rCnt rL rE rD cDays cH cK cD pl lim (0 : Int32) (0 : Int32) cK)
set_option maxRecDepth 100000 in
set_option maxHeartbeats 4000000 in
theorem l_X1_fitting_K_13 {X : gX} (D : va_G) (cI : ClassId) (aRD : Nat) (aRdL : Nat) (aRdE : Nat) (aRdD : Nat) (rCnt : Int32) (rL : Nat → Int32) (rE : Nat → Int32) (rD : Nat → Int32) (aRE : Nat) (aReS : Nat) (aReH : Nat) (aReK : Nat) (aReO : Nat) (aReD : Nat) (cDays : Int32) (cLin : Int32) (cH : Nat → Int32) (cK : Nat → Int32) (cD : Nat → Int32) (pl : Int32) (lim : Int32) (hC : Cx X cX1_fitting 8 RX1 wsX1_fitting D [(cI, .int)] ({ frames := 4, cells := 0, slots := 0, locals := 93 } : Room) (some .int)) {res : (Int32 × (Nat → Int32))} (hX : Rx X D (some (.int res.1)) [(aRD, .inr (1, [.ref aRdL, .ref aRdE, .ref aRdD, .int rCnt])), (aRdL, .inl (cI, 8, .inl rL)), (aRdE, .inl (cI, 8, .inl rE)), (aRdD, .inl (cI, 8, .inl rD)), (aRE, .inr (2, [.ref aReS, .ref aReH, .ref aReK, .ref aReO, .ref aReD, .int cDays, .int cLin])), (aReH, .inl (cI, 6, .inl cH)), (aReK, .inl (cI, 5, .inl res.2)), (aReD, .inl (cI, 5, .inl cD))]) : ∀ (fu : Nat) (y6 : Int32) (y7 : Int32) (z_cK : Nat → Int32) (hm : (lim.toInt - y7.toInt).toNat < fu) (h0_y7 : 0 ≤ y7.toInt) (hres : res = m_X1_fitting_K_13 fu rCnt rL rE rD cDays cH cK cD pl lim y6 y7 z_cK), G X D 8 [(aRD, .inr (1, [.ref aRdL, .ref aRdE, .ref aRdD, .int rCnt])), (aRdL, .inl (cI, 8, .inl rL)), (aRdE, .inl (cI, 8, .inl rE)), (aRdD, .inl (cI, 8, .inl rD)), (aRE, .inr (2, [.ref aReS, .ref aReH, .ref aReK, .ref aReO, .ref aReD, .int cDays, .int cLin])), (aReH, .inl (cI, 6, .inl cH)), (aReK, .inl (cI, 5, .inl z_cK)), (aReD, .inl (cI, 5, .inl cD))] [(0, .ref aRD), (1, .ref aRE), (2, .ref aReK), (3, .int pl), (4, .int lim), (5, .int (m_X7_at 5 cK pl)), (6, .int y6), (7, .int y7)] 13 [] := by
  intro fu
  induction fu with
  | zero =>
    intro y6 y7 z_cK hm
    exact absurd hm (Nat.not_lt_zero _)
  | succ fu ih =>
    intro y6 y7 z_cK hm h0_y7 hres
    rw [m_X1_fitting_K_13] at hres
    refine g_iload hC dX1_fitting_13 7 rfl rfl ?_
    refine g_iload hC dX1_fitting_15 4 rfl rfl ?_
    refine g_icmp_ge (tgt := 50) hC dX1_fitting_17 (by decide) rfl (fun c_17 => ?_) (fun c_17 => ?_)
    · rw [if_pos c_17] at hres
      refine g_aload_n hC dX1_fitting_50 rfl 2 rfl rfl ?_
      refine g_iload_n hC dX1_fitting_51 rfl 3 rfl rfl ?_
      refine g_iload hC dX1_fitting_52 5 rfl rfl ?_
      refine g_callN (ws' := [(aRD, .inr (1, [.ref aRdL, .ref aRdE, .ref aRdD, .int rCnt])), (aRdL, .inl (cI, 8, .inl rL)), (aRdE, .inl (cI, 8, .inl rE)), (aRdD, .inl (cI, 8, .inl rD)), (aRE, .inr (2, [.ref aReS, .ref aReH, .ref aReK, .ref aReO, .ref aReD, .int cDays, .int cLin])), (aReH, .inl (cI, 6, .inl cH)), (aReK, .inl (cI, 5, .inl (m_X7_set 5 z_cK pl (m_X7_at 5 cK pl)))), (aReD, .inl (cI, 5, .inl cD))]) (st' := []) (nw := 8) (n1 := 1) hC gX1_fitting_X7_set_n25 (List.mem_of_getElem? (i := 9) rfl) (List.mem_of_getElem? (i := 2) rfl) (List.mem_of_getElem? (i := 4) rfl) hdS_yX7_set (As := [.ref aReK, .int pl, .int (m_X7_at 5 cK pl)]) (rest := []) (c_X7_set D cI aReK 5 z_cK pl (m_X7_at 5 cK pl) (by decide)) rfl ⟨by decide, by decide⟩ rfl [6] [0, 1, 2, 3, 4, 5, 7] [0, 1, 2, 3, 4, 5, 7, 6] [0] rfl rfl rfl rfl (by decide) rfl rfl (Nat.le_of_ble_eq_true rfl) dX1_fitting_54 rfl rfl ?_
      refine g_iload hC dX1_fitting_57 6 rfl rfl ?_
      subst hres
      exact g_iret hC hX rfl dX1_fitting_59 rfl rfl
    · rw [if_neg c_17] at hres
      refine g_aload_n hC dX1_fitting_20 rfl 2 rfl rfl ?_
      refine g_iload_n hC dX1_fitting_21 rfl 3 rfl rfl ?_
      refine g_iload hC dX1_fitting_22 7 rfl rfl ?_
      refine g_callN (ws' := [(aRD, .inr (1, [.ref aRdL, .ref aRdE, .ref aRdD, .int rCnt])), (aRdL, .inl (cI, 8, .inl rL)), (aRdE, .inl (cI, 8, .inl rE)), (aRdD, .inl (cI, 8, .inl rD)), (aRE, .inr (2, [.ref aReS, .ref aReH, .ref aReK, .ref aReO, .ref aReD, .int cDays, .int cLin])), (aReH, .inl (cI, 6, .inl cH)), (aReK, .inl (cI, 5, .inl (m_X7_set 5 z_cK pl y7))), (aReD, .inl (cI, 5, .inl cD))]) (st' := []) (nw := 8) (n1 := 1) hC gX1_fitting_X7_set_n25 (List.mem_of_getElem? (i := 9) rfl) (List.mem_of_getElem? (i := 2) rfl) (List.mem_of_getElem? (i := 4) rfl) hdS_yX7_set (As := [.ref aReK, .int pl, .int y7]) (rest := []) (c_X7_set D cI aReK 5 z_cK pl y7 (by decide)) rfl ⟨by decide, by decide⟩ rfl [6] [0, 1, 2, 3, 4, 5, 7] [0, 1, 2, 3, 4, 5, 7, 6] [0] rfl rfl rfl rfl (by decide) rfl rfl (Nat.le_of_ble_eq_true rfl) dX1_fitting_24 rfl rfl ?_
      refine g_aload_n hC dX1_fitting_27 rfl 0 rfl rfl ?_
      refine g_aload_n hC dX1_fitting_28 rfl 1 rfl rfl ?_
      refine g_callV (ws' := [(aRD, .inr (1, [.ref aRdL, .ref aRdE, .ref aRdD, .int rCnt])), (aRdL, .inl (cI, 8, .inl rL)), (aRdE, .inl (cI, 8, .inl rE)), (aRdD, .inl (cI, 8, .inl rD)), (aRE, .inr (2, [.ref aReS, .ref aReH, .ref aReK, .ref aReO, .ref aReD, .int cDays, .int cLin])), (aReH, .inl (cI, 6, .inl cH)), (aReK, .inl (cI, 5, .inl (m_X7_set 5 z_cK pl y7))), (aReD, .inl (cI, 5, .inl cD))]) (st' := [.int (m_X1_areSo rCnt rL rE rD cDays cH (m_X7_set 5 z_cK pl y7) cD)]) (nw := 8) (n1 := 8) hC gX1_fitting_X1_areSo hdV_yX1_areSo 0 rfl rfl (As := [.ref aRE]) (rest := []) (c_X1_areSo D cI aRD aRdL aRdE aRdD rCnt rL rE rD aRE aReS aReH aReK aReO aReD cDays cLin cH (m_X7_set 5 z_cK pl y7) cD) rfl ⟨by decide, by decide⟩ rfl [0, 1, 2, 3, 4, 5, 6, 7] [] [0, 1, 2, 3, 4, 5, 6, 7] [0] rfl rfl rfl rfl (by decide) rfl rfl (Nat.le_of_ble_eq_true rfl) dX1_fitting_29 rfl rfl ?_
      refine g_if_eq (tgt := 44) hC dX1_fitting_32 (by decide) rfl (fun c_32 => ?_) (fun c_32 => ?_)
      · rw [if_pos c_32] at hres
        refine g_iinc (v := (y7 + 1)) (lv' := [(7, .int (y7 + 1)), (0, .ref aRD), (1, .ref aRE), (2, .ref aReK), (3, .int pl), (4, .int lim), (5, .int (m_X7_at 5 cK pl)), (6, .int y6)]) hC dX1_fitting_44 7 rfl rfl (by decide) rfl rfl ?_
        refine g_goto (tgt := 13) hC dX1_fitting_47 (by decide) ?_
        refine g_sub [1, 2, 3, 4, 5, 6, 7, 0] rfl ?_
        exact ih y6 (y7 + 1) (m_X7_set 5 z_cK pl y7) (up_dec c_17 hm) (up_nn c_17 h0_y7) hres
      · rw [if_neg c_32] at hres
        refine g_iload hC dX1_fitting_35 6 rfl rfl ?_
        refine g_iconst (v := 1) hC dX1_fitting_37 (by decide) rfl ?_
        refine g_iload hC dX1_fitting_38 7 rfl rfl ?_
        refine g_ishl hC dX1_fitting_40 rfl ?_
        refine g_ior hC dX1_fitting_41 rfl ?_
        refine g_istore (lv' := [(6, .int (y6 ||| ((1 : Int32) <<< (y7 &&& 31)))), (0, .ref aRD), (1, .ref aRE), (2, .ref aReK), (3, .int pl), (4, .int lim), (5, .int (m_X7_at 5 cK pl)), (7, .int y7)]) hC dX1_fitting_42 (by decide) rfl rfl ?_
        refine g_iinc (v := (y7 + 1)) (lv' := [(7, .int (y7 + 1)), (6, .int (y6 ||| ((1 : Int32) <<< (y7 &&& 31)))), (0, .ref aRD), (1, .ref aRE), (2, .ref aReK), (3, .int pl), (4, .int lim), (5, .int (m_X7_at 5 cK pl))]) hC dX1_fitting_44 7 rfl rfl (by decide) rfl rfl ?_
        refine g_goto (tgt := 13) hC dX1_fitting_47 (by decide) ?_
        refine g_sub [2, 3, 4, 5, 6, 7, 1, 0] rfl ?_
        exact ih (y6 ||| ((1 : Int32) <<< (y7 &&& 31))) (y7 + 1) (m_X7_set 5 z_cK pl y7) (up_dec c_17 hm) (up_nn c_17 h0_y7) hres
set_option maxRecDepth 100000 in
set_option maxHeartbeats 4000000 in
theorem c_X1_fitting_K (D : va_G) (cI : ClassId) (aRD : Nat) (aRdL : Nat) (aRdE : Nat) (aRdD : Nat) (rCnt : Int32) (rL : Nat → Int32) (rE : Nat → Int32) (rD : Nat → Int32) (aRE : Nat) (aReS : Nat) (aReH : Nat) (aReK : Nat) (aReO : Nat) (aReD : Nat) (cDays : Int32) (cLin : Int32) (cH : Nat → Int32) (cK : Nat → Int32) (cD : Nat → Int32) (pl : Int32) (lim : Int32) : MC yX1_fitting wsX1_fitting ({ frames := 4, cells := 0, slots := 0, locals := 93 } : Room) D [(cI, .int)] [.ref aRD, .ref aRE, .ref aReK, .int pl, .int lim] [(aRD, .inr (1, [.ref aRdL, .ref aRdE, .ref aRdD, .int rCnt])), (aRdL, .inl (cI, 8, .inl rL)), (aRdE, .inl (cI, 8, .inl rE)), (aRdD, .inl (cI, 8, .inl rD)), (aRE, .inr (2, [.ref aReS, .ref aReH, .ref aReK, .ref aReO, .ref aReD, .int cDays, .int cLin])), (aReH, .inl (cI, 6, .inl cH)), (aReK, .inl (cI, 5, .inl cK)), (aReD, .inl (cI, 5, .inl cD))] (some (.int ((m_X1_fitting_K rCnt rL rE rD cDays cH cK cD pl lim).1))) [(aRD, .inr (1, [.ref aRdL, .ref aRdE, .ref aRdD, .int rCnt])), (aRdL, .inl (cI, 8, .inl rL)), (aRdE, .inl (cI, 8, .inl rE)), (aRdD, .inl (cI, 8, .inl rD)), (aRE, .inr (2, [.ref aReS, .ref aReH, .ref aReK, .ref aReO, .ref aReD, .int cDays, .int cLin])), (aReH, .inl (cI, 6, .inl cH)), (aReK, .inl (cI, 5, .inl ((m_X1_fitting_K rCnt rL rE rD cDays cH cK cD pl lim).2))), (aReD, .inl (cI, 5, .inl cD))] := by
  refine g_entry (by decide) rfl rfl rfl rfl (Nat.le_of_ble_eq_true rfl) (lv := [(0, .ref aRD), (1, .ref aRE), (2, .ref aReK), (3, .int pl), (4, .int lim)]) rfl ?_
  intro X hC hX
  obtain ⟨res, hres⟩ : ∃ z, z = (m_X1_fitting_K rCnt rL rE rD cDays cH cK cD pl lim) := ⟨_, rfl⟩
  rw [← hres] at hX
  rw [m_X1_fitting_K] at hres
  refine g_aload_n hC dX1_fitting_0 rfl 2 rfl rfl ?_
  refine g_iload_n hC dX1_fitting_1 rfl 3 rfl rfl ?_
  refine g_callN (ws' := [(aRD, .inr (1, [.ref aRdL, .ref aRdE, .ref aRdD, .int rCnt])), (aRdL, .inl (cI, 8, .inl rL)), (aRdE, .inl (cI, 8, .inl rE)), (aRdD, .inl (cI, 8, .inl rD)), (aRE, .inr (2, [.ref aReS, .ref aReH, .ref aReK, .ref aReO, .ref aReD, .int cDays, .int cLin])), (aReH, .inl (cI, 6, .inl cH)), (aReK, .inl (cI, 5, .inl cK)), (aReD, .inl (cI, 5, .inl cD))]) (st' := [.int (m_X7_at 5 cK pl)]) (nw := 8) (n1 := 1) hC gX1_fitting_X7_at_n29 (List.mem_of_getElem? (i := 10) rfl) (List.mem_of_getElem? (i := 2) rfl) (List.mem_of_getElem? (i := 1) rfl) hdS_yX7_at (As := [.ref aReK, .int pl]) (rest := []) (c_X7_at D cI aReK 5 cK pl (by decide)) rfl ⟨by decide, by decide⟩ rfl [6] [0, 1, 2, 3, 4, 5, 7] [0, 1, 2, 3, 4, 5, 7, 6] [0] rfl rfl rfl rfl (by decide) rfl rfl (Nat.le_of_ble_eq_true rfl) dX1_fitting_2 rfl rfl ?_
  refine g_istore (lv' := [(5, .int (m_X7_at 5 cK pl)), (0, .ref aRD), (1, .ref aRE), (2, .ref aReK), (3, .int pl), (4, .int lim)]) hC dX1_fitting_5 (by decide) rfl rfl ?_
  refine g_iconst (v := 0) hC dX1_fitting_7 (by decide) rfl ?_
  refine g_istore (lv' := [(6, .int (0 : Int32)), (5, .int (m_X7_at 5 cK pl)), (0, .ref aRD), (1, .ref aRE), (2, .ref aReK), (3, .int pl), (4, .int lim)]) hC dX1_fitting_8 (by decide) rfl rfl ?_
  refine g_iconst (v := 0) hC dX1_fitting_10 (by decide) rfl ?_
  refine g_istore (lv' := [(7, .int (0 : Int32)), (6, .int (0 : Int32)), (5, .int (m_X7_at 5 cK pl)), (0, .ref aRD), (1, .ref aRE), (2, .ref aReK), (3, .int pl), (4, .int lim)]) hC dX1_fitting_11 (by decide) rfl rfl ?_
  refine g_sub [3, 4, 5, 6, 7, 2, 1, 0] rfl ?_
  exact l_X1_fitting_K_13 D cI aRD aRdL aRdE aRdD rCnt rL rE rD aRE aReS aReH aReK aReO aReD cDays cLin cH cK cD pl lim  hC hX ((lim.toInt - (0 : Int32).toInt).toNat + 1) (0 : Int32) (0 : Int32) cK (Nat.lt_succ_self _) (by decide) hres
def m_X1_fitting_H_13 : Nat → Int32 → (Nat → Int32) → (Nat → Int32) → (Nat → Int32) → Int32 → (Nat → Int32) → (Nat → Int32) → (Nat → Int32) → Int32 → Int32 → Int32 → Int32 → (Nat → Int32) → (Int32 × (Nat → Int32))
  | 0, _, _, _, _, _, _, _, _, _, _, _, _, _ => default
  | fu + 1, rCnt, rL, rE, rD, cDays, cH, cK, cD, pl, lim, y6, y7, z_cH => (if lim ≤ y7 then (y6, (m_X7_set 6 z_cH pl (m_X7_at 6 cH pl))) else (if (m_X1_areSo rCnt rL rE rD cDays (m_X7_set 6 z_cH pl y7) cK cD) = 0 then (m_X1_fitting_H_13 fu rCnt rL rE rD cDays cH cK cD pl lim y6 (y7 + 1) (m_X7_set 6 z_cH pl y7)) else (m_X1_fitting_H_13 fu rCnt rL rE rD cDays cH cK cD pl lim (y6 ||| ((1 : Int32) <<< (y7 &&& 31))) (y7 + 1) (m_X7_set 6 z_cH pl y7))))
def m_X1_fitting_H (rCnt : Int32) (rL : Nat → Int32) (rE : Nat → Int32) (rD : Nat → Int32) (cDays : Int32) (cH : Nat → Int32) (cK : Nat → Int32) (cD : Nat → Int32) (pl : Int32) (lim : Int32) : (Int32 × (Nat → Int32)) := (m_X1_fitting_H_13 ((lim.toInt - (0 : Int32).toInt).toNat + 1) rCnt rL rE rD cDays cH cK cD pl lim (0 : Int32) (0 : Int32) cH)
set_option maxRecDepth 100000 in
set_option maxHeartbeats 4000000 in
theorem l_X1_fitting_H_13 {X : gX} (D : va_G) (cI : ClassId) (aRD : Nat) (aRdL : Nat) (aRdE : Nat) (aRdD : Nat) (rCnt : Int32) (rL : Nat → Int32) (rE : Nat → Int32) (rD : Nat → Int32) (aRE : Nat) (aReS : Nat) (aReH : Nat) (aReK : Nat) (aReO : Nat) (aReD : Nat) (cDays : Int32) (cLin : Int32) (cH : Nat → Int32) (cK : Nat → Int32) (cD : Nat → Int32) (pl : Int32) (lim : Int32) (hC : Cx X cX1_fitting 8 RX1 wsX1_fitting D [(cI, .int)] ({ frames := 4, cells := 0, slots := 0, locals := 93 } : Room) (some .int)) {res : (Int32 × (Nat → Int32))} (hX : Rx X D (some (.int res.1)) [(aRD, .inr (1, [.ref aRdL, .ref aRdE, .ref aRdD, .int rCnt])), (aRdL, .inl (cI, 8, .inl rL)), (aRdE, .inl (cI, 8, .inl rE)), (aRdD, .inl (cI, 8, .inl rD)), (aRE, .inr (2, [.ref aReS, .ref aReH, .ref aReK, .ref aReO, .ref aReD, .int cDays, .int cLin])), (aReH, .inl (cI, 6, .inl res.2)), (aReK, .inl (cI, 5, .inl cK)), (aReD, .inl (cI, 5, .inl cD))]) : ∀ (fu : Nat) (y6 : Int32) (y7 : Int32) (z_cH : Nat → Int32) (hm : (lim.toInt - y7.toInt).toNat < fu) (h0_y7 : 0 ≤ y7.toInt) (hres : res = m_X1_fitting_H_13 fu rCnt rL rE rD cDays cH cK cD pl lim y6 y7 z_cH), G X D 8 [(aRD, .inr (1, [.ref aRdL, .ref aRdE, .ref aRdD, .int rCnt])), (aRdL, .inl (cI, 8, .inl rL)), (aRdE, .inl (cI, 8, .inl rE)), (aRdD, .inl (cI, 8, .inl rD)), (aRE, .inr (2, [.ref aReS, .ref aReH, .ref aReK, .ref aReO, .ref aReD, .int cDays, .int cLin])), (aReH, .inl (cI, 6, .inl z_cH)), (aReK, .inl (cI, 5, .inl cK)), (aReD, .inl (cI, 5, .inl cD))] [(0, .ref aRD), (1, .ref aRE), (2, .ref aReH), (3, .int pl), (4, .int lim), (5, .int (m_X7_at 6 cH pl)), (6, .int y6), (7, .int y7)] 13 [] := by
  intro fu
  induction fu with
  | zero =>
    intro y6 y7 z_cH hm
    exact absurd hm (Nat.not_lt_zero _)
  | succ fu ih =>
    intro y6 y7 z_cH hm h0_y7 hres
    rw [m_X1_fitting_H_13] at hres
    refine g_iload hC dX1_fitting_13 7 rfl rfl ?_
    refine g_iload hC dX1_fitting_15 4 rfl rfl ?_
    refine g_icmp_ge (tgt := 50) hC dX1_fitting_17 (by decide) rfl (fun c_17 => ?_) (fun c_17 => ?_)
    · rw [if_pos c_17] at hres
      refine g_aload_n hC dX1_fitting_50 rfl 2 rfl rfl ?_
      refine g_iload_n hC dX1_fitting_51 rfl 3 rfl rfl ?_
      refine g_iload hC dX1_fitting_52 5 rfl rfl ?_
      refine g_callN (ws' := [(aRD, .inr (1, [.ref aRdL, .ref aRdE, .ref aRdD, .int rCnt])), (aRdL, .inl (cI, 8, .inl rL)), (aRdE, .inl (cI, 8, .inl rE)), (aRdD, .inl (cI, 8, .inl rD)), (aRE, .inr (2, [.ref aReS, .ref aReH, .ref aReK, .ref aReO, .ref aReD, .int cDays, .int cLin])), (aReH, .inl (cI, 6, .inl (m_X7_set 6 z_cH pl (m_X7_at 6 cH pl)))), (aReK, .inl (cI, 5, .inl cK)), (aReD, .inl (cI, 5, .inl cD))]) (st' := []) (nw := 8) (n1 := 1) hC gX1_fitting_X7_set_n25 (List.mem_of_getElem? (i := 9) rfl) (List.mem_of_getElem? (i := 2) rfl) (List.mem_of_getElem? (i := 4) rfl) hdS_yX7_set (As := [.ref aReH, .int pl, .int (m_X7_at 6 cH pl)]) (rest := []) (c_X7_set D cI aReH 6 z_cH pl (m_X7_at 6 cH pl) (by decide)) rfl ⟨by decide, by decide⟩ rfl [5] [0, 1, 2, 3, 4, 6, 7] [0, 1, 2, 3, 4, 7, 5, 6] [0] rfl rfl rfl rfl (by decide) rfl rfl (Nat.le_of_ble_eq_true rfl) dX1_fitting_54 rfl rfl ?_
      refine g_iload hC dX1_fitting_57 6 rfl rfl ?_
      subst hres
      exact g_iret hC hX rfl dX1_fitting_59 rfl rfl
    · rw [if_neg c_17] at hres
      refine g_aload_n hC dX1_fitting_20 rfl 2 rfl rfl ?_
      refine g_iload_n hC dX1_fitting_21 rfl 3 rfl rfl ?_
      refine g_iload hC dX1_fitting_22 7 rfl rfl ?_
      refine g_callN (ws' := [(aRD, .inr (1, [.ref aRdL, .ref aRdE, .ref aRdD, .int rCnt])), (aRdL, .inl (cI, 8, .inl rL)), (aRdE, .inl (cI, 8, .inl rE)), (aRdD, .inl (cI, 8, .inl rD)), (aRE, .inr (2, [.ref aReS, .ref aReH, .ref aReK, .ref aReO, .ref aReD, .int cDays, .int cLin])), (aReH, .inl (cI, 6, .inl (m_X7_set 6 z_cH pl y7))), (aReK, .inl (cI, 5, .inl cK)), (aReD, .inl (cI, 5, .inl cD))]) (st' := []) (nw := 8) (n1 := 1) hC gX1_fitting_X7_set_n25 (List.mem_of_getElem? (i := 9) rfl) (List.mem_of_getElem? (i := 2) rfl) (List.mem_of_getElem? (i := 4) rfl) hdS_yX7_set (As := [.ref aReH, .int pl, .int y7]) (rest := []) (c_X7_set D cI aReH 6 z_cH pl y7 (by decide)) rfl ⟨by decide, by decide⟩ rfl [5] [0, 1, 2, 3, 4, 6, 7] [0, 1, 2, 3, 4, 7, 5, 6] [0] rfl rfl rfl rfl (by decide) rfl rfl (Nat.le_of_ble_eq_true rfl) dX1_fitting_24 rfl rfl ?_
      refine g_aload_n hC dX1_fitting_27 rfl 0 rfl rfl ?_
      refine g_aload_n hC dX1_fitting_28 rfl 1 rfl rfl ?_
      refine g_callV (ws' := [(aRD, .inr (1, [.ref aRdL, .ref aRdE, .ref aRdD, .int rCnt])), (aRdL, .inl (cI, 8, .inl rL)), (aRdE, .inl (cI, 8, .inl rE)), (aRdD, .inl (cI, 8, .inl rD)), (aRE, .inr (2, [.ref aReS, .ref aReH, .ref aReK, .ref aReO, .ref aReD, .int cDays, .int cLin])), (aReH, .inl (cI, 6, .inl (m_X7_set 6 z_cH pl y7))), (aReK, .inl (cI, 5, .inl cK)), (aReD, .inl (cI, 5, .inl cD))]) (st' := [.int (m_X1_areSo rCnt rL rE rD cDays (m_X7_set 6 z_cH pl y7) cK cD)]) (nw := 8) (n1 := 8) hC gX1_fitting_X1_areSo hdV_yX1_areSo 0 rfl rfl (As := [.ref aRE]) (rest := []) (c_X1_areSo D cI aRD aRdL aRdE aRdD rCnt rL rE rD aRE aReS aReH aReK aReO aReD cDays cLin (m_X7_set 6 z_cH pl y7) cK cD) rfl ⟨by decide, by decide⟩ rfl [0, 1, 2, 3, 4, 5, 6, 7] [] [0, 1, 2, 3, 4, 5, 6, 7] [0] rfl rfl rfl rfl (by decide) rfl rfl (Nat.le_of_ble_eq_true rfl) dX1_fitting_29 rfl rfl ?_
      refine g_if_eq (tgt := 44) hC dX1_fitting_32 (by decide) rfl (fun c_32 => ?_) (fun c_32 => ?_)
      · rw [if_pos c_32] at hres
        refine g_iinc (v := (y7 + 1)) (lv' := [(7, .int (y7 + 1)), (0, .ref aRD), (1, .ref aRE), (2, .ref aReH), (3, .int pl), (4, .int lim), (5, .int (m_X7_at 6 cH pl)), (6, .int y6)]) hC dX1_fitting_44 7 rfl rfl (by decide) rfl rfl ?_
        refine g_goto (tgt := 13) hC dX1_fitting_47 (by decide) ?_
        refine g_sub [1, 2, 3, 4, 5, 6, 7, 0] rfl ?_
        exact ih y6 (y7 + 1) (m_X7_set 6 z_cH pl y7) (up_dec c_17 hm) (up_nn c_17 h0_y7) hres
      · rw [if_neg c_32] at hres
        refine g_iload hC dX1_fitting_35 6 rfl rfl ?_
        refine g_iconst (v := 1) hC dX1_fitting_37 (by decide) rfl ?_
        refine g_iload hC dX1_fitting_38 7 rfl rfl ?_
        refine g_ishl hC dX1_fitting_40 rfl ?_
        refine g_ior hC dX1_fitting_41 rfl ?_
        refine g_istore (lv' := [(6, .int (y6 ||| ((1 : Int32) <<< (y7 &&& 31)))), (0, .ref aRD), (1, .ref aRE), (2, .ref aReH), (3, .int pl), (4, .int lim), (5, .int (m_X7_at 6 cH pl)), (7, .int y7)]) hC dX1_fitting_42 (by decide) rfl rfl ?_
        refine g_iinc (v := (y7 + 1)) (lv' := [(7, .int (y7 + 1)), (6, .int (y6 ||| ((1 : Int32) <<< (y7 &&& 31)))), (0, .ref aRD), (1, .ref aRE), (2, .ref aReH), (3, .int pl), (4, .int lim), (5, .int (m_X7_at 6 cH pl))]) hC dX1_fitting_44 7 rfl rfl (by decide) rfl rfl ?_
        refine g_goto (tgt := 13) hC dX1_fitting_47 (by decide) ?_
        refine g_sub [2, 3, 4, 5, 6, 7, 1, 0] rfl ?_
        exact ih (y6 ||| ((1 : Int32) <<< (y7 &&& 31))) (y7 + 1) (m_X7_set 6 z_cH pl y7) (up_dec c_17 hm) (up_nn c_17 h0_y7) hres
set_option maxRecDepth 100000 in
set_option maxHeartbeats 4000000 in
theorem c_X1_fitting_H (D : va_G) (cI : ClassId) (aRD : Nat) (aRdL : Nat) (aRdE : Nat) (aRdD : Nat) (rCnt : Int32) (rL : Nat → Int32) (rE : Nat → Int32) (rD : Nat → Int32) (aRE : Nat) (aReS : Nat) (aReH : Nat) (aReK : Nat) (aReO : Nat) (aReD : Nat) (cDays : Int32) (cLin : Int32) (cH : Nat → Int32) (cK : Nat → Int32) (cD : Nat → Int32) (pl : Int32) (lim : Int32) : MC yX1_fitting wsX1_fitting ({ frames := 4, cells := 0, slots := 0, locals := 93 } : Room) D [(cI, .int)] [.ref aRD, .ref aRE, .ref aReH, .int pl, .int lim] [(aRD, .inr (1, [.ref aRdL, .ref aRdE, .ref aRdD, .int rCnt])), (aRdL, .inl (cI, 8, .inl rL)), (aRdE, .inl (cI, 8, .inl rE)), (aRdD, .inl (cI, 8, .inl rD)), (aRE, .inr (2, [.ref aReS, .ref aReH, .ref aReK, .ref aReO, .ref aReD, .int cDays, .int cLin])), (aReH, .inl (cI, 6, .inl cH)), (aReK, .inl (cI, 5, .inl cK)), (aReD, .inl (cI, 5, .inl cD))] (some (.int ((m_X1_fitting_H rCnt rL rE rD cDays cH cK cD pl lim).1))) [(aRD, .inr (1, [.ref aRdL, .ref aRdE, .ref aRdD, .int rCnt])), (aRdL, .inl (cI, 8, .inl rL)), (aRdE, .inl (cI, 8, .inl rE)), (aRdD, .inl (cI, 8, .inl rD)), (aRE, .inr (2, [.ref aReS, .ref aReH, .ref aReK, .ref aReO, .ref aReD, .int cDays, .int cLin])), (aReH, .inl (cI, 6, .inl ((m_X1_fitting_H rCnt rL rE rD cDays cH cK cD pl lim).2))), (aReK, .inl (cI, 5, .inl cK)), (aReD, .inl (cI, 5, .inl cD))] := by
  refine g_entry (by decide) rfl rfl rfl rfl (Nat.le_of_ble_eq_true rfl) (lv := [(0, .ref aRD), (1, .ref aRE), (2, .ref aReH), (3, .int pl), (4, .int lim)]) rfl ?_
  intro X hC hX
  obtain ⟨res, hres⟩ : ∃ z, z = (m_X1_fitting_H rCnt rL rE rD cDays cH cK cD pl lim) := ⟨_, rfl⟩
  rw [← hres] at hX
  rw [m_X1_fitting_H] at hres
  refine g_aload_n hC dX1_fitting_0 rfl 2 rfl rfl ?_
  refine g_iload_n hC dX1_fitting_1 rfl 3 rfl rfl ?_
  refine g_callN (ws' := [(aRD, .inr (1, [.ref aRdL, .ref aRdE, .ref aRdD, .int rCnt])), (aRdL, .inl (cI, 8, .inl rL)), (aRdE, .inl (cI, 8, .inl rE)), (aRdD, .inl (cI, 8, .inl rD)), (aRE, .inr (2, [.ref aReS, .ref aReH, .ref aReK, .ref aReO, .ref aReD, .int cDays, .int cLin])), (aReH, .inl (cI, 6, .inl cH)), (aReK, .inl (cI, 5, .inl cK)), (aReD, .inl (cI, 5, .inl cD))]) (st' := [.int (m_X7_at 6 cH pl)]) (nw := 8) (n1 := 1) hC gX1_fitting_X7_at_n29 (List.mem_of_getElem? (i := 10) rfl) (List.mem_of_getElem? (i := 2) rfl) (List.mem_of_getElem? (i := 1) rfl) hdS_yX7_at (As := [.ref aReH, .int pl]) (rest := []) (c_X7_at D cI aReH 6 cH pl (by decide)) rfl ⟨by decide, by decide⟩ rfl [5] [0, 1, 2, 3, 4, 6, 7] [0, 1, 2, 3, 4, 7, 5, 6] [0] rfl rfl rfl rfl (by decide) rfl rfl (Nat.le_of_ble_eq_true rfl) dX1_fitting_2 rfl rfl ?_
  refine g_istore (lv' := [(5, .int (m_X7_at 6 cH pl)), (0, .ref aRD), (1, .ref aRE), (2, .ref aReH), (3, .int pl), (4, .int lim)]) hC dX1_fitting_5 (by decide) rfl rfl ?_
  refine g_iconst (v := 0) hC dX1_fitting_7 (by decide) rfl ?_
  refine g_istore (lv' := [(6, .int (0 : Int32)), (5, .int (m_X7_at 6 cH pl)), (0, .ref aRD), (1, .ref aRE), (2, .ref aReH), (3, .int pl), (4, .int lim)]) hC dX1_fitting_8 (by decide) rfl rfl ?_
  refine g_iconst (v := 0) hC dX1_fitting_10 (by decide) rfl ?_
  refine g_istore (lv' := [(7, .int (0 : Int32)), (6, .int (0 : Int32)), (5, .int (m_X7_at 6 cH pl)), (0, .ref aRD), (1, .ref aRE), (2, .ref aReH), (3, .int pl), (4, .int lim)]) hC dX1_fitting_11 (by decide) rfl rfl ?_
  refine g_sub [3, 4, 5, 6, 7, 2, 1, 0] rfl ?_
  exact l_X1_fitting_H_13 D cI aRD aRdL aRdE aRdD rCnt rL rE rD aRE aReS aReH aReK aReO aReD cDays cLin cH cK cD pl lim  hC hX ((lim.toInt - (0 : Int32).toInt).toNat + 1) (0 : Int32) (0 : Int32) cH (Nat.lt_succ_self _) (by decide) hres
