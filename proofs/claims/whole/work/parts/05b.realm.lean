theorem iw_X2_stands_RX2 : ∀ w ∈ wsX20, w ∈ wsX2_stands := fun _ h => List.mem_cons_of_mem _ (List.mem_append_right _ (h))
def m_X2_stands (cLin : Int32) : (Int32) := (if cLin ≤ 0 then (0 : Int32) else (1 : Int32))
set_option maxRecDepth 100000 in
set_option maxHeartbeats 4000000 in
theorem c_X2_stands (D : va_G) (cI : ClassId) (aRE : Nat) (aReS : Nat) (aReH : Nat) (aReK : Nat) (aReO : Nat) (aReD : Nat) (cDays : Int32) (cLin : Int32) : MC yX2_stands wsX2_stands ({ frames := 0, cells := 0, slots := 0, locals := 0 } : Room) D [(cI, .int)] [.ref aRE] [(aRE, .inr (2, [.ref aReS, .ref aReH, .ref aReK, .ref aReO, .ref aReD, .int cDays, .int cLin]))] (some (.int (m_X2_stands cLin))) [(aRE, .inr (2, [.ref aReS, .ref aReH, .ref aReK, .ref aReO, .ref aReD, .int cDays, .int cLin]))] := by
  refine g_entry (by decide) rfl rfl rfl rfl (Nat.le_of_ble_eq_true rfl) (lv := [(0, .ref aRE)]) rfl ?_
  intro X hC hX
  obtain ⟨res, hres⟩ : ∃ z, z = (m_X2_stands cLin) := ⟨_, rfl⟩
  rw [← hres] at hX
  rw [m_X2_stands] at hres
  refine g_aload_n hC dX2_stands_0 rfl 0 rfl rfl ?_
  refine g_get hC iw_X2_stands_RX2 0 rfl rfl 6 (by decide) (List.mem_of_getElem? (i := 1) rfl) rfl rfl dX2_stands_1 rfl ?_
  refine g_if_le (tgt := 11) hC dX2_stands_4 (by decide) rfl (fun c_4 => ?_) (fun c_4 => ?_)
  · rw [if_pos c_4] at hres
    refine g_iconst (v := 0) hC dX2_stands_11 (by decide) rfl ?_
    subst hres
    exact g_zret hC hX rfl rfl dX2_stands_12 rfl rfl
  · rw [if_neg c_4] at hres
    refine g_iconst (v := 1) hC dX2_stands_7 (by decide) rfl ?_
    refine g_goto (tgt := 12) hC dX2_stands_8 (by decide) ?_
    subst hres
    exact g_zret hC hX rfl rfl dX2_stands_12 rfl rfl
theorem iw_X2_hasLinen_RX2 : ∀ w ∈ wsX20, w ∈ wsX2_hasLinen := fun _ h => List.mem_cons_of_mem _ (List.mem_append_right _ (h))
def m_X2_hasLinen (cLin : Int32) (l : Int32) : (Int32) := (m_X7_isBelow l cLin)
set_option maxRecDepth 100000 in
set_option maxHeartbeats 4000000 in
theorem c_X2_hasLinen (D : va_G) (cI : ClassId) (aRE : Nat) (aReS : Nat) (aReH : Nat) (aReK : Nat) (aReO : Nat) (aReD : Nat) (cDays : Int32) (cLin : Int32) (l : Int32) : MC yX2_hasLinen wsX2_hasLinen ({ frames := 1, cells := 0, slots := 0, locals := 21 } : Room) D [(cI, .int)] [.ref aRE, .int l] [(aRE, .inr (2, [.ref aReS, .ref aReH, .ref aReK, .ref aReO, .ref aReD, .int cDays, .int cLin]))] (some (.int (m_X2_hasLinen cLin l))) [(aRE, .inr (2, [.ref aReS, .ref aReH, .ref aReK, .ref aReO, .ref aReD, .int cDays, .int cLin]))] := by
  refine g_entry (by decide) rfl rfl rfl rfl (Nat.le_of_ble_eq_true rfl) (lv := [(0, .ref aRE), (1, .int l)]) rfl ?_
  intro X hC hX
  obtain ⟨res, hres⟩ : ∃ z, z = (m_X2_hasLinen cLin l) := ⟨_, rfl⟩
  rw [← hres] at hX
  rw [m_X2_hasLinen] at hres
  refine g_iload_n hC dX2_hasLinen_0 rfl 1 rfl rfl ?_
  refine g_aload_n hC dX2_hasLinen_1 rfl 0 rfl rfl ?_
  refine g_get hC iw_X2_hasLinen_RX2 0 rfl rfl 6 (by decide) (List.mem_of_getElem? (i := 1) rfl) rfl rfl dX2_hasLinen_2 rfl ?_
  refine g_callN (ws' := [(aRE, .inr (2, [.ref aReS, .ref aReH, .ref aReK, .ref aReO, .ref aReD, .int cDays, .int cLin]))]) (st' := [.int (m_X7_isBelow l cLin)]) (nw := 1) (n1 := 0) hC gX2_hasLinen_X7_isBelow_n34 (List.mem_of_getElem? (i := 11) rfl) (List.mem_of_getElem? (i := 3) rfl) (List.mem_of_getElem? (i := 2) rfl) hdS_yX7_isBelow (As := [.int l, .int cLin]) (rest := []) (c_X7_isBelow D cI l cLin) rfl ⟨by decide, by decide⟩ rfl [] [0] [0] [0] rfl rfl rfl rfl (by decide) rfl rfl (Nat.le_of_ble_eq_true rfl) dX2_hasLinen_5 rfl rfl ?_
  subst hres
  exact g_zret hC hX rfl (by exact nb_isBelow _ _) dX2_hasLinen_8 rfl rfl
theorem iw_X2_hasDay_RX2 : ∀ w ∈ wsX20, w ∈ wsX2_hasDay := fun _ h => List.mem_cons_of_mem _ (List.mem_append_right _ (h))
def m_X2_hasDay (cDays : Int32) (d : Int32) : (Int32) := (m_X7_isBelow d cDays)
set_option maxRecDepth 100000 in
set_option maxHeartbeats 4000000 in
theorem c_X2_hasDay (D : va_G) (cI : ClassId) (aRE : Nat) (aReS : Nat) (aReH : Nat) (aReK : Nat) (aReO : Nat) (aReD : Nat) (cDays : Int32) (cLin : Int32) (d : Int32) : MC yX2_hasDay wsX2_hasDay ({ frames := 1, cells := 0, slots := 0, locals := 21 } : Room) D [(cI, .int)] [.ref aRE, .int d] [(aRE, .inr (2, [.ref aReS, .ref aReH, .ref aReK, .ref aReO, .ref aReD, .int cDays, .int cLin]))] (some (.int (m_X2_hasDay cDays d))) [(aRE, .inr (2, [.ref aReS, .ref aReH, .ref aReK, .ref aReO, .ref aReD, .int cDays, .int cLin]))] := by
  refine g_entry (by decide) rfl rfl rfl rfl (Nat.le_of_ble_eq_true rfl) (lv := [(0, .ref aRE), (1, .int d)]) rfl ?_
  intro X hC hX
  obtain ⟨res, hres⟩ : ∃ z, z = (m_X2_hasDay cDays d) := ⟨_, rfl⟩
  rw [← hres] at hX
  rw [m_X2_hasDay] at hres
  refine g_iload_n hC dX2_hasDay_0 rfl 1 rfl rfl ?_
  refine g_aload_n hC dX2_hasDay_1 rfl 0 rfl rfl ?_
  refine g_get hC iw_X2_hasDay_RX2 0 rfl rfl 5 (by decide) (List.mem_of_getElem? (i := 1) rfl) rfl rfl dX2_hasDay_2 rfl ?_
  refine g_callN (ws' := [(aRE, .inr (2, [.ref aReS, .ref aReH, .ref aReK, .ref aReO, .ref aReD, .int cDays, .int cLin]))]) (st' := [.int (m_X7_isBelow d cDays)]) (nw := 1) (n1 := 0) hC gX2_hasDay_X7_isBelow_n34 (List.mem_of_getElem? (i := 11) rfl) (List.mem_of_getElem? (i := 3) rfl) (List.mem_of_getElem? (i := 2) rfl) hdS_yX7_isBelow (As := [.int d, .int cDays]) (rest := []) (c_X7_isBelow D cI d cDays) rfl ⟨by decide, by decide⟩ rfl [] [0] [0] [0] rfl rfl rfl rfl (by decide) rfl rfl (Nat.le_of_ble_eq_true rfl) dX2_hasDay_5 rfl rfl ?_
  subst hres
  exact g_zret hC hX rfl (by exact nb_isBelow _ _) dX2_hasDay_8 rfl rfl
theorem iw_X2_hasEvenings_RX2 : ∀ w ∈ wsX20, w ∈ wsX2_hasEvenings := fun _ h => List.mem_cons_of_mem _ (List.mem_append_right _ (h))
def m_X2_hasEvenings (cDays : Int32) (t : Int32) : (Int32) := (if t < 0 then (0 : Int32) else (if cDays < t then (0 : Int32) else (1 : Int32)))
set_option maxRecDepth 100000 in
set_option maxHeartbeats 4000000 in
theorem c_X2_hasEvenings (D : va_G) (cI : ClassId) (aRE : Nat) (aReS : Nat) (aReH : Nat) (aReK : Nat) (aReO : Nat) (aReD : Nat) (cDays : Int32) (cLin : Int32) (t : Int32) : MC yX2_hasEvenings wsX2_hasEvenings ({ frames := 0, cells := 0, slots := 0, locals := 0 } : Room) D [(cI, .int)] [.ref aRE, .int t] [(aRE, .inr (2, [.ref aReS, .ref aReH, .ref aReK, .ref aReO, .ref aReD, .int cDays, .int cLin]))] (some (.int (m_X2_hasEvenings cDays t))) [(aRE, .inr (2, [.ref aReS, .ref aReH, .ref aReK, .ref aReO, .ref aReD, .int cDays, .int cLin]))] := by
  refine g_entry (by decide) rfl rfl rfl rfl (Nat.le_of_ble_eq_true rfl) (lv := [(0, .ref aRE), (1, .int t)]) rfl ?_
  intro X hC hX
  obtain ⟨res, hres⟩ : ∃ z, z = (m_X2_hasEvenings cDays t) := ⟨_, rfl⟩
  rw [← hres] at hX
  rw [m_X2_hasEvenings] at hres
  refine g_iload_n hC dX2_hasEvenings_0 rfl 1 rfl rfl ?_
  refine g_if_lt (tgt := 16) hC dX2_hasEvenings_1 (by decide) rfl (fun c_1 => ?_) (fun c_1 => ?_)
  · rw [if_pos c_1] at hres
    refine g_iconst (v := 0) hC dX2_hasEvenings_16 (by decide) rfl ?_
    subst hres
    exact g_zret hC hX rfl rfl dX2_hasEvenings_17 rfl rfl
  · rw [if_neg c_1] at hres
    refine g_iload_n hC dX2_hasEvenings_4 rfl 1 rfl rfl ?_
    refine g_aload_n hC dX2_hasEvenings_5 rfl 0 rfl rfl ?_
    refine g_get hC iw_X2_hasEvenings_RX2 0 rfl rfl 5 (by decide) (List.mem_of_getElem? (i := 1) rfl) rfl rfl dX2_hasEvenings_6 rfl ?_
    refine g_icmp_gt (tgt := 16) hC dX2_hasEvenings_9 (by decide) rfl (fun c_9 => ?_) (fun c_9 => ?_)
    · rw [if_pos c_9] at hres
      refine g_iconst (v := 0) hC dX2_hasEvenings_16 (by decide) rfl ?_
      subst hres
      exact g_zret hC hX rfl rfl dX2_hasEvenings_17 rfl rfl
    · rw [if_neg c_9] at hres
      refine g_iconst (v := 1) hC dX2_hasEvenings_12 (by decide) rfl ?_
      refine g_goto (tgt := 17) hC dX2_hasEvenings_13 (by decide) ?_
      subst hres
      exact g_zret hC hX rfl rfl dX2_hasEvenings_17 rfl rfl
theorem iw_X2_allSorrow_RX2 : ∀ w ∈ wsX20, w ∈ wsX2_allSorrow := fun _ h => List.mem_cons_of_mem _ (List.mem_append_right _ (h))
def m_X2_allSorrow_4 : Nat → (Nat → Int32) → Int32 → Int32 → (Int32)
  | 0, _, _, _ => default
  | fu + 1, cS, y1, y2 => (if (4 : Int32) ≤ y2 then y1 else (m_X2_allSorrow_4 fu cS (y1 + (m_X7_at 4 cS y2)) (y2 + 1)))
def m_X2_allSorrow (cS : Nat → Int32) : (Int32) := (m_X2_allSorrow_4 (((4 : Int32).toInt - (0 : Int32).toInt).toNat + 1) cS (0 : Int32) (0 : Int32))
set_option maxRecDepth 100000 in
set_option maxHeartbeats 4000000 in
theorem l_X2_allSorrow_4 {X : gX} (D : va_G) (cI : ClassId) (aRE : Nat) (aReS : Nat) (aReH : Nat) (aReK : Nat) (aReO : Nat) (aReD : Nat) (cDays : Int32) (cLin : Int32) (cS : Nat → Int32) (hC : Cx X cX2_allSorrow 3 RX2 wsX2_allSorrow D [(cI, .int)] ({ frames := 1, cells := 0, slots := 0, locals := 21 } : Room) (some .int)) {res : (Int32)} (hX : Rx X D (some (.int res)) [(aRE, .inr (2, [.ref aReS, .ref aReH, .ref aReK, .ref aReO, .ref aReD, .int cDays, .int cLin])), (aReS, .inl (cI, 4, .inl cS))]) : ∀ (fu : Nat) (y1 : Int32) (y2 : Int32) (hm : ((4 : Int32).toInt - y2.toInt).toNat < fu) (h0_y2 : 0 ≤ y2.toInt) (hres : res = m_X2_allSorrow_4 fu cS y1 y2), G X D 3 [(aRE, .inr (2, [.ref aReS, .ref aReH, .ref aReK, .ref aReO, .ref aReD, .int cDays, .int cLin])), (aReS, .inl (cI, 4, .inl cS))] [(0, .ref aRE), (1, .int y1), (2, .int y2)] 4 [] := by
  intro fu
  induction fu with
  | zero =>
    intro y1 y2 hm
    exact absurd hm (Nat.not_lt_zero _)
  | succ fu ih =>
    intro y1 y2 hm h0_y2 hres
    rw [m_X2_allSorrow_4] at hres
    refine g_iload_n hC dX2_allSorrow_4 rfl 2 rfl rfl ?_
    refine g_iconst (v := 4) hC dX2_allSorrow_5 (by decide) rfl ?_
    refine g_icmp_ge (tgt := 26) hC dX2_allSorrow_6 (by decide) rfl (fun c_6 => ?_) (fun c_6 => ?_)
    · rw [if_pos c_6] at hres
      refine g_iload_n hC dX2_allSorrow_26 rfl 1 rfl rfl ?_
      subst hres
      exact g_iret hC hX rfl dX2_allSorrow_27 rfl rfl
    · rw [if_neg c_6] at hres
      refine g_iload_n hC dX2_allSorrow_9 rfl 1 rfl rfl ?_
      refine g_aload_n hC dX2_allSorrow_10 rfl 0 rfl rfl ?_
      refine g_get hC iw_X2_allSorrow_RX2 0 rfl rfl 0 (by decide) (List.mem_of_getElem? (i := 1) rfl) rfl rfl dX2_allSorrow_11 rfl ?_
      refine g_iload_n hC dX2_allSorrow_14 rfl 2 rfl rfl ?_
      refine g_callN (ws' := [(aRE, .inr (2, [.ref aReS, .ref aReH, .ref aReK, .ref aReO, .ref aReD, .int cDays, .int cLin])), (aReS, .inl (cI, 4, .inl cS))]) (st' := [.int (m_X7_at 4 cS y2), .int y1]) (nw := 2) (n1 := 1) hC gX2_allSorrow_X7_at_n38 (List.mem_of_getElem? (i := 12) rfl) (List.mem_of_getElem? (i := 3) rfl) (List.mem_of_getElem? (i := 2) rfl) hdS_yX7_at (As := [.ref aReS, .int y2]) (rest := [.int y1]) (c_X7_at D cI aReS 4 cS y2 (by decide)) rfl ⟨by decide, by decide⟩ rfl [1] [0] [0, 1] [0] rfl rfl rfl rfl (by decide) rfl rfl (Nat.le_of_ble_eq_true rfl) dX2_allSorrow_15 rfl rfl ?_
      refine g_iadd hC dX2_allSorrow_18 rfl ?_
      refine g_istore_n (lv' := [(1, .int (y1 + (m_X7_at 4 cS y2))), (0, .ref aRE), (2, .int y2)]) hC dX2_allSorrow_19 rfl (by decide) rfl rfl ?_
      refine g_iinc (v := (y2 + 1)) (lv' := [(2, .int (y2 + 1)), (1, .int (y1 + (m_X7_at 4 cS y2))), (0, .ref aRE)]) hC dX2_allSorrow_20 2 rfl rfl (by decide) rfl rfl ?_
      refine g_goto (tgt := 4) hC dX2_allSorrow_23 (by decide) ?_
      refine g_sub [2, 1, 0] rfl ?_
      exact ih (y1 + (m_X7_at 4 cS y2)) (y2 + 1) (up_dec c_6 hm) (up_nn c_6 h0_y2) hres
set_option maxRecDepth 100000 in
set_option maxHeartbeats 4000000 in
theorem c_X2_allSorrow (D : va_G) (cI : ClassId) (aRE : Nat) (aReS : Nat) (aReH : Nat) (aReK : Nat) (aReO : Nat) (aReD : Nat) (cDays : Int32) (cLin : Int32) (cS : Nat → Int32) : MC yX2_allSorrow wsX2_allSorrow ({ frames := 1, cells := 0, slots := 0, locals := 21 } : Room) D [(cI, .int)] [.ref aRE] [(aRE, .inr (2, [.ref aReS, .ref aReH, .ref aReK, .ref aReO, .ref aReD, .int cDays, .int cLin])), (aReS, .inl (cI, 4, .inl cS))] (some (.int (m_X2_allSorrow cS))) [(aRE, .inr (2, [.ref aReS, .ref aReH, .ref aReK, .ref aReO, .ref aReD, .int cDays, .int cLin])), (aReS, .inl (cI, 4, .inl cS))] := by
  refine g_entry (by decide) rfl rfl rfl rfl (Nat.le_of_ble_eq_true rfl) (lv := [(0, .ref aRE)]) rfl ?_
  intro X hC hX
  obtain ⟨res, hres⟩ : ∃ z, z = (m_X2_allSorrow cS) := ⟨_, rfl⟩
  rw [← hres] at hX
  rw [m_X2_allSorrow] at hres
  refine g_iconst (v := 0) hC dX2_allSorrow_0 (by decide) rfl ?_
  refine g_istore_n (lv' := [(1, .int (0 : Int32)), (0, .ref aRE)]) hC dX2_allSorrow_1 rfl (by decide) rfl rfl ?_
  refine g_iconst (v := 0) hC dX2_allSorrow_2 (by decide) rfl ?_
  refine g_istore_n (lv' := [(2, .int (0 : Int32)), (1, .int (0 : Int32)), (0, .ref aRE)]) hC dX2_allSorrow_3 rfl (by decide) rfl rfl ?_
  refine g_sub [2, 1, 0] rfl ?_
  exact l_X2_allSorrow_4 D cI aRE aReS aReH aReK aReO aReD cDays cLin cS  hC hX (((4 : Int32).toInt - (0 : Int32).toInt).toNat + 1) (0 : Int32) (0 : Int32) (Nat.lt_succ_self _) (by decide) hres
def m_X2_dryingBy (kind : Int32) (hot : Int32) : (Int32) := (if kind = 0 then hot else (if kind = (1 : Int32) then (hot + (1 : Int32)) else ((2 : Int32) * (hot + (1 : Int32)))))
set_option maxRecDepth 100000 in
set_option maxHeartbeats 4000000 in
theorem c_X2_dryingBy (D : va_G) (cI : ClassId) (aTh : Nat) (kind : Int32) (hot : Int32) : MC yX2_dryingBy wsX2_dryingBy ({ frames := 0, cells := 0, slots := 0, locals := 0 } : Room) D [(cI, .int)] [.ref aTh, .int kind, .int hot] [] (some (.int (m_X2_dryingBy kind hot))) [] := by
  refine g_entry (by decide) rfl rfl rfl rfl (Nat.le_of_ble_eq_true rfl) (lv := [(0, .ref aTh), (1, .int kind), (2, .int hot)]) rfl ?_
  intro X hC hX
  obtain ⟨res, hres⟩ : ∃ z, z = (m_X2_dryingBy kind hot) := ⟨_, rfl⟩
  rw [← hres] at hX
  rw [m_X2_dryingBy] at hres
  refine g_iload_n hC dX2_dryingBy_0 rfl 1 rfl rfl ?_
  refine g_if_ne (tgt := 6) hC dX2_dryingBy_1 (by decide) rfl (fun c_1 => ?_) (fun c_1 => ?_)
  · rw [if_neg c_1] at hres
    refine g_iload_n hC dX2_dryingBy_6 rfl 2 rfl rfl ?_
    refine g_iconst (v := 1) hC dX2_dryingBy_7 (by decide) rfl ?_
    refine g_iadd hC dX2_dryingBy_8 rfl ?_
    refine g_istore_n (lv' := [(3, .int (hot + (1 : Int32))), (0, .ref aTh), (1, .int kind), (2, .int hot)]) hC dX2_dryingBy_9 rfl (by decide) rfl rfl ?_
    refine g_iload_n hC dX2_dryingBy_10 rfl 2 rfl rfl ?_
    refine g_iconst (v := 1) hC dX2_dryingBy_11 (by decide) rfl ?_
    have K_12 : ∀ vK : Int32, vK = (if kind = (1 : Int32) then (hot + (1 : Int32)) else ((2 : Int32) * (hot + (1 : Int32)))) → G X D 4 [] [(3, .int (hot + (1 : Int32))), (0, .ref aTh), (1, .int kind), (2, .int hot)] 22 (.int vK :: []) := by
      intro vK hvK
      subst hvK
      subst hres
      exact g_iret hC hX rfl dX2_dryingBy_22 rfl rfl
    refine g_icmp_ne (tgt := 19) hC dX2_dryingBy_12 (by decide) rfl (fun c_12 => ?_) (fun c_12 => ?_)
    · refine g_iconst (v := 2) hC dX2_dryingBy_19 (by decide) rfl ?_
      refine g_iload_n hC dX2_dryingBy_20 rfl 0 rfl rfl ?_
      refine g_imul hC dX2_dryingBy_21 rfl ?_
      exact K_12 _ (if_neg c_12).symm
    · refine g_iload_n hC dX2_dryingBy_15 rfl 0 rfl rfl ?_
      refine g_goto (tgt := 22) hC dX2_dryingBy_16 (by decide) ?_
      exact K_12 _ (if_pos c_12).symm
  · rw [if_pos c_1] at hres
    refine g_iload_n hC dX2_dryingBy_4 rfl 2 rfl rfl ?_
    subst hres
    exact g_iret hC hX rfl dX2_dryingBy_5 rfl rfl
theorem iw_X2_drying_RX2 : ∀ w ∈ wsX20, w ∈ wsX2_drying := fun _ h => List.mem_cons_of_mem _ (List.mem_append_right _ (h))
def m_X2_drying (cH : Nat → Int32) (cK : Nat → Int32) (l : Int32) (d : Int32) : (Int32) := (m_X2_dryingBy (m_X7_at 5 cK l) (m_X7_at 6 cH d))
set_option maxRecDepth 100000 in
set_option maxHeartbeats 4000000 in
theorem c_X2_drying (D : va_G) (cI : ClassId) (aRE : Nat) (aReS : Nat) (aReH : Nat) (aReK : Nat) (aReO : Nat) (aReD : Nat) (cDays : Int32) (cLin : Int32) (cH : Nat → Int32) (cK : Nat → Int32) (l : Int32) (d : Int32) : MC yX2_drying wsX2_drying ({ frames := 1, cells := 0, slots := 0, locals := 23 } : Room) D [(cI, .int)] [.ref aRE, .int l, .int d] [(aRE, .inr (2, [.ref aReS, .ref aReH, .ref aReK, .ref aReO, .ref aReD, .int cDays, .int cLin])), (aReH, .inl (cI, 6, .inl cH)), (aReK, .inl (cI, 5, .inl cK))] (some (.int (m_X2_drying cH cK l d))) [(aRE, .inr (2, [.ref aReS, .ref aReH, .ref aReK, .ref aReO, .ref aReD, .int cDays, .int cLin])), (aReH, .inl (cI, 6, .inl cH)), (aReK, .inl (cI, 5, .inl cK))] := by
  refine g_entry (by decide) rfl rfl rfl rfl (Nat.le_of_ble_eq_true rfl) (lv := [(0, .ref aRE), (1, .int l), (2, .int d)]) rfl ?_
  intro X hC hX
  obtain ⟨res, hres⟩ : ∃ z, z = (m_X2_drying cH cK l d) := ⟨_, rfl⟩
  rw [← hres] at hX
  rw [m_X2_drying] at hres
  refine g_aload_n hC dX2_drying_0 rfl 0 rfl rfl ?_
  refine g_aload_n hC dX2_drying_1 rfl 0 rfl rfl ?_
  refine g_get hC iw_X2_drying_RX2 0 rfl rfl 2 (by decide) (List.mem_of_getElem? (i := 1) rfl) rfl rfl dX2_drying_2 rfl ?_
  refine g_iload_n hC dX2_drying_5 rfl 1 rfl rfl ?_
  refine g_callN (ws' := [(aRE, .inr (2, [.ref aReS, .ref aReH, .ref aReK, .ref aReO, .ref aReD, .int cDays, .int cLin])), (aReH, .inl (cI, 6, .inl cH)), (aReK, .inl (cI, 5, .inl cK))]) (st' := [.int (m_X7_at 5 cK l), .ref aRE]) (nw := 3) (n1 := 1) hC gX2_drying_X7_at_n38 (List.mem_of_getElem? (i := 12) rfl) (List.mem_of_getElem? (i := 4) rfl) (List.mem_of_getElem? (i := 3) rfl) hdS_yX7_at (As := [.ref aReK, .int l]) (rest := [.ref aRE]) (c_X7_at D cI aReK 5 cK l (by decide)) rfl ⟨by decide, by decide⟩ rfl [2] [0, 1] [0, 1, 2] [0] rfl rfl rfl rfl (by decide) rfl rfl (Nat.le_of_ble_eq_true rfl) dX2_drying_6 rfl rfl ?_
  refine g_aload_n hC dX2_drying_9 rfl 0 rfl rfl ?_
  refine g_get hC iw_X2_drying_RX2 0 rfl rfl 1 (by decide) (List.mem_of_getElem? (i := 2) rfl) rfl rfl dX2_drying_10 rfl ?_
  refine g_iload_n hC dX2_drying_13 rfl 2 rfl rfl ?_
  refine g_callN (ws' := [(aRE, .inr (2, [.ref aReS, .ref aReH, .ref aReK, .ref aReO, .ref aReD, .int cDays, .int cLin])), (aReH, .inl (cI, 6, .inl cH)), (aReK, .inl (cI, 5, .inl cK))]) (st' := [.int (m_X7_at 6 cH d), .int (m_X7_at 5 cK l), .ref aRE]) (nw := 3) (n1 := 1) hC gX2_drying_X7_at_n38 (List.mem_of_getElem? (i := 12) rfl) (List.mem_of_getElem? (i := 4) rfl) (List.mem_of_getElem? (i := 3) rfl) hdS_yX7_at (As := [.ref aReH, .int d]) (rest := [.int (m_X7_at 5 cK l), .ref aRE]) (c_X7_at D cI aReH 6 cH d (by decide)) rfl ⟨by decide, by decide⟩ rfl [1] [0, 2] [0, 2, 1] [0] rfl rfl rfl rfl (by decide) rfl rfl (Nat.le_of_ble_eq_true rfl) dX2_drying_14 rfl rfl ?_
  refine g_callV (ws' := [(aRE, .inr (2, [.ref aReS, .ref aReH, .ref aReK, .ref aReO, .ref aReD, .int cDays, .int cLin])), (aReH, .inl (cI, 6, .inl cH)), (aReK, .inl (cI, 5, .inl cK))]) (st' := [.int (m_X2_dryingBy (m_X7_at 5 cK l) (m_X7_at 6 cH d))]) (nw := 3) (n1 := 0) hC gX2_drying_X2_dryingBy hdV_yX2_dryingBy 0 rfl rfl (As := [.int (m_X7_at 5 cK l), .int (m_X7_at 6 cH d)]) (rest := []) (c_X2_dryingBy D cI aRE (m_X7_at 5 cK l) (m_X7_at 6 cH d)) rfl ⟨by decide, by decide⟩ rfl [] [0, 1, 2] [0, 1, 2] [0] rfl rfl rfl rfl (by decide) rfl rfl (Nat.le_of_ble_eq_true rfl) dX2_drying_17 rfl rfl ?_
  subst hres
  exact g_iret hC hX rfl dX2_drying_20 rfl rfl
theorem iw_X2_dampOnCoolDays_RX2 : ∀ w ∈ wsX20, w ∈ wsX2_dampOnCoolDays := fun _ h => List.mem_cons_of_mem _ (List.mem_append_right _ (h))
def m_X2_dampOnCoolDays_13 : Nat → Int32 → (Nat → Int32) → (Nat → Int32) → Int32 → Int32 → Int32 → Int32 → Int32 → (Int32)
  | 0, _, _, _, _, _, _, _, _ => default
  | fu + 1, cDays, cH, cK, l, t, cool, y4, y5 => (if t ≤ y5 then y4 else (if cDays ≤ y5 then y4 else (if (if ((cool >>> (y5 &&& 31)) &&& (1 : Int32)) = (1 : Int32) then (1 : Int32) else (0 : Int32)) = 0 then (m_X2_dampOnCoolDays_13 fu cDays cH cK l t cool (if (0 : Int32) < (y4 - (m_X2_dryingBy (m_X7_at 5 cK l) (m_X7_at 6 cH y5))) then (y4 - (m_X2_dryingBy (m_X7_at 5 cK l) (m_X7_at 6 cH y5))) else (0 : Int32)) (y5 + 1)) else (m_X2_dampOnCoolDays_13 fu cDays cH cK l t cool (if (0 : Int32) < (y4 - (m_X2_dryingBy (m_X7_at 5 cK l) (0 : Int32))) then (y4 - (m_X2_dryingBy (m_X7_at 5 cK l) (0 : Int32))) else (0 : Int32)) (y5 + 1)))))
def m_X2_dampOnCoolDays (cDays : Int32) (cH : Nat → Int32) (cK : Nat → Int32) (cD : Nat → Int32) (l : Int32) (t : Int32) (cool : Int32) : (Int32) := (m_X2_dampOnCoolDays_13 ((t.toInt - (0 : Int32).toInt).toNat + 1) cDays cH cK l t cool (m_X7_at 5 cD l) (0 : Int32))
set_option maxRecDepth 100000 in
set_option maxHeartbeats 4000000 in
theorem l_X2_dampOnCoolDays_13 {X : gX} (D : va_G) (cI : ClassId) (aRE : Nat) (aReS : Nat) (aReH : Nat) (aReK : Nat) (aReO : Nat) (aReD : Nat) (cDays : Int32) (cLin : Int32) (cH : Nat → Int32) (cK : Nat → Int32) (cD : Nat → Int32) (l : Int32) (t : Int32) (cool : Int32) (hC : Cx X cX2_dampOnCoolDays 7 RX2 wsX2_dampOnCoolDays D [(cI, .int)] ({ frames := 1, cells := 0, slots := 0, locals := 23 } : Room) (some .int)) {res : (Int32)} (hX : Rx X D (some (.int res)) [(aRE, .inr (2, [.ref aReS, .ref aReH, .ref aReK, .ref aReO, .ref aReD, .int cDays, .int cLin])), (aReH, .inl (cI, 6, .inl cH)), (aReK, .inl (cI, 5, .inl cK)), (aReD, .inl (cI, 5, .inl cD))]) : ∀ (fu : Nat) (y4 : Int32) (y5 : Int32) (hm : (t.toInt - y5.toInt).toNat < fu) (h0_y5 : 0 ≤ y5.toInt) (hres : res = m_X2_dampOnCoolDays_13 fu cDays cH cK l t cool y4 y5), G X D 7 [(aRE, .inr (2, [.ref aReS, .ref aReH, .ref aReK, .ref aReO, .ref aReD, .int cDays, .int cLin])), (aReH, .inl (cI, 6, .inl cH)), (aReK, .inl (cI, 5, .inl cK)), (aReD, .inl (cI, 5, .inl cD))] [(0, .ref aRE), (1, .int l), (2, .int t), (3, .int cool), (4, .int y4), (5, .int y5)] 13 [] := by
  intro fu
  induction fu with
  | zero =>
    intro y4 y5 hm
    exact absurd hm (Nat.not_lt_zero _)
  | succ fu ih =>
    intro y4 y5 hm h0_y5 hres
    rw [m_X2_dampOnCoolDays_13] at hres
    refine g_iload hC dX2_dampOnCoolDays_13 5 rfl rfl ?_
    refine g_iload_n hC dX2_dampOnCoolDays_15 rfl 2 rfl rfl ?_
    refine g_icmp_ge (tgt := 90) hC dX2_dampOnCoolDays_16 (by decide) rfl (fun c_16 => ?_) (fun c_16 => ?_)
    · rw [if_pos c_16] at hres
      refine g_iload hC dX2_dampOnCoolDays_90 4 rfl rfl ?_
      subst hres
      exact g_iret hC hX rfl dX2_dampOnCoolDays_92 rfl rfl
    · rw [if_neg c_16] at hres
      refine g_iload hC dX2_dampOnCoolDays_19 5 rfl rfl ?_
      refine g_aload_n hC dX2_dampOnCoolDays_21 rfl 0 rfl rfl ?_
      refine g_get hC iw_X2_dampOnCoolDays_RX2 0 rfl rfl 5 (by decide) (List.mem_of_getElem? (i := 2) rfl) rfl rfl dX2_dampOnCoolDays_22 rfl ?_
      refine g_icmp_ge (tgt := 90) hC dX2_dampOnCoolDays_25 (by decide) rfl (fun c_25 => ?_) (fun c_25 => ?_)
      · rw [if_pos c_25] at hres
        refine g_iload hC dX2_dampOnCoolDays_90 4 rfl rfl ?_
        subst hres
        exact g_iret hC hX rfl dX2_dampOnCoolDays_92 rfl rfl
      · rw [if_neg c_25] at hres
        refine g_iload_n hC dX2_dampOnCoolDays_28 rfl 3 rfl rfl ?_
        refine g_iload hC dX2_dampOnCoolDays_29 5 rfl rfl ?_
        refine g_ishr hC dX2_dampOnCoolDays_31 rfl ?_
        refine g_iconst (v := 1) hC dX2_dampOnCoolDays_32 (by decide) rfl ?_
        refine g_iand hC dX2_dampOnCoolDays_33 rfl ?_
        refine g_iconst (v := 1) hC dX2_dampOnCoolDays_34 (by decide) rfl ?_
        have K_35 : ∀ vK : Int32, vK = (if ((cool >>> (y5 &&& 31)) &&& (1 : Int32)) = (1 : Int32) then (1 : Int32) else (0 : Int32)) → G X D 7 [(aRE, .inr (2, [.ref aReS, .ref aReH, .ref aReK, .ref aReO, .ref aReD, .int cDays, .int cLin])), (aReH, .inl (cI, 6, .inl cH)), (aReK, .inl (cI, 5, .inl cK)), (aReD, .inl (cI, 5, .inl cD))] [(0, .ref aRE), (1, .int l), (2, .int t), (3, .int cool), (4, .int y4), (5, .int y5)] 43 (.int vK :: []) := by
          intro vK hvK
          subst hvK
          refine g_istore (lv' := [(6, .int (if ((cool >>> (y5 &&& 31)) &&& (1 : Int32)) = (1 : Int32) then (1 : Int32) else (0 : Int32))), (0, .ref aRE), (1, .int l), (2, .int t), (3, .int cool), (4, .int y4), (5, .int y5)]) hC dX2_dampOnCoolDays_43 (by decide) rfl rfl ?_
          refine g_iconst (v := 0) hC dX2_dampOnCoolDays_45 (by decide) rfl ?_
          refine g_iload hC dX2_dampOnCoolDays_46 5 rfl rfl ?_
          refine g_aload_n hC dX2_dampOnCoolDays_48 rfl 1 rfl rfl ?_
          refine g_aload_n hC dX2_dampOnCoolDays_49 rfl 1 rfl rfl ?_
          refine g_get hC iw_X2_dampOnCoolDays_RX2 0 rfl rfl 2 (by decide) (List.mem_of_getElem? (i := 3) rfl) rfl rfl dX2_dampOnCoolDays_50 rfl ?_
          refine g_iload_n hC dX2_dampOnCoolDays_53 rfl 2 rfl rfl ?_
          refine g_callN (ws' := [(aRE, .inr (2, [.ref aReS, .ref aReH, .ref aReK, .ref aReO, .ref aReD, .int cDays, .int cLin])), (aReH, .inl (cI, 6, .inl cH)), (aReK, .inl (cI, 5, .inl cK)), (aReD, .inl (cI, 5, .inl cD))]) (st' := [.int (m_X7_at 5 cK l), .ref aRE, .int y4, .int (0 : Int32)]) (nw := 4) (n1 := 1) hC gX2_dampOnCoolDays_X7_at_n38 (List.mem_of_getElem? (i := 12) rfl) (List.mem_of_getElem? (i := 10) rfl) (List.mem_of_getElem? (i := 9) rfl) hdS_yX7_at (As := [.ref aReK, .int l]) (rest := [.ref aRE, .int y4, .int (0 : Int32)]) (c_X7_at D cI aReK 5 cK l (by decide)) rfl ⟨by decide, by decide⟩ rfl [2] [0, 1, 3] [0, 1, 3, 2] [0] rfl rfl rfl rfl (by decide) rfl rfl (Nat.le_of_ble_eq_true rfl) dX2_dampOnCoolDays_54 rfl rfl ?_
          refine g_iload hC dX2_dampOnCoolDays_57 0 rfl rfl ?_
          refine g_if_eq (tgt := 66) hC dX2_dampOnCoolDays_59 (by decide) rfl (fun c_59 => ?_) (fun c_59 => ?_)
          · rw [if_pos c_59] at hres
            refine g_aload_n hC dX2_dampOnCoolDays_66 rfl 1 rfl rfl ?_
            refine g_get hC iw_X2_dampOnCoolDays_RX2 0 rfl rfl 1 (by decide) (List.mem_of_getElem? (i := 4) rfl) rfl rfl dX2_dampOnCoolDays_67 rfl ?_
            refine g_iload hC dX2_dampOnCoolDays_70 6 rfl rfl ?_
            refine g_callN (ws' := [(aRE, .inr (2, [.ref aReS, .ref aReH, .ref aReK, .ref aReO, .ref aReD, .int cDays, .int cLin])), (aReH, .inl (cI, 6, .inl cH)), (aReK, .inl (cI, 5, .inl cK)), (aReD, .inl (cI, 5, .inl cD))]) (st' := [.int (m_X7_at 6 cH y5), .int (m_X7_at 5 cK l), .ref aRE, .int y4, .int (0 : Int32)]) (nw := 4) (n1 := 1) hC gX2_dampOnCoolDays_X7_at_n38 (List.mem_of_getElem? (i := 12) rfl) (List.mem_of_getElem? (i := 10) rfl) (List.mem_of_getElem? (i := 9) rfl) hdS_yX7_at (As := [.ref aReH, .int y5]) (rest := [.int (m_X7_at 5 cK l), .ref aRE, .int y4, .int (0 : Int32)]) (c_X7_at D cI aReH 6 cH y5 (by decide)) rfl ⟨by decide, by decide⟩ rfl [1] [0, 2, 3] [0, 3, 1, 2] [0] rfl rfl rfl rfl (by decide) rfl rfl (Nat.le_of_ble_eq_true rfl) dX2_dampOnCoolDays_72 rfl rfl ?_
            refine g_callV (ws' := [(aRE, .inr (2, [.ref aReS, .ref aReH, .ref aReK, .ref aReO, .ref aReD, .int cDays, .int cLin])), (aReH, .inl (cI, 6, .inl cH)), (aReK, .inl (cI, 5, .inl cK)), (aReD, .inl (cI, 5, .inl cD))]) (st' := [.int (m_X2_dryingBy (m_X7_at 5 cK l) (m_X7_at 6 cH y5)), .int y4, .int (0 : Int32)]) (nw := 4) (n1 := 0) hC gX2_dampOnCoolDays_X2_dryingBy hdV_yX2_dryingBy 0 rfl rfl (As := [.int (m_X7_at 5 cK l), .int (m_X7_at 6 cH y5)]) (rest := [.int y4, .int (0 : Int32)]) (c_X2_dryingBy D cI aRE (m_X7_at 5 cK l) (m_X7_at 6 cH y5)) rfl ⟨by decide, by decide⟩ rfl [] [0, 1, 2, 3] [0, 1, 2, 3] [0] rfl rfl rfl rfl (by decide) rfl rfl (Nat.le_of_ble_eq_true rfl) dX2_dampOnCoolDays_75 rfl rfl ?_
            refine g_isub hC dX2_dampOnCoolDays_78 rfl ?_
            refine g_mmax hC (List.mem_of_getElem? (i := 5) rfl) (List.mem_of_getElem? (i := 6) rfl) (List.mem_of_getElem? (i := 7) rfl) (List.mem_of_getElem? (i := 8) rfl) (by decide) (Nat.le_of_ble_eq_true rfl) dX2_dampOnCoolDays_79 rfl ?_
            refine g_istore (lv' := [(4, .int (if (0 : Int32) < (y4 - (m_X2_dryingBy (m_X7_at 5 cK l) (m_X7_at 6 cH y5))) then (y4 - (m_X2_dryingBy (m_X7_at 5 cK l) (m_X7_at 6 cH y5))) else (0 : Int32))), (6, .int (if ((cool >>> (y5 &&& 31)) &&& (1 : Int32)) = (1 : Int32) then (1 : Int32) else (0 : Int32))), (0, .ref aRE), (1, .int l), (2, .int t), (3, .int cool), (5, .int y5)]) hC dX2_dampOnCoolDays_82 (by decide) rfl rfl ?_
            refine g_iinc (v := (y5 + 1)) (lv' := [(5, .int (y5 + 1)), (4, .int (if (0 : Int32) < (y4 - (m_X2_dryingBy (m_X7_at 5 cK l) (m_X7_at 6 cH y5))) then (y4 - (m_X2_dryingBy (m_X7_at 5 cK l) (m_X7_at 6 cH y5))) else (0 : Int32))), (6, .int (if ((cool >>> (y5 &&& 31)) &&& (1 : Int32)) = (1 : Int32) then (1 : Int32) else (0 : Int32))), (0, .ref aRE), (1, .int l), (2, .int t), (3, .int cool)]) hC dX2_dampOnCoolDays_84 6 rfl rfl (by decide) rfl rfl ?_
            refine g_goto (tgt := 13) hC dX2_dampOnCoolDays_87 (by decide) ?_
            refine g_sub [3, 4, 5, 6, 1, 0] rfl ?_
            exact ih (if (0 : Int32) < (y4 - (m_X2_dryingBy (m_X7_at 5 cK l) (m_X7_at 6 cH y5))) then (y4 - (m_X2_dryingBy (m_X7_at 5 cK l) (m_X7_at 6 cH y5))) else (0 : Int32)) (y5 + 1) (up_dec c_16 hm) (up_nn c_16 h0_y5) hres
          · rw [if_neg c_59] at hres
            refine g_iconst (v := 0) hC dX2_dampOnCoolDays_62 (by decide) rfl ?_
            refine g_goto (tgt := 75) hC dX2_dampOnCoolDays_63 (by decide) ?_
            refine g_callV (ws' := [(aRE, .inr (2, [.ref aReS, .ref aReH, .ref aReK, .ref aReO, .ref aReD, .int cDays, .int cLin])), (aReH, .inl (cI, 6, .inl cH)), (aReK, .inl (cI, 5, .inl cK)), (aReD, .inl (cI, 5, .inl cD))]) (st' := [.int (m_X2_dryingBy (m_X7_at 5 cK l) (0 : Int32)), .int y4, .int (0 : Int32)]) (nw := 4) (n1 := 0) hC gX2_dampOnCoolDays_X2_dryingBy hdV_yX2_dryingBy 0 rfl rfl (As := [.int (m_X7_at 5 cK l), .int (0 : Int32)]) (rest := [.int y4, .int (0 : Int32)]) (c_X2_dryingBy D cI aRE (m_X7_at 5 cK l) (0 : Int32)) rfl ⟨by decide, by decide⟩ rfl [] [0, 1, 2, 3] [0, 1, 2, 3] [0] rfl rfl rfl rfl (by decide) rfl rfl (Nat.le_of_ble_eq_true rfl) dX2_dampOnCoolDays_75 rfl rfl ?_
            refine g_isub hC dX2_dampOnCoolDays_78 rfl ?_
            refine g_mmax hC (List.mem_of_getElem? (i := 5) rfl) (List.mem_of_getElem? (i := 6) rfl) (List.mem_of_getElem? (i := 7) rfl) (List.mem_of_getElem? (i := 8) rfl) (by decide) (Nat.le_of_ble_eq_true rfl) dX2_dampOnCoolDays_79 rfl ?_
            refine g_istore (lv' := [(4, .int (if (0 : Int32) < (y4 - (m_X2_dryingBy (m_X7_at 5 cK l) (0 : Int32))) then (y4 - (m_X2_dryingBy (m_X7_at 5 cK l) (0 : Int32))) else (0 : Int32))), (6, .int (if ((cool >>> (y5 &&& 31)) &&& (1 : Int32)) = (1 : Int32) then (1 : Int32) else (0 : Int32))), (0, .ref aRE), (1, .int l), (2, .int t), (3, .int cool), (5, .int y5)]) hC dX2_dampOnCoolDays_82 (by decide) rfl rfl ?_
            refine g_iinc (v := (y5 + 1)) (lv' := [(5, .int (y5 + 1)), (4, .int (if (0 : Int32) < (y4 - (m_X2_dryingBy (m_X7_at 5 cK l) (0 : Int32))) then (y4 - (m_X2_dryingBy (m_X7_at 5 cK l) (0 : Int32))) else (0 : Int32))), (6, .int (if ((cool >>> (y5 &&& 31)) &&& (1 : Int32)) = (1 : Int32) then (1 : Int32) else (0 : Int32))), (0, .ref aRE), (1, .int l), (2, .int t), (3, .int cool)]) hC dX2_dampOnCoolDays_84 6 rfl rfl (by decide) rfl rfl ?_
            refine g_goto (tgt := 13) hC dX2_dampOnCoolDays_87 (by decide) ?_
            refine g_sub [3, 4, 5, 6, 1, 0] rfl ?_
            exact ih (if (0 : Int32) < (y4 - (m_X2_dryingBy (m_X7_at 5 cK l) (0 : Int32))) then (y4 - (m_X2_dryingBy (m_X7_at 5 cK l) (0 : Int32))) else (0 : Int32)) (y5 + 1) (up_dec c_16 hm) (up_nn c_16 h0_y5) hres
        refine g_icmp_ne (tgt := 42) hC dX2_dampOnCoolDays_35 (by decide) rfl (fun c_35 => ?_) (fun c_35 => ?_)
        · refine g_iconst (v := 0) hC dX2_dampOnCoolDays_42 (by decide) rfl ?_
          exact K_35 _ (if_neg c_35).symm
        · refine g_iconst (v := 1) hC dX2_dampOnCoolDays_38 (by decide) rfl ?_
          refine g_goto (tgt := 43) hC dX2_dampOnCoolDays_39 (by decide) ?_
          exact K_35 _ (if_pos c_35).symm
set_option maxRecDepth 100000 in
set_option maxHeartbeats 4000000 in
theorem c_X2_dampOnCoolDays (D : va_G) (cI : ClassId) (aRE : Nat) (aReS : Nat) (aReH : Nat) (aReK : Nat) (aReO : Nat) (aReD : Nat) (cDays : Int32) (cLin : Int32) (cH : Nat → Int32) (cK : Nat → Int32) (cD : Nat → Int32) (l : Int32) (t : Int32) (cool : Int32) : MC yX2_dampOnCoolDays wsX2_dampOnCoolDays ({ frames := 1, cells := 0, slots := 0, locals := 23 } : Room) D [(cI, .int)] [.ref aRE, .int l, .int t, .int cool] [(aRE, .inr (2, [.ref aReS, .ref aReH, .ref aReK, .ref aReO, .ref aReD, .int cDays, .int cLin])), (aReH, .inl (cI, 6, .inl cH)), (aReK, .inl (cI, 5, .inl cK)), (aReD, .inl (cI, 5, .inl cD))] (some (.int (m_X2_dampOnCoolDays cDays cH cK cD l t cool))) [(aRE, .inr (2, [.ref aReS, .ref aReH, .ref aReK, .ref aReO, .ref aReD, .int cDays, .int cLin])), (aReH, .inl (cI, 6, .inl cH)), (aReK, .inl (cI, 5, .inl cK)), (aReD, .inl (cI, 5, .inl cD))] := by
  refine g_entry (by decide) rfl rfl rfl rfl (Nat.le_of_ble_eq_true rfl) (lv := [(0, .ref aRE), (1, .int l), (2, .int t), (3, .int cool)]) rfl ?_
  intro X hC hX
  obtain ⟨res, hres⟩ : ∃ z, z = (m_X2_dampOnCoolDays cDays cH cK cD l t cool) := ⟨_, rfl⟩
  rw [← hres] at hX
  rw [m_X2_dampOnCoolDays] at hres
  refine g_aload_n hC dX2_dampOnCoolDays_0 rfl 0 rfl rfl ?_
  refine g_get hC iw_X2_dampOnCoolDays_RX2 0 rfl rfl 4 (by decide) (List.mem_of_getElem? (i := 1) rfl) rfl rfl dX2_dampOnCoolDays_1 rfl ?_
  refine g_iload_n hC dX2_dampOnCoolDays_4 rfl 1 rfl rfl ?_
  refine g_callN (ws' := [(aRE, .inr (2, [.ref aReS, .ref aReH, .ref aReK, .ref aReO, .ref aReD, .int cDays, .int cLin])), (aReH, .inl (cI, 6, .inl cH)), (aReK, .inl (cI, 5, .inl cK)), (aReD, .inl (cI, 5, .inl cD))]) (st' := [.int (m_X7_at 5 cD l)]) (nw := 4) (n1 := 1) hC gX2_dampOnCoolDays_X7_at_n38 (List.mem_of_getElem? (i := 12) rfl) (List.mem_of_getElem? (i := 10) rfl) (List.mem_of_getElem? (i := 9) rfl) hdS_yX7_at (As := [.ref aReD, .int l]) (rest := []) (c_X7_at D cI aReD 5 cD l (by decide)) rfl ⟨by decide, by decide⟩ rfl [3] [0, 1, 2] [0, 1, 2, 3] [0] rfl rfl rfl rfl (by decide) rfl rfl (Nat.le_of_ble_eq_true rfl) dX2_dampOnCoolDays_5 rfl rfl ?_
  refine g_istore (lv' := [(4, .int (m_X7_at 5 cD l)), (0, .ref aRE), (1, .int l), (2, .int t), (3, .int cool)]) hC dX2_dampOnCoolDays_8 (by decide) rfl rfl ?_
  refine g_iconst (v := 0) hC dX2_dampOnCoolDays_10 (by decide) rfl ?_
  refine g_istore (lv' := [(5, .int (0 : Int32)), (4, .int (m_X7_at 5 cD l)), (0, .ref aRE), (1, .int l), (2, .int t), (3, .int cool)]) hC dX2_dampOnCoolDays_11 (by decide) rfl rfl ?_
  refine g_sub [2, 3, 4, 5, 1, 0] rfl ?_
  exact l_X2_dampOnCoolDays_13 D cI aRE aReS aReH aReK aReO aReD cDays cLin cH cK cD l t cool  hC hX ((t.toInt - (0 : Int32).toInt).toNat + 1) (m_X7_at 5 cD l) (0 : Int32) (Nat.lt_succ_self _) (by decide) hres
def m_X2_dampBehind (cDays : Int32) (cH : Nat → Int32) (cK : Nat → Int32) (cD : Nat → Int32) (l : Int32) (t : Int32) : (Int32) := (m_X2_dampOnCoolDays cDays cH cK cD l t (0 : Int32))
set_option maxRecDepth 100000 in
set_option maxHeartbeats 4000000 in
theorem c_X2_dampBehind (D : va_G) (cI : ClassId) (aRE : Nat) (aReS : Nat) (aReH : Nat) (aReK : Nat) (aReO : Nat) (aReD : Nat) (cDays : Int32) (cLin : Int32) (cH : Nat → Int32) (cK : Nat → Int32) (cD : Nat → Int32) (l : Int32) (t : Int32) : MC yX2_dampBehind wsX2_dampBehind ({ frames := 2, cells := 0, slots := 0, locals := 49 } : Room) D [(cI, .int)] [.ref aRE, .int l, .int t] [(aRE, .inr (2, [.ref aReS, .ref aReH, .ref aReK, .ref aReO, .ref aReD, .int cDays, .int cLin])), (aReH, .inl (cI, 6, .inl cH)), (aReK, .inl (cI, 5, .inl cK)), (aReD, .inl (cI, 5, .inl cD))] (some (.int (m_X2_dampBehind cDays cH cK cD l t))) [(aRE, .inr (2, [.ref aReS, .ref aReH, .ref aReK, .ref aReO, .ref aReD, .int cDays, .int cLin])), (aReH, .inl (cI, 6, .inl cH)), (aReK, .inl (cI, 5, .inl cK)), (aReD, .inl (cI, 5, .inl cD))] := by
  refine g_entry (by decide) rfl rfl rfl rfl (Nat.le_of_ble_eq_true rfl) (lv := [(0, .ref aRE), (1, .int l), (2, .int t)]) rfl ?_
  intro X hC hX
  obtain ⟨res, hres⟩ : ∃ z, z = (m_X2_dampBehind cDays cH cK cD l t) := ⟨_, rfl⟩
  rw [← hres] at hX
  rw [m_X2_dampBehind] at hres
  refine g_aload_n hC dX2_dampBehind_0 rfl 0 rfl rfl ?_
  refine g_iload_n hC dX2_dampBehind_1 rfl 1 rfl rfl ?_
  refine g_iload_n hC dX2_dampBehind_2 rfl 2 rfl rfl ?_
  refine g_iconst (v := 0) hC dX2_dampBehind_3 (by decide) rfl ?_
  refine g_callV (ws' := [(aRE, .inr (2, [.ref aReS, .ref aReH, .ref aReK, .ref aReO, .ref aReD, .int cDays, .int cLin])), (aReH, .inl (cI, 6, .inl cH)), (aReK, .inl (cI, 5, .inl cK)), (aReD, .inl (cI, 5, .inl cD))]) (st' := [.int (m_X2_dampOnCoolDays cDays cH cK cD l t (0 : Int32))]) (nw := 4) (n1 := 4) hC gX2_dampBehind_X2_dampOnCoolDays hdV_yX2_dampOnCoolDays 0 rfl rfl (As := [.int l, .int t, .int (0 : Int32)]) (rest := []) (c_X2_dampOnCoolDays D cI aRE aReS aReH aReK aReO aReD cDays cLin cH cK cD l t (0 : Int32)) rfl ⟨by decide, by decide⟩ rfl [0, 1, 2, 3] [] [0, 1, 2, 3] [0] rfl rfl rfl rfl (by decide) rfl rfl (Nat.le_of_ble_eq_true rfl) dX2_dampBehind_4 rfl rfl ?_
  subst hres
  exact g_iret hC hX rfl dX2_dampBehind_7 rfl rfl
theorem iw_X2_lawsBehind_RX2 : ∀ w ∈ wsX20, w ∈ wsX2_lawsBehind := fun _ h => List.mem_cons_of_mem _ (List.mem_append_right _ (h))
def m_X2_lawsBehind_4 : Nat → Int32 → Int32 → (Nat → Int32) → (Nat → Int32) → (Nat → Int32) → Int32 → Int32 → Int32 → (Int32)
  | 0, _, _, _, _, _, _, _, _ => default
  | fu + 1, cDays, cLin, cH, cK, cD, t, y2, y3 => (if cLin ≤ y3 then y2 else (if (m_X2_dampBehind cDays cH cK cD y3 t) ≤ 0 then (m_X2_lawsBehind_4 fu cDays cLin cH cK cD t y2 (y3 + 1)) else (m_X2_lawsBehind_4 fu cDays cLin cH cK cD t (y2 ||| ((1 : Int32) <<< (y3 &&& 31))) (y3 + 1))))
def m_X2_lawsBehind (cDays : Int32) (cLin : Int32) (cH : Nat → Int32) (cK : Nat → Int32) (cD : Nat → Int32) (t : Int32) : (Int32) := (m_X2_lawsBehind_4 ((cLin.toInt - (0 : Int32).toInt).toNat + 1) cDays cLin cH cK cD t (0 : Int32) (0 : Int32))
set_option maxRecDepth 100000 in
set_option maxHeartbeats 4000000 in
theorem l_X2_lawsBehind_4 {X : gX} (D : va_G) (cI : ClassId) (aRE : Nat) (aReS : Nat) (aReH : Nat) (aReK : Nat) (aReO : Nat) (aReD : Nat) (cDays : Int32) (cLin : Int32) (cH : Nat → Int32) (cK : Nat → Int32) (cD : Nat → Int32) (t : Int32) (hC : Cx X cX2_lawsBehind 4 RX2 wsX2_lawsBehind D [(cI, .int)] ({ frames := 3, cells := 0, slots := 0, locals := 71 } : Room) (some .int)) {res : (Int32)} (hX : Rx X D (some (.int res)) [(aRE, .inr (2, [.ref aReS, .ref aReH, .ref aReK, .ref aReO, .ref aReD, .int cDays, .int cLin])), (aReH, .inl (cI, 6, .inl cH)), (aReK, .inl (cI, 5, .inl cK)), (aReD, .inl (cI, 5, .inl cD))]) : ∀ (fu : Nat) (y2 : Int32) (y3 : Int32) (hm : (cLin.toInt - y3.toInt).toNat < fu) (h0_y3 : 0 ≤ y3.toInt) (hres : res = m_X2_lawsBehind_4 fu cDays cLin cH cK cD t y2 y3), G X D 4 [(aRE, .inr (2, [.ref aReS, .ref aReH, .ref aReK, .ref aReO, .ref aReD, .int cDays, .int cLin])), (aReH, .inl (cI, 6, .inl cH)), (aReK, .inl (cI, 5, .inl cK)), (aReD, .inl (cI, 5, .inl cD))] [(0, .ref aRE), (1, .int t), (2, .int y2), (3, .int y3)] 4 [] := by
  intro fu
  induction fu with
  | zero =>
    intro y2 y3 hm
    exact absurd hm (Nat.not_lt_zero _)
  | succ fu ih =>
    intro y2 y3 hm h0_y3 hres
    rw [m_X2_lawsBehind_4] at hres
    refine g_iload_n hC dX2_lawsBehind_4 rfl 3 rfl rfl ?_
    refine g_aload_n hC dX2_lawsBehind_5 rfl 0 rfl rfl ?_
    refine g_get hC iw_X2_lawsBehind_RX2 0 rfl rfl 6 (by decide) (List.mem_of_getElem? (i := 1) rfl) rfl rfl dX2_lawsBehind_6 rfl ?_
    refine g_icmp_ge (tgt := 33) hC dX2_lawsBehind_9 (by decide) rfl (fun c_9 => ?_) (fun c_9 => ?_)
    · rw [if_pos c_9] at hres
      refine g_iload_n hC dX2_lawsBehind_33 rfl 2 rfl rfl ?_
      subst hres
      exact g_iret hC hX rfl dX2_lawsBehind_34 rfl rfl
    · rw [if_neg c_9] at hres
      refine g_aload_n hC dX2_lawsBehind_12 rfl 0 rfl rfl ?_
      refine g_iload_n hC dX2_lawsBehind_13 rfl 3 rfl rfl ?_
      refine g_iload_n hC dX2_lawsBehind_14 rfl 1 rfl rfl ?_
      refine g_callV (ws' := [(aRE, .inr (2, [.ref aReS, .ref aReH, .ref aReK, .ref aReO, .ref aReD, .int cDays, .int cLin])), (aReH, .inl (cI, 6, .inl cH)), (aReK, .inl (cI, 5, .inl cK)), (aReD, .inl (cI, 5, .inl cD))]) (st' := [.int (m_X2_dampBehind cDays cH cK cD y3 t)]) (nw := 4) (n1 := 4) hC gX2_lawsBehind_X2_dampBehind hdV_yX2_dampBehind 0 rfl rfl (As := [.int y3, .int t]) (rest := []) (c_X2_dampBehind D cI aRE aReS aReH aReK aReO aReD cDays cLin cH cK cD y3 t) rfl ⟨by decide, by decide⟩ rfl [0, 1, 2, 3] [] [0, 1, 2, 3] [0] rfl rfl rfl rfl (by decide) rfl rfl (Nat.le_of_ble_eq_true rfl) dX2_lawsBehind_15 rfl rfl ?_
      refine g_if_le (tgt := 27) hC dX2_lawsBehind_18 (by decide) rfl (fun c_18 => ?_) (fun c_18 => ?_)
      · rw [if_pos c_18] at hres
        refine g_iinc (v := (y3 + 1)) (lv' := [(3, .int (y3 + 1)), (0, .ref aRE), (1, .int t), (2, .int y2)]) hC dX2_lawsBehind_27 3 rfl rfl (by decide) rfl rfl ?_
        refine g_goto (tgt := 4) hC dX2_lawsBehind_30 (by decide) ?_
        refine g_sub [1, 2, 3, 0] rfl ?_
        exact ih y2 (y3 + 1) (up_dec c_9 hm) (up_nn c_9 h0_y3) hres
      · rw [if_neg c_18] at hres
        refine g_iload_n hC dX2_lawsBehind_21 rfl 2 rfl rfl ?_
        refine g_iconst (v := 1) hC dX2_lawsBehind_22 (by decide) rfl ?_
        refine g_iload_n hC dX2_lawsBehind_23 rfl 3 rfl rfl ?_
        refine g_ishl hC dX2_lawsBehind_24 rfl ?_
        refine g_ior hC dX2_lawsBehind_25 rfl ?_
        refine g_istore_n (lv' := [(2, .int (y2 ||| ((1 : Int32) <<< (y3 &&& 31)))), (0, .ref aRE), (1, .int t), (3, .int y3)]) hC dX2_lawsBehind_26 rfl (by decide) rfl rfl ?_
        refine g_iinc (v := (y3 + 1)) (lv' := [(3, .int (y3 + 1)), (2, .int (y2 ||| ((1 : Int32) <<< (y3 &&& 31)))), (0, .ref aRE), (1, .int t)]) hC dX2_lawsBehind_27 3 rfl rfl (by decide) rfl rfl ?_
        refine g_goto (tgt := 4) hC dX2_lawsBehind_30 (by decide) ?_
        refine g_sub [2, 3, 1, 0] rfl ?_
        exact ih (y2 ||| ((1 : Int32) <<< (y3 &&& 31))) (y3 + 1) (up_dec c_9 hm) (up_nn c_9 h0_y3) hres
set_option maxRecDepth 100000 in
set_option maxHeartbeats 4000000 in
theorem c_X2_lawsBehind (D : va_G) (cI : ClassId) (aRE : Nat) (aReS : Nat) (aReH : Nat) (aReK : Nat) (aReO : Nat) (aReD : Nat) (cDays : Int32) (cLin : Int32) (cH : Nat → Int32) (cK : Nat → Int32) (cD : Nat → Int32) (t : Int32) : MC yX2_lawsBehind wsX2_lawsBehind ({ frames := 3, cells := 0, slots := 0, locals := 71 } : Room) D [(cI, .int)] [.ref aRE, .int t] [(aRE, .inr (2, [.ref aReS, .ref aReH, .ref aReK, .ref aReO, .ref aReD, .int cDays, .int cLin])), (aReH, .inl (cI, 6, .inl cH)), (aReK, .inl (cI, 5, .inl cK)), (aReD, .inl (cI, 5, .inl cD))] (some (.int (m_X2_lawsBehind cDays cLin cH cK cD t))) [(aRE, .inr (2, [.ref aReS, .ref aReH, .ref aReK, .ref aReO, .ref aReD, .int cDays, .int cLin])), (aReH, .inl (cI, 6, .inl cH)), (aReK, .inl (cI, 5, .inl cK)), (aReD, .inl (cI, 5, .inl cD))] := by
  refine g_entry (by decide) rfl rfl rfl rfl (Nat.le_of_ble_eq_true rfl) (lv := [(0, .ref aRE), (1, .int t)]) rfl ?_
  intro X hC hX
  obtain ⟨res, hres⟩ : ∃ z, z = (m_X2_lawsBehind cDays cLin cH cK cD t) := ⟨_, rfl⟩
  rw [← hres] at hX
  rw [m_X2_lawsBehind] at hres
  refine g_iconst (v := 0) hC dX2_lawsBehind_0 (by decide) rfl ?_
  refine g_istore_n (lv' := [(2, .int (0 : Int32)), (0, .ref aRE), (1, .int t)]) hC dX2_lawsBehind_1 rfl (by decide) rfl rfl ?_
  refine g_iconst (v := 0) hC dX2_lawsBehind_2 (by decide) rfl ?_
  refine g_istore_n (lv' := [(3, .int (0 : Int32)), (2, .int (0 : Int32)), (0, .ref aRE), (1, .int t)]) hC dX2_lawsBehind_3 rfl (by decide) rfl rfl ?_
  refine g_sub [2, 3, 1, 0] rfl ?_
  exact l_X2_lawsBehind_4 D cI aRE aReS aReH aReK aReO aReD cDays cLin cH cK cD t  hC hX ((cLin.toInt - (0 : Int32).toInt).toNat + 1) (0 : Int32) (0 : Int32) (Nat.lt_succ_self _) (by decide) hres
theorem iw_X2_mostHeat_RX2 : ∀ w ∈ wsX20, w ∈ wsX2_mostHeat := fun _ h => List.mem_cons_of_mem _ (List.mem_append_right _ (h))
def m_X2_mostHeat_16 : Nat → Int32 → (Nat → Int32) → (Nat → Int32) → (Nat → Int32) → Int32 → Int32 → Int32 → Int32 → (Nat → Int32) → (Int32 × (Nat → Int32))
  | 0, _, _, _, _, _, _, _, _, _ => default
  | fu + 1, cDays, cH, cK, cD, l, d, y4, y5, z_cH => (if (10 : Int32) ≤ y5 then (y4, (m_X7_set 6 z_cH d (m_X7_at 6 cH d))) else (if (m_X2_dampBehind cDays (m_X7_set 6 z_cH d y5) cK cD l cDays) ≤ 0 then (m_X2_mostHeat_16 fu cDays cH cK cD l d y4 (y5 + 1) (m_X7_set 6 z_cH d y5)) else (m_X2_mostHeat_16 fu cDays cH cK cD l d y5 (y5 + 1) (m_X7_set 6 z_cH d y5))))
def m_X2_mostHeat (cDays : Int32) (cH : Nat → Int32) (cK : Nat → Int32) (cD : Nat → Int32) (l : Int32) (d : Int32) : (Int32 × (Nat → Int32)) := (m_X2_mostHeat_16 (((10 : Int32).toInt - (0 : Int32).toInt).toNat + 1) cDays cH cK cD l d (-9 : Int32) (0 : Int32) cH)
set_option maxRecDepth 100000 in
set_option maxHeartbeats 4000000 in
theorem l_X2_mostHeat_16 {X : gX} (D : va_G) (cI : ClassId) (aRE : Nat) (aReS : Nat) (aReH : Nat) (aReK : Nat) (aReO : Nat) (aReD : Nat) (cDays : Int32) (cLin : Int32) (cH : Nat → Int32) (cK : Nat → Int32) (cD : Nat → Int32) (l : Int32) (d : Int32) (hC : Cx X cX2_mostHeat 6 RX2 wsX2_mostHeat D [(cI, .int)] ({ frames := 3, cells := 0, slots := 0, locals := 71 } : Room) (some .int)) {res : (Int32 × (Nat → Int32))} (hX : Rx X D (some (.int res.1)) [(aRE, .inr (2, [.ref aReS, .ref aReH, .ref aReK, .ref aReO, .ref aReD, .int cDays, .int cLin])), (aReH, .inl (cI, 6, .inl res.2)), (aReK, .inl (cI, 5, .inl cK)), (aReD, .inl (cI, 5, .inl cD))]) : ∀ (fu : Nat) (y4 : Int32) (y5 : Int32) (z_cH : Nat → Int32) (hm : ((10 : Int32).toInt - y5.toInt).toNat < fu) (h0_y5 : 0 ≤ y5.toInt) (hres : res = m_X2_mostHeat_16 fu cDays cH cK cD l d y4 y5 z_cH), G X D 6 [(aRE, .inr (2, [.ref aReS, .ref aReH, .ref aReK, .ref aReO, .ref aReD, .int cDays, .int cLin])), (aReH, .inl (cI, 6, .inl z_cH)), (aReK, .inl (cI, 5, .inl cK)), (aReD, .inl (cI, 5, .inl cD))] [(0, .ref aRE), (1, .int l), (2, .int d), (3, .int (m_X7_at 6 cH d)), (4, .int y4), (5, .int y5)] 16 [] := by
  intro fu
  induction fu with
  | zero =>
    intro y4 y5 z_cH hm
    exact absurd hm (Nat.not_lt_zero _)
  | succ fu ih =>
    intro y4 y5 z_cH hm h0_y5 hres
    rw [m_X2_mostHeat_16] at hres
    refine g_iload hC dX2_mostHeat_16 5 rfl rfl ?_
    refine g_bipush (v := 10) hC dX2_mostHeat_18 (by decide) rfl ?_
    refine g_icmp_ge (tgt := 55) hC dX2_mostHeat_20 (by decide) rfl (fun c_20 => ?_) (fun c_20 => ?_)
    · rw [if_pos c_20] at hres
      refine g_aload_n hC dX2_mostHeat_55 rfl 0 rfl rfl ?_
      refine g_get hC iw_X2_mostHeat_RX2 0 rfl rfl 1 (by decide) (List.mem_of_getElem? (i := 1) rfl) rfl rfl dX2_mostHeat_56 rfl ?_
      refine g_iload_n hC dX2_mostHeat_59 rfl 2 rfl rfl ?_
      refine g_iload_n hC dX2_mostHeat_60 rfl 3 rfl rfl ?_
      refine g_callN (ws' := [(aRE, .inr (2, [.ref aReS, .ref aReH, .ref aReK, .ref aReO, .ref aReD, .int cDays, .int cLin])), (aReH, .inl (cI, 6, .inl (m_X7_set 6 z_cH d (m_X7_at 6 cH d)))), (aReK, .inl (cI, 5, .inl cK)), (aReD, .inl (cI, 5, .inl cD))]) (st' := []) (nw := 4) (n1 := 1) hC gX2_mostHeat_X7_set_n58 (List.mem_of_getElem? (i := 13) rfl) (List.mem_of_getElem? (i := 4) rfl) (List.mem_of_getElem? (i := 6) rfl) hdS_yX7_set (As := [.ref aReH, .int d, .int (m_X7_at 6 cH d)]) (rest := []) (c_X7_set D cI aReH 6 z_cH d (m_X7_at 6 cH d) (by decide)) rfl ⟨by decide, by decide⟩ rfl [1] [0, 2, 3] [0, 3, 1, 2] [0] rfl rfl rfl rfl (by decide) rfl rfl (Nat.le_of_ble_eq_true rfl) dX2_mostHeat_61 rfl rfl ?_
      refine g_iload hC dX2_mostHeat_64 4 rfl rfl ?_
      subst hres
      exact g_iret hC hX rfl dX2_mostHeat_66 rfl rfl
    · rw [if_neg c_20] at hres
      refine g_aload_n hC dX2_mostHeat_23 rfl 0 rfl rfl ?_
      refine g_get hC iw_X2_mostHeat_RX2 0 rfl rfl 1 (by decide) (List.mem_of_getElem? (i := 1) rfl) rfl rfl dX2_mostHeat_24 rfl ?_
      refine g_iload_n hC dX2_mostHeat_27 rfl 2 rfl rfl ?_
      refine g_iload hC dX2_mostHeat_28 5 rfl rfl ?_
      refine g_callN (ws' := [(aRE, .inr (2, [.ref aReS, .ref aReH, .ref aReK, .ref aReO, .ref aReD, .int cDays, .int cLin])), (aReH, .inl (cI, 6, .inl (m_X7_set 6 z_cH d y5))), (aReK, .inl (cI, 5, .inl cK)), (aReD, .inl (cI, 5, .inl cD))]) (st' := []) (nw := 4) (n1 := 1) hC gX2_mostHeat_X7_set_n58 (List.mem_of_getElem? (i := 13) rfl) (List.mem_of_getElem? (i := 4) rfl) (List.mem_of_getElem? (i := 6) rfl) hdS_yX7_set (As := [.ref aReH, .int d, .int y5]) (rest := []) (c_X7_set D cI aReH 6 z_cH d y5 (by decide)) rfl ⟨by decide, by decide⟩ rfl [1] [0, 2, 3] [0, 3, 1, 2] [0] rfl rfl rfl rfl (by decide) rfl rfl (Nat.le_of_ble_eq_true rfl) dX2_mostHeat_30 rfl rfl ?_
      refine g_aload_n hC dX2_mostHeat_33 rfl 0 rfl rfl ?_
      refine g_iload_n hC dX2_mostHeat_34 rfl 1 rfl rfl ?_
      refine g_aload_n hC dX2_mostHeat_35 rfl 0 rfl rfl ?_
      refine g_get hC iw_X2_mostHeat_RX2 0 rfl rfl 5 (by decide) (List.mem_of_getElem? (i := 2) rfl) rfl rfl dX2_mostHeat_36 rfl ?_
      refine g_callV (ws' := [(aRE, .inr (2, [.ref aReS, .ref aReH, .ref aReK, .ref aReO, .ref aReD, .int cDays, .int cLin])), (aReH, .inl (cI, 6, .inl (m_X7_set 6 z_cH d y5))), (aReK, .inl (cI, 5, .inl cK)), (aReD, .inl (cI, 5, .inl cD))]) (st' := [.int (m_X2_dampBehind cDays (m_X7_set 6 z_cH d y5) cK cD l cDays)]) (nw := 4) (n1 := 4) hC gX2_mostHeat_X2_dampBehind hdV_yX2_dampBehind 0 rfl rfl (As := [.int l, .int cDays]) (rest := []) (c_X2_dampBehind D cI aRE aReS aReH aReK aReO aReD cDays cLin (m_X7_set 6 z_cH d y5) cK cD l cDays) rfl ⟨by decide, by decide⟩ rfl [0, 1, 2, 3] [] [0, 1, 2, 3] [0] rfl rfl rfl rfl (by decide) rfl rfl (Nat.le_of_ble_eq_true rfl) dX2_mostHeat_39 rfl rfl ?_
      refine g_if_le (tgt := 49) hC dX2_mostHeat_42 (by decide) rfl (fun c_42 => ?_) (fun c_42 => ?_)
      · rw [if_pos c_42] at hres
        refine g_iinc (v := (y5 + 1)) (lv' := [(5, .int (y5 + 1)), (0, .ref aRE), (1, .int l), (2, .int d), (3, .int (m_X7_at 6 cH d)), (4, .int y4)]) hC dX2_mostHeat_49 5 rfl rfl (by decide) rfl rfl ?_
        refine g_goto (tgt := 16) hC dX2_mostHeat_52 (by decide) ?_
        refine g_sub [1, 2, 3, 4, 5, 0] rfl ?_
        exact ih y4 (y5 + 1) (m_X7_set 6 z_cH d y5) (up_dec c_20 hm) (up_nn c_20 h0_y5) hres
      · rw [if_neg c_42] at hres
        refine g_iload hC dX2_mostHeat_45 5 rfl rfl ?_
        refine g_istore (lv' := [(4, .int y5), (0, .ref aRE), (1, .int l), (2, .int d), (3, .int (m_X7_at 6 cH d)), (5, .int y5)]) hC dX2_mostHeat_47 (by decide) rfl rfl ?_
        refine g_iinc (v := (y5 + 1)) (lv' := [(5, .int (y5 + 1)), (4, .int y5), (0, .ref aRE), (1, .int l), (2, .int d), (3, .int (m_X7_at 6 cH d))]) hC dX2_mostHeat_49 5 rfl rfl (by decide) rfl rfl ?_
        refine g_goto (tgt := 16) hC dX2_mostHeat_52 (by decide) ?_
        refine g_sub [2, 3, 4, 5, 1, 0] rfl ?_
        exact ih y5 (y5 + 1) (m_X7_set 6 z_cH d y5) (up_dec c_20 hm) (up_nn c_20 h0_y5) hres
set_option maxRecDepth 100000 in
set_option maxHeartbeats 4000000 in
theorem c_X2_mostHeat (D : va_G) (cI : ClassId) (aRE : Nat) (aReS : Nat) (aReH : Nat) (aReK : Nat) (aReO : Nat) (aReD : Nat) (cDays : Int32) (cLin : Int32) (cH : Nat → Int32) (cK : Nat → Int32) (cD : Nat → Int32) (l : Int32) (d : Int32) : MC yX2_mostHeat wsX2_mostHeat ({ frames := 3, cells := 0, slots := 0, locals := 71 } : Room) D [(cI, .int)] [.ref aRE, .int l, .int d] [(aRE, .inr (2, [.ref aReS, .ref aReH, .ref aReK, .ref aReO, .ref aReD, .int cDays, .int cLin])), (aReH, .inl (cI, 6, .inl cH)), (aReK, .inl (cI, 5, .inl cK)), (aReD, .inl (cI, 5, .inl cD))] (some (.int ((m_X2_mostHeat cDays cH cK cD l d).1))) [(aRE, .inr (2, [.ref aReS, .ref aReH, .ref aReK, .ref aReO, .ref aReD, .int cDays, .int cLin])), (aReH, .inl (cI, 6, .inl ((m_X2_mostHeat cDays cH cK cD l d).2))), (aReK, .inl (cI, 5, .inl cK)), (aReD, .inl (cI, 5, .inl cD))] := by
  refine g_entry (by decide) rfl rfl rfl rfl (Nat.le_of_ble_eq_true rfl) (lv := [(0, .ref aRE), (1, .int l), (2, .int d)]) rfl ?_
  intro X hC hX
  obtain ⟨res, hres⟩ : ∃ z, z = (m_X2_mostHeat cDays cH cK cD l d) := ⟨_, rfl⟩
  rw [← hres] at hX
  rw [m_X2_mostHeat] at hres
  refine g_aload_n hC dX2_mostHeat_0 rfl 0 rfl rfl ?_
  refine g_get hC iw_X2_mostHeat_RX2 0 rfl rfl 1 (by decide) (List.mem_of_getElem? (i := 1) rfl) rfl rfl dX2_mostHeat_1 rfl ?_
  refine g_iload_n hC dX2_mostHeat_4 rfl 2 rfl rfl ?_
  refine g_callN (ws' := [(aRE, .inr (2, [.ref aReS, .ref aReH, .ref aReK, .ref aReO, .ref aReD, .int cDays, .int cLin])), (aReH, .inl (cI, 6, .inl cH)), (aReK, .inl (cI, 5, .inl cK)), (aReD, .inl (cI, 5, .inl cD))]) (st' := [.int (m_X7_at 6 cH d)]) (nw := 4) (n1 := 1) hC gX2_mostHeat_X7_at_n38 (List.mem_of_getElem? (i := 12) rfl) (List.mem_of_getElem? (i := 4) rfl) (List.mem_of_getElem? (i := 3) rfl) hdS_yX7_at (As := [.ref aReH, .int d]) (rest := []) (c_X7_at D cI aReH 6 cH d (by decide)) rfl ⟨by decide, by decide⟩ rfl [1] [0, 2, 3] [0, 3, 1, 2] [0] rfl rfl rfl rfl (by decide) rfl rfl (Nat.le_of_ble_eq_true rfl) dX2_mostHeat_5 rfl rfl ?_
  refine g_istore_n (lv' := [(3, .int (m_X7_at 6 cH d)), (0, .ref aRE), (1, .int l), (2, .int d)]) hC dX2_mostHeat_8 rfl (by decide) rfl rfl ?_
  refine g_bipush (v := -9) hC dX2_mostHeat_9 (by decide) rfl ?_
  refine g_istore (lv' := [(4, .int (-9 : Int32)), (3, .int (m_X7_at 6 cH d)), (0, .ref aRE), (1, .int l), (2, .int d)]) hC dX2_mostHeat_11 (by decide) rfl rfl ?_
  refine g_iconst (v := 0) hC dX2_mostHeat_13 (by decide) rfl ?_
  refine g_istore (lv' := [(5, .int (0 : Int32)), (4, .int (-9 : Int32)), (3, .int (m_X7_at 6 cH d)), (0, .ref aRE), (1, .int l), (2, .int d)]) hC dX2_mostHeat_14 (by decide) rfl rfl ?_
  refine g_sub [3, 4, 5, 2, 1, 0] rfl ?_
  exact l_X2_mostHeat_16 D cI aRE aReS aReH aReK aReO aReD cDays cLin cH cK cD l d  hC hX (((10 : Int32).toInt - (0 : Int32).toInt).toNat + 1) (-9 : Int32) (0 : Int32) cH (Nat.lt_succ_self _) (by decide) hres
theorem iw_X2_waysToBeLaw_RX2 : ∀ w ∈ wsX20, w ∈ wsX2_waysToBeLaw := fun _ h => List.mem_cons_of_mem _ (List.mem_append_right _ (h))
def m_X2_waysToBeLaw_4 : Nat → Int32 → (Nat → Int32) → (Nat → Int32) → (Nat → Int32) → Int32 → Int32 → Int32 → (Int32)
  | 0, _, _, _, _, _, _, _ => default
  | fu + 1, cDays, cH, cK, cD, l, y2, y3 => (if ((1 : Int32) <<< (cDays &&& 31)) ≤ y3 then y2 else (if (m_X2_dampOnCoolDays cDays cH cK cD l cDays y3) ≤ 0 then (m_X2_waysToBeLaw_4 fu cDays cH cK cD l y2 (y3 + 1)) else (m_X2_waysToBeLaw_4 fu cDays cH cK cD l (y2 + 1) (y3 + 1))))
def m_X2_waysToBeLaw (cDays : Int32) (cH : Nat → Int32) (cK : Nat → Int32) (cD : Nat → Int32) (l : Int32) : (Int32) := (m_X2_waysToBeLaw_4 ((((1 : Int32) <<< (cDays &&& 31)).toInt - (0 : Int32).toInt).toNat + 1) cDays cH cK cD l (0 : Int32) (0 : Int32))
set_option maxRecDepth 100000 in
set_option maxHeartbeats 4000000 in
theorem l_X2_waysToBeLaw_4 {X : gX} (D : va_G) (cI : ClassId) (aRE : Nat) (aReS : Nat) (aReH : Nat) (aReK : Nat) (aReO : Nat) (aReD : Nat) (cDays : Int32) (cLin : Int32) (cH : Nat → Int32) (cK : Nat → Int32) (cD : Nat → Int32) (l : Int32) (hC : Cx X cX2_waysToBeLaw 4 RX2 wsX2_waysToBeLaw D [(cI, .int)] ({ frames := 2, cells := 0, slots := 0, locals := 49 } : Room) (some .int)) {res : (Int32)} (hX : Rx X D (some (.int res)) [(aRE, .inr (2, [.ref aReS, .ref aReH, .ref aReK, .ref aReO, .ref aReD, .int cDays, .int cLin])), (aReH, .inl (cI, 6, .inl cH)), (aReK, .inl (cI, 5, .inl cK)), (aReD, .inl (cI, 5, .inl cD))]) : ∀ (fu : Nat) (y2 : Int32) (y3 : Int32) (hm : (((1 : Int32) <<< (cDays &&& 31)).toInt - y3.toInt).toNat < fu) (h0_y3 : 0 ≤ y3.toInt) (hres : res = m_X2_waysToBeLaw_4 fu cDays cH cK cD l y2 y3), G X D 4 [(aRE, .inr (2, [.ref aReS, .ref aReH, .ref aReK, .ref aReO, .ref aReD, .int cDays, .int cLin])), (aReH, .inl (cI, 6, .inl cH)), (aReK, .inl (cI, 5, .inl cK)), (aReD, .inl (cI, 5, .inl cD))] [(0, .ref aRE), (1, .int l), (2, .int y2), (3, .int y3)] 4 [] := by
  intro fu
  induction fu with
  | zero =>
    intro y2 y3 hm
    exact absurd hm (Nat.not_lt_zero _)
  | succ fu ih =>
    intro y2 y3 hm h0_y3 hres
    rw [m_X2_waysToBeLaw_4] at hres
    refine g_iload_n hC dX2_waysToBeLaw_4 rfl 3 rfl rfl ?_
    refine g_iconst (v := 1) hC dX2_waysToBeLaw_5 (by decide) rfl ?_
    refine g_aload_n hC dX2_waysToBeLaw_6 rfl 0 rfl rfl ?_
    refine g_get hC iw_X2_waysToBeLaw_RX2 0 rfl rfl 5 (by decide) (List.mem_of_getElem? (i := 1) rfl) rfl rfl dX2_waysToBeLaw_7 rfl ?_
    refine g_ishl hC dX2_waysToBeLaw_10 rfl ?_
    refine g_icmp_ge (tgt := 36) hC dX2_waysToBeLaw_11 (by decide) rfl (fun c_11 => ?_) (fun c_11 => ?_)
    · rw [if_pos c_11] at hres
      refine g_iload_n hC dX2_waysToBeLaw_36 rfl 2 rfl rfl ?_
      subst hres
      exact g_iret hC hX rfl dX2_waysToBeLaw_37 rfl rfl
    · rw [if_neg c_11] at hres
      refine g_aload_n hC dX2_waysToBeLaw_14 rfl 0 rfl rfl ?_
      refine g_iload_n hC dX2_waysToBeLaw_15 rfl 1 rfl rfl ?_
      refine g_aload_n hC dX2_waysToBeLaw_16 rfl 0 rfl rfl ?_
      refine g_get hC iw_X2_waysToBeLaw_RX2 0 rfl rfl 5 (by decide) (List.mem_of_getElem? (i := 1) rfl) rfl rfl dX2_waysToBeLaw_17 rfl ?_
      refine g_iload_n hC dX2_waysToBeLaw_20 rfl 3 rfl rfl ?_
      refine g_callV (ws' := [(aRE, .inr (2, [.ref aReS, .ref aReH, .ref aReK, .ref aReO, .ref aReD, .int cDays, .int cLin])), (aReH, .inl (cI, 6, .inl cH)), (aReK, .inl (cI, 5, .inl cK)), (aReD, .inl (cI, 5, .inl cD))]) (st' := [.int (m_X2_dampOnCoolDays cDays cH cK cD l cDays y3)]) (nw := 4) (n1 := 4) hC gX2_waysToBeLaw_X2_dampOnCoolDays hdV_yX2_dampOnCoolDays 0 rfl rfl (As := [.int l, .int cDays, .int y3]) (rest := []) (c_X2_dampOnCoolDays D cI aRE aReS aReH aReK aReO aReD cDays cLin cH cK cD l cDays y3) rfl ⟨by decide, by decide⟩ rfl [0, 1, 2, 3] [] [0, 1, 2, 3] [0] rfl rfl rfl rfl (by decide) rfl rfl (Nat.le_of_ble_eq_true rfl) dX2_waysToBeLaw_21 rfl rfl ?_
      refine g_if_le (tgt := 30) hC dX2_waysToBeLaw_24 (by decide) rfl (fun c_24 => ?_) (fun c_24 => ?_)
      · rw [if_pos c_24] at hres
        refine g_iinc (v := (y3 + 1)) (lv' := [(3, .int (y3 + 1)), (0, .ref aRE), (1, .int l), (2, .int y2)]) hC dX2_waysToBeLaw_30 3 rfl rfl (by decide) rfl rfl ?_
        refine g_goto (tgt := 4) hC dX2_waysToBeLaw_33 (by decide) ?_
        refine g_sub [1, 2, 3, 0] rfl ?_
        exact ih y2 (y3 + 1) (up_dec c_11 hm) (up_nn c_11 h0_y3) hres
      · rw [if_neg c_24] at hres
        refine g_iinc (v := (y2 + 1)) (lv' := [(2, .int (y2 + 1)), (0, .ref aRE), (1, .int l), (3, .int y3)]) hC dX2_waysToBeLaw_27 2 rfl rfl (by decide) rfl rfl ?_
        refine g_iinc (v := (y3 + 1)) (lv' := [(3, .int (y3 + 1)), (2, .int (y2 + 1)), (0, .ref aRE), (1, .int l)]) hC dX2_waysToBeLaw_30 3 rfl rfl (by decide) rfl rfl ?_
        refine g_goto (tgt := 4) hC dX2_waysToBeLaw_33 (by decide) ?_
        refine g_sub [2, 3, 1, 0] rfl ?_
        exact ih (y2 + 1) (y3 + 1) (up_dec c_11 hm) (up_nn c_11 h0_y3) hres
set_option maxRecDepth 100000 in
set_option maxHeartbeats 4000000 in
theorem c_X2_waysToBeLaw (D : va_G) (cI : ClassId) (aRE : Nat) (aReS : Nat) (aReH : Nat) (aReK : Nat) (aReO : Nat) (aReD : Nat) (cDays : Int32) (cLin : Int32) (cH : Nat → Int32) (cK : Nat → Int32) (cD : Nat → Int32) (l : Int32) : MC yX2_waysToBeLaw wsX2_waysToBeLaw ({ frames := 2, cells := 0, slots := 0, locals := 49 } : Room) D [(cI, .int)] [.ref aRE, .int l] [(aRE, .inr (2, [.ref aReS, .ref aReH, .ref aReK, .ref aReO, .ref aReD, .int cDays, .int cLin])), (aReH, .inl (cI, 6, .inl cH)), (aReK, .inl (cI, 5, .inl cK)), (aReD, .inl (cI, 5, .inl cD))] (some (.int (m_X2_waysToBeLaw cDays cH cK cD l))) [(aRE, .inr (2, [.ref aReS, .ref aReH, .ref aReK, .ref aReO, .ref aReD, .int cDays, .int cLin])), (aReH, .inl (cI, 6, .inl cH)), (aReK, .inl (cI, 5, .inl cK)), (aReD, .inl (cI, 5, .inl cD))] := by
  refine g_entry (by decide) rfl rfl rfl rfl (Nat.le_of_ble_eq_true rfl) (lv := [(0, .ref aRE), (1, .int l)]) rfl ?_
  intro X hC hX
  obtain ⟨res, hres⟩ : ∃ z, z = (m_X2_waysToBeLaw cDays cH cK cD l) := ⟨_, rfl⟩
  rw [← hres] at hX
  rw [m_X2_waysToBeLaw] at hres
  refine g_iconst (v := 0) hC dX2_waysToBeLaw_0 (by decide) rfl ?_
  refine g_istore_n (lv' := [(2, .int (0 : Int32)), (0, .ref aRE), (1, .int l)]) hC dX2_waysToBeLaw_1 rfl (by decide) rfl rfl ?_
  refine g_iconst (v := 0) hC dX2_waysToBeLaw_2 (by decide) rfl ?_
  refine g_istore_n (lv' := [(3, .int (0 : Int32)), (2, .int (0 : Int32)), (0, .ref aRE), (1, .int l)]) hC dX2_waysToBeLaw_3 rfl (by decide) rfl rfl ?_
  refine g_sub [2, 3, 1, 0] rfl ?_
  exact l_X2_waysToBeLaw_4 D cI aRE aReS aReH aReK aReO aReD cDays cLin cH cK cD l  hC hX ((((1 : Int32) <<< (cDays &&& 31)).toInt - (0 : Int32).toInt).toNat + 1) (0 : Int32) (0 : Int32) (Nat.lt_succ_self _) (by decide) hres
