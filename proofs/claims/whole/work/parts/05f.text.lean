theorem iw_X3_linenPlace_RX3 : ∀ w ∈ wsX30, w ∈ wsX3_linenPlace := fun _ h => List.mem_cons_of_mem _ (List.mem_append_right _ (h))
def m_X3_linenPlace (tDays : Int32) (l : Int32) : (Int32) := (((6 : Int32) + tDays) + ((4 : Int32) * l))
set_option maxRecDepth 100000 in
set_option maxHeartbeats 4000000 in
theorem c_X3_linenPlace (D : va_G) (cI : ClassId) (aRT : Nat) (aSh : Nat) (tStart : Int32) (tLen : Int32) (tDays : Int32) (tLin : Int32) (l : Int32) : MC yX3_linenPlace wsX3_linenPlace ({ frames := 0, cells := 0, slots := 0, locals := 0 } : Room) D [(cI, .int)] [.ref aRT, .int l] [(aRT, .inr (3, [.ref aSh, .int tStart, .int tLen, .int tDays, .int tLin]))] (some (.int (m_X3_linenPlace tDays l))) [(aRT, .inr (3, [.ref aSh, .int tStart, .int tLen, .int tDays, .int tLin]))] := by
  refine g_entry (by decide) rfl rfl rfl rfl (Nat.le_of_ble_eq_true rfl) (lv := [(0, .ref aRT), (1, .int l)]) rfl ?_
  intro X hC hX
  obtain ⟨res, hres⟩ : ∃ z, z = (m_X3_linenPlace tDays l) := ⟨_, rfl⟩
  rw [← hres] at hX
  rw [m_X3_linenPlace] at hres
  refine g_bipush (v := 6) hC dX3_linenPlace_0 (by decide) rfl ?_
  refine g_aload_n hC dX3_linenPlace_2 rfl 0 rfl rfl ?_
  refine g_get hC iw_X3_linenPlace_RX3 0 rfl rfl 3 (by decide) (List.mem_of_getElem? (i := 1) rfl) rfl rfl dX3_linenPlace_3 rfl ?_
  refine g_iadd hC dX3_linenPlace_6 rfl ?_
  refine g_iconst (v := 4) hC dX3_linenPlace_7 (by decide) rfl ?_
  refine g_iload_n hC dX3_linenPlace_8 rfl 1 rfl rfl ?_
  refine g_imul hC dX3_linenPlace_9 rfl ?_
  refine g_iadd hC dX3_linenPlace_10 rfl ?_
  subst hres
  exact g_iret hC hX rfl dX3_linenPlace_11 rfl rfl
theorem iw_X3_codeAt_RX3 : ∀ w ∈ wsX30, w ∈ wsX3_codeAt := fun _ h => List.mem_cons_of_mem _ (List.mem_append_left _ (List.mem_append_right _ (h)))
def m_X3_codeAt (tStart : Int32) (tLen : Int32) (sA : Nat → Int32) (p : Int32) : (Int32) := (if (m_X7_isBelow p tLen) = 0 then (-1 : Int32) else (m_X4_number sA (tStart + p)))
set_option maxRecDepth 100000 in
set_option maxHeartbeats 4000000 in
theorem c_X3_codeAt (D : va_G) (cI : ClassId) (aRT : Nat) (aSh : Nat) (tStart : Int32) (tLen : Int32) (tDays : Int32) (tLin : Int32) (aShA : Nat) (sHas : Int32) (sLane : Int32) (sLen : Int32) (sA : Nat → Int32) (p : Int32) : MC yX3_codeAt wsX3_codeAt ({ frames := 2, cells := 0, slots := 0, locals := 42 } : Room) D [(cI, .int)] [.ref aRT, .int p] [(aRT, .inr (3, [.ref aSh, .int tStart, .int tLen, .int tDays, .int tLin])), (aSh, .inr (4, [.ref aShA, .int sHas, .int sLane, .int sLen])), (aShA, .inl (cI, 60, .inl sA))] (some (.int (m_X3_codeAt tStart tLen sA p))) [(aRT, .inr (3, [.ref aSh, .int tStart, .int tLen, .int tDays, .int tLin])), (aSh, .inr (4, [.ref aShA, .int sHas, .int sLane, .int sLen])), (aShA, .inl (cI, 60, .inl sA))] := by
  refine g_entry (by decide) rfl rfl rfl rfl (Nat.le_of_ble_eq_true rfl) (lv := [(0, .ref aRT), (1, .int p)]) rfl ?_
  intro X hC hX
  obtain ⟨res, hres⟩ : ∃ z, z = (m_X3_codeAt tStart tLen sA p) := ⟨_, rfl⟩
  rw [← hres] at hX
  rw [m_X3_codeAt] at hres
  refine g_aload_n hC dX3_codeAt_0 rfl 0 rfl rfl ?_
  refine g_get hC iw_X3_codeAt_RX3 0 rfl rfl 0 (by decide) (List.mem_of_getElem? (i := 1) rfl) rfl rfl dX3_codeAt_1 rfl ?_
  refine g_ifnull hC dX3_codeAt_4 rfl ?_
  refine g_iload_n hC dX3_codeAt_7 rfl 1 rfl rfl ?_
  refine g_aload_n hC dX3_codeAt_8 rfl 0 rfl rfl ?_
  refine g_get hC iw_X3_codeAt_RX3 0 rfl rfl 2 (by decide) (List.mem_of_getElem? (i := 2) rfl) rfl rfl dX3_codeAt_9 rfl ?_
  refine g_callN (ws' := [(aRT, .inr (3, [.ref aSh, .int tStart, .int tLen, .int tDays, .int tLin])), (aSh, .inr (4, [.ref aShA, .int sHas, .int sLane, .int sLen])), (aShA, .inl (cI, 60, .inl sA))]) (st' := [.int (m_X7_isBelow p tLen)]) (nw := 3) (n1 := 0) hC gX3_codeAt_X7_isBelow_n73 (List.mem_of_getElem? (i := 15) rfl) (List.mem_of_getElem? (i := 5) rfl) (List.mem_of_getElem? (i := 4) rfl) hdS_yX7_isBelow (As := [.int p, .int tLen]) (rest := []) (c_X7_isBelow D cI p tLen) rfl ⟨by decide, by decide⟩ rfl [] [0, 1, 2] [0, 1, 2] [0] rfl rfl rfl rfl (by decide) rfl rfl (Nat.le_of_ble_eq_true rfl) dX3_codeAt_12 rfl rfl ?_
  refine g_if_eq (tgt := 34) hC dX3_codeAt_15 (by decide) rfl (fun c_15 => ?_) (fun c_15 => ?_)
  · rw [if_pos c_15] at hres
    refine g_iconst (v := -1) hC dX3_codeAt_34 (by decide) rfl ?_
    subst hres
    exact g_iret hC hX rfl dX3_codeAt_35 rfl rfl
  · rw [if_neg c_15] at hres
    refine g_aload_n hC dX3_codeAt_18 rfl 0 rfl rfl ?_
    refine g_get hC iw_X3_codeAt_RX3 0 rfl rfl 0 (by decide) (List.mem_of_getElem? (i := 1) rfl) rfl rfl dX3_codeAt_19 rfl ?_
    refine g_aload_n hC dX3_codeAt_22 rfl 0 rfl rfl ?_
    refine g_get hC iw_X3_codeAt_RX3 0 rfl rfl 1 (by decide) (List.mem_of_getElem? (i := 3) rfl) rfl rfl dX3_codeAt_23 rfl ?_
    refine g_iload_n hC dX3_codeAt_26 rfl 1 rfl rfl ?_
    refine g_iadd hC dX3_codeAt_27 rfl ?_
    refine g_callV (ws' := [(aRT, .inr (3, [.ref aSh, .int tStart, .int tLen, .int tDays, .int tLin])), (aSh, .inr (4, [.ref aShA, .int sHas, .int sLane, .int sLen])), (aShA, .inl (cI, 60, .inl sA))]) (st' := [.int (m_X4_number sA (tStart + p))]) (nw := 3) (n1 := 2) hC gX3_codeAt_X4_number hdV_yX4_number 1 rfl rfl (As := [.int (tStart + p)]) (rest := []) (c_X4_number D cI aSh aShA sHas sLane sLen sA (tStart + p)) rfl ⟨by decide, by decide⟩ rfl [1, 2] [0] [0, 1, 2] [0] rfl rfl rfl rfl (by decide) rfl rfl (Nat.le_of_ble_eq_true rfl) dX3_codeAt_28 rfl rfl ?_
    refine g_goto (tgt := 35) hC dX3_codeAt_31 (by decide) ?_
    subst hres
    exact g_iret hC hX rfl dX3_codeAt_35 rfl rfl
def m_X3_digitAt (tStart : Int32) (tLen : Int32) (sA : Nat → Int32) (p : Int32) : (Int32) := ((m_X3_codeAt tStart tLen sA p) - (48 : Int32))
set_option maxRecDepth 100000 in
set_option maxHeartbeats 4000000 in
theorem c_X3_digitAt (D : va_G) (cI : ClassId) (aRT : Nat) (aSh : Nat) (tStart : Int32) (tLen : Int32) (tDays : Int32) (tLin : Int32) (aShA : Nat) (sHas : Int32) (sLane : Int32) (sLen : Int32) (sA : Nat → Int32) (p : Int32) : MC yX3_digitAt wsX3_digitAt ({ frames := 3, cells := 0, slots := 0, locals := 63 } : Room) D [(cI, .int)] [.ref aRT, .int p] [(aRT, .inr (3, [.ref aSh, .int tStart, .int tLen, .int tDays, .int tLin])), (aSh, .inr (4, [.ref aShA, .int sHas, .int sLane, .int sLen])), (aShA, .inl (cI, 60, .inl sA))] (some (.int (m_X3_digitAt tStart tLen sA p))) [(aRT, .inr (3, [.ref aSh, .int tStart, .int tLen, .int tDays, .int tLin])), (aSh, .inr (4, [.ref aShA, .int sHas, .int sLane, .int sLen])), (aShA, .inl (cI, 60, .inl sA))] := by
  refine g_entry (by decide) rfl rfl rfl rfl (Nat.le_of_ble_eq_true rfl) (lv := [(0, .ref aRT), (1, .int p)]) rfl ?_
  intro X hC hX
  obtain ⟨res, hres⟩ : ∃ z, z = (m_X3_digitAt tStart tLen sA p) := ⟨_, rfl⟩
  rw [← hres] at hX
  rw [m_X3_digitAt] at hres
  refine g_aload_n hC dX3_digitAt_0 rfl 0 rfl rfl ?_
  refine g_iload_n hC dX3_digitAt_1 rfl 1 rfl rfl ?_
  refine g_callV (ws' := [(aRT, .inr (3, [.ref aSh, .int tStart, .int tLen, .int tDays, .int tLin])), (aSh, .inr (4, [.ref aShA, .int sHas, .int sLane, .int sLen])), (aShA, .inl (cI, 60, .inl sA))]) (st' := [.int (m_X3_codeAt tStart tLen sA p)]) (nw := 3) (n1 := 3) hC gX3_digitAt_X3_codeAt hdV_yX3_codeAt 0 rfl rfl (As := [.int p]) (rest := []) (c_X3_codeAt D cI aRT aSh tStart tLen tDays tLin aShA sHas sLane sLen sA p) rfl ⟨by decide, by decide⟩ rfl [0, 1, 2] [] [0, 1, 2] [0] rfl rfl rfl rfl (by decide) rfl rfl (Nat.le_of_ble_eq_true rfl) dX3_digitAt_2 rfl rfl ?_
  refine g_bipush (v := 48) hC dX3_digitAt_5 (by decide) rfl ?_
  refine g_isub hC dX3_digitAt_7 rfl ?_
  subst hres
  exact g_iret hC hX rfl dX3_digitAt_8 rfl rfl
def m_X3_hasDigit (tStart : Int32) (tLen : Int32) (sA : Nat → Int32) (p : Int32) (most : Int32) : (Int32) := (if (m_X3_codeAt tStart tLen sA p) < (48 : Int32) then (0 : Int32) else (if ((48 : Int32) + most) < (m_X3_codeAt tStart tLen sA p) then (0 : Int32) else (1 : Int32)))
set_option maxRecDepth 100000 in
set_option maxHeartbeats 4000000 in
theorem c_X3_hasDigit (D : va_G) (cI : ClassId) (aRT : Nat) (aSh : Nat) (tStart : Int32) (tLen : Int32) (tDays : Int32) (tLin : Int32) (aShA : Nat) (sHas : Int32) (sLane : Int32) (sLen : Int32) (sA : Nat → Int32) (p : Int32) (most : Int32) : MC yX3_hasDigit wsX3_hasDigit ({ frames := 3, cells := 0, slots := 0, locals := 63 } : Room) D [(cI, .int)] [.ref aRT, .int p, .int most] [(aRT, .inr (3, [.ref aSh, .int tStart, .int tLen, .int tDays, .int tLin])), (aSh, .inr (4, [.ref aShA, .int sHas, .int sLane, .int sLen])), (aShA, .inl (cI, 60, .inl sA))] (some (.int (m_X3_hasDigit tStart tLen sA p most))) [(aRT, .inr (3, [.ref aSh, .int tStart, .int tLen, .int tDays, .int tLin])), (aSh, .inr (4, [.ref aShA, .int sHas, .int sLane, .int sLen])), (aShA, .inl (cI, 60, .inl sA))] := by
  refine g_entry (by decide) rfl rfl rfl rfl (Nat.le_of_ble_eq_true rfl) (lv := [(0, .ref aRT), (1, .int p), (2, .int most)]) rfl ?_
  intro X hC hX
  obtain ⟨res, hres⟩ : ∃ z, z = (m_X3_hasDigit tStart tLen sA p most) := ⟨_, rfl⟩
  rw [← hres] at hX
  rw [m_X3_hasDigit] at hres
  refine g_aload_n hC dX3_hasDigit_0 rfl 0 rfl rfl ?_
  refine g_iload_n hC dX3_hasDigit_1 rfl 1 rfl rfl ?_
  refine g_callV (ws' := [(aRT, .inr (3, [.ref aSh, .int tStart, .int tLen, .int tDays, .int tLin])), (aSh, .inr (4, [.ref aShA, .int sHas, .int sLane, .int sLen])), (aShA, .inl (cI, 60, .inl sA))]) (st' := [.int (m_X3_codeAt tStart tLen sA p)]) (nw := 3) (n1 := 3) hC gX3_hasDigit_X3_codeAt hdV_yX3_codeAt 0 rfl rfl (As := [.int p]) (rest := []) (c_X3_codeAt D cI aRT aSh tStart tLen tDays tLin aShA sHas sLane sLen sA p) rfl ⟨by decide, by decide⟩ rfl [0, 1, 2] [] [0, 1, 2] [0] rfl rfl rfl rfl (by decide) rfl rfl (Nat.le_of_ble_eq_true rfl) dX3_hasDigit_2 rfl rfl ?_
  refine g_bipush (v := 48) hC dX3_hasDigit_5 (by decide) rfl ?_
  refine g_icmp_lt (tgt := 26) hC dX3_hasDigit_7 (by decide) rfl (fun c_7 => ?_) (fun c_7 => ?_)
  · rw [if_pos c_7] at hres
    refine g_iconst (v := 0) hC dX3_hasDigit_26 (by decide) rfl ?_
    subst hres
    exact g_zret hC hX rfl rfl dX3_hasDigit_27 rfl rfl
  · rw [if_neg c_7] at hres
    refine g_aload_n hC dX3_hasDigit_10 rfl 0 rfl rfl ?_
    refine g_iload_n hC dX3_hasDigit_11 rfl 1 rfl rfl ?_
    refine g_callV (ws' := [(aRT, .inr (3, [.ref aSh, .int tStart, .int tLen, .int tDays, .int tLin])), (aSh, .inr (4, [.ref aShA, .int sHas, .int sLane, .int sLen])), (aShA, .inl (cI, 60, .inl sA))]) (st' := [.int (m_X3_codeAt tStart tLen sA p)]) (nw := 3) (n1 := 3) hC gX3_hasDigit_X3_codeAt hdV_yX3_codeAt 0 rfl rfl (As := [.int p]) (rest := []) (c_X3_codeAt D cI aRT aSh tStart tLen tDays tLin aShA sHas sLane sLen sA p) rfl ⟨by decide, by decide⟩ rfl [0, 1, 2] [] [0, 1, 2] [0] rfl rfl rfl rfl (by decide) rfl rfl (Nat.le_of_ble_eq_true rfl) dX3_hasDigit_12 rfl rfl ?_
    refine g_bipush (v := 48) hC dX3_hasDigit_15 (by decide) rfl ?_
    refine g_iload_n hC dX3_hasDigit_17 rfl 2 rfl rfl ?_
    refine g_iadd hC dX3_hasDigit_18 rfl ?_
    refine g_icmp_gt (tgt := 26) hC dX3_hasDigit_19 (by decide) rfl (fun c_19 => ?_) (fun c_19 => ?_)
    · rw [if_pos c_19] at hres
      refine g_iconst (v := 0) hC dX3_hasDigit_26 (by decide) rfl ?_
      subst hres
      exact g_zret hC hX rfl rfl dX3_hasDigit_27 rfl rfl
    · rw [if_neg c_19] at hres
      refine g_iconst (v := 1) hC dX3_hasDigit_22 (by decide) rfl ?_
      refine g_goto (tgt := 27) hC dX3_hasDigit_23 (by decide) ?_
      subst hres
      exact g_zret hC hX rfl rfl dX3_hasDigit_27 rfl rfl
def m_X3_kindOfLetter (code : Int32) : (Int32) := (if code = 99 then (0 : Int32) else (if code = 108 then (1 : Int32) else (if code = 115 then (2 : Int32) else (-9 : Int32))))
set_option maxRecDepth 100000 in
set_option maxHeartbeats 4000000 in
theorem c_X3_kindOfLetter (D : va_G) (cI : ClassId) (code : Int32) : MC yX3_kindOfLetter wsX3_kindOfLetter ({ frames := 0, cells := 0, slots := 0, locals := 0 } : Room) D [(cI, .int)] [.int code] [] (some (.int (m_X3_kindOfLetter code))) [] := by
  refine g_entry (by decide) rfl rfl rfl rfl (Nat.le_of_ble_eq_true rfl) (lv := [(0, .int code)]) rfl ?_
  intro X hC hX
  obtain ⟨res, hres⟩ : ∃ z, z = (m_X3_kindOfLetter code) := ⟨_, rfl⟩
  rw [← hres] at hX
  rw [m_X3_kindOfLetter] at hres
  refine g_iload_n hC dX3_kindOfLetter_0 rfl 0 rfl rfl ?_
  by_cases c_1_99 : code = 99
  · rw [if_pos c_1_99] at hres
    refine g_lookup (tgt := 36) (off := 35) hC dX3_kindOfLetter_1 (by decide) (by rw [c_1_99]; decide) (by decide) ?_
    refine g_iconst (v := 0) hC dX3_kindOfLetter_36 (by decide) rfl ?_
    subst hres
    exact g_iret hC hX rfl dX3_kindOfLetter_37 rfl rfl
  rw [if_neg c_1_99] at hres
  by_cases c_1_108 : code = 108
  · rw [if_pos c_1_108] at hres
    refine g_lookup (tgt := 38) (off := 37) hC dX3_kindOfLetter_1 (by decide) (by rw [c_1_108]; decide) (by decide) ?_
    refine g_iconst (v := 1) hC dX3_kindOfLetter_38 (by decide) rfl ?_
    subst hres
    exact g_iret hC hX rfl dX3_kindOfLetter_39 rfl rfl
  rw [if_neg c_1_108] at hres
  by_cases c_1_115 : code = 115
  · rw [if_pos c_1_115] at hres
    refine g_lookup (tgt := 40) (off := 39) hC dX3_kindOfLetter_1 (by decide) (by rw [c_1_115]; decide) (by decide) ?_
    refine g_iconst (v := 2) hC dX3_kindOfLetter_40 (by decide) rfl ?_
    subst hres
    exact g_iret hC hX rfl dX3_kindOfLetter_41 rfl rfl
  rw [if_neg c_1_115] at hres
  refine g_lookup (tgt := 42) (off := 41) hC dX3_kindOfLetter_1 (by decide) (by rw [lv_osw c_1_99 (by decide)]; rw [lv_osw c_1_108 (by decide)]; rw [lv_osw c_1_115 (by decide)]; rfl) (by decide) ?_
  refine g_bipush (v := -9) hC dX3_kindOfLetter_42 (by decide) rfl ?_
  subst hres
  exact g_iret hC hX rfl dX3_kindOfLetter_44 rfl rfl
theorem iw_X3_firstFaultOfLinens_RX3 : ∀ w ∈ wsX30, w ∈ wsX3_firstFaultOfLinens := fun _ h => List.mem_cons_of_mem _ (List.mem_append_left _ (List.mem_append_right _ (h)))
def m_X3_firstFaultOfLinens_7 : Nat → Int32 → Int32 → Int32 → (Nat → Int32) → Int32 → Int32 → (Int32 × Int32)
  | 0, _, _, _, _, _, _ => default
  | fu + 1, tStart, tLen, tDays, sA, y1, z_tLin => (if (5 : Int32) ≤ y1 then ((if (m_X3_linenPlace tDays (5 : Int32)) = tLen then (-9 : Int32) else (m_X3_linenPlace tDays (5 : Int32))), z_tLin) else (if y1 ≤ 0 then (if (m_X3_codeAt tStart tLen sA (m_X3_linenPlace tDays y1)) = (59 : Int32) then (if (m_X3_kindOfLetter (m_X3_codeAt tStart tLen sA ((m_X3_linenPlace tDays y1) + (1 : Int32)))) = (-9 : Int32) then (((m_X3_linenPlace tDays y1) + (1 : Int32)), z_tLin) else (if (m_X3_hasDigit tStart tLen sA ((m_X3_linenPlace tDays y1) + (2 : Int32)) (3 : Int32)) = 0 then (((m_X3_linenPlace tDays y1) + (2 : Int32)), z_tLin) else (if (m_X3_hasDigit tStart tLen sA ((m_X3_linenPlace tDays y1) + (3 : Int32)) (9 : Int32)) = 0 then (((m_X3_linenPlace tDays y1) + (3 : Int32)), z_tLin) else (m_X3_firstFaultOfLinens_7 fu tStart tLen tDays sA (y1 + 1) (z_tLin + (1 : Int32)))))) else ((m_X3_linenPlace tDays y1), z_tLin)) else (if (m_X3_linenPlace tDays y1) = tLen then ((-9 : Int32), z_tLin) else (if (m_X3_codeAt tStart tLen sA (m_X3_linenPlace tDays y1)) = (59 : Int32) then (if (m_X3_kindOfLetter (m_X3_codeAt tStart tLen sA ((m_X3_linenPlace tDays y1) + (1 : Int32)))) = (-9 : Int32) then (((m_X3_linenPlace tDays y1) + (1 : Int32)), z_tLin) else (if (m_X3_hasDigit tStart tLen sA ((m_X3_linenPlace tDays y1) + (2 : Int32)) (3 : Int32)) = 0 then (((m_X3_linenPlace tDays y1) + (2 : Int32)), z_tLin) else (if (m_X3_hasDigit tStart tLen sA ((m_X3_linenPlace tDays y1) + (3 : Int32)) (9 : Int32)) = 0 then (((m_X3_linenPlace tDays y1) + (3 : Int32)), z_tLin) else (m_X3_firstFaultOfLinens_7 fu tStart tLen tDays sA (y1 + 1) (z_tLin + (1 : Int32)))))) else ((m_X3_linenPlace tDays y1), z_tLin)))))
def m_X3_firstFaultOfLinens (tStart : Int32) (tLen : Int32) (tDays : Int32) (sA : Nat → Int32) : (Int32 × Int32) := (m_X3_firstFaultOfLinens_7 (((5 : Int32).toInt - (0 : Int32).toInt).toNat + 1) tStart tLen tDays sA (0 : Int32) (0 : Int32))
set_option maxRecDepth 100000 in
set_option maxHeartbeats 4000000 in
theorem l_X3_firstFaultOfLinens_7 {X : gX} (D : va_G) (cI : ClassId) (aRT : Nat) (aSh : Nat) (tStart : Int32) (tLen : Int32) (tDays : Int32) (tLin : Int32) (aShA : Nat) (sHas : Int32) (sLane : Int32) (sLen : Int32) (sA : Nat → Int32) (hC : Cx X cX3_firstFaultOfLinens 3 RX3 wsX3_firstFaultOfLinens D [(cI, .int)] ({ frames := 4, cells := 0, slots := 0, locals := 85 } : Room) (some .int)) {res : (Int32 × Int32)} (hX : Rx X D (some (.int res.1)) [(aRT, .inr (3, [.ref aSh, .int tStart, .int tLen, .int tDays, .int res.2])), (aSh, .inr (4, [.ref aShA, .int sHas, .int sLane, .int sLen])), (aShA, .inl (cI, 60, .inl sA))]) : ∀ (fu : Nat) (y1 : Int32) (z_tLin : Int32) (hm : ((5 : Int32).toInt - y1.toInt).toNat < fu) (h0_y1 : 0 ≤ y1.toInt) (hres : res = m_X3_firstFaultOfLinens_7 fu tStart tLen tDays sA y1 z_tLin), G X D 3 [(aRT, .inr (3, [.ref aSh, .int tStart, .int tLen, .int tDays, .int z_tLin])), (aSh, .inr (4, [.ref aShA, .int sHas, .int sLane, .int sLen])), (aShA, .inl (cI, 60, .inl sA))] [(0, .ref aRT), (1, .int y1)] 7 [] := by
  intro fu
  induction fu with
  | zero =>
    intro y1 z_tLin hm
    exact absurd hm (Nat.not_lt_zero _)
  | succ fu ih =>
    intro y1 z_tLin hm h0_y1 hres
    rw [m_X3_firstFaultOfLinens_7] at hres
    refine g_iload_n hC dX3_firstFaultOfLinens_7 rfl 1 rfl rfl ?_
    refine g_iconst (v := 5) hC dX3_firstFaultOfLinens_8 (by decide) rfl ?_
    refine g_icmp_ge (tgt := 111) hC dX3_firstFaultOfLinens_9 (by decide) rfl (fun c_9 => ?_) (fun c_9 => ?_)
    · rw [if_pos c_9] at hres
      refine g_aload_n hC dX3_firstFaultOfLinens_111 rfl 0 rfl rfl ?_
      refine g_iconst (v := 5) hC dX3_firstFaultOfLinens_112 (by decide) rfl ?_
      refine g_callV (ws' := [(aRT, .inr (3, [.ref aSh, .int tStart, .int tLen, .int tDays, .int z_tLin])), (aSh, .inr (4, [.ref aShA, .int sHas, .int sLane, .int sLen])), (aShA, .inl (cI, 60, .inl sA))]) (st' := [.int (m_X3_linenPlace tDays (5 : Int32))]) (nw := 3) (n1 := 1) hC gX3_firstFaultOfLinens_X3_linenPlace hdV_yX3_linenPlace 0 rfl rfl (As := [.int (5 : Int32)]) (rest := []) (c_X3_linenPlace D cI aRT aSh tStart tLen tDays z_tLin (5 : Int32)) rfl ⟨by decide, by decide⟩ rfl [0] [1, 2] [2, 0, 1] [0] rfl rfl rfl rfl (by decide) rfl rfl (Nat.le_of_ble_eq_true rfl) dX3_firstFaultOfLinens_113 rfl rfl ?_
      refine g_istore_n (lv' := [(1, .int (m_X3_linenPlace tDays (5 : Int32))), (0, .ref aRT)]) hC dX3_firstFaultOfLinens_116 rfl (by decide) rfl rfl ?_
      refine g_iload_n hC dX3_firstFaultOfLinens_117 rfl 0 rfl rfl ?_
      refine g_aload_n hC dX3_firstFaultOfLinens_118 rfl 1 rfl rfl ?_
      refine g_get hC iw_X3_firstFaultOfLinens_RX3 0 rfl rfl 2 (by decide) (List.mem_of_getElem? (i := 2) rfl) rfl rfl dX3_firstFaultOfLinens_119 rfl ?_
      have K_122 : ∀ vK : Int32, vK = (if (m_X3_linenPlace tDays (5 : Int32)) = tLen then (-9 : Int32) else (m_X3_linenPlace tDays (5 : Int32))) → G X D 3 [(aRT, .inr (3, [.ref aSh, .int tStart, .int tLen, .int tDays, .int z_tLin])), (aSh, .inr (4, [.ref aShA, .int sHas, .int sLane, .int sLen])), (aShA, .inl (cI, 60, .inl sA))] [(1, .int (m_X3_linenPlace tDays (5 : Int32))), (0, .ref aRT)] 131 (.int vK :: []) := by
        intro vK hvK
        subst hvK
        subst hres
        exact g_iret hC hX rfl dX3_firstFaultOfLinens_131 rfl rfl
      refine g_icmp_ne (tgt := 130) hC dX3_firstFaultOfLinens_122 (by decide) rfl (fun c_122 => ?_) (fun c_122 => ?_)
      · refine g_iload_n hC dX3_firstFaultOfLinens_130 rfl 0 rfl rfl ?_
        exact K_122 _ (if_neg c_122).symm
      · refine g_bipush (v := -9) hC dX3_firstFaultOfLinens_125 (by decide) rfl ?_
        refine g_goto (tgt := 131) hC dX3_firstFaultOfLinens_127 (by decide) ?_
        exact K_122 _ (if_pos c_122).symm
    · rw [if_neg c_9] at hres
      refine g_aload_n hC dX3_firstFaultOfLinens_12 rfl 0 rfl rfl ?_
      refine g_iload_n hC dX3_firstFaultOfLinens_13 rfl 1 rfl rfl ?_
      refine g_callV (ws' := [(aRT, .inr (3, [.ref aSh, .int tStart, .int tLen, .int tDays, .int z_tLin])), (aSh, .inr (4, [.ref aShA, .int sHas, .int sLane, .int sLen])), (aShA, .inl (cI, 60, .inl sA))]) (st' := [.int (m_X3_linenPlace tDays y1)]) (nw := 3) (n1 := 1) hC gX3_firstFaultOfLinens_X3_linenPlace hdV_yX3_linenPlace 0 rfl rfl (As := [.int y1]) (rest := []) (c_X3_linenPlace D cI aRT aSh tStart tLen tDays z_tLin y1) rfl ⟨by decide, by decide⟩ rfl [0] [1, 2] [2, 0, 1] [0] rfl rfl rfl rfl (by decide) rfl rfl (Nat.le_of_ble_eq_true rfl) dX3_firstFaultOfLinens_14 rfl rfl ?_
      refine g_istore_n (lv' := [(2, .int (m_X3_linenPlace tDays y1)), (0, .ref aRT), (1, .int y1)]) hC dX3_firstFaultOfLinens_17 rfl (by decide) rfl rfl ?_
      refine g_iload_n hC dX3_firstFaultOfLinens_18 rfl 2 rfl rfl ?_
      refine g_if_le (tgt := 33) hC dX3_firstFaultOfLinens_19 (by decide) rfl (fun c_19 => ?_) (fun c_19 => ?_)
      · rw [if_pos c_19] at hres
        refine g_aload_n hC dX3_firstFaultOfLinens_33 rfl 1 rfl rfl ?_
        refine g_iload_n hC dX3_firstFaultOfLinens_34 rfl 0 rfl rfl ?_
        refine g_callV (ws' := [(aRT, .inr (3, [.ref aSh, .int tStart, .int tLen, .int tDays, .int z_tLin])), (aSh, .inr (4, [.ref aShA, .int sHas, .int sLane, .int sLen])), (aShA, .inl (cI, 60, .inl sA))]) (st' := [.int (m_X3_codeAt tStart tLen sA (m_X3_linenPlace tDays y1))]) (nw := 3) (n1 := 3) hC gX3_firstFaultOfLinens_X3_codeAt hdV_yX3_codeAt 0 rfl rfl (As := [.int (m_X3_linenPlace tDays y1)]) (rest := []) (c_X3_codeAt D cI aRT aSh tStart tLen tDays z_tLin aShA sHas sLane sLen sA (m_X3_linenPlace tDays y1)) rfl ⟨by decide, by decide⟩ rfl [0, 1, 2] [] [0, 1, 2] [0] rfl rfl rfl rfl (by decide) rfl rfl (Nat.le_of_ble_eq_true rfl) dX3_firstFaultOfLinens_35 rfl rfl ?_
        refine g_bipush (v := 59) hC dX3_firstFaultOfLinens_38 (by decide) rfl ?_
        refine g_icmp_eq (tgt := 45) hC dX3_firstFaultOfLinens_40 (by decide) rfl (fun c_40 => ?_) (fun c_40 => ?_)
        · rw [if_pos c_40] at hres
          refine g_aload_n hC dX3_firstFaultOfLinens_45 rfl 1 rfl rfl ?_
          refine g_iload_n hC dX3_firstFaultOfLinens_46 rfl 0 rfl rfl ?_
          refine g_iconst (v := 1) hC dX3_firstFaultOfLinens_47 (by decide) rfl ?_
          refine g_iadd hC dX3_firstFaultOfLinens_48 rfl ?_
          refine g_callV (ws' := [(aRT, .inr (3, [.ref aSh, .int tStart, .int tLen, .int tDays, .int z_tLin])), (aSh, .inr (4, [.ref aShA, .int sHas, .int sLane, .int sLen])), (aShA, .inl (cI, 60, .inl sA))]) (st' := [.int (m_X3_codeAt tStart tLen sA ((m_X3_linenPlace tDays y1) + (1 : Int32)))]) (nw := 3) (n1 := 3) hC gX3_firstFaultOfLinens_X3_codeAt hdV_yX3_codeAt 0 rfl rfl (As := [.int ((m_X3_linenPlace tDays y1) + (1 : Int32))]) (rest := []) (c_X3_codeAt D cI aRT aSh tStart tLen tDays z_tLin aShA sHas sLane sLen sA ((m_X3_linenPlace tDays y1) + (1 : Int32))) rfl ⟨by decide, by decide⟩ rfl [0, 1, 2] [] [0, 1, 2] [0] rfl rfl rfl rfl (by decide) rfl rfl (Nat.le_of_ble_eq_true rfl) dX3_firstFaultOfLinens_49 rfl rfl ?_
          refine g_callS (ws' := [(aRT, .inr (3, [.ref aSh, .int tStart, .int tLen, .int tDays, .int z_tLin])), (aSh, .inr (4, [.ref aShA, .int sHas, .int sLane, .int sLen])), (aShA, .inl (cI, 60, .inl sA))]) (st' := [.int (m_X3_kindOfLetter (m_X3_codeAt tStart tLen sA ((m_X3_linenPlace tDays y1) + (1 : Int32))))]) (nw := 3) (n1 := 0) hC gX3_firstFaultOfLinens_X3_kindOfLetter hdS_yX3_kindOfLetter (As := [.int (m_X3_codeAt tStart tLen sA ((m_X3_linenPlace tDays y1) + (1 : Int32)))]) (rest := []) (c_X3_kindOfLetter D cI (m_X3_codeAt tStart tLen sA ((m_X3_linenPlace tDays y1) + (1 : Int32)))) rfl ⟨by decide, by decide⟩ rfl [] [0, 1, 2] [0, 1, 2] [0] rfl rfl rfl rfl (by decide) rfl rfl (Nat.le_of_ble_eq_true rfl) dX3_firstFaultOfLinens_52 rfl rfl ?_
          refine g_bipush (v := -9) hC dX3_firstFaultOfLinens_55 (by decide) rfl ?_
          refine g_icmp_ne (tgt := 64) hC dX3_firstFaultOfLinens_57 (by decide) rfl (fun c_57 => ?_) (fun c_57 => ?_)
          · rw [if_neg c_57] at hres
            refine g_aload_n hC dX3_firstFaultOfLinens_64 rfl 1 rfl rfl ?_
            refine g_iload_n hC dX3_firstFaultOfLinens_65 rfl 0 rfl rfl ?_
            refine g_iconst (v := 2) hC dX3_firstFaultOfLinens_66 (by decide) rfl ?_
            refine g_iadd hC dX3_firstFaultOfLinens_67 rfl ?_
            refine g_iconst (v := 3) hC dX3_firstFaultOfLinens_68 (by decide) rfl ?_
            refine g_callV (ws' := [(aRT, .inr (3, [.ref aSh, .int tStart, .int tLen, .int tDays, .int z_tLin])), (aSh, .inr (4, [.ref aShA, .int sHas, .int sLane, .int sLen])), (aShA, .inl (cI, 60, .inl sA))]) (st' := [.int (m_X3_hasDigit tStart tLen sA ((m_X3_linenPlace tDays y1) + (2 : Int32)) (3 : Int32))]) (nw := 3) (n1 := 3) hC gX3_firstFaultOfLinens_X3_hasDigit hdV_yX3_hasDigit 0 rfl rfl (As := [.int ((m_X3_linenPlace tDays y1) + (2 : Int32)), .int (3 : Int32)]) (rest := []) (c_X3_hasDigit D cI aRT aSh tStart tLen tDays z_tLin aShA sHas sLane sLen sA ((m_X3_linenPlace tDays y1) + (2 : Int32)) (3 : Int32)) rfl ⟨by decide, by decide⟩ rfl [0, 1, 2] [] [0, 1, 2] [0] rfl rfl rfl rfl (by decide) rfl rfl (Nat.le_of_ble_eq_true rfl) dX3_firstFaultOfLinens_69 rfl rfl ?_
            refine g_if_ne (tgt := 79) hC dX3_firstFaultOfLinens_72 (by decide) rfl (fun c_72 => ?_) (fun c_72 => ?_)
            · rw [if_neg c_72] at hres
              refine g_aload_n hC dX3_firstFaultOfLinens_79 rfl 1 rfl rfl ?_
              refine g_iload_n hC dX3_firstFaultOfLinens_80 rfl 0 rfl rfl ?_
              refine g_iconst (v := 3) hC dX3_firstFaultOfLinens_81 (by decide) rfl ?_
              refine g_iadd hC dX3_firstFaultOfLinens_82 rfl ?_
              refine g_bipush (v := 9) hC dX3_firstFaultOfLinens_83 (by decide) rfl ?_
              refine g_callV (ws' := [(aRT, .inr (3, [.ref aSh, .int tStart, .int tLen, .int tDays, .int z_tLin])), (aSh, .inr (4, [.ref aShA, .int sHas, .int sLane, .int sLen])), (aShA, .inl (cI, 60, .inl sA))]) (st' := [.int (m_X3_hasDigit tStart tLen sA ((m_X3_linenPlace tDays y1) + (3 : Int32)) (9 : Int32))]) (nw := 3) (n1 := 3) hC gX3_firstFaultOfLinens_X3_hasDigit hdV_yX3_hasDigit 0 rfl rfl (As := [.int ((m_X3_linenPlace tDays y1) + (3 : Int32)), .int (9 : Int32)]) (rest := []) (c_X3_hasDigit D cI aRT aSh tStart tLen tDays z_tLin aShA sHas sLane sLen sA ((m_X3_linenPlace tDays y1) + (3 : Int32)) (9 : Int32)) rfl ⟨by decide, by decide⟩ rfl [0, 1, 2] [] [0, 1, 2] [0] rfl rfl rfl rfl (by decide) rfl rfl (Nat.le_of_ble_eq_true rfl) dX3_firstFaultOfLinens_85 rfl rfl ?_
              refine g_if_ne (tgt := 95) hC dX3_firstFaultOfLinens_88 (by decide) rfl (fun c_88 => ?_) (fun c_88 => ?_)
              · rw [if_neg c_88] at hres
                refine g_aload_n hC dX3_firstFaultOfLinens_95 rfl 1 rfl rfl ?_
                refine g_dup hC dX3_firstFaultOfLinens_96 rfl rfl ?_
                refine g_get hC iw_X3_firstFaultOfLinens_RX3 0 rfl rfl 4 (by decide) (List.mem_of_getElem? (i := 1) rfl) rfl rfl dX3_firstFaultOfLinens_97 rfl ?_
                refine g_iconst (v := 1) hC dX3_firstFaultOfLinens_100 (by decide) rfl ?_
                refine g_iadd hC dX3_firstFaultOfLinens_101 rfl ?_
                refine g_put (ws' := [(aRT, .inr (3, [.ref aSh, .int tStart, .int tLen, .int tDays, .int (z_tLin + (1 : Int32))])), (aSh, .inr (4, [.ref aShA, .int sHas, .int sLane, .int sLen])), (aShA, .inl (cI, 60, .inl sA))]) hC iw_X3_firstFaultOfLinens_RX3 0 rfl rfl 4 (by decide) (List.mem_of_getElem? (i := 1) rfl) rfl tyX3 tyX3_ok nmX3 rfl rfl rfl (Nat.le_of_ble_eq_true rfl) rfl dX3_firstFaultOfLinens_102 rfl ?_
                refine g_iinc (v := (y1 + 1)) (lv' := [(1, .int (y1 + 1)), (2, .int (m_X3_linenPlace tDays y1)), (0, .ref aRT)]) hC dX3_firstFaultOfLinens_105 2 rfl rfl (by decide) rfl rfl ?_
                refine g_goto (tgt := 7) hC dX3_firstFaultOfLinens_108 (by decide) ?_
                refine g_sub [2, 0] rfl ?_
                exact ih (y1 + 1) (z_tLin + (1 : Int32)) (up_dec c_9 hm) (up_nn c_9 h0_y1) hres
              · rw [if_pos c_88] at hres
                refine g_iload_n hC dX3_firstFaultOfLinens_91 rfl 0 rfl rfl ?_
                refine g_iconst (v := 3) hC dX3_firstFaultOfLinens_92 (by decide) rfl ?_
                refine g_iadd hC dX3_firstFaultOfLinens_93 rfl ?_
                subst hres
                exact g_iret hC hX rfl dX3_firstFaultOfLinens_94 rfl rfl
            · rw [if_pos c_72] at hres
              refine g_iload_n hC dX3_firstFaultOfLinens_75 rfl 0 rfl rfl ?_
              refine g_iconst (v := 2) hC dX3_firstFaultOfLinens_76 (by decide) rfl ?_
              refine g_iadd hC dX3_firstFaultOfLinens_77 rfl ?_
              subst hres
              exact g_iret hC hX rfl dX3_firstFaultOfLinens_78 rfl rfl
          · rw [if_pos c_57] at hres
            refine g_iload_n hC dX3_firstFaultOfLinens_60 rfl 0 rfl rfl ?_
            refine g_iconst (v := 1) hC dX3_firstFaultOfLinens_61 (by decide) rfl ?_
            refine g_iadd hC dX3_firstFaultOfLinens_62 rfl ?_
            subst hres
            exact g_iret hC hX rfl dX3_firstFaultOfLinens_63 rfl rfl
        · rw [if_neg c_40] at hres
          refine g_iload_n hC dX3_firstFaultOfLinens_43 rfl 0 rfl rfl ?_
          subst hres
          exact g_iret hC hX rfl dX3_firstFaultOfLinens_44 rfl rfl
      · rw [if_neg c_19] at hres
        refine g_iload_n hC dX3_firstFaultOfLinens_22 rfl 0 rfl rfl ?_
        refine g_aload_n hC dX3_firstFaultOfLinens_23 rfl 1 rfl rfl ?_
        refine g_get hC iw_X3_firstFaultOfLinens_RX3 0 rfl rfl 2 (by decide) (List.mem_of_getElem? (i := 2) rfl) rfl rfl dX3_firstFaultOfLinens_24 rfl ?_
        refine g_icmp_ne (tgt := 33) hC dX3_firstFaultOfLinens_27 (by decide) rfl (fun c_27 => ?_) (fun c_27 => ?_)
        · rw [if_neg c_27] at hres
          refine g_aload_n hC dX3_firstFaultOfLinens_33 rfl 1 rfl rfl ?_
          refine g_iload_n hC dX3_firstFaultOfLinens_34 rfl 0 rfl rfl ?_
          refine g_callV (ws' := [(aRT, .inr (3, [.ref aSh, .int tStart, .int tLen, .int tDays, .int z_tLin])), (aSh, .inr (4, [.ref aShA, .int sHas, .int sLane, .int sLen])), (aShA, .inl (cI, 60, .inl sA))]) (st' := [.int (m_X3_codeAt tStart tLen sA (m_X3_linenPlace tDays y1))]) (nw := 3) (n1 := 3) hC gX3_firstFaultOfLinens_X3_codeAt hdV_yX3_codeAt 0 rfl rfl (As := [.int (m_X3_linenPlace tDays y1)]) (rest := []) (c_X3_codeAt D cI aRT aSh tStart tLen tDays z_tLin aShA sHas sLane sLen sA (m_X3_linenPlace tDays y1)) rfl ⟨by decide, by decide⟩ rfl [0, 1, 2] [] [0, 1, 2] [0] rfl rfl rfl rfl (by decide) rfl rfl (Nat.le_of_ble_eq_true rfl) dX3_firstFaultOfLinens_35 rfl rfl ?_
          refine g_bipush (v := 59) hC dX3_firstFaultOfLinens_38 (by decide) rfl ?_
          refine g_icmp_eq (tgt := 45) hC dX3_firstFaultOfLinens_40 (by decide) rfl (fun c_40 => ?_) (fun c_40 => ?_)
          · rw [if_pos c_40] at hres
            refine g_aload_n hC dX3_firstFaultOfLinens_45 rfl 1 rfl rfl ?_
            refine g_iload_n hC dX3_firstFaultOfLinens_46 rfl 0 rfl rfl ?_
            refine g_iconst (v := 1) hC dX3_firstFaultOfLinens_47 (by decide) rfl ?_
            refine g_iadd hC dX3_firstFaultOfLinens_48 rfl ?_
            refine g_callV (ws' := [(aRT, .inr (3, [.ref aSh, .int tStart, .int tLen, .int tDays, .int z_tLin])), (aSh, .inr (4, [.ref aShA, .int sHas, .int sLane, .int sLen])), (aShA, .inl (cI, 60, .inl sA))]) (st' := [.int (m_X3_codeAt tStart tLen sA ((m_X3_linenPlace tDays y1) + (1 : Int32)))]) (nw := 3) (n1 := 3) hC gX3_firstFaultOfLinens_X3_codeAt hdV_yX3_codeAt 0 rfl rfl (As := [.int ((m_X3_linenPlace tDays y1) + (1 : Int32))]) (rest := []) (c_X3_codeAt D cI aRT aSh tStart tLen tDays z_tLin aShA sHas sLane sLen sA ((m_X3_linenPlace tDays y1) + (1 : Int32))) rfl ⟨by decide, by decide⟩ rfl [0, 1, 2] [] [0, 1, 2] [0] rfl rfl rfl rfl (by decide) rfl rfl (Nat.le_of_ble_eq_true rfl) dX3_firstFaultOfLinens_49 rfl rfl ?_
            refine g_callS (ws' := [(aRT, .inr (3, [.ref aSh, .int tStart, .int tLen, .int tDays, .int z_tLin])), (aSh, .inr (4, [.ref aShA, .int sHas, .int sLane, .int sLen])), (aShA, .inl (cI, 60, .inl sA))]) (st' := [.int (m_X3_kindOfLetter (m_X3_codeAt tStart tLen sA ((m_X3_linenPlace tDays y1) + (1 : Int32))))]) (nw := 3) (n1 := 0) hC gX3_firstFaultOfLinens_X3_kindOfLetter hdS_yX3_kindOfLetter (As := [.int (m_X3_codeAt tStart tLen sA ((m_X3_linenPlace tDays y1) + (1 : Int32)))]) (rest := []) (c_X3_kindOfLetter D cI (m_X3_codeAt tStart tLen sA ((m_X3_linenPlace tDays y1) + (1 : Int32)))) rfl ⟨by decide, by decide⟩ rfl [] [0, 1, 2] [0, 1, 2] [0] rfl rfl rfl rfl (by decide) rfl rfl (Nat.le_of_ble_eq_true rfl) dX3_firstFaultOfLinens_52 rfl rfl ?_
            refine g_bipush (v := -9) hC dX3_firstFaultOfLinens_55 (by decide) rfl ?_
            refine g_icmp_ne (tgt := 64) hC dX3_firstFaultOfLinens_57 (by decide) rfl (fun c_57 => ?_) (fun c_57 => ?_)
            · rw [if_neg c_57] at hres
              refine g_aload_n hC dX3_firstFaultOfLinens_64 rfl 1 rfl rfl ?_
              refine g_iload_n hC dX3_firstFaultOfLinens_65 rfl 0 rfl rfl ?_
              refine g_iconst (v := 2) hC dX3_firstFaultOfLinens_66 (by decide) rfl ?_
              refine g_iadd hC dX3_firstFaultOfLinens_67 rfl ?_
              refine g_iconst (v := 3) hC dX3_firstFaultOfLinens_68 (by decide) rfl ?_
              refine g_callV (ws' := [(aRT, .inr (3, [.ref aSh, .int tStart, .int tLen, .int tDays, .int z_tLin])), (aSh, .inr (4, [.ref aShA, .int sHas, .int sLane, .int sLen])), (aShA, .inl (cI, 60, .inl sA))]) (st' := [.int (m_X3_hasDigit tStart tLen sA ((m_X3_linenPlace tDays y1) + (2 : Int32)) (3 : Int32))]) (nw := 3) (n1 := 3) hC gX3_firstFaultOfLinens_X3_hasDigit hdV_yX3_hasDigit 0 rfl rfl (As := [.int ((m_X3_linenPlace tDays y1) + (2 : Int32)), .int (3 : Int32)]) (rest := []) (c_X3_hasDigit D cI aRT aSh tStart tLen tDays z_tLin aShA sHas sLane sLen sA ((m_X3_linenPlace tDays y1) + (2 : Int32)) (3 : Int32)) rfl ⟨by decide, by decide⟩ rfl [0, 1, 2] [] [0, 1, 2] [0] rfl rfl rfl rfl (by decide) rfl rfl (Nat.le_of_ble_eq_true rfl) dX3_firstFaultOfLinens_69 rfl rfl ?_
              refine g_if_ne (tgt := 79) hC dX3_firstFaultOfLinens_72 (by decide) rfl (fun c_72 => ?_) (fun c_72 => ?_)
              · rw [if_neg c_72] at hres
                refine g_aload_n hC dX3_firstFaultOfLinens_79 rfl 1 rfl rfl ?_
                refine g_iload_n hC dX3_firstFaultOfLinens_80 rfl 0 rfl rfl ?_
                refine g_iconst (v := 3) hC dX3_firstFaultOfLinens_81 (by decide) rfl ?_
                refine g_iadd hC dX3_firstFaultOfLinens_82 rfl ?_
                refine g_bipush (v := 9) hC dX3_firstFaultOfLinens_83 (by decide) rfl ?_
                refine g_callV (ws' := [(aRT, .inr (3, [.ref aSh, .int tStart, .int tLen, .int tDays, .int z_tLin])), (aSh, .inr (4, [.ref aShA, .int sHas, .int sLane, .int sLen])), (aShA, .inl (cI, 60, .inl sA))]) (st' := [.int (m_X3_hasDigit tStart tLen sA ((m_X3_linenPlace tDays y1) + (3 : Int32)) (9 : Int32))]) (nw := 3) (n1 := 3) hC gX3_firstFaultOfLinens_X3_hasDigit hdV_yX3_hasDigit 0 rfl rfl (As := [.int ((m_X3_linenPlace tDays y1) + (3 : Int32)), .int (9 : Int32)]) (rest := []) (c_X3_hasDigit D cI aRT aSh tStart tLen tDays z_tLin aShA sHas sLane sLen sA ((m_X3_linenPlace tDays y1) + (3 : Int32)) (9 : Int32)) rfl ⟨by decide, by decide⟩ rfl [0, 1, 2] [] [0, 1, 2] [0] rfl rfl rfl rfl (by decide) rfl rfl (Nat.le_of_ble_eq_true rfl) dX3_firstFaultOfLinens_85 rfl rfl ?_
                refine g_if_ne (tgt := 95) hC dX3_firstFaultOfLinens_88 (by decide) rfl (fun c_88 => ?_) (fun c_88 => ?_)
                · rw [if_neg c_88] at hres
                  refine g_aload_n hC dX3_firstFaultOfLinens_95 rfl 1 rfl rfl ?_
                  refine g_dup hC dX3_firstFaultOfLinens_96 rfl rfl ?_
                  refine g_get hC iw_X3_firstFaultOfLinens_RX3 0 rfl rfl 4 (by decide) (List.mem_of_getElem? (i := 1) rfl) rfl rfl dX3_firstFaultOfLinens_97 rfl ?_
                  refine g_iconst (v := 1) hC dX3_firstFaultOfLinens_100 (by decide) rfl ?_
                  refine g_iadd hC dX3_firstFaultOfLinens_101 rfl ?_
                  refine g_put (ws' := [(aRT, .inr (3, [.ref aSh, .int tStart, .int tLen, .int tDays, .int (z_tLin + (1 : Int32))])), (aSh, .inr (4, [.ref aShA, .int sHas, .int sLane, .int sLen])), (aShA, .inl (cI, 60, .inl sA))]) hC iw_X3_firstFaultOfLinens_RX3 0 rfl rfl 4 (by decide) (List.mem_of_getElem? (i := 1) rfl) rfl tyX3 tyX3_ok nmX3 rfl rfl rfl (Nat.le_of_ble_eq_true rfl) rfl dX3_firstFaultOfLinens_102 rfl ?_
                  refine g_iinc (v := (y1 + 1)) (lv' := [(1, .int (y1 + 1)), (2, .int (m_X3_linenPlace tDays y1)), (0, .ref aRT)]) hC dX3_firstFaultOfLinens_105 2 rfl rfl (by decide) rfl rfl ?_
                  refine g_goto (tgt := 7) hC dX3_firstFaultOfLinens_108 (by decide) ?_
                  refine g_sub [2, 0] rfl ?_
                  exact ih (y1 + 1) (z_tLin + (1 : Int32)) (up_dec c_9 hm) (up_nn c_9 h0_y1) hres
                · rw [if_pos c_88] at hres
                  refine g_iload_n hC dX3_firstFaultOfLinens_91 rfl 0 rfl rfl ?_
                  refine g_iconst (v := 3) hC dX3_firstFaultOfLinens_92 (by decide) rfl ?_
                  refine g_iadd hC dX3_firstFaultOfLinens_93 rfl ?_
                  subst hres
                  exact g_iret hC hX rfl dX3_firstFaultOfLinens_94 rfl rfl
              · rw [if_pos c_72] at hres
                refine g_iload_n hC dX3_firstFaultOfLinens_75 rfl 0 rfl rfl ?_
                refine g_iconst (v := 2) hC dX3_firstFaultOfLinens_76 (by decide) rfl ?_
                refine g_iadd hC dX3_firstFaultOfLinens_77 rfl ?_
                subst hres
                exact g_iret hC hX rfl dX3_firstFaultOfLinens_78 rfl rfl
            · rw [if_pos c_57] at hres
              refine g_iload_n hC dX3_firstFaultOfLinens_60 rfl 0 rfl rfl ?_
              refine g_iconst (v := 1) hC dX3_firstFaultOfLinens_61 (by decide) rfl ?_
              refine g_iadd hC dX3_firstFaultOfLinens_62 rfl ?_
              subst hres
              exact g_iret hC hX rfl dX3_firstFaultOfLinens_63 rfl rfl
          · rw [if_neg c_40] at hres
            refine g_iload_n hC dX3_firstFaultOfLinens_43 rfl 0 rfl rfl ?_
            subst hres
            exact g_iret hC hX rfl dX3_firstFaultOfLinens_44 rfl rfl
        · rw [if_pos c_27] at hres
          refine g_bipush (v := -9) hC dX3_firstFaultOfLinens_30 (by decide) rfl ?_
          subst hres
          exact g_iret hC hX rfl dX3_firstFaultOfLinens_32 rfl rfl
set_option maxRecDepth 100000 in
set_option maxHeartbeats 4000000 in
theorem c_X3_firstFaultOfLinens (D : va_G) (cI : ClassId) (aRT : Nat) (aSh : Nat) (tStart : Int32) (tLen : Int32) (tDays : Int32) (tLin : Int32) (aShA : Nat) (sHas : Int32) (sLane : Int32) (sLen : Int32) (sA : Nat → Int32) : MC yX3_firstFaultOfLinens wsX3_firstFaultOfLinens ({ frames := 4, cells := 0, slots := 0, locals := 85 } : Room) D [(cI, .int)] [.ref aRT] [(aRT, .inr (3, [.ref aSh, .int tStart, .int tLen, .int tDays, .int tLin])), (aSh, .inr (4, [.ref aShA, .int sHas, .int sLane, .int sLen])), (aShA, .inl (cI, 60, .inl sA))] (some (.int ((m_X3_firstFaultOfLinens tStart tLen tDays sA).1))) [(aRT, .inr (3, [.ref aSh, .int tStart, .int tLen, .int tDays, .int ((m_X3_firstFaultOfLinens tStart tLen tDays sA).2)])), (aSh, .inr (4, [.ref aShA, .int sHas, .int sLane, .int sLen])), (aShA, .inl (cI, 60, .inl sA))] := by
  refine g_entry (by decide) rfl rfl rfl rfl (Nat.le_of_ble_eq_true rfl) (lv := [(0, .ref aRT)]) rfl ?_
  intro X hC hX
  obtain ⟨res, hres⟩ : ∃ z, z = (m_X3_firstFaultOfLinens tStart tLen tDays sA) := ⟨_, rfl⟩
  rw [← hres] at hX
  rw [m_X3_firstFaultOfLinens] at hres
  refine g_aload_n hC dX3_firstFaultOfLinens_0 rfl 0 rfl rfl ?_
  refine g_iconst (v := 0) hC dX3_firstFaultOfLinens_1 (by decide) rfl ?_
  refine g_put (ws' := [(aRT, .inr (3, [.ref aSh, .int tStart, .int tLen, .int tDays, .int (0 : Int32)])), (aSh, .inr (4, [.ref aShA, .int sHas, .int sLane, .int sLen])), (aShA, .inl (cI, 60, .inl sA))]) hC iw_X3_firstFaultOfLinens_RX3 0 rfl rfl 4 (by decide) (List.mem_of_getElem? (i := 1) rfl) rfl tyX3 tyX3_ok nmX3 rfl rfl rfl (Nat.le_of_ble_eq_true rfl) rfl dX3_firstFaultOfLinens_2 rfl ?_
  refine g_iconst (v := 0) hC dX3_firstFaultOfLinens_5 (by decide) rfl ?_
  refine g_istore_n (lv' := [(1, .int (0 : Int32)), (0, .ref aRT)]) hC dX3_firstFaultOfLinens_6 rfl (by decide) rfl rfl ?_
  refine g_sub [1, 0] rfl ?_
  exact l_X3_firstFaultOfLinens_7 D cI aRT aSh tStart tLen tDays tLin aShA sHas sLane sLen sA  hC hX (((5 : Int32).toInt - (0 : Int32).toInt).toNat + 1) (0 : Int32) (0 : Int32) (Nat.lt_succ_self _) (by decide) hres
theorem iw_X3_firstFault_RX3 : ∀ w ∈ wsX30, w ∈ wsX3_firstFault := fun _ h => List.mem_cons_of_mem _ (List.mem_append_left _ (List.mem_append_right _ (h)))
def m_X3_firstFault_76 : Nat → (Nat → Int32) → Int32 → Int32 → Int32 → Int32 → Int32 → (Int32 × Int32 × Int32)
  | 0, _, _, _, _, _, _ => default
  | fu + 1, sA, i, n, k_tLin, y4, z_tDays => (if (6 : Int32) ≤ y4 then (if z_tDays = 0 then ((6 : Int32), z_tDays, k_tLin) else ((m_X3_firstFaultOfLinens i n z_tDays sA).1, z_tDays, (m_X3_firstFaultOfLinens i n z_tDays sA).2)) else (if (m_X3_hasDigit i n sA ((6 : Int32) + y4) (9 : Int32)) = 0 then (if z_tDays = 0 then ((6 : Int32), z_tDays, k_tLin) else ((m_X3_firstFaultOfLinens i n z_tDays sA).1, z_tDays, (m_X3_firstFaultOfLinens i n z_tDays sA).2)) else (m_X3_firstFault_76 fu sA i n k_tLin (y4 + 1) (z_tDays + (1 : Int32)))))
def m_X3_firstFault_30 : Nat → (Nat → Int32) → Int32 → Int32 → Int32 → Int32 → Int32 → (Int32 × Int32 × Int32)
  | 0, _, _, _, _, _, _ => default
  | fu + 1, sA, i, n, k_tDays, k_tLin, y4 => (if (5 : Int32) ≤ y4 then (if (m_X3_codeAt i n sA (5 : Int32)) = (44 : Int32) then (m_X3_firstFault_76 (((6 : Int32).toInt - (0 : Int32).toInt).toNat + 1) sA i n k_tLin (0 : Int32) (0 : Int32)) else ((5 : Int32), k_tDays, k_tLin)) else (if (m_X3_hasDigit i n sA y4 (9 : Int32)) = 0 then (y4, k_tDays, k_tLin) else (m_X3_firstFault_30 fu sA i n k_tDays k_tLin (y4 + 1))))
def m_X3_firstFault (tDays : Int32) (tLin : Int32) (sA : Nat → Int32) (i : Int32) (n : Int32) : (Int32 × Int32 × Int32) := (if (m_X3_codeAt i n sA (0 : Int32)) = (107 : Int32) then (m_X3_firstFault_30 (((5 : Int32).toInt - (1 : Int32).toInt).toNat + 1) sA i n tDays tLin (1 : Int32)) else ((0 : Int32), tDays, tLin))
set_option maxRecDepth 100000 in
set_option maxHeartbeats 4000000 in
theorem l_X3_firstFault_76 {X : gX} (D : va_G) (cI : ClassId) (aRT : Nat) (tSrc : Option Nat) (tStart : Int32) (tLen : Int32) (tDays : Int32) (tLin : Int32) (aSh : Nat) (aShA : Nat) (sHas : Int32) (sLane : Int32) (sLen : Int32) (sA : Nat → Int32) (i : Int32) (n : Int32) (k_tLin : Int32) (hC : Cx X cX3_firstFault 5 RX3 wsX3_firstFault D [(cI, .int)] ({ frames := 5, cells := 0, slots := 0, locals := 107 } : Room) (some .int)) {res : (Int32 × Int32 × Int32)} (hX : Rx X D (some (.int res.1)) [(aRT, .inr (3, [.ref aSh, .int i, .int n, .int res.2.1, .int res.2.2])), (aSh, .inr (4, [.ref aShA, .int sHas, .int sLane, .int sLen])), (aShA, .inl (cI, 60, .inl sA))]) : ∀ (fu : Nat) (y4 : Int32) (z_tDays : Int32) (hm : ((6 : Int32).toInt - y4.toInt).toNat < fu) (h0_y4 : 0 ≤ y4.toInt) (hres : res = m_X3_firstFault_76 fu sA i n k_tLin y4 z_tDays), G X D 5 [(aRT, .inr (3, [.ref aSh, .int i, .int n, .int z_tDays, .int k_tLin])), (aSh, .inr (4, [.ref aShA, .int sHas, .int sLane, .int sLen])), (aShA, .inl (cI, 60, .inl sA))] [(0, .ref aRT), (4, .int y4)] 76 [] := by
  intro fu
  induction fu with
  | zero =>
    intro y4 z_tDays hm
    exact absurd hm (Nat.not_lt_zero _)
  | succ fu ih =>
    intro y4 z_tDays hm h0_y4 hres
    rw [m_X3_firstFault_76] at hres
    refine g_iload hC dX3_firstFault_76 1 rfl rfl ?_
    refine g_bipush (v := 6) hC dX3_firstFault_78 (by decide) rfl ?_
    refine g_icmp_ge (tgt := 113) hC dX3_firstFault_80 (by decide) rfl (fun c_80 => ?_) (fun c_80 => ?_)
    · rw [if_pos c_80] at hres
      refine g_aload_n hC dX3_firstFault_113 rfl 0 rfl rfl ?_
      refine g_get hC iw_X3_firstFault_RX3 0 rfl rfl 3 (by decide) (List.mem_of_getElem? (i := 4) rfl) rfl rfl dX3_firstFault_114 rfl ?_
      refine g_if_ne (tgt := 125) hC dX3_firstFault_117 (by decide) rfl (fun c_117 => ?_) (fun c_117 => ?_)
      · rw [if_neg c_117] at hres
        refine g_aload_n hC dX3_firstFault_125 rfl 0 rfl rfl ?_
        refine g_callV (ws' := [(aRT, .inr (3, [.ref aSh, .int i, .int n, .int z_tDays, .int ((m_X3_firstFaultOfLinens i n z_tDays sA).2)])), (aSh, .inr (4, [.ref aShA, .int sHas, .int sLane, .int sLen])), (aShA, .inl (cI, 60, .inl sA))]) (st' := [.int ((m_X3_firstFaultOfLinens i n z_tDays sA).1)]) (nw := 3) (n1 := 3) hC gX3_firstFault_X3_firstFaultOfLinens hdV_yX3_firstFaultOfLinens 0 rfl rfl (As := []) (rest := []) (c_X3_firstFaultOfLinens D cI aRT aSh i n z_tDays k_tLin aShA sHas sLane sLen sA) rfl ⟨by decide, by decide⟩ rfl [0, 1, 2] [] [0, 1, 2] [0] rfl rfl rfl rfl (by decide) rfl rfl (Nat.le_of_ble_eq_true rfl) dX3_firstFault_126 rfl rfl ?_
        subst hres
        exact g_iret hC hX rfl dX3_firstFault_129 rfl rfl
      · rw [if_pos c_117] at hres
        refine g_bipush (v := 6) hC dX3_firstFault_120 (by decide) rfl ?_
        refine g_goto (tgt := 129) hC dX3_firstFault_122 (by decide) ?_
        subst hres
        exact g_iret hC hX rfl dX3_firstFault_129 rfl rfl
    · rw [if_neg c_80] at hres
      refine g_aload_n hC dX3_firstFault_83 rfl 0 rfl rfl ?_
      refine g_bipush (v := 6) hC dX3_firstFault_84 (by decide) rfl ?_
      refine g_iload hC dX3_firstFault_86 1 rfl rfl ?_
      refine g_iadd hC dX3_firstFault_88 rfl ?_
      refine g_bipush (v := 9) hC dX3_firstFault_89 (by decide) rfl ?_
      refine g_callV (ws' := [(aRT, .inr (3, [.ref aSh, .int i, .int n, .int z_tDays, .int k_tLin])), (aSh, .inr (4, [.ref aShA, .int sHas, .int sLane, .int sLen])), (aShA, .inl (cI, 60, .inl sA))]) (st' := [.int (m_X3_hasDigit i n sA ((6 : Int32) + y4) (9 : Int32))]) (nw := 3) (n1 := 3) hC gX3_firstFault_X3_hasDigit hdV_yX3_hasDigit 0 rfl rfl (As := [.int ((6 : Int32) + y4), .int (9 : Int32)]) (rest := []) (c_X3_hasDigit D cI aRT aSh i n z_tDays k_tLin aShA sHas sLane sLen sA ((6 : Int32) + y4) (9 : Int32)) rfl ⟨by decide, by decide⟩ rfl [0, 1, 2] [] [0, 1, 2] [0] rfl rfl rfl rfl (by decide) rfl rfl (Nat.le_of_ble_eq_true rfl) dX3_firstFault_91 rfl rfl ?_
      refine g_if_eq (tgt := 113) hC dX3_firstFault_94 (by decide) rfl (fun c_94 => ?_) (fun c_94 => ?_)
      · rw [if_pos c_94] at hres
        refine g_aload_n hC dX3_firstFault_113 rfl 0 rfl rfl ?_
        refine g_get hC iw_X3_firstFault_RX3 0 rfl rfl 3 (by decide) (List.mem_of_getElem? (i := 4) rfl) rfl rfl dX3_firstFault_114 rfl ?_
        refine g_if_ne (tgt := 125) hC dX3_firstFault_117 (by decide) rfl (fun c_117 => ?_) (fun c_117 => ?_)
        · rw [if_neg c_117] at hres
          refine g_aload_n hC dX3_firstFault_125 rfl 0 rfl rfl ?_
          refine g_callV (ws' := [(aRT, .inr (3, [.ref aSh, .int i, .int n, .int z_tDays, .int ((m_X3_firstFaultOfLinens i n z_tDays sA).2)])), (aSh, .inr (4, [.ref aShA, .int sHas, .int sLane, .int sLen])), (aShA, .inl (cI, 60, .inl sA))]) (st' := [.int ((m_X3_firstFaultOfLinens i n z_tDays sA).1)]) (nw := 3) (n1 := 3) hC gX3_firstFault_X3_firstFaultOfLinens hdV_yX3_firstFaultOfLinens 0 rfl rfl (As := []) (rest := []) (c_X3_firstFaultOfLinens D cI aRT aSh i n z_tDays k_tLin aShA sHas sLane sLen sA) rfl ⟨by decide, by decide⟩ rfl [0, 1, 2] [] [0, 1, 2] [0] rfl rfl rfl rfl (by decide) rfl rfl (Nat.le_of_ble_eq_true rfl) dX3_firstFault_126 rfl rfl ?_
          subst hres
          exact g_iret hC hX rfl dX3_firstFault_129 rfl rfl
        · rw [if_pos c_117] at hres
          refine g_bipush (v := 6) hC dX3_firstFault_120 (by decide) rfl ?_
          refine g_goto (tgt := 129) hC dX3_firstFault_122 (by decide) ?_
          subst hres
          exact g_iret hC hX rfl dX3_firstFault_129 rfl rfl
      · rw [if_neg c_94] at hres
        refine g_aload_n hC dX3_firstFault_97 rfl 0 rfl rfl ?_
        refine g_dup hC dX3_firstFault_98 rfl rfl ?_
        refine g_get hC iw_X3_firstFault_RX3 0 rfl rfl 3 (by decide) (List.mem_of_getElem? (i := 4) rfl) rfl rfl dX3_firstFault_99 rfl ?_
        refine g_iconst (v := 1) hC dX3_firstFault_102 (by decide) rfl ?_
        refine g_iadd hC dX3_firstFault_103 rfl ?_
        refine g_put (ws' := [(aRT, .inr (3, [.ref aSh, .int i, .int n, .int (z_tDays + (1 : Int32)), .int k_tLin])), (aSh, .inr (4, [.ref aShA, .int sHas, .int sLane, .int sLen])), (aShA, .inl (cI, 60, .inl sA))]) hC iw_X3_firstFault_RX3 0 rfl rfl 3 (by decide) (List.mem_of_getElem? (i := 4) rfl) rfl tyX3 tyX3_ok nmX3 rfl rfl rfl (Nat.le_of_ble_eq_true rfl) rfl dX3_firstFault_104 rfl ?_
        refine g_iinc (v := (y4 + 1)) (lv' := [(4, .int (y4 + 1)), (0, .ref aRT)]) hC dX3_firstFault_107 1 rfl rfl (by decide) rfl rfl ?_
        refine g_goto (tgt := 76) hC dX3_firstFault_110 (by decide) ?_
        refine g_sub [1, 0] rfl ?_
        exact ih (y4 + 1) (z_tDays + (1 : Int32)) (up_dec c_80 hm) (up_nn c_80 h0_y4) hres
set_option maxRecDepth 100000 in
set_option maxHeartbeats 4000000 in
theorem l_X3_firstFault_30 {X : gX} (D : va_G) (cI : ClassId) (aRT : Nat) (tSrc : Option Nat) (tStart : Int32) (tLen : Int32) (tDays : Int32) (tLin : Int32) (aSh : Nat) (aShA : Nat) (sHas : Int32) (sLane : Int32) (sLen : Int32) (sA : Nat → Int32) (i : Int32) (n : Int32) (k_tDays : Int32) (k_tLin : Int32) (hC : Cx X cX3_firstFault 5 RX3 wsX3_firstFault D [(cI, .int)] ({ frames := 5, cells := 0, slots := 0, locals := 107 } : Room) (some .int)) {res : (Int32 × Int32 × Int32)} (hX : Rx X D (some (.int res.1)) [(aRT, .inr (3, [.ref aSh, .int i, .int n, .int res.2.1, .int res.2.2])), (aSh, .inr (4, [.ref aShA, .int sHas, .int sLane, .int sLen])), (aShA, .inl (cI, 60, .inl sA))]) : ∀ (fu : Nat) (y4 : Int32) (hm : ((5 : Int32).toInt - y4.toInt).toNat < fu) (h0_y4 : 0 ≤ y4.toInt) (hres : res = m_X3_firstFault_30 fu sA i n k_tDays k_tLin y4), G X D 5 [(aRT, .inr (3, [.ref aSh, .int i, .int n, .int k_tDays, .int k_tLin])), (aSh, .inr (4, [.ref aShA, .int sHas, .int sLane, .int sLen])), (aShA, .inl (cI, 60, .inl sA))] [(0, .ref aRT), (4, .int y4)] 30 [] := by
  intro fu
  induction fu with
  | zero =>
    intro y4 hm
    exact absurd hm (Nat.not_lt_zero _)
  | succ fu ih =>
    intro y4 hm h0_y4 hres
    rw [m_X3_firstFault_30] at hres
    refine g_iload hC dX3_firstFault_30 1 rfl rfl ?_
    refine g_iconst (v := 5) hC dX3_firstFault_32 (by decide) rfl ?_
    refine g_icmp_ge (tgt := 56) hC dX3_firstFault_33 (by decide) rfl (fun c_33 => ?_) (fun c_33 => ?_)
    · rw [if_pos c_33] at hres
      refine g_aload_n hC dX3_firstFault_56 rfl 0 rfl rfl ?_
      refine g_iconst (v := 5) hC dX3_firstFault_57 (by decide) rfl ?_
      refine g_callV (ws' := [(aRT, .inr (3, [.ref aSh, .int i, .int n, .int k_tDays, .int k_tLin])), (aSh, .inr (4, [.ref aShA, .int sHas, .int sLane, .int sLen])), (aShA, .inl (cI, 60, .inl sA))]) (st' := [.int (m_X3_codeAt i n sA (5 : Int32))]) (nw := 3) (n1 := 3) hC gX3_firstFault_X3_codeAt hdV_yX3_codeAt 0 rfl rfl (As := [.int (5 : Int32)]) (rest := []) (c_X3_codeAt D cI aRT aSh i n k_tDays k_tLin aShA sHas sLane sLen sA (5 : Int32)) rfl ⟨by decide, by decide⟩ rfl [0, 1, 2] [] [0, 1, 2] [0] rfl rfl rfl rfl (by decide) rfl rfl (Nat.le_of_ble_eq_true rfl) dX3_firstFault_58 rfl rfl ?_
      refine g_bipush (v := 44) hC dX3_firstFault_61 (by decide) rfl ?_
      refine g_icmp_eq (tgt := 68) hC dX3_firstFault_63 (by decide) rfl (fun c_63 => ?_) (fun c_63 => ?_)
      · rw [if_pos c_63] at hres
        refine g_aload_n hC dX3_firstFault_68 rfl 0 rfl rfl ?_
        refine g_iconst (v := 0) hC dX3_firstFault_69 (by decide) rfl ?_
        refine g_put (ws' := [(aRT, .inr (3, [.ref aSh, .int i, .int n, .int (0 : Int32), .int k_tLin])), (aSh, .inr (4, [.ref aShA, .int sHas, .int sLane, .int sLen])), (aShA, .inl (cI, 60, .inl sA))]) hC iw_X3_firstFault_RX3 0 rfl rfl 3 (by decide) (List.mem_of_getElem? (i := 4) rfl) rfl tyX3 tyX3_ok nmX3 rfl rfl rfl (Nat.le_of_ble_eq_true rfl) rfl dX3_firstFault_70 rfl ?_
        refine g_iconst (v := 0) hC dX3_firstFault_73 (by decide) rfl ?_
        refine g_istore (lv' := [(4, .int (0 : Int32)), (0, .ref aRT)]) hC dX3_firstFault_74 (by decide) rfl rfl ?_
        refine g_sub [1, 0] rfl ?_
        exact l_X3_firstFault_76 D cI aRT tSrc tStart tLen tDays tLin aSh aShA sHas sLane sLen sA i n k_tLin  hC hX (((6 : Int32).toInt - (0 : Int32).toInt).toNat + 1) (0 : Int32) (0 : Int32) (Nat.lt_succ_self _) (by decide) hres
      · rw [if_neg c_63] at hres
        refine g_iconst (v := 5) hC dX3_firstFault_66 (by decide) rfl ?_
        subst hres
        exact g_iret hC hX rfl dX3_firstFault_67 rfl rfl
    · rw [if_neg c_33] at hres
      refine g_aload_n hC dX3_firstFault_36 rfl 0 rfl rfl ?_
      refine g_iload hC dX3_firstFault_37 1 rfl rfl ?_
      refine g_bipush (v := 9) hC dX3_firstFault_39 (by decide) rfl ?_
      refine g_callV (ws' := [(aRT, .inr (3, [.ref aSh, .int i, .int n, .int k_tDays, .int k_tLin])), (aSh, .inr (4, [.ref aShA, .int sHas, .int sLane, .int sLen])), (aShA, .inl (cI, 60, .inl sA))]) (st' := [.int (m_X3_hasDigit i n sA y4 (9 : Int32))]) (nw := 3) (n1 := 3) hC gX3_firstFault_X3_hasDigit hdV_yX3_hasDigit 0 rfl rfl (As := [.int y4, .int (9 : Int32)]) (rest := []) (c_X3_hasDigit D cI aRT aSh i n k_tDays k_tLin aShA sHas sLane sLen sA y4 (9 : Int32)) rfl ⟨by decide, by decide⟩ rfl [0, 1, 2] [] [0, 1, 2] [0] rfl rfl rfl rfl (by decide) rfl rfl (Nat.le_of_ble_eq_true rfl) dX3_firstFault_41 rfl rfl ?_
      refine g_if_ne (tgt := 50) hC dX3_firstFault_44 (by decide) rfl (fun c_44 => ?_) (fun c_44 => ?_)
      · rw [if_neg c_44] at hres
        refine g_iinc (v := (y4 + 1)) (lv' := [(4, .int (y4 + 1)), (0, .ref aRT)]) hC dX3_firstFault_50 1 rfl rfl (by decide) rfl rfl ?_
        refine g_goto (tgt := 30) hC dX3_firstFault_53 (by decide) ?_
        refine g_sub [1, 0] rfl ?_
        exact ih (y4 + 1) (up_dec c_33 hm) (up_nn c_33 h0_y4) hres
      · rw [if_pos c_44] at hres
        refine g_iload hC dX3_firstFault_47 1 rfl rfl ?_
        subst hres
        exact g_iret hC hX rfl dX3_firstFault_49 rfl rfl
set_option maxRecDepth 100000 in
set_option maxHeartbeats 4000000 in
theorem c_X3_firstFault (D : va_G) (cI : ClassId) (aRT : Nat) (tSrc : Option Nat) (tStart : Int32) (tLen : Int32) (tDays : Int32) (tLin : Int32) (aSh : Nat) (aShA : Nat) (sHas : Int32) (sLane : Int32) (sLen : Int32) (sA : Nat → Int32) (i : Int32) (n : Int32) : MC yX3_firstFault wsX3_firstFault ({ frames := 5, cells := 0, slots := 0, locals := 107 } : Room) D [(cI, .int)] [.ref aRT, .ref aSh, .int i, .int n] [(aRT, .inr (3, [va_rf tSrc, .int tStart, .int tLen, .int tDays, .int tLin])), (aSh, .inr (4, [.ref aShA, .int sHas, .int sLane, .int sLen])), (aShA, .inl (cI, 60, .inl sA))] (some (.int ((m_X3_firstFault tDays tLin sA i n).1))) [(aRT, .inr (3, [.ref aSh, .int i, .int n, .int ((m_X3_firstFault tDays tLin sA i n).2.1), .int ((m_X3_firstFault tDays tLin sA i n).2.2)])), (aSh, .inr (4, [.ref aShA, .int sHas, .int sLane, .int sLen])), (aShA, .inl (cI, 60, .inl sA))] := by
  refine g_entry (by decide) rfl rfl rfl rfl (Nat.le_of_ble_eq_true rfl) (lv := [(0, .ref aRT), (1, .ref aSh), (2, .int i), (3, .int n)]) rfl ?_
  intro X hC hX
  obtain ⟨res, hres⟩ : ∃ z, z = (m_X3_firstFault tDays tLin sA i n) := ⟨_, rfl⟩
  rw [← hres] at hX
  rw [m_X3_firstFault] at hres
  refine g_aload_n hC dX3_firstFault_0 rfl 0 rfl rfl ?_
  refine g_aload_n hC dX3_firstFault_1 rfl 1 rfl rfl ?_
  refine g_put (ws' := [(aRT, .inr (3, [.ref aSh, .int tStart, .int tLen, .int tDays, .int tLin])), (aSh, .inr (4, [.ref aShA, .int sHas, .int sLane, .int sLen])), (aShA, .inl (cI, 60, .inl sA))]) hC iw_X3_firstFault_RX3 0 rfl rfl 0 (by decide) (List.mem_of_getElem? (i := 1) rfl) rfl tyX3 tyX3_ok nmX3 rfl rfl rfl (Nat.le_of_ble_eq_true rfl) rfl dX3_firstFault_2 rfl ?_
  refine g_aload_n hC dX3_firstFault_5 rfl 0 rfl rfl ?_
  refine g_iload_n hC dX3_firstFault_6 rfl 2 rfl rfl ?_
  refine g_put (ws' := [(aRT, .inr (3, [.ref aSh, .int i, .int tLen, .int tDays, .int tLin])), (aSh, .inr (4, [.ref aShA, .int sHas, .int sLane, .int sLen])), (aShA, .inl (cI, 60, .inl sA))]) hC iw_X3_firstFault_RX3 0 rfl rfl 1 (by decide) (List.mem_of_getElem? (i := 2) rfl) rfl tyX3 tyX3_ok nmX3 rfl rfl rfl (Nat.le_of_ble_eq_true rfl) rfl dX3_firstFault_7 rfl ?_
  refine g_aload_n hC dX3_firstFault_10 rfl 0 rfl rfl ?_
  refine g_iload_n hC dX3_firstFault_11 rfl 3 rfl rfl ?_
  refine g_put (ws' := [(aRT, .inr (3, [.ref aSh, .int i, .int n, .int tDays, .int tLin])), (aSh, .inr (4, [.ref aShA, .int sHas, .int sLane, .int sLen])), (aShA, .inl (cI, 60, .inl sA))]) hC iw_X3_firstFault_RX3 0 rfl rfl 2 (by decide) (List.mem_of_getElem? (i := 3) rfl) rfl tyX3 tyX3_ok nmX3 rfl rfl rfl (Nat.le_of_ble_eq_true rfl) rfl dX3_firstFault_12 rfl ?_
  refine g_aload_n hC dX3_firstFault_15 rfl 0 rfl rfl ?_
  refine g_iconst (v := 0) hC dX3_firstFault_16 (by decide) rfl ?_
  refine g_callV (ws' := [(aRT, .inr (3, [.ref aSh, .int i, .int n, .int tDays, .int tLin])), (aSh, .inr (4, [.ref aShA, .int sHas, .int sLane, .int sLen])), (aShA, .inl (cI, 60, .inl sA))]) (st' := [.int (m_X3_codeAt i n sA (0 : Int32))]) (nw := 3) (n1 := 3) hC gX3_firstFault_X3_codeAt hdV_yX3_codeAt 0 rfl rfl (As := [.int (0 : Int32)]) (rest := []) (c_X3_codeAt D cI aRT aSh i n tDays tLin aShA sHas sLane sLen sA (0 : Int32)) rfl ⟨by decide, by decide⟩ rfl [0, 1, 2] [] [0, 1, 2] [0] rfl rfl rfl rfl (by decide) rfl rfl (Nat.le_of_ble_eq_true rfl) dX3_firstFault_17 rfl rfl ?_
  refine g_bipush (v := 107) hC dX3_firstFault_20 (by decide) rfl ?_
  refine g_icmp_eq (tgt := 27) hC dX3_firstFault_22 (by decide) rfl (fun c_22 => ?_) (fun c_22 => ?_)
  · rw [if_pos c_22] at hres
    refine g_iconst (v := 1) hC dX3_firstFault_27 (by decide) rfl ?_
    refine g_istore (lv' := [(4, .int (1 : Int32)), (0, .ref aRT), (1, .ref aSh), (2, .int i), (3, .int n)]) hC dX3_firstFault_28 (by decide) rfl rfl ?_
    refine g_sub [1, 0] rfl ?_
    exact l_X3_firstFault_30 D cI aRT tSrc tStart tLen tDays tLin aSh aShA sHas sLane sLen sA i n tDays tLin  hC hX (((5 : Int32).toInt - (1 : Int32).toInt).toNat + 1) (1 : Int32) (Nat.lt_succ_self _) (by decide) hres
  · rw [if_neg c_22] at hres
    refine g_iconst (v := 0) hC dX3_firstFault_25 (by decide) rfl ?_
    subst hres
    exact g_iret hC hX rfl dX3_firstFault_26 rfl rfl
theorem iw_X3_fill_RX2 : ∀ w ∈ wsX20, w ∈ wsX3_fill := fun _ h => List.mem_cons_of_mem _ (List.mem_append_left _ (List.mem_append_right _ (h)))
theorem iw_X3_fill_RX3 : ∀ w ∈ wsX30, w ∈ wsX3_fill := fun _ h => List.mem_cons_of_mem _ (List.mem_append_left _ (List.mem_append_left _ (List.mem_append_right _ (h))))
def m_X3_fill_78 : Nat → Int32 → Int32 → Int32 → Int32 → (Nat → Int32) → Int32 → Int32 → (Nat → Int32) → (Nat → Int32) → Int32 → (Nat → Int32) → (Nat → Int32) → (Nat → Int32) → (Int32 × Int32 × (Nat → Int32) × (Nat → Int32) × (Nat → Int32) × (Nat → Int32) × (Nat → Int32))
  | 0, _, _, _, _, _, _, _, _, _, _, _, _, _ => default
  | fu + 1, tStart, tLen, tDays, tLin, sA, k_cDays, k_cLin, k_cS, k_cH, y2, z_cK, z_cO_, z_cD => (if tLin ≤ y2 then (k_cDays, k_cLin, k_cS, k_cH, z_cK, z_cO_, z_cD) else (m_X3_fill_78 fu tStart tLen tDays tLin sA k_cDays k_cLin k_cS k_cH (y2 + 1) (m_X7_set 5 z_cK y2 (m_X3_kindOfLetter (m_X3_codeAt tStart tLen sA ((m_X3_linenPlace tDays y2) + (1 : Int32))))) (m_X7_set 5 z_cO_ y2 (m_X3_digitAt tStart tLen sA ((m_X3_linenPlace tDays y2) + (2 : Int32)))) (m_X7_set 5 z_cD y2 (m_X3_digitAt tStart tLen sA ((m_X3_linenPlace tDays y2) + (3 : Int32))))))
def m_X3_fill_46 : Nat → Int32 → Int32 → Int32 → Int32 → (Nat → Int32) → Int32 → Int32 → (Nat → Int32) → (Nat → Int32) → (Nat → Int32) → (Nat → Int32) → Int32 → (Nat → Int32) → (Int32 × Int32 × (Nat → Int32) × (Nat → Int32) × (Nat → Int32) × (Nat → Int32) × (Nat → Int32))
  | 0, _, _, _, _, _, _, _, _, _, _, _, _, _ => default
  | fu + 1, tStart, tLen, tDays, tLin, sA, k_cDays, k_cLin, k_cS, k_cK, k_cO_, k_cD, y2, z_cH => (if tDays ≤ y2 then (m_X3_fill_78 ((tLin.toInt - (0 : Int32).toInt).toNat + 1) tStart tLen tDays tLin sA k_cDays k_cLin k_cS z_cH (0 : Int32) k_cK k_cO_ k_cD) else (m_X3_fill_46 fu tStart tLen tDays tLin sA k_cDays k_cLin k_cS k_cK k_cO_ k_cD (y2 + 1) (m_X7_set 6 z_cH y2 (m_X3_digitAt tStart tLen sA ((6 : Int32) + y2)))))
def m_X3_fill_18 : Nat → Int32 → Int32 → Int32 → Int32 → (Nat → Int32) → Int32 → Int32 → (Nat → Int32) → (Nat → Int32) → (Nat → Int32) → (Nat → Int32) → Int32 → (Nat → Int32) → (Int32 × Int32 × (Nat → Int32) × (Nat → Int32) × (Nat → Int32) × (Nat → Int32) × (Nat → Int32))
  | 0, _, _, _, _, _, _, _, _, _, _, _, _, _ => default
  | fu + 1, tStart, tLen, tDays, tLin, sA, k_cDays, k_cLin, k_cH, k_cK, k_cO_, k_cD, y2, z_cS => (if (4 : Int32) ≤ y2 then (m_X3_fill_46 ((tDays.toInt - (0 : Int32).toInt).toNat + 1) tStart tLen tDays tLin sA k_cDays k_cLin z_cS k_cK k_cO_ k_cD (0 : Int32) k_cH) else (m_X3_fill_18 fu tStart tLen tDays tLin sA k_cDays k_cLin k_cH k_cK k_cO_ k_cD (y2 + 1) (m_X7_set 4 z_cS y2 (m_X3_digitAt tStart tLen sA ((1 : Int32) + y2)))))
def m_X3_fill (tStart : Int32) (tLen : Int32) (tDays : Int32) (tLin : Int32) (sA : Nat → Int32) (cS : Nat → Int32) (cH : Nat → Int32) (cK : Nat → Int32) (cO_ : Nat → Int32) (cD : Nat → Int32) : (Int32 × Int32 × (Nat → Int32) × (Nat → Int32) × (Nat → Int32) × (Nat → Int32) × (Nat → Int32)) := (m_X3_fill_18 (((4 : Int32).toInt - (0 : Int32).toInt).toNat + 1) tStart tLen tDays tLin sA tDays tLin cH cK cO_ cD (0 : Int32) cS)
set_option maxRecDepth 100000 in
set_option maxHeartbeats 4000000 in
theorem l_X3_fill_78 {X : gX} (D : va_G) (cI : ClassId) (aRT : Nat) (aSh : Nat) (tStart : Int32) (tLen : Int32) (tDays : Int32) (tLin : Int32) (aShA : Nat) (sHas : Int32) (sLane : Int32) (sLen : Int32) (sA : Nat → Int32) (aRE : Nat) (aReS : Nat) (aReH : Nat) (aReK : Nat) (aReO : Nat) (aReD : Nat) (cDays : Int32) (cLin : Int32) (cS : Nat → Int32) (cH : Nat → Int32) (cK : Nat → Int32) (cO_ : Nat → Int32) (cD : Nat → Int32) (k_cDays : Int32) (k_cLin : Int32) (k_cS : Nat → Int32) (k_cH : Nat → Int32) (hC : Cx X cX3_fill 4 RX3 wsX3_fill D [(cI, .int)] ({ frames := 4, cells := 0, slots := 0, locals := 84 } : Room) none) {res : (Int32 × Int32 × (Nat → Int32) × (Nat → Int32) × (Nat → Int32) × (Nat → Int32) × (Nat → Int32))} (hX : Rx X D none [(aRT, .inr (3, [.ref aSh, .int tStart, .int tLen, .int tDays, .int tLin])), (aSh, .inr (4, [.ref aShA, .int sHas, .int sLane, .int sLen])), (aShA, .inl (cI, 60, .inl sA)), (aRE, .inr (2, [.ref aReS, .ref aReH, .ref aReK, .ref aReO, .ref aReD, .int res.1, .int res.2.1])), (aReS, .inl (cI, 4, .inl res.2.2.1)), (aReH, .inl (cI, 6, .inl res.2.2.2.1)), (aReK, .inl (cI, 5, .inl res.2.2.2.2.1)), (aReO, .inl (cI, 5, .inl res.2.2.2.2.2.1)), (aReD, .inl (cI, 5, .inl res.2.2.2.2.2.2))]) : ∀ (fu : Nat) (y2 : Int32) (z_cK : Nat → Int32) (z_cO_ : Nat → Int32) (z_cD : Nat → Int32) (hm : (tLin.toInt - y2.toInt).toNat < fu) (h0_y2 : 0 ≤ y2.toInt) (hres : res = m_X3_fill_78 fu tStart tLen tDays tLin sA k_cDays k_cLin k_cS k_cH y2 z_cK z_cO_ z_cD), G X D 4 [(aRT, .inr (3, [.ref aSh, .int tStart, .int tLen, .int tDays, .int tLin])), (aSh, .inr (4, [.ref aShA, .int sHas, .int sLane, .int sLen])), (aShA, .inl (cI, 60, .inl sA)), (aRE, .inr (2, [.ref aReS, .ref aReH, .ref aReK, .ref aReO, .ref aReD, .int k_cDays, .int k_cLin])), (aReS, .inl (cI, 4, .inl k_cS)), (aReH, .inl (cI, 6, .inl k_cH)), (aReK, .inl (cI, 5, .inl z_cK)), (aReO, .inl (cI, 5, .inl z_cO_)), (aReD, .inl (cI, 5, .inl z_cD))] [(0, .ref aRT), (1, .ref aRE), (2, .int y2)] 78 [] := by
  intro fu
  induction fu with
  | zero =>
    intro y2 z_cK z_cO_ z_cD hm
    exact absurd hm (Nat.not_lt_zero _)
  | succ fu ih =>
    intro y2 z_cK z_cO_ z_cD hm h0_y2 hres
    rw [m_X3_fill_78] at hres
    refine g_iload_n hC dX3_fill_78 rfl 2 rfl rfl ?_
    refine g_aload_n hC dX3_fill_79 rfl 0 rfl rfl ?_
    refine g_get hC iw_X3_fill_RX3 0 rfl rfl 4 (by decide) (List.mem_of_getElem? (i := 3) rfl) rfl rfl dX3_fill_80 rfl ?_
    refine g_icmp_ge (tgt := 146) hC dX3_fill_83 (by decide) rfl (fun c_83 => ?_) (fun c_83 => ?_)
    · rw [if_pos c_83] at hres
      subst hres
      exact g_vret hC hX rfl dX3_fill_146 rfl rfl
    · rw [if_neg c_83] at hres
      refine g_aload_n hC dX3_fill_86 rfl 0 rfl rfl ?_
      refine g_iload_n hC dX3_fill_87 rfl 2 rfl rfl ?_
      refine g_callV (ws' := [(aRT, .inr (3, [.ref aSh, .int tStart, .int tLen, .int tDays, .int tLin])), (aSh, .inr (4, [.ref aShA, .int sHas, .int sLane, .int sLen])), (aShA, .inl (cI, 60, .inl sA)), (aRE, .inr (2, [.ref aReS, .ref aReH, .ref aReK, .ref aReO, .ref aReD, .int k_cDays, .int k_cLin])), (aReS, .inl (cI, 4, .inl k_cS)), (aReH, .inl (cI, 6, .inl k_cH)), (aReK, .inl (cI, 5, .inl z_cK)), (aReO, .inl (cI, 5, .inl z_cO_)), (aReD, .inl (cI, 5, .inl z_cD))]) (st' := [.int (m_X3_linenPlace tDays y2)]) (nw := 9) (n1 := 1) hC gX3_fill_X3_linenPlace hdV_yX3_linenPlace 0 rfl rfl (As := [.int y2]) (rest := []) (c_X3_linenPlace D cI aRT aSh tStart tLen tDays tLin y2) rfl ⟨by decide, by decide⟩ rfl [0] [1, 2, 3, 4, 5, 6, 7, 8] [8, 0, 1, 2, 3, 4, 5, 6, 7] [0] rfl rfl rfl rfl (by decide) rfl rfl (Nat.le_of_ble_eq_true rfl) dX3_fill_88 rfl rfl ?_
      refine g_istore_n (lv' := [(3, .int (m_X3_linenPlace tDays y2)), (0, .ref aRT), (1, .ref aRE), (2, .int y2)]) hC dX3_fill_91 rfl (by decide) rfl rfl ?_
      refine g_aload_n hC dX3_fill_92 rfl 2 rfl rfl ?_
      refine g_get hC iw_X3_fill_RX2 3 rfl rfl 2 (by decide) (List.mem_of_getElem? (i := 7) rfl) rfl rfl dX3_fill_93 rfl ?_
      refine g_iload_n hC dX3_fill_96 rfl 3 rfl rfl ?_
      refine g_aload_n hC dX3_fill_97 rfl 1 rfl rfl ?_
      refine g_iload_n hC dX3_fill_98 rfl 0 rfl rfl ?_
      refine g_iconst (v := 1) hC dX3_fill_99 (by decide) rfl ?_
      refine g_iadd hC dX3_fill_100 rfl ?_
      refine g_callV (ws' := [(aRT, .inr (3, [.ref aSh, .int tStart, .int tLen, .int tDays, .int tLin])), (aSh, .inr (4, [.ref aShA, .int sHas, .int sLane, .int sLen])), (aShA, .inl (cI, 60, .inl sA)), (aRE, .inr (2, [.ref aReS, .ref aReH, .ref aReK, .ref aReO, .ref aReD, .int k_cDays, .int k_cLin])), (aReS, .inl (cI, 4, .inl k_cS)), (aReH, .inl (cI, 6, .inl k_cH)), (aReK, .inl (cI, 5, .inl z_cK)), (aReO, .inl (cI, 5, .inl z_cO_)), (aReD, .inl (cI, 5, .inl z_cD))]) (st' := [.int (m_X3_codeAt tStart tLen sA ((m_X3_linenPlace tDays y2) + (1 : Int32))), .int y2, .ref aReK]) (nw := 9) (n1 := 3) hC gX3_fill_X3_codeAt hdV_yX3_codeAt 0 rfl rfl (As := [.int ((m_X3_linenPlace tDays y2) + (1 : Int32))]) (rest := [.int y2, .ref aReK]) (c_X3_codeAt D cI aRT aSh tStart tLen tDays tLin aShA sHas sLane sLen sA ((m_X3_linenPlace tDays y2) + (1 : Int32))) rfl ⟨by decide, by decide⟩ rfl [0, 1, 2] [3, 4, 5, 6, 7, 8] [6, 7, 8, 0, 1, 2, 3, 4, 5] [0] rfl rfl rfl rfl (by decide) rfl rfl (Nat.le_of_ble_eq_true rfl) dX3_fill_101 rfl rfl ?_
      refine g_callS (ws' := [(aRT, .inr (3, [.ref aSh, .int tStart, .int tLen, .int tDays, .int tLin])), (aSh, .inr (4, [.ref aShA, .int sHas, .int sLane, .int sLen])), (aShA, .inl (cI, 60, .inl sA)), (aRE, .inr (2, [.ref aReS, .ref aReH, .ref aReK, .ref aReO, .ref aReD, .int k_cDays, .int k_cLin])), (aReS, .inl (cI, 4, .inl k_cS)), (aReH, .inl (cI, 6, .inl k_cH)), (aReK, .inl (cI, 5, .inl z_cK)), (aReO, .inl (cI, 5, .inl z_cO_)), (aReD, .inl (cI, 5, .inl z_cD))]) (st' := [.int (m_X3_kindOfLetter (m_X3_codeAt tStart tLen sA ((m_X3_linenPlace tDays y2) + (1 : Int32)))), .int y2, .ref aReK]) (nw := 9) (n1 := 0) hC gX3_fill_X3_kindOfLetter hdS_yX3_kindOfLetter (As := [.int (m_X3_codeAt tStart tLen sA ((m_X3_linenPlace tDays y2) + (1 : Int32)))]) (rest := [.int y2, .ref aReK]) (c_X3_kindOfLetter D cI (m_X3_codeAt tStart tLen sA ((m_X3_linenPlace tDays y2) + (1 : Int32)))) rfl ⟨by decide, by decide⟩ rfl [] [0, 1, 2, 3, 4, 5, 6, 7, 8] [0, 1, 2, 3, 4, 5, 6, 7, 8] [0] rfl rfl rfl rfl (by decide) rfl rfl (Nat.le_of_ble_eq_true rfl) dX3_fill_104 rfl rfl ?_
      refine g_callN (ws' := [(aRT, .inr (3, [.ref aSh, .int tStart, .int tLen, .int tDays, .int tLin])), (aSh, .inr (4, [.ref aShA, .int sHas, .int sLane, .int sLen])), (aShA, .inl (cI, 60, .inl sA)), (aRE, .inr (2, [.ref aReS, .ref aReH, .ref aReK, .ref aReO, .ref aReD, .int k_cDays, .int k_cLin])), (aReS, .inl (cI, 4, .inl k_cS)), (aReH, .inl (cI, 6, .inl k_cH)), (aReK, .inl (cI, 5, .inl (m_X7_set 5 z_cK y2 (m_X3_kindOfLetter (m_X3_codeAt tStart tLen sA ((m_X3_linenPlace tDays y2) + (1 : Int32))))))), (aReO, .inl (cI, 5, .inl z_cO_)), (aReD, .inl (cI, 5, .inl z_cD))]) (st' := []) (nw := 9) (n1 := 1) hC gX3_fill_X7_set_n57 (List.mem_of_getElem? (i := 14) rfl) (List.mem_of_getElem? (i := 23) rfl) (List.mem_of_getElem? (i := 33) rfl) hdS_yX7_set (As := [.ref aReK, .int y2, .int (m_X3_kindOfLetter (m_X3_codeAt tStart tLen sA ((m_X3_linenPlace tDays y2) + (1 : Int32))))]) (rest := []) (c_X7_set D cI aReK 5 z_cK y2 (m_X3_kindOfLetter (m_X3_codeAt tStart tLen sA ((m_X3_linenPlace tDays y2) + (1 : Int32)))) (by decide)) rfl ⟨by decide, by decide⟩ rfl [6] [0, 1, 2, 3, 4, 5, 7, 8] [0, 1, 2, 3, 4, 5, 8, 6, 7] [0] rfl rfl rfl rfl (by decide) rfl rfl (Nat.le_of_ble_eq_true rfl) dX3_fill_107 rfl rfl ?_
      refine g_aload_n hC dX3_fill_110 rfl 2 rfl rfl ?_
      refine g_get hC iw_X3_fill_RX2 3 rfl rfl 3 (by decide) (List.mem_of_getElem? (i := 8) rfl) rfl rfl dX3_fill_111 rfl ?_
      refine g_iload_n hC dX3_fill_114 rfl 3 rfl rfl ?_
      refine g_aload_n hC dX3_fill_115 rfl 1 rfl rfl ?_
      refine g_iload_n hC dX3_fill_116 rfl 0 rfl rfl ?_
      refine g_iconst (v := 2) hC dX3_fill_117 (by decide) rfl ?_
      refine g_iadd hC dX3_fill_118 rfl ?_
      refine g_callV (ws' := [(aRT, .inr (3, [.ref aSh, .int tStart, .int tLen, .int tDays, .int tLin])), (aSh, .inr (4, [.ref aShA, .int sHas, .int sLane, .int sLen])), (aShA, .inl (cI, 60, .inl sA)), (aRE, .inr (2, [.ref aReS, .ref aReH, .ref aReK, .ref aReO, .ref aReD, .int k_cDays, .int k_cLin])), (aReS, .inl (cI, 4, .inl k_cS)), (aReH, .inl (cI, 6, .inl k_cH)), (aReK, .inl (cI, 5, .inl (m_X7_set 5 z_cK y2 (m_X3_kindOfLetter (m_X3_codeAt tStart tLen sA ((m_X3_linenPlace tDays y2) + (1 : Int32))))))), (aReO, .inl (cI, 5, .inl z_cO_)), (aReD, .inl (cI, 5, .inl z_cD))]) (st' := [.int (m_X3_digitAt tStart tLen sA ((m_X3_linenPlace tDays y2) + (2 : Int32))), .int y2, .ref aReO]) (nw := 9) (n1 := 3) hC gX3_fill_X3_digitAt hdV_yX3_digitAt 0 rfl rfl (As := [.int ((m_X3_linenPlace tDays y2) + (2 : Int32))]) (rest := [.int y2, .ref aReO]) (c_X3_digitAt D cI aRT aSh tStart tLen tDays tLin aShA sHas sLane sLen sA ((m_X3_linenPlace tDays y2) + (2 : Int32))) rfl ⟨by decide, by decide⟩ rfl [0, 1, 2] [3, 4, 5, 6, 7, 8] [6, 7, 8, 0, 1, 2, 3, 4, 5] [0] rfl rfl rfl rfl (by decide) rfl rfl (Nat.le_of_ble_eq_true rfl) dX3_fill_119 rfl rfl ?_
      refine g_callN (ws' := [(aRT, .inr (3, [.ref aSh, .int tStart, .int tLen, .int tDays, .int tLin])), (aSh, .inr (4, [.ref aShA, .int sHas, .int sLane, .int sLen])), (aShA, .inl (cI, 60, .inl sA)), (aRE, .inr (2, [.ref aReS, .ref aReH, .ref aReK, .ref aReO, .ref aReD, .int k_cDays, .int k_cLin])), (aReS, .inl (cI, 4, .inl k_cS)), (aReH, .inl (cI, 6, .inl k_cH)), (aReK, .inl (cI, 5, .inl (m_X7_set 5 z_cK y2 (m_X3_kindOfLetter (m_X3_codeAt tStart tLen sA ((m_X3_linenPlace tDays y2) + (1 : Int32))))))), (aReO, .inl (cI, 5, .inl (m_X7_set 5 z_cO_ y2 (m_X3_digitAt tStart tLen sA ((m_X3_linenPlace tDays y2) + (2 : Int32)))))), (aReD, .inl (cI, 5, .inl z_cD))]) (st' := []) (nw := 9) (n1 := 1) hC gX3_fill_X7_set_n57 (List.mem_of_getElem? (i := 14) rfl) (List.mem_of_getElem? (i := 23) rfl) (List.mem_of_getElem? (i := 33) rfl) hdS_yX7_set (As := [.ref aReO, .int y2, .int (m_X3_digitAt tStart tLen sA ((m_X3_linenPlace tDays y2) + (2 : Int32)))]) (rest := []) (c_X7_set D cI aReO 5 z_cO_ y2 (m_X3_digitAt tStart tLen sA ((m_X3_linenPlace tDays y2) + (2 : Int32))) (by decide)) rfl ⟨by decide, by decide⟩ rfl [7] [0, 1, 2, 3, 4, 5, 6, 8] [0, 1, 2, 3, 4, 5, 6, 8, 7] [0] rfl rfl rfl rfl (by decide) rfl rfl (Nat.le_of_ble_eq_true rfl) dX3_fill_122 rfl rfl ?_
      refine g_aload_n hC dX3_fill_125 rfl 2 rfl rfl ?_
      refine g_get hC iw_X3_fill_RX2 3 rfl rfl 4 (by decide) (List.mem_of_getElem? (i := 9) rfl) rfl rfl dX3_fill_126 rfl ?_
      refine g_iload_n hC dX3_fill_129 rfl 3 rfl rfl ?_
      refine g_aload_n hC dX3_fill_130 rfl 1 rfl rfl ?_
      refine g_iload_n hC dX3_fill_131 rfl 0 rfl rfl ?_
      refine g_iconst (v := 3) hC dX3_fill_132 (by decide) rfl ?_
      refine g_iadd hC dX3_fill_133 rfl ?_
      refine g_callV (ws' := [(aRT, .inr (3, [.ref aSh, .int tStart, .int tLen, .int tDays, .int tLin])), (aSh, .inr (4, [.ref aShA, .int sHas, .int sLane, .int sLen])), (aShA, .inl (cI, 60, .inl sA)), (aRE, .inr (2, [.ref aReS, .ref aReH, .ref aReK, .ref aReO, .ref aReD, .int k_cDays, .int k_cLin])), (aReS, .inl (cI, 4, .inl k_cS)), (aReH, .inl (cI, 6, .inl k_cH)), (aReK, .inl (cI, 5, .inl (m_X7_set 5 z_cK y2 (m_X3_kindOfLetter (m_X3_codeAt tStart tLen sA ((m_X3_linenPlace tDays y2) + (1 : Int32))))))), (aReO, .inl (cI, 5, .inl (m_X7_set 5 z_cO_ y2 (m_X3_digitAt tStart tLen sA ((m_X3_linenPlace tDays y2) + (2 : Int32)))))), (aReD, .inl (cI, 5, .inl z_cD))]) (st' := [.int (m_X3_digitAt tStart tLen sA ((m_X3_linenPlace tDays y2) + (3 : Int32))), .int y2, .ref aReD]) (nw := 9) (n1 := 3) hC gX3_fill_X3_digitAt hdV_yX3_digitAt 0 rfl rfl (As := [.int ((m_X3_linenPlace tDays y2) + (3 : Int32))]) (rest := [.int y2, .ref aReD]) (c_X3_digitAt D cI aRT aSh tStart tLen tDays tLin aShA sHas sLane sLen sA ((m_X3_linenPlace tDays y2) + (3 : Int32))) rfl ⟨by decide, by decide⟩ rfl [0, 1, 2] [3, 4, 5, 6, 7, 8] [6, 7, 8, 0, 1, 2, 3, 4, 5] [0] rfl rfl rfl rfl (by decide) rfl rfl (Nat.le_of_ble_eq_true rfl) dX3_fill_134 rfl rfl ?_
      refine g_callN (ws' := [(aRT, .inr (3, [.ref aSh, .int tStart, .int tLen, .int tDays, .int tLin])), (aSh, .inr (4, [.ref aShA, .int sHas, .int sLane, .int sLen])), (aShA, .inl (cI, 60, .inl sA)), (aRE, .inr (2, [.ref aReS, .ref aReH, .ref aReK, .ref aReO, .ref aReD, .int k_cDays, .int k_cLin])), (aReS, .inl (cI, 4, .inl k_cS)), (aReH, .inl (cI, 6, .inl k_cH)), (aReK, .inl (cI, 5, .inl (m_X7_set 5 z_cK y2 (m_X3_kindOfLetter (m_X3_codeAt tStart tLen sA ((m_X3_linenPlace tDays y2) + (1 : Int32))))))), (aReO, .inl (cI, 5, .inl (m_X7_set 5 z_cO_ y2 (m_X3_digitAt tStart tLen sA ((m_X3_linenPlace tDays y2) + (2 : Int32)))))), (aReD, .inl (cI, 5, .inl (m_X7_set 5 z_cD y2 (m_X3_digitAt tStart tLen sA ((m_X3_linenPlace tDays y2) + (3 : Int32))))))]) (st' := []) (nw := 9) (n1 := 1) hC gX3_fill_X7_set_n57 (List.mem_of_getElem? (i := 14) rfl) (List.mem_of_getElem? (i := 23) rfl) (List.mem_of_getElem? (i := 33) rfl) hdS_yX7_set (As := [.ref aReD, .int y2, .int (m_X3_digitAt tStart tLen sA ((m_X3_linenPlace tDays y2) + (3 : Int32)))]) (rest := []) (c_X7_set D cI aReD 5 z_cD y2 (m_X3_digitAt tStart tLen sA ((m_X3_linenPlace tDays y2) + (3 : Int32))) (by decide)) rfl ⟨by decide, by decide⟩ rfl [8] [0, 1, 2, 3, 4, 5, 6, 7] [0, 1, 2, 3, 4, 5, 6, 7, 8] [0] rfl rfl rfl rfl (by decide) rfl rfl (Nat.le_of_ble_eq_true rfl) dX3_fill_137 rfl rfl ?_
      refine g_iinc (v := (y2 + 1)) (lv' := [(2, .int (y2 + 1)), (3, .int (m_X3_linenPlace tDays y2)), (0, .ref aRT), (1, .ref aRE)]) hC dX3_fill_140 3 rfl rfl (by decide) rfl rfl ?_
      refine g_goto (tgt := 78) hC dX3_fill_143 (by decide) ?_
      refine g_sub [2, 3, 0] rfl ?_
      exact ih (y2 + 1) (m_X7_set 5 z_cK y2 (m_X3_kindOfLetter (m_X3_codeAt tStart tLen sA ((m_X3_linenPlace tDays y2) + (1 : Int32))))) (m_X7_set 5 z_cO_ y2 (m_X3_digitAt tStart tLen sA ((m_X3_linenPlace tDays y2) + (2 : Int32)))) (m_X7_set 5 z_cD y2 (m_X3_digitAt tStart tLen sA ((m_X3_linenPlace tDays y2) + (3 : Int32)))) (up_dec c_83 hm) (up_nn c_83 h0_y2) hres
set_option maxRecDepth 100000 in
set_option maxHeartbeats 4000000 in
theorem l_X3_fill_46 {X : gX} (D : va_G) (cI : ClassId) (aRT : Nat) (aSh : Nat) (tStart : Int32) (tLen : Int32) (tDays : Int32) (tLin : Int32) (aShA : Nat) (sHas : Int32) (sLane : Int32) (sLen : Int32) (sA : Nat → Int32) (aRE : Nat) (aReS : Nat) (aReH : Nat) (aReK : Nat) (aReO : Nat) (aReD : Nat) (cDays : Int32) (cLin : Int32) (cS : Nat → Int32) (cH : Nat → Int32) (cK : Nat → Int32) (cO_ : Nat → Int32) (cD : Nat → Int32) (k_cDays : Int32) (k_cLin : Int32) (k_cS : Nat → Int32) (k_cK : Nat → Int32) (k_cO_ : Nat → Int32) (k_cD : Nat → Int32) (hC : Cx X cX3_fill 4 RX3 wsX3_fill D [(cI, .int)] ({ frames := 4, cells := 0, slots := 0, locals := 84 } : Room) none) {res : (Int32 × Int32 × (Nat → Int32) × (Nat → Int32) × (Nat → Int32) × (Nat → Int32) × (Nat → Int32))} (hX : Rx X D none [(aRT, .inr (3, [.ref aSh, .int tStart, .int tLen, .int tDays, .int tLin])), (aSh, .inr (4, [.ref aShA, .int sHas, .int sLane, .int sLen])), (aShA, .inl (cI, 60, .inl sA)), (aRE, .inr (2, [.ref aReS, .ref aReH, .ref aReK, .ref aReO, .ref aReD, .int res.1, .int res.2.1])), (aReS, .inl (cI, 4, .inl res.2.2.1)), (aReH, .inl (cI, 6, .inl res.2.2.2.1)), (aReK, .inl (cI, 5, .inl res.2.2.2.2.1)), (aReO, .inl (cI, 5, .inl res.2.2.2.2.2.1)), (aReD, .inl (cI, 5, .inl res.2.2.2.2.2.2))]) : ∀ (fu : Nat) (y2 : Int32) (z_cH : Nat → Int32) (hm : (tDays.toInt - y2.toInt).toNat < fu) (h0_y2 : 0 ≤ y2.toInt) (hres : res = m_X3_fill_46 fu tStart tLen tDays tLin sA k_cDays k_cLin k_cS k_cK k_cO_ k_cD y2 z_cH), G X D 4 [(aRT, .inr (3, [.ref aSh, .int tStart, .int tLen, .int tDays, .int tLin])), (aSh, .inr (4, [.ref aShA, .int sHas, .int sLane, .int sLen])), (aShA, .inl (cI, 60, .inl sA)), (aRE, .inr (2, [.ref aReS, .ref aReH, .ref aReK, .ref aReO, .ref aReD, .int k_cDays, .int k_cLin])), (aReS, .inl (cI, 4, .inl k_cS)), (aReH, .inl (cI, 6, .inl z_cH)), (aReK, .inl (cI, 5, .inl k_cK)), (aReO, .inl (cI, 5, .inl k_cO_)), (aReD, .inl (cI, 5, .inl k_cD))] [(0, .ref aRT), (1, .ref aRE), (2, .int y2)] 46 [] := by
  intro fu
  induction fu with
  | zero =>
    intro y2 z_cH hm
    exact absurd hm (Nat.not_lt_zero _)
  | succ fu ih =>
    intro y2 z_cH hm h0_y2 hres
    rw [m_X3_fill_46] at hres
    refine g_iload_n hC dX3_fill_46 rfl 2 rfl rfl ?_
    refine g_aload_n hC dX3_fill_47 rfl 0 rfl rfl ?_
    refine g_get hC iw_X3_fill_RX3 0 rfl rfl 3 (by decide) (List.mem_of_getElem? (i := 1) rfl) rfl rfl dX3_fill_48 rfl ?_
    refine g_icmp_ge (tgt := 76) hC dX3_fill_51 (by decide) rfl (fun c_51 => ?_) (fun c_51 => ?_)
    · rw [if_pos c_51] at hres
      refine g_iconst (v := 0) hC dX3_fill_76 (by decide) rfl ?_
      refine g_istore_n (lv' := [(2, .int (0 : Int32)), (0, .ref aRT), (1, .ref aRE)]) hC dX3_fill_77 rfl (by decide) rfl rfl ?_
      refine g_sub [1, 2, 0] rfl ?_
      exact l_X3_fill_78 D cI aRT aSh tStart tLen tDays tLin aShA sHas sLane sLen sA aRE aReS aReH aReK aReO aReD cDays cLin cS cH cK cO_ cD k_cDays k_cLin k_cS z_cH  hC hX ((tLin.toInt - (0 : Int32).toInt).toNat + 1) (0 : Int32) k_cK k_cO_ k_cD (Nat.lt_succ_self _) (by decide) hres
    · rw [if_neg c_51] at hres
      refine g_aload_n hC dX3_fill_54 rfl 1 rfl rfl ?_
      refine g_get hC iw_X3_fill_RX2 3 rfl rfl 1 (by decide) (List.mem_of_getElem? (i := 6) rfl) rfl rfl dX3_fill_55 rfl ?_
      refine g_iload_n hC dX3_fill_58 rfl 2 rfl rfl ?_
      refine g_aload_n hC dX3_fill_59 rfl 0 rfl rfl ?_
      refine g_bipush (v := 6) hC dX3_fill_60 (by decide) rfl ?_
      refine g_iload_n hC dX3_fill_62 rfl 2 rfl rfl ?_
      refine g_iadd hC dX3_fill_63 rfl ?_
      refine g_callV (ws' := [(aRT, .inr (3, [.ref aSh, .int tStart, .int tLen, .int tDays, .int tLin])), (aSh, .inr (4, [.ref aShA, .int sHas, .int sLane, .int sLen])), (aShA, .inl (cI, 60, .inl sA)), (aRE, .inr (2, [.ref aReS, .ref aReH, .ref aReK, .ref aReO, .ref aReD, .int k_cDays, .int k_cLin])), (aReS, .inl (cI, 4, .inl k_cS)), (aReH, .inl (cI, 6, .inl z_cH)), (aReK, .inl (cI, 5, .inl k_cK)), (aReO, .inl (cI, 5, .inl k_cO_)), (aReD, .inl (cI, 5, .inl k_cD))]) (st' := [.int (m_X3_digitAt tStart tLen sA ((6 : Int32) + y2)), .int y2, .ref aReH]) (nw := 9) (n1 := 3) hC gX3_fill_X3_digitAt hdV_yX3_digitAt 0 rfl rfl (As := [.int ((6 : Int32) + y2)]) (rest := [.int y2, .ref aReH]) (c_X3_digitAt D cI aRT aSh tStart tLen tDays tLin aShA sHas sLane sLen sA ((6 : Int32) + y2)) rfl ⟨by decide, by decide⟩ rfl [0, 1, 2] [3, 4, 5, 6, 7, 8] [6, 7, 8, 0, 1, 2, 3, 4, 5] [0] rfl rfl rfl rfl (by decide) rfl rfl (Nat.le_of_ble_eq_true rfl) dX3_fill_64 rfl rfl ?_
      refine g_callN (ws' := [(aRT, .inr (3, [.ref aSh, .int tStart, .int tLen, .int tDays, .int tLin])), (aSh, .inr (4, [.ref aShA, .int sHas, .int sLane, .int sLen])), (aShA, .inl (cI, 60, .inl sA)), (aRE, .inr (2, [.ref aReS, .ref aReH, .ref aReK, .ref aReO, .ref aReD, .int k_cDays, .int k_cLin])), (aReS, .inl (cI, 4, .inl k_cS)), (aReH, .inl (cI, 6, .inl (m_X7_set 6 z_cH y2 (m_X3_digitAt tStart tLen sA ((6 : Int32) + y2))))), (aReK, .inl (cI, 5, .inl k_cK)), (aReO, .inl (cI, 5, .inl k_cO_)), (aReD, .inl (cI, 5, .inl k_cD))]) (st' := []) (nw := 9) (n1 := 1) hC gX3_fill_X7_set_n57 (List.mem_of_getElem? (i := 14) rfl) (List.mem_of_getElem? (i := 23) rfl) (List.mem_of_getElem? (i := 33) rfl) hdS_yX7_set (As := [.ref aReH, .int y2, .int (m_X3_digitAt tStart tLen sA ((6 : Int32) + y2))]) (rest := []) (c_X7_set D cI aReH 6 z_cH y2 (m_X3_digitAt tStart tLen sA ((6 : Int32) + y2)) (by decide)) rfl ⟨by decide, by decide⟩ rfl [5] [0, 1, 2, 3, 4, 6, 7, 8] [0, 1, 2, 3, 4, 8, 5, 6, 7] [0] rfl rfl rfl rfl (by decide) rfl rfl (Nat.le_of_ble_eq_true rfl) dX3_fill_67 rfl rfl ?_
      refine g_iinc (v := (y2 + 1)) (lv' := [(2, .int (y2 + 1)), (0, .ref aRT), (1, .ref aRE)]) hC dX3_fill_70 2 rfl rfl (by decide) rfl rfl ?_
      refine g_goto (tgt := 46) hC dX3_fill_73 (by decide) ?_
      refine g_sub [1, 2, 0] rfl ?_
      exact ih (y2 + 1) (m_X7_set 6 z_cH y2 (m_X3_digitAt tStart tLen sA ((6 : Int32) + y2))) (up_dec c_51 hm) (up_nn c_51 h0_y2) hres
set_option maxRecDepth 100000 in
set_option maxHeartbeats 4000000 in
theorem l_X3_fill_18 {X : gX} (D : va_G) (cI : ClassId) (aRT : Nat) (aSh : Nat) (tStart : Int32) (tLen : Int32) (tDays : Int32) (tLin : Int32) (aShA : Nat) (sHas : Int32) (sLane : Int32) (sLen : Int32) (sA : Nat → Int32) (aRE : Nat) (aReS : Nat) (aReH : Nat) (aReK : Nat) (aReO : Nat) (aReD : Nat) (cDays : Int32) (cLin : Int32) (cS : Nat → Int32) (cH : Nat → Int32) (cK : Nat → Int32) (cO_ : Nat → Int32) (cD : Nat → Int32) (k_cDays : Int32) (k_cLin : Int32) (k_cH : Nat → Int32) (k_cK : Nat → Int32) (k_cO_ : Nat → Int32) (k_cD : Nat → Int32) (hC : Cx X cX3_fill 4 RX3 wsX3_fill D [(cI, .int)] ({ frames := 4, cells := 0, slots := 0, locals := 84 } : Room) none) {res : (Int32 × Int32 × (Nat → Int32) × (Nat → Int32) × (Nat → Int32) × (Nat → Int32) × (Nat → Int32))} (hX : Rx X D none [(aRT, .inr (3, [.ref aSh, .int tStart, .int tLen, .int tDays, .int tLin])), (aSh, .inr (4, [.ref aShA, .int sHas, .int sLane, .int sLen])), (aShA, .inl (cI, 60, .inl sA)), (aRE, .inr (2, [.ref aReS, .ref aReH, .ref aReK, .ref aReO, .ref aReD, .int res.1, .int res.2.1])), (aReS, .inl (cI, 4, .inl res.2.2.1)), (aReH, .inl (cI, 6, .inl res.2.2.2.1)), (aReK, .inl (cI, 5, .inl res.2.2.2.2.1)), (aReO, .inl (cI, 5, .inl res.2.2.2.2.2.1)), (aReD, .inl (cI, 5, .inl res.2.2.2.2.2.2))]) : ∀ (fu : Nat) (y2 : Int32) (z_cS : Nat → Int32) (hm : ((4 : Int32).toInt - y2.toInt).toNat < fu) (h0_y2 : 0 ≤ y2.toInt) (hres : res = m_X3_fill_18 fu tStart tLen tDays tLin sA k_cDays k_cLin k_cH k_cK k_cO_ k_cD y2 z_cS), G X D 4 [(aRT, .inr (3, [.ref aSh, .int tStart, .int tLen, .int tDays, .int tLin])), (aSh, .inr (4, [.ref aShA, .int sHas, .int sLane, .int sLen])), (aShA, .inl (cI, 60, .inl sA)), (aRE, .inr (2, [.ref aReS, .ref aReH, .ref aReK, .ref aReO, .ref aReD, .int k_cDays, .int k_cLin])), (aReS, .inl (cI, 4, .inl z_cS)), (aReH, .inl (cI, 6, .inl k_cH)), (aReK, .inl (cI, 5, .inl k_cK)), (aReO, .inl (cI, 5, .inl k_cO_)), (aReD, .inl (cI, 5, .inl k_cD))] [(0, .ref aRT), (1, .ref aRE), (2, .int y2)] 18 [] := by
  intro fu
  induction fu with
  | zero =>
    intro y2 z_cS hm
    exact absurd hm (Nat.not_lt_zero _)
  | succ fu ih =>
    intro y2 z_cS hm h0_y2 hres
    rw [m_X3_fill_18] at hres
    refine g_iload_n hC dX3_fill_18 rfl 2 rfl rfl ?_
    refine g_iconst (v := 4) hC dX3_fill_19 (by decide) rfl ?_
    refine g_icmp_ge (tgt := 44) hC dX3_fill_20 (by decide) rfl (fun c_20 => ?_) (fun c_20 => ?_)
    · rw [if_pos c_20] at hres
      refine g_iconst (v := 0) hC dX3_fill_44 (by decide) rfl ?_
      refine g_istore_n (lv' := [(2, .int (0 : Int32)), (0, .ref aRT), (1, .ref aRE)]) hC dX3_fill_45 rfl (by decide) rfl rfl ?_
      refine g_sub [1, 2, 0] rfl ?_
      exact l_X3_fill_46 D cI aRT aSh tStart tLen tDays tLin aShA sHas sLane sLen sA aRE aReS aReH aReK aReO aReD cDays cLin cS cH cK cO_ cD k_cDays k_cLin z_cS k_cK k_cO_ k_cD  hC hX ((tDays.toInt - (0 : Int32).toInt).toNat + 1) (0 : Int32) k_cH (Nat.lt_succ_self _) (by decide) hres
    · rw [if_neg c_20] at hres
      refine g_aload_n hC dX3_fill_23 rfl 1 rfl rfl ?_
      refine g_get hC iw_X3_fill_RX2 3 rfl rfl 0 (by decide) (List.mem_of_getElem? (i := 5) rfl) rfl rfl dX3_fill_24 rfl ?_
      refine g_iload_n hC dX3_fill_27 rfl 2 rfl rfl ?_
      refine g_aload_n hC dX3_fill_28 rfl 0 rfl rfl ?_
      refine g_iconst (v := 1) hC dX3_fill_29 (by decide) rfl ?_
      refine g_iload_n hC dX3_fill_30 rfl 2 rfl rfl ?_
      refine g_iadd hC dX3_fill_31 rfl ?_
      refine g_callV (ws' := [(aRT, .inr (3, [.ref aSh, .int tStart, .int tLen, .int tDays, .int tLin])), (aSh, .inr (4, [.ref aShA, .int sHas, .int sLane, .int sLen])), (aShA, .inl (cI, 60, .inl sA)), (aRE, .inr (2, [.ref aReS, .ref aReH, .ref aReK, .ref aReO, .ref aReD, .int k_cDays, .int k_cLin])), (aReS, .inl (cI, 4, .inl z_cS)), (aReH, .inl (cI, 6, .inl k_cH)), (aReK, .inl (cI, 5, .inl k_cK)), (aReO, .inl (cI, 5, .inl k_cO_)), (aReD, .inl (cI, 5, .inl k_cD))]) (st' := [.int (m_X3_digitAt tStart tLen sA ((1 : Int32) + y2)), .int y2, .ref aReS]) (nw := 9) (n1 := 3) hC gX3_fill_X3_digitAt hdV_yX3_digitAt 0 rfl rfl (As := [.int ((1 : Int32) + y2)]) (rest := [.int y2, .ref aReS]) (c_X3_digitAt D cI aRT aSh tStart tLen tDays tLin aShA sHas sLane sLen sA ((1 : Int32) + y2)) rfl ⟨by decide, by decide⟩ rfl [0, 1, 2] [3, 4, 5, 6, 7, 8] [6, 7, 8, 0, 1, 2, 3, 4, 5] [0] rfl rfl rfl rfl (by decide) rfl rfl (Nat.le_of_ble_eq_true rfl) dX3_fill_32 rfl rfl ?_
      refine g_callN (ws' := [(aRT, .inr (3, [.ref aSh, .int tStart, .int tLen, .int tDays, .int tLin])), (aSh, .inr (4, [.ref aShA, .int sHas, .int sLane, .int sLen])), (aShA, .inl (cI, 60, .inl sA)), (aRE, .inr (2, [.ref aReS, .ref aReH, .ref aReK, .ref aReO, .ref aReD, .int k_cDays, .int k_cLin])), (aReS, .inl (cI, 4, .inl (m_X7_set 4 z_cS y2 (m_X3_digitAt tStart tLen sA ((1 : Int32) + y2))))), (aReH, .inl (cI, 6, .inl k_cH)), (aReK, .inl (cI, 5, .inl k_cK)), (aReO, .inl (cI, 5, .inl k_cO_)), (aReD, .inl (cI, 5, .inl k_cD))]) (st' := []) (nw := 9) (n1 := 1) hC gX3_fill_X7_set_n57 (List.mem_of_getElem? (i := 14) rfl) (List.mem_of_getElem? (i := 23) rfl) (List.mem_of_getElem? (i := 33) rfl) hdS_yX7_set (As := [.ref aReS, .int y2, .int (m_X3_digitAt tStart tLen sA ((1 : Int32) + y2))]) (rest := []) (c_X7_set D cI aReS 4 z_cS y2 (m_X3_digitAt tStart tLen sA ((1 : Int32) + y2)) (by decide)) rfl ⟨by decide, by decide⟩ rfl [4] [0, 1, 2, 3, 5, 6, 7, 8] [0, 1, 2, 3, 8, 4, 5, 6, 7] [0] rfl rfl rfl rfl (by decide) rfl rfl (Nat.le_of_ble_eq_true rfl) dX3_fill_35 rfl rfl ?_
      refine g_iinc (v := (y2 + 1)) (lv' := [(2, .int (y2 + 1)), (0, .ref aRT), (1, .ref aRE)]) hC dX3_fill_38 2 rfl rfl (by decide) rfl rfl ?_
      refine g_goto (tgt := 18) hC dX3_fill_41 (by decide) ?_
      refine g_sub [1, 2, 0] rfl ?_
      exact ih (y2 + 1) (m_X7_set 4 z_cS y2 (m_X3_digitAt tStart tLen sA ((1 : Int32) + y2))) (up_dec c_20 hm) (up_nn c_20 h0_y2) hres
set_option maxRecDepth 100000 in
set_option maxHeartbeats 4000000 in
theorem c_X3_fill (D : va_G) (cI : ClassId) (aRT : Nat) (aSh : Nat) (tStart : Int32) (tLen : Int32) (tDays : Int32) (tLin : Int32) (aShA : Nat) (sHas : Int32) (sLane : Int32) (sLen : Int32) (sA : Nat → Int32) (aRE : Nat) (aReS : Nat) (aReH : Nat) (aReK : Nat) (aReO : Nat) (aReD : Nat) (cDays : Int32) (cLin : Int32) (cS : Nat → Int32) (cH : Nat → Int32) (cK : Nat → Int32) (cO_ : Nat → Int32) (cD : Nat → Int32) : MC yX3_fill wsX3_fill ({ frames := 4, cells := 0, slots := 0, locals := 84 } : Room) D [(cI, .int)] [.ref aRT, .ref aRE] [(aRT, .inr (3, [.ref aSh, .int tStart, .int tLen, .int tDays, .int tLin])), (aSh, .inr (4, [.ref aShA, .int sHas, .int sLane, .int sLen])), (aShA, .inl (cI, 60, .inl sA)), (aRE, .inr (2, [.ref aReS, .ref aReH, .ref aReK, .ref aReO, .ref aReD, .int cDays, .int cLin])), (aReS, .inl (cI, 4, .inl cS)), (aReH, .inl (cI, 6, .inl cH)), (aReK, .inl (cI, 5, .inl cK)), (aReO, .inl (cI, 5, .inl cO_)), (aReD, .inl (cI, 5, .inl cD))] none [(aRT, .inr (3, [.ref aSh, .int tStart, .int tLen, .int tDays, .int tLin])), (aSh, .inr (4, [.ref aShA, .int sHas, .int sLane, .int sLen])), (aShA, .inl (cI, 60, .inl sA)), (aRE, .inr (2, [.ref aReS, .ref aReH, .ref aReK, .ref aReO, .ref aReD, .int ((m_X3_fill tStart tLen tDays tLin sA cS cH cK cO_ cD).1), .int ((m_X3_fill tStart tLen tDays tLin sA cS cH cK cO_ cD).2.1)])), (aReS, .inl (cI, 4, .inl ((m_X3_fill tStart tLen tDays tLin sA cS cH cK cO_ cD).2.2.1))), (aReH, .inl (cI, 6, .inl ((m_X3_fill tStart tLen tDays tLin sA cS cH cK cO_ cD).2.2.2.1))), (aReK, .inl (cI, 5, .inl ((m_X3_fill tStart tLen tDays tLin sA cS cH cK cO_ cD).2.2.2.2.1))), (aReO, .inl (cI, 5, .inl ((m_X3_fill tStart tLen tDays tLin sA cS cH cK cO_ cD).2.2.2.2.2.1))), (aReD, .inl (cI, 5, .inl ((m_X3_fill tStart tLen tDays tLin sA cS cH cK cO_ cD).2.2.2.2.2.2)))] := by
  refine g_entry (by decide) rfl rfl rfl rfl (Nat.le_of_ble_eq_true rfl) (lv := [(0, .ref aRT), (1, .ref aRE)]) rfl ?_
  intro X hC hX
  obtain ⟨res, hres⟩ : ∃ z, z = (m_X3_fill tStart tLen tDays tLin sA cS cH cK cO_ cD) := ⟨_, rfl⟩
  rw [← hres] at hX
  rw [m_X3_fill] at hres
  refine g_aload_n hC dX3_fill_0 rfl 1 rfl rfl ?_
  refine g_aload_n hC dX3_fill_1 rfl 0 rfl rfl ?_
  refine g_get hC iw_X3_fill_RX3 0 rfl rfl 3 (by decide) (List.mem_of_getElem? (i := 1) rfl) rfl rfl dX3_fill_2 rfl ?_
  refine g_put (ws' := [(aRT, .inr (3, [.ref aSh, .int tStart, .int tLen, .int tDays, .int tLin])), (aSh, .inr (4, [.ref aShA, .int sHas, .int sLane, .int sLen])), (aShA, .inl (cI, 60, .inl sA)), (aRE, .inr (2, [.ref aReS, .ref aReH, .ref aReK, .ref aReO, .ref aReD, .int tDays, .int cLin])), (aReS, .inl (cI, 4, .inl cS)), (aReH, .inl (cI, 6, .inl cH)), (aReK, .inl (cI, 5, .inl cK)), (aReO, .inl (cI, 5, .inl cO_)), (aReD, .inl (cI, 5, .inl cD))]) hC iw_X3_fill_RX2 3 rfl rfl 5 (by decide) (List.mem_of_getElem? (i := 2) rfl) rfl tyX2 tyX2_ok nmX2 rfl rfl rfl (Nat.le_of_ble_eq_true rfl) rfl dX3_fill_5 rfl ?_
  refine g_aload_n hC dX3_fill_8 rfl 1 rfl rfl ?_
  refine g_aload_n hC dX3_fill_9 rfl 0 rfl rfl ?_
  refine g_get hC iw_X3_fill_RX3 0 rfl rfl 4 (by decide) (List.mem_of_getElem? (i := 3) rfl) rfl rfl dX3_fill_10 rfl ?_
  refine g_put (ws' := [(aRT, .inr (3, [.ref aSh, .int tStart, .int tLen, .int tDays, .int tLin])), (aSh, .inr (4, [.ref aShA, .int sHas, .int sLane, .int sLen])), (aShA, .inl (cI, 60, .inl sA)), (aRE, .inr (2, [.ref aReS, .ref aReH, .ref aReK, .ref aReO, .ref aReD, .int tDays, .int tLin])), (aReS, .inl (cI, 4, .inl cS)), (aReH, .inl (cI, 6, .inl cH)), (aReK, .inl (cI, 5, .inl cK)), (aReO, .inl (cI, 5, .inl cO_)), (aReD, .inl (cI, 5, .inl cD))]) hC iw_X3_fill_RX2 3 rfl rfl 6 (by decide) (List.mem_of_getElem? (i := 4) rfl) rfl tyX2 tyX2_ok nmX2 rfl rfl rfl (Nat.le_of_ble_eq_true rfl) rfl dX3_fill_13 rfl ?_
  refine g_iconst (v := 0) hC dX3_fill_16 (by decide) rfl ?_
  refine g_istore_n (lv' := [(2, .int (0 : Int32)), (0, .ref aRT), (1, .ref aRE)]) hC dX3_fill_17 rfl (by decide) rfl rfl ?_
  refine g_sub [1, 2, 0] rfl ?_
  exact l_X3_fill_18 D cI aRT aSh tStart tLen tDays tLin aShA sHas sLane sLen sA aRE aReS aReH aReK aReO aReD cDays cLin cS cH cK cO_ cD tDays tLin cH cK cO_ cD  hC hX (((4 : Int32).toInt - (0 : Int32).toInt).toNat + 1) (0 : Int32) cS (Nat.lt_succ_self _) (by decide) hres
