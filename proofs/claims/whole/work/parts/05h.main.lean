theorem holds_ok {len i n : Int32} (h : ¬ m_X4_holds len i n = 0) (hl : 0 ≤ len.toInt ∧ len.toInt ≤ 60) : ¬ i < 0 ∧ ¬ n < 0 ∧ i.toNatClampNeg + n.toNatClampNeg ≤ 60 := by
  unfold m_X4_holds at h
  by_cases h1 : i < 0
  · exact absurd (if_pos h1) h
  · rw [if_neg h1] at h
    by_cases h2 : n < 0
    · exact absurd (if_pos h2) h
    · rw [if_neg h2] at h
      by_cases h3 : len < i
      · exact absurd (if_pos h3) h
      · rw [if_neg h3] at h
        by_cases h4 : (len - i) < n
        · exact absurd (if_pos h4) h
        · have a1 := nlt_ti0 h1
          have a2 := nlt_ti0 h2
          have a3 := nlt_ti h3
          have a4 := nlt_ti h4
          rw [ti_sub (by omega) (by omega)] at a4
          have b1 := tnc a1
          have b2 := tnc a2
          exact ⟨h1, h2, by omega⟩
theorem iw_X7_sheetOf_RX7 : ∀ w ∈ wsX70, w ∈ wsX7_sheetOf := fun _ h => List.mem_cons_of_mem _ (List.mem_append_right _ (h))
def m_X7_sheetOf (sRows : Nat → Option Nat) (k : Int32) : (Option Nat) := (if k < 0 then none else (if (4 : Int32) ≤ k then none else (sRows k.toNatClampNeg)))
set_option maxRecDepth 100000 in
set_option maxHeartbeats 4000000 in
theorem c_X7_sheetOf (D : va_G) (cI : ClassId) (cO : ClassId) (aLL : Nat) (aRE : Nat) (aRT : Nat) (aWE : Nat) (aKE : Nat) (aRD : Nat) (aTE : Nat) (aSR : Nat) (lFault : Int32) (sRows : Nat → Option Nat) (k : Int32) : MC yX7_sheetOf wsX7_sheetOf ({ frames := 0, cells := 0, slots := 0, locals := 0 } : Room) D [(cI, .int), (cO, .object "LinenLaw$Sheet")] [.ref aLL, .int k] [(aLL, .inr (7, [.ref aRE, .ref aRT, .ref aWE, .ref aKE, .ref aRD, .ref aTE, .ref aSR, .int lFault])), (aSR, .inl (cO, 4, .inr (.inr (.inr (.inr sRows)))))] (some (va_rf (m_X7_sheetOf sRows k))) [(aLL, .inr (7, [.ref aRE, .ref aRT, .ref aWE, .ref aKE, .ref aRD, .ref aTE, .ref aSR, .int lFault])), (aSR, .inl (cO, 4, .inr (.inr (.inr (.inr sRows)))))] := by
  refine g_entry (by decide) rfl rfl rfl rfl (Nat.le_of_ble_eq_true rfl) (lv := [(0, .ref aLL), (1, .int k)]) rfl ?_
  intro X hC hX
  obtain ⟨res, hres⟩ : ∃ z, z = (m_X7_sheetOf sRows k) := ⟨_, rfl⟩
  rw [← hres] at hX
  rw [m_X7_sheetOf] at hres
  refine g_iload_n hC dX7_sheetOf_0 rfl 1 rfl rfl ?_
  refine g_if_lt (tgt := 22) hC dX7_sheetOf_1 (by decide) rfl (fun c_1 => ?_) (fun c_1 => ?_)
  · rw [if_pos c_1] at hres
    refine g_null hC dX7_sheetOf_22 rfl ?_
    subst hres
    exact g_aret hC hX rfl (by first | exact va_rf_or _ | exact Or.inl rfl | exact Or.inr ⟨_, rfl⟩) dX7_sheetOf_23 rfl rfl
  · rw [if_neg c_1] at hres
    refine g_iload_n hC dX7_sheetOf_4 rfl 1 rfl rfl ?_
    refine g_aload_n hC dX7_sheetOf_5 rfl 0 rfl rfl ?_
    refine g_get hC iw_X7_sheetOf_RX7 0 rfl rfl 6 (by decide) (List.mem_of_getElem? (i := 1) rfl) rfl rfl dX7_sheetOf_6 rfl ?_
    refine g_alen (v := (4 : Int32)) hC 1 1 rfl rfl rfl dX7_sheetOf_9 rfl ?_
    refine g_icmp_ge (tgt := 22) hC dX7_sheetOf_10 (by decide) rfl (fun c_10 => ?_) (fun c_10 => ?_)
    · rw [if_pos c_10] at hres
      refine g_null hC dX7_sheetOf_22 rfl ?_
      subst hres
      exact g_aret hC hX rfl (by first | exact va_rf_or _ | exact Or.inl rfl | exact Or.inr ⟨_, rfl⟩) dX7_sheetOf_23 rfl rfl
    · rw [if_neg c_10] at hres
      refine g_aload_n hC dX7_sheetOf_13 rfl 0 rfl rfl ?_
      refine g_get hC iw_X7_sheetOf_RX7 0 rfl rfl 6 (by decide) (List.mem_of_getElem? (i := 1) rfl) rfl rfl dX7_sheetOf_14 rfl ?_
      refine g_iload_n hC dX7_sheetOf_17 rfl 1 rfl rfl ?_
      refine g_aldq hC 1 1 rfl rfl (by exact in_up (nlt_ti0 c_1) c_10 (by decide)) dX7_sheetOf_18 rfl ?_
      refine g_goto (tgt := 23) hC dX7_sheetOf_19 (by decide) ?_
      subst hres
      exact g_aret hC hX rfl (by first | exact va_rf_or _ | exact Or.inl rfl | exact Or.inr ⟨_, rfl⟩) dX7_sheetOf_23 rfl rfl
theorem iw_X7_faulted_RX7 : ∀ w ∈ wsX70, w ∈ wsX7_faulted := fun _ h => List.mem_cons_of_mem _ (List.mem_append_right _ (h))
def m_X7_faulted (num : Int32) : (Int32 × Int32) := (((-10 : Int32) - num), num)
set_option maxRecDepth 100000 in
set_option maxHeartbeats 4000000 in
theorem c_X7_faulted (D : va_G) (cI : ClassId) (aLL : Nat) (aRE : Nat) (aRT : Nat) (aWE : Nat) (aKE : Nat) (aRD : Nat) (aTE : Nat) (aSR : Nat) (lFault : Int32) (num : Int32) : MC yX7_faulted wsX7_faulted ({ frames := 0, cells := 0, slots := 0, locals := 0 } : Room) D [(cI, .int)] [.ref aLL, .int num] [(aLL, .inr (7, [.ref aRE, .ref aRT, .ref aWE, .ref aKE, .ref aRD, .ref aTE, .ref aSR, .int lFault]))] (some (.int ((m_X7_faulted num).1))) [(aLL, .inr (7, [.ref aRE, .ref aRT, .ref aWE, .ref aKE, .ref aRD, .ref aTE, .ref aSR, .int ((m_X7_faulted num).2)]))] := by
  refine g_entry (by decide) rfl rfl rfl rfl (Nat.le_of_ble_eq_true rfl) (lv := [(0, .ref aLL), (1, .int num)]) rfl ?_
  intro X hC hX
  obtain ⟨res, hres⟩ : ∃ z, z = (m_X7_faulted num) := ⟨_, rfl⟩
  rw [← hres] at hX
  rw [m_X7_faulted] at hres
  refine g_aload_n hC dX7_faulted_0 rfl 0 rfl rfl ?_
  refine g_iload_n hC dX7_faulted_1 rfl 1 rfl rfl ?_
  refine g_put (ws' := [(aLL, .inr (7, [.ref aRE, .ref aRT, .ref aWE, .ref aKE, .ref aRD, .ref aTE, .ref aSR, .int num]))]) hC iw_X7_faulted_RX7 0 rfl rfl 7 (by decide) (List.mem_of_getElem? (i := 1) rfl) rfl tyX7 tyX7_ok nmX7 rfl rfl rfl (Nat.le_of_ble_eq_true rfl) rfl dX7_faulted_2 rfl ?_
  refine g_bipush (v := -10) hC dX7_faulted_5 (by decide) rfl ?_
  refine g_iload_n hC dX7_faulted_7 rfl 1 rfl rfl ?_
  refine g_isub hC dX7_faulted_8 rfl ?_
  subst hres
  exact g_iret hC hX rfl dX7_faulted_9 rfl rfl
theorem iw_X7_realm_RX1 : ∀ w ∈ wsX10, w ∈ wsX7_realm := fun _ h => List.mem_cons_of_mem _ (List.mem_append_left _ (List.mem_append_left _ (List.mem_append_left _ (List.mem_append_right _ (h)))))
theorem iw_X7_realm_RX2 : ∀ w ∈ wsX20, w ∈ wsX7_realm := fun _ h => List.mem_cons_of_mem _ (List.mem_append_left _ (List.mem_append_left _ (List.mem_append_right _ (h))))
theorem iw_X7_realm_RX7 : ∀ w ∈ wsX70, w ∈ wsX7_realm := fun _ h => List.mem_cons_of_mem _ (List.mem_append_left _ (List.mem_append_left _ (List.mem_append_left _ (List.mem_append_left _ (List.mem_append_right _ (h))))))
def m_X7_realm_in (tSrc : Option Nat) (tStart : Int32) (tLen : Int32) (tDays : Int32) (tLin : Int32) (aSh : Nat) (sHas : Int32) (sLane : Int32) (sLen : Int32) (sA : Nat → Int32) (cDays : Int32) (cLin : Int32) (cS : Nat → Int32) (cH : Nat → Int32) (cK : Nat → Int32) (cO_ : Nat → Int32) (cD : Nat → Int32) (rCnt : Int32) (lane : Int32) (i : Int32) (n : Int32) : (Int32 × Int32 × Option Nat × Int32 × Int32 × Int32 × Int32 × Int32 × Int32 × (Nat → Int32) × (Nat → Int32) × (Nat → Int32) × (Nat → Int32) × (Nat → Int32) × Int32) := (if (m_X7_isBelow lane (3 : Int32)) = 0 then ((-2 : Int32), (0 : Int32), tSrc, tStart, tLen, tDays, tLin, cDays, cLin, cS, cH, cK, cO_, cD, rCnt) else (if (m_X4_faultOfCells sHas sLane sLen lane i n) = 0 then (if (m_X3_firstFault tDays tLin sA i n).1 = (-9 : Int32) then ((m_X3_fill i n ((m_X3_firstFault tDays tLin sA i n).2.1) ((m_X3_firstFault tDays tLin sA i n).2.2) sA cS cH cK cO_ cD).2.1, (0 : Int32), (some aSh), i, n, (m_X3_firstFault tDays tLin sA i n).2.1, (m_X3_firstFault tDays tLin sA i n).2.2, (m_X3_fill i n ((m_X3_firstFault tDays tLin sA i n).2.1) ((m_X3_firstFault tDays tLin sA i n).2.2) sA cS cH cK cO_ cD).1, (m_X3_fill i n ((m_X3_firstFault tDays tLin sA i n).2.1) ((m_X3_firstFault tDays tLin sA i n).2.2) sA cS cH cK cO_ cD).2.1, (m_X3_fill i n ((m_X3_firstFault tDays tLin sA i n).2.1) ((m_X3_firstFault tDays tLin sA i n).2.2) sA cS cH cK cO_ cD).2.2.1, (m_X3_fill i n ((m_X3_firstFault tDays tLin sA i n).2.1) ((m_X3_firstFault tDays tLin sA i n).2.2) sA cS cH cK cO_ cD).2.2.2.1, (m_X3_fill i n ((m_X3_firstFault tDays tLin sA i n).2.1) ((m_X3_firstFault tDays tLin sA i n).2.2) sA cS cH cK cO_ cD).2.2.2.2.1, (m_X3_fill i n ((m_X3_firstFault tDays tLin sA i n).2.1) ((m_X3_firstFault tDays tLin sA i n).2.2) sA cS cH cK cO_ cD).2.2.2.2.2.1, (m_X3_fill i n ((m_X3_firstFault tDays tLin sA i n).2.1) ((m_X3_firstFault tDays tLin sA i n).2.2) sA cS cH cK cO_ cD).2.2.2.2.2.2, (0 : Int32)) else (((-100 : Int32) - (m_X3_firstFault tDays tLin sA i n).1), (0 : Int32), (some aSh), i, n, (m_X3_firstFault tDays tLin sA i n).2.1, (m_X3_firstFault tDays tLin sA i n).2.2, cDays, cLin, cS, cH, cK, cO_, cD, rCnt)) else ((m_X7_faulted (m_X4_faultOfCells sHas sLane sLen lane i n)).1, (m_X7_faulted (m_X4_faultOfCells sHas sLane sLen lane i n)).2, tSrc, tStart, tLen, tDays, tLin, cDays, cLin, cS, cH, cK, cO_, cD, rCnt)))
set_option maxRecDepth 100000 in
set_option maxHeartbeats 4000000 in
theorem c_X7_realm_in (D : va_G) (cI : ClassId) (cO : ClassId) (aLL : Nat) (aRE : Nat) (aRT : Nat) (aWE : Nat) (aKE : Nat) (aRD : Nat) (aTE : Nat) (aSR : Nat) (lFault : Int32) (sRows : Nat → Option Nat) (tSrc : Option Nat) (tStart : Int32) (tLen : Int32) (tDays : Int32) (tLin : Int32) (aSh : Nat) (aShA : Nat) (sHas : Int32) (sLane : Int32) (sLen : Int32) (sA : Nat → Int32) (aReS : Nat) (aReH : Nat) (aReK : Nat) (aReO : Nat) (aReD : Nat) (cDays : Int32) (cLin : Int32) (cS : Nat → Int32) (cH : Nat → Int32) (cK : Nat → Int32) (cO_ : Nat → Int32) (cD : Nat → Int32) (aRdL : Nat) (aRdE : Nat) (aRdD : Nat) (rCnt : Int32) (k : Int32) (lane : Int32) (i : Int32) (n : Int32) (hsh : m_X7_sheetOf sRows k = some aSh) : MC yX7_realm wsX7_realm ({ frames := 6, cells := 0, slots := 0, locals := 131 } : Room) D [(cI, .int), (cO, .object "LinenLaw$Sheet")] [.ref aLL, .int k, .int lane, .int i, .int n] [(aLL, .inr (7, [.ref aRE, .ref aRT, .ref aWE, .ref aKE, .ref aRD, .ref aTE, .ref aSR, .int lFault])), (aSR, .inl (cO, 4, .inr (.inr (.inr (.inr sRows))))), (aRT, .inr (3, [va_rf tSrc, .int tStart, .int tLen, .int tDays, .int tLin])), (aSh, .inr (4, [.ref aShA, .int sHas, .int sLane, .int sLen])), (aShA, .inl (cI, 60, .inl sA)), (aRE, .inr (2, [.ref aReS, .ref aReH, .ref aReK, .ref aReO, .ref aReD, .int cDays, .int cLin])), (aReS, .inl (cI, 4, .inl cS)), (aReH, .inl (cI, 6, .inl cH)), (aReK, .inl (cI, 5, .inl cK)), (aReO, .inl (cI, 5, .inl cO_)), (aReD, .inl (cI, 5, .inl cD)), (aRD, .inr (1, [.ref aRdL, .ref aRdE, .ref aRdD, .int rCnt]))] (some (.int ((m_X7_realm_in tSrc tStart tLen tDays tLin aSh sHas sLane sLen sA cDays cLin cS cH cK cO_ cD rCnt lane i n).1))) [(aLL, .inr (7, [.ref aRE, .ref aRT, .ref aWE, .ref aKE, .ref aRD, .ref aTE, .ref aSR, .int ((m_X7_realm_in tSrc tStart tLen tDays tLin aSh sHas sLane sLen sA cDays cLin cS cH cK cO_ cD rCnt lane i n).2.1)])), (aSR, .inl (cO, 4, .inr (.inr (.inr (.inr sRows))))), (aRT, .inr (3, [va_rf ((m_X7_realm_in tSrc tStart tLen tDays tLin aSh sHas sLane sLen sA cDays cLin cS cH cK cO_ cD rCnt lane i n).2.2.1), .int ((m_X7_realm_in tSrc tStart tLen tDays tLin aSh sHas sLane sLen sA cDays cLin cS cH cK cO_ cD rCnt lane i n).2.2.2.1), .int ((m_X7_realm_in tSrc tStart tLen tDays tLin aSh sHas sLane sLen sA cDays cLin cS cH cK cO_ cD rCnt lane i n).2.2.2.2.1), .int ((m_X7_realm_in tSrc tStart tLen tDays tLin aSh sHas sLane sLen sA cDays cLin cS cH cK cO_ cD rCnt lane i n).2.2.2.2.2.1), .int ((m_X7_realm_in tSrc tStart tLen tDays tLin aSh sHas sLane sLen sA cDays cLin cS cH cK cO_ cD rCnt lane i n).2.2.2.2.2.2.1)])), (aSh, .inr (4, [.ref aShA, .int sHas, .int sLane, .int sLen])), (aShA, .inl (cI, 60, .inl sA)), (aRE, .inr (2, [.ref aReS, .ref aReH, .ref aReK, .ref aReO, .ref aReD, .int ((m_X7_realm_in tSrc tStart tLen tDays tLin aSh sHas sLane sLen sA cDays cLin cS cH cK cO_ cD rCnt lane i n).2.2.2.2.2.2.2.1), .int ((m_X7_realm_in tSrc tStart tLen tDays tLin aSh sHas sLane sLen sA cDays cLin cS cH cK cO_ cD rCnt lane i n).2.2.2.2.2.2.2.2.1)])), (aReS, .inl (cI, 4, .inl ((m_X7_realm_in tSrc tStart tLen tDays tLin aSh sHas sLane sLen sA cDays cLin cS cH cK cO_ cD rCnt lane i n).2.2.2.2.2.2.2.2.2.1))), (aReH, .inl (cI, 6, .inl ((m_X7_realm_in tSrc tStart tLen tDays tLin aSh sHas sLane sLen sA cDays cLin cS cH cK cO_ cD rCnt lane i n).2.2.2.2.2.2.2.2.2.2.1))), (aReK, .inl (cI, 5, .inl ((m_X7_realm_in tSrc tStart tLen tDays tLin aSh sHas sLane sLen sA cDays cLin cS cH cK cO_ cD rCnt lane i n).2.2.2.2.2.2.2.2.2.2.2.1))), (aReO, .inl (cI, 5, .inl ((m_X7_realm_in tSrc tStart tLen tDays tLin aSh sHas sLane sLen sA cDays cLin cS cH cK cO_ cD rCnt lane i n).2.2.2.2.2.2.2.2.2.2.2.2.1))), (aReD, .inl (cI, 5, .inl ((m_X7_realm_in tSrc tStart tLen tDays tLin aSh sHas sLane sLen sA cDays cLin cS cH cK cO_ cD rCnt lane i n).2.2.2.2.2.2.2.2.2.2.2.2.2.1))), (aRD, .inr (1, [.ref aRdL, .ref aRdE, .ref aRdD, .int ((m_X7_realm_in tSrc tStart tLen tDays tLin aSh sHas sLane sLen sA cDays cLin cS cH cK cO_ cD rCnt lane i n).2.2.2.2.2.2.2.2.2.2.2.2.2.2)]))] := by
  refine g_entry (by decide) rfl rfl rfl rfl (Nat.le_of_ble_eq_true rfl) (lv := [(0, .ref aLL), (1, .int k), (2, .int lane), (3, .int i), (4, .int n)]) rfl ?_
  intro X hC hX
  obtain ⟨res, hres⟩ : ∃ z, z = (m_X7_realm_in tSrc tStart tLen tDays tLin aSh sHas sLane sLen sA cDays cLin cS cH cK cO_ cD rCnt lane i n) := ⟨_, rfl⟩
  rw [← hres] at hX
  rw [m_X7_realm_in] at hres
  refine g_aload_n hC dX7_realm_0 rfl 0 rfl rfl ?_
  refine g_iconst (v := 0) hC dX7_realm_1 (by decide) rfl ?_
  refine g_put (ws' := [(aLL, .inr (7, [.ref aRE, .ref aRT, .ref aWE, .ref aKE, .ref aRD, .ref aTE, .ref aSR, .int (0 : Int32)])), (aSR, .inl (cO, 4, .inr (.inr (.inr (.inr sRows))))), (aRT, .inr (3, [va_rf tSrc, .int tStart, .int tLen, .int tDays, .int tLin])), (aSh, .inr (4, [.ref aShA, .int sHas, .int sLane, .int sLen])), (aShA, .inl (cI, 60, .inl sA)), (aRE, .inr (2, [.ref aReS, .ref aReH, .ref aReK, .ref aReO, .ref aReD, .int cDays, .int cLin])), (aReS, .inl (cI, 4, .inl cS)), (aReH, .inl (cI, 6, .inl cH)), (aReK, .inl (cI, 5, .inl cK)), (aReO, .inl (cI, 5, .inl cO_)), (aReD, .inl (cI, 5, .inl cD)), (aRD, .inr (1, [.ref aRdL, .ref aRdE, .ref aRdD, .int rCnt]))]) hC iw_X7_realm_RX7 0 rfl rfl 7 (by decide) (List.mem_of_getElem? (i := 1) rfl) rfl tyX7 tyX7_ok nmX7 rfl rfl rfl (Nat.le_of_ble_eq_true rfl) rfl dX7_realm_2 rfl ?_
  refine g_aload_n hC dX7_realm_5 rfl 0 rfl rfl ?_
  refine g_iload_n hC dX7_realm_6 rfl 1 rfl rfl ?_
  refine g_callV (ws' := [(aLL, .inr (7, [.ref aRE, .ref aRT, .ref aWE, .ref aKE, .ref aRD, .ref aTE, .ref aSR, .int (0 : Int32)])), (aSR, .inl (cO, 4, .inr (.inr (.inr (.inr sRows))))), (aRT, .inr (3, [va_rf tSrc, .int tStart, .int tLen, .int tDays, .int tLin])), (aSh, .inr (4, [.ref aShA, .int sHas, .int sLane, .int sLen])), (aShA, .inl (cI, 60, .inl sA)), (aRE, .inr (2, [.ref aReS, .ref aReH, .ref aReK, .ref aReO, .ref aReD, .int cDays, .int cLin])), (aReS, .inl (cI, 4, .inl cS)), (aReH, .inl (cI, 6, .inl cH)), (aReK, .inl (cI, 5, .inl cK)), (aReO, .inl (cI, 5, .inl cO_)), (aReD, .inl (cI, 5, .inl cD)), (aRD, .inr (1, [.ref aRdL, .ref aRdE, .ref aRdD, .int rCnt]))]) (st' := [.ref aSh]) (nw := 12) (n1 := 2) hC gX7_realm_X7_sheetOf hdV_yX7_sheetOf 0 rfl rfl (As := [.int k]) (rest := []) (c_X7_sheetOf D cI cO aLL aRE aRT aWE aKE aRD aTE aSR (0 : Int32) sRows k) rfl ⟨by decide, by decide⟩ rfl [0, 1] [2, 3, 4, 5, 6, 7, 8, 9, 10, 11] [10, 11, 0, 1, 2, 3, 4, 5, 6, 7, 8, 9] [0, 1] rfl rfl rfl rfl (by decide) rfl rfl (Nat.le_of_ble_eq_true rfl) dX7_realm_7 rfl (by rw [hsh]; rfl) ?_
  refine g_astore (lv' := [(5, .ref aSh), (0, .ref aLL), (1, .int k), (2, .int lane), (3, .int i), (4, .int n)]) hC dX7_realm_10 (by decide) rfl rfl ?_
  refine g_aload hC dX7_realm_12 0 rfl rfl ?_
  refine g_ifnonnull (tgt := 19) hC dX7_realm_14 (by decide) ?_
  refine g_iload_n hC dX7_realm_19 rfl 3 rfl rfl ?_
  refine g_iconst (v := 3) hC dX7_realm_20 (by decide) rfl ?_
  refine g_callS (ws' := [(aLL, .inr (7, [.ref aRE, .ref aRT, .ref aWE, .ref aKE, .ref aRD, .ref aTE, .ref aSR, .int (0 : Int32)])), (aSR, .inl (cO, 4, .inr (.inr (.inr (.inr sRows))))), (aRT, .inr (3, [va_rf tSrc, .int tStart, .int tLen, .int tDays, .int tLin])), (aSh, .inr (4, [.ref aShA, .int sHas, .int sLane, .int sLen])), (aShA, .inl (cI, 60, .inl sA)), (aRE, .inr (2, [.ref aReS, .ref aReH, .ref aReK, .ref aReO, .ref aReD, .int cDays, .int cLin])), (aReS, .inl (cI, 4, .inl cS)), (aReH, .inl (cI, 6, .inl cH)), (aReK, .inl (cI, 5, .inl cK)), (aReO, .inl (cI, 5, .inl cO_)), (aReD, .inl (cI, 5, .inl cD)), (aRD, .inr (1, [.ref aRdL, .ref aRdE, .ref aRdD, .int rCnt]))]) (st' := [.int (m_X7_isBelow lane (3 : Int32))]) (nw := 12) (n1 := 0) hC gX7_realm_X7_isBelow hdS_yX7_isBelow (As := [.int lane, .int (3 : Int32)]) (rest := []) (c_X7_isBelow D cI lane (3 : Int32)) rfl ⟨by decide, by decide⟩ rfl [] [0, 1, 2, 3, 4, 5, 6, 7, 8, 9, 10, 11] [0, 1, 2, 3, 4, 5, 6, 7, 8, 9, 10, 11] [0] rfl rfl rfl rfl (by decide) rfl rfl (Nat.le_of_ble_eq_true rfl) dX7_realm_21 rfl rfl ?_
  refine g_if_ne (tgt := 30) hC dX7_realm_24 (by decide) rfl (fun c_24 => ?_) (fun c_24 => ?_)
  · rw [if_neg c_24] at hres
    refine g_aload hC dX7_realm_30 0 rfl rfl ?_
    refine g_iload_n hC dX7_realm_32 rfl 3 rfl rfl ?_
    refine g_iload_n hC dX7_realm_33 rfl 4 rfl rfl ?_
    refine g_iload hC dX7_realm_34 5 rfl rfl ?_
    refine g_callV (ws' := [(aLL, .inr (7, [.ref aRE, .ref aRT, .ref aWE, .ref aKE, .ref aRD, .ref aTE, .ref aSR, .int (0 : Int32)])), (aSR, .inl (cO, 4, .inr (.inr (.inr (.inr sRows))))), (aRT, .inr (3, [va_rf tSrc, .int tStart, .int tLen, .int tDays, .int tLin])), (aSh, .inr (4, [.ref aShA, .int sHas, .int sLane, .int sLen])), (aShA, .inl (cI, 60, .inl sA)), (aRE, .inr (2, [.ref aReS, .ref aReH, .ref aReK, .ref aReO, .ref aReD, .int cDays, .int cLin])), (aReS, .inl (cI, 4, .inl cS)), (aReH, .inl (cI, 6, .inl cH)), (aReK, .inl (cI, 5, .inl cK)), (aReO, .inl (cI, 5, .inl cO_)), (aReD, .inl (cI, 5, .inl cD)), (aRD, .inr (1, [.ref aRdL, .ref aRdE, .ref aRdD, .int rCnt]))]) (st' := [.int (m_X4_faultOfCells sHas sLane sLen lane i n)]) (nw := 12) (n1 := 1) hC gX7_realm_X4_faultOfCells hdV_yX4_faultOfCells 3 rfl rfl (As := [.int lane, .int i, .int n]) (rest := []) (c_X4_faultOfCells D cI aSh aShA sHas sLane sLen lane i n) rfl ⟨by decide, by decide⟩ rfl [3] [0, 1, 2, 4, 5, 6, 7, 8, 9, 10, 11] [0, 1, 2, 11, 3, 4, 5, 6, 7, 8, 9, 10] [0] rfl rfl rfl rfl (by decide) rfl rfl (Nat.le_of_ble_eq_true rfl) dX7_realm_36 rfl rfl ?_
    refine g_istore (lv' := [(6, .int (m_X4_faultOfCells sHas sLane sLen lane i n)), (5, .ref aSh), (0, .ref aLL), (1, .int k), (2, .int lane), (3, .int i), (4, .int n)]) hC dX7_realm_39 (by decide) rfl rfl ?_
    refine g_iload hC dX7_realm_41 0 rfl rfl ?_
    refine g_if_eq (tgt := 53) hC dX7_realm_43 (by decide) rfl (fun c_43 => ?_) (fun c_43 => ?_)
    · rw [if_pos c_43] at hres
      refine g_aload_n hC dX7_realm_53 rfl 2 rfl rfl ?_
      refine g_get hC iw_X7_realm_RX7 0 rfl rfl 1 (by decide) (List.mem_of_getElem? (i := 2) rfl) rfl rfl dX7_realm_54 rfl ?_
      refine g_aload hC dX7_realm_57 1 rfl rfl ?_
      refine g_iload_n hC dX7_realm_59 rfl 5 rfl rfl ?_
      refine g_iload hC dX7_realm_60 6 rfl rfl ?_
      refine g_callV (ws' := [(aLL, .inr (7, [.ref aRE, .ref aRT, .ref aWE, .ref aKE, .ref aRD, .ref aTE, .ref aSR, .int (0 : Int32)])), (aSR, .inl (cO, 4, .inr (.inr (.inr (.inr sRows))))), (aRT, .inr (3, [.ref aSh, .int i, .int n, .int ((m_X3_firstFault tDays tLin sA i n).2.1), .int ((m_X3_firstFault tDays tLin sA i n).2.2)])), (aSh, .inr (4, [.ref aShA, .int sHas, .int sLane, .int sLen])), (aShA, .inl (cI, 60, .inl sA)), (aRE, .inr (2, [.ref aReS, .ref aReH, .ref aReK, .ref aReO, .ref aReD, .int cDays, .int cLin])), (aReS, .inl (cI, 4, .inl cS)), (aReH, .inl (cI, 6, .inl cH)), (aReK, .inl (cI, 5, .inl cK)), (aReO, .inl (cI, 5, .inl cO_)), (aReD, .inl (cI, 5, .inl cD)), (aRD, .inr (1, [.ref aRdL, .ref aRdE, .ref aRdD, .int rCnt]))]) (st' := [.int ((m_X3_firstFault tDays tLin sA i n).1)]) (nw := 12) (n1 := 3) hC gX7_realm_X3_firstFault hdV_yX3_firstFault 2 rfl rfl (As := [.ref aSh, .int i, .int n]) (rest := []) (c_X3_firstFault D cI aRT tSrc tStart tLen tDays tLin aSh aShA sHas sLane sLen sA i n) rfl ⟨by decide, by decide⟩ rfl [2, 3, 4] [0, 1, 5, 6, 7, 8, 9, 10, 11] [0, 1, 9, 10, 11, 2, 3, 4, 5, 6, 7, 8] [0] rfl rfl rfl rfl (by decide) rfl rfl (Nat.le_of_ble_eq_true rfl) dX7_realm_62 rfl rfl ?_
      refine g_istore (lv' := [(7, .int ((m_X3_firstFault tDays tLin sA i n).1)), (6, .int (m_X4_faultOfCells sHas sLane sLen lane i n)), (5, .ref aSh), (0, .ref aLL), (1, .int k), (2, .int lane), (3, .int i), (4, .int n)]) hC dX7_realm_65 (by decide) rfl rfl ?_
      refine g_iload hC dX7_realm_67 0 rfl rfl ?_
      refine g_bipush (v := -9) hC dX7_realm_69 (by decide) rfl ?_
      refine g_icmp_eq (tgt := 80) hC dX7_realm_71 (by decide) rfl (fun c_71 => ?_) (fun c_71 => ?_)
      · rw [if_pos c_71] at hres
        refine g_aload_n hC dX7_realm_80 rfl 3 rfl rfl ?_
        refine g_get hC iw_X7_realm_RX7 0 rfl rfl 1 (by decide) (List.mem_of_getElem? (i := 2) rfl) rfl rfl dX7_realm_81 rfl ?_
        refine g_aload_n hC dX7_realm_84 rfl 3 rfl rfl ?_
        refine g_get hC iw_X7_realm_RX7 0 rfl rfl 0 (by decide) (List.mem_of_getElem? (i := 3) rfl) rfl rfl dX7_realm_85 rfl ?_
        refine g_callV (ws' := [(aLL, .inr (7, [.ref aRE, .ref aRT, .ref aWE, .ref aKE, .ref aRD, .ref aTE, .ref aSR, .int (0 : Int32)])), (aSR, .inl (cO, 4, .inr (.inr (.inr (.inr sRows))))), (aRT, .inr (3, [.ref aSh, .int i, .int n, .int ((m_X3_firstFault tDays tLin sA i n).2.1), .int ((m_X3_firstFault tDays tLin sA i n).2.2)])), (aSh, .inr (4, [.ref aShA, .int sHas, .int sLane, .int sLen])), (aShA, .inl (cI, 60, .inl sA)), (aRE, .inr (2, [.ref aReS, .ref aReH, .ref aReK, .ref aReO, .ref aReD, .int ((m_X3_fill i n ((m_X3_firstFault tDays tLin sA i n).2.1) ((m_X3_firstFault tDays tLin sA i n).2.2) sA cS cH cK cO_ cD).1), .int ((m_X3_fill i n ((m_X3_firstFault tDays tLin sA i n).2.1) ((m_X3_firstFault tDays tLin sA i n).2.2) sA cS cH cK cO_ cD).2.1)])), (aReS, .inl (cI, 4, .inl ((m_X3_fill i n ((m_X3_firstFault tDays tLin sA i n).2.1) ((m_X3_firstFault tDays tLin sA i n).2.2) sA cS cH cK cO_ cD).2.2.1))), (aReH, .inl (cI, 6, .inl ((m_X3_fill i n ((m_X3_firstFault tDays tLin sA i n).2.1) ((m_X3_firstFault tDays tLin sA i n).2.2) sA cS cH cK cO_ cD).2.2.2.1))), (aReK, .inl (cI, 5, .inl ((m_X3_fill i n ((m_X3_firstFault tDays tLin sA i n).2.1) ((m_X3_firstFault tDays tLin sA i n).2.2) sA cS cH cK cO_ cD).2.2.2.2.1))), (aReO, .inl (cI, 5, .inl ((m_X3_fill i n ((m_X3_firstFault tDays tLin sA i n).2.1) ((m_X3_firstFault tDays tLin sA i n).2.2) sA cS cH cK cO_ cD).2.2.2.2.2.1))), (aReD, .inl (cI, 5, .inl ((m_X3_fill i n ((m_X3_firstFault tDays tLin sA i n).2.1) ((m_X3_firstFault tDays tLin sA i n).2.2) sA cS cH cK cO_ cD).2.2.2.2.2.2))), (aRD, .inr (1, [.ref aRdL, .ref aRdE, .ref aRdD, .int rCnt]))]) (st' := []) (nw := 12) (n1 := 9) hC gX7_realm_X3_fill hdV_yX3_fill 2 rfl rfl (As := [.ref aRE]) (rest := []) (c_X3_fill D cI aRT aSh i n ((m_X3_firstFault tDays tLin sA i n).2.1) ((m_X3_firstFault tDays tLin sA i n).2.2) aShA sHas sLane sLen sA aRE aReS aReH aReK aReO aReD cDays cLin cS cH cK cO_ cD) rfl ⟨by decide, by decide⟩ rfl [2, 3, 4, 5, 6, 7, 8, 9, 10] [0, 1, 11] [0, 1, 3, 4, 5, 6, 7, 8, 9, 10, 11, 2] [0] rfl rfl rfl rfl (by decide) rfl rfl (Nat.le_of_ble_eq_true rfl) dX7_realm_88 rfl rfl ?_
        refine g_aload_n hC dX7_realm_91 rfl 3 rfl rfl ?_
        refine g_get hC iw_X7_realm_RX7 0 rfl rfl 4 (by decide) (List.mem_of_getElem? (i := 4) rfl) rfl rfl dX7_realm_92 rfl ?_
        refine g_iconst (v := 0) hC dX7_realm_95 (by decide) rfl ?_
        refine g_put (ws' := [(aLL, .inr (7, [.ref aRE, .ref aRT, .ref aWE, .ref aKE, .ref aRD, .ref aTE, .ref aSR, .int (0 : Int32)])), (aSR, .inl (cO, 4, .inr (.inr (.inr (.inr sRows))))), (aRT, .inr (3, [.ref aSh, .int i, .int n, .int ((m_X3_firstFault tDays tLin sA i n).2.1), .int ((m_X3_firstFault tDays tLin sA i n).2.2)])), (aSh, .inr (4, [.ref aShA, .int sHas, .int sLane, .int sLen])), (aShA, .inl (cI, 60, .inl sA)), (aRE, .inr (2, [.ref aReS, .ref aReH, .ref aReK, .ref aReO, .ref aReD, .int ((m_X3_fill i n ((m_X3_firstFault tDays tLin sA i n).2.1) ((m_X3_firstFault tDays tLin sA i n).2.2) sA cS cH cK cO_ cD).1), .int ((m_X3_fill i n ((m_X3_firstFault tDays tLin sA i n).2.1) ((m_X3_firstFault tDays tLin sA i n).2.2) sA cS cH cK cO_ cD).2.1)])), (aReS, .inl (cI, 4, .inl ((m_X3_fill i n ((m_X3_firstFault tDays tLin sA i n).2.1) ((m_X3_firstFault tDays tLin sA i n).2.2) sA cS cH cK cO_ cD).2.2.1))), (aReH, .inl (cI, 6, .inl ((m_X3_fill i n ((m_X3_firstFault tDays tLin sA i n).2.1) ((m_X3_firstFault tDays tLin sA i n).2.2) sA cS cH cK cO_ cD).2.2.2.1))), (aReK, .inl (cI, 5, .inl ((m_X3_fill i n ((m_X3_firstFault tDays tLin sA i n).2.1) ((m_X3_firstFault tDays tLin sA i n).2.2) sA cS cH cK cO_ cD).2.2.2.2.1))), (aReO, .inl (cI, 5, .inl ((m_X3_fill i n ((m_X3_firstFault tDays tLin sA i n).2.1) ((m_X3_firstFault tDays tLin sA i n).2.2) sA cS cH cK cO_ cD).2.2.2.2.2.1))), (aReD, .inl (cI, 5, .inl ((m_X3_fill i n ((m_X3_firstFault tDays tLin sA i n).2.1) ((m_X3_firstFault tDays tLin sA i n).2.2) sA cS cH cK cO_ cD).2.2.2.2.2.2))), (aRD, .inr (1, [.ref aRdL, .ref aRdE, .ref aRdD, .int (0 : Int32)]))]) hC iw_X7_realm_RX1 11 rfl rfl 3 (by decide) (List.mem_of_getElem? (i := 5) rfl) rfl tyX1 tyX1_ok nmX1 rfl rfl rfl (Nat.le_of_ble_eq_true rfl) rfl dX7_realm_96 rfl ?_
        refine g_aload_n hC dX7_realm_99 rfl 3 rfl rfl ?_
        refine g_get hC iw_X7_realm_RX7 0 rfl rfl 0 (by decide) (List.mem_of_getElem? (i := 3) rfl) rfl rfl dX7_realm_100 rfl ?_
        refine g_get hC iw_X7_realm_RX2 5 rfl rfl 6 (by decide) (List.mem_of_getElem? (i := 6) rfl) rfl rfl dX7_realm_103 rfl ?_
        subst hres
        exact g_iret hC hX rfl dX7_realm_106 rfl rfl
      · rw [if_neg c_71] at hres
        refine g_bipush (v := -100) hC dX7_realm_74 (by decide) rfl ?_
        refine g_iload hC dX7_realm_76 0 rfl rfl ?_
        refine g_isub hC dX7_realm_78 rfl ?_
        subst hres
        exact g_iret hC hX rfl dX7_realm_79 rfl rfl
    · rw [if_neg c_43] at hres
      refine g_aload_n hC dX7_realm_46 rfl 2 rfl rfl ?_
      refine g_iload hC dX7_realm_47 0 rfl rfl ?_
      refine g_callV (ws' := [(aLL, .inr (7, [.ref aRE, .ref aRT, .ref aWE, .ref aKE, .ref aRD, .ref aTE, .ref aSR, .int ((m_X7_faulted (m_X4_faultOfCells sHas sLane sLen lane i n)).2)])), (aSR, .inl (cO, 4, .inr (.inr (.inr (.inr sRows))))), (aRT, .inr (3, [va_rf tSrc, .int tStart, .int tLen, .int tDays, .int tLin])), (aSh, .inr (4, [.ref aShA, .int sHas, .int sLane, .int sLen])), (aShA, .inl (cI, 60, .inl sA)), (aRE, .inr (2, [.ref aReS, .ref aReH, .ref aReK, .ref aReO, .ref aReD, .int cDays, .int cLin])), (aReS, .inl (cI, 4, .inl cS)), (aReH, .inl (cI, 6, .inl cH)), (aReK, .inl (cI, 5, .inl cK)), (aReO, .inl (cI, 5, .inl cO_)), (aReD, .inl (cI, 5, .inl cD)), (aRD, .inr (1, [.ref aRdL, .ref aRdE, .ref aRdD, .int rCnt]))]) (st' := [.int ((m_X7_faulted (m_X4_faultOfCells sHas sLane sLen lane i n)).1)]) (nw := 12) (n1 := 1) hC gX7_realm_X7_faulted hdV_yX7_faulted 0 rfl rfl (As := [.int (m_X4_faultOfCells sHas sLane sLen lane i n)]) (rest := []) (c_X7_faulted D cI aLL aRE aRT aWE aKE aRD aTE aSR (0 : Int32) (m_X4_faultOfCells sHas sLane sLen lane i n)) rfl ⟨by decide, by decide⟩ rfl [0] [1, 2, 3, 4, 5, 6, 7, 8, 9, 10, 11] [11, 0, 1, 2, 3, 4, 5, 6, 7, 8, 9, 10] [0] rfl rfl rfl rfl (by decide) rfl rfl (Nat.le_of_ble_eq_true rfl) dX7_realm_49 rfl rfl ?_
      subst hres
      exact g_iret hC hX rfl dX7_realm_52 rfl rfl
  · rw [if_pos c_24] at hres
    refine g_bipush (v := -2) hC dX7_realm_27 (by decide) rfl ?_
    subst hres
    exact g_iret hC hX rfl dX7_realm_29 rfl rfl
def m_X7_realm_out : (Int32 × Int32) := ((-1 : Int32), (0 : Int32))
set_option maxRecDepth 100000 in
set_option maxHeartbeats 4000000 in
theorem c_X7_realm_out (D : va_G) (cI : ClassId) (cO : ClassId) (aLL : Nat) (aRE : Nat) (aRT : Nat) (aWE : Nat) (aKE : Nat) (aRD : Nat) (aTE : Nat) (aSR : Nat) (lFault : Int32) (sRows : Nat → Option Nat) (k : Int32) (lane : Int32) (i : Int32) (n : Int32) (hsh : m_X7_sheetOf sRows k = none) : MC yX7_realm wsX7_realm ({ frames := 1, cells := 0, slots := 0, locals := 21 } : Room) D [(cI, .int), (cO, .object "LinenLaw$Sheet")] [.ref aLL, .int k, .int lane, .int i, .int n] [(aLL, .inr (7, [.ref aRE, .ref aRT, .ref aWE, .ref aKE, .ref aRD, .ref aTE, .ref aSR, .int lFault])), (aSR, .inl (cO, 4, .inr (.inr (.inr (.inr sRows)))))] (some (.int m_X7_realm_out.1)) [(aLL, .inr (7, [.ref aRE, .ref aRT, .ref aWE, .ref aKE, .ref aRD, .ref aTE, .ref aSR, .int m_X7_realm_out.2])), (aSR, .inl (cO, 4, .inr (.inr (.inr (.inr sRows)))))] := by
  refine g_entry (by decide) rfl rfl rfl rfl (Nat.le_of_ble_eq_true rfl) (lv := [(0, .ref aLL), (1, .int k), (2, .int lane), (3, .int i), (4, .int n)]) rfl ?_
  intro X hC hX
  obtain ⟨res, hres⟩ : ∃ z, z = m_X7_realm_out := ⟨_, rfl⟩
  rw [← hres] at hX
  rw [m_X7_realm_out] at hres
  refine g_aload_n hC dX7_realm_0 rfl 0 rfl rfl ?_
  refine g_iconst (v := 0) hC dX7_realm_1 (by decide) rfl ?_
  refine g_put (ws' := [(aLL, .inr (7, [.ref aRE, .ref aRT, .ref aWE, .ref aKE, .ref aRD, .ref aTE, .ref aSR, .int (0 : Int32)])), (aSR, .inl (cO, 4, .inr (.inr (.inr (.inr sRows)))))]) hC iw_X7_realm_RX7 0 rfl rfl 7 (by decide) (List.mem_of_getElem? (i := 1) rfl) rfl tyX7 tyX7_ok nmX7 rfl rfl rfl (Nat.le_of_ble_eq_true rfl) rfl dX7_realm_2 rfl ?_
  refine g_aload_n hC dX7_realm_5 rfl 0 rfl rfl ?_
  refine g_iload_n hC dX7_realm_6 rfl 1 rfl rfl ?_
  refine g_callV (ws' := [(aLL, .inr (7, [.ref aRE, .ref aRT, .ref aWE, .ref aKE, .ref aRD, .ref aTE, .ref aSR, .int (0 : Int32)])), (aSR, .inl (cO, 4, .inr (.inr (.inr (.inr sRows)))))]) (st' := [.null]) (nw := 2) (n1 := 2) hC gX7_realm_X7_sheetOf hdV_yX7_sheetOf 0 rfl rfl (As := [.int k]) (rest := []) (c_X7_sheetOf D cI cO aLL aRE aRT aWE aKE aRD aTE aSR (0 : Int32) sRows k) rfl ⟨by decide, by decide⟩ rfl [0, 1] [] [0, 1] [0, 1] rfl rfl rfl rfl (by decide) rfl rfl (Nat.le_of_ble_eq_true rfl) dX7_realm_7 rfl (by rw [hsh]; rfl) ?_
  refine g_astoreN (lv' := [(5, .null), (0, .ref aLL), (1, .int k), (2, .int lane), (3, .int i), (4, .int n)]) hC dX7_realm_10 (by decide) rfl rfl ?_
  refine g_aloadN hC dX7_realm_12 0 rfl rfl ?_
  refine g_ifnonnullN hC dX7_realm_14 rfl ?_
  refine g_iconst (v := -1) hC dX7_realm_17 (by decide) rfl ?_
  subst hres
  exact g_iret hC hX rfl dX7_realm_18 rfl rfl
theorem iw_X7_ofLinen_RX2 : ∀ w ∈ wsX20, w ∈ wsX7_ofLinen := fun _ h => List.mem_cons_of_mem _ (List.mem_append_right _ (h))
theorem iw_X7_ofLinen_RX7 : ∀ w ∈ wsX70, w ∈ wsX7_ofLinen := fun _ h => List.mem_cons_of_mem _ (List.mem_append_left _ (List.mem_append_right _ (h)))
def m_X7_ofLinen (cLin : Int32) (cK : Nat → Int32) (cO_ : Nat → Int32) (cD : Nat → Int32) (l : Int32) (what : Int32) : (Int32) := (if (m_X2_hasLinen cLin l) = 0 then (-1 : Int32) else (if what = 0 then (m_X7_at 5 cK l) else (if what = (1 : Int32) then (m_X7_at 5 cO_ l) else (if what = (2 : Int32) then (m_X7_at 5 cD l) else (-2 : Int32)))))
set_option maxRecDepth 100000 in
set_option maxHeartbeats 4000000 in
theorem c_X7_ofLinen (D : va_G) (cI : ClassId) (aLL : Nat) (aRE : Nat) (aRT : Nat) (aWE : Nat) (aKE : Nat) (aRD : Nat) (aTE : Nat) (aSR : Nat) (lFault : Int32) (aReS : Nat) (aReH : Nat) (aReK : Nat) (aReO : Nat) (aReD : Nat) (cDays : Int32) (cLin : Int32) (cK : Nat → Int32) (cO_ : Nat → Int32) (cD : Nat → Int32) (l : Int32) (what : Int32) : MC yX7_ofLinen wsX7_ofLinen ({ frames := 2, cells := 0, slots := 0, locals := 42 } : Room) D [(cI, .int)] [.ref aLL, .int l, .int what] [(aLL, .inr (7, [.ref aRE, .ref aRT, .ref aWE, .ref aKE, .ref aRD, .ref aTE, .ref aSR, .int lFault])), (aRE, .inr (2, [.ref aReS, .ref aReH, .ref aReK, .ref aReO, .ref aReD, .int cDays, .int cLin])), (aReK, .inl (cI, 5, .inl cK)), (aReO, .inl (cI, 5, .inl cO_)), (aReD, .inl (cI, 5, .inl cD))] (some (.int (m_X7_ofLinen cLin cK cO_ cD l what))) [(aLL, .inr (7, [.ref aRE, .ref aRT, .ref aWE, .ref aKE, .ref aRD, .ref aTE, .ref aSR, .int lFault])), (aRE, .inr (2, [.ref aReS, .ref aReH, .ref aReK, .ref aReO, .ref aReD, .int cDays, .int cLin])), (aReK, .inl (cI, 5, .inl cK)), (aReO, .inl (cI, 5, .inl cO_)), (aReD, .inl (cI, 5, .inl cD))] := by
  refine g_entry (by decide) rfl rfl rfl rfl (Nat.le_of_ble_eq_true rfl) (lv := [(0, .ref aLL), (1, .int l), (2, .int what)]) rfl ?_
  intro X hC hX
  obtain ⟨res, hres⟩ : ∃ z, z = (m_X7_ofLinen cLin cK cO_ cD l what) := ⟨_, rfl⟩
  rw [← hres] at hX
  rw [m_X7_ofLinen] at hres
  refine g_aload_n hC dX7_ofLinen_0 rfl 0 rfl rfl ?_
  refine g_get hC iw_X7_ofLinen_RX7 0 rfl rfl 0 (by decide) (List.mem_of_getElem? (i := 1) rfl) rfl rfl dX7_ofLinen_1 rfl ?_
  refine g_iload_n hC dX7_ofLinen_4 rfl 1 rfl rfl ?_
  refine g_callV (ws' := [(aLL, .inr (7, [.ref aRE, .ref aRT, .ref aWE, .ref aKE, .ref aRD, .ref aTE, .ref aSR, .int lFault])), (aRE, .inr (2, [.ref aReS, .ref aReH, .ref aReK, .ref aReO, .ref aReD, .int cDays, .int cLin])), (aReK, .inl (cI, 5, .inl cK)), (aReO, .inl (cI, 5, .inl cO_)), (aReD, .inl (cI, 5, .inl cD))]) (st' := [.int (m_X2_hasLinen cLin l)]) (nw := 5) (n1 := 1) hC gX7_ofLinen_X2_hasLinen hdV_yX2_hasLinen 1 rfl rfl (As := [.int l]) (rest := []) (c_X2_hasLinen D cI aRE aReS aReH aReK aReO aReD cDays cLin l) rfl ⟨by decide, by decide⟩ rfl [1] [0, 2, 3, 4] [0, 4, 1, 2, 3] [0] rfl rfl rfl rfl (by decide) rfl rfl (Nat.le_of_ble_eq_true rfl) dX7_ofLinen_5 rfl rfl ?_
  refine g_if_ne (tgt := 13) hC dX7_ofLinen_8 (by decide) rfl (fun c_8 => ?_) (fun c_8 => ?_)
  · rw [if_neg c_8] at hres
    refine g_iload_n hC dX7_ofLinen_13 rfl 2 rfl rfl ?_
    refine g_if_ne (tgt := 29) hC dX7_ofLinen_14 (by decide) rfl (fun c_14 => ?_) (fun c_14 => ?_)
    · rw [if_neg c_14] at hres
      refine g_iload_n hC dX7_ofLinen_29 rfl 2 rfl rfl ?_
      refine g_iconst (v := 1) hC dX7_ofLinen_30 (by decide) rfl ?_
      refine g_icmp_ne (tgt := 46) hC dX7_ofLinen_31 (by decide) rfl (fun c_31 => ?_) (fun c_31 => ?_)
      · rw [if_neg c_31] at hres
        refine g_iload_n hC dX7_ofLinen_46 rfl 2 rfl rfl ?_
        refine g_iconst (v := 2) hC dX7_ofLinen_47 (by decide) rfl ?_
        refine g_icmp_ne (tgt := 65) hC dX7_ofLinen_48 (by decide) rfl (fun c_48 => ?_) (fun c_48 => ?_)
        · rw [if_neg c_48] at hres
          refine g_bipush (v := -2) hC dX7_ofLinen_65 (by decide) rfl ?_
          subst hres
          exact g_iret hC hX rfl dX7_ofLinen_67 rfl rfl
        · rw [if_pos c_48] at hres
          refine g_aload_n hC dX7_ofLinen_51 rfl 0 rfl rfl ?_
          refine g_get hC iw_X7_ofLinen_RX7 0 rfl rfl 0 (by decide) (List.mem_of_getElem? (i := 1) rfl) rfl rfl dX7_ofLinen_52 rfl ?_
          refine g_get hC iw_X7_ofLinen_RX2 1 rfl rfl 4 (by decide) (List.mem_of_getElem? (i := 4) rfl) rfl rfl dX7_ofLinen_55 rfl ?_
          refine g_iload_n hC dX7_ofLinen_58 rfl 1 rfl rfl ?_
          refine g_callS (ws' := [(aLL, .inr (7, [.ref aRE, .ref aRT, .ref aWE, .ref aKE, .ref aRD, .ref aTE, .ref aSR, .int lFault])), (aRE, .inr (2, [.ref aReS, .ref aReH, .ref aReK, .ref aReO, .ref aReD, .int cDays, .int cLin])), (aReK, .inl (cI, 5, .inl cK)), (aReO, .inl (cI, 5, .inl cO_)), (aReD, .inl (cI, 5, .inl cD))]) (st' := [.int (m_X7_at 5 cD l)]) (nw := 5) (n1 := 1) hC gX7_ofLinen_X7_at hdS_yX7_at (As := [.ref aReD, .int l]) (rest := []) (c_X7_at D cI aReD 5 cD l (by decide)) rfl ⟨by decide, by decide⟩ rfl [4] [0, 1, 2, 3] [0, 1, 2, 3, 4] [0] rfl rfl rfl rfl (by decide) rfl rfl (Nat.le_of_ble_eq_true rfl) dX7_ofLinen_59 rfl rfl ?_
          refine g_goto (tgt := 67) hC dX7_ofLinen_62 (by decide) ?_
          subst hres
          exact g_iret hC hX rfl dX7_ofLinen_67 rfl rfl
      · rw [if_pos c_31] at hres
        refine g_aload_n hC dX7_ofLinen_34 rfl 0 rfl rfl ?_
        refine g_get hC iw_X7_ofLinen_RX7 0 rfl rfl 0 (by decide) (List.mem_of_getElem? (i := 1) rfl) rfl rfl dX7_ofLinen_35 rfl ?_
        refine g_get hC iw_X7_ofLinen_RX2 1 rfl rfl 3 (by decide) (List.mem_of_getElem? (i := 3) rfl) rfl rfl dX7_ofLinen_38 rfl ?_
        refine g_iload_n hC dX7_ofLinen_41 rfl 1 rfl rfl ?_
        refine g_callS (ws' := [(aLL, .inr (7, [.ref aRE, .ref aRT, .ref aWE, .ref aKE, .ref aRD, .ref aTE, .ref aSR, .int lFault])), (aRE, .inr (2, [.ref aReS, .ref aReH, .ref aReK, .ref aReO, .ref aReD, .int cDays, .int cLin])), (aReK, .inl (cI, 5, .inl cK)), (aReO, .inl (cI, 5, .inl cO_)), (aReD, .inl (cI, 5, .inl cD))]) (st' := [.int (m_X7_at 5 cO_ l)]) (nw := 5) (n1 := 1) hC gX7_ofLinen_X7_at hdS_yX7_at (As := [.ref aReO, .int l]) (rest := []) (c_X7_at D cI aReO 5 cO_ l (by decide)) rfl ⟨by decide, by decide⟩ rfl [3] [0, 1, 2, 4] [0, 1, 2, 4, 3] [0] rfl rfl rfl rfl (by decide) rfl rfl (Nat.le_of_ble_eq_true rfl) dX7_ofLinen_42 rfl rfl ?_
        subst hres
        exact g_iret hC hX rfl dX7_ofLinen_45 rfl rfl
    · rw [if_pos c_14] at hres
      refine g_aload_n hC dX7_ofLinen_17 rfl 0 rfl rfl ?_
      refine g_get hC iw_X7_ofLinen_RX7 0 rfl rfl 0 (by decide) (List.mem_of_getElem? (i := 1) rfl) rfl rfl dX7_ofLinen_18 rfl ?_
      refine g_get hC iw_X7_ofLinen_RX2 1 rfl rfl 2 (by decide) (List.mem_of_getElem? (i := 2) rfl) rfl rfl dX7_ofLinen_21 rfl ?_
      refine g_iload_n hC dX7_ofLinen_24 rfl 1 rfl rfl ?_
      refine g_callS (ws' := [(aLL, .inr (7, [.ref aRE, .ref aRT, .ref aWE, .ref aKE, .ref aRD, .ref aTE, .ref aSR, .int lFault])), (aRE, .inr (2, [.ref aReS, .ref aReH, .ref aReK, .ref aReO, .ref aReD, .int cDays, .int cLin])), (aReK, .inl (cI, 5, .inl cK)), (aReO, .inl (cI, 5, .inl cO_)), (aReD, .inl (cI, 5, .inl cD))]) (st' := [.int (m_X7_at 5 cK l)]) (nw := 5) (n1 := 1) hC gX7_ofLinen_X7_at hdS_yX7_at (As := [.ref aReK, .int l]) (rest := []) (c_X7_at D cI aReK 5 cK l (by decide)) rfl ⟨by decide, by decide⟩ rfl [2] [0, 1, 3, 4] [0, 1, 4, 2, 3] [0] rfl rfl rfl rfl (by decide) rfl rfl (Nat.le_of_ble_eq_true rfl) dX7_ofLinen_25 rfl rfl ?_
      subst hres
      exact g_iret hC hX rfl dX7_ofLinen_28 rfl rfl
  · rw [if_pos c_8] at hres
    refine g_iconst (v := -1) hC dX7_ofLinen_11 (by decide) rfl ?_
    subst hres
    exact g_iret hC hX rfl dX7_ofLinen_12 rfl rfl
theorem iw_X7_heat_RX2 : ∀ w ∈ wsX20, w ∈ wsX7_heat := fun _ h => List.mem_cons_of_mem _ (List.mem_append_right _ (h))
theorem iw_X7_heat_RX7 : ∀ w ∈ wsX70, w ∈ wsX7_heat := fun _ h => List.mem_cons_of_mem _ (List.mem_append_left _ (List.mem_append_right _ (h)))
def m_X7_heat (cDays : Int32) (cH : Nat → Int32) (d : Int32) : (Int32) := (if (m_X2_hasDay cDays d) = 0 then (-1 : Int32) else (m_X7_at 6 cH d))
set_option maxRecDepth 100000 in
set_option maxHeartbeats 4000000 in
theorem c_X7_heat (D : va_G) (cI : ClassId) (aLL : Nat) (aRE : Nat) (aRT : Nat) (aWE : Nat) (aKE : Nat) (aRD : Nat) (aTE : Nat) (aSR : Nat) (lFault : Int32) (aReS : Nat) (aReH : Nat) (aReK : Nat) (aReO : Nat) (aReD : Nat) (cDays : Int32) (cLin : Int32) (cH : Nat → Int32) (d : Int32) : MC yX7_heat wsX7_heat ({ frames := 2, cells := 0, slots := 0, locals := 42 } : Room) D [(cI, .int)] [.ref aLL, .int d] [(aLL, .inr (7, [.ref aRE, .ref aRT, .ref aWE, .ref aKE, .ref aRD, .ref aTE, .ref aSR, .int lFault])), (aRE, .inr (2, [.ref aReS, .ref aReH, .ref aReK, .ref aReO, .ref aReD, .int cDays, .int cLin])), (aReH, .inl (cI, 6, .inl cH))] (some (.int (m_X7_heat cDays cH d))) [(aLL, .inr (7, [.ref aRE, .ref aRT, .ref aWE, .ref aKE, .ref aRD, .ref aTE, .ref aSR, .int lFault])), (aRE, .inr (2, [.ref aReS, .ref aReH, .ref aReK, .ref aReO, .ref aReD, .int cDays, .int cLin])), (aReH, .inl (cI, 6, .inl cH))] := by
  refine g_entry (by decide) rfl rfl rfl rfl (Nat.le_of_ble_eq_true rfl) (lv := [(0, .ref aLL), (1, .int d)]) rfl ?_
  intro X hC hX
  obtain ⟨res, hres⟩ : ∃ z, z = (m_X7_heat cDays cH d) := ⟨_, rfl⟩
  rw [← hres] at hX
  rw [m_X7_heat] at hres
  refine g_aload_n hC dX7_heat_0 rfl 0 rfl rfl ?_
  refine g_get hC iw_X7_heat_RX7 0 rfl rfl 0 (by decide) (List.mem_of_getElem? (i := 1) rfl) rfl rfl dX7_heat_1 rfl ?_
  refine g_iload_n hC dX7_heat_4 rfl 1 rfl rfl ?_
  refine g_callV (ws' := [(aLL, .inr (7, [.ref aRE, .ref aRT, .ref aWE, .ref aKE, .ref aRD, .ref aTE, .ref aSR, .int lFault])), (aRE, .inr (2, [.ref aReS, .ref aReH, .ref aReK, .ref aReO, .ref aReD, .int cDays, .int cLin])), (aReH, .inl (cI, 6, .inl cH))]) (st' := [.int (m_X2_hasDay cDays d)]) (nw := 3) (n1 := 1) hC gX7_heat_X2_hasDay hdV_yX2_hasDay 1 rfl rfl (As := [.int d]) (rest := []) (c_X2_hasDay D cI aRE aReS aReH aReK aReO aReD cDays cLin d) rfl ⟨by decide, by decide⟩ rfl [1] [0, 2] [0, 2, 1] [0] rfl rfl rfl rfl (by decide) rfl rfl (Nat.le_of_ble_eq_true rfl) dX7_heat_5 rfl rfl ?_
  refine g_if_eq (tgt := 25) hC dX7_heat_8 (by decide) rfl (fun c_8 => ?_) (fun c_8 => ?_)
  · rw [if_pos c_8] at hres
    refine g_iconst (v := -1) hC dX7_heat_25 (by decide) rfl ?_
    subst hres
    exact g_iret hC hX rfl dX7_heat_26 rfl rfl
  · rw [if_neg c_8] at hres
    refine g_aload_n hC dX7_heat_11 rfl 0 rfl rfl ?_
    refine g_get hC iw_X7_heat_RX7 0 rfl rfl 0 (by decide) (List.mem_of_getElem? (i := 1) rfl) rfl rfl dX7_heat_12 rfl ?_
    refine g_get hC iw_X7_heat_RX2 1 rfl rfl 1 (by decide) (List.mem_of_getElem? (i := 2) rfl) rfl rfl dX7_heat_15 rfl ?_
    refine g_iload_n hC dX7_heat_18 rfl 1 rfl rfl ?_
    refine g_callS (ws' := [(aLL, .inr (7, [.ref aRE, .ref aRT, .ref aWE, .ref aKE, .ref aRD, .ref aTE, .ref aSR, .int lFault])), (aRE, .inr (2, [.ref aReS, .ref aReH, .ref aReK, .ref aReO, .ref aReD, .int cDays, .int cLin])), (aReH, .inl (cI, 6, .inl cH))]) (st' := [.int (m_X7_at 6 cH d)]) (nw := 3) (n1 := 1) hC gX7_heat_X7_at hdS_yX7_at (As := [.ref aReH, .int d]) (rest := []) (c_X7_at D cI aReH 6 cH d (by decide)) rfl ⟨by decide, by decide⟩ rfl [2] [0, 1] [0, 1, 2] [0] rfl rfl rfl rfl (by decide) rfl rfl (Nat.le_of_ble_eq_true rfl) dX7_heat_19 rfl rfl ?_
    refine g_goto (tgt := 26) hC dX7_heat_22 (by decide) ?_
    subst hres
    exact g_iret hC hX rfl dX7_heat_26 rfl rfl
theorem iw_X7_warm_RX2 : ∀ w ∈ wsX20, w ∈ wsX7_warm := fun _ h => List.mem_cons_of_mem _ (List.mem_append_right _ (h))
theorem iw_X7_warm_RX7 : ∀ w ∈ wsX70, w ∈ wsX7_warm := fun _ h => List.mem_cons_of_mem _ (List.mem_append_left _ (List.mem_append_right _ (h)))
def m_X7_warm (cDays : Int32) (cH : Nat → Int32) (d : Int32) (v : Int32) : (Int32 × (Nat → Int32)) := (if (m_X2_hasDay cDays d) = 0 then ((-1 : Int32), cH) else (if (m_X7_isBelow v (10 : Int32)) = 0 then ((-2 : Int32), cH) else ((m_X7_exchange 6 cH d v).1, (m_X7_exchange 6 cH d v).2)))
set_option maxRecDepth 100000 in
set_option maxHeartbeats 4000000 in
theorem c_X7_warm (D : va_G) (cI : ClassId) (aLL : Nat) (aRE : Nat) (aRT : Nat) (aWE : Nat) (aKE : Nat) (aRD : Nat) (aTE : Nat) (aSR : Nat) (lFault : Int32) (aReS : Nat) (aReH : Nat) (aReK : Nat) (aReO : Nat) (aReD : Nat) (cDays : Int32) (cLin : Int32) (cH : Nat → Int32) (d : Int32) (v : Int32) : MC yX7_warm wsX7_warm ({ frames := 2, cells := 0, slots := 0, locals := 45 } : Room) D [(cI, .int)] [.ref aLL, .int d, .int v] [(aLL, .inr (7, [.ref aRE, .ref aRT, .ref aWE, .ref aKE, .ref aRD, .ref aTE, .ref aSR, .int lFault])), (aRE, .inr (2, [.ref aReS, .ref aReH, .ref aReK, .ref aReO, .ref aReD, .int cDays, .int cLin])), (aReH, .inl (cI, 6, .inl cH))] (some (.int ((m_X7_warm cDays cH d v).1))) [(aLL, .inr (7, [.ref aRE, .ref aRT, .ref aWE, .ref aKE, .ref aRD, .ref aTE, .ref aSR, .int lFault])), (aRE, .inr (2, [.ref aReS, .ref aReH, .ref aReK, .ref aReO, .ref aReD, .int cDays, .int cLin])), (aReH, .inl (cI, 6, .inl ((m_X7_warm cDays cH d v).2)))] := by
  refine g_entry (by decide) rfl rfl rfl rfl (Nat.le_of_ble_eq_true rfl) (lv := [(0, .ref aLL), (1, .int d), (2, .int v)]) rfl ?_
  intro X hC hX
  obtain ⟨res, hres⟩ : ∃ z, z = (m_X7_warm cDays cH d v) := ⟨_, rfl⟩
  rw [← hres] at hX
  rw [m_X7_warm] at hres
  refine g_aload_n hC dX7_warm_0 rfl 0 rfl rfl ?_
  refine g_get hC iw_X7_warm_RX7 0 rfl rfl 0 (by decide) (List.mem_of_getElem? (i := 1) rfl) rfl rfl dX7_warm_1 rfl ?_
  refine g_iload_n hC dX7_warm_4 rfl 1 rfl rfl ?_
  refine g_callV (ws' := [(aLL, .inr (7, [.ref aRE, .ref aRT, .ref aWE, .ref aKE, .ref aRD, .ref aTE, .ref aSR, .int lFault])), (aRE, .inr (2, [.ref aReS, .ref aReH, .ref aReK, .ref aReO, .ref aReD, .int cDays, .int cLin])), (aReH, .inl (cI, 6, .inl cH))]) (st' := [.int (m_X2_hasDay cDays d)]) (nw := 3) (n1 := 1) hC gX7_warm_X2_hasDay hdV_yX2_hasDay 1 rfl rfl (As := [.int d]) (rest := []) (c_X2_hasDay D cI aRE aReS aReH aReK aReO aReD cDays cLin d) rfl ⟨by decide, by decide⟩ rfl [1] [0, 2] [0, 2, 1] [0] rfl rfl rfl rfl (by decide) rfl rfl (Nat.le_of_ble_eq_true rfl) dX7_warm_5 rfl rfl ?_
  refine g_if_ne (tgt := 13) hC dX7_warm_8 (by decide) rfl (fun c_8 => ?_) (fun c_8 => ?_)
  · rw [if_neg c_8] at hres
    refine g_iload_n hC dX7_warm_13 rfl 2 rfl rfl ?_
    refine g_bipush (v := 10) hC dX7_warm_14 (by decide) rfl ?_
    refine g_callS (ws' := [(aLL, .inr (7, [.ref aRE, .ref aRT, .ref aWE, .ref aKE, .ref aRD, .ref aTE, .ref aSR, .int lFault])), (aRE, .inr (2, [.ref aReS, .ref aReH, .ref aReK, .ref aReO, .ref aReD, .int cDays, .int cLin])), (aReH, .inl (cI, 6, .inl cH))]) (st' := [.int (m_X7_isBelow v (10 : Int32))]) (nw := 3) (n1 := 0) hC gX7_warm_X7_isBelow hdS_yX7_isBelow (As := [.int v, .int (10 : Int32)]) (rest := []) (c_X7_isBelow D cI v (10 : Int32)) rfl ⟨by decide, by decide⟩ rfl [] [0, 1, 2] [0, 1, 2] [0] rfl rfl rfl rfl (by decide) rfl rfl (Nat.le_of_ble_eq_true rfl) dX7_warm_16 rfl rfl ?_
    refine g_if_eq (tgt := 37) hC dX7_warm_19 (by decide) rfl (fun c_19 => ?_) (fun c_19 => ?_)
    · rw [if_pos c_19] at hres
      refine g_bipush (v := -2) hC dX7_warm_37 (by decide) rfl ?_
      subst hres
      exact g_iret hC hX rfl dX7_warm_39 rfl rfl
    · rw [if_neg c_19] at hres
      refine g_aload_n hC dX7_warm_22 rfl 0 rfl rfl ?_
      refine g_get hC iw_X7_warm_RX7 0 rfl rfl 0 (by decide) (List.mem_of_getElem? (i := 1) rfl) rfl rfl dX7_warm_23 rfl ?_
      refine g_get hC iw_X7_warm_RX2 1 rfl rfl 1 (by decide) (List.mem_of_getElem? (i := 2) rfl) rfl rfl dX7_warm_26 rfl ?_
      refine g_iload_n hC dX7_warm_29 rfl 1 rfl rfl ?_
      refine g_iload_n hC dX7_warm_30 rfl 2 rfl rfl ?_
      refine g_callS (ws' := [(aLL, .inr (7, [.ref aRE, .ref aRT, .ref aWE, .ref aKE, .ref aRD, .ref aTE, .ref aSR, .int lFault])), (aRE, .inr (2, [.ref aReS, .ref aReH, .ref aReK, .ref aReO, .ref aReD, .int cDays, .int cLin])), (aReH, .inl (cI, 6, .inl ((m_X7_exchange 6 cH d v).2)))]) (st' := [.int ((m_X7_exchange 6 cH d v).1)]) (nw := 3) (n1 := 1) hC gX7_warm_X7_exchange hdS_yX7_exchange (As := [.ref aReH, .int d, .int v]) (rest := []) (c_X7_exchange D cI aReH 6 cH d v (by decide)) rfl ⟨by decide, by decide⟩ rfl [2] [0, 1] [0, 1, 2] [0] rfl rfl rfl rfl (by decide) rfl rfl (Nat.le_of_ble_eq_true rfl) dX7_warm_31 rfl rfl ?_
      refine g_goto (tgt := 39) hC dX7_warm_34 (by decide) ?_
      subst hres
      exact g_iret hC hX rfl dX7_warm_39 rfl rfl
  · rw [if_pos c_8] at hres
    refine g_iconst (v := -1) hC dX7_warm_11 (by decide) rfl ?_
    subst hres
    exact g_iret hC hX rfl dX7_warm_12 rfl rfl
theorem iw_X7_grieve_RX2 : ∀ w ∈ wsX20, w ∈ wsX7_grieve := fun _ h => List.mem_cons_of_mem _ (List.mem_append_right _ (h))
theorem iw_X7_grieve_RX7 : ∀ w ∈ wsX70, w ∈ wsX7_grieve := fun _ h => List.mem_cons_of_mem _ (List.mem_append_left _ (List.mem_append_right _ (h)))
def m_X7_grieve (cLin : Int32) (cS : Nat → Int32) (w : Int32) (v : Int32) : (Int32 × (Nat → Int32)) := (if (m_X7_isBelow w (4 : Int32)) = 0 then ((-1 : Int32), cS) else (if (m_X7_isBelow v (10 : Int32)) = 0 then ((-2 : Int32), cS) else (if (m_X2_stands cLin) = 0 then ((-3 : Int32), cS) else ((m_X7_exchange 4 cS w v).1, (m_X7_exchange 4 cS w v).2))))
set_option maxRecDepth 100000 in
set_option maxHeartbeats 4000000 in
theorem c_X7_grieve (D : va_G) (cI : ClassId) (aLL : Nat) (aRE : Nat) (aRT : Nat) (aWE : Nat) (aKE : Nat) (aRD : Nat) (aTE : Nat) (aSR : Nat) (lFault : Int32) (aReS : Nat) (aReH : Nat) (aReK : Nat) (aReO : Nat) (aReD : Nat) (cDays : Int32) (cLin : Int32) (cS : Nat → Int32) (w : Int32) (v : Int32) : MC yX7_grieve wsX7_grieve ({ frames := 2, cells := 0, slots := 0, locals := 45 } : Room) D [(cI, .int)] [.ref aLL, .int w, .int v] [(aLL, .inr (7, [.ref aRE, .ref aRT, .ref aWE, .ref aKE, .ref aRD, .ref aTE, .ref aSR, .int lFault])), (aRE, .inr (2, [.ref aReS, .ref aReH, .ref aReK, .ref aReO, .ref aReD, .int cDays, .int cLin])), (aReS, .inl (cI, 4, .inl cS))] (some (.int ((m_X7_grieve cLin cS w v).1))) [(aLL, .inr (7, [.ref aRE, .ref aRT, .ref aWE, .ref aKE, .ref aRD, .ref aTE, .ref aSR, .int lFault])), (aRE, .inr (2, [.ref aReS, .ref aReH, .ref aReK, .ref aReO, .ref aReD, .int cDays, .int cLin])), (aReS, .inl (cI, 4, .inl ((m_X7_grieve cLin cS w v).2)))] := by
  refine g_entry (by decide) rfl rfl rfl rfl (Nat.le_of_ble_eq_true rfl) (lv := [(0, .ref aLL), (1, .int w), (2, .int v)]) rfl ?_
  intro X hC hX
  obtain ⟨res, hres⟩ : ∃ z, z = (m_X7_grieve cLin cS w v) := ⟨_, rfl⟩
  rw [← hres] at hX
  rw [m_X7_grieve] at hres
  refine g_iload_n hC dX7_grieve_0 rfl 1 rfl rfl ?_
  refine g_iconst (v := 4) hC dX7_grieve_1 (by decide) rfl ?_
  refine g_callS (ws' := [(aLL, .inr (7, [.ref aRE, .ref aRT, .ref aWE, .ref aKE, .ref aRD, .ref aTE, .ref aSR, .int lFault])), (aRE, .inr (2, [.ref aReS, .ref aReH, .ref aReK, .ref aReO, .ref aReD, .int cDays, .int cLin])), (aReS, .inl (cI, 4, .inl cS))]) (st' := [.int (m_X7_isBelow w (4 : Int32))]) (nw := 3) (n1 := 0) hC gX7_grieve_X7_isBelow hdS_yX7_isBelow (As := [.int w, .int (4 : Int32)]) (rest := []) (c_X7_isBelow D cI w (4 : Int32)) rfl ⟨by decide, by decide⟩ rfl [] [0, 1, 2] [0, 1, 2] [0] rfl rfl rfl rfl (by decide) rfl rfl (Nat.le_of_ble_eq_true rfl) dX7_grieve_2 rfl rfl ?_
  refine g_if_ne (tgt := 10) hC dX7_grieve_5 (by decide) rfl (fun c_5 => ?_) (fun c_5 => ?_)
  · rw [if_neg c_5] at hres
    refine g_iload_n hC dX7_grieve_10 rfl 2 rfl rfl ?_
    refine g_bipush (v := 10) hC dX7_grieve_11 (by decide) rfl ?_
    refine g_callS (ws' := [(aLL, .inr (7, [.ref aRE, .ref aRT, .ref aWE, .ref aKE, .ref aRD, .ref aTE, .ref aSR, .int lFault])), (aRE, .inr (2, [.ref aReS, .ref aReH, .ref aReK, .ref aReO, .ref aReD, .int cDays, .int cLin])), (aReS, .inl (cI, 4, .inl cS))]) (st' := [.int (m_X7_isBelow v (10 : Int32))]) (nw := 3) (n1 := 0) hC gX7_grieve_X7_isBelow hdS_yX7_isBelow (As := [.int v, .int (10 : Int32)]) (rest := []) (c_X7_isBelow D cI v (10 : Int32)) rfl ⟨by decide, by decide⟩ rfl [] [0, 1, 2] [0, 1, 2] [0] rfl rfl rfl rfl (by decide) rfl rfl (Nat.le_of_ble_eq_true rfl) dX7_grieve_13 rfl rfl ?_
    refine g_if_ne (tgt := 22) hC dX7_grieve_16 (by decide) rfl (fun c_16 => ?_) (fun c_16 => ?_)
    · rw [if_neg c_16] at hres
      refine g_aload_n hC dX7_grieve_22 rfl 0 rfl rfl ?_
      refine g_get hC iw_X7_grieve_RX7 0 rfl rfl 0 (by decide) (List.mem_of_getElem? (i := 1) rfl) rfl rfl dX7_grieve_23 rfl ?_
      refine g_callV (ws' := [(aLL, .inr (7, [.ref aRE, .ref aRT, .ref aWE, .ref aKE, .ref aRD, .ref aTE, .ref aSR, .int lFault])), (aRE, .inr (2, [.ref aReS, .ref aReH, .ref aReK, .ref aReO, .ref aReD, .int cDays, .int cLin])), (aReS, .inl (cI, 4, .inl cS))]) (st' := [.int (m_X2_stands cLin)]) (nw := 3) (n1 := 1) hC gX7_grieve_X2_stands hdV_yX2_stands 1 rfl rfl (As := []) (rest := []) (c_X2_stands D cI aRE aReS aReH aReK aReO aReD cDays cLin) rfl ⟨by decide, by decide⟩ rfl [1] [0, 2] [0, 2, 1] [0] rfl rfl rfl rfl (by decide) rfl rfl (Nat.le_of_ble_eq_true rfl) dX7_grieve_26 rfl rfl ?_
      refine g_if_eq (tgt := 47) hC dX7_grieve_29 (by decide) rfl (fun c_29 => ?_) (fun c_29 => ?_)
      · rw [if_pos c_29] at hres
        refine g_bipush (v := -3) hC dX7_grieve_47 (by decide) rfl ?_
        subst hres
        exact g_iret hC hX rfl dX7_grieve_49 rfl rfl
      · rw [if_neg c_29] at hres
        refine g_aload_n hC dX7_grieve_32 rfl 0 rfl rfl ?_
        refine g_get hC iw_X7_grieve_RX7 0 rfl rfl 0 (by decide) (List.mem_of_getElem? (i := 1) rfl) rfl rfl dX7_grieve_33 rfl ?_
        refine g_get hC iw_X7_grieve_RX2 1 rfl rfl 0 (by decide) (List.mem_of_getElem? (i := 2) rfl) rfl rfl dX7_grieve_36 rfl ?_
        refine g_iload_n hC dX7_grieve_39 rfl 1 rfl rfl ?_
        refine g_iload_n hC dX7_grieve_40 rfl 2 rfl rfl ?_
        refine g_callS (ws' := [(aLL, .inr (7, [.ref aRE, .ref aRT, .ref aWE, .ref aKE, .ref aRD, .ref aTE, .ref aSR, .int lFault])), (aRE, .inr (2, [.ref aReS, .ref aReH, .ref aReK, .ref aReO, .ref aReD, .int cDays, .int cLin])), (aReS, .inl (cI, 4, .inl ((m_X7_exchange 4 cS w v).2)))]) (st' := [.int ((m_X7_exchange 4 cS w v).1)]) (nw := 3) (n1 := 1) hC gX7_grieve_X7_exchange hdS_yX7_exchange (As := [.ref aReS, .int w, .int v]) (rest := []) (c_X7_exchange D cI aReS 4 cS w v (by decide)) rfl ⟨by decide, by decide⟩ rfl [2] [0, 1] [0, 1, 2] [0] rfl rfl rfl rfl (by decide) rfl rfl (Nat.le_of_ble_eq_true rfl) dX7_grieve_41 rfl rfl ?_
        refine g_goto (tgt := 49) hC dX7_grieve_44 (by decide) ?_
        subst hres
        exact g_iret hC hX rfl dX7_grieve_49 rfl rfl
    · rw [if_pos c_16] at hres
      refine g_bipush (v := -2) hC dX7_grieve_19 (by decide) rfl ?_
      subst hres
      exact g_iret hC hX rfl dX7_grieve_21 rfl rfl
  · rw [if_pos c_5] at hres
    refine g_iconst (v := -1) hC dX7_grieve_8 (by decide) rfl ?_
    subst hres
    exact g_iret hC hX rfl dX7_grieve_9 rfl rfl
theorem iw_X7_give_RX2 : ∀ w ∈ wsX20, w ∈ wsX7_give := fun _ h => List.mem_cons_of_mem _ (List.mem_append_right _ (h))
theorem iw_X7_give_RX7 : ∀ w ∈ wsX70, w ∈ wsX7_give := fun _ h => List.mem_cons_of_mem _ (List.mem_append_left _ (List.mem_append_right _ (h)))
def m_X7_give (cLin : Int32) (cO_ : Nat → Int32) (l : Int32) (w : Int32) : (Int32 × (Nat → Int32)) := (if (m_X2_hasLinen cLin l) = 0 then ((-1 : Int32), cO_) else (if (m_X7_isBelow w (4 : Int32)) = 0 then ((-1 : Int32), cO_) else ((m_X7_exchange 5 cO_ l w).1, (m_X7_exchange 5 cO_ l w).2)))
set_option maxRecDepth 100000 in
set_option maxHeartbeats 4000000 in
theorem c_X7_give (D : va_G) (cI : ClassId) (aLL : Nat) (aRE : Nat) (aRT : Nat) (aWE : Nat) (aKE : Nat) (aRD : Nat) (aTE : Nat) (aSR : Nat) (lFault : Int32) (aReS : Nat) (aReH : Nat) (aReK : Nat) (aReO : Nat) (aReD : Nat) (cDays : Int32) (cLin : Int32) (cO_ : Nat → Int32) (l : Int32) (w : Int32) : MC yX7_give wsX7_give ({ frames := 2, cells := 0, slots := 0, locals := 45 } : Room) D [(cI, .int)] [.ref aLL, .int l, .int w] [(aLL, .inr (7, [.ref aRE, .ref aRT, .ref aWE, .ref aKE, .ref aRD, .ref aTE, .ref aSR, .int lFault])), (aRE, .inr (2, [.ref aReS, .ref aReH, .ref aReK, .ref aReO, .ref aReD, .int cDays, .int cLin])), (aReO, .inl (cI, 5, .inl cO_))] (some (.int ((m_X7_give cLin cO_ l w).1))) [(aLL, .inr (7, [.ref aRE, .ref aRT, .ref aWE, .ref aKE, .ref aRD, .ref aTE, .ref aSR, .int lFault])), (aRE, .inr (2, [.ref aReS, .ref aReH, .ref aReK, .ref aReO, .ref aReD, .int cDays, .int cLin])), (aReO, .inl (cI, 5, .inl ((m_X7_give cLin cO_ l w).2)))] := by
  refine g_entry (by decide) rfl rfl rfl rfl (Nat.le_of_ble_eq_true rfl) (lv := [(0, .ref aLL), (1, .int l), (2, .int w)]) rfl ?_
  intro X hC hX
  obtain ⟨res, hres⟩ : ∃ z, z = (m_X7_give cLin cO_ l w) := ⟨_, rfl⟩
  rw [← hres] at hX
  rw [m_X7_give] at hres
  refine g_aload_n hC dX7_give_0 rfl 0 rfl rfl ?_
  refine g_get hC iw_X7_give_RX7 0 rfl rfl 0 (by decide) (List.mem_of_getElem? (i := 1) rfl) rfl rfl dX7_give_1 rfl ?_
  refine g_iload_n hC dX7_give_4 rfl 1 rfl rfl ?_
  refine g_callV (ws' := [(aLL, .inr (7, [.ref aRE, .ref aRT, .ref aWE, .ref aKE, .ref aRD, .ref aTE, .ref aSR, .int lFault])), (aRE, .inr (2, [.ref aReS, .ref aReH, .ref aReK, .ref aReO, .ref aReD, .int cDays, .int cLin])), (aReO, .inl (cI, 5, .inl cO_))]) (st' := [.int (m_X2_hasLinen cLin l)]) (nw := 3) (n1 := 1) hC gX7_give_X2_hasLinen hdV_yX2_hasLinen 1 rfl rfl (As := [.int l]) (rest := []) (c_X2_hasLinen D cI aRE aReS aReH aReK aReO aReD cDays cLin l) rfl ⟨by decide, by decide⟩ rfl [1] [0, 2] [0, 2, 1] [0] rfl rfl rfl rfl (by decide) rfl rfl (Nat.le_of_ble_eq_true rfl) dX7_give_5 rfl rfl ?_
  refine g_if_eq (tgt := 19) hC dX7_give_8 (by decide) rfl (fun c_8 => ?_) (fun c_8 => ?_)
  · rw [if_pos c_8] at hres
    refine g_iconst (v := -1) hC dX7_give_19 (by decide) rfl ?_
    subst hres
    exact g_iret hC hX rfl dX7_give_20 rfl rfl
  · rw [if_neg c_8] at hres
    refine g_iload_n hC dX7_give_11 rfl 2 rfl rfl ?_
    refine g_iconst (v := 4) hC dX7_give_12 (by decide) rfl ?_
    refine g_callS (ws' := [(aLL, .inr (7, [.ref aRE, .ref aRT, .ref aWE, .ref aKE, .ref aRD, .ref aTE, .ref aSR, .int lFault])), (aRE, .inr (2, [.ref aReS, .ref aReH, .ref aReK, .ref aReO, .ref aReD, .int cDays, .int cLin])), (aReO, .inl (cI, 5, .inl cO_))]) (st' := [.int (m_X7_isBelow w (4 : Int32))]) (nw := 3) (n1 := 0) hC gX7_give_X7_isBelow hdS_yX7_isBelow (As := [.int w, .int (4 : Int32)]) (rest := []) (c_X7_isBelow D cI w (4 : Int32)) rfl ⟨by decide, by decide⟩ rfl [] [0, 1, 2] [0, 1, 2] [0] rfl rfl rfl rfl (by decide) rfl rfl (Nat.le_of_ble_eq_true rfl) dX7_give_13 rfl rfl ?_
    refine g_if_ne (tgt := 21) hC dX7_give_16 (by decide) rfl (fun c_16 => ?_) (fun c_16 => ?_)
    · rw [if_neg c_16] at hres
      refine g_aload_n hC dX7_give_21 rfl 0 rfl rfl ?_
      refine g_get hC iw_X7_give_RX7 0 rfl rfl 0 (by decide) (List.mem_of_getElem? (i := 1) rfl) rfl rfl dX7_give_22 rfl ?_
      refine g_get hC iw_X7_give_RX2 1 rfl rfl 3 (by decide) (List.mem_of_getElem? (i := 2) rfl) rfl rfl dX7_give_25 rfl ?_
      refine g_iload_n hC dX7_give_28 rfl 1 rfl rfl ?_
      refine g_iload_n hC dX7_give_29 rfl 2 rfl rfl ?_
      refine g_callS (ws' := [(aLL, .inr (7, [.ref aRE, .ref aRT, .ref aWE, .ref aKE, .ref aRD, .ref aTE, .ref aSR, .int lFault])), (aRE, .inr (2, [.ref aReS, .ref aReH, .ref aReK, .ref aReO, .ref aReD, .int cDays, .int cLin])), (aReO, .inl (cI, 5, .inl ((m_X7_exchange 5 cO_ l w).2)))]) (st' := [.int ((m_X7_exchange 5 cO_ l w).1)]) (nw := 3) (n1 := 1) hC gX7_give_X7_exchange hdS_yX7_exchange (As := [.ref aReO, .int l, .int w]) (rest := []) (c_X7_exchange D cI aReO 5 cO_ l w (by decide)) rfl ⟨by decide, by decide⟩ rfl [2] [0, 1] [0, 1, 2] [0] rfl rfl rfl rfl (by decide) rfl rfl (Nat.le_of_ble_eq_true rfl) dX7_give_30 rfl rfl ?_
      subst hres
      exact g_iret hC hX rfl dX7_give_33 rfl rfl
    · rw [if_pos c_16] at hres
      refine g_iconst (v := -1) hC dX7_give_19 (by decide) rfl ?_
      subst hres
      exact g_iret hC hX rfl dX7_give_20 rfl rfl
theorem iw_X7_dries_RX7 : ∀ w ∈ wsX70, w ∈ wsX7_dries := fun _ h => List.mem_cons_of_mem _ (List.mem_append_left _ (List.mem_append_right _ (h)))
def m_X7_dries (cDays : Int32) (cLin : Int32) (cH : Nat → Int32) (cK : Nat → Int32) (l : Int32) (d : Int32) : (Int32) := (if (m_X2_hasLinen cLin l) = 0 then (-1 : Int32) else (if (m_X2_hasDay cDays d) = 0 then (-1 : Int32) else (m_X2_drying cH cK l d)))
set_option maxRecDepth 100000 in
set_option maxHeartbeats 4000000 in
theorem c_X7_dries (D : va_G) (cI : ClassId) (aLL : Nat) (aRE : Nat) (aRT : Nat) (aWE : Nat) (aKE : Nat) (aRD : Nat) (aTE : Nat) (aSR : Nat) (lFault : Int32) (aReS : Nat) (aReH : Nat) (aReK : Nat) (aReO : Nat) (aReD : Nat) (cDays : Int32) (cLin : Int32) (cH : Nat → Int32) (cK : Nat → Int32) (l : Int32) (d : Int32) : MC yX7_dries wsX7_dries ({ frames := 2, cells := 0, slots := 0, locals := 45 } : Room) D [(cI, .int)] [.ref aLL, .int l, .int d] [(aLL, .inr (7, [.ref aRE, .ref aRT, .ref aWE, .ref aKE, .ref aRD, .ref aTE, .ref aSR, .int lFault])), (aRE, .inr (2, [.ref aReS, .ref aReH, .ref aReK, .ref aReO, .ref aReD, .int cDays, .int cLin])), (aReH, .inl (cI, 6, .inl cH)), (aReK, .inl (cI, 5, .inl cK))] (some (.int (m_X7_dries cDays cLin cH cK l d))) [(aLL, .inr (7, [.ref aRE, .ref aRT, .ref aWE, .ref aKE, .ref aRD, .ref aTE, .ref aSR, .int lFault])), (aRE, .inr (2, [.ref aReS, .ref aReH, .ref aReK, .ref aReO, .ref aReD, .int cDays, .int cLin])), (aReH, .inl (cI, 6, .inl cH)), (aReK, .inl (cI, 5, .inl cK))] := by
  refine g_entry (by decide) rfl rfl rfl rfl (Nat.le_of_ble_eq_true rfl) (lv := [(0, .ref aLL), (1, .int l), (2, .int d)]) rfl ?_
  intro X hC hX
  obtain ⟨res, hres⟩ : ∃ z, z = (m_X7_dries cDays cLin cH cK l d) := ⟨_, rfl⟩
  rw [← hres] at hX
  rw [m_X7_dries] at hres
  refine g_aload_n hC dX7_dries_0 rfl 0 rfl rfl ?_
  refine g_get hC iw_X7_dries_RX7 0 rfl rfl 0 (by decide) (List.mem_of_getElem? (i := 1) rfl) rfl rfl dX7_dries_1 rfl ?_
  refine g_iload_n hC dX7_dries_4 rfl 1 rfl rfl ?_
  refine g_callV (ws' := [(aLL, .inr (7, [.ref aRE, .ref aRT, .ref aWE, .ref aKE, .ref aRD, .ref aTE, .ref aSR, .int lFault])), (aRE, .inr (2, [.ref aReS, .ref aReH, .ref aReK, .ref aReO, .ref aReD, .int cDays, .int cLin])), (aReH, .inl (cI, 6, .inl cH)), (aReK, .inl (cI, 5, .inl cK))]) (st' := [.int (m_X2_hasLinen cLin l)]) (nw := 4) (n1 := 1) hC gX7_dries_X2_hasLinen hdV_yX2_hasLinen 1 rfl rfl (As := [.int l]) (rest := []) (c_X2_hasLinen D cI aRE aReS aReH aReK aReO aReD cDays cLin l) rfl ⟨by decide, by decide⟩ rfl [1] [0, 2, 3] [0, 3, 1, 2] [0] rfl rfl rfl rfl (by decide) rfl rfl (Nat.le_of_ble_eq_true rfl) dX7_dries_5 rfl rfl ?_
  refine g_if_eq (tgt := 22) hC dX7_dries_8 (by decide) rfl (fun c_8 => ?_) (fun c_8 => ?_)
  · rw [if_pos c_8] at hres
    refine g_iconst (v := -1) hC dX7_dries_22 (by decide) rfl ?_
    subst hres
    exact g_iret hC hX rfl dX7_dries_23 rfl rfl
  · rw [if_neg c_8] at hres
    refine g_aload_n hC dX7_dries_11 rfl 0 rfl rfl ?_
    refine g_get hC iw_X7_dries_RX7 0 rfl rfl 0 (by decide) (List.mem_of_getElem? (i := 1) rfl) rfl rfl dX7_dries_12 rfl ?_
    refine g_iload_n hC dX7_dries_15 rfl 2 rfl rfl ?_
    refine g_callV (ws' := [(aLL, .inr (7, [.ref aRE, .ref aRT, .ref aWE, .ref aKE, .ref aRD, .ref aTE, .ref aSR, .int lFault])), (aRE, .inr (2, [.ref aReS, .ref aReH, .ref aReK, .ref aReO, .ref aReD, .int cDays, .int cLin])), (aReH, .inl (cI, 6, .inl cH)), (aReK, .inl (cI, 5, .inl cK))]) (st' := [.int (m_X2_hasDay cDays d)]) (nw := 4) (n1 := 1) hC gX7_dries_X2_hasDay hdV_yX2_hasDay 1 rfl rfl (As := [.int d]) (rest := []) (c_X2_hasDay D cI aRE aReS aReH aReK aReO aReD cDays cLin d) rfl ⟨by decide, by decide⟩ rfl [1] [0, 2, 3] [0, 3, 1, 2] [0] rfl rfl rfl rfl (by decide) rfl rfl (Nat.le_of_ble_eq_true rfl) dX7_dries_16 rfl rfl ?_
    refine g_if_ne (tgt := 24) hC dX7_dries_19 (by decide) rfl (fun c_19 => ?_) (fun c_19 => ?_)
    · rw [if_neg c_19] at hres
      refine g_aload_n hC dX7_dries_24 rfl 0 rfl rfl ?_
      refine g_get hC iw_X7_dries_RX7 0 rfl rfl 0 (by decide) (List.mem_of_getElem? (i := 1) rfl) rfl rfl dX7_dries_25 rfl ?_
      refine g_iload_n hC dX7_dries_28 rfl 1 rfl rfl ?_
      refine g_iload_n hC dX7_dries_29 rfl 2 rfl rfl ?_
      refine g_callV (ws' := [(aLL, .inr (7, [.ref aRE, .ref aRT, .ref aWE, .ref aKE, .ref aRD, .ref aTE, .ref aSR, .int lFault])), (aRE, .inr (2, [.ref aReS, .ref aReH, .ref aReK, .ref aReO, .ref aReD, .int cDays, .int cLin])), (aReH, .inl (cI, 6, .inl cH)), (aReK, .inl (cI, 5, .inl cK))]) (st' := [.int (m_X2_drying cH cK l d)]) (nw := 4) (n1 := 3) hC gX7_dries_X2_drying hdV_yX2_drying 1 rfl rfl (As := [.int l, .int d]) (rest := []) (c_X2_drying D cI aRE aReS aReH aReK aReO aReD cDays cLin cH cK l d) rfl ⟨by decide, by decide⟩ rfl [1, 2, 3] [0] [0, 1, 2, 3] [0] rfl rfl rfl rfl (by decide) rfl rfl (Nat.le_of_ble_eq_true rfl) dX7_dries_30 rfl rfl ?_
      subst hres
      exact g_iret hC hX rfl dX7_dries_33 rfl rfl
    · rw [if_pos c_19] at hres
      refine g_iconst (v := -1) hC dX7_dries_22 (by decide) rfl ?_
      subst hres
      exact g_iret hC hX rfl dX7_dries_23 rfl rfl
theorem iw_X7_damp_RX7 : ∀ w ∈ wsX70, w ∈ wsX7_damp := fun _ h => List.mem_cons_of_mem _ (List.mem_append_left _ (List.mem_append_right _ (h)))
def m_X7_damp (cDays : Int32) (cLin : Int32) (cH : Nat → Int32) (cK : Nat → Int32) (cD : Nat → Int32) (l : Int32) (t : Int32) : (Int32) := (if (m_X2_hasLinen cLin l) = 0 then (-1 : Int32) else (if (m_X2_hasEvenings cDays t) = 0 then (-2 : Int32) else (m_X2_dampBehind cDays cH cK cD l t)))
set_option maxRecDepth 100000 in
set_option maxHeartbeats 4000000 in
theorem c_X7_damp (D : va_G) (cI : ClassId) (aLL : Nat) (aRE : Nat) (aRT : Nat) (aWE : Nat) (aKE : Nat) (aRD : Nat) (aTE : Nat) (aSR : Nat) (lFault : Int32) (aReS : Nat) (aReH : Nat) (aReK : Nat) (aReO : Nat) (aReD : Nat) (cDays : Int32) (cLin : Int32) (cH : Nat → Int32) (cK : Nat → Int32) (cD : Nat → Int32) (l : Int32) (t : Int32) : MC yX7_damp wsX7_damp ({ frames := 3, cells := 0, slots := 0, locals := 71 } : Room) D [(cI, .int)] [.ref aLL, .int l, .int t] [(aLL, .inr (7, [.ref aRE, .ref aRT, .ref aWE, .ref aKE, .ref aRD, .ref aTE, .ref aSR, .int lFault])), (aRE, .inr (2, [.ref aReS, .ref aReH, .ref aReK, .ref aReO, .ref aReD, .int cDays, .int cLin])), (aReH, .inl (cI, 6, .inl cH)), (aReK, .inl (cI, 5, .inl cK)), (aReD, .inl (cI, 5, .inl cD))] (some (.int (m_X7_damp cDays cLin cH cK cD l t))) [(aLL, .inr (7, [.ref aRE, .ref aRT, .ref aWE, .ref aKE, .ref aRD, .ref aTE, .ref aSR, .int lFault])), (aRE, .inr (2, [.ref aReS, .ref aReH, .ref aReK, .ref aReO, .ref aReD, .int cDays, .int cLin])), (aReH, .inl (cI, 6, .inl cH)), (aReK, .inl (cI, 5, .inl cK)), (aReD, .inl (cI, 5, .inl cD))] := by
  refine g_entry (by decide) rfl rfl rfl rfl (Nat.le_of_ble_eq_true rfl) (lv := [(0, .ref aLL), (1, .int l), (2, .int t)]) rfl ?_
  intro X hC hX
  obtain ⟨res, hres⟩ : ∃ z, z = (m_X7_damp cDays cLin cH cK cD l t) := ⟨_, rfl⟩
  rw [← hres] at hX
  rw [m_X7_damp] at hres
  refine g_aload_n hC dX7_damp_0 rfl 0 rfl rfl ?_
  refine g_get hC iw_X7_damp_RX7 0 rfl rfl 0 (by decide) (List.mem_of_getElem? (i := 1) rfl) rfl rfl dX7_damp_1 rfl ?_
  refine g_iload_n hC dX7_damp_4 rfl 1 rfl rfl ?_
  refine g_callV (ws' := [(aLL, .inr (7, [.ref aRE, .ref aRT, .ref aWE, .ref aKE, .ref aRD, .ref aTE, .ref aSR, .int lFault])), (aRE, .inr (2, [.ref aReS, .ref aReH, .ref aReK, .ref aReO, .ref aReD, .int cDays, .int cLin])), (aReH, .inl (cI, 6, .inl cH)), (aReK, .inl (cI, 5, .inl cK)), (aReD, .inl (cI, 5, .inl cD))]) (st' := [.int (m_X2_hasLinen cLin l)]) (nw := 5) (n1 := 1) hC gX7_damp_X2_hasLinen hdV_yX2_hasLinen 1 rfl rfl (As := [.int l]) (rest := []) (c_X2_hasLinen D cI aRE aReS aReH aReK aReO aReD cDays cLin l) rfl ⟨by decide, by decide⟩ rfl [1] [0, 2, 3, 4] [0, 4, 1, 2, 3] [0] rfl rfl rfl rfl (by decide) rfl rfl (Nat.le_of_ble_eq_true rfl) dX7_damp_5 rfl rfl ?_
  refine g_if_ne (tgt := 13) hC dX7_damp_8 (by decide) rfl (fun c_8 => ?_) (fun c_8 => ?_)
  · rw [if_neg c_8] at hres
    refine g_aload_n hC dX7_damp_13 rfl 0 rfl rfl ?_
    refine g_get hC iw_X7_damp_RX7 0 rfl rfl 0 (by decide) (List.mem_of_getElem? (i := 1) rfl) rfl rfl dX7_damp_14 rfl ?_
    refine g_iload_n hC dX7_damp_17 rfl 2 rfl rfl ?_
    refine g_callV (ws' := [(aLL, .inr (7, [.ref aRE, .ref aRT, .ref aWE, .ref aKE, .ref aRD, .ref aTE, .ref aSR, .int lFault])), (aRE, .inr (2, [.ref aReS, .ref aReH, .ref aReK, .ref aReO, .ref aReD, .int cDays, .int cLin])), (aReH, .inl (cI, 6, .inl cH)), (aReK, .inl (cI, 5, .inl cK)), (aReD, .inl (cI, 5, .inl cD))]) (st' := [.int (m_X2_hasEvenings cDays t)]) (nw := 5) (n1 := 1) hC gX7_damp_X2_hasEvenings hdV_yX2_hasEvenings 1 rfl rfl (As := [.int t]) (rest := []) (c_X2_hasEvenings D cI aRE aReS aReH aReK aReO aReD cDays cLin t) rfl ⟨by decide, by decide⟩ rfl [1] [0, 2, 3, 4] [0, 4, 1, 2, 3] [0] rfl rfl rfl rfl (by decide) rfl rfl (Nat.le_of_ble_eq_true rfl) dX7_damp_18 rfl rfl ?_
    refine g_if_eq (tgt := 36) hC dX7_damp_21 (by decide) rfl (fun c_21 => ?_) (fun c_21 => ?_)
    · rw [if_pos c_21] at hres
      refine g_bipush (v := -2) hC dX7_damp_36 (by decide) rfl ?_
      subst hres
      exact g_iret hC hX rfl dX7_damp_38 rfl rfl
    · rw [if_neg c_21] at hres
      refine g_aload_n hC dX7_damp_24 rfl 0 rfl rfl ?_
      refine g_get hC iw_X7_damp_RX7 0 rfl rfl 0 (by decide) (List.mem_of_getElem? (i := 1) rfl) rfl rfl dX7_damp_25 rfl ?_
      refine g_iload_n hC dX7_damp_28 rfl 1 rfl rfl ?_
      refine g_iload_n hC dX7_damp_29 rfl 2 rfl rfl ?_
      refine g_callV (ws' := [(aLL, .inr (7, [.ref aRE, .ref aRT, .ref aWE, .ref aKE, .ref aRD, .ref aTE, .ref aSR, .int lFault])), (aRE, .inr (2, [.ref aReS, .ref aReH, .ref aReK, .ref aReO, .ref aReD, .int cDays, .int cLin])), (aReH, .inl (cI, 6, .inl cH)), (aReK, .inl (cI, 5, .inl cK)), (aReD, .inl (cI, 5, .inl cD))]) (st' := [.int (m_X2_dampBehind cDays cH cK cD l t)]) (nw := 5) (n1 := 4) hC gX7_damp_X2_dampBehind hdV_yX2_dampBehind 1 rfl rfl (As := [.int l, .int t]) (rest := []) (c_X2_dampBehind D cI aRE aReS aReH aReK aReO aReD cDays cLin cH cK cD l t) rfl ⟨by decide, by decide⟩ rfl [1, 2, 3, 4] [0] [0, 1, 2, 3, 4] [0] rfl rfl rfl rfl (by decide) rfl rfl (Nat.le_of_ble_eq_true rfl) dX7_damp_30 rfl rfl ?_
      refine g_goto (tgt := 38) hC dX7_damp_33 (by decide) ?_
      subst hres
      exact g_iret hC hX rfl dX7_damp_38 rfl rfl
  · rw [if_pos c_8] at hres
    refine g_iconst (v := -1) hC dX7_damp_11 (by decide) rfl ?_
    subst hres
    exact g_iret hC hX rfl dX7_damp_12 rfl rfl
theorem iw_X7_laws_RX7 : ∀ w ∈ wsX70, w ∈ wsX7_laws := fun _ h => List.mem_cons_of_mem _ (List.mem_append_left _ (List.mem_append_right _ (h)))
def m_X7_laws (cDays : Int32) (cLin : Int32) (cH : Nat → Int32) (cK : Nat → Int32) (cD : Nat → Int32) (t : Int32) : (Int32) := (if (m_X2_stands cLin) = 0 then (-3 : Int32) else (if (m_X2_hasEvenings cDays t) = 0 then (-2 : Int32) else (m_X2_lawsBehind cDays cLin cH cK cD t)))
set_option maxRecDepth 100000 in
set_option maxHeartbeats 4000000 in
theorem c_X7_laws (D : va_G) (cI : ClassId) (aLL : Nat) (aRE : Nat) (aRT : Nat) (aWE : Nat) (aKE : Nat) (aRD : Nat) (aTE : Nat) (aSR : Nat) (lFault : Int32) (aReS : Nat) (aReH : Nat) (aReK : Nat) (aReO : Nat) (aReD : Nat) (cDays : Int32) (cLin : Int32) (cH : Nat → Int32) (cK : Nat → Int32) (cD : Nat → Int32) (t : Int32) : MC yX7_laws wsX7_laws ({ frames := 4, cells := 0, slots := 0, locals := 94 } : Room) D [(cI, .int)] [.ref aLL, .int t] [(aLL, .inr (7, [.ref aRE, .ref aRT, .ref aWE, .ref aKE, .ref aRD, .ref aTE, .ref aSR, .int lFault])), (aRE, .inr (2, [.ref aReS, .ref aReH, .ref aReK, .ref aReO, .ref aReD, .int cDays, .int cLin])), (aReH, .inl (cI, 6, .inl cH)), (aReK, .inl (cI, 5, .inl cK)), (aReD, .inl (cI, 5, .inl cD))] (some (.int (m_X7_laws cDays cLin cH cK cD t))) [(aLL, .inr (7, [.ref aRE, .ref aRT, .ref aWE, .ref aKE, .ref aRD, .ref aTE, .ref aSR, .int lFault])), (aRE, .inr (2, [.ref aReS, .ref aReH, .ref aReK, .ref aReO, .ref aReD, .int cDays, .int cLin])), (aReH, .inl (cI, 6, .inl cH)), (aReK, .inl (cI, 5, .inl cK)), (aReD, .inl (cI, 5, .inl cD))] := by
  refine g_entry (by decide) rfl rfl rfl rfl (Nat.le_of_ble_eq_true rfl) (lv := [(0, .ref aLL), (1, .int t)]) rfl ?_
  intro X hC hX
  obtain ⟨res, hres⟩ : ∃ z, z = (m_X7_laws cDays cLin cH cK cD t) := ⟨_, rfl⟩
  rw [← hres] at hX
  rw [m_X7_laws] at hres
  refine g_aload_n hC dX7_laws_0 rfl 0 rfl rfl ?_
  refine g_get hC iw_X7_laws_RX7 0 rfl rfl 0 (by decide) (List.mem_of_getElem? (i := 1) rfl) rfl rfl dX7_laws_1 rfl ?_
  refine g_callV (ws' := [(aLL, .inr (7, [.ref aRE, .ref aRT, .ref aWE, .ref aKE, .ref aRD, .ref aTE, .ref aSR, .int lFault])), (aRE, .inr (2, [.ref aReS, .ref aReH, .ref aReK, .ref aReO, .ref aReD, .int cDays, .int cLin])), (aReH, .inl (cI, 6, .inl cH)), (aReK, .inl (cI, 5, .inl cK)), (aReD, .inl (cI, 5, .inl cD))]) (st' := [.int (m_X2_stands cLin)]) (nw := 5) (n1 := 1) hC gX7_laws_X2_stands hdV_yX2_stands 1 rfl rfl (As := []) (rest := []) (c_X2_stands D cI aRE aReS aReH aReK aReO aReD cDays cLin) rfl ⟨by decide, by decide⟩ rfl [1] [0, 2, 3, 4] [0, 4, 1, 2, 3] [0] rfl rfl rfl rfl (by decide) rfl rfl (Nat.le_of_ble_eq_true rfl) dX7_laws_4 rfl rfl ?_
  refine g_if_ne (tgt := 13) hC dX7_laws_7 (by decide) rfl (fun c_7 => ?_) (fun c_7 => ?_)
  · rw [if_neg c_7] at hres
    refine g_aload_n hC dX7_laws_13 rfl 0 rfl rfl ?_
    refine g_get hC iw_X7_laws_RX7 0 rfl rfl 0 (by decide) (List.mem_of_getElem? (i := 1) rfl) rfl rfl dX7_laws_14 rfl ?_
    refine g_iload_n hC dX7_laws_17 rfl 1 rfl rfl ?_
    refine g_callV (ws' := [(aLL, .inr (7, [.ref aRE, .ref aRT, .ref aWE, .ref aKE, .ref aRD, .ref aTE, .ref aSR, .int lFault])), (aRE, .inr (2, [.ref aReS, .ref aReH, .ref aReK, .ref aReO, .ref aReD, .int cDays, .int cLin])), (aReH, .inl (cI, 6, .inl cH)), (aReK, .inl (cI, 5, .inl cK)), (aReD, .inl (cI, 5, .inl cD))]) (st' := [.int (m_X2_hasEvenings cDays t)]) (nw := 5) (n1 := 1) hC gX7_laws_X2_hasEvenings hdV_yX2_hasEvenings 1 rfl rfl (As := [.int t]) (rest := []) (c_X2_hasEvenings D cI aRE aReS aReH aReK aReO aReD cDays cLin t) rfl ⟨by decide, by decide⟩ rfl [1] [0, 2, 3, 4] [0, 4, 1, 2, 3] [0] rfl rfl rfl rfl (by decide) rfl rfl (Nat.le_of_ble_eq_true rfl) dX7_laws_18 rfl rfl ?_
    refine g_if_eq (tgt := 35) hC dX7_laws_21 (by decide) rfl (fun c_21 => ?_) (fun c_21 => ?_)
    · rw [if_pos c_21] at hres
      refine g_bipush (v := -2) hC dX7_laws_35 (by decide) rfl ?_
      subst hres
      exact g_iret hC hX rfl dX7_laws_37 rfl rfl
    · rw [if_neg c_21] at hres
      refine g_aload_n hC dX7_laws_24 rfl 0 rfl rfl ?_
      refine g_get hC iw_X7_laws_RX7 0 rfl rfl 0 (by decide) (List.mem_of_getElem? (i := 1) rfl) rfl rfl dX7_laws_25 rfl ?_
      refine g_iload_n hC dX7_laws_28 rfl 1 rfl rfl ?_
      refine g_callV (ws' := [(aLL, .inr (7, [.ref aRE, .ref aRT, .ref aWE, .ref aKE, .ref aRD, .ref aTE, .ref aSR, .int lFault])), (aRE, .inr (2, [.ref aReS, .ref aReH, .ref aReK, .ref aReO, .ref aReD, .int cDays, .int cLin])), (aReH, .inl (cI, 6, .inl cH)), (aReK, .inl (cI, 5, .inl cK)), (aReD, .inl (cI, 5, .inl cD))]) (st' := [.int (m_X2_lawsBehind cDays cLin cH cK cD t)]) (nw := 5) (n1 := 4) hC gX7_laws_X2_lawsBehind hdV_yX2_lawsBehind 1 rfl rfl (As := [.int t]) (rest := []) (c_X2_lawsBehind D cI aRE aReS aReH aReK aReO aReD cDays cLin cH cK cD t) rfl ⟨by decide, by decide⟩ rfl [1, 2, 3, 4] [0] [0, 1, 2, 3, 4] [0] rfl rfl rfl rfl (by decide) rfl rfl (Nat.le_of_ble_eq_true rfl) dX7_laws_29 rfl rfl ?_
      refine g_goto (tgt := 37) hC dX7_laws_32 (by decide) ?_
      subst hres
      exact g_iret hC hX rfl dX7_laws_37 rfl rfl
  · rw [if_pos c_7] at hres
    refine g_bipush (v := -3) hC dX7_laws_10 (by decide) rfl ?_
    subst hres
    exact g_iret hC hX rfl dX7_laws_12 rfl rfl
theorem iw_X7_weeping_RX7 : ∀ w ∈ wsX70, w ∈ wsX7_weeping := fun _ h => List.mem_cons_of_mem _ (List.mem_append_left _ (List.mem_append_left _ (List.mem_append_left _ (List.mem_append_right _ (h)))))
def m_X7_weeping_in (wEv : Int32) (wActs : Int32) (wLast : Int32) (wWrong : Int32) (wS : Nat → Int32) (wD : Nat → Int32) (cDays : Int32) (cLin : Int32) (cS : Nat → Int32) (cH : Nat → Int32) (cK : Nat → Int32) (cO_ : Nat → Int32) (cD : Nat → Int32) (sHas : Int32) (sLane : Int32) (sLen : Int32) (sA : Nat → Int32) (lane : Int32) (i : Int32) (n : Int32) (what : Int32) : (Int32 × Int32 × Int32 × Int32 × Int32 × Int32 × (Nat → Int32) × (Nat → Int32)) := (if (m_X7_isBelow lane (3 : Int32)) = 0 then ((-2 : Int32), (0 : Int32), wEv, wActs, wLast, wWrong, wS, wD) else (if (m_X7_isBelow n (41 : Int32)) = 0 then ((-2 : Int32), (0 : Int32), wEv, wActs, wLast, wWrong, wS, wD) else (if (m_X6_isAsked what) = 0 then ((-2 : Int32), (0 : Int32), wEv, wActs, wLast, wWrong, wS, wD) else (if (m_X2_stands cLin) = 0 then ((-3 : Int32), (0 : Int32), wEv, wActs, wLast, wWrong, wS, wD) else (if (m_X4_faultOfCells sHas sLane sLen lane i n) = 0 then (if (m_X6_areActs cLin sA i n) = 0 then ((-2 : Int32), (0 : Int32), wEv, wActs, wLast, wWrong, wS, wD) else ((m_X6_answer ((m_X6_play wS wD cDays cLin cS cH cK cO_ cD sA i n).2.1) ((m_X6_play wS wD cDays cLin cS cH cK cO_ cD sA i n).2.2.1) ((m_X6_play wS wD cDays cLin cS cH cK cO_ cD sA i n).2.2.2.1) ((m_X6_play wS wD cDays cLin cS cH cK cO_ cD sA i n).2.2.2.2.1) ((m_X6_play wS wD cDays cLin cS cH cK cO_ cD sA i n).2.2.2.2.2) cLin what), (0 : Int32), (m_X6_play wS wD cDays cLin cS cH cK cO_ cD sA i n).1, (m_X6_play wS wD cDays cLin cS cH cK cO_ cD sA i n).2.1, (m_X6_play wS wD cDays cLin cS cH cK cO_ cD sA i n).2.2.1, (m_X6_play wS wD cDays cLin cS cH cK cO_ cD sA i n).2.2.2.1, (m_X6_play wS wD cDays cLin cS cH cK cO_ cD sA i n).2.2.2.2.1, (m_X6_play wS wD cDays cLin cS cH cK cO_ cD sA i n).2.2.2.2.2)) else ((m_X7_faulted (m_X4_faultOfCells sHas sLane sLen lane i n)).1, (m_X7_faulted (m_X4_faultOfCells sHas sLane sLen lane i n)).2, wEv, wActs, wLast, wWrong, wS, wD))))))
set_option maxRecDepth 100000 in
set_option maxHeartbeats 4000000 in
theorem c_X7_weeping_in (D : va_G) (cI : ClassId) (cO : ClassId) (aLL : Nat) (aRE : Nat) (aRT : Nat) (aWE : Nat) (aKE : Nat) (aRD : Nat) (aTE : Nat) (aSR : Nat) (lFault : Int32) (sRows : Nat → Option Nat) (aWeS : Nat) (aWeD : Nat) (wEv : Int32) (wActs : Int32) (wLast : Int32) (wWrong : Int32) (wS : Nat → Int32) (wD : Nat → Int32) (aReS : Nat) (aReH : Nat) (aReK : Nat) (aReO : Nat) (aReD : Nat) (cDays : Int32) (cLin : Int32) (cS : Nat → Int32) (cH : Nat → Int32) (cK : Nat → Int32) (cO_ : Nat → Int32) (cD : Nat → Int32) (aSh : Nat) (aShA : Nat) (sHas : Int32) (sLane : Int32) (sLen : Int32) (sA : Nat → Int32) (k : Int32) (lane : Int32) (i : Int32) (n : Int32) (what : Int32) (hsh : m_X7_sheetOf sRows k = some aSh) : MC yX7_weeping wsX7_weeping ({ frames := 4, cells := 0, slots := 0, locals := 94 } : Room) D [(cI, .int), (cO, .object "LinenLaw$Sheet")] [.ref aLL, .int k, .int lane, .int i, .int n, .int what] [(aLL, .inr (7, [.ref aRE, .ref aRT, .ref aWE, .ref aKE, .ref aRD, .ref aTE, .ref aSR, .int lFault])), (aSR, .inl (cO, 4, .inr (.inr (.inr (.inr sRows))))), (aWE, .inr (6, [.ref aWeS, .ref aWeD, .int wEv, .int wActs, .int wLast, .int wWrong])), (aWeS, .inl (cI, 4, .inl wS)), (aWeD, .inl (cI, 5, .inl wD)), (aRE, .inr (2, [.ref aReS, .ref aReH, .ref aReK, .ref aReO, .ref aReD, .int cDays, .int cLin])), (aReS, .inl (cI, 4, .inl cS)), (aReH, .inl (cI, 6, .inl cH)), (aReK, .inl (cI, 5, .inl cK)), (aReO, .inl (cI, 5, .inl cO_)), (aReD, .inl (cI, 5, .inl cD)), (aSh, .inr (4, [.ref aShA, .int sHas, .int sLane, .int sLen])), (aShA, .inl (cI, 60, .inl sA))] (some (.int ((m_X7_weeping_in wEv wActs wLast wWrong wS wD cDays cLin cS cH cK cO_ cD sHas sLane sLen sA lane i n what).1))) [(aLL, .inr (7, [.ref aRE, .ref aRT, .ref aWE, .ref aKE, .ref aRD, .ref aTE, .ref aSR, .int ((m_X7_weeping_in wEv wActs wLast wWrong wS wD cDays cLin cS cH cK cO_ cD sHas sLane sLen sA lane i n what).2.1)])), (aSR, .inl (cO, 4, .inr (.inr (.inr (.inr sRows))))), (aWE, .inr (6, [.ref aWeS, .ref aWeD, .int ((m_X7_weeping_in wEv wActs wLast wWrong wS wD cDays cLin cS cH cK cO_ cD sHas sLane sLen sA lane i n what).2.2.1), .int ((m_X7_weeping_in wEv wActs wLast wWrong wS wD cDays cLin cS cH cK cO_ cD sHas sLane sLen sA lane i n what).2.2.2.1), .int ((m_X7_weeping_in wEv wActs wLast wWrong wS wD cDays cLin cS cH cK cO_ cD sHas sLane sLen sA lane i n what).2.2.2.2.1), .int ((m_X7_weeping_in wEv wActs wLast wWrong wS wD cDays cLin cS cH cK cO_ cD sHas sLane sLen sA lane i n what).2.2.2.2.2.1)])), (aWeS, .inl (cI, 4, .inl ((m_X7_weeping_in wEv wActs wLast wWrong wS wD cDays cLin cS cH cK cO_ cD sHas sLane sLen sA lane i n what).2.2.2.2.2.2.1))), (aWeD, .inl (cI, 5, .inl ((m_X7_weeping_in wEv wActs wLast wWrong wS wD cDays cLin cS cH cK cO_ cD sHas sLane sLen sA lane i n what).2.2.2.2.2.2.2))), (aRE, .inr (2, [.ref aReS, .ref aReH, .ref aReK, .ref aReO, .ref aReD, .int cDays, .int cLin])), (aReS, .inl (cI, 4, .inl cS)), (aReH, .inl (cI, 6, .inl cH)), (aReK, .inl (cI, 5, .inl cK)), (aReO, .inl (cI, 5, .inl cO_)), (aReD, .inl (cI, 5, .inl cD)), (aSh, .inr (4, [.ref aShA, .int sHas, .int sLane, .int sLen])), (aShA, .inl (cI, 60, .inl sA))] := by
  refine g_entry (by decide) rfl rfl rfl rfl (Nat.le_of_ble_eq_true rfl) (lv := [(0, .ref aLL), (1, .int k), (2, .int lane), (3, .int i), (4, .int n), (5, .int what)]) rfl ?_
  intro X hC hX
  obtain ⟨res, hres⟩ : ∃ z, z = (m_X7_weeping_in wEv wActs wLast wWrong wS wD cDays cLin cS cH cK cO_ cD sHas sLane sLen sA lane i n what) := ⟨_, rfl⟩
  rw [← hres] at hX
  rw [m_X7_weeping_in] at hres
  refine g_aload_n hC dX7_weeping_0 rfl 0 rfl rfl ?_
  refine g_iconst (v := 0) hC dX7_weeping_1 (by decide) rfl ?_
  refine g_put (ws' := [(aLL, .inr (7, [.ref aRE, .ref aRT, .ref aWE, .ref aKE, .ref aRD, .ref aTE, .ref aSR, .int (0 : Int32)])), (aSR, .inl (cO, 4, .inr (.inr (.inr (.inr sRows))))), (aWE, .inr (6, [.ref aWeS, .ref aWeD, .int wEv, .int wActs, .int wLast, .int wWrong])), (aWeS, .inl (cI, 4, .inl wS)), (aWeD, .inl (cI, 5, .inl wD)), (aRE, .inr (2, [.ref aReS, .ref aReH, .ref aReK, .ref aReO, .ref aReD, .int cDays, .int cLin])), (aReS, .inl (cI, 4, .inl cS)), (aReH, .inl (cI, 6, .inl cH)), (aReK, .inl (cI, 5, .inl cK)), (aReO, .inl (cI, 5, .inl cO_)), (aReD, .inl (cI, 5, .inl cD)), (aSh, .inr (4, [.ref aShA, .int sHas, .int sLane, .int sLen])), (aShA, .inl (cI, 60, .inl sA))]) hC iw_X7_weeping_RX7 0 rfl rfl 7 (by decide) (List.mem_of_getElem? (i := 1) rfl) rfl tyX7 tyX7_ok nmX7 rfl rfl rfl (Nat.le_of_ble_eq_true rfl) rfl dX7_weeping_2 rfl ?_
  refine g_aload_n hC dX7_weeping_5 rfl 0 rfl rfl ?_
  refine g_iload_n hC dX7_weeping_6 rfl 1 rfl rfl ?_
  refine g_callV (ws' := [(aLL, .inr (7, [.ref aRE, .ref aRT, .ref aWE, .ref aKE, .ref aRD, .ref aTE, .ref aSR, .int (0 : Int32)])), (aSR, .inl (cO, 4, .inr (.inr (.inr (.inr sRows))))), (aWE, .inr (6, [.ref aWeS, .ref aWeD, .int wEv, .int wActs, .int wLast, .int wWrong])), (aWeS, .inl (cI, 4, .inl wS)), (aWeD, .inl (cI, 5, .inl wD)), (aRE, .inr (2, [.ref aReS, .ref aReH, .ref aReK, .ref aReO, .ref aReD, .int cDays, .int cLin])), (aReS, .inl (cI, 4, .inl cS)), (aReH, .inl (cI, 6, .inl cH)), (aReK, .inl (cI, 5, .inl cK)), (aReO, .inl (cI, 5, .inl cO_)), (aReD, .inl (cI, 5, .inl cD)), (aSh, .inr (4, [.ref aShA, .int sHas, .int sLane, .int sLen])), (aShA, .inl (cI, 60, .inl sA))]) (st' := [.ref aSh]) (nw := 13) (n1 := 2) hC gX7_weeping_X7_sheetOf hdV_yX7_sheetOf 0 rfl rfl (As := [.int k]) (rest := []) (c_X7_sheetOf D cI cO aLL aRE aRT aWE aKE aRD aTE aSR (0 : Int32) sRows k) rfl ⟨by decide, by decide⟩ rfl [0, 1] [2, 3, 4, 5, 6, 7, 8, 9, 10, 11, 12] [11, 12, 0, 1, 2, 3, 4, 5, 6, 7, 8, 9, 10] [0, 1] rfl rfl rfl rfl (by decide) rfl rfl (Nat.le_of_ble_eq_true rfl) dX7_weeping_7 rfl (by rw [hsh]; rfl) ?_
  refine g_astore (lv' := [(6, .ref aSh), (0, .ref aLL), (1, .int k), (2, .int lane), (3, .int i), (4, .int n), (5, .int what)]) hC dX7_weeping_10 (by decide) rfl rfl ?_
  refine g_aload hC dX7_weeping_12 0 rfl rfl ?_
  refine g_ifnonnull (tgt := 19) hC dX7_weeping_14 (by decide) ?_
  refine g_iload_n hC dX7_weeping_19 rfl 3 rfl rfl ?_
  refine g_iconst (v := 3) hC dX7_weeping_20 (by decide) rfl ?_
  refine g_callS (ws' := [(aLL, .inr (7, [.ref aRE, .ref aRT, .ref aWE, .ref aKE, .ref aRD, .ref aTE, .ref aSR, .int (0 : Int32)])), (aSR, .inl (cO, 4, .inr (.inr (.inr (.inr sRows))))), (aWE, .inr (6, [.ref aWeS, .ref aWeD, .int wEv, .int wActs, .int wLast, .int wWrong])), (aWeS, .inl (cI, 4, .inl wS)), (aWeD, .inl (cI, 5, .inl wD)), (aRE, .inr (2, [.ref aReS, .ref aReH, .ref aReK, .ref aReO, .ref aReD, .int cDays, .int cLin])), (aReS, .inl (cI, 4, .inl cS)), (aReH, .inl (cI, 6, .inl cH)), (aReK, .inl (cI, 5, .inl cK)), (aReO, .inl (cI, 5, .inl cO_)), (aReD, .inl (cI, 5, .inl cD)), (aSh, .inr (4, [.ref aShA, .int sHas, .int sLane, .int sLen])), (aShA, .inl (cI, 60, .inl sA))]) (st' := [.int (m_X7_isBelow lane (3 : Int32))]) (nw := 13) (n1 := 0) hC gX7_weeping_X7_isBelow hdS_yX7_isBelow (As := [.int lane, .int (3 : Int32)]) (rest := []) (c_X7_isBelow D cI lane (3 : Int32)) rfl ⟨by decide, by decide⟩ rfl [] [0, 1, 2, 3, 4, 5, 6, 7, 8, 9, 10, 11, 12] [0, 1, 2, 3, 4, 5, 6, 7, 8, 9, 10, 11, 12] [0] rfl rfl rfl rfl (by decide) rfl rfl (Nat.le_of_ble_eq_true rfl) dX7_weeping_21 rfl rfl ?_
  refine g_if_eq (tgt := 45) hC dX7_weeping_24 (by decide) rfl (fun c_24 => ?_) (fun c_24 => ?_)
  · rw [if_pos c_24] at hres
    refine g_bipush (v := -2) hC dX7_weeping_45 (by decide) rfl ?_
    subst hres
    exact g_iret hC hX rfl dX7_weeping_47 rfl rfl
  · rw [if_neg c_24] at hres
    refine g_iload hC dX7_weeping_27 5 rfl rfl ?_
    refine g_bipush (v := 41) hC dX7_weeping_29 (by decide) rfl ?_
    refine g_callS (ws' := [(aLL, .inr (7, [.ref aRE, .ref aRT, .ref aWE, .ref aKE, .ref aRD, .ref aTE, .ref aSR, .int (0 : Int32)])), (aSR, .inl (cO, 4, .inr (.inr (.inr (.inr sRows))))), (aWE, .inr (6, [.ref aWeS, .ref aWeD, .int wEv, .int wActs, .int wLast, .int wWrong])), (aWeS, .inl (cI, 4, .inl wS)), (aWeD, .inl (cI, 5, .inl wD)), (aRE, .inr (2, [.ref aReS, .ref aReH, .ref aReK, .ref aReO, .ref aReD, .int cDays, .int cLin])), (aReS, .inl (cI, 4, .inl cS)), (aReH, .inl (cI, 6, .inl cH)), (aReK, .inl (cI, 5, .inl cK)), (aReO, .inl (cI, 5, .inl cO_)), (aReD, .inl (cI, 5, .inl cD)), (aSh, .inr (4, [.ref aShA, .int sHas, .int sLane, .int sLen])), (aShA, .inl (cI, 60, .inl sA))]) (st' := [.int (m_X7_isBelow n (41 : Int32))]) (nw := 13) (n1 := 0) hC gX7_weeping_X7_isBelow hdS_yX7_isBelow (As := [.int n, .int (41 : Int32)]) (rest := []) (c_X7_isBelow D cI n (41 : Int32)) rfl ⟨by decide, by decide⟩ rfl [] [0, 1, 2, 3, 4, 5, 6, 7, 8, 9, 10, 11, 12] [0, 1, 2, 3, 4, 5, 6, 7, 8, 9, 10, 11, 12] [0] rfl rfl rfl rfl (by decide) rfl rfl (Nat.le_of_ble_eq_true rfl) dX7_weeping_31 rfl rfl ?_
    refine g_if_eq (tgt := 45) hC dX7_weeping_34 (by decide) rfl (fun c_34 => ?_) (fun c_34 => ?_)
    · rw [if_pos c_34] at hres
      refine g_bipush (v := -2) hC dX7_weeping_45 (by decide) rfl ?_
      subst hres
      exact g_iret hC hX rfl dX7_weeping_47 rfl rfl
    · rw [if_neg c_34] at hres
      refine g_iload hC dX7_weeping_37 6 rfl rfl ?_
      refine g_callS (ws' := [(aLL, .inr (7, [.ref aRE, .ref aRT, .ref aWE, .ref aKE, .ref aRD, .ref aTE, .ref aSR, .int (0 : Int32)])), (aSR, .inl (cO, 4, .inr (.inr (.inr (.inr sRows))))), (aWE, .inr (6, [.ref aWeS, .ref aWeD, .int wEv, .int wActs, .int wLast, .int wWrong])), (aWeS, .inl (cI, 4, .inl wS)), (aWeD, .inl (cI, 5, .inl wD)), (aRE, .inr (2, [.ref aReS, .ref aReH, .ref aReK, .ref aReO, .ref aReD, .int cDays, .int cLin])), (aReS, .inl (cI, 4, .inl cS)), (aReH, .inl (cI, 6, .inl cH)), (aReK, .inl (cI, 5, .inl cK)), (aReO, .inl (cI, 5, .inl cO_)), (aReD, .inl (cI, 5, .inl cD)), (aSh, .inr (4, [.ref aShA, .int sHas, .int sLane, .int sLen])), (aShA, .inl (cI, 60, .inl sA))]) (st' := [.int (m_X6_isAsked what)]) (nw := 13) (n1 := 0) hC gX7_weeping_X6_isAsked hdS_yX6_isAsked (As := [.int what]) (rest := []) (c_X6_isAsked D cI what) rfl ⟨by decide, by decide⟩ rfl [] [0, 1, 2, 3, 4, 5, 6, 7, 8, 9, 10, 11, 12] [0, 1, 2, 3, 4, 5, 6, 7, 8, 9, 10, 11, 12] [0] rfl rfl rfl rfl (by decide) rfl rfl (Nat.le_of_ble_eq_true rfl) dX7_weeping_39 rfl rfl ?_
      refine g_if_ne (tgt := 48) hC dX7_weeping_42 (by decide) rfl (fun c_42 => ?_) (fun c_42 => ?_)
      · rw [if_neg c_42] at hres
        refine g_aload_n hC dX7_weeping_48 rfl 1 rfl rfl ?_
        refine g_get hC iw_X7_weeping_RX7 0 rfl rfl 0 (by decide) (List.mem_of_getElem? (i := 2) rfl) rfl rfl dX7_weeping_49 rfl ?_
        refine g_callV (ws' := [(aLL, .inr (7, [.ref aRE, .ref aRT, .ref aWE, .ref aKE, .ref aRD, .ref aTE, .ref aSR, .int (0 : Int32)])), (aSR, .inl (cO, 4, .inr (.inr (.inr (.inr sRows))))), (aWE, .inr (6, [.ref aWeS, .ref aWeD, .int wEv, .int wActs, .int wLast, .int wWrong])), (aWeS, .inl (cI, 4, .inl wS)), (aWeD, .inl (cI, 5, .inl wD)), (aRE, .inr (2, [.ref aReS, .ref aReH, .ref aReK, .ref aReO, .ref aReD, .int cDays, .int cLin])), (aReS, .inl (cI, 4, .inl cS)), (aReH, .inl (cI, 6, .inl cH)), (aReK, .inl (cI, 5, .inl cK)), (aReO, .inl (cI, 5, .inl cO_)), (aReD, .inl (cI, 5, .inl cD)), (aSh, .inr (4, [.ref aShA, .int sHas, .int sLane, .int sLen])), (aShA, .inl (cI, 60, .inl sA))]) (st' := [.int (m_X2_stands cLin)]) (nw := 13) (n1 := 1) hC gX7_weeping_X2_stands hdV_yX2_stands 5 rfl rfl (As := []) (rest := []) (c_X2_stands D cI aRE aReS aReH aReK aReO aReD cDays cLin) rfl ⟨by decide, by decide⟩ rfl [5] [0, 1, 2, 3, 4, 6, 7, 8, 9, 10, 11, 12] [0, 1, 2, 3, 4, 12, 5, 6, 7, 8, 9, 10, 11] [0] rfl rfl rfl rfl (by decide) rfl rfl (Nat.le_of_ble_eq_true rfl) dX7_weeping_52 rfl rfl ?_
        refine g_if_ne (tgt := 61) hC dX7_weeping_55 (by decide) rfl (fun c_55 => ?_) (fun c_55 => ?_)
        · rw [if_neg c_55] at hres
          refine g_aload hC dX7_weeping_61 0 rfl rfl ?_
          refine g_iload_n hC dX7_weeping_63 rfl 3 rfl rfl ?_
          refine g_iload_n hC dX7_weeping_64 rfl 4 rfl rfl ?_
          refine g_iload hC dX7_weeping_65 5 rfl rfl ?_
          refine g_callV (ws' := [(aLL, .inr (7, [.ref aRE, .ref aRT, .ref aWE, .ref aKE, .ref aRD, .ref aTE, .ref aSR, .int (0 : Int32)])), (aSR, .inl (cO, 4, .inr (.inr (.inr (.inr sRows))))), (aWE, .inr (6, [.ref aWeS, .ref aWeD, .int wEv, .int wActs, .int wLast, .int wWrong])), (aWeS, .inl (cI, 4, .inl wS)), (aWeD, .inl (cI, 5, .inl wD)), (aRE, .inr (2, [.ref aReS, .ref aReH, .ref aReK, .ref aReO, .ref aReD, .int cDays, .int cLin])), (aReS, .inl (cI, 4, .inl cS)), (aReH, .inl (cI, 6, .inl cH)), (aReK, .inl (cI, 5, .inl cK)), (aReO, .inl (cI, 5, .inl cO_)), (aReD, .inl (cI, 5, .inl cD)), (aSh, .inr (4, [.ref aShA, .int sHas, .int sLane, .int sLen])), (aShA, .inl (cI, 60, .inl sA))]) (st' := [.int (m_X4_faultOfCells sHas sLane sLen lane i n)]) (nw := 13) (n1 := 1) hC gX7_weeping_X4_faultOfCells hdV_yX4_faultOfCells 11 rfl rfl (As := [.int lane, .int i, .int n]) (rest := []) (c_X4_faultOfCells D cI aSh aShA sHas sLane sLen lane i n) rfl ⟨by decide, by decide⟩ rfl [11] [0, 1, 2, 3, 4, 5, 6, 7, 8, 9, 10, 12] [0, 1, 2, 3, 4, 5, 6, 7, 8, 9, 10, 12, 11] [0] rfl rfl rfl rfl (by decide) rfl rfl (Nat.le_of_ble_eq_true rfl) dX7_weeping_67 rfl rfl ?_
          refine g_istore (lv' := [(7, .int (m_X4_faultOfCells sHas sLane sLen lane i n)), (6, .ref aSh), (0, .ref aLL), (1, .int k), (2, .int lane), (3, .int i), (4, .int n), (5, .int what)]) hC dX7_weeping_70 (by decide) rfl rfl ?_
          refine g_iload hC dX7_weeping_72 0 rfl rfl ?_
          refine g_if_eq (tgt := 84) hC dX7_weeping_74 (by decide) rfl (fun c_74 => ?_) (fun c_74 => ?_)
          · rw [if_pos c_74] at hres
            refine g_aload_n hC dX7_weeping_84 rfl 2 rfl rfl ?_
            refine g_get hC iw_X7_weeping_RX7 0 rfl rfl 2 (by decide) (List.mem_of_getElem? (i := 3) rfl) rfl rfl dX7_weeping_85 rfl ?_
            refine g_aload_n hC dX7_weeping_88 rfl 2 rfl rfl ?_
            refine g_get hC iw_X7_weeping_RX7 0 rfl rfl 0 (by decide) (List.mem_of_getElem? (i := 2) rfl) rfl rfl dX7_weeping_89 rfl ?_
            refine g_aload hC dX7_weeping_92 1 rfl rfl ?_
            refine g_iload_n hC dX7_weeping_94 rfl 5 rfl rfl ?_
            refine g_iload hC dX7_weeping_95 6 rfl rfl ?_
            refine g_callV (ws' := [(aLL, .inr (7, [.ref aRE, .ref aRT, .ref aWE, .ref aKE, .ref aRD, .ref aTE, .ref aSR, .int (0 : Int32)])), (aSR, .inl (cO, 4, .inr (.inr (.inr (.inr sRows))))), (aWE, .inr (6, [.ref aWeS, .ref aWeD, .int wEv, .int wActs, .int wLast, .int wWrong])), (aWeS, .inl (cI, 4, .inl wS)), (aWeD, .inl (cI, 5, .inl wD)), (aRE, .inr (2, [.ref aReS, .ref aReH, .ref aReK, .ref aReO, .ref aReD, .int cDays, .int cLin])), (aReS, .inl (cI, 4, .inl cS)), (aReH, .inl (cI, 6, .inl cH)), (aReK, .inl (cI, 5, .inl cK)), (aReO, .inl (cI, 5, .inl cO_)), (aReD, .inl (cI, 5, .inl cD)), (aSh, .inr (4, [.ref aShA, .int sHas, .int sLane, .int sLen])), (aShA, .inl (cI, 60, .inl sA))]) (st' := [.int (m_X6_areActs cLin sA i n)]) (nw := 13) (n1 := 3) hC gX7_weeping_X6_areActs hdV_yX6_areActs 2 rfl rfl (As := [.ref aRE, .ref aSh, .int i, .int n]) (rest := []) (c_X6_areActs D cI aRE aReS aReH aReK aReO aReD cDays cLin aSh aShA sHas sLane sLen sA aWE i n) rfl ⟨by decide, by decide⟩ rfl [5, 11, 12] [0, 1, 2, 3, 4, 6, 7, 8, 9, 10] [0, 1, 2, 3, 4, 10, 5, 6, 7, 8, 9, 11, 12] [0] rfl rfl rfl rfl (by decide) rfl rfl (Nat.le_of_ble_eq_true rfl) dX7_weeping_97 rfl rfl ?_
            refine g_if_ne (tgt := 106) hC dX7_weeping_100 (by decide) rfl (fun c_100 => ?_) (fun c_100 => ?_)
            · rw [if_neg c_100] at hres
              refine g_aload_n hC dX7_weeping_106 rfl 2 rfl rfl ?_
              refine g_get hC iw_X7_weeping_RX7 0 rfl rfl 2 (by decide) (List.mem_of_getElem? (i := 3) rfl) rfl rfl dX7_weeping_107 rfl ?_
              refine g_aload_n hC dX7_weeping_110 rfl 2 rfl rfl ?_
              refine g_get hC iw_X7_weeping_RX7 0 rfl rfl 0 (by decide) (List.mem_of_getElem? (i := 2) rfl) rfl rfl dX7_weeping_111 rfl ?_
              refine g_aload hC dX7_weeping_114 1 rfl rfl ?_
              refine g_iload_n hC dX7_weeping_116 rfl 5 rfl rfl ?_
              refine g_iload hC dX7_weeping_117 6 rfl rfl ?_
              refine g_callV (ws' := [(aLL, .inr (7, [.ref aRE, .ref aRT, .ref aWE, .ref aKE, .ref aRD, .ref aTE, .ref aSR, .int (0 : Int32)])), (aSR, .inl (cO, 4, .inr (.inr (.inr (.inr sRows))))), (aWE, .inr (6, [.ref aWeS, .ref aWeD, .int ((m_X6_play wS wD cDays cLin cS cH cK cO_ cD sA i n).1), .int ((m_X6_play wS wD cDays cLin cS cH cK cO_ cD sA i n).2.1), .int ((m_X6_play wS wD cDays cLin cS cH cK cO_ cD sA i n).2.2.1), .int ((m_X6_play wS wD cDays cLin cS cH cK cO_ cD sA i n).2.2.2.1)])), (aWeS, .inl (cI, 4, .inl ((m_X6_play wS wD cDays cLin cS cH cK cO_ cD sA i n).2.2.2.2.1))), (aWeD, .inl (cI, 5, .inl ((m_X6_play wS wD cDays cLin cS cH cK cO_ cD sA i n).2.2.2.2.2))), (aRE, .inr (2, [.ref aReS, .ref aReH, .ref aReK, .ref aReO, .ref aReD, .int cDays, .int cLin])), (aReS, .inl (cI, 4, .inl cS)), (aReH, .inl (cI, 6, .inl cH)), (aReK, .inl (cI, 5, .inl cK)), (aReO, .inl (cI, 5, .inl cO_)), (aReD, .inl (cI, 5, .inl cD)), (aSh, .inr (4, [.ref aShA, .int sHas, .int sLane, .int sLen])), (aShA, .inl (cI, 60, .inl sA))]) (st' := []) (nw := 13) (n1 := 11) hC gX7_weeping_X6_play hdV_yX6_play 2 rfl rfl (As := [.ref aRE, .ref aSh, .int i, .int n]) (rest := []) (c_X6_play D cI aWE aWeS aWeD wEv wActs wLast wWrong wS wD aRE aReS aReH aReK aReO aReD cDays cLin cS cH cK cO_ cD aSh aShA sHas sLane sLen sA i n) rfl ⟨by decide, by decide⟩ rfl [2, 3, 4, 5, 6, 7, 8, 9, 10, 11, 12] [0, 1] [0, 1, 2, 3, 4, 5, 6, 7, 8, 9, 10, 11, 12] [0] rfl rfl rfl rfl (by decide) rfl rfl (Nat.le_of_ble_eq_true rfl) dX7_weeping_119 rfl rfl ?_
              refine g_aload_n hC dX7_weeping_122 rfl 2 rfl rfl ?_
              refine g_get hC iw_X7_weeping_RX7 0 rfl rfl 2 (by decide) (List.mem_of_getElem? (i := 3) rfl) rfl rfl dX7_weeping_123 rfl ?_
              refine g_aload_n hC dX7_weeping_126 rfl 2 rfl rfl ?_
              refine g_get hC iw_X7_weeping_RX7 0 rfl rfl 0 (by decide) (List.mem_of_getElem? (i := 2) rfl) rfl rfl dX7_weeping_127 rfl ?_
              refine g_iload hC dX7_weeping_130 7 rfl rfl ?_
              refine g_callV (ws' := [(aLL, .inr (7, [.ref aRE, .ref aRT, .ref aWE, .ref aKE, .ref aRD, .ref aTE, .ref aSR, .int (0 : Int32)])), (aSR, .inl (cO, 4, .inr (.inr (.inr (.inr sRows))))), (aWE, .inr (6, [.ref aWeS, .ref aWeD, .int ((m_X6_play wS wD cDays cLin cS cH cK cO_ cD sA i n).1), .int ((m_X6_play wS wD cDays cLin cS cH cK cO_ cD sA i n).2.1), .int ((m_X6_play wS wD cDays cLin cS cH cK cO_ cD sA i n).2.2.1), .int ((m_X6_play wS wD cDays cLin cS cH cK cO_ cD sA i n).2.2.2.1)])), (aWeS, .inl (cI, 4, .inl ((m_X6_play wS wD cDays cLin cS cH cK cO_ cD sA i n).2.2.2.2.1))), (aWeD, .inl (cI, 5, .inl ((m_X6_play wS wD cDays cLin cS cH cK cO_ cD sA i n).2.2.2.2.2))), (aRE, .inr (2, [.ref aReS, .ref aReH, .ref aReK, .ref aReO, .ref aReD, .int cDays, .int cLin])), (aReS, .inl (cI, 4, .inl cS)), (aReH, .inl (cI, 6, .inl cH)), (aReK, .inl (cI, 5, .inl cK)), (aReO, .inl (cI, 5, .inl cO_)), (aReD, .inl (cI, 5, .inl cD)), (aSh, .inr (4, [.ref aShA, .int sHas, .int sLane, .int sLen])), (aShA, .inl (cI, 60, .inl sA))]) (st' := [.int (m_X6_answer ((m_X6_play wS wD cDays cLin cS cH cK cO_ cD sA i n).2.1) ((m_X6_play wS wD cDays cLin cS cH cK cO_ cD sA i n).2.2.1) ((m_X6_play wS wD cDays cLin cS cH cK cO_ cD sA i n).2.2.2.1) ((m_X6_play wS wD cDays cLin cS cH cK cO_ cD sA i n).2.2.2.2.1) ((m_X6_play wS wD cDays cLin cS cH cK cO_ cD sA i n).2.2.2.2.2) cLin what)]) (nw := 13) (n1 := 4) hC gX7_weeping_X6_answer hdV_yX6_answer 2 rfl rfl (As := [.ref aRE, .int what]) (rest := []) (c_X6_answer D cI aWE aWeS aWeD ((m_X6_play wS wD cDays cLin cS cH cK cO_ cD sA i n).1) ((m_X6_play wS wD cDays cLin cS cH cK cO_ cD sA i n).2.1) ((m_X6_play wS wD cDays cLin cS cH cK cO_ cD sA i n).2.2.1) ((m_X6_play wS wD cDays cLin cS cH cK cO_ cD sA i n).2.2.2.1) ((m_X6_play wS wD cDays cLin cS cH cK cO_ cD sA i n).2.2.2.2.1) ((m_X6_play wS wD cDays cLin cS cH cK cO_ cD sA i n).2.2.2.2.2) aRE aReS aReH aReK aReO aReD cDays cLin what) rfl ⟨by decide, by decide⟩ rfl [2, 3, 4, 5] [0, 1, 6, 7, 8, 9, 10, 11, 12] [0, 1, 9, 10, 11, 12, 2, 3, 4, 5, 6, 7, 8] [0] rfl rfl rfl rfl (by decide) rfl rfl (Nat.le_of_ble_eq_true rfl) dX7_weeping_132 rfl rfl ?_
              subst hres
              exact g_iret hC hX rfl dX7_weeping_135 rfl rfl
            · rw [if_pos c_100] at hres
              refine g_bipush (v := -2) hC dX7_weeping_103 (by decide) rfl ?_
              subst hres
              exact g_iret hC hX rfl dX7_weeping_105 rfl rfl
          · rw [if_neg c_74] at hres
            refine g_aload_n hC dX7_weeping_77 rfl 2 rfl rfl ?_
            refine g_iload hC dX7_weeping_78 0 rfl rfl ?_
            refine g_callV (ws' := [(aLL, .inr (7, [.ref aRE, .ref aRT, .ref aWE, .ref aKE, .ref aRD, .ref aTE, .ref aSR, .int ((m_X7_faulted (m_X4_faultOfCells sHas sLane sLen lane i n)).2)])), (aSR, .inl (cO, 4, .inr (.inr (.inr (.inr sRows))))), (aWE, .inr (6, [.ref aWeS, .ref aWeD, .int wEv, .int wActs, .int wLast, .int wWrong])), (aWeS, .inl (cI, 4, .inl wS)), (aWeD, .inl (cI, 5, .inl wD)), (aRE, .inr (2, [.ref aReS, .ref aReH, .ref aReK, .ref aReO, .ref aReD, .int cDays, .int cLin])), (aReS, .inl (cI, 4, .inl cS)), (aReH, .inl (cI, 6, .inl cH)), (aReK, .inl (cI, 5, .inl cK)), (aReO, .inl (cI, 5, .inl cO_)), (aReD, .inl (cI, 5, .inl cD)), (aSh, .inr (4, [.ref aShA, .int sHas, .int sLane, .int sLen])), (aShA, .inl (cI, 60, .inl sA))]) (st' := [.int ((m_X7_faulted (m_X4_faultOfCells sHas sLane sLen lane i n)).1)]) (nw := 13) (n1 := 1) hC gX7_weeping_X7_faulted hdV_yX7_faulted 0 rfl rfl (As := [.int (m_X4_faultOfCells sHas sLane sLen lane i n)]) (rest := []) (c_X7_faulted D cI aLL aRE aRT aWE aKE aRD aTE aSR (0 : Int32) (m_X4_faultOfCells sHas sLane sLen lane i n)) rfl ⟨by decide, by decide⟩ rfl [0] [1, 2, 3, 4, 5, 6, 7, 8, 9, 10, 11, 12] [12, 0, 1, 2, 3, 4, 5, 6, 7, 8, 9, 10, 11] [0] rfl rfl rfl rfl (by decide) rfl rfl (Nat.le_of_ble_eq_true rfl) dX7_weeping_80 rfl rfl ?_
            subst hres
            exact g_iret hC hX rfl dX7_weeping_83 rfl rfl
        · rw [if_pos c_55] at hres
          refine g_bipush (v := -3) hC dX7_weeping_58 (by decide) rfl ?_
          subst hres
          exact g_iret hC hX rfl dX7_weeping_60 rfl rfl
      · rw [if_pos c_42] at hres
        refine g_bipush (v := -2) hC dX7_weeping_45 (by decide) rfl ?_
        subst hres
        exact g_iret hC hX rfl dX7_weeping_47 rfl rfl
def m_X7_weeping_out : (Int32 × Int32) := ((-1 : Int32), (0 : Int32))
set_option maxRecDepth 100000 in
set_option maxHeartbeats 4000000 in
theorem c_X7_weeping_out (D : va_G) (cI : ClassId) (cO : ClassId) (aLL : Nat) (aRE : Nat) (aRT : Nat) (aWE : Nat) (aKE : Nat) (aRD : Nat) (aTE : Nat) (aSR : Nat) (lFault : Int32) (sRows : Nat → Option Nat) (k : Int32) (lane : Int32) (i : Int32) (n : Int32) (what : Int32) (hsh : m_X7_sheetOf sRows k = none) : MC yX7_weeping wsX7_weeping ({ frames := 1, cells := 0, slots := 0, locals := 21 } : Room) D [(cI, .int), (cO, .object "LinenLaw$Sheet")] [.ref aLL, .int k, .int lane, .int i, .int n, .int what] [(aLL, .inr (7, [.ref aRE, .ref aRT, .ref aWE, .ref aKE, .ref aRD, .ref aTE, .ref aSR, .int lFault])), (aSR, .inl (cO, 4, .inr (.inr (.inr (.inr sRows)))))] (some (.int m_X7_weeping_out.1)) [(aLL, .inr (7, [.ref aRE, .ref aRT, .ref aWE, .ref aKE, .ref aRD, .ref aTE, .ref aSR, .int m_X7_weeping_out.2])), (aSR, .inl (cO, 4, .inr (.inr (.inr (.inr sRows)))))] := by
  refine g_entry (by decide) rfl rfl rfl rfl (Nat.le_of_ble_eq_true rfl) (lv := [(0, .ref aLL), (1, .int k), (2, .int lane), (3, .int i), (4, .int n), (5, .int what)]) rfl ?_
  intro X hC hX
  obtain ⟨res, hres⟩ : ∃ z, z = m_X7_weeping_out := ⟨_, rfl⟩
  rw [← hres] at hX
  rw [m_X7_weeping_out] at hres
  refine g_aload_n hC dX7_weeping_0 rfl 0 rfl rfl ?_
  refine g_iconst (v := 0) hC dX7_weeping_1 (by decide) rfl ?_
  refine g_put (ws' := [(aLL, .inr (7, [.ref aRE, .ref aRT, .ref aWE, .ref aKE, .ref aRD, .ref aTE, .ref aSR, .int (0 : Int32)])), (aSR, .inl (cO, 4, .inr (.inr (.inr (.inr sRows)))))]) hC iw_X7_weeping_RX7 0 rfl rfl 7 (by decide) (List.mem_of_getElem? (i := 1) rfl) rfl tyX7 tyX7_ok nmX7 rfl rfl rfl (Nat.le_of_ble_eq_true rfl) rfl dX7_weeping_2 rfl ?_
  refine g_aload_n hC dX7_weeping_5 rfl 0 rfl rfl ?_
  refine g_iload_n hC dX7_weeping_6 rfl 1 rfl rfl ?_
  refine g_callV (ws' := [(aLL, .inr (7, [.ref aRE, .ref aRT, .ref aWE, .ref aKE, .ref aRD, .ref aTE, .ref aSR, .int (0 : Int32)])), (aSR, .inl (cO, 4, .inr (.inr (.inr (.inr sRows)))))]) (st' := [.null]) (nw := 2) (n1 := 2) hC gX7_weeping_X7_sheetOf hdV_yX7_sheetOf 0 rfl rfl (As := [.int k]) (rest := []) (c_X7_sheetOf D cI cO aLL aRE aRT aWE aKE aRD aTE aSR (0 : Int32) sRows k) rfl ⟨by decide, by decide⟩ rfl [0, 1] [] [0, 1] [0, 1] rfl rfl rfl rfl (by decide) rfl rfl (Nat.le_of_ble_eq_true rfl) dX7_weeping_7 rfl (by rw [hsh]; rfl) ?_
  refine g_astoreN (lv' := [(6, .null), (0, .ref aLL), (1, .int k), (2, .int lane), (3, .int i), (4, .int n), (5, .int what)]) hC dX7_weeping_10 (by decide) rfl rfl ?_
  refine g_aloadN hC dX7_weeping_12 0 rfl rfl ?_
  refine g_ifnonnullN hC dX7_weeping_14 rfl ?_
  refine g_iconst (v := -1) hC dX7_weeping_17 (by decide) rfl ?_
  subst hres
  exact g_iret hC hX rfl dX7_weeping_18 rfl rfl
theorem iw_X7_tears_RX7 : ∀ w ∈ wsX70, w ∈ wsX7_tears := fun _ h => List.mem_cons_of_mem _ (List.mem_append_left _ (List.mem_append_left _ (List.mem_append_right _ (h))))
def m_X7_tears (kF : Nat → Int32) (cDays : Int32) (cLin : Int32) (cH : Nat → Int32) (cK : Nat → Int32) (cD : Nat → Int32) (l : Int32) : (Int32 × (Nat → Int32)) := (if (m_X2_hasLinen cLin l) = 0 then ((-1 : Int32), kF) else ((m_X0_fewestActs kF cDays cH cK cD l).1, (m_X0_fewestActs kF cDays cH cK cD l).2))
set_option maxRecDepth 100000 in
set_option maxHeartbeats 4000000 in
theorem c_X7_tears (D : va_G) (cI : ClassId) (aLL : Nat) (aRE : Nat) (aRT : Nat) (aWE : Nat) (aKE : Nat) (aRD : Nat) (aTE : Nat) (aSR : Nat) (lFault : Int32) (aKeF : Nat) (aKeT : Nat) (kF : Nat → Int32) (aReS : Nat) (aReH : Nat) (aReK : Nat) (aReO : Nat) (aReD : Nat) (cDays : Int32) (cLin : Int32) (cH : Nat → Int32) (cK : Nat → Int32) (cD : Nat → Int32) (l : Int32) : MC yX7_tears wsX7_tears ({ frames := 3, cells := 0, slots := 0, locals := 69 } : Room) D [(cI, .int)] [.ref aLL, .int l] [(aLL, .inr (7, [.ref aRE, .ref aRT, .ref aWE, .ref aKE, .ref aRD, .ref aTE, .ref aSR, .int lFault])), (aKE, .inr (0, [.ref aKeF, .ref aKeT])), (aKeF, .inl (cI, 10, .inl kF)), (aRE, .inr (2, [.ref aReS, .ref aReH, .ref aReK, .ref aReO, .ref aReD, .int cDays, .int cLin])), (aReH, .inl (cI, 6, .inl cH)), (aReK, .inl (cI, 5, .inl cK)), (aReD, .inl (cI, 5, .inl cD))] (some (.int ((m_X7_tears kF cDays cLin cH cK cD l).1))) [(aLL, .inr (7, [.ref aRE, .ref aRT, .ref aWE, .ref aKE, .ref aRD, .ref aTE, .ref aSR, .int lFault])), (aKE, .inr (0, [.ref aKeF, .ref aKeT])), (aKeF, .inl (cI, 10, .inl ((m_X7_tears kF cDays cLin cH cK cD l).2))), (aRE, .inr (2, [.ref aReS, .ref aReH, .ref aReK, .ref aReO, .ref aReD, .int cDays, .int cLin])), (aReH, .inl (cI, 6, .inl cH)), (aReK, .inl (cI, 5, .inl cK)), (aReD, .inl (cI, 5, .inl cD))] := by
  refine g_entry (by decide) rfl rfl rfl rfl (Nat.le_of_ble_eq_true rfl) (lv := [(0, .ref aLL), (1, .int l)]) rfl ?_
  intro X hC hX
  obtain ⟨res, hres⟩ : ∃ z, z = (m_X7_tears kF cDays cLin cH cK cD l) := ⟨_, rfl⟩
  rw [← hres] at hX
  rw [m_X7_tears] at hres
  refine g_aload_n hC dX7_tears_0 rfl 0 rfl rfl ?_
  refine g_get hC iw_X7_tears_RX7 0 rfl rfl 0 (by decide) (List.mem_of_getElem? (i := 1) rfl) rfl rfl dX7_tears_1 rfl ?_
  refine g_iload_n hC dX7_tears_4 rfl 1 rfl rfl ?_
  refine g_callV (ws' := [(aLL, .inr (7, [.ref aRE, .ref aRT, .ref aWE, .ref aKE, .ref aRD, .ref aTE, .ref aSR, .int lFault])), (aKE, .inr (0, [.ref aKeF, .ref aKeT])), (aKeF, .inl (cI, 10, .inl kF)), (aRE, .inr (2, [.ref aReS, .ref aReH, .ref aReK, .ref aReO, .ref aReD, .int cDays, .int cLin])), (aReH, .inl (cI, 6, .inl cH)), (aReK, .inl (cI, 5, .inl cK)), (aReD, .inl (cI, 5, .inl cD))]) (st' := [.int (m_X2_hasLinen cLin l)]) (nw := 7) (n1 := 1) hC gX7_tears_X2_hasLinen hdV_yX2_hasLinen 3 rfl rfl (As := [.int l]) (rest := []) (c_X2_hasLinen D cI aRE aReS aReH aReK aReO aReD cDays cLin l) rfl ⟨by decide, by decide⟩ rfl [3] [0, 1, 2, 4, 5, 6] [0, 1, 2, 6, 3, 4, 5] [0] rfl rfl rfl rfl (by decide) rfl rfl (Nat.le_of_ble_eq_true rfl) dX7_tears_5 rfl rfl ?_
  refine g_if_eq (tgt := 26) hC dX7_tears_8 (by decide) rfl (fun c_8 => ?_) (fun c_8 => ?_)
  · rw [if_pos c_8] at hres
    refine g_iconst (v := -1) hC dX7_tears_26 (by decide) rfl ?_
    subst hres
    exact g_iret hC hX rfl dX7_tears_27 rfl rfl
  · rw [if_neg c_8] at hres
    refine g_aload_n hC dX7_tears_11 rfl 0 rfl rfl ?_
    refine g_get hC iw_X7_tears_RX7 0 rfl rfl 3 (by decide) (List.mem_of_getElem? (i := 2) rfl) rfl rfl dX7_tears_12 rfl ?_
    refine g_aload_n hC dX7_tears_15 rfl 0 rfl rfl ?_
    refine g_get hC iw_X7_tears_RX7 0 rfl rfl 0 (by decide) (List.mem_of_getElem? (i := 1) rfl) rfl rfl dX7_tears_16 rfl ?_
    refine g_iload_n hC dX7_tears_19 rfl 1 rfl rfl ?_
    refine g_callV (ws' := [(aLL, .inr (7, [.ref aRE, .ref aRT, .ref aWE, .ref aKE, .ref aRD, .ref aTE, .ref aSR, .int lFault])), (aKE, .inr (0, [.ref aKeF, .ref aKeT])), (aKeF, .inl (cI, 10, .inl ((m_X0_fewestActs kF cDays cH cK cD l).2))), (aRE, .inr (2, [.ref aReS, .ref aReH, .ref aReK, .ref aReO, .ref aReD, .int cDays, .int cLin])), (aReH, .inl (cI, 6, .inl cH)), (aReK, .inl (cI, 5, .inl cK)), (aReD, .inl (cI, 5, .inl cD))]) (st' := [.int ((m_X0_fewestActs kF cDays cH cK cD l).1)]) (nw := 7) (n1 := 6) hC gX7_tears_X0_fewestActs hdV_yX0_fewestActs 1 rfl rfl (As := [.ref aRE, .int l]) (rest := []) (c_X0_fewestActs D cI aKE aKeF aKeT kF aRE aReS aReH aReK aReO aReD cDays cLin cH cK cD l) rfl ⟨by decide, by decide⟩ rfl [1, 2, 3, 4, 5, 6] [0] [0, 1, 2, 3, 4, 5, 6] [0] rfl rfl rfl rfl (by decide) rfl rfl (Nat.le_of_ble_eq_true rfl) dX7_tears_20 rfl rfl ?_
    refine g_goto (tgt := 27) hC dX7_tears_23 (by decide) ?_
    subst hres
    exact g_iret hC hX rfl dX7_tears_27 rfl rfl
theorem iw_X7_keep_RX7 : ∀ w ∈ wsX70, w ∈ wsX7_keep := fun _ h => List.mem_cons_of_mem _ (List.mem_append_left _ (List.mem_append_left _ (List.mem_append_right _ (h))))
def m_X7_keep (kF : Nat → Int32) (kT : Nat → Int32) (cDays : Int32) (cLin : Int32) (cS : Nat → Int32) (cH : Nat → Int32) (cK : Nat → Int32) (cO_ : Nat → Int32) (cD : Nat → Int32) : (Int32 × (Nat → Int32) × (Nat → Int32)) := (if (m_X2_stands cLin) = 0 then ((-3 : Int32), kF, kT) else ((m_X0_largestSet kF kT cDays cLin cS cH cK cO_ cD).1, (m_X0_largestSet kF kT cDays cLin cS cH cK cO_ cD).2.1, (m_X0_largestSet kF kT cDays cLin cS cH cK cO_ cD).2.2))
set_option maxRecDepth 100000 in
set_option maxHeartbeats 4000000 in
theorem c_X7_keep (D : va_G) (cI : ClassId) (aLL : Nat) (aRE : Nat) (aRT : Nat) (aWE : Nat) (aKE : Nat) (aRD : Nat) (aTE : Nat) (aSR : Nat) (lFault : Int32) (aKeF : Nat) (aKeT : Nat) (kF : Nat → Int32) (kT : Nat → Int32) (aReS : Nat) (aReH : Nat) (aReK : Nat) (aReO : Nat) (aReD : Nat) (cDays : Int32) (cLin : Int32) (cS : Nat → Int32) (cH : Nat → Int32) (cK : Nat → Int32) (cO_ : Nat → Int32) (cD : Nat → Int32) : MC yX7_keep wsX7_keep ({ frames := 4, cells := 0, slots := 0, locals := 92 } : Room) D [(cI, .int)] [.ref aLL] [(aLL, .inr (7, [.ref aRE, .ref aRT, .ref aWE, .ref aKE, .ref aRD, .ref aTE, .ref aSR, .int lFault])), (aKE, .inr (0, [.ref aKeF, .ref aKeT])), (aKeF, .inl (cI, 10, .inl kF)), (aKeT, .inl (cI, 5, .inl kT)), (aRE, .inr (2, [.ref aReS, .ref aReH, .ref aReK, .ref aReO, .ref aReD, .int cDays, .int cLin])), (aReS, .inl (cI, 4, .inl cS)), (aReH, .inl (cI, 6, .inl cH)), (aReK, .inl (cI, 5, .inl cK)), (aReO, .inl (cI, 5, .inl cO_)), (aReD, .inl (cI, 5, .inl cD))] (some (.int ((m_X7_keep kF kT cDays cLin cS cH cK cO_ cD).1))) [(aLL, .inr (7, [.ref aRE, .ref aRT, .ref aWE, .ref aKE, .ref aRD, .ref aTE, .ref aSR, .int lFault])), (aKE, .inr (0, [.ref aKeF, .ref aKeT])), (aKeF, .inl (cI, 10, .inl ((m_X7_keep kF kT cDays cLin cS cH cK cO_ cD).2.1))), (aKeT, .inl (cI, 5, .inl ((m_X7_keep kF kT cDays cLin cS cH cK cO_ cD).2.2))), (aRE, .inr (2, [.ref aReS, .ref aReH, .ref aReK, .ref aReO, .ref aReD, .int cDays, .int cLin])), (aReS, .inl (cI, 4, .inl cS)), (aReH, .inl (cI, 6, .inl cH)), (aReK, .inl (cI, 5, .inl cK)), (aReO, .inl (cI, 5, .inl cO_)), (aReD, .inl (cI, 5, .inl cD))] := by
  refine g_entry (by decide) rfl rfl rfl rfl (Nat.le_of_ble_eq_true rfl) (lv := [(0, .ref aLL)]) rfl ?_
  intro X hC hX
  obtain ⟨res, hres⟩ : ∃ z, z = (m_X7_keep kF kT cDays cLin cS cH cK cO_ cD) := ⟨_, rfl⟩
  rw [← hres] at hX
  rw [m_X7_keep] at hres
  refine g_aload_n hC dX7_keep_0 rfl 0 rfl rfl ?_
  refine g_get hC iw_X7_keep_RX7 0 rfl rfl 0 (by decide) (List.mem_of_getElem? (i := 1) rfl) rfl rfl dX7_keep_1 rfl ?_
  refine g_callV (ws' := [(aLL, .inr (7, [.ref aRE, .ref aRT, .ref aWE, .ref aKE, .ref aRD, .ref aTE, .ref aSR, .int lFault])), (aKE, .inr (0, [.ref aKeF, .ref aKeT])), (aKeF, .inl (cI, 10, .inl kF)), (aKeT, .inl (cI, 5, .inl kT)), (aRE, .inr (2, [.ref aReS, .ref aReH, .ref aReK, .ref aReO, .ref aReD, .int cDays, .int cLin])), (aReS, .inl (cI, 4, .inl cS)), (aReH, .inl (cI, 6, .inl cH)), (aReK, .inl (cI, 5, .inl cK)), (aReO, .inl (cI, 5, .inl cO_)), (aReD, .inl (cI, 5, .inl cD))]) (st' := [.int (m_X2_stands cLin)]) (nw := 10) (n1 := 1) hC gX7_keep_X2_stands hdV_yX2_stands 4 rfl rfl (As := []) (rest := []) (c_X2_stands D cI aRE aReS aReH aReK aReO aReD cDays cLin) rfl ⟨by decide, by decide⟩ rfl [4] [0, 1, 2, 3, 5, 6, 7, 8, 9] [0, 1, 2, 3, 9, 4, 5, 6, 7, 8] [0] rfl rfl rfl rfl (by decide) rfl rfl (Nat.le_of_ble_eq_true rfl) dX7_keep_4 rfl rfl ?_
  refine g_if_eq (tgt := 24) hC dX7_keep_7 (by decide) rfl (fun c_7 => ?_) (fun c_7 => ?_)
  · rw [if_pos c_7] at hres
    refine g_bipush (v := -3) hC dX7_keep_24 (by decide) rfl ?_
    subst hres
    exact g_iret hC hX rfl dX7_keep_26 rfl rfl
  · rw [if_neg c_7] at hres
    refine g_aload_n hC dX7_keep_10 rfl 0 rfl rfl ?_
    refine g_get hC iw_X7_keep_RX7 0 rfl rfl 3 (by decide) (List.mem_of_getElem? (i := 2) rfl) rfl rfl dX7_keep_11 rfl ?_
    refine g_aload_n hC dX7_keep_14 rfl 0 rfl rfl ?_
    refine g_get hC iw_X7_keep_RX7 0 rfl rfl 0 (by decide) (List.mem_of_getElem? (i := 1) rfl) rfl rfl dX7_keep_15 rfl ?_
    refine g_callV (ws' := [(aLL, .inr (7, [.ref aRE, .ref aRT, .ref aWE, .ref aKE, .ref aRD, .ref aTE, .ref aSR, .int lFault])), (aKE, .inr (0, [.ref aKeF, .ref aKeT])), (aKeF, .inl (cI, 10, .inl ((m_X0_largestSet kF kT cDays cLin cS cH cK cO_ cD).2.1))), (aKeT, .inl (cI, 5, .inl ((m_X0_largestSet kF kT cDays cLin cS cH cK cO_ cD).2.2))), (aRE, .inr (2, [.ref aReS, .ref aReH, .ref aReK, .ref aReO, .ref aReD, .int cDays, .int cLin])), (aReS, .inl (cI, 4, .inl cS)), (aReH, .inl (cI, 6, .inl cH)), (aReK, .inl (cI, 5, .inl cK)), (aReO, .inl (cI, 5, .inl cO_)), (aReD, .inl (cI, 5, .inl cD))]) (st' := [.int ((m_X0_largestSet kF kT cDays cLin cS cH cK cO_ cD).1)]) (nw := 10) (n1 := 9) hC gX7_keep_X0_largestSet hdV_yX0_largestSet 1 rfl rfl (As := [.ref aRE]) (rest := []) (c_X0_largestSet D cI aKE aKeF aKeT kF kT aRE aReS aReH aReK aReO aReD cDays cLin cS cH cK cO_ cD) rfl ⟨by decide, by decide⟩ rfl [1, 2, 3, 4, 5, 6, 7, 8, 9] [0] [0, 1, 2, 3, 4, 5, 6, 7, 8, 9] [0] rfl rfl rfl rfl (by decide) rfl rfl (Nat.le_of_ble_eq_true rfl) dX7_keep_18 rfl rfl ?_
    refine g_goto (tgt := 26) hC dX7_keep_21 (by decide) ?_
    subst hres
    exact g_iret hC hX rfl dX7_keep_26 rfl rfl
theorem iw_X7_appoint_RX7 : ∀ w ∈ wsX70, w ∈ wsX7_appoint := fun _ h => List.mem_cons_of_mem _ (List.mem_append_left _ (List.mem_append_left _ (List.mem_append_right _ (h))))
def m_X7_appoint (kF : Nat → Int32) (kT : Nat → Int32) (cDays : Int32) (cLin : Int32) (cS : Nat → Int32) (cH : Nat → Int32) (cK : Nat → Int32) (cO_ : Nat → Int32) (cD : Nat → Int32) (l : Int32) : (Int32 × (Nat → Int32) × (Nat → Int32) × (Nat → Int32)) := (if (m_X2_hasLinen cLin l) = 0 then ((-1 : Int32), kF, kT, cO_) else ((m_X0_bestOffice kF kT cDays cLin cS cH cK cO_ cD l).1, (m_X0_bestOffice kF kT cDays cLin cS cH cK cO_ cD l).2.1, (m_X0_bestOffice kF kT cDays cLin cS cH cK cO_ cD l).2.2.1, (m_X0_bestOffice kF kT cDays cLin cS cH cK cO_ cD l).2.2.2))
set_option maxRecDepth 100000 in
set_option maxHeartbeats 4000000 in
theorem c_X7_appoint (D : va_G) (cI : ClassId) (aLL : Nat) (aRE : Nat) (aRT : Nat) (aWE : Nat) (aKE : Nat) (aRD : Nat) (aTE : Nat) (aSR : Nat) (lFault : Int32) (aKeF : Nat) (aKeT : Nat) (kF : Nat → Int32) (kT : Nat → Int32) (aReS : Nat) (aReH : Nat) (aReK : Nat) (aReO : Nat) (aReD : Nat) (cDays : Int32) (cLin : Int32) (cS : Nat → Int32) (cH : Nat → Int32) (cK : Nat → Int32) (cO_ : Nat → Int32) (cD : Nat → Int32) (l : Int32) : MC yX7_appoint wsX7_appoint ({ frames := 5, cells := 0, slots := 0, locals := 119 } : Room) D [(cI, .int)] [.ref aLL, .int l] [(aLL, .inr (7, [.ref aRE, .ref aRT, .ref aWE, .ref aKE, .ref aRD, .ref aTE, .ref aSR, .int lFault])), (aKE, .inr (0, [.ref aKeF, .ref aKeT])), (aKeF, .inl (cI, 10, .inl kF)), (aKeT, .inl (cI, 5, .inl kT)), (aRE, .inr (2, [.ref aReS, .ref aReH, .ref aReK, .ref aReO, .ref aReD, .int cDays, .int cLin])), (aReS, .inl (cI, 4, .inl cS)), (aReH, .inl (cI, 6, .inl cH)), (aReK, .inl (cI, 5, .inl cK)), (aReO, .inl (cI, 5, .inl cO_)), (aReD, .inl (cI, 5, .inl cD))] (some (.int ((m_X7_appoint kF kT cDays cLin cS cH cK cO_ cD l).1))) [(aLL, .inr (7, [.ref aRE, .ref aRT, .ref aWE, .ref aKE, .ref aRD, .ref aTE, .ref aSR, .int lFault])), (aKE, .inr (0, [.ref aKeF, .ref aKeT])), (aKeF, .inl (cI, 10, .inl ((m_X7_appoint kF kT cDays cLin cS cH cK cO_ cD l).2.1))), (aKeT, .inl (cI, 5, .inl ((m_X7_appoint kF kT cDays cLin cS cH cK cO_ cD l).2.2.1))), (aRE, .inr (2, [.ref aReS, .ref aReH, .ref aReK, .ref aReO, .ref aReD, .int cDays, .int cLin])), (aReS, .inl (cI, 4, .inl cS)), (aReH, .inl (cI, 6, .inl cH)), (aReK, .inl (cI, 5, .inl cK)), (aReO, .inl (cI, 5, .inl ((m_X7_appoint kF kT cDays cLin cS cH cK cO_ cD l).2.2.2))), (aReD, .inl (cI, 5, .inl cD))] := by
  refine g_entry (by decide) rfl rfl rfl rfl (Nat.le_of_ble_eq_true rfl) (lv := [(0, .ref aLL), (1, .int l)]) rfl ?_
  intro X hC hX
  obtain ⟨res, hres⟩ : ∃ z, z = (m_X7_appoint kF kT cDays cLin cS cH cK cO_ cD l) := ⟨_, rfl⟩
  rw [← hres] at hX
  rw [m_X7_appoint] at hres
  refine g_aload_n hC dX7_appoint_0 rfl 0 rfl rfl ?_
  refine g_get hC iw_X7_appoint_RX7 0 rfl rfl 0 (by decide) (List.mem_of_getElem? (i := 1) rfl) rfl rfl dX7_appoint_1 rfl ?_
  refine g_iload_n hC dX7_appoint_4 rfl 1 rfl rfl ?_
  refine g_callV (ws' := [(aLL, .inr (7, [.ref aRE, .ref aRT, .ref aWE, .ref aKE, .ref aRD, .ref aTE, .ref aSR, .int lFault])), (aKE, .inr (0, [.ref aKeF, .ref aKeT])), (aKeF, .inl (cI, 10, .inl kF)), (aKeT, .inl (cI, 5, .inl kT)), (aRE, .inr (2, [.ref aReS, .ref aReH, .ref aReK, .ref aReO, .ref aReD, .int cDays, .int cLin])), (aReS, .inl (cI, 4, .inl cS)), (aReH, .inl (cI, 6, .inl cH)), (aReK, .inl (cI, 5, .inl cK)), (aReO, .inl (cI, 5, .inl cO_)), (aReD, .inl (cI, 5, .inl cD))]) (st' := [.int (m_X2_hasLinen cLin l)]) (nw := 10) (n1 := 1) hC gX7_appoint_X2_hasLinen hdV_yX2_hasLinen 4 rfl rfl (As := [.int l]) (rest := []) (c_X2_hasLinen D cI aRE aReS aReH aReK aReO aReD cDays cLin l) rfl ⟨by decide, by decide⟩ rfl [4] [0, 1, 2, 3, 5, 6, 7, 8, 9] [0, 1, 2, 3, 9, 4, 5, 6, 7, 8] [0] rfl rfl rfl rfl (by decide) rfl rfl (Nat.le_of_ble_eq_true rfl) dX7_appoint_5 rfl rfl ?_
  refine g_if_eq (tgt := 26) hC dX7_appoint_8 (by decide) rfl (fun c_8 => ?_) (fun c_8 => ?_)
  · rw [if_pos c_8] at hres
    refine g_iconst (v := -1) hC dX7_appoint_26 (by decide) rfl ?_
    subst hres
    exact g_iret hC hX rfl dX7_appoint_27 rfl rfl
  · rw [if_neg c_8] at hres
    refine g_aload_n hC dX7_appoint_11 rfl 0 rfl rfl ?_
    refine g_get hC iw_X7_appoint_RX7 0 rfl rfl 3 (by decide) (List.mem_of_getElem? (i := 2) rfl) rfl rfl dX7_appoint_12 rfl ?_
    refine g_aload_n hC dX7_appoint_15 rfl 0 rfl rfl ?_
    refine g_get hC iw_X7_appoint_RX7 0 rfl rfl 0 (by decide) (List.mem_of_getElem? (i := 1) rfl) rfl rfl dX7_appoint_16 rfl ?_
    refine g_iload_n hC dX7_appoint_19 rfl 1 rfl rfl ?_
    refine g_callV (ws' := [(aLL, .inr (7, [.ref aRE, .ref aRT, .ref aWE, .ref aKE, .ref aRD, .ref aTE, .ref aSR, .int lFault])), (aKE, .inr (0, [.ref aKeF, .ref aKeT])), (aKeF, .inl (cI, 10, .inl ((m_X0_bestOffice kF kT cDays cLin cS cH cK cO_ cD l).2.1))), (aKeT, .inl (cI, 5, .inl ((m_X0_bestOffice kF kT cDays cLin cS cH cK cO_ cD l).2.2.1))), (aRE, .inr (2, [.ref aReS, .ref aReH, .ref aReK, .ref aReO, .ref aReD, .int cDays, .int cLin])), (aReS, .inl (cI, 4, .inl cS)), (aReH, .inl (cI, 6, .inl cH)), (aReK, .inl (cI, 5, .inl cK)), (aReO, .inl (cI, 5, .inl ((m_X0_bestOffice kF kT cDays cLin cS cH cK cO_ cD l).2.2.2))), (aReD, .inl (cI, 5, .inl cD))]) (st' := [.int ((m_X0_bestOffice kF kT cDays cLin cS cH cK cO_ cD l).1)]) (nw := 10) (n1 := 9) hC gX7_appoint_X0_bestOffice hdV_yX0_bestOffice 1 rfl rfl (As := [.ref aRE, .int l]) (rest := []) (c_X0_bestOffice D cI aKE aKeF aKeT kF kT aRE aReS aReH aReK aReO aReD cDays cLin cS cH cK cO_ cD l) rfl ⟨by decide, by decide⟩ rfl [1, 2, 3, 4, 5, 6, 7, 8, 9] [0] [0, 1, 2, 3, 4, 5, 6, 7, 8, 9] [0] rfl rfl rfl rfl (by decide) rfl rfl (Nat.le_of_ble_eq_true rfl) dX7_appoint_20 rfl rfl ?_
    refine g_goto (tgt := 27) hC dX7_appoint_23 (by decide) ?_
    subst hres
    exact g_iret hC hX rfl dX7_appoint_27 rfl rfl
theorem iw_X7_span_RX7 : ∀ w ∈ wsX70, w ∈ wsX7_span := fun _ h => List.mem_cons_of_mem _ (List.mem_append_left _ (List.mem_append_right _ (h)))
def m_X7_span (cDays : Int32) (cLin : Int32) (cH : Nat → Int32) (cK : Nat → Int32) (cD : Nat → Int32) (l : Int32) (d : Int32) : (Int32 × (Nat → Int32)) := (if (m_X2_hasLinen cLin l) = 0 then ((-1 : Int32), cH) else (if (m_X2_hasDay cDays d) = 0 then ((-1 : Int32), cH) else ((m_X2_mostHeat cDays cH cK cD l d).1, (m_X2_mostHeat cDays cH cK cD l d).2)))
set_option maxRecDepth 100000 in
set_option maxHeartbeats 4000000 in
theorem c_X7_span (D : va_G) (cI : ClassId) (aLL : Nat) (aRE : Nat) (aRT : Nat) (aWE : Nat) (aKE : Nat) (aRD : Nat) (aTE : Nat) (aSR : Nat) (lFault : Int32) (aReS : Nat) (aReH : Nat) (aReK : Nat) (aReO : Nat) (aReD : Nat) (cDays : Int32) (cLin : Int32) (cH : Nat → Int32) (cK : Nat → Int32) (cD : Nat → Int32) (l : Int32) (d : Int32) : MC yX7_span wsX7_span ({ frames := 4, cells := 0, slots := 0, locals := 96 } : Room) D [(cI, .int)] [.ref aLL, .int l, .int d] [(aLL, .inr (7, [.ref aRE, .ref aRT, .ref aWE, .ref aKE, .ref aRD, .ref aTE, .ref aSR, .int lFault])), (aRE, .inr (2, [.ref aReS, .ref aReH, .ref aReK, .ref aReO, .ref aReD, .int cDays, .int cLin])), (aReH, .inl (cI, 6, .inl cH)), (aReK, .inl (cI, 5, .inl cK)), (aReD, .inl (cI, 5, .inl cD))] (some (.int ((m_X7_span cDays cLin cH cK cD l d).1))) [(aLL, .inr (7, [.ref aRE, .ref aRT, .ref aWE, .ref aKE, .ref aRD, .ref aTE, .ref aSR, .int lFault])), (aRE, .inr (2, [.ref aReS, .ref aReH, .ref aReK, .ref aReO, .ref aReD, .int cDays, .int cLin])), (aReH, .inl (cI, 6, .inl ((m_X7_span cDays cLin cH cK cD l d).2))), (aReK, .inl (cI, 5, .inl cK)), (aReD, .inl (cI, 5, .inl cD))] := by
  refine g_entry (by decide) rfl rfl rfl rfl (Nat.le_of_ble_eq_true rfl) (lv := [(0, .ref aLL), (1, .int l), (2, .int d)]) rfl ?_
  intro X hC hX
  obtain ⟨res, hres⟩ : ∃ z, z = (m_X7_span cDays cLin cH cK cD l d) := ⟨_, rfl⟩
  rw [← hres] at hX
  rw [m_X7_span] at hres
  refine g_aload_n hC dX7_span_0 rfl 0 rfl rfl ?_
  refine g_get hC iw_X7_span_RX7 0 rfl rfl 0 (by decide) (List.mem_of_getElem? (i := 1) rfl) rfl rfl dX7_span_1 rfl ?_
  refine g_iload_n hC dX7_span_4 rfl 1 rfl rfl ?_
  refine g_callV (ws' := [(aLL, .inr (7, [.ref aRE, .ref aRT, .ref aWE, .ref aKE, .ref aRD, .ref aTE, .ref aSR, .int lFault])), (aRE, .inr (2, [.ref aReS, .ref aReH, .ref aReK, .ref aReO, .ref aReD, .int cDays, .int cLin])), (aReH, .inl (cI, 6, .inl cH)), (aReK, .inl (cI, 5, .inl cK)), (aReD, .inl (cI, 5, .inl cD))]) (st' := [.int (m_X2_hasLinen cLin l)]) (nw := 5) (n1 := 1) hC gX7_span_X2_hasLinen hdV_yX2_hasLinen 1 rfl rfl (As := [.int l]) (rest := []) (c_X2_hasLinen D cI aRE aReS aReH aReK aReO aReD cDays cLin l) rfl ⟨by decide, by decide⟩ rfl [1] [0, 2, 3, 4] [0, 4, 1, 2, 3] [0] rfl rfl rfl rfl (by decide) rfl rfl (Nat.le_of_ble_eq_true rfl) dX7_span_5 rfl rfl ?_
  refine g_if_eq (tgt := 22) hC dX7_span_8 (by decide) rfl (fun c_8 => ?_) (fun c_8 => ?_)
  · rw [if_pos c_8] at hres
    refine g_iconst (v := -1) hC dX7_span_22 (by decide) rfl ?_
    subst hres
    exact g_iret hC hX rfl dX7_span_23 rfl rfl
  · rw [if_neg c_8] at hres
    refine g_aload_n hC dX7_span_11 rfl 0 rfl rfl ?_
    refine g_get hC iw_X7_span_RX7 0 rfl rfl 0 (by decide) (List.mem_of_getElem? (i := 1) rfl) rfl rfl dX7_span_12 rfl ?_
    refine g_iload_n hC dX7_span_15 rfl 2 rfl rfl ?_
    refine g_callV (ws' := [(aLL, .inr (7, [.ref aRE, .ref aRT, .ref aWE, .ref aKE, .ref aRD, .ref aTE, .ref aSR, .int lFault])), (aRE, .inr (2, [.ref aReS, .ref aReH, .ref aReK, .ref aReO, .ref aReD, .int cDays, .int cLin])), (aReH, .inl (cI, 6, .inl cH)), (aReK, .inl (cI, 5, .inl cK)), (aReD, .inl (cI, 5, .inl cD))]) (st' := [.int (m_X2_hasDay cDays d)]) (nw := 5) (n1 := 1) hC gX7_span_X2_hasDay hdV_yX2_hasDay 1 rfl rfl (As := [.int d]) (rest := []) (c_X2_hasDay D cI aRE aReS aReH aReK aReO aReD cDays cLin d) rfl ⟨by decide, by decide⟩ rfl [1] [0, 2, 3, 4] [0, 4, 1, 2, 3] [0] rfl rfl rfl rfl (by decide) rfl rfl (Nat.le_of_ble_eq_true rfl) dX7_span_16 rfl rfl ?_
    refine g_if_ne (tgt := 24) hC dX7_span_19 (by decide) rfl (fun c_19 => ?_) (fun c_19 => ?_)
    · rw [if_neg c_19] at hres
      refine g_aload_n hC dX7_span_24 rfl 0 rfl rfl ?_
      refine g_get hC iw_X7_span_RX7 0 rfl rfl 0 (by decide) (List.mem_of_getElem? (i := 1) rfl) rfl rfl dX7_span_25 rfl ?_
      refine g_iload_n hC dX7_span_28 rfl 1 rfl rfl ?_
      refine g_iload_n hC dX7_span_29 rfl 2 rfl rfl ?_
      refine g_callV (ws' := [(aLL, .inr (7, [.ref aRE, .ref aRT, .ref aWE, .ref aKE, .ref aRD, .ref aTE, .ref aSR, .int lFault])), (aRE, .inr (2, [.ref aReS, .ref aReH, .ref aReK, .ref aReO, .ref aReD, .int cDays, .int cLin])), (aReH, .inl (cI, 6, .inl ((m_X2_mostHeat cDays cH cK cD l d).2))), (aReK, .inl (cI, 5, .inl cK)), (aReD, .inl (cI, 5, .inl cD))]) (st' := [.int ((m_X2_mostHeat cDays cH cK cD l d).1)]) (nw := 5) (n1 := 4) hC gX7_span_X2_mostHeat hdV_yX2_mostHeat 1 rfl rfl (As := [.int l, .int d]) (rest := []) (c_X2_mostHeat D cI aRE aReS aReH aReK aReO aReD cDays cLin cH cK cD l d) rfl ⟨by decide, by decide⟩ rfl [1, 2, 3, 4] [0] [0, 1, 2, 3, 4] [0] rfl rfl rfl rfl (by decide) rfl rfl (Nat.le_of_ble_eq_true rfl) dX7_span_30 rfl rfl ?_
      subst hres
      exact g_iret hC hX rfl dX7_span_33 rfl rfl
    · rw [if_pos c_19] at hres
      refine g_iconst (v := -1) hC dX7_span_22 (by decide) rfl ?_
      subst hres
      exact g_iret hC hX rfl dX7_span_23 rfl rfl
theorem iw_X7_reading_RX1 : ∀ w ∈ wsX10, w ∈ wsX7_reading := fun _ h => List.mem_cons_of_mem _ (List.mem_append_left _ (List.mem_append_right _ (h)))
theorem iw_X7_reading_RX7 : ∀ w ∈ wsX70, w ∈ wsX7_reading := fun _ h => List.mem_cons_of_mem _ (List.mem_append_left _ (List.mem_append_left _ (List.mem_append_right _ (h))))
def m_X7_reading (cDays : Int32) (cLin : Int32) (rCnt : Int32) (rL : Nat → Int32) (rE : Nat → Int32) (rD : Nat → Int32) (l : Int32) (t : Int32) (v : Int32) : (Int32 × Int32 × (Nat → Int32) × (Nat → Int32) × (Nat → Int32)) := (if (m_X2_hasLinen cLin l) = 0 then ((-1 : Int32), rCnt, rL, rE, rD) else (if (m_X2_hasEvenings cDays t) = 0 then ((-2 : Int32), rCnt, rL, rE, rD) else (if (m_X7_isBelow v (10 : Int32)) = 0 then ((-2 : Int32), rCnt, rL, rE, rD) else (if (8 : Int32) ≤ rCnt then ((-4 : Int32), rCnt, rL, rE, rD) else ((m_X1_append rCnt rL rE rD l t v).1, (m_X1_append rCnt rL rE rD l t v).2.1, (m_X1_append rCnt rL rE rD l t v).2.2.1, (m_X1_append rCnt rL rE rD l t v).2.2.2.1, (m_X1_append rCnt rL rE rD l t v).2.2.2.2)))))
set_option maxRecDepth 100000 in
set_option maxHeartbeats 4000000 in
theorem c_X7_reading (D : va_G) (cI : ClassId) (aLL : Nat) (aRE : Nat) (aRT : Nat) (aWE : Nat) (aKE : Nat) (aRD : Nat) (aTE : Nat) (aSR : Nat) (lFault : Int32) (aReS : Nat) (aReH : Nat) (aReK : Nat) (aReO : Nat) (aReD : Nat) (cDays : Int32) (cLin : Int32) (aRdL : Nat) (aRdE : Nat) (aRdD : Nat) (rCnt : Int32) (rL : Nat → Int32) (rE : Nat → Int32) (rD : Nat → Int32) (l : Int32) (t : Int32) (v : Int32) : MC yX7_reading wsX7_reading ({ frames := 2, cells := 0, slots := 0, locals := 45 } : Room) D [(cI, .int)] [.ref aLL, .int l, .int t, .int v] [(aLL, .inr (7, [.ref aRE, .ref aRT, .ref aWE, .ref aKE, .ref aRD, .ref aTE, .ref aSR, .int lFault])), (aRE, .inr (2, [.ref aReS, .ref aReH, .ref aReK, .ref aReO, .ref aReD, .int cDays, .int cLin])), (aRD, .inr (1, [.ref aRdL, .ref aRdE, .ref aRdD, .int rCnt])), (aRdL, .inl (cI, 8, .inl rL)), (aRdE, .inl (cI, 8, .inl rE)), (aRdD, .inl (cI, 8, .inl rD))] (some (.int ((m_X7_reading cDays cLin rCnt rL rE rD l t v).1))) [(aLL, .inr (7, [.ref aRE, .ref aRT, .ref aWE, .ref aKE, .ref aRD, .ref aTE, .ref aSR, .int lFault])), (aRE, .inr (2, [.ref aReS, .ref aReH, .ref aReK, .ref aReO, .ref aReD, .int cDays, .int cLin])), (aRD, .inr (1, [.ref aRdL, .ref aRdE, .ref aRdD, .int ((m_X7_reading cDays cLin rCnt rL rE rD l t v).2.1)])), (aRdL, .inl (cI, 8, .inl ((m_X7_reading cDays cLin rCnt rL rE rD l t v).2.2.1))), (aRdE, .inl (cI, 8, .inl ((m_X7_reading cDays cLin rCnt rL rE rD l t v).2.2.2.1))), (aRdD, .inl (cI, 8, .inl ((m_X7_reading cDays cLin rCnt rL rE rD l t v).2.2.2.2)))] := by
  refine g_entry (by decide) rfl rfl rfl rfl (Nat.le_of_ble_eq_true rfl) (lv := [(0, .ref aLL), (1, .int l), (2, .int t), (3, .int v)]) rfl ?_
  intro X hC hX
  obtain ⟨res, hres⟩ : ∃ z, z = (m_X7_reading cDays cLin rCnt rL rE rD l t v) := ⟨_, rfl⟩
  rw [← hres] at hX
  rw [m_X7_reading] at hres
  refine g_aload_n hC dX7_reading_0 rfl 0 rfl rfl ?_
  refine g_get hC iw_X7_reading_RX7 0 rfl rfl 0 (by decide) (List.mem_of_getElem? (i := 1) rfl) rfl rfl dX7_reading_1 rfl ?_
  refine g_iload_n hC dX7_reading_4 rfl 1 rfl rfl ?_
  refine g_callV (ws' := [(aLL, .inr (7, [.ref aRE, .ref aRT, .ref aWE, .ref aKE, .ref aRD, .ref aTE, .ref aSR, .int lFault])), (aRE, .inr (2, [.ref aReS, .ref aReH, .ref aReK, .ref aReO, .ref aReD, .int cDays, .int cLin])), (aRD, .inr (1, [.ref aRdL, .ref aRdE, .ref aRdD, .int rCnt])), (aRdL, .inl (cI, 8, .inl rL)), (aRdE, .inl (cI, 8, .inl rE)), (aRdD, .inl (cI, 8, .inl rD))]) (st' := [.int (m_X2_hasLinen cLin l)]) (nw := 6) (n1 := 1) hC gX7_reading_X2_hasLinen hdV_yX2_hasLinen 1 rfl rfl (As := [.int l]) (rest := []) (c_X2_hasLinen D cI aRE aReS aReH aReK aReO aReD cDays cLin l) rfl ⟨by decide, by decide⟩ rfl [1] [0, 2, 3, 4, 5] [0, 5, 1, 2, 3, 4] [0] rfl rfl rfl rfl (by decide) rfl rfl (Nat.le_of_ble_eq_true rfl) dX7_reading_5 rfl rfl ?_
  refine g_if_ne (tgt := 13) hC dX7_reading_8 (by decide) rfl (fun c_8 => ?_) (fun c_8 => ?_)
  · rw [if_neg c_8] at hres
    refine g_aload_n hC dX7_reading_13 rfl 0 rfl rfl ?_
    refine g_get hC iw_X7_reading_RX7 0 rfl rfl 0 (by decide) (List.mem_of_getElem? (i := 1) rfl) rfl rfl dX7_reading_14 rfl ?_
    refine g_iload_n hC dX7_reading_17 rfl 2 rfl rfl ?_
    refine g_callV (ws' := [(aLL, .inr (7, [.ref aRE, .ref aRT, .ref aWE, .ref aKE, .ref aRD, .ref aTE, .ref aSR, .int lFault])), (aRE, .inr (2, [.ref aReS, .ref aReH, .ref aReK, .ref aReO, .ref aReD, .int cDays, .int cLin])), (aRD, .inr (1, [.ref aRdL, .ref aRdE, .ref aRdD, .int rCnt])), (aRdL, .inl (cI, 8, .inl rL)), (aRdE, .inl (cI, 8, .inl rE)), (aRdD, .inl (cI, 8, .inl rD))]) (st' := [.int (m_X2_hasEvenings cDays t)]) (nw := 6) (n1 := 1) hC gX7_reading_X2_hasEvenings hdV_yX2_hasEvenings 1 rfl rfl (As := [.int t]) (rest := []) (c_X2_hasEvenings D cI aRE aReS aReH aReK aReO aReD cDays cLin t) rfl ⟨by decide, by decide⟩ rfl [1] [0, 2, 3, 4, 5] [0, 5, 1, 2, 3, 4] [0] rfl rfl rfl rfl (by decide) rfl rfl (Nat.le_of_ble_eq_true rfl) dX7_reading_18 rfl rfl ?_
    refine g_if_eq (tgt := 33) hC dX7_reading_21 (by decide) rfl (fun c_21 => ?_) (fun c_21 => ?_)
    · rw [if_pos c_21] at hres
      refine g_bipush (v := -2) hC dX7_reading_33 (by decide) rfl ?_
      subst hres
      exact g_iret hC hX rfl dX7_reading_35 rfl rfl
    · rw [if_neg c_21] at hres
      refine g_iload_n hC dX7_reading_24 rfl 3 rfl rfl ?_
      refine g_bipush (v := 10) hC dX7_reading_25 (by decide) rfl ?_
      refine g_callS (ws' := [(aLL, .inr (7, [.ref aRE, .ref aRT, .ref aWE, .ref aKE, .ref aRD, .ref aTE, .ref aSR, .int lFault])), (aRE, .inr (2, [.ref aReS, .ref aReH, .ref aReK, .ref aReO, .ref aReD, .int cDays, .int cLin])), (aRD, .inr (1, [.ref aRdL, .ref aRdE, .ref aRdD, .int rCnt])), (aRdL, .inl (cI, 8, .inl rL)), (aRdE, .inl (cI, 8, .inl rE)), (aRdD, .inl (cI, 8, .inl rD))]) (st' := [.int (m_X7_isBelow v (10 : Int32))]) (nw := 6) (n1 := 0) hC gX7_reading_X7_isBelow hdS_yX7_isBelow (As := [.int v, .int (10 : Int32)]) (rest := []) (c_X7_isBelow D cI v (10 : Int32)) rfl ⟨by decide, by decide⟩ rfl [] [0, 1, 2, 3, 4, 5] [0, 1, 2, 3, 4, 5] [0] rfl rfl rfl rfl (by decide) rfl rfl (Nat.le_of_ble_eq_true rfl) dX7_reading_27 rfl rfl ?_
      refine g_if_ne (tgt := 36) hC dX7_reading_30 (by decide) rfl (fun c_30 => ?_) (fun c_30 => ?_)
      · rw [if_neg c_30] at hres
        refine g_aload_n hC dX7_reading_36 rfl 0 rfl rfl ?_
        refine g_get hC iw_X7_reading_RX7 0 rfl rfl 4 (by decide) (List.mem_of_getElem? (i := 2) rfl) rfl rfl dX7_reading_37 rfl ?_
        refine g_get hC iw_X7_reading_RX1 2 rfl rfl 3 (by decide) (List.mem_of_getElem? (i := 3) rfl) rfl rfl dX7_reading_40 rfl ?_
        refine g_bipush (v := 8) hC dX7_reading_43 (by decide) rfl ?_
        refine g_icmp_ge (tgt := 61) hC dX7_reading_45 (by decide) rfl (fun c_45 => ?_) (fun c_45 => ?_)
        · rw [if_pos c_45] at hres
          refine g_bipush (v := -4) hC dX7_reading_61 (by decide) rfl ?_
          subst hres
          exact g_iret hC hX rfl dX7_reading_63 rfl rfl
        · rw [if_neg c_45] at hres
          refine g_aload_n hC dX7_reading_48 rfl 0 rfl rfl ?_
          refine g_get hC iw_X7_reading_RX7 0 rfl rfl 4 (by decide) (List.mem_of_getElem? (i := 2) rfl) rfl rfl dX7_reading_49 rfl ?_
          refine g_iload_n hC dX7_reading_52 rfl 1 rfl rfl ?_
          refine g_iload_n hC dX7_reading_53 rfl 2 rfl rfl ?_
          refine g_iload_n hC dX7_reading_54 rfl 3 rfl rfl ?_
          refine g_callV (ws' := [(aLL, .inr (7, [.ref aRE, .ref aRT, .ref aWE, .ref aKE, .ref aRD, .ref aTE, .ref aSR, .int lFault])), (aRE, .inr (2, [.ref aReS, .ref aReH, .ref aReK, .ref aReO, .ref aReD, .int cDays, .int cLin])), (aRD, .inr (1, [.ref aRdL, .ref aRdE, .ref aRdD, .int ((m_X1_append rCnt rL rE rD l t v).2.1)])), (aRdL, .inl (cI, 8, .inl ((m_X1_append rCnt rL rE rD l t v).2.2.1))), (aRdE, .inl (cI, 8, .inl ((m_X1_append rCnt rL rE rD l t v).2.2.2.1))), (aRdD, .inl (cI, 8, .inl ((m_X1_append rCnt rL rE rD l t v).2.2.2.2)))]) (st' := [.int ((m_X1_append rCnt rL rE rD l t v).1)]) (nw := 6) (n1 := 4) hC gX7_reading_X1_append hdV_yX1_append 2 rfl rfl (As := [.int l, .int t, .int v]) (rest := []) (c_X1_append D cI aRD aRdL aRdE aRdD rCnt rL rE rD l t v) rfl ⟨by decide, by decide⟩ rfl [2, 3, 4, 5] [0, 1] [0, 1, 2, 3, 4, 5] [0] rfl rfl rfl rfl (by decide) rfl rfl (Nat.le_of_ble_eq_true rfl) dX7_reading_55 rfl rfl ?_
          refine g_goto (tgt := 63) hC dX7_reading_58 (by decide) ?_
          subst hres
          exact g_iret hC hX rfl dX7_reading_63 rfl rfl
      · rw [if_pos c_30] at hres
        refine g_bipush (v := -2) hC dX7_reading_33 (by decide) rfl ?_
        subst hres
        exact g_iret hC hX rfl dX7_reading_35 rfl rfl
  · rw [if_pos c_8] at hres
    refine g_iconst (v := -1) hC dX7_reading_11 (by decide) rfl ?_
    subst hres
    exact g_iret hC hX rfl dX7_reading_12 rfl rfl
theorem iw_X7_back_RX1 : ∀ w ∈ wsX10, w ∈ wsX7_back := fun _ h => List.mem_cons_of_mem _ (List.mem_append_right _ (h))
theorem iw_X7_back_RX7 : ∀ w ∈ wsX70, w ∈ wsX7_back := fun _ h => List.mem_cons_of_mem _ (List.mem_append_left _ (List.mem_append_right _ (h)))
def m_X7_back (rCnt : Int32) (k : Int32) : (Int32 × Int32) := (if k < 0 then ((-2 : Int32), rCnt) else (if k ≤ rCnt then ((rCnt - k), (rCnt - k)) else ((-2 : Int32), rCnt)))
set_option maxRecDepth 100000 in
set_option maxHeartbeats 4000000 in
theorem c_X7_back (D : va_G) (cI : ClassId) (aLL : Nat) (aRE : Nat) (aRT : Nat) (aWE : Nat) (aKE : Nat) (aRD : Nat) (aTE : Nat) (aSR : Nat) (lFault : Int32) (aRdL : Nat) (aRdE : Nat) (aRdD : Nat) (rCnt : Int32) (k : Int32) : MC yX7_back wsX7_back ({ frames := 0, cells := 0, slots := 0, locals := 0 } : Room) D [(cI, .int)] [.ref aLL, .int k] [(aLL, .inr (7, [.ref aRE, .ref aRT, .ref aWE, .ref aKE, .ref aRD, .ref aTE, .ref aSR, .int lFault])), (aRD, .inr (1, [.ref aRdL, .ref aRdE, .ref aRdD, .int rCnt]))] (some (.int ((m_X7_back rCnt k).1))) [(aLL, .inr (7, [.ref aRE, .ref aRT, .ref aWE, .ref aKE, .ref aRD, .ref aTE, .ref aSR, .int lFault])), (aRD, .inr (1, [.ref aRdL, .ref aRdE, .ref aRdD, .int ((m_X7_back rCnt k).2)]))] := by
  refine g_entry (by decide) rfl rfl rfl rfl (Nat.le_of_ble_eq_true rfl) (lv := [(0, .ref aLL), (1, .int k)]) rfl ?_
  intro X hC hX
  obtain ⟨res, hres⟩ : ∃ z, z = (m_X7_back rCnt k) := ⟨_, rfl⟩
  rw [← hres] at hX
  rw [m_X7_back] at hres
  refine g_iload_n hC dX7_back_0 rfl 1 rfl rfl ?_
  refine g_if_lt (tgt := 15) hC dX7_back_1 (by decide) rfl (fun c_1 => ?_) (fun c_1 => ?_)
  · rw [if_pos c_1] at hres
    refine g_bipush (v := -2) hC dX7_back_15 (by decide) rfl ?_
    subst hres
    exact g_iret hC hX rfl dX7_back_17 rfl rfl
  · rw [if_neg c_1] at hres
    refine g_iload_n hC dX7_back_4 rfl 1 rfl rfl ?_
    refine g_aload_n hC dX7_back_5 rfl 0 rfl rfl ?_
    refine g_get hC iw_X7_back_RX7 0 rfl rfl 4 (by decide) (List.mem_of_getElem? (i := 1) rfl) rfl rfl dX7_back_6 rfl ?_
    refine g_get hC iw_X7_back_RX1 1 rfl rfl 3 (by decide) (List.mem_of_getElem? (i := 2) rfl) rfl rfl dX7_back_9 rfl ?_
    refine g_icmp_le (tgt := 18) hC dX7_back_12 (by decide) rfl (fun c_12 => ?_) (fun c_12 => ?_)
    · rw [if_pos c_12] at hres
      refine g_aload_n hC dX7_back_18 rfl 0 rfl rfl ?_
      refine g_get hC iw_X7_back_RX7 0 rfl rfl 4 (by decide) (List.mem_of_getElem? (i := 1) rfl) rfl rfl dX7_back_19 rfl ?_
      refine g_dup hC dX7_back_22 rfl rfl ?_
      refine g_get hC iw_X7_back_RX1 1 rfl rfl 3 (by decide) (List.mem_of_getElem? (i := 2) rfl) rfl rfl dX7_back_23 rfl ?_
      refine g_iload_n hC dX7_back_26 rfl 1 rfl rfl ?_
      refine g_isub hC dX7_back_27 rfl ?_
      refine g_put (ws' := [(aLL, .inr (7, [.ref aRE, .ref aRT, .ref aWE, .ref aKE, .ref aRD, .ref aTE, .ref aSR, .int lFault])), (aRD, .inr (1, [.ref aRdL, .ref aRdE, .ref aRdD, .int (rCnt - k)]))]) hC iw_X7_back_RX1 1 rfl rfl 3 (by decide) (List.mem_of_getElem? (i := 2) rfl) rfl tyX1 tyX1_ok nmX1 rfl rfl rfl (Nat.le_of_ble_eq_true rfl) rfl dX7_back_28 rfl ?_
      refine g_aload_n hC dX7_back_31 rfl 0 rfl rfl ?_
      refine g_get hC iw_X7_back_RX7 0 rfl rfl 4 (by decide) (List.mem_of_getElem? (i := 1) rfl) rfl rfl dX7_back_32 rfl ?_
      refine g_get hC iw_X7_back_RX1 1 rfl rfl 3 (by decide) (List.mem_of_getElem? (i := 2) rfl) rfl rfl dX7_back_35 rfl ?_
      subst hres
      exact g_iret hC hX rfl dX7_back_38 rfl rfl
    · rw [if_neg c_12] at hres
      refine g_bipush (v := -2) hC dX7_back_15 (by decide) rfl ?_
      subst hres
      exact g_iret hC hX rfl dX7_back_17 rfl rfl
theorem iw_X7_damps_RX2 : ∀ w ∈ wsX20, w ∈ wsX7_damps := fun _ h => List.mem_cons_of_mem _ (List.mem_append_left _ (List.mem_append_right _ (h)))
theorem iw_X7_damps_RX7 : ∀ w ∈ wsX70, w ∈ wsX7_damps := fun _ h => List.mem_cons_of_mem _ (List.mem_append_left _ (List.mem_append_left _ (List.mem_append_right _ (h))))
def m_X7_damps (rCnt : Int32) (rL : Nat → Int32) (rE : Nat → Int32) (rD : Nat → Int32) (cDays : Int32) (cLin : Int32) (cH : Nat → Int32) (cK : Nat → Int32) (cD : Nat → Int32) (l : Int32) : (Int32 × (Nat → Int32)) := (if (m_X2_hasLinen cLin l) = 0 then ((-1 : Int32), cD) else ((m_X1_fitting_D rCnt rL rE rD cDays cH cK cD l (10 : Int32)).1, (m_X1_fitting_D rCnt rL rE rD cDays cH cK cD l (10 : Int32)).2))
set_option maxRecDepth 100000 in
set_option maxHeartbeats 4000000 in
theorem c_X7_damps (D : va_G) (cI : ClassId) (aLL : Nat) (aRE : Nat) (aRT : Nat) (aWE : Nat) (aKE : Nat) (aRD : Nat) (aTE : Nat) (aSR : Nat) (lFault : Int32) (aRdL : Nat) (aRdE : Nat) (aRdD : Nat) (rCnt : Int32) (rL : Nat → Int32) (rE : Nat → Int32) (rD : Nat → Int32) (aReS : Nat) (aReH : Nat) (aReK : Nat) (aReO : Nat) (aReD : Nat) (cDays : Int32) (cLin : Int32) (cH : Nat → Int32) (cK : Nat → Int32) (cD : Nat → Int32) (l : Int32) : MC yX7_damps wsX7_damps ({ frames := 5, cells := 0, slots := 0, locals := 120 } : Room) D [(cI, .int)] [.ref aLL, .int l] [(aLL, .inr (7, [.ref aRE, .ref aRT, .ref aWE, .ref aKE, .ref aRD, .ref aTE, .ref aSR, .int lFault])), (aRD, .inr (1, [.ref aRdL, .ref aRdE, .ref aRdD, .int rCnt])), (aRdL, .inl (cI, 8, .inl rL)), (aRdE, .inl (cI, 8, .inl rE)), (aRdD, .inl (cI, 8, .inl rD)), (aRE, .inr (2, [.ref aReS, .ref aReH, .ref aReK, .ref aReO, .ref aReD, .int cDays, .int cLin])), (aReH, .inl (cI, 6, .inl cH)), (aReK, .inl (cI, 5, .inl cK)), (aReD, .inl (cI, 5, .inl cD))] (some (.int ((m_X7_damps rCnt rL rE rD cDays cLin cH cK cD l).1))) [(aLL, .inr (7, [.ref aRE, .ref aRT, .ref aWE, .ref aKE, .ref aRD, .ref aTE, .ref aSR, .int lFault])), (aRD, .inr (1, [.ref aRdL, .ref aRdE, .ref aRdD, .int rCnt])), (aRdL, .inl (cI, 8, .inl rL)), (aRdE, .inl (cI, 8, .inl rE)), (aRdD, .inl (cI, 8, .inl rD)), (aRE, .inr (2, [.ref aReS, .ref aReH, .ref aReK, .ref aReO, .ref aReD, .int cDays, .int cLin])), (aReH, .inl (cI, 6, .inl cH)), (aReK, .inl (cI, 5, .inl cK)), (aReD, .inl (cI, 5, .inl ((m_X7_damps rCnt rL rE rD cDays cLin cH cK cD l).2)))] := by
  refine g_entry (by decide) rfl rfl rfl rfl (Nat.le_of_ble_eq_true rfl) (lv := [(0, .ref aLL), (1, .int l)]) rfl ?_
  intro X hC hX
  obtain ⟨res, hres⟩ : ∃ z, z = (m_X7_damps rCnt rL rE rD cDays cLin cH cK cD l) := ⟨_, rfl⟩
  rw [← hres] at hX
  rw [m_X7_damps] at hres
  refine g_aload_n hC dX7_damps_0 rfl 0 rfl rfl ?_
  refine g_get hC iw_X7_damps_RX7 0 rfl rfl 0 (by decide) (List.mem_of_getElem? (i := 1) rfl) rfl rfl dX7_damps_1 rfl ?_
  refine g_iload_n hC dX7_damps_4 rfl 1 rfl rfl ?_
  refine g_callV (ws' := [(aLL, .inr (7, [.ref aRE, .ref aRT, .ref aWE, .ref aKE, .ref aRD, .ref aTE, .ref aSR, .int lFault])), (aRD, .inr (1, [.ref aRdL, .ref aRdE, .ref aRdD, .int rCnt])), (aRdL, .inl (cI, 8, .inl rL)), (aRdE, .inl (cI, 8, .inl rE)), (aRdD, .inl (cI, 8, .inl rD)), (aRE, .inr (2, [.ref aReS, .ref aReH, .ref aReK, .ref aReO, .ref aReD, .int cDays, .int cLin])), (aReH, .inl (cI, 6, .inl cH)), (aReK, .inl (cI, 5, .inl cK)), (aReD, .inl (cI, 5, .inl cD))]) (st' := [.int (m_X2_hasLinen cLin l)]) (nw := 9) (n1 := 1) hC gX7_damps_X2_hasLinen hdV_yX2_hasLinen 5 rfl rfl (As := [.int l]) (rest := []) (c_X2_hasLinen D cI aRE aReS aReH aReK aReO aReD cDays cLin l) rfl ⟨by decide, by decide⟩ rfl [5] [0, 1, 2, 3, 4, 6, 7, 8] [0, 1, 2, 3, 4, 8, 5, 6, 7] [0] rfl rfl rfl rfl (by decide) rfl rfl (Nat.le_of_ble_eq_true rfl) dX7_damps_5 rfl rfl ?_
  refine g_if_eq (tgt := 35) hC dX7_damps_8 (by decide) rfl (fun c_8 => ?_) (fun c_8 => ?_)
  · rw [if_pos c_8] at hres
    refine g_iconst (v := -1) hC dX7_damps_35 (by decide) rfl ?_
    subst hres
    exact g_iret hC hX rfl dX7_damps_36 rfl rfl
  · rw [if_neg c_8] at hres
    refine g_aload_n hC dX7_damps_11 rfl 0 rfl rfl ?_
    refine g_get hC iw_X7_damps_RX7 0 rfl rfl 4 (by decide) (List.mem_of_getElem? (i := 2) rfl) rfl rfl dX7_damps_12 rfl ?_
    refine g_aload_n hC dX7_damps_15 rfl 0 rfl rfl ?_
    refine g_get hC iw_X7_damps_RX7 0 rfl rfl 0 (by decide) (List.mem_of_getElem? (i := 1) rfl) rfl rfl dX7_damps_16 rfl ?_
    refine g_aload_n hC dX7_damps_19 rfl 0 rfl rfl ?_
    refine g_get hC iw_X7_damps_RX7 0 rfl rfl 0 (by decide) (List.mem_of_getElem? (i := 1) rfl) rfl rfl dX7_damps_20 rfl ?_
    refine g_get hC iw_X7_damps_RX2 5 rfl rfl 4 (by decide) (List.mem_of_getElem? (i := 3) rfl) rfl rfl dX7_damps_23 rfl ?_
    refine g_iload_n hC dX7_damps_26 rfl 1 rfl rfl ?_
    refine g_bipush (v := 10) hC dX7_damps_27 (by decide) rfl ?_
    refine g_callV (ws' := [(aLL, .inr (7, [.ref aRE, .ref aRT, .ref aWE, .ref aKE, .ref aRD, .ref aTE, .ref aSR, .int lFault])), (aRD, .inr (1, [.ref aRdL, .ref aRdE, .ref aRdD, .int rCnt])), (aRdL, .inl (cI, 8, .inl rL)), (aRdE, .inl (cI, 8, .inl rE)), (aRdD, .inl (cI, 8, .inl rD)), (aRE, .inr (2, [.ref aReS, .ref aReH, .ref aReK, .ref aReO, .ref aReD, .int cDays, .int cLin])), (aReH, .inl (cI, 6, .inl cH)), (aReK, .inl (cI, 5, .inl cK)), (aReD, .inl (cI, 5, .inl ((m_X1_fitting_D rCnt rL rE rD cDays cH cK cD l (10 : Int32)).2)))]) (st' := [.int ((m_X1_fitting_D rCnt rL rE rD cDays cH cK cD l (10 : Int32)).1)]) (nw := 9) (n1 := 8) hC gX7_damps_X1_fitting hdV_yX1_fitting 1 rfl rfl (As := [.ref aRE, .ref aReD, .int l, .int (10 : Int32)]) (rest := []) (c_X1_fitting_D D cI aRD aRdL aRdE aRdD rCnt rL rE rD aRE aReS aReH aReK aReO aReD cDays cLin cH cK cD l (10 : Int32)) rfl ⟨by decide, by decide⟩ rfl [1, 2, 3, 4, 5, 6, 7, 8] [0] [0, 1, 2, 3, 4, 5, 6, 7, 8] [0] rfl rfl rfl rfl (by decide) rfl rfl (Nat.le_of_ble_eq_true rfl) dX7_damps_29 rfl rfl ?_
    refine g_goto (tgt := 36) hC dX7_damps_32 (by decide) ?_
    subst hres
    exact g_iret hC hX rfl dX7_damps_36 rfl rfl
theorem iw_X7_kinds_RX2 : ∀ w ∈ wsX20, w ∈ wsX7_kinds := fun _ h => List.mem_cons_of_mem _ (List.mem_append_left _ (List.mem_append_right _ (h)))
theorem iw_X7_kinds_RX7 : ∀ w ∈ wsX70, w ∈ wsX7_kinds := fun _ h => List.mem_cons_of_mem _ (List.mem_append_left _ (List.mem_append_left _ (List.mem_append_right _ (h))))
def m_X7_kinds (rCnt : Int32) (rL : Nat → Int32) (rE : Nat → Int32) (rD : Nat → Int32) (cDays : Int32) (cLin : Int32) (cH : Nat → Int32) (cK : Nat → Int32) (cD : Nat → Int32) (l : Int32) : (Int32 × (Nat → Int32)) := (if (m_X2_hasLinen cLin l) = 0 then ((-1 : Int32), cK) else ((m_X1_fitting_K rCnt rL rE rD cDays cH cK cD l (3 : Int32)).1, (m_X1_fitting_K rCnt rL rE rD cDays cH cK cD l (3 : Int32)).2))
set_option maxRecDepth 100000 in
set_option maxHeartbeats 4000000 in
theorem c_X7_kinds (D : va_G) (cI : ClassId) (aLL : Nat) (aRE : Nat) (aRT : Nat) (aWE : Nat) (aKE : Nat) (aRD : Nat) (aTE : Nat) (aSR : Nat) (lFault : Int32) (aRdL : Nat) (aRdE : Nat) (aRdD : Nat) (rCnt : Int32) (rL : Nat → Int32) (rE : Nat → Int32) (rD : Nat → Int32) (aReS : Nat) (aReH : Nat) (aReK : Nat) (aReO : Nat) (aReD : Nat) (cDays : Int32) (cLin : Int32) (cH : Nat → Int32) (cK : Nat → Int32) (cD : Nat → Int32) (l : Int32) : MC yX7_kinds wsX7_kinds ({ frames := 5, cells := 0, slots := 0, locals := 120 } : Room) D [(cI, .int)] [.ref aLL, .int l] [(aLL, .inr (7, [.ref aRE, .ref aRT, .ref aWE, .ref aKE, .ref aRD, .ref aTE, .ref aSR, .int lFault])), (aRD, .inr (1, [.ref aRdL, .ref aRdE, .ref aRdD, .int rCnt])), (aRdL, .inl (cI, 8, .inl rL)), (aRdE, .inl (cI, 8, .inl rE)), (aRdD, .inl (cI, 8, .inl rD)), (aRE, .inr (2, [.ref aReS, .ref aReH, .ref aReK, .ref aReO, .ref aReD, .int cDays, .int cLin])), (aReH, .inl (cI, 6, .inl cH)), (aReK, .inl (cI, 5, .inl cK)), (aReD, .inl (cI, 5, .inl cD))] (some (.int ((m_X7_kinds rCnt rL rE rD cDays cLin cH cK cD l).1))) [(aLL, .inr (7, [.ref aRE, .ref aRT, .ref aWE, .ref aKE, .ref aRD, .ref aTE, .ref aSR, .int lFault])), (aRD, .inr (1, [.ref aRdL, .ref aRdE, .ref aRdD, .int rCnt])), (aRdL, .inl (cI, 8, .inl rL)), (aRdE, .inl (cI, 8, .inl rE)), (aRdD, .inl (cI, 8, .inl rD)), (aRE, .inr (2, [.ref aReS, .ref aReH, .ref aReK, .ref aReO, .ref aReD, .int cDays, .int cLin])), (aReH, .inl (cI, 6, .inl cH)), (aReK, .inl (cI, 5, .inl ((m_X7_kinds rCnt rL rE rD cDays cLin cH cK cD l).2))), (aReD, .inl (cI, 5, .inl cD))] := by
  refine g_entry (by decide) rfl rfl rfl rfl (Nat.le_of_ble_eq_true rfl) (lv := [(0, .ref aLL), (1, .int l)]) rfl ?_
  intro X hC hX
  obtain ⟨res, hres⟩ : ∃ z, z = (m_X7_kinds rCnt rL rE rD cDays cLin cH cK cD l) := ⟨_, rfl⟩
  rw [← hres] at hX
  rw [m_X7_kinds] at hres
  refine g_aload_n hC dX7_kinds_0 rfl 0 rfl rfl ?_
  refine g_get hC iw_X7_kinds_RX7 0 rfl rfl 0 (by decide) (List.mem_of_getElem? (i := 1) rfl) rfl rfl dX7_kinds_1 rfl ?_
  refine g_iload_n hC dX7_kinds_4 rfl 1 rfl rfl ?_
  refine g_callV (ws' := [(aLL, .inr (7, [.ref aRE, .ref aRT, .ref aWE, .ref aKE, .ref aRD, .ref aTE, .ref aSR, .int lFault])), (aRD, .inr (1, [.ref aRdL, .ref aRdE, .ref aRdD, .int rCnt])), (aRdL, .inl (cI, 8, .inl rL)), (aRdE, .inl (cI, 8, .inl rE)), (aRdD, .inl (cI, 8, .inl rD)), (aRE, .inr (2, [.ref aReS, .ref aReH, .ref aReK, .ref aReO, .ref aReD, .int cDays, .int cLin])), (aReH, .inl (cI, 6, .inl cH)), (aReK, .inl (cI, 5, .inl cK)), (aReD, .inl (cI, 5, .inl cD))]) (st' := [.int (m_X2_hasLinen cLin l)]) (nw := 9) (n1 := 1) hC gX7_kinds_X2_hasLinen hdV_yX2_hasLinen 5 rfl rfl (As := [.int l]) (rest := []) (c_X2_hasLinen D cI aRE aReS aReH aReK aReO aReD cDays cLin l) rfl ⟨by decide, by decide⟩ rfl [5] [0, 1, 2, 3, 4, 6, 7, 8] [0, 1, 2, 3, 4, 8, 5, 6, 7] [0] rfl rfl rfl rfl (by decide) rfl rfl (Nat.le_of_ble_eq_true rfl) dX7_kinds_5 rfl rfl ?_
  refine g_if_eq (tgt := 34) hC dX7_kinds_8 (by decide) rfl (fun c_8 => ?_) (fun c_8 => ?_)
  · rw [if_pos c_8] at hres
    refine g_iconst (v := -1) hC dX7_kinds_34 (by decide) rfl ?_
    subst hres
    exact g_iret hC hX rfl dX7_kinds_35 rfl rfl
  · rw [if_neg c_8] at hres
    refine g_aload_n hC dX7_kinds_11 rfl 0 rfl rfl ?_
    refine g_get hC iw_X7_kinds_RX7 0 rfl rfl 4 (by decide) (List.mem_of_getElem? (i := 2) rfl) rfl rfl dX7_kinds_12 rfl ?_
    refine g_aload_n hC dX7_kinds_15 rfl 0 rfl rfl ?_
    refine g_get hC iw_X7_kinds_RX7 0 rfl rfl 0 (by decide) (List.mem_of_getElem? (i := 1) rfl) rfl rfl dX7_kinds_16 rfl ?_
    refine g_aload_n hC dX7_kinds_19 rfl 0 rfl rfl ?_
    refine g_get hC iw_X7_kinds_RX7 0 rfl rfl 0 (by decide) (List.mem_of_getElem? (i := 1) rfl) rfl rfl dX7_kinds_20 rfl ?_
    refine g_get hC iw_X7_kinds_RX2 5 rfl rfl 2 (by decide) (List.mem_of_getElem? (i := 3) rfl) rfl rfl dX7_kinds_23 rfl ?_
    refine g_iload_n hC dX7_kinds_26 rfl 1 rfl rfl ?_
    refine g_iconst (v := 3) hC dX7_kinds_27 (by decide) rfl ?_
    refine g_callV (ws' := [(aLL, .inr (7, [.ref aRE, .ref aRT, .ref aWE, .ref aKE, .ref aRD, .ref aTE, .ref aSR, .int lFault])), (aRD, .inr (1, [.ref aRdL, .ref aRdE, .ref aRdD, .int rCnt])), (aRdL, .inl (cI, 8, .inl rL)), (aRdE, .inl (cI, 8, .inl rE)), (aRdD, .inl (cI, 8, .inl rD)), (aRE, .inr (2, [.ref aReS, .ref aReH, .ref aReK, .ref aReO, .ref aReD, .int cDays, .int cLin])), (aReH, .inl (cI, 6, .inl cH)), (aReK, .inl (cI, 5, .inl ((m_X1_fitting_K rCnt rL rE rD cDays cH cK cD l (3 : Int32)).2))), (aReD, .inl (cI, 5, .inl cD))]) (st' := [.int ((m_X1_fitting_K rCnt rL rE rD cDays cH cK cD l (3 : Int32)).1)]) (nw := 9) (n1 := 8) hC gX7_kinds_X1_fitting hdV_yX1_fitting 1 rfl rfl (As := [.ref aRE, .ref aReK, .int l, .int (3 : Int32)]) (rest := []) (c_X1_fitting_K D cI aRD aRdL aRdE aRdD rCnt rL rE rD aRE aReS aReH aReK aReO aReD cDays cLin cH cK cD l (3 : Int32)) rfl ⟨by decide, by decide⟩ rfl [1, 2, 3, 4, 5, 6, 7, 8] [0] [0, 1, 2, 3, 4, 5, 6, 7, 8] [0] rfl rfl rfl rfl (by decide) rfl rfl (Nat.le_of_ble_eq_true rfl) dX7_kinds_28 rfl rfl ?_
    refine g_goto (tgt := 35) hC dX7_kinds_31 (by decide) ?_
    subst hres
    exact g_iret hC hX rfl dX7_kinds_35 rfl rfl
theorem iw_X7_heats_RX2 : ∀ w ∈ wsX20, w ∈ wsX7_heats := fun _ h => List.mem_cons_of_mem _ (List.mem_append_left _ (List.mem_append_right _ (h)))
theorem iw_X7_heats_RX7 : ∀ w ∈ wsX70, w ∈ wsX7_heats := fun _ h => List.mem_cons_of_mem _ (List.mem_append_left _ (List.mem_append_left _ (List.mem_append_right _ (h))))
def m_X7_heats (rCnt : Int32) (rL : Nat → Int32) (rE : Nat → Int32) (rD : Nat → Int32) (cDays : Int32) (cH : Nat → Int32) (cK : Nat → Int32) (cD : Nat → Int32) (d : Int32) : (Int32 × (Nat → Int32)) := (if (m_X2_hasDay cDays d) = 0 then ((-1 : Int32), cH) else ((m_X1_fitting_H rCnt rL rE rD cDays cH cK cD d (10 : Int32)).1, (m_X1_fitting_H rCnt rL rE rD cDays cH cK cD d (10 : Int32)).2))
set_option maxRecDepth 100000 in
set_option maxHeartbeats 4000000 in
theorem c_X7_heats (D : va_G) (cI : ClassId) (aLL : Nat) (aRE : Nat) (aRT : Nat) (aWE : Nat) (aKE : Nat) (aRD : Nat) (aTE : Nat) (aSR : Nat) (lFault : Int32) (aRdL : Nat) (aRdE : Nat) (aRdD : Nat) (rCnt : Int32) (rL : Nat → Int32) (rE : Nat → Int32) (rD : Nat → Int32) (aReS : Nat) (aReH : Nat) (aReK : Nat) (aReO : Nat) (aReD : Nat) (cDays : Int32) (cLin : Int32) (cH : Nat → Int32) (cK : Nat → Int32) (cD : Nat → Int32) (d : Int32) : MC yX7_heats wsX7_heats ({ frames := 5, cells := 0, slots := 0, locals := 120 } : Room) D [(cI, .int)] [.ref aLL, .int d] [(aLL, .inr (7, [.ref aRE, .ref aRT, .ref aWE, .ref aKE, .ref aRD, .ref aTE, .ref aSR, .int lFault])), (aRD, .inr (1, [.ref aRdL, .ref aRdE, .ref aRdD, .int rCnt])), (aRdL, .inl (cI, 8, .inl rL)), (aRdE, .inl (cI, 8, .inl rE)), (aRdD, .inl (cI, 8, .inl rD)), (aRE, .inr (2, [.ref aReS, .ref aReH, .ref aReK, .ref aReO, .ref aReD, .int cDays, .int cLin])), (aReH, .inl (cI, 6, .inl cH)), (aReK, .inl (cI, 5, .inl cK)), (aReD, .inl (cI, 5, .inl cD))] (some (.int ((m_X7_heats rCnt rL rE rD cDays cH cK cD d).1))) [(aLL, .inr (7, [.ref aRE, .ref aRT, .ref aWE, .ref aKE, .ref aRD, .ref aTE, .ref aSR, .int lFault])), (aRD, .inr (1, [.ref aRdL, .ref aRdE, .ref aRdD, .int rCnt])), (aRdL, .inl (cI, 8, .inl rL)), (aRdE, .inl (cI, 8, .inl rE)), (aRdD, .inl (cI, 8, .inl rD)), (aRE, .inr (2, [.ref aReS, .ref aReH, .ref aReK, .ref aReO, .ref aReD, .int cDays, .int cLin])), (aReH, .inl (cI, 6, .inl ((m_X7_heats rCnt rL rE rD cDays cH cK cD d).2))), (aReK, .inl (cI, 5, .inl cK)), (aReD, .inl (cI, 5, .inl cD))] := by
  refine g_entry (by decide) rfl rfl rfl rfl (Nat.le_of_ble_eq_true rfl) (lv := [(0, .ref aLL), (1, .int d)]) rfl ?_
  intro X hC hX
  obtain ⟨res, hres⟩ : ∃ z, z = (m_X7_heats rCnt rL rE rD cDays cH cK cD d) := ⟨_, rfl⟩
  rw [← hres] at hX
  rw [m_X7_heats] at hres
  refine g_aload_n hC dX7_heats_0 rfl 0 rfl rfl ?_
  refine g_get hC iw_X7_heats_RX7 0 rfl rfl 0 (by decide) (List.mem_of_getElem? (i := 1) rfl) rfl rfl dX7_heats_1 rfl ?_
  refine g_iload_n hC dX7_heats_4 rfl 1 rfl rfl ?_
  refine g_callV (ws' := [(aLL, .inr (7, [.ref aRE, .ref aRT, .ref aWE, .ref aKE, .ref aRD, .ref aTE, .ref aSR, .int lFault])), (aRD, .inr (1, [.ref aRdL, .ref aRdE, .ref aRdD, .int rCnt])), (aRdL, .inl (cI, 8, .inl rL)), (aRdE, .inl (cI, 8, .inl rE)), (aRdD, .inl (cI, 8, .inl rD)), (aRE, .inr (2, [.ref aReS, .ref aReH, .ref aReK, .ref aReO, .ref aReD, .int cDays, .int cLin])), (aReH, .inl (cI, 6, .inl cH)), (aReK, .inl (cI, 5, .inl cK)), (aReD, .inl (cI, 5, .inl cD))]) (st' := [.int (m_X2_hasDay cDays d)]) (nw := 9) (n1 := 1) hC gX7_heats_X2_hasDay hdV_yX2_hasDay 5 rfl rfl (As := [.int d]) (rest := []) (c_X2_hasDay D cI aRE aReS aReH aReK aReO aReD cDays cLin d) rfl ⟨by decide, by decide⟩ rfl [5] [0, 1, 2, 3, 4, 6, 7, 8] [0, 1, 2, 3, 4, 8, 5, 6, 7] [0] rfl rfl rfl rfl (by decide) rfl rfl (Nat.le_of_ble_eq_true rfl) dX7_heats_5 rfl rfl ?_
  refine g_if_eq (tgt := 35) hC dX7_heats_8 (by decide) rfl (fun c_8 => ?_) (fun c_8 => ?_)
  · rw [if_pos c_8] at hres
    refine g_iconst (v := -1) hC dX7_heats_35 (by decide) rfl ?_
    subst hres
    exact g_iret hC hX rfl dX7_heats_36 rfl rfl
  · rw [if_neg c_8] at hres
    refine g_aload_n hC dX7_heats_11 rfl 0 rfl rfl ?_
    refine g_get hC iw_X7_heats_RX7 0 rfl rfl 4 (by decide) (List.mem_of_getElem? (i := 2) rfl) rfl rfl dX7_heats_12 rfl ?_
    refine g_aload_n hC dX7_heats_15 rfl 0 rfl rfl ?_
    refine g_get hC iw_X7_heats_RX7 0 rfl rfl 0 (by decide) (List.mem_of_getElem? (i := 1) rfl) rfl rfl dX7_heats_16 rfl ?_
    refine g_aload_n hC dX7_heats_19 rfl 0 rfl rfl ?_
    refine g_get hC iw_X7_heats_RX7 0 rfl rfl 0 (by decide) (List.mem_of_getElem? (i := 1) rfl) rfl rfl dX7_heats_20 rfl ?_
    refine g_get hC iw_X7_heats_RX2 5 rfl rfl 1 (by decide) (List.mem_of_getElem? (i := 3) rfl) rfl rfl dX7_heats_23 rfl ?_
    refine g_iload_n hC dX7_heats_26 rfl 1 rfl rfl ?_
    refine g_bipush (v := 10) hC dX7_heats_27 (by decide) rfl ?_
    refine g_callV (ws' := [(aLL, .inr (7, [.ref aRE, .ref aRT, .ref aWE, .ref aKE, .ref aRD, .ref aTE, .ref aSR, .int lFault])), (aRD, .inr (1, [.ref aRdL, .ref aRdE, .ref aRdD, .int rCnt])), (aRdL, .inl (cI, 8, .inl rL)), (aRdE, .inl (cI, 8, .inl rE)), (aRdD, .inl (cI, 8, .inl rD)), (aRE, .inr (2, [.ref aReS, .ref aReH, .ref aReK, .ref aReO, .ref aReD, .int cDays, .int cLin])), (aReH, .inl (cI, 6, .inl ((m_X1_fitting_H rCnt rL rE rD cDays cH cK cD d (10 : Int32)).2))), (aReK, .inl (cI, 5, .inl cK)), (aReD, .inl (cI, 5, .inl cD))]) (st' := [.int ((m_X1_fitting_H rCnt rL rE rD cDays cH cK cD d (10 : Int32)).1)]) (nw := 9) (n1 := 8) hC gX7_heats_X1_fitting hdV_yX1_fitting 1 rfl rfl (As := [.ref aRE, .ref aReH, .int d, .int (10 : Int32)]) (rest := []) (c_X1_fitting_H D cI aRD aRdL aRdE aRdD rCnt rL rE rD aRE aReS aReH aReK aReO aReD cDays cLin cH cK cD d (10 : Int32)) rfl ⟨by decide, by decide⟩ rfl [1, 2, 3, 4, 5, 6, 7, 8] [0] [0, 1, 2, 3, 4, 5, 6, 7, 8] [0] rfl rfl rfl rfl (by decide) rfl rfl (Nat.le_of_ble_eq_true rfl) dX7_heats_29 rfl rfl ?_
    refine g_goto (tgt := 36) hC dX7_heats_32 (by decide) ?_
    subst hres
    exact g_iret hC hX rfl dX7_heats_36 rfl rfl
theorem iw_X7_odds_RX2 : ∀ w ∈ wsX20, w ∈ wsX7_odds := fun _ h => List.mem_cons_of_mem _ (List.mem_append_right _ (h))
theorem iw_X7_odds_RX7 : ∀ w ∈ wsX70, w ∈ wsX7_odds := fun _ h => List.mem_cons_of_mem _ (List.mem_append_left _ (List.mem_append_right _ (h)))
def m_X7_odds_46 : Nat → Int32 → Int32 → Int32 → Int32 → (Int64)
  | 0, _, _, _, _ => default
  | fu + 1, which, y3, y4, y5 => (if (6 : Int32) ≤ y5 then (if which = 0 then y4.toInt64 else y3.toInt64) else (if (y4 - y4 / (2 : Int32) * (2 : Int32)) = 0 then (if (y3 - y3 / (2 : Int32) * (2 : Int32)) = 0 then (m_X7_odds_46 fu which (y3 / (2 : Int32)) (y4 / (2 : Int32)) (y5 + 1)) else (if which = 0 then y4.toInt64 else y3.toInt64)) else (if which = 0 then y4.toInt64 else y3.toInt64)))
def m_X7_odds (cDays : Int32) (cLin : Int32) (cH : Nat → Int32) (cK : Nat → Int32) (cD : Nat → Int32) (l : Int32) (which : Int32) : (Int64) := (if (m_X2_hasLinen cLin l) = 0 then (-9223372036854775808 : Int64) else (if (m_X7_isBelow which (2 : Int32)) = 0 then (-9223372036854775808 : Int64) else (m_X7_odds_46 (((6 : Int32).toInt - (0 : Int32).toInt).toNat + 1) which ((1 : Int32) <<< (cDays &&& 31)) (m_X2_waysToBeLaw cDays cH cK cD l) (0 : Int32))))
set_option maxRecDepth 100000 in
set_option maxHeartbeats 4000000 in
theorem l_X7_odds_46 {X : gX} (D : va_G) (cI : ClassId) (aLL : Nat) (aRE : Nat) (aRT : Nat) (aWE : Nat) (aKE : Nat) (aRD : Nat) (aTE : Nat) (aSR : Nat) (lFault : Int32) (aReS : Nat) (aReH : Nat) (aReK : Nat) (aReO : Nat) (aReD : Nat) (cDays : Int32) (cLin : Int32) (cH : Nat → Int32) (cK : Nat → Int32) (cD : Nat → Int32) (l : Int32) (which : Int32) (hC : Cx X cX7_odds 6 RX7 wsX7_odds D [(cI, .int)] ({ frames := 3, cells := 0, slots := 0, locals := 72 } : Room) (some .long)) {res : (Int64)} (hX : Rx X D (some (.long res)) [(aLL, .inr (7, [.ref aRE, .ref aRT, .ref aWE, .ref aKE, .ref aRD, .ref aTE, .ref aSR, .int lFault])), (aRE, .inr (2, [.ref aReS, .ref aReH, .ref aReK, .ref aReO, .ref aReD, .int cDays, .int cLin])), (aReH, .inl (cI, 6, .inl cH)), (aReK, .inl (cI, 5, .inl cK)), (aReD, .inl (cI, 5, .inl cD))]) : ∀ (fu : Nat) (y3 : Int32) (y4 : Int32) (y5 : Int32) (hm : ((6 : Int32).toInt - y5.toInt).toNat < fu) (h0_y5 : 0 ≤ y5.toInt) (hres : res = m_X7_odds_46 fu which y3 y4 y5), G X D 6 [(aLL, .inr (7, [.ref aRE, .ref aRT, .ref aWE, .ref aKE, .ref aRD, .ref aTE, .ref aSR, .int lFault])), (aRE, .inr (2, [.ref aReS, .ref aReH, .ref aReK, .ref aReO, .ref aReD, .int cDays, .int cLin])), (aReH, .inl (cI, 6, .inl cH)), (aReK, .inl (cI, 5, .inl cK)), (aReD, .inl (cI, 5, .inl cD))] [(2, .int which), (3, .int y3), (4, .int y4), (5, .int y5)] 46 [] := by
  intro fu
  induction fu with
  | zero =>
    intro y3 y4 y5 hm
    exact absurd hm (Nat.not_lt_zero _)
  | succ fu ih =>
    intro y3 y4 y5 hm h0_y5 hres
    rw [m_X7_odds_46] at hres
    refine g_iload hC dX7_odds_46 3 rfl rfl ?_
    refine g_bipush (v := 6) hC dX7_odds_48 (by decide) rfl ?_
    refine g_icmp_ge (tgt := 82) hC dX7_odds_50 (by decide) rfl (fun c_50 => ?_) (fun c_50 => ?_)
    · rw [if_pos c_50] at hres
      refine g_iload_n hC dX7_odds_82 rfl 0 rfl rfl ?_
      have K_83 : ∀ vK : Int64, vK = (if which = 0 then y4.toInt64 else y3.toInt64) → G X D 6 [(aLL, .inr (7, [.ref aRE, .ref aRT, .ref aWE, .ref aKE, .ref aRD, .ref aTE, .ref aSR, .int lFault])), (aRE, .inr (2, [.ref aReS, .ref aReH, .ref aReK, .ref aReO, .ref aReD, .int cDays, .int cLin])), (aReH, .inl (cI, 6, .inl cH)), (aReK, .inl (cI, 5, .inl cK)), (aReD, .inl (cI, 5, .inl cD))] [(2, .int which), (3, .int y3), (4, .int y4), (5, .int y5)] 94 (.long vK :: []) := by
        intro vK hvK
        subst hvK
        subst hres
        exact g_lret hC hX rfl dX7_odds_94 rfl rfl
      refine g_if_ne (tgt := 92) hC dX7_odds_83 (by decide) rfl (fun c_83 => ?_) (fun c_83 => ?_)
      · refine g_iload_n hC dX7_odds_92 rfl 1 rfl rfl ?_
        refine g_i2l hC dX7_odds_93 rfl ?_
        exact K_83 _ (if_neg c_83).symm
      · refine g_iload hC dX7_odds_86 2 rfl rfl ?_
        refine g_i2l hC dX7_odds_88 rfl ?_
        refine g_goto (tgt := 94) hC dX7_odds_89 (by decide) ?_
        exact K_83 _ (if_pos c_83).symm
    · rw [if_neg c_50] at hres
      refine g_iload hC dX7_odds_53 2 rfl rfl ?_
      refine g_iconst (v := 2) hC dX7_odds_55 (by decide) rfl ?_
      refine g_irem hC dX7_odds_56 (by decide) rfl ?_
      refine g_if_ne (tgt := 82) hC dX7_odds_57 (by decide) rfl (fun c_57 => ?_) (fun c_57 => ?_)
      · rw [if_neg c_57] at hres
        refine g_iload_n hC dX7_odds_82 rfl 0 rfl rfl ?_
        have K_83 : ∀ vK : Int64, vK = (if which = 0 then y4.toInt64 else y3.toInt64) → G X D 6 [(aLL, .inr (7, [.ref aRE, .ref aRT, .ref aWE, .ref aKE, .ref aRD, .ref aTE, .ref aSR, .int lFault])), (aRE, .inr (2, [.ref aReS, .ref aReH, .ref aReK, .ref aReO, .ref aReD, .int cDays, .int cLin])), (aReH, .inl (cI, 6, .inl cH)), (aReK, .inl (cI, 5, .inl cK)), (aReD, .inl (cI, 5, .inl cD))] [(2, .int which), (3, .int y3), (4, .int y4), (5, .int y5)] 94 (.long vK :: []) := by
          intro vK hvK
          subst hvK
          subst hres
          exact g_lret hC hX rfl dX7_odds_94 rfl rfl
        refine g_if_ne (tgt := 92) hC dX7_odds_83 (by decide) rfl (fun c_83 => ?_) (fun c_83 => ?_)
        · refine g_iload_n hC dX7_odds_92 rfl 1 rfl rfl ?_
          refine g_i2l hC dX7_odds_93 rfl ?_
          exact K_83 _ (if_neg c_83).symm
        · refine g_iload hC dX7_odds_86 2 rfl rfl ?_
          refine g_i2l hC dX7_odds_88 rfl ?_
          refine g_goto (tgt := 94) hC dX7_odds_89 (by decide) ?_
          exact K_83 _ (if_pos c_83).symm
      · rw [if_pos c_57] at hres
        refine g_iload_n hC dX7_odds_60 rfl 1 rfl rfl ?_
        refine g_iconst (v := 2) hC dX7_odds_61 (by decide) rfl ?_
        refine g_irem hC dX7_odds_62 (by decide) rfl ?_
        refine g_if_ne (tgt := 82) hC dX7_odds_63 (by decide) rfl (fun c_63 => ?_) (fun c_63 => ?_)
        · rw [if_neg c_63] at hres
          refine g_iload_n hC dX7_odds_82 rfl 0 rfl rfl ?_
          have K_83 : ∀ vK : Int64, vK = (if which = 0 then y4.toInt64 else y3.toInt64) → G X D 6 [(aLL, .inr (7, [.ref aRE, .ref aRT, .ref aWE, .ref aKE, .ref aRD, .ref aTE, .ref aSR, .int lFault])), (aRE, .inr (2, [.ref aReS, .ref aReH, .ref aReK, .ref aReO, .ref aReD, .int cDays, .int cLin])), (aReH, .inl (cI, 6, .inl cH)), (aReK, .inl (cI, 5, .inl cK)), (aReD, .inl (cI, 5, .inl cD))] [(2, .int which), (3, .int y3), (4, .int y4), (5, .int y5)] 94 (.long vK :: []) := by
            intro vK hvK
            subst hvK
            subst hres
            exact g_lret hC hX rfl dX7_odds_94 rfl rfl
          refine g_if_ne (tgt := 92) hC dX7_odds_83 (by decide) rfl (fun c_83 => ?_) (fun c_83 => ?_)
          · refine g_iload_n hC dX7_odds_92 rfl 1 rfl rfl ?_
            refine g_i2l hC dX7_odds_93 rfl ?_
            exact K_83 _ (if_neg c_83).symm
          · refine g_iload hC dX7_odds_86 2 rfl rfl ?_
            refine g_i2l hC dX7_odds_88 rfl ?_
            refine g_goto (tgt := 94) hC dX7_odds_89 (by decide) ?_
            exact K_83 _ (if_pos c_83).symm
        · rw [if_pos c_63] at hres
          refine g_iload hC dX7_odds_66 2 rfl rfl ?_
          refine g_iconst (v := 2) hC dX7_odds_68 (by decide) rfl ?_
          refine g_idiv hC dX7_odds_69 (by decide) rfl ?_
          refine g_istore (lv' := [(4, .int (y4 / (2 : Int32))), (2, .int which), (3, .int y3), (5, .int y5)]) hC dX7_odds_70 (by decide) rfl rfl ?_
          refine g_iload_n hC dX7_odds_72 rfl 2 rfl rfl ?_
          refine g_iconst (v := 2) hC dX7_odds_73 (by decide) rfl ?_
          refine g_idiv hC dX7_odds_74 (by decide) rfl ?_
          refine g_istore_n (lv' := [(3, .int (y3 / (2 : Int32))), (4, .int (y4 / (2 : Int32))), (2, .int which), (5, .int y5)]) hC dX7_odds_75 rfl (by decide) rfl rfl ?_
          refine g_iinc (v := (y5 + 1)) (lv' := [(5, .int (y5 + 1)), (3, .int (y3 / (2 : Int32))), (4, .int (y4 / (2 : Int32))), (2, .int which)]) hC dX7_odds_76 3 rfl rfl (by decide) rfl rfl ?_
          refine g_goto (tgt := 46) hC dX7_odds_79 (by decide) ?_
          refine g_sub [3, 1, 2, 0] rfl ?_
          exact ih (y3 / (2 : Int32)) (y4 / (2 : Int32)) (y5 + 1) (up_dec c_50 hm) (up_nn c_50 h0_y5) hres
set_option maxRecDepth 100000 in
set_option maxHeartbeats 4000000 in
theorem c_X7_odds (D : va_G) (cI : ClassId) (aLL : Nat) (aRE : Nat) (aRT : Nat) (aWE : Nat) (aKE : Nat) (aRD : Nat) (aTE : Nat) (aSR : Nat) (lFault : Int32) (aReS : Nat) (aReH : Nat) (aReK : Nat) (aReO : Nat) (aReD : Nat) (cDays : Int32) (cLin : Int32) (cH : Nat → Int32) (cK : Nat → Int32) (cD : Nat → Int32) (l : Int32) (which : Int32) : MC yX7_odds wsX7_odds ({ frames := 3, cells := 0, slots := 0, locals := 72 } : Room) D [(cI, .int)] [.ref aLL, .int l, .int which] [(aLL, .inr (7, [.ref aRE, .ref aRT, .ref aWE, .ref aKE, .ref aRD, .ref aTE, .ref aSR, .int lFault])), (aRE, .inr (2, [.ref aReS, .ref aReH, .ref aReK, .ref aReO, .ref aReD, .int cDays, .int cLin])), (aReH, .inl (cI, 6, .inl cH)), (aReK, .inl (cI, 5, .inl cK)), (aReD, .inl (cI, 5, .inl cD))] (some (.long (m_X7_odds cDays cLin cH cK cD l which))) [(aLL, .inr (7, [.ref aRE, .ref aRT, .ref aWE, .ref aKE, .ref aRD, .ref aTE, .ref aSR, .int lFault])), (aRE, .inr (2, [.ref aReS, .ref aReH, .ref aReK, .ref aReO, .ref aReD, .int cDays, .int cLin])), (aReH, .inl (cI, 6, .inl cH)), (aReK, .inl (cI, 5, .inl cK)), (aReD, .inl (cI, 5, .inl cD))] := by
  refine g_entry (by decide) rfl rfl rfl rfl (Nat.le_of_ble_eq_true rfl) (lv := [(0, .ref aLL), (1, .int l), (2, .int which)]) rfl ?_
  intro X hC hX
  obtain ⟨res, hres⟩ : ∃ z, z = (m_X7_odds cDays cLin cH cK cD l which) := ⟨_, rfl⟩
  rw [← hres] at hX
  rw [m_X7_odds] at hres
  refine g_aload_n hC dX7_odds_0 rfl 0 rfl rfl ?_
  refine g_get hC iw_X7_odds_RX7 0 rfl rfl 0 (by decide) (List.mem_of_getElem? (i := 1) rfl) rfl rfl dX7_odds_1 rfl ?_
  refine g_iload_n hC dX7_odds_4 rfl 1 rfl rfl ?_
  refine g_callV (ws' := [(aLL, .inr (7, [.ref aRE, .ref aRT, .ref aWE, .ref aKE, .ref aRD, .ref aTE, .ref aSR, .int lFault])), (aRE, .inr (2, [.ref aReS, .ref aReH, .ref aReK, .ref aReO, .ref aReD, .int cDays, .int cLin])), (aReH, .inl (cI, 6, .inl cH)), (aReK, .inl (cI, 5, .inl cK)), (aReD, .inl (cI, 5, .inl cD))]) (st' := [.int (m_X2_hasLinen cLin l)]) (nw := 5) (n1 := 1) hC gX7_odds_X2_hasLinen hdV_yX2_hasLinen 1 rfl rfl (As := [.int l]) (rest := []) (c_X2_hasLinen D cI aRE aReS aReH aReK aReO aReD cDays cLin l) rfl ⟨by decide, by decide⟩ rfl [1] [0, 2, 3, 4] [0, 4, 1, 2, 3] [0] rfl rfl rfl rfl (by decide) rfl rfl (Nat.le_of_ble_eq_true rfl) dX7_odds_5 rfl rfl ?_
  refine g_if_eq (tgt := 19) hC dX7_odds_8 (by decide) rfl (fun c_8 => ?_) (fun c_8 => ?_)
  · rw [if_pos c_8] at hres
    refine g_ldc2 (v := -9223372036854775808) hC (List.mem_of_getElem? (i := 2) rfl) dX7_odds_19 rfl ?_
    subst hres
    exact g_lret hC hX rfl dX7_odds_22 rfl rfl
  · rw [if_neg c_8] at hres
    refine g_iload_n hC dX7_odds_11 rfl 2 rfl rfl ?_
    refine g_iconst (v := 2) hC dX7_odds_12 (by decide) rfl ?_
    refine g_callS (ws' := [(aLL, .inr (7, [.ref aRE, .ref aRT, .ref aWE, .ref aKE, .ref aRD, .ref aTE, .ref aSR, .int lFault])), (aRE, .inr (2, [.ref aReS, .ref aReH, .ref aReK, .ref aReO, .ref aReD, .int cDays, .int cLin])), (aReH, .inl (cI, 6, .inl cH)), (aReK, .inl (cI, 5, .inl cK)), (aReD, .inl (cI, 5, .inl cD))]) (st' := [.int (m_X7_isBelow which (2 : Int32))]) (nw := 5) (n1 := 0) hC gX7_odds_X7_isBelow hdS_yX7_isBelow (As := [.int which, .int (2 : Int32)]) (rest := []) (c_X7_isBelow D cI which (2 : Int32)) rfl ⟨by decide, by decide⟩ rfl [] [0, 1, 2, 3, 4] [0, 1, 2, 3, 4] [0] rfl rfl rfl rfl (by decide) rfl rfl (Nat.le_of_ble_eq_true rfl) dX7_odds_13 rfl rfl ?_
    refine g_if_ne (tgt := 23) hC dX7_odds_16 (by decide) rfl (fun c_16 => ?_) (fun c_16 => ?_)
    · rw [if_neg c_16] at hres
      refine g_iconst (v := 1) hC dX7_odds_23 (by decide) rfl ?_
      refine g_aload_n hC dX7_odds_24 rfl 0 rfl rfl ?_
      refine g_get hC iw_X7_odds_RX7 0 rfl rfl 0 (by decide) (List.mem_of_getElem? (i := 1) rfl) rfl rfl dX7_odds_25 rfl ?_
      refine g_get hC iw_X7_odds_RX2 1 rfl rfl 5 (by decide) (List.mem_of_getElem? (i := 3) rfl) rfl rfl dX7_odds_28 rfl ?_
      refine g_ishl hC dX7_odds_31 rfl ?_
      refine g_istore_n (lv' := [(3, .int ((1 : Int32) <<< (cDays &&& 31))), (0, .ref aLL), (1, .int l), (2, .int which)]) hC dX7_odds_32 rfl (by decide) rfl rfl ?_
      refine g_aload_n hC dX7_odds_33 rfl 1 rfl rfl ?_
      refine g_get hC iw_X7_odds_RX7 0 rfl rfl 0 (by decide) (List.mem_of_getElem? (i := 1) rfl) rfl rfl dX7_odds_34 rfl ?_
      refine g_iload_n hC dX7_odds_37 rfl 2 rfl rfl ?_
      refine g_callV (ws' := [(aLL, .inr (7, [.ref aRE, .ref aRT, .ref aWE, .ref aKE, .ref aRD, .ref aTE, .ref aSR, .int lFault])), (aRE, .inr (2, [.ref aReS, .ref aReH, .ref aReK, .ref aReO, .ref aReD, .int cDays, .int cLin])), (aReH, .inl (cI, 6, .inl cH)), (aReK, .inl (cI, 5, .inl cK)), (aReD, .inl (cI, 5, .inl cD))]) (st' := [.int (m_X2_waysToBeLaw cDays cH cK cD l)]) (nw := 5) (n1 := 4) hC gX7_odds_X2_waysToBeLaw hdV_yX2_waysToBeLaw 1 rfl rfl (As := [.int l]) (rest := []) (c_X2_waysToBeLaw D cI aRE aReS aReH aReK aReO aReD cDays cLin cH cK cD l) rfl ⟨by decide, by decide⟩ rfl [1, 2, 3, 4] [0] [0, 1, 2, 3, 4] [0] rfl rfl rfl rfl (by decide) rfl rfl (Nat.le_of_ble_eq_true rfl) dX7_odds_38 rfl rfl ?_
      refine g_istore (lv' := [(4, .int (m_X2_waysToBeLaw cDays cH cK cD l)), (3, .int ((1 : Int32) <<< (cDays &&& 31))), (0, .ref aLL), (1, .int l), (2, .int which)]) hC dX7_odds_41 (by decide) rfl rfl ?_
      refine g_iconst (v := 0) hC dX7_odds_43 (by decide) rfl ?_
      refine g_istore (lv' := [(5, .int (0 : Int32)), (4, .int (m_X2_waysToBeLaw cDays cH cK cD l)), (3, .int ((1 : Int32) <<< (cDays &&& 31))), (0, .ref aLL), (1, .int l), (2, .int which)]) hC dX7_odds_44 (by decide) rfl rfl ?_
      refine g_sub [5, 2, 1, 0] rfl ?_
      exact l_X7_odds_46 D cI aLL aRE aRT aWE aKE aRD aTE aSR lFault aReS aReH aReK aReO aReD cDays cLin cH cK cD l which  hC hX (((6 : Int32).toInt - (0 : Int32).toInt).toNat + 1) ((1 : Int32) <<< (cDays &&& 31)) (m_X2_waysToBeLaw cDays cH cK cD l) (0 : Int32) (Nat.lt_succ_self _) (by decide) hres
    · rw [if_pos c_16] at hres
      refine g_ldc2 (v := -9223372036854775808) hC (List.mem_of_getElem? (i := 2) rfl) dX7_odds_19 rfl ?_
      subst hres
      exact g_lret hC hX rfl dX7_odds_22 rfl rfl
theorem iw_X7_sheet_RX7 : ∀ w ∈ wsX70, w ∈ wsX7_sheet := fun _ h => List.mem_cons_of_mem _ (List.mem_append_left _ (List.mem_append_right _ (h)))
def m_X7_sheet_in (sHas : Int32) (sLane : Int32) (sLen : Int32) (sA : Nat → Int32) (lane : Int32) (n : Int32) : (Int32 × Int32 × Int32 × Int32 × Int32 × (Nat → Int32)) := (if (m_X7_isBelow lane (3 : Int32)) = 0 then ((-2 : Int32), (0 : Int32), sHas, sLane, sLen, sA) else (if n ≤ (60 : Int32) then (if 0 ≤ n then ((1 : Int32), (0 : Int32), (m_X4_renew sA lane n).1, (m_X4_renew sA lane n).2.1, (m_X4_renew sA lane n).2.2.1, (m_X4_renew sA lane n).2.2.2) else ((m_X7_faulted (4 : Int32)).1, (m_X7_faulted (4 : Int32)).2, sHas, sLane, sLen, sA)) else ((-2 : Int32), (0 : Int32), sHas, sLane, sLen, sA)))
set_option maxRecDepth 100000 in
set_option maxHeartbeats 4000000 in
theorem c_X7_sheet_in (D : va_G) (cI : ClassId) (cO : ClassId) (aLL : Nat) (aRE : Nat) (aRT : Nat) (aWE : Nat) (aKE : Nat) (aRD : Nat) (aTE : Nat) (aSR : Nat) (lFault : Int32) (sRows : Nat → Option Nat) (aSh : Nat) (aShA : Nat) (sHas : Int32) (sLane : Int32) (sLen : Int32) (sA : Nat → Int32) (k : Int32) (lane : Int32) (n : Int32) (hsh : m_X7_sheetOf sRows k = some aSh) : MC yX7_sheet wsX7_sheet ({ frames := 2, cells := 0, slots := 0, locals := 45 } : Room) D [(cI, .int), (cO, .object "LinenLaw$Sheet")] [.ref aLL, .int k, .int lane, .int n] [(aLL, .inr (7, [.ref aRE, .ref aRT, .ref aWE, .ref aKE, .ref aRD, .ref aTE, .ref aSR, .int lFault])), (aSR, .inl (cO, 4, .inr (.inr (.inr (.inr sRows))))), (aSh, .inr (4, [.ref aShA, .int sHas, .int sLane, .int sLen])), (aShA, .inl (cI, 60, .inl sA))] (some (.int ((m_X7_sheet_in sHas sLane sLen sA lane n).1))) [(aLL, .inr (7, [.ref aRE, .ref aRT, .ref aWE, .ref aKE, .ref aRD, .ref aTE, .ref aSR, .int ((m_X7_sheet_in sHas sLane sLen sA lane n).2.1)])), (aSR, .inl (cO, 4, .inr (.inr (.inr (.inr sRows))))), (aSh, .inr (4, [.ref aShA, .int ((m_X7_sheet_in sHas sLane sLen sA lane n).2.2.1), .int ((m_X7_sheet_in sHas sLane sLen sA lane n).2.2.2.1), .int ((m_X7_sheet_in sHas sLane sLen sA lane n).2.2.2.2.1)])), (aShA, .inl (cI, 60, .inl ((m_X7_sheet_in sHas sLane sLen sA lane n).2.2.2.2.2)))] := by
  refine g_entry (by decide) rfl rfl rfl rfl (Nat.le_of_ble_eq_true rfl) (lv := [(0, .ref aLL), (1, .int k), (2, .int lane), (3, .int n)]) rfl ?_
  intro X hC hX
  obtain ⟨res, hres⟩ : ∃ z, z = (m_X7_sheet_in sHas sLane sLen sA lane n) := ⟨_, rfl⟩
  rw [← hres] at hX
  rw [m_X7_sheet_in] at hres
  refine g_aload_n hC dX7_sheet_0 rfl 0 rfl rfl ?_
  refine g_iconst (v := 0) hC dX7_sheet_1 (by decide) rfl ?_
  refine g_put (ws' := [(aLL, .inr (7, [.ref aRE, .ref aRT, .ref aWE, .ref aKE, .ref aRD, .ref aTE, .ref aSR, .int (0 : Int32)])), (aSR, .inl (cO, 4, .inr (.inr (.inr (.inr sRows))))), (aSh, .inr (4, [.ref aShA, .int sHas, .int sLane, .int sLen])), (aShA, .inl (cI, 60, .inl sA))]) hC iw_X7_sheet_RX7 0 rfl rfl 7 (by decide) (List.mem_of_getElem? (i := 1) rfl) rfl tyX7 tyX7_ok nmX7 rfl rfl rfl (Nat.le_of_ble_eq_true rfl) rfl dX7_sheet_2 rfl ?_
  refine g_aload_n hC dX7_sheet_5 rfl 0 rfl rfl ?_
  refine g_iload_n hC dX7_sheet_6 rfl 1 rfl rfl ?_
  refine g_callV (ws' := [(aLL, .inr (7, [.ref aRE, .ref aRT, .ref aWE, .ref aKE, .ref aRD, .ref aTE, .ref aSR, .int (0 : Int32)])), (aSR, .inl (cO, 4, .inr (.inr (.inr (.inr sRows))))), (aSh, .inr (4, [.ref aShA, .int sHas, .int sLane, .int sLen])), (aShA, .inl (cI, 60, .inl sA))]) (st' := [.ref aSh]) (nw := 4) (n1 := 2) hC gX7_sheet_X7_sheetOf hdV_yX7_sheetOf 0 rfl rfl (As := [.int k]) (rest := []) (c_X7_sheetOf D cI cO aLL aRE aRT aWE aKE aRD aTE aSR (0 : Int32) sRows k) rfl ⟨by decide, by decide⟩ rfl [0, 1] [2, 3] [2, 3, 0, 1] [0, 1] rfl rfl rfl rfl (by decide) rfl rfl (Nat.le_of_ble_eq_true rfl) dX7_sheet_7 rfl (by rw [hsh]; rfl) ?_
  refine g_astore (lv' := [(4, .ref aSh), (0, .ref aLL), (1, .int k), (2, .int lane), (3, .int n)]) hC dX7_sheet_10 (by decide) rfl rfl ?_
  refine g_aload hC dX7_sheet_12 0 rfl rfl ?_
  refine g_ifnonnull (tgt := 19) hC dX7_sheet_14 (by decide) ?_
  refine g_iload_n hC dX7_sheet_19 rfl 3 rfl rfl ?_
  refine g_iconst (v := 3) hC dX7_sheet_20 (by decide) rfl ?_
  refine g_callS (ws' := [(aLL, .inr (7, [.ref aRE, .ref aRT, .ref aWE, .ref aKE, .ref aRD, .ref aTE, .ref aSR, .int (0 : Int32)])), (aSR, .inl (cO, 4, .inr (.inr (.inr (.inr sRows))))), (aSh, .inr (4, [.ref aShA, .int sHas, .int sLane, .int sLen])), (aShA, .inl (cI, 60, .inl sA))]) (st' := [.int (m_X7_isBelow lane (3 : Int32))]) (nw := 4) (n1 := 0) hC gX7_sheet_X7_isBelow hdS_yX7_isBelow (As := [.int lane, .int (3 : Int32)]) (rest := []) (c_X7_isBelow D cI lane (3 : Int32)) rfl ⟨by decide, by decide⟩ rfl [] [0, 1, 2, 3] [0, 1, 2, 3] [0] rfl rfl rfl rfl (by decide) rfl rfl (Nat.le_of_ble_eq_true rfl) dX7_sheet_21 rfl rfl ?_
  refine g_if_eq (tgt := 33) hC dX7_sheet_24 (by decide) rfl (fun c_24 => ?_) (fun c_24 => ?_)
  · rw [if_pos c_24] at hres
    refine g_bipush (v := -2) hC dX7_sheet_33 (by decide) rfl ?_
    subst hres
    exact g_iret hC hX rfl dX7_sheet_35 rfl rfl
  · rw [if_neg c_24] at hres
    refine g_iload_n hC dX7_sheet_27 rfl 4 rfl rfl ?_
    refine g_bipush (v := 60) hC dX7_sheet_28 (by decide) rfl ?_
    refine g_icmp_le (tgt := 36) hC dX7_sheet_30 (by decide) rfl (fun c_30 => ?_) (fun c_30 => ?_)
    · rw [if_pos c_30] at hres
      refine g_iload_n hC dX7_sheet_36 rfl 4 rfl rfl ?_
      refine g_if_ge (tgt := 46) hC dX7_sheet_37 (by decide) rfl (fun c_37 => ?_) (fun c_37 => ?_)
      · rw [if_pos c_37] at hres
        refine g_aload hC dX7_sheet_46 0 rfl rfl ?_
        refine g_iload_n hC dX7_sheet_48 rfl 3 rfl rfl ?_
        refine g_iload_n hC dX7_sheet_49 rfl 4 rfl rfl ?_
        refine g_callV (ws' := [(aLL, .inr (7, [.ref aRE, .ref aRT, .ref aWE, .ref aKE, .ref aRD, .ref aTE, .ref aSR, .int (0 : Int32)])), (aSR, .inl (cO, 4, .inr (.inr (.inr (.inr sRows))))), (aSh, .inr (4, [.ref aShA, .int ((m_X4_renew sA lane n).1), .int ((m_X4_renew sA lane n).2.1), .int ((m_X4_renew sA lane n).2.2.1)])), (aShA, .inl (cI, 60, .inl ((m_X4_renew sA lane n).2.2.2)))]) (st' := []) (nw := 4) (n1 := 2) hC gX7_sheet_X4_renew hdV_yX4_renew 2 rfl rfl (As := [.int lane, .int n]) (rest := []) (c_X4_renew D cI aSh aShA sHas sLane sLen sA lane n) rfl ⟨by decide, by decide⟩ rfl [2, 3] [0, 1] [0, 1, 2, 3] [0] rfl rfl rfl rfl (by decide) rfl rfl (Nat.le_of_ble_eq_true rfl) dX7_sheet_50 rfl rfl ?_
        refine g_iconst (v := 1) hC dX7_sheet_53 (by decide) rfl ?_
        subst hres
        exact g_iret hC hX rfl dX7_sheet_54 rfl rfl
      · rw [if_neg c_37] at hres
        refine g_aload_n hC dX7_sheet_40 rfl 1 rfl rfl ?_
        refine g_iconst (v := 4) hC dX7_sheet_41 (by decide) rfl ?_
        refine g_callV (ws' := [(aLL, .inr (7, [.ref aRE, .ref aRT, .ref aWE, .ref aKE, .ref aRD, .ref aTE, .ref aSR, .int ((m_X7_faulted (4 : Int32)).2)])), (aSR, .inl (cO, 4, .inr (.inr (.inr (.inr sRows))))), (aSh, .inr (4, [.ref aShA, .int sHas, .int sLane, .int sLen])), (aShA, .inl (cI, 60, .inl sA))]) (st' := [.int ((m_X7_faulted (4 : Int32)).1)]) (nw := 4) (n1 := 1) hC gX7_sheet_X7_faulted hdV_yX7_faulted 0 rfl rfl (As := [.int (4 : Int32)]) (rest := []) (c_X7_faulted D cI aLL aRE aRT aWE aKE aRD aTE aSR (0 : Int32) (4 : Int32)) rfl ⟨by decide, by decide⟩ rfl [0] [1, 2, 3] [3, 0, 1, 2] [0] rfl rfl rfl rfl (by decide) rfl rfl (Nat.le_of_ble_eq_true rfl) dX7_sheet_42 rfl rfl ?_
        subst hres
        exact g_iret hC hX rfl dX7_sheet_45 rfl rfl
    · rw [if_neg c_30] at hres
      refine g_bipush (v := -2) hC dX7_sheet_33 (by decide) rfl ?_
      subst hres
      exact g_iret hC hX rfl dX7_sheet_35 rfl rfl
def m_X7_sheet_out : (Int32 × Int32) := ((-1 : Int32), (0 : Int32))
set_option maxRecDepth 100000 in
set_option maxHeartbeats 4000000 in
theorem c_X7_sheet_out (D : va_G) (cI : ClassId) (cO : ClassId) (aLL : Nat) (aRE : Nat) (aRT : Nat) (aWE : Nat) (aKE : Nat) (aRD : Nat) (aTE : Nat) (aSR : Nat) (lFault : Int32) (sRows : Nat → Option Nat) (k : Int32) (lane : Int32) (n : Int32) (hsh : m_X7_sheetOf sRows k = none) : MC yX7_sheet wsX7_sheet ({ frames := 1, cells := 0, slots := 0, locals := 21 } : Room) D [(cI, .int), (cO, .object "LinenLaw$Sheet")] [.ref aLL, .int k, .int lane, .int n] [(aLL, .inr (7, [.ref aRE, .ref aRT, .ref aWE, .ref aKE, .ref aRD, .ref aTE, .ref aSR, .int lFault])), (aSR, .inl (cO, 4, .inr (.inr (.inr (.inr sRows)))))] (some (.int m_X7_sheet_out.1)) [(aLL, .inr (7, [.ref aRE, .ref aRT, .ref aWE, .ref aKE, .ref aRD, .ref aTE, .ref aSR, .int m_X7_sheet_out.2])), (aSR, .inl (cO, 4, .inr (.inr (.inr (.inr sRows)))))] := by
  refine g_entry (by decide) rfl rfl rfl rfl (Nat.le_of_ble_eq_true rfl) (lv := [(0, .ref aLL), (1, .int k), (2, .int lane), (3, .int n)]) rfl ?_
  intro X hC hX
  obtain ⟨res, hres⟩ : ∃ z, z = m_X7_sheet_out := ⟨_, rfl⟩
  rw [← hres] at hX
  rw [m_X7_sheet_out] at hres
  refine g_aload_n hC dX7_sheet_0 rfl 0 rfl rfl ?_
  refine g_iconst (v := 0) hC dX7_sheet_1 (by decide) rfl ?_
  refine g_put (ws' := [(aLL, .inr (7, [.ref aRE, .ref aRT, .ref aWE, .ref aKE, .ref aRD, .ref aTE, .ref aSR, .int (0 : Int32)])), (aSR, .inl (cO, 4, .inr (.inr (.inr (.inr sRows)))))]) hC iw_X7_sheet_RX7 0 rfl rfl 7 (by decide) (List.mem_of_getElem? (i := 1) rfl) rfl tyX7 tyX7_ok nmX7 rfl rfl rfl (Nat.le_of_ble_eq_true rfl) rfl dX7_sheet_2 rfl ?_
  refine g_aload_n hC dX7_sheet_5 rfl 0 rfl rfl ?_
  refine g_iload_n hC dX7_sheet_6 rfl 1 rfl rfl ?_
  refine g_callV (ws' := [(aLL, .inr (7, [.ref aRE, .ref aRT, .ref aWE, .ref aKE, .ref aRD, .ref aTE, .ref aSR, .int (0 : Int32)])), (aSR, .inl (cO, 4, .inr (.inr (.inr (.inr sRows)))))]) (st' := [.null]) (nw := 2) (n1 := 2) hC gX7_sheet_X7_sheetOf hdV_yX7_sheetOf 0 rfl rfl (As := [.int k]) (rest := []) (c_X7_sheetOf D cI cO aLL aRE aRT aWE aKE aRD aTE aSR (0 : Int32) sRows k) rfl ⟨by decide, by decide⟩ rfl [0, 1] [] [0, 1] [0, 1] rfl rfl rfl rfl (by decide) rfl rfl (Nat.le_of_ble_eq_true rfl) dX7_sheet_7 rfl (by rw [hsh]; rfl) ?_
  refine g_astoreN (lv' := [(4, .null), (0, .ref aLL), (1, .int k), (2, .int lane), (3, .int n)]) hC dX7_sheet_10 (by decide) rfl rfl ?_
  refine g_aloadN hC dX7_sheet_12 0 rfl rfl ?_
  refine g_ifnonnullN hC dX7_sheet_14 rfl ?_
  refine g_iconst (v := -1) hC dX7_sheet_17 (by decide) rfl ?_
  subst hres
  exact g_iret hC hX rfl dX7_sheet_18 rfl rfl
theorem iw_X7_lose_RX4 : ∀ w ∈ wsX40, w ∈ wsX7_lose := fun _ h => List.mem_cons_of_mem _ (List.mem_append_left _ (List.mem_append_right _ (h)))
def m_X7_lose_in (sHas : Int32) : (Int32 × Int32) := ((if sHas = 0 then (0 : Int32) else (1 : Int32)), (0 : Int32))
set_option maxRecDepth 100000 in
set_option maxHeartbeats 4000000 in
theorem c_X7_lose_in (D : va_G) (cI : ClassId) (cO : ClassId) (aLL : Nat) (aRE : Nat) (aRT : Nat) (aWE : Nat) (aKE : Nat) (aRD : Nat) (aTE : Nat) (aSR : Nat) (lFault : Int32) (sRows : Nat → Option Nat) (aSh : Nat) (aShA : Nat) (sHas : Int32) (sLane : Int32) (sLen : Int32) (k : Int32) (hsh : m_X7_sheetOf sRows k = some aSh) : MC yX7_lose wsX7_lose ({ frames := 1, cells := 0, slots := 0, locals := 21 } : Room) D [(cI, .int), (cO, .object "LinenLaw$Sheet")] [.ref aLL, .int k] [(aLL, .inr (7, [.ref aRE, .ref aRT, .ref aWE, .ref aKE, .ref aRD, .ref aTE, .ref aSR, .int lFault])), (aSR, .inl (cO, 4, .inr (.inr (.inr (.inr sRows))))), (aSh, .inr (4, [.ref aShA, .int sHas, .int sLane, .int sLen]))] (some (.int ((m_X7_lose_in sHas).1))) [(aLL, .inr (7, [.ref aRE, .ref aRT, .ref aWE, .ref aKE, .ref aRD, .ref aTE, .ref aSR, .int lFault])), (aSR, .inl (cO, 4, .inr (.inr (.inr (.inr sRows))))), (aSh, .inr (4, [.ref aShA, .int ((m_X7_lose_in sHas).2), .int sLane, .int sLen]))] := by
  refine g_entry (by decide) rfl rfl rfl rfl (Nat.le_of_ble_eq_true rfl) (lv := [(0, .ref aLL), (1, .int k)]) rfl ?_
  intro X hC hX
  obtain ⟨res, hres⟩ : ∃ z, z = (m_X7_lose_in sHas) := ⟨_, rfl⟩
  rw [← hres] at hX
  rw [m_X7_lose_in] at hres
  refine g_aload_n hC dX7_lose_0 rfl 0 rfl rfl ?_
  refine g_iload_n hC dX7_lose_1 rfl 1 rfl rfl ?_
  refine g_callV (ws' := [(aLL, .inr (7, [.ref aRE, .ref aRT, .ref aWE, .ref aKE, .ref aRD, .ref aTE, .ref aSR, .int lFault])), (aSR, .inl (cO, 4, .inr (.inr (.inr (.inr sRows))))), (aSh, .inr (4, [.ref aShA, .int sHas, .int sLane, .int sLen]))]) (st' := [.ref aSh]) (nw := 3) (n1 := 2) hC gX7_lose_X7_sheetOf hdV_yX7_sheetOf 0 rfl rfl (As := [.int k]) (rest := []) (c_X7_sheetOf D cI cO aLL aRE aRT aWE aKE aRD aTE aSR lFault sRows k) rfl ⟨by decide, by decide⟩ rfl [0, 1] [2] [1, 2, 0] [0, 1] rfl rfl rfl rfl (by decide) rfl rfl (Nat.le_of_ble_eq_true rfl) dX7_lose_2 rfl (by rw [hsh]; rfl) ?_
  refine g_astore_n (lv' := [(2, .ref aSh), (0, .ref aLL), (1, .int k)]) hC dX7_lose_5 rfl (by decide) rfl rfl ?_
  refine g_aload_n hC dX7_lose_6 rfl 0 rfl rfl ?_
  refine g_ifnonnull (tgt := 12) hC dX7_lose_7 (by decide) ?_
  refine g_aload_n hC dX7_lose_12 rfl 0 rfl rfl ?_
  refine g_get hC iw_X7_lose_RX4 2 rfl rfl 1 (by decide) (List.mem_of_getElem? (i := 1) rfl) rfl rfl dX7_lose_13 rfl ?_
  have K_16 : ∀ vK : Int32, vK = (if sHas = 0 then (0 : Int32) else (1 : Int32)) → G X D 4 [(aLL, .inr (7, [.ref aRE, .ref aRT, .ref aWE, .ref aKE, .ref aRD, .ref aTE, .ref aSR, .int lFault])), (aSR, .inl (cO, 4, .inr (.inr (.inr (.inr sRows))))), (aSh, .inr (4, [.ref aShA, .int sHas, .int sLane, .int sLen]))] [(2, .ref aSh), (0, .ref aLL), (1, .int k)] 24 (.int vK :: []) := by
    intro vK hvK
    subst hvK
    refine g_istore_n (lv' := [(3, .int (if sHas = 0 then (0 : Int32) else (1 : Int32))), (2, .ref aSh), (0, .ref aLL), (1, .int k)]) hC dX7_lose_24 rfl (by decide) rfl rfl ?_
    refine g_aload_n hC dX7_lose_25 rfl 1 rfl rfl ?_
    refine g_iconst (v := 0) hC dX7_lose_26 (by decide) rfl ?_
    refine g_put (ws' := [(aLL, .inr (7, [.ref aRE, .ref aRT, .ref aWE, .ref aKE, .ref aRD, .ref aTE, .ref aSR, .int lFault])), (aSR, .inl (cO, 4, .inr (.inr (.inr (.inr sRows))))), (aSh, .inr (4, [.ref aShA, .int (0 : Int32), .int sLane, .int sLen]))]) hC iw_X7_lose_RX4 2 rfl rfl 1 (by decide) (List.mem_of_getElem? (i := 1) rfl) rfl tyX4 tyX4_ok nmX4 rfl rfl rfl (Nat.le_of_ble_eq_true rfl) rfl dX7_lose_27 rfl ?_
    refine g_iload_n hC dX7_lose_30 rfl 0 rfl rfl ?_
    subst hres
    exact g_iret hC hX rfl dX7_lose_31 rfl rfl
  refine g_if_eq (tgt := 23) hC dX7_lose_16 (by decide) rfl (fun c_16 => ?_) (fun c_16 => ?_)
  · refine g_iconst (v := 0) hC dX7_lose_23 (by decide) rfl ?_
    exact K_16 _ (if_pos c_16).symm
  · refine g_iconst (v := 1) hC dX7_lose_19 (by decide) rfl ?_
    refine g_goto (tgt := 24) hC dX7_lose_20 (by decide) ?_
    exact K_16 _ (if_neg c_16).symm
def m_X7_lose_out : (Int32) := (-1 : Int32)
set_option maxRecDepth 100000 in
set_option maxHeartbeats 4000000 in
theorem c_X7_lose_out (D : va_G) (cI : ClassId) (cO : ClassId) (aLL : Nat) (aRE : Nat) (aRT : Nat) (aWE : Nat) (aKE : Nat) (aRD : Nat) (aTE : Nat) (aSR : Nat) (lFault : Int32) (sRows : Nat → Option Nat) (k : Int32) (hsh : m_X7_sheetOf sRows k = none) : MC yX7_lose wsX7_lose ({ frames := 1, cells := 0, slots := 0, locals := 21 } : Room) D [(cI, .int), (cO, .object "LinenLaw$Sheet")] [.ref aLL, .int k] [(aLL, .inr (7, [.ref aRE, .ref aRT, .ref aWE, .ref aKE, .ref aRD, .ref aTE, .ref aSR, .int lFault])), (aSR, .inl (cO, 4, .inr (.inr (.inr (.inr sRows)))))] (some (.int m_X7_lose_out)) [(aLL, .inr (7, [.ref aRE, .ref aRT, .ref aWE, .ref aKE, .ref aRD, .ref aTE, .ref aSR, .int lFault])), (aSR, .inl (cO, 4, .inr (.inr (.inr (.inr sRows)))))] := by
  refine g_entry (by decide) rfl rfl rfl rfl (Nat.le_of_ble_eq_true rfl) (lv := [(0, .ref aLL), (1, .int k)]) rfl ?_
  intro X hC hX
  obtain ⟨res, hres⟩ : ∃ z, z = m_X7_lose_out := ⟨_, rfl⟩
  rw [← hres] at hX
  rw [m_X7_lose_out] at hres
  refine g_aload_n hC dX7_lose_0 rfl 0 rfl rfl ?_
  refine g_iload_n hC dX7_lose_1 rfl 1 rfl rfl ?_
  refine g_callV (ws' := [(aLL, .inr (7, [.ref aRE, .ref aRT, .ref aWE, .ref aKE, .ref aRD, .ref aTE, .ref aSR, .int lFault])), (aSR, .inl (cO, 4, .inr (.inr (.inr (.inr sRows)))))]) (st' := [.null]) (nw := 2) (n1 := 2) hC gX7_lose_X7_sheetOf hdV_yX7_sheetOf 0 rfl rfl (As := [.int k]) (rest := []) (c_X7_sheetOf D cI cO aLL aRE aRT aWE aKE aRD aTE aSR lFault sRows k) rfl ⟨by decide, by decide⟩ rfl [0, 1] [] [0, 1] [0, 1] rfl rfl rfl rfl (by decide) rfl rfl (Nat.le_of_ble_eq_true rfl) dX7_lose_2 rfl (by rw [hsh]; rfl) ?_
  refine g_astore_nN (lv' := [(2, .null), (0, .ref aLL), (1, .int k)]) hC dX7_lose_5 rfl (by decide) rfl rfl ?_
  refine g_aload_nN hC dX7_lose_6 rfl 0 rfl rfl ?_
  refine g_ifnonnullN hC dX7_lose_7 rfl ?_
  refine g_iconst (v := -1) hC dX7_lose_10 (by decide) rfl ?_
  subst hres
  exact g_iret hC hX rfl dX7_lose_11 rfl rfl
theorem iw_X7_put_RX4 : ∀ w ∈ wsX40, w ∈ wsX7_put := fun _ h => List.mem_cons_of_mem _ (List.mem_append_right _ (h))
theorem iw_X7_put_RX7 : ∀ w ∈ wsX70, w ∈ wsX7_put := fun _ h => List.mem_cons_of_mem _ (List.mem_append_left _ (List.mem_append_right _ (h)))
def m_X7_put_in (sHas : Int32) (sLane : Int32) (sLen : Int32) (sA : Nat → Int32) (i : Int32) (v : Int32) : (Int32 × Int32 × (Nat → Int32)) := (if sHas = 0 then ((m_X7_faulted (1 : Int32)).1, (m_X7_faulted (1 : Int32)).2, sA) else (if (m_X4_holds sLen i (1 : Int32)) = 0 then ((m_X7_faulted (3 : Int32)).1, (m_X7_faulted (3 : Int32)).2, sA) else ((1 : Int32), (0 : Int32), (m_X4_store sLane sA i v))))
set_option maxRecDepth 100000 in
set_option maxHeartbeats 4000000 in
theorem c_X7_put_in (D : va_G) (cI : ClassId) (cO : ClassId) (aLL : Nat) (aRE : Nat) (aRT : Nat) (aWE : Nat) (aKE : Nat) (aRD : Nat) (aTE : Nat) (aSR : Nat) (lFault : Int32) (sRows : Nat → Option Nat) (aSh : Nat) (aShA : Nat) (sHas : Int32) (sLane : Int32) (sLen : Int32) (sA : Nat → Int32) (k : Int32) (i : Int32) (v : Int32) (hsh : m_X7_sheetOf sRows k = some aSh) : MC yX7_put wsX7_put ({ frames := 2, cells := 0, slots := 0, locals := 44 } : Room) D [(cI, .int), (cO, .object "LinenLaw$Sheet")] [.ref aLL, .int k, .int i, .int v] [(aLL, .inr (7, [.ref aRE, .ref aRT, .ref aWE, .ref aKE, .ref aRD, .ref aTE, .ref aSR, .int lFault])), (aSR, .inl (cO, 4, .inr (.inr (.inr (.inr sRows))))), (aSh, .inr (4, [.ref aShA, .int sHas, .int sLane, .int sLen])), (aShA, .inl (cI, 60, .inl sA))] (some (.int ((m_X7_put_in sHas sLane sLen sA i v).1))) [(aLL, .inr (7, [.ref aRE, .ref aRT, .ref aWE, .ref aKE, .ref aRD, .ref aTE, .ref aSR, .int ((m_X7_put_in sHas sLane sLen sA i v).2.1)])), (aSR, .inl (cO, 4, .inr (.inr (.inr (.inr sRows))))), (aSh, .inr (4, [.ref aShA, .int sHas, .int sLane, .int sLen])), (aShA, .inl (cI, 60, .inl ((m_X7_put_in sHas sLane sLen sA i v).2.2)))] := by
  refine g_entry (by decide) rfl rfl rfl rfl (Nat.le_of_ble_eq_true rfl) (lv := [(0, .ref aLL), (1, .int k), (2, .int i), (3, .int v)]) rfl ?_
  intro X hC hX
  obtain ⟨res, hres⟩ : ∃ z, z = (m_X7_put_in sHas sLane sLen sA i v) := ⟨_, rfl⟩
  rw [← hres] at hX
  rw [m_X7_put_in] at hres
  refine g_aload_n hC dX7_put_0 rfl 0 rfl rfl ?_
  refine g_iconst (v := 0) hC dX7_put_1 (by decide) rfl ?_
  refine g_put (ws' := [(aLL, .inr (7, [.ref aRE, .ref aRT, .ref aWE, .ref aKE, .ref aRD, .ref aTE, .ref aSR, .int (0 : Int32)])), (aSR, .inl (cO, 4, .inr (.inr (.inr (.inr sRows))))), (aSh, .inr (4, [.ref aShA, .int sHas, .int sLane, .int sLen])), (aShA, .inl (cI, 60, .inl sA))]) hC iw_X7_put_RX7 0 rfl rfl 7 (by decide) (List.mem_of_getElem? (i := 1) rfl) rfl tyX7 tyX7_ok nmX7 rfl rfl rfl (Nat.le_of_ble_eq_true rfl) rfl dX7_put_2 rfl ?_
  refine g_aload_n hC dX7_put_5 rfl 0 rfl rfl ?_
  refine g_iload_n hC dX7_put_6 rfl 1 rfl rfl ?_
  refine g_callV (ws' := [(aLL, .inr (7, [.ref aRE, .ref aRT, .ref aWE, .ref aKE, .ref aRD, .ref aTE, .ref aSR, .int (0 : Int32)])), (aSR, .inl (cO, 4, .inr (.inr (.inr (.inr sRows))))), (aSh, .inr (4, [.ref aShA, .int sHas, .int sLane, .int sLen])), (aShA, .inl (cI, 60, .inl sA))]) (st' := [.ref aSh]) (nw := 4) (n1 := 2) hC gX7_put_X7_sheetOf hdV_yX7_sheetOf 0 rfl rfl (As := [.int k]) (rest := []) (c_X7_sheetOf D cI cO aLL aRE aRT aWE aKE aRD aTE aSR (0 : Int32) sRows k) rfl ⟨by decide, by decide⟩ rfl [0, 1] [2, 3] [2, 3, 0, 1] [0, 1] rfl rfl rfl rfl (by decide) rfl rfl (Nat.le_of_ble_eq_true rfl) dX7_put_7 rfl (by rw [hsh]; rfl) ?_
  refine g_astore (lv' := [(4, .ref aSh), (0, .ref aLL), (1, .int k), (2, .int i), (3, .int v)]) hC dX7_put_10 (by decide) rfl rfl ?_
  refine g_aload hC dX7_put_12 0 rfl rfl ?_
  refine g_ifnonnull (tgt := 19) hC dX7_put_14 (by decide) ?_
  refine g_aload hC dX7_put_19 0 rfl rfl ?_
  refine g_get hC iw_X7_put_RX4 2 rfl rfl 1 (by decide) (List.mem_of_getElem? (i := 2) rfl) rfl rfl dX7_put_21 rfl ?_
  refine g_if_ne (tgt := 33) hC dX7_put_24 (by decide) rfl (fun c_24 => ?_) (fun c_24 => ?_)
  · rw [if_neg c_24] at hres
    refine g_aload hC dX7_put_33 0 rfl rfl ?_
    refine g_iload_n hC dX7_put_35 rfl 3 rfl rfl ?_
    refine g_iconst (v := 1) hC dX7_put_36 (by decide) rfl ?_
    refine g_callV (ws' := [(aLL, .inr (7, [.ref aRE, .ref aRT, .ref aWE, .ref aKE, .ref aRD, .ref aTE, .ref aSR, .int (0 : Int32)])), (aSR, .inl (cO, 4, .inr (.inr (.inr (.inr sRows))))), (aSh, .inr (4, [.ref aShA, .int sHas, .int sLane, .int sLen])), (aShA, .inl (cI, 60, .inl sA))]) (st' := [.int (m_X4_holds sLen i (1 : Int32))]) (nw := 4) (n1 := 1) hC gX7_put_X4_holds hdV_yX4_holds 2 rfl rfl (As := [.int i, .int (1 : Int32)]) (rest := []) (c_X4_holds D cI aSh aShA sHas sLane sLen i (1 : Int32)) rfl ⟨by decide, by decide⟩ rfl [2] [0, 1, 3] [0, 1, 3, 2] [0] rfl rfl rfl rfl (by decide) rfl rfl (Nat.le_of_ble_eq_true rfl) dX7_put_37 rfl rfl ?_
    refine g_if_ne (tgt := 49) hC dX7_put_40 (by decide) rfl (fun c_40 => ?_) (fun c_40 => ?_)
    · rw [if_neg c_40] at hres
      refine g_aload hC dX7_put_49 0 rfl rfl ?_
      refine g_iload_n hC dX7_put_51 rfl 3 rfl rfl ?_
      refine g_iload_n hC dX7_put_52 rfl 4 rfl rfl ?_
      refine g_callV (ws' := [(aLL, .inr (7, [.ref aRE, .ref aRT, .ref aWE, .ref aKE, .ref aRD, .ref aTE, .ref aSR, .int (0 : Int32)])), (aSR, .inl (cO, 4, .inr (.inr (.inr (.inr sRows))))), (aSh, .inr (4, [.ref aShA, .int sHas, .int sLane, .int sLen])), (aShA, .inl (cI, 60, .inl (m_X4_store sLane sA i v)))]) (st' := []) (nw := 4) (n1 := 2) hC gX7_put_X4_store hdV_yX4_store 2 rfl rfl (As := [.int i, .int v]) (rest := []) (c_X4_store D cI aSh aShA sHas sLane sLen sA i v) rfl ⟨by decide, by decide⟩ rfl [2, 3] [0, 1] [0, 1, 2, 3] [0] rfl rfl rfl rfl (by decide) rfl rfl (Nat.le_of_ble_eq_true rfl) dX7_put_53 rfl rfl ?_
      refine g_iconst (v := 1) hC dX7_put_56 (by decide) rfl ?_
      subst hres
      exact g_iret hC hX rfl dX7_put_57 rfl rfl
    · rw [if_pos c_40] at hres
      refine g_aload_n hC dX7_put_43 rfl 1 rfl rfl ?_
      refine g_iconst (v := 3) hC dX7_put_44 (by decide) rfl ?_
      refine g_callV (ws' := [(aLL, .inr (7, [.ref aRE, .ref aRT, .ref aWE, .ref aKE, .ref aRD, .ref aTE, .ref aSR, .int ((m_X7_faulted (3 : Int32)).2)])), (aSR, .inl (cO, 4, .inr (.inr (.inr (.inr sRows))))), (aSh, .inr (4, [.ref aShA, .int sHas, .int sLane, .int sLen])), (aShA, .inl (cI, 60, .inl sA))]) (st' := [.int ((m_X7_faulted (3 : Int32)).1)]) (nw := 4) (n1 := 1) hC gX7_put_X7_faulted hdV_yX7_faulted 0 rfl rfl (As := [.int (3 : Int32)]) (rest := []) (c_X7_faulted D cI aLL aRE aRT aWE aKE aRD aTE aSR (0 : Int32) (3 : Int32)) rfl ⟨by decide, by decide⟩ rfl [0] [1, 2, 3] [3, 0, 1, 2] [0] rfl rfl rfl rfl (by decide) rfl rfl (Nat.le_of_ble_eq_true rfl) dX7_put_45 rfl rfl ?_
      subst hres
      exact g_iret hC hX rfl dX7_put_48 rfl rfl
  · rw [if_pos c_24] at hres
    refine g_aload_n hC dX7_put_27 rfl 1 rfl rfl ?_
    refine g_iconst (v := 1) hC dX7_put_28 (by decide) rfl ?_
    refine g_callV (ws' := [(aLL, .inr (7, [.ref aRE, .ref aRT, .ref aWE, .ref aKE, .ref aRD, .ref aTE, .ref aSR, .int ((m_X7_faulted (1 : Int32)).2)])), (aSR, .inl (cO, 4, .inr (.inr (.inr (.inr sRows))))), (aSh, .inr (4, [.ref aShA, .int sHas, .int sLane, .int sLen])), (aShA, .inl (cI, 60, .inl sA))]) (st' := [.int ((m_X7_faulted (1 : Int32)).1)]) (nw := 4) (n1 := 1) hC gX7_put_X7_faulted hdV_yX7_faulted 0 rfl rfl (As := [.int (1 : Int32)]) (rest := []) (c_X7_faulted D cI aLL aRE aRT aWE aKE aRD aTE aSR (0 : Int32) (1 : Int32)) rfl ⟨by decide, by decide⟩ rfl [0] [1, 2, 3] [3, 0, 1, 2] [0] rfl rfl rfl rfl (by decide) rfl rfl (Nat.le_of_ble_eq_true rfl) dX7_put_29 rfl rfl ?_
    subst hres
    exact g_iret hC hX rfl dX7_put_32 rfl rfl
def m_X7_put_out : (Int32 × Int32) := ((-1 : Int32), (0 : Int32))
set_option maxRecDepth 100000 in
set_option maxHeartbeats 4000000 in
theorem c_X7_put_out (D : va_G) (cI : ClassId) (cO : ClassId) (aLL : Nat) (aRE : Nat) (aRT : Nat) (aWE : Nat) (aKE : Nat) (aRD : Nat) (aTE : Nat) (aSR : Nat) (lFault : Int32) (sRows : Nat → Option Nat) (k : Int32) (i : Int32) (v : Int32) (hsh : m_X7_sheetOf sRows k = none) : MC yX7_put wsX7_put ({ frames := 1, cells := 0, slots := 0, locals := 21 } : Room) D [(cI, .int), (cO, .object "LinenLaw$Sheet")] [.ref aLL, .int k, .int i, .int v] [(aLL, .inr (7, [.ref aRE, .ref aRT, .ref aWE, .ref aKE, .ref aRD, .ref aTE, .ref aSR, .int lFault])), (aSR, .inl (cO, 4, .inr (.inr (.inr (.inr sRows)))))] (some (.int m_X7_put_out.1)) [(aLL, .inr (7, [.ref aRE, .ref aRT, .ref aWE, .ref aKE, .ref aRD, .ref aTE, .ref aSR, .int m_X7_put_out.2])), (aSR, .inl (cO, 4, .inr (.inr (.inr (.inr sRows)))))] := by
  refine g_entry (by decide) rfl rfl rfl rfl (Nat.le_of_ble_eq_true rfl) (lv := [(0, .ref aLL), (1, .int k), (2, .int i), (3, .int v)]) rfl ?_
  intro X hC hX
  obtain ⟨res, hres⟩ : ∃ z, z = m_X7_put_out := ⟨_, rfl⟩
  rw [← hres] at hX
  rw [m_X7_put_out] at hres
  refine g_aload_n hC dX7_put_0 rfl 0 rfl rfl ?_
  refine g_iconst (v := 0) hC dX7_put_1 (by decide) rfl ?_
  refine g_put (ws' := [(aLL, .inr (7, [.ref aRE, .ref aRT, .ref aWE, .ref aKE, .ref aRD, .ref aTE, .ref aSR, .int (0 : Int32)])), (aSR, .inl (cO, 4, .inr (.inr (.inr (.inr sRows)))))]) hC iw_X7_put_RX7 0 rfl rfl 7 (by decide) (List.mem_of_getElem? (i := 1) rfl) rfl tyX7 tyX7_ok nmX7 rfl rfl rfl (Nat.le_of_ble_eq_true rfl) rfl dX7_put_2 rfl ?_
  refine g_aload_n hC dX7_put_5 rfl 0 rfl rfl ?_
  refine g_iload_n hC dX7_put_6 rfl 1 rfl rfl ?_
  refine g_callV (ws' := [(aLL, .inr (7, [.ref aRE, .ref aRT, .ref aWE, .ref aKE, .ref aRD, .ref aTE, .ref aSR, .int (0 : Int32)])), (aSR, .inl (cO, 4, .inr (.inr (.inr (.inr sRows)))))]) (st' := [.null]) (nw := 2) (n1 := 2) hC gX7_put_X7_sheetOf hdV_yX7_sheetOf 0 rfl rfl (As := [.int k]) (rest := []) (c_X7_sheetOf D cI cO aLL aRE aRT aWE aKE aRD aTE aSR (0 : Int32) sRows k) rfl ⟨by decide, by decide⟩ rfl [0, 1] [] [0, 1] [0, 1] rfl rfl rfl rfl (by decide) rfl rfl (Nat.le_of_ble_eq_true rfl) dX7_put_7 rfl (by rw [hsh]; rfl) ?_
  refine g_astoreN (lv' := [(4, .null), (0, .ref aLL), (1, .int k), (2, .int i), (3, .int v)]) hC dX7_put_10 (by decide) rfl rfl ?_
  refine g_aloadN hC dX7_put_12 0 rfl rfl ?_
  refine g_ifnonnullN hC dX7_put_14 rfl ?_
  refine g_iconst (v := -1) hC dX7_put_17 (by decide) rfl ?_
  subst hres
  exact g_iret hC hX rfl dX7_put_18 rfl rfl
theorem iw_X7_cell_RX7 : ∀ w ∈ wsX70, w ∈ wsX7_cell := fun _ h => List.mem_cons_of_mem _ (List.mem_append_left _ (List.mem_append_right _ (h)))
def m_X7_cell_in (sHas : Int32) (sLane : Int32) (sLen : Int32) (sA : Nat → Int32) (i : Int32) (lane : Int32) : (Int64 × Int32) := (if (m_X7_isBelow lane (3 : Int32)) = 0 then ((-9223372036854775808 : Int64), (0 : Int32)) else (if (m_X4_faultOfCells sHas sLane sLen lane i (1 : Int32)) = 0 then ((m_X4_number sA i).toInt64, (m_X4_faultOfCells sHas sLane sLen lane i (1 : Int32))) else ((-9223372036854775808 : Int64), (m_X4_faultOfCells sHas sLane sLen lane i (1 : Int32)))))
set_option maxRecDepth 100000 in
set_option maxHeartbeats 4000000 in
theorem c_X7_cell_in (D : va_G) (cI : ClassId) (cO : ClassId) (aLL : Nat) (aRE : Nat) (aRT : Nat) (aWE : Nat) (aKE : Nat) (aRD : Nat) (aTE : Nat) (aSR : Nat) (lFault : Int32) (sRows : Nat → Option Nat) (aSh : Nat) (aShA : Nat) (sHas : Int32) (sLane : Int32) (sLen : Int32) (sA : Nat → Int32) (k : Int32) (i : Int32) (lane : Int32) (hsh : m_X7_sheetOf sRows k = some aSh) : MC yX7_cell wsX7_cell ({ frames := 2, cells := 0, slots := 0, locals := 45 } : Room) D [(cI, .int), (cO, .object "LinenLaw$Sheet")] [.ref aLL, .int k, .int i, .int lane] [(aLL, .inr (7, [.ref aRE, .ref aRT, .ref aWE, .ref aKE, .ref aRD, .ref aTE, .ref aSR, .int lFault])), (aSR, .inl (cO, 4, .inr (.inr (.inr (.inr sRows))))), (aSh, .inr (4, [.ref aShA, .int sHas, .int sLane, .int sLen])), (aShA, .inl (cI, 60, .inl sA))] (some (.long ((m_X7_cell_in sHas sLane sLen sA i lane).1))) [(aLL, .inr (7, [.ref aRE, .ref aRT, .ref aWE, .ref aKE, .ref aRD, .ref aTE, .ref aSR, .int ((m_X7_cell_in sHas sLane sLen sA i lane).2)])), (aSR, .inl (cO, 4, .inr (.inr (.inr (.inr sRows))))), (aSh, .inr (4, [.ref aShA, .int sHas, .int sLane, .int sLen])), (aShA, .inl (cI, 60, .inl sA))] := by
  refine g_entry (by decide) rfl rfl rfl rfl (Nat.le_of_ble_eq_true rfl) (lv := [(0, .ref aLL), (1, .int k), (2, .int i), (3, .int lane)]) rfl ?_
  intro X hC hX
  obtain ⟨res, hres⟩ : ∃ z, z = (m_X7_cell_in sHas sLane sLen sA i lane) := ⟨_, rfl⟩
  rw [← hres] at hX
  rw [m_X7_cell_in] at hres
  refine g_aload_n hC dX7_cell_0 rfl 0 rfl rfl ?_
  refine g_iconst (v := 0) hC dX7_cell_1 (by decide) rfl ?_
  refine g_put (ws' := [(aLL, .inr (7, [.ref aRE, .ref aRT, .ref aWE, .ref aKE, .ref aRD, .ref aTE, .ref aSR, .int (0 : Int32)])), (aSR, .inl (cO, 4, .inr (.inr (.inr (.inr sRows))))), (aSh, .inr (4, [.ref aShA, .int sHas, .int sLane, .int sLen])), (aShA, .inl (cI, 60, .inl sA))]) hC iw_X7_cell_RX7 0 rfl rfl 7 (by decide) (List.mem_of_getElem? (i := 1) rfl) rfl tyX7 tyX7_ok nmX7 rfl rfl rfl (Nat.le_of_ble_eq_true rfl) rfl dX7_cell_2 rfl ?_
  refine g_aload_n hC dX7_cell_5 rfl 0 rfl rfl ?_
  refine g_iload_n hC dX7_cell_6 rfl 1 rfl rfl ?_
  refine g_callV (ws' := [(aLL, .inr (7, [.ref aRE, .ref aRT, .ref aWE, .ref aKE, .ref aRD, .ref aTE, .ref aSR, .int (0 : Int32)])), (aSR, .inl (cO, 4, .inr (.inr (.inr (.inr sRows))))), (aSh, .inr (4, [.ref aShA, .int sHas, .int sLane, .int sLen])), (aShA, .inl (cI, 60, .inl sA))]) (st' := [.ref aSh]) (nw := 4) (n1 := 2) hC gX7_cell_X7_sheetOf hdV_yX7_sheetOf 0 rfl rfl (As := [.int k]) (rest := []) (c_X7_sheetOf D cI cO aLL aRE aRT aWE aKE aRD aTE aSR (0 : Int32) sRows k) rfl ⟨by decide, by decide⟩ rfl [0, 1] [2, 3] [2, 3, 0, 1] [0, 1] rfl rfl rfl rfl (by decide) rfl rfl (Nat.le_of_ble_eq_true rfl) dX7_cell_7 rfl (by rw [hsh]; rfl) ?_
  refine g_astore (lv' := [(4, .ref aSh), (0, .ref aLL), (1, .int k), (2, .int i), (3, .int lane)]) hC dX7_cell_10 (by decide) rfl rfl ?_
  refine g_aload hC dX7_cell_12 0 rfl rfl ?_
  refine g_ifnull hC dX7_cell_14 rfl ?_
  refine g_iload_n hC dX7_cell_17 rfl 4 rfl rfl ?_
  refine g_iconst (v := 3) hC dX7_cell_18 (by decide) rfl ?_
  refine g_callS (ws' := [(aLL, .inr (7, [.ref aRE, .ref aRT, .ref aWE, .ref aKE, .ref aRD, .ref aTE, .ref aSR, .int (0 : Int32)])), (aSR, .inl (cO, 4, .inr (.inr (.inr (.inr sRows))))), (aSh, .inr (4, [.ref aShA, .int sHas, .int sLane, .int sLen])), (aShA, .inl (cI, 60, .inl sA))]) (st' := [.int (m_X7_isBelow lane (3 : Int32))]) (nw := 4) (n1 := 0) hC gX7_cell_X7_isBelow hdS_yX7_isBelow (As := [.int lane, .int (3 : Int32)]) (rest := []) (c_X7_isBelow D cI lane (3 : Int32)) rfl ⟨by decide, by decide⟩ rfl [] [0, 1, 2, 3] [0, 1, 2, 3] [0] rfl rfl rfl rfl (by decide) rfl rfl (Nat.le_of_ble_eq_true rfl) dX7_cell_19 rfl rfl ?_
  refine g_if_ne (tgt := 29) hC dX7_cell_22 (by decide) rfl (fun c_22 => ?_) (fun c_22 => ?_)
  · rw [if_neg c_22] at hres
    refine g_aload_n hC dX7_cell_29 rfl 1 rfl rfl ?_
    refine g_aload hC dX7_cell_30 0 rfl rfl ?_
    refine g_iload_n hC dX7_cell_32 rfl 4 rfl rfl ?_
    refine g_iload_n hC dX7_cell_33 rfl 3 rfl rfl ?_
    refine g_iconst (v := 1) hC dX7_cell_34 (by decide) rfl ?_
    refine g_callV (ws' := [(aLL, .inr (7, [.ref aRE, .ref aRT, .ref aWE, .ref aKE, .ref aRD, .ref aTE, .ref aSR, .int (0 : Int32)])), (aSR, .inl (cO, 4, .inr (.inr (.inr (.inr sRows))))), (aSh, .inr (4, [.ref aShA, .int sHas, .int sLane, .int sLen])), (aShA, .inl (cI, 60, .inl sA))]) (st' := [.int (m_X4_faultOfCells sHas sLane sLen lane i (1 : Int32)), .ref aLL]) (nw := 4) (n1 := 1) hC gX7_cell_X4_faultOfCells hdV_yX4_faultOfCells 2 rfl rfl (As := [.int lane, .int i, .int (1 : Int32)]) (rest := [.ref aLL]) (c_X4_faultOfCells D cI aSh aShA sHas sLane sLen lane i (1 : Int32)) rfl ⟨by decide, by decide⟩ rfl [2] [0, 1, 3] [0, 1, 3, 2] [0] rfl rfl rfl rfl (by decide) rfl rfl (Nat.le_of_ble_eq_true rfl) dX7_cell_35 rfl rfl ?_
    refine g_put (ws' := [(aLL, .inr (7, [.ref aRE, .ref aRT, .ref aWE, .ref aKE, .ref aRD, .ref aTE, .ref aSR, .int (m_X4_faultOfCells sHas sLane sLen lane i (1 : Int32))])), (aSR, .inl (cO, 4, .inr (.inr (.inr (.inr sRows))))), (aSh, .inr (4, [.ref aShA, .int sHas, .int sLane, .int sLen])), (aShA, .inl (cI, 60, .inl sA))]) hC iw_X7_cell_RX7 0 rfl rfl 7 (by decide) (List.mem_of_getElem? (i := 1) rfl) rfl tyX7 tyX7_ok nmX7 rfl rfl rfl (Nat.le_of_ble_eq_true rfl) rfl dX7_cell_38 rfl ?_
    refine g_aload_n hC dX7_cell_41 rfl 1 rfl rfl ?_
    refine g_get hC iw_X7_cell_RX7 0 rfl rfl 7 (by decide) (List.mem_of_getElem? (i := 1) rfl) rfl rfl dX7_cell_42 rfl ?_
    refine g_if_ne (tgt := 58) hC dX7_cell_45 (by decide) rfl (fun c_45 => ?_) (fun c_45 => ?_)
    · rw [if_neg c_45] at hres
      refine g_ldc2 (v := -9223372036854775808) hC (List.mem_of_getElem? (i := 2) rfl) dX7_cell_58 rfl ?_
      subst hres
      exact g_lret hC hX rfl dX7_cell_61 rfl rfl
    · rw [if_pos c_45] at hres
      refine g_aload hC dX7_cell_48 0 rfl rfl ?_
      refine g_iload_n hC dX7_cell_50 rfl 3 rfl rfl ?_
      refine g_callV (ws' := [(aLL, .inr (7, [.ref aRE, .ref aRT, .ref aWE, .ref aKE, .ref aRD, .ref aTE, .ref aSR, .int (m_X4_faultOfCells sHas sLane sLen lane i (1 : Int32))])), (aSR, .inl (cO, 4, .inr (.inr (.inr (.inr sRows))))), (aSh, .inr (4, [.ref aShA, .int sHas, .int sLane, .int sLen])), (aShA, .inl (cI, 60, .inl sA))]) (st' := [.int (m_X4_number sA i)]) (nw := 4) (n1 := 2) hC gX7_cell_X4_number hdV_yX4_number 2 rfl rfl (As := [.int i]) (rest := []) (c_X4_number D cI aSh aShA sHas sLane sLen sA i) rfl ⟨by decide, by decide⟩ rfl [2, 3] [0, 1] [0, 1, 2, 3] [0] rfl rfl rfl rfl (by decide) rfl rfl (Nat.le_of_ble_eq_true rfl) dX7_cell_51 rfl rfl ?_
      refine g_i2l hC dX7_cell_54 rfl ?_
      refine g_goto (tgt := 61) hC dX7_cell_55 (by decide) ?_
      subst hres
      exact g_lret hC hX rfl dX7_cell_61 rfl rfl
  · rw [if_pos c_22] at hres
    refine g_ldc2 (v := -9223372036854775808) hC (List.mem_of_getElem? (i := 2) rfl) dX7_cell_25 rfl ?_
    subst hres
    exact g_lret hC hX rfl dX7_cell_28 rfl rfl
def m_X7_cell_out : (Int64 × Int32) := ((-9223372036854775808 : Int64), (0 : Int32))
set_option maxRecDepth 100000 in
set_option maxHeartbeats 4000000 in
theorem c_X7_cell_out (D : va_G) (cI : ClassId) (cO : ClassId) (aLL : Nat) (aRE : Nat) (aRT : Nat) (aWE : Nat) (aKE : Nat) (aRD : Nat) (aTE : Nat) (aSR : Nat) (lFault : Int32) (sRows : Nat → Option Nat) (k : Int32) (i : Int32) (lane : Int32) (hsh : m_X7_sheetOf sRows k = none) : MC yX7_cell wsX7_cell ({ frames := 1, cells := 0, slots := 0, locals := 21 } : Room) D [(cI, .int), (cO, .object "LinenLaw$Sheet")] [.ref aLL, .int k, .int i, .int lane] [(aLL, .inr (7, [.ref aRE, .ref aRT, .ref aWE, .ref aKE, .ref aRD, .ref aTE, .ref aSR, .int lFault])), (aSR, .inl (cO, 4, .inr (.inr (.inr (.inr sRows)))))] (some (.long m_X7_cell_out.1)) [(aLL, .inr (7, [.ref aRE, .ref aRT, .ref aWE, .ref aKE, .ref aRD, .ref aTE, .ref aSR, .int m_X7_cell_out.2])), (aSR, .inl (cO, 4, .inr (.inr (.inr (.inr sRows)))))] := by
  refine g_entry (by decide) rfl rfl rfl rfl (Nat.le_of_ble_eq_true rfl) (lv := [(0, .ref aLL), (1, .int k), (2, .int i), (3, .int lane)]) rfl ?_
  intro X hC hX
  obtain ⟨res, hres⟩ : ∃ z, z = m_X7_cell_out := ⟨_, rfl⟩
  rw [← hres] at hX
  rw [m_X7_cell_out] at hres
  refine g_aload_n hC dX7_cell_0 rfl 0 rfl rfl ?_
  refine g_iconst (v := 0) hC dX7_cell_1 (by decide) rfl ?_
  refine g_put (ws' := [(aLL, .inr (7, [.ref aRE, .ref aRT, .ref aWE, .ref aKE, .ref aRD, .ref aTE, .ref aSR, .int (0 : Int32)])), (aSR, .inl (cO, 4, .inr (.inr (.inr (.inr sRows)))))]) hC iw_X7_cell_RX7 0 rfl rfl 7 (by decide) (List.mem_of_getElem? (i := 1) rfl) rfl tyX7 tyX7_ok nmX7 rfl rfl rfl (Nat.le_of_ble_eq_true rfl) rfl dX7_cell_2 rfl ?_
  refine g_aload_n hC dX7_cell_5 rfl 0 rfl rfl ?_
  refine g_iload_n hC dX7_cell_6 rfl 1 rfl rfl ?_
  refine g_callV (ws' := [(aLL, .inr (7, [.ref aRE, .ref aRT, .ref aWE, .ref aKE, .ref aRD, .ref aTE, .ref aSR, .int (0 : Int32)])), (aSR, .inl (cO, 4, .inr (.inr (.inr (.inr sRows)))))]) (st' := [.null]) (nw := 2) (n1 := 2) hC gX7_cell_X7_sheetOf hdV_yX7_sheetOf 0 rfl rfl (As := [.int k]) (rest := []) (c_X7_sheetOf D cI cO aLL aRE aRT aWE aKE aRD aTE aSR (0 : Int32) sRows k) rfl ⟨by decide, by decide⟩ rfl [0, 1] [] [0, 1] [0, 1] rfl rfl rfl rfl (by decide) rfl rfl (Nat.le_of_ble_eq_true rfl) dX7_cell_7 rfl (by rw [hsh]; rfl) ?_
  refine g_astoreN (lv' := [(4, .null), (0, .ref aLL), (1, .int k), (2, .int i), (3, .int lane)]) hC dX7_cell_10 (by decide) rfl rfl ?_
  refine g_aloadN hC dX7_cell_12 0 rfl rfl ?_
  refine g_ifnullN (tgt := 25) hC dX7_cell_14 (by decide) ?_
  refine g_ldc2 (v := -9223372036854775808) hC (List.mem_of_getElem? (i := 2) rfl) dX7_cell_25 rfl ?_
  subst hres
  exact g_lret hC hX rfl dX7_cell_28 rfl rfl
theorem iw_X7_copy_RX4 : ∀ w ∈ wsX40, w ∈ wsX7_copy := fun _ h => List.mem_cons_of_mem _ (List.mem_append_right _ (h))
theorem iw_X7_copy_RX7 : ∀ w ∈ wsX70, w ∈ wsX7_copy := fun _ h => List.mem_cons_of_mem _ (List.mem_append_left _ (List.mem_append_right _ (h)))
def m_X7_copy_in (sHas : Int32) (sLane : Int32) (sLen : Int32) (sA : Nat → Int32) (sHasb : Int32) (sLaneb : Int32) (sLenb : Int32) (sAb : Nat → Int32) (i : Int32) (j : Int32) (n : Int32) : (Int32 × Int32 × (Nat → Int32)) := (if sHas = 0 then ((m_X7_faulted (1 : Int32)).1, (m_X7_faulted (1 : Int32)).2, sAb) else (if sHasb = 0 then ((m_X7_faulted (1 : Int32)).1, (m_X7_faulted (1 : Int32)).2, sAb) else (if sLane = sLaneb then (if (m_X4_holds sLen i n) = 0 then ((m_X7_faulted (3 : Int32)).1, (m_X7_faulted (3 : Int32)).2, sAb) else (if (m_X4_holds sLenb j n) = 0 then ((m_X7_faulted (3 : Int32)).1, (m_X7_faulted (3 : Int32)).2, sAb) else (n, (0 : Int32), (va_cpy sA sAb i.toNatClampNeg j.toNatClampNeg n.toNatClampNeg)))) else ((m_X7_faulted (2 : Int32)).1, (m_X7_faulted (2 : Int32)).2, sAb))))
set_option maxRecDepth 100000 in
set_option maxHeartbeats 4000000 in
theorem c_X7_copy_in (D : va_G) (cI : ClassId) (cO : ClassId) (aLL : Nat) (aRE : Nat) (aRT : Nat) (aWE : Nat) (aKE : Nat) (aRD : Nat) (aTE : Nat) (aSR : Nat) (lFault : Int32) (sRows : Nat → Option Nat) (aSh : Nat) (aShA : Nat) (sHas : Int32) (sLane : Int32) (sLen : Int32) (sA : Nat → Int32) (aShb : Nat) (aShbA : Nat) (sHasb : Int32) (sLaneb : Int32) (sLenb : Int32) (sAb : Nat → Int32) (k : Int32) (i : Int32) (o : Int32) (j : Int32) (n : Int32) (hsh : m_X7_sheetOf sRows k = some aSh) (hshb : m_X7_sheetOf sRows o = some aShb) (hln : 0 ≤ sLen.toInt ∧ sLen.toInt ≤ 60) (hlnb : 0 ≤ sLenb.toInt ∧ sLenb.toInt ≤ 60) : MC yX7_copy wsX7_copy ({ frames := 1, cells := 0, slots := 0, locals := 60 } : Room) D [(cI, .int), (cO, .object "LinenLaw$Sheet")] [.ref aLL, .int k, .int i, .int o, .int j, .int n] [(aLL, .inr (7, [.ref aRE, .ref aRT, .ref aWE, .ref aKE, .ref aRD, .ref aTE, .ref aSR, .int lFault])), (aSR, .inl (cO, 4, .inr (.inr (.inr (.inr sRows))))), (aSh, .inr (4, [.ref aShA, .int sHas, .int sLane, .int sLen])), (aShA, .inl (cI, 60, .inl sA)), (aShb, .inr (4, [.ref aShbA, .int sHasb, .int sLaneb, .int sLenb])), (aShbA, .inl (cI, 60, .inl sAb))] (some (.int ((m_X7_copy_in sHas sLane sLen sA sHasb sLaneb sLenb sAb i j n).1))) [(aLL, .inr (7, [.ref aRE, .ref aRT, .ref aWE, .ref aKE, .ref aRD, .ref aTE, .ref aSR, .int ((m_X7_copy_in sHas sLane sLen sA sHasb sLaneb sLenb sAb i j n).2.1)])), (aSR, .inl (cO, 4, .inr (.inr (.inr (.inr sRows))))), (aSh, .inr (4, [.ref aShA, .int sHas, .int sLane, .int sLen])), (aShA, .inl (cI, 60, .inl sA)), (aShb, .inr (4, [.ref aShbA, .int sHasb, .int sLaneb, .int sLenb])), (aShbA, .inl (cI, 60, .inl ((m_X7_copy_in sHas sLane sLen sA sHasb sLaneb sLenb sAb i j n).2.2)))] := by
  refine g_entry (by decide) rfl rfl rfl rfl (Nat.le_of_ble_eq_true rfl) (lv := [(0, .ref aLL), (1, .int k), (2, .int i), (3, .int o), (4, .int j), (5, .int n)]) rfl ?_
  intro X hC hX
  obtain ⟨res, hres⟩ : ∃ z, z = (m_X7_copy_in sHas sLane sLen sA sHasb sLaneb sLenb sAb i j n) := ⟨_, rfl⟩
  rw [← hres] at hX
  rw [m_X7_copy_in] at hres
  refine g_aload_n hC dX7_copy_0 rfl 0 rfl rfl ?_
  refine g_iconst (v := 0) hC dX7_copy_1 (by decide) rfl ?_
  refine g_put (ws' := [(aLL, .inr (7, [.ref aRE, .ref aRT, .ref aWE, .ref aKE, .ref aRD, .ref aTE, .ref aSR, .int (0 : Int32)])), (aSR, .inl (cO, 4, .inr (.inr (.inr (.inr sRows))))), (aSh, .inr (4, [.ref aShA, .int sHas, .int sLane, .int sLen])), (aShA, .inl (cI, 60, .inl sA)), (aShb, .inr (4, [.ref aShbA, .int sHasb, .int sLaneb, .int sLenb])), (aShbA, .inl (cI, 60, .inl sAb))]) hC iw_X7_copy_RX7 0 rfl rfl 7 (by decide) (List.mem_of_getElem? (i := 1) rfl) rfl tyX7 tyX7_ok nmX7 rfl rfl rfl (Nat.le_of_ble_eq_true rfl) rfl dX7_copy_2 rfl ?_
  refine g_aload_n hC dX7_copy_5 rfl 0 rfl rfl ?_
  refine g_iload_n hC dX7_copy_6 rfl 1 rfl rfl ?_
  refine g_callV (ws' := [(aLL, .inr (7, [.ref aRE, .ref aRT, .ref aWE, .ref aKE, .ref aRD, .ref aTE, .ref aSR, .int (0 : Int32)])), (aSR, .inl (cO, 4, .inr (.inr (.inr (.inr sRows))))), (aSh, .inr (4, [.ref aShA, .int sHas, .int sLane, .int sLen])), (aShA, .inl (cI, 60, .inl sA)), (aShb, .inr (4, [.ref aShbA, .int sHasb, .int sLaneb, .int sLenb])), (aShbA, .inl (cI, 60, .inl sAb))]) (st' := [.ref aSh]) (nw := 6) (n1 := 2) hC gX7_copy_X7_sheetOf hdV_yX7_sheetOf 0 rfl rfl (As := [.int k]) (rest := []) (c_X7_sheetOf D cI cO aLL aRE aRT aWE aKE aRD aTE aSR (0 : Int32) sRows k) rfl ⟨by decide, by decide⟩ rfl [0, 1] [2, 3, 4, 5] [4, 5, 0, 1, 2, 3] [0, 1] rfl rfl rfl rfl (by decide) rfl rfl (Nat.le_of_ble_eq_true rfl) dX7_copy_7 rfl (by rw [hsh]; rfl) ?_
  refine g_astore (lv' := [(6, .ref aSh), (0, .ref aLL), (1, .int k), (2, .int i), (3, .int o), (4, .int j), (5, .int n)]) hC dX7_copy_10 (by decide) rfl rfl ?_
  refine g_aload_n hC dX7_copy_12 rfl 1 rfl rfl ?_
  refine g_iload_n hC dX7_copy_13 rfl 4 rfl rfl ?_
  refine g_callV (ws' := [(aLL, .inr (7, [.ref aRE, .ref aRT, .ref aWE, .ref aKE, .ref aRD, .ref aTE, .ref aSR, .int (0 : Int32)])), (aSR, .inl (cO, 4, .inr (.inr (.inr (.inr sRows))))), (aSh, .inr (4, [.ref aShA, .int sHas, .int sLane, .int sLen])), (aShA, .inl (cI, 60, .inl sA)), (aShb, .inr (4, [.ref aShbA, .int sHasb, .int sLaneb, .int sLenb])), (aShbA, .inl (cI, 60, .inl sAb))]) (st' := [.ref aShb]) (nw := 6) (n1 := 2) hC gX7_copy_X7_sheetOf hdV_yX7_sheetOf 0 rfl rfl (As := [.int o]) (rest := []) (c_X7_sheetOf D cI cO aLL aRE aRT aWE aKE aRD aTE aSR (0 : Int32) sRows o) rfl ⟨by decide, by decide⟩ rfl [0, 1] [2, 3, 4, 5] [4, 5, 0, 1, 2, 3] [0, 1] rfl rfl rfl rfl (by decide) rfl rfl (Nat.le_of_ble_eq_true rfl) dX7_copy_14 rfl (by rw [hshb]; rfl) ?_
  refine g_astore (lv' := [(7, .ref aShb), (6, .ref aSh), (0, .ref aLL), (1, .int k), (2, .int i), (3, .int o), (4, .int j), (5, .int n)]) hC dX7_copy_17 (by decide) rfl rfl ?_
  refine g_aload hC dX7_copy_19 1 rfl rfl ?_
  refine g_ifnull hC dX7_copy_21 rfl ?_
  refine g_aload hC dX7_copy_24 0 rfl rfl ?_
  refine g_ifnonnull (tgt := 31) hC dX7_copy_26 (by decide) ?_
  refine g_aload hC dX7_copy_31 1 rfl rfl ?_
  refine g_get hC iw_X7_copy_RX4 2 rfl rfl 1 (by decide) (List.mem_of_getElem? (i := 2) rfl) rfl rfl dX7_copy_33 rfl ?_
  refine g_if_eq (tgt := 47) hC dX7_copy_36 (by decide) rfl (fun c_36 => ?_) (fun c_36 => ?_)
  · rw [if_pos c_36] at hres
    refine g_aload_n hC dX7_copy_47 rfl 2 rfl rfl ?_
    refine g_iconst (v := 1) hC dX7_copy_48 (by decide) rfl ?_
    refine g_callV (ws' := [(aLL, .inr (7, [.ref aRE, .ref aRT, .ref aWE, .ref aKE, .ref aRD, .ref aTE, .ref aSR, .int ((m_X7_faulted (1 : Int32)).2)])), (aSR, .inl (cO, 4, .inr (.inr (.inr (.inr sRows))))), (aSh, .inr (4, [.ref aShA, .int sHas, .int sLane, .int sLen])), (aShA, .inl (cI, 60, .inl sA)), (aShb, .inr (4, [.ref aShbA, .int sHasb, .int sLaneb, .int sLenb])), (aShbA, .inl (cI, 60, .inl sAb))]) (st' := [.int ((m_X7_faulted (1 : Int32)).1)]) (nw := 6) (n1 := 1) hC gX7_copy_X7_faulted hdV_yX7_faulted 0 rfl rfl (As := [.int (1 : Int32)]) (rest := []) (c_X7_faulted D cI aLL aRE aRT aWE aKE aRD aTE aSR (0 : Int32) (1 : Int32)) rfl ⟨by decide, by decide⟩ rfl [0] [1, 2, 3, 4, 5] [5, 0, 1, 2, 3, 4] [0] rfl rfl rfl rfl (by decide) rfl rfl (Nat.le_of_ble_eq_true rfl) dX7_copy_49 rfl rfl ?_
    subst hres
    exact g_iret hC hX rfl dX7_copy_52 rfl rfl
  · rw [if_neg c_36] at hres
    refine g_aload hC dX7_copy_39 0 rfl rfl ?_
    refine g_get hC iw_X7_copy_RX4 4 rfl rfl 1 (by decide) (List.mem_of_getElem? (i := 2) rfl) rfl rfl dX7_copy_41 rfl ?_
    refine g_if_ne (tgt := 53) hC dX7_copy_44 (by decide) rfl (fun c_44 => ?_) (fun c_44 => ?_)
    · rw [if_neg c_44] at hres
      refine g_aload hC dX7_copy_53 1 rfl rfl ?_
      refine g_get hC iw_X7_copy_RX4 2 rfl rfl 2 (by decide) (List.mem_of_getElem? (i := 3) rfl) rfl rfl dX7_copy_55 rfl ?_
      refine g_aload hC dX7_copy_58 0 rfl rfl ?_
      refine g_get hC iw_X7_copy_RX4 4 rfl rfl 2 (by decide) (List.mem_of_getElem? (i := 3) rfl) rfl rfl dX7_copy_60 rfl ?_
      refine g_icmp_eq (tgt := 72) hC dX7_copy_63 (by decide) rfl (fun c_63 => ?_) (fun c_63 => ?_)
      · rw [if_pos c_63] at hres
        refine g_aload hC dX7_copy_72 1 rfl rfl ?_
        refine g_iload_n hC dX7_copy_74 rfl 4 rfl rfl ?_
        refine g_iload hC dX7_copy_75 7 rfl rfl ?_
        refine g_callV (ws' := [(aLL, .inr (7, [.ref aRE, .ref aRT, .ref aWE, .ref aKE, .ref aRD, .ref aTE, .ref aSR, .int (0 : Int32)])), (aSR, .inl (cO, 4, .inr (.inr (.inr (.inr sRows))))), (aSh, .inr (4, [.ref aShA, .int sHas, .int sLane, .int sLen])), (aShA, .inl (cI, 60, .inl sA)), (aShb, .inr (4, [.ref aShbA, .int sHasb, .int sLaneb, .int sLenb])), (aShbA, .inl (cI, 60, .inl sAb))]) (st' := [.int (m_X4_holds sLen i n)]) (nw := 6) (n1 := 1) hC gX7_copy_X4_holds hdV_yX4_holds 2 rfl rfl (As := [.int i, .int n]) (rest := []) (c_X4_holds D cI aSh aShA sHas sLane sLen i n) rfl ⟨by decide, by decide⟩ rfl [2] [0, 1, 3, 4, 5] [0, 1, 5, 2, 3, 4] [0] rfl rfl rfl rfl (by decide) rfl rfl (Nat.le_of_ble_eq_true rfl) dX7_copy_77 rfl rfl ?_
        refine g_if_eq (tgt := 95) hC dX7_copy_80 (by decide) rfl (fun c_80 => ?_) (fun c_80 => ?_)
        · rw [if_pos c_80] at hres
          refine g_aload_n hC dX7_copy_95 rfl 2 rfl rfl ?_
          refine g_iconst (v := 3) hC dX7_copy_96 (by decide) rfl ?_
          refine g_callV (ws' := [(aLL, .inr (7, [.ref aRE, .ref aRT, .ref aWE, .ref aKE, .ref aRD, .ref aTE, .ref aSR, .int ((m_X7_faulted (3 : Int32)).2)])), (aSR, .inl (cO, 4, .inr (.inr (.inr (.inr sRows))))), (aSh, .inr (4, [.ref aShA, .int sHas, .int sLane, .int sLen])), (aShA, .inl (cI, 60, .inl sA)), (aShb, .inr (4, [.ref aShbA, .int sHasb, .int sLaneb, .int sLenb])), (aShbA, .inl (cI, 60, .inl sAb))]) (st' := [.int ((m_X7_faulted (3 : Int32)).1)]) (nw := 6) (n1 := 1) hC gX7_copy_X7_faulted hdV_yX7_faulted 0 rfl rfl (As := [.int (3 : Int32)]) (rest := []) (c_X7_faulted D cI aLL aRE aRT aWE aKE aRD aTE aSR (0 : Int32) (3 : Int32)) rfl ⟨by decide, by decide⟩ rfl [0] [1, 2, 3, 4, 5] [5, 0, 1, 2, 3, 4] [0] rfl rfl rfl rfl (by decide) rfl rfl (Nat.le_of_ble_eq_true rfl) dX7_copy_97 rfl rfl ?_
          subst hres
          exact g_iret hC hX rfl dX7_copy_100 rfl rfl
        · rw [if_neg c_80] at hres
          refine g_aload hC dX7_copy_83 0 rfl rfl ?_
          refine g_iload hC dX7_copy_85 6 rfl rfl ?_
          refine g_iload hC dX7_copy_87 7 rfl rfl ?_
          refine g_callV (ws' := [(aLL, .inr (7, [.ref aRE, .ref aRT, .ref aWE, .ref aKE, .ref aRD, .ref aTE, .ref aSR, .int (0 : Int32)])), (aSR, .inl (cO, 4, .inr (.inr (.inr (.inr sRows))))), (aSh, .inr (4, [.ref aShA, .int sHas, .int sLane, .int sLen])), (aShA, .inl (cI, 60, .inl sA)), (aShb, .inr (4, [.ref aShbA, .int sHasb, .int sLaneb, .int sLenb])), (aShbA, .inl (cI, 60, .inl sAb))]) (st' := [.int (m_X4_holds sLenb j n)]) (nw := 6) (n1 := 1) hC gX7_copy_X4_holds hdV_yX4_holds 4 rfl rfl (As := [.int j, .int n]) (rest := []) (c_X4_holds D cI aShb aShbA sHasb sLaneb sLenb j n) rfl ⟨by decide, by decide⟩ rfl [4] [0, 1, 2, 3, 5] [0, 1, 2, 3, 5, 4] [0] rfl rfl rfl rfl (by decide) rfl rfl (Nat.le_of_ble_eq_true rfl) dX7_copy_89 rfl rfl ?_
          refine g_if_ne (tgt := 101) hC dX7_copy_92 (by decide) rfl (fun c_92 => ?_) (fun c_92 => ?_)
          · rw [if_neg c_92] at hres
            refine g_aload hC dX7_copy_101 1 rfl rfl ?_
            refine g_get hC iw_X7_copy_RX4 2 rfl rfl 0 (by decide) (List.mem_of_getElem? (i := 4) rfl) rfl rfl dX7_copy_103 rfl ?_
            refine g_iload_n hC dX7_copy_106 rfl 4 rfl rfl ?_
            refine g_aload hC dX7_copy_107 0 rfl rfl ?_
            refine g_get hC iw_X7_copy_RX4 4 rfl rfl 0 (by decide) (List.mem_of_getElem? (i := 4) rfl) rfl rfl dX7_copy_109 rfl ?_
            refine g_iload hC dX7_copy_112 6 rfl rfl ?_
            refine g_iload hC dX7_copy_114 7 rfl rfl ?_
            refine g_copyi (ws' := [(aLL, .inr (7, [.ref aRE, .ref aRT, .ref aWE, .ref aKE, .ref aRD, .ref aTE, .ref aSR, .int (0 : Int32)])), (aSR, .inl (cO, 4, .inr (.inr (.inr (.inr sRows))))), (aSh, .inr (4, [.ref aShA, .int sHas, .int sLane, .int sLen])), (aShA, .inl (cI, 60, .inl sA)), (aShb, .inr (4, [.ref aShbA, .int sHasb, .int sLaneb, .int sLenb])), (aShbA, .inl (cI, 60, .inl (va_cpy sA sAb i.toNatClampNeg j.toNatClampNeg n.toNatClampNeg)))]) hC (List.mem_of_getElem? (i := 5) rfl) (List.mem_of_getElem? (i := 6) rfl) (List.mem_of_getElem? (i := 7) rfl) (List.mem_of_getElem? (i := 8) rfl) 3 5 0 rfl rfl rfl (holds_ok c_80 hln).1 (holds_ok c_92 hlnb).1 (holds_ok c_80 hln).2.1 (holds_ok c_80 hln).2.2 (holds_ok c_92 hlnb).2.2 (by decide) (Nat.le_of_ble_eq_true rfl) dX7_copy_116 rfl rfl ?_
            refine g_iload hC dX7_copy_119 7 rfl rfl ?_
            subst hres
            exact g_iret hC hX rfl dX7_copy_121 rfl rfl
          · rw [if_pos c_92] at hres
            refine g_aload_n hC dX7_copy_95 rfl 2 rfl rfl ?_
            refine g_iconst (v := 3) hC dX7_copy_96 (by decide) rfl ?_
            refine g_callV (ws' := [(aLL, .inr (7, [.ref aRE, .ref aRT, .ref aWE, .ref aKE, .ref aRD, .ref aTE, .ref aSR, .int ((m_X7_faulted (3 : Int32)).2)])), (aSR, .inl (cO, 4, .inr (.inr (.inr (.inr sRows))))), (aSh, .inr (4, [.ref aShA, .int sHas, .int sLane, .int sLen])), (aShA, .inl (cI, 60, .inl sA)), (aShb, .inr (4, [.ref aShbA, .int sHasb, .int sLaneb, .int sLenb])), (aShbA, .inl (cI, 60, .inl sAb))]) (st' := [.int ((m_X7_faulted (3 : Int32)).1)]) (nw := 6) (n1 := 1) hC gX7_copy_X7_faulted hdV_yX7_faulted 0 rfl rfl (As := [.int (3 : Int32)]) (rest := []) (c_X7_faulted D cI aLL aRE aRT aWE aKE aRD aTE aSR (0 : Int32) (3 : Int32)) rfl ⟨by decide, by decide⟩ rfl [0] [1, 2, 3, 4, 5] [5, 0, 1, 2, 3, 4] [0] rfl rfl rfl rfl (by decide) rfl rfl (Nat.le_of_ble_eq_true rfl) dX7_copy_97 rfl rfl ?_
            subst hres
            exact g_iret hC hX rfl dX7_copy_100 rfl rfl
      · rw [if_neg c_63] at hres
        refine g_aload_n hC dX7_copy_66 rfl 2 rfl rfl ?_
        refine g_iconst (v := 2) hC dX7_copy_67 (by decide) rfl ?_
        refine g_callV (ws' := [(aLL, .inr (7, [.ref aRE, .ref aRT, .ref aWE, .ref aKE, .ref aRD, .ref aTE, .ref aSR, .int ((m_X7_faulted (2 : Int32)).2)])), (aSR, .inl (cO, 4, .inr (.inr (.inr (.inr sRows))))), (aSh, .inr (4, [.ref aShA, .int sHas, .int sLane, .int sLen])), (aShA, .inl (cI, 60, .inl sA)), (aShb, .inr (4, [.ref aShbA, .int sHasb, .int sLaneb, .int sLenb])), (aShbA, .inl (cI, 60, .inl sAb))]) (st' := [.int ((m_X7_faulted (2 : Int32)).1)]) (nw := 6) (n1 := 1) hC gX7_copy_X7_faulted hdV_yX7_faulted 0 rfl rfl (As := [.int (2 : Int32)]) (rest := []) (c_X7_faulted D cI aLL aRE aRT aWE aKE aRD aTE aSR (0 : Int32) (2 : Int32)) rfl ⟨by decide, by decide⟩ rfl [0] [1, 2, 3, 4, 5] [5, 0, 1, 2, 3, 4] [0] rfl rfl rfl rfl (by decide) rfl rfl (Nat.le_of_ble_eq_true rfl) dX7_copy_68 rfl rfl ?_
        subst hres
        exact g_iret hC hX rfl dX7_copy_71 rfl rfl
    · rw [if_pos c_44] at hres
      refine g_aload_n hC dX7_copy_47 rfl 2 rfl rfl ?_
      refine g_iconst (v := 1) hC dX7_copy_48 (by decide) rfl ?_
      refine g_callV (ws' := [(aLL, .inr (7, [.ref aRE, .ref aRT, .ref aWE, .ref aKE, .ref aRD, .ref aTE, .ref aSR, .int ((m_X7_faulted (1 : Int32)).2)])), (aSR, .inl (cO, 4, .inr (.inr (.inr (.inr sRows))))), (aSh, .inr (4, [.ref aShA, .int sHas, .int sLane, .int sLen])), (aShA, .inl (cI, 60, .inl sA)), (aShb, .inr (4, [.ref aShbA, .int sHasb, .int sLaneb, .int sLenb])), (aShbA, .inl (cI, 60, .inl sAb))]) (st' := [.int ((m_X7_faulted (1 : Int32)).1)]) (nw := 6) (n1 := 1) hC gX7_copy_X7_faulted hdV_yX7_faulted 0 rfl rfl (As := [.int (1 : Int32)]) (rest := []) (c_X7_faulted D cI aLL aRE aRT aWE aKE aRD aTE aSR (0 : Int32) (1 : Int32)) rfl ⟨by decide, by decide⟩ rfl [0] [1, 2, 3, 4, 5] [5, 0, 1, 2, 3, 4] [0] rfl rfl rfl rfl (by decide) rfl rfl (Nat.le_of_ble_eq_true rfl) dX7_copy_49 rfl rfl ?_
      subst hres
      exact g_iret hC hX rfl dX7_copy_52 rfl rfl
def m_X7_copy_same (sHas : Int32) (sLane : Int32) (sLen : Int32) (sA : Nat → Int32) (i : Int32) (j : Int32) (n : Int32) : (Int32 × Int32 × (Nat → Int32)) := (if sHas = 0 then ((m_X7_faulted (1 : Int32)).1, (m_X7_faulted (1 : Int32)).2, sA) else (if sHas = 0 then ((m_X7_faulted (1 : Int32)).1, (m_X7_faulted (1 : Int32)).2, sA) else (if sLane = sLane then (if (m_X4_holds sLen i n) = 0 then ((m_X7_faulted (3 : Int32)).1, (m_X7_faulted (3 : Int32)).2, sA) else (if (m_X4_holds sLen j n) = 0 then ((m_X7_faulted (3 : Int32)).1, (m_X7_faulted (3 : Int32)).2, sA) else (n, (0 : Int32), (va_cpy sA sA i.toNatClampNeg j.toNatClampNeg n.toNatClampNeg)))) else ((m_X7_faulted (2 : Int32)).1, (m_X7_faulted (2 : Int32)).2, sA))))
set_option maxRecDepth 100000 in
set_option maxHeartbeats 4000000 in
theorem c_X7_copy_same (D : va_G) (cI : ClassId) (cO : ClassId) (aLL : Nat) (aRE : Nat) (aRT : Nat) (aWE : Nat) (aKE : Nat) (aRD : Nat) (aTE : Nat) (aSR : Nat) (lFault : Int32) (sRows : Nat → Option Nat) (aSh : Nat) (aShA : Nat) (sHas : Int32) (sLane : Int32) (sLen : Int32) (sA : Nat → Int32) (k : Int32) (i : Int32) (o : Int32) (j : Int32) (n : Int32) (hsh : m_X7_sheetOf sRows k = some aSh) (hshb : m_X7_sheetOf sRows o = some aSh) (hln : 0 ≤ sLen.toInt ∧ sLen.toInt ≤ 60) : MC yX7_copy wsX7_copy ({ frames := 1, cells := 0, slots := 0, locals := 60 } : Room) D [(cI, .int), (cO, .object "LinenLaw$Sheet")] [.ref aLL, .int k, .int i, .int o, .int j, .int n] [(aLL, .inr (7, [.ref aRE, .ref aRT, .ref aWE, .ref aKE, .ref aRD, .ref aTE, .ref aSR, .int lFault])), (aSR, .inl (cO, 4, .inr (.inr (.inr (.inr sRows))))), (aSh, .inr (4, [.ref aShA, .int sHas, .int sLane, .int sLen])), (aShA, .inl (cI, 60, .inl sA))] (some (.int ((m_X7_copy_same sHas sLane sLen sA i j n).1))) [(aLL, .inr (7, [.ref aRE, .ref aRT, .ref aWE, .ref aKE, .ref aRD, .ref aTE, .ref aSR, .int ((m_X7_copy_same sHas sLane sLen sA i j n).2.1)])), (aSR, .inl (cO, 4, .inr (.inr (.inr (.inr sRows))))), (aSh, .inr (4, [.ref aShA, .int sHas, .int sLane, .int sLen])), (aShA, .inl (cI, 60, .inl ((m_X7_copy_same sHas sLane sLen sA i j n).2.2)))] := by
  refine g_entry (by decide) rfl rfl rfl rfl (Nat.le_of_ble_eq_true rfl) (lv := [(0, .ref aLL), (1, .int k), (2, .int i), (3, .int o), (4, .int j), (5, .int n)]) rfl ?_
  intro X hC hX
  obtain ⟨res, hres⟩ : ∃ z, z = (m_X7_copy_same sHas sLane sLen sA i j n) := ⟨_, rfl⟩
  rw [← hres] at hX
  rw [m_X7_copy_same] at hres
  refine g_aload_n hC dX7_copy_0 rfl 0 rfl rfl ?_
  refine g_iconst (v := 0) hC dX7_copy_1 (by decide) rfl ?_
  refine g_put (ws' := [(aLL, .inr (7, [.ref aRE, .ref aRT, .ref aWE, .ref aKE, .ref aRD, .ref aTE, .ref aSR, .int (0 : Int32)])), (aSR, .inl (cO, 4, .inr (.inr (.inr (.inr sRows))))), (aSh, .inr (4, [.ref aShA, .int sHas, .int sLane, .int sLen])), (aShA, .inl (cI, 60, .inl sA))]) hC iw_X7_copy_RX7 0 rfl rfl 7 (by decide) (List.mem_of_getElem? (i := 1) rfl) rfl tyX7 tyX7_ok nmX7 rfl rfl rfl (Nat.le_of_ble_eq_true rfl) rfl dX7_copy_2 rfl ?_
  refine g_aload_n hC dX7_copy_5 rfl 0 rfl rfl ?_
  refine g_iload_n hC dX7_copy_6 rfl 1 rfl rfl ?_
  refine g_callV (ws' := [(aLL, .inr (7, [.ref aRE, .ref aRT, .ref aWE, .ref aKE, .ref aRD, .ref aTE, .ref aSR, .int (0 : Int32)])), (aSR, .inl (cO, 4, .inr (.inr (.inr (.inr sRows))))), (aSh, .inr (4, [.ref aShA, .int sHas, .int sLane, .int sLen])), (aShA, .inl (cI, 60, .inl sA))]) (st' := [.ref aSh]) (nw := 4) (n1 := 2) hC gX7_copy_X7_sheetOf hdV_yX7_sheetOf 0 rfl rfl (As := [.int k]) (rest := []) (c_X7_sheetOf D cI cO aLL aRE aRT aWE aKE aRD aTE aSR (0 : Int32) sRows k) rfl ⟨by decide, by decide⟩ rfl [0, 1] [2, 3] [2, 3, 0, 1] [0, 1] rfl rfl rfl rfl (by decide) rfl rfl (Nat.le_of_ble_eq_true rfl) dX7_copy_7 rfl (by rw [hsh]; rfl) ?_
  refine g_astore (lv' := [(6, .ref aSh), (0, .ref aLL), (1, .int k), (2, .int i), (3, .int o), (4, .int j), (5, .int n)]) hC dX7_copy_10 (by decide) rfl rfl ?_
  refine g_aload_n hC dX7_copy_12 rfl 1 rfl rfl ?_
  refine g_iload_n hC dX7_copy_13 rfl 4 rfl rfl ?_
  refine g_callV (ws' := [(aLL, .inr (7, [.ref aRE, .ref aRT, .ref aWE, .ref aKE, .ref aRD, .ref aTE, .ref aSR, .int (0 : Int32)])), (aSR, .inl (cO, 4, .inr (.inr (.inr (.inr sRows))))), (aSh, .inr (4, [.ref aShA, .int sHas, .int sLane, .int sLen])), (aShA, .inl (cI, 60, .inl sA))]) (st' := [.ref aSh]) (nw := 4) (n1 := 2) hC gX7_copy_X7_sheetOf hdV_yX7_sheetOf 0 rfl rfl (As := [.int o]) (rest := []) (c_X7_sheetOf D cI cO aLL aRE aRT aWE aKE aRD aTE aSR (0 : Int32) sRows o) rfl ⟨by decide, by decide⟩ rfl [0, 1] [2, 3] [2, 3, 0, 1] [0, 1] rfl rfl rfl rfl (by decide) rfl rfl (Nat.le_of_ble_eq_true rfl) dX7_copy_14 rfl (by rw [hshb]; rfl) ?_
  refine g_astore (lv' := [(7, .ref aSh), (6, .ref aSh), (0, .ref aLL), (1, .int k), (2, .int i), (3, .int o), (4, .int j), (5, .int n)]) hC dX7_copy_17 (by decide) rfl rfl ?_
  refine g_aload hC dX7_copy_19 1 rfl rfl ?_
  refine g_ifnull hC dX7_copy_21 rfl ?_
  refine g_aload hC dX7_copy_24 0 rfl rfl ?_
  refine g_ifnonnull (tgt := 31) hC dX7_copy_26 (by decide) ?_
  refine g_aload hC dX7_copy_31 1 rfl rfl ?_
  refine g_get hC iw_X7_copy_RX4 2 rfl rfl 1 (by decide) (List.mem_of_getElem? (i := 2) rfl) rfl rfl dX7_copy_33 rfl ?_
  refine g_if_eq (tgt := 47) hC dX7_copy_36 (by decide) rfl (fun c_36 => ?_) (fun c_36 => ?_)
  · replace hres := hres.trans (if_pos c_36)
    refine g_aload_n hC dX7_copy_47 rfl 2 rfl rfl ?_
    refine g_iconst (v := 1) hC dX7_copy_48 (by decide) rfl ?_
    refine g_callV (ws' := [(aLL, .inr (7, [.ref aRE, .ref aRT, .ref aWE, .ref aKE, .ref aRD, .ref aTE, .ref aSR, .int ((m_X7_faulted (1 : Int32)).2)])), (aSR, .inl (cO, 4, .inr (.inr (.inr (.inr sRows))))), (aSh, .inr (4, [.ref aShA, .int sHas, .int sLane, .int sLen])), (aShA, .inl (cI, 60, .inl sA))]) (st' := [.int ((m_X7_faulted (1 : Int32)).1)]) (nw := 4) (n1 := 1) hC gX7_copy_X7_faulted hdV_yX7_faulted 0 rfl rfl (As := [.int (1 : Int32)]) (rest := []) (c_X7_faulted D cI aLL aRE aRT aWE aKE aRD aTE aSR (0 : Int32) (1 : Int32)) rfl ⟨by decide, by decide⟩ rfl [0] [1, 2, 3] [3, 0, 1, 2] [0] rfl rfl rfl rfl (by decide) rfl rfl (Nat.le_of_ble_eq_true rfl) dX7_copy_49 rfl rfl ?_
    subst hres
    exact g_iret hC hX rfl dX7_copy_52 rfl rfl
  · replace hres := hres.trans (if_neg c_36)
    refine g_aload hC dX7_copy_39 0 rfl rfl ?_
    refine g_get hC iw_X7_copy_RX4 2 rfl rfl 1 (by decide) (List.mem_of_getElem? (i := 2) rfl) rfl rfl dX7_copy_41 rfl ?_
    refine g_if_ne (tgt := 53) hC dX7_copy_44 (by decide) rfl (fun c_44 => ?_) (fun c_44 => ?_)
    · rw [if_neg c_44] at hres
      refine g_aload hC dX7_copy_53 1 rfl rfl ?_
      refine g_get hC iw_X7_copy_RX4 2 rfl rfl 2 (by decide) (List.mem_of_getElem? (i := 3) rfl) rfl rfl dX7_copy_55 rfl ?_
      refine g_aload hC dX7_copy_58 0 rfl rfl ?_
      refine g_get hC iw_X7_copy_RX4 2 rfl rfl 2 (by decide) (List.mem_of_getElem? (i := 3) rfl) rfl rfl dX7_copy_60 rfl ?_
      refine g_icmp_eq (tgt := 72) hC dX7_copy_63 (by decide) rfl (fun c_63 => ?_) (fun c_63 => ?_)
      · rw [if_pos c_63] at hres
        refine g_aload hC dX7_copy_72 1 rfl rfl ?_
        refine g_iload_n hC dX7_copy_74 rfl 4 rfl rfl ?_
        refine g_iload hC dX7_copy_75 7 rfl rfl ?_
        refine g_callV (ws' := [(aLL, .inr (7, [.ref aRE, .ref aRT, .ref aWE, .ref aKE, .ref aRD, .ref aTE, .ref aSR, .int (0 : Int32)])), (aSR, .inl (cO, 4, .inr (.inr (.inr (.inr sRows))))), (aSh, .inr (4, [.ref aShA, .int sHas, .int sLane, .int sLen])), (aShA, .inl (cI, 60, .inl sA))]) (st' := [.int (m_X4_holds sLen i n)]) (nw := 4) (n1 := 1) hC gX7_copy_X4_holds hdV_yX4_holds 2 rfl rfl (As := [.int i, .int n]) (rest := []) (c_X4_holds D cI aSh aShA sHas sLane sLen i n) rfl ⟨by decide, by decide⟩ rfl [2] [0, 1, 3] [0, 1, 3, 2] [0] rfl rfl rfl rfl (by decide) rfl rfl (Nat.le_of_ble_eq_true rfl) dX7_copy_77 rfl rfl ?_
        refine g_if_eq (tgt := 95) hC dX7_copy_80 (by decide) rfl (fun c_80 => ?_) (fun c_80 => ?_)
        · rw [if_pos c_80] at hres
          refine g_aload_n hC dX7_copy_95 rfl 2 rfl rfl ?_
          refine g_iconst (v := 3) hC dX7_copy_96 (by decide) rfl ?_
          refine g_callV (ws' := [(aLL, .inr (7, [.ref aRE, .ref aRT, .ref aWE, .ref aKE, .ref aRD, .ref aTE, .ref aSR, .int ((m_X7_faulted (3 : Int32)).2)])), (aSR, .inl (cO, 4, .inr (.inr (.inr (.inr sRows))))), (aSh, .inr (4, [.ref aShA, .int sHas, .int sLane, .int sLen])), (aShA, .inl (cI, 60, .inl sA))]) (st' := [.int ((m_X7_faulted (3 : Int32)).1)]) (nw := 4) (n1 := 1) hC gX7_copy_X7_faulted hdV_yX7_faulted 0 rfl rfl (As := [.int (3 : Int32)]) (rest := []) (c_X7_faulted D cI aLL aRE aRT aWE aKE aRD aTE aSR (0 : Int32) (3 : Int32)) rfl ⟨by decide, by decide⟩ rfl [0] [1, 2, 3] [3, 0, 1, 2] [0] rfl rfl rfl rfl (by decide) rfl rfl (Nat.le_of_ble_eq_true rfl) dX7_copy_97 rfl rfl ?_
          subst hres
          exact g_iret hC hX rfl dX7_copy_100 rfl rfl
        · rw [if_neg c_80] at hres
          refine g_aload hC dX7_copy_83 0 rfl rfl ?_
          refine g_iload hC dX7_copy_85 6 rfl rfl ?_
          refine g_iload hC dX7_copy_87 7 rfl rfl ?_
          refine g_callV (ws' := [(aLL, .inr (7, [.ref aRE, .ref aRT, .ref aWE, .ref aKE, .ref aRD, .ref aTE, .ref aSR, .int (0 : Int32)])), (aSR, .inl (cO, 4, .inr (.inr (.inr (.inr sRows))))), (aSh, .inr (4, [.ref aShA, .int sHas, .int sLane, .int sLen])), (aShA, .inl (cI, 60, .inl sA))]) (st' := [.int (m_X4_holds sLen j n)]) (nw := 4) (n1 := 1) hC gX7_copy_X4_holds hdV_yX4_holds 2 rfl rfl (As := [.int j, .int n]) (rest := []) (c_X4_holds D cI aSh aShA sHas sLane sLen j n) rfl ⟨by decide, by decide⟩ rfl [2] [0, 1, 3] [0, 1, 3, 2] [0] rfl rfl rfl rfl (by decide) rfl rfl (Nat.le_of_ble_eq_true rfl) dX7_copy_89 rfl rfl ?_
          refine g_if_ne (tgt := 101) hC dX7_copy_92 (by decide) rfl (fun c_92 => ?_) (fun c_92 => ?_)
          · rw [if_neg c_92] at hres
            refine g_aload hC dX7_copy_101 1 rfl rfl ?_
            refine g_get hC iw_X7_copy_RX4 2 rfl rfl 0 (by decide) (List.mem_of_getElem? (i := 4) rfl) rfl rfl dX7_copy_103 rfl ?_
            refine g_iload_n hC dX7_copy_106 rfl 4 rfl rfl ?_
            refine g_aload hC dX7_copy_107 0 rfl rfl ?_
            refine g_get hC iw_X7_copy_RX4 2 rfl rfl 0 (by decide) (List.mem_of_getElem? (i := 4) rfl) rfl rfl dX7_copy_109 rfl ?_
            refine g_iload hC dX7_copy_112 6 rfl rfl ?_
            refine g_iload hC dX7_copy_114 7 rfl rfl ?_
            refine g_copyi (ws' := [(aLL, .inr (7, [.ref aRE, .ref aRT, .ref aWE, .ref aKE, .ref aRD, .ref aTE, .ref aSR, .int (0 : Int32)])), (aSR, .inl (cO, 4, .inr (.inr (.inr (.inr sRows))))), (aSh, .inr (4, [.ref aShA, .int sHas, .int sLane, .int sLen])), (aShA, .inl (cI, 60, .inl (va_cpy sA sA i.toNatClampNeg j.toNatClampNeg n.toNatClampNeg)))]) hC (List.mem_of_getElem? (i := 5) rfl) (List.mem_of_getElem? (i := 6) rfl) (List.mem_of_getElem? (i := 7) rfl) (List.mem_of_getElem? (i := 8) rfl) 3 3 0 rfl rfl rfl (holds_ok c_80 hln).1 (holds_ok c_92 hln).1 (holds_ok c_80 hln).2.1 (holds_ok c_80 hln).2.2 (holds_ok c_92 hln).2.2 (by decide) (Nat.le_of_ble_eq_true rfl) dX7_copy_116 rfl rfl ?_
            refine g_iload hC dX7_copy_119 7 rfl rfl ?_
            subst hres
            exact g_iret hC hX rfl dX7_copy_121 rfl rfl
          · rw [if_pos c_92] at hres
            refine g_aload_n hC dX7_copy_95 rfl 2 rfl rfl ?_
            refine g_iconst (v := 3) hC dX7_copy_96 (by decide) rfl ?_
            refine g_callV (ws' := [(aLL, .inr (7, [.ref aRE, .ref aRT, .ref aWE, .ref aKE, .ref aRD, .ref aTE, .ref aSR, .int ((m_X7_faulted (3 : Int32)).2)])), (aSR, .inl (cO, 4, .inr (.inr (.inr (.inr sRows))))), (aSh, .inr (4, [.ref aShA, .int sHas, .int sLane, .int sLen])), (aShA, .inl (cI, 60, .inl sA))]) (st' := [.int ((m_X7_faulted (3 : Int32)).1)]) (nw := 4) (n1 := 1) hC gX7_copy_X7_faulted hdV_yX7_faulted 0 rfl rfl (As := [.int (3 : Int32)]) (rest := []) (c_X7_faulted D cI aLL aRE aRT aWE aKE aRD aTE aSR (0 : Int32) (3 : Int32)) rfl ⟨by decide, by decide⟩ rfl [0] [1, 2, 3] [3, 0, 1, 2] [0] rfl rfl rfl rfl (by decide) rfl rfl (Nat.le_of_ble_eq_true rfl) dX7_copy_97 rfl rfl ?_
            subst hres
            exact g_iret hC hX rfl dX7_copy_100 rfl rfl
      · rw [if_neg c_63] at hres
        refine g_aload_n hC dX7_copy_66 rfl 2 rfl rfl ?_
        refine g_iconst (v := 2) hC dX7_copy_67 (by decide) rfl ?_
        refine g_callV (ws' := [(aLL, .inr (7, [.ref aRE, .ref aRT, .ref aWE, .ref aKE, .ref aRD, .ref aTE, .ref aSR, .int ((m_X7_faulted (2 : Int32)).2)])), (aSR, .inl (cO, 4, .inr (.inr (.inr (.inr sRows))))), (aSh, .inr (4, [.ref aShA, .int sHas, .int sLane, .int sLen])), (aShA, .inl (cI, 60, .inl sA))]) (st' := [.int ((m_X7_faulted (2 : Int32)).1)]) (nw := 4) (n1 := 1) hC gX7_copy_X7_faulted hdV_yX7_faulted 0 rfl rfl (As := [.int (2 : Int32)]) (rest := []) (c_X7_faulted D cI aLL aRE aRT aWE aKE aRD aTE aSR (0 : Int32) (2 : Int32)) rfl ⟨by decide, by decide⟩ rfl [0] [1, 2, 3] [3, 0, 1, 2] [0] rfl rfl rfl rfl (by decide) rfl rfl (Nat.le_of_ble_eq_true rfl) dX7_copy_68 rfl rfl ?_
        subst hres
        exact g_iret hC hX rfl dX7_copy_71 rfl rfl
    · rw [if_pos c_44] at hres
      refine g_aload_n hC dX7_copy_47 rfl 2 rfl rfl ?_
      refine g_iconst (v := 1) hC dX7_copy_48 (by decide) rfl ?_
      refine g_callV (ws' := [(aLL, .inr (7, [.ref aRE, .ref aRT, .ref aWE, .ref aKE, .ref aRD, .ref aTE, .ref aSR, .int ((m_X7_faulted (1 : Int32)).2)])), (aSR, .inl (cO, 4, .inr (.inr (.inr (.inr sRows))))), (aSh, .inr (4, [.ref aShA, .int sHas, .int sLane, .int sLen])), (aShA, .inl (cI, 60, .inl sA))]) (st' := [.int ((m_X7_faulted (1 : Int32)).1)]) (nw := 4) (n1 := 1) hC gX7_copy_X7_faulted hdV_yX7_faulted 0 rfl rfl (As := [.int (1 : Int32)]) (rest := []) (c_X7_faulted D cI aLL aRE aRT aWE aKE aRD aTE aSR (0 : Int32) (1 : Int32)) rfl ⟨by decide, by decide⟩ rfl [0] [1, 2, 3] [3, 0, 1, 2] [0] rfl rfl rfl rfl (by decide) rfl rfl (Nat.le_of_ble_eq_true rfl) dX7_copy_49 rfl rfl ?_
      subst hres
      exact g_iret hC hX rfl dX7_copy_52 rfl rfl
def m_X7_copy_o1 : (Int32 × Int32) := ((-1 : Int32), (0 : Int32))
set_option maxRecDepth 100000 in
set_option maxHeartbeats 4000000 in
theorem c_X7_copy_o1 (D : va_G) (cI : ClassId) (cO : ClassId) (aLL : Nat) (aRE : Nat) (aRT : Nat) (aWE : Nat) (aKE : Nat) (aRD : Nat) (aTE : Nat) (aSR : Nat) (lFault : Int32) (sRows : Nat → Option Nat) (k : Int32) (i : Int32) (o : Int32) (j : Int32) (n : Int32) (hsh : m_X7_sheetOf sRows k = none) (hshb : m_X7_sheetOf sRows o = none) : MC yX7_copy wsX7_copy ({ frames := 1, cells := 0, slots := 0, locals := 21 } : Room) D [(cI, .int), (cO, .object "LinenLaw$Sheet")] [.ref aLL, .int k, .int i, .int o, .int j, .int n] [(aLL, .inr (7, [.ref aRE, .ref aRT, .ref aWE, .ref aKE, .ref aRD, .ref aTE, .ref aSR, .int lFault])), (aSR, .inl (cO, 4, .inr (.inr (.inr (.inr sRows)))))] (some (.int m_X7_copy_o1.1)) [(aLL, .inr (7, [.ref aRE, .ref aRT, .ref aWE, .ref aKE, .ref aRD, .ref aTE, .ref aSR, .int m_X7_copy_o1.2])), (aSR, .inl (cO, 4, .inr (.inr (.inr (.inr sRows)))))] := by
  refine g_entry (by decide) rfl rfl rfl rfl (Nat.le_of_ble_eq_true rfl) (lv := [(0, .ref aLL), (1, .int k), (2, .int i), (3, .int o), (4, .int j), (5, .int n)]) rfl ?_
  intro X hC hX
  obtain ⟨res, hres⟩ : ∃ z, z = m_X7_copy_o1 := ⟨_, rfl⟩
  rw [← hres] at hX
  rw [m_X7_copy_o1] at hres
  refine g_aload_n hC dX7_copy_0 rfl 0 rfl rfl ?_
  refine g_iconst (v := 0) hC dX7_copy_1 (by decide) rfl ?_
  refine g_put (ws' := [(aLL, .inr (7, [.ref aRE, .ref aRT, .ref aWE, .ref aKE, .ref aRD, .ref aTE, .ref aSR, .int (0 : Int32)])), (aSR, .inl (cO, 4, .inr (.inr (.inr (.inr sRows)))))]) hC iw_X7_copy_RX7 0 rfl rfl 7 (by decide) (List.mem_of_getElem? (i := 1) rfl) rfl tyX7 tyX7_ok nmX7 rfl rfl rfl (Nat.le_of_ble_eq_true rfl) rfl dX7_copy_2 rfl ?_
  refine g_aload_n hC dX7_copy_5 rfl 0 rfl rfl ?_
  refine g_iload_n hC dX7_copy_6 rfl 1 rfl rfl ?_
  refine g_callV (ws' := [(aLL, .inr (7, [.ref aRE, .ref aRT, .ref aWE, .ref aKE, .ref aRD, .ref aTE, .ref aSR, .int (0 : Int32)])), (aSR, .inl (cO, 4, .inr (.inr (.inr (.inr sRows)))))]) (st' := [.null]) (nw := 2) (n1 := 2) hC gX7_copy_X7_sheetOf hdV_yX7_sheetOf 0 rfl rfl (As := [.int k]) (rest := []) (c_X7_sheetOf D cI cO aLL aRE aRT aWE aKE aRD aTE aSR (0 : Int32) sRows k) rfl ⟨by decide, by decide⟩ rfl [0, 1] [] [0, 1] [0, 1] rfl rfl rfl rfl (by decide) rfl rfl (Nat.le_of_ble_eq_true rfl) dX7_copy_7 rfl (by rw [hsh]; rfl) ?_
  refine g_astoreN (lv' := [(6, .null), (0, .ref aLL), (1, .int k), (2, .int i), (3, .int o), (4, .int j), (5, .int n)]) hC dX7_copy_10 (by decide) rfl rfl ?_
  refine g_aload_n hC dX7_copy_12 rfl 1 rfl rfl ?_
  refine g_iload_n hC dX7_copy_13 rfl 4 rfl rfl ?_
  refine g_callV (ws' := [(aLL, .inr (7, [.ref aRE, .ref aRT, .ref aWE, .ref aKE, .ref aRD, .ref aTE, .ref aSR, .int (0 : Int32)])), (aSR, .inl (cO, 4, .inr (.inr (.inr (.inr sRows)))))]) (st' := [.null]) (nw := 2) (n1 := 2) hC gX7_copy_X7_sheetOf hdV_yX7_sheetOf 0 rfl rfl (As := [.int o]) (rest := []) (c_X7_sheetOf D cI cO aLL aRE aRT aWE aKE aRD aTE aSR (0 : Int32) sRows o) rfl ⟨by decide, by decide⟩ rfl [0, 1] [] [0, 1] [0, 1] rfl rfl rfl rfl (by decide) rfl rfl (Nat.le_of_ble_eq_true rfl) dX7_copy_14 rfl (by rw [hshb]; rfl) ?_
  refine g_astoreN (lv' := [(7, .null), (6, .null), (0, .ref aLL), (1, .int k), (2, .int i), (3, .int o), (4, .int j), (5, .int n)]) hC dX7_copy_17 (by decide) rfl rfl ?_
  refine g_aloadN hC dX7_copy_19 1 rfl rfl ?_
  refine g_ifnullN (tgt := 29) hC dX7_copy_21 (by decide) ?_
  refine g_iconst (v := -1) hC dX7_copy_29 (by decide) rfl ?_
  subst hres
  exact g_iret hC hX rfl dX7_copy_30 rfl rfl
def m_X7_copy_o3 : (Int32 × Int32) := ((-1 : Int32), (0 : Int32))
set_option maxRecDepth 100000 in
set_option maxHeartbeats 4000000 in
theorem c_X7_copy_o3 (D : va_G) (cI : ClassId) (cO : ClassId) (aLL : Nat) (aRE : Nat) (aRT : Nat) (aWE : Nat) (aKE : Nat) (aRD : Nat) (aTE : Nat) (aSR : Nat) (lFault : Int32) (sRows : Nat → Option Nat) (k : Int32) (i : Int32) (o : Int32) (j : Int32) (n : Int32) (aShb : Nat) (hsh : m_X7_sheetOf sRows k = none) (hshb : m_X7_sheetOf sRows o = some aShb) : MC yX7_copy wsX7_copy ({ frames := 1, cells := 0, slots := 0, locals := 21 } : Room) D [(cI, .int), (cO, .object "LinenLaw$Sheet")] [.ref aLL, .int k, .int i, .int o, .int j, .int n] [(aLL, .inr (7, [.ref aRE, .ref aRT, .ref aWE, .ref aKE, .ref aRD, .ref aTE, .ref aSR, .int lFault])), (aSR, .inl (cO, 4, .inr (.inr (.inr (.inr sRows)))))] (some (.int m_X7_copy_o3.1)) [(aLL, .inr (7, [.ref aRE, .ref aRT, .ref aWE, .ref aKE, .ref aRD, .ref aTE, .ref aSR, .int m_X7_copy_o3.2])), (aSR, .inl (cO, 4, .inr (.inr (.inr (.inr sRows)))))] := by
  refine g_entry (by decide) rfl rfl rfl rfl (Nat.le_of_ble_eq_true rfl) (lv := [(0, .ref aLL), (1, .int k), (2, .int i), (3, .int o), (4, .int j), (5, .int n)]) rfl ?_
  intro X hC hX
  obtain ⟨res, hres⟩ : ∃ z, z = m_X7_copy_o3 := ⟨_, rfl⟩
  rw [← hres] at hX
  rw [m_X7_copy_o3] at hres
  refine g_aload_n hC dX7_copy_0 rfl 0 rfl rfl ?_
  refine g_iconst (v := 0) hC dX7_copy_1 (by decide) rfl ?_
  refine g_put (ws' := [(aLL, .inr (7, [.ref aRE, .ref aRT, .ref aWE, .ref aKE, .ref aRD, .ref aTE, .ref aSR, .int (0 : Int32)])), (aSR, .inl (cO, 4, .inr (.inr (.inr (.inr sRows)))))]) hC iw_X7_copy_RX7 0 rfl rfl 7 (by decide) (List.mem_of_getElem? (i := 1) rfl) rfl tyX7 tyX7_ok nmX7 rfl rfl rfl (Nat.le_of_ble_eq_true rfl) rfl dX7_copy_2 rfl ?_
  refine g_aload_n hC dX7_copy_5 rfl 0 rfl rfl ?_
  refine g_iload_n hC dX7_copy_6 rfl 1 rfl rfl ?_
  refine g_callV (ws' := [(aLL, .inr (7, [.ref aRE, .ref aRT, .ref aWE, .ref aKE, .ref aRD, .ref aTE, .ref aSR, .int (0 : Int32)])), (aSR, .inl (cO, 4, .inr (.inr (.inr (.inr sRows)))))]) (st' := [.null]) (nw := 2) (n1 := 2) hC gX7_copy_X7_sheetOf hdV_yX7_sheetOf 0 rfl rfl (As := [.int k]) (rest := []) (c_X7_sheetOf D cI cO aLL aRE aRT aWE aKE aRD aTE aSR (0 : Int32) sRows k) rfl ⟨by decide, by decide⟩ rfl [0, 1] [] [0, 1] [0, 1] rfl rfl rfl rfl (by decide) rfl rfl (Nat.le_of_ble_eq_true rfl) dX7_copy_7 rfl (by rw [hsh]; rfl) ?_
  refine g_astoreN (lv' := [(6, .null), (0, .ref aLL), (1, .int k), (2, .int i), (3, .int o), (4, .int j), (5, .int n)]) hC dX7_copy_10 (by decide) rfl rfl ?_
  refine g_aload_n hC dX7_copy_12 rfl 1 rfl rfl ?_
  refine g_iload_n hC dX7_copy_13 rfl 4 rfl rfl ?_
  refine g_callV (ws' := [(aLL, .inr (7, [.ref aRE, .ref aRT, .ref aWE, .ref aKE, .ref aRD, .ref aTE, .ref aSR, .int (0 : Int32)])), (aSR, .inl (cO, 4, .inr (.inr (.inr (.inr sRows)))))]) (st' := [.ref aShb]) (nw := 2) (n1 := 2) hC gX7_copy_X7_sheetOf hdV_yX7_sheetOf 0 rfl rfl (As := [.int o]) (rest := []) (c_X7_sheetOf D cI cO aLL aRE aRT aWE aKE aRD aTE aSR (0 : Int32) sRows o) rfl ⟨by decide, by decide⟩ rfl [0, 1] [] [0, 1] [0, 1] rfl rfl rfl rfl (by decide) rfl rfl (Nat.le_of_ble_eq_true rfl) dX7_copy_14 rfl (by rw [hshb]; rfl) ?_
  refine g_astore (lv' := [(7, .ref aShb), (6, .null), (0, .ref aLL), (1, .int k), (2, .int i), (3, .int o), (4, .int j), (5, .int n)]) hC dX7_copy_17 (by decide) rfl rfl ?_
  refine g_aloadN hC dX7_copy_19 1 rfl rfl ?_
  refine g_ifnullN (tgt := 29) hC dX7_copy_21 (by decide) ?_
  refine g_iconst (v := -1) hC dX7_copy_29 (by decide) rfl ?_
  subst hres
  exact g_iret hC hX rfl dX7_copy_30 rfl rfl
def m_X7_copy_o2 : (Int32 × Int32) := ((-1 : Int32), (0 : Int32))
set_option maxRecDepth 100000 in
set_option maxHeartbeats 4000000 in
theorem c_X7_copy_o2 (D : va_G) (cI : ClassId) (cO : ClassId) (aLL : Nat) (aRE : Nat) (aRT : Nat) (aWE : Nat) (aKE : Nat) (aRD : Nat) (aTE : Nat) (aSR : Nat) (lFault : Int32) (sRows : Nat → Option Nat) (k : Int32) (i : Int32) (o : Int32) (j : Int32) (n : Int32) (aSh : Nat) (hsh : m_X7_sheetOf sRows k = some aSh) (hshb : m_X7_sheetOf sRows o = none) : MC yX7_copy wsX7_copy ({ frames := 1, cells := 0, slots := 0, locals := 21 } : Room) D [(cI, .int), (cO, .object "LinenLaw$Sheet")] [.ref aLL, .int k, .int i, .int o, .int j, .int n] [(aLL, .inr (7, [.ref aRE, .ref aRT, .ref aWE, .ref aKE, .ref aRD, .ref aTE, .ref aSR, .int lFault])), (aSR, .inl (cO, 4, .inr (.inr (.inr (.inr sRows)))))] (some (.int m_X7_copy_o2.1)) [(aLL, .inr (7, [.ref aRE, .ref aRT, .ref aWE, .ref aKE, .ref aRD, .ref aTE, .ref aSR, .int m_X7_copy_o2.2])), (aSR, .inl (cO, 4, .inr (.inr (.inr (.inr sRows)))))] := by
  refine g_entry (by decide) rfl rfl rfl rfl (Nat.le_of_ble_eq_true rfl) (lv := [(0, .ref aLL), (1, .int k), (2, .int i), (3, .int o), (4, .int j), (5, .int n)]) rfl ?_
  intro X hC hX
  obtain ⟨res, hres⟩ : ∃ z, z = m_X7_copy_o2 := ⟨_, rfl⟩
  rw [← hres] at hX
  rw [m_X7_copy_o2] at hres
  refine g_aload_n hC dX7_copy_0 rfl 0 rfl rfl ?_
  refine g_iconst (v := 0) hC dX7_copy_1 (by decide) rfl ?_
  refine g_put (ws' := [(aLL, .inr (7, [.ref aRE, .ref aRT, .ref aWE, .ref aKE, .ref aRD, .ref aTE, .ref aSR, .int (0 : Int32)])), (aSR, .inl (cO, 4, .inr (.inr (.inr (.inr sRows)))))]) hC iw_X7_copy_RX7 0 rfl rfl 7 (by decide) (List.mem_of_getElem? (i := 1) rfl) rfl tyX7 tyX7_ok nmX7 rfl rfl rfl (Nat.le_of_ble_eq_true rfl) rfl dX7_copy_2 rfl ?_
  refine g_aload_n hC dX7_copy_5 rfl 0 rfl rfl ?_
  refine g_iload_n hC dX7_copy_6 rfl 1 rfl rfl ?_
  refine g_callV (ws' := [(aLL, .inr (7, [.ref aRE, .ref aRT, .ref aWE, .ref aKE, .ref aRD, .ref aTE, .ref aSR, .int (0 : Int32)])), (aSR, .inl (cO, 4, .inr (.inr (.inr (.inr sRows)))))]) (st' := [.ref aSh]) (nw := 2) (n1 := 2) hC gX7_copy_X7_sheetOf hdV_yX7_sheetOf 0 rfl rfl (As := [.int k]) (rest := []) (c_X7_sheetOf D cI cO aLL aRE aRT aWE aKE aRD aTE aSR (0 : Int32) sRows k) rfl ⟨by decide, by decide⟩ rfl [0, 1] [] [0, 1] [0, 1] rfl rfl rfl rfl (by decide) rfl rfl (Nat.le_of_ble_eq_true rfl) dX7_copy_7 rfl (by rw [hsh]; rfl) ?_
  refine g_astore (lv' := [(6, .ref aSh), (0, .ref aLL), (1, .int k), (2, .int i), (3, .int o), (4, .int j), (5, .int n)]) hC dX7_copy_10 (by decide) rfl rfl ?_
  refine g_aload_n hC dX7_copy_12 rfl 1 rfl rfl ?_
  refine g_iload_n hC dX7_copy_13 rfl 4 rfl rfl ?_
  refine g_callV (ws' := [(aLL, .inr (7, [.ref aRE, .ref aRT, .ref aWE, .ref aKE, .ref aRD, .ref aTE, .ref aSR, .int (0 : Int32)])), (aSR, .inl (cO, 4, .inr (.inr (.inr (.inr sRows)))))]) (st' := [.null]) (nw := 2) (n1 := 2) hC gX7_copy_X7_sheetOf hdV_yX7_sheetOf 0 rfl rfl (As := [.int o]) (rest := []) (c_X7_sheetOf D cI cO aLL aRE aRT aWE aKE aRD aTE aSR (0 : Int32) sRows o) rfl ⟨by decide, by decide⟩ rfl [0, 1] [] [0, 1] [0, 1] rfl rfl rfl rfl (by decide) rfl rfl (Nat.le_of_ble_eq_true rfl) dX7_copy_14 rfl (by rw [hshb]; rfl) ?_
  refine g_astoreN (lv' := [(7, .null), (6, .ref aSh), (0, .ref aLL), (1, .int k), (2, .int i), (3, .int o), (4, .int j), (5, .int n)]) hC dX7_copy_17 (by decide) rfl rfl ?_
  refine g_aload hC dX7_copy_19 1 rfl rfl ?_
  refine g_ifnull hC dX7_copy_21 rfl ?_
  refine g_aloadN hC dX7_copy_24 0 rfl rfl ?_
  refine g_ifnonnullN hC dX7_copy_26 rfl ?_
  refine g_iconst (v := -1) hC dX7_copy_29 (by decide) rfl ?_
  subst hres
  exact g_iret hC hX rfl dX7_copy_30 rfl rfl
theorem iw_X7_tell_RX2 : ∀ w ∈ wsX20, w ∈ wsX7_tell := fun _ h => List.mem_cons_of_mem _ (List.mem_append_left _ (List.mem_append_right _ (h)))
theorem iw_X7_tell_RX7 : ∀ w ∈ wsX70, w ∈ wsX7_tell := fun _ h => List.mem_cons_of_mem _ (List.mem_append_left _ (List.mem_append_left _ (List.mem_append_right _ (h))))
def m_X7_tell (cLin : Int32) (cD : Nat → Int32) (cK : Nat → Int32) (tTrail : Int32) (l : Int32) : (Int32 × Int32) := (if (m_X2_hasLinen cLin l) = 0 then ((-1 : Int32), tTrail) else (if (m_X7_at 5 cK l) = 0 then ((m_X5_cambricTells tTrail (m_X7_at 5 cD l)).1, (m_X5_cambricTells tTrail (m_X7_at 5 cD l)).2) else (if (m_X7_at 5 cK l) = (1 : Int32) then ((m_X5_laceTells tTrail (m_X7_at 5 cD l)).1, (m_X5_laceTells tTrail (m_X7_at 5 cD l)).2) else ((m_X5_silkTells tTrail (m_X7_at 5 cD l)).1, (m_X5_silkTells tTrail (m_X7_at 5 cD l)).2))))
set_option maxRecDepth 100000 in
set_option maxHeartbeats 4000000 in
theorem c_X7_tell (D : va_G) (cI : ClassId) (aLL : Nat) (aRE : Nat) (aRT : Nat) (aWE : Nat) (aKE : Nat) (aRD : Nat) (aTE : Nat) (aSR : Nat) (lFault : Int32) (aReS : Nat) (aReH : Nat) (aReK : Nat) (aReO : Nat) (aReD : Nat) (cDays : Int32) (cLin : Int32) (cD : Nat → Int32) (cK : Nat → Int32) (tTrail : Int32) (l : Int32) : MC yX7_tell wsX7_tell ({ frames := 4, cells := 0, slots := 0, locals := 85 } : Room) D [(cI, .int)] [.ref aLL, .int l] [(aLL, .inr (7, [.ref aRE, .ref aRT, .ref aWE, .ref aKE, .ref aRD, .ref aTE, .ref aSR, .int lFault])), (aRE, .inr (2, [.ref aReS, .ref aReH, .ref aReK, .ref aReO, .ref aReD, .int cDays, .int cLin])), (aReD, .inl (cI, 5, .inl cD)), (aReK, .inl (cI, 5, .inl cK)), (aTE, .inr (5, [.int tTrail]))] (some (.int ((m_X7_tell cLin cD cK tTrail l).1))) [(aLL, .inr (7, [.ref aRE, .ref aRT, .ref aWE, .ref aKE, .ref aRD, .ref aTE, .ref aSR, .int lFault])), (aRE, .inr (2, [.ref aReS, .ref aReH, .ref aReK, .ref aReO, .ref aReD, .int cDays, .int cLin])), (aReD, .inl (cI, 5, .inl cD)), (aReK, .inl (cI, 5, .inl cK)), (aTE, .inr (5, [.int ((m_X7_tell cLin cD cK tTrail l).2)]))] := by
  refine g_entry (by decide) rfl rfl rfl rfl (Nat.le_of_ble_eq_true rfl) (lv := [(0, .ref aLL), (1, .int l)]) rfl ?_
  intro X hC hX
  obtain ⟨res, hres⟩ : ∃ z, z = (m_X7_tell cLin cD cK tTrail l) := ⟨_, rfl⟩
  rw [← hres] at hX
  rw [m_X7_tell] at hres
  refine g_aload_n hC dX7_tell_0 rfl 0 rfl rfl ?_
  refine g_get hC iw_X7_tell_RX7 0 rfl rfl 0 (by decide) (List.mem_of_getElem? (i := 1) rfl) rfl rfl dX7_tell_1 rfl ?_
  refine g_iload_n hC dX7_tell_4 rfl 1 rfl rfl ?_
  refine g_callV (ws' := [(aLL, .inr (7, [.ref aRE, .ref aRT, .ref aWE, .ref aKE, .ref aRD, .ref aTE, .ref aSR, .int lFault])), (aRE, .inr (2, [.ref aReS, .ref aReH, .ref aReK, .ref aReO, .ref aReD, .int cDays, .int cLin])), (aReD, .inl (cI, 5, .inl cD)), (aReK, .inl (cI, 5, .inl cK)), (aTE, .inr (5, [.int tTrail]))]) (st' := [.int (m_X2_hasLinen cLin l)]) (nw := 5) (n1 := 1) hC gX7_tell_X2_hasLinen hdV_yX2_hasLinen 1 rfl rfl (As := [.int l]) (rest := []) (c_X2_hasLinen D cI aRE aReS aReH aReK aReO aReD cDays cLin l) rfl ⟨by decide, by decide⟩ rfl [1] [0, 2, 3, 4] [0, 4, 1, 2, 3] [0] rfl rfl rfl rfl (by decide) rfl rfl (Nat.le_of_ble_eq_true rfl) dX7_tell_5 rfl rfl ?_
  refine g_if_ne (tgt := 13) hC dX7_tell_8 (by decide) rfl (fun c_8 => ?_) (fun c_8 => ?_)
  · rw [if_neg c_8] at hres
    refine g_aload_n hC dX7_tell_13 rfl 0 rfl rfl ?_
    refine g_get hC iw_X7_tell_RX7 0 rfl rfl 0 (by decide) (List.mem_of_getElem? (i := 1) rfl) rfl rfl dX7_tell_14 rfl ?_
    refine g_get hC iw_X7_tell_RX2 1 rfl rfl 4 (by decide) (List.mem_of_getElem? (i := 2) rfl) rfl rfl dX7_tell_17 rfl ?_
    refine g_iload_n hC dX7_tell_20 rfl 1 rfl rfl ?_
    refine g_callS (ws' := [(aLL, .inr (7, [.ref aRE, .ref aRT, .ref aWE, .ref aKE, .ref aRD, .ref aTE, .ref aSR, .int lFault])), (aRE, .inr (2, [.ref aReS, .ref aReH, .ref aReK, .ref aReO, .ref aReD, .int cDays, .int cLin])), (aReD, .inl (cI, 5, .inl cD)), (aReK, .inl (cI, 5, .inl cK)), (aTE, .inr (5, [.int tTrail]))]) (st' := [.int (m_X7_at 5 cD l)]) (nw := 5) (n1 := 1) hC gX7_tell_X7_at hdS_yX7_at (As := [.ref aReD, .int l]) (rest := []) (c_X7_at D cI aReD 5 cD l (by decide)) rfl ⟨by decide, by decide⟩ rfl [2] [0, 1, 3, 4] [0, 1, 4, 2, 3] [0] rfl rfl rfl rfl (by decide) rfl rfl (Nat.le_of_ble_eq_true rfl) dX7_tell_21 rfl rfl ?_
    refine g_istore_n (lv' := [(2, .int (m_X7_at 5 cD l)), (0, .ref aLL), (1, .int l)]) hC dX7_tell_24 rfl (by decide) rfl rfl ?_
    refine g_aload_n hC dX7_tell_25 rfl 1 rfl rfl ?_
    refine g_get hC iw_X7_tell_RX7 0 rfl rfl 0 (by decide) (List.mem_of_getElem? (i := 1) rfl) rfl rfl dX7_tell_26 rfl ?_
    refine g_get hC iw_X7_tell_RX2 1 rfl rfl 2 (by decide) (List.mem_of_getElem? (i := 3) rfl) rfl rfl dX7_tell_29 rfl ?_
    refine g_iload_n hC dX7_tell_32 rfl 2 rfl rfl ?_
    refine g_callS (ws' := [(aLL, .inr (7, [.ref aRE, .ref aRT, .ref aWE, .ref aKE, .ref aRD, .ref aTE, .ref aSR, .int lFault])), (aRE, .inr (2, [.ref aReS, .ref aReH, .ref aReK, .ref aReO, .ref aReD, .int cDays, .int cLin])), (aReD, .inl (cI, 5, .inl cD)), (aReK, .inl (cI, 5, .inl cK)), (aTE, .inr (5, [.int tTrail]))]) (st' := [.int (m_X7_at 5 cK l)]) (nw := 5) (n1 := 1) hC gX7_tell_X7_at hdS_yX7_at (As := [.ref aReK, .int l]) (rest := []) (c_X7_at D cI aReK 5 cK l (by decide)) rfl ⟨by decide, by decide⟩ rfl [3] [0, 1, 2, 4] [0, 1, 2, 4, 3] [0] rfl rfl rfl rfl (by decide) rfl rfl (Nat.le_of_ble_eq_true rfl) dX7_tell_33 rfl rfl ?_
    refine g_istore_n (lv' := [(3, .int (m_X7_at 5 cK l)), (2, .int (m_X7_at 5 cD l)), (0, .ref aLL), (1, .int l)]) hC dX7_tell_36 rfl (by decide) rfl rfl ?_
    refine g_iload_n hC dX7_tell_37 rfl 0 rfl rfl ?_
    refine g_if_ne (tgt := 50) hC dX7_tell_38 (by decide) rfl (fun c_38 => ?_) (fun c_38 => ?_)
    · rw [if_neg c_38] at hres
      refine g_iload_n hC dX7_tell_50 rfl 0 rfl rfl ?_
      refine g_iconst (v := 1) hC dX7_tell_51 (by decide) rfl ?_
      refine g_icmp_ne (tgt := 66) hC dX7_tell_52 (by decide) rfl (fun c_52 => ?_) (fun c_52 => ?_)
      · rw [if_neg c_52] at hres
        refine g_aload_n hC dX7_tell_66 rfl 2 rfl rfl ?_
        refine g_get hC iw_X7_tell_RX7 0 rfl rfl 5 (by decide) (List.mem_of_getElem? (i := 4) rfl) rfl rfl dX7_tell_67 rfl ?_
        refine g_iload_n hC dX7_tell_70 rfl 1 rfl rfl ?_
        refine g_callV (ws' := [(aLL, .inr (7, [.ref aRE, .ref aRT, .ref aWE, .ref aKE, .ref aRD, .ref aTE, .ref aSR, .int lFault])), (aRE, .inr (2, [.ref aReS, .ref aReH, .ref aReK, .ref aReO, .ref aReD, .int cDays, .int cLin])), (aReD, .inl (cI, 5, .inl cD)), (aReK, .inl (cI, 5, .inl cK)), (aTE, .inr (5, [.int ((m_X5_silkTells tTrail (m_X7_at 5 cD l)).2)]))]) (st' := [.int ((m_X5_silkTells tTrail (m_X7_at 5 cD l)).1)]) (nw := 5) (n1 := 1) hC gX7_tell_X5_silkTells hdV_yX5_silkTells 4 rfl rfl (As := [.int (m_X7_at 5 cD l)]) (rest := []) (c_X5_silkTells D cI aTE tTrail (m_X7_at 5 cD l)) rfl ⟨by decide, by decide⟩ rfl [4] [0, 1, 2, 3] [0, 1, 2, 3, 4] [0] rfl rfl rfl rfl (by decide) rfl rfl (Nat.le_of_ble_eq_true rfl) dX7_tell_71 rfl rfl ?_
        subst hres
        exact g_iret hC hX rfl dX7_tell_74 rfl rfl
      · rw [if_pos c_52] at hres
        refine g_aload_n hC dX7_tell_55 rfl 2 rfl rfl ?_
        refine g_get hC iw_X7_tell_RX7 0 rfl rfl 5 (by decide) (List.mem_of_getElem? (i := 4) rfl) rfl rfl dX7_tell_56 rfl ?_
        refine g_iload_n hC dX7_tell_59 rfl 1 rfl rfl ?_
        refine g_callV (ws' := [(aLL, .inr (7, [.ref aRE, .ref aRT, .ref aWE, .ref aKE, .ref aRD, .ref aTE, .ref aSR, .int lFault])), (aRE, .inr (2, [.ref aReS, .ref aReH, .ref aReK, .ref aReO, .ref aReD, .int cDays, .int cLin])), (aReD, .inl (cI, 5, .inl cD)), (aReK, .inl (cI, 5, .inl cK)), (aTE, .inr (5, [.int ((m_X5_laceTells tTrail (m_X7_at 5 cD l)).2)]))]) (st' := [.int ((m_X5_laceTells tTrail (m_X7_at 5 cD l)).1)]) (nw := 5) (n1 := 1) hC gX7_tell_X5_laceTells hdV_yX5_laceTells 4 rfl rfl (As := [.int (m_X7_at 5 cD l)]) (rest := []) (c_X5_laceTells D cI aTE tTrail (m_X7_at 5 cD l)) rfl ⟨by decide, by decide⟩ rfl [4] [0, 1, 2, 3] [0, 1, 2, 3, 4] [0] rfl rfl rfl rfl (by decide) rfl rfl (Nat.le_of_ble_eq_true rfl) dX7_tell_60 rfl rfl ?_
        refine g_goto (tgt := 74) hC dX7_tell_63 (by decide) ?_
        subst hres
        exact g_iret hC hX rfl dX7_tell_74 rfl rfl
    · rw [if_pos c_38] at hres
      refine g_aload_n hC dX7_tell_41 rfl 2 rfl rfl ?_
      refine g_get hC iw_X7_tell_RX7 0 rfl rfl 5 (by decide) (List.mem_of_getElem? (i := 4) rfl) rfl rfl dX7_tell_42 rfl ?_
      refine g_iload_n hC dX7_tell_45 rfl 1 rfl rfl ?_
      refine g_callV (ws' := [(aLL, .inr (7, [.ref aRE, .ref aRT, .ref aWE, .ref aKE, .ref aRD, .ref aTE, .ref aSR, .int lFault])), (aRE, .inr (2, [.ref aReS, .ref aReH, .ref aReK, .ref aReO, .ref aReD, .int cDays, .int cLin])), (aReD, .inl (cI, 5, .inl cD)), (aReK, .inl (cI, 5, .inl cK)), (aTE, .inr (5, [.int ((m_X5_cambricTells tTrail (m_X7_at 5 cD l)).2)]))]) (st' := [.int ((m_X5_cambricTells tTrail (m_X7_at 5 cD l)).1)]) (nw := 5) (n1 := 1) hC gX7_tell_X5_cambricTells hdV_yX5_cambricTells 4 rfl rfl (As := [.int (m_X7_at 5 cD l)]) (rest := []) (c_X5_cambricTells D cI aTE tTrail (m_X7_at 5 cD l)) rfl ⟨by decide, by decide⟩ rfl [4] [0, 1, 2, 3] [0, 1, 2, 3, 4] [0] rfl rfl rfl rfl (by decide) rfl rfl (Nat.le_of_ble_eq_true rfl) dX7_tell_46 rfl rfl ?_
      subst hres
      exact g_iret hC hX rfl dX7_tell_49 rfl rfl
  · rw [if_pos c_8] at hres
    refine g_iconst (v := -1) hC dX7_tell_11 (by decide) rfl ?_
    subst hres
    exact g_iret hC hX rfl dX7_tell_12 rfl rfl
theorem iw_X7_knot_RX2 : ∀ w ∈ wsX20, w ∈ wsX7_knot := fun _ h => List.mem_cons_of_mem _ (List.mem_append_left _ (List.mem_append_right _ (h)))
theorem iw_X7_knot_RX7 : ∀ w ∈ wsX70, w ∈ wsX7_knot := fun _ h => List.mem_cons_of_mem _ (List.mem_append_left _ (List.mem_append_left _ (List.mem_append_right _ (h))))
def m_X7_knot (cLin : Int32) (cK : Nat → Int32) (tTrail : Int32) (l : Int32) : (Int32 × Int32) := (if (m_X2_hasLinen cLin l) = 0 then ((-1 : Int32), tTrail) else (if (m_X7_at 5 cK l) = (2 : Int32) then ((m_X5_silkIsKnotted tTrail).1, (m_X5_silkIsKnotted tTrail).2) else ((m_X5_isKnotted tTrail l).1, (m_X5_isKnotted tTrail l).2)))
set_option maxRecDepth 100000 in
set_option maxHeartbeats 4000000 in
theorem c_X7_knot (D : va_G) (cI : ClassId) (aLL : Nat) (aRE : Nat) (aRT : Nat) (aWE : Nat) (aKE : Nat) (aRD : Nat) (aTE : Nat) (aSR : Nat) (lFault : Int32) (aReS : Nat) (aReH : Nat) (aReK : Nat) (aReO : Nat) (aReD : Nat) (cDays : Int32) (cLin : Int32) (cK : Nat → Int32) (tTrail : Int32) (l : Int32) : MC yX7_knot wsX7_knot ({ frames := 2, cells := 0, slots := 0, locals := 42 } : Room) D [(cI, .int)] [.ref aLL, .int l] [(aLL, .inr (7, [.ref aRE, .ref aRT, .ref aWE, .ref aKE, .ref aRD, .ref aTE, .ref aSR, .int lFault])), (aRE, .inr (2, [.ref aReS, .ref aReH, .ref aReK, .ref aReO, .ref aReD, .int cDays, .int cLin])), (aReK, .inl (cI, 5, .inl cK)), (aTE, .inr (5, [.int tTrail]))] (some (.int ((m_X7_knot cLin cK tTrail l).1))) [(aLL, .inr (7, [.ref aRE, .ref aRT, .ref aWE, .ref aKE, .ref aRD, .ref aTE, .ref aSR, .int lFault])), (aRE, .inr (2, [.ref aReS, .ref aReH, .ref aReK, .ref aReO, .ref aReD, .int cDays, .int cLin])), (aReK, .inl (cI, 5, .inl cK)), (aTE, .inr (5, [.int ((m_X7_knot cLin cK tTrail l).2)]))] := by
  refine g_entry (by decide) rfl rfl rfl rfl (Nat.le_of_ble_eq_true rfl) (lv := [(0, .ref aLL), (1, .int l)]) rfl ?_
  intro X hC hX
  obtain ⟨res, hres⟩ : ∃ z, z = (m_X7_knot cLin cK tTrail l) := ⟨_, rfl⟩
  rw [← hres] at hX
  rw [m_X7_knot] at hres
  refine g_aload_n hC dX7_knot_0 rfl 0 rfl rfl ?_
  refine g_get hC iw_X7_knot_RX7 0 rfl rfl 0 (by decide) (List.mem_of_getElem? (i := 1) rfl) rfl rfl dX7_knot_1 rfl ?_
  refine g_iload_n hC dX7_knot_4 rfl 1 rfl rfl ?_
  refine g_callV (ws' := [(aLL, .inr (7, [.ref aRE, .ref aRT, .ref aWE, .ref aKE, .ref aRD, .ref aTE, .ref aSR, .int lFault])), (aRE, .inr (2, [.ref aReS, .ref aReH, .ref aReK, .ref aReO, .ref aReD, .int cDays, .int cLin])), (aReK, .inl (cI, 5, .inl cK)), (aTE, .inr (5, [.int tTrail]))]) (st' := [.int (m_X2_hasLinen cLin l)]) (nw := 4) (n1 := 1) hC gX7_knot_X2_hasLinen hdV_yX2_hasLinen 1 rfl rfl (As := [.int l]) (rest := []) (c_X2_hasLinen D cI aRE aReS aReH aReK aReO aReD cDays cLin l) rfl ⟨by decide, by decide⟩ rfl [1] [0, 2, 3] [0, 3, 1, 2] [0] rfl rfl rfl rfl (by decide) rfl rfl (Nat.le_of_ble_eq_true rfl) dX7_knot_5 rfl rfl ?_
  refine g_if_ne (tgt := 13) hC dX7_knot_8 (by decide) rfl (fun c_8 => ?_) (fun c_8 => ?_)
  · rw [if_neg c_8] at hres
    refine g_aload_n hC dX7_knot_13 rfl 0 rfl rfl ?_
    refine g_get hC iw_X7_knot_RX7 0 rfl rfl 0 (by decide) (List.mem_of_getElem? (i := 1) rfl) rfl rfl dX7_knot_14 rfl ?_
    refine g_get hC iw_X7_knot_RX2 1 rfl rfl 2 (by decide) (List.mem_of_getElem? (i := 2) rfl) rfl rfl dX7_knot_17 rfl ?_
    refine g_iload_n hC dX7_knot_20 rfl 1 rfl rfl ?_
    refine g_callS (ws' := [(aLL, .inr (7, [.ref aRE, .ref aRT, .ref aWE, .ref aKE, .ref aRD, .ref aTE, .ref aSR, .int lFault])), (aRE, .inr (2, [.ref aReS, .ref aReH, .ref aReK, .ref aReO, .ref aReD, .int cDays, .int cLin])), (aReK, .inl (cI, 5, .inl cK)), (aTE, .inr (5, [.int tTrail]))]) (st' := [.int (m_X7_at 5 cK l)]) (nw := 4) (n1 := 1) hC gX7_knot_X7_at hdS_yX7_at (As := [.ref aReK, .int l]) (rest := []) (c_X7_at D cI aReK 5 cK l (by decide)) rfl ⟨by decide, by decide⟩ rfl [2] [0, 1, 3] [0, 1, 3, 2] [0] rfl rfl rfl rfl (by decide) rfl rfl (Nat.le_of_ble_eq_true rfl) dX7_knot_21 rfl rfl ?_
    refine g_iconst (v := 2) hC dX7_knot_24 (by decide) rfl ?_
    refine g_icmp_ne (tgt := 38) hC dX7_knot_25 (by decide) rfl (fun c_25 => ?_) (fun c_25 => ?_)
    · rw [if_neg c_25] at hres
      refine g_aload_n hC dX7_knot_38 rfl 0 rfl rfl ?_
      refine g_get hC iw_X7_knot_RX7 0 rfl rfl 5 (by decide) (List.mem_of_getElem? (i := 3) rfl) rfl rfl dX7_knot_39 rfl ?_
      refine g_iload_n hC dX7_knot_42 rfl 1 rfl rfl ?_
      refine g_callV (ws' := [(aLL, .inr (7, [.ref aRE, .ref aRT, .ref aWE, .ref aKE, .ref aRD, .ref aTE, .ref aSR, .int lFault])), (aRE, .inr (2, [.ref aReS, .ref aReH, .ref aReK, .ref aReO, .ref aReD, .int cDays, .int cLin])), (aReK, .inl (cI, 5, .inl cK)), (aTE, .inr (5, [.int ((m_X5_isKnotted tTrail l).2)]))]) (st' := [.int ((m_X5_isKnotted tTrail l).1)]) (nw := 4) (n1 := 1) hC gX7_knot_X5_isKnotted hdV_yX5_isKnotted 3 rfl rfl (As := [.int l]) (rest := []) (c_X5_isKnotted D cI aTE tTrail l) rfl ⟨by decide, by decide⟩ rfl [3] [0, 1, 2] [0, 1, 2, 3] [0] rfl rfl rfl rfl (by decide) rfl rfl (Nat.le_of_ble_eq_true rfl) dX7_knot_43 rfl rfl ?_
      subst hres
      exact g_iret hC hX rfl dX7_knot_46 rfl rfl
    · rw [if_pos c_25] at hres
      refine g_aload_n hC dX7_knot_28 rfl 0 rfl rfl ?_
      refine g_get hC iw_X7_knot_RX7 0 rfl rfl 5 (by decide) (List.mem_of_getElem? (i := 3) rfl) rfl rfl dX7_knot_29 rfl ?_
      refine g_callV (ws' := [(aLL, .inr (7, [.ref aRE, .ref aRT, .ref aWE, .ref aKE, .ref aRD, .ref aTE, .ref aSR, .int lFault])), (aRE, .inr (2, [.ref aReS, .ref aReH, .ref aReK, .ref aReO, .ref aReD, .int cDays, .int cLin])), (aReK, .inl (cI, 5, .inl cK)), (aTE, .inr (5, [.int ((m_X5_silkIsKnotted tTrail).2)]))]) (st' := [.int ((m_X5_silkIsKnotted tTrail).1)]) (nw := 4) (n1 := 1) hC gX7_knot_X5_silkIsKnotted hdV_yX5_silkIsKnotted 3 rfl rfl (As := []) (rest := []) (c_X5_silkIsKnotted D cI aTE tTrail) rfl ⟨by decide, by decide⟩ rfl [3] [0, 1, 2] [0, 1, 2, 3] [0] rfl rfl rfl rfl (by decide) rfl rfl (Nat.le_of_ble_eq_true rfl) dX7_knot_32 rfl rfl ?_
      refine g_goto (tgt := 46) hC dX7_knot_35 (by decide) ?_
      subst hres
      exact g_iret hC hX rfl dX7_knot_46 rfl rfl
  · rw [if_pos c_8] at hres
    refine g_iconst (v := -1) hC dX7_knot_11 (by decide) rfl ?_
    subst hres
    exact g_iret hC hX rfl dX7_knot_12 rfl rfl
theorem iw_X7_as_RX2 : ∀ w ∈ wsX20, w ∈ wsX7_as := fun _ h => List.mem_cons_of_mem _ (List.mem_append_right _ (h))
theorem iw_X7_as_RX7 : ∀ w ∈ wsX70, w ∈ wsX7_as := fun _ h => List.mem_cons_of_mem _ (List.mem_append_left _ (List.mem_append_right _ (h)))
def m_X7_as (cLin : Int32) (cK : Nat → Int32) (l : Int32) (kind : Int32) : (Int32 × Int32) := (if (m_X2_hasLinen cLin l) = 0 then ((-1 : Int32), (0 : Int32)) else (if (m_X7_isBelow kind (3 : Int32)) = 0 then ((-2 : Int32), (0 : Int32)) else (if (m_X7_at 5 cK l) < kind then ((m_X7_faulted (2 : Int32)).1, (m_X7_faulted (2 : Int32)).2) else ((1 : Int32), (0 : Int32)))))
set_option maxRecDepth 100000 in
set_option maxHeartbeats 4000000 in
theorem c_X7_as (D : va_G) (cI : ClassId) (aLL : Nat) (aRE : Nat) (aRT : Nat) (aWE : Nat) (aKE : Nat) (aRD : Nat) (aTE : Nat) (aSR : Nat) (lFault : Int32) (aReS : Nat) (aReH : Nat) (aReK : Nat) (aReO : Nat) (aReD : Nat) (cDays : Int32) (cLin : Int32) (cK : Nat → Int32) (l : Int32) (kind : Int32) : MC yX7_as wsX7_as ({ frames := 2, cells := 0, slots := 0, locals := 42 } : Room) D [(cI, .int)] [.ref aLL, .int l, .int kind] [(aLL, .inr (7, [.ref aRE, .ref aRT, .ref aWE, .ref aKE, .ref aRD, .ref aTE, .ref aSR, .int lFault])), (aRE, .inr (2, [.ref aReS, .ref aReH, .ref aReK, .ref aReO, .ref aReD, .int cDays, .int cLin])), (aReK, .inl (cI, 5, .inl cK))] (some (.int ((m_X7_as cLin cK l kind).1))) [(aLL, .inr (7, [.ref aRE, .ref aRT, .ref aWE, .ref aKE, .ref aRD, .ref aTE, .ref aSR, .int ((m_X7_as cLin cK l kind).2)])), (aRE, .inr (2, [.ref aReS, .ref aReH, .ref aReK, .ref aReO, .ref aReD, .int cDays, .int cLin])), (aReK, .inl (cI, 5, .inl cK))] := by
  refine g_entry (by decide) rfl rfl rfl rfl (Nat.le_of_ble_eq_true rfl) (lv := [(0, .ref aLL), (1, .int l), (2, .int kind)]) rfl ?_
  intro X hC hX
  obtain ⟨res, hres⟩ : ∃ z, z = (m_X7_as cLin cK l kind) := ⟨_, rfl⟩
  rw [← hres] at hX
  rw [m_X7_as] at hres
  refine g_aload_n hC dX7_as_0 rfl 0 rfl rfl ?_
  refine g_iconst (v := 0) hC dX7_as_1 (by decide) rfl ?_
  refine g_put (ws' := [(aLL, .inr (7, [.ref aRE, .ref aRT, .ref aWE, .ref aKE, .ref aRD, .ref aTE, .ref aSR, .int (0 : Int32)])), (aRE, .inr (2, [.ref aReS, .ref aReH, .ref aReK, .ref aReO, .ref aReD, .int cDays, .int cLin])), (aReK, .inl (cI, 5, .inl cK))]) hC iw_X7_as_RX7 0 rfl rfl 7 (by decide) (List.mem_of_getElem? (i := 1) rfl) rfl tyX7 tyX7_ok nmX7 rfl rfl rfl (Nat.le_of_ble_eq_true rfl) rfl dX7_as_2 rfl ?_
  refine g_aload_n hC dX7_as_5 rfl 0 rfl rfl ?_
  refine g_get hC iw_X7_as_RX7 0 rfl rfl 0 (by decide) (List.mem_of_getElem? (i := 2) rfl) rfl rfl dX7_as_6 rfl ?_
  refine g_iload_n hC dX7_as_9 rfl 1 rfl rfl ?_
  refine g_callV (ws' := [(aLL, .inr (7, [.ref aRE, .ref aRT, .ref aWE, .ref aKE, .ref aRD, .ref aTE, .ref aSR, .int (0 : Int32)])), (aRE, .inr (2, [.ref aReS, .ref aReH, .ref aReK, .ref aReO, .ref aReD, .int cDays, .int cLin])), (aReK, .inl (cI, 5, .inl cK))]) (st' := [.int (m_X2_hasLinen cLin l)]) (nw := 3) (n1 := 1) hC gX7_as_X2_hasLinen hdV_yX2_hasLinen 1 rfl rfl (As := [.int l]) (rest := []) (c_X2_hasLinen D cI aRE aReS aReH aReK aReO aReD cDays cLin l) rfl ⟨by decide, by decide⟩ rfl [1] [0, 2] [0, 2, 1] [0] rfl rfl rfl rfl (by decide) rfl rfl (Nat.le_of_ble_eq_true rfl) dX7_as_10 rfl rfl ?_
  refine g_if_ne (tgt := 18) hC dX7_as_13 (by decide) rfl (fun c_13 => ?_) (fun c_13 => ?_)
  · rw [if_neg c_13] at hres
    refine g_iload_n hC dX7_as_18 rfl 2 rfl rfl ?_
    refine g_iconst (v := 3) hC dX7_as_19 (by decide) rfl ?_
    refine g_callS (ws' := [(aLL, .inr (7, [.ref aRE, .ref aRT, .ref aWE, .ref aKE, .ref aRD, .ref aTE, .ref aSR, .int (0 : Int32)])), (aRE, .inr (2, [.ref aReS, .ref aReH, .ref aReK, .ref aReO, .ref aReD, .int cDays, .int cLin])), (aReK, .inl (cI, 5, .inl cK))]) (st' := [.int (m_X7_isBelow kind (3 : Int32))]) (nw := 3) (n1 := 0) hC gX7_as_X7_isBelow hdS_yX7_isBelow (As := [.int kind, .int (3 : Int32)]) (rest := []) (c_X7_isBelow D cI kind (3 : Int32)) rfl ⟨by decide, by decide⟩ rfl [] [0, 1, 2] [0, 1, 2] [0] rfl rfl rfl rfl (by decide) rfl rfl (Nat.le_of_ble_eq_true rfl) dX7_as_20 rfl rfl ?_
    refine g_if_ne (tgt := 29) hC dX7_as_23 (by decide) rfl (fun c_23 => ?_) (fun c_23 => ?_)
    · rw [if_neg c_23] at hres
      refine g_aload_n hC dX7_as_29 rfl 0 rfl rfl ?_
      refine g_get hC iw_X7_as_RX7 0 rfl rfl 0 (by decide) (List.mem_of_getElem? (i := 2) rfl) rfl rfl dX7_as_30 rfl ?_
      refine g_get hC iw_X7_as_RX2 1 rfl rfl 2 (by decide) (List.mem_of_getElem? (i := 3) rfl) rfl rfl dX7_as_33 rfl ?_
      refine g_iload_n hC dX7_as_36 rfl 1 rfl rfl ?_
      refine g_callS (ws' := [(aLL, .inr (7, [.ref aRE, .ref aRT, .ref aWE, .ref aKE, .ref aRD, .ref aTE, .ref aSR, .int (0 : Int32)])), (aRE, .inr (2, [.ref aReS, .ref aReH, .ref aReK, .ref aReO, .ref aReD, .int cDays, .int cLin])), (aReK, .inl (cI, 5, .inl cK))]) (st' := [.int (m_X7_at 5 cK l)]) (nw := 3) (n1 := 1) hC gX7_as_X7_at hdS_yX7_at (As := [.ref aReK, .int l]) (rest := []) (c_X7_at D cI aReK 5 cK l (by decide)) rfl ⟨by decide, by decide⟩ rfl [2] [0, 1] [0, 1, 2] [0] rfl rfl rfl rfl (by decide) rfl rfl (Nat.le_of_ble_eq_true rfl) dX7_as_37 rfl rfl ?_
      refine g_iload_n hC dX7_as_40 rfl 2 rfl rfl ?_
      refine g_icmp_lt (tgt := 48) hC dX7_as_41 (by decide) rfl (fun c_41 => ?_) (fun c_41 => ?_)
      · rw [if_pos c_41] at hres
        refine g_aload_n hC dX7_as_48 rfl 0 rfl rfl ?_
        refine g_iconst (v := 2) hC dX7_as_49 (by decide) rfl ?_
        refine g_callV (ws' := [(aLL, .inr (7, [.ref aRE, .ref aRT, .ref aWE, .ref aKE, .ref aRD, .ref aTE, .ref aSR, .int ((m_X7_faulted (2 : Int32)).2)])), (aRE, .inr (2, [.ref aReS, .ref aReH, .ref aReK, .ref aReO, .ref aReD, .int cDays, .int cLin])), (aReK, .inl (cI, 5, .inl cK))]) (st' := [.int ((m_X7_faulted (2 : Int32)).1)]) (nw := 3) (n1 := 1) hC gX7_as_X7_faulted hdV_yX7_faulted 0 rfl rfl (As := [.int (2 : Int32)]) (rest := []) (c_X7_faulted D cI aLL aRE aRT aWE aKE aRD aTE aSR (0 : Int32) (2 : Int32)) rfl ⟨by decide, by decide⟩ rfl [0] [1, 2] [2, 0, 1] [0] rfl rfl rfl rfl (by decide) rfl rfl (Nat.le_of_ble_eq_true rfl) dX7_as_50 rfl rfl ?_
        subst hres
        exact g_iret hC hX rfl dX7_as_53 rfl rfl
      · rw [if_neg c_41] at hres
        refine g_iconst (v := 1) hC dX7_as_44 (by decide) rfl ?_
        refine g_goto (tgt := 53) hC dX7_as_45 (by decide) ?_
        subst hres
        exact g_iret hC hX rfl dX7_as_53 rfl rfl
    · rw [if_pos c_23] at hres
      refine g_bipush (v := -2) hC dX7_as_26 (by decide) rfl ?_
      subst hres
      exact g_iret hC hX rfl dX7_as_28 rfl rfl
  · rw [if_pos c_13] at hres
    refine g_iconst (v := -1) hC dX7_as_16 (by decide) rfl ?_
    subst hres
    exact g_iret hC hX rfl dX7_as_17 rfl rfl
theorem iw_X7_trace_RX5 : ∀ w ∈ wsX50, w ∈ wsX7_trace := fun _ h => List.mem_cons_of_mem _ (List.mem_append_right _ (h))
theorem iw_X7_trace_RX7 : ∀ w ∈ wsX70, w ∈ wsX7_trace := fun _ h => List.mem_cons_of_mem _ (List.mem_append_left _ (List.mem_append_right _ (h)))
def m_X7_trace (tTrail : Int32) : (Int32) := tTrail
set_option maxRecDepth 100000 in
set_option maxHeartbeats 4000000 in
theorem c_X7_trace (D : va_G) (cI : ClassId) (aLL : Nat) (aRE : Nat) (aRT : Nat) (aWE : Nat) (aKE : Nat) (aRD : Nat) (aTE : Nat) (aSR : Nat) (lFault : Int32) (tTrail : Int32) : MC yX7_trace wsX7_trace ({ frames := 0, cells := 0, slots := 0, locals := 0 } : Room) D [(cI, .int)] [.ref aLL] [(aLL, .inr (7, [.ref aRE, .ref aRT, .ref aWE, .ref aKE, .ref aRD, .ref aTE, .ref aSR, .int lFault])), (aTE, .inr (5, [.int tTrail]))] (some (.int (m_X7_trace tTrail))) [(aLL, .inr (7, [.ref aRE, .ref aRT, .ref aWE, .ref aKE, .ref aRD, .ref aTE, .ref aSR, .int lFault])), (aTE, .inr (5, [.int tTrail]))] := by
  refine g_entry (by decide) rfl rfl rfl rfl (Nat.le_of_ble_eq_true rfl) (lv := [(0, .ref aLL)]) rfl ?_
  intro X hC hX
  obtain ⟨res, hres⟩ : ∃ z, z = (m_X7_trace tTrail) := ⟨_, rfl⟩
  rw [← hres] at hX
  rw [m_X7_trace] at hres
  refine g_aload_n hC dX7_trace_0 rfl 0 rfl rfl ?_
  refine g_get hC iw_X7_trace_RX7 0 rfl rfl 5 (by decide) (List.mem_of_getElem? (i := 1) rfl) rfl rfl dX7_trace_1 rfl ?_
  refine g_get hC iw_X7_trace_RX5 1 rfl rfl 0 (by decide) (List.mem_of_getElem? (i := 2) rfl) rfl rfl dX7_trace_4 rfl ?_
  subst hres
  exact g_iret hC hX rfl dX7_trace_7 rfl rfl
theorem iw_X7_fault_RX7 : ∀ w ∈ wsX70, w ∈ wsX7_fault := fun _ h => List.mem_cons_of_mem _ (List.mem_append_right _ (h))
def m_X7_fault (lFault : Int32) : (Int32) := lFault
set_option maxRecDepth 100000 in
set_option maxHeartbeats 4000000 in
theorem c_X7_fault (D : va_G) (cI : ClassId) (aLL : Nat) (aRE : Nat) (aRT : Nat) (aWE : Nat) (aKE : Nat) (aRD : Nat) (aTE : Nat) (aSR : Nat) (lFault : Int32) : MC yX7_fault wsX7_fault ({ frames := 0, cells := 0, slots := 0, locals := 0 } : Room) D [(cI, .int)] [.ref aLL] [(aLL, .inr (7, [.ref aRE, .ref aRT, .ref aWE, .ref aKE, .ref aRD, .ref aTE, .ref aSR, .int lFault]))] (some (.int (m_X7_fault lFault))) [(aLL, .inr (7, [.ref aRE, .ref aRT, .ref aWE, .ref aKE, .ref aRD, .ref aTE, .ref aSR, .int lFault]))] := by
  refine g_entry (by decide) rfl rfl rfl rfl (Nat.le_of_ble_eq_true rfl) (lv := [(0, .ref aLL)]) rfl ?_
  intro X hC hX
  obtain ⟨res, hres⟩ : ∃ z, z = (m_X7_fault lFault) := ⟨_, rfl⟩
  rw [← hres] at hX
  rw [m_X7_fault] at hres
  refine g_aload_n hC dX7_fault_0 rfl 0 rfl rfl ?_
  refine g_get hC iw_X7_fault_RX7 0 rfl rfl 7 (by decide) (List.mem_of_getElem? (i := 1) rfl) rfl rfl dX7_fault_1 rfl ?_
  subst hres
  exact g_iret hC hX rfl dX7_fault_4 rfl rfl
theorem iw_X7_many_RX1 : ∀ w ∈ wsX10, w ∈ wsX7_many := fun _ h => List.mem_cons_of_mem _ (List.mem_append_right _ (h))
theorem iw_X7_many_RX2 : ∀ w ∈ wsX20, w ∈ wsX7_many := fun _ h => List.mem_cons_of_mem _ (List.mem_append_left _ (List.mem_append_right _ (h)))
theorem iw_X7_many_RX7 : ∀ w ∈ wsX70, w ∈ wsX7_many := fun _ h => List.mem_cons_of_mem _ (List.mem_append_left _ (List.mem_append_left _ (List.mem_append_right _ (h))))
def m_X7_many (cDays : Int32) (cLin : Int32) (cS : Nat → Int32) (rCnt : Int32) (what : Int32) : (Int32) := (if what = 0 then cLin else (if what = 1 then cDays else (if what = 2 then (m_X2_allSorrow cS) else (if what = 3 then rCnt else (-2 : Int32)))))
set_option maxRecDepth 100000 in
set_option maxHeartbeats 4000000 in
theorem c_X7_many (D : va_G) (cI : ClassId) (aLL : Nat) (aRE : Nat) (aRT : Nat) (aWE : Nat) (aKE : Nat) (aRD : Nat) (aTE : Nat) (aSR : Nat) (lFault : Int32) (aReS : Nat) (aReH : Nat) (aReK : Nat) (aReO : Nat) (aReD : Nat) (cDays : Int32) (cLin : Int32) (cS : Nat → Int32) (aRdL : Nat) (aRdE : Nat) (aRdD : Nat) (rCnt : Int32) (what : Int32) : MC yX7_many wsX7_many ({ frames := 2, cells := 0, slots := 0, locals := 43 } : Room) D [(cI, .int)] [.ref aLL, .int what] [(aLL, .inr (7, [.ref aRE, .ref aRT, .ref aWE, .ref aKE, .ref aRD, .ref aTE, .ref aSR, .int lFault])), (aRE, .inr (2, [.ref aReS, .ref aReH, .ref aReK, .ref aReO, .ref aReD, .int cDays, .int cLin])), (aReS, .inl (cI, 4, .inl cS)), (aRD, .inr (1, [.ref aRdL, .ref aRdE, .ref aRdD, .int rCnt]))] (some (.int (m_X7_many cDays cLin cS rCnt what))) [(aLL, .inr (7, [.ref aRE, .ref aRT, .ref aWE, .ref aKE, .ref aRD, .ref aTE, .ref aSR, .int lFault])), (aRE, .inr (2, [.ref aReS, .ref aReH, .ref aReK, .ref aReO, .ref aReD, .int cDays, .int cLin])), (aReS, .inl (cI, 4, .inl cS)), (aRD, .inr (1, [.ref aRdL, .ref aRdE, .ref aRdD, .int rCnt]))] := by
  refine g_entry (by decide) rfl rfl rfl rfl (Nat.le_of_ble_eq_true rfl) (lv := [(0, .ref aLL), (1, .int what)]) rfl ?_
  intro X hC hX
  obtain ⟨res, hres⟩ : ∃ z, z = (m_X7_many cDays cLin cS rCnt what) := ⟨_, rfl⟩
  rw [← hres] at hX
  rw [m_X7_many] at hres
  refine g_iload_n hC dX7_many_0 rfl 1 rfl rfl ?_
  by_cases c_1_0 : what = 0
  · rw [if_pos c_1_0] at hres
    refine g_tableIn (tgt := 32) hC dX7_many_1 (by rw [c_1_0]; decide) (by rw [c_1_0]; decide) (by rw [c_1_0]; rfl) (by decide) ?_
    refine g_aload_n hC dX7_many_32 rfl 0 rfl rfl ?_
    refine g_get hC iw_X7_many_RX7 0 rfl rfl 0 (by decide) (List.mem_of_getElem? (i := 1) rfl) rfl rfl dX7_many_33 rfl ?_
    refine g_get hC iw_X7_many_RX2 1 rfl rfl 6 (by decide) (List.mem_of_getElem? (i := 2) rfl) rfl rfl dX7_many_36 rfl ?_
    subst hres
    exact g_iret hC hX rfl dX7_many_39 rfl rfl
  rw [if_neg c_1_0] at hres
  by_cases c_1_1 : what = 1
  · rw [if_pos c_1_1] at hres
    refine g_tableIn (tgt := 40) hC dX7_many_1 (by rw [c_1_1]; decide) (by rw [c_1_1]; decide) (by rw [c_1_1]; rfl) (by decide) ?_
    refine g_aload_n hC dX7_many_40 rfl 0 rfl rfl ?_
    refine g_get hC iw_X7_many_RX7 0 rfl rfl 0 (by decide) (List.mem_of_getElem? (i := 1) rfl) rfl rfl dX7_many_41 rfl ?_
    refine g_get hC iw_X7_many_RX2 1 rfl rfl 5 (by decide) (List.mem_of_getElem? (i := 3) rfl) rfl rfl dX7_many_44 rfl ?_
    subst hres
    exact g_iret hC hX rfl dX7_many_47 rfl rfl
  rw [if_neg c_1_1] at hres
  by_cases c_1_2 : what = 2
  · rw [if_pos c_1_2] at hres
    refine g_tableIn (tgt := 48) hC dX7_many_1 (by rw [c_1_2]; decide) (by rw [c_1_2]; decide) (by rw [c_1_2]; rfl) (by decide) ?_
    refine g_aload_n hC dX7_many_48 rfl 0 rfl rfl ?_
    refine g_get hC iw_X7_many_RX7 0 rfl rfl 0 (by decide) (List.mem_of_getElem? (i := 1) rfl) rfl rfl dX7_many_49 rfl ?_
    refine g_callV (ws' := [(aLL, .inr (7, [.ref aRE, .ref aRT, .ref aWE, .ref aKE, .ref aRD, .ref aTE, .ref aSR, .int lFault])), (aRE, .inr (2, [.ref aReS, .ref aReH, .ref aReK, .ref aReO, .ref aReD, .int cDays, .int cLin])), (aReS, .inl (cI, 4, .inl cS)), (aRD, .inr (1, [.ref aRdL, .ref aRdE, .ref aRdD, .int rCnt]))]) (st' := [.int (m_X2_allSorrow cS)]) (nw := 4) (n1 := 2) hC gX7_many_X2_allSorrow hdV_yX2_allSorrow 1 rfl rfl (As := []) (rest := []) (c_X2_allSorrow D cI aRE aReS aReH aReK aReO aReD cDays cLin cS) rfl ⟨by decide, by decide⟩ rfl [1, 2] [0, 3] [0, 2, 3, 1] [0] rfl rfl rfl rfl (by decide) rfl rfl (Nat.le_of_ble_eq_true rfl) dX7_many_52 rfl rfl ?_
    subst hres
    exact g_iret hC hX rfl dX7_many_55 rfl rfl
  rw [if_neg c_1_2] at hres
  by_cases c_1_3 : what = 3
  · rw [if_pos c_1_3] at hres
    refine g_tableIn (tgt := 56) hC dX7_many_1 (by rw [c_1_3]; decide) (by rw [c_1_3]; decide) (by rw [c_1_3]; rfl) (by decide) ?_
    refine g_aload_n hC dX7_many_56 rfl 0 rfl rfl ?_
    refine g_get hC iw_X7_many_RX7 0 rfl rfl 4 (by decide) (List.mem_of_getElem? (i := 4) rfl) rfl rfl dX7_many_57 rfl ?_
    refine g_get hC iw_X7_many_RX1 3 rfl rfl 3 (by decide) (List.mem_of_getElem? (i := 5) rfl) rfl rfl dX7_many_60 rfl ?_
    subst hres
    exact g_iret hC hX rfl dX7_many_63 rfl rfl
  rw [if_neg c_1_3] at hres
  refine g_tableOut (tgt := 64) hC dX7_many_1 (sw_out4 c_1_0 c_1_1 c_1_2 c_1_3) (by decide) ?_
  refine g_bipush (v := -2) hC dX7_many_64 (by decide) rfl ?_
  subst hres
  exact g_iret hC hX rfl dX7_many_66 rfl rfl
