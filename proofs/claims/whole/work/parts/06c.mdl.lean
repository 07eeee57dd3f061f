theorem iw_X8_ofLinen_RX8 : ∀ w ∈ wsX80, w ∈ wsX8_ofLinen := fun _ h => List.mem_cons_of_mem _ (List.mem_append_right _ (h))
def m_X8_ofLinen (mLin : Int32) (mK : Nat → Int32) (mO : Nat → Int32) (mD : Nat → Int32) (l : Int32) (what : Int32) : (Int32) := (if (m_X8_noLinen mLin l) = 0 then (if what = 0 then (mK l.toNatClampNeg) else (if what = (1 : Int32) then (mO l.toNatClampNeg) else (if what = (2 : Int32) then (mD l.toNatClampNeg) else (-2 : Int32)))) else (-1 : Int32))
set_option maxRecDepth 100000 in
set_option maxHeartbeats 4000000 in
theorem c_X8_ofLinen (D : va_G) (cI : ClassId) (aMO : Nat) (mFault : Int32) (amS : Nat) (mDays : Int32) (amH : Nat) (mLin : Int32) (amK : Nat) (amO : Nat) (amD : Nat) (mCool : Int32) (mReadAt : Int32) (mReadDays : Int32) (mReadLin : Int32) (amRS : Nat) (amRH : Nat) (amRK : Nat) (amRO : Nat) (amRD : Nat) (amDN : Nat) (amSN : Nat) (mDayNow : Int32) (mLast : Int32) (mTears : Int32) (mWrong : Int32) (amTF : Nat) (amTFor : Nat) (amWB : Nat) (mRdn : Int32) (amRdL : Nat) (amRdE : Nat) (amRdD : Nat) (amSz : Nat) (amLane : Nat) (amSh : Nat) (amHands : Nat) (mTrace : Int32) (mK : Nat → Int32) (mO : Nat → Int32) (mD : Nat → Int32) (l : Int32) (what : Int32) (hl5 : mLin.toInt ≤ 5) : MC yX8_ofLinen wsX8_ofLinen ({ frames := 2, cells := 0, slots := 0, locals := 46 } : Room) D [(cI, .int)] [.ref aMO, .int l, .int what] [(aMO, .inr (8, [.int mFault, .ref amS, .int mDays, .ref amH, .int mLin, .ref amK, .ref amO, .ref amD, .int mCool, .int mReadAt, .int mReadDays, .int mReadLin, .ref amRS, .ref amRH, .ref amRK, .ref amRO, .ref amRD, .ref amDN, .ref amSN, .int mDayNow, .int mLast, .int mTears, .int mWrong, .ref amTF, .ref amTFor, .ref amWB, .int mRdn, .ref amRdL, .ref amRdE, .ref amRdD, .ref amSz, .ref amLane, .ref amSh, .ref amHands, .int mTrace])), (amK, .inl (cI, 5, .inl mK)), (amO, .inl (cI, 5, .inl mO)), (amD, .inl (cI, 5, .inl mD))] (some (.int (m_X8_ofLinen mLin mK mO mD l what))) [(aMO, .inr (8, [.int mFault, .ref amS, .int mDays, .ref amH, .int mLin, .ref amK, .ref amO, .ref amD, .int mCool, .int mReadAt, .int mReadDays, .int mReadLin, .ref amRS, .ref amRH, .ref amRK, .ref amRO, .ref amRD, .ref amDN, .ref amSN, .int mDayNow, .int mLast, .int mTears, .int mWrong, .ref amTF, .ref amTFor, .ref amWB, .int mRdn, .ref amRdL, .ref amRdE, .ref amRdD, .ref amSz, .ref amLane, .ref amSh, .ref amHands, .int mTrace])), (amK, .inl (cI, 5, .inl mK)), (amO, .inl (cI, 5, .inl mO)), (amD, .inl (cI, 5, .inl mD))] := by
  refine g_entry (by decide) rfl rfl rfl rfl (Nat.le_of_ble_eq_true rfl) (lv := [(0, .ref aMO), (1, .int l), (2, .int what)]) rfl ?_
  intro X hC hX
  obtain ⟨res, hres⟩ : ∃ z, z = (m_X8_ofLinen mLin mK mO mD l what) := ⟨_, rfl⟩
  rw [← hres] at hX
  rw [m_X8_ofLinen] at hres
  refine g_aload_n hC dX8_ofLinen_0 rfl 0 rfl rfl ?_
  refine g_iload_n hC dX8_ofLinen_1 rfl 1 rfl rfl ?_
  refine g_callV (ws' := [(aMO, .inr (8, [.int mFault, .ref amS, .int mDays, .ref amH, .int mLin, .ref amK, .ref amO, .ref amD, .int mCool, .int mReadAt, .int mReadDays, .int mReadLin, .ref amRS, .ref amRH, .ref amRK, .ref amRO, .ref amRD, .ref amDN, .ref amSN, .int mDayNow, .int mLast, .int mTears, .int mWrong, .ref amTF, .ref amTFor, .ref amWB, .int mRdn, .ref amRdL, .ref amRdE, .ref amRdD, .ref amSz, .ref amLane, .ref amSh, .ref amHands, .int mTrace])), (amK, .inl (cI, 5, .inl mK)), (amO, .inl (cI, 5, .inl mO)), (amD, .inl (cI, 5, .inl mD))]) (st' := [.int (m_X8_noLinen mLin l)]) (nw := 4) (n1 := 1) hC gX8_ofLinen_X8_noLinen hdV_yX8_noLinen 0 rfl rfl (As := [.int l]) (rest := []) (c_X8_noLinen D cI aMO mFault amS mDays amH mLin amK amO amD mCool mReadAt mReadDays mReadLin amRS amRH amRK amRO amRD amDN amSN mDayNow mLast mTears mWrong amTF amTFor amWB mRdn amRdL amRdE amRdD amSz amLane amSh amHands mTrace l) rfl ⟨by decide, by decide⟩ rfl [0] [1, 2, 3] [3, 0, 1, 2] [0] rfl rfl rfl rfl (by decide) rfl rfl (Nat.le_of_ble_eq_true rfl) dX8_ofLinen_2 rfl rfl ?_
  refine g_if_eq (tgt := 10) hC dX8_ofLinen_5 (by decide) rfl (fun c_5 => ?_) (fun c_5 => ?_)
  · rw [if_pos c_5] at hres
    refine g_iload_n hC dX8_ofLinen_10 rfl 2 rfl rfl ?_
    refine g_if_ne (tgt := 23) hC dX8_ofLinen_11 (by decide) rfl (fun c_11 => ?_) (fun c_11 => ?_)
    · rw [if_neg c_11] at hres
      refine g_iload_n hC dX8_ofLinen_23 rfl 2 rfl rfl ?_
      refine g_iconst (v := 1) hC dX8_ofLinen_24 (by decide) rfl ?_
      refine g_icmp_ne (tgt := 37) hC dX8_ofLinen_25 (by decide) rfl (fun c_25 => ?_) (fun c_25 => ?_)
      · rw [if_neg c_25] at hres
        refine g_iload_n hC dX8_ofLinen_37 rfl 2 rfl rfl ?_
        refine g_iconst (v := 2) hC dX8_ofLinen_38 (by decide) rfl ?_
        have K_39 : ∀ vK : Int32, vK = (if what = (2 : Int32) then (mD l.toNatClampNeg) else (-2 : Int32)) → G X D 3 [(aMO, .inr (8, [.int mFault, .ref amS, .int mDays, .ref amH, .int mLin, .ref amK, .ref amO, .ref amD, .int mCool, .int mReadAt, .int mReadDays, .int mReadLin, .ref amRS, .ref amRH, .ref amRK, .ref amRO, .ref amRD, .ref amDN, .ref amSN, .int mDayNow, .int mLast, .int mTears, .int mWrong, .ref amTF, .ref amTFor, .ref amWB, .int mRdn, .ref amRdL, .ref amRdE, .ref amRdD, .ref amSz, .ref amLane, .ref amSh, .ref amHands, .int mTrace])), (amK, .inl (cI, 5, .inl mK)), (amO, .inl (cI, 5, .inl mO)), (amD, .inl (cI, 5, .inl mD))] [(0, .ref aMO), (1, .int l), (2, .int what)] 53 (.int vK :: []) := by
          intro vK hvK
          subst hvK
          subst hres
          exact g_iret hC hX rfl dX8_ofLinen_53 rfl rfl
        refine g_icmp_ne (tgt := 51) hC dX8_ofLinen_39 (by decide) rfl (fun c_39 => ?_) (fun c_39 => ?_)
        · refine g_bipush (v := -2) hC dX8_ofLinen_51 (by decide) rfl ?_
          exact K_39 _ (if_neg c_39).symm
        · refine g_aload_n hC dX8_ofLinen_42 rfl 0 rfl rfl ?_
          refine g_get hC iw_X8_ofLinen_RX8 0 rfl rfl 7 (by decide) (List.mem_of_getElem? (i := 3) rfl) rfl rfl dX8_ofLinen_43 rfl ?_
          refine g_iload_n hC dX8_ofLinen_46 rfl 1 rfl rfl ?_
          refine g_iald hC 3 0 rfl rfl (by exact nl_ok c_5 hl5) dX8_ofLinen_47 rfl ?_
          refine g_goto (tgt := 53) hC dX8_ofLinen_48 (by decide) ?_
          exact K_39 _ (if_pos c_39).symm
      · rw [if_pos c_25] at hres
        refine g_aload_n hC dX8_ofLinen_28 rfl 0 rfl rfl ?_
        refine g_get hC iw_X8_ofLinen_RX8 0 rfl rfl 6 (by decide) (List.mem_of_getElem? (i := 2) rfl) rfl rfl dX8_ofLinen_29 rfl ?_
        refine g_iload_n hC dX8_ofLinen_32 rfl 1 rfl rfl ?_
        refine g_iald hC 2 0 rfl rfl (by exact nl_ok c_5 hl5) dX8_ofLinen_33 rfl ?_
        refine g_goto (tgt := 53) hC dX8_ofLinen_34 (by decide) ?_
        subst hres
        exact g_iret hC hX rfl dX8_ofLinen_53 rfl rfl
    · rw [if_pos c_11] at hres
      refine g_aload_n hC dX8_ofLinen_14 rfl 0 rfl rfl ?_
      refine g_get hC iw_X8_ofLinen_RX8 0 rfl rfl 5 (by decide) (List.mem_of_getElem? (i := 1) rfl) rfl rfl dX8_ofLinen_15 rfl ?_
      refine g_iload_n hC dX8_ofLinen_18 rfl 1 rfl rfl ?_
      refine g_iald hC 1 0 rfl rfl (by exact nl_ok c_5 hl5) dX8_ofLinen_19 rfl ?_
      refine g_goto (tgt := 53) hC dX8_ofLinen_20 (by decide) ?_
      subst hres
      exact g_iret hC hX rfl dX8_ofLinen_53 rfl rfl
  · rw [if_neg c_5] at hres
    refine g_iconst (v := -1) hC dX8_ofLinen_8 (by decide) rfl ?_
    subst hres
    exact g_iret hC hX rfl dX8_ofLinen_9 rfl rfl
theorem iw_X8_heat_RX8 : ∀ w ∈ wsX80, w ∈ wsX8_heat := fun _ h => List.mem_cons_of_mem _ (List.mem_append_right _ (h))
def m_X8_heat (mDays : Int32) (mH : Nat → Int32) (d : Int32) : (Int32) := (if (m_X8_noDay mDays d) = 0 then (mH d.toNatClampNeg) else (-1 : Int32))
set_option maxRecDepth 100000 in
set_option maxHeartbeats 4000000 in
theorem c_X8_heat (D : va_G) (cI : ClassId) (aMO : Nat) (mFault : Int32) (amS : Nat) (mDays : Int32) (amH : Nat) (mLin : Int32) (amK : Nat) (amO : Nat) (amD : Nat) (mCool : Int32) (mReadAt : Int32) (mReadDays : Int32) (mReadLin : Int32) (amRS : Nat) (amRH : Nat) (amRK : Nat) (amRO : Nat) (amRD : Nat) (amDN : Nat) (amSN : Nat) (mDayNow : Int32) (mLast : Int32) (mTears : Int32) (mWrong : Int32) (amTF : Nat) (amTFor : Nat) (amWB : Nat) (mRdn : Int32) (amRdL : Nat) (amRdE : Nat) (amRdD : Nat) (amSz : Nat) (amLane : Nat) (amSh : Nat) (amHands : Nat) (mTrace : Int32) (mH : Nat → Int32) (d : Int32) (hd6 : mDays.toInt ≤ 6) : MC yX8_heat wsX8_heat ({ frames := 2, cells := 0, slots := 0, locals := 46 } : Room) D [(cI, .int)] [.ref aMO, .int d] [(aMO, .inr (8, [.int mFault, .ref amS, .int mDays, .ref amH, .int mLin, .ref amK, .ref amO, .ref amD, .int mCool, .int mReadAt, .int mReadDays, .int mReadLin, .ref amRS, .ref amRH, .ref amRK, .ref amRO, .ref amRD, .ref amDN, .ref amSN, .int mDayNow, .int mLast, .int mTears, .int mWrong, .ref amTF, .ref amTFor, .ref amWB, .int mRdn, .ref amRdL, .ref amRdE, .ref amRdD, .ref amSz, .ref amLane, .ref amSh, .ref amHands, .int mTrace])), (amH, .inl (cI, 6, .inl mH))] (some (.int (m_X8_heat mDays mH d))) [(aMO, .inr (8, [.int mFault, .ref amS, .int mDays, .ref amH, .int mLin, .ref amK, .ref amO, .ref amD, .int mCool, .int mReadAt, .int mReadDays, .int mReadLin, .ref amRS, .ref amRH, .ref amRK, .ref amRO, .ref amRD, .ref amDN, .ref amSN, .int mDayNow, .int mLast, .int mTears, .int mWrong, .ref amTF, .ref amTFor, .ref amWB, .int mRdn, .ref amRdL, .ref amRdE, .ref amRdD, .ref amSz, .ref amLane, .ref amSh, .ref amHands, .int mTrace])), (amH, .inl (cI, 6, .inl mH))] := by
  refine g_entry (by decide) rfl rfl rfl rfl (Nat.le_of_ble_eq_true rfl) (lv := [(0, .ref aMO), (1, .int d)]) rfl ?_
  intro X hC hX
  obtain ⟨res, hres⟩ : ∃ z, z = (m_X8_heat mDays mH d) := ⟨_, rfl⟩
  rw [← hres] at hX
  rw [m_X8_heat] at hres
  refine g_aload_n hC dX8_heat_0 rfl 0 rfl rfl ?_
  refine g_iload_n hC dX8_heat_1 rfl 1 rfl rfl ?_
  refine g_callV (ws' := [(aMO, .inr (8, [.int mFault, .ref amS, .int mDays, .ref amH, .int mLin, .ref amK, .ref amO, .ref amD, .int mCool, .int mReadAt, .int mReadDays, .int mReadLin, .ref amRS, .ref amRH, .ref amRK, .ref amRO, .ref amRD, .ref amDN, .ref amSN, .int mDayNow, .int mLast, .int mTears, .int mWrong, .ref amTF, .ref amTFor, .ref amWB, .int mRdn, .ref amRdL, .ref amRdE, .ref amRdD, .ref amSz, .ref amLane, .ref amSh, .ref amHands, .int mTrace])), (amH, .inl (cI, 6, .inl mH))]) (st' := [.int (m_X8_noDay mDays d)]) (nw := 2) (n1 := 1) hC gX8_heat_X8_noDay hdV_yX8_noDay 0 rfl rfl (As := [.int d]) (rest := []) (c_X8_noDay D cI aMO mFault amS mDays amH mLin amK amO amD mCool mReadAt mReadDays mReadLin amRS amRH amRK amRO amRD amDN amSN mDayNow mLast mTears mWrong amTF amTFor amWB mRdn amRdL amRdE amRdD amSz amLane amSh amHands mTrace d) rfl ⟨by decide, by decide⟩ rfl [0] [1] [1, 0] [0] rfl rfl rfl rfl (by decide) rfl rfl (Nat.le_of_ble_eq_true rfl) dX8_heat_2 rfl rfl ?_
  have K_5 : ∀ vK : Int32, vK = (if (m_X8_noDay mDays d) = 0 then (mH d.toNatClampNeg) else (-1 : Int32)) → G X D 2 [(aMO, .inr (8, [.int mFault, .ref amS, .int mDays, .ref amH, .int mLin, .ref amK, .ref amO, .ref amD, .int mCool, .int mReadAt, .int mReadDays, .int mReadLin, .ref amRS, .ref amRH, .ref amRK, .ref amRO, .ref amRD, .ref amDN, .ref amSN, .int mDayNow, .int mLast, .int mTears, .int mWrong, .ref amTF, .ref amTFor, .ref amWB, .int mRdn, .ref amRdL, .ref amRdE, .ref amRdD, .ref amSz, .ref amLane, .ref amSh, .ref amHands, .int mTrace])), (amH, .inl (cI, 6, .inl mH))] [(0, .ref aMO), (1, .int d)] 18 (.int vK :: []) := by
    intro vK hvK
    subst hvK
    subst hres
    exact g_iret hC hX rfl dX8_heat_18 rfl rfl
  refine g_if_eq (tgt := 12) hC dX8_heat_5 (by decide) rfl (fun c_5 => ?_) (fun c_5 => ?_)
  · refine g_aload_n hC dX8_heat_12 rfl 0 rfl rfl ?_
    refine g_get hC iw_X8_heat_RX8 0 rfl rfl 3 (by decide) (List.mem_of_getElem? (i := 1) rfl) rfl rfl dX8_heat_13 rfl ?_
    refine g_iload_n hC dX8_heat_16 rfl 1 rfl rfl ?_
    refine g_iald hC 1 0 rfl rfl (by exact nd_ok c_5 hd6) dX8_heat_17 rfl ?_
    exact K_5 _ (if_pos c_5).symm
  · refine g_iconst (v := -1) hC dX8_heat_8 (by decide) rfl ?_
    refine g_goto (tgt := 18) hC dX8_heat_9 (by decide) ?_
    exact K_5 _ (if_neg c_5).symm
theorem iw_X8_warm_RX8 : ∀ w ∈ wsX80, w ∈ wsX8_warm := fun _ h => List.mem_cons_of_mem _ (List.mem_append_right _ (h))
def m_X8_warm (mDays : Int32) (mH : Nat → Int32) (d : Int32) (v : Int32) : (Int32 × (Nat → Int32)) := (if (m_X8_noDay mDays d) = 0 then (if (m_X8_in v.toInt64 (0 : Int64) (9 : Int64)) = 0 then ((-2 : Int32), mH) else ((mH d.toNatClampNeg), (upd mH d.toNatClampNeg v))) else ((-1 : Int32), mH))
set_option maxRecDepth 100000 in
set_option maxHeartbeats 4000000 in
theorem c_X8_warm (D : va_G) (cI : ClassId) (aMO : Nat) (mFault : Int32) (amS : Nat) (mDays : Int32) (amH : Nat) (mLin : Int32) (amK : Nat) (amO : Nat) (amD : Nat) (mCool : Int32) (mReadAt : Int32) (mReadDays : Int32) (mReadLin : Int32) (amRS : Nat) (amRH : Nat) (amRK : Nat) (amRO : Nat) (amRD : Nat) (amDN : Nat) (amSN : Nat) (mDayNow : Int32) (mLast : Int32) (mTears : Int32) (mWrong : Int32) (amTF : Nat) (amTFor : Nat) (amWB : Nat) (mRdn : Int32) (amRdL : Nat) (amRdE : Nat) (amRdD : Nat) (amSz : Nat) (amLane : Nat) (amSh : Nat) (amHands : Nat) (mTrace : Int32) (mH : Nat → Int32) (d : Int32) (v : Int32) (hd6 : mDays.toInt ≤ 6) : MC yX8_warm wsX8_warm ({ frames := 2, cells := 0, slots := 0, locals := 46 } : Room) D [(cI, .int)] [.ref aMO, .int d, .int v] [(aMO, .inr (8, [.int mFault, .ref amS, .int mDays, .ref amH, .int mLin, .ref amK, .ref amO, .ref amD, .int mCool, .int mReadAt, .int mReadDays, .int mReadLin, .ref amRS, .ref amRH, .ref amRK, .ref amRO, .ref amRD, .ref amDN, .ref amSN, .int mDayNow, .int mLast, .int mTears, .int mWrong, .ref amTF, .ref amTFor, .ref amWB, .int mRdn, .ref amRdL, .ref amRdE, .ref amRdD, .ref amSz, .ref amLane, .ref amSh, .ref amHands, .int mTrace])), (amH, .inl (cI, 6, .inl mH))] (some (.int ((m_X8_warm mDays mH d v).1))) [(aMO, .inr (8, [.int mFault, .ref amS, .int mDays, .ref amH, .int mLin, .ref amK, .ref amO, .ref amD, .int mCool, .int mReadAt, .int mReadDays, .int mReadLin, .ref amRS, .ref amRH, .ref amRK, .ref amRO, .ref amRD, .ref amDN, .ref amSN, .int mDayNow, .int mLast, .int mTears, .int mWrong, .ref amTF, .ref amTFor, .ref amWB, .int mRdn, .ref amRdL, .ref amRdE, .ref amRdD, .ref amSz, .ref amLane, .ref amSh, .ref amHands, .int mTrace])), (amH, .inl (cI, 6, .inl ((m_X8_warm mDays mH d v).2)))] := by
  refine g_entry (by decide) rfl rfl rfl rfl (Nat.le_of_ble_eq_true rfl) (lv := [(0, .ref aMO), (1, .int d), (2, .int v)]) rfl ?_
  intro X hC hX
  obtain ⟨res, hres⟩ : ∃ z, z = (m_X8_warm mDays mH d v) := ⟨_, rfl⟩
  rw [← hres] at hX
  rw [m_X8_warm] at hres
  refine g_aload_n hC dX8_warm_0 rfl 0 rfl rfl ?_
  refine g_iload_n hC dX8_warm_1 rfl 1 rfl rfl ?_
  refine g_callV (ws' := [(aMO, .inr (8, [.int mFault, .ref amS, .int mDays, .ref amH, .int mLin, .ref amK, .ref amO, .ref amD, .int mCool, .int mReadAt, .int mReadDays, .int mReadLin, .ref amRS, .ref amRH, .ref amRK, .ref amRO, .ref amRD, .ref amDN, .ref amSN, .int mDayNow, .int mLast, .int mTears, .int mWrong, .ref amTF, .ref amTFor, .ref amWB, .int mRdn, .ref amRdL, .ref amRdE, .ref amRdD, .ref amSz, .ref amLane, .ref amSh, .ref amHands, .int mTrace])), (amH, .inl (cI, 6, .inl mH))]) (st' := [.int (m_X8_noDay mDays d)]) (nw := 2) (n1 := 1) hC gX8_warm_X8_noDay hdV_yX8_noDay 0 rfl rfl (As := [.int d]) (rest := []) (c_X8_noDay D cI aMO mFault amS mDays amH mLin amK amO amD mCool mReadAt mReadDays mReadLin amRS amRH amRK amRO amRD amDN amSN mDayNow mLast mTears mWrong amTF amTFor amWB mRdn amRdL amRdE amRdD amSz amLane amSh amHands mTrace d) rfl ⟨by decide, by decide⟩ rfl [0] [1] [1, 0] [0] rfl rfl rfl rfl (by decide) rfl rfl (Nat.le_of_ble_eq_true rfl) dX8_warm_2 rfl rfl ?_
  refine g_if_eq (tgt := 10) hC dX8_warm_5 (by decide) rfl (fun c_5 => ?_) (fun c_5 => ?_)
  · rw [if_pos c_5] at hres
    refine g_iload_n hC dX8_warm_10 rfl 2 rfl rfl ?_
    refine g_i2l hC dX8_warm_11 rfl ?_
    refine g_lconst (v := 0) hC dX8_warm_12 (by decide) rfl ?_
    refine g_ldc2 (v := 9) hC (List.mem_of_getElem? (i := 1) rfl) dX8_warm_13 rfl ?_
    refine g_callS (ws' := [(aMO, .inr (8, [.int mFault, .ref amS, .int mDays, .ref amH, .int mLin, .ref amK, .ref amO, .ref amD, .int mCool, .int mReadAt, .int mReadDays, .int mReadLin, .ref amRS, .ref amRH, .ref amRK, .ref amRO, .ref amRD, .ref amDN, .ref amSN, .int mDayNow, .int mLast, .int mTears, .int mWrong, .ref amTF, .ref amTFor, .ref amWB, .int mRdn, .ref amRdL, .ref amRdE, .ref amRdD, .ref amSz, .ref amLane, .ref amSh, .ref amHands, .int mTrace])), (amH, .inl (cI, 6, .inl mH))]) (st' := [.int (m_X8_in v.toInt64 (0 : Int64) (9 : Int64))]) (nw := 2) (n1 := 0) hC gX8_warm_X8_in hdS_yX8_in (As := [.long v.toInt64, .long (0 : Int64), .long (9 : Int64)]) (rest := []) (c_X8_in D cI v.toInt64 (0 : Int64) (9 : Int64)) rfl ⟨by decide, by decide⟩ rfl [] [0, 1] [0, 1] [0] rfl rfl rfl rfl (by decide) rfl rfl (Nat.le_of_ble_eq_true rfl) dX8_warm_16 rfl rfl ?_
    refine g_if_ne (tgt := 25) hC dX8_warm_19 (by decide) rfl (fun c_19 => ?_) (fun c_19 => ?_)
    · rw [if_neg c_19] at hres
      refine g_aload_n hC dX8_warm_25 rfl 0 rfl rfl ?_
      refine g_get hC iw_X8_warm_RX8 0 rfl rfl 3 (by decide) (List.mem_of_getElem? (i := 2) rfl) rfl rfl dX8_warm_26 rfl ?_
      refine g_iload_n hC dX8_warm_29 rfl 1 rfl rfl ?_
      refine g_iald hC 1 0 rfl rfl (by exact nd_ok c_5 hd6) dX8_warm_30 rfl ?_
      refine g_istore_n (lv' := [(3, .int (mH d.toNatClampNeg)), (0, .ref aMO), (1, .int d), (2, .int v)]) hC dX8_warm_31 rfl (by decide) rfl rfl ?_
      refine g_aload_n hC dX8_warm_32 rfl 1 rfl rfl ?_
      refine g_get hC iw_X8_warm_RX8 0 rfl rfl 3 (by decide) (List.mem_of_getElem? (i := 2) rfl) rfl rfl dX8_warm_33 rfl ?_
      refine g_iload_n hC dX8_warm_36 rfl 2 rfl rfl ?_
      refine g_iload_n hC dX8_warm_37 rfl 3 rfl rfl ?_
      refine g_iast (ws' := [(aMO, .inr (8, [.int mFault, .ref amS, .int mDays, .ref amH, .int mLin, .ref amK, .ref amO, .ref amD, .int mCool, .int mReadAt, .int mReadDays, .int mReadLin, .ref amRS, .ref amRH, .ref amRK, .ref amRO, .ref amRD, .ref amDN, .ref amSN, .int mDayNow, .int mLast, .int mTears, .int mWrong, .ref amTF, .ref amTFor, .ref amWB, .int mRdn, .ref amRdL, .ref amRdE, .ref amRdD, .ref amSz, .ref amLane, .ref amSh, .ref amHands, .int mTrace])), (amH, .inl (cI, 6, .inl (upd mH d.toNatClampNeg v)))]) hC 1 0 rfl rfl (by exact nd_ok c_5 hd6) rfl dX8_warm_38 rfl ?_
      refine g_iload_n hC dX8_warm_39 rfl 0 rfl rfl ?_
      subst hres
      exact g_iret hC hX rfl dX8_warm_40 rfl rfl
    · rw [if_pos c_19] at hres
      refine g_bipush (v := -2) hC dX8_warm_22 (by decide) rfl ?_
      subst hres
      exact g_iret hC hX rfl dX8_warm_24 rfl rfl
  · rw [if_neg c_5] at hres
    refine g_iconst (v := -1) hC dX8_warm_8 (by decide) rfl ?_
    subst hres
    exact g_iret hC hX rfl dX8_warm_9 rfl rfl
theorem iw_X8_grieve_RX8 : ∀ w ∈ wsX80, w ∈ wsX8_grieve := fun _ h => List.mem_cons_of_mem _ (List.mem_append_right _ (h))
def m_X8_grieve (mLin : Int32) (mS : Nat → Int32) (w : Int32) (v : Int32) : (Int32 × (Nat → Int32)) := (if (m_X8_noWeeper w) = 0 then (if (m_X8_in v.toInt64 (0 : Int64) (9 : Int64)) = 0 then ((-2 : Int32), mS) else (if mLin = 0 then ((-3 : Int32), mS) else ((mS w.toNatClampNeg), (upd mS w.toNatClampNeg v)))) else ((-1 : Int32), mS))
set_option maxRecDepth 100000 in
set_option maxHeartbeats 4000000 in
theorem c_X8_grieve (D : va_G) (cI : ClassId) (aMO : Nat) (mFault : Int32) (amS : Nat) (mDays : Int32) (amH : Nat) (mLin : Int32) (amK : Nat) (amO : Nat) (amD : Nat) (mCool : Int32) (mReadAt : Int32) (mReadDays : Int32) (mReadLin : Int32) (amRS : Nat) (amRH : Nat) (amRK : Nat) (amRO : Nat) (amRD : Nat) (amDN : Nat) (amSN : Nat) (mDayNow : Int32) (mLast : Int32) (mTears : Int32) (mWrong : Int32) (amTF : Nat) (amTFor : Nat) (amWB : Nat) (mRdn : Int32) (amRdL : Nat) (amRdE : Nat) (amRdD : Nat) (amSz : Nat) (amLane : Nat) (amSh : Nat) (amHands : Nat) (mTrace : Int32) (mS : Nat → Int32) (w : Int32) (v : Int32) : MC yX8_grieve wsX8_grieve ({ frames := 2, cells := 0, slots := 0, locals := 45 } : Room) D [(cI, .int)] [.ref aMO, .int w, .int v] [(aMO, .inr (8, [.int mFault, .ref amS, .int mDays, .ref amH, .int mLin, .ref amK, .ref amO, .ref amD, .int mCool, .int mReadAt, .int mReadDays, .int mReadLin, .ref amRS, .ref amRH, .ref amRK, .ref amRO, .ref amRD, .ref amDN, .ref amSN, .int mDayNow, .int mLast, .int mTears, .int mWrong, .ref amTF, .ref amTFor, .ref amWB, .int mRdn, .ref amRdL, .ref amRdE, .ref amRdD, .ref amSz, .ref amLane, .ref amSh, .ref amHands, .int mTrace])), (amS, .inl (cI, 4, .inl mS))] (some (.int ((m_X8_grieve mLin mS w v).1))) [(aMO, .inr (8, [.int mFault, .ref amS, .int mDays, .ref amH, .int mLin, .ref amK, .ref amO, .ref amD, .int mCool, .int mReadAt, .int mReadDays, .int mReadLin, .ref amRS, .ref amRH, .ref amRK, .ref amRO, .ref amRD, .ref amDN, .ref amSN, .int mDayNow, .int mLast, .int mTears, .int mWrong, .ref amTF, .ref amTFor, .ref amWB, .int mRdn, .ref amRdL, .ref amRdE, .ref amRdD, .ref amSz, .ref amLane, .ref amSh, .ref amHands, .int mTrace])), (amS, .inl (cI, 4, .inl ((m_X8_grieve mLin mS w v).2)))] := by
  refine g_entry (by decide) rfl rfl rfl rfl (Nat.le_of_ble_eq_true rfl) (lv := [(0, .ref aMO), (1, .int w), (2, .int v)]) rfl ?_
  intro X hC hX
  obtain ⟨res, hres⟩ : ∃ z, z = (m_X8_grieve mLin mS w v) := ⟨_, rfl⟩
  rw [← hres] at hX
  rw [m_X8_grieve] at hres
  refine g_iload_n hC dX8_grieve_0 rfl 1 rfl rfl ?_
  refine g_callS (ws' := [(aMO, .inr (8, [.int mFault, .ref amS, .int mDays, .ref amH, .int mLin, .ref amK, .ref amO, .ref amD, .int mCool, .int mReadAt, .int mReadDays, .int mReadLin, .ref amRS, .ref amRH, .ref amRK, .ref amRO, .ref amRD, .ref amDN, .ref amSN, .int mDayNow, .int mLast, .int mTears, .int mWrong, .ref amTF, .ref amTFor, .ref amWB, .int mRdn, .ref amRdL, .ref amRdE, .ref amRdD, .ref amSz, .ref amLane, .ref amSh, .ref amHands, .int mTrace])), (amS, .inl (cI, 4, .inl mS))]) (st' := [.int (m_X8_noWeeper w)]) (nw := 2) (n1 := 0) hC gX8_grieve_X8_noWeeper hdS_yX8_noWeeper (As := [.int w]) (rest := []) (c_X8_noWeeper D cI w) rfl ⟨by decide, by decide⟩ rfl [] [0, 1] [0, 1] [0] rfl rfl rfl rfl (by decide) rfl rfl (Nat.le_of_ble_eq_true rfl) dX8_grieve_1 rfl rfl ?_
  refine g_if_eq (tgt := 9) hC dX8_grieve_4 (by decide) rfl (fun c_4 => ?_) (fun c_4 => ?_)
  · rw [if_pos c_4] at hres
    refine g_iload_n hC dX8_grieve_9 rfl 2 rfl rfl ?_
    refine g_i2l hC dX8_grieve_10 rfl ?_
    refine g_lconst (v := 0) hC dX8_grieve_11 (by decide) rfl ?_
    refine g_ldc2 (v := 9) hC (List.mem_of_getElem? (i := 1) rfl) dX8_grieve_12 rfl ?_
    refine g_callS (ws' := [(aMO, .inr (8, [.int mFault, .ref amS, .int mDays, .ref amH, .int mLin, .ref amK, .ref amO, .ref amD, .int mCool, .int mReadAt, .int mReadDays, .int mReadLin, .ref amRS, .ref amRH, .ref amRK, .ref amRO, .ref amRD, .ref amDN, .ref amSN, .int mDayNow, .int mLast, .int mTears, .int mWrong, .ref amTF, .ref amTFor, .ref amWB, .int mRdn, .ref amRdL, .ref amRdE, .ref amRdD, .ref amSz, .ref amLane, .ref amSh, .ref amHands, .int mTrace])), (amS, .inl (cI, 4, .inl mS))]) (st' := [.int (m_X8_in v.toInt64 (0 : Int64) (9 : Int64))]) (nw := 2) (n1 := 0) hC gX8_grieve_X8_in hdS_yX8_in (As := [.long v.toInt64, .long (0 : Int64), .long (9 : Int64)]) (rest := []) (c_X8_in D cI v.toInt64 (0 : Int64) (9 : Int64)) rfl ⟨by decide, by decide⟩ rfl [] [0, 1] [0, 1] [0] rfl rfl rfl rfl (by decide) rfl rfl (Nat.le_of_ble_eq_true rfl) dX8_grieve_15 rfl rfl ?_
    refine g_if_ne (tgt := 24) hC dX8_grieve_18 (by decide) rfl (fun c_18 => ?_) (fun c_18 => ?_)
    · rw [if_neg c_18] at hres
      refine g_aload_n hC dX8_grieve_24 rfl 0 rfl rfl ?_
      refine g_get hC iw_X8_grieve_RX8 0 rfl rfl 4 (by decide) (List.mem_of_getElem? (i := 2) rfl) rfl rfl dX8_grieve_25 rfl ?_
      refine g_if_ne (tgt := 34) hC dX8_grieve_28 (by decide) rfl (fun c_28 => ?_) (fun c_28 => ?_)
      · rw [if_neg c_28] at hres
        refine g_aload_n hC dX8_grieve_34 rfl 0 rfl rfl ?_
        refine g_get hC iw_X8_grieve_RX8 0 rfl rfl 1 (by decide) (List.mem_of_getElem? (i := 3) rfl) rfl rfl dX8_grieve_35 rfl ?_
        refine g_iload_n hC dX8_grieve_38 rfl 1 rfl rfl ?_
        refine g_iald hC 1 0 rfl rfl (by exact nw_ok c_4) dX8_grieve_39 rfl ?_
        refine g_istore_n (lv' := [(3, .int (mS w.toNatClampNeg)), (0, .ref aMO), (1, .int w), (2, .int v)]) hC dX8_grieve_40 rfl (by decide) rfl rfl ?_
        refine g_aload_n hC dX8_grieve_41 rfl 1 rfl rfl ?_
        refine g_get hC iw_X8_grieve_RX8 0 rfl rfl 1 (by decide) (List.mem_of_getElem? (i := 3) rfl) rfl rfl dX8_grieve_42 rfl ?_
        refine g_iload_n hC dX8_grieve_45 rfl 2 rfl rfl ?_
        refine g_iload_n hC dX8_grieve_46 rfl 3 rfl rfl ?_
        refine g_iast (ws' := [(aMO, .inr (8, [.int mFault, .ref amS, .int mDays, .ref amH, .int mLin, .ref amK, .ref amO, .ref amD, .int mCool, .int mReadAt, .int mReadDays, .int mReadLin, .ref amRS, .ref amRH, .ref amRK, .ref amRO, .ref amRD, .ref amDN, .ref amSN, .int mDayNow, .int mLast, .int mTears, .int mWrong, .ref amTF, .ref amTFor, .ref amWB, .int mRdn, .ref amRdL, .ref amRdE, .ref amRdD, .ref amSz, .ref amLane, .ref amSh, .ref amHands, .int mTrace])), (amS, .inl (cI, 4, .inl (upd mS w.toNatClampNeg v)))]) hC 1 0 rfl rfl (by exact nw_ok c_4) rfl dX8_grieve_47 rfl ?_
        refine g_iload_n hC dX8_grieve_48 rfl 0 rfl rfl ?_
        subst hres
        exact g_iret hC hX rfl dX8_grieve_49 rfl rfl
      · rw [if_pos c_28] at hres
        refine g_bipush (v := -3) hC dX8_grieve_31 (by decide) rfl ?_
        subst hres
        exact g_iret hC hX rfl dX8_grieve_33 rfl rfl
    · rw [if_pos c_18] at hres
      refine g_bipush (v := -2) hC dX8_grieve_21 (by decide) rfl ?_
      subst hres
      exact g_iret hC hX rfl dX8_grieve_23 rfl rfl
  · rw [if_neg c_4] at hres
    refine g_iconst (v := -1) hC dX8_grieve_7 (by decide) rfl ?_
    subst hres
    exact g_iret hC hX rfl dX8_grieve_8 rfl rfl
theorem iw_X8_give_RX8 : ∀ w ∈ wsX80, w ∈ wsX8_give := fun _ h => List.mem_cons_of_mem _ (List.mem_append_right _ (h))
def m_X8_give (mLin : Int32) (mO : Nat → Int32) (l : Int32) (w : Int32) : (Int32 × (Nat → Int32)) := (if (m_X8_noLinen mLin l) = 0 then (if (m_X8_noWeeper w) = 0 then ((mO l.toNatClampNeg), (upd mO l.toNatClampNeg w)) else ((-1 : Int32), mO)) else ((-1 : Int32), mO))
set_option maxRecDepth 100000 in
set_option maxHeartbeats 4000000 in
theorem c_X8_give (D : va_G) (cI : ClassId) (aMO : Nat) (mFault : Int32) (amS : Nat) (mDays : Int32) (amH : Nat) (mLin : Int32) (amK : Nat) (amO : Nat) (amD : Nat) (mCool : Int32) (mReadAt : Int32) (mReadDays : Int32) (mReadLin : Int32) (amRS : Nat) (amRH : Nat) (amRK : Nat) (amRO : Nat) (amRD : Nat) (amDN : Nat) (amSN : Nat) (mDayNow : Int32) (mLast : Int32) (mTears : Int32) (mWrong : Int32) (amTF : Nat) (amTFor : Nat) (amWB : Nat) (mRdn : Int32) (amRdL : Nat) (amRdE : Nat) (amRdD : Nat) (amSz : Nat) (amLane : Nat) (amSh : Nat) (amHands : Nat) (mTrace : Int32) (mO : Nat → Int32) (l : Int32) (w : Int32) (hl5 : mLin.toInt ≤ 5) : MC yX8_give wsX8_give ({ frames := 2, cells := 0, slots := 0, locals := 46 } : Room) D [(cI, .int)] [.ref aMO, .int l, .int w] [(aMO, .inr (8, [.int mFault, .ref amS, .int mDays, .ref amH, .int mLin, .ref amK, .ref amO, .ref amD, .int mCool, .int mReadAt, .int mReadDays, .int mReadLin, .ref amRS, .ref amRH, .ref amRK, .ref amRO, .ref amRD, .ref amDN, .ref amSN, .int mDayNow, .int mLast, .int mTears, .int mWrong, .ref amTF, .ref amTFor, .ref amWB, .int mRdn, .ref amRdL, .ref amRdE, .ref amRdD, .ref amSz, .ref amLane, .ref amSh, .ref amHands, .int mTrace])), (amO, .inl (cI, 5, .inl mO))] (some (.int ((m_X8_give mLin mO l w).1))) [(aMO, .inr (8, [.int mFault, .ref amS, .int mDays, .ref amH, .int mLin, .ref amK, .ref amO, .ref amD, .int mCool, .int mReadAt, .int mReadDays, .int mReadLin, .ref amRS, .ref amRH, .ref amRK, .ref amRO, .ref amRD, .ref amDN, .ref amSN, .int mDayNow, .int mLast, .int mTears, .int mWrong, .ref amTF, .ref amTFor, .ref amWB, .int mRdn, .ref amRdL, .ref amRdE, .ref amRdD, .ref amSz, .ref amLane, .ref amSh, .ref amHands, .int mTrace])), (amO, .inl (cI, 5, .inl ((m_X8_give mLin mO l w).2)))] := by
  refine g_entry (by decide) rfl rfl rfl rfl (Nat.le_of_ble_eq_true rfl) (lv := [(0, .ref aMO), (1, .int l), (2, .int w)]) rfl ?_
  intro X hC hX
  obtain ⟨res, hres⟩ : ∃ z, z = (m_X8_give mLin mO l w) := ⟨_, rfl⟩
  rw [← hres] at hX
  rw [m_X8_give] at hres
  refine g_aload_n hC dX8_give_0 rfl 0 rfl rfl ?_
  refine g_iload_n hC dX8_give_1 rfl 1 rfl rfl ?_
  refine g_callV (ws' := [(aMO, .inr (8, [.int mFault, .ref amS, .int mDays, .ref amH, .int mLin, .ref amK, .ref amO, .ref amD, .int mCool, .int mReadAt, .int mReadDays, .int mReadLin, .ref amRS, .ref amRH, .ref amRK, .ref amRO, .ref amRD, .ref amDN, .ref amSN, .int mDayNow, .int mLast, .int mTears, .int mWrong, .ref amTF, .ref amTFor, .ref amWB, .int mRdn, .ref amRdL, .ref amRdE, .ref amRdD, .ref amSz, .ref amLane, .ref amSh, .ref amHands, .int mTrace])), (amO, .inl (cI, 5, .inl mO))]) (st' := [.int (m_X8_noLinen mLin l)]) (nw := 2) (n1 := 1) hC gX8_give_X8_noLinen hdV_yX8_noLinen 0 rfl rfl (As := [.int l]) (rest := []) (c_X8_noLinen D cI aMO mFault amS mDays amH mLin amK amO amD mCool mReadAt mReadDays mReadLin amRS amRH amRK amRO amRD amDN amSN mDayNow mLast mTears mWrong amTF amTFor amWB mRdn amRdL amRdE amRdD amSz amLane amSh amHands mTrace l) rfl ⟨by decide, by decide⟩ rfl [0] [1] [1, 0] [0] rfl rfl rfl rfl (by decide) rfl rfl (Nat.le_of_ble_eq_true rfl) dX8_give_2 rfl rfl ?_
  refine g_if_ne (tgt := 15) hC dX8_give_5 (by decide) rfl (fun c_5 => ?_) (fun c_5 => ?_)
  · rw [if_neg c_5] at hres
    refine g_iconst (v := -1) hC dX8_give_15 (by decide) rfl ?_
    subst hres
    exact g_iret hC hX rfl dX8_give_16 rfl rfl
  · rw [if_pos c_5] at hres
    refine g_iload_n hC dX8_give_8 rfl 2 rfl rfl ?_
    refine g_callS (ws' := [(aMO, .inr (8, [.int mFault, .ref amS, .int mDays, .ref amH, .int mLin, .ref amK, .ref amO, .ref amD, .int mCool, .int mReadAt, .int mReadDays, .int mReadLin, .ref amRS, .ref amRH, .ref amRK, .ref amRO, .ref amRD, .ref amDN, .ref amSN, .int mDayNow, .int mLast, .int mTears, .int mWrong, .ref amTF, .ref amTFor, .ref amWB, .int mRdn, .ref amRdL, .ref amRdE, .ref amRdD, .ref amSz, .ref amLane, .ref amSh, .ref amHands, .int mTrace])), (amO, .inl (cI, 5, .inl mO))]) (st' := [.int (m_X8_noWeeper w)]) (nw := 2) (n1 := 0) hC gX8_give_X8_noWeeper hdS_yX8_noWeeper (As := [.int w]) (rest := []) (c_X8_noWeeper D cI w) rfl ⟨by decide, by decide⟩ rfl [] [0, 1] [0, 1] [0] rfl rfl rfl rfl (by decide) rfl rfl (Nat.le_of_ble_eq_true rfl) dX8_give_9 rfl rfl ?_
    refine g_if_eq (tgt := 17) hC dX8_give_12 (by decide) rfl (fun c_12 => ?_) (fun c_12 => ?_)
    · rw [if_pos c_12] at hres
      refine g_aload_n hC dX8_give_17 rfl 0 rfl rfl ?_
      refine g_get hC iw_X8_give_RX8 0 rfl rfl 6 (by decide) (List.mem_of_getElem? (i := 1) rfl) rfl rfl dX8_give_18 rfl ?_
      refine g_iload_n hC dX8_give_21 rfl 1 rfl rfl ?_
      refine g_iald hC 1 0 rfl rfl (by exact nl_ok c_5 hl5) dX8_give_22 rfl ?_
      refine g_istore_n (lv' := [(3, .int (mO l.toNatClampNeg)), (0, .ref aMO), (1, .int l), (2, .int w)]) hC dX8_give_23 rfl (by decide) rfl rfl ?_
      refine g_aload_n hC dX8_give_24 rfl 1 rfl rfl ?_
      refine g_get hC iw_X8_give_RX8 0 rfl rfl 6 (by decide) (List.mem_of_getElem? (i := 1) rfl) rfl rfl dX8_give_25 rfl ?_
      refine g_iload_n hC dX8_give_28 rfl 2 rfl rfl ?_
      refine g_iload_n hC dX8_give_29 rfl 3 rfl rfl ?_
      refine g_iast (ws' := [(aMO, .inr (8, [.int mFault, .ref amS, .int mDays, .ref amH, .int mLin, .ref amK, .ref amO, .ref amD, .int mCool, .int mReadAt, .int mReadDays, .int mReadLin, .ref amRS, .ref amRH, .ref amRK, .ref amRO, .ref amRD, .ref amDN, .ref amSN, .int mDayNow, .int mLast, .int mTears, .int mWrong, .ref amTF, .ref amTFor, .ref amWB, .int mRdn, .ref amRdL, .ref amRdE, .ref amRdD, .ref amSz, .ref amLane, .ref amSh, .ref amHands, .int mTrace])), (amO, .inl (cI, 5, .inl (upd mO l.toNatClampNeg w)))]) hC 1 0 rfl rfl (by exact nl_ok c_5 hl5) rfl dX8_give_30 rfl ?_
      refine g_iload_n hC dX8_give_31 rfl 0 rfl rfl ?_
      subst hres
      exact g_iret hC hX rfl dX8_give_32 rfl rfl
    · rw [if_neg c_12] at hres
      refine g_iconst (v := -1) hC dX8_give_15 (by decide) rfl ?_
      subst hres
      exact g_iret hC hX rfl dX8_give_16 rfl rfl
def m_X8_dries (mDays : Int32) (mLin : Int32) (mCool : Int32) (mH : Nat → Int32) (mK : Nat → Int32) (l : Int32) (d : Int32) : (Int32) := (if (m_X8_noLinen mLin l) = 0 then (if (m_X8_noDay mDays d) = 0 then (m_X8_driesOn mCool mH mK l d) else (-1 : Int32)) else (-1 : Int32))
set_option maxRecDepth 100000 in
set_option maxHeartbeats 4000000 in
theorem c_X8_dries (D : va_G) (cI : ClassId) (aMO : Nat) (mFault : Int32) (amS : Nat) (mDays : Int32) (amH : Nat) (mLin : Int32) (amK : Nat) (amO : Nat) (amD : Nat) (mCool : Int32) (mReadAt : Int32) (mReadDays : Int32) (mReadLin : Int32) (amRS : Nat) (amRH : Nat) (amRK : Nat) (amRO : Nat) (amRD : Nat) (amDN : Nat) (amSN : Nat) (mDayNow : Int32) (mLast : Int32) (mTears : Int32) (mWrong : Int32) (amTF : Nat) (amTFor : Nat) (amWB : Nat) (mRdn : Int32) (amRdL : Nat) (amRdE : Nat) (amRdD : Nat) (amSz : Nat) (amLane : Nat) (amSh : Nat) (amHands : Nat) (mTrace : Int32) (mH : Nat → Int32) (mK : Nat → Int32) (l : Int32) (d : Int32) (hl5 : mLin.toInt ≤ 5) (hd6 : mDays.toInt ≤ 6) : MC yX8_dries wsX8_dries ({ frames := 2, cells := 0, slots := 0, locals := 46 } : Room) D [(cI, .int)] [.ref aMO, .int l, .int d] [(aMO, .inr (8, [.int mFault, .ref amS, .int mDays, .ref amH, .int mLin, .ref amK, .ref amO, .ref amD, .int mCool, .int mReadAt, .int mReadDays, .int mReadLin, .ref amRS, .ref amRH, .ref amRK, .ref amRO, .ref amRD, .ref amDN, .ref amSN, .int mDayNow, .int mLast, .int mTears, .int mWrong, .ref amTF, .ref amTFor, .ref amWB, .int mRdn, .ref amRdL, .ref amRdE, .ref amRdD, .ref amSz, .ref amLane, .ref amSh, .ref amHands, .int mTrace])), (amH, .inl (cI, 6, .inl mH)), (amK, .inl (cI, 5, .inl mK))] (some (.int (m_X8_dries mDays mLin mCool mH mK l d))) [(aMO, .inr (8, [.int mFault, .ref amS, .int mDays, .ref amH, .int mLin, .ref amK, .ref amO, .ref amD, .int mCool, .int mReadAt, .int mReadDays, .int mReadLin, .ref amRS, .ref amRH, .ref amRK, .ref amRO, .ref amRD, .ref amDN, .ref amSN, .int mDayNow, .int mLast, .int mTears, .int mWrong, .ref amTF, .ref amTFor, .ref amWB, .int mRdn, .ref amRdL, .ref amRdE, .ref amRdD, .ref amSz, .ref amLane, .ref amSh, .ref amHands, .int mTrace])), (amH, .inl (cI, 6, .inl mH)), (amK, .inl (cI, 5, .inl mK))] := by
  refine g_entry (by decide) rfl rfl rfl rfl (Nat.le_of_ble_eq_true rfl) (lv := [(0, .ref aMO), (1, .int l), (2, .int d)]) rfl ?_
  intro X hC hX
  obtain ⟨res, hres⟩ : ∃ z, z = (m_X8_dries mDays mLin mCool mH mK l d) := ⟨_, rfl⟩
  rw [← hres] at hX
  rw [m_X8_dries] at hres
  refine g_aload_n hC dX8_dries_0 rfl 0 rfl rfl ?_
  refine g_iload_n hC dX8_dries_1 rfl 1 rfl rfl ?_
  refine g_callV (ws' := [(aMO, .inr (8, [.int mFault, .ref amS, .int mDays, .ref amH, .int mLin, .ref amK, .ref amO, .ref amD, .int mCool, .int mReadAt, .int mReadDays, .int mReadLin, .ref amRS, .ref amRH, .ref amRK, .ref amRO, .ref amRD, .ref amDN, .ref amSN, .int mDayNow, .int mLast, .int mTears, .int mWrong, .ref amTF, .ref amTFor, .ref amWB, .int mRdn, .ref amRdL, .ref amRdE, .ref amRdD, .ref amSz, .ref amLane, .ref amSh, .ref amHands, .int mTrace])), (amH, .inl (cI, 6, .inl mH)), (amK, .inl (cI, 5, .inl mK))]) (st' := [.int (m_X8_noLinen mLin l)]) (nw := 3) (n1 := 1) hC gX8_dries_X8_noLinen hdV_yX8_noLinen 0 rfl rfl (As := [.int l]) (rest := []) (c_X8_noLinen D cI aMO mFault amS mDays amH mLin amK amO amD mCool mReadAt mReadDays mReadLin amRS amRH amRK amRO amRD amDN amSN mDayNow mLast mTears mWrong amTF amTFor amWB mRdn amRdL amRdE amRdD amSz amLane amSh amHands mTrace l) rfl ⟨by decide, by decide⟩ rfl [0] [1, 2] [2, 0, 1] [0] rfl rfl rfl rfl (by decide) rfl rfl (Nat.le_of_ble_eq_true rfl) dX8_dries_2 rfl rfl ?_
  refine g_if_ne (tgt := 16) hC dX8_dries_5 (by decide) rfl (fun c_5 => ?_) (fun c_5 => ?_)
  · rw [if_neg c_5] at hres
    refine g_iconst (v := -1) hC dX8_dries_16 (by decide) rfl ?_
    refine g_goto (tgt := 26) hC dX8_dries_17 (by decide) ?_
    subst hres
    exact g_iret hC hX rfl dX8_dries_26 rfl rfl
  · rw [if_pos c_5] at hres
    refine g_aload_n hC dX8_dries_8 rfl 0 rfl rfl ?_
    refine g_iload_n hC dX8_dries_9 rfl 2 rfl rfl ?_
    refine g_callV (ws' := [(aMO, .inr (8, [.int mFault, .ref amS, .int mDays, .ref amH, .int mLin, .ref amK, .ref amO, .ref amD, .int mCool, .int mReadAt, .int mReadDays, .int mReadLin, .ref amRS, .ref amRH, .ref amRK, .ref amRO, .ref amRD, .ref amDN, .ref amSN, .int mDayNow, .int mLast, .int mTears, .int mWrong, .ref amTF, .ref amTFor, .ref amWB, .int mRdn, .ref amRdL, .ref amRdE, .ref amRdD, .ref amSz, .ref amLane, .ref amSh, .ref amHands, .int mTrace])), (amH, .inl (cI, 6, .inl mH)), (amK, .inl (cI, 5, .inl mK))]) (st' := [.int (m_X8_noDay mDays d)]) (nw := 3) (n1 := 1) hC gX8_dries_X8_noDay hdV_yX8_noDay 0 rfl rfl (As := [.int d]) (rest := []) (c_X8_noDay D cI aMO mFault amS mDays amH mLin amK amO amD mCool mReadAt mReadDays mReadLin amRS amRH amRK amRO amRD amDN amSN mDayNow mLast mTears mWrong amTF amTFor amWB mRdn amRdL amRdE amRdD amSz amLane amSh amHands mTrace d) rfl ⟨by decide, by decide⟩ rfl [0] [1, 2] [2, 0, 1] [0] rfl rfl rfl rfl (by decide) rfl rfl (Nat.le_of_ble_eq_true rfl) dX8_dries_10 rfl rfl ?_
    refine g_if_eq (tgt := 20) hC dX8_dries_13 (by decide) rfl (fun c_13 => ?_) (fun c_13 => ?_)
    · rw [if_pos c_13] at hres
      refine g_aload_n hC dX8_dries_20 rfl 0 rfl rfl ?_
      refine g_iload_n hC dX8_dries_21 rfl 1 rfl rfl ?_
      refine g_iload_n hC dX8_dries_22 rfl 2 rfl rfl ?_
      refine g_callV (ws' := [(aMO, .inr (8, [.int mFault, .ref amS, .int mDays, .ref amH, .int mLin, .ref amK, .ref amO, .ref amD, .int mCool, .int mReadAt, .int mReadDays, .int mReadLin, .ref amRS, .ref amRH, .ref amRK, .ref amRO, .ref amRD, .ref amDN, .ref amSN, .int mDayNow, .int mLast, .int mTears, .int mWrong, .ref amTF, .ref amTFor, .ref amWB, .int mRdn, .ref amRdL, .ref amRdE, .ref amRdD, .ref amSz, .ref amLane, .ref amSh, .ref amHands, .int mTrace])), (amH, .inl (cI, 6, .inl mH)), (amK, .inl (cI, 5, .inl mK))]) (st' := [.int (m_X8_driesOn mCool mH mK l d)]) (nw := 3) (n1 := 3) hC gX8_dries_X8_driesOn hdV_yX8_driesOn 0 rfl rfl (As := [.int l, .int d]) (rest := []) (c_X8_driesOn D cI aMO mFault amS mDays amH mLin amK amO amD mCool mReadAt mReadDays mReadLin amRS amRH amRK amRO amRD amDN amSN mDayNow mLast mTears mWrong amTF amTFor amWB mRdn amRdL amRdE amRdD amSz amLane amSh amHands mTrace mH mK l d (by exact nl_ok c_5 hl5) (by exact nd_ok c_13 hd6)) rfl ⟨by decide, by decide⟩ rfl [0, 1, 2] [] [0, 1, 2] [0] rfl rfl rfl rfl (by decide) rfl rfl (Nat.le_of_ble_eq_true rfl) dX8_dries_23 rfl rfl ?_
      subst hres
      exact g_iret hC hX rfl dX8_dries_26 rfl rfl
    · rw [if_neg c_13] at hres
      refine g_iconst (v := -1) hC dX8_dries_16 (by decide) rfl ?_
      refine g_goto (tgt := 26) hC dX8_dries_17 (by decide) ?_
      subst hres
      exact g_iret hC hX rfl dX8_dries_26 rfl rfl
theorem iw_X8_damp_RX8 : ∀ w ∈ wsX80, w ∈ wsX8_damp := fun _ h => List.mem_cons_of_mem _ (List.mem_append_right _ (h))
def m_X8_damp (mDays : Int32) (mLin : Int32) (mCool : Int32) (mH : Nat → Int32) (mK : Nat → Int32) (mD : Nat → Int32) (l : Int32) (t : Int32) : (Int32) := (if (m_X8_noLinen mLin l) = 0 then (if (m_X8_in t.toInt64 (0 : Int64) mDays.toInt64) = 0 then (-2 : Int32) else (m_X8_dampAt mCool mH mK mD l t)) else (-1 : Int32))
set_option maxRecDepth 100000 in
set_option maxHeartbeats 4000000 in
theorem c_X8_damp (D : va_G) (cI : ClassId) (aMO : Nat) (mFault : Int32) (amS : Nat) (mDays : Int32) (amH : Nat) (mLin : Int32) (amK : Nat) (amO : Nat) (amD : Nat) (mCool : Int32) (mReadAt : Int32) (mReadDays : Int32) (mReadLin : Int32) (amRS : Nat) (amRH : Nat) (amRK : Nat) (amRO : Nat) (amRD : Nat) (amDN : Nat) (amSN : Nat) (mDayNow : Int32) (mLast : Int32) (mTears : Int32) (mWrong : Int32) (amTF : Nat) (amTFor : Nat) (amWB : Nat) (mRdn : Int32) (amRdL : Nat) (amRdE : Nat) (amRdD : Nat) (amSz : Nat) (amLane : Nat) (amSh : Nat) (amHands : Nat) (mTrace : Int32) (mH : Nat → Int32) (mK : Nat → Int32) (mD : Nat → Int32) (l : Int32) (t : Int32) (hl5 : mLin.toInt ≤ 5) (hd6 : mDays.toInt ≤ 6) : MC yX8_damp wsX8_damp ({ frames := 4, cells := 0, slots := 0, locals := 92 } : Room) D [(cI, .int)] [.ref aMO, .int l, .int t] [(aMO, .inr (8, [.int mFault, .ref amS, .int mDays, .ref amH, .int mLin, .ref amK, .ref amO, .ref amD, .int mCool, .int mReadAt, .int mReadDays, .int mReadLin, .ref amRS, .ref amRH, .ref amRK, .ref amRO, .ref amRD, .ref amDN, .ref amSN, .int mDayNow, .int mLast, .int mTears, .int mWrong, .ref amTF, .ref amTFor, .ref amWB, .int mRdn, .ref amRdL, .ref amRdE, .ref amRdD, .ref amSz, .ref amLane, .ref amSh, .ref amHands, .int mTrace])), (amH, .inl (cI, 6, .inl mH)), (amK, .inl (cI, 5, .inl mK)), (amD, .inl (cI, 5, .inl mD))] (some (.int (m_X8_damp mDays mLin mCool mH mK mD l t))) [(aMO, .inr (8, [.int mFault, .ref amS, .int mDays, .ref amH, .int mLin, .ref amK, .ref amO, .ref amD, .int mCool, .int mReadAt, .int mReadDays, .int mReadLin, .ref amRS, .ref amRH, .ref amRK, .ref amRO, .ref amRD, .ref amDN, .ref amSN, .int mDayNow, .int mLast, .int mTears, .int mWrong, .ref amTF, .ref amTFor, .ref amWB, .int mRdn, .ref amRdL, .ref amRdE, .ref amRdD, .ref amSz, .ref amLane, .ref amSh, .ref amHands, .int mTrace])), (amH, .inl (cI, 6, .inl mH)), (amK, .inl (cI, 5, .inl mK)), (amD, .inl (cI, 5, .inl mD))] := by
  refine g_entry (by decide) rfl rfl rfl rfl (Nat.le_of_ble_eq_true rfl) (lv := [(0, .ref aMO), (1, .int l), (2, .int t)]) rfl ?_
  intro X hC hX
  obtain ⟨res, hres⟩ : ∃ z, z = (m_X8_damp mDays mLin mCool mH mK mD l t) := ⟨_, rfl⟩
  rw [← hres] at hX
  rw [m_X8_damp] at hres
  refine g_aload_n hC dX8_damp_0 rfl 0 rfl rfl ?_
  refine g_iload_n hC dX8_damp_1 rfl 1 rfl rfl ?_
  refine g_callV (ws' := [(aMO, .inr (8, [.int mFault, .ref amS, .int mDays, .ref amH, .int mLin, .ref amK, .ref amO, .ref amD, .int mCool, .int mReadAt, .int mReadDays, .int mReadLin, .ref amRS, .ref amRH, .ref amRK, .ref amRO, .ref amRD, .ref amDN, .ref amSN, .int mDayNow, .int mLast, .int mTears, .int mWrong, .ref amTF, .ref amTFor, .ref amWB, .int mRdn, .ref amRdL, .ref amRdE, .ref amRdD, .ref amSz, .ref amLane, .ref amSh, .ref amHands, .int mTrace])), (amH, .inl (cI, 6, .inl mH)), (amK, .inl (cI, 5, .inl mK)), (amD, .inl (cI, 5, .inl mD))]) (st' := [.int (m_X8_noLinen mLin l)]) (nw := 4) (n1 := 1) hC gX8_damp_X8_noLinen hdV_yX8_noLinen 0 rfl rfl (As := [.int l]) (rest := []) (c_X8_noLinen D cI aMO mFault amS mDays amH mLin amK amO amD mCool mReadAt mReadDays mReadLin amRS amRH amRK amRO amRD amDN amSN mDayNow mLast mTears mWrong amTF amTFor amWB mRdn amRdL amRdE amRdD amSz amLane amSh amHands mTrace l) rfl ⟨by decide, by decide⟩ rfl [0] [1, 2, 3] [3, 0, 1, 2] [0] rfl rfl rfl rfl (by decide) rfl rfl (Nat.le_of_ble_eq_true rfl) dX8_damp_2 rfl rfl ?_
  refine g_if_eq (tgt := 10) hC dX8_damp_5 (by decide) rfl (fun c_5 => ?_) (fun c_5 => ?_)
  · rw [if_pos c_5] at hres
    refine g_iload_n hC dX8_damp_10 rfl 2 rfl rfl ?_
    refine g_i2l hC dX8_damp_11 rfl ?_
    refine g_lconst (v := 0) hC dX8_damp_12 (by decide) rfl ?_
    refine g_aload_n hC dX8_damp_13 rfl 0 rfl rfl ?_
    refine g_get hC iw_X8_damp_RX8 0 rfl rfl 2 (by decide) (List.mem_of_getElem? (i := 1) rfl) rfl rfl dX8_damp_14 rfl ?_
    refine g_i2l hC dX8_damp_17 rfl ?_
    refine g_callS (ws' := [(aMO, .inr (8, [.int mFault, .ref amS, .int mDays, .ref amH, .int mLin, .ref amK, .ref amO, .ref amD, .int mCool, .int mReadAt, .int mReadDays, .int mReadLin, .ref amRS, .ref amRH, .ref amRK, .ref amRO, .ref amRD, .ref amDN, .ref amSN, .int mDayNow, .int mLast, .int mTears, .int mWrong, .ref amTF, .ref amTFor, .ref amWB, .int mRdn, .ref amRdL, .ref amRdE, .ref amRdD, .ref amSz, .ref amLane, .ref amSh, .ref amHands, .int mTrace])), (amH, .inl (cI, 6, .inl mH)), (amK, .inl (cI, 5, .inl mK)), (amD, .inl (cI, 5, .inl mD))]) (st' := [.int (m_X8_in t.toInt64 (0 : Int64) mDays.toInt64)]) (nw := 4) (n1 := 0) hC gX8_damp_X8_in hdS_yX8_in (As := [.long t.toInt64, .long (0 : Int64), .long mDays.toInt64]) (rest := []) (c_X8_in D cI t.toInt64 (0 : Int64) mDays.toInt64) rfl ⟨by decide, by decide⟩ rfl [] [0, 1, 2, 3] [0, 1, 2, 3] [0] rfl rfl rfl rfl (by decide) rfl rfl (Nat.le_of_ble_eq_true rfl) dX8_damp_18 rfl rfl ?_
    refine g_if_eq (tgt := 33) hC dX8_damp_21 (by decide) rfl (fun c_21 => ?_) (fun c_21 => ?_)
    · rw [if_pos c_21] at hres
      refine g_bipush (v := -2) hC dX8_damp_33 (by decide) rfl ?_
      subst hres
      exact g_iret hC hX rfl dX8_damp_35 rfl rfl
    · rw [if_neg c_21] at hres
      refine g_aload_n hC dX8_damp_24 rfl 0 rfl rfl ?_
      refine g_iload_n hC dX8_damp_25 rfl 1 rfl rfl ?_
      refine g_iload_n hC dX8_damp_26 rfl 2 rfl rfl ?_
      refine g_callV (ws' := [(aMO, .inr (8, [.int mFault, .ref amS, .int mDays, .ref amH, .int mLin, .ref amK, .ref amO, .ref amD, .int mCool, .int mReadAt, .int mReadDays, .int mReadLin, .ref amRS, .ref amRH, .ref amRK, .ref amRO, .ref amRD, .ref amDN, .ref amSN, .int mDayNow, .int mLast, .int mTears, .int mWrong, .ref amTF, .ref amTFor, .ref amWB, .int mRdn, .ref amRdL, .ref amRdE, .ref amRdD, .ref amSz, .ref amLane, .ref amSh, .ref amHands, .int mTrace])), (amH, .inl (cI, 6, .inl mH)), (amK, .inl (cI, 5, .inl mK)), (amD, .inl (cI, 5, .inl mD))]) (st' := [.int (m_X8_dampAt mCool mH mK mD l t)]) (nw := 4) (n1 := 4) hC gX8_damp_X8_dampAt hdV_yX8_dampAt 0 rfl rfl (As := [.int l, .int t]) (rest := []) (c_X8_dampAt D cI aMO mFault amS mDays amH mLin amK amO amD mCool mReadAt mReadDays mReadLin amRS amRH amRK amRO amRD amDN amSN mDayNow mLast mTears mWrong amTF amTFor amWB mRdn amRdL amRdE amRdD amSz amLane amSh amHands mTrace mH mK mD l t (by exact nl_ok c_5 hl5) (by exact tle6 c_21 hd6)) rfl ⟨by decide, by decide⟩ rfl [0, 1, 2, 3] [] [0, 1, 2, 3] [0] rfl rfl rfl rfl (by decide) rfl rfl (Nat.le_of_ble_eq_true rfl) dX8_damp_27 rfl rfl ?_
      refine g_goto (tgt := 35) hC dX8_damp_30 (by decide) ?_
      subst hres
      exact g_iret hC hX rfl dX8_damp_35 rfl rfl
  · rw [if_neg c_5] at hres
    refine g_iconst (v := -1) hC dX8_damp_8 (by decide) rfl ?_
    subst hres
    exact g_iret hC hX rfl dX8_damp_9 rfl rfl
theorem iw_X8_laws_RX8 : ∀ w ∈ wsX80, w ∈ wsX8_laws := fun _ h => List.mem_cons_of_mem _ (List.mem_append_right _ (h))
def m_X8_laws_31 : Nat → Int32 → Int32 → (Nat → Int32) → (Nat → Int32) → (Nat → Int32) → Int32 → Int32 → Int32 → (Int32)
  | 0, _, _, _, _, _, _, _, _ => default
  | fu + 1, mLin, mCool, mH, mK, mD, t, y2, y3 => (if mLin ≤ y3 then y2 else (m_X8_laws_31 fu mLin mCool mH mK mD t (y2 ||| (if (m_X8_dampAt mCool mH mK mD y3 t) ≤ 0 then (0 : Int32) else ((1 : Int32) <<< (y3 &&& 31)))) (y3 + 1)))
def m_X8_laws (mDays : Int32) (mLin : Int32) (mCool : Int32) (mH : Nat → Int32) (mK : Nat → Int32) (mD : Nat → Int32) (t : Int32) : (Int32) := (if mLin = 0 then (-3 : Int32) else (if (m_X8_in t.toInt64 (0 : Int64) mDays.toInt64) = 0 then (-2 : Int32) else (m_X8_laws_31 ((mLin.toInt - (0 : Int32).toInt).toNat + 1) mLin mCool mH mK mD t (0 : Int32) (0 : Int32))))
set_option maxRecDepth 100000 in
set_option maxHeartbeats 4000000 in
theorem l_X8_laws_31 {X : gX} (D : va_G) (cI : ClassId) (aMO : Nat) (mFault : Int32) (amS : Nat) (mDays : Int32) (amH : Nat) (mLin : Int32) (amK : Nat) (amO : Nat) (amD : Nat) (mCool : Int32) (mReadAt : Int32) (mReadDays : Int32) (mReadLin : Int32) (amRS : Nat) (amRH : Nat) (amRK : Nat) (amRO : Nat) (amRD : Nat) (amDN : Nat) (amSN : Nat) (mDayNow : Int32) (mLast : Int32) (mTears : Int32) (mWrong : Int32) (amTF : Nat) (amTFor : Nat) (amWB : Nat) (mRdn : Int32) (amRdL : Nat) (amRdE : Nat) (amRdD : Nat) (amSz : Nat) (amLane : Nat) (amSh : Nat) (amHands : Nat) (mTrace : Int32) (mH : Nat → Int32) (mK : Nat → Int32) (mD : Nat → Int32) (t : Int32) (hl5 : mLin.toInt ≤ 5) (hd6 : mDays.toInt ≤ 6) (hC : Cx X cX8_laws 4 RX8 wsX8_laws D [(cI, .int)] ({ frames := 4, cells := 0, slots := 0, locals := 92 } : Room) (some .int)) {res : (Int32)} (hX : Rx X D (some (.int res)) [(aMO, .inr (8, [.int mFault, .ref amS, .int mDays, .ref amH, .int mLin, .ref amK, .ref amO, .ref amD, .int mCool, .int mReadAt, .int mReadDays, .int mReadLin, .ref amRS, .ref amRH, .ref amRK, .ref amRO, .ref amRD, .ref amDN, .ref amSN, .int mDayNow, .int mLast, .int mTears, .int mWrong, .ref amTF, .ref amTFor, .ref amWB, .int mRdn, .ref amRdL, .ref amRdE, .ref amRdD, .ref amSz, .ref amLane, .ref amSh, .ref amHands, .int mTrace])), (amH, .inl (cI, 6, .inl mH)), (amK, .inl (cI, 5, .inl mK)), (amD, .inl (cI, 5, .inl mD))]) : ∀ (fu : Nat) (y2 : Int32) (y3 : Int32) (hm : (mLin.toInt - y3.toInt).toNat < fu) (h0_y3 : 0 ≤ y3.toInt) (ht6 : t.toInt ≤ 6) (hres : res = m_X8_laws_31 fu mLin mCool mH mK mD t y2 y3), G X D 4 [(aMO, .inr (8, [.int mFault, .ref amS, .int mDays, .ref amH, .int mLin, .ref amK, .ref amO, .ref amD, .int mCool, .int mReadAt, .int mReadDays, .int mReadLin, .ref amRS, .ref amRH, .ref amRK, .ref amRO, .ref amRD, .ref amDN, .ref amSN, .int mDayNow, .int mLast, .int mTears, .int mWrong, .ref amTF, .ref amTFor, .ref amWB, .int mRdn, .ref amRdL, .ref amRdE, .ref amRdD, .ref amSz, .ref amLane, .ref amSh, .ref amHands, .int mTrace])), (amH, .inl (cI, 6, .inl mH)), (amK, .inl (cI, 5, .inl mK)), (amD, .inl (cI, 5, .inl mD))] [(0, .ref aMO), (1, .int t), (2, .int y2), (3, .int y3)] 31 [] := by
  intro fu
  induction fu with
  | zero =>
    intro y2 y3 hm
    exact absurd hm (Nat.not_lt_zero _)
  | succ fu ih =>
    intro y2 y3 hm h0_y3 ht6 hres
    rw [m_X8_laws_31] at hres
    refine g_iload_n hC dX8_laws_31 rfl 3 rfl rfl ?_
    refine g_aload_n hC dX8_laws_32 rfl 0 rfl rfl ?_
    refine g_get hC iw_X8_laws_RX8 0 rfl rfl 4 (by decide) (List.mem_of_getElem? (i := 1) rfl) rfl rfl dX8_laws_33 rfl ?_
    refine g_icmp_ge (tgt := 64) hC dX8_laws_36 (by decide) rfl (fun c_36 => ?_) (fun c_36 => ?_)
    · rw [if_pos c_36] at hres
      refine g_iload_n hC dX8_laws_64 rfl 2 rfl rfl ?_
      subst hres
      exact g_iret hC hX rfl dX8_laws_65 rfl rfl
    · rw [if_neg c_36] at hres
      refine g_iload_n hC dX8_laws_39 rfl 2 rfl rfl ?_
      refine g_aload_n hC dX8_laws_40 rfl 0 rfl rfl ?_
      refine g_iload_n hC dX8_laws_41 rfl 3 rfl rfl ?_
      refine g_iload_n hC dX8_laws_42 rfl 1 rfl rfl ?_
      refine g_callV (ws' := [(aMO, .inr (8, [.int mFault, .ref amS, .int mDays, .ref amH, .int mLin, .ref amK, .ref amO, .ref amD, .int mCool, .int mReadAt, .int mReadDays, .int mReadLin, .ref amRS, .ref amRH, .ref amRK, .ref amRO, .ref amRD, .ref amDN, .ref amSN, .int mDayNow, .int mLast, .int mTears, .int mWrong, .ref amTF, .ref amTFor, .ref amWB, .int mRdn, .ref amRdL, .ref amRdE, .ref amRdD, .ref amSz, .ref amLane, .ref amSh, .ref amHands, .int mTrace])), (amH, .inl (cI, 6, .inl mH)), (amK, .inl (cI, 5, .inl mK)), (amD, .inl (cI, 5, .inl mD))]) (st' := [.int (m_X8_dampAt mCool mH mK mD y3 t), .int y2]) (nw := 4) (n1 := 4) hC gX8_laws_X8_dampAt hdV_yX8_dampAt 0 rfl rfl (As := [.int y3, .int t]) (rest := [.int y2]) (c_X8_dampAt D cI aMO mFault amS mDays amH mLin amK amO amD mCool mReadAt mReadDays mReadLin amRS amRH amRK amRO amRD amDN amSN mDayNow mLast mTears mWrong amTF amTFor amWB mRdn amRdL amRdE amRdD amSz amLane amSh amHands mTrace mH mK mD y3 t (by exact in_up h0_y3 c_36 hl5) (by exact ht6)) rfl ⟨by decide, by decide⟩ rfl [0, 1, 2, 3] [] [0, 1, 2, 3] [0] rfl rfl rfl rfl (by decide) rfl rfl (Nat.le_of_ble_eq_true rfl) dX8_laws_43 rfl rfl ?_
      have K_46 : ∀ vK : Int32, vK = (if (m_X8_dampAt mCool mH mK mD y3 t) ≤ 0 then (0 : Int32) else ((1 : Int32) <<< (y3 &&& 31))) → G X D 4 [(aMO, .inr (8, [.int mFault, .ref amS, .int mDays, .ref amH, .int mLin, .ref amK, .ref amO, .ref amD, .int mCool, .int mReadAt, .int mReadDays, .int mReadLin, .ref amRS, .ref amRH, .ref amRK, .ref amRO, .ref amRD, .ref amDN, .ref amSN, .int mDayNow, .int mLast, .int mTears, .int mWrong, .ref amTF, .ref amTFor, .ref amWB, .int mRdn, .ref amRdL, .ref amRdE, .ref amRdD, .ref amSz, .ref amLane, .ref amSh, .ref amHands, .int mTrace])), (amH, .inl (cI, 6, .inl mH)), (amK, .inl (cI, 5, .inl mK)), (amD, .inl (cI, 5, .inl mD))] [(0, .ref aMO), (1, .int t), (2, .int y2), (3, .int y3)] 56 (.int vK :: [.int y2]) := by
        intro vK hvK
        subst hvK
        refine g_ior hC dX8_laws_56 rfl ?_
        refine g_istore_n (lv' := [(2, .int (y2 ||| (if (m_X8_dampAt mCool mH mK mD y3 t) ≤ 0 then (0 : Int32) else ((1 : Int32) <<< (y3 &&& 31))))), (0, .ref aMO), (1, .int t), (3, .int y3)]) hC dX8_laws_57 rfl (by decide) rfl rfl ?_
        refine g_iinc (v := (y3 + 1)) (lv' := [(3, .int (y3 + 1)), (2, .int (y2 ||| (if (m_X8_dampAt mCool mH mK mD y3 t) ≤ 0 then (0 : Int32) else ((1 : Int32) <<< (y3 &&& 31))))), (0, .ref aMO), (1, .int t)]) hC dX8_laws_58 3 rfl rfl (by decide) rfl rfl ?_
        refine g_goto (tgt := 31) hC dX8_laws_61 (by decide) ?_
        refine g_sub [2, 3, 1, 0] rfl ?_
        exact ih (y2 ||| (if (m_X8_dampAt mCool mH mK mD y3 t) ≤ 0 then (0 : Int32) else ((1 : Int32) <<< (y3 &&& 31)))) (y3 + 1) (up_dec c_36 hm) (up_nn c_36 h0_y3) (by assumption) hres
      refine g_if_le (tgt := 55) hC dX8_laws_46 (by decide) rfl (fun c_46 => ?_) (fun c_46 => ?_)
      · refine g_iconst (v := 0) hC dX8_laws_55 (by decide) rfl ?_
        exact K_46 _ (if_pos c_46).symm
      · refine g_iconst (v := 1) hC dX8_laws_49 (by decide) rfl ?_
        refine g_iload_n hC dX8_laws_50 rfl 3 rfl rfl ?_
        refine g_ishl hC dX8_laws_51 rfl ?_
        refine g_goto (tgt := 56) hC dX8_laws_52 (by decide) ?_
        exact K_46 _ (if_neg c_46).symm
set_option maxRecDepth 100000 in
set_option maxHeartbeats 4000000 in
theorem c_X8_laws (D : va_G) (cI : ClassId) (aMO : Nat) (mFault : Int32) (amS : Nat) (mDays : Int32) (amH : Nat) (mLin : Int32) (amK : Nat) (amO : Nat) (amD : Nat) (mCool : Int32) (mReadAt : Int32) (mReadDays : Int32) (mReadLin : Int32) (amRS : Nat) (amRH : Nat) (amRK : Nat) (amRO : Nat) (amRD : Nat) (amDN : Nat) (amSN : Nat) (mDayNow : Int32) (mLast : Int32) (mTears : Int32) (mWrong : Int32) (amTF : Nat) (amTFor : Nat) (amWB : Nat) (mRdn : Int32) (amRdL : Nat) (amRdE : Nat) (amRdD : Nat) (amSz : Nat) (amLane : Nat) (amSh : Nat) (amHands : Nat) (mTrace : Int32) (mH : Nat → Int32) (mK : Nat → Int32) (mD : Nat → Int32) (t : Int32) (hl5 : mLin.toInt ≤ 5) (hd6 : mDays.toInt ≤ 6) : MC yX8_laws wsX8_laws ({ frames := 4, cells := 0, slots := 0, locals := 92 } : Room) D [(cI, .int)] [.ref aMO, .int t] [(aMO, .inr (8, [.int mFault, .ref amS, .int mDays, .ref amH, .int mLin, .ref amK, .ref amO, .ref amD, .int mCool, .int mReadAt, .int mReadDays, .int mReadLin, .ref amRS, .ref amRH, .ref amRK, .ref amRO, .ref amRD, .ref amDN, .ref amSN, .int mDayNow, .int mLast, .int mTears, .int mWrong, .ref amTF, .ref amTFor, .ref amWB, .int mRdn, .ref amRdL, .ref amRdE, .ref amRdD, .ref amSz, .ref amLane, .ref amSh, .ref amHands, .int mTrace])), (amH, .inl (cI, 6, .inl mH)), (amK, .inl (cI, 5, .inl mK)), (amD, .inl (cI, 5, .inl mD))] (some (.int (m_X8_laws mDays mLin mCool mH mK mD t))) [(aMO, .inr (8, [.int mFault, .ref amS, .int mDays, .ref amH, .int mLin, .ref amK, .ref amO, .ref amD, .int mCool, .int mReadAt, .int mReadDays, .int mReadLin, .ref amRS, .ref amRH, .ref amRK, .ref amRO, .ref amRD, .ref amDN, .ref amSN, .int mDayNow, .int mLast, .int mTears, .int mWrong, .ref amTF, .ref amTFor, .ref amWB, .int mRdn, .ref amRdL, .ref amRdE, .ref amRdD, .ref amSz, .ref amLane, .ref amSh, .ref amHands, .int mTrace])), (amH, .inl (cI, 6, .inl mH)), (amK, .inl (cI, 5, .inl mK)), (amD, .inl (cI, 5, .inl mD))] := by
  refine g_entry (by decide) rfl rfl rfl rfl (Nat.le_of_ble_eq_true rfl) (lv := [(0, .ref aMO), (1, .int t)]) rfl ?_
  intro X hC hX
  obtain ⟨res, hres⟩ : ∃ z, z = (m_X8_laws mDays mLin mCool mH mK mD t) := ⟨_, rfl⟩
  rw [← hres] at hX
  rw [m_X8_laws] at hres
  refine g_aload_n hC dX8_laws_0 rfl 0 rfl rfl ?_
  refine g_get hC iw_X8_laws_RX8 0 rfl rfl 4 (by decide) (List.mem_of_getElem? (i := 1) rfl) rfl rfl dX8_laws_1 rfl ?_
  refine g_if_ne (tgt := 10) hC dX8_laws_4 (by decide) rfl (fun c_4 => ?_) (fun c_4 => ?_)
  · rw [if_neg c_4] at hres
    refine g_iload_n hC dX8_laws_10 rfl 1 rfl rfl ?_
    refine g_i2l hC dX8_laws_11 rfl ?_
    refine g_lconst (v := 0) hC dX8_laws_12 (by decide) rfl ?_
    refine g_aload_n hC dX8_laws_13 rfl 0 rfl rfl ?_
    refine g_get hC iw_X8_laws_RX8 0 rfl rfl 2 (by decide) (List.mem_of_getElem? (i := 2) rfl) rfl rfl dX8_laws_14 rfl ?_
    refine g_i2l hC dX8_laws_17 rfl ?_
    refine g_callS (ws' := [(aMO, .inr (8, [.int mFault, .ref amS, .int mDays, .ref amH, .int mLin, .ref amK, .ref amO, .ref amD, .int mCool, .int mReadAt, .int mReadDays, .int mReadLin, .ref amRS, .ref amRH, .ref amRK, .ref amRO, .ref amRD, .ref amDN, .ref amSN, .int mDayNow, .int mLast, .int mTears, .int mWrong, .ref amTF, .ref amTFor, .ref amWB, .int mRdn, .ref amRdL, .ref amRdE, .ref amRdD, .ref amSz, .ref amLane, .ref amSh, .ref amHands, .int mTrace])), (amH, .inl (cI, 6, .inl mH)), (amK, .inl (cI, 5, .inl mK)), (amD, .inl (cI, 5, .inl mD))]) (st' := [.int (m_X8_in t.toInt64 (0 : Int64) mDays.toInt64)]) (nw := 4) (n1 := 0) hC gX8_laws_X8_in hdS_yX8_in (As := [.long t.toInt64, .long (0 : Int64), .long mDays.toInt64]) (rest := []) (c_X8_in D cI t.toInt64 (0 : Int64) mDays.toInt64) rfl ⟨by decide, by decide⟩ rfl [] [0, 1, 2, 3] [0, 1, 2, 3] [0] rfl rfl rfl rfl (by decide) rfl rfl (Nat.le_of_ble_eq_true rfl) dX8_laws_18 rfl rfl ?_
    refine g_if_ne (tgt := 27) hC dX8_laws_21 (by decide) rfl (fun c_21 => ?_) (fun c_21 => ?_)
    · rw [if_neg c_21] at hres
      refine g_iconst (v := 0) hC dX8_laws_27 (by decide) rfl ?_
      refine g_istore_n (lv' := [(2, .int (0 : Int32)), (0, .ref aMO), (1, .int t)]) hC dX8_laws_28 rfl (by decide) rfl rfl ?_
      refine g_iconst (v := 0) hC dX8_laws_29 (by decide) rfl ?_
      refine g_istore_n (lv' := [(3, .int (0 : Int32)), (2, .int (0 : Int32)), (0, .ref aMO), (1, .int t)]) hC dX8_laws_30 rfl (by decide) rfl rfl ?_
      refine g_sub [2, 3, 1, 0] rfl ?_
      exact l_X8_laws_31 D cI aMO mFault amS mDays amH mLin amK amO amD mCool mReadAt mReadDays mReadLin amRS amRH amRK amRO amRD amDN amSN mDayNow mLast mTears mWrong amTF amTFor amWB mRdn amRdL amRdE amRdD amSz amLane amSh amHands mTrace mH mK mD t hl5 hd6 hC hX ((mLin.toInt - (0 : Int32).toInt).toNat + 1) (0 : Int32) (0 : Int32) (Nat.lt_succ_self _) (by decide) (by exact tle6 (by assumption) (by assumption)) hres
    · rw [if_pos c_21] at hres
      refine g_bipush (v := -2) hC dX8_laws_24 (by decide) rfl ?_
      subst hres
      exact g_iret hC hX rfl dX8_laws_26 rfl rfl
  · rw [if_pos c_4] at hres
    refine g_bipush (v := -3) hC dX8_laws_7 (by decide) rfl ?_
    subst hres
    exact g_iret hC hX rfl dX8_laws_9 rfl rfl
theorem iw_X8_begin_RX8 : ∀ w ∈ wsX80, w ∈ wsX8_begin := fun _ h => List.mem_cons_of_mem _ (List.mem_append_right _ (h))
def m_X8_begin_30 : Nat → Int32 → (Nat → Int32) → (Nat → Int32) → Int32 → (Nat → Int32) → (Int32 × (Nat → Int32) × (Nat → Int32))
  | 0, _, _, _, _, _ => default
  | fu + 1, mLin, mS, k_mDN, y1, z_mSN => (if (4 : Int32) ≤ y1 then ((((1 : Int32) <<< (mLin &&& 31)) - (1 : Int32)), k_mDN, z_mSN) else (m_X8_begin_30 fu mLin mS k_mDN (y1 + 1) (upd z_mSN y1.toNatClampNeg (mS y1.toNatClampNeg))))
def m_X8_begin_2 : Nat → Int32 → (Nat → Int32) → (Nat → Int32) → (Nat → Int32) → Int32 → (Nat → Int32) → (Int32 × (Nat → Int32) × (Nat → Int32))
  | 0, _, _, _, _, _, _ => default
  | fu + 1, mLin, mD, mS, k_mSN, y1, z_mDN => (if mLin ≤ y1 then (m_X8_begin_30 (((4 : Int32).toInt - (0 : Int32).toInt).toNat + 1) mLin mS z_mDN (0 : Int32) k_mSN) else (m_X8_begin_2 fu mLin mD mS k_mSN (y1 + 1) (upd z_mDN y1.toNatClampNeg (mD y1.toNatClampNeg))))
def m_X8_begin (mLin : Int32) (mDN : Nat → Int32) (mD : Nat → Int32) (mSN : Nat → Int32) (mS : Nat → Int32) : (Int32 × (Nat → Int32) × (Nat → Int32)) := (m_X8_begin_2 ((mLin.toInt - (0 : Int32).toInt).toNat + 1) mLin mD mS mSN (0 : Int32) mDN)
set_option maxRecDepth 100000 in
set_option maxHeartbeats 4000000 in
theorem l_X8_begin_30 {X : gX} (D : va_G) (cI : ClassId) (aMO : Nat) (mFault : Int32) (amS : Nat) (mDays : Int32) (amH : Nat) (mLin : Int32) (amK : Nat) (amO : Nat) (amD : Nat) (mCool : Int32) (mReadAt : Int32) (mReadDays : Int32) (mReadLin : Int32) (amRS : Nat) (amRH : Nat) (amRK : Nat) (amRO : Nat) (amRD : Nat) (amDN : Nat) (amSN : Nat) (mDayNow : Int32) (mLast : Int32) (mTears : Int32) (mWrong : Int32) (amTF : Nat) (amTFor : Nat) (amWB : Nat) (mRdn : Int32) (amRdL : Nat) (amRdE : Nat) (amRdD : Nat) (amSz : Nat) (amLane : Nat) (amSh : Nat) (amHands : Nat) (mTrace : Int32) (mDN : Nat → Int32) (mD : Nat → Int32) (mSN : Nat → Int32) (mS : Nat → Int32) (k_mLast : Int32) (k_mDN : Nat → Int32) (hl5 : mLin.toInt ≤ 5) (hC : Cx X cX8_begin 2 RX8 wsX8_begin D [(cI, .int)] ({ frames := 0, cells := 0, slots := 0, locals := 0 } : Room) none) {res : (Int32 × (Nat → Int32) × (Nat → Int32))} (hX : Rx X D none [(aMO, .inr (8, [.int mFault, .ref amS, .int mDays, .ref amH, .int mLin, .ref amK, .ref amO, .ref amD, .int mCool, .int mReadAt, .int mReadDays, .int mReadLin, .ref amRS, .ref amRH, .ref amRK, .ref amRO, .ref amRD, .ref amDN, .ref amSN, .int (0 : Int32), .int res.1, .int (0 : Int32), .int (-9 : Int32), .ref amTF, .ref amTFor, .ref amWB, .int mRdn, .ref amRdL, .ref amRdE, .ref amRdD, .ref amSz, .ref amLane, .ref amSh, .ref amHands, .int mTrace])), (amDN, .inl (cI, 5, .inl res.2.1)), (amD, .inl (cI, 5, .inl mD)), (amSN, .inl (cI, 4, .inl res.2.2)), (amS, .inl (cI, 4, .inl mS))]) : ∀ (fu : Nat) (y1 : Int32) (z_mSN : Nat → Int32) (hm : ((4 : Int32).toInt - y1.toInt).toNat < fu) (h0_y1 : 0 ≤ y1.toInt) (hres : res = m_X8_begin_30 fu mLin mS k_mDN y1 z_mSN), G X D 2 [(aMO, .inr (8, [.int mFault, .ref amS, .int mDays, .ref amH, .int mLin, .ref amK, .ref amO, .ref amD, .int mCool, .int mReadAt, .int mReadDays, .int mReadLin, .ref amRS, .ref amRH, .ref amRK, .ref amRO, .ref amRD, .ref amDN, .ref amSN, .int mDayNow, .int k_mLast, .int mTears, .int mWrong, .ref amTF, .ref amTFor, .ref amWB, .int mRdn, .ref amRdL, .ref amRdE, .ref amRdD, .ref amSz, .ref amLane, .ref amSh, .ref amHands, .int mTrace])), (amDN, .inl (cI, 5, .inl k_mDN)), (amD, .inl (cI, 5, .inl mD)), (amSN, .inl (cI, 4, .inl z_mSN)), (amS, .inl (cI, 4, .inl mS))] [(0, .ref aMO), (1, .int y1)] 30 [] := by
  intro fu
  induction fu with
  | zero =>
    intro y1 z_mSN hm
    exact absurd hm (Nat.not_lt_zero _)
  | succ fu ih =>
    intro y1 z_mSN hm h0_y1 hres
    rw [m_X8_begin_30] at hres
    refine g_iload_n hC dX8_begin_30 rfl 1 rfl rfl ?_
    refine g_iconst (v := 4) hC dX8_begin_31 (by decide) rfl ?_
    refine g_icmp_ge (tgt := 53) hC dX8_begin_32 (by decide) rfl (fun c_32 => ?_) (fun c_32 => ?_)
    · rw [if_pos c_32] at hres
      refine g_aload_n hC dX8_begin_53 rfl 0 rfl rfl ?_
      refine g_iconst (v := 0) hC dX8_begin_54 (by decide) rfl ?_
      refine g_put (ws' := [(aMO, .inr (8, [.int mFault, .ref amS, .int mDays, .ref amH, .int mLin, .ref amK, .ref amO, .ref amD, .int mCool, .int mReadAt, .int mReadDays, .int mReadLin, .ref amRS, .ref amRH, .ref amRK, .ref amRO, .ref amRD, .ref amDN, .ref amSN, .int (0 : Int32), .int k_mLast, .int mTears, .int mWrong, .ref amTF, .ref amTFor, .ref amWB, .int mRdn, .ref amRdL, .ref amRdE, .ref amRdD, .ref amSz, .ref amLane, .ref amSh, .ref amHands, .int mTrace])), (amDN, .inl (cI, 5, .inl k_mDN)), (amD, .inl (cI, 5, .inl mD)), (amSN, .inl (cI, 4, .inl z_mSN)), (amS, .inl (cI, 4, .inl mS))]) hC iw_X8_begin_RX8 0 rfl rfl 19 (by decide) (List.mem_of_getElem? (i := 6) rfl) rfl tyX8 tyX8_ok nmX8 rfl rfl rfl (Nat.le_of_ble_eq_true rfl) rfl dX8_begin_55 rfl ?_
      refine g_aload_n hC dX8_begin_58 rfl 0 rfl rfl ?_
      refine g_iconst (v := 1) hC dX8_begin_59 (by decide) rfl ?_
      refine g_aload_n hC dX8_begin_60 rfl 0 rfl rfl ?_
      refine g_get hC iw_X8_begin_RX8 0 rfl rfl 4 (by decide) (List.mem_of_getElem? (i := 1) rfl) rfl rfl dX8_begin_61 rfl ?_
      refine g_ishl hC dX8_begin_64 rfl ?_
      refine g_iconst (v := 1) hC dX8_begin_65 (by decide) rfl ?_
      refine g_isub hC dX8_begin_66 rfl ?_
      refine g_put (ws' := [(aMO, .inr (8, [.int mFault, .ref amS, .int mDays, .ref amH, .int mLin, .ref amK, .ref amO, .ref amD, .int mCool, .int mReadAt, .int mReadDays, .int mReadLin, .ref amRS, .ref amRH, .ref amRK, .ref amRO, .ref amRD, .ref amDN, .ref amSN, .int (0 : Int32), .int (((1 : Int32) <<< (mLin &&& 31)) - (1 : Int32)), .int mTears, .int mWrong, .ref amTF, .ref amTFor, .ref amWB, .int mRdn, .ref amRdL, .ref amRdE, .ref amRdD, .ref amSz, .ref amLane, .ref amSh, .ref amHands, .int mTrace])), (amDN, .inl (cI, 5, .inl k_mDN)), (amD, .inl (cI, 5, .inl mD)), (amSN, .inl (cI, 4, .inl z_mSN)), (amS, .inl (cI, 4, .inl mS))]) hC iw_X8_begin_RX8 0 rfl rfl 20 (by decide) (List.mem_of_getElem? (i := 7) rfl) rfl tyX8 tyX8_ok nmX8 rfl rfl rfl (Nat.le_of_ble_eq_true rfl) rfl dX8_begin_67 rfl ?_
      refine g_aload_n hC dX8_begin_70 rfl 0 rfl rfl ?_
      refine g_iconst (v := 0) hC dX8_begin_71 (by decide) rfl ?_
      refine g_put (ws' := [(aMO, .inr (8, [.int mFault, .ref amS, .int mDays, .ref amH, .int mLin, .ref amK, .ref amO, .ref amD, .int mCool, .int mReadAt, .int mReadDays, .int mReadLin, .ref amRS, .ref amRH, .ref amRK, .ref amRO, .ref amRD, .ref amDN, .ref amSN, .int (0 : Int32), .int (((1 : Int32) <<< (mLin &&& 31)) - (1 : Int32)), .int (0 : Int32), .int mWrong, .ref amTF, .ref amTFor, .ref amWB, .int mRdn, .ref amRdL, .ref amRdE, .ref amRdD, .ref amSz, .ref amLane, .ref amSh, .ref amHands, .int mTrace])), (amDN, .inl (cI, 5, .inl k_mDN)), (amD, .inl (cI, 5, .inl mD)), (amSN, .inl (cI, 4, .inl z_mSN)), (amS, .inl (cI, 4, .inl mS))]) hC iw_X8_begin_RX8 0 rfl rfl 21 (by decide) (List.mem_of_getElem? (i := 8) rfl) rfl tyX8 tyX8_ok nmX8 rfl rfl rfl (Nat.le_of_ble_eq_true rfl) rfl dX8_begin_72 rfl ?_
      refine g_aload_n hC dX8_begin_75 rfl 0 rfl rfl ?_
      refine g_bipush (v := -9) hC dX8_begin_76 (by decide) rfl ?_
      refine g_put (ws' := [(aMO, .inr (8, [.int mFault, .ref amS, .int mDays, .ref amH, .int mLin, .ref amK, .ref amO, .ref amD, .int mCool, .int mReadAt, .int mReadDays, .int mReadLin, .ref amRS, .ref amRH, .ref amRK, .ref amRO, .ref amRD, .ref amDN, .ref amSN, .int (0 : Int32), .int (((1 : Int32) <<< (mLin &&& 31)) - (1 : Int32)), .int (0 : Int32), .int (-9 : Int32), .ref amTF, .ref amTFor, .ref amWB, .int mRdn, .ref amRdL, .ref amRdE, .ref amRdD, .ref amSz, .ref amLane, .ref amSh, .ref amHands, .int mTrace])), (amDN, .inl (cI, 5, .inl k_mDN)), (amD, .inl (cI, 5, .inl mD)), (amSN, .inl (cI, 4, .inl z_mSN)), (amS, .inl (cI, 4, .inl mS))]) hC iw_X8_begin_RX8 0 rfl rfl 22 (by decide) (List.mem_of_getElem? (i := 9) rfl) rfl tyX8 tyX8_ok nmX8 rfl rfl rfl (Nat.le_of_ble_eq_true rfl) rfl dX8_begin_78 rfl ?_
      subst hres
      exact g_vret hC hX rfl dX8_begin_81 rfl rfl
    · rw [if_neg c_32] at hres
      refine g_aload_n hC dX8_begin_35 rfl 0 rfl rfl ?_
      refine g_get hC iw_X8_begin_RX8 0 rfl rfl 18 (by decide) (List.mem_of_getElem? (i := 4) rfl) rfl rfl dX8_begin_36 rfl ?_
      refine g_iload_n hC dX8_begin_39 rfl 1 rfl rfl ?_
      refine g_aload_n hC dX8_begin_40 rfl 0 rfl rfl ?_
      refine g_get hC iw_X8_begin_RX8 0 rfl rfl 1 (by decide) (List.mem_of_getElem? (i := 5) rfl) rfl rfl dX8_begin_41 rfl ?_
      refine g_iload_n hC dX8_begin_44 rfl 1 rfl rfl ?_
      refine g_iald hC 4 0 rfl rfl (by exact in_up h0_y1 c_32 (by decide)) dX8_begin_45 rfl ?_
      refine g_iast (ws' := [(aMO, .inr (8, [.int mFault, .ref amS, .int mDays, .ref amH, .int mLin, .ref amK, .ref amO, .ref amD, .int mCool, .int mReadAt, .int mReadDays, .int mReadLin, .ref amRS, .ref amRH, .ref amRK, .ref amRO, .ref amRD, .ref amDN, .ref amSN, .int mDayNow, .int k_mLast, .int mTears, .int mWrong, .ref amTF, .ref amTFor, .ref amWB, .int mRdn, .ref amRdL, .ref amRdE, .ref amRdD, .ref amSz, .ref amLane, .ref amSh, .ref amHands, .int mTrace])), (amDN, .inl (cI, 5, .inl k_mDN)), (amD, .inl (cI, 5, .inl mD)), (amSN, .inl (cI, 4, .inl (upd z_mSN y1.toNatClampNeg (mS y1.toNatClampNeg)))), (amS, .inl (cI, 4, .inl mS))]) hC 3 0 rfl rfl (by exact in_up h0_y1 c_32 (by decide)) rfl dX8_begin_46 rfl ?_
      refine g_iinc (v := (y1 + 1)) (lv' := [(1, .int (y1 + 1)), (0, .ref aMO)]) hC dX8_begin_47 1 rfl rfl (by decide) rfl rfl ?_
      refine g_goto (tgt := 30) hC dX8_begin_50 (by decide) ?_
      refine g_sub [1, 0] rfl ?_
      exact ih (y1 + 1) (upd z_mSN y1.toNatClampNeg (mS y1.toNatClampNeg)) (up_dec c_32 hm) (up_nn c_32 h0_y1) hres
set_option maxRecDepth 100000 in
set_option maxHeartbeats 4000000 in
theorem l_X8_begin_2 {X : gX} (D : va_G) (cI : ClassId) (aMO : Nat) (mFault : Int32) (amS : Nat) (mDays : Int32) (amH : Nat) (mLin : Int32) (amK : Nat) (amO : Nat) (amD : Nat) (mCool : Int32) (mReadAt : Int32) (mReadDays : Int32) (mReadLin : Int32) (amRS : Nat) (amRH : Nat) (amRK : Nat) (amRO : Nat) (amRD : Nat) (amDN : Nat) (amSN : Nat) (mDayNow : Int32) (mLast : Int32) (mTears : Int32) (mWrong : Int32) (amTF : Nat) (amTFor : Nat) (amWB : Nat) (mRdn : Int32) (amRdL : Nat) (amRdE : Nat) (amRdD : Nat) (amSz : Nat) (amLane : Nat) (amSh : Nat) (amHands : Nat) (mTrace : Int32) (mDN : Nat → Int32) (mD : Nat → Int32) (mSN : Nat → Int32) (mS : Nat → Int32) (k_mLast : Int32) (k_mSN : Nat → Int32) (hl5 : mLin.toInt ≤ 5) (hC : Cx X cX8_begin 2 RX8 wsX8_begin D [(cI, .int)] ({ frames := 0, cells := 0, slots := 0, locals := 0 } : Room) none) {res : (Int32 × (Nat → Int32) × (Nat → Int32))} (hX : Rx X D none [(aMO, .inr (8, [.int mFault, .ref amS, .int mDays, .ref amH, .int mLin, .ref amK, .ref amO, .ref amD, .int mCool, .int mReadAt, .int mReadDays, .int mReadLin, .ref amRS, .ref amRH, .ref amRK, .ref amRO, .ref amRD, .ref amDN, .ref amSN, .int (0 : Int32), .int res.1, .int (0 : Int32), .int (-9 : Int32), .ref amTF, .ref amTFor, .ref amWB, .int mRdn, .ref amRdL, .ref amRdE, .ref amRdD, .ref amSz, .ref amLane, .ref amSh, .ref amHands, .int mTrace])), (amDN, .inl (cI, 5, .inl res.2.1)), (amD, .inl (cI, 5, .inl mD)), (amSN, .inl (cI, 4, .inl res.2.2)), (amS, .inl (cI, 4, .inl mS))]) : ∀ (fu : Nat) (y1 : Int32) (z_mDN : Nat → Int32) (hm : (mLin.toInt - y1.toInt).toNat < fu) (h0_y1 : 0 ≤ y1.toInt) (hres : res = m_X8_begin_2 fu mLin mD mS k_mSN y1 z_mDN), G X D 2 [(aMO, .inr (8, [.int mFault, .ref amS, .int mDays, .ref amH, .int mLin, .ref amK, .ref amO, .ref amD, .int mCool, .int mReadAt, .int mReadDays, .int mReadLin, .ref amRS, .ref amRH, .ref amRK, .ref amRO, .ref amRD, .ref amDN, .ref amSN, .int mDayNow, .int k_mLast, .int mTears, .int mWrong, .ref amTF, .ref amTFor, .ref amWB, .int mRdn, .ref amRdL, .ref amRdE, .ref amRdD, .ref amSz, .ref amLane, .ref amSh, .ref amHands, .int mTrace])), (amDN, .inl (cI, 5, .inl z_mDN)), (amD, .inl (cI, 5, .inl mD)), (amSN, .inl (cI, 4, .inl k_mSN)), (amS, .inl (cI, 4, .inl mS))] [(0, .ref aMO), (1, .int y1)] 2 [] := by
  intro fu
  induction fu with
  | zero =>
    intro y1 z_mDN hm
    exact absurd hm (Nat.not_lt_zero _)
  | succ fu ih =>
    intro y1 z_mDN hm h0_y1 hres
    rw [m_X8_begin_2] at hres
    refine g_iload_n hC dX8_begin_2 rfl 1 rfl rfl ?_
    refine g_aload_n hC dX8_begin_3 rfl 0 rfl rfl ?_
    refine g_get hC iw_X8_begin_RX8 0 rfl rfl 4 (by decide) (List.mem_of_getElem? (i := 1) rfl) rfl rfl dX8_begin_4 rfl ?_
    refine g_icmp_ge (tgt := 28) hC dX8_begin_7 (by decide) rfl (fun c_7 => ?_) (fun c_7 => ?_)
    · rw [if_pos c_7] at hres
      refine g_iconst (v := 0) hC dX8_begin_28 (by decide) rfl ?_
      refine g_istore_n (lv' := [(1, .int (0 : Int32)), (0, .ref aMO)]) hC dX8_begin_29 rfl (by decide) rfl rfl ?_
      refine g_sub [1, 0] rfl ?_
      exact l_X8_begin_30 D cI aMO mFault amS mDays amH mLin amK amO amD mCool mReadAt mReadDays mReadLin amRS amRH amRK amRO amRD amDN amSN mDayNow mLast mTears mWrong amTF amTFor amWB mRdn amRdL amRdE amRdD amSz amLane amSh amHands mTrace mDN mD mSN mS k_mLast z_mDN hl5 hC hX (((4 : Int32).toInt - (0 : Int32).toInt).toNat + 1) (0 : Int32) k_mSN (Nat.lt_succ_self _) (by decide) hres
    · rw [if_neg c_7] at hres
      refine g_aload_n hC dX8_begin_10 rfl 0 rfl rfl ?_
      refine g_get hC iw_X8_begin_RX8 0 rfl rfl 17 (by decide) (List.mem_of_getElem? (i := 2) rfl) rfl rfl dX8_begin_11 rfl ?_
      refine g_iload_n hC dX8_begin_14 rfl 1 rfl rfl ?_
      refine g_aload_n hC dX8_begin_15 rfl 0 rfl rfl ?_
      refine g_get hC iw_X8_begin_RX8 0 rfl rfl 7 (by decide) (List.mem_of_getElem? (i := 3) rfl) rfl rfl dX8_begin_16 rfl ?_
      refine g_iload_n hC dX8_begin_19 rfl 1 rfl rfl ?_
      refine g_iald hC 2 0 rfl rfl (by exact in_up h0_y1 c_7 hl5) dX8_begin_20 rfl ?_
      refine g_iast (ws' := [(aMO, .inr (8, [.int mFault, .ref amS, .int mDays, .ref amH, .int mLin, .ref amK, .ref amO, .ref amD, .int mCool, .int mReadAt, .int mReadDays, .int mReadLin, .ref amRS, .ref amRH, .ref amRK, .ref amRO, .ref amRD, .ref amDN, .ref amSN, .int mDayNow, .int k_mLast, .int mTears, .int mWrong, .ref amTF, .ref amTFor, .ref amWB, .int mRdn, .ref amRdL, .ref amRdE, .ref amRdD, .ref amSz, .ref amLane, .ref amSh, .ref amHands, .int mTrace])), (amDN, .inl (cI, 5, .inl (upd z_mDN y1.toNatClampNeg (mD y1.toNatClampNeg)))), (amD, .inl (cI, 5, .inl mD)), (amSN, .inl (cI, 4, .inl k_mSN)), (amS, .inl (cI, 4, .inl mS))]) hC 1 0 rfl rfl (by exact in_up h0_y1 c_7 hl5) rfl dX8_begin_21 rfl ?_
      refine g_iinc (v := (y1 + 1)) (lv' := [(1, .int (y1 + 1)), (0, .ref aMO)]) hC dX8_begin_22 1 rfl rfl (by decide) rfl rfl ?_
      refine g_goto (tgt := 2) hC dX8_begin_25 (by decide) ?_
      refine g_sub [1, 0] rfl ?_
      exact ih (y1 + 1) (upd z_mDN y1.toNatClampNeg (mD y1.toNatClampNeg)) (up_dec c_7 hm) (up_nn c_7 h0_y1) hres
set_option maxRecDepth 100000 in
set_option maxHeartbeats 4000000 in
theorem c_X8_begin (D : va_G) (cI : ClassId) (aMO : Nat) (mFault : Int32) (amS : Nat) (mDays : Int32) (amH : Nat) (mLin : Int32) (amK : Nat) (amO : Nat) (amD : Nat) (mCool : Int32) (mReadAt : Int32) (mReadDays : Int32) (mReadLin : Int32) (amRS : Nat) (amRH : Nat) (amRK : Nat) (amRO : Nat) (amRD : Nat) (amDN : Nat) (amSN : Nat) (mDayNow : Int32) (mLast : Int32) (mTears : Int32) (mWrong : Int32) (amTF : Nat) (amTFor : Nat) (amWB : Nat) (mRdn : Int32) (amRdL : Nat) (amRdE : Nat) (amRdD : Nat) (amSz : Nat) (amLane : Nat) (amSh : Nat) (amHands : Nat) (mTrace : Int32) (mDN : Nat → Int32) (mD : Nat → Int32) (mSN : Nat → Int32) (mS : Nat → Int32) (hl5 : mLin.toInt ≤ 5) : MC yX8_begin wsX8_begin ({ frames := 0, cells := 0, slots := 0, locals := 0 } : Room) D [(cI, .int)] [.ref aMO] [(aMO, .inr (8, [.int mFault, .ref amS, .int mDays, .ref amH, .int mLin, .ref amK, .ref amO, .ref amD, .int mCool, .int mReadAt, .int mReadDays, .int mReadLin, .ref amRS, .ref amRH, .ref amRK, .ref amRO, .ref amRD, .ref amDN, .ref amSN, .int mDayNow, .int mLast, .int mTears, .int mWrong, .ref amTF, .ref amTFor, .ref amWB, .int mRdn, .ref amRdL, .ref amRdE, .ref amRdD, .ref amSz, .ref amLane, .ref amSh, .ref amHands, .int mTrace])), (amDN, .inl (cI, 5, .inl mDN)), (amD, .inl (cI, 5, .inl mD)), (amSN, .inl (cI, 4, .inl mSN)), (amS, .inl (cI, 4, .inl mS))] none [(aMO, .inr (8, [.int mFault, .ref amS, .int mDays, .ref amH, .int mLin, .ref amK, .ref amO, .ref amD, .int mCool, .int mReadAt, .int mReadDays, .int mReadLin, .ref amRS, .ref amRH, .ref amRK, .ref amRO, .ref amRD, .ref amDN, .ref amSN, .int (0 : Int32), .int ((m_X8_begin mLin mDN mD mSN mS).1), .int (0 : Int32), .int (-9 : Int32), .ref amTF, .ref amTFor, .ref amWB, .int mRdn, .ref amRdL, .ref amRdE, .ref amRdD, .ref amSz, .ref amLane, .ref amSh, .ref amHands, .int mTrace])), (amDN, .inl (cI, 5, .inl ((m_X8_begin mLin mDN mD mSN mS).2.1))), (amD, .inl (cI, 5, .inl mD)), (amSN, .inl (cI, 4, .inl ((m_X8_begin mLin mDN mD mSN mS).2.2))), (amS, .inl (cI, 4, .inl mS))] := by
  refine g_entry (by decide) rfl rfl rfl rfl (Nat.le_of_ble_eq_true rfl) (lv := [(0, .ref aMO)]) rfl ?_
  intro X hC hX
  obtain ⟨res, hres⟩ : ∃ z, z = (m_X8_begin mLin mDN mD mSN mS) := ⟨_, rfl⟩
  rw [← hres] at hX
  rw [m_X8_begin] at hres
  refine g_iconst (v := 0) hC dX8_begin_0 (by decide) rfl ?_
  refine g_istore_n (lv' := [(1, .int (0 : Int32)), (0, .ref aMO)]) hC dX8_begin_1 rfl (by decide) rfl rfl ?_
  refine g_sub [1, 0] rfl ?_
  exact l_X8_begin_2 D cI aMO mFault amS mDays amH mLin amK amO amD mCool mReadAt mReadDays mReadLin amRS amRH amRK amRO amRD amDN amSN mDayNow mLast mTears mWrong amTF amTFor amWB mRdn amRdL amRdE amRdD amSz amLane amSh amHands mTrace mDN mD mSN mS mLast mSN hl5 hC hX ((mLin.toInt - (0 : Int32).toInt).toNat + 1) (0 : Int32) mDN (Nat.lt_succ_self _) (by decide) hres
