theorem iw_X8_lawNow_RX8 : ∀ w ∈ wsX80, w ∈ wsX8_lawNow := fun _ h => List.mem_cons_of_mem _ (List.mem_append_right _ (h))
def m_X8_lawNow_4 : Nat → Int32 → (Nat → Int32) → Int32 → Int32 → (Int32)
  | 0, _, _, _, _ => default
  | fu + 1, mLin, mDN, y1, y2 => (if mLin ≤ y2 then y1 else (m_X8_lawNow_4 fu mLin mDN (y1 ||| (if (mDN y2.toNatClampNeg) ≤ 0 then (0 : Int32) else ((1 : Int32) <<< (y2 &&& 31)))) (y2 + 1)))
def m_X8_lawNow (mLin : Int32) (mDN : Nat → Int32) : (Int32) := (m_X8_lawNow_4 ((mLin.toInt - (0 : Int32).toInt).toNat + 1) mLin mDN (0 : Int32) (0 : Int32))
set_option maxRecDepth 100000 in
set_option maxHeartbeats 4000000 in
theorem l_X8_lawNow_4 {X : gX} (D : va_G) (cI : ClassId) (aMO : Nat) (mFault : Int32) (amS : Nat) (mDays : Int32) (amH : Nat) (mLin : Int32) (amK : Nat) (amO : Nat) (amD : Nat) (mCool : Int32) (mReadAt : Int32) (mReadDays : Int32) (mReadLin : Int32) (amRS : Nat) (amRH : Nat) (amRK : Nat) (amRO : Nat) (amRD : Nat) (amDN : Nat) (amSN : Nat) (mDayNow : Int32) (mLast : Int32) (mTears : Int32) (mWrong : Int32) (amTF : Nat) (amTFor : Nat) (amWB : Nat) (mRdn : Int32) (amRdL : Nat) (amRdE : Nat) (amRdD : Nat) (amSz : Nat) (amLane : Nat) (amSh : Nat) (amHands : Nat) (mTrace : Int32) (mDN : Nat → Int32) (hl5 : mLin.toInt ≤ 5) (hC : Cx X cX8_lawNow 3 RX8 wsX8_lawNow D [(cI, .int)] ({ frames := 0, cells := 0, slots := 0, locals := 0 } : Room) (some .int)) {res : (Int32)} (hX : Rx X D (some (.int res)) [(aMO, .inr (8, [.int mFault, .ref amS, .int mDays, .ref amH, .int mLin, .ref amK, .ref amO, .ref amD, .int mCool, .int mReadAt, .int mReadDays, .int mReadLin, .ref amRS, .ref amRH, .ref amRK, .ref amRO, .ref amRD, .ref amDN, .ref amSN, .int mDayNow, .int mLast, .int mTears, .int mWrong, .ref amTF, .ref amTFor, .ref amWB, .int mRdn, .ref amRdL, .ref amRdE, .ref amRdD, .ref amSz, .ref amLane, .ref amSh, .ref amHands, .int mTrace])), (amDN, .inl (cI, 5, .inl mDN))]) : ∀ (fu : Nat) (y1 : Int32) (y2 : Int32) (hm : (mLin.toInt - y2.toInt).toNat < fu) (h0_y2 : 0 ≤ y2.toInt) (hres : res = m_X8_lawNow_4 fu mLin mDN y1 y2), G X D 3 [(aMO, .inr (8, [.int mFault, .ref amS, .int mDays, .ref amH, .int mLin, .ref amK, .ref amO, .ref amD, .int mCool, .int mReadAt, .int mReadDays, .int mReadLin, .ref amRS, .ref amRH, .ref amRK, .ref amRO, .ref amRD, .ref amDN, .ref amSN, .int mDayNow, .int mLast, .int mTears, .int mWrong, .ref amTF, .ref amTFor, .ref amWB, .int mRdn, .ref amRdL, .ref amRdE, .ref amRdD, .ref amSz, .ref amLane, .ref amSh, .ref amHands, .int mTrace])), (amDN, .inl (cI, 5, .inl mDN))] [(0, .ref aMO), (1, .int y1), (2, .int y2)] 4 [] := by
  intro fu
  induction fu with
  | zero =>
    intro y1 y2 hm
    exact absurd hm (Nat.not_lt_zero _)
  | succ fu ih =>
    intro y1 y2 hm h0_y2 hres
    rw [m_X8_lawNow_4] at hres
    refine g_iload_n hC dX8_lawNow_4 rfl 2 rfl rfl ?_
    refine g_aload_n hC dX8_lawNow_5 rfl 0 rfl rfl ?_
    refine g_get hC iw_X8_lawNow_RX8 0 rfl rfl 4 (by decide) (List.mem_of_getElem? (i := 1) rfl) rfl rfl dX8_lawNow_6 rfl ?_
    refine g_icmp_ge (tgt := 37) hC dX8_lawNow_9 (by decide) rfl (fun c_9 => ?_) (fun c_9 => ?_)
    · rw [if_pos c_9] at hres
      refine g_iload_n hC dX8_lawNow_37 rfl 1 rfl rfl ?_
      subst hres
      exact g_iret hC hX rfl dX8_lawNow_38 rfl rfl
    · rw [if_neg c_9] at hres
      refine g_iload_n hC dX8_lawNow_12 rfl 1 rfl rfl ?_
      refine g_aload_n hC dX8_lawNow_13 rfl 0 rfl rfl ?_
      refine g_get hC iw_X8_lawNow_RX8 0 rfl rfl 17 (by decide) (List.mem_of_getElem? (i := 2) rfl) rfl rfl dX8_lawNow_14 rfl ?_
      refine g_iload_n hC dX8_lawNow_17 rfl 2 rfl rfl ?_
      refine g_iald hC 1 0 rfl rfl (by exact in_up h0_y2 c_9 hl5) dX8_lawNow_18 rfl ?_
      have K_19 : ∀ vK : Int32, vK = (if (mDN y2.toNatClampNeg) ≤ 0 then (0 : Int32) else ((1 : Int32) <<< (y2 &&& 31))) → G X D 3 [(aMO, .inr (8, [.int mFault, .ref amS, .int mDays, .ref amH, .int mLin, .ref amK, .ref amO, .ref amD, .int mCool, .int mReadAt, .int mReadDays, .int mReadLin, .ref amRS, .ref amRH, .ref amRK, .ref amRO, .ref amRD, .ref amDN, .ref amSN, .int mDayNow, .int mLast, .int mTears, .int mWrong, .ref amTF, .ref amTFor, .ref amWB, .int mRdn, .ref amRdL, .ref amRdE, .ref amRdD, .ref amSz, .ref amLane, .ref amSh, .ref amHands, .int mTrace])), (amDN, .inl (cI, 5, .inl mDN))] [(0, .ref aMO), (1, .int y1), (2, .int y2)] 29 (.int vK :: [.int y1]) := by
        intro vK hvK
        subst hvK
        refine g_ior hC dX8_lawNow_29 rfl ?_
        refine g_istore_n (lv' := [(1, .int (y1 ||| (if (mDN y2.toNatClampNeg) ≤ 0 then (0 : Int32) else ((1 : Int32) <<< (y2 &&& 31))))), (0, .ref aMO), (2, .int y2)]) hC dX8_lawNow_30 rfl (by decide) rfl rfl ?_
        refine g_iinc (v := (y2 + 1)) (lv' := [(2, .int (y2 + 1)), (1, .int (y1 ||| (if (mDN y2.toNatClampNeg) ≤ 0 then (0 : Int32) else ((1 : Int32) <<< (y2 &&& 31))))), (0, .ref aMO)]) hC dX8_lawNow_31 2 rfl rfl (by decide) rfl rfl ?_
        refine g_goto (tgt := 4) hC dX8_lawNow_34 (by decide) ?_
        refine g_sub [2, 1, 0] rfl ?_
        exact ih (y1 ||| (if (mDN y2.toNatClampNeg) ≤ 0 then (0 : Int32) else ((1 : Int32) <<< (y2 &&& 31)))) (y2 + 1) (up_dec c_9 hm) (up_nn c_9 h0_y2) hres
      refine g_if_le (tgt := 28) hC dX8_lawNow_19 (by decide) rfl (fun c_19 => ?_) (fun c_19 => ?_)
      · refine g_iconst (v := 0) hC dX8_lawNow_28 (by decide) rfl ?_
        exact K_19 _ (if_pos c_19).symm
      · refine g_iconst (v := 1) hC dX8_lawNow_22 (by decide) rfl ?_
        refine g_iload_n hC dX8_lawNow_23 rfl 2 rfl rfl ?_
        refine g_ishl hC dX8_lawNow_24 rfl ?_
        refine g_goto (tgt := 29) hC dX8_lawNow_25 (by decide) ?_
        exact K_19 _ (if_neg c_19).symm
set_option maxRecDepth 100000 in
set_option maxHeartbeats 4000000 in
theorem c_X8_lawNow (D : va_G) (cI : ClassId) (aMO : Nat) (mFault : Int32) (amS : Nat) (mDays : Int32) (amH : Nat) (mLin : Int32) (amK : Nat) (amO : Nat) (amD : Nat) (mCool : Int32) (mReadAt : Int32) (mReadDays : Int32) (mReadLin : Int32) (amRS : Nat) (amRH : Nat) (amRK : Nat) (amRO : Nat) (amRD : Nat) (amDN : Nat) (amSN : Nat) (mDayNow : Int32) (mLast : Int32) (mTears : Int32) (mWrong : Int32) (amTF : Nat) (amTFor : Nat) (amWB : Nat) (mRdn : Int32) (amRdL : Nat) (amRdE : Nat) (amRdD : Nat) (amSz : Nat) (amLane : Nat) (amSh : Nat) (amHands : Nat) (mTrace : Int32) (mDN : Nat → Int32) (hl5 : mLin.toInt ≤ 5) : MC yX8_lawNow wsX8_lawNow ({ frames := 0, cells := 0, slots := 0, locals := 0 } : Room) D [(cI, .int)] [.ref aMO] [(aMO, .inr (8, [.int mFault, .ref amS, .int mDays, .ref amH, .int mLin, .ref amK, .ref amO, .ref amD, .int mCool, .int mReadAt, .int mReadDays, .int mReadLin, .ref amRS, .ref amRH, .ref amRK, .ref amRO, .ref amRD, .ref amDN, .ref amSN, .int mDayNow, .int mLast, .int mTears, .int mWrong, .ref amTF, .ref amTFor, .ref amWB, .int mRdn, .ref amRdL, .ref amRdE, .ref amRdD, .ref amSz, .ref amLane, .ref amSh, .ref amHands, .int mTrace])), (amDN, .inl (cI, 5, .inl mDN))] (some (.int (m_X8_lawNow mLin mDN))) [(aMO, .inr (8, [.int mFault, .ref amS, .int mDays, .ref amH, .int mLin, .ref amK, .ref amO, .ref amD, .int mCool, .int mReadAt, .int mReadDays, .int mReadLin, .ref amRS, .ref amRH, .ref amRK, .ref amRO, .ref amRD, .ref amDN, .ref amSN, .int mDayNow, .int mLast, .int mTears, .int mWrong, .ref amTF, .ref amTFor, .ref amWB, .int mRdn, .ref amRdL, .ref amRdE, .ref amRdD, .ref amSz, .ref amLane, .ref amSh, .ref amHands, .int mTrace])), (amDN, .inl (cI, 5, .inl mDN))] := by
  refine g_entry (by decide) rfl rfl rfl rfl (Nat.le_of_ble_eq_true rfl) (lv := [(0, .ref aMO)]) rfl ?_
  intro X hC hX
  obtain ⟨res, hres⟩ : ∃ z, z = (m_X8_lawNow mLin mDN) := ⟨_, rfl⟩
  rw [← hres] at hX
  rw [m_X8_lawNow] at hres
  refine g_iconst (v := 0) hC dX8_lawNow_0 (by decide) rfl ?_
  refine g_istore_n (lv' := [(1, .int (0 : Int32)), (0, .ref aMO)]) hC dX8_lawNow_1 rfl (by decide) rfl rfl ?_
  refine g_iconst (v := 0) hC dX8_lawNow_2 (by decide) rfl ?_
  refine g_istore_n (lv' := [(2, .int (0 : Int32)), (1, .int (0 : Int32)), (0, .ref aMO)]) hC dX8_lawNow_3 rfl (by decide) rfl rfl ?_
  refine g_sub [2, 1, 0] rfl ?_
  exact l_X8_lawNow_4 D cI aMO mFault amS mDays amH mLin amK amO amD mCool mReadAt mReadDays mReadLin amRS amRH amRK amRO amRD amDN amSN mDayNow mLast mTears mWrong amTF amTFor amWB mRdn amRdL amRdE amRdD amSz amLane amSh amHands mTrace mDN hl5 hC hX ((mLin.toInt - (0 : Int32).toInt).toNat + 1) (0 : Int32) (0 : Int32) (Nat.lt_succ_self _) (by decide) hres
theorem iw_X8_doesEvening_RX8 : ∀ w ∈ wsX80, w ∈ wsX8_doesEvening := fun _ h => List.mem_cons_of_mem _ (List.mem_append_right _ (h))
def m_X8_doesEvening_15 : Nat → Int32 → Int32 → (Nat → Int32) → (Nat → Int32) → Int32 → Int32 → Int32 → (Nat → Int32) → (Int32 × Int32 × Int32 × (Nat → Int32))
  | 0, _, _, _, _, _, _, _, _ => default
  | fu + 1, mLin, mCool, mH, mK, k_mDayNow, k_mLast, y1, z_mDN => (if mLin ≤ y1 then ((1 : Int32), (k_mDayNow + (1 : Int32)), (k_mLast &&& (m_X8_lawNow mLin z_mDN)), z_mDN) else (m_X8_doesEvening_15 fu mLin mCool mH mK k_mDayNow k_mLast (y1 + 1) (upd z_mDN y1.toNatClampNeg (m_X8_dried mCool mH mK (z_mDN y1.toNatClampNeg) y1 k_mDayNow))))
def m_X8_doesEvening (mDays : Int32) (mLin : Int32) (mCool : Int32) (mDayNow : Int32) (mLast : Int32) (mDN : Nat → Int32) (mH : Nat → Int32) (mK : Nat → Int32) : (Int32 × Int32 × Int32 × (Nat → Int32)) := (if mDayNow = mDays then ((0 : Int32), mDayNow, mLast, mDN) else (m_X8_doesEvening_15 ((mLin.toInt - (0 : Int32).toInt).toNat + 1) mLin mCool mH mK mDayNow mLast (0 : Int32) mDN))
set_option maxRecDepth 100000 in
set_option maxHeartbeats 4000000 in
theorem l_X8_doesEvening_15 {X : gX} (D : va_G) (cI : ClassId) (aMO : Nat) (mFault : Int32) (amS : Nat) (mDays : Int32) (amH : Nat) (mLin : Int32) (amK : Nat) (amO : Nat) (amD : Nat) (mCool : Int32) (mReadAt : Int32) (mReadDays : Int32) (mReadLin : Int32) (amRS : Nat) (amRH : Nat) (amRK : Nat) (amRO : Nat) (amRD : Nat) (amDN : Nat) (amSN : Nat) (mDayNow : Int32) (mLast : Int32) (mTears : Int32) (mWrong : Int32) (amTF : Nat) (amTFor : Nat) (amWB : Nat) (mRdn : Int32) (amRdL : Nat) (amRdE : Nat) (amRdD : Nat) (amSz : Nat) (amLane : Nat) (amSh : Nat) (amHands : Nat) (mTrace : Int32) (mDN : Nat → Int32) (mH : Nat → Int32) (mK : Nat → Int32) (k_mDayNow : Int32) (k_mLast : Int32) (hl5 : mLin.toInt ≤ 5) (hdn : vp_in mDayNow 6 ∨ mDayNow = mDays) (hC : Cx X cX8_doesEvening 2 RX8 wsX8_doesEvening D [(cI, .int)] ({ frames := 3, cells := 0, slots := 0, locals := 68 } : Room) (some .boolean)) {res : (Int32 × Int32 × Int32 × (Nat → Int32))} (hX : Rx X D (some (.int res.1)) [(aMO, .inr (8, [.int mFault, .ref amS, .int mDays, .ref amH, .int mLin, .ref amK, .ref amO, .ref amD, .int mCool, .int mReadAt, .int mReadDays, .int mReadLin, .ref amRS, .ref amRH, .ref amRK, .ref amRO, .ref amRD, .ref amDN, .ref amSN, .int res.2.1, .int res.2.2.1, .int mTears, .int mWrong, .ref amTF, .ref amTFor, .ref amWB, .int mRdn, .ref amRdL, .ref amRdE, .ref amRdD, .ref amSz, .ref amLane, .ref amSh, .ref amHands, .int mTrace])), (amDN, .inl (cI, 5, .inl res.2.2.2)), (amH, .inl (cI, 6, .inl mH)), (amK, .inl (cI, 5, .inl mK))]) : ∀ (fu : Nat) (y1 : Int32) (z_mDN : Nat → Int32) (hm : (mLin.toInt - y1.toInt).toNat < fu) (h0_y1 : 0 ≤ y1.toInt) (hdv : vp_in k_mDayNow 6) (hres : res = m_X8_doesEvening_15 fu mLin mCool mH mK k_mDayNow k_mLast y1 z_mDN), G X D 2 [(aMO, .inr (8, [.int mFault, .ref amS, .int mDays, .ref amH, .int mLin, .ref amK, .ref amO, .ref amD, .int mCool, .int mReadAt, .int mReadDays, .int mReadLin, .ref amRS, .ref amRH, .ref amRK, .ref amRO, .ref amRD, .ref amDN, .ref amSN, .int k_mDayNow, .int k_mLast, .int mTears, .int mWrong, .ref amTF, .ref amTFor, .ref amWB, .int mRdn, .ref amRdL, .ref amRdE, .ref amRdD, .ref amSz, .ref amLane, .ref amSh, .ref amHands, .int mTrace])), (amDN, .inl (cI, 5, .inl z_mDN)), (amH, .inl (cI, 6, .inl mH)), (amK, .inl (cI, 5, .inl mK))] [(0, .ref aMO), (1, .int y1)] 15 [] := by
  intro fu
  induction fu with
  | zero =>
    intro y1 z_mDN hm
    exact absurd hm (Nat.not_lt_zero _)
  | succ fu ih =>
    intro y1 z_mDN hm h0_y1 hdv hres
    rw [m_X8_doesEvening_15] at hres
    refine g_iload_n hC dX8_doesEvening_15 rfl 1 rfl rfl ?_
    refine g_aload_n hC dX8_doesEvening_16 rfl 0 rfl rfl ?_
    refine g_get hC iw_X8_doesEvening_RX8 0 rfl rfl 4 (by decide) (List.mem_of_getElem? (i := 3) rfl) rfl rfl dX8_doesEvening_17 rfl ?_
    refine g_icmp_ge (tgt := 50) hC dX8_doesEvening_20 (by decide) rfl (fun c_20 => ?_) (fun c_20 => ?_)
    · rw [if_pos c_20] at hres
      refine g_aload_n hC dX8_doesEvening_50 rfl 0 rfl rfl ?_
      refine g_dup hC dX8_doesEvening_51 rfl rfl ?_
      refine g_get hC iw_X8_doesEvening_RX8 0 rfl rfl 19 (by decide) (List.mem_of_getElem? (i := 1) rfl) rfl rfl dX8_doesEvening_52 rfl ?_
      refine g_iconst (v := 1) hC dX8_doesEvening_55 (by decide) rfl ?_
      refine g_iadd hC dX8_doesEvening_56 rfl ?_
      refine g_put (ws' := [(aMO, .inr (8, [.int mFault, .ref amS, .int mDays, .ref amH, .int mLin, .ref amK, .ref amO, .ref amD, .int mCool, .int mReadAt, .int mReadDays, .int mReadLin, .ref amRS, .ref amRH, .ref amRK, .ref amRO, .ref amRD, .ref amDN, .ref amSN, .int (k_mDayNow + (1 : Int32)), .int k_mLast, .int mTears, .int mWrong, .ref amTF, .ref amTFor, .ref amWB, .int mRdn, .ref amRdL, .ref amRdE, .ref amRdD, .ref amSz, .ref amLane, .ref amSh, .ref amHands, .int mTrace])), (amDN, .inl (cI, 5, .inl z_mDN)), (amH, .inl (cI, 6, .inl mH)), (amK, .inl (cI, 5, .inl mK))]) hC iw_X8_doesEvening_RX8 0 rfl rfl 19 (by decide) (List.mem_of_getElem? (i := 1) rfl) rfl tyX8 tyX8_ok nmX8 rfl rfl rfl (Nat.le_of_ble_eq_true rfl) rfl dX8_doesEvening_57 rfl ?_
      refine g_aload_n hC dX8_doesEvening_60 rfl 0 rfl rfl ?_
      refine g_dup hC dX8_doesEvening_61 rfl rfl ?_
      refine g_get hC iw_X8_doesEvening_RX8 0 rfl rfl 20 (by decide) (List.mem_of_getElem? (i := 5) rfl) rfl rfl dX8_doesEvening_62 rfl ?_
      refine g_aload_n hC dX8_doesEvening_65 rfl 0 rfl rfl ?_
      refine g_callV (ws' := [(aMO, .inr (8, [.int mFault, .ref amS, .int mDays, .ref amH, .int mLin, .ref amK, .ref amO, .ref amD, .int mCool, .int mReadAt, .int mReadDays, .int mReadLin, .ref amRS, .ref amRH, .ref amRK, .ref amRO, .ref amRD, .ref amDN, .ref amSN, .int (k_mDayNow + (1 : Int32)), .int k_mLast, .int mTears, .int mWrong, .ref amTF, .ref amTFor, .ref amWB, .int mRdn, .ref amRdL, .ref amRdE, .ref amRdD, .ref amSz, .ref amLane, .ref amSh, .ref amHands, .int mTrace])), (amDN, .inl (cI, 5, .inl z_mDN)), (amH, .inl (cI, 6, .inl mH)), (amK, .inl (cI, 5, .inl mK))]) (st' := [.int (m_X8_lawNow mLin z_mDN), .int k_mLast, .ref aMO]) (nw := 4) (n1 := 2) hC gX8_doesEvening_X8_lawNow hdV_yX8_lawNow 0 rfl rfl (As := []) (rest := [.int k_mLast, .ref aMO]) (c_X8_lawNow D cI aMO mFault amS mDays amH mLin amK amO amD mCool mReadAt mReadDays mReadLin amRS amRH amRK amRO amRD amDN amSN (k_mDayNow + (1 : Int32)) k_mLast mTears mWrong amTF amTFor amWB mRdn amRdL amRdE amRdD amSz amLane amSh amHands mTrace z_mDN (by exact hl5)) rfl ⟨by decide, by decide⟩ rfl [0, 1] [2, 3] [2, 3, 0, 1] [0] rfl rfl rfl rfl (by decide) rfl rfl (Nat.le_of_ble_eq_true rfl) dX8_doesEvening_66 rfl rfl ?_
      refine g_iand hC dX8_doesEvening_69 rfl ?_
      refine g_put (ws' := [(aMO, .inr (8, [.int mFault, .ref amS, .int mDays, .ref amH, .int mLin, .ref amK, .ref amO, .ref amD, .int mCool, .int mReadAt, .int mReadDays, .int mReadLin, .ref amRS, .ref amRH, .ref amRK, .ref amRO, .ref amRD, .ref amDN, .ref amSN, .int (k_mDayNow + (1 : Int32)), .int (k_mLast &&& (m_X8_lawNow mLin z_mDN)), .int mTears, .int mWrong, .ref amTF, .ref amTFor, .ref amWB, .int mRdn, .ref amRdL, .ref amRdE, .ref amRdD, .ref amSz, .ref amLane, .ref amSh, .ref amHands, .int mTrace])), (amDN, .inl (cI, 5, .inl z_mDN)), (amH, .inl (cI, 6, .inl mH)), (amK, .inl (cI, 5, .inl mK))]) hC iw_X8_doesEvening_RX8 0 rfl rfl 20 (by decide) (List.mem_of_getElem? (i := 5) rfl) rfl tyX8 tyX8_ok nmX8 rfl rfl rfl (Nat.le_of_ble_eq_true rfl) rfl dX8_doesEvening_70 rfl ?_
      refine g_iconst (v := 1) hC dX8_doesEvening_73 (by decide) rfl ?_
      subst hres
      exact g_zret hC hX rfl rfl dX8_doesEvening_74 rfl rfl
    · rw [if_neg c_20] at hres
      refine g_aload_n hC dX8_doesEvening_23 rfl 0 rfl rfl ?_
      refine g_get hC iw_X8_doesEvening_RX8 0 rfl rfl 17 (by decide) (List.mem_of_getElem? (i := 4) rfl) rfl rfl dX8_doesEvening_24 rfl ?_
      refine g_iload_n hC dX8_doesEvening_27 rfl 1 rfl rfl ?_
      refine g_aload_n hC dX8_doesEvening_28 rfl 0 rfl rfl ?_
      refine g_aload_n hC dX8_doesEvening_29 rfl 0 rfl rfl ?_
      refine g_get hC iw_X8_doesEvening_RX8 0 rfl rfl 17 (by decide) (List.mem_of_getElem? (i := 4) rfl) rfl rfl dX8_doesEvening_30 rfl ?_
      refine g_iload_n hC dX8_doesEvening_33 rfl 1 rfl rfl ?_
      refine g_iald hC 1 0 rfl rfl (by exact in_up h0_y1 c_20 hl5) dX8_doesEvening_34 rfl ?_
      refine g_iload_n hC dX8_doesEvening_35 rfl 1 rfl rfl ?_
      refine g_aload_n hC dX8_doesEvening_36 rfl 0 rfl rfl ?_
      refine g_get hC iw_X8_doesEvening_RX8 0 rfl rfl 19 (by decide) (List.mem_of_getElem? (i := 1) rfl) rfl rfl dX8_doesEvening_37 rfl ?_
      refine g_callV (ws' := [(aMO, .inr (8, [.int mFault, .ref amS, .int mDays, .ref amH, .int mLin, .ref amK, .ref amO, .ref amD, .int mCool, .int mReadAt, .int mReadDays, .int mReadLin, .ref amRS, .ref amRH, .ref amRK, .ref amRO, .ref amRD, .ref amDN, .ref amSN, .int k_mDayNow, .int k_mLast, .int mTears, .int mWrong, .ref amTF, .ref amTFor, .ref amWB, .int mRdn, .ref amRdL, .ref amRdE, .ref amRdD, .ref amSz, .ref amLane, .ref amSh, .ref amHands, .int mTrace])), (amDN, .inl (cI, 5, .inl z_mDN)), (amH, .inl (cI, 6, .inl mH)), (amK, .inl (cI, 5, .inl mK))]) (st' := [.int (m_X8_dried mCool mH mK (z_mDN y1.toNatClampNeg) y1 k_mDayNow), .int y1, .ref amDN]) (nw := 4) (n1 := 3) hC gX8_doesEvening_X8_dried hdV_yX8_dried 0 rfl rfl (As := [.int (z_mDN y1.toNatClampNeg), .int y1, .int k_mDayNow]) (rest := [.int y1, .ref amDN]) (c_X8_dried D cI aMO mFault amS mDays amH mLin amK amO amD mCool mReadAt mReadDays mReadLin amRS amRH amRK amRO amRD amDN amSN k_mDayNow k_mLast mTears mWrong amTF amTFor amWB mRdn amRdL amRdE amRdD amSz amLane amSh amHands mTrace mH mK (z_mDN y1.toNatClampNeg) y1 k_mDayNow (by exact in_up h0_y1 c_20 hl5) (by exact hdv)) rfl ⟨by decide, by decide⟩ rfl [0, 2, 3] [1] [1, 0, 2, 3] [0] rfl rfl rfl rfl (by decide) rfl rfl (Nat.le_of_ble_eq_true rfl) dX8_doesEvening_40 rfl rfl ?_
      refine g_iast (ws' := [(aMO, .inr (8, [.int mFault, .ref amS, .int mDays, .ref amH, .int mLin, .ref amK, .ref amO, .ref amD, .int mCool, .int mReadAt, .int mReadDays, .int mReadLin, .ref amRS, .ref amRH, .ref amRK, .ref amRO, .ref amRD, .ref amDN, .ref amSN, .int k_mDayNow, .int k_mLast, .int mTears, .int mWrong, .ref amTF, .ref amTFor, .ref amWB, .int mRdn, .ref amRdL, .ref amRdE, .ref amRdD, .ref amSz, .ref amLane, .ref amSh, .ref amHands, .int mTrace])), (amDN, .inl (cI, 5, .inl (upd z_mDN y1.toNatClampNeg (m_X8_dried mCool mH mK (z_mDN y1.toNatClampNeg) y1 k_mDayNow)))), (amH, .inl (cI, 6, .inl mH)), (amK, .inl (cI, 5, .inl mK))]) hC 1 0 rfl rfl (by exact in_up h0_y1 c_20 hl5) rfl dX8_doesEvening_43 rfl ?_
      refine g_iinc (v := (y1 + 1)) (lv' := [(1, .int (y1 + 1)), (0, .ref aMO)]) hC dX8_doesEvening_44 1 rfl rfl (by decide) rfl rfl ?_
      refine g_goto (tgt := 15) hC dX8_doesEvening_47 (by decide) ?_
      refine g_sub [1, 0] rfl ?_
      exact ih (y1 + 1) (upd z_mDN y1.toNatClampNeg (m_X8_dried mCool mH mK (z_mDN y1.toNatClampNeg) y1 k_mDayNow)) (up_dec c_20 hm) (up_nn c_20 h0_y1) (by assumption) hres
set_option maxRecDepth 100000 in
set_option maxHeartbeats 4000000 in
theorem c_X8_doesEvening (D : va_G) (cI : ClassId) (aMO : Nat) (mFault : Int32) (amS : Nat) (mDays : Int32) (amH : Nat) (mLin : Int32) (amK : Nat) (amO : Nat) (amD : Nat) (mCool : Int32) (mReadAt : Int32) (mReadDays : Int32) (mReadLin : Int32) (amRS : Nat) (amRH : Nat) (amRK : Nat) (amRO : Nat) (amRD : Nat) (amDN : Nat) (amSN : Nat) (mDayNow : Int32) (mLast : Int32) (mTears : Int32) (mWrong : Int32) (amTF : Nat) (amTFor : Nat) (amWB : Nat) (mRdn : Int32) (amRdL : Nat) (amRdE : Nat) (amRdD : Nat) (amSz : Nat) (amLane : Nat) (amSh : Nat) (amHands : Nat) (mTrace : Int32) (mDN : Nat → Int32) (mH : Nat → Int32) (mK : Nat → Int32) (hl5 : mLin.toInt ≤ 5) (hdn : vp_in mDayNow 6 ∨ mDayNow = mDays) : MC yX8_doesEvening wsX8_doesEvening ({ frames := 3, cells := 0, slots := 0, locals := 68 } : Room) D [(cI, .int)] [.ref aMO] [(aMO, .inr (8, [.int mFault, .ref amS, .int mDays, .ref amH, .int mLin, .ref amK, .ref amO, .ref amD, .int mCool, .int mReadAt, .int mReadDays, .int mReadLin, .ref amRS, .ref amRH, .ref amRK, .ref amRO, .ref amRD, .ref amDN, .ref amSN, .int mDayNow, .int mLast, .int mTears, .int mWrong, .ref amTF, .ref amTFor, .ref amWB, .int mRdn, .ref amRdL, .ref amRdE, .ref amRdD, .ref amSz, .ref amLane, .ref amSh, .ref amHands, .int mTrace])), (amDN, .inl (cI, 5, .inl mDN)), (amH, .inl (cI, 6, .inl mH)), (amK, .inl (cI, 5, .inl mK))] (some (.int ((m_X8_doesEvening mDays mLin mCool mDayNow mLast mDN mH mK).1))) [(aMO, .inr (8, [.int mFault, .ref amS, .int mDays, .ref amH, .int mLin, .ref amK, .ref amO, .ref amD, .int mCool, .int mReadAt, .int mReadDays, .int mReadLin, .ref amRS, .ref amRH, .ref amRK, .ref amRO, .ref amRD, .ref amDN, .ref amSN, .int ((m_X8_doesEvening mDays mLin mCool mDayNow mLast mDN mH mK).2.1), .int ((m_X8_doesEvening mDays mLin mCool mDayNow mLast mDN mH mK).2.2.1), .int mTears, .int mWrong, .ref amTF, .ref amTFor, .ref amWB, .int mRdn, .ref amRdL, .ref amRdE, .ref amRdD, .ref amSz, .ref amLane, .ref amSh, .ref amHands, .int mTrace])), (amDN, .inl (cI, 5, .inl ((m_X8_doesEvening mDays mLin mCool mDayNow mLast mDN mH mK).2.2.2))), (amH, .inl (cI, 6, .inl mH)), (amK, .inl (cI, 5, .inl mK))] := by
  refine g_entry (by decide) rfl rfl rfl rfl (Nat.le_of_ble_eq_true rfl) (lv := [(0, .ref aMO)]) rfl ?_
  intro X hC hX
  obtain ⟨res, hres⟩ : ∃ z, z = (m_X8_doesEvening mDays mLin mCool mDayNow mLast mDN mH mK) := ⟨_, rfl⟩
  rw [← hres] at hX
  rw [m_X8_doesEvening] at hres
  refine g_aload_n hC dX8_doesEvening_0 rfl 0 rfl rfl ?_
  refine g_get hC iw_X8_doesEvening_RX8 0 rfl rfl 19 (by decide) (List.mem_of_getElem? (i := 1) rfl) rfl rfl dX8_doesEvening_1 rfl ?_
  refine g_aload_n hC dX8_doesEvening_4 rfl 0 rfl rfl ?_
  refine g_get hC iw_X8_doesEvening_RX8 0 rfl rfl 2 (by decide) (List.mem_of_getElem? (i := 2) rfl) rfl rfl dX8_doesEvening_5 rfl ?_
  refine g_icmp_ne (tgt := 13) hC dX8_doesEvening_8 (by decide) rfl (fun c_8 => ?_) (fun c_8 => ?_)
  · rw [if_neg c_8] at hres
    refine g_iconst (v := 0) hC dX8_doesEvening_13 (by decide) rfl ?_
    refine g_istore_n (lv' := [(1, .int (0 : Int32)), (0, .ref aMO)]) hC dX8_doesEvening_14 rfl (by decide) rfl rfl ?_
    refine g_sub [1, 0] rfl ?_
    exact l_X8_doesEvening_15 D cI aMO mFault amS mDays amH mLin amK amO amD mCool mReadAt mReadDays mReadLin amRS amRH amRK amRO amRD amDN amSN mDayNow mLast mTears mWrong amTF amTFor amWB mRdn amRdL amRdE amRdD amSz amLane amSh amHands mTrace mDN mH mK mDayNow mLast hl5 hdn hC hX ((mLin.toInt - (0 : Int32).toInt).toNat + 1) (0 : Int32) mDN (Nat.lt_succ_self _) (by decide) (by exact hdn.resolve_right c_8) hres
  · rw [if_pos c_8] at hres
    refine g_iconst (v := 0) hC dX8_doesEvening_11 (by decide) rfl ?_
    subst hres
    exact g_zret hC hX rfl rfl dX8_doesEvening_12 rfl rfl
theorem iw_X8_doesWeep_RX8 : ∀ w ∈ wsX80, w ∈ wsX8_doesWeep := fun _ h => List.mem_cons_of_mem _ (List.mem_append_right _ (h))
def m_X8_doesWeep (mTears : Int32) (mSN : Nat → Int32) (mDN : Nat → Int32) (mO : Nat → Int32) (w : Int32) (l : Int32) : (Int32 × Int32 × (Nat → Int32) × (Nat → Int32)) := (if (mSN w.toNatClampNeg) = 0 then ((0 : Int32), mTears, mSN, mDN) else (if (mO l.toNatClampNeg) = w then ((1 : Int32), (mTears + (1 : Int32)), (upd mSN w.toNatClampNeg ((mSN w.toNatClampNeg) - (1 : Int32))), (upd mDN l.toNatClampNeg (m_X8_wept (mDN l.toNatClampNeg)))) else ((1 : Int32), (mTears + (1 : Int32)), (upd mSN w.toNatClampNeg ((mSN w.toNatClampNeg) - (1 : Int32))), (upd mDN l.toNatClampNeg (0 : Int32)))))
set_option maxRecDepth 100000 in
set_option maxHeartbeats 4000000 in
theorem c_X8_doesWeep (D : va_G) (cI : ClassId) (aMO : Nat) (mFault : Int32) (amS : Nat) (mDays : Int32) (amH : Nat) (mLin : Int32) (amK : Nat) (amO : Nat) (amD : Nat) (mCool : Int32) (mReadAt : Int32) (mReadDays : Int32) (mReadLin : Int32) (amRS : Nat) (amRH : Nat) (amRK : Nat) (amRO : Nat) (amRD : Nat) (amDN : Nat) (amSN : Nat) (mDayNow : Int32) (mLast : Int32) (mTears : Int32) (mWrong : Int32) (amTF : Nat) (amTFor : Nat) (amWB : Nat) (mRdn : Int32) (amRdL : Nat) (amRdE : Nat) (amRdD : Nat) (amSz : Nat) (amLane : Nat) (amSh : Nat) (amHands : Nat) (mTrace : Int32) (mSN : Nat → Int32) (mDN : Nat → Int32) (mO : Nat → Int32) (w : Int32) (l : Int32) (hw : vp_in w 4) (hl : vp_in l 5) : MC yX8_doesWeep wsX8_doesWeep ({ frames := 1, cells := 0, slots := 0, locals := 20 } : Room) D [(cI, .int)] [.ref aMO, .int w, .int l] [(aMO, .inr (8, [.int mFault, .ref amS, .int mDays, .ref amH, .int mLin, .ref amK, .ref amO, .ref amD, .int mCool, .int mReadAt, .int mReadDays, .int mReadLin, .ref amRS, .ref amRH, .ref amRK, .ref amRO, .ref amRD, .ref amDN, .ref amSN, .int mDayNow, .int mLast, .int mTears, .int mWrong, .ref amTF, .ref amTFor, .ref amWB, .int mRdn, .ref amRdL, .ref amRdE, .ref amRdD, .ref amSz, .ref amLane, .ref amSh, .ref amHands, .int mTrace])), (amSN, .inl (cI, 4, .inl mSN)), (amDN, .inl (cI, 5, .inl mDN)), (amO, .inl (cI, 5, .inl mO))] (some (.int ((m_X8_doesWeep mTears mSN mDN mO w l).1))) [(aMO, .inr (8, [.int mFault, .ref amS, .int mDays, .ref amH, .int mLin, .ref amK, .ref amO, .ref amD, .int mCool, .int mReadAt, .int mReadDays, .int mReadLin, .ref amRS, .ref amRH, .ref amRK, .ref amRO, .ref amRD, .ref amDN, .ref amSN, .int mDayNow, .int mLast, .int ((m_X8_doesWeep mTears mSN mDN mO w l).2.1), .int mWrong, .ref amTF, .ref amTFor, .ref amWB, .int mRdn, .ref amRdL, .ref amRdE, .ref amRdD, .ref amSz, .ref amLane, .ref amSh, .ref amHands, .int mTrace])), (amSN, .inl (cI, 4, .inl ((m_X8_doesWeep mTears mSN mDN mO w l).2.2.1))), (amDN, .inl (cI, 5, .inl ((m_X8_doesWeep mTears mSN mDN mO w l).2.2.2))), (amO, .inl (cI, 5, .inl mO))] := by
  refine g_entry (by decide) rfl rfl rfl rfl (Nat.le_of_ble_eq_true rfl) (lv := [(0, .ref aMO), (1, .int w), (2, .int l)]) rfl ?_
  intro X hC hX
  obtain ⟨res, hres⟩ : ∃ z, z = (m_X8_doesWeep mTears mSN mDN mO w l) := ⟨_, rfl⟩
  rw [← hres] at hX
  rw [m_X8_doesWeep] at hres
  refine g_aload_n hC dX8_doesWeep_0 rfl 0 rfl rfl ?_
  refine g_get hC iw_X8_doesWeep_RX8 0 rfl rfl 18 (by decide) (List.mem_of_getElem? (i := 1) rfl) rfl rfl dX8_doesWeep_1 rfl ?_
  refine g_iload_n hC dX8_doesWeep_4 rfl 1 rfl rfl ?_
  refine g_iald hC 1 0 rfl rfl (by exact hw) dX8_doesWeep_5 rfl ?_
  refine g_if_ne (tgt := 11) hC dX8_doesWeep_6 (by decide) rfl (fun c_6 => ?_) (fun c_6 => ?_)
  · rw [if_neg c_6] at hres
    refine g_aload_n hC dX8_doesWeep_11 rfl 0 rfl rfl ?_
    refine g_get hC iw_X8_doesWeep_RX8 0 rfl rfl 18 (by decide) (List.mem_of_getElem? (i := 1) rfl) rfl rfl dX8_doesWeep_12 rfl ?_
    refine g_iload_n hC dX8_doesWeep_15 rfl 1 rfl rfl ?_
    refine g_dup2 hC dX8_doesWeep_16 rfl rfl rfl ?_
    refine g_iald hC 1 0 rfl rfl (by exact hw) dX8_doesWeep_17 rfl ?_
    refine g_iconst (v := 1) hC dX8_doesWeep_18 (by decide) rfl ?_
    refine g_isub hC dX8_doesWeep_19 rfl ?_
    refine g_iast (ws' := [(aMO, .inr (8, [.int mFault, .ref amS, .int mDays, .ref amH, .int mLin, .ref amK, .ref amO, .ref amD, .int mCool, .int mReadAt, .int mReadDays, .int mReadLin, .ref amRS, .ref amRH, .ref amRK, .ref amRO, .ref amRD, .ref amDN, .ref amSN, .int mDayNow, .int mLast, .int mTears, .int mWrong, .ref amTF, .ref amTFor, .ref amWB, .int mRdn, .ref amRdL, .ref amRdE, .ref amRdD, .ref amSz, .ref amLane, .ref amSh, .ref amHands, .int mTrace])), (amSN, .inl (cI, 4, .inl (upd mSN w.toNatClampNeg ((mSN w.toNatClampNeg) - (1 : Int32))))), (amDN, .inl (cI, 5, .inl mDN)), (amO, .inl (cI, 5, .inl mO))]) hC 1 0 rfl rfl (by exact hw) rfl dX8_doesWeep_20 rfl ?_
    refine g_aload_n hC dX8_doesWeep_21 rfl 0 rfl rfl ?_
    refine g_dup hC dX8_doesWeep_22 rfl rfl ?_
    refine g_get hC iw_X8_doesWeep_RX8 0 rfl rfl 21 (by decide) (List.mem_of_getElem? (i := 2) rfl) rfl rfl dX8_doesWeep_23 rfl ?_
    refine g_iconst (v := 1) hC dX8_doesWeep_26 (by decide) rfl ?_
    refine g_iadd hC dX8_doesWeep_27 rfl ?_
    refine g_put (ws' := [(aMO, .inr (8, [.int mFault, .ref amS, .int mDays, .ref amH, .int mLin, .ref amK, .ref amO, .ref amD, .int mCool, .int mReadAt, .int mReadDays, .int mReadLin, .ref amRS, .ref amRH, .ref amRK, .ref amRO, .ref amRD, .ref amDN, .ref amSN, .int mDayNow, .int mLast, .int (mTears + (1 : Int32)), .int mWrong, .ref amTF, .ref amTFor, .ref amWB, .int mRdn, .ref amRdL, .ref amRdE, .ref amRdD, .ref amSz, .ref amLane, .ref amSh, .ref amHands, .int mTrace])), (amSN, .inl (cI, 4, .inl (upd mSN w.toNatClampNeg ((mSN w.toNatClampNeg) - (1 : Int32))))), (amDN, .inl (cI, 5, .inl mDN)), (amO, .inl (cI, 5, .inl mO))]) hC iw_X8_doesWeep_RX8 0 rfl rfl 21 (by decide) (List.mem_of_getElem? (i := 2) rfl) rfl tyX8 tyX8_ok nmX8 rfl rfl rfl (Nat.le_of_ble_eq_true rfl) rfl dX8_doesWeep_28 rfl ?_
    refine g_aload_n hC dX8_doesWeep_31 rfl 0 rfl rfl ?_
    refine g_get hC iw_X8_doesWeep_RX8 0 rfl rfl 17 (by decide) (List.mem_of_getElem? (i := 3) rfl) rfl rfl dX8_doesWeep_32 rfl ?_
    refine g_iload_n hC dX8_doesWeep_35 rfl 2 rfl rfl ?_
    refine g_aload_n hC dX8_doesWeep_36 rfl 0 rfl rfl ?_
    refine g_get hC iw_X8_doesWeep_RX8 0 rfl rfl 6 (by decide) (List.mem_of_getElem? (i := 4) rfl) rfl rfl dX8_doesWeep_37 rfl ?_
    refine g_iload_n hC dX8_doesWeep_40 rfl 2 rfl rfl ?_
    refine g_iald hC 3 0 rfl rfl (by exact hl) dX8_doesWeep_41 rfl ?_
    refine g_iload_n hC dX8_doesWeep_42 rfl 1 rfl rfl ?_
    refine g_icmp_ne (tgt := 58) hC dX8_doesWeep_43 (by decide) rfl (fun c_43 => ?_) (fun c_43 => ?_)
    · rw [if_neg c_43] at hres
      refine g_iconst (v := 0) hC dX8_doesWeep_58 (by decide) rfl ?_
      refine g_iast (ws' := [(aMO, .inr (8, [.int mFault, .ref amS, .int mDays, .ref amH, .int mLin, .ref amK, .ref amO, .ref amD, .int mCool, .int mReadAt, .int mReadDays, .int mReadLin, .ref amRS, .ref amRH, .ref amRK, .ref amRO, .ref amRD, .ref amDN, .ref amSN, .int mDayNow, .int mLast, .int (mTears + (1 : Int32)), .int mWrong, .ref amTF, .ref amTFor, .ref amWB, .int mRdn, .ref amRdL, .ref amRdE, .ref amRdD, .ref amSz, .ref amLane, .ref amSh, .ref amHands, .int mTrace])), (amSN, .inl (cI, 4, .inl (upd mSN w.toNatClampNeg ((mSN w.toNatClampNeg) - (1 : Int32))))), (amDN, .inl (cI, 5, .inl (upd mDN l.toNatClampNeg (0 : Int32)))), (amO, .inl (cI, 5, .inl mO))]) hC 2 0 rfl rfl (by exact hl) rfl dX8_doesWeep_59 rfl ?_
      refine g_iconst (v := 1) hC dX8_doesWeep_60 (by decide) rfl ?_
      subst hres
      exact g_zret hC hX rfl rfl dX8_doesWeep_61 rfl rfl
    · rw [if_pos c_43] at hres
      refine g_aload_n hC dX8_doesWeep_46 rfl 0 rfl rfl ?_
      refine g_get hC iw_X8_doesWeep_RX8 0 rfl rfl 17 (by decide) (List.mem_of_getElem? (i := 3) rfl) rfl rfl dX8_doesWeep_47 rfl ?_
      refine g_iload_n hC dX8_doesWeep_50 rfl 2 rfl rfl ?_
      refine g_iald hC 2 0 rfl rfl (by exact hl) dX8_doesWeep_51 rfl ?_
      refine g_callS (ws' := [(aMO, .inr (8, [.int mFault, .ref amS, .int mDays, .ref amH, .int mLin, .ref amK, .ref amO, .ref amD, .int mCool, .int mReadAt, .int mReadDays, .int mReadLin, .ref amRS, .ref amRH, .ref amRK, .ref amRO, .ref amRD, .ref amDN, .ref amSN, .int mDayNow, .int mLast, .int (mTears + (1 : Int32)), .int mWrong, .ref amTF, .ref amTFor, .ref amWB, .int mRdn, .ref amRdL, .ref amRdE, .ref amRdD, .ref amSz, .ref amLane, .ref amSh, .ref amHands, .int mTrace])), (amSN, .inl (cI, 4, .inl (upd mSN w.toNatClampNeg ((mSN w.toNatClampNeg) - (1 : Int32))))), (amDN, .inl (cI, 5, .inl mDN)), (amO, .inl (cI, 5, .inl mO))]) (st' := [.int (m_X8_wept (mDN l.toNatClampNeg)), .int l, .ref amDN]) (nw := 4) (n1 := 0) hC gX8_doesWeep_X8_wept hdS_yX8_wept (As := [.int (mDN l.toNatClampNeg)]) (rest := [.int l, .ref amDN]) (c_X8_wept D cI (mDN l.toNatClampNeg)) rfl ⟨by decide, by decide⟩ rfl [] [0, 1, 2, 3] [0, 1, 2, 3] [0] rfl rfl rfl rfl (by decide) rfl rfl (Nat.le_of_ble_eq_true rfl) dX8_doesWeep_52 rfl rfl ?_
      refine g_goto (tgt := 59) hC dX8_doesWeep_55 (by decide) ?_
      refine g_iast (ws' := [(aMO, .inr (8, [.int mFault, .ref amS, .int mDays, .ref amH, .int mLin, .ref amK, .ref amO, .ref amD, .int mCool, .int mReadAt, .int mReadDays, .int mReadLin, .ref amRS, .ref amRH, .ref amRK, .ref amRO, .ref amRD, .ref amDN, .ref amSN, .int mDayNow, .int mLast, .int (mTears + (1 : Int32)), .int mWrong, .ref amTF, .ref amTFor, .ref amWB, .int mRdn, .ref amRdL, .ref amRdE, .ref amRdD, .ref amSz, .ref amLane, .ref amSh, .ref amHands, .int mTrace])), (amSN, .inl (cI, 4, .inl (upd mSN w.toNatClampNeg ((mSN w.toNatClampNeg) - (1 : Int32))))), (amDN, .inl (cI, 5, .inl (upd mDN l.toNatClampNeg (m_X8_wept (mDN l.toNatClampNeg))))), (amO, .inl (cI, 5, .inl mO))]) hC 2 0 rfl rfl (by exact hl) rfl dX8_doesWeep_59 rfl ?_
      refine g_iconst (v := 1) hC dX8_doesWeep_60 (by decide) rfl ?_
      subst hres
      exact g_zret hC hX rfl rfl dX8_doesWeep_61 rfl rfl
  · rw [if_pos c_6] at hres
    refine g_iconst (v := 0) hC dX8_doesWeep_9 (by decide) rfl ?_
    subst hres
    exact g_zret hC hX rfl rfl dX8_doesWeep_10 rfl rfl
theorem iw_X8_span_RX8 : ∀ w ∈ wsX80, w ∈ wsX8_span := fun _ h => List.mem_cons_of_mem _ (List.mem_append_right _ (h))
def m_X8_span_32 : Nat → Int32 → Int32 → (Nat → Int32) → (Nat → Int32) → (Nat → Int32) → Int32 → Int32 → Int32 → Int32 → (Nat → Int32) → (Int32 × (Nat → Int32))
  | 0, _, _, _, _, _, _, _, _, _, _ => default
  | fu + 1, mDays, mCool, mH, mK, mD, l, d, y4, y5, z_mH => (if (10 : Int32) ≤ y5 then (y4, (upd z_mH d.toNatClampNeg (mH d.toNatClampNeg))) else (m_X8_span_32 fu mDays mCool mH mK mD l d (if (m_X8_dampAt mCool (upd z_mH d.toNatClampNeg y5) mK mD l mDays) ≤ 0 then y4 else y5) (y5 + 1) (upd z_mH d.toNatClampNeg y5)))
def m_X8_span (mDays : Int32) (mLin : Int32) (mCool : Int32) (mH : Nat → Int32) (mK : Nat → Int32) (mD : Nat → Int32) (l : Int32) (d : Int32) : (Int32 × (Nat → Int32)) := (if (m_X8_noLinen mLin l) = 0 then (if (m_X8_noDay mDays d) = 0 then (m_X8_span_32 (((10 : Int32).toInt - (0 : Int32).toInt).toNat + 1) mDays mCool mH mK mD l d (-9 : Int32) (0 : Int32) mH) else ((-1 : Int32), mH)) else ((-1 : Int32), mH))
set_option maxRecDepth 100000 in
set_option maxHeartbeats 4000000 in
theorem l_X8_span_32 {X : gX} (D : va_G) (cI : ClassId) (aMO : Nat) (mFault : Int32) (amS : Nat) (mDays : Int32) (amH : Nat) (mLin : Int32) (amK : Nat) (amO : Nat) (amD : Nat) (mCool : Int32) (mReadAt : Int32) (mReadDays : Int32) (mReadLin : Int32) (amRS : Nat) (amRH : Nat) (amRK : Nat) (amRO : Nat) (amRD : Nat) (amDN : Nat) (amSN : Nat) (mDayNow : Int32) (mLast : Int32) (mTears : Int32) (mWrong : Int32) (amTF : Nat) (amTFor : Nat) (amWB : Nat) (mRdn : Int32) (amRdL : Nat) (amRdE : Nat) (amRdD : Nat) (amSz : Nat) (amLane : Nat) (amSh : Nat) (amHands : Nat) (mTrace : Int32) (mH : Nat → Int32) (mK : Nat → Int32) (mD : Nat → Int32) (l : Int32) (d : Int32) (hl5 : mLin.toInt ≤ 5) (hd6 : mDays.toInt ≤ 6) (hC : Cx X cX8_span 6 RX8 wsX8_span D [(cI, .int)] ({ frames := 4, cells := 0, slots := 0, locals := 92 } : Room) (some .int)) {res : (Int32 × (Nat → Int32))} (hX : Rx X D (some (.int res.1)) [(aMO, .inr (8, [.int mFault, .ref amS, .int mDays, .ref amH, .int mLin, .ref amK, .ref amO, .ref amD, .int mCool, .int mReadAt, .int mReadDays, .int mReadLin, .ref amRS, .ref amRH, .ref amRK, .ref amRO, .ref amRD, .ref amDN, .ref amSN, .int mDayNow, .int mLast, .int mTears, .int mWrong, .ref amTF, .ref amTFor, .ref amWB, .int mRdn, .ref amRdL, .ref amRdE, .ref amRdD, .ref amSz, .ref amLane, .ref amSh, .ref amHands, .int mTrace])), (amH, .inl (cI, 6, .inl res.2)), (amK, .inl (cI, 5, .inl mK)), (amD, .inl (cI, 5, .inl mD))]) : ∀ (fu : Nat) (y4 : Int32) (y5 : Int32) (z_mH : Nat → Int32) (hm : ((10 : Int32).toInt - y5.toInt).toNat < fu) (h0_y5 : 0 ≤ y5.toInt) (hl : vp_in l 5) (hd : vp_in d 6) (hres : res = m_X8_span_32 fu mDays mCool mH mK mD l d y4 y5 z_mH), G X D 6 [(aMO, .inr (8, [.int mFault, .ref amS, .int mDays, .ref amH, .int mLin, .ref amK, .ref amO, .ref amD, .int mCool, .int mReadAt, .int mReadDays, .int mReadLin, .ref amRS, .ref amRH, .ref amRK, .ref amRO, .ref amRD, .ref amDN, .ref amSN, .int mDayNow, .int mLast, .int mTears, .int mWrong, .ref amTF, .ref amTFor, .ref amWB, .int mRdn, .ref amRdL, .ref amRdE, .ref amRdD, .ref amSz, .ref amLane, .ref amSh, .ref amHands, .int mTrace])), (amH, .inl (cI, 6, .inl z_mH)), (amK, .inl (cI, 5, .inl mK)), (amD, .inl (cI, 5, .inl mD))] [(0, .ref aMO), (1, .int l), (2, .int d), (3, .int (mH d.toNatClampNeg)), (4, .int y4), (5, .int y5)] 32 [] := by
  intro fu
  induction fu with
  | zero =>
    intro y4 y5 z_mH hm
    exact absurd hm (Nat.not_lt_zero _)
  | succ fu ih =>
    intro y4 y5 z_mH hm h0_y5 hl hd hres
    rw [m_X8_span_32] at hres
    refine g_iload hC dX8_span_32 5 rfl rfl ?_
    refine g_bipush (v := 10) hC dX8_span_34 (by decide) rfl ?_
    refine g_icmp_ge (tgt := 74) hC dX8_span_36 (by decide) rfl (fun c_36 => ?_) (fun c_36 => ?_)
    · rw [if_pos c_36] at hres
      refine g_aload_n hC dX8_span_74 rfl 0 rfl rfl ?_
      refine g_get hC iw_X8_span_RX8 0 rfl rfl 3 (by decide) (List.mem_of_getElem? (i := 1) rfl) rfl rfl dX8_span_75 rfl ?_
      refine g_iload_n hC dX8_span_78 rfl 2 rfl rfl ?_
      refine g_iload_n hC dX8_span_79 rfl 3 rfl rfl ?_
      refine g_iast (ws' := [(aMO, .inr (8, [.int mFault, .ref amS, .int mDays, .ref amH, .int mLin, .ref amK, .ref amO, .ref amD, .int mCool, .int mReadAt, .int mReadDays, .int mReadLin, .ref amRS, .ref amRH, .ref amRK, .ref amRO, .ref amRD, .ref amDN, .ref amSN, .int mDayNow, .int mLast, .int mTears, .int mWrong, .ref amTF, .ref amTFor, .ref amWB, .int mRdn, .ref amRdL, .ref amRdE, .ref amRdD, .ref amSz, .ref amLane, .ref amSh, .ref amHands, .int mTrace])), (amH, .inl (cI, 6, .inl (upd z_mH d.toNatClampNeg (mH d.toNatClampNeg)))), (amK, .inl (cI, 5, .inl mK)), (amD, .inl (cI, 5, .inl mD))]) hC 1 0 rfl rfl (by exact hd) rfl dX8_span_80 rfl ?_
      refine g_iload hC dX8_span_81 4 rfl rfl ?_
      subst hres
      exact g_iret hC hX rfl dX8_span_83 rfl rfl
    · rw [if_neg c_36] at hres
      refine g_aload_n hC dX8_span_39 rfl 0 rfl rfl ?_
      refine g_get hC iw_X8_span_RX8 0 rfl rfl 3 (by decide) (List.mem_of_getElem? (i := 1) rfl) rfl rfl dX8_span_40 rfl ?_
      refine g_iload_n hC dX8_span_43 rfl 2 rfl rfl ?_
      refine g_iload hC dX8_span_44 5 rfl rfl ?_
      refine g_iast (ws' := [(aMO, .inr (8, [.int mFault, .ref amS, .int mDays, .ref amH, .int mLin, .ref amK, .ref amO, .ref amD, .int mCool, .int mReadAt, .int mReadDays, .int mReadLin, .ref amRS, .ref amRH, .ref amRK, .ref amRO, .ref amRD, .ref amDN, .ref amSN, .int mDayNow, .int mLast, .int mTears, .int mWrong, .ref amTF, .ref amTFor, .ref amWB, .int mRdn, .ref amRdL, .ref amRdE, .ref amRdD, .ref amSz, .ref amLane, .ref amSh, .ref amHands, .int mTrace])), (amH, .inl (cI, 6, .inl (upd z_mH d.toNatClampNeg y5))), (amK, .inl (cI, 5, .inl mK)), (amD, .inl (cI, 5, .inl mD))]) hC 1 0 rfl rfl (by exact hd) rfl dX8_span_46 rfl ?_
      refine g_aload_n hC dX8_span_47 rfl 0 rfl rfl ?_
      refine g_iload_n hC dX8_span_48 rfl 1 rfl rfl ?_
      refine g_aload_n hC dX8_span_49 rfl 0 rfl rfl ?_
      refine g_get hC iw_X8_span_RX8 0 rfl rfl 2 (by decide) (List.mem_of_getElem? (i := 2) rfl) rfl rfl dX8_span_50 rfl ?_
      refine g_callV (ws' := [(aMO, .inr (8, [.int mFault, .ref amS, .int mDays, .ref amH, .int mLin, .ref amK, .ref amO, .ref amD, .int mCool, .int mReadAt, .int mReadDays, .int mReadLin, .ref amRS, .ref amRH, .ref amRK, .ref amRO, .ref amRD, .ref amDN, .ref amSN, .int mDayNow, .int mLast, .int mTears, .int mWrong, .ref amTF, .ref amTFor, .ref amWB, .int mRdn, .ref amRdL, .ref amRdE, .ref amRdD, .ref amSz, .ref amLane, .ref amSh, .ref amHands, .int mTrace])), (amH, .inl (cI, 6, .inl (upd z_mH d.toNatClampNeg y5))), (amK, .inl (cI, 5, .inl mK)), (amD, .inl (cI, 5, .inl mD))]) (st' := [.int (m_X8_dampAt mCool (upd z_mH d.toNatClampNeg y5) mK mD l mDays)]) (nw := 4) (n1 := 4) hC gX8_span_X8_dampAt hdV_yX8_dampAt 0 rfl rfl (As := [.int l, .int mDays]) (rest := []) (c_X8_dampAt D cI aMO mFault amS mDays amH mLin amK amO amD mCool mReadAt mReadDays mReadLin amRS amRH amRK amRO amRD amDN amSN mDayNow mLast mTears mWrong amTF amTFor amWB mRdn amRdL amRdE amRdD amSz amLane amSh amHands mTrace (upd z_mH d.toNatClampNeg y5) mK mD l mDays (by exact hl) (by exact hd6)) rfl ⟨by decide, by decide⟩ rfl [0, 1, 2, 3] [] [0, 1, 2, 3] [0] rfl rfl rfl rfl (by decide) rfl rfl (Nat.le_of_ble_eq_true rfl) dX8_span_53 rfl rfl ?_
      have K_56 : ∀ vK : Int32, vK = (if (m_X8_dampAt mCool (upd z_mH d.toNatClampNeg y5) mK mD l mDays) ≤ 0 then y4 else y5) → G X D 6 [(aMO, .inr (8, [.int mFault, .ref amS, .int mDays, .ref amH, .int mLin, .ref amK, .ref amO, .ref amD, .int mCool, .int mReadAt, .int mReadDays, .int mReadLin, .ref amRS, .ref amRH, .ref amRK, .ref amRO, .ref amRD, .ref amDN, .ref amSN, .int mDayNow, .int mLast, .int mTears, .int mWrong, .ref amTF, .ref amTFor, .ref amWB, .int mRdn, .ref amRdL, .ref amRdE, .ref amRdD, .ref amSz, .ref amLane, .ref amSh, .ref amHands, .int mTrace])), (amH, .inl (cI, 6, .inl (upd z_mH d.toNatClampNeg y5))), (amK, .inl (cI, 5, .inl mK)), (amD, .inl (cI, 5, .inl mD))] [(0, .ref aMO), (1, .int l), (2, .int d), (3, .int (mH d.toNatClampNeg)), (4, .int y4), (5, .int y5)] 66 (.int vK :: []) := by
        intro vK hvK
        subst hvK
        refine g_istore (lv' := [(4, .int (if (m_X8_dampAt mCool (upd z_mH d.toNatClampNeg y5) mK mD l mDays) ≤ 0 then y4 else y5)), (0, .ref aMO), (1, .int l), (2, .int d), (3, .int (mH d.toNatClampNeg)), (5, .int y5)]) hC dX8_span_66 (by decide) rfl rfl ?_
        refine g_iinc (v := (y5 + 1)) (lv' := [(5, .int (y5 + 1)), (4, .int (if (m_X8_dampAt mCool (upd z_mH d.toNatClampNeg y5) mK mD l mDays) ≤ 0 then y4 else y5)), (0, .ref aMO), (1, .int l), (2, .int d), (3, .int (mH d.toNatClampNeg))]) hC dX8_span_68 5 rfl rfl (by decide) rfl rfl ?_
        refine g_goto (tgt := 32) hC dX8_span_71 (by decide) ?_
        refine g_sub [2, 3, 4, 5, 1, 0] rfl ?_
        exact ih (if (m_X8_dampAt mCool (upd z_mH d.toNatClampNeg y5) mK mD l mDays) ≤ 0 then y4 else y5) (y5 + 1) (upd z_mH d.toNatClampNeg y5) (up_dec c_36 hm) (up_nn c_36 h0_y5) (by assumption) (by assumption) hres
      refine g_if_le (tgt := 64) hC dX8_span_56 (by decide) rfl (fun c_56 => ?_) (fun c_56 => ?_)
      · refine g_iload hC dX8_span_64 4 rfl rfl ?_
        exact K_56 _ (if_pos c_56).symm
      · refine g_iload hC dX8_span_59 5 rfl rfl ?_
        refine g_goto (tgt := 66) hC dX8_span_61 (by decide) ?_
        exact K_56 _ (if_neg c_56).symm
set_option maxRecDepth 100000 in
set_option maxHeartbeats 4000000 in
theorem c_X8_span (D : va_G) (cI : ClassId) (aMO : Nat) (mFault : Int32) (amS : Nat) (mDays : Int32) (amH : Nat) (mLin : Int32) (amK : Nat) (amO : Nat) (amD : Nat) (mCool : Int32) (mReadAt : Int32) (mReadDays : Int32) (mReadLin : Int32) (amRS : Nat) (amRH : Nat) (amRK : Nat) (amRO : Nat) (amRD : Nat) (amDN : Nat) (amSN : Nat) (mDayNow : Int32) (mLast : Int32) (mTears : Int32) (mWrong : Int32) (amTF : Nat) (amTFor : Nat) (amWB : Nat) (mRdn : Int32) (amRdL : Nat) (amRdE : Nat) (amRdD : Nat) (amSz : Nat) (amLane : Nat) (amSh : Nat) (amHands : Nat) (mTrace : Int32) (mH : Nat → Int32) (mK : Nat → Int32) (mD : Nat → Int32) (l : Int32) (d : Int32) (hl5 : mLin.toInt ≤ 5) (hd6 : mDays.toInt ≤ 6) : MC yX8_span wsX8_span ({ frames := 4, cells := 0, slots := 0, locals := 92 } : Room) D [(cI, .int)] [.ref aMO, .int l, .int d] [(aMO, .inr (8, [.int mFault, .ref amS, .int mDays, .ref amH, .int mLin, .ref amK, .ref amO, .ref amD, .int mCool, .int mReadAt, .int mReadDays, .int mReadLin, .ref amRS, .ref amRH, .ref amRK, .ref amRO, .ref amRD, .ref amDN, .ref amSN, .int mDayNow, .int mLast, .int mTears, .int mWrong, .ref amTF, .ref amTFor, .ref amWB, .int mRdn, .ref amRdL, .ref amRdE, .ref amRdD, .ref amSz, .ref amLane, .ref amSh, .ref amHands, .int mTrace])), (amH, .inl (cI, 6, .inl mH)), (amK, .inl (cI, 5, .inl mK)), (amD, .inl (cI, 5, .inl mD))] (some (.int ((m_X8_span mDays mLin mCool mH mK mD l d).1))) [(aMO, .inr (8, [.int mFault, .ref amS, .int mDays, .ref amH, .int mLin, .ref amK, .ref amO, .ref amD, .int mCool, .int mReadAt, .int mReadDays, .int mReadLin, .ref amRS, .ref amRH, .ref amRK, .ref amRO, .ref amRD, .ref amDN, .ref amSN, .int mDayNow, .int mLast, .int mTears, .int mWrong, .ref amTF, .ref amTFor, .ref amWB, .int mRdn, .ref amRdL, .ref amRdE, .ref amRdD, .ref amSz, .ref amLane, .ref amSh, .ref amHands, .int mTrace])), (amH, .inl (cI, 6, .inl ((m_X8_span mDays mLin mCool mH mK mD l d).2))), (amK, .inl (cI, 5, .inl mK)), (amD, .inl (cI, 5, .inl mD))] := by
  refine g_entry (by decide) rfl rfl rfl rfl (Nat.le_of_ble_eq_true rfl) (lv := [(0, .ref aMO), (1, .int l), (2, .int d)]) rfl ?_
  intro X hC hX
  obtain ⟨res, hres⟩ : ∃ z, z = (m_X8_span mDays mLin mCool mH mK mD l d) := ⟨_, rfl⟩
  rw [← hres] at hX
  rw [m_X8_span] at hres
  refine g_aload_n hC dX8_span_0 rfl 0 rfl rfl ?_
  refine g_iload_n hC dX8_span_1 rfl 1 rfl rfl ?_
  refine g_callV (ws' := [(aMO, .inr (8, [.int mFault, .ref amS, .int mDays, .ref amH, .int mLin, .ref amK, .ref amO, .ref amD, .int mCool, .int mReadAt, .int mReadDays, .int mReadLin, .ref amRS, .ref amRH, .ref amRK, .ref amRO, .ref amRD, .ref amDN, .ref amSN, .int mDayNow, .int mLast, .int mTears, .int mWrong, .ref amTF, .ref amTFor, .ref amWB, .int mRdn, .ref amRdL, .ref amRdE, .ref amRdD, .ref amSz, .ref amLane, .ref amSh, .ref amHands, .int mTrace])), (amH, .inl (cI, 6, .inl mH)), (amK, .inl (cI, 5, .inl mK)), (amD, .inl (cI, 5, .inl mD))]) (st' := [.int (m_X8_noLinen mLin l)]) (nw := 4) (n1 := 1) hC gX8_span_X8_noLinen hdV_yX8_noLinen 0 rfl rfl (As := [.int l]) (rest := []) (c_X8_noLinen D cI aMO mFault amS mDays amH mLin amK amO amD mCool mReadAt mReadDays mReadLin amRS amRH amRK amRO amRD amDN amSN mDayNow mLast mTears mWrong amTF amTFor amWB mRdn amRdL amRdE amRdD amSz amLane amSh amHands mTrace l) rfl ⟨by decide, by decide⟩ rfl [0] [1, 2, 3] [3, 0, 1, 2] [0] rfl rfl rfl rfl (by decide) rfl rfl (Nat.le_of_ble_eq_true rfl) dX8_span_2 rfl rfl ?_
  refine g_if_ne (tgt := 16) hC dX8_span_5 (by decide) rfl (fun c_5 => ?_) (fun c_5 => ?_)
  · rw [if_neg c_5] at hres
    refine g_iconst (v := -1) hC dX8_span_16 (by decide) rfl ?_
    subst hres
    exact g_iret hC hX rfl dX8_span_17 rfl rfl
  · rw [if_pos c_5] at hres
    refine g_aload_n hC dX8_span_8 rfl 0 rfl rfl ?_
    refine g_iload_n hC dX8_span_9 rfl 2 rfl rfl ?_
    refine g_callV (ws' := [(aMO, .inr (8, [.int mFault, .ref amS, .int mDays, .ref amH, .int mLin, .ref amK, .ref amO, .ref amD, .int mCool, .int mReadAt, .int mReadDays, .int mReadLin, .ref amRS, .ref amRH, .ref amRK, .ref amRO, .ref amRD, .ref amDN, .ref amSN, .int mDayNow, .int mLast, .int mTears, .int mWrong, .ref amTF, .ref amTFor, .ref amWB, .int mRdn, .ref amRdL, .ref amRdE, .ref amRdD, .ref amSz, .ref amLane, .ref amSh, .ref amHands, .int mTrace])), (amH, .inl (cI, 6, .inl mH)), (amK, .inl (cI, 5, .inl mK)), (amD, .inl (cI, 5, .inl mD))]) (st' := [.int (m_X8_noDay mDays d)]) (nw := 4) (n1 := 1) hC gX8_span_X8_noDay hdV_yX8_noDay 0 rfl rfl (As := [.int d]) (rest := []) (c_X8_noDay D cI aMO mFault amS mDays amH mLin amK amO amD mCool mReadAt mReadDays mReadLin amRS amRH amRK amRO amRD amDN amSN mDayNow mLast mTears mWrong amTF amTFor amWB mRdn amRdL amRdE amRdD amSz amLane amSh amHands mTrace d) rfl ⟨by decide, by decide⟩ rfl [0] [1, 2, 3] [3, 0, 1, 2] [0] rfl rfl rfl rfl (by decide) rfl rfl (Nat.le_of_ble_eq_true rfl) dX8_span_10 rfl rfl ?_
    refine g_if_eq (tgt := 18) hC dX8_span_13 (by decide) rfl (fun c_13 => ?_) (fun c_13 => ?_)
    · rw [if_pos c_13] at hres
      refine g_aload_n hC dX8_span_18 rfl 0 rfl rfl ?_
      refine g_get hC iw_X8_span_RX8 0 rfl rfl 3 (by decide) (List.mem_of_getElem? (i := 1) rfl) rfl rfl dX8_span_19 rfl ?_
      refine g_iload_n hC dX8_span_22 rfl 2 rfl rfl ?_
      refine g_iald hC 1 0 rfl rfl (by exact nd_ok c_13 hd6) dX8_span_23 rfl ?_
      refine g_istore_n (lv' := [(3, .int (mH d.toNatClampNeg)), (0, .ref aMO), (1, .int l), (2, .int d)]) hC dX8_span_24 rfl (by decide) rfl rfl ?_
      refine g_bipush (v := -9) hC dX8_span_25 (by decide) rfl ?_
      refine g_istore (lv' := [(4, .int (-9 : Int32)), (3, .int (mH d.toNatClampNeg)), (0, .ref aMO), (1, .int l), (2, .int d)]) hC dX8_span_27 (by decide) rfl rfl ?_
      refine g_iconst (v := 0) hC dX8_span_29 (by decide) rfl ?_
      refine g_istore (lv' := [(5, .int (0 : Int32)), (4, .int (-9 : Int32)), (3, .int (mH d.toNatClampNeg)), (0, .ref aMO), (1, .int l), (2, .int d)]) hC dX8_span_30 (by decide) rfl rfl ?_
      refine g_sub [3, 4, 5, 2, 1, 0] rfl ?_
      exact l_X8_span_32 D cI aMO mFault amS mDays amH mLin amK amO amD mCool mReadAt mReadDays mReadLin amRS amRH amRK amRO amRD amDN amSN mDayNow mLast mTears mWrong amTF amTFor amWB mRdn amRdL amRdE amRdD amSz amLane amSh amHands mTrace mH mK mD l d hl5 hd6 hC hX (((10 : Int32).toInt - (0 : Int32).toInt).toNat + 1) (-9 : Int32) (0 : Int32) mH (Nat.lt_succ_self _) (by decide) (by exact nl_ok (by assumption) (by assumption)) (by exact nd_ok (by assumption) (by assumption)) hres
    · rw [if_neg c_13] at hres
      refine g_iconst (v := -1) hC dX8_span_16 (by decide) rfl ?_
      subst hres
      exact g_iret hC hX rfl dX8_span_17 rfl rfl
theorem iw_X8_reading_RX8 : ∀ w ∈ wsX80, w ∈ wsX8_reading := fun _ h => List.mem_cons_of_mem _ (List.mem_append_right _ (h))
def m_X8_reading (mDays : Int32) (mLin : Int32) (mRdn : Int32) (mRdL : Nat → Int32) (mRdE : Nat → Int32) (mRdD : Nat → Int32) (l : Int32) (t : Int32) (v : Int32) : (Int32 × Int32 × (Nat → Int32) × (Nat → Int32) × (Nat → Int32)) := (if (m_X8_noLinen mLin l) = 0 then (if (m_X8_in t.toInt64 (0 : Int64) mDays.toInt64) = 0 then ((-2 : Int32), mRdn, mRdL, mRdE, mRdD) else (if (m_X8_in v.toInt64 (0 : Int64) (9 : Int64)) = 0 then ((-2 : Int32), mRdn, mRdL, mRdE, mRdD) else (if mRdn = (8 : Int32) then ((-4 : Int32), mRdn, mRdL, mRdE, mRdD) else (((mRdn + (1 : Int32)) - (1 : Int32)), (mRdn + (1 : Int32)), (upd mRdL mRdn.toNatClampNeg l), (upd mRdE mRdn.toNatClampNeg t), (upd mRdD mRdn.toNatClampNeg v))))) else ((-1 : Int32), mRdn, mRdL, mRdE, mRdD))
set_option maxRecDepth 100000 in
set_option maxHeartbeats 4000000 in
theorem c_X8_reading (D : va_G) (cI : ClassId) (aMO : Nat) (mFault : Int32) (amS : Nat) (mDays : Int32) (amH : Nat) (mLin : Int32) (amK : Nat) (amO : Nat) (amD : Nat) (mCool : Int32) (mReadAt : Int32) (mReadDays : Int32) (mReadLin : Int32) (amRS : Nat) (amRH : Nat) (amRK : Nat) (amRO : Nat) (amRD : Nat) (amDN : Nat) (amSN : Nat) (mDayNow : Int32) (mLast : Int32) (mTears : Int32) (mWrong : Int32) (amTF : Nat) (amTFor : Nat) (amWB : Nat) (mRdn : Int32) (amRdL : Nat) (amRdE : Nat) (amRdD : Nat) (amSz : Nat) (amLane : Nat) (amSh : Nat) (amHands : Nat) (mTrace : Int32) (mRdL : Nat → Int32) (mRdE : Nat → Int32) (mRdD : Nat → Int32) (l : Int32) (t : Int32) (v : Int32) (hl5 : mLin.toInt ≤ 5) (hd6 : mDays.toInt ≤ 6) (hn0 : 0 ≤ mRdn.toInt) (hn8 : mRdn.toInt ≤ 8) : MC yX8_reading wsX8_reading ({ frames := 2, cells := 0, slots := 0, locals := 46 } : Room) D [(cI, .int)] [.ref aMO, .int l, .int t, .int v] [(aMO, .inr (8, [.int mFault, .ref amS, .int mDays, .ref amH, .int mLin, .ref amK, .ref amO, .ref amD, .int mCool, .int mReadAt, .int mReadDays, .int mReadLin, .ref amRS, .ref amRH, .ref amRK, .ref amRO, .ref amRD, .ref amDN, .ref amSN, .int mDayNow, .int mLast, .int mTears, .int mWrong, .ref amTF, .ref amTFor, .ref amWB, .int mRdn, .ref amRdL, .ref amRdE, .ref amRdD, .ref amSz, .ref amLane, .ref amSh, .ref amHands, .int mTrace])), (amRdL, .inl (cI, 8, .inl mRdL)), (amRdE, .inl (cI, 8, .inl mRdE)), (amRdD, .inl (cI, 8, .inl mRdD))] (some (.int ((m_X8_reading mDays mLin mRdn mRdL mRdE mRdD l t v).1))) [(aMO, .inr (8, [.int mFault, .ref amS, .int mDays, .ref amH, .int mLin, .ref amK, .ref amO, .ref amD, .int mCool, .int mReadAt, .int mReadDays, .int mReadLin, .ref amRS, .ref amRH, .ref amRK, .ref amRO, .ref amRD, .ref amDN, .ref amSN, .int mDayNow, .int mLast, .int mTears, .int mWrong, .ref amTF, .ref amTFor, .ref amWB, .int ((m_X8_reading mDays mLin mRdn mRdL mRdE mRdD l t v).2.1), .ref amRdL, .ref amRdE, .ref amRdD, .ref amSz, .ref amLane, .ref amSh, .ref amHands, .int mTrace])), (amRdL, .inl (cI, 8, .inl ((m_X8_reading mDays mLin mRdn mRdL mRdE mRdD l t v).2.2.1))), (amRdE, .inl (cI, 8, .inl ((m_X8_reading mDays mLin mRdn mRdL mRdE mRdD l t v).2.2.2.1))), (amRdD, .inl (cI, 8, .inl ((m_X8_reading mDays mLin mRdn mRdL mRdE mRdD l t v).2.2.2.2)))] := by
  refine g_entry (by decide) rfl rfl rfl rfl (Nat.le_of_ble_eq_true rfl) (lv := [(0, .ref aMO), (1, .int l), (2, .int t), (3, .int v)]) rfl ?_
  intro X hC hX
  obtain ⟨res, hres⟩ : ∃ z, z = (m_X8_reading mDays mLin mRdn mRdL mRdE mRdD l t v) := ⟨_, rfl⟩
  rw [← hres] at hX
  rw [m_X8_reading] at hres
  refine g_aload_n hC dX8_reading_0 rfl 0 rfl rfl ?_
  refine g_iload_n hC dX8_reading_1 rfl 1 rfl rfl ?_
  refine g_callV (ws' := [(aMO, .inr (8, [.int mFault, .ref amS, .int mDays, .ref amH, .int mLin, .ref amK, .ref amO, .ref amD, .int mCool, .int mReadAt, .int mReadDays, .int mReadLin, .ref amRS, .ref amRH, .ref amRK, .ref amRO, .ref amRD, .ref amDN, .ref amSN, .int mDayNow, .int mLast, .int mTears, .int mWrong, .ref amTF, .ref amTFor, .ref amWB, .int mRdn, .ref amRdL, .ref amRdE, .ref amRdD, .ref amSz, .ref amLane, .ref amSh, .ref amHands, .int mTrace])), (amRdL, .inl (cI, 8, .inl mRdL)), (amRdE, .inl (cI, 8, .inl mRdE)), (amRdD, .inl (cI, 8, .inl mRdD))]) (st' := [.int (m_X8_noLinen mLin l)]) (nw := 4) (n1 := 1) hC gX8_reading_X8_noLinen hdV_yX8_noLinen 0 rfl rfl (As := [.int l]) (rest := []) (c_X8_noLinen D cI aMO mFault amS mDays amH mLin amK amO amD mCool mReadAt mReadDays mReadLin amRS amRH amRK amRO amRD amDN amSN mDayNow mLast mTears mWrong amTF amTFor amWB mRdn amRdL amRdE amRdD amSz amLane amSh amHands mTrace l) rfl ⟨by decide, by decide⟩ rfl [0] [1, 2, 3] [3, 0, 1, 2] [0] rfl rfl rfl rfl (by decide) rfl rfl (Nat.le_of_ble_eq_true rfl) dX8_reading_2 rfl rfl ?_
  refine g_if_eq (tgt := 10) hC dX8_reading_5 (by decide) rfl (fun c_5 => ?_) (fun c_5 => ?_)
  · rw [if_pos c_5] at hres
    refine g_iload_n hC dX8_reading_10 rfl 2 rfl rfl ?_
    refine g_i2l hC dX8_reading_11 rfl ?_
    refine g_lconst (v := 0) hC dX8_reading_12 (by decide) rfl ?_
    refine g_aload_n hC dX8_reading_13 rfl 0 rfl rfl ?_
    refine g_get hC iw_X8_reading_RX8 0 rfl rfl 2 (by decide) (List.mem_of_getElem? (i := 1) rfl) rfl rfl dX8_reading_14 rfl ?_
    refine g_i2l hC dX8_reading_17 rfl ?_
    refine g_callS (ws' := [(aMO, .inr (8, [.int mFault, .ref amS, .int mDays, .ref amH, .int mLin, .ref amK, .ref amO, .ref amD, .int mCool, .int mReadAt, .int mReadDays, .int mReadLin, .ref amRS, .ref amRH, .ref amRK, .ref amRO, .ref amRD, .ref amDN, .ref amSN, .int mDayNow, .int mLast, .int mTears, .int mWrong, .ref amTF, .ref amTFor, .ref amWB, .int mRdn, .ref amRdL, .ref amRdE, .ref amRdD, .ref amSz, .ref amLane, .ref amSh, .ref amHands, .int mTrace])), (amRdL, .inl (cI, 8, .inl mRdL)), (amRdE, .inl (cI, 8, .inl mRdE)), (amRdD, .inl (cI, 8, .inl mRdD))]) (st' := [.int (m_X8_in t.toInt64 (0 : Int64) mDays.toInt64)]) (nw := 4) (n1 := 0) hC gX8_reading_X8_in hdS_yX8_in (As := [.long t.toInt64, .long (0 : Int64), .long mDays.toInt64]) (rest := []) (c_X8_in D cI t.toInt64 (0 : Int64) mDays.toInt64) rfl ⟨by decide, by decide⟩ rfl [] [0, 1, 2, 3] [0, 1, 2, 3] [0] rfl rfl rfl rfl (by decide) rfl rfl (Nat.le_of_ble_eq_true rfl) dX8_reading_18 rfl rfl ?_
    refine g_if_eq (tgt := 36) hC dX8_reading_21 (by decide) rfl (fun c_21 => ?_) (fun c_21 => ?_)
    · rw [if_pos c_21] at hres
      refine g_bipush (v := -2) hC dX8_reading_36 (by decide) rfl ?_
      subst hres
      exact g_iret hC hX rfl dX8_reading_38 rfl rfl
    · rw [if_neg c_21] at hres
      refine g_iload_n hC dX8_reading_24 rfl 3 rfl rfl ?_
      refine g_i2l hC dX8_reading_25 rfl ?_
      refine g_lconst (v := 0) hC dX8_reading_26 (by decide) rfl ?_
      refine g_ldc2 (v := 9) hC (List.mem_of_getElem? (i := 2) rfl) dX8_reading_27 rfl ?_
      refine g_callS (ws' := [(aMO, .inr (8, [.int mFault, .ref amS, .int mDays, .ref amH, .int mLin, .ref amK, .ref amO, .ref amD, .int mCool, .int mReadAt, .int mReadDays, .int mReadLin, .ref amRS, .ref amRH, .ref amRK, .ref amRO, .ref amRD, .ref amDN, .ref amSN, .int mDayNow, .int mLast, .int mTears, .int mWrong, .ref amTF, .ref amTFor, .ref amWB, .int mRdn, .ref amRdL, .ref amRdE, .ref amRdD, .ref amSz, .ref amLane, .ref amSh, .ref amHands, .int mTrace])), (amRdL, .inl (cI, 8, .inl mRdL)), (amRdE, .inl (cI, 8, .inl mRdE)), (amRdD, .inl (cI, 8, .inl mRdD))]) (st' := [.int (m_X8_in v.toInt64 (0 : Int64) (9 : Int64))]) (nw := 4) (n1 := 0) hC gX8_reading_X8_in hdS_yX8_in (As := [.long v.toInt64, .long (0 : Int64), .long (9 : Int64)]) (rest := []) (c_X8_in D cI v.toInt64 (0 : Int64) (9 : Int64)) rfl ⟨by decide, by decide⟩ rfl [] [0, 1, 2, 3] [0, 1, 2, 3] [0] rfl rfl rfl rfl (by decide) rfl rfl (Nat.le_of_ble_eq_true rfl) dX8_reading_30 rfl rfl ?_
      refine g_if_ne (tgt := 39) hC dX8_reading_33 (by decide) rfl (fun c_33 => ?_) (fun c_33 => ?_)
      · rw [if_neg c_33] at hres
        refine g_aload_n hC dX8_reading_39 rfl 0 rfl rfl ?_
        refine g_get hC iw_X8_reading_RX8 0 rfl rfl 26 (by decide) (List.mem_of_getElem? (i := 3) rfl) rfl rfl dX8_reading_40 rfl ?_
        refine g_bipush (v := 8) hC dX8_reading_43 (by decide) rfl ?_
        refine g_icmp_ne (tgt := 51) hC dX8_reading_45 (by decide) rfl (fun c_45 => ?_) (fun c_45 => ?_)
        · rw [if_neg c_45] at hres
          refine g_aload_n hC dX8_reading_51 rfl 0 rfl rfl ?_
          refine g_get hC iw_X8_reading_RX8 0 rfl rfl 27 (by decide) (List.mem_of_getElem? (i := 4) rfl) rfl rfl dX8_reading_52 rfl ?_
          refine g_aload_n hC dX8_reading_55 rfl 0 rfl rfl ?_
          refine g_get hC iw_X8_reading_RX8 0 rfl rfl 26 (by decide) (List.mem_of_getElem? (i := 3) rfl) rfl rfl dX8_reading_56 rfl ?_
          refine g_iload_n hC dX8_reading_59 rfl 1 rfl rfl ?_
          refine g_iast (ws' := [(aMO, .inr (8, [.int mFault, .ref amS, .int mDays, .ref amH, .int mLin, .ref amK, .ref amO, .ref amD, .int mCool, .int mReadAt, .int mReadDays, .int mReadLin, .ref amRS, .ref amRH, .ref amRK, .ref amRO, .ref amRD, .ref amDN, .ref amSN, .int mDayNow, .int mLast, .int mTears, .int mWrong, .ref amTF, .ref amTFor, .ref amWB, .int mRdn, .ref amRdL, .ref amRdE, .ref amRdD, .ref amSz, .ref amLane, .ref amSh, .ref amHands, .int mTrace])), (amRdL, .inl (cI, 8, .inl (upd mRdL mRdn.toNatClampNeg l))), (amRdE, .inl (cI, 8, .inl mRdE)), (amRdD, .inl (cI, 8, .inl mRdD))]) hC 1 0 rfl rfl (by exact rd_ok hn0 hn8 c_45) rfl dX8_reading_60 rfl ?_
          refine g_aload_n hC dX8_reading_61 rfl 0 rfl rfl ?_
          refine g_get hC iw_X8_reading_RX8 0 rfl rfl 28 (by decide) (List.mem_of_getElem? (i := 5) rfl) rfl rfl dX8_reading_62 rfl ?_
          refine g_aload_n hC dX8_reading_65 rfl 0 rfl rfl ?_
          refine g_get hC iw_X8_reading_RX8 0 rfl rfl 26 (by decide) (List.mem_of_getElem? (i := 3) rfl) rfl rfl dX8_reading_66 rfl ?_
          refine g_iload_n hC dX8_reading_69 rfl 2 rfl rfl ?_
          refine g_iast (ws' := [(aMO, .inr (8, [.int mFault, .ref amS, .int mDays, .ref amH, .int mLin, .ref amK, .ref amO, .ref amD, .int mCool, .int mReadAt, .int mReadDays, .int mReadLin, .ref amRS, .ref amRH, .ref amRK, .ref amRO, .ref amRD, .ref amDN, .ref amSN, .int mDayNow, .int mLast, .int mTears, .int mWrong, .ref amTF, .ref amTFor, .ref amWB, .int mRdn, .ref amRdL, .ref amRdE, .ref amRdD, .ref amSz, .ref amLane, .ref amSh, .ref amHands, .int mTrace])), (amRdL, .inl (cI, 8, .inl (upd mRdL mRdn.toNatClampNeg l))), (amRdE, .inl (cI, 8, .inl (upd mRdE mRdn.toNatClampNeg t))), (amRdD, .inl (cI, 8, .inl mRdD))]) hC 2 0 rfl rfl (by exact rd_ok hn0 hn8 c_45) rfl dX8_reading_70 rfl ?_
          refine g_aload_n hC dX8_reading_71 rfl 0 rfl rfl ?_
          refine g_get hC iw_X8_reading_RX8 0 rfl rfl 29 (by decide) (List.mem_of_getElem? (i := 6) rfl) rfl rfl dX8_reading_72 rfl ?_
          refine g_aload_n hC dX8_reading_75 rfl 0 rfl rfl ?_
          refine g_get hC iw_X8_reading_RX8 0 rfl rfl 26 (by decide) (List.mem_of_getElem? (i := 3) rfl) rfl rfl dX8_reading_76 rfl ?_
          refine g_iload_n hC dX8_reading_79 rfl 3 rfl rfl ?_
          refine g_iast (ws' := [(aMO, .inr (8, [.int mFault, .ref amS, .int mDays, .ref amH, .int mLin, .ref amK, .ref amO, .ref amD, .int mCool, .int mReadAt, .int mReadDays, .int mReadLin, .ref amRS, .ref amRH, .ref amRK, .ref amRO, .ref amRD, .ref amDN, .ref amSN, .int mDayNow, .int mLast, .int mTears, .int mWrong, .ref amTF, .ref amTFor, .ref amWB, .int mRdn, .ref amRdL, .ref amRdE, .ref amRdD, .ref amSz, .ref amLane, .ref amSh, .ref amHands, .int mTrace])), (amRdL, .inl (cI, 8, .inl (upd mRdL mRdn.toNatClampNeg l))), (amRdE, .inl (cI, 8, .inl (upd mRdE mRdn.toNatClampNeg t))), (amRdD, .inl (cI, 8, .inl (upd mRdD mRdn.toNatClampNeg v)))]) hC 3 0 rfl rfl (by exact rd_ok hn0 hn8 c_45) rfl dX8_reading_80 rfl ?_
          refine g_aload_n hC dX8_reading_81 rfl 0 rfl rfl ?_
          refine g_dup hC dX8_reading_82 rfl rfl ?_
          refine g_get hC iw_X8_reading_RX8 0 rfl rfl 26 (by decide) (List.mem_of_getElem? (i := 3) rfl) rfl rfl dX8_reading_83 rfl ?_
          refine g_iconst (v := 1) hC dX8_reading_86 (by decide) rfl ?_
          refine g_iadd hC dX8_reading_87 rfl ?_
          refine g_put (ws' := [(aMO, .inr (8, [.int mFault, .ref amS, .int mDays, .ref amH, .int mLin, .ref amK, .ref amO, .ref amD, .int mCool, .int mReadAt, .int mReadDays, .int mReadLin, .ref amRS, .ref amRH, .ref amRK, .ref amRO, .ref amRD, .ref amDN, .ref amSN, .int mDayNow, .int mLast, .int mTears, .int mWrong, .ref amTF, .ref amTFor, .ref amWB, .int (mRdn + (1 : Int32)), .ref amRdL, .ref amRdE, .ref amRdD, .ref amSz, .ref amLane, .ref amSh, .ref amHands, .int mTrace])), (amRdL, .inl (cI, 8, .inl (upd mRdL mRdn.toNatClampNeg l))), (amRdE, .inl (cI, 8, .inl (upd mRdE mRdn.toNatClampNeg t))), (amRdD, .inl (cI, 8, .inl (upd mRdD mRdn.toNatClampNeg v)))]) hC iw_X8_reading_RX8 0 rfl rfl 26 (by decide) (List.mem_of_getElem? (i := 3) rfl) rfl tyX8 tyX8_ok nmX8 rfl rfl rfl (Nat.le_of_ble_eq_true rfl) rfl dX8_reading_88 rfl ?_
          refine g_aload_n hC dX8_reading_91 rfl 0 rfl rfl ?_
          refine g_get hC iw_X8_reading_RX8 0 rfl rfl 26 (by decide) (List.mem_of_getElem? (i := 3) rfl) rfl rfl dX8_reading_92 rfl ?_
          refine g_iconst (v := 1) hC dX8_reading_95 (by decide) rfl ?_
          refine g_isub hC dX8_reading_96 rfl ?_
          subst hres
          exact g_iret hC hX rfl dX8_reading_97 rfl rfl
        · rw [if_pos c_45] at hres
          refine g_bipush (v := -4) hC dX8_reading_48 (by decide) rfl ?_
          subst hres
          exact g_iret hC hX rfl dX8_reading_50 rfl rfl
      · rw [if_pos c_33] at hres
        refine g_bipush (v := -2) hC dX8_reading_36 (by decide) rfl ?_
        subst hres
        exact g_iret hC hX rfl dX8_reading_38 rfl rfl
  · rw [if_neg c_5] at hres
    refine g_iconst (v := -1) hC dX8_reading_8 (by decide) rfl ?_
    subst hres
    exact g_iret hC hX rfl dX8_reading_9 rfl rfl
theorem iw_X8_back_RX8 : ∀ w ∈ wsX80, w ∈ wsX8_back := fun _ h => List.mem_cons_of_mem _ (List.mem_append_right _ (h))
def m_X8_back (mRdn : Int32) (k : Int32) : (Int32 × Int32) := (if (m_X8_in k.toInt64 (0 : Int64) mRdn.toInt64) = 0 then ((-2 : Int32), mRdn) else ((mRdn - k), (mRdn - k)))
set_option maxRecDepth 100000 in
set_option maxHeartbeats 4000000 in
theorem c_X8_back (D : va_G) (cI : ClassId) (aMO : Nat) (mFault : Int32) (amS : Nat) (mDays : Int32) (amH : Nat) (mLin : Int32) (amK : Nat) (amO : Nat) (amD : Nat) (mCool : Int32) (mReadAt : Int32) (mReadDays : Int32) (mReadLin : Int32) (amRS : Nat) (amRH : Nat) (amRK : Nat) (amRO : Nat) (amRD : Nat) (amDN : Nat) (amSN : Nat) (mDayNow : Int32) (mLast : Int32) (mTears : Int32) (mWrong : Int32) (amTF : Nat) (amTFor : Nat) (amWB : Nat) (mRdn : Int32) (amRdL : Nat) (amRdE : Nat) (amRdD : Nat) (amSz : Nat) (amLane : Nat) (amSh : Nat) (amHands : Nat) (mTrace : Int32) (k : Int32) : MC yX8_back wsX8_back ({ frames := 1, cells := 0, slots := 0, locals := 25 } : Room) D [(cI, .int)] [.ref aMO, .int k] [(aMO, .inr (8, [.int mFault, .ref amS, .int mDays, .ref amH, .int mLin, .ref amK, .ref amO, .ref amD, .int mCool, .int mReadAt, .int mReadDays, .int mReadLin, .ref amRS, .ref amRH, .ref amRK, .ref amRO, .ref amRD, .ref amDN, .ref amSN, .int mDayNow, .int mLast, .int mTears, .int mWrong, .ref amTF, .ref amTFor, .ref amWB, .int mRdn, .ref amRdL, .ref amRdE, .ref amRdD, .ref amSz, .ref amLane, .ref amSh, .ref amHands, .int mTrace]))] (some (.int ((m_X8_back mRdn k).1))) [(aMO, .inr (8, [.int mFault, .ref amS, .int mDays, .ref amH, .int mLin, .ref amK, .ref amO, .ref amD, .int mCool, .int mReadAt, .int mReadDays, .int mReadLin, .ref amRS, .ref amRH, .ref amRK, .ref amRO, .ref amRD, .ref amDN, .ref amSN, .int mDayNow, .int mLast, .int mTears, .int mWrong, .ref amTF, .ref amTFor, .ref amWB, .int ((m_X8_back mRdn k).2), .ref amRdL, .ref amRdE, .ref amRdD, .ref amSz, .ref amLane, .ref amSh, .ref amHands, .int mTrace]))] := by
  refine g_entry (by decide) rfl rfl rfl rfl (Nat.le_of_ble_eq_true rfl) (lv := [(0, .ref aMO), (1, .int k)]) rfl ?_
  intro X hC hX
  obtain ⟨res, hres⟩ : ∃ z, z = (m_X8_back mRdn k) := ⟨_, rfl⟩
  rw [← hres] at hX
  rw [m_X8_back] at hres
  refine g_iload_n hC dX8_back_0 rfl 1 rfl rfl ?_
  refine g_i2l hC dX8_back_1 rfl ?_
  refine g_lconst (v := 0) hC dX8_back_2 (by decide) rfl ?_
  refine g_aload_n hC dX8_back_3 rfl 0 rfl rfl ?_
  refine g_get hC iw_X8_back_RX8 0 rfl rfl 26 (by decide) (List.mem_of_getElem? (i := 1) rfl) rfl rfl dX8_back_4 rfl ?_
  refine g_i2l hC dX8_back_7 rfl ?_
  refine g_callS (ws' := [(aMO, .inr (8, [.int mFault, .ref amS, .int mDays, .ref amH, .int mLin, .ref amK, .ref amO, .ref amD, .int mCool, .int mReadAt, .int mReadDays, .int mReadLin, .ref amRS, .ref amRH, .ref amRK, .ref amRO, .ref amRD, .ref amDN, .ref amSN, .int mDayNow, .int mLast, .int mTears, .int mWrong, .ref amTF, .ref amTFor, .ref amWB, .int mRdn, .ref amRdL, .ref amRdE, .ref amRdD, .ref amSz, .ref amLane, .ref amSh, .ref amHands, .int mTrace]))]) (st' := [.int (m_X8_in k.toInt64 (0 : Int64) mRdn.toInt64)]) (nw := 1) (n1 := 0) hC gX8_back_X8_in hdS_yX8_in (As := [.long k.toInt64, .long (0 : Int64), .long mRdn.toInt64]) (rest := []) (c_X8_in D cI k.toInt64 (0 : Int64) mRdn.toInt64) rfl ⟨by decide, by decide⟩ rfl [] [0] [0] [0] rfl rfl rfl rfl (by decide) rfl rfl (Nat.le_of_ble_eq_true rfl) dX8_back_8 rfl rfl ?_
  refine g_if_ne (tgt := 17) hC dX8_back_11 (by decide) rfl (fun c_11 => ?_) (fun c_11 => ?_)
  · rw [if_neg c_11] at hres
    refine g_aload_n hC dX8_back_17 rfl 0 rfl rfl ?_
    refine g_dup hC dX8_back_18 rfl rfl ?_
    refine g_get hC iw_X8_back_RX8 0 rfl rfl 26 (by decide) (List.mem_of_getElem? (i := 1) rfl) rfl rfl dX8_back_19 rfl ?_
    refine g_iload_n hC dX8_back_22 rfl 1 rfl rfl ?_
    refine g_isub hC dX8_back_23 rfl ?_
    refine g_put (ws' := [(aMO, .inr (8, [.int mFault, .ref amS, .int mDays, .ref amH, .int mLin, .ref amK, .ref amO, .ref amD, .int mCool, .int mReadAt, .int mReadDays, .int mReadLin, .ref amRS, .ref amRH, .ref amRK, .ref amRO, .ref amRD, .ref amDN, .ref amSN, .int mDayNow, .int mLast, .int mTears, .int mWrong, .ref amTF, .ref amTFor, .ref amWB, .int (mRdn - k), .ref amRdL, .ref amRdE, .ref amRdD, .ref amSz, .ref amLane, .ref amSh, .ref amHands, .int mTrace]))]) hC iw_X8_back_RX8 0 rfl rfl 26 (by decide) (List.mem_of_getElem? (i := 1) rfl) rfl tyX8 tyX8_ok nmX8 rfl rfl rfl (Nat.le_of_ble_eq_true rfl) rfl dX8_back_24 rfl ?_
    refine g_aload_n hC dX8_back_27 rfl 0 rfl rfl ?_
    refine g_get hC iw_X8_back_RX8 0 rfl rfl 26 (by decide) (List.mem_of_getElem? (i := 1) rfl) rfl rfl dX8_back_28 rfl ?_
    subst hres
    exact g_iret hC hX rfl dX8_back_31 rfl rfl
  · rw [if_pos c_11] at hres
    refine g_bipush (v := -2) hC dX8_back_14 (by decide) rfl ?_
    subst hres
    exact g_iret hC hX rfl dX8_back_16 rfl rfl
theorem iw_X8_areSo_RX8 : ∀ w ∈ wsX80, w ∈ wsX8_areSo := fun _ h => List.mem_cons_of_mem _ (List.mem_append_right _ (h))
def m_X8_areSo_4 : Nat → Int32 → Int32 → (Nat → Int32) → (Nat → Int32) → (Nat → Int32) → (Nat → Int32) → (Nat → Int32) → (Nat → Int32) → Int32 → Int32 → (Int32)
  | 0, _, _, _, _, _, _, _, _, _, _ => default
  | fu + 1, mCool, mRdn, mRdL, mRdE, mRdD, mH, mK, mD, y1, y2 => (if mRdn ≤ y2 then y1 else (if y1 = 0 then (m_X8_areSo_4 fu mCool mRdn mRdL mRdE mRdD mH mK mD (0 : Int32) (y2 + 1)) else (m_X8_areSo_4 fu mCool mRdn mRdL mRdE mRdD mH mK mD (if (m_X8_dampAt mCool mH mK mD (mRdL y2.toNatClampNeg) (mRdE y2.toNatClampNeg)) = (mRdD y2.toNatClampNeg) then (1 : Int32) else (0 : Int32)) (y2 + 1))))
def m_X8_areSo (mCool : Int32) (mRdn : Int32) (mRdL : Nat → Int32) (mRdE : Nat → Int32) (mRdD : Nat → Int32) (mH : Nat → Int32) (mK : Nat → Int32) (mD : Nat → Int32) : (Int32) := (m_X8_areSo_4 ((mRdn.toInt - (0 : Int32).toInt).toNat + 1) mCool mRdn mRdL mRdE mRdD mH mK mD (1 : Int32) (0 : Int32))
set_option maxRecDepth 100000 in
set_option maxHeartbeats 4000000 in
theorem l_X8_areSo_4 {X : gX} (D : va_G) (cI : ClassId) (aMO : Nat) (mFault : Int32) (amS : Nat) (mDays : Int32) (amH : Nat) (mLin : Int32) (amK : Nat) (amO : Nat) (amD : Nat) (mCool : Int32) (mReadAt : Int32) (mReadDays : Int32) (mReadLin : Int32) (amRS : Nat) (amRH : Nat) (amRK : Nat) (amRO : Nat) (amRD : Nat) (amDN : Nat) (amSN : Nat) (mDayNow : Int32) (mLast : Int32) (mTears : Int32) (mWrong : Int32) (amTF : Nat) (amTFor : Nat) (amWB : Nat) (mRdn : Int32) (amRdL : Nat) (amRdE : Nat) (amRdD : Nat) (amSz : Nat) (amLane : Nat) (amSh : Nat) (amHands : Nat) (mTrace : Int32) (mRdL : Nat → Int32) (mRdE : Nat → Int32) (mRdD : Nat → Int32) (mH : Nat → Int32) (mK : Nat → Int32) (mD : Nat → Int32) (hn0 : 0 ≤ mRdn.toInt) (hn8 : mRdn.toInt ≤ 8) (hrL : ∀ j : Nat, vp_in (mRdL j) 5) (hrE : ∀ j : Nat, (mRdE j).toInt ≤ 6) (hC : Cx X cX8_areSo 3 RX8 wsX8_areSo D [(cI, .int)] ({ frames := 4, cells := 0, slots := 0, locals := 92 } : Room) (some .boolean)) {res : (Int32)} (hX : Rx X D (some (.int res)) [(aMO, .inr (8, [.int mFault, .ref amS, .int mDays, .ref amH, .int mLin, .ref amK, .ref amO, .ref amD, .int mCool, .int mReadAt, .int mReadDays, .int mReadLin, .ref amRS, .ref amRH, .ref amRK, .ref amRO, .ref amRD, .ref amDN, .ref amSN, .int mDayNow, .int mLast, .int mTears, .int mWrong, .ref amTF, .ref amTFor, .ref amWB, .int mRdn, .ref amRdL, .ref amRdE, .ref amRdD, .ref amSz, .ref amLane, .ref amSh, .ref amHands, .int mTrace])), (amRdL, .inl (cI, 8, .inl mRdL)), (amRdE, .inl (cI, 8, .inl mRdE)), (amRdD, .inl (cI, 8, .inl mRdD)), (amH, .inl (cI, 6, .inl mH)), (amK, .inl (cI, 5, .inl mK)), (amD, .inl (cI, 5, .inl mD))]) : ∀ (fu : Nat) (y1 : Int32) (y2 : Int32) (hm : (mRdn.toInt - y2.toInt).toNat < fu) (h0_y2 : 0 ≤ y2.toInt) (hb01 : y1 = 0 ∨ y1 = 1) (hres : res = m_X8_areSo_4 fu mCool mRdn mRdL mRdE mRdD mH mK mD y1 y2), G X D 3 [(aMO, .inr (8, [.int mFault, .ref amS, .int mDays, .ref amH, .int mLin, .ref amK, .ref amO, .ref amD, .int mCool, .int mReadAt, .int mReadDays, .int mReadLin, .ref amRS, .ref amRH, .ref amRK, .ref amRO, .ref amRD, .ref amDN, .ref amSN, .int mDayNow, .int mLast, .int mTears, .int mWrong, .ref amTF, .ref amTFor, .ref amWB, .int mRdn, .ref amRdL, .ref amRdE, .ref amRdD, .ref amSz, .ref amLane, .ref amSh, .ref amHands, .int mTrace])), (amRdL, .inl (cI, 8, .inl mRdL)), (amRdE, .inl (cI, 8, .inl mRdE)), (amRdD, .inl (cI, 8, .inl mRdD)), (amH, .inl (cI, 6, .inl mH)), (amK, .inl (cI, 5, .inl mK)), (amD, .inl (cI, 5, .inl mD))] [(0, .ref aMO), (1, .int y1), (2, .int y2)] 4 [] := by
  intro fu
  induction fu with
  | zero =>
    intro y1 y2 hm
    exact absurd hm (Nat.not_lt_zero _)
  | succ fu ih =>
    intro y1 y2 hm h0_y2 hb01 hres
    rw [m_X8_areSo_4] at hres
    refine g_iload_n hC dX8_areSo_4 rfl 2 rfl rfl ?_
    refine g_aload_n hC dX8_areSo_5 rfl 0 rfl rfl ?_
    refine g_get hC iw_X8_areSo_RX8 0 rfl rfl 26 (by decide) (List.mem_of_getElem? (i := 1) rfl) rfl rfl dX8_areSo_6 rfl ?_
    refine g_icmp_ge (tgt := 53) hC dX8_areSo_9 (by decide) rfl (fun c_9 => ?_) (fun c_9 => ?_)
    · rw [if_pos c_9] at hres
      refine g_iload_n hC dX8_areSo_53 rfl 1 rfl rfl ?_
      subst hres
      exact g_zret hC hX rfl (by rcases hb01 with e | e <;> (rw [e]; rfl)) dX8_areSo_54 rfl rfl
    · rw [if_neg c_9] at hres
      refine g_iload_n hC dX8_areSo_12 rfl 1 rfl rfl ?_
      refine g_if_eq (tgt := 45) hC dX8_areSo_13 (by decide) rfl (fun c_13 => ?_) (fun c_13 => ?_)
      · rw [if_pos c_13] at hres
        refine g_iconst (v := 0) hC dX8_areSo_45 (by decide) rfl ?_
        refine g_istore_n (lv' := [(1, .int (0 : Int32)), (0, .ref aMO), (2, .int y2)]) hC dX8_areSo_46 rfl (by decide) rfl rfl ?_
        refine g_iinc (v := (y2 + 1)) (lv' := [(2, .int (y2 + 1)), (1, .int (0 : Int32)), (0, .ref aMO)]) hC dX8_areSo_47 2 rfl rfl (by decide) rfl rfl ?_
        refine g_goto (tgt := 4) hC dX8_areSo_50 (by decide) ?_
        refine g_sub [2, 1, 0] rfl ?_
        exact ih (0 : Int32) (y2 + 1) (up_dec c_9 hm) (up_nn c_9 h0_y2) (by first | exact Or.inl rfl | exact Or.inr rfl | (split <;> first | exact Or.inl rfl | exact Or.inr rfl)) hres
      · rw [if_neg c_13] at hres
        refine g_aload_n hC dX8_areSo_16 rfl 0 rfl rfl ?_
        refine g_aload_n hC dX8_areSo_17 rfl 0 rfl rfl ?_
        refine g_get hC iw_X8_areSo_RX8 0 rfl rfl 27 (by decide) (List.mem_of_getElem? (i := 2) rfl) rfl rfl dX8_areSo_18 rfl ?_
        refine g_iload_n hC dX8_areSo_21 rfl 2 rfl rfl ?_
        refine g_iald hC 1 0 rfl rfl (by exact in_up h0_y2 c_9 hn8) dX8_areSo_22 rfl ?_
        refine g_aload_n hC dX8_areSo_23 rfl 0 rfl rfl ?_
        refine g_get hC iw_X8_areSo_RX8 0 rfl rfl 28 (by decide) (List.mem_of_getElem? (i := 3) rfl) rfl rfl dX8_areSo_24 rfl ?_
        refine g_iload_n hC dX8_areSo_27 rfl 2 rfl rfl ?_
        refine g_iald hC 2 0 rfl rfl (by exact in_up h0_y2 c_9 hn8) dX8_areSo_28 rfl ?_
        refine g_callV (ws' := [(aMO, .inr (8, [.int mFault, .ref amS, .int mDays, .ref amH, .int mLin, .ref amK, .ref amO, .ref amD, .int mCool, .int mReadAt, .int mReadDays, .int mReadLin, .ref amRS, .ref amRH, .ref amRK, .ref amRO, .ref amRD, .ref amDN, .ref amSN, .int mDayNow, .int mLast, .int mTears, .int mWrong, .ref amTF, .ref amTFor, .ref amWB, .int mRdn, .ref amRdL, .ref amRdE, .ref amRdD, .ref amSz, .ref amLane, .ref amSh, .ref amHands, .int mTrace])), (amRdL, .inl (cI, 8, .inl mRdL)), (amRdE, .inl (cI, 8, .inl mRdE)), (amRdD, .inl (cI, 8, .inl mRdD)), (amH, .inl (cI, 6, .inl mH)), (amK, .inl (cI, 5, .inl mK)), (amD, .inl (cI, 5, .inl mD))]) (st' := [.int (m_X8_dampAt mCool mH mK mD (mRdL y2.toNatClampNeg) (mRdE y2.toNatClampNeg))]) (nw := 7) (n1 := 4) hC gX8_areSo_X8_dampAt hdV_yX8_dampAt 0 rfl rfl (As := [.int (mRdL y2.toNatClampNeg), .int (mRdE y2.toNatClampNeg)]) (rest := []) (c_X8_dampAt D cI aMO mFault amS mDays amH mLin amK amO amD mCool mReadAt mReadDays mReadLin amRS amRH amRK amRO amRD amDN amSN mDayNow mLast mTears mWrong amTF amTFor amWB mRdn amRdL amRdE amRdD amSz amLane amSh amHands mTrace mH mK mD (mRdL y2.toNatClampNeg) (mRdE y2.toNatClampNeg) (by exact hrL _) (by exact hrE _)) rfl ⟨by decide, by decide⟩ rfl [0, 4, 5, 6] [1, 2, 3] [3, 0, 1, 2, 4, 5, 6] [0] rfl rfl rfl rfl (by decide) rfl rfl (Nat.le_of_ble_eq_true rfl) dX8_areSo_29 rfl rfl ?_
        refine g_aload_n hC dX8_areSo_32 rfl 0 rfl rfl ?_
        refine g_get hC iw_X8_areSo_RX8 0 rfl rfl 29 (by decide) (List.mem_of_getElem? (i := 4) rfl) rfl rfl dX8_areSo_33 rfl ?_
        refine g_iload_n hC dX8_areSo_36 rfl 2 rfl rfl ?_
        refine g_iald hC 3 0 rfl rfl (by exact in_up h0_y2 c_9 hn8) dX8_areSo_37 rfl ?_
        have K_38 : ∀ vK : Int32, vK = (if (m_X8_dampAt mCool mH mK mD (mRdL y2.toNatClampNeg) (mRdE y2.toNatClampNeg)) = (mRdD y2.toNatClampNeg) then (1 : Int32) else (0 : Int32)) → G X D 3 [(aMO, .inr (8, [.int mFault, .ref amS, .int mDays, .ref amH, .int mLin, .ref amK, .ref amO, .ref amD, .int mCool, .int mReadAt, .int mReadDays, .int mReadLin, .ref amRS, .ref amRH, .ref amRK, .ref amRO, .ref amRD, .ref amDN, .ref amSN, .int mDayNow, .int mLast, .int mTears, .int mWrong, .ref amTF, .ref amTFor, .ref amWB, .int mRdn, .ref amRdL, .ref amRdE, .ref amRdD, .ref amSz, .ref amLane, .ref amSh, .ref amHands, .int mTrace])), (amRdL, .inl (cI, 8, .inl mRdL)), (amRdE, .inl (cI, 8, .inl mRdE)), (amRdD, .inl (cI, 8, .inl mRdD)), (amH, .inl (cI, 6, .inl mH)), (amK, .inl (cI, 5, .inl mK)), (amD, .inl (cI, 5, .inl mD))] [(0, .ref aMO), (1, .int y1), (2, .int y2)] 46 (.int vK :: []) := by
          intro vK hvK
          subst hvK
          refine g_istore_n (lv' := [(1, .int (if (m_X8_dampAt mCool mH mK mD (mRdL y2.toNatClampNeg) (mRdE y2.toNatClampNeg)) = (mRdD y2.toNatClampNeg) then (1 : Int32) else (0 : Int32))), (0, .ref aMO), (2, .int y2)]) hC dX8_areSo_46 rfl (by decide) rfl rfl ?_
          refine g_iinc (v := (y2 + 1)) (lv' := [(2, .int (y2 + 1)), (1, .int (if (m_X8_dampAt mCool mH mK mD (mRdL y2.toNatClampNeg) (mRdE y2.toNatClampNeg)) = (mRdD y2.toNatClampNeg) then (1 : Int32) else (0 : Int32))), (0, .ref aMO)]) hC dX8_areSo_47 2 rfl rfl (by decide) rfl rfl ?_
          refine g_goto (tgt := 4) hC dX8_areSo_50 (by decide) ?_
          refine g_sub [2, 1, 0] rfl ?_
          exact ih (if (m_X8_dampAt mCool mH mK mD (mRdL y2.toNatClampNeg) (mRdE y2.toNatClampNeg)) = (mRdD y2.toNatClampNeg) then (1 : Int32) else (0 : Int32)) (y2 + 1) (up_dec c_9 hm) (up_nn c_9 h0_y2) (by first | exact Or.inl rfl | exact Or.inr rfl | (split <;> first | exact Or.inl rfl | exact Or.inr rfl)) hres
        refine g_icmp_ne (tgt := 45) hC dX8_areSo_38 (by decide) rfl (fun c_38 => ?_) (fun c_38 => ?_)
        · refine g_iconst (v := 0) hC dX8_areSo_45 (by decide) rfl ?_
          exact K_38 _ (if_neg c_38).symm
        · refine g_iconst (v := 1) hC dX8_areSo_41 (by decide) rfl ?_
          refine g_goto (tgt := 46) hC dX8_areSo_42 (by decide) ?_
          exact K_38 _ (if_pos c_38).symm
set_option maxRecDepth 100000 in
set_option maxHeartbeats 4000000 in
theorem c_X8_areSo (D : va_G) (cI : ClassId) (aMO : Nat) (mFault : Int32) (amS : Nat) (mDays : Int32) (amH : Nat) (mLin : Int32) (amK : Nat) (amO : Nat) (amD : Nat) (mCool : Int32) (mReadAt : Int32) (mReadDays : Int32) (mReadLin : Int32) (amRS : Nat) (amRH : Nat) (amRK : Nat) (amRO : Nat) (amRD : Nat) (amDN : Nat) (amSN : Nat) (mDayNow : Int32) (mLast : Int32) (mTears : Int32) (mWrong : Int32) (amTF : Nat) (amTFor : Nat) (amWB : Nat) (mRdn : Int32) (amRdL : Nat) (amRdE : Nat) (amRdD : Nat) (amSz : Nat) (amLane : Nat) (amSh : Nat) (amHands : Nat) (mTrace : Int32) (mRdL : Nat → Int32) (mRdE : Nat → Int32) (mRdD : Nat → Int32) (mH : Nat → Int32) (mK : Nat → Int32) (mD : Nat → Int32) (hn0 : 0 ≤ mRdn.toInt) (hn8 : mRdn.toInt ≤ 8) (hrL : ∀ j : Nat, vp_in (mRdL j) 5) (hrE : ∀ j : Nat, (mRdE j).toInt ≤ 6) : MC yX8_areSo wsX8_areSo ({ frames := 4, cells := 0, slots := 0, locals := 92 } : Room) D [(cI, .int)] [.ref aMO] [(aMO, .inr (8, [.int mFault, .ref amS, .int mDays, .ref amH, .int mLin, .ref amK, .ref amO, .ref amD, .int mCool, .int mReadAt, .int mReadDays, .int mReadLin, .ref amRS, .ref amRH, .ref amRK, .ref amRO, .ref amRD, .ref amDN, .ref amSN, .int mDayNow, .int mLast, .int mTears, .int mWrong, .ref amTF, .ref amTFor, .ref amWB, .int mRdn, .ref amRdL, .ref amRdE, .ref amRdD, .ref amSz, .ref amLane, .ref amSh, .ref amHands, .int mTrace])), (amRdL, .inl (cI, 8, .inl mRdL)), (amRdE, .inl (cI, 8, .inl mRdE)), (amRdD, .inl (cI, 8, .inl mRdD)), (amH, .inl (cI, 6, .inl mH)), (amK, .inl (cI, 5, .inl mK)), (amD, .inl (cI, 5, .inl mD))] (some (.int (m_X8_areSo mCool mRdn mRdL mRdE mRdD mH mK mD))) [(aMO, .inr (8, [.int mFault, .ref amS, .int mDays, .ref amH, .int mLin, .ref amK, .ref amO, .ref amD, .int mCool, .int mReadAt, .int mReadDays, .int mReadLin, .ref amRS, .ref amRH, .ref amRK, .ref amRO, .ref amRD, .ref amDN, .ref amSN, .int mDayNow, .int mLast, .int mTears, .int mWrong, .ref amTF, .ref amTFor, .ref amWB, .int mRdn, .ref amRdL, .ref amRdE, .ref amRdD, .ref amSz, .ref amLane, .ref amSh, .ref amHands, .int mTrace])), (amRdL, .inl (cI, 8, .inl mRdL)), (amRdE, .inl (cI, 8, .inl mRdE)), (amRdD, .inl (cI, 8, .inl mRdD)), (amH, .inl (cI, 6, .inl mH)), (amK, .inl (cI, 5, .inl mK)), (amD, .inl (cI, 5, .inl mD))] := by
  refine g_entry (by decide) rfl rfl rfl rfl (Nat.le_of_ble_eq_true rfl) (lv := [(0, .ref aMO)]) rfl ?_
  intro X hC hX
  obtain ⟨res, hres⟩ : ∃ z, z = (m_X8_areSo mCool mRdn mRdL mRdE mRdD mH mK mD) := ⟨_, rfl⟩
  rw [← hres] at hX
  rw [m_X8_areSo] at hres
  refine g_iconst (v := 1) hC dX8_areSo_0 (by decide) rfl ?_
  refine g_istore_n (lv' := [(1, .int (1 : Int32)), (0, .ref aMO)]) hC dX8_areSo_1 rfl (by decide) rfl rfl ?_
  refine g_iconst (v := 0) hC dX8_areSo_2 (by decide) rfl ?_
  refine g_istore_n (lv' := [(2, .int (0 : Int32)), (1, .int (1 : Int32)), (0, .ref aMO)]) hC dX8_areSo_3 rfl (by decide) rfl rfl ?_
  refine g_sub [2, 1, 0] rfl ?_
  exact l_X8_areSo_4 D cI aMO mFault amS mDays amH mLin amK amO amD mCool mReadAt mReadDays mReadLin amRS amRH amRK amRO amRD amDN amSN mDayNow mLast mTears mWrong amTF amTFor amWB mRdn amRdL amRdE amRdD amSz amLane amSh amHands mTrace mRdL mRdE mRdD mH mK mD hn0 hn8 hrL hrE hC hX ((mRdn.toInt - (0 : Int32).toInt).toNat + 1) (1 : Int32) (0 : Int32) (Nat.lt_succ_self _) (by decide) (by exact Or.inr rfl) hres
theorem iw_X8_damps_RX8 : ∀ w ∈ wsX80, w ∈ wsX8_damps := fun _ h => List.mem_cons_of_mem _ (List.mem_append_right _ (h))
def m_X8_damps_22 : Nat → Int32 → Int32 → (Nat → Int32) → (Nat → Int32) → (Nat → Int32) → (Nat → Int32) → (Nat → Int32) → (Nat → Int32) → Int32 → Int32 → Int32 → (Nat → Int32) → (Int32 × (Nat → Int32))
  | 0, _, _, _, _, _, _, _, _, _, _, _, _ => default
  | fu + 1, mCool, mRdn, mRdL, mRdE, mRdD, mH, mK, mD, l, y3, y4, z_mD => (if (10 : Int32) ≤ y4 then (y3, (upd z_mD l.toNatClampNeg (mD l.toNatClampNeg))) else (m_X8_damps_22 fu mCool mRdn mRdL mRdE mRdD mH mK mD l (y3 ||| (if (m_X8_areSo mCool mRdn mRdL mRdE mRdD mH mK (upd z_mD l.toNatClampNeg y4)) = 0 then (0 : Int32) else ((1 : Int32) <<< (y4 &&& 31)))) (y4 + 1) (upd z_mD l.toNatClampNeg y4)))
def m_X8_damps (mLin : Int32) (mCool : Int32) (mRdn : Int32) (mRdL : Nat → Int32) (mRdE : Nat → Int32) (mRdD : Nat → Int32) (mH : Nat → Int32) (mK : Nat → Int32) (mD : Nat → Int32) (l : Int32) : (Int32 × (Nat → Int32)) := (if (m_X8_noLinen mLin l) = 0 then (m_X8_damps_22 (((10 : Int32).toInt - (0 : Int32).toInt).toNat + 1) mCool mRdn mRdL mRdE mRdD mH mK mD l (0 : Int32) (0 : Int32) mD) else ((-1 : Int32), mD))
set_option maxRecDepth 100000 in
set_option maxHeartbeats 4000000 in
theorem l_X8_damps_22 {X : gX} (D : va_G) (cI : ClassId) (aMO : Nat) (mFault : Int32) (amS : Nat) (mDays : Int32) (amH : Nat) (mLin : Int32) (amK : Nat) (amO : Nat) (amD : Nat) (mCool : Int32) (mReadAt : Int32) (mReadDays : Int32) (mReadLin : Int32) (amRS : Nat) (amRH : Nat) (amRK : Nat) (amRO : Nat) (amRD : Nat) (amDN : Nat) (amSN : Nat) (mDayNow : Int32) (mLast : Int32) (mTears : Int32) (mWrong : Int32) (amTF : Nat) (amTFor : Nat) (amWB : Nat) (mRdn : Int32) (amRdL : Nat) (amRdE : Nat) (amRdD : Nat) (amSz : Nat) (amLane : Nat) (amSh : Nat) (amHands : Nat) (mTrace : Int32) (mRdL : Nat → Int32) (mRdE : Nat → Int32) (mRdD : Nat → Int32) (mH : Nat → Int32) (mK : Nat → Int32) (mD : Nat → Int32) (l : Int32) (hl5 : mLin.toInt ≤ 5) (hn0 : 0 ≤ mRdn.toInt) (hn8 : mRdn.toInt ≤ 8) (hrL : ∀ j : Nat, vp_in (mRdL j) 5) (hrE : ∀ j : Nat, (mRdE j).toInt ≤ 6) (hC : Cx X cX8_damps 5 RX8 wsX8_damps D [(cI, .int)] ({ frames := 5, cells := 0, slots := 0, locals := 114 } : Room) (some .int)) {res : (Int32 × (Nat → Int32))} (hX : Rx X D (some (.int res.1)) [(aMO, .inr (8, [.int mFault, .ref amS, .int mDays, .ref amH, .int mLin, .ref amK, .ref amO, .ref amD, .int mCool, .int mReadAt, .int mReadDays, .int mReadLin, .ref amRS, .ref amRH, .ref amRK, .ref amRO, .ref amRD, .ref amDN, .ref amSN, .int mDayNow, .int mLast, .int mTears, .int mWrong, .ref amTF, .ref amTFor, .ref amWB, .int mRdn, .ref amRdL, .ref amRdE, .ref amRdD, .ref amSz, .ref amLane, .ref amSh, .ref amHands, .int mTrace])), (amRdL, .inl (cI, 8, .inl mRdL)), (amRdE, .inl (cI, 8, .inl mRdE)), (amRdD, .inl (cI, 8, .inl mRdD)), (amH, .inl (cI, 6, .inl mH)), (amK, .inl (cI, 5, .inl mK)), (amD, .inl (cI, 5, .inl res.2))]) : ∀ (fu : Nat) (y3 : Int32) (y4 : Int32) (z_mD : Nat → Int32) (hm : ((10 : Int32).toInt - y4.toInt).toNat < fu) (h0_y4 : 0 ≤ y4.toInt) (hl : vp_in l 5) (hres : res = m_X8_damps_22 fu mCool mRdn mRdL mRdE mRdD mH mK mD l y3 y4 z_mD), G X D 5 [(aMO, .inr (8, [.int mFault, .ref amS, .int mDays, .ref amH, .int mLin, .ref amK, .ref amO, .ref amD, .int mCool, .int mReadAt, .int mReadDays, .int mReadLin, .ref amRS, .ref amRH, .ref amRK, .ref amRO, .ref amRD, .ref amDN, .ref amSN, .int mDayNow, .int mLast, .int mTears, .int mWrong, .ref amTF, .ref amTFor, .ref amWB, .int mRdn, .ref amRdL, .ref amRdE, .ref amRdD, .ref amSz, .ref amLane, .ref amSh, .ref amHands, .int mTrace])), (amRdL, .inl (cI, 8, .inl mRdL)), (amRdE, .inl (cI, 8, .inl mRdE)), (amRdD, .inl (cI, 8, .inl mRdD)), (amH, .inl (cI, 6, .inl mH)), (amK, .inl (cI, 5, .inl mK)), (amD, .inl (cI, 5, .inl z_mD))] [(0, .ref aMO), (1, .int l), (2, .int (mD l.toNatClampNeg)), (3, .int y3), (4, .int y4)] 22 [] := by
  intro fu
  induction fu with
  | zero =>
    intro y3 y4 z_mD hm
    exact absurd hm (Nat.not_lt_zero _)
  | succ fu ih =>
    intro y3 y4 z_mD hm h0_y4 hl hres
    rw [m_X8_damps_22] at hres
    refine g_iload hC dX8_damps_22 4 rfl rfl ?_
    refine g_bipush (v := 10) hC dX8_damps_24 (by decide) rfl ?_
    refine g_icmp_ge (tgt := 61) hC dX8_damps_26 (by decide) rfl (fun c_26 => ?_) (fun c_26 => ?_)
    · rw [if_pos c_26] at hres
      refine g_aload_n hC dX8_damps_61 rfl 0 rfl rfl ?_
      refine g_get hC iw_X8_damps_RX8 0 rfl rfl 7 (by decide) (List.mem_of_getElem? (i := 1) rfl) rfl rfl dX8_damps_62 rfl ?_
      refine g_iload_n hC dX8_damps_65 rfl 1 rfl rfl ?_
      refine g_iload_n hC dX8_damps_66 rfl 2 rfl rfl ?_
      refine g_iast (ws' := [(aMO, .inr (8, [.int mFault, .ref amS, .int mDays, .ref amH, .int mLin, .ref amK, .ref amO, .ref amD, .int mCool, .int mReadAt, .int mReadDays, .int mReadLin, .ref amRS, .ref amRH, .ref amRK, .ref amRO, .ref amRD, .ref amDN, .ref amSN, .int mDayNow, .int mLast, .int mTears, .int mWrong, .ref amTF, .ref amTFor, .ref amWB, .int mRdn, .ref amRdL, .ref amRdE, .ref amRdD, .ref amSz, .ref amLane, .ref amSh, .ref amHands, .int mTrace])), (amRdL, .inl (cI, 8, .inl mRdL)), (amRdE, .inl (cI, 8, .inl mRdE)), (amRdD, .inl (cI, 8, .inl mRdD)), (amH, .inl (cI, 6, .inl mH)), (amK, .inl (cI, 5, .inl mK)), (amD, .inl (cI, 5, .inl (upd z_mD l.toNatClampNeg (mD l.toNatClampNeg))))]) hC 6 0 rfl rfl (by exact hl) rfl dX8_damps_67 rfl ?_
      refine g_iload_n hC dX8_damps_68 rfl 3 rfl rfl ?_
      subst hres
      exact g_iret hC hX rfl dX8_damps_69 rfl rfl
    · rw [if_neg c_26] at hres
      refine g_aload_n hC dX8_damps_29 rfl 0 rfl rfl ?_
      refine g_get hC iw_X8_damps_RX8 0 rfl rfl 7 (by decide) (List.mem_of_getElem? (i := 1) rfl) rfl rfl dX8_damps_30 rfl ?_
      refine g_iload_n hC dX8_damps_33 rfl 1 rfl rfl ?_
      refine g_iload hC dX8_damps_34 4 rfl rfl ?_
      refine g_iast (ws' := [(aMO, .inr (8, [.int mFault, .ref amS, .int mDays, .ref amH, .int mLin, .ref amK, .ref amO, .ref amD, .int mCool, .int mReadAt, .int mReadDays, .int mReadLin, .ref amRS, .ref amRH, .ref amRK, .ref amRO, .ref amRD, .ref amDN, .ref amSN, .int mDayNow, .int mLast, .int mTears, .int mWrong, .ref amTF, .ref amTFor, .ref amWB, .int mRdn, .ref amRdL, .ref amRdE, .ref amRdD, .ref amSz, .ref amLane, .ref amSh, .ref amHands, .int mTrace])), (amRdL, .inl (cI, 8, .inl mRdL)), (amRdE, .inl (cI, 8, .inl mRdE)), (amRdD, .inl (cI, 8, .inl mRdD)), (amH, .inl (cI, 6, .inl mH)), (amK, .inl (cI, 5, .inl mK)), (amD, .inl (cI, 5, .inl (upd z_mD l.toNatClampNeg y4)))]) hC 6 0 rfl rfl (by exact hl) rfl dX8_damps_36 rfl ?_
      refine g_iload_n hC dX8_damps_37 rfl 3 rfl rfl ?_
      refine g_aload_n hC dX8_damps_38 rfl 0 rfl rfl ?_
      refine g_callV (ws' := [(aMO, .inr (8, [.int mFault, .ref amS, .int mDays, .ref amH, .int mLin, .ref amK, .ref amO, .ref amD, .int mCool, .int mReadAt, .int mReadDays, .int mReadLin, .ref amRS, .ref amRH, .ref amRK, .ref amRO, .ref amRD, .ref amDN, .ref amSN, .int mDayNow, .int mLast, .int mTears, .int mWrong, .ref amTF, .ref amTFor, .ref amWB, .int mRdn, .ref amRdL, .ref amRdE, .ref amRdD, .ref amSz, .ref amLane, .ref amSh, .ref amHands, .int mTrace])), (amRdL, .inl (cI, 8, .inl mRdL)), (amRdE, .inl (cI, 8, .inl mRdE)), (amRdD, .inl (cI, 8, .inl mRdD)), (amH, .inl (cI, 6, .inl mH)), (amK, .inl (cI, 5, .inl mK)), (amD, .inl (cI, 5, .inl (upd z_mD l.toNatClampNeg y4)))]) (st' := [.int (m_X8_areSo mCool mRdn mRdL mRdE mRdD mH mK (upd z_mD l.toNatClampNeg y4)), .int y3]) (nw := 7) (n1 := 7) hC gX8_damps_X8_areSo hdV_yX8_areSo 0 rfl rfl (As := []) (rest := [.int y3]) (c_X8_areSo D cI aMO mFault amS mDays amH mLin amK amO amD mCool mReadAt mReadDays mReadLin amRS amRH amRK amRO amRD amDN amSN mDayNow mLast mTears mWrong amTF amTFor amWB mRdn amRdL amRdE amRdD amSz amLane amSh amHands mTrace mRdL mRdE mRdD mH mK (upd z_mD l.toNatClampNeg y4) (by exact hn0) (by exact hn8) (by exact hrL) (by exact hrE)) rfl ⟨by decide, by decide⟩ rfl [0, 1, 2, 3, 4, 5, 6] [] [0, 1, 2, 3, 4, 5, 6] [0] rfl rfl rfl rfl (by decide) rfl rfl (Nat.le_of_ble_eq_true rfl) dX8_damps_39 rfl rfl ?_
      have K_42 : ∀ vK : Int32, vK = (if (m_X8_areSo mCool mRdn mRdL mRdE mRdD mH mK (upd z_mD l.toNatClampNeg y4)) = 0 then (0 : Int32) else ((1 : Int32) <<< (y4 &&& 31))) → G X D 5 [(aMO, .inr (8, [.int mFault, .ref amS, .int mDays, .ref amH, .int mLin, .ref amK, .ref amO, .ref amD, .int mCool, .int mReadAt, .int mReadDays, .int mReadLin, .ref amRS, .ref amRH, .ref amRK, .ref amRO, .ref amRD, .ref amDN, .ref amSN, .int mDayNow, .int mLast, .int mTears, .int mWrong, .ref amTF, .ref amTFor, .ref amWB, .int mRdn, .ref amRdL, .ref amRdE, .ref amRdD, .ref amSz, .ref amLane, .ref amSh, .ref amHands, .int mTrace])), (amRdL, .inl (cI, 8, .inl mRdL)), (amRdE, .inl (cI, 8, .inl mRdE)), (amRdD, .inl (cI, 8, .inl mRdD)), (amH, .inl (cI, 6, .inl mH)), (amK, .inl (cI, 5, .inl mK)), (amD, .inl (cI, 5, .inl (upd z_mD l.toNatClampNeg y4)))] [(0, .ref aMO), (1, .int l), (2, .int (mD l.toNatClampNeg)), (3, .int y3), (4, .int y4)] 53 (.int vK :: [.int y3]) := by
        intro vK hvK
        subst hvK
        refine g_ior hC dX8_damps_53 rfl ?_
        refine g_istore_n (lv' := [(3, .int (y3 ||| (if (m_X8_areSo mCool mRdn mRdL mRdE mRdD mH mK (upd z_mD l.toNatClampNeg y4)) = 0 then (0 : Int32) else ((1 : Int32) <<< (y4 &&& 31))))), (0, .ref aMO), (1, .int l), (2, .int (mD l.toNatClampNeg)), (4, .int y4)]) hC dX8_damps_54 rfl (by decide) rfl rfl ?_
        refine g_iinc (v := (y4 + 1)) (lv' := [(4, .int (y4 + 1)), (3, .int (y3 ||| (if (m_X8_areSo mCool mRdn mRdL mRdE mRdD mH mK (upd z_mD l.toNatClampNeg y4)) = 0 then (0 : Int32) else ((1 : Int32) <<< (y4 &&& 31))))), (0, .ref aMO), (1, .int l), (2, .int (mD l.toNatClampNeg))]) hC dX8_damps_55 4 rfl rfl (by decide) rfl rfl ?_
        refine g_goto (tgt := 22) hC dX8_damps_58 (by decide) ?_
        refine g_sub [2, 3, 4, 1, 0] rfl ?_
        exact ih (y3 ||| (if (m_X8_areSo mCool mRdn mRdL mRdE mRdD mH mK (upd z_mD l.toNatClampNeg y4)) = 0 then (0 : Int32) else ((1 : Int32) <<< (y4 &&& 31)))) (y4 + 1) (upd z_mD l.toNatClampNeg y4) (up_dec c_26 hm) (up_nn c_26 h0_y4) (by assumption) hres
      refine g_if_eq (tgt := 52) hC dX8_damps_42 (by decide) rfl (fun c_42 => ?_) (fun c_42 => ?_)
      · refine g_iconst (v := 0) hC dX8_damps_52 (by decide) rfl ?_
        exact K_42 _ (if_pos c_42).symm
      · refine g_iconst (v := 1) hC dX8_damps_45 (by decide) rfl ?_
        refine g_iload hC dX8_damps_46 4 rfl rfl ?_
        refine g_ishl hC dX8_damps_48 rfl ?_
        refine g_goto (tgt := 53) hC dX8_damps_49 (by decide) ?_
        exact K_42 _ (if_neg c_42).symm
set_option maxRecDepth 100000 in
set_option maxHeartbeats 4000000 in
theorem c_X8_damps (D : va_G) (cI : ClassId) (aMO : Nat) (mFault : Int32) (amS : Nat) (mDays : Int32) (amH : Nat) (mLin : Int32) (amK : Nat) (amO : Nat) (amD : Nat) (mCool : Int32) (mReadAt : Int32) (mReadDays : Int32) (mReadLin : Int32) (amRS : Nat) (amRH : Nat) (amRK : Nat) (amRO : Nat) (amRD : Nat) (amDN : Nat) (amSN : Nat) (mDayNow : Int32) (mLast : Int32) (mTears : Int32) (mWrong : Int32) (amTF : Nat) (amTFor : Nat) (amWB : Nat) (mRdn : Int32) (amRdL : Nat) (amRdE : Nat) (amRdD : Nat) (amSz : Nat) (amLane : Nat) (amSh : Nat) (amHands : Nat) (mTrace : Int32) (mRdL : Nat → Int32) (mRdE : Nat → Int32) (mRdD : Nat → Int32) (mH : Nat → Int32) (mK : Nat → Int32) (mD : Nat → Int32) (l : Int32) (hl5 : mLin.toInt ≤ 5) (hn0 : 0 ≤ mRdn.toInt) (hn8 : mRdn.toInt ≤ 8) (hrL : ∀ j : Nat, vp_in (mRdL j) 5) (hrE : ∀ j : Nat, (mRdE j).toInt ≤ 6) : MC yX8_damps wsX8_damps ({ frames := 5, cells := 0, slots := 0, locals := 114 } : Room) D [(cI, .int)] [.ref aMO, .int l] [(aMO, .inr (8, [.int mFault, .ref amS, .int mDays, .ref amH, .int mLin, .ref amK, .ref amO, .ref amD, .int mCool, .int mReadAt, .int mReadDays, .int mReadLin, .ref amRS, .ref amRH, .ref amRK, .ref amRO, .ref amRD, .ref amDN, .ref amSN, .int mDayNow, .int mLast, .int mTears, .int mWrong, .ref amTF, .ref amTFor, .ref amWB, .int mRdn, .ref amRdL, .ref amRdE, .ref amRdD, .ref amSz, .ref amLane, .ref amSh, .ref amHands, .int mTrace])), (amRdL, .inl (cI, 8, .inl mRdL)), (amRdE, .inl (cI, 8, .inl mRdE)), (amRdD, .inl (cI, 8, .inl mRdD)), (amH, .inl (cI, 6, .inl mH)), (amK, .inl (cI, 5, .inl mK)), (amD, .inl (cI, 5, .inl mD))] (some (.int ((m_X8_damps mLin mCool mRdn mRdL mRdE mRdD mH mK mD l).1))) [(aMO, .inr (8, [.int mFault, .ref amS, .int mDays, .ref amH, .int mLin, .ref amK, .ref amO, .ref amD, .int mCool, .int mReadAt, .int mReadDays, .int mReadLin, .ref amRS, .ref amRH, .ref amRK, .ref amRO, .ref amRD, .ref amDN, .ref amSN, .int mDayNow, .int mLast, .int mTears, .int mWrong, .ref amTF, .ref amTFor, .ref amWB, .int mRdn, .ref amRdL, .ref amRdE, .ref amRdD, .ref amSz, .ref amLane, .ref amSh, .ref amHands, .int mTrace])), (amRdL, .inl (cI, 8, .inl mRdL)), (amRdE, .inl (cI, 8, .inl mRdE)), (amRdD, .inl (cI, 8, .inl mRdD)), (amH, .inl (cI, 6, .inl mH)), (amK, .inl (cI, 5, .inl mK)), (amD, .inl (cI, 5, .inl ((m_X8_damps mLin mCool mRdn mRdL mRdE mRdD mH mK mD l).2)))] := by
  refine g_entry (by decide) rfl rfl rfl rfl (Nat.le_of_ble_eq_true rfl) (lv := [(0, .ref aMO), (1, .int l)]) rfl ?_
  intro X hC hX
  obtain ⟨res, hres⟩ : ∃ z, z = (m_X8_damps mLin mCool mRdn mRdL mRdE mRdD mH mK mD l) := ⟨_, rfl⟩
  rw [← hres] at hX
  rw [m_X8_damps] at hres
  refine g_aload_n hC dX8_damps_0 rfl 0 rfl rfl ?_
  refine g_iload_n hC dX8_damps_1 rfl 1 rfl rfl ?_
  refine g_callV (ws' := [(aMO, .inr (8, [.int mFault, .ref amS, .int mDays, .ref amH, .int mLin, .ref amK, .ref amO, .ref amD, .int mCool, .int mReadAt, .int mReadDays, .int mReadLin, .ref amRS, .ref amRH, .ref amRK, .ref amRO, .ref amRD, .ref amDN, .ref amSN, .int mDayNow, .int mLast, .int mTears, .int mWrong, .ref amTF, .ref amTFor, .ref amWB, .int mRdn, .ref amRdL, .ref amRdE, .ref amRdD, .ref amSz, .ref amLane, .ref amSh, .ref amHands, .int mTrace])), (amRdL, .inl (cI, 8, .inl mRdL)), (amRdE, .inl (cI, 8, .inl mRdE)), (amRdD, .inl (cI, 8, .inl mRdD)), (amH, .inl (cI, 6, .inl mH)), (amK, .inl (cI, 5, .inl mK)), (amD, .inl (cI, 5, .inl mD))]) (st' := [.int (m_X8_noLinen mLin l)]) (nw := 7) (n1 := 1) hC gX8_damps_X8_noLinen hdV_yX8_noLinen 0 rfl rfl (As := [.int l]) (rest := []) (c_X8_noLinen D cI aMO mFault amS mDays amH mLin amK amO amD mCool mReadAt mReadDays mReadLin amRS amRH amRK amRO amRD amDN amSN mDayNow mLast mTears mWrong amTF amTFor amWB mRdn amRdL amRdE amRdD amSz amLane amSh amHands mTrace l) rfl ⟨by decide, by decide⟩ rfl [0] [1, 2, 3, 4, 5, 6] [6, 0, 1, 2, 3, 4, 5] [0] rfl rfl rfl rfl (by decide) rfl rfl (Nat.le_of_ble_eq_true rfl) dX8_damps_2 rfl rfl ?_
  refine g_if_eq (tgt := 10) hC dX8_damps_5 (by decide) rfl (fun c_5 => ?_) (fun c_5 => ?_)
  · rw [if_pos c_5] at hres
    refine g_aload_n hC dX8_damps_10 rfl 0 rfl rfl ?_
    refine g_get hC iw_X8_damps_RX8 0 rfl rfl 7 (by decide) (List.mem_of_getElem? (i := 1) rfl) rfl rfl dX8_damps_11 rfl ?_
    refine g_iload_n hC dX8_damps_14 rfl 1 rfl rfl ?_
    refine g_iald hC 6 0 rfl rfl (by exact nl_ok c_5 hl5) dX8_damps_15 rfl ?_
    refine g_istore_n (lv' := [(2, .int (mD l.toNatClampNeg)), (0, .ref aMO), (1, .int l)]) hC dX8_damps_16 rfl (by decide) rfl rfl ?_
    refine g_iconst (v := 0) hC dX8_damps_17 (by decide) rfl ?_
    refine g_istore_n (lv' := [(3, .int (0 : Int32)), (2, .int (mD l.toNatClampNeg)), (0, .ref aMO), (1, .int l)]) hC dX8_damps_18 rfl (by decide) rfl rfl ?_
    refine g_iconst (v := 0) hC dX8_damps_19 (by decide) rfl ?_
    refine g_istore (lv' := [(4, .int (0 : Int32)), (3, .int (0 : Int32)), (2, .int (mD l.toNatClampNeg)), (0, .ref aMO), (1, .int l)]) hC dX8_damps_20 (by decide) rfl rfl ?_
    refine g_sub [3, 4, 2, 1, 0] rfl ?_
    exact l_X8_damps_22 D cI aMO mFault amS mDays amH mLin amK amO amD mCool mReadAt mReadDays mReadLin amRS amRH amRK amRO amRD amDN amSN mDayNow mLast mTears mWrong amTF amTFor amWB mRdn amRdL amRdE amRdD amSz amLane amSh amHands mTrace mRdL mRdE mRdD mH mK mD l hl5 hn0 hn8 hrL hrE hC hX (((10 : Int32).toInt - (0 : Int32).toInt).toNat + 1) (0 : Int32) (0 : Int32) mD (Nat.lt_succ_self _) (by decide) (by exact nl_ok (by assumption) (by assumption)) hres
  · rw [if_neg c_5] at hres
    refine g_iconst (v := -1) hC dX8_damps_8 (by decide) rfl ?_
    subst hres
    exact g_iret hC hX rfl dX8_damps_9 rfl rfl
theorem iw_X8_kinds_RX8 : ∀ w ∈ wsX80, w ∈ wsX8_kinds := fun _ h => List.mem_cons_of_mem _ (List.mem_append_right _ (h))
def m_X8_kinds_22 : Nat → Int32 → Int32 → (Nat → Int32) → (Nat → Int32) → (Nat → Int32) → (Nat → Int32) → (Nat → Int32) → (Nat → Int32) → Int32 → Int32 → Int32 → (Nat → Int32) → (Int32 × (Nat → Int32))
  | 0, _, _, _, _, _, _, _, _, _, _, _, _ => default
  | fu + 1, mCool, mRdn, mRdL, mRdE, mRdD, mH, mK, mD, l, y3, y4, z_mK => (if (3 : Int32) ≤ y4 then (y3, (upd z_mK l.toNatClampNeg (mK l.toNatClampNeg))) else (m_X8_kinds_22 fu mCool mRdn mRdL mRdE mRdD mH mK mD l (y3 ||| (if (m_X8_areSo mCool mRdn mRdL mRdE mRdD mH (upd z_mK l.toNatClampNeg y4) mD) = 0 then (0 : Int32) else ((1 : Int32) <<< (y4 &&& 31)))) (y4 + 1) (upd z_mK l.toNatClampNeg y4)))
def m_X8_kinds (mLin : Int32) (mCool : Int32) (mRdn : Int32) (mRdL : Nat → Int32) (mRdE : Nat → Int32) (mRdD : Nat → Int32) (mH : Nat → Int32) (mK : Nat → Int32) (mD : Nat → Int32) (l : Int32) : (Int32 × (Nat → Int32)) := (if (m_X8_noLinen mLin l) = 0 then (m_X8_kinds_22 (((3 : Int32).toInt - (0 : Int32).toInt).toNat + 1) mCool mRdn mRdL mRdE mRdD mH mK mD l (0 : Int32) (0 : Int32) mK) else ((-1 : Int32), mK))
set_option maxRecDepth 100000 in
set_option maxHeartbeats 4000000 in
theorem l_X8_kinds_22 {X : gX} (D : va_G) (cI : ClassId) (aMO : Nat) (mFault : Int32) (amS : Nat) (mDays : Int32) (amH : Nat) (mLin : Int32) (amK : Nat) (amO : Nat) (amD : Nat) (mCool : Int32) (mReadAt : Int32) (mReadDays : Int32) (mReadLin : Int32) (amRS : Nat) (amRH : Nat) (amRK : Nat) (amRO : Nat) (amRD : Nat) (amDN : Nat) (amSN : Nat) (mDayNow : Int32) (mLast : Int32) (mTears : Int32) (mWrong : Int32) (amTF : Nat) (amTFor : Nat) (amWB : Nat) (mRdn : Int32) (amRdL : Nat) (amRdE : Nat) (amRdD : Nat) (amSz : Nat) (amLane : Nat) (amSh : Nat) (amHands : Nat) (mTrace : Int32) (mRdL : Nat → Int32) (mRdE : Nat → Int32) (mRdD : Nat → Int32) (mH : Nat → Int32) (mK : Nat → Int32) (mD : Nat → Int32) (l : Int32) (hl5 : mLin.toInt ≤ 5) (hn0 : 0 ≤ mRdn.toInt) (hn8 : mRdn.toInt ≤ 8) (hrL : ∀ j : Nat, vp_in (mRdL j) 5) (hrE : ∀ j : Nat, (mRdE j).toInt ≤ 6) (hC : Cx X cX8_kinds 5 RX8 wsX8_kinds D [(cI, .int)] ({ frames := 5, cells := 0, slots := 0, locals := 114 } : Room) (some .int)) {res : (Int32 × (Nat → Int32))} (hX : Rx X D (some (.int res.1)) [(aMO, .inr (8, [.int mFault, .ref amS, .int mDays, .ref amH, .int mLin, .ref amK, .ref amO, .ref amD, .int mCool, .int mReadAt, .int mReadDays, .int mReadLin, .ref amRS, .ref amRH, .ref amRK, .ref amRO, .ref amRD, .ref amDN, .ref amSN, .int mDayNow, .int mLast, .int mTears, .int mWrong, .ref amTF, .ref amTFor, .ref amWB, .int mRdn, .ref amRdL, .ref amRdE, .ref amRdD, .ref amSz, .ref amLane, .ref amSh, .ref amHands, .int mTrace])), (amRdL, .inl (cI, 8, .inl mRdL)), (amRdE, .inl (cI, 8, .inl mRdE)), (amRdD, .inl (cI, 8, .inl mRdD)), (amH, .inl (cI, 6, .inl mH)), (amK, .inl (cI, 5, .inl res.2)), (amD, .inl (cI, 5, .inl mD))]) : ∀ (fu : Nat) (y3 : Int32) (y4 : Int32) (z_mK : Nat → Int32) (hm : ((3 : Int32).toInt - y4.toInt).toNat < fu) (h0_y4 : 0 ≤ y4.toInt) (hl : vp_in l 5) (hres : res = m_X8_kinds_22 fu mCool mRdn mRdL mRdE mRdD mH mK mD l y3 y4 z_mK), G X D 5 [(aMO, .inr (8, [.int mFault, .ref amS, .int mDays, .ref amH, .int mLin, .ref amK, .ref amO, .ref amD, .int mCool, .int mReadAt, .int mReadDays, .int mReadLin, .ref amRS, .ref amRH, .ref amRK, .ref amRO, .ref amRD, .ref amDN, .ref amSN, .int mDayNow, .int mLast, .int mTears, .int mWrong, .ref amTF, .ref amTFor, .ref amWB, .int mRdn, .ref amRdL, .ref amRdE, .ref amRdD, .ref amSz, .ref amLane, .ref amSh, .ref amHands, .int mTrace])), (amRdL, .inl (cI, 8, .inl mRdL)), (amRdE, .inl (cI, 8, .inl mRdE)), (amRdD, .inl (cI, 8, .inl mRdD)), (amH, .inl (cI, 6, .inl mH)), (amK, .inl (cI, 5, .inl z_mK)), (amD, .inl (cI, 5, .inl mD))] [(0, .ref aMO), (1, .int l), (2, .int (mK l.toNatClampNeg)), (3, .int y3), (4, .int y4)] 22 [] := by
  intro fu
  induction fu with
  | zero =>
    intro y3 y4 z_mK hm
    exact absurd hm (Nat.not_lt_zero _)
  | succ fu ih =>
    intro y3 y4 z_mK hm h0_y4 hl hres
    rw [m_X8_kinds_22] at hres
    refine g_iload hC dX8_kinds_22 4 rfl rfl ?_
    refine g_iconst (v := 3) hC dX8_kinds_24 (by decide) rfl ?_
    refine g_icmp_ge (tgt := 60) hC dX8_kinds_25 (by decide) rfl (fun c_25 => ?_) (fun c_25 => ?_)
    · rw [if_pos c_25] at hres
      refine g_aload_n hC dX8_kinds_60 rfl 0 rfl rfl ?_
      refine g_get hC iw_X8_kinds_RX8 0 rfl rfl 5 (by decide) (List.mem_of_getElem? (i := 1) rfl) rfl rfl dX8_kinds_61 rfl ?_
      refine g_iload_n hC dX8_kinds_64 rfl 1 rfl rfl ?_
      refine g_iload_n hC dX8_kinds_65 rfl 2 rfl rfl ?_
      refine g_iast (ws' := [(aMO, .inr (8, [.int mFault, .ref amS, .int mDays, .ref amH, .int mLin, .ref amK, .ref amO, .ref amD, .int mCool, .int mReadAt, .int mReadDays, .int mReadLin, .ref amRS, .ref amRH, .ref amRK, .ref amRO, .ref amRD, .ref amDN, .ref amSN, .int mDayNow, .int mLast, .int mTears, .int mWrong, .ref amTF, .ref amTFor, .ref amWB, .int mRdn, .ref amRdL, .ref amRdE, .ref amRdD, .ref amSz, .ref amLane, .ref amSh, .ref amHands, .int mTrace])), (amRdL, .inl (cI, 8, .inl mRdL)), (amRdE, .inl (cI, 8, .inl mRdE)), (amRdD, .inl (cI, 8, .inl mRdD)), (amH, .inl (cI, 6, .inl mH)), (amK, .inl (cI, 5, .inl (upd z_mK l.toNatClampNeg (mK l.toNatClampNeg)))), (amD, .inl (cI, 5, .inl mD))]) hC 5 0 rfl rfl (by exact hl) rfl dX8_kinds_66 rfl ?_
      refine g_iload_n hC dX8_kinds_67 rfl 3 rfl rfl ?_
      subst hres
      exact g_iret hC hX rfl dX8_kinds_68 rfl rfl
    · rw [if_neg c_25] at hres
      refine g_aload_n hC dX8_kinds_28 rfl 0 rfl rfl ?_
      refine g_get hC iw_X8_kinds_RX8 0 rfl rfl 5 (by decide) (List.mem_of_getElem? (i := 1) rfl) rfl rfl dX8_kinds_29 rfl ?_
      refine g_iload_n hC dX8_kinds_32 rfl 1 rfl rfl ?_
      refine g_iload hC dX8_kinds_33 4 rfl rfl ?_
      refine g_iast (ws' := [(aMO, .inr (8, [.int mFault, .ref amS, .int mDays, .ref amH, .int mLin, .ref amK, .ref amO, .ref amD, .int mCool, .int mReadAt, .int mReadDays, .int mReadLin, .ref amRS, .ref amRH, .ref amRK, .ref amRO, .ref amRD, .ref amDN, .ref amSN, .int mDayNow, .int mLast, .int mTears, .int mWrong, .ref amTF, .ref amTFor, .ref amWB, .int mRdn, .ref amRdL, .ref amRdE, .ref amRdD, .ref amSz, .ref amLane, .ref amSh, .ref amHands, .int mTrace])), (amRdL, .inl (cI, 8, .inl mRdL)), (amRdE, .inl (cI, 8, .inl mRdE)), (amRdD, .inl (cI, 8, .inl mRdD)), (amH, .inl (cI, 6, .inl mH)), (amK, .inl (cI, 5, .inl (upd z_mK l.toNatClampNeg y4))), (amD, .inl (cI, 5, .inl mD))]) hC 5 0 rfl rfl (by exact hl) rfl dX8_kinds_35 rfl ?_
      refine g_iload_n hC dX8_kinds_36 rfl 3 rfl rfl ?_
      refine g_aload_n hC dX8_kinds_37 rfl 0 rfl rfl ?_
      refine g_callV (ws' := [(aMO, .inr (8, [.int mFault, .ref amS, .int mDays, .ref amH, .int mLin, .ref amK, .ref amO, .ref amD, .int mCool, .int mReadAt, .int mReadDays, .int mReadLin, .ref amRS, .ref amRH, .ref amRK, .ref amRO, .ref amRD, .ref amDN, .ref amSN, .int mDayNow, .int mLast, .int mTears, .int mWrong, .ref amTF, .ref amTFor, .ref amWB, .int mRdn, .ref amRdL, .ref amRdE, .ref amRdD, .ref amSz, .ref amLane, .ref amSh, .ref amHands, .int mTrace])), (amRdL, .inl (cI, 8, .inl mRdL)), (amRdE, .inl (cI, 8, .inl mRdE)), (amRdD, .inl (cI, 8, .inl mRdD)), (amH, .inl (cI, 6, .inl mH)), (amK, .inl (cI, 5, .inl (upd z_mK l.toNatClampNeg y4))), (amD, .inl (cI, 5, .inl mD))]) (st' := [.int (m_X8_areSo mCool mRdn mRdL mRdE mRdD mH (upd z_mK l.toNatClampNeg y4) mD), .int y3]) (nw := 7) (n1 := 7) hC gX8_kinds_X8_areSo hdV_yX8_areSo 0 rfl rfl (As := []) (rest := [.int y3]) (c_X8_areSo D cI aMO mFault amS mDays amH mLin amK amO amD mCool mReadAt mReadDays mReadLin amRS amRH amRK amRO amRD amDN amSN mDayNow mLast mTears mWrong amTF amTFor amWB mRdn amRdL amRdE amRdD amSz amLane amSh amHands mTrace mRdL mRdE mRdD mH (upd z_mK l.toNatClampNeg y4) mD (by exact hn0) (by exact hn8) (by exact hrL) (by exact hrE)) rfl ⟨by decide, by decide⟩ rfl [0, 1, 2, 3, 4, 5, 6] [] [0, 1, 2, 3, 4, 5, 6] [0] rfl rfl rfl rfl (by decide) rfl rfl (Nat.le_of_ble_eq_true rfl) dX8_kinds_38 rfl rfl ?_
      have K_41 : ∀ vK : Int32, vK = (if (m_X8_areSo mCool mRdn mRdL mRdE mRdD mH (upd z_mK l.toNatClampNeg y4) mD) = 0 then (0 : Int32) else ((1 : Int32) <<< (y4 &&& 31))) → G X D 5 [(aMO, .inr (8, [.int mFault, .ref amS, .int mDays, .ref amH, .int mLin, .ref amK, .ref amO, .ref amD, .int mCool, .int mReadAt, .int mReadDays, .int mReadLin, .ref amRS, .ref amRH, .ref amRK, .ref amRO, .ref amRD, .ref amDN, .ref amSN, .int mDayNow, .int mLast, .int mTears, .int mWrong, .ref amTF, .ref amTFor, .ref amWB, .int mRdn, .ref amRdL, .ref amRdE, .ref amRdD, .ref amSz, .ref amLane, .ref amSh, .ref amHands, .int mTrace])), (amRdL, .inl (cI, 8, .inl mRdL)), (amRdE, .inl (cI, 8, .inl mRdE)), (amRdD, .inl (cI, 8, .inl mRdD)), (amH, .inl (cI, 6, .inl mH)), (amK, .inl (cI, 5, .inl (upd z_mK l.toNatClampNeg y4))), (amD, .inl (cI, 5, .inl mD))] [(0, .ref aMO), (1, .int l), (2, .int (mK l.toNatClampNeg)), (3, .int y3), (4, .int y4)] 52 (.int vK :: [.int y3]) := by
        intro vK hvK
        subst hvK
        refine g_ior hC dX8_kinds_52 rfl ?_
        refine g_istore_n (lv' := [(3, .int (y3 ||| (if (m_X8_areSo mCool mRdn mRdL mRdE mRdD mH (upd z_mK l.toNatClampNeg y4) mD) = 0 then (0 : Int32) else ((1 : Int32) <<< (y4 &&& 31))))), (0, .ref aMO), (1, .int l), (2, .int (mK l.toNatClampNeg)), (4, .int y4)]) hC dX8_kinds_53 rfl (by decide) rfl rfl ?_
        refine g_iinc (v := (y4 + 1)) (lv' := [(4, .int (y4 + 1)), (3, .int (y3 ||| (if (m_X8_areSo mCool mRdn mRdL mRdE mRdD mH (upd z_mK l.toNatClampNeg y4) mD) = 0 then (0 : Int32) else ((1 : Int32) <<< (y4 &&& 31))))), (0, .ref aMO), (1, .int l), (2, .int (mK l.toNatClampNeg))]) hC dX8_kinds_54 4 rfl rfl (by decide) rfl rfl ?_
        refine g_goto (tgt := 22) hC dX8_kinds_57 (by decide) ?_
        refine g_sub [2, 3, 4, 1, 0] rfl ?_
        exact ih (y3 ||| (if (m_X8_areSo mCool mRdn mRdL mRdE mRdD mH (upd z_mK l.toNatClampNeg y4) mD) = 0 then (0 : Int32) else ((1 : Int32) <<< (y4 &&& 31)))) (y4 + 1) (upd z_mK l.toNatClampNeg y4) (up_dec c_25 hm) (up_nn c_25 h0_y4) (by assumption) hres
      refine g_if_eq (tgt := 51) hC dX8_kinds_41 (by decide) rfl (fun c_41 => ?_) (fun c_41 => ?_)
      · refine g_iconst (v := 0) hC dX8_kinds_51 (by decide) rfl ?_
        exact K_41 _ (if_pos c_41).symm
      · refine g_iconst (v := 1) hC dX8_kinds_44 (by decide) rfl ?_
        refine g_iload hC dX8_kinds_45 4 rfl rfl ?_
        refine g_ishl hC dX8_kinds_47 rfl ?_
        refine g_goto (tgt := 52) hC dX8_kinds_48 (by decide) ?_
        exact K_41 _ (if_neg c_41).symm
set_option maxRecDepth 100000 in
set_option maxHeartbeats 4000000 in
theorem c_X8_kinds (D : va_G) (cI : ClassId) (aMO : Nat) (mFault : Int32) (amS : Nat) (mDays : Int32) (amH : Nat) (mLin : Int32) (amK : Nat) (amO : Nat) (amD : Nat) (mCool : Int32) (mReadAt : Int32) (mReadDays : Int32) (mReadLin : Int32) (amRS : Nat) (amRH : Nat) (amRK : Nat) (amRO : Nat) (amRD : Nat) (amDN : Nat) (amSN : Nat) (mDayNow : Int32) (mLast : Int32) (mTears : Int32) (mWrong : Int32) (amTF : Nat) (amTFor : Nat) (amWB : Nat) (mRdn : Int32) (amRdL : Nat) (amRdE : Nat) (amRdD : Nat) (amSz : Nat) (amLane : Nat) (amSh : Nat) (amHands : Nat) (mTrace : Int32) (mRdL : Nat → Int32) (mRdE : Nat → Int32) (mRdD : Nat → Int32) (mH : Nat → Int32) (mK : Nat → Int32) (mD : Nat → Int32) (l : Int32) (hl5 : mLin.toInt ≤ 5) (hn0 : 0 ≤ mRdn.toInt) (hn8 : mRdn.toInt ≤ 8) (hrL : ∀ j : Nat, vp_in (mRdL j) 5) (hrE : ∀ j : Nat, (mRdE j).toInt ≤ 6) : MC yX8_kinds wsX8_kinds ({ frames := 5, cells := 0, slots := 0, locals := 114 } : Room) D [(cI, .int)] [.ref aMO, .int l] [(aMO, .inr (8, [.int mFault, .ref amS, .int mDays, .ref amH, .int mLin, .ref amK, .ref amO, .ref amD, .int mCool, .int mReadAt, .int mReadDays, .int mReadLin, .ref amRS, .ref amRH, .ref amRK, .ref amRO, .ref amRD, .ref amDN, .ref amSN, .int mDayNow, .int mLast, .int mTears, .int mWrong, .ref amTF, .ref amTFor, .ref amWB, .int mRdn, .ref amRdL, .ref amRdE, .ref amRdD, .ref amSz, .ref amLane, .ref amSh, .ref amHands, .int mTrace])), (amRdL, .inl (cI, 8, .inl mRdL)), (amRdE, .inl (cI, 8, .inl mRdE)), (amRdD, .inl (cI, 8, .inl mRdD)), (amH, .inl (cI, 6, .inl mH)), (amK, .inl (cI, 5, .inl mK)), (amD, .inl (cI, 5, .inl mD))] (some (.int ((m_X8_kinds mLin mCool mRdn mRdL mRdE mRdD mH mK mD l).1))) [(aMO, .inr (8, [.int mFault, .ref amS, .int mDays, .ref amH, .int mLin, .ref amK, .ref amO, .ref amD, .int mCool, .int mReadAt, .int mReadDays, .int mReadLin, .ref amRS, .ref amRH, .ref amRK, .ref amRO, .ref amRD, .ref amDN, .ref amSN, .int mDayNow, .int mLast, .int mTears, .int mWrong, .ref amTF, .ref amTFor, .ref amWB, .int mRdn, .ref amRdL, .ref amRdE, .ref amRdD, .ref amSz, .ref amLane, .ref amSh, .ref amHands, .int mTrace])), (amRdL, .inl (cI, 8, .inl mRdL)), (amRdE, .inl (cI, 8, .inl mRdE)), (amRdD, .inl (cI, 8, .inl mRdD)), (amH, .inl (cI, 6, .inl mH)), (amK, .inl (cI, 5, .inl ((m_X8_kinds mLin mCool mRdn mRdL mRdE mRdD mH mK mD l).2))), (amD, .inl (cI, 5, .inl mD))] := by
  refine g_entry (by decide) rfl rfl rfl rfl (Nat.le_of_ble_eq_true rfl) (lv := [(0, .ref aMO), (1, .int l)]) rfl ?_
  intro X hC hX
  obtain ⟨res, hres⟩ : ∃ z, z = (m_X8_kinds mLin mCool mRdn mRdL mRdE mRdD mH mK mD l) := ⟨_, rfl⟩
  rw [← hres] at hX
  rw [m_X8_kinds] at hres
  refine g_aload_n hC dX8_kinds_0 rfl 0 rfl rfl ?_
  refine g_iload_n hC dX8_kinds_1 rfl 1 rfl rfl ?_
  refine g_callV (ws' := [(aMO, .inr (8, [.int mFault, .ref amS, .int mDays, .ref amH, .int mLin, .ref amK, .ref amO, .ref amD, .int mCool, .int mReadAt, .int mReadDays, .int mReadLin, .ref amRS, .ref amRH, .ref amRK, .ref amRO, .ref amRD, .ref amDN, .ref amSN, .int mDayNow, .int mLast, .int mTears, .int mWrong, .ref amTF, .ref amTFor, .ref amWB, .int mRdn, .ref amRdL, .ref amRdE, .ref amRdD, .ref amSz, .ref amLane, .ref amSh, .ref amHands, .int mTrace])), (amRdL, .inl (cI, 8, .inl mRdL)), (amRdE, .inl (cI, 8, .inl mRdE)), (amRdD, .inl (cI, 8, .inl mRdD)), (amH, .inl (cI, 6, .inl mH)), (amK, .inl (cI, 5, .inl mK)), (amD, .inl (cI, 5, .inl mD))]) (st' := [.int (m_X8_noLinen mLin l)]) (nw := 7) (n1 := 1) hC gX8_kinds_X8_noLinen hdV_yX8_noLinen 0 rfl rfl (As := [.int l]) (rest := []) (c_X8_noLinen D cI aMO mFault amS mDays amH mLin amK amO amD mCool mReadAt mReadDays mReadLin amRS amRH amRK amRO amRD amDN amSN mDayNow mLast mTears mWrong amTF amTFor amWB mRdn amRdL amRdE amRdD amSz amLane amSh amHands mTrace l) rfl ⟨by decide, by decide⟩ rfl [0] [1, 2, 3, 4, 5, 6] [6, 0, 1, 2, 3, 4, 5] [0] rfl rfl rfl rfl (by decide) rfl rfl (Nat.le_of_ble_eq_true rfl) dX8_kinds_2 rfl rfl ?_
  refine g_if_eq (tgt := 10) hC dX8_kinds_5 (by decide) rfl (fun c_5 => ?_) (fun c_5 => ?_)
  · rw [if_pos c_5] at hres
    refine g_aload_n hC dX8_kinds_10 rfl 0 rfl rfl ?_
    refine g_get hC iw_X8_kinds_RX8 0 rfl rfl 5 (by decide) (List.mem_of_getElem? (i := 1) rfl) rfl rfl dX8_kinds_11 rfl ?_
    refine g_iload_n hC dX8_kinds_14 rfl 1 rfl rfl ?_
    refine g_iald hC 5 0 rfl rfl (by exact nl_ok c_5 hl5) dX8_kinds_15 rfl ?_
    refine g_istore_n (lv' := [(2, .int (mK l.toNatClampNeg)), (0, .ref aMO), (1, .int l)]) hC dX8_kinds_16 rfl (by decide) rfl rfl ?_
    refine g_iconst (v := 0) hC dX8_kinds_17 (by decide) rfl ?_
    refine g_istore_n (lv' := [(3, .int (0 : Int32)), (2, .int (mK l.toNatClampNeg)), (0, .ref aMO), (1, .int l)]) hC dX8_kinds_18 rfl (by decide) rfl rfl ?_
    refine g_iconst (v := 0) hC dX8_kinds_19 (by decide) rfl ?_
    refine g_istore (lv' := [(4, .int (0 : Int32)), (3, .int (0 : Int32)), (2, .int (mK l.toNatClampNeg)), (0, .ref aMO), (1, .int l)]) hC dX8_kinds_20 (by decide) rfl rfl ?_
    refine g_sub [3, 4, 2, 1, 0] rfl ?_
    exact l_X8_kinds_22 D cI aMO mFault amS mDays amH mLin amK amO amD mCool mReadAt mReadDays mReadLin amRS amRH amRK amRO amRD amDN amSN mDayNow mLast mTears mWrong amTF amTFor amWB mRdn amRdL amRdE amRdD amSz amLane amSh amHands mTrace mRdL mRdE mRdD mH mK mD l hl5 hn0 hn8 hrL hrE hC hX (((3 : Int32).toInt - (0 : Int32).toInt).toNat + 1) (0 : Int32) (0 : Int32) mK (Nat.lt_succ_self _) (by decide) (by exact nl_ok (by assumption) (by assumption)) hres
  · rw [if_neg c_5] at hres
    refine g_iconst (v := -1) hC dX8_kinds_8 (by decide) rfl ?_
    subst hres
    exact g_iret hC hX rfl dX8_kinds_9 rfl rfl
