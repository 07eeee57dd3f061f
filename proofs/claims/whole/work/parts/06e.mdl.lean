theorem iw_X8_heats_RX8 : ∀ w ∈ wsX80, w ∈ wsX8_heats := fun _ h => List.mem_cons_of_mem _ (List.mem_append_right _ (h))
def m_X8_heats_22 : Nat → Int32 → Int32 → (Nat → Int32) → (Nat → Int32) → (Nat → Int32) → (Nat → Int32) → (Nat → Int32) → (Nat → Int32) → Int32 → Int32 → Int32 → (Nat → Int32) → (Int32 × (Nat → Int32))
  | 0, _, _, _, _, _, _, _, _, _, _, _, _ => default
  | fu + 1, mCool, mRdn, mRdL, mRdE, mRdD, mH, mK, mD, d, y3, y4, z_mH => (if (10 : Int32) ≤ y4 then (y3, (upd z_mH d.toNatClampNeg (mH d.toNatClampNeg))) else (m_X8_heats_22 fu mCool mRdn mRdL mRdE mRdD mH mK mD d (y3 ||| (if (m_X8_areSo mCool mRdn mRdL mRdE mRdD (upd z_mH d.toNatClampNeg y4) mK mD) = 0 then (0 : Int32) else ((1 : Int32) <<< (y4 &&& 31)))) (y4 + 1) (upd z_mH d.toNatClampNeg y4)))
def m_X8_heats (mDays : Int32) (mCool : Int32) (mRdn : Int32) (mRdL : Nat → Int32) (mRdE : Nat → Int32) (mRdD : Nat → Int32) (mH : Nat → Int32) (mK : Nat → Int32) (mD : Nat → Int32) (d : Int32) : (Int32 × (Nat → Int32)) := (if (m_X8_noDay mDays d) = 0 then (m_X8_heats_22 (((10 : Int32).toInt - (0 : Int32).toInt).toNat + 1) mCool mRdn mRdL mRdE mRdD mH mK mD d (0 : Int32) (0 : Int32) mH) else ((-1 : Int32), mH))
set_option maxRecDepth 100000 in
set_option maxHeartbeats 4000000 in
theorem l_X8_heats_22 {X : gX} (D : va_G) (cI : ClassId) (aMO : Nat) (mFault : Int32) (amS : Nat) (mDays : Int32) (amH : Nat) (mLin : Int32) (amK : Nat) (amO : Nat) (amD : Nat) (mCool : Int32) (mReadAt : Int32) (mReadDays : Int32) (mReadLin : Int32) (amRS : Nat) (amRH : Nat) (amRK : Nat) (amRO : Nat) (amRD : Nat) (amDN : Nat) (amSN : Nat) (mDayNow : Int32) (mLast : Int32) (mTears : Int32) (mWrong : Int32) (amTF : Nat) (amTFor : Nat) (amWB : Nat) (mRdn : Int32) (amRdL : Nat) (amRdE : Nat) (amRdD : Nat) (amSz : Nat) (amLane : Nat) (amSh : Nat) (amHands : Nat) (mTrace : Int32) (mRdL : Nat → Int32) (mRdE : Nat → Int32) (mRdD : Nat → Int32) (mH : Nat → Int32) (mK : Nat → Int32) (mD : Nat → Int32) (d : Int32) (hd6 : mDays.toInt ≤ 6) (hn0 : 0 ≤ mRdn.toInt) (hn8 : mRdn.toInt ≤ 8) (hrL : ∀ j : Nat, vp_in (mRdL j) 5) (hrE : ∀ j : Nat, (mRdE j).toInt ≤ 6) (hC : Cx X cX8_heats 5 RX8 wsX8_heats D [(cI, .int)] ({ frames := 5, cells := 0, slots := 0, locals := 114 } : Room) (some .int)) {res : (Int32 × (Nat → Int32))} (hX : Rx X D (some (.int res.1)) [(aMO, .inr (8, [.int mFault, .ref amS, .int mDays, .ref amH, .int mLin, .ref amK, .ref amO, .ref amD, .int mCool, .int mReadAt, .int mReadDays, .int mReadLin, .ref amRS, .ref amRH, .ref amRK, .ref amRO, .ref amRD, .ref amDN, .ref amSN, .int mDayNow, .int mLast, .int mTears, .int mWrong, .ref amTF, .ref amTFor, .ref amWB, .int mRdn, .ref amRdL, .ref amRdE, .ref amRdD, .ref amSz, .ref amLane, .ref amSh, .ref amHands, .int mTrace])), (amRdL, .inl (cI, 8, .inl mRdL)), (amRdE, .inl (cI, 8, .inl mRdE)), (amRdD, .inl (cI, 8, .inl mRdD)), (amH, .inl (cI, 6, .inl res.2)), (amK, .inl (cI, 5, .inl mK)), (amD, .inl (cI, 5, .inl mD))]) : ∀ (fu : Nat) (y3 : Int32) (y4 : Int32) (z_mH : Nat → Int32) (hm : ((10 : Int32).toInt - y4.toInt).toNat < fu) (h0_y4 : 0 ≤ y4.toInt) (hd : vp_in d 6) (hres : res = m_X8_heats_22 fu mCool mRdn mRdL mRdE mRdD mH mK mD d y3 y4 z_mH), G X D 5 [(aMO, .inr (8, [.int mFault, .ref amS, .int mDays, .ref amH, .int mLin, .ref amK, .ref amO, .ref amD, .int mCool, .int mReadAt, .int mReadDays, .int mReadLin, .ref amRS, .ref amRH, .ref amRK, .ref amRO, .ref amRD, .ref amDN, .ref amSN, .int mDayNow, .int mLast, .int mTears, .int mWrong, .ref amTF, .ref amTFor, .ref amWB, .int mRdn, .ref amRdL, .ref amRdE, .ref amRdD, .ref amSz, .ref amLane, .ref amSh, .ref amHands, .int mTrace])), (amRdL, .inl (cI, 8, .inl mRdL)), (amRdE, .inl (cI, 8, .inl mRdE)), (amRdD, .inl (cI, 8, .inl mRdD)), (amH, .inl (cI, 6, .inl z_mH)), (amK, .inl (cI, 5, .inl mK)), (amD, .inl (cI, 5, .inl mD))] [(0, .ref aMO), (1, .int d), (2, .int (mH d.toNatClampNeg)), (3, .int y3), (4, .int y4)] 22 [] := by
  intro fu
  induction fu with
  | zero =>
    intro y3 y4 z_mH hm
    exact absurd hm (Nat.not_lt_zero _)
  | succ fu ih =>
    intro y3 y4 z_mH hm h0_y4 hd hres
    rw [m_X8_heats_22] at hres
    refine g_iload hC dX8_heats_22 4 rfl rfl ?_
    refine g_bipush (v := 10) hC dX8_heats_24 (by decide) rfl ?_
    refine g_icmp_ge (tgt := 61) hC dX8_heats_26 (by decide) rfl (fun c_26 => ?_) (fun c_26 => ?_)
    · rw [if_pos c_26] at hres
      refine g_aload_n hC dX8_heats_61 rfl 0 rfl rfl ?_
      refine g_get hC iw_X8_heats_RX8 0 rfl rfl 3 (by decide) (List.mem_of_getElem? (i := 1) rfl) rfl rfl dX8_heats_62 rfl ?_
      refine g_iload_n hC dX8_heats_65 rfl 1 rfl rfl ?_
      refine g_iload_n hC dX8_heats_66 rfl 2 rfl rfl ?_
      refine g_iast (ws' := [(aMO, .inr (8, [.int mFault, .ref amS, .int mDays, .ref amH, .int mLin, .ref amK, .ref amO, .ref amD, .int mCool, .int mReadAt, .int mReadDays, .int mReadLin, .ref amRS, .ref amRH, .ref amRK, .ref amRO, .ref amRD, .ref amDN, .ref amSN, .int mDayNow, .int mLast, .int mTears, .int mWrong, .ref amTF, .ref amTFor, .ref amWB, .int mRdn, .ref amRdL, .ref amRdE, .ref amRdD, .ref amSz, .ref amLane, .ref amSh, .ref amHands, .int mTrace])), (amRdL, .inl (cI, 8, .inl mRdL)), (amRdE, .inl (cI, 8, .inl mRdE)), (amRdD, .inl (cI, 8, .inl mRdD)), (amH, .inl (cI, 6, .inl (upd z_mH d.toNatClampNeg (mH d.toNatClampNeg)))), (amK, .inl (cI, 5, .inl mK)), (amD, .inl (cI, 5, .inl mD))]) hC 4 0 rfl rfl (by exact hd) rfl dX8_heats_67 rfl ?_
      refine g_iload_n hC dX8_heats_68 rfl 3 rfl rfl ?_
      subst hres
      exact g_iret hC hX rfl dX8_heats_69 rfl rfl
    · rw [if_neg c_26] at hres
      refine g_aload_n hC dX8_heats_29 rfl 0 rfl rfl ?_
      refine g_get hC iw_X8_heats_RX8 0 rfl rfl 3 (by decide) (List.mem_of_getElem? (i := 1) rfl) rfl rfl dX8_heats_30 rfl ?_
      refine g_iload_n hC dX8_heats_33 rfl 1 rfl rfl ?_
      refine g_iload hC dX8_heats_34 4 rfl rfl ?_
      refine g_iast (ws' := [(aMO, .inr (8, [.int mFault, .ref amS, .int mDays, .ref amH, .int mLin, .ref amK, .ref amO, .ref amD, .int mCool, .int mReadAt, .int mReadDays, .int mReadLin, .ref amRS, .ref amRH, .ref amRK, .ref amRO, .ref amRD, .ref amDN, .ref amSN, .int mDayNow, .int mLast, .int mTears, .int mWrong, .ref amTF, .ref amTFor, .ref amWB, .int mRdn, .ref amRdL, .ref amRdE, .ref amRdD, .ref amSz, .ref amLane, .ref amSh, .ref amHands, .int mTrace])), (amRdL, .inl (cI, 8, .inl mRdL)), (amRdE, .inl (cI, 8, .inl mRdE)), (amRdD, .inl (cI, 8, .inl mRdD)), (amH, .inl (cI, 6, .inl (upd z_mH d.toNatClampNeg y4))), (amK, .inl (cI, 5, .inl mK)), (amD, .inl (cI, 5, .inl mD))]) hC 4 0 rfl rfl (by exact hd) rfl dX8_heats_36 rfl ?_
      refine g_iload_n hC dX8_heats_37 rfl 3 rfl rfl ?_
      refine g_aload_n hC dX8_heats_38 rfl 0 rfl rfl ?_
      refine g_callV (ws' := [(aMO, .inr (8, [.int mFault, .ref amS, .int mDays, .ref amH, .int mLin, .ref amK, .ref amO, .ref amD, .int mCool, .int mReadAt, .int mReadDays, .int mReadLin, .ref amRS, .ref amRH, .ref amRK, .ref amRO, .ref amRD, .ref amDN, .ref amSN, .int mDayNow, .int mLast, .int mTears, .int mWrong, .ref amTF, .ref amTFor, .ref amWB, .int mRdn, .ref amRdL, .ref amRdE, .ref amRdD, .ref amSz, .ref amLane, .ref amSh, .ref amHands, .int mTrace])), (amRdL, .inl (cI, 8, .inl mRdL)), (amRdE, .inl (cI, 8, .inl mRdE)), (amRdD, .inl (cI, 8, .inl mRdD)), (amH, .inl (cI, 6, .inl (upd z_mH d.toNatClampNeg y4))), (amK, .inl (cI, 5, .inl mK)), (amD, .inl (cI, 5, .inl mD))]) (st' := [.int (m_X8_areSo mCool mRdn mRdL mRdE mRdD (upd z_mH d.toNatClampNeg y4) mK mD), .int y3]) (nw := 7) (n1 := 7) hC gX8_heats_X8_areSo hdV_yX8_areSo 0 rfl rfl (As := []) (rest := [.int y3]) (c_X8_areSo D cI aMO mFault amS mDays amH mLin amK amO amD mCool mReadAt mReadDays mReadLin amRS amRH amRK amRO amRD amDN amSN mDayNow mLast mTears mWrong amTF amTFor amWB mRdn amRdL amRdE amRdD amSz amLane amSh amHands mTrace mRdL mRdE mRdD (upd z_mH d.toNatClampNeg y4) mK mD (by exact hn0) (by exact hn8) (by exact hrL) (by exact hrE)) rfl ⟨by decide, by decide⟩ rfl [0, 1, 2, 3, 4, 5, 6] [] [0, 1, 2, 3, 4, 5, 6] [0] rfl rfl rfl rfl (by decide) rfl rfl (Nat.le_of_ble_eq_true rfl) dX8_heats_39 rfl rfl ?_
      have K_42 : ∀ vK : Int32, vK = (if (m_X8_areSo mCool mRdn mRdL mRdE mRdD (upd z_mH d.toNatClampNeg y4) mK mD) = 0 then (0 : Int32) else ((1 : Int32) <<< (y4 &&& 31))) → G X D 5 [(aMO, .inr (8, [.int mFault, .ref amS, .int mDays, .ref amH, .int mLin, .ref amK, .ref amO, .ref amD, .int mCool, .int mReadAt, .int mReadDays, .int mReadLin, .ref amRS, .ref amRH, .ref amRK, .ref amRO, .ref amRD, .ref amDN, .ref amSN, .int mDayNow, .int mLast, .int mTears, .int mWrong, .ref amTF, .ref amTFor, .ref amWB, .int mRdn, .ref amRdL, .ref amRdE, .ref amRdD, .ref amSz, .ref amLane, .ref amSh, .ref amHands, .int mTrace])), (amRdL, .inl (cI, 8, .inl mRdL)), (amRdE, .inl (cI, 8, .inl mRdE)), (amRdD, .inl (cI, 8, .inl mRdD)), (amH, .inl (cI, 6, .inl (upd z_mH d.toNatClampNeg y4))), (amK, .inl (cI, 5, .inl mK)), (amD, .inl (cI, 5, .inl mD))] [(0, .ref aMO), (1, .int d), (2, .int (mH d.toNatClampNeg)), (3, .int y3), (4, .int y4)] 53 (.int vK :: [.int y3]) := by
        intro vK hvK
        subst hvK
        refine g_ior hC dX8_heats_53 rfl ?_
        refine g_istore_n (lv' := [(3, .int (y3 ||| (if (m_X8_areSo mCool mRdn mRdL mRdE mRdD (upd z_mH d.toNatClampNeg y4) mK mD) = 0 then (0 : Int32) else ((1 : Int32) <<< (y4 &&& 31))))), (0, .ref aMO), (1, .int d), (2, .int (mH d.toNatClampNeg)), (4, .int y4)]) hC dX8_heats_54 rfl (by decide) rfl rfl ?_
        refine g_iinc (v := (y4 + 1)) (lv' := [(4, .int (y4 + 1)), (3, .int (y3 ||| (if (m_X8_areSo mCool mRdn mRdL mRdE mRdD (upd z_mH d.toNatClampNeg y4) mK mD) = 0 then (0 : Int32) else ((1 : Int32) <<< (y4 &&& 31))))), (0, .ref aMO), (1, .int d), (2, .int (mH d.toNatClampNeg))]) hC dX8_heats_55 4 rfl rfl (by decide) rfl rfl ?_
        refine g_goto (tgt := 22) hC dX8_heats_58 (by decide) ?_
        refine g_sub [2, 3, 4, 1, 0] rfl ?_
        exact ih (y3 ||| (if (m_X8_areSo mCool mRdn mRdL mRdE mRdD (upd z_mH d.toNatClampNeg y4) mK mD) = 0 then (0 : Int32) else ((1 : Int32) <<< (y4 &&& 31)))) (y4 + 1) (upd z_mH d.toNatClampNeg y4) (up_dec c_26 hm) (up_nn c_26 h0_y4) (by assumption) hres
      refine g_if_eq (tgt := 52) hC dX8_heats_42 (by decide) rfl (fun c_42 => ?_) (fun c_42 => ?_)
      · refine g_iconst (v := 0) hC dX8_heats_52 (by decide) rfl ?_
        exact K_42 _ (if_pos c_42).symm
      · refine g_iconst (v := 1) hC dX8_heats_45 (by decide) rfl ?_
        refine g_iload hC dX8_heats_46 4 rfl rfl ?_
        refine g_ishl hC dX8_heats_48 rfl ?_
        refine g_goto (tgt := 53) hC dX8_heats_49 (by decide) ?_
        exact K_42 _ (if_neg c_42).symm
set_option maxRecDepth 100000 in
set_option maxHeartbeats 4000000 in
theorem c_X8_heats (D : va_G) (cI : ClassId) (aMO : Nat) (mFault : Int32) (amS : Nat) (mDays : Int32) (amH : Nat) (mLin : Int32) (amK : Nat) (amO : Nat) (amD : Nat) (mCool : Int32) (mReadAt : Int32) (mReadDays : Int32) (mReadLin : Int32) (amRS : Nat) (amRH : Nat) (amRK : Nat) (amRO : Nat) (amRD : Nat) (amDN : Nat) (amSN : Nat) (mDayNow : Int32) (mLast : Int32) (mTears : Int32) (mWrong : Int32) (amTF : Nat) (amTFor : Nat) (amWB : Nat) (mRdn : Int32) (amRdL : Nat) (amRdE : Nat) (amRdD : Nat) (amSz : Nat) (amLane : Nat) (amSh : Nat) (amHands : Nat) (mTrace : Int32) (mRdL : Nat → Int32) (mRdE : Nat → Int32) (mRdD : Nat → Int32) (mH : Nat → Int32) (mK : Nat → Int32) (mD : Nat → Int32) (d : Int32) (hd6 : mDays.toInt ≤ 6) (hn0 : 0 ≤ mRdn.toInt) (hn8 : mRdn.toInt ≤ 8) (hrL : ∀ j : Nat, vp_in (mRdL j) 5) (hrE : ∀ j : Nat, (mRdE j).toInt ≤ 6) : MC yX8_heats wsX8_heats ({ frames := 5, cells := 0, slots := 0, locals := 114 } : Room) D [(cI, .int)] [.ref aMO, .int d] [(aMO, .inr (8, [.int mFault, .ref amS, .int mDays, .ref amH, .int mLin, .ref amK, .ref amO, .ref amD, .int mCool, .int mReadAt, .int mReadDays, .int mReadLin, .ref amRS, .ref amRH, .ref amRK, .ref amRO, .ref amRD, .ref amDN, .ref amSN, .int mDayNow, .int mLast, .int mTears, .int mWrong, .ref amTF, .ref amTFor, .ref amWB, .int mRdn, .ref amRdL, .ref amRdE, .ref amRdD, .ref amSz, .ref amLane, .ref amSh, .ref amHands, .int mTrace])), (amRdL, .inl (cI, 8, .inl mRdL)), (amRdE, .inl (cI, 8, .inl mRdE)), (amRdD, .inl (cI, 8, .inl mRdD)), (amH, .inl (cI, 6, .inl mH)), (amK, .inl (cI, 5, .inl mK)), (amD, .inl (cI, 5, .inl mD))] (some (.int ((m_X8_heats mDays mCool mRdn mRdL mRdE mRdD mH mK mD d).1))) [(aMO, .inr (8, [.int mFault, .ref amS, .int mDays, .ref amH, .int mLin, .ref amK, .ref amO, .ref amD, .int mCool, .int mReadAt, .int mReadDays, .int mReadLin, .ref amRS, .ref amRH, .ref amRK, .ref amRO, .ref amRD, .ref amDN, .ref amSN, .int mDayNow, .int mLast, .int mTears, .int mWrong, .ref amTF, .ref amTFor, .ref amWB, .int mRdn, .ref amRdL, .ref amRdE, .ref amRdD, .ref amSz, .ref amLane, .ref amSh, .ref amHands, .int mTrace])), (amRdL, .inl (cI, 8, .inl mRdL)), (amRdE, .inl (cI, 8, .inl mRdE)), (amRdD, .inl (cI, 8, .inl mRdD)), (amH, .inl (cI, 6, .inl ((m_X8_heats mDays mCool mRdn mRdL mRdE mRdD mH mK mD d).2))), (amK, .inl (cI, 5, .inl mK)), (amD, .inl (cI, 5, .inl mD))] := by
  refine g_entry (by decide) rfl rfl rfl rfl (Nat.le_of_ble_eq_true rfl) (lv := [(0, .ref aMO), (1, .int d)]) rfl ?_
  intro X hC hX
  obtain ⟨res, hres⟩ : ∃ z, z = (m_X8_heats mDays mCool mRdn mRdL mRdE mRdD mH mK mD d) := ⟨_, rfl⟩
  rw [← hres] at hX
  rw [m_X8_heats] at hres
  refine g_aload_n hC dX8_heats_0 rfl 0 rfl rfl ?_
  refine g_iload_n hC dX8_heats_1 rfl 1 rfl rfl ?_
  refine g_callV (ws' := [(aMO, .inr (8, [.int mFault, .ref amS, .int mDays, .ref amH, .int mLin, .ref amK, .ref amO, .ref amD, .int mCool, .int mReadAt, .int mReadDays, .int mReadLin, .ref amRS, .ref amRH, .ref amRK, .ref amRO, .ref amRD, .ref amDN, .ref amSN, .int mDayNow, .int mLast, .int mTears, .int mWrong, .ref amTF, .ref amTFor, .ref amWB, .int mRdn, .ref amRdL, .ref amRdE, .ref amRdD, .ref amSz, .ref amLane, .ref amSh, .ref amHands, .int mTrace])), (amRdL, .inl (cI, 8, .inl mRdL)), (amRdE, .inl (cI, 8, .inl mRdE)), (amRdD, .inl (cI, 8, .inl mRdD)), (amH, .inl (cI, 6, .inl mH)), (amK, .inl (cI, 5, .inl mK)), (amD, .inl (cI, 5, .inl mD))]) (st' := [.int (m_X8_noDay mDays d)]) (nw := 7) (n1 := 1) hC gX8_heats_X8_noDay hdV_yX8_noDay 0 rfl rfl (As := [.int d]) (rest := []) (c_X8_noDay D cI aMO mFault amS mDays amH mLin amK amO amD mCool mReadAt mReadDays mReadLin amRS amRH amRK amRO amRD amDN amSN mDayNow mLast mTears mWrong amTF amTFor amWB mRdn amRdL amRdE amRdD amSz amLane amSh amHands mTrace d) rfl ⟨by decide, by decide⟩ rfl [0] [1, 2, 3, 4, 5, 6] [6, 0, 1, 2, 3, 4, 5] [0] rfl rfl rfl rfl (by decide) rfl rfl (Nat.le_of_ble_eq_true rfl) dX8_heats_2 rfl rfl ?_
  refine g_if_eq (tgt := 10) hC dX8_heats_5 (by decide) rfl (fun c_5 => ?_) (fun c_5 => ?_)
  · rw [if_pos c_5] at hres
    refine g_aload_n hC dX8_heats_10 rfl 0 rfl rfl ?_
    refine g_get hC iw_X8_heats_RX8 0 rfl rfl 3 (by decide) (List.mem_of_getElem? (i := 1) rfl) rfl rfl dX8_heats_11 rfl ?_
    refine g_iload_n hC dX8_heats_14 rfl 1 rfl rfl ?_
    refine g_iald hC 4 0 rfl rfl (by exact nd_ok c_5 hd6) dX8_heats_15 rfl ?_
    refine g_istore_n (lv' := [(2, .int (mH d.toNatClampNeg)), (0, .ref aMO), (1, .int d)]) hC dX8_heats_16 rfl (by decide) rfl rfl ?_
    refine g_iconst (v := 0) hC dX8_heats_17 (by decide) rfl ?_
    refine g_istore_n (lv' := [(3, .int (0 : Int32)), (2, .int (mH d.toNatClampNeg)), (0, .ref aMO), (1, .int d)]) hC dX8_heats_18 rfl (by decide) rfl rfl ?_
    refine g_iconst (v := 0) hC dX8_heats_19 (by decide) rfl ?_
    refine g_istore (lv' := [(4, .int (0 : Int32)), (3, .int (0 : Int32)), (2, .int (mH d.toNatClampNeg)), (0, .ref aMO), (1, .int d)]) hC dX8_heats_20 (by decide) rfl rfl ?_
    refine g_sub [3, 4, 2, 1, 0] rfl ?_
    exact l_X8_heats_22 D cI aMO mFault amS mDays amH mLin amK amO amD mCool mReadAt mReadDays mReadLin amRS amRH amRK amRO amRD amDN amSN mDayNow mLast mTears mWrong amTF amTFor amWB mRdn amRdL amRdE amRdD amSz amLane amSh amHands mTrace mRdL mRdE mRdD mH mK mD d hd6 hn0 hn8 hrL hrE hC hX (((10 : Int32).toInt - (0 : Int32).toInt).toNat + 1) (0 : Int32) (0 : Int32) mH (Nat.lt_succ_self _) (by decide) (by exact nd_ok (by assumption) (by assumption)) hres
  · rw [if_neg c_5] at hres
    refine g_iconst (v := -1) hC dX8_heats_8 (by decide) rfl ?_
    subst hres
    exact g_iret hC hX rfl dX8_heats_9 rfl rfl
def m_X8_isAct (mLin : Int32) (act : Int32) : (Int32) := (if act = (40 : Int32) then (1 : Int32) else (if (m_X8_in act.toInt64 (0 : Int64) (39 : Int64)) = 0 then (0 : Int32) else (if (m_X8_noLinen mLin (act - act / (10 : Int32) * (10 : Int32))) = 0 then (1 : Int32) else (0 : Int32))))
set_option maxRecDepth 100000 in
set_option maxHeartbeats 4000000 in
theorem c_X8_isAct (D : va_G) (cI : ClassId) (aMO : Nat) (mFault : Int32) (amS : Nat) (mDays : Int32) (amH : Nat) (mLin : Int32) (amK : Nat) (amO : Nat) (amD : Nat) (mCool : Int32) (mReadAt : Int32) (mReadDays : Int32) (mReadLin : Int32) (amRS : Nat) (amRH : Nat) (amRK : Nat) (amRO : Nat) (amRD : Nat) (amDN : Nat) (amSN : Nat) (mDayNow : Int32) (mLast : Int32) (mTears : Int32) (mWrong : Int32) (amTF : Nat) (amTFor : Nat) (amWB : Nat) (mRdn : Int32) (amRdL : Nat) (amRdE : Nat) (amRdD : Nat) (amSz : Nat) (amLane : Nat) (amSh : Nat) (amHands : Nat) (mTrace : Int32) (act : Int32) : MC yX8_isAct wsX8_isAct ({ frames := 2, cells := 0, slots := 0, locals := 46 } : Room) D [(cI, .int)] [.ref aMO, .int act] [(aMO, .inr (8, [.int mFault, .ref amS, .int mDays, .ref amH, .int mLin, .ref amK, .ref amO, .ref amD, .int mCool, .int mReadAt, .int mReadDays, .int mReadLin, .ref amRS, .ref amRH, .ref amRK, .ref amRO, .ref amRD, .ref amDN, .ref amSN, .int mDayNow, .int mLast, .int mTears, .int mWrong, .ref amTF, .ref amTFor, .ref amWB, .int mRdn, .ref amRdL, .ref amRdE, .ref amRdD, .ref amSz, .ref amLane, .ref amSh, .ref amHands, .int mTrace]))] (some (.int (m_X8_isAct mLin act))) [(aMO, .inr (8, [.int mFault, .ref amS, .int mDays, .ref amH, .int mLin, .ref amK, .ref amO, .ref amD, .int mCool, .int mReadAt, .int mReadDays, .int mReadLin, .ref amRS, .ref amRH, .ref amRK, .ref amRO, .ref amRD, .ref amDN, .ref amSN, .int mDayNow, .int mLast, .int mTears, .int mWrong, .ref amTF, .ref amTFor, .ref amWB, .int mRdn, .ref amRdL, .ref amRdE, .ref amRdD, .ref amSz, .ref amLane, .ref amSh, .ref amHands, .int mTrace]))] := by
  refine g_entry (by decide) rfl rfl rfl rfl (Nat.le_of_ble_eq_true rfl) (lv := [(0, .ref aMO), (1, .int act)]) rfl ?_
  intro X hC hX
  obtain ⟨res, hres⟩ : ∃ z, z = (m_X8_isAct mLin act) := ⟨_, rfl⟩
  rw [← hres] at hX
  rw [m_X8_isAct] at hres
  refine g_iload_n hC dX8_isAct_0 rfl 1 rfl rfl ?_
  refine g_bipush (v := 40) hC dX8_isAct_1 (by decide) rfl ?_
  refine g_icmp_eq (tgt := 29) hC dX8_isAct_3 (by decide) rfl (fun c_3 => ?_) (fun c_3 => ?_)
  · rw [if_pos c_3] at hres
    refine g_iconst (v := 1) hC dX8_isAct_29 (by decide) rfl ?_
    refine g_goto (tgt := 34) hC dX8_isAct_30 (by decide) ?_
    subst hres
    exact g_zret hC hX rfl rfl dX8_isAct_34 rfl rfl
  · rw [if_neg c_3] at hres
    refine g_iload_n hC dX8_isAct_6 rfl 1 rfl rfl ?_
    refine g_i2l hC dX8_isAct_7 rfl ?_
    refine g_lconst (v := 0) hC dX8_isAct_8 (by decide) rfl ?_
    refine g_ldc2 (v := 39) hC (List.mem_of_getElem? (i := 1) rfl) dX8_isAct_9 rfl ?_
    refine g_callS (ws' := [(aMO, .inr (8, [.int mFault, .ref amS, .int mDays, .ref amH, .int mLin, .ref amK, .ref amO, .ref amD, .int mCool, .int mReadAt, .int mReadDays, .int mReadLin, .ref amRS, .ref amRH, .ref amRK, .ref amRO, .ref amRD, .ref amDN, .ref amSN, .int mDayNow, .int mLast, .int mTears, .int mWrong, .ref amTF, .ref amTFor, .ref amWB, .int mRdn, .ref amRdL, .ref amRdE, .ref amRdD, .ref amSz, .ref amLane, .ref amSh, .ref amHands, .int mTrace]))]) (st' := [.int (m_X8_in act.toInt64 (0 : Int64) (39 : Int64))]) (nw := 1) (n1 := 0) hC gX8_isAct_X8_in hdS_yX8_in (As := [.long act.toInt64, .long (0 : Int64), .long (39 : Int64)]) (rest := []) (c_X8_in D cI act.toInt64 (0 : Int64) (39 : Int64)) rfl ⟨by decide, by decide⟩ rfl [] [0] [0] [0] rfl rfl rfl rfl (by decide) rfl rfl (Nat.le_of_ble_eq_true rfl) dX8_isAct_12 rfl rfl ?_
    refine g_if_eq (tgt := 33) hC dX8_isAct_15 (by decide) rfl (fun c_15 => ?_) (fun c_15 => ?_)
    · rw [if_pos c_15] at hres
      refine g_iconst (v := 0) hC dX8_isAct_33 (by decide) rfl ?_
      subst hres
      exact g_zret hC hX rfl rfl dX8_isAct_34 rfl rfl
    · rw [if_neg c_15] at hres
      refine g_aload_n hC dX8_isAct_18 rfl 0 rfl rfl ?_
      refine g_iload_n hC dX8_isAct_19 rfl 1 rfl rfl ?_
      refine g_bipush (v := 10) hC dX8_isAct_20 (by decide) rfl ?_
      refine g_irem hC dX8_isAct_22 (by decide) rfl ?_
      refine g_callV (ws' := [(aMO, .inr (8, [.int mFault, .ref amS, .int mDays, .ref amH, .int mLin, .ref amK, .ref amO, .ref amD, .int mCool, .int mReadAt, .int mReadDays, .int mReadLin, .ref amRS, .ref amRH, .ref amRK, .ref amRO, .ref amRD, .ref amDN, .ref amSN, .int mDayNow, .int mLast, .int mTears, .int mWrong, .ref amTF, .ref amTFor, .ref amWB, .int mRdn, .ref amRdL, .ref amRdE, .ref amRdD, .ref amSz, .ref amLane, .ref amSh, .ref amHands, .int mTrace]))]) (st' := [.int (m_X8_noLinen mLin (act - act / (10 : Int32) * (10 : Int32)))]) (nw := 1) (n1 := 1) hC gX8_isAct_X8_noLinen hdV_yX8_noLinen 0 rfl rfl (As := [.int (act - act / (10 : Int32) * (10 : Int32))]) (rest := []) (c_X8_noLinen D cI aMO mFault amS mDays amH mLin amK amO amD mCool mReadAt mReadDays mReadLin amRS amRH amRK amRO amRD amDN amSN mDayNow mLast mTears mWrong amTF amTFor amWB mRdn amRdL amRdE amRdD amSz amLane amSh amHands mTrace (act - act / (10 : Int32) * (10 : Int32))) rfl ⟨by decide, by decide⟩ rfl [0] [] [0] [0] rfl rfl rfl rfl (by decide) rfl rfl (Nat.le_of_ble_eq_true rfl) dX8_isAct_23 rfl rfl ?_
      refine g_if_ne (tgt := 33) hC dX8_isAct_26 (by decide) rfl (fun c_26 => ?_) (fun c_26 => ?_)
      · rw [if_neg c_26] at hres
        refine g_iconst (v := 0) hC dX8_isAct_33 (by decide) rfl ?_
        subst hres
        exact g_zret hC hX rfl rfl dX8_isAct_34 rfl rfl
      · rw [if_pos c_26] at hres
        refine g_iconst (v := 1) hC dX8_isAct_29 (by decide) rfl ?_
        refine g_goto (tgt := 34) hC dX8_isAct_30 (by decide) ?_
        subst hres
        exact g_zret hC hX rfl rfl dX8_isAct_34 rfl rfl
theorem iw_X8_noCell_RX8 : ∀ w ∈ wsX80, w ∈ wsX8_noCell := fun _ h => List.mem_cons_of_mem _ (List.mem_append_right _ (h))
def m_X8_noCell (mSz : Nat → Int32) (k : Int32) (i : Int32) : (Int32) := (if 0 ≤ (mSz k.toNatClampNeg) then (if (m_X8_in i.toInt64 (0 : Int64) ((mSz k.toNatClampNeg).toInt64 - (1 : Int64))) = 0 then (3 : Int32) else (0 : Int32)) else (1 : Int32))
set_option maxRecDepth 100000 in
set_option maxHeartbeats 4000000 in
theorem c_X8_noCell (D : va_G) (cI : ClassId) (aMO : Nat) (mFault : Int32) (amS : Nat) (mDays : Int32) (amH : Nat) (mLin : Int32) (amK : Nat) (amO : Nat) (amD : Nat) (mCool : Int32) (mReadAt : Int32) (mReadDays : Int32) (mReadLin : Int32) (amRS : Nat) (amRH : Nat) (amRK : Nat) (amRO : Nat) (amRD : Nat) (amDN : Nat) (amSN : Nat) (mDayNow : Int32) (mLast : Int32) (mTears : Int32) (mWrong : Int32) (amTF : Nat) (amTFor : Nat) (amWB : Nat) (mRdn : Int32) (amRdL : Nat) (amRdE : Nat) (amRdD : Nat) (amSz : Nat) (amLane : Nat) (amSh : Nat) (amHands : Nat) (mTrace : Int32) (mSz : Nat → Int32) (k : Int32) (i : Int32) (hk : vp_in k 4) : MC yX8_noCell wsX8_noCell ({ frames := 1, cells := 0, slots := 0, locals := 25 } : Room) D [(cI, .int)] [.ref aMO, .int k, .int i] [(aMO, .inr (8, [.int mFault, .ref amS, .int mDays, .ref amH, .int mLin, .ref amK, .ref amO, .ref amD, .int mCool, .int mReadAt, .int mReadDays, .int mReadLin, .ref amRS, .ref amRH, .ref amRK, .ref amRO, .ref amRD, .ref amDN, .ref amSN, .int mDayNow, .int mLast, .int mTears, .int mWrong, .ref amTF, .ref amTFor, .ref amWB, .int mRdn, .ref amRdL, .ref amRdE, .ref amRdD, .ref amSz, .ref amLane, .ref amSh, .ref amHands, .int mTrace])), (amSz, .inl (cI, 4, .inl mSz))] (some (.int (m_X8_noCell mSz k i))) [(aMO, .inr (8, [.int mFault, .ref amS, .int mDays, .ref amH, .int mLin, .ref amK, .ref amO, .ref amD, .int mCool, .int mReadAt, .int mReadDays, .int mReadLin, .ref amRS, .ref amRH, .ref amRK, .ref amRO, .ref amRD, .ref amDN, .ref amSN, .int mDayNow, .int mLast, .int mTears, .int mWrong, .ref amTF, .ref amTFor, .ref amWB, .int mRdn, .ref amRdL, .ref amRdE, .ref amRdD, .ref amSz, .ref amLane, .ref amSh, .ref amHands, .int mTrace])), (amSz, .inl (cI, 4, .inl mSz))] := by
  refine g_entry (by decide) rfl rfl rfl rfl (Nat.le_of_ble_eq_true rfl) (lv := [(0, .ref aMO), (1, .int k), (2, .int i)]) rfl ?_
  intro X hC hX
  obtain ⟨res, hres⟩ : ∃ z, z = (m_X8_noCell mSz k i) := ⟨_, rfl⟩
  rw [← hres] at hX
  rw [m_X8_noCell] at hres
  refine g_aload_n hC dX8_noCell_0 rfl 0 rfl rfl ?_
  refine g_get hC iw_X8_noCell_RX8 0 rfl rfl 30 (by decide) (List.mem_of_getElem? (i := 1) rfl) rfl rfl dX8_noCell_1 rfl ?_
  refine g_iload_n hC dX8_noCell_4 rfl 1 rfl rfl ?_
  refine g_iald hC 1 0 rfl rfl (by exact hk) dX8_noCell_5 rfl ?_
  refine g_if_ge (tgt := 13) hC dX8_noCell_6 (by decide) rfl (fun c_6 => ?_) (fun c_6 => ?_)
  · rw [if_pos c_6] at hres
    refine g_iload_n hC dX8_noCell_13 rfl 2 rfl rfl ?_
    refine g_i2l hC dX8_noCell_14 rfl ?_
    refine g_lconst (v := 0) hC dX8_noCell_15 (by decide) rfl ?_
    refine g_aload_n hC dX8_noCell_16 rfl 0 rfl rfl ?_
    refine g_get hC iw_X8_noCell_RX8 0 rfl rfl 30 (by decide) (List.mem_of_getElem? (i := 1) rfl) rfl rfl dX8_noCell_17 rfl ?_
    refine g_iload_n hC dX8_noCell_20 rfl 1 rfl rfl ?_
    refine g_iald hC 1 0 rfl rfl (by exact hk) dX8_noCell_21 rfl ?_
    refine g_i2l hC dX8_noCell_22 rfl ?_
    refine g_lconst (v := 1) hC dX8_noCell_23 (by decide) rfl ?_
    refine g_lsub hC dX8_noCell_24 rfl ?_
    refine g_callS (ws' := [(aMO, .inr (8, [.int mFault, .ref amS, .int mDays, .ref amH, .int mLin, .ref amK, .ref amO, .ref amD, .int mCool, .int mReadAt, .int mReadDays, .int mReadLin, .ref amRS, .ref amRH, .ref amRK, .ref amRO, .ref amRD, .ref amDN, .ref amSN, .int mDayNow, .int mLast, .int mTears, .int mWrong, .ref amTF, .ref amTFor, .ref amWB, .int mRdn, .ref amRdL, .ref amRdE, .ref amRdD, .ref amSz, .ref amLane, .ref amSh, .ref amHands, .int mTrace])), (amSz, .inl (cI, 4, .inl mSz))]) (st' := [.int (m_X8_in i.toInt64 (0 : Int64) ((mSz k.toNatClampNeg).toInt64 - (1 : Int64)))]) (nw := 2) (n1 := 0) hC gX8_noCell_X8_in hdS_yX8_in (As := [.long i.toInt64, .long (0 : Int64), .long ((mSz k.toNatClampNeg).toInt64 - (1 : Int64))]) (rest := []) (c_X8_in D cI i.toInt64 (0 : Int64) ((mSz k.toNatClampNeg).toInt64 - (1 : Int64))) rfl ⟨by decide, by decide⟩ rfl [] [0, 1] [0, 1] [0] rfl rfl rfl rfl (by decide) rfl rfl (Nat.le_of_ble_eq_true rfl) dX8_noCell_25 rfl rfl ?_
    have K_28 : ∀ vK : Int32, vK = (if (m_X8_in i.toInt64 (0 : Int64) ((mSz k.toNatClampNeg).toInt64 - (1 : Int64))) = 0 then (3 : Int32) else (0 : Int32)) → G X D 3 [(aMO, .inr (8, [.int mFault, .ref amS, .int mDays, .ref amH, .int mLin, .ref amK, .ref amO, .ref amD, .int mCool, .int mReadAt, .int mReadDays, .int mReadLin, .ref amRS, .ref amRH, .ref amRK, .ref amRO, .ref amRD, .ref amDN, .ref amSN, .int mDayNow, .int mLast, .int mTears, .int mWrong, .ref amTF, .ref amTFor, .ref amWB, .int mRdn, .ref amRdL, .ref amRdE, .ref amRdD, .ref amSz, .ref amLane, .ref amSh, .ref amHands, .int mTrace])), (amSz, .inl (cI, 4, .inl mSz))] [(0, .ref aMO), (1, .int k), (2, .int i)] 36 (.int vK :: []) := by
      intro vK hvK
      subst hvK
      subst hres
      exact g_iret hC hX rfl dX8_noCell_36 rfl rfl
    refine g_if_eq (tgt := 35) hC dX8_noCell_28 (by decide) rfl (fun c_28 => ?_) (fun c_28 => ?_)
    · refine g_iconst (v := 3) hC dX8_noCell_35 (by decide) rfl ?_
      exact K_28 _ (if_pos c_28).symm
    · refine g_iconst (v := 0) hC dX8_noCell_31 (by decide) rfl ?_
      refine g_goto (tgt := 36) hC dX8_noCell_32 (by decide) ?_
      exact K_28 _ (if_neg c_28).symm
  · rw [if_neg c_6] at hres
    refine g_iconst (v := 1) hC dX8_noCell_9 (by decide) rfl ?_
    refine g_goto (tgt := 36) hC dX8_noCell_10 (by decide) ?_
    subst hres
    exact g_iret hC hX rfl dX8_noCell_36 rfl rfl
theorem iw_X8_cellsBarred_RX8 : ∀ w ∈ wsX80, w ∈ wsX8_cellsBarred := fun _ h => List.mem_cons_of_mem _ (List.mem_append_right _ (h))
def m_X8_cellsBarred (mFault : Int32) (mSz : Nat → Int32) (mLane : Nat → Int32) (k : Int32) (lane : Int32) (i : Int32) (n : Int64) : (Int32 × Int32) := (if (mSz k.toNatClampNeg) < 0 then (if 0 ≤ (mSz k.toNatClampNeg) then (if 0 ≤ (lg_cmp n (0 : Int64)) then (if (m_X8_isBeyond i n (mSz k.toNatClampNeg)) = 0 then ((0 : Int32), mFault) else ((m_X8_failed (3 : Int32)).1, (m_X8_failed (3 : Int32)).2)) else ((m_X8_failed (4 : Int32)).1, (m_X8_failed (4 : Int32)).2)) else ((m_X8_failed (1 : Int32)).1, (m_X8_failed (1 : Int32)).2)) else (if (mLane k.toNatClampNeg) = lane then (if 0 ≤ (mSz k.toNatClampNeg) then (if 0 ≤ (lg_cmp n (0 : Int64)) then (if (m_X8_isBeyond i n (mSz k.toNatClampNeg)) = 0 then ((0 : Int32), mFault) else ((m_X8_failed (3 : Int32)).1, (m_X8_failed (3 : Int32)).2)) else ((m_X8_failed (4 : Int32)).1, (m_X8_failed (4 : Int32)).2)) else ((m_X8_failed (1 : Int32)).1, (m_X8_failed (1 : Int32)).2)) else ((m_X8_failed (2 : Int32)).1, (m_X8_failed (2 : Int32)).2)))
set_option maxRecDepth 100000 in
set_option maxHeartbeats 4000000 in
theorem c_X8_cellsBarred (D : va_G) (cI : ClassId) (aMO : Nat) (mFault : Int32) (amS : Nat) (mDays : Int32) (amH : Nat) (mLin : Int32) (amK : Nat) (amO : Nat) (amD : Nat) (mCool : Int32) (mReadAt : Int32) (mReadDays : Int32) (mReadLin : Int32) (amRS : Nat) (amRH : Nat) (amRK : Nat) (amRO : Nat) (amRD : Nat) (amDN : Nat) (amSN : Nat) (mDayNow : Int32) (mLast : Int32) (mTears : Int32) (mWrong : Int32) (amTF : Nat) (amTFor : Nat) (amWB : Nat) (mRdn : Int32) (amRdL : Nat) (amRdE : Nat) (amRdD : Nat) (amSz : Nat) (amLane : Nat) (amSh : Nat) (amHands : Nat) (mTrace : Int32) (mSz : Nat → Int32) (mLane : Nat → Int32) (k : Int32) (lane : Int32) (i : Int32) (n : Int64) (hk : vp_in k 4) : MC yX8_cellsBarred wsX8_cellsBarred ({ frames := 1, cells := 0, slots := 0, locals := 23 } : Room) D [(cI, .int)] [.ref aMO, .int k, .int lane, .int i, .long n] [(aMO, .inr (8, [.int mFault, .ref amS, .int mDays, .ref amH, .int mLin, .ref amK, .ref amO, .ref amD, .int mCool, .int mReadAt, .int mReadDays, .int mReadLin, .ref amRS, .ref amRH, .ref amRK, .ref amRO, .ref amRD, .ref amDN, .ref amSN, .int mDayNow, .int mLast, .int mTears, .int mWrong, .ref amTF, .ref amTFor, .ref amWB, .int mRdn, .ref amRdL, .ref amRdE, .ref amRdD, .ref amSz, .ref amLane, .ref amSh, .ref amHands, .int mTrace])), (amSz, .inl (cI, 4, .inl mSz)), (amLane, .inl (cI, 4, .inl mLane))] (some (.int ((m_X8_cellsBarred mFault mSz mLane k lane i n).1))) [(aMO, .inr (8, [.int ((m_X8_cellsBarred mFault mSz mLane k lane i n).2), .ref amS, .int mDays, .ref amH, .int mLin, .ref amK, .ref amO, .ref amD, .int mCool, .int mReadAt, .int mReadDays, .int mReadLin, .ref amRS, .ref amRH, .ref amRK, .ref amRO, .ref amRD, .ref amDN, .ref amSN, .int mDayNow, .int mLast, .int mTears, .int mWrong, .ref amTF, .ref amTFor, .ref amWB, .int mRdn, .ref amRdL, .ref amRdE, .ref amRdD, .ref amSz, .ref amLane, .ref amSh, .ref amHands, .int mTrace])), (amSz, .inl (cI, 4, .inl mSz)), (amLane, .inl (cI, 4, .inl mLane))] := by
  refine g_entry (by decide) rfl rfl rfl rfl (Nat.le_of_ble_eq_true rfl) (lv := [(0, .ref aMO), (1, .int k), (2, .int lane), (3, .int i), (4, .long n)]) rfl ?_
  intro X hC hX
  obtain ⟨res, hres⟩ : ∃ z, z = (m_X8_cellsBarred mFault mSz mLane k lane i n) := ⟨_, rfl⟩
  rw [← hres] at hX
  rw [m_X8_cellsBarred] at hres
  refine g_aload_n hC dX8_cellsBarred_0 rfl 0 rfl rfl ?_
  refine g_get hC iw_X8_cellsBarred_RX8 0 rfl rfl 30 (by decide) (List.mem_of_getElem? (i := 1) rfl) rfl rfl dX8_cellsBarred_1 rfl ?_
  refine g_iload_n hC dX8_cellsBarred_4 rfl 1 rfl rfl ?_
  refine g_iald hC 1 0 rfl rfl (by exact hk) dX8_cellsBarred_5 rfl ?_
  refine g_if_lt (tgt := 25) hC dX8_cellsBarred_6 (by decide) rfl (fun c_6 => ?_) (fun c_6 => ?_)
  · rw [if_pos c_6] at hres
    refine g_aload_n hC dX8_cellsBarred_25 rfl 0 rfl rfl ?_
    refine g_get hC iw_X8_cellsBarred_RX8 0 rfl rfl 30 (by decide) (List.mem_of_getElem? (i := 1) rfl) rfl rfl dX8_cellsBarred_26 rfl ?_
    refine g_iload_n hC dX8_cellsBarred_29 rfl 1 rfl rfl ?_
    refine g_iald hC 1 0 rfl rfl (by exact hk) dX8_cellsBarred_30 rfl ?_
    refine g_if_ge (tgt := 40) hC dX8_cellsBarred_31 (by decide) rfl (fun c_31 => ?_) (fun c_31 => ?_)
    · rw [if_pos c_31] at hres
      refine g_lload hC dX8_cellsBarred_40 4 rfl rfl ?_
      refine g_lconst (v := 0) hC dX8_cellsBarred_42 (by decide) rfl ?_
      refine g_lcmp hC dX8_cellsBarred_43 rfl ?_
      refine g_if_ge (tgt := 53) hC dX8_cellsBarred_44 (by decide) rfl (fun c_44 => ?_) (fun c_44 => ?_)
      · rw [if_pos c_44] at hres
        refine g_iload_n hC dX8_cellsBarred_53 rfl 3 rfl rfl ?_
        refine g_lload hC dX8_cellsBarred_54 4 rfl rfl ?_
        refine g_aload_n hC dX8_cellsBarred_56 rfl 0 rfl rfl ?_
        refine g_get hC iw_X8_cellsBarred_RX8 0 rfl rfl 30 (by decide) (List.mem_of_getElem? (i := 1) rfl) rfl rfl dX8_cellsBarred_57 rfl ?_
        refine g_iload_n hC dX8_cellsBarred_60 rfl 1 rfl rfl ?_
        refine g_iald hC 1 0 rfl rfl (by exact hk) dX8_cellsBarred_61 rfl ?_
        refine g_callS (ws' := [(aMO, .inr (8, [.int mFault, .ref amS, .int mDays, .ref amH, .int mLin, .ref amK, .ref amO, .ref amD, .int mCool, .int mReadAt, .int mReadDays, .int mReadLin, .ref amRS, .ref amRH, .ref amRK, .ref amRO, .ref amRD, .ref amDN, .ref amSN, .int mDayNow, .int mLast, .int mTears, .int mWrong, .ref amTF, .ref amTFor, .ref amWB, .int mRdn, .ref amRdL, .ref amRdE, .ref amRdD, .ref amSz, .ref amLane, .ref amSh, .ref amHands, .int mTrace])), (amSz, .inl (cI, 4, .inl mSz)), (amLane, .inl (cI, 4, .inl mLane))]) (st' := [.int (m_X8_isBeyond i n (mSz k.toNatClampNeg))]) (nw := 3) (n1 := 0) hC gX8_cellsBarred_X8_isBeyond hdS_yX8_isBeyond (As := [.int i, .long n, .int (mSz k.toNatClampNeg)]) (rest := []) (c_X8_isBeyond D cI i n (mSz k.toNatClampNeg)) rfl ⟨by decide, by decide⟩ rfl [] [0, 1, 2] [0, 1, 2] [0] rfl rfl rfl rfl (by decide) rfl rfl (Nat.le_of_ble_eq_true rfl) dX8_cellsBarred_62 rfl rfl ?_
        refine g_if_eq (tgt := 76) hC dX8_cellsBarred_65 (by decide) rfl (fun c_65 => ?_) (fun c_65 => ?_)
        · rw [if_pos c_65] at hres
          refine g_iconst (v := 0) hC dX8_cellsBarred_76 (by decide) rfl ?_
          subst hres
          exact g_iret hC hX rfl dX8_cellsBarred_77 rfl rfl
        · rw [if_neg c_65] at hres
          refine g_aload_n hC dX8_cellsBarred_68 rfl 0 rfl rfl ?_
          refine g_iconst (v := 3) hC dX8_cellsBarred_69 (by decide) rfl ?_
          refine g_callV (ws' := [(aMO, .inr (8, [.int ((m_X8_failed (3 : Int32)).2), .ref amS, .int mDays, .ref amH, .int mLin, .ref amK, .ref amO, .ref amD, .int mCool, .int mReadAt, .int mReadDays, .int mReadLin, .ref amRS, .ref amRH, .ref amRK, .ref amRO, .ref amRD, .ref amDN, .ref amSN, .int mDayNow, .int mLast, .int mTears, .int mWrong, .ref amTF, .ref amTFor, .ref amWB, .int mRdn, .ref amRdL, .ref amRdE, .ref amRdD, .ref amSz, .ref amLane, .ref amSh, .ref amHands, .int mTrace])), (amSz, .inl (cI, 4, .inl mSz)), (amLane, .inl (cI, 4, .inl mLane))]) (st' := [.int ((m_X8_failed (3 : Int32)).1)]) (nw := 3) (n1 := 1) hC gX8_cellsBarred_X8_failed hdV_yX8_failed 0 rfl rfl (As := [.int (3 : Int32)]) (rest := []) (c_X8_failed D cI aMO mFault amS mDays amH mLin amK amO amD mCool mReadAt mReadDays mReadLin amRS amRH amRK amRO amRD amDN amSN mDayNow mLast mTears mWrong amTF amTFor amWB mRdn amRdL amRdE amRdD amSz amLane amSh amHands mTrace (3 : Int32)) rfl ⟨by decide, by decide⟩ rfl [0] [1, 2] [2, 0, 1] [0] rfl rfl rfl rfl (by decide) rfl rfl (Nat.le_of_ble_eq_true rfl) dX8_cellsBarred_70 rfl rfl ?_
          refine g_goto (tgt := 77) hC dX8_cellsBarred_73 (by decide) ?_
          subst hres
          exact g_iret hC hX rfl dX8_cellsBarred_77 rfl rfl
      · rw [if_neg c_44] at hres
        refine g_aload_n hC dX8_cellsBarred_47 rfl 0 rfl rfl ?_
        refine g_iconst (v := 4) hC dX8_cellsBarred_48 (by decide) rfl ?_
        refine g_callV (ws' := [(aMO, .inr (8, [.int ((m_X8_failed (4 : Int32)).2), .ref amS, .int mDays, .ref amH, .int mLin, .ref amK, .ref amO, .ref amD, .int mCool, .int mReadAt, .int mReadDays, .int mReadLin, .ref amRS, .ref amRH, .ref amRK, .ref amRO, .ref amRD, .ref amDN, .ref amSN, .int mDayNow, .int mLast, .int mTears, .int mWrong, .ref amTF, .ref amTFor, .ref amWB, .int mRdn, .ref amRdL, .ref amRdE, .ref amRdD, .ref amSz, .ref amLane, .ref amSh, .ref amHands, .int mTrace])), (amSz, .inl (cI, 4, .inl mSz)), (amLane, .inl (cI, 4, .inl mLane))]) (st' := [.int ((m_X8_failed (4 : Int32)).1)]) (nw := 3) (n1 := 1) hC gX8_cellsBarred_X8_failed hdV_yX8_failed 0 rfl rfl (As := [.int (4 : Int32)]) (rest := []) (c_X8_failed D cI aMO mFault amS mDays amH mLin amK amO amD mCool mReadAt mReadDays mReadLin amRS amRH amRK amRO amRD amDN amSN mDayNow mLast mTears mWrong amTF amTFor amWB mRdn amRdL amRdE amRdD amSz amLane amSh amHands mTrace (4 : Int32)) rfl ⟨by decide, by decide⟩ rfl [0] [1, 2] [2, 0, 1] [0] rfl rfl rfl rfl (by decide) rfl rfl (Nat.le_of_ble_eq_true rfl) dX8_cellsBarred_49 rfl rfl ?_
        subst hres
        exact g_iret hC hX rfl dX8_cellsBarred_52 rfl rfl
    · rw [if_neg c_31] at hres
      refine g_aload_n hC dX8_cellsBarred_34 rfl 0 rfl rfl ?_
      refine g_iconst (v := 1) hC dX8_cellsBarred_35 (by decide) rfl ?_
      refine g_callV (ws' := [(aMO, .inr (8, [.int ((m_X8_failed (1 : Int32)).2), .ref amS, .int mDays, .ref amH, .int mLin, .ref amK, .ref amO, .ref amD, .int mCool, .int mReadAt, .int mReadDays, .int mReadLin, .ref amRS, .ref amRH, .ref amRK, .ref amRO, .ref amRD, .ref amDN, .ref amSN, .int mDayNow, .int mLast, .int mTears, .int mWrong, .ref amTF, .ref amTFor, .ref amWB, .int mRdn, .ref amRdL, .ref amRdE, .ref amRdD, .ref amSz, .ref amLane, .ref amSh, .ref amHands, .int mTrace])), (amSz, .inl (cI, 4, .inl mSz)), (amLane, .inl (cI, 4, .inl mLane))]) (st' := [.int ((m_X8_failed (1 : Int32)).1)]) (nw := 3) (n1 := 1) hC gX8_cellsBarred_X8_failed hdV_yX8_failed 0 rfl rfl (As := [.int (1 : Int32)]) (rest := []) (c_X8_failed D cI aMO mFault amS mDays amH mLin amK amO amD mCool mReadAt mReadDays mReadLin amRS amRH amRK amRO amRD amDN amSN mDayNow mLast mTears mWrong amTF amTFor amWB mRdn amRdL amRdE amRdD amSz amLane amSh amHands mTrace (1 : Int32)) rfl ⟨by decide, by decide⟩ rfl [0] [1, 2] [2, 0, 1] [0] rfl rfl rfl rfl (by decide) rfl rfl (Nat.le_of_ble_eq_true rfl) dX8_cellsBarred_36 rfl rfl ?_
      subst hres
      exact g_iret hC hX rfl dX8_cellsBarred_39 rfl rfl
  · rw [if_neg c_6] at hres
    refine g_aload_n hC dX8_cellsBarred_9 rfl 0 rfl rfl ?_
    refine g_get hC iw_X8_cellsBarred_RX8 0 rfl rfl 31 (by decide) (List.mem_of_getElem? (i := 2) rfl) rfl rfl dX8_cellsBarred_10 rfl ?_
    refine g_iload_n hC dX8_cellsBarred_13 rfl 1 rfl rfl ?_
    refine g_iald hC 2 0 rfl rfl (by exact hk) dX8_cellsBarred_14 rfl ?_
    refine g_iload_n hC dX8_cellsBarred_15 rfl 2 rfl rfl ?_
    refine g_icmp_eq (tgt := 25) hC dX8_cellsBarred_16 (by decide) rfl (fun c_16 => ?_) (fun c_16 => ?_)
    · rw [if_pos c_16] at hres
      refine g_aload_n hC dX8_cellsBarred_25 rfl 0 rfl rfl ?_
      refine g_get hC iw_X8_cellsBarred_RX8 0 rfl rfl 30 (by decide) (List.mem_of_getElem? (i := 1) rfl) rfl rfl dX8_cellsBarred_26 rfl ?_
      refine g_iload_n hC dX8_cellsBarred_29 rfl 1 rfl rfl ?_
      refine g_iald hC 1 0 rfl rfl (by exact hk) dX8_cellsBarred_30 rfl ?_
      refine g_if_ge (tgt := 40) hC dX8_cellsBarred_31 (by decide) rfl (fun c_31 => ?_) (fun c_31 => ?_)
      · rw [if_pos c_31] at hres
        refine g_lload hC dX8_cellsBarred_40 4 rfl rfl ?_
        refine g_lconst (v := 0) hC dX8_cellsBarred_42 (by decide) rfl ?_
        refine g_lcmp hC dX8_cellsBarred_43 rfl ?_
        refine g_if_ge (tgt := 53) hC dX8_cellsBarred_44 (by decide) rfl (fun c_44 => ?_) (fun c_44 => ?_)
        · rw [if_pos c_44] at hres
          refine g_iload_n hC dX8_cellsBarred_53 rfl 3 rfl rfl ?_
          refine g_lload hC dX8_cellsBarred_54 4 rfl rfl ?_
          refine g_aload_n hC dX8_cellsBarred_56 rfl 0 rfl rfl ?_
          refine g_get hC iw_X8_cellsBarred_RX8 0 rfl rfl 30 (by decide) (List.mem_of_getElem? (i := 1) rfl) rfl rfl dX8_cellsBarred_57 rfl ?_
          refine g_iload_n hC dX8_cellsBarred_60 rfl 1 rfl rfl ?_
          refine g_iald hC 1 0 rfl rfl (by exact hk) dX8_cellsBarred_61 rfl ?_
          refine g_callS (ws' := [(aMO, .inr (8, [.int mFault, .ref amS, .int mDays, .ref amH, .int mLin, .ref amK, .ref amO, .ref amD, .int mCool, .int mReadAt, .int mReadDays, .int mReadLin, .ref amRS, .ref amRH, .ref amRK, .ref amRO, .ref amRD, .ref amDN, .ref amSN, .int mDayNow, .int mLast, .int mTears, .int mWrong, .ref amTF, .ref amTFor, .ref amWB, .int mRdn, .ref amRdL, .ref amRdE, .ref amRdD, .ref amSz, .ref amLane, .ref amSh, .ref amHands, .int mTrace])), (amSz, .inl (cI, 4, .inl mSz)), (amLane, .inl (cI, 4, .inl mLane))]) (st' := [.int (m_X8_isBeyond i n (mSz k.toNatClampNeg))]) (nw := 3) (n1 := 0) hC gX8_cellsBarred_X8_isBeyond hdS_yX8_isBeyond (As := [.int i, .long n, .int (mSz k.toNatClampNeg)]) (rest := []) (c_X8_isBeyond D cI i n (mSz k.toNatClampNeg)) rfl ⟨by decide, by decide⟩ rfl [] [0, 1, 2] [0, 1, 2] [0] rfl rfl rfl rfl (by decide) rfl rfl (Nat.le_of_ble_eq_true rfl) dX8_cellsBarred_62 rfl rfl ?_
          refine g_if_eq (tgt := 76) hC dX8_cellsBarred_65 (by decide) rfl (fun c_65 => ?_) (fun c_65 => ?_)
          · rw [if_pos c_65] at hres
            refine g_iconst (v := 0) hC dX8_cellsBarred_76 (by decide) rfl ?_
            subst hres
            exact g_iret hC hX rfl dX8_cellsBarred_77 rfl rfl
          · rw [if_neg c_65] at hres
            refine g_aload_n hC dX8_cellsBarred_68 rfl 0 rfl rfl ?_
            refine g_iconst (v := 3) hC dX8_cellsBarred_69 (by decide) rfl ?_
            refine g_callV (ws' := [(aMO, .inr (8, [.int ((m_X8_failed (3 : Int32)).2), .ref amS, .int mDays, .ref amH, .int mLin, .ref amK, .ref amO, .ref amD, .int mCool, .int mReadAt, .int mReadDays, .int mReadLin, .ref amRS, .ref amRH, .ref amRK, .ref amRO, .ref amRD, .ref amDN, .ref amSN, .int mDayNow, .int mLast, .int mTears, .int mWrong, .ref amTF, .ref amTFor, .ref amWB, .int mRdn, .ref amRdL, .ref amRdE, .ref amRdD, .ref amSz, .ref amLane, .ref amSh, .ref amHands, .int mTrace])), (amSz, .inl (cI, 4, .inl mSz)), (amLane, .inl (cI, 4, .inl mLane))]) (st' := [.int ((m_X8_failed (3 : Int32)).1)]) (nw := 3) (n1 := 1) hC gX8_cellsBarred_X8_failed hdV_yX8_failed 0 rfl rfl (As := [.int (3 : Int32)]) (rest := []) (c_X8_failed D cI aMO mFault amS mDays amH mLin amK amO amD mCool mReadAt mReadDays mReadLin amRS amRH amRK amRO amRD amDN amSN mDayNow mLast mTears mWrong amTF amTFor amWB mRdn amRdL amRdE amRdD amSz amLane amSh amHands mTrace (3 : Int32)) rfl ⟨by decide, by decide⟩ rfl [0] [1, 2] [2, 0, 1] [0] rfl rfl rfl rfl (by decide) rfl rfl (Nat.le_of_ble_eq_true rfl) dX8_cellsBarred_70 rfl rfl ?_
            refine g_goto (tgt := 77) hC dX8_cellsBarred_73 (by decide) ?_
            subst hres
            exact g_iret hC hX rfl dX8_cellsBarred_77 rfl rfl
        · rw [if_neg c_44] at hres
          refine g_aload_n hC dX8_cellsBarred_47 rfl 0 rfl rfl ?_
          refine g_iconst (v := 4) hC dX8_cellsBarred_48 (by decide) rfl ?_
          refine g_callV (ws' := [(aMO, .inr (8, [.int ((m_X8_failed (4 : Int32)).2), .ref amS, .int mDays, .ref amH, .int mLin, .ref amK, .ref amO, .ref amD, .int mCool, .int mReadAt, .int mReadDays, .int mReadLin, .ref amRS, .ref amRH, .ref amRK, .ref amRO, .ref amRD, .ref amDN, .ref amSN, .int mDayNow, .int mLast, .int mTears, .int mWrong, .ref amTF, .ref amTFor, .ref amWB, .int mRdn, .ref amRdL, .ref amRdE, .ref amRdD, .ref amSz, .ref amLane, .ref amSh, .ref amHands, .int mTrace])), (amSz, .inl (cI, 4, .inl mSz)), (amLane, .inl (cI, 4, .inl mLane))]) (st' := [.int ((m_X8_failed (4 : Int32)).1)]) (nw := 3) (n1 := 1) hC gX8_cellsBarred_X8_failed hdV_yX8_failed 0 rfl rfl (As := [.int (4 : Int32)]) (rest := []) (c_X8_failed D cI aMO mFault amS mDays amH mLin amK amO amD mCool mReadAt mReadDays mReadLin amRS amRH amRK amRO amRD amDN amSN mDayNow mLast mTears mWrong amTF amTFor amWB mRdn amRdL amRdE amRdD amSz amLane amSh amHands mTrace (4 : Int32)) rfl ⟨by decide, by decide⟩ rfl [0] [1, 2] [2, 0, 1] [0] rfl rfl rfl rfl (by decide) rfl rfl (Nat.le_of_ble_eq_true rfl) dX8_cellsBarred_49 rfl rfl ?_
          subst hres
          exact g_iret hC hX rfl dX8_cellsBarred_52 rfl rfl
      · rw [if_neg c_31] at hres
        refine g_aload_n hC dX8_cellsBarred_34 rfl 0 rfl rfl ?_
        refine g_iconst (v := 1) hC dX8_cellsBarred_35 (by decide) rfl ?_
        refine g_callV (ws' := [(aMO, .inr (8, [.int ((m_X8_failed (1 : Int32)).2), .ref amS, .int mDays, .ref amH, .int mLin, .ref amK, .ref amO, .ref amD, .int mCool, .int mReadAt, .int mReadDays, .int mReadLin, .ref amRS, .ref amRH, .ref amRK, .ref amRO, .ref amRD, .ref amDN, .ref amSN, .int mDayNow, .int mLast, .int mTears, .int mWrong, .ref amTF, .ref amTFor, .ref amWB, .int mRdn, .ref amRdL, .ref amRdE, .ref amRdD, .ref amSz, .ref amLane, .ref amSh, .ref amHands, .int mTrace])), (amSz, .inl (cI, 4, .inl mSz)), (amLane, .inl (cI, 4, .inl mLane))]) (st' := [.int ((m_X8_failed (1 : Int32)).1)]) (nw := 3) (n1 := 1) hC gX8_cellsBarred_X8_failed hdV_yX8_failed 0 rfl rfl (As := [.int (1 : Int32)]) (rest := []) (c_X8_failed D cI aMO mFault amS mDays amH mLin amK amO amD mCool mReadAt mReadDays mReadLin amRS amRH amRK amRO amRD amDN amSN mDayNow mLast mTears mWrong amTF amTFor amWB mRdn amRdL amRdE amRdD amSz amLane amSh amHands mTrace (1 : Int32)) rfl ⟨by decide, by decide⟩ rfl [0] [1, 2] [2, 0, 1] [0] rfl rfl rfl rfl (by decide) rfl rfl (Nat.le_of_ble_eq_true rfl) dX8_cellsBarred_36 rfl rfl ?_
        subst hres
        exact g_iret hC hX rfl dX8_cellsBarred_39 rfl rfl
    · rw [if_neg c_16] at hres
      refine g_aload_n hC dX8_cellsBarred_19 rfl 0 rfl rfl ?_
      refine g_iconst (v := 2) hC dX8_cellsBarred_20 (by decide) rfl ?_
      refine g_callV (ws' := [(aMO, .inr (8, [.int ((m_X8_failed (2 : Int32)).2), .ref amS, .int mDays, .ref amH, .int mLin, .ref amK, .ref amO, .ref amD, .int mCool, .int mReadAt, .int mReadDays, .int mReadLin, .ref amRS, .ref amRH, .ref amRK, .ref amRO, .ref amRD, .ref amDN, .ref amSN, .int mDayNow, .int mLast, .int mTears, .int mWrong, .ref amTF, .ref amTFor, .ref amWB, .int mRdn, .ref amRdL, .ref amRdE, .ref amRdD, .ref amSz, .ref amLane, .ref amSh, .ref amHands, .int mTrace])), (amSz, .inl (cI, 4, .inl mSz)), (amLane, .inl (cI, 4, .inl mLane))]) (st' := [.int ((m_X8_failed (2 : Int32)).1)]) (nw := 3) (n1 := 1) hC gX8_cellsBarred_X8_failed hdV_yX8_failed 0 rfl rfl (As := [.int (2 : Int32)]) (rest := []) (c_X8_failed D cI aMO mFault amS mDays amH mLin amK amO amD mCool mReadAt mReadDays mReadLin amRS amRH amRK amRO amRD amDN amSN mDayNow mLast mTears mWrong amTF amTFor amWB mRdn amRdL amRdE amRdD amSz amLane amSh amHands mTrace (2 : Int32)) rfl ⟨by decide, by decide⟩ rfl [0] [1, 2] [2, 0, 1] [0] rfl rfl rfl rfl (by decide) rfl rfl (Nat.le_of_ble_eq_true rfl) dX8_cellsBarred_21 rfl rfl ?_
      subst hres
      exact g_iret hC hX rfl dX8_cellsBarred_24 rfl rfl
theorem iw_X8_tell_RX8 : ∀ w ∈ wsX80, w ∈ wsX8_tell := fun _ h => List.mem_cons_of_mem _ (List.mem_append_right _ (h))
def m_X8_tell (mLin : Int32) (mTrace : Int32) (mK : Nat → Int32) (mD : Nat → Int32) (l : Int32) : (Int32 × Int32) := (if (m_X8_noLinen mLin l) = 0 then (if (mK l.toNatClampNeg) = (2 : Int32) then (if (mK l.toNatClampNeg) ≤ 0 then (if (mK l.toNatClampNeg) = (2 : Int32) then (if (mK l.toNatClampNeg) = 0 then ((mD l.toNatClampNeg), (m_X8_traced (m_X8_traced (m_X8_traced mTrace (3 : Int32)) (1 : Int32)) (1 : Int32))) else ((if (mK l.toNatClampNeg) = (1 : Int32) then ((mD l.toNatClampNeg) + (100 : Int32)) else (((2 : Int32) * (mD l.toNatClampNeg)) + (100 : Int32))), (m_X8_traced (m_X8_traced (m_X8_traced mTrace (3 : Int32)) (1 : Int32)) (1 : Int32)))) else (if (mK l.toNatClampNeg) = 0 then ((mD l.toNatClampNeg), (m_X8_traced (m_X8_traced mTrace (3 : Int32)) (1 : Int32))) else ((if (mK l.toNatClampNeg) = (1 : Int32) then ((mD l.toNatClampNeg) + (100 : Int32)) else (((2 : Int32) * (mD l.toNatClampNeg)) + (100 : Int32))), (m_X8_traced (m_X8_traced mTrace (3 : Int32)) (1 : Int32))))) else (if (mK l.toNatClampNeg) = (2 : Int32) then (if (mK l.toNatClampNeg) = 0 then ((mD l.toNatClampNeg), (m_X8_traced (m_X8_traced (m_X8_traced (m_X8_traced mTrace (3 : Int32)) (2 : Int32)) (1 : Int32)) (1 : Int32))) else ((if (mK l.toNatClampNeg) = (1 : Int32) then ((mD l.toNatClampNeg) + (100 : Int32)) else (((2 : Int32) * (mD l.toNatClampNeg)) + (100 : Int32))), (m_X8_traced (m_X8_traced (m_X8_traced (m_X8_traced mTrace (3 : Int32)) (2 : Int32)) (1 : Int32)) (1 : Int32)))) else (if (mK l.toNatClampNeg) = 0 then ((mD l.toNatClampNeg), (m_X8_traced (m_X8_traced (m_X8_traced mTrace (3 : Int32)) (2 : Int32)) (1 : Int32))) else ((if (mK l.toNatClampNeg) = (1 : Int32) then ((mD l.toNatClampNeg) + (100 : Int32)) else (((2 : Int32) * (mD l.toNatClampNeg)) + (100 : Int32))), (m_X8_traced (m_X8_traced (m_X8_traced mTrace (3 : Int32)) (2 : Int32)) (1 : Int32)))))) else (if (mK l.toNatClampNeg) ≤ 0 then (if (mK l.toNatClampNeg) = (2 : Int32) then (if (mK l.toNatClampNeg) = 0 then ((mD l.toNatClampNeg), (m_X8_traced (m_X8_traced mTrace (1 : Int32)) (1 : Int32))) else ((if (mK l.toNatClampNeg) = (1 : Int32) then ((mD l.toNatClampNeg) + (100 : Int32)) else (((2 : Int32) * (mD l.toNatClampNeg)) + (100 : Int32))), (m_X8_traced (m_X8_traced mTrace (1 : Int32)) (1 : Int32)))) else (if (mK l.toNatClampNeg) = 0 then ((mD l.toNatClampNeg), (m_X8_traced mTrace (1 : Int32))) else ((if (mK l.toNatClampNeg) = (1 : Int32) then ((mD l.toNatClampNeg) + (100 : Int32)) else (((2 : Int32) * (mD l.toNatClampNeg)) + (100 : Int32))), (m_X8_traced mTrace (1 : Int32))))) else (if (mK l.toNatClampNeg) = (2 : Int32) then (if (mK l.toNatClampNeg) = 0 then ((mD l.toNatClampNeg), (m_X8_traced (m_X8_traced (m_X8_traced mTrace (2 : Int32)) (1 : Int32)) (1 : Int32))) else ((if (mK l.toNatClampNeg) = (1 : Int32) then ((mD l.toNatClampNeg) + (100 : Int32)) else (((2 : Int32) * (mD l.toNatClampNeg)) + (100 : Int32))), (m_X8_traced (m_X8_traced (m_X8_traced mTrace (2 : Int32)) (1 : Int32)) (1 : Int32)))) else (if (mK l.toNatClampNeg) = 0 then ((mD l.toNatClampNeg), (m_X8_traced (m_X8_traced mTrace (2 : Int32)) (1 : Int32))) else ((if (mK l.toNatClampNeg) = (1 : Int32) then ((mD l.toNatClampNeg) + (100 : Int32)) else (((2 : Int32) * (mD l.toNatClampNeg)) + (100 : Int32))), (m_X8_traced (m_X8_traced mTrace (2 : Int32)) (1 : Int32))))))) else ((-1 : Int32), mTrace))
set_option maxRecDepth 100000 in
set_option maxHeartbeats 4000000 in
theorem c_X8_tell (D : va_G) (cI : ClassId) (aMO : Nat) (mFault : Int32) (amS : Nat) (mDays : Int32) (amH : Nat) (mLin : Int32) (amK : Nat) (amO : Nat) (amD : Nat) (mCool : Int32) (mReadAt : Int32) (mReadDays : Int32) (mReadLin : Int32) (amRS : Nat) (amRH : Nat) (amRK : Nat) (amRO : Nat) (amRD : Nat) (amDN : Nat) (amSN : Nat) (mDayNow : Int32) (mLast : Int32) (mTears : Int32) (mWrong : Int32) (amTF : Nat) (amTFor : Nat) (amWB : Nat) (mRdn : Int32) (amRdL : Nat) (amRdE : Nat) (amRdD : Nat) (amSz : Nat) (amLane : Nat) (amSh : Nat) (amHands : Nat) (mTrace : Int32) (mK : Nat → Int32) (mD : Nat → Int32) (l : Int32) (hl5 : mLin.toInt ≤ 5) : MC yX8_tell wsX8_tell ({ frames := 2, cells := 0, slots := 0, locals := 46 } : Room) D [(cI, .int)] [.ref aMO, .int l] [(aMO, .inr (8, [.int mFault, .ref amS, .int mDays, .ref amH, .int mLin, .ref amK, .ref amO, .ref amD, .int mCool, .int mReadAt, .int mReadDays, .int mReadLin, .ref amRS, .ref amRH, .ref amRK, .ref amRO, .ref amRD, .ref amDN, .ref amSN, .int mDayNow, .int mLast, .int mTears, .int mWrong, .ref amTF, .ref amTFor, .ref amWB, .int mRdn, .ref amRdL, .ref amRdE, .ref amRdD, .ref amSz, .ref amLane, .ref amSh, .ref amHands, .int mTrace])), (amK, .inl (cI, 5, .inl mK)), (amD, .inl (cI, 5, .inl mD))] (some (.int ((m_X8_tell mLin mTrace mK mD l).1))) [(aMO, .inr (8, [.int mFault, .ref amS, .int mDays, .ref amH, .int mLin, .ref amK, .ref amO, .ref amD, .int mCool, .int mReadAt, .int mReadDays, .int mReadLin, .ref amRS, .ref amRH, .ref amRK, .ref amRO, .ref amRD, .ref amDN, .ref amSN, .int mDayNow, .int mLast, .int mTears, .int mWrong, .ref amTF, .ref amTFor, .ref amWB, .int mRdn, .ref amRdL, .ref amRdE, .ref amRdD, .ref amSz, .ref amLane, .ref amSh, .ref amHands, .int ((m_X8_tell mLin mTrace mK mD l).2)])), (amK, .inl (cI, 5, .inl mK)), (amD, .inl (cI, 5, .inl mD))] := by
  refine g_entry (by decide) rfl rfl rfl rfl (Nat.le_of_ble_eq_true rfl) (lv := [(0, .ref aMO), (1, .int l)]) rfl ?_
  intro X hC hX
  obtain ⟨res, hres⟩ : ∃ z, z = (m_X8_tell mLin mTrace mK mD l) := ⟨_, rfl⟩
  rw [← hres] at hX
  rw [m_X8_tell] at hres
  refine g_aload_n hC dX8_tell_0 rfl 0 rfl rfl ?_
  refine g_iload_n hC dX8_tell_1 rfl 1 rfl rfl ?_
  refine g_callV (ws' := [(aMO, .inr (8, [.int mFault, .ref amS, .int mDays, .ref amH, .int mLin, .ref amK, .ref amO, .ref amD, .int mCool, .int mReadAt, .int mReadDays, .int mReadLin, .ref amRS, .ref amRH, .ref amRK, .ref amRO, .ref amRD, .ref amDN, .ref amSN, .int mDayNow, .int mLast, .int mTears, .int mWrong, .ref amTF, .ref amTFor, .ref amWB, .int mRdn, .ref amRdL, .ref amRdE, .ref amRdD, .ref amSz, .ref amLane, .ref amSh, .ref amHands, .int mTrace])), (amK, .inl (cI, 5, .inl mK)), (amD, .inl (cI, 5, .inl mD))]) (st' := [.int (m_X8_noLinen mLin l)]) (nw := 3) (n1 := 1) hC gX8_tell_X8_noLinen hdV_yX8_noLinen 0 rfl rfl (As := [.int l]) (rest := []) (c_X8_noLinen D cI aMO mFault amS mDays amH mLin amK amO amD mCool mReadAt mReadDays mReadLin amRS amRH amRK amRO amRD amDN amSN mDayNow mLast mTears mWrong amTF amTFor amWB mRdn amRdL amRdE amRdD amSz amLane amSh amHands mTrace l) rfl ⟨by decide, by decide⟩ rfl [0] [1, 2] [2, 0, 1] [0] rfl rfl rfl rfl (by decide) rfl rfl (Nat.le_of_ble_eq_true rfl) dX8_tell_2 rfl rfl ?_
  refine g_if_eq (tgt := 10) hC dX8_tell_5 (by decide) rfl (fun c_5 => ?_) (fun c_5 => ?_)
  · rw [if_pos c_5] at hres
    refine g_aload_n hC dX8_tell_10 rfl 0 rfl rfl ?_
    refine g_get hC iw_X8_tell_RX8 0 rfl rfl 5 (by decide) (List.mem_of_getElem? (i := 1) rfl) rfl rfl dX8_tell_11 rfl ?_
    refine g_iload_n hC dX8_tell_14 rfl 1 rfl rfl ?_
    refine g_iald hC 1 0 rfl rfl (by exact nl_ok c_5 hl5) dX8_tell_15 rfl ?_
    refine g_istore_n (lv' := [(2, .int (mK l.toNatClampNeg)), (0, .ref aMO), (1, .int l)]) hC dX8_tell_16 rfl (by decide) rfl rfl ?_
    refine g_iload_n hC dX8_tell_17 rfl 0 rfl rfl ?_
    refine g_iconst (v := 2) hC dX8_tell_18 (by decide) rfl ?_
    refine g_icmp_ne (tgt := 27) hC dX8_tell_19 (by decide) rfl (fun c_19 => ?_) (fun c_19 => ?_)
    · replace hres := hres.trans (if_neg c_19)
      refine g_iload_n hC dX8_tell_27 rfl 0 rfl rfl ?_
      refine g_if_le (tgt := 36) hC dX8_tell_28 (by decide) rfl (fun c_28 => ?_) (fun c_28 => ?_)
      · rw [if_pos c_28] at hres
        refine g_aload_n hC dX8_tell_36 rfl 1 rfl rfl ?_
        refine g_iconst (v := 1) hC dX8_tell_37 (by decide) rfl ?_
        refine g_callV (ws' := [(aMO, .inr (8, [.int mFault, .ref amS, .int mDays, .ref amH, .int mLin, .ref amK, .ref amO, .ref amD, .int mCool, .int mReadAt, .int mReadDays, .int mReadLin, .ref amRS, .ref amRH, .ref amRK, .ref amRO, .ref amRD, .ref amDN, .ref amSN, .int mDayNow, .int mLast, .int mTears, .int mWrong, .ref amTF, .ref amTFor, .ref amWB, .int mRdn, .ref amRdL, .ref amRdE, .ref amRdD, .ref amSz, .ref amLane, .ref amSh, .ref amHands, .int (m_X8_traced mTrace (1 : Int32))])), (amK, .inl (cI, 5, .inl mK)), (amD, .inl (cI, 5, .inl mD))]) (st' := []) (nw := 3) (n1 := 1) hC gX8_tell_X8_traced hdV_yX8_traced 0 rfl rfl (As := [.int (1 : Int32)]) (rest := []) (c_X8_traced D cI aMO mFault amS mDays amH mLin amK amO amD mCool mReadAt mReadDays mReadLin amRS amRH amRK amRO amRD amDN amSN mDayNow mLast mTears mWrong amTF amTFor amWB mRdn amRdL amRdE amRdD amSz amLane amSh amHands mTrace (1 : Int32)) rfl ⟨by decide, by decide⟩ rfl [0] [1, 2] [2, 0, 1] [0] rfl rfl rfl rfl (by decide) rfl rfl (Nat.le_of_ble_eq_true rfl) dX8_tell_38 rfl rfl ?_
        refine g_iload_n hC dX8_tell_41 rfl 0 rfl rfl ?_
        refine g_iconst (v := 2) hC dX8_tell_42 (by decide) rfl ?_
        refine g_icmp_ne (tgt := 51) hC dX8_tell_43 (by decide) rfl (fun c_43 => ?_) (fun c_43 => ?_)
        · rw [if_neg c_43] at hres
          refine g_aload_n hC dX8_tell_51 rfl 1 rfl rfl ?_
          refine g_get hC iw_X8_tell_RX8 0 rfl rfl 7 (by decide) (List.mem_of_getElem? (i := 2) rfl) rfl rfl dX8_tell_52 rfl ?_
          refine g_iload_n hC dX8_tell_55 rfl 2 rfl rfl ?_
          refine g_iald hC 2 0 rfl rfl (by exact nl_ok c_5 hl5) dX8_tell_56 rfl ?_
          refine g_istore_n (lv' := [(3, .int (mD l.toNatClampNeg)), (2, .int (mK l.toNatClampNeg)), (0, .ref aMO), (1, .int l)]) hC dX8_tell_57 rfl (by decide) rfl rfl ?_
          refine g_iload_n hC dX8_tell_58 rfl 1 rfl rfl ?_
          refine g_if_ne (tgt := 66) hC dX8_tell_59 (by decide) rfl (fun c_59 => ?_) (fun c_59 => ?_)
          · rw [if_neg c_59] at hres
            refine g_iload_n hC dX8_tell_66 rfl 1 rfl rfl ?_
            refine g_iconst (v := 1) hC dX8_tell_67 (by decide) rfl ?_
            have K_68 : ∀ vK : Int32, vK = (if (mK l.toNatClampNeg) = (1 : Int32) then ((mD l.toNatClampNeg) + (100 : Int32)) else (((2 : Int32) * (mD l.toNatClampNeg)) + (100 : Int32))) → G X D 4 [(aMO, .inr (8, [.int mFault, .ref amS, .int mDays, .ref amH, .int mLin, .ref amK, .ref amO, .ref amD, .int mCool, .int mReadAt, .int mReadDays, .int mReadLin, .ref amRS, .ref amRH, .ref amRK, .ref amRO, .ref amRD, .ref amDN, .ref amSN, .int mDayNow, .int mLast, .int mTears, .int mWrong, .ref amTF, .ref amTFor, .ref amWB, .int mRdn, .ref amRdL, .ref amRdE, .ref amRdD, .ref amSz, .ref amLane, .ref amSh, .ref amHands, .int (m_X8_traced mTrace (1 : Int32))])), (amK, .inl (cI, 5, .inl mK)), (amD, .inl (cI, 5, .inl mD))] [(3, .int (mD l.toNatClampNeg)), (2, .int (mK l.toNatClampNeg)), (0, .ref aMO), (1, .int l)] 84 (.int vK :: []) := by
              intro vK hvK
              subst hvK
              subst hres
              exact g_iret hC hX rfl dX8_tell_84 rfl rfl
            refine g_icmp_ne (tgt := 78) hC dX8_tell_68 (by decide) rfl (fun c_68 => ?_) (fun c_68 => ?_)
            · refine g_iconst (v := 2) hC dX8_tell_78 (by decide) rfl ?_
              refine g_iload_n hC dX8_tell_79 rfl 0 rfl rfl ?_
              refine g_imul hC dX8_tell_80 rfl ?_
              refine g_bipush (v := 100) hC dX8_tell_81 (by decide) rfl ?_
              refine g_iadd hC dX8_tell_83 rfl ?_
              exact K_68 _ (if_neg c_68).symm
            · refine g_iload_n hC dX8_tell_71 rfl 0 rfl rfl ?_
              refine g_bipush (v := 100) hC dX8_tell_72 (by decide) rfl ?_
              refine g_iadd hC dX8_tell_74 rfl ?_
              refine g_goto (tgt := 84) hC dX8_tell_75 (by decide) ?_
              exact K_68 _ (if_pos c_68).symm
          · rw [if_pos c_59] at hres
            refine g_iload_n hC dX8_tell_62 rfl 0 rfl rfl ?_
            refine g_goto (tgt := 84) hC dX8_tell_63 (by decide) ?_
            subst hres
            exact g_iret hC hX rfl dX8_tell_84 rfl rfl
        · rw [if_pos c_43] at hres
          refine g_aload_n hC dX8_tell_46 rfl 1 rfl rfl ?_
          refine g_iconst (v := 1) hC dX8_tell_47 (by decide) rfl ?_
          refine g_callV (ws' := [(aMO, .inr (8, [.int mFault, .ref amS, .int mDays, .ref amH, .int mLin, .ref amK, .ref amO, .ref amD, .int mCool, .int mReadAt, .int mReadDays, .int mReadLin, .ref amRS, .ref amRH, .ref amRK, .ref amRO, .ref amRD, .ref amDN, .ref amSN, .int mDayNow, .int mLast, .int mTears, .int mWrong, .ref amTF, .ref amTFor, .ref amWB, .int mRdn, .ref amRdL, .ref amRdE, .ref amRdD, .ref amSz, .ref amLane, .ref amSh, .ref amHands, .int (m_X8_traced (m_X8_traced mTrace (1 : Int32)) (1 : Int32))])), (amK, .inl (cI, 5, .inl mK)), (amD, .inl (cI, 5, .inl mD))]) (st' := []) (nw := 3) (n1 := 1) hC gX8_tell_X8_traced hdV_yX8_traced 0 rfl rfl (As := [.int (1 : Int32)]) (rest := []) (c_X8_traced D cI aMO mFault amS mDays amH mLin amK amO amD mCool mReadAt mReadDays mReadLin amRS amRH amRK amRO amRD amDN amSN mDayNow mLast mTears mWrong amTF amTFor amWB mRdn amRdL amRdE amRdD amSz amLane amSh amHands (m_X8_traced mTrace (1 : Int32)) (1 : Int32)) rfl ⟨by decide, by decide⟩ rfl [0] [1, 2] [2, 0, 1] [0] rfl rfl rfl rfl (by decide) rfl rfl (Nat.le_of_ble_eq_true rfl) dX8_tell_48 rfl rfl ?_
          refine g_aload_n hC dX8_tell_51 rfl 1 rfl rfl ?_
          refine g_get hC iw_X8_tell_RX8 0 rfl rfl 7 (by decide) (List.mem_of_getElem? (i := 2) rfl) rfl rfl dX8_tell_52 rfl ?_
          refine g_iload_n hC dX8_tell_55 rfl 2 rfl rfl ?_
          refine g_iald hC 2 0 rfl rfl (by exact nl_ok c_5 hl5) dX8_tell_56 rfl ?_
          refine g_istore_n (lv' := [(3, .int (mD l.toNatClampNeg)), (2, .int (mK l.toNatClampNeg)), (0, .ref aMO), (1, .int l)]) hC dX8_tell_57 rfl (by decide) rfl rfl ?_
          refine g_iload_n hC dX8_tell_58 rfl 1 rfl rfl ?_
          refine g_if_ne (tgt := 66) hC dX8_tell_59 (by decide) rfl (fun c_59 => ?_) (fun c_59 => ?_)
          · rw [if_neg c_59] at hres
            refine g_iload_n hC dX8_tell_66 rfl 1 rfl rfl ?_
            refine g_iconst (v := 1) hC dX8_tell_67 (by decide) rfl ?_
            have K_68 : ∀ vK : Int32, vK = (if (mK l.toNatClampNeg) = (1 : Int32) then ((mD l.toNatClampNeg) + (100 : Int32)) else (((2 : Int32) * (mD l.toNatClampNeg)) + (100 : Int32))) → G X D 4 [(aMO, .inr (8, [.int mFault, .ref amS, .int mDays, .ref amH, .int mLin, .ref amK, .ref amO, .ref amD, .int mCool, .int mReadAt, .int mReadDays, .int mReadLin, .ref amRS, .ref amRH, .ref amRK, .ref amRO, .ref amRD, .ref amDN, .ref amSN, .int mDayNow, .int mLast, .int mTears, .int mWrong, .ref amTF, .ref amTFor, .ref amWB, .int mRdn, .ref amRdL, .ref amRdE, .ref amRdD, .ref amSz, .ref amLane, .ref amSh, .ref amHands, .int (m_X8_traced (m_X8_traced mTrace (1 : Int32)) (1 : Int32))])), (amK, .inl (cI, 5, .inl mK)), (amD, .inl (cI, 5, .inl mD))] [(3, .int (mD l.toNatClampNeg)), (2, .int (mK l.toNatClampNeg)), (0, .ref aMO), (1, .int l)] 84 (.int vK :: []) := by
              intro vK hvK
              subst hvK
              subst hres
              exact g_iret hC hX rfl dX8_tell_84 rfl rfl
            refine g_icmp_ne (tgt := 78) hC dX8_tell_68 (by decide) rfl (fun c_68 => ?_) (fun c_68 => ?_)
            · refine g_iconst (v := 2) hC dX8_tell_78 (by decide) rfl ?_
              refine g_iload_n hC dX8_tell_79 rfl 0 rfl rfl ?_
              refine g_imul hC dX8_tell_80 rfl ?_
              refine g_bipush (v := 100) hC dX8_tell_81 (by decide) rfl ?_
              refine g_iadd hC dX8_tell_83 rfl ?_
              exact K_68 _ (if_neg c_68).symm
            · refine g_iload_n hC dX8_tell_71 rfl 0 rfl rfl ?_
              refine g_bipush (v := 100) hC dX8_tell_72 (by decide) rfl ?_
              refine g_iadd hC dX8_tell_74 rfl ?_
              refine g_goto (tgt := 84) hC dX8_tell_75 (by decide) ?_
              exact K_68 _ (if_pos c_68).symm
          · rw [if_pos c_59] at hres
            refine g_iload_n hC dX8_tell_62 rfl 0 rfl rfl ?_
            refine g_goto (tgt := 84) hC dX8_tell_63 (by decide) ?_
            subst hres
            exact g_iret hC hX rfl dX8_tell_84 rfl rfl
      · rw [if_neg c_28] at hres
        refine g_aload_n hC dX8_tell_31 rfl 1 rfl rfl ?_
        refine g_iconst (v := 2) hC dX8_tell_32 (by decide) rfl ?_
        refine g_callV (ws' := [(aMO, .inr (8, [.int mFault, .ref amS, .int mDays, .ref amH, .int mLin, .ref amK, .ref amO, .ref amD, .int mCool, .int mReadAt, .int mReadDays, .int mReadLin, .ref amRS, .ref amRH, .ref amRK, .ref amRO, .ref amRD, .ref amDN, .ref amSN, .int mDayNow, .int mLast, .int mTears, .int mWrong, .ref amTF, .ref amTFor, .ref amWB, .int mRdn, .ref amRdL, .ref amRdE, .ref amRdD, .ref amSz, .ref amLane, .ref amSh, .ref amHands, .int (m_X8_traced mTrace (2 : Int32))])), (amK, .inl (cI, 5, .inl mK)), (amD, .inl (cI, 5, .inl mD))]) (st' := []) (nw := 3) (n1 := 1) hC gX8_tell_X8_traced hdV_yX8_traced 0 rfl rfl (As := [.int (2 : Int32)]) (rest := []) (c_X8_traced D cI aMO mFault amS mDays amH mLin amK amO amD mCool mReadAt mReadDays mReadLin amRS amRH amRK amRO amRD amDN amSN mDayNow mLast mTears mWrong amTF amTFor amWB mRdn amRdL amRdE amRdD amSz amLane amSh amHands mTrace (2 : Int32)) rfl ⟨by decide, by decide⟩ rfl [0] [1, 2] [2, 0, 1] [0] rfl rfl rfl rfl (by decide) rfl rfl (Nat.le_of_ble_eq_true rfl) dX8_tell_33 rfl rfl ?_
        refine g_aload_n hC dX8_tell_36 rfl 1 rfl rfl ?_
        refine g_iconst (v := 1) hC dX8_tell_37 (by decide) rfl ?_
        refine g_callV (ws' := [(aMO, .inr (8, [.int mFault, .ref amS, .int mDays, .ref amH, .int mLin, .ref amK, .ref amO, .ref amD, .int mCool, .int mReadAt, .int mReadDays, .int mReadLin, .ref amRS, .ref amRH, .ref amRK, .ref amRO, .ref amRD, .ref amDN, .ref amSN, .int mDayNow, .int mLast, .int mTears, .int mWrong, .ref amTF, .ref amTFor, .ref amWB, .int mRdn, .ref amRdL, .ref amRdE, .ref amRdD, .ref amSz, .ref amLane, .ref amSh, .ref amHands, .int (m_X8_traced (m_X8_traced mTrace (2 : Int32)) (1 : Int32))])), (amK, .inl (cI, 5, .inl mK)), (amD, .inl (cI, 5, .inl mD))]) (st' := []) (nw := 3) (n1 := 1) hC gX8_tell_X8_traced hdV_yX8_traced 0 rfl rfl (As := [.int (1 : Int32)]) (rest := []) (c_X8_traced D cI aMO mFault amS mDays amH mLin amK amO amD mCool mReadAt mReadDays mReadLin amRS amRH amRK amRO amRD amDN amSN mDayNow mLast mTears mWrong amTF amTFor amWB mRdn amRdL amRdE amRdD amSz amLane amSh amHands (m_X8_traced mTrace (2 : Int32)) (1 : Int32)) rfl ⟨by decide, by decide⟩ rfl [0] [1, 2] [2, 0, 1] [0] rfl rfl rfl rfl (by decide) rfl rfl (Nat.le_of_ble_eq_true rfl) dX8_tell_38 rfl rfl ?_
        refine g_iload_n hC dX8_tell_41 rfl 0 rfl rfl ?_
        refine g_iconst (v := 2) hC dX8_tell_42 (by decide) rfl ?_
        refine g_icmp_ne (tgt := 51) hC dX8_tell_43 (by decide) rfl (fun c_43 => ?_) (fun c_43 => ?_)
        · rw [if_neg c_43] at hres
          refine g_aload_n hC dX8_tell_51 rfl 1 rfl rfl ?_
          refine g_get hC iw_X8_tell_RX8 0 rfl rfl 7 (by decide) (List.mem_of_getElem? (i := 2) rfl) rfl rfl dX8_tell_52 rfl ?_
          refine g_iload_n hC dX8_tell_55 rfl 2 rfl rfl ?_
          refine g_iald hC 2 0 rfl rfl (by exact nl_ok c_5 hl5) dX8_tell_56 rfl ?_
          refine g_istore_n (lv' := [(3, .int (mD l.toNatClampNeg)), (2, .int (mK l.toNatClampNeg)), (0, .ref aMO), (1, .int l)]) hC dX8_tell_57 rfl (by decide) rfl rfl ?_
          refine g_iload_n hC dX8_tell_58 rfl 1 rfl rfl ?_
          refine g_if_ne (tgt := 66) hC dX8_tell_59 (by decide) rfl (fun c_59 => ?_) (fun c_59 => ?_)
          · rw [if_neg c_59] at hres
            refine g_iload_n hC dX8_tell_66 rfl 1 rfl rfl ?_
            refine g_iconst (v := 1) hC dX8_tell_67 (by decide) rfl ?_
            have K_68 : ∀ vK : Int32, vK = (if (mK l.toNatClampNeg) = (1 : Int32) then ((mD l.toNatClampNeg) + (100 : Int32)) else (((2 : Int32) * (mD l.toNatClampNeg)) + (100 : Int32))) → G X D 4 [(aMO, .inr (8, [.int mFault, .ref amS, .int mDays, .ref amH, .int mLin, .ref amK, .ref amO, .ref amD, .int mCool, .int mReadAt, .int mReadDays, .int mReadLin, .ref amRS, .ref amRH, .ref amRK, .ref amRO, .ref amRD, .ref amDN, .ref amSN, .int mDayNow, .int mLast, .int mTears, .int mWrong, .ref amTF, .ref amTFor, .ref amWB, .int mRdn, .ref amRdL, .ref amRdE, .ref amRdD, .ref amSz, .ref amLane, .ref amSh, .ref amHands, .int (m_X8_traced (m_X8_traced mTrace (2 : Int32)) (1 : Int32))])), (amK, .inl (cI, 5, .inl mK)), (amD, .inl (cI, 5, .inl mD))] [(3, .int (mD l.toNatClampNeg)), (2, .int (mK l.toNatClampNeg)), (0, .ref aMO), (1, .int l)] 84 (.int vK :: []) := by
              intro vK hvK
              subst hvK
              subst hres
              exact g_iret hC hX rfl dX8_tell_84 rfl rfl
            refine g_icmp_ne (tgt := 78) hC dX8_tell_68 (by decide) rfl (fun c_68 => ?_) (fun c_68 => ?_)
            · refine g_iconst (v := 2) hC dX8_tell_78 (by decide) rfl ?_
              refine g_iload_n hC dX8_tell_79 rfl 0 rfl rfl ?_
              refine g_imul hC dX8_tell_80 rfl ?_
              refine g_bipush (v := 100) hC dX8_tell_81 (by decide) rfl ?_
              refine g_iadd hC dX8_tell_83 rfl ?_
              exact K_68 _ (if_neg c_68).symm
            · refine g_iload_n hC dX8_tell_71 rfl 0 rfl rfl ?_
              refine g_bipush (v := 100) hC dX8_tell_72 (by decide) rfl ?_
              refine g_iadd hC dX8_tell_74 rfl ?_
              refine g_goto (tgt := 84) hC dX8_tell_75 (by decide) ?_
              exact K_68 _ (if_pos c_68).symm
          · rw [if_pos c_59] at hres
            refine g_iload_n hC dX8_tell_62 rfl 0 rfl rfl ?_
            refine g_goto (tgt := 84) hC dX8_tell_63 (by decide) ?_
            subst hres
            exact g_iret hC hX rfl dX8_tell_84 rfl rfl
        · rw [if_pos c_43] at hres
          refine g_aload_n hC dX8_tell_46 rfl 1 rfl rfl ?_
          refine g_iconst (v := 1) hC dX8_tell_47 (by decide) rfl ?_
          refine g_callV (ws' := [(aMO, .inr (8, [.int mFault, .ref amS, .int mDays, .ref amH, .int mLin, .ref amK, .ref amO, .ref amD, .int mCool, .int mReadAt, .int mReadDays, .int mReadLin, .ref amRS, .ref amRH, .ref amRK, .ref amRO, .ref amRD, .ref amDN, .ref amSN, .int mDayNow, .int mLast, .int mTears, .int mWrong, .ref amTF, .ref amTFor, .ref amWB, .int mRdn, .ref amRdL, .ref amRdE, .ref amRdD, .ref amSz, .ref amLane, .ref amSh, .ref amHands, .int (m_X8_traced (m_X8_traced (m_X8_traced mTrace (2 : Int32)) (1 : Int32)) (1 : Int32))])), (amK, .inl (cI, 5, .inl mK)), (amD, .inl (cI, 5, .inl mD))]) (st' := []) (nw := 3) (n1 := 1) hC gX8_tell_X8_traced hdV_yX8_traced 0 rfl rfl (As := [.int (1 : Int32)]) (rest := []) (c_X8_traced D cI aMO mFault amS mDays amH mLin amK amO amD mCool mReadAt mReadDays mReadLin amRS amRH amRK amRO amRD amDN amSN mDayNow mLast mTears mWrong amTF amTFor amWB mRdn amRdL amRdE amRdD amSz amLane amSh amHands (m_X8_traced (m_X8_traced mTrace (2 : Int32)) (1 : Int32)) (1 : Int32)) rfl ⟨by decide, by decide⟩ rfl [0] [1, 2] [2, 0, 1] [0] rfl rfl rfl rfl (by decide) rfl rfl (Nat.le_of_ble_eq_true rfl) dX8_tell_48 rfl rfl ?_
          refine g_aload_n hC dX8_tell_51 rfl 1 rfl rfl ?_
          refine g_get hC iw_X8_tell_RX8 0 rfl rfl 7 (by decide) (List.mem_of_getElem? (i := 2) rfl) rfl rfl dX8_tell_52 rfl ?_
          refine g_iload_n hC dX8_tell_55 rfl 2 rfl rfl ?_
          refine g_iald hC 2 0 rfl rfl (by exact nl_ok c_5 hl5) dX8_tell_56 rfl ?_
          refine g_istore_n (lv' := [(3, .int (mD l.toNatClampNeg)), (2, .int (mK l.toNatClampNeg)), (0, .ref aMO), (1, .int l)]) hC dX8_tell_57 rfl (by decide) rfl rfl ?_
          refine g_iload_n hC dX8_tell_58 rfl 1 rfl rfl ?_
          refine g_if_ne (tgt := 66) hC dX8_tell_59 (by decide) rfl (fun c_59 => ?_) (fun c_59 => ?_)
          · rw [if_neg c_59] at hres
            refine g_iload_n hC dX8_tell_66 rfl 1 rfl rfl ?_
            refine g_iconst (v := 1) hC dX8_tell_67 (by decide) rfl ?_
            have K_68 : ∀ vK : Int32, vK = (if (mK l.toNatClampNeg) = (1 : Int32) then ((mD l.toNatClampNeg) + (100 : Int32)) else (((2 : Int32) * (mD l.toNatClampNeg)) + (100 : Int32))) → G X D 4 [(aMO, .inr (8, [.int mFault, .ref amS, .int mDays, .ref amH, .int mLin, .ref amK, .ref amO, .ref amD, .int mCool, .int mReadAt, .int mReadDays, .int mReadLin, .ref amRS, .ref amRH, .ref amRK, .ref amRO, .ref amRD, .ref amDN, .ref amSN, .int mDayNow, .int mLast, .int mTears, .int mWrong, .ref amTF, .ref amTFor, .ref amWB, .int mRdn, .ref amRdL, .ref amRdE, .ref amRdD, .ref amSz, .ref amLane, .ref amSh, .ref amHands, .int (m_X8_traced (m_X8_traced (m_X8_traced mTrace (2 : Int32)) (1 : Int32)) (1 : Int32))])), (amK, .inl (cI, 5, .inl mK)), (amD, .inl (cI, 5, .inl mD))] [(3, .int (mD l.toNatClampNeg)), (2, .int (mK l.toNatClampNeg)), (0, .ref aMO), (1, .int l)] 84 (.int vK :: []) := by
              intro vK hvK
              subst hvK
              subst hres
              exact g_iret hC hX rfl dX8_tell_84 rfl rfl
            refine g_icmp_ne (tgt := 78) hC dX8_tell_68 (by decide) rfl (fun c_68 => ?_) (fun c_68 => ?_)
            · refine g_iconst (v := 2) hC dX8_tell_78 (by decide) rfl ?_
              refine g_iload_n hC dX8_tell_79 rfl 0 rfl rfl ?_
              refine g_imul hC dX8_tell_80 rfl ?_
              refine g_bipush (v := 100) hC dX8_tell_81 (by decide) rfl ?_
              refine g_iadd hC dX8_tell_83 rfl ?_
              exact K_68 _ (if_neg c_68).symm
            · refine g_iload_n hC dX8_tell_71 rfl 0 rfl rfl ?_
              refine g_bipush (v := 100) hC dX8_tell_72 (by decide) rfl ?_
              refine g_iadd hC dX8_tell_74 rfl ?_
              refine g_goto (tgt := 84) hC dX8_tell_75 (by decide) ?_
              exact K_68 _ (if_pos c_68).symm
          · rw [if_pos c_59] at hres
            refine g_iload_n hC dX8_tell_62 rfl 0 rfl rfl ?_
            refine g_goto (tgt := 84) hC dX8_tell_63 (by decide) ?_
            subst hres
            exact g_iret hC hX rfl dX8_tell_84 rfl rfl
    · replace hres := hres.trans (if_pos c_19)
      refine g_aload_n hC dX8_tell_22 rfl 1 rfl rfl ?_
      refine g_iconst (v := 3) hC dX8_tell_23 (by decide) rfl ?_
      refine g_callV (ws' := [(aMO, .inr (8, [.int mFault, .ref amS, .int mDays, .ref amH, .int mLin, .ref amK, .ref amO, .ref amD, .int mCool, .int mReadAt, .int mReadDays, .int mReadLin, .ref amRS, .ref amRH, .ref amRK, .ref amRO, .ref amRD, .ref amDN, .ref amSN, .int mDayNow, .int mLast, .int mTears, .int mWrong, .ref amTF, .ref amTFor, .ref amWB, .int mRdn, .ref amRdL, .ref amRdE, .ref amRdD, .ref amSz, .ref amLane, .ref amSh, .ref amHands, .int (m_X8_traced mTrace (3 : Int32))])), (amK, .inl (cI, 5, .inl mK)), (amD, .inl (cI, 5, .inl mD))]) (st' := []) (nw := 3) (n1 := 1) hC gX8_tell_X8_traced hdV_yX8_traced 0 rfl rfl (As := [.int (3 : Int32)]) (rest := []) (c_X8_traced D cI aMO mFault amS mDays amH mLin amK amO amD mCool mReadAt mReadDays mReadLin amRS amRH amRK amRO amRD amDN amSN mDayNow mLast mTears mWrong amTF amTFor amWB mRdn amRdL amRdE amRdD amSz amLane amSh amHands mTrace (3 : Int32)) rfl ⟨by decide, by decide⟩ rfl [0] [1, 2] [2, 0, 1] [0] rfl rfl rfl rfl (by decide) rfl rfl (Nat.le_of_ble_eq_true rfl) dX8_tell_24 rfl rfl ?_
      refine g_iload_n hC dX8_tell_27 rfl 0 rfl rfl ?_
      refine g_if_le (tgt := 36) hC dX8_tell_28 (by decide) rfl (fun c_28 => ?_) (fun c_28 => ?_)
      · rw [if_pos c_28] at hres
        refine g_aload_n hC dX8_tell_36 rfl 1 rfl rfl ?_
        refine g_iconst (v := 1) hC dX8_tell_37 (by decide) rfl ?_
        refine g_callV (ws' := [(aMO, .inr (8, [.int mFault, .ref amS, .int mDays, .ref amH, .int mLin, .ref amK, .ref amO, .ref amD, .int mCool, .int mReadAt, .int mReadDays, .int mReadLin, .ref amRS, .ref amRH, .ref amRK, .ref amRO, .ref amRD, .ref amDN, .ref amSN, .int mDayNow, .int mLast, .int mTears, .int mWrong, .ref amTF, .ref amTFor, .ref amWB, .int mRdn, .ref amRdL, .ref amRdE, .ref amRdD, .ref amSz, .ref amLane, .ref amSh, .ref amHands, .int (m_X8_traced (m_X8_traced mTrace (3 : Int32)) (1 : Int32))])), (amK, .inl (cI, 5, .inl mK)), (amD, .inl (cI, 5, .inl mD))]) (st' := []) (nw := 3) (n1 := 1) hC gX8_tell_X8_traced hdV_yX8_traced 0 rfl rfl (As := [.int (1 : Int32)]) (rest := []) (c_X8_traced D cI aMO mFault amS mDays amH mLin amK amO amD mCool mReadAt mReadDays mReadLin amRS amRH amRK amRO amRD amDN amSN mDayNow mLast mTears mWrong amTF amTFor amWB mRdn amRdL amRdE amRdD amSz amLane amSh amHands (m_X8_traced mTrace (3 : Int32)) (1 : Int32)) rfl ⟨by decide, by decide⟩ rfl [0] [1, 2] [2, 0, 1] [0] rfl rfl rfl rfl (by decide) rfl rfl (Nat.le_of_ble_eq_true rfl) dX8_tell_38 rfl rfl ?_
        refine g_iload_n hC dX8_tell_41 rfl 0 rfl rfl ?_
        refine g_iconst (v := 2) hC dX8_tell_42 (by decide) rfl ?_
        refine g_icmp_ne (tgt := 51) hC dX8_tell_43 (by decide) rfl (fun c_43 => ?_) (fun c_43 => ?_)
        · rw [if_neg c_43] at hres
          refine g_aload_n hC dX8_tell_51 rfl 1 rfl rfl ?_
          refine g_get hC iw_X8_tell_RX8 0 rfl rfl 7 (by decide) (List.mem_of_getElem? (i := 2) rfl) rfl rfl dX8_tell_52 rfl ?_
          refine g_iload_n hC dX8_tell_55 rfl 2 rfl rfl ?_
          refine g_iald hC 2 0 rfl rfl (by exact nl_ok c_5 hl5) dX8_tell_56 rfl ?_
          refine g_istore_n (lv' := [(3, .int (mD l.toNatClampNeg)), (2, .int (mK l.toNatClampNeg)), (0, .ref aMO), (1, .int l)]) hC dX8_tell_57 rfl (by decide) rfl rfl ?_
          refine g_iload_n hC dX8_tell_58 rfl 1 rfl rfl ?_
          refine g_if_ne (tgt := 66) hC dX8_tell_59 (by decide) rfl (fun c_59 => ?_) (fun c_59 => ?_)
          · rw [if_neg c_59] at hres
            refine g_iload_n hC dX8_tell_66 rfl 1 rfl rfl ?_
            refine g_iconst (v := 1) hC dX8_tell_67 (by decide) rfl ?_
            have K_68 : ∀ vK : Int32, vK = (if (mK l.toNatClampNeg) = (1 : Int32) then ((mD l.toNatClampNeg) + (100 : Int32)) else (((2 : Int32) * (mD l.toNatClampNeg)) + (100 : Int32))) → G X D 4 [(aMO, .inr (8, [.int mFault, .ref amS, .int mDays, .ref amH, .int mLin, .ref amK, .ref amO, .ref amD, .int mCool, .int mReadAt, .int mReadDays, .int mReadLin, .ref amRS, .ref amRH, .ref amRK, .ref amRO, .ref amRD, .ref amDN, .ref amSN, .int mDayNow, .int mLast, .int mTears, .int mWrong, .ref amTF, .ref amTFor, .ref amWB, .int mRdn, .ref amRdL, .ref amRdE, .ref amRdD, .ref amSz, .ref amLane, .ref amSh, .ref amHands, .int (m_X8_traced (m_X8_traced mTrace (3 : Int32)) (1 : Int32))])), (amK, .inl (cI, 5, .inl mK)), (amD, .inl (cI, 5, .inl mD))] [(3, .int (mD l.toNatClampNeg)), (2, .int (mK l.toNatClampNeg)), (0, .ref aMO), (1, .int l)] 84 (.int vK :: []) := by
              intro vK hvK
              subst hvK
              subst hres
              exact g_iret hC hX rfl dX8_tell_84 rfl rfl
            refine g_icmp_ne (tgt := 78) hC dX8_tell_68 (by decide) rfl (fun c_68 => ?_) (fun c_68 => ?_)
            · refine g_iconst (v := 2) hC dX8_tell_78 (by decide) rfl ?_
              refine g_iload_n hC dX8_tell_79 rfl 0 rfl rfl ?_
              refine g_imul hC dX8_tell_80 rfl ?_
              refine g_bipush (v := 100) hC dX8_tell_81 (by decide) rfl ?_
              refine g_iadd hC dX8_tell_83 rfl ?_
              exact K_68 _ (if_neg c_68).symm
            · refine g_iload_n hC dX8_tell_71 rfl 0 rfl rfl ?_
              refine g_bipush (v := 100) hC dX8_tell_72 (by decide) rfl ?_
              refine g_iadd hC dX8_tell_74 rfl ?_
              refine g_goto (tgt := 84) hC dX8_tell_75 (by decide) ?_
              exact K_68 _ (if_pos c_68).symm
          · rw [if_pos c_59] at hres
            refine g_iload_n hC dX8_tell_62 rfl 0 rfl rfl ?_
            refine g_goto (tgt := 84) hC dX8_tell_63 (by decide) ?_
            subst hres
            exact g_iret hC hX rfl dX8_tell_84 rfl rfl
        · rw [if_pos c_43] at hres
          refine g_aload_n hC dX8_tell_46 rfl 1 rfl rfl ?_
          refine g_iconst (v := 1) hC dX8_tell_47 (by decide) rfl ?_
          refine g_callV (ws' := [(aMO, .inr (8, [.int mFault, .ref amS, .int mDays, .ref amH, .int mLin, .ref amK, .ref amO, .ref amD, .int mCool, .int mReadAt, .int mReadDays, .int mReadLin, .ref amRS, .ref amRH, .ref amRK, .ref amRO, .ref amRD, .ref amDN, .ref amSN, .int mDayNow, .int mLast, .int mTears, .int mWrong, .ref amTF, .ref amTFor, .ref amWB, .int mRdn, .ref amRdL, .ref amRdE, .ref amRdD, .ref amSz, .ref amLane, .ref amSh, .ref amHands, .int (m_X8_traced (m_X8_traced (m_X8_traced mTrace (3 : Int32)) (1 : Int32)) (1 : Int32))])), (amK, .inl (cI, 5, .inl mK)), (amD, .inl (cI, 5, .inl mD))]) (st' := []) (nw := 3) (n1 := 1) hC gX8_tell_X8_traced hdV_yX8_traced 0 rfl rfl (As := [.int (1 : Int32)]) (rest := []) (c_X8_traced D cI aMO mFault amS mDays amH mLin amK amO amD mCool mReadAt mReadDays mReadLin amRS amRH amRK amRO amRD amDN amSN mDayNow mLast mTears mWrong amTF amTFor amWB mRdn amRdL amRdE amRdD amSz amLane amSh amHands (m_X8_traced (m_X8_traced mTrace (3 : Int32)) (1 : Int32)) (1 : Int32)) rfl ⟨by decide, by decide⟩ rfl [0] [1, 2] [2, 0, 1] [0] rfl rfl rfl rfl (by decide) rfl rfl (Nat.le_of_ble_eq_true rfl) dX8_tell_48 rfl rfl ?_
          refine g_aload_n hC dX8_tell_51 rfl 1 rfl rfl ?_
          refine g_get hC iw_X8_tell_RX8 0 rfl rfl 7 (by decide) (List.mem_of_getElem? (i := 2) rfl) rfl rfl dX8_tell_52 rfl ?_
          refine g_iload_n hC dX8_tell_55 rfl 2 rfl rfl ?_
          refine g_iald hC 2 0 rfl rfl (by exact nl_ok c_5 hl5) dX8_tell_56 rfl ?_
          refine g_istore_n (lv' := [(3, .int (mD l.toNatClampNeg)), (2, .int (mK l.toNatClampNeg)), (0, .ref aMO), (1, .int l)]) hC dX8_tell_57 rfl (by decide) rfl rfl ?_
          refine g_iload_n hC dX8_tell_58 rfl 1 rfl rfl ?_
          refine g_if_ne (tgt := 66) hC dX8_tell_59 (by decide) rfl (fun c_59 => ?_) (fun c_59 => ?_)
          · rw [if_neg c_59] at hres
            refine g_iload_n hC dX8_tell_66 rfl 1 rfl rfl ?_
            refine g_iconst (v := 1) hC dX8_tell_67 (by decide) rfl ?_
            have K_68 : ∀ vK : Int32, vK = (if (mK l.toNatClampNeg) = (1 : Int32) then ((mD l.toNatClampNeg) + (100 : Int32)) else (((2 : Int32) * (mD l.toNatClampNeg)) + (100 : Int32))) → G X D 4 [(aMO, .inr (8, [.int mFault, .ref amS, .int mDays, .ref amH, .int mLin, .ref amK, .ref amO, .ref amD, .int mCool, .int mReadAt, .int mReadDays, .int mReadLin, .ref amRS, .ref amRH, .ref amRK, .ref amRO, .ref amRD, .ref amDN, .ref amSN, .int mDayNow, .int mLast, .int mTears, .int mWrong, .ref amTF, .ref amTFor, .ref amWB, .int mRdn, .ref amRdL, .ref amRdE, .ref amRdD, .ref amSz, .ref amLane, .ref amSh, .ref amHands, .int (m_X8_traced (m_X8_traced (m_X8_traced mTrace (3 : Int32)) (1 : Int32)) (1 : Int32))])), (amK, .inl (cI, 5, .inl mK)), (amD, .inl (cI, 5, .inl mD))] [(3, .int (mD l.toNatClampNeg)), (2, .int (mK l.toNatClampNeg)), (0, .ref aMO), (1, .int l)] 84 (.int vK :: []) := by
              intro vK hvK
              subst hvK
              subst hres
              exact g_iret hC hX rfl dX8_tell_84 rfl rfl
            refine g_icmp_ne (tgt := 78) hC dX8_tell_68 (by decide) rfl (fun c_68 => ?_) (fun c_68 => ?_)
            · refine g_iconst (v := 2) hC dX8_tell_78 (by decide) rfl ?_
              refine g_iload_n hC dX8_tell_79 rfl 0 rfl rfl ?_
              refine g_imul hC dX8_tell_80 rfl ?_
              refine g_bipush (v := 100) hC dX8_tell_81 (by decide) rfl ?_
              refine g_iadd hC dX8_tell_83 rfl ?_
              exact K_68 _ (if_neg c_68).symm
            · refine g_iload_n hC dX8_tell_71 rfl 0 rfl rfl ?_
              refine g_bipush (v := 100) hC dX8_tell_72 (by decide) rfl ?_
              refine g_iadd hC dX8_tell_74 rfl ?_
              refine g_goto (tgt := 84) hC dX8_tell_75 (by decide) ?_
              exact K_68 _ (if_pos c_68).symm
          · rw [if_pos c_59] at hres
            refine g_iload_n hC dX8_tell_62 rfl 0 rfl rfl ?_
            refine g_goto (tgt := 84) hC dX8_tell_63 (by decide) ?_
            subst hres
            exact g_iret hC hX rfl dX8_tell_84 rfl rfl
      · rw [if_neg c_28] at hres
        refine g_aload_n hC dX8_tell_31 rfl 1 rfl rfl ?_
        refine g_iconst (v := 2) hC dX8_tell_32 (by decide) rfl ?_
        refine g_callV (ws' := [(aMO, .inr (8, [.int mFault, .ref amS, .int mDays, .ref amH, .int mLin, .ref amK, .ref amO, .ref amD, .int mCool, .int mReadAt, .int mReadDays, .int mReadLin, .ref amRS, .ref amRH, .ref amRK, .ref amRO, .ref amRD, .ref amDN, .ref amSN, .int mDayNow, .int mLast, .int mTears, .int mWrong, .ref amTF, .ref amTFor, .ref amWB, .int mRdn, .ref amRdL, .ref amRdE, .ref amRdD, .ref amSz, .ref amLane, .ref amSh, .ref amHands, .int (m_X8_traced (m_X8_traced mTrace (3 : Int32)) (2 : Int32))])), (amK, .inl (cI, 5, .inl mK)), (amD, .inl (cI, 5, .inl mD))]) (st' := []) (nw := 3) (n1 := 1) hC gX8_tell_X8_traced hdV_yX8_traced 0 rfl rfl (As := [.int (2 : Int32)]) (rest := []) (c_X8_traced D cI aMO mFault amS mDays amH mLin amK amO amD mCool mReadAt mReadDays mReadLin amRS amRH amRK amRO amRD amDN amSN mDayNow mLast mTears mWrong amTF amTFor amWB mRdn amRdL amRdE amRdD amSz amLane amSh amHands (m_X8_traced mTrace (3 : Int32)) (2 : Int32)) rfl ⟨by decide, by decide⟩ rfl [0] [1, 2] [2, 0, 1] [0] rfl rfl rfl rfl (by decide) rfl rfl (Nat.le_of_ble_eq_true rfl) dX8_tell_33 rfl rfl ?_
        refine g_aload_n hC dX8_tell_36 rfl 1 rfl rfl ?_
        refine g_iconst (v := 1) hC dX8_tell_37 (by decide) rfl ?_
        refine g_callV (ws' := [(aMO, .inr (8, [.int mFault, .ref amS, .int mDays, .ref amH, .int mLin, .ref amK, .ref amO, .ref amD, .int mCool, .int mReadAt, .int mReadDays, .int mReadLin, .ref amRS, .ref amRH, .ref amRK, .ref amRO, .ref amRD, .ref amDN, .ref amSN, .int mDayNow, .int mLast, .int mTears, .int mWrong, .ref amTF, .ref amTFor, .ref amWB, .int mRdn, .ref amRdL, .ref amRdE, .ref amRdD, .ref amSz, .ref amLane, .ref amSh, .ref amHands, .int (m_X8_traced (m_X8_traced (m_X8_traced mTrace (3 : Int32)) (2 : Int32)) (1 : Int32))])), (amK, .inl (cI, 5, .inl mK)), (amD, .inl (cI, 5, .inl mD))]) (st' := []) (nw := 3) (n1 := 1) hC gX8_tell_X8_traced hdV_yX8_traced 0 rfl rfl (As := [.int (1 : Int32)]) (rest := []) (c_X8_traced D cI aMO mFault amS mDays amH mLin amK amO amD mCool mReadAt mReadDays mReadLin amRS amRH amRK amRO amRD amDN amSN mDayNow mLast mTears mWrong amTF amTFor amWB mRdn amRdL amRdE amRdD amSz amLane amSh amHands (m_X8_traced (m_X8_traced mTrace (3 : Int32)) (2 : Int32)) (1 : Int32)) rfl ⟨by decide, by decide⟩ rfl [0] [1, 2] [2, 0, 1] [0] rfl rfl rfl rfl (by decide) rfl rfl (Nat.le_of_ble_eq_true rfl) dX8_tell_38 rfl rfl ?_
        refine g_iload_n hC dX8_tell_41 rfl 0 rfl rfl ?_
        refine g_iconst (v := 2) hC dX8_tell_42 (by decide) rfl ?_
        refine g_icmp_ne (tgt := 51) hC dX8_tell_43 (by decide) rfl (fun c_43 => ?_) (fun c_43 => ?_)
        · rw [if_neg c_43] at hres
          refine g_aload_n hC dX8_tell_51 rfl 1 rfl rfl ?_
          refine g_get hC iw_X8_tell_RX8 0 rfl rfl 7 (by decide) (List.mem_of_getElem? (i := 2) rfl) rfl rfl dX8_tell_52 rfl ?_
          refine g_iload_n hC dX8_tell_55 rfl 2 rfl rfl ?_
          refine g_iald hC 2 0 rfl rfl (by exact nl_ok c_5 hl5) dX8_tell_56 rfl ?_
          refine g_istore_n (lv' := [(3, .int (mD l.toNatClampNeg)), (2, .int (mK l.toNatClampNeg)), (0, .ref aMO), (1, .int l)]) hC dX8_tell_57 rfl (by decide) rfl rfl ?_
          refine g_iload_n hC dX8_tell_58 rfl 1 rfl rfl ?_
          refine g_if_ne (tgt := 66) hC dX8_tell_59 (by decide) rfl (fun c_59 => ?_) (fun c_59 => ?_)
          · rw [if_neg c_59] at hres
            refine g_iload_n hC dX8_tell_66 rfl 1 rfl rfl ?_
            refine g_iconst (v := 1) hC dX8_tell_67 (by decide) rfl ?_
            have K_68 : ∀ vK : Int32, vK = (if (mK l.toNatClampNeg) = (1 : Int32) then ((mD l.toNatClampNeg) + (100 : Int32)) else (((2 : Int32) * (mD l.toNatClampNeg)) + (100 : Int32))) → G X D 4 [(aMO, .inr (8, [.int mFault, .ref amS, .int mDays, .ref amH, .int mLin, .ref amK, .ref amO, .ref amD, .int mCool, .int mReadAt, .int mReadDays, .int mReadLin, .ref amRS, .ref amRH, .ref amRK, .ref amRO, .ref amRD, .ref amDN, .ref amSN, .int mDayNow, .int mLast, .int mTears, .int mWrong, .ref amTF, .ref amTFor, .ref amWB, .int mRdn, .ref amRdL, .ref amRdE, .ref amRdD, .ref amSz, .ref amLane, .ref amSh, .ref amHands, .int (m_X8_traced (m_X8_traced (m_X8_traced mTrace (3 : Int32)) (2 : Int32)) (1 : Int32))])), (amK, .inl (cI, 5, .inl mK)), (amD, .inl (cI, 5, .inl mD))] [(3, .int (mD l.toNatClampNeg)), (2, .int (mK l.toNatClampNeg)), (0, .ref aMO), (1, .int l)] 84 (.int vK :: []) := by
              intro vK hvK
              subst hvK
              subst hres
              exact g_iret hC hX rfl dX8_tell_84 rfl rfl
            refine g_icmp_ne (tgt := 78) hC dX8_tell_68 (by decide) rfl (fun c_68 => ?_) (fun c_68 => ?_)
            · refine g_iconst (v := 2) hC dX8_tell_78 (by decide) rfl ?_
              refine g_iload_n hC dX8_tell_79 rfl 0 rfl rfl ?_
              refine g_imul hC dX8_tell_80 rfl ?_
              refine g_bipush (v := 100) hC dX8_tell_81 (by decide) rfl ?_
              refine g_iadd hC dX8_tell_83 rfl ?_
              exact K_68 _ (if_neg c_68).symm
            · refine g_iload_n hC dX8_tell_71 rfl 0 rfl rfl ?_
              refine g_bipush (v := 100) hC dX8_tell_72 (by decide) rfl ?_
              refine g_iadd hC dX8_tell_74 rfl ?_
              refine g_goto (tgt := 84) hC dX8_tell_75 (by decide) ?_
              exact K_68 _ (if_pos c_68).symm
          · rw [if_pos c_59] at hres
            refine g_iload_n hC dX8_tell_62 rfl 0 rfl rfl ?_
            refine g_goto (tgt := 84) hC dX8_tell_63 (by decide) ?_
            subst hres
            exact g_iret hC hX rfl dX8_tell_84 rfl rfl
        · rw [if_pos c_43] at hres
          refine g_aload_n hC dX8_tell_46 rfl 1 rfl rfl ?_
          refine g_iconst (v := 1) hC dX8_tell_47 (by decide) rfl ?_
          refine g_callV (ws' := [(aMO, .inr (8, [.int mFault, .ref amS, .int mDays, .ref amH, .int mLin, .ref amK, .ref amO, .ref amD, .int mCool, .int mReadAt, .int mReadDays, .int mReadLin, .ref amRS, .ref amRH, .ref amRK, .ref amRO, .ref amRD, .ref amDN, .ref amSN, .int mDayNow, .int mLast, .int mTears, .int mWrong, .ref amTF, .ref amTFor, .ref amWB, .int mRdn, .ref amRdL, .ref amRdE, .ref amRdD, .ref amSz, .ref amLane, .ref amSh, .ref amHands, .int (m_X8_traced (m_X8_traced (m_X8_traced (m_X8_traced mTrace (3 : Int32)) (2 : Int32)) (1 : Int32)) (1 : Int32))])), (amK, .inl (cI, 5, .inl mK)), (amD, .inl (cI, 5, .inl mD))]) (st' := []) (nw := 3) (n1 := 1) hC gX8_tell_X8_traced hdV_yX8_traced 0 rfl rfl (As := [.int (1 : Int32)]) (rest := []) (c_X8_traced D cI aMO mFault amS mDays amH mLin amK amO amD mCool mReadAt mReadDays mReadLin amRS amRH amRK amRO amRD amDN amSN mDayNow mLast mTears mWrong amTF amTFor amWB mRdn amRdL amRdE amRdD amSz amLane amSh amHands (m_X8_traced (m_X8_traced (m_X8_traced mTrace (3 : Int32)) (2 : Int32)) (1 : Int32)) (1 : Int32)) rfl ⟨by decide, by decide⟩ rfl [0] [1, 2] [2, 0, 1] [0] rfl rfl rfl rfl (by decide) rfl rfl (Nat.le_of_ble_eq_true rfl) dX8_tell_48 rfl rfl ?_
          refine g_aload_n hC dX8_tell_51 rfl 1 rfl rfl ?_
          refine g_get hC iw_X8_tell_RX8 0 rfl rfl 7 (by decide) (List.mem_of_getElem? (i := 2) rfl) rfl rfl dX8_tell_52 rfl ?_
          refine g_iload_n hC dX8_tell_55 rfl 2 rfl rfl ?_
          refine g_iald hC 2 0 rfl rfl (by exact nl_ok c_5 hl5) dX8_tell_56 rfl ?_
          refine g_istore_n (lv' := [(3, .int (mD l.toNatClampNeg)), (2, .int (mK l.toNatClampNeg)), (0, .ref aMO), (1, .int l)]) hC dX8_tell_57 rfl (by decide) rfl rfl ?_
          refine g_iload_n hC dX8_tell_58 rfl 1 rfl rfl ?_
          refine g_if_ne (tgt := 66) hC dX8_tell_59 (by decide) rfl (fun c_59 => ?_) (fun c_59 => ?_)
          · rw [if_neg c_59] at hres
            refine g_iload_n hC dX8_tell_66 rfl 1 rfl rfl ?_
            refine g_iconst (v := 1) hC dX8_tell_67 (by decide) rfl ?_
            have K_68 : ∀ vK : Int32, vK = (if (mK l.toNatClampNeg) = (1 : Int32) then ((mD l.toNatClampNeg) + (100 : Int32)) else (((2 : Int32) * (mD l.toNatClampNeg)) + (100 : Int32))) → G X D 4 [(aMO, .inr (8, [.int mFault, .ref amS, .int mDays, .ref amH, .int mLin, .ref amK, .ref amO, .ref amD, .int mCool, .int mReadAt, .int mReadDays, .int mReadLin, .ref amRS, .ref amRH, .ref amRK, .ref amRO, .ref amRD, .ref amDN, .ref amSN, .int mDayNow, .int mLast, .int mTears, .int mWrong, .ref amTF, .ref amTFor, .ref amWB, .int mRdn, .ref amRdL, .ref amRdE, .ref amRdD, .ref amSz, .ref amLane, .ref amSh, .ref amHands, .int (m_X8_traced (m_X8_traced (m_X8_traced (m_X8_traced mTrace (3 : Int32)) (2 : Int32)) (1 : Int32)) (1 : Int32))])), (amK, .inl (cI, 5, .inl mK)), (amD, .inl (cI, 5, .inl mD))] [(3, .int (mD l.toNatClampNeg)), (2, .int (mK l.toNatClampNeg)), (0, .ref aMO), (1, .int l)] 84 (.int vK :: []) := by
              intro vK hvK
              subst hvK
              subst hres
              exact g_iret hC hX rfl dX8_tell_84 rfl rfl
            refine g_icmp_ne (tgt := 78) hC dX8_tell_68 (by decide) rfl (fun c_68 => ?_) (fun c_68 => ?_)
            · refine g_iconst (v := 2) hC dX8_tell_78 (by decide) rfl ?_
              refine g_iload_n hC dX8_tell_79 rfl 0 rfl rfl ?_
              refine g_imul hC dX8_tell_80 rfl ?_
              refine g_bipush (v := 100) hC dX8_tell_81 (by decide) rfl ?_
              refine g_iadd hC dX8_tell_83 rfl ?_
              exact K_68 _ (if_neg c_68).symm
            · refine g_iload_n hC dX8_tell_71 rfl 0 rfl rfl ?_
              refine g_bipush (v := 100) hC dX8_tell_72 (by decide) rfl ?_
              refine g_iadd hC dX8_tell_74 rfl ?_
              refine g_goto (tgt := 84) hC dX8_tell_75 (by decide) ?_
              exact K_68 _ (if_pos c_68).symm
          · rw [if_pos c_59] at hres
            refine g_iload_n hC dX8_tell_62 rfl 0 rfl rfl ?_
            refine g_goto (tgt := 84) hC dX8_tell_63 (by decide) ?_
            subst hres
            exact g_iret hC hX rfl dX8_tell_84 rfl rfl
  · rw [if_neg c_5] at hres
    refine g_iconst (v := -1) hC dX8_tell_8 (by decide) rfl ?_
    subst hres
    exact g_iret hC hX rfl dX8_tell_9 rfl rfl
theorem iw_X8_knot_RX8 : ∀ w ∈ wsX80, w ∈ wsX8_knot := fun _ h => List.mem_cons_of_mem _ (List.mem_append_right _ (h))
def m_X8_knot (mLin : Int32) (mTrace : Int32) (mK : Nat → Int32) (l : Int32) : (Int32 × Int32) := (if (m_X8_noLinen mLin l) = 0 then ((if (mK l.toNatClampNeg) = (2 : Int32) then (30 : Int32) else l), (m_X8_traced mTrace (if (mK l.toNatClampNeg) = (2 : Int32) then (5 : Int32) else (4 : Int32)))) else ((-1 : Int32), mTrace))
set_option maxRecDepth 100000 in
set_option maxHeartbeats 4000000 in
theorem c_X8_knot (D : va_G) (cI : ClassId) (aMO : Nat) (mFault : Int32) (amS : Nat) (mDays : Int32) (amH : Nat) (mLin : Int32) (amK : Nat) (amO : Nat) (amD : Nat) (mCool : Int32) (mReadAt : Int32) (mReadDays : Int32) (mReadLin : Int32) (amRS : Nat) (amRH : Nat) (amRK : Nat) (amRO : Nat) (amRD : Nat) (amDN : Nat) (amSN : Nat) (mDayNow : Int32) (mLast : Int32) (mTears : Int32) (mWrong : Int32) (amTF : Nat) (amTFor : Nat) (amWB : Nat) (mRdn : Int32) (amRdL : Nat) (amRdE : Nat) (amRdD : Nat) (amSz : Nat) (amLane : Nat) (amSh : Nat) (amHands : Nat) (mTrace : Int32) (mK : Nat → Int32) (l : Int32) (hl5 : mLin.toInt ≤ 5) : MC yX8_knot wsX8_knot ({ frames := 2, cells := 0, slots := 0, locals := 46 } : Room) D [(cI, .int)] [.ref aMO, .int l] [(aMO, .inr (8, [.int mFault, .ref amS, .int mDays, .ref amH, .int mLin, .ref amK, .ref amO, .ref amD, .int mCool, .int mReadAt, .int mReadDays, .int mReadLin, .ref amRS, .ref amRH, .ref amRK, .ref amRO, .ref amRD, .ref amDN, .ref amSN, .int mDayNow, .int mLast, .int mTears, .int mWrong, .ref amTF, .ref amTFor, .ref amWB, .int mRdn, .ref amRdL, .ref amRdE, .ref amRdD, .ref amSz, .ref amLane, .ref amSh, .ref amHands, .int mTrace])), (amK, .inl (cI, 5, .inl mK))] (some (.int ((m_X8_knot mLin mTrace mK l).1))) [(aMO, .inr (8, [.int mFault, .ref amS, .int mDays, .ref amH, .int mLin, .ref amK, .ref amO, .ref amD, .int mCool, .int mReadAt, .int mReadDays, .int mReadLin, .ref amRS, .ref amRH, .ref amRK, .ref amRO, .ref amRD, .ref amDN, .ref amSN, .int mDayNow, .int mLast, .int mTears, .int mWrong, .ref amTF, .ref amTFor, .ref amWB, .int mRdn, .ref amRdL, .ref amRdE, .ref amRdD, .ref amSz, .ref amLane, .ref amSh, .ref amHands, .int ((m_X8_knot mLin mTrace mK l).2)])), (amK, .inl (cI, 5, .inl mK))] := by
  refine g_entry (by decide) rfl rfl rfl rfl (Nat.le_of_ble_eq_true rfl) (lv := [(0, .ref aMO), (1, .int l)]) rfl ?_
  intro X hC hX
  obtain ⟨res, hres⟩ : ∃ z, z = (m_X8_knot mLin mTrace mK l) := ⟨_, rfl⟩
  rw [← hres] at hX
  rw [m_X8_knot] at hres
  refine g_aload_n hC dX8_knot_0 rfl 0 rfl rfl ?_
  refine g_iload_n hC dX8_knot_1 rfl 1 rfl rfl ?_
  refine g_callV (ws' := [(aMO, .inr (8, [.int mFault, .ref amS, .int mDays, .ref amH, .int mLin, .ref amK, .ref amO, .ref amD, .int mCool, .int mReadAt, .int mReadDays, .int mReadLin, .ref amRS, .ref amRH, .ref amRK, .ref amRO, .ref amRD, .ref amDN, .ref amSN, .int mDayNow, .int mLast, .int mTears, .int mWrong, .ref amTF, .ref amTFor, .ref amWB, .int mRdn, .ref amRdL, .ref amRdE, .ref amRdD, .ref amSz, .ref amLane, .ref amSh, .ref amHands, .int mTrace])), (amK, .inl (cI, 5, .inl mK))]) (st' := [.int (m_X8_noLinen mLin l)]) (nw := 2) (n1 := 1) hC gX8_knot_X8_noLinen hdV_yX8_noLinen 0 rfl rfl (As := [.int l]) (rest := []) (c_X8_noLinen D cI aMO mFault amS mDays amH mLin amK amO amD mCool mReadAt mReadDays mReadLin amRS amRH amRK amRO amRD amDN amSN mDayNow mLast mTears mWrong amTF amTFor amWB mRdn amRdL amRdE amRdD amSz amLane amSh amHands mTrace l) rfl ⟨by decide, by decide⟩ rfl [0] [1] [1, 0] [0] rfl rfl rfl rfl (by decide) rfl rfl (Nat.le_of_ble_eq_true rfl) dX8_knot_2 rfl rfl ?_
  refine g_if_eq (tgt := 10) hC dX8_knot_5 (by decide) rfl (fun c_5 => ?_) (fun c_5 => ?_)
  · rw [if_pos c_5] at hres
    refine g_aload_n hC dX8_knot_10 rfl 0 rfl rfl ?_
    refine g_aload_n hC dX8_knot_11 rfl 0 rfl rfl ?_
    refine g_get hC iw_X8_knot_RX8 0 rfl rfl 5 (by decide) (List.mem_of_getElem? (i := 1) rfl) rfl rfl dX8_knot_12 rfl ?_
    refine g_iload_n hC dX8_knot_15 rfl 1 rfl rfl ?_
    refine g_iald hC 1 0 rfl rfl (by exact nl_ok c_5 hl5) dX8_knot_16 rfl ?_
    refine g_iconst (v := 2) hC dX8_knot_17 (by decide) rfl ?_
    have K_18 : ∀ vK : Int32, vK = (if (mK l.toNatClampNeg) = (2 : Int32) then (5 : Int32) else (4 : Int32)) → G X D 2 [(aMO, .inr (8, [.int mFault, .ref amS, .int mDays, .ref amH, .int mLin, .ref amK, .ref amO, .ref amD, .int mCool, .int mReadAt, .int mReadDays, .int mReadLin, .ref amRS, .ref amRH, .ref amRK, .ref amRO, .ref amRD, .ref amDN, .ref amSN, .int mDayNow, .int mLast, .int mTears, .int mWrong, .ref amTF, .ref amTFor, .ref amWB, .int mRdn, .ref amRdL, .ref amRdE, .ref amRdD, .ref amSz, .ref amLane, .ref amSh, .ref amHands, .int mTrace])), (amK, .inl (cI, 5, .inl mK))] [(0, .ref aMO), (1, .int l)] 26 (.int vK :: [.ref aMO]) := by
      intro vK hvK
      subst hvK
      refine g_callV (ws' := [(aMO, .inr (8, [.int mFault, .ref amS, .int mDays, .ref amH, .int mLin, .ref amK, .ref amO, .ref amD, .int mCool, .int mReadAt, .int mReadDays, .int mReadLin, .ref amRS, .ref amRH, .ref amRK, .ref amRO, .ref amRD, .ref amDN, .ref amSN, .int mDayNow, .int mLast, .int mTears, .int mWrong, .ref amTF, .ref amTFor, .ref amWB, .int mRdn, .ref amRdL, .ref amRdE, .ref amRdD, .ref amSz, .ref amLane, .ref amSh, .ref amHands, .int (m_X8_traced mTrace (if (mK l.toNatClampNeg) = (2 : Int32) then (5 : Int32) else (4 : Int32)))])), (amK, .inl (cI, 5, .inl mK))]) (st' := []) (nw := 2) (n1 := 1) hC gX8_knot_X8_traced hdV_yX8_traced 0 rfl rfl (As := [.int (if (mK l.toNatClampNeg) = (2 : Int32) then (5 : Int32) else (4 : Int32))]) (rest := []) (c_X8_traced D cI aMO mFault amS mDays amH mLin amK amO amD mCool mReadAt mReadDays mReadLin amRS amRH amRK amRO amRD amDN amSN mDayNow mLast mTears mWrong amTF amTFor amWB mRdn amRdL amRdE amRdD amSz amLane amSh amHands mTrace (if (mK l.toNatClampNeg) = (2 : Int32) then (5 : Int32) else (4 : Int32))) rfl ⟨by decide, by decide⟩ rfl [0] [1] [1, 0] [0] rfl rfl rfl rfl (by decide) rfl rfl (Nat.le_of_ble_eq_true rfl) dX8_knot_26 rfl rfl ?_
      refine g_aload_n hC dX8_knot_29 rfl 0 rfl rfl ?_
      refine g_get hC iw_X8_knot_RX8 0 rfl rfl 5 (by decide) (List.mem_of_getElem? (i := 1) rfl) rfl rfl dX8_knot_30 rfl ?_
      refine g_iload_n hC dX8_knot_33 rfl 1 rfl rfl ?_
      refine g_iald hC 1 0 rfl rfl (by exact nl_ok c_5 hl5) dX8_knot_34 rfl ?_
      refine g_iconst (v := 2) hC dX8_knot_35 (by decide) rfl ?_
      have K_36 : ∀ vK : Int32, vK = (if (mK l.toNatClampNeg) = (2 : Int32) then (30 : Int32) else l) → G X D 2 [(aMO, .inr (8, [.int mFault, .ref amS, .int mDays, .ref amH, .int mLin, .ref amK, .ref amO, .ref amD, .int mCool, .int mReadAt, .int mReadDays, .int mReadLin, .ref amRS, .ref amRH, .ref amRK, .ref amRO, .ref amRD, .ref amDN, .ref amSN, .int mDayNow, .int mLast, .int mTears, .int mWrong, .ref amTF, .ref amTFor, .ref amWB, .int mRdn, .ref amRdL, .ref amRdE, .ref amRdD, .ref amSz, .ref amLane, .ref amSh, .ref amHands, .int (m_X8_traced mTrace (if (mK l.toNatClampNeg) = (2 : Int32) then (5 : Int32) else (4 : Int32)))])), (amK, .inl (cI, 5, .inl mK))] [(0, .ref aMO), (1, .int l)] 45 (.int vK :: []) := by
        intro vK hvK
        subst hvK
        subst hres
        exact g_iret hC hX rfl dX8_knot_45 rfl rfl
      refine g_icmp_ne (tgt := 44) hC dX8_knot_36 (by decide) rfl (fun c_36 => ?_) (fun c_36 => ?_)
      · refine g_iload_n hC dX8_knot_44 rfl 1 rfl rfl ?_
        exact K_36 _ (if_neg c_36).symm
      · refine g_bipush (v := 30) hC dX8_knot_39 (by decide) rfl ?_
        refine g_goto (tgt := 45) hC dX8_knot_41 (by decide) ?_
        exact K_36 _ (if_pos c_36).symm
    refine g_icmp_ne (tgt := 25) hC dX8_knot_18 (by decide) rfl (fun c_18 => ?_) (fun c_18 => ?_)
    · refine g_iconst (v := 4) hC dX8_knot_25 (by decide) rfl ?_
      exact K_18 _ (if_neg c_18).symm
    · refine g_iconst (v := 5) hC dX8_knot_21 (by decide) rfl ?_
      refine g_goto (tgt := 26) hC dX8_knot_22 (by decide) ?_
      exact K_18 _ (if_pos c_18).symm
  · rw [if_neg c_5] at hres
    refine g_iconst (v := -1) hC dX8_knot_8 (by decide) rfl ?_
    subst hres
    exact g_iret hC hX rfl dX8_knot_9 rfl rfl
theorem iw_X8_as_RX8 : ∀ w ∈ wsX80, w ∈ wsX8_as := fun _ h => List.mem_cons_of_mem _ (List.mem_append_right _ (h))
def m_X8_as (mLin : Int32) (mK : Nat → Int32) (l : Int32) (kind : Int32) : (Int32 × Int32) := (if (m_X8_noLinen mLin l) = 0 then (if (m_X8_in kind.toInt64 (0 : Int64) (2 : Int64)) = 0 then ((m_X8_refused (-2 : Int32)).1, (m_X8_refused (-2 : Int32)).2) else (if (mK l.toNatClampNeg) < kind then ((m_X8_failed (2 : Int32)).1, (m_X8_failed (2 : Int32)).2) else ((m_X8_refused (1 : Int32)).1, (m_X8_refused (1 : Int32)).2))) else ((m_X8_refused (-1 : Int32)).1, (m_X8_refused (-1 : Int32)).2))
set_option maxRecDepth 100000 in
set_option maxHeartbeats 4000000 in
theorem c_X8_as (D : va_G) (cI : ClassId) (aMO : Nat) (mFault : Int32) (amS : Nat) (mDays : Int32) (amH : Nat) (mLin : Int32) (amK : Nat) (amO : Nat) (amD : Nat) (mCool : Int32) (mReadAt : Int32) (mReadDays : Int32) (mReadLin : Int32) (amRS : Nat) (amRH : Nat) (amRK : Nat) (amRO : Nat) (amRD : Nat) (amDN : Nat) (amSN : Nat) (mDayNow : Int32) (mLast : Int32) (mTears : Int32) (mWrong : Int32) (amTF : Nat) (amTFor : Nat) (amWB : Nat) (mRdn : Int32) (amRdL : Nat) (amRdE : Nat) (amRdD : Nat) (amSz : Nat) (amLane : Nat) (amSh : Nat) (amHands : Nat) (mTrace : Int32) (mK : Nat → Int32) (l : Int32) (kind : Int32) (hl5 : mLin.toInt ≤ 5) : MC yX8_as wsX8_as ({ frames := 2, cells := 0, slots := 0, locals := 46 } : Room) D [(cI, .int)] [.ref aMO, .int l, .int kind] [(aMO, .inr (8, [.int mFault, .ref amS, .int mDays, .ref amH, .int mLin, .ref amK, .ref amO, .ref amD, .int mCool, .int mReadAt, .int mReadDays, .int mReadLin, .ref amRS, .ref amRH, .ref amRK, .ref amRO, .ref amRD, .ref amDN, .ref amSN, .int mDayNow, .int mLast, .int mTears, .int mWrong, .ref amTF, .ref amTFor, .ref amWB, .int mRdn, .ref amRdL, .ref amRdE, .ref amRdD, .ref amSz, .ref amLane, .ref amSh, .ref amHands, .int mTrace])), (amK, .inl (cI, 5, .inl mK))] (some (.int ((m_X8_as mLin mK l kind).1))) [(aMO, .inr (8, [.int ((m_X8_as mLin mK l kind).2), .ref amS, .int mDays, .ref amH, .int mLin, .ref amK, .ref amO, .ref amD, .int mCool, .int mReadAt, .int mReadDays, .int mReadLin, .ref amRS, .ref amRH, .ref amRK, .ref amRO, .ref amRD, .ref amDN, .ref amSN, .int mDayNow, .int mLast, .int mTears, .int mWrong, .ref amTF, .ref amTFor, .ref amWB, .int mRdn, .ref amRdL, .ref amRdE, .ref amRdD, .ref amSz, .ref amLane, .ref amSh, .ref amHands, .int mTrace])), (amK, .inl (cI, 5, .inl mK))] := by
  refine g_entry (by decide) rfl rfl rfl rfl (Nat.le_of_ble_eq_true rfl) (lv := [(0, .ref aMO), (1, .int l), (2, .int kind)]) rfl ?_
  intro X hC hX
  obtain ⟨res, hres⟩ : ∃ z, z = (m_X8_as mLin mK l kind) := ⟨_, rfl⟩
  rw [← hres] at hX
  rw [m_X8_as] at hres
  refine g_aload_n hC dX8_as_0 rfl 0 rfl rfl ?_
  refine g_iload_n hC dX8_as_1 rfl 1 rfl rfl ?_
  refine g_callV (ws' := [(aMO, .inr (8, [.int mFault, .ref amS, .int mDays, .ref amH, .int mLin, .ref amK, .ref amO, .ref amD, .int mCool, .int mReadAt, .int mReadDays, .int mReadLin, .ref amRS, .ref amRH, .ref amRK, .ref amRO, .ref amRD, .ref amDN, .ref amSN, .int mDayNow, .int mLast, .int mTears, .int mWrong, .ref amTF, .ref amTFor, .ref amWB, .int mRdn, .ref amRdL, .ref amRdE, .ref amRdD, .ref amSz, .ref amLane, .ref amSh, .ref amHands, .int mTrace])), (amK, .inl (cI, 5, .inl mK))]) (st' := [.int (m_X8_noLinen mLin l)]) (nw := 2) (n1 := 1) hC gX8_as_X8_noLinen hdV_yX8_noLinen 0 rfl rfl (As := [.int l]) (rest := []) (c_X8_noLinen D cI aMO mFault amS mDays amH mLin amK amO amD mCool mReadAt mReadDays mReadLin amRS amRH amRK amRO amRD amDN amSN mDayNow mLast mTears mWrong amTF amTFor amWB mRdn amRdL amRdE amRdD amSz amLane amSh amHands mTrace l) rfl ⟨by decide, by decide⟩ rfl [0] [1] [1, 0] [0] rfl rfl rfl rfl (by decide) rfl rfl (Nat.le_of_ble_eq_true rfl) dX8_as_2 rfl rfl ?_
  refine g_if_eq (tgt := 14) hC dX8_as_5 (by decide) rfl (fun c_5 => ?_) (fun c_5 => ?_)
  · rw [if_pos c_5] at hres
    refine g_iload_n hC dX8_as_14 rfl 2 rfl rfl ?_
    refine g_i2l hC dX8_as_15 rfl ?_
    refine g_lconst (v := 0) hC dX8_as_16 (by decide) rfl ?_
    refine g_ldc2 (v := 2) hC (List.mem_of_getElem? (i := 1) rfl) dX8_as_17 rfl ?_
    refine g_callS (ws' := [(aMO, .inr (8, [.int mFault, .ref amS, .int mDays, .ref amH, .int mLin, .ref amK, .ref amO, .ref amD, .int mCool, .int mReadAt, .int mReadDays, .int mReadLin, .ref amRS, .ref amRH, .ref amRK, .ref amRO, .ref amRD, .ref amDN, .ref amSN, .int mDayNow, .int mLast, .int mTears, .int mWrong, .ref amTF, .ref amTFor, .ref amWB, .int mRdn, .ref amRdL, .ref amRdE, .ref amRdD, .ref amSz, .ref amLane, .ref amSh, .ref amHands, .int mTrace])), (amK, .inl (cI, 5, .inl mK))]) (st' := [.int (m_X8_in kind.toInt64 (0 : Int64) (2 : Int64))]) (nw := 2) (n1 := 0) hC gX8_as_X8_in hdS_yX8_in (As := [.long kind.toInt64, .long (0 : Int64), .long (2 : Int64)]) (rest := []) (c_X8_in D cI kind.toInt64 (0 : Int64) (2 : Int64)) rfl ⟨by decide, by decide⟩ rfl [] [0, 1] [0, 1] [0] rfl rfl rfl rfl (by decide) rfl rfl (Nat.le_of_ble_eq_true rfl) dX8_as_20 rfl rfl ?_
    refine g_if_ne (tgt := 33) hC dX8_as_23 (by decide) rfl (fun c_23 => ?_) (fun c_23 => ?_)
    · rw [if_neg c_23] at hres
      refine g_aload_n hC dX8_as_33 rfl 0 rfl rfl ?_
      refine g_get hC iw_X8_as_RX8 0 rfl rfl 5 (by decide) (List.mem_of_getElem? (i := 2) rfl) rfl rfl dX8_as_34 rfl ?_
      refine g_iload_n hC dX8_as_37 rfl 1 rfl rfl ?_
      refine g_iald hC 1 0 rfl rfl (by exact nl_ok c_5 hl5) dX8_as_38 rfl ?_
      refine g_iload_n hC dX8_as_39 rfl 2 rfl rfl ?_
      refine g_icmp_lt (tgt := 51) hC dX8_as_40 (by decide) rfl (fun c_40 => ?_) (fun c_40 => ?_)
      · rw [if_pos c_40] at hres
        refine g_aload_n hC dX8_as_51 rfl 0 rfl rfl ?_
        refine g_iconst (v := 2) hC dX8_as_52 (by decide) rfl ?_
        refine g_callV (ws' := [(aMO, .inr (8, [.int ((m_X8_failed (2 : Int32)).2), .ref amS, .int mDays, .ref amH, .int mLin, .ref amK, .ref amO, .ref amD, .int mCool, .int mReadAt, .int mReadDays, .int mReadLin, .ref amRS, .ref amRH, .ref amRK, .ref amRO, .ref amRD, .ref amDN, .ref amSN, .int mDayNow, .int mLast, .int mTears, .int mWrong, .ref amTF, .ref amTFor, .ref amWB, .int mRdn, .ref amRdL, .ref amRdE, .ref amRdD, .ref amSz, .ref amLane, .ref amSh, .ref amHands, .int mTrace])), (amK, .inl (cI, 5, .inl mK))]) (st' := [.int ((m_X8_failed (2 : Int32)).1)]) (nw := 2) (n1 := 1) hC gX8_as_X8_failed hdV_yX8_failed 0 rfl rfl (As := [.int (2 : Int32)]) (rest := []) (c_X8_failed D cI aMO mFault amS mDays amH mLin amK amO amD mCool mReadAt mReadDays mReadLin amRS amRH amRK amRO amRD amDN amSN mDayNow mLast mTears mWrong amTF amTFor amWB mRdn amRdL amRdE amRdD amSz amLane amSh amHands mTrace (2 : Int32)) rfl ⟨by decide, by decide⟩ rfl [0] [1] [1, 0] [0] rfl rfl rfl rfl (by decide) rfl rfl (Nat.le_of_ble_eq_true rfl) dX8_as_53 rfl rfl ?_
        subst hres
        exact g_iret hC hX rfl dX8_as_56 rfl rfl
      · rw [if_neg c_40] at hres
        refine g_aload_n hC dX8_as_43 rfl 0 rfl rfl ?_
        refine g_iconst (v := 1) hC dX8_as_44 (by decide) rfl ?_
        refine g_callV (ws' := [(aMO, .inr (8, [.int ((m_X8_refused (1 : Int32)).2), .ref amS, .int mDays, .ref amH, .int mLin, .ref amK, .ref amO, .ref amD, .int mCool, .int mReadAt, .int mReadDays, .int mReadLin, .ref amRS, .ref amRH, .ref amRK, .ref amRO, .ref amRD, .ref amDN, .ref amSN, .int mDayNow, .int mLast, .int mTears, .int mWrong, .ref amTF, .ref amTFor, .ref amWB, .int mRdn, .ref amRdL, .ref amRdE, .ref amRdD, .ref amSz, .ref amLane, .ref amSh, .ref amHands, .int mTrace])), (amK, .inl (cI, 5, .inl mK))]) (st' := [.int ((m_X8_refused (1 : Int32)).1)]) (nw := 2) (n1 := 1) hC gX8_as_X8_refused hdV_yX8_refused 0 rfl rfl (As := [.int (1 : Int32)]) (rest := []) (c_X8_refused D cI aMO mFault amS mDays amH mLin amK amO amD mCool mReadAt mReadDays mReadLin amRS amRH amRK amRO amRD amDN amSN mDayNow mLast mTears mWrong amTF amTFor amWB mRdn amRdL amRdE amRdD amSz amLane amSh amHands mTrace (1 : Int32)) rfl ⟨by decide, by decide⟩ rfl [0] [1] [1, 0] [0] rfl rfl rfl rfl (by decide) rfl rfl (Nat.le_of_ble_eq_true rfl) dX8_as_45 rfl rfl ?_
        refine g_goto (tgt := 56) hC dX8_as_48 (by decide) ?_
        subst hres
        exact g_iret hC hX rfl dX8_as_56 rfl rfl
    · rw [if_pos c_23] at hres
      refine g_aload_n hC dX8_as_26 rfl 0 rfl rfl ?_
      refine g_bipush (v := -2) hC dX8_as_27 (by decide) rfl ?_
      refine g_callV (ws' := [(aMO, .inr (8, [.int ((m_X8_refused (-2 : Int32)).2), .ref amS, .int mDays, .ref amH, .int mLin, .ref amK, .ref amO, .ref amD, .int mCool, .int mReadAt, .int mReadDays, .int mReadLin, .ref amRS, .ref amRH, .ref amRK, .ref amRO, .ref amRD, .ref amDN, .ref amSN, .int mDayNow, .int mLast, .int mTears, .int mWrong, .ref amTF, .ref amTFor, .ref amWB, .int mRdn, .ref amRdL, .ref amRdE, .ref amRdD, .ref amSz, .ref amLane, .ref amSh, .ref amHands, .int mTrace])), (amK, .inl (cI, 5, .inl mK))]) (st' := [.int ((m_X8_refused (-2 : Int32)).1)]) (nw := 2) (n1 := 1) hC gX8_as_X8_refused hdV_yX8_refused 0 rfl rfl (As := [.int (-2 : Int32)]) (rest := []) (c_X8_refused D cI aMO mFault amS mDays amH mLin amK amO amD mCool mReadAt mReadDays mReadLin amRS amRH amRK amRO amRD amDN amSN mDayNow mLast mTears mWrong amTF amTFor amWB mRdn amRdL amRdE amRdD amSz amLane amSh amHands mTrace (-2 : Int32)) rfl ⟨by decide, by decide⟩ rfl [0] [1] [1, 0] [0] rfl rfl rfl rfl (by decide) rfl rfl (Nat.le_of_ble_eq_true rfl) dX8_as_29 rfl rfl ?_
      subst hres
      exact g_iret hC hX rfl dX8_as_32 rfl rfl
  · rw [if_neg c_5] at hres
    refine g_aload_n hC dX8_as_8 rfl 0 rfl rfl ?_
    refine g_iconst (v := -1) hC dX8_as_9 (by decide) rfl ?_
    refine g_callV (ws' := [(aMO, .inr (8, [.int ((m_X8_refused (-1 : Int32)).2), .ref amS, .int mDays, .ref amH, .int mLin, .ref amK, .ref amO, .ref amD, .int mCool, .int mReadAt, .int mReadDays, .int mReadLin, .ref amRS, .ref amRH, .ref amRK, .ref amRO, .ref amRD, .ref amDN, .ref amSN, .int mDayNow, .int mLast, .int mTears, .int mWrong, .ref amTF, .ref amTFor, .ref amWB, .int mRdn, .ref amRdL, .ref amRdE, .ref amRdD, .ref amSz, .ref amLane, .ref amSh, .ref amHands, .int mTrace])), (amK, .inl (cI, 5, .inl mK))]) (st' := [.int ((m_X8_refused (-1 : Int32)).1)]) (nw := 2) (n1 := 1) hC gX8_as_X8_refused hdV_yX8_refused 0 rfl rfl (As := [.int (-1 : Int32)]) (rest := []) (c_X8_refused D cI aMO mFault amS mDays amH mLin amK amO amD mCool mReadAt mReadDays mReadLin amRS amRH amRK amRO amRD amDN amSN mDayNow mLast mTears mWrong amTF amTFor amWB mRdn amRdL amRdE amRdD amSz amLane amSh amHands mTrace (-1 : Int32)) rfl ⟨by decide, by decide⟩ rfl [0] [1] [1, 0] [0] rfl rfl rfl rfl (by decide) rfl rfl (Nat.le_of_ble_eq_true rfl) dX8_as_10 rfl rfl ?_
    subst hres
    exact g_iret hC hX rfl dX8_as_13 rfl rfl
theorem iw_X8_trace_RX8 : ∀ w ∈ wsX80, w ∈ wsX8_trace := fun _ h => List.mem_cons_of_mem _ (List.mem_append_right _ (h))
def m_X8_trace (mTrace : Int32) : (Int32) := mTrace
set_option maxRecDepth 100000 in
set_option maxHeartbeats 4000000 in
theorem c_X8_trace (D : va_G) (cI : ClassId) (aMO : Nat) (mFault : Int32) (amS : Nat) (mDays : Int32) (amH : Nat) (mLin : Int32) (amK : Nat) (amO : Nat) (amD : Nat) (mCool : Int32) (mReadAt : Int32) (mReadDays : Int32) (mReadLin : Int32) (amRS : Nat) (amRH : Nat) (amRK : Nat) (amRO : Nat) (amRD : Nat) (amDN : Nat) (amSN : Nat) (mDayNow : Int32) (mLast : Int32) (mTears : Int32) (mWrong : Int32) (amTF : Nat) (amTFor : Nat) (amWB : Nat) (mRdn : Int32) (amRdL : Nat) (amRdE : Nat) (amRdD : Nat) (amSz : Nat) (amLane : Nat) (amSh : Nat) (amHands : Nat) (mTrace : Int32) : MC yX8_trace wsX8_trace ({ frames := 0, cells := 0, slots := 0, locals := 0 } : Room) D [(cI, .int)] [.ref aMO] [(aMO, .inr (8, [.int mFault, .ref amS, .int mDays, .ref amH, .int mLin, .ref amK, .ref amO, .ref amD, .int mCool, .int mReadAt, .int mReadDays, .int mReadLin, .ref amRS, .ref amRH, .ref amRK, .ref amRO, .ref amRD, .ref amDN, .ref amSN, .int mDayNow, .int mLast, .int mTears, .int mWrong, .ref amTF, .ref amTFor, .ref amWB, .int mRdn, .ref amRdL, .ref amRdE, .ref amRdD, .ref amSz, .ref amLane, .ref amSh, .ref amHands, .int mTrace]))] (some (.int (m_X8_trace mTrace))) [(aMO, .inr (8, [.int mFault, .ref amS, .int mDays, .ref amH, .int mLin, .ref amK, .ref amO, .ref amD, .int mCool, .int mReadAt, .int mReadDays, .int mReadLin, .ref amRS, .ref amRH, .ref amRK, .ref amRO, .ref amRD, .ref amDN, .ref amSN, .int mDayNow, .int mLast, .int mTears, .int mWrong, .ref amTF, .ref amTFor, .ref amWB, .int mRdn, .ref amRdL, .ref amRdE, .ref amRdD, .ref amSz, .ref amLane, .ref amSh, .ref amHands, .int mTrace]))] := by
  refine g_entry (by decide) rfl rfl rfl rfl (Nat.le_of_ble_eq_true rfl) (lv := [(0, .ref aMO)]) rfl ?_
  intro X hC hX
  obtain ⟨res, hres⟩ : ∃ z, z = (m_X8_trace mTrace) := ⟨_, rfl⟩
  rw [← hres] at hX
  rw [m_X8_trace] at hres
  refine g_aload_n hC dX8_trace_0 rfl 0 rfl rfl ?_
  refine g_get hC iw_X8_trace_RX8 0 rfl rfl 34 (by decide) (List.mem_of_getElem? (i := 1) rfl) rfl rfl dX8_trace_1 rfl ?_
  subst hres
  exact g_iret hC hX rfl dX8_trace_4 rfl rfl
theorem iw_X8_fault_RX8 : ∀ w ∈ wsX80, w ∈ wsX8_fault := fun _ h => List.mem_cons_of_mem _ (List.mem_append_right _ (h))
def m_X8_fault (mFault : Int32) : (Int32) := mFault
set_option maxRecDepth 100000 in
set_option maxHeartbeats 4000000 in
theorem c_X8_fault (D : va_G) (cI : ClassId) (aMO : Nat) (mFault : Int32) (amS : Nat) (mDays : Int32) (amH : Nat) (mLin : Int32) (amK : Nat) (amO : Nat) (amD : Nat) (mCool : Int32) (mReadAt : Int32) (mReadDays : Int32) (mReadLin : Int32) (amRS : Nat) (amRH : Nat) (amRK : Nat) (amRO : Nat) (amRD : Nat) (amDN : Nat) (amSN : Nat) (mDayNow : Int32) (mLast : Int32) (mTears : Int32) (mWrong : Int32) (amTF : Nat) (amTFor : Nat) (amWB : Nat) (mRdn : Int32) (amRdL : Nat) (amRdE : Nat) (amRdD : Nat) (amSz : Nat) (amLane : Nat) (amSh : Nat) (amHands : Nat) (mTrace : Int32) : MC yX8_fault wsX8_fault ({ frames := 0, cells := 0, slots := 0, locals := 0 } : Room) D [(cI, .int)] [.ref aMO] [(aMO, .inr (8, [.int mFault, .ref amS, .int mDays, .ref amH, .int mLin, .ref amK, .ref amO, .ref amD, .int mCool, .int mReadAt, .int mReadDays, .int mReadLin, .ref amRS, .ref amRH, .ref amRK, .ref amRO, .ref amRD, .ref amDN, .ref amSN, .int mDayNow, .int mLast, .int mTears, .int mWrong, .ref amTF, .ref amTFor, .ref amWB, .int mRdn, .ref amRdL, .ref amRdE, .ref amRdD, .ref amSz, .ref amLane, .ref amSh, .ref amHands, .int mTrace]))] (some (.int (m_X8_fault mFault))) [(aMO, .inr (8, [.int mFault, .ref amS, .int mDays, .ref amH, .int mLin, .ref amK, .ref amO, .ref amD, .int mCool, .int mReadAt, .int mReadDays, .int mReadLin, .ref amRS, .ref amRH, .ref amRK, .ref amRO, .ref amRD, .ref amDN, .ref amSN, .int mDayNow, .int mLast, .int mTears, .int mWrong, .ref amTF, .ref amTFor, .ref amWB, .int mRdn, .ref amRdL, .ref amRdE, .ref amRdD, .ref amSz, .ref amLane, .ref amSh, .ref amHands, .int mTrace]))] := by
  refine g_entry (by decide) rfl rfl rfl rfl (Nat.le_of_ble_eq_true rfl) (lv := [(0, .ref aMO)]) rfl ?_
  intro X hC hX
  obtain ⟨res, hres⟩ : ∃ z, z = (m_X8_fault mFault) := ⟨_, rfl⟩
  rw [← hres] at hX
  rw [m_X8_fault] at hres
  refine g_aload_n hC dX8_fault_0 rfl 0 rfl rfl ?_
  refine g_get hC iw_X8_fault_RX8 0 rfl rfl 0 (by decide) (List.mem_of_getElem? (i := 1) rfl) rfl rfl dX8_fault_1 rfl ?_
  subst hres
  exact g_iret hC hX rfl dX8_fault_4 rfl rfl
theorem iw_X8_many_RX8 : ∀ w ∈ wsX80, w ∈ wsX8_many := fun _ h => List.mem_cons_of_mem _ (List.mem_append_right _ (h))
def m_X8_many (mDays : Int32) (mLin : Int32) (mRdn : Int32) (mS : Nat → Int32) (what : Int32) : (Int32) := (if what = 0 then mLin else (if what = 1 then mDays else (if what = 2 then ((((mS (0 : Int32).toNatClampNeg) + (mS (1 : Int32).toNatClampNeg)) + (mS (2 : Int32).toNatClampNeg)) + (mS (3 : Int32).toNatClampNeg)) else (if what = 3 then mRdn else (-2 : Int32)))))
set_option maxRecDepth 100000 in
set_option maxHeartbeats 4000000 in
theorem c_X8_many (D : va_G) (cI : ClassId) (aMO : Nat) (mFault : Int32) (amS : Nat) (mDays : Int32) (amH : Nat) (mLin : Int32) (amK : Nat) (amO : Nat) (amD : Nat) (mCool : Int32) (mReadAt : Int32) (mReadDays : Int32) (mReadLin : Int32) (amRS : Nat) (amRH : Nat) (amRK : Nat) (amRO : Nat) (amRD : Nat) (amDN : Nat) (amSN : Nat) (mDayNow : Int32) (mLast : Int32) (mTears : Int32) (mWrong : Int32) (amTF : Nat) (amTFor : Nat) (amWB : Nat) (mRdn : Int32) (amRdL : Nat) (amRdE : Nat) (amRdD : Nat) (amSz : Nat) (amLane : Nat) (amSh : Nat) (amHands : Nat) (mTrace : Int32) (mS : Nat → Int32) (what : Int32) : MC yX8_many wsX8_many ({ frames := 0, cells := 0, slots := 0, locals := 0 } : Room) D [(cI, .int)] [.ref aMO, .int what] [(aMO, .inr (8, [.int mFault, .ref amS, .int mDays, .ref amH, .int mLin, .ref amK, .ref amO, .ref amD, .int mCool, .int mReadAt, .int mReadDays, .int mReadLin, .ref amRS, .ref amRH, .ref amRK, .ref amRO, .ref amRD, .ref amDN, .ref amSN, .int mDayNow, .int mLast, .int mTears, .int mWrong, .ref amTF, .ref amTFor, .ref amWB, .int mRdn, .ref amRdL, .ref amRdE, .ref amRdD, .ref amSz, .ref amLane, .ref amSh, .ref amHands, .int mTrace])), (amS, .inl (cI, 4, .inl mS))] (some (.int (m_X8_many mDays mLin mRdn mS what))) [(aMO, .inr (8, [.int mFault, .ref amS, .int mDays, .ref amH, .int mLin, .ref amK, .ref amO, .ref amD, .int mCool, .int mReadAt, .int mReadDays, .int mReadLin, .ref amRS, .ref amRH, .ref amRK, .ref amRO, .ref amRD, .ref amDN, .ref amSN, .int mDayNow, .int mLast, .int mTears, .int mWrong, .ref amTF, .ref amTFor, .ref amWB, .int mRdn, .ref amRdL, .ref amRdE, .ref amRdD, .ref amSz, .ref amLane, .ref amSh, .ref amHands, .int mTrace])), (amS, .inl (cI, 4, .inl mS))] := by
  refine g_entry (by decide) rfl rfl rfl rfl (Nat.le_of_ble_eq_true rfl) (lv := [(0, .ref aMO), (1, .int what)]) rfl ?_
  intro X hC hX
  obtain ⟨res, hres⟩ : ∃ z, z = (m_X8_many mDays mLin mRdn mS what) := ⟨_, rfl⟩
  rw [← hres] at hX
  rw [m_X8_many] at hres
  refine g_iload_n hC dX8_many_0 rfl 1 rfl rfl ?_
  by_cases c_1_0 : what = 0
  · rw [if_pos c_1_0] at hres
    refine g_tableIn (tgt := 32) hC dX8_many_1 (by rw [c_1_0]; decide) (by rw [c_1_0]; decide) (by rw [c_1_0]; rfl) (by decide) ?_
    refine g_aload_n hC dX8_many_32 rfl 0 rfl rfl ?_
    refine g_get hC iw_X8_many_RX8 0 rfl rfl 4 (by decide) (List.mem_of_getElem? (i := 1) rfl) rfl rfl dX8_many_33 rfl ?_
    subst hres
    exact g_iret hC hX rfl dX8_many_36 rfl rfl
  rw [if_neg c_1_0] at hres
  by_cases c_1_1 : what = 1
  · rw [if_pos c_1_1] at hres
    refine g_tableIn (tgt := 37) hC dX8_many_1 (by rw [c_1_1]; decide) (by rw [c_1_1]; decide) (by rw [c_1_1]; rfl) (by decide) ?_
    refine g_aload_n hC dX8_many_37 rfl 0 rfl rfl ?_
    refine g_get hC iw_X8_many_RX8 0 rfl rfl 2 (by decide) (List.mem_of_getElem? (i := 2) rfl) rfl rfl dX8_many_38 rfl ?_
    subst hres
    exact g_iret hC hX rfl dX8_many_41 rfl rfl
  rw [if_neg c_1_1] at hres
  by_cases c_1_2 : what = 2
  · rw [if_pos c_1_2] at hres
    refine g_tableIn (tgt := 42) hC dX8_many_1 (by rw [c_1_2]; decide) (by rw [c_1_2]; decide) (by rw [c_1_2]; rfl) (by decide) ?_
    refine g_aload_n hC dX8_many_42 rfl 0 rfl rfl ?_
    refine g_get hC iw_X8_many_RX8 0 rfl rfl 1 (by decide) (List.mem_of_getElem? (i := 3) rfl) rfl rfl dX8_many_43 rfl ?_
    refine g_iconst (v := 0) hC dX8_many_46 (by decide) rfl ?_
    refine g_iald hC 1 0 rfl rfl (by exact vp_in_iff.mpr (by decide)) dX8_many_47 rfl ?_
    refine g_aload_n hC dX8_many_48 rfl 0 rfl rfl ?_
    refine g_get hC iw_X8_many_RX8 0 rfl rfl 1 (by decide) (List.mem_of_getElem? (i := 3) rfl) rfl rfl dX8_many_49 rfl ?_
    refine g_iconst (v := 1) hC dX8_many_52 (by decide) rfl ?_
    refine g_iald hC 1 0 rfl rfl (by exact vp_in_iff.mpr (by decide)) dX8_many_53 rfl ?_
    refine g_iadd hC dX8_many_54 rfl ?_
    refine g_aload_n hC dX8_many_55 rfl 0 rfl rfl ?_
    refine g_get hC iw_X8_many_RX8 0 rfl rfl 1 (by decide) (List.mem_of_getElem? (i := 3) rfl) rfl rfl dX8_many_56 rfl ?_
    refine g_iconst (v := 2) hC dX8_many_59 (by decide) rfl ?_
    refine g_iald hC 1 0 rfl rfl (by exact vp_in_iff.mpr (by decide)) dX8_many_60 rfl ?_
    refine g_iadd hC dX8_many_61 rfl ?_
    refine g_aload_n hC dX8_many_62 rfl 0 rfl rfl ?_
    refine g_get hC iw_X8_many_RX8 0 rfl rfl 1 (by decide) (List.mem_of_getElem? (i := 3) rfl) rfl rfl dX8_many_63 rfl ?_
    refine g_iconst (v := 3) hC dX8_many_66 (by decide) rfl ?_
    refine g_iald hC 1 0 rfl rfl (by exact vp_in_iff.mpr (by decide)) dX8_many_67 rfl ?_
    refine g_iadd hC dX8_many_68 rfl ?_
    subst hres
    exact g_iret hC hX rfl dX8_many_69 rfl rfl
  rw [if_neg c_1_2] at hres
  by_cases c_1_3 : what = 3
  · rw [if_pos c_1_3] at hres
    refine g_tableIn (tgt := 70) hC dX8_many_1 (by rw [c_1_3]; decide) (by rw [c_1_3]; decide) (by rw [c_1_3]; rfl) (by decide) ?_
    refine g_aload_n hC dX8_many_70 rfl 0 rfl rfl ?_
    refine g_get hC iw_X8_many_RX8 0 rfl rfl 26 (by decide) (List.mem_of_getElem? (i := 4) rfl) rfl rfl dX8_many_71 rfl ?_
    subst hres
    exact g_iret hC hX rfl dX8_many_74 rfl rfl
  rw [if_neg c_1_3] at hres
  refine g_tableOut (tgt := 75) hC dX8_many_1 (sw_out4 c_1_0 c_1_1 c_1_2 c_1_3) (by decide) ?_
  refine g_bipush (v := -2) hC dX8_many_75 (by decide) rfl ?_
  subst hres
  exact g_iret hC hX rfl dX8_many_77 rfl rfl
theorem iw_X8_lose_RX8 : ∀ w ∈ wsX80, w ∈ wsX8_lose := fun _ h => List.mem_cons_of_mem _ (List.mem_append_right _ (h))
def m_X8_lose (mSz : Nat → Int32) (k : Int32) : (Int32 × (Nat → Int32)) := (if (m_X8_noSheet k) = 0 then ((if 0 ≤ (mSz k.toNatClampNeg) then (1 : Int32) else (0 : Int32)), (upd mSz k.toNatClampNeg (-1 : Int32))) else ((-1 : Int32), mSz))
set_option maxRecDepth 100000 in
set_option maxHeartbeats 4000000 in
theorem c_X8_lose (D : va_G) (cI : ClassId) (aMO : Nat) (mFault : Int32) (amS : Nat) (mDays : Int32) (amH : Nat) (mLin : Int32) (amK : Nat) (amO : Nat) (amD : Nat) (mCool : Int32) (mReadAt : Int32) (mReadDays : Int32) (mReadLin : Int32) (amRS : Nat) (amRH : Nat) (amRK : Nat) (amRO : Nat) (amRD : Nat) (amDN : Nat) (amSN : Nat) (mDayNow : Int32) (mLast : Int32) (mTears : Int32) (mWrong : Int32) (amTF : Nat) (amTFor : Nat) (amWB : Nat) (mRdn : Int32) (amRdL : Nat) (amRdE : Nat) (amRdD : Nat) (amSz : Nat) (amLane : Nat) (amSh : Nat) (amHands : Nat) (mTrace : Int32) (mSz : Nat → Int32) (k : Int32) : MC yX8_lose wsX8_lose ({ frames := 2, cells := 0, slots := 0, locals := 45 } : Room) D [(cI, .int)] [.ref aMO, .int k] [(aMO, .inr (8, [.int mFault, .ref amS, .int mDays, .ref amH, .int mLin, .ref amK, .ref amO, .ref amD, .int mCool, .int mReadAt, .int mReadDays, .int mReadLin, .ref amRS, .ref amRH, .ref amRK, .ref amRO, .ref amRD, .ref amDN, .ref amSN, .int mDayNow, .int mLast, .int mTears, .int mWrong, .ref amTF, .ref amTFor, .ref amWB, .int mRdn, .ref amRdL, .ref amRdE, .ref amRdD, .ref amSz, .ref amLane, .ref amSh, .ref amHands, .int mTrace])), (amSz, .inl (cI, 4, .inl mSz))] (some (.int ((m_X8_lose mSz k).1))) [(aMO, .inr (8, [.int mFault, .ref amS, .int mDays, .ref amH, .int mLin, .ref amK, .ref amO, .ref amD, .int mCool, .int mReadAt, .int mReadDays, .int mReadLin, .ref amRS, .ref amRH, .ref amRK, .ref amRO, .ref amRD, .ref amDN, .ref amSN, .int mDayNow, .int mLast, .int mTears, .int mWrong, .ref amTF, .ref amTFor, .ref amWB, .int mRdn, .ref amRdL, .ref amRdE, .ref amRdD, .ref amSz, .ref amLane, .ref amSh, .ref amHands, .int mTrace])), (amSz, .inl (cI, 4, .inl ((m_X8_lose mSz k).2)))] := by
  refine g_entry (by decide) rfl rfl rfl rfl (Nat.le_of_ble_eq_true rfl) (lv := [(0, .ref aMO), (1, .int k)]) rfl ?_
  intro X hC hX
  obtain ⟨res, hres⟩ : ∃ z, z = (m_X8_lose mSz k) := ⟨_, rfl⟩
  rw [← hres] at hX
  rw [m_X8_lose] at hres
  refine g_iload_n hC dX8_lose_0 rfl 1 rfl rfl ?_
  refine g_callS (ws' := [(aMO, .inr (8, [.int mFault, .ref amS, .int mDays, .ref amH, .int mLin, .ref amK, .ref amO, .ref amD, .int mCool, .int mReadAt, .int mReadDays, .int mReadLin, .ref amRS, .ref amRH, .ref amRK, .ref amRO, .ref amRD, .ref amDN, .ref amSN, .int mDayNow, .int mLast, .int mTears, .int mWrong, .ref amTF, .ref amTFor, .ref amWB, .int mRdn, .ref amRdL, .ref amRdE, .ref amRdD, .ref amSz, .ref amLane, .ref amSh, .ref amHands, .int mTrace])), (amSz, .inl (cI, 4, .inl mSz))]) (st' := [.int (m_X8_noSheet k)]) (nw := 2) (n1 := 0) hC gX8_lose_X8_noSheet hdS_yX8_noSheet (As := [.int k]) (rest := []) (c_X8_noSheet D cI k) rfl ⟨by decide, by decide⟩ rfl [] [0, 1] [0, 1] [0] rfl rfl rfl rfl (by decide) rfl rfl (Nat.le_of_ble_eq_true rfl) dX8_lose_1 rfl rfl ?_
  refine g_if_eq (tgt := 9) hC dX8_lose_4 (by decide) rfl (fun c_4 => ?_) (fun c_4 => ?_)
  · rw [if_pos c_4] at hres
    refine g_aload_n hC dX8_lose_9 rfl 0 rfl rfl ?_
    refine g_get hC iw_X8_lose_RX8 0 rfl rfl 30 (by decide) (List.mem_of_getElem? (i := 1) rfl) rfl rfl dX8_lose_10 rfl ?_
    refine g_iload_n hC dX8_lose_13 rfl 1 rfl rfl ?_
    refine g_iald hC 1 0 rfl rfl (by exact nw_ok c_4) dX8_lose_14 rfl ?_
    have K_15 : ∀ vK : Int32, vK = (if 0 ≤ (mSz k.toNatClampNeg) then (1 : Int32) else (0 : Int32)) → G X D 3 [(aMO, .inr (8, [.int mFault, .ref amS, .int mDays, .ref amH, .int mLin, .ref amK, .ref amO, .ref amD, .int mCool, .int mReadAt, .int mReadDays, .int mReadLin, .ref amRS, .ref amRH, .ref amRK, .ref amRO, .ref amRD, .ref amDN, .ref amSN, .int mDayNow, .int mLast, .int mTears, .int mWrong, .ref amTF, .ref amTFor, .ref amWB, .int mRdn, .ref amRdL, .ref amRdE, .ref amRdD, .ref amSz, .ref amLane, .ref amSh, .ref amHands, .int mTrace])), (amSz, .inl (cI, 4, .inl mSz))] [(0, .ref aMO), (1, .int k)] 23 (.int vK :: []) := by
      intro vK hvK
      subst hvK
      refine g_istore_n (lv' := [(2, .int (if 0 ≤ (mSz k.toNatClampNeg) then (1 : Int32) else (0 : Int32))), (0, .ref aMO), (1, .int k)]) hC dX8_lose_23 rfl (by decide) rfl rfl ?_
      refine g_aload_n hC dX8_lose_24 rfl 1 rfl rfl ?_
      refine g_get hC iw_X8_lose_RX8 0 rfl rfl 30 (by decide) (List.mem_of_getElem? (i := 1) rfl) rfl rfl dX8_lose_25 rfl ?_
      refine g_iload_n hC dX8_lose_28 rfl 2 rfl rfl ?_
      refine g_iconst (v := -1) hC dX8_lose_29 (by decide) rfl ?_
      refine g_iast (ws' := [(aMO, .inr (8, [.int mFault, .ref amS, .int mDays, .ref amH, .int mLin, .ref amK, .ref amO, .ref amD, .int mCool, .int mReadAt, .int mReadDays, .int mReadLin, .ref amRS, .ref amRH, .ref amRK, .ref amRO, .ref amRD, .ref amDN, .ref amSN, .int mDayNow, .int mLast, .int mTears, .int mWrong, .ref amTF, .ref amTFor, .ref amWB, .int mRdn, .ref amRdL, .ref amRdE, .ref amRdD, .ref amSz, .ref amLane, .ref amSh, .ref amHands, .int mTrace])), (amSz, .inl (cI, 4, .inl (upd mSz k.toNatClampNeg (-1 : Int32))))]) hC 1 0 rfl rfl (by exact nw_ok c_4) rfl dX8_lose_30 rfl ?_
      refine g_iload_n hC dX8_lose_31 rfl 0 rfl rfl ?_
      subst hres
      exact g_iret hC hX rfl dX8_lose_32 rfl rfl
    refine g_if_ge (tgt := 22) hC dX8_lose_15 (by decide) rfl (fun c_15 => ?_) (fun c_15 => ?_)
    · refine g_iconst (v := 1) hC dX8_lose_22 (by decide) rfl ?_
      exact K_15 _ (if_pos c_15).symm
    · refine g_iconst (v := 0) hC dX8_lose_18 (by decide) rfl ?_
      refine g_goto (tgt := 23) hC dX8_lose_19 (by decide) ?_
      exact K_15 _ (if_neg c_15).symm
  · rw [if_neg c_4] at hres
    refine g_iconst (v := -1) hC dX8_lose_7 (by decide) rfl ?_
    subst hres
    exact g_iret hC hX rfl dX8_lose_8 rfl rfl
