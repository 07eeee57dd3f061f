def m_X8_share_6 : Nat → Int64 → Int64 → Int32 → Int64 → Int64 → (Int64)
  | 0, _, _, _, _, _ => default
  | fu + 1, up, down, which, y5, y7 => (if (lg_cmp y7 (0 : Int64)) = 0 then ((if which = 0 then up else down) / y5) else (m_X8_share_6 fu up down which y7 (y5 - y5 / y7 * y7)))
def m_X8_share (up : Int64) (down : Int64) (which : Int32) : (Int64) := (m_X8_share_6 (down.toInt.toNat + 1) up down which up down)
set_option maxRecDepth 100000 in
set_option maxHeartbeats 4000000 in
theorem l_X8_share_6 {X : gX} (D : va_G) (cI : ClassId) (up : Int64) (down : Int64) (which : Int32) (hup : ∃ a : Nat, a < 2 ^ 31 ∧ up = lN a) (hdn : ∃ b : Nat, 0 < b ∧ b < 2 ^ 31 ∧ down = lN b) (hC : Cx X cX8_share 11 RX8 wsX8_share D [(cI, .int)] ({ frames := 0, cells := 0, slots := 0, locals := 0 } : Room) (some .long)) {res : (Int64)} (hX : Rx X D (some (.long res)) []) : ∀ (fu : Nat) (y5 : Int64) (y7 : Int64) (hm : y7.toInt.toNat < fu) (hI : shr_I y5 y7) (hres : res = m_X8_share_6 fu up down which y5 y7), G X D 11 [] [(0, .long up), (2, .long down), (4, .int which), (5, .long y5), (7, .long y7)] 6 [] := by
  intro fu
  induction fu with
  | zero =>
    intro y5 y7 hm
    exact absurd hm (Nat.not_lt_zero _)
  | succ fu ih =>
    intro y5 y7 hm hI hres
    rw [m_X8_share_6] at hres
    refine g_lload hC dX8_share_6 4 rfl rfl ?_
    refine g_lconst (v := 0) hC dX8_share_8 (by decide) rfl ?_
    refine g_lcmp hC dX8_share_9 rfl ?_
    refine g_if_eq (tgt := 31) hC dX8_share_10 (by decide) rfl (fun c_10 => ?_) (fun c_10 => ?_)
    · rw [if_pos c_10] at hres
      refine g_iload hC dX8_share_31 2 rfl rfl ?_
      have K_33 : ∀ vK : Int64, vK = (if which = 0 then up else down) → G X D 11 [] [(0, .long up), (2, .long down), (4, .int which), (5, .long y5), (7, .long y7)] 41 (.long vK :: []) := by
        intro vK hvK
        subst hvK
        refine g_lload hC dX8_share_41 3 rfl rfl ?_
        refine g_ldiv hC dX8_share_43 (by exact shr_d hI c_10) rfl ?_
        subst hres
        exact g_lret hC hX rfl dX8_share_44 rfl rfl
      refine g_if_ne (tgt := 40) hC dX8_share_33 (by decide) rfl (fun c_33 => ?_) (fun c_33 => ?_)
      · refine g_lload_n hC dX8_share_40 rfl 1 rfl rfl ?_
        exact K_33 _ (if_neg c_33).symm
      · refine g_lload_n hC dX8_share_36 rfl 0 rfl rfl ?_
        refine g_goto (tgt := 41) hC dX8_share_37 (by decide) ?_
        exact K_33 _ (if_pos c_33).symm
    · rw [if_neg c_10] at hres
      refine g_lload hC dX8_share_13 3 rfl rfl ?_
      refine g_lload hC dX8_share_15 4 rfl rfl ?_
      refine g_lrem hC dX8_share_17 (by exact fun e => c_10 ((lg_cmp_eq _ _).mpr e)) rfl ?_
      refine g_lstore (lv' := [(9, .long (y5 - y5 / y7 * y7)), (0, .long up), (2, .long down), (4, .int which), (5, .long y5), (7, .long y7)]) hC dX8_share_18 (by decide) rfl rfl ?_
      refine g_lload hC dX8_share_20 5 rfl rfl ?_
      refine g_lstore (lv' := [(5, .long y7), (9, .long (y5 - y5 / y7 * y7)), (0, .long up), (2, .long down), (4, .int which), (7, .long y7)]) hC dX8_share_22 (by decide) rfl rfl ?_
      refine g_lload hC dX8_share_24 1 rfl rfl ?_
      refine g_lstore (lv' := [(7, .long (y5 - y5 / y7 * y7)), (5, .long y7), (9, .long (y5 - y5 / y7 * y7)), (0, .long up), (2, .long down), (4, .int which)]) hC dX8_share_26 (by decide) rfl rfl ?_
      refine g_goto (tgt := 6) hC dX8_share_28 (by decide) ?_
      refine g_sub [3, 4, 5, 1, 0] rfl ?_
      exact ih y7 (y5 - y5 / y7 * y7) (by exact Nat.lt_of_lt_of_le (shr_s hI c_10).2 (Nat.le_of_lt_succ hm)) (by exact (shr_s hI c_10).1) hres
set_option maxRecDepth 100000 in
set_option maxHeartbeats 4000000 in
theorem c_X8_share (D : va_G) (cI : ClassId) (up : Int64) (down : Int64) (which : Int32) (hup : ∃ a : Nat, a < 2 ^ 31 ∧ up = lN a) (hdn : ∃ b : Nat, 0 < b ∧ b < 2 ^ 31 ∧ down = lN b) : MC yX8_share wsX8_share ({ frames := 0, cells := 0, slots := 0, locals := 0 } : Room) D [(cI, .int)] [.long up, .long down, .int which] [] (some (.long (m_X8_share up down which))) [] := by
  refine g_entry (by decide) rfl rfl rfl rfl (Nat.le_of_ble_eq_true rfl) (lv := [(0, .long up), (2, .long down), (4, .int which)]) rfl ?_
  intro X hC hX
  obtain ⟨res, hres⟩ : ∃ z, z = (m_X8_share up down which) := ⟨_, rfl⟩
  rw [← hres] at hX
  rw [m_X8_share] at hres
  refine g_lload_n hC dX8_share_0 rfl 0 rfl rfl ?_
  refine g_lstore (lv' := [(5, .long up), (0, .long up), (2, .long down), (4, .int which)]) hC dX8_share_1 (by decide) rfl rfl ?_
  refine g_lload_n hC dX8_share_3 rfl 2 rfl rfl ?_
  refine g_lstore (lv' := [(7, .long down), (5, .long up), (0, .long up), (2, .long down), (4, .int which)]) hC dX8_share_4 (by decide) rfl rfl ?_
  refine g_sub [2, 3, 4, 1, 0] rfl ?_
  exact l_X8_share_6 D cI up down which hup hdn hC hX (down.toInt.toNat + 1) up down (Nat.lt_succ_self _) (by exact shr_0 hup hdn) hres
theorem iw_X8_odds_RX8 : ∀ w ∈ wsX80, w ∈ wsX8_odds := fun _ h => List.mem_cons_of_mem _ (List.mem_append_right _ (h))
def m_X8_odds_27 : Nat → Int32 → (Nat → Int32) → (Nat → Int32) → (Nat → Int32) → Int32 → Int32 → Int64 → Int32 → Int32 → (Int64 × Int32)
  | 0, _, _, _, _, _, _, _, _, _ => default
  | fu + 1, mDays, mH, mK, mD, l, which, y3, y5, z_mCool => (if ((1 : Int32) <<< (mDays &&& 31)) ≤ y5 then ((m_X8_share y3 ((1 : Int64) <<< (mDays.toInt64 &&& 63)) which), (0 : Int32)) else (m_X8_odds_27 fu mDays mH mK mD l which (y3 + (if (m_X8_dampAt y5 mH mK mD l mDays) ≤ 0 then (0 : Int64) else (1 : Int64))) (y5 + 1) y5))
def m_X8_odds (mDays : Int32) (mLin : Int32) (mCool : Int32) (mH : Nat → Int32) (mK : Nat → Int32) (mD : Nat → Int32) (l : Int32) (which : Int32) : (Int64 × Int32) := (if (m_X8_noLinen mLin l) = 0 then (if (m_X8_in which.toInt64 (0 : Int64) (1 : Int64)) = 0 then (m_X8_lost, mCool) else (m_X8_odds_27 ((((1 : Int32) <<< (mDays &&& 31)).toInt - (0 : Int32).toInt).toNat + 1) mDays mH mK mD l which (0 : Int64) (0 : Int32) mCool)) else (m_X8_lost, mCool))
set_option maxRecDepth 100000 in
set_option maxHeartbeats 4000000 in
theorem l_X8_odds_27 {X : gX} (D : va_G) (cI : ClassId) (aMO : Nat) (mFault : Int32) (amS : Nat) (mDays : Int32) (amH : Nat) (mLin : Int32) (amK : Nat) (amO : Nat) (amD : Nat) (mCool : Int32) (mReadAt : Int32) (mReadDays : Int32) (mReadLin : Int32) (amRS : Nat) (amRH : Nat) (amRK : Nat) (amRO : Nat) (amRD : Nat) (amDN : Nat) (amSN : Nat) (mDayNow : Int32) (mLast : Int32) (mTears : Int32) (mWrong : Int32) (amTF : Nat) (amTFor : Nat) (amWB : Nat) (mRdn : Int32) (amRdL : Nat) (amRdE : Nat) (amRdD : Nat) (amSz : Nat) (amLane : Nat) (amSh : Nat) (amHands : Nat) (mTrace : Int32) (mH : Nat → Int32) (mK : Nat → Int32) (mD : Nat → Int32) (l : Int32) (which : Int32) (hl5 : mLin.toInt ≤ 5) (hd6 : mDays.toInt ≤ 6) (hd0 : 0 ≤ mDays.toInt) (hC : Cx X cX8_odds 6 RX8 wsX8_odds D [(cI, .int)] ({ frames := 4, cells := 0, slots := 0, locals := 92 } : Room) (some .long)) {res : (Int64 × Int32)} (hX : Rx X D (some (.long res.1)) [(aMO, .inr (8, [.int mFault, .ref amS, .int mDays, .ref amH, .int mLin, .ref amK, .ref amO, .ref amD, .int res.2, .int mReadAt, .int mReadDays, .int mReadLin, .ref amRS, .ref amRH, .ref amRK, .ref amRO, .ref amRD, .ref amDN, .ref amSN, .int mDayNow, .int mLast, .int mTears, .int mWrong, .ref amTF, .ref amTFor, .ref amWB, .int mRdn, .ref amRdL, .ref amRdE, .ref amRdD, .ref amSz, .ref amLane, .ref amSh, .ref amHands, .int mTrace])), (amH, .inl (cI, 6, .inl mH)), (amK, .inl (cI, 5, .inl mK)), (amD, .inl (cI, 5, .inl mD))]) : ∀ (fu : Nat) (y3 : Int64) (y5 : Int32) (z_mCool : Int32) (hm : (((1 : Int32) <<< (mDays &&& 31)).toInt - y5.toInt).toNat < fu) (h0_y5 : 0 ≤ y5.toInt) (hl : vp_in l 5) (hcn : cnt_I y5 y3) (hres : res = m_X8_odds_27 fu mDays mH mK mD l which y3 y5 z_mCool), G X D 6 [(aMO, .inr (8, [.int mFault, .ref amS, .int mDays, .ref amH, .int mLin, .ref amK, .ref amO, .ref amD, .int z_mCool, .int mReadAt, .int mReadDays, .int mReadLin, .ref amRS, .ref amRH, .ref amRK, .ref amRO, .ref amRD, .ref amDN, .ref amSN, .int mDayNow, .int mLast, .int mTears, .int mWrong, .ref amTF, .ref amTFor, .ref amWB, .int mRdn, .ref amRdL, .ref amRdE, .ref amRdD, .ref amSz, .ref amLane, .ref amSh, .ref amHands, .int mTrace])), (amH, .inl (cI, 6, .inl mH)), (amK, .inl (cI, 5, .inl mK)), (amD, .inl (cI, 5, .inl mD))] [(0, .ref aMO), (1, .int l), (2, .int which), (3, .long y3), (5, .int y5)] 27 [] := by
  intro fu
  induction fu with
  | zero =>
    intro y3 y5 z_mCool hm
    exact absurd hm (Nat.not_lt_zero _)
  | succ fu ih =>
    intro y3 y5 z_mCool hm h0_y5 hl hcn hres
    rw [m_X8_odds_27] at hres
    refine g_iload hC dX8_odds_27 4 rfl rfl ?_
    refine g_iconst (v := 1) hC dX8_odds_29 (by decide) rfl ?_
    refine g_aload_n hC dX8_odds_30 rfl 0 rfl rfl ?_
    refine g_get hC iw_X8_odds_RX8 0 rfl rfl 2 (by decide) (List.mem_of_getElem? (i := 1) rfl) rfl rfl dX8_odds_31 rfl ?_
    refine g_ishl hC dX8_odds_34 rfl ?_
    refine g_icmp_ge (tgt := 70) hC dX8_odds_35 (by decide) rfl (fun c_35 => ?_) (fun c_35 => ?_)
    · rw [if_pos c_35] at hres
      refine g_aload_n hC dX8_odds_70 rfl 0 rfl rfl ?_
      refine g_iconst (v := 0) hC dX8_odds_71 (by decide) rfl ?_
      refine g_put (ws' := [(aMO, .inr (8, [.int mFault, .ref amS, .int mDays, .ref amH, .int mLin, .ref amK, .ref amO, .ref amD, .int (0 : Int32), .int mReadAt, .int mReadDays, .int mReadLin, .ref amRS, .ref amRH, .ref amRK, .ref amRO, .ref amRD, .ref amDN, .ref amSN, .int mDayNow, .int mLast, .int mTears, .int mWrong, .ref amTF, .ref amTFor, .ref amWB, .int mRdn, .ref amRdL, .ref amRdE, .ref amRdD, .ref amSz, .ref amLane, .ref amSh, .ref amHands, .int mTrace])), (amH, .inl (cI, 6, .inl mH)), (amK, .inl (cI, 5, .inl mK)), (amD, .inl (cI, 5, .inl mD))]) hC iw_X8_odds_RX8 0 rfl rfl 8 (by decide) (List.mem_of_getElem? (i := 2) rfl) rfl tyX8 tyX8_ok nmX8 rfl rfl rfl (Nat.le_of_ble_eq_true rfl) rfl dX8_odds_72 rfl ?_
      refine g_lload_n hC dX8_odds_75 rfl 3 rfl rfl ?_
      refine g_lconst (v := 1) hC dX8_odds_76 (by decide) rfl ?_
      refine g_aload_n hC dX8_odds_77 rfl 0 rfl rfl ?_
      refine g_get hC iw_X8_odds_RX8 0 rfl rfl 2 (by decide) (List.mem_of_getElem? (i := 1) rfl) rfl rfl dX8_odds_78 rfl ?_
      refine g_lshl hC dX8_odds_81 rfl ?_
      refine g_iload_n hC dX8_odds_82 rfl 2 rfl rfl ?_
      refine g_callS (ws' := [(aMO, .inr (8, [.int mFault, .ref amS, .int mDays, .ref amH, .int mLin, .ref amK, .ref amO, .ref amD, .int (0 : Int32), .int mReadAt, .int mReadDays, .int mReadLin, .ref amRS, .ref amRH, .ref amRK, .ref amRO, .ref amRD, .ref amDN, .ref amSN, .int mDayNow, .int mLast, .int mTears, .int mWrong, .ref amTF, .ref amTFor, .ref amWB, .int mRdn, .ref amRdL, .ref amRdE, .ref amRdD, .ref amSz, .ref amLane, .ref amSh, .ref amHands, .int mTrace])), (amH, .inl (cI, 6, .inl mH)), (amK, .inl (cI, 5, .inl mK)), (amD, .inl (cI, 5, .inl mD))]) (st' := [.long (m_X8_share y3 ((1 : Int64) <<< (mDays.toInt64 &&& 63)) which)]) (nw := 4) (n1 := 0) hC gX8_odds_X8_share hdS_yX8_share (As := [.long y3, .long ((1 : Int64) <<< (mDays.toInt64 &&& 63)), .int which]) (rest := []) (c_X8_share D cI y3 ((1 : Int64) <<< (mDays.toInt64 &&& 63)) which (by exact cnt_e hcn) (by exact (pw_ok hd0 hd6).2)) rfl ⟨by decide, by decide⟩ rfl [] [0, 1, 2, 3] [0, 1, 2, 3] [0] rfl rfl rfl rfl (by decide) rfl rfl (Nat.le_of_ble_eq_true rfl) dX8_odds_83 rfl rfl ?_
      subst hres
      exact g_lret hC hX rfl dX8_odds_86 rfl rfl
    · rw [if_neg c_35] at hres
      refine g_aload_n hC dX8_odds_38 rfl 0 rfl rfl ?_
      refine g_iload hC dX8_odds_39 4 rfl rfl ?_
      refine g_put (ws' := [(aMO, .inr (8, [.int mFault, .ref amS, .int mDays, .ref amH, .int mLin, .ref amK, .ref amO, .ref amD, .int y5, .int mReadAt, .int mReadDays, .int mReadLin, .ref amRS, .ref amRH, .ref amRK, .ref amRO, .ref amRD, .ref amDN, .ref amSN, .int mDayNow, .int mLast, .int mTears, .int mWrong, .ref amTF, .ref amTFor, .ref amWB, .int mRdn, .ref amRdL, .ref amRdE, .ref amRdD, .ref amSz, .ref amLane, .ref amSh, .ref amHands, .int mTrace])), (amH, .inl (cI, 6, .inl mH)), (amK, .inl (cI, 5, .inl mK)), (amD, .inl (cI, 5, .inl mD))]) hC iw_X8_odds_RX8 0 rfl rfl 8 (by decide) (List.mem_of_getElem? (i := 2) rfl) rfl tyX8 tyX8_ok nmX8 rfl rfl rfl (Nat.le_of_ble_eq_true rfl) rfl dX8_odds_41 rfl ?_
      refine g_lload_n hC dX8_odds_44 rfl 3 rfl rfl ?_
      refine g_aload_n hC dX8_odds_45 rfl 0 rfl rfl ?_
      refine g_iload_n hC dX8_odds_46 rfl 1 rfl rfl ?_
      refine g_aload_n hC dX8_odds_47 rfl 0 rfl rfl ?_
      refine g_get hC iw_X8_odds_RX8 0 rfl rfl 2 (by decide) (List.mem_of_getElem? (i := 1) rfl) rfl rfl dX8_odds_48 rfl ?_
      refine g_callV (ws' := [(aMO, .inr (8, [.int mFault, .ref amS, .int mDays, .ref amH, .int mLin, .ref amK, .ref amO, .ref amD, .int y5, .int mReadAt, .int mReadDays, .int mReadLin, .ref amRS, .ref amRH, .ref amRK, .ref amRO, .ref amRD, .ref amDN, .ref amSN, .int mDayNow, .int mLast, .int mTears, .int mWrong, .ref amTF, .ref amTFor, .ref amWB, .int mRdn, .ref amRdL, .ref amRdE, .ref amRdD, .ref amSz, .ref amLane, .ref amSh, .ref amHands, .int mTrace])), (amH, .inl (cI, 6, .inl mH)), (amK, .inl (cI, 5, .inl mK)), (amD, .inl (cI, 5, .inl mD))]) (st' := [.int (m_X8_dampAt y5 mH mK mD l mDays), .long y3]) (nw := 4) (n1 := 4) hC gX8_odds_X8_dampAt hdV_yX8_dampAt 0 rfl rfl (As := [.int l, .int mDays]) (rest := [.long y3]) (c_X8_dampAt D cI aMO mFault amS mDays amH mLin amK amO amD y5 mReadAt mReadDays mReadLin amRS amRH amRK amRO amRD amDN amSN mDayNow mLast mTears mWrong amTF amTFor amWB mRdn amRdL amRdE amRdD amSz amLane amSh amHands mTrace mH mK mD l mDays (by exact hl) (by exact hd6)) rfl ⟨by decide, by decide⟩ rfl [0, 1, 2, 3] [] [0, 1, 2, 3] [0] rfl rfl rfl rfl (by decide) rfl rfl (Nat.le_of_ble_eq_true rfl) dX8_odds_51 rfl rfl ?_
      have K_54 : ∀ vK : Int64, vK = (if (m_X8_dampAt y5 mH mK mD l mDays) ≤ 0 then (0 : Int64) else (1 : Int64)) → G X D 6 [(aMO, .inr (8, [.int mFault, .ref amS, .int mDays, .ref amH, .int mLin, .ref amK, .ref amO, .ref amD, .int y5, .int mReadAt, .int mReadDays, .int mReadLin, .ref amRS, .ref amRH, .ref amRK, .ref amRO, .ref amRD, .ref amDN, .ref amSN, .int mDayNow, .int mLast, .int mTears, .int mWrong, .ref amTF, .ref amTFor, .ref amWB, .int mRdn, .ref amRdL, .ref amRdE, .ref amRdD, .ref amSz, .ref amLane, .ref amSh, .ref amHands, .int mTrace])), (amH, .inl (cI, 6, .inl mH)), (amK, .inl (cI, 5, .inl mK)), (amD, .inl (cI, 5, .inl mD))] [(0, .ref aMO), (1, .int l), (2, .int which), (3, .long y3), (5, .int y5)] 62 (.long vK :: [.long y3]) := by
        intro vK hvK
        subst hvK
        refine g_ladd hC dX8_odds_62 rfl ?_
        refine g_lstore_n (lv' := [(3, .long (y3 + (if (m_X8_dampAt y5 mH mK mD l mDays) ≤ 0 then (0 : Int64) else (1 : Int64)))), (0, .ref aMO), (1, .int l), (2, .int which), (5, .int y5)]) hC dX8_odds_63 rfl (by decide) rfl rfl ?_
        refine g_iinc (v := (y5 + 1)) (lv' := [(5, .int (y5 + 1)), (3, .long (y3 + (if (m_X8_dampAt y5 mH mK mD l mDays) ≤ 0 then (0 : Int64) else (1 : Int64)))), (0, .ref aMO), (1, .int l), (2, .int which)]) hC dX8_odds_64 4 rfl rfl (by decide) rfl rfl ?_
        refine g_goto (tgt := 27) hC dX8_odds_67 (by decide) ?_
        refine g_sub [2, 3, 4, 1, 0] rfl ?_
        exact ih (y3 + (if (m_X8_dampAt y5 mH mK mD l mDays) ≤ 0 then (0 : Int64) else (1 : Int64))) (y5 + 1) y5 (up_dec c_35 hm) (up_nn c_35 h0_y5) (by assumption) (by exact cnt_s hcn c_35 (pw_ok hd0 hd6).1) hres
      refine g_if_le (tgt := 61) hC dX8_odds_54 (by decide) rfl (fun c_54 => ?_) (fun c_54 => ?_)
      · refine g_lconst (v := 0) hC dX8_odds_61 (by decide) rfl ?_
        exact K_54 _ (if_pos c_54).symm
      · refine g_lconst (v := 1) hC dX8_odds_57 (by decide) rfl ?_
        refine g_goto (tgt := 62) hC dX8_odds_58 (by decide) ?_
        exact K_54 _ (if_neg c_54).symm
set_option maxRecDepth 100000 in
set_option maxHeartbeats 4000000 in
theorem c_X8_odds (D : va_G) (cI : ClassId) (aMO : Nat) (mFault : Int32) (amS : Nat) (mDays : Int32) (amH : Nat) (mLin : Int32) (amK : Nat) (amO : Nat) (amD : Nat) (mCool : Int32) (mReadAt : Int32) (mReadDays : Int32) (mReadLin : Int32) (amRS : Nat) (amRH : Nat) (amRK : Nat) (amRO : Nat) (amRD : Nat) (amDN : Nat) (amSN : Nat) (mDayNow : Int32) (mLast : Int32) (mTears : Int32) (mWrong : Int32) (amTF : Nat) (amTFor : Nat) (amWB : Nat) (mRdn : Int32) (amRdL : Nat) (amRdE : Nat) (amRdD : Nat) (amSz : Nat) (amLane : Nat) (amSh : Nat) (amHands : Nat) (mTrace : Int32) (mH : Nat → Int32) (mK : Nat → Int32) (mD : Nat → Int32) (l : Int32) (which : Int32) (hl5 : mLin.toInt ≤ 5) (hd6 : mDays.toInt ≤ 6) (hd0 : 0 ≤ mDays.toInt) : MC yX8_odds wsX8_odds ({ frames := 4, cells := 0, slots := 0, locals := 92 } : Room) D [(cI, .int)] [.ref aMO, .int l, .int which] [(aMO, .inr (8, [.int mFault, .ref amS, .int mDays, .ref amH, .int mLin, .ref amK, .ref amO, .ref amD, .int mCool, .int mReadAt, .int mReadDays, .int mReadLin, .ref amRS, .ref amRH, .ref amRK, .ref amRO, .ref amRD, .ref amDN, .ref amSN, .int mDayNow, .int mLast, .int mTears, .int mWrong, .ref amTF, .ref amTFor, .ref amWB, .int mRdn, .ref amRdL, .ref amRdE, .ref amRdD, .ref amSz, .ref amLane, .ref amSh, .ref amHands, .int mTrace])), (amH, .inl (cI, 6, .inl mH)), (amK, .inl (cI, 5, .inl mK)), (amD, .inl (cI, 5, .inl mD))] (some (.long ((m_X8_odds mDays mLin mCool mH mK mD l which).1))) [(aMO, .inr (8, [.int mFault, .ref amS, .int mDays, .ref amH, .int mLin, .ref amK, .ref amO, .ref amD, .int ((m_X8_odds mDays mLin mCool mH mK mD l which).2), .int mReadAt, .int mReadDays, .int mReadLin, .ref amRS, .ref amRH, .ref amRK, .ref amRO, .ref amRD, .ref amDN, .ref amSN, .int mDayNow, .int mLast, .int mTears, .int mWrong, .ref amTF, .ref amTFor, .ref amWB, .int mRdn, .ref amRdL, .ref amRdE, .ref amRdD, .ref amSz, .ref amLane, .ref amSh, .ref amHands, .int mTrace])), (amH, .inl (cI, 6, .inl mH)), (amK, .inl (cI, 5, .inl mK)), (amD, .inl (cI, 5, .inl mD))] := by
  refine g_entry (by decide) rfl rfl rfl rfl (Nat.le_of_ble_eq_true rfl) (lv := [(0, .ref aMO), (1, .int l), (2, .int which)]) rfl ?_
  intro X hC hX
  obtain ⟨res, hres⟩ : ∃ z, z = (m_X8_odds mDays mLin mCool mH mK mD l which) := ⟨_, rfl⟩
  rw [← hres] at hX
  rw [m_X8_odds] at hres
  refine g_aload_n hC dX8_odds_0 rfl 0 rfl rfl ?_
  refine g_iload_n hC dX8_odds_1 rfl 1 rfl rfl ?_
  refine g_callV (ws' := [(aMO, .inr (8, [.int mFault, .ref amS, .int mDays, .ref amH, .int mLin, .ref amK, .ref amO, .ref amD, .int mCool, .int mReadAt, .int mReadDays, .int mReadLin, .ref amRS, .ref amRH, .ref amRK, .ref amRO, .ref amRD, .ref amDN, .ref amSN, .int mDayNow, .int mLast, .int mTears, .int mWrong, .ref amTF, .ref amTFor, .ref amWB, .int mRdn, .ref amRdL, .ref amRdE, .ref amRdD, .ref amSz, .ref amLane, .ref amSh, .ref amHands, .int mTrace])), (amH, .inl (cI, 6, .inl mH)), (amK, .inl (cI, 5, .inl mK)), (amD, .inl (cI, 5, .inl mD))]) (st' := [.int (m_X8_noLinen mLin l)]) (nw := 4) (n1 := 1) hC gX8_odds_X8_noLinen hdV_yX8_noLinen 0 rfl rfl (As := [.int l]) (rest := []) (c_X8_noLinen D cI aMO mFault amS mDays amH mLin amK amO amD mCool mReadAt mReadDays mReadLin amRS amRH amRK amRO amRD amDN amSN mDayNow mLast mTears mWrong amTF amTFor amWB mRdn amRdL amRdE amRdD amSz amLane amSh amHands mTrace l) rfl ⟨by decide, by decide⟩ rfl [0] [1, 2, 3] [3, 0, 1, 2] [0] rfl rfl rfl rfl (by decide) rfl rfl (Nat.le_of_ble_eq_true rfl) dX8_odds_2 rfl rfl ?_
  refine g_if_ne (tgt := 18) hC dX8_odds_5 (by decide) rfl (fun c_5 => ?_) (fun c_5 => ?_)
  · rw [if_neg c_5] at hres
    refine g_callS (ws' := [(aMO, .inr (8, [.int mFault, .ref amS, .int mDays, .ref amH, .int mLin, .ref amK, .ref amO, .ref amD, .int mCool, .int mReadAt, .int mReadDays, .int mReadLin, .ref amRS, .ref amRH, .ref amRK, .ref amRO, .ref amRD, .ref amDN, .ref amSN, .int mDayNow, .int mLast, .int mTears, .int mWrong, .ref amTF, .ref amTFor, .ref amWB, .int mRdn, .ref amRdL, .ref amRdE, .ref amRdD, .ref amSz, .ref amLane, .ref amSh, .ref amHands, .int mTrace])), (amH, .inl (cI, 6, .inl mH)), (amK, .inl (cI, 5, .inl mK)), (amD, .inl (cI, 5, .inl mD))]) (st' := [.long m_X8_lost]) (nw := 4) (n1 := 0) hC gX8_odds_X8_lost hdS_yX8_lost (As := []) (rest := []) (c_X8_lost D cI ) rfl ⟨by decide, by decide⟩ rfl [] [0, 1, 2, 3] [0, 1, 2, 3] [0] rfl rfl rfl rfl (by decide) rfl rfl (Nat.le_of_ble_eq_true rfl) dX8_odds_18 rfl rfl ?_
    subst hres
    exact g_lret hC hX rfl dX8_odds_21 rfl rfl
  · rw [if_pos c_5] at hres
    refine g_iload_n hC dX8_odds_8 rfl 2 rfl rfl ?_
    refine g_i2l hC dX8_odds_9 rfl ?_
    refine g_lconst (v := 0) hC dX8_odds_10 (by decide) rfl ?_
    refine g_lconst (v := 1) hC dX8_odds_11 (by decide) rfl ?_
    refine g_callS (ws' := [(aMO, .inr (8, [.int mFault, .ref amS, .int mDays, .ref amH, .int mLin, .ref amK, .ref amO, .ref amD, .int mCool, .int mReadAt, .int mReadDays, .int mReadLin, .ref amRS, .ref amRH, .ref amRK, .ref amRO, .ref amRD, .ref amDN, .ref amSN, .int mDayNow, .int mLast, .int mTears, .int mWrong, .ref amTF, .ref amTFor, .ref amWB, .int mRdn, .ref amRdL, .ref amRdE, .ref amRdD, .ref amSz, .ref amLane, .ref amSh, .ref amHands, .int mTrace])), (amH, .inl (cI, 6, .inl mH)), (amK, .inl (cI, 5, .inl mK)), (amD, .inl (cI, 5, .inl mD))]) (st' := [.int (m_X8_in which.toInt64 (0 : Int64) (1 : Int64))]) (nw := 4) (n1 := 0) hC gX8_odds_X8_in hdS_yX8_in (As := [.long which.toInt64, .long (0 : Int64), .long (1 : Int64)]) (rest := []) (c_X8_in D cI which.toInt64 (0 : Int64) (1 : Int64)) rfl ⟨by decide, by decide⟩ rfl [] [0, 1, 2, 3] [0, 1, 2, 3] [0] rfl rfl rfl rfl (by decide) rfl rfl (Nat.le_of_ble_eq_true rfl) dX8_odds_12 rfl rfl ?_
    refine g_if_ne (tgt := 22) hC dX8_odds_15 (by decide) rfl (fun c_15 => ?_) (fun c_15 => ?_)
    · rw [if_neg c_15] at hres
      refine g_lconst (v := 0) hC dX8_odds_22 (by decide) rfl ?_
      refine g_lstore_n (lv' := [(3, .long (0 : Int64)), (0, .ref aMO), (1, .int l), (2, .int which)]) hC dX8_odds_23 rfl (by decide) rfl rfl ?_
      refine g_iconst (v := 0) hC dX8_odds_24 (by decide) rfl ?_
      refine g_istore (lv' := [(5, .int (0 : Int32)), (3, .long (0 : Int64)), (0, .ref aMO), (1, .int l), (2, .int which)]) hC dX8_odds_25 (by decide) rfl rfl ?_
      refine g_sub [2, 3, 4, 1, 0] rfl ?_
      exact l_X8_odds_27 D cI aMO mFault amS mDays amH mLin amK amO amD mCool mReadAt mReadDays mReadLin amRS amRH amRK amRO amRD amDN amSN mDayNow mLast mTears mWrong amTF amTFor amWB mRdn amRdL amRdE amRdD amSz amLane amSh amHands mTrace mH mK mD l which hl5 hd6 hd0 hC hX ((((1 : Int32) <<< (mDays &&& 31)).toInt - (0 : Int32).toInt).toNat + 1) (0 : Int64) (0 : Int32) mCool (Nat.lt_succ_self _) (by decide) (by exact nl_ok (by assumption) (by assumption)) (by exact cnt_0) hres
    · rw [if_pos c_15] at hres
      refine g_callS (ws' := [(aMO, .inr (8, [.int mFault, .ref amS, .int mDays, .ref amH, .int mLin, .ref amK, .ref amO, .ref amD, .int mCool, .int mReadAt, .int mReadDays, .int mReadLin, .ref amRS, .ref amRH, .ref amRK, .ref amRO, .ref amRD, .ref amDN, .ref amSN, .int mDayNow, .int mLast, .int mTears, .int mWrong, .ref amTF, .ref amTFor, .ref amWB, .int mRdn, .ref amRdL, .ref amRdE, .ref amRdD, .ref amSz, .ref amLane, .ref amSh, .ref amHands, .int mTrace])), (amH, .inl (cI, 6, .inl mH)), (amK, .inl (cI, 5, .inl mK)), (amD, .inl (cI, 5, .inl mD))]) (st' := [.long m_X8_lost]) (nw := 4) (n1 := 0) hC gX8_odds_X8_lost hdS_yX8_lost (As := []) (rest := []) (c_X8_lost D cI ) rfl ⟨by decide, by decide⟩ rfl [] [0, 1, 2, 3] [0, 1, 2, 3] [0] rfl rfl rfl rfl (by decide) rfl rfl (Nat.le_of_ble_eq_true rfl) dX8_odds_18 rfl rfl ?_
      subst hres
      exact g_lret hC hX rfl dX8_odds_21 rfl rfl
theorem iw_X8_sheet_RX8 : ∀ w ∈ wsX80, w ∈ wsX8_sheet := fun _ h => List.mem_cons_of_mem _ (List.mem_append_right _ (h))
def m_X8_sheet_65 : Nat → Int32 → Int32 → (Nat → Int32) → (Nat → Int32) → Int32 → (Nat → Int32) → (Int32 × Int32 × (Nat → Int32) × (Nat → Int32) × (Nat → Int32))
  | 0, _, _, _, _, _, _ => default
  | fu + 1, k, n, k_mSz, k_mLane, y4, z_mSh => (if n ≤ y4 then ((m_X8_refused (1 : Int32)).1, (m_X8_refused (1 : Int32)).2, k_mSz, k_mLane, z_mSh) else (m_X8_sheet_65 fu k n k_mSz k_mLane (y4 + 1) (upd z_mSh (((60 : Int32) * k) + y4).toNatClampNeg (0 : Int32))))
def m_X8_sheet (mSz : Nat → Int32) (mLane : Nat → Int32) (mSh : Nat → Int32) (k : Int32) (lane : Int32) (n : Int32) : (Int32 × Int32 × (Nat → Int32) × (Nat → Int32) × (Nat → Int32)) := (if (m_X8_noSheet k) = 0 then (if (m_X8_in lane.toInt64 (0 : Int64) (2 : Int64)) = 0 then ((m_X8_refused (-2 : Int32)).1, (m_X8_refused (-2 : Int32)).2, mSz, mLane, mSh) else (if n ≤ (60 : Int32) then (if 0 ≤ n then (m_X8_sheet_65 ((n.toInt - (0 : Int32).toInt).toNat + 1) k n (upd mSz k.toNatClampNeg n) (upd mLane k.toNatClampNeg lane) (0 : Int32) mSh) else ((m_X8_failed (4 : Int32)).1, (m_X8_failed (4 : Int32)).2, mSz, mLane, mSh)) else ((m_X8_refused (-2 : Int32)).1, (m_X8_refused (-2 : Int32)).2, mSz, mLane, mSh))) else ((m_X8_refused (-1 : Int32)).1, (m_X8_refused (-1 : Int32)).2, mSz, mLane, mSh))
set_option maxRecDepth 100000 in
set_option maxHeartbeats 4000000 in
theorem l_X8_sheet_65 {X : gX} (D : va_G) (cI : ClassId) (aMO : Nat) (mFault : Int32) (amS : Nat) (mDays : Int32) (amH : Nat) (mLin : Int32) (amK : Nat) (amO : Nat) (amD : Nat) (mCool : Int32) (mReadAt : Int32) (mReadDays : Int32) (mReadLin : Int32) (amRS : Nat) (amRH : Nat) (amRK : Nat) (amRO : Nat) (amRD : Nat) (amDN : Nat) (amSN : Nat) (mDayNow : Int32) (mLast : Int32) (mTears : Int32) (mWrong : Int32) (amTF : Nat) (amTFor : Nat) (amWB : Nat) (mRdn : Int32) (amRdL : Nat) (amRdE : Nat) (amRdD : Nat) (amSz : Nat) (amLane : Nat) (amSh : Nat) (amHands : Nat) (mTrace : Int32) (mSz : Nat → Int32) (mLane : Nat → Int32) (mSh : Nat → Int32) (k : Int32) (lane : Int32) (n : Int32) (k_mFault : Int32) (k_mSz : Nat → Int32) (k_mLane : Nat → Int32) (hC : Cx X cX8_sheet 5 RX8 wsX8_sheet D [(cI, .int)] ({ frames := 2, cells := 0, slots := 0, locals := 45 } : Room) (some .int)) {res : (Int32 × Int32 × (Nat → Int32) × (Nat → Int32) × (Nat → Int32))} (hX : Rx X D (some (.int res.1)) [(aMO, .inr (8, [.int res.2.1, .ref amS, .int mDays, .ref amH, .int mLin, .ref amK, .ref amO, .ref amD, .int mCool, .int mReadAt, .int mReadDays, .int mReadLin, .ref amRS, .ref amRH, .ref amRK, .ref amRO, .ref amRD, .ref amDN, .ref amSN, .int mDayNow, .int mLast, .int mTears, .int mWrong, .ref amTF, .ref amTFor, .ref amWB, .int mRdn, .ref amRdL, .ref amRdE, .ref amRdD, .ref amSz, .ref amLane, .ref amSh, .ref amHands, .int mTrace])), (amSz, .inl (cI, 4, .inl res.2.2.1)), (amLane, .inl (cI, 4, .inl res.2.2.2.1)), (amSh, .inl (cI, 240, .inl res.2.2.2.2))]) : ∀ (fu : Nat) (y4 : Int32) (z_mSh : Nat → Int32) (hm : (n.toInt - y4.toInt).toNat < fu) (h0_y4 : 0 ≤ y4.toInt) (hk : vp_in k 4) (hn60 : n.toInt ≤ 60) (hres : res = m_X8_sheet_65 fu k n k_mSz k_mLane y4 z_mSh), G X D 5 [(aMO, .inr (8, [.int k_mFault, .ref amS, .int mDays, .ref amH, .int mLin, .ref amK, .ref amO, .ref amD, .int mCool, .int mReadAt, .int mReadDays, .int mReadLin, .ref amRS, .ref amRH, .ref amRK, .ref amRO, .ref amRD, .ref amDN, .ref amSN, .int mDayNow, .int mLast, .int mTears, .int mWrong, .ref amTF, .ref amTFor, .ref amWB, .int mRdn, .ref amRdL, .ref amRdE, .ref amRdD, .ref amSz, .ref amLane, .ref amSh, .ref amHands, .int mTrace])), (amSz, .inl (cI, 4, .inl k_mSz)), (amLane, .inl (cI, 4, .inl k_mLane)), (amSh, .inl (cI, 240, .inl z_mSh))] [(0, .ref aMO), (1, .int k), (3, .int n), (4, .int y4)] 65 [] := by
  intro fu
  induction fu with
  | zero =>
    intro y4 z_mSh hm
    exact absurd hm (Nat.not_lt_zero _)
  | succ fu ih =>
    intro y4 z_mSh hm h0_y4 hk hn60 hres
    rw [m_X8_sheet_65] at hres
    refine g_iload hC dX8_sheet_65 3 rfl rfl ?_
    refine g_iload_n hC dX8_sheet_67 rfl 2 rfl rfl ?_
    refine g_icmp_ge (tgt := 90) hC dX8_sheet_68 (by decide) rfl (fun c_68 => ?_) (fun c_68 => ?_)
    · rw [if_pos c_68] at hres
      refine g_aload_n hC dX8_sheet_90 rfl 0 rfl rfl ?_
      refine g_iconst (v := 1) hC dX8_sheet_91 (by decide) rfl ?_
      refine g_callV (ws' := [(aMO, .inr (8, [.int ((m_X8_refused (1 : Int32)).2), .ref amS, .int mDays, .ref amH, .int mLin, .ref amK, .ref amO, .ref amD, .int mCool, .int mReadAt, .int mReadDays, .int mReadLin, .ref amRS, .ref amRH, .ref amRK, .ref amRO, .ref amRD, .ref amDN, .ref amSN, .int mDayNow, .int mLast, .int mTears, .int mWrong, .ref amTF, .ref amTFor, .ref amWB, .int mRdn, .ref amRdL, .ref amRdE, .ref amRdD, .ref amSz, .ref amLane, .ref amSh, .ref amHands, .int mTrace])), (amSz, .inl (cI, 4, .inl k_mSz)), (amLane, .inl (cI, 4, .inl k_mLane)), (amSh, .inl (cI, 240, .inl z_mSh))]) (st' := [.int ((m_X8_refused (1 : Int32)).1)]) (nw := 4) (n1 := 1) hC gX8_sheet_X8_refused hdV_yX8_refused 0 rfl rfl (As := [.int (1 : Int32)]) (rest := []) (c_X8_refused D cI aMO k_mFault amS mDays amH mLin amK amO amD mCool mReadAt mReadDays mReadLin amRS amRH amRK amRO amRD amDN amSN mDayNow mLast mTears mWrong amTF amTFor amWB mRdn amRdL amRdE amRdD amSz amLane amSh amHands mTrace (1 : Int32)) rfl ⟨by decide, by decide⟩ rfl [0] [1, 2, 3] [3, 0, 1, 2] [0] rfl rfl rfl rfl (by decide) rfl rfl (Nat.le_of_ble_eq_true rfl) dX8_sheet_92 rfl rfl ?_
      subst hres
      exact g_iret hC hX rfl dX8_sheet_95 rfl rfl
    · rw [if_neg c_68] at hres
      refine g_aload_n hC dX8_sheet_71 rfl 0 rfl rfl ?_
      refine g_get hC iw_X8_sheet_RX8 0 rfl rfl 32 (by decide) (List.mem_of_getElem? (i := 4) rfl) rfl rfl dX8_sheet_72 rfl ?_
      refine g_bipush (v := 60) hC dX8_sheet_75 (by decide) rfl ?_
      refine g_iload_n hC dX8_sheet_77 rfl 1 rfl rfl ?_
      refine g_imul hC dX8_sheet_78 rfl ?_
      refine g_iload hC dX8_sheet_79 3 rfl rfl ?_
      refine g_iadd hC dX8_sheet_81 rfl ?_
      refine g_iconst (v := 0) hC dX8_sheet_82 (by decide) rfl ?_
      refine g_iast (ws' := [(aMO, .inr (8, [.int k_mFault, .ref amS, .int mDays, .ref amH, .int mLin, .ref amK, .ref amO, .ref amD, .int mCool, .int mReadAt, .int mReadDays, .int mReadLin, .ref amRS, .ref amRH, .ref amRK, .ref amRO, .ref amRD, .ref amDN, .ref amSN, .int mDayNow, .int mLast, .int mTears, .int mWrong, .ref amTF, .ref amTFor, .ref amWB, .int mRdn, .ref amRdL, .ref amRdE, .ref amRdD, .ref amSz, .ref amLane, .ref amSh, .ref amHands, .int mTrace])), (amSz, .inl (cI, 4, .inl k_mSz)), (amLane, .inl (cI, 4, .inl k_mLane)), (amSh, .inl (cI, 240, .inl (upd z_mSh (((60 : Int32) * k) + y4).toNatClampNeg (0 : Int32))))]) hC 3 0 rfl rfl (by exact ix1 hk h0_y4 (Int.lt_of_lt_of_le (nle_ti c_68) hn60)) rfl dX8_sheet_83 rfl ?_
      refine g_iinc (v := (y4 + 1)) (lv' := [(4, .int (y4 + 1)), (0, .ref aMO), (1, .int k), (3, .int n)]) hC dX8_sheet_84 3 rfl rfl (by decide) rfl rfl ?_
      refine g_goto (tgt := 65) hC dX8_sheet_87 (by decide) ?_
      refine g_sub [1, 2, 3, 0] rfl ?_
      exact ih (y4 + 1) (upd z_mSh (((60 : Int32) * k) + y4).toNatClampNeg (0 : Int32)) (up_dec c_68 hm) (up_nn c_68 h0_y4) (by assumption) (by assumption) hres
set_option maxRecDepth 100000 in
set_option maxHeartbeats 4000000 in
theorem c_X8_sheet (D : va_G) (cI : ClassId) (aMO : Nat) (mFault : Int32) (amS : Nat) (mDays : Int32) (amH : Nat) (mLin : Int32) (amK : Nat) (amO : Nat) (amD : Nat) (mCool : Int32) (mReadAt : Int32) (mReadDays : Int32) (mReadLin : Int32) (amRS : Nat) (amRH : Nat) (amRK : Nat) (amRO : Nat) (amRD : Nat) (amDN : Nat) (amSN : Nat) (mDayNow : Int32) (mLast : Int32) (mTears : Int32) (mWrong : Int32) (amTF : Nat) (amTFor : Nat) (amWB : Nat) (mRdn : Int32) (amRdL : Nat) (amRdE : Nat) (amRdD : Nat) (amSz : Nat) (amLane : Nat) (amSh : Nat) (amHands : Nat) (mTrace : Int32) (mSz : Nat → Int32) (mLane : Nat → Int32) (mSh : Nat → Int32) (k : Int32) (lane : Int32) (n : Int32) : MC yX8_sheet wsX8_sheet ({ frames := 2, cells := 0, slots := 0, locals := 45 } : Room) D [(cI, .int)] [.ref aMO, .int k, .int lane, .int n] [(aMO, .inr (8, [.int mFault, .ref amS, .int mDays, .ref amH, .int mLin, .ref amK, .ref amO, .ref amD, .int mCool, .int mReadAt, .int mReadDays, .int mReadLin, .ref amRS, .ref amRH, .ref amRK, .ref amRO, .ref amRD, .ref amDN, .ref amSN, .int mDayNow, .int mLast, .int mTears, .int mWrong, .ref amTF, .ref amTFor, .ref amWB, .int mRdn, .ref amRdL, .ref amRdE, .ref amRdD, .ref amSz, .ref amLane, .ref amSh, .ref amHands, .int mTrace])), (amSz, .inl (cI, 4, .inl mSz)), (amLane, .inl (cI, 4, .inl mLane)), (amSh, .inl (cI, 240, .inl mSh))] (some (.int ((m_X8_sheet mSz mLane mSh k lane n).1))) [(aMO, .inr (8, [.int ((m_X8_sheet mSz mLane mSh k lane n).2.1), .ref amS, .int mDays, .ref amH, .int mLin, .ref amK, .ref amO, .ref amD, .int mCool, .int mReadAt, .int mReadDays, .int mReadLin, .ref amRS, .ref amRH, .ref amRK, .ref amRO, .ref amRD, .ref amDN, .ref amSN, .int mDayNow, .int mLast, .int mTears, .int mWrong, .ref amTF, .ref amTFor, .ref amWB, .int mRdn, .ref amRdL, .ref amRdE, .ref amRdD, .ref amSz, .ref amLane, .ref amSh, .ref amHands, .int mTrace])), (amSz, .inl (cI, 4, .inl ((m_X8_sheet mSz mLane mSh k lane n).2.2.1))), (amLane, .inl (cI, 4, .inl ((m_X8_sheet mSz mLane mSh k lane n).2.2.2.1))), (amSh, .inl (cI, 240, .inl ((m_X8_sheet mSz mLane mSh k lane n).2.2.2.2)))] := by
  refine g_entry (by decide) rfl rfl rfl rfl (Nat.le_of_ble_eq_true rfl) (lv := [(0, .ref aMO), (1, .int k), (2, .int lane), (3, .int n)]) rfl ?_
  intro X hC hX
  obtain ⟨res, hres⟩ : ∃ z, z = (m_X8_sheet mSz mLane mSh k lane n) := ⟨_, rfl⟩
  rw [← hres] at hX
  rw [m_X8_sheet] at hres
  refine g_iload_n hC dX8_sheet_0 rfl 1 rfl rfl ?_
  refine g_callS (ws' := [(aMO, .inr (8, [.int mFault, .ref amS, .int mDays, .ref amH, .int mLin, .ref amK, .ref amO, .ref amD, .int mCool, .int mReadAt, .int mReadDays, .int mReadLin, .ref amRS, .ref amRH, .ref amRK, .ref amRO, .ref amRD, .ref amDN, .ref amSN, .int mDayNow, .int mLast, .int mTears, .int mWrong, .ref amTF, .ref amTFor, .ref amWB, .int mRdn, .ref amRdL, .ref amRdE, .ref amRdD, .ref amSz, .ref amLane, .ref amSh, .ref amHands, .int mTrace])), (amSz, .inl (cI, 4, .inl mSz)), (amLane, .inl (cI, 4, .inl mLane)), (amSh, .inl (cI, 240, .inl mSh))]) (st' := [.int (m_X8_noSheet k)]) (nw := 4) (n1 := 0) hC gX8_sheet_X8_noSheet hdS_yX8_noSheet (As := [.int k]) (rest := []) (c_X8_noSheet D cI k) rfl ⟨by decide, by decide⟩ rfl [] [0, 1, 2, 3] [0, 1, 2, 3] [0] rfl rfl rfl rfl (by decide) rfl rfl (Nat.le_of_ble_eq_true rfl) dX8_sheet_1 rfl rfl ?_
  refine g_if_eq (tgt := 13) hC dX8_sheet_4 (by decide) rfl (fun c_4 => ?_) (fun c_4 => ?_)
  · rw [if_pos c_4] at hres
    refine g_iload_n hC dX8_sheet_13 rfl 2 rfl rfl ?_
    refine g_i2l hC dX8_sheet_14 rfl ?_
    refine g_lconst (v := 0) hC dX8_sheet_15 (by decide) rfl ?_
    refine g_ldc2 (v := 2) hC (List.mem_of_getElem? (i := 1) rfl) dX8_sheet_16 rfl ?_
    refine g_callS (ws' := [(aMO, .inr (8, [.int mFault, .ref amS, .int mDays, .ref amH, .int mLin, .ref amK, .ref amO, .ref amD, .int mCool, .int mReadAt, .int mReadDays, .int mReadLin, .ref amRS, .ref amRH, .ref amRK, .ref amRO, .ref amRD, .ref amDN, .ref amSN, .int mDayNow, .int mLast, .int mTears, .int mWrong, .ref amTF, .ref amTFor, .ref amWB, .int mRdn, .ref amRdL, .ref amRdE, .ref amRdD, .ref amSz, .ref amLane, .ref amSh, .ref amHands, .int mTrace])), (amSz, .inl (cI, 4, .inl mSz)), (amLane, .inl (cI, 4, .inl mLane)), (amSh, .inl (cI, 240, .inl mSh))]) (st' := [.int (m_X8_in lane.toInt64 (0 : Int64) (2 : Int64))]) (nw := 4) (n1 := 0) hC gX8_sheet_X8_in hdS_yX8_in (As := [.long lane.toInt64, .long (0 : Int64), .long (2 : Int64)]) (rest := []) (c_X8_in D cI lane.toInt64 (0 : Int64) (2 : Int64)) rfl ⟨by decide, by decide⟩ rfl [] [0, 1, 2, 3] [0, 1, 2, 3] [0] rfl rfl rfl rfl (by decide) rfl rfl (Nat.le_of_ble_eq_true rfl) dX8_sheet_19 rfl rfl ?_
    refine g_if_eq (tgt := 31) hC dX8_sheet_22 (by decide) rfl (fun c_22 => ?_) (fun c_22 => ?_)
    · rw [if_pos c_22] at hres
      refine g_aload_n hC dX8_sheet_31 rfl 0 rfl rfl ?_
      refine g_bipush (v := -2) hC dX8_sheet_32 (by decide) rfl ?_
      refine g_callV (ws' := [(aMO, .inr (8, [.int ((m_X8_refused (-2 : Int32)).2), .ref amS, .int mDays, .ref amH, .int mLin, .ref amK, .ref amO, .ref amD, .int mCool, .int mReadAt, .int mReadDays, .int mReadLin, .ref amRS, .ref amRH, .ref amRK, .ref amRO, .ref amRD, .ref amDN, .ref amSN, .int mDayNow, .int mLast, .int mTears, .int mWrong, .ref amTF, .ref amTFor, .ref amWB, .int mRdn, .ref amRdL, .ref amRdE, .ref amRdD, .ref amSz, .ref amLane, .ref amSh, .ref amHands, .int mTrace])), (amSz, .inl (cI, 4, .inl mSz)), (amLane, .inl (cI, 4, .inl mLane)), (amSh, .inl (cI, 240, .inl mSh))]) (st' := [.int ((m_X8_refused (-2 : Int32)).1)]) (nw := 4) (n1 := 1) hC gX8_sheet_X8_refused hdV_yX8_refused 0 rfl rfl (As := [.int (-2 : Int32)]) (rest := []) (c_X8_refused D cI aMO mFault amS mDays amH mLin amK amO amD mCool mReadAt mReadDays mReadLin amRS amRH amRK amRO amRD amDN amSN mDayNow mLast mTears mWrong amTF amTFor amWB mRdn amRdL amRdE amRdD amSz amLane amSh amHands mTrace (-2 : Int32)) rfl ⟨by decide, by decide⟩ rfl [0] [1, 2, 3] [3, 0, 1, 2] [0] rfl rfl rfl rfl (by decide) rfl rfl (Nat.le_of_ble_eq_true rfl) dX8_sheet_34 rfl rfl ?_
      subst hres
      exact g_iret hC hX rfl dX8_sheet_37 rfl rfl
    · rw [if_neg c_22] at hres
      refine g_iload_n hC dX8_sheet_25 rfl 3 rfl rfl ?_
      refine g_bipush (v := 60) hC dX8_sheet_26 (by decide) rfl ?_
      refine g_icmp_le (tgt := 38) hC dX8_sheet_28 (by decide) rfl (fun c_28 => ?_) (fun c_28 => ?_)
      · rw [if_pos c_28] at hres
        refine g_iload_n hC dX8_sheet_38 rfl 3 rfl rfl ?_
        refine g_if_ge (tgt := 48) hC dX8_sheet_39 (by decide) rfl (fun c_39 => ?_) (fun c_39 => ?_)
        · rw [if_pos c_39] at hres
          refine g_aload_n hC dX8_sheet_48 rfl 0 rfl rfl ?_
          refine g_get hC iw_X8_sheet_RX8 0 rfl rfl 30 (by decide) (List.mem_of_getElem? (i := 2) rfl) rfl rfl dX8_sheet_49 rfl ?_
          refine g_iload_n hC dX8_sheet_52 rfl 1 rfl rfl ?_
          refine g_iload_n hC dX8_sheet_53 rfl 3 rfl rfl ?_
          refine g_iast (ws' := [(aMO, .inr (8, [.int mFault, .ref amS, .int mDays, .ref amH, .int mLin, .ref amK, .ref amO, .ref amD, .int mCool, .int mReadAt, .int mReadDays, .int mReadLin, .ref amRS, .ref amRH, .ref amRK, .ref amRO, .ref amRD, .ref amDN, .ref amSN, .int mDayNow, .int mLast, .int mTears, .int mWrong, .ref amTF, .ref amTFor, .ref amWB, .int mRdn, .ref amRdL, .ref amRdE, .ref amRdD, .ref amSz, .ref amLane, .ref amSh, .ref amHands, .int mTrace])), (amSz, .inl (cI, 4, .inl (upd mSz k.toNatClampNeg n))), (amLane, .inl (cI, 4, .inl mLane)), (amSh, .inl (cI, 240, .inl mSh))]) hC 1 0 rfl rfl (by exact nw_ok c_4) rfl dX8_sheet_54 rfl ?_
          refine g_aload_n hC dX8_sheet_55 rfl 0 rfl rfl ?_
          refine g_get hC iw_X8_sheet_RX8 0 rfl rfl 31 (by decide) (List.mem_of_getElem? (i := 3) rfl) rfl rfl dX8_sheet_56 rfl ?_
          refine g_iload_n hC dX8_sheet_59 rfl 1 rfl rfl ?_
          refine g_iload_n hC dX8_sheet_60 rfl 2 rfl rfl ?_
          refine g_iast (ws' := [(aMO, .inr (8, [.int mFault, .ref amS, .int mDays, .ref amH, .int mLin, .ref amK, .ref amO, .ref amD, .int mCool, .int mReadAt, .int mReadDays, .int mReadLin, .ref amRS, .ref amRH, .ref amRK, .ref amRO, .ref amRD, .ref amDN, .ref amSN, .int mDayNow, .int mLast, .int mTears, .int mWrong, .ref amTF, .ref amTFor, .ref amWB, .int mRdn, .ref amRdL, .ref amRdE, .ref amRdD, .ref amSz, .ref amLane, .ref amSh, .ref amHands, .int mTrace])), (amSz, .inl (cI, 4, .inl (upd mSz k.toNatClampNeg n))), (amLane, .inl (cI, 4, .inl (upd mLane k.toNatClampNeg lane))), (amSh, .inl (cI, 240, .inl mSh))]) hC 2 0 rfl rfl (by exact nw_ok c_4) rfl dX8_sheet_61 rfl ?_
          refine g_iconst (v := 0) hC dX8_sheet_62 (by decide) rfl ?_
          refine g_istore (lv' := [(4, .int (0 : Int32)), (0, .ref aMO), (1, .int k), (2, .int lane), (3, .int n)]) hC dX8_sheet_63 (by decide) rfl rfl ?_
          refine g_sub [1, 2, 4, 0] rfl ?_
          exact l_X8_sheet_65 D cI aMO mFault amS mDays amH mLin amK amO amD mCool mReadAt mReadDays mReadLin amRS amRH amRK amRO amRD amDN amSN mDayNow mLast mTears mWrong amTF amTFor amWB mRdn amRdL amRdE amRdD amSz amLane amSh amHands mTrace mSz mLane mSh k lane n mFault (upd mSz k.toNatClampNeg n) (upd mLane k.toNatClampNeg lane)  hC hX ((n.toInt - (0 : Int32).toInt).toNat + 1) (0 : Int32) mSh (Nat.lt_succ_self _) (by decide) (by exact nw_ok c_4) (by exact Int.le_trans (le_ti c_28) (by decide)) hres
        · rw [if_neg c_39] at hres
          refine g_aload_n hC dX8_sheet_42 rfl 0 rfl rfl ?_
          refine g_iconst (v := 4) hC dX8_sheet_43 (by decide) rfl ?_
          refine g_callV (ws' := [(aMO, .inr (8, [.int ((m_X8_failed (4 : Int32)).2), .ref amS, .int mDays, .ref amH, .int mLin, .ref amK, .ref amO, .ref amD, .int mCool, .int mReadAt, .int mReadDays, .int mReadLin, .ref amRS, .ref amRH, .ref amRK, .ref amRO, .ref amRD, .ref amDN, .ref amSN, .int mDayNow, .int mLast, .int mTears, .int mWrong, .ref amTF, .ref amTFor, .ref amWB, .int mRdn, .ref amRdL, .ref amRdE, .ref amRdD, .ref amSz, .ref amLane, .ref amSh, .ref amHands, .int mTrace])), (amSz, .inl (cI, 4, .inl mSz)), (amLane, .inl (cI, 4, .inl mLane)), (amSh, .inl (cI, 240, .inl mSh))]) (st' := [.int ((m_X8_failed (4 : Int32)).1)]) (nw := 4) (n1 := 1) hC gX8_sheet_X8_failed hdV_yX8_failed 0 rfl rfl (As := [.int (4 : Int32)]) (rest := []) (c_X8_failed D cI aMO mFault amS mDays amH mLin amK amO amD mCool mReadAt mReadDays mReadLin amRS amRH amRK amRO amRD amDN amSN mDayNow mLast mTears mWrong amTF amTFor amWB mRdn amRdL amRdE amRdD amSz amLane amSh amHands mTrace (4 : Int32)) rfl ⟨by decide, by decide⟩ rfl [0] [1, 2, 3] [3, 0, 1, 2] [0] rfl rfl rfl rfl (by decide) rfl rfl (Nat.le_of_ble_eq_true rfl) dX8_sheet_44 rfl rfl ?_
          subst hres
          exact g_iret hC hX rfl dX8_sheet_47 rfl rfl
      · rw [if_neg c_28] at hres
        refine g_aload_n hC dX8_sheet_31 rfl 0 rfl rfl ?_
        refine g_bipush (v := -2) hC dX8_sheet_32 (by decide) rfl ?_
        refine g_callV (ws' := [(aMO, .inr (8, [.int ((m_X8_refused (-2 : Int32)).2), .ref amS, .int mDays, .ref amH, .int mLin, .ref amK, .ref amO, .ref amD, .int mCool, .int mReadAt, .int mReadDays, .int mReadLin, .ref amRS, .ref amRH, .ref amRK, .ref amRO, .ref amRD, .ref amDN, .ref amSN, .int mDayNow, .int mLast, .int mTears, .int mWrong, .ref amTF, .ref amTFor, .ref amWB, .int mRdn, .ref amRdL, .ref amRdE, .ref amRdD, .ref amSz, .ref amLane, .ref amSh, .ref amHands, .int mTrace])), (amSz, .inl (cI, 4, .inl mSz)), (amLane, .inl (cI, 4, .inl mLane)), (amSh, .inl (cI, 240, .inl mSh))]) (st' := [.int ((m_X8_refused (-2 : Int32)).1)]) (nw := 4) (n1 := 1) hC gX8_sheet_X8_refused hdV_yX8_refused 0 rfl rfl (As := [.int (-2 : Int32)]) (rest := []) (c_X8_refused D cI aMO mFault amS mDays amH mLin amK amO amD mCool mReadAt mReadDays mReadLin amRS amRH amRK amRO amRD amDN amSN mDayNow mLast mTears mWrong amTF amTFor amWB mRdn amRdL amRdE amRdD amSz amLane amSh amHands mTrace (-2 : Int32)) rfl ⟨by decide, by decide⟩ rfl [0] [1, 2, 3] [3, 0, 1, 2] [0] rfl rfl rfl rfl (by decide) rfl rfl (Nat.le_of_ble_eq_true rfl) dX8_sheet_34 rfl rfl ?_
        subst hres
        exact g_iret hC hX rfl dX8_sheet_37 rfl rfl
  · rw [if_neg c_4] at hres
    refine g_aload_n hC dX8_sheet_7 rfl 0 rfl rfl ?_
    refine g_iconst (v := -1) hC dX8_sheet_8 (by decide) rfl ?_
    refine g_callV (ws' := [(aMO, .inr (8, [.int ((m_X8_refused (-1 : Int32)).2), .ref amS, .int mDays, .ref amH, .int mLin, .ref amK, .ref amO, .ref amD, .int mCool, .int mReadAt, .int mReadDays, .int mReadLin, .ref amRS, .ref amRH, .ref amRK, .ref amRO, .ref amRD, .ref amDN, .ref amSN, .int mDayNow, .int mLast, .int mTears, .int mWrong, .ref amTF, .ref amTFor, .ref amWB, .int mRdn, .ref amRdL, .ref amRdE, .ref amRdD, .ref amSz, .ref amLane, .ref amSh, .ref amHands, .int mTrace])), (amSz, .inl (cI, 4, .inl mSz)), (amLane, .inl (cI, 4, .inl mLane)), (amSh, .inl (cI, 240, .inl mSh))]) (st' := [.int ((m_X8_refused (-1 : Int32)).1)]) (nw := 4) (n1 := 1) hC gX8_sheet_X8_refused hdV_yX8_refused 0 rfl rfl (As := [.int (-1 : Int32)]) (rest := []) (c_X8_refused D cI aMO mFault amS mDays amH mLin amK amO amD mCool mReadAt mReadDays mReadLin amRS amRH amRK amRO amRD amDN amSN mDayNow mLast mTears mWrong amTF amTFor amWB mRdn amRdL amRdE amRdD amSz amLane amSh amHands mTrace (-1 : Int32)) rfl ⟨by decide, by decide⟩ rfl [0] [1, 2, 3] [3, 0, 1, 2] [0] rfl rfl rfl rfl (by decide) rfl rfl (Nat.le_of_ble_eq_true rfl) dX8_sheet_9 rfl rfl ?_
    subst hres
    exact g_iret hC hX rfl dX8_sheet_12 rfl rfl
theorem iw_X8_put_RX8 : ∀ w ∈ wsX80, w ∈ wsX8_put := fun _ h => List.mem_cons_of_mem _ (List.mem_append_right _ (h))
def m_X8_put (mSz : Nat → Int32) (mLane : Nat → Int32) (mSh : Nat → Int32) (k : Int32) (i : Int32) (v : Int32) : (Int32 × Int32 × (Nat → Int32)) := (if (m_X8_noSheet k) = 0 then (if (m_X8_noCell mSz k i) ≤ 0 then (if (mLane k.toNatClampNeg) = 0 then ((m_X8_refused (1 : Int32)).1, (m_X8_refused (1 : Int32)).2, (upd mSh (((60 : Int32) * k) + i).toNatClampNeg v.toInt8.toInt32)) else ((m_X8_refused (1 : Int32)).1, (m_X8_refused (1 : Int32)).2, (upd mSh (((60 : Int32) * k) + i).toNatClampNeg (if (mLane k.toNatClampNeg) = (1 : Int32) then v.toInt16.toInt32 else v)))) else ((m_X8_failed (m_X8_noCell mSz k i)).1, (m_X8_failed (m_X8_noCell mSz k i)).2, mSh)) else ((m_X8_refused (-1 : Int32)).1, (m_X8_refused (-1 : Int32)).2, mSh))
set_option maxRecDepth 100000 in
set_option maxHeartbeats 4000000 in
theorem c_X8_put (D : va_G) (cI : ClassId) (aMO : Nat) (mFault : Int32) (amS : Nat) (mDays : Int32) (amH : Nat) (mLin : Int32) (amK : Nat) (amO : Nat) (amD : Nat) (mCool : Int32) (mReadAt : Int32) (mReadDays : Int32) (mReadLin : Int32) (amRS : Nat) (amRH : Nat) (amRK : Nat) (amRO : Nat) (amRD : Nat) (amDN : Nat) (amSN : Nat) (mDayNow : Int32) (mLast : Int32) (mTears : Int32) (mWrong : Int32) (amTF : Nat) (amTFor : Nat) (amWB : Nat) (mRdn : Int32) (amRdL : Nat) (amRdE : Nat) (amRdD : Nat) (amSz : Nat) (amLane : Nat) (amSh : Nat) (amHands : Nat) (mTrace : Int32) (mSz : Nat → Int32) (mLane : Nat → Int32) (mSh : Nat → Int32) (k : Int32) (i : Int32) (v : Int32) (hSz : ∀ j : Nat, (mSz j).toInt ≤ 60) : MC yX8_put wsX8_put ({ frames := 2, cells := 0, slots := 0, locals := 47 } : Room) D [(cI, .int)] [.ref aMO, .int k, .int i, .int v] [(aMO, .inr (8, [.int mFault, .ref amS, .int mDays, .ref amH, .int mLin, .ref amK, .ref amO, .ref amD, .int mCool, .int mReadAt, .int mReadDays, .int mReadLin, .ref amRS, .ref amRH, .ref amRK, .ref amRO, .ref amRD, .ref amDN, .ref amSN, .int mDayNow, .int mLast, .int mTears, .int mWrong, .ref amTF, .ref amTFor, .ref amWB, .int mRdn, .ref amRdL, .ref amRdE, .ref amRdD, .ref amSz, .ref amLane, .ref amSh, .ref amHands, .int mTrace])), (amSz, .inl (cI, 4, .inl mSz)), (amLane, .inl (cI, 4, .inl mLane)), (amSh, .inl (cI, 240, .inl mSh))] (some (.int ((m_X8_put mSz mLane mSh k i v).1))) [(aMO, .inr (8, [.int ((m_X8_put mSz mLane mSh k i v).2.1), .ref amS, .int mDays, .ref amH, .int mLin, .ref amK, .ref amO, .ref amD, .int mCool, .int mReadAt, .int mReadDays, .int mReadLin, .ref amRS, .ref amRH, .ref amRK, .ref amRO, .ref amRD, .ref amDN, .ref amSN, .int mDayNow, .int mLast, .int mTears, .int mWrong, .ref amTF, .ref amTFor, .ref amWB, .int mRdn, .ref amRdL, .ref amRdE, .ref amRdD, .ref amSz, .ref amLane, .ref amSh, .ref amHands, .int mTrace])), (amSz, .inl (cI, 4, .inl mSz)), (amLane, .inl (cI, 4, .inl mLane)), (amSh, .inl (cI, 240, .inl ((m_X8_put mSz mLane mSh k i v).2.2)))] := by
  refine g_entry (by decide) rfl rfl rfl rfl (Nat.le_of_ble_eq_true rfl) (lv := [(0, .ref aMO), (1, .int k), (2, .int i), (3, .int v)]) rfl ?_
  intro X hC hX
  obtain ⟨res, hres⟩ : ∃ z, z = (m_X8_put mSz mLane mSh k i v) := ⟨_, rfl⟩
  rw [← hres] at hX
  rw [m_X8_put] at hres
  refine g_iload_n hC dX8_put_0 rfl 1 rfl rfl ?_
  refine g_callS (ws' := [(aMO, .inr (8, [.int mFault, .ref amS, .int mDays, .ref amH, .int mLin, .ref amK, .ref amO, .ref amD, .int mCool, .int mReadAt, .int mReadDays, .int mReadLin, .ref amRS, .ref amRH, .ref amRK, .ref amRO, .ref amRD, .ref amDN, .ref amSN, .int mDayNow, .int mLast, .int mTears, .int mWrong, .ref amTF, .ref amTFor, .ref amWB, .int mRdn, .ref amRdL, .ref amRdE, .ref amRdD, .ref amSz, .ref amLane, .ref amSh, .ref amHands, .int mTrace])), (amSz, .inl (cI, 4, .inl mSz)), (amLane, .inl (cI, 4, .inl mLane)), (amSh, .inl (cI, 240, .inl mSh))]) (st' := [.int (m_X8_noSheet k)]) (nw := 4) (n1 := 0) hC gX8_put_X8_noSheet hdS_yX8_noSheet (As := [.int k]) (rest := []) (c_X8_noSheet D cI k) rfl ⟨by decide, by decide⟩ rfl [] [0, 1, 2, 3] [0, 1, 2, 3] [0] rfl rfl rfl rfl (by decide) rfl rfl (Nat.le_of_ble_eq_true rfl) dX8_put_1 rfl rfl ?_
  refine g_if_eq (tgt := 13) hC dX8_put_4 (by decide) rfl (fun c_4 => ?_) (fun c_4 => ?_)
  · rw [if_pos c_4] at hres
    refine g_aload_n hC dX8_put_13 rfl 0 rfl rfl ?_
    refine g_iload_n hC dX8_put_14 rfl 1 rfl rfl ?_
    refine g_iload_n hC dX8_put_15 rfl 2 rfl rfl ?_
    refine g_callV (ws' := [(aMO, .inr (8, [.int mFault, .ref amS, .int mDays, .ref amH, .int mLin, .ref amK, .ref amO, .ref amD, .int mCool, .int mReadAt, .int mReadDays, .int mReadLin, .ref amRS, .ref amRH, .ref amRK, .ref amRO, .ref amRD, .ref amDN, .ref amSN, .int mDayNow, .int mLast, .int mTears, .int mWrong, .ref amTF, .ref amTFor, .ref amWB, .int mRdn, .ref amRdL, .ref amRdE, .ref amRdD, .ref amSz, .ref amLane, .ref amSh, .ref amHands, .int mTrace])), (amSz, .inl (cI, 4, .inl mSz)), (amLane, .inl (cI, 4, .inl mLane)), (amSh, .inl (cI, 240, .inl mSh))]) (st' := [.int (m_X8_noCell mSz k i)]) (nw := 4) (n1 := 2) hC gX8_put_X8_noCell hdV_yX8_noCell 0 rfl rfl (As := [.int k, .int i]) (rest := []) (c_X8_noCell D cI aMO mFault amS mDays amH mLin amK amO amD mCool mReadAt mReadDays mReadLin amRS amRH amRK amRO amRD amDN amSN mDayNow mLast mTears mWrong amTF amTFor amWB mRdn amRdL amRdE amRdD amSz amLane amSh amHands mTrace mSz k i (by exact nw_ok c_4)) rfl ⟨by decide, by decide⟩ rfl [0, 1] [2, 3] [2, 3, 0, 1] [0] rfl rfl rfl rfl (by decide) rfl rfl (Nat.le_of_ble_eq_true rfl) dX8_put_16 rfl rfl ?_
    refine g_if_le (tgt := 33) hC dX8_put_19 (by decide) rfl (fun c_19 => ?_) (fun c_19 => ?_)
    · rw [if_pos c_19] at hres
      refine g_aload_n hC dX8_put_33 rfl 0 rfl rfl ?_
      refine g_get hC iw_X8_put_RX8 0 rfl rfl 32 (by decide) (List.mem_of_getElem? (i := 1) rfl) rfl rfl dX8_put_34 rfl ?_
      refine g_bipush (v := 60) hC dX8_put_37 (by decide) rfl ?_
      refine g_iload_n hC dX8_put_39 rfl 1 rfl rfl ?_
      refine g_imul hC dX8_put_40 rfl ?_
      refine g_iload_n hC dX8_put_41 rfl 2 rfl rfl ?_
      refine g_iadd hC dX8_put_42 rfl ?_
      refine g_aload_n hC dX8_put_43 rfl 0 rfl rfl ?_
      refine g_get hC iw_X8_put_RX8 0 rfl rfl 31 (by decide) (List.mem_of_getElem? (i := 2) rfl) rfl rfl dX8_put_44 rfl ?_
      refine g_iload_n hC dX8_put_47 rfl 1 rfl rfl ?_
      refine g_iald hC 2 0 rfl rfl (by exact nw_ok c_4) dX8_put_48 rfl ?_
      refine g_if_ne (tgt := 57) hC dX8_put_49 (by decide) rfl (fun c_49 => ?_) (fun c_49 => ?_)
      · rw [if_neg c_49] at hres
        refine g_aload_n hC dX8_put_57 rfl 0 rfl rfl ?_
        refine g_get hC iw_X8_put_RX8 0 rfl rfl 31 (by decide) (List.mem_of_getElem? (i := 2) rfl) rfl rfl dX8_put_58 rfl ?_
        refine g_iload_n hC dX8_put_61 rfl 1 rfl rfl ?_
        refine g_iald hC 2 0 rfl rfl (by exact nw_ok c_4) dX8_put_62 rfl ?_
        refine g_iconst (v := 1) hC dX8_put_63 (by decide) rfl ?_
        have K_64 : ∀ vK : Int32, vK = (if (mLane k.toNatClampNeg) = (1 : Int32) then v.toInt16.toInt32 else v) → G X D 4 [(aMO, .inr (8, [.int mFault, .ref amS, .int mDays, .ref amH, .int mLin, .ref amK, .ref amO, .ref amD, .int mCool, .int mReadAt, .int mReadDays, .int mReadLin, .ref amRS, .ref amRH, .ref amRK, .ref amRO, .ref amRD, .ref amDN, .ref amSN, .int mDayNow, .int mLast, .int mTears, .int mWrong, .ref amTF, .ref amTFor, .ref amWB, .int mRdn, .ref amRdL, .ref amRdE, .ref amRdD, .ref amSz, .ref amLane, .ref amSh, .ref amHands, .int mTrace])), (amSz, .inl (cI, 4, .inl mSz)), (amLane, .inl (cI, 4, .inl mLane)), (amSh, .inl (cI, 240, .inl mSh))] [(0, .ref aMO), (1, .int k), (2, .int i), (3, .int v)] 73 (.int vK :: [.int (((60 : Int32) * k) + i), .ref amSh]) := by
          intro vK hvK
          subst hvK
          refine g_iast (ws' := [(aMO, .inr (8, [.int mFault, .ref amS, .int mDays, .ref amH, .int mLin, .ref amK, .ref amO, .ref amD, .int mCool, .int mReadAt, .int mReadDays, .int mReadLin, .ref amRS, .ref amRH, .ref amRK, .ref amRO, .ref amRD, .ref amDN, .ref amSN, .int mDayNow, .int mLast, .int mTears, .int mWrong, .ref amTF, .ref amTFor, .ref amWB, .int mRdn, .ref amRdL, .ref amRdE, .ref amRdD, .ref amSz, .ref amLane, .ref amSh, .ref amHands, .int mTrace])), (amSz, .inl (cI, 4, .inl mSz)), (amLane, .inl (cI, 4, .inl mLane)), (amSh, .inl (cI, 240, .inl (upd mSh (((60 : Int32) * k) + i).toNatClampNeg (if (mLane k.toNatClampNeg) = (1 : Int32) then v.toInt16.toInt32 else v))))]) hC 3 0 rfl rfl (by exact ix1 (nw_ok c_4) (nc_ok c_19).1 (Int.lt_of_lt_of_le (nc_ok c_19).2 (hSz _))) rfl dX8_put_73 rfl ?_
          refine g_aload_n hC dX8_put_74 rfl 0 rfl rfl ?_
          refine g_iconst (v := 1) hC dX8_put_75 (by decide) rfl ?_
          refine g_callV (ws' := [(aMO, .inr (8, [.int ((m_X8_refused (1 : Int32)).2), .ref amS, .int mDays, .ref amH, .int mLin, .ref amK, .ref amO, .ref amD, .int mCool, .int mReadAt, .int mReadDays, .int mReadLin, .ref amRS, .ref amRH, .ref amRK, .ref amRO, .ref amRD, .ref amDN, .ref amSN, .int mDayNow, .int mLast, .int mTears, .int mWrong, .ref amTF, .ref amTFor, .ref amWB, .int mRdn, .ref amRdL, .ref amRdE, .ref amRdD, .ref amSz, .ref amLane, .ref amSh, .ref amHands, .int mTrace])), (amSz, .inl (cI, 4, .inl mSz)), (amLane, .inl (cI, 4, .inl mLane)), (amSh, .inl (cI, 240, .inl (upd mSh (((60 : Int32) * k) + i).toNatClampNeg (if (mLane k.toNatClampNeg) = (1 : Int32) then v.toInt16.toInt32 else v))))]) (st' := [.int ((m_X8_refused (1 : Int32)).1)]) (nw := 4) (n1 := 1) hC gX8_put_X8_refused hdV_yX8_refused 0 rfl rfl (As := [.int (1 : Int32)]) (rest := []) (c_X8_refused D cI aMO mFault amS mDays amH mLin amK amO amD mCool mReadAt mReadDays mReadLin amRS amRH amRK amRO amRD amDN amSN mDayNow mLast mTears mWrong amTF amTFor amWB mRdn amRdL amRdE amRdD amSz amLane amSh amHands mTrace (1 : Int32)) rfl ⟨by decide, by decide⟩ rfl [0] [1, 2, 3] [3, 0, 1, 2] [0] rfl rfl rfl rfl (by decide) rfl rfl (Nat.le_of_ble_eq_true rfl) dX8_put_76 rfl rfl ?_
          subst hres
          exact g_iret hC hX rfl dX8_put_79 rfl rfl
        refine g_icmp_ne (tgt := 72) hC dX8_put_64 (by decide) rfl (fun c_64 => ?_) (fun c_64 => ?_)
        · refine g_iload_n hC dX8_put_72 rfl 3 rfl rfl ?_
          exact K_64 _ (if_neg c_64).symm
        · refine g_iload_n hC dX8_put_67 rfl 3 rfl rfl ?_
          refine g_i2s hC dX8_put_68 rfl ?_
          refine g_goto (tgt := 73) hC dX8_put_69 (by decide) ?_
          exact K_64 _ (if_pos c_64).symm
      · rw [if_pos c_49] at hres
        refine g_iload_n hC dX8_put_52 rfl 3 rfl rfl ?_
        refine g_i2b hC dX8_put_53 rfl ?_
        refine g_goto (tgt := 73) hC dX8_put_54 (by decide) ?_
        refine g_iast (ws' := [(aMO, .inr (8, [.int mFault, .ref amS, .int mDays, .ref amH, .int mLin, .ref amK, .ref amO, .ref amD, .int mCool, .int mReadAt, .int mReadDays, .int mReadLin, .ref amRS, .ref amRH, .ref amRK, .ref amRO, .ref amRD, .ref amDN, .ref amSN, .int mDayNow, .int mLast, .int mTears, .int mWrong, .ref amTF, .ref amTFor, .ref amWB, .int mRdn, .ref amRdL, .ref amRdE, .ref amRdD, .ref amSz, .ref amLane, .ref amSh, .ref amHands, .int mTrace])), (amSz, .inl (cI, 4, .inl mSz)), (amLane, .inl (cI, 4, .inl mLane)), (amSh, .inl (cI, 240, .inl (upd mSh (((60 : Int32) * k) + i).toNatClampNeg v.toInt8.toInt32)))]) hC 3 0 rfl rfl (by exact ix1 (nw_ok c_4) (nc_ok c_19).1 (Int.lt_of_lt_of_le (nc_ok c_19).2 (hSz _))) rfl dX8_put_73 rfl ?_
        refine g_aload_n hC dX8_put_74 rfl 0 rfl rfl ?_
        refine g_iconst (v := 1) hC dX8_put_75 (by decide) rfl ?_
        refine g_callV (ws' := [(aMO, .inr (8, [.int ((m_X8_refused (1 : Int32)).2), .ref amS, .int mDays, .ref amH, .int mLin, .ref amK, .ref amO, .ref amD, .int mCool, .int mReadAt, .int mReadDays, .int mReadLin, .ref amRS, .ref amRH, .ref amRK, .ref amRO, .ref amRD, .ref amDN, .ref amSN, .int mDayNow, .int mLast, .int mTears, .int mWrong, .ref amTF, .ref amTFor, .ref amWB, .int mRdn, .ref amRdL, .ref amRdE, .ref amRdD, .ref amSz, .ref amLane, .ref amSh, .ref amHands, .int mTrace])), (amSz, .inl (cI, 4, .inl mSz)), (amLane, .inl (cI, 4, .inl mLane)), (amSh, .inl (cI, 240, .inl (upd mSh (((60 : Int32) * k) + i).toNatClampNeg v.toInt8.toInt32)))]) (st' := [.int ((m_X8_refused (1 : Int32)).1)]) (nw := 4) (n1 := 1) hC gX8_put_X8_refused hdV_yX8_refused 0 rfl rfl (As := [.int (1 : Int32)]) (rest := []) (c_X8_refused D cI aMO mFault amS mDays amH mLin amK amO amD mCool mReadAt mReadDays mReadLin amRS amRH amRK amRO amRD amDN amSN mDayNow mLast mTears mWrong amTF amTFor amWB mRdn amRdL amRdE amRdD amSz amLane amSh amHands mTrace (1 : Int32)) rfl ⟨by decide, by decide⟩ rfl [0] [1, 2, 3] [3, 0, 1, 2] [0] rfl rfl rfl rfl (by decide) rfl rfl (Nat.le_of_ble_eq_true rfl) dX8_put_76 rfl rfl ?_
        subst hres
        exact g_iret hC hX rfl dX8_put_79 rfl rfl
    · rw [if_neg c_19] at hres
      refine g_aload_n hC dX8_put_22 rfl 0 rfl rfl ?_
      refine g_aload_n hC dX8_put_23 rfl 0 rfl rfl ?_
      refine g_iload_n hC dX8_put_24 rfl 1 rfl rfl ?_
      refine g_iload_n hC dX8_put_25 rfl 2 rfl rfl ?_
      refine g_callV (ws' := [(aMO, .inr (8, [.int mFault, .ref amS, .int mDays, .ref amH, .int mLin, .ref amK, .ref amO, .ref amD, .int mCool, .int mReadAt, .int mReadDays, .int mReadLin, .ref amRS, .ref amRH, .ref amRK, .ref amRO, .ref amRD, .ref amDN, .ref amSN, .int mDayNow, .int mLast, .int mTears, .int mWrong, .ref amTF, .ref amTFor, .ref amWB, .int mRdn, .ref amRdL, .ref amRdE, .ref amRdD, .ref amSz, .ref amLane, .ref amSh, .ref amHands, .int mTrace])), (amSz, .inl (cI, 4, .inl mSz)), (amLane, .inl (cI, 4, .inl mLane)), (amSh, .inl (cI, 240, .inl mSh))]) (st' := [.int (m_X8_noCell mSz k i), .ref aMO]) (nw := 4) (n1 := 2) hC gX8_put_X8_noCell hdV_yX8_noCell 0 rfl rfl (As := [.int k, .int i]) (rest := [.ref aMO]) (c_X8_noCell D cI aMO mFault amS mDays amH mLin amK amO amD mCool mReadAt mReadDays mReadLin amRS amRH amRK amRO amRD amDN amSN mDayNow mLast mTears mWrong amTF amTFor amWB mRdn amRdL amRdE amRdD amSz amLane amSh amHands mTrace mSz k i (by exact nw_ok c_4)) rfl ⟨by decide, by decide⟩ rfl [0, 1] [2, 3] [2, 3, 0, 1] [0] rfl rfl rfl rfl (by decide) rfl rfl (Nat.le_of_ble_eq_true rfl) dX8_put_26 rfl rfl ?_
      refine g_callV (ws' := [(aMO, .inr (8, [.int ((m_X8_failed (m_X8_noCell mSz k i)).2), .ref amS, .int mDays, .ref amH, .int mLin, .ref amK, .ref amO, .ref amD, .int mCool, .int mReadAt, .int mReadDays, .int mReadLin, .ref amRS, .ref amRH, .ref amRK, .ref amRO, .ref amRD, .ref amDN, .ref amSN, .int mDayNow, .int mLast, .int mTears, .int mWrong, .ref amTF, .ref amTFor, .ref amWB, .int mRdn, .ref amRdL, .ref amRdE, .ref amRdD, .ref amSz, .ref amLane, .ref amSh, .ref amHands, .int mTrace])), (amSz, .inl (cI, 4, .inl mSz)), (amLane, .inl (cI, 4, .inl mLane)), (amSh, .inl (cI, 240, .inl mSh))]) (st' := [.int ((m_X8_failed (m_X8_noCell mSz k i)).1)]) (nw := 4) (n1 := 1) hC gX8_put_X8_failed hdV_yX8_failed 0 rfl rfl (As := [.int (m_X8_noCell mSz k i)]) (rest := []) (c_X8_failed D cI aMO mFault amS mDays amH mLin amK amO amD mCool mReadAt mReadDays mReadLin amRS amRH amRK amRO amRD amDN amSN mDayNow mLast mTears mWrong amTF amTFor amWB mRdn amRdL amRdE amRdD amSz amLane amSh amHands mTrace (m_X8_noCell mSz k i)) rfl ⟨by decide, by decide⟩ rfl [0] [1, 2, 3] [3, 0, 1, 2] [0] rfl rfl rfl rfl (by decide) rfl rfl (Nat.le_of_ble_eq_true rfl) dX8_put_29 rfl rfl ?_
      subst hres
      exact g_iret hC hX rfl dX8_put_32 rfl rfl
  · rw [if_neg c_4] at hres
    refine g_aload_n hC dX8_put_7 rfl 0 rfl rfl ?_
    refine g_iconst (v := -1) hC dX8_put_8 (by decide) rfl ?_
    refine g_callV (ws' := [(aMO, .inr (8, [.int ((m_X8_refused (-1 : Int32)).2), .ref amS, .int mDays, .ref amH, .int mLin, .ref amK, .ref amO, .ref amD, .int mCool, .int mReadAt, .int mReadDays, .int mReadLin, .ref amRS, .ref amRH, .ref amRK, .ref amRO, .ref amRD, .ref amDN, .ref amSN, .int mDayNow, .int mLast, .int mTears, .int mWrong, .ref amTF, .ref amTFor, .ref amWB, .int mRdn, .ref amRdL, .ref amRdE, .ref amRdD, .ref amSz, .ref amLane, .ref amSh, .ref amHands, .int mTrace])), (amSz, .inl (cI, 4, .inl mSz)), (amLane, .inl (cI, 4, .inl mLane)), (amSh, .inl (cI, 240, .inl mSh))]) (st' := [.int ((m_X8_refused (-1 : Int32)).1)]) (nw := 4) (n1 := 1) hC gX8_put_X8_refused hdV_yX8_refused 0 rfl rfl (As := [.int (-1 : Int32)]) (rest := []) (c_X8_refused D cI aMO mFault amS mDays amH mLin amK amO amD mCool mReadAt mReadDays mReadLin amRS amRH amRK amRO amRD amDN amSN mDayNow mLast mTears mWrong amTF amTFor amWB mRdn amRdL amRdE amRdD amSz amLane amSh amHands mTrace (-1 : Int32)) rfl ⟨by decide, by decide⟩ rfl [0] [1, 2, 3] [3, 0, 1, 2] [0] rfl rfl rfl rfl (by decide) rfl rfl (Nat.le_of_ble_eq_true rfl) dX8_put_9 rfl rfl ?_
    subst hres
    exact g_iret hC hX rfl dX8_put_12 rfl rfl
theorem iw_X8_cell_RX8 : ∀ w ∈ wsX80, w ∈ wsX8_cell := fun _ h => List.mem_cons_of_mem _ (List.mem_append_right _ (h))
def m_X8_cell (mSz : Nat → Int32) (mLane : Nat → Int32) (mSh : Nat → Int32) (k : Int32) (i : Int32) (lane : Int32) : (Int64 × Int32) := (if (m_X8_noSheet k) = 0 then (if (m_X8_in lane.toInt64 (0 : Int64) (2 : Int64)) = 0 then (m_X8_lost, (0 : Int32)) else (if (mSz k.toNatClampNeg) < 0 then (if (m_X8_noCell mSz k i) ≤ 0 then ((mSh (((60 : Int32) * k) + i).toNatClampNeg).toInt64, (0 : Int32)) else ((m_X8_failedLong (m_X8_noCell mSz k i)).1, (m_X8_failedLong (m_X8_noCell mSz k i)).2)) else (if (mLane k.toNatClampNeg) = lane then (if (m_X8_noCell mSz k i) ≤ 0 then ((mSh (((60 : Int32) * k) + i).toNatClampNeg).toInt64, (0 : Int32)) else ((m_X8_failedLong (m_X8_noCell mSz k i)).1, (m_X8_failedLong (m_X8_noCell mSz k i)).2)) else ((m_X8_failedLong (2 : Int32)).1, (m_X8_failedLong (2 : Int32)).2)))) else (m_X8_lost, (0 : Int32)))
set_option maxRecDepth 100000 in
set_option maxHeartbeats 4000000 in
theorem c_X8_cell (D : va_G) (cI : ClassId) (aMO : Nat) (mFault : Int32) (amS : Nat) (mDays : Int32) (amH : Nat) (mLin : Int32) (amK : Nat) (amO : Nat) (amD : Nat) (mCool : Int32) (mReadAt : Int32) (mReadDays : Int32) (mReadLin : Int32) (amRS : Nat) (amRH : Nat) (amRK : Nat) (amRO : Nat) (amRD : Nat) (amDN : Nat) (amSN : Nat) (mDayNow : Int32) (mLast : Int32) (mTears : Int32) (mWrong : Int32) (amTF : Nat) (amTFor : Nat) (amWB : Nat) (mRdn : Int32) (amRdL : Nat) (amRdE : Nat) (amRdD : Nat) (amSz : Nat) (amLane : Nat) (amSh : Nat) (amHands : Nat) (mTrace : Int32) (mSz : Nat → Int32) (mLane : Nat → Int32) (mSh : Nat → Int32) (k : Int32) (i : Int32) (lane : Int32) (hSz : ∀ j : Nat, (mSz j).toInt ≤ 60) : MC yX8_cell wsX8_cell ({ frames := 2, cells := 0, slots := 0, locals := 47 } : Room) D [(cI, .int)] [.ref aMO, .int k, .int i, .int lane] [(aMO, .inr (8, [.int mFault, .ref amS, .int mDays, .ref amH, .int mLin, .ref amK, .ref amO, .ref amD, .int mCool, .int mReadAt, .int mReadDays, .int mReadLin, .ref amRS, .ref amRH, .ref amRK, .ref amRO, .ref amRD, .ref amDN, .ref amSN, .int mDayNow, .int mLast, .int mTears, .int mWrong, .ref amTF, .ref amTFor, .ref amWB, .int mRdn, .ref amRdL, .ref amRdE, .ref amRdD, .ref amSz, .ref amLane, .ref amSh, .ref amHands, .int mTrace])), (amSz, .inl (cI, 4, .inl mSz)), (amLane, .inl (cI, 4, .inl mLane)), (amSh, .inl (cI, 240, .inl mSh))] (some (.long ((m_X8_cell mSz mLane mSh k i lane).1))) [(aMO, .inr (8, [.int ((m_X8_cell mSz mLane mSh k i lane).2), .ref amS, .int mDays, .ref amH, .int mLin, .ref amK, .ref amO, .ref amD, .int mCool, .int mReadAt, .int mReadDays, .int mReadLin, .ref amRS, .ref amRH, .ref amRK, .ref amRO, .ref amRD, .ref amDN, .ref amSN, .int mDayNow, .int mLast, .int mTears, .int mWrong, .ref amTF, .ref amTFor, .ref amWB, .int mRdn, .ref amRdL, .ref amRdE, .ref amRdD, .ref amSz, .ref amLane, .ref amSh, .ref amHands, .int mTrace])), (amSz, .inl (cI, 4, .inl mSz)), (amLane, .inl (cI, 4, .inl mLane)), (amSh, .inl (cI, 240, .inl mSh))] := by
  refine g_entry (by decide) rfl rfl rfl rfl (Nat.le_of_ble_eq_true rfl) (lv := [(0, .ref aMO), (1, .int k), (2, .int i), (3, .int lane)]) rfl ?_
  intro X hC hX
  obtain ⟨res, hres⟩ : ∃ z, z = (m_X8_cell mSz mLane mSh k i lane) := ⟨_, rfl⟩
  rw [← hres] at hX
  rw [m_X8_cell] at hres
  refine g_aload_n hC dX8_cell_0 rfl 0 rfl rfl ?_
  refine g_iconst (v := 0) hC dX8_cell_1 (by decide) rfl ?_
  refine g_put (ws' := [(aMO, .inr (8, [.int (0 : Int32), .ref amS, .int mDays, .ref amH, .int mLin, .ref amK, .ref amO, .ref amD, .int mCool, .int mReadAt, .int mReadDays, .int mReadLin, .ref amRS, .ref amRH, .ref amRK, .ref amRO, .ref amRD, .ref amDN, .ref amSN, .int mDayNow, .int mLast, .int mTears, .int mWrong, .ref amTF, .ref amTFor, .ref amWB, .int mRdn, .ref amRdL, .ref amRdE, .ref amRdD, .ref amSz, .ref amLane, .ref amSh, .ref amHands, .int mTrace])), (amSz, .inl (cI, 4, .inl mSz)), (amLane, .inl (cI, 4, .inl mLane)), (amSh, .inl (cI, 240, .inl mSh))]) hC iw_X8_cell_RX8 0 rfl rfl 0 (by decide) (List.mem_of_getElem? (i := 1) rfl) rfl tyX8 tyX8_ok nmX8 rfl rfl rfl (Nat.le_of_ble_eq_true rfl) rfl dX8_cell_2 rfl ?_
  refine g_iload_n hC dX8_cell_5 rfl 1 rfl rfl ?_
  refine g_callS (ws' := [(aMO, .inr (8, [.int (0 : Int32), .ref amS, .int mDays, .ref amH, .int mLin, .ref amK, .ref amO, .ref amD, .int mCool, .int mReadAt, .int mReadDays, .int mReadLin, .ref amRS, .ref amRH, .ref amRK, .ref amRO, .ref amRD, .ref amDN, .ref amSN, .int mDayNow, .int mLast, .int mTears, .int mWrong, .ref amTF, .ref amTFor, .ref amWB, .int mRdn, .ref amRdL, .ref amRdE, .ref amRdD, .ref amSz, .ref amLane, .ref amSh, .ref amHands, .int mTrace])), (amSz, .inl (cI, 4, .inl mSz)), (amLane, .inl (cI, 4, .inl mLane)), (amSh, .inl (cI, 240, .inl mSh))]) (st' := [.int (m_X8_noSheet k)]) (nw := 4) (n1 := 0) hC gX8_cell_X8_noSheet hdS_yX8_noSheet (As := [.int k]) (rest := []) (c_X8_noSheet D cI k) rfl ⟨by decide, by decide⟩ rfl [] [0, 1, 2, 3] [0, 1, 2, 3] [0] rfl rfl rfl rfl (by decide) rfl rfl (Nat.le_of_ble_eq_true rfl) dX8_cell_6 rfl rfl ?_
  refine g_if_ne (tgt := 24) hC dX8_cell_9 (by decide) rfl (fun c_9 => ?_) (fun c_9 => ?_)
  · rw [if_neg c_9] at hres
    refine g_callS (ws' := [(aMO, .inr (8, [.int (0 : Int32), .ref amS, .int mDays, .ref amH, .int mLin, .ref amK, .ref amO, .ref amD, .int mCool, .int mReadAt, .int mReadDays, .int mReadLin, .ref amRS, .ref amRH, .ref amRK, .ref amRO, .ref amRD, .ref amDN, .ref amSN, .int mDayNow, .int mLast, .int mTears, .int mWrong, .ref amTF, .ref amTFor, .ref amWB, .int mRdn, .ref amRdL, .ref amRdE, .ref amRdD, .ref amSz, .ref amLane, .ref amSh, .ref amHands, .int mTrace])), (amSz, .inl (cI, 4, .inl mSz)), (amLane, .inl (cI, 4, .inl mLane)), (amSh, .inl (cI, 240, .inl mSh))]) (st' := [.long m_X8_lost]) (nw := 4) (n1 := 0) hC gX8_cell_X8_lost hdS_yX8_lost (As := []) (rest := []) (c_X8_lost D cI ) rfl ⟨by decide, by decide⟩ rfl [] [0, 1, 2, 3] [0, 1, 2, 3] [0] rfl rfl rfl rfl (by decide) rfl rfl (Nat.le_of_ble_eq_true rfl) dX8_cell_24 rfl rfl ?_
    subst hres
    exact g_lret hC hX rfl dX8_cell_27 rfl rfl
  · rw [if_pos c_9] at hres
    refine g_iload_n hC dX8_cell_12 rfl 3 rfl rfl ?_
    refine g_i2l hC dX8_cell_13 rfl ?_
    refine g_lconst (v := 0) hC dX8_cell_14 (by decide) rfl ?_
    refine g_ldc2 (v := 2) hC (List.mem_of_getElem? (i := 2) rfl) dX8_cell_15 rfl ?_
    refine g_callS (ws' := [(aMO, .inr (8, [.int (0 : Int32), .ref amS, .int mDays, .ref amH, .int mLin, .ref amK, .ref amO, .ref amD, .int mCool, .int mReadAt, .int mReadDays, .int mReadLin, .ref amRS, .ref amRH, .ref amRK, .ref amRO, .ref amRD, .ref amDN, .ref amSN, .int mDayNow, .int mLast, .int mTears, .int mWrong, .ref amTF, .ref amTFor, .ref amWB, .int mRdn, .ref amRdL, .ref amRdE, .ref amRdD, .ref amSz, .ref amLane, .ref amSh, .ref amHands, .int mTrace])), (amSz, .inl (cI, 4, .inl mSz)), (amLane, .inl (cI, 4, .inl mLane)), (amSh, .inl (cI, 240, .inl mSh))]) (st' := [.int (m_X8_in lane.toInt64 (0 : Int64) (2 : Int64))]) (nw := 4) (n1 := 0) hC gX8_cell_X8_in hdS_yX8_in (As := [.long lane.toInt64, .long (0 : Int64), .long (2 : Int64)]) (rest := []) (c_X8_in D cI lane.toInt64 (0 : Int64) (2 : Int64)) rfl ⟨by decide, by decide⟩ rfl [] [0, 1, 2, 3] [0, 1, 2, 3] [0] rfl rfl rfl rfl (by decide) rfl rfl (Nat.le_of_ble_eq_true rfl) dX8_cell_18 rfl rfl ?_
    refine g_if_ne (tgt := 28) hC dX8_cell_21 (by decide) rfl (fun c_21 => ?_) (fun c_21 => ?_)
    · rw [if_neg c_21] at hres
      refine g_aload_n hC dX8_cell_28 rfl 0 rfl rfl ?_
      refine g_get hC iw_X8_cell_RX8 0 rfl rfl 30 (by decide) (List.mem_of_getElem? (i := 3) rfl) rfl rfl dX8_cell_29 rfl ?_
      refine g_iload_n hC dX8_cell_32 rfl 1 rfl rfl ?_
      refine g_iald hC 1 0 rfl rfl (by exact nw_ok c_9) dX8_cell_33 rfl ?_
      refine g_if_lt (tgt := 53) hC dX8_cell_34 (by decide) rfl (fun c_34 => ?_) (fun c_34 => ?_)
      · rw [if_pos c_34] at hres
        refine g_aload_n hC dX8_cell_53 rfl 0 rfl rfl ?_
        refine g_iload_n hC dX8_cell_54 rfl 1 rfl rfl ?_
        refine g_iload_n hC dX8_cell_55 rfl 2 rfl rfl ?_
        refine g_callV (ws' := [(aMO, .inr (8, [.int (0 : Int32), .ref amS, .int mDays, .ref amH, .int mLin, .ref amK, .ref amO, .ref amD, .int mCool, .int mReadAt, .int mReadDays, .int mReadLin, .ref amRS, .ref amRH, .ref amRK, .ref amRO, .ref amRD, .ref amDN, .ref amSN, .int mDayNow, .int mLast, .int mTears, .int mWrong, .ref amTF, .ref amTFor, .ref amWB, .int mRdn, .ref amRdL, .ref amRdE, .ref amRdD, .ref amSz, .ref amLane, .ref amSh, .ref amHands, .int mTrace])), (amSz, .inl (cI, 4, .inl mSz)), (amLane, .inl (cI, 4, .inl mLane)), (amSh, .inl (cI, 240, .inl mSh))]) (st' := [.int (m_X8_noCell mSz k i)]) (nw := 4) (n1 := 2) hC gX8_cell_X8_noCell hdV_yX8_noCell 0 rfl rfl (As := [.int k, .int i]) (rest := []) (c_X8_noCell D cI aMO (0 : Int32) amS mDays amH mLin amK amO amD mCool mReadAt mReadDays mReadLin amRS amRH amRK amRO amRD amDN amSN mDayNow mLast mTears mWrong amTF amTFor amWB mRdn amRdL amRdE amRdD amSz amLane amSh amHands mTrace mSz k i (by exact nw_ok c_9)) rfl ⟨by decide, by decide⟩ rfl [0, 1] [2, 3] [2, 3, 0, 1] [0] rfl rfl rfl rfl (by decide) rfl rfl (Nat.le_of_ble_eq_true rfl) dX8_cell_56 rfl rfl ?_
        refine g_if_le (tgt := 75) hC dX8_cell_59 (by decide) rfl (fun c_59 => ?_) (fun c_59 => ?_)
        · rw [if_pos c_59] at hres
          refine g_aload_n hC dX8_cell_75 rfl 0 rfl rfl ?_
          refine g_get hC iw_X8_cell_RX8 0 rfl rfl 32 (by decide) (List.mem_of_getElem? (i := 5) rfl) rfl rfl dX8_cell_76 rfl ?_
          refine g_bipush (v := 60) hC dX8_cell_79 (by decide) rfl ?_
          refine g_iload_n hC dX8_cell_81 rfl 1 rfl rfl ?_
          refine g_imul hC dX8_cell_82 rfl ?_
          refine g_iload_n hC dX8_cell_83 rfl 2 rfl rfl ?_
          refine g_iadd hC dX8_cell_84 rfl ?_
          refine g_iald hC 3 0 rfl rfl (by exact ix1 (nw_ok c_9) (nc_ok c_59).1 (Int.lt_of_lt_of_le (nc_ok c_59).2 (hSz _))) dX8_cell_85 rfl ?_
          refine g_i2l hC dX8_cell_86 rfl ?_
          subst hres
          exact g_lret hC hX rfl dX8_cell_87 rfl rfl
        · rw [if_neg c_59] at hres
          refine g_aload_n hC dX8_cell_62 rfl 0 rfl rfl ?_
          refine g_aload_n hC dX8_cell_63 rfl 0 rfl rfl ?_
          refine g_iload_n hC dX8_cell_64 rfl 1 rfl rfl ?_
          refine g_iload_n hC dX8_cell_65 rfl 2 rfl rfl ?_
          refine g_callV (ws' := [(aMO, .inr (8, [.int (0 : Int32), .ref amS, .int mDays, .ref amH, .int mLin, .ref amK, .ref amO, .ref amD, .int mCool, .int mReadAt, .int mReadDays, .int mReadLin, .ref amRS, .ref amRH, .ref amRK, .ref amRO, .ref amRD, .ref amDN, .ref amSN, .int mDayNow, .int mLast, .int mTears, .int mWrong, .ref amTF, .ref amTFor, .ref amWB, .int mRdn, .ref amRdL, .ref amRdE, .ref amRdD, .ref amSz, .ref amLane, .ref amSh, .ref amHands, .int mTrace])), (amSz, .inl (cI, 4, .inl mSz)), (amLane, .inl (cI, 4, .inl mLane)), (amSh, .inl (cI, 240, .inl mSh))]) (st' := [.int (m_X8_noCell mSz k i), .ref aMO]) (nw := 4) (n1 := 2) hC gX8_cell_X8_noCell hdV_yX8_noCell 0 rfl rfl (As := [.int k, .int i]) (rest := [.ref aMO]) (c_X8_noCell D cI aMO (0 : Int32) amS mDays amH mLin amK amO amD mCool mReadAt mReadDays mReadLin amRS amRH amRK amRO amRD amDN amSN mDayNow mLast mTears mWrong amTF amTFor amWB mRdn amRdL amRdE amRdD amSz amLane amSh amHands mTrace mSz k i (by exact nw_ok c_9)) rfl ⟨by decide, by decide⟩ rfl [0, 1] [2, 3] [2, 3, 0, 1] [0] rfl rfl rfl rfl (by decide) rfl rfl (Nat.le_of_ble_eq_true rfl) dX8_cell_66 rfl rfl ?_
          refine g_callV (ws' := [(aMO, .inr (8, [.int ((m_X8_failedLong (m_X8_noCell mSz k i)).2), .ref amS, .int mDays, .ref amH, .int mLin, .ref amK, .ref amO, .ref amD, .int mCool, .int mReadAt, .int mReadDays, .int mReadLin, .ref amRS, .ref amRH, .ref amRK, .ref amRO, .ref amRD, .ref amDN, .ref amSN, .int mDayNow, .int mLast, .int mTears, .int mWrong, .ref amTF, .ref amTFor, .ref amWB, .int mRdn, .ref amRdL, .ref amRdE, .ref amRdD, .ref amSz, .ref amLane, .ref amSh, .ref amHands, .int mTrace])), (amSz, .inl (cI, 4, .inl mSz)), (amLane, .inl (cI, 4, .inl mLane)), (amSh, .inl (cI, 240, .inl mSh))]) (st' := [.long ((m_X8_failedLong (m_X8_noCell mSz k i)).1)]) (nw := 4) (n1 := 1) hC gX8_cell_X8_failedLong hdV_yX8_failedLong 0 rfl rfl (As := [.int (m_X8_noCell mSz k i)]) (rest := []) (c_X8_failedLong D cI aMO (0 : Int32) amS mDays amH mLin amK amO amD mCool mReadAt mReadDays mReadLin amRS amRH amRK amRO amRD amDN amSN mDayNow mLast mTears mWrong amTF amTFor amWB mRdn amRdL amRdE amRdD amSz amLane amSh amHands mTrace (m_X8_noCell mSz k i)) rfl ⟨by decide, by decide⟩ rfl [0] [1, 2, 3] [3, 0, 1, 2] [0] rfl rfl rfl rfl (by decide) rfl rfl (Nat.le_of_ble_eq_true rfl) dX8_cell_69 rfl rfl ?_
          refine g_goto (tgt := 87) hC dX8_cell_72 (by decide) ?_
          subst hres
          exact g_lret hC hX rfl dX8_cell_87 rfl rfl
      · rw [if_neg c_34] at hres
        refine g_aload_n hC dX8_cell_37 rfl 0 rfl rfl ?_
        refine g_get hC iw_X8_cell_RX8 0 rfl rfl 31 (by decide) (List.mem_of_getElem? (i := 4) rfl) rfl rfl dX8_cell_38 rfl ?_
        refine g_iload_n hC dX8_cell_41 rfl 1 rfl rfl ?_
        refine g_iald hC 2 0 rfl rfl (by exact nw_ok c_9) dX8_cell_42 rfl ?_
        refine g_iload_n hC dX8_cell_43 rfl 3 rfl rfl ?_
        refine g_icmp_eq (tgt := 53) hC dX8_cell_44 (by decide) rfl (fun c_44 => ?_) (fun c_44 => ?_)
        · rw [if_pos c_44] at hres
          refine g_aload_n hC dX8_cell_53 rfl 0 rfl rfl ?_
          refine g_iload_n hC dX8_cell_54 rfl 1 rfl rfl ?_
          refine g_iload_n hC dX8_cell_55 rfl 2 rfl rfl ?_
          refine g_callV (ws' := [(aMO, .inr (8, [.int (0 : Int32), .ref amS, .int mDays, .ref amH, .int mLin, .ref amK, .ref amO, .ref amD, .int mCool, .int mReadAt, .int mReadDays, .int mReadLin, .ref amRS, .ref amRH, .ref amRK, .ref amRO, .ref amRD, .ref amDN, .ref amSN, .int mDayNow, .int mLast, .int mTears, .int mWrong, .ref amTF, .ref amTFor, .ref amWB, .int mRdn, .ref amRdL, .ref amRdE, .ref amRdD, .ref amSz, .ref amLane, .ref amSh, .ref amHands, .int mTrace])), (amSz, .inl (cI, 4, .inl mSz)), (amLane, .inl (cI, 4, .inl mLane)), (amSh, .inl (cI, 240, .inl mSh))]) (st' := [.int (m_X8_noCell mSz k i)]) (nw := 4) (n1 := 2) hC gX8_cell_X8_noCell hdV_yX8_noCell 0 rfl rfl (As := [.int k, .int i]) (rest := []) (c_X8_noCell D cI aMO (0 : Int32) amS mDays amH mLin amK amO amD mCool mReadAt mReadDays mReadLin amRS amRH amRK amRO amRD amDN amSN mDayNow mLast mTears mWrong amTF amTFor amWB mRdn amRdL amRdE amRdD amSz amLane amSh amHands mTrace mSz k i (by exact nw_ok c_9)) rfl ⟨by decide, by decide⟩ rfl [0, 1] [2, 3] [2, 3, 0, 1] [0] rfl rfl rfl rfl (by decide) rfl rfl (Nat.le_of_ble_eq_true rfl) dX8_cell_56 rfl rfl ?_
          refine g_if_le (tgt := 75) hC dX8_cell_59 (by decide) rfl (fun c_59 => ?_) (fun c_59 => ?_)
          · rw [if_pos c_59] at hres
            refine g_aload_n hC dX8_cell_75 rfl 0 rfl rfl ?_
            refine g_get hC iw_X8_cell_RX8 0 rfl rfl 32 (by decide) (List.mem_of_getElem? (i := 5) rfl) rfl rfl dX8_cell_76 rfl ?_
            refine g_bipush (v := 60) hC dX8_cell_79 (by decide) rfl ?_
            refine g_iload_n hC dX8_cell_81 rfl 1 rfl rfl ?_
            refine g_imul hC dX8_cell_82 rfl ?_
            refine g_iload_n hC dX8_cell_83 rfl 2 rfl rfl ?_
            refine g_iadd hC dX8_cell_84 rfl ?_
            refine g_iald hC 3 0 rfl rfl (by exact ix1 (nw_ok c_9) (nc_ok c_59).1 (Int.lt_of_lt_of_le (nc_ok c_59).2 (hSz _))) dX8_cell_85 rfl ?_
            refine g_i2l hC dX8_cell_86 rfl ?_
            subst hres
            exact g_lret hC hX rfl dX8_cell_87 rfl rfl
          · rw [if_neg c_59] at hres
            refine g_aload_n hC dX8_cell_62 rfl 0 rfl rfl ?_
            refine g_aload_n hC dX8_cell_63 rfl 0 rfl rfl ?_
            refine g_iload_n hC dX8_cell_64 rfl 1 rfl rfl ?_
            refine g_iload_n hC dX8_cell_65 rfl 2 rfl rfl ?_
            refine g_callV (ws' := [(aMO, .inr (8, [.int (0 : Int32), .ref amS, .int mDays, .ref amH, .int mLin, .ref amK, .ref amO, .ref amD, .int mCool, .int mReadAt, .int mReadDays, .int mReadLin, .ref amRS, .ref amRH, .ref amRK, .ref amRO, .ref amRD, .ref amDN, .ref amSN, .int mDayNow, .int mLast, .int mTears, .int mWrong, .ref amTF, .ref amTFor, .ref amWB, .int mRdn, .ref amRdL, .ref amRdE, .ref amRdD, .ref amSz, .ref amLane, .ref amSh, .ref amHands, .int mTrace])), (amSz, .inl (cI, 4, .inl mSz)), (amLane, .inl (cI, 4, .inl mLane)), (amSh, .inl (cI, 240, .inl mSh))]) (st' := [.int (m_X8_noCell mSz k i), .ref aMO]) (nw := 4) (n1 := 2) hC gX8_cell_X8_noCell hdV_yX8_noCell 0 rfl rfl (As := [.int k, .int i]) (rest := [.ref aMO]) (c_X8_noCell D cI aMO (0 : Int32) amS mDays amH mLin amK amO amD mCool mReadAt mReadDays mReadLin amRS amRH amRK amRO amRD amDN amSN mDayNow mLast mTears mWrong amTF amTFor amWB mRdn amRdL amRdE amRdD amSz amLane amSh amHands mTrace mSz k i (by exact nw_ok c_9)) rfl ⟨by decide, by decide⟩ rfl [0, 1] [2, 3] [2, 3, 0, 1] [0] rfl rfl rfl rfl (by decide) rfl rfl (Nat.le_of_ble_eq_true rfl) dX8_cell_66 rfl rfl ?_
            refine g_callV (ws' := [(aMO, .inr (8, [.int ((m_X8_failedLong (m_X8_noCell mSz k i)).2), .ref amS, .int mDays, .ref amH, .int mLin, .ref amK, .ref amO, .ref amD, .int mCool, .int mReadAt, .int mReadDays, .int mReadLin, .ref amRS, .ref amRH, .ref amRK, .ref amRO, .ref amRD, .ref amDN, .ref amSN, .int mDayNow, .int mLast, .int mTears, .int mWrong, .ref amTF, .ref amTFor, .ref amWB, .int mRdn, .ref amRdL, .ref amRdE, .ref amRdD, .ref amSz, .ref amLane, .ref amSh, .ref amHands, .int mTrace])), (amSz, .inl (cI, 4, .inl mSz)), (amLane, .inl (cI, 4, .inl mLane)), (amSh, .inl (cI, 240, .inl mSh))]) (st' := [.long ((m_X8_failedLong (m_X8_noCell mSz k i)).1)]) (nw := 4) (n1 := 1) hC gX8_cell_X8_failedLong hdV_yX8_failedLong 0 rfl rfl (As := [.int (m_X8_noCell mSz k i)]) (rest := []) (c_X8_failedLong D cI aMO (0 : Int32) amS mDays amH mLin amK amO amD mCool mReadAt mReadDays mReadLin amRS amRH amRK amRO amRD amDN amSN mDayNow mLast mTears mWrong amTF amTFor amWB mRdn amRdL amRdE amRdD amSz amLane amSh amHands mTrace (m_X8_noCell mSz k i)) rfl ⟨by decide, by decide⟩ rfl [0] [1, 2, 3] [3, 0, 1, 2] [0] rfl rfl rfl rfl (by decide) rfl rfl (Nat.le_of_ble_eq_true rfl) dX8_cell_69 rfl rfl ?_
            refine g_goto (tgt := 87) hC dX8_cell_72 (by decide) ?_
            subst hres
            exact g_lret hC hX rfl dX8_cell_87 rfl rfl
        · rw [if_neg c_44] at hres
          refine g_aload_n hC dX8_cell_47 rfl 0 rfl rfl ?_
          refine g_iconst (v := 2) hC dX8_cell_48 (by decide) rfl ?_
          refine g_callV (ws' := [(aMO, .inr (8, [.int ((m_X8_failedLong (2 : Int32)).2), .ref amS, .int mDays, .ref amH, .int mLin, .ref amK, .ref amO, .ref amD, .int mCool, .int mReadAt, .int mReadDays, .int mReadLin, .ref amRS, .ref amRH, .ref amRK, .ref amRO, .ref amRD, .ref amDN, .ref amSN, .int mDayNow, .int mLast, .int mTears, .int mWrong, .ref amTF, .ref amTFor, .ref amWB, .int mRdn, .ref amRdL, .ref amRdE, .ref amRdD, .ref amSz, .ref amLane, .ref amSh, .ref amHands, .int mTrace])), (amSz, .inl (cI, 4, .inl mSz)), (amLane, .inl (cI, 4, .inl mLane)), (amSh, .inl (cI, 240, .inl mSh))]) (st' := [.long ((m_X8_failedLong (2 : Int32)).1)]) (nw := 4) (n1 := 1) hC gX8_cell_X8_failedLong hdV_yX8_failedLong 0 rfl rfl (As := [.int (2 : Int32)]) (rest := []) (c_X8_failedLong D cI aMO (0 : Int32) amS mDays amH mLin amK amO amD mCool mReadAt mReadDays mReadLin amRS amRH amRK amRO amRD amDN amSN mDayNow mLast mTears mWrong amTF amTFor amWB mRdn amRdL amRdE amRdD amSz amLane amSh amHands mTrace (2 : Int32)) rfl ⟨by decide, by decide⟩ rfl [0] [1, 2, 3] [3, 0, 1, 2] [0] rfl rfl rfl rfl (by decide) rfl rfl (Nat.le_of_ble_eq_true rfl) dX8_cell_49 rfl rfl ?_
          subst hres
          exact g_lret hC hX rfl dX8_cell_52 rfl rfl
    · rw [if_pos c_21] at hres
      refine g_callS (ws' := [(aMO, .inr (8, [.int (0 : Int32), .ref amS, .int mDays, .ref amH, .int mLin, .ref amK, .ref amO, .ref amD, .int mCool, .int mReadAt, .int mReadDays, .int mReadLin, .ref amRS, .ref amRH, .ref amRK, .ref amRO, .ref amRD, .ref amDN, .ref amSN, .int mDayNow, .int mLast, .int mTears, .int mWrong, .ref amTF, .ref amTFor, .ref amWB, .int mRdn, .ref amRdL, .ref amRdE, .ref amRdD, .ref amSz, .ref amLane, .ref amSh, .ref amHands, .int mTrace])), (amSz, .inl (cI, 4, .inl mSz)), (amLane, .inl (cI, 4, .inl mLane)), (amSh, .inl (cI, 240, .inl mSh))]) (st' := [.long m_X8_lost]) (nw := 4) (n1 := 0) hC gX8_cell_X8_lost hdS_yX8_lost (As := []) (rest := []) (c_X8_lost D cI ) rfl ⟨by decide, by decide⟩ rfl [] [0, 1, 2, 3] [0, 1, 2, 3] [0] rfl rfl rfl rfl (by decide) rfl rfl (Nat.le_of_ble_eq_true rfl) dX8_cell_24 rfl rfl ?_
      subst hres
      exact g_lret hC hX rfl dX8_cell_27 rfl rfl
theorem iw_X8_copy_RX8 : ∀ w ∈ wsX80, w ∈ wsX8_copy := fun _ h => List.mem_cons_of_mem _ (List.mem_append_right _ (h))
def m_X8_copy_144 : Nat → Int32 → Int32 → Int32 → (Nat → Int32) → Int32 → (Nat → Int32) → (Int32 × Int32 × (Nat → Int32) × (Nat → Int32))
  | 0, _, _, _, _, _, _ => default
  | fu + 1, o, j, n, k_mHands, y6, z_mSh => (if n ≤ y6 then ((m_X8_refused n).1, (m_X8_refused n).2, z_mSh, k_mHands) else (m_X8_copy_144 fu o j n k_mHands (y6 + 1) (upd z_mSh ((((60 : Int32) * o) + j) + y6).toNatClampNeg (k_mHands y6.toNatClampNeg))))
def m_X8_copy_107 : Nat → Int32 → Int32 → Int32 → Int32 → Int32 → (Nat → Int32) → Int32 → (Nat → Int32) → (Int32 × Int32 × (Nat → Int32) × (Nat → Int32))
  | 0, _, _, _, _, _, _, _, _ => default
  | fu + 1, k, i, o, j, n, k_mSh, y6, z_mHands => (if n ≤ y6 then (m_X8_copy_144 ((n.toInt - (0 : Int32).toInt).toNat + 1) o j n z_mHands (0 : Int32) k_mSh) else (m_X8_copy_107 fu k i o j n k_mSh (y6 + 1) (upd z_mHands y6.toNatClampNeg (k_mSh ((((60 : Int32) * k) + i) + y6).toNatClampNeg))))
def m_X8_copy (mSz : Nat → Int32) (mLane : Nat → Int32) (mSh : Nat → Int32) (mHands : Nat → Int32) (k : Int32) (i : Int32) (o : Int32) (j : Int32) (n : Int32) : (Int32 × Int32 × (Nat → Int32) × (Nat → Int32)) := (if (m_X8_noSheet k) = 0 then (if (m_X8_noSheet o) = 0 then (if (mSz k.toNatClampNeg) < 0 then ((m_X8_failed (1 : Int32)).1, (m_X8_failed (1 : Int32)).2, mSh, mHands) else (if 0 ≤ (mSz o.toNatClampNeg) then (if (mLane k.toNatClampNeg) = (mLane o.toNatClampNeg) then (if (m_X8_isBeyond i n.toInt64 (mSz k.toNatClampNeg)) = 0 then (if (m_X8_isBeyond j n.toInt64 (mSz o.toNatClampNeg)) = 0 then (m_X8_copy_107 ((n.toInt - (0 : Int32).toInt).toNat + 1) k i o j n mSh (0 : Int32) mHands) else ((m_X8_failed (3 : Int32)).1, (m_X8_failed (3 : Int32)).2, mSh, mHands)) else ((m_X8_failed (3 : Int32)).1, (m_X8_failed (3 : Int32)).2, mSh, mHands)) else ((m_X8_failed (2 : Int32)).1, (m_X8_failed (2 : Int32)).2, mSh, mHands)) else ((m_X8_failed (1 : Int32)).1, (m_X8_failed (1 : Int32)).2, mSh, mHands))) else ((m_X8_refused (-1 : Int32)).1, (m_X8_refused (-1 : Int32)).2, mSh, mHands)) else ((m_X8_refused (-1 : Int32)).1, (m_X8_refused (-1 : Int32)).2, mSh, mHands))
set_option maxRecDepth 100000 in
set_option maxHeartbeats 4000000 in
theorem l_X8_copy_144 {X : gX} (D : va_G) (cI : ClassId) (aMO : Nat) (mFault : Int32) (amS : Nat) (mDays : Int32) (amH : Nat) (mLin : Int32) (amK : Nat) (amO : Nat) (amD : Nat) (mCool : Int32) (mReadAt : Int32) (mReadDays : Int32) (mReadLin : Int32) (amRS : Nat) (amRH : Nat) (amRK : Nat) (amRO : Nat) (amRD : Nat) (amDN : Nat) (amSN : Nat) (mDayNow : Int32) (mLast : Int32) (mTears : Int32) (mWrong : Int32) (amTF : Nat) (amTFor : Nat) (amWB : Nat) (mRdn : Int32) (amRdL : Nat) (amRdE : Nat) (amRdD : Nat) (amSz : Nat) (amLane : Nat) (amSh : Nat) (amHands : Nat) (mTrace : Int32) (mSz : Nat → Int32) (mLane : Nat → Int32) (mSh : Nat → Int32) (mHands : Nat → Int32) (k : Int32) (i : Int32) (o : Int32) (j : Int32) (n : Int32) (k_mFault : Int32) (k_mHands : Nat → Int32) (hSz : ∀ j : Nat, (mSz j).toInt ≤ 60) (hC : Cx X cX8_copy 7 RX8 wsX8_copy D [(cI, .int)] ({ frames := 2, cells := 0, slots := 0, locals := 45 } : Room) (some .int)) {res : (Int32 × Int32 × (Nat → Int32) × (Nat → Int32))} (hX : Rx X D (some (.int res.1)) [(aMO, .inr (8, [.int res.2.1, .ref amS, .int mDays, .ref amH, .int mLin, .ref amK, .ref amO, .ref amD, .int mCool, .int mReadAt, .int mReadDays, .int mReadLin, .ref amRS, .ref amRH, .ref amRK, .ref amRO, .ref amRD, .ref amDN, .ref amSN, .int mDayNow, .int mLast, .int mTears, .int mWrong, .ref amTF, .ref amTFor, .ref amWB, .int mRdn, .ref amRdL, .ref amRdE, .ref amRdD, .ref amSz, .ref amLane, .ref amSh, .ref amHands, .int mTrace])), (amSz, .inl (cI, 4, .inl mSz)), (amLane, .inl (cI, 4, .inl mLane)), (amSh, .inl (cI, 240, .inl res.2.2.1)), (amHands, .inl (cI, 60, .inl res.2.2.2))]) : ∀ (fu : Nat) (y6 : Int32) (z_mSh : Nat → Int32) (hm : (n.toInt - y6.toInt).toNat < fu) (h0_y6 : 0 ≤ y6.toInt) (hk : vp_in k 4) (ho : vp_in o 4) (hb : 0 ≤ i.toInt ∧ i.toInt + n.toInt ≤ 60) (hb2 : 0 ≤ j.toInt ∧ j.toInt + n.toInt ≤ 60) (hres : res = m_X8_copy_144 fu o j n k_mHands y6 z_mSh), G X D 7 [(aMO, .inr (8, [.int k_mFault, .ref amS, .int mDays, .ref amH, .int mLin, .ref amK, .ref amO, .ref amD, .int mCool, .int mReadAt, .int mReadDays, .int mReadLin, .ref amRS, .ref amRH, .ref amRK, .ref amRO, .ref amRD, .ref amDN, .ref amSN, .int mDayNow, .int mLast, .int mTears, .int mWrong, .ref amTF, .ref amTFor, .ref amWB, .int mRdn, .ref amRdL, .ref amRdE, .ref amRdD, .ref amSz, .ref amLane, .ref amSh, .ref amHands, .int mTrace])), (amSz, .inl (cI, 4, .inl mSz)), (amLane, .inl (cI, 4, .inl mLane)), (amSh, .inl (cI, 240, .inl z_mSh)), (amHands, .inl (cI, 60, .inl k_mHands))] [(0, .ref aMO), (3, .int o), (4, .int j), (5, .int n), (6, .int y6)] 144 [] := by
  intro fu
  induction fu with
  | zero =>
    intro y6 z_mSh hm
    exact absurd hm (Nat.not_lt_zero _)
  | succ fu ih =>
    intro y6 z_mSh hm h0_y6 hk ho hb hb2 hres
    rw [m_X8_copy_144] at hres
    refine g_iload hC dX8_copy_144 4 rfl rfl ?_
    refine g_iload hC dX8_copy_146 3 rfl rfl ?_
    refine g_icmp_ge (tgt := 179) hC dX8_copy_148 (by decide) rfl (fun c_148 => ?_) (fun c_148 => ?_)
    · rw [if_pos c_148] at hres
      refine g_aload_n hC dX8_copy_179 rfl 0 rfl rfl ?_
      refine g_iload hC dX8_copy_180 3 rfl rfl ?_
      refine g_callV (ws' := [(aMO, .inr (8, [.int ((m_X8_refused n).2), .ref amS, .int mDays, .ref amH, .int mLin, .ref amK, .ref amO, .ref amD, .int mCool, .int mReadAt, .int mReadDays, .int mReadLin, .ref amRS, .ref amRH, .ref amRK, .ref amRO, .ref amRD, .ref amDN, .ref amSN, .int mDayNow, .int mLast, .int mTears, .int mWrong, .ref amTF, .ref amTFor, .ref amWB, .int mRdn, .ref amRdL, .ref amRdE, .ref amRdD, .ref amSz, .ref amLane, .ref amSh, .ref amHands, .int mTrace])), (amSz, .inl (cI, 4, .inl mSz)), (amLane, .inl (cI, 4, .inl mLane)), (amSh, .inl (cI, 240, .inl z_mSh)), (amHands, .inl (cI, 60, .inl k_mHands))]) (st' := [.int ((m_X8_refused n).1)]) (nw := 5) (n1 := 1) hC gX8_copy_X8_refused hdV_yX8_refused 0 rfl rfl (As := [.int n]) (rest := []) (c_X8_refused D cI aMO k_mFault amS mDays amH mLin amK amO amD mCool mReadAt mReadDays mReadLin amRS amRH amRK amRO amRD amDN amSN mDayNow mLast mTears mWrong amTF amTFor amWB mRdn amRdL amRdE amRdD amSz amLane amSh amHands mTrace n) rfl ⟨by decide, by decide⟩ rfl [0] [1, 2, 3, 4] [4, 0, 1, 2, 3] [0] rfl rfl rfl rfl (by decide) rfl rfl (Nat.le_of_ble_eq_true rfl) dX8_copy_182 rfl rfl ?_
      subst hres
      exact g_iret hC hX rfl dX8_copy_185 rfl rfl
    · rw [if_neg c_148] at hres
      refine g_aload_n hC dX8_copy_151 rfl 0 rfl rfl ?_
      refine g_get hC iw_X8_copy_RX8 0 rfl rfl 32 (by decide) (List.mem_of_getElem? (i := 4) rfl) rfl rfl dX8_copy_152 rfl ?_
      refine g_bipush (v := 60) hC dX8_copy_155 (by decide) rfl ?_
      refine g_iload_n hC dX8_copy_157 rfl 1 rfl rfl ?_
      refine g_imul hC dX8_copy_158 rfl ?_
      refine g_iload hC dX8_copy_159 2 rfl rfl ?_
      refine g_iadd hC dX8_copy_161 rfl ?_
      refine g_iload hC dX8_copy_162 4 rfl rfl ?_
      refine g_iadd hC dX8_copy_164 rfl ?_
      refine g_aload_n hC dX8_copy_165 rfl 0 rfl rfl ?_
      refine g_get hC iw_X8_copy_RX8 0 rfl rfl 33 (by decide) (List.mem_of_getElem? (i := 3) rfl) rfl rfl dX8_copy_166 rfl ?_
      refine g_iload hC dX8_copy_169 4 rfl rfl ?_
      refine g_iald hC 4 0 rfl rfl (by exact in_up h0_y6 c_148 (by omega)) dX8_copy_171 rfl ?_
      refine g_iast (ws' := [(aMO, .inr (8, [.int k_mFault, .ref amS, .int mDays, .ref amH, .int mLin, .ref amK, .ref amO, .ref amD, .int mCool, .int mReadAt, .int mReadDays, .int mReadLin, .ref amRS, .ref amRH, .ref amRK, .ref amRO, .ref amRD, .ref amDN, .ref amSN, .int mDayNow, .int mLast, .int mTears, .int mWrong, .ref amTF, .ref amTFor, .ref amWB, .int mRdn, .ref amRdL, .ref amRdE, .ref amRdD, .ref amSz, .ref amLane, .ref amSh, .ref amHands, .int mTrace])), (amSz, .inl (cI, 4, .inl mSz)), (amLane, .inl (cI, 4, .inl mLane)), (amSh, .inl (cI, 240, .inl (upd z_mSh ((((60 : Int32) * o) + j) + y6).toNatClampNeg (k_mHands y6.toNatClampNeg)))), (amHands, .inl (cI, 60, .inl k_mHands))]) hC 3 0 rfl rfl (by exact ix2 ho hb2.1 h0_y6 (by have := nle_ti c_148; omega)) rfl dX8_copy_172 rfl ?_
      refine g_iinc (v := (y6 + 1)) (lv' := [(6, .int (y6 + 1)), (0, .ref aMO), (3, .int o), (4, .int j), (5, .int n)]) hC dX8_copy_173 4 rfl rfl (by decide) rfl rfl ?_
      refine g_goto (tgt := 144) hC dX8_copy_176 (by decide) ?_
      refine g_sub [1, 2, 3, 4, 0] rfl ?_
      exact ih (y6 + 1) (upd z_mSh ((((60 : Int32) * o) + j) + y6).toNatClampNeg (k_mHands y6.toNatClampNeg)) (up_dec c_148 hm) (up_nn c_148 h0_y6) (by assumption) (by assumption) (by assumption) (by assumption) hres
set_option maxRecDepth 100000 in
set_option maxHeartbeats 4000000 in
theorem l_X8_copy_107 {X : gX} (D : va_G) (cI : ClassId) (aMO : Nat) (mFault : Int32) (amS : Nat) (mDays : Int32) (amH : Nat) (mLin : Int32) (amK : Nat) (amO : Nat) (amD : Nat) (mCool : Int32) (mReadAt : Int32) (mReadDays : Int32) (mReadLin : Int32) (amRS : Nat) (amRH : Nat) (amRK : Nat) (amRO : Nat) (amRD : Nat) (amDN : Nat) (amSN : Nat) (mDayNow : Int32) (mLast : Int32) (mTears : Int32) (mWrong : Int32) (amTF : Nat) (amTFor : Nat) (amWB : Nat) (mRdn : Int32) (amRdL : Nat) (amRdE : Nat) (amRdD : Nat) (amSz : Nat) (amLane : Nat) (amSh : Nat) (amHands : Nat) (mTrace : Int32) (mSz : Nat → Int32) (mLane : Nat → Int32) (mSh : Nat → Int32) (mHands : Nat → Int32) (k : Int32) (i : Int32) (o : Int32) (j : Int32) (n : Int32) (k_mFault : Int32) (k_mSh : Nat → Int32) (hSz : ∀ j : Nat, (mSz j).toInt ≤ 60) (hC : Cx X cX8_copy 7 RX8 wsX8_copy D [(cI, .int)] ({ frames := 2, cells := 0, slots := 0, locals := 45 } : Room) (some .int)) {res : (Int32 × Int32 × (Nat → Int32) × (Nat → Int32))} (hX : Rx X D (some (.int res.1)) [(aMO, .inr (8, [.int res.2.1, .ref amS, .int mDays, .ref amH, .int mLin, .ref amK, .ref amO, .ref amD, .int mCool, .int mReadAt, .int mReadDays, .int mReadLin, .ref amRS, .ref amRH, .ref amRK, .ref amRO, .ref amRD, .ref amDN, .ref amSN, .int mDayNow, .int mLast, .int mTears, .int mWrong, .ref amTF, .ref amTFor, .ref amWB, .int mRdn, .ref amRdL, .ref amRdE, .ref amRdD, .ref amSz, .ref amLane, .ref amSh, .ref amHands, .int mTrace])), (amSz, .inl (cI, 4, .inl mSz)), (amLane, .inl (cI, 4, .inl mLane)), (amSh, .inl (cI, 240, .inl res.2.2.1)), (amHands, .inl (cI, 60, .inl res.2.2.2))]) : ∀ (fu : Nat) (y6 : Int32) (z_mHands : Nat → Int32) (hm : (n.toInt - y6.toInt).toNat < fu) (h0_y6 : 0 ≤ y6.toInt) (hk : vp_in k 4) (ho : vp_in o 4) (hb : 0 ≤ i.toInt ∧ i.toInt + n.toInt ≤ 60) (hb2 : 0 ≤ j.toInt ∧ j.toInt + n.toInt ≤ 60) (hres : res = m_X8_copy_107 fu k i o j n k_mSh y6 z_mHands), G X D 7 [(aMO, .inr (8, [.int k_mFault, .ref amS, .int mDays, .ref amH, .int mLin, .ref amK, .ref amO, .ref amD, .int mCool, .int mReadAt, .int mReadDays, .int mReadLin, .ref amRS, .ref amRH, .ref amRK, .ref amRO, .ref amRD, .ref amDN, .ref amSN, .int mDayNow, .int mLast, .int mTears, .int mWrong, .ref amTF, .ref amTFor, .ref amWB, .int mRdn, .ref amRdL, .ref amRdE, .ref amRdD, .ref amSz, .ref amLane, .ref amSh, .ref amHands, .int mTrace])), (amSz, .inl (cI, 4, .inl mSz)), (amLane, .inl (cI, 4, .inl mLane)), (amSh, .inl (cI, 240, .inl k_mSh)), (amHands, .inl (cI, 60, .inl z_mHands))] [(0, .ref aMO), (1, .int k), (2, .int i), (3, .int o), (4, .int j), (5, .int n), (6, .int y6)] 107 [] := by
  intro fu
  induction fu with
  | zero =>
    intro y6 z_mHands hm
    exact absurd hm (Nat.not_lt_zero _)
  | succ fu ih =>
    intro y6 z_mHands hm h0_y6 hk ho hb hb2 hres
    rw [m_X8_copy_107] at hres
    refine g_iload hC dX8_copy_107 6 rfl rfl ?_
    refine g_iload hC dX8_copy_109 5 rfl rfl ?_
    refine g_icmp_ge (tgt := 141) hC dX8_copy_111 (by decide) rfl (fun c_111 => ?_) (fun c_111 => ?_)
    · rw [if_pos c_111] at hres
      refine g_iconst (v := 0) hC dX8_copy_141 (by decide) rfl ?_
      refine g_istore (lv' := [(6, .int (0 : Int32)), (0, .ref aMO), (1, .int k), (2, .int i), (3, .int o), (4, .int j), (5, .int n)]) hC dX8_copy_142 (by decide) rfl rfl ?_
      refine g_sub [1, 4, 5, 6, 0] rfl ?_
      exact l_X8_copy_144 D cI aMO mFault amS mDays amH mLin amK amO amD mCool mReadAt mReadDays mReadLin amRS amRH amRK amRO amRD amDN amSN mDayNow mLast mTears mWrong amTF amTFor amWB mRdn amRdL amRdE amRdD amSz amLane amSh amHands mTrace mSz mLane mSh mHands k i o j n k_mFault z_mHands hSz hC hX ((n.toInt - (0 : Int32).toInt).toNat + 1) (0 : Int32) k_mSh (Nat.lt_succ_self _) (by decide) (by first | assumption | exact nw_ok c_4) (by first | assumption | exact nw_ok c_11) (by first | assumption | exact ⟨(bey_ok c_78).1, Int.le_trans (bey_ok c_78).2.2 (hSz _)⟩) (by first | assumption | exact ⟨(bey_ok c_95).1, Int.le_trans (bey_ok c_95).2.2 (hSz _)⟩) hres
    · rw [if_neg c_111] at hres
      refine g_aload_n hC dX8_copy_114 rfl 0 rfl rfl ?_
      refine g_get hC iw_X8_copy_RX8 0 rfl rfl 33 (by decide) (List.mem_of_getElem? (i := 3) rfl) rfl rfl dX8_copy_115 rfl ?_
      refine g_iload hC dX8_copy_118 6 rfl rfl ?_
      refine g_aload_n hC dX8_copy_120 rfl 0 rfl rfl ?_
      refine g_get hC iw_X8_copy_RX8 0 rfl rfl 32 (by decide) (List.mem_of_getElem? (i := 4) rfl) rfl rfl dX8_copy_121 rfl ?_
      refine g_bipush (v := 60) hC dX8_copy_124 (by decide) rfl ?_
      refine g_iload_n hC dX8_copy_126 rfl 1 rfl rfl ?_
      refine g_imul hC dX8_copy_127 rfl ?_
      refine g_iload_n hC dX8_copy_128 rfl 2 rfl rfl ?_
      refine g_iadd hC dX8_copy_129 rfl ?_
      refine g_iload hC dX8_copy_130 6 rfl rfl ?_
      refine g_iadd hC dX8_copy_132 rfl ?_
      refine g_iald hC 3 0 rfl rfl (by exact ix2 hk hb.1 h0_y6 (by have := nle_ti c_111; omega)) dX8_copy_133 rfl ?_
      refine g_iast (ws' := [(aMO, .inr (8, [.int k_mFault, .ref amS, .int mDays, .ref amH, .int mLin, .ref amK, .ref amO, .ref amD, .int mCool, .int mReadAt, .int mReadDays, .int mReadLin, .ref amRS, .ref amRH, .ref amRK, .ref amRO, .ref amRD, .ref amDN, .ref amSN, .int mDayNow, .int mLast, .int mTears, .int mWrong, .ref amTF, .ref amTFor, .ref amWB, .int mRdn, .ref amRdL, .ref amRdE, .ref amRdD, .ref amSz, .ref amLane, .ref amSh, .ref amHands, .int mTrace])), (amSz, .inl (cI, 4, .inl mSz)), (amLane, .inl (cI, 4, .inl mLane)), (amSh, .inl (cI, 240, .inl k_mSh)), (amHands, .inl (cI, 60, .inl (upd z_mHands y6.toNatClampNeg (k_mSh ((((60 : Int32) * k) + i) + y6).toNatClampNeg))))]) hC 4 0 rfl rfl (by exact in_up h0_y6 c_111 (by omega)) rfl dX8_copy_134 rfl ?_
      refine g_iinc (v := (y6 + 1)) (lv' := [(6, .int (y6 + 1)), (0, .ref aMO), (1, .int k), (2, .int i), (3, .int o), (4, .int j), (5, .int n)]) hC dX8_copy_135 6 rfl rfl (by decide) rfl rfl ?_
      refine g_goto (tgt := 107) hC dX8_copy_138 (by decide) ?_
      refine g_sub [1, 2, 3, 4, 5, 6, 0] rfl ?_
      exact ih (y6 + 1) (upd z_mHands y6.toNatClampNeg (k_mSh ((((60 : Int32) * k) + i) + y6).toNatClampNeg)) (up_dec c_111 hm) (up_nn c_111 h0_y6) (by assumption) (by assumption) (by assumption) (by assumption) hres
set_option maxRecDepth 100000 in
set_option maxHeartbeats 4000000 in
theorem c_X8_copy (D : va_G) (cI : ClassId) (aMO : Nat) (mFault : Int32) (amS : Nat) (mDays : Int32) (amH : Nat) (mLin : Int32) (amK : Nat) (amO : Nat) (amD : Nat) (mCool : Int32) (mReadAt : Int32) (mReadDays : Int32) (mReadLin : Int32) (amRS : Nat) (amRH : Nat) (amRK : Nat) (amRO : Nat) (amRD : Nat) (amDN : Nat) (amSN : Nat) (mDayNow : Int32) (mLast : Int32) (mTears : Int32) (mWrong : Int32) (amTF : Nat) (amTFor : Nat) (amWB : Nat) (mRdn : Int32) (amRdL : Nat) (amRdE : Nat) (amRdD : Nat) (amSz : Nat) (amLane : Nat) (amSh : Nat) (amHands : Nat) (mTrace : Int32) (mSz : Nat → Int32) (mLane : Nat → Int32) (mSh : Nat → Int32) (mHands : Nat → Int32) (k : Int32) (i : Int32) (o : Int32) (j : Int32) (n : Int32) (hSz : ∀ j : Nat, (mSz j).toInt ≤ 60) : MC yX8_copy wsX8_copy ({ frames := 2, cells := 0, slots := 0, locals := 45 } : Room) D [(cI, .int)] [.ref aMO, .int k, .int i, .int o, .int j, .int n] [(aMO, .inr (8, [.int mFault, .ref amS, .int mDays, .ref amH, .int mLin, .ref amK, .ref amO, .ref amD, .int mCool, .int mReadAt, .int mReadDays, .int mReadLin, .ref amRS, .ref amRH, .ref amRK, .ref amRO, .ref amRD, .ref amDN, .ref amSN, .int mDayNow, .int mLast, .int mTears, .int mWrong, .ref amTF, .ref amTFor, .ref amWB, .int mRdn, .ref amRdL, .ref amRdE, .ref amRdD, .ref amSz, .ref amLane, .ref amSh, .ref amHands, .int mTrace])), (amSz, .inl (cI, 4, .inl mSz)), (amLane, .inl (cI, 4, .inl mLane)), (amSh, .inl (cI, 240, .inl mSh)), (amHands, .inl (cI, 60, .inl mHands))] (some (.int ((m_X8_copy mSz mLane mSh mHands k i o j n).1))) [(aMO, .inr (8, [.int ((m_X8_copy mSz mLane mSh mHands k i o j n).2.1), .ref amS, .int mDays, .ref amH, .int mLin, .ref amK, .ref amO, .ref amD, .int mCool, .int mReadAt, .int mReadDays, .int mReadLin, .ref amRS, .ref amRH, .ref amRK, .ref amRO, .ref amRD, .ref amDN, .ref amSN, .int mDayNow, .int mLast, .int mTears, .int mWrong, .ref amTF, .ref amTFor, .ref amWB, .int mRdn, .ref amRdL, .ref amRdE, .ref amRdD, .ref amSz, .ref amLane, .ref amSh, .ref amHands, .int mTrace])), (amSz, .inl (cI, 4, .inl mSz)), (amLane, .inl (cI, 4, .inl mLane)), (amSh, .inl (cI, 240, .inl ((m_X8_copy mSz mLane mSh mHands k i o j n).2.2.1))), (amHands, .inl (cI, 60, .inl ((m_X8_copy mSz mLane mSh mHands k i o j n).2.2.2)))] := by
  refine g_entry (by decide) rfl rfl rfl rfl (Nat.le_of_ble_eq_true rfl) (lv := [(0, .ref aMO), (1, .int k), (2, .int i), (3, .int o), (4, .int j), (5, .int n)]) rfl ?_
  intro X hC hX
  obtain ⟨res, hres⟩ : ∃ z, z = (m_X8_copy mSz mLane mSh mHands k i o j n) := ⟨_, rfl⟩
  rw [← hres] at hX
  rw [m_X8_copy] at hres
  refine g_iload_n hC dX8_copy_0 rfl 1 rfl rfl ?_
  refine g_callS (ws' := [(aMO, .inr (8, [.int mFault, .ref amS, .int mDays, .ref amH, .int mLin, .ref amK, .ref amO, .ref amD, .int mCool, .int mReadAt, .int mReadDays, .int mReadLin, .ref amRS, .ref amRH, .ref amRK, .ref amRO, .ref amRD, .ref amDN, .ref amSN, .int mDayNow, .int mLast, .int mTears, .int mWrong, .ref amTF, .ref amTFor, .ref amWB, .int mRdn, .ref amRdL, .ref amRdE, .ref amRdD, .ref amSz, .ref amLane, .ref amSh, .ref amHands, .int mTrace])), (amSz, .inl (cI, 4, .inl mSz)), (amLane, .inl (cI, 4, .inl mLane)), (amSh, .inl (cI, 240, .inl mSh)), (amHands, .inl (cI, 60, .inl mHands))]) (st' := [.int (m_X8_noSheet k)]) (nw := 5) (n1 := 0) hC gX8_copy_X8_noSheet hdS_yX8_noSheet (As := [.int k]) (rest := []) (c_X8_noSheet D cI k) rfl ⟨by decide, by decide⟩ rfl [] [0, 1, 2, 3, 4] [0, 1, 2, 3, 4] [0] rfl rfl rfl rfl (by decide) rfl rfl (Nat.le_of_ble_eq_true rfl) dX8_copy_1 rfl rfl ?_
  refine g_if_ne (tgt := 14) hC dX8_copy_4 (by decide) rfl (fun c_4 => ?_) (fun c_4 => ?_)
  · rw [if_neg c_4] at hres
    refine g_aload_n hC dX8_copy_14 rfl 0 rfl rfl ?_
    refine g_iconst (v := -1) hC dX8_copy_15 (by decide) rfl ?_
    refine g_callV (ws' := [(aMO, .inr (8, [.int ((m_X8_refused (-1 : Int32)).2), .ref amS, .int mDays, .ref amH, .int mLin, .ref amK, .ref amO, .ref amD, .int mCool, .int mReadAt, .int mReadDays, .int mReadLin, .ref amRS, .ref amRH, .ref amRK, .ref amRO, .ref amRD, .ref amDN, .ref amSN, .int mDayNow, .int mLast, .int mTears, .int mWrong, .ref amTF, .ref amTFor, .ref amWB, .int mRdn, .ref amRdL, .ref amRdE, .ref amRdD, .ref amSz, .ref amLane, .ref amSh, .ref amHands, .int mTrace])), (amSz, .inl (cI, 4, .inl mSz)), (amLane, .inl (cI, 4, .inl mLane)), (amSh, .inl (cI, 240, .inl mSh)), (amHands, .inl (cI, 60, .inl mHands))]) (st' := [.int ((m_X8_refused (-1 : Int32)).1)]) (nw := 5) (n1 := 1) hC gX8_copy_X8_refused hdV_yX8_refused 0 rfl rfl (As := [.int (-1 : Int32)]) (rest := []) (c_X8_refused D cI aMO mFault amS mDays amH mLin amK amO amD mCool mReadAt mReadDays mReadLin amRS amRH amRK amRO amRD amDN amSN mDayNow mLast mTears mWrong amTF amTFor amWB mRdn amRdL amRdE amRdD amSz amLane amSh amHands mTrace (-1 : Int32)) rfl ⟨by decide, by decide⟩ rfl [0] [1, 2, 3, 4] [4, 0, 1, 2, 3] [0] rfl rfl rfl rfl (by decide) rfl rfl (Nat.le_of_ble_eq_true rfl) dX8_copy_16 rfl rfl ?_
    subst hres
    exact g_iret hC hX rfl dX8_copy_19 rfl rfl
  · rw [if_pos c_4] at hres
    refine g_iload_n hC dX8_copy_7 rfl 3 rfl rfl ?_
    refine g_callS (ws' := [(aMO, .inr (8, [.int mFault, .ref amS, .int mDays, .ref amH, .int mLin, .ref amK, .ref amO, .ref amD, .int mCool, .int mReadAt, .int mReadDays, .int mReadLin, .ref amRS, .ref amRH, .ref amRK, .ref amRO, .ref amRD, .ref amDN, .ref amSN, .int mDayNow, .int mLast, .int mTears, .int mWrong, .ref amTF, .ref amTFor, .ref amWB, .int mRdn, .ref amRdL, .ref amRdE, .ref amRdD, .ref amSz, .ref amLane, .ref amSh, .ref amHands, .int mTrace])), (amSz, .inl (cI, 4, .inl mSz)), (amLane, .inl (cI, 4, .inl mLane)), (amSh, .inl (cI, 240, .inl mSh)), (amHands, .inl (cI, 60, .inl mHands))]) (st' := [.int (m_X8_noSheet o)]) (nw := 5) (n1 := 0) hC gX8_copy_X8_noSheet hdS_yX8_noSheet (As := [.int o]) (rest := []) (c_X8_noSheet D cI o) rfl ⟨by decide, by decide⟩ rfl [] [0, 1, 2, 3, 4] [0, 1, 2, 3, 4] [0] rfl rfl rfl rfl (by decide) rfl rfl (Nat.le_of_ble_eq_true rfl) dX8_copy_8 rfl rfl ?_
    refine g_if_eq (tgt := 20) hC dX8_copy_11 (by decide) rfl (fun c_11 => ?_) (fun c_11 => ?_)
    · rw [if_pos c_11] at hres
      refine g_aload_n hC dX8_copy_20 rfl 0 rfl rfl ?_
      refine g_get hC iw_X8_copy_RX8 0 rfl rfl 30 (by decide) (List.mem_of_getElem? (i := 1) rfl) rfl rfl dX8_copy_21 rfl ?_
      refine g_iload_n hC dX8_copy_24 rfl 1 rfl rfl ?_
      refine g_iald hC 1 0 rfl rfl (by exact nw_ok c_4) dX8_copy_25 rfl ?_
      refine g_if_lt (tgt := 38) hC dX8_copy_26 (by decide) rfl (fun c_26 => ?_) (fun c_26 => ?_)
      · rw [if_pos c_26] at hres
        refine g_aload_n hC dX8_copy_38 rfl 0 rfl rfl ?_
        refine g_iconst (v := 1) hC dX8_copy_39 (by decide) rfl ?_
        refine g_callV (ws' := [(aMO, .inr (8, [.int ((m_X8_failed (1 : Int32)).2), .ref amS, .int mDays, .ref amH, .int mLin, .ref amK, .ref amO, .ref amD, .int mCool, .int mReadAt, .int mReadDays, .int mReadLin, .ref amRS, .ref amRH, .ref amRK, .ref amRO, .ref amRD, .ref amDN, .ref amSN, .int mDayNow, .int mLast, .int mTears, .int mWrong, .ref amTF, .ref amTFor, .ref amWB, .int mRdn, .ref amRdL, .ref amRdE, .ref amRdD, .ref amSz, .ref amLane, .ref amSh, .ref amHands, .int mTrace])), (amSz, .inl (cI, 4, .inl mSz)), (amLane, .inl (cI, 4, .inl mLane)), (amSh, .inl (cI, 240, .inl mSh)), (amHands, .inl (cI, 60, .inl mHands))]) (st' := [.int ((m_X8_failed (1 : Int32)).1)]) (nw := 5) (n1 := 1) hC gX8_copy_X8_failed hdV_yX8_failed 0 rfl rfl (As := [.int (1 : Int32)]) (rest := []) (c_X8_failed D cI aMO mFault amS mDays amH mLin amK amO amD mCool mReadAt mReadDays mReadLin amRS amRH amRK amRO amRD amDN amSN mDayNow mLast mTears mWrong amTF amTFor amWB mRdn amRdL amRdE amRdD amSz amLane amSh amHands mTrace (1 : Int32)) rfl ⟨by decide, by decide⟩ rfl [0] [1, 2, 3, 4] [4, 0, 1, 2, 3] [0] rfl rfl rfl rfl (by decide) rfl rfl (Nat.le_of_ble_eq_true rfl) dX8_copy_40 rfl rfl ?_
        subst hres
        exact g_iret hC hX rfl dX8_copy_43 rfl rfl
      · rw [if_neg c_26] at hres
        refine g_aload_n hC dX8_copy_29 rfl 0 rfl rfl ?_
        refine g_get hC iw_X8_copy_RX8 0 rfl rfl 30 (by decide) (List.mem_of_getElem? (i := 1) rfl) rfl rfl dX8_copy_30 rfl ?_
        refine g_iload_n hC dX8_copy_33 rfl 3 rfl rfl ?_
        refine g_iald hC 1 0 rfl rfl (by exact nw_ok c_11) dX8_copy_34 rfl ?_
        refine g_if_ge (tgt := 44) hC dX8_copy_35 (by decide) rfl (fun c_35 => ?_) (fun c_35 => ?_)
        · rw [if_pos c_35] at hres
          refine g_aload_n hC dX8_copy_44 rfl 0 rfl rfl ?_
          refine g_get hC iw_X8_copy_RX8 0 rfl rfl 31 (by decide) (List.mem_of_getElem? (i := 2) rfl) rfl rfl dX8_copy_45 rfl ?_
          refine g_iload_n hC dX8_copy_48 rfl 1 rfl rfl ?_
          refine g_iald hC 2 0 rfl rfl (by exact nw_ok c_4) dX8_copy_49 rfl ?_
          refine g_aload_n hC dX8_copy_50 rfl 0 rfl rfl ?_
          refine g_get hC iw_X8_copy_RX8 0 rfl rfl 31 (by decide) (List.mem_of_getElem? (i := 2) rfl) rfl rfl dX8_copy_51 rfl ?_
          refine g_iload_n hC dX8_copy_54 rfl 3 rfl rfl ?_
          refine g_iald hC 2 0 rfl rfl (by exact nw_ok c_11) dX8_copy_55 rfl ?_
          refine g_icmp_eq (tgt := 65) hC dX8_copy_56 (by decide) rfl (fun c_56 => ?_) (fun c_56 => ?_)
          · rw [if_pos c_56] at hres
            refine g_iload_n hC dX8_copy_65 rfl 2 rfl rfl ?_
            refine g_iload hC dX8_copy_66 5 rfl rfl ?_
            refine g_i2l hC dX8_copy_68 rfl ?_
            refine g_aload_n hC dX8_copy_69 rfl 0 rfl rfl ?_
            refine g_get hC iw_X8_copy_RX8 0 rfl rfl 30 (by decide) (List.mem_of_getElem? (i := 1) rfl) rfl rfl dX8_copy_70 rfl ?_
            refine g_iload_n hC dX8_copy_73 rfl 1 rfl rfl ?_
            refine g_iald hC 1 0 rfl rfl (by exact nw_ok c_4) dX8_copy_74 rfl ?_
            refine g_callS (ws' := [(aMO, .inr (8, [.int mFault, .ref amS, .int mDays, .ref amH, .int mLin, .ref amK, .ref amO, .ref amD, .int mCool, .int mReadAt, .int mReadDays, .int mReadLin, .ref amRS, .ref amRH, .ref amRK, .ref amRO, .ref amRD, .ref amDN, .ref amSN, .int mDayNow, .int mLast, .int mTears, .int mWrong, .ref amTF, .ref amTFor, .ref amWB, .int mRdn, .ref amRdL, .ref amRdE, .ref amRdD, .ref amSz, .ref amLane, .ref amSh, .ref amHands, .int mTrace])), (amSz, .inl (cI, 4, .inl mSz)), (amLane, .inl (cI, 4, .inl mLane)), (amSh, .inl (cI, 240, .inl mSh)), (amHands, .inl (cI, 60, .inl mHands))]) (st' := [.int (m_X8_isBeyond i n.toInt64 (mSz k.toNatClampNeg))]) (nw := 5) (n1 := 0) hC gX8_copy_X8_isBeyond hdS_yX8_isBeyond (As := [.int i, .long n.toInt64, .int (mSz k.toNatClampNeg)]) (rest := []) (c_X8_isBeyond D cI i n.toInt64 (mSz k.toNatClampNeg)) rfl ⟨by decide, by decide⟩ rfl [] [0, 1, 2, 3, 4] [0, 1, 2, 3, 4] [0] rfl rfl rfl rfl (by decide) rfl rfl (Nat.le_of_ble_eq_true rfl) dX8_copy_75 rfl rfl ?_
            refine g_if_ne (tgt := 98) hC dX8_copy_78 (by decide) rfl (fun c_78 => ?_) (fun c_78 => ?_)
            · rw [if_neg c_78] at hres
              refine g_aload_n hC dX8_copy_98 rfl 0 rfl rfl ?_
              refine g_iconst (v := 3) hC dX8_copy_99 (by decide) rfl ?_
              refine g_callV (ws' := [(aMO, .inr (8, [.int ((m_X8_failed (3 : Int32)).2), .ref amS, .int mDays, .ref amH, .int mLin, .ref amK, .ref amO, .ref amD, .int mCool, .int mReadAt, .int mReadDays, .int mReadLin, .ref amRS, .ref amRH, .ref amRK, .ref amRO, .ref amRD, .ref amDN, .ref amSN, .int mDayNow, .int mLast, .int mTears, .int mWrong, .ref amTF, .ref amTFor, .ref amWB, .int mRdn, .ref amRdL, .ref amRdE, .ref amRdD, .ref amSz, .ref amLane, .ref amSh, .ref amHands, .int mTrace])), (amSz, .inl (cI, 4, .inl mSz)), (amLane, .inl (cI, 4, .inl mLane)), (amSh, .inl (cI, 240, .inl mSh)), (amHands, .inl (cI, 60, .inl mHands))]) (st' := [.int ((m_X8_failed (3 : Int32)).1)]) (nw := 5) (n1 := 1) hC gX8_copy_X8_failed hdV_yX8_failed 0 rfl rfl (As := [.int (3 : Int32)]) (rest := []) (c_X8_failed D cI aMO mFault amS mDays amH mLin amK amO amD mCool mReadAt mReadDays mReadLin amRS amRH amRK amRO amRD amDN amSN mDayNow mLast mTears mWrong amTF amTFor amWB mRdn amRdL amRdE amRdD amSz amLane amSh amHands mTrace (3 : Int32)) rfl ⟨by decide, by decide⟩ rfl [0] [1, 2, 3, 4] [4, 0, 1, 2, 3] [0] rfl rfl rfl rfl (by decide) rfl rfl (Nat.le_of_ble_eq_true rfl) dX8_copy_100 rfl rfl ?_
              subst hres
              exact g_iret hC hX rfl dX8_copy_103 rfl rfl
            · rw [if_pos c_78] at hres
              refine g_iload hC dX8_copy_81 4 rfl rfl ?_
              refine g_iload hC dX8_copy_83 5 rfl rfl ?_
              refine g_i2l hC dX8_copy_85 rfl ?_
              refine g_aload_n hC dX8_copy_86 rfl 0 rfl rfl ?_
              refine g_get hC iw_X8_copy_RX8 0 rfl rfl 30 (by decide) (List.mem_of_getElem? (i := 1) rfl) rfl rfl dX8_copy_87 rfl ?_
              refine g_iload_n hC dX8_copy_90 rfl 3 rfl rfl ?_
              refine g_iald hC 1 0 rfl rfl (by exact nw_ok c_11) dX8_copy_91 rfl ?_
              refine g_callS (ws' := [(aMO, .inr (8, [.int mFault, .ref amS, .int mDays, .ref amH, .int mLin, .ref amK, .ref amO, .ref amD, .int mCool, .int mReadAt, .int mReadDays, .int mReadLin, .ref amRS, .ref amRH, .ref amRK, .ref amRO, .ref amRD, .ref amDN, .ref amSN, .int mDayNow, .int mLast, .int mTears, .int mWrong, .ref amTF, .ref amTFor, .ref amWB, .int mRdn, .ref amRdL, .ref amRdE, .ref amRdD, .ref amSz, .ref amLane, .ref amSh, .ref amHands, .int mTrace])), (amSz, .inl (cI, 4, .inl mSz)), (amLane, .inl (cI, 4, .inl mLane)), (amSh, .inl (cI, 240, .inl mSh)), (amHands, .inl (cI, 60, .inl mHands))]) (st' := [.int (m_X8_isBeyond j n.toInt64 (mSz o.toNatClampNeg))]) (nw := 5) (n1 := 0) hC gX8_copy_X8_isBeyond hdS_yX8_isBeyond (As := [.int j, .long n.toInt64, .int (mSz o.toNatClampNeg)]) (rest := []) (c_X8_isBeyond D cI j n.toInt64 (mSz o.toNatClampNeg)) rfl ⟨by decide, by decide⟩ rfl [] [0, 1, 2, 3, 4] [0, 1, 2, 3, 4] [0] rfl rfl rfl rfl (by decide) rfl rfl (Nat.le_of_ble_eq_true rfl) dX8_copy_92 rfl rfl ?_
              refine g_if_eq (tgt := 104) hC dX8_copy_95 (by decide) rfl (fun c_95 => ?_) (fun c_95 => ?_)
              · rw [if_pos c_95] at hres
                refine g_iconst (v := 0) hC dX8_copy_104 (by decide) rfl ?_
                refine g_istore (lv' := [(6, .int (0 : Int32)), (0, .ref aMO), (1, .int k), (2, .int i), (3, .int o), (4, .int j), (5, .int n)]) hC dX8_copy_105 (by decide) rfl rfl ?_
                refine g_sub [1, 2, 3, 4, 5, 6, 0] rfl ?_
                exact l_X8_copy_107 D cI aMO mFault amS mDays amH mLin amK amO amD mCool mReadAt mReadDays mReadLin amRS amRH amRK amRO amRD amDN amSN mDayNow mLast mTears mWrong amTF amTFor amWB mRdn amRdL amRdE amRdD amSz amLane amSh amHands mTrace mSz mLane mSh mHands k i o j n mFault mSh hSz hC hX ((n.toInt - (0 : Int32).toInt).toNat + 1) (0 : Int32) mHands (Nat.lt_succ_self _) (by decide) (by first | assumption | exact nw_ok c_4) (by first | assumption | exact nw_ok c_11) (by first | assumption | exact ⟨(bey_ok c_78).1, Int.le_trans (bey_ok c_78).2.2 (hSz _)⟩) (by first | assumption | exact ⟨(bey_ok c_95).1, Int.le_trans (bey_ok c_95).2.2 (hSz _)⟩) hres
              · rw [if_neg c_95] at hres
                refine g_aload_n hC dX8_copy_98 rfl 0 rfl rfl ?_
                refine g_iconst (v := 3) hC dX8_copy_99 (by decide) rfl ?_
                refine g_callV (ws' := [(aMO, .inr (8, [.int ((m_X8_failed (3 : Int32)).2), .ref amS, .int mDays, .ref amH, .int mLin, .ref amK, .ref amO, .ref amD, .int mCool, .int mReadAt, .int mReadDays, .int mReadLin, .ref amRS, .ref amRH, .ref amRK, .ref amRO, .ref amRD, .ref amDN, .ref amSN, .int mDayNow, .int mLast, .int mTears, .int mWrong, .ref amTF, .ref amTFor, .ref amWB, .int mRdn, .ref amRdL, .ref amRdE, .ref amRdD, .ref amSz, .ref amLane, .ref amSh, .ref amHands, .int mTrace])), (amSz, .inl (cI, 4, .inl mSz)), (amLane, .inl (cI, 4, .inl mLane)), (amSh, .inl (cI, 240, .inl mSh)), (amHands, .inl (cI, 60, .inl mHands))]) (st' := [.int ((m_X8_failed (3 : Int32)).1)]) (nw := 5) (n1 := 1) hC gX8_copy_X8_failed hdV_yX8_failed 0 rfl rfl (As := [.int (3 : Int32)]) (rest := []) (c_X8_failed D cI aMO mFault amS mDays amH mLin amK amO amD mCool mReadAt mReadDays mReadLin amRS amRH amRK amRO amRD amDN amSN mDayNow mLast mTears mWrong amTF amTFor amWB mRdn amRdL amRdE amRdD amSz amLane amSh amHands mTrace (3 : Int32)) rfl ⟨by decide, by decide⟩ rfl [0] [1, 2, 3, 4] [4, 0, 1, 2, 3] [0] rfl rfl rfl rfl (by decide) rfl rfl (Nat.le_of_ble_eq_true rfl) dX8_copy_100 rfl rfl ?_
                subst hres
                exact g_iret hC hX rfl dX8_copy_103 rfl rfl
          · rw [if_neg c_56] at hres
            refine g_aload_n hC dX8_copy_59 rfl 0 rfl rfl ?_
            refine g_iconst (v := 2) hC dX8_copy_60 (by decide) rfl ?_
            refine g_callV (ws' := [(aMO, .inr (8, [.int ((m_X8_failed (2 : Int32)).2), .ref amS, .int mDays, .ref amH, .int mLin, .ref amK, .ref amO, .ref amD, .int mCool, .int mReadAt, .int mReadDays, .int mReadLin, .ref amRS, .ref amRH, .ref amRK, .ref amRO, .ref amRD, .ref amDN, .ref amSN, .int mDayNow, .int mLast, .int mTears, .int mWrong, .ref amTF, .ref amTFor, .ref amWB, .int mRdn, .ref amRdL, .ref amRdE, .ref amRdD, .ref amSz, .ref amLane, .ref amSh, .ref amHands, .int mTrace])), (amSz, .inl (cI, 4, .inl mSz)), (amLane, .inl (cI, 4, .inl mLane)), (amSh, .inl (cI, 240, .inl mSh)), (amHands, .inl (cI, 60, .inl mHands))]) (st' := [.int ((m_X8_failed (2 : Int32)).1)]) (nw := 5) (n1 := 1) hC gX8_copy_X8_failed hdV_yX8_failed 0 rfl rfl (As := [.int (2 : Int32)]) (rest := []) (c_X8_failed D cI aMO mFault amS mDays amH mLin amK amO amD mCool mReadAt mReadDays mReadLin amRS amRH amRK amRO amRD amDN amSN mDayNow mLast mTears mWrong amTF amTFor amWB mRdn amRdL amRdE amRdD amSz amLane amSh amHands mTrace (2 : Int32)) rfl ⟨by decide, by decide⟩ rfl [0] [1, 2, 3, 4] [4, 0, 1, 2, 3] [0] rfl rfl rfl rfl (by decide) rfl rfl (Nat.le_of_ble_eq_true rfl) dX8_copy_61 rfl rfl ?_
            subst hres
            exact g_iret hC hX rfl dX8_copy_64 rfl rfl
        · rw [if_neg c_35] at hres
          refine g_aload_n hC dX8_copy_38 rfl 0 rfl rfl ?_
          refine g_iconst (v := 1) hC dX8_copy_39 (by decide) rfl ?_
          refine g_callV (ws' := [(aMO, .inr (8, [.int ((m_X8_failed (1 : Int32)).2), .ref amS, .int mDays, .ref amH, .int mLin, .ref amK, .ref amO, .ref amD, .int mCool, .int mReadAt, .int mReadDays, .int mReadLin, .ref amRS, .ref amRH, .ref amRK, .ref amRO, .ref amRD, .ref amDN, .ref amSN, .int mDayNow, .int mLast, .int mTears, .int mWrong, .ref amTF, .ref amTFor, .ref amWB, .int mRdn, .ref amRdL, .ref amRdE, .ref amRdD, .ref amSz, .ref amLane, .ref amSh, .ref amHands, .int mTrace])), (amSz, .inl (cI, 4, .inl mSz)), (amLane, .inl (cI, 4, .inl mLane)), (amSh, .inl (cI, 240, .inl mSh)), (amHands, .inl (cI, 60, .inl mHands))]) (st' := [.int ((m_X8_failed (1 : Int32)).1)]) (nw := 5) (n1 := 1) hC gX8_copy_X8_failed hdV_yX8_failed 0 rfl rfl (As := [.int (1 : Int32)]) (rest := []) (c_X8_failed D cI aMO mFault amS mDays amH mLin amK amO amD mCool mReadAt mReadDays mReadLin amRS amRH amRK amRO amRD amDN amSN mDayNow mLast mTears mWrong amTF amTFor amWB mRdn amRdL amRdE amRdD amSz amLane amSh amHands mTrace (1 : Int32)) rfl ⟨by decide, by decide⟩ rfl [0] [1, 2, 3, 4] [4, 0, 1, 2, 3] [0] rfl rfl rfl rfl (by decide) rfl rfl (Nat.le_of_ble_eq_true rfl) dX8_copy_40 rfl rfl ?_
          subst hres
          exact g_iret hC hX rfl dX8_copy_43 rfl rfl
    · rw [if_neg c_11] at hres
      refine g_aload_n hC dX8_copy_14 rfl 0 rfl rfl ?_
      refine g_iconst (v := -1) hC dX8_copy_15 (by decide) rfl ?_
      refine g_callV (ws' := [(aMO, .inr (8, [.int ((m_X8_refused (-1 : Int32)).2), .ref amS, .int mDays, .ref amH, .int mLin, .ref amK, .ref amO, .ref amD, .int mCool, .int mReadAt, .int mReadDays, .int mReadLin, .ref amRS, .ref amRH, .ref amRK, .ref amRO, .ref amRD, .ref amDN, .ref amSN, .int mDayNow, .int mLast, .int mTears, .int mWrong, .ref amTF, .ref amTFor, .ref amWB, .int mRdn, .ref amRdL, .ref amRdE, .ref amRdD, .ref amSz, .ref amLane, .ref amSh, .ref amHands, .int mTrace])), (amSz, .inl (cI, 4, .inl mSz)), (amLane, .inl (cI, 4, .inl mLane)), (amSh, .inl (cI, 240, .inl mSh)), (amHands, .inl (cI, 60, .inl mHands))]) (st' := [.int ((m_X8_refused (-1 : Int32)).1)]) (nw := 5) (n1 := 1) hC gX8_copy_X8_refused hdV_yX8_refused 0 rfl rfl (As := [.int (-1 : Int32)]) (rest := []) (c_X8_refused D cI aMO mFault amS mDays amH mLin amK amO amD mCool mReadAt mReadDays mReadLin amRS amRH amRK amRO amRD amDN amSN mDayNow mLast mTears mWrong amTF amTFor amWB mRdn amRdL amRdE amRdD amSz amLane amSh amHands mTrace (-1 : Int32)) rfl ⟨by decide, by decide⟩ rfl [0] [1, 2, 3, 4] [4, 0, 1, 2, 3] [0] rfl rfl rfl rfl (by decide) rfl rfl (Nat.le_of_ble_eq_true rfl) dX8_copy_16 rfl rfl ?_
      subst hres
      exact g_iret hC hX rfl dX8_copy_19 rfl rfl
