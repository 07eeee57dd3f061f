theorem iw_X8_readsSorrows_RX8 : ∀ w ∈ wsX80, w ∈ wsX8_readsSorrows := fun _ h => List.mem_cons_of_mem _ (List.mem_append_right _ (h))
def m_X8_readsSorrows_5 : Nat → (Nat → Int32) → Int32 → Int32 → Int32 → Int32 → Int32 → (Nat → Int32) → (Int32 × Int32 × (Nat → Int32))
  | 0, _, _, _, _, _, _, _ => default
  | fu + 1, mSh, frm, n, y3, y4, z_mReadAt, z_mRS => (if (4 : Int32) ≤ y4 then (if y3 = 0 then ((0 : Int32), (z_mReadAt + (if (0 : Int32) = 0 then (0 : Int32) else (1 : Int32))), z_mRS) else ((if (m_X8_codeAt z_mReadAt mSh frm n) = (44 : Int32) then (1 : Int32) else (0 : Int32)), (z_mReadAt + (if (if (m_X8_codeAt z_mReadAt mSh frm n) = (44 : Int32) then (1 : Int32) else (0 : Int32)) = 0 then (0 : Int32) else (1 : Int32))), z_mRS)) else (if y3 = 0 then (if y3 = 0 then ((0 : Int32), (z_mReadAt + (if (0 : Int32) = 0 then (0 : Int32) else (1 : Int32))), z_mRS) else ((if (m_X8_codeAt z_mReadAt mSh frm n) = (44 : Int32) then (1 : Int32) else (0 : Int32)), (z_mReadAt + (if (if (m_X8_codeAt z_mReadAt mSh frm n) = (44 : Int32) then (1 : Int32) else (0 : Int32)) = 0 then (0 : Int32) else (1 : Int32))), z_mRS)) else (m_X8_readsSorrows_5 fu mSh frm n (if ((upd z_mRS y4.toNatClampNeg ((m_X8_figure z_mReadAt mSh frm n (9 : Int32)).1)) y4.toNatClampNeg) < 0 then (0 : Int32) else (1 : Int32)) (y4 + 1) ((m_X8_figure z_mReadAt mSh frm n (9 : Int32)).2) (upd z_mRS y4.toNatClampNeg ((m_X8_figure z_mReadAt mSh frm n (9 : Int32)).1)))))
def m_X8_readsSorrows (mReadAt : Int32) (mSh : Nat → Int32) (mRS : Nat → Int32) (frm : Int32) (n : Int32) : (Int32 × Int32 × (Nat → Int32)) := (m_X8_readsSorrows_5 (((4 : Int32).toInt - (0 : Int32).toInt).toNat + 1) mSh frm n (1 : Int32) (0 : Int32) mReadAt mRS)
set_option maxRecDepth 100000 in
set_option maxHeartbeats 4000000 in
theorem l_X8_readsSorrows_5 {X : gX} (D : va_G) (cI : ClassId) (aMO : Nat) (mFault : Int32) (amS : Nat) (mDays : Int32) (amH : Nat) (mLin : Int32) (amK : Nat) (amO : Nat) (amD : Nat) (mCool : Int32) (mReadAt : Int32) (mReadDays : Int32) (mReadLin : Int32) (amRS : Nat) (amRH : Nat) (amRK : Nat) (amRO : Nat) (amRD : Nat) (amDN : Nat) (amSN : Nat) (mDayNow : Int32) (mLast : Int32) (mTears : Int32) (mWrong : Int32) (amTF : Nat) (amTFor : Nat) (amWB : Nat) (mRdn : Int32) (amRdL : Nat) (amRdE : Nat) (amRdD : Nat) (amSz : Nat) (amLane : Nat) (amSh : Nat) (amHands : Nat) (mTrace : Int32) (mSh : Nat → Int32) (mRS : Nat → Int32) (frm : Int32) (n : Int32) (hidx : ∀ j : Int32, 0 ≤ j.toInt → j.toInt < n.toInt → vp_in (frm + j) 240) (hra : 0 ≤ mReadAt.toInt) (hC : Cx X cX8_readsSorrows 5 RX8 wsX8_readsSorrows D [(cI, .int)] ({ frames := 2, cells := 0, slots := 0, locals := 50 } : Room) (some .boolean)) {res : (Int32 × Int32 × (Nat → Int32))} (hX : Rx X D (some (.int res.1)) [(aMO, .inr (8, [.int mFault, .ref amS, .int mDays, .ref amH, .int mLin, .ref amK, .ref amO, .ref amD, .int mCool, .int res.2.1, .int mReadDays, .int mReadLin, .ref amRS, .ref amRH, .ref amRK, .ref amRO, .ref amRD, .ref amDN, .ref amSN, .int mDayNow, .int mLast, .int mTears, .int mWrong, .ref amTF, .ref amTFor, .ref amWB, .int mRdn, .ref amRdL, .ref amRdE, .ref amRdD, .ref amSz, .ref amLane, .ref amSh, .ref amHands, .int mTrace])), (amSh, .inl (cI, 240, .inl mSh)), (amRS, .inl (cI, 4, .inl res.2.2))]) : ∀ (fu : Nat) (y3 : Int32) (y4 : Int32) (z_mReadAt : Int32) (z_mRS : Nat → Int32) (hm : ((4 : Int32).toInt - y4.toInt).toNat < fu) (h0_y4 : 0 ≤ y4.toInt) (hra2 : 0 ≤ z_mReadAt.toInt) (hres : res = m_X8_readsSorrows_5 fu mSh frm n y3 y4 z_mReadAt z_mRS), G X D 5 [(aMO, .inr (8, [.int mFault, .ref amS, .int mDays, .ref amH, .int mLin, .ref amK, .ref amO, .ref amD, .int mCool, .int z_mReadAt, .int mReadDays, .int mReadLin, .ref amRS, .ref amRH, .ref amRK, .ref amRO, .ref amRD, .ref amDN, .ref amSN, .int mDayNow, .int mLast, .int mTears, .int mWrong, .ref amTF, .ref amTFor, .ref amWB, .int mRdn, .ref amRdL, .ref amRdE, .ref amRdD, .ref amSz, .ref amLane, .ref amSh, .ref amHands, .int mTrace])), (amSh, .inl (cI, 240, .inl mSh)), (amRS, .inl (cI, 4, .inl z_mRS))] [(0, .ref aMO), (1, .int frm), (2, .int n), (3, .int y3), (4, .int y4)] 5 [] := by
  intro fu
  induction fu with
  | zero =>
    intro y3 y4 z_mReadAt z_mRS hm
    exact absurd hm (Nat.not_lt_zero _)
  | succ fu ih =>
    intro y3 y4 z_mReadAt z_mRS hm h0_y4 hra2 hres
    rw [m_X8_readsSorrows_5] at hres
    refine g_iload hC dX8_readsSorrows_5 4 rfl rfl ?_
    refine g_iconst (v := 4) hC dX8_readsSorrows_7 (by decide) rfl ?_
    refine g_icmp_ge (tgt := 52) hC dX8_readsSorrows_8 (by decide) rfl (fun c_8 => ?_) (fun c_8 => ?_)
    · rw [if_pos c_8] at hres
      refine g_iload_n hC dX8_readsSorrows_52 rfl 3 rfl rfl ?_
      refine g_if_eq (tgt := 71) hC dX8_readsSorrows_53 (by decide) rfl (fun c_53 => ?_) (fun c_53 => ?_)
      · rw [if_pos c_53] at hres
        refine g_iconst (v := 0) hC dX8_readsSorrows_71 (by decide) rfl ?_
        refine g_istore_n (lv' := [(3, .int (0 : Int32)), (0, .ref aMO), (1, .int frm), (2, .int n), (4, .int y4)]) hC dX8_readsSorrows_72 rfl (by decide) rfl rfl ?_
        refine g_aload_n hC dX8_readsSorrows_73 rfl 1 rfl rfl ?_
        refine g_dup hC dX8_readsSorrows_74 rfl rfl ?_
        refine g_get hC iw_X8_readsSorrows_RX8 0 rfl rfl 9 (by decide) (List.mem_of_getElem? (i := 2) rfl) rfl rfl dX8_readsSorrows_75 rfl ?_
        refine g_iload_n hC dX8_readsSorrows_78 rfl 0 rfl rfl ?_
        have K_79 : ∀ vK : Int32, vK = (if (0 : Int32) = 0 then (0 : Int32) else (1 : Int32)) → G X D 5 [(aMO, .inr (8, [.int mFault, .ref amS, .int mDays, .ref amH, .int mLin, .ref amK, .ref amO, .ref amD, .int mCool, .int z_mReadAt, .int mReadDays, .int mReadLin, .ref amRS, .ref amRH, .ref amRK, .ref amRO, .ref amRD, .ref amDN, .ref amSN, .int mDayNow, .int mLast, .int mTears, .int mWrong, .ref amTF, .ref amTFor, .ref amWB, .int mRdn, .ref amRdL, .ref amRdE, .ref amRdD, .ref amSz, .ref amLane, .ref amSh, .ref amHands, .int mTrace])), (amSh, .inl (cI, 240, .inl mSh)), (amRS, .inl (cI, 4, .inl z_mRS))] [(3, .int (0 : Int32)), (0, .ref aMO), (1, .int frm), (2, .int n), (4, .int y4)] 87 (.int vK :: [.int z_mReadAt, .ref aMO]) := by
          intro vK hvK
          subst hvK
          refine g_iadd hC dX8_readsSorrows_87 rfl ?_
          refine g_put (ws' := [(aMO, .inr (8, [.int mFault, .ref amS, .int mDays, .ref amH, .int mLin, .ref amK, .ref amO, .ref amD, .int mCool, .int (z_mReadAt + (if (0 : Int32) = 0 then (0 : Int32) else (1 : Int32))), .int mReadDays, .int mReadLin, .ref amRS, .ref amRH, .ref amRK, .ref amRO, .ref amRD, .ref amDN, .ref amSN, .int mDayNow, .int mLast, .int mTears, .int mWrong, .ref amTF, .ref amTFor, .ref amWB, .int mRdn, .ref amRdL, .ref amRdE, .ref amRdD, .ref amSz, .ref amLane, .ref amSh, .ref amHands, .int mTrace])), (amSh, .inl (cI, 240, .inl mSh)), (amRS, .inl (cI, 4, .inl z_mRS))]) hC iw_X8_readsSorrows_RX8 0 rfl rfl 9 (by decide) (List.mem_of_getElem? (i := 2) rfl) rfl tyX8 tyX8_ok nmX8 rfl rfl rfl (Nat.le_of_ble_eq_true rfl) rfl dX8_readsSorrows_88 rfl ?_
          refine g_iload_n hC dX8_readsSorrows_91 rfl 0 rfl rfl ?_
          subst hres
          exact g_zret hC hX rfl rfl dX8_readsSorrows_92 rfl rfl
        refine g_if_eq (tgt := 86) hC dX8_readsSorrows_79 (by decide) rfl (fun c_79 => ?_) (fun c_79 => ?_)
        · refine g_iconst (v := 0) hC dX8_readsSorrows_86 (by decide) rfl ?_
          exact K_79 _ (if_pos c_79).symm
        · refine g_iconst (v := 1) hC dX8_readsSorrows_82 (by decide) rfl ?_
          refine g_goto (tgt := 87) hC dX8_readsSorrows_83 (by decide) ?_
          exact K_79 _ (if_neg c_79).symm
      · rw [if_neg c_53] at hres
        refine g_aload_n hC dX8_readsSorrows_56 rfl 0 rfl rfl ?_
        refine g_iload_n hC dX8_readsSorrows_57 rfl 1 rfl rfl ?_
        refine g_iload_n hC dX8_readsSorrows_58 rfl 2 rfl rfl ?_
        refine g_callV (ws' := [(aMO, .inr (8, [.int mFault, .ref amS, .int mDays, .ref amH, .int mLin, .ref amK, .ref amO, .ref amD, .int mCool, .int z_mReadAt, .int mReadDays, .int mReadLin, .ref amRS, .ref amRH, .ref amRK, .ref amRO, .ref amRD, .ref amDN, .ref amSN, .int mDayNow, .int mLast, .int mTears, .int mWrong, .ref amTF, .ref amTFor, .ref amWB, .int mRdn, .ref amRdL, .ref amRdE, .ref amRdD, .ref amSz, .ref amLane, .ref amSh, .ref amHands, .int mTrace])), (amSh, .inl (cI, 240, .inl mSh)), (amRS, .inl (cI, 4, .inl z_mRS))]) (st' := [.int (m_X8_codeAt z_mReadAt mSh frm n)]) (nw := 3) (n1 := 2) hC gX8_readsSorrows_X8_codeAt hdV_yX8_codeAt 0 rfl rfl (As := [.int frm, .int n]) (rest := []) (c_X8_codeAt D cI aMO mFault amS mDays amH mLin amK amO amD mCool z_mReadAt mReadDays mReadLin amRS amRH amRK amRO amRD amDN amSN mDayNow mLast mTears mWrong amTF amTFor amWB mRdn amRdL amRdE amRdD amSz amLane amSh amHands mTrace mSh frm n (by exact hidx) (by exact hra2)) rfl ⟨by decide, by decide⟩ rfl [0, 1] [2] [1, 2, 0] [0] rfl rfl rfl rfl (by decide) rfl rfl (Nat.le_of_ble_eq_true rfl) dX8_readsSorrows_59 rfl rfl ?_
        refine g_bipush (v := 44) hC dX8_readsSorrows_62 (by decide) rfl ?_
        have K_64 : ∀ vK : Int32, vK = (if (m_X8_codeAt z_mReadAt mSh frm n) = (44 : Int32) then (1 : Int32) else (0 : Int32)) → G X D 5 [(aMO, .inr (8, [.int mFault, .ref amS, .int mDays, .ref amH, .int mLin, .ref amK, .ref amO, .ref amD, .int mCool, .int z_mReadAt, .int mReadDays, .int mReadLin, .ref amRS, .ref amRH, .ref amRK, .ref amRO, .ref amRD, .ref amDN, .ref amSN, .int mDayNow, .int mLast, .int mTears, .int mWrong, .ref amTF, .ref amTFor, .ref amWB, .int mRdn, .ref amRdL, .ref amRdE, .ref amRdD, .ref amSz, .ref amLane, .ref amSh, .ref amHands, .int mTrace])), (amSh, .inl (cI, 240, .inl mSh)), (amRS, .inl (cI, 4, .inl z_mRS))] [(0, .ref aMO), (1, .int frm), (2, .int n), (3, .int y3), (4, .int y4)] 72 (.int vK :: []) := by
          intro vK hvK
          subst hvK
          refine g_istore_n (lv' := [(3, .int (if (m_X8_codeAt z_mReadAt mSh frm n) = (44 : Int32) then (1 : Int32) else (0 : Int32))), (0, .ref aMO), (1, .int frm), (2, .int n), (4, .int y4)]) hC dX8_readsSorrows_72 rfl (by decide) rfl rfl ?_
          refine g_aload_n hC dX8_readsSorrows_73 rfl 1 rfl rfl ?_
          refine g_dup hC dX8_readsSorrows_74 rfl rfl ?_
          refine g_get hC iw_X8_readsSorrows_RX8 0 rfl rfl 9 (by decide) (List.mem_of_getElem? (i := 2) rfl) rfl rfl dX8_readsSorrows_75 rfl ?_
          refine g_iload_n hC dX8_readsSorrows_78 rfl 0 rfl rfl ?_
          have K_79 : ∀ vK : Int32, vK = (if (if (m_X8_codeAt z_mReadAt mSh frm n) = (44 : Int32) then (1 : Int32) else (0 : Int32)) = 0 then (0 : Int32) else (1 : Int32)) → G X D 5 [(aMO, .inr (8, [.int mFault, .ref amS, .int mDays, .ref amH, .int mLin, .ref amK, .ref amO, .ref amD, .int mCool, .int z_mReadAt, .int mReadDays, .int mReadLin, .ref amRS, .ref amRH, .ref amRK, .ref amRO, .ref amRD, .ref amDN, .ref amSN, .int mDayNow, .int mLast, .int mTears, .int mWrong, .ref amTF, .ref amTFor, .ref amWB, .int mRdn, .ref amRdL, .ref amRdE, .ref amRdD, .ref amSz, .ref amLane, .ref amSh, .ref amHands, .int mTrace])), (amSh, .inl (cI, 240, .inl mSh)), (amRS, .inl (cI, 4, .inl z_mRS))] [(3, .int (if (m_X8_codeAt z_mReadAt mSh frm n) = (44 : Int32) then (1 : Int32) else (0 : Int32))), (0, .ref aMO), (1, .int frm), (2, .int n), (4, .int y4)] 87 (.int vK :: [.int z_mReadAt, .ref aMO]) := by
            intro vK hvK
            subst hvK
            refine g_iadd hC dX8_readsSorrows_87 rfl ?_
            refine g_put (ws' := [(aMO, .inr (8, [.int mFault, .ref amS, .int mDays, .ref amH, .int mLin, .ref amK, .ref amO, .ref amD, .int mCool, .int (z_mReadAt + (if (if (m_X8_codeAt z_mReadAt mSh frm n) = (44 : Int32) then (1 : Int32) else (0 : Int32)) = 0 then (0 : Int32) else (1 : Int32))), .int mReadDays, .int mReadLin, .ref amRS, .ref amRH, .ref amRK, .ref amRO, .ref amRD, .ref amDN, .ref amSN, .int mDayNow, .int mLast, .int mTears, .int mWrong, .ref amTF, .ref amTFor, .ref amWB, .int mRdn, .ref amRdL, .ref amRdE, .ref amRdD, .ref amSz, .ref amLane, .ref amSh, .ref amHands, .int mTrace])), (amSh, .inl (cI, 240, .inl mSh)), (amRS, .inl (cI, 4, .inl z_mRS))]) hC iw_X8_readsSorrows_RX8 0 rfl rfl 9 (by decide) (List.mem_of_getElem? (i := 2) rfl) rfl tyX8 tyX8_ok nmX8 rfl rfl rfl (Nat.le_of_ble_eq_true rfl) rfl dX8_readsSorrows_88 rfl ?_
            refine g_iload_n hC dX8_readsSorrows_91 rfl 0 rfl rfl ?_
            subst hres
            exact g_zret hC hX rfl (by first | rfl | (split <;> rfl)) dX8_readsSorrows_92 rfl rfl
          refine g_if_eq (tgt := 86) hC dX8_readsSorrows_79 (by decide) rfl (fun c_79 => ?_) (fun c_79 => ?_)
          · refine g_iconst (v := 0) hC dX8_readsSorrows_86 (by decide) rfl ?_
            exact K_79 _ (if_pos c_79).symm
          · refine g_iconst (v := 1) hC dX8_readsSorrows_82 (by decide) rfl ?_
            refine g_goto (tgt := 87) hC dX8_readsSorrows_83 (by decide) ?_
            exact K_79 _ (if_neg c_79).symm
        refine g_icmp_ne (tgt := 71) hC dX8_readsSorrows_64 (by decide) rfl (fun c_64 => ?_) (fun c_64 => ?_)
        · refine g_iconst (v := 0) hC dX8_readsSorrows_71 (by decide) rfl ?_
          exact K_64 _ (if_neg c_64).symm
        · refine g_iconst (v := 1) hC dX8_readsSorrows_67 (by decide) rfl ?_
          refine g_goto (tgt := 72) hC dX8_readsSorrows_68 (by decide) ?_
          exact K_64 _ (if_pos c_64).symm
    · rw [if_neg c_8] at hres
      refine g_iload_n hC dX8_readsSorrows_11 rfl 3 rfl rfl ?_
      refine g_if_eq (tgt := 52) hC dX8_readsSorrows_12 (by decide) rfl (fun c_12 => ?_) (fun c_12 => ?_)
      · rw [if_pos c_12] at hres
        refine g_iload_n hC dX8_readsSorrows_52 rfl 3 rfl rfl ?_
        refine g_if_eq (tgt := 71) hC dX8_readsSorrows_53 (by decide) rfl (fun c_53 => ?_) (fun c_53 => ?_)
        · rw [if_pos c_53] at hres
          refine g_iconst (v := 0) hC dX8_readsSorrows_71 (by decide) rfl ?_
          refine g_istore_n (lv' := [(3, .int (0 : Int32)), (0, .ref aMO), (1, .int frm), (2, .int n), (4, .int y4)]) hC dX8_readsSorrows_72 rfl (by decide) rfl rfl ?_
          refine g_aload_n hC dX8_readsSorrows_73 rfl 1 rfl rfl ?_
          refine g_dup hC dX8_readsSorrows_74 rfl rfl ?_
          refine g_get hC iw_X8_readsSorrows_RX8 0 rfl rfl 9 (by decide) (List.mem_of_getElem? (i := 2) rfl) rfl rfl dX8_readsSorrows_75 rfl ?_
          refine g_iload_n hC dX8_readsSorrows_78 rfl 0 rfl rfl ?_
          have K_79 : ∀ vK : Int32, vK = (if (0 : Int32) = 0 then (0 : Int32) else (1 : Int32)) → G X D 5 [(aMO, .inr (8, [.int mFault, .ref amS, .int mDays, .ref amH, .int mLin, .ref amK, .ref amO, .ref amD, .int mCool, .int z_mReadAt, .int mReadDays, .int mReadLin, .ref amRS, .ref amRH, .ref amRK, .ref amRO, .ref amRD, .ref amDN, .ref amSN, .int mDayNow, .int mLast, .int mTears, .int mWrong, .ref amTF, .ref amTFor, .ref amWB, .int mRdn, .ref amRdL, .ref amRdE, .ref amRdD, .ref amSz, .ref amLane, .ref amSh, .ref amHands, .int mTrace])), (amSh, .inl (cI, 240, .inl mSh)), (amRS, .inl (cI, 4, .inl z_mRS))] [(3, .int (0 : Int32)), (0, .ref aMO), (1, .int frm), (2, .int n), (4, .int y4)] 87 (.int vK :: [.int z_mReadAt, .ref aMO]) := by
            intro vK hvK
            subst hvK
            refine g_iadd hC dX8_readsSorrows_87 rfl ?_
            refine g_put (ws' := [(aMO, .inr (8, [.int mFault, .ref amS, .int mDays, .ref amH, .int mLin, .ref amK, .ref amO, .ref amD, .int mCool, .int (z_mReadAt + (if (0 : Int32) = 0 then (0 : Int32) else (1 : Int32))), .int mReadDays, .int mReadLin, .ref amRS, .ref amRH, .ref amRK, .ref amRO, .ref amRD, .ref amDN, .ref amSN, .int mDayNow, .int mLast, .int mTears, .int mWrong, .ref amTF, .ref amTFor, .ref amWB, .int mRdn, .ref amRdL, .ref amRdE, .ref amRdD, .ref amSz, .ref amLane, .ref amSh, .ref amHands, .int mTrace])), (amSh, .inl (cI, 240, .inl mSh)), (amRS, .inl (cI, 4, .inl z_mRS))]) hC iw_X8_readsSorrows_RX8 0 rfl rfl 9 (by decide) (List.mem_of_getElem? (i := 2) rfl) rfl tyX8 tyX8_ok nmX8 rfl rfl rfl (Nat.le_of_ble_eq_true rfl) rfl dX8_readsSorrows_88 rfl ?_
            refine g_iload_n hC dX8_readsSorrows_91 rfl 0 rfl rfl ?_
            subst hres
            exact g_zret hC hX rfl rfl dX8_readsSorrows_92 rfl rfl
          refine g_if_eq (tgt := 86) hC dX8_readsSorrows_79 (by decide) rfl (fun c_79 => ?_) (fun c_79 => ?_)
          · refine g_iconst (v := 0) hC dX8_readsSorrows_86 (by decide) rfl ?_
            exact K_79 _ (if_pos c_79).symm
          · refine g_iconst (v := 1) hC dX8_readsSorrows_82 (by decide) rfl ?_
            refine g_goto (tgt := 87) hC dX8_readsSorrows_83 (by decide) ?_
            exact K_79 _ (if_neg c_79).symm
        · rw [if_neg c_53] at hres
          refine g_aload_n hC dX8_readsSorrows_56 rfl 0 rfl rfl ?_
          refine g_iload_n hC dX8_readsSorrows_57 rfl 1 rfl rfl ?_
          refine g_iload_n hC dX8_readsSorrows_58 rfl 2 rfl rfl ?_
          refine g_callV (ws' := [(aMO, .inr (8, [.int mFault, .ref amS, .int mDays, .ref amH, .int mLin, .ref amK, .ref amO, .ref amD, .int mCool, .int z_mReadAt, .int mReadDays, .int mReadLin, .ref amRS, .ref amRH, .ref amRK, .ref amRO, .ref amRD, .ref amDN, .ref amSN, .int mDayNow, .int mLast, .int mTears, .int mWrong, .ref amTF, .ref amTFor, .ref amWB, .int mRdn, .ref amRdL, .ref amRdE, .ref amRdD, .ref amSz, .ref amLane, .ref amSh, .ref amHands, .int mTrace])), (amSh, .inl (cI, 240, .inl mSh)), (amRS, .inl (cI, 4, .inl z_mRS))]) (st' := [.int (m_X8_codeAt z_mReadAt mSh frm n)]) (nw := 3) (n1 := 2) hC gX8_readsSorrows_X8_codeAt hdV_yX8_codeAt 0 rfl rfl (As := [.int frm, .int n]) (rest := []) (c_X8_codeAt D cI aMO mFault amS mDays amH mLin amK amO amD mCool z_mReadAt mReadDays mReadLin amRS amRH amRK amRO amRD amDN amSN mDayNow mLast mTears mWrong amTF amTFor amWB mRdn amRdL amRdE amRdD amSz amLane amSh amHands mTrace mSh frm n (by exact hidx) (by exact hra2)) rfl ⟨by decide, by decide⟩ rfl [0, 1] [2] [1, 2, 0] [0] rfl rfl rfl rfl (by decide) rfl rfl (Nat.le_of_ble_eq_true rfl) dX8_readsSorrows_59 rfl rfl ?_
          refine g_bipush (v := 44) hC dX8_readsSorrows_62 (by decide) rfl ?_
          have K_64 : ∀ vK : Int32, vK = (if (m_X8_codeAt z_mReadAt mSh frm n) = (44 : Int32) then (1 : Int32) else (0 : Int32)) → G X D 5 [(aMO, .inr (8, [.int mFault, .ref amS, .int mDays, .ref amH, .int mLin, .ref amK, .ref amO, .ref amD, .int mCool, .int z_mReadAt, .int mReadDays, .int mReadLin, .ref amRS, .ref amRH, .ref amRK, .ref amRO, .ref amRD, .ref amDN, .ref amSN, .int mDayNow, .int mLast, .int mTears, .int mWrong, .ref amTF, .ref amTFor, .ref amWB, .int mRdn, .ref amRdL, .ref amRdE, .ref amRdD, .ref amSz, .ref amLane, .ref amSh, .ref amHands, .int mTrace])), (amSh, .inl (cI, 240, .inl mSh)), (amRS, .inl (cI, 4, .inl z_mRS))] [(0, .ref aMO), (1, .int frm), (2, .int n), (3, .int y3), (4, .int y4)] 72 (.int vK :: []) := by
            intro vK hvK
            subst hvK
            refine g_istore_n (lv' := [(3, .int (if (m_X8_codeAt z_mReadAt mSh frm n) = (44 : Int32) then (1 : Int32) else (0 : Int32))), (0, .ref aMO), (1, .int frm), (2, .int n), (4, .int y4)]) hC dX8_readsSorrows_72 rfl (by decide) rfl rfl ?_
            refine g_aload_n hC dX8_readsSorrows_73 rfl 1 rfl rfl ?_
            refine g_dup hC dX8_readsSorrows_74 rfl rfl ?_
            refine g_get hC iw_X8_readsSorrows_RX8 0 rfl rfl 9 (by decide) (List.mem_of_getElem? (i := 2) rfl) rfl rfl dX8_readsSorrows_75 rfl ?_
            refine g_iload_n hC dX8_readsSorrows_78 rfl 0 rfl rfl ?_
            have K_79 : ∀ vK : Int32, vK = (if (if (m_X8_codeAt z_mReadAt mSh frm n) = (44 : Int32) then (1 : Int32) else (0 : Int32)) = 0 then (0 : Int32) else (1 : Int32)) → G X D 5 [(aMO, .inr (8, [.int mFault, .ref amS, .int mDays, .ref amH, .int mLin, .ref amK, .ref amO, .ref amD, .int mCool, .int z_mReadAt, .int mReadDays, .int mReadLin, .ref amRS, .ref amRH, .ref amRK, .ref amRO, .ref amRD, .ref amDN, .ref amSN, .int mDayNow, .int mLast, .int mTears, .int mWrong, .ref amTF, .ref amTFor, .ref amWB, .int mRdn, .ref amRdL, .ref amRdE, .ref amRdD, .ref amSz, .ref amLane, .ref amSh, .ref amHands, .int mTrace])), (amSh, .inl (cI, 240, .inl mSh)), (amRS, .inl (cI, 4, .inl z_mRS))] [(3, .int (if (m_X8_codeAt z_mReadAt mSh frm n) = (44 : Int32) then (1 : Int32) else (0 : Int32))), (0, .ref aMO), (1, .int frm), (2, .int n), (4, .int y4)] 87 (.int vK :: [.int z_mReadAt, .ref aMO]) := by
              intro vK hvK
              subst hvK
              refine g_iadd hC dX8_readsSorrows_87 rfl ?_
              refine g_put (ws' := [(aMO, .inr (8, [.int mFault, .ref amS, .int mDays, .ref amH, .int mLin, .ref amK, .ref amO, .ref amD, .int mCool, .int (z_mReadAt + (if (if (m_X8_codeAt z_mReadAt mSh frm n) = (44 : Int32) then (1 : Int32) else (0 : Int32)) = 0 then (0 : Int32) else (1 : Int32))), .int mReadDays, .int mReadLin, .ref amRS, .ref amRH, .ref amRK, .ref amRO, .ref amRD, .ref amDN, .ref amSN, .int mDayNow, .int mLast, .int mTears, .int mWrong, .ref amTF, .ref amTFor, .ref amWB, .int mRdn, .ref amRdL, .ref amRdE, .ref amRdD, .ref amSz, .ref amLane, .ref amSh, .ref amHands, .int mTrace])), (amSh, .inl (cI, 240, .inl mSh)), (amRS, .inl (cI, 4, .inl z_mRS))]) hC iw_X8_readsSorrows_RX8 0 rfl rfl 9 (by decide) (List.mem_of_getElem? (i := 2) rfl) rfl tyX8 tyX8_ok nmX8 rfl rfl rfl (Nat.le_of_ble_eq_true rfl) rfl dX8_readsSorrows_88 rfl ?_
              refine g_iload_n hC dX8_readsSorrows_91 rfl 0 rfl rfl ?_
              subst hres
              exact g_zret hC hX rfl (by first | rfl | (split <;> rfl)) dX8_readsSorrows_92 rfl rfl
            refine g_if_eq (tgt := 86) hC dX8_readsSorrows_79 (by decide) rfl (fun c_79 => ?_) (fun c_79 => ?_)
            · refine g_iconst (v := 0) hC dX8_readsSorrows_86 (by decide) rfl ?_
              exact K_79 _ (if_pos c_79).symm
            · refine g_iconst (v := 1) hC dX8_readsSorrows_82 (by decide) rfl ?_
              refine g_goto (tgt := 87) hC dX8_readsSorrows_83 (by decide) ?_
              exact K_79 _ (if_neg c_79).symm
          refine g_icmp_ne (tgt := 71) hC dX8_readsSorrows_64 (by decide) rfl (fun c_64 => ?_) (fun c_64 => ?_)
          · refine g_iconst (v := 0) hC dX8_readsSorrows_71 (by decide) rfl ?_
            exact K_64 _ (if_neg c_64).symm
          · refine g_iconst (v := 1) hC dX8_readsSorrows_67 (by decide) rfl ?_
            refine g_goto (tgt := 72) hC dX8_readsSorrows_68 (by decide) ?_
            exact K_64 _ (if_pos c_64).symm
      · rw [if_neg c_12] at hres
        refine g_aload_n hC dX8_readsSorrows_15 rfl 0 rfl rfl ?_
        refine g_get hC iw_X8_readsSorrows_RX8 0 rfl rfl 12 (by decide) (List.mem_of_getElem? (i := 1) rfl) rfl rfl dX8_readsSorrows_16 rfl ?_
        refine g_iload hC dX8_readsSorrows_19 4 rfl rfl ?_
        refine g_aload_n hC dX8_readsSorrows_21 rfl 0 rfl rfl ?_
        refine g_iload_n hC dX8_readsSorrows_22 rfl 1 rfl rfl ?_
        refine g_iload_n hC dX8_readsSorrows_23 rfl 2 rfl rfl ?_
        refine g_bipush (v := 9) hC dX8_readsSorrows_24 (by decide) rfl ?_
        refine g_callV (ws' := [(aMO, .inr (8, [.int mFault, .ref amS, .int mDays, .ref amH, .int mLin, .ref amK, .ref amO, .ref amD, .int mCool, .int ((m_X8_figure z_mReadAt mSh frm n (9 : Int32)).2), .int mReadDays, .int mReadLin, .ref amRS, .ref amRH, .ref amRK, .ref amRO, .ref amRD, .ref amDN, .ref amSN, .int mDayNow, .int mLast, .int mTears, .int mWrong, .ref amTF, .ref amTFor, .ref amWB, .int mRdn, .ref amRdL, .ref amRdE, .ref amRdD, .ref amSz, .ref amLane, .ref amSh, .ref amHands, .int mTrace])), (amSh, .inl (cI, 240, .inl mSh)), (amRS, .inl (cI, 4, .inl z_mRS))]) (st' := [.int ((m_X8_figure z_mReadAt mSh frm n (9 : Int32)).1), .int y4, .ref amRS]) (nw := 3) (n1 := 2) hC gX8_readsSorrows_X8_figure hdV_yX8_figure 0 rfl rfl (As := [.int frm, .int n, .int (9 : Int32)]) (rest := [.int y4, .ref amRS]) (c_X8_figure D cI aMO mFault amS mDays amH mLin amK amO amD mCool z_mReadAt mReadDays mReadLin amRS amRH amRK amRO amRD amDN amSN mDayNow mLast mTears mWrong amTF amTFor amWB mRdn amRdL amRdE amRdD amSz amLane amSh amHands mTrace mSh frm n (9 : Int32) (by exact hidx) (by exact hra2)) rfl ⟨by decide, by decide⟩ rfl [0, 1] [2] [1, 2, 0] [0] rfl rfl rfl rfl (by decide) rfl rfl (Nat.le_of_ble_eq_true rfl) dX8_readsSorrows_26 rfl rfl ?_
        refine g_iast (ws' := [(aMO, .inr (8, [.int mFault, .ref amS, .int mDays, .ref amH, .int mLin, .ref amK, .ref amO, .ref amD, .int mCool, .int ((m_X8_figure z_mReadAt mSh frm n (9 : Int32)).2), .int mReadDays, .int mReadLin, .ref amRS, .ref amRH, .ref amRK, .ref amRO, .ref amRD, .ref amDN, .ref amSN, .int mDayNow, .int mLast, .int mTears, .int mWrong, .ref amTF, .ref amTFor, .ref amWB, .int mRdn, .ref amRdL, .ref amRdE, .ref amRdD, .ref amSz, .ref amLane, .ref amSh, .ref amHands, .int mTrace])), (amSh, .inl (cI, 240, .inl mSh)), (amRS, .inl (cI, 4, .inl (upd z_mRS y4.toNatClampNeg ((m_X8_figure z_mReadAt mSh frm n (9 : Int32)).1))))]) hC 2 0 rfl rfl (by exact in_up h0_y4 c_8 (by decide)) rfl dX8_readsSorrows_29 rfl ?_
        refine g_aload_n hC dX8_readsSorrows_30 rfl 0 rfl rfl ?_
        refine g_get hC iw_X8_readsSorrows_RX8 0 rfl rfl 12 (by decide) (List.mem_of_getElem? (i := 1) rfl) rfl rfl dX8_readsSorrows_31 rfl ?_
        refine g_iload hC dX8_readsSorrows_34 4 rfl rfl ?_
        refine g_iald hC 2 0 rfl rfl (by exact in_up h0_y4 c_8 (by decide)) dX8_readsSorrows_36 rfl ?_
        have K_37 : ∀ vK : Int32, vK = (if ((upd z_mRS y4.toNatClampNeg ((m_X8_figure z_mReadAt mSh frm n (9 : Int32)).1)) y4.toNatClampNeg) < 0 then (0 : Int32) else (1 : Int32)) → G X D 5 [(aMO, .inr (8, [.int mFault, .ref amS, .int mDays, .ref amH, .int mLin, .ref amK, .ref amO, .ref amD, .int mCool, .int ((m_X8_figure z_mReadAt mSh frm n (9 : Int32)).2), .int mReadDays, .int mReadLin, .ref amRS, .ref amRH, .ref amRK, .ref amRO, .ref amRD, .ref amDN, .ref amSN, .int mDayNow, .int mLast, .int mTears, .int mWrong, .ref amTF, .ref amTFor, .ref amWB, .int mRdn, .ref amRdL, .ref amRdE, .ref amRdD, .ref amSz, .ref amLane, .ref amSh, .ref amHands, .int mTrace])), (amSh, .inl (cI, 240, .inl mSh)), (amRS, .inl (cI, 4, .inl (upd z_mRS y4.toNatClampNeg ((m_X8_figure z_mReadAt mSh frm n (9 : Int32)).1))))] [(0, .ref aMO), (1, .int frm), (2, .int n), (3, .int y3), (4, .int y4)] 45 (.int vK :: []) := by
          intro vK hvK
          subst hvK
          refine g_istore_n (lv' := [(3, .int (if ((upd z_mRS y4.toNatClampNeg ((m_X8_figure z_mReadAt mSh frm n (9 : Int32)).1)) y4.toNatClampNeg) < 0 then (0 : Int32) else (1 : Int32))), (0, .ref aMO), (1, .int frm), (2, .int n), (4, .int y4)]) hC dX8_readsSorrows_45 rfl (by decide) rfl rfl ?_
          refine g_iinc (v := (y4 + 1)) (lv' := [(4, .int (y4 + 1)), (3, .int (if ((upd z_mRS y4.toNatClampNeg ((m_X8_figure z_mReadAt mSh frm n (9 : Int32)).1)) y4.toNatClampNeg) < 0 then (0 : Int32) else (1 : Int32))), (0, .ref aMO), (1, .int frm), (2, .int n)]) hC dX8_readsSorrows_46 4 rfl rfl (by decide) rfl rfl ?_
          refine g_goto (tgt := 5) hC dX8_readsSorrows_49 (by decide) ?_
          refine g_sub [2, 3, 4, 1, 0] rfl ?_
          exact ih (if ((upd z_mRS y4.toNatClampNeg ((m_X8_figure z_mReadAt mSh frm n (9 : Int32)).1)) y4.toNatClampNeg) < 0 then (0 : Int32) else (1 : Int32)) (y4 + 1) ((m_X8_figure z_mReadAt mSh frm n (9 : Int32)).2) (upd z_mRS y4.toNatClampNeg ((m_X8_figure z_mReadAt mSh frm n (9 : Int32)).1)) (up_dec c_8 hm) (up_nn c_8 h0_y4) (by exact fig_ra hra2) hres
        refine g_if_lt (tgt := 44) hC dX8_readsSorrows_37 (by decide) rfl (fun c_37 => ?_) (fun c_37 => ?_)
        · refine g_iconst (v := 0) hC dX8_readsSorrows_44 (by decide) rfl ?_
          exact K_37 _ (if_pos c_37).symm
        · refine g_iconst (v := 1) hC dX8_readsSorrows_40 (by decide) rfl ?_
          refine g_goto (tgt := 45) hC dX8_readsSorrows_41 (by decide) ?_
          exact K_37 _ (if_neg c_37).symm
set_option maxRecDepth 100000 in
set_option maxHeartbeats 4000000 in
theorem c_X8_readsSorrows (D : va_G) (cI : ClassId) (aMO : Nat) (mFault : Int32) (amS : Nat) (mDays : Int32) (amH : Nat) (mLin : Int32) (amK : Nat) (amO : Nat) (amD : Nat) (mCool : Int32) (mReadAt : Int32) (mReadDays : Int32) (mReadLin : Int32) (amRS : Nat) (amRH : Nat) (amRK : Nat) (amRO : Nat) (amRD : Nat) (amDN : Nat) (amSN : Nat) (mDayNow : Int32) (mLast : Int32) (mTears : Int32) (mWrong : Int32) (amTF : Nat) (amTFor : Nat) (amWB : Nat) (mRdn : Int32) (amRdL : Nat) (amRdE : Nat) (amRdD : Nat) (amSz : Nat) (amLane : Nat) (amSh : Nat) (amHands : Nat) (mTrace : Int32) (mSh : Nat → Int32) (mRS : Nat → Int32) (frm : Int32) (n : Int32) (hidx : ∀ j : Int32, 0 ≤ j.toInt → j.toInt < n.toInt → vp_in (frm + j) 240) (hra : 0 ≤ mReadAt.toInt) : MC yX8_readsSorrows wsX8_readsSorrows ({ frames := 2, cells := 0, slots := 0, locals := 50 } : Room) D [(cI, .int)] [.ref aMO, .int frm, .int n] [(aMO, .inr (8, [.int mFault, .ref amS, .int mDays, .ref amH, .int mLin, .ref amK, .ref amO, .ref amD, .int mCool, .int mReadAt, .int mReadDays, .int mReadLin, .ref amRS, .ref amRH, .ref amRK, .ref amRO, .ref amRD, .ref amDN, .ref amSN, .int mDayNow, .int mLast, .int mTears, .int mWrong, .ref amTF, .ref amTFor, .ref amWB, .int mRdn, .ref amRdL, .ref amRdE, .ref amRdD, .ref amSz, .ref amLane, .ref amSh, .ref amHands, .int mTrace])), (amSh, .inl (cI, 240, .inl mSh)), (amRS, .inl (cI, 4, .inl mRS))] (some (.int ((m_X8_readsSorrows mReadAt mSh mRS frm n).1))) [(aMO, .inr (8, [.int mFault, .ref amS, .int mDays, .ref amH, .int mLin, .ref amK, .ref amO, .ref amD, .int mCool, .int ((m_X8_readsSorrows mReadAt mSh mRS frm n).2.1), .int mReadDays, .int mReadLin, .ref amRS, .ref amRH, .ref amRK, .ref amRO, .ref amRD, .ref amDN, .ref amSN, .int mDayNow, .int mLast, .int mTears, .int mWrong, .ref amTF, .ref amTFor, .ref amWB, .int mRdn, .ref amRdL, .ref amRdE, .ref amRdD, .ref amSz, .ref amLane, .ref amSh, .ref amHands, .int mTrace])), (amSh, .inl (cI, 240, .inl mSh)), (amRS, .inl (cI, 4, .inl ((m_X8_readsSorrows mReadAt mSh mRS frm n).2.2)))] := by
  refine g_entry (by decide) rfl rfl rfl rfl (Nat.le_of_ble_eq_true rfl) (lv := [(0, .ref aMO), (1, .int frm), (2, .int n)]) rfl ?_
  intro X hC hX
  obtain ⟨res, hres⟩ : ∃ z, z = (m_X8_readsSorrows mReadAt mSh mRS frm n) := ⟨_, rfl⟩
  rw [← hres] at hX
  rw [m_X8_readsSorrows] at hres
  refine g_iconst (v := 1) hC dX8_readsSorrows_0 (by decide) rfl ?_
  refine g_istore_n (lv' := [(3, .int (1 : Int32)), (0, .ref aMO), (1, .int frm), (2, .int n)]) hC dX8_readsSorrows_1 rfl (by decide) rfl rfl ?_
  refine g_iconst (v := 0) hC dX8_readsSorrows_2 (by decide) rfl ?_
  refine g_istore (lv' := [(4, .int (0 : Int32)), (3, .int (1 : Int32)), (0, .ref aMO), (1, .int frm), (2, .int n)]) hC dX8_readsSorrows_3 (by decide) rfl rfl ?_
  refine g_sub [2, 3, 4, 1, 0] rfl ?_
  exact l_X8_readsSorrows_5 D cI aMO mFault amS mDays amH mLin amK amO amD mCool mReadAt mReadDays mReadLin amRS amRH amRK amRO amRD amDN amSN mDayNow mLast mTears mWrong amTF amTFor amWB mRdn amRdL amRdE amRdD amSz amLane amSh amHands mTrace mSh mRS frm n hidx hra hC hX (((4 : Int32).toInt - (0 : Int32).toInt).toNat + 1) (1 : Int32) (0 : Int32) mReadAt mRS (Nat.lt_succ_self _) (by decide) (by exact hra) hres
theorem iw_X8_readsDays_RX8 : ∀ w ∈ wsX80, w ∈ wsX8_readsDays := fun _ h => List.mem_cons_of_mem _ (List.mem_append_right _ (h))
def m_X8_readsDays_2 : Nat → (Nat → Int32) → Int32 → Int32 → Int32 → Int32 → Int32 → (Nat → Int32) → (Int32 × Int32 × Int32 × (Nat → Int32))
  | 0, _, _, _, _, _, _, _ => default
  | fu + 1, mSh, frm, n, y3, z_mReadAt, z_mReadDays, z_mRH => (if (6 : Int32) ≤ z_mReadDays then (if z_mReadDays ≤ 0 then ((0 : Int32), z_mReadAt, z_mReadDays, z_mRH) else ((1 : Int32), z_mReadAt, z_mReadDays, z_mRH)) else (if y3 = 0 then (if z_mReadDays ≤ 0 then ((0 : Int32), z_mReadAt, z_mReadDays, z_mRH) else ((1 : Int32), z_mReadAt, z_mReadDays, z_mRH)) else (if (if (m_X8_figure z_mReadAt mSh frm n (9 : Int32)).1 < 0 then (0 : Int32) else (1 : Int32)) = 0 then (m_X8_readsDays_2 fu mSh frm n (if (m_X8_figure z_mReadAt mSh frm n (9 : Int32)).1 < 0 then (0 : Int32) else (1 : Int32)) ((m_X8_figure z_mReadAt mSh frm n (9 : Int32)).2) z_mReadDays z_mRH) else (m_X8_readsDays_2 fu mSh frm n (if (m_X8_figure z_mReadAt mSh frm n (9 : Int32)).1 < 0 then (0 : Int32) else (1 : Int32)) ((m_X8_figure z_mReadAt mSh frm n (9 : Int32)).2) (z_mReadDays + (1 : Int32)) (upd z_mRH z_mReadDays.toNatClampNeg ((m_X8_figure z_mReadAt mSh frm n (9 : Int32)).1))))))
def m_X8_readsDays (mReadAt : Int32) (mReadDays : Int32) (mSh : Nat → Int32) (mRH : Nat → Int32) (frm : Int32) (n : Int32) : (Int32 × Int32 × Int32 × (Nat → Int32)) := (m_X8_readsDays_2 ((2 * (6 - mReadDays.toInt) + (1 : Int32).toInt).toNat + 1) mSh frm n (1 : Int32) mReadAt mReadDays mRH)
set_option maxRecDepth 100000 in
set_option maxHeartbeats 4000000 in
theorem l_X8_readsDays_2 {X : gX} (D : va_G) (cI : ClassId) (aMO : Nat) (mFault : Int32) (amS : Nat) (mDays : Int32) (amH : Nat) (mLin : Int32) (amK : Nat) (amO : Nat) (amD : Nat) (mCool : Int32) (mReadAt : Int32) (mReadDays : Int32) (mReadLin : Int32) (amRS : Nat) (amRH : Nat) (amRK : Nat) (amRO : Nat) (amRD : Nat) (amDN : Nat) (amSN : Nat) (mDayNow : Int32) (mLast : Int32) (mTears : Int32) (mWrong : Int32) (amTF : Nat) (amTFor : Nat) (amWB : Nat) (mRdn : Int32) (amRdL : Nat) (amRdE : Nat) (amRdD : Nat) (amSz : Nat) (amLane : Nat) (amSh : Nat) (amHands : Nat) (mTrace : Int32) (mSh : Nat → Int32) (mRH : Nat → Int32) (frm : Int32) (n : Int32) (hidx : ∀ j : Int32, 0 ≤ j.toInt → j.toInt < n.toInt → vp_in (frm + j) 240) (hra : 0 ≤ mReadAt.toInt) (hrd0 : mReadDays = 0) (hC : Cx X cX8_readsDays 5 RX8 wsX8_readsDays D [(cI, .int)] ({ frames := 2, cells := 0, slots := 0, locals := 50 } : Room) (some .boolean)) {res : (Int32 × Int32 × Int32 × (Nat → Int32))} (hX : Rx X D (some (.int res.1)) [(aMO, .inr (8, [.int mFault, .ref amS, .int mDays, .ref amH, .int mLin, .ref amK, .ref amO, .ref amD, .int mCool, .int res.2.1, .int res.2.2.1, .int mReadLin, .ref amRS, .ref amRH, .ref amRK, .ref amRO, .ref amRD, .ref amDN, .ref amSN, .int mDayNow, .int mLast, .int mTears, .int mWrong, .ref amTF, .ref amTFor, .ref amWB, .int mRdn, .ref amRdL, .ref amRdE, .ref amRdD, .ref amSz, .ref amLane, .ref amSh, .ref amHands, .int mTrace])), (amSh, .inl (cI, 240, .inl mSh)), (amRH, .inl (cI, 6, .inl res.2.2.2))]) : ∀ (fu : Nat) (y3 : Int32) (z_mReadAt : Int32) (z_mReadDays : Int32) (z_mRH : Nat → Int32) (hm : (2 * (6 - z_mReadDays.toInt) + y3.toInt).toNat < fu) (hra2 : 0 ≤ z_mReadAt.toInt) (hrd : 0 ≤ z_mReadDays.toInt ∧ z_mReadDays.toInt ≤ 6) (hb01 : y3 = 0 ∨ y3 = 1) (hres : res = m_X8_readsDays_2 fu mSh frm n y3 z_mReadAt z_mReadDays z_mRH), G X D 5 [(aMO, .inr (8, [.int mFault, .ref amS, .int mDays, .ref amH, .int mLin, .ref amK, .ref amO, .ref amD, .int mCool, .int z_mReadAt, .int z_mReadDays, .int mReadLin, .ref amRS, .ref amRH, .ref amRK, .ref amRO, .ref amRD, .ref amDN, .ref amSN, .int mDayNow, .int mLast, .int mTears, .int mWrong, .ref amTF, .ref amTFor, .ref amWB, .int mRdn, .ref amRdL, .ref amRdE, .ref amRdD, .ref amSz, .ref amLane, .ref amSh, .ref amHands, .int mTrace])), (amSh, .inl (cI, 240, .inl mSh)), (amRH, .inl (cI, 6, .inl z_mRH))] [(0, .ref aMO), (1, .int frm), (2, .int n), (3, .int y3)] 2 [] := by
  intro fu
  induction fu with
  | zero =>
    intro y3 z_mReadAt z_mReadDays z_mRH hm
    exact absurd hm (Nat.not_lt_zero _)
  | succ fu ih =>
    intro y3 z_mReadAt z_mReadDays z_mRH hm hra2 hrd hb01 hres
    rw [m_X8_readsDays_2] at hres
    refine g_aload_n hC dX8_readsDays_2 rfl 0 rfl rfl ?_
    refine g_get hC iw_X8_readsDays_RX8 0 rfl rfl 10 (by decide) (List.mem_of_getElem? (i := 1) rfl) rfl rfl dX8_readsDays_3 rfl ?_
    refine g_bipush (v := 6) hC dX8_readsDays_6 (by decide) rfl ?_
    refine g_icmp_ge (tgt := 64) hC dX8_readsDays_8 (by decide) rfl (fun c_8 => ?_) (fun c_8 => ?_)
    · rw [if_pos c_8] at hres
      refine g_aload_n hC dX8_readsDays_64 rfl 0 rfl rfl ?_
      refine g_get hC iw_X8_readsDays_RX8 0 rfl rfl 10 (by decide) (List.mem_of_getElem? (i := 1) rfl) rfl rfl dX8_readsDays_65 rfl ?_
      refine g_if_le (tgt := 75) hC dX8_readsDays_68 (by decide) rfl (fun c_68 => ?_) (fun c_68 => ?_)
      · rw [if_pos c_68] at hres
        refine g_iconst (v := 0) hC dX8_readsDays_75 (by decide) rfl ?_
        subst hres
        exact g_zret hC hX rfl rfl dX8_readsDays_76 rfl rfl
      · rw [if_neg c_68] at hres
        refine g_iconst (v := 1) hC dX8_readsDays_71 (by decide) rfl ?_
        refine g_goto (tgt := 76) hC dX8_readsDays_72 (by decide) ?_
        subst hres
        exact g_zret hC hX rfl rfl dX8_readsDays_76 rfl rfl
    · rw [if_neg c_8] at hres
      refine g_iload_n hC dX8_readsDays_11 rfl 3 rfl rfl ?_
      refine g_if_eq (tgt := 64) hC dX8_readsDays_12 (by decide) rfl (fun c_12 => ?_) (fun c_12 => ?_)
      · rw [if_pos c_12] at hres
        refine g_aload_n hC dX8_readsDays_64 rfl 0 rfl rfl ?_
        refine g_get hC iw_X8_readsDays_RX8 0 rfl rfl 10 (by decide) (List.mem_of_getElem? (i := 1) rfl) rfl rfl dX8_readsDays_65 rfl ?_
        refine g_if_le (tgt := 75) hC dX8_readsDays_68 (by decide) rfl (fun c_68 => ?_) (fun c_68 => ?_)
        · rw [if_pos c_68] at hres
          refine g_iconst (v := 0) hC dX8_readsDays_75 (by decide) rfl ?_
          subst hres
          exact g_zret hC hX rfl rfl dX8_readsDays_76 rfl rfl
        · rw [if_neg c_68] at hres
          refine g_iconst (v := 1) hC dX8_readsDays_71 (by decide) rfl ?_
          refine g_goto (tgt := 76) hC dX8_readsDays_72 (by decide) ?_
          subst hres
          exact g_zret hC hX rfl rfl dX8_readsDays_76 rfl rfl
      · rw [if_neg c_12] at hres
        refine g_aload_n hC dX8_readsDays_15 rfl 0 rfl rfl ?_
        refine g_iload_n hC dX8_readsDays_16 rfl 1 rfl rfl ?_
        refine g_iload_n hC dX8_readsDays_17 rfl 2 rfl rfl ?_
        refine g_bipush (v := 9) hC dX8_readsDays_18 (by decide) rfl ?_
        refine g_callV (ws' := [(aMO, .inr (8, [.int mFault, .ref amS, .int mDays, .ref amH, .int mLin, .ref amK, .ref amO, .ref amD, .int mCool, .int ((m_X8_figure z_mReadAt mSh frm n (9 : Int32)).2), .int z_mReadDays, .int mReadLin, .ref amRS, .ref amRH, .ref amRK, .ref amRO, .ref amRD, .ref amDN, .ref amSN, .int mDayNow, .int mLast, .int mTears, .int mWrong, .ref amTF, .ref amTFor, .ref amWB, .int mRdn, .ref amRdL, .ref amRdE, .ref amRdD, .ref amSz, .ref amLane, .ref amSh, .ref amHands, .int mTrace])), (amSh, .inl (cI, 240, .inl mSh)), (amRH, .inl (cI, 6, .inl z_mRH))]) (st' := [.int ((m_X8_figure z_mReadAt mSh frm n (9 : Int32)).1)]) (nw := 3) (n1 := 2) hC gX8_readsDays_X8_figure hdV_yX8_figure 0 rfl rfl (As := [.int frm, .int n, .int (9 : Int32)]) (rest := []) (c_X8_figure D cI aMO mFault amS mDays amH mLin amK amO amD mCool z_mReadAt z_mReadDays mReadLin amRS amRH amRK amRO amRD amDN amSN mDayNow mLast mTears mWrong amTF amTFor amWB mRdn amRdL amRdE amRdD amSz amLane amSh amHands mTrace mSh frm n (9 : Int32) (by exact hidx) (by exact hra2)) rfl ⟨by decide, by decide⟩ rfl [0, 1] [2] [1, 2, 0] [0] rfl rfl rfl rfl (by decide) rfl rfl (Nat.le_of_ble_eq_true rfl) dX8_readsDays_20 rfl rfl ?_
        refine g_istore (lv' := [(4, .int ((m_X8_figure z_mReadAt mSh frm n (9 : Int32)).1)), (0, .ref aMO), (1, .int frm), (2, .int n), (3, .int y3)]) hC dX8_readsDays_23 (by decide) rfl rfl ?_
        refine g_iload hC dX8_readsDays_25 0 rfl rfl ?_
        have K_27 : ∀ vK : Int32, vK = (if (m_X8_figure z_mReadAt mSh frm n (9 : Int32)).1 < 0 then (0 : Int32) else (1 : Int32)) → G X D 5 [(aMO, .inr (8, [.int mFault, .ref amS, .int mDays, .ref amH, .int mLin, .ref amK, .ref amO, .ref amD, .int mCool, .int ((m_X8_figure z_mReadAt mSh frm n (9 : Int32)).2), .int z_mReadDays, .int mReadLin, .ref amRS, .ref amRH, .ref amRK, .ref amRO, .ref amRD, .ref amDN, .ref amSN, .int mDayNow, .int mLast, .int mTears, .int mWrong, .ref amTF, .ref amTFor, .ref amWB, .int mRdn, .ref amRdL, .ref amRdE, .ref amRdD, .ref amSz, .ref amLane, .ref amSh, .ref amHands, .int mTrace])), (amSh, .inl (cI, 240, .inl mSh)), (amRH, .inl (cI, 6, .inl z_mRH))] [(4, .int ((m_X8_figure z_mReadAt mSh frm n (9 : Int32)).1)), (0, .ref aMO), (1, .int frm), (2, .int n), (3, .int y3)] 35 (.int vK :: []) := by
          intro vK hvK
          subst hvK
          refine g_istore_n (lv' := [(3, .int (if (m_X8_figure z_mReadAt mSh frm n (9 : Int32)).1 < 0 then (0 : Int32) else (1 : Int32))), (4, .int ((m_X8_figure z_mReadAt mSh frm n (9 : Int32)).1)), (0, .ref aMO), (1, .int frm), (2, .int n)]) hC dX8_readsDays_35 rfl (by decide) rfl rfl ?_
          refine g_iload_n hC dX8_readsDays_36 rfl 0 rfl rfl ?_
          refine g_if_eq (tgt := 61) hC dX8_readsDays_37 (by decide) rfl (fun c_37 => ?_) (fun c_37 => ?_)
          · rw [if_pos c_37] at hres
            refine g_goto (tgt := 2) hC dX8_readsDays_61 (by decide) ?_
            refine g_sub [2, 3, 4, 0] rfl ?_
            exact ih (if (m_X8_figure z_mReadAt mSh frm n (9 : Int32)).1 < 0 then (0 : Int32) else (1 : Int32)) ((m_X8_figure z_mReadAt mSh frm n (9 : Int32)).2) z_mReadDays z_mRH (by exact rdA hb01 c_12 c_37 hrd.2 hm) (by exact fig_ra hra2) (by exact hrd) (by exact if01 _) hres
          · rw [if_neg c_37] at hres
            refine g_aload_n hC dX8_readsDays_40 rfl 2 rfl rfl ?_
            refine g_get hC iw_X8_readsDays_RX8 0 rfl rfl 13 (by decide) (List.mem_of_getElem? (i := 2) rfl) rfl rfl dX8_readsDays_41 rfl ?_
            refine g_aload_n hC dX8_readsDays_44 rfl 2 rfl rfl ?_
            refine g_get hC iw_X8_readsDays_RX8 0 rfl rfl 10 (by decide) (List.mem_of_getElem? (i := 1) rfl) rfl rfl dX8_readsDays_45 rfl ?_
            refine g_iload hC dX8_readsDays_48 1 rfl rfl ?_
            refine g_iast (ws' := [(aMO, .inr (8, [.int mFault, .ref amS, .int mDays, .ref amH, .int mLin, .ref amK, .ref amO, .ref amD, .int mCool, .int ((m_X8_figure z_mReadAt mSh frm n (9 : Int32)).2), .int z_mReadDays, .int mReadLin, .ref amRS, .ref amRH, .ref amRK, .ref amRO, .ref amRD, .ref amDN, .ref amSN, .int mDayNow, .int mLast, .int mTears, .int mWrong, .ref amTF, .ref amTFor, .ref amWB, .int mRdn, .ref amRdL, .ref amRdE, .ref amRdD, .ref amSz, .ref amLane, .ref amSh, .ref amHands, .int mTrace])), (amSh, .inl (cI, 240, .inl mSh)), (amRH, .inl (cI, 6, .inl (upd z_mRH z_mReadDays.toNatClampNeg ((m_X8_figure z_mReadAt mSh frm n (9 : Int32)).1))))]) hC 2 0 rfl rfl (by exact in_up hrd.1 c_8 (by decide)) rfl dX8_readsDays_50 rfl ?_
            refine g_aload_n hC dX8_readsDays_51 rfl 2 rfl rfl ?_
            refine g_dup hC dX8_readsDays_52 rfl rfl ?_
            refine g_get hC iw_X8_readsDays_RX8 0 rfl rfl 10 (by decide) (List.mem_of_getElem? (i := 1) rfl) rfl rfl dX8_readsDays_53 rfl ?_
            refine g_iconst (v := 1) hC dX8_readsDays_56 (by decide) rfl ?_
            refine g_iadd hC dX8_readsDays_57 rfl ?_
            refine g_put (ws' := [(aMO, .inr (8, [.int mFault, .ref amS, .int mDays, .ref amH, .int mLin, .ref amK, .ref amO, .ref amD, .int mCool, .int ((m_X8_figure z_mReadAt mSh frm n (9 : Int32)).2), .int (z_mReadDays + (1 : Int32)), .int mReadLin, .ref amRS, .ref amRH, .ref amRK, .ref amRO, .ref amRD, .ref amDN, .ref amSN, .int mDayNow, .int mLast, .int mTears, .int mWrong, .ref amTF, .ref amTFor, .ref amWB, .int mRdn, .ref amRdL, .ref amRdE, .ref amRdD, .ref amSz, .ref amLane, .ref amSh, .ref amHands, .int mTrace])), (amSh, .inl (cI, 240, .inl mSh)), (amRH, .inl (cI, 6, .inl (upd z_mRH z_mReadDays.toNatClampNeg ((m_X8_figure z_mReadAt mSh frm n (9 : Int32)).1))))]) hC iw_X8_readsDays_RX8 0 rfl rfl 10 (by decide) (List.mem_of_getElem? (i := 1) rfl) rfl tyX8 tyX8_ok nmX8 rfl rfl rfl (Nat.le_of_ble_eq_true rfl) rfl dX8_readsDays_58 rfl ?_
            refine g_goto (tgt := 2) hC dX8_readsDays_61 (by decide) ?_
            refine g_sub [2, 3, 4, 0] rfl ?_
            exact ih (if (m_X8_figure z_mReadAt mSh frm n (9 : Int32)).1 < 0 then (0 : Int32) else (1 : Int32)) ((m_X8_figure z_mReadAt mSh frm n (9 : Int32)).2) (z_mReadDays + (1 : Int32)) (upd z_mRH z_mReadDays.toNatClampNeg ((m_X8_figure z_mReadAt mSh frm n (9 : Int32)).1)) (by exact rdB hb01 c_12 (if01 _) c_8 hm) (by exact fig_ra hra2) (by exact rd6 hrd.1 c_8) (by exact if01 _) hres
        refine g_if_lt (tgt := 34) hC dX8_readsDays_27 (by decide) rfl (fun c_27 => ?_) (fun c_27 => ?_)
        · refine g_iconst (v := 0) hC dX8_readsDays_34 (by decide) rfl ?_
          exact K_27 _ (if_pos c_27).symm
        · refine g_iconst (v := 1) hC dX8_readsDays_30 (by decide) rfl ?_
          refine g_goto (tgt := 35) hC dX8_readsDays_31 (by decide) ?_
          exact K_27 _ (if_neg c_27).symm
set_option maxRecDepth 100000 in
set_option maxHeartbeats 4000000 in
theorem c_X8_readsDays (D : va_G) (cI : ClassId) (aMO : Nat) (mFault : Int32) (amS : Nat) (mDays : Int32) (amH : Nat) (mLin : Int32) (amK : Nat) (amO : Nat) (amD : Nat) (mCool : Int32) (mReadAt : Int32) (mReadDays : Int32) (mReadLin : Int32) (amRS : Nat) (amRH : Nat) (amRK : Nat) (amRO : Nat) (amRD : Nat) (amDN : Nat) (amSN : Nat) (mDayNow : Int32) (mLast : Int32) (mTears : Int32) (mWrong : Int32) (amTF : Nat) (amTFor : Nat) (amWB : Nat) (mRdn : Int32) (amRdL : Nat) (amRdE : Nat) (amRdD : Nat) (amSz : Nat) (amLane : Nat) (amSh : Nat) (amHands : Nat) (mTrace : Int32) (mSh : Nat → Int32) (mRH : Nat → Int32) (frm : Int32) (n : Int32) (hidx : ∀ j : Int32, 0 ≤ j.toInt → j.toInt < n.toInt → vp_in (frm + j) 240) (hra : 0 ≤ mReadAt.toInt) (hrd0 : mReadDays = 0) : MC yX8_readsDays wsX8_readsDays ({ frames := 2, cells := 0, slots := 0, locals := 50 } : Room) D [(cI, .int)] [.ref aMO, .int frm, .int n] [(aMO, .inr (8, [.int mFault, .ref amS, .int mDays, .ref amH, .int mLin, .ref amK, .ref amO, .ref amD, .int mCool, .int mReadAt, .int mReadDays, .int mReadLin, .ref amRS, .ref amRH, .ref amRK, .ref amRO, .ref amRD, .ref amDN, .ref amSN, .int mDayNow, .int mLast, .int mTears, .int mWrong, .ref amTF, .ref amTFor, .ref amWB, .int mRdn, .ref amRdL, .ref amRdE, .ref amRdD, .ref amSz, .ref amLane, .ref amSh, .ref amHands, .int mTrace])), (amSh, .inl (cI, 240, .inl mSh)), (amRH, .inl (cI, 6, .inl mRH))] (some (.int ((m_X8_readsDays mReadAt mReadDays mSh mRH frm n).1))) [(aMO, .inr (8, [.int mFault, .ref amS, .int mDays, .ref amH, .int mLin, .ref amK, .ref amO, .ref amD, .int mCool, .int ((m_X8_readsDays mReadAt mReadDays mSh mRH frm n).2.1), .int ((m_X8_readsDays mReadAt mReadDays mSh mRH frm n).2.2.1), .int mReadLin, .ref amRS, .ref amRH, .ref amRK, .ref amRO, .ref amRD, .ref amDN, .ref amSN, .int mDayNow, .int mLast, .int mTears, .int mWrong, .ref amTF, .ref amTFor, .ref amWB, .int mRdn, .ref amRdL, .ref amRdE, .ref amRdD, .ref amSz, .ref amLane, .ref amSh, .ref amHands, .int mTrace])), (amSh, .inl (cI, 240, .inl mSh)), (amRH, .inl (cI, 6, .inl ((m_X8_readsDays mReadAt mReadDays mSh mRH frm n).2.2.2)))] := by
  refine g_entry (by decide) rfl rfl rfl rfl (Nat.le_of_ble_eq_true rfl) (lv := [(0, .ref aMO), (1, .int frm), (2, .int n)]) rfl ?_
  intro X hC hX
  obtain ⟨res, hres⟩ : ∃ z, z = (m_X8_readsDays mReadAt mReadDays mSh mRH frm n) := ⟨_, rfl⟩
  rw [← hres] at hX
  rw [m_X8_readsDays] at hres
  refine g_iconst (v := 1) hC dX8_readsDays_0 (by decide) rfl ?_
  refine g_istore_n (lv' := [(3, .int (1 : Int32)), (0, .ref aMO), (1, .int frm), (2, .int n)]) hC dX8_readsDays_1 rfl (by decide) rfl rfl ?_
  refine g_sub [1, 2, 3, 0] rfl ?_
  exact l_X8_readsDays_2 D cI aMO mFault amS mDays amH mLin amK amO amD mCool mReadAt mReadDays mReadLin amRS amRH amRK amRO amRD amDN amSN mDayNow mLast mTears mWrong amTF amTFor amWB mRdn amRdL amRdE amRdD amSz amLane amSh amHands mTrace mSh mRH frm n hidx hra hrd0 hC hX ((2 * (6 - mReadDays.toInt) + (1 : Int32).toInt).toNat + 1) (1 : Int32) mReadAt mReadDays mRH (Nat.lt_succ_self _) (by exact hra) (by rw [hrd0]; decide) (by exact Or.inr rfl) hres
theorem iw_X8_readsLinen_RX8 : ∀ w ∈ wsX80, w ∈ wsX8_readsLinen := fun _ h => List.mem_cons_of_mem _ (List.mem_append_right _ (h))
def m_X8_readsLinen (mReadAt : Int32) (mReadLin : Int32) (mSh : Nat → Int32) (mRK : Nat → Int32) (mRO : Nat → Int32) (mRD : Nat → Int32) (frm : Int32) (n : Int32) : (Int32 × Int32 × Int32 × (Nat → Int32) × (Nat → Int32) × (Nat → Int32)) := (if mReadLin = (5 : Int32) then ((0 : Int32), mReadAt, mReadLin, mRK, mRO, mRD) else (if (m_X8_codeAt mReadAt mSh frm n) = (59 : Int32) then (if (m_X8_codeAt (mReadAt + (1 : Int32)) mSh frm n) = (99 : Int32) then (if 0 ≤ (m_X8_figure ((mReadAt + (1 : Int32)) + (1 : Int32)) mSh frm n (3 : Int32)).1 then (if 0 ≤ (m_X8_figure ((m_X8_figure ((mReadAt + (1 : Int32)) + (1 : Int32)) mSh frm n (3 : Int32)).2) mSh frm n (9 : Int32)).1 then (if (m_X8_codeAt (mReadAt + (1 : Int32)) mSh frm n) = (99 : Int32) then ((1 : Int32), (m_X8_figure ((m_X8_figure ((mReadAt + (1 : Int32)) + (1 : Int32)) mSh frm n (3 : Int32)).2) mSh frm n (9 : Int32)).2, (mReadLin + (1 : Int32)), (upd mRK mReadLin.toNatClampNeg (0 : Int32)), (upd mRO mReadLin.toNatClampNeg ((m_X8_figure ((mReadAt + (1 : Int32)) + (1 : Int32)) mSh frm n (3 : Int32)).1)), (upd mRD mReadLin.toNatClampNeg ((m_X8_figure ((m_X8_figure ((mReadAt + (1 : Int32)) + (1 : Int32)) mSh frm n (3 : Int32)).2) mSh frm n (9 : Int32)).1))) else ((1 : Int32), (m_X8_figure ((m_X8_figure ((mReadAt + (1 : Int32)) + (1 : Int32)) mSh frm n (3 : Int32)).2) mSh frm n (9 : Int32)).2, (mReadLin + (1 : Int32)), (upd mRK mReadLin.toNatClampNeg (if (m_X8_codeAt (mReadAt + (1 : Int32)) mSh frm n) = (108 : Int32) then (1 : Int32) else (2 : Int32))), (upd mRO mReadLin.toNatClampNeg ((m_X8_figure ((mReadAt + (1 : Int32)) + (1 : Int32)) mSh frm n (3 : Int32)).1)), (upd mRD mReadLin.toNatClampNeg ((m_X8_figure ((m_X8_figure ((mReadAt + (1 : Int32)) + (1 : Int32)) mSh frm n (3 : Int32)).2) mSh frm n (9 : Int32)).1)))) else ((0 : Int32), (m_X8_figure ((m_X8_figure ((mReadAt + (1 : Int32)) + (1 : Int32)) mSh frm n (3 : Int32)).2) mSh frm n (9 : Int32)).2, mReadLin, mRK, mRO, mRD)) else (if 0 ≤ (-9 : Int32) then (if (m_X8_codeAt (mReadAt + (1 : Int32)) mSh frm n) = (99 : Int32) then ((1 : Int32), (m_X8_figure ((mReadAt + (1 : Int32)) + (1 : Int32)) mSh frm n (3 : Int32)).2, (mReadLin + (1 : Int32)), (upd mRK mReadLin.toNatClampNeg (0 : Int32)), (upd mRO mReadLin.toNatClampNeg ((m_X8_figure ((mReadAt + (1 : Int32)) + (1 : Int32)) mSh frm n (3 : Int32)).1)), (upd mRD mReadLin.toNatClampNeg (-9 : Int32))) else ((1 : Int32), (m_X8_figure ((mReadAt + (1 : Int32)) + (1 : Int32)) mSh frm n (3 : Int32)).2, (mReadLin + (1 : Int32)), (upd mRK mReadLin.toNatClampNeg (if (m_X8_codeAt (mReadAt + (1 : Int32)) mSh frm n) = (108 : Int32) then (1 : Int32) else (2 : Int32))), (upd mRO mReadLin.toNatClampNeg ((m_X8_figure ((mReadAt + (1 : Int32)) + (1 : Int32)) mSh frm n (3 : Int32)).1)), (upd mRD mReadLin.toNatClampNeg (-9 : Int32)))) else ((0 : Int32), (m_X8_figure ((mReadAt + (1 : Int32)) + (1 : Int32)) mSh frm n (3 : Int32)).2, mReadLin, mRK, mRO, mRD))) else (if (m_X8_codeAt (mReadAt + (1 : Int32)) mSh frm n) = (108 : Int32) then (if 0 ≤ (m_X8_figure ((mReadAt + (1 : Int32)) + (1 : Int32)) mSh frm n (3 : Int32)).1 then (if 0 ≤ (m_X8_figure ((m_X8_figure ((mReadAt + (1 : Int32)) + (1 : Int32)) mSh frm n (3 : Int32)).2) mSh frm n (9 : Int32)).1 then (if (m_X8_codeAt (mReadAt + (1 : Int32)) mSh frm n) = (99 : Int32) then ((1 : Int32), (m_X8_figure ((m_X8_figure ((mReadAt + (1 : Int32)) + (1 : Int32)) mSh frm n (3 : Int32)).2) mSh frm n (9 : Int32)).2, (mReadLin + (1 : Int32)), (upd mRK mReadLin.toNatClampNeg (0 : Int32)), (upd mRO mReadLin.toNatClampNeg ((m_X8_figure ((mReadAt + (1 : Int32)) + (1 : Int32)) mSh frm n (3 : Int32)).1)), (upd mRD mReadLin.toNatClampNeg ((m_X8_figure ((m_X8_figure ((mReadAt + (1 : Int32)) + (1 : Int32)) mSh frm n (3 : Int32)).2) mSh frm n (9 : Int32)).1))) else ((1 : Int32), (m_X8_figure ((m_X8_figure ((mReadAt + (1 : Int32)) + (1 : Int32)) mSh frm n (3 : Int32)).2) mSh frm n (9 : Int32)).2, (mReadLin + (1 : Int32)), (upd mRK mReadLin.toNatClampNeg (if (m_X8_codeAt (mReadAt + (1 : Int32)) mSh frm n) = (108 : Int32) then (1 : Int32) else (2 : Int32))), (upd mRO mReadLin.toNatClampNeg ((m_X8_figure ((mReadAt + (1 : Int32)) + (1 : Int32)) mSh frm n (3 : Int32)).1)), (upd mRD mReadLin.toNatClampNeg ((m_X8_figure ((m_X8_figure ((mReadAt + (1 : Int32)) + (1 : Int32)) mSh frm n (3 : Int32)).2) mSh frm n (9 : Int32)).1)))) else ((0 : Int32), (m_X8_figure ((m_X8_figure ((mReadAt + (1 : Int32)) + (1 : Int32)) mSh frm n (3 : Int32)).2) mSh frm n (9 : Int32)).2, mReadLin, mRK, mRO, mRD)) else (if 0 ≤ (-9 : Int32) then (if (m_X8_codeAt (mReadAt + (1 : Int32)) mSh frm n) = (99 : Int32) then ((1 : Int32), (m_X8_figure ((mReadAt + (1 : Int32)) + (1 : Int32)) mSh frm n (3 : Int32)).2, (mReadLin + (1 : Int32)), (upd mRK mReadLin.toNatClampNeg (0 : Int32)), (upd mRO mReadLin.toNatClampNeg ((m_X8_figure ((mReadAt + (1 : Int32)) + (1 : Int32)) mSh frm n (3 : Int32)).1)), (upd mRD mReadLin.toNatClampNeg (-9 : Int32))) else ((1 : Int32), (m_X8_figure ((mReadAt + (1 : Int32)) + (1 : Int32)) mSh frm n (3 : Int32)).2, (mReadLin + (1 : Int32)), (upd mRK mReadLin.toNatClampNeg (if (m_X8_codeAt (mReadAt + (1 : Int32)) mSh frm n) = (108 : Int32) then (1 : Int32) else (2 : Int32))), (upd mRO mReadLin.toNatClampNeg ((m_X8_figure ((mReadAt + (1 : Int32)) + (1 : Int32)) mSh frm n (3 : Int32)).1)), (upd mRD mReadLin.toNatClampNeg (-9 : Int32)))) else ((0 : Int32), (m_X8_figure ((mReadAt + (1 : Int32)) + (1 : Int32)) mSh frm n (3 : Int32)).2, mReadLin, mRK, mRO, mRD))) else (if (m_X8_codeAt (mReadAt + (1 : Int32)) mSh frm n) = (115 : Int32) then (if 0 ≤ (m_X8_figure ((mReadAt + (1 : Int32)) + (1 : Int32)) mSh frm n (3 : Int32)).1 then (if 0 ≤ (m_X8_figure ((m_X8_figure ((mReadAt + (1 : Int32)) + (1 : Int32)) mSh frm n (3 : Int32)).2) mSh frm n (9 : Int32)).1 then (if (m_X8_codeAt (mReadAt + (1 : Int32)) mSh frm n) = (99 : Int32) then ((1 : Int32), (m_X8_figure ((m_X8_figure ((mReadAt + (1 : Int32)) + (1 : Int32)) mSh frm n (3 : Int32)).2) mSh frm n (9 : Int32)).2, (mReadLin + (1 : Int32)), (upd mRK mReadLin.toNatClampNeg (0 : Int32)), (upd mRO mReadLin.toNatClampNeg ((m_X8_figure ((mReadAt + (1 : Int32)) + (1 : Int32)) mSh frm n (3 : Int32)).1)), (upd mRD mReadLin.toNatClampNeg ((m_X8_figure ((m_X8_figure ((mReadAt + (1 : Int32)) + (1 : Int32)) mSh frm n (3 : Int32)).2) mSh frm n (9 : Int32)).1))) else ((1 : Int32), (m_X8_figure ((m_X8_figure ((mReadAt + (1 : Int32)) + (1 : Int32)) mSh frm n (3 : Int32)).2) mSh frm n (9 : Int32)).2, (mReadLin + (1 : Int32)), (upd mRK mReadLin.toNatClampNeg (if (m_X8_codeAt (mReadAt + (1 : Int32)) mSh frm n) = (108 : Int32) then (1 : Int32) else (2 : Int32))), (upd mRO mReadLin.toNatClampNeg ((m_X8_figure ((mReadAt + (1 : Int32)) + (1 : Int32)) mSh frm n (3 : Int32)).1)), (upd mRD mReadLin.toNatClampNeg ((m_X8_figure ((m_X8_figure ((mReadAt + (1 : Int32)) + (1 : Int32)) mSh frm n (3 : Int32)).2) mSh frm n (9 : Int32)).1)))) else ((0 : Int32), (m_X8_figure ((m_X8_figure ((mReadAt + (1 : Int32)) + (1 : Int32)) mSh frm n (3 : Int32)).2) mSh frm n (9 : Int32)).2, mReadLin, mRK, mRO, mRD)) else (if 0 ≤ (-9 : Int32) then (if (m_X8_codeAt (mReadAt + (1 : Int32)) mSh frm n) = (99 : Int32) then ((1 : Int32), (m_X8_figure ((mReadAt + (1 : Int32)) + (1 : Int32)) mSh frm n (3 : Int32)).2, (mReadLin + (1 : Int32)), (upd mRK mReadLin.toNatClampNeg (0 : Int32)), (upd mRO mReadLin.toNatClampNeg ((m_X8_figure ((mReadAt + (1 : Int32)) + (1 : Int32)) mSh frm n (3 : Int32)).1)), (upd mRD mReadLin.toNatClampNeg (-9 : Int32))) else ((1 : Int32), (m_X8_figure ((mReadAt + (1 : Int32)) + (1 : Int32)) mSh frm n (3 : Int32)).2, (mReadLin + (1 : Int32)), (upd mRK mReadLin.toNatClampNeg (if (m_X8_codeAt (mReadAt + (1 : Int32)) mSh frm n) = (108 : Int32) then (1 : Int32) else (2 : Int32))), (upd mRO mReadLin.toNatClampNeg ((m_X8_figure ((mReadAt + (1 : Int32)) + (1 : Int32)) mSh frm n (3 : Int32)).1)), (upd mRD mReadLin.toNatClampNeg (-9 : Int32)))) else ((0 : Int32), (m_X8_figure ((mReadAt + (1 : Int32)) + (1 : Int32)) mSh frm n (3 : Int32)).2, mReadLin, mRK, mRO, mRD))) else ((0 : Int32), (mReadAt + (1 : Int32)), mReadLin, mRK, mRO, mRD)))) else ((0 : Int32), mReadAt, mReadLin, mRK, mRO, mRD)))
set_option maxRecDepth 100000 in
set_option maxHeartbeats 4000000 in
theorem c_X8_readsLinen (D : va_G) (cI : ClassId) (aMO : Nat) (mFault : Int32) (amS : Nat) (mDays : Int32) (amH : Nat) (mLin : Int32) (amK : Nat) (amO : Nat) (amD : Nat) (mCool : Int32) (mReadAt : Int32) (mReadDays : Int32) (mReadLin : Int32) (amRS : Nat) (amRH : Nat) (amRK : Nat) (amRO : Nat) (amRD : Nat) (amDN : Nat) (amSN : Nat) (mDayNow : Int32) (mLast : Int32) (mTears : Int32) (mWrong : Int32) (amTF : Nat) (amTFor : Nat) (amWB : Nat) (mRdn : Int32) (amRdL : Nat) (amRdE : Nat) (amRdD : Nat) (amSz : Nat) (amLane : Nat) (amSh : Nat) (amHands : Nat) (mTrace : Int32) (mSh : Nat → Int32) (mRK : Nat → Int32) (mRO : Nat → Int32) (mRD : Nat → Int32) (frm : Int32) (n : Int32) (hidx : ∀ j : Int32, 0 ≤ j.toInt → j.toInt < n.toInt → vp_in (frm + j) 240) (hra : 0 ≤ mReadAt.toInt) (hrl : 0 ≤ mReadLin.toInt ∧ mReadLin.toInt ≤ 5) : MC yX8_readsLinen wsX8_readsLinen ({ frames := 2, cells := 0, slots := 0, locals := 50 } : Room) D [(cI, .int)] [.ref aMO, .int frm, .int n] [(aMO, .inr (8, [.int mFault, .ref amS, .int mDays, .ref amH, .int mLin, .ref amK, .ref amO, .ref amD, .int mCool, .int mReadAt, .int mReadDays, .int mReadLin, .ref amRS, .ref amRH, .ref amRK, .ref amRO, .ref amRD, .ref amDN, .ref amSN, .int mDayNow, .int mLast, .int mTears, .int mWrong, .ref amTF, .ref amTFor, .ref amWB, .int mRdn, .ref amRdL, .ref amRdE, .ref amRdD, .ref amSz, .ref amLane, .ref amSh, .ref amHands, .int mTrace])), (amSh, .inl (cI, 240, .inl mSh)), (amRK, .inl (cI, 5, .inl mRK)), (amRO, .inl (cI, 5, .inl mRO)), (amRD, .inl (cI, 5, .inl mRD))] (some (.int ((m_X8_readsLinen mReadAt mReadLin mSh mRK mRO mRD frm n).1))) [(aMO, .inr (8, [.int mFault, .ref amS, .int mDays, .ref amH, .int mLin, .ref amK, .ref amO, .ref amD, .int mCool, .int ((m_X8_readsLinen mReadAt mReadLin mSh mRK mRO mRD frm n).2.1), .int mReadDays, .int ((m_X8_readsLinen mReadAt mReadLin mSh mRK mRO mRD frm n).2.2.1), .ref amRS, .ref amRH, .ref amRK, .ref amRO, .ref amRD, .ref amDN, .ref amSN, .int mDayNow, .int mLast, .int mTears, .int mWrong, .ref amTF, .ref amTFor, .ref amWB, .int mRdn, .ref amRdL, .ref amRdE, .ref amRdD, .ref amSz, .ref amLane, .ref amSh, .ref amHands, .int mTrace])), (amSh, .inl (cI, 240, .inl mSh)), (amRK, .inl (cI, 5, .inl ((m_X8_readsLinen mReadAt mReadLin mSh mRK mRO mRD frm n).2.2.2.1))), (amRO, .inl (cI, 5, .inl ((m_X8_readsLinen mReadAt mReadLin mSh mRK mRO mRD frm n).2.2.2.2.1))), (amRD, .inl (cI, 5, .inl ((m_X8_readsLinen mReadAt mReadLin mSh mRK mRO mRD frm n).2.2.2.2.2)))] := by
  refine g_entry (by decide) rfl rfl rfl rfl (Nat.le_of_ble_eq_true rfl) (lv := [(0, .ref aMO), (1, .int frm), (2, .int n)]) rfl ?_
  intro X hC hX
  obtain ⟨res, hres⟩ : ∃ z, z = (m_X8_readsLinen mReadAt mReadLin mSh mRK mRO mRD frm n) := ⟨_, rfl⟩
  rw [← hres] at hX
  rw [m_X8_readsLinen] at hres
  refine g_aload_n hC dX8_readsLinen_0 rfl 0 rfl rfl ?_
  refine g_get hC iw_X8_readsLinen_RX8 0 rfl rfl 11 (by decide) (List.mem_of_getElem? (i := 1) rfl) rfl rfl dX8_readsLinen_1 rfl ?_
  refine g_iconst (v := 5) hC dX8_readsLinen_4 (by decide) rfl ?_
  refine g_icmp_eq (tgt := 19) hC dX8_readsLinen_5 (by decide) rfl (fun c_5 => ?_) (fun c_5 => ?_)
  · rw [if_pos c_5] at hres
    refine g_iconst (v := 0) hC dX8_readsLinen_19 (by decide) rfl ?_
    subst hres
    exact g_zret hC hX rfl rfl dX8_readsLinen_20 rfl rfl
  · rw [if_neg c_5] at hres
    refine g_aload_n hC dX8_readsLinen_8 rfl 0 rfl rfl ?_
    refine g_iload_n hC dX8_readsLinen_9 rfl 1 rfl rfl ?_
    refine g_iload_n hC dX8_readsLinen_10 rfl 2 rfl rfl ?_
    refine g_callV (ws' := [(aMO, .inr (8, [.int mFault, .ref amS, .int mDays, .ref amH, .int mLin, .ref amK, .ref amO, .ref amD, .int mCool, .int mReadAt, .int mReadDays, .int mReadLin, .ref amRS, .ref amRH, .ref amRK, .ref amRO, .ref amRD, .ref amDN, .ref amSN, .int mDayNow, .int mLast, .int mTears, .int mWrong, .ref amTF, .ref amTFor, .ref amWB, .int mRdn, .ref amRdL, .ref amRdE, .ref amRdD, .ref amSz, .ref amLane, .ref amSh, .ref amHands, .int mTrace])), (amSh, .inl (cI, 240, .inl mSh)), (amRK, .inl (cI, 5, .inl mRK)), (amRO, .inl (cI, 5, .inl mRO)), (amRD, .inl (cI, 5, .inl mRD))]) (st' := [.int (m_X8_codeAt mReadAt mSh frm n)]) (nw := 5) (n1 := 2) hC gX8_readsLinen_X8_codeAt hdV_yX8_codeAt 0 rfl rfl (As := [.int frm, .int n]) (rest := []) (c_X8_codeAt D cI aMO mFault amS mDays amH mLin amK amO amD mCool mReadAt mReadDays mReadLin amRS amRH amRK amRO amRD amDN amSN mDayNow mLast mTears mWrong amTF amTFor amWB mRdn amRdL amRdE amRdD amSz amLane amSh amHands mTrace mSh frm n (by exact hidx) (by exact hra)) rfl ⟨by decide, by decide⟩ rfl [0, 1] [2, 3, 4] [3, 4, 0, 1, 2] [0] rfl rfl rfl rfl (by decide) rfl rfl (Nat.le_of_ble_eq_true rfl) dX8_readsLinen_11 rfl rfl ?_
    refine g_bipush (v := 59) hC dX8_readsLinen_14 (by decide) rfl ?_
    refine g_icmp_eq (tgt := 21) hC dX8_readsLinen_16 (by decide) rfl (fun c_16 => ?_) (fun c_16 => ?_)
    · rw [if_pos c_16] at hres
      refine g_aload_n hC dX8_readsLinen_21 rfl 0 rfl rfl ?_
      refine g_dup hC dX8_readsLinen_22 rfl rfl ?_
      refine g_get hC iw_X8_readsLinen_RX8 0 rfl rfl 9 (by decide) (List.mem_of_getElem? (i := 2) rfl) rfl rfl dX8_readsLinen_23 rfl ?_
      refine g_iconst (v := 1) hC dX8_readsLinen_26 (by decide) rfl ?_
      refine g_iadd hC dX8_readsLinen_27 rfl ?_
      refine g_put (ws' := [(aMO, .inr (8, [.int mFault, .ref amS, .int mDays, .ref amH, .int mLin, .ref amK, .ref amO, .ref amD, .int mCool, .int (mReadAt + (1 : Int32)), .int mReadDays, .int mReadLin, .ref amRS, .ref amRH, .ref amRK, .ref amRO, .ref amRD, .ref amDN, .ref amSN, .int mDayNow, .int mLast, .int mTears, .int mWrong, .ref amTF, .ref amTFor, .ref amWB, .int mRdn, .ref amRdL, .ref amRdE, .ref amRdD, .ref amSz, .ref amLane, .ref amSh, .ref amHands, .int mTrace])), (amSh, .inl (cI, 240, .inl mSh)), (amRK, .inl (cI, 5, .inl mRK)), (amRO, .inl (cI, 5, .inl mRO)), (amRD, .inl (cI, 5, .inl mRD))]) hC iw_X8_readsLinen_RX8 0 rfl rfl 9 (by decide) (List.mem_of_getElem? (i := 2) rfl) rfl tyX8 tyX8_ok nmX8 rfl rfl rfl (Nat.le_of_ble_eq_true rfl) rfl dX8_readsLinen_28 rfl ?_
      refine g_aload_n hC dX8_readsLinen_31 rfl 0 rfl rfl ?_
      refine g_iload_n hC dX8_readsLinen_32 rfl 1 rfl rfl ?_
      refine g_iload_n hC dX8_readsLinen_33 rfl 2 rfl rfl ?_
      refine g_callV (ws' := [(aMO, .inr (8, [.int mFault, .ref amS, .int mDays, .ref amH, .int mLin, .ref amK, .ref amO, .ref amD, .int mCool, .int (mReadAt + (1 : Int32)), .int mReadDays, .int mReadLin, .ref amRS, .ref amRH, .ref amRK, .ref amRO, .ref amRD, .ref amDN, .ref amSN, .int mDayNow, .int mLast, .int mTears, .int mWrong, .ref amTF, .ref amTFor, .ref amWB, .int mRdn, .ref amRdL, .ref amRdE, .ref amRdD, .ref amSz, .ref amLane, .ref amSh, .ref amHands, .int mTrace])), (amSh, .inl (cI, 240, .inl mSh)), (amRK, .inl (cI, 5, .inl mRK)), (amRO, .inl (cI, 5, .inl mRO)), (amRD, .inl (cI, 5, .inl mRD))]) (st' := [.int (m_X8_codeAt (mReadAt + (1 : Int32)) mSh frm n)]) (nw := 5) (n1 := 2) hC gX8_readsLinen_X8_codeAt hdV_yX8_codeAt 0 rfl rfl (As := [.int frm, .int n]) (rest := []) (c_X8_codeAt D cI aMO mFault amS mDays amH mLin amK amO amD mCool (mReadAt + (1 : Int32)) mReadDays mReadLin amRS amRH amRK amRO amRD amDN amSN mDayNow mLast mTears mWrong amTF amTFor amWB mRdn amRdL amRdE amRdD amSz amLane amSh amHands mTrace mSh frm n (by exact hidx) (by exact code_up c_16 (by decide) hra)) rfl ⟨by decide, by decide⟩ rfl [0, 1] [2, 3, 4] [3, 4, 0, 1, 2] [0] rfl rfl rfl rfl (by decide) rfl rfl (Nat.le_of_ble_eq_true rfl) dX8_readsLinen_34 rfl rfl ?_
      refine g_istore_n (lv' := [(3, .int (m_X8_codeAt (mReadAt + (1 : Int32)) mSh frm n)), (0, .ref aMO), (1, .int frm), (2, .int n)]) hC dX8_readsLinen_37 rfl (by decide) rfl rfl ?_
      refine g_iload_n hC dX8_readsLinen_38 rfl 0 rfl rfl ?_
      refine g_bipush (v := 99) hC dX8_readsLinen_39 (by decide) rfl ?_
      refine g_icmp_eq (tgt := 58) hC dX8_readsLinen_41 (by decide) rfl (fun c_41 => ?_) (fun c_41 => ?_)
      · rw [if_pos c_41] at hres
        refine g_aload_n hC dX8_readsLinen_58 rfl 1 rfl rfl ?_
        refine g_dup hC dX8_readsLinen_59 rfl rfl ?_
        refine g_get hC iw_X8_readsLinen_RX8 0 rfl rfl 9 (by decide) (List.mem_of_getElem? (i := 2) rfl) rfl rfl dX8_readsLinen_60 rfl ?_
        refine g_iconst (v := 1) hC dX8_readsLinen_63 (by decide) rfl ?_
        refine g_iadd hC dX8_readsLinen_64 rfl ?_
        refine g_put (ws' := [(aMO, .inr (8, [.int mFault, .ref amS, .int mDays, .ref amH, .int mLin, .ref amK, .ref amO, .ref amD, .int mCool, .int ((mReadAt + (1 : Int32)) + (1 : Int32)), .int mReadDays, .int mReadLin, .ref amRS, .ref amRH, .ref amRK, .ref amRO, .ref amRD, .ref amDN, .ref amSN, .int mDayNow, .int mLast, .int mTears, .int mWrong, .ref amTF, .ref amTFor, .ref amWB, .int mRdn, .ref amRdL, .ref amRdE, .ref amRdD, .ref amSz, .ref amLane, .ref amSh, .ref amHands, .int mTrace])), (amSh, .inl (cI, 240, .inl mSh)), (amRK, .inl (cI, 5, .inl mRK)), (amRO, .inl (cI, 5, .inl mRO)), (amRD, .inl (cI, 5, .inl mRD))]) hC iw_X8_readsLinen_RX8 0 rfl rfl 9 (by decide) (List.mem_of_getElem? (i := 2) rfl) rfl tyX8 tyX8_ok nmX8 rfl rfl rfl (Nat.le_of_ble_eq_true rfl) rfl dX8_readsLinen_65 rfl ?_
        refine g_aload_n hC dX8_readsLinen_68 rfl 1 rfl rfl ?_
        refine g_iload_n hC dX8_readsLinen_69 rfl 2 rfl rfl ?_
        refine g_iload_n hC dX8_readsLinen_70 rfl 3 rfl rfl ?_
        refine g_iconst (v := 3) hC dX8_readsLinen_71 (by decide) rfl ?_
        refine g_callV (ws' := [(aMO, .inr (8, [.int mFault, .ref amS, .int mDays, .ref amH, .int mLin, .ref amK, .ref amO, .ref amD, .int mCool, .int ((m_X8_figure ((mReadAt + (1 : Int32)) + (1 : Int32)) mSh frm n (3 : Int32)).2), .int mReadDays, .int mReadLin, .ref amRS, .ref amRH, .ref amRK, .ref amRO, .ref amRD, .ref amDN, .ref amSN, .int mDayNow, .int mLast, .int mTears, .int mWrong, .ref amTF, .ref amTFor, .ref amWB, .int mRdn, .ref amRdL, .ref amRdE, .ref amRdD, .ref amSz, .ref amLane, .ref amSh, .ref amHands, .int mTrace])), (amSh, .inl (cI, 240, .inl mSh)), (amRK, .inl (cI, 5, .inl mRK)), (amRO, .inl (cI, 5, .inl mRO)), (amRD, .inl (cI, 5, .inl mRD))]) (st' := [.int ((m_X8_figure ((mReadAt + (1 : Int32)) + (1 : Int32)) mSh frm n (3 : Int32)).1)]) (nw := 5) (n1 := 2) hC gX8_readsLinen_X8_figure hdV_yX8_figure 0 rfl rfl (As := [.int frm, .int n, .int (3 : Int32)]) (rest := []) (c_X8_figure D cI aMO mFault amS mDays amH mLin amK amO amD mCool ((mReadAt + (1 : Int32)) + (1 : Int32)) mReadDays mReadLin amRS amRH amRK amRO amRD amDN amSN mDayNow mLast mTears mWrong amTF amTFor amWB mRdn amRdL amRdE amRdD amSz amLane amSh amHands mTrace mSh frm n (3 : Int32) (by exact hidx) (by exact code_up c_41 (by decide) (code_up c_16 (by decide) hra))) rfl ⟨by decide, by decide⟩ rfl [0, 1] [2, 3, 4] [3, 4, 0, 1, 2] [0] rfl rfl rfl rfl (by decide) rfl rfl (Nat.le_of_ble_eq_true rfl) dX8_readsLinen_72 rfl rfl ?_
        refine g_istore (lv' := [(4, .int ((m_X8_figure ((mReadAt + (1 : Int32)) + (1 : Int32)) mSh frm n (3 : Int32)).1)), (3, .int (m_X8_codeAt (mReadAt + (1 : Int32)) mSh frm n)), (0, .ref aMO), (1, .int frm), (2, .int n)]) hC dX8_readsLinen_75 (by decide) rfl rfl ?_
        refine g_iload hC dX8_readsLinen_77 0 rfl rfl ?_
        refine g_if_ge (tgt := 87) hC dX8_readsLinen_79 (by decide) rfl (fun c_79 => ?_) (fun c_79 => ?_)
        · rw [if_pos c_79] at hres
          refine g_aload_n hC dX8_readsLinen_87 rfl 2 rfl rfl ?_
          refine g_iload_n hC dX8_readsLinen_88 rfl 3 rfl rfl ?_
          refine g_iload_n hC dX8_readsLinen_89 rfl 4 rfl rfl ?_
          refine g_bipush (v := 9) hC dX8_readsLinen_90 (by decide) rfl ?_
          refine g_callV (ws' := [(aMO, .inr (8, [.int mFault, .ref amS, .int mDays, .ref amH, .int mLin, .ref amK, .ref amO, .ref amD, .int mCool, .int ((m_X8_figure ((m_X8_figure ((mReadAt + (1 : Int32)) + (1 : Int32)) mSh frm n (3 : Int32)).2) mSh frm n (9 : Int32)).2), .int mReadDays, .int mReadLin, .ref amRS, .ref amRH, .ref amRK, .ref amRO, .ref amRD, .ref amDN, .ref amSN, .int mDayNow, .int mLast, .int mTears, .int mWrong, .ref amTF, .ref amTFor, .ref amWB, .int mRdn, .ref amRdL, .ref amRdE, .ref amRdD, .ref amSz, .ref amLane, .ref amSh, .ref amHands, .int mTrace])), (amSh, .inl (cI, 240, .inl mSh)), (amRK, .inl (cI, 5, .inl mRK)), (amRO, .inl (cI, 5, .inl mRO)), (amRD, .inl (cI, 5, .inl mRD))]) (st' := [.int ((m_X8_figure ((m_X8_figure ((mReadAt + (1 : Int32)) + (1 : Int32)) mSh frm n (3 : Int32)).2) mSh frm n (9 : Int32)).1)]) (nw := 5) (n1 := 2) hC gX8_readsLinen_X8_figure hdV_yX8_figure 0 rfl rfl (As := [.int frm, .int n, .int (9 : Int32)]) (rest := []) (c_X8_figure D cI aMO mFault amS mDays amH mLin amK amO amD mCool ((m_X8_figure ((mReadAt + (1 : Int32)) + (1 : Int32)) mSh frm n (3 : Int32)).2) mReadDays mReadLin amRS amRH amRK amRO amRD amDN amSN mDayNow mLast mTears mWrong amTF amTFor amWB mRdn amRdL amRdE amRdD amSz amLane amSh amHands mTrace mSh frm n (9 : Int32) (by exact hidx) (by exact fig_ra (by exact code_up c_41 (by decide) (code_up c_16 (by decide) hra)))) rfl ⟨by decide, by decide⟩ rfl [0, 1] [2, 3, 4] [3, 4, 0, 1, 2] [0] rfl rfl rfl rfl (by decide) rfl rfl (Nat.le_of_ble_eq_true rfl) dX8_readsLinen_92 rfl rfl ?_
          refine g_istore (lv' := [(5, .int ((m_X8_figure ((m_X8_figure ((mReadAt + (1 : Int32)) + (1 : Int32)) mSh frm n (3 : Int32)).2) mSh frm n (9 : Int32)).1)), (4, .int ((m_X8_figure ((mReadAt + (1 : Int32)) + (1 : Int32)) mSh frm n (3 : Int32)).1)), (3, .int (m_X8_codeAt (mReadAt + (1 : Int32)) mSh frm n)), (0, .ref aMO), (1, .int frm), (2, .int n)]) hC dX8_readsLinen_95 (by decide) rfl rfl ?_
          refine g_iload hC dX8_readsLinen_97 0 rfl rfl ?_
          refine g_if_ge (tgt := 104) hC dX8_readsLinen_99 (by decide) rfl (fun c_99 => ?_) (fun c_99 => ?_)
          · rw [if_pos c_99] at hres
            refine g_aload_n hC dX8_readsLinen_104 rfl 3 rfl rfl ?_
            refine g_get hC iw_X8_readsLinen_RX8 0 rfl rfl 14 (by decide) (List.mem_of_getElem? (i := 3) rfl) rfl rfl dX8_readsLinen_105 rfl ?_
            refine g_aload_n hC dX8_readsLinen_108 rfl 3 rfl rfl ?_
            refine g_get hC iw_X8_readsLinen_RX8 0 rfl rfl 11 (by decide) (List.mem_of_getElem? (i := 1) rfl) rfl rfl dX8_readsLinen_109 rfl ?_
            refine g_iload_n hC dX8_readsLinen_112 rfl 2 rfl rfl ?_
            refine g_bipush (v := 99) hC dX8_readsLinen_113 (by decide) rfl ?_
            refine g_icmp_ne (tgt := 122) hC dX8_readsLinen_115 (by decide) rfl (fun c_115 => ?_) (fun c_115 => ?_)
            · rw [if_neg c_115] at hres
              refine g_iload_n hC dX8_readsLinen_122 rfl 2 rfl rfl ?_
              refine g_bipush (v := 108) hC dX8_readsLinen_123 (by decide) rfl ?_
              have K_125 : ∀ vK : Int32, vK = (if (m_X8_codeAt (mReadAt + (1 : Int32)) mSh frm n) = (108 : Int32) then (1 : Int32) else (2 : Int32)) → G X D 6 [(aMO, .inr (8, [.int mFault, .ref amS, .int mDays, .ref amH, .int mLin, .ref amK, .ref amO, .ref amD, .int mCool, .int ((m_X8_figure ((m_X8_figure ((mReadAt + (1 : Int32)) + (1 : Int32)) mSh frm n (3 : Int32)).2) mSh frm n (9 : Int32)).2), .int mReadDays, .int mReadLin, .ref amRS, .ref amRH, .ref amRK, .ref amRO, .ref amRD, .ref amDN, .ref amSN, .int mDayNow, .int mLast, .int mTears, .int mWrong, .ref amTF, .ref amTFor, .ref amWB, .int mRdn, .ref amRdL, .ref amRdE, .ref amRdD, .ref amSz, .ref amLane, .ref amSh, .ref amHands, .int mTrace])), (amSh, .inl (cI, 240, .inl mSh)), (amRK, .inl (cI, 5, .inl mRK)), (amRO, .inl (cI, 5, .inl mRO)), (amRD, .inl (cI, 5, .inl mRD))] [(5, .int ((m_X8_figure ((m_X8_figure ((mReadAt + (1 : Int32)) + (1 : Int32)) mSh frm n (3 : Int32)).2) mSh frm n (9 : Int32)).1)), (4, .int ((m_X8_figure ((mReadAt + (1 : Int32)) + (1 : Int32)) mSh frm n (3 : Int32)).1)), (3, .int (m_X8_codeAt (mReadAt + (1 : Int32)) mSh frm n)), (0, .ref aMO), (1, .int frm), (2, .int n)] 133 (.int vK :: [.int mReadLin, .ref amRK]) := by
                intro vK hvK
                subst hvK
                refine g_iast (ws' := [(aMO, .inr (8, [.int mFault, .ref amS, .int mDays, .ref amH, .int mLin, .ref amK, .ref amO, .ref amD, .int mCool, .int ((m_X8_figure ((m_X8_figure ((mReadAt + (1 : Int32)) + (1 : Int32)) mSh frm n (3 : Int32)).2) mSh frm n (9 : Int32)).2), .int mReadDays, .int mReadLin, .ref amRS, .ref amRH, .ref amRK, .ref amRO, .ref amRD, .ref amDN, .ref amSN, .int mDayNow, .int mLast, .int mTears, .int mWrong, .ref amTF, .ref amTFor, .ref amWB, .int mRdn, .ref amRdL, .ref amRdE, .ref amRdD, .ref amSz, .ref amLane, .ref amSh, .ref amHands, .int mTrace])), (amSh, .inl (cI, 240, .inl mSh)), (amRK, .inl (cI, 5, .inl (upd mRK mReadLin.toNatClampNeg (if (m_X8_codeAt (mReadAt + (1 : Int32)) mSh frm n) = (108 : Int32) then (1 : Int32) else (2 : Int32))))), (amRO, .inl (cI, 5, .inl mRO)), (amRD, .inl (cI, 5, .inl mRD))]) hC 2 0 rfl rfl (by exact rl_in hrl c_5) rfl dX8_readsLinen_133 rfl ?_
                refine g_aload_n hC dX8_readsLinen_134 rfl 3 rfl rfl ?_
                refine g_get hC iw_X8_readsLinen_RX8 0 rfl rfl 15 (by decide) (List.mem_of_getElem? (i := 4) rfl) rfl rfl dX8_readsLinen_135 rfl ?_
                refine g_aload_n hC dX8_readsLinen_138 rfl 3 rfl rfl ?_
                refine g_get hC iw_X8_readsLinen_RX8 0 rfl rfl 11 (by decide) (List.mem_of_getElem? (i := 1) rfl) rfl rfl dX8_readsLinen_139 rfl ?_
                refine g_iload hC dX8_readsLinen_142 1 rfl rfl ?_
                refine g_iast (ws' := [(aMO, .inr (8, [.int mFault, .ref amS, .int mDays, .ref amH, .int mLin, .ref amK, .ref amO, .ref amD, .int mCool, .int ((m_X8_figure ((m_X8_figure ((mReadAt + (1 : Int32)) + (1 : Int32)) mSh frm n (3 : Int32)).2) mSh frm n (9 : Int32)).2), .int mReadDays, .int mReadLin, .ref amRS, .ref amRH, .ref amRK, .ref amRO, .ref amRD, .ref amDN, .ref amSN, .int mDayNow, .int mLast, .int mTears, .int mWrong, .ref amTF, .ref amTFor, .ref amWB, .int mRdn, .ref amRdL, .ref amRdE, .ref amRdD, .ref amSz, .ref amLane, .ref amSh, .ref amHands, .int mTrace])), (amSh, .inl (cI, 240, .inl mSh)), (amRK, .inl (cI, 5, .inl (upd mRK mReadLin.toNatClampNeg (if (m_X8_codeAt (mReadAt + (1 : Int32)) mSh frm n) = (108 : Int32) then (1 : Int32) else (2 : Int32))))), (amRO, .inl (cI, 5, .inl (upd mRO mReadLin.toNatClampNeg ((m_X8_figure ((mReadAt + (1 : Int32)) + (1 : Int32)) mSh frm n (3 : Int32)).1)))), (amRD, .inl (cI, 5, .inl mRD))]) hC 3 0 rfl rfl (by exact rl_in hrl c_5) rfl dX8_readsLinen_144 rfl ?_
                refine g_aload_n hC dX8_readsLinen_145 rfl 3 rfl rfl ?_
                refine g_get hC iw_X8_readsLinen_RX8 0 rfl rfl 16 (by decide) (List.mem_of_getElem? (i := 5) rfl) rfl rfl dX8_readsLinen_146 rfl ?_
                refine g_aload_n hC dX8_readsLinen_149 rfl 3 rfl rfl ?_
                refine g_get hC iw_X8_readsLinen_RX8 0 rfl rfl 11 (by decide) (List.mem_of_getElem? (i := 1) rfl) rfl rfl dX8_readsLinen_150 rfl ?_
                refine g_iload hC dX8_readsLinen_153 0 rfl rfl ?_
                refine g_iast (ws' := [(aMO, .inr (8, [.int mFault, .ref amS, .int mDays, .ref amH, .int mLin, .ref amK, .ref amO, .ref amD, .int mCool, .int ((m_X8_figure ((m_X8_figure ((mReadAt + (1 : Int32)) + (1 : Int32)) mSh frm n (3 : Int32)).2) mSh frm n (9 : Int32)).2), .int mReadDays, .int mReadLin, .ref amRS, .ref amRH, .ref amRK, .ref amRO, .ref amRD, .ref amDN, .ref amSN, .int mDayNow, .int mLast, .int mTears, .int mWrong, .ref amTF, .ref amTFor, .ref amWB, .int mRdn, .ref amRdL, .ref amRdE, .ref amRdD, .ref amSz, .ref amLane, .ref amSh, .ref amHands, .int mTrace])), (amSh, .inl (cI, 240, .inl mSh)), (amRK, .inl (cI, 5, .inl (upd mRK mReadLin.toNatClampNeg (if (m_X8_codeAt (mReadAt + (1 : Int32)) mSh frm n) = (108 : Int32) then (1 : Int32) else (2 : Int32))))), (amRO, .inl (cI, 5, .inl (upd mRO mReadLin.toNatClampNeg ((m_X8_figure ((mReadAt + (1 : Int32)) + (1 : Int32)) mSh frm n (3 : Int32)).1)))), (amRD, .inl (cI, 5, .inl (upd mRD mReadLin.toNatClampNeg ((m_X8_figure ((m_X8_figure ((mReadAt + (1 : Int32)) + (1 : Int32)) mSh frm n (3 : Int32)).2) mSh frm n (9 : Int32)).1))))]) hC 4 0 rfl rfl (by exact rl_in hrl c_5) rfl dX8_readsLinen_155 rfl ?_
                refine g_aload_n hC dX8_readsLinen_156 rfl 3 rfl rfl ?_
                refine g_dup hC dX8_readsLinen_157 rfl rfl ?_
                refine g_get hC iw_X8_readsLinen_RX8 0 rfl rfl 11 (by decide) (List.mem_of_getElem? (i := 1) rfl) rfl rfl dX8_readsLinen_158 rfl ?_
                refine g_iconst (v := 1) hC dX8_readsLinen_161 (by decide) rfl ?_
                refine g_iadd hC dX8_readsLinen_162 rfl ?_
                refine g_put (ws' := [(aMO, .inr (8, [.int mFault, .ref amS, .int mDays, .ref amH, .int mLin, .ref amK, .ref amO, .ref amD, .int mCool, .int ((m_X8_figure ((m_X8_figure ((mReadAt + (1 : Int32)) + (1 : Int32)) mSh frm n (3 : Int32)).2) mSh frm n (9 : Int32)).2), .int mReadDays, .int (mReadLin + (1 : Int32)), .ref amRS, .ref amRH, .ref amRK, .ref amRO, .ref amRD, .ref amDN, .ref amSN, .int mDayNow, .int mLast, .int mTears, .int mWrong, .ref amTF, .ref amTFor, .ref amWB, .int mRdn, .ref amRdL, .ref amRdE, .ref amRdD, .ref amSz, .ref amLane, .ref amSh, .ref amHands, .int mTrace])), (amSh, .inl (cI, 240, .inl mSh)), (amRK, .inl (cI, 5, .inl (upd mRK mReadLin.toNatClampNeg (if (m_X8_codeAt (mReadAt + (1 : Int32)) mSh frm n) = (108 : Int32) then (1 : Int32) else (2 : Int32))))), (amRO, .inl (cI, 5, .inl (upd mRO mReadLin.toNatClampNeg ((m_X8_figure ((mReadAt + (1 : Int32)) + (1 : Int32)) mSh frm n (3 : Int32)).1)))), (amRD, .inl (cI, 5, .inl (upd mRD mReadLin.toNatClampNeg ((m_X8_figure ((m_X8_figure ((mReadAt + (1 : Int32)) + (1 : Int32)) mSh frm n (3 : Int32)).2) mSh frm n (9 : Int32)).1))))]) hC iw_X8_readsLinen_RX8 0 rfl rfl 11 (by decide) (List.mem_of_getElem? (i := 1) rfl) rfl tyX8 tyX8_ok nmX8 rfl rfl rfl (Nat.le_of_ble_eq_true rfl) rfl dX8_readsLinen_163 rfl ?_
                refine g_iconst (v := 1) hC dX8_readsLinen_166 (by decide) rfl ?_
                subst hres
                exact g_zret hC hX rfl rfl dX8_readsLinen_167 rfl rfl
              refine g_icmp_ne (tgt := 132) hC dX8_readsLinen_125 (by decide) rfl (fun c_125 => ?_) (fun c_125 => ?_)
              · refine g_iconst (v := 2) hC dX8_readsLinen_132 (by decide) rfl ?_
                exact K_125 _ (if_neg c_125).symm
              · refine g_iconst (v := 1) hC dX8_readsLinen_128 (by decide) rfl ?_
                refine g_goto (tgt := 133) hC dX8_readsLinen_129 (by decide) ?_
                exact K_125 _ (if_pos c_125).symm
            · rw [if_pos c_115] at hres
              refine g_iconst (v := 0) hC dX8_readsLinen_118 (by decide) rfl ?_
              refine g_goto (tgt := 133) hC dX8_readsLinen_119 (by decide) ?_
              refine g_iast (ws' := [(aMO, .inr (8, [.int mFault, .ref amS, .int mDays, .ref amH, .int mLin, .ref amK, .ref amO, .ref amD, .int mCool, .int ((m_X8_figure ((m_X8_figure ((mReadAt + (1 : Int32)) + (1 : Int32)) mSh frm n (3 : Int32)).2) mSh frm n (9 : Int32)).2), .int mReadDays, .int mReadLin, .ref amRS, .ref amRH, .ref amRK, .ref amRO, .ref amRD, .ref amDN, .ref amSN, .int mDayNow, .int mLast, .int mTears, .int mWrong, .ref amTF, .ref amTFor, .ref amWB, .int mRdn, .ref amRdL, .ref amRdE, .ref amRdD, .ref amSz, .ref amLane, .ref amSh, .ref amHands, .int mTrace])), (amSh, .inl (cI, 240, .inl mSh)), (amRK, .inl (cI, 5, .inl (upd mRK mReadLin.toNatClampNeg (0 : Int32)))), (amRO, .inl (cI, 5, .inl mRO)), (amRD, .inl (cI, 5, .inl mRD))]) hC 2 0 rfl rfl (by exact rl_in hrl c_5) rfl dX8_readsLinen_133 rfl ?_
              refine g_aload_n hC dX8_readsLinen_134 rfl 3 rfl rfl ?_
              refine g_get hC iw_X8_readsLinen_RX8 0 rfl rfl 15 (by decide) (List.mem_of_getElem? (i := 4) rfl) rfl rfl dX8_readsLinen_135 rfl ?_
              refine g_aload_n hC dX8_readsLinen_138 rfl 3 rfl rfl ?_
              refine g_get hC iw_X8_readsLinen_RX8 0 rfl rfl 11 (by decide) (List.mem_of_getElem? (i := 1) rfl) rfl rfl dX8_readsLinen_139 rfl ?_
              refine g_iload hC dX8_readsLinen_142 1 rfl rfl ?_
              refine g_iast (ws' := [(aMO, .inr (8, [.int mFault, .ref amS, .int mDays, .ref amH, .int mLin, .ref amK, .ref amO, .ref amD, .int mCool, .int ((m_X8_figure ((m_X8_figure ((mReadAt + (1 : Int32)) + (1 : Int32)) mSh frm n (3 : Int32)).2) mSh frm n (9 : Int32)).2), .int mReadDays, .int mReadLin, .ref amRS, .ref amRH, .ref amRK, .ref amRO, .ref amRD, .ref amDN, .ref amSN, .int mDayNow, .int mLast, .int mTears, .int mWrong, .ref amTF, .ref amTFor, .ref amWB, .int mRdn, .ref amRdL, .ref amRdE, .ref amRdD, .ref amSz, .ref amLane, .ref amSh, .ref amHands, .int mTrace])), (amSh, .inl (cI, 240, .inl mSh)), (amRK, .inl (cI, 5, .inl (upd mRK mReadLin.toNatClampNeg (0 : Int32)))), (amRO, .inl (cI, 5, .inl (upd mRO mReadLin.toNatClampNeg ((m_X8_figure ((mReadAt + (1 : Int32)) + (1 : Int32)) mSh frm n (3 : Int32)).1)))), (amRD, .inl (cI, 5, .inl mRD))]) hC 3 0 rfl rfl (by exact rl_in hrl c_5) rfl dX8_readsLinen_144 rfl ?_
              refine g_aload_n hC dX8_readsLinen_145 rfl 3 rfl rfl ?_
              refine g_get hC iw_X8_readsLinen_RX8 0 rfl rfl 16 (by decide) (List.mem_of_getElem? (i := 5) rfl) rfl rfl dX8_readsLinen_146 rfl ?_
              refine g_aload_n hC dX8_readsLinen_149 rfl 3 rfl rfl ?_
              refine g_get hC iw_X8_readsLinen_RX8 0 rfl rfl 11 (by decide) (List.mem_of_getElem? (i := 1) rfl) rfl rfl dX8_readsLinen_150 rfl ?_
              refine g_iload hC dX8_readsLinen_153 0 rfl rfl ?_
              refine g_iast (ws' := [(aMO, .inr (8, [.int mFault, .ref amS, .int mDays, .ref amH, .int mLin, .ref amK, .ref amO, .ref amD, .int mCool, .int ((m_X8_figure ((m_X8_figure ((mReadAt + (1 : Int32)) + (1 : Int32)) mSh frm n (3 : Int32)).2) mSh frm n (9 : Int32)).2), .int mReadDays, .int mReadLin, .ref amRS, .ref amRH, .ref amRK, .ref amRO, .ref amRD, .ref amDN, .ref amSN, .int mDayNow, .int mLast, .int mTears, .int mWrong, .ref amTF, .ref amTFor, .ref amWB, .int mRdn, .ref amRdL, .ref amRdE, .ref amRdD, .ref amSz, .ref amLane, .ref amSh, .ref amHands, .int mTrace])), (amSh, .inl (cI, 240, .inl mSh)), (amRK, .inl (cI, 5, .inl (upd mRK mReadLin.toNatClampNeg (0 : Int32)))), (amRO, .inl (cI, 5, .inl (upd mRO mReadLin.toNatClampNeg ((m_X8_figure ((mReadAt + (1 : Int32)) + (1 : Int32)) mSh frm n (3 : Int32)).1)))), (amRD, .inl (cI, 5, .inl (upd mRD mReadLin.toNatClampNeg ((m_X8_figure ((m_X8_figure ((mReadAt + (1 : Int32)) + (1 : Int32)) mSh frm n (3 : Int32)).2) mSh frm n (9 : Int32)).1))))]) hC 4 0 rfl rfl (by exact rl_in hrl c_5) rfl dX8_readsLinen_155 rfl ?_
              refine g_aload_n hC dX8_readsLinen_156 rfl 3 rfl rfl ?_
              refine g_dup hC dX8_readsLinen_157 rfl rfl ?_
              refine g_get hC iw_X8_readsLinen_RX8 0 rfl rfl 11 (by decide) (List.mem_of_getElem? (i := 1) rfl) rfl rfl dX8_readsLinen_158 rfl ?_
              refine g_iconst (v := 1) hC dX8_readsLinen_161 (by decide) rfl ?_
              refine g_iadd hC dX8_readsLinen_162 rfl ?_
              refine g_put (ws' := [(aMO, .inr (8, [.int mFault, .ref amS, .int mDays, .ref amH, .int mLin, .ref amK, .ref amO, .ref amD, .int mCool, .int ((m_X8_figure ((m_X8_figure ((mReadAt + (1 : Int32)) + (1 : Int32)) mSh frm n (3 : Int32)).2) mSh frm n (9 : Int32)).2), .int mReadDays, .int (mReadLin + (1 : Int32)), .ref amRS, .ref amRH, .ref amRK, .ref amRO, .ref amRD, .ref amDN, .ref amSN, .int mDayNow, .int mLast, .int mTears, .int mWrong, .ref amTF, .ref amTFor, .ref amWB, .int mRdn, .ref amRdL, .ref amRdE, .ref amRdD, .ref amSz, .ref amLane, .ref amSh, .ref amHands, .int mTrace])), (amSh, .inl (cI, 240, .inl mSh)), (amRK, .inl (cI, 5, .inl (upd mRK mReadLin.toNatClampNeg (0 : Int32)))), (amRO, .inl (cI, 5, .inl (upd mRO mReadLin.toNatClampNeg ((m_X8_figure ((mReadAt + (1 : Int32)) + (1 : Int32)) mSh frm n (3 : Int32)).1)))), (amRD, .inl (cI, 5, .inl (upd mRD mReadLin.toNatClampNeg ((m_X8_figure ((m_X8_figure ((mReadAt + (1 : Int32)) + (1 : Int32)) mSh frm n (3 : Int32)).2) mSh frm n (9 : Int32)).1))))]) hC iw_X8_readsLinen_RX8 0 rfl rfl 11 (by decide) (List.mem_of_getElem? (i := 1) rfl) rfl tyX8 tyX8_ok nmX8 rfl rfl rfl (Nat.le_of_ble_eq_true rfl) rfl dX8_readsLinen_163 rfl ?_
              refine g_iconst (v := 1) hC dX8_readsLinen_166 (by decide) rfl ?_
              subst hres
              exact g_zret hC hX rfl rfl dX8_readsLinen_167 rfl rfl
          · rw [if_neg c_99] at hres
            refine g_iconst (v := 0) hC dX8_readsLinen_102 (by decide) rfl ?_
            subst hres
            exact g_zret hC hX rfl rfl dX8_readsLinen_103 rfl rfl
        · rw [if_neg c_79] at hres
          refine g_bipush (v := -9) hC dX8_readsLinen_82 (by decide) rfl ?_
          refine g_goto (tgt := 95) hC dX8_readsLinen_84 (by decide) ?_
          refine g_istore (lv' := [(5, .int (-9 : Int32)), (4, .int ((m_X8_figure ((mReadAt + (1 : Int32)) + (1 : Int32)) mSh frm n (3 : Int32)).1)), (3, .int (m_X8_codeAt (mReadAt + (1 : Int32)) mSh frm n)), (0, .ref aMO), (1, .int frm), (2, .int n)]) hC dX8_readsLinen_95 (by decide) rfl rfl ?_
          refine g_iload hC dX8_readsLinen_97 0 rfl rfl ?_
          refine g_if_ge (tgt := 104) hC dX8_readsLinen_99 (by decide) rfl (fun c_99 => ?_) (fun c_99 => ?_)
          · rw [if_pos c_99] at hres
            refine g_aload_n hC dX8_readsLinen_104 rfl 3 rfl rfl ?_
            refine g_get hC iw_X8_readsLinen_RX8 0 rfl rfl 14 (by decide) (List.mem_of_getElem? (i := 3) rfl) rfl rfl dX8_readsLinen_105 rfl ?_
            refine g_aload_n hC dX8_readsLinen_108 rfl 3 rfl rfl ?_
            refine g_get hC iw_X8_readsLinen_RX8 0 rfl rfl 11 (by decide) (List.mem_of_getElem? (i := 1) rfl) rfl rfl dX8_readsLinen_109 rfl ?_
            refine g_iload_n hC dX8_readsLinen_112 rfl 2 rfl rfl ?_
            refine g_bipush (v := 99) hC dX8_readsLinen_113 (by decide) rfl ?_
            refine g_icmp_ne (tgt := 122) hC dX8_readsLinen_115 (by decide) rfl (fun c_115 => ?_) (fun c_115 => ?_)
            · rw [if_neg c_115] at hres
              refine g_iload_n hC dX8_readsLinen_122 rfl 2 rfl rfl ?_
              refine g_bipush (v := 108) hC dX8_readsLinen_123 (by decide) rfl ?_
              have K_125 : ∀ vK : Int32, vK = (if (m_X8_codeAt (mReadAt + (1 : Int32)) mSh frm n) = (108 : Int32) then (1 : Int32) else (2 : Int32)) → G X D 6 [(aMO, .inr (8, [.int mFault, .ref amS, .int mDays, .ref amH, .int mLin, .ref amK, .ref amO, .ref amD, .int mCool, .int ((m_X8_figure ((mReadAt + (1 : Int32)) + (1 : Int32)) mSh frm n (3 : Int32)).2), .int mReadDays, .int mReadLin, .ref amRS, .ref amRH, .ref amRK, .ref amRO, .ref amRD, .ref amDN, .ref amSN, .int mDayNow, .int mLast, .int mTears, .int mWrong, .ref amTF, .ref amTFor, .ref amWB, .int mRdn, .ref amRdL, .ref amRdE, .ref amRdD, .ref amSz, .ref amLane, .ref amSh, .ref amHands, .int mTrace])), (amSh, .inl (cI, 240, .inl mSh)), (amRK, .inl (cI, 5, .inl mRK)), (amRO, .inl (cI, 5, .inl mRO)), (amRD, .inl (cI, 5, .inl mRD))] [(5, .int (-9 : Int32)), (4, .int ((m_X8_figure ((mReadAt + (1 : Int32)) + (1 : Int32)) mSh frm n (3 : Int32)).1)), (3, .int (m_X8_codeAt (mReadAt + (1 : Int32)) mSh frm n)), (0, .ref aMO), (1, .int frm), (2, .int n)] 133 (.int vK :: [.int mReadLin, .ref amRK]) := by
                intro vK hvK
                subst hvK
                refine g_iast (ws' := [(aMO, .inr (8, [.int mFault, .ref amS, .int mDays, .ref amH, .int mLin, .ref amK, .ref amO, .ref amD, .int mCool, .int ((m_X8_figure ((mReadAt + (1 : Int32)) + (1 : Int32)) mSh frm n (3 : Int32)).2), .int mReadDays, .int mReadLin, .ref amRS, .ref amRH, .ref amRK, .ref amRO, .ref amRD, .ref amDN, .ref amSN, .int mDayNow, .int mLast, .int mTears, .int mWrong, .ref amTF, .ref amTFor, .ref amWB, .int mRdn, .ref amRdL, .ref amRdE, .ref amRdD, .ref amSz, .ref amLane, .ref amSh, .ref amHands, .int mTrace])), (amSh, .inl (cI, 240, .inl mSh)), (amRK, .inl (cI, 5, .inl (upd mRK mReadLin.toNatClampNeg (if (m_X8_codeAt (mReadAt + (1 : Int32)) mSh frm n) = (108 : Int32) then (1 : Int32) else (2 : Int32))))), (amRO, .inl (cI, 5, .inl mRO)), (amRD, .inl (cI, 5, .inl mRD))]) hC 2 0 rfl rfl (by exact rl_in hrl c_5) rfl dX8_readsLinen_133 rfl ?_
                refine g_aload_n hC dX8_readsLinen_134 rfl 3 rfl rfl ?_
                refine g_get hC iw_X8_readsLinen_RX8 0 rfl rfl 15 (by decide) (List.mem_of_getElem? (i := 4) rfl) rfl rfl dX8_readsLinen_135 rfl ?_
                refine g_aload_n hC dX8_readsLinen_138 rfl 3 rfl rfl ?_
                refine g_get hC iw_X8_readsLinen_RX8 0 rfl rfl 11 (by decide) (List.mem_of_getElem? (i := 1) rfl) rfl rfl dX8_readsLinen_139 rfl ?_
                refine g_iload hC dX8_readsLinen_142 1 rfl rfl ?_
                refine g_iast (ws' := [(aMO, .inr (8, [.int mFault, .ref amS, .int mDays, .ref amH, .int mLin, .ref amK, .ref amO, .ref amD, .int mCool, .int ((m_X8_figure ((mReadAt + (1 : Int32)) + (1 : Int32)) mSh frm n (3 : Int32)).2), .int mReadDays, .int mReadLin, .ref amRS, .ref amRH, .ref amRK, .ref amRO, .ref amRD, .ref amDN, .ref amSN, .int mDayNow, .int mLast, .int mTears, .int mWrong, .ref amTF, .ref amTFor, .ref amWB, .int mRdn, .ref amRdL, .ref amRdE, .ref amRdD, .ref amSz, .ref amLane, .ref amSh, .ref amHands, .int mTrace])), (amSh, .inl (cI, 240, .inl mSh)), (amRK, .inl (cI, 5, .inl (upd mRK mReadLin.toNatClampNeg (if (m_X8_codeAt (mReadAt + (1 : Int32)) mSh frm n) = (108 : Int32) then (1 : Int32) else (2 : Int32))))), (amRO, .inl (cI, 5, .inl (upd mRO mReadLin.toNatClampNeg ((m_X8_figure ((mReadAt + (1 : Int32)) + (1 : Int32)) mSh frm n (3 : Int32)).1)))), (amRD, .inl (cI, 5, .inl mRD))]) hC 3 0 rfl rfl (by exact rl_in hrl c_5) rfl dX8_readsLinen_144 rfl ?_
                refine g_aload_n hC dX8_readsLinen_145 rfl 3 rfl rfl ?_
                refine g_get hC iw_X8_readsLinen_RX8 0 rfl rfl 16 (by decide) (List.mem_of_getElem? (i := 5) rfl) rfl rfl dX8_readsLinen_146 rfl ?_
                refine g_aload_n hC dX8_readsLinen_149 rfl 3 rfl rfl ?_
                refine g_get hC iw_X8_readsLinen_RX8 0 rfl rfl 11 (by decide) (List.mem_of_getElem? (i := 1) rfl) rfl rfl dX8_readsLinen_150 rfl ?_
                refine g_iload hC dX8_readsLinen_153 0 rfl rfl ?_
                refine g_iast (ws' := [(aMO, .inr (8, [.int mFault, .ref amS, .int mDays, .ref amH, .int mLin, .ref amK, .ref amO, .ref amD, .int mCool, .int ((m_X8_figure ((mReadAt + (1 : Int32)) + (1 : Int32)) mSh frm n (3 : Int32)).2), .int mReadDays, .int mReadLin, .ref amRS, .ref amRH, .ref amRK, .ref amRO, .ref amRD, .ref amDN, .ref amSN, .int mDayNow, .int mLast, .int mTears, .int mWrong, .ref amTF, .ref amTFor, .ref amWB, .int mRdn, .ref amRdL, .ref amRdE, .ref amRdD, .ref amSz, .ref amLane, .ref amSh, .ref amHands, .int mTrace])), (amSh, .inl (cI, 240, .inl mSh)), (amRK, .inl (cI, 5, .inl (upd mRK mReadLin.toNatClampNeg (if (m_X8_codeAt (mReadAt + (1 : Int32)) mSh frm n) = (108 : Int32) then (1 : Int32) else (2 : Int32))))), (amRO, .inl (cI, 5, .inl (upd mRO mReadLin.toNatClampNeg ((m_X8_figure ((mReadAt + (1 : Int32)) + (1 : Int32)) mSh frm n (3 : Int32)).1)))), (amRD, .inl (cI, 5, .inl (upd mRD mReadLin.toNatClampNeg (-9 : Int32))))]) hC 4 0 rfl rfl (by exact rl_in hrl c_5) rfl dX8_readsLinen_155 rfl ?_
                refine g_aload_n hC dX8_readsLinen_156 rfl 3 rfl rfl ?_
                refine g_dup hC dX8_readsLinen_157 rfl rfl ?_
                refine g_get hC iw_X8_readsLinen_RX8 0 rfl rfl 11 (by decide) (List.mem_of_getElem? (i := 1) rfl) rfl rfl dX8_readsLinen_158 rfl ?_
                refine g_iconst (v := 1) hC dX8_readsLinen_161 (by decide) rfl ?_
                refine g_iadd hC dX8_readsLinen_162 rfl ?_
                refine g_put (ws' := [(aMO, .inr (8, [.int mFault, .ref amS, .int mDays, .ref amH, .int mLin, .ref amK, .ref amO, .ref amD, .int mCool, .int ((m_X8_figure ((mReadAt + (1 : Int32)) + (1 : Int32)) mSh frm n (3 : Int32)).2), .int mReadDays, .int (mReadLin + (1 : Int32)), .ref amRS, .ref amRH, .ref amRK, .ref amRO, .ref amRD, .ref amDN, .ref amSN, .int mDayNow, .int mLast, .int mTears, .int mWrong, .ref amTF, .ref amTFor, .ref amWB, .int mRdn, .ref amRdL, .ref amRdE, .ref amRdD, .ref amSz, .ref amLane, .ref amSh, .ref amHands, .int mTrace])), (amSh, .inl (cI, 240, .inl mSh)), (amRK, .inl (cI, 5, .inl (upd mRK mReadLin.toNatClampNeg (if (m_X8_codeAt (mReadAt + (1 : Int32)) mSh frm n) = (108 : Int32) then (1 : Int32) else (2 : Int32))))), (amRO, .inl (cI, 5, .inl (upd mRO mReadLin.toNatClampNeg ((m_X8_figure ((mReadAt + (1 : Int32)) + (1 : Int32)) mSh frm n (3 : Int32)).1)))), (amRD, .inl (cI, 5, .inl (upd mRD mReadLin.toNatClampNeg (-9 : Int32))))]) hC iw_X8_readsLinen_RX8 0 rfl rfl 11 (by decide) (List.mem_of_getElem? (i := 1) rfl) rfl tyX8 tyX8_ok nmX8 rfl rfl rfl (Nat.le_of_ble_eq_true rfl) rfl dX8_readsLinen_163 rfl ?_
                refine g_iconst (v := 1) hC dX8_readsLinen_166 (by decide) rfl ?_
                subst hres
                exact g_zret hC hX rfl rfl dX8_readsLinen_167 rfl rfl
              refine g_icmp_ne (tgt := 132) hC dX8_readsLinen_125 (by decide) rfl (fun c_125 => ?_) (fun c_125 => ?_)
              · refine g_iconst (v := 2) hC dX8_readsLinen_132 (by decide) rfl ?_
                exact K_125 _ (if_neg c_125).symm
              · refine g_iconst (v := 1) hC dX8_readsLinen_128 (by decide) rfl ?_
                refine g_goto (tgt := 133) hC dX8_readsLinen_129 (by decide) ?_
                exact K_125 _ (if_pos c_125).symm
            · rw [if_pos c_115] at hres
              refine g_iconst (v := 0) hC dX8_readsLinen_118 (by decide) rfl ?_
              refine g_goto (tgt := 133) hC dX8_readsLinen_119 (by decide) ?_
              refine g_iast (ws' := [(aMO, .inr (8, [.int mFault, .ref amS, .int mDays, .ref amH, .int mLin, .ref amK, .ref amO, .ref amD, .int mCool, .int ((m_X8_figure ((mReadAt + (1 : Int32)) + (1 : Int32)) mSh frm n (3 : Int32)).2), .int mReadDays, .int mReadLin, .ref amRS, .ref amRH, .ref amRK, .ref amRO, .ref amRD, .ref amDN, .ref amSN, .int mDayNow, .int mLast, .int mTears, .int mWrong, .ref amTF, .ref amTFor, .ref amWB, .int mRdn, .ref amRdL, .ref amRdE, .ref amRdD, .ref amSz, .ref amLane, .ref amSh, .ref amHands, .int mTrace])), (amSh, .inl (cI, 240, .inl mSh)), (amRK, .inl (cI, 5, .inl (upd mRK mReadLin.toNatClampNeg (0 : Int32)))), (amRO, .inl (cI, 5, .inl mRO)), (amRD, .inl (cI, 5, .inl mRD))]) hC 2 0 rfl rfl (by exact rl_in hrl c_5) rfl dX8_readsLinen_133 rfl ?_
              refine g_aload_n hC dX8_readsLinen_134 rfl 3 rfl rfl ?_
              refine g_get hC iw_X8_readsLinen_RX8 0 rfl rfl 15 (by decide) (List.mem_of_getElem? (i := 4) rfl) rfl rfl dX8_readsLinen_135 rfl ?_
              refine g_aload_n hC dX8_readsLinen_138 rfl 3 rfl rfl ?_
              refine g_get hC iw_X8_readsLinen_RX8 0 rfl rfl 11 (by decide) (List.mem_of_getElem? (i := 1) rfl) rfl rfl dX8_readsLinen_139 rfl ?_
              refine g_iload hC dX8_readsLinen_142 1 rfl rfl ?_
              refine g_iast (ws' := [(aMO, .inr (8, [.int mFault, .ref amS, .int mDays, .ref amH, .int mLin, .ref amK, .ref amO, .ref amD, .int mCool, .int ((m_X8_figure ((mReadAt + (1 : Int32)) + (1 : Int32)) mSh frm n (3 : Int32)).2), .int mReadDays, .int mReadLin, .ref amRS, .ref amRH, .ref amRK, .ref amRO, .ref amRD, .ref amDN, .ref amSN, .int mDayNow, .int mLast, .int mTears, .int mWrong, .ref amTF, .ref amTFor, .ref amWB, .int mRdn, .ref amRdL, .ref amRdE, .ref amRdD, .ref amSz, .ref amLane, .ref amSh, .ref amHands, .int mTrace])), (amSh, .inl (cI, 240, .inl mSh)), (amRK, .inl (cI, 5, .inl (upd mRK mReadLin.toNatClampNeg (0 : Int32)))), (amRO, .inl (cI, 5, .inl (upd mRO mReadLin.toNatClampNeg ((m_X8_figure ((mReadAt + (1 : Int32)) + (1 : Int32)) mSh frm n (3 : Int32)).1)))), (amRD, .inl (cI, 5, .inl mRD))]) hC 3 0 rfl rfl (by exact rl_in hrl c_5) rfl dX8_readsLinen_144 rfl ?_
              refine g_aload_n hC dX8_readsLinen_145 rfl 3 rfl rfl ?_
              refine g_get hC iw_X8_readsLinen_RX8 0 rfl rfl 16 (by decide) (List.mem_of_getElem? (i := 5) rfl) rfl rfl dX8_readsLinen_146 rfl ?_
              refine g_aload_n hC dX8_readsLinen_149 rfl 3 rfl rfl ?_
              refine g_get hC iw_X8_readsLinen_RX8 0 rfl rfl 11 (by decide) (List.mem_of_getElem? (i := 1) rfl) rfl rfl dX8_readsLinen_150 rfl ?_
              refine g_iload hC dX8_readsLinen_153 0 rfl rfl ?_
              refine g_iast (ws' := [(aMO, .inr (8, [.int mFault, .ref amS, .int mDays, .ref amH, .int mLin, .ref amK, .ref amO, .ref amD, .int mCool, .int ((m_X8_figure ((mReadAt + (1 : Int32)) + (1 : Int32)) mSh frm n (3 : Int32)).2), .int mReadDays, .int mReadLin, .ref amRS, .ref amRH, .ref amRK, .ref amRO, .ref amRD, .ref amDN, .ref amSN, .int mDayNow, .int mLast, .int mTears, .int mWrong, .ref amTF, .ref amTFor, .ref amWB, .int mRdn, .ref amRdL, .ref amRdE, .ref amRdD, .ref amSz, .ref amLane, .ref amSh, .ref amHands, .int mTrace])), (amSh, .inl (cI, 240, .inl mSh)), (amRK, .inl (cI, 5, .inl (upd mRK mReadLin.toNatClampNeg (0 : Int32)))), (amRO, .inl (cI, 5, .inl (upd mRO mReadLin.toNatClampNeg ((m_X8_figure ((mReadAt + (1 : Int32)) + (1 : Int32)) mSh frm n (3 : Int32)).1)))), (amRD, .inl (cI, 5, .inl (upd mRD mReadLin.toNatClampNeg (-9 : Int32))))]) hC 4 0 rfl rfl (by exact rl_in hrl c_5) rfl dX8_readsLinen_155 rfl ?_
              refine g_aload_n hC dX8_readsLinen_156 rfl 3 rfl rfl ?_
              refine g_dup hC dX8_readsLinen_157 rfl rfl ?_
              refine g_get hC iw_X8_readsLinen_RX8 0 rfl rfl 11 (by decide) (List.mem_of_getElem? (i := 1) rfl) rfl rfl dX8_readsLinen_158 rfl ?_
              refine g_iconst (v := 1) hC dX8_readsLinen_161 (by decide) rfl ?_
              refine g_iadd hC dX8_readsLinen_162 rfl ?_
              refine g_put (ws' := [(aMO, .inr (8, [.int mFault, .ref amS, .int mDays, .ref amH, .int mLin, .ref amK, .ref amO, .ref amD, .int mCool, .int ((m_X8_figure ((mReadAt + (1 : Int32)) + (1 : Int32)) mSh frm n (3 : Int32)).2), .int mReadDays, .int (mReadLin + (1 : Int32)), .ref amRS, .ref amRH, .ref amRK, .ref amRO, .ref amRD, .ref amDN, .ref amSN, .int mDayNow, .int mLast, .int mTears, .int mWrong, .ref amTF, .ref amTFor, .ref amWB, .int mRdn, .ref amRdL, .ref amRdE, .ref amRdD, .ref amSz, .ref amLane, .ref amSh, .ref amHands, .int mTrace])), (amSh, .inl (cI, 240, .inl mSh)), (amRK, .inl (cI, 5, .inl (upd mRK mReadLin.toNatClampNeg (0 : Int32)))), (amRO, .inl (cI, 5, .inl (upd mRO mReadLin.toNatClampNeg ((m_X8_figure ((mReadAt + (1 : Int32)) + (1 : Int32)) mSh frm n (3 : Int32)).1)))), (amRD, .inl (cI, 5, .inl (upd mRD mReadLin.toNatClampNeg (-9 : Int32))))]) hC iw_X8_readsLinen_RX8 0 rfl rfl 11 (by decide) (List.mem_of_getElem? (i := 1) rfl) rfl tyX8 tyX8_ok nmX8 rfl rfl rfl (Nat.le_of_ble_eq_true rfl) rfl dX8_readsLinen_163 rfl ?_
              refine g_iconst (v := 1) hC dX8_readsLinen_166 (by decide) rfl ?_
              subst hres
              exact g_zret hC hX rfl rfl dX8_readsLinen_167 rfl rfl
          · rw [if_neg c_99] at hres
            refine g_iconst (v := 0) hC dX8_readsLinen_102 (by decide) rfl ?_
            subst hres
            exact g_zret hC hX rfl rfl dX8_readsLinen_103 rfl rfl
      · rw [if_neg c_41] at hres
        refine g_iload_n hC dX8_readsLinen_44 rfl 0 rfl rfl ?_
        refine g_bipush (v := 108) hC dX8_readsLinen_45 (by decide) rfl ?_
        refine g_icmp_eq (tgt := 58) hC dX8_readsLinen_47 (by decide) rfl (fun c_47 => ?_) (fun c_47 => ?_)
        · rw [if_pos c_47] at hres
          refine g_aload_n hC dX8_readsLinen_58 rfl 1 rfl rfl ?_
          refine g_dup hC dX8_readsLinen_59 rfl rfl ?_
          refine g_get hC iw_X8_readsLinen_RX8 0 rfl rfl 9 (by decide) (List.mem_of_getElem? (i := 2) rfl) rfl rfl dX8_readsLinen_60 rfl ?_
          refine g_iconst (v := 1) hC dX8_readsLinen_63 (by decide) rfl ?_
          refine g_iadd hC dX8_readsLinen_64 rfl ?_
          refine g_put (ws' := [(aMO, .inr (8, [.int mFault, .ref amS, .int mDays, .ref amH, .int mLin, .ref amK, .ref amO, .ref amD, .int mCool, .int ((mReadAt + (1 : Int32)) + (1 : Int32)), .int mReadDays, .int mReadLin, .ref amRS, .ref amRH, .ref amRK, .ref amRO, .ref amRD, .ref amDN, .ref amSN, .int mDayNow, .int mLast, .int mTears, .int mWrong, .ref amTF, .ref amTFor, .ref amWB, .int mRdn, .ref amRdL, .ref amRdE, .ref amRdD, .ref amSz, .ref amLane, .ref amSh, .ref amHands, .int mTrace])), (amSh, .inl (cI, 240, .inl mSh)), (amRK, .inl (cI, 5, .inl mRK)), (amRO, .inl (cI, 5, .inl mRO)), (amRD, .inl (cI, 5, .inl mRD))]) hC iw_X8_readsLinen_RX8 0 rfl rfl 9 (by decide) (List.mem_of_getElem? (i := 2) rfl) rfl tyX8 tyX8_ok nmX8 rfl rfl rfl (Nat.le_of_ble_eq_true rfl) rfl dX8_readsLinen_65 rfl ?_
          refine g_aload_n hC dX8_readsLinen_68 rfl 1 rfl rfl ?_
          refine g_iload_n hC dX8_readsLinen_69 rfl 2 rfl rfl ?_
          refine g_iload_n hC dX8_readsLinen_70 rfl 3 rfl rfl ?_
          refine g_iconst (v := 3) hC dX8_readsLinen_71 (by decide) rfl ?_
          refine g_callV (ws' := [(aMO, .inr (8, [.int mFault, .ref amS, .int mDays, .ref amH, .int mLin, .ref amK, .ref amO, .ref amD, .int mCool, .int ((m_X8_figure ((mReadAt + (1 : Int32)) + (1 : Int32)) mSh frm n (3 : Int32)).2), .int mReadDays, .int mReadLin, .ref amRS, .ref amRH, .ref amRK, .ref amRO, .ref amRD, .ref amDN, .ref amSN, .int mDayNow, .int mLast, .int mTears, .int mWrong, .ref amTF, .ref amTFor, .ref amWB, .int mRdn, .ref amRdL, .ref amRdE, .ref amRdD, .ref amSz, .ref amLane, .ref amSh, .ref amHands, .int mTrace])), (amSh, .inl (cI, 240, .inl mSh)), (amRK, .inl (cI, 5, .inl mRK)), (amRO, .inl (cI, 5, .inl mRO)), (amRD, .inl (cI, 5, .inl mRD))]) (st' := [.int ((m_X8_figure ((mReadAt + (1 : Int32)) + (1 : Int32)) mSh frm n (3 : Int32)).1)]) (nw := 5) (n1 := 2) hC gX8_readsLinen_X8_figure hdV_yX8_figure 0 rfl rfl (As := [.int frm, .int n, .int (3 : Int32)]) (rest := []) (c_X8_figure D cI aMO mFault amS mDays amH mLin amK amO amD mCool ((mReadAt + (1 : Int32)) + (1 : Int32)) mReadDays mReadLin amRS amRH amRK amRO amRD amDN amSN mDayNow mLast mTears mWrong amTF amTFor amWB mRdn amRdL amRdE amRdD amSz amLane amSh amHands mTrace mSh frm n (3 : Int32) (by exact hidx) (by exact code_up c_47 (by decide) (code_up c_16 (by decide) hra))) rfl ⟨by decide, by decide⟩ rfl [0, 1] [2, 3, 4] [3, 4, 0, 1, 2] [0] rfl rfl rfl rfl (by decide) rfl rfl (Nat.le_of_ble_eq_true rfl) dX8_readsLinen_72 rfl rfl ?_
          refine g_istore (lv' := [(4, .int ((m_X8_figure ((mReadAt + (1 : Int32)) + (1 : Int32)) mSh frm n (3 : Int32)).1)), (3, .int (m_X8_codeAt (mReadAt + (1 : Int32)) mSh frm n)), (0, .ref aMO), (1, .int frm), (2, .int n)]) hC dX8_readsLinen_75 (by decide) rfl rfl ?_
          refine g_iload hC dX8_readsLinen_77 0 rfl rfl ?_
          refine g_if_ge (tgt := 87) hC dX8_readsLinen_79 (by decide) rfl (fun c_79 => ?_) (fun c_79 => ?_)
          · rw [if_pos c_79] at hres
            refine g_aload_n hC dX8_readsLinen_87 rfl 2 rfl rfl ?_
            refine g_iload_n hC dX8_readsLinen_88 rfl 3 rfl rfl ?_
            refine g_iload_n hC dX8_readsLinen_89 rfl 4 rfl rfl ?_
            refine g_bipush (v := 9) hC dX8_readsLinen_90 (by decide) rfl ?_
            refine g_callV (ws' := [(aMO, .inr (8, [.int mFault, .ref amS, .int mDays, .ref amH, .int mLin, .ref amK, .ref amO, .ref amD, .int mCool, .int ((m_X8_figure ((m_X8_figure ((mReadAt + (1 : Int32)) + (1 : Int32)) mSh frm n (3 : Int32)).2) mSh frm n (9 : Int32)).2), .int mReadDays, .int mReadLin, .ref amRS, .ref amRH, .ref amRK, .ref amRO, .ref amRD, .ref amDN, .ref amSN, .int mDayNow, .int mLast, .int mTears, .int mWrong, .ref amTF, .ref amTFor, .ref amWB, .int mRdn, .ref amRdL, .ref amRdE, .ref amRdD, .ref amSz, .ref amLane, .ref amSh, .ref amHands, .int mTrace])), (amSh, .inl (cI, 240, .inl mSh)), (amRK, .inl (cI, 5, .inl mRK)), (amRO, .inl (cI, 5, .inl mRO)), (amRD, .inl (cI, 5, .inl mRD))]) (st' := [.int ((m_X8_figure ((m_X8_figure ((mReadAt + (1 : Int32)) + (1 : Int32)) mSh frm n (3 : Int32)).2) mSh frm n (9 : Int32)).1)]) (nw := 5) (n1 := 2) hC gX8_readsLinen_X8_figure hdV_yX8_figure 0 rfl rfl (As := [.int frm, .int n, .int (9 : Int32)]) (rest := []) (c_X8_figure D cI aMO mFault amS mDays amH mLin amK amO amD mCool ((m_X8_figure ((mReadAt + (1 : Int32)) + (1 : Int32)) mSh frm n (3 : Int32)).2) mReadDays mReadLin amRS amRH amRK amRO amRD amDN amSN mDayNow mLast mTears mWrong amTF amTFor amWB mRdn amRdL amRdE amRdD amSz amLane amSh amHands mTrace mSh frm n (9 : Int32) (by exact hidx) (by exact fig_ra (by exact code_up c_47 (by decide) (code_up c_16 (by decide) hra)))) rfl ⟨by decide, by decide⟩ rfl [0, 1] [2, 3, 4] [3, 4, 0, 1, 2] [0] rfl rfl rfl rfl (by decide) rfl rfl (Nat.le_of_ble_eq_true rfl) dX8_readsLinen_92 rfl rfl ?_
            refine g_istore (lv' := [(5, .int ((m_X8_figure ((m_X8_figure ((mReadAt + (1 : Int32)) + (1 : Int32)) mSh frm n (3 : Int32)).2) mSh frm n (9 : Int32)).1)), (4, .int ((m_X8_figure ((mReadAt + (1 : Int32)) + (1 : Int32)) mSh frm n (3 : Int32)).1)), (3, .int (m_X8_codeAt (mReadAt + (1 : Int32)) mSh frm n)), (0, .ref aMO), (1, .int frm), (2, .int n)]) hC dX8_readsLinen_95 (by decide) rfl rfl ?_
            refine g_iload hC dX8_readsLinen_97 0 rfl rfl ?_
            refine g_if_ge (tgt := 104) hC dX8_readsLinen_99 (by decide) rfl (fun c_99 => ?_) (fun c_99 => ?_)
            · rw [if_pos c_99] at hres
              refine g_aload_n hC dX8_readsLinen_104 rfl 3 rfl rfl ?_
              refine g_get hC iw_X8_readsLinen_RX8 0 rfl rfl 14 (by decide) (List.mem_of_getElem? (i := 3) rfl) rfl rfl dX8_readsLinen_105 rfl ?_
              refine g_aload_n hC dX8_readsLinen_108 rfl 3 rfl rfl ?_
              refine g_get hC iw_X8_readsLinen_RX8 0 rfl rfl 11 (by decide) (List.mem_of_getElem? (i := 1) rfl) rfl rfl dX8_readsLinen_109 rfl ?_
              refine g_iload_n hC dX8_readsLinen_112 rfl 2 rfl rfl ?_
              refine g_bipush (v := 99) hC dX8_readsLinen_113 (by decide) rfl ?_
              refine g_icmp_ne (tgt := 122) hC dX8_readsLinen_115 (by decide) rfl (fun c_115 => ?_) (fun c_115 => ?_)
              · rw [if_neg c_115] at hres
                refine g_iload_n hC dX8_readsLinen_122 rfl 2 rfl rfl ?_
                refine g_bipush (v := 108) hC dX8_readsLinen_123 (by decide) rfl ?_
                have K_125 : ∀ vK : Int32, vK = (if (m_X8_codeAt (mReadAt + (1 : Int32)) mSh frm n) = (108 : Int32) then (1 : Int32) else (2 : Int32)) → G X D 6 [(aMO, .inr (8, [.int mFault, .ref amS, .int mDays, .ref amH, .int mLin, .ref amK, .ref amO, .ref amD, .int mCool, .int ((m_X8_figure ((m_X8_figure ((mReadAt + (1 : Int32)) + (1 : Int32)) mSh frm n (3 : Int32)).2) mSh frm n (9 : Int32)).2), .int mReadDays, .int mReadLin, .ref amRS, .ref amRH, .ref amRK, .ref amRO, .ref amRD, .ref amDN, .ref amSN, .int mDayNow, .int mLast, .int mTears, .int mWrong, .ref amTF, .ref amTFor, .ref amWB, .int mRdn, .ref amRdL, .ref amRdE, .ref amRdD, .ref amSz, .ref amLane, .ref amSh, .ref amHands, .int mTrace])), (amSh, .inl (cI, 240, .inl mSh)), (amRK, .inl (cI, 5, .inl mRK)), (amRO, .inl (cI, 5, .inl mRO)), (amRD, .inl (cI, 5, .inl mRD))] [(5, .int ((m_X8_figure ((m_X8_figure ((mReadAt + (1 : Int32)) + (1 : Int32)) mSh frm n (3 : Int32)).2) mSh frm n (9 : Int32)).1)), (4, .int ((m_X8_figure ((mReadAt + (1 : Int32)) + (1 : Int32)) mSh frm n (3 : Int32)).1)), (3, .int (m_X8_codeAt (mReadAt + (1 : Int32)) mSh frm n)), (0, .ref aMO), (1, .int frm), (2, .int n)] 133 (.int vK :: [.int mReadLin, .ref amRK]) := by
                  intro vK hvK
                  subst hvK
                  refine g_iast (ws' := [(aMO, .inr (8, [.int mFault, .ref amS, .int mDays, .ref amH, .int mLin, .ref amK, .ref amO, .ref amD, .int mCool, .int ((m_X8_figure ((m_X8_figure ((mReadAt + (1 : Int32)) + (1 : Int32)) mSh frm n (3 : Int32)).2) mSh frm n (9 : Int32)).2), .int mReadDays, .int mReadLin, .ref amRS, .ref amRH, .ref amRK, .ref amRO, .ref amRD, .ref amDN, .ref amSN, .int mDayNow, .int mLast, .int mTears, .int mWrong, .ref amTF, .ref amTFor, .ref amWB, .int mRdn, .ref amRdL, .ref amRdE, .ref amRdD, .ref amSz, .ref amLane, .ref amSh, .ref amHands, .int mTrace])), (amSh, .inl (cI, 240, .inl mSh)), (amRK, .inl (cI, 5, .inl (upd mRK mReadLin.toNatClampNeg (if (m_X8_codeAt (mReadAt + (1 : Int32)) mSh frm n) = (108 : Int32) then (1 : Int32) else (2 : Int32))))), (amRO, .inl (cI, 5, .inl mRO)), (amRD, .inl (cI, 5, .inl mRD))]) hC 2 0 rfl rfl (by exact rl_in hrl c_5) rfl dX8_readsLinen_133 rfl ?_
                  refine g_aload_n hC dX8_readsLinen_134 rfl 3 rfl rfl ?_
                  refine g_get hC iw_X8_readsLinen_RX8 0 rfl rfl 15 (by decide) (List.mem_of_getElem? (i := 4) rfl) rfl rfl dX8_readsLinen_135 rfl ?_
                  refine g_aload_n hC dX8_readsLinen_138 rfl 3 rfl rfl ?_
                  refine g_get hC iw_X8_readsLinen_RX8 0 rfl rfl 11 (by decide) (List.mem_of_getElem? (i := 1) rfl) rfl rfl dX8_readsLinen_139 rfl ?_
                  refine g_iload hC dX8_readsLinen_142 1 rfl rfl ?_
                  refine g_iast (ws' := [(aMO, .inr (8, [.int mFault, .ref amS, .int mDays, .ref amH, .int mLin, .ref amK, .ref amO, .ref amD, .int mCool, .int ((m_X8_figure ((m_X8_figure ((mReadAt + (1 : Int32)) + (1 : Int32)) mSh frm n (3 : Int32)).2) mSh frm n (9 : Int32)).2), .int mReadDays, .int mReadLin, .ref amRS, .ref amRH, .ref amRK, .ref amRO, .ref amRD, .ref amDN, .ref amSN, .int mDayNow, .int mLast, .int mTears, .int mWrong, .ref amTF, .ref amTFor, .ref amWB, .int mRdn, .ref amRdL, .ref amRdE, .ref amRdD, .ref amSz, .ref amLane, .ref amSh, .ref amHands, .int mTrace])), (amSh, .inl (cI, 240, .inl mSh)), (amRK, .inl (cI, 5, .inl (upd mRK mReadLin.toNatClampNeg (if (m_X8_codeAt (mReadAt + (1 : Int32)) mSh frm n) = (108 : Int32) then (1 : Int32) else (2 : Int32))))), (amRO, .inl (cI, 5, .inl (upd mRO mReadLin.toNatClampNeg ((m_X8_figure ((mReadAt + (1 : Int32)) + (1 : Int32)) mSh frm n (3 : Int32)).1)))), (amRD, .inl (cI, 5, .inl mRD))]) hC 3 0 rfl rfl (by exact rl_in hrl c_5) rfl dX8_readsLinen_144 rfl ?_
                  refine g_aload_n hC dX8_readsLinen_145 rfl 3 rfl rfl ?_
                  refine g_get hC iw_X8_readsLinen_RX8 0 rfl rfl 16 (by decide) (List.mem_of_getElem? (i := 5) rfl) rfl rfl dX8_readsLinen_146 rfl ?_
                  refine g_aload_n hC dX8_readsLinen_149 rfl 3 rfl rfl ?_
                  refine g_get hC iw_X8_readsLinen_RX8 0 rfl rfl 11 (by decide) (List.mem_of_getElem? (i := 1) rfl) rfl rfl dX8_readsLinen_150 rfl ?_
                  refine g_iload hC dX8_readsLinen_153 0 rfl rfl ?_
                  refine g_iast (ws' := [(aMO, .inr (8, [.int mFault, .ref amS, .int mDays, .ref amH, .int mLin, .ref amK, .ref amO, .ref amD, .int mCool, .int ((m_X8_figure ((m_X8_figure ((mReadAt + (1 : Int32)) + (1 : Int32)) mSh frm n (3 : Int32)).2) mSh frm n (9 : Int32)).2), .int mReadDays, .int mReadLin, .ref amRS, .ref amRH, .ref amRK, .ref amRO, .ref amRD, .ref amDN, .ref amSN, .int mDayNow, .int mLast, .int mTears, .int mWrong, .ref amTF, .ref amTFor, .ref amWB, .int mRdn, .ref amRdL, .ref amRdE, .ref amRdD, .ref amSz, .ref amLane, .ref amSh, .ref amHands, .int mTrace])), (amSh, .inl (cI, 240, .inl mSh)), (amRK, .inl (cI, 5, .inl (upd mRK mReadLin.toNatClampNeg (if (m_X8_codeAt (mReadAt + (1 : Int32)) mSh frm n) = (108 : Int32) then (1 : Int32) else (2 : Int32))))), (amRO, .inl (cI, 5, .inl (upd mRO mReadLin.toNatClampNeg ((m_X8_figure ((mReadAt + (1 : Int32)) + (1 : Int32)) mSh frm n (3 : Int32)).1)))), (amRD, .inl (cI, 5, .inl (upd mRD mReadLin.toNatClampNeg ((m_X8_figure ((m_X8_figure ((mReadAt + (1 : Int32)) + (1 : Int32)) mSh frm n (3 : Int32)).2) mSh frm n (9 : Int32)).1))))]) hC 4 0 rfl rfl (by exact rl_in hrl c_5) rfl dX8_readsLinen_155 rfl ?_
                  refine g_aload_n hC dX8_readsLinen_156 rfl 3 rfl rfl ?_
                  refine g_dup hC dX8_readsLinen_157 rfl rfl ?_
                  refine g_get hC iw_X8_readsLinen_RX8 0 rfl rfl 11 (by decide) (List.mem_of_getElem? (i := 1) rfl) rfl rfl dX8_readsLinen_158 rfl ?_
                  refine g_iconst (v := 1) hC dX8_readsLinen_161 (by decide) rfl ?_
                  refine g_iadd hC dX8_readsLinen_162 rfl ?_
                  refine g_put (ws' := [(aMO, .inr (8, [.int mFault, .ref amS, .int mDays, .ref amH, .int mLin, .ref amK, .ref amO, .ref amD, .int mCool, .int ((m_X8_figure ((m_X8_figure ((mReadAt + (1 : Int32)) + (1 : Int32)) mSh frm n (3 : Int32)).2) mSh frm n (9 : Int32)).2), .int mReadDays, .int (mReadLin + (1 : Int32)), .ref amRS, .ref amRH, .ref amRK, .ref amRO, .ref amRD, .ref amDN, .ref amSN, .int mDayNow, .int mLast, .int mTears, .int mWrong, .ref amTF, .ref amTFor, .ref amWB, .int mRdn, .ref amRdL, .ref amRdE, .ref amRdD, .ref amSz, .ref amLane, .ref amSh, .ref amHands, .int mTrace])), (amSh, .inl (cI, 240, .inl mSh)), (amRK, .inl (cI, 5, .inl (upd mRK mReadLin.toNatClampNeg (if (m_X8_codeAt (mReadAt + (1 : Int32)) mSh frm n) = (108 : Int32) then (1 : Int32) else (2 : Int32))))), (amRO, .inl (cI, 5, .inl (upd mRO mReadLin.toNatClampNeg ((m_X8_figure ((mReadAt + (1 : Int32)) + (1 : Int32)) mSh frm n (3 : Int32)).1)))), (amRD, .inl (cI, 5, .inl (upd mRD mReadLin.toNatClampNeg ((m_X8_figure ((m_X8_figure ((mReadAt + (1 : Int32)) + (1 : Int32)) mSh frm n (3 : Int32)).2) mSh frm n (9 : Int32)).1))))]) hC iw_X8_readsLinen_RX8 0 rfl rfl 11 (by decide) (List.mem_of_getElem? (i := 1) rfl) rfl tyX8 tyX8_ok nmX8 rfl rfl rfl (Nat.le_of_ble_eq_true rfl) rfl dX8_readsLinen_163 rfl ?_
                  refine g_iconst (v := 1) hC dX8_readsLinen_166 (by decide) rfl ?_
                  subst hres
                  exact g_zret hC hX rfl rfl dX8_readsLinen_167 rfl rfl
                refine g_icmp_ne (tgt := 132) hC dX8_readsLinen_125 (by decide) rfl (fun c_125 => ?_) (fun c_125 => ?_)
                · refine g_iconst (v := 2) hC dX8_readsLinen_132 (by decide) rfl ?_
                  exact K_125 _ (if_neg c_125).symm
                · refine g_iconst (v := 1) hC dX8_readsLinen_128 (by decide) rfl ?_
                  refine g_goto (tgt := 133) hC dX8_readsLinen_129 (by decide) ?_
                  exact K_125 _ (if_pos c_125).symm
              · rw [if_pos c_115] at hres
                refine g_iconst (v := 0) hC dX8_readsLinen_118 (by decide) rfl ?_
                refine g_goto (tgt := 133) hC dX8_readsLinen_119 (by decide) ?_
                refine g_iast (ws' := [(aMO, .inr (8, [.int mFault, .ref amS, .int mDays, .ref amH, .int mLin, .ref amK, .ref amO, .ref amD, .int mCool, .int ((m_X8_figure ((m_X8_figure ((mReadAt + (1 : Int32)) + (1 : Int32)) mSh frm n (3 : Int32)).2) mSh frm n (9 : Int32)).2), .int mReadDays, .int mReadLin, .ref amRS, .ref amRH, .ref amRK, .ref amRO, .ref amRD, .ref amDN, .ref amSN, .int mDayNow, .int mLast, .int mTears, .int mWrong, .ref amTF, .ref amTFor, .ref amWB, .int mRdn, .ref amRdL, .ref amRdE, .ref amRdD, .ref amSz, .ref amLane, .ref amSh, .ref amHands, .int mTrace])), (amSh, .inl (cI, 240, .inl mSh)), (amRK, .inl (cI, 5, .inl (upd mRK mReadLin.toNatClampNeg (0 : Int32)))), (amRO, .inl (cI, 5, .inl mRO)), (amRD, .inl (cI, 5, .inl mRD))]) hC 2 0 rfl rfl (by exact rl_in hrl c_5) rfl dX8_readsLinen_133 rfl ?_
                refine g_aload_n hC dX8_readsLinen_134 rfl 3 rfl rfl ?_
                refine g_get hC iw_X8_readsLinen_RX8 0 rfl rfl 15 (by decide) (List.mem_of_getElem? (i := 4) rfl) rfl rfl dX8_readsLinen_135 rfl ?_
                refine g_aload_n hC dX8_readsLinen_138 rfl 3 rfl rfl ?_
                refine g_get hC iw_X8_readsLinen_RX8 0 rfl rfl 11 (by decide) (List.mem_of_getElem? (i := 1) rfl) rfl rfl dX8_readsLinen_139 rfl ?_
                refine g_iload hC dX8_readsLinen_142 1 rfl rfl ?_
                refine g_iast (ws' := [(aMO, .inr (8, [.int mFault, .ref amS, .int mDays, .ref amH, .int mLin, .ref amK, .ref amO, .ref amD, .int mCool, .int ((m_X8_figure ((m_X8_figure ((mReadAt + (1 : Int32)) + (1 : Int32)) mSh frm n (3 : Int32)).2) mSh frm n (9 : Int32)).2), .int mReadDays, .int mReadLin, .ref amRS, .ref amRH, .ref amRK, .ref amRO, .ref amRD, .ref amDN, .ref amSN, .int mDayNow, .int mLast, .int mTears, .int mWrong, .ref amTF, .ref amTFor, .ref amWB, .int mRdn, .ref amRdL, .ref amRdE, .ref amRdD, .ref amSz, .ref amLane, .ref amSh, .ref amHands, .int mTrace])), (amSh, .inl (cI, 240, .inl mSh)), (amRK, .inl (cI, 5, .inl (upd mRK mReadLin.toNatClampNeg (0 : Int32)))), (amRO, .inl (cI, 5, .inl (upd mRO mReadLin.toNatClampNeg ((m_X8_figure ((mReadAt + (1 : Int32)) + (1 : Int32)) mSh frm n (3 : Int32)).1)))), (amRD, .inl (cI, 5, .inl mRD))]) hC 3 0 rfl rfl (by exact rl_in hrl c_5) rfl dX8_readsLinen_144 rfl ?_
                refine g_aload_n hC dX8_readsLinen_145 rfl 3 rfl rfl ?_
                refine g_get hC iw_X8_readsLinen_RX8 0 rfl rfl 16 (by decide) (List.mem_of_getElem? (i := 5) rfl) rfl rfl dX8_readsLinen_146 rfl ?_
                refine g_aload_n hC dX8_readsLinen_149 rfl 3 rfl rfl ?_
                refine g_get hC iw_X8_readsLinen_RX8 0 rfl rfl 11 (by decide) (List.mem_of_getElem? (i := 1) rfl) rfl rfl dX8_readsLinen_150 rfl ?_
                refine g_iload hC dX8_readsLinen_153 0 rfl rfl ?_
                refine g_iast (ws' := [(aMO, .inr (8, [.int mFault, .ref amS, .int mDays, .ref amH, .int mLin, .ref amK, .ref amO, .ref amD, .int mCool, .int ((m_X8_figure ((m_X8_figure ((mReadAt + (1 : Int32)) + (1 : Int32)) mSh frm n (3 : Int32)).2) mSh frm n (9 : Int32)).2), .int mReadDays, .int mReadLin, .ref amRS, .ref amRH, .ref amRK, .ref amRO, .ref amRD, .ref amDN, .ref amSN, .int mDayNow, .int mLast, .int mTears, .int mWrong, .ref amTF, .ref amTFor, .ref amWB, .int mRdn, .ref amRdL, .ref amRdE, .ref amRdD, .ref amSz, .ref amLane, .ref amSh, .ref amHands, .int mTrace])), (amSh, .inl (cI, 240, .inl mSh)), (amRK, .inl (cI, 5, .inl (upd mRK mReadLin.toNatClampNeg (0 : Int32)))), (amRO, .inl (cI, 5, .inl (upd mRO mReadLin.toNatClampNeg ((m_X8_figure ((mReadAt + (1 : Int32)) + (1 : Int32)) mSh frm n (3 : Int32)).1)))), (amRD, .inl (cI, 5, .inl (upd mRD mReadLin.toNatClampNeg ((m_X8_figure ((m_X8_figure ((mReadAt + (1 : Int32)) + (1 : Int32)) mSh frm n (3 : Int32)).2) mSh frm n (9 : Int32)).1))))]) hC 4 0 rfl rfl (by exact rl_in hrl c_5) rfl dX8_readsLinen_155 rfl ?_
                refine g_aload_n hC dX8_readsLinen_156 rfl 3 rfl rfl ?_
                refine g_dup hC dX8_readsLinen_157 rfl rfl ?_
                refine g_get hC iw_X8_readsLinen_RX8 0 rfl rfl 11 (by decide) (List.mem_of_getElem? (i := 1) rfl) rfl rfl dX8_readsLinen_158 rfl ?_
                refine g_iconst (v := 1) hC dX8_readsLinen_161 (by decide) rfl ?_
                refine g_iadd hC dX8_readsLinen_162 rfl ?_
                refine g_put (ws' := [(aMO, .inr (8, [.int mFault, .ref amS, .int mDays, .ref amH, .int mLin, .ref amK, .ref amO, .ref amD, .int mCool, .int ((m_X8_figure ((m_X8_figure ((mReadAt + (1 : Int32)) + (1 : Int32)) mSh frm n (3 : Int32)).2) mSh frm n (9 : Int32)).2), .int mReadDays, .int (mReadLin + (1 : Int32)), .ref amRS, .ref amRH, .ref amRK, .ref amRO, .ref amRD, .ref amDN, .ref amSN, .int mDayNow, .int mLast, .int mTears, .int mWrong, .ref amTF, .ref amTFor, .ref amWB, .int mRdn, .ref amRdL, .ref amRdE, .ref amRdD, .ref amSz, .ref amLane, .ref amSh, .ref amHands, .int mTrace])), (amSh, .inl (cI, 240, .inl mSh)), (amRK, .inl (cI, 5, .inl (upd mRK mReadLin.toNatClampNeg (0 : Int32)))), (amRO, .inl (cI, 5, .inl (upd mRO mReadLin.toNatClampNeg ((m_X8_figure ((mReadAt + (1 : Int32)) + (1 : Int32)) mSh frm n (3 : Int32)).1)))), (amRD, .inl (cI, 5, .inl (upd mRD mReadLin.toNatClampNeg ((m_X8_figure ((m_X8_figure ((mReadAt + (1 : Int32)) + (1 : Int32)) mSh frm n (3 : Int32)).2) mSh frm n (9 : Int32)).1))))]) hC iw_X8_readsLinen_RX8 0 rfl rfl 11 (by decide) (List.mem_of_getElem? (i := 1) rfl) rfl tyX8 tyX8_ok nmX8 rfl rfl rfl (Nat.le_of_ble_eq_true rfl) rfl dX8_readsLinen_163 rfl ?_
                refine g_iconst (v := 1) hC dX8_readsLinen_166 (by decide) rfl ?_
                subst hres
                exact g_zret hC hX rfl rfl dX8_readsLinen_167 rfl rfl
            · rw [if_neg c_99] at hres
              refine g_iconst (v := 0) hC dX8_readsLinen_102 (by decide) rfl ?_
              subst hres
              exact g_zret hC hX rfl rfl dX8_readsLinen_103 rfl rfl
          · rw [if_neg c_79] at hres
            refine g_bipush (v := -9) hC dX8_readsLinen_82 (by decide) rfl ?_
            refine g_goto (tgt := 95) hC dX8_readsLinen_84 (by decide) ?_
            refine g_istore (lv' := [(5, .int (-9 : Int32)), (4, .int ((m_X8_figure ((mReadAt + (1 : Int32)) + (1 : Int32)) mSh frm n (3 : Int32)).1)), (3, .int (m_X8_codeAt (mReadAt + (1 : Int32)) mSh frm n)), (0, .ref aMO), (1, .int frm), (2, .int n)]) hC dX8_readsLinen_95 (by decide) rfl rfl ?_
            refine g_iload hC dX8_readsLinen_97 0 rfl rfl ?_
            refine g_if_ge (tgt := 104) hC dX8_readsLinen_99 (by decide) rfl (fun c_99 => ?_) (fun c_99 => ?_)
            · rw [if_pos c_99] at hres
              refine g_aload_n hC dX8_readsLinen_104 rfl 3 rfl rfl ?_
              refine g_get hC iw_X8_readsLinen_RX8 0 rfl rfl 14 (by decide) (List.mem_of_getElem? (i := 3) rfl) rfl rfl dX8_readsLinen_105 rfl ?_
              refine g_aload_n hC dX8_readsLinen_108 rfl 3 rfl rfl ?_
              refine g_get hC iw_X8_readsLinen_RX8 0 rfl rfl 11 (by decide) (List.mem_of_getElem? (i := 1) rfl) rfl rfl dX8_readsLinen_109 rfl ?_
              refine g_iload_n hC dX8_readsLinen_112 rfl 2 rfl rfl ?_
              refine g_bipush (v := 99) hC dX8_readsLinen_113 (by decide) rfl ?_
              refine g_icmp_ne (tgt := 122) hC dX8_readsLinen_115 (by decide) rfl (fun c_115 => ?_) (fun c_115 => ?_)
              · rw [if_neg c_115] at hres
                refine g_iload_n hC dX8_readsLinen_122 rfl 2 rfl rfl ?_
                refine g_bipush (v := 108) hC dX8_readsLinen_123 (by decide) rfl ?_
                have K_125 : ∀ vK : Int32, vK = (if (m_X8_codeAt (mReadAt + (1 : Int32)) mSh frm n) = (108 : Int32) then (1 : Int32) else (2 : Int32)) → G X D 6 [(aMO, .inr (8, [.int mFault, .ref amS, .int mDays, .ref amH, .int mLin, .ref amK, .ref amO, .ref amD, .int mCool, .int ((m_X8_figure ((mReadAt + (1 : Int32)) + (1 : Int32)) mSh frm n (3 : Int32)).2), .int mReadDays, .int mReadLin, .ref amRS, .ref amRH, .ref amRK, .ref amRO, .ref amRD, .ref amDN, .ref amSN, .int mDayNow, .int mLast, .int mTears, .int mWrong, .ref amTF, .ref amTFor, .ref amWB, .int mRdn, .ref amRdL, .ref amRdE, .ref amRdD, .ref amSz, .ref amLane, .ref amSh, .ref amHands, .int mTrace])), (amSh, .inl (cI, 240, .inl mSh)), (amRK, .inl (cI, 5, .inl mRK)), (amRO, .inl (cI, 5, .inl mRO)), (amRD, .inl (cI, 5, .inl mRD))] [(5, .int (-9 : Int32)), (4, .int ((m_X8_figure ((mReadAt + (1 : Int32)) + (1 : Int32)) mSh frm n (3 : Int32)).1)), (3, .int (m_X8_codeAt (mReadAt + (1 : Int32)) mSh frm n)), (0, .ref aMO), (1, .int frm), (2, .int n)] 133 (.int vK :: [.int mReadLin, .ref amRK]) := by
                  intro vK hvK
                  subst hvK
                  refine g_iast (ws' := [(aMO, .inr (8, [.int mFault, .ref amS, .int mDays, .ref amH, .int mLin, .ref amK, .ref amO, .ref amD, .int mCool, .int ((m_X8_figure ((mReadAt + (1 : Int32)) + (1 : Int32)) mSh frm n (3 : Int32)).2), .int mReadDays, .int mReadLin, .ref amRS, .ref amRH, .ref amRK, .ref amRO, .ref amRD, .ref amDN, .ref amSN, .int mDayNow, .int mLast, .int mTears, .int mWrong, .ref amTF, .ref amTFor, .ref amWB, .int mRdn, .ref amRdL, .ref amRdE, .ref amRdD, .ref amSz, .ref amLane, .ref amSh, .ref amHands, .int mTrace])), (amSh, .inl (cI, 240, .inl mSh)), (amRK, .inl (cI, 5, .inl (upd mRK mReadLin.toNatClampNeg (if (m_X8_codeAt (mReadAt + (1 : Int32)) mSh frm n) = (108 : Int32) then (1 : Int32) else (2 : Int32))))), (amRO, .inl (cI, 5, .inl mRO)), (amRD, .inl (cI, 5, .inl mRD))]) hC 2 0 rfl rfl (by exact rl_in hrl c_5) rfl dX8_readsLinen_133 rfl ?_
                  refine g_aload_n hC dX8_readsLinen_134 rfl 3 rfl rfl ?_
                  refine g_get hC iw_X8_readsLinen_RX8 0 rfl rfl 15 (by decide) (List.mem_of_getElem? (i := 4) rfl) rfl rfl dX8_readsLinen_135 rfl ?_
                  refine g_aload_n hC dX8_readsLinen_138 rfl 3 rfl rfl ?_
                  refine g_get hC iw_X8_readsLinen_RX8 0 rfl rfl 11 (by decide) (List.mem_of_getElem? (i := 1) rfl) rfl rfl dX8_readsLinen_139 rfl ?_
                  refine g_iload hC dX8_readsLinen_142 1 rfl rfl ?_
                  refine g_iast (ws' := [(aMO, .inr (8, [.int mFault, .ref amS, .int mDays, .ref amH, .int mLin, .ref amK, .ref amO, .ref amD, .int mCool, .int ((m_X8_figure ((mReadAt + (1 : Int32)) + (1 : Int32)) mSh frm n (3 : Int32)).2), .int mReadDays, .int mReadLin, .ref amRS, .ref amRH, .ref amRK, .ref amRO, .ref amRD, .ref amDN, .ref amSN, .int mDayNow, .int mLast, .int mTears, .int mWrong, .ref amTF, .ref amTFor, .ref amWB, .int mRdn, .ref amRdL, .ref amRdE, .ref amRdD, .ref amSz, .ref amLane, .ref amSh, .ref amHands, .int mTrace])), (amSh, .inl (cI, 240, .inl mSh)), (amRK, .inl (cI, 5, .inl (upd mRK mReadLin.toNatClampNeg (if (m_X8_codeAt (mReadAt + (1 : Int32)) mSh frm n) = (108 : Int32) then (1 : Int32) else (2 : Int32))))), (amRO, .inl (cI, 5, .inl (upd mRO mReadLin.toNatClampNeg ((m_X8_figure ((mReadAt + (1 : Int32)) + (1 : Int32)) mSh frm n (3 : Int32)).1)))), (amRD, .inl (cI, 5, .inl mRD))]) hC 3 0 rfl rfl (by exact rl_in hrl c_5) rfl dX8_readsLinen_144 rfl ?_
                  refine g_aload_n hC dX8_readsLinen_145 rfl 3 rfl rfl ?_
                  refine g_get hC iw_X8_readsLinen_RX8 0 rfl rfl 16 (by decide) (List.mem_of_getElem? (i := 5) rfl) rfl rfl dX8_readsLinen_146 rfl ?_
                  refine g_aload_n hC dX8_readsLinen_149 rfl 3 rfl rfl ?_
                  refine g_get hC iw_X8_readsLinen_RX8 0 rfl rfl 11 (by decide) (List.mem_of_getElem? (i := 1) rfl) rfl rfl dX8_readsLinen_150 rfl ?_
                  refine g_iload hC dX8_readsLinen_153 0 rfl rfl ?_
                  refine g_iast (ws' := [(aMO, .inr (8, [.int mFault, .ref amS, .int mDays, .ref amH, .int mLin, .ref amK, .ref amO, .ref amD, .int mCool, .int ((m_X8_figure ((mReadAt + (1 : Int32)) + (1 : Int32)) mSh frm n (3 : Int32)).2), .int mReadDays, .int mReadLin, .ref amRS, .ref amRH, .ref amRK, .ref amRO, .ref amRD, .ref amDN, .ref amSN, .int mDayNow, .int mLast, .int mTears, .int mWrong, .ref amTF, .ref amTFor, .ref amWB, .int mRdn, .ref amRdL, .ref amRdE, .ref amRdD, .ref amSz, .ref amLane, .ref amSh, .ref amHands, .int mTrace])), (amSh, .inl (cI, 240, .inl mSh)), (amRK, .inl (cI, 5, .inl (upd mRK mReadLin.toNatClampNeg (if (m_X8_codeAt (mReadAt + (1 : Int32)) mSh frm n) = (108 : Int32) then (1 : Int32) else (2 : Int32))))), (amRO, .inl (cI, 5, .inl (upd mRO mReadLin.toNatClampNeg ((m_X8_figure ((mReadAt + (1 : Int32)) + (1 : Int32)) mSh frm n (3 : Int32)).1)))), (amRD, .inl (cI, 5, .inl (upd mRD mReadLin.toNatClampNeg (-9 : Int32))))]) hC 4 0 rfl rfl (by exact rl_in hrl c_5) rfl dX8_readsLinen_155 rfl ?_
                  refine g_aload_n hC dX8_readsLinen_156 rfl 3 rfl rfl ?_
                  refine g_dup hC dX8_readsLinen_157 rfl rfl ?_
                  refine g_get hC iw_X8_readsLinen_RX8 0 rfl rfl 11 (by decide) (List.mem_of_getElem? (i := 1) rfl) rfl rfl dX8_readsLinen_158 rfl ?_
                  refine g_iconst (v := 1) hC dX8_readsLinen_161 (by decide) rfl ?_
                  refine g_iadd hC dX8_readsLinen_162 rfl ?_
                  refine g_put (ws' := [(aMO, .inr (8, [.int mFault, .ref amS, .int mDays, .ref amH, .int mLin, .ref amK, .ref amO, .ref amD, .int mCool, .int ((m_X8_figure ((mReadAt + (1 : Int32)) + (1 : Int32)) mSh frm n (3 : Int32)).2), .int mReadDays, .int (mReadLin + (1 : Int32)), .ref amRS, .ref amRH, .ref amRK, .ref amRO, .ref amRD, .ref amDN, .ref amSN, .int mDayNow, .int mLast, .int mTears, .int mWrong, .ref amTF, .ref amTFor, .ref amWB, .int mRdn, .ref amRdL, .ref amRdE, .ref amRdD, .ref amSz, .ref amLane, .ref amSh, .ref amHands, .int mTrace])), (amSh, .inl (cI, 240, .inl mSh)), (amRK, .inl (cI, 5, .inl (upd mRK mReadLin.toNatClampNeg (if (m_X8_codeAt (mReadAt + (1 : Int32)) mSh frm n) = (108 : Int32) then (1 : Int32) else (2 : Int32))))), (amRO, .inl (cI, 5, .inl (upd mRO mReadLin.toNatClampNeg ((m_X8_figure ((mReadAt + (1 : Int32)) + (1 : Int32)) mSh frm n (3 : Int32)).1)))), (amRD, .inl (cI, 5, .inl (upd mRD mReadLin.toNatClampNeg (-9 : Int32))))]) hC iw_X8_readsLinen_RX8 0 rfl rfl 11 (by decide) (List.mem_of_getElem? (i := 1) rfl) rfl tyX8 tyX8_ok nmX8 rfl rfl rfl (Nat.le_of_ble_eq_true rfl) rfl dX8_readsLinen_163 rfl ?_
                  refine g_iconst (v := 1) hC dX8_readsLinen_166 (by decide) rfl ?_
                  subst hres
                  exact g_zret hC hX rfl rfl dX8_readsLinen_167 rfl rfl
                refine g_icmp_ne (tgt := 132) hC dX8_readsLinen_125 (by decide) rfl (fun c_125 => ?_) (fun c_125 => ?_)
                · refine g_iconst (v := 2) hC dX8_readsLinen_132 (by decide) rfl ?_
                  exact K_125 _ (if_neg c_125).symm
                · refine g_iconst (v := 1) hC dX8_readsLinen_128 (by decide) rfl ?_
                  refine g_goto (tgt := 133) hC dX8_readsLinen_129 (by decide) ?_
                  exact K_125 _ (if_pos c_125).symm
              · rw [if_pos c_115] at hres
                refine g_iconst (v := 0) hC dX8_readsLinen_118 (by decide) rfl ?_
                refine g_goto (tgt := 133) hC dX8_readsLinen_119 (by decide) ?_
                refine g_iast (ws' := [(aMO, .inr (8, [.int mFault, .ref amS, .int mDays, .ref amH, .int mLin, .ref amK, .ref amO, .ref amD, .int mCool, .int ((m_X8_figure ((mReadAt + (1 : Int32)) + (1 : Int32)) mSh frm n (3 : Int32)).2), .int mReadDays, .int mReadLin, .ref amRS, .ref amRH, .ref amRK, .ref amRO, .ref amRD, .ref amDN, .ref amSN, .int mDayNow, .int mLast, .int mTears, .int mWrong, .ref amTF, .ref amTFor, .ref amWB, .int mRdn, .ref amRdL, .ref amRdE, .ref amRdD, .ref amSz, .ref amLane, .ref amSh, .ref amHands, .int mTrace])), (amSh, .inl (cI, 240, .inl mSh)), (amRK, .inl (cI, 5, .inl (upd mRK mReadLin.toNatClampNeg (0 : Int32)))), (amRO, .inl (cI, 5, .inl mRO)), (amRD, .inl (cI, 5, .inl mRD))]) hC 2 0 rfl rfl (by exact rl_in hrl c_5) rfl dX8_readsLinen_133 rfl ?_
                refine g_aload_n hC dX8_readsLinen_134 rfl 3 rfl rfl ?_
                refine g_get hC iw_X8_readsLinen_RX8 0 rfl rfl 15 (by decide) (List.mem_of_getElem? (i := 4) rfl) rfl rfl dX8_readsLinen_135 rfl ?_
                refine g_aload_n hC dX8_readsLinen_138 rfl 3 rfl rfl ?_
                refine g_get hC iw_X8_readsLinen_RX8 0 rfl rfl 11 (by decide) (List.mem_of_getElem? (i := 1) rfl) rfl rfl dX8_readsLinen_139 rfl ?_
                refine g_iload hC dX8_readsLinen_142 1 rfl rfl ?_
                refine g_iast (ws' := [(aMO, .inr (8, [.int mFault, .ref amS, .int mDays, .ref amH, .int mLin, .ref amK, .ref amO, .ref amD, .int mCool, .int ((m_X8_figure ((mReadAt + (1 : Int32)) + (1 : Int32)) mSh frm n (3 : Int32)).2), .int mReadDays, .int mReadLin, .ref amRS, .ref amRH, .ref amRK, .ref amRO, .ref amRD, .ref amDN, .ref amSN, .int mDayNow, .int mLast, .int mTears, .int mWrong, .ref amTF, .ref amTFor, .ref amWB, .int mRdn, .ref amRdL, .ref amRdE, .ref amRdD, .ref amSz, .ref amLane, .ref amSh, .ref amHands, .int mTrace])), (amSh, .inl (cI, 240, .inl mSh)), (amRK, .inl (cI, 5, .inl (upd mRK mReadLin.toNatClampNeg (0 : Int32)))), (amRO, .inl (cI, 5, .inl (upd mRO mReadLin.toNatClampNeg ((m_X8_figure ((mReadAt + (1 : Int32)) + (1 : Int32)) mSh frm n (3 : Int32)).1)))), (amRD, .inl (cI, 5, .inl mRD))]) hC 3 0 rfl rfl (by exact rl_in hrl c_5) rfl dX8_readsLinen_144 rfl ?_
                refine g_aload_n hC dX8_readsLinen_145 rfl 3 rfl rfl ?_
                refine g_get hC iw_X8_readsLinen_RX8 0 rfl rfl 16 (by decide) (List.mem_of_getElem? (i := 5) rfl) rfl rfl dX8_readsLinen_146 rfl ?_
                refine g_aload_n hC dX8_readsLinen_149 rfl 3 rfl rfl ?_
                refine g_get hC iw_X8_readsLinen_RX8 0 rfl rfl 11 (by decide) (List.mem_of_getElem? (i := 1) rfl) rfl rfl dX8_readsLinen_150 rfl ?_
                refine g_iload hC dX8_readsLinen_153 0 rfl rfl ?_
                refine g_iast (ws' := [(aMO, .inr (8, [.int mFault, .ref amS, .int mDays, .ref amH, .int mLin, .ref amK, .ref amO, .ref amD, .int mCool, .int ((m_X8_figure ((mReadAt + (1 : Int32)) + (1 : Int32)) mSh frm n (3 : Int32)).2), .int mReadDays, .int mReadLin, .ref amRS, .ref amRH, .ref amRK, .ref amRO, .ref amRD, .ref amDN, .ref amSN, .int mDayNow, .int mLast, .int mTears, .int mWrong, .ref amTF, .ref amTFor, .ref amWB, .int mRdn, .ref amRdL, .ref amRdE, .ref amRdD, .ref amSz, .ref amLane, .ref amSh, .ref amHands, .int mTrace])), (amSh, .inl (cI, 240, .inl mSh)), (amRK, .inl (cI, 5, .inl (upd mRK mReadLin.toNatClampNeg (0 : Int32)))), (amRO, .inl (cI, 5, .inl (upd mRO mReadLin.toNatClampNeg ((m_X8_figure ((mReadAt + (1 : Int32)) + (1 : Int32)) mSh frm n (3 : Int32)).1)))), (amRD, .inl (cI, 5, .inl (upd mRD mReadLin.toNatClampNeg (-9 : Int32))))]) hC 4 0 rfl rfl (by exact rl_in hrl c_5) rfl dX8_readsLinen_155 rfl ?_
                refine g_aload_n hC dX8_readsLinen_156 rfl 3 rfl rfl ?_
                refine g_dup hC dX8_readsLinen_157 rfl rfl ?_
                refine g_get hC iw_X8_readsLinen_RX8 0 rfl rfl 11 (by decide) (List.mem_of_getElem? (i := 1) rfl) rfl rfl dX8_readsLinen_158 rfl ?_
                refine g_iconst (v := 1) hC dX8_readsLinen_161 (by decide) rfl ?_
                refine g_iadd hC dX8_readsLinen_162 rfl ?_
                refine g_put (ws' := [(aMO, .inr (8, [.int mFault, .ref amS, .int mDays, .ref amH, .int mLin, .ref amK, .ref amO, .ref amD, .int mCool, .int ((m_X8_figure ((mReadAt + (1 : Int32)) + (1 : Int32)) mSh frm n (3 : Int32)).2), .int mReadDays, .int (mReadLin + (1 : Int32)), .ref amRS, .ref amRH, .ref amRK, .ref amRO, .ref amRD, .ref amDN, .ref amSN, .int mDayNow, .int mLast, .int mTears, .int mWrong, .ref amTF, .ref amTFor, .ref amWB, .int mRdn, .ref amRdL, .ref amRdE, .ref amRdD, .ref amSz, .ref amLane, .ref amSh, .ref amHands, .int mTrace])), (amSh, .inl (cI, 240, .inl mSh)), (amRK, .inl (cI, 5, .inl (upd mRK mReadLin.toNatClampNeg (0 : Int32)))), (amRO, .inl (cI, 5, .inl (upd mRO mReadLin.toNatClampNeg ((m_X8_figure ((mReadAt + (1 : Int32)) + (1 : Int32)) mSh frm n (3 : Int32)).1)))), (amRD, .inl (cI, 5, .inl (upd mRD mReadLin.toNatClampNeg (-9 : Int32))))]) hC iw_X8_readsLinen_RX8 0 rfl rfl 11 (by decide) (List.mem_of_getElem? (i := 1) rfl) rfl tyX8 tyX8_ok nmX8 rfl rfl rfl (Nat.le_of_ble_eq_true rfl) rfl dX8_readsLinen_163 rfl ?_
                refine g_iconst (v := 1) hC dX8_readsLinen_166 (by decide) rfl ?_
                subst hres
                exact g_zret hC hX rfl rfl dX8_readsLinen_167 rfl rfl
            · rw [if_neg c_99] at hres
              refine g_iconst (v := 0) hC dX8_readsLinen_102 (by decide) rfl ?_
              subst hres
              exact g_zret hC hX rfl rfl dX8_readsLinen_103 rfl rfl
        · rw [if_neg c_47] at hres
          refine g_iload_n hC dX8_readsLinen_50 rfl 0 rfl rfl ?_
          refine g_bipush (v := 115) hC dX8_readsLinen_51 (by decide) rfl ?_
          refine g_icmp_eq (tgt := 58) hC dX8_readsLinen_53 (by decide) rfl (fun c_53 => ?_) (fun c_53 => ?_)
          · rw [if_pos c_53] at hres
            refine g_aload_n hC dX8_readsLinen_58 rfl 1 rfl rfl ?_
            refine g_dup hC dX8_readsLinen_59 rfl rfl ?_
            refine g_get hC iw_X8_readsLinen_RX8 0 rfl rfl 9 (by decide) (List.mem_of_getElem? (i := 2) rfl) rfl rfl dX8_readsLinen_60 rfl ?_
            refine g_iconst (v := 1) hC dX8_readsLinen_63 (by decide) rfl ?_
            refine g_iadd hC dX8_readsLinen_64 rfl ?_
            refine g_put (ws' := [(aMO, .inr (8, [.int mFault, .ref amS, .int mDays, .ref amH, .int mLin, .ref amK, .ref amO, .ref amD, .int mCool, .int ((mReadAt + (1 : Int32)) + (1 : Int32)), .int mReadDays, .int mReadLin, .ref amRS, .ref amRH, .ref amRK, .ref amRO, .ref amRD, .ref amDN, .ref amSN, .int mDayNow, .int mLast, .int mTears, .int mWrong, .ref amTF, .ref amTFor, .ref amWB, .int mRdn, .ref amRdL, .ref amRdE, .ref amRdD, .ref amSz, .ref amLane, .ref amSh, .ref amHands, .int mTrace])), (amSh, .inl (cI, 240, .inl mSh)), (amRK, .inl (cI, 5, .inl mRK)), (amRO, .inl (cI, 5, .inl mRO)), (amRD, .inl (cI, 5, .inl mRD))]) hC iw_X8_readsLinen_RX8 0 rfl rfl 9 (by decide) (List.mem_of_getElem? (i := 2) rfl) rfl tyX8 tyX8_ok nmX8 rfl rfl rfl (Nat.le_of_ble_eq_true rfl) rfl dX8_readsLinen_65 rfl ?_
            refine g_aload_n hC dX8_readsLinen_68 rfl 1 rfl rfl ?_
            refine g_iload_n hC dX8_readsLinen_69 rfl 2 rfl rfl ?_
            refine g_iload_n hC dX8_readsLinen_70 rfl 3 rfl rfl ?_
            refine g_iconst (v := 3) hC dX8_readsLinen_71 (by decide) rfl ?_
            refine g_callV (ws' := [(aMO, .inr (8, [.int mFault, .ref amS, .int mDays, .ref amH, .int mLin, .ref amK, .ref amO, .ref amD, .int mCool, .int ((m_X8_figure ((mReadAt + (1 : Int32)) + (1 : Int32)) mSh frm n (3 : Int32)).2), .int mReadDays, .int mReadLin, .ref amRS, .ref amRH, .ref amRK, .ref amRO, .ref amRD, .ref amDN, .ref amSN, .int mDayNow, .int mLast, .int mTears, .int mWrong, .ref amTF, .ref amTFor, .ref amWB, .int mRdn, .ref amRdL, .ref amRdE, .ref amRdD, .ref amSz, .ref amLane, .ref amSh, .ref amHands, .int mTrace])), (amSh, .inl (cI, 240, .inl mSh)), (amRK, .inl (cI, 5, .inl mRK)), (amRO, .inl (cI, 5, .inl mRO)), (amRD, .inl (cI, 5, .inl mRD))]) (st' := [.int ((m_X8_figure ((mReadAt + (1 : Int32)) + (1 : Int32)) mSh frm n (3 : Int32)).1)]) (nw := 5) (n1 := 2) hC gX8_readsLinen_X8_figure hdV_yX8_figure 0 rfl rfl (As := [.int frm, .int n, .int (3 : Int32)]) (rest := []) (c_X8_figure D cI aMO mFault amS mDays amH mLin amK amO amD mCool ((mReadAt + (1 : Int32)) + (1 : Int32)) mReadDays mReadLin amRS amRH amRK amRO amRD amDN amSN mDayNow mLast mTears mWrong amTF amTFor amWB mRdn amRdL amRdE amRdD amSz amLane amSh amHands mTrace mSh frm n (3 : Int32) (by exact hidx) (by exact code_up c_53 (by decide) (code_up c_16 (by decide) hra))) rfl ⟨by decide, by decide⟩ rfl [0, 1] [2, 3, 4] [3, 4, 0, 1, 2] [0] rfl rfl rfl rfl (by decide) rfl rfl (Nat.le_of_ble_eq_true rfl) dX8_readsLinen_72 rfl rfl ?_
            refine g_istore (lv' := [(4, .int ((m_X8_figure ((mReadAt + (1 : Int32)) + (1 : Int32)) mSh frm n (3 : Int32)).1)), (3, .int (m_X8_codeAt (mReadAt + (1 : Int32)) mSh frm n)), (0, .ref aMO), (1, .int frm), (2, .int n)]) hC dX8_readsLinen_75 (by decide) rfl rfl ?_
            refine g_iload hC dX8_readsLinen_77 0 rfl rfl ?_
            refine g_if_ge (tgt := 87) hC dX8_readsLinen_79 (by decide) rfl (fun c_79 => ?_) (fun c_79 => ?_)
            · rw [if_pos c_79] at hres
              refine g_aload_n hC dX8_readsLinen_87 rfl 2 rfl rfl ?_
              refine g_iload_n hC dX8_readsLinen_88 rfl 3 rfl rfl ?_
              refine g_iload_n hC dX8_readsLinen_89 rfl 4 rfl rfl ?_
              refine g_bipush (v := 9) hC dX8_readsLinen_90 (by decide) rfl ?_
              refine g_callV (ws' := [(aMO, .inr (8, [.int mFault, .ref amS, .int mDays, .ref amH, .int mLin, .ref amK, .ref amO, .ref amD, .int mCool, .int ((m_X8_figure ((m_X8_figure ((mReadAt + (1 : Int32)) + (1 : Int32)) mSh frm n (3 : Int32)).2) mSh frm n (9 : Int32)).2), .int mReadDays, .int mReadLin, .ref amRS, .ref amRH, .ref amRK, .ref amRO, .ref amRD, .ref amDN, .ref amSN, .int mDayNow, .int mLast, .int mTears, .int mWrong, .ref amTF, .ref amTFor, .ref amWB, .int mRdn, .ref amRdL, .ref amRdE, .ref amRdD, .ref amSz, .ref amLane, .ref amSh, .ref amHands, .int mTrace])), (amSh, .inl (cI, 240, .inl mSh)), (amRK, .inl (cI, 5, .inl mRK)), (amRO, .inl (cI, 5, .inl mRO)), (amRD, .inl (cI, 5, .inl mRD))]) (st' := [.int ((m_X8_figure ((m_X8_figure ((mReadAt + (1 : Int32)) + (1 : Int32)) mSh frm n (3 : Int32)).2) mSh frm n (9 : Int32)).1)]) (nw := 5) (n1 := 2) hC gX8_readsLinen_X8_figure hdV_yX8_figure 0 rfl rfl (As := [.int frm, .int n, .int (9 : Int32)]) (rest := []) (c_X8_figure D cI aMO mFault amS mDays amH mLin amK amO amD mCool ((m_X8_figure ((mReadAt + (1 : Int32)) + (1 : Int32)) mSh frm n (3 : Int32)).2) mReadDays mReadLin amRS amRH amRK amRO amRD amDN amSN mDayNow mLast mTears mWrong amTF amTFor amWB mRdn amRdL amRdE amRdD amSz amLane amSh amHands mTrace mSh frm n (9 : Int32) (by exact hidx) (by exact fig_ra (by exact code_up c_53 (by decide) (code_up c_16 (by decide) hra)))) rfl ⟨by decide, by decide⟩ rfl [0, 1] [2, 3, 4] [3, 4, 0, 1, 2] [0] rfl rfl rfl rfl (by decide) rfl rfl (Nat.le_of_ble_eq_true rfl) dX8_readsLinen_92 rfl rfl ?_
              refine g_istore (lv' := [(5, .int ((m_X8_figure ((m_X8_figure ((mReadAt + (1 : Int32)) + (1 : Int32)) mSh frm n (3 : Int32)).2) mSh frm n (9 : Int32)).1)), (4, .int ((m_X8_figure ((mReadAt + (1 : Int32)) + (1 : Int32)) mSh frm n (3 : Int32)).1)), (3, .int (m_X8_codeAt (mReadAt + (1 : Int32)) mSh frm n)), (0, .ref aMO), (1, .int frm), (2, .int n)]) hC dX8_readsLinen_95 (by decide) rfl rfl ?_
              refine g_iload hC dX8_readsLinen_97 0 rfl rfl ?_
              refine g_if_ge (tgt := 104) hC dX8_readsLinen_99 (by decide) rfl (fun c_99 => ?_) (fun c_99 => ?_)
              · rw [if_pos c_99] at hres
                refine g_aload_n hC dX8_readsLinen_104 rfl 3 rfl rfl ?_
                refine g_get hC iw_X8_readsLinen_RX8 0 rfl rfl 14 (by decide) (List.mem_of_getElem? (i := 3) rfl) rfl rfl dX8_readsLinen_105 rfl ?_
                refine g_aload_n hC dX8_readsLinen_108 rfl 3 rfl rfl ?_
                refine g_get hC iw_X8_readsLinen_RX8 0 rfl rfl 11 (by decide) (List.mem_of_getElem? (i := 1) rfl) rfl rfl dX8_readsLinen_109 rfl ?_
                refine g_iload_n hC dX8_readsLinen_112 rfl 2 rfl rfl ?_
                refine g_bipush (v := 99) hC dX8_readsLinen_113 (by decide) rfl ?_
                refine g_icmp_ne (tgt := 122) hC dX8_readsLinen_115 (by decide) rfl (fun c_115 => ?_) (fun c_115 => ?_)
                · rw [if_neg c_115] at hres
                  refine g_iload_n hC dX8_readsLinen_122 rfl 2 rfl rfl ?_
                  refine g_bipush (v := 108) hC dX8_readsLinen_123 (by decide) rfl ?_
                  have K_125 : ∀ vK : Int32, vK = (if (m_X8_codeAt (mReadAt + (1 : Int32)) mSh frm n) = (108 : Int32) then (1 : Int32) else (2 : Int32)) → G X D 6 [(aMO, .inr (8, [.int mFault, .ref amS, .int mDays, .ref amH, .int mLin, .ref amK, .ref amO, .ref amD, .int mCool, .int ((m_X8_figure ((m_X8_figure ((mReadAt + (1 : Int32)) + (1 : Int32)) mSh frm n (3 : Int32)).2) mSh frm n (9 : Int32)).2), .int mReadDays, .int mReadLin, .ref amRS, .ref amRH, .ref amRK, .ref amRO, .ref amRD, .ref amDN, .ref amSN, .int mDayNow, .int mLast, .int mTears, .int mWrong, .ref amTF, .ref amTFor, .ref amWB, .int mRdn, .ref amRdL, .ref amRdE, .ref amRdD, .ref amSz, .ref amLane, .ref amSh, .ref amHands, .int mTrace])), (amSh, .inl (cI, 240, .inl mSh)), (amRK, .inl (cI, 5, .inl mRK)), (amRO, .inl (cI, 5, .inl mRO)), (amRD, .inl (cI, 5, .inl mRD))] [(5, .int ((m_X8_figure ((m_X8_figure ((mReadAt + (1 : Int32)) + (1 : Int32)) mSh frm n (3 : Int32)).2) mSh frm n (9 : Int32)).1)), (4, .int ((m_X8_figure ((mReadAt + (1 : Int32)) + (1 : Int32)) mSh frm n (3 : Int32)).1)), (3, .int (m_X8_codeAt (mReadAt + (1 : Int32)) mSh frm n)), (0, .ref aMO), (1, .int frm), (2, .int n)] 133 (.int vK :: [.int mReadLin, .ref amRK]) := by
                    intro vK hvK
                    subst hvK
                    refine g_iast (ws' := [(aMO, .inr (8, [.int mFault, .ref amS, .int mDays, .ref amH, .int mLin, .ref amK, .ref amO, .ref amD, .int mCool, .int ((m_X8_figure ((m_X8_figure ((mReadAt + (1 : Int32)) + (1 : Int32)) mSh frm n (3 : Int32)).2) mSh frm n (9 : Int32)).2), .int mReadDays, .int mReadLin, .ref amRS, .ref amRH, .ref amRK, .ref amRO, .ref amRD, .ref amDN, .ref amSN, .int mDayNow, .int mLast, .int mTears, .int mWrong, .ref amTF, .ref amTFor, .ref amWB, .int mRdn, .ref amRdL, .ref amRdE, .ref amRdD, .ref amSz, .ref amLane, .ref amSh, .ref amHands, .int mTrace])), (amSh, .inl (cI, 240, .inl mSh)), (amRK, .inl (cI, 5, .inl (upd mRK mReadLin.toNatClampNeg (if (m_X8_codeAt (mReadAt + (1 : Int32)) mSh frm n) = (108 : Int32) then (1 : Int32) else (2 : Int32))))), (amRO, .inl (cI, 5, .inl mRO)), (amRD, .inl (cI, 5, .inl mRD))]) hC 2 0 rfl rfl (by exact rl_in hrl c_5) rfl dX8_readsLinen_133 rfl ?_
                    refine g_aload_n hC dX8_readsLinen_134 rfl 3 rfl rfl ?_
                    refine g_get hC iw_X8_readsLinen_RX8 0 rfl rfl 15 (by decide) (List.mem_of_getElem? (i := 4) rfl) rfl rfl dX8_readsLinen_135 rfl ?_
                    refine g_aload_n hC dX8_readsLinen_138 rfl 3 rfl rfl ?_
                    refine g_get hC iw_X8_readsLinen_RX8 0 rfl rfl 11 (by decide) (List.mem_of_getElem? (i := 1) rfl) rfl rfl dX8_readsLinen_139 rfl ?_
                    refine g_iload hC dX8_readsLinen_142 1 rfl rfl ?_
                    refine g_iast (ws' := [(aMO, .inr (8, [.int mFault, .ref amS, .int mDays, .ref amH, .int mLin, .ref amK, .ref amO, .ref amD, .int mCool, .int ((m_X8_figure ((m_X8_figure ((mReadAt + (1 : Int32)) + (1 : Int32)) mSh frm n (3 : Int32)).2) mSh frm n (9 : Int32)).2), .int mReadDays, .int mReadLin, .ref amRS, .ref amRH, .ref amRK, .ref amRO, .ref amRD, .ref amDN, .ref amSN, .int mDayNow, .int mLast, .int mTears, .int mWrong, .ref amTF, .ref amTFor, .ref amWB, .int mRdn, .ref amRdL, .ref amRdE, .ref amRdD, .ref amSz, .ref amLane, .ref amSh, .ref amHands, .int mTrace])), (amSh, .inl (cI, 240, .inl mSh)), (amRK, .inl (cI, 5, .inl (upd mRK mReadLin.toNatClampNeg (if (m_X8_codeAt (mReadAt + (1 : Int32)) mSh frm n) = (108 : Int32) then (1 : Int32) else (2 : Int32))))), (amRO, .inl (cI, 5, .inl (upd mRO mReadLin.toNatClampNeg ((m_X8_figure ((mReadAt + (1 : Int32)) + (1 : Int32)) mSh frm n (3 : Int32)).1)))), (amRD, .inl (cI, 5, .inl mRD))]) hC 3 0 rfl rfl (by exact rl_in hrl c_5) rfl dX8_readsLinen_144 rfl ?_
                    refine g_aload_n hC dX8_readsLinen_145 rfl 3 rfl rfl ?_
                    refine g_get hC iw_X8_readsLinen_RX8 0 rfl rfl 16 (by decide) (List.mem_of_getElem? (i := 5) rfl) rfl rfl dX8_readsLinen_146 rfl ?_
                    refine g_aload_n hC dX8_readsLinen_149 rfl 3 rfl rfl ?_
                    refine g_get hC iw_X8_readsLinen_RX8 0 rfl rfl 11 (by decide) (List.mem_of_getElem? (i := 1) rfl) rfl rfl dX8_readsLinen_150 rfl ?_
                    refine g_iload hC dX8_readsLinen_153 0 rfl rfl ?_
                    refine g_iast (ws' := [(aMO, .inr (8, [.int mFault, .ref amS, .int mDays, .ref amH, .int mLin, .ref amK, .ref amO, .ref amD, .int mCool, .int ((m_X8_figure ((m_X8_figure ((mReadAt + (1 : Int32)) + (1 : Int32)) mSh frm n (3 : Int32)).2) mSh frm n (9 : Int32)).2), .int mReadDays, .int mReadLin, .ref amRS, .ref amRH, .ref amRK, .ref amRO, .ref amRD, .ref amDN, .ref amSN, .int mDayNow, .int mLast, .int mTears, .int mWrong, .ref amTF, .ref amTFor, .ref amWB, .int mRdn, .ref amRdL, .ref amRdE, .ref amRdD, .ref amSz, .ref amLane, .ref amSh, .ref amHands, .int mTrace])), (amSh, .inl (cI, 240, .inl mSh)), (amRK, .inl (cI, 5, .inl (upd mRK mReadLin.toNatClampNeg (if (m_X8_codeAt (mReadAt + (1 : Int32)) mSh frm n) = (108 : Int32) then (1 : Int32) else (2 : Int32))))), (amRO, .inl (cI, 5, .inl (upd mRO mReadLin.toNatClampNeg ((m_X8_figure ((mReadAt + (1 : Int32)) + (1 : Int32)) mSh frm n (3 : Int32)).1)))), (amRD, .inl (cI, 5, .inl (upd mRD mReadLin.toNatClampNeg ((m_X8_figure ((m_X8_figure ((mReadAt + (1 : Int32)) + (1 : Int32)) mSh frm n (3 : Int32)).2) mSh frm n (9 : Int32)).1))))]) hC 4 0 rfl rfl (by exact rl_in hrl c_5) rfl dX8_readsLinen_155 rfl ?_
                    refine g_aload_n hC dX8_readsLinen_156 rfl 3 rfl rfl ?_
                    refine g_dup hC dX8_readsLinen_157 rfl rfl ?_
                    refine g_get hC iw_X8_readsLinen_RX8 0 rfl rfl 11 (by decide) (List.mem_of_getElem? (i := 1) rfl) rfl rfl dX8_readsLinen_158 rfl ?_
                    refine g_iconst (v := 1) hC dX8_readsLinen_161 (by decide) rfl ?_
                    refine g_iadd hC dX8_readsLinen_162 rfl ?_
                    refine g_put (ws' := [(aMO, .inr (8, [.int mFault, .ref amS, .int mDays, .ref amH, .int mLin, .ref amK, .ref amO, .ref amD, .int mCool, .int ((m_X8_figure ((m_X8_figure ((mReadAt + (1 : Int32)) + (1 : Int32)) mSh frm n (3 : Int32)).2) mSh frm n (9 : Int32)).2), .int mReadDays, .int (mReadLin + (1 : Int32)), .ref amRS, .ref amRH, .ref amRK, .ref amRO, .ref amRD, .ref amDN, .ref amSN, .int mDayNow, .int mLast, .int mTears, .int mWrong, .ref amTF, .ref amTFor, .ref amWB, .int mRdn, .ref amRdL, .ref amRdE, .ref amRdD, .ref amSz, .ref amLane, .ref amSh, .ref amHands, .int mTrace])), (amSh, .inl (cI, 240, .inl mSh)), (amRK, .inl (cI, 5, .inl (upd mRK mReadLin.toNatClampNeg (if (m_X8_codeAt (mReadAt + (1 : Int32)) mSh frm n) = (108 : Int32) then (1 : Int32) else (2 : Int32))))), (amRO, .inl (cI, 5, .inl (upd mRO mReadLin.toNatClampNeg ((m_X8_figure ((mReadAt + (1 : Int32)) + (1 : Int32)) mSh frm n (3 : Int32)).1)))), (amRD, .inl (cI, 5, .inl (upd mRD mReadLin.toNatClampNeg ((m_X8_figure ((m_X8_figure ((mReadAt + (1 : Int32)) + (1 : Int32)) mSh frm n (3 : Int32)).2) mSh frm n (9 : Int32)).1))))]) hC iw_X8_readsLinen_RX8 0 rfl rfl 11 (by decide) (List.mem_of_getElem? (i := 1) rfl) rfl tyX8 tyX8_ok nmX8 rfl rfl rfl (Nat.le_of_ble_eq_true rfl) rfl dX8_readsLinen_163 rfl ?_
                    refine g_iconst (v := 1) hC dX8_readsLinen_166 (by decide) rfl ?_
                    subst hres
                    exact g_zret hC hX rfl rfl dX8_readsLinen_167 rfl rfl
                  refine g_icmp_ne (tgt := 132) hC dX8_readsLinen_125 (by decide) rfl (fun c_125 => ?_) (fun c_125 => ?_)
                  · refine g_iconst (v := 2) hC dX8_readsLinen_132 (by decide) rfl ?_
                    exact K_125 _ (if_neg c_125).symm
                  · refine g_iconst (v := 1) hC dX8_readsLinen_128 (by decide) rfl ?_
                    refine g_goto (tgt := 133) hC dX8_readsLinen_129 (by decide) ?_
                    exact K_125 _ (if_pos c_125).symm
                · rw [if_pos c_115] at hres
                  refine g_iconst (v := 0) hC dX8_readsLinen_118 (by decide) rfl ?_
                  refine g_goto (tgt := 133) hC dX8_readsLinen_119 (by decide) ?_
                  refine g_iast (ws' := [(aMO, .inr (8, [.int mFault, .ref amS, .int mDays, .ref amH, .int mLin, .ref amK, .ref amO, .ref amD, .int mCool, .int ((m_X8_figure ((m_X8_figure ((mReadAt + (1 : Int32)) + (1 : Int32)) mSh frm n (3 : Int32)).2) mSh frm n (9 : Int32)).2), .int mReadDays, .int mReadLin, .ref amRS, .ref amRH, .ref amRK, .ref amRO, .ref amRD, .ref amDN, .ref amSN, .int mDayNow, .int mLast, .int mTears, .int mWrong, .ref amTF, .ref amTFor, .ref amWB, .int mRdn, .ref amRdL, .ref amRdE, .ref amRdD, .ref amSz, .ref amLane, .ref amSh, .ref amHands, .int mTrace])), (amSh, .inl (cI, 240, .inl mSh)), (amRK, .inl (cI, 5, .inl (upd mRK mReadLin.toNatClampNeg (0 : Int32)))), (amRO, .inl (cI, 5, .inl mRO)), (amRD, .inl (cI, 5, .inl mRD))]) hC 2 0 rfl rfl (by exact rl_in hrl c_5) rfl dX8_readsLinen_133 rfl ?_
                  refine g_aload_n hC dX8_readsLinen_134 rfl 3 rfl rfl ?_
                  refine g_get hC iw_X8_readsLinen_RX8 0 rfl rfl 15 (by decide) (List.mem_of_getElem? (i := 4) rfl) rfl rfl dX8_readsLinen_135 rfl ?_
                  refine g_aload_n hC dX8_readsLinen_138 rfl 3 rfl rfl ?_
                  refine g_get hC iw_X8_readsLinen_RX8 0 rfl rfl 11 (by decide) (List.mem_of_getElem? (i := 1) rfl) rfl rfl dX8_readsLinen_139 rfl ?_
                  refine g_iload hC dX8_readsLinen_142 1 rfl rfl ?_
                  refine g_iast (ws' := [(aMO, .inr (8, [.int mFault, .ref amS, .int mDays, .ref amH, .int mLin, .ref amK, .ref amO, .ref amD, .int mCool, .int ((m_X8_figure ((m_X8_figure ((mReadAt + (1 : Int32)) + (1 : Int32)) mSh frm n (3 : Int32)).2) mSh frm n (9 : Int32)).2), .int mReadDays, .int mReadLin, .ref amRS, .ref amRH, .ref amRK, .ref amRO, .ref amRD, .ref amDN, .ref amSN, .int mDayNow, .int mLast, .int mTears, .int mWrong, .ref amTF, .ref amTFor, .ref amWB, .int mRdn, .ref amRdL, .ref amRdE, .ref amRdD, .ref amSz, .ref amLane, .ref amSh, .ref amHands, .int mTrace])), (amSh, .inl (cI, 240, .inl mSh)), (amRK, .inl (cI, 5, .inl (upd mRK mReadLin.toNatClampNeg (0 : Int32)))), (amRO, .inl (cI, 5, .inl (upd mRO mReadLin.toNatClampNeg ((m_X8_figure ((mReadAt + (1 : Int32)) + (1 : Int32)) mSh frm n (3 : Int32)).1)))), (amRD, .inl (cI, 5, .inl mRD))]) hC 3 0 rfl rfl (by exact rl_in hrl c_5) rfl dX8_readsLinen_144 rfl ?_
                  refine g_aload_n hC dX8_readsLinen_145 rfl 3 rfl rfl ?_
                  refine g_get hC iw_X8_readsLinen_RX8 0 rfl rfl 16 (by decide) (List.mem_of_getElem? (i := 5) rfl) rfl rfl dX8_readsLinen_146 rfl ?_
                  refine g_aload_n hC dX8_readsLinen_149 rfl 3 rfl rfl ?_
                  refine g_get hC iw_X8_readsLinen_RX8 0 rfl rfl 11 (by decide) (List.mem_of_getElem? (i := 1) rfl) rfl rfl dX8_readsLinen_150 rfl ?_
                  refine g_iload hC dX8_readsLinen_153 0 rfl rfl ?_
                  refine g_iast (ws' := [(aMO, .inr (8, [.int mFault, .ref amS, .int mDays, .ref amH, .int mLin, .ref amK, .ref amO, .ref amD, .int mCool, .int ((m_X8_figure ((m_X8_figure ((mReadAt + (1 : Int32)) + (1 : Int32)) mSh frm n (3 : Int32)).2) mSh frm n (9 : Int32)).2), .int mReadDays, .int mReadLin, .ref amRS, .ref amRH, .ref amRK, .ref amRO, .ref amRD, .ref amDN, .ref amSN, .int mDayNow, .int mLast, .int mTears, .int mWrong, .ref amTF, .ref amTFor, .ref amWB, .int mRdn, .ref amRdL, .ref amRdE, .ref amRdD, .ref amSz, .ref amLane, .ref amSh, .ref amHands, .int mTrace])), (amSh, .inl (cI, 240, .inl mSh)), (amRK, .inl (cI, 5, .inl (upd mRK mReadLin.toNatClampNeg (0 : Int32)))), (amRO, .inl (cI, 5, .inl (upd mRO mReadLin.toNatClampNeg ((m_X8_figure ((mReadAt + (1 : Int32)) + (1 : Int32)) mSh frm n (3 : Int32)).1)))), (amRD, .inl (cI, 5, .inl (upd mRD mReadLin.toNatClampNeg ((m_X8_figure ((m_X8_figure ((mReadAt + (1 : Int32)) + (1 : Int32)) mSh frm n (3 : Int32)).2) mSh frm n (9 : Int32)).1))))]) hC 4 0 rfl rfl (by exact rl_in hrl c_5) rfl dX8_readsLinen_155 rfl ?_
                  refine g_aload_n hC dX8_readsLinen_156 rfl 3 rfl rfl ?_
                  refine g_dup hC dX8_readsLinen_157 rfl rfl ?_
                  refine g_get hC iw_X8_readsLinen_RX8 0 rfl rfl 11 (by decide) (List.mem_of_getElem? (i := 1) rfl) rfl rfl dX8_readsLinen_158 rfl ?_
                  refine g_iconst (v := 1) hC dX8_readsLinen_161 (by decide) rfl ?_
                  refine g_iadd hC dX8_readsLinen_162 rfl ?_
                  refine g_put (ws' := [(aMO, .inr (8, [.int mFault, .ref amS, .int mDays, .ref amH, .int mLin, .ref amK, .ref amO, .ref amD, .int mCool, .int ((m_X8_figure ((m_X8_figure ((mReadAt + (1 : Int32)) + (1 : Int32)) mSh frm n (3 : Int32)).2) mSh frm n (9 : Int32)).2), .int mReadDays, .int (mReadLin + (1 : Int32)), .ref amRS, .ref amRH, .ref amRK, .ref amRO, .ref amRD, .ref amDN, .ref amSN, .int mDayNow, .int mLast, .int mTears, .int mWrong, .ref amTF, .ref amTFor, .ref amWB, .int mRdn, .ref amRdL, .ref amRdE, .ref amRdD, .ref amSz, .ref amLane, .ref amSh, .ref amHands, .int mTrace])), (amSh, .inl (cI, 240, .inl mSh)), (amRK, .inl (cI, 5, .inl (upd mRK mReadLin.toNatClampNeg (0 : Int32)))), (amRO, .inl (cI, 5, .inl (upd mRO mReadLin.toNatClampNeg ((m_X8_figure ((mReadAt + (1 : Int32)) + (1 : Int32)) mSh frm n (3 : Int32)).1)))), (amRD, .inl (cI, 5, .inl (upd mRD mReadLin.toNatClampNeg ((m_X8_figure ((m_X8_figure ((mReadAt + (1 : Int32)) + (1 : Int32)) mSh frm n (3 : Int32)).2) mSh frm n (9 : Int32)).1))))]) hC iw_X8_readsLinen_RX8 0 rfl rfl 11 (by decide) (List.mem_of_getElem? (i := 1) rfl) rfl tyX8 tyX8_ok nmX8 rfl rfl rfl (Nat.le_of_ble_eq_true rfl) rfl dX8_readsLinen_163 rfl ?_
                  refine g_iconst (v := 1) hC dX8_readsLinen_166 (by decide) rfl ?_
                  subst hres
                  exact g_zret hC hX rfl rfl dX8_readsLinen_167 rfl rfl
              · rw [if_neg c_99] at hres
                refine g_iconst (v := 0) hC dX8_readsLinen_102 (by decide) rfl ?_
                subst hres
                exact g_zret hC hX rfl rfl dX8_readsLinen_103 rfl rfl
            · rw [if_neg c_79] at hres
              refine g_bipush (v := -9) hC dX8_readsLinen_82 (by decide) rfl ?_
              refine g_goto (tgt := 95) hC dX8_readsLinen_84 (by decide) ?_
              refine g_istore (lv' := [(5, .int (-9 : Int32)), (4, .int ((m_X8_figure ((mReadAt + (1 : Int32)) + (1 : Int32)) mSh frm n (3 : Int32)).1)), (3, .int (m_X8_codeAt (mReadAt + (1 : Int32)) mSh frm n)), (0, .ref aMO), (1, .int frm), (2, .int n)]) hC dX8_readsLinen_95 (by decide) rfl rfl ?_
              refine g_iload hC dX8_readsLinen_97 0 rfl rfl ?_
              refine g_if_ge (tgt := 104) hC dX8_readsLinen_99 (by decide) rfl (fun c_99 => ?_) (fun c_99 => ?_)
              · rw [if_pos c_99] at hres
                refine g_aload_n hC dX8_readsLinen_104 rfl 3 rfl rfl ?_
                refine g_get hC iw_X8_readsLinen_RX8 0 rfl rfl 14 (by decide) (List.mem_of_getElem? (i := 3) rfl) rfl rfl dX8_readsLinen_105 rfl ?_
                refine g_aload_n hC dX8_readsLinen_108 rfl 3 rfl rfl ?_
                refine g_get hC iw_X8_readsLinen_RX8 0 rfl rfl 11 (by decide) (List.mem_of_getElem? (i := 1) rfl) rfl rfl dX8_readsLinen_109 rfl ?_
                refine g_iload_n hC dX8_readsLinen_112 rfl 2 rfl rfl ?_
                refine g_bipush (v := 99) hC dX8_readsLinen_113 (by decide) rfl ?_
                refine g_icmp_ne (tgt := 122) hC dX8_readsLinen_115 (by decide) rfl (fun c_115 => ?_) (fun c_115 => ?_)
                · rw [if_neg c_115] at hres
                  refine g_iload_n hC dX8_readsLinen_122 rfl 2 rfl rfl ?_
                  refine g_bipush (v := 108) hC dX8_readsLinen_123 (by decide) rfl ?_
                  have K_125 : ∀ vK : Int32, vK = (if (m_X8_codeAt (mReadAt + (1 : Int32)) mSh frm n) = (108 : Int32) then (1 : Int32) else (2 : Int32)) → G X D 6 [(aMO, .inr (8, [.int mFault, .ref amS, .int mDays, .ref amH, .int mLin, .ref amK, .ref amO, .ref amD, .int mCool, .int ((m_X8_figure ((mReadAt + (1 : Int32)) + (1 : Int32)) mSh frm n (3 : Int32)).2), .int mReadDays, .int mReadLin, .ref amRS, .ref amRH, .ref amRK, .ref amRO, .ref amRD, .ref amDN, .ref amSN, .int mDayNow, .int mLast, .int mTears, .int mWrong, .ref amTF, .ref amTFor, .ref amWB, .int mRdn, .ref amRdL, .ref amRdE, .ref amRdD, .ref amSz, .ref amLane, .ref amSh, .ref amHands, .int mTrace])), (amSh, .inl (cI, 240, .inl mSh)), (amRK, .inl (cI, 5, .inl mRK)), (amRO, .inl (cI, 5, .inl mRO)), (amRD, .inl (cI, 5, .inl mRD))] [(5, .int (-9 : Int32)), (4, .int ((m_X8_figure ((mReadAt + (1 : Int32)) + (1 : Int32)) mSh frm n (3 : Int32)).1)), (3, .int (m_X8_codeAt (mReadAt + (1 : Int32)) mSh frm n)), (0, .ref aMO), (1, .int frm), (2, .int n)] 133 (.int vK :: [.int mReadLin, .ref amRK]) := by
                    intro vK hvK
                    subst hvK
                    refine g_iast (ws' := [(aMO, .inr (8, [.int mFault, .ref amS, .int mDays, .ref amH, .int mLin, .ref amK, .ref amO, .ref amD, .int mCool, .int ((m_X8_figure ((mReadAt + (1 : Int32)) + (1 : Int32)) mSh frm n (3 : Int32)).2), .int mReadDays, .int mReadLin, .ref amRS, .ref amRH, .ref amRK, .ref amRO, .ref amRD, .ref amDN, .ref amSN, .int mDayNow, .int mLast, .int mTears, .int mWrong, .ref amTF, .ref amTFor, .ref amWB, .int mRdn, .ref amRdL, .ref amRdE, .ref amRdD, .ref amSz, .ref amLane, .ref amSh, .ref amHands, .int mTrace])), (amSh, .inl (cI, 240, .inl mSh)), (amRK, .inl (cI, 5, .inl (upd mRK mReadLin.toNatClampNeg (if (m_X8_codeAt (mReadAt + (1 : Int32)) mSh frm n) = (108 : Int32) then (1 : Int32) else (2 : Int32))))), (amRO, .inl (cI, 5, .inl mRO)), (amRD, .inl (cI, 5, .inl mRD))]) hC 2 0 rfl rfl (by exact rl_in hrl c_5) rfl dX8_readsLinen_133 rfl ?_
                    refine g_aload_n hC dX8_readsLinen_134 rfl 3 rfl rfl ?_
                    refine g_get hC iw_X8_readsLinen_RX8 0 rfl rfl 15 (by decide) (List.mem_of_getElem? (i := 4) rfl) rfl rfl dX8_readsLinen_135 rfl ?_
                    refine g_aload_n hC dX8_readsLinen_138 rfl 3 rfl rfl ?_
                    refine g_get hC iw_X8_readsLinen_RX8 0 rfl rfl 11 (by decide) (List.mem_of_getElem? (i := 1) rfl) rfl rfl dX8_readsLinen_139 rfl ?_
                    refine g_iload hC dX8_readsLinen_142 1 rfl rfl ?_
                    refine g_iast (ws' := [(aMO, .inr (8, [.int mFault, .ref amS, .int mDays, .ref amH, .int mLin, .ref amK, .ref amO, .ref amD, .int mCool, .int ((m_X8_figure ((mReadAt + (1 : Int32)) + (1 : Int32)) mSh frm n (3 : Int32)).2), .int mReadDays, .int mReadLin, .ref amRS, .ref amRH, .ref amRK, .ref amRO, .ref amRD, .ref amDN, .ref amSN, .int mDayNow, .int mLast, .int mTears, .int mWrong, .ref amTF, .ref amTFor, .ref amWB, .int mRdn, .ref amRdL, .ref amRdE, .ref amRdD, .ref amSz, .ref amLane, .ref amSh, .ref amHands, .int mTrace])), (amSh, .inl (cI, 240, .inl mSh)), (amRK, .inl (cI, 5, .inl (upd mRK mReadLin.toNatClampNeg (if (m_X8_codeAt (mReadAt + (1 : Int32)) mSh frm n) = (108 : Int32) then (1 : Int32) else (2 : Int32))))), (amRO, .inl (cI, 5, .inl (upd mRO mReadLin.toNatClampNeg ((m_X8_figure ((mReadAt + (1 : Int32)) + (1 : Int32)) mSh frm n (3 : Int32)).1)))), (amRD, .inl (cI, 5, .inl mRD))]) hC 3 0 rfl rfl (by exact rl_in hrl c_5) rfl dX8_readsLinen_144 rfl ?_
                    refine g_aload_n hC dX8_readsLinen_145 rfl 3 rfl rfl ?_
                    refine g_get hC iw_X8_readsLinen_RX8 0 rfl rfl 16 (by decide) (List.mem_of_getElem? (i := 5) rfl) rfl rfl dX8_readsLinen_146 rfl ?_
                    refine g_aload_n hC dX8_readsLinen_149 rfl 3 rfl rfl ?_
                    refine g_get hC iw_X8_readsLinen_RX8 0 rfl rfl 11 (by decide) (List.mem_of_getElem? (i := 1) rfl) rfl rfl dX8_readsLinen_150 rfl ?_
                    refine g_iload hC dX8_readsLinen_153 0 rfl rfl ?_
                    refine g_iast (ws' := [(aMO, .inr (8, [.int mFault, .ref amS, .int mDays, .ref amH, .int mLin, .ref amK, .ref amO, .ref amD, .int mCool, .int ((m_X8_figure ((mReadAt + (1 : Int32)) + (1 : Int32)) mSh frm n (3 : Int32)).2), .int mReadDays, .int mReadLin, .ref amRS, .ref amRH, .ref amRK, .ref amRO, .ref amRD, .ref amDN, .ref amSN, .int mDayNow, .int mLast, .int mTears, .int mWrong, .ref amTF, .ref amTFor, .ref amWB, .int mRdn, .ref amRdL, .ref amRdE, .ref amRdD, .ref amSz, .ref amLane, .ref amSh, .ref amHands, .int mTrace])), (amSh, .inl (cI, 240, .inl mSh)), (amRK, .inl (cI, 5, .inl (upd mRK mReadLin.toNatClampNeg (if (m_X8_codeAt (mReadAt + (1 : Int32)) mSh frm n) = (108 : Int32) then (1 : Int32) else (2 : Int32))))), (amRO, .inl (cI, 5, .inl (upd mRO mReadLin.toNatClampNeg ((m_X8_figure ((mReadAt + (1 : Int32)) + (1 : Int32)) mSh frm n (3 : Int32)).1)))), (amRD, .inl (cI, 5, .inl (upd mRD mReadLin.toNatClampNeg (-9 : Int32))))]) hC 4 0 rfl rfl (by exact rl_in hrl c_5) rfl dX8_readsLinen_155 rfl ?_
                    refine g_aload_n hC dX8_readsLinen_156 rfl 3 rfl rfl ?_
                    refine g_dup hC dX8_readsLinen_157 rfl rfl ?_
                    refine g_get hC iw_X8_readsLinen_RX8 0 rfl rfl 11 (by decide) (List.mem_of_getElem? (i := 1) rfl) rfl rfl dX8_readsLinen_158 rfl ?_
                    refine g_iconst (v := 1) hC dX8_readsLinen_161 (by decide) rfl ?_
                    refine g_iadd hC dX8_readsLinen_162 rfl ?_
                    refine g_put (ws' := [(aMO, .inr (8, [.int mFault, .ref amS, .int mDays, .ref amH, .int mLin, .ref amK, .ref amO, .ref amD, .int mCool, .int ((m_X8_figure ((mReadAt + (1 : Int32)) + (1 : Int32)) mSh frm n (3 : Int32)).2), .int mReadDays, .int (mReadLin + (1 : Int32)), .ref amRS, .ref amRH, .ref amRK, .ref amRO, .ref amRD, .ref amDN, .ref amSN, .int mDayNow, .int mLast, .int mTears, .int mWrong, .ref amTF, .ref amTFor, .ref amWB, .int mRdn, .ref amRdL, .ref amRdE, .ref amRdD, .ref amSz, .ref amLane, .ref amSh, .ref amHands, .int mTrace])), (amSh, .inl (cI, 240, .inl mSh)), (amRK, .inl (cI, 5, .inl (upd mRK mReadLin.toNatClampNeg (if (m_X8_codeAt (mReadAt + (1 : Int32)) mSh frm n) = (108 : Int32) then (1 : Int32) else (2 : Int32))))), (amRO, .inl (cI, 5, .inl (upd mRO mReadLin.toNatClampNeg ((m_X8_figure ((mReadAt + (1 : Int32)) + (1 : Int32)) mSh frm n (3 : Int32)).1)))), (amRD, .inl (cI, 5, .inl (upd mRD mReadLin.toNatClampNeg (-9 : Int32))))]) hC iw_X8_readsLinen_RX8 0 rfl rfl 11 (by decide) (List.mem_of_getElem? (i := 1) rfl) rfl tyX8 tyX8_ok nmX8 rfl rfl rfl (Nat.le_of_ble_eq_true rfl) rfl dX8_readsLinen_163 rfl ?_
                    refine g_iconst (v := 1) hC dX8_readsLinen_166 (by decide) rfl ?_
                    subst hres
                    exact g_zret hC hX rfl rfl dX8_readsLinen_167 rfl rfl
                  refine g_icmp_ne (tgt := 132) hC dX8_readsLinen_125 (by decide) rfl (fun c_125 => ?_) (fun c_125 => ?_)
                  · refine g_iconst (v := 2) hC dX8_readsLinen_132 (by decide) rfl ?_
                    exact K_125 _ (if_neg c_125).symm
                  · refine g_iconst (v := 1) hC dX8_readsLinen_128 (by decide) rfl ?_
                    refine g_goto (tgt := 133) hC dX8_readsLinen_129 (by decide) ?_
                    exact K_125 _ (if_pos c_125).symm
                · rw [if_pos c_115] at hres
                  refine g_iconst (v := 0) hC dX8_readsLinen_118 (by decide) rfl ?_
                  refine g_goto (tgt := 133) hC dX8_readsLinen_119 (by decide) ?_
                  refine g_iast (ws' := [(aMO, .inr (8, [.int mFault, .ref amS, .int mDays, .ref amH, .int mLin, .ref amK, .ref amO, .ref amD, .int mCool, .int ((m_X8_figure ((mReadAt + (1 : Int32)) + (1 : Int32)) mSh frm n (3 : Int32)).2), .int mReadDays, .int mReadLin, .ref amRS, .ref amRH, .ref amRK, .ref amRO, .ref amRD, .ref amDN, .ref amSN, .int mDayNow, .int mLast, .int mTears, .int mWrong, .ref amTF, .ref amTFor, .ref amWB, .int mRdn, .ref amRdL, .ref amRdE, .ref amRdD, .ref amSz, .ref amLane, .ref amSh, .ref amHands, .int mTrace])), (amSh, .inl (cI, 240, .inl mSh)), (amRK, .inl (cI, 5, .inl (upd mRK mReadLin.toNatClampNeg (0 : Int32)))), (amRO, .inl (cI, 5, .inl mRO)), (amRD, .inl (cI, 5, .inl mRD))]) hC 2 0 rfl rfl (by exact rl_in hrl c_5) rfl dX8_readsLinen_133 rfl ?_
                  refine g_aload_n hC dX8_readsLinen_134 rfl 3 rfl rfl ?_
                  refine g_get hC iw_X8_readsLinen_RX8 0 rfl rfl 15 (by decide) (List.mem_of_getElem? (i := 4) rfl) rfl rfl dX8_readsLinen_135 rfl ?_
                  refine g_aload_n hC dX8_readsLinen_138 rfl 3 rfl rfl ?_
                  refine g_get hC iw_X8_readsLinen_RX8 0 rfl rfl 11 (by decide) (List.mem_of_getElem? (i := 1) rfl) rfl rfl dX8_readsLinen_139 rfl ?_
                  refine g_iload hC dX8_readsLinen_142 1 rfl rfl ?_
                  refine g_iast (ws' := [(aMO, .inr (8, [.int mFault, .ref amS, .int mDays, .ref amH, .int mLin, .ref amK, .ref amO, .ref amD, .int mCool, .int ((m_X8_figure ((mReadAt + (1 : Int32)) + (1 : Int32)) mSh frm n (3 : Int32)).2), .int mReadDays, .int mReadLin, .ref amRS, .ref amRH, .ref amRK, .ref amRO, .ref amRD, .ref amDN, .ref amSN, .int mDayNow, .int mLast, .int mTears, .int mWrong, .ref amTF, .ref amTFor, .ref amWB, .int mRdn, .ref amRdL, .ref amRdE, .ref amRdD, .ref amSz, .ref amLane, .ref amSh, .ref amHands, .int mTrace])), (amSh, .inl (cI, 240, .inl mSh)), (amRK, .inl (cI, 5, .inl (upd mRK mReadLin.toNatClampNeg (0 : Int32)))), (amRO, .inl (cI, 5, .inl (upd mRO mReadLin.toNatClampNeg ((m_X8_figure ((mReadAt + (1 : Int32)) + (1 : Int32)) mSh frm n (3 : Int32)).1)))), (amRD, .inl (cI, 5, .inl mRD))]) hC 3 0 rfl rfl (by exact rl_in hrl c_5) rfl dX8_readsLinen_144 rfl ?_
                  refine g_aload_n hC dX8_readsLinen_145 rfl 3 rfl rfl ?_
                  refine g_get hC iw_X8_readsLinen_RX8 0 rfl rfl 16 (by decide) (List.mem_of_getElem? (i := 5) rfl) rfl rfl dX8_readsLinen_146 rfl ?_
                  refine g_aload_n hC dX8_readsLinen_149 rfl 3 rfl rfl ?_
                  refine g_get hC iw_X8_readsLinen_RX8 0 rfl rfl 11 (by decide) (List.mem_of_getElem? (i := 1) rfl) rfl rfl dX8_readsLinen_150 rfl ?_
                  refine g_iload hC dX8_readsLinen_153 0 rfl rfl ?_
                  refine g_iast (ws' := [(aMO, .inr (8, [.int mFault, .ref amS, .int mDays, .ref amH, .int mLin, .ref amK, .ref amO, .ref amD, .int mCool, .int ((m_X8_figure ((mReadAt + (1 : Int32)) + (1 : Int32)) mSh frm n (3 : Int32)).2), .int mReadDays, .int mReadLin, .ref amRS, .ref amRH, .ref amRK, .ref amRO, .ref amRD, .ref amDN, .ref amSN, .int mDayNow, .int mLast, .int mTears, .int mWrong, .ref amTF, .ref amTFor, .ref amWB, .int mRdn, .ref amRdL, .ref amRdE, .ref amRdD, .ref amSz, .ref amLane, .ref amSh, .ref amHands, .int mTrace])), (amSh, .inl (cI, 240, .inl mSh)), (amRK, .inl (cI, 5, .inl (upd mRK mReadLin.toNatClampNeg (0 : Int32)))), (amRO, .inl (cI, 5, .inl (upd mRO mReadLin.toNatClampNeg ((m_X8_figure ((mReadAt + (1 : Int32)) + (1 : Int32)) mSh frm n (3 : Int32)).1)))), (amRD, .inl (cI, 5, .inl (upd mRD mReadLin.toNatClampNeg (-9 : Int32))))]) hC 4 0 rfl rfl (by exact rl_in hrl c_5) rfl dX8_readsLinen_155 rfl ?_
                  refine g_aload_n hC dX8_readsLinen_156 rfl 3 rfl rfl ?_
                  refine g_dup hC dX8_readsLinen_157 rfl rfl ?_
                  refine g_get hC iw_X8_readsLinen_RX8 0 rfl rfl 11 (by decide) (List.mem_of_getElem? (i := 1) rfl) rfl rfl dX8_readsLinen_158 rfl ?_
                  refine g_iconst (v := 1) hC dX8_readsLinen_161 (by decide) rfl ?_
                  refine g_iadd hC dX8_readsLinen_162 rfl ?_
                  refine g_put (ws' := [(aMO, .inr (8, [.int mFault, .ref amS, .int mDays, .ref amH, .int mLin, .ref amK, .ref amO, .ref amD, .int mCool, .int ((m_X8_figure ((mReadAt + (1 : Int32)) + (1 : Int32)) mSh frm n (3 : Int32)).2), .int mReadDays, .int (mReadLin + (1 : Int32)), .ref amRS, .ref amRH, .ref amRK, .ref amRO, .ref amRD, .ref amDN, .ref amSN, .int mDayNow, .int mLast, .int mTears, .int mWrong, .ref amTF, .ref amTFor, .ref amWB, .int mRdn, .ref amRdL, .ref amRdE, .ref amRdD, .ref amSz, .ref amLane, .ref amSh, .ref amHands, .int mTrace])), (amSh, .inl (cI, 240, .inl mSh)), (amRK, .inl (cI, 5, .inl (upd mRK mReadLin.toNatClampNeg (0 : Int32)))), (amRO, .inl (cI, 5, .inl (upd mRO mReadLin.toNatClampNeg ((m_X8_figure ((mReadAt + (1 : Int32)) + (1 : Int32)) mSh frm n (3 : Int32)).1)))), (amRD, .inl (cI, 5, .inl (upd mRD mReadLin.toNatClampNeg (-9 : Int32))))]) hC iw_X8_readsLinen_RX8 0 rfl rfl 11 (by decide) (List.mem_of_getElem? (i := 1) rfl) rfl tyX8 tyX8_ok nmX8 rfl rfl rfl (Nat.le_of_ble_eq_true rfl) rfl dX8_readsLinen_163 rfl ?_
                  refine g_iconst (v := 1) hC dX8_readsLinen_166 (by decide) rfl ?_
                  subst hres
                  exact g_zret hC hX rfl rfl dX8_readsLinen_167 rfl rfl
              · rw [if_neg c_99] at hres
                refine g_iconst (v := 0) hC dX8_readsLinen_102 (by decide) rfl ?_
                subst hres
                exact g_zret hC hX rfl rfl dX8_readsLinen_103 rfl rfl
          · rw [if_neg c_53] at hres
            refine g_iconst (v := 0) hC dX8_readsLinen_56 (by decide) rfl ?_
            subst hres
            exact g_zret hC hX rfl rfl dX8_readsLinen_57 rfl rfl
    · rw [if_neg c_16] at hres
      refine g_iconst (v := 0) hC dX8_readsLinen_19 (by decide) rfl ?_
      subst hres
      exact g_zret hC hX rfl rfl dX8_readsLinen_20 rfl rfl
