theorem iw_X8_fewestOn_RX8 : ∀ w ∈ wsX80, w ∈ wsX8_fewestOn := fun _ h => List.mem_cons_of_mem _ (List.mem_append_right _ (h))
def m_X8_fewestOn (mCool : Int32) (mTF : Nat → Int32) (mH : Nat → Int32) (mK : Nat → Int32) (l : Int32) (d : Int32) (dmp : Int32) : (Int32) := (if (9 : Int32) ≤ dmp then (if (99 : Int32) ≤ (if (m_X8_dried mCool mH mK dmp l d) ≤ 0 then (99 : Int32) else (mTF (((10 : Int32) * (d + (1 : Int32))) + (m_X8_dried mCool mH mK dmp l d)).toNatClampNeg)) then (99 : Int32) else (if (m_X8_dried mCool mH mK dmp l d) ≤ 0 then (99 : Int32) else (mTF (((10 : Int32) * (d + (1 : Int32))) + (m_X8_dried mCool mH mK dmp l d)).toNatClampNeg))) else (if ((1 : Int32) + (mTF (((10 : Int32) * d) + (m_X8_wept dmp)).toNatClampNeg)) ≤ (if (m_X8_dried mCool mH mK dmp l d) ≤ 0 then (99 : Int32) else (mTF (((10 : Int32) * (d + (1 : Int32))) + (m_X8_dried mCool mH mK dmp l d)).toNatClampNeg)) then ((1 : Int32) + (mTF (((10 : Int32) * d) + (m_X8_wept dmp)).toNatClampNeg)) else (if (m_X8_dried mCool mH mK dmp l d) ≤ 0 then (99 : Int32) else (mTF (((10 : Int32) * (d + (1 : Int32))) + (m_X8_dried mCool mH mK dmp l d)).toNatClampNeg))))
set_option maxRecDepth 100000 in
set_option maxHeartbeats 4000000 in
theorem c_X8_fewestOn (D : va_G) (cI : ClassId) (aMO : Nat) (mFault : Int32) (amS : Nat) (mDays : Int32) (amH : Nat) (mLin : Int32) (amK : Nat) (amO : Nat) (amD : Nat) (mCool : Int32) (mReadAt : Int32) (mReadDays : Int32) (mReadLin : Int32) (amRS : Nat) (amRH : Nat) (amRK : Nat) (amRO : Nat) (amRD : Nat) (amDN : Nat) (amSN : Nat) (mDayNow : Int32) (mLast : Int32) (mTears : Int32) (mWrong : Int32) (amTF : Nat) (amTFor : Nat) (amWB : Nat) (mRdn : Int32) (amRdL : Nat) (amRdE : Nat) (amRdD : Nat) (amSz : Nat) (amLane : Nat) (amSh : Nat) (amHands : Nat) (mTrace : Int32) (mTF : Nat → Int32) (mH : Nat → Int32) (mK : Nat → Int32) (l : Int32) (d : Int32) (dmp : Int32) (hl : vp_in l 5) (hd : vp_in d 6) (hdm : 0 ≤ dmp.toInt ∧ dmp.toInt ≤ 9) (hH9 : ∀ j : Nat, 0 ≤ (mH j).toInt ∧ (mH j).toInt ≤ 9) : MC yX8_fewestOn wsX8_fewestOn ({ frames := 3, cells := 0, slots := 0, locals := 68 } : Room) D [(cI, .int)] [.ref aMO, .int l, .int d, .int dmp] [(aMO, .inr (8, [.int mFault, .ref amS, .int mDays, .ref amH, .int mLin, .ref amK, .ref amO, .ref amD, .int mCool, .int mReadAt, .int mReadDays, .int mReadLin, .ref amRS, .ref amRH, .ref amRK, .ref amRO, .ref amRD, .ref amDN, .ref amSN, .int mDayNow, .int mLast, .int mTears, .int mWrong, .ref amTF, .ref amTFor, .ref amWB, .int mRdn, .ref amRdL, .ref amRdE, .ref amRdD, .ref amSz, .ref amLane, .ref amSh, .ref amHands, .int mTrace])), (amTF, .inl (cI, 70, .inl mTF)), (amH, .inl (cI, 6, .inl mH)), (amK, .inl (cI, 5, .inl mK))] (some (.int (m_X8_fewestOn mCool mTF mH mK l d dmp))) [(aMO, .inr (8, [.int mFault, .ref amS, .int mDays, .ref amH, .int mLin, .ref amK, .ref amO, .ref amD, .int mCool, .int mReadAt, .int mReadDays, .int mReadLin, .ref amRS, .ref amRH, .ref amRK, .ref amRO, .ref amRD, .ref amDN, .ref amSN, .int mDayNow, .int mLast, .int mTears, .int mWrong, .ref amTF, .ref amTFor, .ref amWB, .int mRdn, .ref amRdL, .ref amRdE, .ref amRdD, .ref amSz, .ref amLane, .ref amSh, .ref amHands, .int mTrace])), (amTF, .inl (cI, 70, .inl mTF)), (amH, .inl (cI, 6, .inl mH)), (amK, .inl (cI, 5, .inl mK))] := by
  refine g_entry (by decide) rfl rfl rfl rfl (Nat.le_of_ble_eq_true rfl) (lv := [(0, .ref aMO), (1, .int l), (2, .int d), (3, .int dmp)]) rfl ?_
  intro X hC hX
  obtain ⟨res, hres⟩ : ∃ z, z = (m_X8_fewestOn mCool mTF mH mK l d dmp) := ⟨_, rfl⟩
  rw [← hres] at hX
  rw [m_X8_fewestOn] at hres
  refine g_aload_n hC dX8_fewestOn_0 rfl 0 rfl rfl ?_
  refine g_iload_n hC dX8_fewestOn_1 rfl 3 rfl rfl ?_
  refine g_iload_n hC dX8_fewestOn_2 rfl 1 rfl rfl ?_
  refine g_iload_n hC dX8_fewestOn_3 rfl 2 rfl rfl ?_
  refine g_callV (ws' := [(aMO, .inr (8, [.int mFault, .ref amS, .int mDays, .ref amH, .int mLin, .ref amK, .ref amO, .ref amD, .int mCool, .int mReadAt, .int mReadDays, .int mReadLin, .ref amRS, .ref amRH, .ref amRK, .ref amRO, .ref amRD, .ref amDN, .ref amSN, .int mDayNow, .int mLast, .int mTears, .int mWrong, .ref amTF, .ref amTFor, .ref amWB, .int mRdn, .ref amRdL, .ref amRdE, .ref amRdD, .ref amSz, .ref amLane, .ref amSh, .ref amHands, .int mTrace])), (amTF, .inl (cI, 70, .inl mTF)), (amH, .inl (cI, 6, .inl mH)), (amK, .inl (cI, 5, .inl mK))]) (st' := [.int (m_X8_dried mCool mH mK dmp l d)]) (nw := 4) (n1 := 3) hC gX8_fewestOn_X8_dried hdV_yX8_dried 0 rfl rfl (As := [.int dmp, .int l, .int d]) (rest := []) (c_X8_dried D cI aMO mFault amS mDays amH mLin amK amO amD mCool mReadAt mReadDays mReadLin amRS amRH amRK amRO amRD amDN amSN mDayNow mLast mTears mWrong amTF amTFor amWB mRdn amRdL amRdE amRdD amSz amLane amSh amHands mTrace mH mK dmp l d (by exact hl) (by exact hd)) rfl ⟨by decide, by decide⟩ rfl [0, 2, 3] [1] [1, 0, 2, 3] [0] rfl rfl rfl rfl (by decide) rfl rfl (Nat.le_of_ble_eq_true rfl) dX8_fewestOn_4 rfl rfl ?_
  refine g_istore (lv' := [(4, .int (m_X8_dried mCool mH mK dmp l d)), (0, .ref aMO), (1, .int l), (2, .int d), (3, .int dmp)]) hC dX8_fewestOn_7 (by decide) rfl rfl ?_
  refine g_iload hC dX8_fewestOn_9 0 rfl rfl ?_
  have K_11 : ∀ vK : Int32, vK = (if (m_X8_dried mCool mH mK dmp l d) ≤ 0 then (99 : Int32) else (mTF (((10 : Int32) * (d + (1 : Int32))) + (m_X8_dried mCool mH mK dmp l d)).toNatClampNeg)) → G X D 7 [(aMO, .inr (8, [.int mFault, .ref amS, .int mDays, .ref amH, .int mLin, .ref amK, .ref amO, .ref amD, .int mCool, .int mReadAt, .int mReadDays, .int mReadLin, .ref amRS, .ref amRH, .ref amRK, .ref amRO, .ref amRD, .ref amDN, .ref amSN, .int mDayNow, .int mLast, .int mTears, .int mWrong, .ref amTF, .ref amTFor, .ref amWB, .int mRdn, .ref amRdL, .ref amRdE, .ref amRdD, .ref amSz, .ref amLane, .ref amSh, .ref amHands, .int mTrace])), (amTF, .inl (cI, 70, .inl mTF)), (amH, .inl (cI, 6, .inl mH)), (amK, .inl (cI, 5, .inl mK))] [(4, .int (m_X8_dried mCool mH mK dmp l d)), (0, .ref aMO), (1, .int l), (2, .int d), (3, .int dmp)] 33 (.int vK :: []) := by
    intro vK hvK
    subst hvK
    refine g_istore (lv' := [(5, .int (if (m_X8_dried mCool mH mK dmp l d) ≤ 0 then (99 : Int32) else (mTF (((10 : Int32) * (d + (1 : Int32))) + (m_X8_dried mCool mH mK dmp l d)).toNatClampNeg))), (4, .int (m_X8_dried mCool mH mK dmp l d)), (0, .ref aMO), (1, .int l), (2, .int d), (3, .int dmp)]) hC dX8_fewestOn_33 (by decide) rfl rfl ?_
    refine g_iload_n hC dX8_fewestOn_35 rfl 5 rfl rfl ?_
    refine g_bipush (v := 9) hC dX8_fewestOn_36 (by decide) rfl ?_
    refine g_icmp_ge (tgt := 60) hC dX8_fewestOn_38 (by decide) rfl (fun c_38 => ?_) (fun c_38 => ?_)
    · rw [if_pos c_38] at hres
      refine g_bipush (v := 99) hC dX8_fewestOn_60 (by decide) rfl ?_
      refine g_istore (lv' := [(6, .int (99 : Int32)), (5, .int (if (m_X8_dried mCool mH mK dmp l d) ≤ 0 then (99 : Int32) else (mTF (((10 : Int32) * (d + (1 : Int32))) + (m_X8_dried mCool mH mK dmp l d)).toNatClampNeg))), (4, .int (m_X8_dried mCool mH mK dmp l d)), (0, .ref aMO), (1, .int l), (2, .int d), (3, .int dmp)]) hC dX8_fewestOn_62 (by decide) rfl rfl ?_
      refine g_iload hC dX8_fewestOn_64 1 rfl rfl ?_
      refine g_iload hC dX8_fewestOn_66 0 rfl rfl ?_
      have K_68 : ∀ vK : Int32, vK = (if (99 : Int32) ≤ (if (m_X8_dried mCool mH mK dmp l d) ≤ 0 then (99 : Int32) else (mTF (((10 : Int32) * (d + (1 : Int32))) + (m_X8_dried mCool mH mK dmp l d)).toNatClampNeg)) then (99 : Int32) else (if (m_X8_dried mCool mH mK dmp l d) ≤ 0 then (99 : Int32) else (mTF (((10 : Int32) * (d + (1 : Int32))) + (m_X8_dried mCool mH mK dmp l d)).toNatClampNeg))) → G X D 7 [(aMO, .inr (8, [.int mFault, .ref amS, .int mDays, .ref amH, .int mLin, .ref amK, .ref amO, .ref amD, .int mCool, .int mReadAt, .int mReadDays, .int mReadLin, .ref amRS, .ref amRH, .ref amRK, .ref amRO, .ref amRD, .ref amDN, .ref amSN, .int mDayNow, .int mLast, .int mTears, .int mWrong, .ref amTF, .ref amTFor, .ref amWB, .int mRdn, .ref amRdL, .ref amRdE, .ref amRdD, .ref amSz, .ref amLane, .ref amSh, .ref amHands, .int mTrace])), (amTF, .inl (cI, 70, .inl mTF)), (amH, .inl (cI, 6, .inl mH)), (amK, .inl (cI, 5, .inl mK))] [(6, .int (99 : Int32)), (5, .int (if (m_X8_dried mCool mH mK dmp l d) ≤ 0 then (99 : Int32) else (mTF (((10 : Int32) * (d + (1 : Int32))) + (m_X8_dried mCool mH mK dmp l d)).toNatClampNeg))), (4, .int (m_X8_dried mCool mH mK dmp l d)), (0, .ref aMO), (1, .int l), (2, .int d), (3, .int dmp)] 78 (.int vK :: []) := by
        intro vK hvK
        subst hvK
        subst hres
        exact g_iret hC hX rfl dX8_fewestOn_78 rfl rfl
      refine g_icmp_ge (tgt := 76) hC dX8_fewestOn_68 (by decide) rfl (fun c_68 => ?_) (fun c_68 => ?_)
      · refine g_iload hC dX8_fewestOn_76 0 rfl rfl ?_
        exact K_68 _ (if_pos c_68).symm
      · refine g_iload hC dX8_fewestOn_71 1 rfl rfl ?_
        refine g_goto (tgt := 78) hC dX8_fewestOn_73 (by decide) ?_
        exact K_68 _ (if_neg c_68).symm
    · rw [if_neg c_38] at hres
      refine g_iconst (v := 1) hC dX8_fewestOn_41 (by decide) rfl ?_
      refine g_aload_n hC dX8_fewestOn_42 rfl 2 rfl rfl ?_
      refine g_get hC iw_X8_fewestOn_RX8 0 rfl rfl 23 (by decide) (List.mem_of_getElem? (i := 1) rfl) rfl rfl dX8_fewestOn_43 rfl ?_
      refine g_bipush (v := 10) hC dX8_fewestOn_46 (by decide) rfl ?_
      refine g_iload_n hC dX8_fewestOn_48 rfl 4 rfl rfl ?_
      refine g_imul hC dX8_fewestOn_49 rfl ?_
      refine g_iload_n hC dX8_fewestOn_50 rfl 5 rfl rfl ?_
      refine g_callS (ws' := [(aMO, .inr (8, [.int mFault, .ref amS, .int mDays, .ref amH, .int mLin, .ref amK, .ref amO, .ref amD, .int mCool, .int mReadAt, .int mReadDays, .int mReadLin, .ref amRS, .ref amRH, .ref amRK, .ref amRO, .ref amRD, .ref amDN, .ref amSN, .int mDayNow, .int mLast, .int mTears, .int mWrong, .ref amTF, .ref amTFor, .ref amWB, .int mRdn, .ref amRdL, .ref amRdE, .ref amRdD, .ref amSz, .ref amLane, .ref amSh, .ref amHands, .int mTrace])), (amTF, .inl (cI, 70, .inl mTF)), (amH, .inl (cI, 6, .inl mH)), (amK, .inl (cI, 5, .inl mK))]) (st' := [.int (m_X8_wept dmp), .int ((10 : Int32) * d), .ref amTF, .int (1 : Int32)]) (nw := 4) (n1 := 0) hC gX8_fewestOn_X8_wept hdS_yX8_wept (As := [.int dmp]) (rest := [.int ((10 : Int32) * d), .ref amTF, .int (1 : Int32)]) (c_X8_wept D cI dmp) rfl ⟨by decide, by decide⟩ rfl [] [0, 1, 2, 3] [0, 1, 2, 3] [0] rfl rfl rfl rfl (by decide) rfl rfl (Nat.le_of_ble_eq_true rfl) dX8_fewestOn_51 rfl rfl ?_
      refine g_iadd hC dX8_fewestOn_54 rfl ?_
      refine g_iald hC 1 0 rfl rfl (by exact ixB hd (wept_ok hdm.1 hdm.2)) dX8_fewestOn_55 rfl ?_
      refine g_iadd hC dX8_fewestOn_56 rfl ?_
      refine g_goto (tgt := 62) hC dX8_fewestOn_57 (by decide) ?_
      refine g_istore (lv' := [(6, .int ((1 : Int32) + (mTF (((10 : Int32) * d) + (m_X8_wept dmp)).toNatClampNeg))), (5, .int (if (m_X8_dried mCool mH mK dmp l d) ≤ 0 then (99 : Int32) else (mTF (((10 : Int32) * (d + (1 : Int32))) + (m_X8_dried mCool mH mK dmp l d)).toNatClampNeg))), (4, .int (m_X8_dried mCool mH mK dmp l d)), (0, .ref aMO), (1, .int l), (2, .int d), (3, .int dmp)]) hC dX8_fewestOn_62 (by decide) rfl rfl ?_
      refine g_iload hC dX8_fewestOn_64 1 rfl rfl ?_
      refine g_iload hC dX8_fewestOn_66 0 rfl rfl ?_
      have K_68 : ∀ vK : Int32, vK = (if ((1 : Int32) + (mTF (((10 : Int32) * d) + (m_X8_wept dmp)).toNatClampNeg)) ≤ (if (m_X8_dried mCool mH mK dmp l d) ≤ 0 then (99 : Int32) else (mTF (((10 : Int32) * (d + (1 : Int32))) + (m_X8_dried mCool mH mK dmp l d)).toNatClampNeg)) then ((1 : Int32) + (mTF (((10 : Int32) * d) + (m_X8_wept dmp)).toNatClampNeg)) else (if (m_X8_dried mCool mH mK dmp l d) ≤ 0 then (99 : Int32) else (mTF (((10 : Int32) * (d + (1 : Int32))) + (m_X8_dried mCool mH mK dmp l d)).toNatClampNeg))) → G X D 7 [(aMO, .inr (8, [.int mFault, .ref amS, .int mDays, .ref amH, .int mLin, .ref amK, .ref amO, .ref amD, .int mCool, .int mReadAt, .int mReadDays, .int mReadLin, .ref amRS, .ref amRH, .ref amRK, .ref amRO, .ref amRD, .ref amDN, .ref amSN, .int mDayNow, .int mLast, .int mTears, .int mWrong, .ref amTF, .ref amTFor, .ref amWB, .int mRdn, .ref amRdL, .ref amRdE, .ref amRdD, .ref amSz, .ref amLane, .ref amSh, .ref amHands, .int mTrace])), (amTF, .inl (cI, 70, .inl mTF)), (amH, .inl (cI, 6, .inl mH)), (amK, .inl (cI, 5, .inl mK))] [(6, .int ((1 : Int32) + (mTF (((10 : Int32) * d) + (m_X8_wept dmp)).toNatClampNeg))), (5, .int (if (m_X8_dried mCool mH mK dmp l d) ≤ 0 then (99 : Int32) else (mTF (((10 : Int32) * (d + (1 : Int32))) + (m_X8_dried mCool mH mK dmp l d)).toNatClampNeg))), (4, .int (m_X8_dried mCool mH mK dmp l d)), (0, .ref aMO), (1, .int l), (2, .int d), (3, .int dmp)] 78 (.int vK :: []) := by
        intro vK hvK
        subst hvK
        subst hres
        exact g_iret hC hX rfl dX8_fewestOn_78 rfl rfl
      refine g_icmp_ge (tgt := 76) hC dX8_fewestOn_68 (by decide) rfl (fun c_68 => ?_) (fun c_68 => ?_)
      · refine g_iload hC dX8_fewestOn_76 0 rfl rfl ?_
        exact K_68 _ (if_pos c_68).symm
      · refine g_iload hC dX8_fewestOn_71 1 rfl rfl ?_
        refine g_goto (tgt := 78) hC dX8_fewestOn_73 (by decide) ?_
        exact K_68 _ (if_neg c_68).symm
  refine g_if_le (tgt := 31) hC dX8_fewestOn_11 (by decide) rfl (fun c_11 => ?_) (fun c_11 => ?_)
  · refine g_bipush (v := 99) hC dX8_fewestOn_31 (by decide) rfl ?_
    exact K_11 _ (if_pos c_11).symm
  · refine g_aload_n hC dX8_fewestOn_14 rfl 1 rfl rfl ?_
    refine g_get hC iw_X8_fewestOn_RX8 0 rfl rfl 23 (by decide) (List.mem_of_getElem? (i := 1) rfl) rfl rfl dX8_fewestOn_15 rfl ?_
    refine g_bipush (v := 10) hC dX8_fewestOn_18 (by decide) rfl ?_
    refine g_iload_n hC dX8_fewestOn_20 rfl 3 rfl rfl ?_
    refine g_iconst (v := 1) hC dX8_fewestOn_21 (by decide) rfl ?_
    refine g_iadd hC dX8_fewestOn_22 rfl ?_
    refine g_imul hC dX8_fewestOn_23 rfl ?_
    refine g_iload hC dX8_fewestOn_24 0 rfl rfl ?_
    refine g_iadd hC dX8_fewestOn_26 rfl ?_
    refine g_iald hC 1 0 rfl rfl (by exact ixA hd (dr_le hH9 hdm)) dX8_fewestOn_27 rfl ?_
    refine g_goto (tgt := 33) hC dX8_fewestOn_28 (by decide) ?_
    exact K_11 _ (if_neg c_11).symm
theorem iw_X8_tearsOf_RX8 : ∀ w ∈ wsX80, w ∈ wsX8_tearsOf := fun _ h => List.mem_cons_of_mem _ (List.mem_append_right _ (h))
def m_X8_tearsOf_39 : Nat → Int32 → (Nat → Int32) → (Nat → Int32) → (Nat → Int32) → Int32 → Int32 → (Nat → Int32) → (Int32 × (Nat → Int32))
  | 0, _, _, _, _, _, _, _ => default
  | fu + 1, mCool, mH, mK, mD, l, y2, z_mTF => (if y2 < 0 then ((if (99 : Int32) ≤ (z_mTF (mD l.toNatClampNeg).toNatClampNeg) then (-9 : Int32) else (z_mTF (mD l.toNatClampNeg).toNatClampNeg)), z_mTF) else (m_X8_tearsOf_39 fu mCool mH mK mD l (y2 + (-1)) (upd z_mTF y2.toNatClampNeg (if (m_X8_fewestOn mCool z_mTF mH mK l (y2 / (10 : Int32)) (y2 - y2 / (10 : Int32) * (10 : Int32))) ≤ (99 : Int32) then (m_X8_fewestOn mCool z_mTF mH mK l (y2 / (10 : Int32)) (y2 - y2 / (10 : Int32) * (10 : Int32))) else (99 : Int32)))))
def m_X8_tearsOf_2 : Nat → Int32 → Int32 → (Nat → Int32) → (Nat → Int32) → (Nat → Int32) → Int32 → Int32 → (Nat → Int32) → (Int32 × (Nat → Int32))
  | 0, _, _, _, _, _, _, _, _ => default
  | fu + 1, mDays, mCool, mH, mK, mD, l, y2, z_mTF => (if (10 : Int32) ≤ y2 then (m_X8_tearsOf_39 (((((10 : Int32) * mDays) - (1 : Int32)).toInt + 1).toNat + 1) mCool mH mK mD l (((10 : Int32) * mDays) - (1 : Int32)) z_mTF) else (m_X8_tearsOf_2 fu mDays mCool mH mK mD l (y2 + 1) (upd z_mTF (((10 : Int32) * mDays) + y2).toNatClampNeg (0 : Int32))))
def m_X8_tearsOf (mDays : Int32) (mCool : Int32) (mTF : Nat → Int32) (mH : Nat → Int32) (mK : Nat → Int32) (mD : Nat → Int32) (l : Int32) : (Int32 × (Nat → Int32)) := (m_X8_tearsOf_2 (((10 : Int32).toInt - (0 : Int32).toInt).toNat + 1) mDays mCool mH mK mD l (0 : Int32) mTF)
set_option maxRecDepth 100000 in
set_option maxHeartbeats 4000000 in
theorem l_X8_tearsOf_39 {X : gX} (D : va_G) (cI : ClassId) (aMO : Nat) (mFault : Int32) (amS : Nat) (mDays : Int32) (amH : Nat) (mLin : Int32) (amK : Nat) (amO : Nat) (amD : Nat) (mCool : Int32) (mReadAt : Int32) (mReadDays : Int32) (mReadLin : Int32) (amRS : Nat) (amRH : Nat) (amRK : Nat) (amRO : Nat) (amRD : Nat) (amDN : Nat) (amSN : Nat) (mDayNow : Int32) (mLast : Int32) (mTears : Int32) (mWrong : Int32) (amTF : Nat) (amTFor : Nat) (amWB : Nat) (mRdn : Int32) (amRdL : Nat) (amRdE : Nat) (amRdD : Nat) (amSz : Nat) (amLane : Nat) (amSh : Nat) (amHands : Nat) (mTrace : Int32) (mTF : Nat → Int32) (mH : Nat → Int32) (mK : Nat → Int32) (mD : Nat → Int32) (l : Int32) (hl : vp_in l 5) (hd6 : mDays.toInt ≤ 6) (hd0 : 0 ≤ mDays.toInt) (hH9 : ∀ j : Nat, 0 ≤ (mH j).toInt ∧ (mH j).toInt ≤ 9) (hD9 : ∀ j : Nat, 0 ≤ (mD j).toInt ∧ (mD j).toInt ≤ 9) (hC : Cx X cX8_tearsOf 4 RX8 wsX8_tearsOf D [(cI, .int)] ({ frames := 4, cells := 0, slots := 0, locals := 94 } : Room) (some .int)) {res : (Int32 × (Nat → Int32))} (hX : Rx X D (some (.int res.1)) [(aMO, .inr (8, [.int mFault, .ref amS, .int mDays, .ref amH, .int mLin, .ref amK, .ref amO, .ref amD, .int mCool, .int mReadAt, .int mReadDays, .int mReadLin, .ref amRS, .ref amRH, .ref amRK, .ref amRO, .ref amRD, .ref amDN, .ref amSN, .int mDayNow, .int mLast, .int mTears, .int mWrong, .ref amTF, .ref amTFor, .ref amWB, .int mRdn, .ref amRdL, .ref amRdE, .ref amRdD, .ref amSz, .ref amLane, .ref amSh, .ref amHands, .int mTrace])), (amTF, .inl (cI, 70, .inl res.2)), (amH, .inl (cI, 6, .inl mH)), (amK, .inl (cI, 5, .inl mK)), (amD, .inl (cI, 5, .inl mD))]) : ∀ (fu : Nat) (y2 : Int32) (z_mTF : Nat → Int32) (hm : (y2.toInt + 1).toNat < fu) (hx60 : y2.toInt < 60) (hres : res = m_X8_tearsOf_39 fu mCool mH mK mD l y2 z_mTF), G X D 4 [(aMO, .inr (8, [.int mFault, .ref amS, .int mDays, .ref amH, .int mLin, .ref amK, .ref amO, .ref amD, .int mCool, .int mReadAt, .int mReadDays, .int mReadLin, .ref amRS, .ref amRH, .ref amRK, .ref amRO, .ref amRD, .ref amDN, .ref amSN, .int mDayNow, .int mLast, .int mTears, .int mWrong, .ref amTF, .ref amTFor, .ref amWB, .int mRdn, .ref amRdL, .ref amRdE, .ref amRdD, .ref amSz, .ref amLane, .ref amSh, .ref amHands, .int mTrace])), (amTF, .inl (cI, 70, .inl z_mTF)), (amH, .inl (cI, 6, .inl mH)), (amK, .inl (cI, 5, .inl mK)), (amD, .inl (cI, 5, .inl mD))] [(0, .ref aMO), (1, .int l), (2, .int y2)] 39 [] := by
  intro fu
  induction fu with
  | zero =>
    intro y2 z_mTF hm
    exact absurd hm (Nat.not_lt_zero _)
  | succ fu ih =>
    intro y2 z_mTF hm hx60 hres
    rw [m_X8_tearsOf_39] at hres
    refine g_iload_n hC dX8_tearsOf_39 rfl 2 rfl rfl ?_
    refine g_if_lt (tgt := 81) hC dX8_tearsOf_40 (by decide) rfl (fun c_40 => ?_) (fun c_40 => ?_)
    · rw [if_pos c_40] at hres
      refine g_aload_n hC dX8_tearsOf_81 rfl 0 rfl rfl ?_
      refine g_get hC iw_X8_tearsOf_RX8 0 rfl rfl 23 (by decide) (List.mem_of_getElem? (i := 1) rfl) rfl rfl dX8_tearsOf_82 rfl ?_
      refine g_aload_n hC dX8_tearsOf_85 rfl 0 rfl rfl ?_
      refine g_get hC iw_X8_tearsOf_RX8 0 rfl rfl 7 (by decide) (List.mem_of_getElem? (i := 3) rfl) rfl rfl dX8_tearsOf_86 rfl ?_
      refine g_iload_n hC dX8_tearsOf_89 rfl 1 rfl rfl ?_
      refine g_iald hC 4 0 rfl rfl (by exact hl) dX8_tearsOf_90 rfl ?_
      refine g_iald hC 1 0 rfl rfl (by exact dgt70 (hD9 _)) dX8_tearsOf_91 rfl ?_
      refine g_istore_n (lv' := [(2, .int (z_mTF (mD l.toNatClampNeg).toNatClampNeg)), (0, .ref aMO), (1, .int l)]) hC dX8_tearsOf_92 rfl (by decide) rfl rfl ?_
      refine g_iload_n hC dX8_tearsOf_93 rfl 0 rfl rfl ?_
      refine g_bipush (v := 99) hC dX8_tearsOf_94 (by decide) rfl ?_
      have K_96 : ∀ vK : Int32, vK = (if (99 : Int32) ≤ (z_mTF (mD l.toNatClampNeg).toNatClampNeg) then (-9 : Int32) else (z_mTF (mD l.toNatClampNeg).toNatClampNeg)) → G X D 4 [(aMO, .inr (8, [.int mFault, .ref amS, .int mDays, .ref amH, .int mLin, .ref amK, .ref amO, .ref amD, .int mCool, .int mReadAt, .int mReadDays, .int mReadLin, .ref amRS, .ref amRH, .ref amRK, .ref amRO, .ref amRD, .ref amDN, .ref amSN, .int mDayNow, .int mLast, .int mTears, .int mWrong, .ref amTF, .ref amTFor, .ref amWB, .int mRdn, .ref amRdL, .ref amRdE, .ref amRdD, .ref amSz, .ref amLane, .ref amSh, .ref amHands, .int mTrace])), (amTF, .inl (cI, 70, .inl z_mTF)), (amH, .inl (cI, 6, .inl mH)), (amK, .inl (cI, 5, .inl mK)), (amD, .inl (cI, 5, .inl mD))] [(2, .int (z_mTF (mD l.toNatClampNeg).toNatClampNeg)), (0, .ref aMO), (1, .int l)] 105 (.int vK :: []) := by
        intro vK hvK
        subst hvK
        subst hres
        exact g_iret hC hX rfl dX8_tearsOf_105 rfl rfl
      refine g_icmp_ge (tgt := 103) hC dX8_tearsOf_96 (by decide) rfl (fun c_96 => ?_) (fun c_96 => ?_)
      · refine g_bipush (v := -9) hC dX8_tearsOf_103 (by decide) rfl ?_
        exact K_96 _ (if_pos c_96).symm
      · refine g_iload_n hC dX8_tearsOf_99 rfl 0 rfl rfl ?_
        refine g_goto (tgt := 105) hC dX8_tearsOf_100 (by decide) ?_
        exact K_96 _ (if_neg c_96).symm
    · rw [if_neg c_40] at hres
      refine g_aload_n hC dX8_tearsOf_43 rfl 0 rfl rfl ?_
      refine g_iload_n hC dX8_tearsOf_44 rfl 1 rfl rfl ?_
      refine g_iload_n hC dX8_tearsOf_45 rfl 2 rfl rfl ?_
      refine g_bipush (v := 10) hC dX8_tearsOf_46 (by decide) rfl ?_
      refine g_idiv hC dX8_tearsOf_48 (by decide) rfl ?_
      refine g_iload_n hC dX8_tearsOf_49 rfl 2 rfl rfl ?_
      refine g_bipush (v := 10) hC dX8_tearsOf_50 (by decide) rfl ?_
      refine g_irem hC dX8_tearsOf_52 (by decide) rfl ?_
      refine g_callV (ws' := [(aMO, .inr (8, [.int mFault, .ref amS, .int mDays, .ref amH, .int mLin, .ref amK, .ref amO, .ref amD, .int mCool, .int mReadAt, .int mReadDays, .int mReadLin, .ref amRS, .ref amRH, .ref amRK, .ref amRO, .ref amRD, .ref amDN, .ref amSN, .int mDayNow, .int mLast, .int mTears, .int mWrong, .ref amTF, .ref amTFor, .ref amWB, .int mRdn, .ref amRdL, .ref amRdE, .ref amRdD, .ref amSz, .ref amLane, .ref amSh, .ref amHands, .int mTrace])), (amTF, .inl (cI, 70, .inl z_mTF)), (amH, .inl (cI, 6, .inl mH)), (amK, .inl (cI, 5, .inl mK)), (amD, .inl (cI, 5, .inl mD))]) (st' := [.int (m_X8_fewestOn mCool z_mTF mH mK l (y2 / (10 : Int32)) (y2 - y2 / (10 : Int32) * (10 : Int32)))]) (nw := 5) (n1 := 4) hC gX8_tearsOf_X8_fewestOn hdV_yX8_fewestOn 0 rfl rfl (As := [.int l, .int (y2 / (10 : Int32)), .int (y2 - y2 / (10 : Int32) * (10 : Int32))]) (rest := []) (c_X8_fewestOn D cI aMO mFault amS mDays amH mLin amK amO amD mCool mReadAt mReadDays mReadLin amRS amRH amRK amRO amRD amDN amSN mDayNow mLast mTears mWrong amTF amTFor amWB mRdn amRdL amRdE amRdD amSz amLane amSh amHands mTrace z_mTF mH mK l (y2 / (10 : Int32)) (y2 - y2 / (10 : Int32) * (10 : Int32)) (by assumption) (by exact (dv_ok c_40 hx60).1) (by exact in10 (dv_ok c_40 hx60).2) (by assumption)) rfl ⟨by decide, by decide⟩ rfl [0, 1, 2, 3] [4] [1, 2, 3, 4, 0] [0] rfl rfl rfl rfl (by decide) rfl rfl (Nat.le_of_ble_eq_true rfl) dX8_tearsOf_53 rfl rfl ?_
      refine g_istore_n (lv' := [(3, .int (m_X8_fewestOn mCool z_mTF mH mK l (y2 / (10 : Int32)) (y2 - y2 / (10 : Int32) * (10 : Int32)))), (0, .ref aMO), (1, .int l), (2, .int y2)]) hC dX8_tearsOf_56 rfl (by decide) rfl rfl ?_
      refine g_aload_n hC dX8_tearsOf_57 rfl 1 rfl rfl ?_
      refine g_get hC iw_X8_tearsOf_RX8 0 rfl rfl 23 (by decide) (List.mem_of_getElem? (i := 1) rfl) rfl rfl dX8_tearsOf_58 rfl ?_
      refine g_iload_n hC dX8_tearsOf_61 rfl 3 rfl rfl ?_
      refine g_iload_n hC dX8_tearsOf_62 rfl 0 rfl rfl ?_
      refine g_bipush (v := 99) hC dX8_tearsOf_63 (by decide) rfl ?_
      have K_65 : ∀ vK : Int32, vK = (if (m_X8_fewestOn mCool z_mTF mH mK l (y2 / (10 : Int32)) (y2 - y2 / (10 : Int32) * (10 : Int32))) ≤ (99 : Int32) then (m_X8_fewestOn mCool z_mTF mH mK l (y2 / (10 : Int32)) (y2 - y2 / (10 : Int32) * (10 : Int32))) else (99 : Int32)) → G X D 4 [(aMO, .inr (8, [.int mFault, .ref amS, .int mDays, .ref amH, .int mLin, .ref amK, .ref amO, .ref amD, .int mCool, .int mReadAt, .int mReadDays, .int mReadLin, .ref amRS, .ref amRH, .ref amRK, .ref amRO, .ref amRD, .ref amDN, .ref amSN, .int mDayNow, .int mLast, .int mTears, .int mWrong, .ref amTF, .ref amTFor, .ref amWB, .int mRdn, .ref amRdL, .ref amRdE, .ref amRdD, .ref amSz, .ref amLane, .ref amSh, .ref amHands, .int mTrace])), (amTF, .inl (cI, 70, .inl z_mTF)), (amH, .inl (cI, 6, .inl mH)), (amK, .inl (cI, 5, .inl mK)), (amD, .inl (cI, 5, .inl mD))] [(3, .int (m_X8_fewestOn mCool z_mTF mH mK l (y2 / (10 : Int32)) (y2 - y2 / (10 : Int32) * (10 : Int32)))), (0, .ref aMO), (1, .int l), (2, .int y2)] 74 (.int vK :: [.int y2, .ref amTF]) := by
        intro vK hvK
        subst hvK
        refine g_iast (ws' := [(aMO, .inr (8, [.int mFault, .ref amS, .int mDays, .ref amH, .int mLin, .ref amK, .ref amO, .ref amD, .int mCool, .int mReadAt, .int mReadDays, .int mReadLin, .ref amRS, .ref amRH, .ref amRK, .ref amRO, .ref amRD, .ref amDN, .ref amSN, .int mDayNow, .int mLast, .int mTears, .int mWrong, .ref amTF, .ref amTFor, .ref amWB, .int mRdn, .ref amRdL, .ref amRdE, .ref amRdD, .ref amSz, .ref amLane, .ref amSh, .ref amHands, .int mTrace])), (amTF, .inl (cI, 70, .inl (upd z_mTF y2.toNatClampNeg (if (m_X8_fewestOn mCool z_mTF mH mK l (y2 / (10 : Int32)) (y2 - y2 / (10 : Int32) * (10 : Int32))) ≤ (99 : Int32) then (m_X8_fewestOn mCool z_mTF mH mK l (y2 / (10 : Int32)) (y2 - y2 / (10 : Int32) * (10 : Int32))) else (99 : Int32))))), (amH, .inl (cI, 6, .inl mH)), (amK, .inl (cI, 5, .inl mK)), (amD, .inl (cI, 5, .inl mD))]) hC 1 0 rfl rfl (by exact lt70 c_40 hx60) rfl dX8_tearsOf_74 rfl ?_
        refine g_iinc (v := (y2 + (-1))) (lv' := [(2, .int (y2 + (-1))), (3, .int (m_X8_fewestOn mCool z_mTF mH mK l (y2 / (10 : Int32)) (y2 - y2 / (10 : Int32) * (10 : Int32)))), (0, .ref aMO), (1, .int l)]) hC dX8_tearsOf_75 3 rfl rfl (by decide) rfl rfl ?_
        refine g_goto (tgt := 39) hC dX8_tearsOf_78 (by decide) ?_
        refine g_sub [2, 3, 0] rfl ?_
        exact ih (y2 + (-1)) (upd z_mTF y2.toNatClampNeg (if (m_X8_fewestOn mCool z_mTF mH mK l (y2 / (10 : Int32)) (y2 - y2 / (10 : Int32) * (10 : Int32))) ≤ (99 : Int32) then (m_X8_fewestOn mCool z_mTF mH mK l (y2 / (10 : Int32)) (y2 - y2 / (10 : Int32) * (10 : Int32))) else (99 : Int32))) (by exact dn_dec c_40 hm) (by rw [dn_ok c_40]; omega) hres
      refine g_icmp_le (tgt := 73) hC dX8_tearsOf_65 (by decide) rfl (fun c_65 => ?_) (fun c_65 => ?_)
      · refine g_iload_n hC dX8_tearsOf_73 rfl 0 rfl rfl ?_
        exact K_65 _ (if_pos c_65).symm
      · refine g_bipush (v := 99) hC dX8_tearsOf_68 (by decide) rfl ?_
        refine g_goto (tgt := 74) hC dX8_tearsOf_70 (by decide) ?_
        exact K_65 _ (if_neg c_65).symm
set_option maxRecDepth 100000 in
set_option maxHeartbeats 4000000 in
theorem l_X8_tearsOf_2 {X : gX} (D : va_G) (cI : ClassId) (aMO : Nat) (mFault : Int32) (amS : Nat) (mDays : Int32) (amH : Nat) (mLin : Int32) (amK : Nat) (amO : Nat) (amD : Nat) (mCool : Int32) (mReadAt : Int32) (mReadDays : Int32) (mReadLin : Int32) (amRS : Nat) (amRH : Nat) (amRK : Nat) (amRO : Nat) (amRD : Nat) (amDN : Nat) (amSN : Nat) (mDayNow : Int32) (mLast : Int32) (mTears : Int32) (mWrong : Int32) (amTF : Nat) (amTFor : Nat) (amWB : Nat) (mRdn : Int32) (amRdL : Nat) (amRdE : Nat) (amRdD : Nat) (amSz : Nat) (amLane : Nat) (amSh : Nat) (amHands : Nat) (mTrace : Int32) (mTF : Nat → Int32) (mH : Nat → Int32) (mK : Nat → Int32) (mD : Nat → Int32) (l : Int32) (hl : vp_in l 5) (hd6 : mDays.toInt ≤ 6) (hd0 : 0 ≤ mDays.toInt) (hH9 : ∀ j : Nat, 0 ≤ (mH j).toInt ∧ (mH j).toInt ≤ 9) (hD9 : ∀ j : Nat, 0 ≤ (mD j).toInt ∧ (mD j).toInt ≤ 9) (hC : Cx X cX8_tearsOf 4 RX8 wsX8_tearsOf D [(cI, .int)] ({ frames := 4, cells := 0, slots := 0, locals := 94 } : Room) (some .int)) {res : (Int32 × (Nat → Int32))} (hX : Rx X D (some (.int res.1)) [(aMO, .inr (8, [.int mFault, .ref amS, .int mDays, .ref amH, .int mLin, .ref amK, .ref amO, .ref amD, .int mCool, .int mReadAt, .int mReadDays, .int mReadLin, .ref amRS, .ref amRH, .ref amRK, .ref amRO, .ref amRD, .ref amDN, .ref amSN, .int mDayNow, .int mLast, .int mTears, .int mWrong, .ref amTF, .ref amTFor, .ref amWB, .int mRdn, .ref amRdL, .ref amRdE, .ref amRdD, .ref amSz, .ref amLane, .ref amSh, .ref amHands, .int mTrace])), (amTF, .inl (cI, 70, .inl res.2)), (amH, .inl (cI, 6, .inl mH)), (amK, .inl (cI, 5, .inl mK)), (amD, .inl (cI, 5, .inl mD))]) : ∀ (fu : Nat) (y2 : Int32) (z_mTF : Nat → Int32) (hm : ((10 : Int32).toInt - y2.toInt).toNat < fu) (h0_y2 : 0 ≤ y2.toInt) (hres : res = m_X8_tearsOf_2 fu mDays mCool mH mK mD l y2 z_mTF), G X D 4 [(aMO, .inr (8, [.int mFault, .ref amS, .int mDays, .ref amH, .int mLin, .ref amK, .ref amO, .ref amD, .int mCool, .int mReadAt, .int mReadDays, .int mReadLin, .ref amRS, .ref amRH, .ref amRK, .ref amRO, .ref amRD, .ref amDN, .ref amSN, .int mDayNow, .int mLast, .int mTears, .int mWrong, .ref amTF, .ref amTFor, .ref amWB, .int mRdn, .ref amRdL, .ref amRdE, .ref amRdD, .ref amSz, .ref amLane, .ref amSh, .ref amHands, .int mTrace])), (amTF, .inl (cI, 70, .inl z_mTF)), (amH, .inl (cI, 6, .inl mH)), (amK, .inl (cI, 5, .inl mK)), (amD, .inl (cI, 5, .inl mD))] [(0, .ref aMO), (1, .int l), (2, .int y2)] 2 [] := by
  intro fu
  induction fu with
  | zero =>
    intro y2 z_mTF hm
    exact absurd hm (Nat.not_lt_zero _)
  | succ fu ih =>
    intro y2 z_mTF hm h0_y2 hres
    rw [m_X8_tearsOf_2] at hres
    refine g_iload_n hC dX8_tearsOf_2 rfl 2 rfl rfl ?_
    refine g_bipush (v := 10) hC dX8_tearsOf_3 (by decide) rfl ?_
    refine g_icmp_ge (tgt := 29) hC dX8_tearsOf_5 (by decide) rfl (fun c_5 => ?_) (fun c_5 => ?_)
    · rw [if_pos c_5] at hres
      refine g_bipush (v := 10) hC dX8_tearsOf_29 (by decide) rfl ?_
      refine g_aload_n hC dX8_tearsOf_31 rfl 0 rfl rfl ?_
      refine g_get hC iw_X8_tearsOf_RX8 0 rfl rfl 2 (by decide) (List.mem_of_getElem? (i := 2) rfl) rfl rfl dX8_tearsOf_32 rfl ?_
      refine g_imul hC dX8_tearsOf_35 rfl ?_
      refine g_iconst (v := 1) hC dX8_tearsOf_36 (by decide) rfl ?_
      refine g_isub hC dX8_tearsOf_37 rfl ?_
      refine g_istore_n (lv' := [(2, .int (((10 : Int32) * mDays) - (1 : Int32))), (0, .ref aMO), (1, .int l)]) hC dX8_tearsOf_38 rfl (by decide) rfl rfl ?_
      refine g_sub [1, 2, 0] rfl ?_
      exact l_X8_tearsOf_39 D cI aMO mFault amS mDays amH mLin amK amO amD mCool mReadAt mReadDays mReadLin amRS amRH amRK amRO amRD amDN amSN mDayNow mLast mTears mWrong amTF amTFor amWB mRdn amRdL amRdE amRdD amSz amLane amSh amHands mTrace mTF mH mK mD l hl hd6 hd0 hH9 hD9 hC hX (((((10 : Int32) * mDays) - (1 : Int32)).toInt + 1).toNat + 1) (((10 : Int32) * mDays) - (1 : Int32)) z_mTF (Nat.lt_succ_self _) (by exact d59 hd0 hd6) hres
    · rw [if_neg c_5] at hres
      refine g_aload_n hC dX8_tearsOf_8 rfl 0 rfl rfl ?_
      refine g_get hC iw_X8_tearsOf_RX8 0 rfl rfl 23 (by decide) (List.mem_of_getElem? (i := 1) rfl) rfl rfl dX8_tearsOf_9 rfl ?_
      refine g_bipush (v := 10) hC dX8_tearsOf_12 (by decide) rfl ?_
      refine g_aload_n hC dX8_tearsOf_14 rfl 0 rfl rfl ?_
      refine g_get hC iw_X8_tearsOf_RX8 0 rfl rfl 2 (by decide) (List.mem_of_getElem? (i := 2) rfl) rfl rfl dX8_tearsOf_15 rfl ?_
      refine g_imul hC dX8_tearsOf_18 rfl ?_
      refine g_iload_n hC dX8_tearsOf_19 rfl 2 rfl rfl ?_
      refine g_iadd hC dX8_tearsOf_20 rfl ?_
      refine g_iconst (v := 0) hC dX8_tearsOf_21 (by decide) rfl ?_
      refine g_iast (ws' := [(aMO, .inr (8, [.int mFault, .ref amS, .int mDays, .ref amH, .int mLin, .ref amK, .ref amO, .ref amD, .int mCool, .int mReadAt, .int mReadDays, .int mReadLin, .ref amRS, .ref amRH, .ref amRK, .ref amRO, .ref amRD, .ref amDN, .ref amSN, .int mDayNow, .int mLast, .int mTears, .int mWrong, .ref amTF, .ref amTFor, .ref amWB, .int mRdn, .ref amRdL, .ref amRdE, .ref amRdD, .ref amSz, .ref amLane, .ref amSh, .ref amHands, .int mTrace])), (amTF, .inl (cI, 70, .inl (upd z_mTF (((10 : Int32) * mDays) + y2).toNatClampNeg (0 : Int32)))), (amH, .inl (cI, 6, .inl mH)), (amK, .inl (cI, 5, .inl mK)), (amD, .inl (cI, 5, .inl mD))]) hC 1 0 rfl rfl (by exact ixF hd0 hd6 h0_y2 (lt9 c_5)) rfl dX8_tearsOf_22 rfl ?_
      refine g_iinc (v := (y2 + 1)) (lv' := [(2, .int (y2 + 1)), (0, .ref aMO), (1, .int l)]) hC dX8_tearsOf_23 2 rfl rfl (by decide) rfl rfl ?_
      refine g_goto (tgt := 2) hC dX8_tearsOf_26 (by decide) ?_
      refine g_sub [1, 2, 0] rfl ?_
      exact ih (y2 + 1) (upd z_mTF (((10 : Int32) * mDays) + y2).toNatClampNeg (0 : Int32)) (up_dec c_5 hm) (up_nn c_5 h0_y2) hres
set_option maxRecDepth 100000 in
set_option maxHeartbeats 4000000 in
theorem c_X8_tearsOf (D : va_G) (cI : ClassId) (aMO : Nat) (mFault : Int32) (amS : Nat) (mDays : Int32) (amH : Nat) (mLin : Int32) (amK : Nat) (amO : Nat) (amD : Nat) (mCool : Int32) (mReadAt : Int32) (mReadDays : Int32) (mReadLin : Int32) (amRS : Nat) (amRH : Nat) (amRK : Nat) (amRO : Nat) (amRD : Nat) (amDN : Nat) (amSN : Nat) (mDayNow : Int32) (mLast : Int32) (mTears : Int32) (mWrong : Int32) (amTF : Nat) (amTFor : Nat) (amWB : Nat) (mRdn : Int32) (amRdL : Nat) (amRdE : Nat) (amRdD : Nat) (amSz : Nat) (amLane : Nat) (amSh : Nat) (amHands : Nat) (mTrace : Int32) (mTF : Nat → Int32) (mH : Nat → Int32) (mK : Nat → Int32) (mD : Nat → Int32) (l : Int32) (hl : vp_in l 5) (hd6 : mDays.toInt ≤ 6) (hd0 : 0 ≤ mDays.toInt) (hH9 : ∀ j : Nat, 0 ≤ (mH j).toInt ∧ (mH j).toInt ≤ 9) (hD9 : ∀ j : Nat, 0 ≤ (mD j).toInt ∧ (mD j).toInt ≤ 9) : MC yX8_tearsOf wsX8_tearsOf ({ frames := 4, cells := 0, slots := 0, locals := 94 } : Room) D [(cI, .int)] [.ref aMO, .int l] [(aMO, .inr (8, [.int mFault, .ref amS, .int mDays, .ref amH, .int mLin, .ref amK, .ref amO, .ref amD, .int mCool, .int mReadAt, .int mReadDays, .int mReadLin, .ref amRS, .ref amRH, .ref amRK, .ref amRO, .ref amRD, .ref amDN, .ref amSN, .int mDayNow, .int mLast, .int mTears, .int mWrong, .ref amTF, .ref amTFor, .ref amWB, .int mRdn, .ref amRdL, .ref amRdE, .ref amRdD, .ref amSz, .ref amLane, .ref amSh, .ref amHands, .int mTrace])), (amTF, .inl (cI, 70, .inl mTF)), (amH, .inl (cI, 6, .inl mH)), (amK, .inl (cI, 5, .inl mK)), (amD, .inl (cI, 5, .inl mD))] (some (.int ((m_X8_tearsOf mDays mCool mTF mH mK mD l).1))) [(aMO, .inr (8, [.int mFault, .ref amS, .int mDays, .ref amH, .int mLin, .ref amK, .ref amO, .ref amD, .int mCool, .int mReadAt, .int mReadDays, .int mReadLin, .ref amRS, .ref amRH, .ref amRK, .ref amRO, .ref amRD, .ref amDN, .ref amSN, .int mDayNow, .int mLast, .int mTears, .int mWrong, .ref amTF, .ref amTFor, .ref amWB, .int mRdn, .ref amRdL, .ref amRdE, .ref amRdD, .ref amSz, .ref amLane, .ref amSh, .ref amHands, .int mTrace])), (amTF, .inl (cI, 70, .inl ((m_X8_tearsOf mDays mCool mTF mH mK mD l).2))), (amH, .inl (cI, 6, .inl mH)), (amK, .inl (cI, 5, .inl mK)), (amD, .inl (cI, 5, .inl mD))] := by
  refine g_entry (by decide) rfl rfl rfl rfl (Nat.le_of_ble_eq_true rfl) (lv := [(0, .ref aMO), (1, .int l)]) rfl ?_
  intro X hC hX
  obtain ⟨res, hres⟩ : ∃ z, z = (m_X8_tearsOf mDays mCool mTF mH mK mD l) := ⟨_, rfl⟩
  rw [← hres] at hX
  rw [m_X8_tearsOf] at hres
  refine g_iconst (v := 0) hC dX8_tearsOf_0 (by decide) rfl ?_
  refine g_istore_n (lv' := [(2, .int (0 : Int32)), (0, .ref aMO), (1, .int l)]) hC dX8_tearsOf_1 rfl (by decide) rfl rfl ?_
  refine g_sub [1, 2, 0] rfl ?_
  exact l_X8_tearsOf_2 D cI aMO mFault amS mDays amH mLin amK amO amD mCool mReadAt mReadDays mReadLin amRS amRH amRK amRO amRD amDN amSN mDayNow mLast mTears mWrong amTF amTFor amWB mRdn amRdL amRdE amRdD amSz amLane amSh amHands mTrace mTF mH mK mD l hl hd6 hd0 hH9 hD9 hC hX (((10 : Int32).toInt - (0 : Int32).toInt).toNat + 1) (0 : Int32) mTF (Nat.lt_succ_self _) (by decide) hres
def m_X8_tears (mDays : Int32) (mLin : Int32) (mCool : Int32) (mTF : Nat → Int32) (mH : Nat → Int32) (mK : Nat → Int32) (mD : Nat → Int32) (l : Int32) : (Int32 × (Nat → Int32)) := (if (m_X8_noLinen mLin l) = 0 then ((m_X8_tearsOf mDays mCool mTF mH mK mD l).1, (m_X8_tearsOf mDays mCool mTF mH mK mD l).2) else ((-1 : Int32), mTF))
set_option maxRecDepth 100000 in
set_option maxHeartbeats 4000000 in
theorem c_X8_tears (D : va_G) (cI : ClassId) (aMO : Nat) (mFault : Int32) (amS : Nat) (mDays : Int32) (amH : Nat) (mLin : Int32) (amK : Nat) (amO : Nat) (amD : Nat) (mCool : Int32) (mReadAt : Int32) (mReadDays : Int32) (mReadLin : Int32) (amRS : Nat) (amRH : Nat) (amRK : Nat) (amRO : Nat) (amRD : Nat) (amDN : Nat) (amSN : Nat) (mDayNow : Int32) (mLast : Int32) (mTears : Int32) (mWrong : Int32) (amTF : Nat) (amTFor : Nat) (amWB : Nat) (mRdn : Int32) (amRdL : Nat) (amRdE : Nat) (amRdD : Nat) (amSz : Nat) (amLane : Nat) (amSh : Nat) (amHands : Nat) (mTrace : Int32) (mTF : Nat → Int32) (mH : Nat → Int32) (mK : Nat → Int32) (mD : Nat → Int32) (l : Int32) (hl5 : mLin.toInt ≤ 5) (hd6 : mDays.toInt ≤ 6) (hd0 : 0 ≤ mDays.toInt) (hH9 : ∀ j : Nat, 0 ≤ (mH j).toInt ∧ (mH j).toInt ≤ 9) (hD9 : ∀ j : Nat, 0 ≤ (mD j).toInt ∧ (mD j).toInt ≤ 9) : MC yX8_tears wsX8_tears ({ frames := 5, cells := 0, slots := 0, locals := 117 } : Room) D [(cI, .int)] [.ref aMO, .int l] [(aMO, .inr (8, [.int mFault, .ref amS, .int mDays, .ref amH, .int mLin, .ref amK, .ref amO, .ref amD, .int mCool, .int mReadAt, .int mReadDays, .int mReadLin, .ref amRS, .ref amRH, .ref amRK, .ref amRO, .ref amRD, .ref amDN, .ref amSN, .int mDayNow, .int mLast, .int mTears, .int mWrong, .ref amTF, .ref amTFor, .ref amWB, .int mRdn, .ref amRdL, .ref amRdE, .ref amRdD, .ref amSz, .ref amLane, .ref amSh, .ref amHands, .int mTrace])), (amTF, .inl (cI, 70, .inl mTF)), (amH, .inl (cI, 6, .inl mH)), (amK, .inl (cI, 5, .inl mK)), (amD, .inl (cI, 5, .inl mD))] (some (.int ((m_X8_tears mDays mLin mCool mTF mH mK mD l).1))) [(aMO, .inr (8, [.int mFault, .ref amS, .int mDays, .ref amH, .int mLin, .ref amK, .ref amO, .ref amD, .int mCool, .int mReadAt, .int mReadDays, .int mReadLin, .ref amRS, .ref amRH, .ref amRK, .ref amRO, .ref amRD, .ref amDN, .ref amSN, .int mDayNow, .int mLast, .int mTears, .int mWrong, .ref amTF, .ref amTFor, .ref amWB, .int mRdn, .ref amRdL, .ref amRdE, .ref amRdD, .ref amSz, .ref amLane, .ref amSh, .ref amHands, .int mTrace])), (amTF, .inl (cI, 70, .inl ((m_X8_tears mDays mLin mCool mTF mH mK mD l).2))), (amH, .inl (cI, 6, .inl mH)), (amK, .inl (cI, 5, .inl mK)), (amD, .inl (cI, 5, .inl mD))] := by
  refine g_entry (by decide) rfl rfl rfl rfl (Nat.le_of_ble_eq_true rfl) (lv := [(0, .ref aMO), (1, .int l)]) rfl ?_
  intro X hC hX
  obtain ⟨res, hres⟩ : ∃ z, z = (m_X8_tears mDays mLin mCool mTF mH mK mD l) := ⟨_, rfl⟩
  rw [← hres] at hX
  rw [m_X8_tears] at hres
  refine g_aload_n hC dX8_tears_0 rfl 0 rfl rfl ?_
  refine g_iload_n hC dX8_tears_1 rfl 1 rfl rfl ?_
  refine g_callV (ws' := [(aMO, .inr (8, [.int mFault, .ref amS, .int mDays, .ref amH, .int mLin, .ref amK, .ref amO, .ref amD, .int mCool, .int mReadAt, .int mReadDays, .int mReadLin, .ref amRS, .ref amRH, .ref amRK, .ref amRO, .ref amRD, .ref amDN, .ref amSN, .int mDayNow, .int mLast, .int mTears, .int mWrong, .ref amTF, .ref amTFor, .ref amWB, .int mRdn, .ref amRdL, .ref amRdE, .ref amRdD, .ref amSz, .ref amLane, .ref amSh, .ref amHands, .int mTrace])), (amTF, .inl (cI, 70, .inl mTF)), (amH, .inl (cI, 6, .inl mH)), (amK, .inl (cI, 5, .inl mK)), (amD, .inl (cI, 5, .inl mD))]) (st' := [.int (m_X8_noLinen mLin l)]) (nw := 5) (n1 := 1) hC gX8_tears_X8_noLinen hdV_yX8_noLinen 0 rfl rfl (As := [.int l]) (rest := []) (c_X8_noLinen D cI aMO mFault amS mDays amH mLin amK amO amD mCool mReadAt mReadDays mReadLin amRS amRH amRK amRO amRD amDN amSN mDayNow mLast mTears mWrong amTF amTFor amWB mRdn amRdL amRdE amRdD amSz amLane amSh amHands mTrace l) rfl ⟨by decide, by decide⟩ rfl [0] [1, 2, 3, 4] [4, 0, 1, 2, 3] [0] rfl rfl rfl rfl (by decide) rfl rfl (Nat.le_of_ble_eq_true rfl) dX8_tears_2 rfl rfl ?_
  refine g_if_eq (tgt := 12) hC dX8_tears_5 (by decide) rfl (fun c_5 => ?_) (fun c_5 => ?_)
  · rw [if_pos c_5] at hres
    refine g_aload_n hC dX8_tears_12 rfl 0 rfl rfl ?_
    refine g_iload_n hC dX8_tears_13 rfl 1 rfl rfl ?_
    refine g_callV (ws' := [(aMO, .inr (8, [.int mFault, .ref amS, .int mDays, .ref amH, .int mLin, .ref amK, .ref amO, .ref amD, .int mCool, .int mReadAt, .int mReadDays, .int mReadLin, .ref amRS, .ref amRH, .ref amRK, .ref amRO, .ref amRD, .ref amDN, .ref amSN, .int mDayNow, .int mLast, .int mTears, .int mWrong, .ref amTF, .ref amTFor, .ref amWB, .int mRdn, .ref amRdL, .ref amRdE, .ref amRdD, .ref amSz, .ref amLane, .ref amSh, .ref amHands, .int mTrace])), (amTF, .inl (cI, 70, .inl ((m_X8_tearsOf mDays mCool mTF mH mK mD l).2))), (amH, .inl (cI, 6, .inl mH)), (amK, .inl (cI, 5, .inl mK)), (amD, .inl (cI, 5, .inl mD))]) (st' := [.int ((m_X8_tearsOf mDays mCool mTF mH mK mD l).1)]) (nw := 5) (n1 := 5) hC gX8_tears_X8_tearsOf hdV_yX8_tearsOf 0 rfl rfl (As := [.int l]) (rest := []) (c_X8_tearsOf D cI aMO mFault amS mDays amH mLin amK amO amD mCool mReadAt mReadDays mReadLin amRS amRH amRK amRO amRD amDN amSN mDayNow mLast mTears mWrong amTF amTFor amWB mRdn amRdL amRdE amRdD amSz amLane amSh amHands mTrace mTF mH mK mD l (by exact nl_ok c_5 hl5) (by exact hd6) (by exact hd0) (by exact hH9) (by exact hD9)) rfl ⟨by decide, by decide⟩ rfl [0, 1, 2, 3, 4] [] [0, 1, 2, 3, 4] [0] rfl rfl rfl rfl (by decide) rfl rfl (Nat.le_of_ble_eq_true rfl) dX8_tears_14 rfl rfl ?_
    subst hres
    exact g_iret hC hX rfl dX8_tears_17 rfl rfl
  · rw [if_neg c_5] at hres
    refine g_iconst (v := -1) hC dX8_tears_8 (by decide) rfl ?_
    refine g_goto (tgt := 17) hC dX8_tears_9 (by decide) ?_
    subst hres
    exact g_iret hC hX rfl dX8_tears_17 rfl rfl
theorem iw_X8_canKeep_RX8 : ∀ w ∈ wsX80, w ∈ wsX8_canKeep := fun _ h => List.mem_cons_of_mem _ (List.mem_append_right _ (h))
def m_X8_canKeep_87 : Nat → (Nat → Int32) → (Nat → Int32) → Int32 → Int32 → (Int32 × (Nat → Int32))
  | 0, _, _, _, _ => default
  | fu + 1, mS, k_mWB, y2, y3 => (if (4 : Int32) ≤ y3 then (y2, k_mWB) else (if y2 = 0 then (m_X8_canKeep_87 fu mS k_mWB (0 : Int32) (y3 + 1)) else (m_X8_canKeep_87 fu mS k_mWB (if (mS y3.toNatClampNeg) < (k_mWB y3.toNatClampNeg) then (0 : Int32) else (1 : Int32)) (y3 + 1))))
def m_X8_canKeep_24 : Nat → Int32 → (Nat → Int32) → (Nat → Int32) → (Nat → Int32) → Int32 → Int32 → Int32 → (Nat → Int32) → (Int32 × (Nat → Int32))
  | 0, _, _, _, _, _, _, _, _ => default
  | fu + 1, mLin, mTFor, mO, mS, set, y2, y3, z_mWB => (if mLin ≤ y3 then (m_X8_canKeep_87 (((4 : Int32).toInt - (0 : Int32).toInt).toNat + 1) mS z_mWB y2 (0 : Int32)) else (if (m_X8_isIn set y3) = 0 then (m_X8_canKeep_24 fu mLin mTFor mO mS set y2 (y3 + 1) z_mWB) else (if y2 = 0 then (m_X8_canKeep_24 fu mLin mTFor mO mS set (0 : Int32) (y3 + 1) (upd z_mWB (mO y3.toNatClampNeg).toNatClampNeg ((z_mWB (mO y3.toNatClampNeg).toNatClampNeg) + (mTFor y3.toNatClampNeg)))) else (m_X8_canKeep_24 fu mLin mTFor mO mS set (if (mTFor y3.toNatClampNeg) < 0 then (0 : Int32) else (1 : Int32)) (y3 + 1) (upd z_mWB (mO y3.toNatClampNeg).toNatClampNeg ((z_mWB (mO y3.toNatClampNeg).toNatClampNeg) + (mTFor y3.toNatClampNeg)))))))
def m_X8_canKeep_2 : Nat → Int32 → (Nat → Int32) → (Nat → Int32) → (Nat → Int32) → Int32 → Int32 → (Nat → Int32) → (Int32 × (Nat → Int32))
  | 0, _, _, _, _, _, _, _ => default
  | fu + 1, mLin, mTFor, mO, mS, set, y2, z_mWB => (if (4 : Int32) ≤ y2 then (m_X8_canKeep_24 ((mLin.toInt - (0 : Int32).toInt).toNat + 1) mLin mTFor mO mS set (1 : Int32) (0 : Int32) z_mWB) else (m_X8_canKeep_2 fu mLin mTFor mO mS set (y2 + 1) (upd z_mWB y2.toNatClampNeg (0 : Int32))))
def m_X8_canKeep (mLin : Int32) (mWB : Nat → Int32) (mTFor : Nat → Int32) (mO : Nat → Int32) (mS : Nat → Int32) (set : Int32) : (Int32 × (Nat → Int32)) := (m_X8_canKeep_2 (((4 : Int32).toInt - (0 : Int32).toInt).toNat + 1) mLin mTFor mO mS set (0 : Int32) mWB)
set_option maxRecDepth 100000 in
set_option maxHeartbeats 4000000 in
theorem l_X8_canKeep_87 {X : gX} (D : va_G) (cI : ClassId) (aMO : Nat) (mFault : Int32) (amS : Nat) (mDays : Int32) (amH : Nat) (mLin : Int32) (amK : Nat) (amO : Nat) (amD : Nat) (mCool : Int32) (mReadAt : Int32) (mReadDays : Int32) (mReadLin : Int32) (amRS : Nat) (amRH : Nat) (amRK : Nat) (amRO : Nat) (amRD : Nat) (amDN : Nat) (amSN : Nat) (mDayNow : Int32) (mLast : Int32) (mTears : Int32) (mWrong : Int32) (amTF : Nat) (amTFor : Nat) (amWB : Nat) (mRdn : Int32) (amRdL : Nat) (amRdE : Nat) (amRdD : Nat) (amSz : Nat) (amLane : Nat) (amSh : Nat) (amHands : Nat) (mTrace : Int32) (mWB : Nat → Int32) (mTFor : Nat → Int32) (mO : Nat → Int32) (mS : Nat → Int32) (set : Int32) (k_mWB : Nat → Int32) (hl5 : mLin.toInt ≤ 5) (hO4 : ∀ j : Nat, vp_in (mO j) 4) (hC : Cx X cX8_canKeep 4 RX8 wsX8_canKeep D [(cI, .int)] ({ frames := 1, cells := 0, slots := 0, locals := 21 } : Room) (some .boolean)) {res : (Int32 × (Nat → Int32))} (hX : Rx X D (some (.int res.1)) [(aMO, .inr (8, [.int mFault, .ref amS, .int mDays, .ref amH, .int mLin, .ref amK, .ref amO, .ref amD, .int mCool, .int mReadAt, .int mReadDays, .int mReadLin, .ref amRS, .ref amRH, .ref amRK, .ref amRO, .ref amRD, .ref amDN, .ref amSN, .int mDayNow, .int mLast, .int mTears, .int mWrong, .ref amTF, .ref amTFor, .ref amWB, .int mRdn, .ref amRdL, .ref amRdE, .ref amRdD, .ref amSz, .ref amLane, .ref amSh, .ref amHands, .int mTrace])), (amWB, .inl (cI, 4, .inl res.2)), (amTFor, .inl (cI, 5, .inl mTFor)), (amO, .inl (cI, 5, .inl mO)), (amS, .inl (cI, 4, .inl mS))]) : ∀ (fu : Nat) (y2 : Int32) (y3 : Int32) (hm : ((4 : Int32).toInt - y3.toInt).toNat < fu) (h0_y3 : 0 ≤ y3.toInt) (hb01 : y2 = 0 ∨ y2 = 1) (hres : res = m_X8_canKeep_87 fu mS k_mWB y2 y3), G X D 4 [(aMO, .inr (8, [.int mFault, .ref amS, .int mDays, .ref amH, .int mLin, .ref amK, .ref amO, .ref amD, .int mCool, .int mReadAt, .int mReadDays, .int mReadLin, .ref amRS, .ref amRH, .ref amRK, .ref amRO, .ref amRD, .ref amDN, .ref amSN, .int mDayNow, .int mLast, .int mTears, .int mWrong, .ref amTF, .ref amTFor, .ref amWB, .int mRdn, .ref amRdL, .ref amRdE, .ref amRdD, .ref amSz, .ref amLane, .ref amSh, .ref amHands, .int mTrace])), (amWB, .inl (cI, 4, .inl k_mWB)), (amTFor, .inl (cI, 5, .inl mTFor)), (amO, .inl (cI, 5, .inl mO)), (amS, .inl (cI, 4, .inl mS))] [(0, .ref aMO), (2, .int y2), (3, .int y3)] 87 [] := by
  intro fu
  induction fu with
  | zero =>
    intro y2 y3 hm
    exact absurd hm (Nat.not_lt_zero _)
  | succ fu ih =>
    intro y2 y3 hm h0_y3 hb01 hres
    rw [m_X8_canKeep_87] at hres
    refine g_iload_n hC dX8_canKeep_87 rfl 2 rfl rfl ?_
    refine g_iconst (v := 4) hC dX8_canKeep_88 (by decide) rfl ?_
    refine g_icmp_ge (tgt := 123) hC dX8_canKeep_89 (by decide) rfl (fun c_89 => ?_) (fun c_89 => ?_)
    · rw [if_pos c_89] at hres
      refine g_iload_n hC dX8_canKeep_123 rfl 1 rfl rfl ?_
      subst hres
      exact g_zret hC hX rfl (by rcases hb01 with e | e <;> (rw [e]; rfl)) dX8_canKeep_124 rfl rfl
    · rw [if_neg c_89] at hres
      refine g_iload_n hC dX8_canKeep_92 rfl 1 rfl rfl ?_
      refine g_if_eq (tgt := 115) hC dX8_canKeep_93 (by decide) rfl (fun c_93 => ?_) (fun c_93 => ?_)
      · rw [if_pos c_93] at hres
        refine g_iconst (v := 0) hC dX8_canKeep_115 (by decide) rfl ?_
        refine g_istore_n (lv' := [(2, .int (0 : Int32)), (0, .ref aMO), (3, .int y3)]) hC dX8_canKeep_116 rfl (by decide) rfl rfl ?_
        refine g_iinc (v := (y3 + 1)) (lv' := [(3, .int (y3 + 1)), (2, .int (0 : Int32)), (0, .ref aMO)]) hC dX8_canKeep_117 2 rfl rfl (by decide) rfl rfl ?_
        refine g_goto (tgt := 87) hC dX8_canKeep_120 (by decide) ?_
        refine g_sub [2, 1, 0] rfl ?_
        exact ih (0 : Int32) (y3 + 1) (up_dec c_89 hm) (up_nn c_89 h0_y3) (by first | assumption | first | exact Or.inl rfl | exact Or.inr rfl | (split <;> first | exact Or.inl rfl | exact Or.inr rfl)) hres
      · rw [if_neg c_93] at hres
        refine g_aload_n hC dX8_canKeep_96 rfl 0 rfl rfl ?_
        refine g_get hC iw_X8_canKeep_RX8 0 rfl rfl 25 (by decide) (List.mem_of_getElem? (i := 1) rfl) rfl rfl dX8_canKeep_97 rfl ?_
        refine g_iload_n hC dX8_canKeep_100 rfl 2 rfl rfl ?_
        refine g_iald hC 1 0 rfl rfl (by exact in_up h0_y3 c_89 (by decide)) dX8_canKeep_101 rfl ?_
        refine g_aload_n hC dX8_canKeep_102 rfl 0 rfl rfl ?_
        refine g_get hC iw_X8_canKeep_RX8 0 rfl rfl 1 (by decide) (List.mem_of_getElem? (i := 5) rfl) rfl rfl dX8_canKeep_103 rfl ?_
        refine g_iload_n hC dX8_canKeep_106 rfl 2 rfl rfl ?_
        refine g_iald hC 4 0 rfl rfl (by exact in_up h0_y3 c_89 (by decide)) dX8_canKeep_107 rfl ?_
        have K_108 : ∀ vK : Int32, vK = (if (mS y3.toNatClampNeg) < (k_mWB y3.toNatClampNeg) then (0 : Int32) else (1 : Int32)) → G X D 4 [(aMO, .inr (8, [.int mFault, .ref amS, .int mDays, .ref amH, .int mLin, .ref amK, .ref amO, .ref amD, .int mCool, .int mReadAt, .int mReadDays, .int mReadLin, .ref amRS, .ref amRH, .ref amRK, .ref amRO, .ref amRD, .ref amDN, .ref amSN, .int mDayNow, .int mLast, .int mTears, .int mWrong, .ref amTF, .ref amTFor, .ref amWB, .int mRdn, .ref amRdL, .ref amRdE, .ref amRdD, .ref amSz, .ref amLane, .ref amSh, .ref amHands, .int mTrace])), (amWB, .inl (cI, 4, .inl k_mWB)), (amTFor, .inl (cI, 5, .inl mTFor)), (amO, .inl (cI, 5, .inl mO)), (amS, .inl (cI, 4, .inl mS))] [(0, .ref aMO), (2, .int y2), (3, .int y3)] 116 (.int vK :: []) := by
          intro vK hvK
          subst hvK
          refine g_istore_n (lv' := [(2, .int (if (mS y3.toNatClampNeg) < (k_mWB y3.toNatClampNeg) then (0 : Int32) else (1 : Int32))), (0, .ref aMO), (3, .int y3)]) hC dX8_canKeep_116 rfl (by decide) rfl rfl ?_
          refine g_iinc (v := (y3 + 1)) (lv' := [(3, .int (y3 + 1)), (2, .int (if (mS y3.toNatClampNeg) < (k_mWB y3.toNatClampNeg) then (0 : Int32) else (1 : Int32))), (0, .ref aMO)]) hC dX8_canKeep_117 2 rfl rfl (by decide) rfl rfl ?_
          refine g_goto (tgt := 87) hC dX8_canKeep_120 (by decide) ?_
          refine g_sub [2, 1, 0] rfl ?_
          exact ih (if (mS y3.toNatClampNeg) < (k_mWB y3.toNatClampNeg) then (0 : Int32) else (1 : Int32)) (y3 + 1) (up_dec c_89 hm) (up_nn c_89 h0_y3) (by first | assumption | first | exact Or.inl rfl | exact Or.inr rfl | (split <;> first | exact Or.inl rfl | exact Or.inr rfl)) hres
        refine g_icmp_gt (tgt := 115) hC dX8_canKeep_108 (by decide) rfl (fun c_108 => ?_) (fun c_108 => ?_)
        · refine g_iconst (v := 0) hC dX8_canKeep_115 (by decide) rfl ?_
          exact K_108 _ (if_pos c_108).symm
        · refine g_iconst (v := 1) hC dX8_canKeep_111 (by decide) rfl ?_
          refine g_goto (tgt := 116) hC dX8_canKeep_112 (by decide) ?_
          exact K_108 _ (if_neg c_108).symm
set_option maxRecDepth 100000 in
set_option maxHeartbeats 4000000 in
theorem l_X8_canKeep_24 {X : gX} (D : va_G) (cI : ClassId) (aMO : Nat) (mFault : Int32) (amS : Nat) (mDays : Int32) (amH : Nat) (mLin : Int32) (amK : Nat) (amO : Nat) (amD : Nat) (mCool : Int32) (mReadAt : Int32) (mReadDays : Int32) (mReadLin : Int32) (amRS : Nat) (amRH : Nat) (amRK : Nat) (amRO : Nat) (amRD : Nat) (amDN : Nat) (amSN : Nat) (mDayNow : Int32) (mLast : Int32) (mTears : Int32) (mWrong : Int32) (amTF : Nat) (amTFor : Nat) (amWB : Nat) (mRdn : Int32) (amRdL : Nat) (amRdE : Nat) (amRdD : Nat) (amSz : Nat) (amLane : Nat) (amSh : Nat) (amHands : Nat) (mTrace : Int32) (mWB : Nat → Int32) (mTFor : Nat → Int32) (mO : Nat → Int32) (mS : Nat → Int32) (set : Int32) (hl5 : mLin.toInt ≤ 5) (hO4 : ∀ j : Nat, vp_in (mO j) 4) (hC : Cx X cX8_canKeep 4 RX8 wsX8_canKeep D [(cI, .int)] ({ frames := 1, cells := 0, slots := 0, locals := 21 } : Room) (some .boolean)) {res : (Int32 × (Nat → Int32))} (hX : Rx X D (some (.int res.1)) [(aMO, .inr (8, [.int mFault, .ref amS, .int mDays, .ref amH, .int mLin, .ref amK, .ref amO, .ref amD, .int mCool, .int mReadAt, .int mReadDays, .int mReadLin, .ref amRS, .ref amRH, .ref amRK, .ref amRO, .ref amRD, .ref amDN, .ref amSN, .int mDayNow, .int mLast, .int mTears, .int mWrong, .ref amTF, .ref amTFor, .ref amWB, .int mRdn, .ref amRdL, .ref amRdE, .ref amRdD, .ref amSz, .ref amLane, .ref amSh, .ref amHands, .int mTrace])), (amWB, .inl (cI, 4, .inl res.2)), (amTFor, .inl (cI, 5, .inl mTFor)), (amO, .inl (cI, 5, .inl mO)), (amS, .inl (cI, 4, .inl mS))]) : ∀ (fu : Nat) (y2 : Int32) (y3 : Int32) (z_mWB : Nat → Int32) (hm : (mLin.toInt - y3.toInt).toNat < fu) (h0_y3 : 0 ≤ y3.toInt) (hb01 : y2 = 0 ∨ y2 = 1) (hres : res = m_X8_canKeep_24 fu mLin mTFor mO mS set y2 y3 z_mWB), G X D 4 [(aMO, .inr (8, [.int mFault, .ref amS, .int mDays, .ref amH, .int mLin, .ref amK, .ref amO, .ref amD, .int mCool, .int mReadAt, .int mReadDays, .int mReadLin, .ref amRS, .ref amRH, .ref amRK, .ref amRO, .ref amRD, .ref amDN, .ref amSN, .int mDayNow, .int mLast, .int mTears, .int mWrong, .ref amTF, .ref amTFor, .ref amWB, .int mRdn, .ref amRdL, .ref amRdE, .ref amRdD, .ref amSz, .ref amLane, .ref amSh, .ref amHands, .int mTrace])), (amWB, .inl (cI, 4, .inl z_mWB)), (amTFor, .inl (cI, 5, .inl mTFor)), (amO, .inl (cI, 5, .inl mO)), (amS, .inl (cI, 4, .inl mS))] [(0, .ref aMO), (1, .int set), (2, .int y2), (3, .int y3)] 24 [] := by
  intro fu
  induction fu with
  | zero =>
    intro y2 y3 z_mWB hm
    exact absurd hm (Nat.not_lt_zero _)
  | succ fu ih =>
    intro y2 y3 z_mWB hm h0_y3 hb01 hres
    rw [m_X8_canKeep_24] at hres
    refine g_iload_n hC dX8_canKeep_24 rfl 3 rfl rfl ?_
    refine g_aload_n hC dX8_canKeep_25 rfl 0 rfl rfl ?_
    refine g_get hC iw_X8_canKeep_RX8 0 rfl rfl 4 (by decide) (List.mem_of_getElem? (i := 2) rfl) rfl rfl dX8_canKeep_26 rfl ?_
    refine g_icmp_ge (tgt := 85) hC dX8_canKeep_29 (by decide) rfl (fun c_29 => ?_) (fun c_29 => ?_)
    · rw [if_pos c_29] at hres
      refine g_iconst (v := 0) hC dX8_canKeep_85 (by decide) rfl ?_
      refine g_istore_n (lv' := [(3, .int (0 : Int32)), (0, .ref aMO), (1, .int set), (2, .int y2)]) hC dX8_canKeep_86 rfl (by decide) rfl rfl ?_
      refine g_sub [1, 3, 0] rfl ?_
      exact l_X8_canKeep_87 D cI aMO mFault amS mDays amH mLin amK amO amD mCool mReadAt mReadDays mReadLin amRS amRH amRK amRO amRD amDN amSN mDayNow mLast mTears mWrong amTF amTFor amWB mRdn amRdL amRdE amRdD amSz amLane amSh amHands mTrace mWB mTFor mO mS set z_mWB hl5 hO4 hC hX (((4 : Int32).toInt - (0 : Int32).toInt).toNat + 1) y2 (0 : Int32) (Nat.lt_succ_self _) (by decide) (by exact hb01) hres
    · rw [if_neg c_29] at hres
      refine g_iload_n hC dX8_canKeep_32 rfl 1 rfl rfl ?_
      refine g_iload_n hC dX8_canKeep_33 rfl 3 rfl rfl ?_
      refine g_callS (ws' := [(aMO, .inr (8, [.int mFault, .ref amS, .int mDays, .ref amH, .int mLin, .ref amK, .ref amO, .ref amD, .int mCool, .int mReadAt, .int mReadDays, .int mReadLin, .ref amRS, .ref amRH, .ref amRK, .ref amRO, .ref amRD, .ref amDN, .ref amSN, .int mDayNow, .int mLast, .int mTears, .int mWrong, .ref amTF, .ref amTFor, .ref amWB, .int mRdn, .ref amRdL, .ref amRdE, .ref amRdD, .ref amSz, .ref amLane, .ref amSh, .ref amHands, .int mTrace])), (amWB, .inl (cI, 4, .inl z_mWB)), (amTFor, .inl (cI, 5, .inl mTFor)), (amO, .inl (cI, 5, .inl mO)), (amS, .inl (cI, 4, .inl mS))]) (st' := [.int (m_X8_isIn set y3)]) (nw := 5) (n1 := 0) hC gX8_canKeep_X8_isIn hdS_yX8_isIn (As := [.int set, .int y3]) (rest := []) (c_X8_isIn D cI set y3) rfl ⟨by decide, by decide⟩ rfl [] [0, 1, 2, 3, 4] [0, 1, 2, 3, 4] [0] rfl rfl rfl rfl (by decide) rfl rfl (Nat.le_of_ble_eq_true rfl) dX8_canKeep_34 rfl rfl ?_
      refine g_if_eq (tgt := 79) hC dX8_canKeep_37 (by decide) rfl (fun c_37 => ?_) (fun c_37 => ?_)
      · rw [if_pos c_37] at hres
        refine g_iinc (v := (y3 + 1)) (lv' := [(3, .int (y3 + 1)), (0, .ref aMO), (1, .int set), (2, .int y2)]) hC dX8_canKeep_79 3 rfl rfl (by decide) rfl rfl ?_
        refine g_goto (tgt := 24) hC dX8_canKeep_82 (by decide) ?_
        refine g_sub [1, 2, 3, 0] rfl ?_
        exact ih y2 (y3 + 1) z_mWB (up_dec c_29 hm) (up_nn c_29 h0_y3) (by first | exact hb01 | first | exact Or.inl rfl | exact Or.inr rfl | (split <;> first | exact Or.inl rfl | exact Or.inr rfl)) hres
      · rw [if_neg c_37] at hres
        refine g_iload_n hC dX8_canKeep_40 rfl 2 rfl rfl ?_
        refine g_if_eq (tgt := 57) hC dX8_canKeep_41 (by decide) rfl (fun c_41 => ?_) (fun c_41 => ?_)
        · rw [if_pos c_41] at hres
          refine g_iconst (v := 0) hC dX8_canKeep_57 (by decide) rfl ?_
          refine g_istore_n (lv' := [(2, .int (0 : Int32)), (0, .ref aMO), (1, .int set), (3, .int y3)]) hC dX8_canKeep_58 rfl (by decide) rfl rfl ?_
          refine g_aload_n hC dX8_canKeep_59 rfl 1 rfl rfl ?_
          refine g_get hC iw_X8_canKeep_RX8 0 rfl rfl 25 (by decide) (List.mem_of_getElem? (i := 1) rfl) rfl rfl dX8_canKeep_60 rfl ?_
          refine g_aload_n hC dX8_canKeep_63 rfl 1 rfl rfl ?_
          refine g_get hC iw_X8_canKeep_RX8 0 rfl rfl 6 (by decide) (List.mem_of_getElem? (i := 4) rfl) rfl rfl dX8_canKeep_64 rfl ?_
          refine g_iload_n hC dX8_canKeep_67 rfl 3 rfl rfl ?_
          refine g_iald hC 3 0 rfl rfl (by exact in_up h0_y3 c_29 hl5) dX8_canKeep_68 rfl ?_
          refine g_dup2 hC dX8_canKeep_69 rfl rfl rfl ?_
          refine g_iald hC 1 0 rfl rfl (by exact hO4 _) dX8_canKeep_70 rfl ?_
          refine g_aload_n hC dX8_canKeep_71 rfl 1 rfl rfl ?_
          refine g_get hC iw_X8_canKeep_RX8 0 rfl rfl 24 (by decide) (List.mem_of_getElem? (i := 3) rfl) rfl rfl dX8_canKeep_72 rfl ?_
          refine g_iload_n hC dX8_canKeep_75 rfl 3 rfl rfl ?_
          refine g_iald hC 2 0 rfl rfl (by exact in_up h0_y3 c_29 hl5) dX8_canKeep_76 rfl ?_
          refine g_iadd hC dX8_canKeep_77 rfl ?_
          refine g_iast (ws' := [(aMO, .inr (8, [.int mFault, .ref amS, .int mDays, .ref amH, .int mLin, .ref amK, .ref amO, .ref amD, .int mCool, .int mReadAt, .int mReadDays, .int mReadLin, .ref amRS, .ref amRH, .ref amRK, .ref amRO, .ref amRD, .ref amDN, .ref amSN, .int mDayNow, .int mLast, .int mTears, .int mWrong, .ref amTF, .ref amTFor, .ref amWB, .int mRdn, .ref amRdL, .ref amRdE, .ref amRdD, .ref amSz, .ref amLane, .ref amSh, .ref amHands, .int mTrace])), (amWB, .inl (cI, 4, .inl (upd z_mWB (mO y3.toNatClampNeg).toNatClampNeg ((z_mWB (mO y3.toNatClampNeg).toNatClampNeg) + (mTFor y3.toNatClampNeg))))), (amTFor, .inl (cI, 5, .inl mTFor)), (amO, .inl (cI, 5, .inl mO)), (amS, .inl (cI, 4, .inl mS))]) hC 1 0 rfl rfl (by exact hO4 _) rfl dX8_canKeep_78 rfl ?_
          refine g_iinc (v := (y3 + 1)) (lv' := [(3, .int (y3 + 1)), (2, .int (0 : Int32)), (0, .ref aMO), (1, .int set)]) hC dX8_canKeep_79 3 rfl rfl (by decide) rfl rfl ?_
          refine g_goto (tgt := 24) hC dX8_canKeep_82 (by decide) ?_
          refine g_sub [2, 3, 1, 0] rfl ?_
          exact ih (0 : Int32) (y3 + 1) (upd z_mWB (mO y3.toNatClampNeg).toNatClampNeg ((z_mWB (mO y3.toNatClampNeg).toNatClampNeg) + (mTFor y3.toNatClampNeg))) (up_dec c_29 hm) (up_nn c_29 h0_y3) (by first | exact hb01 | first | exact Or.inl rfl | exact Or.inr rfl | (split <;> first | exact Or.inl rfl | exact Or.inr rfl)) hres
        · rw [if_neg c_41] at hres
          refine g_aload_n hC dX8_canKeep_44 rfl 0 rfl rfl ?_
          refine g_get hC iw_X8_canKeep_RX8 0 rfl rfl 24 (by decide) (List.mem_of_getElem? (i := 3) rfl) rfl rfl dX8_canKeep_45 rfl ?_
          refine g_iload_n hC dX8_canKeep_48 rfl 3 rfl rfl ?_
          refine g_iald hC 2 0 rfl rfl (by exact in_up h0_y3 c_29 hl5) dX8_canKeep_49 rfl ?_
          have K_50 : ∀ vK : Int32, vK = (if (mTFor y3.toNatClampNeg) < 0 then (0 : Int32) else (1 : Int32)) → G X D 4 [(aMO, .inr (8, [.int mFault, .ref amS, .int mDays, .ref amH, .int mLin, .ref amK, .ref amO, .ref amD, .int mCool, .int mReadAt, .int mReadDays, .int mReadLin, .ref amRS, .ref amRH, .ref amRK, .ref amRO, .ref amRD, .ref amDN, .ref amSN, .int mDayNow, .int mLast, .int mTears, .int mWrong, .ref amTF, .ref amTFor, .ref amWB, .int mRdn, .ref amRdL, .ref amRdE, .ref amRdD, .ref amSz, .ref amLane, .ref amSh, .ref amHands, .int mTrace])), (amWB, .inl (cI, 4, .inl z_mWB)), (amTFor, .inl (cI, 5, .inl mTFor)), (amO, .inl (cI, 5, .inl mO)), (amS, .inl (cI, 4, .inl mS))] [(0, .ref aMO), (1, .int set), (2, .int y2), (3, .int y3)] 58 (.int vK :: []) := by
            intro vK hvK
            subst hvK
            refine g_istore_n (lv' := [(2, .int (if (mTFor y3.toNatClampNeg) < 0 then (0 : Int32) else (1 : Int32))), (0, .ref aMO), (1, .int set), (3, .int y3)]) hC dX8_canKeep_58 rfl (by decide) rfl rfl ?_
            refine g_aload_n hC dX8_canKeep_59 rfl 1 rfl rfl ?_
            refine g_get hC iw_X8_canKeep_RX8 0 rfl rfl 25 (by decide) (List.mem_of_getElem? (i := 1) rfl) rfl rfl dX8_canKeep_60 rfl ?_
            refine g_aload_n hC dX8_canKeep_63 rfl 1 rfl rfl ?_
            refine g_get hC iw_X8_canKeep_RX8 0 rfl rfl 6 (by decide) (List.mem_of_getElem? (i := 4) rfl) rfl rfl dX8_canKeep_64 rfl ?_
            refine g_iload_n hC dX8_canKeep_67 rfl 3 rfl rfl ?_
            refine g_iald hC 3 0 rfl rfl (by exact in_up h0_y3 c_29 hl5) dX8_canKeep_68 rfl ?_
            refine g_dup2 hC dX8_canKeep_69 rfl rfl rfl ?_
            refine g_iald hC 1 0 rfl rfl (by exact hO4 _) dX8_canKeep_70 rfl ?_
            refine g_aload_n hC dX8_canKeep_71 rfl 1 rfl rfl ?_
            refine g_get hC iw_X8_canKeep_RX8 0 rfl rfl 24 (by decide) (List.mem_of_getElem? (i := 3) rfl) rfl rfl dX8_canKeep_72 rfl ?_
            refine g_iload_n hC dX8_canKeep_75 rfl 3 rfl rfl ?_
            refine g_iald hC 2 0 rfl rfl (by exact in_up h0_y3 c_29 hl5) dX8_canKeep_76 rfl ?_
            refine g_iadd hC dX8_canKeep_77 rfl ?_
            refine g_iast (ws' := [(aMO, .inr (8, [.int mFault, .ref amS, .int mDays, .ref amH, .int mLin, .ref amK, .ref amO, .ref amD, .int mCool, .int mReadAt, .int mReadDays, .int mReadLin, .ref amRS, .ref amRH, .ref amRK, .ref amRO, .ref amRD, .ref amDN, .ref amSN, .int mDayNow, .int mLast, .int mTears, .int mWrong, .ref amTF, .ref amTFor, .ref amWB, .int mRdn, .ref amRdL, .ref amRdE, .ref amRdD, .ref amSz, .ref amLane, .ref amSh, .ref amHands, .int mTrace])), (amWB, .inl (cI, 4, .inl (upd z_mWB (mO y3.toNatClampNeg).toNatClampNeg ((z_mWB (mO y3.toNatClampNeg).toNatClampNeg) + (mTFor y3.toNatClampNeg))))), (amTFor, .inl (cI, 5, .inl mTFor)), (amO, .inl (cI, 5, .inl mO)), (amS, .inl (cI, 4, .inl mS))]) hC 1 0 rfl rfl (by exact hO4 _) rfl dX8_canKeep_78 rfl ?_
            refine g_iinc (v := (y3 + 1)) (lv' := [(3, .int (y3 + 1)), (2, .int (if (mTFor y3.toNatClampNeg) < 0 then (0 : Int32) else (1 : Int32))), (0, .ref aMO), (1, .int set)]) hC dX8_canKeep_79 3 rfl rfl (by decide) rfl rfl ?_
            refine g_goto (tgt := 24) hC dX8_canKeep_82 (by decide) ?_
            refine g_sub [2, 3, 1, 0] rfl ?_
            exact ih (if (mTFor y3.toNatClampNeg) < 0 then (0 : Int32) else (1 : Int32)) (y3 + 1) (upd z_mWB (mO y3.toNatClampNeg).toNatClampNeg ((z_mWB (mO y3.toNatClampNeg).toNatClampNeg) + (mTFor y3.toNatClampNeg))) (up_dec c_29 hm) (up_nn c_29 h0_y3) (by first | exact hb01 | first | exact Or.inl rfl | exact Or.inr rfl | (split <;> first | exact Or.inl rfl | exact Or.inr rfl)) hres
          refine g_if_lt (tgt := 57) hC dX8_canKeep_50 (by decide) rfl (fun c_50 => ?_) (fun c_50 => ?_)
          · refine g_iconst (v := 0) hC dX8_canKeep_57 (by decide) rfl ?_
            exact K_50 _ (if_pos c_50).symm
          · refine g_iconst (v := 1) hC dX8_canKeep_53 (by decide) rfl ?_
            refine g_goto (tgt := 58) hC dX8_canKeep_54 (by decide) ?_
            exact K_50 _ (if_neg c_50).symm
set_option maxRecDepth 100000 in
set_option maxHeartbeats 4000000 in
theorem l_X8_canKeep_2 {X : gX} (D : va_G) (cI : ClassId) (aMO : Nat) (mFault : Int32) (amS : Nat) (mDays : Int32) (amH : Nat) (mLin : Int32) (amK : Nat) (amO : Nat) (amD : Nat) (mCool : Int32) (mReadAt : Int32) (mReadDays : Int32) (mReadLin : Int32) (amRS : Nat) (amRH : Nat) (amRK : Nat) (amRO : Nat) (amRD : Nat) (amDN : Nat) (amSN : Nat) (mDayNow : Int32) (mLast : Int32) (mTears : Int32) (mWrong : Int32) (amTF : Nat) (amTFor : Nat) (amWB : Nat) (mRdn : Int32) (amRdL : Nat) (amRdE : Nat) (amRdD : Nat) (amSz : Nat) (amLane : Nat) (amSh : Nat) (amHands : Nat) (mTrace : Int32) (mWB : Nat → Int32) (mTFor : Nat → Int32) (mO : Nat → Int32) (mS : Nat → Int32) (set : Int32) (hl5 : mLin.toInt ≤ 5) (hO4 : ∀ j : Nat, vp_in (mO j) 4) (hC : Cx X cX8_canKeep 4 RX8 wsX8_canKeep D [(cI, .int)] ({ frames := 1, cells := 0, slots := 0, locals := 21 } : Room) (some .boolean)) {res : (Int32 × (Nat → Int32))} (hX : Rx X D (some (.int res.1)) [(aMO, .inr (8, [.int mFault, .ref amS, .int mDays, .ref amH, .int mLin, .ref amK, .ref amO, .ref amD, .int mCool, .int mReadAt, .int mReadDays, .int mReadLin, .ref amRS, .ref amRH, .ref amRK, .ref amRO, .ref amRD, .ref amDN, .ref amSN, .int mDayNow, .int mLast, .int mTears, .int mWrong, .ref amTF, .ref amTFor, .ref amWB, .int mRdn, .ref amRdL, .ref amRdE, .ref amRdD, .ref amSz, .ref amLane, .ref amSh, .ref amHands, .int mTrace])), (amWB, .inl (cI, 4, .inl res.2)), (amTFor, .inl (cI, 5, .inl mTFor)), (amO, .inl (cI, 5, .inl mO)), (amS, .inl (cI, 4, .inl mS))]) : ∀ (fu : Nat) (y2 : Int32) (z_mWB : Nat → Int32) (hm : ((4 : Int32).toInt - y2.toInt).toNat < fu) (h0_y2 : 0 ≤ y2.toInt) (hres : res = m_X8_canKeep_2 fu mLin mTFor mO mS set y2 z_mWB), G X D 4 [(aMO, .inr (8, [.int mFault, .ref amS, .int mDays, .ref amH, .int mLin, .ref amK, .ref amO, .ref amD, .int mCool, .int mReadAt, .int mReadDays, .int mReadLin, .ref amRS, .ref amRH, .ref amRK, .ref amRO, .ref amRD, .ref amDN, .ref amSN, .int mDayNow, .int mLast, .int mTears, .int mWrong, .ref amTF, .ref amTFor, .ref amWB, .int mRdn, .ref amRdL, .ref amRdE, .ref amRdD, .ref amSz, .ref amLane, .ref amSh, .ref amHands, .int mTrace])), (amWB, .inl (cI, 4, .inl z_mWB)), (amTFor, .inl (cI, 5, .inl mTFor)), (amO, .inl (cI, 5, .inl mO)), (amS, .inl (cI, 4, .inl mS))] [(0, .ref aMO), (1, .int set), (2, .int y2)] 2 [] := by
  intro fu
  induction fu with
  | zero =>
    intro y2 z_mWB hm
    exact absurd hm (Nat.not_lt_zero _)
  | succ fu ih =>
    intro y2 z_mWB hm h0_y2 hres
    rw [m_X8_canKeep_2] at hres
    refine g_iload_n hC dX8_canKeep_2 rfl 2 rfl rfl ?_
    refine g_iconst (v := 4) hC dX8_canKeep_3 (by decide) rfl ?_
    refine g_icmp_ge (tgt := 20) hC dX8_canKeep_4 (by decide) rfl (fun c_4 => ?_) (fun c_4 => ?_)
    · rw [if_pos c_4] at hres
      refine g_iconst (v := 1) hC dX8_canKeep_20 (by decide) rfl ?_
      refine g_istore_n (lv' := [(2, .int (1 : Int32)), (0, .ref aMO), (1, .int set)]) hC dX8_canKeep_21 rfl (by decide) rfl rfl ?_
      refine g_iconst (v := 0) hC dX8_canKeep_22 (by decide) rfl ?_
      refine g_istore_n (lv' := [(3, .int (0 : Int32)), (2, .int (1 : Int32)), (0, .ref aMO), (1, .int set)]) hC dX8_canKeep_23 rfl (by decide) rfl rfl ?_
      refine g_sub [2, 3, 1, 0] rfl ?_
      exact l_X8_canKeep_24 D cI aMO mFault amS mDays amH mLin amK amO amD mCool mReadAt mReadDays mReadLin amRS amRH amRK amRO amRD amDN amSN mDayNow mLast mTears mWrong amTF amTFor amWB mRdn amRdL amRdE amRdD amSz amLane amSh amHands mTrace mWB mTFor mO mS set hl5 hO4 hC hX ((mLin.toInt - (0 : Int32).toInt).toNat + 1) (1 : Int32) (0 : Int32) z_mWB (Nat.lt_succ_self _) (by decide) (by exact Or.inr rfl) hres
    · rw [if_neg c_4] at hres
      refine g_aload_n hC dX8_canKeep_7 rfl 0 rfl rfl ?_
      refine g_get hC iw_X8_canKeep_RX8 0 rfl rfl 25 (by decide) (List.mem_of_getElem? (i := 1) rfl) rfl rfl dX8_canKeep_8 rfl ?_
      refine g_iload_n hC dX8_canKeep_11 rfl 2 rfl rfl ?_
      refine g_iconst (v := 0) hC dX8_canKeep_12 (by decide) rfl ?_
      refine g_iast (ws' := [(aMO, .inr (8, [.int mFault, .ref amS, .int mDays, .ref amH, .int mLin, .ref amK, .ref amO, .ref amD, .int mCool, .int mReadAt, .int mReadDays, .int mReadLin, .ref amRS, .ref amRH, .ref amRK, .ref amRO, .ref amRD, .ref amDN, .ref amSN, .int mDayNow, .int mLast, .int mTears, .int mWrong, .ref amTF, .ref amTFor, .ref amWB, .int mRdn, .ref amRdL, .ref amRdE, .ref amRdD, .ref amSz, .ref amLane, .ref amSh, .ref amHands, .int mTrace])), (amWB, .inl (cI, 4, .inl (upd z_mWB y2.toNatClampNeg (0 : Int32)))), (amTFor, .inl (cI, 5, .inl mTFor)), (amO, .inl (cI, 5, .inl mO)), (amS, .inl (cI, 4, .inl mS))]) hC 1 0 rfl rfl (by exact in_up h0_y2 c_4 (by decide)) rfl dX8_canKeep_13 rfl ?_
      refine g_iinc (v := (y2 + 1)) (lv' := [(2, .int (y2 + 1)), (0, .ref aMO), (1, .int set)]) hC dX8_canKeep_14 2 rfl rfl (by decide) rfl rfl ?_
      refine g_goto (tgt := 2) hC dX8_canKeep_17 (by decide) ?_
      refine g_sub [1, 2, 0] rfl ?_
      exact ih (y2 + 1) (upd z_mWB y2.toNatClampNeg (0 : Int32)) (up_dec c_4 hm) (up_nn c_4 h0_y2) hres
set_option maxRecDepth 100000 in
set_option maxHeartbeats 4000000 in
theorem c_X8_canKeep (D : va_G) (cI : ClassId) (aMO : Nat) (mFault : Int32) (amS : Nat) (mDays : Int32) (amH : Nat) (mLin : Int32) (amK : Nat) (amO : Nat) (amD : Nat) (mCool : Int32) (mReadAt : Int32) (mReadDays : Int32) (mReadLin : Int32) (amRS : Nat) (amRH : Nat) (amRK : Nat) (amRO : Nat) (amRD : Nat) (amDN : Nat) (amSN : Nat) (mDayNow : Int32) (mLast : Int32) (mTears : Int32) (mWrong : Int32) (amTF : Nat) (amTFor : Nat) (amWB : Nat) (mRdn : Int32) (amRdL : Nat) (amRdE : Nat) (amRdD : Nat) (amSz : Nat) (amLane : Nat) (amSh : Nat) (amHands : Nat) (mTrace : Int32) (mWB : Nat → Int32) (mTFor : Nat → Int32) (mO : Nat → Int32) (mS : Nat → Int32) (set : Int32) (hl5 : mLin.toInt ≤ 5) (hO4 : ∀ j : Nat, vp_in (mO j) 4) : MC yX8_canKeep wsX8_canKeep ({ frames := 1, cells := 0, slots := 0, locals := 21 } : Room) D [(cI, .int)] [.ref aMO, .int set] [(aMO, .inr (8, [.int mFault, .ref amS, .int mDays, .ref amH, .int mLin, .ref amK, .ref amO, .ref amD, .int mCool, .int mReadAt, .int mReadDays, .int mReadLin, .ref amRS, .ref amRH, .ref amRK, .ref amRO, .ref amRD, .ref amDN, .ref amSN, .int mDayNow, .int mLast, .int mTears, .int mWrong, .ref amTF, .ref amTFor, .ref amWB, .int mRdn, .ref amRdL, .ref amRdE, .ref amRdD, .ref amSz, .ref amLane, .ref amSh, .ref amHands, .int mTrace])), (amWB, .inl (cI, 4, .inl mWB)), (amTFor, .inl (cI, 5, .inl mTFor)), (amO, .inl (cI, 5, .inl mO)), (amS, .inl (cI, 4, .inl mS))] (some (.int ((m_X8_canKeep mLin mWB mTFor mO mS set).1))) [(aMO, .inr (8, [.int mFault, .ref amS, .int mDays, .ref amH, .int mLin, .ref amK, .ref amO, .ref amD, .int mCool, .int mReadAt, .int mReadDays, .int mReadLin, .ref amRS, .ref amRH, .ref amRK, .ref amRO, .ref amRD, .ref amDN, .ref amSN, .int mDayNow, .int mLast, .int mTears, .int mWrong, .ref amTF, .ref amTFor, .ref amWB, .int mRdn, .ref amRdL, .ref amRdE, .ref amRdD, .ref amSz, .ref amLane, .ref amSh, .ref amHands, .int mTrace])), (amWB, .inl (cI, 4, .inl ((m_X8_canKeep mLin mWB mTFor mO mS set).2))), (amTFor, .inl (cI, 5, .inl mTFor)), (amO, .inl (cI, 5, .inl mO)), (amS, .inl (cI, 4, .inl mS))] := by
  refine g_entry (by decide) rfl rfl rfl rfl (Nat.le_of_ble_eq_true rfl) (lv := [(0, .ref aMO), (1, .int set)]) rfl ?_
  intro X hC hX
  obtain ⟨res, hres⟩ : ∃ z, z = (m_X8_canKeep mLin mWB mTFor mO mS set) := ⟨_, rfl⟩
  rw [← hres] at hX
  rw [m_X8_canKeep] at hres
  refine g_iconst (v := 0) hC dX8_canKeep_0 (by decide) rfl ?_
  refine g_istore_n (lv' := [(2, .int (0 : Int32)), (0, .ref aMO), (1, .int set)]) hC dX8_canKeep_1 rfl (by decide) rfl rfl ?_
  refine g_sub [1, 2, 0] rfl ?_
  exact l_X8_canKeep_2 D cI aMO mFault amS mDays amH mLin amK amO amD mCool mReadAt mReadDays mReadLin amRS amRH amRK amRO amRD amDN amSN mDayNow mLast mTears mWrong amTF amTFor amWB mRdn amRdL amRdE amRdD amSz amLane amSh amHands mTrace mWB mTFor mO mS set hl5 hO4 hC hX (((4 : Int32).toInt - (0 : Int32).toInt).toNat + 1) (0 : Int32) mWB (Nat.lt_succ_self _) (by decide) hres
theorem iw_X8_keptNow_RX8 : ∀ w ∈ wsX80, w ∈ wsX8_keptNow := fun _ h => List.mem_cons_of_mem _ (List.mem_append_right _ (h))
def m_X8_keptNow_31 : Nat → Int32 → (Nat → Int32) → (Nat → Int32) → (Nat → Int32) → (Nat → Int32) → Int32 → Int32 → (Nat → Int32) → (Int32 × (Nat → Int32) × (Nat → Int32) × (Nat → Int32))
  | 0, _, _, _, _, _, _, _, _ => default
  | fu + 1, mLin, mO, mS, k_mTF, k_mTFor, y1, y2, z_mWB => (if ((1 : Int32) <<< (mLin &&& 31)) ≤ y2 then (y1, k_mTF, k_mTFor, z_mWB) else (if (m_X8_bits y2) ≤ (m_X8_bits y1) then (m_X8_keptNow_31 fu mLin mO mS k_mTF k_mTFor y1 (y2 + 1) z_mWB) else (m_X8_keptNow_31 fu mLin mO mS k_mTF k_mTFor (if (m_X8_canKeep mLin z_mWB k_mTFor mO mS y2).1 = 0 then y1 else y2) (y2 + 1) ((m_X8_canKeep mLin z_mWB k_mTFor mO mS y2).2))))
def m_X8_keptNow_2 : Nat → Int32 → Int32 → Int32 → (Nat → Int32) → (Nat → Int32) → (Nat → Int32) → (Nat → Int32) → (Nat → Int32) → (Nat → Int32) → Int32 → (Nat → Int32) → (Nat → Int32) → (Int32 × (Nat → Int32) × (Nat → Int32) × (Nat → Int32))
  | 0, _, _, _, _, _, _, _, _, _, _, _, _ => default
  | fu + 1, mDays, mLin, mCool, mH, mK, mD, mO, mS, k_mWB, y1, z_mTF, z_mTFor => (if mLin ≤ y1 then (m_X8_keptNow_31 ((((1 : Int32) <<< (mLin &&& 31)).toInt - (1 : Int32).toInt).toNat + 1) mLin mO mS z_mTF z_mTFor (0 : Int32) (1 : Int32) k_mWB) else (m_X8_keptNow_2 fu mDays mLin mCool mH mK mD mO mS k_mWB (y1 + 1) ((m_X8_tearsOf mDays mCool z_mTF mH mK mD y1).2) (upd z_mTFor y1.toNatClampNeg ((m_X8_tearsOf mDays mCool z_mTF mH mK mD y1).1))))
def m_X8_keptNow (mDays : Int32) (mLin : Int32) (mCool : Int32) (mTF : Nat → Int32) (mTFor : Nat → Int32) (mWB : Nat → Int32) (mH : Nat → Int32) (mK : Nat → Int32) (mD : Nat → Int32) (mO : Nat → Int32) (mS : Nat → Int32) : (Int32 × (Nat → Int32) × (Nat → Int32) × (Nat → Int32)) := (m_X8_keptNow_2 ((mLin.toInt - (0 : Int32).toInt).toNat + 1) mDays mLin mCool mH mK mD mO mS mWB (0 : Int32) mTF mTFor)
set_option maxRecDepth 100000 in
set_option maxHeartbeats 4000000 in
theorem l_X8_keptNow_31 {X : gX} (D : va_G) (cI : ClassId) (aMO : Nat) (mFault : Int32) (amS : Nat) (mDays : Int32) (amH : Nat) (mLin : Int32) (amK : Nat) (amO : Nat) (amD : Nat) (mCool : Int32) (mReadAt : Int32) (mReadDays : Int32) (mReadLin : Int32) (amRS : Nat) (amRH : Nat) (amRK : Nat) (amRO : Nat) (amRD : Nat) (amDN : Nat) (amSN : Nat) (mDayNow : Int32) (mLast : Int32) (mTears : Int32) (mWrong : Int32) (amTF : Nat) (amTFor : Nat) (amWB : Nat) (mRdn : Int32) (amRdL : Nat) (amRdE : Nat) (amRdD : Nat) (amSz : Nat) (amLane : Nat) (amSh : Nat) (amHands : Nat) (mTrace : Int32) (mTF : Nat → Int32) (mTFor : Nat → Int32) (mWB : Nat → Int32) (mH : Nat → Int32) (mK : Nat → Int32) (mD : Nat → Int32) (mO : Nat → Int32) (mS : Nat → Int32) (k_mTF : Nat → Int32) (k_mTFor : Nat → Int32) (hl5 : mLin.toInt ≤ 5) (hd6 : mDays.toInt ≤ 6) (hd0 : 0 ≤ mDays.toInt) (hH9 : ∀ j : Nat, 0 ≤ (mH j).toInt ∧ (mH j).toInt ≤ 9) (hD9 : ∀ j : Nat, 0 ≤ (mD j).toInt ∧ (mD j).toInt ≤ 9) (hO4 : ∀ j : Nat, vp_in (mO j) 4) (hC : Cx X cX8_keptNow 3 RX8 wsX8_keptNow D [(cI, .int)] ({ frames := 5, cells := 0, slots := 0, locals := 117 } : Room) (some .int)) {res : (Int32 × (Nat → Int32) × (Nat → Int32) × (Nat → Int32))} (hX : Rx X D (some (.int res.1)) [(aMO, .inr (8, [.int mFault, .ref amS, .int mDays, .ref amH, .int mLin, .ref amK, .ref amO, .ref amD, .int mCool, .int mReadAt, .int mReadDays, .int mReadLin, .ref amRS, .ref amRH, .ref amRK, .ref amRO, .ref amRD, .ref amDN, .ref amSN, .int mDayNow, .int mLast, .int mTears, .int mWrong, .ref amTF, .ref amTFor, .ref amWB, .int mRdn, .ref amRdL, .ref amRdE, .ref amRdD, .ref amSz, .ref amLane, .ref amSh, .ref amHands, .int mTrace])), (amTF, .inl (cI, 70, .inl res.2.1)), (amTFor, .inl (cI, 5, .inl res.2.2.1)), (amWB, .inl (cI, 4, .inl res.2.2.2)), (amH, .inl (cI, 6, .inl mH)), (amK, .inl (cI, 5, .inl mK)), (amD, .inl (cI, 5, .inl mD)), (amO, .inl (cI, 5, .inl mO)), (amS, .inl (cI, 4, .inl mS))]) : ∀ (fu : Nat) (y1 : Int32) (y2 : Int32) (z_mWB : Nat → Int32) (hm : (((1 : Int32) <<< (mLin &&& 31)).toInt - y2.toInt).toNat < fu) (h0_y2 : 0 ≤ y2.toInt) (hres : res = m_X8_keptNow_31 fu mLin mO mS k_mTF k_mTFor y1 y2 z_mWB), G X D 3 [(aMO, .inr (8, [.int mFault, .ref amS, .int mDays, .ref amH, .int mLin, .ref amK, .ref amO, .ref amD, .int mCool, .int mReadAt, .int mReadDays, .int mReadLin, .ref amRS, .ref amRH, .ref amRK, .ref amRO, .ref amRD, .ref amDN, .ref amSN, .int mDayNow, .int mLast, .int mTears, .int mWrong, .ref amTF, .ref amTFor, .ref amWB, .int mRdn, .ref amRdL, .ref amRdE, .ref amRdD, .ref amSz, .ref amLane, .ref amSh, .ref amHands, .int mTrace])), (amTF, .inl (cI, 70, .inl k_mTF)), (amTFor, .inl (cI, 5, .inl k_mTFor)), (amWB, .inl (cI, 4, .inl z_mWB)), (amH, .inl (cI, 6, .inl mH)), (amK, .inl (cI, 5, .inl mK)), (amD, .inl (cI, 5, .inl mD)), (amO, .inl (cI, 5, .inl mO)), (amS, .inl (cI, 4, .inl mS))] [(0, .ref aMO), (1, .int y1), (2, .int y2)] 31 [] := by
  intro fu
  induction fu with
  | zero =>
    intro y1 y2 z_mWB hm
    exact absurd hm (Nat.not_lt_zero _)
  | succ fu ih =>
    intro y1 y2 z_mWB hm h0_y2 hres
    rw [m_X8_keptNow_31] at hres
    refine g_iload_n hC dX8_keptNow_31 rfl 2 rfl rfl ?_
    refine g_iconst (v := 1) hC dX8_keptNow_32 (by decide) rfl ?_
    refine g_aload_n hC dX8_keptNow_33 rfl 0 rfl rfl ?_
    refine g_get hC iw_X8_keptNow_RX8 0 rfl rfl 4 (by decide) (List.mem_of_getElem? (i := 1) rfl) rfl rfl dX8_keptNow_34 rfl ?_
    refine g_ishl hC dX8_keptNow_37 rfl ?_
    refine g_icmp_ge (tgt := 72) hC dX8_keptNow_38 (by decide) rfl (fun c_38 => ?_) (fun c_38 => ?_)
    · rw [if_pos c_38] at hres
      refine g_iload_n hC dX8_keptNow_72 rfl 1 rfl rfl ?_
      subst hres
      exact g_iret hC hX rfl dX8_keptNow_73 rfl rfl
    · rw [if_neg c_38] at hres
      refine g_iload_n hC dX8_keptNow_41 rfl 2 rfl rfl ?_
      refine g_callS (ws' := [(aMO, .inr (8, [.int mFault, .ref amS, .int mDays, .ref amH, .int mLin, .ref amK, .ref amO, .ref amD, .int mCool, .int mReadAt, .int mReadDays, .int mReadLin, .ref amRS, .ref amRH, .ref amRK, .ref amRO, .ref amRD, .ref amDN, .ref amSN, .int mDayNow, .int mLast, .int mTears, .int mWrong, .ref amTF, .ref amTFor, .ref amWB, .int mRdn, .ref amRdL, .ref amRdE, .ref amRdD, .ref amSz, .ref amLane, .ref amSh, .ref amHands, .int mTrace])), (amTF, .inl (cI, 70, .inl k_mTF)), (amTFor, .inl (cI, 5, .inl k_mTFor)), (amWB, .inl (cI, 4, .inl z_mWB)), (amH, .inl (cI, 6, .inl mH)), (amK, .inl (cI, 5, .inl mK)), (amD, .inl (cI, 5, .inl mD)), (amO, .inl (cI, 5, .inl mO)), (amS, .inl (cI, 4, .inl mS))]) (st' := [.int (m_X8_bits y2)]) (nw := 9) (n1 := 0) hC gX8_keptNow_X8_bits hdS_yX8_bits (As := [.int y2]) (rest := []) (c_X8_bits D cI y2) rfl ⟨by decide, by decide⟩ rfl [] [0, 1, 2, 3, 4, 5, 6, 7, 8] [0, 1, 2, 3, 4, 5, 6, 7, 8] [0] rfl rfl rfl rfl (by decide) rfl rfl (Nat.le_of_ble_eq_true rfl) dX8_keptNow_42 rfl rfl ?_
      refine g_iload_n hC dX8_keptNow_45 rfl 1 rfl rfl ?_
      refine g_callS (ws' := [(aMO, .inr (8, [.int mFault, .ref amS, .int mDays, .ref amH, .int mLin, .ref amK, .ref amO, .ref amD, .int mCool, .int mReadAt, .int mReadDays, .int mReadLin, .ref amRS, .ref amRH, .ref amRK, .ref amRO, .ref amRD, .ref amDN, .ref amSN, .int mDayNow, .int mLast, .int mTears, .int mWrong, .ref amTF, .ref amTFor, .ref amWB, .int mRdn, .ref amRdL, .ref amRdE, .ref amRdD, .ref amSz, .ref amLane, .ref amSh, .ref amHands, .int mTrace])), (amTF, .inl (cI, 70, .inl k_mTF)), (amTFor, .inl (cI, 5, .inl k_mTFor)), (amWB, .inl (cI, 4, .inl z_mWB)), (amH, .inl (cI, 6, .inl mH)), (amK, .inl (cI, 5, .inl mK)), (amD, .inl (cI, 5, .inl mD)), (amO, .inl (cI, 5, .inl mO)), (amS, .inl (cI, 4, .inl mS))]) (st' := [.int (m_X8_bits y1), .int (m_X8_bits y2)]) (nw := 9) (n1 := 0) hC gX8_keptNow_X8_bits hdS_yX8_bits (As := [.int y1]) (rest := [.int (m_X8_bits y2)]) (c_X8_bits D cI y1) rfl ⟨by decide, by decide⟩ rfl [] [0, 1, 2, 3, 4, 5, 6, 7, 8] [0, 1, 2, 3, 4, 5, 6, 7, 8] [0] rfl rfl rfl rfl (by decide) rfl rfl (Nat.le_of_ble_eq_true rfl) dX8_keptNow_46 rfl rfl ?_
      refine g_icmp_le (tgt := 64) hC dX8_keptNow_49 (by decide) rfl (fun c_49 => ?_) (fun c_49 => ?_)
      · rw [if_pos c_49] at hres
        refine g_iload_n hC dX8_keptNow_64 rfl 1 rfl rfl ?_
        refine g_istore_n (lv' := [(1, .int y1), (0, .ref aMO), (2, .int y2)]) hC dX8_keptNow_65 rfl (by decide) rfl rfl ?_
        refine g_iinc (v := (y2 + 1)) (lv' := [(2, .int (y2 + 1)), (1, .int y1), (0, .ref aMO)]) hC dX8_keptNow_66 2 rfl rfl (by decide) rfl rfl ?_
        refine g_goto (tgt := 31) hC dX8_keptNow_69 (by decide) ?_
        refine g_sub [2, 1, 0] rfl ?_
        exact ih y1 (y2 + 1) z_mWB (up_dec c_38 hm) (up_nn c_38 h0_y2) hres
      · rw [if_neg c_49] at hres
        refine g_aload_n hC dX8_keptNow_52 rfl 0 rfl rfl ?_
        refine g_iload_n hC dX8_keptNow_53 rfl 2 rfl rfl ?_
        refine g_callV (ws' := [(aMO, .inr (8, [.int mFault, .ref amS, .int mDays, .ref amH, .int mLin, .ref amK, .ref amO, .ref amD, .int mCool, .int mReadAt, .int mReadDays, .int mReadLin, .ref amRS, .ref amRH, .ref amRK, .ref amRO, .ref amRD, .ref amDN, .ref amSN, .int mDayNow, .int mLast, .int mTears, .int mWrong, .ref amTF, .ref amTFor, .ref amWB, .int mRdn, .ref amRdL, .ref amRdE, .ref amRdD, .ref amSz, .ref amLane, .ref amSh, .ref amHands, .int mTrace])), (amTF, .inl (cI, 70, .inl k_mTF)), (amTFor, .inl (cI, 5, .inl k_mTFor)), (amWB, .inl (cI, 4, .inl ((m_X8_canKeep mLin z_mWB k_mTFor mO mS y2).2))), (amH, .inl (cI, 6, .inl mH)), (amK, .inl (cI, 5, .inl mK)), (amD, .inl (cI, 5, .inl mD)), (amO, .inl (cI, 5, .inl mO)), (amS, .inl (cI, 4, .inl mS))]) (st' := [.int ((m_X8_canKeep mLin z_mWB k_mTFor mO mS y2).1)]) (nw := 9) (n1 := 5) hC gX8_keptNow_X8_canKeep hdV_yX8_canKeep 0 rfl rfl (As := [.int y2]) (rest := []) (c_X8_canKeep D cI aMO mFault amS mDays amH mLin amK amO amD mCool mReadAt mReadDays mReadLin amRS amRH amRK amRO amRD amDN amSN mDayNow mLast mTears mWrong amTF amTFor amWB mRdn amRdL amRdE amRdD amSz amLane amSh amHands mTrace z_mWB k_mTFor mO mS y2 (by exact hl5) (by exact hO4)) rfl ⟨by decide, by decide⟩ rfl [0, 3, 2, 7, 8] [1, 4, 5, 6] [4, 0, 6, 5, 1, 2, 3, 7, 8] [0] rfl rfl rfl rfl (by decide) rfl rfl (Nat.le_of_ble_eq_true rfl) dX8_keptNow_54 rfl rfl ?_
        have K_57 : ∀ vK : Int32, vK = (if (m_X8_canKeep mLin z_mWB k_mTFor mO mS y2).1 = 0 then y1 else y2) → G X D 3 [(aMO, .inr (8, [.int mFault, .ref amS, .int mDays, .ref amH, .int mLin, .ref amK, .ref amO, .ref amD, .int mCool, .int mReadAt, .int mReadDays, .int mReadLin, .ref amRS, .ref amRH, .ref amRK, .ref amRO, .ref amRD, .ref amDN, .ref amSN, .int mDayNow, .int mLast, .int mTears, .int mWrong, .ref amTF, .ref amTFor, .ref amWB, .int mRdn, .ref amRdL, .ref amRdE, .ref amRdD, .ref amSz, .ref amLane, .ref amSh, .ref amHands, .int mTrace])), (amTF, .inl (cI, 70, .inl k_mTF)), (amTFor, .inl (cI, 5, .inl k_mTFor)), (amWB, .inl (cI, 4, .inl ((m_X8_canKeep mLin z_mWB k_mTFor mO mS y2).2))), (amH, .inl (cI, 6, .inl mH)), (amK, .inl (cI, 5, .inl mK)), (amD, .inl (cI, 5, .inl mD)), (amO, .inl (cI, 5, .inl mO)), (amS, .inl (cI, 4, .inl mS))] [(0, .ref aMO), (1, .int y1), (2, .int y2)] 65 (.int vK :: []) := by
          intro vK hvK
          subst hvK
          refine g_istore_n (lv' := [(1, .int (if (m_X8_canKeep mLin z_mWB k_mTFor mO mS y2).1 = 0 then y1 else y2)), (0, .ref aMO), (2, .int y2)]) hC dX8_keptNow_65 rfl (by decide) rfl rfl ?_
          refine g_iinc (v := (y2 + 1)) (lv' := [(2, .int (y2 + 1)), (1, .int (if (m_X8_canKeep mLin z_mWB k_mTFor mO mS y2).1 = 0 then y1 else y2)), (0, .ref aMO)]) hC dX8_keptNow_66 2 rfl rfl (by decide) rfl rfl ?_
          refine g_goto (tgt := 31) hC dX8_keptNow_69 (by decide) ?_
          refine g_sub [2, 1, 0] rfl ?_
          exact ih (if (m_X8_canKeep mLin z_mWB k_mTFor mO mS y2).1 = 0 then y1 else y2) (y2 + 1) ((m_X8_canKeep mLin z_mWB k_mTFor mO mS y2).2) (up_dec c_38 hm) (up_nn c_38 h0_y2) hres
        refine g_if_eq (tgt := 64) hC dX8_keptNow_57 (by decide) rfl (fun c_57 => ?_) (fun c_57 => ?_)
        · refine g_iload_n hC dX8_keptNow_64 rfl 1 rfl rfl ?_
          exact K_57 _ (if_pos c_57).symm
        · refine g_iload_n hC dX8_keptNow_60 rfl 2 rfl rfl ?_
          refine g_goto (tgt := 65) hC dX8_keptNow_61 (by decide) ?_
          exact K_57 _ (if_neg c_57).symm
set_option maxRecDepth 100000 in
set_option maxHeartbeats 4000000 in
theorem l_X8_keptNow_2 {X : gX} (D : va_G) (cI : ClassId) (aMO : Nat) (mFault : Int32) (amS : Nat) (mDays : Int32) (amH : Nat) (mLin : Int32) (amK : Nat) (amO : Nat) (amD : Nat) (mCool : Int32) (mReadAt : Int32) (mReadDays : Int32) (mReadLin : Int32) (amRS : Nat) (amRH : Nat) (amRK : Nat) (amRO : Nat) (amRD : Nat) (amDN : Nat) (amSN : Nat) (mDayNow : Int32) (mLast : Int32) (mTears : Int32) (mWrong : Int32) (amTF : Nat) (amTFor : Nat) (amWB : Nat) (mRdn : Int32) (amRdL : Nat) (amRdE : Nat) (amRdD : Nat) (amSz : Nat) (amLane : Nat) (amSh : Nat) (amHands : Nat) (mTrace : Int32) (mTF : Nat → Int32) (mTFor : Nat → Int32) (mWB : Nat → Int32) (mH : Nat → Int32) (mK : Nat → Int32) (mD : Nat → Int32) (mO : Nat → Int32) (mS : Nat → Int32) (k_mWB : Nat → Int32) (hl5 : mLin.toInt ≤ 5) (hd6 : mDays.toInt ≤ 6) (hd0 : 0 ≤ mDays.toInt) (hH9 : ∀ j : Nat, 0 ≤ (mH j).toInt ∧ (mH j).toInt ≤ 9) (hD9 : ∀ j : Nat, 0 ≤ (mD j).toInt ∧ (mD j).toInt ≤ 9) (hO4 : ∀ j : Nat, vp_in (mO j) 4) (hC : Cx X cX8_keptNow 3 RX8 wsX8_keptNow D [(cI, .int)] ({ frames := 5, cells := 0, slots := 0, locals := 117 } : Room) (some .int)) {res : (Int32 × (Nat → Int32) × (Nat → Int32) × (Nat → Int32))} (hX : Rx X D (some (.int res.1)) [(aMO, .inr (8, [.int mFault, .ref amS, .int mDays, .ref amH, .int mLin, .ref amK, .ref amO, .ref amD, .int mCool, .int mReadAt, .int mReadDays, .int mReadLin, .ref amRS, .ref amRH, .ref amRK, .ref amRO, .ref amRD, .ref amDN, .ref amSN, .int mDayNow, .int mLast, .int mTears, .int mWrong, .ref amTF, .ref amTFor, .ref amWB, .int mRdn, .ref amRdL, .ref amRdE, .ref amRdD, .ref amSz, .ref amLane, .ref amSh, .ref amHands, .int mTrace])), (amTF, .inl (cI, 70, .inl res.2.1)), (amTFor, .inl (cI, 5, .inl res.2.2.1)), (amWB, .inl (cI, 4, .inl res.2.2.2)), (amH, .inl (cI, 6, .inl mH)), (amK, .inl (cI, 5, .inl mK)), (amD, .inl (cI, 5, .inl mD)), (amO, .inl (cI, 5, .inl mO)), (amS, .inl (cI, 4, .inl mS))]) : ∀ (fu : Nat) (y1 : Int32) (z_mTF : Nat → Int32) (z_mTFor : Nat → Int32) (hm : (mLin.toInt - y1.toInt).toNat < fu) (h0_y1 : 0 ≤ y1.toInt) (hres : res = m_X8_keptNow_2 fu mDays mLin mCool mH mK mD mO mS k_mWB y1 z_mTF z_mTFor), G X D 3 [(aMO, .inr (8, [.int mFault, .ref amS, .int mDays, .ref amH, .int mLin, .ref amK, .ref amO, .ref amD, .int mCool, .int mReadAt, .int mReadDays, .int mReadLin, .ref amRS, .ref amRH, .ref amRK, .ref amRO, .ref amRD, .ref amDN, .ref amSN, .int mDayNow, .int mLast, .int mTears, .int mWrong, .ref amTF, .ref amTFor, .ref amWB, .int mRdn, .ref amRdL, .ref amRdE, .ref amRdD, .ref amSz, .ref amLane, .ref amSh, .ref amHands, .int mTrace])), (amTF, .inl (cI, 70, .inl z_mTF)), (amTFor, .inl (cI, 5, .inl z_mTFor)), (amWB, .inl (cI, 4, .inl k_mWB)), (amH, .inl (cI, 6, .inl mH)), (amK, .inl (cI, 5, .inl mK)), (amD, .inl (cI, 5, .inl mD)), (amO, .inl (cI, 5, .inl mO)), (amS, .inl (cI, 4, .inl mS))] [(0, .ref aMO), (1, .int y1)] 2 [] := by
  intro fu
  induction fu with
  | zero =>
    intro y1 z_mTF z_mTFor hm
    exact absurd hm (Nat.not_lt_zero _)
  | succ fu ih =>
    intro y1 z_mTF z_mTFor hm h0_y1 hres
    rw [m_X8_keptNow_2] at hres
    refine g_iload_n hC dX8_keptNow_2 rfl 1 rfl rfl ?_
    refine g_aload_n hC dX8_keptNow_3 rfl 0 rfl rfl ?_
    refine g_get hC iw_X8_keptNow_RX8 0 rfl rfl 4 (by decide) (List.mem_of_getElem? (i := 1) rfl) rfl rfl dX8_keptNow_4 rfl ?_
    refine g_icmp_ge (tgt := 27) hC dX8_keptNow_7 (by decide) rfl (fun c_7 => ?_) (fun c_7 => ?_)
    · rw [if_pos c_7] at hres
      refine g_iconst (v := 0) hC dX8_keptNow_27 (by decide) rfl ?_
      refine g_istore_n (lv' := [(1, .int (0 : Int32)), (0, .ref aMO)]) hC dX8_keptNow_28 rfl (by decide) rfl rfl ?_
      refine g_iconst (v := 1) hC dX8_keptNow_29 (by decide) rfl ?_
      refine g_istore_n (lv' := [(2, .int (1 : Int32)), (1, .int (0 : Int32)), (0, .ref aMO)]) hC dX8_keptNow_30 rfl (by decide) rfl rfl ?_
      refine g_sub [2, 1, 0] rfl ?_
      exact l_X8_keptNow_31 D cI aMO mFault amS mDays amH mLin amK amO amD mCool mReadAt mReadDays mReadLin amRS amRH amRK amRO amRD amDN amSN mDayNow mLast mTears mWrong amTF amTFor amWB mRdn amRdL amRdE amRdD amSz amLane amSh amHands mTrace mTF mTFor mWB mH mK mD mO mS z_mTF z_mTFor hl5 hd6 hd0 hH9 hD9 hO4 hC hX ((((1 : Int32) <<< (mLin &&& 31)).toInt - (1 : Int32).toInt).toNat + 1) (0 : Int32) (1 : Int32) k_mWB (Nat.lt_succ_self _) (by decide) hres
    · rw [if_neg c_7] at hres
      refine g_aload_n hC dX8_keptNow_10 rfl 0 rfl rfl ?_
      refine g_get hC iw_X8_keptNow_RX8 0 rfl rfl 24 (by decide) (List.mem_of_getElem? (i := 2) rfl) rfl rfl dX8_keptNow_11 rfl ?_
      refine g_iload_n hC dX8_keptNow_14 rfl 1 rfl rfl ?_
      refine g_aload_n hC dX8_keptNow_15 rfl 0 rfl rfl ?_
      refine g_iload_n hC dX8_keptNow_16 rfl 1 rfl rfl ?_
      refine g_callV (ws' := [(aMO, .inr (8, [.int mFault, .ref amS, .int mDays, .ref amH, .int mLin, .ref amK, .ref amO, .ref amD, .int mCool, .int mReadAt, .int mReadDays, .int mReadLin, .ref amRS, .ref amRH, .ref amRK, .ref amRO, .ref amRD, .ref amDN, .ref amSN, .int mDayNow, .int mLast, .int mTears, .int mWrong, .ref amTF, .ref amTFor, .ref amWB, .int mRdn, .ref amRdL, .ref amRdE, .ref amRdD, .ref amSz, .ref amLane, .ref amSh, .ref amHands, .int mTrace])), (amTF, .inl (cI, 70, .inl ((m_X8_tearsOf mDays mCool z_mTF mH mK mD y1).2))), (amTFor, .inl (cI, 5, .inl z_mTFor)), (amWB, .inl (cI, 4, .inl k_mWB)), (amH, .inl (cI, 6, .inl mH)), (amK, .inl (cI, 5, .inl mK)), (amD, .inl (cI, 5, .inl mD)), (amO, .inl (cI, 5, .inl mO)), (amS, .inl (cI, 4, .inl mS))]) (st' := [.int ((m_X8_tearsOf mDays mCool z_mTF mH mK mD y1).1), .int y1, .ref amTFor]) (nw := 9) (n1 := 5) hC gX8_keptNow_X8_tearsOf hdV_yX8_tearsOf 0 rfl rfl (As := [.int y1]) (rest := [.int y1, .ref amTFor]) (c_X8_tearsOf D cI aMO mFault amS mDays amH mLin amK amO amD mCool mReadAt mReadDays mReadLin amRS amRH amRK amRO amRD amDN amSN mDayNow mLast mTears mWrong amTF amTFor amWB mRdn amRdL amRdE amRdD amSz amLane amSh amHands mTrace z_mTF mH mK mD y1 (by exact in_up h0_y1 c_7 hl5) (by exact hd6) (by exact hd0) (by exact hH9) (by exact hD9)) rfl ⟨by decide, by decide⟩ rfl [0, 1, 4, 5, 6] [2, 3, 7, 8] [4, 5, 0, 1, 6, 7, 8, 2, 3] [0] rfl rfl rfl rfl (by decide) rfl rfl (Nat.le_of_ble_eq_true rfl) dX8_keptNow_17 rfl rfl ?_
      refine g_iast (ws' := [(aMO, .inr (8, [.int mFault, .ref amS, .int mDays, .ref amH, .int mLin, .ref amK, .ref amO, .ref amD, .int mCool, .int mReadAt, .int mReadDays, .int mReadLin, .ref amRS, .ref amRH, .ref amRK, .ref amRO, .ref amRD, .ref amDN, .ref amSN, .int mDayNow, .int mLast, .int mTears, .int mWrong, .ref amTF, .ref amTFor, .ref amWB, .int mRdn, .ref amRdL, .ref amRdE, .ref amRdD, .ref amSz, .ref amLane, .ref amSh, .ref amHands, .int mTrace])), (amTF, .inl (cI, 70, .inl ((m_X8_tearsOf mDays mCool z_mTF mH mK mD y1).2))), (amTFor, .inl (cI, 5, .inl (upd z_mTFor y1.toNatClampNeg ((m_X8_tearsOf mDays mCool z_mTF mH mK mD y1).1)))), (amWB, .inl (cI, 4, .inl k_mWB)), (amH, .inl (cI, 6, .inl mH)), (amK, .inl (cI, 5, .inl mK)), (amD, .inl (cI, 5, .inl mD)), (amO, .inl (cI, 5, .inl mO)), (amS, .inl (cI, 4, .inl mS))]) hC 2 0 rfl rfl (by exact in_up h0_y1 c_7 hl5) rfl dX8_keptNow_20 rfl ?_
      refine g_iinc (v := (y1 + 1)) (lv' := [(1, .int (y1 + 1)), (0, .ref aMO)]) hC dX8_keptNow_21 1 rfl rfl (by decide) rfl rfl ?_
      refine g_goto (tgt := 2) hC dX8_keptNow_24 (by decide) ?_
      refine g_sub [1, 0] rfl ?_
      exact ih (y1 + 1) ((m_X8_tearsOf mDays mCool z_mTF mH mK mD y1).2) (upd z_mTFor y1.toNatClampNeg ((m_X8_tearsOf mDays mCool z_mTF mH mK mD y1).1)) (up_dec c_7 hm) (up_nn c_7 h0_y1) hres
set_option maxRecDepth 100000 in
set_option maxHeartbeats 4000000 in
theorem c_X8_keptNow (D : va_G) (cI : ClassId) (aMO : Nat) (mFault : Int32) (amS : Nat) (mDays : Int32) (amH : Nat) (mLin : Int32) (amK : Nat) (amO : Nat) (amD : Nat) (mCool : Int32) (mReadAt : Int32) (mReadDays : Int32) (mReadLin : Int32) (amRS : Nat) (amRH : Nat) (amRK : Nat) (amRO : Nat) (amRD : Nat) (amDN : Nat) (amSN : Nat) (mDayNow : Int32) (mLast : Int32) (mTears : Int32) (mWrong : Int32) (amTF : Nat) (amTFor : Nat) (amWB : Nat) (mRdn : Int32) (amRdL : Nat) (amRdE : Nat) (amRdD : Nat) (amSz : Nat) (amLane : Nat) (amSh : Nat) (amHands : Nat) (mTrace : Int32) (mTF : Nat → Int32) (mTFor : Nat → Int32) (mWB : Nat → Int32) (mH : Nat → Int32) (mK : Nat → Int32) (mD : Nat → Int32) (mO : Nat → Int32) (mS : Nat → Int32) (hl5 : mLin.toInt ≤ 5) (hd6 : mDays.toInt ≤ 6) (hd0 : 0 ≤ mDays.toInt) (hH9 : ∀ j : Nat, 0 ≤ (mH j).toInt ∧ (mH j).toInt ≤ 9) (hD9 : ∀ j : Nat, 0 ≤ (mD j).toInt ∧ (mD j).toInt ≤ 9) (hO4 : ∀ j : Nat, vp_in (mO j) 4) : MC yX8_keptNow wsX8_keptNow ({ frames := 5, cells := 0, slots := 0, locals := 117 } : Room) D [(cI, .int)] [.ref aMO] [(aMO, .inr (8, [.int mFault, .ref amS, .int mDays, .ref amH, .int mLin, .ref amK, .ref amO, .ref amD, .int mCool, .int mReadAt, .int mReadDays, .int mReadLin, .ref amRS, .ref amRH, .ref amRK, .ref amRO, .ref amRD, .ref amDN, .ref amSN, .int mDayNow, .int mLast, .int mTears, .int mWrong, .ref amTF, .ref amTFor, .ref amWB, .int mRdn, .ref amRdL, .ref amRdE, .ref amRdD, .ref amSz, .ref amLane, .ref amSh, .ref amHands, .int mTrace])), (amTF, .inl (cI, 70, .inl mTF)), (amTFor, .inl (cI, 5, .inl mTFor)), (amWB, .inl (cI, 4, .inl mWB)), (amH, .inl (cI, 6, .inl mH)), (amK, .inl (cI, 5, .inl mK)), (amD, .inl (cI, 5, .inl mD)), (amO, .inl (cI, 5, .inl mO)), (amS, .inl (cI, 4, .inl mS))] (some (.int ((m_X8_keptNow mDays mLin mCool mTF mTFor mWB mH mK mD mO mS).1))) [(aMO, .inr (8, [.int mFault, .ref amS, .int mDays, .ref amH, .int mLin, .ref amK, .ref amO, .ref amD, .int mCool, .int mReadAt, .int mReadDays, .int mReadLin, .ref amRS, .ref amRH, .ref amRK, .ref amRO, .ref amRD, .ref amDN, .ref amSN, .int mDayNow, .int mLast, .int mTears, .int mWrong, .ref amTF, .ref amTFor, .ref amWB, .int mRdn, .ref amRdL, .ref amRdE, .ref amRdD, .ref amSz, .ref amLane, .ref amSh, .ref amHands, .int mTrace])), (amTF, .inl (cI, 70, .inl ((m_X8_keptNow mDays mLin mCool mTF mTFor mWB mH mK mD mO mS).2.1))), (amTFor, .inl (cI, 5, .inl ((m_X8_keptNow mDays mLin mCool mTF mTFor mWB mH mK mD mO mS).2.2.1))), (amWB, .inl (cI, 4, .inl ((m_X8_keptNow mDays mLin mCool mTF mTFor mWB mH mK mD mO mS).2.2.2))), (amH, .inl (cI, 6, .inl mH)), (amK, .inl (cI, 5, .inl mK)), (amD, .inl (cI, 5, .inl mD)), (amO, .inl (cI, 5, .inl mO)), (amS, .inl (cI, 4, .inl mS))] := by
  refine g_entry (by decide) rfl rfl rfl rfl (Nat.le_of_ble_eq_true rfl) (lv := [(0, .ref aMO)]) rfl ?_
  intro X hC hX
  obtain ⟨res, hres⟩ : ∃ z, z = (m_X8_keptNow mDays mLin mCool mTF mTFor mWB mH mK mD mO mS) := ⟨_, rfl⟩
  rw [← hres] at hX
  rw [m_X8_keptNow] at hres
  refine g_iconst (v := 0) hC dX8_keptNow_0 (by decide) rfl ?_
  refine g_istore_n (lv' := [(1, .int (0 : Int32)), (0, .ref aMO)]) hC dX8_keptNow_1 rfl (by decide) rfl rfl ?_
  refine g_sub [1, 0] rfl ?_
  exact l_X8_keptNow_2 D cI aMO mFault amS mDays amH mLin amK amO amD mCool mReadAt mReadDays mReadLin amRS amRH amRK amRO amRD amDN amSN mDayNow mLast mTears mWrong amTF amTFor amWB mRdn amRdL amRdE amRdD amSz amLane amSh amHands mTrace mTF mTFor mWB mH mK mD mO mS mWB hl5 hd6 hd0 hH9 hD9 hO4 hC hX ((mLin.toInt - (0 : Int32).toInt).toNat + 1) (0 : Int32) mTF mTFor (Nat.lt_succ_self _) (by decide) hres
theorem iw_X8_keep_RX8 : ∀ w ∈ wsX80, w ∈ wsX8_keep := fun _ h => List.mem_cons_of_mem _ (List.mem_append_right _ (h))
def m_X8_keep (mDays : Int32) (mLin : Int32) (mCool : Int32) (mTF : Nat → Int32) (mTFor : Nat → Int32) (mWB : Nat → Int32) (mH : Nat → Int32) (mK : Nat → Int32) (mD : Nat → Int32) (mO : Nat → Int32) (mS : Nat → Int32) : (Int32 × (Nat → Int32) × (Nat → Int32) × (Nat → Int32)) := (if mLin = 0 then ((-3 : Int32), mTF, mTFor, mWB) else ((m_X8_keptNow mDays mLin mCool mTF mTFor mWB mH mK mD mO mS).1, (m_X8_keptNow mDays mLin mCool mTF mTFor mWB mH mK mD mO mS).2.1, (m_X8_keptNow mDays mLin mCool mTF mTFor mWB mH mK mD mO mS).2.2.1, (m_X8_keptNow mDays mLin mCool mTF mTFor mWB mH mK mD mO mS).2.2.2))
set_option maxRecDepth 100000 in
set_option maxHeartbeats 4000000 in
theorem c_X8_keep (D : va_G) (cI : ClassId) (aMO : Nat) (mFault : Int32) (amS : Nat) (mDays : Int32) (amH : Nat) (mLin : Int32) (amK : Nat) (amO : Nat) (amD : Nat) (mCool : Int32) (mReadAt : Int32) (mReadDays : Int32) (mReadLin : Int32) (amRS : Nat) (amRH : Nat) (amRK : Nat) (amRO : Nat) (amRD : Nat) (amDN : Nat) (amSN : Nat) (mDayNow : Int32) (mLast : Int32) (mTears : Int32) (mWrong : Int32) (amTF : Nat) (amTFor : Nat) (amWB : Nat) (mRdn : Int32) (amRdL : Nat) (amRdE : Nat) (amRdD : Nat) (amSz : Nat) (amLane : Nat) (amSh : Nat) (amHands : Nat) (mTrace : Int32) (mTF : Nat → Int32) (mTFor : Nat → Int32) (mWB : Nat → Int32) (mH : Nat → Int32) (mK : Nat → Int32) (mD : Nat → Int32) (mO : Nat → Int32) (mS : Nat → Int32) (hl5 : mLin.toInt ≤ 5) (hd6 : mDays.toInt ≤ 6) (hd0 : 0 ≤ mDays.toInt) (hH9 : ∀ j : Nat, 0 ≤ (mH j).toInt ∧ (mH j).toInt ≤ 9) (hD9 : ∀ j : Nat, 0 ≤ (mD j).toInt ∧ (mD j).toInt ≤ 9) (hO4 : ∀ j : Nat, vp_in (mO j) 4) : MC yX8_keep wsX8_keep ({ frames := 6, cells := 0, slots := 0, locals := 139 } : Room) D [(cI, .int)] [.ref aMO] [(aMO, .inr (8, [.int mFault, .ref amS, .int mDays, .ref amH, .int mLin, .ref amK, .ref amO, .ref amD, .int mCool, .int mReadAt, .int mReadDays, .int mReadLin, .ref amRS, .ref amRH, .ref amRK, .ref amRO, .ref amRD, .ref amDN, .ref amSN, .int mDayNow, .int mLast, .int mTears, .int mWrong, .ref amTF, .ref amTFor, .ref amWB, .int mRdn, .ref amRdL, .ref amRdE, .ref amRdD, .ref amSz, .ref amLane, .ref amSh, .ref amHands, .int mTrace])), (amTF, .inl (cI, 70, .inl mTF)), (amTFor, .inl (cI, 5, .inl mTFor)), (amWB, .inl (cI, 4, .inl mWB)), (amH, .inl (cI, 6, .inl mH)), (amK, .inl (cI, 5, .inl mK)), (amD, .inl (cI, 5, .inl mD)), (amO, .inl (cI, 5, .inl mO)), (amS, .inl (cI, 4, .inl mS))] (some (.int ((m_X8_keep mDays mLin mCool mTF mTFor mWB mH mK mD mO mS).1))) [(aMO, .inr (8, [.int mFault, .ref amS, .int mDays, .ref amH, .int mLin, .ref amK, .ref amO, .ref amD, .int mCool, .int mReadAt, .int mReadDays, .int mReadLin, .ref amRS, .ref amRH, .ref amRK, .ref amRO, .ref amRD, .ref amDN, .ref amSN, .int mDayNow, .int mLast, .int mTears, .int mWrong, .ref amTF, .ref amTFor, .ref amWB, .int mRdn, .ref amRdL, .ref amRdE, .ref amRdD, .ref amSz, .ref amLane, .ref amSh, .ref amHands, .int mTrace])), (amTF, .inl (cI, 70, .inl ((m_X8_keep mDays mLin mCool mTF mTFor mWB mH mK mD mO mS).2.1))), (amTFor, .inl (cI, 5, .inl ((m_X8_keep mDays mLin mCool mTF mTFor mWB mH mK mD mO mS).2.2.1))), (amWB, .inl (cI, 4, .inl ((m_X8_keep mDays mLin mCool mTF mTFor mWB mH mK mD mO mS).2.2.2))), (amH, .inl (cI, 6, .inl mH)), (amK, .inl (cI, 5, .inl mK)), (amD, .inl (cI, 5, .inl mD)), (amO, .inl (cI, 5, .inl mO)), (amS, .inl (cI, 4, .inl mS))] := by
  refine g_entry (by decide) rfl rfl rfl rfl (Nat.le_of_ble_eq_true rfl) (lv := [(0, .ref aMO)]) rfl ?_
  intro X hC hX
  obtain ⟨res, hres⟩ : ∃ z, z = (m_X8_keep mDays mLin mCool mTF mTFor mWB mH mK mD mO mS) := ⟨_, rfl⟩
  rw [← hres] at hX
  rw [m_X8_keep] at hres
  refine g_aload_n hC dX8_keep_0 rfl 0 rfl rfl ?_
  refine g_get hC iw_X8_keep_RX8 0 rfl rfl 4 (by decide) (List.mem_of_getElem? (i := 1) rfl) rfl rfl dX8_keep_1 rfl ?_
  refine g_if_ne (tgt := 12) hC dX8_keep_4 (by decide) rfl (fun c_4 => ?_) (fun c_4 => ?_)
  · rw [if_neg c_4] at hres
    refine g_aload_n hC dX8_keep_12 rfl 0 rfl rfl ?_
    refine g_callV (ws' := [(aMO, .inr (8, [.int mFault, .ref amS, .int mDays, .ref amH, .int mLin, .ref amK, .ref amO, .ref amD, .int mCool, .int mReadAt, .int mReadDays, .int mReadLin, .ref amRS, .ref amRH, .ref amRK, .ref amRO, .ref amRD, .ref amDN, .ref amSN, .int mDayNow, .int mLast, .int mTears, .int mWrong, .ref amTF, .ref amTFor, .ref amWB, .int mRdn, .ref amRdL, .ref amRdE, .ref amRdD, .ref amSz, .ref amLane, .ref amSh, .ref amHands, .int mTrace])), (amTF, .inl (cI, 70, .inl ((m_X8_keptNow mDays mLin mCool mTF mTFor mWB mH mK mD mO mS).2.1))), (amTFor, .inl (cI, 5, .inl ((m_X8_keptNow mDays mLin mCool mTF mTFor mWB mH mK mD mO mS).2.2.1))), (amWB, .inl (cI, 4, .inl ((m_X8_keptNow mDays mLin mCool mTF mTFor mWB mH mK mD mO mS).2.2.2))), (amH, .inl (cI, 6, .inl mH)), (amK, .inl (cI, 5, .inl mK)), (amD, .inl (cI, 5, .inl mD)), (amO, .inl (cI, 5, .inl mO)), (amS, .inl (cI, 4, .inl mS))]) (st' := [.int ((m_X8_keptNow mDays mLin mCool mTF mTFor mWB mH mK mD mO mS).1)]) (nw := 9) (n1 := 9) hC gX8_keep_X8_keptNow hdV_yX8_keptNow 0 rfl rfl (As := []) (rest := []) (c_X8_keptNow D cI aMO mFault amS mDays amH mLin amK amO amD mCool mReadAt mReadDays mReadLin amRS amRH amRK amRO amRD amDN amSN mDayNow mLast mTears mWrong amTF amTFor amWB mRdn amRdL amRdE amRdD amSz amLane amSh amHands mTrace mTF mTFor mWB mH mK mD mO mS (by exact hl5) (by exact hd6) (by exact hd0) (by exact hH9) (by exact hD9) (by exact hO4)) rfl ⟨by decide, by decide⟩ rfl [0, 1, 2, 3, 4, 5, 6, 7, 8] [] [0, 1, 2, 3, 4, 5, 6, 7, 8] [0] rfl rfl rfl rfl (by decide) rfl rfl (Nat.le_of_ble_eq_true rfl) dX8_keep_13 rfl rfl ?_
    subst hres
    exact g_iret hC hX rfl dX8_keep_16 rfl rfl
  · rw [if_pos c_4] at hres
    refine g_bipush (v := -3) hC dX8_keep_7 (by decide) rfl ?_
    refine g_goto (tgt := 16) hC dX8_keep_9 (by decide) ?_
    subst hres
    exact g_iret hC hX rfl dX8_keep_16 rfl rfl
theorem iw_X8_appoint_RX8 : ∀ w ∈ wsX80, w ∈ wsX8_appoint := fun _ h => List.mem_cons_of_mem _ (List.mem_append_right _ (h))
def m_X8_appoint_25 : Nat → Int32 → Int32 → Int32 → (Nat → Int32) → (Nat → Int32) → (Nat → Int32) → (Nat → Int32) → (Nat → Int32) → Int32 → Int32 → Int32 → Int32 → (Nat → Int32) → (Nat → Int32) → (Nat → Int32) → (Nat → Int32) → (Int32 × (Nat → Int32) × (Nat → Int32) × (Nat → Int32) × (Nat → Int32))
  | 0, _, _, _, _, _, _, _, _, _, _, _, _, _, _, _, _ => default
  | fu + 1, mDays, mLin, mCool, mH, mK, mD, mO, mS, l, y3, y4, y5, z_mTF, z_mTFor, z_mWB, z_mO => (if (4 : Int32) ≤ y5 then (y3, z_mTF, z_mTFor, z_mWB, (upd z_mO l.toNatClampNeg (mO l.toNatClampNeg))) else (m_X8_appoint_25 fu mDays mLin mCool mH mK mD mO mS l (if (m_X8_bits ((m_X8_keptNow mDays mLin mCool z_mTF z_mTFor z_mWB mH mK mD (upd z_mO l.toNatClampNeg y5) mS).1)) ≤ y4 then y3 else y5) (if (m_X8_bits ((m_X8_keptNow mDays mLin mCool z_mTF z_mTFor z_mWB mH mK mD (upd z_mO l.toNatClampNeg y5) mS).1)) ≤ y4 then y4 else (m_X8_bits ((m_X8_keptNow mDays mLin mCool z_mTF z_mTFor z_mWB mH mK mD (upd z_mO l.toNatClampNeg y5) mS).1))) (y5 + 1) ((m_X8_keptNow mDays mLin mCool z_mTF z_mTFor z_mWB mH mK mD (upd z_mO l.toNatClampNeg y5) mS).2.1) ((m_X8_keptNow mDays mLin mCool z_mTF z_mTFor z_mWB mH mK mD (upd z_mO l.toNatClampNeg y5) mS).2.2.1) ((m_X8_keptNow mDays mLin mCool z_mTF z_mTFor z_mWB mH mK mD (upd z_mO l.toNatClampNeg y5) mS).2.2.2) (upd z_mO l.toNatClampNeg y5)))
def m_X8_appoint (mDays : Int32) (mLin : Int32) (mCool : Int32) (mTF : Nat → Int32) (mTFor : Nat → Int32) (mWB : Nat → Int32) (mH : Nat → Int32) (mK : Nat → Int32) (mD : Nat → Int32) (mO : Nat → Int32) (mS : Nat → Int32) (l : Int32) : (Int32 × (Nat → Int32) × (Nat → Int32) × (Nat → Int32) × (Nat → Int32)) := (if (m_X8_noLinen mLin l) = 0 then (m_X8_appoint_25 (((4 : Int32).toInt - (0 : Int32).toInt).toNat + 1) mDays mLin mCool mH mK mD mO mS l (0 : Int32) (-1 : Int32) (0 : Int32) mTF mTFor mWB mO) else ((-1 : Int32), mTF, mTFor, mWB, mO))
set_option maxRecDepth 100000 in
set_option maxHeartbeats 4000000 in
theorem l_X8_appoint_25 {X : gX} (D : va_G) (cI : ClassId) (aMO : Nat) (mFault : Int32) (amS : Nat) (mDays : Int32) (amH : Nat) (mLin : Int32) (amK : Nat) (amO : Nat) (amD : Nat) (mCool : Int32) (mReadAt : Int32) (mReadDays : Int32) (mReadLin : Int32) (amRS : Nat) (amRH : Nat) (amRK : Nat) (amRO : Nat) (amRD : Nat) (amDN : Nat) (amSN : Nat) (mDayNow : Int32) (mLast : Int32) (mTears : Int32) (mWrong : Int32) (amTF : Nat) (amTFor : Nat) (amWB : Nat) (mRdn : Int32) (amRdL : Nat) (amRdE : Nat) (amRdD : Nat) (amSz : Nat) (amLane : Nat) (amSh : Nat) (amHands : Nat) (mTrace : Int32) (mTF : Nat → Int32) (mTFor : Nat → Int32) (mWB : Nat → Int32) (mH : Nat → Int32) (mK : Nat → Int32) (mD : Nat → Int32) (mO : Nat → Int32) (mS : Nat → Int32) (l : Int32) (hl5 : mLin.toInt ≤ 5) (hd6 : mDays.toInt ≤ 6) (hd0 : 0 ≤ mDays.toInt) (hH9 : ∀ j : Nat, 0 ≤ (mH j).toInt ∧ (mH j).toInt ≤ 9) (hD9 : ∀ j : Nat, 0 ≤ (mD j).toInt ∧ (mD j).toInt ≤ 9) (hO4 : ∀ j : Nat, vp_in (mO j) 4) (hC : Cx X cX8_appoint 7 RX8 wsX8_appoint D [(cI, .int)] ({ frames := 6, cells := 0, slots := 0, locals := 139 } : Room) (some .int)) {res : (Int32 × (Nat → Int32) × (Nat → Int32) × (Nat → Int32) × (Nat → Int32))} (hX : Rx X D (some (.int res.1)) [(aMO, .inr (8, [.int mFault, .ref amS, .int mDays, .ref amH, .int mLin, .ref amK, .ref amO, .ref amD, .int mCool, .int mReadAt, .int mReadDays, .int mReadLin, .ref amRS, .ref amRH, .ref amRK, .ref amRO, .ref amRD, .ref amDN, .ref amSN, .int mDayNow, .int mLast, .int mTears, .int mWrong, .ref amTF, .ref amTFor, .ref amWB, .int mRdn, .ref amRdL, .ref amRdE, .ref amRdD, .ref amSz, .ref amLane, .ref amSh, .ref amHands, .int mTrace])), (amTF, .inl (cI, 70, .inl res.2.1)), (amTFor, .inl (cI, 5, .inl res.2.2.1)), (amWB, .inl (cI, 4, .inl res.2.2.2.1)), (amH, .inl (cI, 6, .inl mH)), (amK, .inl (cI, 5, .inl mK)), (amD, .inl (cI, 5, .inl mD)), (amO, .inl (cI, 5, .inl res.2.2.2.2)), (amS, .inl (cI, 4, .inl mS))]) : ∀ (fu : Nat) (y3 : Int32) (y4 : Int32) (y5 : Int32) (z_mTF : Nat → Int32) (z_mTFor : Nat → Int32) (z_mWB : Nat → Int32) (z_mO : Nat → Int32) (hm : ((4 : Int32).toInt - y5.toInt).toNat < fu) (h0_y5 : 0 ≤ y5.toInt) (hl : vp_in l 5) (hOz : ∀ j : Nat, vp_in (z_mO j) 4) (hres : res = m_X8_appoint_25 fu mDays mLin mCool mH mK mD mO mS l y3 y4 y5 z_mTF z_mTFor z_mWB z_mO), G X D 7 [(aMO, .inr (8, [.int mFault, .ref amS, .int mDays, .ref amH, .int mLin, .ref amK, .ref amO, .ref amD, .int mCool, .int mReadAt, .int mReadDays, .int mReadLin, .ref amRS, .ref amRH, .ref amRK, .ref amRO, .ref amRD, .ref amDN, .ref amSN, .int mDayNow, .int mLast, .int mTears, .int mWrong, .ref amTF, .ref amTFor, .ref amWB, .int mRdn, .ref amRdL, .ref amRdE, .ref amRdD, .ref amSz, .ref amLane, .ref amSh, .ref amHands, .int mTrace])), (amTF, .inl (cI, 70, .inl z_mTF)), (amTFor, .inl (cI, 5, .inl z_mTFor)), (amWB, .inl (cI, 4, .inl z_mWB)), (amH, .inl (cI, 6, .inl mH)), (amK, .inl (cI, 5, .inl mK)), (amD, .inl (cI, 5, .inl mD)), (amO, .inl (cI, 5, .inl z_mO)), (amS, .inl (cI, 4, .inl mS))] [(0, .ref aMO), (1, .int l), (2, .int (mO l.toNatClampNeg)), (3, .int y3), (4, .int y4), (5, .int y5)] 25 [] := by
  intro fu
  induction fu with
  | zero =>
    intro y3 y4 y5 z_mTF z_mTFor z_mWB z_mO hm
    exact absurd hm (Nat.not_lt_zero _)
  | succ fu ih =>
    intro y3 y4 y5 z_mTF z_mTFor z_mWB z_mO hm h0_y5 hl hOz hres
    rw [m_X8_appoint_25] at hres
    refine g_iload hC dX8_appoint_25 5 rfl rfl ?_
    refine g_iconst (v := 4) hC dX8_appoint_27 (by decide) rfl ?_
    refine g_icmp_ge (tgt := 84) hC dX8_appoint_28 (by decide) rfl (fun c_28 => ?_) (fun c_28 => ?_)
    · rw [if_pos c_28] at hres
      refine g_aload_n hC dX8_appoint_84 rfl 0 rfl rfl ?_
      refine g_get hC iw_X8_appoint_RX8 0 rfl rfl 6 (by decide) (List.mem_of_getElem? (i := 1) rfl) rfl rfl dX8_appoint_85 rfl ?_
      refine g_iload_n hC dX8_appoint_88 rfl 1 rfl rfl ?_
      refine g_iload_n hC dX8_appoint_89 rfl 2 rfl rfl ?_
      refine g_iast (ws' := [(aMO, .inr (8, [.int mFault, .ref amS, .int mDays, .ref amH, .int mLin, .ref amK, .ref amO, .ref amD, .int mCool, .int mReadAt, .int mReadDays, .int mReadLin, .ref amRS, .ref amRH, .ref amRK, .ref amRO, .ref amRD, .ref amDN, .ref amSN, .int mDayNow, .int mLast, .int mTears, .int mWrong, .ref amTF, .ref amTFor, .ref amWB, .int mRdn, .ref amRdL, .ref amRdE, .ref amRdD, .ref amSz, .ref amLane, .ref amSh, .ref amHands, .int mTrace])), (amTF, .inl (cI, 70, .inl z_mTF)), (amTFor, .inl (cI, 5, .inl z_mTFor)), (amWB, .inl (cI, 4, .inl z_mWB)), (amH, .inl (cI, 6, .inl mH)), (amK, .inl (cI, 5, .inl mK)), (amD, .inl (cI, 5, .inl mD)), (amO, .inl (cI, 5, .inl (upd z_mO l.toNatClampNeg (mO l.toNatClampNeg)))), (amS, .inl (cI, 4, .inl mS))]) hC 7 0 rfl rfl (by exact hl) rfl dX8_appoint_90 rfl ?_
      refine g_iload_n hC dX8_appoint_91 rfl 3 rfl rfl ?_
      subst hres
      exact g_iret hC hX rfl dX8_appoint_92 rfl rfl
    · rw [if_neg c_28] at hres
      refine g_aload_n hC dX8_appoint_31 rfl 0 rfl rfl ?_
      refine g_get hC iw_X8_appoint_RX8 0 rfl rfl 6 (by decide) (List.mem_of_getElem? (i := 1) rfl) rfl rfl dX8_appoint_32 rfl ?_
      refine g_iload_n hC dX8_appoint_35 rfl 1 rfl rfl ?_
      refine g_iload hC dX8_appoint_36 5 rfl rfl ?_
      refine g_iast (ws' := [(aMO, .inr (8, [.int mFault, .ref amS, .int mDays, .ref amH, .int mLin, .ref amK, .ref amO, .ref amD, .int mCool, .int mReadAt, .int mReadDays, .int mReadLin, .ref amRS, .ref amRH, .ref amRK, .ref amRO, .ref amRD, .ref amDN, .ref amSN, .int mDayNow, .int mLast, .int mTears, .int mWrong, .ref amTF, .ref amTFor, .ref amWB, .int mRdn, .ref amRdL, .ref amRdE, .ref amRdD, .ref amSz, .ref amLane, .ref amSh, .ref amHands, .int mTrace])), (amTF, .inl (cI, 70, .inl z_mTF)), (amTFor, .inl (cI, 5, .inl z_mTFor)), (amWB, .inl (cI, 4, .inl z_mWB)), (amH, .inl (cI, 6, .inl mH)), (amK, .inl (cI, 5, .inl mK)), (amD, .inl (cI, 5, .inl mD)), (amO, .inl (cI, 5, .inl (upd z_mO l.toNatClampNeg y5))), (amS, .inl (cI, 4, .inl mS))]) hC 7 0 rfl rfl (by exact hl) rfl dX8_appoint_38 rfl ?_
      refine g_aload_n hC dX8_appoint_39 rfl 0 rfl rfl ?_
      refine g_callV (ws' := [(aMO, .inr (8, [.int mFault, .ref amS, .int mDays, .ref amH, .int mLin, .ref amK, .ref amO, .ref amD, .int mCool, .int mReadAt, .int mReadDays, .int mReadLin, .ref amRS, .ref amRH, .ref amRK, .ref amRO, .ref amRD, .ref amDN, .ref amSN, .int mDayNow, .int mLast, .int mTears, .int mWrong, .ref amTF, .ref amTFor, .ref amWB, .int mRdn, .ref amRdL, .ref amRdE, .ref amRdD, .ref amSz, .ref amLane, .ref amSh, .ref amHands, .int mTrace])), (amTF, .inl (cI, 70, .inl ((m_X8_keptNow mDays mLin mCool z_mTF z_mTFor z_mWB mH mK mD (upd z_mO l.toNatClampNeg y5) mS).2.1))), (amTFor, .inl (cI, 5, .inl ((m_X8_keptNow mDays mLin mCool z_mTF z_mTFor z_mWB mH mK mD (upd z_mO l.toNatClampNeg y5) mS).2.2.1))), (amWB, .inl (cI, 4, .inl ((m_X8_keptNow mDays mLin mCool z_mTF z_mTFor z_mWB mH mK mD (upd z_mO l.toNatClampNeg y5) mS).2.2.2))), (amH, .inl (cI, 6, .inl mH)), (amK, .inl (cI, 5, .inl mK)), (amD, .inl (cI, 5, .inl mD)), (amO, .inl (cI, 5, .inl (upd z_mO l.toNatClampNeg y5))), (amS, .inl (cI, 4, .inl mS))]) (st' := [.int ((m_X8_keptNow mDays mLin mCool z_mTF z_mTFor z_mWB mH mK mD (upd z_mO l.toNatClampNeg y5) mS).1)]) (nw := 9) (n1 := 9) hC gX8_appoint_X8_keptNow hdV_yX8_keptNow 0 rfl rfl (As := []) (rest := []) (c_X8_keptNow D cI aMO mFault amS mDays amH mLin amK amO amD mCool mReadAt mReadDays mReadLin amRS amRH amRK amRO amRD amDN amSN mDayNow mLast mTears mWrong amTF amTFor amWB mRdn amRdL amRdE amRdD amSz amLane amSh amHands mTrace z_mTF z_mTFor z_mWB mH mK mD (upd z_mO l.toNatClampNeg y5) mS (by assumption) (by assumption) (by assumption) (by assumption) (by assumption) (by exact upd_all (P := fun x => vp_in x 4) hOz (in_up (n := 4) h0_y5 c_28 (by decide)))) rfl ⟨by decide, by decide⟩ rfl [0, 1, 2, 3, 4, 5, 6, 7, 8] [] [0, 1, 2, 3, 4, 5, 6, 7, 8] [0] rfl rfl rfl rfl (by decide) rfl rfl (Nat.le_of_ble_eq_true rfl) dX8_appoint_40 rfl rfl ?_
      refine g_callS (ws' := [(aMO, .inr (8, [.int mFault, .ref amS, .int mDays, .ref amH, .int mLin, .ref amK, .ref amO, .ref amD, .int mCool, .int mReadAt, .int mReadDays, .int mReadLin, .ref amRS, .ref amRH, .ref amRK, .ref amRO, .ref amRD, .ref amDN, .ref amSN, .int mDayNow, .int mLast, .int mTears, .int mWrong, .ref amTF, .ref amTFor, .ref amWB, .int mRdn, .ref amRdL, .ref amRdE, .ref amRdD, .ref amSz, .ref amLane, .ref amSh, .ref amHands, .int mTrace])), (amTF, .inl (cI, 70, .inl ((m_X8_keptNow mDays mLin mCool z_mTF z_mTFor z_mWB mH mK mD (upd z_mO l.toNatClampNeg y5) mS).2.1))), (amTFor, .inl (cI, 5, .inl ((m_X8_keptNow mDays mLin mCool z_mTF z_mTFor z_mWB mH mK mD (upd z_mO l.toNatClampNeg y5) mS).2.2.1))), (amWB, .inl (cI, 4, .inl ((m_X8_keptNow mDays mLin mCool z_mTF z_mTFor z_mWB mH mK mD (upd z_mO l.toNatClampNeg y5) mS).2.2.2))), (amH, .inl (cI, 6, .inl mH)), (amK, .inl (cI, 5, .inl mK)), (amD, .inl (cI, 5, .inl mD)), (amO, .inl (cI, 5, .inl (upd z_mO l.toNatClampNeg y5))), (amS, .inl (cI, 4, .inl mS))]) (st' := [.int (m_X8_bits ((m_X8_keptNow mDays mLin mCool z_mTF z_mTFor z_mWB mH mK mD (upd z_mO l.toNatClampNeg y5) mS).1))]) (nw := 9) (n1 := 0) hC gX8_appoint_X8_bits hdS_yX8_bits (As := [.int ((m_X8_keptNow mDays mLin mCool z_mTF z_mTFor z_mWB mH mK mD (upd z_mO l.toNatClampNeg y5) mS).1)]) (rest := []) (c_X8_bits D cI ((m_X8_keptNow mDays mLin mCool z_mTF z_mTFor z_mWB mH mK mD (upd z_mO l.toNatClampNeg y5) mS).1)) rfl ⟨by decide, by decide⟩ rfl [] [0, 1, 2, 3, 4, 5, 6, 7, 8] [0, 1, 2, 3, 4, 5, 6, 7, 8] [0] rfl rfl rfl rfl (by decide) rfl rfl (Nat.le_of_ble_eq_true rfl) dX8_appoint_43 rfl rfl ?_
      refine g_istore (lv' := [(6, .int (m_X8_bits ((m_X8_keptNow mDays mLin mCool z_mTF z_mTFor z_mWB mH mK mD (upd z_mO l.toNatClampNeg y5) mS).1))), (0, .ref aMO), (1, .int l), (2, .int (mO l.toNatClampNeg)), (3, .int y3), (4, .int y4), (5, .int y5)]) hC dX8_appoint_46 (by decide) rfl rfl ?_
      refine g_iload hC dX8_appoint_48 0 rfl rfl ?_
      refine g_iload hC dX8_appoint_50 5 rfl rfl ?_
      have K_52 : ∀ vK : Int32, vK = (if (m_X8_bits ((m_X8_keptNow mDays mLin mCool z_mTF z_mTFor z_mWB mH mK mD (upd z_mO l.toNatClampNeg y5) mS).1)) ≤ y4 then y3 else y5) → G X D 7 [(aMO, .inr (8, [.int mFault, .ref amS, .int mDays, .ref amH, .int mLin, .ref amK, .ref amO, .ref amD, .int mCool, .int mReadAt, .int mReadDays, .int mReadLin, .ref amRS, .ref amRH, .ref amRK, .ref amRO, .ref amRD, .ref amDN, .ref amSN, .int mDayNow, .int mLast, .int mTears, .int mWrong, .ref amTF, .ref amTFor, .ref amWB, .int mRdn, .ref amRdL, .ref amRdE, .ref amRdD, .ref amSz, .ref amLane, .ref amSh, .ref amHands, .int mTrace])), (amTF, .inl (cI, 70, .inl ((m_X8_keptNow mDays mLin mCool z_mTF z_mTFor z_mWB mH mK mD (upd z_mO l.toNatClampNeg y5) mS).2.1))), (amTFor, .inl (cI, 5, .inl ((m_X8_keptNow mDays mLin mCool z_mTF z_mTFor z_mWB mH mK mD (upd z_mO l.toNatClampNeg y5) mS).2.2.1))), (amWB, .inl (cI, 4, .inl ((m_X8_keptNow mDays mLin mCool z_mTF z_mTFor z_mWB mH mK mD (upd z_mO l.toNatClampNeg y5) mS).2.2.2))), (amH, .inl (cI, 6, .inl mH)), (amK, .inl (cI, 5, .inl mK)), (amD, .inl (cI, 5, .inl mD)), (amO, .inl (cI, 5, .inl (upd z_mO l.toNatClampNeg y5))), (amS, .inl (cI, 4, .inl mS))] [(6, .int (m_X8_bits ((m_X8_keptNow mDays mLin mCool z_mTF z_mTFor z_mWB mH mK mD (upd z_mO l.toNatClampNeg y5) mS).1))), (0, .ref aMO), (1, .int l), (2, .int (mO l.toNatClampNeg)), (3, .int y3), (4, .int y4), (5, .int y5)] 61 (.int vK :: []) := by
        intro vK hvK
        subst hvK
        refine g_istore_n (lv' := [(3, .int (if (m_X8_bits ((m_X8_keptNow mDays mLin mCool z_mTF z_mTFor z_mWB mH mK mD (upd z_mO l.toNatClampNeg y5) mS).1)) ≤ y4 then y3 else y5)), (6, .int (m_X8_bits ((m_X8_keptNow mDays mLin mCool z_mTF z_mTFor z_mWB mH mK mD (upd z_mO l.toNatClampNeg y5) mS).1))), (0, .ref aMO), (1, .int l), (2, .int (mO l.toNatClampNeg)), (4, .int y4), (5, .int y5)]) hC dX8_appoint_61 rfl (by decide) rfl rfl ?_
        refine g_iload hC dX8_appoint_62 1 rfl rfl ?_
        refine g_iload hC dX8_appoint_64 5 rfl rfl ?_
        have K_66 : ∀ vK : Int32, vK = (if (m_X8_bits ((m_X8_keptNow mDays mLin mCool z_mTF z_mTFor z_mWB mH mK mD (upd z_mO l.toNatClampNeg y5) mS).1)) ≤ y4 then y4 else (m_X8_bits ((m_X8_keptNow mDays mLin mCool z_mTF z_mTFor z_mWB mH mK mD (upd z_mO l.toNatClampNeg y5) mS).1))) → G X D 7 [(aMO, .inr (8, [.int mFault, .ref amS, .int mDays, .ref amH, .int mLin, .ref amK, .ref amO, .ref amD, .int mCool, .int mReadAt, .int mReadDays, .int mReadLin, .ref amRS, .ref amRH, .ref amRK, .ref amRO, .ref amRD, .ref amDN, .ref amSN, .int mDayNow, .int mLast, .int mTears, .int mWrong, .ref amTF, .ref amTFor, .ref amWB, .int mRdn, .ref amRdL, .ref amRdE, .ref amRdD, .ref amSz, .ref amLane, .ref amSh, .ref amHands, .int mTrace])), (amTF, .inl (cI, 70, .inl ((m_X8_keptNow mDays mLin mCool z_mTF z_mTFor z_mWB mH mK mD (upd z_mO l.toNatClampNeg y5) mS).2.1))), (amTFor, .inl (cI, 5, .inl ((m_X8_keptNow mDays mLin mCool z_mTF z_mTFor z_mWB mH mK mD (upd z_mO l.toNatClampNeg y5) mS).2.2.1))), (amWB, .inl (cI, 4, .inl ((m_X8_keptNow mDays mLin mCool z_mTF z_mTFor z_mWB mH mK mD (upd z_mO l.toNatClampNeg y5) mS).2.2.2))), (amH, .inl (cI, 6, .inl mH)), (amK, .inl (cI, 5, .inl mK)), (amD, .inl (cI, 5, .inl mD)), (amO, .inl (cI, 5, .inl (upd z_mO l.toNatClampNeg y5))), (amS, .inl (cI, 4, .inl mS))] [(3, .int (if (m_X8_bits ((m_X8_keptNow mDays mLin mCool z_mTF z_mTFor z_mWB mH mK mD (upd z_mO l.toNatClampNeg y5) mS).1)) ≤ y4 then y3 else y5)), (6, .int (m_X8_bits ((m_X8_keptNow mDays mLin mCool z_mTF z_mTFor z_mWB mH mK mD (upd z_mO l.toNatClampNeg y5) mS).1))), (0, .ref aMO), (1, .int l), (2, .int (mO l.toNatClampNeg)), (4, .int y4), (5, .int y5)] 76 (.int vK :: []) := by
          intro vK hvK
          subst hvK
          refine g_istore (lv' := [(4, .int (if (m_X8_bits ((m_X8_keptNow mDays mLin mCool z_mTF z_mTFor z_mWB mH mK mD (upd z_mO l.toNatClampNeg y5) mS).1)) ≤ y4 then y4 else (m_X8_bits ((m_X8_keptNow mDays mLin mCool z_mTF z_mTFor z_mWB mH mK mD (upd z_mO l.toNatClampNeg y5) mS).1)))), (3, .int (if (m_X8_bits ((m_X8_keptNow mDays mLin mCool z_mTF z_mTFor z_mWB mH mK mD (upd z_mO l.toNatClampNeg y5) mS).1)) ≤ y4 then y3 else y5)), (6, .int (m_X8_bits ((m_X8_keptNow mDays mLin mCool z_mTF z_mTFor z_mWB mH mK mD (upd z_mO l.toNatClampNeg y5) mS).1))), (0, .ref aMO), (1, .int l), (2, .int (mO l.toNatClampNeg)), (5, .int y5)]) hC dX8_appoint_76 (by decide) rfl rfl ?_
          refine g_iinc (v := (y5 + 1)) (lv' := [(5, .int (y5 + 1)), (4, .int (if (m_X8_bits ((m_X8_keptNow mDays mLin mCool z_mTF z_mTFor z_mWB mH mK mD (upd z_mO l.toNatClampNeg y5) mS).1)) ≤ y4 then y4 else (m_X8_bits ((m_X8_keptNow mDays mLin mCool z_mTF z_mTFor z_mWB mH mK mD (upd z_mO l.toNatClampNeg y5) mS).1)))), (3, .int (if (m_X8_bits ((m_X8_keptNow mDays mLin mCool z_mTF z_mTFor z_mWB mH mK mD (upd z_mO l.toNatClampNeg y5) mS).1)) ≤ y4 then y3 else y5)), (6, .int (m_X8_bits ((m_X8_keptNow mDays mLin mCool z_mTF z_mTFor z_mWB mH mK mD (upd z_mO l.toNatClampNeg y5) mS).1))), (0, .ref aMO), (1, .int l), (2, .int (mO l.toNatClampNeg))]) hC dX8_appoint_78 6 rfl rfl (by decide) rfl rfl ?_
          refine g_goto (tgt := 25) hC dX8_appoint_81 (by decide) ?_
          refine g_sub [4, 5, 6, 2, 1, 0] rfl ?_
          exact ih (if (m_X8_bits ((m_X8_keptNow mDays mLin mCool z_mTF z_mTFor z_mWB mH mK mD (upd z_mO l.toNatClampNeg y5) mS).1)) ≤ y4 then y3 else y5) (if (m_X8_bits ((m_X8_keptNow mDays mLin mCool z_mTF z_mTFor z_mWB mH mK mD (upd z_mO l.toNatClampNeg y5) mS).1)) ≤ y4 then y4 else (m_X8_bits ((m_X8_keptNow mDays mLin mCool z_mTF z_mTFor z_mWB mH mK mD (upd z_mO l.toNatClampNeg y5) mS).1))) (y5 + 1) ((m_X8_keptNow mDays mLin mCool z_mTF z_mTFor z_mWB mH mK mD (upd z_mO l.toNatClampNeg y5) mS).2.1) ((m_X8_keptNow mDays mLin mCool z_mTF z_mTFor z_mWB mH mK mD (upd z_mO l.toNatClampNeg y5) mS).2.2.1) ((m_X8_keptNow mDays mLin mCool z_mTF z_mTFor z_mWB mH mK mD (upd z_mO l.toNatClampNeg y5) mS).2.2.2) (upd z_mO l.toNatClampNeg y5) (up_dec c_28 hm) (up_nn c_28 h0_y5) (by assumption) (by exact upd_all (P := fun x => vp_in x 4) hOz (in_up (n := 4) h0_y5 c_28 (by decide))) hres
        refine g_icmp_le (tgt := 74) hC dX8_appoint_66 (by decide) rfl (fun c_66 => ?_) (fun c_66 => ?_)
        · refine g_iload hC dX8_appoint_74 5 rfl rfl ?_
          exact K_66 _ (if_pos c_66).symm
        · refine g_iload hC dX8_appoint_69 1 rfl rfl ?_
          refine g_goto (tgt := 76) hC dX8_appoint_71 (by decide) ?_
          exact K_66 _ (if_neg c_66).symm
      refine g_icmp_le (tgt := 60) hC dX8_appoint_52 (by decide) rfl (fun c_52 => ?_) (fun c_52 => ?_)
      · refine g_iload_n hC dX8_appoint_60 rfl 4 rfl rfl ?_
        exact K_52 _ (if_pos c_52).symm
      · refine g_iload hC dX8_appoint_55 6 rfl rfl ?_
        refine g_goto (tgt := 61) hC dX8_appoint_57 (by decide) ?_
        exact K_52 _ (if_neg c_52).symm
set_option maxRecDepth 100000 in
set_option maxHeartbeats 4000000 in
theorem c_X8_appoint (D : va_G) (cI : ClassId) (aMO : Nat) (mFault : Int32) (amS : Nat) (mDays : Int32) (amH : Nat) (mLin : Int32) (amK : Nat) (amO : Nat) (amD : Nat) (mCool : Int32) (mReadAt : Int32) (mReadDays : Int32) (mReadLin : Int32) (amRS : Nat) (amRH : Nat) (amRK : Nat) (amRO : Nat) (amRD : Nat) (amDN : Nat) (amSN : Nat) (mDayNow : Int32) (mLast : Int32) (mTears : Int32) (mWrong : Int32) (amTF : Nat) (amTFor : Nat) (amWB : Nat) (mRdn : Int32) (amRdL : Nat) (amRdE : Nat) (amRdD : Nat) (amSz : Nat) (amLane : Nat) (amSh : Nat) (amHands : Nat) (mTrace : Int32) (mTF : Nat → Int32) (mTFor : Nat → Int32) (mWB : Nat → Int32) (mH : Nat → Int32) (mK : Nat → Int32) (mD : Nat → Int32) (mO : Nat → Int32) (mS : Nat → Int32) (l : Int32) (hl5 : mLin.toInt ≤ 5) (hd6 : mDays.toInt ≤ 6) (hd0 : 0 ≤ mDays.toInt) (hH9 : ∀ j : Nat, 0 ≤ (mH j).toInt ∧ (mH j).toInt ≤ 9) (hD9 : ∀ j : Nat, 0 ≤ (mD j).toInt ∧ (mD j).toInt ≤ 9) (hO4 : ∀ j : Nat, vp_in (mO j) 4) : MC yX8_appoint wsX8_appoint ({ frames := 6, cells := 0, slots := 0, locals := 139 } : Room) D [(cI, .int)] [.ref aMO, .int l] [(aMO, .inr (8, [.int mFault, .ref amS, .int mDays, .ref amH, .int mLin, .ref amK, .ref amO, .ref amD, .int mCool, .int mReadAt, .int mReadDays, .int mReadLin, .ref amRS, .ref amRH, .ref amRK, .ref amRO, .ref amRD, .ref amDN, .ref amSN, .int mDayNow, .int mLast, .int mTears, .int mWrong, .ref amTF, .ref amTFor, .ref amWB, .int mRdn, .ref amRdL, .ref amRdE, .ref amRdD, .ref amSz, .ref amLane, .ref amSh, .ref amHands, .int mTrace])), (amTF, .inl (cI, 70, .inl mTF)), (amTFor, .inl (cI, 5, .inl mTFor)), (amWB, .inl (cI, 4, .inl mWB)), (amH, .inl (cI, 6, .inl mH)), (amK, .inl (cI, 5, .inl mK)), (amD, .inl (cI, 5, .inl mD)), (amO, .inl (cI, 5, .inl mO)), (amS, .inl (cI, 4, .inl mS))] (some (.int ((m_X8_appoint mDays mLin mCool mTF mTFor mWB mH mK mD mO mS l).1))) [(aMO, .inr (8, [.int mFault, .ref amS, .int mDays, .ref amH, .int mLin, .ref amK, .ref amO, .ref amD, .int mCool, .int mReadAt, .int mReadDays, .int mReadLin, .ref amRS, .ref amRH, .ref amRK, .ref amRO, .ref amRD, .ref amDN, .ref amSN, .int mDayNow, .int mLast, .int mTears, .int mWrong, .ref amTF, .ref amTFor, .ref amWB, .int mRdn, .ref amRdL, .ref amRdE, .ref amRdD, .ref amSz, .ref amLane, .ref amSh, .ref amHands, .int mTrace])), (amTF, .inl (cI, 70, .inl ((m_X8_appoint mDays mLin mCool mTF mTFor mWB mH mK mD mO mS l).2.1))), (amTFor, .inl (cI, 5, .inl ((m_X8_appoint mDays mLin mCool mTF mTFor mWB mH mK mD mO mS l).2.2.1))), (amWB, .inl (cI, 4, .inl ((m_X8_appoint mDays mLin mCool mTF mTFor mWB mH mK mD mO mS l).2.2.2.1))), (amH, .inl (cI, 6, .inl mH)), (amK, .inl (cI, 5, .inl mK)), (amD, .inl (cI, 5, .inl mD)), (amO, .inl (cI, 5, .inl ((m_X8_appoint mDays mLin mCool mTF mTFor mWB mH mK mD mO mS l).2.2.2.2))), (amS, .inl (cI, 4, .inl mS))] := by
  refine g_entry (by decide) rfl rfl rfl rfl (Nat.le_of_ble_eq_true rfl) (lv := [(0, .ref aMO), (1, .int l)]) rfl ?_
  intro X hC hX
  obtain ⟨res, hres⟩ : ∃ z, z = (m_X8_appoint mDays mLin mCool mTF mTFor mWB mH mK mD mO mS l) := ⟨_, rfl⟩
  rw [← hres] at hX
  rw [m_X8_appoint] at hres
  refine g_aload_n hC dX8_appoint_0 rfl 0 rfl rfl ?_
  refine g_iload_n hC dX8_appoint_1 rfl 1 rfl rfl ?_
  refine g_callV (ws' := [(aMO, .inr (8, [.int mFault, .ref amS, .int mDays, .ref amH, .int mLin, .ref amK, .ref amO, .ref amD, .int mCool, .int mReadAt, .int mReadDays, .int mReadLin, .ref amRS, .ref amRH, .ref amRK, .ref amRO, .ref amRD, .ref amDN, .ref amSN, .int mDayNow, .int mLast, .int mTears, .int mWrong, .ref amTF, .ref amTFor, .ref amWB, .int mRdn, .ref amRdL, .ref amRdE, .ref amRdD, .ref amSz, .ref amLane, .ref amSh, .ref amHands, .int mTrace])), (amTF, .inl (cI, 70, .inl mTF)), (amTFor, .inl (cI, 5, .inl mTFor)), (amWB, .inl (cI, 4, .inl mWB)), (amH, .inl (cI, 6, .inl mH)), (amK, .inl (cI, 5, .inl mK)), (amD, .inl (cI, 5, .inl mD)), (amO, .inl (cI, 5, .inl mO)), (amS, .inl (cI, 4, .inl mS))]) (st' := [.int (m_X8_noLinen mLin l)]) (nw := 9) (n1 := 1) hC gX8_appoint_X8_noLinen hdV_yX8_noLinen 0 rfl rfl (As := [.int l]) (rest := []) (c_X8_noLinen D cI aMO mFault amS mDays amH mLin amK amO amD mCool mReadAt mReadDays mReadLin amRS amRH amRK amRO amRD amDN amSN mDayNow mLast mTears mWrong amTF amTFor amWB mRdn amRdL amRdE amRdD amSz amLane amSh amHands mTrace l) rfl ⟨by decide, by decide⟩ rfl [0] [1, 2, 3, 4, 5, 6, 7, 8] [8, 0, 1, 2, 3, 4, 5, 6, 7] [0] rfl rfl rfl rfl (by decide) rfl rfl (Nat.le_of_ble_eq_true rfl) dX8_appoint_2 rfl rfl ?_
  refine g_if_eq (tgt := 10) hC dX8_appoint_5 (by decide) rfl (fun c_5 => ?_) (fun c_5 => ?_)
  · rw [if_pos c_5] at hres
    refine g_aload_n hC dX8_appoint_10 rfl 0 rfl rfl ?_
    refine g_get hC iw_X8_appoint_RX8 0 rfl rfl 6 (by decide) (List.mem_of_getElem? (i := 1) rfl) rfl rfl dX8_appoint_11 rfl ?_
    refine g_iload_n hC dX8_appoint_14 rfl 1 rfl rfl ?_
    refine g_iald hC 7 0 rfl rfl (by exact nl_ok c_5 hl5) dX8_appoint_15 rfl ?_
    refine g_istore_n (lv' := [(2, .int (mO l.toNatClampNeg)), (0, .ref aMO), (1, .int l)]) hC dX8_appoint_16 rfl (by decide) rfl rfl ?_
    refine g_iconst (v := 0) hC dX8_appoint_17 (by decide) rfl ?_
    refine g_istore_n (lv' := [(3, .int (0 : Int32)), (2, .int (mO l.toNatClampNeg)), (0, .ref aMO), (1, .int l)]) hC dX8_appoint_18 rfl (by decide) rfl rfl ?_
    refine g_iconst (v := -1) hC dX8_appoint_19 (by decide) rfl ?_
    refine g_istore (lv' := [(4, .int (-1 : Int32)), (3, .int (0 : Int32)), (2, .int (mO l.toNatClampNeg)), (0, .ref aMO), (1, .int l)]) hC dX8_appoint_20 (by decide) rfl rfl ?_
    refine g_iconst (v := 0) hC dX8_appoint_22 (by decide) rfl ?_
    refine g_istore (lv' := [(5, .int (0 : Int32)), (4, .int (-1 : Int32)), (3, .int (0 : Int32)), (2, .int (mO l.toNatClampNeg)), (0, .ref aMO), (1, .int l)]) hC dX8_appoint_23 (by decide) rfl rfl ?_
    refine g_sub [4, 5, 3, 2, 1, 0] rfl ?_
    exact l_X8_appoint_25 D cI aMO mFault amS mDays amH mLin amK amO amD mCool mReadAt mReadDays mReadLin amRS amRH amRK amRO amRD amDN amSN mDayNow mLast mTears mWrong amTF amTFor amWB mRdn amRdL amRdE amRdD amSz amLane amSh amHands mTrace mTF mTFor mWB mH mK mD mO mS l hl5 hd6 hd0 hH9 hD9 hO4 hC hX (((4 : Int32).toInt - (0 : Int32).toInt).toNat + 1) (0 : Int32) (-1 : Int32) (0 : Int32) mTF mTFor mWB mO (Nat.lt_succ_self _) (by decide) (by exact nl_ok (by assumption) (by assumption)) (by exact hO4) hres
  · rw [if_neg c_5] at hres
    refine g_iconst (v := -1) hC dX8_appoint_8 (by decide) rfl ?_
    subst hres
    exact g_iret hC hX rfl dX8_appoint_9 rfl rfl
