def m_X8_in (v : Int64) (lo : Int64) (hi : Int64) : (Int32) := (if (lg_cmp v lo) < 0 then (0 : Int32) else (if 0 < (lg_cmp v hi) then (0 : Int32) else (1 : Int32)))
set_option maxRecDepth 100000 in
set_option maxHeartbeats 4000000 in
theorem c_X8_in (D : va_G) (cI : ClassId) (v : Int64) (lo : Int64) (hi : Int64) : MC yX8_in wsX8_in ({ frames := 0, cells := 0, slots := 0, locals := 0 } : Room) D [(cI, .int)] [.long v, .long lo, .long hi] [] (some (.int (m_X8_in v lo hi))) [] := by
  refine g_entry (by decide) rfl rfl rfl rfl (Nat.le_of_ble_eq_true rfl) (lv := [(0, .long v), (2, .long lo), (4, .long hi)]) rfl ?_
  intro X hC hX
  obtain ⟨res, hres⟩ : ∃ z, z = (m_X8_in v lo hi) := ⟨_, rfl⟩
  rw [← hres] at hX
  rw [m_X8_in] at hres
  refine g_lload_n hC dX8_in_0 rfl 0 rfl rfl ?_
  refine g_lload_n hC dX8_in_1 rfl 1 rfl rfl ?_
  refine g_lcmp hC dX8_in_2 rfl ?_
  refine g_if_lt (tgt := 17) hC dX8_in_3 (by decide) rfl (fun c_3 => ?_) (fun c_3 => ?_)
  · rw [if_pos c_3] at hres
    refine g_iconst (v := 0) hC dX8_in_17 (by decide) rfl ?_
    subst hres
    exact g_zret hC hX rfl rfl dX8_in_18 rfl rfl
  · rw [if_neg c_3] at hres
    refine g_lload_n hC dX8_in_6 rfl 0 rfl rfl ?_
    refine g_lload hC dX8_in_7 2 rfl rfl ?_
    refine g_lcmp hC dX8_in_9 rfl ?_
    refine g_if_gt (tgt := 17) hC dX8_in_10 (by decide) rfl (fun c_10 => ?_) (fun c_10 => ?_)
    · rw [if_pos c_10] at hres
      refine g_iconst (v := 0) hC dX8_in_17 (by decide) rfl ?_
      subst hres
      exact g_zret hC hX rfl rfl dX8_in_18 rfl rfl
    · rw [if_neg c_10] at hres
      refine g_iconst (v := 1) hC dX8_in_13 (by decide) rfl ?_
      refine g_goto (tgt := 18) hC dX8_in_14 (by decide) ?_
      subst hres
      exact g_zret hC hX rfl rfl dX8_in_18 rfl rfl
def m_X8_lost : (Int64) := (-9223372036854775808 : Int64)
set_option maxRecDepth 100000 in
set_option maxHeartbeats 4000000 in
theorem c_X8_lost (D : va_G) (cI : ClassId) : MC yX8_lost wsX8_lost ({ frames := 0, cells := 0, slots := 0, locals := 0 } : Room) D [(cI, .int)] [] [] (some (.long m_X8_lost)) [] := by
  refine g_entry (by decide) rfl rfl rfl rfl (Nat.le_of_ble_eq_true rfl) (lv := []) rfl ?_
  intro X hC hX
  obtain ⟨res, hres⟩ : ∃ z, z = m_X8_lost := ⟨_, rfl⟩
  rw [← hres] at hX
  rw [m_X8_lost] at hres
  refine g_ldc2 (v := -9223372036854775808) hC (List.mem_of_getElem? (i := 1) rfl) dX8_lost_0 rfl ?_
  subst hres
  exact g_lret hC hX rfl dX8_lost_3 rfl rfl
def m_X8_isIn (set : Int32) (k : Int32) : (Int32) := (if ((set >>> (k &&& 31)) &&& (1 : Int32)) = (1 : Int32) then (1 : Int32) else (0 : Int32))
set_option maxRecDepth 100000 in
set_option maxHeartbeats 4000000 in
theorem c_X8_isIn (D : va_G) (cI : ClassId) (set : Int32) (k : Int32) : MC yX8_isIn wsX8_isIn ({ frames := 0, cells := 0, slots := 0, locals := 0 } : Room) D [(cI, .int)] [.int set, .int k] [] (some (.int (m_X8_isIn set k))) [] := by
  refine g_entry (by decide) rfl rfl rfl rfl (Nat.le_of_ble_eq_true rfl) (lv := [(0, .int set), (1, .int k)]) rfl ?_
  intro X hC hX
  obtain ⟨res, hres⟩ : ∃ z, z = (m_X8_isIn set k) := ⟨_, rfl⟩
  rw [← hres] at hX
  rw [m_X8_isIn] at hres
  refine g_iload_n hC dX8_isIn_0 rfl 0 rfl rfl ?_
  refine g_iload_n hC dX8_isIn_1 rfl 1 rfl rfl ?_
  refine g_ishr hC dX8_isIn_2 rfl ?_
  refine g_iconst (v := 1) hC dX8_isIn_3 (by decide) rfl ?_
  refine g_iand hC dX8_isIn_4 rfl ?_
  refine g_iconst (v := 1) hC dX8_isIn_5 (by decide) rfl ?_
  refine g_icmp_ne (tgt := 13) hC dX8_isIn_6 (by decide) rfl (fun c_6 => ?_) (fun c_6 => ?_)
  · rw [if_neg c_6] at hres
    refine g_iconst (v := 0) hC dX8_isIn_13 (by decide) rfl ?_
    subst hres
    exact g_zret hC hX rfl rfl dX8_isIn_14 rfl rfl
  · rw [if_pos c_6] at hres
    refine g_iconst (v := 1) hC dX8_isIn_9 (by decide) rfl ?_
    refine g_goto (tgt := 14) hC dX8_isIn_10 (by decide) ?_
    subst hres
    exact g_zret hC hX rfl rfl dX8_isIn_14 rfl rfl
def m_X8_bits_4 : Nat → Int32 → Int32 → (Int32)
  | 0, _, _ => default
  | fu + 1, y1, y2 => (if y2 ≤ 0 then y1 else (m_X8_bits_4 fu (y1 + (y2 &&& (1 : Int32))) (y2 >>> ((1 : Int32) &&& 31))))
def m_X8_bits (set : Int32) : (Int32) := (m_X8_bits_4 (set.toInt.toNat + 1) (0 : Int32) set)
set_option maxRecDepth 100000 in
set_option maxHeartbeats 4000000 in
theorem l_X8_bits_4 {X : gX} (D : va_G) (cI : ClassId) (set : Int32) (hC : Cx X cX8_bits 3 RX8 wsX8_bits D [(cI, .int)] ({ frames := 0, cells := 0, slots := 0, locals := 0 } : Room) (some .int)) {res : (Int32)} (hX : Rx X D (some (.int res)) []) : ∀ (fu : Nat) (y1 : Int32) (y2 : Int32) (hm : y2.toInt.toNat < fu) (hres : res = m_X8_bits_4 fu y1 y2), G X D 3 [] [(1, .int y1), (2, .int y2)] 4 [] := by
  intro fu
  induction fu with
  | zero =>
    intro y1 y2 hm
    exact absurd hm (Nat.not_lt_zero _)
  | succ fu ih =>
    intro y1 y2 hm hres
    rw [m_X8_bits_4] at hres
    refine g_iload_n hC dX8_bits_4 rfl 1 rfl rfl ?_
    refine g_if_le (tgt := 21) hC dX8_bits_5 (by decide) rfl (fun c_5 => ?_) (fun c_5 => ?_)
    · rw [if_pos c_5] at hres
      refine g_iload_n hC dX8_bits_21 rfl 0 rfl rfl ?_
      subst hres
      exact g_iret hC hX rfl dX8_bits_22 rfl rfl
    · rw [if_neg c_5] at hres
      refine g_iload_n hC dX8_bits_8 rfl 0 rfl rfl ?_
      refine g_iload_n hC dX8_bits_9 rfl 1 rfl rfl ?_
      refine g_iconst (v := 1) hC dX8_bits_10 (by decide) rfl ?_
      refine g_iand hC dX8_bits_11 rfl ?_
      refine g_iadd hC dX8_bits_12 rfl ?_
      refine g_istore_n (lv' := [(1, .int (y1 + (y2 &&& (1 : Int32)))), (2, .int y2)]) hC dX8_bits_13 rfl (by decide) rfl rfl ?_
      refine g_iload_n hC dX8_bits_14 rfl 1 rfl rfl ?_
      refine g_iconst (v := 1) hC dX8_bits_15 (by decide) rfl ?_
      refine g_ishr hC dX8_bits_16 rfl ?_
      refine g_istore_n (lv' := [(2, .int (y2 >>> ((1 : Int32) &&& 31))), (1, .int (y1 + (y2 &&& (1 : Int32))))]) hC dX8_bits_17 rfl (by decide) rfl rfl ?_
      refine g_goto (tgt := 4) hC dX8_bits_18 (by decide) ?_
      refine g_sub [1, 0] rfl ?_
      exact ih (y1 + (y2 &&& (1 : Int32))) (y2 >>> ((1 : Int32) &&& 31)) (by exact shr_dec c_5 hm) hres
set_option maxRecDepth 100000 in
set_option maxHeartbeats 4000000 in
theorem c_X8_bits (D : va_G) (cI : ClassId) (set : Int32) : MC yX8_bits wsX8_bits ({ frames := 0, cells := 0, slots := 0, locals := 0 } : Room) D [(cI, .int)] [.int set] [] (some (.int (m_X8_bits set))) [] := by
  refine g_entry (by decide) rfl rfl rfl rfl (Nat.le_of_ble_eq_true rfl) (lv := [(0, .int set)]) rfl ?_
  intro X hC hX
  obtain ⟨res, hres⟩ : ∃ z, z = (m_X8_bits set) := ⟨_, rfl⟩
  rw [← hres] at hX
  rw [m_X8_bits] at hres
  refine g_iconst (v := 0) hC dX8_bits_0 (by decide) rfl ?_
  refine g_istore_n (lv' := [(1, .int (0 : Int32)), (0, .int set)]) hC dX8_bits_1 rfl (by decide) rfl rfl ?_
  refine g_iload_n hC dX8_bits_2 rfl 1 rfl rfl ?_
  refine g_istore_n (lv' := [(2, .int set), (1, .int (0 : Int32)), (0, .int set)]) hC dX8_bits_3 rfl (by decide) rfl rfl ?_
  refine g_sub [1, 0] rfl ?_
  exact l_X8_bits_4 D cI set  hC hX (set.toInt.toNat + 1) (0 : Int32) set (Nat.lt_succ_self _) hres
def m_X8_wept (dmp : Int32) : (Int32) := (if (dmp + (3 : Int32)) ≤ (9 : Int32) then (dmp + (3 : Int32)) else (9 : Int32))
set_option maxRecDepth 100000 in
set_option maxHeartbeats 4000000 in
theorem c_X8_wept (D : va_G) (cI : ClassId) (dmp : Int32) : MC yX8_wept wsX8_wept ({ frames := 0, cells := 0, slots := 0, locals := 0 } : Room) D [(cI, .int)] [.int dmp] [] (some (.int (m_X8_wept dmp))) [] := by
  refine g_entry (by decide) rfl rfl rfl rfl (Nat.le_of_ble_eq_true rfl) (lv := [(0, .int dmp)]) rfl ?_
  intro X hC hX
  obtain ⟨res, hres⟩ : ∃ z, z = (m_X8_wept dmp) := ⟨_, rfl⟩
  rw [← hres] at hX
  rw [m_X8_wept] at hres
  refine g_iload_n hC dX8_wept_0 rfl 0 rfl rfl ?_
  refine g_iconst (v := 3) hC dX8_wept_1 (by decide) rfl ?_
  refine g_iadd hC dX8_wept_2 rfl ?_
  refine g_bipush (v := 9) hC dX8_wept_3 (by decide) rfl ?_
  have K_5 : ∀ vK : Int32, vK = (if (dmp + (3 : Int32)) ≤ (9 : Int32) then (dmp + (3 : Int32)) else (9 : Int32)) → G X D 1 [] [(0, .int dmp)] 16 (.int vK :: []) := by
    intro vK hvK
    subst hvK
    subst hres
    exact g_iret hC hX rfl dX8_wept_16 rfl rfl
  refine g_icmp_le (tgt := 13) hC dX8_wept_5 (by decide) rfl (fun c_5 => ?_) (fun c_5 => ?_)
  · refine g_iload_n hC dX8_wept_13 rfl 0 rfl rfl ?_
    refine g_iconst (v := 3) hC dX8_wept_14 (by decide) rfl ?_
    refine g_iadd hC dX8_wept_15 rfl ?_
    exact K_5 _ (if_pos c_5).symm
  · refine g_bipush (v := 9) hC dX8_wept_8 (by decide) rfl ?_
    refine g_goto (tgt := 16) hC dX8_wept_10 (by decide) ?_
    exact K_5 _ (if_neg c_5).symm
def m_X8_isBeyond (i : Int32) (n : Int64) (all : Int32) : (Int32) := (if i < 0 then (1 : Int32) else (if (lg_cmp n (0 : Int64)) < 0 then (1 : Int32) else (if (lg_cmp (i.toInt64 + n) all.toInt64) ≤ 0 then (0 : Int32) else (1 : Int32))))
set_option maxRecDepth 100000 in
set_option maxHeartbeats 4000000 in
theorem c_X8_isBeyond (D : va_G) (cI : ClassId) (i : Int32) (n : Int64) (all : Int32) : MC yX8_isBeyond wsX8_isBeyond ({ frames := 0, cells := 0, slots := 0, locals := 0 } : Room) D [(cI, .int)] [.int i, .long n, .int all] [] (some (.int (m_X8_isBeyond i n all))) [] := by
  refine g_entry (by decide) rfl rfl rfl rfl (Nat.le_of_ble_eq_true rfl) (lv := [(0, .int i), (1, .long n), (3, .int all)]) rfl ?_
  intro X hC hX
  obtain ⟨res, hres⟩ : ∃ z, z = (m_X8_isBeyond i n all) := ⟨_, rfl⟩
  rw [← hres] at hX
  rw [m_X8_isBeyond] at hres
  refine g_iload_n hC dX8_isBeyond_0 rfl 0 rfl rfl ?_
  refine g_if_lt (tgt := 20) hC dX8_isBeyond_1 (by decide) rfl (fun c_1 => ?_) (fun c_1 => ?_)
  · rw [if_pos c_1] at hres
    refine g_iconst (v := 1) hC dX8_isBeyond_20 (by decide) rfl ?_
    refine g_goto (tgt := 25) hC dX8_isBeyond_21 (by decide) ?_
    subst hres
    exact g_zret hC hX rfl rfl dX8_isBeyond_25 rfl rfl
  · rw [if_neg c_1] at hres
    refine g_lload_n hC dX8_isBeyond_4 rfl 1 rfl rfl ?_
    refine g_lconst (v := 0) hC dX8_isBeyond_5 (by decide) rfl ?_
    refine g_lcmp hC dX8_isBeyond_6 rfl ?_
    refine g_if_lt (tgt := 20) hC dX8_isBeyond_7 (by decide) rfl (fun c_7 => ?_) (fun c_7 => ?_)
    · rw [if_pos c_7] at hres
      refine g_iconst (v := 1) hC dX8_isBeyond_20 (by decide) rfl ?_
      refine g_goto (tgt := 25) hC dX8_isBeyond_21 (by decide) ?_
      subst hres
      exact g_zret hC hX rfl rfl dX8_isBeyond_25 rfl rfl
    · rw [if_neg c_7] at hres
      refine g_iload_n hC dX8_isBeyond_10 rfl 0 rfl rfl ?_
      refine g_i2l hC dX8_isBeyond_11 rfl ?_
      refine g_lload_n hC dX8_isBeyond_12 rfl 1 rfl rfl ?_
      refine g_ladd hC dX8_isBeyond_13 rfl ?_
      refine g_iload_n hC dX8_isBeyond_14 rfl 2 rfl rfl ?_
      refine g_i2l hC dX8_isBeyond_15 rfl ?_
      refine g_lcmp hC dX8_isBeyond_16 rfl ?_
      refine g_if_le (tgt := 24) hC dX8_isBeyond_17 (by decide) rfl (fun c_17 => ?_) (fun c_17 => ?_)
      · rw [if_pos c_17] at hres
        refine g_iconst (v := 0) hC dX8_isBeyond_24 (by decide) rfl ?_
        subst hres
        exact g_zret hC hX rfl rfl dX8_isBeyond_25 rfl rfl
      · rw [if_neg c_17] at hres
        refine g_iconst (v := 1) hC dX8_isBeyond_20 (by decide) rfl ?_
        refine g_goto (tgt := 25) hC dX8_isBeyond_21 (by decide) ?_
        subst hres
        exact g_zret hC hX rfl rfl dX8_isBeyond_25 rfl rfl
theorem iw_X8_refused_RX8 : ∀ w ∈ wsX80, w ∈ wsX8_refused := fun _ h => List.mem_cons_of_mem _ (List.mem_append_right _ (h))
def m_X8_refused (code : Int32) : (Int32 × Int32) := (code, (0 : Int32))
set_option maxRecDepth 100000 in
set_option maxHeartbeats 4000000 in
theorem c_X8_refused (D : va_G) (cI : ClassId) (aMO : Nat) (mFault : Int32) (amS : Nat) (mDays : Int32) (amH : Nat) (mLin : Int32) (amK : Nat) (amO : Nat) (amD : Nat) (mCool : Int32) (mReadAt : Int32) (mReadDays : Int32) (mReadLin : Int32) (amRS : Nat) (amRH : Nat) (amRK : Nat) (amRO : Nat) (amRD : Nat) (amDN : Nat) (amSN : Nat) (mDayNow : Int32) (mLast : Int32) (mTears : Int32) (mWrong : Int32) (amTF : Nat) (amTFor : Nat) (amWB : Nat) (mRdn : Int32) (amRdL : Nat) (amRdE : Nat) (amRdD : Nat) (amSz : Nat) (amLane : Nat) (amSh : Nat) (amHands : Nat) (mTrace : Int32) (code : Int32) : MC yX8_refused wsX8_refused ({ frames := 0, cells := 0, slots := 0, locals := 0 } : Room) D [(cI, .int)] [.ref aMO, .int code] [(aMO, .inr (8, [.int mFault, .ref amS, .int mDays, .ref amH, .int mLin, .ref amK, .ref amO, .ref amD, .int mCool, .int mReadAt, .int mReadDays, .int mReadLin, .ref amRS, .ref amRH, .ref amRK, .ref amRO, .ref amRD, .ref amDN, .ref amSN, .int mDayNow, .int mLast, .int mTears, .int mWrong, .ref amTF, .ref amTFor, .ref amWB, .int mRdn, .ref amRdL, .ref amRdE, .ref amRdD, .ref amSz, .ref amLane, .ref amSh, .ref amHands, .int mTrace]))] (some (.int ((m_X8_refused code).1))) [(aMO, .inr (8, [.int ((m_X8_refused code).2), .ref amS, .int mDays, .ref amH, .int mLin, .ref amK, .ref amO, .ref amD, .int mCool, .int mReadAt, .int mReadDays, .int mReadLin, .ref amRS, .ref amRH, .ref amRK, .ref amRO, .ref amRD, .ref amDN, .ref amSN, .int mDayNow, .int mLast, .int mTears, .int mWrong, .ref amTF, .ref amTFor, .ref amWB, .int mRdn, .ref amRdL, .ref amRdE, .ref amRdD, .ref amSz, .ref amLane, .ref amSh, .ref amHands, .int mTrace]))] := by
  refine g_entry (by decide) rfl rfl rfl rfl (Nat.le_of_ble_eq_true rfl) (lv := [(0, .ref aMO), (1, .int code)]) rfl ?_
  intro X hC hX
  obtain ⟨res, hres⟩ : ∃ z, z = (m_X8_refused code) := ⟨_, rfl⟩
  rw [← hres] at hX
  rw [m_X8_refused] at hres
  refine g_aload_n hC dX8_refused_0 rfl 0 rfl rfl ?_
  refine g_iconst (v := 0) hC dX8_refused_1 (by decide) rfl ?_
  refine g_put (ws' := [(aMO, .inr (8, [.int (0 : Int32), .ref amS, .int mDays, .ref amH, .int mLin, .ref amK, .ref amO, .ref amD, .int mCool, .int mReadAt, .int mReadDays, .int mReadLin, .ref amRS, .ref amRH, .ref amRK, .ref amRO, .ref amRD, .ref amDN, .ref amSN, .int mDayNow, .int mLast, .int mTears, .int mWrong, .ref amTF, .ref amTFor, .ref amWB, .int mRdn, .ref amRdL, .ref amRdE, .ref amRdD, .ref amSz, .ref amLane, .ref amSh, .ref amHands, .int mTrace]))]) hC iw_X8_refused_RX8 0 rfl rfl 0 (by decide) (List.mem_of_getElem? (i := 1) rfl) rfl tyX8 tyX8_ok nmX8 rfl rfl rfl (Nat.le_of_ble_eq_true rfl) rfl dX8_refused_2 rfl ?_
  refine g_iload_n hC dX8_refused_5 rfl 1 rfl rfl ?_
  subst hres
  exact g_iret hC hX rfl dX8_refused_6 rfl rfl
theorem iw_X8_failed_RX8 : ∀ w ∈ wsX80, w ∈ wsX8_failed := fun _ h => List.mem_cons_of_mem _ (List.mem_append_right _ (h))
def m_X8_failed (f : Int32) : (Int32 × Int32) := (((-10 : Int32) - f), f)
set_option maxRecDepth 100000 in
set_option maxHeartbeats 4000000 in
theorem c_X8_failed (D : va_G) (cI : ClassId) (aMO : Nat) (mFault : Int32) (amS : Nat) (mDays : Int32) (amH : Nat) (mLin : Int32) (amK : Nat) (amO : Nat) (amD : Nat) (mCool : Int32) (mReadAt : Int32) (mReadDays : Int32) (mReadLin : Int32) (amRS : Nat) (amRH : Nat) (amRK : Nat) (amRO : Nat) (amRD : Nat) (amDN : Nat) (amSN : Nat) (mDayNow : Int32) (mLast : Int32) (mTears : Int32) (mWrong : Int32) (amTF : Nat) (amTFor : Nat) (amWB : Nat) (mRdn : Int32) (amRdL : Nat) (amRdE : Nat) (amRdD : Nat) (amSz : Nat) (amLane : Nat) (amSh : Nat) (amHands : Nat) (mTrace : Int32) (f : Int32) : MC yX8_failed wsX8_failed ({ frames := 0, cells := 0, slots := 0, locals := 0 } : Room) D [(cI, .int)] [.ref aMO, .int f] [(aMO, .inr (8, [.int mFault, .ref amS, .int mDays, .ref amH, .int mLin, .ref amK, .ref amO, .ref amD, .int mCool, .int mReadAt, .int mReadDays, .int mReadLin, .ref amRS, .ref amRH, .ref amRK, .ref amRO, .ref amRD, .ref amDN, .ref amSN, .int mDayNow, .int mLast, .int mTears, .int mWrong, .ref amTF, .ref amTFor, .ref amWB, .int mRdn, .ref amRdL, .ref amRdE, .ref amRdD, .ref amSz, .ref amLane, .ref amSh, .ref amHands, .int mTrace]))] (some (.int ((m_X8_failed f).1))) [(aMO, .inr (8, [.int ((m_X8_failed f).2), .ref amS, .int mDays, .ref amH, .int mLin, .ref amK, .ref amO, .ref amD, .int mCool, .int mReadAt, .int mReadDays, .int mReadLin, .ref amRS, .ref amRH, .ref amRK, .ref amRO, .ref amRD, .ref amDN, .ref amSN, .int mDayNow, .int mLast, .int mTears, .int mWrong, .ref amTF, .ref amTFor, .ref amWB, .int mRdn, .ref amRdL, .ref amRdE, .ref amRdD, .ref amSz, .ref amLane, .ref amSh, .ref amHands, .int mTrace]))] := by
  refine g_entry (by decide) rfl rfl rfl rfl (Nat.le_of_ble_eq_true rfl) (lv := [(0, .ref aMO), (1, .int f)]) rfl ?_
  intro X hC hX
  obtain ⟨res, hres⟩ : ∃ z, z = (m_X8_failed f) := ⟨_, rfl⟩
  rw [← hres] at hX
  rw [m_X8_failed] at hres
  refine g_aload_n hC dX8_failed_0 rfl 0 rfl rfl ?_
  refine g_iload_n hC dX8_failed_1 rfl 1 rfl rfl ?_
  refine g_put (ws' := [(aMO, .inr (8, [.int f, .ref amS, .int mDays, .ref amH, .int mLin, .ref amK, .ref amO, .ref amD, .int mCool, .int mReadAt, .int mReadDays, .int mReadLin, .ref amRS, .ref amRH, .ref amRK, .ref amRO, .ref amRD, .ref amDN, .ref amSN, .int mDayNow, .int mLast, .int mTears, .int mWrong, .ref amTF, .ref amTFor, .ref amWB, .int mRdn, .ref amRdL, .ref amRdE, .ref amRdD, .ref amSz, .ref amLane, .ref amSh, .ref amHands, .int mTrace]))]) hC iw_X8_failed_RX8 0 rfl rfl 0 (by decide) (List.mem_of_getElem? (i := 1) rfl) rfl tyX8 tyX8_ok nmX8 rfl rfl rfl (Nat.le_of_ble_eq_true rfl) rfl dX8_failed_2 rfl ?_
  refine g_bipush (v := -10) hC dX8_failed_5 (by decide) rfl ?_
  refine g_iload_n hC dX8_failed_7 rfl 1 rfl rfl ?_
  refine g_isub hC dX8_failed_8 rfl ?_
  subst hres
  exact g_iret hC hX rfl dX8_failed_9 rfl rfl
theorem iw_X8_failedLong_RX8 : ∀ w ∈ wsX80, w ∈ wsX8_failedLong := fun _ h => List.mem_cons_of_mem _ (List.mem_append_right _ (h))
def m_X8_failedLong (f : Int32) : (Int64 × Int32) := (m_X8_lost, f)
set_option maxRecDepth 100000 in
set_option maxHeartbeats 4000000 in
theorem c_X8_failedLong (D : va_G) (cI : ClassId) (aMO : Nat) (mFault : Int32) (amS : Nat) (mDays : Int32) (amH : Nat) (mLin : Int32) (amK : Nat) (amO : Nat) (amD : Nat) (mCool : Int32) (mReadAt : Int32) (mReadDays : Int32) (mReadLin : Int32) (amRS : Nat) (amRH : Nat) (amRK : Nat) (amRO : Nat) (amRD : Nat) (amDN : Nat) (amSN : Nat) (mDayNow : Int32) (mLast : Int32) (mTears : Int32) (mWrong : Int32) (amTF : Nat) (amTFor : Nat) (amWB : Nat) (mRdn : Int32) (amRdL : Nat) (amRdE : Nat) (amRdD : Nat) (amSz : Nat) (amLane : Nat) (amSh : Nat) (amHands : Nat) (mTrace : Int32) (f : Int32) : MC yX8_failedLong wsX8_failedLong ({ frames := 1, cells := 0, slots := 0, locals := 19 } : Room) D [(cI, .int)] [.ref aMO, .int f] [(aMO, .inr (8, [.int mFault, .ref amS, .int mDays, .ref amH, .int mLin, .ref amK, .ref amO, .ref amD, .int mCool, .int mReadAt, .int mReadDays, .int mReadLin, .ref amRS, .ref amRH, .ref amRK, .ref amRO, .ref amRD, .ref amDN, .ref amSN, .int mDayNow, .int mLast, .int mTears, .int mWrong, .ref amTF, .ref amTFor, .ref amWB, .int mRdn, .ref amRdL, .ref amRdE, .ref amRdD, .ref amSz, .ref amLane, .ref amSh, .ref amHands, .int mTrace]))] (some (.long ((m_X8_failedLong f).1))) [(aMO, .inr (8, [.int ((m_X8_failedLong f).2), .ref amS, .int mDays, .ref amH, .int mLin, .ref amK, .ref amO, .ref amD, .int mCool, .int mReadAt, .int mReadDays, .int mReadLin, .ref amRS, .ref amRH, .ref amRK, .ref amRO, .ref amRD, .ref amDN, .ref amSN, .int mDayNow, .int mLast, .int mTears, .int mWrong, .ref amTF, .ref amTFor, .ref amWB, .int mRdn, .ref amRdL, .ref amRdE, .ref amRdD, .ref amSz, .ref amLane, .ref amSh, .ref amHands, .int mTrace]))] := by
  refine g_entry (by decide) rfl rfl rfl rfl (Nat.le_of_ble_eq_true rfl) (lv := [(0, .ref aMO), (1, .int f)]) rfl ?_
  intro X hC hX
  obtain ⟨res, hres⟩ : ∃ z, z = (m_X8_failedLong f) := ⟨_, rfl⟩
  rw [← hres] at hX
  rw [m_X8_failedLong] at hres
  refine g_aload_n hC dX8_failedLong_0 rfl 0 rfl rfl ?_
  refine g_iload_n hC dX8_failedLong_1 rfl 1 rfl rfl ?_
  refine g_put (ws' := [(aMO, .inr (8, [.int f, .ref amS, .int mDays, .ref amH, .int mLin, .ref amK, .ref amO, .ref amD, .int mCool, .int mReadAt, .int mReadDays, .int mReadLin, .ref amRS, .ref amRH, .ref amRK, .ref amRO, .ref amRD, .ref amDN, .ref amSN, .int mDayNow, .int mLast, .int mTears, .int mWrong, .ref amTF, .ref amTFor, .ref amWB, .int mRdn, .ref amRdL, .ref amRdE, .ref amRdD, .ref amSz, .ref amLane, .ref amSh, .ref amHands, .int mTrace]))]) hC iw_X8_failedLong_RX8 0 rfl rfl 0 (by decide) (List.mem_of_getElem? (i := 1) rfl) rfl tyX8 tyX8_ok nmX8 rfl rfl rfl (Nat.le_of_ble_eq_true rfl) rfl dX8_failedLong_2 rfl ?_
  refine g_callS (ws' := [(aMO, .inr (8, [.int f, .ref amS, .int mDays, .ref amH, .int mLin, .ref amK, .ref amO, .ref amD, .int mCool, .int mReadAt, .int mReadDays, .int mReadLin, .ref amRS, .ref amRH, .ref amRK, .ref amRO, .ref amRD, .ref amDN, .ref amSN, .int mDayNow, .int mLast, .int mTears, .int mWrong, .ref amTF, .ref amTFor, .ref amWB, .int mRdn, .ref amRdL, .ref amRdE, .ref amRdD, .ref amSz, .ref amLane, .ref amSh, .ref amHands, .int mTrace]))]) (st' := [.long m_X8_lost]) (nw := 1) (n1 := 0) hC gX8_failedLong_X8_lost hdS_yX8_lost (As := []) (rest := []) (c_X8_lost D cI ) rfl ⟨by decide, by decide⟩ rfl [] [0] [0] [0] rfl rfl rfl rfl (by decide) rfl rfl (Nat.le_of_ble_eq_true rfl) dX8_failedLong_5 rfl rfl ?_
  subst hres
  exact g_lret hC hX rfl dX8_failedLong_8 rfl rfl
def m_X8_noWeeper (w : Int32) : (Int32) := (if (m_X8_in w.toInt64 (0 : Int64) (3 : Int64)) = 0 then (1 : Int32) else (0 : Int32))
set_option maxRecDepth 100000 in
set_option maxHeartbeats 4000000 in
theorem c_X8_noWeeper (D : va_G) (cI : ClassId) (w : Int32) : MC yX8_noWeeper wsX8_noWeeper ({ frames := 1, cells := 0, slots := 0, locals := 25 } : Room) D [(cI, .int)] [.int w] [] (some (.int (m_X8_noWeeper w))) [] := by
  refine g_entry (by decide) rfl rfl rfl rfl (Nat.le_of_ble_eq_true rfl) (lv := [(0, .int w)]) rfl ?_
  intro X hC hX
  obtain ⟨res, hres⟩ : ∃ z, z = (m_X8_noWeeper w) := ⟨_, rfl⟩
  rw [← hres] at hX
  rw [m_X8_noWeeper] at hres
  refine g_iload_n hC dX8_noWeeper_0 rfl 0 rfl rfl ?_
  refine g_i2l hC dX8_noWeeper_1 rfl ?_
  refine g_lconst (v := 0) hC dX8_noWeeper_2 (by decide) rfl ?_
  refine g_ldc2 (v := 3) hC (List.mem_of_getElem? (i := 1) rfl) dX8_noWeeper_3 rfl ?_
  refine g_callS (ws' := []) (st' := [.int (m_X8_in w.toInt64 (0 : Int64) (3 : Int64))]) (nw := 0) (n1 := 0) hC gX8_noWeeper_X8_in hdS_yX8_in (As := [.long w.toInt64, .long (0 : Int64), .long (3 : Int64)]) (rest := []) (c_X8_in D cI w.toInt64 (0 : Int64) (3 : Int64)) rfl ⟨by decide, by decide⟩ rfl [] [] [] [0] rfl rfl rfl rfl (by decide) rfl rfl (Nat.le_of_ble_eq_true rfl) dX8_noWeeper_6 rfl rfl ?_
  refine g_if_ne (tgt := 16) hC dX8_noWeeper_9 (by decide) rfl (fun c_9 => ?_) (fun c_9 => ?_)
  · rw [if_neg c_9] at hres
    refine g_iconst (v := 0) hC dX8_noWeeper_16 (by decide) rfl ?_
    subst hres
    exact g_zret hC hX rfl rfl dX8_noWeeper_17 rfl rfl
  · rw [if_pos c_9] at hres
    refine g_iconst (v := 1) hC dX8_noWeeper_12 (by decide) rfl ?_
    refine g_goto (tgt := 17) hC dX8_noWeeper_13 (by decide) ?_
    subst hres
    exact g_zret hC hX rfl rfl dX8_noWeeper_17 rfl rfl
def m_X8_noSheet (k : Int32) : (Int32) := (if (m_X8_in k.toInt64 (0 : Int64) (3 : Int64)) = 0 then (1 : Int32) else (0 : Int32))
set_option maxRecDepth 100000 in
set_option maxHeartbeats 4000000 in
theorem c_X8_noSheet (D : va_G) (cI : ClassId) (k : Int32) : MC yX8_noSheet wsX8_noSheet ({ frames := 1, cells := 0, slots := 0, locals := 25 } : Room) D [(cI, .int)] [.int k] [] (some (.int (m_X8_noSheet k))) [] := by
  refine g_entry (by decide) rfl rfl rfl rfl (Nat.le_of_ble_eq_true rfl) (lv := [(0, .int k)]) rfl ?_
  intro X hC hX
  obtain ⟨res, hres⟩ : ∃ z, z = (m_X8_noSheet k) := ⟨_, rfl⟩
  rw [← hres] at hX
  rw [m_X8_noSheet] at hres
  refine g_iload_n hC dX8_noSheet_0 rfl 0 rfl rfl ?_
  refine g_i2l hC dX8_noSheet_1 rfl ?_
  refine g_lconst (v := 0) hC dX8_noSheet_2 (by decide) rfl ?_
  refine g_ldc2 (v := 3) hC (List.mem_of_getElem? (i := 1) rfl) dX8_noSheet_3 rfl ?_
  refine g_callS (ws' := []) (st' := [.int (m_X8_in k.toInt64 (0 : Int64) (3 : Int64))]) (nw := 0) (n1 := 0) hC gX8_noSheet_X8_in hdS_yX8_in (As := [.long k.toInt64, .long (0 : Int64), .long (3 : Int64)]) (rest := []) (c_X8_in D cI k.toInt64 (0 : Int64) (3 : Int64)) rfl ⟨by decide, by decide⟩ rfl [] [] [] [0] rfl rfl rfl rfl (by decide) rfl rfl (Nat.le_of_ble_eq_true rfl) dX8_noSheet_6 rfl rfl ?_
  refine g_if_ne (tgt := 16) hC dX8_noSheet_9 (by decide) rfl (fun c_9 => ?_) (fun c_9 => ?_)
  · rw [if_neg c_9] at hres
    refine g_iconst (v := 0) hC dX8_noSheet_16 (by decide) rfl ?_
    subst hres
    exact g_zret hC hX rfl rfl dX8_noSheet_17 rfl rfl
  · rw [if_pos c_9] at hres
    refine g_iconst (v := 1) hC dX8_noSheet_12 (by decide) rfl ?_
    refine g_goto (tgt := 17) hC dX8_noSheet_13 (by decide) ?_
    subst hres
    exact g_zret hC hX rfl rfl dX8_noSheet_17 rfl rfl
theorem iw_X8_noDay_RX8 : ∀ w ∈ wsX80, w ∈ wsX8_noDay := fun _ h => List.mem_cons_of_mem _ (List.mem_append_right _ (h))
def m_X8_noDay (mDays : Int32) (d : Int32) : (Int32) := (if (m_X8_in d.toInt64 (0 : Int64) (mDays.toInt64 - (1 : Int64))) = 0 then (1 : Int32) else (0 : Int32))
set_option maxRecDepth 100000 in
set_option maxHeartbeats 4000000 in
theorem c_X8_noDay (D : va_G) (cI : ClassId) (aMO : Nat) (mFault : Int32) (amS : Nat) (mDays : Int32) (amH : Nat) (mLin : Int32) (amK : Nat) (amO : Nat) (amD : Nat) (mCool : Int32) (mReadAt : Int32) (mReadDays : Int32) (mReadLin : Int32) (amRS : Nat) (amRH : Nat) (amRK : Nat) (amRO : Nat) (amRD : Nat) (amDN : Nat) (amSN : Nat) (mDayNow : Int32) (mLast : Int32) (mTears : Int32) (mWrong : Int32) (amTF : Nat) (amTFor : Nat) (amWB : Nat) (mRdn : Int32) (amRdL : Nat) (amRdE : Nat) (amRdD : Nat) (amSz : Nat) (amLane : Nat) (amSh : Nat) (amHands : Nat) (mTrace : Int32) (d : Int32) : MC yX8_noDay wsX8_noDay ({ frames := 1, cells := 0, slots := 0, locals := 25 } : Room) D [(cI, .int)] [.ref aMO, .int d] [(aMO, .inr (8, [.int mFault, .ref amS, .int mDays, .ref amH, .int mLin, .ref amK, .ref amO, .ref amD, .int mCool, .int mReadAt, .int mReadDays, .int mReadLin, .ref amRS, .ref amRH, .ref amRK, .ref amRO, .ref amRD, .ref amDN, .ref amSN, .int mDayNow, .int mLast, .int mTears, .int mWrong, .ref amTF, .ref amTFor, .ref amWB, .int mRdn, .ref amRdL, .ref amRdE, .ref amRdD, .ref amSz, .ref amLane, .ref amSh, .ref amHands, .int mTrace]))] (some (.int (m_X8_noDay mDays d))) [(aMO, .inr (8, [.int mFault, .ref amS, .int mDays, .ref amH, .int mLin, .ref amK, .ref amO, .ref amD, .int mCool, .int mReadAt, .int mReadDays, .int mReadLin, .ref amRS, .ref amRH, .ref amRK, .ref amRO, .ref amRD, .ref amDN, .ref amSN, .int mDayNow, .int mLast, .int mTears, .int mWrong, .ref amTF, .ref amTFor, .ref amWB, .int mRdn, .ref amRdL, .ref amRdE, .ref amRdD, .ref amSz, .ref amLane, .ref amSh, .ref amHands, .int mTrace]))] := by
  refine g_entry (by decide) rfl rfl rfl rfl (Nat.le_of_ble_eq_true rfl) (lv := [(0, .ref aMO), (1, .int d)]) rfl ?_
  intro X hC hX
  obtain ⟨res, hres⟩ : ∃ z, z = (m_X8_noDay mDays d) := ⟨_, rfl⟩
  rw [← hres] at hX
  rw [m_X8_noDay] at hres
  refine g_iload_n hC dX8_noDay_0 rfl 1 rfl rfl ?_
  refine g_i2l hC dX8_noDay_1 rfl ?_
  refine g_lconst (v := 0) hC dX8_noDay_2 (by decide) rfl ?_
  refine g_aload_n hC dX8_noDay_3 rfl 0 rfl rfl ?_
  refine g_get hC iw_X8_noDay_RX8 0 rfl rfl 2 (by decide) (List.mem_of_getElem? (i := 1) rfl) rfl rfl dX8_noDay_4 rfl ?_
  refine g_i2l hC dX8_noDay_7 rfl ?_
  refine g_lconst (v := 1) hC dX8_noDay_8 (by decide) rfl ?_
  refine g_lsub hC dX8_noDay_9 rfl ?_
  refine g_callS (ws' := [(aMO, .inr (8, [.int mFault, .ref amS, .int mDays, .ref amH, .int mLin, .ref amK, .ref amO, .ref amD, .int mCool, .int mReadAt, .int mReadDays, .int mReadLin, .ref amRS, .ref amRH, .ref amRK, .ref amRO, .ref amRD, .ref amDN, .ref amSN, .int mDayNow, .int mLast, .int mTears, .int mWrong, .ref amTF, .ref amTFor, .ref amWB, .int mRdn, .ref amRdL, .ref amRdE, .ref amRdD, .ref amSz, .ref amLane, .ref amSh, .ref amHands, .int mTrace]))]) (st' := [.int (m_X8_in d.toInt64 (0 : Int64) (mDays.toInt64 - (1 : Int64)))]) (nw := 1) (n1 := 0) hC gX8_noDay_X8_in hdS_yX8_in (As := [.long d.toInt64, .long (0 : Int64), .long (mDays.toInt64 - (1 : Int64))]) (rest := []) (c_X8_in D cI d.toInt64 (0 : Int64) (mDays.toInt64 - (1 : Int64))) rfl ⟨by decide, by decide⟩ rfl [] [0] [0] [0] rfl rfl rfl rfl (by decide) rfl rfl (Nat.le_of_ble_eq_true rfl) dX8_noDay_10 rfl rfl ?_
  refine g_if_ne (tgt := 20) hC dX8_noDay_13 (by decide) rfl (fun c_13 => ?_) (fun c_13 => ?_)
  · rw [if_neg c_13] at hres
    refine g_iconst (v := 0) hC dX8_noDay_20 (by decide) rfl ?_
    subst hres
    exact g_zret hC hX rfl rfl dX8_noDay_21 rfl rfl
  · rw [if_pos c_13] at hres
    refine g_iconst (v := 1) hC dX8_noDay_16 (by decide) rfl ?_
    refine g_goto (tgt := 21) hC dX8_noDay_17 (by decide) ?_
    subst hres
    exact g_zret hC hX rfl rfl dX8_noDay_21 rfl rfl
theorem iw_X8_noLinen_RX8 : ∀ w ∈ wsX80, w ∈ wsX8_noLinen := fun _ h => List.mem_cons_of_mem _ (List.mem_append_right _ (h))
def m_X8_noLinen (mLin : Int32) (l : Int32) : (Int32) := (if (m_X8_in l.toInt64 (0 : Int64) (mLin.toInt64 - (1 : Int64))) = 0 then (1 : Int32) else (0 : Int32))
set_option maxRecDepth 100000 in
set_option maxHeartbeats 4000000 in
theorem c_X8_noLinen (D : va_G) (cI : ClassId) (aMO : Nat) (mFault : Int32) (amS : Nat) (mDays : Int32) (amH : Nat) (mLin : Int32) (amK : Nat) (amO : Nat) (amD : Nat) (mCool : Int32) (mReadAt : Int32) (mReadDays : Int32) (mReadLin : Int32) (amRS : Nat) (amRH : Nat) (amRK : Nat) (amRO : Nat) (amRD : Nat) (amDN : Nat) (amSN : Nat) (mDayNow : Int32) (mLast : Int32) (mTears : Int32) (mWrong : Int32) (amTF : Nat) (amTFor : Nat) (amWB : Nat) (mRdn : Int32) (amRdL : Nat) (amRdE : Nat) (amRdD : Nat) (amSz : Nat) (amLane : Nat) (amSh : Nat) (amHands : Nat) (mTrace : Int32) (l : Int32) : MC yX8_noLinen wsX8_noLinen ({ frames := 1, cells := 0, slots := 0, locals := 25 } : Room) D [(cI, .int)] [.ref aMO, .int l] [(aMO, .inr (8, [.int mFault, .ref amS, .int mDays, .ref amH, .int mLin, .ref amK, .ref amO, .ref amD, .int mCool, .int mReadAt, .int mReadDays, .int mReadLin, .ref amRS, .ref amRH, .ref amRK, .ref amRO, .ref amRD, .ref amDN, .ref amSN, .int mDayNow, .int mLast, .int mTears, .int mWrong, .ref amTF, .ref amTFor, .ref amWB, .int mRdn, .ref amRdL, .ref amRdE, .ref amRdD, .ref amSz, .ref amLane, .ref amSh, .ref amHands, .int mTrace]))] (some (.int (m_X8_noLinen mLin l))) [(aMO, .inr (8, [.int mFault, .ref amS, .int mDays, .ref amH, .int mLin, .ref amK, .ref amO, .ref amD, .int mCool, .int mReadAt, .int mReadDays, .int mReadLin, .ref amRS, .ref amRH, .ref amRK, .ref amRO, .ref amRD, .ref amDN, .ref amSN, .int mDayNow, .int mLast, .int mTears, .int mWrong, .ref amTF, .ref amTFor, .ref amWB, .int mRdn, .ref amRdL, .ref amRdE, .ref amRdD, .ref amSz, .ref amLane, .ref amSh, .ref amHands, .int mTrace]))] := by
  refine g_entry (by decide) rfl rfl rfl rfl (Nat.le_of_ble_eq_true rfl) (lv := [(0, .ref aMO), (1, .int l)]) rfl ?_
  intro X hC hX
  obtain ⟨res, hres⟩ : ∃ z, z = (m_X8_noLinen mLin l) := ⟨_, rfl⟩
  rw [← hres] at hX
  rw [m_X8_noLinen] at hres
  refine g_iload_n hC dX8_noLinen_0 rfl 1 rfl rfl ?_
  refine g_i2l hC dX8_noLinen_1 rfl ?_
  refine g_lconst (v := 0) hC dX8_noLinen_2 (by decide) rfl ?_
  refine g_aload_n hC dX8_noLinen_3 rfl 0 rfl rfl ?_
  refine g_get hC iw_X8_noLinen_RX8 0 rfl rfl 4 (by decide) (List.mem_of_getElem? (i := 1) rfl) rfl rfl dX8_noLinen_4 rfl ?_
  refine g_i2l hC dX8_noLinen_7 rfl ?_
  refine g_lconst (v := 1) hC dX8_noLinen_8 (by decide) rfl ?_
  refine g_lsub hC dX8_noLinen_9 rfl ?_
  refine g_callS (ws' := [(aMO, .inr (8, [.int mFault, .ref amS, .int mDays, .ref amH, .int mLin, .ref amK, .ref amO, .ref amD, .int mCool, .int mReadAt, .int mReadDays, .int mReadLin, .ref amRS, .ref amRH, .ref amRK, .ref amRO, .ref amRD, .ref amDN, .ref amSN, .int mDayNow, .int mLast, .int mTears, .int mWrong, .ref amTF, .ref amTFor, .ref amWB, .int mRdn, .ref amRdL, .ref amRdE, .ref amRdD, .ref amSz, .ref amLane, .ref amSh, .ref amHands, .int mTrace]))]) (st' := [.int (m_X8_in l.toInt64 (0 : Int64) (mLin.toInt64 - (1 : Int64)))]) (nw := 1) (n1 := 0) hC gX8_noLinen_X8_in hdS_yX8_in (As := [.long l.toInt64, .long (0 : Int64), .long (mLin.toInt64 - (1 : Int64))]) (rest := []) (c_X8_in D cI l.toInt64 (0 : Int64) (mLin.toInt64 - (1 : Int64))) rfl ⟨by decide, by decide⟩ rfl [] [0] [0] [0] rfl rfl rfl rfl (by decide) rfl rfl (Nat.le_of_ble_eq_true rfl) dX8_noLinen_10 rfl rfl ?_
  refine g_if_ne (tgt := 20) hC dX8_noLinen_13 (by decide) rfl (fun c_13 => ?_) (fun c_13 => ?_)
  · rw [if_neg c_13] at hres
    refine g_iconst (v := 0) hC dX8_noLinen_20 (by decide) rfl ?_
    subst hres
    exact g_zret hC hX rfl rfl dX8_noLinen_21 rfl rfl
  · rw [if_pos c_13] at hres
    refine g_iconst (v := 1) hC dX8_noLinen_16 (by decide) rfl ?_
    refine g_goto (tgt := 21) hC dX8_noLinen_17 (by decide) ?_
    subst hres
    exact g_zret hC hX rfl rfl dX8_noLinen_21 rfl rfl
theorem iw_X8_driesOn_RX8 : ∀ w ∈ wsX80, w ∈ wsX8_driesOn := fun _ h => List.mem_cons_of_mem _ (List.mem_append_right _ (h))
def m_X8_driesOn (mCool : Int32) (mH : Nat → Int32) (mK : Nat → Int32) (l : Int32) (d : Int32) : (Int32) := (if (mK l.toNatClampNeg) = 0 then (if (m_X8_isIn mCool d) = 0 then (mH d.toNatClampNeg) else (0 : Int32)) else (if (mK l.toNatClampNeg) = (1 : Int32) then ((if (m_X8_isIn mCool d) = 0 then (mH d.toNatClampNeg) else (0 : Int32)) + (1 : Int32)) else ((2 : Int32) * ((if (m_X8_isIn mCool d) = 0 then (mH d.toNatClampNeg) else (0 : Int32)) + (1 : Int32)))))
set_option maxRecDepth 100000 in
set_option maxHeartbeats 4000000 in
theorem c_X8_driesOn (D : va_G) (cI : ClassId) (aMO : Nat) (mFault : Int32) (amS : Nat) (mDays : Int32) (amH : Nat) (mLin : Int32) (amK : Nat) (amO : Nat) (amD : Nat) (mCool : Int32) (mReadAt : Int32) (mReadDays : Int32) (mReadLin : Int32) (amRS : Nat) (amRH : Nat) (amRK : Nat) (amRO : Nat) (amRD : Nat) (amDN : Nat) (amSN : Nat) (mDayNow : Int32) (mLast : Int32) (mTears : Int32) (mWrong : Int32) (amTF : Nat) (amTFor : Nat) (amWB : Nat) (mRdn : Int32) (amRdL : Nat) (amRdE : Nat) (amRdD : Nat) (amSz : Nat) (amLane : Nat) (amSh : Nat) (amHands : Nat) (mTrace : Int32) (mH : Nat → Int32) (mK : Nat → Int32) (l : Int32) (d : Int32) (hl : vp_in l 5) (hd : vp_in d 6) : MC yX8_driesOn wsX8_driesOn ({ frames := 1, cells := 0, slots := 0, locals := 21 } : Room) D [(cI, .int)] [.ref aMO, .int l, .int d] [(aMO, .inr (8, [.int mFault, .ref amS, .int mDays, .ref amH, .int mLin, .ref amK, .ref amO, .ref amD, .int mCool, .int mReadAt, .int mReadDays, .int mReadLin, .ref amRS, .ref amRH, .ref amRK, .ref amRO, .ref amRD, .ref amDN, .ref amSN, .int mDayNow, .int mLast, .int mTears, .int mWrong, .ref amTF, .ref amTFor, .ref amWB, .int mRdn, .ref amRdL, .ref amRdE, .ref amRdD, .ref amSz, .ref amLane, .ref amSh, .ref amHands, .int mTrace])), (amH, .inl (cI, 6, .inl mH)), (amK, .inl (cI, 5, .inl mK))] (some (.int (m_X8_driesOn mCool mH mK l d))) [(aMO, .inr (8, [.int mFault, .ref amS, .int mDays, .ref amH, .int mLin, .ref amK, .ref amO, .ref amD, .int mCool, .int mReadAt, .int mReadDays, .int mReadLin, .ref amRS, .ref amRH, .ref amRK, .ref amRO, .ref amRD, .ref amDN, .ref amSN, .int mDayNow, .int mLast, .int mTears, .int mWrong, .ref amTF, .ref amTFor, .ref amWB, .int mRdn, .ref amRdL, .ref amRdE, .ref amRdD, .ref amSz, .ref amLane, .ref amSh, .ref amHands, .int mTrace])), (amH, .inl (cI, 6, .inl mH)), (amK, .inl (cI, 5, .inl mK))] := by
  refine g_entry (by decide) rfl rfl rfl rfl (Nat.le_of_ble_eq_true rfl) (lv := [(0, .ref aMO), (1, .int l), (2, .int d)]) rfl ?_
  intro X hC hX
  obtain ⟨res, hres⟩ : ∃ z, z = (m_X8_driesOn mCool mH mK l d) := ⟨_, rfl⟩
  rw [← hres] at hX
  rw [m_X8_driesOn] at hres
  refine g_aload_n hC dX8_driesOn_0 rfl 0 rfl rfl ?_
  refine g_get hC iw_X8_driesOn_RX8 0 rfl rfl 8 (by decide) (List.mem_of_getElem? (i := 1) rfl) rfl rfl dX8_driesOn_1 rfl ?_
  refine g_iload_n hC dX8_driesOn_4 rfl 2 rfl rfl ?_
  refine g_callS (ws' := [(aMO, .inr (8, [.int mFault, .ref amS, .int mDays, .ref amH, .int mLin, .ref amK, .ref amO, .ref amD, .int mCool, .int mReadAt, .int mReadDays, .int mReadLin, .ref amRS, .ref amRH, .ref amRK, .ref amRO, .ref amRD, .ref amDN, .ref amSN, .int mDayNow, .int mLast, .int mTears, .int mWrong, .ref amTF, .ref amTFor, .ref amWB, .int mRdn, .ref amRdL, .ref amRdE, .ref amRdD, .ref amSz, .ref amLane, .ref amSh, .ref amHands, .int mTrace])), (amH, .inl (cI, 6, .inl mH)), (amK, .inl (cI, 5, .inl mK))]) (st' := [.int (m_X8_isIn mCool d)]) (nw := 3) (n1 := 0) hC gX8_driesOn_X8_isIn hdS_yX8_isIn (As := [.int mCool, .int d]) (rest := []) (c_X8_isIn D cI mCool d) rfl ⟨by decide, by decide⟩ rfl [] [0, 1, 2] [0, 1, 2] [0] rfl rfl rfl rfl (by decide) rfl rfl (Nat.le_of_ble_eq_true rfl) dX8_driesOn_5 rfl rfl ?_
  have K_8 : ∀ vK : Int32, vK = (if (m_X8_isIn mCool d) = 0 then (mH d.toNatClampNeg) else (0 : Int32)) → G X D 4 [(aMO, .inr (8, [.int mFault, .ref amS, .int mDays, .ref amH, .int mLin, .ref amK, .ref amO, .ref amD, .int mCool, .int mReadAt, .int mReadDays, .int mReadLin, .ref amRS, .ref amRH, .ref amRK, .ref amRO, .ref amRD, .ref amDN, .ref amSN, .int mDayNow, .int mLast, .int mTears, .int mWrong, .ref amTF, .ref amTFor, .ref amWB, .int mRdn, .ref amRdL, .ref amRdE, .ref amRdD, .ref amSz, .ref amLane, .ref amSh, .ref amHands, .int mTrace])), (amH, .inl (cI, 6, .inl mH)), (amK, .inl (cI, 5, .inl mK))] [(0, .ref aMO), (1, .int l), (2, .int d)] 21 (.int vK :: []) := by
    intro vK hvK
    subst hvK
    refine g_istore_n (lv' := [(3, .int (if (m_X8_isIn mCool d) = 0 then (mH d.toNatClampNeg) else (0 : Int32))), (0, .ref aMO), (1, .int l), (2, .int d)]) hC dX8_driesOn_21 rfl (by decide) rfl rfl ?_
    refine g_aload_n hC dX8_driesOn_22 rfl 1 rfl rfl ?_
    refine g_get hC iw_X8_driesOn_RX8 0 rfl rfl 5 (by decide) (List.mem_of_getElem? (i := 3) rfl) rfl rfl dX8_driesOn_23 rfl ?_
    refine g_iload_n hC dX8_driesOn_26 rfl 2 rfl rfl ?_
    refine g_iald hC 2 0 rfl rfl (by exact hl) dX8_driesOn_27 rfl ?_
    refine g_if_ne (tgt := 35) hC dX8_driesOn_28 (by decide) rfl (fun c_28 => ?_) (fun c_28 => ?_)
    · rw [if_neg c_28] at hres
      refine g_aload_n hC dX8_driesOn_35 rfl 1 rfl rfl ?_
      refine g_get hC iw_X8_driesOn_RX8 0 rfl rfl 5 (by decide) (List.mem_of_getElem? (i := 3) rfl) rfl rfl dX8_driesOn_36 rfl ?_
      refine g_iload_n hC dX8_driesOn_39 rfl 2 rfl rfl ?_
      refine g_iald hC 2 0 rfl rfl (by exact hl) dX8_driesOn_40 rfl ?_
      refine g_iconst (v := 1) hC dX8_driesOn_41 (by decide) rfl ?_
      have K_42 : ∀ vK : Int32, vK = (if (mK l.toNatClampNeg) = (1 : Int32) then ((if (m_X8_isIn mCool d) = 0 then (mH d.toNatClampNeg) else (0 : Int32)) + (1 : Int32)) else ((2 : Int32) * ((if (m_X8_isIn mCool d) = 0 then (mH d.toNatClampNeg) else (0 : Int32)) + (1 : Int32)))) → G X D 4 [(aMO, .inr (8, [.int mFault, .ref amS, .int mDays, .ref amH, .int mLin, .ref amK, .ref amO, .ref amD, .int mCool, .int mReadAt, .int mReadDays, .int mReadLin, .ref amRS, .ref amRH, .ref amRK, .ref amRO, .ref amRD, .ref amDN, .ref amSN, .int mDayNow, .int mLast, .int mTears, .int mWrong, .ref amTF, .ref amTFor, .ref amWB, .int mRdn, .ref amRdL, .ref amRdE, .ref amRdD, .ref amSz, .ref amLane, .ref amSh, .ref amHands, .int mTrace])), (amH, .inl (cI, 6, .inl mH)), (amK, .inl (cI, 5, .inl mK))] [(3, .int (if (m_X8_isIn mCool d) = 0 then (mH d.toNatClampNeg) else (0 : Int32))), (0, .ref aMO), (1, .int l), (2, .int d)] 56 (.int vK :: []) := by
        intro vK hvK
        subst hvK
        subst hres
        exact g_iret hC hX rfl dX8_driesOn_56 rfl rfl
      refine g_icmp_ne (tgt := 51) hC dX8_driesOn_42 (by decide) rfl (fun c_42 => ?_) (fun c_42 => ?_)
      · refine g_iconst (v := 2) hC dX8_driesOn_51 (by decide) rfl ?_
        refine g_iload_n hC dX8_driesOn_52 rfl 0 rfl rfl ?_
        refine g_iconst (v := 1) hC dX8_driesOn_53 (by decide) rfl ?_
        refine g_iadd hC dX8_driesOn_54 rfl ?_
        refine g_imul hC dX8_driesOn_55 rfl ?_
        exact K_42 _ (if_neg c_42).symm
      · refine g_iload_n hC dX8_driesOn_45 rfl 0 rfl rfl ?_
        refine g_iconst (v := 1) hC dX8_driesOn_46 (by decide) rfl ?_
        refine g_iadd hC dX8_driesOn_47 rfl ?_
        refine g_goto (tgt := 56) hC dX8_driesOn_48 (by decide) ?_
        exact K_42 _ (if_pos c_42).symm
    · rw [if_pos c_28] at hres
      refine g_iload_n hC dX8_driesOn_31 rfl 0 rfl rfl ?_
      refine g_goto (tgt := 56) hC dX8_driesOn_32 (by decide) ?_
      subst hres
      exact g_iret hC hX rfl dX8_driesOn_56 rfl rfl
  refine g_if_eq (tgt := 15) hC dX8_driesOn_8 (by decide) rfl (fun c_8 => ?_) (fun c_8 => ?_)
  · refine g_aload_n hC dX8_driesOn_15 rfl 0 rfl rfl ?_
    refine g_get hC iw_X8_driesOn_RX8 0 rfl rfl 3 (by decide) (List.mem_of_getElem? (i := 2) rfl) rfl rfl dX8_driesOn_16 rfl ?_
    refine g_iload_n hC dX8_driesOn_19 rfl 2 rfl rfl ?_
    refine g_iald hC 1 0 rfl rfl (by exact hd) dX8_driesOn_20 rfl ?_
    exact K_8 _ (if_pos c_8).symm
  · refine g_iconst (v := 0) hC dX8_driesOn_11 (by decide) rfl ?_
    refine g_goto (tgt := 21) hC dX8_driesOn_12 (by decide) ?_
    exact K_8 _ (if_neg c_8).symm
def m_X8_dried (mCool : Int32) (mH : Nat → Int32) (mK : Nat → Int32) (dmp : Int32) (l : Int32) (d : Int32) : (Int32) := (if 0 ≤ (dmp - (m_X8_driesOn mCool mH mK l d)) then (dmp - (m_X8_driesOn mCool mH mK l d)) else (0 : Int32))
set_option maxRecDepth 100000 in
set_option maxHeartbeats 4000000 in
theorem c_X8_dried (D : va_G) (cI : ClassId) (aMO : Nat) (mFault : Int32) (amS : Nat) (mDays : Int32) (amH : Nat) (mLin : Int32) (amK : Nat) (amO : Nat) (amD : Nat) (mCool : Int32) (mReadAt : Int32) (mReadDays : Int32) (mReadLin : Int32) (amRS : Nat) (amRH : Nat) (amRK : Nat) (amRO : Nat) (amRD : Nat) (amDN : Nat) (amSN : Nat) (mDayNow : Int32) (mLast : Int32) (mTears : Int32) (mWrong : Int32) (amTF : Nat) (amTFor : Nat) (amWB : Nat) (mRdn : Int32) (amRdL : Nat) (amRdE : Nat) (amRdD : Nat) (amSz : Nat) (amLane : Nat) (amSh : Nat) (amHands : Nat) (mTrace : Int32) (mH : Nat → Int32) (mK : Nat → Int32) (dmp : Int32) (l : Int32) (d : Int32) (hl : vp_in l 5) (hd : vp_in d 6) : MC yX8_dried wsX8_dried ({ frames := 2, cells := 0, slots := 0, locals := 44 } : Room) D [(cI, .int)] [.ref aMO, .int dmp, .int l, .int d] [(aMO, .inr (8, [.int mFault, .ref amS, .int mDays, .ref amH, .int mLin, .ref amK, .ref amO, .ref amD, .int mCool, .int mReadAt, .int mReadDays, .int mReadLin, .ref amRS, .ref amRH, .ref amRK, .ref amRO, .ref amRD, .ref amDN, .ref amSN, .int mDayNow, .int mLast, .int mTears, .int mWrong, .ref amTF, .ref amTFor, .ref amWB, .int mRdn, .ref amRdL, .ref amRdE, .ref amRdD, .ref amSz, .ref amLane, .ref amSh, .ref amHands, .int mTrace])), (amH, .inl (cI, 6, .inl mH)), (amK, .inl (cI, 5, .inl mK))] (some (.int (m_X8_dried mCool mH mK dmp l d))) [(aMO, .inr (8, [.int mFault, .ref amS, .int mDays, .ref amH, .int mLin, .ref amK, .ref amO, .ref amD, .int mCool, .int mReadAt, .int mReadDays, .int mReadLin, .ref amRS, .ref amRH, .ref amRK, .ref amRO, .ref amRD, .ref amDN, .ref amSN, .int mDayNow, .int mLast, .int mTears, .int mWrong, .ref amTF, .ref amTFor, .ref amWB, .int mRdn, .ref amRdL, .ref amRdE, .ref amRdD, .ref amSz, .ref amLane, .ref amSh, .ref amHands, .int mTrace])), (amH, .inl (cI, 6, .inl mH)), (amK, .inl (cI, 5, .inl mK))] := by
  refine g_entry (by decide) rfl rfl rfl rfl (Nat.le_of_ble_eq_true rfl) (lv := [(0, .ref aMO), (1, .int dmp), (2, .int l), (3, .int d)]) rfl ?_
  intro X hC hX
  obtain ⟨res, hres⟩ : ∃ z, z = (m_X8_dried mCool mH mK dmp l d) := ⟨_, rfl⟩
  rw [← hres] at hX
  rw [m_X8_dried] at hres
  refine g_iload_n hC dX8_dried_0 rfl 1 rfl rfl ?_
  refine g_aload_n hC dX8_dried_1 rfl 0 rfl rfl ?_
  refine g_iload_n hC dX8_dried_2 rfl 2 rfl rfl ?_
  refine g_iload_n hC dX8_dried_3 rfl 3 rfl rfl ?_
  refine g_callV (ws' := [(aMO, .inr (8, [.int mFault, .ref amS, .int mDays, .ref amH, .int mLin, .ref amK, .ref amO, .ref amD, .int mCool, .int mReadAt, .int mReadDays, .int mReadLin, .ref amRS, .ref amRH, .ref amRK, .ref amRO, .ref amRD, .ref amDN, .ref amSN, .int mDayNow, .int mLast, .int mTears, .int mWrong, .ref amTF, .ref amTFor, .ref amWB, .int mRdn, .ref amRdL, .ref amRdE, .ref amRdD, .ref amSz, .ref amLane, .ref amSh, .ref amHands, .int mTrace])), (amH, .inl (cI, 6, .inl mH)), (amK, .inl (cI, 5, .inl mK))]) (st' := [.int (m_X8_driesOn mCool mH mK l d), .int dmp]) (nw := 3) (n1 := 3) hC gX8_dried_X8_driesOn hdV_yX8_driesOn 0 rfl rfl (As := [.int l, .int d]) (rest := [.int dmp]) (c_X8_driesOn D cI aMO mFault amS mDays amH mLin amK amO amD mCool mReadAt mReadDays mReadLin amRS amRH amRK amRO amRD amDN amSN mDayNow mLast mTears mWrong amTF amTFor amWB mRdn amRdL amRdE amRdD amSz amLane amSh amHands mTrace mH mK l d (by exact hl) (by exact hd)) rfl ⟨by decide, by decide⟩ rfl [0, 1, 2] [] [0, 1, 2] [0] rfl rfl rfl rfl (by decide) rfl rfl (Nat.le_of_ble_eq_true rfl) dX8_dried_4 rfl rfl ?_
  refine g_isub hC dX8_dried_7 rfl ?_
  refine g_istore (lv' := [(4, .int (dmp - (m_X8_driesOn mCool mH mK l d))), (0, .ref aMO), (1, .int dmp), (2, .int l), (3, .int d)]) hC dX8_dried_8 (by decide) rfl rfl ?_
  refine g_iload hC dX8_dried_10 0 rfl rfl ?_
  have K_12 : ∀ vK : Int32, vK = (if 0 ≤ (dmp - (m_X8_driesOn mCool mH mK l d)) then (dmp - (m_X8_driesOn mCool mH mK l d)) else (0 : Int32)) → G X D 5 [(aMO, .inr (8, [.int mFault, .ref amS, .int mDays, .ref amH, .int mLin, .ref amK, .ref amO, .ref amD, .int mCool, .int mReadAt, .int mReadDays, .int mReadLin, .ref amRS, .ref amRH, .ref amRK, .ref amRO, .ref amRD, .ref amDN, .ref amSN, .int mDayNow, .int mLast, .int mTears, .int mWrong, .ref amTF, .ref amTFor, .ref amWB, .int mRdn, .ref amRdL, .ref amRdE, .ref amRdD, .ref amSz, .ref amLane, .ref amSh, .ref amHands, .int mTrace])), (amH, .inl (cI, 6, .inl mH)), (amK, .inl (cI, 5, .inl mK))] [(4, .int (dmp - (m_X8_driesOn mCool mH mK l d))), (0, .ref aMO), (1, .int dmp), (2, .int l), (3, .int d)] 21 (.int vK :: []) := by
    intro vK hvK
    subst hvK
    subst hres
    exact g_iret hC hX rfl dX8_dried_21 rfl rfl
  refine g_if_ge (tgt := 19) hC dX8_dried_12 (by decide) rfl (fun c_12 => ?_) (fun c_12 => ?_)
  · refine g_iload hC dX8_dried_19 0 rfl rfl ?_
    exact K_12 _ (if_pos c_12).symm
  · refine g_iconst (v := 0) hC dX8_dried_15 (by decide) rfl ?_
    refine g_goto (tgt := 21) hC dX8_dried_16 (by decide) ?_
    exact K_12 _ (if_neg c_12).symm
theorem iw_X8_dampAt_RX8 : ∀ w ∈ wsX80, w ∈ wsX8_dampAt := fun _ h => List.mem_cons_of_mem _ (List.mem_append_right _ (h))
def m_X8_dampAt_10 : Nat → Int32 → (Nat → Int32) → (Nat → Int32) → Int32 → Int32 → Int32 → Int32 → (Int32)
  | 0, _, _, _, _, _, _, _ => default
  | fu + 1, mCool, mH, mK, l, t, y3, y4 => (if t ≤ y4 then y3 else (m_X8_dampAt_10 fu mCool mH mK l t (m_X8_dried mCool mH mK y3 l y4) (y4 + 1)))
def m_X8_dampAt (mCool : Int32) (mH : Nat → Int32) (mK : Nat → Int32) (mD : Nat → Int32) (l : Int32) (t : Int32) : (Int32) := (m_X8_dampAt_10 ((t.toInt - (0 : Int32).toInt).toNat + 1) mCool mH mK l t (mD l.toNatClampNeg) (0 : Int32))
set_option maxRecDepth 100000 in
set_option maxHeartbeats 4000000 in
theorem l_X8_dampAt_10 {X : gX} (D : va_G) (cI : ClassId) (aMO : Nat) (mFault : Int32) (amS : Nat) (mDays : Int32) (amH : Nat) (mLin : Int32) (amK : Nat) (amO : Nat) (amD : Nat) (mCool : Int32) (mReadAt : Int32) (mReadDays : Int32) (mReadLin : Int32) (amRS : Nat) (amRH : Nat) (amRK : Nat) (amRO : Nat) (amRD : Nat) (amDN : Nat) (amSN : Nat) (mDayNow : Int32) (mLast : Int32) (mTears : Int32) (mWrong : Int32) (amTF : Nat) (amTFor : Nat) (amWB : Nat) (mRdn : Int32) (amRdL : Nat) (amRdE : Nat) (amRdD : Nat) (amSz : Nat) (amLane : Nat) (amSh : Nat) (amHands : Nat) (mTrace : Int32) (mH : Nat → Int32) (mK : Nat → Int32) (mD : Nat → Int32) (l : Int32) (t : Int32) (hl : vp_in l 5) (ht6 : t.toInt ≤ 6) (hC : Cx X cX8_dampAt 5 RX8 wsX8_dampAt D [(cI, .int)] ({ frames := 3, cells := 0, slots := 0, locals := 68 } : Room) (some .int)) {res : (Int32)} (hX : Rx X D (some (.int res)) [(aMO, .inr (8, [.int mFault, .ref amS, .int mDays, .ref amH, .int mLin, .ref amK, .ref amO, .ref amD, .int mCool, .int mReadAt, .int mReadDays, .int mReadLin, .ref amRS, .ref amRH, .ref amRK, .ref amRO, .ref amRD, .ref amDN, .ref amSN, .int mDayNow, .int mLast, .int mTears, .int mWrong, .ref amTF, .ref amTFor, .ref amWB, .int mRdn, .ref amRdL, .ref amRdE, .ref amRdD, .ref amSz, .ref amLane, .ref amSh, .ref amHands, .int mTrace])), (amH, .inl (cI, 6, .inl mH)), (amK, .inl (cI, 5, .inl mK)), (amD, .inl (cI, 5, .inl mD))]) : ∀ (fu : Nat) (y3 : Int32) (y4 : Int32) (hm : (t.toInt - y4.toInt).toNat < fu) (h0_y4 : 0 ≤ y4.toInt) (hres : res = m_X8_dampAt_10 fu mCool mH mK l t y3 y4), G X D 5 [(aMO, .inr (8, [.int mFault, .ref amS, .int mDays, .ref amH, .int mLin, .ref amK, .ref amO, .ref amD, .int mCool, .int mReadAt, .int mReadDays, .int mReadLin, .ref amRS, .ref amRH, .ref amRK, .ref amRO, .ref amRD, .ref amDN, .ref amSN, .int mDayNow, .int mLast, .int mTears, .int mWrong, .ref amTF, .ref amTFor, .ref amWB, .int mRdn, .ref amRdL, .ref amRdE, .ref amRdD, .ref amSz, .ref amLane, .ref amSh, .ref amHands, .int mTrace])), (amH, .inl (cI, 6, .inl mH)), (amK, .inl (cI, 5, .inl mK)), (amD, .inl (cI, 5, .inl mD))] [(0, .ref aMO), (1, .int l), (2, .int t), (3, .int y3), (4, .int y4)] 10 [] := by
  intro fu
  induction fu with
  | zero =>
    intro y3 y4 hm
    exact absurd hm (Nat.not_lt_zero _)
  | succ fu ih =>
    intro y3 y4 hm h0_y4 hres
    rw [m_X8_dampAt_10] at hres
    refine g_iload hC dX8_dampAt_10 4 rfl rfl ?_
    refine g_iload_n hC dX8_dampAt_12 rfl 2 rfl rfl ?_
    refine g_icmp_ge (tgt := 31) hC dX8_dampAt_13 (by decide) rfl (fun c_13 => ?_) (fun c_13 => ?_)
    · rw [if_pos c_13] at hres
      refine g_iload_n hC dX8_dampAt_31 rfl 3 rfl rfl ?_
      subst hres
      exact g_iret hC hX rfl dX8_dampAt_32 rfl rfl
    · rw [if_neg c_13] at hres
      refine g_aload_n hC dX8_dampAt_16 rfl 0 rfl rfl ?_
      refine g_iload_n hC dX8_dampAt_17 rfl 3 rfl rfl ?_
      refine g_iload_n hC dX8_dampAt_18 rfl 1 rfl rfl ?_
      refine g_iload hC dX8_dampAt_19 4 rfl rfl ?_
      refine g_callV (ws' := [(aMO, .inr (8, [.int mFault, .ref amS, .int mDays, .ref amH, .int mLin, .ref amK, .ref amO, .ref amD, .int mCool, .int mReadAt, .int mReadDays, .int mReadLin, .ref amRS, .ref amRH, .ref amRK, .ref amRO, .ref amRD, .ref amDN, .ref amSN, .int mDayNow, .int mLast, .int mTears, .int mWrong, .ref amTF, .ref amTFor, .ref amWB, .int mRdn, .ref amRdL, .ref amRdE, .ref amRdD, .ref amSz, .ref amLane, .ref amSh, .ref amHands, .int mTrace])), (amH, .inl (cI, 6, .inl mH)), (amK, .inl (cI, 5, .inl mK)), (amD, .inl (cI, 5, .inl mD))]) (st' := [.int (m_X8_dried mCool mH mK y3 l y4)]) (nw := 4) (n1 := 3) hC gX8_dampAt_X8_dried hdV_yX8_dried 0 rfl rfl (As := [.int y3, .int l, .int y4]) (rest := []) (c_X8_dried D cI aMO mFault amS mDays amH mLin amK amO amD mCool mReadAt mReadDays mReadLin amRS amRH amRK amRO amRD amDN amSN mDayNow mLast mTears mWrong amTF amTFor amWB mRdn amRdL amRdE amRdD amSz amLane amSh amHands mTrace mH mK y3 l y4 (by exact hl) (by exact in_up h0_y4 c_13 ht6)) rfl ⟨by decide, by decide⟩ rfl [0, 1, 2] [3] [1, 2, 3, 0] [0] rfl rfl rfl rfl (by decide) rfl rfl (Nat.le_of_ble_eq_true rfl) dX8_dampAt_21 rfl rfl ?_
      refine g_istore_n (lv' := [(3, .int (m_X8_dried mCool mH mK y3 l y4)), (0, .ref aMO), (1, .int l), (2, .int t), (4, .int y4)]) hC dX8_dampAt_24 rfl (by decide) rfl rfl ?_
      refine g_iinc (v := (y4 + 1)) (lv' := [(4, .int (y4 + 1)), (3, .int (m_X8_dried mCool mH mK y3 l y4)), (0, .ref aMO), (1, .int l), (2, .int t)]) hC dX8_dampAt_25 4 rfl rfl (by decide) rfl rfl ?_
      refine g_goto (tgt := 10) hC dX8_dampAt_28 (by decide) ?_
      refine g_sub [2, 3, 4, 1, 0] rfl ?_
      exact ih (m_X8_dried mCool mH mK y3 l y4) (y4 + 1) (up_dec c_13 hm) (up_nn c_13 h0_y4) hres
set_option maxRecDepth 100000 in
set_option maxHeartbeats 4000000 in
theorem c_X8_dampAt (D : va_G) (cI : ClassId) (aMO : Nat) (mFault : Int32) (amS : Nat) (mDays : Int32) (amH : Nat) (mLin : Int32) (amK : Nat) (amO : Nat) (amD : Nat) (mCool : Int32) (mReadAt : Int32) (mReadDays : Int32) (mReadLin : Int32) (amRS : Nat) (amRH : Nat) (amRK : Nat) (amRO : Nat) (amRD : Nat) (amDN : Nat) (amSN : Nat) (mDayNow : Int32) (mLast : Int32) (mTears : Int32) (mWrong : Int32) (amTF : Nat) (amTFor : Nat) (amWB : Nat) (mRdn : Int32) (amRdL : Nat) (amRdE : Nat) (amRdD : Nat) (amSz : Nat) (amLane : Nat) (amSh : Nat) (amHands : Nat) (mTrace : Int32) (mH : Nat → Int32) (mK : Nat → Int32) (mD : Nat → Int32) (l : Int32) (t : Int32) (hl : vp_in l 5) (ht6 : t.toInt ≤ 6) : MC yX8_dampAt wsX8_dampAt ({ frames := 3, cells := 0, slots := 0, locals := 68 } : Room) D [(cI, .int)] [.ref aMO, .int l, .int t] [(aMO, .inr (8, [.int mFault, .ref amS, .int mDays, .ref amH, .int mLin, .ref amK, .ref amO, .ref amD, .int mCool, .int mReadAt, .int mReadDays, .int mReadLin, .ref amRS, .ref amRH, .ref amRK, .ref amRO, .ref amRD, .ref amDN, .ref amSN, .int mDayNow, .int mLast, .int mTears, .int mWrong, .ref amTF, .ref amTFor, .ref amWB, .int mRdn, .ref amRdL, .ref amRdE, .ref amRdD, .ref amSz, .ref amLane, .ref amSh, .ref amHands, .int mTrace])), (amH, .inl (cI, 6, .inl mH)), (amK, .inl (cI, 5, .inl mK)), (amD, .inl (cI, 5, .inl mD))] (some (.int (m_X8_dampAt mCool mH mK mD l t))) [(aMO, .inr (8, [.int mFault, .ref amS, .int mDays, .ref amH, .int mLin, .ref amK, .ref amO, .ref amD, .int mCool, .int mReadAt, .int mReadDays, .int mReadLin, .ref amRS, .ref amRH, .ref amRK, .ref amRO, .ref amRD, .ref amDN, .ref amSN, .int mDayNow, .int mLast, .int mTears, .int mWrong, .ref amTF, .ref amTFor, .ref amWB, .int mRdn, .ref amRdL, .ref amRdE, .ref amRdD, .ref amSz, .ref amLane, .ref amSh, .ref amHands, .int mTrace])), (amH, .inl (cI, 6, .inl mH)), (amK, .inl (cI, 5, .inl mK)), (amD, .inl (cI, 5, .inl mD))] := by
  refine g_entry (by decide) rfl rfl rfl rfl (Nat.le_of_ble_eq_true rfl) (lv := [(0, .ref aMO), (1, .int l), (2, .int t)]) rfl ?_
  intro X hC hX
  obtain ⟨res, hres⟩ : ∃ z, z = (m_X8_dampAt mCool mH mK mD l t) := ⟨_, rfl⟩
  rw [← hres] at hX
  rw [m_X8_dampAt] at hres
  refine g_aload_n hC dX8_dampAt_0 rfl 0 rfl rfl ?_
  refine g_get hC iw_X8_dampAt_RX8 0 rfl rfl 7 (by decide) (List.mem_of_getElem? (i := 1) rfl) rfl rfl dX8_dampAt_1 rfl ?_
  refine g_iload_n hC dX8_dampAt_4 rfl 1 rfl rfl ?_
  refine g_iald hC 3 0 rfl rfl (by exact hl) dX8_dampAt_5 rfl ?_
  refine g_istore_n (lv' := [(3, .int (mD l.toNatClampNeg)), (0, .ref aMO), (1, .int l), (2, .int t)]) hC dX8_dampAt_6 rfl (by decide) rfl rfl ?_
  refine g_iconst (v := 0) hC dX8_dampAt_7 (by decide) rfl ?_
  refine g_istore (lv' := [(4, .int (0 : Int32)), (3, .int (mD l.toNatClampNeg)), (0, .ref aMO), (1, .int l), (2, .int t)]) hC dX8_dampAt_8 (by decide) rfl rfl ?_
  refine g_sub [2, 3, 4, 1, 0] rfl ?_
  exact l_X8_dampAt_10 D cI aMO mFault amS mDays amH mLin amK amO amD mCool mReadAt mReadDays mReadLin amRS amRH amRK amRO amRD amDN amSN mDayNow mLast mTears mWrong amTF amTFor amWB mRdn amRdL amRdE amRdD amSz amLane amSh amHands mTrace mH mK mD l t hl ht6 hC hX ((t.toInt - (0 : Int32).toInt).toNat + 1) (mD l.toNatClampNeg) (0 : Int32) (Nat.lt_succ_self _) (by decide) hres
theorem iw_X8_traced_RX8 : ∀ w ∈ wsX80, w ∈ wsX8_traced := fun _ h => List.mem_cons_of_mem _ (List.mem_append_right _ (h))
def m_X8_traced (mTrace : Int32) (n : Int32) : (Int32) := (((31 : Int32) * mTrace) + n)
set_option maxRecDepth 100000 in
set_option maxHeartbeats 4000000 in
theorem c_X8_traced (D : va_G) (cI : ClassId) (aMO : Nat) (mFault : Int32) (amS : Nat) (mDays : Int32) (amH : Nat) (mLin : Int32) (amK : Nat) (amO : Nat) (amD : Nat) (mCool : Int32) (mReadAt : Int32) (mReadDays : Int32) (mReadLin : Int32) (amRS : Nat) (amRH : Nat) (amRK : Nat) (amRO : Nat) (amRD : Nat) (amDN : Nat) (amSN : Nat) (mDayNow : Int32) (mLast : Int32) (mTears : Int32) (mWrong : Int32) (amTF : Nat) (amTFor : Nat) (amWB : Nat) (mRdn : Int32) (amRdL : Nat) (amRdE : Nat) (amRdD : Nat) (amSz : Nat) (amLane : Nat) (amSh : Nat) (amHands : Nat) (mTrace : Int32) (n : Int32) : MC yX8_traced wsX8_traced ({ frames := 0, cells := 0, slots := 0, locals := 0 } : Room) D [(cI, .int)] [.ref aMO, .int n] [(aMO, .inr (8, [.int mFault, .ref amS, .int mDays, .ref amH, .int mLin, .ref amK, .ref amO, .ref amD, .int mCool, .int mReadAt, .int mReadDays, .int mReadLin, .ref amRS, .ref amRH, .ref amRK, .ref amRO, .ref amRD, .ref amDN, .ref amSN, .int mDayNow, .int mLast, .int mTears, .int mWrong, .ref amTF, .ref amTFor, .ref amWB, .int mRdn, .ref amRdL, .ref amRdE, .ref amRdD, .ref amSz, .ref amLane, .ref amSh, .ref amHands, .int mTrace]))] none [(aMO, .inr (8, [.int mFault, .ref amS, .int mDays, .ref amH, .int mLin, .ref amK, .ref amO, .ref amD, .int mCool, .int mReadAt, .int mReadDays, .int mReadLin, .ref amRS, .ref amRH, .ref amRK, .ref amRO, .ref amRD, .ref amDN, .ref amSN, .int mDayNow, .int mLast, .int mTears, .int mWrong, .ref amTF, .ref amTFor, .ref amWB, .int mRdn, .ref amRdL, .ref amRdE, .ref amRdD, .ref amSz, .ref amLane, .ref amSh, .ref amHands, .int (m_X8_traced mTrace n)]))] := by
  refine g_entry (by decide) rfl rfl rfl rfl (Nat.le_of_ble_eq_true rfl) (lv := [(0, .ref aMO), (1, .int n)]) rfl ?_
  intro X hC hX
  obtain ⟨res, hres⟩ : ∃ z, z = (m_X8_traced mTrace n) := ⟨_, rfl⟩
  rw [← hres] at hX
  rw [m_X8_traced] at hres
  refine g_aload_n hC dX8_traced_0 rfl 0 rfl rfl ?_
  refine g_bipush (v := 31) hC dX8_traced_1 (by decide) rfl ?_
  refine g_aload_n hC dX8_traced_3 rfl 0 rfl rfl ?_
  refine g_get hC iw_X8_traced_RX8 0 rfl rfl 34 (by decide) (List.mem_of_getElem? (i := 1) rfl) rfl rfl dX8_traced_4 rfl ?_
  refine g_imul hC dX8_traced_7 rfl ?_
  refine g_iload_n hC dX8_traced_8 rfl 1 rfl rfl ?_
  refine g_iadd hC dX8_traced_9 rfl ?_
  refine g_put (ws' := [(aMO, .inr (8, [.int mFault, .ref amS, .int mDays, .ref amH, .int mLin, .ref amK, .ref amO, .ref amD, .int mCool, .int mReadAt, .int mReadDays, .int mReadLin, .ref amRS, .ref amRH, .ref amRK, .ref amRO, .ref amRD, .ref amDN, .ref amSN, .int mDayNow, .int mLast, .int mTears, .int mWrong, .ref amTF, .ref amTFor, .ref amWB, .int mRdn, .ref amRdL, .ref amRdE, .ref amRdD, .ref amSz, .ref amLane, .ref amSh, .ref amHands, .int (((31 : Int32) * mTrace) + n)]))]) hC iw_X8_traced_RX8 0 rfl rfl 34 (by decide) (List.mem_of_getElem? (i := 1) rfl) rfl tyX8 tyX8_ok nmX8 rfl rfl rfl (Nat.le_of_ble_eq_true rfl) rfl dX8_traced_10 rfl ?_
  subst hres
  exact g_vret hC hX rfl dX8_traced_13 rfl rfl
theorem iw_X8_codeAt_RX8 : ∀ w ∈ wsX80, w ∈ wsX8_codeAt := fun _ h => List.mem_cons_of_mem _ (List.mem_append_right _ (h))
def m_X8_codeAt (mReadAt : Int32) (mSh : Nat → Int32) (frm : Int32) (n : Int32) : (Int32) := (if n ≤ mReadAt then (-9 : Int32) else (mSh (frm + mReadAt).toNatClampNeg))
set_option maxRecDepth 100000 in
set_option maxHeartbeats 4000000 in
theorem c_X8_codeAt (D : va_G) (cI : ClassId) (aMO : Nat) (mFault : Int32) (amS : Nat) (mDays : Int32) (amH : Nat) (mLin : Int32) (amK : Nat) (amO : Nat) (amD : Nat) (mCool : Int32) (mReadAt : Int32) (mReadDays : Int32) (mReadLin : Int32) (amRS : Nat) (amRH : Nat) (amRK : Nat) (amRO : Nat) (amRD : Nat) (amDN : Nat) (amSN : Nat) (mDayNow : Int32) (mLast : Int32) (mTears : Int32) (mWrong : Int32) (amTF : Nat) (amTFor : Nat) (amWB : Nat) (mRdn : Int32) (amRdL : Nat) (amRdE : Nat) (amRdD : Nat) (amSz : Nat) (amLane : Nat) (amSh : Nat) (amHands : Nat) (mTrace : Int32) (mSh : Nat → Int32) (frm : Int32) (n : Int32) (hidx : ∀ j : Int32, 0 ≤ j.toInt → j.toInt < n.toInt → vp_in (frm + j) 240) (hra : 0 ≤ mReadAt.toInt) : MC yX8_codeAt wsX8_codeAt ({ frames := 0, cells := 0, slots := 0, locals := 0 } : Room) D [(cI, .int)] [.ref aMO, .int frm, .int n] [(aMO, .inr (8, [.int mFault, .ref amS, .int mDays, .ref amH, .int mLin, .ref amK, .ref amO, .ref amD, .int mCool, .int mReadAt, .int mReadDays, .int mReadLin, .ref amRS, .ref amRH, .ref amRK, .ref amRO, .ref amRD, .ref amDN, .ref amSN, .int mDayNow, .int mLast, .int mTears, .int mWrong, .ref amTF, .ref amTFor, .ref amWB, .int mRdn, .ref amRdL, .ref amRdE, .ref amRdD, .ref amSz, .ref amLane, .ref amSh, .ref amHands, .int mTrace])), (amSh, .inl (cI, 240, .inl mSh))] (some (.int (m_X8_codeAt mReadAt mSh frm n))) [(aMO, .inr (8, [.int mFault, .ref amS, .int mDays, .ref amH, .int mLin, .ref amK, .ref amO, .ref amD, .int mCool, .int mReadAt, .int mReadDays, .int mReadLin, .ref amRS, .ref amRH, .ref amRK, .ref amRO, .ref amRD, .ref amDN, .ref amSN, .int mDayNow, .int mLast, .int mTears, .int mWrong, .ref amTF, .ref amTFor, .ref amWB, .int mRdn, .ref amRdL, .ref amRdE, .ref amRdD, .ref amSz, .ref amLane, .ref amSh, .ref amHands, .int mTrace])), (amSh, .inl (cI, 240, .inl mSh))] := by
  refine g_entry (by decide) rfl rfl rfl rfl (Nat.le_of_ble_eq_true rfl) (lv := [(0, .ref aMO), (1, .int frm), (2, .int n)]) rfl ?_
  intro X hC hX
  obtain ⟨res, hres⟩ : ∃ z, z = (m_X8_codeAt mReadAt mSh frm n) := ⟨_, rfl⟩
  rw [← hres] at hX
  rw [m_X8_codeAt] at hres
  refine g_aload_n hC dX8_codeAt_0 rfl 0 rfl rfl ?_
  refine g_get hC iw_X8_codeAt_RX8 0 rfl rfl 9 (by decide) (List.mem_of_getElem? (i := 1) rfl) rfl rfl dX8_codeAt_1 rfl ?_
  refine g_iload_n hC dX8_codeAt_4 rfl 2 rfl rfl ?_
  have K_5 : ∀ vK : Int32, vK = (if n ≤ mReadAt then (-9 : Int32) else (mSh (frm + mReadAt).toNatClampNeg)) → G X D 3 [(aMO, .inr (8, [.int mFault, .ref amS, .int mDays, .ref amH, .int mLin, .ref amK, .ref amO, .ref amD, .int mCool, .int mReadAt, .int mReadDays, .int mReadLin, .ref amRS, .ref amRH, .ref amRK, .ref amRO, .ref amRD, .ref amDN, .ref amSN, .int mDayNow, .int mLast, .int mTears, .int mWrong, .ref amTF, .ref amTFor, .ref amWB, .int mRdn, .ref amRdL, .ref amRdE, .ref amRdD, .ref amSz, .ref amLane, .ref amSh, .ref amHands, .int mTrace])), (amSh, .inl (cI, 240, .inl mSh))] [(0, .ref aMO), (1, .int frm), (2, .int n)] 24 (.int vK :: []) := by
    intro vK hvK
    subst hvK
    subst hres
    exact g_iret hC hX rfl dX8_codeAt_24 rfl rfl
  refine g_icmp_ge (tgt := 22) hC dX8_codeAt_5 (by decide) rfl (fun c_5 => ?_) (fun c_5 => ?_)
  · refine g_bipush (v := -9) hC dX8_codeAt_22 (by decide) rfl ?_
    exact K_5 _ (if_pos c_5).symm
  · refine g_aload_n hC dX8_codeAt_8 rfl 0 rfl rfl ?_
    refine g_get hC iw_X8_codeAt_RX8 0 rfl rfl 32 (by decide) (List.mem_of_getElem? (i := 2) rfl) rfl rfl dX8_codeAt_9 rfl ?_
    refine g_iload_n hC dX8_codeAt_12 rfl 1 rfl rfl ?_
    refine g_aload_n hC dX8_codeAt_13 rfl 0 rfl rfl ?_
    refine g_get hC iw_X8_codeAt_RX8 0 rfl rfl 9 (by decide) (List.mem_of_getElem? (i := 1) rfl) rfl rfl dX8_codeAt_14 rfl ?_
    refine g_iadd hC dX8_codeAt_17 rfl ?_
    refine g_iald hC 1 0 rfl rfl (by exact hidx _ hra (nle_ti c_5)) dX8_codeAt_18 rfl ?_
    refine g_goto (tgt := 24) hC dX8_codeAt_19 (by decide) ?_
    exact K_5 _ (if_neg c_5).symm
theorem iw_X8_figure_RX8 : ∀ w ∈ wsX80, w ∈ wsX8_figure := fun _ h => List.mem_cons_of_mem _ (List.mem_append_right _ (h))
def m_X8_figure (mReadAt : Int32) (mSh : Nat → Int32) (frm : Int32) (n : Int32) (most : Int32) : (Int32 × Int32) := ((if (m_X8_in (((m_X8_codeAt mReadAt mSh frm n) - (48 : Int32)).toInt64) (0 : Int64) most.toInt64) = 0 then (-9 : Int32) else ((m_X8_codeAt mReadAt mSh frm n) - (48 : Int32))), (mReadAt + (if (m_X8_in (((m_X8_codeAt mReadAt mSh frm n) - (48 : Int32)).toInt64) (0 : Int64) most.toInt64) = 0 then (0 : Int32) else (1 : Int32))))
set_option maxRecDepth 100000 in
set_option maxHeartbeats 4000000 in
theorem c_X8_figure (D : va_G) (cI : ClassId) (aMO : Nat) (mFault : Int32) (amS : Nat) (mDays : Int32) (amH : Nat) (mLin : Int32) (amK : Nat) (amO : Nat) (amD : Nat) (mCool : Int32) (mReadAt : Int32) (mReadDays : Int32) (mReadLin : Int32) (amRS : Nat) (amRH : Nat) (amRK : Nat) (amRO : Nat) (amRD : Nat) (amDN : Nat) (amSN : Nat) (mDayNow : Int32) (mLast : Int32) (mTears : Int32) (mWrong : Int32) (amTF : Nat) (amTFor : Nat) (amWB : Nat) (mRdn : Int32) (amRdL : Nat) (amRdE : Nat) (amRdD : Nat) (amSz : Nat) (amLane : Nat) (amSh : Nat) (amHands : Nat) (mTrace : Int32) (mSh : Nat → Int32) (frm : Int32) (n : Int32) (most : Int32) (hidx : ∀ j : Int32, 0 ≤ j.toInt → j.toInt < n.toInt → vp_in (frm + j) 240) (hra : 0 ≤ mReadAt.toInt) : MC yX8_figure wsX8_figure ({ frames := 1, cells := 0, slots := 0, locals := 25 } : Room) D [(cI, .int)] [.ref aMO, .int frm, .int n, .int most] [(aMO, .inr (8, [.int mFault, .ref amS, .int mDays, .ref amH, .int mLin, .ref amK, .ref amO, .ref amD, .int mCool, .int mReadAt, .int mReadDays, .int mReadLin, .ref amRS, .ref amRH, .ref amRK, .ref amRO, .ref amRD, .ref amDN, .ref amSN, .int mDayNow, .int mLast, .int mTears, .int mWrong, .ref amTF, .ref amTFor, .ref amWB, .int mRdn, .ref amRdL, .ref amRdE, .ref amRdD, .ref amSz, .ref amLane, .ref amSh, .ref amHands, .int mTrace])), (amSh, .inl (cI, 240, .inl mSh))] (some (.int ((m_X8_figure mReadAt mSh frm n most).1))) [(aMO, .inr (8, [.int mFault, .ref amS, .int mDays, .ref amH, .int mLin, .ref amK, .ref amO, .ref amD, .int mCool, .int ((m_X8_figure mReadAt mSh frm n most).2), .int mReadDays, .int mReadLin, .ref amRS, .ref amRH, .ref amRK, .ref amRO, .ref amRD, .ref amDN, .ref amSN, .int mDayNow, .int mLast, .int mTears, .int mWrong, .ref amTF, .ref amTFor, .ref amWB, .int mRdn, .ref amRdL, .ref amRdE, .ref amRdD, .ref amSz, .ref amLane, .ref amSh, .ref amHands, .int mTrace])), (amSh, .inl (cI, 240, .inl mSh))] := by
  refine g_entry (by decide) rfl rfl rfl rfl (Nat.le_of_ble_eq_true rfl) (lv := [(0, .ref aMO), (1, .int frm), (2, .int n), (3, .int most)]) rfl ?_
  intro X hC hX
  obtain ⟨res, hres⟩ : ∃ z, z = (m_X8_figure mReadAt mSh frm n most) := ⟨_, rfl⟩
  rw [← hres] at hX
  rw [m_X8_figure] at hres
  refine g_aload_n hC dX8_figure_0 rfl 0 rfl rfl ?_
  refine g_iload_n hC dX8_figure_1 rfl 1 rfl rfl ?_
  refine g_iload_n hC dX8_figure_2 rfl 2 rfl rfl ?_
  refine g_callV (ws' := [(aMO, .inr (8, [.int mFault, .ref amS, .int mDays, .ref amH, .int mLin, .ref amK, .ref amO, .ref amD, .int mCool, .int mReadAt, .int mReadDays, .int mReadLin, .ref amRS, .ref amRH, .ref amRK, .ref amRO, .ref amRD, .ref amDN, .ref amSN, .int mDayNow, .int mLast, .int mTears, .int mWrong, .ref amTF, .ref amTFor, .ref amWB, .int mRdn, .ref amRdL, .ref amRdE, .ref amRdD, .ref amSz, .ref amLane, .ref amSh, .ref amHands, .int mTrace])), (amSh, .inl (cI, 240, .inl mSh))]) (st' := [.int (m_X8_codeAt mReadAt mSh frm n)]) (nw := 2) (n1 := 2) hC gX8_figure_X8_codeAt hdV_yX8_codeAt 0 rfl rfl (As := [.int frm, .int n]) (rest := []) (c_X8_codeAt D cI aMO mFault amS mDays amH mLin amK amO amD mCool mReadAt mReadDays mReadLin amRS amRH amRK amRO amRD amDN amSN mDayNow mLast mTears mWrong amTF amTFor amWB mRdn amRdL amRdE amRdD amSz amLane amSh amHands mTrace mSh frm n (by exact hidx) (by exact hra)) rfl ⟨by decide, by decide⟩ rfl [0, 1] [] [0, 1] [0] rfl rfl rfl rfl (by decide) rfl rfl (Nat.le_of_ble_eq_true rfl) dX8_figure_3 rfl rfl ?_
  refine g_bipush (v := 48) hC dX8_figure_6 (by decide) rfl ?_
  refine g_isub hC dX8_figure_8 rfl ?_
  refine g_istore (lv' := [(4, .int ((m_X8_codeAt mReadAt mSh frm n) - (48 : Int32))), (0, .ref aMO), (1, .int frm), (2, .int n), (3, .int most)]) hC dX8_figure_9 (by decide) rfl rfl ?_
  refine g_iload hC dX8_figure_11 0 rfl rfl ?_
  refine g_i2l hC dX8_figure_13 rfl ?_
  refine g_lconst (v := 0) hC dX8_figure_14 (by decide) rfl ?_
  refine g_iload_n hC dX8_figure_15 rfl 4 rfl rfl ?_
  refine g_i2l hC dX8_figure_16 rfl ?_
  refine g_callS (ws' := [(aMO, .inr (8, [.int mFault, .ref amS, .int mDays, .ref amH, .int mLin, .ref amK, .ref amO, .ref amD, .int mCool, .int mReadAt, .int mReadDays, .int mReadLin, .ref amRS, .ref amRH, .ref amRK, .ref amRO, .ref amRD, .ref amDN, .ref amSN, .int mDayNow, .int mLast, .int mTears, .int mWrong, .ref amTF, .ref amTFor, .ref amWB, .int mRdn, .ref amRdL, .ref amRdE, .ref amRdD, .ref amSz, .ref amLane, .ref amSh, .ref amHands, .int mTrace])), (amSh, .inl (cI, 240, .inl mSh))]) (st' := [.int (m_X8_in (((m_X8_codeAt mReadAt mSh frm n) - (48 : Int32)).toInt64) (0 : Int64) most.toInt64)]) (nw := 2) (n1 := 0) hC gX8_figure_X8_in hdS_yX8_in (As := [.long (((m_X8_codeAt mReadAt mSh frm n) - (48 : Int32)).toInt64), .long (0 : Int64), .long most.toInt64]) (rest := []) (c_X8_in D cI (((m_X8_codeAt mReadAt mSh frm n) - (48 : Int32)).toInt64) (0 : Int64) most.toInt64) rfl ⟨by decide, by decide⟩ rfl [] [0, 1] [0, 1] [0] rfl rfl rfl rfl (by decide) rfl rfl (Nat.le_of_ble_eq_true rfl) dX8_figure_17 rfl rfl ?_
  refine g_istore (lv' := [(5, .int (m_X8_in (((m_X8_codeAt mReadAt mSh frm n) - (48 : Int32)).toInt64) (0 : Int64) most.toInt64)), (4, .int ((m_X8_codeAt mReadAt mSh frm n) - (48 : Int32))), (0, .ref aMO), (1, .int frm), (2, .int n), (3, .int most)]) hC dX8_figure_20 (by decide) rfl rfl ?_
  refine g_aload_n hC dX8_figure_22 rfl 2 rfl rfl ?_
  refine g_dup hC dX8_figure_23 rfl rfl ?_
  refine g_get hC iw_X8_figure_RX8 0 rfl rfl 9 (by decide) (List.mem_of_getElem? (i := 1) rfl) rfl rfl dX8_figure_24 rfl ?_
  refine g_iload hC dX8_figure_27 0 rfl rfl ?_
  have K_29 : ∀ vK : Int32, vK = (if (m_X8_in (((m_X8_codeAt mReadAt mSh frm n) - (48 : Int32)).toInt64) (0 : Int64) most.toInt64) = 0 then (0 : Int32) else (1 : Int32)) → G X D 6 [(aMO, .inr (8, [.int mFault, .ref amS, .int mDays, .ref amH, .int mLin, .ref amK, .ref amO, .ref amD, .int mCool, .int mReadAt, .int mReadDays, .int mReadLin, .ref amRS, .ref amRH, .ref amRK, .ref amRO, .ref amRD, .ref amDN, .ref amSN, .int mDayNow, .int mLast, .int mTears, .int mWrong, .ref amTF, .ref amTFor, .ref amWB, .int mRdn, .ref amRdL, .ref amRdE, .ref amRdD, .ref amSz, .ref amLane, .ref amSh, .ref amHands, .int mTrace])), (amSh, .inl (cI, 240, .inl mSh))] [(5, .int (m_X8_in (((m_X8_codeAt mReadAt mSh frm n) - (48 : Int32)).toInt64) (0 : Int64) most.toInt64)), (4, .int ((m_X8_codeAt mReadAt mSh frm n) - (48 : Int32))), (0, .ref aMO), (1, .int frm), (2, .int n), (3, .int most)] 37 (.int vK :: [.int mReadAt, .ref aMO]) := by
    intro vK hvK
    subst hvK
    refine g_iadd hC dX8_figure_37 rfl ?_
    refine g_put (ws' := [(aMO, .inr (8, [.int mFault, .ref amS, .int mDays, .ref amH, .int mLin, .ref amK, .ref amO, .ref amD, .int mCool, .int (mReadAt + (if (m_X8_in (((m_X8_codeAt mReadAt mSh frm n) - (48 : Int32)).toInt64) (0 : Int64) most.toInt64) = 0 then (0 : Int32) else (1 : Int32))), .int mReadDays, .int mReadLin, .ref amRS, .ref amRH, .ref amRK, .ref amRO, .ref amRD, .ref amDN, .ref amSN, .int mDayNow, .int mLast, .int mTears, .int mWrong, .ref amTF, .ref amTFor, .ref amWB, .int mRdn, .ref amRdL, .ref amRdE, .ref amRdD, .ref amSz, .ref amLane, .ref amSh, .ref amHands, .int mTrace])), (amSh, .inl (cI, 240, .inl mSh))]) hC iw_X8_figure_RX8 0 rfl rfl 9 (by decide) (List.mem_of_getElem? (i := 1) rfl) rfl tyX8 tyX8_ok nmX8 rfl rfl rfl (Nat.le_of_ble_eq_true rfl) rfl dX8_figure_38 rfl ?_
    refine g_iload hC dX8_figure_41 0 rfl rfl ?_
    have K_43 : ∀ vK : Int32, vK = (if (m_X8_in (((m_X8_codeAt mReadAt mSh frm n) - (48 : Int32)).toInt64) (0 : Int64) most.toInt64) = 0 then (-9 : Int32) else ((m_X8_codeAt mReadAt mSh frm n) - (48 : Int32))) → G X D 6 [(aMO, .inr (8, [.int mFault, .ref amS, .int mDays, .ref amH, .int mLin, .ref amK, .ref amO, .ref amD, .int mCool, .int (mReadAt + (if (m_X8_in (((m_X8_codeAt mReadAt mSh frm n) - (48 : Int32)).toInt64) (0 : Int64) most.toInt64) = 0 then (0 : Int32) else (1 : Int32))), .int mReadDays, .int mReadLin, .ref amRS, .ref amRH, .ref amRK, .ref amRO, .ref amRD, .ref amDN, .ref amSN, .int mDayNow, .int mLast, .int mTears, .int mWrong, .ref amTF, .ref amTFor, .ref amWB, .int mRdn, .ref amRdL, .ref amRdE, .ref amRdD, .ref amSz, .ref amLane, .ref amSh, .ref amHands, .int mTrace])), (amSh, .inl (cI, 240, .inl mSh))] [(5, .int (m_X8_in (((m_X8_codeAt mReadAt mSh frm n) - (48 : Int32)).toInt64) (0 : Int64) most.toInt64)), (4, .int ((m_X8_codeAt mReadAt mSh frm n) - (48 : Int32))), (0, .ref aMO), (1, .int frm), (2, .int n), (3, .int most)] 53 (.int vK :: []) := by
      intro vK hvK
      subst hvK
      subst hres
      exact g_iret hC hX rfl dX8_figure_53 rfl rfl
    refine g_if_eq (tgt := 51) hC dX8_figure_43 (by decide) rfl (fun c_43 => ?_) (fun c_43 => ?_)
    · refine g_bipush (v := -9) hC dX8_figure_51 (by decide) rfl ?_
      exact K_43 _ (if_pos c_43).symm
    · refine g_iload hC dX8_figure_46 1 rfl rfl ?_
      refine g_goto (tgt := 53) hC dX8_figure_48 (by decide) ?_
      exact K_43 _ (if_neg c_43).symm
  refine g_if_eq (tgt := 36) hC dX8_figure_29 (by decide) rfl (fun c_29 => ?_) (fun c_29 => ?_)
  · refine g_iconst (v := 0) hC dX8_figure_36 (by decide) rfl ?_
    exact K_29 _ (if_pos c_29).symm
  · refine g_iconst (v := 1) hC dX8_figure_32 (by decide) rfl ?_
    refine g_goto (tgt := 37) hC dX8_figure_33 (by decide) ?_
    exact K_29 _ (if_neg c_29).symm
