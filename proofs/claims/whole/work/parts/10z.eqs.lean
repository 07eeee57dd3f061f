theorem eq_realm_0 : EQ_realm_0 := by
  intro aSh0 vFault vDays vLin vS vH vK vO vD tSrc tStart tLen tDays tLin vRdn vRdL vRdE vRdD sHas0 sLane0 sLen0 sA0 sHas1 sLane1 sLen1 sA1 sHas2 sLane2 sLen2 sA2 sHas3 sLane3 sLen3 sA3 mReadAt mReadDays mReadLin mRS mRH mRK mRO mRD mSz mLane mSh x1 x2 x3 x4 x5 hinv hk
  subst hk
  obtain ⟨⟨b1, b2, b3, b4, b5, b6, b7, b8, b9, b10⟩, J⟩ := eqf_realm (k := (0 : Int32)) (src := tSrc) (tS := tStart) (tL := tLen) (tD := tDays) (tLn := tLin) (has := sHas0) (lane := sLane0) (len := sLen0) (days := vDays) (lin := vLin) (rdn := vRdn) (F := vFault) (ln := x2) (i := x3) (n := x4) (ra := mReadAt) (rds := mReadDays) (rls := mReadLin) (aSh := aSh0) (A := sA0) (S := vS) (H := vH) (K := vK) (O := vO) (D := vD) (mSz := mSz) (mLane := mLane) (mSh := mSh) (mRS := mRS) (mRH := mRH) (mRK := mRK) (mRO := mRO) (mRD := mRD) (vp_in_iff.mpr (by decide)) (by rw [show (0 : Int32).toNatClampNeg = 0 by decide]; exact (SHK_0.mp (hinv.2.2.2.2.2.2.2.2.2.2.2.2.1))) hinv.2.2.2.2.2.1 hinv.2.2.1 hinv.2.2.2.2.2.2.1 hinv.2.2.2.2.1 hinv.2.2.2.1
  refine ⟨b1, b2, b3, b4, b5, b6, b7, b8, b9, b10, ?_⟩
  rcases J with ⟨j1, j2, j3, j4, j5, j6, j7, j8⟩ | ⟨j1, j2, j3, j4, j5, j6, j7, j8⟩
  · rw [j1, j2, j3, j4, j5, j6, j7, j8]
    exact hinv
  · refine ⟨j1, j2, j3, j4, j5, j6, j7, ?_, hinv.2.2.2.2.2.2.2.2.1, hinv.2.2.2.2.2.2.2.2.2.1, ?_, hinv.2.2.2.2.2.2.2.2.2.2.2⟩
    · rw [j8]; decide
    · intro j hj
      rw [j8, ti_0] at hj
      omega
theorem eq_realm_1 : EQ_realm_1 := by
  intro aSh1 vFault vDays vLin vS vH vK vO vD tSrc tStart tLen tDays tLin vRdn vRdL vRdE vRdD sHas0 sLane0 sLen0 sA0 sHas1 sLane1 sLen1 sA1 sHas2 sLane2 sLen2 sA2 sHas3 sLane3 sLen3 sA3 mReadAt mReadDays mReadLin mRS mRH mRK mRO mRD mSz mLane mSh x1 x2 x3 x4 x5 hinv hk
  subst hk
  obtain ⟨⟨b1, b2, b3, b4, b5, b6, b7, b8, b9, b10⟩, J⟩ := eqf_realm (k := (1 : Int32)) (src := tSrc) (tS := tStart) (tL := tLen) (tD := tDays) (tLn := tLin) (has := sHas1) (lane := sLane1) (len := sLen1) (days := vDays) (lin := vLin) (rdn := vRdn) (F := vFault) (ln := x2) (i := x3) (n := x4) (ra := mReadAt) (rds := mReadDays) (rls := mReadLin) (aSh := aSh1) (A := sA1) (S := vS) (H := vH) (K := vK) (O := vO) (D := vD) (mSz := mSz) (mLane := mLane) (mSh := mSh) (mRS := mRS) (mRH := mRH) (mRK := mRK) (mRO := mRO) (mRD := mRD) (vp_in_iff.mpr (by decide)) (by rw [show (1 : Int32).toNatClampNeg = 1 by decide]; exact (show SHK 1 _ _ _ _ mSz mLane mSh from hinv.2.2.2.2.2.2.2.2.2.2.2.2.2.1)) hinv.2.2.2.2.2.1 hinv.2.2.1 hinv.2.2.2.2.2.2.1 hinv.2.2.2.2.1 hinv.2.2.2.1
  refine ⟨b1, b2, b3, b4, b5, b6, b7, b8, b9, b10, ?_⟩
  rcases J with ⟨j1, j2, j3, j4, j5, j6, j7, j8⟩ | ⟨j1, j2, j3, j4, j5, j6, j7, j8⟩
  · rw [j1, j2, j3, j4, j5, j6, j7, j8]
    exact hinv
  · refine ⟨j1, j2, j3, j4, j5, j6, j7, ?_, hinv.2.2.2.2.2.2.2.2.1, hinv.2.2.2.2.2.2.2.2.2.1, ?_, hinv.2.2.2.2.2.2.2.2.2.2.2⟩
    · rw [j8]; decide
    · intro j hj
      rw [j8, ti_0] at hj
      omega
theorem eq_realm_2 : EQ_realm_2 := by
  intro aSh2 vFault vDays vLin vS vH vK vO vD tSrc tStart tLen tDays tLin vRdn vRdL vRdE vRdD sHas0 sLane0 sLen0 sA0 sHas1 sLane1 sLen1 sA1 sHas2 sLane2 sLen2 sA2 sHas3 sLane3 sLen3 sA3 mReadAt mReadDays mReadLin mRS mRH mRK mRO mRD mSz mLane mSh x1 x2 x3 x4 x5 hinv hk
  subst hk
  obtain ⟨⟨b1, b2, b3, b4, b5, b6, b7, b8, b9, b10⟩, J⟩ := eqf_realm (k := (2 : Int32)) (src := tSrc) (tS := tStart) (tL := tLen) (tD := tDays) (tLn := tLin) (has := sHas2) (lane := sLane2) (len := sLen2) (days := vDays) (lin := vLin) (rdn := vRdn) (F := vFault) (ln := x2) (i := x3) (n := x4) (ra := mReadAt) (rds := mReadDays) (rls := mReadLin) (aSh := aSh2) (A := sA2) (S := vS) (H := vH) (K := vK) (O := vO) (D := vD) (mSz := mSz) (mLane := mLane) (mSh := mSh) (mRS := mRS) (mRH := mRH) (mRK := mRK) (mRO := mRO) (mRD := mRD) (vp_in_iff.mpr (by decide)) (by rw [show (2 : Int32).toNatClampNeg = 2 by decide]; exact (show SHK 2 _ _ _ _ mSz mLane mSh from hinv.2.2.2.2.2.2.2.2.2.2.2.2.2.2.1)) hinv.2.2.2.2.2.1 hinv.2.2.1 hinv.2.2.2.2.2.2.1 hinv.2.2.2.2.1 hinv.2.2.2.1
  refine ⟨b1, b2, b3, b4, b5, b6, b7, b8, b9, b10, ?_⟩
  rcases J with ⟨j1, j2, j3, j4, j5, j6, j7, j8⟩ | ⟨j1, j2, j3, j4, j5, j6, j7, j8⟩
  · rw [j1, j2, j3, j4, j5, j6, j7, j8]
    exact hinv
  · refine ⟨j1, j2, j3, j4, j5, j6, j7, ?_, hinv.2.2.2.2.2.2.2.2.1, hinv.2.2.2.2.2.2.2.2.2.1, ?_, hinv.2.2.2.2.2.2.2.2.2.2.2⟩
    · rw [j8]; decide
    · intro j hj
      rw [j8, ti_0] at hj
      omega
theorem eq_realm_3 : EQ_realm_3 := by
  intro aSh3 vFault vDays vLin vS vH vK vO vD tSrc tStart tLen tDays tLin vRdn vRdL vRdE vRdD sHas0 sLane0 sLen0 sA0 sHas1 sLane1 sLen1 sA1 sHas2 sLane2 sLen2 sA2 sHas3 sLane3 sLen3 sA3 mReadAt mReadDays mReadLin mRS mRH mRK mRO mRD mSz mLane mSh x1 x2 x3 x4 x5 hinv hk
  subst hk
  obtain ⟨⟨b1, b2, b3, b4, b5, b6, b7, b8, b9, b10⟩, J⟩ := eqf_realm (k := (3 : Int32)) (src := tSrc) (tS := tStart) (tL := tLen) (tD := tDays) (tLn := tLin) (has := sHas3) (lane := sLane3) (len := sLen3) (days := vDays) (lin := vLin) (rdn := vRdn) (F := vFault) (ln := x2) (i := x3) (n := x4) (ra := mReadAt) (rds := mReadDays) (rls := mReadLin) (aSh := aSh3) (A := sA3) (S := vS) (H := vH) (K := vK) (O := vO) (D := vD) (mSz := mSz) (mLane := mLane) (mSh := mSh) (mRS := mRS) (mRH := mRH) (mRK := mRK) (mRO := mRO) (mRD := mRD) (vp_in_iff.mpr (by decide)) (by rw [show (3 : Int32).toNatClampNeg = 3 by decide]; exact (show SHK 3 _ _ _ _ mSz mLane mSh from hinv.2.2.2.2.2.2.2.2.2.2.2.2.2.2.2)) hinv.2.2.2.2.2.1 hinv.2.2.1 hinv.2.2.2.2.2.2.1 hinv.2.2.2.2.1 hinv.2.2.2.1
  refine ⟨b1, b2, b3, b4, b5, b6, b7, b8, b9, b10, ?_⟩
  rcases J with ⟨j1, j2, j3, j4, j5, j6, j7, j8⟩ | ⟨j1, j2, j3, j4, j5, j6, j7, j8⟩
  · rw [j1, j2, j3, j4, j5, j6, j7, j8]
    exact hinv
  · refine ⟨j1, j2, j3, j4, j5, j6, j7, ?_, hinv.2.2.2.2.2.2.2.2.1, hinv.2.2.2.2.2.2.2.2.2.1, ?_, hinv.2.2.2.2.2.2.2.2.2.2.2⟩
    · rw [j8]; decide
    · intro j hj
      rw [j8, ti_0] at hj
      omega
theorem eq_realm_o : EQ_realm_o := by
  intro vFault vDays vLin vS vH vK vO vD vRdn vRdL vRdE vRdD sHas0 sLane0 sLen0 sA0 sHas1 sLane1 sLen1 sA1 sHas2 sLane2 sLen2 sA2 sHas3 sLane3 sLen3 sA3 mReadAt mReadDays mReadLin mRS mRH mRK mRO mRD mSz mLane mSh x1 x2 x3 x4 x5 hinv hk
  rw [realm_out (noS_o hk)]
  exact ⟨rfl, rfl, rfl, rfl, rfl, rfl, rfl, rfl, rfl, rfl, hinv⟩
theorem eq_ofLinen : EQ_ofLinen := by
  intro vDays vLin vS vH vK vO vD vRdn vRdL vRdE vRdD sHas0 sLane0 sLen0 sA0 sHas1 sLane1 sLen1 sA1 sHas2 sLane2 sLen2 sA2 sHas3 sLane3 sLen3 sA3 mSz mLane mSh x1 x2 x3 x4 x5 hinv 
  exact eqf_ofLinen hinv.2.1.2
theorem eq_heat : EQ_heat := by
  intro vDays vLin vS vH vK vO vD vRdn vRdL vRdE vRdD sHas0 sLane0 sLen0 sA0 sHas1 sLane1 sLen1 sA1 sHas2 sLane2 sLen2 sA2 sHas3 sLane3 sLen3 sA3 mSz mLane mSh x1 x2 x3 x4 x5 hinv 
  exact eqf_heat hinv.1.2.1
theorem eq_warm : EQ_warm := by
  intro vDays vLin vS vH vK vO vD vRdn vRdL vRdE vRdD sHas0 sLane0 sLen0 sA0 sHas1 sLane1 sLen1 sA1 sHas2 sLane2 sLen2 sA2 sHas3 sLane3 sLen3 sA3 mSz mLane mSh x1 x2 x3 x4 x5 hinv 
  have E := eqf_warm (b := vDays) (x := x1) (v := x2) (f := vH) hinv.1.2.1
  exact ⟨congrArg (·.1) E, congrArg (·.2) E, hinv.1, hinv.2.1, warm_9 hinv.2.2.1, hinv.2.2.2⟩
theorem eq_grieve : EQ_grieve := by
  intro vDays vLin vS vH vK vO vD vRdn vRdL vRdE vRdD sHas0 sLane0 sLen0 sA0 sHas1 sLane1 sLen1 sA1 sHas2 sLane2 sLen2 sA2 sHas3 sLane3 sLen3 sA3 mSz mLane mSh x1 x2 x3 x4 x5 hinv 
  have E := eqf_grieve (b := vLin) (x := x1) (v := x2) (f := vS) hinv.2.1.1
  exact ⟨congrArg (·.1) E, congrArg (·.2) E, hinv.1, hinv.2.1, hinv.2.2.1, hinv.2.2.2.1, hinv.2.2.2.2.1, grieve_9 hinv.2.2.2.2.2.1, hinv.2.2.2.2.2.2⟩
theorem eq_give : EQ_give := by
  intro vDays vLin vS vH vK vO vD vRdn vRdL vRdE vRdD sHas0 sLane0 sLen0 sA0 sHas1 sLane1 sLen1 sA1 sHas2 sLane2 sLen2 sA2 sHas3 sLane3 sLen3 sA3 mSz mLane mSh x1 x2 x3 x4 x5 hinv 
  have E := eqf_give (b := vLin) (x := x1) (w := x2) (f := vO) hinv.2.1.2
  exact ⟨congrArg (·.1) E, congrArg (·.2) E, hinv.1, hinv.2.1, hinv.2.2.1, hinv.2.2.2.1, give_4 hinv.2.2.2.2.1, hinv.2.2.2.2.2⟩
theorem eq_dries : EQ_dries := by
  intro vDays vLin vS vH vK vO vD vRdn vRdL vRdE vRdD sHas0 sLane0 sLen0 sA0 sHas1 sLane1 sLen1 sA1 sHas2 sLane2 sLen2 sA2 sHas3 sLane3 sLen3 sA3 mSz mLane mSh x1 x2 x3 x4 x5 hinv 
  exact eqf_dries hinv.1.2.1 hinv.2.1.2
theorem eq_damp : EQ_damp := by
  intro vDays vLin vS vH vK vO vD vRdn vRdL vRdE vRdD sHas0 sLane0 sLen0 sA0 sHas1 sLane1 sLen1 sA1 sHas2 sLane2 sLen2 sA2 sHas3 sLane3 sLen3 sA3 mSz mLane mSh x1 x2 x3 x4 x5 hinv 
  exact eqf_damp hinv.1.2.1 hinv.2.1.2
theorem eq_laws : EQ_laws := by
  intro vDays vLin vS vH vK vO vD vRdn vRdL vRdE vRdD sHas0 sLane0 sLen0 sA0 sHas1 sLane1 sLen1 sA1 sHas2 sLane2 sLen2 sA2 sHas3 sLane3 sLen3 sA3 mSz mLane mSh x1 x2 x3 x4 x5 hinv 
  exact eqf_laws hinv.1.2.1 hinv.2.1.1 hinv.2.1.2
theorem eq_weeping_0 : EQ_weeping_0 := by
  intro vFault vDays vLin vS vH vK vO vD wEv wActs wLast wWrong wS wD vRdn vRdL vRdE vRdD sHas0 sLane0 sLen0 sA0 sHas1 sLane1 sLen1 sA1 sHas2 sLane2 sLen2 sA2 sHas3 sLane3 sLen3 sA3 mDayNow mLast mTears mWrong mDN mSN mSz mLane mSh x1 x2 x3 x4 x5 hinv hk
  subst hk
  exact eqf_weep (k := (0 : Int32)) (vp_in_iff.mpr (by decide)) (by rw [show (0 : Int32).toNatClampNeg = 0 by decide]; exact (SHK_0.mp (hinv.2.2.2.2.2.2.2.2.2.2.2.2.1))) hinv.2.1.1 hinv.2.1.2 hinv.1.1 hinv.1.2.1 hinv.2.2.2.2.2.1
theorem eq_weeping_1 : EQ_weeping_1 := by
  intro vFault vDays vLin vS vH vK vO vD wEv wActs wLast wWrong wS wD vRdn vRdL vRdE vRdD sHas0 sLane0 sLen0 sA0 sHas1 sLane1 sLen1 sA1 sHas2 sLane2 sLen2 sA2 sHas3 sLane3 sLen3 sA3 mDayNow mLast mTears mWrong mDN mSN mSz mLane mSh x1 x2 x3 x4 x5 hinv hk
  subst hk
  exact eqf_weep (k := (1 : Int32)) (vp_in_iff.mpr (by decide)) (by rw [show (1 : Int32).toNatClampNeg = 1 by decide]; exact (show SHK 1 _ _ _ _ mSz mLane mSh from hinv.2.2.2.2.2.2.2.2.2.2.2.2.2.1)) hinv.2.1.1 hinv.2.1.2 hinv.1.1 hinv.1.2.1 hinv.2.2.2.2.2.1
theorem eq_weeping_2 : EQ_weeping_2 := by
  intro vFault vDays vLin vS vH vK vO vD wEv wActs wLast wWrong wS wD vRdn vRdL vRdE vRdD sHas0 sLane0 sLen0 sA0 sHas1 sLane1 sLen1 sA1 sHas2 sLane2 sLen2 sA2 sHas3 sLane3 sLen3 sA3 mDayNow mLast mTears mWrong mDN mSN mSz mLane mSh x1 x2 x3 x4 x5 hinv hk
  subst hk
  exact eqf_weep (k := (2 : Int32)) (vp_in_iff.mpr (by decide)) (by rw [show (2 : Int32).toNatClampNeg = 2 by decide]; exact (show SHK 2 _ _ _ _ mSz mLane mSh from hinv.2.2.2.2.2.2.2.2.2.2.2.2.2.2.1)) hinv.2.1.1 hinv.2.1.2 hinv.1.1 hinv.1.2.1 hinv.2.2.2.2.2.1
theorem eq_weeping_3 : EQ_weeping_3 := by
  intro vFault vDays vLin vS vH vK vO vD wEv wActs wLast wWrong wS wD vRdn vRdL vRdE vRdD sHas0 sLane0 sLen0 sA0 sHas1 sLane1 sLen1 sA1 sHas2 sLane2 sLen2 sA2 sHas3 sLane3 sLen3 sA3 mDayNow mLast mTears mWrong mDN mSN mSz mLane mSh x1 x2 x3 x4 x5 hinv hk
  subst hk
  exact eqf_weep (k := (3 : Int32)) (vp_in_iff.mpr (by decide)) (by rw [show (3 : Int32).toNatClampNeg = 3 by decide]; exact (show SHK 3 _ _ _ _ mSz mLane mSh from hinv.2.2.2.2.2.2.2.2.2.2.2.2.2.2.2)) hinv.2.1.1 hinv.2.1.2 hinv.1.1 hinv.1.2.1 hinv.2.2.2.2.2.1
theorem eq_weeping_o : EQ_weeping_o := by
  intro vFault vDays vLin vS vH vK vO vD vRdn vRdL vRdE vRdD sHas0 sLane0 sLen0 sA0 sHas1 sLane1 sLen1 sA1 sHas2 sLane2 sLen2 sA2 sHas3 sLane3 sLen3 sA3 mDayNow mLast mTears mWrong mDN mSN mSz mLane mSh x1 x2 x3 x4 x5 hinv hk
  obtain ⟨a, b⟩ := weep_o (days := vDays) (lin := vLin) (F := vFault) (ln := x2) (i := x3) (n := x4) (what := x5) (mDay := mDayNow) (mLast := mLast) (mTears := mTears) (mWrong := mWrong) (S := vS) (H := vH) (K := vK) (O := vO) (D := vD) (mSz := mSz) (mLane := mLane) (mSh := mSh) (mDN := mDN) (mSN := mSN) (noS_o hk)
  exact ⟨a.symm, b.symm⟩
theorem eq_tears : EQ_tears := by
  intro vDays vLin vS vH vK vO vD kF vRdn vRdL vRdE vRdD sHas0 sLane0 sLen0 sA0 sHas1 sLane1 sLen1 sA1 sHas2 sLane2 sLen2 sA2 sHas3 sLane3 sLen3 sA3 mTF mSz mLane mSh x1 x2 x3 x4 x5 hinv 
  exact eqf_tears hinv.1.2.2 hinv.1.2.1 hinv.2.1.2 hinv.2.2.1 hinv.2.2.2.1
theorem eq_keep : EQ_keep := by
  intro vDays vLin vS vH vK vO vD kF kT vRdn vRdL vRdE vRdD sHas0 sLane0 sLen0 sA0 sHas1 sLane1 sLen1 sA1 sHas2 sLane2 sLen2 sA2 sHas3 sLane3 sLen3 sA3 mTF mTFor mWB mSz mLane mSh x1 x2 x3 x4 x5 hinv 
  exact eqf_keep hinv.1.2.2 hinv.1.2.1 hinv.2.1.1 hinv.2.1.2 hinv.2.2.1 hinv.2.2.2.1 hinv.2.2.2.2.1 hinv.2.2.2.2.2.1
theorem eq_appoint : EQ_appoint := by
  intro vDays vLin vS vH vK vO vD kF kT vRdn vRdL vRdE vRdD sHas0 sLane0 sLen0 sA0 sHas1 sLane1 sLen1 sA1 sHas2 sLane2 sLen2 sA2 sHas3 sLane3 sLen3 sA3 mTF mTFor mWB mSz mLane mSh x1 x2 x3 x4 x5 hinv 
  obtain ⟨E, A, B⟩ := eqf_appoint (b := vDays) (n := vLin) (l := x1) (O := vO) (S := vS) (H := vH) (K := vK) (D := vD) (kF := kF) (kT := kT) (mTF := mTF) (mT := mTFor) (wb := mWB) hinv.1.2.2 hinv.1.2.1 hinv.2.1.1 hinv.2.1.2 hinv.2.2.1 hinv.2.2.2.1 hinv.2.2.2.2.1 hinv.2.2.2.2.2.1
  refine ⟨E, A.trans B.symm, ?_⟩
  rw [B]
  exact hinv
theorem eq_span : EQ_span := by
  intro vDays vLin vS vH vK vO vD vRdn vRdL vRdE vRdD sHas0 sLane0 sLen0 sA0 sHas1 sLane1 sLen1 sA1 sHas2 sLane2 sLen2 sA2 sHas3 sLane3 sLen3 sA3 mSz mLane mSh x1 x2 x3 x4 x5 hinv 
  have E := eqf_span (b := vDays) (n := vLin) (l := x1) (d := x2) (H := vH) (K := vK) (D := vD) hinv.1.2.1 hinv.2.1.2
  refine ⟨congrArg (·.1) E, congrArg (·.2) E, ?_⟩
  rw [span_H]
  exact hinv
theorem eq_reading : EQ_reading := by
  intro vDays vLin vS vH vK vO vD vRdn vRdL vRdE vRdD sHas0 sLane0 sLen0 sA0 sHas1 sLane1 sLen1 sA1 sHas2 sLane2 sLen2 sA2 sHas3 sLane3 sLen3 sA3 mSz mLane mSh x1 x2 x3 x4 x5 hinv 
  have E := eqf_reading (b := vDays) (n := vLin) (rc := vRdn) (l := x1) (t := x2) (v := x3) (rL := vRdL) (rE := vRdE) (rD := vRdD) hinv.2.2.2.2.2.2.2.1.1 hinv.2.2.2.2.2.2.2.1.2
  have B := reading_I (b := vDays) (n := vLin) (rc := vRdn) (l := x1) (t := x2) (v := x3) (rL := vRdL) (rE := vRdE) (rD := vRdD) hinv.1.2.1 hinv.2.1.2 ⟨hinv.2.2.2.2.2.2.2.1, hinv.2.2.2.2.2.2.2.2.1, hinv.2.2.2.2.2.2.2.2.2.1, hinv.2.2.2.2.2.2.2.2.2.2.1⟩
  rw [E]
  exact ⟨rfl, rfl, rfl, rfl, rfl, hinv.1, hinv.2.1, hinv.2.2.1, hinv.2.2.2.1, hinv.2.2.2.2.1, hinv.2.2.2.2.2.1, hinv.2.2.2.2.2.2.1, B.1, B.2.1, B.2.2.1, B.2.2.2, hinv.2.2.2.2.2.2.2.2.2.2.2⟩
theorem eq_back : EQ_back := by
  intro vDays vLin vS vH vK vO vD vRdn vRdL vRdE vRdD sHas0 sLane0 sLen0 sA0 sHas1 sLane1 sLen1 sA1 sHas2 sLane2 sLen2 sA2 sHas3 sLane3 sLen3 sA3 mSz mLane mSh x1 x2 x3 x4 x5 hinv 
  have E := eqf_back (b := vRdn) (k := x1)
  have B := back_le (b := vRdn) (k := x1) hinv.2.2.2.2.2.2.2.1.1
  have h8 := hinv.2.2.2.2.2.2.2.1.2
  refine ⟨congrArg (·.1) E, congrArg (·.2) E, hinv.1, hinv.2.1, hinv.2.2.1, hinv.2.2.2.1, hinv.2.2.2.2.1, hinv.2.2.2.2.2.1, hinv.2.2.2.2.2.2.1, ⟨B.1, by omega⟩, hinv.2.2.2.2.2.2.2.2.1, hinv.2.2.2.2.2.2.2.2.2.1, fun j h => hinv.2.2.2.2.2.2.2.2.2.2.1 j (by omega), hinv.2.2.2.2.2.2.2.2.2.2.2⟩
theorem eq_damps : EQ_damps := by
  intro vDays vLin vS vH vK vO vD vRdn vRdL vRdE vRdD sHas0 sLane0 sLen0 sA0 sHas1 sLane1 sLen1 sA1 sHas2 sLane2 sLen2 sA2 sHas3 sLane3 sLen3 sA3 mSz mLane mSh x1 x2 x3 x4 x5 hinv 
  obtain ⟨E, B⟩ := eqf_damps (b := vDays) (n := vLin) (rc := vRdn) (rL := vRdL) (rE := vRdE) (rD := vRdD) (H := vH) (K := vK) (D := vD) (l := x1) hinv.1.2.1 hinv.2.1.2 (inv_rd hinv)
  refine ⟨congrArg (·.1) E, congrArg (·.2) E, ?_⟩
  rw [B]
  exact hinv
theorem eq_kinds : EQ_kinds := by
  intro vDays vLin vS vH vK vO vD vRdn vRdL vRdE vRdD sHas0 sLane0 sLen0 sA0 sHas1 sLane1 sLen1 sA1 sHas2 sLane2 sLen2 sA2 sHas3 sLane3 sLen3 sA3 mSz mLane mSh x1 x2 x3 x4 x5 hinv 
  obtain ⟨E, B⟩ := eqf_kinds (b := vDays) (n := vLin) (rc := vRdn) (rL := vRdL) (rE := vRdE) (rD := vRdD) (H := vH) (K := vK) (D := vD) (l := x1) hinv.1.2.1 hinv.2.1.2 (inv_rd hinv)
  refine ⟨congrArg (·.1) E, congrArg (·.2) E, ?_⟩
  rw [B]
  exact hinv
theorem eq_heats : EQ_heats := by
  intro vDays vLin vS vH vK vO vD vRdn vRdL vRdE vRdD sHas0 sLane0 sLen0 sA0 sHas1 sLane1 sLen1 sA1 sHas2 sLane2 sLen2 sA2 sHas3 sLane3 sLen3 sA3 mSz mLane mSh x1 x2 x3 x4 x5 hinv 
  obtain ⟨E, B⟩ := eqf_heats (b := vDays) (n := vLin) (rc := vRdn) (rL := vRdL) (rE := vRdE) (rD := vRdD) (H := vH) (K := vK) (D := vD) (l := x1) hinv.1.2.1 hinv.2.1.2 (inv_rd hinv)
  refine ⟨congrArg (·.1) E, congrArg (·.2) E, ?_⟩
  rw [B]
  exact hinv
theorem eq_odds : EQ_odds := by
  intro vDays vLin vS vH vK vO vD vRdn vRdL vRdE vRdD sHas0 sLane0 sLen0 sA0 sHas1 sLane1 sLen1 sA1 sHas2 sLane2 sLen2 sA2 sHas3 sLane3 sLen3 sA3 mSz mLane mSh x1 x2 x3 x4 x5 hinv 
  have E := eqf_odds (b := vDays) (n := vLin) (l := x1) (w := x2) (H := vH) (K := vK) (D := vD) hinv.1.1 hinv.1.2.1 hinv.2.1.2
  rw [E]
  exact ⟨rfl, rfl⟩
theorem eq_sheet_0 : EQ_sheet_0 := by
  intro vDays vLin vS vH vK vO vD vRdn vRdL vRdE vRdD sHas0 sLane0 sLen0 sA0 sHas1 sLane1 sLen1 sA1 sHas2 sLane2 sLen2 sA2 sHas3 sLane3 sLen3 sA3 mSz mLane mSh x1 x2 x3 x4 x5 hinv hk
  subst hk
  have B := sheet_eq (k := (0 : Int32)) (nl := x2) (n := x3) (has := sHas0) (lane := sLane0) (len := sLen0) (A := sA0) (mSz := mSz) (mLane := mLane) (mSh := mSh) (vp_in_iff.mpr (by decide)) (by rw [show (0 : Int32).toNatClampNeg = 0 by decide]; exact (SHK_0.mp (hinv.2.2.2.2.2.2.2.2.2.2.2.2.1))) (hinv.2.2.2.2.2.2.2.2.2.2.2.1)
  rw [show (0 : Int32).toNatClampNeg = 0 by decide] at B
  obtain ⟨b1, b2, b3, b4, b5, b6, b7⟩ := B
  exact ⟨b1, b2, hinv.1, hinv.2.1, hinv.2.2.1, hinv.2.2.2.1, hinv.2.2.2.2.1, hinv.2.2.2.2.2.1, hinv.2.2.2.2.2.2.1, hinv.2.2.2.2.2.2.2.1, hinv.2.2.2.2.2.2.2.2.1, hinv.2.2.2.2.2.2.2.2.2.1, hinv.2.2.2.2.2.2.2.2.2.2.1, b7, SHK_0.mpr (b3), SHK_o (by decide) (show SHK 1 _ _ _ _ mSz mLane mSh from hinv.2.2.2.2.2.2.2.2.2.2.2.2.2.1) b4 b5 b6, SHK_o (by decide) (show SHK 2 _ _ _ _ mSz mLane mSh from hinv.2.2.2.2.2.2.2.2.2.2.2.2.2.2.1) b4 b5 b6, SHK_o (by decide) (show SHK 3 _ _ _ _ mSz mLane mSh from hinv.2.2.2.2.2.2.2.2.2.2.2.2.2.2.2) b4 b5 b6⟩
theorem eq_sheet_1 : EQ_sheet_1 := by
  intro vDays vLin vS vH vK vO vD vRdn vRdL vRdE vRdD sHas0 sLane0 sLen0 sA0 sHas1 sLane1 sLen1 sA1 sHas2 sLane2 sLen2 sA2 sHas3 sLane3 sLen3 sA3 mSz mLane mSh x1 x2 x3 x4 x5 hinv hk
  subst hk
  have B := sheet_eq (k := (1 : Int32)) (nl := x2) (n := x3) (has := sHas1) (lane := sLane1) (len := sLen1) (A := sA1) (mSz := mSz) (mLane := mLane) (mSh := mSh) (vp_in_iff.mpr (by decide)) (by rw [show (1 : Int32).toNatClampNeg = 1 by decide]; exact (show SHK 1 _ _ _ _ mSz mLane mSh from hinv.2.2.2.2.2.2.2.2.2.2.2.2.2.1)) (hinv.2.2.2.2.2.2.2.2.2.2.2.1)
  rw [show (1 : Int32).toNatClampNeg = 1 by decide] at B
  obtain ⟨b1, b2, b3, b4, b5, b6, b7⟩ := B
  exact ⟨b1, b2, hinv.1, hinv.2.1, hinv.2.2.1, hinv.2.2.2.1, hinv.2.2.2.2.1, hinv.2.2.2.2.2.1, hinv.2.2.2.2.2.2.1, hinv.2.2.2.2.2.2.2.1, hinv.2.2.2.2.2.2.2.2.1, hinv.2.2.2.2.2.2.2.2.2.1, hinv.2.2.2.2.2.2.2.2.2.2.1, b7, SHK_0.mpr (SHK_o (by decide) (SHK_0.mp (hinv.2.2.2.2.2.2.2.2.2.2.2.2.1)) b4 b5 b6), b3, SHK_o (by decide) (show SHK 2 _ _ _ _ mSz mLane mSh from hinv.2.2.2.2.2.2.2.2.2.2.2.2.2.2.1) b4 b5 b6, SHK_o (by decide) (show SHK 3 _ _ _ _ mSz mLane mSh from hinv.2.2.2.2.2.2.2.2.2.2.2.2.2.2.2) b4 b5 b6⟩
theorem eq_sheet_2 : EQ_sheet_2 := by
  intro vDays vLin vS vH vK vO vD vRdn vRdL vRdE vRdD sHas0 sLane0 sLen0 sA0 sHas1 sLane1 sLen1 sA1 sHas2 sLane2 sLen2 sA2 sHas3 sLane3 sLen3 sA3 mSz mLane mSh x1 x2 x3 x4 x5 hinv hk
  subst hk
  have B := sheet_eq (k := (2 : Int32)) (nl := x2) (n := x3) (has := sHas2) (lane := sLane2) (len := sLen2) (A := sA2) (mSz := mSz) (mLane := mLane) (mSh := mSh) (vp_in_iff.mpr (by decide)) (by rw [show (2 : Int32).toNatClampNeg = 2 by decide]; exact (show SHK 2 _ _ _ _ mSz mLane mSh from hinv.2.2.2.2.2.2.2.2.2.2.2.2.2.2.1)) (hinv.2.2.2.2.2.2.2.2.2.2.2.1)
  rw [show (2 : Int32).toNatClampNeg = 2 by decide] at B
  obtain ⟨b1, b2, b3, b4, b5, b6, b7⟩ := B
  exact ⟨b1, b2, hinv.1, hinv.2.1, hinv.2.2.1, hinv.2.2.2.1, hinv.2.2.2.2.1, hinv.2.2.2.2.2.1, hinv.2.2.2.2.2.2.1, hinv.2.2.2.2.2.2.2.1, hinv.2.2.2.2.2.2.2.2.1, hinv.2.2.2.2.2.2.2.2.2.1, hinv.2.2.2.2.2.2.2.2.2.2.1, b7, SHK_0.mpr (SHK_o (by decide) (SHK_0.mp (hinv.2.2.2.2.2.2.2.2.2.2.2.2.1)) b4 b5 b6), SHK_o (by decide) (show SHK 1 _ _ _ _ mSz mLane mSh from hinv.2.2.2.2.2.2.2.2.2.2.2.2.2.1) b4 b5 b6, b3, SHK_o (by decide) (show SHK 3 _ _ _ _ mSz mLane mSh from hinv.2.2.2.2.2.2.2.2.2.2.2.2.2.2.2) b4 b5 b6⟩
theorem eq_sheet_3 : EQ_sheet_3 := by
  intro vDays vLin vS vH vK vO vD vRdn vRdL vRdE vRdD sHas0 sLane0 sLen0 sA0 sHas1 sLane1 sLen1 sA1 sHas2 sLane2 sLen2 sA2 sHas3 sLane3 sLen3 sA3 mSz mLane mSh x1 x2 x3 x4 x5 hinv hk
  subst hk
  have B := sheet_eq (k := (3 : Int32)) (nl := x2) (n := x3) (has := sHas3) (lane := sLane3) (len := sLen3) (A := sA3) (mSz := mSz) (mLane := mLane) (mSh := mSh) (vp_in_iff.mpr (by decide)) (by rw [show (3 : Int32).toNatClampNeg = 3 by decide]; exact (show SHK 3 _ _ _ _ mSz mLane mSh from hinv.2.2.2.2.2.2.2.2.2.2.2.2.2.2.2)) (hinv.2.2.2.2.2.2.2.2.2.2.2.1)
  rw [show (3 : Int32).toNatClampNeg = 3 by decide] at B
  obtain ⟨b1, b2, b3, b4, b5, b6, b7⟩ := B
  exact ⟨b1, b2, hinv.1, hinv.2.1, hinv.2.2.1, hinv.2.2.2.1, hinv.2.2.2.2.1, hinv.2.2.2.2.2.1, hinv.2.2.2.2.2.2.1, hinv.2.2.2.2.2.2.2.1, hinv.2.2.2.2.2.2.2.2.1, hinv.2.2.2.2.2.2.2.2.2.1, hinv.2.2.2.2.2.2.2.2.2.2.1, b7, SHK_0.mpr (SHK_o (by decide) (SHK_0.mp (hinv.2.2.2.2.2.2.2.2.2.2.2.2.1)) b4 b5 b6), SHK_o (by decide) (show SHK 1 _ _ _ _ mSz mLane mSh from hinv.2.2.2.2.2.2.2.2.2.2.2.2.2.1) b4 b5 b6, SHK_o (by decide) (show SHK 2 _ _ _ _ mSz mLane mSh from hinv.2.2.2.2.2.2.2.2.2.2.2.2.2.2.1) b4 b5 b6, b3⟩
theorem eq_sheet_o : EQ_sheet_o := by
  intro vDays vLin vS vH vK vO vD vRdn vRdL vRdE vRdD sHas0 sLane0 sLen0 sA0 sHas1 sLane1 sLen1 sA1 sHas2 sLane2 sLen2 sA2 sHas3 sLane3 sLen3 sA3 mSz mLane mSh x1 x2 x3 x4 x5 hinv hk
  rw [sheet_o (noS_o hk)]
  exact ⟨rfl, rfl, hinv⟩
theorem eq_lose_0 : EQ_lose_0 := by
  intro vDays vLin vS vH vK vO vD vRdn vRdL vRdE vRdD sHas0 sLane0 sLen0 sA0 sHas1 sLane1 sLen1 sA1 sHas2 sLane2 sLen2 sA2 sHas3 sLane3 sLen3 sA3 mSz mLane mSh x1 x2 x3 x4 x5 hinv hk
  subst hk
  obtain ⟨E, B⟩ := eqf_lose (k := (0 : Int32)) (mSz := mSz) (vp_in_iff.mpr (by decide)) (hinv.2.2.2.2.2.2.2.2.2.2.2.2.1)
  refine ⟨E, ?_⟩
  rw [B]
  exact ⟨hinv.1, hinv.2.1, hinv.2.2.1, hinv.2.2.2.1, hinv.2.2.2.2.1, hinv.2.2.2.2.2.1, hinv.2.2.2.2.2.2.1, hinv.2.2.2.2.2.2.2.1, hinv.2.2.2.2.2.2.2.2.1, hinv.2.2.2.2.2.2.2.2.2.1, hinv.2.2.2.2.2.2.2.2.2.2.1, upd_all (P := fun x => x.toInt ≤ 60) hinv.2.2.2.2.2.2.2.2.2.2.2.1 (by decide), shr_lose (hinv.2.2.2.2.2.2.2.2.2.2.2.2.1), hinv.2.2.2.2.2.2.2.2.2.2.2.2.2.1, hinv.2.2.2.2.2.2.2.2.2.2.2.2.2.2.1, hinv.2.2.2.2.2.2.2.2.2.2.2.2.2.2.2⟩
theorem eq_lose_1 : EQ_lose_1 := by
  intro vDays vLin vS vH vK vO vD vRdn vRdL vRdE vRdD sHas0 sLane0 sLen0 sA0 sHas1 sLane1 sLen1 sA1 sHas2 sLane2 sLen2 sA2 sHas3 sLane3 sLen3 sA3 mSz mLane mSh x1 x2 x3 x4 x5 hinv hk
  subst hk
  obtain ⟨E, B⟩ := eqf_lose (k := (1 : Int32)) (mSz := mSz) (vp_in_iff.mpr (by decide)) (hinv.2.2.2.2.2.2.2.2.2.2.2.2.2.1)
  refine ⟨E, ?_⟩
  rw [B]
  exact ⟨hinv.1, hinv.2.1, hinv.2.2.1, hinv.2.2.2.1, hinv.2.2.2.2.1, hinv.2.2.2.2.2.1, hinv.2.2.2.2.2.2.1, hinv.2.2.2.2.2.2.2.1, hinv.2.2.2.2.2.2.2.2.1, hinv.2.2.2.2.2.2.2.2.2.1, hinv.2.2.2.2.2.2.2.2.2.2.1, upd_all (P := fun x => x.toInt ≤ 60) hinv.2.2.2.2.2.2.2.2.2.2.2.1 (by decide), hinv.2.2.2.2.2.2.2.2.2.2.2.2.1, shr_lose (hinv.2.2.2.2.2.2.2.2.2.2.2.2.2.1), hinv.2.2.2.2.2.2.2.2.2.2.2.2.2.2.1, hinv.2.2.2.2.2.2.2.2.2.2.2.2.2.2.2⟩
theorem eq_lose_2 : EQ_lose_2 := by
  intro vDays vLin vS vH vK vO vD vRdn vRdL vRdE vRdD sHas0 sLane0 sLen0 sA0 sHas1 sLane1 sLen1 sA1 sHas2 sLane2 sLen2 sA2 sHas3 sLane3 sLen3 sA3 mSz mLane mSh x1 x2 x3 x4 x5 hinv hk
  subst hk
  obtain ⟨E, B⟩ := eqf_lose (k := (2 : Int32)) (mSz := mSz) (vp_in_iff.mpr (by decide)) (hinv.2.2.2.2.2.2.2.2.2.2.2.2.2.2.1)
  refine ⟨E, ?_⟩
  rw [B]
  exact ⟨hinv.1, hinv.2.1, hinv.2.2.1, hinv.2.2.2.1, hinv.2.2.2.2.1, hinv.2.2.2.2.2.1, hinv.2.2.2.2.2.2.1, hinv.2.2.2.2.2.2.2.1, hinv.2.2.2.2.2.2.2.2.1, hinv.2.2.2.2.2.2.2.2.2.1, hinv.2.2.2.2.2.2.2.2.2.2.1, upd_all (P := fun x => x.toInt ≤ 60) hinv.2.2.2.2.2.2.2.2.2.2.2.1 (by decide), hinv.2.2.2.2.2.2.2.2.2.2.2.2.1, hinv.2.2.2.2.2.2.2.2.2.2.2.2.2.1, shr_lose (hinv.2.2.2.2.2.2.2.2.2.2.2.2.2.2.1), hinv.2.2.2.2.2.2.2.2.2.2.2.2.2.2.2⟩
theorem eq_lose_3 : EQ_lose_3 := by
  intro vDays vLin vS vH vK vO vD vRdn vRdL vRdE vRdD sHas0 sLane0 sLen0 sA0 sHas1 sLane1 sLen1 sA1 sHas2 sLane2 sLen2 sA2 sHas3 sLane3 sLen3 sA3 mSz mLane mSh x1 x2 x3 x4 x5 hinv hk
  subst hk
  obtain ⟨E, B⟩ := eqf_lose (k := (3 : Int32)) (mSz := mSz) (vp_in_iff.mpr (by decide)) (hinv.2.2.2.2.2.2.2.2.2.2.2.2.2.2.2)
  refine ⟨E, ?_⟩
  rw [B]
  exact ⟨hinv.1, hinv.2.1, hinv.2.2.1, hinv.2.2.2.1, hinv.2.2.2.2.1, hinv.2.2.2.2.2.1, hinv.2.2.2.2.2.2.1, hinv.2.2.2.2.2.2.2.1, hinv.2.2.2.2.2.2.2.2.1, hinv.2.2.2.2.2.2.2.2.2.1, hinv.2.2.2.2.2.2.2.2.2.2.1, upd_all (P := fun x => x.toInt ≤ 60) hinv.2.2.2.2.2.2.2.2.2.2.2.1 (by decide), hinv.2.2.2.2.2.2.2.2.2.2.2.2.1, hinv.2.2.2.2.2.2.2.2.2.2.2.2.2.1, hinv.2.2.2.2.2.2.2.2.2.2.2.2.2.2.1, shr_lose (hinv.2.2.2.2.2.2.2.2.2.2.2.2.2.2.2)⟩
theorem eq_lose_o : EQ_lose_o := by
  intro vDays vLin vS vH vK vO vD vRdn vRdL vRdE vRdD sHas0 sLane0 sLen0 sA0 sHas1 sLane1 sLen1 sA1 sHas2 sLane2 sLen2 sA2 sHas3 sLane3 sLen3 sA3 mSz mLane mSh x1 x2 x3 x4 x5 hinv hk
  rw [eqf_lose_o hk]
  exact ⟨rfl, hinv⟩
theorem eq_put_0 : EQ_put_0 := by
  intro vDays vLin vS vH vK vO vD vRdn vRdL vRdE vRdD sHas0 sLane0 sLen0 sA0 sHas1 sLane1 sLen1 sA1 sHas2 sLane2 sLen2 sA2 sHas3 sLane3 sLen3 sA3 mSz mLane mSh x1 x2 x3 x4 x5 hinv hk
  subst hk
  have B := put_eq (k := (0 : Int32)) (i := x2) (v := x3) (has := sHas0) (lane := sLane0) (len := sLen0) (A := sA0) (mSz := mSz) (mLane := mLane) (mSh := mSh) (vp_in_iff.mpr (by decide)) (by rw [show (0 : Int32).toNatClampNeg = 0 by decide]; exact (SHK_0.mp (hinv.2.2.2.2.2.2.2.2.2.2.2.2.1)))
  rw [show (0 : Int32).toNatClampNeg = 0 by decide] at B
  obtain ⟨b1, b2, b3, b4⟩ := B
  exact ⟨b1, b2, hinv.1, hinv.2.1, hinv.2.2.1, hinv.2.2.2.1, hinv.2.2.2.2.1, hinv.2.2.2.2.2.1, hinv.2.2.2.2.2.2.1, hinv.2.2.2.2.2.2.2.1, hinv.2.2.2.2.2.2.2.2.1, hinv.2.2.2.2.2.2.2.2.2.1, hinv.2.2.2.2.2.2.2.2.2.2.1, hinv.2.2.2.2.2.2.2.2.2.2.2.1, SHK_0.mpr (b3), SHK_o (by decide) (show SHK 1 _ _ _ _ mSz mLane mSh from hinv.2.2.2.2.2.2.2.2.2.2.2.2.2.1) (fun _ _ => rfl) (fun _ _ => rfl) b4, SHK_o (by decide) (show SHK 2 _ _ _ _ mSz mLane mSh from hinv.2.2.2.2.2.2.2.2.2.2.2.2.2.2.1) (fun _ _ => rfl) (fun _ _ => rfl) b4, SHK_o (by decide) (show SHK 3 _ _ _ _ mSz mLane mSh from hinv.2.2.2.2.2.2.2.2.2.2.2.2.2.2.2) (fun _ _ => rfl) (fun _ _ => rfl) b4⟩
theorem eq_put_1 : EQ_put_1 := by
  intro vDays vLin vS vH vK vO vD vRdn vRdL vRdE vRdD sHas0 sLane0 sLen0 sA0 sHas1 sLane1 sLen1 sA1 sHas2 sLane2 sLen2 sA2 sHas3 sLane3 sLen3 sA3 mSz mLane mSh x1 x2 x3 x4 x5 hinv hk
  subst hk
  have B := put_eq (k := (1 : Int32)) (i := x2) (v := x3) (has := sHas1) (lane := sLane1) (len := sLen1) (A := sA1) (mSz := mSz) (mLane := mLane) (mSh := mSh) (vp_in_iff.mpr (by decide)) (by rw [show (1 : Int32).toNatClampNeg = 1 by decide]; exact (show SHK 1 _ _ _ _ mSz mLane mSh from hinv.2.2.2.2.2.2.2.2.2.2.2.2.2.1))
  rw [show (1 : Int32).toNatClampNeg = 1 by decide] at B
  obtain ⟨b1, b2, b3, b4⟩ := B
  exact ⟨b1, b2, hinv.1, hinv.2.1, hinv.2.2.1, hinv.2.2.2.1, hinv.2.2.2.2.1, hinv.2.2.2.2.2.1, hinv.2.2.2.2.2.2.1, hinv.2.2.2.2.2.2.2.1, hinv.2.2.2.2.2.2.2.2.1, hinv.2.2.2.2.2.2.2.2.2.1, hinv.2.2.2.2.2.2.2.2.2.2.1, hinv.2.2.2.2.2.2.2.2.2.2.2.1, SHK_0.mpr (SHK_o (by decide) (SHK_0.mp (hinv.2.2.2.2.2.2.2.2.2.2.2.2.1)) (fun _ _ => rfl) (fun _ _ => rfl) b4), b3, SHK_o (by decide) (show SHK 2 _ _ _ _ mSz mLane mSh from hinv.2.2.2.2.2.2.2.2.2.2.2.2.2.2.1) (fun _ _ => rfl) (fun _ _ => rfl) b4, SHK_o (by decide) (show SHK 3 _ _ _ _ mSz mLane mSh from hinv.2.2.2.2.2.2.2.2.2.2.2.2.2.2.2) (fun _ _ => rfl) (fun _ _ => rfl) b4⟩
theorem eq_put_2 : EQ_put_2 := by
  intro vDays vLin vS vH vK vO vD vRdn vRdL vRdE vRdD sHas0 sLane0 sLen0 sA0 sHas1 sLane1 sLen1 sA1 sHas2 sLane2 sLen2 sA2 sHas3 sLane3 sLen3 sA3 mSz mLane mSh x1 x2 x3 x4 x5 hinv hk
  subst hk
  have B := put_eq (k := (2 : Int32)) (i := x2) (v := x3) (has := sHas2) (lane := sLane2) (len := sLen2) (A := sA2) (mSz := mSz) (mLane := mLane) (mSh := mSh) (vp_in_iff.mpr (by decide)) (by rw [show (2 : Int32).toNatClampNeg = 2 by decide]; exact (show SHK 2 _ _ _ _ mSz mLane mSh from hinv.2.2.2.2.2.2.2.2.2.2.2.2.2.2.1))
  rw [show (2 : Int32).toNatClampNeg = 2 by decide] at B
  obtain ⟨b1, b2, b3, b4⟩ := B
  exact ⟨b1, b2, hinv.1, hinv.2.1, hinv.2.2.1, hinv.2.2.2.1, hinv.2.2.2.2.1, hinv.2.2.2.2.2.1, hinv.2.2.2.2.2.2.1, hinv.2.2.2.2.2.2.2.1, hinv.2.2.2.2.2.2.2.2.1, hinv.2.2.2.2.2.2.2.2.2.1, hinv.2.2.2.2.2.2.2.2.2.2.1, hinv.2.2.2.2.2.2.2.2.2.2.2.1, SHK_0.mpr (SHK_o (by decide) (SHK_0.mp (hinv.2.2.2.2.2.2.2.2.2.2.2.2.1)) (fun _ _ => rfl) (fun _ _ => rfl) b4), SHK_o (by decide) (show SHK 1 _ _ _ _ mSz mLane mSh from hinv.2.2.2.2.2.2.2.2.2.2.2.2.2.1) (fun _ _ => rfl) (fun _ _ => rfl) b4, b3, SHK_o (by decide) (show SHK 3 _ _ _ _ mSz mLane mSh from hinv.2.2.2.2.2.2.2.2.2.2.2.2.2.2.2) (fun _ _ => rfl) (fun _ _ => rfl) b4⟩
theorem eq_put_3 : EQ_put_3 := by
  intro vDays vLin vS vH vK vO vD vRdn vRdL vRdE vRdD sHas0 sLane0 sLen0 sA0 sHas1 sLane1 sLen1 sA1 sHas2 sLane2 sLen2 sA2 sHas3 sLane3 sLen3 sA3 mSz mLane mSh x1 x2 x3 x4 x5 hinv hk
  subst hk
  have B := put_eq (k := (3 : Int32)) (i := x2) (v := x3) (has := sHas3) (lane := sLane3) (len := sLen3) (A := sA3) (mSz := mSz) (mLane := mLane) (mSh := mSh) (vp_in_iff.mpr (by decide)) (by rw [show (3 : Int32).toNatClampNeg = 3 by decide]; exact (show SHK 3 _ _ _ _ mSz mLane mSh from hinv.2.2.2.2.2.2.2.2.2.2.2.2.2.2.2))
  rw [show (3 : Int32).toNatClampNeg = 3 by decide] at B
  obtain ⟨b1, b2, b3, b4⟩ := B
  exact ⟨b1, b2, hinv.1, hinv.2.1, hinv.2.2.1, hinv.2.2.2.1, hinv.2.2.2.2.1, hinv.2.2.2.2.2.1, hinv.2.2.2.2.2.2.1, hinv.2.2.2.2.2.2.2.1, hinv.2.2.2.2.2.2.2.2.1, hinv.2.2.2.2.2.2.2.2.2.1, hinv.2.2.2.2.2.2.2.2.2.2.1, hinv.2.2.2.2.2.2.2.2.2.2.2.1, SHK_0.mpr (SHK_o (by decide) (SHK_0.mp (hinv.2.2.2.2.2.2.2.2.2.2.2.2.1)) (fun _ _ => rfl) (fun _ _ => rfl) b4), SHK_o (by decide) (show SHK 1 _ _ _ _ mSz mLane mSh from hinv.2.2.2.2.2.2.2.2.2.2.2.2.2.1) (fun _ _ => rfl) (fun _ _ => rfl) b4, SHK_o (by decide) (show SHK 2 _ _ _ _ mSz mLane mSh from hinv.2.2.2.2.2.2.2.2.2.2.2.2.2.2.1) (fun _ _ => rfl) (fun _ _ => rfl) b4, b3⟩
theorem eq_put_o : EQ_put_o := by
  intro vDays vLin vS vH vK vO vD vRdn vRdL vRdE vRdD sHas0 sLane0 sLen0 sA0 sHas1 sLane1 sLen1 sA1 sHas2 sLane2 sLen2 sA2 sHas3 sLane3 sLen3 sA3 mSz mLane mSh x1 x2 x3 x4 x5 hinv hk
  rw [put_o (noS_o hk)]
  exact ⟨rfl, rfl, hinv⟩
theorem eq_cell_0 : EQ_cell_0 := by
  intro vDays vLin vS vH vK vO vD vRdn vRdL vRdE vRdD sHas0 sLane0 sLen0 sA0 sHas1 sLane1 sLen1 sA1 sHas2 sLane2 sLen2 sA2 sHas3 sLane3 sLen3 sA3 mSz mLane mSh x1 x2 x3 x4 x5 hinv hk
  subst hk
  have B := cell_eq (k := (0 : Int32)) (i := x2) (ln := x3) (has := sHas0) (lane := sLane0) (len := sLen0) (A := sA0) (mSz := mSz) (mLane := mLane) (mSh := mSh) (vp_in_iff.mpr (by decide)) (by rw [show (0 : Int32).toNatClampNeg = 0 by decide]; exact (SHK_0.mp (hinv.2.2.2.2.2.2.2.2.2.2.2.2.1)))
  exact ⟨congrArg (·.1) B, congrArg (·.2) B⟩
theorem eq_cell_1 : EQ_cell_1 := by
  intro vDays vLin vS vH vK vO vD vRdn vRdL vRdE vRdD sHas0 sLane0 sLen0 sA0 sHas1 sLane1 sLen1 sA1 sHas2 sLane2 sLen2 sA2 sHas3 sLane3 sLen3 sA3 mSz mLane mSh x1 x2 x3 x4 x5 hinv hk
  subst hk
  have B := cell_eq (k := (1 : Int32)) (i := x2) (ln := x3) (has := sHas1) (lane := sLane1) (len := sLen1) (A := sA1) (mSz := mSz) (mLane := mLane) (mSh := mSh) (vp_in_iff.mpr (by decide)) (by rw [show (1 : Int32).toNatClampNeg = 1 by decide]; exact (show SHK 1 _ _ _ _ mSz mLane mSh from hinv.2.2.2.2.2.2.2.2.2.2.2.2.2.1))
  exact ⟨congrArg (·.1) B, congrArg (·.2) B⟩
theorem eq_cell_2 : EQ_cell_2 := by
  intro vDays vLin vS vH vK vO vD vRdn vRdL vRdE vRdD sHas0 sLane0 sLen0 sA0 sHas1 sLane1 sLen1 sA1 sHas2 sLane2 sLen2 sA2 sHas3 sLane3 sLen3 sA3 mSz mLane mSh x1 x2 x3 x4 x5 hinv hk
  subst hk
  have B := cell_eq (k := (2 : Int32)) (i := x2) (ln := x3) (has := sHas2) (lane := sLane2) (len := sLen2) (A := sA2) (mSz := mSz) (mLane := mLane) (mSh := mSh) (vp_in_iff.mpr (by decide)) (by rw [show (2 : Int32).toNatClampNeg = 2 by decide]; exact (show SHK 2 _ _ _ _ mSz mLane mSh from hinv.2.2.2.2.2.2.2.2.2.2.2.2.2.2.1))
  exact ⟨congrArg (·.1) B, congrArg (·.2) B⟩
theorem eq_cell_3 : EQ_cell_3 := by
  intro vDays vLin vS vH vK vO vD vRdn vRdL vRdE vRdD sHas0 sLane0 sLen0 sA0 sHas1 sLane1 sLen1 sA1 sHas2 sLane2 sLen2 sA2 sHas3 sLane3 sLen3 sA3 mSz mLane mSh x1 x2 x3 x4 x5 hinv hk
  subst hk
  have B := cell_eq (k := (3 : Int32)) (i := x2) (ln := x3) (has := sHas3) (lane := sLane3) (len := sLen3) (A := sA3) (mSz := mSz) (mLane := mLane) (mSh := mSh) (vp_in_iff.mpr (by decide)) (by rw [show (3 : Int32).toNatClampNeg = 3 by decide]; exact (show SHK 3 _ _ _ _ mSz mLane mSh from hinv.2.2.2.2.2.2.2.2.2.2.2.2.2.2.2))
  exact ⟨congrArg (·.1) B, congrArg (·.2) B⟩
theorem eq_cell_o : EQ_cell_o := by
  intro vDays vLin vS vH vK vO vD vRdn vRdL vRdE vRdD sHas0 sLane0 sLen0 sA0 sHas1 sLane1 sLen1 sA1 sHas2 sLane2 sLen2 sA2 sHas3 sLane3 sLen3 sA3 mSz mLane mSh x1 x2 x3 x4 x5 hinv hk
  rw [cell_o (noS_o hk)]
  exact ⟨rfl, rfl⟩
theorem eq_copy_00 : EQ_copy_00 := by
  intro vDays vLin vS vH vK vO vD vRdn vRdL vRdE vRdD sHas0 sLane0 sLen0 sA0 sHas1 sLane1 sLen1 sA1 sHas2 sLane2 sLen2 sA2 sHas3 sLane3 sLen3 sA3 mSz mLane mSh mHands x1 x2 x3 x4 x5 hinv hk hk3
  subst hk
  subst hk3
  have B := copy_core (k := (0 : Int32)) (o := (0 : Int32)) (i := x2) (j := x4) (n := x5) (mHands := mHands) (has := sHas0) (lane := sLane0) (len := sLen0) (A := sA0) (hasb := sHas0) (laneb := sLane0) (lenb := sLen0) (Ab := sA0) (mSz := mSz) (mLane := mLane) (mSh := mSh) (vp_in_iff.mpr (by decide)) (vp_in_iff.mpr (by decide)) (by rw [show (0 : Int32).toNatClampNeg = 0 by decide]; exact (SHK_0.mp (hinv.2.2.2.2.2.2.2.2.2.2.2.2.1))) (by rw [show (0 : Int32).toNatClampNeg = 0 by decide]; exact (SHK_0.mp (hinv.2.2.2.2.2.2.2.2.2.2.2.2.1)))
  rw [show (0 : Int32).toNatClampNeg = 0 by decide] at B
  obtain ⟨b1, b2, b3, b4⟩ := B
  exact ⟨b1, b2, hinv.1, hinv.2.1, hinv.2.2.1, hinv.2.2.2.1, hinv.2.2.2.2.1, hinv.2.2.2.2.2.1, hinv.2.2.2.2.2.2.1, hinv.2.2.2.2.2.2.2.1, hinv.2.2.2.2.2.2.2.2.1, hinv.2.2.2.2.2.2.2.2.2.1, hinv.2.2.2.2.2.2.2.2.2.2.1, hinv.2.2.2.2.2.2.2.2.2.2.2.1, SHK_0.mpr (b3), SHK_o (by decide) (show SHK 1 _ _ _ _ mSz mLane mSh from hinv.2.2.2.2.2.2.2.2.2.2.2.2.2.1) (fun _ _ => rfl) (fun _ _ => rfl) b4, SHK_o (by decide) (show SHK 2 _ _ _ _ mSz mLane mSh from hinv.2.2.2.2.2.2.2.2.2.2.2.2.2.2.1) (fun _ _ => rfl) (fun _ _ => rfl) b4, SHK_o (by decide) (show SHK 3 _ _ _ _ mSz mLane mSh from hinv.2.2.2.2.2.2.2.2.2.2.2.2.2.2.2) (fun _ _ => rfl) (fun _ _ => rfl) b4⟩
theorem eq_copy_01 : EQ_copy_01 := by
  intro vDays vLin vS vH vK vO vD vRdn vRdL vRdE vRdD sHas0 sLane0 sLen0 sA0 sHas1 sLane1 sLen1 sA1 sHas2 sLane2 sLen2 sA2 sHas3 sLane3 sLen3 sA3 mSz mLane mSh mHands x1 x2 x3 x4 x5 hinv hk hk3
  subst hk
  subst hk3
  have B := copy_core (k := (0 : Int32)) (o := (1 : Int32)) (i := x2) (j := x4) (n := x5) (mHands := mHands) (has := sHas0) (lane := sLane0) (len := sLen0) (A := sA0) (hasb := sHas1) (laneb := sLane1) (lenb := sLen1) (Ab := sA1) (mSz := mSz) (mLane := mLane) (mSh := mSh) (vp_in_iff.mpr (by decide)) (vp_in_iff.mpr (by decide)) (by rw [show (0 : Int32).toNatClampNeg = 0 by decide]; exact (SHK_0.mp (hinv.2.2.2.2.2.2.2.2.2.2.2.2.1))) (by rw [show (1 : Int32).toNatClampNeg = 1 by decide]; exact (show SHK 1 _ _ _ _ mSz mLane mSh from hinv.2.2.2.2.2.2.2.2.2.2.2.2.2.1))
  rw [show (1 : Int32).toNatClampNeg = 1 by decide] at B
  obtain ⟨b1, b2, b3, b4⟩ := B
  exact ⟨b1, b2, hinv.1, hinv.2.1, hinv.2.2.1, hinv.2.2.2.1, hinv.2.2.2.2.1, hinv.2.2.2.2.2.1, hinv.2.2.2.2.2.2.1, hinv.2.2.2.2.2.2.2.1, hinv.2.2.2.2.2.2.2.2.1, hinv.2.2.2.2.2.2.2.2.2.1, hinv.2.2.2.2.2.2.2.2.2.2.1, hinv.2.2.2.2.2.2.2.2.2.2.2.1, SHK_0.mpr (SHK_o (by decide) (SHK_0.mp (hinv.2.2.2.2.2.2.2.2.2.2.2.2.1)) (fun _ _ => rfl) (fun _ _ => rfl) b4), b3, SHK_o (by decide) (show SHK 2 _ _ _ _ mSz mLane mSh from hinv.2.2.2.2.2.2.2.2.2.2.2.2.2.2.1) (fun _ _ => rfl) (fun _ _ => rfl) b4, SHK_o (by decide) (show SHK 3 _ _ _ _ mSz mLane mSh from hinv.2.2.2.2.2.2.2.2.2.2.2.2.2.2.2) (fun _ _ => rfl) (fun _ _ => rfl) b4⟩
theorem eq_copy_02 : EQ_copy_02 := by
  intro vDays vLin vS vH vK vO vD vRdn vRdL vRdE vRdD sHas0 sLane0 sLen0 sA0 sHas1 sLane1 sLen1 sA1 sHas2 sLane2 sLen2 sA2 sHas3 sLane3 sLen3 sA3 mSz mLane mSh mHands x1 x2 x3 x4 x5 hinv hk hk3
  subst hk
  subst hk3
  have B := copy_core (k := (0 : Int32)) (o := (2 : Int32)) (i := x2) (j := x4) (n := x5) (mHands := mHands) (has := sHas0) (lane := sLane0) (len := sLen0) (A := sA0) (hasb := sHas2) (laneb := sLane2) (lenb := sLen2) (Ab := sA2) (mSz := mSz) (mLane := mLane) (mSh := mSh) (vp_in_iff.mpr (by decide)) (vp_in_iff.mpr (by decide)) (by rw [show (0 : Int32).toNatClampNeg = 0 by decide]; exact (SHK_0.mp (hinv.2.2.2.2.2.2.2.2.2.2.2.2.1))) (by rw [show (2 : Int32).toNatClampNeg = 2 by decide]; exact (show SHK 2 _ _ _ _ mSz mLane mSh from hinv.2.2.2.2.2.2.2.2.2.2.2.2.2.2.1))
  rw [show (2 : Int32).toNatClampNeg = 2 by decide] at B
  obtain ⟨b1, b2, b3, b4⟩ := B
  exact ⟨b1, b2, hinv.1, hinv.2.1, hinv.2.2.1, hinv.2.2.2.1, hinv.2.2.2.2.1, hinv.2.2.2.2.2.1, hinv.2.2.2.2.2.2.1, hinv.2.2.2.2.2.2.2.1, hinv.2.2.2.2.2.2.2.2.1, hinv.2.2.2.2.2.2.2.2.2.1, hinv.2.2.2.2.2.2.2.2.2.2.1, hinv.2.2.2.2.2.2.2.2.2.2.2.1, SHK_0.mpr (SHK_o (by decide) (SHK_0.mp (hinv.2.2.2.2.2.2.2.2.2.2.2.2.1)) (fun _ _ => rfl) (fun _ _ => rfl) b4), SHK_o (by decide) (show SHK 1 _ _ _ _ mSz mLane mSh from hinv.2.2.2.2.2.2.2.2.2.2.2.2.2.1) (fun _ _ => rfl) (fun _ _ => rfl) b4, b3, SHK_o (by decide) (show SHK 3 _ _ _ _ mSz mLane mSh from hinv.2.2.2.2.2.2.2.2.2.2.2.2.2.2.2) (fun _ _ => rfl) (fun _ _ => rfl) b4⟩
theorem eq_copy_03 : EQ_copy_03 := by
  intro vDays vLin vS vH vK vO vD vRdn vRdL vRdE vRdD sHas0 sLane0 sLen0 sA0 sHas1 sLane1 sLen1 sA1 sHas2 sLane2 sLen2 sA2 sHas3 sLane3 sLen3 sA3 mSz mLane mSh mHands x1 x2 x3 x4 x5 hinv hk hk3
  subst hk
  subst hk3
  have B := copy_core (k := (0 : Int32)) (o := (3 : Int32)) (i := x2) (j := x4) (n := x5) (mHands := mHands) (has := sHas0) (lane := sLane0) (len := sLen0) (A := sA0) (hasb := sHas3) (laneb := sLane3) (lenb := sLen3) (Ab := sA3) (mSz := mSz) (mLane := mLane) (mSh := mSh) (vp_in_iff.mpr (by decide)) (vp_in_iff.mpr (by decide)) (by rw [show (0 : Int32).toNatClampNeg = 0 by decide]; exact (SHK_0.mp (hinv.2.2.2.2.2.2.2.2.2.2.2.2.1))) (by rw [show (3 : Int32).toNatClampNeg = 3 by decide]; exact (show SHK 3 _ _ _ _ mSz mLane mSh from hinv.2.2.2.2.2.2.2.2.2.2.2.2.2.2.2))
  rw [show (3 : Int32).toNatClampNeg = 3 by decide] at B
  obtain ⟨b1, b2, b3, b4⟩ := B
  exact ⟨b1, b2, hinv.1, hinv.2.1, hinv.2.2.1, hinv.2.2.2.1, hinv.2.2.2.2.1, hinv.2.2.2.2.2.1, hinv.2.2.2.2.2.2.1, hinv.2.2.2.2.2.2.2.1, hinv.2.2.2.2.2.2.2.2.1, hinv.2.2.2.2.2.2.2.2.2.1, hinv.2.2.2.2.2.2.2.2.2.2.1, hinv.2.2.2.2.2.2.2.2.2.2.2.1, SHK_0.mpr (SHK_o (by decide) (SHK_0.mp (hinv.2.2.2.2.2.2.2.2.2.2.2.2.1)) (fun _ _ => rfl) (fun _ _ => rfl) b4), SHK_o (by decide) (show SHK 1 _ _ _ _ mSz mLane mSh from hinv.2.2.2.2.2.2.2.2.2.2.2.2.2.1) (fun _ _ => rfl) (fun _ _ => rfl) b4, SHK_o (by decide) (show SHK 2 _ _ _ _ mSz mLane mSh from hinv.2.2.2.2.2.2.2.2.2.2.2.2.2.2.1) (fun _ _ => rfl) (fun _ _ => rfl) b4, b3⟩
theorem eq_copy_0o : EQ_copy_0o := by
  intro vDays vLin vS vH vK vO vD vRdn vRdL vRdE vRdD sHas0 sLane0 sLen0 sA0 sHas1 sLane1 sLen1 sA1 sHas2 sLane2 sLen2 sA2 sHas3 sLane3 sLen3 sA3 mSz mLane mSh mHands x1 x2 x3 x4 x5 hinv hk hk3
  rw [copy_o (Or.inr (noS_o hk3))]
  exact ⟨rfl, rfl, hinv⟩
theorem eq_copy_10 : EQ_copy_10 := by
  intro vDays vLin vS vH vK vO vD vRdn vRdL vRdE vRdD sHas0 sLane0 sLen0 sA0 sHas1 sLane1 sLen1 sA1 sHas2 sLane2 sLen2 sA2 sHas3 sLane3 sLen3 sA3 mSz mLane mSh mHands x1 x2 x3 x4 x5 hinv hk hk3
  subst hk
  subst hk3
  have B := copy_core (k := (1 : Int32)) (o := (0 : Int32)) (i := x2) (j := x4) (n := x5) (mHands := mHands) (has := sHas1) (lane := sLane1) (len := sLen1) (A := sA1) (hasb := sHas0) (laneb := sLane0) (lenb := sLen0) (Ab := sA0) (mSz := mSz) (mLane := mLane) (mSh := mSh) (vp_in_iff.mpr (by decide)) (vp_in_iff.mpr (by decide)) (by rw [show (1 : Int32).toNatClampNeg = 1 by decide]; exact (show SHK 1 _ _ _ _ mSz mLane mSh from hinv.2.2.2.2.2.2.2.2.2.2.2.2.2.1)) (by rw [show (0 : Int32).toNatClampNeg = 0 by decide]; exact (SHK_0.mp (hinv.2.2.2.2.2.2.2.2.2.2.2.2.1)))
  rw [show (0 : Int32).toNatClampNeg = 0 by decide] at B
  obtain ⟨b1, b2, b3, b4⟩ := B
  exact ⟨b1, b2, hinv.1, hinv.2.1, hinv.2.2.1, hinv.2.2.2.1, hinv.2.2.2.2.1, hinv.2.2.2.2.2.1, hinv.2.2.2.2.2.2.1, hinv.2.2.2.2.2.2.2.1, hinv.2.2.2.2.2.2.2.2.1, hinv.2.2.2.2.2.2.2.2.2.1, hinv.2.2.2.2.2.2.2.2.2.2.1, hinv.2.2.2.2.2.2.2.2.2.2.2.1, SHK_0.mpr (b3), SHK_o (by decide) (show SHK 1 _ _ _ _ mSz mLane mSh from hinv.2.2.2.2.2.2.2.2.2.2.2.2.2.1) (fun _ _ => rfl) (fun _ _ => rfl) b4, SHK_o (by decide) (show SHK 2 _ _ _ _ mSz mLane mSh from hinv.2.2.2.2.2.2.2.2.2.2.2.2.2.2.1) (fun _ _ => rfl) (fun _ _ => rfl) b4, SHK_o (by decide) (show SHK 3 _ _ _ _ mSz mLane mSh from hinv.2.2.2.2.2.2.2.2.2.2.2.2.2.2.2) (fun _ _ => rfl) (fun _ _ => rfl) b4⟩
theorem eq_copy_11 : EQ_copy_11 := by
  intro vDays vLin vS vH vK vO vD vRdn vRdL vRdE vRdD sHas0 sLane0 sLen0 sA0 sHas1 sLane1 sLen1 sA1 sHas2 sLane2 sLen2 sA2 sHas3 sLane3 sLen3 sA3 mSz mLane mSh mHands x1 x2 x3 x4 x5 hinv hk hk3
  subst hk
  subst hk3
  have B := copy_core (k := (1 : Int32)) (o := (1 : Int32)) (i := x2) (j := x4) (n := x5) (mHands := mHands) (has := sHas1) (lane := sLane1) (len := sLen1) (A := sA1) (hasb := sHas1) (laneb := sLane1) (lenb := sLen1) (Ab := sA1) (mSz := mSz) (mLane := mLane) (mSh := mSh) (vp_in_iff.mpr (by decide)) (vp_in_iff.mpr (by decide)) (by rw [show (1 : Int32).toNatClampNeg = 1 by decide]; exact (show SHK 1 _ _ _ _ mSz mLane mSh from hinv.2.2.2.2.2.2.2.2.2.2.2.2.2.1)) (by rw [show (1 : Int32).toNatClampNeg = 1 by decide]; exact (show SHK 1 _ _ _ _ mSz mLane mSh from hinv.2.2.2.2.2.2.2.2.2.2.2.2.2.1))
  rw [show (1 : Int32).toNatClampNeg = 1 by decide] at B
  obtain ⟨b1, b2, b3, b4⟩ := B
  exact ⟨b1, b2, hinv.1, hinv.2.1, hinv.2.2.1, hinv.2.2.2.1, hinv.2.2.2.2.1, hinv.2.2.2.2.2.1, hinv.2.2.2.2.2.2.1, hinv.2.2.2.2.2.2.2.1, hinv.2.2.2.2.2.2.2.2.1, hinv.2.2.2.2.2.2.2.2.2.1, hinv.2.2.2.2.2.2.2.2.2.2.1, hinv.2.2.2.2.2.2.2.2.2.2.2.1, SHK_0.mpr (SHK_o (by decide) (SHK_0.mp (hinv.2.2.2.2.2.2.2.2.2.2.2.2.1)) (fun _ _ => rfl) (fun _ _ => rfl) b4), b3, SHK_o (by decide) (show SHK 2 _ _ _ _ mSz mLane mSh from hinv.2.2.2.2.2.2.2.2.2.2.2.2.2.2.1) (fun _ _ => rfl) (fun _ _ => rfl) b4, SHK_o (by decide) (show SHK 3 _ _ _ _ mSz mLane mSh from hinv.2.2.2.2.2.2.2.2.2.2.2.2.2.2.2) (fun _ _ => rfl) (fun _ _ => rfl) b4⟩
theorem eq_copy_12 : EQ_copy_12 := by
  intro vDays vLin vS vH vK vO vD vRdn vRdL vRdE vRdD sHas0 sLane0 sLen0 sA0 sHas1 sLane1 sLen1 sA1 sHas2 sLane2 sLen2 sA2 sHas3 sLane3 sLen3 sA3 mSz mLane mSh mHands x1 x2 x3 x4 x5 hinv hk hk3
  subst hk
  subst hk3
  have B := copy_core (k := (1 : Int32)) (o := (2 : Int32)) (i := x2) (j := x4) (n := x5) (mHands := mHands) (has := sHas1) (lane := sLane1) (len := sLen1) (A := sA1) (hasb := sHas2) (laneb := sLane2) (lenb := sLen2) (Ab := sA2) (mSz := mSz) (mLane := mLane) (mSh := mSh) (vp_in_iff.mpr (by decide)) (vp_in_iff.mpr (by decide)) (by rw [show (1 : Int32).toNatClampNeg = 1 by decide]; exact (show SHK 1 _ _ _ _ mSz mLane mSh from hinv.2.2.2.2.2.2.2.2.2.2.2.2.2.1)) (by rw [show (2 : Int32).toNatClampNeg = 2 by decide]; exact (show SHK 2 _ _ _ _ mSz mLane mSh from hinv.2.2.2.2.2.2.2.2.2.2.2.2.2.2.1))
  rw [show (2 : Int32).toNatClampNeg = 2 by decide] at B
  obtain ⟨b1, b2, b3, b4⟩ := B
  exact ⟨b1, b2, hinv.1, hinv.2.1, hinv.2.2.1, hinv.2.2.2.1, hinv.2.2.2.2.1, hinv.2.2.2.2.2.1, hinv.2.2.2.2.2.2.1, hinv.2.2.2.2.2.2.2.1, hinv.2.2.2.2.2.2.2.2.1, hinv.2.2.2.2.2.2.2.2.2.1, hinv.2.2.2.2.2.2.2.2.2.2.1, hinv.2.2.2.2.2.2.2.2.2.2.2.1, SHK_0.mpr (SHK_o (by decide) (SHK_0.mp (hinv.2.2.2.2.2.2.2.2.2.2.2.2.1)) (fun _ _ => rfl) (fun _ _ => rfl) b4), SHK_o (by decide) (show SHK 1 _ _ _ _ mSz mLane mSh from hinv.2.2.2.2.2.2.2.2.2.2.2.2.2.1) (fun _ _ => rfl) (fun _ _ => rfl) b4, b3, SHK_o (by decide) (show SHK 3 _ _ _ _ mSz mLane mSh from hinv.2.2.2.2.2.2.2.2.2.2.2.2.2.2.2) (fun _ _ => rfl) (fun _ _ => rfl) b4⟩
theorem eq_copy_13 : EQ_copy_13 := by
  intro vDays vLin vS vH vK vO vD vRdn vRdL vRdE vRdD sHas0 sLane0 sLen0 sA0 sHas1 sLane1 sLen1 sA1 sHas2 sLane2 sLen2 sA2 sHas3 sLane3 sLen3 sA3 mSz mLane mSh mHands x1 x2 x3 x4 x5 hinv hk hk3
  subst hk
  subst hk3
  have B := copy_core (k := (1 : Int32)) (o := (3 : Int32)) (i := x2) (j := x4) (n := x5) (mHands := mHands) (has := sHas1) (lane := sLane1) (len := sLen1) (A := sA1) (hasb := sHas3) (laneb := sLane3) (lenb := sLen3) (Ab := sA3) (mSz := mSz) (mLane := mLane) (mSh := mSh) (vp_in_iff.mpr (by decide)) (vp_in_iff.mpr (by decide)) (by rw [show (1 : Int32).toNatClampNeg = 1 by decide]; exact (show SHK 1 _ _ _ _ mSz mLane mSh from hinv.2.2.2.2.2.2.2.2.2.2.2.2.2.1)) (by rw [show (3 : Int32).toNatClampNeg = 3 by decide]; exact (show SHK 3 _ _ _ _ mSz mLane mSh from hinv.2.2.2.2.2.2.2.2.2.2.2.2.2.2.2))
  rw [show (3 : Int32).toNatClampNeg = 3 by decide] at B
  obtain ⟨b1, b2, b3, b4⟩ := B
  exact ⟨b1, b2, hinv.1, hinv.2.1, hinv.2.2.1, hinv.2.2.2.1, hinv.2.2.2.2.1, hinv.2.2.2.2.2.1, hinv.2.2.2.2.2.2.1, hinv.2.2.2.2.2.2.2.1, hinv.2.2.2.2.2.2.2.2.1, hinv.2.2.2.2.2.2.2.2.2.1, hinv.2.2.2.2.2.2.2.2.2.2.1, hinv.2.2.2.2.2.2.2.2.2.2.2.1, SHK_0.mpr (SHK_o (by decide) (SHK_0.mp (hinv.2.2.2.2.2.2.2.2.2.2.2.2.1)) (fun _ _ => rfl) (fun _ _ => rfl) b4), SHK_o (by decide) (show SHK 1 _ _ _ _ mSz mLane mSh from hinv.2.2.2.2.2.2.2.2.2.2.2.2.2.1) (fun _ _ => rfl) (fun _ _ => rfl) b4, SHK_o (by decide) (show SHK 2 _ _ _ _ mSz mLane mSh from hinv.2.2.2.2.2.2.2.2.2.2.2.2.2.2.1) (fun _ _ => rfl) (fun _ _ => rfl) b4, b3⟩
theorem eq_copy_1o : EQ_copy_1o := by
  intro vDays vLin vS vH vK vO vD vRdn vRdL vRdE vRdD sHas0 sLane0 sLen0 sA0 sHas1 sLane1 sLen1 sA1 sHas2 sLane2 sLen2 sA2 sHas3 sLane3 sLen3 sA3 mSz mLane mSh mHands x1 x2 x3 x4 x5 hinv hk hk3
  rw [copy_o (Or.inr (noS_o hk3))]
  exact ⟨rfl, rfl, hinv⟩
theorem eq_copy_20 : EQ_copy_20 := by
  intro vDays vLin vS vH vK vO vD vRdn vRdL vRdE vRdD sHas0 sLane0 sLen0 sA0 sHas1 sLane1 sLen1 sA1 sHas2 sLane2 sLen2 sA2 sHas3 sLane3 sLen3 sA3 mSz mLane mSh mHands x1 x2 x3 x4 x5 hinv hk hk3
  subst hk
  subst hk3
  have B := copy_core (k := (2 : Int32)) (o := (0 : Int32)) (i := x2) (j := x4) (n := x5) (mHands := mHands) (has := sHas2) (lane := sLane2) (len := sLen2) (A := sA2) (hasb := sHas0) (laneb := sLane0) (lenb := sLen0) (Ab := sA0) (mSz := mSz) (mLane := mLane) (mSh := mSh) (vp_in_iff.mpr (by decide)) (vp_in_iff.mpr (by decide)) (by rw [show (2 : Int32).toNatClampNeg = 2 by decide]; exact (show SHK 2 _ _ _ _ mSz mLane mSh from hinv.2.2.2.2.2.2.2.2.2.2.2.2.2.2.1)) (by rw [show (0 : Int32).toNatClampNeg = 0 by decide]; exact (SHK_0.mp (hinv.2.2.2.2.2.2.2.2.2.2.2.2.1)))
  rw [show (0 : Int32).toNatClampNeg = 0 by decide] at B
  obtain ⟨b1, b2, b3, b4⟩ := B
  exact ⟨b1, b2, hinv.1, hinv.2.1, hinv.2.2.1, hinv.2.2.2.1, hinv.2.2.2.2.1, hinv.2.2.2.2.2.1, hinv.2.2.2.2.2.2.1, hinv.2.2.2.2.2.2.2.1, hinv.2.2.2.2.2.2.2.2.1, hinv.2.2.2.2.2.2.2.2.2.1, hinv.2.2.2.2.2.2.2.2.2.2.1, hinv.2.2.2.2.2.2.2.2.2.2.2.1, SHK_0.mpr (b3), SHK_o (by decide) (show SHK 1 _ _ _ _ mSz mLane mSh from hinv.2.2.2.2.2.2.2.2.2.2.2.2.2.1) (fun _ _ => rfl) (fun _ _ => rfl) b4, SHK_o (by decide) (show SHK 2 _ _ _ _ mSz mLane mSh from hinv.2.2.2.2.2.2.2.2.2.2.2.2.2.2.1) (fun _ _ => rfl) (fun _ _ => rfl) b4, SHK_o (by decide) (show SHK 3 _ _ _ _ mSz mLane mSh from hinv.2.2.2.2.2.2.2.2.2.2.2.2.2.2.2) (fun _ _ => rfl) (fun _ _ => rfl) b4⟩
theorem eq_copy_21 : EQ_copy_21 := by
  intro vDays vLin vS vH vK vO vD vRdn vRdL vRdE vRdD sHas0 sLane0 sLen0 sA0 sHas1 sLane1 sLen1 sA1 sHas2 sLane2 sLen2 sA2 sHas3 sLane3 sLen3 sA3 mSz mLane mSh mHands x1 x2 x3 x4 x5 hinv hk hk3
  subst hk
  subst hk3
  have B := copy_core (k := (2 : Int32)) (o := (1 : Int32)) (i := x2) (j := x4) (n := x5) (mHands := mHands) (has := sHas2) (lane := sLane2) (len := sLen2) (A := sA2) (hasb := sHas1) (laneb := sLane1) (lenb := sLen1) (Ab := sA1) (mSz := mSz) (mLane := mLane) (mSh := mSh) (vp_in_iff.mpr (by decide)) (vp_in_iff.mpr (by decide)) (by rw [show (2 : Int32).toNatClampNeg = 2 by decide]; exact (show SHK 2 _ _ _ _ mSz mLane mSh from hinv.2.2.2.2.2.2.2.2.2.2.2.2.2.2.1)) (by rw [show (1 : Int32).toNatClampNeg = 1 by decide]; exact (show SHK 1 _ _ _ _ mSz mLane mSh from hinv.2.2.2.2.2.2.2.2.2.2.2.2.2.1))
  rw [show (1 : Int32).toNatClampNeg = 1 by decide] at B
  obtain ⟨b1, b2, b3, b4⟩ := B
  exact ⟨b1, b2, hinv.1, hinv.2.1, hinv.2.2.1, hinv.2.2.2.1, hinv.2.2.2.2.1, hinv.2.2.2.2.2.1, hinv.2.2.2.2.2.2.1, hinv.2.2.2.2.2.2.2.1, hinv.2.2.2.2.2.2.2.2.1, hinv.2.2.2.2.2.2.2.2.2.1, hinv.2.2.2.2.2.2.2.2.2.2.1, hinv.2.2.2.2.2.2.2.2.2.2.2.1, SHK_0.mpr (SHK_o (by decide) (SHK_0.mp (hinv.2.2.2.2.2.2.2.2.2.2.2.2.1)) (fun _ _ => rfl) (fun _ _ => rfl) b4), b3, SHK_o (by decide) (show SHK 2 _ _ _ _ mSz mLane mSh from hinv.2.2.2.2.2.2.2.2.2.2.2.2.2.2.1) (fun _ _ => rfl) (fun _ _ => rfl) b4, SHK_o (by decide) (show SHK 3 _ _ _ _ mSz mLane mSh from hinv.2.2.2.2.2.2.2.2.2.2.2.2.2.2.2) (fun _ _ => rfl) (fun _ _ => rfl) b4⟩
theorem eq_copy_22 : EQ_copy_22 := by
  intro vDays vLin vS vH vK vO vD vRdn vRdL vRdE vRdD sHas0 sLane0 sLen0 sA0 sHas1 sLane1 sLen1 sA1 sHas2 sLane2 sLen2 sA2 sHas3 sLane3 sLen3 sA3 mSz mLane mSh mHands x1 x2 x3 x4 x5 hinv hk hk3
  subst hk
  subst hk3
  have B := copy_core (k := (2 : Int32)) (o := (2 : Int32)) (i := x2) (j := x4) (n := x5) (mHands := mHands) (has := sHas2) (lane := sLane2) (len := sLen2) (A := sA2) (hasb := sHas2) (laneb := sLane2) (lenb := sLen2) (Ab := sA2) (mSz := mSz) (mLane := mLane) (mSh := mSh) (vp_in_iff.mpr (by decide)) (vp_in_iff.mpr (by decide)) (by rw [show (2 : Int32).toNatClampNeg = 2 by decide]; exact (show SHK 2 _ _ _ _ mSz mLane mSh from hinv.2.2.2.2.2.2.2.2.2.2.2.2.2.2.1)) (by rw [show (2 : Int32).toNatClampNeg = 2 by decide]; exact (show SHK 2 _ _ _ _ mSz mLane mSh from hinv.2.2.2.2.2.2.2.2.2.2.2.2.2.2.1))
  rw [show (2 : Int32).toNatClampNeg = 2 by decide] at B
  obtain ⟨b1, b2, b3, b4⟩ := B
  exact ⟨b1, b2, hinv.1, hinv.2.1, hinv.2.2.1, hinv.2.2.2.1, hinv.2.2.2.2.1, hinv.2.2.2.2.2.1, hinv.2.2.2.2.2.2.1, hinv.2.2.2.2.2.2.2.1, hinv.2.2.2.2.2.2.2.2.1, hinv.2.2.2.2.2.2.2.2.2.1, hinv.2.2.2.2.2.2.2.2.2.2.1, hinv.2.2.2.2.2.2.2.2.2.2.2.1, SHK_0.mpr (SHK_o (by decide) (SHK_0.mp (hinv.2.2.2.2.2.2.2.2.2.2.2.2.1)) (fun _ _ => rfl) (fun _ _ => rfl) b4), SHK_o (by decide) (show SHK 1 _ _ _ _ mSz mLane mSh from hinv.2.2.2.2.2.2.2.2.2.2.2.2.2.1) (fun _ _ => rfl) (fun _ _ => rfl) b4, b3, SHK_o (by decide) (show SHK 3 _ _ _ _ mSz mLane mSh from hinv.2.2.2.2.2.2.2.2.2.2.2.2.2.2.2) (fun _ _ => rfl) (fun _ _ => rfl) b4⟩
theorem eq_copy_23 : EQ_copy_23 := by
  intro vDays vLin vS vH vK vO vD vRdn vRdL vRdE vRdD sHas0 sLane0 sLen0 sA0 sHas1 sLane1 sLen1 sA1 sHas2 sLane2 sLen2 sA2 sHas3 sLane3 sLen3 sA3 mSz mLane mSh mHands x1 x2 x3 x4 x5 hinv hk hk3
  subst hk
  subst hk3
  have B := copy_core (k := (2 : Int32)) (o := (3 : Int32)) (i := x2) (j := x4) (n := x5) (mHands := mHands) (has := sHas2) (lane := sLane2) (len := sLen2) (A := sA2) (hasb := sHas3) (laneb := sLane3) (lenb := sLen3) (Ab := sA3) (mSz := mSz) (mLane := mLane) (mSh := mSh) (vp_in_iff.mpr (by decide)) (vp_in_iff.mpr (by decide)) (by rw [show (2 : Int32).toNatClampNeg = 2 by decide]; exact (show SHK 2 _ _ _ _ mSz mLane mSh from hinv.2.2.2.2.2.2.2.2.2.2.2.2.2.2.1)) (by rw [show (3 : Int32).toNatClampNeg = 3 by decide]; exact (show SHK 3 _ _ _ _ mSz mLane mSh from hinv.2.2.2.2.2.2.2.2.2.2.2.2.2.2.2))
  rw [show (3 : Int32).toNatClampNeg = 3 by decide] at B
  obtain ⟨b1, b2, b3, b4⟩ := B
  exact ⟨b1, b2, hinv.1, hinv.2.1, hinv.2.2.1, hinv.2.2.2.1, hinv.2.2.2.2.1, hinv.2.2.2.2.2.1, hinv.2.2.2.2.2.2.1, hinv.2.2.2.2.2.2.2.1, hinv.2.2.2.2.2.2.2.2.1, hinv.2.2.2.2.2.2.2.2.2.1, hinv.2.2.2.2.2.2.2.2.2.2.1, hinv.2.2.2.2.2.2.2.2.2.2.2.1, SHK_0.mpr (SHK_o (by decide) (SHK_0.mp (hinv.2.2.2.2.2.2.2.2.2.2.2.2.1)) (fun _ _ => rfl) (fun _ _ => rfl) b4), SHK_o (by decide) (show SHK 1 _ _ _ _ mSz mLane mSh from hinv.2.2.2.2.2.2.2.2.2.2.2.2.2.1) (fun _ _ => rfl) (fun _ _ => rfl) b4, SHK_o (by decide) (show SHK 2 _ _ _ _ mSz mLane mSh from hinv.2.2.2.2.2.2.2.2.2.2.2.2.2.2.1) (fun _ _ => rfl) (fun _ _ => rfl) b4, b3⟩
theorem eq_copy_2o : EQ_copy_2o := by
  intro vDays vLin vS vH vK vO vD vRdn vRdL vRdE vRdD sHas0 sLane0 sLen0 sA0 sHas1 sLane1 sLen1 sA1 sHas2 sLane2 sLen2 sA2 sHas3 sLane3 sLen3 sA3 mSz mLane mSh mHands x1 x2 x3 x4 x5 hinv hk hk3
  rw [copy_o (Or.inr (noS_o hk3))]
  exact ⟨rfl, rfl, hinv⟩
theorem eq_copy_30 : EQ_copy_30 := by
  intro vDays vLin vS vH vK vO vD vRdn vRdL vRdE vRdD sHas0 sLane0 sLen0 sA0 sHas1 sLane1 sLen1 sA1 sHas2 sLane2 sLen2 sA2 sHas3 sLane3 sLen3 sA3 mSz mLane mSh mHands x1 x2 x3 x4 x5 hinv hk hk3
  subst hk
  subst hk3
  have B := copy_core (k := (3 : Int32)) (o := (0 : Int32)) (i := x2) (j := x4) (n := x5) (mHands := mHands) (has := sHas3) (lane := sLane3) (len := sLen3) (A := sA3) (hasb := sHas0) (laneb := sLane0) (lenb := sLen0) (Ab := sA0) (mSz := mSz) (mLane := mLane) (mSh := mSh) (vp_in_iff.mpr (by decide)) (vp_in_iff.mpr (by decide)) (by rw [show (3 : Int32).toNatClampNeg = 3 by decide]; exact (show SHK 3 _ _ _ _ mSz mLane mSh from hinv.2.2.2.2.2.2.2.2.2.2.2.2.2.2.2)) (by rw [show (0 : Int32).toNatClampNeg = 0 by decide]; exact (SHK_0.mp (hinv.2.2.2.2.2.2.2.2.2.2.2.2.1)))
  rw [show (0 : Int32).toNatClampNeg = 0 by decide] at B
  obtain ⟨b1, b2, b3, b4⟩ := B
  exact ⟨b1, b2, hinv.1, hinv.2.1, hinv.2.2.1, hinv.2.2.2.1, hinv.2.2.2.2.1, hinv.2.2.2.2.2.1, hinv.2.2.2.2.2.2.1, hinv.2.2.2.2.2.2.2.1, hinv.2.2.2.2.2.2.2.2.1, hinv.2.2.2.2.2.2.2.2.2.1, hinv.2.2.2.2.2.2.2.2.2.2.1, hinv.2.2.2.2.2.2.2.2.2.2.2.1, SHK_0.mpr (b3), SHK_o (by decide) (show SHK 1 _ _ _ _ mSz mLane mSh from hinv.2.2.2.2.2.2.2.2.2.2.2.2.2.1) (fun _ _ => rfl) (fun _ _ => rfl) b4, SHK_o (by decide) (show SHK 2 _ _ _ _ mSz mLane mSh from hinv.2.2.2.2.2.2.2.2.2.2.2.2.2.2.1) (fun _ _ => rfl) (fun _ _ => rfl) b4, SHK_o (by decide) (show SHK 3 _ _ _ _ mSz mLane mSh from hinv.2.2.2.2.2.2.2.2.2.2.2.2.2.2.2) (fun _ _ => rfl) (fun _ _ => rfl) b4⟩
theorem eq_copy_31 : EQ_copy_31 := by
  intro vDays vLin vS vH vK vO vD vRdn vRdL vRdE vRdD sHas0 sLane0 sLen0 sA0 sHas1 sLane1 sLen1 sA1 sHas2 sLane2 sLen2 sA2 sHas3 sLane3 sLen3 sA3 mSz mLane mSh mHands x1 x2 x3 x4 x5 hinv hk hk3
  subst hk
  subst hk3
  have B := copy_core (k := (3 : Int32)) (o := (1 : Int32)) (i := x2) (j := x4) (n := x5) (mHands := mHands) (has := sHas3) (lane := sLane3) (len := sLen3) (A := sA3) (hasb := sHas1) (laneb := sLane1) (lenb := sLen1) (Ab := sA1) (mSz := mSz) (mLane := mLane) (mSh := mSh) (vp_in_iff.mpr (by decide)) (vp_in_iff.mpr (by decide)) (by rw [show (3 : Int32).toNatClampNeg = 3 by decide]; exact (show SHK 3 _ _ _ _ mSz mLane mSh from hinv.2.2.2.2.2.2.2.2.2.2.2.2.2.2.2)) (by rw [show (1 : Int32).toNatClampNeg = 1 by decide]; exact (show SHK 1 _ _ _ _ mSz mLane mSh from hinv.2.2.2.2.2.2.2.2.2.2.2.2.2.1))
  rw [show (1 : Int32).toNatClampNeg = 1 by decide] at B
  obtain ⟨b1, b2, b3, b4⟩ := B
  exact ⟨b1, b2, hinv.1, hinv.2.1, hinv.2.2.1, hinv.2.2.2.1, hinv.2.2.2.2.1, hinv.2.2.2.2.2.1, hinv.2.2.2.2.2.2.1, hinv.2.2.2.2.2.2.2.1, hinv.2.2.2.2.2.2.2.2.1, hinv.2.2.2.2.2.2.2.2.2.1, hinv.2.2.2.2.2.2.2.2.2.2.1, hinv.2.2.2.2.2.2.2.2.2.2.2.1, SHK_0.mpr (SHK_o (by decide) (SHK_0.mp (hinv.2.2.2.2.2.2.2.2.2.2.2.2.1)) (fun _ _ => rfl) (fun _ _ => rfl) b4), b3, SHK_o (by decide) (show SHK 2 _ _ _ _ mSz mLane mSh from hinv.2.2.2.2.2.2.2.2.2.2.2.2.2.2.1) (fun _ _ => rfl) (fun _ _ => rfl) b4, SHK_o (by decide) (show SHK 3 _ _ _ _ mSz mLane mSh from hinv.2.2.2.2.2.2.2.2.2.2.2.2.2.2.2) (fun _ _ => rfl) (fun _ _ => rfl) b4⟩
theorem eq_copy_32 : EQ_copy_32 := by
  intro vDays vLin vS vH vK vO vD vRdn vRdL vRdE vRdD sHas0 sLane0 sLen0 sA0 sHas1 sLane1 sLen1 sA1 sHas2 sLane2 sLen2 sA2 sHas3 sLane3 sLen3 sA3 mSz mLane mSh mHands x1 x2 x3 x4 x5 hinv hk hk3
  subst hk
  subst hk3
  have B := copy_core (k := (3 : Int32)) (o := (2 : Int32)) (i := x2) (j := x4) (n := x5) (mHands := mHands) (has := sHas3) (lane := sLane3) (len := sLen3) (A := sA3) (hasb := sHas2) (laneb := sLane2) (lenb := sLen2) (Ab := sA2) (mSz := mSz) (mLane := mLane) (mSh := mSh) (vp_in_iff.mpr (by decide)) (vp_in_iff.mpr (by decide)) (by rw [show (3 : Int32).toNatClampNeg = 3 by decide]; exact (show SHK 3 _ _ _ _ mSz mLane mSh from hinv.2.2.2.2.2.2.2.2.2.2.2.2.2.2.2)) (by rw [show (2 : Int32).toNatClampNeg = 2 by decide]; exact (show SHK 2 _ _ _ _ mSz mLane mSh from hinv.2.2.2.2.2.2.2.2.2.2.2.2.2.2.1))
  rw [show (2 : Int32).toNatClampNeg = 2 by decide] at B
  obtain ⟨b1, b2, b3, b4⟩ := B
  exact ⟨b1, b2, hinv.1, hinv.2.1, hinv.2.2.1, hinv.2.2.2.1, hinv.2.2.2.2.1, hinv.2.2.2.2.2.1, hinv.2.2.2.2.2.2.1, hinv.2.2.2.2.2.2.2.1, hinv.2.2.2.2.2.2.2.2.1, hinv.2.2.2.2.2.2.2.2.2.1, hinv.2.2.2.2.2.2.2.2.2.2.1, hinv.2.2.2.2.2.2.2.2.2.2.2.1, SHK_0.mpr (SHK_o (by decide) (SHK_0.mp (hinv.2.2.2.2.2.2.2.2.2.2.2.2.1)) (fun _ _ => rfl) (fun _ _ => rfl) b4), SHK_o (by decide) (show SHK 1 _ _ _ _ mSz mLane mSh from hinv.2.2.2.2.2.2.2.2.2.2.2.2.2.1) (fun _ _ => rfl) (fun _ _ => rfl) b4, b3, SHK_o (by decide) (show SHK 3 _ _ _ _ mSz mLane mSh from hinv.2.2.2.2.2.2.2.2.2.2.2.2.2.2.2) (fun _ _ => rfl) (fun _ _ => rfl) b4⟩
theorem eq_copy_33 : EQ_copy_33 := by
  intro vDays vLin vS vH vK vO vD vRdn vRdL vRdE vRdD sHas0 sLane0 sLen0 sA0 sHas1 sLane1 sLen1 sA1 sHas2 sLane2 sLen2 sA2 sHas3 sLane3 sLen3 sA3 mSz mLane mSh mHands x1 x2 x3 x4 x5 hinv hk hk3
  subst hk
  subst hk3
  have B := copy_core (k := (3 : Int32)) (o := (3 : Int32)) (i := x2) (j := x4) (n := x5) (mHands := mHands) (has := sHas3) (lane := sLane3) (len := sLen3) (A := sA3) (hasb := sHas3) (laneb := sLane3) (lenb := sLen3) (Ab := sA3) (mSz := mSz) (mLane := mLane) (mSh := mSh) (vp_in_iff.mpr (by decide)) (vp_in_iff.mpr (by decide)) (by rw [show (3 : Int32).toNatClampNeg = 3 by decide]; exact (show SHK 3 _ _ _ _ mSz mLane mSh from hinv.2.2.2.2.2.2.2.2.2.2.2.2.2.2.2)) (by rw [show (3 : Int32).toNatClampNeg = 3 by decide]; exact (show SHK 3 _ _ _ _ mSz mLane mSh from hinv.2.2.2.2.2.2.2.2.2.2.2.2.2.2.2))
  rw [show (3 : Int32).toNatClampNeg = 3 by decide] at B
  obtain ⟨b1, b2, b3, b4⟩ := B
  exact ⟨b1, b2, hinv.1, hinv.2.1, hinv.2.2.1, hinv.2.2.2.1, hinv.2.2.2.2.1, hinv.2.2.2.2.2.1, hinv.2.2.2.2.2.2.1, hinv.2.2.2.2.2.2.2.1, hinv.2.2.2.2.2.2.2.2.1, hinv.2.2.2.2.2.2.2.2.2.1, hinv.2.2.2.2.2.2.2.2.2.2.1, hinv.2.2.2.2.2.2.2.2.2.2.2.1, SHK_0.mpr (SHK_o (by decide) (SHK_0.mp (hinv.2.2.2.2.2.2.2.2.2.2.2.2.1)) (fun _ _ => rfl) (fun _ _ => rfl) b4), SHK_o (by decide) (show SHK 1 _ _ _ _ mSz mLane mSh from hinv.2.2.2.2.2.2.2.2.2.2.2.2.2.1) (fun _ _ => rfl) (fun _ _ => rfl) b4, SHK_o (by decide) (show SHK 2 _ _ _ _ mSz mLane mSh from hinv.2.2.2.2.2.2.2.2.2.2.2.2.2.2.1) (fun _ _ => rfl) (fun _ _ => rfl) b4, b3⟩
theorem eq_copy_3o : EQ_copy_3o := by
  intro vDays vLin vS vH vK vO vD vRdn vRdL vRdE vRdD sHas0 sLane0 sLen0 sA0 sHas1 sLane1 sLen1 sA1 sHas2 sLane2 sLen2 sA2 sHas3 sLane3 sLen3 sA3 mSz mLane mSh mHands x1 x2 x3 x4 x5 hinv hk hk3
  rw [copy_o (Or.inr (noS_o hk3))]
  exact ⟨rfl, rfl, hinv⟩
theorem eq_copy_o0 : EQ_copy_o0 := by
  intro vDays vLin vS vH vK vO vD vRdn vRdL vRdE vRdD sHas0 sLane0 sLen0 sA0 sHas1 sLane1 sLen1 sA1 sHas2 sLane2 sLen2 sA2 sHas3 sLane3 sLen3 sA3 mSz mLane mSh mHands x1 x2 x3 x4 x5 hinv hk hk3
  rw [copy_o (Or.inl (noS_o hk))]
  exact ⟨rfl, rfl, hinv⟩
theorem eq_copy_o1 : EQ_copy_o1 := by
  intro vDays vLin vS vH vK vO vD vRdn vRdL vRdE vRdD sHas0 sLane0 sLen0 sA0 sHas1 sLane1 sLen1 sA1 sHas2 sLane2 sLen2 sA2 sHas3 sLane3 sLen3 sA3 mSz mLane mSh mHands x1 x2 x3 x4 x5 hinv hk hk3
  rw [copy_o (Or.inl (noS_o hk))]
  exact ⟨rfl, rfl, hinv⟩
theorem eq_copy_o2 : EQ_copy_o2 := by
  intro vDays vLin vS vH vK vO vD vRdn vRdL vRdE vRdD sHas0 sLane0 sLen0 sA0 sHas1 sLane1 sLen1 sA1 sHas2 sLane2 sLen2 sA2 sHas3 sLane3 sLen3 sA3 mSz mLane mSh mHands x1 x2 x3 x4 x5 hinv hk hk3
  rw [copy_o (Or.inl (noS_o hk))]
  exact ⟨rfl, rfl, hinv⟩
theorem eq_copy_o3 : EQ_copy_o3 := by
  intro vDays vLin vS vH vK vO vD vRdn vRdL vRdE vRdD sHas0 sLane0 sLen0 sA0 sHas1 sLane1 sLen1 sA1 sHas2 sLane2 sLen2 sA2 sHas3 sLane3 sLen3 sA3 mSz mLane mSh mHands x1 x2 x3 x4 x5 hinv hk hk3
  rw [copy_o (Or.inl (noS_o hk))]
  exact ⟨rfl, rfl, hinv⟩
theorem eq_copy_oo : EQ_copy_oo := by
  intro vDays vLin vS vH vK vO vD vRdn vRdL vRdE vRdD sHas0 sLane0 sLen0 sA0 sHas1 sLane1 sLen1 sA1 sHas2 sLane2 sLen2 sA2 sHas3 sLane3 sLen3 sA3 mSz mLane mSh mHands x1 x2 x3 x4 x5 hinv hk hk3
  rw [copy_o (Or.inl (noS_o hk))]
  exact ⟨rfl, rfl, hinv⟩
theorem eq_tell : EQ_tell := by
  intro vDays vLin vS vH vK vO vD vRdn vRdL vRdE vRdD vTrace sHas0 sLane0 sLen0 sA0 sHas1 sLane1 sLen1 sA1 sHas2 sLane2 sLen2 sA2 sHas3 sLane3 sLen3 sA3 mSz mLane mSh x1 x2 x3 x4 x5 hinv 
  have E := eqf_tell (b := vLin) (t := vTrace) (l := x1) (D := vD) (K := vK) hinv.2.1.2 hinv.2.2.2.2.2.2.1
  exact ⟨congrArg (·.1) E, congrArg (·.2) E⟩
theorem eq_knot : EQ_knot := by
  intro vDays vLin vS vH vK vO vD vRdn vRdL vRdE vRdD vTrace sHas0 sLane0 sLen0 sA0 sHas1 sLane1 sLen1 sA1 sHas2 sLane2 sLen2 sA2 sHas3 sLane3 sLen3 sA3 mSz mLane mSh x1 x2 x3 x4 x5 hinv 
  have E := eqf_knot (b := vLin) (x := x1) (t := vTrace) (f := vK) hinv.2.1.2
  exact ⟨congrArg (·.1) E, congrArg (·.2) E⟩
theorem eq_as : EQ_as := by
  intro vDays vLin vS vH vK vO vD vRdn vRdL vRdE vRdD sHas0 sLane0 sLen0 sA0 sHas1 sLane1 sLen1 sA1 sHas2 sLane2 sLen2 sA2 sHas3 sLane3 sLen3 sA3 mSz mLane mSh x1 x2 x3 x4 x5 hinv 
  have E := eqf_as (b := vLin) (x := x1) (w := x2) (f := vK) hinv.2.1.2
  exact ⟨congrArg (·.1) E, congrArg (·.2) E⟩
theorem eq_trace : EQ_trace := by
  intro vDays vLin vS vH vK vO vD vRdn vRdL vRdE vRdD vTrace sHas0 sLane0 sLen0 sA0 sHas1 sLane1 sLen1 sA1 sHas2 sLane2 sLen2 sA2 sHas3 sLane3 sLen3 sA3 mSz mLane mSh x1 x2 x3 x4 x5 hinv 
  rfl
theorem eq_fault : EQ_fault := by
  intro vFault vDays vLin vS vH vK vO vD vRdn vRdL vRdE vRdD sHas0 sLane0 sLen0 sA0 sHas1 sLane1 sLen1 sA1 sHas2 sLane2 sLen2 sA2 sHas3 sLane3 sLen3 sA3 mSz mLane mSh x1 x2 x3 x4 x5 hinv 
  rfl
theorem eq_many : EQ_many := by
  intro vDays vLin vS vH vK vO vD vRdn vRdL vRdE vRdD sHas0 sLane0 sLen0 sA0 sHas1 sLane1 sLen1 sA1 sHas2 sLane2 sLen2 sA2 sHas3 sLane3 sLen3 sA3 mSz mLane mSh x1 x2 x3 x4 x5 hinv 
  exact eqf_many
theorem eqall : EQALL := ⟨eq_realm_0, eq_realm_1, eq_realm_2, eq_realm_3, eq_realm_o, eq_ofLinen, eq_heat, eq_warm, eq_grieve, eq_give, eq_dries, eq_damp, eq_laws, eq_weeping_0, eq_weeping_1, eq_weeping_2, eq_weeping_3, eq_weeping_o, eq_tears, eq_keep, eq_appoint, eq_span, eq_reading, eq_back, eq_damps, eq_kinds, eq_heats, eq_odds, eq_sheet_0, eq_sheet_1, eq_sheet_2, eq_sheet_3, eq_sheet_o, eq_lose_0, eq_lose_1, eq_lose_2, eq_lose_3, eq_lose_o, eq_put_0, eq_put_1, eq_put_2, eq_put_3, eq_put_o, eq_cell_0, eq_cell_1, eq_cell_2, eq_cell_3, eq_cell_o, eq_copy_00, eq_copy_01, eq_copy_02, eq_copy_03, eq_copy_0o, eq_copy_10, eq_copy_11, eq_copy_12, eq_copy_13, eq_copy_1o, eq_copy_20, eq_copy_21, eq_copy_22, eq_copy_23, eq_copy_2o, eq_copy_30, eq_copy_31, eq_copy_32, eq_copy_33, eq_copy_3o, eq_copy_o0, eq_copy_o1, eq_copy_o2, eq_copy_o3, eq_copy_oo, eq_tell, eq_knot, eq_as, eq_trace, eq_fault, eq_many⟩
