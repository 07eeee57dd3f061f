theorem iw_X5_leave_RX5 : ∀ w ∈ wsX50, w ∈ wsX5_leave := fun _ h => List.mem_cons_of_mem _ (List.mem_append_right _ (h))
def m_X5_leave (tTrail : Int32) (num : Int32) : (Int32) := (((31 : Int32) * tTrail) + num)
set_option maxRecDepth 100000 in
set_option maxHeartbeats 4000000 in
theorem c_X5_leave (D : va_G) (cI : ClassId) (aTE : Nat) (tTrail : Int32) (num : Int32) : MC yX5_leave wsX5_leave ({ frames := 0, cells := 0, slots := 0, locals := 0 } : Room) D [(cI, .int)] [.ref aTE, .int num] [(aTE, .inr (5, [.int tTrail]))] none [(aTE, .inr (5, [.int (m_X5_leave tTrail num)]))] := by
  refine g_entry (by decide) rfl rfl rfl rfl (Nat.le_of_ble_eq_true rfl) (lv := [(0, .ref aTE), (1, .int num)]) rfl ?_
  intro X hC hX
  obtain ⟨res, hres⟩ : ∃ z, z = (m_X5_leave tTrail num) := ⟨_, rfl⟩
  rw [← hres] at hX
  rw [m_X5_leave] at hres
  refine g_aload_n hC dX5_leave_0 rfl 0 rfl rfl ?_
  refine g_bipush (v := 31) hC dX5_leave_1 (by decide) rfl ?_
  refine g_aload_n hC dX5_leave_3 rfl 0 rfl rfl ?_
  refine g_get hC iw_X5_leave_RX5 0 rfl rfl 0 (by decide) (List.mem_of_getElem? (i := 1) rfl) rfl rfl dX5_leave_4 rfl ?_
  refine g_imul hC dX5_leave_7 rfl ?_
  refine g_iload_n hC dX5_leave_8 rfl 1 rfl rfl ?_
  refine g_iadd hC dX5_leave_9 rfl ?_
  refine g_put (ws' := [(aTE, .inr (5, [.int (((31 : Int32) * tTrail) + num)]))]) hC iw_X5_leave_RX5 0 rfl rfl 0 (by decide) (List.mem_of_getElem? (i := 1) rfl) rfl tyX5 tyX5_ok nmX5 rfl rfl rfl (Nat.le_of_ble_eq_true rfl) rfl dX5_leave_10 rfl ?_
  subst hres
  exact g_vret hC hX rfl dX5_leave_13 rfl rfl
def m_X5_cambricTells (tTrail : Int32) (dn : Int32) : (Int32 × Int32) := (dn, (m_X5_leave tTrail (1 : Int32)))
set_option maxRecDepth 100000 in
set_option maxHeartbeats 4000000 in
theorem c_X5_cambricTells (D : va_G) (cI : ClassId) (aTE : Nat) (tTrail : Int32) (dn : Int32) : MC yX5_cambricTells wsX5_cambricTells ({ frames := 1, cells := 0, slots := 0, locals := 21 } : Room) D [(cI, .int)] [.ref aTE, .int dn] [(aTE, .inr (5, [.int tTrail]))] (some (.int ((m_X5_cambricTells tTrail dn).1))) [(aTE, .inr (5, [.int ((m_X5_cambricTells tTrail dn).2)]))] := by
  refine g_entry (by decide) rfl rfl rfl rfl (Nat.le_of_ble_eq_true rfl) (lv := [(0, .ref aTE), (1, .int dn)]) rfl ?_
  intro X hC hX
  obtain ⟨res, hres⟩ : ∃ z, z = (m_X5_cambricTells tTrail dn) := ⟨_, rfl⟩
  rw [← hres] at hX
  rw [m_X5_cambricTells] at hres
  refine g_aload_n hC dX5_cambricTells_0 rfl 0 rfl rfl ?_
  refine g_iconst (v := 1) hC dX5_cambricTells_1 (by decide) rfl ?_
  refine g_callV (ws' := [(aTE, .inr (5, [.int (m_X5_leave tTrail (1 : Int32))]))]) (st' := []) (nw := 1) (n1 := 1) hC gX5_cambricTells_X5_leave hdV_yX5_leave 0 rfl rfl (As := [.int (1 : Int32)]) (rest := []) (c_X5_leave D cI aTE tTrail (1 : Int32)) rfl ⟨by decide, by decide⟩ rfl [0] [] [0] [0] rfl rfl rfl rfl (by decide) rfl rfl (Nat.le_of_ble_eq_true rfl) dX5_cambricTells_2 rfl rfl ?_
  refine g_iload_n hC dX5_cambricTells_5 rfl 1 rfl rfl ?_
  subst hres
  exact g_iret hC hX rfl dX5_cambricTells_6 rfl rfl
def m_X5_laceTells (tTrail : Int32) (dn : Int32) : (Int32 × Int32) := (((m_X5_cambricTells (m_X5_leave tTrail (2 : Int32)) dn).1 + (100 : Int32)), (m_X5_cambricTells (m_X5_leave tTrail (2 : Int32)) dn).2)
set_option maxRecDepth 100000 in
set_option maxHeartbeats 4000000 in
theorem c_X5_laceTells (D : va_G) (cI : ClassId) (aTE : Nat) (tTrail : Int32) (dn : Int32) : MC yX5_laceTells wsX5_laceTells ({ frames := 2, cells := 0, slots := 0, locals := 42 } : Room) D [(cI, .int)] [.ref aTE, .int dn] [(aTE, .inr (5, [.int tTrail]))] (some (.int ((m_X5_laceTells tTrail dn).1))) [(aTE, .inr (5, [.int ((m_X5_laceTells tTrail dn).2)]))] := by
  refine g_entry (by decide) rfl rfl rfl rfl (Nat.le_of_ble_eq_true rfl) (lv := [(0, .ref aTE), (1, .int dn)]) rfl ?_
  intro X hC hX
  obtain ⟨res, hres⟩ : ∃ z, z = (m_X5_laceTells tTrail dn) := ⟨_, rfl⟩
  rw [← hres] at hX
  rw [m_X5_laceTells] at hres
  refine g_aload_n hC dX5_laceTells_0 rfl 0 rfl rfl ?_
  refine g_iconst (v := 2) hC dX5_laceTells_1 (by decide) rfl ?_
  refine g_callV (ws' := [(aTE, .inr (5, [.int (m_X5_leave tTrail (2 : Int32))]))]) (st' := []) (nw := 1) (n1 := 1) hC gX5_laceTells_X5_leave hdV_yX5_leave 0 rfl rfl (As := [.int (2 : Int32)]) (rest := []) (c_X5_leave D cI aTE tTrail (2 : Int32)) rfl ⟨by decide, by decide⟩ rfl [0] [] [0] [0] rfl rfl rfl rfl (by decide) rfl rfl (Nat.le_of_ble_eq_true rfl) dX5_laceTells_2 rfl rfl ?_
  refine g_aload_n hC dX5_laceTells_5 rfl 0 rfl rfl ?_
  refine g_iload_n hC dX5_laceTells_6 rfl 1 rfl rfl ?_
  refine g_callV (ws' := [(aTE, .inr (5, [.int ((m_X5_cambricTells (m_X5_leave tTrail (2 : Int32)) dn).2)]))]) (st' := [.int ((m_X5_cambricTells (m_X5_leave tTrail (2 : Int32)) dn).1)]) (nw := 1) (n1 := 1) hC gX5_laceTells_X5_cambricTells hdV_yX5_cambricTells 0 rfl rfl (As := [.int dn]) (rest := []) (c_X5_cambricTells D cI aTE (m_X5_leave tTrail (2 : Int32)) dn) rfl ⟨by decide, by decide⟩ rfl [0] [] [0] [0] rfl rfl rfl rfl (by decide) rfl rfl (Nat.le_of_ble_eq_true rfl) dX5_laceTells_7 rfl rfl ?_
  refine g_bipush (v := 100) hC dX5_laceTells_10 (by decide) rfl ?_
  refine g_iadd hC dX5_laceTells_12 rfl ?_
  subst hres
  exact g_iret hC hX rfl dX5_laceTells_13 rfl rfl
def m_X5_silkTells (tTrail : Int32) (dn : Int32) : (Int32 × Int32) := (((m_X5_laceTells (m_X5_leave tTrail (3 : Int32)) dn).1 + (m_X5_cambricTells ((m_X5_laceTells (m_X5_leave tTrail (3 : Int32)) dn).2) dn).1), (m_X5_cambricTells ((m_X5_laceTells (m_X5_leave tTrail (3 : Int32)) dn).2) dn).2)
set_option maxRecDepth 100000 in
set_option maxHeartbeats 4000000 in
theorem c_X5_silkTells (D : va_G) (cI : ClassId) (aTE : Nat) (tTrail : Int32) (dn : Int32) : MC yX5_silkTells wsX5_silkTells ({ frames := 3, cells := 0, slots := 0, locals := 63 } : Room) D [(cI, .int)] [.ref aTE, .int dn] [(aTE, .inr (5, [.int tTrail]))] (some (.int ((m_X5_silkTells tTrail dn).1))) [(aTE, .inr (5, [.int ((m_X5_silkTells tTrail dn).2)]))] := by
  refine g_entry (by decide) rfl rfl rfl rfl (Nat.le_of_ble_eq_true rfl) (lv := [(0, .ref aTE), (1, .int dn)]) rfl ?_
  intro X hC hX
  obtain ⟨res, hres⟩ : ∃ z, z = (m_X5_silkTells tTrail dn) := ⟨_, rfl⟩
  rw [← hres] at hX
  rw [m_X5_silkTells] at hres
  refine g_aload_n hC dX5_silkTells_0 rfl 0 rfl rfl ?_
  refine g_iconst (v := 3) hC dX5_silkTells_1 (by decide) rfl ?_
  refine g_callV (ws' := [(aTE, .inr (5, [.int (m_X5_leave tTrail (3 : Int32))]))]) (st' := []) (nw := 1) (n1 := 1) hC gX5_silkTells_X5_leave hdV_yX5_leave 0 rfl rfl (As := [.int (3 : Int32)]) (rest := []) (c_X5_leave D cI aTE tTrail (3 : Int32)) rfl ⟨by decide, by decide⟩ rfl [0] [] [0] [0] rfl rfl rfl rfl (by decide) rfl rfl (Nat.le_of_ble_eq_true rfl) dX5_silkTells_2 rfl rfl ?_
  refine g_aload_n hC dX5_silkTells_5 rfl 0 rfl rfl ?_
  refine g_iload_n hC dX5_silkTells_6 rfl 1 rfl rfl ?_
  refine g_callV (ws' := [(aTE, .inr (5, [.int ((m_X5_laceTells (m_X5_leave tTrail (3 : Int32)) dn).2)]))]) (st' := [.int ((m_X5_laceTells (m_X5_leave tTrail (3 : Int32)) dn).1)]) (nw := 1) (n1 := 1) hC gX5_silkTells_X5_laceTells hdV_yX5_laceTells 0 rfl rfl (As := [.int dn]) (rest := []) (c_X5_laceTells D cI aTE (m_X5_leave tTrail (3 : Int32)) dn) rfl ⟨by decide, by decide⟩ rfl [0] [] [0] [0] rfl rfl rfl rfl (by decide) rfl rfl (Nat.le_of_ble_eq_true rfl) dX5_silkTells_7 rfl rfl ?_
  refine g_istore_n (lv' := [(2, .int ((m_X5_laceTells (m_X5_leave tTrail (3 : Int32)) dn).1)), (0, .ref aTE), (1, .int dn)]) hC dX5_silkTells_10 rfl (by decide) rfl rfl ?_
  refine g_iload_n hC dX5_silkTells_11 rfl 0 rfl rfl ?_
  refine g_aload_n hC dX5_silkTells_12 rfl 1 rfl rfl ?_
  refine g_iload_n hC dX5_silkTells_13 rfl 2 rfl rfl ?_
  refine g_callV (ws' := [(aTE, .inr (5, [.int ((m_X5_cambricTells ((m_X5_laceTells (m_X5_leave tTrail (3 : Int32)) dn).2) dn).2)]))]) (st' := [.int ((m_X5_cambricTells ((m_X5_laceTells (m_X5_leave tTrail (3 : Int32)) dn).2) dn).1), .int ((m_X5_laceTells (m_X5_leave tTrail (3 : Int32)) dn).1)]) (nw := 1) (n1 := 1) hC gX5_silkTells_X5_cambricTells hdV_yX5_cambricTells 0 rfl rfl (As := [.int dn]) (rest := [.int ((m_X5_laceTells (m_X5_leave tTrail (3 : Int32)) dn).1)]) (c_X5_cambricTells D cI aTE ((m_X5_laceTells (m_X5_leave tTrail (3 : Int32)) dn).2) dn) rfl ⟨by decide, by decide⟩ rfl [0] [] [0] [0] rfl rfl rfl rfl (by decide) rfl rfl (Nat.le_of_ble_eq_true rfl) dX5_silkTells_14 rfl rfl ?_
  refine g_iadd hC dX5_silkTells_17 rfl ?_
  subst hres
  exact g_iret hC hX rfl dX5_silkTells_18 rfl rfl
def m_X5_isKnotted (tTrail : Int32) (num : Int32) : (Int32 × Int32) := (num, (m_X5_leave tTrail (4 : Int32)))
set_option maxRecDepth 100000 in
set_option maxHeartbeats 4000000 in
theorem c_X5_isKnotted (D : va_G) (cI : ClassId) (aTE : Nat) (tTrail : Int32) (num : Int32) : MC yX5_isKnotted wsX5_isKnotted ({ frames := 1, cells := 0, slots := 0, locals := 21 } : Room) D [(cI, .int)] [.ref aTE, .int num] [(aTE, .inr (5, [.int tTrail]))] (some (.int ((m_X5_isKnotted tTrail num).1))) [(aTE, .inr (5, [.int ((m_X5_isKnotted tTrail num).2)]))] := by
  refine g_entry (by decide) rfl rfl rfl rfl (Nat.le_of_ble_eq_true rfl) (lv := [(0, .ref aTE), (1, .int num)]) rfl ?_
  intro X hC hX
  obtain ⟨res, hres⟩ : ∃ z, z = (m_X5_isKnotted tTrail num) := ⟨_, rfl⟩
  rw [← hres] at hX
  rw [m_X5_isKnotted] at hres
  refine g_aload_n hC dX5_isKnotted_0 rfl 0 rfl rfl ?_
  refine g_iconst (v := 4) hC dX5_isKnotted_1 (by decide) rfl ?_
  refine g_callV (ws' := [(aTE, .inr (5, [.int (m_X5_leave tTrail (4 : Int32))]))]) (st' := []) (nw := 1) (n1 := 1) hC gX5_isKnotted_X5_leave hdV_yX5_leave 0 rfl rfl (As := [.int (4 : Int32)]) (rest := []) (c_X5_leave D cI aTE tTrail (4 : Int32)) rfl ⟨by decide, by decide⟩ rfl [0] [] [0] [0] rfl rfl rfl rfl (by decide) rfl rfl (Nat.le_of_ble_eq_true rfl) dX5_isKnotted_2 rfl rfl ?_
  refine g_iload_n hC dX5_isKnotted_5 rfl 1 rfl rfl ?_
  subst hres
  exact g_iret hC hX rfl dX5_isKnotted_6 rfl rfl
def m_X5_silkIsKnotted (tTrail : Int32) : (Int32 × Int32) := ((30 : Int32), (m_X5_leave tTrail (5 : Int32)))
set_option maxRecDepth 100000 in
set_option maxHeartbeats 4000000 in
theorem c_X5_silkIsKnotted (D : va_G) (cI : ClassId) (aTE : Nat) (tTrail : Int32) : MC yX5_silkIsKnotted wsX5_silkIsKnotted ({ frames := 1, cells := 0, slots := 0, locals := 21 } : Room) D [(cI, .int)] [.ref aTE] [(aTE, .inr (5, [.int tTrail]))] (some (.int ((m_X5_silkIsKnotted tTrail).1))) [(aTE, .inr (5, [.int ((m_X5_silkIsKnotted tTrail).2)]))] := by
  refine g_entry (by decide) rfl rfl rfl rfl (Nat.le_of_ble_eq_true rfl) (lv := [(0, .ref aTE)]) rfl ?_
  intro X hC hX
  obtain ⟨res, hres⟩ : ∃ z, z = (m_X5_silkIsKnotted tTrail) := ⟨_, rfl⟩
  rw [← hres] at hX
  rw [m_X5_silkIsKnotted] at hres
  refine g_aload_n hC dX5_silkIsKnotted_0 rfl 0 rfl rfl ?_
  refine g_iconst (v := 5) hC dX5_silkIsKnotted_1 (by decide) rfl ?_
  refine g_callV (ws' := [(aTE, .inr (5, [.int (m_X5_leave tTrail (5 : Int32))]))]) (st' := []) (nw := 1) (n1 := 1) hC gX5_silkIsKnotted_X5_leave hdV_yX5_leave 0 rfl rfl (As := [.int (5 : Int32)]) (rest := []) (c_X5_leave D cI aTE tTrail (5 : Int32)) rfl ⟨by decide, by decide⟩ rfl [0] [] [0] [0] rfl rfl rfl rfl (by decide) rfl rfl (Nat.le_of_ble_eq_true rfl) dX5_silkIsKnotted_2 rfl rfl ?_
  refine g_bipush (v := 30) hC dX5_silkIsKnotted_5 (by decide) rfl ?_
  subst hres
  exact g_iret hC hX rfl dX5_silkIsKnotted_7 rfl rfl
theorem iw_X4_cut_RX4 : ∀ w ∈ wsX40, w ∈ wsX4_cut := fun _ h => List.mem_cons_of_mem _ (List.mem_append_right _ (h))
def m_X4_cut (sLane : Int32) (v : Int32) : (Int32) := (if sLane = 0 then v.toInt8.toInt32 else (if sLane = (1 : Int32) then v.toInt16.toInt32 else v))
set_option maxRecDepth 100000 in
set_option maxHeartbeats 4000000 in
theorem c_X4_cut (D : va_G) (cI : ClassId) (aSh : Nat) (aShA : Nat) (sHas : Int32) (sLane : Int32) (sLen : Int32) (v : Int32) : MC yX4_cut wsX4_cut ({ frames := 0, cells := 0, slots := 0, locals := 0 } : Room) D [(cI, .int)] [.ref aSh, .int v] [(aSh, .inr (4, [.ref aShA, .int sHas, .int sLane, .int sLen]))] (some (.int (m_X4_cut sLane v))) [(aSh, .inr (4, [.ref aShA, .int sHas, .int sLane, .int sLen]))] := by
  refine g_entry (by decide) rfl rfl rfl rfl (Nat.le_of_ble_eq_true rfl) (lv := [(0, .ref aSh), (1, .int v)]) rfl ?_
  intro X hC hX
  obtain ⟨res, hres⟩ : ∃ z, z = (m_X4_cut sLane v) := ⟨_, rfl⟩
  rw [← hres] at hX
  rw [m_X4_cut] at hres
  refine g_aload_n hC dX4_cut_0 rfl 0 rfl rfl ?_
  refine g_get hC iw_X4_cut_RX4 0 rfl rfl 2 (by decide) (List.mem_of_getElem? (i := 1) rfl) rfl rfl dX4_cut_1 rfl ?_
  refine g_if_ne (tgt := 10) hC dX4_cut_4 (by decide) rfl (fun c_4 => ?_) (fun c_4 => ?_)
  · rw [if_neg c_4] at hres
    refine g_aload_n hC dX4_cut_10 rfl 0 rfl rfl ?_
    refine g_get hC iw_X4_cut_RX4 0 rfl rfl 2 (by decide) (List.mem_of_getElem? (i := 1) rfl) rfl rfl dX4_cut_11 rfl ?_
    refine g_iconst (v := 1) hC dX4_cut_14 (by decide) rfl ?_
    have K_15 : ∀ vK : Int32, vK = (if sLane = (1 : Int32) then v.toInt16.toInt32 else v) → G X D 2 [(aSh, .inr (4, [.ref aShA, .int sHas, .int sLane, .int sLen]))] [(0, .ref aSh), (1, .int v)] 24 (.int vK :: []) := by
      intro vK hvK
      subst hvK
      subst hres
      exact g_iret hC hX rfl dX4_cut_24 rfl rfl
    refine g_icmp_ne (tgt := 23) hC dX4_cut_15 (by decide) rfl (fun c_15 => ?_) (fun c_15 => ?_)
    · refine g_iload_n hC dX4_cut_23 rfl 1 rfl rfl ?_
      exact K_15 _ (if_neg c_15).symm
    · refine g_iload_n hC dX4_cut_18 rfl 1 rfl rfl ?_
      refine g_i2s hC dX4_cut_19 rfl ?_
      refine g_goto (tgt := 24) hC dX4_cut_20 (by decide) ?_
      exact K_15 _ (if_pos c_15).symm
  · rw [if_pos c_4] at hres
    refine g_iload_n hC dX4_cut_7 rfl 1 rfl rfl ?_
    refine g_i2b hC dX4_cut_8 rfl ?_
    subst hres
    exact g_iret hC hX rfl dX4_cut_9 rfl rfl
theorem iw_X4_holds_RX4 : ∀ w ∈ wsX40, w ∈ wsX4_holds := fun _ h => List.mem_cons_of_mem _ (List.mem_append_right _ (h))
def m_X4_holds (sLen : Int32) (i : Int32) (n : Int32) : (Int32) := (if i < 0 then (0 : Int32) else (if n < 0 then (0 : Int32) else (if sLen < i then (0 : Int32) else (if (sLen - i) < n then (0 : Int32) else (1 : Int32)))))
set_option maxRecDepth 100000 in
set_option maxHeartbeats 4000000 in
theorem c_X4_holds (D : va_G) (cI : ClassId) (aSh : Nat) (aShA : Nat) (sHas : Int32) (sLane : Int32) (sLen : Int32) (i : Int32) (n : Int32) : MC yX4_holds wsX4_holds ({ frames := 0, cells := 0, slots := 0, locals := 0 } : Room) D [(cI, .int)] [.ref aSh, .int i, .int n] [(aSh, .inr (4, [.ref aShA, .int sHas, .int sLane, .int sLen]))] (some (.int (m_X4_holds sLen i n))) [(aSh, .inr (4, [.ref aShA, .int sHas, .int sLane, .int sLen]))] := by
  refine g_entry (by decide) rfl rfl rfl rfl (Nat.le_of_ble_eq_true rfl) (lv := [(0, .ref aSh), (1, .int i), (2, .int n)]) rfl ?_
  intro X hC hX
  obtain ⟨res, hres⟩ : ∃ z, z = (m_X4_holds sLen i n) := ⟨_, rfl⟩
  rw [← hres] at hX
  rw [m_X4_holds] at hres
  refine g_iload_n hC dX4_holds_0 rfl 1 rfl rfl ?_
  refine g_if_lt (tgt := 30) hC dX4_holds_1 (by decide) rfl (fun c_1 => ?_) (fun c_1 => ?_)
  · rw [if_pos c_1] at hres
    refine g_iconst (v := 0) hC dX4_holds_30 (by decide) rfl ?_
    subst hres
    exact g_zret hC hX rfl rfl dX4_holds_31 rfl rfl
  · rw [if_neg c_1] at hres
    refine g_iload_n hC dX4_holds_4 rfl 2 rfl rfl ?_
    refine g_if_lt (tgt := 30) hC dX4_holds_5 (by decide) rfl (fun c_5 => ?_) (fun c_5 => ?_)
    · rw [if_pos c_5] at hres
      refine g_iconst (v := 0) hC dX4_holds_30 (by decide) rfl ?_
      subst hres
      exact g_zret hC hX rfl rfl dX4_holds_31 rfl rfl
    · rw [if_neg c_5] at hres
      refine g_iload_n hC dX4_holds_8 rfl 1 rfl rfl ?_
      refine g_aload_n hC dX4_holds_9 rfl 0 rfl rfl ?_
      refine g_get hC iw_X4_holds_RX4 0 rfl rfl 3 (by decide) (List.mem_of_getElem? (i := 1) rfl) rfl rfl dX4_holds_10 rfl ?_
      refine g_icmp_gt (tgt := 30) hC dX4_holds_13 (by decide) rfl (fun c_13 => ?_) (fun c_13 => ?_)
      · rw [if_pos c_13] at hres
        refine g_iconst (v := 0) hC dX4_holds_30 (by decide) rfl ?_
        subst hres
        exact g_zret hC hX rfl rfl dX4_holds_31 rfl rfl
      · rw [if_neg c_13] at hres
        refine g_iload_n hC dX4_holds_16 rfl 2 rfl rfl ?_
        refine g_aload_n hC dX4_holds_17 rfl 0 rfl rfl ?_
        refine g_get hC iw_X4_holds_RX4 0 rfl rfl 3 (by decide) (List.mem_of_getElem? (i := 1) rfl) rfl rfl dX4_holds_18 rfl ?_
        refine g_iload_n hC dX4_holds_21 rfl 1 rfl rfl ?_
        refine g_isub hC dX4_holds_22 rfl ?_
        refine g_icmp_gt (tgt := 30) hC dX4_holds_23 (by decide) rfl (fun c_23 => ?_) (fun c_23 => ?_)
        · rw [if_pos c_23] at hres
          refine g_iconst (v := 0) hC dX4_holds_30 (by decide) rfl ?_
          subst hres
          exact g_zret hC hX rfl rfl dX4_holds_31 rfl rfl
        · rw [if_neg c_23] at hres
          refine g_iconst (v := 1) hC dX4_holds_26 (by decide) rfl ?_
          refine g_goto (tgt := 31) hC dX4_holds_27 (by decide) ?_
          subst hres
          exact g_zret hC hX rfl rfl dX4_holds_31 rfl rfl
theorem iw_X4_faultOfCells_RX4 : ∀ w ∈ wsX40, w ∈ wsX4_faultOfCells := fun _ h => List.mem_cons_of_mem _ (List.mem_append_right _ (h))
def m_X4_faultOfCells (sHas : Int32) (sLane : Int32) (sLen : Int32) (asL : Int32) (i : Int32) (n : Int32) : (Int32) := (if sHas = 0 then (1 : Int32) else (if sLane = asL then (if 0 ≤ n then (if (m_X4_holds sLen i n) = 0 then (3 : Int32) else (0 : Int32)) else (4 : Int32)) else (2 : Int32)))
set_option maxRecDepth 100000 in
set_option maxHeartbeats 4000000 in
theorem c_X4_faultOfCells (D : va_G) (cI : ClassId) (aSh : Nat) (aShA : Nat) (sHas : Int32) (sLane : Int32) (sLen : Int32) (asL : Int32) (i : Int32) (n : Int32) : MC yX4_faultOfCells wsX4_faultOfCells ({ frames := 1, cells := 0, slots := 0, locals := 22 } : Room) D [(cI, .int)] [.ref aSh, .int asL, .int i, .int n] [(aSh, .inr (4, [.ref aShA, .int sHas, .int sLane, .int sLen]))] (some (.int (m_X4_faultOfCells sHas sLane sLen asL i n))) [(aSh, .inr (4, [.ref aShA, .int sHas, .int sLane, .int sLen]))] := by
  refine g_entry (by decide) rfl rfl rfl rfl (Nat.le_of_ble_eq_true rfl) (lv := [(0, .ref aSh), (1, .int asL), (2, .int i), (3, .int n)]) rfl ?_
  intro X hC hX
  obtain ⟨res, hres⟩ : ∃ z, z = (m_X4_faultOfCells sHas sLane sLen asL i n) := ⟨_, rfl⟩
  rw [← hres] at hX
  rw [m_X4_faultOfCells] at hres
  refine g_aload_n hC dX4_faultOfCells_0 rfl 0 rfl rfl ?_
  refine g_get hC iw_X4_faultOfCells_RX4 0 rfl rfl 1 (by decide) (List.mem_of_getElem? (i := 1) rfl) rfl rfl dX4_faultOfCells_1 rfl ?_
  refine g_if_ne (tgt := 9) hC dX4_faultOfCells_4 (by decide) rfl (fun c_4 => ?_) (fun c_4 => ?_)
  · rw [if_neg c_4] at hres
    refine g_aload_n hC dX4_faultOfCells_9 rfl 0 rfl rfl ?_
    refine g_get hC iw_X4_faultOfCells_RX4 0 rfl rfl 2 (by decide) (List.mem_of_getElem? (i := 2) rfl) rfl rfl dX4_faultOfCells_10 rfl ?_
    refine g_iload_n hC dX4_faultOfCells_13 rfl 1 rfl rfl ?_
    refine g_icmp_eq (tgt := 19) hC dX4_faultOfCells_14 (by decide) rfl (fun c_14 => ?_) (fun c_14 => ?_)
    · rw [if_pos c_14] at hres
      refine g_iload_n hC dX4_faultOfCells_19 rfl 3 rfl rfl ?_
      refine g_if_ge (tgt := 25) hC dX4_faultOfCells_20 (by decide) rfl (fun c_20 => ?_) (fun c_20 => ?_)
      · rw [if_pos c_20] at hres
        refine g_aload_n hC dX4_faultOfCells_25 rfl 0 rfl rfl ?_
        refine g_iload_n hC dX4_faultOfCells_26 rfl 2 rfl rfl ?_
        refine g_iload_n hC dX4_faultOfCells_27 rfl 3 rfl rfl ?_
        refine g_callV (ws' := [(aSh, .inr (4, [.ref aShA, .int sHas, .int sLane, .int sLen]))]) (st' := [.int (m_X4_holds sLen i n)]) (nw := 1) (n1 := 1) hC gX4_faultOfCells_X4_holds hdV_yX4_holds 0 rfl rfl (As := [.int i, .int n]) (rest := []) (c_X4_holds D cI aSh aShA sHas sLane sLen i n) rfl ⟨by decide, by decide⟩ rfl [0] [] [0] [0] rfl rfl rfl rfl (by decide) rfl rfl (Nat.le_of_ble_eq_true rfl) dX4_faultOfCells_28 rfl rfl ?_
        have K_31 : ∀ vK : Int32, vK = (if (m_X4_holds sLen i n) = 0 then (3 : Int32) else (0 : Int32)) → G X D 4 [(aSh, .inr (4, [.ref aShA, .int sHas, .int sLane, .int sLen]))] [(0, .ref aSh), (1, .int asL), (2, .int i), (3, .int n)] 39 (.int vK :: []) := by
          intro vK hvK
          subst hvK
          subst hres
          exact g_iret hC hX rfl dX4_faultOfCells_39 rfl rfl
        refine g_if_eq (tgt := 38) hC dX4_faultOfCells_31 (by decide) rfl (fun c_31 => ?_) (fun c_31 => ?_)
        · refine g_iconst (v := 3) hC dX4_faultOfCells_38 (by decide) rfl ?_
          exact K_31 _ (if_pos c_31).symm
        · refine g_iconst (v := 0) hC dX4_faultOfCells_34 (by decide) rfl ?_
          refine g_goto (tgt := 39) hC dX4_faultOfCells_35 (by decide) ?_
          exact K_31 _ (if_neg c_31).symm
      · rw [if_neg c_20] at hres
        refine g_iconst (v := 4) hC dX4_faultOfCells_23 (by decide) rfl ?_
        subst hres
        exact g_iret hC hX rfl dX4_faultOfCells_24 rfl rfl
    · rw [if_neg c_14] at hres
      refine g_iconst (v := 2) hC dX4_faultOfCells_17 (by decide) rfl ?_
      subst hres
      exact g_iret hC hX rfl dX4_faultOfCells_18 rfl rfl
  · rw [if_pos c_4] at hres
    refine g_iconst (v := 1) hC dX4_faultOfCells_7 (by decide) rfl ?_
    subst hres
    exact g_iret hC hX rfl dX4_faultOfCells_8 rfl rfl
theorem iw_X4_number_RX4 : ∀ w ∈ wsX40, w ∈ wsX4_number := fun _ h => List.mem_cons_of_mem _ (List.mem_append_right _ (h))
def m_X4_number (sA : Nat → Int32) (i : Int32) : (Int32) := (m_X7_at 60 sA i)
set_option maxRecDepth 100000 in
set_option maxHeartbeats 4000000 in
theorem c_X4_number (D : va_G) (cI : ClassId) (aSh : Nat) (aShA : Nat) (sHas : Int32) (sLane : Int32) (sLen : Int32) (sA : Nat → Int32) (i : Int32) : MC yX4_number wsX4_number ({ frames := 1, cells := 0, slots := 0, locals := 21 } : Room) D [(cI, .int)] [.ref aSh, .int i] [(aSh, .inr (4, [.ref aShA, .int sHas, .int sLane, .int sLen])), (aShA, .inl (cI, 60, .inl sA))] (some (.int (m_X4_number sA i))) [(aSh, .inr (4, [.ref aShA, .int sHas, .int sLane, .int sLen])), (aShA, .inl (cI, 60, .inl sA))] := by
  refine g_entry (by decide) rfl rfl rfl rfl (Nat.le_of_ble_eq_true rfl) (lv := [(0, .ref aSh), (1, .int i)]) rfl ?_
  intro X hC hX
  obtain ⟨res, hres⟩ : ∃ z, z = (m_X4_number sA i) := ⟨_, rfl⟩
  rw [← hres] at hX
  rw [m_X4_number] at hres
  refine g_aload_n hC dX4_number_0 rfl 0 rfl rfl ?_
  refine g_get hC iw_X4_number_RX4 0 rfl rfl 0 (by decide) (List.mem_of_getElem? (i := 1) rfl) rfl rfl dX4_number_1 rfl ?_
  refine g_iload_n hC dX4_number_4 rfl 1 rfl rfl ?_
  refine g_callN (ws' := [(aSh, .inr (4, [.ref aShA, .int sHas, .int sLane, .int sLen])), (aShA, .inl (cI, 60, .inl sA))]) (st' := [.int (m_X7_at 60 sA i)]) (nw := 2) (n1 := 1) hC gX4_number_X7_at_n45 (List.mem_of_getElem? (i := 16) rfl) (List.mem_of_getElem? (i := 3) rfl) (List.mem_of_getElem? (i := 2) rfl) hdS_yX7_at (As := [.ref aShA, .int i]) (rest := []) (c_X7_at D cI aShA 60 sA i (by decide)) rfl ⟨by decide, by decide⟩ rfl [1] [0] [0, 1] [0] rfl rfl rfl rfl (by decide) rfl rfl (Nat.le_of_ble_eq_true rfl) dX4_number_5 rfl rfl ?_
  subst hres
  exact g_iret hC hX rfl dX4_number_8 rfl rfl
theorem iw_X4_store_RX4 : ∀ w ∈ wsX40, w ∈ wsX4_store := fun _ h => List.mem_cons_of_mem _ (List.mem_append_right _ (h))
def m_X4_store (sLane : Int32) (sA : Nat → Int32) (i : Int32) (v : Int32) : ((Nat → Int32)) := (m_X7_set 60 sA i (m_X4_cut sLane v))
set_option maxRecDepth 100000 in
set_option maxHeartbeats 4000000 in
theorem c_X4_store (D : va_G) (cI : ClassId) (aSh : Nat) (aShA : Nat) (sHas : Int32) (sLane : Int32) (sLen : Int32) (sA : Nat → Int32) (i : Int32) (v : Int32) : MC yX4_store wsX4_store ({ frames := 1, cells := 0, slots := 0, locals := 22 } : Room) D [(cI, .int)] [.ref aSh, .int i, .int v] [(aSh, .inr (4, [.ref aShA, .int sHas, .int sLane, .int sLen])), (aShA, .inl (cI, 60, .inl sA))] none [(aSh, .inr (4, [.ref aShA, .int sHas, .int sLane, .int sLen])), (aShA, .inl (cI, 60, .inl (m_X4_store sLane sA i v)))] := by
  refine g_entry (by decide) rfl rfl rfl rfl (Nat.le_of_ble_eq_true rfl) (lv := [(0, .ref aSh), (1, .int i), (2, .int v)]) rfl ?_
  intro X hC hX
  obtain ⟨res, hres⟩ : ∃ z, z = (m_X4_store sLane sA i v) := ⟨_, rfl⟩
  rw [← hres] at hX
  rw [m_X4_store] at hres
  refine g_aload_n hC dX4_store_0 rfl 0 rfl rfl ?_
  refine g_get hC iw_X4_store_RX4 0 rfl rfl 0 (by decide) (List.mem_of_getElem? (i := 1) rfl) rfl rfl dX4_store_1 rfl ?_
  refine g_iload_n hC dX4_store_4 rfl 1 rfl rfl ?_
  refine g_aload_n hC dX4_store_5 rfl 0 rfl rfl ?_
  refine g_iload_n hC dX4_store_6 rfl 2 rfl rfl ?_
  refine g_callV (ws' := [(aSh, .inr (4, [.ref aShA, .int sHas, .int sLane, .int sLen])), (aShA, .inl (cI, 60, .inl sA))]) (st' := [.int (m_X4_cut sLane v), .int i, .ref aShA]) (nw := 2) (n1 := 1) hC gX4_store_X4_cut hdV_yX4_cut 0 rfl rfl (As := [.int v]) (rest := [.int i, .ref aShA]) (c_X4_cut D cI aSh aShA sHas sLane sLen v) rfl ⟨by decide, by decide⟩ rfl [0] [1] [1, 0] [0] rfl rfl rfl rfl (by decide) rfl rfl (Nat.le_of_ble_eq_true rfl) dX4_store_7 rfl rfl ?_
  refine g_callN (ws' := [(aSh, .inr (4, [.ref aShA, .int sHas, .int sLane, .int sLen])), (aShA, .inl (cI, 60, .inl (m_X7_set 60 sA i (m_X4_cut sLane v))))]) (st' := []) (nw := 2) (n1 := 1) hC gX4_store_X7_set_n53 (List.mem_of_getElem? (i := 17) rfl) (List.mem_of_getElem? (i := 9) rfl) (List.mem_of_getElem? (i := 8) rfl) hdS_yX7_set (As := [.ref aShA, .int i, .int (m_X4_cut sLane v)]) (rest := []) (c_X7_set D cI aShA 60 sA i (m_X4_cut sLane v) (by decide)) rfl ⟨by decide, by decide⟩ rfl [1] [0] [0, 1] [0] rfl rfl rfl rfl (by decide) rfl rfl (Nat.le_of_ble_eq_true rfl) dX4_store_10 rfl rfl ?_
  subst hres
  exact g_vret hC hX rfl dX4_store_13 rfl rfl
theorem iw_X4_renew_RX4 : ∀ w ∈ wsX40, w ∈ wsX4_renew := fun _ h => List.mem_cons_of_mem _ (List.mem_append_right _ (h))
def m_X4_renew (sA : Nat → Int32) (nl : Int32) (n : Int32) : (Int32 × Int32 × Int32 × (Nat → Int32)) := ((1 : Int32), nl, (if (0 : Int32) < (if (60 : Int32) < n then (60 : Int32) else n) then (if (60 : Int32) < n then (60 : Int32) else n) else (0 : Int32)), (m_J7_fill_53178 60 sA (0 : Int32)))
set_option maxRecDepth 100000 in
set_option maxHeartbeats 4000000 in
theorem c_X4_renew (D : va_G) (cI : ClassId) (aSh : Nat) (aShA : Nat) (sHas : Int32) (sLane : Int32) (sLen : Int32) (sA : Nat → Int32) (nl : Int32) (n : Int32) : MC yX4_renew wsX4_renew ({ frames := 1, cells := 0, slots := 0, locals := 23 } : Room) D [(cI, .int)] [.ref aSh, .int nl, .int n] [(aSh, .inr (4, [.ref aShA, .int sHas, .int sLane, .int sLen])), (aShA, .inl (cI, 60, .inl sA))] none [(aSh, .inr (4, [.ref aShA, .int ((m_X4_renew sA nl n).1), .int ((m_X4_renew sA nl n).2.1), .int ((m_X4_renew sA nl n).2.2.1)])), (aShA, .inl (cI, 60, .inl ((m_X4_renew sA nl n).2.2.2)))] := by
  refine g_entry (by decide) rfl rfl rfl rfl (Nat.le_of_ble_eq_true rfl) (lv := [(0, .ref aSh), (1, .int nl), (2, .int n)]) rfl ?_
  intro X hC hX
  obtain ⟨res, hres⟩ : ∃ z, z = (m_X4_renew sA nl n) := ⟨_, rfl⟩
  rw [← hres] at hX
  rw [m_X4_renew] at hres
  refine g_aload_n hC dX4_renew_0 rfl 0 rfl rfl ?_
  refine g_iconst (v := 1) hC dX4_renew_1 (by decide) rfl ?_
  refine g_put (ws' := [(aSh, .inr (4, [.ref aShA, .int (1 : Int32), .int sLane, .int sLen])), (aShA, .inl (cI, 60, .inl sA))]) hC iw_X4_renew_RX4 0 rfl rfl 1 (by decide) (List.mem_of_getElem? (i := 1) rfl) rfl tyX4 tyX4_ok nmX4 rfl rfl rfl (Nat.le_of_ble_eq_true rfl) rfl dX4_renew_2 rfl ?_
  refine g_aload_n hC dX4_renew_5 rfl 0 rfl rfl ?_
  refine g_iload_n hC dX4_renew_6 rfl 1 rfl rfl ?_
  refine g_put (ws' := [(aSh, .inr (4, [.ref aShA, .int (1 : Int32), .int nl, .int sLen])), (aShA, .inl (cI, 60, .inl sA))]) hC iw_X4_renew_RX4 0 rfl rfl 2 (by decide) (List.mem_of_getElem? (i := 2) rfl) rfl tyX4 tyX4_ok nmX4 rfl rfl rfl (Nat.le_of_ble_eq_true rfl) rfl dX4_renew_7 rfl ?_
  refine g_aload_n hC dX4_renew_10 rfl 0 rfl rfl ?_
  refine g_iconst (v := 0) hC dX4_renew_11 (by decide) rfl ?_
  refine g_iload_n hC dX4_renew_12 rfl 2 rfl rfl ?_
  refine g_bipush (v := 60) hC dX4_renew_13 (by decide) rfl ?_
  refine g_mmin hC (List.mem_of_getElem? (i := 3) rfl) (List.mem_of_getElem? (i := 4) rfl) (List.mem_of_getElem? (i := 5) rfl) (List.mem_of_getElem? (i := 6) rfl) (by decide) (Nat.le_of_ble_eq_true rfl) dX4_renew_15 rfl ?_
  refine g_mmax hC (List.mem_of_getElem? (i := 7) rfl) (List.mem_of_getElem? (i := 8) rfl) (List.mem_of_getElem? (i := 5) rfl) (List.mem_of_getElem? (i := 9) rfl) (by decide) (Nat.le_of_ble_eq_true rfl) dX4_renew_18 rfl ?_
  refine g_put (ws' := [(aSh, .inr (4, [.ref aShA, .int (1 : Int32), .int nl, .int (if (0 : Int32) < (if (60 : Int32) < n then (60 : Int32) else n) then (if (60 : Int32) < n then (60 : Int32) else n) else (0 : Int32))])), (aShA, .inl (cI, 60, .inl sA))]) hC iw_X4_renew_RX4 0 rfl rfl 3 (by decide) (List.mem_of_getElem? (i := 10) rfl) rfl tyX4 tyX4_ok nmX4 rfl rfl rfl (Nat.le_of_ble_eq_true rfl) rfl dX4_renew_21 rfl ?_
  refine g_aload_n hC dX4_renew_24 rfl 0 rfl rfl ?_
  refine g_get hC iw_X4_renew_RX4 0 rfl rfl 0 (by decide) (List.mem_of_getElem? (i := 11) rfl) rfl rfl dX4_renew_25 rfl ?_
  refine g_iconst (v := 0) hC dX4_renew_28 (by decide) rfl ?_
  refine g_callS (ws' := [(aSh, .inr (4, [.ref aShA, .int (1 : Int32), .int nl, .int (if (0 : Int32) < (if (60 : Int32) < n then (60 : Int32) else n) then (if (60 : Int32) < n then (60 : Int32) else n) else (0 : Int32))])), (aShA, .inl (cI, 60, .inl (m_J7_fill_53178 60 sA (0 : Int32))))]) (st' := []) (nw := 2) (n1 := 1) hC gX4_renew_J7_fill_53178 hdS_yJ7_fill_53178 (As := [.ref aShA, .int (0 : Int32)]) (rest := []) (c_J7_fill_53178 D cI aShA 60 sA (0 : Int32) (by decide)) rfl ⟨by decide, by decide⟩ rfl [1] [0] [0, 1] [0] rfl rfl rfl rfl (by decide) rfl rfl (Nat.le_of_ble_eq_true rfl) dX4_renew_29 rfl rfl ?_
  subst hres
  exact g_vret hC hX rfl dX4_renew_32 rfl rfl
