def m_X7_at (nA : Nat) (fA : Nat → Int32) (i : Int32) : (Int32) := (if i < 0 then (0 : Int32) else (if (Int32.ofNat nA) ≤ i then (0 : Int32) else (fA i.toNatClampNeg)))
set_option maxRecDepth 100000 in
set_option maxHeartbeats 4000000 in
theorem c_X7_at (D : va_G) (cI : ClassId) (aA : Nat) (nA : Nat) (fA : Nat → Int32) (i : Int32) (hnA : nA < 2147483648) : MC yX7_at wsX7_at ({ frames := 0, cells := 0, slots := 0, locals := 0 } : Room) D [(cI, .int)] [.ref aA, .int i] [(aA, .inl (cI, nA, .inl fA))] (some (.int (m_X7_at nA fA i))) [(aA, .inl (cI, nA, .inl fA))] := by
  refine g_entry (by decide) rfl rfl rfl rfl (Nat.le_of_ble_eq_true rfl) (lv := [(0, .ref aA), (1, .int i)]) rfl ?_
  intro X hC hX
  obtain ⟨res, hres⟩ : ∃ z, z = (m_X7_at nA fA i) := ⟨_, rfl⟩
  rw [← hres] at hX
  rw [m_X7_at] at hres
  refine g_iload_n hC dX7_at_0 rfl 1 rfl rfl ?_
  refine g_if_lt (tgt := 16) hC dX7_at_1 (by decide) rfl (fun c_1 => ?_) (fun c_1 => ?_)
  · rw [if_pos c_1] at hres
    refine g_iconst (v := 0) hC dX7_at_16 (by decide) rfl ?_
    subst hres
    exact g_iret hC hX rfl dX7_at_17 rfl rfl
  · rw [if_neg c_1] at hres
    refine g_iload_n hC dX7_at_4 rfl 1 rfl rfl ?_
    refine g_aload_n hC dX7_at_5 rfl 0 rfl rfl ?_
    refine g_alen (v := (Int32.ofNat nA)) hC 0 0 rfl rfl rfl dX7_at_6 rfl ?_
    have K_7 : ∀ vK : Int32, vK = (if (Int32.ofNat nA) ≤ i then (0 : Int32) else (fA i.toNatClampNeg)) → G X D 2 [(aA, .inl (cI, nA, .inl fA))] [(0, .ref aA), (1, .int i)] 17 (.int vK :: []) := by
      intro vK hvK
      subst hvK
      subst hres
      exact g_iret hC hX rfl dX7_at_17 rfl rfl
    refine g_icmp_ge (tgt := 16) hC dX7_at_7 (by decide) rfl (fun c_7 => ?_) (fun c_7 => ?_)
    · refine g_iconst (v := 0) hC dX7_at_16 (by decide) rfl ?_
      exact K_7 _ (if_pos c_7).symm
    · refine g_aload_n hC dX7_at_10 rfl 0 rfl rfl ?_
      refine g_iload_n hC dX7_at_11 rfl 1 rfl rfl ?_
      refine g_iald hC 0 0 rfl rfl (by exact in_ge c_1 c_7 hnA) dX7_at_12 rfl ?_
      refine g_goto (tgt := 17) hC dX7_at_13 (by decide) ?_
      exact K_7 _ (if_neg c_7).symm
def m_X7_set (nA : Nat) (fA : Nat → Int32) (i : Int32) (v : Int32) : ((Nat → Int32)) := (if i < 0 then fA else (if (Int32.ofNat nA) ≤ i then fA else (upd fA i.toNatClampNeg v)))
set_option maxRecDepth 100000 in
set_option maxHeartbeats 4000000 in
theorem c_X7_set (D : va_G) (cI : ClassId) (aA : Nat) (nA : Nat) (fA : Nat → Int32) (i : Int32) (v : Int32) (hnA : nA < 2147483648) : MC yX7_set wsX7_set ({ frames := 0, cells := 0, slots := 0, locals := 0 } : Room) D [(cI, .int)] [.ref aA, .int i, .int v] [(aA, .inl (cI, nA, .inl fA))] none [(aA, .inl (cI, nA, .inl (m_X7_set nA fA i v)))] := by
  refine g_entry (by decide) rfl rfl rfl rfl (Nat.le_of_ble_eq_true rfl) (lv := [(0, .ref aA), (1, .int i), (2, .int v)]) rfl ?_
  intro X hC hX
  obtain ⟨res, hres⟩ : ∃ z, z = (m_X7_set nA fA i v) := ⟨_, rfl⟩
  rw [← hres] at hX
  rw [m_X7_set] at hres
  refine g_iload_n hC dX7_set_0 rfl 1 rfl rfl ?_
  refine g_if_lt (tgt := 14) hC dX7_set_1 (by decide) rfl (fun c_1 => ?_) (fun c_1 => ?_)
  · rw [if_pos c_1] at hres
    subst hres
    exact g_vret hC hX rfl dX7_set_14 rfl rfl
  · rw [if_neg c_1] at hres
    refine g_iload_n hC dX7_set_4 rfl 1 rfl rfl ?_
    refine g_aload_n hC dX7_set_5 rfl 0 rfl rfl ?_
    refine g_alen (v := (Int32.ofNat nA)) hC 0 0 rfl rfl rfl dX7_set_6 rfl ?_
    refine g_icmp_ge (tgt := 14) hC dX7_set_7 (by decide) rfl (fun c_7 => ?_) (fun c_7 => ?_)
    · rw [if_pos c_7] at hres
      subst hres
      exact g_vret hC hX rfl dX7_set_14 rfl rfl
    · rw [if_neg c_7] at hres
      refine g_aload_n hC dX7_set_10 rfl 0 rfl rfl ?_
      refine g_iload_n hC dX7_set_11 rfl 1 rfl rfl ?_
      refine g_iload_n hC dX7_set_12 rfl 2 rfl rfl ?_
      refine g_iast (ws' := [(aA, .inl (cI, nA, .inl (upd fA i.toNatClampNeg v)))]) hC 0 0 rfl rfl (by exact in_ge c_1 c_7 hnA) rfl dX7_set_13 rfl ?_
      subst hres
      exact g_vret hC hX rfl dX7_set_14 rfl rfl
def m_X7_exchange (nA : Nat) (fA : Nat → Int32) (i : Int32) (v : Int32) : (Int32 × (Nat → Int32)) := ((m_X7_at nA fA i), (m_X7_set nA fA i v))
set_option maxRecDepth 100000 in
set_option maxHeartbeats 4000000 in
theorem c_X7_exchange (D : va_G) (cI : ClassId) (aA : Nat) (nA : Nat) (fA : Nat → Int32) (i : Int32) (v : Int32) (hnA : nA < 2147483648) : MC yX7_exchange wsX7_exchange ({ frames := 1, cells := 0, slots := 0, locals := 22 } : Room) D [(cI, .int)] [.ref aA, .int i, .int v] [(aA, .inl (cI, nA, .inl fA))] (some (.int ((m_X7_exchange nA fA i v).1))) [(aA, .inl (cI, nA, .inl ((m_X7_exchange nA fA i v).2)))] := by
  refine g_entry (by decide) rfl rfl rfl rfl (Nat.le_of_ble_eq_true rfl) (lv := [(0, .ref aA), (1, .int i), (2, .int v)]) rfl ?_
  intro X hC hX
  obtain ⟨res, hres⟩ : ∃ z, z = (m_X7_exchange nA fA i v) := ⟨_, rfl⟩
  rw [← hres] at hX
  rw [m_X7_exchange] at hres
  refine g_aload_n hC dX7_exchange_0 rfl 0 rfl rfl ?_
  refine g_iload_n hC dX7_exchange_1 rfl 1 rfl rfl ?_
  refine g_callS (ws' := [(aA, .inl (cI, nA, .inl fA))]) (st' := [.int (m_X7_at nA fA i)]) (nw := 1) (n1 := 1) hC gX7_exchange_X7_at hdS_yX7_at (As := [.ref aA, .int i]) (rest := []) (c_X7_at D cI aA nA fA i (by exact hnA)) rfl ⟨by decide, by decide⟩ rfl [0] [] [0] [0] rfl rfl rfl rfl (by decide) rfl rfl (Nat.le_of_ble_eq_true rfl) dX7_exchange_2 rfl rfl ?_
  refine g_istore_n (lv' := [(3, .int (m_X7_at nA fA i)), (0, .ref aA), (1, .int i), (2, .int v)]) hC dX7_exchange_5 rfl (by decide) rfl rfl ?_
  refine g_aload_n hC dX7_exchange_6 rfl 1 rfl rfl ?_
  refine g_iload_n hC dX7_exchange_7 rfl 2 rfl rfl ?_
  refine g_iload_n hC dX7_exchange_8 rfl 3 rfl rfl ?_
  refine g_callS (ws' := [(aA, .inl (cI, nA, .inl (m_X7_set nA fA i v)))]) (st' := []) (nw := 1) (n1 := 1) hC gX7_exchange_X7_set hdS_yX7_set (As := [.ref aA, .int i, .int v]) (rest := []) (c_X7_set D cI aA nA fA i v (by exact hnA)) rfl ⟨by decide, by decide⟩ rfl [0] [] [0] [0] rfl rfl rfl rfl (by decide) rfl rfl (Nat.le_of_ble_eq_true rfl) dX7_exchange_9 rfl rfl ?_
  refine g_iload_n hC dX7_exchange_12 rfl 0 rfl rfl ?_
  subst hres
  exact g_iret hC hX rfl dX7_exchange_13 rfl rfl
def m_X7_isBelow (v : Int32) (limit : Int32) : (Int32) := (if v < 0 then (0 : Int32) else (if limit ≤ v then (0 : Int32) else (1 : Int32)))
set_option maxRecDepth 100000 in
set_option maxHeartbeats 4000000 in
theorem c_X7_isBelow (D : va_G) (cI : ClassId) (v : Int32) (limit : Int32) : MC yX7_isBelow wsX7_isBelow ({ frames := 0, cells := 0, slots := 0, locals := 0 } : Room) D [(cI, .int)] [.int v, .int limit] [] (some (.int (m_X7_isBelow v limit))) [] := by
  refine g_entry (by decide) rfl rfl rfl rfl (Nat.le_of_ble_eq_true rfl) (lv := [(0, .int v), (1, .int limit)]) rfl ?_
  intro X hC hX
  obtain ⟨res, hres⟩ : ∃ z, z = (m_X7_isBelow v limit) := ⟨_, rfl⟩
  rw [← hres] at hX
  rw [m_X7_isBelow] at hres
  refine g_iload_n hC dX7_isBelow_0 rfl 0 rfl rfl ?_
  refine g_if_lt (tgt := 13) hC dX7_isBelow_1 (by decide) rfl (fun c_1 => ?_) (fun c_1 => ?_)
  · rw [if_pos c_1] at hres
    refine g_iconst (v := 0) hC dX7_isBelow_13 (by decide) rfl ?_
    subst hres
    exact g_zret hC hX rfl rfl dX7_isBelow_14 rfl rfl
  · rw [if_neg c_1] at hres
    refine g_iload_n hC dX7_isBelow_4 rfl 0 rfl rfl ?_
    refine g_iload_n hC dX7_isBelow_5 rfl 1 rfl rfl ?_
    refine g_icmp_ge (tgt := 13) hC dX7_isBelow_6 (by decide) rfl (fun c_6 => ?_) (fun c_6 => ?_)
    · rw [if_pos c_6] at hres
      refine g_iconst (v := 0) hC dX7_isBelow_13 (by decide) rfl ?_
      subst hres
      exact g_zret hC hX rfl rfl dX7_isBelow_14 rfl rfl
    · rw [if_neg c_6] at hres
      refine g_iconst (v := 1) hC dX7_isBelow_9 (by decide) rfl ?_
      refine g_goto (tgt := 14) hC dX7_isBelow_10 (by decide) ?_
      subst hres
      exact g_zret hC hX rfl rfl dX7_isBelow_14 rfl rfl
theorem nb_isBelow (v limit : Int32) : narrow .boolean (.int (m_X7_isBelow v limit)) = .int (m_X7_isBelow v limit) := by
  unfold m_X7_isBelow
  by_cases h1 : v < 0
  · rw [if_pos h1]; rfl
  · rw [if_neg h1]
    by_cases h2 : limit ≤ v
    · rw [if_pos h2]; rfl
    · rw [if_neg h2]; rfl
def m_J7_fill_53178_5 : Nat → Nat → Int32 → Int32 → (Nat → Int32) → ((Nat → Int32))
  | 0, _, _, _, _ => default
  | fu + 1, nA, v, y2, z_fA => (if (Int32.ofNat nA) ≤ y2 then z_fA else (m_J7_fill_53178_5 fu nA v (y2 + 1) (upd z_fA y2.toNatClampNeg v)))
def m_J7_fill_53178 (nA : Nat) (fA : Nat → Int32) (v : Int32) : ((Nat → Int32)) := (m_J7_fill_53178_5 (((Int32.ofNat nA).toInt - (0 : Int32).toInt).toNat + 1) nA v (0 : Int32) fA)
set_option maxRecDepth 100000 in
set_option maxHeartbeats 4000000 in
theorem l_J7_fill_53178_5 {X : gX} (D : va_G) (cI : ClassId) (aA : Nat) (nA : Nat) (fA : Nat → Int32) (v : Int32) (hnA : nA < 2147483648) (hC : Cx X cJ7_fill_53178 4 RJ7 wsJ7_fill_53178 D [(cI, .int)] ({ frames := 0, cells := 0, slots := 0, locals := 0 } : Room) none) {res : ((Nat → Int32))} (hX : Rx X D none [(aA, .inl (cI, nA, .inl res))]) : ∀ (fu : Nat) (y2 : Int32) (z_fA : Nat → Int32) (hm : ((Int32.ofNat nA).toInt - y2.toInt).toNat < fu) (h0_y2 : 0 ≤ y2.toInt) (hres : res = m_J7_fill_53178_5 fu nA v y2 z_fA), G X D 4 [(aA, .inl (cI, nA, .inl z_fA))] [(0, .ref aA), (1, .int v), (2, .int y2), (3, .int (Int32.ofNat nA))] 5 [] := by
  intro fu
  induction fu with
  | zero =>
    intro y2 z_fA hm
    exact absurd hm (Nat.not_lt_zero _)
  | succ fu ih =>
    intro y2 z_fA hm h0_y2 hres
    rw [m_J7_fill_53178_5] at hres
    refine g_iload_n hC dJ7_fill_53178_5 rfl 2 rfl rfl ?_
    refine g_iload_n hC dJ7_fill_53178_6 rfl 3 rfl rfl ?_
    refine g_icmp_ge (tgt := 20) hC dJ7_fill_53178_7 (by decide) rfl (fun c_7 => ?_) (fun c_7 => ?_)
    · rw [if_pos c_7] at hres
      subst hres
      exact g_vret hC hX rfl dJ7_fill_53178_20 rfl rfl
    · rw [if_neg c_7] at hres
      refine g_aload_n hC dJ7_fill_53178_10 rfl 0 rfl rfl ?_
      refine g_iload_n hC dJ7_fill_53178_11 rfl 2 rfl rfl ?_
      refine g_iload_n hC dJ7_fill_53178_12 rfl 1 rfl rfl ?_
      refine g_iast (ws' := [(aA, .inl (cI, nA, .inl (upd z_fA y2.toNatClampNeg v)))]) hC 0 0 rfl rfl (by exact in_ge (nn_lt h0_y2) c_7 hnA) rfl dJ7_fill_53178_13 rfl ?_
      refine g_iinc (v := (y2 + 1)) (lv' := [(2, .int (y2 + 1)), (0, .ref aA), (1, .int v), (3, .int (Int32.ofNat nA))]) hC dJ7_fill_53178_14 2 rfl rfl (by decide) rfl rfl ?_
      refine g_goto (tgt := 5) hC dJ7_fill_53178_17 (by decide) ?_
      refine g_sub [1, 2, 0, 3] rfl ?_
      exact ih (y2 + 1) (upd z_fA y2.toNatClampNeg v) (up_dec c_7 hm) (up_nn c_7 h0_y2) hres
set_option maxRecDepth 100000 in
set_option maxHeartbeats 4000000 in
theorem c_J7_fill_53178 (D : va_G) (cI : ClassId) (aA : Nat) (nA : Nat) (fA : Nat → Int32) (v : Int32) (hnA : nA < 2147483648) : MC yJ7_fill_53178 wsJ7_fill_53178 ({ frames := 0, cells := 0, slots := 0, locals := 0 } : Room) D [(cI, .int)] [.ref aA, .int v] [(aA, .inl (cI, nA, .inl fA))] none [(aA, .inl (cI, nA, .inl (m_J7_fill_53178 nA fA v)))] := by
  refine g_entry (by decide) rfl rfl rfl rfl (Nat.le_of_ble_eq_true rfl) (lv := [(0, .ref aA), (1, .int v)]) rfl ?_
  intro X hC hX
  obtain ⟨res, hres⟩ : ∃ z, z = (m_J7_fill_53178 nA fA v) := ⟨_, rfl⟩
  rw [← hres] at hX
  rw [m_J7_fill_53178] at hres
  refine g_iconst (v := 0) hC dJ7_fill_53178_0 (by decide) rfl ?_
  refine g_istore_n (lv' := [(2, .int (0 : Int32)), (0, .ref aA), (1, .int v)]) hC dJ7_fill_53178_1 rfl (by decide) rfl rfl ?_
  refine g_aload_n hC dJ7_fill_53178_2 rfl 1 rfl rfl ?_
  refine g_alen (v := (Int32.ofNat nA)) hC 0 0 rfl rfl rfl dJ7_fill_53178_3 rfl ?_
  refine g_istore_n (lv' := [(3, .int (Int32.ofNat nA)), (2, .int (0 : Int32)), (0, .ref aA), (1, .int v)]) hC dJ7_fill_53178_4 rfl (by decide) rfl rfl ?_
  refine g_sub [2, 3, 1, 0] rfl ?_
  exact l_J7_fill_53178_5 D cI aA nA fA v hnA hC hX (((Int32.ofNat nA).toInt - (0 : Int32).toInt).toNat + 1) (0 : Int32) fA (Nat.lt_succ_self _) (by decide) hres
def m_J6_bitCount_0f7a4 (i : Int32) : (Int32) := ((((((((i - ((i.toUInt32 >>> ((1 : Int32).toUInt32 &&& Int32.toUInt32 31)).toInt32 &&& (1431655765 : Int32))) &&& (858993459 : Int32)) + (((i - ((i.toUInt32 >>> ((1 : Int32).toUInt32 &&& Int32.toUInt32 31)).toInt32 &&& (1431655765 : Int32))).toUInt32 >>> ((2 : Int32).toUInt32 &&& Int32.toUInt32 31)).toInt32 &&& (858993459 : Int32))) + ((((i - ((i.toUInt32 >>> ((1 : Int32).toUInt32 &&& Int32.toUInt32 31)).toInt32 &&& (1431655765 : Int32))) &&& (858993459 : Int32)) + (((i - ((i.toUInt32 >>> ((1 : Int32).toUInt32 &&& Int32.toUInt32 31)).toInt32 &&& (1431655765 : Int32))).toUInt32 >>> ((2 : Int32).toUInt32 &&& Int32.toUInt32 31)).toInt32 &&& (858993459 : Int32))).toUInt32 >>> ((4 : Int32).toUInt32 &&& Int32.toUInt32 31)).toInt32) &&& (252645135 : Int32)) + ((((((i - ((i.toUInt32 >>> ((1 : Int32).toUInt32 &&& Int32.toUInt32 31)).toInt32 &&& (1431655765 : Int32))) &&& (858993459 : Int32)) + (((i - ((i.toUInt32 >>> ((1 : Int32).toUInt32 &&& Int32.toUInt32 31)).toInt32 &&& (1431655765 : Int32))).toUInt32 >>> ((2 : Int32).toUInt32 &&& Int32.toUInt32 31)).toInt32 &&& (858993459 : Int32))) + ((((i - ((i.toUInt32 >>> ((1 : Int32).toUInt32 &&& Int32.toUInt32 31)).toInt32 &&& (1431655765 : Int32))) &&& (858993459 : Int32)) + (((i - ((i.toUInt32 >>> ((1 : Int32).toUInt32 &&& Int32.toUInt32 31)).toInt32 &&& (1431655765 : Int32))).toUInt32 >>> ((2 : Int32).toUInt32 &&& Int32.toUInt32 31)).toInt32 &&& (858993459 : Int32))).toUInt32 >>> ((4 : Int32).toUInt32 &&& Int32.toUInt32 31)).toInt32) &&& (252645135 : Int32)).toUInt32 >>> ((8 : Int32).toUInt32 &&& Int32.toUInt32 31)).toInt32) + (((((((i - ((i.toUInt32 >>> ((1 : Int32).toUInt32 &&& Int32.toUInt32 31)).toInt32 &&& (1431655765 : Int32))) &&& (858993459 : Int32)) + (((i - ((i.toUInt32 >>> ((1 : Int32).toUInt32 &&& Int32.toUInt32 31)).toInt32 &&& (1431655765 : Int32))).toUInt32 >>> ((2 : Int32).toUInt32 &&& Int32.toUInt32 31)).toInt32 &&& (858993459 : Int32))) + ((((i - ((i.toUInt32 >>> ((1 : Int32).toUInt32 &&& Int32.toUInt32 31)).toInt32 &&& (1431655765 : Int32))) &&& (858993459 : Int32)) + (((i - ((i.toUInt32 >>> ((1 : Int32).toUInt32 &&& Int32.toUInt32 31)).toInt32 &&& (1431655765 : Int32))).toUInt32 >>> ((2 : Int32).toUInt32 &&& Int32.toUInt32 31)).toInt32 &&& (858993459 : Int32))).toUInt32 >>> ((4 : Int32).toUInt32 &&& Int32.toUInt32 31)).toInt32) &&& (252645135 : Int32)) + ((((((i - ((i.toUInt32 >>> ((1 : Int32).toUInt32 &&& Int32.toUInt32 31)).toInt32 &&& (1431655765 : Int32))) &&& (858993459 : Int32)) + (((i - ((i.toUInt32 >>> ((1 : Int32).toUInt32 &&& Int32.toUInt32 31)).toInt32 &&& (1431655765 : Int32))).toUInt32 >>> ((2 : Int32).toUInt32 &&& Int32.toUInt32 31)).toInt32 &&& (858993459 : Int32))) + ((((i - ((i.toUInt32 >>> ((1 : Int32).toUInt32 &&& Int32.toUInt32 31)).toInt32 &&& (1431655765 : Int32))) &&& (858993459 : Int32)) + (((i - ((i.toUInt32 >>> ((1 : Int32).toUInt32 &&& Int32.toUInt32 31)).toInt32 &&& (1431655765 : Int32))).toUInt32 >>> ((2 : Int32).toUInt32 &&& Int32.toUInt32 31)).toInt32 &&& (858993459 : Int32))).toUInt32 >>> ((4 : Int32).toUInt32 &&& Int32.toUInt32 31)).toInt32) &&& (252645135 : Int32)).toUInt32 >>> ((8 : Int32).toUInt32 &&& Int32.toUInt32 31)).toInt32).toUInt32 >>> ((16 : Int32).toUInt32 &&& Int32.toUInt32 31)).toInt32) &&& (63 : Int32))
set_option maxRecDepth 100000 in
set_option maxHeartbeats 4000000 in
theorem c_J6_bitCount_0f7a4 (D : va_G) (cI : ClassId) (i : Int32) : MC yJ6_bitCount_0f7a4 wsJ6_bitCount_0f7a4 ({ frames := 0, cells := 0, slots := 0, locals := 0 } : Room) D [(cI, .int)] [.int i] [] (some (.int (m_J6_bitCount_0f7a4 i))) [] := by
  refine g_entry (by decide) rfl rfl rfl rfl (Nat.le_of_ble_eq_true rfl) (lv := [(0, .int i)]) rfl ?_
  intro X hC hX
  obtain ⟨res, hres⟩ : ∃ z, z = (m_J6_bitCount_0f7a4 i) := ⟨_, rfl⟩
  rw [← hres] at hX
  rw [m_J6_bitCount_0f7a4] at hres
  refine g_iload_n hC dJ6_bitCount_0f7a4_0 rfl 0 rfl rfl ?_
  refine g_iload_n hC dJ6_bitCount_0f7a4_1 rfl 0 rfl rfl ?_
  refine g_iconst (v := 1) hC dJ6_bitCount_0f7a4_2 (by decide) rfl ?_
  refine g_iushr hC dJ6_bitCount_0f7a4_3 rfl ?_
  refine g_ldcw (v := 1431655765) hC (List.mem_of_getElem? (i := 1) rfl) dJ6_bitCount_0f7a4_4 rfl ?_
  refine g_iand hC dJ6_bitCount_0f7a4_7 rfl ?_
  refine g_isub hC dJ6_bitCount_0f7a4_8 rfl ?_
  refine g_istore_n (lv' := [(0, .int (i - ((i.toUInt32 >>> ((1 : Int32).toUInt32 &&& Int32.toUInt32 31)).toInt32 &&& (1431655765 : Int32))))]) hC dJ6_bitCount_0f7a4_9 rfl (by decide) rfl rfl ?_
  refine g_iload_n hC dJ6_bitCount_0f7a4_10 rfl 0 rfl rfl ?_
  refine g_ldcw (v := 858993459) hC (List.mem_of_getElem? (i := 2) rfl) dJ6_bitCount_0f7a4_11 rfl ?_
  refine g_iand hC dJ6_bitCount_0f7a4_14 rfl ?_
  refine g_iload_n hC dJ6_bitCount_0f7a4_15 rfl 0 rfl rfl ?_
  refine g_iconst (v := 2) hC dJ6_bitCount_0f7a4_16 (by decide) rfl ?_
  refine g_iushr hC dJ6_bitCount_0f7a4_17 rfl ?_
  refine g_ldcw (v := 858993459) hC (List.mem_of_getElem? (i := 2) rfl) dJ6_bitCount_0f7a4_18 rfl ?_
  refine g_iand hC dJ6_bitCount_0f7a4_21 rfl ?_
  refine g_iadd hC dJ6_bitCount_0f7a4_22 rfl ?_
  refine g_istore_n (lv' := [(0, .int (((i - ((i.toUInt32 >>> ((1 : Int32).toUInt32 &&& Int32.toUInt32 31)).toInt32 &&& (1431655765 : Int32))) &&& (858993459 : Int32)) + (((i - ((i.toUInt32 >>> ((1 : Int32).toUInt32 &&& Int32.toUInt32 31)).toInt32 &&& (1431655765 : Int32))).toUInt32 >>> ((2 : Int32).toUInt32 &&& Int32.toUInt32 31)).toInt32 &&& (858993459 : Int32))))]) hC dJ6_bitCount_0f7a4_23 rfl (by decide) rfl rfl ?_
  refine g_iload_n hC dJ6_bitCount_0f7a4_24 rfl 0 rfl rfl ?_
  refine g_iload_n hC dJ6_bitCount_0f7a4_25 rfl 0 rfl rfl ?_
  refine g_iconst (v := 4) hC dJ6_bitCount_0f7a4_26 (by decide) rfl ?_
  refine g_iushr hC dJ6_bitCount_0f7a4_27 rfl ?_
  refine g_iadd hC dJ6_bitCount_0f7a4_28 rfl ?_
  refine g_ldcw (v := 252645135) hC (List.mem_of_getElem? (i := 3) rfl) dJ6_bitCount_0f7a4_29 rfl ?_
  refine g_iand hC dJ6_bitCount_0f7a4_32 rfl ?_
  refine g_istore_n (lv' := [(0, .int (((((i - ((i.toUInt32 >>> ((1 : Int32).toUInt32 &&& Int32.toUInt32 31)).toInt32 &&& (1431655765 : Int32))) &&& (858993459 : Int32)) + (((i - ((i.toUInt32 >>> ((1 : Int32).toUInt32 &&& Int32.toUInt32 31)).toInt32 &&& (1431655765 : Int32))).toUInt32 >>> ((2 : Int32).toUInt32 &&& Int32.toUInt32 31)).toInt32 &&& (858993459 : Int32))) + ((((i - ((i.toUInt32 >>> ((1 : Int32).toUInt32 &&& Int32.toUInt32 31)).toInt32 &&& (1431655765 : Int32))) &&& (858993459 : Int32)) + (((i - ((i.toUInt32 >>> ((1 : Int32).toUInt32 &&& Int32.toUInt32 31)).toInt32 &&& (1431655765 : Int32))).toUInt32 >>> ((2 : Int32).toUInt32 &&& Int32.toUInt32 31)).toInt32 &&& (858993459 : Int32))).toUInt32 >>> ((4 : Int32).toUInt32 &&& Int32.toUInt32 31)).toInt32) &&& (252645135 : Int32)))]) hC dJ6_bitCount_0f7a4_33 rfl (by decide) rfl rfl ?_
  refine g_iload_n hC dJ6_bitCount_0f7a4_34 rfl 0 rfl rfl ?_
  refine g_iload_n hC dJ6_bitCount_0f7a4_35 rfl 0 rfl rfl ?_
  refine g_bipush (v := 8) hC dJ6_bitCount_0f7a4_36 (by decide) rfl ?_
  refine g_iushr hC dJ6_bitCount_0f7a4_38 rfl ?_
  refine g_iadd hC dJ6_bitCount_0f7a4_39 rfl ?_
  refine g_istore_n (lv' := [(0, .int ((((((i - ((i.toUInt32 >>> ((1 : Int32).toUInt32 &&& Int32.toUInt32 31)).toInt32 &&& (1431655765 : Int32))) &&& (858993459 : Int32)) + (((i - ((i.toUInt32 >>> ((1 : Int32).toUInt32 &&& Int32.toUInt32 31)).toInt32 &&& (1431655765 : Int32))).toUInt32 >>> ((2 : Int32).toUInt32 &&& Int32.toUInt32 31)).toInt32 &&& (858993459 : Int32))) + ((((i - ((i.toUInt32 >>> ((1 : Int32).toUInt32 &&& Int32.toUInt32 31)).toInt32 &&& (1431655765 : Int32))) &&& (858993459 : Int32)) + (((i - ((i.toUInt32 >>> ((1 : Int32).toUInt32 &&& Int32.toUInt32 31)).toInt32 &&& (1431655765 : Int32))).toUInt32 >>> ((2 : Int32).toUInt32 &&& Int32.toUInt32 31)).toInt32 &&& (858993459 : Int32))).toUInt32 >>> ((4 : Int32).toUInt32 &&& Int32.toUInt32 31)).toInt32) &&& (252645135 : Int32)) + ((((((i - ((i.toUInt32 >>> ((1 : Int32).toUInt32 &&& Int32.toUInt32 31)).toInt32 &&& (1431655765 : Int32))) &&& (858993459 : Int32)) + (((i - ((i.toUInt32 >>> ((1 : Int32).toUInt32 &&& Int32.toUInt32 31)).toInt32 &&& (1431655765 : Int32))).toUInt32 >>> ((2 : Int32).toUInt32 &&& Int32.toUInt32 31)).toInt32 &&& (858993459 : Int32))) + ((((i - ((i.toUInt32 >>> ((1 : Int32).toUInt32 &&& Int32.toUInt32 31)).toInt32 &&& (1431655765 : Int32))) &&& (858993459 : Int32)) + (((i - ((i.toUInt32 >>> ((1 : Int32).toUInt32 &&& Int32.toUInt32 31)).toInt32 &&& (1431655765 : Int32))).toUInt32 >>> ((2 : Int32).toUInt32 &&& Int32.toUInt32 31)).toInt32 &&& (858993459 : Int32))).toUInt32 >>> ((4 : Int32).toUInt32 &&& Int32.toUInt32 31)).toInt32) &&& (252645135 : Int32)).toUInt32 >>> ((8 : Int32).toUInt32 &&& Int32.toUInt32 31)).toInt32))]) hC dJ6_bitCount_0f7a4_40 rfl (by decide) rfl rfl ?_
  refine g_iload_n hC dJ6_bitCount_0f7a4_41 rfl 0 rfl rfl ?_
  refine g_iload_n hC dJ6_bitCount_0f7a4_42 rfl 0 rfl rfl ?_
  refine g_bipush (v := 16) hC dJ6_bitCount_0f7a4_43 (by decide) rfl ?_
  refine g_iushr hC dJ6_bitCount_0f7a4_45 rfl ?_
  refine g_iadd hC dJ6_bitCount_0f7a4_46 rfl ?_
  refine g_istore_n (lv' := [(0, .int (((((((i - ((i.toUInt32 >>> ((1 : Int32).toUInt32 &&& Int32.toUInt32 31)).toInt32 &&& (1431655765 : Int32))) &&& (858993459 : Int32)) + (((i - ((i.toUInt32 >>> ((1 : Int32).toUInt32 &&& Int32.toUInt32 31)).toInt32 &&& (1431655765 : Int32))).toUInt32 >>> ((2 : Int32).toUInt32 &&& Int32.toUInt32 31)).toInt32 &&& (858993459 : Int32))) + ((((i - ((i.toUInt32 >>> ((1 : Int32).toUInt32 &&& Int32.toUInt32 31)).toInt32 &&& (1431655765 : Int32))) &&& (858993459 : Int32)) + (((i - ((i.toUInt32 >>> ((1 : Int32).toUInt32 &&& Int32.toUInt32 31)).toInt32 &&& (1431655765 : Int32))).toUInt32 >>> ((2 : Int32).toUInt32 &&& Int32.toUInt32 31)).toInt32 &&& (858993459 : Int32))).toUInt32 >>> ((4 : Int32).toUInt32 &&& Int32.toUInt32 31)).toInt32) &&& (252645135 : Int32)) + ((((((i - ((i.toUInt32 >>> ((1 : Int32).toUInt32 &&& Int32.toUInt32 31)).toInt32 &&& (1431655765 : Int32))) &&& (858993459 : Int32)) + (((i - ((i.toUInt32 >>> ((1 : Int32).toUInt32 &&& Int32.toUInt32 31)).toInt32 &&& (1431655765 : Int32))).toUInt32 >>> ((2 : Int32).toUInt32 &&& Int32.toUInt32 31)).toInt32 &&& (858993459 : Int32))) + ((((i - ((i.toUInt32 >>> ((1 : Int32).toUInt32 &&& Int32.toUInt32 31)).toInt32 &&& (1431655765 : Int32))) &&& (858993459 : Int32)) + (((i - ((i.toUInt32 >>> ((1 : Int32).toUInt32 &&& Int32.toUInt32 31)).toInt32 &&& (1431655765 : Int32))).toUInt32 >>> ((2 : Int32).toUInt32 &&& Int32.toUInt32 31)).toInt32 &&& (858993459 : Int32))).toUInt32 >>> ((4 : Int32).toUInt32 &&& Int32.toUInt32 31)).toInt32) &&& (252645135 : Int32)).toUInt32 >>> ((8 : Int32).toUInt32 &&& Int32.toUInt32 31)).toInt32) + (((((((i - ((i.toUInt32 >>> ((1 : Int32).toUInt32 &&& Int32.toUInt32 31)).toInt32 &&& (1431655765 : Int32))) &&& (858993459 : Int32)) + (((i - ((i.toUInt32 >>> ((1 : Int32).toUInt32 &&& Int32.toUInt32 31)).toInt32 &&& (1431655765 : Int32))).toUInt32 >>> ((2 : Int32).toUInt32 &&& Int32.toUInt32 31)).toInt32 &&& (858993459 : Int32))) + ((((i - ((i.toUInt32 >>> ((1 : Int32).toUInt32 &&& Int32.toUInt32 31)).toInt32 &&& (1431655765 : Int32))) &&& (858993459 : Int32)) + (((i - ((i.toUInt32 >>> ((1 : Int32).toUInt32 &&& Int32.toUInt32 31)).toInt32 &&& (1431655765 : Int32))).toUInt32 >>> ((2 : Int32).toUInt32 &&& Int32.toUInt32 31)).toInt32 &&& (858993459 : Int32))).toUInt32 >>> ((4 : Int32).toUInt32 &&& Int32.toUInt32 31)).toInt32) &&& (252645135 : Int32)) + ((((((i - ((i.toUInt32 >>> ((1 : Int32).toUInt32 &&& Int32.toUInt32 31)).toInt32 &&& (1431655765 : Int32))) &&& (858993459 : Int32)) + (((i - ((i.toUInt32 >>> ((1 : Int32).toUInt32 &&& Int32.toUInt32 31)).toInt32 &&& (1431655765 : Int32))).toUInt32 >>> ((2 : Int32).toUInt32 &&& Int32.toUInt32 31)).toInt32 &&& (858993459 : Int32))) + ((((i - ((i.toUInt32 >>> ((1 : Int32).toUInt32 &&& Int32.toUInt32 31)).toInt32 &&& (1431655765 : Int32))) &&& (858993459 : Int32)) + (((i - ((i.toUInt32 >>> ((1 : Int32).toUInt32 &&& Int32.toUInt32 31)).toInt32 &&& (1431655765 : Int32))).toUInt32 >>> ((2 : Int32).toUInt32 &&& Int32.toUInt32 31)).toInt32 &&& (858993459 : Int32))).toUInt32 >>> ((4 : Int32).toUInt32 &&& Int32.toUInt32 31)).toInt32) &&& (252645135 : Int32)).toUInt32 >>> ((8 : Int32).toUInt32 &&& Int32.toUInt32 31)).toInt32).toUInt32 >>> ((16 : Int32).toUInt32 &&& Int32.toUInt32 31)).toInt32))]) hC dJ6_bitCount_0f7a4_47 rfl (by decide) rfl rfl ?_
  refine g_iload_n hC dJ6_bitCount_0f7a4_48 rfl 0 rfl rfl ?_
  refine g_bipush (v := 63) hC dJ6_bitCount_0f7a4_49 (by decide) rfl ?_
  refine g_iand hC dJ6_bitCount_0f7a4_51 rfl ?_
  subst hres
  exact g_iret hC hX rfl dJ6_bitCount_0f7a4_52 rfl rfl
