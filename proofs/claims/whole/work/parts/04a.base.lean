/-! THE JUDGEMENT: worlds and locals as lists; a contract says the answer and the world behind it as functions of the world ahead -/
def nwq : List (String × Nat × MethodName × String) := [(RX7, 11, yX2_init, "LinenLaw"), (RX7, 20, yX3_init, "LinenLaw"), (RX7, 27, yX6_init, "LinenLaw"), (RX7, 34, yX0_init, "LinenLaw"), (RX7, 41, yX1_init, "LinenLaw"), (RX7, 48, yX5_init, "LinenLaw"), (RX7, 63, yX4_init, "LinenLaw"), (RX0, 29, yX7_at, "LinenLaw"), (RX0, 33, yX7_set, "LinenLaw"), (RX1, 25, yX7_set, "LinenLaw"), (RX1, 29, yX7_at, "LinenLaw"), (RX2, 34, yX7_isBelow, "LinenLaw"), (RX2, 38, yX7_at, "LinenLaw"), (RX2, 58, yX7_set, "LinenLaw"), (RX3, 57, yX7_set, "LinenLaw"), (RX3, 73, yX7_isBelow, "LinenLaw"), (RX4, 45, yX7_at, "LinenLaw"), (RX4, 53, yX7_set, "LinenLaw"), (RX6, 37, yX7_isBelow, "LinenLaw"), (RX6, 62, yX7_at, "LinenLaw"), (RX6, 66, yX7_set, "LinenLaw")]

def NW (U : State) : Prop := ∀ q ∈ nwq, va_Nw (.methodLinkNest q.1 q.2.1 q.2.2.1 q.2.2.2) U
theorem NW_warm {s U : State} (hW : s.WarmedH U.vm) (h : NW s) : NW U := fun q hq => va_Nw.warmM hW (h q hq)
theorem NW_same {u U : State} (h : u.vm = U.vm) (hZ : NW u) : NW U := fun q hq => va_Nw.same rfl h (hZ q hq)
abbrev gX : Type := Program × Launch × Env × Room × State × MethodId × Array Value × List Frame × Method × Code × (State → Prop) × (Nat → Prop) × Nat × Nat
def G (X : gX) (D : va_G) (nL : Nat) (ws : va_W) (lv : List (Nat × Value)) (pc : Nat) (st : List Value) : Prop :=
  match X with
  | (p, l, e, R, s, m, args, below, meth, c, Q, A, k, n) => ∀ (H : Heap) (locs : List Loc) (ls : Array Slot), va_P D vwCl ws H → va_D A ws → va_S A s.heap H locs → lv_has ls nL lv → W p l e R s m args below meth c H locs k n Q (F0 m pc ls st)
def Cx (X : gX) (cc : ByteArray) (nL : Nat) (own : String) (Ts : List Cond) (D : va_G) (tys : List (ClassId × FieldType)) (rm : Room) (ret : Option FieldType) : Prop :=
  match X with
  | (p, _, _, R, s, m, args, _, meth, c, _, A, k, n) => p.tables.exec = Jvm.exec ∧ c.code = cc ∧ c.maxLocals = nL ∧ s.vm.findClass own = some m.cls ∧ (∀ w ∈ Ts, w.before args s = true) ∧ va_K D vwCl tys s ∧ (∀ q : Nat, s.heap.size ≤ q → A q) ∧ NW s ∧ R = rm ∧ meth.sig.returnType = ret ∧ k ≤ rm.cells ∧ n ≤ rm.slots
def PB (D : va_G) (tys : List (ClassId × FieldType)) (as : List Value) (wc : va_W) (sz : Nat) : Array Value → State → Prop := va_Pc as (fun U => U.heap.size = sz ∧ va_P D vwCl wc U.heap ∧ va_K D vwCl tys U ∧ va_D (fun _ => True) wc ∧ NW U)
def QB (D : va_G) (R1 : Option Value) (w1 : va_W) (A : Nat → Prop) : Array Value → State → Outcome → State → Prop := fun _ st o t => (o = .returned R1 ∧ va_P D vwCl w1 t.heap ∧ va_D A w1) ∧ va_F A st t
def Rx (X : gX) (D : va_G) (R1 : Option Value) (w1 : va_W) : Prop :=
  match X with
  | (_, _, _, _, s, _, args, below, meth, _, Q, A, k, n) => Q = MQ below (QB D R1 w1 A) args s 0 0 A ∧ meth.locks = false ∧ k = 0 ∧ n = 0
def MC (y : MethodName) (ws : List Cond) (rm : Room) (D : va_G) (tys : List (ClassId × FieldType)) (as : List Value) (wc : va_W) (R1 : Option Value) (w1 : va_W) : Prop :=
  rm.cells = 0 ∧ rm.slots = 0 ∧ ∀ (l : Launch) (sz : Nat), Met l y ws rm (PB D tys as wc sz) (QB D R1 w1 (va_A wc sz)) 0 0 (va_A wc sz)
theorem PB_blind {D : va_G} {tys : List (ClassId × FieldType)} {as : List Value} {wc : va_W} {sz : Nat} : FrameBlind (PB D tys as wc sz) := fun a U g mk q =>
  ⟨q.1, q.2.1, q.2.2.1, va_K.moved (u := U) (U := U.calling g mk a) (Vm.Alike.refl U.vm) q.2.2.2.1, q.2.2.2.2.1, NW_same (u := U) (U := U.calling g mk a) rfl q.2.2.2.2.2⟩
theorem g_entry {y : MethodName} {ws ws' : List Cond} {rm : Room} {cc : ByteArray} {maxL : Nat} {ret : Option FieldType} {D : va_G} {tys : List (ClassId × FieldType)} {as : List Value} {wc : va_W} {R1 : Option Value} {w1 : va_W} {own : String} {lv : List (Nat × Value)} (hy : plainName y.cls = true) (hw : ws = Cond.code y cc maxL ret :: ws') (hc : rm.cells = 0) (hs : rm.slots = 0) (hown : y.cls = own) (hle : (lg_sl as).length ≤ maxL) (hlv : lv_args 0 as = lv)
    (body : ∀ X : gX, Cx X cc maxL own ws D tys rm ret → Rx X D R1 w1 → G X D maxL wc lv 0 []) : MC y ws rm D tys as wc R1 w1 := by
  refine ⟨hc, hs, fun l sz => Met.ofW hy hw ?_⟩
  intro p e s m args below meth c s₁ B hml hv
  obtain ⟨rfl, hsz, hP, hK, hD0, hN⟩ := hv
  subst hsz
  subst hown
  subst hlv
  have hl := lv_entry as (n := maxL) hle
  rw [lg_entry_eq]
  exact body (p, l, e, (headSpec ws rm).room, s, m, as.toArray, below, meth, c, MQ below (QB D R1 w1 (va_A wc s.heap.size)) as.toArray s 0 0 (va_A wc s.heap.size), va_A wc s.heap.size, 0, 0)
    ⟨B.exec, B.bytes, hml, findClass_of_methodNamed B.named, atoms_spec B.pre, hK, fun q h => Or.inr h, hN, rfl, B.returns, Nat.zero_le _, Nat.zero_le _⟩ ⟨rfl, B.notSynchronized, rfl, rfl⟩ s.heap [] _ hP hD0.self va_S.rf hl
section GR
variable {X : gX} {cc : ByteArray} {nL : Nat} {own : String} {Ts : List Cond} {D : va_G} {tys : List (ClassId × FieldType)} {rm : Room} {ret : Option FieldType} {ws ws' : va_W} {lv lv' : List (Nat × Value)} {pc q : Nat} {st : List Value}
theorem g_sub (ks : List Nat) (h : lv_pick lv ks = lv') (kk : G X D nL ws lv' pc st) : G X D nL ws lv pc st := by
  obtain ⟨p, l, e, R, s, m, args, below, meth, c, Q, A, k0, n0⟩ := X
  exact fun H locs ls hP hD hS hl => kk H locs ls hP hD hS (lv_sub hl ks h)
theorem g_st {st2 : List Value} (h : st = st2) (kk : G X D nL ws lv pc st2) : G X D nL ws lv pc st := h ▸ kk
theorem g_ws (h : ws = ws') (kk : G X D nL ws' lv pc st) : G X D nL ws lv pc st := h ▸ kk
theorem g_iconst (hC : Cx X cc nL own Ts D tys rm ret) {n : Int} {v : Int32} (hdg : decode cc pc = .ok (.iconst n, 1)) (hv : Int32.ofInt n = v) (hq : pc + 1 = q) (kk : G X D nL ws lv q (.int v :: st)) : G X D nL ws lv pc (st) := by
  obtain ⟨p, l, e, R, s, m, args, below, meth, c, Q, A, k0, n0⟩ := X
  obtain ⟨hx, hb, hml, hown, hts, hK, hA, hN, hR, hret, hk0, hn0⟩ := hC
  subst hq
  exact fun H locs ls hP hD hS hl => lv_iconst hx hb hdg hv (kk H locs ls hP hD hS hl)
theorem g_bipush (hC : Cx X cc nL own Ts D tys rm ret) {n : Int} {v : Int32} (hdg : decode cc pc = .ok (.bipush n, 2)) (hv : (Int8.ofInt n).toInt32 = v) (hq : pc + 2 = q) (kk : G X D nL ws lv q (.int v :: st)) : G X D nL ws lv pc (st) := by
  obtain ⟨p, l, e, R, s, m, args, below, meth, c, Q, A, k0, n0⟩ := X
  obtain ⟨hx, hb, hml, hown, hts, hK, hA, hN, hR, hret, hk0, hn0⟩ := hC
  subst hq
  exact fun H locs ls hP hD hS hl => lv_bipush hx hb hdg hv (kk H locs ls hP hD hS hl)
theorem g_sipush (hC : Cx X cc nL own Ts D tys rm ret) {n : Int} {v : Int32} (hdg : decode cc pc = .ok (.sipush n, 3)) (hv : (Int16.ofInt n).toInt32 = v) (hq : pc + 3 = q) (kk : G X D nL ws lv q (.int v :: st)) : G X D nL ws lv pc (st) := by
  obtain ⟨p, l, e, R, s, m, args, below, meth, c, Q, A, k0, n0⟩ := X
  obtain ⟨hx, hb, hml, hown, hts, hK, hA, hN, hR, hret, hk0, hn0⟩ := hC
  subst hq
  exact fun H locs ls hP hD hS hl => lv_sipush hx hb hdg hv (kk H locs ls hP hD hS hl)
theorem g_lconst (hC : Cx X cc nL own Ts D tys rm ret) {n : Fin 2} {v : Int64} (hdg : decode cc pc = .ok (.lconst n, 1)) (hv : Int64.ofNat (n : Nat) = v) (hq : pc + 1 = q) (kk : G X D nL ws lv q (.long v :: st)) : G X D nL ws lv pc (st) := by
  obtain ⟨p, l, e, R, s, m, args, below, meth, c, Q, A, k0, n0⟩ := X
  obtain ⟨hx, hb, hml, hown, hts, hK, hA, hN, hR, hret, hk0, hn0⟩ := hC
  subst hq
  exact fun H locs ls hP hD hS hl => lv_lconst hx hb hdg hv (kk H locs ls hP hD hS hl)
theorem g_iload_n (hC : Cx X cc nL own Ts D tys rm ret) {k : Fin 4} {i : Nat} {x : Int32} (hdg : decode cc pc = .ok (.iload_n k, 1)) (hi : (k : Nat) = i) (j : Nat) (hj : lv[j]? = some (i, .int x)) (hq : pc + 1 = q) (kk : G X D nL ws lv q (.int x :: st)) : G X D nL ws lv pc (st) := by
  obtain ⟨p, l, e, R, s, m, args, below, meth, c, Q, A, k0, n0⟩ := X
  obtain ⟨hx, hb, hml, hown, hts, hK, hA, hN, hR, hret, hk0, hn0⟩ := hC
  subst hq
  exact fun H locs ls hP hD hS hl => lv_iload_n hx hb hdg hi (lv_at hl j hj) (kk H locs ls hP hD hS hl)
theorem g_iload (hC : Cx X cc nL own Ts D tys rm ret) {i : Nat} {x : Int32} (hdg : decode cc pc = .ok (.iload i, 2)) (j : Nat) (hj : lv[j]? = some (i, .int x)) (hq : pc + 2 = q) (kk : G X D nL ws lv q (.int x :: st)) : G X D nL ws lv pc (st) := by
  obtain ⟨p, l, e, R, s, m, args, below, meth, c, Q, A, k0, n0⟩ := X
  obtain ⟨hx, hb, hml, hown, hts, hK, hA, hN, hR, hret, hk0, hn0⟩ := hC
  subst hq
  exact fun H locs ls hP hD hS hl => lv_iload hx hb hdg (lv_at hl j hj) (kk H locs ls hP hD hS hl)
theorem g_lload_n (hC : Cx X cc nL own Ts D tys rm ret) {k : Fin 4} {i : Nat} {x : Int64} (hdg : decode cc pc = .ok (.lload_n k, 1)) (hi : (k : Nat) = i) (j : Nat) (hj : lv[j]? = some (i, .long x)) (hq : pc + 1 = q) (kk : G X D nL ws lv q (.long x :: st)) : G X D nL ws lv pc (st) := by
  obtain ⟨p, l, e, R, s, m, args, below, meth, c, Q, A, k0, n0⟩ := X
  obtain ⟨hx, hb, hml, hown, hts, hK, hA, hN, hR, hret, hk0, hn0⟩ := hC
  subst hq
  exact fun H locs ls hP hD hS hl => lv_lload_n hx hb hdg hi (lv_at hl j hj) (kk H locs ls hP hD hS hl)
theorem g_lload (hC : Cx X cc nL own Ts D tys rm ret) {i : Nat} {x : Int64} (hdg : decode cc pc = .ok (.lload i, 2)) (j : Nat) (hj : lv[j]? = some (i, .long x)) (hq : pc + 2 = q) (kk : G X D nL ws lv q (.long x :: st)) : G X D nL ws lv pc (st) := by
  obtain ⟨p, l, e, R, s, m, args, below, meth, c, Q, A, k0, n0⟩ := X
  obtain ⟨hx, hb, hml, hown, hts, hK, hA, hN, hR, hret, hk0, hn0⟩ := hC
  subst hq
  exact fun H locs ls hP hD hS hl => lv_lload hx hb hdg (lv_at hl j hj) (kk H locs ls hP hD hS hl)
theorem g_aload_n (hC : Cx X cc nL own Ts D tys rm ret) {k : Fin 4} {i : Nat} {x : Nat} (hdg : decode cc pc = .ok (.aload_n k, 1)) (hi : (k : Nat) = i) (j : Nat) (hj : lv[j]? = some (i, .ref x)) (hq : pc + 1 = q) (kk : G X D nL ws lv q (.ref x :: st)) : G X D nL ws lv pc (st) := by
  obtain ⟨p, l, e, R, s, m, args, below, meth, c, Q, A, k0, n0⟩ := X
  obtain ⟨hx, hb, hml, hown, hts, hK, hA, hN, hR, hret, hk0, hn0⟩ := hC
  subst hq
  exact fun H locs ls hP hD hS hl => lv_aload_n hx hb hdg hi (lv_at hl j hj) (kk H locs ls hP hD hS hl)
theorem g_aload (hC : Cx X cc nL own Ts D tys rm ret) {i : Nat} {x : Nat} (hdg : decode cc pc = .ok (.aload i, 2)) (j : Nat) (hj : lv[j]? = some (i, .ref x)) (hq : pc + 2 = q) (kk : G X D nL ws lv q (.ref x :: st)) : G X D nL ws lv pc (st) := by
  obtain ⟨p, l, e, R, s, m, args, below, meth, c, Q, A, k0, n0⟩ := X
  obtain ⟨hx, hb, hml, hown, hts, hK, hA, hN, hR, hret, hk0, hn0⟩ := hC
  subst hq
  exact fun H locs ls hP hD hS hl => lv_aload hx hb hdg (lv_at hl j hj) (kk H locs ls hP hD hS hl)
theorem g_istore_n (hC : Cx X cc nL own Ts D tys rm ret) {k : Fin 4} {i : Nat} {x : Int32} (hdg : decode cc pc = .ok (.istore_n k, 1)) (hi : (k : Nat) = i) (hn : i < nL) (hl2 : (i, Value.int x) :: lv.filter (fun q => !(q.1 == i) && !(q.1 + 1 == i && q.2.category == 2)) = lv') (hq : pc + 1 = q) (kk : G X D nL ws lv' q st) : G X D nL ws lv pc (.int x :: st) := by
  obtain ⟨p, l, e, R, s, m, args, below, meth, c, Q, A, k0, n0⟩ := X
  obtain ⟨hx, hb, hml, hown, hts, hK, hA, hN, hR, hret, hk0, hn0⟩ := hC
  subst hq
  exact fun H locs ls hP hD hS hl => lv_istore_n hx hb hdg hi hl hn hl2 (fun ls2 hl => kk H locs ls2 hP hD hS hl)
theorem g_istore (hC : Cx X cc nL own Ts D tys rm ret) {i : Nat} {x : Int32} (hdg : decode cc pc = .ok (.istore i, 2)) (hn : i < nL) (hl2 : (i, Value.int x) :: lv.filter (fun q => !(q.1 == i) && !(q.1 + 1 == i && q.2.category == 2)) = lv') (hq : pc + 2 = q) (kk : G X D nL ws lv' q st) : G X D nL ws lv pc (.int x :: st) := by
  obtain ⟨p, l, e, R, s, m, args, below, meth, c, Q, A, k0, n0⟩ := X
  obtain ⟨hx, hb, hml, hown, hts, hK, hA, hN, hR, hret, hk0, hn0⟩ := hC
  subst hq
  exact fun H locs ls hP hD hS hl => lv_istore hx hb hdg hl hn hl2 (fun ls2 hl => kk H locs ls2 hP hD hS hl)
theorem g_lstore_n (hC : Cx X cc nL own Ts D tys rm ret) {k : Fin 4} {i : Nat} {x : Int64} (hdg : decode cc pc = .ok (.lstore_n k, 1)) (hi : (k : Nat) = i) (hn : i + 1 < nL) (hl2 : (i, Value.long x) :: lv.filter (fun q => !(q.1 == i) && (!(q.1 == i + 1) && !(q.1 + 1 == i && q.2.category == 2))) = lv') (hq : pc + 1 = q) (kk : G X D nL ws lv' q st) : G X D nL ws lv pc (.long x :: st) := by
  obtain ⟨p, l, e, R, s, m, args, below, meth, c, Q, A, k0, n0⟩ := X
  obtain ⟨hx, hb, hml, hown, hts, hK, hA, hN, hR, hret, hk0, hn0⟩ := hC
  subst hq
  exact fun H locs ls hP hD hS hl => lv_lstore_n hx hb hdg hi hl hn hl2 (fun ls2 hl => kk H locs ls2 hP hD hS hl)
theorem g_lstore (hC : Cx X cc nL own Ts D tys rm ret) {i : Nat} {x : Int64} (hdg : decode cc pc = .ok (.lstore i, 2)) (hn : i + 1 < nL) (hl2 : (i, Value.long x) :: lv.filter (fun q => !(q.1 == i) && (!(q.1 == i + 1) && !(q.1 + 1 == i && q.2.category == 2))) = lv') (hq : pc + 2 = q) (kk : G X D nL ws lv' q st) : G X D nL ws lv pc (.long x :: st) := by
  obtain ⟨p, l, e, R, s, m, args, below, meth, c, Q, A, k0, n0⟩ := X
  obtain ⟨hx, hb, hml, hown, hts, hK, hA, hN, hR, hret, hk0, hn0⟩ := hC
  subst hq
  exact fun H locs ls hP hD hS hl => lv_lstore hx hb hdg hl hn hl2 (fun ls2 hl => kk H locs ls2 hP hD hS hl)
theorem g_astore_n (hC : Cx X cc nL own Ts D tys rm ret) {k : Fin 4} {i : Nat} {x : Nat} (hdg : decode cc pc = .ok (.astore_n k, 1)) (hi : (k : Nat) = i) (hn : i < nL) (hl2 : (i, Value.ref x) :: lv.filter (fun q => !(q.1 == i) && !(q.1 + 1 == i && q.2.category == 2)) = lv') (hq : pc + 1 = q) (kk : G X D nL ws lv' q st) : G X D nL ws lv pc (.ref x :: st) := by
  obtain ⟨p, l, e, R, s, m, args, below, meth, c, Q, A, k0, n0⟩ := X
  obtain ⟨hx, hb, hml, hown, hts, hK, hA, hN, hR, hret, hk0, hn0⟩ := hC
  subst hq
  exact fun H locs ls hP hD hS hl => lv_astore_n hx hb hdg hi hl hn hl2 (fun ls2 hl => kk H locs ls2 hP hD hS hl)
theorem g_astore (hC : Cx X cc nL own Ts D tys rm ret) {i : Nat} {x : Nat} (hdg : decode cc pc = .ok (.astore i, 2)) (hn : i < nL) (hl2 : (i, Value.ref x) :: lv.filter (fun q => !(q.1 == i) && !(q.1 + 1 == i && q.2.category == 2)) = lv') (hq : pc + 2 = q) (kk : G X D nL ws lv' q st) : G X D nL ws lv pc (.ref x :: st) := by
  obtain ⟨p, l, e, R, s, m, args, below, meth, c, Q, A, k0, n0⟩ := X
  obtain ⟨hx, hb, hml, hown, hts, hK, hA, hN, hR, hret, hk0, hn0⟩ := hC
  subst hq
  exact fun H locs ls hP hD hS hl => lv_astore hx hb hdg hl hn hl2 (fun ls2 hl => kk H locs ls2 hP hD hS hl)
theorem g_iinc (hC : Cx X cc nL own Ts D tys rm ret) {i : Nat} {n : Int} {x v : Int32} (hdg : decode cc pc = .ok (.iinc i n, 3)) (j : Nat) (hj : lv[j]? = some (i, .int x)) (hv : x + Int32.ofInt n = v) (hn : i < nL) (hl2 : (i, Value.int v) :: lv.filter (fun q => !(q.1 == i) && !(q.1 + 1 == i && q.2.category == 2)) = lv') (hq : pc + 3 = q) (kk : G X D nL ws lv' q st) : G X D nL ws lv pc (st) := by
  obtain ⟨p, l, e, R, s, m, args, below, meth, c, Q, A, k0, n0⟩ := X
  obtain ⟨hx, hb, hml, hown, hts, hK, hA, hN, hR, hret, hk0, hn0⟩ := hC
  subst hq
  exact fun H locs ls hP hD hS hl => lv_iinc hx hb hdg hl hj hv hn hl2 (fun ls2 hl => kk H locs ls2 hP hD hS hl)
theorem g_iadd (hC : Cx X cc nL own Ts D tys rm ret) {x y : Int32} (hdg : decode cc pc = .ok (.iadd, 1)) (hq : pc + 1 = q) (kk : G X D nL ws lv q (.int (x + y) :: st)) : G X D nL ws lv pc (.int y :: .int x :: st) := by
  obtain ⟨p, l, e, R, s, m, args, below, meth, c, Q, A, k0, n0⟩ := X
  obtain ⟨hx, hb, hml, hown, hts, hK, hA, hN, hR, hret, hk0, hn0⟩ := hC
  subst hq
  exact fun H locs ls hP hD hS hl => lv_iadd hx hb hdg (kk H locs ls hP hD hS hl)
theorem g_isub (hC : Cx X cc nL own Ts D tys rm ret) {x y : Int32} (hdg : decode cc pc = .ok (.isub, 1)) (hq : pc + 1 = q) (kk : G X D nL ws lv q (.int (x - y) :: st)) : G X D nL ws lv pc (.int y :: .int x :: st) := by
  obtain ⟨p, l, e, R, s, m, args, below, meth, c, Q, A, k0, n0⟩ := X
  obtain ⟨hx, hb, hml, hown, hts, hK, hA, hN, hR, hret, hk0, hn0⟩ := hC
  subst hq
  exact fun H locs ls hP hD hS hl => lv_isub hx hb hdg (kk H locs ls hP hD hS hl)
theorem g_imul (hC : Cx X cc nL own Ts D tys rm ret) {x y : Int32} (hdg : decode cc pc = .ok (.imul, 1)) (hq : pc + 1 = q) (kk : G X D nL ws lv q (.int (x * y) :: st)) : G X D nL ws lv pc (.int y :: .int x :: st) := by
  obtain ⟨p, l, e, R, s, m, args, below, meth, c, Q, A, k0, n0⟩ := X
  obtain ⟨hx, hb, hml, hown, hts, hK, hA, hN, hR, hret, hk0, hn0⟩ := hC
  subst hq
  exact fun H locs ls hP hD hS hl => lv_imul hx hb hdg (kk H locs ls hP hD hS hl)
theorem g_iand (hC : Cx X cc nL own Ts D tys rm ret) {x y : Int32} (hdg : decode cc pc = .ok (.iand, 1)) (hq : pc + 1 = q) (kk : G X D nL ws lv q (.int (x &&& y) :: st)) : G X D nL ws lv pc (.int y :: .int x :: st) := by
  obtain ⟨p, l, e, R, s, m, args, below, meth, c, Q, A, k0, n0⟩ := X
  obtain ⟨hx, hb, hml, hown, hts, hK, hA, hN, hR, hret, hk0, hn0⟩ := hC
  subst hq
  exact fun H locs ls hP hD hS hl => lv_iand hx hb hdg (kk H locs ls hP hD hS hl)
theorem g_ior (hC : Cx X cc nL own Ts D tys rm ret) {x y : Int32} (hdg : decode cc pc = .ok (.ior, 1)) (hq : pc + 1 = q) (kk : G X D nL ws lv q (.int (x ||| y) :: st)) : G X D nL ws lv pc (.int y :: .int x :: st) := by
  obtain ⟨p, l, e, R, s, m, args, below, meth, c, Q, A, k0, n0⟩ := X
  obtain ⟨hx, hb, hml, hown, hts, hK, hA, hN, hR, hret, hk0, hn0⟩ := hC
  subst hq
  exact fun H locs ls hP hD hS hl => lv_ior hx hb hdg (kk H locs ls hP hD hS hl)
theorem g_ishl (hC : Cx X cc nL own Ts D tys rm ret) {x y : Int32} (hdg : decode cc pc = .ok (.ishl, 1)) (hq : pc + 1 = q) (kk : G X D nL ws lv q (.int (x <<< (y &&& 31)) :: st)) : G X D nL ws lv pc (.int y :: .int x :: st) := by
  obtain ⟨p, l, e, R, s, m, args, below, meth, c, Q, A, k0, n0⟩ := X
  obtain ⟨hx, hb, hml, hown, hts, hK, hA, hN, hR, hret, hk0, hn0⟩ := hC
  subst hq
  exact fun H locs ls hP hD hS hl => lv_ishl hx hb hdg (kk H locs ls hP hD hS hl)
theorem g_ishr (hC : Cx X cc nL own Ts D tys rm ret) {x y : Int32} (hdg : decode cc pc = .ok (.ishr, 1)) (hq : pc + 1 = q) (kk : G X D nL ws lv q (.int (x >>> (y &&& 31)) :: st)) : G X D nL ws lv pc (.int y :: .int x :: st) := by
  obtain ⟨p, l, e, R, s, m, args, below, meth, c, Q, A, k0, n0⟩ := X
  obtain ⟨hx, hb, hml, hown, hts, hK, hA, hN, hR, hret, hk0, hn0⟩ := hC
  subst hq
  exact fun H locs ls hP hD hS hl => lv_ishr hx hb hdg (kk H locs ls hP hD hS hl)
theorem g_idiv (hC : Cx X cc nL own Ts D tys rm ret) {x y : Int32} (hdg : decode cc pc = .ok (.idiv, 1)) (hne : ¬ y = 0) (hq : pc + 1 = q) (kk : G X D nL ws lv q (.int (x / y) :: st)) : G X D nL ws lv pc (.int y :: .int x :: st) := by
  obtain ⟨p, l, e, R, s, m, args, below, meth, c, Q, A, k0, n0⟩ := X
  obtain ⟨hx, hb, hml, hown, hts, hK, hA, hN, hR, hret, hk0, hn0⟩ := hC
  subst hq
  exact fun H locs ls hP hD hS hl => lv_idiv hx hb hdg hne (kk H locs ls hP hD hS hl)
theorem g_irem (hC : Cx X cc nL own Ts D tys rm ret) {x y : Int32} (hdg : decode cc pc = .ok (.irem, 1)) (hne : ¬ y = 0) (hq : pc + 1 = q) (kk : G X D nL ws lv q (.int (x - x / y * y) :: st)) : G X D nL ws lv pc (.int y :: .int x :: st) := by
  obtain ⟨p, l, e, R, s, m, args, below, meth, c, Q, A, k0, n0⟩ := X
  obtain ⟨hx, hb, hml, hown, hts, hK, hA, hN, hR, hret, hk0, hn0⟩ := hC
  subst hq
  exact fun H locs ls hP hD hS hl => lv_irem hx hb hdg hne (kk H locs ls hP hD hS hl)
theorem g_ladd (hC : Cx X cc nL own Ts D tys rm ret) {x y : Int64} (hdg : decode cc pc = .ok (.ladd, 1)) (hq : pc + 1 = q) (kk : G X D nL ws lv q (.long (x + y) :: st)) : G X D nL ws lv pc (.long y :: .long x :: st) := by
  obtain ⟨p, l, e, R, s, m, args, below, meth, c, Q, A, k0, n0⟩ := X
  obtain ⟨hx, hb, hml, hown, hts, hK, hA, hN, hR, hret, hk0, hn0⟩ := hC
  subst hq
  exact fun H locs ls hP hD hS hl => lv_ladd hx hb hdg (kk H locs ls hP hD hS hl)
theorem g_lsub (hC : Cx X cc nL own Ts D tys rm ret) {x y : Int64} (hdg : decode cc pc = .ok (.lsub, 1)) (hq : pc + 1 = q) (kk : G X D nL ws lv q (.long (x - y) :: st)) : G X D nL ws lv pc (.long y :: .long x :: st) := by
  obtain ⟨p, l, e, R, s, m, args, below, meth, c, Q, A, k0, n0⟩ := X
  obtain ⟨hx, hb, hml, hown, hts, hK, hA, hN, hR, hret, hk0, hn0⟩ := hC
  subst hq
  exact fun H locs ls hP hD hS hl => lv_lsub hx hb hdg (kk H locs ls hP hD hS hl)
theorem g_lmul (hC : Cx X cc nL own Ts D tys rm ret) {x y : Int64} (hdg : decode cc pc = .ok (.lmul, 1)) (hq : pc + 1 = q) (kk : G X D nL ws lv q (.long (x * y) :: st)) : G X D nL ws lv pc (.long y :: .long x :: st) := by
  obtain ⟨p, l, e, R, s, m, args, below, meth, c, Q, A, k0, n0⟩ := X
  obtain ⟨hx, hb, hml, hown, hts, hK, hA, hN, hR, hret, hk0, hn0⟩ := hC
  subst hq
  exact fun H locs ls hP hD hS hl => lv_lmul hx hb hdg (kk H locs ls hP hD hS hl)
theorem g_ldiv (hC : Cx X cc nL own Ts D tys rm ret) {x y : Int64} (hdg : decode cc pc = .ok (.ldiv, 1)) (hne : ¬ y = 0) (hq : pc + 1 = q) (kk : G X D nL ws lv q (.long (x / y) :: st)) : G X D nL ws lv pc (.long y :: .long x :: st) := by
  obtain ⟨p, l, e, R, s, m, args, below, meth, c, Q, A, k0, n0⟩ := X
  obtain ⟨hx, hb, hml, hown, hts, hK, hA, hN, hR, hret, hk0, hn0⟩ := hC
  subst hq
  exact fun H locs ls hP hD hS hl => lv_ldiv hx hb hdg hne (kk H locs ls hP hD hS hl)
theorem g_lrem (hC : Cx X cc nL own Ts D tys rm ret) {x y : Int64} (hdg : decode cc pc = .ok (.lrem, 1)) (hne : ¬ y = 0) (hq : pc + 1 = q) (kk : G X D nL ws lv q (.long (x - x / y * y) :: st)) : G X D nL ws lv pc (.long y :: .long x :: st) := by
  obtain ⟨p, l, e, R, s, m, args, below, meth, c, Q, A, k0, n0⟩ := X
  obtain ⟨hx, hb, hml, hown, hts, hK, hA, hN, hR, hret, hk0, hn0⟩ := hC
  subst hq
  exact fun H locs ls hP hD hS hl => lv_lrem hx hb hdg hne (kk H locs ls hP hD hS hl)
theorem g_i2l (hC : Cx X cc nL own Ts D tys rm ret) {x : Int32} (hdg : decode cc pc = .ok (.i2l, 1)) (hq : pc + 1 = q) (kk : G X D nL ws lv q (.long x.toInt64 :: st)) : G X D nL ws lv pc (.int x :: st) := by
  obtain ⟨p, l, e, R, s, m, args, below, meth, c, Q, A, k0, n0⟩ := X
  obtain ⟨hx, hb, hml, hown, hts, hK, hA, hN, hR, hret, hk0, hn0⟩ := hC
  subst hq
  exact fun H locs ls hP hD hS hl => lv_i2l hx hb hdg rfl (kk H locs ls hP hD hS hl)
theorem g_i2b (hC : Cx X cc nL own Ts D tys rm ret) {x : Int32} (hdg : decode cc pc = .ok (.i2b, 1)) (hq : pc + 1 = q) (kk : G X D nL ws lv q (.int x.toInt8.toInt32 :: st)) : G X D nL ws lv pc (.int x :: st) := by
  obtain ⟨p, l, e, R, s, m, args, below, meth, c, Q, A, k0, n0⟩ := X
  obtain ⟨hx, hb, hml, hown, hts, hK, hA, hN, hR, hret, hk0, hn0⟩ := hC
  subst hq
  exact fun H locs ls hP hD hS hl => lv_i2b hx hb hdg rfl (kk H locs ls hP hD hS hl)
theorem g_i2s (hC : Cx X cc nL own Ts D tys rm ret) {x : Int32} (hdg : decode cc pc = .ok (.i2s, 1)) (hq : pc + 1 = q) (kk : G X D nL ws lv q (.int x.toInt16.toInt32 :: st)) : G X D nL ws lv pc (.int x :: st) := by
  obtain ⟨p, l, e, R, s, m, args, below, meth, c, Q, A, k0, n0⟩ := X
  obtain ⟨hx, hb, hml, hown, hts, hK, hA, hN, hR, hret, hk0, hn0⟩ := hC
  subst hq
  exact fun H locs ls hP hD hS hl => lv_i2s hx hb hdg rfl (kk H locs ls hP hD hS hl)
theorem g_iushr (hC : Cx X cc nL own Ts D tys rm ret) {x y : Int32} (hdg : decode cc pc = .ok (.iushr, 1)) (hq : pc + 1 = q) (kk : G X D nL ws lv q (.int ((x.toUInt32 >>> (y.toUInt32 &&& Int32.toUInt32 31)).toInt32) :: st)) : G X D nL ws lv pc (.int y :: .int x :: st) := by
  obtain ⟨p, l, e, R, s, m, args, below, meth, c, Q, A, k0, n0⟩ := X
  obtain ⟨hx, hb, hml, hown, hts, hK, hA, hN, hR, hret, hk0, hn0⟩ := hC
  subst hq
  exact fun H locs ls hP hD hS hl => lv_iushr hx hb hdg rfl (kk H locs ls hP hD hS hl)
theorem g_lshl (hC : Cx X cc nL own Ts D tys rm ret) {x : Int64} {y : Int32} (hdg : decode cc pc = .ok (.lshl, 1)) (hq : pc + 1 = q) (kk : G X D nL ws lv q (.long (x <<< (y.toInt64 &&& 63)) :: st)) : G X D nL ws lv pc (.int y :: .long x :: st) := by
  obtain ⟨p, l, e, R, s, m, args, below, meth, c, Q, A, k0, n0⟩ := X
  obtain ⟨hx, hb, hml, hown, hts, hK, hA, hN, hR, hret, hk0, hn0⟩ := hC
  subst hq
  exact fun H locs ls hP hD hS hl => lv_lshl hx hb hdg rfl (kk H locs ls hP hD hS hl)
theorem g_lcmp (hC : Cx X cc nL own Ts D tys rm ret) {x y : Int64} (hdg : decode cc pc = .ok (.lcmp, 1)) (hq : pc + 1 = q) (kk : G X D nL ws lv q (.int (lg_cmp x y) :: st)) : G X D nL ws lv pc (.long y :: .long x :: st) := by
  obtain ⟨p, l, e, R, s, m, args, below, meth, c, Q, A, k0, n0⟩ := X
  obtain ⟨hx, hb, hml, hown, hts, hK, hA, hN, hR, hret, hk0, hn0⟩ := hC
  subst hq
  exact fun H locs ls hP hD hS hl => W.lcmp hx hb hdg (kk H locs ls hP hD hS hl)
theorem g_dup (hC : Cx X cc nL own Ts D tys rm ret) {va : Value} (hdg : decode cc pc = .ok (.dup, 1)) (hva : va.category = 1) (hq : pc + 1 = q) (kk : G X D nL ws lv q (va :: va :: st)) : G X D nL ws lv pc (va :: st) := by
  obtain ⟨p, l, e, R, s, m, args, below, meth, c, Q, A, k0, n0⟩ := X
  obtain ⟨hx, hb, hml, hown, hts, hK, hA, hN, hR, hret, hk0, hn0⟩ := hC
  subst hq
  exact fun H locs ls hP hD hS hl => lv_dup hx hb hdg hva (kk H locs ls hP hD hS hl)
theorem g_pop (hC : Cx X cc nL own Ts D tys rm ret) {va : Value} (hdg : decode cc pc = .ok (.pop, 1)) (hva : va.category = 1) (hq : pc + 1 = q) (kk : G X D nL ws lv q (st)) : G X D nL ws lv pc (va :: st) := by
  obtain ⟨p, l, e, R, s, m, args, below, meth, c, Q, A, k0, n0⟩ := X
  obtain ⟨hx, hb, hml, hown, hts, hK, hA, hN, hR, hret, hk0, hn0⟩ := hC
  subst hq
  exact fun H locs ls hP hD hS hl => lv_pop hx hb hdg hva (kk H locs ls hP hD hS hl)
theorem g_dup2 (hC : Cx X cc nL own Ts D tys rm ret) {va vb : Value} (hdg : decode cc pc = .ok (.dup2, 1)) (hva : va.category = 1) (hvb : vb.category = 1) (hq : pc + 1 = q) (kk : G X D nL ws lv q (va :: vb :: va :: vb :: st)) : G X D nL ws lv pc (va :: vb :: st) := by
  obtain ⟨p, l, e, R, s, m, args, below, meth, c, Q, A, k0, n0⟩ := X
  obtain ⟨hx, hb, hml, hown, hts, hK, hA, hN, hR, hret, hk0, hn0⟩ := hC
  subst hq
  exact fun H locs ls hP hD hS hl => lv_dup2_11 hx hb hdg hva hvb (kk H locs ls hP hD hS hl)
theorem g_null (hC : Cx X cc nL own Ts D tys rm ret) (hdg : decode cc pc = .ok (.aconst_null, 1)) (hq : pc + 1 = q) (kk : G X D nL ws lv q (.null :: st)) : G X D nL ws lv pc (st) := by
  obtain ⟨p, l, e, R, s, m, args, below, meth, c, Q, A, k0, n0⟩ := X
  obtain ⟨hx, hb, hml, hown, hts, hK, hA, hN, hR, hret, hk0, hn0⟩ := hC
  subst hq
  exact fun H locs ls hP hD hS hl => lv_null hx hb hdg (kk H locs ls hP hD hS hl)
theorem g_if_eq (hC : Cx X cc nL own Ts D tys rm ret) {x : Int32} {off : Int} {tgt : Nat} (hdg : decode cc pc = .ok (.ifCond .eq off, 3)) (ht : (pc : Int) + off = (tgt : Int)) (hq : pc + 3 = q) (kt : x = 0 → G X D nL ws lv tgt st) (kf : ¬ x = 0 → G X D nL ws lv q st) : G X D nL ws lv pc (.int x :: st) := by
  obtain ⟨p, l, e, R, s, m, args, below, meth, c, Q, A, k0, n0⟩ := X
  obtain ⟨hx, hb, hml, hown, hts, hK, hA, hN, hR, hret, hk0, hn0⟩ := hC
  subst hq
  exact fun H locs ls hP hD hS hl => lv_if_eq hx hb hdg ht (fun z => kt z H locs ls hP hD hS hl) (fun z => kf z H locs ls hP hD hS hl)
theorem g_if_lt (hC : Cx X cc nL own Ts D tys rm ret) {x : Int32} {off : Int} {tgt : Nat} (hdg : decode cc pc = .ok (.ifCond .lt off, 3)) (ht : (pc : Int) + off = (tgt : Int)) (hq : pc + 3 = q) (kt : x < 0 → G X D nL ws lv tgt st) (kf : ¬ x < 0 → G X D nL ws lv q st) : G X D nL ws lv pc (.int x :: st) := by
  obtain ⟨p, l, e, R, s, m, args, below, meth, c, Q, A, k0, n0⟩ := X
  obtain ⟨hx, hb, hml, hown, hts, hK, hA, hN, hR, hret, hk0, hn0⟩ := hC
  subst hq
  exact fun H locs ls hP hD hS hl => lv_if_lt hx hb hdg ht (fun z => kt z H locs ls hP hD hS hl) (fun z => kf z H locs ls hP hD hS hl)
theorem g_if_ge (hC : Cx X cc nL own Ts D tys rm ret) {x : Int32} {off : Int} {tgt : Nat} (hdg : decode cc pc = .ok (.ifCond .ge off, 3)) (ht : (pc : Int) + off = (tgt : Int)) (hq : pc + 3 = q) (kt : 0 ≤ x → G X D nL ws lv tgt st) (kf : ¬ 0 ≤ x → G X D nL ws lv q st) : G X D nL ws lv pc (.int x :: st) := by
  obtain ⟨p, l, e, R, s, m, args, below, meth, c, Q, A, k0, n0⟩ := X
  obtain ⟨hx, hb, hml, hown, hts, hK, hA, hN, hR, hret, hk0, hn0⟩ := hC
  subst hq
  exact fun H locs ls hP hD hS hl => lv_if_ge hx hb hdg ht (fun z => kt z H locs ls hP hD hS hl) (fun z => kf z H locs ls hP hD hS hl)
theorem g_if_gt (hC : Cx X cc nL own Ts D tys rm ret) {x : Int32} {off : Int} {tgt : Nat} (hdg : decode cc pc = .ok (.ifCond .gt off, 3)) (ht : (pc : Int) + off = (tgt : Int)) (hq : pc + 3 = q) (kt : 0 < x → G X D nL ws lv tgt st) (kf : ¬ 0 < x → G X D nL ws lv q st) : G X D nL ws lv pc (.int x :: st) := by
  obtain ⟨p, l, e, R, s, m, args, below, meth, c, Q, A, k0, n0⟩ := X
  obtain ⟨hx, hb, hml, hown, hts, hK, hA, hN, hR, hret, hk0, hn0⟩ := hC
  subst hq
  exact fun H locs ls hP hD hS hl => lv_if_gt hx hb hdg ht (fun z => kt z H locs ls hP hD hS hl) (fun z => kf z H locs ls hP hD hS hl)
theorem g_if_le (hC : Cx X cc nL own Ts D tys rm ret) {x : Int32} {off : Int} {tgt : Nat} (hdg : decode cc pc = .ok (.ifCond .le off, 3)) (ht : (pc : Int) + off = (tgt : Int)) (hq : pc + 3 = q) (kt : x ≤ 0 → G X D nL ws lv tgt st) (kf : ¬ x ≤ 0 → G X D nL ws lv q st) : G X D nL ws lv pc (.int x :: st) := by
  obtain ⟨p, l, e, R, s, m, args, below, meth, c, Q, A, k0, n0⟩ := X
  obtain ⟨hx, hb, hml, hown, hts, hK, hA, hN, hR, hret, hk0, hn0⟩ := hC
  subst hq
  exact fun H locs ls hP hD hS hl => lv_if_le hx hb hdg ht (fun z => kt z H locs ls hP hD hS hl) (fun z => kf z H locs ls hP hD hS hl)
theorem g_if_ne (hC : Cx X cc nL own Ts D tys rm ret) {x : Int32} {off : Int} {tgt : Nat} (hdg : decode cc pc = .ok (.ifCond .ne off, 3)) (ht : (pc : Int) + off = (tgt : Int)) (hq : pc + 3 = q) (kt : ¬ x = 0 → G X D nL ws lv tgt st) (kf : x = 0 → G X D nL ws lv q st) : G X D nL ws lv pc (.int x :: st) := by
  obtain ⟨p, l, e, R, s, m, args, below, meth, c, Q, A, k0, n0⟩ := X
  obtain ⟨hx, hb, hml, hown, hts, hK, hA, hN, hR, hret, hk0, hn0⟩ := hC
  subst hq
  exact fun H locs ls hP hD hS hl => lv_if_ne hx hb hdg ht (fun z => kt z H locs ls hP hD hS hl) (fun z => kf z H locs ls hP hD hS hl)
theorem g_icmp_eq (hC : Cx X cc nL own Ts D tys rm ret) {x y : Int32} {off : Int} {tgt : Nat} (hdg : decode cc pc = .ok (.if_icmp .eq off, 3)) (ht : (pc : Int) + off = (tgt : Int)) (hq : pc + 3 = q) (kt : x = y → G X D nL ws lv tgt st) (kf : ¬ x = y → G X D nL ws lv q st) : G X D nL ws lv pc (.int y :: .int x :: st) := by
  obtain ⟨p, l, e, R, s, m, args, below, meth, c, Q, A, k0, n0⟩ := X
  obtain ⟨hx, hb, hml, hown, hts, hK, hA, hN, hR, hret, hk0, hn0⟩ := hC
  subst hq
  exact fun H locs ls hP hD hS hl => lv_icmp_eq hx hb hdg ht (fun z => kt z H locs ls hP hD hS hl) (fun z => kf z H locs ls hP hD hS hl)
theorem g_icmp_lt (hC : Cx X cc nL own Ts D tys rm ret) {x y : Int32} {off : Int} {tgt : Nat} (hdg : decode cc pc = .ok (.if_icmp .lt off, 3)) (ht : (pc : Int) + off = (tgt : Int)) (hq : pc + 3 = q) (kt : x < y → G X D nL ws lv tgt st) (kf : ¬ x < y → G X D nL ws lv q st) : G X D nL ws lv pc (.int y :: .int x :: st) := by
  obtain ⟨p, l, e, R, s, m, args, below, meth, c, Q, A, k0, n0⟩ := X
  obtain ⟨hx, hb, hml, hown, hts, hK, hA, hN, hR, hret, hk0, hn0⟩ := hC
  subst hq
  exact fun H locs ls hP hD hS hl => lv_icmp_lt hx hb hdg ht (fun z => kt z H locs ls hP hD hS hl) (fun z => kf z H locs ls hP hD hS hl)
theorem g_icmp_ge (hC : Cx X cc nL own Ts D tys rm ret) {x y : Int32} {off : Int} {tgt : Nat} (hdg : decode cc pc = .ok (.if_icmp .ge off, 3)) (ht : (pc : Int) + off = (tgt : Int)) (hq : pc + 3 = q) (kt : y ≤ x → G X D nL ws lv tgt st) (kf : ¬ y ≤ x → G X D nL ws lv q st) : G X D nL ws lv pc (.int y :: .int x :: st) := by
  obtain ⟨p, l, e, R, s, m, args, below, meth, c, Q, A, k0, n0⟩ := X
  obtain ⟨hx, hb, hml, hown, hts, hK, hA, hN, hR, hret, hk0, hn0⟩ := hC
  subst hq
  exact fun H locs ls hP hD hS hl => lv_icmp_ge hx hb hdg ht (fun z => kt z H locs ls hP hD hS hl) (fun z => kf z H locs ls hP hD hS hl)
theorem g_icmp_gt (hC : Cx X cc nL own Ts D tys rm ret) {x y : Int32} {off : Int} {tgt : Nat} (hdg : decode cc pc = .ok (.if_icmp .gt off, 3)) (ht : (pc : Int) + off = (tgt : Int)) (hq : pc + 3 = q) (kt : y < x → G X D nL ws lv tgt st) (kf : ¬ y < x → G X D nL ws lv q st) : G X D nL ws lv pc (.int y :: .int x :: st) := by
  obtain ⟨p, l, e, R, s, m, args, below, meth, c, Q, A, k0, n0⟩ := X
  obtain ⟨hx, hb, hml, hown, hts, hK, hA, hN, hR, hret, hk0, hn0⟩ := hC
  subst hq
  exact fun H locs ls hP hD hS hl => lv_icmp_gt hx hb hdg ht (fun z => kt z H locs ls hP hD hS hl) (fun z => kf z H locs ls hP hD hS hl)
theorem g_icmp_le (hC : Cx X cc nL own Ts D tys rm ret) {x y : Int32} {off : Int} {tgt : Nat} (hdg : decode cc pc = .ok (.if_icmp .le off, 3)) (ht : (pc : Int) + off = (tgt : Int)) (hq : pc + 3 = q) (kt : x ≤ y → G X D nL ws lv tgt st) (kf : ¬ x ≤ y → G X D nL ws lv q st) : G X D nL ws lv pc (.int y :: .int x :: st) := by
  obtain ⟨p, l, e, R, s, m, args, below, meth, c, Q, A, k0, n0⟩ := X
  obtain ⟨hx, hb, hml, hown, hts, hK, hA, hN, hR, hret, hk0, hn0⟩ := hC
  subst hq
  exact fun H locs ls hP hD hS hl => lv_icmp_le hx hb hdg ht (fun z => kt z H locs ls hP hD hS hl) (fun z => kf z H locs ls hP hD hS hl)
theorem g_icmp_ne (hC : Cx X cc nL own Ts D tys rm ret) {x y : Int32} {off : Int} {tgt : Nat} (hdg : decode cc pc = .ok (.if_icmp .ne off, 3)) (ht : (pc : Int) + off = (tgt : Int)) (hq : pc + 3 = q) (kt : ¬ x = y → G X D nL ws lv tgt st) (kf : x = y → G X D nL ws lv q st) : G X D nL ws lv pc (.int y :: .int x :: st) := by
  obtain ⟨p, l, e, R, s, m, args, below, meth, c, Q, A, k0, n0⟩ := X
  obtain ⟨hx, hb, hml, hown, hts, hK, hA, hN, hR, hret, hk0, hn0⟩ := hC
  subst hq
  exact fun H locs ls hP hD hS hl => lv_icmp_ne hx hb hdg ht (fun z => kt z H locs ls hP hD hS hl) (fun z => kf z H locs ls hP hD hS hl)
theorem g_goto (hC : Cx X cc nL own Ts D tys rm ret) {off : Int} {tgt : Nat} (hdg : decode cc pc = .ok (.goto off, 3)) (ht : (pc : Int) + off = (tgt : Int)) (kk : G X D nL ws lv tgt st) : G X D nL ws lv pc (st) := by
  obtain ⟨p, l, e, R, s, m, args, below, meth, c, Q, A, k0, n0⟩ := X
  obtain ⟨hx, hb, hml, hown, hts, hK, hA, hN, hR, hret, hk0, hn0⟩ := hC
  exact fun H locs ls hP hD hS hl => lv_goto hx hb hdg ht (kk H locs ls hP hD hS hl)
theorem g_ifnull (hC : Cx X cc nL own Ts D tys rm ret) {x : Nat} {off : Int} (hdg : decode cc pc = .ok (.ifnull off, 3)) (hq : pc + 3 = q) (kk : G X D nL ws lv q st) : G X D nL ws lv pc (.ref x :: st) := by
  obtain ⟨p, l, e, R, s, m, args, below, meth, c, Q, A, k0, n0⟩ := X
  obtain ⟨hx, hb, hml, hown, hts, hK, hA, hN, hR, hret, hk0, hn0⟩ := hC
  subst hq
  exact fun H locs ls hP hD hS hl => lv_ifnull hx hb hdg (kk H locs ls hP hD hS hl)
theorem g_ifnullN (hC : Cx X cc nL own Ts D tys rm ret) {off : Int} {tgt : Nat} (hdg : decode cc pc = .ok (.ifnull off, 3)) (ht : (pc : Int) + off = (tgt : Int)) (kk : G X D nL ws lv tgt st) : G X D nL ws lv pc (.null :: st) := by
  obtain ⟨p, l, e, R, s, m, args, below, meth, c, Q, A, k0, n0⟩ := X
  obtain ⟨hx, hb, hml, hown, hts, hK, hA, hN, hR, hret, hk0, hn0⟩ := hC
  exact fun H locs ls hP hD hS hl => lv_ifnullN hx hb hdg ht (kk H locs ls hP hD hS hl)
theorem g_ifnonnull (hC : Cx X cc nL own Ts D tys rm ret) {x : Nat} {off : Int} {tgt : Nat} (hdg : decode cc pc = .ok (.ifnonnull off, 3)) (ht : (pc : Int) + off = (tgt : Int)) (kk : G X D nL ws lv tgt st) : G X D nL ws lv pc (.ref x :: st) := by
  obtain ⟨p, l, e, R, s, m, args, below, meth, c, Q, A, k0, n0⟩ := X
  obtain ⟨hx, hb, hml, hown, hts, hK, hA, hN, hR, hret, hk0, hn0⟩ := hC
  exact fun H locs ls hP hD hS hl => lv_ifnonnull hx hb hdg ht (kk H locs ls hP hD hS hl)
theorem g_ifnonnullN (hC : Cx X cc nL own Ts D tys rm ret) {off : Int} (hdg : decode cc pc = .ok (.ifnonnull off, 3)) (hq : pc + 3 = q) (kk : G X D nL ws lv q st) : G X D nL ws lv pc (.null :: st) := by
  obtain ⟨p, l, e, R, s, m, args, below, meth, c, Q, A, k0, n0⟩ := X
  obtain ⟨hx, hb, hml, hown, hts, hK, hA, hN, hR, hret, hk0, hn0⟩ := hC
  subst hq
  exact fun H locs ls hP hD hS hl => lv_ifnonnullN hx hb hdg (kk H locs ls hP hD hS hl)
theorem g_ldc2 (hC : Cx X cc nL own Ts D tys rm ret) {index : Nat} {v : Int64} (hm : Cond.constantLong own index v ∈ Ts) (hdg : decode cc pc = .ok (.ldc2_w index, 3)) (hq : pc + 3 = q) (kk : G X D nL ws lv q (.long v :: st)) : G X D nL ws lv pc (st) := by
  obtain ⟨p, l, e, R, s, m, args, below, meth, c, Q, A, k0, n0⟩ := X
  obtain ⟨hx, hb, hml, hown, hts, hK, hA, hN, hR, hret, hk0, hn0⟩ := hC
  subst hq
  exact fun H locs ls hP hD hS hl => lv_ldc2 hx hb hown (hts _ hm) hdg (kk H locs ls hP hD hS hl)
theorem g_tableOut (hC : Cx X cc nL own Ts D tys rm ret) {dflt lo hi : Int} {offs : Array Int} {len : Nat} {x : Int32} {tgt : Nat} (hdg : decode cc pc = .ok (.tableswitch dflt lo hi offs, len)) (h : x.toInt < lo ∨ hi < x.toInt) (ht : (pc : Int) + dflt = (tgt : Int)) (kk : G X D nL ws lv tgt st) : G X D nL ws lv pc (.int x :: st) := by
  obtain ⟨p, l, e, R, s, m, args, below, meth, c, Q, A, k0, n0⟩ := X
  obtain ⟨hx, hb, hml, hown, hts, hK, hA, hN, hR, hret, hk0, hn0⟩ := hC
  exact fun H locs ls hP hD hS hl => lv_tableOut hx hb hdg h ht (kk H locs ls hP hD hS hl)
theorem g_tableIn (hC : Cx X cc nL own Ts D tys rm ret) {dflt lo hi : Int} {offs : Array Int} {len : Nat} {x : Int32} {off : Int} {tgt : Nat} (hdg : decode cc pc = .ok (.tableswitch dflt lo hi offs, len)) (h1 : ¬ x.toInt < lo) (h2 : ¬ hi < x.toInt) (ho : offs[(x.toInt - lo).toNat]? = some off) (ht : (pc : Int) + off = (tgt : Int)) (kk : G X D nL ws lv tgt st) : G X D nL ws lv pc (.int x :: st) := by
  obtain ⟨p, l, e, R, s, m, args, below, meth, c, Q, A, k0, n0⟩ := X
  obtain ⟨hx, hb, hml, hown, hts, hK, hA, hN, hR, hret, hk0, hn0⟩ := hC
  exact fun H locs ls hP hD hS hl => lv_tableIn hx hb hdg h1 h2 ho ht (kk H locs ls hP hD hS hl)
theorem g_lookup (hC : Cx X cc nL own Ts D tys rm ret) {dflt : Int} {ps : Array (Int × Int)} {len : Nat} {x : Int32} {off : Int} {tgt : Nat} (hdg : decode cc pc = .ok (.lookupswitch dflt ps, len)) (hp : (ps.toList.zip (ps.toList.drop 1)).all (fun (a, next) => a.1 < next.1) = true) (ho : Op.lookupswitch.offset ps.toList dflt x.toInt = off) (ht : (pc : Int) + off = (tgt : Int)) (kk : G X D nL ws lv tgt st) : G X D nL ws lv pc (.int x :: st) := by
  obtain ⟨p, l, e, R, s, m, args, below, meth, c, Q, A, k0, n0⟩ := X
  obtain ⟨hx, hb, hml, hown, hts, hK, hA, hN, hR, hret, hk0, hn0⟩ := hC
  exact fun H locs ls hP hD hS hl => lv_lookup hx hb hdg hp ho ht (kk H locs ls hP hD hS hl)
theorem g_get (hC : Cx X cc nL own Ts D tys rm ret) {C : String} {T : u_T} {N ci index : Nat} {a : Nat} {fs : List Value} (hin : ∀ w ∈ u_ws C T N, w ∈ Ts) (q0 : Nat) (he : ws[q0]? = some (a, .inr (ci, fs))) (hc : vwCl[ci]? = some (C, T, N)) (k : Nat) (hk : k < N) (hm : Cond.fieldLink own index C (T k).2.1 (T k).2.2.1 ∈ Ts) (e1 : (T k).1 = C) {v : Value} (hv : fs[k]? = some v) (hdg : decode cc pc = .ok (.getfield index, 3)) (hq : pc + 3 = q) (kk : G X D nL ws lv q (v :: st)) : G X D nL ws lv pc (.ref a :: st) := by
  obtain ⟨p, l, e, R, s, m, args, below, meth, c, Q, A, k0, n0⟩ := X
  obtain ⟨hx, hb, hml, hown, hts, hK, hA, hN, hR, hret, hk0, hn0⟩ := hC
  subst hq
  exact fun H locs ls hP hD hS hl => va_get hx hb hts hin hown hK hP q0 he hc k hk (hts _ hm) (fun x h => by rw [e1] at h; exact h) hv hdg (kk H locs ls hP hD hS hl)
theorem g_put (hC : Cx X cc nL own Ts D tys rm ret) {C : String} {T : u_T} {N ci index : Nat} {a : Nat} {fs : List Value} (hin : ∀ w ∈ u_ws C T N, w ∈ Ts) (q0 : Nat) (he : ws[q0]? = some (a, .inr (ci, fs))) (hc : vwCl[ci]? = some (C, T, N)) (k : Nat) (hk : k < N) (hm : Cond.fieldLink own index C (T k).2.1 (T k).2.2.1 ∈ Ts) (e1 : (T k).1 = C) (ty0 : Nat → FieldType) (hty : ∀ k, k < N → parseFieldDescriptor (T k).2.2.1 = some (ty0 k)) (hnm : ∀ a, a < N → ∀ b, b < N → a ≠ b → (T a).2.1 ≠ (T b).2.1) (hfin : (T k).2.2.2 = false) {v : Value} (hn : narrow (ty0 k) v = v) (hfit : fits (ty0 k) v = true) (hl0 : k < fs.length) (hws : ws.set q0 (a, .inr (ci, fs.set k v)) = ws') (hdg : decode cc pc = .ok (.putfield index, 3)) (hq : pc + 3 = q) (kk : G X D nL ws' lv q st) : G X D nL ws lv pc (v :: .ref a :: st) := by
  obtain ⟨p, l, e, R, s, m, args, below, meth, c, Q, A, k0, n0⟩ := X
  obtain ⟨hx, hb, hml, hown, hts, hK, hA, hN, hR, hret, hk0, hn0⟩ := hC
  subst hq
  subst hws
  exact fun H locs ls hP hD hS hl => va_put hx hb hts hin ty0 hty hnm hown hK hP hD hS q0 he hc k hk (hts _ hm) (fun x h => by rw [e1] at h; exact h) hfin (hty k hk) hn hfit hl0 hdg (fun H1 locs1 hP hD hS => kk H1 locs1 ls hP hD hS hl)
theorem g_iald (hC : Cx X cc nL own Ts D tys rm ret) (q0 t0 : Nat) {a : Nat} {cA : ClassId} {n : Nat} {f : Nat → Int32} (ha : ws[q0]? = some (a, .inl (cA, n, .inl f))) (ht : tys[t0]? = some (cA, .int)) {i : Int32} (hin : vp_in i n) (hdg : decode cc pc = .ok (.iaload, 1)) (hq : pc + 1 = q) (kk : G X D nL ws lv q (.int (f i.toNatClampNeg) :: st)) : G X D nL ws lv pc (.int i :: .ref a :: st) := by
  obtain ⟨p, l, e, R, s, m, args, below, meth, c, Q, A, k0, n0⟩ := X
  obtain ⟨hx, hb, hml, hown, hts, hK, hA, hN, hR, hret, hk0, hn0⟩ := hC
  subst hq
  exact fun H locs ls hP hD hS hl => va_iald hx hb hK hP q0 t0 ha ht hin hdg (kk H locs ls hP hD hS hl)
theorem g_iast (hC : Cx X cc nL own Ts D tys rm ret) (q0 t0 : Nat) {a : Nat} {cA : ClassId} {n : Nat} {f : Nat → Int32} (ha : ws[q0]? = some (a, .inl (cA, n, .inl f))) (ht : tys[t0]? = some (cA, .int)) {i x : Int32} (hin : vp_in i n) (hws : ws.set q0 (a, .inl (cA, n, .inl (upd f i.toNatClampNeg x))) = ws') (hdg : decode cc pc = .ok (.iastore, 1)) (hq : pc + 1 = q) (kk : G X D nL ws' lv q st) : G X D nL ws lv pc (.int x :: .int i :: .ref a :: st) := by
  obtain ⟨p, l, e, R, s, m, args, below, meth, c, Q, A, k0, n0⟩ := X
  obtain ⟨hx, hb, hml, hown, hts, hK, hA, hN, hR, hret, hk0, hn0⟩ := hC
  subst hq
  subst hws
  exact fun H locs ls hP hD hS hl => va_iast hx hb hK hP hD hS q0 t0 ha ht hin hdg (fun H1 locs1 hP hD hS => kk H1 locs1 ls hP hD hS hl)
theorem g_alen (hC : Cx X cc nL own Ts D tys rm ret) (q0 t0 : Nat) {a : Nat} {cA : ClassId} {x : vp_A} (ha : ws[q0]? = some (a, .inl (cA, x))) {ty : FieldType} (ht : tys[t0]? = some (cA, ty)) {v : Int32} (hv : Int32.ofNat x.1 = v) (hdg : decode cc pc = .ok (.arraylength, 1)) (hq : pc + 1 = q) (kk : G X D nL ws lv q (.int v :: st)) : G X D nL ws lv pc (.ref a :: st) := by
  obtain ⟨p, l, e, R, s, m, args, below, meth, c, Q, A, k0, n0⟩ := X
  obtain ⟨hx, hb, hml, hown, hts, hK, hA, hN, hR, hret, hk0, hn0⟩ := hC
  subst hq
  exact fun H locs ls hP hD hS hl => va_alen hx hb hK hP q0 t0 ha ht hv hdg (kk H locs ls hP hD hS hl)
theorem g_aldq (hC : Cx X cc nL own Ts D tys rm ret) (q0 t0 : Nat) {a : Nat} {cA : ClassId} {C : String} {n : Nat} {f : Nat → Option Nat} (ha : ws[q0]? = some (a, .inl (cA, n, .inr (.inr (.inr (.inr f)))))) (ht : tys[t0]? = some (cA, .object C)) {i : Int32} (hin : vp_in i n) (hdg : decode cc pc = .ok (.aaload, 1)) (hq : pc + 1 = q) (kk : G X D nL ws lv q (va_rf (f i.toNatClampNeg) :: st)) : G X D nL ws lv pc (.int i :: .ref a :: st) := by
  obtain ⟨p, l, e, R, s, m, args, below, meth, c, Q, A, k0, n0⟩ := X
  obtain ⟨hx, hb, hml, hown, hts, hK, hA, hN, hR, hret, hk0, hn0⟩ := hC
  subst hq
  exact fun H locs ls hP hD hS hl => va_aldq hx hb hK hP q0 t0 ha ht hin hdg (kk H locs ls hP hD hS hl)
theorem g_mmax (hC : Cx X cc nL own Ts D tys rm ret) {index : Nat} (h1 : Cond.methodLink own index Lib.Math.max.name ∈ Ts) (h2 : Cond.static Lib.Math.max.name ∈ Ts) (h3 : Cond.initialized "java/lang/Math" ∈ Ts) (h4 : Cond.code Lib.Math.max.name Lib.Math.max.code 2 (some .int) ∈ Ts) (hfr : 1 ≤ rm.frames) (hlo : (st.map fun v => v.category).sum + 13 ≤ rm.locals) {x y : Int32} (hdg : decode cc pc = .ok (.invokestatic index, 3)) (hq : pc + 3 = q) (kk : G X D nL ws lv q (.int (if x < y then y else x) :: st)) : G X D nL ws lv pc (.int y :: .int x :: st) := by
  obtain ⟨p, l, e, R, s, m, args, below, meth, c, Q, A, k0, n0⟩ := X
  obtain ⟨hx, hb, hml, hown, hts, hK, hA, hN, hR, hret, hk0, hn0⟩ := hC
  subst hq
  subst hR
  exact fun H locs ls hP hD hS hl => va_mmax hx hb (hml.trans hl.1.symm) hown (hts _ h1) (hts _ h2) (hts _ h3) (hts _ h4) hfr hlo hk0 hn0 hdg (kk H locs ls hP hD hS hl)
theorem g_mmin (hC : Cx X cc nL own Ts D tys rm ret) {index : Nat} (h1 : Cond.methodLink own index Lib.Math.min.name ∈ Ts) (h2 : Cond.static Lib.Math.min.name ∈ Ts) (h3 : Cond.initialized "java/lang/Math" ∈ Ts) (h4 : Cond.code Lib.Math.min.name Lib.Math.min.code 2 (some .int) ∈ Ts) (hfr : 1 ≤ rm.frames) (hlo : (st.map fun v => v.category).sum + 13 ≤ rm.locals) {x y : Int32} (hdg : decode cc pc = .ok (.invokestatic index, 3)) (hq : pc + 3 = q) (kk : G X D nL ws lv q (.int (if y < x then y else x) :: st)) : G X D nL ws lv pc (.int y :: .int x :: st) := by
  obtain ⟨p, l, e, R, s, m, args, below, meth, c, Q, A, k0, n0⟩ := X
  obtain ⟨hx, hb, hml, hown, hts, hK, hA, hN, hR, hret, hk0, hn0⟩ := hC
  subst hq
  subst hR
  exact fun H locs ls hP hD hS hl => va_mmin hx hb (hml.trans hl.1.symm) hown (hts _ h1) (hts _ h2) (hts _ h3) (hts _ h4) hfr hlo hk0 hn0 hdg (kk H locs ls hP hD hS hl)
theorem g_copyi (hC : Cx X cc nL own Ts D tys rm ret) {index : Nat} (h1 : Cond.methodLink own index arraycopyName ∈ Ts) (h2 : Cond.native arraycopyName ∈ Ts) (h3 : Cond.static arraycopyName ∈ Ts) (h4 : Cond.initialized "java/lang/System" ∈ Ts) (q0 q1 t0 : Nat) {a a0 : Nat} {c0 : ClassId} {n0 n1 : Nat} {f g : Nat → Int32} (ha0 : ws[q0]? = some (a0, .inl (c0, n0, .inl f))) (ha1 : ws[q1]? = some (a, .inl (c0, n1, .inl g))) (ht0 : tys[t0]? = some (c0, .int)) {sp dp n : Int32} (i1 : ¬ sp < 0) (i2 : ¬ dp < 0) (i3 : ¬ n < 0) (i4 : sp.toNatClampNeg + n.toNatClampNeg ≤ n0) (i5 : dp.toNatClampNeg + n.toNatClampNeg ≤ n1) (hfr : 1 ≤ rm.frames) (hlo : (st.map fun v => v.category).sum + (nativeFrameWords "java/lang/System" "arraycopy" 5 + 11) ≤ rm.locals) (hdg : decode cc pc = .ok (.invokestatic index, 3)) (hq : pc + 3 = q) (hws : ws.set q1 (a, .inl (c0, n1, .inl (va_cpy f g sp.toNatClampNeg dp.toNatClampNeg n.toNatClampNeg))) = ws') (kk : G X D nL ws' lv q st) : G X D nL ws lv pc (.int n :: .int dp :: .ref a :: .int sp :: .ref a0 :: st) := by
  obtain ⟨p, l, e, R, s, m, args, below, meth, c, Q, A, k0, n0'⟩ := X
  obtain ⟨hx, hb, hml, hown, hts, hK, hA, hN, hR, hret, hk0, hn0⟩ := hC
  subst hq
  subst hR
  subst hws
  exact fun H locs ls hP hD hS hl => va_copyi hx hb (hml.trans hl.1.symm) hown (hts _ h1) (hts _ h2) (hts _ h3) (hts _ h4) hK hP hD hS q0 q1 t0 t0 ha0 ha1 ht0 ht0 rfl i1 i2 i3 i4 i5 (fun i h => rfl) hfr hlo hdg (fun H1 locs1 hP hD hS => kk H1 locs1 ls hP hD hS hl)
theorem g_ldcw (hC : Cx X cc nL own Ts D tys rm ret) {index : Nat} {v : Int32} (hm : Cond.constant own index v ∈ Ts) (hdg : decode cc pc = .ok (.ldc_w index, 3)) (hq : pc + 3 = q) (kk : G X D nL ws lv q (.int v :: st)) : G X D nL ws lv pc (st) := by
  obtain ⟨p, l, e, R, s, m, args, below, meth, c, Q, A, k0, n0⟩ := X
  obtain ⟨hx, hb, hml, hown, hts, hK, hA, hN, hR, hret, hk0, hn0⟩ := hC
  subst hq
  exact fun H locs ls hP hD hS hl => lv_ldcw hx hb hown (hts _ hm) hdg (kk H locs ls hP hD hS hl)
theorem g_aload_nN (hC : Cx X cc nL own Ts D tys rm ret) {k : Fin 4} {i : Nat} (hdg : decode cc pc = .ok (.aload_n k, 1)) (hi : (k : Nat) = i) (j : Nat) (hj : lv[j]? = some (i, .null)) (hq : pc + 1 = q) (kk : G X D nL ws lv q (.null :: st)) : G X D nL ws lv pc (st) := by
  obtain ⟨p, l, e, R, s, m, args, below, meth, c, Q, A, k0, n0⟩ := X
  obtain ⟨hx, hb, hml, hown, hts, hK, hA, hN, hR, hret, hk0, hn0⟩ := hC
  subst hq
  exact fun H locs ls hP hD hS hl => lv_aload_nN hx hb hdg hi (lv_at hl j hj) (kk H locs ls hP hD hS hl)
theorem g_aloadN (hC : Cx X cc nL own Ts D tys rm ret) {i : Nat} (hdg : decode cc pc = .ok (.aload i, 2)) (j : Nat) (hj : lv[j]? = some (i, .null)) (hq : pc + 2 = q) (kk : G X D nL ws lv q (.null :: st)) : G X D nL ws lv pc (st) := by
  obtain ⟨p, l, e, R, s, m, args, below, meth, c, Q, A, k0, n0⟩ := X
  obtain ⟨hx, hb, hml, hown, hts, hK, hA, hN, hR, hret, hk0, hn0⟩ := hC
  subst hq
  exact fun H locs ls hP hD hS hl => lv_aloadN hx hb hdg (lv_at hl j hj) (kk H locs ls hP hD hS hl)
theorem g_astore_nN (hC : Cx X cc nL own Ts D tys rm ret) {k : Fin 4} {i : Nat} (hdg : decode cc pc = .ok (.astore_n k, 1)) (hi : (k : Nat) = i) (hn : i < nL) (hl2 : (i, Value.null) :: lv.filter (fun q => !(q.1 == i) && !(q.1 + 1 == i && q.2.category == 2)) = lv') (hq : pc + 1 = q) (kk : G X D nL ws lv' q st) : G X D nL ws lv pc (.null :: st) := by
  obtain ⟨p, l, e, R, s, m, args, below, meth, c, Q, A, k0, n0⟩ := X
  obtain ⟨hx, hb, hml, hown, hts, hK, hA, hN, hR, hret, hk0, hn0⟩ := hC
  subst hq
  exact fun H locs ls hP hD hS hl => lv_astore_nN hx hb hdg hi hl hn hl2 (fun ls2 hl => kk H locs ls2 hP hD hS hl)
theorem g_astoreN (hC : Cx X cc nL own Ts D tys rm ret) {i : Nat} (hdg : decode cc pc = .ok (.astore i, 2)) (hn : i < nL) (hl2 : (i, Value.null) :: lv.filter (fun q => !(q.1 == i) && !(q.1 + 1 == i && q.2.category == 2)) = lv') (hq : pc + 2 = q) (kk : G X D nL ws lv' q st) : G X D nL ws lv pc (.null :: st) := by
  obtain ⟨p, l, e, R, s, m, args, below, meth, c, Q, A, k0, n0⟩ := X
  obtain ⟨hx, hb, hml, hown, hts, hK, hA, hN, hR, hret, hk0, hn0⟩ := hC
  subst hq
  exact fun H locs ls hP hD hS hl => lv_astoreN hx hb hdg hl hn hl2 (fun ls2 hl => kk H locs ls2 hP hD hS hl)
theorem g_iret (hC : Cx X cc nL own Ts D tys rm ret) {R1 : Option Value} {w1 : va_W} (hX : Rx X D R1 w1) {v : Int32} (hret1 : ret = some .int) (hdg : decode cc pc = .ok (.ireturn, 1)) (h1 : R1 = some (.int v)) (h2 : w1 = ws) : G X D nL ws lv pc [.int v] := by
  obtain ⟨p, l, e, R, s, m, args, below, meth, c, Q, A, k0, n0⟩ := X
  obtain ⟨hx, hb, hml, hown, hts, hK, hA, hN, hR, hret, hk0, hn0⟩ := hC
  obtain ⟨hQ, hlocks, e1, e2⟩ := hX
  subst hQ
  subst e1
  subst e2
  subst hret1
  subst h1
  subst h2
  exact fun H locs ls hP hD hS hl => W.iret (v := v) hx hb hret (fun t ht hW => ⟨⟨rfl, by rw [ht]; exact hP, hD⟩, hS.F ht⟩) hS.2.2 hdg hlocks
theorem g_lret (hC : Cx X cc nL own Ts D tys rm ret) {R1 : Option Value} {w1 : va_W} (hX : Rx X D R1 w1) {v : Int64} (hret1 : ret = some .long) (hdg : decode cc pc = .ok (.lreturn, 1)) (h1 : R1 = some (.long v)) (h2 : w1 = ws) : G X D nL ws lv pc [.long v] := by
  obtain ⟨p, l, e, R, s, m, args, below, meth, c, Q, A, k0, n0⟩ := X
  obtain ⟨hx, hb, hml, hown, hts, hK, hA, hN, hR, hret, hk0, hn0⟩ := hC
  obtain ⟨hQ, hlocks, e1, e2⟩ := hX
  subst hQ
  subst e1
  subst e2
  subst hret1
  subst h1
  subst h2
  exact fun H locs ls hP hD hS hl => W.lret (v := v) hx hb hret (fun t ht hW => ⟨⟨rfl, by rw [ht]; exact hP, hD⟩, hS.F ht⟩) hS.2.2 hdg hlocks
theorem g_zret (hC : Cx X cc nL own Ts D tys rm ret) {R1 : Option Value} {w1 : va_W} (hX : Rx X D R1 w1) {v : Int32} (hret1 : ret = some .boolean) (hn : narrow .boolean (.int v) = .int v) (hdg : decode cc pc = .ok (.ireturn, 1)) (h1 : R1 = some (.int v)) (h2 : w1 = ws) : G X D nL ws lv pc [.int v] := by
  obtain ⟨p, l, e, R, s, m, args, below, meth, c, Q, A, k0, n0⟩ := X
  obtain ⟨hx, hb, hml, hown, hts, hK, hA, hN, hR, hret, hk0, hn0⟩ := hC
  obtain ⟨hQ, hlocks, e1, e2⟩ := hX
  subst hQ
  subst e1
  subst e2
  subst hret1
  subst h1
  subst h2
  exact fun H locs ls hP hD hS hl => W.zret (v := v) hx hb hret hn (fun t ht hW => ⟨⟨rfl, by rw [ht]; exact hP, hD⟩, hS.F ht⟩) hS.2.2 hdg hlocks
theorem g_vret (hC : Cx X cc nL own Ts D tys rm ret) {R1 : Option Value} {w1 : va_W} (hX : Rx X D R1 w1) (hret1 : ret = none) (hdg : decode cc pc = .ok (.return_, 1)) (h1 : R1 = none) (h2 : w1 = ws) : G X D nL ws lv pc [] := by
  obtain ⟨p, l, e, R, s, m, args, below, meth, c, Q, A, k0, n0⟩ := X
  obtain ⟨hx, hb, hml, hown, hts, hK, hA, hN, hR, hret, hk0, hn0⟩ := hC
  obtain ⟨hQ, hlocks, e1, e2⟩ := hX
  subst hQ
  subst e1
  subst e2
  subst hret1
  subst h1
  subst h2
  exact fun H locs ls hP hD hS hl => W.vret hx hb hret (fun t ht hW => ⟨⟨rfl, by rw [ht]; exact hP, hD⟩, hS.F ht⟩) hS.2.2 hdg hlocks
theorem g_aret (hC : Cx X cc nL own Ts D tys rm ret) {R1 : Option Value} {w1 : va_W} (hX : Rx X D R1 w1) {v : Value} {n : String} (hret1 : ret = some (.object n)) (hv : v = .null ∨ ∃ a, v = .ref a) (hdg : decode cc pc = .ok (.areturn, 1)) (h1 : R1 = some v) (h2 : w1 = ws) : G X D nL ws lv pc [v] := by
  obtain ⟨p, l, e, R, s, m, args, below, meth, c, Q, A, k0, n0⟩ := X
  obtain ⟨hx, hb, hml, hown, hts, hK, hA, hN, hR, hret, hk0, hn0⟩ := hC
  obtain ⟨hQ, hlocks, e1, e2⟩ := hX
  subst hQ
  subst e1
  subst e2
  subst hret1
  subst h1
  subst h2
  exact fun H locs ls hP hD hS hl => W.aret (v := v) hx hb hret (Or.inl ⟨n, rfl⟩) hv (fun t ht hW => ⟨⟨rfl, by rw [ht]; exact hP, hD⟩, hS.F ht⟩) hS.2.2 hdg hlocks
def g_chk (isC isR perm : List Nat) (n k : Nat) : Bool := isC.all (fun i => decide (i < n)) && isR.all (fun i => decide (i < n)) && va_nd isR && isR.all (fun i => !isC.contains i) && perm.all (fun i => decide (i < isR.length + k)) && va_nd perm
theorem g_fm {w : va_W} {is : List Nat} (h : is.all (fun i => decide (i < w.length)) = true) : is.map (fun i => w[i]?) = (is.filterMap (fun i => w[i]?)).map some ∧ (is.filterMap (fun i => w[i]?)).length = is.length := by
  induction is with
  | nil => exact ⟨rfl, rfl⟩
  | cons a t ih =>
    simp only [List.all_cons, Bool.and_eq_true, decide_eq_true_eq] at h
    have e : w[a]? = some w[a] := List.getElem?_eq_getElem h.1
    simp only [List.map_cons, List.filterMap_cons, e, List.length_cons, (ih h.2).2, and_true]
    rw [(ih h.2).1]
theorem g_join {p : Program} {l : Launch} {e : Env} {R : Room} {s : State} {m : MethodId} {args : Array Value} {below : List Frame} {meth : Method} {c : Code} {H : Heap} {locs : List Loc} {k n : Nat} {Q : State → Prop} {A : Nat → Prop} {ls : Array Slot} {rest st0 : List Value} {a : Array Value} {wc w1 : va_W} {R1 : Option Value}
    (hr : va_Run p l e R s m args below meth c H locs k n 0 0 (F0 m pc ls st0) rest (QB D R1 w1 (va_A wc H.size) a) (va_A wc H.size)) (hP : va_P D vwCl ws H) (hD : va_D A ws) (hS : va_S A s.heap H locs) (hA : ∀ q : Nat, s.heap.size ≤ q → A q) (hl : lv_has ls nL lv)
    (isC isR perm : List Nat) (hC : isC.filterMap (fun i => ws[i]?) = wc) (hn : g_chk isC isR perm ws.length w1.length = true) (hp : perm.filterMap (fun i => (isR.filterMap (fun i => ws[i]?) ++ w1)[i]?) = ws')
    (kk : G (p, l, e, R, s, m, args, below, meth, c, Q, A, k, n) D nL ws' lv (pc + 3) (R1.toList ++ rest)) : W p l e R s m args below meth c H locs k n Q (F0 m pc ls st0) := by
  simp only [g_chk, Bool.and_eq_true] at hn
  obtain ⟨⟨⟨⟨⟨n1, n2⟩, n3⟩, n4⟩, n5⟩, n6⟩ := hn
  have hCm : isC.map (fun i => ws[i]?) = wc.map some := by rw [← hC]; exact (g_fm n1).1
  obtain ⟨hRm, hRl⟩ := g_fm n2
  have hF := va_free hD hS hA isC hCm
  have n4' : ∀ i ∈ isR, i ∉ isC := by
    intro i hi hc
    have := List.all_eq_true.mp n4 i hi
    simp only [Bool.not_eq_true', List.contains_eq_mem, decide_eq_false_iff_not] at this
    exact this hc
  intro T hT X
  obtain ⟨v, st₀, t, T', L, h0, X', hL, e1, e2, ⟨⟨hv, hP1, hD1⟩, hz, hk⟩, st⟩ := hr T hT X
  cases hv
  rw [h0] at hz hk
  obtain ⟨hPj, hDj⟩ := va_join (H1 := T'.heap) hP hD isC isR hCm hRm n3 n4' (fun q h1 h2 => by rw [e1]; exact hk q h1 h2) hF (by rw [e1]; exact hP1) hD1
  have n5' : perm.all (fun i => decide (i < (isR.filterMap (fun i => ws[i]?) ++ w1).length)) = true := by
    rw [List.length_append, hRl]; exact n5
  have hP2 := hPj.sub perm hp
  have hD2 := hDj.sub (ws' := ws') perm n6 (by rw [← hp]; exact (g_fm n5').1)
  have hS1 : va_S A s.heap T'.heap (locs ++ L) := ⟨Nat.le_trans hS.1 (by rw [e1]; exact hz), fun q h1 h2 => by rw [e1, hk q (Nat.lt_of_lt_of_le h1 hS.1) (fun z => h2 (hF q z))]; exact hS.2.1 q h1 h2, fun q hq => by
      rcases List.mem_append.mp hq with h | h
      · exact hS.2.2 q h
      · exact hF _ (hL q h)⟩
  obtain ⟨t2, a1, b1⟩ := kk T'.heap (locs ++ L) ls hP2 hD2 hS1 hl T' rfl X'
  exact ⟨t2, st t2 a1, b1⟩
theorem g_pre {D : va_G} {tys tysC : List (ClassId × FieldType)} {s : State} {H : Heap} {A : Nat → Prop} {as : List Value} {ws wc : va_W} (isC isT : List Nat) (hC : isC.filterMap (fun i => ws[i]?) = wc) (hn : isC.all (fun i => decide (i < ws.length)) = true) (hnd : va_nd isC = true) (hT : isT.filterMap (fun i => tys[i]?) = tysC) (hP : va_P D vwCl ws H) (hD : va_D A ws) (hK : va_K D vwCl tys s) (hN : NW s) : ∀ U : State, U.heap = H → s.WarmedH U.vm → PB D tysC as wc H.size as.toArray U := by
  intro U hU hW
  refine ⟨rfl, by rw [hU], by rw [hU]; exact hP.sub isC hC, va_K.moved hW.alike (hK.sub isT hT), ?_, NW_warm hW hN⟩
  refine va_D.weaken (hD.sub (ws' := wc) isC hnd ?_) (fun _ _ _ _ => trivial)
  rw [← hC]
  exact (g_fm hn).1
theorem g_callV (hC : Cx X cc nL own Ts D tys rm ret) {st' : List Value} {y : MethodName} {wsy wsy' : List Cond} {rmy : Room} {tysC : List (ClassId × FieldType)} {As rest : List Value} {wc w1 : va_W} {R1 : Option Value} {index maxL n nw n1 : Nat} {bytes : ByteArray} {rt : Option FieldType} {C : String} {T : u_T} {N ci b : Nat} {fs : List Value} (hG : GoodIn Ts (wsV own index C y wsy)) (hd : y.cls = C ∧ y.cls ≠ "java/lang/invoke/MethodHandle" ∧ y.cls ≠ "java/lang/invoke/VarHandle" ∧ (parseMethodDescriptor y.desc).map (fun d => d.parameters.length) = some n) (q0 : Nat) (he : ws[q0]? = some (b, .inr (ci, fs))) (hc : vwCl[ci]? = some (C, T, N)) (hM : MC y wsy rmy D tysC (.ref b :: As) wc R1 w1) (hw : wsy = Cond.code y bytes maxL rt :: wsy') (hRm : rmy.frames + 1 ≤ rm.frames ∧ 8 + (maxL + 11) + rmy.locals ≤ rm.locals) (hn : As.length = n) (isC isR perm isT : List Nat) (hCw : isC.filterMap (fun i => ws[i]?) = wc) (hT : isT.filterMap (fun i => tys[i]?) = tysC) (hnw : ws.length = nw) (hn1 : w1.length = n1) (hchk : (g_chk isC isR perm nw n1 && va_nd isC) = true) (hp : perm.filterMap (fun i => (isR.filterMap (fun i => ws[i]?) ++ w1)[i]?) = ws') (hst : st = As.reverse ++ .ref b :: rest) (h8 : (rest.map fun v => v.category).sum ≤ 8) (hdg : decode cc pc = .ok (.invokevirtual index, 3)) (hq : pc + 3 = q) (hst2 : R1.toList ++ rest = st') (kk : G X D nL ws' lv q st') : G X D nL ws lv pc st := by
  obtain ⟨p, l, e, R, s, m, args, below, meth, c, Q, A, k0, n0⟩ := X
  obtain ⟨hx, hb, hml, hown, hts, hK, hA, hN, hR, hret, hk0, hn0⟩ := hC
  subst hq
  subst hR
  subst hst2
  subst hnw
  subst hn1
  simp only [Bool.and_eq_true] at hchk
  obtain ⟨hchk, hndC⟩ := hchk
  have hall : isC.all (fun i => decide (i < ws.length)) = true := by
    simp only [g_chk, Bool.and_eq_true] at hchk
    exact hchk.1.1.1.1.1
  intro H locs ls hP hD hS hl
  refine g_join (wc := wc) (R1 := R1) (w1 := w1) (rest := rest) (a := (Value.ref b :: As).toArray) ?_ hP hD hS hA hl isC isR perm hCw hchk hp kk
  exact va_runV ⟨hx, hb, hml, hown, hts⟩ (hM.2.2 l H.size) (cwV n hts hG hw hM.1 hM.2.1 hd hRm) ⟨PB_blind, va_recv hK hP hc he, g_pre isC isT hCw hall hndC hT hP hD hK hN⟩ rfl hn hl.1 hst (lv_room h8) hdg ⟨by show k0 + 0 ≤ _; exact hk0, by show n0 + 0 ≤ _; exact hn0⟩
theorem g_callS (hC : Cx X cc nL own Ts D tys rm ret) {st' : List Value} {y : MethodName} {wsy wsy' : List Cond} {rmy : Room} {tysC : List (ClassId × FieldType)} {As rest : List Value} {wc w1 : va_W} {R1 : Option Value} {index maxL n nw n1 : Nat} {bytes : ByteArray} {rt : Option FieldType} (hG : GoodIn Ts (va_wsS own index y wsy)) (hd : y.cls ≠ "java/lang/invoke/MethodHandle" ∧ y.cls ≠ "java/lang/invoke/VarHandle" ∧ (parseMethodDescriptor y.desc).map (fun d => d.parameters.length) = some n) (hM : MC y wsy rmy D tysC As wc R1 w1) (hw : wsy = Cond.code y bytes maxL rt :: wsy') (hRm : rmy.frames + 1 ≤ rm.frames ∧ 8 + (maxL + 11) + rmy.locals ≤ rm.locals) (hn : As.length = n) (isC isR perm isT : List Nat) (hCw : isC.filterMap (fun i => ws[i]?) = wc) (hT : isT.filterMap (fun i => tys[i]?) = tysC) (hnw : ws.length = nw) (hn1 : w1.length = n1) (hchk : (g_chk isC isR perm nw n1 && va_nd isC) = true) (hp : perm.filterMap (fun i => (isR.filterMap (fun i => ws[i]?) ++ w1)[i]?) = ws') (hst : st = As.reverse ++ rest) (h8 : (rest.map fun v => v.category).sum ≤ 8) (hdg : decode cc pc = .ok (.invokestatic index, 3)) (hq : pc + 3 = q) (hst2 : R1.toList ++ rest = st') (kk : G X D nL ws' lv q st') : G X D nL ws lv pc st := by
  obtain ⟨p, l, e, R, s, m, args, below, meth, c, Q, A, k0, n0⟩ := X
  obtain ⟨hx, hb, hml, hown, hts, hK, hA, hN, hR, hret, hk0, hn0⟩ := hC
  subst hq
  subst hR
  subst hst2
  subst hnw
  subst hn1
  simp only [Bool.and_eq_true] at hchk
  obtain ⟨hchk, hndC⟩ := hchk
  have hall : isC.all (fun i => decide (i < ws.length)) = true := by
    simp only [g_chk, Bool.and_eq_true] at hchk
    exact hchk.1.1.1.1.1
  intro H locs ls hP hD hS hl
  refine g_join (wc := wc) (R1 := R1) (w1 := w1) (rest := rest) (a := As.toArray) ?_ hP hD hS hA hl isC isR perm hCw hchk hp kk
  exact va_runS ⟨hx, hb, hml, hown, hts⟩ (hM.2.2 l H.size) (va_cwS n hts hG hw hM.1 hM.2.1 hd hRm) ⟨PB_blind, g_pre isC isT hCw hall hndC hT hP hD hK hN⟩ rfl hn hl.1 hst (lv_room h8) hdg ⟨by show k0 + 0 ≤ _; exact hk0, by show n0 + 0 ≤ _; exact hn0⟩
theorem g_callN (hC : Cx X cc nL own Ts D tys rm ret) {st' : List Value} {y : MethodName} {wsy wsy' : List Cond} {rmy : Room} {tysC : List (ClassId × FieldType)} {As rest : List Value} {wc w1 : va_W} {R1 : Option Value} {index maxL n nw n1 : Nat} {bytes : ByteArray} {rt : Option FieldType} {host : String} (hG : GoodIn Ts wsy) (hnest : (own, index, y, host) ∈ nwq) (hini : Cond.initialized y.cls ∈ Ts) (hstc : Cond.static y ∈ Ts) (hd : y.cls ≠ "java/lang/invoke/MethodHandle" ∧ y.cls ≠ "java/lang/invoke/VarHandle" ∧ (parseMethodDescriptor y.desc).map (fun d => d.parameters.length) = some n) (hM : MC y wsy rmy D tysC As wc R1 w1) (hw : wsy = Cond.code y bytes maxL rt :: wsy') (hRm : rmy.frames + 1 ≤ rm.frames ∧ 8 + (maxL + 11) + rmy.locals ≤ rm.locals) (hn : As.length = n) (isC isR perm isT : List Nat) (hCw : isC.filterMap (fun i => ws[i]?) = wc) (hT : isT.filterMap (fun i => tys[i]?) = tysC) (hnw : ws.length = nw) (hn1 : w1.length = n1) (hchk : (g_chk isC isR perm nw n1 && va_nd isC) = true) (hp : perm.filterMap (fun i => (isR.filterMap (fun i => ws[i]?) ++ w1)[i]?) = ws') (hst : st = As.reverse ++ rest) (h8 : (rest.map fun v => v.category).sum ≤ 8) (hdg : decode cc pc = .ok (.invokestatic index, 3)) (hq : pc + 3 = q) (hst2 : R1.toList ++ rest = st') (kk : G X D nL ws' lv q st') : G X D nL ws lv pc st := by
  obtain ⟨p, l, e, R, s, m, args, below, meth, c, Q, A, k0, n0⟩ := X
  obtain ⟨hx, hb, hml, hown, hts, hK, hA, hN, hR, hret, hk0, hn0⟩ := hC
  subst hq
  subst hR
  subst hst2
  subst hnw
  subst hn1
  simp only [Bool.and_eq_true] at hchk
  obtain ⟨hchk, hndC⟩ := hchk
  have hall : isC.all (fun i => decide (i < ws.length)) = true := by
    simp only [g_chk, Bool.and_eq_true] at hchk
    exact hchk.1.1.1.1.1
  intro H locs ls hP hD hS hl
  refine g_join (wc := wc) (R1 := R1) (w1 := w1) (rest := rest) (a := As.toArray) ?_ hP hD hS hA hl isC isR perm hCw hchk hp kk
  exact va_runSN ⟨hx, hb, hml, hown, hts⟩ (hM.2.2 l H.size) ⟨va_cnB n hts hG hw hM.1 hM.2.1 (hN _ hnest) (hts _ hini) hd hRm, hts _ hstc, trivial⟩ ⟨PB_blind, g_pre isC isT hCw hall hndC hT hP hD hK hN⟩ rfl hn hl.1 hst (lv_room h8) hdg ⟨by show k0 + 0 ≤ _; exact hk0, by show n0 + 0 ≤ _; exact hn0⟩
end GR
theorem hdS_yJ6_bitCount_0f7a4 : yJ6_bitCount_0f7a4.cls ≠ "java/lang/invoke/MethodHandle" ∧ yJ6_bitCount_0f7a4.cls ≠ "java/lang/invoke/VarHandle" ∧ (parseMethodDescriptor yJ6_bitCount_0f7a4.desc).map (fun d => d.parameters.length) = some 1 := by decide +kernel
theorem hdS_yJ7_fill_53178 : yJ7_fill_53178.cls ≠ "java/lang/invoke/MethodHandle" ∧ yJ7_fill_53178.cls ≠ "java/lang/invoke/VarHandle" ∧ (parseMethodDescriptor yJ7_fill_53178.desc).map (fun d => d.parameters.length) = some 2 := by decide +kernel
theorem hdS_yX0_init : yX0_init.cls ≠ "java/lang/invoke/MethodHandle" ∧ yX0_init.cls ≠ "java/lang/invoke/VarHandle" ∧ (parseMethodDescriptor yX0_init.desc).map (fun d => d.parameters.length) = some 0 := by decide +kernel
theorem hdS_yX1_init : yX1_init.cls ≠ "java/lang/invoke/MethodHandle" ∧ yX1_init.cls ≠ "java/lang/invoke/VarHandle" ∧ (parseMethodDescriptor yX1_init.desc).map (fun d => d.parameters.length) = some 0 := by decide +kernel
theorem hdS_yX2_init : yX2_init.cls ≠ "java/lang/invoke/MethodHandle" ∧ yX2_init.cls ≠ "java/lang/invoke/VarHandle" ∧ (parseMethodDescriptor yX2_init.desc).map (fun d => d.parameters.length) = some 0 := by decide +kernel
theorem hdS_yX3_init : yX3_init.cls ≠ "java/lang/invoke/MethodHandle" ∧ yX3_init.cls ≠ "java/lang/invoke/VarHandle" ∧ (parseMethodDescriptor yX3_init.desc).map (fun d => d.parameters.length) = some 0 := by decide +kernel
theorem hdS_yX3_kindOfLetter : yX3_kindOfLetter.cls ≠ "java/lang/invoke/MethodHandle" ∧ yX3_kindOfLetter.cls ≠ "java/lang/invoke/VarHandle" ∧ (parseMethodDescriptor yX3_kindOfLetter.desc).map (fun d => d.parameters.length) = some 1 := by decide +kernel
theorem hdS_yX4_init : yX4_init.cls ≠ "java/lang/invoke/MethodHandle" ∧ yX4_init.cls ≠ "java/lang/invoke/VarHandle" ∧ (parseMethodDescriptor yX4_init.desc).map (fun d => d.parameters.length) = some 0 := by decide +kernel
theorem hdS_yX5_init : yX5_init.cls ≠ "java/lang/invoke/MethodHandle" ∧ yX5_init.cls ≠ "java/lang/invoke/VarHandle" ∧ (parseMethodDescriptor yX5_init.desc).map (fun d => d.parameters.length) = some 0 := by decide +kernel
theorem hdS_yX6_init : yX6_init.cls ≠ "java/lang/invoke/MethodHandle" ∧ yX6_init.cls ≠ "java/lang/invoke/VarHandle" ∧ (parseMethodDescriptor yX6_init.desc).map (fun d => d.parameters.length) = some 0 := by decide +kernel
theorem hdS_yX6_isAsked : yX6_isAsked.cls ≠ "java/lang/invoke/MethodHandle" ∧ yX6_isAsked.cls ≠ "java/lang/invoke/VarHandle" ∧ (parseMethodDescriptor yX6_isAsked.desc).map (fun d => d.parameters.length) = some 1 := by decide +kernel
theorem hdS_yX7_at : yX7_at.cls ≠ "java/lang/invoke/MethodHandle" ∧ yX7_at.cls ≠ "java/lang/invoke/VarHandle" ∧ (parseMethodDescriptor yX7_at.desc).map (fun d => d.parameters.length) = some 2 := by decide +kernel
theorem hdS_yX7_exchange : yX7_exchange.cls ≠ "java/lang/invoke/MethodHandle" ∧ yX7_exchange.cls ≠ "java/lang/invoke/VarHandle" ∧ (parseMethodDescriptor yX7_exchange.desc).map (fun d => d.parameters.length) = some 3 := by decide +kernel
theorem hdS_yX7_init : yX7_init.cls ≠ "java/lang/invoke/MethodHandle" ∧ yX7_init.cls ≠ "java/lang/invoke/VarHandle" ∧ (parseMethodDescriptor yX7_init.desc).map (fun d => d.parameters.length) = some 0 := by decide +kernel
theorem hdS_yX7_isBelow : yX7_isBelow.cls ≠ "java/lang/invoke/MethodHandle" ∧ yX7_isBelow.cls ≠ "java/lang/invoke/VarHandle" ∧ (parseMethodDescriptor yX7_isBelow.desc).map (fun d => d.parameters.length) = some 2 := by decide +kernel
theorem hdS_yX7_set : yX7_set.cls ≠ "java/lang/invoke/MethodHandle" ∧ yX7_set.cls ≠ "java/lang/invoke/VarHandle" ∧ (parseMethodDescriptor yX7_set.desc).map (fun d => d.parameters.length) = some 3 := by decide +kernel
theorem hdS_yX8_bits : yX8_bits.cls ≠ "java/lang/invoke/MethodHandle" ∧ yX8_bits.cls ≠ "java/lang/invoke/VarHandle" ∧ (parseMethodDescriptor yX8_bits.desc).map (fun d => d.parameters.length) = some 1 := by decide +kernel
theorem hdS_yX8_in : yX8_in.cls ≠ "java/lang/invoke/MethodHandle" ∧ yX8_in.cls ≠ "java/lang/invoke/VarHandle" ∧ (parseMethodDescriptor yX8_in.desc).map (fun d => d.parameters.length) = some 3 := by decide +kernel
theorem hdS_yX8_init : yX8_init.cls ≠ "java/lang/invoke/MethodHandle" ∧ yX8_init.cls ≠ "java/lang/invoke/VarHandle" ∧ (parseMethodDescriptor yX8_init.desc).map (fun d => d.parameters.length) = some 0 := by decide +kernel
theorem hdS_yX8_isBeyond : yX8_isBeyond.cls ≠ "java/lang/invoke/MethodHandle" ∧ yX8_isBeyond.cls ≠ "java/lang/invoke/VarHandle" ∧ (parseMethodDescriptor yX8_isBeyond.desc).map (fun d => d.parameters.length) = some 3 := by decide +kernel
theorem hdS_yX8_isIn : yX8_isIn.cls ≠ "java/lang/invoke/MethodHandle" ∧ yX8_isIn.cls ≠ "java/lang/invoke/VarHandle" ∧ (parseMethodDescriptor yX8_isIn.desc).map (fun d => d.parameters.length) = some 2 := by decide +kernel
theorem hdS_yX8_lost : yX8_lost.cls ≠ "java/lang/invoke/MethodHandle" ∧ yX8_lost.cls ≠ "java/lang/invoke/VarHandle" ∧ (parseMethodDescriptor yX8_lost.desc).map (fun d => d.parameters.length) = some 0 := by decide +kernel
theorem hdS_yX8_noSheet : yX8_noSheet.cls ≠ "java/lang/invoke/MethodHandle" ∧ yX8_noSheet.cls ≠ "java/lang/invoke/VarHandle" ∧ (parseMethodDescriptor yX8_noSheet.desc).map (fun d => d.parameters.length) = some 1 := by decide +kernel
theorem hdS_yX8_noWeeper : yX8_noWeeper.cls ≠ "java/lang/invoke/MethodHandle" ∧ yX8_noWeeper.cls ≠ "java/lang/invoke/VarHandle" ∧ (parseMethodDescriptor yX8_noWeeper.desc).map (fun d => d.parameters.length) = some 1 := by decide +kernel
theorem hdS_yX8_share : yX8_share.cls ≠ "java/lang/invoke/MethodHandle" ∧ yX8_share.cls ≠ "java/lang/invoke/VarHandle" ∧ (parseMethodDescriptor yX8_share.desc).map (fun d => d.parameters.length) = some 3 := by decide +kernel
theorem hdS_yX8_wept : yX8_wept.cls ≠ "java/lang/invoke/MethodHandle" ∧ yX8_wept.cls ≠ "java/lang/invoke/VarHandle" ∧ (parseMethodDescriptor yX8_wept.desc).map (fun d => d.parameters.length) = some 1 := by decide +kernel
theorem hdV_yX0_bestOffice : yX0_bestOffice.cls = RX0 ∧ yX0_bestOffice.cls ≠ "java/lang/invoke/MethodHandle" ∧ yX0_bestOffice.cls ≠ "java/lang/invoke/VarHandle" ∧ (parseMethodDescriptor yX0_bestOffice.desc).map (fun d => d.parameters.length) = some 2 := by decide +kernel
theorem hdV_yX0_canAllBeKept : yX0_canAllBeKept.cls = RX0 ∧ yX0_canAllBeKept.cls ≠ "java/lang/invoke/MethodHandle" ∧ yX0_canAllBeKept.cls ≠ "java/lang/invoke/VarHandle" ∧ (parseMethodDescriptor yX0_canAllBeKept.desc).map (fun d => d.parameters.length) = some 2 := by decide +kernel
theorem hdV_yX0_dryAndStayLaw : yX0_dryAndStayLaw.cls = RX0 ∧ yX0_dryAndStayLaw.cls ≠ "java/lang/invoke/MethodHandle" ∧ yX0_dryAndStayLaw.cls ≠ "java/lang/invoke/VarHandle" ∧ (parseMethodDescriptor yX0_dryAndStayLaw.desc).map (fun d => d.parameters.length) = some 1 := by decide +kernel
theorem hdV_yX0_fewestActs : yX0_fewestActs.cls = RX0 ∧ yX0_fewestActs.cls ≠ "java/lang/invoke/MethodHandle" ∧ yX0_fewestActs.cls ≠ "java/lang/invoke/VarHandle" ∧ (parseMethodDescriptor yX0_fewestActs.desc).map (fun d => d.parameters.length) = some 2 := by decide +kernel
theorem hdV_yX0_largestSet : yX0_largestSet.cls = RX0 ∧ yX0_largestSet.cls ≠ "java/lang/invoke/MethodHandle" ∧ yX0_largestSet.cls ≠ "java/lang/invoke/VarHandle" ∧ (parseMethodDescriptor yX0_largestSet.desc).map (fun d => d.parameters.length) = some 1 := by decide +kernel
theorem hdV_yX0_weepAsOneLikes : yX0_weepAsOneLikes.cls = RX0 ∧ yX0_weepAsOneLikes.cls ≠ "java/lang/invoke/MethodHandle" ∧ yX0_weepAsOneLikes.cls ≠ "java/lang/invoke/VarHandle" ∧ (parseMethodDescriptor yX0_weepAsOneLikes.desc).map (fun d => d.parameters.length) = some 0 := by decide +kernel
theorem hdV_yX1_append : yX1_append.cls = RX1 ∧ yX1_append.cls ≠ "java/lang/invoke/MethodHandle" ∧ yX1_append.cls ≠ "java/lang/invoke/VarHandle" ∧ (parseMethodDescriptor yX1_append.desc).map (fun d => d.parameters.length) = some 3 := by decide +kernel
theorem hdV_yX1_areSo : yX1_areSo.cls = RX1 ∧ yX1_areSo.cls ≠ "java/lang/invoke/MethodHandle" ∧ yX1_areSo.cls ≠ "java/lang/invoke/VarHandle" ∧ (parseMethodDescriptor yX1_areSo.desc).map (fun d => d.parameters.length) = some 1 := by decide +kernel
theorem hdV_yX1_fitting : yX1_fitting.cls = RX1 ∧ yX1_fitting.cls ≠ "java/lang/invoke/MethodHandle" ∧ yX1_fitting.cls ≠ "java/lang/invoke/VarHandle" ∧ (parseMethodDescriptor yX1_fitting.desc).map (fun d => d.parameters.length) = some 4 := by decide +kernel
theorem hdV_yX2_allSorrow : yX2_allSorrow.cls = RX2 ∧ yX2_allSorrow.cls ≠ "java/lang/invoke/MethodHandle" ∧ yX2_allSorrow.cls ≠ "java/lang/invoke/VarHandle" ∧ (parseMethodDescriptor yX2_allSorrow.desc).map (fun d => d.parameters.length) = some 0 := by decide +kernel
theorem hdV_yX2_dampBehind : yX2_dampBehind.cls = RX2 ∧ yX2_dampBehind.cls ≠ "java/lang/invoke/MethodHandle" ∧ yX2_dampBehind.cls ≠ "java/lang/invoke/VarHandle" ∧ (parseMethodDescriptor yX2_dampBehind.desc).map (fun d => d.parameters.length) = some 2 := by decide +kernel
theorem hdV_yX2_dampOnCoolDays : yX2_dampOnCoolDays.cls = RX2 ∧ yX2_dampOnCoolDays.cls ≠ "java/lang/invoke/MethodHandle" ∧ yX2_dampOnCoolDays.cls ≠ "java/lang/invoke/VarHandle" ∧ (parseMethodDescriptor yX2_dampOnCoolDays.desc).map (fun d => d.parameters.length) = some 3 := by decide +kernel
theorem hdV_yX2_drying : yX2_drying.cls = RX2 ∧ yX2_drying.cls ≠ "java/lang/invoke/MethodHandle" ∧ yX2_drying.cls ≠ "java/lang/invoke/VarHandle" ∧ (parseMethodDescriptor yX2_drying.desc).map (fun d => d.parameters.length) = some 2 := by decide +kernel
theorem hdV_yX2_dryingBy : yX2_dryingBy.cls = RX2 ∧ yX2_dryingBy.cls ≠ "java/lang/invoke/MethodHandle" ∧ yX2_dryingBy.cls ≠ "java/lang/invoke/VarHandle" ∧ (parseMethodDescriptor yX2_dryingBy.desc).map (fun d => d.parameters.length) = some 2 := by decide +kernel
theorem hdV_yX2_hasDay : yX2_hasDay.cls = RX2 ∧ yX2_hasDay.cls ≠ "java/lang/invoke/MethodHandle" ∧ yX2_hasDay.cls ≠ "java/lang/invoke/VarHandle" ∧ (parseMethodDescriptor yX2_hasDay.desc).map (fun d => d.parameters.length) = some 1 := by decide +kernel
theorem hdV_yX2_hasEvenings : yX2_hasEvenings.cls = RX2 ∧ yX2_hasEvenings.cls ≠ "java/lang/invoke/MethodHandle" ∧ yX2_hasEvenings.cls ≠ "java/lang/invoke/VarHandle" ∧ (parseMethodDescriptor yX2_hasEvenings.desc).map (fun d => d.parameters.length) = some 1 := by decide +kernel
theorem hdV_yX2_hasLinen : yX2_hasLinen.cls = RX2 ∧ yX2_hasLinen.cls ≠ "java/lang/invoke/MethodHandle" ∧ yX2_hasLinen.cls ≠ "java/lang/invoke/VarHandle" ∧ (parseMethodDescriptor yX2_hasLinen.desc).map (fun d => d.parameters.length) = some 1 := by decide +kernel
theorem hdV_yX2_lawsBehind : yX2_lawsBehind.cls = RX2 ∧ yX2_lawsBehind.cls ≠ "java/lang/invoke/MethodHandle" ∧ yX2_lawsBehind.cls ≠ "java/lang/invoke/VarHandle" ∧ (parseMethodDescriptor yX2_lawsBehind.desc).map (fun d => d.parameters.length) = some 1 := by decide +kernel
theorem hdV_yX2_mostHeat : yX2_mostHeat.cls = RX2 ∧ yX2_mostHeat.cls ≠ "java/lang/invoke/MethodHandle" ∧ yX2_mostHeat.cls ≠ "java/lang/invoke/VarHandle" ∧ (parseMethodDescriptor yX2_mostHeat.desc).map (fun d => d.parameters.length) = some 2 := by decide +kernel
theorem hdV_yX2_stands : yX2_stands.cls = RX2 ∧ yX2_stands.cls ≠ "java/lang/invoke/MethodHandle" ∧ yX2_stands.cls ≠ "java/lang/invoke/VarHandle" ∧ (parseMethodDescriptor yX2_stands.desc).map (fun d => d.parameters.length) = some 0 := by decide +kernel
theorem hdV_yX2_waysToBeLaw : yX2_waysToBeLaw.cls = RX2 ∧ yX2_waysToBeLaw.cls ≠ "java/lang/invoke/MethodHandle" ∧ yX2_waysToBeLaw.cls ≠ "java/lang/invoke/VarHandle" ∧ (parseMethodDescriptor yX2_waysToBeLaw.desc).map (fun d => d.parameters.length) = some 1 := by decide +kernel
theorem hdV_yX3_codeAt : yX3_codeAt.cls = RX3 ∧ yX3_codeAt.cls ≠ "java/lang/invoke/MethodHandle" ∧ yX3_codeAt.cls ≠ "java/lang/invoke/VarHandle" ∧ (parseMethodDescriptor yX3_codeAt.desc).map (fun d => d.parameters.length) = some 1 := by decide +kernel
theorem hdV_yX3_digitAt : yX3_digitAt.cls = RX3 ∧ yX3_digitAt.cls ≠ "java/lang/invoke/MethodHandle" ∧ yX3_digitAt.cls ≠ "java/lang/invoke/VarHandle" ∧ (parseMethodDescriptor yX3_digitAt.desc).map (fun d => d.parameters.length) = some 1 := by decide +kernel
theorem hdV_yX3_fill : yX3_fill.cls = RX3 ∧ yX3_fill.cls ≠ "java/lang/invoke/MethodHandle" ∧ yX3_fill.cls ≠ "java/lang/invoke/VarHandle" ∧ (parseMethodDescriptor yX3_fill.desc).map (fun d => d.parameters.length) = some 1 := by decide +kernel
theorem hdV_yX3_firstFault : yX3_firstFault.cls = RX3 ∧ yX3_firstFault.cls ≠ "java/lang/invoke/MethodHandle" ∧ yX3_firstFault.cls ≠ "java/lang/invoke/VarHandle" ∧ (parseMethodDescriptor yX3_firstFault.desc).map (fun d => d.parameters.length) = some 3 := by decide +kernel
theorem hdV_yX3_firstFaultOfLinens : yX3_firstFaultOfLinens.cls = RX3 ∧ yX3_firstFaultOfLinens.cls ≠ "java/lang/invoke/MethodHandle" ∧ yX3_firstFaultOfLinens.cls ≠ "java/lang/invoke/VarHandle" ∧ (parseMethodDescriptor yX3_firstFaultOfLinens.desc).map (fun d => d.parameters.length) = some 0 := by decide +kernel
theorem hdV_yX3_hasDigit : yX3_hasDigit.cls = RX3 ∧ yX3_hasDigit.cls ≠ "java/lang/invoke/MethodHandle" ∧ yX3_hasDigit.cls ≠ "java/lang/invoke/VarHandle" ∧ (parseMethodDescriptor yX3_hasDigit.desc).map (fun d => d.parameters.length) = some 2 := by decide +kernel
theorem hdV_yX3_linenPlace : yX3_linenPlace.cls = RX3 ∧ yX3_linenPlace.cls ≠ "java/lang/invoke/MethodHandle" ∧ yX3_linenPlace.cls ≠ "java/lang/invoke/VarHandle" ∧ (parseMethodDescriptor yX3_linenPlace.desc).map (fun d => d.parameters.length) = some 1 := by decide +kernel
theorem hdV_yX4_cut : yX4_cut.cls = RX4 ∧ yX4_cut.cls ≠ "java/lang/invoke/MethodHandle" ∧ yX4_cut.cls ≠ "java/lang/invoke/VarHandle" ∧ (parseMethodDescriptor yX4_cut.desc).map (fun d => d.parameters.length) = some 1 := by decide +kernel
theorem hdV_yX4_faultOfCells : yX4_faultOfCells.cls = RX4 ∧ yX4_faultOfCells.cls ≠ "java/lang/invoke/MethodHandle" ∧ yX4_faultOfCells.cls ≠ "java/lang/invoke/VarHandle" ∧ (parseMethodDescriptor yX4_faultOfCells.desc).map (fun d => d.parameters.length) = some 3 := by decide +kernel
theorem hdV_yX4_holds : yX4_holds.cls = RX4 ∧ yX4_holds.cls ≠ "java/lang/invoke/MethodHandle" ∧ yX4_holds.cls ≠ "java/lang/invoke/VarHandle" ∧ (parseMethodDescriptor yX4_holds.desc).map (fun d => d.parameters.length) = some 2 := by decide +kernel
theorem hdV_yX4_number : yX4_number.cls = RX4 ∧ yX4_number.cls ≠ "java/lang/invoke/MethodHandle" ∧ yX4_number.cls ≠ "java/lang/invoke/VarHandle" ∧ (parseMethodDescriptor yX4_number.desc).map (fun d => d.parameters.length) = some 1 := by decide +kernel
theorem hdV_yX4_renew : yX4_renew.cls = RX4 ∧ yX4_renew.cls ≠ "java/lang/invoke/MethodHandle" ∧ yX4_renew.cls ≠ "java/lang/invoke/VarHandle" ∧ (parseMethodDescriptor yX4_renew.desc).map (fun d => d.parameters.length) = some 2 := by decide +kernel
theorem hdV_yX4_store : yX4_store.cls = RX4 ∧ yX4_store.cls ≠ "java/lang/invoke/MethodHandle" ∧ yX4_store.cls ≠ "java/lang/invoke/VarHandle" ∧ (parseMethodDescriptor yX4_store.desc).map (fun d => d.parameters.length) = some 2 := by decide +kernel
theorem hdV_yX5_cambricTells : yX5_cambricTells.cls = RX5 ∧ yX5_cambricTells.cls ≠ "java/lang/invoke/MethodHandle" ∧ yX5_cambricTells.cls ≠ "java/lang/invoke/VarHandle" ∧ (parseMethodDescriptor yX5_cambricTells.desc).map (fun d => d.parameters.length) = some 1 := by decide +kernel
theorem hdV_yX5_isKnotted : yX5_isKnotted.cls = RX5 ∧ yX5_isKnotted.cls ≠ "java/lang/invoke/MethodHandle" ∧ yX5_isKnotted.cls ≠ "java/lang/invoke/VarHandle" ∧ (parseMethodDescriptor yX5_isKnotted.desc).map (fun d => d.parameters.length) = some 1 := by decide +kernel
theorem hdV_yX5_laceTells : yX5_laceTells.cls = RX5 ∧ yX5_laceTells.cls ≠ "java/lang/invoke/MethodHandle" ∧ yX5_laceTells.cls ≠ "java/lang/invoke/VarHandle" ∧ (parseMethodDescriptor yX5_laceTells.desc).map (fun d => d.parameters.length) = some 1 := by decide +kernel
theorem hdV_yX5_leave : yX5_leave.cls = RX5 ∧ yX5_leave.cls ≠ "java/lang/invoke/MethodHandle" ∧ yX5_leave.cls ≠ "java/lang/invoke/VarHandle" ∧ (parseMethodDescriptor yX5_leave.desc).map (fun d => d.parameters.length) = some 1 := by decide +kernel
theorem hdV_yX5_silkIsKnotted : yX5_silkIsKnotted.cls = RX5 ∧ yX5_silkIsKnotted.cls ≠ "java/lang/invoke/MethodHandle" ∧ yX5_silkIsKnotted.cls ≠ "java/lang/invoke/VarHandle" ∧ (parseMethodDescriptor yX5_silkIsKnotted.desc).map (fun d => d.parameters.length) = some 0 := by decide +kernel
theorem hdV_yX5_silkTells : yX5_silkTells.cls = RX5 ∧ yX5_silkTells.cls ≠ "java/lang/invoke/MethodHandle" ∧ yX5_silkTells.cls ≠ "java/lang/invoke/VarHandle" ∧ (parseMethodDescriptor yX5_silkTells.desc).map (fun d => d.parameters.length) = some 1 := by decide +kernel
theorem hdV_yX6_answer : yX6_answer.cls = RX6 ∧ yX6_answer.cls ≠ "java/lang/invoke/MethodHandle" ∧ yX6_answer.cls ≠ "java/lang/invoke/VarHandle" ∧ (parseMethodDescriptor yX6_answer.desc).map (fun d => d.parameters.length) = some 2 := by decide +kernel
theorem hdV_yX6_areActs : yX6_areActs.cls = RX6 ∧ yX6_areActs.cls ≠ "java/lang/invoke/MethodHandle" ∧ yX6_areActs.cls ≠ "java/lang/invoke/VarHandle" ∧ (parseMethodDescriptor yX6_areActs.desc).map (fun d => d.parameters.length) = some 4 := by decide +kernel
theorem hdV_yX6_begin : yX6_begin.cls = RX6 ∧ yX6_begin.cls ≠ "java/lang/invoke/MethodHandle" ∧ yX6_begin.cls ≠ "java/lang/invoke/VarHandle" ∧ (parseMethodDescriptor yX6_begin.desc).map (fun d => d.parameters.length) = some 1 := by decide +kernel
theorem hdV_yX6_eveningComes : yX6_eveningComes.cls = RX6 ∧ yX6_eveningComes.cls ≠ "java/lang/invoke/MethodHandle" ∧ yX6_eveningComes.cls ≠ "java/lang/invoke/VarHandle" ∧ (parseMethodDescriptor yX6_eveningComes.desc).map (fun d => d.parameters.length) = some 1 := by decide +kernel
theorem hdV_yX6_lawsNow : yX6_lawsNow.cls = RX6 ∧ yX6_lawsNow.cls ≠ "java/lang/invoke/MethodHandle" ∧ yX6_lawsNow.cls ≠ "java/lang/invoke/VarHandle" ∧ (parseMethodDescriptor yX6_lawsNow.desc).map (fun d => d.parameters.length) = some 1 := by decide +kernel
theorem hdV_yX6_play : yX6_play.cls = RX6 ∧ yX6_play.cls ≠ "java/lang/invoke/MethodHandle" ∧ yX6_play.cls ≠ "java/lang/invoke/VarHandle" ∧ (parseMethodDescriptor yX6_play.desc).map (fun d => d.parameters.length) = some 4 := by decide +kernel
theorem hdV_yX6_weeps : yX6_weeps.cls = RX6 ∧ yX6_weeps.cls ≠ "java/lang/invoke/MethodHandle" ∧ yX6_weeps.cls ≠ "java/lang/invoke/VarHandle" ∧ (parseMethodDescriptor yX6_weeps.desc).map (fun d => d.parameters.length) = some 3 := by decide +kernel
theorem hdV_yX7_appoint : yX7_appoint.cls = RX7 ∧ yX7_appoint.cls ≠ "java/lang/invoke/MethodHandle" ∧ yX7_appoint.cls ≠ "java/lang/invoke/VarHandle" ∧ (parseMethodDescriptor yX7_appoint.desc).map (fun d => d.parameters.length) = some 1 := by decide +kernel
theorem hdV_yX7_as : yX7_as.cls = RX7 ∧ yX7_as.cls ≠ "java/lang/invoke/MethodHandle" ∧ yX7_as.cls ≠ "java/lang/invoke/VarHandle" ∧ (parseMethodDescriptor yX7_as.desc).map (fun d => d.parameters.length) = some 2 := by decide +kernel
theorem hdV_yX7_back : yX7_back.cls = RX7 ∧ yX7_back.cls ≠ "java/lang/invoke/MethodHandle" ∧ yX7_back.cls ≠ "java/lang/invoke/VarHandle" ∧ (parseMethodDescriptor yX7_back.desc).map (fun d => d.parameters.length) = some 1 := by decide +kernel
theorem hdV_yX7_cell : yX7_cell.cls = RX7 ∧ yX7_cell.cls ≠ "java/lang/invoke/MethodHandle" ∧ yX7_cell.cls ≠ "java/lang/invoke/VarHandle" ∧ (parseMethodDescriptor yX7_cell.desc).map (fun d => d.parameters.length) = some 3 := by decide +kernel
theorem hdV_yX7_copy : yX7_copy.cls = RX7 ∧ yX7_copy.cls ≠ "java/lang/invoke/MethodHandle" ∧ yX7_copy.cls ≠ "java/lang/invoke/VarHandle" ∧ (parseMethodDescriptor yX7_copy.desc).map (fun d => d.parameters.length) = some 5 := by decide +kernel
theorem hdV_yX7_damp : yX7_damp.cls = RX7 ∧ yX7_damp.cls ≠ "java/lang/invoke/MethodHandle" ∧ yX7_damp.cls ≠ "java/lang/invoke/VarHandle" ∧ (parseMethodDescriptor yX7_damp.desc).map (fun d => d.parameters.length) = some 2 := by decide +kernel
theorem hdV_yX7_damps : yX7_damps.cls = RX7 ∧ yX7_damps.cls ≠ "java/lang/invoke/MethodHandle" ∧ yX7_damps.cls ≠ "java/lang/invoke/VarHandle" ∧ (parseMethodDescriptor yX7_damps.desc).map (fun d => d.parameters.length) = some 1 := by decide +kernel
theorem hdV_yX7_dries : yX7_dries.cls = RX7 ∧ yX7_dries.cls ≠ "java/lang/invoke/MethodHandle" ∧ yX7_dries.cls ≠ "java/lang/invoke/VarHandle" ∧ (parseMethodDescriptor yX7_dries.desc).map (fun d => d.parameters.length) = some 2 := by decide +kernel
theorem hdV_yX7_fault : yX7_fault.cls = RX7 ∧ yX7_fault.cls ≠ "java/lang/invoke/MethodHandle" ∧ yX7_fault.cls ≠ "java/lang/invoke/VarHandle" ∧ (parseMethodDescriptor yX7_fault.desc).map (fun d => d.parameters.length) = some 0 := by decide +kernel
theorem hdV_yX7_faulted : yX7_faulted.cls = RX7 ∧ yX7_faulted.cls ≠ "java/lang/invoke/MethodHandle" ∧ yX7_faulted.cls ≠ "java/lang/invoke/VarHandle" ∧ (parseMethodDescriptor yX7_faulted.desc).map (fun d => d.parameters.length) = some 1 := by decide +kernel
theorem hdV_yX7_give : yX7_give.cls = RX7 ∧ yX7_give.cls ≠ "java/lang/invoke/MethodHandle" ∧ yX7_give.cls ≠ "java/lang/invoke/VarHandle" ∧ (parseMethodDescriptor yX7_give.desc).map (fun d => d.parameters.length) = some 2 := by decide +kernel
theorem hdV_yX7_grieve : yX7_grieve.cls = RX7 ∧ yX7_grieve.cls ≠ "java/lang/invoke/MethodHandle" ∧ yX7_grieve.cls ≠ "java/lang/invoke/VarHandle" ∧ (parseMethodDescriptor yX7_grieve.desc).map (fun d => d.parameters.length) = some 2 := by decide +kernel
theorem hdV_yX7_heat : yX7_heat.cls = RX7 ∧ yX7_heat.cls ≠ "java/lang/invoke/MethodHandle" ∧ yX7_heat.cls ≠ "java/lang/invoke/VarHandle" ∧ (parseMethodDescriptor yX7_heat.desc).map (fun d => d.parameters.length) = some 1 := by decide +kernel
theorem hdV_yX7_heats : yX7_heats.cls = RX7 ∧ yX7_heats.cls ≠ "java/lang/invoke/MethodHandle" ∧ yX7_heats.cls ≠ "java/lang/invoke/VarHandle" ∧ (parseMethodDescriptor yX7_heats.desc).map (fun d => d.parameters.length) = some 1 := by decide +kernel
theorem hdV_yX7_keep : yX7_keep.cls = RX7 ∧ yX7_keep.cls ≠ "java/lang/invoke/MethodHandle" ∧ yX7_keep.cls ≠ "java/lang/invoke/VarHandle" ∧ (parseMethodDescriptor yX7_keep.desc).map (fun d => d.parameters.length) = some 0 := by decide +kernel
theorem hdV_yX7_kinds : yX7_kinds.cls = RX7 ∧ yX7_kinds.cls ≠ "java/lang/invoke/MethodHandle" ∧ yX7_kinds.cls ≠ "java/lang/invoke/VarHandle" ∧ (parseMethodDescriptor yX7_kinds.desc).map (fun d => d.parameters.length) = some 1 := by decide +kernel
theorem hdV_yX7_knot : yX7_knot.cls = RX7 ∧ yX7_knot.cls ≠ "java/lang/invoke/MethodHandle" ∧ yX7_knot.cls ≠ "java/lang/invoke/VarHandle" ∧ (parseMethodDescriptor yX7_knot.desc).map (fun d => d.parameters.length) = some 1 := by decide +kernel
theorem hdV_yX7_laws : yX7_laws.cls = RX7 ∧ yX7_laws.cls ≠ "java/lang/invoke/MethodHandle" ∧ yX7_laws.cls ≠ "java/lang/invoke/VarHandle" ∧ (parseMethodDescriptor yX7_laws.desc).map (fun d => d.parameters.length) = some 1 := by decide +kernel
theorem hdV_yX7_lose : yX7_lose.cls = RX7 ∧ yX7_lose.cls ≠ "java/lang/invoke/MethodHandle" ∧ yX7_lose.cls ≠ "java/lang/invoke/VarHandle" ∧ (parseMethodDescriptor yX7_lose.desc).map (fun d => d.parameters.length) = some 1 := by decide +kernel
theorem hdV_yX7_many : yX7_many.cls = RX7 ∧ yX7_many.cls ≠ "java/lang/invoke/MethodHandle" ∧ yX7_many.cls ≠ "java/lang/invoke/VarHandle" ∧ (parseMethodDescriptor yX7_many.desc).map (fun d => d.parameters.length) = some 1 := by decide +kernel
theorem hdV_yX7_odds : yX7_odds.cls = RX7 ∧ yX7_odds.cls ≠ "java/lang/invoke/MethodHandle" ∧ yX7_odds.cls ≠ "java/lang/invoke/VarHandle" ∧ (parseMethodDescriptor yX7_odds.desc).map (fun d => d.parameters.length) = some 2 := by decide +kernel
theorem hdV_yX7_ofLinen : yX7_ofLinen.cls = RX7 ∧ yX7_ofLinen.cls ≠ "java/lang/invoke/MethodHandle" ∧ yX7_ofLinen.cls ≠ "java/lang/invoke/VarHandle" ∧ (parseMethodDescriptor yX7_ofLinen.desc).map (fun d => d.parameters.length) = some 2 := by decide +kernel
theorem hdV_yX7_put : yX7_put.cls = RX7 ∧ yX7_put.cls ≠ "java/lang/invoke/MethodHandle" ∧ yX7_put.cls ≠ "java/lang/invoke/VarHandle" ∧ (parseMethodDescriptor yX7_put.desc).map (fun d => d.parameters.length) = some 3 := by decide +kernel
theorem hdV_yX7_reading : yX7_reading.cls = RX7 ∧ yX7_reading.cls ≠ "java/lang/invoke/MethodHandle" ∧ yX7_reading.cls ≠ "java/lang/invoke/VarHandle" ∧ (parseMethodDescriptor yX7_reading.desc).map (fun d => d.parameters.length) = some 3 := by decide +kernel
theorem hdV_yX7_realm : yX7_realm.cls = RX7 ∧ yX7_realm.cls ≠ "java/lang/invoke/MethodHandle" ∧ yX7_realm.cls ≠ "java/lang/invoke/VarHandle" ∧ (parseMethodDescriptor yX7_realm.desc).map (fun d => d.parameters.length) = some 4 := by decide +kernel
theorem hdV_yX7_sheet : yX7_sheet.cls = RX7 ∧ yX7_sheet.cls ≠ "java/lang/invoke/MethodHandle" ∧ yX7_sheet.cls ≠ "java/lang/invoke/VarHandle" ∧ (parseMethodDescriptor yX7_sheet.desc).map (fun d => d.parameters.length) = some 3 := by decide +kernel
theorem hdV_yX7_sheetOf : yX7_sheetOf.cls = RX7 ∧ yX7_sheetOf.cls ≠ "java/lang/invoke/MethodHandle" ∧ yX7_sheetOf.cls ≠ "java/lang/invoke/VarHandle" ∧ (parseMethodDescriptor yX7_sheetOf.desc).map (fun d => d.parameters.length) = some 1 := by decide +kernel
theorem hdV_yX7_span : yX7_span.cls = RX7 ∧ yX7_span.cls ≠ "java/lang/invoke/MethodHandle" ∧ yX7_span.cls ≠ "java/lang/invoke/VarHandle" ∧ (parseMethodDescriptor yX7_span.desc).map (fun d => d.parameters.length) = some 2 := by decide +kernel
theorem hdV_yX7_tears : yX7_tears.cls = RX7 ∧ yX7_tears.cls ≠ "java/lang/invoke/MethodHandle" ∧ yX7_tears.cls ≠ "java/lang/invoke/VarHandle" ∧ (parseMethodDescriptor yX7_tears.desc).map (fun d => d.parameters.length) = some 1 := by decide +kernel
theorem hdV_yX7_tell : yX7_tell.cls = RX7 ∧ yX7_tell.cls ≠ "java/lang/invoke/MethodHandle" ∧ yX7_tell.cls ≠ "java/lang/invoke/VarHandle" ∧ (parseMethodDescriptor yX7_tell.desc).map (fun d => d.parameters.length) = some 1 := by decide +kernel
theorem hdV_yX7_trace : yX7_trace.cls = RX7 ∧ yX7_trace.cls ≠ "java/lang/invoke/MethodHandle" ∧ yX7_trace.cls ≠ "java/lang/invoke/VarHandle" ∧ (parseMethodDescriptor yX7_trace.desc).map (fun d => d.parameters.length) = some 0 := by decide +kernel
theorem hdV_yX7_warm : yX7_warm.cls = RX7 ∧ yX7_warm.cls ≠ "java/lang/invoke/MethodHandle" ∧ yX7_warm.cls ≠ "java/lang/invoke/VarHandle" ∧ (parseMethodDescriptor yX7_warm.desc).map (fun d => d.parameters.length) = some 2 := by decide +kernel
theorem hdV_yX7_weeping : yX7_weeping.cls = RX7 ∧ yX7_weeping.cls ≠ "java/lang/invoke/MethodHandle" ∧ yX7_weeping.cls ≠ "java/lang/invoke/VarHandle" ∧ (parseMethodDescriptor yX7_weeping.desc).map (fun d => d.parameters.length) = some 5 := by decide +kernel
theorem hdV_yX8_appoint : yX8_appoint.cls = RX8 ∧ yX8_appoint.cls ≠ "java/lang/invoke/MethodHandle" ∧ yX8_appoint.cls ≠ "java/lang/invoke/VarHandle" ∧ (parseMethodDescriptor yX8_appoint.desc).map (fun d => d.parameters.length) = some 1 := by decide +kernel
theorem hdV_yX8_areSo : yX8_areSo.cls = RX8 ∧ yX8_areSo.cls ≠ "java/lang/invoke/MethodHandle" ∧ yX8_areSo.cls ≠ "java/lang/invoke/VarHandle" ∧ (parseMethodDescriptor yX8_areSo.desc).map (fun d => d.parameters.length) = some 0 := by decide +kernel
theorem hdV_yX8_as : yX8_as.cls = RX8 ∧ yX8_as.cls ≠ "java/lang/invoke/MethodHandle" ∧ yX8_as.cls ≠ "java/lang/invoke/VarHandle" ∧ (parseMethodDescriptor yX8_as.desc).map (fun d => d.parameters.length) = some 2 := by decide +kernel
theorem hdV_yX8_back : yX8_back.cls = RX8 ∧ yX8_back.cls ≠ "java/lang/invoke/MethodHandle" ∧ yX8_back.cls ≠ "java/lang/invoke/VarHandle" ∧ (parseMethodDescriptor yX8_back.desc).map (fun d => d.parameters.length) = some 1 := by decide +kernel
theorem hdV_yX8_begin : yX8_begin.cls = RX8 ∧ yX8_begin.cls ≠ "java/lang/invoke/MethodHandle" ∧ yX8_begin.cls ≠ "java/lang/invoke/VarHandle" ∧ (parseMethodDescriptor yX8_begin.desc).map (fun d => d.parameters.length) = some 0 := by decide +kernel
theorem hdV_yX8_canKeep : yX8_canKeep.cls = RX8 ∧ yX8_canKeep.cls ≠ "java/lang/invoke/MethodHandle" ∧ yX8_canKeep.cls ≠ "java/lang/invoke/VarHandle" ∧ (parseMethodDescriptor yX8_canKeep.desc).map (fun d => d.parameters.length) = some 1 := by decide +kernel
theorem hdV_yX8_cell : yX8_cell.cls = RX8 ∧ yX8_cell.cls ≠ "java/lang/invoke/MethodHandle" ∧ yX8_cell.cls ≠ "java/lang/invoke/VarHandle" ∧ (parseMethodDescriptor yX8_cell.desc).map (fun d => d.parameters.length) = some 3 := by decide +kernel
theorem hdV_yX8_cellsBarred : yX8_cellsBarred.cls = RX8 ∧ yX8_cellsBarred.cls ≠ "java/lang/invoke/MethodHandle" ∧ yX8_cellsBarred.cls ≠ "java/lang/invoke/VarHandle" ∧ (parseMethodDescriptor yX8_cellsBarred.desc).map (fun d => d.parameters.length) = some 4 := by decide +kernel
theorem hdV_yX8_codeAt : yX8_codeAt.cls = RX8 ∧ yX8_codeAt.cls ≠ "java/lang/invoke/MethodHandle" ∧ yX8_codeAt.cls ≠ "java/lang/invoke/VarHandle" ∧ (parseMethodDescriptor yX8_codeAt.desc).map (fun d => d.parameters.length) = some 2 := by decide +kernel
theorem hdV_yX8_copy : yX8_copy.cls = RX8 ∧ yX8_copy.cls ≠ "java/lang/invoke/MethodHandle" ∧ yX8_copy.cls ≠ "java/lang/invoke/VarHandle" ∧ (parseMethodDescriptor yX8_copy.desc).map (fun d => d.parameters.length) = some 5 := by decide +kernel
theorem hdV_yX8_damp : yX8_damp.cls = RX8 ∧ yX8_damp.cls ≠ "java/lang/invoke/MethodHandle" ∧ yX8_damp.cls ≠ "java/lang/invoke/VarHandle" ∧ (parseMethodDescriptor yX8_damp.desc).map (fun d => d.parameters.length) = some 2 := by decide +kernel
theorem hdV_yX8_dampAt : yX8_dampAt.cls = RX8 ∧ yX8_dampAt.cls ≠ "java/lang/invoke/MethodHandle" ∧ yX8_dampAt.cls ≠ "java/lang/invoke/VarHandle" ∧ (parseMethodDescriptor yX8_dampAt.desc).map (fun d => d.parameters.length) = some 2 := by decide +kernel
theorem hdV_yX8_damps : yX8_damps.cls = RX8 ∧ yX8_damps.cls ≠ "java/lang/invoke/MethodHandle" ∧ yX8_damps.cls ≠ "java/lang/invoke/VarHandle" ∧ (parseMethodDescriptor yX8_damps.desc).map (fun d => d.parameters.length) = some 1 := by decide +kernel
theorem hdV_yX8_doesEvening : yX8_doesEvening.cls = RX8 ∧ yX8_doesEvening.cls ≠ "java/lang/invoke/MethodHandle" ∧ yX8_doesEvening.cls ≠ "java/lang/invoke/VarHandle" ∧ (parseMethodDescriptor yX8_doesEvening.desc).map (fun d => d.parameters.length) = some 0 := by decide +kernel
theorem hdV_yX8_doesWeep : yX8_doesWeep.cls = RX8 ∧ yX8_doesWeep.cls ≠ "java/lang/invoke/MethodHandle" ∧ yX8_doesWeep.cls ≠ "java/lang/invoke/VarHandle" ∧ (parseMethodDescriptor yX8_doesWeep.desc).map (fun d => d.parameters.length) = some 2 := by decide +kernel
theorem hdV_yX8_dried : yX8_dried.cls = RX8 ∧ yX8_dried.cls ≠ "java/lang/invoke/MethodHandle" ∧ yX8_dried.cls ≠ "java/lang/invoke/VarHandle" ∧ (parseMethodDescriptor yX8_dried.desc).map (fun d => d.parameters.length) = some 3 := by decide +kernel
theorem hdV_yX8_dries : yX8_dries.cls = RX8 ∧ yX8_dries.cls ≠ "java/lang/invoke/MethodHandle" ∧ yX8_dries.cls ≠ "java/lang/invoke/VarHandle" ∧ (parseMethodDescriptor yX8_dries.desc).map (fun d => d.parameters.length) = some 2 := by decide +kernel
theorem hdV_yX8_driesOn : yX8_driesOn.cls = RX8 ∧ yX8_driesOn.cls ≠ "java/lang/invoke/MethodHandle" ∧ yX8_driesOn.cls ≠ "java/lang/invoke/VarHandle" ∧ (parseMethodDescriptor yX8_driesOn.desc).map (fun d => d.parameters.length) = some 2 := by decide +kernel
theorem hdV_yX8_failed : yX8_failed.cls = RX8 ∧ yX8_failed.cls ≠ "java/lang/invoke/MethodHandle" ∧ yX8_failed.cls ≠ "java/lang/invoke/VarHandle" ∧ (parseMethodDescriptor yX8_failed.desc).map (fun d => d.parameters.length) = some 1 := by decide +kernel
theorem hdV_yX8_failedLong : yX8_failedLong.cls = RX8 ∧ yX8_failedLong.cls ≠ "java/lang/invoke/MethodHandle" ∧ yX8_failedLong.cls ≠ "java/lang/invoke/VarHandle" ∧ (parseMethodDescriptor yX8_failedLong.desc).map (fun d => d.parameters.length) = some 1 := by decide +kernel
theorem hdV_yX8_fault : yX8_fault.cls = RX8 ∧ yX8_fault.cls ≠ "java/lang/invoke/MethodHandle" ∧ yX8_fault.cls ≠ "java/lang/invoke/VarHandle" ∧ (parseMethodDescriptor yX8_fault.desc).map (fun d => d.parameters.length) = some 0 := by decide +kernel
theorem hdV_yX8_fewestOn : yX8_fewestOn.cls = RX8 ∧ yX8_fewestOn.cls ≠ "java/lang/invoke/MethodHandle" ∧ yX8_fewestOn.cls ≠ "java/lang/invoke/VarHandle" ∧ (parseMethodDescriptor yX8_fewestOn.desc).map (fun d => d.parameters.length) = some 3 := by decide +kernel
theorem hdV_yX8_figure : yX8_figure.cls = RX8 ∧ yX8_figure.cls ≠ "java/lang/invoke/MethodHandle" ∧ yX8_figure.cls ≠ "java/lang/invoke/VarHandle" ∧ (parseMethodDescriptor yX8_figure.desc).map (fun d => d.parameters.length) = some 3 := by decide +kernel
theorem hdV_yX8_give : yX8_give.cls = RX8 ∧ yX8_give.cls ≠ "java/lang/invoke/MethodHandle" ∧ yX8_give.cls ≠ "java/lang/invoke/VarHandle" ∧ (parseMethodDescriptor yX8_give.desc).map (fun d => d.parameters.length) = some 2 := by decide +kernel
theorem hdV_yX8_goWeeping : yX8_goWeeping.cls = RX8 ∧ yX8_goWeeping.cls ≠ "java/lang/invoke/MethodHandle" ∧ yX8_goWeeping.cls ≠ "java/lang/invoke/VarHandle" ∧ (parseMethodDescriptor yX8_goWeeping.desc).map (fun d => d.parameters.length) = some 2 := by decide +kernel
theorem hdV_yX8_grieve : yX8_grieve.cls = RX8 ∧ yX8_grieve.cls ≠ "java/lang/invoke/MethodHandle" ∧ yX8_grieve.cls ≠ "java/lang/invoke/VarHandle" ∧ (parseMethodDescriptor yX8_grieve.desc).map (fun d => d.parameters.length) = some 2 := by decide +kernel
theorem hdV_yX8_heat : yX8_heat.cls = RX8 ∧ yX8_heat.cls ≠ "java/lang/invoke/MethodHandle" ∧ yX8_heat.cls ≠ "java/lang/invoke/VarHandle" ∧ (parseMethodDescriptor yX8_heat.desc).map (fun d => d.parameters.length) = some 1 := by decide +kernel
theorem hdV_yX8_heats : yX8_heats.cls = RX8 ∧ yX8_heats.cls ≠ "java/lang/invoke/MethodHandle" ∧ yX8_heats.cls ≠ "java/lang/invoke/VarHandle" ∧ (parseMethodDescriptor yX8_heats.desc).map (fun d => d.parameters.length) = some 1 := by decide +kernel
theorem hdV_yX8_isAct : yX8_isAct.cls = RX8 ∧ yX8_isAct.cls ≠ "java/lang/invoke/MethodHandle" ∧ yX8_isAct.cls ≠ "java/lang/invoke/VarHandle" ∧ (parseMethodDescriptor yX8_isAct.desc).map (fun d => d.parameters.length) = some 1 := by decide +kernel
theorem hdV_yX8_keep : yX8_keep.cls = RX8 ∧ yX8_keep.cls ≠ "java/lang/invoke/MethodHandle" ∧ yX8_keep.cls ≠ "java/lang/invoke/VarHandle" ∧ (parseMethodDescriptor yX8_keep.desc).map (fun d => d.parameters.length) = some 0 := by decide +kernel
theorem hdV_yX8_keptNow : yX8_keptNow.cls = RX8 ∧ yX8_keptNow.cls ≠ "java/lang/invoke/MethodHandle" ∧ yX8_keptNow.cls ≠ "java/lang/invoke/VarHandle" ∧ (parseMethodDescriptor yX8_keptNow.desc).map (fun d => d.parameters.length) = some 0 := by decide +kernel
theorem hdV_yX8_kinds : yX8_kinds.cls = RX8 ∧ yX8_kinds.cls ≠ "java/lang/invoke/MethodHandle" ∧ yX8_kinds.cls ≠ "java/lang/invoke/VarHandle" ∧ (parseMethodDescriptor yX8_kinds.desc).map (fun d => d.parameters.length) = some 1 := by decide +kernel
theorem hdV_yX8_knot : yX8_knot.cls = RX8 ∧ yX8_knot.cls ≠ "java/lang/invoke/MethodHandle" ∧ yX8_knot.cls ≠ "java/lang/invoke/VarHandle" ∧ (parseMethodDescriptor yX8_knot.desc).map (fun d => d.parameters.length) = some 1 := by decide +kernel
theorem hdV_yX8_lawNow : yX8_lawNow.cls = RX8 ∧ yX8_lawNow.cls ≠ "java/lang/invoke/MethodHandle" ∧ yX8_lawNow.cls ≠ "java/lang/invoke/VarHandle" ∧ (parseMethodDescriptor yX8_lawNow.desc).map (fun d => d.parameters.length) = some 0 := by decide +kernel
theorem hdV_yX8_laws : yX8_laws.cls = RX8 ∧ yX8_laws.cls ≠ "java/lang/invoke/MethodHandle" ∧ yX8_laws.cls ≠ "java/lang/invoke/VarHandle" ∧ (parseMethodDescriptor yX8_laws.desc).map (fun d => d.parameters.length) = some 1 := by decide +kernel
theorem hdV_yX8_lose : yX8_lose.cls = RX8 ∧ yX8_lose.cls ≠ "java/lang/invoke/MethodHandle" ∧ yX8_lose.cls ≠ "java/lang/invoke/VarHandle" ∧ (parseMethodDescriptor yX8_lose.desc).map (fun d => d.parameters.length) = some 1 := by decide +kernel
theorem hdV_yX8_many : yX8_many.cls = RX8 ∧ yX8_many.cls ≠ "java/lang/invoke/MethodHandle" ∧ yX8_many.cls ≠ "java/lang/invoke/VarHandle" ∧ (parseMethodDescriptor yX8_many.desc).map (fun d => d.parameters.length) = some 1 := by decide +kernel
theorem hdV_yX8_noCell : yX8_noCell.cls = RX8 ∧ yX8_noCell.cls ≠ "java/lang/invoke/MethodHandle" ∧ yX8_noCell.cls ≠ "java/lang/invoke/VarHandle" ∧ (parseMethodDescriptor yX8_noCell.desc).map (fun d => d.parameters.length) = some 2 := by decide +kernel
theorem hdV_yX8_noDay : yX8_noDay.cls = RX8 ∧ yX8_noDay.cls ≠ "java/lang/invoke/MethodHandle" ∧ yX8_noDay.cls ≠ "java/lang/invoke/VarHandle" ∧ (parseMethodDescriptor yX8_noDay.desc).map (fun d => d.parameters.length) = some 1 := by decide +kernel
theorem hdV_yX8_noLinen : yX8_noLinen.cls = RX8 ∧ yX8_noLinen.cls ≠ "java/lang/invoke/MethodHandle" ∧ yX8_noLinen.cls ≠ "java/lang/invoke/VarHandle" ∧ (parseMethodDescriptor yX8_noLinen.desc).map (fun d => d.parameters.length) = some 1 := by decide +kernel
theorem hdV_yX8_odds : yX8_odds.cls = RX8 ∧ yX8_odds.cls ≠ "java/lang/invoke/MethodHandle" ∧ yX8_odds.cls ≠ "java/lang/invoke/VarHandle" ∧ (parseMethodDescriptor yX8_odds.desc).map (fun d => d.parameters.length) = some 2 := by decide +kernel
theorem hdV_yX8_ofLinen : yX8_ofLinen.cls = RX8 ∧ yX8_ofLinen.cls ≠ "java/lang/invoke/MethodHandle" ∧ yX8_ofLinen.cls ≠ "java/lang/invoke/VarHandle" ∧ (parseMethodDescriptor yX8_ofLinen.desc).map (fun d => d.parameters.length) = some 2 := by decide +kernel
theorem hdV_yX8_put : yX8_put.cls = RX8 ∧ yX8_put.cls ≠ "java/lang/invoke/MethodHandle" ∧ yX8_put.cls ≠ "java/lang/invoke/VarHandle" ∧ (parseMethodDescriptor yX8_put.desc).map (fun d => d.parameters.length) = some 3 := by decide +kernel
theorem hdV_yX8_reading : yX8_reading.cls = RX8 ∧ yX8_reading.cls ≠ "java/lang/invoke/MethodHandle" ∧ yX8_reading.cls ≠ "java/lang/invoke/VarHandle" ∧ (parseMethodDescriptor yX8_reading.desc).map (fun d => d.parameters.length) = some 3 := by decide +kernel
theorem hdV_yX8_readsDays : yX8_readsDays.cls = RX8 ∧ yX8_readsDays.cls ≠ "java/lang/invoke/MethodHandle" ∧ yX8_readsDays.cls ≠ "java/lang/invoke/VarHandle" ∧ (parseMethodDescriptor yX8_readsDays.desc).map (fun d => d.parameters.length) = some 2 := by decide +kernel
theorem hdV_yX8_readsLinen : yX8_readsLinen.cls = RX8 ∧ yX8_readsLinen.cls ≠ "java/lang/invoke/MethodHandle" ∧ yX8_readsLinen.cls ≠ "java/lang/invoke/VarHandle" ∧ (parseMethodDescriptor yX8_readsLinen.desc).map (fun d => d.parameters.length) = some 2 := by decide +kernel
theorem hdV_yX8_readsRealm : yX8_readsRealm.cls = RX8 ∧ yX8_readsRealm.cls ≠ "java/lang/invoke/MethodHandle" ∧ yX8_readsRealm.cls ≠ "java/lang/invoke/VarHandle" ∧ (parseMethodDescriptor yX8_readsRealm.desc).map (fun d => d.parameters.length) = some 2 := by decide +kernel
theorem hdV_yX8_readsSorrows : yX8_readsSorrows.cls = RX8 ∧ yX8_readsSorrows.cls ≠ "java/lang/invoke/MethodHandle" ∧ yX8_readsSorrows.cls ≠ "java/lang/invoke/VarHandle" ∧ (parseMethodDescriptor yX8_readsSorrows.desc).map (fun d => d.parameters.length) = some 2 := by decide +kernel
theorem hdV_yX8_realm : yX8_realm.cls = RX8 ∧ yX8_realm.cls ≠ "java/lang/invoke/MethodHandle" ∧ yX8_realm.cls ≠ "java/lang/invoke/VarHandle" ∧ (parseMethodDescriptor yX8_realm.desc).map (fun d => d.parameters.length) = some 4 := by decide +kernel
theorem hdV_yX8_refused : yX8_refused.cls = RX8 ∧ yX8_refused.cls ≠ "java/lang/invoke/MethodHandle" ∧ yX8_refused.cls ≠ "java/lang/invoke/VarHandle" ∧ (parseMethodDescriptor yX8_refused.desc).map (fun d => d.parameters.length) = some 1 := by decide +kernel
theorem hdV_yX8_sheet : yX8_sheet.cls = RX8 ∧ yX8_sheet.cls ≠ "java/lang/invoke/MethodHandle" ∧ yX8_sheet.cls ≠ "java/lang/invoke/VarHandle" ∧ (parseMethodDescriptor yX8_sheet.desc).map (fun d => d.parameters.length) = some 3 := by decide +kernel
theorem hdV_yX8_span : yX8_span.cls = RX8 ∧ yX8_span.cls ≠ "java/lang/invoke/MethodHandle" ∧ yX8_span.cls ≠ "java/lang/invoke/VarHandle" ∧ (parseMethodDescriptor yX8_span.desc).map (fun d => d.parameters.length) = some 2 := by decide +kernel
theorem hdV_yX8_tears : yX8_tears.cls = RX8 ∧ yX8_tears.cls ≠ "java/lang/invoke/MethodHandle" ∧ yX8_tears.cls ≠ "java/lang/invoke/VarHandle" ∧ (parseMethodDescriptor yX8_tears.desc).map (fun d => d.parameters.length) = some 1 := by decide +kernel
theorem hdV_yX8_tearsOf : yX8_tearsOf.cls = RX8 ∧ yX8_tearsOf.cls ≠ "java/lang/invoke/MethodHandle" ∧ yX8_tearsOf.cls ≠ "java/lang/invoke/VarHandle" ∧ (parseMethodDescriptor yX8_tearsOf.desc).map (fun d => d.parameters.length) = some 1 := by decide +kernel
theorem hdV_yX8_tell : yX8_tell.cls = RX8 ∧ yX8_tell.cls ≠ "java/lang/invoke/MethodHandle" ∧ yX8_tell.cls ≠ "java/lang/invoke/VarHandle" ∧ (parseMethodDescriptor yX8_tell.desc).map (fun d => d.parameters.length) = some 1 := by decide +kernel
theorem hdV_yX8_trace : yX8_trace.cls = RX8 ∧ yX8_trace.cls ≠ "java/lang/invoke/MethodHandle" ∧ yX8_trace.cls ≠ "java/lang/invoke/VarHandle" ∧ (parseMethodDescriptor yX8_trace.desc).map (fun d => d.parameters.length) = some 0 := by decide +kernel
theorem hdV_yX8_traced : yX8_traced.cls = RX8 ∧ yX8_traced.cls ≠ "java/lang/invoke/MethodHandle" ∧ yX8_traced.cls ≠ "java/lang/invoke/VarHandle" ∧ (parseMethodDescriptor yX8_traced.desc).map (fun d => d.parameters.length) = some 1 := by decide +kernel
theorem hdV_yX8_warm : yX8_warm.cls = RX8 ∧ yX8_warm.cls ≠ "java/lang/invoke/MethodHandle" ∧ yX8_warm.cls ≠ "java/lang/invoke/VarHandle" ∧ (parseMethodDescriptor yX8_warm.desc).map (fun d => d.parameters.length) = some 2 := by decide +kernel
theorem hdV_yX8_weeping : yX8_weeping.cls = RX8 ∧ yX8_weeping.cls ≠ "java/lang/invoke/MethodHandle" ∧ yX8_weeping.cls ≠ "java/lang/invoke/VarHandle" ∧ (parseMethodDescriptor yX8_weeping.desc).map (fun d => d.parameters.length) = some 5 := by decide +kernel
theorem hdV_yX8_weepingBy : yX8_weepingBy.cls = RX8 ∧ yX8_weepingBy.cls ≠ "java/lang/invoke/MethodHandle" ∧ yX8_weepingBy.cls ≠ "java/lang/invoke/VarHandle" ∧ (parseMethodDescriptor yX8_weepingBy.desc).map (fun d => d.parameters.length) = some 1 := by decide +kernel
