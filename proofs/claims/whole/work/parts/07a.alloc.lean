def wk (X : gX) (k n : Nat) : gX := match X with
  | (p, l, e, R, s, m, args, below, meth, c, Q, A, _, _) => (p, l, e, R, s, m, args, below, meth, c, Q, A, k, n)
def InX (X : gX) : Prop := match X with
  | (_, _, _, _, _, _, _, _, meth, _, _, _, _, _) => meth.name = "<init>"
def AoX (X : gX) : Prop := match X with
  | (_, _, _, _, s, _, _, _, _, _, _, _, _, _) => va_AO "LinenLaw$Sheet" s
def PA (D : va_G) (tys : List (ClassId × FieldType)) (as : List Value) (wc : va_W) (sz : Nat) : Array Value → State → Prop := fun v U => PB D tys as wc sz v U ∧ va_AO "LinenLaw$Sheet" U
def QA (D : va_G) (w1 : (Nat → Nat) → va_W) (A : Nat → Prop) : Array Value → State → Outcome → State → Prop := fun _ st o t => (o = .returned none ∧ ∃ u : Nat → Nat, va_P D vwCl (w1 u) t.heap ∧ va_D A (w1 u)) ∧ va_F A st t
def RxA (X : gX) (D : va_G) (w1 : (Nat → Nat) → va_W) (mc ms : Nat) : Prop :=
  match X with
  | (_, _, _, _, s, _, args, below, meth, _, Q, A, _, _) => Q = MQ below (QA D w1 A) args s mc ms A ∧ meth.locks = false
def MA (y : MethodName) (ws : List Cond) (rm : Room) (D : va_G) (tys : List (ClassId × FieldType)) (as : List Value) (wc : va_W) (mc ms : Nat) (w1 : (Nat → Nat) → va_W) : Prop :=
  rm.cells = mc ∧ rm.slots = ms ∧ ∀ (l : Launch) (sz : Nat), Met l y ws rm (PA D tys as wc sz) (QA D w1 (va_A wc sz)) mc ms (va_A wc sz)
theorem PA_blind {D : va_G} {tys : List (ClassId × FieldType)} {as : List Value} {wc : va_W} {sz : Nat} : FrameBlind (PA D tys as wc sz) := fun a U g mk q => ⟨PB_blind a U g mk q.1, va_AO.moved (u := U) (U := U.calling g mk a) (Vm.Alike.refl U.vm) q.2⟩
theorem g_entryA {y : MethodName} {ws ws' : List Cond} {rm : Room} {cc : ByteArray} {maxL mc ms : Nat} {D : va_G} {tys : List (ClassId × FieldType)} {as : List Value} {wc : va_W} {w1 : (Nat → Nat) → va_W} {own : String} {lv : List (Nat × Value)} (hy : plainName y.cls = true) (hy1 : y.name = "<init>") (hw : ws = Cond.code y cc maxL none :: ws') (hc : rm.cells = mc) (hs : rm.slots = ms) (hown : y.cls = own) (hle : (lg_sl as).length ≤ maxL) (hlv : lv_args 0 as = lv)
    (body : ∀ X : gX, Cx X cc maxL own ws D tys rm none → RxA X D w1 mc ms → InX X → AoX X → G (wk X 0 0) D maxL wc lv 0 []) : MA y ws rm D tys as wc mc ms w1 := by
  refine ⟨hc, hs, fun l sz => Met.ofW hy hw ?_⟩
  intro p e s m args below meth c s₁ B hml hv
  obtain ⟨⟨rfl, hsz, hP, hK, hD0, hN⟩, hao⟩ := hv
  subst hsz
  subst hown
  subst hlv
  have hin : meth.name = y.name := (name_of_methodNamed B.named B.method).1
  have hl := lv_entry as (n := maxL) hle
  rw [lg_entry_eq]
  exact body (p, l, e, (headSpec ws rm).room, s, m, as.toArray, below, meth, c, MQ below (QA D w1 (va_A wc s.heap.size)) as.toArray s mc ms (va_A wc s.heap.size), va_A wc s.heap.size, 0, 0)
    ⟨B.exec, B.bytes, hml, findClass_of_methodNamed B.named, atoms_spec B.pre, hK, fun q h => Or.inr h, hN, rfl, B.returns, Nat.zero_le _, Nat.zero_le _⟩ ⟨rfl, B.notSynchronized⟩ (hin.trans hy1) hao s.heap [] _ hP hD0.self va_S.rf hl
section GA
variable {X : gX} {cc : ByteArray} {nL : Nat} {own : String} {Ts : List Cond} {D : va_G} {tys : List (ClassId × FieldType)} {rm : Room} {ret : Option FieldType} {ws : va_W} {lv lv' : List (Nat × Value)} {pc q k n k' n' : Nat} {st : List Value}
theorem wk_cx (hC : Cx X cc nL own Ts D tys rm ret) (k n : Nat) (h1 : k ≤ rm.cells) (h2 : n ≤ rm.slots) : Cx (wk X k n) cc nL own Ts D tys rm ret := by
  obtain ⟨p, l, e, R, s, m, args, below, meth, c, Q, A, k0, n0⟩ := X
  obtain ⟨hx, hb, hml, hown, hts, hK, hA, hN, hR, hret, hk0, hn0⟩ := hC
  exact ⟨hx, hb, hml, hown, hts, hK, hA, hN, hR, hret, h1, h2⟩
theorem g_objI (hC : Cx (wk X k n) cc nL own Ts D tys rm ret) {idx : Nat} {a : Nat} (h1 : Cond.methodLink own idx objectInit ∈ Ts) (h2 : Cond.instanceMethod objectInit ∈ Ts) (h3 : Cond.code objectInit ⟨#[0xb1]⟩ 1 none ∈ Ts) (hfr : 1 ≤ rm.frames) (hlo : (st.map fun v => v.category).sum + 12 ≤ rm.locals) (hdg : decode cc pc = .ok (.invokespecial idx, 3)) (hq : pc + 3 = q) (kk : G (wk X k n) D nL ws lv q st) : G (wk X k n) D nL ws lv pc (.ref a :: st) := by
  obtain ⟨p, l, e, R, s, m, args, below, meth, c, Q, A, k0, n0⟩ := X
  obtain ⟨hx, hb, hml, hown, hts, hK, hA, hN, hR, hret, hk0, hn0⟩ := hC
  subst hq
  subst hR
  exact fun H locs ls hP hD hS hl => W.objInit hx hb hown (hts _ h1) (hts _ h2) (hts _ h3) rfl (hl.1.trans hml.symm) rfl hdg hfr (by show 2 * 0 + _ + 12 ≤ _; omega) (kk H locs ls hP hD hS hl)
theorem g_new (hC : Cx (wk X k n) cc nL own Ts D tys rm ret) {C : String} {T : u_T} {N ci index : Nat} {fs : List Value} {ws' : Nat → va_W} (hin : ∀ w ∈ u_ws C T N, w ∈ Ts) (ty : Nat → FieldType) (hty : ∀ k, k < N → parseFieldDescriptor (T k).2.2.1 = some (ty k)) (hcl : Cond.classLink own index C ∈ Ts) (hinst : Cond.instantiable C N ∈ Ts) (hini : Cond.initialized C ∈ Ts) (hc : vwCl[ci]? = some (C, T, N)) (hfs : ∀ j, j < N → defaultValue (ty j) = vp_V fs j) (hk : k + 1 = k') (hn : n + N = n') (hk' : k' ≤ rm.cells) (hn' : n' ≤ rm.slots) (hdg : decode cc pc = .ok (.new index, 3)) (hq : pc + 3 = q) (hws : ∀ a, ws ++ [(a, .inr (ci, fs))] = ws' a) (kk : ∀ a, G (wk X k' n') D nL (ws' a) lv q (.ref a :: st)) : G (wk X k n) D nL ws lv pc st := by
  obtain ⟨p, l, e, R, s, m, args, below, meth, c, Q, A, k0, n0⟩ := X
  obtain ⟨hx, hb, hml, hown, hts, hK, hA, hN, hR, hret, hk0, hn0⟩ := hC
  subst hq
  subst hR
  subst hk
  subst hn
  exact fun H locs ls hP hD hS hl => va_new hx hb hts hin ty hty hown (hts _ hcl) (hts _ hinst) (hts _ hini) hK hP hD hS hA hc hfs hk' hn' hdg (fun a H1 hP hD hS => kk a H1 locs ls (by rw [← hws]; exact hP) (by rw [← hws]; exact hD) hS hl)
theorem g_newa (hC : Cx (wk X k n) cc nL own Ts D tys rm ret) (t0 : Nat) {cI : ClassId} (ht : tys[t0]? = some (cI, .int)) (harr : Cond.arrayClass .int ∈ Ts) {v : Int32} {N : Nat} {ws' : Nat → va_W} (hv0 : ¬ v < 0) (hNv : v.toNatClampNeg = N) (hbytes : N * 4 ≤ 536870912) (hk : k + 1 = k') (hn : n + N = n') (hk' : k' ≤ rm.cells) (hn' : n' ≤ rm.slots) (hdg : decode cc pc = .ok (.newarray .int, 2)) (hq : pc + 2 = q) (hws : ∀ a, ws ++ [(a, .inl (cI, N, .inl (fun _ => 0)))] = ws' a) (kk : ∀ a, G (wk X k' n') D nL (ws' a) lv q (.ref a :: st)) : G (wk X k n) D nL ws lv pc (.int v :: st) := by
  obtain ⟨p, l, e, R, s, m, args, below, meth, c, Q, A, k0, n0⟩ := X
  obtain ⟨hx, hb, hml, hown, hts, hK, hA, hN, hR, hret, hk0, hn0⟩ := hC
  subst hq
  subst hR
  subst hk
  subst hn
  refine fun H locs ls hP hD hS hl => va_newa (atype := .int) (a0 := (N, .inl (fun _ => 0))) (ty := .int) hx hb (hts _ harr) rfl hK hP hD hS hA (fun cA => rfl) hv0 hNv hbytes hk' hn' hdg (fun a cA H1 hK1 hP hD hS => ?_)
  have e : cA = cI := by
    have h1 : s.vm.findClass ("[" ++ FieldType.int.toString) = some cI := (hK.2 t0 _ ht).2
    have h2 : s.vm.findClass ("[" ++ FieldType.int.toString) = some cA := (hK1.2 tys.length (cA, .int) (by rw [List.getElem?_append_right (Nat.le_refl _), Nat.sub_self]; rfl)).2
    exact Option.some.inj (h2.symm.trans h1)
  subst e
  exact kk a H1 locs ls (by rw [← hws]; exact hP) (by rw [← hws]; exact hD) hS hl
theorem g_newq (hC : Cx (wk X k n) cc nL own Ts D tys rm ret) (hao : AoX X) (t0 : Nat) {cO : ClassId} (ht : tys[t0]? = some (cO, .object "LinenLaw$Sheet")) {index : Nat} (hcl : Cond.classLink own index "LinenLaw$Sheet" ∈ Ts) {v : Int32} {N : Nat} {ws' : Nat → va_W} (hv0 : ¬ v < 0) (hNv : v.toNatClampNeg = N) (hbytes : N * 4 ≤ 536870912) (hk : k + 1 = k') (hn : n + N = n') (hk' : k' ≤ rm.cells) (hn' : n' ≤ rm.slots) (hdg : decode cc pc = .ok (.anewarray index, 3)) (hq : pc + 3 = q) (hws : ∀ a, ws ++ [(a, .inl (cO, N, .inr (.inr (.inr (.inr (fun _ => none))))))] = ws' a) (kk : ∀ a, G (wk X k' n') D nL (ws' a) lv q (.ref a :: st)) : G (wk X k n) D nL ws lv pc (.int v :: st) := by
  obtain ⟨p, l, e, R, s, m, args, below, meth, c, Q, A, k0, n0⟩ := X
  obtain ⟨hx, hb, hml, hown, hts, hK, hA, hN, hR, hret, hk0, hn0⟩ := hC
  subst hq
  subst hR
  subst hk
  subst hn
  refine fun H locs ls hP hD hS hl => va_newq hx hb hown (hts _ hcl) hao hK hP hD hS hA hv0 hNv hbytes hk' hn' hdg (fun a cA H1 hK1 hP hD hS => ?_)
  have e : cA = cO := by
    obtain ⟨kA, comp, -, -, -, h1⟩ := (hK.2 t0 _ ht).2
    obtain ⟨kA2, comp2, -, -, -, h2⟩ := (hK1.2 tys.length (cA, .object "LinenLaw$Sheet") (by rw [List.getElem?_append_right (Nat.le_refl _), Nat.sub_self]; rfl)).2
    exact Option.some.inj (h2.symm.trans h1)
  subst e
  exact kk a H1 locs ls (by rw [← hws]; exact hP) (by rw [← hws]; exact hD) hS hl
theorem g_putF (hC : Cx (wk X k n) cc nL own Ts D tys rm ret) (hI : InX X) {ws' : va_W} {C : String} {T : u_T} {N ci index : Nat} {a : Nat} {fs : List Value} (hin : ∀ w ∈ u_ws C T N, w ∈ Ts) (q0 : Nat) (he : ws[q0]? = some (a, .inr (ci, fs))) (hc : vwCl[ci]? = some (C, T, N)) (j : Nat) (hj : j < N) (hm : Cond.fieldLink own index C (T j).2.1 (T j).2.2.1 ∈ Ts) (e1 : (T j).1 = C) (ty0 : Nat → FieldType) (hty : ∀ k, k < N → parseFieldDescriptor (T k).2.2.1 = some (ty0 k)) (hnm : ∀ a, a < N → ∀ b, b < N → a ≠ b → (T a).2.1 ≠ (T b).2.1) (hfin : (T j).2.2.2 = true) (e2 : (T j).1 = own) {v : Value} (hn : narrow (ty0 j) v = v) (hfit : fits (ty0 j) v = true) (hl0 : j < fs.length) (hws : ws.set q0 (a, .inr (ci, fs.set j v)) = ws') (hdg : decode cc pc = .ok (.putfield index, 3)) (hq : pc + 3 = q) (kk : G (wk X k n) D nL ws' lv q st) : G (wk X k n) D nL ws lv pc (v :: .ref a :: st) := by
  obtain ⟨p, l, e, R, s, m, args, below, meth, c, Q, A, k0, n0⟩ := X
  obtain ⟨hx, hb, hml, hown, hts, hK, hA, hN, hR, hret, hk0, hn0⟩ := hC
  subst hq
  subst hR
  subst hws
  exact fun H locs ls hP hD hS hl => va_putF hx hb hts hin ty0 hty hnm hown hK hP hD hS q0 he hc j hj (hts _ hm) (fun x h => by rw [e1] at h; exact h) hfin hI e2 (hty j hj) hn hfit hl0 hdg (fun H1 locs1 hP hD hS => kk H1 locs1 ls hP hD hS hl)
theorem g_astq (hC : Cx (wk X k n) cc nL own Ts D tys rm ret) {ws' : va_W} (q0 t0 qk ci : Nat) {a : Nat} {cA : ClassId} {r : vw_C} {N v : Nat} {vs : List Value} {f : Nat → Option Nat} (ha : ws[q0]? = some (a, .inl (cA, N, .inr (.inr (.inr (.inr f)))))) (ht : tys[t0]? = some (cA, .object r.1)) (hv : ws[qk]? = some (v, .inr (ci, vs))) (hc : vwCl[ci]? = some r) {i : Int32} (hin : vp_in i N) (hws : ws.set q0 (a, .inl (cA, N, .inr (.inr (.inr (.inr (va_up f i.toNatClampNeg (some v))))))) = ws') (hdg : decode cc pc = .ok (.aastore, 1)) (hq : pc + 1 = q) (kk : G (wk X k n) D nL ws' lv q st) : G (wk X k n) D nL ws lv pc (.ref v :: .int i :: .ref a :: st) := by
  obtain ⟨p, l, e, R, s, m, args, below, meth, c, Q, A, k0, n0⟩ := X
  obtain ⟨hx, hb, hml, hown, hts, hK, hA, hN, hR, hret, hk0, hn0⟩ := hC
  subst hq
  subst hR
  subst hws
  exact fun H locs ls hP hD hS hl => va_astq hx hb hK hP hD hS q0 t0 qk ci ha ht hv hc hin hdg (fun H1 locs1 hP hD hS => kk H1 locs1 ls hP hD hS hl)
theorem g_vretA {mc ms : Nat} {w1 : (Nat → Nat) → va_W} (hC : Cx (wk X mc ms) cc nL own Ts D tys rm ret) (hX : RxA X D w1 mc ms) (hret1 : ret = none) (hdg : decode cc pc = .ok (.return_, 1)) (u : Nat → Nat) (h2 : w1 u = ws) : G (wk X mc ms) D nL ws lv pc [] := by
  obtain ⟨p, l, e, R, s, m, args, below, meth, c, Q, A, k0, n0⟩ := X
  obtain ⟨hx, hb, hml, hown, hts, hK, hA, hN, hR, hret, hk0, hn0⟩ := hC
  obtain ⟨hQ, hlocks⟩ := hX
  subst hQ
  subst hret1
  subst h2
  exact fun H locs ls hP hD hS hl => W.vret hx hb hret (fun t ht hW => ⟨⟨rfl, u, by rw [ht]; exact hP, hD⟩, hS.F ht⟩) hS.2.2 hdg hlocks
theorem g_joinA {p : Program} {l : Launch} {e : Env} {R : Room} {s : State} {m : MethodId} {args : Array Value} {below : List Frame} {meth : Method} {c : Code} {H : Heap} {locs : List Loc} {k n mc ms : Nat} {Q : State → Prop} {A : Nat → Prop} {ls : Array Slot} {rest st0 : List Value} {a : Array Value} {wc : va_W} {w1 ws' : (Nat → Nat) → va_W} {n1 : Nat}
    (hr : va_Run p l e R s m args below meth c H locs k n mc ms (F0 m pc ls st0) rest (QA D w1 (va_A wc H.size) a) (va_A wc H.size)) (hP : va_P D vwCl ws H) (hD : va_D A ws) (hS : va_S A s.heap H locs) (hA : ∀ q : Nat, s.heap.size ≤ q → A q) (hl : lv_has ls nL lv)
    (isC isR perm : List Nat) (hC : isC.filterMap (fun i => ws[i]?) = wc) (hw1 : ∀ u, (w1 u).length = n1) (hn : g_chk isC isR perm ws.length n1 = true) (hp : ∀ u, perm.filterMap (fun i => (isR.filterMap (fun i => ws[i]?) ++ w1 u)[i]?) = ws' u)
    (kk : ∀ u, G (p, l, e, R, s, m, args, below, meth, c, Q, A, k + mc, n + ms) D nL (ws' u) lv (pc + 3) rest) : W p l e R s m args below meth c H locs k n Q (F0 m pc ls st0) := by
  simp only [g_chk, Bool.and_eq_true] at hn
  obtain ⟨⟨⟨⟨⟨n1', n2⟩, n3⟩, n4⟩, n5⟩, n6⟩ := hn
  have hCm : isC.map (fun i => ws[i]?) = wc.map some := by rw [← hC]; exact (g_fm n1').1
  obtain ⟨hRm, hRl⟩ := g_fm n2
  have hF := va_free hD hS hA isC hCm
  have n4' : ∀ i ∈ isR, i ∉ isC := by
    intro i hi hc
    have := List.all_eq_true.mp n4 i hi
    simp only [Bool.not_eq_true', List.contains_eq_mem, decide_eq_false_iff_not] at this
    exact this hc
  intro T hT X
  obtain ⟨v, st₀, t, T', L, h0, X', hL, e1, e2, ⟨⟨hv, u, hP1, hD1⟩, hz, hk⟩, st⟩ := hr T hT X
  cases hv
  rw [h0] at hz hk
  obtain ⟨hPj, hDj⟩ := va_join (H1 := T'.heap) hP hD isC isR hCm hRm n3 n4' (fun q h1 h2 => by rw [e1]; exact hk q h1 h2) hF (by rw [e1]; exact hP1) hD1
  have n5' : perm.all (fun i => decide (i < (isR.filterMap (fun i => ws[i]?) ++ w1 u).length)) = true := by
    rw [List.length_append, hRl, hw1]; exact n5
  have hP2 := hPj.sub perm (hp u)
  have hD2 := hDj.sub (ws' := ws' u) perm n6 (by rw [← hp u]; exact (g_fm n5').1)
  have hS1 : va_S A s.heap T'.heap (locs ++ L) := ⟨Nat.le_trans hS.1 (by rw [e1]; exact hz), fun q h1 h2 => by rw [e1, hk q (Nat.lt_of_lt_of_le h1 hS.1) (fun z => h2 (hF q z))]; exact hS.2.1 q h1 h2, fun q hq => by
      rcases List.mem_append.mp hq with h | h
      · exact hS.2.2 q h
      · exact hF _ (hL q h)⟩
  obtain ⟨t2, a1, b1⟩ := kk u T'.heap (locs ++ L) ls hP2 hD2 hS1 hl T' rfl X'
  exact ⟨t2, st t2 a1, b1⟩
theorem g_callIN (hC : Cx (wk X k n) cc nL own Ts D tys rm ret) (hao : AoX X) {y : MethodName} {wsy wsy' : List Cond} {rmy : Room} {tysC : List (ClassId × FieldType)} {rest : List Value} {wc : va_W} {w1 ws' : (Nat → Nat) → va_W} {index maxL nw n1 mc ms b : Nat} {bytes : ByteArray} {host : String} (hG : GoodIn Ts wsy) (hnest : (own, index, y, host) ∈ nwq) (hini : Cond.initialized y.cls ∈ Ts) (hinst : Cond.instanceMethod y ∈ Ts) (hd : y.cls ≠ "java/lang/invoke/MethodHandle" ∧ y.cls ≠ "java/lang/invoke/VarHandle" ∧ (parseMethodDescriptor y.desc).map (fun d => d.parameters.length) = some 0) (hM : MA y wsy rmy D tysC [.ref b] wc mc ms w1) (hw : wsy = Cond.code y bytes maxL none :: wsy') (hy1 : y.name = "<init>") (hRm : rmy.frames + 1 ≤ rm.frames ∧ 8 + (maxL + 11) + rmy.locals ≤ rm.locals) (isC isR perm isT : List Nat) (hCw : isC.filterMap (fun i => ws[i]?) = wc) (hT : isT.filterMap (fun i => tys[i]?) = tysC) (hnw : ws.length = nw) (hn1 : ∀ u, (w1 u).length = n1) (hchk : (g_chk isC isR perm nw n1 && va_nd isC) = true) (hp : ∀ u, perm.filterMap (fun i => (isR.filterMap (fun i => ws[i]?) ++ w1 u)[i]?) = ws' u) (h8 : (rest.map fun v => v.category).sum ≤ 8) (hk : k + mc = k') (hn : n + ms = n') (hk' : k' ≤ rm.cells) (hn' : n' ≤ rm.slots) (hdg : decode cc pc = .ok (.invokespecial index, 3)) (hq : pc + 3 = q) (kk : ∀ u, G (wk X k' n') D nL (ws' u) lv q rest) : G (wk X k n) D nL ws lv pc (.ref b :: rest) := by
  obtain ⟨p, l, e, R, s, m, args, below, meth, c, Q, A, k0, n0⟩ := X
  obtain ⟨hx, hb, hml, hown, hts, hK, hA, hN, hR, hret, hk0, hn0⟩ := hC
  subst hq
  subst hR
  subst hnw
  subst hk
  subst hn
  simp only [Bool.and_eq_true] at hchk
  obtain ⟨hchk, hndC⟩ := hchk
  have hall : isC.all (fun i => decide (i < ws.length)) = true := by
    simp only [g_chk, Bool.and_eq_true] at hchk
    exact hchk.1.1.1.1.1
  have hao' : va_AO "LinenLaw$Sheet" s := hao
  intro H locs ls hP hD hS hl
  have hpre : ∀ U : State, U.heap = H → s.WarmedH U.vm → PA D tysC [.ref b] wc H.size ([.ref b] : List Value).toArray U := fun U hU hW => ⟨g_pre isC isT hCw hall hndC hT hP hD hK hN U hU hW, va_AO.moved hW.alike hao'⟩
  refine g_joinA (wc := wc) (w1 := w1) (rest := rest) (a := ([.ref b] : List Value).toArray) ?_ hP hD hS hA hl isC isR perm hCw hn1 hchk hp kk
  exact va_runIN (As := []) ⟨hx, hb, hml, hown, hts⟩ (hM.2.2 l H.size) ⟨va_cnB 0 hts hG hw hM.1 hM.2.1 (hN _ hnest) (hts _ hini) hd hRm, hy1, hts _ hinst⟩ ⟨PA_blind, hpre⟩ rfl rfl hl.1 rfl (lv_room h8) hdg ⟨hk', hn'⟩
theorem g_callI (hC : Cx (wk X k n) cc nL own Ts D tys rm ret) (hao : AoX X) {y : MethodName} {wsy wsy' : List Cond} {rmy : Room} {tysC : List (ClassId × FieldType)} {rest : List Value} {wc : va_W} {w1 ws' : (Nat → Nat) → va_W} {index maxL nw n1 mc ms b : Nat} {bytes : ByteArray} (hG : GoodIn Ts wsy) (hlk : Cond.methodLink own index y ∈ Ts) (hini : Cond.initialized y.cls ∈ Ts) (hinst : Cond.instanceMethod y ∈ Ts) (hd : y.cls ≠ "java/lang/invoke/MethodHandle" ∧ y.cls ≠ "java/lang/invoke/VarHandle" ∧ (parseMethodDescriptor y.desc).map (fun d => d.parameters.length) = some 0) (hM : MA y wsy rmy D tysC [.ref b] wc mc ms w1) (hw : wsy = Cond.code y bytes maxL none :: wsy') (hy1 : y.name = "<init>") (hRm : rmy.frames + 1 ≤ rm.frames ∧ 8 + (maxL + 11) + rmy.locals ≤ rm.locals) (isC isR perm isT : List Nat) (hCw : isC.filterMap (fun i => ws[i]?) = wc) (hT : isT.filterMap (fun i => tys[i]?) = tysC) (hnw : ws.length = nw) (hn1 : ∀ u, (w1 u).length = n1) (hchk : (g_chk isC isR perm nw n1 && va_nd isC) = true) (hp : ∀ u, perm.filterMap (fun i => (isR.filterMap (fun i => ws[i]?) ++ w1 u)[i]?) = ws' u) (h8 : (rest.map fun v => v.category).sum ≤ 8) (hk : k + mc = k') (hn : n + ms = n') (hk' : k' ≤ rm.cells) (hn' : n' ≤ rm.slots) (hdg : decode cc pc = .ok (.invokespecial index, 3)) (hq : pc + 3 = q) (kk : ∀ u, G (wk X k' n') D nL (ws' u) lv q rest) : G (wk X k n) D nL ws lv pc (.ref b :: rest) := by
  obtain ⟨p, l, e, R, s, m, args, below, meth, c, Q, A, k0, n0⟩ := X
  obtain ⟨hx, hb, hml, hown, hts, hK, hA, hN, hR, hret, hk0, hn0⟩ := hC
  subst hq
  subst hR
  subst hnw
  subst hk
  subst hn
  simp only [Bool.and_eq_true] at hchk
  obtain ⟨hchk, hndC⟩ := hchk
  have hall : isC.all (fun i => decide (i < ws.length)) = true := by
    simp only [g_chk, Bool.and_eq_true] at hchk
    exact hchk.1.1.1.1.1
  have hao' : va_AO "LinenLaw$Sheet" s := hao
  intro H locs ls hP hD hS hl
  have hpre : ∀ U : State, U.heap = H → s.WarmedH U.vm → PA D tysC [.ref b] wc H.size ([.ref b] : List Value).toArray U := fun U hU hW => ⟨g_pre isC isT hCw hall hndC hT hP hD hK hN U hU hW, va_AO.moved hW.alike hao'⟩
  refine g_joinA (wc := wc) (w1 := w1) (rest := rest) (a := ([.ref b] : List Value).toArray) ?_ hP hD hS hA hl isC isR perm hCw hn1 hchk hp kk
  exact va_runI (As := []) ⟨hx, hb, hml, hown, hts⟩ (hM.2.2 l H.size) (cwI 0 hts hG hw hM.1 hM.2.1 (hts _ hini) (hts _ hlk) (hts _ hinst) hy1 hd hRm) ⟨PA_blind, hpre⟩ rfl rfl hl.1 rfl (lv_room h8) hdg ⟨hk', hn'⟩
end GA
