/-! own rows: contracts of methods that may throw -/
def xN (i : Nat) : String := if i = 1 then "java/lang/IllegalArgumentException" else if i = 2 then "java/lang/IndexOutOfBoundsException" else "java/lang/IllegalStateException"
def xUp : List String := ["java/lang/RuntimeException", "java/lang/Exception"]
def xW : List Cond := [.declares (Bundle.initS "java/lang/RuntimeException"), .declares (Bundle.initS "java/lang/Exception"), .declares (Bundle.initS Bundle.tN), .castable (xN 1) (xN 1), .castable (xN 2) (xN 2), .castable (xN 3) (xN 3)]
def xS : List (Nat × String) := [(42, "groups or pots out of range"), (60, "no such team or region"), (175, "a ball was drawn"), (72, "no such region"), (74, "bound out of range"), (169, "no such team"), (173, "both teams are the same"), (104, "all balls were drawn, or there is no open result"), (111, "no such ball"), (121, "none was drawn"), (145, "no such group or pot"), (171, "no such team or group")]
def mX (A : Nat → Prop) (U : State) (H : Heap) : Prop :=
  (∀ w ∈ xW, va_Nw w U) ∧ vx_Zq Bundle.tN "UNASSIGNED_STACK" Bundle.steD A U H ∧ vx_Zq Bundle.tN "SUPPRESSED_SENTINEL" Bundle.listD A U H ∧ (∀ z ∈ xS, ∃ a, vk_R RX2 z.1 z.2 a U) ∧ ∀ i, i < 4 → ∀ j, j < 4 → xN i ≠ xN j → va_Nc (xN i) (xN j) U
theorem xW.warm {s U : State} (hW : s.WarmedH U.vm) (h : ∀ w ∈ xW, va_Nw w s) : ∀ w ∈ xW, va_Nw w U := by
  intro w hw
  have h1 := h w hw
  simp only [xW, List.mem_cons, List.not_mem_nil, or_false] at hw
  rcases hw with rfl | rfl | rfl | rfl | rfl | rfl
  · exact va_Nw.warmD hW h1
  · exact va_Nw.warmD hW h1
  · exact va_Nw.warmD hW h1
  · exact va_Nw.warmC hW h1
  · exact va_Nw.warmC hW h1
  · exact va_Nw.warmC hW h1
theorem xW.same {u U : State} (hv : u.vm = U.vm) (h : ∀ w ∈ xW, va_Nw w u) : ∀ w ∈ xW, va_Nw w U := by
  intro w hw
  have h1 := h w hw
  simp only [xW, List.mem_cons, List.not_mem_nil, or_false] at hw
  rcases hw with rfl | rfl | rfl | rfl | rfl | rfl <;> exact va_Nw.same rfl hv h1
theorem mX.call {A B : Nat → Prop} {s U : State} {H : Heap} {locs : List Loc} (hX : mX A s s.heap) (hS : va_S A s.heap H locs) (hU : U.heap = H) (hW : s.WarmedH U.vm) (hBA : ∀ q, B q → A q) : mX B U U.heap := by
  obtain ⟨h1, h2, h3, h4, h5⟩ := hX
  refine ⟨xW.warm hW h1, ?_, ?_, fun z hz => ?_, fun i hi j hj hij => va_Nc.moved hW.alike (h5 i hi j hj hij)⟩
  · rw [hU]; exact ((h2.kept hS.2.1).moved hW.alike).narrow hBA
  · rw [hU]; exact ((h3.kept hS.2.1).moved hW.alike).narrow hBA
  · obtain ⟨a, ha⟩ := h4 z hz
    exact ⟨a, vk_R.warm hW ha⟩
def mPreX (D : va_G) (tys : mTy) (wc : va_W) (av : List Value) (sz : Nat) : Array Value → State → Prop :=
  va_Pc av (fun U => U.heap.size = sz ∧ va_P D vwCl wc U.heap ∧ va_K D vwCl tys U ∧ va_D (fun _ => True) wc ∧ mN U ∧ mX (va_A wc sz) U U.heap)
theorem mPreX.blind {D : va_G} {tys : mTy} {wc : va_W} {av : List Value} {sz : Nat} : FrameBlind (mPreX D tys wc av sz) := fun a U g mk q => by
  obtain ⟨q0, q1, qP, qK, qD, qN, q2, q3, q4, q5, q6⟩ := q
  refine ⟨q0, q1, qP, va_K.moved (u := U) (U := U.calling g mk a) (Vm.Alike.refl U.vm) qK, qD, mN.same (u := U) (U := U.calling g mk a) rfl qN, xW.same (u := U) (U := U.calling g mk a) rfl q2, ?_, ?_, fun z hz => ?_, fun i hi j hj hij => va_Nc.moved (u := U) (U := U.calling g mk a) (Vm.Alike.refl U.vm) (q6 i hi j hj hij)⟩
  · exact vx_Zq.moved (u := U) (U := U.calling g mk a) (Vm.Alike.refl U.vm) q3
  · exact vx_Zq.moved (u := U) (U := U.calling g mk a) (Vm.Alike.refl U.vm) q4
  · obtain ⟨b, hb⟩ := q5 z hz
    exact ⟨b, vk_R.same (u := U) (U := U.calling g mk a) rfl hb⟩
def xXC (D : va_G) (tys : mTy) {S2 : Type} (px : Nat → S2 → Prop) (wx : S2 → va_W) (A : Nat → Prop) : String → State → State → Prop :=
  vx_X (S := Nat × S2) (fun z => px z.1 z.2) (fun E z t => E = xN z.1 ∧ mAt D tys A (wx z.2) t) A
def Xi (l : Launch) (y : MethodName) (ws : List Cond) (rm : Room) (D : va_G) (tys : mTy) (av : List Value) (wc : va_W) {S S2 : Type} (post : Int32 → S → Prop) (w1 : S → va_W) (px : Nat → S2 → Prop) (wx : S2 → va_W) : Prop :=
  ∀ sz : Nat, vx_Met l y ws rm (mPreX D tys wc av sz) (va_Qi post (fun u t => mAt D tys (va_A wc sz) (w1 u) t) (va_A wc sz)) (xXC D tys px wx (va_A wc sz)) rm.cells rm.slots (va_A wc sz)
def Xv (l : Launch) (y : MethodName) (ws : List Cond) (rm : Room) (D : va_G) (tys : mTy) (av : List Value) (wc : va_W) {S S2 : Type} (post : S → Prop) (w1 : S → va_W) (px : Nat → S2 → Prop) (wx : S2 → va_W) : Prop :=
  ∀ sz : Nat, vx_Met l y ws rm (mPreX D tys wc av sz) (va_Qv post (fun u t => mAt D tys (va_A wc sz) (w1 u) t) (va_A wc sz)) (xXC D tys px wx (va_A wc sz)) rm.cells rm.slots (va_A wc sz)
/-- a place that throws 'new E("text")' -/
def xTS (cc : ByteArray) (own : String) (i pc : Nat) (args : Array Value) (s : State) : Prop :=
  ∃ (ik is ic sa : Nat) (text : String), Bundle.fit (xN i) = true ∧ (Cond.classLink own ik (xN i)).before args s = true ∧ (Cond.initialized (xN i)).before args s = true ∧ vk_R own is text sa s ∧ (∀ w ∈ vx_atS own ic (xN i) xUp, w.before args s = true) ∧
    (∀ w ∈ Cond.classLink own ik (xN i) :: Cond.initialized (xN i) :: vx_atS own ic (xN i) xUp, vx_ot w = true) ∧
    decode cc pc = .ok (.new ik, 3) ∧ decode cc (pc + 3) = .ok (.dup, 1) ∧ decode cc (pc + 4) = .ok (.ldc is, 2) ∧ decode cc (pc + 6) = .ok (.invokespecial ic, 3) ∧ decode cc (pc + 9) = .ok (.athrow, 1)
/-- the rules of a body that may throw: it throws here; a callee threw -/
def xRT (l : Launch) (rm : Room) (D : va_G) (own : String) (cc : ByteArray) (maxL : Nat) {S2 : Type} (px : Nat → S2 → Prop) (wx : S2 → va_W) (p : Program) (e : Env) (s : State) (m : MethodId) (args : Array Value) (below : List Frame) (meth : Method) (c : Code) (A : Nat → Prop) (Q : State → Prop) : Prop :=
  (∀ {H : Heap} {locs : List Loc} {pc : Nat} {ls : Array Slot} {rest : List Value} (i : Nat) (u : S2) {k n : Nat}, px i u → va_P D vwCl (wx u) H → va_D A (wx u) → va_S A s.heap H locs → xTS cc own i pc args s → k + 1 ≤ rm.cells → n + 6 ≤ rm.slots → ls.size = maxL → (rest.map fun v => v.category).sum ≤ 8 → 5 < rm.frames → 90 ≤ rm.locals →
    W p l e rm s m args below meth c H locs k n Q (F0 m pc ls rest)) ∧
  (∀ {H : Heap} {locs : List Loc} {pc : Nat} {ls : Array Slot} {rest : List Value} {E : String} {ce : Cell} {q : Addr} (i : Nat) (u : S2) {k n : Nat}, E = xN i → px i u → va_P D vwCl (wx u) H → va_D A (wx u) → va_S A s.heap H locs → H[q]? = some ce → ce.vm = .none → s.vm.findClass E = some ce.cls → k ≤ rm.cells → n ≤ rm.slots →
    vx_W p l e rm s m args below meth c H locs k n Q (F0 m pc ls rest) q)
def xGo (l : Launch) (y : MethodName) (ws : List Cond) (rm : Room) (D : va_G) (tys : mTy) (av : List Value) (wc : va_W) (cc : ByteArray) (maxL : Nat) (Ret : Program → Env → State → MethodId → Array Value → List Frame → Method → Code → (Nat → Prop) → (State → Prop) → Prop) : Prop :=
  ∀ (p : Program) (e : Env) (s : State) (m : MethodId) (args : Array Value) (below : List Frame) (meth : Method) (c : Code) (A : Nat → Prop) (Q : State → Prop) (ls : Array Slot),
    p.tables.exec = Jvm.exec → c.code = cc → c.maxLocals = maxL → s.vm.findClass y.cls = some m.cls → (∀ w ∈ ws, w.before args s = true) → (meth.name = y.name) → mN s →
    va_K D vwCl tys s → va_P D vwCl wc s.heap → va_D A wc → va_S A s.heap s.heap [] → (∀ q : Nat, s.heap.size ≤ q → A q) → lv_has ls maxL (lv_args 0 av) → mX A s s.heap →
    Ret p e s m args below meth c A Q →
    W p l e rm s m args below meth c s.heap [] 0 0 Q (F0 m 0 ls [])
theorem va_P.stay {D : va_G} {w : va_W} {H H1 : Heap} (hP : va_P D vwCl w H) (h : ∀ q : Nat, q < H.size → H1[q]? = H[q]?) : va_P D vwCl w H1 := hP.kept (fun k x hx => h x.1 ((hP k x hx).lt))
theorem xRT_of {l : Launch} {rm : Room} {D : va_G} {own : String} {cc : ByteArray} {maxL : Nat} {S2 : Type} {px : Nat → S2 → Prop} {wx : S2 → va_W} {p : Program} {e : Env} {s : State} {m : MethodId} {args : Array Value} {below : List Frame} {meth : Method} {c : Code} {A : Nat → Prop} {tys : mTy} {Qc : Array Value → State → Outcome → State → Prop}
    (hst : l.stackTraces = false) (hexec : p.tables.exec = Jvm.exec) (hb : c.code = cc) (hml : c.maxLocals = maxL) (hown : s.vm.findClass own = some m.cls) (hout : ∀ x ∈ c.exceptionTable.toList, False) (hlocks : meth.locks = false) (hK : va_K D vwCl tys s) (hX : mX A s s.heap) :
    xRT l rm D own cc maxL px wx p e s m args below meth c A (vx_MQ below Qc (xXC D tys px wx A) args s rm.cells rm.slots A) := by
  constructor
  · intro H locs pc ls rest i u k n hpx hP hD hS hts hk hn hls hro hfr hlo
    obtain ⟨ik, is, ic, sa, text, t1, t2, t3, t4, t5, t6, d0, d3, d4, d6, d9⟩ := hts
    refine vx_throwS hexec hb hst (own := own) (cls := xN i) (text := text) (names := xUp) (A := A) hown t1 (by decide +kernel) t2 t3 t4 t5 t6 hX.2.1 hX.2.2.1 hS (by rw [hls, hml]) d0 d3 d4 d6 d9 (fun x hx => absurd (hout x hx) id) (by show 2 + 3 < rm.frames; omega) (by show _ + (13 * (2 + 1) + 43) ≤ rm.locals; omega) hk hn hlocks (fun t ht hsz hkeep => ?_) hS.2.2 hk hn
    refine ⟨(i, u), hpx, ⟨rfl, hP.stay hkeep, va_K.moved ht hK, hD⟩, Nat.le_trans hS.1 hsz, fun q h1 h2 => ?_⟩
    rw [hkeep q (Nat.lt_of_lt_of_le h1 hS.1)]
    exact hS.2.1 q h1 h2
  · intro H locs pc ls rest E ce q i u k n hE hpx hP hD hS hq hv hcl hk hn
    refine vx_out (fun x hx => absurd (hout x hx) id) hlocks hq hv hcl (fun t ht hvm => ?_) hS.2.2 hk hn
    refine ⟨(i, u), hpx, ⟨hE, by rw [ht]; exact hP, va_K.moved hvm hK, hD⟩, by rw [ht]; exact hS.1, fun z h1 h2 => by rw [ht]; exact hS.2.1 z h1 h2⟩
theorem Xi_of {l : Launch} {y : MethodName} {ws ws' : List Cond} {rm : Room} {D : va_G} {tys : mTy} {av : List Value} {wc : va_W} {S S2 : Type} {post : Int32 → S → Prop} {w1 : S → va_W} {px : Nat → S2 → Prop} {wx : S2 → va_W} {cc : ByteArray} {maxL : Nat} {ty : FieldType}
    (hst : l.stackTraces = false) (hy : plainName y.cls = true) (hw : ws = Cond.code y cc maxL (some ty) :: ws') (hm : (lg_sl av).length ≤ maxL)
    (body : xGo l y ws rm D tys av wc cc maxL (fun p e s m args below meth c A Q => mRi l rm D cc ty post w1 p e s m args below meth c A Q ∧ xRT l rm D y.cls cc maxL px wx p e s m args below meth c A Q)) : Xi l y ws rm D tys av wc post w1 px wx := by
  intro sz
  refine vx_ofW (cc := cc) (maxL := maxL) (ret := some ty) hy hw ?_
  intro p e s m args below meth c s₁ B hml hout hv
  obtain ⟨rfl, hsz, hP, hK, hD0, hN, hX⟩ := hv
  subst hsz
  have hD := hD0.self (sz := s.heap.size)
  have hts := atoms_spec (ws := ws) B.pre
  have hl := lv_entry av (n := maxL) hm
  rw [lg_entry_eq]
  have hown := findClass_of_methodNamed B.named
  refine body p e s m av.toArray below meth c (va_A wc s.heap.size) _ _ B.exec B.bytes hml hown hts (name_of_methodNamed B.named B.method).1 hN hK hP hD va_S.rf (fun q h => Or.inr h) hl hX ⟨?_, xRT_of hst B.exec B.bytes hml hown hout B.notSynchronized hK hX⟩
  intro H locs pc ls r u k n hp hna hP1 hD1 hS hk hn hdg
  refine vx_ret ?_
  refine W.widen (k := rm.cells) (n := rm.slots) hk hn ?_
  exact W.zret B.exec B.bytes B.returns hna (fun t ht hW => ⟨⟨r, u, rfl, hp, by rw [ht]; exact hP1, va_K.moved hW.alike hK, hD1⟩, hS.F ht⟩) hS.2.2 hdg B.notSynchronized
theorem Xv_of {l : Launch} {y : MethodName} {ws ws' : List Cond} {rm : Room} {D : va_G} {tys : mTy} {av : List Value} {wc : va_W} {S S2 : Type} {post : S → Prop} {w1 : S → va_W} {px : Nat → S2 → Prop} {wx : S2 → va_W} {cc : ByteArray} {maxL : Nat}
    (hst : l.stackTraces = false) (hy : plainName y.cls = true) (hw : ws = Cond.code y cc maxL none :: ws') (hm : (lg_sl av).length ≤ maxL)
    (body : xGo l y ws rm D tys av wc cc maxL (fun p e s m args below meth c A Q => mRv l rm D cc post w1 p e s m args below meth c A Q ∧ xRT l rm D y.cls cc maxL px wx p e s m args below meth c A Q)) : Xv l y ws rm D tys av wc post w1 px wx := by
  intro sz
  refine vx_ofW (cc := cc) (maxL := maxL) (ret := none) hy hw ?_
  intro p e s m args below meth c s₁ B hml hout hv
  obtain ⟨rfl, hsz, hP, hK, hD0, hN, hX⟩ := hv
  subst hsz
  have hD := hD0.self (sz := s.heap.size)
  have hts := atoms_spec (ws := ws) B.pre
  have hl := lv_entry av (n := maxL) hm
  rw [lg_entry_eq]
  have hown := findClass_of_methodNamed B.named
  refine body p e s m av.toArray below meth c (va_A wc s.heap.size) _ _ B.exec B.bytes hml hown hts (name_of_methodNamed B.named B.method).1 hN hK hP hD va_S.rf (fun q h => Or.inr h) hl hX ⟨?_, xRT_of hst B.exec B.bytes hml hown hout B.notSynchronized hK hX⟩
  intro H locs pc ls u k n hp hP1 hD1 hS hk hn hdg
  refine vx_ret ?_
  refine W.widen (k := rm.cells) (n := rm.slots) hk hn ?_
  exact W.vret B.exec B.bytes B.returns (fun t ht hW => ⟨⟨u, rfl, hp, by rw [ht]; exact hP1, va_K.moved hW.alike hK, hD1⟩, hS.F ht⟩) hS.2.2 hdg B.notSynchronized
section XC
variable {p : Program} {l : Launch} {e : Env} {R : Room} {s : State} {m : MethodId} {args : Array Value} {below : List Frame} {meth : Method} {c : Code} {H : Heap} {locs : List Loc} {cells slots k n : Nat} {Q : State → Prop}
variable {cc bytes : ByteArray} {nL maxL index nn pc : Nat} {ret : Option FieldType} {own C : String} {Ts ws : List Cond} {rm : Room} {D : va_G} {tys tyc : mTy} {wc wr ws0 : va_W} {A : Nat → Prop} {y : MethodName} {av As rest st0 : List Value} {b : Nat} {S S2 : Type} {ls : Array Slot} {w1 : S → va_W} {px : Nat → S2 → Prop} {wx : S2 → va_W}
theorem mPreVX (hN : mN s) (hX : mX A s s.heap) (hK : va_K D vwCl tys s) (hP : va_P D vwCl ws0 H) (hD : va_D A ws0) (hS : va_S A s.heap H locs) (hA : ∀ q : Nat, s.heap.size ≤ q → A q) (isC tC : List Nat) (hC : isC.map (fun i => ws0[i]?) = wc.map some) (hn : va_nd isC = true) (hty : tC.filterMap (fun i => tys[i]?) = tyc) :
    ∀ U : State, U.heap = H → s.WarmedH U.vm → mPreX D tyc wc av H.size av.toArray U := by
  intro U hU hW
  obtain ⟨q0, q1, q2, q3, q4, q5⟩ := mPreV (av := av) hN hK hP hD isC tC hC hn hty U hU hW
  exact ⟨q0, q1, q2, q3, q4, q5, hX.call hS hU hW (va_free hD hS hA isC hC)⟩
theorem subP (hP : va_P D vwCl ws0 H) (isC : List Nat) (hC : isC.map (fun i => ws0[i]?) = wc.map some) : va_P D vwCl wc H := by
  intro k q hk
  have h1 : (isC.map (fun i => ws0[i]?))[k]? = some (some q) := by rw [hC, List.getElem?_map, hk]; rfl
  rw [List.getElem?_map] at h1
  cases hi : isC[k]? with
  | none => rw [hi] at h1; cases h1
  | some i =>
    rw [hi] at h1
    exact hP i q (Option.some.inj h1)
/-- a call that may throw: an int comes back, or the callee threw -/
theorem x_calli {post : Int32 → S → Prop} (F : CallFix p m c cc nL s args Ts own) (hN : mN s) (hX : mX A s s.heap) (hM : Xi l y ws rm D tyc av wc post w1 px wx) (cw : CallW R s args own C index y bytes maxL ret ws rm rm.cells rm.slots nn)
    (hK : va_K D vwCl tys s) (hP : va_P D vwCl ws0 H) (hD : va_D A ws0) (hS : va_S A s.heap H locs) (hA : ∀ q : Nat, s.heap.size ≤ q → A q)
    (isC isR tC : List Nat) (hC : isC.map (fun i => ws0[i]?) = wc.map some) (hR : isR.map (fun i => ws0[i]?) = wr.map some) (hty : tC.filterMap (fun i => tys[i]?) = tyc) (hnC : va_nd isC = true) (hnR : va_nd isR = true) (hdis : ∀ i ∈ isR, i ∉ isC)
    (hav : av = .ref b :: As) (ci : Nat) {q : vw_C} {fs : List Value} (hci : vwCl[ci]? = some q) (he : wc[0]? = some (b, .inr (ci, fs))) (hq : q.1 = C)
    (hnn : As.length = nn) (hls : ls.size = nL) (hst : st0 = As.reverse ++ .ref b :: rest) (hro : (rest.map fun v => v.category).sum ≤ 8) (hdg : decode cc pc = .ok (.invokevirtual index, 3)) (hf : cells + rm.cells ≤ R.cells ∧ slots + rm.slots ≤ R.slots) (hk : cells + rm.cells = k) (hn : slots + rm.slots = n)
    (kx : ∀ (i : Nat) (u : S2) (E : String) (ce : Cell) (q9 : Addr) (H1 : Heap) (locs1 : List Loc), E = xN i → px i u → va_P D vwCl (wr ++ wx u) H1 → va_D A (wr ++ wx u) → va_S A s.heap H1 locs1 → H1[q9]? = some ce → ce.vm = .none → s.vm.findClass E = some ce.cls → vx_W p l e R s m args below meth c H1 locs1 k n Q (F0 m pc ls rest) q9)
    (kk : ∀ (r : Int32) (u : S) (H1 : Heap) (locs1 : List Loc), post r u → va_P D vwCl (wr ++ w1 u) H1 → va_D A (wr ++ w1 u) → va_S A s.heap H1 locs1 → W p l e R s m args below meth c H1 locs1 k n Q (F0 m (pc + 3) ls (.int r :: rest))) :
    W p l e R s m args below meth c H locs cells slots Q (F0 m pc ls st0) := by
  subst hav hk hn hq
  have hFc := va_free (wc := wc) hD hS hA isC hC
  have hpc := mPreVX (av := .ref b :: As) hN hX hK hP hD hS hA isC tC hC hnC hty
  refine vx_calli (vx_runV (As := As) (rest := rest) F (hM H.size) cw ⟨mPreX.blind, va_recv hK (subP hP isC hC) hci he, hpc⟩ rfl hnn hls hst (lv_room hro) hdg hf) hS (fun q _ h => hFc q h) hFc (fun q _ h => hFc q h) (fun E ce q9 u t H1 locs1 ht hvm hpx hB hz1 hk1 hS1 hq9 hv9 hcl => ?_) (fun r u t H1 locs1 ht hvm hw hB hz1 hk1 hS1 => ?_)
  · obtain ⟨hE, hP1, hK1, hD1⟩ := hB
    rw [ht] at hP1
    obtain ⟨hP2, hD2⟩ := mJoin hP hD isC isR hC hR hnR hdis hk1 hFc hP1 hD1
    exact kx u.1 u.2 E ce q9 H1 locs1 hE hpx hP2 hD2 hS1 hq9 hv9 hcl
  · obtain ⟨hP1, hK1, hD1⟩ := hB
    rw [ht] at hP1
    obtain ⟨hP2, hD2⟩ := mJoin hP hD isC isR hC hR hnR hdis hk1 hFc hP1 hD1
    exact kk r u H1 locs1 hw hP2 hD2 hS1
theorem x_callv {post : S → Prop} (F : CallFix p m c cc nL s args Ts own) (hN : mN s) (hX : mX A s s.heap) (hM : Xv l y ws rm D tyc av wc post w1 px wx) (cw : CallW R s args own C index y bytes maxL ret ws rm rm.cells rm.slots nn)
    (hK : va_K D vwCl tys s) (hP : va_P D vwCl ws0 H) (hD : va_D A ws0) (hS : va_S A s.heap H locs) (hA : ∀ q : Nat, s.heap.size ≤ q → A q)
    (isC isR tC : List Nat) (hC : isC.map (fun i => ws0[i]?) = wc.map some) (hR : isR.map (fun i => ws0[i]?) = wr.map some) (hty : tC.filterMap (fun i => tys[i]?) = tyc) (hnC : va_nd isC = true) (hnR : va_nd isR = true) (hdis : ∀ i ∈ isR, i ∉ isC)
    (hav : av = .ref b :: As) (ci : Nat) {q : vw_C} {fs : List Value} (hci : vwCl[ci]? = some q) (he : wc[0]? = some (b, .inr (ci, fs))) (hq : q.1 = C)
    (hnn : As.length = nn) (hls : ls.size = nL) (hst : st0 = As.reverse ++ .ref b :: rest) (hro : (rest.map fun v => v.category).sum ≤ 8) (hdg : decode cc pc = .ok (.invokevirtual index, 3)) (hf : cells + rm.cells ≤ R.cells ∧ slots + rm.slots ≤ R.slots) (hk : cells + rm.cells = k) (hn : slots + rm.slots = n)
    (kx : ∀ (i : Nat) (u : S2) (E : String) (ce : Cell) (q9 : Addr) (H1 : Heap) (locs1 : List Loc), E = xN i → px i u → va_P D vwCl (wr ++ wx u) H1 → va_D A (wr ++ wx u) → va_S A s.heap H1 locs1 → H1[q9]? = some ce → ce.vm = .none → s.vm.findClass E = some ce.cls → vx_W p l e R s m args below meth c H1 locs1 k n Q (F0 m pc ls rest) q9)
    (kk : ∀ (u : S) (H1 : Heap) (locs1 : List Loc), post u → va_P D vwCl (wr ++ w1 u) H1 → va_D A (wr ++ w1 u) → va_S A s.heap H1 locs1 → W p l e R s m args below meth c H1 locs1 k n Q (F0 m (pc + 3) ls rest)) :
    W p l e R s m args below meth c H locs cells slots Q (F0 m pc ls st0) := by
  subst hav hk hn hq
  have hFc := va_free (wc := wc) hD hS hA isC hC
  have hpc := mPreVX (av := .ref b :: As) hN hX hK hP hD hS hA isC tC hC hnC hty
  refine vx_callv (vx_runV (As := As) (rest := rest) F (hM H.size) cw ⟨mPreX.blind, va_recv hK (subP hP isC hC) hci he, hpc⟩ rfl hnn hls hst (lv_room hro) hdg hf) hS (fun q _ h => hFc q h) hFc (fun q _ h => hFc q h) (fun E ce q9 u t H1 locs1 ht hvm hpx hB hz1 hk1 hS1 hq9 hv9 hcl => ?_) (fun u t H1 locs1 ht hvm hw hB hz1 hk1 hS1 => ?_)
  · obtain ⟨hE, hP1, hK1, hD1⟩ := hB
    rw [ht] at hP1
    obtain ⟨hP2, hD2⟩ := mJoin hP hD isC isR hC hR hnR hdis hk1 hFc hP1 hD1
    exact kx u.1 u.2 E ce q9 H1 locs1 hE hpx hP2 hD2 hS1 hq9 hv9 hcl
  · obtain ⟨hP1, hK1, hD1⟩ := hB
    rw [ht] at hP1
    obtain ⟨hP2, hD2⟩ := mJoin hP hD isC isR hC hR hnR hdis hk1 hFc hP1 hD1
    exact kk u H1 locs1 hw hP2 hD2 hS1
end XC
theorem xG1 {ic : Nat} : True := trivial
