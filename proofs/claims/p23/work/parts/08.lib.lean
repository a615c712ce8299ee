/-! own rows: one form for all contracts, and a row a call -/
def mW : List Cond := [.methodLinkNest RX2 9 yX0_init RX2, .methodLinkNest RX2 18 yX1_init RX2, .fieldLinkNest RX2 147 RX0 "groups" "I" RX2, .fieldLinkNest RX2 127 RX0 "pots" "I" RX2, .fieldLinkNest RX2 47 RX0 "teams" "I" RX2, .fieldLinkNest RX2 66 RX0 "regions" "[I" RX2, .fieldLinkNest RX2 76 RX0 "bounds" "[I" RX2, .fieldLinkNest RX2 82 RX0 "apart" "[I" RX2, .fieldLinkNest RX2 89 RX0 "otherDays" "[I" RX2, .fieldLinkNest RX2 99 RX1 "size" "I" RX2]
def mN (U : State) : Prop := ∀ w ∈ mW, va_Nw w U
theorem mN.warm {s U : State} (hW : s.WarmedH U.vm) (h : mN s) : mN U := by
  intro w hw
  have h1 := h w hw
  simp only [mW, List.mem_cons, List.not_mem_nil, or_false] at hw
  rcases hw with rfl | rfl | rfl | rfl | rfl | rfl | rfl | rfl | rfl | rfl
  · exact va_Nw.warmM hW h1
  · exact va_Nw.warmM hW h1
  · exact va_Nw.warmF hW h1
  · exact va_Nw.warmF hW h1
  · exact va_Nw.warmF hW h1
  · exact va_Nw.warmF hW h1
  · exact va_Nw.warmF hW h1
  · exact va_Nw.warmF hW h1
  · exact va_Nw.warmF hW h1
  · exact va_Nw.warmF hW h1
theorem mN.same {u U : State} (hv : u.vm = U.vm) (h : mN u) : mN U := by
  intro w hw
  have h1 := h w hw
  simp only [mW, List.mem_cons, List.not_mem_nil, or_false] at hw
  rcases hw with rfl | rfl | rfl | rfl | rfl | rfl | rfl | rfl | rfl | rfl <;> exact va_Nw.same rfl hv h1
abbrev mTy : Type := List (ClassId × FieldType)
def mPre (D : va_G) (tys : mTy) (wc : va_W) (av : List Value) (sz : Nat) : Array Value → State → Prop :=
  va_Pc av (fun U => U.heap.size = sz ∧ va_P D vwCl wc U.heap ∧ va_K D vwCl tys U ∧ va_D (fun _ => True) wc ∧ mN U)
def mAt (D : va_G) (tys : mTy) (A : Nat → Prop) (w : va_W) (t : State) : Prop := va_P D vwCl w t.heap ∧ va_K D vwCl tys t ∧ va_D A w
/-- contracts: an int (boolean) comes back; nothing; a reference -/
def Ci (l : Launch) (y : MethodName) (ws : List Cond) (rm : Room) (D : va_G) (tys : mTy) (av : List Value) (wc : va_W) {S : Type} (post : Int32 → S → Prop) (w1 : S → va_W) : Prop :=
  ∀ sz : Nat, Met l y ws rm (mPre D tys wc av sz) (va_Qi post (fun u t => mAt D tys (va_A wc sz) (w1 u) t) (va_A wc sz)) rm.cells rm.slots (va_A wc sz)
def Cv (l : Launch) (y : MethodName) (ws : List Cond) (rm : Room) (D : va_G) (tys : mTy) (av : List Value) (wc : va_W) {S : Type} (post : S → Prop) (w1 : S → va_W) : Prop :=
  ∀ sz : Nat, Met l y ws rm (mPre D tys wc av sz) (va_Qv post (fun u t => mAt D tys (va_A wc sz) (w1 u) t) (va_A wc sz)) rm.cells rm.slots (va_A wc sz)
def Cr (l : Launch) (y : MethodName) (ws : List Cond) (rm : Room) (D : va_G) (tys : mTy) (av : List Value) (wc : va_W) {S : Type} (ra : Nat) (post : S → Prop) (w1 : S → va_W) : Prop :=
  ∀ sz : Nat, Met l y ws rm (mPre D tys wc av sz) (va_Qr post (fun u a t => a = ra ∧ mAt D tys (va_A wc sz) (w1 u) t) (va_A wc sz)) rm.cells rm.slots (va_A wc sz)
theorem mPre.blind {D : va_G} {tys : mTy} {wc : va_W} {av : List Value} {sz : Nat} : FrameBlind (mPre D tys wc av sz) := fun a U g mk q => by
  obtain ⟨q0, q1, qP, qK, qD, qN⟩ := q
  exact ⟨q0, q1, qP, va_K.moved (u := U) (U := U.calling g mk a) (Vm.Alike.refl U.vm) qK, qD, mN.same (u := U) (U := U.calling g mk a) rfl qN⟩
/-- what a body knows at its entry -/
def mGo (l : Launch) (y : MethodName) (ws : List Cond) (rm : Room) (D : va_G) (tys : mTy) (av : List Value) (wc : va_W) (cc : ByteArray) (maxL : Nat) (Ret : Program → Env → State → MethodId → Array Value → List Frame → Method → Code → (Nat → Prop) → (State → Prop) → Prop) : Prop :=
  ∀ (p : Program) (e : Env) (s : State) (m : MethodId) (args : Array Value) (below : List Frame) (meth : Method) (c : Code) (A : Nat → Prop) (Q : State → Prop) (ls : Array Slot),
    p.tables.exec = Jvm.exec → c.code = cc → c.maxLocals = maxL → s.vm.findClass y.cls = some m.cls → (∀ w ∈ ws, w.before args s = true) → (meth.name = y.name) → mN s →
    va_K D vwCl tys s → va_P D vwCl wc s.heap → va_D A wc → va_S A s.heap s.heap [] → (∀ q : Nat, s.heap.size ≤ q → A q) → lv_has ls maxL (lv_args 0 av) →
    Ret p e s m args below meth c A Q →
    W p l e rm s m args below meth c s.heap [] 0 0 Q (F0 m 0 ls [])
def mRi (l : Launch) (rm : Room) (D : va_G) (cc : ByteArray) (ty : FieldType) {S : Type} (post : Int32 → S → Prop) (w1 : S → va_W) (p : Program) (e : Env) (s : State) (m : MethodId) (args : Array Value) (below : List Frame) (meth : Method) (c : Code) (A : Nat → Prop) (Q : State → Prop) : Prop :=
  ∀ {H : Heap} {locs : List Loc} {pc : Nat} {ls : Array Slot} {r : Int32} (u : S) {k n : Nat}, post r u → narrow ty (.int r) = .int r → va_P D vwCl (w1 u) H → va_D A (w1 u) → va_S A s.heap H locs → k ≤ rm.cells → n ≤ rm.slots → decode cc pc = .ok (.ireturn, 1) →
    W p l e rm s m args below meth c H locs k n Q (F0 m pc ls [.int r])
def mRv (l : Launch) (rm : Room) (D : va_G) (cc : ByteArray) {S : Type} (post : S → Prop) (w1 : S → va_W) (p : Program) (e : Env) (s : State) (m : MethodId) (args : Array Value) (below : List Frame) (meth : Method) (c : Code) (A : Nat → Prop) (Q : State → Prop) : Prop :=
  ∀ {H : Heap} {locs : List Loc} {pc : Nat} {ls : Array Slot} (u : S) {k n : Nat}, post u → va_P D vwCl (w1 u) H → va_D A (w1 u) → va_S A s.heap H locs → k ≤ rm.cells → n ≤ rm.slots → decode cc pc = .ok (.return_, 1) →
    W p l e rm s m args below meth c H locs k n Q (F0 m pc ls [])
def mRr (l : Launch) (rm : Room) (D : va_G) (cc : ByteArray) {S : Type} (ra : Nat) (post : S → Prop) (w1 : S → va_W) (p : Program) (e : Env) (s : State) (m : MethodId) (args : Array Value) (below : List Frame) (meth : Method) (c : Code) (A : Nat → Prop) (Q : State → Prop) : Prop :=
  ∀ {H : Heap} {locs : List Loc} {pc : Nat} {ls : Array Slot} (u : S) {k n : Nat}, post u → va_P D vwCl (w1 u) H → va_D A (w1 u) → va_S A s.heap H locs → k ≤ rm.cells → n ≤ rm.slots → decode cc pc = .ok (.areturn, 1) →
    W p l e rm s m args below meth c H locs k n Q (F0 m pc ls [.ref ra])
theorem Ci_of {l : Launch} {y : MethodName} {ws ws' : List Cond} {rm : Room} {D : va_G} {tys : mTy} {av : List Value} {wc : va_W} {S : Type} {post : Int32 → S → Prop} {w1 : S → va_W} {cc : ByteArray} {maxL : Nat} {ty : FieldType}
    (hy : plainName y.cls = true) (hw : ws = Cond.code y cc maxL (some ty) :: ws') (hm : (lg_sl av).length ≤ maxL)
    (body : mGo l y ws rm D tys av wc cc maxL (mRi l rm D cc ty post w1)) : Ci l y ws rm D tys av wc post w1 := by
  intro sz
  refine Met.ofW (cc := cc) (maxL := maxL) (ret := some ty) hy hw ?_
  intro p e s m args below meth c s₁ B hml hv
  obtain ⟨rfl, hsz, hP, hK, hD0, hN⟩ := hv
  subst hsz
  have hD := hD0.self (sz := s.heap.size)
  have hts := atoms_spec (ws := ws) B.pre
  have hl := lv_entry av (n := maxL) hm
  rw [lg_entry_eq]
  refine body p e s m av.toArray below meth c (va_A wc s.heap.size) _ _ B.exec B.bytes hml (findClass_of_methodNamed B.named) hts (name_of_methodNamed B.named B.method).1 hN hK hP hD va_S.rf (fun q h => Or.inr h) hl ?_
  intro H locs pc ls r u k n hp hna hP1 hD1 hS hk hn hdg
  refine W.widen (k := rm.cells) (n := rm.slots) hk hn ?_
  exact W.zret B.exec B.bytes B.returns hna (fun t ht hW => ⟨⟨r, u, rfl, hp, by rw [ht]; exact hP1, va_K.moved hW.alike hK, hD1⟩, hS.F ht⟩) hS.2.2 hdg B.notSynchronized
theorem Cv_of {l : Launch} {y : MethodName} {ws ws' : List Cond} {rm : Room} {D : va_G} {tys : mTy} {av : List Value} {wc : va_W} {S : Type} {post : S → Prop} {w1 : S → va_W} {cc : ByteArray} {maxL : Nat}
    (hy : plainName y.cls = true) (hw : ws = Cond.code y cc maxL none :: ws') (hm : (lg_sl av).length ≤ maxL)
    (body : mGo l y ws rm D tys av wc cc maxL (mRv l rm D cc post w1)) : Cv l y ws rm D tys av wc post w1 := by
  intro sz
  refine Met.ofW (cc := cc) (maxL := maxL) (ret := none) hy hw ?_
  intro p e s m args below meth c s₁ B hml hv
  obtain ⟨rfl, hsz, hP, hK, hD0, hN⟩ := hv
  subst hsz
  have hD := hD0.self (sz := s.heap.size)
  have hts := atoms_spec (ws := ws) B.pre
  have hl := lv_entry av (n := maxL) hm
  rw [lg_entry_eq]
  refine body p e s m av.toArray below meth c (va_A wc s.heap.size) _ _ B.exec B.bytes hml (findClass_of_methodNamed B.named) hts (name_of_methodNamed B.named B.method).1 hN hK hP hD va_S.rf (fun q h => Or.inr h) hl ?_
  intro H locs pc ls u k n hp hP1 hD1 hS hk hn hdg
  refine W.widen (k := rm.cells) (n := rm.slots) hk hn ?_
  exact W.vret B.exec B.bytes B.returns (fun t ht hW => ⟨⟨u, rfl, hp, by rw [ht]; exact hP1, va_K.moved hW.alike hK, hD1⟩, hS.F ht⟩) hS.2.2 hdg B.notSynchronized
theorem Cr_of {l : Launch} {y : MethodName} {ws ws' : List Cond} {rm : Room} {D : va_G} {tys : mTy} {av : List Value} {wc : va_W} {S : Type} {ra : Nat} {post : S → Prop} {w1 : S → va_W} {cc : ByteArray} {maxL : Nat} {ty : String}
    (hy : plainName y.cls = true) (hw : ws = Cond.code y cc maxL (some (.object ty)) :: ws') (hm : (lg_sl av).length ≤ maxL)
    (body : mGo l y ws rm D tys av wc cc maxL (mRr l rm D cc ra post w1)) : Cr l y ws rm D tys av wc ra post w1 := by
  intro sz
  refine Met.ofW (cc := cc) (maxL := maxL) (ret := some (.object ty)) hy hw ?_
  intro p e s m args below meth c s₁ B hml hv
  obtain ⟨rfl, hsz, hP, hK, hD0, hN⟩ := hv
  subst hsz
  have hD := hD0.self (sz := s.heap.size)
  have hts := atoms_spec (ws := ws) B.pre
  have hl := lv_entry av (n := maxL) hm
  rw [lg_entry_eq]
  refine body p e s m av.toArray below meth c (va_A wc s.heap.size) _ _ B.exec B.bytes hml (findClass_of_methodNamed B.named) hts (name_of_methodNamed B.named B.method).1 hN hK hP hD va_S.rf (fun q h => Or.inr h) hl ?_
  intro H locs pc ls u k n hp hP1 hD1 hS hk hn hdg
  refine W.widen (k := rm.cells) (n := rm.slots) hk hn ?_
  exact W.aret B.exec B.bytes B.returns (Or.inl ⟨ty, rfl⟩) (Or.inr ⟨ra, rfl⟩) (fun t ht hW => ⟨⟨u, ra, rfl, hp, rfl, by rw [ht]; exact hP1, va_K.moved hW.alike hK, hD1⟩, hS.F ht⟩) hS.2.2 hdg B.notSynchronized
section MC
variable {p : Program} {l : Launch} {e : Env} {R : Room} {s : State} {m : MethodId} {args : Array Value} {below : List Frame} {meth : Method} {c : Code} {H H0 : Heap} {locs : List Loc} {cells slots k n : Nat} {Q : State → Prop}
variable {cc bytes : ByteArray} {nL maxL index nn pc : Nat} {ret : Option FieldType} {own C : String} {Ts ws : List Cond} {rm : Room} {D : va_G} {tys tyc : mTy} {wc wr ws0 : va_W} {A : Nat → Prop} {y : MethodName} {av As rest st0 : List Value} {b : Nat} {S : Type} {ls : Array Slot} {w1 : S → va_W}
/-- the world that a callee sees -/
theorem mPreV (hN : mN s) (hK : va_K D vwCl tys s) (hP : va_P D vwCl ws0 H) (hD : va_D A ws0) (isC tC : List Nat) (hC : isC.map (fun i => ws0[i]?) = wc.map some) (hn : va_nd isC = true) (hty : tC.filterMap (fun i => tys[i]?) = tyc) :
    ∀ U : State, U.heap = H → s.WarmedH U.vm → mPre D tyc wc av H.size av.toArray U := by
  intro U hU hW
  have hD' := hD.sub isC hn hC
  refine ⟨rfl, by rw [hU], ?_, va_K.moved hW.alike (hK.sub tC hty), hD'.weaken (fun _ _ _ _ => trivial), mN.warm hW hN⟩
  rw [hU]
  intro k q hk
  have h1 : (isC.map (fun i => ws0[i]?))[k]? = some (some q) := by rw [hC, List.getElem?_map, hk]; rfl
  rw [List.getElem?_map] at h1
  cases hi : isC[k]? with
  | none => rw [hi] at h1; cases h1
  | some i =>
    rw [hi] at h1
    exact hP i q (Option.some.inj h1)
theorem mJoin {wq : va_W} {H1 : Heap} (hP : va_P D vwCl ws0 H) (hD : va_D A ws0) (isC isR : List Nat) (hC : isC.map (fun i => ws0[i]?) = wc.map some) (hR : isR.map (fun i => ws0[i]?) = wr.map some) (hnR : va_nd isR = true) (hdis : ∀ i ∈ isR, i ∉ isC)
    (hk1 : ∀ q : Nat, q < H.size → ¬ va_A wc H.size q → H1[q]? = H[q]?) (hF : ∀ q, va_A wc H.size q → A q) (hP1 : va_P D vwCl wq H1) (hD1 : va_D (va_A wc H.size) wq) : va_P D vwCl (wr ++ wq) H1 ∧ va_D A (wr ++ wq) :=
  va_join (wr := wr) (w1 := wq) hP hD isC isR hC hR hnR hdis hk1 hF hP1 hD1
/-- an instance call, an int comes back -/
theorem m_calli {post : Int32 → S → Prop} (F : CallFix p m c cc nL s args Ts own) (hN : mN s) (hM : Ci l y ws rm D tyc av wc post w1) (cw : CallW R s args own C index y bytes maxL ret ws rm rm.cells rm.slots nn)
    (hK : va_K D vwCl tys s) (hP : va_P D vwCl ws0 H) (hD : va_D A ws0) (hS : va_S A H0 H locs) (hA : ∀ q : Nat, H0.size ≤ q → A q)
    (isC isR tC : List Nat) (hC : isC.map (fun i => ws0[i]?) = wc.map some) (hR : isR.map (fun i => ws0[i]?) = wr.map some) (hty : tC.filterMap (fun i => tys[i]?) = tyc) (hnC : va_nd isC = true) (hnR : va_nd isR = true) (hdis : ∀ i ∈ isR, i ∉ isC)
    (hav : av = .ref b :: As) (ci : Nat) {q : vw_C} {fs : List Value} (hci : vwCl[ci]? = some q) (he : wc[0]? = some (b, .inr (ci, fs))) (hq : q.1 = C)
    (hnn : As.length = nn) (hls : ls.size = nL) (hst : st0 = As.reverse ++ .ref b :: rest) (hro : (rest.map fun v => v.category).sum ≤ 8) (hdg : decode cc pc = .ok (.invokevirtual index, 3)) (hf : cells + rm.cells ≤ R.cells ∧ slots + rm.slots ≤ R.slots) (hk : cells + rm.cells = k) (hn : slots + rm.slots = n)
    (kk : ∀ (r : Int32) (u : S) (H1 : Heap) (locs1 : List Loc), post r u → va_P D vwCl (wr ++ w1 u) H1 → va_D A (wr ++ w1 u) → va_S A H0 H1 locs1 → W p l e R s m args below meth c H1 locs1 k n Q (F0 m (pc + 3) ls (.int r :: rest))) :
    W p l e R s m args below meth c H locs cells slots Q (F0 m pc ls st0) := by
  subst hav hk hn hq
  have hFc := va_free (wc := wc) hD hS hA isC hC
  have hpc := mPreV (av := .ref b :: As) hN hK hP hD isC tC hC hnC hty
  have hP9 : va_P D vwCl wc H := by
    intro k q hk
    have h1 : (isC.map (fun i => ws0[i]?))[k]? = some (some q) := by rw [hC, List.getElem?_map, hk]; rfl
    rw [List.getElem?_map] at h1
    cases hi : isC[k]? with
    | none => rw [hi] at h1; cases h1
    | some i =>
      rw [hi] at h1
      exact hP i q (Option.some.inj h1)
  refine va_calli (va_runV (As := As) (rest := rest) F (hM H.size) cw ⟨mPre.blind, va_recv hK hP9 hci he, hpc⟩ rfl hnn hls hst (lv_room hro) hdg hf) hS (fun q _ h => hFc q h) hFc (fun r u t H1 locs1 ht hvm hw hB hz1 hk1 hS1 => ?_)
  obtain ⟨hP1, hK1, hD1⟩ := hB
  rw [ht] at hP1
  obtain ⟨hP2, hD2⟩ := mJoin hP hD isC isR hC hR hnR hdis hk1 hFc hP1 hD1
  exact kk r u H1 locs1 hw hP2 hD2 hS1
theorem m_callv {post : S → Prop} (F : CallFix p m c cc nL s args Ts own) (hN : mN s) (hM : Cv l y ws rm D tyc av wc post w1) (cw : CallW R s args own C index y bytes maxL ret ws rm rm.cells rm.slots nn)
    (hK : va_K D vwCl tys s) (hP : va_P D vwCl ws0 H) (hD : va_D A ws0) (hS : va_S A H0 H locs) (hA : ∀ q : Nat, H0.size ≤ q → A q)
    (isC isR tC : List Nat) (hC : isC.map (fun i => ws0[i]?) = wc.map some) (hR : isR.map (fun i => ws0[i]?) = wr.map some) (hty : tC.filterMap (fun i => tys[i]?) = tyc) (hnC : va_nd isC = true) (hnR : va_nd isR = true) (hdis : ∀ i ∈ isR, i ∉ isC)
    (hav : av = .ref b :: As) (ci : Nat) {q : vw_C} {fs : List Value} (hci : vwCl[ci]? = some q) (he : wc[0]? = some (b, .inr (ci, fs))) (hq : q.1 = C)
    (hnn : As.length = nn) (hls : ls.size = nL) (hst : st0 = As.reverse ++ .ref b :: rest) (hro : (rest.map fun v => v.category).sum ≤ 8) (hdg : decode cc pc = .ok (.invokevirtual index, 3)) (hf : cells + rm.cells ≤ R.cells ∧ slots + rm.slots ≤ R.slots) (hk : cells + rm.cells = k) (hn : slots + rm.slots = n)
    (kk : ∀ (u : S) (H1 : Heap) (locs1 : List Loc), post u → va_P D vwCl (wr ++ w1 u) H1 → va_D A (wr ++ w1 u) → va_S A H0 H1 locs1 → W p l e R s m args below meth c H1 locs1 k n Q (F0 m (pc + 3) ls rest)) :
    W p l e R s m args below meth c H locs cells slots Q (F0 m pc ls st0) := by
  subst hav hk hn hq
  have hFc := va_free (wc := wc) hD hS hA isC hC
  have hpc := mPreV (av := .ref b :: As) hN hK hP hD isC tC hC hnC hty
  have hP9 : va_P D vwCl wc H := by
    intro k q hk
    have h1 : (isC.map (fun i => ws0[i]?))[k]? = some (some q) := by rw [hC, List.getElem?_map, hk]; rfl
    rw [List.getElem?_map] at h1
    cases hi : isC[k]? with
    | none => rw [hi] at h1; cases h1
    | some i =>
      rw [hi] at h1
      exact hP i q (Option.some.inj h1)
  refine va_callv (va_runV (As := As) (rest := rest) F (hM H.size) cw ⟨mPre.blind, va_recv hK hP9 hci he, hpc⟩ rfl hnn hls hst (lv_room hro) hdg hf) hS (fun q _ h => hFc q h) hFc (fun u t H1 locs1 ht hvm hw hB hz1 hk1 hS1 => ?_)
  obtain ⟨hP1, hK1, hD1⟩ := hB
  rw [ht] at hP1
  obtain ⟨hP2, hD2⟩ := mJoin hP hD isC isR hC hR hnR hdis hk1 hFc hP1 hD1
  exact kk u H1 locs1 hw hP2 hD2 hS1
theorem m_callr {ra : Nat} {post : S → Prop} (F : CallFix p m c cc nL s args Ts own) (hN : mN s) (hM : Cr l y ws rm D tyc av wc ra post w1) (cw : CallW R s args own C index y bytes maxL ret ws rm rm.cells rm.slots nn)
    (hK : va_K D vwCl tys s) (hP : va_P D vwCl ws0 H) (hD : va_D A ws0) (hS : va_S A H0 H locs) (hA : ∀ q : Nat, H0.size ≤ q → A q)
    (isC isR tC : List Nat) (hC : isC.map (fun i => ws0[i]?) = wc.map some) (hR : isR.map (fun i => ws0[i]?) = wr.map some) (hty : tC.filterMap (fun i => tys[i]?) = tyc) (hnC : va_nd isC = true) (hnR : va_nd isR = true) (hdis : ∀ i ∈ isR, i ∉ isC)
    (hav : av = .ref b :: As) (ci : Nat) {q : vw_C} {fs : List Value} (hci : vwCl[ci]? = some q) (he : wc[0]? = some (b, .inr (ci, fs))) (hq : q.1 = C)
    (hnn : As.length = nn) (hls : ls.size = nL) (hst : st0 = As.reverse ++ .ref b :: rest) (hro : (rest.map fun v => v.category).sum ≤ 8) (hdg : decode cc pc = .ok (.invokevirtual index, 3)) (hf : cells + rm.cells ≤ R.cells ∧ slots + rm.slots ≤ R.slots) (hk : cells + rm.cells = k) (hn : slots + rm.slots = n)
    (kk : ∀ (u : S) (H1 : Heap) (locs1 : List Loc), post u → va_P D vwCl (wr ++ w1 u) H1 → va_D A (wr ++ w1 u) → va_S A H0 H1 locs1 → W p l e R s m args below meth c H1 locs1 k n Q (F0 m (pc + 3) ls (.ref ra :: rest))) :
    W p l e R s m args below meth c H locs cells slots Q (F0 m pc ls st0) := by
  subst hav hk hn hq
  have hFc := va_free (wc := wc) hD hS hA isC hC
  have hpc := mPreV (av := .ref b :: As) hN hK hP hD isC tC hC hnC hty
  have hP9 : va_P D vwCl wc H := by
    intro k q hk
    have h1 : (isC.map (fun i => ws0[i]?))[k]? = some (some q) := by rw [hC, List.getElem?_map, hk]; rfl
    rw [List.getElem?_map] at h1
    cases hi : isC[k]? with
    | none => rw [hi] at h1; cases h1
    | some i =>
      rw [hi] at h1
      exact hP i q (Option.some.inj h1)
  refine va_callr (va_runV (As := As) (rest := rest) F (hM H.size) cw ⟨mPre.blind, va_recv hK hP9 hci he, hpc⟩ rfl hnn hls hst (lv_room hro) hdg hf) hS (fun q _ h => hFc q h) hFc (fun u a t H1 locs1 ht hvm hw hB hz1 hk1 hS1 => ?_)
  obtain ⟨rfl, hP1, hK1, hD1⟩ := hB
  rw [ht] at hP1
  obtain ⟨hP2, hD2⟩ := mJoin hP hD isC isR hC hR hnR hdis hk1 hFc hP1 hD1
  exact kk u H1 locs1 hw hP2 hD2 hS1
/-- a static call -/
theorem m_scalli {post : Int32 → S → Prop} (F : CallFix p m c cc nL s args Ts own) (hN : mN s) (hM : Ci l y ws rm D tyc av wc post w1) (cw : CallB R s args own index y bytes maxL ret ws rm rm.cells rm.slots nn ∧ (Cond.static y).before args s = true)
    (hK : va_K D vwCl tys s) (hP : va_P D vwCl ws0 H) (hD : va_D A ws0) (hS : va_S A H0 H locs) (hA : ∀ q : Nat, H0.size ≤ q → A q)
    (isC isR tC : List Nat) (hC : isC.map (fun i => ws0[i]?) = wc.map some) (hR : isR.map (fun i => ws0[i]?) = wr.map some) (hty : tC.filterMap (fun i => tys[i]?) = tyc) (hnC : va_nd isC = true) (hnR : va_nd isR = true) (hdis : ∀ i ∈ isR, i ∉ isC)
    (hnn : av.length = nn) (hls : ls.size = nL) (hst : st0 = av.reverse ++ rest) (hro : (rest.map fun v => v.category).sum ≤ 8) (hdg : decode cc pc = .ok (.invokestatic index, 3)) (hf : cells + rm.cells ≤ R.cells ∧ slots + rm.slots ≤ R.slots) (hk : cells + rm.cells = k) (hn : slots + rm.slots = n)
    (kk : ∀ (r : Int32) (u : S) (H1 : Heap) (locs1 : List Loc), post r u → va_P D vwCl (wr ++ w1 u) H1 → va_D A (wr ++ w1 u) → va_S A H0 H1 locs1 → W p l e R s m args below meth c H1 locs1 k n Q (F0 m (pc + 3) ls (.int r :: rest))) :
    W p l e R s m args below meth c H locs cells slots Q (F0 m pc ls st0) := by
  subst hk hn
  have hFc := va_free (wc := wc) hD hS hA isC hC
  have hpc := mPreV (av := av) hN hK hP hD isC tC hC hnC hty
  refine va_calli (va_runS (As := av) (rest := rest) F (hM H.size) cw ⟨mPre.blind, hpc⟩ rfl hnn hls hst (lv_room hro) hdg hf) hS (fun q _ h => hFc q h) hFc (fun r u t H1 locs1 ht hvm hw hB hz1 hk1 hS1 => ?_)
  obtain ⟨hP1, hK1, hD1⟩ := hB
  rw [ht] at hP1
  obtain ⟨hP2, hD2⟩ := mJoin hP hD isC isR hC hR hnR hdis hk1 hFc hP1 hD1
  exact kk r u H1 locs1 hw hP2 hD2 hS1
/-- loads and stores at a written place -/
theorem m_iald {a : Nat} (hexec : p.tables.exec = Jvm.exec) (hb : c.code = cc) (hK : va_K D vwCl tys s) (hP : va_P D vwCl ws0 H) (q0 t0 : Nat) {cA : ClassId} {N : Nat} {f : Nat → Int32} (ha : ws0[q0]? = some (a, .inl (cA, N, .inl f))) (ht : tys[t0]? = some (cA, .int)) {i : Nat} (hi : i < N) (hN : N < 2 ^ 31) {x : Int32} (hx : f i = x) (hdg : decode cc pc = .ok (.iaload, 1))
    (kk : W p l e R s m args below meth c H locs cells slots Q (F0 m (pc + 1) ls (.int x :: rest))) : W p l e R s m args below meth c H locs cells slots Q (F0 m pc ls (.int (nI i) :: .ref a :: rest)) := by
  refine va_iald hexec hb hK hP q0 t0 ha ht (vp_in_nI hi hN) hdg ?_
  rw [nI_clamp (by omega), hx]
  exact kk
theorem m_zald {a : Nat} (hexec : p.tables.exec = Jvm.exec) (hb : c.code = cc) (hK : va_K D vwCl tys s) (hP : va_P D vwCl ws0 H) (q0 t0 : Nat) {cA : ClassId} {N : Nat} {f : Nat → Int32} (ha : ws0[q0]? = some (a, .inl (cA, N, .inl f))) (ht : tys[t0]? = some (cA, .boolean)) {i : Nat} (hi : i < N) (hN : N < 2 ^ 31) {x : Int32} (hx : f i = x) (hdg : decode cc pc = .ok (.baload, 1))
    (kk : W p l e R s m args below meth c H locs cells slots Q (F0 m (pc + 1) ls (.int x :: rest))) : W p l e R s m args below meth c H locs cells slots Q (F0 m pc ls (.int (nI i) :: .ref a :: rest)) := by
  refine va_zald hexec hb hK hP q0 t0 ha ht (vp_in_nI hi hN) hdg ?_
  rw [nI_clamp (by omega), hx]
  exact kk
theorem m_iast {a : Nat} (hexec : p.tables.exec = Jvm.exec) (hb : c.code = cc) (hK : va_K D vwCl tys s) (hP : va_P D vwCl ws0 H) (hD : va_D A ws0) (hS : va_S A H0 H locs) (q0 t0 : Nat) {cA : ClassId} {N : Nat} {f : Nat → Int32} (ha : ws0[q0]? = some (a, .inl (cA, N, .inl f))) (ht : tys[t0]? = some (cA, .int)) {i : Nat} {x : Int32} (hi : i < N) (hN : N < 2 ^ 31) {g : Nat → Int32} (hg : upd f i x = g) (hdg : decode cc pc = .ok (.iastore, 1))
    (kk : ∀ (H1 : Heap) (locs1 : List Loc), va_P D vwCl (ws0.set q0 (a, .inl (cA, N, .inl g))) H1 → va_D A (ws0.set q0 (a, .inl (cA, N, .inl g))) → va_S A H0 H1 locs1 → W p l e R s m args below meth c H1 locs1 cells slots Q (F0 m (pc + 1) ls rest)) : W p l e R s m args below meth c H locs cells slots Q (F0 m pc ls (.int x :: .int (nI i) :: .ref a :: rest)) := by
  refine va_iast hexec hb hK hP hD hS q0 t0 ha ht (vp_in_nI hi hN) hdg ?_
  rw [nI_clamp (by omega), hg]
  exact kk
theorem m_zast {a : Nat} (hexec : p.tables.exec = Jvm.exec) (hb : c.code = cc) (hK : va_K D vwCl tys s) (hP : va_P D vwCl ws0 H) (hD : va_D A ws0) (hS : va_S A H0 H locs) (q0 t0 : Nat) {cA : ClassId} {N : Nat} {f : Nat → Int32} (ha : ws0[q0]? = some (a, .inl (cA, N, .inl f))) (ht : tys[t0]? = some (cA, .boolean)) {i : Nat} {x : Int32} (hi : i < N) (hN : N < 2 ^ 31) {g : Nat → Int32} (hg : upd f i (vp_nar .boolean x) = g) (hdg : decode cc pc = .ok (.bastore, 1))
    (kk : ∀ (H1 : Heap) (locs1 : List Loc), va_P D vwCl (ws0.set q0 (a, .inl (cA, N, .inl g))) H1 → va_D A (ws0.set q0 (a, .inl (cA, N, .inl g))) → va_S A H0 H1 locs1 → W p l e R s m args below meth c H1 locs1 cells slots Q (F0 m (pc + 1) ls rest)) : W p l e R s m args below meth c H locs cells slots Q (F0 m pc ls (.int x :: .int (nI i) :: .ref a :: rest)) := by
  refine va_zast hexec hb hK hP hD hS q0 t0 ha ht (vp_in_nI hi hN) hdg ?_
  rw [nI_clamp (by omega), hg]
  exact kk
/-- a computed number under another name -/
theorem m_top {x y : Int32} (h : x = y) (k9 : W p l e R s m args below meth c H locs cells slots Q (F0 m pc ls (.int y :: rest))) : W p l e R s m args below meth c H locs cells slots Q (F0 m pc ls (.int x :: rest)) := by
  rw [h]
  exact k9
theorem m_stk {st2 : List Value} (h : st0 = st2) (k9 : W p l e R s m args below meth c H locs cells slots Q (F0 m pc ls st2)) : W p l e R s m args below meth c H locs cells slots Q (F0 m pc ls st0) := by
  rw [h]
  exact k9
/-- a row's numbers past its end don't matter -/
theorem m_ext {a q0 : Nat} {cA : ClassId} {N : Nat} {f g : Nat → Int32} (hP : va_P D vwCl ws0 H) (ha : ws0[q0]? = some (a, .inl (cA, N, .inl f))) (hfg : ∀ j, j < N → f j = g j) : va_P D vwCl (ws0.set q0 (a, .inl (cA, N, .inl g))) H := by
  intro k q hk
  by_cases h : k = q0
  · subst h
    have hl : k < ws0.length := (List.getElem?_eq_some_iff.mp ha).1
    rw [List.getElem?_set_self hl] at hk
    cases hk
    have h1 := hP k _ ha
    have e : arrV cA N (fun j => Value.int (f j)) = arrV cA N (fun j => Value.int (g j)) := by
      unfold arrV
      have e2 : (fun j : Fin N => Value.int (f j.val)) = (fun j : Fin N => Value.int (g j.val)) := funext fun j => by rw [hfg j.val j.isLt]
      rw [e2]
    have h2 : H[a]? = some (arrV cA N (fun j => Value.int (f j))) := h1
    show H[a]? = some (arrV cA N (fun j => Value.int (g j)))
    rw [← e]
    exact h2
  · rw [List.getElem?_set_ne (fun q => h q.symm)] at hk
    exact hP k q hk
theorem m_extD {a q0 : Nat} {cA : ClassId} {N : Nat} {f g : Nat → Int32} (hD : va_D A ws0) (ha : ws0[q0]? = some (a, .inl (cA, N, .inl f))) : va_D A (ws0.set q0 (a, .inl (cA, N, .inl g))) := by
  have hl : q0 < ws0.length := (List.getElem?_eq_some_iff.mp ha).1
  have key : ∀ (k : Nat) (q : Nat × va_E), (ws0.set q0 (a, .inl (cA, N, .inl g)))[k]? = some q → ∃ q', ws0[k]? = some q' ∧ q'.1 = q.1 := by
    intro k q hk
    by_cases h : k = q0
    · subst h
      rw [List.getElem?_set_self hl] at hk
      cases hk
      exact ⟨_, ha, rfl⟩
    · rw [List.getElem?_set_ne (fun q => h q.symm)] at hk
      exact ⟨q, hk, rfl⟩
  refine ⟨fun i j p q hp hq e => ?_, fun k q hk => ?_⟩
  · obtain ⟨p', h1, e1⟩ := key i p hp
    obtain ⟨q', h2, e2⟩ := key j q hq
    exact hD.1 i j p' q' h1 h2 (by rw [e1, e2, e])
  · obtain ⟨q', h1, e1⟩ := key k q hk
    rw [← e1]
    exact hD.2 k q' h1
end MC
