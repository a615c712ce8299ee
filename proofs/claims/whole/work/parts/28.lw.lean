/-! own rows: the law's small methods, that catch -/
def Li (l : Launch) (y : MethodName) (ws : List Cond) (rm : Room) (D : va_G) (tys : mTy) (av : List Value) (wc : va_W) {S : Type} (post : Int32 → S → Prop) (w1 : S → va_W) : Prop :=
  ∀ sz : Nat, Met l y ws rm (mPreX D tys wc av sz) (va_Qi post (fun u t => mAt D tys (va_A wc sz) (w1 u) t) (va_A wc sz)) rm.cells rm.slots (va_A wc sz)
def wPost {S1 S2 : Type} (post : Int32 → S1 → Prop) (px : Nat → S2 → Prop) (cd : Nat → Nat) (r : Int32) : (Int32 × S1) ⊕ (Nat × S2) → Prop
  | .inl (rv, u) => r = nI 0 ∧ post rv u
  | .inr (i, u) => r = nI (cd i) ∧ px i u
def wW {S1 S2 : Type} (aO : Nat) (cJ : ClassId) (ov : Nat → Int64) (w1 : S1 → va_W) (wx : S2 → va_W) : (Int32 × S1) ⊕ (Nat × S2) → va_W
  | .inl (rv, u) => (aO, .inl (cJ, 1, .inr (.inl (vp_updL ov (nI 0).toNatClampNeg rv.toInt64)))) :: w1 u
  | .inr (_, u) => (aO, .inl (cJ, 1, .inr (.inl ov))) :: wx u
def lGo (l : Launch) (y : MethodName) (ws : List Cond) (rm : Room) (D : va_G) (tys : mTy) (av : List Value) (wc : va_W) (cc : ByteArray) (maxL : Nat) (hh : List (Nat × Nat × Nat × Nat)) (Ret : Program → Env → State → MethodId → Array Value → List Frame → Method → Code → (Nat → Prop) → (State → Prop) → Prop) : Prop :=
  ∀ (p : Program) (e : Env) (s : State) (m : MethodId) (args : Array Value) (below : List Frame) (meth : Method) (c : Code) (A : Nat → Prop) (Q : State → Prop) (ls : Array Slot),
    p.tables.exec = Jvm.exec → c.code = cc → c.maxLocals = maxL → s.vm.findClass y.cls = some m.cls → (∀ w ∈ ws, w.before args s = true) → mN s →
    va_K D vwCl tys s → va_P D vwCl wc s.heap → va_D A wc → va_S A s.heap s.heap [] → (∀ q : Nat, s.heap.size ≤ q → A q) → lv_has ls maxL (lv_args 0 av) → mX A s s.heap → c.exceptionTable.toList = Jvm.tableOf hh →
    Ret p e s m args below meth c A Q →
    W p l e rm s m args below meth c s.heap [] 0 0 Q (F0 m 0 ls [])
theorem Li_of {l : Launch} {y : MethodName} {ws ws' : List Cond} {rm : Room} {D : va_G} {tys : mTy} {av : List Value} {wc : va_W} {S : Type} {post : Int32 → S → Prop} {w1 : S → va_W} {cc : ByteArray} {maxL : Nat} {hh : List (Nat × Nat × Nat × Nat)}
    (hy : plainName y.cls = true) (hw : ws = Cond.codeWith y cc maxL (some .int) hh :: ws') (hm : (lg_sl av).length ≤ maxL)
    (body : lGo l y ws rm D tys av wc cc maxL hh (mRi l rm D cc .int post w1)) : Li l y ws rm D tys av wc post w1 := by
  intro sz
  refine va_MetW (cc := cc) (maxL := maxL) (ret := some .int) (hh := hh) hy hw ?_
  intro p e s m args below meth c s₁ B hml hv
  obtain ⟨rfl, hsz, hP, hK, hD0, hN, hX⟩ := hv
  subst hsz
  have hD := hD0.self (sz := s.heap.size)
  have hts := atoms_spec (ws := ws) B.pre
  have hl := lv_entry av (n := maxL) hm
  have htab := vx_table (x := y) B (hts (Cond.codeWith y cc maxL (some .int) hh) (by rw [hw]; exact List.mem_cons_self))
  rw [lg_entry_eq]
  refine body p e s m av.toArray below meth c (va_A wc s.heap.size) _ _ B.exec B.bytes hml (findClass_of_methodNamed B.named) hts hN hK hP hD va_S.rf (fun q h => Or.inr h) hl hX htab ?_
  intro H locs pc ls r u k n hp hna hP1 hD1 hS hk hn hdg
  refine W.widen (k := rm.cells) (n := rm.slots) hk hn ?_
  exact W.zret B.exec B.bytes B.returns hna (fun t ht hW => ⟨⟨r, u, rfl, hp, by rw [ht]; exact hP1, va_K.moved hW.alike hK, hD1⟩, hS.F ht⟩) hS.2.2 hdg B.notSynchronized
section LC
variable {p : Program} {l : Launch} {e : Env} {R : Room} {s : State} {m : MethodId} {args : Array Value} {below : List Frame} {meth : Method} {c : Code} {H : Heap} {locs : List Loc} {cells slots k n : Nat} {Q : State → Prop}
variable {cc bytes : ByteArray} {nL maxL index nn pc : Nat} {ret : Option FieldType} {own : String} {Ts ws : List Cond} {rm : Room} {D : va_G} {tys tyc : mTy} {wc wr ws0 : va_W} {A : Nat → Prop} {y : MethodName} {av rest st0 : List Value} {S : Type} {ls : Array Slot} {w1 : S → va_W} {hh : List (Nat × Nat × Nat × Nat)}
/-- a call of one of them -/
theorem m_swcalli {post : Int32 → S → Prop} (F : CallFix p m c cc nL s args Ts own) (hN : mN s) (hX : mX A s s.heap) (hM : Li l y ws rm D tyc av wc post w1) (cw : vx_CSW R s args own index y bytes maxL ret hh ws rm rm.cells rm.slots nn)
    (hK : va_K D vwCl tys s) (hP : va_P D vwCl ws0 H) (hD : va_D A ws0) (hS : va_S A s.heap H locs) (hA : ∀ q : Nat, s.heap.size ≤ q → A q)
    (isC isR tC : List Nat) (hC : isC.map (fun i => ws0[i]?) = wc.map some) (hR : isR.map (fun i => ws0[i]?) = wr.map some) (hty : tC.filterMap (fun i => tys[i]?) = tyc) (hnC : va_nd isC = true) (hnR : va_nd isR = true) (hdis : ∀ i ∈ isR, i ∉ isC)
    (hnn : av.length = nn) (hls : ls.size = nL) (hst : st0 = av.reverse ++ rest) (hro : (rest.map fun v => v.category).sum ≤ 8) (hdg : decode cc pc = .ok (.invokestatic index, 3)) (hf : cells + rm.cells ≤ R.cells ∧ slots + rm.slots ≤ R.slots) (hk : cells + rm.cells = k) (hn : slots + rm.slots = n)
    (kk : ∀ (r : Int32) (u : S) (H1 : Heap) (locs1 : List Loc), post r u → va_P D vwCl (wr ++ w1 u) H1 → va_D A (wr ++ w1 u) → va_S A s.heap H1 locs1 → W p l e R s m args below meth c H1 locs1 k n Q (F0 m (pc + 3) ls (.int r :: rest))) :
    W p l e R s m args below meth c H locs cells slots Q (F0 m pc ls st0) := by
  subst hk hn
  have hFc := va_free (wc := wc) hD hS hA isC hC
  have hpc := mPreVX (av := av) hN hX hK hP hD hS hA isC tC hC hnC hty
  refine va_calli (vx_runSW (As := av) (rest := rest) F (hM H.size) cw ⟨mPreX.blind, hpc⟩ rfl hnn hls hst (lv_room hro) hdg hf) hS (fun q _ h => hFc q h) hFc (fun r u t H1 locs1 ht hvm hw hB hz1 hk1 hS1 => ?_)
  obtain ⟨hP1, hK1, hD1⟩ := hB
  rw [ht] at hP1
  obtain ⟨hP2, hD2⟩ := mJoin hP hD isC isR hC hR hnR hdis hk1 hFc hP1 hD1
  exact kk r u H1 locs1 hw hP2 hD2 hS1
end LC
abbrev rmL_lay : Room := { frames := rmX2_lay.frames + 1, cells := rmX2_lay.cells, slots := rmX2_lay.slots, locals := 8 + (3 + 11) + rmX2_lay.locals }
set_option maxHeartbeats 4000000 in
set_option maxRecDepth 100000 in
theorem kL_lay (l : Launch) (D : va_G) (cJ : ClassId) {tyc : mTy} {wc : va_W} {S1 S2 : Type} {post : Int32 → S1 → Prop} {w1 : S1 → va_W} {px : Nat → S2 → Prop} {wx : S2 → va_W} (c9 : Nat) (fs9 : List Value) (x : Int32) (y : Int32) (aO : Nat) (ov : Nat → Int64) (isC tC : List Nat)
    (hM : Xi l yX2_lay wsX2_lay rmX2_lay D tyc [.ref c9, .int x, .int y] wc post w1 px wx) (he : wc[0]? = some (c9, .inr (2, fs9))) (hpx : ∀ i u, px i u → i = 1)
    (hC : isC.map (fun i => ((aO, .inl (cJ, 1, .inr (.inl ov))) :: wc : va_W)[i]?) = wc.map some) (hty : tC.filterMap (fun i => ((cJ, .long) :: tyc : mTy)[i]?) = tyc) (hnC : va_nd isC = true) (hdis : ∀ i ∈ [0], i ∉ isC) :
    Li l yL_lay wsL_lay rmL_lay D ((cJ, .long) :: tyc) [.ref c9, .int x, .int y, .ref aO] ((aO, .inl (cJ, 1, .inr (.inl ov))) :: wc) (wPost post px (fun i => if i = 1 then 1 else 0)) (wW aO cJ ov w1 wx) := by
  refine Li_of (cc := cL_lay) (maxL := 5) (hh := [(0, 10, 13, 13)]) (by decide) rfl (Nat.le_of_ble_eq_true rfl) ?_
  intro pR eV sT mI args below meth cO AA QQ ls hXX hBB hml hown hts hN hK hP hD hS hAA hl hX htab hret
  have hl : lv_has ls 5 [(0, .ref c9), (1, .int x), (2, .int y), (3, .ref aO)] := hl
  have kl_1 : (Cond.classLink RL 13 (xN 1)).before args sT = true := hts _ (List.mem_of_getElem? (i := 1) rfl)
  refine lv_aload_n hXX hBB dL_lay_0 rfl (lv_at hl 3 rfl) ?_
  refine lv_iconst (v := nI 0) hXX hBB dL_lay_1 (by decide) ?_
  refine lv_aload_n hXX hBB dL_lay_2 rfl (lv_at hl 0 rfl) ?_
  refine lv_iload_n hXX hBB dL_lay_3 rfl (lv_at hl 1 rfl) ?_
  refine lv_iload_n hXX hBB dL_lay_4 rfl (lv_at hl 2 rfl) ?_
  refine x_calli (wr := [(aO, .inl (cJ, 1, .inr (.inl ov)))]) ⟨hXX, hBB, hml, hown, hts⟩ hN hX hM (cwV 2 hts gL_lay_X2_lay rfl rfl rfl (by decide +kernel) ⟨Nat.le_of_ble_eq_true rfl, Nat.le_of_ble_eq_true rfl⟩) hK hP hD hS hAA isC [0] tC hC rfl hty hnC (by decide) hdis rfl 2 rfl he rfl rfl hl.1 rfl (Nat.le_of_ble_eq_true rfl) dL_lay_5 ⟨Nat.le_of_ble_eq_true rfl, Nat.le_of_ble_eq_true rfl⟩ (k := rmL_lay.cells) (n := rmL_lay.slots) (Nat.zero_add _) (Nat.zero_add _) (fun i_ u_ E_ ce_ q_ H locs hE_ hw hP hD hS hq_ hv_ hc_ => ?_) (fun r9 u_ H locs hw hP hD hS => ?_)
  · subst hE_
    obtain rfl := hpx i_ u_ hw
    refine vx_catch (name := xN 1) hown [] ⟨0, 10, 13, 13⟩ [] (by rw [htab]; rfl) (fun z hz => absurd hz (by simp)) (by decide) (by decide) kl_1 (va_Nw.use rfl (hX.1 _ (by simp [xW]))) hq_ hv_ hc_ ?_
    refine lv_astore (lv' := [(4, .ref q_), (0, .ref c9), (1, .int x), (2, .int y), (3, .ref aO)]) hXX hBB dL_lay_13 hl (by decide) rfl (fun ls hl => ?_)
    refine lv_iconst (v := nI 1) hXX hBB dL_lay_15 (by decide) ?_
    exact hret (r := nI 1) (.inr (1, u_)) ⟨rfl, hw⟩ rfl hP hD hS (Nat.le_refl _) (Nat.le_refl _) dL_lay_16
  · skip
    refine lv_i2l hXX hBB dL_lay_8 rfl ?_
    refine va_last hXX hBB hK hP hD hS 0 0 rfl rfl (vp_in_nI (by decide) (by decide)) dL_lay_9 (fun H locs hP hD hS => ?_)
    refine lv_goto (tgt := 17) hXX hBB dL_lay_10 (by decide) ?_
    refine lv_iconst (v := nI 0) hXX hBB dL_lay_17 (by decide) ?_
    exact hret (r := nI 0) (.inl (r9, u_)) ⟨rfl, hw⟩ rfl hP hD hS (Nat.le_refl _) (Nat.le_refl _) dL_lay_18
abbrev rmL_setRegion : Room := { frames := rmX2_setRegion.frames + 1, cells := rmX2_setRegion.cells, slots := rmX2_setRegion.slots, locals := 8 + (4 + 11) + rmX2_setRegion.locals }
set_option maxHeartbeats 4000000 in
set_option maxRecDepth 100000 in
theorem kL_setRegion (l : Launch) (D : va_G) (cJ : ClassId) {tyc : mTy} {wc : va_W} {S1 S2 : Type} {post : Int32 → S1 → Prop} {w1 : S1 → va_W} {px : Nat → S2 → Prop} {wx : S2 → va_W} (c9 : Nat) (fs9 : List Value) (x : Int32) (y : Int32) (aO : Nat) (ov : Nat → Int64) (isC tC : List Nat)
    (hM : Xi l yX2_setRegion wsX2_setRegion rmX2_setRegion D tyc [.ref c9, .int x, .int y] wc post w1 px wx) (he : wc[0]? = some (c9, .inr (2, fs9))) (hpx : ∀ i u, px i u → i = 2 ∨ i = 3)
    (hC : isC.map (fun i => ((aO, .inl (cJ, 1, .inr (.inl ov))) :: wc : va_W)[i]?) = wc.map some) (hty : tC.filterMap (fun i => ((cJ, .long) :: tyc : mTy)[i]?) = tyc) (hnC : va_nd isC = true) (hdis : ∀ i ∈ [0], i ∉ isC) :
    Li l yL_setRegion wsL_setRegion rmL_setRegion D ((cJ, .long) :: tyc) [.ref c9, .int x, .int y, .ref aO] ((aO, .inl (cJ, 1, .inr (.inl ov))) :: wc) (wPost post px (fun i => if i = 2 then 1 else if i = 3 then 2 else 0)) (wW aO cJ ov w1 wx) := by
  refine Li_of (cc := cL_setRegion) (maxL := 5) (hh := [(0, 10, 13, 18), (0, 10, 17, 20)]) (by decide) rfl (Nat.le_of_ble_eq_true rfl) ?_
  intro pR eV sT mI args below meth cO AA QQ ls hXX hBB hml hown hts hN hK hP hD hS hAA hl hX htab hret
  have hl : lv_has ls 5 [(0, .ref c9), (1, .int x), (2, .int y), (3, .ref aO)] := hl
  have kl_2 : (Cond.classLink RL 18 (xN 2)).before args sT = true := hts _ (List.mem_of_getElem? (i := 1) rfl)
  have kl_3 : (Cond.classLink RL 20 (xN 3)).before args sT = true := hts _ (List.mem_of_getElem? (i := 2) rfl)
  refine lv_aload_n hXX hBB dL_setRegion_0 rfl (lv_at hl 3 rfl) ?_
  refine lv_iconst (v := nI 0) hXX hBB dL_setRegion_1 (by decide) ?_
  refine lv_aload_n hXX hBB dL_setRegion_2 rfl (lv_at hl 0 rfl) ?_
  refine lv_iload_n hXX hBB dL_setRegion_3 rfl (lv_at hl 1 rfl) ?_
  refine lv_iload_n hXX hBB dL_setRegion_4 rfl (lv_at hl 2 rfl) ?_
  refine x_calli (wr := [(aO, .inl (cJ, 1, .inr (.inl ov)))]) ⟨hXX, hBB, hml, hown, hts⟩ hN hX hM (cwV 2 hts gL_setRegion_X2_setRegion rfl rfl rfl (by decide +kernel) ⟨Nat.le_of_ble_eq_true rfl, Nat.le_of_ble_eq_true rfl⟩) hK hP hD hS hAA isC [0] tC hC rfl hty hnC (by decide) hdis rfl 2 rfl he rfl rfl hl.1 rfl (Nat.le_of_ble_eq_true rfl) dL_setRegion_5 ⟨Nat.le_of_ble_eq_true rfl, Nat.le_of_ble_eq_true rfl⟩ (k := rmL_setRegion.cells) (n := rmL_setRegion.slots) (Nat.zero_add _) (Nat.zero_add _) (fun i_ u_ E_ ce_ q_ H locs hE_ hw hP hD hS hq_ hv_ hc_ => ?_) (fun r9 u_ H locs hw hP hD hS => ?_)
  · subst hE_
    rcases hpx i_ u_ hw with rfl | rfl
    · skip
      refine vx_catch (name := xN 2) hown [] ⟨0, 10, 13, 18⟩ [⟨0, 10, 17, 20⟩] (by rw [htab]; rfl) (fun z hz => absurd hz (by simp)) (by decide) (by decide) kl_2 (va_Nw.use rfl (hX.1 _ (by simp [xW]))) hq_ hv_ hc_ ?_
      refine lv_astore (lv' := [(4, .ref q_), (0, .ref c9), (1, .int x), (2, .int y), (3, .ref aO)]) hXX hBB dL_setRegion_13 hl (by decide) rfl (fun ls hl => ?_)
      refine lv_iconst (v := nI 1) hXX hBB dL_setRegion_15 (by decide) ?_
      exact hret (r := nI 1) (.inr (2, u_)) ⟨rfl, hw⟩ rfl hP hD hS (Nat.le_refl _) (Nat.le_refl _) dL_setRegion_16
    · skip
      have hps : ∀ z ∈ [(⟨0, 10, 13, 18⟩ : ExceptionTableEntry)], covers z 5 = false ∨ (z.catchType ≠ 0 ∧ ∃ nm : String, (Cond.classLink RL z.catchType nm).before args sT = true ∧ va_Nc (xN 3) nm sT) := by
        intro z hz
        simp only [List.mem_cons, List.not_mem_nil, or_false] at hz
        subst hz
        exact Or.inr ⟨by decide, xN 2, kl_2, hX.2.2.2.2 3 (by decide) 2 (by decide) (by decide +kernel)⟩
      refine vx_catch (name := xN 3) hown [⟨0, 10, 13, 18⟩] ⟨0, 10, 17, 20⟩ [] (by rw [htab]; rfl) hps (by decide) (by decide) kl_3 (va_Nw.use rfl (hX.1 _ (by simp [xW]))) hq_ hv_ hc_ ?_
      refine lv_astore (lv' := [(4, .ref q_), (0, .ref c9), (1, .int x), (2, .int y), (3, .ref aO)]) hXX hBB dL_setRegion_17 hl (by decide) rfl (fun ls hl => ?_)
      refine lv_iconst (v := nI 2) hXX hBB dL_setRegion_19 (by decide) ?_
      exact hret (r := nI 2) (.inr (3, u_)) ⟨rfl, hw⟩ rfl hP hD hS (Nat.le_refl _) (Nat.le_refl _) dL_setRegion_20
  · skip
    refine lv_i2l hXX hBB dL_setRegion_8 rfl ?_
    refine va_last hXX hBB hK hP hD hS 0 0 rfl rfl (vp_in_nI (by decide) (by decide)) dL_setRegion_9 (fun H locs hP hD hS => ?_)
    refine lv_goto (tgt := 21) hXX hBB dL_setRegion_10 (by decide) ?_
    refine lv_iconst (v := nI 0) hXX hBB dL_setRegion_21 (by decide) ?_
    exact hret (r := nI 0) (.inl (r9, u_)) ⟨rfl, hw⟩ rfl hP hD hS (Nat.le_refl _) (Nat.le_refl _) dL_setRegion_22
abbrev rmL_setBound : Room := { frames := rmX2_setBound.frames + 1, cells := rmX2_setBound.cells, slots := rmX2_setBound.slots, locals := 8 + (4 + 11) + rmX2_setBound.locals }
set_option maxHeartbeats 4000000 in
set_option maxRecDepth 100000 in
theorem kL_setBound (l : Launch) (D : va_G) (cJ : ClassId) {tyc : mTy} {wc : va_W} {S1 S2 : Type} {post : Int32 → S1 → Prop} {w1 : S1 → va_W} {px : Nat → S2 → Prop} {wx : S2 → va_W} (c9 : Nat) (fs9 : List Value) (x : Int32) (y : Int32) (aO : Nat) (ov : Nat → Int64) (isC tC : List Nat)
    (hM : Xi l yX2_setBound wsX2_setBound rmX2_setBound D tyc [.ref c9, .int x, .int y] wc post w1 px wx) (he : wc[0]? = some (c9, .inr (2, fs9))) (hpx : ∀ i u, px i u → i = 2 ∨ i = 1 ∨ i = 3)
    (hC : isC.map (fun i => ((aO, .inl (cJ, 1, .inr (.inl ov))) :: wc : va_W)[i]?) = wc.map some) (hty : tC.filterMap (fun i => ((cJ, .long) :: tyc : mTy)[i]?) = tyc) (hnC : va_nd isC = true) (hdis : ∀ i ∈ [0], i ∉ isC) :
    Li l yL_setBound wsL_setBound rmL_setBound D ((cJ, .long) :: tyc) [.ref c9, .int x, .int y, .ref aO] ((aO, .inl (cJ, 1, .inr (.inl ov))) :: wc) (wPost post px (fun i => if i = 2 then 1 else if i = 1 then 2 else if i = 3 then 3 else 0)) (wW aO cJ ov w1 wx) := by
  refine Li_of (cc := cL_setBound) (maxL := 5) (hh := [(0, 10, 13, 18), (0, 10, 17, 13), (0, 10, 21, 20)]) (by decide) rfl (Nat.le_of_ble_eq_true rfl) ?_
  intro pR eV sT mI args below meth cO AA QQ ls hXX hBB hml hown hts hN hK hP hD hS hAA hl hX htab hret
  have hl : lv_has ls 5 [(0, .ref c9), (1, .int x), (2, .int y), (3, .ref aO)] := hl
  have kl_2 : (Cond.classLink RL 18 (xN 2)).before args sT = true := hts _ (List.mem_of_getElem? (i := 1) rfl)
  have kl_1 : (Cond.classLink RL 13 (xN 1)).before args sT = true := hts _ (List.mem_of_getElem? (i := 2) rfl)
  have kl_3 : (Cond.classLink RL 20 (xN 3)).before args sT = true := hts _ (List.mem_of_getElem? (i := 3) rfl)
  refine lv_aload_n hXX hBB dL_setBound_0 rfl (lv_at hl 3 rfl) ?_
  refine lv_iconst (v := nI 0) hXX hBB dL_setBound_1 (by decide) ?_
  refine lv_aload_n hXX hBB dL_setBound_2 rfl (lv_at hl 0 rfl) ?_
  refine lv_iload_n hXX hBB dL_setBound_3 rfl (lv_at hl 1 rfl) ?_
  refine lv_iload_n hXX hBB dL_setBound_4 rfl (lv_at hl 2 rfl) ?_
  refine x_calli (wr := [(aO, .inl (cJ, 1, .inr (.inl ov)))]) ⟨hXX, hBB, hml, hown, hts⟩ hN hX hM (cwV 2 hts gL_setBound_X2_setBound rfl rfl rfl (by decide +kernel) ⟨Nat.le_of_ble_eq_true rfl, Nat.le_of_ble_eq_true rfl⟩) hK hP hD hS hAA isC [0] tC hC rfl hty hnC (by decide) hdis rfl 2 rfl he rfl rfl hl.1 rfl (Nat.le_of_ble_eq_true rfl) dL_setBound_5 ⟨Nat.le_of_ble_eq_true rfl, Nat.le_of_ble_eq_true rfl⟩ (k := rmL_setBound.cells) (n := rmL_setBound.slots) (Nat.zero_add _) (Nat.zero_add _) (fun i_ u_ E_ ce_ q_ H locs hE_ hw hP hD hS hq_ hv_ hc_ => ?_) (fun r9 u_ H locs hw hP hD hS => ?_)
  · subst hE_
    rcases hpx i_ u_ hw with rfl | rfl | rfl
    · skip
      refine vx_catch (name := xN 2) hown [] ⟨0, 10, 13, 18⟩ [⟨0, 10, 17, 13⟩, ⟨0, 10, 21, 20⟩] (by rw [htab]; rfl) (fun z hz => absurd hz (by simp)) (by decide) (by decide) kl_2 (va_Nw.use rfl (hX.1 _ (by simp [xW]))) hq_ hv_ hc_ ?_
      refine lv_astore (lv' := [(4, .ref q_), (0, .ref c9), (1, .int x), (2, .int y), (3, .ref aO)]) hXX hBB dL_setBound_13 hl (by decide) rfl (fun ls hl => ?_)
      refine lv_iconst (v := nI 1) hXX hBB dL_setBound_15 (by decide) ?_
      exact hret (r := nI 1) (.inr (2, u_)) ⟨rfl, hw⟩ rfl hP hD hS (Nat.le_refl _) (Nat.le_refl _) dL_setBound_16
    · skip
      have hps : ∀ z ∈ [(⟨0, 10, 13, 18⟩ : ExceptionTableEntry)], covers z 5 = false ∨ (z.catchType ≠ 0 ∧ ∃ nm : String, (Cond.classLink RL z.catchType nm).before args sT = true ∧ va_Nc (xN 1) nm sT) := by
        intro z hz
        simp only [List.mem_cons, List.not_mem_nil, or_false] at hz
        subst hz
        exact Or.inr ⟨by decide, xN 2, kl_2, hX.2.2.2.2 1 (by decide) 2 (by decide) (by decide +kernel)⟩
      refine vx_catch (name := xN 1) hown [⟨0, 10, 13, 18⟩] ⟨0, 10, 17, 13⟩ [⟨0, 10, 21, 20⟩] (by rw [htab]; rfl) hps (by decide) (by decide) kl_1 (va_Nw.use rfl (hX.1 _ (by simp [xW]))) hq_ hv_ hc_ ?_
      refine lv_astore (lv' := [(4, .ref q_), (0, .ref c9), (1, .int x), (2, .int y), (3, .ref aO)]) hXX hBB dL_setBound_17 hl (by decide) rfl (fun ls hl => ?_)
      refine lv_iconst (v := nI 2) hXX hBB dL_setBound_19 (by decide) ?_
      exact hret (r := nI 2) (.inr (1, u_)) ⟨rfl, hw⟩ rfl hP hD hS (Nat.le_refl _) (Nat.le_refl _) dL_setBound_20
    · skip
      have hps : ∀ z ∈ [(⟨0, 10, 13, 18⟩ : ExceptionTableEntry), (⟨0, 10, 17, 13⟩ : ExceptionTableEntry)], covers z 5 = false ∨ (z.catchType ≠ 0 ∧ ∃ nm : String, (Cond.classLink RL z.catchType nm).before args sT = true ∧ va_Nc (xN 3) nm sT) := by
        intro z hz
        simp only [List.mem_cons, List.not_mem_nil, or_false] at hz
        rcases hz with rfl | rfl
        · exact Or.inr ⟨by decide, xN 2, kl_2, hX.2.2.2.2 3 (by decide) 2 (by decide) (by decide +kernel)⟩
        · exact Or.inr ⟨by decide, xN 1, kl_1, hX.2.2.2.2 3 (by decide) 1 (by decide) (by decide +kernel)⟩
      refine vx_catch (name := xN 3) hown [⟨0, 10, 13, 18⟩, ⟨0, 10, 17, 13⟩] ⟨0, 10, 21, 20⟩ [] (by rw [htab]; rfl) hps (by decide) (by decide) kl_3 (va_Nw.use rfl (hX.1 _ (by simp [xW]))) hq_ hv_ hc_ ?_
      refine lv_astore (lv' := [(4, .ref q_), (0, .ref c9), (1, .int x), (2, .int y), (3, .ref aO)]) hXX hBB dL_setBound_21 hl (by decide) rfl (fun ls hl => ?_)
      refine lv_iconst (v := nI 3) hXX hBB dL_setBound_23 (by decide) ?_
      exact hret (r := nI 3) (.inr (3, u_)) ⟨rfl, hw⟩ rfl hP hD hS (Nat.le_refl _) (Nat.le_refl _) dL_setBound_24
  · skip
    refine lv_i2l hXX hBB dL_setBound_8 rfl ?_
    refine va_last hXX hBB hK hP hD hS 0 0 rfl rfl (vp_in_nI (by decide) (by decide)) dL_setBound_9 (fun H locs hP hD hS => ?_)
    refine lv_goto (tgt := 25) hXX hBB dL_setBound_10 (by decide) ?_
    refine lv_iconst (v := nI 0) hXX hBB dL_setBound_25 (by decide) ?_
    exact hret (r := nI 0) (.inl (r9, u_)) ⟨rfl, hw⟩ rfl hP hD hS (Nat.le_refl _) (Nat.le_refl _) dL_setBound_26
abbrev rmL_setApart : Room := { frames := rmX2_setApart.frames + 1, cells := rmX2_setApart.cells, slots := rmX2_setApart.slots, locals := 8 + (4 + 11) + rmX2_setApart.locals }
set_option maxHeartbeats 4000000 in
set_option maxRecDepth 100000 in
theorem kL_setApart (l : Launch) (D : va_G) (cJ : ClassId) {tyc : mTy} {wc : va_W} {S1 S2 : Type} {post : Int32 → S1 → Prop} {w1 : S1 → va_W} {px : Nat → S2 → Prop} {wx : S2 → va_W} (c9 : Nat) (fs9 : List Value) (x : Int32) (y : Int32) (zb : Int32) (aO : Nat) (ov : Nat → Int64) (isC tC : List Nat)
    (hM : Xi l yX2_setApart wsX2_setApart rmX2_setApart D tyc [.ref c9, .int x, .int y, .int zb] wc post w1 px wx) (he : wc[0]? = some (c9, .inr (2, fs9))) (hpx : ∀ i u, px i u → i = 2 ∨ i = 1 ∨ i = 3) (hbv : ∀ r u, post r u → r = 0 ∨ r = 1)
    (hC : isC.map (fun i => ((aO, .inl (cJ, 1, .inr (.inl ov))) :: wc : va_W)[i]?) = wc.map some) (hty : tC.filterMap (fun i => ((cJ, .long) :: tyc : mTy)[i]?) = tyc) (hnC : va_nd isC = true) (hdis : ∀ i ∈ [0], i ∉ isC) :
    Li l yL_setApart wsL_setApart rmL_setApart D ((cJ, .long) :: tyc) [.ref c9, .int x, .int y, .int zb, .ref aO] ((aO, .inl (cJ, 1, .inr (.inl ov))) :: wc) (wPost post px (fun i => if i = 2 then 1 else if i = 1 then 2 else if i = 3 then 3 else 0)) (wW aO cJ ov w1 wx) := by
  refine Li_of (cc := cL_setApart) (maxL := 6) (hh := [(0, 19, 22, 18), (0, 19, 26, 13), (0, 19, 30, 20)]) (by decide) rfl (Nat.le_of_ble_eq_true rfl) ?_
  intro pR eV sT mI args below meth cO AA QQ ls hXX hBB hml hown hts hN hK hP hD hS hAA hl hX htab hret
  have hl : lv_has ls 6 [(0, .ref c9), (1, .int x), (2, .int y), (3, .int zb), (4, .ref aO)] := hl
  have kl_2 : (Cond.classLink RL 18 (xN 2)).before args sT = true := hts _ (List.mem_of_getElem? (i := 1) rfl)
  have kl_1 : (Cond.classLink RL 13 (xN 1)).before args sT = true := hts _ (List.mem_of_getElem? (i := 2) rfl)
  have kl_3 : (Cond.classLink RL 20 (xN 3)).before args sT = true := hts _ (List.mem_of_getElem? (i := 3) rfl)
  refine lv_aload hXX hBB dL_setApart_0 (lv_at hl 4 rfl) ?_
  refine lv_iconst (v := nI 0) hXX hBB dL_setApart_2 (by decide) ?_
  refine lv_aload_n hXX hBB dL_setApart_3 rfl (lv_at hl 0 rfl) ?_
  refine lv_iload_n hXX hBB dL_setApart_4 rfl (lv_at hl 1 rfl) ?_
  refine lv_iload_n hXX hBB dL_setApart_5 rfl (lv_at hl 2 rfl) ?_
  refine lv_iload_n hXX hBB dL_setApart_6 rfl (lv_at hl 3 rfl) ?_
  refine x_calli (wr := [(aO, .inl (cJ, 1, .inr (.inl ov)))]) ⟨hXX, hBB, hml, hown, hts⟩ hN hX hM (cwV 3 hts gL_setApart_X2_setApart rfl rfl rfl (by decide +kernel) ⟨Nat.le_of_ble_eq_true rfl, Nat.le_of_ble_eq_true rfl⟩) hK hP hD hS hAA isC [0] tC hC rfl hty hnC (by decide) hdis rfl 2 rfl he rfl rfl hl.1 rfl (Nat.le_of_ble_eq_true rfl) dL_setApart_7 ⟨Nat.le_of_ble_eq_true rfl, Nat.le_of_ble_eq_true rfl⟩ (k := rmL_setApart.cells) (n := rmL_setApart.slots) (Nat.zero_add _) (Nat.zero_add _) (fun i_ u_ E_ ce_ q_ H locs hE_ hw hP hD hS hq_ hv_ hc_ => ?_) (fun r9 u_ H locs hw hP hD hS => ?_)
  · subst hE_
    rcases hpx i_ u_ hw with rfl | rfl | rfl
    · skip
      refine vx_catch (name := xN 2) hown [] ⟨0, 19, 22, 18⟩ [⟨0, 19, 26, 13⟩, ⟨0, 19, 30, 20⟩] (by rw [htab]; rfl) (fun z hz => absurd hz (by simp)) (by decide) (by decide) kl_2 (va_Nw.use rfl (hX.1 _ (by simp [xW]))) hq_ hv_ hc_ ?_
      refine lv_astore (lv' := [(5, .ref q_), (0, .ref c9), (1, .int x), (2, .int y), (3, .int zb), (4, .ref aO)]) hXX hBB dL_setApart_22 hl (by decide) rfl (fun ls hl => ?_)
      refine lv_iconst (v := nI 1) hXX hBB dL_setApart_24 (by decide) ?_
      exact hret (r := nI 1) (.inr (2, u_)) ⟨rfl, hw⟩ rfl hP hD hS (Nat.le_refl _) (Nat.le_refl _) dL_setApart_25
    · skip
      have hps : ∀ z ∈ [(⟨0, 19, 22, 18⟩ : ExceptionTableEntry)], covers z 7 = false ∨ (z.catchType ≠ 0 ∧ ∃ nm : String, (Cond.classLink RL z.catchType nm).before args sT = true ∧ va_Nc (xN 1) nm sT) := by
        intro z hz
        simp only [List.mem_cons, List.not_mem_nil, or_false] at hz
        subst hz
        exact Or.inr ⟨by decide, xN 2, kl_2, hX.2.2.2.2 1 (by decide) 2 (by decide) (by decide +kernel)⟩
      refine vx_catch (name := xN 1) hown [⟨0, 19, 22, 18⟩] ⟨0, 19, 26, 13⟩ [⟨0, 19, 30, 20⟩] (by rw [htab]; rfl) hps (by decide) (by decide) kl_1 (va_Nw.use rfl (hX.1 _ (by simp [xW]))) hq_ hv_ hc_ ?_
      refine lv_astore (lv' := [(5, .ref q_), (0, .ref c9), (1, .int x), (2, .int y), (3, .int zb), (4, .ref aO)]) hXX hBB dL_setApart_26 hl (by decide) rfl (fun ls hl => ?_)
      refine lv_iconst (v := nI 2) hXX hBB dL_setApart_28 (by decide) ?_
      exact hret (r := nI 2) (.inr (1, u_)) ⟨rfl, hw⟩ rfl hP hD hS (Nat.le_refl _) (Nat.le_refl _) dL_setApart_29
    · skip
      have hps : ∀ z ∈ [(⟨0, 19, 22, 18⟩ : ExceptionTableEntry), (⟨0, 19, 26, 13⟩ : ExceptionTableEntry)], covers z 7 = false ∨ (z.catchType ≠ 0 ∧ ∃ nm : String, (Cond.classLink RL z.catchType nm).before args sT = true ∧ va_Nc (xN 3) nm sT) := by
        intro z hz
        simp only [List.mem_cons, List.not_mem_nil, or_false] at hz
        rcases hz with rfl | rfl
        · exact Or.inr ⟨by decide, xN 2, kl_2, hX.2.2.2.2 3 (by decide) 2 (by decide) (by decide +kernel)⟩
        · exact Or.inr ⟨by decide, xN 1, kl_1, hX.2.2.2.2 3 (by decide) 1 (by decide) (by decide +kernel)⟩
      refine vx_catch (name := xN 3) hown [⟨0, 19, 22, 18⟩, ⟨0, 19, 26, 13⟩] ⟨0, 19, 30, 20⟩ [] (by rw [htab]; rfl) hps (by decide) (by decide) kl_3 (va_Nw.use rfl (hX.1 _ (by simp [xW]))) hq_ hv_ hc_ ?_
      refine lv_astore (lv' := [(5, .ref q_), (0, .ref c9), (1, .int x), (2, .int y), (3, .int zb), (4, .ref aO)]) hXX hBB dL_setApart_30 hl (by decide) rfl (fun ls hl => ?_)
      refine lv_iconst (v := nI 3) hXX hBB dL_setApart_32 (by decide) ?_
      exact hret (r := nI 3) (.inr (3, u_)) ⟨rfl, hw⟩ rfl hP hD hS (Nat.le_refl _) (Nat.le_refl _) dL_setApart_33
  · skip
    refine lv_if_eq (tgt := 17) hXX hBB dL_setApart_10 (by decide) (fun c_9 => ?_) (fun c_9 => ?_)
    · refine lv_lconst (v := 0) hXX hBB dL_setApart_17 (by decide) ?_
      refine m_stk (st2 := [.long r9.toInt64, .int (nI 0), .ref aO]) (by rw [c_9]; rfl) ?_
      refine va_last hXX hBB hK hP hD hS 0 0 rfl rfl (vp_in_nI (by decide) (by decide)) dL_setApart_18 (fun H locs hP hD hS => ?_)
      refine lv_goto (tgt := 34) hXX hBB dL_setApart_19 (by decide) ?_
      refine lv_iconst (v := nI 0) hXX hBB dL_setApart_34 (by decide) ?_
      exact hret (r := nI 0) (.inl (r9, u_)) ⟨rfl, hw⟩ rfl hP hD hS (Nat.le_refl _) (Nat.le_refl _) dL_setApart_35
    · refine lv_lconst (v := 1) hXX hBB dL_setApart_13 (by decide) ?_
      refine m_stk (st2 := [.long r9.toInt64, .int (nI 0), .ref aO]) (by rw [(hbv r9 u_ hw).resolve_left c_9]; rfl) ?_
      refine lv_goto (tgt := 18) hXX hBB dL_setApart_14 (by decide) ?_
      refine va_last hXX hBB hK hP hD hS 0 0 rfl rfl (vp_in_nI (by decide) (by decide)) dL_setApart_18 (fun H locs hP hD hS => ?_)
      refine lv_goto (tgt := 34) hXX hBB dL_setApart_19 (by decide) ?_
      refine lv_iconst (v := nI 0) hXX hBB dL_setApart_34 (by decide) ?_
      exact hret (r := nI 0) (.inl (r9, u_)) ⟨rfl, hw⟩ rfl hP hD hS (Nat.le_refl _) (Nat.le_refl _) dL_setApart_35
abbrev rmL_setOtherDays : Room := { frames := rmX2_setOtherDays.frames + 1, cells := rmX2_setOtherDays.cells, slots := rmX2_setOtherDays.slots, locals := 8 + (4 + 11) + rmX2_setOtherDays.locals }
set_option maxHeartbeats 4000000 in
set_option maxRecDepth 100000 in
theorem kL_setOtherDays (l : Launch) (D : va_G) (cJ : ClassId) {tyc : mTy} {wc : va_W} {S1 S2 : Type} {post : Int32 → S1 → Prop} {w1 : S1 → va_W} {px : Nat → S2 → Prop} {wx : S2 → va_W} (c9 : Nat) (fs9 : List Value) (x : Int32) (y : Int32) (zb : Int32) (aO : Nat) (ov : Nat → Int64) (isC tC : List Nat)
    (hM : Xi l yX2_setOtherDays wsX2_setOtherDays rmX2_setOtherDays D tyc [.ref c9, .int x, .int y, .int zb] wc post w1 px wx) (he : wc[0]? = some (c9, .inr (2, fs9))) (hpx : ∀ i u, px i u → i = 2 ∨ i = 1 ∨ i = 3) (hbv : ∀ r u, post r u → r = 0 ∨ r = 1)
    (hC : isC.map (fun i => ((aO, .inl (cJ, 1, .inr (.inl ov))) :: wc : va_W)[i]?) = wc.map some) (hty : tC.filterMap (fun i => ((cJ, .long) :: tyc : mTy)[i]?) = tyc) (hnC : va_nd isC = true) (hdis : ∀ i ∈ [0], i ∉ isC) :
    Li l yL_setOtherDays wsL_setOtherDays rmL_setOtherDays D ((cJ, .long) :: tyc) [.ref c9, .int x, .int y, .int zb, .ref aO] ((aO, .inl (cJ, 1, .inr (.inl ov))) :: wc) (wPost post px (fun i => if i = 2 then 1 else if i = 1 then 2 else if i = 3 then 3 else 0)) (wW aO cJ ov w1 wx) := by
  refine Li_of (cc := cL_setOtherDays) (maxL := 6) (hh := [(0, 19, 22, 18), (0, 19, 26, 13), (0, 19, 30, 20)]) (by decide) rfl (Nat.le_of_ble_eq_true rfl) ?_
  intro pR eV sT mI args below meth cO AA QQ ls hXX hBB hml hown hts hN hK hP hD hS hAA hl hX htab hret
  have hl : lv_has ls 6 [(0, .ref c9), (1, .int x), (2, .int y), (3, .int zb), (4, .ref aO)] := hl
  have kl_2 : (Cond.classLink RL 18 (xN 2)).before args sT = true := hts _ (List.mem_of_getElem? (i := 1) rfl)
  have kl_1 : (Cond.classLink RL 13 (xN 1)).before args sT = true := hts _ (List.mem_of_getElem? (i := 2) rfl)
  have kl_3 : (Cond.classLink RL 20 (xN 3)).before args sT = true := hts _ (List.mem_of_getElem? (i := 3) rfl)
  refine lv_aload hXX hBB dL_setOtherDays_0 (lv_at hl 4 rfl) ?_
  refine lv_iconst (v := nI 0) hXX hBB dL_setOtherDays_2 (by decide) ?_
  refine lv_aload_n hXX hBB dL_setOtherDays_3 rfl (lv_at hl 0 rfl) ?_
  refine lv_iload_n hXX hBB dL_setOtherDays_4 rfl (lv_at hl 1 rfl) ?_
  refine lv_iload_n hXX hBB dL_setOtherDays_5 rfl (lv_at hl 2 rfl) ?_
  refine lv_iload_n hXX hBB dL_setOtherDays_6 rfl (lv_at hl 3 rfl) ?_
  refine x_calli (wr := [(aO, .inl (cJ, 1, .inr (.inl ov)))]) ⟨hXX, hBB, hml, hown, hts⟩ hN hX hM (cwV 3 hts gL_setOtherDays_X2_setOtherDays rfl rfl rfl (by decide +kernel) ⟨Nat.le_of_ble_eq_true rfl, Nat.le_of_ble_eq_true rfl⟩) hK hP hD hS hAA isC [0] tC hC rfl hty hnC (by decide) hdis rfl 2 rfl he rfl rfl hl.1 rfl (Nat.le_of_ble_eq_true rfl) dL_setOtherDays_7 ⟨Nat.le_of_ble_eq_true rfl, Nat.le_of_ble_eq_true rfl⟩ (k := rmL_setOtherDays.cells) (n := rmL_setOtherDays.slots) (Nat.zero_add _) (Nat.zero_add _) (fun i_ u_ E_ ce_ q_ H locs hE_ hw hP hD hS hq_ hv_ hc_ => ?_) (fun r9 u_ H locs hw hP hD hS => ?_)
  · subst hE_
    rcases hpx i_ u_ hw with rfl | rfl | rfl
    · skip
      refine vx_catch (name := xN 2) hown [] ⟨0, 19, 22, 18⟩ [⟨0, 19, 26, 13⟩, ⟨0, 19, 30, 20⟩] (by rw [htab]; rfl) (fun z hz => absurd hz (by simp)) (by decide) (by decide) kl_2 (va_Nw.use rfl (hX.1 _ (by simp [xW]))) hq_ hv_ hc_ ?_
      refine lv_astore (lv' := [(5, .ref q_), (0, .ref c9), (1, .int x), (2, .int y), (3, .int zb), (4, .ref aO)]) hXX hBB dL_setOtherDays_22 hl (by decide) rfl (fun ls hl => ?_)
      refine lv_iconst (v := nI 1) hXX hBB dL_setOtherDays_24 (by decide) ?_
      exact hret (r := nI 1) (.inr (2, u_)) ⟨rfl, hw⟩ rfl hP hD hS (Nat.le_refl _) (Nat.le_refl _) dL_setOtherDays_25
    · skip
      have hps : ∀ z ∈ [(⟨0, 19, 22, 18⟩ : ExceptionTableEntry)], covers z 7 = false ∨ (z.catchType ≠ 0 ∧ ∃ nm : String, (Cond.classLink RL z.catchType nm).before args sT = true ∧ va_Nc (xN 1) nm sT) := by
        intro z hz
        simp only [List.mem_cons, List.not_mem_nil, or_false] at hz
        subst hz
        exact Or.inr ⟨by decide, xN 2, kl_2, hX.2.2.2.2 1 (by decide) 2 (by decide) (by decide +kernel)⟩
      refine vx_catch (name := xN 1) hown [⟨0, 19, 22, 18⟩] ⟨0, 19, 26, 13⟩ [⟨0, 19, 30, 20⟩] (by rw [htab]; rfl) hps (by decide) (by decide) kl_1 (va_Nw.use rfl (hX.1 _ (by simp [xW]))) hq_ hv_ hc_ ?_
      refine lv_astore (lv' := [(5, .ref q_), (0, .ref c9), (1, .int x), (2, .int y), (3, .int zb), (4, .ref aO)]) hXX hBB dL_setOtherDays_26 hl (by decide) rfl (fun ls hl => ?_)
      refine lv_iconst (v := nI 2) hXX hBB dL_setOtherDays_28 (by decide) ?_
      exact hret (r := nI 2) (.inr (1, u_)) ⟨rfl, hw⟩ rfl hP hD hS (Nat.le_refl _) (Nat.le_refl _) dL_setOtherDays_29
    · skip
      have hps : ∀ z ∈ [(⟨0, 19, 22, 18⟩ : ExceptionTableEntry), (⟨0, 19, 26, 13⟩ : ExceptionTableEntry)], covers z 7 = false ∨ (z.catchType ≠ 0 ∧ ∃ nm : String, (Cond.classLink RL z.catchType nm).before args sT = true ∧ va_Nc (xN 3) nm sT) := by
        intro z hz
        simp only [List.mem_cons, List.not_mem_nil, or_false] at hz
        rcases hz with rfl | rfl
        · exact Or.inr ⟨by decide, xN 2, kl_2, hX.2.2.2.2 3 (by decide) 2 (by decide) (by decide +kernel)⟩
        · exact Or.inr ⟨by decide, xN 1, kl_1, hX.2.2.2.2 3 (by decide) 1 (by decide) (by decide +kernel)⟩
      refine vx_catch (name := xN 3) hown [⟨0, 19, 22, 18⟩, ⟨0, 19, 26, 13⟩] ⟨0, 19, 30, 20⟩ [] (by rw [htab]; rfl) hps (by decide) (by decide) kl_3 (va_Nw.use rfl (hX.1 _ (by simp [xW]))) hq_ hv_ hc_ ?_
      refine lv_astore (lv' := [(5, .ref q_), (0, .ref c9), (1, .int x), (2, .int y), (3, .int zb), (4, .ref aO)]) hXX hBB dL_setOtherDays_30 hl (by decide) rfl (fun ls hl => ?_)
      refine lv_iconst (v := nI 3) hXX hBB dL_setOtherDays_32 (by decide) ?_
      exact hret (r := nI 3) (.inr (3, u_)) ⟨rfl, hw⟩ rfl hP hD hS (Nat.le_refl _) (Nat.le_refl _) dL_setOtherDays_33
  · skip
    refine lv_if_eq (tgt := 17) hXX hBB dL_setOtherDays_10 (by decide) (fun c_9 => ?_) (fun c_9 => ?_)
    · refine lv_lconst (v := 0) hXX hBB dL_setOtherDays_17 (by decide) ?_
      refine m_stk (st2 := [.long r9.toInt64, .int (nI 0), .ref aO]) (by rw [c_9]; rfl) ?_
      refine va_last hXX hBB hK hP hD hS 0 0 rfl rfl (vp_in_nI (by decide) (by decide)) dL_setOtherDays_18 (fun H locs hP hD hS => ?_)
      refine lv_goto (tgt := 34) hXX hBB dL_setOtherDays_19 (by decide) ?_
      refine lv_iconst (v := nI 0) hXX hBB dL_setOtherDays_34 (by decide) ?_
      exact hret (r := nI 0) (.inl (r9, u_)) ⟨rfl, hw⟩ rfl hP hD hS (Nat.le_refl _) (Nat.le_refl _) dL_setOtherDays_35
    · refine lv_lconst (v := 1) hXX hBB dL_setOtherDays_13 (by decide) ?_
      refine m_stk (st2 := [.long r9.toInt64, .int (nI 0), .ref aO]) (by rw [(hbv r9 u_ hw).resolve_left c_9]; rfl) ?_
      refine lv_goto (tgt := 18) hXX hBB dL_setOtherDays_14 (by decide) ?_
      refine va_last hXX hBB hK hP hD hS 0 0 rfl rfl (vp_in_nI (by decide) (by decide)) dL_setOtherDays_18 (fun H locs hP hD hS => ?_)
      refine lv_goto (tgt := 34) hXX hBB dL_setOtherDays_19 (by decide) ?_
      refine lv_iconst (v := nI 0) hXX hBB dL_setOtherDays_34 (by decide) ?_
      exact hret (r := nI 0) (.inl (r9, u_)) ⟨rfl, hw⟩ rfl hP hD hS (Nat.le_refl _) (Nat.le_refl _) dL_setOtherDays_35
abbrev rmL_draw : Room := { frames := rmX2_draw.frames + 1, cells := rmX2_draw.cells, slots := rmX2_draw.slots, locals := 8 + (3 + 11) + rmX2_draw.locals }
set_option maxHeartbeats 4000000 in
set_option maxRecDepth 100000 in
theorem kL_draw (l : Launch) (D : va_G) (cJ : ClassId) {tyc : mTy} {wc : va_W} {S1 S2 : Type} {post : Int32 → S1 → Prop} {w1 : S1 → va_W} {px : Nat → S2 → Prop} {wx : S2 → va_W} (c9 : Nat) (fs9 : List Value) (x : Int32) (aO : Nat) (ov : Nat → Int64) (isC tC : List Nat)
    (hM : Xi l yX2_draw wsX2_draw rmX2_draw D tyc [.ref c9, .int x] wc post w1 px wx) (he : wc[0]? = some (c9, .inr (2, fs9))) (hpx : ∀ i u, px i u → i = 3 ∨ i = 2)
    (hC : isC.map (fun i => ((aO, .inl (cJ, 1, .inr (.inl ov))) :: wc : va_W)[i]?) = wc.map some) (hty : tC.filterMap (fun i => ((cJ, .long) :: tyc : mTy)[i]?) = tyc) (hnC : va_nd isC = true) (hdis : ∀ i ∈ [0], i ∉ isC) :
    Li l yL_draw wsL_draw rmL_draw D ((cJ, .long) :: tyc) [.ref c9, .int x, .ref aO] ((aO, .inl (cJ, 1, .inr (.inl ov))) :: wc) (wPost post px (fun i => if i = 3 then 1 else if i = 2 then 2 else 0)) (wW aO cJ ov w1 wx) := by
  refine Li_of (cc := cL_draw) (maxL := 4) (hh := [(0, 9, 12, 20), (0, 9, 15, 18)]) (by decide) rfl (Nat.le_of_ble_eq_true rfl) ?_
  intro pR eV sT mI args below meth cO AA QQ ls hXX hBB hml hown hts hN hK hP hD hS hAA hl hX htab hret
  have hl : lv_has ls 4 [(0, .ref c9), (1, .int x), (2, .ref aO)] := hl
  have kl_3 : (Cond.classLink RL 20 (xN 3)).before args sT = true := hts _ (List.mem_of_getElem? (i := 1) rfl)
  have kl_2 : (Cond.classLink RL 18 (xN 2)).before args sT = true := hts _ (List.mem_of_getElem? (i := 2) rfl)
  refine lv_aload_n hXX hBB dL_draw_0 rfl (lv_at hl 2 rfl) ?_
  refine lv_iconst (v := nI 0) hXX hBB dL_draw_1 (by decide) ?_
  refine lv_aload_n hXX hBB dL_draw_2 rfl (lv_at hl 0 rfl) ?_
  refine lv_iload_n hXX hBB dL_draw_3 rfl (lv_at hl 1 rfl) ?_
  refine x_calli (wr := [(aO, .inl (cJ, 1, .inr (.inl ov)))]) ⟨hXX, hBB, hml, hown, hts⟩ hN hX hM (cwV 1 hts gL_draw_X2_draw rfl rfl rfl (by decide +kernel) ⟨Nat.le_of_ble_eq_true rfl, Nat.le_of_ble_eq_true rfl⟩) hK hP hD hS hAA isC [0] tC hC rfl hty hnC (by decide) hdis rfl 2 rfl he rfl rfl hl.1 rfl (Nat.le_of_ble_eq_true rfl) dL_draw_4 ⟨Nat.le_of_ble_eq_true rfl, Nat.le_of_ble_eq_true rfl⟩ (k := rmL_draw.cells) (n := rmL_draw.slots) (Nat.zero_add _) (Nat.zero_add _) (fun i_ u_ E_ ce_ q_ H locs hE_ hw hP hD hS hq_ hv_ hc_ => ?_) (fun r9 u_ H locs hw hP hD hS => ?_)
  · subst hE_
    rcases hpx i_ u_ hw with rfl | rfl
    · skip
      refine vx_catch (name := xN 3) hown [] ⟨0, 9, 12, 20⟩ [⟨0, 9, 15, 18⟩] (by rw [htab]; rfl) (fun z hz => absurd hz (by simp)) (by decide) (by decide) kl_3 (va_Nw.use rfl (hX.1 _ (by simp [xW]))) hq_ hv_ hc_ ?_
      refine lv_astore_n (lv' := [(3, .ref q_), (0, .ref c9), (1, .int x), (2, .ref aO)]) hXX hBB dL_draw_12 rfl hl (by decide) rfl (fun ls hl => ?_)
      refine lv_iconst (v := nI 1) hXX hBB dL_draw_13 (by decide) ?_
      exact hret (r := nI 1) (.inr (3, u_)) ⟨rfl, hw⟩ rfl hP hD hS (Nat.le_refl _) (Nat.le_refl _) dL_draw_14
    · skip
      have hps : ∀ z ∈ [(⟨0, 9, 12, 20⟩ : ExceptionTableEntry)], covers z 4 = false ∨ (z.catchType ≠ 0 ∧ ∃ nm : String, (Cond.classLink RL z.catchType nm).before args sT = true ∧ va_Nc (xN 2) nm sT) := by
        intro z hz
        simp only [List.mem_cons, List.not_mem_nil, or_false] at hz
        subst hz
        exact Or.inr ⟨by decide, xN 3, kl_3, hX.2.2.2.2 2 (by decide) 3 (by decide) (by decide +kernel)⟩
      refine vx_catch (name := xN 2) hown [⟨0, 9, 12, 20⟩] ⟨0, 9, 15, 18⟩ [] (by rw [htab]; rfl) hps (by decide) (by decide) kl_2 (va_Nw.use rfl (hX.1 _ (by simp [xW]))) hq_ hv_ hc_ ?_
      refine lv_astore_n (lv' := [(3, .ref q_), (0, .ref c9), (1, .int x), (2, .ref aO)]) hXX hBB dL_draw_15 rfl hl (by decide) rfl (fun ls hl => ?_)
      refine lv_iconst (v := nI 2) hXX hBB dL_draw_16 (by decide) ?_
      exact hret (r := nI 2) (.inr (2, u_)) ⟨rfl, hw⟩ rfl hP hD hS (Nat.le_refl _) (Nat.le_refl _) dL_draw_17
  · skip
    refine lv_i2l hXX hBB dL_draw_7 rfl ?_
    refine va_last hXX hBB hK hP hD hS 0 0 rfl rfl (vp_in_nI (by decide) (by decide)) dL_draw_8 (fun H locs hP hD hS => ?_)
    refine lv_goto (tgt := 18) hXX hBB dL_draw_9 (by decide) ?_
    refine lv_iconst (v := nI 0) hXX hBB dL_draw_18 (by decide) ?_
    exact hret (r := nI 0) (.inl (r9, u_)) ⟨rfl, hw⟩ rfl hP hD hS (Nat.le_refl _) (Nat.le_refl _) dL_draw_19
abbrev rmL_undo : Room := { frames := rmX2_undo.frames + 1, cells := rmX2_undo.cells, slots := rmX2_undo.slots, locals := 8 + (1 + 11) + rmX2_undo.locals }
set_option maxHeartbeats 4000000 in
set_option maxRecDepth 100000 in
theorem kL_undo (l : Launch) (D : va_G) (cJ : ClassId) {tyc : mTy} {wc : va_W} {S1 S2 : Type} {post : Int32 → S1 → Prop} {w1 : S1 → va_W} {px : Nat → S2 → Prop} {wx : S2 → va_W} (c9 : Nat) (fs9 : List Value) (aO : Nat) (ov : Nat → Int64) (isC tC : List Nat)
    (hM : Xi l yX2_undo wsX2_undo rmX2_undo D tyc [.ref c9] wc post w1 px wx) (he : wc[0]? = some (c9, .inr (2, fs9))) (hpx : ∀ i u, px i u → i = 3)
    (hC : isC.map (fun i => ((aO, .inl (cJ, 1, .inr (.inl ov))) :: wc : va_W)[i]?) = wc.map some) (hty : tC.filterMap (fun i => ((cJ, .long) :: tyc : mTy)[i]?) = tyc) (hnC : va_nd isC = true) (hdis : ∀ i ∈ [0], i ∉ isC) :
    Li l yL_undo wsL_undo rmL_undo D ((cJ, .long) :: tyc) [.ref c9, .ref aO] ((aO, .inl (cJ, 1, .inr (.inl ov))) :: wc) (wPost post px (fun i => if i = 3 then 1 else 0)) (wW aO cJ ov w1 wx) := by
  refine Li_of (cc := cL_undo) (maxL := 3) (hh := [(0, 8, 11, 20)]) (by decide) rfl (Nat.le_of_ble_eq_true rfl) ?_
  intro pR eV sT mI args below meth cO AA QQ ls hXX hBB hml hown hts hN hK hP hD hS hAA hl hX htab hret
  have hl : lv_has ls 3 [(0, .ref c9), (1, .ref aO)] := hl
  have kl_3 : (Cond.classLink RL 20 (xN 3)).before args sT = true := hts _ (List.mem_of_getElem? (i := 1) rfl)
  refine lv_aload_n hXX hBB dL_undo_0 rfl (lv_at hl 1 rfl) ?_
  refine lv_iconst (v := nI 0) hXX hBB dL_undo_1 (by decide) ?_
  refine lv_aload_n hXX hBB dL_undo_2 rfl (lv_at hl 0 rfl) ?_
  refine x_calli (wr := [(aO, .inl (cJ, 1, .inr (.inl ov)))]) ⟨hXX, hBB, hml, hown, hts⟩ hN hX hM (cwV 0 hts gL_undo_X2_undo rfl rfl rfl (by decide +kernel) ⟨Nat.le_of_ble_eq_true rfl, Nat.le_of_ble_eq_true rfl⟩) hK hP hD hS hAA isC [0] tC hC rfl hty hnC (by decide) hdis rfl 2 rfl he rfl rfl hl.1 rfl (Nat.le_of_ble_eq_true rfl) dL_undo_3 ⟨Nat.le_of_ble_eq_true rfl, Nat.le_of_ble_eq_true rfl⟩ (k := rmL_undo.cells) (n := rmL_undo.slots) (Nat.zero_add _) (Nat.zero_add _) (fun i_ u_ E_ ce_ q_ H locs hE_ hw hP hD hS hq_ hv_ hc_ => ?_) (fun r9 u_ H locs hw hP hD hS => ?_)
  · subst hE_
    obtain rfl := hpx i_ u_ hw
    refine vx_catch (name := xN 3) hown [] ⟨0, 8, 11, 20⟩ [] (by rw [htab]; rfl) (fun z hz => absurd hz (by simp)) (by decide) (by decide) kl_3 (va_Nw.use rfl (hX.1 _ (by simp [xW]))) hq_ hv_ hc_ ?_
    refine lv_astore_n (lv' := [(2, .ref q_), (0, .ref c9), (1, .ref aO)]) hXX hBB dL_undo_11 rfl hl (by decide) rfl (fun ls hl => ?_)
    refine lv_iconst (v := nI 1) hXX hBB dL_undo_12 (by decide) ?_
    exact hret (r := nI 1) (.inr (3, u_)) ⟨rfl, hw⟩ rfl hP hD hS (Nat.le_refl _) (Nat.le_refl _) dL_undo_13
  · skip
    refine lv_i2l hXX hBB dL_undo_6 rfl ?_
    refine va_last hXX hBB hK hP hD hS 0 0 rfl rfl (vp_in_nI (by decide) (by decide)) dL_undo_7 (fun H locs hP hD hS => ?_)
    refine lv_goto (tgt := 14) hXX hBB dL_undo_8 (by decide) ?_
    refine lv_iconst (v := nI 0) hXX hBB dL_undo_14 (by decide) ?_
    exact hret (r := nI 0) (.inl (r9, u_)) ⟨rfl, hw⟩ rfl hP hD hS (Nat.le_refl _) (Nat.le_refl _) dL_undo_15
abbrev rmL_ballAt : Room := { frames := rmX2_ballAt.frames + 1, cells := rmX2_ballAt.cells, slots := rmX2_ballAt.slots, locals := 8 + (3 + 11) + rmX2_ballAt.locals }
set_option maxHeartbeats 4000000 in
set_option maxRecDepth 100000 in
theorem kL_ballAt (l : Launch) (D : va_G) (cJ : ClassId) {tyc : mTy} {wc : va_W} {S1 S2 : Type} {post : Int32 → S1 → Prop} {w1 : S1 → va_W} {px : Nat → S2 → Prop} {wx : S2 → va_W} (c9 : Nat) (fs9 : List Value) (x : Int32) (aO : Nat) (ov : Nat → Int64) (isC tC : List Nat)
    (hM : Xi l yX2_ballAt wsX2_ballAt rmX2_ballAt D tyc [.ref c9, .int x] wc post w1 px wx) (he : wc[0]? = some (c9, .inr (2, fs9))) (hpx : ∀ i u, px i u → i = 2)
    (hC : isC.map (fun i => ((aO, .inl (cJ, 1, .inr (.inl ov))) :: wc : va_W)[i]?) = wc.map some) (hty : tC.filterMap (fun i => ((cJ, .long) :: tyc : mTy)[i]?) = tyc) (hnC : va_nd isC = true) (hdis : ∀ i ∈ [0], i ∉ isC) :
    Li l yL_ballAt wsL_ballAt rmL_ballAt D ((cJ, .long) :: tyc) [.ref c9, .int x, .ref aO] ((aO, .inl (cJ, 1, .inr (.inl ov))) :: wc) (wPost post px (fun i => if i = 2 then 1 else 0)) (wW aO cJ ov w1 wx) := by
  refine Li_of (cc := cL_ballAt) (maxL := 4) (hh := [(0, 9, 12, 18)]) (by decide) rfl (Nat.le_of_ble_eq_true rfl) ?_
  intro pR eV sT mI args below meth cO AA QQ ls hXX hBB hml hown hts hN hK hP hD hS hAA hl hX htab hret
  have hl : lv_has ls 4 [(0, .ref c9), (1, .int x), (2, .ref aO)] := hl
  have kl_2 : (Cond.classLink RL 18 (xN 2)).before args sT = true := hts _ (List.mem_of_getElem? (i := 1) rfl)
  refine lv_aload_n hXX hBB dL_ballAt_0 rfl (lv_at hl 2 rfl) ?_
  refine lv_iconst (v := nI 0) hXX hBB dL_ballAt_1 (by decide) ?_
  refine lv_aload_n hXX hBB dL_ballAt_2 rfl (lv_at hl 0 rfl) ?_
  refine lv_iload_n hXX hBB dL_ballAt_3 rfl (lv_at hl 1 rfl) ?_
  refine x_calli (wr := [(aO, .inl (cJ, 1, .inr (.inl ov)))]) ⟨hXX, hBB, hml, hown, hts⟩ hN hX hM (cwV 1 hts gL_ballAt_X2_ballAt rfl rfl rfl (by decide +kernel) ⟨Nat.le_of_ble_eq_true rfl, Nat.le_of_ble_eq_true rfl⟩) hK hP hD hS hAA isC [0] tC hC rfl hty hnC (by decide) hdis rfl 2 rfl he rfl rfl hl.1 rfl (Nat.le_of_ble_eq_true rfl) dL_ballAt_4 ⟨Nat.le_of_ble_eq_true rfl, Nat.le_of_ble_eq_true rfl⟩ (k := rmL_ballAt.cells) (n := rmL_ballAt.slots) (Nat.zero_add _) (Nat.zero_add _) (fun i_ u_ E_ ce_ q_ H locs hE_ hw hP hD hS hq_ hv_ hc_ => ?_) (fun r9 u_ H locs hw hP hD hS => ?_)
  · subst hE_
    obtain rfl := hpx i_ u_ hw
    refine vx_catch (name := xN 2) hown [] ⟨0, 9, 12, 18⟩ [] (by rw [htab]; rfl) (fun z hz => absurd hz (by simp)) (by decide) (by decide) kl_2 (va_Nw.use rfl (hX.1 _ (by simp [xW]))) hq_ hv_ hc_ ?_
    refine lv_astore_n (lv' := [(3, .ref q_), (0, .ref c9), (1, .int x), (2, .ref aO)]) hXX hBB dL_ballAt_12 rfl hl (by decide) rfl (fun ls hl => ?_)
    refine lv_iconst (v := nI 1) hXX hBB dL_ballAt_13 (by decide) ?_
    exact hret (r := nI 1) (.inr (2, u_)) ⟨rfl, hw⟩ rfl hP hD hS (Nat.le_refl _) (Nat.le_refl _) dL_ballAt_14
  · skip
    refine lv_i2l hXX hBB dL_ballAt_7 rfl ?_
    refine va_last hXX hBB hK hP hD hS 0 0 rfl rfl (vp_in_nI (by decide) (by decide)) dL_ballAt_8 (fun H locs hP hD hS => ?_)
    refine lv_goto (tgt := 15) hXX hBB dL_ballAt_9 (by decide) ?_
    refine lv_iconst (v := nI 0) hXX hBB dL_ballAt_15 (by decide) ?_
    exact hret (r := nI 0) (.inl (r9, u_)) ⟨rfl, hw⟩ rfl hP hD hS (Nat.le_refl _) (Nat.le_refl _) dL_ballAt_16
abbrev rmL_groupOf : Room := { frames := rmX2_groupOf.frames + 1, cells := rmX2_groupOf.cells, slots := rmX2_groupOf.slots, locals := 8 + (2 + 11) + rmX2_groupOf.locals }
set_option maxHeartbeats 4000000 in
set_option maxRecDepth 100000 in
theorem kL_groupOf (l : Launch) (D : va_G) (cJ : ClassId) {tyc : mTy} {wc : va_W} {S1 S2 : Type} {post : Int32 → S1 → Prop} {w1 : S1 → va_W} {px : Nat → S2 → Prop} {wx : S2 → va_W} (c9 : Nat) (fs9 : List Value) (x : Int32) (aO : Nat) (ov : Nat → Int64) (isC tC : List Nat)
    (hM : Xi l yX2_groupOf wsX2_groupOf rmX2_groupOf D tyc [.ref c9, .int x] wc post w1 px wx) (he : wc[0]? = some (c9, .inr (2, fs9))) (hpx : ∀ i u, px i u → i = 2)
    (hC : isC.map (fun i => ((aO, .inl (cJ, 1, .inr (.inl ov))) :: wc : va_W)[i]?) = wc.map some) (hty : tC.filterMap (fun i => ((cJ, .long) :: tyc : mTy)[i]?) = tyc) (hnC : va_nd isC = true) (hdis : ∀ i ∈ [0], i ∉ isC) :
    Li l yL_groupOf wsL_groupOf rmL_groupOf D ((cJ, .long) :: tyc) [.ref c9, .int x, .ref aO] ((aO, .inl (cJ, 1, .inr (.inl ov))) :: wc) (wPost post px (fun i => if i = 2 then 1 else 0)) (wW aO cJ ov w1 wx) := by
  refine Li_of (cc := cL_groupOf) (maxL := 4) (hh := [(0, 9, 12, 18)]) (by decide) rfl (Nat.le_of_ble_eq_true rfl) ?_
  intro pR eV sT mI args below meth cO AA QQ ls hXX hBB hml hown hts hN hK hP hD hS hAA hl hX htab hret
  have hl : lv_has ls 4 [(0, .ref c9), (1, .int x), (2, .ref aO)] := hl
  have kl_2 : (Cond.classLink RL 18 (xN 2)).before args sT = true := hts _ (List.mem_of_getElem? (i := 1) rfl)
  refine lv_aload_n hXX hBB dL_groupOf_0 rfl (lv_at hl 2 rfl) ?_
  refine lv_iconst (v := nI 0) hXX hBB dL_groupOf_1 (by decide) ?_
  refine lv_aload_n hXX hBB dL_groupOf_2 rfl (lv_at hl 0 rfl) ?_
  refine lv_iload_n hXX hBB dL_groupOf_3 rfl (lv_at hl 1 rfl) ?_
  refine x_calli (wr := [(aO, .inl (cJ, 1, .inr (.inl ov)))]) ⟨hXX, hBB, hml, hown, hts⟩ hN hX hM (cwV 1 hts gL_groupOf_X2_groupOf rfl rfl rfl (by decide +kernel) ⟨Nat.le_of_ble_eq_true rfl, Nat.le_of_ble_eq_true rfl⟩) hK hP hD hS hAA isC [0] tC hC rfl hty hnC (by decide) hdis rfl 2 rfl he rfl rfl hl.1 rfl (Nat.le_of_ble_eq_true rfl) dL_groupOf_4 ⟨Nat.le_of_ble_eq_true rfl, Nat.le_of_ble_eq_true rfl⟩ (k := rmL_groupOf.cells) (n := rmL_groupOf.slots) (Nat.zero_add _) (Nat.zero_add _) (fun i_ u_ E_ ce_ q_ H locs hE_ hw hP hD hS hq_ hv_ hc_ => ?_) (fun r9 u_ H locs hw hP hD hS => ?_)
  · subst hE_
    obtain rfl := hpx i_ u_ hw
    refine vx_catch (name := xN 2) hown [] ⟨0, 9, 12, 18⟩ [] (by rw [htab]; rfl) (fun z hz => absurd hz (by simp)) (by decide) (by decide) kl_2 (va_Nw.use rfl (hX.1 _ (by simp [xW]))) hq_ hv_ hc_ ?_
    refine lv_astore_n (lv' := [(3, .ref q_), (0, .ref c9), (1, .int x), (2, .ref aO)]) hXX hBB dL_groupOf_12 rfl hl (by decide) rfl (fun ls hl => ?_)
    refine lv_iconst (v := nI 1) hXX hBB dL_groupOf_13 (by decide) ?_
    exact hret (r := nI 1) (.inr (2, u_)) ⟨rfl, hw⟩ rfl hP hD hS (Nat.le_refl _) (Nat.le_refl _) dL_groupOf_14
  · skip
    refine lv_i2l hXX hBB dL_groupOf_7 rfl ?_
    refine va_last hXX hBB hK hP hD hS 0 0 rfl rfl (vp_in_nI (by decide) (by decide)) dL_groupOf_8 (fun H locs hP hD hS => ?_)
    refine lv_goto (tgt := 15) hXX hBB dL_groupOf_9 (by decide) ?_
    refine lv_iconst (v := nI 0) hXX hBB dL_groupOf_15 (by decide) ?_
    exact hret (r := nI 0) (.inl (r9, u_)) ⟨rfl, hw⟩ rfl hP hD hS (Nat.le_refl _) (Nat.le_refl _) dL_groupOf_16
abbrev rmL_teamAt : Room := { frames := rmX2_teamAt.frames + 1, cells := rmX2_teamAt.cells, slots := rmX2_teamAt.slots, locals := 8 + (5 + 11) + rmX2_teamAt.locals }
set_option maxHeartbeats 4000000 in
set_option maxRecDepth 100000 in
theorem kL_teamAt (l : Launch) (D : va_G) (cJ : ClassId) {tyc : mTy} {wc : va_W} {S1 S2 : Type} {post : Int32 → S1 → Prop} {w1 : S1 → va_W} {px : Nat → S2 → Prop} {wx : S2 → va_W} (c9 : Nat) (fs9 : List Value) (x : Int32) (y : Int32) (aO : Nat) (ov : Nat → Int64) (isC tC : List Nat)
    (hM : Xi l yX2_teamAt wsX2_teamAt rmX2_teamAt D tyc [.ref c9, .int x, .int y] wc post w1 px wx) (he : wc[0]? = some (c9, .inr (2, fs9))) (hpx : ∀ i u, px i u → i = 2)
    (hC : isC.map (fun i => ((aO, .inl (cJ, 1, .inr (.inl ov))) :: wc : va_W)[i]?) = wc.map some) (hty : tC.filterMap (fun i => ((cJ, .long) :: tyc : mTy)[i]?) = tyc) (hnC : va_nd isC = true) (hdis : ∀ i ∈ [0], i ∉ isC) :
    Li l yL_teamAt wsL_teamAt rmL_teamAt D ((cJ, .long) :: tyc) [.ref c9, .int x, .int y, .ref aO] ((aO, .inl (cJ, 1, .inr (.inl ov))) :: wc) (wPost post px (fun i => if i = 2 then 1 else 0)) (wW aO cJ ov w1 wx) := by
  refine Li_of (cc := cL_teamAt) (maxL := 5) (hh := [(0, 10, 13, 18)]) (by decide) rfl (Nat.le_of_ble_eq_true rfl) ?_
  intro pR eV sT mI args below meth cO AA QQ ls hXX hBB hml hown hts hN hK hP hD hS hAA hl hX htab hret
  have hl : lv_has ls 5 [(0, .ref c9), (1, .int x), (2, .int y), (3, .ref aO)] := hl
  have kl_2 : (Cond.classLink RL 18 (xN 2)).before args sT = true := hts _ (List.mem_of_getElem? (i := 1) rfl)
  refine lv_aload_n hXX hBB dL_teamAt_0 rfl (lv_at hl 3 rfl) ?_
  refine lv_iconst (v := nI 0) hXX hBB dL_teamAt_1 (by decide) ?_
  refine lv_aload_n hXX hBB dL_teamAt_2 rfl (lv_at hl 0 rfl) ?_
  refine lv_iload_n hXX hBB dL_teamAt_3 rfl (lv_at hl 1 rfl) ?_
  refine lv_iload_n hXX hBB dL_teamAt_4 rfl (lv_at hl 2 rfl) ?_
  refine x_calli (wr := [(aO, .inl (cJ, 1, .inr (.inl ov)))]) ⟨hXX, hBB, hml, hown, hts⟩ hN hX hM (cwV 2 hts gL_teamAt_X2_teamAt rfl rfl rfl (by decide +kernel) ⟨Nat.le_of_ble_eq_true rfl, Nat.le_of_ble_eq_true rfl⟩) hK hP hD hS hAA isC [0] tC hC rfl hty hnC (by decide) hdis rfl 2 rfl he rfl rfl hl.1 rfl (Nat.le_of_ble_eq_true rfl) dL_teamAt_5 ⟨Nat.le_of_ble_eq_true rfl, Nat.le_of_ble_eq_true rfl⟩ (k := rmL_teamAt.cells) (n := rmL_teamAt.slots) (Nat.zero_add _) (Nat.zero_add _) (fun i_ u_ E_ ce_ q_ H locs hE_ hw hP hD hS hq_ hv_ hc_ => ?_) (fun r9 u_ H locs hw hP hD hS => ?_)
  · subst hE_
    obtain rfl := hpx i_ u_ hw
    refine vx_catch (name := xN 2) hown [] ⟨0, 10, 13, 18⟩ [] (by rw [htab]; rfl) (fun z hz => absurd hz (by simp)) (by decide) (by decide) kl_2 (va_Nw.use rfl (hX.1 _ (by simp [xW]))) hq_ hv_ hc_ ?_
    refine lv_astore (lv' := [(4, .ref q_), (0, .ref c9), (1, .int x), (2, .int y), (3, .ref aO)]) hXX hBB dL_teamAt_13 hl (by decide) rfl (fun ls hl => ?_)
    refine lv_iconst (v := nI 1) hXX hBB dL_teamAt_15 (by decide) ?_
    exact hret (r := nI 1) (.inr (2, u_)) ⟨rfl, hw⟩ rfl hP hD hS (Nat.le_refl _) (Nat.le_refl _) dL_teamAt_16
  · skip
    refine lv_i2l hXX hBB dL_teamAt_8 rfl ?_
    refine va_last hXX hBB hK hP hD hS 0 0 rfl rfl (vp_in_nI (by decide) (by decide)) dL_teamAt_9 (fun H locs hP hD hS => ?_)
    refine lv_goto (tgt := 17) hXX hBB dL_teamAt_10 (by decide) ?_
    refine lv_iconst (v := nI 0) hXX hBB dL_teamAt_17 (by decide) ?_
    exact hret (r := nI 0) (.inl (r9, u_)) ⟨rfl, hw⟩ rfl hP hD hS (Nat.le_refl _) (Nat.le_refl _) dL_teamAt_18
abbrev rmL_fits : Room := { frames := rmX2_fits.frames + 1, cells := rmX2_fits.cells, slots := rmX2_fits.slots, locals := 8 + (3 + 11) + rmX2_fits.locals }
set_option maxHeartbeats 4000000 in
set_option maxRecDepth 100000 in
theorem kL_fits (l : Launch) (D : va_G) (cJ : ClassId) {tyc : mTy} {wc : va_W} {S1 S2 : Type} {post : Int32 → S1 → Prop} {w1 : S1 → va_W} {px : Nat → S2 → Prop} {wx : S2 → va_W} (c9 : Nat) (fs9 : List Value) (x : Int32) (y : Int32) (aO : Nat) (ov : Nat → Int64) (isC tC : List Nat)
    (hM : Xi l yX2_fits wsX2_fits rmX2_fits D tyc [.ref c9, .int x, .int y] wc post w1 px wx) (he : wc[0]? = some (c9, .inr (2, fs9))) (hpx : ∀ i u, px i u → i = 2) (hbv : ∀ r u, post r u → r = 0 ∨ r = 1)
    (hC : isC.map (fun i => ((aO, .inl (cJ, 1, .inr (.inl ov))) :: wc : va_W)[i]?) = wc.map some) (hty : tC.filterMap (fun i => ((cJ, .long) :: tyc : mTy)[i]?) = tyc) (hnC : va_nd isC = true) (hdis : ∀ i ∈ [0], i ∉ isC) :
    Li l yL_fits wsL_fits rmL_fits D ((cJ, .long) :: tyc) [.ref c9, .int x, .int y, .ref aO] ((aO, .inl (cJ, 1, .inr (.inl ov))) :: wc) (wPost post px (fun i => if i = 2 then 1 else 0)) (wW aO cJ ov w1 wx) := by
  refine Li_of (cc := cL_fits) (maxL := 5) (hh := [(0, 17, 20, 18)]) (by decide) rfl (Nat.le_of_ble_eq_true rfl) ?_
  intro pR eV sT mI args below meth cO AA QQ ls hXX hBB hml hown hts hN hK hP hD hS hAA hl hX htab hret
  have hl : lv_has ls 5 [(0, .ref c9), (1, .int x), (2, .int y), (3, .ref aO)] := hl
  have kl_2 : (Cond.classLink RL 18 (xN 2)).before args sT = true := hts _ (List.mem_of_getElem? (i := 1) rfl)
  refine lv_aload_n hXX hBB dL_fits_0 rfl (lv_at hl 3 rfl) ?_
  refine lv_iconst (v := nI 0) hXX hBB dL_fits_1 (by decide) ?_
  refine lv_aload_n hXX hBB dL_fits_2 rfl (lv_at hl 0 rfl) ?_
  refine lv_iload_n hXX hBB dL_fits_3 rfl (lv_at hl 1 rfl) ?_
  refine lv_iload_n hXX hBB dL_fits_4 rfl (lv_at hl 2 rfl) ?_
  refine x_calli (wr := [(aO, .inl (cJ, 1, .inr (.inl ov)))]) ⟨hXX, hBB, hml, hown, hts⟩ hN hX hM (cwV 2 hts gL_fits_X2_fits rfl rfl rfl (by decide +kernel) ⟨Nat.le_of_ble_eq_true rfl, Nat.le_of_ble_eq_true rfl⟩) hK hP hD hS hAA isC [0] tC hC rfl hty hnC (by decide) hdis rfl 2 rfl he rfl rfl hl.1 rfl (Nat.le_of_ble_eq_true rfl) dL_fits_5 ⟨Nat.le_of_ble_eq_true rfl, Nat.le_of_ble_eq_true rfl⟩ (k := rmL_fits.cells) (n := rmL_fits.slots) (Nat.zero_add _) (Nat.zero_add _) (fun i_ u_ E_ ce_ q_ H locs hE_ hw hP hD hS hq_ hv_ hc_ => ?_) (fun r9 u_ H locs hw hP hD hS => ?_)
  · subst hE_
    obtain rfl := hpx i_ u_ hw
    refine vx_catch (name := xN 2) hown [] ⟨0, 17, 20, 18⟩ [] (by rw [htab]; rfl) (fun z hz => absurd hz (by simp)) (by decide) (by decide) kl_2 (va_Nw.use rfl (hX.1 _ (by simp [xW]))) hq_ hv_ hc_ ?_
    refine lv_astore (lv' := [(4, .ref q_), (0, .ref c9), (1, .int x), (2, .int y), (3, .ref aO)]) hXX hBB dL_fits_20 hl (by decide) rfl (fun ls hl => ?_)
    refine lv_iconst (v := nI 1) hXX hBB dL_fits_22 (by decide) ?_
    exact hret (r := nI 1) (.inr (2, u_)) ⟨rfl, hw⟩ rfl hP hD hS (Nat.le_refl _) (Nat.le_refl _) dL_fits_23
  · skip
    refine lv_if_eq (tgt := 15) hXX hBB dL_fits_8 (by decide) (fun c_9 => ?_) (fun c_9 => ?_)
    · refine lv_lconst (v := 0) hXX hBB dL_fits_15 (by decide) ?_
      refine m_stk (st2 := [.long r9.toInt64, .int (nI 0), .ref aO]) (by rw [c_9]; rfl) ?_
      refine va_last hXX hBB hK hP hD hS 0 0 rfl rfl (vp_in_nI (by decide) (by decide)) dL_fits_16 (fun H locs hP hD hS => ?_)
      refine lv_goto (tgt := 24) hXX hBB dL_fits_17 (by decide) ?_
      refine lv_iconst (v := nI 0) hXX hBB dL_fits_24 (by decide) ?_
      exact hret (r := nI 0) (.inl (r9, u_)) ⟨rfl, hw⟩ rfl hP hD hS (Nat.le_refl _) (Nat.le_refl _) dL_fits_25
    · refine lv_lconst (v := 1) hXX hBB dL_fits_11 (by decide) ?_
      refine m_stk (st2 := [.long r9.toInt64, .int (nI 0), .ref aO]) (by rw [(hbv r9 u_ hw).resolve_left c_9]; rfl) ?_
      refine lv_goto (tgt := 16) hXX hBB dL_fits_12 (by decide) ?_
      refine va_last hXX hBB hK hP hD hS 0 0 rfl rfl (vp_in_nI (by decide) (by decide)) dL_fits_16 (fun H locs hP hD hS => ?_)
      refine lv_goto (tgt := 24) hXX hBB dL_fits_17 (by decide) ?_
      refine lv_iconst (v := nI 0) hXX hBB dL_fits_24 (by decide) ?_
      exact hret (r := nI 0) (.inl (r9, u_)) ⟨rfl, hw⟩ rfl hP hD hS (Nat.le_refl _) (Nat.le_refl _) dL_fits_25
abbrev rmL_forced : Room := { frames := rmX2_forced.frames + 1, cells := rmX2_forced.cells, slots := rmX2_forced.slots, locals := 8 + (5 + 11) + rmX2_forced.locals }
set_option maxHeartbeats 4000000 in
set_option maxRecDepth 100000 in
theorem kL_forced (l : Launch) (D : va_G) (cJ : ClassId) {tyc : mTy} {wc : va_W} {S1 S2 : Type} {post : Int32 → S1 → Prop} {w1 : S1 → va_W} {px : Nat → S2 → Prop} {wx : S2 → va_W} (c9 : Nat) (fs9 : List Value) (x : Int32) (aO : Nat) (ov : Nat → Int64) (isC tC : List Nat)
    (hM : Xi l yX2_forced wsX2_forced rmX2_forced D tyc [.ref c9, .int x] wc post w1 px wx) (he : wc[0]? = some (c9, .inr (2, fs9))) (hpx : ∀ i u, px i u → i = 2)
    (hC : isC.map (fun i => ((aO, .inl (cJ, 1, .inr (.inl ov))) :: wc : va_W)[i]?) = wc.map some) (hty : tC.filterMap (fun i => ((cJ, .long) :: tyc : mTy)[i]?) = tyc) (hnC : va_nd isC = true) (hdis : ∀ i ∈ [0], i ∉ isC) :
    Li l yL_forced wsL_forced rmL_forced D ((cJ, .long) :: tyc) [.ref c9, .int x, .ref aO] ((aO, .inl (cJ, 1, .inr (.inl ov))) :: wc) (wPost post px (fun i => if i = 2 then 1 else 0)) (wW aO cJ ov w1 wx) := by
  refine Li_of (cc := cL_forced) (maxL := 4) (hh := [(0, 9, 12, 18)]) (by decide) rfl (Nat.le_of_ble_eq_true rfl) ?_
  intro pR eV sT mI args below meth cO AA QQ ls hXX hBB hml hown hts hN hK hP hD hS hAA hl hX htab hret
  have hl : lv_has ls 4 [(0, .ref c9), (1, .int x), (2, .ref aO)] := hl
  have kl_2 : (Cond.classLink RL 18 (xN 2)).before args sT = true := hts _ (List.mem_of_getElem? (i := 1) rfl)
  refine lv_aload_n hXX hBB dL_forced_0 rfl (lv_at hl 2 rfl) ?_
  refine lv_iconst (v := nI 0) hXX hBB dL_forced_1 (by decide) ?_
  refine lv_aload_n hXX hBB dL_forced_2 rfl (lv_at hl 0 rfl) ?_
  refine lv_iload_n hXX hBB dL_forced_3 rfl (lv_at hl 1 rfl) ?_
  refine x_calli (wr := [(aO, .inl (cJ, 1, .inr (.inl ov)))]) ⟨hXX, hBB, hml, hown, hts⟩ hN hX hM (cwV 1 hts gL_forced_X2_forced rfl rfl rfl (by decide +kernel) ⟨Nat.le_of_ble_eq_true rfl, Nat.le_of_ble_eq_true rfl⟩) hK hP hD hS hAA isC [0] tC hC rfl hty hnC (by decide) hdis rfl 2 rfl he rfl rfl hl.1 rfl (Nat.le_of_ble_eq_true rfl) dL_forced_4 ⟨Nat.le_of_ble_eq_true rfl, Nat.le_of_ble_eq_true rfl⟩ (k := rmL_forced.cells) (n := rmL_forced.slots) (Nat.zero_add _) (Nat.zero_add _) (fun i_ u_ E_ ce_ q_ H locs hE_ hw hP hD hS hq_ hv_ hc_ => ?_) (fun r9 u_ H locs hw hP hD hS => ?_)
  · subst hE_
    obtain rfl := hpx i_ u_ hw
    refine vx_catch (name := xN 2) hown [] ⟨0, 9, 12, 18⟩ [] (by rw [htab]; rfl) (fun z hz => absurd hz (by simp)) (by decide) (by decide) kl_2 (va_Nw.use rfl (hX.1 _ (by simp [xW]))) hq_ hv_ hc_ ?_
    refine lv_astore_n (lv' := [(3, .ref q_), (0, .ref c9), (1, .int x), (2, .ref aO)]) hXX hBB dL_forced_12 rfl hl (by decide) rfl (fun ls hl => ?_)
    refine lv_iconst (v := nI 1) hXX hBB dL_forced_13 (by decide) ?_
    exact hret (r := nI 1) (.inr (2, u_)) ⟨rfl, hw⟩ rfl hP hD hS (Nat.le_refl _) (Nat.le_refl _) dL_forced_14
  · skip
    refine lv_i2l hXX hBB dL_forced_7 rfl ?_
    refine va_last hXX hBB hK hP hD hS 0 0 rfl rfl (vp_in_nI (by decide) (by decide)) dL_forced_8 (fun H locs hP hD hS => ?_)
    refine lv_goto (tgt := 15) hXX hBB dL_forced_9 (by decide) ?_
    refine lv_iconst (v := nI 0) hXX hBB dL_forced_15 (by decide) ?_
    exact hret (r := nI 0) (.inl (r9, u_)) ⟨rfl, hw⟩ rfl hP hD hS (Nat.le_refl _) (Nat.le_refl _) dL_forced_16
abbrev rmL_evenly : Room := { frames := rmX2_evenly.frames + 1, cells := rmX2_evenly.cells, slots := rmX2_evenly.slots, locals := 8 + (3 + 11) + rmX2_evenly.locals }
set_option maxHeartbeats 4000000 in
set_option maxRecDepth 100000 in
theorem kL_evenly (l : Launch) (D : va_G) (cJ : ClassId) {tyc : mTy} {wc : va_W} {S1 S2 : Type} {post : Int32 → S1 → Prop} {w1 : S1 → va_W} {px : Nat → S2 → Prop} {wx : S2 → va_W} (c9 : Nat) (fs9 : List Value) (x : Int32) (y : Int32) (aO : Nat) (ov : Nat → Int64) (isC tC : List Nat)
    (hM : Xi l yX2_evenly wsX2_evenly rmX2_evenly D tyc [.ref c9, .int x, .int y] wc post w1 px wx) (he : wc[0]? = some (c9, .inr (2, fs9))) (hpx : ∀ i u, px i u → i = 2)
    (hC : isC.map (fun i => ((aO, .inl (cJ, 1, .inr (.inl ov))) :: wc : va_W)[i]?) = wc.map some) (hty : tC.filterMap (fun i => ((cJ, .long) :: tyc : mTy)[i]?) = tyc) (hnC : va_nd isC = true) (hdis : ∀ i ∈ [0], i ∉ isC) :
    Li l yL_evenly wsL_evenly rmL_evenly D ((cJ, .long) :: tyc) [.ref c9, .int x, .int y, .ref aO] ((aO, .inl (cJ, 1, .inr (.inl ov))) :: wc) (wPost post px (fun i => if i = 2 then 1 else 0)) (wW aO cJ ov w1 wx) := by
  refine Li_of (cc := cL_evenly) (maxL := 5) (hh := [(0, 10, 13, 18)]) (by decide) rfl (Nat.le_of_ble_eq_true rfl) ?_
  intro pR eV sT mI args below meth cO AA QQ ls hXX hBB hml hown hts hN hK hP hD hS hAA hl hX htab hret
  have hl : lv_has ls 5 [(0, .ref c9), (1, .int x), (2, .int y), (3, .ref aO)] := hl
  have kl_2 : (Cond.classLink RL 18 (xN 2)).before args sT = true := hts _ (List.mem_of_getElem? (i := 1) rfl)
  refine lv_aload_n hXX hBB dL_evenly_0 rfl (lv_at hl 3 rfl) ?_
  refine lv_iconst (v := nI 0) hXX hBB dL_evenly_1 (by decide) ?_
  refine lv_aload_n hXX hBB dL_evenly_2 rfl (lv_at hl 0 rfl) ?_
  refine lv_iload_n hXX hBB dL_evenly_3 rfl (lv_at hl 1 rfl) ?_
  refine lv_iload_n hXX hBB dL_evenly_4 rfl (lv_at hl 2 rfl) ?_
  refine x_calli (wr := [(aO, .inl (cJ, 1, .inr (.inl ov)))]) ⟨hXX, hBB, hml, hown, hts⟩ hN hX hM (cwV 2 hts gL_evenly_X2_evenly rfl rfl rfl (by decide +kernel) ⟨Nat.le_of_ble_eq_true rfl, Nat.le_of_ble_eq_true rfl⟩) hK hP hD hS hAA isC [0] tC hC rfl hty hnC (by decide) hdis rfl 2 rfl he rfl rfl hl.1 rfl (Nat.le_of_ble_eq_true rfl) dL_evenly_5 ⟨Nat.le_of_ble_eq_true rfl, Nat.le_of_ble_eq_true rfl⟩ (k := rmL_evenly.cells) (n := rmL_evenly.slots) (Nat.zero_add _) (Nat.zero_add _) (fun i_ u_ E_ ce_ q_ H locs hE_ hw hP hD hS hq_ hv_ hc_ => ?_) (fun r9 u_ H locs hw hP hD hS => ?_)
  · subst hE_
    obtain rfl := hpx i_ u_ hw
    refine vx_catch (name := xN 2) hown [] ⟨0, 10, 13, 18⟩ [] (by rw [htab]; rfl) (fun z hz => absurd hz (by simp)) (by decide) (by decide) kl_2 (va_Nw.use rfl (hX.1 _ (by simp [xW]))) hq_ hv_ hc_ ?_
    refine lv_astore (lv' := [(4, .ref q_), (0, .ref c9), (1, .int x), (2, .int y), (3, .ref aO)]) hXX hBB dL_evenly_13 hl (by decide) rfl (fun ls hl => ?_)
    refine lv_iconst (v := nI 1) hXX hBB dL_evenly_15 (by decide) ?_
    exact hret (r := nI 1) (.inr (2, u_)) ⟨rfl, hw⟩ rfl hP hD hS (Nat.le_refl _) (Nat.le_refl _) dL_evenly_16
  · skip
    refine lv_i2l hXX hBB dL_evenly_8 rfl ?_
    refine va_last hXX hBB hK hP hD hS 0 0 rfl rfl (vp_in_nI (by decide) (by decide)) dL_evenly_9 (fun H locs hP hD hS => ?_)
    refine lv_goto (tgt := 17) hXX hBB dL_evenly_10 (by decide) ?_
    refine lv_iconst (v := nI 0) hXX hBB dL_evenly_17 (by decide) ?_
    exact hret (r := nI 0) (.inl (r9, u_)) ⟨rfl, hw⟩ rfl hP hD hS (Nat.le_refl _) (Nat.le_refl _) dL_evenly_18
abbrev rmL_chances : Room := { frames := rmX2_chances.frames + 1, cells := rmX2_chances.cells, slots := rmX2_chances.slots, locals := 8 + (3 + 11) + rmX2_chances.locals }
set_option maxHeartbeats 4000000 in
set_option maxRecDepth 100000 in
theorem kL_chances (l : Launch) (D : va_G) (cJ : ClassId) {tyc : mTy} {wc : va_W} {S1 S2 : Type} {post : Int32 → S1 → Prop} {w1 : S1 → va_W} {px : Nat → S2 → Prop} {wx : S2 → va_W} (c9 : Nat) (fs9 : List Value) (x : Int32) (y : Int32) (aO : Nat) (ov : Nat → Int64) (isC tC : List Nat)
    (hM : Xi l yX2_chances wsX2_chances rmX2_chances D tyc [.ref c9, .int x, .int y] wc post w1 px wx) (he : wc[0]? = some (c9, .inr (2, fs9))) (hpx : ∀ i u, px i u → i = 2)
    (hC : isC.map (fun i => ((aO, .inl (cJ, 1, .inr (.inl ov))) :: wc : va_W)[i]?) = wc.map some) (hty : tC.filterMap (fun i => ((cJ, .long) :: tyc : mTy)[i]?) = tyc) (hnC : va_nd isC = true) (hdis : ∀ i ∈ [0], i ∉ isC) :
    Li l yL_chances wsL_chances rmL_chances D ((cJ, .long) :: tyc) [.ref c9, .int x, .int y, .ref aO] ((aO, .inl (cJ, 1, .inr (.inl ov))) :: wc) (wPost post px (fun i => if i = 2 then 1 else 0)) (wW aO cJ ov w1 wx) := by
  refine Li_of (cc := cL_chances) (maxL := 5) (hh := [(0, 10, 13, 18)]) (by decide) rfl (Nat.le_of_ble_eq_true rfl) ?_
  intro pR eV sT mI args below meth cO AA QQ ls hXX hBB hml hown hts hN hK hP hD hS hAA hl hX htab hret
  have hl : lv_has ls 5 [(0, .ref c9), (1, .int x), (2, .int y), (3, .ref aO)] := hl
  have kl_2 : (Cond.classLink RL 18 (xN 2)).before args sT = true := hts _ (List.mem_of_getElem? (i := 1) rfl)
  refine lv_aload_n hXX hBB dL_chances_0 rfl (lv_at hl 3 rfl) ?_
  refine lv_iconst (v := nI 0) hXX hBB dL_chances_1 (by decide) ?_
  refine lv_aload_n hXX hBB dL_chances_2 rfl (lv_at hl 0 rfl) ?_
  refine lv_iload_n hXX hBB dL_chances_3 rfl (lv_at hl 1 rfl) ?_
  refine lv_iload_n hXX hBB dL_chances_4 rfl (lv_at hl 2 rfl) ?_
  refine x_calli (wr := [(aO, .inl (cJ, 1, .inr (.inl ov)))]) ⟨hXX, hBB, hml, hown, hts⟩ hN hX hM (cwV 2 hts gL_chances_X2_chances rfl rfl rfl (by decide +kernel) ⟨Nat.le_of_ble_eq_true rfl, Nat.le_of_ble_eq_true rfl⟩) hK hP hD hS hAA isC [0] tC hC rfl hty hnC (by decide) hdis rfl 2 rfl he rfl rfl hl.1 rfl (Nat.le_of_ble_eq_true rfl) dL_chances_5 ⟨Nat.le_of_ble_eq_true rfl, Nat.le_of_ble_eq_true rfl⟩ (k := rmL_chances.cells) (n := rmL_chances.slots) (Nat.zero_add _) (Nat.zero_add _) (fun i_ u_ E_ ce_ q_ H locs hE_ hw hP hD hS hq_ hv_ hc_ => ?_) (fun r9 u_ H locs hw hP hD hS => ?_)
  · subst hE_
    obtain rfl := hpx i_ u_ hw
    refine vx_catch (name := xN 2) hown [] ⟨0, 10, 13, 18⟩ [] (by rw [htab]; rfl) (fun z hz => absurd hz (by simp)) (by decide) (by decide) kl_2 (va_Nw.use rfl (hX.1 _ (by simp [xW]))) hq_ hv_ hc_ ?_
    refine lv_astore (lv' := [(4, .ref q_), (0, .ref c9), (1, .int x), (2, .int y), (3, .ref aO)]) hXX hBB dL_chances_13 hl (by decide) rfl (fun ls hl => ?_)
    refine lv_iconst (v := nI 1) hXX hBB dL_chances_15 (by decide) ?_
    exact hret (r := nI 1) (.inr (2, u_)) ⟨rfl, hw⟩ rfl hP hD hS (Nat.le_refl _) (Nat.le_refl _) dL_chances_16
  · skip
    refine lv_i2l hXX hBB dL_chances_8 rfl ?_
    refine va_last hXX hBB hK hP hD hS 0 0 rfl rfl (vp_in_nI (by decide) (by decide)) dL_chances_9 (fun H locs hP hD hS => ?_)
    refine lv_goto (tgt := 17) hXX hBB dL_chances_10 (by decide) ?_
    refine lv_iconst (v := nI 0) hXX hBB dL_chances_17 (by decide) ?_
    exact hret (r := nI 0) (.inl (r9, u_)) ⟨rfl, hw⟩ rfl hP hD hS (Nat.le_refl _) (Nat.le_refl _) dL_chances_18
abbrev rmL_pairings : Room := { frames := rmX2_pairings.frames + 1, cells := rmX2_pairings.cells, slots := rmX2_pairings.slots, locals := 8 + (3 + 11) + rmX2_pairings.locals }
set_option maxHeartbeats 4000000 in
set_option maxRecDepth 100000 in
theorem kL_pairings (l : Launch) (D : va_G) (cJ : ClassId) {tyc : mTy} {wc : va_W} {S1 S2 : Type} {post : Int32 → S1 → Prop} {w1 : S1 → va_W} {px : Nat → S2 → Prop} {wx : S2 → va_W} (c9 : Nat) (fs9 : List Value) (x : Int32) (y : Int32) (aO : Nat) (ov : Nat → Int64) (isC tC : List Nat)
    (hM : Xi l yX2_pairings wsX2_pairings rmX2_pairings D tyc [.ref c9, .int x, .int y] wc post w1 px wx) (he : wc[0]? = some (c9, .inr (2, fs9))) (hpx : ∀ i u, px i u → i = 2)
    (hC : isC.map (fun i => ((aO, .inl (cJ, 1, .inr (.inl ov))) :: wc : va_W)[i]?) = wc.map some) (hty : tC.filterMap (fun i => ((cJ, .long) :: tyc : mTy)[i]?) = tyc) (hnC : va_nd isC = true) (hdis : ∀ i ∈ [0], i ∉ isC) :
    Li l yL_pairings wsL_pairings rmL_pairings D ((cJ, .long) :: tyc) [.ref c9, .int x, .int y, .ref aO] ((aO, .inl (cJ, 1, .inr (.inl ov))) :: wc) (wPost post px (fun i => if i = 2 then 1 else 0)) (wW aO cJ ov w1 wx) := by
  refine Li_of (cc := cL_pairings) (maxL := 5) (hh := [(0, 10, 13, 18)]) (by decide) rfl (Nat.le_of_ble_eq_true rfl) ?_
  intro pR eV sT mI args below meth cO AA QQ ls hXX hBB hml hown hts hN hK hP hD hS hAA hl hX htab hret
  have hl : lv_has ls 5 [(0, .ref c9), (1, .int x), (2, .int y), (3, .ref aO)] := hl
  have kl_2 : (Cond.classLink RL 18 (xN 2)).before args sT = true := hts _ (List.mem_of_getElem? (i := 1) rfl)
  refine lv_aload_n hXX hBB dL_pairings_0 rfl (lv_at hl 3 rfl) ?_
  refine lv_iconst (v := nI 0) hXX hBB dL_pairings_1 (by decide) ?_
  refine lv_aload_n hXX hBB dL_pairings_2 rfl (lv_at hl 0 rfl) ?_
  refine lv_iload_n hXX hBB dL_pairings_3 rfl (lv_at hl 1 rfl) ?_
  refine lv_iload_n hXX hBB dL_pairings_4 rfl (lv_at hl 2 rfl) ?_
  refine x_calli (wr := [(aO, .inl (cJ, 1, .inr (.inl ov)))]) ⟨hXX, hBB, hml, hown, hts⟩ hN hX hM (cwV 2 hts gL_pairings_X2_pairings rfl rfl rfl (by decide +kernel) ⟨Nat.le_of_ble_eq_true rfl, Nat.le_of_ble_eq_true rfl⟩) hK hP hD hS hAA isC [0] tC hC rfl hty hnC (by decide) hdis rfl 2 rfl he rfl rfl hl.1 rfl (Nat.le_of_ble_eq_true rfl) dL_pairings_5 ⟨Nat.le_of_ble_eq_true rfl, Nat.le_of_ble_eq_true rfl⟩ (k := rmL_pairings.cells) (n := rmL_pairings.slots) (Nat.zero_add _) (Nat.zero_add _) (fun i_ u_ E_ ce_ q_ H locs hE_ hw hP hD hS hq_ hv_ hc_ => ?_) (fun r9 u_ H locs hw hP hD hS => ?_)
  · subst hE_
    obtain rfl := hpx i_ u_ hw
    refine vx_catch (name := xN 2) hown [] ⟨0, 10, 13, 18⟩ [] (by rw [htab]; rfl) (fun z hz => absurd hz (by simp)) (by decide) (by decide) kl_2 (va_Nw.use rfl (hX.1 _ (by simp [xW]))) hq_ hv_ hc_ ?_
    refine lv_astore (lv' := [(4, .ref q_), (0, .ref c9), (1, .int x), (2, .int y), (3, .ref aO)]) hXX hBB dL_pairings_13 hl (by decide) rfl (fun ls hl => ?_)
    refine lv_iconst (v := nI 1) hXX hBB dL_pairings_15 (by decide) ?_
    exact hret (r := nI 1) (.inr (2, u_)) ⟨rfl, hw⟩ rfl hP hD hS (Nat.le_refl _) (Nat.le_refl _) dL_pairings_16
  · skip
    refine lv_i2l hXX hBB dL_pairings_8 rfl ?_
    refine va_last hXX hBB hK hP hD hS 0 0 rfl rfl (vp_in_nI (by decide) (by decide)) dL_pairings_9 (fun H locs hP hD hS => ?_)
    refine lv_goto (tgt := 17) hXX hBB dL_pairings_10 (by decide) ?_
    refine lv_iconst (v := nI 0) hXX hBB dL_pairings_17 (by decide) ?_
    exact hret (r := nI 0) (.inl (r9, u_)) ⟨rfl, hw⟩ rfl hP hD hS (Nat.le_refl _) (Nat.le_refl _) dL_pairings_18
