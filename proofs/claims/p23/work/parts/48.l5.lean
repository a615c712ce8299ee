/-! own rows: the law's small methods, that catch -/
def Li (l : Launch) (y : MethodName) (ws : List Cond) (rm : Room) (D : va_G) (tys : mTy) (av : List Value) (wc : va_W) {S : Type} (post : Int32 → S → Prop) (w1 : S → va_W) : Prop :=
  ∀ sz : Nat, Met l y ws rm (mPreX D tys wc av sz) (va_Qi post (fun u t => mAt D tys (va_A wc sz) (w1 u) t) (va_A wc sz)) rm.cells rm.slots (va_A wc sz)
def lGo (l : Launch) (y : MethodName) (ws : List Cond) (rm : Room) (D : va_G) (tys : mTy) (av : List Value) (wc : va_W) (cc : ByteArray) (maxL : Nat) (hh : List (Nat × Nat × Nat × Nat)) (Ret : Program → Env → State → MethodId → Array Value → List Frame → Method → Code → (Nat → Prop) → (State → Prop) → Prop) : Prop :=
  ∀ (p : Program) (e : Env) (s : State) (m : MethodId) (args : Array Value) (below : List Frame) (meth : Method) (c : Code) (A : Nat → Prop) (Q : State → Prop) (ls : Array Slot),
    p.tables.exec = Jvm.exec → c.code = cc → c.maxLocals = maxL → s.vm.findClass y.cls = some m.cls → (∀ w ∈ ws, w.before args s = true) → mN s →
    va_K D vwCl tys s → va_P D vwCl wc s.heap → va_D A wc → va_S A s.heap s.heap [] → (∀ q : Nat, s.heap.size ≤ q → A q) → lv_has ls maxL (lv_args 0 av) → mX A s s.heap → c.exceptionTable.toList = Jvm.tableOf hh →
    Ret p e s m args below meth c A Q →
    W p l e rm s m args below meth c s.heap [] 0 0 Q (F0 m 0 ls [])
theorem Li_of {l : Launch} {y : MethodName} {ws ws' : List Cond} {rm : Room} {D : va_G} {tys : mTy} {av : List Value} {wc : va_W} {S : Type} {post : Int32 → S → Prop} {w1 : S → va_W} {cc : ByteArray} {maxL : Nat} {hh : List (Nat × Nat × Nat × Nat)}
    (hy : plainName y.cls = true) (hw : ws = Cond.codeWith y cc maxL (some .int) hh :: ws') (hm : (lg_sl av).length ≤ maxL)
    (body : lGo l y ws rm D tys av wc cc maxL hh (mRi l rm D cc .int post w1)) : Li l y ws rm D tys av wc post w1 := by
  intro sz
  refine va_MetW (cc := cc) (maxL := maxL) (ret := some .int) (hh := hh) hy hw ?_
  intro p e s m args below meth c s₁ B hml hv
  obtain ⟨rfl, hsz, hP, hK, hD0, hN, hX⟩ := hv
  subst hsz
  have hD := hD0.self (sz := s.heap.size)
  have hts := atoms_spec (ws := ws) B.pre
  have hl := lv_entry av (n := maxL) hm
  have htab := vx_table (x := y) B (hts (Cond.codeWith y cc maxL (some .int) hh) (by rw [hw]; exact List.mem_cons_self))
  rw [lg_entry_eq]
  refine body p e s m av.toArray below meth c (va_A wc s.heap.size) _ _ B.exec B.bytes hml (findClass_of_methodNamed B.named) hts hN hK hP hD va_S.rf (fun q h => Or.inr h) hl hX htab ?_
  intro H locs pc ls r u k n hp hna hP1 hD1 hS hk hn hdg
  refine W.widen (k := rm.cells) (n := rm.slots) hk hn ?_
  exact W.zret B.exec B.bytes B.returns hna (fun t ht hW => ⟨⟨r, u, rfl, hp, by rw [ht]; exact hP1, va_K.moved hW.alike hK, hD1⟩, hS.F ht⟩) hS.2.2 hdg B.notSynchronized
section LC
variable {p : Program} {l : Launch} {e : Env} {R : Room} {s : State} {m : MethodId} {args : Array Value} {below : List Frame} {meth : Method} {c : Code} {H : Heap} {locs : List Loc} {cells slots k n : Nat} {Q : State → Prop}
variable {cc bytes : ByteArray} {nL maxL index nn pc : Nat} {ret : Option FieldType} {own : String} {Ts ws : List Cond} {rm : Room} {D : va_G} {tys tyc : mTy} {wc wr ws0 : va_W} {A : Nat → Prop} {y : MethodName} {av rest st0 : List Value} {S : Type} {ls : Array Slot} {w1 : S → va_W} {hh : List (Nat × Nat × Nat × Nat)}
/-- a call of one of them -/
theorem m_swcalli {post : Int32 → S → Prop} (F : CallFix p m c cc nL s args Ts own) (hN : mN s) (hX : mX A s s.heap) (hM : Li l y ws rm D tyc av wc post w1) (cw : vx_CSW R s args own index y bytes maxL ret hh ws rm rm.cells rm.slots nn)
    (hK : va_K D vwCl tys s) (hP : va_P D vwCl ws0 H) (hD : va_D A ws0) (hS : va_S A s.heap H locs) (hA : ∀ q : Nat, s.heap.size ≤ q → A q)
    (isC isR tC : List Nat) (hC : isC.map (fun i => ws0[i]?) = wc.map some) (hR : isR.map (fun i => ws0[i]?) = wr.map some) (hty : tC.filterMap (fun i => tys[i]?) = tyc) (hnC : va_nd isC = true) (hnR : va_nd isR = true) (hdis : ∀ i ∈ isR, i ∉ isC)
    (hnn : av.length = nn) (hls : ls.size = nL) (hst : st0 = av.reverse ++ rest) (hro : (rest.map fun v => v.category).sum ≤ 8) (hdg : decode cc pc = .ok (.invokestatic index, 3)) (hf : cells + rm.cells ≤ R.cells ∧ slots + rm.slots ≤ R.slots) (hk : cells + rm.cells = k) (hn : slots + rm.slots = n)
    (kk : ∀ (r : Int32) (u : S) (H1 : Heap) (locs1 : List Loc), post r u → va_P D vwCl (wr ++ w1 u) H1 → va_D A (wr ++ w1 u) → va_S A s.heap H1 locs1 → W p l e R s m args below meth c H1 locs1 k n Q (F0 m (pc + 3) ls (.int r :: rest))) :
    W p l e R s m args below meth c H locs cells slots Q (F0 m pc ls st0) := by
  subst hk hn
  have hFc := va_free (wc := wc) hD hS hA isC hC
  have hpc := mPreVX (av := av) hN hX hK hP hD hS hA isC tC hC hnC hty
  refine va_calli (vx_runSW (As := av) (rest := rest) F (hM H.size) cw ⟨mPreX.blind, hpc⟩ rfl hnn hls hst (lv_room hro) hdg hf) hS (fun q _ h => hFc q h) hFc (fun r u t H1 locs1 ht hvm hw hB hz1 hk1 hS1 => ?_)
  obtain ⟨hP1, hK1, hD1⟩ := hB
  rw [ht] at hP1
  obtain ⟨hP2, hD2⟩ := mJoin hP hD isC isR hC hR hnR hdis hk1 hFc hP1 hD1
  exact kk r u H1 locs1 hw hP2 hD2 hS1
end LC
def wPost2 {S1 S2 : Type} (post : Int32 → S1 → Prop) (px : Nat → S2 → Prop) (cd : Nat → Int32) (r : Int32) : (Int32 × S1) ⊕ (Nat × S2) → Prop
  | .inl (rv, u) => r = rv ∧ post rv u
  | .inr (i, u) => r = cd i ∧ px i u
def wW2 {S1 S2 : Type} (w1 : S1 → va_W) (wx : S2 → va_W) : (Int32 × S1) ⊕ (Nat × S2) → va_W
  | .inl (_, u) => w1 u
  | .inr (_, u) => wx u
abbrev rmL_does0 : Room := { frames := rmX2_setRegion.frames + 1, cells := rmX2_setRegion.cells, slots := rmX2_setRegion.slots, locals := 8 + (4 + 11) + rmX2_setRegion.locals }
set_option maxHeartbeats 4000000 in
set_option maxRecDepth 100000 in
theorem kL_does0 (l : Launch) (D : va_G) {tyc : mTy} {wc : va_W} {S1 S2 : Type} {post : Int32 → S1 → Prop} {w1 : S1 → va_W} {px : Nat → S2 → Prop} {wx : S2 → va_W} (c9 : Nat) (fs9 : List Value) (x : Int32) (y : Int32) (isC tC : List Nat)
    (hM : Xi l yX2_setRegion wsX2_setRegion rmX2_setRegion D tyc [.ref c9, .int x, .int y] wc post w1 px wx) (he : wc[0]? = some (c9, .inr (2, fs9))) (hpx : ∀ i u, px i u → i = 3 ∨ i = 2)
    (hC : isC.map (fun i => wc[i]?) = wc.map some) (hty : tC.filterMap (fun i => tyc[i]?) = tyc) (hnC : va_nd isC = true) :
    Li l yL_does wsL_does rmL_does0 D tyc [.ref c9, .int (nI 0), .int x, .int y] wc (wPost2 post px (fun i => if i = 3 then (-13) else (-11))) (wW2 w1 wx) := by
  refine Li_of (cc := cL_does) (maxL := 5) (hh := [(0, 44, 45, 65), (0, 44, 50, 67)]) (by decide) rfl (Nat.le_of_ble_eq_true rfl) ?_
  intro pR eV sT mI args below meth cO AA QQ ls hXX hBB hml hown hts hN hK hP hD hS hAA hl hX htab hret
  have hl : lv_has ls 5 [(0, .ref c9), (1, .int (nI 0)), (2, .int x), (3, .int y)] := hl
  have kl_3 : (Cond.classLink RL 65 (xN 3)).before args sT = true := hts _ (List.mem_of_getElem? (i := 1) rfl)
  have kl_2 : (Cond.classLink RL 67 (xN 2)).before args sT = true := hts _ (List.mem_of_getElem? (i := 2) rfl)
  refine lv_iload_n hXX hBB dL_does_0 rfl (lv_at hl 1 rfl) ?_
  refine lv_if_ne (tgt := 13) hXX hBB dL_does_1 (by decide) (fun c_1 => ?_) (fun c_1 => ?_)
  · exact absurd (by decide) c_1
  refine lv_aload_n hXX hBB dL_does_4 rfl (lv_at hl 0 rfl) ?_
  refine lv_iload_n hXX hBB dL_does_5 rfl (lv_at hl 2 rfl) ?_
  refine lv_iload_n hXX hBB dL_does_6 rfl (lv_at hl 3 rfl) ?_
  refine x_calli (wr := []) ⟨hXX, hBB, hml, hown, hts⟩ hN hX hM (cwV 2 hts gL_does_X2_setRegion rfl rfl rfl (by decide +kernel) ⟨Nat.le_of_ble_eq_true rfl, Nat.le_of_ble_eq_true rfl⟩) hK hP hD hS hAA isC [] tC hC rfl hty hnC (by decide) (fun i h => absurd h (by simp)) rfl 2 rfl he rfl rfl hl.1 rfl (Nat.le_of_ble_eq_true rfl) dL_does_7 ⟨Nat.le_of_ble_eq_true rfl, Nat.le_of_ble_eq_true rfl⟩ (k := rmL_does0.cells) (n := rmL_does0.slots) (Nat.zero_add _) (Nat.zero_add _) (fun i_ u_ E_ ce_ q_ H locs hE_ hw hP hD hS hq_ hv_ hc_ => ?_) (fun r9 u_ H locs hw hP hD hS => ?_)
  · subst hE_
    rcases hpx i_ u_ hw with rfl | rfl
    · skip
      refine vx_catch (name := xN 3) hown [] ⟨0, 44, 45, 65⟩ [⟨0, 44, 50, 67⟩] (by rw [htab]; rfl) (fun z hz => absurd hz (by simp)) (by decide) (by decide) kl_3 (va_Nw.use rfl (hX.1 _ (by simp [xW]))) hq_ hv_ hc_ ?_
      refine lv_astore (lv' := [(4, .ref q_), (0, .ref c9), (1, .int (nI 0)), (2, .int x), (3, .int y)]) hXX hBB dL_does_45 hl (by decide) rfl (fun ls hl => ?_)
      refine lv_bipush (v := (-13)) hXX hBB dL_does_47 (by decide) ?_
      exact hret (r := (-13)) (.inr (3, u_)) ⟨rfl, hw⟩ rfl hP hD hS (Nat.le_refl _) (Nat.le_refl _) dL_does_49
    · skip
      have hps : ∀ z ∈ [(⟨0, 44, 45, 65⟩ : ExceptionTableEntry)], covers z 7 = false ∨ (z.catchType ≠ 0 ∧ ∃ nm : String, (Cond.classLink RL z.catchType nm).before args sT = true ∧ va_Nc (xN 2) nm sT) := by
        intro z hz
        simp only [List.mem_cons, List.not_mem_nil, or_false] at hz
        subst hz
        exact Or.inr ⟨by decide, xN 3, kl_3, hX.2.2.2.2 2 (by decide) 3 (by decide) (by decide +kernel)⟩
      refine vx_catch (name := xN 2) hown [⟨0, 44, 45, 65⟩] ⟨0, 44, 50, 67⟩ [] (by rw [htab]; rfl) hps (by decide) (by decide) kl_2 (va_Nw.use rfl (hX.1 _ (by simp [xW]))) hq_ hv_ hc_ ?_
      refine lv_astore (lv' := [(4, .ref q_), (0, .ref c9), (1, .int (nI 0)), (2, .int x), (3, .int y)]) hXX hBB dL_does_50 hl (by decide) rfl (fun ls hl => ?_)
      refine lv_bipush (v := (-11)) hXX hBB dL_does_52 (by decide) ?_
      exact hret (r := (-11)) (.inr (2, u_)) ⟨rfl, hw⟩ rfl hP hD hS (Nat.le_refl _) (Nat.le_refl _) dL_does_54
  · skip
    refine lv_goto (tgt := 44) hXX hBB dL_does_10 (by decide) ?_
    exact hret (r := r9) (.inl (r9, u_)) ⟨rfl, hw⟩ rfl hP hD hS (Nat.le_refl _) (Nat.le_refl _) dL_does_44
abbrev rmL_does1 : Room := { frames := rmX2_setBound.frames + 1, cells := rmX2_setBound.cells, slots := rmX2_setBound.slots, locals := 8 + (4 + 11) + rmX2_setBound.locals }
set_option maxHeartbeats 4000000 in
set_option maxRecDepth 100000 in
theorem kL_does1 (l : Launch) (D : va_G) {tyc : mTy} {wc : va_W} {S1 S2 : Type} {post : Int32 → S1 → Prop} {w1 : S1 → va_W} {px : Nat → S2 → Prop} {wx : S2 → va_W} (c9 : Nat) (fs9 : List Value) (x : Int32) (y : Int32) (isC tC : List Nat)
    (hM : Xi l yX2_setBound wsX2_setBound rmX2_setBound D tyc [.ref c9, .int x, .int y] wc post w1 px wx) (he : wc[0]? = some (c9, .inr (2, fs9))) (hpx : ∀ i u, px i u → i = 3 ∨ i = 2)
    (hC : isC.map (fun i => wc[i]?) = wc.map some) (hty : tC.filterMap (fun i => tyc[i]?) = tyc) (hnC : va_nd isC = true) :
    Li l yL_does wsL_does rmL_does1 D tyc [.ref c9, .int (nI 1), .int x, .int y] wc (wPost2 post px (fun i => if i = 3 then (-13) else (-11))) (wW2 w1 wx) := by
  refine Li_of (cc := cL_does) (maxL := 5) (hh := [(0, 44, 45, 65), (0, 44, 50, 67)]) (by decide) rfl (Nat.le_of_ble_eq_true rfl) ?_
  intro pR eV sT mI args below meth cO AA QQ ls hXX hBB hml hown hts hN hK hP hD hS hAA hl hX htab hret
  have hl : lv_has ls 5 [(0, .ref c9), (1, .int (nI 1)), (2, .int x), (3, .int y)] := hl
  have kl_3 : (Cond.classLink RL 65 (xN 3)).before args sT = true := hts _ (List.mem_of_getElem? (i := 1) rfl)
  have kl_2 : (Cond.classLink RL 67 (xN 2)).before args sT = true := hts _ (List.mem_of_getElem? (i := 2) rfl)
  refine lv_iload_n hXX hBB dL_does_0 rfl (lv_at hl 1 rfl) ?_
  refine lv_if_ne (tgt := 13) hXX hBB dL_does_1 (by decide) (fun c_1 => ?_) (fun c_1 => ?_)
  rotate_left
  · exact absurd c_1 (by decide)
  refine lv_iload_n hXX hBB dL_does_13 rfl (lv_at hl 1 rfl) ?_
  refine lv_iconst (v := nI 1) hXX hBB dL_does_14 (by decide) ?_
  refine lv_icmp_ne (tgt := 27) hXX hBB dL_does_15 (by decide) (fun c_15 => ?_) (fun c_15 => ?_)
  · exact absurd (by decide) c_15
  refine lv_aload_n hXX hBB dL_does_18 rfl (lv_at hl 0 rfl) ?_
  refine lv_iload_n hXX hBB dL_does_19 rfl (lv_at hl 2 rfl) ?_
  refine lv_iload_n hXX hBB dL_does_20 rfl (lv_at hl 3 rfl) ?_
  refine x_calli (wr := []) ⟨hXX, hBB, hml, hown, hts⟩ hN hX hM (cwV 2 hts gL_does_X2_setBound rfl rfl rfl (by decide +kernel) ⟨Nat.le_of_ble_eq_true rfl, Nat.le_of_ble_eq_true rfl⟩) hK hP hD hS hAA isC [] tC hC rfl hty hnC (by decide) (fun i h => absurd h (by simp)) rfl 2 rfl he rfl rfl hl.1 rfl (Nat.le_of_ble_eq_true rfl) dL_does_21 ⟨Nat.le_of_ble_eq_true rfl, Nat.le_of_ble_eq_true rfl⟩ (k := rmL_does1.cells) (n := rmL_does1.slots) (Nat.zero_add _) (Nat.zero_add _) (fun i_ u_ E_ ce_ q_ H locs hE_ hw hP hD hS hq_ hv_ hc_ => ?_) (fun r9 u_ H locs hw hP hD hS => ?_)
  · subst hE_
    rcases hpx i_ u_ hw with rfl | rfl
    · skip
      refine vx_catch (name := xN 3) hown [] ⟨0, 44, 45, 65⟩ [⟨0, 44, 50, 67⟩] (by rw [htab]; rfl) (fun z hz => absurd hz (by simp)) (by decide) (by decide) kl_3 (va_Nw.use rfl (hX.1 _ (by simp [xW]))) hq_ hv_ hc_ ?_
      refine lv_astore (lv' := [(4, .ref q_), (0, .ref c9), (1, .int (nI 1)), (2, .int x), (3, .int y)]) hXX hBB dL_does_45 hl (by decide) rfl (fun ls hl => ?_)
      refine lv_bipush (v := (-13)) hXX hBB dL_does_47 (by decide) ?_
      exact hret (r := (-13)) (.inr (3, u_)) ⟨rfl, hw⟩ rfl hP hD hS (Nat.le_refl _) (Nat.le_refl _) dL_does_49
    · skip
      have hps : ∀ z ∈ [(⟨0, 44, 45, 65⟩ : ExceptionTableEntry)], covers z 21 = false ∨ (z.catchType ≠ 0 ∧ ∃ nm : String, (Cond.classLink RL z.catchType nm).before args sT = true ∧ va_Nc (xN 2) nm sT) := by
        intro z hz
        simp only [List.mem_cons, List.not_mem_nil, or_false] at hz
        subst hz
        exact Or.inr ⟨by decide, xN 3, kl_3, hX.2.2.2.2 2 (by decide) 3 (by decide) (by decide +kernel)⟩
      refine vx_catch (name := xN 2) hown [⟨0, 44, 45, 65⟩] ⟨0, 44, 50, 67⟩ [] (by rw [htab]; rfl) hps (by decide) (by decide) kl_2 (va_Nw.use rfl (hX.1 _ (by simp [xW]))) hq_ hv_ hc_ ?_
      refine lv_astore (lv' := [(4, .ref q_), (0, .ref c9), (1, .int (nI 1)), (2, .int x), (3, .int y)]) hXX hBB dL_does_50 hl (by decide) rfl (fun ls hl => ?_)
      refine lv_bipush (v := (-11)) hXX hBB dL_does_52 (by decide) ?_
      exact hret (r := (-11)) (.inr (2, u_)) ⟨rfl, hw⟩ rfl hP hD hS (Nat.le_refl _) (Nat.le_refl _) dL_does_54
  · skip
    refine lv_goto (tgt := 44) hXX hBB dL_does_24 (by decide) ?_
    exact hret (r := r9) (.inl (r9, u_)) ⟨rfl, hw⟩ rfl hP hD hS (Nat.le_refl _) (Nat.le_refl _) dL_does_44
abbrev rmL_does2 : Room := { frames := rmX2_draw.frames + 1, cells := rmX2_draw.cells, slots := rmX2_draw.slots, locals := 8 + (3 + 11) + rmX2_draw.locals }
set_option maxHeartbeats 4000000 in
set_option maxRecDepth 100000 in
theorem kL_does2 (l : Launch) (D : va_G) {tyc : mTy} {wc : va_W} {S1 S2 : Type} {post : Int32 → S1 → Prop} {w1 : S1 → va_W} {px : Nat → S2 → Prop} {wx : S2 → va_W} (c9 : Nat) (fs9 : List Value) (x : Int32) (y : Int32) (isC tC : List Nat)
    (hM : Xi l yX2_draw wsX2_draw rmX2_draw D tyc [.ref c9, .int x] wc post w1 px wx) (he : wc[0]? = some (c9, .inr (2, fs9))) (hpx : ∀ i u, px i u → i = 3 ∨ i = 2)
    (hC : isC.map (fun i => wc[i]?) = wc.map some) (hty : tC.filterMap (fun i => tyc[i]?) = tyc) (hnC : va_nd isC = true) :
    Li l yL_does wsL_does rmL_does2 D tyc [.ref c9, .int (nI 2), .int x, .int y] wc (wPost2 post px (fun i => if i = 3 then (-13) else (-11))) (wW2 w1 wx) := by
  refine Li_of (cc := cL_does) (maxL := 5) (hh := [(0, 44, 45, 65), (0, 44, 50, 67)]) (by decide) rfl (Nat.le_of_ble_eq_true rfl) ?_
  intro pR eV sT mI args below meth cO AA QQ ls hXX hBB hml hown hts hN hK hP hD hS hAA hl hX htab hret
  have hl : lv_has ls 5 [(0, .ref c9), (1, .int (nI 2)), (2, .int x), (3, .int y)] := hl
  have kl_3 : (Cond.classLink RL 65 (xN 3)).before args sT = true := hts _ (List.mem_of_getElem? (i := 1) rfl)
  have kl_2 : (Cond.classLink RL 67 (xN 2)).before args sT = true := hts _ (List.mem_of_getElem? (i := 2) rfl)
  refine lv_iload_n hXX hBB dL_does_0 rfl (lv_at hl 1 rfl) ?_
  refine lv_if_ne (tgt := 13) hXX hBB dL_does_1 (by decide) (fun c_1 => ?_) (fun c_1 => ?_)
  rotate_left
  · exact absurd c_1 (by decide)
  refine lv_iload_n hXX hBB dL_does_13 rfl (lv_at hl 1 rfl) ?_
  refine lv_iconst (v := nI 1) hXX hBB dL_does_14 (by decide) ?_
  refine lv_icmp_ne (tgt := 27) hXX hBB dL_does_15 (by decide) (fun c_15 => ?_) (fun c_15 => ?_)
  rotate_left
  · exact absurd c_15 (by decide)
  refine lv_iload_n hXX hBB dL_does_27 rfl (lv_at hl 1 rfl) ?_
  refine lv_iconst (v := nI 2) hXX hBB dL_does_28 (by decide) ?_
  refine lv_icmp_ne (tgt := 40) hXX hBB dL_does_29 (by decide) (fun c_29 => ?_) (fun c_29 => ?_)
  · exact absurd (by decide) c_29
  refine lv_aload_n hXX hBB dL_does_32 rfl (lv_at hl 0 rfl) ?_
  refine lv_iload_n hXX hBB dL_does_33 rfl (lv_at hl 2 rfl) ?_
  refine x_calli (wr := []) ⟨hXX, hBB, hml, hown, hts⟩ hN hX hM (cwV 1 hts gL_does_X2_draw rfl rfl rfl (by decide +kernel) ⟨Nat.le_of_ble_eq_true rfl, Nat.le_of_ble_eq_true rfl⟩) hK hP hD hS hAA isC [] tC hC rfl hty hnC (by decide) (fun i h => absurd h (by simp)) rfl 2 rfl he rfl rfl hl.1 rfl (Nat.le_of_ble_eq_true rfl) dL_does_34 ⟨Nat.le_of_ble_eq_true rfl, Nat.le_of_ble_eq_true rfl⟩ (k := rmL_does2.cells) (n := rmL_does2.slots) (Nat.zero_add _) (Nat.zero_add _) (fun i_ u_ E_ ce_ q_ H locs hE_ hw hP hD hS hq_ hv_ hc_ => ?_) (fun r9 u_ H locs hw hP hD hS => ?_)
  · subst hE_
    rcases hpx i_ u_ hw with rfl | rfl
    · skip
      refine vx_catch (name := xN 3) hown [] ⟨0, 44, 45, 65⟩ [⟨0, 44, 50, 67⟩] (by rw [htab]; rfl) (fun z hz => absurd hz (by simp)) (by decide) (by decide) kl_3 (va_Nw.use rfl (hX.1 _ (by simp [xW]))) hq_ hv_ hc_ ?_
      refine lv_astore (lv' := [(4, .ref q_), (0, .ref c9), (1, .int (nI 2)), (2, .int x), (3, .int y)]) hXX hBB dL_does_45 hl (by decide) rfl (fun ls hl => ?_)
      refine lv_bipush (v := (-13)) hXX hBB dL_does_47 (by decide) ?_
      exact hret (r := (-13)) (.inr (3, u_)) ⟨rfl, hw⟩ rfl hP hD hS (Nat.le_refl _) (Nat.le_refl _) dL_does_49
    · skip
      have hps : ∀ z ∈ [(⟨0, 44, 45, 65⟩ : ExceptionTableEntry)], covers z 34 = false ∨ (z.catchType ≠ 0 ∧ ∃ nm : String, (Cond.classLink RL z.catchType nm).before args sT = true ∧ va_Nc (xN 2) nm sT) := by
        intro z hz
        simp only [List.mem_cons, List.not_mem_nil, or_false] at hz
        subst hz
        exact Or.inr ⟨by decide, xN 3, kl_3, hX.2.2.2.2 2 (by decide) 3 (by decide) (by decide +kernel)⟩
      refine vx_catch (name := xN 2) hown [⟨0, 44, 45, 65⟩] ⟨0, 44, 50, 67⟩ [] (by rw [htab]; rfl) hps (by decide) (by decide) kl_2 (va_Nw.use rfl (hX.1 _ (by simp [xW]))) hq_ hv_ hc_ ?_
      refine lv_astore (lv' := [(4, .ref q_), (0, .ref c9), (1, .int (nI 2)), (2, .int x), (3, .int y)]) hXX hBB dL_does_50 hl (by decide) rfl (fun ls hl => ?_)
      refine lv_bipush (v := (-11)) hXX hBB dL_does_52 (by decide) ?_
      exact hret (r := (-11)) (.inr (2, u_)) ⟨rfl, hw⟩ rfl hP hD hS (Nat.le_refl _) (Nat.le_refl _) dL_does_54
  · skip
    refine lv_goto (tgt := 44) hXX hBB dL_does_37 (by decide) ?_
    exact hret (r := r9) (.inl (r9, u_)) ⟨rfl, hw⟩ rfl hP hD hS (Nat.le_refl _) (Nat.le_refl _) dL_does_44
abbrev rmL_does3 : Room := { frames := rmX2_undo.frames + 1, cells := rmX2_undo.cells, slots := rmX2_undo.slots, locals := 8 + (1 + 11) + rmX2_undo.locals }
set_option maxHeartbeats 4000000 in
set_option maxRecDepth 100000 in
theorem kL_does3 (l : Launch) (D : va_G) {tyc : mTy} {wc : va_W} {S1 S2 : Type} {post : Int32 → S1 → Prop} {w1 : S1 → va_W} {px : Nat → S2 → Prop} {wx : S2 → va_W} (c9 : Nat) (fs9 : List Value) (x : Int32) (y : Int32) (isC tC : List Nat)
    (hM : Xi l yX2_undo wsX2_undo rmX2_undo D tyc [.ref c9] wc post w1 px wx) (he : wc[0]? = some (c9, .inr (2, fs9))) (hpx : ∀ i u, px i u → i = 3 ∨ i = 2)
    (hC : isC.map (fun i => wc[i]?) = wc.map some) (hty : tC.filterMap (fun i => tyc[i]?) = tyc) (hnC : va_nd isC = true) :
    Li l yL_does wsL_does rmL_does3 D tyc [.ref c9, .int (nI 3), .int x, .int y] wc (wPost2 post px (fun i => if i = 3 then (-13) else (-11))) (wW2 w1 wx) := by
  refine Li_of (cc := cL_does) (maxL := 5) (hh := [(0, 44, 45, 65), (0, 44, 50, 67)]) (by decide) rfl (Nat.le_of_ble_eq_true rfl) ?_
  intro pR eV sT mI args below meth cO AA QQ ls hXX hBB hml hown hts hN hK hP hD hS hAA hl hX htab hret
  have hl : lv_has ls 5 [(0, .ref c9), (1, .int (nI 3)), (2, .int x), (3, .int y)] := hl
  have kl_3 : (Cond.classLink RL 65 (xN 3)).before args sT = true := hts _ (List.mem_of_getElem? (i := 1) rfl)
  have kl_2 : (Cond.classLink RL 67 (xN 2)).before args sT = true := hts _ (List.mem_of_getElem? (i := 2) rfl)
  refine lv_iload_n hXX hBB dL_does_0 rfl (lv_at hl 1 rfl) ?_
  refine lv_if_ne (tgt := 13) hXX hBB dL_does_1 (by decide) (fun c_1 => ?_) (fun c_1 => ?_)
  rotate_left
  · exact absurd c_1 (by decide)
  refine lv_iload_n hXX hBB dL_does_13 rfl (lv_at hl 1 rfl) ?_
  refine lv_iconst (v := nI 1) hXX hBB dL_does_14 (by decide) ?_
  refine lv_icmp_ne (tgt := 27) hXX hBB dL_does_15 (by decide) (fun c_15 => ?_) (fun c_15 => ?_)
  rotate_left
  · exact absurd c_15 (by decide)
  refine lv_iload_n hXX hBB dL_does_27 rfl (lv_at hl 1 rfl) ?_
  refine lv_iconst (v := nI 2) hXX hBB dL_does_28 (by decide) ?_
  refine lv_icmp_ne (tgt := 40) hXX hBB dL_does_29 (by decide) (fun c_29 => ?_) (fun c_29 => ?_)
  rotate_left
  · exact absurd c_29 (by decide)
  refine lv_aload_n hXX hBB dL_does_40 rfl (lv_at hl 0 rfl) ?_
  refine x_calli (wr := []) ⟨hXX, hBB, hml, hown, hts⟩ hN hX hM (cwV 0 hts gL_does_X2_undo rfl rfl rfl (by decide +kernel) ⟨Nat.le_of_ble_eq_true rfl, Nat.le_of_ble_eq_true rfl⟩) hK hP hD hS hAA isC [] tC hC rfl hty hnC (by decide) (fun i h => absurd h (by simp)) rfl 2 rfl he rfl rfl hl.1 rfl (Nat.le_of_ble_eq_true rfl) dL_does_41 ⟨Nat.le_of_ble_eq_true rfl, Nat.le_of_ble_eq_true rfl⟩ (k := rmL_does3.cells) (n := rmL_does3.slots) (Nat.zero_add _) (Nat.zero_add _) (fun i_ u_ E_ ce_ q_ H locs hE_ hw hP hD hS hq_ hv_ hc_ => ?_) (fun r9 u_ H locs hw hP hD hS => ?_)
  · subst hE_
    rcases hpx i_ u_ hw with rfl | rfl
    · skip
      refine vx_catch (name := xN 3) hown [] ⟨0, 44, 45, 65⟩ [⟨0, 44, 50, 67⟩] (by rw [htab]; rfl) (fun z hz => absurd hz (by simp)) (by decide) (by decide) kl_3 (va_Nw.use rfl (hX.1 _ (by simp [xW]))) hq_ hv_ hc_ ?_
      refine lv_astore (lv' := [(4, .ref q_), (0, .ref c9), (1, .int (nI 3)), (2, .int x), (3, .int y)]) hXX hBB dL_does_45 hl (by decide) rfl (fun ls hl => ?_)
      refine lv_bipush (v := (-13)) hXX hBB dL_does_47 (by decide) ?_
      exact hret (r := (-13)) (.inr (3, u_)) ⟨rfl, hw⟩ rfl hP hD hS (Nat.le_refl _) (Nat.le_refl _) dL_does_49
    · skip
      have hps : ∀ z ∈ [(⟨0, 44, 45, 65⟩ : ExceptionTableEntry)], covers z 41 = false ∨ (z.catchType ≠ 0 ∧ ∃ nm : String, (Cond.classLink RL z.catchType nm).before args sT = true ∧ va_Nc (xN 2) nm sT) := by
        intro z hz
        simp only [List.mem_cons, List.not_mem_nil, or_false] at hz
        subst hz
        exact Or.inr ⟨by decide, xN 3, kl_3, hX.2.2.2.2 2 (by decide) 3 (by decide) (by decide +kernel)⟩
      refine vx_catch (name := xN 2) hown [⟨0, 44, 45, 65⟩] ⟨0, 44, 50, 67⟩ [] (by rw [htab]; rfl) hps (by decide) (by decide) kl_2 (va_Nw.use rfl (hX.1 _ (by simp [xW]))) hq_ hv_ hc_ ?_
      refine lv_astore (lv' := [(4, .ref q_), (0, .ref c9), (1, .int (nI 3)), (2, .int x), (3, .int y)]) hXX hBB dL_does_50 hl (by decide) rfl (fun ls hl => ?_)
      refine lv_bipush (v := (-11)) hXX hBB dL_does_52 (by decide) ?_
      exact hret (r := (-11)) (.inr (2, u_)) ⟨rfl, hw⟩ rfl hP hD hS (Nat.le_refl _) (Nat.le_refl _) dL_does_54
  · skip
    exact hret (r := r9) (.inl (r9, u_)) ⟨rfl, hw⟩ rfl hP hD hS (Nat.le_refl _) (Nat.le_refl _) dL_does_44
abbrev rmL_pairs1 : Room := { frames := rmX2_setApart.frames + 1, cells := rmX2_setApart.cells, slots := rmX2_setApart.slots, locals := 8 + (4 + 11) + rmX2_setApart.locals }
set_option maxHeartbeats 4000000 in
set_option maxRecDepth 100000 in
theorem kL_pairs1 (l : Launch) (D : va_G) {tyc : mTy} {wc : va_W} {S1 S2 : Type} {post : Int32 → S1 → Prop} {w1 : S1 → va_W} {px : Nat → S2 → Prop} {wx : S2 → va_W} (c9 : Nat) (fs9 : List Value) (x : Int32) (y : Int32) (zb : Int32) (isC tC : List Nat)
    (hM : Xi l yX2_setApart wsX2_setApart rmX2_setApart D tyc [.ref c9, .int x, .int y, .int zb] wc post w1 px wx) (he : wc[0]? = some (c9, .inr (2, fs9))) (hpx : ∀ i u, px i u → i = 1 ∨ i = 3) (hbv : ∀ r u, post r u → r = 0 ∨ r = 1)
    (hC : isC.map (fun i => wc[i]?) = wc.map some) (hty : tC.filterMap (fun i => tyc[i]?) = tyc) (hnC : va_nd isC = true) :
    Li l yL_pairs wsL_pairs rmL_pairs1 D tyc [.ref c9, .int (nI 1), .int x, .int y, .int zb] wc (wPost2 post px (fun i => if i = 1 then (-12) else (-13))) (wW2 w1 wx) := by
  refine Li_of (cc := cL_pairs) (maxL := 6) (hh := [(0, 34, 35, 76), (0, 34, 40, 65)]) (by decide) rfl (Nat.le_of_ble_eq_true rfl) ?_
  intro pR eV sT mI args below meth cO AA QQ ls hXX hBB hml hown hts hN hK hP hD hS hAA hl hX htab hret
  have hl : lv_has ls 6 [(0, .ref c9), (1, .int (nI 1)), (2, .int x), (3, .int y), (4, .int zb)] := hl
  have kl_1 : (Cond.classLink RL 76 (xN 1)).before args sT = true := hts _ (List.mem_of_getElem? (i := 1) rfl)
  have kl_3 : (Cond.classLink RL 65 (xN 3)).before args sT = true := hts _ (List.mem_of_getElem? (i := 2) rfl)
  refine lv_iload_n hXX hBB dL_pairs_0 rfl (lv_at hl 1 rfl) ?_
  refine lv_if_eq (tgt := 18) hXX hBB dL_pairs_1 (by decide) (fun c_1 => ?_) (fun c_1 => ?_)
  · exact absurd c_1 (by decide)
  refine lv_aload_n hXX hBB dL_pairs_4 rfl (lv_at hl 0 rfl) ?_
  refine lv_iload_n hXX hBB dL_pairs_5 rfl (lv_at hl 2 rfl) ?_
  refine lv_iload_n hXX hBB dL_pairs_6 rfl (lv_at hl 3 rfl) ?_
  refine lv_iload hXX hBB dL_pairs_7 (lv_at hl 4 rfl) ?_
  refine x_calli (wr := []) ⟨hXX, hBB, hml, hown, hts⟩ hN hX hM (cwV 3 hts gL_pairs_X2_setApart rfl rfl rfl (by decide +kernel) ⟨Nat.le_of_ble_eq_true rfl, Nat.le_of_ble_eq_true rfl⟩) hK hP hD hS hAA isC [] tC hC rfl hty hnC (by decide) (fun i h => absurd h (by simp)) rfl 2 rfl he rfl rfl hl.1 rfl (Nat.le_of_ble_eq_true rfl) dL_pairs_9 ⟨Nat.le_of_ble_eq_true rfl, Nat.le_of_ble_eq_true rfl⟩ (k := rmL_pairs1.cells) (n := rmL_pairs1.slots) (Nat.zero_add _) (Nat.zero_add _) (fun i_ u_ E_ ce_ q_ H locs hE_ hw hP hD hS hq_ hv_ hc_ => ?_) (fun r9 u_ H locs hw hP hD hS => ?_)
  · subst hE_
    rcases hpx i_ u_ hw with rfl | rfl
    · skip
      refine vx_catch (name := xN 1) hown [] ⟨0, 34, 35, 76⟩ [⟨0, 34, 40, 65⟩] (by rw [htab]; rfl) (fun z hz => absurd hz (by simp)) (by decide) (by decide) kl_1 (va_Nw.use rfl (hX.1 _ (by simp [xW]))) hq_ hv_ hc_ ?_
      refine lv_astore (lv' := [(5, .ref q_), (0, .ref c9), (1, .int (nI 1)), (2, .int x), (3, .int y), (4, .int zb)]) hXX hBB dL_pairs_35 hl (by decide) rfl (fun ls hl => ?_)
      refine lv_bipush (v := (-12)) hXX hBB dL_pairs_37 (by decide) ?_
      exact hret (r := (-12)) (.inr (1, u_)) ⟨rfl, hw⟩ rfl hP hD hS (Nat.le_refl _) (Nat.le_refl _) dL_pairs_39
    · skip
      have hps : ∀ z ∈ [(⟨0, 34, 35, 76⟩ : ExceptionTableEntry)], covers z 9 = false ∨ (z.catchType ≠ 0 ∧ ∃ nm : String, (Cond.classLink RL z.catchType nm).before args sT = true ∧ va_Nc (xN 3) nm sT) := by
        intro z hz
        simp only [List.mem_cons, List.not_mem_nil, or_false] at hz
        subst hz
        exact Or.inr ⟨by decide, xN 1, kl_1, hX.2.2.2.2 3 (by decide) 1 (by decide) (by decide +kernel)⟩
      refine vx_catch (name := xN 3) hown [⟨0, 34, 35, 76⟩] ⟨0, 34, 40, 65⟩ [] (by rw [htab]; rfl) hps (by decide) (by decide) kl_3 (va_Nw.use rfl (hX.1 _ (by simp [xW]))) hq_ hv_ hc_ ?_
      refine lv_astore (lv' := [(5, .ref q_), (0, .ref c9), (1, .int (nI 1)), (2, .int x), (3, .int y), (4, .int zb)]) hXX hBB dL_pairs_40 hl (by decide) rfl (fun ls hl => ?_)
      refine lv_bipush (v := (-13)) hXX hBB dL_pairs_42 (by decide) ?_
      exact hret (r := (-13)) (.inr (3, u_)) ⟨rfl, hw⟩ rfl hP hD hS (Nat.le_refl _) (Nat.le_refl _) dL_pairs_44
  · skip
    refine lv_if_eq (tgt := 33) hXX hBB dL_pairs_12 (by decide) (fun c_9 => ?_) (fun c_9 => ?_)
    · skip
      refine lv_iconst (v := nI 0) hXX hBB dL_pairs_33 (by decide) ?_
      exact hret (r := nI 0) (.inl (r9, u_)) ⟨c_9.symm, hw⟩ rfl hP hD hS (Nat.le_refl _) (Nat.le_refl _) dL_pairs_34
    · skip
      refine lv_goto (tgt := 29) hXX hBB dL_pairs_15 (by decide) ?_
      refine lv_iconst (v := nI 1) hXX hBB dL_pairs_29 (by decide) ?_
      refine lv_goto (tgt := 34) hXX hBB dL_pairs_30 (by decide) ?_
      exact hret (r := nI 1) (.inl (r9, u_)) ⟨((hbv r9 u_ hw).resolve_left c_9).symm, hw⟩ rfl hP hD hS (Nat.le_refl _) (Nat.le_refl _) dL_pairs_34
abbrev rmL_pairs0 : Room := { frames := rmX2_setOtherDays.frames + 1, cells := rmX2_setOtherDays.cells, slots := rmX2_setOtherDays.slots, locals := 8 + (4 + 11) + rmX2_setOtherDays.locals }
set_option maxHeartbeats 4000000 in
set_option maxRecDepth 100000 in
theorem kL_pairs0 (l : Launch) (D : va_G) {tyc : mTy} {wc : va_W} {S1 S2 : Type} {post : Int32 → S1 → Prop} {w1 : S1 → va_W} {px : Nat → S2 → Prop} {wx : S2 → va_W} (c9 : Nat) (fs9 : List Value) (x : Int32) (y : Int32) (zb : Int32) (isC tC : List Nat)
    (hM : Xi l yX2_setOtherDays wsX2_setOtherDays rmX2_setOtherDays D tyc [.ref c9, .int x, .int y, .int zb] wc post w1 px wx) (he : wc[0]? = some (c9, .inr (2, fs9))) (hpx : ∀ i u, px i u → i = 1 ∨ i = 3) (hbv : ∀ r u, post r u → r = 0 ∨ r = 1)
    (hC : isC.map (fun i => wc[i]?) = wc.map some) (hty : tC.filterMap (fun i => tyc[i]?) = tyc) (hnC : va_nd isC = true) :
    Li l yL_pairs wsL_pairs rmL_pairs0 D tyc [.ref c9, .int (nI 0), .int x, .int y, .int zb] wc (wPost2 post px (fun i => if i = 1 then (-12) else (-13))) (wW2 w1 wx) := by
  refine Li_of (cc := cL_pairs) (maxL := 6) (hh := [(0, 34, 35, 76), (0, 34, 40, 65)]) (by decide) rfl (Nat.le_of_ble_eq_true rfl) ?_
  intro pR eV sT mI args below meth cO AA QQ ls hXX hBB hml hown hts hN hK hP hD hS hAA hl hX htab hret
  have hl : lv_has ls 6 [(0, .ref c9), (1, .int (nI 0)), (2, .int x), (3, .int y), (4, .int zb)] := hl
  have kl_1 : (Cond.classLink RL 76 (xN 1)).before args sT = true := hts _ (List.mem_of_getElem? (i := 1) rfl)
  have kl_3 : (Cond.classLink RL 65 (xN 3)).before args sT = true := hts _ (List.mem_of_getElem? (i := 2) rfl)
  refine lv_iload_n hXX hBB dL_pairs_0 rfl (lv_at hl 1 rfl) ?_
  refine lv_if_eq (tgt := 18) hXX hBB dL_pairs_1 (by decide) (fun c_1 => ?_) (fun c_1 => ?_)
  rotate_left
  · exact absurd (by decide) c_1
  refine lv_aload_n hXX hBB dL_pairs_18 rfl (lv_at hl 0 rfl) ?_
  refine lv_iload_n hXX hBB dL_pairs_19 rfl (lv_at hl 2 rfl) ?_
  refine lv_iload_n hXX hBB dL_pairs_20 rfl (lv_at hl 3 rfl) ?_
  refine lv_iload hXX hBB dL_pairs_21 (lv_at hl 4 rfl) ?_
  refine x_calli (wr := []) ⟨hXX, hBB, hml, hown, hts⟩ hN hX hM (cwV 3 hts gL_pairs_X2_setOtherDays rfl rfl rfl (by decide +kernel) ⟨Nat.le_of_ble_eq_true rfl, Nat.le_of_ble_eq_true rfl⟩) hK hP hD hS hAA isC [] tC hC rfl hty hnC (by decide) (fun i h => absurd h (by simp)) rfl 2 rfl he rfl rfl hl.1 rfl (Nat.le_of_ble_eq_true rfl) dL_pairs_23 ⟨Nat.le_of_ble_eq_true rfl, Nat.le_of_ble_eq_true rfl⟩ (k := rmL_pairs0.cells) (n := rmL_pairs0.slots) (Nat.zero_add _) (Nat.zero_add _) (fun i_ u_ E_ ce_ q_ H locs hE_ hw hP hD hS hq_ hv_ hc_ => ?_) (fun r9 u_ H locs hw hP hD hS => ?_)
  · subst hE_
    rcases hpx i_ u_ hw with rfl | rfl
    · skip
      refine vx_catch (name := xN 1) hown [] ⟨0, 34, 35, 76⟩ [⟨0, 34, 40, 65⟩] (by rw [htab]; rfl) (fun z hz => absurd hz (by simp)) (by decide) (by decide) kl_1 (va_Nw.use rfl (hX.1 _ (by simp [xW]))) hq_ hv_ hc_ ?_
      refine lv_astore (lv' := [(5, .ref q_), (0, .ref c9), (1, .int (nI 0)), (2, .int x), (3, .int y), (4, .int zb)]) hXX hBB dL_pairs_35 hl (by decide) rfl (fun ls hl => ?_)
      refine lv_bipush (v := (-12)) hXX hBB dL_pairs_37 (by decide) ?_
      exact hret (r := (-12)) (.inr (1, u_)) ⟨rfl, hw⟩ rfl hP hD hS (Nat.le_refl _) (Nat.le_refl _) dL_pairs_39
    · skip
      have hps : ∀ z ∈ [(⟨0, 34, 35, 76⟩ : ExceptionTableEntry)], covers z 23 = false ∨ (z.catchType ≠ 0 ∧ ∃ nm : String, (Cond.classLink RL z.catchType nm).before args sT = true ∧ va_Nc (xN 3) nm sT) := by
        intro z hz
        simp only [List.mem_cons, List.not_mem_nil, or_false] at hz
        subst hz
        exact Or.inr ⟨by decide, xN 1, kl_1, hX.2.2.2.2 3 (by decide) 1 (by decide) (by decide +kernel)⟩
      refine vx_catch (name := xN 3) hown [⟨0, 34, 35, 76⟩] ⟨0, 34, 40, 65⟩ [] (by rw [htab]; rfl) hps (by decide) (by decide) kl_3 (va_Nw.use rfl (hX.1 _ (by simp [xW]))) hq_ hv_ hc_ ?_
      refine lv_astore (lv' := [(5, .ref q_), (0, .ref c9), (1, .int (nI 0)), (2, .int x), (3, .int y), (4, .int zb)]) hXX hBB dL_pairs_40 hl (by decide) rfl (fun ls hl => ?_)
      refine lv_bipush (v := (-13)) hXX hBB dL_pairs_42 (by decide) ?_
      exact hret (r := (-13)) (.inr (3, u_)) ⟨rfl, hw⟩ rfl hP hD hS (Nat.le_refl _) (Nat.le_refl _) dL_pairs_44
  · skip
    refine lv_if_eq (tgt := 33) hXX hBB dL_pairs_26 (by decide) (fun c_9 => ?_) (fun c_9 => ?_)
    · skip
      refine lv_iconst (v := nI 0) hXX hBB dL_pairs_33 (by decide) ?_
      exact hret (r := nI 0) (.inl (r9, u_)) ⟨c_9.symm, hw⟩ rfl hP hD hS (Nat.le_refl _) (Nat.le_refl _) dL_pairs_34
    · skip
      refine lv_iconst (v := nI 1) hXX hBB dL_pairs_29 (by decide) ?_
      refine lv_goto (tgt := 34) hXX hBB dL_pairs_30 (by decide) ?_
      exact hret (r := nI 1) (.inl (r9, u_)) ⟨((hbv r9 u_ hw).resolve_left c_9).symm, hw⟩ rfl hP hD hS (Nat.le_refl _) (Nat.le_refl _) dL_pairs_34
