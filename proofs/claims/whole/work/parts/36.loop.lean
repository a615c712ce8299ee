def R_law : String := "CupDrawLaw"
def lw_P (b : Addr) (xs : List Int32) (args : Array Value) (s : State) : Prop := args = #[.ref b] ∧ s.IntsAt b xs ∧ xs.length ≤ 2048 ∧ (Jvm.Cond.and given_1 narrow_1).before args s = true
def lw_Q (_ : Array Value) (s : State) (o : Outcome) (t : State) : Prop := o = .returned (some (.int 1)) ∧ Framed s o t [] 601024 7293034
def lw_Z (below : List Frame) (a : Array Value) (s : State) : State → Prop := fun t => ∃ o, t.status = .running ∧ Ended t below o ∧ lw_Q a s o t
/-- the law's own end, with 1 on the stack, nothing written that was there before, its room as the claim has it -/
theorem lw_ret {p : Program} {l : Launch} {e : Env} {s : State} {m : MethodId} {below : List Frame} {meth : Method} {c : Code} {b : Nat} (hx : p.tables.exec = Jvm.exec) (hb : c.code = code) (hr : meth.sig.returnType = ret) (hlocks : meth.locks = false) {pc : Nat} {H : Heap} {ls : Array Slot} (hdg : decode code pc = .ok (.ireturn, 1)) : W p l e room_1 s m #[Value.ref b] below meth c H [] 601024 7293034 (lw_Z below #[Value.ref b] s) (F0 m pc ls [.int 1]) := by
  intro T hT X
  obtain ⟨fs, hret, hrun, hended, hW, hframe⟩ := X.leave (v := some (.int 1)) (hlocks := hlocks) (fun h => by rw [hr] at h; cases h)
  have hmeth' : T.vm.method? m = some meth := X.method'
  refine ⟨T.setFrames fs, ?_, .returned (some (.int 1)), hrun, hended, rfl, ⟨_, rfl⟩, hW, hframe⟩
  jvm_step X.here [X.here.top, hx, hb, hdg, hmeth', hr, ret, narrow_b1]
  (try refine ⟨rfl, ?_⟩); (try refine ⟨rfl, ?_⟩)
  first | (intro acts; rw [hret _ acts rfl rfl rfl]) | rw [hret _ _ rfl rfl rfl]
  exact Steps.refl _
/-- what holds at the law's entry: the machine, the code, the tables' words (any of lw_tbl by 'hts w (by decide +kernel)'), the script of L ints xs at the cell b, what the Statement gives of the start (any of its parts by flat_of_before) -/
def lw_At (p : Program) (s : State) (m : MethodId) (meth : Method) (c : Code) (b L : Nat) (xs : Nat → Int32) : Prop :=
  p.tables.exec = Jvm.exec ∧ c.code = code ∧ meth.sig.returnType = ret ∧ c.maxLocals = 7 ∧ s.vm.findClass R_law = some m.cls ∧ (∀ w ∈ lw_tbl, w.before #[Value.ref b] s = true) ∧ va_X b L xs s s.heap ∧ b < s.heap.size ∧ meth.locks = false ∧ (Jvm.Cond.and given_1 narrow_1).before #[Value.ref b] s = true
theorem and31 (x : Int32) : ∃ k, k < 32 ∧ x &&& nI 31 = nI k := by
  refine ⟨(x &&& nI 31).toBitVec.toNat, ?_, ?_⟩
  · have h : (x &&& nI 31).toBitVec.toNat = x.toBitVec.toNat &&& 31 := by
      show (x.toBitVec &&& (nI 31).toBitVec).toNat = _
      rw [BitVec.toNat_and]
      rfl
    rw [h]
    exact Nat.lt_of_le_of_lt Nat.and_le_right (by decide)
  · apply Int32.toBitVec_inj.1
    show _ = BitVec.ofNat 32 _
    rw [BitVec.ofNat_toNat, BitVec.setWidth_eq]
theorem gt_le {i L : Nat} (hL : L ≤ 2048) (hi : i ≤ 2048) (h : ¬ nI L - nI 4 < nI i) : i + 4 ≤ L := by
  rcases Nat.lt_or_ge L 4 with q | q
  · exfalso
    apply h
    rw [Int32.lt_iff_toInt_lt, nI_toInt (by omega)]
    have h2 : (nI L - nI 4).toInt < 0 := by
      rcases (show L = 0 ∨ L = 1 ∨ L = 2 ∨ L = 3 by omega) with rfl | rfl | rfl | rfl <;> decide +kernel
    omega
  · rw [pk_sub q] at h
    have : ¬ L - 4 < i := fun z => h ((nI_ltI (by omega) (by omega)).mpr z)
    omega
set_option maxHeartbeats 4000000 in
set_option maxRecDepth 100000 in
theorem law_loop {l : Launch} (hstk : l.stackTraces = false) {pR : Program} {eV : Env} {sT : State} {mI : MethodId} {below : List Frame} {meth : Method} {cO : Code} {D : va_G} {cI cZ cJ : ClassId} {b0 L : Nat} {xs : Nat → Int32} (C0 : lwC pR sT mI cO D cI cZ cJ (fun q : Nat => sT.heap.size ≤ q) b0 L xs) (hr : meth.sig.returnType = ret) (hlocks : meth.locks = false) {ow c b bR bB bA bO bP bM ol oa el ea aSe aDt aOb h aR aB aA aO aD aP aS aW aU aL aE aQ : Nat} :
    ∀ (N i cells slots : Nat), L - i < N → i ≤ L → cells ≤ 64 + i → slots ≤ 20000 + 6 * i → ∀ (H : Heap) (locs : List Loc) (ls : Array Slot), LOk D cI cZ cJ (fun q : Nat => sT.heap.size ≤ q) ow c b bR bB bA bO bP bM ol oa el ea aSe aDt aOb h aR aB aA aO aD aP aS aW aU aL aE aQ H → va_S (fun q : Nat => sT.heap.size ≤ q) sT.heap H locs → lv_has ls 7 [(4, .int (nI i)), (3, .ref ow), (2, .ref h), (1, .ref c), (0, .ref b0)] →
    W pR l eV room_1 sT mI #[Value.ref b0] below meth cO H locs cells slots (lw_Z below #[Value.ref b0] sT) (F0 mI 23 ls []) := by
  obtain ⟨hXX, hBB, hml, hown, hts, hN, hXs, hK, hscr, hbl, hbA, hL, hAA⟩ := id C0
  intro N
  induction N with
  | zero => intro i cells slots h; exact absurd h (Nat.not_lt_zero _)
  | succ N ih =>
    intro i cells slots hm hi hc hs H locs ls hO hS hl
    refine lv_iload hXX hBB dL_law_23 (lv_at hl 0 rfl) ?_
    refine lv_aload_n hXX hBB dL_law_25 rfl (lv_at hl 4 rfl) ?_
    refine va_slen hXX hBB hscr hbl hbA hS dL_law_26 ?_
    refine lv_iconst (v := nI 4) hXX hBB dL_law_27 (by decide) ?_
    refine lv_isub hXX hBB dL_law_28 ?_
    refine m_top (y := nI L - nI 4) rfl ?_
    refine lv_icmp_gt (tgt := 1228) hXX hBB dL_law_29 (by decide) (fun c_29 => ?_) (fun c_29 => ?_)
    · refine lv_iconst (v := 1) hXX hBB dL_law_1228 (by decide) ?_
      refine va_forget hS.2.2 ?_
      refine W.widen (k := 601024) (n := 7293034) (by omega) (by omega) ?_
      exact lw_ret hXX hBB hr hlocks dL_law_1229
    · have hi4 : i + 4 ≤ L := gt_le hL (by omega) c_29
      refine lv_aload_n hXX hBB dL_law_32 rfl (lv_at hl 4 rfl) ?_
      refine lv_iload hXX hBB dL_law_33 (lv_at hl 0 rfl) ?_
      refine m_sld hXX hBB hscr hbl hbA hS (i := i) (by omega) hL dL_law_35 ?_
      refine lv_bipush (v := nI 31) hXX hBB dL_law_36 (by decide) ?_
      refine lv_iand hXX hBB dL_law_38 ?_
      obtain ⟨k, hk, hk2⟩ := and31 (xs i)
      refine m_top (y := nI k) hk2 ?_
      have KK : ∀ (H : Heap) (locs : List Loc) (ls : Array Slot), LOk D cI cZ cJ (fun q : Nat => sT.heap.size ≤ q) ow c b bR bB bA bO bP bM ol oa el ea aSe aDt aOb h aR aB aA aO aD aP aS aW aU aL aE aQ H → va_S (fun q : Nat => sT.heap.size ≤ q) sT.heap H locs → lv_has ls 7 [(4, .int (nI i)), (3, .ref ow), (2, .ref h), (1, .ref c), (0, .ref b0)] → W pR l eV room_1 sT mI #[Value.ref b0] below meth cO H locs (cells + 4) (slots + 24) (lw_Z below #[Value.ref b0] sT) (F0 mI 1222 ls []) := by
        intro H locs ls hO hS hl
        refine lv_iinc (v := nI (i + 4)) (lv' := [(4, .int (nI (i + 4))), (3, .ref ow), (2, .ref h), (1, .ref c), (0, .ref b0)]) hXX hBB dL_law_1222 hl (k := 0) rfl (nI_add _ _) (by decide) rfl (fun ls hl => ?_)
        refine lv_goto (tgt := 23) hXX hBB dL_law_1225 (by decide) ?_
        exact ih (i + 4) (cells + 4) (slots + 24) (by omega) hi4 (by omega) (by omega) H locs ls hO hS hl
      rcases (show k = 0 ∨ k = 1 ∨ k = 2 ∨ k = 3 ∨ k = 4 ∨ k = 5 ∨ k = 6 ∨ k = 7 ∨ k = 8 ∨ k = 9 ∨ k = 10 ∨ k = 11 ∨ k = 12 ∨ k = 13 ∨ k = 14 ∨ k = 15 ∨ k = 16 ∨ k = 17 ∨ k = 18 ∨ k = 19 ∨ 20 ≤ k by omega) with rfl | rfl | rfl | rfl | rfl | rfl | rfl | rfl | rfl | rfl | rfl | rfl | rfl | rfl | rfl | rfl | rfl | rfl | rfl | rfl | hk20
      · refine lv_tableIn (tgt := 132) hXX hBB dL_law_39 (by decide +kernel) (by decide +kernel) (off := 93) (by decide +kernel) (by decide) ?_
        exact A_lay hstk C0 hi4 (by omega) (by omega) hO hS hl KK
      · refine lv_tableIn (tgt := 200) hXX hBB dL_law_39 (by decide +kernel) (by decide +kernel) (off := 161) (by decide +kernel) (by decide) ?_
        exact A_setRegion hstk C0 hi4 (by omega) (by omega) hO hS hl KK
      · refine lv_tableIn (tgt := 268) hXX hBB dL_law_39 (by decide +kernel) (by decide +kernel) (off := 229) (by decide +kernel) (by decide) ?_
        exact A_setBound hstk C0 hi4 (by omega) (by omega) hO hS hl KK
      · refine lv_tableIn (tgt := 336) hXX hBB dL_law_39 (by decide +kernel) (by decide +kernel) (off := 297) (by decide +kernel) (by decide) ?_
        exact A_setApart hstk C0 hi4 (by omega) (by omega) hO hS hl KK
      · refine lv_tableIn (tgt := 439) hXX hBB dL_law_39 (by decide +kernel) (by decide +kernel) (off := 400) (by decide +kernel) (by decide) ?_
        exact A_setOtherDays hstk C0 hi4 (by omega) (by omega) hO hS hl KK
      · refine lv_tableIn (tgt := 542) hXX hBB dL_law_39 (by decide +kernel) (by decide +kernel) (off := 503) (by decide +kernel) (by decide) ?_
        exact A_draw hstk C0 hi4 (by omega) (by omega) hO hS hl KK
      · refine lv_tableIn (tgt := 598) hXX hBB dL_law_39 (by decide +kernel) (by decide +kernel) (off := 559) (by decide +kernel) (by decide) ?_
        exact A_undo hstk C0 hi4 (by omega) (by omega) hO hS hl KK
      · refine lv_tableIn (tgt := 642) hXX hBB dL_law_39 (by decide +kernel) (by decide +kernel) (off := 603) (by decide +kernel) (by decide) ?_
        exact A_drawn hstk C0 hi4 (by omega) (by omega) hO hS hl KK
      · refine lv_tableIn (tgt := 655) hXX hBB dL_law_39 (by decide +kernel) (by decide +kernel) (off := 616) (by decide +kernel) (by decide) ?_
        exact A_pot hstk C0 hi4 (by omega) (by omega) hO hS hl KK
      · refine lv_tableIn (tgt := 668) hXX hBB dL_law_39 (by decide +kernel) (by decide +kernel) (off := 629) (by decide +kernel) (by decide) ?_
        exact A_left hstk C0 hi4 (by omega) (by omega) hO hS hl KK
      · refine lv_tableIn (tgt := 681) hXX hBB dL_law_39 (by decide +kernel) (by decide +kernel) (off := 642) (by decide +kernel) (by decide) ?_
        exact A_ballAt hstk C0 hi4 (by omega) (by omega) hO hS hl KK
      · refine lv_tableIn (tgt := 737) hXX hBB dL_law_39 (by decide +kernel) (by decide +kernel) (off := 698) (by decide +kernel) (by decide) ?_
        exact A_groupOf hstk C0 hi4 (by omega) (by omega) hO hS hl KK
      · refine lv_tableIn (tgt := 793) hXX hBB dL_law_39 (by decide +kernel) (by decide +kernel) (off := 754) (by decide +kernel) (by decide) ?_
        exact A_teamAt hstk C0 hi4 (by omega) (by omega) hO hS hl KK
      · refine lv_tableIn (tgt := 861) hXX hBB dL_law_39 (by decide +kernel) (by decide +kernel) (off := 822) (by decide +kernel) (by decide) ?_
        exact A_results hstk C0 hi4 (by omega) (by omega) hO hS hl KK
      · refine lv_tableIn (tgt := 874) hXX hBB dL_law_39 (by decide +kernel) (by decide +kernel) (off := 835) (by decide +kernel) (by decide) ?_
        exact A_fits hstk C0 hi4 (by omega) (by omega) hO hS hl KK
      · refine lv_tableIn (tgt := 949) hXX hBB dL_law_39 (by decide +kernel) (by decide +kernel) (off := 910) (by decide +kernel) (by decide) ?_
        exact A_forced hstk C0 hi4 (by omega) (by omega) hO hS hl KK
      · refine lv_tableIn (tgt := 1005) hXX hBB dL_law_39 (by decide +kernel) (by decide +kernel) (off := 966) (by decide +kernel) (by decide) ?_
        exact A_evenly hstk C0 hi4 (by omega) (by omega) hO hS hl KK
      · refine lv_tableIn (tgt := 1073) hXX hBB dL_law_39 (by decide +kernel) (by decide +kernel) (off := 1034) (by decide +kernel) (by decide) ?_
        exact A_orders hstk C0 hi4 (by omega) (by omega) hO hS hl KK
      · refine lv_tableIn (tgt := 1086) hXX hBB dL_law_39 (by decide +kernel) (by decide +kernel) (off := 1047) (by decide +kernel) (by decide) ?_
        exact A_chances hstk C0 hi4 (by omega) (by omega) hO hS hl KK
      · refine lv_tableIn (tgt := 1154) hXX hBB dL_law_39 (by decide +kernel) (by decide +kernel) (off := 1115) (by decide +kernel) (by decide) ?_
        exact A_pairings hstk C0 hi4 (by omega) (by omega) hO hS hl KK
      · refine lv_tableOut (tgt := 1222) hXX hBB dL_law_39 (Or.inr (by rw [nI_toInt (by omega)]; omega)) (by decide) ?_
        refine W.widen (k := cells + 4) (n := slots + 24) (Nat.le_add_right _ _) (Nat.le_add_right _ _) ?_
        exact KK _ _ _ hO hS hl
