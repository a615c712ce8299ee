def R_law : String := "CupDrawLaw"
def lw_P (b : Addr) (xs : List Int32) (args : Array Value) (s : State) : Prop := args = #[.ref b] ∧ s.IntsAt b xs ∧ xs.length ≤ 260 ∧ (Jvm.Cond.and given_1 narrow_1).before args s = true
def lw_Q (_ : Array Value) (s : State) (o : Outcome) (t : State) : Prop := o = .returned (some (.int 1)) ∧ Framed s o t [] 617858 7247893
def lw_Z (below : List Frame) (a : Array Value) (s : State) : State → Prop := fun t => ∃ o, t.status = .running ∧ Ended t below o ∧ lw_Q a s o t
/-- the law's own end, with 1 on the stack, nothing written that was there before, its room as the claim has it -/
theorem lw_ret {p : Program} {l : Launch} {e : Env} {s : State} {m : MethodId} {below : List Frame} {meth : Method} {c : Code} {b : Nat} (hx : p.tables.exec = Jvm.exec) (hb : c.code = code) (hr : meth.sig.returnType = ret) (hlocks : meth.locks = false) {pc : Nat} {H : Heap} {ls : Array Slot} (hdg : decode code pc = .ok (.ireturn, 1)) : W p l e room_1 s m #[Value.ref b] below meth c H [] 617858 7247893 (lw_Z below #[Value.ref b] s) (F0 m pc ls [.int 1]) := by
  intro T hT X
  obtain ⟨fs, hret, hrun, hended, hW, hframe⟩ := X.leave (v := some (.int 1)) (hlocks := hlocks) (fun h => by rw [hr] at h; cases h)
  have hmeth' : T.vm.method? m = some meth := X.method'
  refine ⟨T.setFrames fs, ?_, .returned (some (.int 1)), hrun, hended, rfl, ⟨_, rfl⟩, hW, hframe⟩
  jvm_step X.here [X.here.top, hx, hb, hdg, hmeth', hr, ret, narrow_b1]
  (try refine ⟨rfl, ?_⟩); (try refine ⟨rfl, ?_⟩)
  first | (intro acts; rw [hret _ acts rfl rfl rfl]) | rw [hret _ _ rfl rfl rfl]
  exact Steps.refl _
/-- what holds at the law's entry: the machine, the code, the tables' words (any of lw_tbl by 'hts w (by decide +kernel)'), the script of L ints xs at the cell b, what the Statement gives of the start (any of its parts by flat_of_before) -/
def lw_At (p : Program) (s : State) (m : MethodId) (meth : Method) (c : Code) (b L : Nat) (xs : Nat → Int32) : Prop :=
  p.tables.exec = Jvm.exec ∧ c.code = code ∧ meth.sig.returnType = ret ∧ c.maxLocals = 24 ∧ s.vm.findClass R_law = some m.cls ∧ (∀ w ∈ lw_tbl, w.before #[Value.ref b] s = true) ∧ va_X b L xs s s.heap ∧ b < s.heap.size ∧ meth.locks = false ∧ (Jvm.Cond.and given_1 narrow_1).before #[Value.ref b] s = true
set_option maxHeartbeats 4000000 in
set_option maxRecDepth 100000 in
theorem law_loop {l : Launch} (hstk : l.stackTraces = false) {pR : Program} {eV : Env} {sT : State} {mI : MethodId} {below : List Frame} {meth : Method} {cO : Code} {D : va_G} {cI cJ : ClassId} {b0 L : Nat} {xs : Nat → Int32} (C0 : lwC pR sT mI cO D cI cJ (fun q : Nat => sT.heap.size ≤ q) b0 L xs) (hr : meth.sig.returnType = ret) (hlocks : meth.locks = false) {c b bR bB bA bO bP bM ol oa el ea aSe aDt aOb kN kR kP kA kW kQ : Nat} :
    ∀ (N i cells slots : Nat), 40 - i < N → i ≤ 40 → cells ≤ 5000 + 1000 * i → slots ≤ 50000 + 4000 * i → ∀ (H : Heap) (locs : List Loc) (ls : Array Slot), LOk D cI cJ (fun q : Nat => sT.heap.size ≤ q) true c b bR bB bA bO bP bM ol oa el ea aSe aDt aOb kN kR kP kA kW kQ H → va_S (fun q : Nat => sT.heap.size ≤ q) sT.heap H locs → lv_has ls 24 [(9, .int (nI i)), (8, .int (nI 1)), (7, .ref kQ), (6, .ref kW), (5, .ref kA), (4, .ref kP), (3, .ref kR), (2, .ref kN), (1, .ref c), (0, .ref b0)] →
    W pR l eV room_1 sT mI #[Value.ref b0] below meth cO H locs cells slots (lw_Z below #[Value.ref b0] sT) (F0 mI 80 ls []) := by
  obtain ⟨hXX, hBB, hml, hown, hts, hN, hXs, hK, hscr, hbl, hbA, hL, hAA, hc137, hc138, harI, harJ⟩ := id C0
  intro N
  induction N with
  | zero => intro i cells slots h; exact absurd h (Nat.not_lt_zero _)
  | succ N ih =>
    intro i cells slots hm hi hc hs H locs ls hO hS hl
    refine lv_iload hXX hBB dL_law_80 (lv_at hl 0 rfl) ?_
    refine lv_bipush (v := nI 40) hXX hBB dL_law_82 (by decide) ?_
    refine lv_icmp_ge (tgt := 1031) hXX hBB dL_law_84 (by decide) (fun c_84 => ?_) (fun c_84 => ?_)
    · refine lv_iload hXX hBB dL_law_1031 (lv_at hl 1 rfl) ?_
      refine m_top (y := 1) (by decide) ?_
      refine va_forget hS.2.2 ?_
      refine W.widen (k := 617858) (n := 7247893) (by omega) (by omega) ?_
      exact lw_ret hXX hBB hr hlocks dL_law_1033
    · have hi40 : i < 40 := Nat.lt_of_not_le (fun h9 => c_84 ((nI_leI (by omega) (by omega)).mpr h9))
      refine lv_iload hXX hBB dL_law_87 (lv_at hl 1 rfl) ?_
      refine lv_if_eq (tgt := 1031) hXX hBB dL_law_89 (by decide) (fun c_89 => ?_) (fun c_89 => ?_)
      · exact absurd c_89 (by decide)
      · have K129 : ∀ xx, xx < 2 ^ 31 → W pR l eV room_1 sT mI #[Value.ref b0] below meth cO H locs cells slots (lw_Z below #[Value.ref b0] sT) (F0 mI 129 ls [.int (nI xx)]) := fun xx hx => law_turn hstk C0 hx hi40 (by omega) (by omega) hO hS hl (fun H locs ls hO hS hl => by
          refine lv_iinc (v := nI (i + 1)) (lv' := [(9, .int (nI (i + 1))), (8, .int (nI 1)), (7, .ref kQ), (6, .ref kW), (5, .ref kA), (4, .ref kP), (3, .ref kR), (2, .ref kN), (1, .ref c), (0, .ref b0)]) hXX hBB dL_law_1025 hl (k := 0) rfl (nI_1 _) (by decide) rfl (fun ls hl => ?_)
          refine lv_goto (tgt := 80) hXX hBB dL_law_1028 (by decide) ?_
          exact ih (i + 1) (cells + 920) (slots + 3360) (by omega) (by omega) (by omega) (by omega) H locs ls hO hS hl)
        refine lv_iload hXX hBB dL_law_92 (lv_at hl 0 rfl) ?_
        refine lv_aload_n hXX hBB dL_law_94 rfl (lv_at hl 9 rfl) ?_
        refine va_slen hXX hBB hscr hbl hbA hS dL_law_95 ?_
        refine lv_icmp_ge (tgt := 109) hXX hBB dL_law_96 (by decide) (fun c_96 => ?_) (fun c_96 => ?_)
        · refine lv_ldc (v := 39019) hXX hBB hown hc138 dL_law_109 ?_
          refine lv_iload hXX hBB dL_law_111 (lv_at hl 0 rfl) ?_
          refine lv_imul hXX hBB dL_law_113 ?_
          refine lv_iload hXX hBB dL_law_114 (lv_at hl 0 rfl) ?_
          refine lv_imul hXX hBB dL_law_116 ?_
          refine lv_sipush (v := 6007) hXX hBB dL_law_117 (by decide) ?_
          refine lv_iload hXX hBB dL_law_120 (lv_at hl 0 rfl) ?_
          refine lv_imul hXX hBB dL_law_122 ?_
          refine lv_iadd hXX hBB dL_law_123 ?_
          refine lv_iconst (v := 3) hXX hBB dL_law_124 (by decide) ?_
          refine lv_iadd hXX hBB dL_law_125 ?_
          refine lv_ldc (v := 2147483647) hXX hBB hown hc137 dL_law_126 ?_
          refine lv_iand hXX hBB dL_law_128 ?_
          exact m_andx (fun k hk => K129 k hk)
        · have hiL : i < L := Nat.lt_of_not_le (fun h9 => c_96 ((nI_leI (by omega) (by omega)).mpr h9))
          refine lv_aload_n hXX hBB dL_law_99 rfl (lv_at hl 9 rfl) ?_
          refine lv_iload hXX hBB dL_law_100 (lv_at hl 0 rfl) ?_
          refine m_sld hXX hBB hscr hbl hbA hS (i := i) hiL (by omega) dL_law_102 ?_
          refine lv_ldc (v := 2147483647) hXX hBB hown hc137 dL_law_103 ?_
          refine lv_iand hXX hBB dL_law_105 ?_
          refine lv_goto (tgt := 129) hXX hBB dL_law_106 (by decide) ?_
          exact m_andx (fun k hk => K129 k hk)
