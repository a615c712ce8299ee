section LAW2
variable {p : Program} {l : Launch} {e : Env} {R : Room} {s : State} {m : MethodId} {args : Array Value} {below : List Frame} {meth : Method} {c : Code} {H H0 : Heap} {locs : List Loc} {cells slots : Nat} {Q : State → Prop} {cc : ByteArray} {pc : Nat} {rest : List Value} {A : Nat → Prop} {ls : Array Slot}
theorem and_x (x : Int32) : ∃ k, k < 2 ^ 31 ∧ x &&& 2147483647 = nI k := by
  refine ⟨(x &&& 2147483647).toBitVec.toNat, ?_, ?_⟩
  · have h : (x &&& 2147483647).toBitVec.toNat = x.toBitVec.toNat &&& 2147483647 := by
      show (x.toBitVec &&& (2147483647 : Int32).toBitVec).toNat = _
      rw [BitVec.toNat_and]
      rfl
    rw [h]
    exact Nat.lt_of_le_of_lt Nat.and_le_right (by decide)
  · apply Int32.toBitVec_inj.1
    show _ = BitVec.ofNat 32 _
    rw [BitVec.ofNat_toNat, BitVec.setWidth_eq]
theorem m_andx {x : Int32} (k9 : ∀ k, k < 2 ^ 31 → W p l e R s m args below meth c H locs cells slots Q (F0 m pc ls (.int (nI k) :: rest))) : W p l e R s m args below meth c H locs cells slots Q (F0 m pc ls (.int (x &&& 2147483647) :: rest)) := by
  obtain ⟨k, h1, h2⟩ := and_x x
  rw [h2]
  exact k9 k h1
end LAW2
set_option maxHeartbeats 4000000 in
set_option maxRecDepth 100000 in
theorem law_turn {l : Launch} (hstk : l.stackTraces = false) {pR : Program} {eV : Env} {sT : State} {mI : MethodId} {below : List Frame} {meth : Method} {cO : Code} {QQ : State → Prop} {D : va_G} {cI cJ : ClassId} {AA : Nat → Prop} {b0 L : Nat} {xs : Nat → Int32} (C0 : lwC pR sT mI cO D cI cJ AA b0 L xs) {xx i cells slots : Nat} (hx : xx < 2 ^ 31) (hi : i < 40) (hrc : cells + 930 ≤ 617858) (hrs : slots + 3400 ≤ 7247893) {c b bR bB bA bO bP bM ol oa el ea aSe aDt aOb kN kR kP kA kW kQ : Nat} {H : Heap} {locs : List Loc} {ls : Array Slot} (hO : LOk D cI cJ AA true c b bR bB bA bO bP bM ol oa el ea aSe aDt aOb kN kR kP kA kW kQ H) (hS : va_S AA sT.heap H locs) (hl : lv_has ls 24 [(9, .int (nI i)), (8, .int (nI 1)), (7, .ref kQ), (6, .ref kW), (5, .ref kA), (4, .ref kP), (3, .ref kR), (2, .ref kN), (1, .ref c), (0, .ref b0)])
    (KK : ∀ (H : Heap) (locs : List Loc) (ls : Array Slot), LOk D cI cJ AA true c b bR bB bA bO bP bM ol oa el ea aSe aDt aOb kN kR kP kA kW kQ H → va_S AA sT.heap H locs → lv_has ls 24 [(9, .int (nI i)), (8, .int (nI 1)), (7, .ref kQ), (6, .ref kW), (5, .ref kA), (4, .ref kP), (3, .ref kR), (2, .ref kN), (1, .ref c), (0, .ref b0)] → W pR l eV room_1 sT mI #[Value.ref b0] below meth cO H locs (cells + 920) (slots + 3360) QQ (F0 mI 1025 ls [])) :
    W pR l eV room_1 sT mI #[Value.ref b0] below meth cO H locs cells slots QQ (F0 mI 129 ls [.int (nI xx)]) := by
  obtain ⟨hXX, hBB, hml, hown, hts, hN, hXs, hK, hscr, hbl, hbA, hL, hAA, hc137, hc138, harI, harJ⟩ := id C0
  obtain ⟨fo, fe, dm, g, p, rg, bd, ap, od, pm, mb, n, f, ne, fl, S, dt, ob9, ab, ob, dtm, fa, wm, qm, hG, hU, hI, hE, hr0, hZ, hP, hD⟩ := hO
  obtain ⟨⟨hg2, hg4⟩, ⟨hp2, hp3⟩, hT⟩ := id hG
  obtain ⟨hrg, hbd, hRR, hap, hod, hpm, hmb4⟩ := id hU
  have hmb : ∀ z, z < g → mb z = 0 := fun z hz => hmb4 z (by omega)
  obtain ⟨⟨hV, hdmT⟩, hdt9, hH, hro, hfo0⟩ := id hI
  have hg0 : 0 < g := by omega
  have hp0 : 0 < p := by omega
  have h0 : 0 < g * p := Nat.mul_pos hg0 hp0
  have hdm9 : dm ≤ 9 := Nat.le_trans hdmT hT
  have hext := LI_ext hG hU
  have hrn : fo = false → ∀ w, extN g rg bd ap od (g * p) 0 0 w = RS g p rg bd ab ob S w := fun q w => LI_rn hG hU hI q w
  have hfp := facp_le hg2 hg4 hp2 hp3 hT
  have hre : fe = true → EndR fl ne g p rg bd ab ob S dm := hE
  have hdtc : 0 < dm → dt (dm - 1) < 9 := fun q => LS_dt hI hT q
  have hs : SV g p S := SV_mk hg0 hg4 hV hr0
  have hrg5 : ∀ z, z < 9 → rg z ≤ 5 := fun z hz => Nat.le_of_lt_succ (hrg z hz)
  have hbd3 : ∀ z, z < 6 → bd z ≤ 3 := fun z hz => Nat.le_of_lt_succ (hbd z hz)
  have hrs9 : rsN g p rg bd ab ob S ≤ 576 := by rw [rsA hg0 hg4]; exact Nat.le_trans (ct_le _ _) hfp
  have hmm : MM g p S (layM g p S) := lay_MM g p S
  obtain ⟨hfa, hWQ⟩ := hZ rfl
  subst hfa
  refine lv_istore (lv' := [(10, .int (nI xx)), (9, .int (nI i)), (8, .int (nI 1)), (7, .ref kQ), (6, .ref kW), (5, .ref kA), (4, .ref kP), (3, .ref kR), (2, .ref kN), (1, .ref c), (0, .ref b0)]) hXX hBB dL_law_129 hl (by decide) rfl (fun ls hl => ?_)
  have J_162 : ∀ (kd : Nat), (kd < 24) → ∀ (H : Heap) (locs : List Loc), va_P D vwCl [(c, .inr (2, [.ref b, .ref ol, .int (bI fo), .ref el, .int (bI fe), .ref aSe, .ref aDt, .ref aOb, .int (nI dm)])), (b, .inr (0, [.int (nI g), .int (nI p), .int (nI (g * p)), .ref bR, .ref bB, .ref bA, .ref bO, .ref bP, .ref bM])), (bR, .inl (cI, 9, .inl (fun j => nI (rg j)))), (bB, .inl (cI, 6, .inl (fun j => nI (bd j)))), (bA, .inl (cI, 9, .inl (fun j => nI (ap j)))), (bO, .inl (cI, 9, .inl (fun j => nI (od j)))), (bP, .inl (cI, 9, .inl (fun j => nI (pm j)))), (bM, .inl (cI, 4, .inl (fun j => nI (mb j)))), (ol, .inr (1, [.ref oa, .int (nI n)])), (oa, .inl (cI, 576, .inl (fun j => nI (f j)))), (el, .inr (1, [.ref ea, .int (nI ne)])), (ea, .inl (cI, 576, .inl (fun j => nI (fl j)))), (aSe, .inl (cI, 9, .inl S)), (aDt, .inl (cI, 9, .inl (fun j => nI (dt j)))), (aOb, .inl (cI, 9, .inl (fun j => nI (ob9 j)))), (kN, .inl (cI, 4, .inl (fun j => nI (nA g p dm (fac g) j)))), (kR, .inl (cI, 15, .inl (fun j => nI (rA rg bd j)))), (kP, .inl (cI, 18, .inl (fun j => pA S dtm j))), (kA, .inl (cI, 18, .inl (fun j => nI (rA ap od j)))), (kW, .inl (cJ, 36, .inr (.inl (fun j => lN (wm j))))), (kQ, .inl (cJ, 16, .inr (.inl (fun j => lN (qm j)))))] H → va_D AA [(c, .inr (2, [.ref b, .ref ol, .int (bI fo), .ref el, .int (bI fe), .ref aSe, .ref aDt, .ref aOb, .int (nI dm)])), (b, .inr (0, [.int (nI g), .int (nI p), .int (nI (g * p)), .ref bR, .ref bB, .ref bA, .ref bO, .ref bP, .ref bM])), (bR, .inl (cI, 9, .inl (fun j => nI (rg j)))), (bB, .inl (cI, 6, .inl (fun j => nI (bd j)))), (bA, .inl (cI, 9, .inl (fun j => nI (ap j)))), (bO, .inl (cI, 9, .inl (fun j => nI (od j)))), (bP, .inl (cI, 9, .inl (fun j => nI (pm j)))), (bM, .inl (cI, 4, .inl (fun j => nI (mb j)))), (ol, .inr (1, [.ref oa, .int (nI n)])), (oa, .inl (cI, 576, .inl (fun j => nI (f j)))), (el, .inr (1, [.ref ea, .int (nI ne)])), (ea, .inl (cI, 576, .inl (fun j => nI (fl j)))), (aSe, .inl (cI, 9, .inl S)), (aDt, .inl (cI, 9, .inl (fun j => nI (dt j)))), (aOb, .inl (cI, 9, .inl (fun j => nI (ob9 j)))), (kN, .inl (cI, 4, .inl (fun j => nI (nA g p dm (fac g) j)))), (kR, .inl (cI, 15, .inl (fun j => nI (rA rg bd j)))), (kP, .inl (cI, 18, .inl (fun j => pA S dtm j))), (kA, .inl (cI, 18, .inl (fun j => nI (rA ap od j)))), (kW, .inl (cJ, 36, .inr (.inl (fun j => lN (wm j))))), (kQ, .inl (cJ, 16, .inr (.inl (fun j => lN (qm j)))))] → va_S AA sT.heap H locs → ∀ (ls : Array Slot), lv_has ls 24 [(10, .int (nI xx)), (9, .int (nI i)), (8, .int (nI 1)), (7, .ref kQ), (6, .ref kW), (5, .ref kA), (4, .ref kP), (3, .ref kR), (2, .ref kN), (1, .ref c), (0, .ref b0)] → W pR l eV room_1 sT mI #[Value.ref b0] below meth cO H locs cells slots QQ (F0 mI 162 ls [.int (nI kd)]) := by
    intro kd hk24 H locs hP hD hS ls hl
    refine lv_istore (lv' := [(11, .int (nI kd)), (10, .int (nI xx)), (9, .int (nI i)), (8, .int (nI 1)), (7, .ref kQ), (6, .ref kW), (5, .ref kA), (4, .ref kP), (3, .ref kR), (2, .ref kN), (1, .ref c), (0, .ref b0)]) hXX hBB dL_law_162 hl (by decide) rfl (fun ls hl => ?_)
    have htt : xx / 24 % (g * p) < g * p := Nat.mod_lt _ h0
    have hoo : xx / 24 / 9 % (g * p) < g * p := Nat.mod_lt _ h0
    have KF : kd < 8 → ∀ (H : Heap) (locs : List Loc) (ls : Array Slot), LOk D cI cJ AA false c b bR bB bA bO bP bM ol oa el ea aSe aDt aOb kN kR kP kA kW kQ H → va_S AA sT.heap H locs → lv_has ls 24 [(12, .int (nI (xx / 24))), (11, .int (nI kd)), (9, .int (nI i)), (8, .int (nI 1)), (7, .ref kQ), (6, .ref kW), (5, .ref kA), (4, .ref kP), (3, .ref kR), (2, .ref kN), (1, .ref c), (0, .ref b0)] → W pR l eV room_1 sT mI #[Value.ref b0] below meth cO H locs (cells + 10) (slots + 60) QQ (F0 mI 979 ls []) := fun h8 H locs ls hO hS hl => A_fin1 hstk C0 (by omega) h8 hk24 (by omega) (by omega) hO hS hl (fun H locs ls hO hS hl => by
      refine W.widen (k := cells + 920) (n := slots + 3360) (by omega) (by omega) ?_
      exact KK H locs ls hO hS hl)
    have KT : 8 ≤ kd → ∀ (H : Heap) (locs : List Loc) (ls : Array Slot), LOk D cI cJ AA true c b bR bB bA bO bP bM ol oa el ea aSe aDt aOb kN kR kP kA kW kQ H → va_S AA sT.heap H locs → lv_has ls 24 [(12, .int (nI (xx / 24))), (11, .int (nI kd)), (9, .int (nI i)), (8, .int (nI 1)), (7, .ref kQ), (6, .ref kW), (5, .ref kA), (4, .ref kP), (3, .ref kR), (2, .ref kN), (1, .ref c), (0, .ref b0)] → W pR l eV room_1 sT mI #[Value.ref b0] below meth cO H locs (cells + 10) (slots + 60) QQ (F0 mI 979 ls []) := fun h8 H locs ls hO hS hl => A_fin2 hstk C0 (by omega) h8 hk24 (by omega) (by omega) hO hS hl (fun H locs ls hO hS hl => by
      refine W.widen (k := cells + 920) (n := slots + 3360) (by omega) (by omega) ?_
      exact KK H locs ls hO hS hl)
    refine lv_iload hXX hBB dL_law_164 (lv_at hl 1 rfl) ?_
    refine lv_bipush (v := nI 24) hXX hBB dL_law_166 (by decide) ?_
    refine lv_idiv hXX hBB dL_law_168 (nI_ne0 (by omega) (by omega)) ?_
    refine m_top (y := nI (xx / 24)) (pk_div (by omega) (by omega) (by omega)) ?_
    refine lv_istore (lv' := [(12, .int (nI (xx / 24))), (11, .int (nI kd)), (10, .int (nI xx)), (9, .int (nI i)), (8, .int (nI 1)), (7, .ref kQ), (6, .ref kW), (5, .ref kA), (4, .ref kP), (3, .ref kR), (2, .ref kN), (1, .ref c), (0, .ref b0)]) hXX hBB dL_law_169 hl (by decide) rfl (fun ls hl => ?_)
    refine lv_aload_n hXX hBB dL_law_171 rfl (lv_at hl 10 rfl) ?_
    refine lv_iconst (v := nI 0) hXX hBB dL_law_172 (by decide) ?_
    refine m_iald hXX hBB hK hP 15 0 rfl rfl (i := 0) (by omega) (by decide) (x := nI g) rfl dL_law_173 ?_
    refine lv_aload_n hXX hBB dL_law_174 rfl (lv_at hl 10 rfl) ?_
    refine lv_iconst (v := nI 1) hXX hBB dL_law_175 (by decide) ?_
    refine m_iald hXX hBB hK hP 15 0 rfl rfl (i := 1) (by omega) (by decide) (x := nI p) rfl dL_law_176 ?_
    refine lv_imul hXX hBB dL_law_177 ?_
    refine m_top (y := nI (g * p)) (pk_mul _ _) ?_
    refine lv_istore (lv' := [(13, .int (nI (g * p))), (12, .int (nI (xx / 24))), (11, .int (nI kd)), (10, .int (nI xx)), (9, .int (nI i)), (8, .int (nI 1)), (7, .ref kQ), (6, .ref kW), (5, .ref kA), (4, .ref kP), (3, .ref kR), (2, .ref kN), (1, .ref c), (0, .ref b0)]) hXX hBB dL_law_178 hl (by decide) rfl (fun ls hl => ?_)
    refine lv_iload hXX hBB dL_law_180 (lv_at hl 1 rfl) ?_
    refine lv_iload hXX hBB dL_law_182 (lv_at hl 0 rfl) ?_
    refine lv_irem hXX hBB dL_law_184 (nI_ne0 (by omega) (by omega)) ?_
    refine m_top (y := nI ((xx / 24) % (g * p))) (pk_rem (by omega) (by omega) (by omega)) ?_
    refine lv_istore (lv' := [(14, .int (nI ((xx / 24) % (g * p)))), (13, .int (nI (g * p))), (12, .int (nI (xx / 24))), (11, .int (nI kd)), (10, .int (nI xx)), (9, .int (nI i)), (8, .int (nI 1)), (7, .ref kQ), (6, .ref kW), (5, .ref kA), (4, .ref kP), (3, .ref kR), (2, .ref kN), (1, .ref c), (0, .ref b0)]) hXX hBB dL_law_185 hl (by decide) rfl (fun ls hl => ?_)
    refine lv_iload hXX hBB dL_law_187 (lv_at hl 2 rfl) ?_
    refine lv_bipush (v := nI 9) hXX hBB dL_law_189 (by decide) ?_
    refine lv_idiv hXX hBB dL_law_191 (nI_ne0 (by omega) (by omega)) ?_
    refine m_top (y := nI ((xx / 24) / 9)) (pk_div (by omega) (by omega) (by omega)) ?_
    refine lv_iload hXX hBB dL_law_192 (lv_at hl 1 rfl) ?_
    refine lv_irem hXX hBB dL_law_194 (nI_ne0 (by omega) (by omega)) ?_
    refine m_top (y := nI (((xx / 24) / 9) % (g * p))) (pk_rem (by omega) (by omega) (by omega)) ?_
    refine lv_istore (lv' := [(15, .int (nI (((xx / 24) / 9) % (g * p)))), (14, .int (nI ((xx / 24) % (g * p)))), (13, .int (nI (g * p))), (12, .int (nI (xx / 24))), (11, .int (nI kd)), (10, .int (nI xx)), (9, .int (nI i)), (8, .int (nI 1)), (7, .ref kQ), (6, .ref kW), (5, .ref kA), (4, .ref kP), (3, .ref kR), (2, .ref kN), (1, .ref c), (0, .ref b0)]) hXX hBB dL_law_195 hl (by decide) rfl (fun ls hl => ?_)
    refine lv_aload_n hXX hBB dL_law_197 rfl (lv_at hl 13 rfl) ?_
    refine lv_iconst (v := nI 2) hXX hBB dL_law_198 (by decide) ?_
    refine m_iald hXX hBB hK hP 15 0 rfl rfl (i := 2) (by omega) (by decide) (x := nI dm) rfl dL_law_199 ?_
    refine lv_if_ne (tgt := 207) hXX hBB dL_law_200 (by decide) (fun c_200 => ?_) (fun c_200 => ?_)
    · have c_200 : ¬ dm = 0 := fun h9 => c_200 ((m_z (by omega)).mpr h9)
      have hdd : 0 < dm := by omega
      refine lv_iconst (v := nI 0) hXX hBB dL_law_207 (by decide) ?_
      refine lv_istore (lv' := [(16, .int (nI 0)), (15, .int (nI (((xx / 24) / 9) % (g * p)))), (14, .int (nI ((xx / 24) % (g * p)))), (13, .int (nI (g * p))), (12, .int (nI (xx / 24))), (11, .int (nI kd)), (10, .int (nI xx)), (9, .int (nI i)), (8, .int (nI 1)), (7, .ref kQ), (6, .ref kW), (5, .ref kA), (4, .ref kP), (3, .ref kR), (2, .ref kN), (1, .ref c), (0, .ref b0)]) hXX hBB dL_law_208 hl (by decide) rfl (fun ls hl => ?_)
      refine lv_iload hXX hBB dL_law_210 (lv_at hl 5 rfl) ?_
      refine lv_if_ne (tgt := 304) hXX hBB dL_law_212 (by decide) (fun c_212 => ?_) (fun c_212 => ?_)
      · have c_212 : ¬ kd = 0 := fun h9 => c_212 ((m_z (by omega)).mpr h9)
        refine lv_iload hXX hBB dL_law_304 (lv_at hl 5 rfl) ?_
        refine lv_iconst (v := nI 3) hXX hBB dL_law_306 (by decide) ?_
        refine lv_icmp_ge (tgt := 374) hXX hBB dL_law_307 (by decide) (fun c_307 => ?_) (fun c_307 => ?_)
        · have c_307 : 3 ≤ kd := (nI_leI (by omega) (by omega)).mp c_307
          refine lv_iload hXX hBB dL_law_374 (lv_at hl 5 rfl) ?_
          refine lv_iconst (v := nI 3) hXX hBB dL_law_376 (by decide) ?_
          refine lv_icmp_ne (tgt := 459) hXX hBB dL_law_377 (by decide) (fun c_377 => ?_) (fun c_377 => ?_)
          · have c_377 : ¬ kd = 3 := fun h9 => c_377 ((nI_eq (by omega) (by omega)).mpr h9)
            refine lv_iload hXX hBB dL_law_459 (lv_at hl 5 rfl) ?_
            refine lv_bipush (v := nI 8) hXX hBB dL_law_461 (by decide) ?_
            refine lv_icmp_ge (tgt := 670) hXX hBB dL_law_463 (by decide) (fun c_463 => ?_) (fun c_463 => ?_)
            · have c_463 : 8 ≤ kd := (nI_leI (by omega) (by omega)).mp c_463
              refine lv_iload hXX hBB dL_law_670 (lv_at hl 5 rfl) ?_
              refine lv_bipush (v := nI 20) hXX hBB dL_law_672 (by decide) ?_
              refine lv_icmp_ge (tgt := 919) hXX hBB dL_law_674 (by decide) (fun c_674 => ?_) (fun c_674 => ?_)
              · have c_674 : 20 ≤ kd := (nI_leI (by omega) (by omega)).mp c_674
                exact A_undo hstk C0 (by omega) (by omega) (by omega) hG hU hI hE hr0 hWQ htt hoo hP hD hS (lv_sub hl [0, 1, 2, 3, 4, 5, 7, 8, 9, 10, 11, 12, 13, 14, 15, 16] rfl) (KT (by omega))
              · have c_674 : ¬ 20 ≤ kd := fun h9 => c_674 ((nI_leI (by omega) (by omega)).mpr h9)
                exact A_draw hstk C0 (by omega) (by omega) (by omega) hG hU hI hE hr0 hWQ htt hoo hP hD hS (lv_sub hl [0, 1, 2, 3, 4, 5, 7, 8, 9, 10, 11, 12, 13, 14, 15, 16] rfl) (KT (by omega))
            · have c_463 : ¬ 8 ≤ kd := fun h9 => c_463 ((nI_leI (by omega) (by omega)).mpr h9)
              rcases Nat.lt_or_ge kd 7 with hk7 | hk7
              · skip
                exact A_pair10 hstk C0 (by omega) (by omega) (by omega) hG hU hI hE hr0 hWQ htt hoo hdd hk7 (by omega) hP hD hS (lv_sub hl [0, 1, 2, 3, 4, 5, 7, 8, 9, 10, 11, 12, 13, 14, 15, 16] rfl) (KF (by omega))
              · skip
                exact A_pair00 hstk C0 (by omega) (by omega) (by omega) hG hU hI hE hr0 hWQ htt hoo hdd hk7 (by omega) hP hD hS (lv_sub hl [0, 1, 2, 3, 4, 5, 7, 8, 9, 10, 11, 12, 13, 14, 15, 16] rfl) (KF (by omega))
          · have c_377 : kd = 3 := (nI_eq (by omega) (by omega)).mp c_377
            exact A_bound0 hstk C0 (by omega) (by omega) (by omega) hG hU hI hE hr0 hWQ htt hoo hdd hP hD hS (lv_sub hl [0, 1, 2, 3, 4, 5, 7, 8, 9, 10, 11, 12, 13, 14, 15, 16] rfl) (KF (by omega))
        · have c_307 : ¬ 3 ≤ kd := fun h9 => c_307 ((nI_leI (by omega) (by omega)).mpr h9)
          exact A_region0 hstk C0 (by omega) (by omega) (by omega) hG hU hI hE hr0 hWQ htt hoo hdd hP hD hS (lv_sub hl [0, 1, 2, 3, 4, 5, 7, 8, 9, 10, 11, 12, 13, 14, 15, 16] rfl) (KF (by omega))
      · have c_212 : kd = 0 := (m_z (by omega)).mp c_212
        exact A_lay hstk C0 (by omega) (by omega) (by omega) hG hU hI hE hr0 hWQ htt hoo hP hD hS (lv_sub hl [0, 1, 2, 3, 4, 5, 7, 8, 9, 10, 11, 12, 13, 14, 15, 16] rfl) (KF (by omega))
    · have c_200 : dm = 0 := (m_z (by omega)).mp c_200
      have hdd : dm = 0 := by omega
      refine lv_iconst (v := nI 1) hXX hBB dL_law_203 (by decide) ?_
      refine lv_goto (tgt := 208) hXX hBB dL_law_204 (by decide) ?_
      refine lv_istore (lv' := [(16, .int (nI 1)), (15, .int (nI (((xx / 24) / 9) % (g * p)))), (14, .int (nI ((xx / 24) % (g * p)))), (13, .int (nI (g * p))), (12, .int (nI (xx / 24))), (11, .int (nI kd)), (10, .int (nI xx)), (9, .int (nI i)), (8, .int (nI 1)), (7, .ref kQ), (6, .ref kW), (5, .ref kA), (4, .ref kP), (3, .ref kR), (2, .ref kN), (1, .ref c), (0, .ref b0)]) hXX hBB dL_law_208 hl (by decide) rfl (fun ls hl => ?_)
      refine lv_iload hXX hBB dL_law_210 (lv_at hl 5 rfl) ?_
      refine lv_if_ne (tgt := 304) hXX hBB dL_law_212 (by decide) (fun c_212 => ?_) (fun c_212 => ?_)
      · have c_212 : ¬ kd = 0 := fun h9 => c_212 ((m_z (by omega)).mpr h9)
        refine lv_iload hXX hBB dL_law_304 (lv_at hl 5 rfl) ?_
        refine lv_iconst (v := nI 3) hXX hBB dL_law_306 (by decide) ?_
        refine lv_icmp_ge (tgt := 374) hXX hBB dL_law_307 (by decide) (fun c_307 => ?_) (fun c_307 => ?_)
        · have c_307 : 3 ≤ kd := (nI_leI (by omega) (by omega)).mp c_307
          refine lv_iload hXX hBB dL_law_374 (lv_at hl 5 rfl) ?_
          refine lv_iconst (v := nI 3) hXX hBB dL_law_376 (by decide) ?_
          refine lv_icmp_ne (tgt := 459) hXX hBB dL_law_377 (by decide) (fun c_377 => ?_) (fun c_377 => ?_)
          · have c_377 : ¬ kd = 3 := fun h9 => c_377 ((nI_eq (by omega) (by omega)).mpr h9)
            refine lv_iload hXX hBB dL_law_459 (lv_at hl 5 rfl) ?_
            refine lv_bipush (v := nI 8) hXX hBB dL_law_461 (by decide) ?_
            refine lv_icmp_ge (tgt := 670) hXX hBB dL_law_463 (by decide) (fun c_463 => ?_) (fun c_463 => ?_)
            · have c_463 : 8 ≤ kd := (nI_leI (by omega) (by omega)).mp c_463
              refine lv_iload hXX hBB dL_law_670 (lv_at hl 5 rfl) ?_
              refine lv_bipush (v := nI 20) hXX hBB dL_law_672 (by decide) ?_
              refine lv_icmp_ge (tgt := 919) hXX hBB dL_law_674 (by decide) (fun c_674 => ?_) (fun c_674 => ?_)
              · have c_674 : 20 ≤ kd := (nI_leI (by omega) (by omega)).mp c_674
                exact A_undo hstk C0 (by omega) (by omega) (by omega) hG hU hI hE hr0 hWQ htt hoo hP hD hS (lv_sub hl [0, 1, 2, 3, 4, 5, 7, 8, 9, 10, 11, 12, 13, 14, 15, 16] rfl) (KT (by omega))
              · have c_674 : ¬ 20 ≤ kd := fun h9 => c_674 ((nI_leI (by omega) (by omega)).mpr h9)
                exact A_draw hstk C0 (by omega) (by omega) (by omega) hG hU hI hE hr0 hWQ htt hoo hP hD hS (lv_sub hl [0, 1, 2, 3, 4, 5, 7, 8, 9, 10, 11, 12, 13, 14, 15, 16] rfl) (KT (by omega))
            · have c_463 : ¬ 8 ≤ kd := fun h9 => c_463 ((nI_leI (by omega) (by omega)).mpr h9)
              rcases Nat.lt_or_ge kd 7 with hk7 | hk7
              · skip
                exact A_pair11 hstk C0 (by omega) (by omega) (by omega) hG hU hI hE hr0 hWQ htt hoo hdd hk7 (by omega) hP hD hS (lv_sub hl [0, 1, 2, 3, 4, 5, 7, 8, 9, 10, 11, 12, 13, 14, 15, 16] rfl) (KF (by omega))
              · skip
                exact A_pair01 hstk C0 (by omega) (by omega) (by omega) hG hU hI hE hr0 hWQ htt hoo hdd hk7 (by omega) hP hD hS (lv_sub hl [0, 1, 2, 3, 4, 5, 7, 8, 9, 10, 11, 12, 13, 14, 15, 16] rfl) (KF (by omega))
          · have c_377 : kd = 3 := (nI_eq (by omega) (by omega)).mp c_377
            exact A_bound1 hstk C0 (by omega) (by omega) (by omega) hG hU hI hE hr0 hWQ htt hoo hdd hP hD hS (lv_sub hl [0, 1, 2, 3, 4, 5, 7, 8, 9, 10, 11, 12, 13, 14, 15, 16] rfl) (KF (by omega))
        · have c_307 : ¬ 3 ≤ kd := fun h9 => c_307 ((nI_leI (by omega) (by omega)).mpr h9)
          exact A_region1 hstk C0 (by omega) (by omega) (by omega) hG hU hI hE hr0 hWQ htt hoo hdd hP hD hS (lv_sub hl [0, 1, 2, 3, 4, 5, 7, 8, 9, 10, 11, 12, 13, 14, 15, 16] rfl) (KF (by omega))
      · have c_212 : kd = 0 := (m_z (by omega)).mp c_212
        exact A_lay hstk C0 (by omega) (by omega) (by omega) hG hU hI hE hr0 hWQ htt hoo hP hD hS (lv_sub hl [0, 1, 2, 3, 4, 5, 7, 8, 9, 10, 11, 12, 13, 14, 15, 16] rfl) (KF (by omega))
  refine lv_iload hXX hBB dL_law_131 (lv_at hl 1 rfl) ?_
  refine lv_if_ne (tgt := 140) hXX hBB dL_law_133 (by decide) (fun c_133 => ?_) (fun c_133 => ?_)
  · have c_133 : ¬ i = 0 := fun h9 => c_133 ((m_z (by omega)).mpr h9)
    refine lv_iload hXX hBB dL_law_140 (lv_at hl 1 rfl) ?_
    refine lv_bipush (v := nI 6) hXX hBB dL_law_142 (by decide) ?_
    refine lv_icmp_ge (tgt := 157) hXX hBB dL_law_144 (by decide) (fun c_144 => ?_) (fun c_144 => ?_)
    · have c_144 : 6 ≤ i := (nI_leI (by omega) (by omega)).mp c_144
      refine lv_iload hXX hBB dL_law_157 (lv_at hl 0 rfl) ?_
      refine lv_bipush (v := nI 24) hXX hBB dL_law_159 (by decide) ?_
      refine lv_irem hXX hBB dL_law_161 (nI_ne0 (by omega) (by omega)) ?_
      refine m_top (y := nI (xx % 24)) (pk_rem (by omega) (by omega) (by omega)) ?_
      have hi_k24 : (xx % 24) < 24 := by omega
      exact J_162 (xx % 24) hi_k24 _ _ (hP.sub [0, 1, 2, 3, 4, 5, 6, 7, 8, 9, 10, 11, 12, 13, 14, 15, 16, 17, 18, 19, 20] rfl) (hD.sub [0, 1, 2, 3, 4, 5, 6, 7, 8, 9, 10, 11, 12, 13, 14, 15, 16, 17, 18, 19, 20] (by decide) rfl) hS ls (lv_sub hl [0, 1, 2, 3, 4, 5, 6, 7, 8, 9, 10] rfl)
    · have c_144 : ¬ 6 ≤ i := fun h9 => c_144 ((nI_leI (by omega) (by omega)).mpr h9)
      refine lv_iconst (v := nI 1) hXX hBB dL_law_147 (by decide) ?_
      refine lv_iload hXX hBB dL_law_148 (lv_at hl 0 rfl) ?_
      refine lv_bipush (v := nI 7) hXX hBB dL_law_150 (by decide) ?_
      refine lv_irem hXX hBB dL_law_152 (nI_ne0 (by omega) (by omega)) ?_
      refine m_top (y := nI (xx % 7)) (pk_rem (by omega) (by omega) (by omega)) ?_
      refine lv_iadd hXX hBB dL_law_153 ?_
      refine m_top (y := nI (1 + (xx % 7))) (nI_add _ _) ?_
      refine lv_goto (tgt := 162) hXX hBB dL_law_154 (by decide) ?_
      have hi_k24 : (1 + (xx % 7)) < 24 := by omega
      exact J_162 (1 + (xx % 7)) hi_k24 _ _ (hP.sub [0, 1, 2, 3, 4, 5, 6, 7, 8, 9, 10, 11, 12, 13, 14, 15, 16, 17, 18, 19, 20] rfl) (hD.sub [0, 1, 2, 3, 4, 5, 6, 7, 8, 9, 10, 11, 12, 13, 14, 15, 16, 17, 18, 19, 20] (by decide) rfl) hS ls (lv_sub hl [0, 1, 2, 3, 4, 5, 6, 7, 8, 9, 10] rfl)
  · have c_133 : i = 0 := (m_z (by omega)).mp c_133
    refine lv_iconst (v := nI 0) hXX hBB dL_law_136 (by decide) ?_
    refine lv_goto (tgt := 162) hXX hBB dL_law_137 (by decide) ?_
    have hi_k24 : 0 < 24 := by omega
    exact J_162 0 hi_k24 _ _ (hP.sub [0, 1, 2, 3, 4, 5, 6, 7, 8, 9, 10, 11, 12, 13, 14, 15, 16, 17, 18, 19, 20] rfl) (hD.sub [0, 1, 2, 3, 4, 5, 6, 7, 8, 9, 10, 11, 12, 13, 14, 15, 16, 17, 18, 19, 20] (by decide) rfl) hS ls (lv_sub hl [0, 1, 2, 3, 4, 5, 6, 7, 8, 9, 10] rfl)
