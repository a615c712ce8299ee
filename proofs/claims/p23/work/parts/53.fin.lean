set_option maxHeartbeats 4000000 in
set_option maxRecDepth 100000 in
theorem A_fin1 {l : Launch} (hstk : l.stackTraces = false) {pR : Program} {eV : Env} {sT : State} {mI : MethodId} {below : List Frame} {meth : Method} {cO : Code} {QQ : State → Prop} {D : va_G} {cI cJ : ClassId} {AA : Nat → Prop} {b0 L : Nat} {xs : Nat → Int32} (C0 : lwC pR sT mI cO D cI cJ AA b0 L xs) {y kd i cells slots : Nat} (hy : y < 2 ^ 31) (hkd : kd < 8) (hk24 : kd < 24) (hrc : cells + 910 ≤ 617858) (hrs : slots + 3300 ≤ 7247893) {c b bR bB bA bO bP bM ol oa el ea aSe aDt aOb kN kR kP kA kW kQ : Nat} {H : Heap} {locs : List Loc} {ls : Array Slot} (hO : LOk D cI cJ AA false c b bR bB bA bO bP bM ol oa el ea aSe aDt aOb kN kR kP kA kW kQ H) (hS : va_S AA sT.heap H locs) (hl : lv_has ls 24 [(12, .int (nI y)), (11, .int (nI kd)), (9, .int (nI i)), (8, .int (nI 1)), (7, .ref kQ), (6, .ref kW), (5, .ref kA), (4, .ref kP), (3, .ref kR), (2, .ref kN), (1, .ref c), (0, .ref b0)])
    (KK : ∀ (H : Heap) (locs : List Loc) (ls : Array Slot), LOk D cI cJ AA true c b bR bB bA bO bP bM ol oa el ea aSe aDt aOb kN kR kP kA kW kQ H → va_S AA sT.heap H locs → lv_has ls 24 [(9, .int (nI i)), (8, .int (nI 1)), (7, .ref kQ), (6, .ref kW), (5, .ref kA), (4, .ref kP), (3, .ref kR), (2, .ref kN), (1, .ref c), (0, .ref b0)] → W pR l eV room_1 sT mI #[Value.ref b0] below meth cO H locs (cells + 910) (slots + 3300) QQ (F0 mI 1025 ls [])) :
    W pR l eV room_1 sT mI #[Value.ref b0] below meth cO H locs cells slots QQ (F0 mI 979 ls []) := by
  obtain ⟨hXX, hBB, hml, hown, hts, hN, hXs, hK, hscr, hbl, hbA, hL, hAA, hc137, hc138, harI, harJ⟩ := id C0
  obtain ⟨fo, fe, dm, g, p, rg, bd, ap, od, pm, mb, n, f, ne, fl, S, dt, ob9, ab, ob, dtm, fa, wm, qm, hG, hU, hI, hE, hr0, hZ, hP, hD⟩ := hO
  obtain ⟨⟨hg2, hg4⟩, ⟨hp2, hp3⟩, hT⟩ := id hG
  obtain ⟨hrg, hbd, hRR, hap, hod, hpm, hmb4⟩ := id hU
  have hmb : ∀ z, z < g → mb z = 0 := fun z hz => hmb4 z (by omega)
  obtain ⟨⟨hV, hdmT⟩, hdt9, hH, hro, hfo0⟩ := id hI
  have hg0 : 0 < g := by omega
  have hp0 : 0 < p := by omega
  have h0 : 0 < g * p := Nat.mul_pos hg0 hp0
  have hdm9 : dm ≤ 9 := Nat.le_trans hdmT hT
  have hext := LI_ext hG hU
  have hrn : fo = false → ∀ w, extN g rg bd ap od (g * p) 0 0 w = RS g p rg bd ab ob S w := fun q w => LI_rn hG hU hI q w
  have hfp := facp_le hg2 hg4 hp2 hp3 hT
  have hre : fe = true → EndR fl ne g p rg bd ab ob S dm := hE
  have hdtc : 0 < dm → dt (dm - 1) < 9 := fun q => LS_dt hI hT q
  have hs : SV g p S := SV_mk hg0 hg4 hV hr0
  have hrg5 : ∀ z, z < 9 → rg z ≤ 5 := fun z hz => Nat.le_of_lt_succ (hrg z hz)
  have hbd3 : ∀ z, z < 6 → bd z ≤ 3 := fun z hz => Nat.le_of_lt_succ (hbd z hz)
  have hrs9 : rsN g p rg bd ab ob S ≤ 576 := by rw [rsA hg0 hg4]; exact Nat.le_trans (ct_le _ _) hfp
  have hmm : MM g p S (layM g p S) := lay_MM g p S
  refine lv_iload hXX hBB dL_law_979 (lv_at hl 1 rfl) ?_
  refine lv_bipush (v := nI 8) hXX hBB dL_law_981 (by decide) ?_
  refine lv_icmp_ge (tgt := 997) hXX hBB dL_law_983 (by decide) (fun c_983 => ?_) (fun c_983 => ?_)
  · have c_983 : 8 ≤ kd := (nI_leI (by omega) (by omega)).mp c_983
    omega
  · have c_983 : ¬ 8 ≤ kd := fun h9 => c_983 ((nI_leI (by omega) (by omega)).mpr h9)
    refine lv_aload_n hXX hBB dL_law_986 rfl (lv_at hl 9 rfl) ?_
    refine lv_aload_n hXX hBB dL_law_987 rfl (lv_at hl 8 rfl) ?_
    refine lv_aload hXX hBB dL_law_988 (lv_at hl 6 rfl) ?_
    refine lv_aload hXX hBB dL_law_990 (lv_at hl 5 rfl) ?_
    refine lv_aload hXX hBB dL_law_992 (lv_at hl 4 rfl) ?_
    refine m_scallv (wr := [(c, .inr (2, [.ref b, .ref ol, .int (bI fo), .ref el, .int (bI fe), .ref aSe, .ref aDt, .ref aOb, .int (nI dm)])), (b, .inr (0, [.int (nI g), .int (nI p), .int (nI (g * p)), .ref bR, .ref bB, .ref bA, .ref bO, .ref bP, .ref bM])), (bR, .inl (cI, 9, .inl (fun j => nI (rg j)))), (bB, .inl (cI, 6, .inl (fun j => nI (bd j)))), (bA, .inl (cI, 9, .inl (fun j => nI (ap j)))), (bO, .inl (cI, 9, .inl (fun j => nI (od j)))), (bP, .inl (cI, 9, .inl (fun j => nI (pm j)))), (bM, .inl (cI, 4, .inl (fun j => nI (mb j)))), (ol, .inr (1, [.ref oa, .int (nI n)])), (oa, .inl (cI, 576, .inl (fun j => nI (f j)))), (el, .inr (1, [.ref ea, .int (nI ne)])), (ea, .inl (cI, 576, .inl (fun j => nI (fl j)))), (aSe, .inl (cI, 9, .inl S)), (aDt, .inl (cI, 9, .inl (fun j => nI (dt j)))), (aOb, .inl (cI, 9, .inl (fun j => nI (ob9 j)))), (kP, .inl (cI, 18, .inl (fun j => pA S dtm j)))]) ⟨hXX, hBB, hml, hown, hts⟩ hN (kL_finds l D cI cJ kN g p dm fa kR rg bd kA ap od kW wm kQ qm ab ob (by first | assumption | omega) (by exact hrg5) (by exact hbd3) (by exact hRR)) (va_cwS 5 hts gL_law_L_finds rfl rfl rfl (by decide +kernel) ⟨Nat.le_of_ble_eq_true rfl, Nat.le_of_ble_eq_true rfl⟩) hK hP hD hS hAA [15, 16, 18, 19, 20] [0, 1, 2, 3, 4, 5, 6, 7, 8, 9, 10, 11, 12, 13, 14, 17] [0, 1] rfl rfl rfl (by decide) (by decide) (by decide) rfl hl.1 rfl (Nat.le_of_ble_eq_true rfl) dL_law_994 ⟨show (cells + 1) ≤ 617858 from by omega, show (slots + 9) ≤ 7247893 from by omega⟩ (k := (cells + 1)) (n := (slots + 9)) rfl rfl (fun  u_ H locs hw hP hD hS => ?_)
    obtain ⟨w9, q9m⟩ := u_
    have hw : (WM g p rg bd ab ob w9) ∧ (QM g q9m) := hw
    obtain ⟨eW, eQ⟩ := hw
    have hP : va_P D vwCl [(c, .inr (2, [.ref b, .ref ol, .int (bI fo), .ref el, .int (bI fe), .ref aSe, .ref aDt, .ref aOb, .int (nI dm)])), (b, .inr (0, [.int (nI g), .int (nI p), .int (nI (g * p)), .ref bR, .ref bB, .ref bA, .ref bO, .ref bP, .ref bM])), (bR, .inl (cI, 9, .inl (fun j => nI (rg j)))), (bB, .inl (cI, 6, .inl (fun j => nI (bd j)))), (bA, .inl (cI, 9, .inl (fun j => nI (ap j)))), (bO, .inl (cI, 9, .inl (fun j => nI (od j)))), (bP, .inl (cI, 9, .inl (fun j => nI (pm j)))), (bM, .inl (cI, 4, .inl (fun j => nI (mb j)))), (ol, .inr (1, [.ref oa, .int (nI n)])), (oa, .inl (cI, 576, .inl (fun j => nI (f j)))), (el, .inr (1, [.ref ea, .int (nI ne)])), (ea, .inl (cI, 576, .inl (fun j => nI (fl j)))), (aSe, .inl (cI, 9, .inl S)), (aDt, .inl (cI, 9, .inl (fun j => nI (dt j)))), (aOb, .inl (cI, 9, .inl (fun j => nI (ob9 j)))), (kP, .inl (cI, 18, .inl (fun j => pA S dtm j))), (kN, .inl (cI, 4, .inl (fun j => nI (nA g p dm (fac g) j)))), (kR, .inl (cI, 15, .inl (fun j => nI (rA rg bd j)))), (kA, .inl (cI, 18, .inl (fun j => nI (rA ap od j)))), (kW, .inl (cJ, 36, .inr (.inl (fun j => lN (w9 j))))), (kQ, .inl (cJ, 16, .inr (.inl (fun j => lN (q9m j)))))] H := hP
    have hD : va_D AA [(c, .inr (2, [.ref b, .ref ol, .int (bI fo), .ref el, .int (bI fe), .ref aSe, .ref aDt, .ref aOb, .int (nI dm)])), (b, .inr (0, [.int (nI g), .int (nI p), .int (nI (g * p)), .ref bR, .ref bB, .ref bA, .ref bO, .ref bP, .ref bM])), (bR, .inl (cI, 9, .inl (fun j => nI (rg j)))), (bB, .inl (cI, 6, .inl (fun j => nI (bd j)))), (bA, .inl (cI, 9, .inl (fun j => nI (ap j)))), (bO, .inl (cI, 9, .inl (fun j => nI (od j)))), (bP, .inl (cI, 9, .inl (fun j => nI (pm j)))), (bM, .inl (cI, 4, .inl (fun j => nI (mb j)))), (ol, .inr (1, [.ref oa, .int (nI n)])), (oa, .inl (cI, 576, .inl (fun j => nI (f j)))), (el, .inr (1, [.ref ea, .int (nI ne)])), (ea, .inl (cI, 576, .inl (fun j => nI (fl j)))), (aSe, .inl (cI, 9, .inl S)), (aDt, .inl (cI, 9, .inl (fun j => nI (dt j)))), (aOb, .inl (cI, 9, .inl (fun j => nI (ob9 j)))), (kP, .inl (cI, 18, .inl (fun j => pA S dtm j))), (kN, .inl (cI, 4, .inl (fun j => nI (nA g p dm (fac g) j)))), (kR, .inl (cI, 15, .inl (fun j => nI (rA rg bd j)))), (kA, .inl (cI, 18, .inl (fun j => nI (rA ap od j)))), (kW, .inl (cJ, 36, .inr (.inl (fun j => lN (w9 j))))), (kQ, .inl (cJ, 16, .inr (.inl (fun j => lN (q9m j)))))] := hD
    have hWQ : WM g p rg bd ab ob w9 ∧ QM g q9m := ⟨eW, eQ⟩
    refine lv_iload hXX hBB dL_law_997 (lv_at hl 3 rfl) ?_
    refine lv_if_eq (tgt := 1022) hXX hBB dL_law_999 (by decide) (fun c_999 => ?_) (fun c_999 => ?_)
    · exact absurd c_999 (by decide)
    · have c_999 : ¬ 1 = 0 := fun h9 => c_999 ((m_z (by omega)).mpr h9)
      refine lv_aload_n hXX hBB dL_law_1002 rfl (lv_at hl 10 rfl) ?_
      refine lv_aload_n hXX hBB dL_law_1003 rfl (lv_at hl 9 rfl) ?_
      refine lv_aload hXX hBB dL_law_1004 (lv_at hl 7 rfl) ?_
      refine lv_aload hXX hBB dL_law_1006 (lv_at hl 5 rfl) ?_
      refine lv_aload hXX hBB dL_law_1008 (lv_at hl 4 rfl) ?_
      refine lv_iload hXX hBB dL_law_1010 (lv_at hl 0 rfl) ?_
      refine m_spcalli (wr := [(kR, .inl (cI, 15, .inl (fun j => nI (rA rg bd j)))), (kA, .inl (cI, 18, .inl (fun j => nI (rA ap od j))))]) ⟨hXX, hBB, hml, hown, hts⟩ hN hXs (kL_isDraw l hstk D cI cJ c b bR bB bA bO bP bM ol oa el ea aSe aDt aOb fo fe dm g p rg bd ap od pm mb n f ne fl S dt ob9 kN kP kW kQ dtm w9 q9m y ab ob (by first | assumption | omega) (by first | assumption | omega) (by first | assumption | omega) (by first | assumption | omega) (by first | assumption | omega) (by exact hWQ.1) (by exact hWQ.2) (by omega)) (va_cwS 6 hts gL_law_L_isDraw rfl rfl rfl (by decide +kernel) ⟨Nat.le_of_ble_eq_true rfl, Nat.le_of_ble_eq_true rfl⟩) hK hP hD hS hAA [0, 1, 2, 3, 4, 5, 6, 7, 8, 9, 10, 11, 12, 13, 14, 16, 15, 19, 20] [17, 18] [0, 1] rfl rfl rfl (by decide) (by decide) (by decide) rfl hl.1 rfl (Nat.le_of_ble_eq_true rfl) dL_law_1012 ⟨show ((cells + 1) + 900) ≤ 617858 from by omega, show ((slots + 9) + 3200) ≤ 7247893 from by omega⟩ (k := ((cells + 1) + 900)) (n := ((slots + 9) + 3200)) rfl rfl (fun r_8 u_ H locs hw hP hD hS => ?_)
      obtain ⟨fo2_1, fq_2, k_3, fl2_4, ne2_5, dt2_6, ob2_7⟩ := u_
      have hw : (r_8 = nI 1) ∧ (LSt g p dm rg bd ab ob S fo2_1 k_3 fq_2 dt2_6 ob2_7 dtm) ∧ (LEn g p dm rg bd ab ob S true ne2_5 fl2_4) := hw
      obtain ⟨hr_r_8, I9, E9⟩ := hw
      have hP : va_P D vwCl [(kR, .inl (cI, 15, .inl (fun j => nI (rA rg bd j)))), (kA, .inl (cI, 18, .inl (fun j => nI (rA ap od j)))), (c, .inr (2, [.ref b, .ref ol, .int (bI fo2_1), .ref el, .int (bI true), .ref aSe, .ref aDt, .ref aOb, .int (nI dm)])), (b, .inr (0, [.int (nI g), .int (nI p), .int (nI (g * p)), .ref bR, .ref bB, .ref bA, .ref bO, .ref bP, .ref bM])), (bR, .inl (cI, 9, .inl (fun j => nI (rg j)))), (bB, .inl (cI, 6, .inl (fun j => nI (bd j)))), (bA, .inl (cI, 9, .inl (fun j => nI (ap j)))), (bO, .inl (cI, 9, .inl (fun j => nI (od j)))), (bP, .inl (cI, 9, .inl (fun j => nI (pm j)))), (bM, .inl (cI, 4, .inl (fun j => nI (mb j)))), (ol, .inr (1, [.ref oa, .int (nI k_3)])), (oa, .inl (cI, 576, .inl (fun j => nI (fq_2 j)))), (el, .inr (1, [.ref ea, .int (nI ne2_5)])), (ea, .inl (cI, 576, .inl (fun j => nI (fl2_4 j)))), (aSe, .inl (cI, 9, .inl S)), (aDt, .inl (cI, 9, .inl (fun j => nI (dt2_6 j)))), (aOb, .inl (cI, 9, .inl (fun j => nI (ob2_7 j)))), (kN, .inl (cI, 4, .inl (fun j => nI (nA g p dm (fac g) j)))), (kP, .inl (cI, 18, .inl (fun j => pA S dtm j))), (kW, .inl (cJ, 36, .inr (.inl (fun j => lN (w9 j))))), (kQ, .inl (cJ, 16, .inr (.inl (fun j => lN (q9m j)))))] H := hP
      have hD : va_D AA [(kR, .inl (cI, 15, .inl (fun j => nI (rA rg bd j)))), (kA, .inl (cI, 18, .inl (fun j => nI (rA ap od j)))), (c, .inr (2, [.ref b, .ref ol, .int (bI fo2_1), .ref el, .int (bI true), .ref aSe, .ref aDt, .ref aOb, .int (nI dm)])), (b, .inr (0, [.int (nI g), .int (nI p), .int (nI (g * p)), .ref bR, .ref bB, .ref bA, .ref bO, .ref bP, .ref bM])), (bR, .inl (cI, 9, .inl (fun j => nI (rg j)))), (bB, .inl (cI, 6, .inl (fun j => nI (bd j)))), (bA, .inl (cI, 9, .inl (fun j => nI (ap j)))), (bO, .inl (cI, 9, .inl (fun j => nI (od j)))), (bP, .inl (cI, 9, .inl (fun j => nI (pm j)))), (bM, .inl (cI, 4, .inl (fun j => nI (mb j)))), (ol, .inr (1, [.ref oa, .int (nI k_3)])), (oa, .inl (cI, 576, .inl (fun j => nI (fq_2 j)))), (el, .inr (1, [.ref ea, .int (nI ne2_5)])), (ea, .inl (cI, 576, .inl (fun j => nI (fl2_4 j)))), (aSe, .inl (cI, 9, .inl S)), (aDt, .inl (cI, 9, .inl (fun j => nI (dt2_6 j)))), (aOb, .inl (cI, 9, .inl (fun j => nI (ob2_7 j)))), (kN, .inl (cI, 4, .inl (fun j => nI (nA g p dm (fac g) j)))), (kP, .inl (cI, 18, .inl (fun j => pA S dtm j))), (kW, .inl (cJ, 36, .inr (.inl (fun j => lN (w9 j))))), (kQ, .inl (cJ, 16, .inr (.inl (fun j => lN (q9m j)))))] := hD
      subst hr_r_8
      refine lv_if_eq (tgt := 1022) hXX hBB dL_law_1015 (by decide) (fun c_1015 => ?_) (fun c_1015 => ?_)
      · exact absurd c_1015 (by decide)
      · have c_1015 : ¬ 1 = 0 := fun h9 => c_1015 ((m_z (by omega)).mpr h9)
        refine lv_iconst (v := nI 1) hXX hBB dL_law_1018 (by decide) ?_
        refine lv_goto (tgt := 1023) hXX hBB dL_law_1019 (by decide) ?_
        refine lv_istore (lv' := [(8, .int (nI 1)), (12, .int (nI y)), (11, .int (nI kd)), (9, .int (nI i)), (7, .ref kQ), (6, .ref kW), (5, .ref kA), (4, .ref kP), (3, .ref kR), (2, .ref kN), (1, .ref c), (0, .ref b0)]) hXX hBB dL_law_1023 hl (by decide) rfl (fun ls hl => ?_)
        refine W.widen (k := (cells + 910)) (n := (slots + 3300)) (by omega) (by omega) ?_
        exact KK _ _ _ (LOk_mk fo2_1 true dm g p rg bd ap od pm mb k_3 fq_2 ne2_5 fl2_4 S dt2_6 ob2_7 ab ob dtm (fac g) w9 q9m hG hU I9 E9 hr0 (fun _ => ⟨rfl, hWQ⟩) (hP.sub [2, 3, 4, 5, 6, 7, 8, 9, 10, 11, 12, 13, 14, 15, 16, 17, 0, 18, 1, 19, 20] rfl) (hD.sub [2, 3, 4, 5, 6, 7, 8, 9, 10, 11, 12, 13, 14, 15, 16, 17, 0, 18, 1, 19, 20] (by decide) rfl)) hS (lv_sub hl [3, 0, 4, 5, 6, 7, 8, 9, 10, 11] rfl)
set_option maxHeartbeats 4000000 in
set_option maxRecDepth 100000 in
theorem A_fin2 {l : Launch} (hstk : l.stackTraces = false) {pR : Program} {eV : Env} {sT : State} {mI : MethodId} {below : List Frame} {meth : Method} {cO : Code} {QQ : State → Prop} {D : va_G} {cI cJ : ClassId} {AA : Nat → Prop} {b0 L : Nat} {xs : Nat → Int32} (C0 : lwC pR sT mI cO D cI cJ AA b0 L xs) {y kd i cells slots : Nat} (hy : y < 2 ^ 31) (hkd : 8 ≤ kd) (hk24 : kd < 24) (hrc : cells + 910 ≤ 617858) (hrs : slots + 3300 ≤ 7247893) {c b bR bB bA bO bP bM ol oa el ea aSe aDt aOb kN kR kP kA kW kQ : Nat} {H : Heap} {locs : List Loc} {ls : Array Slot} (hO : LOk D cI cJ AA true c b bR bB bA bO bP bM ol oa el ea aSe aDt aOb kN kR kP kA kW kQ H) (hS : va_S AA sT.heap H locs) (hl : lv_has ls 24 [(12, .int (nI y)), (11, .int (nI kd)), (9, .int (nI i)), (8, .int (nI 1)), (7, .ref kQ), (6, .ref kW), (5, .ref kA), (4, .ref kP), (3, .ref kR), (2, .ref kN), (1, .ref c), (0, .ref b0)])
    (KK : ∀ (H : Heap) (locs : List Loc) (ls : Array Slot), LOk D cI cJ AA true c b bR bB bA bO bP bM ol oa el ea aSe aDt aOb kN kR kP kA kW kQ H → va_S AA sT.heap H locs → lv_has ls 24 [(9, .int (nI i)), (8, .int (nI 1)), (7, .ref kQ), (6, .ref kW), (5, .ref kA), (4, .ref kP), (3, .ref kR), (2, .ref kN), (1, .ref c), (0, .ref b0)] → W pR l eV room_1 sT mI #[Value.ref b0] below meth cO H locs (cells + 910) (slots + 3300) QQ (F0 mI 1025 ls [])) :
    W pR l eV room_1 sT mI #[Value.ref b0] below meth cO H locs cells slots QQ (F0 mI 979 ls []) := by
  obtain ⟨hXX, hBB, hml, hown, hts, hN, hXs, hK, hscr, hbl, hbA, hL, hAA, hc137, hc138, harI, harJ⟩ := id C0
  obtain ⟨fo, fe, dm, g, p, rg, bd, ap, od, pm, mb, n, f, ne, fl, S, dt, ob9, ab, ob, dtm, fa, wm, qm, hG, hU, hI, hE, hr0, hZ, hP, hD⟩ := hO
  obtain ⟨⟨hg2, hg4⟩, ⟨hp2, hp3⟩, hT⟩ := id hG
  obtain ⟨hrg, hbd, hRR, hap, hod, hpm, hmb4⟩ := id hU
  have hmb : ∀ z, z < g → mb z = 0 := fun z hz => hmb4 z (by omega)
  obtain ⟨⟨hV, hdmT⟩, hdt9, hH, hro, hfo0⟩ := id hI
  have hg0 : 0 < g := by omega
  have hp0 : 0 < p := by omega
  have h0 : 0 < g * p := Nat.mul_pos hg0 hp0
  have hdm9 : dm ≤ 9 := Nat.le_trans hdmT hT
  have hext := LI_ext hG hU
  have hrn : fo = false → ∀ w, extN g rg bd ap od (g * p) 0 0 w = RS g p rg bd ab ob S w := fun q w => LI_rn hG hU hI q w
  have hfp := facp_le hg2 hg4 hp2 hp3 hT
  have hre : fe = true → EndR fl ne g p rg bd ab ob S dm := hE
  have hdtc : 0 < dm → dt (dm - 1) < 9 := fun q => LS_dt hI hT q
  have hs : SV g p S := SV_mk hg0 hg4 hV hr0
  have hrg5 : ∀ z, z < 9 → rg z ≤ 5 := fun z hz => Nat.le_of_lt_succ (hrg z hz)
  have hbd3 : ∀ z, z < 6 → bd z ≤ 3 := fun z hz => Nat.le_of_lt_succ (hbd z hz)
  have hrs9 : rsN g p rg bd ab ob S ≤ 576 := by rw [rsA hg0 hg4]; exact Nat.le_trans (ct_le _ _) hfp
  have hmm : MM g p S (layM g p S) := lay_MM g p S
  obtain ⟨hfa, hWQ⟩ := hZ rfl
  subst hfa
  refine lv_iload hXX hBB dL_law_979 (lv_at hl 1 rfl) ?_
  refine lv_bipush (v := nI 8) hXX hBB dL_law_981 (by decide) ?_
  refine lv_icmp_ge (tgt := 997) hXX hBB dL_law_983 (by decide) (fun c_983 => ?_) (fun c_983 => ?_)
  · have c_983 : 8 ≤ kd := (nI_leI (by omega) (by omega)).mp c_983
    refine lv_iload hXX hBB dL_law_997 (lv_at hl 3 rfl) ?_
    refine lv_if_eq (tgt := 1022) hXX hBB dL_law_999 (by decide) (fun c_999 => ?_) (fun c_999 => ?_)
    · exact absurd c_999 (by decide)
    · have c_999 : ¬ 1 = 0 := fun h9 => c_999 ((m_z (by omega)).mpr h9)
      refine lv_aload_n hXX hBB dL_law_1002 rfl (lv_at hl 10 rfl) ?_
      refine lv_aload_n hXX hBB dL_law_1003 rfl (lv_at hl 9 rfl) ?_
      refine lv_aload hXX hBB dL_law_1004 (lv_at hl 7 rfl) ?_
      refine lv_aload hXX hBB dL_law_1006 (lv_at hl 5 rfl) ?_
      refine lv_aload hXX hBB dL_law_1008 (lv_at hl 4 rfl) ?_
      refine lv_iload hXX hBB dL_law_1010 (lv_at hl 0 rfl) ?_
      refine m_spcalli (wr := [(kR, .inl (cI, 15, .inl (fun j => nI (rA rg bd j)))), (kA, .inl (cI, 18, .inl (fun j => nI (rA ap od j))))]) ⟨hXX, hBB, hml, hown, hts⟩ hN hXs (kL_isDraw l hstk D cI cJ c b bR bB bA bO bP bM ol oa el ea aSe aDt aOb fo fe dm g p rg bd ap od pm mb n f ne fl S dt ob9 kN kP kW kQ dtm wm qm y ab ob (by first | assumption | omega) (by first | assumption | omega) (by first | assumption | omega) (by first | assumption | omega) (by first | assumption | omega) (by exact hWQ.1) (by exact hWQ.2) (by omega)) (va_cwS 6 hts gL_law_L_isDraw rfl rfl rfl (by decide +kernel) ⟨Nat.le_of_ble_eq_true rfl, Nat.le_of_ble_eq_true rfl⟩) hK hP hD hS hAA [0, 1, 2, 3, 4, 5, 6, 7, 8, 9, 10, 11, 12, 13, 14, 15, 17, 19, 20] [16, 18] [0, 1] rfl rfl rfl (by decide) (by decide) (by decide) rfl hl.1 rfl (Nat.le_of_ble_eq_true rfl) dL_law_1012 ⟨show (cells + 900) ≤ 617858 from by omega, show (slots + 3200) ≤ 7247893 from by omega⟩ (k := (cells + 900)) (n := (slots + 3200)) rfl rfl (fun r_8 u_ H locs hw hP hD hS => ?_)
      obtain ⟨fo2_1, fq_2, k_3, fl2_4, ne2_5, dt2_6, ob2_7⟩ := u_
      have hw : (r_8 = nI 1) ∧ (LSt g p dm rg bd ab ob S fo2_1 k_3 fq_2 dt2_6 ob2_7 dtm) ∧ (LEn g p dm rg bd ab ob S true ne2_5 fl2_4) := hw
      obtain ⟨hr_r_8, I9, E9⟩ := hw
      have hP : va_P D vwCl [(kR, .inl (cI, 15, .inl (fun j => nI (rA rg bd j)))), (kA, .inl (cI, 18, .inl (fun j => nI (rA ap od j)))), (c, .inr (2, [.ref b, .ref ol, .int (bI fo2_1), .ref el, .int (bI true), .ref aSe, .ref aDt, .ref aOb, .int (nI dm)])), (b, .inr (0, [.int (nI g), .int (nI p), .int (nI (g * p)), .ref bR, .ref bB, .ref bA, .ref bO, .ref bP, .ref bM])), (bR, .inl (cI, 9, .inl (fun j => nI (rg j)))), (bB, .inl (cI, 6, .inl (fun j => nI (bd j)))), (bA, .inl (cI, 9, .inl (fun j => nI (ap j)))), (bO, .inl (cI, 9, .inl (fun j => nI (od j)))), (bP, .inl (cI, 9, .inl (fun j => nI (pm j)))), (bM, .inl (cI, 4, .inl (fun j => nI (mb j)))), (ol, .inr (1, [.ref oa, .int (nI k_3)])), (oa, .inl (cI, 576, .inl (fun j => nI (fq_2 j)))), (el, .inr (1, [.ref ea, .int (nI ne2_5)])), (ea, .inl (cI, 576, .inl (fun j => nI (fl2_4 j)))), (aSe, .inl (cI, 9, .inl S)), (aDt, .inl (cI, 9, .inl (fun j => nI (dt2_6 j)))), (aOb, .inl (cI, 9, .inl (fun j => nI (ob2_7 j)))), (kN, .inl (cI, 4, .inl (fun j => nI (nA g p dm (fac g) j)))), (kP, .inl (cI, 18, .inl (fun j => pA S dtm j))), (kW, .inl (cJ, 36, .inr (.inl (fun j => lN (wm j))))), (kQ, .inl (cJ, 16, .inr (.inl (fun j => lN (qm j)))))] H := hP
      have hD : va_D AA [(kR, .inl (cI, 15, .inl (fun j => nI (rA rg bd j)))), (kA, .inl (cI, 18, .inl (fun j => nI (rA ap od j)))), (c, .inr (2, [.ref b, .ref ol, .int (bI fo2_1), .ref el, .int (bI true), .ref aSe, .ref aDt, .ref aOb, .int (nI dm)])), (b, .inr (0, [.int (nI g), .int (nI p), .int (nI (g * p)), .ref bR, .ref bB, .ref bA, .ref bO, .ref bP, .ref bM])), (bR, .inl (cI, 9, .inl (fun j => nI (rg j)))), (bB, .inl (cI, 6, .inl (fun j => nI (bd j)))), (bA, .inl (cI, 9, .inl (fun j => nI (ap j)))), (bO, .inl (cI, 9, .inl (fun j => nI (od j)))), (bP, .inl (cI, 9, .inl (fun j => nI (pm j)))), (bM, .inl (cI, 4, .inl (fun j => nI (mb j)))), (ol, .inr (1, [.ref oa, .int (nI k_3)])), (oa, .inl (cI, 576, .inl (fun j => nI (fq_2 j)))), (el, .inr (1, [.ref ea, .int (nI ne2_5)])), (ea, .inl (cI, 576, .inl (fun j => nI (fl2_4 j)))), (aSe, .inl (cI, 9, .inl S)), (aDt, .inl (cI, 9, .inl (fun j => nI (dt2_6 j)))), (aOb, .inl (cI, 9, .inl (fun j => nI (ob2_7 j)))), (kN, .inl (cI, 4, .inl (fun j => nI (nA g p dm (fac g) j)))), (kP, .inl (cI, 18, .inl (fun j => pA S dtm j))), (kW, .inl (cJ, 36, .inr (.inl (fun j => lN (wm j))))), (kQ, .inl (cJ, 16, .inr (.inl (fun j => lN (qm j)))))] := hD
      subst hr_r_8
      refine lv_if_eq (tgt := 1022) hXX hBB dL_law_1015 (by decide) (fun c_1015 => ?_) (fun c_1015 => ?_)
      · exact absurd c_1015 (by decide)
      · have c_1015 : ¬ 1 = 0 := fun h9 => c_1015 ((m_z (by omega)).mpr h9)
        refine lv_iconst (v := nI 1) hXX hBB dL_law_1018 (by decide) ?_
        refine lv_goto (tgt := 1023) hXX hBB dL_law_1019 (by decide) ?_
        refine lv_istore (lv' := [(8, .int (nI 1)), (12, .int (nI y)), (11, .int (nI kd)), (9, .int (nI i)), (7, .ref kQ), (6, .ref kW), (5, .ref kA), (4, .ref kP), (3, .ref kR), (2, .ref kN), (1, .ref c), (0, .ref b0)]) hXX hBB dL_law_1023 hl (by decide) rfl (fun ls hl => ?_)
        refine W.widen (k := (cells + 910)) (n := (slots + 3300)) (by omega) (by omega) ?_
        exact KK _ _ _ (LOk_mk fo2_1 true dm g p rg bd ap od pm mb k_3 fq_2 ne2_5 fl2_4 S dt2_6 ob2_7 ab ob dtm (fac g) wm qm hG hU I9 E9 hr0 (fun _ => ⟨rfl, hWQ⟩) (hP.sub [2, 3, 4, 5, 6, 7, 8, 9, 10, 11, 12, 13, 14, 15, 16, 17, 0, 18, 1, 19, 20] rfl) (hD.sub [2, 3, 4, 5, 6, 7, 8, 9, 10, 11, 12, 13, 14, 15, 16, 17, 0, 18, 1, 19, 20] (by decide) rfl)) hS (lv_sub hl [3, 0, 4, 5, 6, 7, 8, 9, 10, 11] rfl)
  · have c_983 : ¬ 8 ≤ kd := fun h9 => c_983 ((nI_leI (by omega) (by omega)).mpr h9)
    omega
