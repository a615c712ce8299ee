set_option maxHeartbeats 4000000 in
set_option maxRecDepth 100000 in
theorem whole_start {p : Program} {e : Env} {s : State} {m : MethodId} {below : List Frame} {meth : Method} {c : Code} (l : Launch) (hflags : l.flags = flags0) {b0s L : Nat} {xs : Nat → Int32} (hL : L ≤ 260) (C0 : lw_At p s m meth c b0s L xs) : W p l e room_1 s m #[Value.ref b0s] below meth c s.heap [] 0 0 (lw_Z below #[Value.ref b0s] s) (entryFrame m ([Value.ref b0s] : List Value).toArray 24) := by
  obtain ⟨hXX, hBB, hr, hml, hown, htsT, hscr, hbl, hlocks, hgv⟩ := id C0
  have hstk : l.stackTraces = false := by unfold Launch.stackTraces; rw [hflags]; decide +kernel
  have htT : ∀ w ∈ tables_1, w.before #[Value.ref b0s] s = true := fun w h => htsT w (List.mem_append_right _ h)
  have hts : ∀ w ∈ wsL_law, w.before #[Value.ref b0s] s = true := fun w h => htsT w (wsL_law_in w h)
  have hAA : ∀ q : Nat, s.heap.size ≤ q → (fun q : Nat => s.heap.size ≤ q) q := fun _ h => h
  have hbA : ¬ (fun q : Nat => s.heap.size ≤ q) b0s := Nat.not_le.mpr hbl
  have ins_X0 : (Cond.instantiable RX0 9).before #[Value.ref b0s] s = true := htT _ (List.mem_of_getElem? (i := 19) (by decide +kernel))
  have ini_X0 : (Cond.initialized RX0).before #[Value.ref b0s] s = true := htT _ (List.mem_of_getElem? (i := 2) (by decide +kernel))
  obtain ⟨ccX0, isX0, knX0⟩ := u_known (C := RX0) (T := TX0) (N := 9) (n := 9) htsT inX0 ins_X0
  have ins_X1 : (Cond.instantiable RX1 2).before #[Value.ref b0s] s = true := htT _ (List.mem_of_getElem? (i := 61) (by decide +kernel))
  have ini_X1 : (Cond.initialized RX1).before #[Value.ref b0s] s = true := htT _ (List.mem_of_getElem? (i := 3) (by decide +kernel))
  obtain ⟨ccX1, isX1, knX1⟩ := u_known (C := RX1) (T := TX1) (N := 2) (n := 2) htsT inX1 ins_X1
  have ins_X2 : (Cond.instantiable RX2 9).before #[Value.ref b0s] s = true := htT _ (List.mem_of_getElem? (i := 11) (by decide +kernel))
  have ini_X2 : (Cond.initialized RX2).before #[Value.ref b0s] s = true := htT _ (List.mem_of_getElem? (i := 1) (by decide +kernel))
  obtain ⟨ccX2, isX2, knX2⟩ := u_known (C := RX2) (T := TX2) (N := 9) (n := 9) htsT inX2 ins_X2
  obtain ⟨D, hKn⟩ : ∃ D : va_G, ∀ (k : Nat) (q : vw_C), vwCl[k]? = some q → u_Kn s q.1 q.2.1 q.2.2 (D.1 k) (D.2 k) := by
    refine ⟨(fun k => if k = 0 then ccX0 else if k = 1 then ccX1 else ccX2, fun k => if k = 0 then isX0 else if k = 1 then isX1 else isX2), ?_⟩
    intro k q hq
    match k, hq with
    | 0, hq => cases hq; exact knX0
    | 1, hq => cases hq; exact knX1
    | 2, hq => cases hq; exact knX2
    | k + 3, hq => simp at hq
  have ar_cI : (Cond.arrayClass .int).before #[Value.ref b0s] s = true := htT _ (List.mem_of_getElem? (i := 59) (by decide +kernel))
  obtain ⟨cI, k_cI, m_cI, a1_cI, a2_cI, a3_cI⟩ := Cond.arrayClass_spec ar_cI
  have ar_cJ : (Cond.arrayClass .long).before #[Value.ref b0s] s = true := htT _ (List.mem_of_getElem? (i := 493) (by decide +kernel))
  obtain ⟨cJ, k_cJ, m_cJ, a1_cJ, a2_cJ, a3_cJ⟩ := Cond.arrayClass_spec ar_cJ
  have hK : va_K D vwCl [(cI, .int), (cJ, .long)] s := by
    refine ⟨hKn, fun k q hq => ?_⟩
    match k, hq with
    | 0, hq => cases hq; exact ⟨fun n z => ⟨fun k h => (by cases h), k_cI, a2_cI, m_cI, a3_cI⟩, a1_cI⟩
    | 1, hq => cases hq; exact ⟨fun n z => ⟨fun k h => (by cases h), k_cJ, a2_cJ, m_cJ, a3_cJ⟩, a1_cJ⟩
    | k + 2, hq => simp at hq
  have hN : mN s := by
    intro w hw
    simp only [mW, List.mem_cons, List.not_mem_nil, or_false] at hw
    rcases hw with rfl | rfl | rfl | rfl | rfl | rfl | rfl | rfl | rfl | rfl
    · exact va_Nw.of rfl (A := #[Value.ref b0s]) (htT _ (List.mem_of_getElem? (i := 20) (by decide +kernel)))
    · exact va_Nw.of rfl (A := #[Value.ref b0s]) (htT _ (List.mem_of_getElem? (i := 62) (by decide +kernel)))
    · exact va_Nw.of rfl (A := #[Value.ref b0s]) (htT _ (List.mem_of_getElem? (i := 25) (by decide +kernel)))
    · exact va_Nw.of rfl (A := #[Value.ref b0s]) (htT _ (List.mem_of_getElem? (i := 27) (by decide +kernel)))
    · exact va_Nw.of rfl (A := #[Value.ref b0s]) (htT _ (List.mem_of_getElem? (i := 29) (by decide +kernel)))
    · exact va_Nw.of rfl (A := #[Value.ref b0s]) (htT _ (List.mem_of_getElem? (i := 31) (by decide +kernel)))
    · exact va_Nw.of rfl (A := #[Value.ref b0s]) (htT _ (List.mem_of_getElem? (i := 33) (by decide +kernel)))
    · exact va_Nw.of rfl (A := #[Value.ref b0s]) (htT _ (List.mem_of_getElem? (i := 35) (by decide +kernel)))
    · exact va_Nw.of rfl (A := #[Value.ref b0s]) (htT _ (List.mem_of_getElem? (i := 37) (by decide +kernel)))
    · exact va_Nw.of rfl (A := #[Value.ref b0s]) (htT _ (List.mem_of_getElem? (i := 68) (by decide +kernel)))
  have hq := flat_of_before _ hgv
  have hXs : mX (fun q : Nat => s.heap.size ≤ q) s s.heap := by
    refine ⟨?_, ?_, ?_, ?_, ?_⟩
    · intro w hw
      simp only [xW, List.mem_cons, List.not_mem_nil, or_false] at hw
      rcases hw with rfl | rfl | rfl | rfl | rfl | rfl
      · exact va_Nw.of rfl (A := #[Value.ref b0s]) (htT _ (List.mem_of_getElem? (i := 126) (by decide +kernel)))
      · exact va_Nw.of rfl (A := #[Value.ref b0s]) (htT _ (List.mem_of_getElem? (i := 128) (by decide +kernel)))
      · exact va_Nw.of rfl (A := #[Value.ref b0s]) (htT _ (List.mem_of_getElem? (i := 130) (by decide +kernel)))
      · exact va_Nw.of rfl (A := #[Value.ref b0s]) (htT _ (List.mem_of_getElem? (i := 124) (by decide +kernel)))
      · exact va_Nw.of rfl (A := #[Value.ref b0s]) (htT _ (List.mem_of_getElem? (i := 239) (by decide +kernel)))
      · exact va_Nw.of rfl (A := #[Value.ref b0s]) (htT _ (List.mem_of_getElem? (i := 259) (by decide +kernel)))
    · exact vx_Zqof (args := #[Value.ref b0s]) (htT _ (List.mem_of_getElem? (i := 149) (by decide +kernel))) (htT _ (List.mem_of_getElem? (i := 4) (by decide +kernel))) (hq _ (by decide +kernel)) (fun a h => Nat.not_le.mpr h)
    · exact vx_Zqof (args := #[Value.ref b0s]) (htT _ (List.mem_of_getElem? (i := 151) (by decide +kernel))) (htT _ (List.mem_of_getElem? (i := 4) (by decide +kernel))) (hq _ (by decide +kernel)) (fun a h => Nat.not_le.mpr h)
    · intro z hz
      have fX := knX2.2.1
      simp only [xS, List.mem_cons, List.not_mem_nil, or_false] at hz
      rcases hz with rfl | rfl | rfl | rfl | rfl | rfl | rfl | rfl | rfl | rfl | rfl | rfl
      · have h9 : (Cond.stringRef RX2 42 "groups or pots out of range").before #[Value.ref b0s] s = true := htT _ (List.mem_of_getElem? (i := 163) (by decide +kernel))
        obtain ⟨_, _, _, a, _, _, _, _, _, hev⟩ := Cond.stringRef_spec fX h9
        exact ⟨a, vk_R.of h9 hev⟩
      · have h9 : (Cond.stringRef RX2 60 "no such team or region").before #[Value.ref b0s] s = true := htT _ (List.mem_of_getElem? (i := 246) (by decide +kernel))
        obtain ⟨_, _, _, a, _, _, _, _, _, hev⟩ := Cond.stringRef_spec fX h9
        exact ⟨a, vk_R.of h9 hev⟩
      · have h9 : (Cond.stringRef RX2 175 "a ball was drawn").before #[Value.ref b0s] s = true := htT _ (List.mem_of_getElem? (i := 266) (by decide +kernel))
        obtain ⟨_, _, _, a, _, _, _, _, _, hev⟩ := Cond.stringRef_spec fX h9
        exact ⟨a, vk_R.of h9 hev⟩
      · have h9 : (Cond.stringRef RX2 72 "no such region").before #[Value.ref b0s] s = true := htT _ (List.mem_of_getElem? (i := 277) (by decide +kernel))
        obtain ⟨_, _, _, a, _, _, _, _, _, hev⟩ := Cond.stringRef_spec fX h9
        exact ⟨a, vk_R.of h9 hev⟩
      · have h9 : (Cond.stringRef RX2 74 "bound out of range").before #[Value.ref b0s] s = true := htT _ (List.mem_of_getElem? (i := 278) (by decide +kernel))
        obtain ⟨_, _, _, a, _, _, _, _, _, hev⟩ := Cond.stringRef_spec fX h9
        exact ⟨a, vk_R.of h9 hev⟩
      · have h9 : (Cond.stringRef RX2 169 "no such team").before #[Value.ref b0s] s = true := htT _ (List.mem_of_getElem? (i := 380) (by decide +kernel))
        obtain ⟨_, _, _, a, _, _, _, _, _, hev⟩ := Cond.stringRef_spec fX h9
        exact ⟨a, vk_R.of h9 hev⟩
      · have h9 : (Cond.stringRef RX2 173 "both teams are the same").before #[Value.ref b0s] s = true := htT _ (List.mem_of_getElem? (i := 381) (by decide +kernel))
        obtain ⟨_, _, _, a, _, _, _, _, _, hev⟩ := Cond.stringRef_spec fX h9
        exact ⟨a, vk_R.of h9 hev⟩
      · have h9 : (Cond.stringRef RX2 104 "all balls were drawn, or there is no open result").before #[Value.ref b0s] s = true := htT _ (List.mem_of_getElem? (i := 322) (by decide +kernel))
        obtain ⟨_, _, _, a, _, _, _, _, _, hev⟩ := Cond.stringRef_spec fX h9
        exact ⟨a, vk_R.of h9 hev⟩
      · have h9 : (Cond.stringRef RX2 111 "no such ball").before #[Value.ref b0s] s = true := htT _ (List.mem_of_getElem? (i := 335) (by decide +kernel))
        obtain ⟨_, _, _, a, _, _, _, _, _, hev⟩ := Cond.stringRef_spec fX h9
        exact ⟨a, vk_R.of h9 hev⟩
      · have h9 : (Cond.stringRef RX2 121 "none was drawn").before #[Value.ref b0s] s = true := htT _ (List.mem_of_getElem? (i := 355) (by decide +kernel))
        obtain ⟨_, _, _, a, _, _, _, _, _, hev⟩ := Cond.stringRef_spec fX h9
        exact ⟨a, vk_R.of h9 hev⟩
      · have h9 : (Cond.stringRef RX2 145 "no such group or pot").before #[Value.ref b0s] s = true := htT _ (List.mem_of_getElem? (i := 447) (by decide +kernel))
        obtain ⟨_, _, _, a, _, _, _, _, _, hev⟩ := Cond.stringRef_spec fX h9
        exact ⟨a, vk_R.of h9 hev⟩
      · have h9 : (Cond.stringRef RX2 171 "no such team or group").before #[Value.ref b0s] s = true := htT _ (List.mem_of_getElem? (i := 430) (by decide +kernel))
        obtain ⟨_, _, _, a, _, _, _, _, _, hev⟩ := Cond.stringRef_spec fX h9
        exact ⟨a, vk_R.of h9 hev⟩
    · have n12 : va_Nc (xN 1) (xN 2) s := va_Nc.of (args := #[Value.ref b0s]) (hq _ (by decide +kernel))
      have n13 : va_Nc (xN 1) (xN 3) s := va_Nc.of (args := #[Value.ref b0s]) (hq _ (by decide +kernel))
      have n21 : va_Nc (xN 2) (xN 1) s := va_Nc.of (args := #[Value.ref b0s]) (hq _ (by decide +kernel))
      have n23 : va_Nc (xN 2) (xN 3) s := va_Nc.of (args := #[Value.ref b0s]) (hq _ (by decide +kernel))
      have n31 : va_Nc (xN 3) (xN 1) s := va_Nc.of (args := #[Value.ref b0s]) (hq _ (by decide +kernel))
      have n32 : va_Nc (xN 3) (xN 2) s := va_Nc.of (args := #[Value.ref b0s]) (hq _ (by decide +kernel))
      intro i hi j hj hij
      rcases (show i = 0 ∨ i = 1 ∨ i = 2 ∨ i = 3 by omega) with rfl | rfl | rfl | rfl <;> rcases (show j = 0 ∨ j = 1 ∨ j = 2 ∨ j = 3 by omega) with rfl | rfl | rfl | rfl <;> first | exact absurd rfl hij | exact n12 | exact n13 | exact n21 | exact n23 | exact n31 | exact n32
  have hc137 : (Cond.constant RL 137 2147483647).before #[Value.ref b0s] s = true := htT _ (List.mem_of_getElem? (i := 497) (by decide +kernel))
  have hc138 : (Cond.constant RL 138 39019).before #[Value.ref b0s] s = true := htT _ (List.mem_of_getElem? (i := 498) (by decide +kernel))
  have C1 : lwC p s m c D cI cJ (fun q : Nat => s.heap.size ≤ q) b0s L xs := ⟨hXX, hBB, hml, hown, hts, hN, hXs, hK, hscr, hbl, hbA, hL, hAA, hc137, hc138, ar_cI, ar_cJ⟩
  have hS : va_S (fun q : Nat => s.heap.size ≤ q) s.heap s.heap [] := va_S.rf
  have hP : va_P D vwCl [] s.heap := fun k q h => by simp at h
  have hD : va_D (fun q : Nat => s.heap.size ≤ q) [] := ⟨fun i j p q h => by simp at h, fun k q h => by simp at h⟩
  have hl := lv_entry ([.ref b0s]) (n := 24) (Nat.le_of_ble_eq_true rfl)
  rw [lg_entry_eq]
  generalize (lg_sl ([.ref b0s]) ++ List.replicate (24 - (lg_sl ([.ref b0s])).length) Slot.unset).toArray = ls at hl ⊢
  have hl : lv_has ls 24 [(0, .ref b0s)] := hl
  refine va_new (ci := 2) (fs := [.null, .null, .int (bI false), .null, .int (bI false), .null, .null, .null, .int (nI 0)]) (C := RX2) (T := TX2) (N := 9) hXX hBB htsT inX2 tyX2 tyX2_ok hown (htT _ (List.mem_of_getElem? (i := 10) (by decide +kernel))) ins_X2 ini_X2 hK hP hD hS hAA rfl (fun j hj => by rcases (show j = 0 ∨ j = 1 ∨ j = 2 ∨ j = 3 ∨ j = 4 ∨ j = 5 ∨ j = 6 ∨ j = 7 ∨ j = 8 by omega) with rfl | rfl | rfl | rfl | rfl | rfl | rfl | rfl | rfl <;> rfl) (Nat.le_of_ble_eq_true rfl) (Nat.le_of_ble_eq_true rfl) dL_law_0 (fun c_ H hP hD hS => ?_)
  have hP : va_P D vwCl [(c_, .inr (2, [.null, .null, .int (bI false), .null, .int (bI false), .null, .null, .null, .int (nI 0)]))] H := hP
  have hD : va_D (fun q : Nat => s.heap.size ≤ q) [(c_, .inr (2, [.null, .null, .int (bI false), .null, .int (bI false), .null, .null, .null, .int (nI 0)]))] := hD
  refine lv_dup hXX hBB dL_law_3 rfl ?_
  refine m_initP (wr := []) ⟨hXX, hBB, hml, hown, hts⟩ hN (kX2_init l D cI c_) (cwI 0 hts gL_law_X2_init rfl rfl rfl ini_X2 (htT _ (List.mem_of_getElem? (i := 12) (by decide +kernel))) (htT _ (List.mem_of_getElem? (i := 13) (by decide +kernel))) rfl (by decide +kernel) ⟨Nat.le_of_ble_eq_true rfl, Nat.le_of_ble_eq_true rfl⟩) hK hP hD hS hAA [0] [] [0] rfl rfl rfl (by decide) (by decide) (by decide) rfl rfl hl.1 rfl (Nat.le_of_ble_eq_true rfl) dL_law_4 ⟨Nat.le_of_ble_eq_true rfl, Nat.le_of_ble_eq_true rfl⟩ (k := 15) (n := 1247) rfl rfl (fun u_ H locs hw hP hD hS => ?_)
  obtain ⟨b, bR, bB, bA, bO, bP, bM, ol, oa, el, ea, aSe, aDt, aOb, pm⟩ := u_
  have hpm9 : ∀ z, z < 2 * 2 → pm z = pmN 2 z := hw
  have hP : va_P D vwCl [(c_, .inr (2, [.ref b, .ref ol, .int (bI false), .ref el, .int (bI false), .ref aSe, .ref aDt, .ref aOb, .int (nI 0)])), (b, .inr (0, [.int (nI 2), .int (nI 2), .int (nI (2 * 2)), .ref bR, .ref bB, .ref bA, .ref bO, .ref bP, .ref bM])), (bR, .inl (cI, 9, .inl (fun j => nI ((fun _ => 0) j)))), (bB, .inl (cI, 6, .inl (fun j => nI ((fun _ => 3) j)))), (bA, .inl (cI, 9, .inl (fun j => nI ((fun _ => 0) j)))), (bO, .inl (cI, 9, .inl (fun j => nI ((fun _ => 0) j)))), (bP, .inl (cI, 9, .inl (fun j => nI (pm j)))), (bM, .inl (cI, 4, .inl (fun j => nI ((fun _ => 0) j)))), (ol, .inr (1, [.ref oa, .int (nI 0)])), (oa, .inl (cI, 576, .inl (fun _ => nI 0))), (el, .inr (1, [.ref ea, .int (nI 0)])), (ea, .inl (cI, 576, .inl (fun _ => nI 0))), (aSe, .inl (cI, 9, .inl (fun _ => -1))), (aDt, .inl (cI, 9, .inl (fun _ => nI 0))), (aOb, .inl (cI, 9, .inl (fun _ => nI 0)))] H := hP
  have hD : va_D (fun q : Nat => s.heap.size ≤ q) [(c_, .inr (2, [.ref b, .ref ol, .int (bI false), .ref el, .int (bI false), .ref aSe, .ref aDt, .ref aOb, .int (nI 0)])), (b, .inr (0, [.int (nI 2), .int (nI 2), .int (nI (2 * 2)), .ref bR, .ref bB, .ref bA, .ref bO, .ref bP, .ref bM])), (bR, .inl (cI, 9, .inl (fun j => nI ((fun _ => 0) j)))), (bB, .inl (cI, 6, .inl (fun j => nI ((fun _ => 3) j)))), (bA, .inl (cI, 9, .inl (fun j => nI ((fun _ => 0) j)))), (bO, .inl (cI, 9, .inl (fun j => nI ((fun _ => 0) j)))), (bP, .inl (cI, 9, .inl (fun j => nI (pm j)))), (bM, .inl (cI, 4, .inl (fun j => nI ((fun _ => 0) j)))), (ol, .inr (1, [.ref oa, .int (nI 0)])), (oa, .inl (cI, 576, .inl (fun _ => nI 0))), (el, .inr (1, [.ref ea, .int (nI 0)])), (ea, .inl (cI, 576, .inl (fun _ => nI 0))), (aSe, .inl (cI, 9, .inl (fun _ => -1))), (aDt, .inl (cI, 9, .inl (fun _ => nI 0))), (aOb, .inl (cI, 9, .inl (fun _ => nI 0)))] := hD
  refine lv_astore_n (lv' := [(1, .ref c_), (0, .ref b0s)]) hXX hBB dL_law_7 rfl hl (by decide) rfl (fun ls hl => ?_)
  refine law_first hstk C1 (cells := 15) (slots := 1247) (by decide) (by decide) (pm := pm) hpm9 (hP.sub [0, 1, 2, 3, 4, 5, 6, 7, 8, 9, 10, 11, 12, 13, 14] rfl) (hD.sub [0, 1, 2, 3, 4, 5, 6, 7, 8, 9, 10, 11, 12, 13, 14] (by decide) rfl) hS hl (fun kN kR kP kA kW kQ H locs ls hO hS hl => ?_)
  exact law_loop hstk C1 hr hlocks 41 0 (15 + 1000) (1247 + 4000) (by omega) (Nat.zero_le _) (by decide) (by decide) H locs ls hO hS hl
