def clN (S : Nat → Int32) (g q : Nat) : Nat := ct (unP S (g * q)) g
def leF (S : Nat → Int32) (g p : Nat) : Nat := if fstN (clN S g) p 0 < p then clN S g (fstN (clN S g) p 0) else 0
def poF (S : Nat → Int32) (g p : Nat) : Int32 := lowR (clN S g) p 0
theorem poF_some {S : Nat → Int32} {g p : Nat} (h : ¬ poF S g p = -1) : fstN (clN S g) p 0 < p ∧ poF S g p = nI (fstN (clN S g) p 0) := by
  unfold poF at h ⊢
  rw [lowR_fst, Nat.zero_add] at h ⊢
  by_cases c : fstN (clN S g) p 0 < p
  · rw [if_pos c]; exact ⟨c, rfl⟩
  · rw [if_neg c] at h; exact absurd rfl h
theorem poF_none {S : Nat → Int32} {g p : Nat} (hp : p < 2 ^ 31) (h : poF S g p = -1) : ¬ fstN (clN S g) p 0 < p := by
  intro c
  unfold poF at h
  rw [lowR_fst, Nat.zero_add, if_pos c] at h
  exact nI_nm1 (by omega) h
def fbR (S : Nat → Int32) (g p : Nat) (x : Int32) : Int32 := if fstN (clN S g) p 0 < p ∧ ¬ x < 0 then nth S g (g * fstN (clN S g) p 0) (tnI x) else -1
theorem clN_le (S : Nat → Int32) (g q : Nat) : clN S g q ≤ g := ct_le _ _
theorem leF_le (S : Nat → Int32) (g p : Nat) : leF S g p ≤ g := by
  unfold leF
  split
  · exact clN_le _ _ _
  · exact Nat.zero_le _
theorem ordN_cl (S : Nat → Int32) (g q : Nat) : ct (fun z => decide (S (g * q + z) = -1)) g = clN S g q := rfl
abbrev rmX2_factorial : Room := { frames := 0, cells := 0, slots := 0, locals := 0 }
set_option maxHeartbeats 4000000 in
set_option maxRecDepth 100000 in
theorem kX2_factorial (l : Launch) (D : va_G) (n : Nat) (hn : n ≤ 9) : Ci l yX2_factorial wsX2_factorial rmX2_factorial D [] [.int (nI n)] [] (fun (r : Int32) (_ : Unit) => r = nI (fac n)) (fun (_ : Unit) => []) := by
  refine Ci_of (cc := cX2_factorial) (maxL := 3) (by decide) rfl (Nat.le_of_ble_eq_true rfl) ?_
  intro pR eV sT mI args below meth cO AA QQ ls hXX hBB hml hown hts hnm hN hK hP hD hS hAA hl hret
  have hl : lv_has ls 3 [(0, .int (nI n))] := hl
  refine lv_iconst (v := nI 1) hXX hBB dX2_factorial_0 (by decide) ?_
  refine lv_istore_n (lv' := [(1, .int (nI 1)), (0, .int (nI n))]) hXX hBB dX2_factorial_1 rfl hl (by decide) rfl (fun ls hl => ?_)
  refine lv_iconst (v := nI 2) hXX hBB dX2_factorial_2 (by decide) ?_
  refine lv_istore_n (lv' := [(2, .int (nI 2)), (1, .int (nI 1)), (0, .int (nI n))]) hXX hBB dX2_factorial_3 rfl hl (by decide) rfl (fun ls hl => ?_)
  have L_4 : ∀ (N_4 : Nat) (k : Nat) (x : Nat), (2 ≤ k ∧ (k ≤ n + 1 ∨ k = 2)) → (x = fac (k - 1)) → n + 2 - k < N_4 → ∀ (H : Heap) (locs : List Loc), va_P D vwCl [] H → va_D AA [] → va_S AA sT.heap H locs → ∀ (ls : Array Slot), lv_has ls 3 [(2, .int (nI k)), (1, .int (nI x)), (0, .int (nI n))] → W pR l eV rmX2_factorial sT mI args below meth cO H locs 0 0 QQ (F0 mI 4 ls []) := by
    intro N_4
    induction N_4 with
    | zero =>
      intro k x hk hx hMM
      exact absurd hMM (Nat.not_lt_zero _)
    | succ N_4 ih_4 =>
      intro k x hk hx hMM H locs hP hD hS ls hl
      refine lv_iload_n hXX hBB dX2_factorial_4 rfl (lv_at hl 0 rfl) ?_
      refine lv_iload_n hXX hBB dX2_factorial_5 rfl (lv_at hl 2 rfl) ?_
      refine lv_icmp_gt (tgt := 19) hXX hBB dX2_factorial_6 (by decide) (fun c_6 => ?_) (fun c_6 => ?_)
      · have c_6 : n < k := (nI_ltI (by omega) (by omega)).mp c_6
        have hx2 : x = fac n := fac_end hk c_6 hx
        refine lv_iload_n hXX hBB dX2_factorial_19 rfl (lv_at hl 1 rfl) ?_
        refine hret (r := nI x) () ?_ (rfl) (hP.sub [] rfl) (hD.sub [] (by decide) rfl) hS (Nat.le_of_ble_eq_true rfl) (Nat.le_of_ble_eq_true rfl) dX2_factorial_20
        show nI x = nI (fac n)
        rw [hx2]
      · have c_6 : ¬ n < k := fun h9 => c_6 ((nI_ltI (by omega) (by omega)).mpr h9)
        refine lv_iload_n hXX hBB dX2_factorial_9 rfl (lv_at hl 1 rfl) ?_
        refine lv_iload_n hXX hBB dX2_factorial_10 rfl (lv_at hl 0 rfl) ?_
        refine lv_imul hXX hBB dX2_factorial_11 ?_
        refine m_top (y := nI (x * k)) (pk_mul _ _) ?_
        refine lv_istore_n (lv' := [(1, .int (nI (x * k))), (2, .int (nI k)), (0, .int (nI n))]) hXX hBB dX2_factorial_12 rfl hl (by decide) rfl (fun ls hl => ?_)
        refine lv_iinc (v := nI (k + 1)) (lv' := [(2, .int (nI (k + 1))), (1, .int (nI (x * k))), (0, .int (nI n))]) hXX hBB dX2_factorial_13 hl (k := 1) rfl (nI_1 _) (by decide) rfl (fun ls hl => ?_)
        refine lv_goto (tgt := 4) hXX hBB dX2_factorial_16 (by decide) ?_
        have hi_k : 2 ≤ (k + 1) ∧ ((k + 1) ≤ n + 1 ∨ (k + 1) = 2) := by omega
        have hi_x : (x * k) = fac ((k + 1) - 1) := by rw [hx, fac_step hk.1]
        have hmm : n + 2 - (k + 1) < N_4 := by omega
        exact ih_4 (k + 1) (x * k) hi_k hi_x hmm _ _ (hP.sub [] rfl) (hD.sub [] (by decide) rfl) hS ls (lv_sub hl [0, 1, 2] rfl)
  have hi_k : 2 ≤ 2 ∧ (2 ≤ n + 1 ∨ 2 = 2) := by omega
  have hi_x : 1 = fac (2 - 1) := by rfl
  exact L_4 _ 2 1 hi_k hi_x (Nat.lt_succ_self _) _ _ hP hD hS ls (lv_sub hl [0, 1, 2] rfl)
abbrev rmX2_forgetResults : Room := { frames := 0, cells := 0, slots := 0, locals := 0 }
set_option maxHeartbeats 4000000 in
set_option maxRecDepth 100000 in
theorem kX2_forgetResults (l : Launch) (D : va_G) (c : Nat) (b : Nat) (ol : Nat) (el : Nat) (aSe : Nat) (aDt : Nat) (aOb : Nat) (fo : Bool) (fe : Bool) (dm : Nat) : Cv l yX2_forgetResults wsX2_forgetResults rmX2_forgetResults D [] [.ref c] [(c, .inr (2, [.ref b, .ref ol, .int (bI fo), .ref el, .int (bI fe), .ref aSe, .ref aDt, .ref aOb, .int (nI dm)]))] (fun (_ : Unit) => True) (fun (_ : Unit) => [(c, .inr (2, [.ref b, .ref ol, .int (bI false), .ref el, .int (bI false), .ref aSe, .ref aDt, .ref aOb, .int (nI dm)]))]) := by
  refine Cv_of (cc := cX2_forgetResults) (maxL := 1) (by decide) rfl (Nat.le_of_ble_eq_true rfl) ?_
  intro pR eV sT mI args below meth cO AA QQ ls hXX hBB hml hown hts hnm hN hK hP hD hS hAA hl hret
  have hl : lv_has ls 1 [(0, .ref c)] := hl
  have kw_1 := hts (.fieldLink RX2 186 "CupDraw" "isOpenListFresh" "Z") (List.mem_of_getElem? (i := 1) rfl)
  have iw_X2 : ∀ w ∈ wsX20, w ∈ wsX2_forgetResults := by decide +kernel
  have kw_2 := hts (.fieldLink RX2 113 "CupDraw" "isEndListFresh" "Z") (List.mem_of_getElem? (i := 2) rfl)
  refine lv_aload_n hXX hBB dX2_forgetResults_0 rfl (lv_at hl 0 rfl) ?_
  refine lv_iconst (v := nI 0) hXX hBB dX2_forgetResults_1 (by decide) ?_
  refine m_top (y := bI false) rfl ?_
  refine va_put (D := D) (ci := 2) (v := .int (bI false)) (ty := .boolean) (C := RX2) (T := TX2) (N := 9) hXX hBB hts iw_X2 tyX2 tyX2_ok nmX2 hown hK hP hD hS 0 rfl rfl 2 (by decide) kw_1 (fun _ h9 => h9) rfl (by decide +kernel) (m_narb _) (m_fitb _) (Nat.le_of_ble_eq_true rfl) dX2_forgetResults_2 (fun H locs hP hD hS => ?_)
  have hP : va_P D vwCl [(c, .inr (2, [.ref b, .ref ol, .int (bI false), .ref el, .int (bI fe), .ref aSe, .ref aDt, .ref aOb, .int (nI dm)]))] H := hP
  have hD : va_D AA [(c, .inr (2, [.ref b, .ref ol, .int (bI false), .ref el, .int (bI fe), .ref aSe, .ref aDt, .ref aOb, .int (nI dm)]))] := hD
  refine lv_aload_n hXX hBB dX2_forgetResults_5 rfl (lv_at hl 0 rfl) ?_
  refine lv_iconst (v := nI 0) hXX hBB dX2_forgetResults_6 (by decide) ?_
  refine m_top (y := bI false) rfl ?_
  refine va_put (D := D) (ci := 2) (v := .int (bI false)) (ty := .boolean) (C := RX2) (T := TX2) (N := 9) hXX hBB hts iw_X2 tyX2 tyX2_ok nmX2 hown hK hP hD hS 0 rfl rfl 4 (by decide) kw_2 (fun _ h9 => h9) rfl (by decide +kernel) (m_narb _) (m_fitb _) (Nat.le_of_ble_eq_true rfl) dX2_forgetResults_7 (fun H locs hP hD hS => ?_)
  have hP : va_P D vwCl [(c, .inr (2, [.ref b, .ref ol, .int (bI false), .ref el, .int (bI false), .ref aSe, .ref aDt, .ref aOb, .int (nI dm)]))] H := hP
  have hD : va_D AA [(c, .inr (2, [.ref b, .ref ol, .int (bI false), .ref el, .int (bI false), .ref aSe, .ref aDt, .ref aOb, .int (nI dm)]))] := hD
  refine hret () ?_ (hP.sub [0] rfl) (hD.sub [0] (by decide) rfl) hS (Nat.le_of_ble_eq_true rfl) (Nat.le_of_ble_eq_true rfl) dX2_forgetResults_10
  trivial
abbrev rmX2_drawn : Room := { frames := 0, cells := 0, slots := 0, locals := 0 }
set_option maxHeartbeats 4000000 in
set_option maxRecDepth 100000 in
theorem kX2_drawn (l : Launch) (D : va_G) (c : Nat) (b : Nat) (ol : Nat) (el : Nat) (aSe : Nat) (aDt : Nat) (aOb : Nat) (fo : Bool) (fe : Bool) (dm : Nat) : Ci l yX2_drawn wsX2_drawn rmX2_drawn D [] [.ref c] [(c, .inr (2, [.ref b, .ref ol, .int (bI fo), .ref el, .int (bI fe), .ref aSe, .ref aDt, .ref aOb, .int (nI dm)]))] (fun (r : Int32) (_ : Unit) => r = nI dm) (fun (_ : Unit) => [(c, .inr (2, [.ref b, .ref ol, .int (bI fo), .ref el, .int (bI fe), .ref aSe, .ref aDt, .ref aOb, .int (nI dm)]))]) := by
  refine Ci_of (cc := cX2_drawn) (maxL := 1) (by decide) rfl (Nat.le_of_ble_eq_true rfl) ?_
  intro pR eV sT mI args below meth cO AA QQ ls hXX hBB hml hown hts hnm hN hK hP hD hS hAA hl hret
  have hl : lv_has ls 1 [(0, .ref c)] := hl
  have kw_1 := hts (.fieldLink RX2 92 "CupDraw" "drawnCount" "I") (List.mem_of_getElem? (i := 1) rfl)
  have iw_X2 : ∀ w ∈ wsX20, w ∈ wsX2_drawn := by decide +kernel
  refine lv_aload_n hXX hBB dX2_drawn_0 rfl (lv_at hl 0 rfl) ?_
  refine va_get (D := D) (ci := 2) (v := .int (nI dm)) (C := RX2) (T := TX2) (N := 9) hXX hBB hts iw_X2 hown hK hP 0 rfl rfl 8 (by decide) kw_1 (fun _ h9 => h9) rfl dX2_drawn_1 ?_
  refine hret (r := nI dm) () ?_ (rfl) (hP.sub [0] rfl) (hD.sub [0] (by decide) rfl) hS (Nat.le_of_ble_eq_true rfl) (Nat.le_of_ble_eq_true rfl) dX2_drawn_4
  show nI dm = nI dm
  rfl
abbrev rmX2_countLeft : Room := { frames := 0, cells := 0, slots := 0, locals := 0 }
set_option maxHeartbeats 4000000 in
set_option maxRecDepth 100000 in
theorem kX2_countLeft (l : Launch) (D : va_G) (cI : ClassId) (c : Nat) (b : Nat) (ol : Nat) (el : Nat) (aSe : Nat) (aDt : Nat) (aOb : Nat) (fo : Bool) (fe : Bool) (dm : Nat) (g : Nat) (p : Nat) (bR : Nat) (bB : Nat) (bA : Nat) (bO : Nat) (bP : Nat) (bM : Nat) (S : Nat → Int32) (q : Nat) (hg0 : 0 < g) (hg4 : g ≤ 4) (hp3 : p ≤ 3) (hT : g * p ≤ 9) (hq : q < p) : Ci l yX2_countLeft wsX2_countLeft rmX2_countLeft D [(cI, .int)] [.ref c, .int (nI q)] [(c, .inr (2, [.ref b, .ref ol, .int (bI fo), .ref el, .int (bI fe), .ref aSe, .ref aDt, .ref aOb, .int (nI dm)])), (b, .inr (0, [.int (nI g), .int (nI p), .int (nI (g * p)), .ref bR, .ref bB, .ref bA, .ref bO, .ref bP, .ref bM])), (aSe, .inl (cI, 9, .inl S))] (fun (r : Int32) (_ : Unit) => r = nI (clN S g q)) (fun (_ : Unit) => [(c, .inr (2, [.ref b, .ref ol, .int (bI fo), .ref el, .int (bI fe), .ref aSe, .ref aDt, .ref aOb, .int (nI dm)])), (b, .inr (0, [.int (nI g), .int (nI p), .int (nI (g * p)), .ref bR, .ref bB, .ref bA, .ref bO, .ref bP, .ref bM])), (aSe, .inl (cI, 9, .inl S))]) := by
  refine Ci_of (cc := cX2_countLeft) (maxL := 5) (by decide) rfl (Nat.le_of_ble_eq_true rfl) ?_
  intro pR eV sT mI args below meth cO AA QQ ls hXX hBB hml hown hts hnm hN hK hP hD hS hAA hl hret
  have hl : lv_has ls 5 [(0, .ref c), (1, .int (nI q))] := hl
  have hms : g * (q + 1) = g * q + g := Nat.mul_succ g q
  have hmq : g * (q + 1) ≤ g * p := Nat.mul_le_mul_left g hq
  have kw_1 := hts (.fieldLink RX2 10 "CupDraw" "bowl" "LCupDraw$Bowl;") (List.mem_of_getElem? (i := 1) rfl)
  have iw_X2 : ∀ w ∈ wsX20, w ∈ wsX2_countLeft := by decide +kernel
  have kn_147 : (Cond.fieldLinkNest RX2 147 RX0 "groups" "I" RX2).before args sT = true := va_Nw.use rfl (hN _ (List.mem_of_getElem? (i := 2) rfl))
  have iw_X0 : ∀ w ∈ wsX00, w ∈ wsX2_countLeft := by decide +kernel
  have kw_2 := hts (.fieldLink RX2 26 "CupDraw" "seats" "[I") (List.mem_of_getElem? (i := 2) rfl)
  refine lv_iload_n hXX hBB dX2_countLeft_0 rfl (lv_at hl 1 rfl) ?_
  refine lv_aload_n hXX hBB dX2_countLeft_1 rfl (lv_at hl 0 rfl) ?_
  refine va_get (D := D) (ci := 2) (v := .ref b) (C := RX2) (T := TX2) (N := 9) hXX hBB hts iw_X2 hown hK hP 0 rfl rfl 0 (by decide) kw_1 (fun _ h9 => h9) rfl dX2_countLeft_2 ?_
  refine va_getN (D := D) (ci := 0) (v := .int (nI g)) (C := RX0) (T := TX0) (N := 9) hXX hBB hts iw_X0 hown hK hP 1 rfl rfl 0 (by decide) kn_147 (fun _ h9 => h9) rfl dX2_countLeft_5 ?_
  refine lv_imul hXX hBB dX2_countLeft_8 ?_
  refine m_top (y := nI (g * q)) (by rw [pk_mul, Nat.mul_comm]) ?_
  refine lv_istore_n (lv' := [(2, .int (nI (g * q))), (0, .ref c), (1, .int (nI q))]) hXX hBB dX2_countLeft_9 rfl hl (by decide) rfl (fun ls hl => ?_)
  refine lv_iconst (v := nI 0) hXX hBB dX2_countLeft_10 (by decide) ?_
  refine lv_istore_n (lv' := [(3, .int (nI 0)), (2, .int (nI (g * q))), (0, .ref c), (1, .int (nI q))]) hXX hBB dX2_countLeft_11 rfl hl (by decide) rfl (fun ls hl => ?_)
  refine lv_iload_n hXX hBB dX2_countLeft_12 rfl (lv_at hl 1 rfl) ?_
  refine lv_istore (lv' := [(4, .int (nI (g * q))), (3, .int (nI 0)), (2, .int (nI (g * q))), (0, .ref c), (1, .int (nI q))]) hXX hBB dX2_countLeft_13 hl (by decide) rfl (fun ls hl => ?_)
  have L_15 : ∀ (N_15 : Nat) (t : Nat) (y : Nat), (g * q ≤ t ∧ t ≤ g * q + g) → (y = ct (unP S (g * q)) (t - g * q)) → g * q + g - t < N_15 → ∀ (H : Heap) (locs : List Loc), va_P D vwCl [(c, .inr (2, [.ref b, .ref ol, .int (bI fo), .ref el, .int (bI fe), .ref aSe, .ref aDt, .ref aOb, .int (nI dm)])), (b, .inr (0, [.int (nI g), .int (nI p), .int (nI (g * p)), .ref bR, .ref bB, .ref bA, .ref bO, .ref bP, .ref bM])), (aSe, .inl (cI, 9, .inl S))] H → va_D AA [(c, .inr (2, [.ref b, .ref ol, .int (bI fo), .ref el, .int (bI fe), .ref aSe, .ref aDt, .ref aOb, .int (nI dm)])), (b, .inr (0, [.int (nI g), .int (nI p), .int (nI (g * p)), .ref bR, .ref bB, .ref bA, .ref bO, .ref bP, .ref bM])), (aSe, .inl (cI, 9, .inl S))] → va_S AA sT.heap H locs → ∀ (ls : Array Slot), lv_has ls 5 [(4, .int (nI t)), (3, .int (nI y)), (2, .int (nI (g * q))), (0, .ref c), (1, .int (nI q))] → W pR l eV rmX2_countLeft sT mI args below meth cO H locs 0 0 QQ (F0 mI 15 ls []) := by
    intro N_15
    induction N_15 with
    | zero =>
      intro t y ht hy hMM
      exact absurd hMM (Nat.not_lt_zero _)
    | succ N_15 ih_15 =>
      intro t y ht hy hMM H locs hP hD hS ls hl
      refine lv_iload hXX hBB dX2_countLeft_15 (lv_at hl 0 rfl) ?_
      refine lv_iload_n hXX hBB dX2_countLeft_17 rfl (lv_at hl 2 rfl) ?_
      refine lv_aload_n hXX hBB dX2_countLeft_18 rfl (lv_at hl 3 rfl) ?_
      refine va_get (D := D) (ci := 2) (v := .ref b) (C := RX2) (T := TX2) (N := 9) hXX hBB hts iw_X2 hown hK hP 0 rfl rfl 0 (by decide) kw_1 (fun _ h9 => h9) rfl dX2_countLeft_19 ?_
      refine va_getN (D := D) (ci := 0) (v := .int (nI g)) (C := RX0) (T := TX0) (N := 9) hXX hBB hts iw_X0 hown hK hP 1 rfl rfl 0 (by decide) kn_147 (fun _ h9 => h9) rfl dX2_countLeft_22 ?_
      refine lv_iadd hXX hBB dX2_countLeft_25 ?_
      refine m_top (y := nI ((g * q) + g)) (nI_add _ _) ?_
      refine lv_icmp_ge (tgt := 49) hXX hBB dX2_countLeft_26 (by decide) (fun c_26 => ?_) (fun c_26 => ?_)
      · have c_26 : ((g * q) + g) ≤ t := (nI_leI (by omega) (by omega)).mp c_26
        have hE : t - g * q = g := by omega
        rw [hE] at hy
        refine lv_iload_n hXX hBB dX2_countLeft_49 rfl (lv_at hl 1 rfl) ?_
        refine hret (r := nI y) () ?_ (rfl) (hP.sub [0, 1, 2] rfl) (hD.sub [0, 1, 2] (by decide) rfl) hS (Nat.le_of_ble_eq_true rfl) (Nat.le_of_ble_eq_true rfl) dX2_countLeft_50
        show nI y = nI (clN S g q)
        rw [hy]; rfl
      · have c_26 : ¬ ((g * q) + g) ≤ t := fun h9 => c_26 ((nI_leI (by omega) (by omega)).mpr h9)
        have hyb := ct_le (unP S (g * q)) (t - g * q)
        refine lv_aload_n hXX hBB dX2_countLeft_29 rfl (lv_at hl 3 rfl) ?_
        refine va_get (D := D) (ci := 2) (v := .ref aSe) (C := RX2) (T := TX2) (N := 9) hXX hBB hts iw_X2 hown hK hP 0 rfl rfl 5 (by decide) kw_2 (fun _ h9 => h9) rfl dX2_countLeft_30 ?_
        refine lv_iload hXX hBB dX2_countLeft_33 (lv_at hl 0 rfl) ?_
        refine m_iald hXX hBB hK hP 2 0 rfl rfl (i := t) (by omega) (by decide) (x := S t) rfl dX2_countLeft_35 ?_
        refine lv_iconst (v := (-1)) hXX hBB dX2_countLeft_36 (by decide) ?_
        refine lv_icmp_ne (tgt := 43) hXX hBB dX2_countLeft_37 (by decide) (fun c_37 => ?_) (fun c_37 => ?_)
        · have c_37 := c_37
          refine lv_iinc (v := nI (t + 1)) (lv' := [(4, .int (nI (t + 1))), (3, .int (nI y)), (2, .int (nI (g * q))), (0, .ref c), (1, .int (nI q))]) hXX hBB dX2_countLeft_43 hl (k := 0) rfl (nI_1 _) (by decide) rfl (fun ls hl => ?_)
          refine lv_goto (tgt := 15) hXX hBB dX2_countLeft_46 (by decide) ?_
          have hi_t : g * q ≤ (t + 1) ∧ (t + 1) ≤ g * q + g := by omega
          have hi_y : y = ct (unP S (g * q)) ((t + 1) - g * q) := by
            rw [show t + 1 - g * q = (t - g * q) + 1 by omega]
            first | (rw [ct_t (by simp [unP, show g * q + (t - g * q) = t by omega, c_37])]; omega) | (rw [ct_f (by simp [unP, show g * q + (t - g * q) = t by omega, c_37])]; omega)
          have hmm : g * q + g - (t + 1) < N_15 := by omega
          exact ih_15 (t + 1) y hi_t hi_y hmm _ _ (hP.sub [0, 1, 2] rfl) (hD.sub [0, 1, 2] (by decide) rfl) hS ls (lv_sub hl [0, 1, 2, 3, 4] rfl)
        · have c_37 := c_37
          refine lv_iinc (v := nI (y + 1)) (lv' := [(3, .int (nI (y + 1))), (4, .int (nI t)), (2, .int (nI (g * q))), (0, .ref c), (1, .int (nI q))]) hXX hBB dX2_countLeft_40 hl (k := 1) rfl (nI_1 _) (by decide) rfl (fun ls hl => ?_)
          refine lv_iinc (v := nI (t + 1)) (lv' := [(4, .int (nI (t + 1))), (3, .int (nI (y + 1))), (2, .int (nI (g * q))), (0, .ref c), (1, .int (nI q))]) hXX hBB dX2_countLeft_43 hl (k := 1) rfl (nI_1 _) (by decide) rfl (fun ls hl => ?_)
          refine lv_goto (tgt := 15) hXX hBB dX2_countLeft_46 (by decide) ?_
          have hi_t : g * q ≤ (t + 1) ∧ (t + 1) ≤ g * q + g := by omega
          have hi_y : (y + 1) = ct (unP S (g * q)) ((t + 1) - g * q) := by
            rw [show t + 1 - g * q = (t - g * q) + 1 by omega]
            first | (rw [ct_t (by simp [unP, show g * q + (t - g * q) = t by omega, c_37])]; omega) | (rw [ct_f (by simp [unP, show g * q + (t - g * q) = t by omega, c_37])]; omega)
          have hmm : g * q + g - (t + 1) < N_15 := by omega
          exact ih_15 (t + 1) (y + 1) hi_t hi_y hmm _ _ (hP.sub [0, 1, 2] rfl) (hD.sub [0, 1, 2] (by decide) rfl) hS ls (lv_sub hl [0, 1, 2, 3, 4] rfl)
  have hi_t : g * q ≤ (g * q) ∧ (g * q) ≤ g * q + g := by omega
  have hi_y : 0 = ct (unP S (g * q)) ((g * q) - g * q) := by rw [Nat.sub_self]; rfl
  exact L_15 _ (g * q) 0 hi_t hi_y (Nat.lt_succ_self _) _ _ hP hD hS ls (lv_sub hl [0, 1, 2, 3, 4] rfl)
abbrev rmX2_pot : Room := { frames := 1, cells := 0, slots := 0, locals := 24 }
set_option maxHeartbeats 4000000 in
set_option maxRecDepth 100000 in
theorem kX2_pot (l : Launch) (D : va_G) (cI : ClassId) (c : Nat) (b : Nat) (ol : Nat) (el : Nat) (aSe : Nat) (aDt : Nat) (aOb : Nat) (fo : Bool) (fe : Bool) (dm : Nat) (g : Nat) (p : Nat) (bR : Nat) (bB : Nat) (bA : Nat) (bO : Nat) (bP : Nat) (bM : Nat) (S : Nat → Int32) (hg0 : 0 < g) (hg4 : g ≤ 4) (hp3 : p ≤ 3) (hT : g * p ≤ 9) : Ci l yX2_pot wsX2_pot rmX2_pot D [(cI, .int)] [.ref c] [(c, .inr (2, [.ref b, .ref ol, .int (bI fo), .ref el, .int (bI fe), .ref aSe, .ref aDt, .ref aOb, .int (nI dm)])), (b, .inr (0, [.int (nI g), .int (nI p), .int (nI (g * p)), .ref bR, .ref bB, .ref bA, .ref bO, .ref bP, .ref bM])), (aSe, .inl (cI, 9, .inl S))] (fun (r : Int32) (_ : Unit) => r = poF S g p) (fun (_ : Unit) => [(c, .inr (2, [.ref b, .ref ol, .int (bI fo), .ref el, .int (bI fe), .ref aSe, .ref aDt, .ref aOb, .int (nI dm)])), (b, .inr (0, [.int (nI g), .int (nI p), .int (nI (g * p)), .ref bR, .ref bB, .ref bA, .ref bO, .ref bP, .ref bM])), (aSe, .inl (cI, 9, .inl S))]) := by
  refine Ci_of (cc := cX2_pot) (maxL := 2) (by decide) rfl (Nat.le_of_ble_eq_true rfl) ?_
  intro pR eV sT mI args below meth cO AA QQ ls hXX hBB hml hown hts hnm hN hK hP hD hS hAA hl hret
  have hl : lv_has ls 2 [(0, .ref c)] := hl
  have kw_1 := hts (.fieldLink RX2 10 "CupDraw" "bowl" "LCupDraw$Bowl;") (List.mem_of_getElem? (i := 1) rfl)
  have iw_X2 : ∀ w ∈ wsX20, w ∈ wsX2_pot := by decide +kernel
  have kn_127 : (Cond.fieldLinkNest RX2 127 RX0 "pots" "I" RX2).before args sT = true := va_Nw.use rfl (hN _ (List.mem_of_getElem? (i := 3) rfl))
  have iw_X0 : ∀ w ∈ wsX00, w ∈ wsX2_pot := by decide +kernel
  refine lv_iconst (v := nI 0) hXX hBB dX2_pot_0 (by decide) ?_
  refine lv_istore_n (lv' := [(1, .int (nI 0)), (0, .ref c)]) hXX hBB dX2_pot_1 rfl hl (by decide) rfl (fun ls hl => ?_)
  have L_2 : ∀ (N_2 : Nat) (q : Nat), (q ≤ p) → (lowR (clN S g) (p - q) q = poF S g p) → p - q < N_2 → ∀ (H : Heap) (locs : List Loc), va_P D vwCl [(c, .inr (2, [.ref b, .ref ol, .int (bI fo), .ref el, .int (bI fe), .ref aSe, .ref aDt, .ref aOb, .int (nI dm)])), (b, .inr (0, [.int (nI g), .int (nI p), .int (nI (g * p)), .ref bR, .ref bB, .ref bA, .ref bO, .ref bP, .ref bM])), (aSe, .inl (cI, 9, .inl S))] H → va_D AA [(c, .inr (2, [.ref b, .ref ol, .int (bI fo), .ref el, .int (bI fe), .ref aSe, .ref aDt, .ref aOb, .int (nI dm)])), (b, .inr (0, [.int (nI g), .int (nI p), .int (nI (g * p)), .ref bR, .ref bB, .ref bA, .ref bO, .ref bP, .ref bM])), (aSe, .inl (cI, 9, .inl S))] → va_S AA sT.heap H locs → ∀ (ls : Array Slot), lv_has ls 2 [(1, .int (nI q)), (0, .ref c)] → W pR l eV rmX2_pot sT mI args below meth cO H locs 0 0 QQ (F0 mI 2 ls []) := by
    intro N_2
    induction N_2 with
    | zero =>
      intro q hq hr hMM
      exact absurd hMM (Nat.not_lt_zero _)
    | succ N_2 ih_2 =>
      intro q hq hr hMM H locs hP hD hS ls hl
      refine lv_iload_n hXX hBB dX2_pot_2 rfl (lv_at hl 0 rfl) ?_
      refine lv_aload_n hXX hBB dX2_pot_3 rfl (lv_at hl 1 rfl) ?_
      refine va_get (D := D) (ci := 2) (v := .ref b) (C := RX2) (T := TX2) (N := 9) hXX hBB hts iw_X2 hown hK hP 0 rfl rfl 0 (by decide) kw_1 (fun _ h9 => h9) rfl dX2_pot_4 ?_
      refine va_getN (D := D) (ci := 0) (v := .int (nI p)) (C := RX0) (T := TX0) (N := 9) hXX hBB hts iw_X0 hown hK hP 1 rfl rfl 1 (by decide) kn_127 (fun _ h9 => h9) rfl dX2_pot_7 ?_
      refine lv_icmp_ge (tgt := 29) hXX hBB dX2_pot_10 (by decide) (fun c_10 => ?_) (fun c_10 => ?_)
      · have c_10 : p ≤ q := (nI_leI (by omega) (by omega)).mp c_10
        rw [show p - q = 0 by omega] at hr
        refine lv_iconst (v := (-1)) hXX hBB dX2_pot_29 (by decide) ?_
        refine hret (r := (-1)) () ?_ (rfl) (hP.sub [0, 1, 2] rfl) (hD.sub [0, 1, 2] (by decide) rfl) hS (Nat.le_of_ble_eq_true rfl) (Nat.le_of_ble_eq_true rfl) dX2_pot_30
        show (-1) = poF S g p
        exact hr
      · have c_10 : ¬ p ≤ q := fun h9 => c_10 ((nI_leI (by omega) (by omega)).mpr h9)
        obtain ⟨z, hz⟩ : ∃ z, p - q = z + 1 := ⟨p - q - 1, by omega⟩
        rw [hz] at hr
        simp only [lowR] at hr
        refine lv_aload_n hXX hBB dX2_pot_13 rfl (lv_at hl 1 rfl) ?_
        refine lv_iload_n hXX hBB dX2_pot_14 rfl (lv_at hl 0 rfl) ?_
        refine m_calli (wr := []) ⟨hXX, hBB, hml, hown, hts⟩ hN (kX2_countLeft l D cI c b ol el aSe aDt aOb fo fe dm g p bR bB bA bO bP bM S q (by omega) (by omega) (by omega) (by omega) (by omega)) (cwV 1 hts gX2_pot_X2_countLeft rfl rfl rfl (by decide +kernel) ⟨Nat.le_of_ble_eq_true rfl, Nat.le_of_ble_eq_true rfl⟩) hK hP hD hS hAA [0, 1, 2] [] [0] rfl rfl rfl (by decide) (by decide) (by decide) rfl 2 rfl rfl rfl rfl hl.1 rfl (Nat.le_of_ble_eq_true rfl) dX2_pot_15 ⟨Nat.le_of_ble_eq_true rfl, Nat.le_of_ble_eq_true rfl⟩ (k := 0) (n := 0) rfl rfl (fun r_1 u_ H locs hw hP hD hS => ?_)
        have hw : (r_1 = nI (clN S g q)) := hw
        have hr_r_1 := hw
        have hP : va_P D vwCl [(c, .inr (2, [.ref b, .ref ol, .int (bI fo), .ref el, .int (bI fe), .ref aSe, .ref aDt, .ref aOb, .int (nI dm)])), (b, .inr (0, [.int (nI g), .int (nI p), .int (nI (g * p)), .ref bR, .ref bB, .ref bA, .ref bO, .ref bP, .ref bM])), (aSe, .inl (cI, 9, .inl S))] H := hP
        have hD : va_D AA [(c, .inr (2, [.ref b, .ref ol, .int (bI fo), .ref el, .int (bI fe), .ref aSe, .ref aDt, .ref aOb, .int (nI dm)])), (b, .inr (0, [.int (nI g), .int (nI p), .int (nI (g * p)), .ref bR, .ref bB, .ref bA, .ref bO, .ref bP, .ref bM])), (aSe, .inl (cI, 9, .inl S))] := hD
        subst hr_r_1
        have hcl := clN_le S g q
        refine lv_if_le (tgt := 23) hXX hBB dX2_pot_18 (by decide) (fun c_18 => ?_) (fun c_18 => ?_)
        · have c_18 : (clN S g q) = 0 := m_nps_le_t (by omega) c_18
          rw [if_neg (by omega)] at hr
          have hst : lowR (clN S g) (p - (q + 1)) (q + 1) = poF S g p := by rw [show p - (q + 1) = z by omega]; exact hr
          refine lv_iinc (v := nI (q + 1)) (lv' := [(1, .int (nI (q + 1))), (0, .ref c)]) hXX hBB dX2_pot_23 hl (k := 0) rfl (nI_1 _) (by decide) rfl (fun ls hl => ?_)
          refine lv_goto (tgt := 2) hXX hBB dX2_pot_26 (by decide) ?_
          have hi_q : (q + 1) ≤ p := by omega
          have hi_r : lowR (clN S g) (p - (q + 1)) (q + 1) = poF S g p := by exact hst
          have hmm : p - (q + 1) < N_2 := by omega
          exact ih_2 (q + 1) hi_q hi_r hmm _ _ (hP.sub [0, 1, 2] rfl) (hD.sub [0, 1, 2] (by decide) rfl) hS ls (lv_sub hl [0, 1] rfl)
        · have c_18 : 0 < (clN S g q) := m_pos_le_f (by omega) c_18
          rw [if_pos c_18] at hr
          refine lv_iload_n hXX hBB dX2_pot_21 rfl (lv_at hl 0 rfl) ?_
          refine hret (r := nI q) () ?_ (rfl) (hP.sub [0, 1, 2] rfl) (hD.sub [0, 1, 2] (by decide) rfl) hS (Nat.le_of_ble_eq_true rfl) (Nat.le_of_ble_eq_true rfl) dX2_pot_22
          show nI q = poF S g p
          exact hr
  have hi_q : 0 ≤ p := by omega
  have hi_r : lowR (clN S g) (p - 0) 0 = poF S g p := by rfl
  exact L_2 _ 0 hi_q hi_r (Nat.lt_succ_self _) _ _ hP hD hS ls (lv_sub hl [0, 1] rfl)
abbrev rmX2_left : Room := { frames := 2, cells := 0, slots := 0, locals := 45 }
set_option maxHeartbeats 4000000 in
set_option maxRecDepth 100000 in
theorem kX2_left (l : Launch) (D : va_G) (cI : ClassId) (c : Nat) (b : Nat) (ol : Nat) (el : Nat) (aSe : Nat) (aDt : Nat) (aOb : Nat) (fo : Bool) (fe : Bool) (dm : Nat) (g : Nat) (p : Nat) (bR : Nat) (bB : Nat) (bA : Nat) (bO : Nat) (bP : Nat) (bM : Nat) (S : Nat → Int32) (hg0 : 0 < g) (hg4 : g ≤ 4) (hp3 : p ≤ 3) (hT : g * p ≤ 9) : Ci l yX2_left wsX2_left rmX2_left D [(cI, .int)] [.ref c] [(c, .inr (2, [.ref b, .ref ol, .int (bI fo), .ref el, .int (bI fe), .ref aSe, .ref aDt, .ref aOb, .int (nI dm)])), (b, .inr (0, [.int (nI g), .int (nI p), .int (nI (g * p)), .ref bR, .ref bB, .ref bA, .ref bO, .ref bP, .ref bM])), (aSe, .inl (cI, 9, .inl S))] (fun (r : Int32) (_ : Unit) => r = nI (leF S g p)) (fun (_ : Unit) => [(c, .inr (2, [.ref b, .ref ol, .int (bI fo), .ref el, .int (bI fe), .ref aSe, .ref aDt, .ref aOb, .int (nI dm)])), (b, .inr (0, [.int (nI g), .int (nI p), .int (nI (g * p)), .ref bR, .ref bB, .ref bA, .ref bO, .ref bP, .ref bM])), (aSe, .inl (cI, 9, .inl S))]) := by
  refine Ci_of (cc := cX2_left) (maxL := 2) (by decide) rfl (Nat.le_of_ble_eq_true rfl) ?_
  intro pR eV sT mI args below meth cO AA QQ ls hXX hBB hml hown hts hnm hN hK hP hD hS hAA hl hret
  have hl : lv_has ls 2 [(0, .ref c)] := hl
  refine lv_aload_n hXX hBB dX2_left_0 rfl (lv_at hl 0 rfl) ?_
  refine m_calli (wr := []) ⟨hXX, hBB, hml, hown, hts⟩ hN (kX2_pot l D cI c b ol el aSe aDt aOb fo fe dm g p bR bB bA bO bP bM S (by omega) (by omega) (by omega) (by omega)) (cwV 0 hts gX2_left_X2_pot rfl rfl rfl (by decide +kernel) ⟨Nat.le_of_ble_eq_true rfl, Nat.le_of_ble_eq_true rfl⟩) hK hP hD hS hAA [0, 1, 2] [] [0] rfl rfl rfl (by decide) (by decide) (by decide) rfl 2 rfl rfl rfl rfl hl.1 rfl (Nat.le_of_ble_eq_true rfl) dX2_left_1 ⟨Nat.le_of_ble_eq_true rfl, Nat.le_of_ble_eq_true rfl⟩ (k := 0) (n := 0) rfl rfl (fun r_1 u_ H locs hw hP hD hS => ?_)
  have hw : (r_1 = poF S g p) := hw
  have hr_r_1 := hw
  have hP : va_P D vwCl [(c, .inr (2, [.ref b, .ref ol, .int (bI fo), .ref el, .int (bI fe), .ref aSe, .ref aDt, .ref aOb, .int (nI dm)])), (b, .inr (0, [.int (nI g), .int (nI p), .int (nI (g * p)), .ref bR, .ref bB, .ref bA, .ref bO, .ref bP, .ref bM])), (aSe, .inl (cI, 9, .inl S))] H := hP
  have hD : va_D AA [(c, .inr (2, [.ref b, .ref ol, .int (bI fo), .ref el, .int (bI fe), .ref aSe, .ref aDt, .ref aOb, .int (nI dm)])), (b, .inr (0, [.int (nI g), .int (nI p), .int (nI (g * p)), .ref bR, .ref bB, .ref bA, .ref bO, .ref bP, .ref bM])), (aSe, .inl (cI, 9, .inl S))] := hD
  subst hr_r_1
  refine lv_istore_n (lv' := [(1, .int (poF S g p)), (0, .ref c)]) hXX hBB dX2_left_4 rfl hl (by decide) rfl (fun ls hl => ?_)
  refine lv_iload_n hXX hBB dX2_left_5 rfl (lv_at hl 0 rfl) ?_
  refine lv_iconst (v := (-1)) hXX hBB dX2_left_6 (by decide) ?_
  refine lv_icmp_ne (tgt := 14) hXX hBB dX2_left_7 (by decide) (fun c_7 => ?_) (fun c_7 => ?_)
  · have c_7 := c_7
    obtain ⟨hpo, hpe⟩ := poF_some c_7
    have hl : lv_has ls 2 [(1, .int (nI (fstN (clN S g) p 0))), (0, .ref c)] := by rw [hpe] at hl; exact hl
    refine lv_aload_n hXX hBB dX2_left_14 rfl (lv_at hl 1 rfl) ?_
    refine lv_iload_n hXX hBB dX2_left_15 rfl (lv_at hl 0 rfl) ?_
    refine m_calli (wr := []) ⟨hXX, hBB, hml, hown, hts⟩ hN (kX2_countLeft l D cI c b ol el aSe aDt aOb fo fe dm g p bR bB bA bO bP bM S (fstN (clN S g) p 0) (by omega) (by omega) (by omega) (by omega) (by omega)) (cwV 1 hts gX2_left_X2_countLeft rfl rfl rfl (by decide +kernel) ⟨Nat.le_of_ble_eq_true rfl, Nat.le_of_ble_eq_true rfl⟩) hK hP hD hS hAA [0, 1, 2] [] [0] rfl rfl rfl (by decide) (by decide) (by decide) rfl 2 rfl rfl rfl rfl hl.1 rfl (Nat.le_of_ble_eq_true rfl) dX2_left_16 ⟨Nat.le_of_ble_eq_true rfl, Nat.le_of_ble_eq_true rfl⟩ (k := 0) (n := 0) rfl rfl (fun r_2 u_ H locs hw hP hD hS => ?_)
    have hw : (r_2 = nI (clN S g (fstN (clN S g) p 0))) := hw
    have hr_r_2 := hw
    have hP : va_P D vwCl [(c, .inr (2, [.ref b, .ref ol, .int (bI fo), .ref el, .int (bI fe), .ref aSe, .ref aDt, .ref aOb, .int (nI dm)])), (b, .inr (0, [.int (nI g), .int (nI p), .int (nI (g * p)), .ref bR, .ref bB, .ref bA, .ref bO, .ref bP, .ref bM])), (aSe, .inl (cI, 9, .inl S))] H := hP
    have hD : va_D AA [(c, .inr (2, [.ref b, .ref ol, .int (bI fo), .ref el, .int (bI fe), .ref aSe, .ref aDt, .ref aOb, .int (nI dm)])), (b, .inr (0, [.int (nI g), .int (nI p), .int (nI (g * p)), .ref bR, .ref bB, .ref bA, .ref bO, .ref bP, .ref bM])), (aSe, .inl (cI, 9, .inl S))] := hD
    subst hr_r_2
    refine hret (r := nI (clN S g (fstN (clN S g) p 0))) () ?_ (rfl) (hP.sub [0, 1, 2] rfl) (hD.sub [0, 1, 2] (by decide) rfl) hS (Nat.le_of_ble_eq_true rfl) (Nat.le_of_ble_eq_true rfl) dX2_left_19
    show nI (clN S g (fstN (clN S g) p 0)) = nI (leF S g p)
    simp only [leF]; rw [if_pos hpo]
  · have c_7 := c_7
    refine lv_iconst (v := nI 0) hXX hBB dX2_left_10 (by decide) ?_
    refine lv_goto (tgt := 19) hXX hBB dX2_left_11 (by decide) ?_
    refine hret (r := nI 0) () ?_ (rfl) (hP.sub [0, 1, 2] rfl) (hD.sub [0, 1, 2] (by decide) rfl) hS (Nat.le_of_ble_eq_true rfl) (Nat.le_of_ble_eq_true rfl) dX2_left_19
    show nI 0 = nI (leF S g p)
    simp only [leF]; rw [if_neg (poF_none (by omega) c_7)]
abbrev rmX2_findBall : Room := { frames := 2, cells := 0, slots := 0, locals := 45 }
set_option maxHeartbeats 4000000 in
set_option maxRecDepth 100000 in
theorem kX2_findBall (l : Launch) (D : va_G) (cI : ClassId) (c : Nat) (b : Nat) (ol : Nat) (el : Nat) (aSe : Nat) (aDt : Nat) (aOb : Nat) (fo : Bool) (fe : Bool) (dm : Nat) (g : Nat) (p : Nat) (bR : Nat) (bB : Nat) (bA : Nat) (bO : Nat) (bP : Nat) (bM : Nat) (S : Nat → Int32) (x : Int32) (hg0 : 0 < g) (hg4 : g ≤ 4) (hp3 : p ≤ 3) (hT : g * p ≤ 9) : Ci l yX2_findBall wsX2_findBall rmX2_findBall D [(cI, .int)] [.ref c, .int x] [(c, .inr (2, [.ref b, .ref ol, .int (bI fo), .ref el, .int (bI fe), .ref aSe, .ref aDt, .ref aOb, .int (nI dm)])), (b, .inr (0, [.int (nI g), .int (nI p), .int (nI (g * p)), .ref bR, .ref bB, .ref bA, .ref bO, .ref bP, .ref bM])), (aSe, .inl (cI, 9, .inl S))] (fun (r : Int32) (_ : Unit) => r = fbR S g p x) (fun (_ : Unit) => [(c, .inr (2, [.ref b, .ref ol, .int (bI fo), .ref el, .int (bI fe), .ref aSe, .ref aDt, .ref aOb, .int (nI dm)])), (b, .inr (0, [.int (nI g), .int (nI p), .int (nI (g * p)), .ref bR, .ref bB, .ref bA, .ref bO, .ref bP, .ref bM])), (aSe, .inl (cI, 9, .inl S))]) := by
  refine Ci_of (cc := cX2_findBall) (maxL := 6) (by decide) rfl (Nat.le_of_ble_eq_true rfl) ?_
  intro pR eV sT mI args below meth cO AA QQ ls hXX hBB hml hown hts hnm hN hK hP hD hS hAA hl hret
  have hl : lv_has ls 6 [(0, .ref c), (1, .int x)] := hl
  have kw_1 := hts (.fieldLink RX2 10 "CupDraw" "bowl" "LCupDraw$Bowl;") (List.mem_of_getElem? (i := 1) rfl)
  have iw_X2 : ∀ w ∈ wsX20, w ∈ wsX2_findBall := by decide +kernel
  have kn_147 : (Cond.fieldLinkNest RX2 147 RX0 "groups" "I" RX2).before args sT = true := va_Nw.use rfl (hN _ (List.mem_of_getElem? (i := 2) rfl))
  have iw_X0 : ∀ w ∈ wsX00, w ∈ wsX2_findBall := by decide +kernel
  have kw_2 := hts (.fieldLink RX2 26 "CupDraw" "seats" "[I") (List.mem_of_getElem? (i := 2) rfl)
  refine lv_aload_n hXX hBB dX2_findBall_0 rfl (lv_at hl 0 rfl) ?_
  refine m_calli (wr := []) ⟨hXX, hBB, hml, hown, hts⟩ hN (kX2_pot l D cI c b ol el aSe aDt aOb fo fe dm g p bR bB bA bO bP bM S (by omega) (by omega) (by omega) (by omega)) (cwV 0 hts gX2_findBall_X2_pot rfl rfl rfl (by decide +kernel) ⟨Nat.le_of_ble_eq_true rfl, Nat.le_of_ble_eq_true rfl⟩) hK hP hD hS hAA [0, 1, 2] [] [0] rfl rfl rfl (by decide) (by decide) (by decide) rfl 2 rfl rfl rfl rfl hl.1 rfl (Nat.le_of_ble_eq_true rfl) dX2_findBall_1 ⟨Nat.le_of_ble_eq_true rfl, Nat.le_of_ble_eq_true rfl⟩ (k := 0) (n := 0) rfl rfl (fun r_1 u_ H locs hw hP hD hS => ?_)
  have hw : (r_1 = poF S g p) := hw
  have hr_r_1 := hw
  have hP : va_P D vwCl [(c, .inr (2, [.ref b, .ref ol, .int (bI fo), .ref el, .int (bI fe), .ref aSe, .ref aDt, .ref aOb, .int (nI dm)])), (b, .inr (0, [.int (nI g), .int (nI p), .int (nI (g * p)), .ref bR, .ref bB, .ref bA, .ref bO, .ref bP, .ref bM])), (aSe, .inl (cI, 9, .inl S))] H := hP
  have hD : va_D AA [(c, .inr (2, [.ref b, .ref ol, .int (bI fo), .ref el, .int (bI fe), .ref aSe, .ref aDt, .ref aOb, .int (nI dm)])), (b, .inr (0, [.int (nI g), .int (nI p), .int (nI (g * p)), .ref bR, .ref bB, .ref bA, .ref bO, .ref bP, .ref bM])), (aSe, .inl (cI, 9, .inl S))] := hD
  subst hr_r_1
  refine lv_istore_n (lv' := [(2, .int (poF S g p)), (0, .ref c), (1, .int x)]) hXX hBB dX2_findBall_4 rfl hl (by decide) rfl (fun ls hl => ?_)
  refine lv_iload_n hXX hBB dX2_findBall_5 rfl (lv_at hl 0 rfl) ?_
  refine lv_iconst (v := (-1)) hXX hBB dX2_findBall_6 (by decide) ?_
  refine lv_icmp_eq (tgt := 14) hXX hBB dX2_findBall_7 (by decide) (fun c_7 => ?_) (fun c_7 => ?_)
  · have c_7 := c_7
    refine lv_iconst (v := (-1)) hXX hBB dX2_findBall_14 (by decide) ?_
    refine hret (r := (-1)) () ?_ (rfl) (hP.sub [0, 1, 2] rfl) (hD.sub [0, 1, 2] (by decide) rfl) hS (Nat.le_of_ble_eq_true rfl) (Nat.le_of_ble_eq_true rfl) dX2_findBall_15
    show (-1) = fbR S g p x
    unfold fbR
    first | (rw [if_neg (fun q9 => poF_none (by omega) c_7 q9.1)]; done) | (rw [if_neg (fun q9 => q9.2 (by first | exact Int32.not_le.mp c_11 | exact c_11))]; done)
  · have c_7 := c_7
    refine lv_iload_n hXX hBB dX2_findBall_10 rfl (lv_at hl 2 rfl) ?_
    refine lv_if_ge (tgt := 16) hXX hBB dX2_findBall_11 (by decide) (fun c_11 => ?_) (fun c_11 => ?_)
    · have c_11 := c_11
      have c_11 : ¬ x < 0 := by first | exact Int32.not_lt.mpr c_11 | exact c_11
      obtain ⟨hpo, hpe⟩ := poF_some c_7
      obtain ⟨k, hk, he_k⟩ := nI_of c_11
      have hl : lv_has ls 6 [(2, .int (nI (fstN (clN S g) p 0))), (0, .ref c), (1, .int (nI k))] := by rw [hpe, he_k] at hl; exact hl
      have hfb : fbR S g p x = nth S g (g * (fstN (clN S g) p 0)) k := by unfold fbR; rw [if_pos ⟨hpo, c_11⟩, he_k, tnI_nI hk]
      generalize hQg : (fstN (clN S g) p 0) = q at hl hpo hfb ⊢
      have hms : g * (q + 1) = g * q + g := Nat.mul_succ g q
      have hmq : g * (q + 1) ≤ g * p := Nat.mul_le_mul_left g hpo
      refine lv_iload_n hXX hBB dX2_findBall_16 rfl (lv_at hl 0 rfl) ?_
      refine lv_aload_n hXX hBB dX2_findBall_17 rfl (lv_at hl 1 rfl) ?_
      refine va_get (D := D) (ci := 2) (v := .ref b) (C := RX2) (T := TX2) (N := 9) hXX hBB hts iw_X2 hown hK hP 0 rfl rfl 0 (by decide) kw_1 (fun _ h9 => h9) rfl dX2_findBall_18 ?_
      refine va_getN (D := D) (ci := 0) (v := .int (nI g)) (C := RX0) (T := TX0) (N := 9) hXX hBB hts iw_X0 hown hK hP 1 rfl rfl 0 (by decide) kn_147 (fun _ h9 => h9) rfl dX2_findBall_21 ?_
      refine lv_imul hXX hBB dX2_findBall_24 ?_
      refine m_top (y := nI (g * q)) (by rw [pk_mul, Nat.mul_comm]) ?_
      refine lv_istore_n (lv' := [(3, .int (nI (g * q))), (2, .int (nI q)), (0, .ref c), (1, .int (nI k))]) hXX hBB dX2_findBall_25 rfl hl (by decide) rfl (fun ls hl => ?_)
      refine lv_iload_n hXX hBB dX2_findBall_26 rfl (lv_at hl 3 rfl) ?_
      refine lv_istore (lv' := [(4, .int (nI k)), (3, .int (nI (g * q))), (2, .int (nI q)), (0, .ref c), (1, .int (nI k))]) hXX hBB dX2_findBall_27 hl (by decide) rfl (fun ls hl => ?_)
      refine lv_iload_n hXX hBB dX2_findBall_29 rfl (lv_at hl 1 rfl) ?_
      refine lv_istore (lv' := [(5, .int (nI (g * q))), (4, .int (nI k)), (3, .int (nI (g * q))), (2, .int (nI q)), (0, .ref c), (1, .int (nI k))]) hXX hBB dX2_findBall_30 hl (by decide) rfl (fun ls hl => ?_)
      have L_32 : ∀ (N_32 : Nat) (t : Nat) (lq : Nat), (g * q ≤ t ∧ t ≤ g * q + g) → (lq < 2 ^ 31) → (nth S (g * q + g - t) t lq = nth S g (g * q) k) → g * q + g - t < N_32 → ∀ (H : Heap) (locs : List Loc), va_P D vwCl [(c, .inr (2, [.ref b, .ref ol, .int (bI fo), .ref el, .int (bI fe), .ref aSe, .ref aDt, .ref aOb, .int (nI dm)])), (b, .inr (0, [.int (nI g), .int (nI p), .int (nI (g * p)), .ref bR, .ref bB, .ref bA, .ref bO, .ref bP, .ref bM])), (aSe, .inl (cI, 9, .inl S))] H → va_D AA [(c, .inr (2, [.ref b, .ref ol, .int (bI fo), .ref el, .int (bI fe), .ref aSe, .ref aDt, .ref aOb, .int (nI dm)])), (b, .inr (0, [.int (nI g), .int (nI p), .int (nI (g * p)), .ref bR, .ref bB, .ref bA, .ref bO, .ref bP, .ref bM])), (aSe, .inl (cI, 9, .inl S))] → va_S AA sT.heap H locs → ∀ (ls : Array Slot), lv_has ls 6 [(5, .int (nI t)), (4, .int (nI lq)), (3, .int (nI (g * q))), (2, .int (nI q)), (0, .ref c), (1, .int (nI k))] → W pR l eV rmX2_findBall sT mI args below meth cO H locs 0 0 QQ (F0 mI 32 ls []) := by
        intro N_32
        induction N_32 with
        | zero =>
          intro t lq ht hlq hr hMM
          exact absurd hMM (Nat.not_lt_zero _)
        | succ N_32 ih_32 =>
          intro t lq ht hlq hr hMM H locs hP hD hS ls hl
          refine lv_iload hXX hBB dX2_findBall_32 (lv_at hl 0 rfl) ?_
          refine lv_iload_n hXX hBB dX2_findBall_34 rfl (lv_at hl 2 rfl) ?_
          refine lv_aload_n hXX hBB dX2_findBall_35 rfl (lv_at hl 4 rfl) ?_
          refine va_get (D := D) (ci := 2) (v := .ref b) (C := RX2) (T := TX2) (N := 9) hXX hBB hts iw_X2 hown hK hP 0 rfl rfl 0 (by decide) kw_1 (fun _ h9 => h9) rfl dX2_findBall_36 ?_
          refine va_getN (D := D) (ci := 0) (v := .int (nI g)) (C := RX0) (T := TX0) (N := 9) hXX hBB hts iw_X0 hown hK hP 1 rfl rfl 0 (by decide) kn_147 (fun _ h9 => h9) rfl dX2_findBall_39 ?_
          refine lv_iadd hXX hBB dX2_findBall_42 ?_
          refine m_top (y := nI ((g * q) + g)) (nI_add _ _) ?_
          refine lv_icmp_ge (tgt := 74) hXX hBB dX2_findBall_43 (by decide) (fun c_43 => ?_) (fun c_43 => ?_)
          · have c_43 : ((g * q) + g) ≤ t := (nI_leI (by omega) (by omega)).mp c_43
            rw [show g * q + g - t = 0 by omega] at hr
            refine lv_iconst (v := (-1)) hXX hBB dX2_findBall_74 (by decide) ?_
            refine hret (r := (-1)) () ?_ (rfl) (hP.sub [0, 1, 2] rfl) (hD.sub [0, 1, 2] (by decide) rfl) hS (Nat.le_of_ble_eq_true rfl) (Nat.le_of_ble_eq_true rfl) dX2_findBall_75
            show (-1) = fbR S g p x
            rw [hfb]; exact hr
          · have c_43 : ¬ ((g * q) + g) ≤ t := fun h9 => c_43 ((nI_leI (by omega) (by omega)).mpr h9)
            obtain ⟨z, hz⟩ : ∃ z, g * q + g - t = z + 1 := ⟨g * q + g - t - 1, by omega⟩
            rw [hz] at hr
            simp only [nth] at hr
            refine lv_aload_n hXX hBB dX2_findBall_46 rfl (lv_at hl 4 rfl) ?_
            refine va_get (D := D) (ci := 2) (v := .ref aSe) (C := RX2) (T := TX2) (N := 9) hXX hBB hts iw_X2 hown hK hP 0 rfl rfl 5 (by decide) kw_2 (fun _ h9 => h9) rfl dX2_findBall_47 ?_
            refine lv_iload hXX hBB dX2_findBall_50 (lv_at hl 0 rfl) ?_
            refine m_iald hXX hBB hK hP 2 0 rfl rfl (i := t) (by omega) (by decide) (x := S t) rfl dX2_findBall_52 ?_
            refine lv_iconst (v := (-1)) hXX hBB dX2_findBall_53 (by decide) ?_
            refine lv_icmp_ne (tgt := 68) hXX hBB dX2_findBall_54 (by decide) (fun c_54 => ?_) (fun c_54 => ?_)
            · have c_54 := c_54
              rw [if_neg c_54] at hr
              have hst : nth S (g * q + g - (t + 1)) (t + 1) lq = nth S g (g * q) k := by rw [show g * q + g - (t + 1) = z by omega]; exact hr
              refine lv_iinc (v := nI (t + 1)) (lv' := [(5, .int (nI (t + 1))), (4, .int (nI lq)), (3, .int (nI (g * q))), (2, .int (nI q)), (0, .ref c), (1, .int (nI k))]) hXX hBB dX2_findBall_68 hl (k := 0) rfl (nI_1 _) (by decide) rfl (fun ls hl => ?_)
              refine lv_goto (tgt := 32) hXX hBB dX2_findBall_71 (by decide) ?_
              have hi_t : g * q ≤ (t + 1) ∧ (t + 1) ≤ g * q + g := by omega
              have hi_lq : lq < 2 ^ 31 := by omega
              have hi_r : nth S (g * q + g - (t + 1)) (t + 1) lq = nth S g (g * q) k := by exact hst
              have hmm : g * q + g - (t + 1) < N_32 := by omega
              exact ih_32 (t + 1) lq hi_t hi_lq hi_r hmm _ _ (hP.sub [0, 1, 2] rfl) (hD.sub [0, 1, 2] (by decide) rfl) hS ls (lv_sub hl [0, 1, 2, 3, 4, 5] rfl)
            · have c_54 := c_54
              rw [if_pos c_54] at hr
              refine lv_iload hXX hBB dX2_findBall_57 (lv_at hl 1 rfl) ?_
              refine lv_if_ne (tgt := 65) hXX hBB dX2_findBall_59 (by decide) (fun c_59 => ?_) (fun c_59 => ?_)
              · have c_59 : ¬ lq = 0 := fun h9 => c_59 ((m_z (by omega)).mpr h9)
                rw [if_neg c_59] at hr
                have hst : nth S (g * q + g - (t + 1)) (t + 1) (lq - 1) = nth S g (g * q) k := by rw [show g * q + g - (t + 1) = z by omega]; exact hr
                refine lv_iinc (v := nI (lq - 1)) (lv' := [(4, .int (nI (lq - 1))), (5, .int (nI t)), (3, .int (nI (g * q))), (2, .int (nI q)), (0, .ref c), (1, .int (nI k))]) hXX hBB dX2_findBall_65 hl (k := 1) rfl (m_dec (by omega)) (by decide) rfl (fun ls hl => ?_)
                refine lv_iinc (v := nI (t + 1)) (lv' := [(5, .int (nI (t + 1))), (4, .int (nI (lq - 1))), (3, .int (nI (g * q))), (2, .int (nI q)), (0, .ref c), (1, .int (nI k))]) hXX hBB dX2_findBall_68 hl (k := 1) rfl (nI_1 _) (by decide) rfl (fun ls hl => ?_)
                refine lv_goto (tgt := 32) hXX hBB dX2_findBall_71 (by decide) ?_
                have hi_t : g * q ≤ (t + 1) ∧ (t + 1) ≤ g * q + g := by omega
                have hi_lq : (lq - 1) < 2 ^ 31 := by omega
                have hi_r : nth S (g * q + g - (t + 1)) (t + 1) (lq - 1) = nth S g (g * q) k := by exact hst
                have hmm : g * q + g - (t + 1) < N_32 := by omega
                exact ih_32 (t + 1) (lq - 1) hi_t hi_lq hi_r hmm _ _ (hP.sub [0, 1, 2] rfl) (hD.sub [0, 1, 2] (by decide) rfl) hS ls (lv_sub hl [0, 1, 2, 3, 4, 5] rfl)
              · have c_59 : lq = 0 := (m_z (by omega)).mp c_59
                rw [if_pos c_59] at hr
                refine lv_iload hXX hBB dX2_findBall_62 (lv_at hl 0 rfl) ?_
                refine hret (r := nI t) () ?_ (rfl) (hP.sub [0, 1, 2] rfl) (hD.sub [0, 1, 2] (by decide) rfl) hS (Nat.le_of_ble_eq_true rfl) (Nat.le_of_ble_eq_true rfl) dX2_findBall_64
                show nI t = fbR S g p x
                rw [hfb]; exact hr
      have hi_t : g * q ≤ (g * q) ∧ (g * q) ≤ g * q + g := by omega
      have hi_lq : k < 2 ^ 31 := by exact hk
      have hi_r : nth S (g * q + g - (g * q)) (g * q) k = nth S g (g * q) k := by rw [show g * q + g - g * q = g by omega]
      exact L_32 _ (g * q) k hi_t hi_lq hi_r (Nat.lt_succ_self _) _ _ hP hD hS ls (lv_sub hl [0, 1, 2, 3, 4, 5] rfl)
    · have c_11 := c_11
      refine lv_iconst (v := (-1)) hXX hBB dX2_findBall_14 (by decide) ?_
      refine hret (r := (-1)) () ?_ (rfl) (hP.sub [0, 1, 2] rfl) (hD.sub [0, 1, 2] (by decide) rfl) hS (Nat.le_of_ble_eq_true rfl) (Nat.le_of_ble_eq_true rfl) dX2_findBall_15
      show (-1) = fbR S g p x
      unfold fbR
      first | (rw [if_neg (fun q9 => poF_none (by omega) c_7 q9.1)]; done) | (rw [if_neg (fun q9 => q9.2 (by first | exact Int32.not_le.mp c_11 | exact c_11))]; done)
abbrev rmX2_orders : Room := { frames := 1, cells := 0, slots := 0, locals := 24 }
set_option maxHeartbeats 4000000 in
set_option maxRecDepth 100000 in
theorem kX2_orders (l : Launch) (D : va_G) (cI : ClassId) (c : Nat) (b : Nat) (ol : Nat) (el : Nat) (aSe : Nat) (aDt : Nat) (aOb : Nat) (fo : Bool) (fe : Bool) (dm : Nat) (g : Nat) (p : Nat) (bR : Nat) (bB : Nat) (bA : Nat) (bO : Nat) (bP : Nat) (bM : Nat) (S : Nat → Int32) (hg0 : 0 < g) (hg4 : g ≤ 4) (hp3 : p ≤ 3) (hT : g * p ≤ 9) : Ci l yX2_orders wsX2_orders rmX2_orders D [(cI, .int)] [.ref c] [(c, .inr (2, [.ref b, .ref ol, .int (bI fo), .ref el, .int (bI fe), .ref aSe, .ref aDt, .ref aOb, .int (nI dm)])), (b, .inr (0, [.int (nI g), .int (nI p), .int (nI (g * p)), .ref bR, .ref bB, .ref bA, .ref bO, .ref bP, .ref bM])), (aSe, .inl (cI, 9, .inl S))] (fun (r : Int32) (_ : Unit) => r = nI (ordN S g p)) (fun (_ : Unit) => [(c, .inr (2, [.ref b, .ref ol, .int (bI fo), .ref el, .int (bI fe), .ref aSe, .ref aDt, .ref aOb, .int (nI dm)])), (b, .inr (0, [.int (nI g), .int (nI p), .int (nI (g * p)), .ref bR, .ref bB, .ref bA, .ref bO, .ref bP, .ref bM])), (aSe, .inl (cI, 9, .inl S))]) := by
  refine Ci_of (cc := cX2_orders) (maxL := 3) (by decide) rfl (Nat.le_of_ble_eq_true rfl) ?_
  intro pR eV sT mI args below meth cO AA QQ ls hXX hBB hml hown hts hnm hN hK hP hD hS hAA hl hret
  have hl : lv_has ls 3 [(0, .ref c)] := hl
  have kw_1 := hts (.fieldLink RX2 10 "CupDraw" "bowl" "LCupDraw$Bowl;") (List.mem_of_getElem? (i := 1) rfl)
  have iw_X2 : ∀ w ∈ wsX20, w ∈ wsX2_orders := by decide +kernel
  have kn_127 : (Cond.fieldLinkNest RX2 127 RX0 "pots" "I" RX2).before args sT = true := va_Nw.use rfl (hN _ (List.mem_of_getElem? (i := 3) rfl))
  have iw_X0 : ∀ w ∈ wsX00, w ∈ wsX2_orders := by decide +kernel
  refine lv_iconst (v := nI 1) hXX hBB dX2_orders_0 (by decide) ?_
  refine lv_istore_n (lv' := [(1, .int (nI 1)), (0, .ref c)]) hXX hBB dX2_orders_1 rfl hl (by decide) rfl (fun ls hl => ?_)
  refine lv_iconst (v := nI 0) hXX hBB dX2_orders_2 (by decide) ?_
  refine lv_istore_n (lv' := [(2, .int (nI 0)), (1, .int (nI 1)), (0, .ref c)]) hXX hBB dX2_orders_3 rfl hl (by decide) rfl (fun ls hl => ?_)
  have L_4 : ∀ (N_4 : Nat) (q : Nat) (x : Nat), (q ≤ p) → (x = ordN S g q) → p - q < N_4 → ∀ (H : Heap) (locs : List Loc), va_P D vwCl [(c, .inr (2, [.ref b, .ref ol, .int (bI fo), .ref el, .int (bI fe), .ref aSe, .ref aDt, .ref aOb, .int (nI dm)])), (b, .inr (0, [.int (nI g), .int (nI p), .int (nI (g * p)), .ref bR, .ref bB, .ref bA, .ref bO, .ref bP, .ref bM])), (aSe, .inl (cI, 9, .inl S))] H → va_D AA [(c, .inr (2, [.ref b, .ref ol, .int (bI fo), .ref el, .int (bI fe), .ref aSe, .ref aDt, .ref aOb, .int (nI dm)])), (b, .inr (0, [.int (nI g), .int (nI p), .int (nI (g * p)), .ref bR, .ref bB, .ref bA, .ref bO, .ref bP, .ref bM])), (aSe, .inl (cI, 9, .inl S))] → va_S AA sT.heap H locs → ∀ (ls : Array Slot), lv_has ls 3 [(2, .int (nI q)), (1, .int (nI x)), (0, .ref c)] → W pR l eV rmX2_orders sT mI args below meth cO H locs 0 0 QQ (F0 mI 4 ls []) := by
    intro N_4
    induction N_4 with
    | zero =>
      intro q x hq hx hMM
      exact absurd hMM (Nat.not_lt_zero _)
    | succ N_4 ih_4 =>
      intro q x hq hx hMM H locs hP hD hS ls hl
      refine lv_iload_n hXX hBB dX2_orders_4 rfl (lv_at hl 0 rfl) ?_
      refine lv_aload_n hXX hBB dX2_orders_5 rfl (lv_at hl 2 rfl) ?_
      refine va_get (D := D) (ci := 2) (v := .ref b) (C := RX2) (T := TX2) (N := 9) hXX hBB hts iw_X2 hown hK hP 0 rfl rfl 0 (by decide) kw_1 (fun _ h9 => h9) rfl dX2_orders_6 ?_
      refine va_getN (D := D) (ci := 0) (v := .int (nI p)) (C := RX0) (T := TX0) (N := 9) hXX hBB hts iw_X0 hown hK hP 1 rfl rfl 1 (by decide) kn_127 (fun _ h9 => h9) rfl dX2_orders_9 ?_
      refine lv_icmp_ge (tgt := 32) hXX hBB dX2_orders_12 (by decide) (fun c_12 => ?_) (fun c_12 => ?_)
      · have c_12 : p ≤ q := (nI_leI (by omega) (by omega)).mp c_12
        have hE : q = p := by omega
        refine lv_iload_n hXX hBB dX2_orders_32 rfl (lv_at hl 1 rfl) ?_
        refine hret (r := nI x) () ?_ (rfl) (hP.sub [0, 1, 2] rfl) (hD.sub [0, 1, 2] (by decide) rfl) hS (Nat.le_of_ble_eq_true rfl) (Nat.le_of_ble_eq_true rfl) dX2_orders_33
        show nI x = nI (ordN S g p)
        rw [hx, hE]
      · have c_12 : ¬ p ≤ q := fun h9 => c_12 ((nI_leI (by omega) (by omega)).mpr h9)
        refine lv_iload_n hXX hBB dX2_orders_15 rfl (lv_at hl 1 rfl) ?_
        refine lv_aload_n hXX hBB dX2_orders_16 rfl (lv_at hl 2 rfl) ?_
        refine lv_iload_n hXX hBB dX2_orders_17 rfl (lv_at hl 0 rfl) ?_
        refine m_calli (wr := []) ⟨hXX, hBB, hml, hown, hts⟩ hN (kX2_countLeft l D cI c b ol el aSe aDt aOb fo fe dm g p bR bB bA bO bP bM S q (by omega) (by omega) (by omega) (by omega) (by omega)) (cwV 1 hts gX2_orders_X2_countLeft rfl rfl rfl (by decide +kernel) ⟨Nat.le_of_ble_eq_true rfl, Nat.le_of_ble_eq_true rfl⟩) hK hP hD hS hAA [0, 1, 2] [] [0] rfl rfl rfl (by decide) (by decide) (by decide) rfl 2 rfl rfl rfl rfl hl.1 rfl (Nat.le_of_ble_eq_true rfl) dX2_orders_18 ⟨Nat.le_of_ble_eq_true rfl, Nat.le_of_ble_eq_true rfl⟩ (k := 0) (n := 0) rfl rfl (fun r_1 u_ H locs hw hP hD hS => ?_)
        have hw : (r_1 = nI (clN S g q)) := hw
        have hr_r_1 := hw
        have hP : va_P D vwCl [(c, .inr (2, [.ref b, .ref ol, .int (bI fo), .ref el, .int (bI fe), .ref aSe, .ref aDt, .ref aOb, .int (nI dm)])), (b, .inr (0, [.int (nI g), .int (nI p), .int (nI (g * p)), .ref bR, .ref bB, .ref bA, .ref bO, .ref bP, .ref bM])), (aSe, .inl (cI, 9, .inl S))] H := hP
        have hD : va_D AA [(c, .inr (2, [.ref b, .ref ol, .int (bI fo), .ref el, .int (bI fe), .ref aSe, .ref aDt, .ref aOb, .int (nI dm)])), (b, .inr (0, [.int (nI g), .int (nI p), .int (nI (g * p)), .ref bR, .ref bB, .ref bA, .ref bO, .ref bP, .ref bM])), (aSe, .inl (cI, 9, .inl S))] := hD
        subst hr_r_1
        have hcl := clN_le S g q
        refine m_scalli (wr := [(c, .inr (2, [.ref b, .ref ol, .int (bI fo), .ref el, .int (bI fe), .ref aSe, .ref aDt, .ref aOb, .int (nI dm)])), (b, .inr (0, [.int (nI g), .int (nI p), .int (nI (g * p)), .ref bR, .ref bB, .ref bA, .ref bO, .ref bP, .ref bM])), (aSe, .inl (cI, 9, .inl S))]) ⟨hXX, hBB, hml, hown, hts⟩ hN (kX2_factorial l D (clN S g q) (by omega)) (va_cwS 1 hts gX2_orders_X2_factorial rfl rfl rfl (by decide +kernel) ⟨Nat.le_of_ble_eq_true rfl, Nat.le_of_ble_eq_true rfl⟩) hK hP hD hS hAA [] [0, 1, 2] [] rfl rfl rfl (by decide) (by decide) (by decide) rfl hl.1 rfl (Nat.le_of_ble_eq_true rfl) dX2_orders_21 ⟨Nat.le_of_ble_eq_true rfl, Nat.le_of_ble_eq_true rfl⟩ (k := 0) (n := 0) rfl rfl (fun r_2 u_ H locs hw hP hD hS => ?_)
        have hw : (r_2 = nI (fac (clN S g q))) := hw
        have hr_r_2 := hw
        have hP : va_P D vwCl [(c, .inr (2, [.ref b, .ref ol, .int (bI fo), .ref el, .int (bI fe), .ref aSe, .ref aDt, .ref aOb, .int (nI dm)])), (b, .inr (0, [.int (nI g), .int (nI p), .int (nI (g * p)), .ref bR, .ref bB, .ref bA, .ref bO, .ref bP, .ref bM])), (aSe, .inl (cI, 9, .inl S))] H := hP
        have hD : va_D AA [(c, .inr (2, [.ref b, .ref ol, .int (bI fo), .ref el, .int (bI fe), .ref aSe, .ref aDt, .ref aOb, .int (nI dm)])), (b, .inr (0, [.int (nI g), .int (nI p), .int (nI (g * p)), .ref bR, .ref bB, .ref bA, .ref bO, .ref bP, .ref bM])), (aSe, .inl (cI, 9, .inl S))] := hD
        subst hr_r_2
        refine lv_imul hXX hBB dX2_orders_24 ?_
        refine m_top (y := nI (x * (fac (clN S g q)))) (pk_mul _ _) ?_
        refine lv_istore_n (lv' := [(1, .int (nI (x * (fac (clN S g q))))), (2, .int (nI q)), (0, .ref c)]) hXX hBB dX2_orders_25 rfl hl (by decide) rfl (fun ls hl => ?_)
        refine lv_iinc (v := nI (q + 1)) (lv' := [(2, .int (nI (q + 1))), (1, .int (nI (x * (fac (clN S g q))))), (0, .ref c)]) hXX hBB dX2_orders_26 hl (k := 1) rfl (nI_1 _) (by decide) rfl (fun ls hl => ?_)
        refine lv_goto (tgt := 4) hXX hBB dX2_orders_29 (by decide) ?_
        have hi_q : (q + 1) ≤ p := by omega
        have hi_x : (x * (fac (clN S g q))) = ordN S g (q + 1) := by rw [hx]; simp only [ordN]; rfl
        have hmm : p - (q + 1) < N_4 := by omega
        exact ih_4 (q + 1) (x * (fac (clN S g q))) hi_q hi_x hmm _ _ (hP.sub [0, 1, 2] rfl) (hD.sub [0, 1, 2] (by decide) rfl) hS ls (lv_sub hl [0, 1, 2] rfl)
  have hi_q : 0 ≤ p := by omega
  have hi_x : 1 = ordN S g 0 := by rfl
  exact L_4 _ 0 1 hi_q hi_x (Nat.lt_succ_self _) _ _ hP hD hS ls (lv_sub hl [0, 1, 2] rfl)
abbrev rmX2_startWith : Room := { frames := 2, cells := 0, slots := 0, locals := 46 }
set_option maxHeartbeats 4000000 in
set_option maxRecDepth 100000 in
theorem kX2_startWith (l : Launch) (D : va_G) (cI : ClassId) (c : Nat) (b : Nat) (ol : Nat) (el : Nat) (aSe : Nat) (aDt : Nat) (aOb : Nat) (fo : Bool) (fe : Bool) (dm : Nat) (g : Nat) (p : Nat) (T : Nat) (bR : Nat) (bB : Nat) (bA : Nat) (bO : Nat) (bP : Nat) (bM : Nat) (rg : Nat → Nat) (bd : Nat → Nat) (ap : Nat → Nat) (od : Nat → Nat) (pm : Nat → Nat) (S : Nat → Int32) (g2 : Nat) (p2 : Nat) (hg2 : 2 ≤ g2) (hg4 : g2 ≤ 4) (hp3 : p2 ≤ 3) (hT : g2 * p2 ≤ 9) : Cv l yX2_startWith wsX2_startWith rmX2_startWith D [(cI, .int)] [.ref c, .int (nI g2), .int (nI p2)] [(c, .inr (2, [.ref b, .ref ol, .int (bI fo), .ref el, .int (bI fe), .ref aSe, .ref aDt, .ref aOb, .int (nI dm)])), (b, .inr (0, [.int (nI g), .int (nI p), .int (nI T), .ref bR, .ref bB, .ref bA, .ref bO, .ref bP, .ref bM])), (bR, .inl (cI, 9, .inl (fun j => nI (rg j)))), (bB, .inl (cI, 6, .inl (fun j => nI (bd j)))), (bA, .inl (cI, 9, .inl (fun j => nI (ap j)))), (bO, .inl (cI, 9, .inl (fun j => nI (od j)))), (bP, .inl (cI, 9, .inl (fun j => nI (pm j)))), (aSe, .inl (cI, 9, .inl S))] (fun (u : (Nat → Nat)) => (∀ z, z < g2 * p2 → u z = pmN g2 z)) (fun (u : (Nat → Nat)) => [(c, .inr (2, [.ref b, .ref ol, .int (bI false), .ref el, .int (bI false), .ref aSe, .ref aDt, .ref aOb, .int (nI 0)])), (b, .inr (0, [.int (nI g2), .int (nI p2), .int (nI (g2 * p2)), .ref bR, .ref bB, .ref bA, .ref bO, .ref bP, .ref bM])), (bR, .inl (cI, 9, .inl (fun j => nI ((fun _ => 0) j)))), (bB, .inl (cI, 6, .inl (fun j => nI ((fun _ => 3) j)))), (bA, .inl (cI, 9, .inl (fun j => nI ((fun _ => 0) j)))), (bO, .inl (cI, 9, .inl (fun j => nI ((fun _ => 0) j)))), (bP, .inl (cI, 9, .inl (fun j => nI (u j)))), (aSe, .inl (cI, 9, .inl (fun _ => -1)))]) := by
  refine Cv_of (cc := cX2_startWith) (maxL := 4) (by decide) rfl (Nat.le_of_ble_eq_true rfl) ?_
  intro pR eV sT mI args below meth cO AA QQ ls hXX hBB hml hown hts hnm hN hK hP hD hS hAA hl hret
  have hl : lv_has ls 4 [(0, .ref c), (1, .int (nI g2)), (2, .int (nI p2))] := hl
  have kw_1 := hts (.fieldLink RX2 10 "CupDraw" "bowl" "LCupDraw$Bowl;") (List.mem_of_getElem? (i := 1) rfl)
  have iw_X2 : ∀ w ∈ wsX20, w ∈ wsX2_startWith := by decide +kernel
  have kw_2 := hts (.fieldLink RX2 26 "CupDraw" "seats" "[I") (List.mem_of_getElem? (i := 2) rfl)
  have kw_3 := hts (.fieldLink RX2 92 "CupDraw" "drawnCount" "I") (List.mem_of_getElem? (i := 3) rfl)
  refine lv_aload_n hXX hBB dX2_startWith_0 rfl (lv_at hl 0 rfl) ?_
  refine va_get (D := D) (ci := 2) (v := .ref b) (C := RX2) (T := TX2) (N := 9) hXX hBB hts iw_X2 hown hK hP 0 rfl rfl 0 (by decide) kw_1 (fun _ h9 => h9) rfl dX2_startWith_1 ?_
  refine lv_iload_n hXX hBB dX2_startWith_4 rfl (lv_at hl 1 rfl) ?_
  refine lv_iload_n hXX hBB dX2_startWith_5 rfl (lv_at hl 2 rfl) ?_
  refine m_callv (wr := [(c, .inr (2, [.ref b, .ref ol, .int (bI fo), .ref el, .int (bI fe), .ref aSe, .ref aDt, .ref aOb, .int (nI dm)])), (aSe, .inl (cI, 9, .inl S))]) ⟨hXX, hBB, hml, hown, hts⟩ hN (kX0_reset l D cI b g p T bR bB bA bO bP bM rg bd ap od pm g2 p2 (by omega) (by omega) (by omega) (by omega)) (cwV 2 hts gX2_startWith_X0_reset rfl rfl rfl (by decide +kernel) ⟨Nat.le_of_ble_eq_true rfl, Nat.le_of_ble_eq_true rfl⟩) hK hP hD hS hAA [1, 2, 3, 4, 5, 6] [0, 7] [0] rfl rfl rfl (by decide) (by decide) (by decide) rfl 0 rfl rfl rfl rfl hl.1 rfl (Nat.le_of_ble_eq_true rfl) dX2_startWith_6 ⟨Nat.le_of_ble_eq_true rfl, Nat.le_of_ble_eq_true rfl⟩ (k := 0) (n := 0) rfl rfl (fun  u_ H locs hw hP hD hS => ?_)
  obtain ⟨po, rfl⟩ : ∃ z, z = u_ := ⟨_, rfl⟩
  have hw : (∀ z, z < g2 * p2 → po z = pmN g2 z) := hw
  have e_p := hw
  have hP : va_P D vwCl [(c, .inr (2, [.ref b, .ref ol, .int (bI fo), .ref el, .int (bI fe), .ref aSe, .ref aDt, .ref aOb, .int (nI dm)])), (aSe, .inl (cI, 9, .inl S)), (b, .inr (0, [.int (nI g2), .int (nI p2), .int (nI (g2 * p2)), .ref bR, .ref bB, .ref bA, .ref bO, .ref bP, .ref bM])), (bR, .inl (cI, 9, .inl (fun j => nI ((fun _ => 0) j)))), (bB, .inl (cI, 6, .inl (fun j => nI ((fun _ => 3) j)))), (bA, .inl (cI, 9, .inl (fun j => nI ((fun _ => 0) j)))), (bO, .inl (cI, 9, .inl (fun j => nI ((fun _ => 0) j)))), (bP, .inl (cI, 9, .inl (fun j => nI (po j))))] H := hP
  have hD : va_D AA [(c, .inr (2, [.ref b, .ref ol, .int (bI fo), .ref el, .int (bI fe), .ref aSe, .ref aDt, .ref aOb, .int (nI dm)])), (aSe, .inl (cI, 9, .inl S)), (b, .inr (0, [.int (nI g2), .int (nI p2), .int (nI (g2 * p2)), .ref bR, .ref bB, .ref bA, .ref bO, .ref bP, .ref bM])), (bR, .inl (cI, 9, .inl (fun j => nI ((fun _ => 0) j)))), (bB, .inl (cI, 6, .inl (fun j => nI ((fun _ => 3) j)))), (bA, .inl (cI, 9, .inl (fun j => nI ((fun _ => 0) j)))), (bO, .inl (cI, 9, .inl (fun j => nI ((fun _ => 0) j)))), (bP, .inl (cI, 9, .inl (fun j => nI (po j))))] := hD
  refine lv_iconst (v := nI 0) hXX hBB dX2_startWith_9 (by decide) ?_
  refine lv_istore_n (lv' := [(3, .int (nI 0)), (0, .ref c), (1, .int (nI g2)), (2, .int (nI p2))]) hXX hBB dX2_startWith_10 rfl hl (by decide) rfl (fun ls hl => ?_)
  have L_11 : ∀ (N_11 : Nat) (k : Nat) (Sq : Nat → Int32), (k ≤ 9) → (∀ z, z < k → Sq z = -1) → 9 - k < N_11 → ∀ (H : Heap) (locs : List Loc), va_P D vwCl [(c, .inr (2, [.ref b, .ref ol, .int (bI fo), .ref el, .int (bI fe), .ref aSe, .ref aDt, .ref aOb, .int (nI dm)])), (aSe, .inl (cI, 9, .inl Sq)), (b, .inr (0, [.int (nI g2), .int (nI p2), .int (nI (g2 * p2)), .ref bR, .ref bB, .ref bA, .ref bO, .ref bP, .ref bM])), (bR, .inl (cI, 9, .inl (fun j => nI ((fun _ => 0) j)))), (bB, .inl (cI, 6, .inl (fun j => nI ((fun _ => 3) j)))), (bA, .inl (cI, 9, .inl (fun j => nI ((fun _ => 0) j)))), (bO, .inl (cI, 9, .inl (fun j => nI ((fun _ => 0) j)))), (bP, .inl (cI, 9, .inl (fun j => nI (po j))))] H → va_D AA [(c, .inr (2, [.ref b, .ref ol, .int (bI fo), .ref el, .int (bI fe), .ref aSe, .ref aDt, .ref aOb, .int (nI dm)])), (aSe, .inl (cI, 9, .inl Sq)), (b, .inr (0, [.int (nI g2), .int (nI p2), .int (nI (g2 * p2)), .ref bR, .ref bB, .ref bA, .ref bO, .ref bP, .ref bM])), (bR, .inl (cI, 9, .inl (fun j => nI ((fun _ => 0) j)))), (bB, .inl (cI, 6, .inl (fun j => nI ((fun _ => 3) j)))), (bA, .inl (cI, 9, .inl (fun j => nI ((fun _ => 0) j)))), (bO, .inl (cI, 9, .inl (fun j => nI ((fun _ => 0) j)))), (bP, .inl (cI, 9, .inl (fun j => nI (po j))))] → va_S AA sT.heap H locs → ∀ (ls : Array Slot), lv_has ls 4 [(3, .int (nI k)), (0, .ref c), (1, .int (nI g2)), (2, .int (nI p2))] → W pR l eV rmX2_startWith sT mI args below meth cO H locs 0 0 QQ (F0 mI 11 ls []) := by
    intro N_11
    induction N_11 with
    | zero =>
      intro k Sq hk hA hMM
      exact absurd hMM (Nat.not_lt_zero _)
    | succ N_11 ih_11 =>
      intro k Sq hk hA hMM H locs hP hD hS ls hl
      refine lv_iload_n hXX hBB dX2_startWith_11 rfl (lv_at hl 0 rfl) ?_
      refine lv_aload_n hXX hBB dX2_startWith_12 rfl (lv_at hl 1 rfl) ?_
      refine va_get (D := D) (ci := 2) (v := .ref aSe) (C := RX2) (T := TX2) (N := 9) hXX hBB hts iw_X2 hown hK hP 0 rfl rfl 5 (by decide) kw_2 (fun _ h9 => h9) rfl dX2_startWith_13 ?_
      refine va_alen hXX hBB hK hP 1 0 rfl rfl (v := nI 9) rfl dX2_startWith_16 ?_
      refine lv_icmp_ge (tgt := 33) hXX hBB dX2_startWith_17 (by decide) (fun c_17 => ?_) (fun c_17 => ?_)
      · have c_17 : 9 ≤ k := (nI_leI (by omega) (by omega)).mp c_17
        have hP := m_ext (q0 := 1) (g := (fun _ => -1)) hP rfl (fun z hz => hA z (by omega))
        have hD := m_extD (q0 := 1) (g := (fun _ => -1)) hD rfl
        have hP : va_P D vwCl [(c, .inr (2, [.ref b, .ref ol, .int (bI fo), .ref el, .int (bI fe), .ref aSe, .ref aDt, .ref aOb, .int (nI dm)])), (aSe, .inl (cI, 9, .inl (fun _ => -1))), (b, .inr (0, [.int (nI g2), .int (nI p2), .int (nI (g2 * p2)), .ref bR, .ref bB, .ref bA, .ref bO, .ref bP, .ref bM])), (bR, .inl (cI, 9, .inl (fun j => nI ((fun _ => 0) j)))), (bB, .inl (cI, 6, .inl (fun j => nI ((fun _ => 3) j)))), (bA, .inl (cI, 9, .inl (fun j => nI ((fun _ => 0) j)))), (bO, .inl (cI, 9, .inl (fun j => nI ((fun _ => 0) j)))), (bP, .inl (cI, 9, .inl (fun j => nI (po j))))] H := hP
        have hD : va_D AA [(c, .inr (2, [.ref b, .ref ol, .int (bI fo), .ref el, .int (bI fe), .ref aSe, .ref aDt, .ref aOb, .int (nI dm)])), (aSe, .inl (cI, 9, .inl (fun _ => -1))), (b, .inr (0, [.int (nI g2), .int (nI p2), .int (nI (g2 * p2)), .ref bR, .ref bB, .ref bA, .ref bO, .ref bP, .ref bM])), (bR, .inl (cI, 9, .inl (fun j => nI ((fun _ => 0) j)))), (bB, .inl (cI, 6, .inl (fun j => nI ((fun _ => 3) j)))), (bA, .inl (cI, 9, .inl (fun j => nI ((fun _ => 0) j)))), (bO, .inl (cI, 9, .inl (fun j => nI ((fun _ => 0) j)))), (bP, .inl (cI, 9, .inl (fun j => nI (po j))))] := hD
        refine lv_aload_n hXX hBB dX2_startWith_33 rfl (lv_at hl 1 rfl) ?_
        refine lv_iconst (v := nI 0) hXX hBB dX2_startWith_34 (by decide) ?_
        refine va_put (D := D) (ci := 2) (v := .int (nI 0)) (ty := .int) (C := RX2) (T := TX2) (N := 9) hXX hBB hts iw_X2 tyX2 tyX2_ok nmX2 hown hK hP hD hS 0 rfl rfl 8 (by decide) kw_3 (fun _ h9 => h9) rfl (by decide +kernel) (rfl) (rfl) (Nat.le_of_ble_eq_true rfl) dX2_startWith_35 (fun H locs hP hD hS => ?_)
        have hP : va_P D vwCl [(c, .inr (2, [.ref b, .ref ol, .int (bI fo), .ref el, .int (bI fe), .ref aSe, .ref aDt, .ref aOb, .int (nI 0)])), (aSe, .inl (cI, 9, .inl (fun _ => -1))), (b, .inr (0, [.int (nI g2), .int (nI p2), .int (nI (g2 * p2)), .ref bR, .ref bB, .ref bA, .ref bO, .ref bP, .ref bM])), (bR, .inl (cI, 9, .inl (fun j => nI ((fun _ => 0) j)))), (bB, .inl (cI, 6, .inl (fun j => nI ((fun _ => 3) j)))), (bA, .inl (cI, 9, .inl (fun j => nI ((fun _ => 0) j)))), (bO, .inl (cI, 9, .inl (fun j => nI ((fun _ => 0) j)))), (bP, .inl (cI, 9, .inl (fun j => nI (po j))))] H := hP
        have hD : va_D AA [(c, .inr (2, [.ref b, .ref ol, .int (bI fo), .ref el, .int (bI fe), .ref aSe, .ref aDt, .ref aOb, .int (nI 0)])), (aSe, .inl (cI, 9, .inl (fun _ => -1))), (b, .inr (0, [.int (nI g2), .int (nI p2), .int (nI (g2 * p2)), .ref bR, .ref bB, .ref bA, .ref bO, .ref bP, .ref bM])), (bR, .inl (cI, 9, .inl (fun j => nI ((fun _ => 0) j)))), (bB, .inl (cI, 6, .inl (fun j => nI ((fun _ => 3) j)))), (bA, .inl (cI, 9, .inl (fun j => nI ((fun _ => 0) j)))), (bO, .inl (cI, 9, .inl (fun j => nI ((fun _ => 0) j)))), (bP, .inl (cI, 9, .inl (fun j => nI (po j))))] := hD
        refine lv_aload_n hXX hBB dX2_startWith_38 rfl (lv_at hl 1 rfl) ?_
        refine m_callv (wr := [(aSe, .inl (cI, 9, .inl (fun _ => -1))), (b, .inr (0, [.int (nI g2), .int (nI p2), .int (nI (g2 * p2)), .ref bR, .ref bB, .ref bA, .ref bO, .ref bP, .ref bM])), (bR, .inl (cI, 9, .inl (fun j => nI ((fun _ => 0) j)))), (bB, .inl (cI, 6, .inl (fun j => nI ((fun _ => 3) j)))), (bA, .inl (cI, 9, .inl (fun j => nI ((fun _ => 0) j)))), (bO, .inl (cI, 9, .inl (fun j => nI ((fun _ => 0) j)))), (bP, .inl (cI, 9, .inl (fun j => nI (po j))))]) ⟨hXX, hBB, hml, hown, hts⟩ hN (kX2_forgetResults l D c b ol el aSe aDt aOb fo fe 0) (cwV 0 hts gX2_startWith_X2_forgetResults rfl rfl rfl (by decide +kernel) ⟨Nat.le_of_ble_eq_true rfl, Nat.le_of_ble_eq_true rfl⟩) hK hP hD hS hAA [0] [1, 2, 3, 4, 5, 6, 7] [] rfl rfl rfl (by decide) (by decide) (by decide) rfl 2 rfl rfl rfl rfl hl.1 rfl (Nat.le_of_ble_eq_true rfl) dX2_startWith_39 ⟨Nat.le_of_ble_eq_true rfl, Nat.le_of_ble_eq_true rfl⟩ (k := 0) (n := 0) rfl rfl (fun  u_ H locs hw hP hD hS => ?_)
        have hP : va_P D vwCl [(aSe, .inl (cI, 9, .inl (fun _ => -1))), (b, .inr (0, [.int (nI g2), .int (nI p2), .int (nI (g2 * p2)), .ref bR, .ref bB, .ref bA, .ref bO, .ref bP, .ref bM])), (bR, .inl (cI, 9, .inl (fun j => nI ((fun _ => 0) j)))), (bB, .inl (cI, 6, .inl (fun j => nI ((fun _ => 3) j)))), (bA, .inl (cI, 9, .inl (fun j => nI ((fun _ => 0) j)))), (bO, .inl (cI, 9, .inl (fun j => nI ((fun _ => 0) j)))), (bP, .inl (cI, 9, .inl (fun j => nI (po j)))), (c, .inr (2, [.ref b, .ref ol, .int (bI false), .ref el, .int (bI false), .ref aSe, .ref aDt, .ref aOb, .int (nI 0)]))] H := hP
        have hD : va_D AA [(aSe, .inl (cI, 9, .inl (fun _ => -1))), (b, .inr (0, [.int (nI g2), .int (nI p2), .int (nI (g2 * p2)), .ref bR, .ref bB, .ref bA, .ref bO, .ref bP, .ref bM])), (bR, .inl (cI, 9, .inl (fun j => nI ((fun _ => 0) j)))), (bB, .inl (cI, 6, .inl (fun j => nI ((fun _ => 3) j)))), (bA, .inl (cI, 9, .inl (fun j => nI ((fun _ => 0) j)))), (bO, .inl (cI, 9, .inl (fun j => nI ((fun _ => 0) j)))), (bP, .inl (cI, 9, .inl (fun j => nI (po j)))), (c, .inr (2, [.ref b, .ref ol, .int (bI false), .ref el, .int (bI false), .ref aSe, .ref aDt, .ref aOb, .int (nI 0)]))] := hD
        refine hret po ?_ (hP.sub [7, 1, 2, 3, 4, 5, 6, 0] rfl) (hD.sub [7, 1, 2, 3, 4, 5, 6, 0] (by decide) rfl) hS (Nat.le_of_ble_eq_true rfl) (Nat.le_of_ble_eq_true rfl) dX2_startWith_42
        show (∀ z, z < g2 * p2 → po z = pmN g2 z)
        exact e_p
      · have c_17 : ¬ 9 ≤ k := fun h9 => c_17 ((nI_leI (by omega) (by omega)).mpr h9)
        refine lv_aload_n hXX hBB dX2_startWith_20 rfl (lv_at hl 1 rfl) ?_
        refine va_get (D := D) (ci := 2) (v := .ref aSe) (C := RX2) (T := TX2) (N := 9) hXX hBB hts iw_X2 hown hK hP 0 rfl rfl 5 (by decide) kw_2 (fun _ h9 => h9) rfl dX2_startWith_21 ?_
        refine lv_iload_n hXX hBB dX2_startWith_24 rfl (lv_at hl 0 rfl) ?_
        refine lv_iconst (v := (-1)) hXX hBB dX2_startWith_25 (by decide) ?_
        refine m_iast hXX hBB hK hP hD hS 1 0 rfl rfl (i := k) (by omega) (by decide) (g := upd Sq k (-1)) (rfl) dX2_startWith_26 (fun H locs hP hD hS => ?_)
        have hP : va_P D vwCl [(c, .inr (2, [.ref b, .ref ol, .int (bI fo), .ref el, .int (bI fe), .ref aSe, .ref aDt, .ref aOb, .int (nI dm)])), (aSe, .inl (cI, 9, .inl (upd Sq k (-1)))), (b, .inr (0, [.int (nI g2), .int (nI p2), .int (nI (g2 * p2)), .ref bR, .ref bB, .ref bA, .ref bO, .ref bP, .ref bM])), (bR, .inl (cI, 9, .inl (fun j => nI ((fun _ => 0) j)))), (bB, .inl (cI, 6, .inl (fun j => nI ((fun _ => 3) j)))), (bA, .inl (cI, 9, .inl (fun j => nI ((fun _ => 0) j)))), (bO, .inl (cI, 9, .inl (fun j => nI ((fun _ => 0) j)))), (bP, .inl (cI, 9, .inl (fun j => nI (po j))))] H := hP
        have hD : va_D AA [(c, .inr (2, [.ref b, .ref ol, .int (bI fo), .ref el, .int (bI fe), .ref aSe, .ref aDt, .ref aOb, .int (nI dm)])), (aSe, .inl (cI, 9, .inl (upd Sq k (-1)))), (b, .inr (0, [.int (nI g2), .int (nI p2), .int (nI (g2 * p2)), .ref bR, .ref bB, .ref bA, .ref bO, .ref bP, .ref bM])), (bR, .inl (cI, 9, .inl (fun j => nI ((fun _ => 0) j)))), (bB, .inl (cI, 6, .inl (fun j => nI ((fun _ => 3) j)))), (bA, .inl (cI, 9, .inl (fun j => nI ((fun _ => 0) j)))), (bO, .inl (cI, 9, .inl (fun j => nI ((fun _ => 0) j)))), (bP, .inl (cI, 9, .inl (fun j => nI (po j))))] := hD
        refine lv_iinc (v := nI (k + 1)) (lv' := [(3, .int (nI (k + 1))), (0, .ref c), (1, .int (nI g2)), (2, .int (nI p2))]) hXX hBB dX2_startWith_27 hl (k := 0) rfl (nI_1 _) (by decide) rfl (fun ls hl => ?_)
        refine lv_goto (tgt := 11) hXX hBB dX2_startWith_30 (by decide) ?_
        have hi_k : (k + 1) ≤ 9 := by omega
        have hi_A : ∀ z, z < (k + 1) → (upd Sq k (-1)) z = -1 := by
          intro z hz
          by_cases q : z = k
          · simp [upd, q]
          · simp only [upd, if_neg q]; exact hA z (by omega)
        have hmm : 9 - (k + 1) < N_11 := by omega
        exact ih_11 (k + 1) (upd Sq k (-1)) hi_k hi_A hmm _ _ (hP.sub [0, 1, 2, 3, 4, 5, 6, 7] rfl) (hD.sub [0, 1, 2, 3, 4, 5, 6, 7] (by decide) rfl) hS ls (lv_sub hl [0, 1, 2, 3] rfl)
  have hi_k : 0 ≤ 9 := by omega
  have hi_A : ∀ z, z < 0 → S z = -1 := by exact fun z hz => absurd hz (Nat.not_lt_zero z)
  exact L_11 _ 0 S hi_k hi_A (Nat.lt_succ_self _) _ _ hP hD hS ls (lv_sub hl [0, 1, 2, 3] rfl)
abbrev rmX2_seat : Room := { frames := 2, cells := 0, slots := 0, locals := 46 }
set_option maxHeartbeats 4000000 in
set_option maxRecDepth 100000 in
theorem kX2_seat (l : Launch) (D : va_G) (cI : ClassId) (c : Nat) (b : Nat) (ol : Nat) (el : Nat) (aSe : Nat) (aDt : Nat) (aOb : Nat) (fo : Bool) (fe : Bool) (dm : Nat) (oa : Nat) (n : Nat) (f : Nat → Nat) (dt : Nat → Nat) (ob9 : Nat → Nat) (S : Nat → Int32) (t : Nat) (hn : n ≤ 576) (hf : ∀ z, z < n → f z < 2 ^ 31) (hn0 : 0 < n) (ht : t < 9) (hdm : dm < 9) : Cv l yX2_seat wsX2_seat rmX2_seat D [(cI, .int)] [.ref c, .int (nI t)] [(c, .inr (2, [.ref b, .ref ol, .int (bI fo), .ref el, .int (bI fe), .ref aSe, .ref aDt, .ref aOb, .int (nI dm)])), (ol, .inr (1, [.ref oa, .int (nI n)])), (oa, .inl (cI, 576, .inl (fun j => nI (f j)))), (aSe, .inl (cI, 9, .inl S)), (aDt, .inl (cI, 9, .inl (fun j => nI (dt j)))), (aOb, .inl (cI, 9, .inl (fun j => nI (ob9 j))))] (fun (u : (Nat → Nat) × Nat) => (u.2 ≤ n) ∧ (∀ w : Nat → Nat, sm (fun z => w (u.1 z)) u.2 = sm (fun z => wIf (fun z => decide (gr z t = mnR (fun z => gr (f z) t) n)) w (f z)) n) ∧ (∀ N, n ≤ N → sameR u.1 f N)) (fun (u : (Nat → Nat) × Nat) => [(c, .inr (2, [.ref b, .ref ol, .int (bI fo), .ref el, .int (bI fe), .ref aSe, .ref aDt, .ref aOb, .int (nI (dm + 1))])), (ol, .inr (1, [.ref oa, .int (nI u.2)])), (oa, .inl (cI, 576, .inl (fun j => nI (u.1 j)))), (aSe, .inl (cI, 9, .inl (upd S t (nI (mnR (fun z => gr (f z) t) n))))), (aDt, .inl (cI, 9, .inl (fun j => nI (updN dt dm t j)))), (aOb, .inl (cI, 9, .inl (fun j => nI (updN ob9 dm n j))))]) := by
  refine Cv_of (cc := cX2_seat) (maxL := 3) (by decide) rfl (Nat.le_of_ble_eq_true rfl) ?_
  intro pR eV sT mI args below meth cO AA QQ ls hXX hBB hml hown hts hnm hN hK hP hD hS hAA hl hret
  have hl : lv_has ls 3 [(0, .ref c), (1, .int (nI t))] := hl
  have hg4 : mnR (fun z => gr (f z) t) n < 4 := mnR_lt (by decide) (fun z _ => gr_lt _ _)
  have kw_1 := hts (.fieldLink RX2 19 "CupDraw" "openList" "LCupDraw$ResultList;") (List.mem_of_getElem? (i := 1) rfl)
  have iw_X2 : ∀ w ∈ wsX20, w ∈ wsX2_seat := by decide +kernel
  have kw_2 := hts (.fieldLink RX2 33 "CupDraw" "openBefore" "[I") (List.mem_of_getElem? (i := 2) rfl)
  have kw_3 := hts (.fieldLink RX2 92 "CupDraw" "drawnCount" "I") (List.mem_of_getElem? (i := 3) rfl)
  have kn_99 : (Cond.fieldLinkNest RX2 99 RX1 "size" "I" RX2).before args sT = true := va_Nw.use rfl (hN _ (List.mem_of_getElem? (i := 9) rfl))
  have iw_X1 : ∀ w ∈ wsX10, w ∈ wsX2_seat := by decide +kernel
  have kw_4 := hts (.fieldLink RX2 26 "CupDraw" "seats" "[I") (List.mem_of_getElem? (i := 4) rfl)
  have kw_5 := hts (.fieldLink RX2 30 "CupDraw" "drawnTeams" "[I") (List.mem_of_getElem? (i := 5) rfl)
  refine lv_aload_n hXX hBB dX2_seat_0 rfl (lv_at hl 0 rfl) ?_
  refine va_get (D := D) (ci := 2) (v := .ref ol) (C := RX2) (T := TX2) (N := 9) hXX hBB hts iw_X2 hown hK hP 0 rfl rfl 1 (by decide) kw_1 (fun _ h9 => h9) rfl dX2_seat_1 ?_
  refine lv_iload_n hXX hBB dX2_seat_4 rfl (lv_at hl 1 rfl) ?_
  refine m_calli (wr := [(c, .inr (2, [.ref b, .ref ol, .int (bI fo), .ref el, .int (bI fe), .ref aSe, .ref aDt, .ref aOb, .int (nI dm)])), (aSe, .inl (cI, 9, .inl S)), (aDt, .inl (cI, 9, .inl (fun j => nI (dt j)))), (aOb, .inl (cI, 9, .inl (fun j => nI (ob9 j))))]) ⟨hXX, hBB, hml, hown, hts⟩ hN (kX1_lowestGroup l D cI ol oa f n t (by omega) (by assumption) (by omega)) (cwV 1 hts gX2_seat_X1_lowestGroup rfl rfl rfl (by decide +kernel) ⟨Nat.le_of_ble_eq_true rfl, Nat.le_of_ble_eq_true rfl⟩) hK hP hD hS hAA [1, 2] [0, 3, 4, 5] [0] rfl rfl rfl (by decide) (by decide) (by decide) rfl 1 rfl rfl rfl rfl hl.1 rfl (Nat.le_of_ble_eq_true rfl) dX2_seat_5 ⟨Nat.le_of_ble_eq_true rfl, Nat.le_of_ble_eq_true rfl⟩ (k := 0) (n := 0) rfl rfl (fun r_1 u_ H locs hw hP hD hS => ?_)
  have hw : (r_1 = loR (fun z => gr (f z) t) n) := hw
  have hr_r_1 := hw
  have hP : va_P D vwCl [(c, .inr (2, [.ref b, .ref ol, .int (bI fo), .ref el, .int (bI fe), .ref aSe, .ref aDt, .ref aOb, .int (nI dm)])), (aSe, .inl (cI, 9, .inl S)), (aDt, .inl (cI, 9, .inl (fun j => nI (dt j)))), (aOb, .inl (cI, 9, .inl (fun j => nI (ob9 j)))), (ol, .inr (1, [.ref oa, .int (nI n)])), (oa, .inl (cI, 576, .inl (fun j => nI (f j))))] H := hP
  have hD : va_D AA [(c, .inr (2, [.ref b, .ref ol, .int (bI fo), .ref el, .int (bI fe), .ref aSe, .ref aDt, .ref aOb, .int (nI dm)])), (aSe, .inl (cI, 9, .inl S)), (aDt, .inl (cI, 9, .inl (fun j => nI (dt j)))), (aOb, .inl (cI, 9, .inl (fun j => nI (ob9 j)))), (ol, .inr (1, [.ref oa, .int (nI n)])), (oa, .inl (cI, 576, .inl (fun j => nI (f j))))] := hD
  subst hr_r_1
  refine m_top (y := nI (mnR (fun z => gr (f z) t) n)) (by simp [loR, show ¬ n = 0 by omega]) ?_
  refine lv_istore_n (lv' := [(2, .int (nI (mnR (fun z => gr (f z) t) n))), (0, .ref c), (1, .int (nI t))]) hXX hBB dX2_seat_8 rfl hl (by decide) rfl (fun ls hl => ?_)
  refine lv_aload_n hXX hBB dX2_seat_9 rfl (lv_at hl 1 rfl) ?_
  refine va_get (D := D) (ci := 2) (v := .ref aOb) (C := RX2) (T := TX2) (N := 9) hXX hBB hts iw_X2 hown hK hP 0 rfl rfl 7 (by decide) kw_2 (fun _ h9 => h9) rfl dX2_seat_10 ?_
  refine lv_aload_n hXX hBB dX2_seat_13 rfl (lv_at hl 1 rfl) ?_
  refine va_get (D := D) (ci := 2) (v := .int (nI dm)) (C := RX2) (T := TX2) (N := 9) hXX hBB hts iw_X2 hown hK hP 0 rfl rfl 8 (by decide) kw_3 (fun _ h9 => h9) rfl dX2_seat_14 ?_
  refine lv_aload_n hXX hBB dX2_seat_17 rfl (lv_at hl 1 rfl) ?_
  refine va_get (D := D) (ci := 2) (v := .ref ol) (C := RX2) (T := TX2) (N := 9) hXX hBB hts iw_X2 hown hK hP 0 rfl rfl 1 (by decide) kw_1 (fun _ h9 => h9) rfl dX2_seat_18 ?_
  refine va_getN (D := D) (ci := 1) (v := .int (nI n)) (C := RX1) (T := TX1) (N := 2) hXX hBB hts iw_X1 hown hK hP 4 rfl rfl 1 (by decide) kn_99 (fun _ h9 => h9) rfl dX2_seat_21 ?_
  refine m_iast hXX hBB hK hP hD hS 3 0 rfl rfl (i := dm) (by omega) (by decide) (g := fun j => nI (updN ob9 dm n j)) (m_upd _ _ _) dX2_seat_24 (fun H locs hP hD hS => ?_)
  have hP : va_P D vwCl [(c, .inr (2, [.ref b, .ref ol, .int (bI fo), .ref el, .int (bI fe), .ref aSe, .ref aDt, .ref aOb, .int (nI dm)])), (aSe, .inl (cI, 9, .inl S)), (aDt, .inl (cI, 9, .inl (fun j => nI (dt j)))), (aOb, .inl (cI, 9, .inl (fun j => nI (updN ob9 dm n j)))), (ol, .inr (1, [.ref oa, .int (nI n)])), (oa, .inl (cI, 576, .inl (fun j => nI (f j))))] H := hP
  have hD : va_D AA [(c, .inr (2, [.ref b, .ref ol, .int (bI fo), .ref el, .int (bI fe), .ref aSe, .ref aDt, .ref aOb, .int (nI dm)])), (aSe, .inl (cI, 9, .inl S)), (aDt, .inl (cI, 9, .inl (fun j => nI (dt j)))), (aOb, .inl (cI, 9, .inl (fun j => nI (updN ob9 dm n j)))), (ol, .inr (1, [.ref oa, .int (nI n)])), (oa, .inl (cI, 576, .inl (fun j => nI (f j))))] := hD
  refine lv_aload_n hXX hBB dX2_seat_25 rfl (lv_at hl 1 rfl) ?_
  refine va_get (D := D) (ci := 2) (v := .ref ol) (C := RX2) (T := TX2) (N := 9) hXX hBB hts iw_X2 hown hK hP 0 rfl rfl 1 (by decide) kw_1 (fun _ h9 => h9) rfl dX2_seat_26 ?_
  refine lv_iload_n hXX hBB dX2_seat_29 rfl (lv_at hl 2 rfl) ?_
  refine lv_iload_n hXX hBB dX2_seat_30 rfl (lv_at hl 0 rfl) ?_
  refine m_callv (wr := [(c, .inr (2, [.ref b, .ref ol, .int (bI fo), .ref el, .int (bI fe), .ref aSe, .ref aDt, .ref aOb, .int (nI dm)])), (aSe, .inl (cI, 9, .inl S)), (aDt, .inl (cI, 9, .inl (fun j => nI (dt j)))), (aOb, .inl (cI, 9, .inl (fun j => nI (updN ob9 dm n j))))]) ⟨hXX, hBB, hml, hown, hts⟩ hN (kX1_narrow l D cI ol oa f n t (mnR (fun z => gr (f z) t) n) (by omega) (by assumption) (by omega) (by exact hg4)) (cwV 2 hts gX2_seat_X1_narrow rfl rfl rfl (by decide +kernel) ⟨Nat.le_of_ble_eq_true rfl, Nat.le_of_ble_eq_true rfl⟩) hK hP hD hS hAA [4, 5] [0, 1, 2, 3] [0] rfl rfl rfl (by decide) (by decide) (by decide) rfl 1 rfl rfl rfl rfl hl.1 rfl (Nat.le_of_ble_eq_true rfl) dX2_seat_31 ⟨Nat.le_of_ble_eq_true rfl, Nat.le_of_ble_eq_true rfl⟩ (k := 0) (n := 0) rfl rfl (fun  u_ H locs hw hP hD hS => ?_)
  obtain ⟨fo9, ko⟩ := u_
  have hw : (ko ≤ n) ∧ (∀ w : Nat → Nat, sm (fun z => w (fo9 z)) ko = sm (fun z => wIf (fun z => decide (gr z t = (mnR (fun z => gr (f z) t) n))) w (f z)) n) ∧ (∀ N, n ≤ N → sameR fo9 f N) := hw
  obtain ⟨e_1, e_2, e_3⟩ := hw
  have hP : va_P D vwCl [(c, .inr (2, [.ref b, .ref ol, .int (bI fo), .ref el, .int (bI fe), .ref aSe, .ref aDt, .ref aOb, .int (nI dm)])), (aSe, .inl (cI, 9, .inl S)), (aDt, .inl (cI, 9, .inl (fun j => nI (dt j)))), (aOb, .inl (cI, 9, .inl (fun j => nI (updN ob9 dm n j)))), (ol, .inr (1, [.ref oa, .int (nI ko)])), (oa, .inl (cI, 576, .inl (fun j => nI (fo9 j))))] H := hP
  have hD : va_D AA [(c, .inr (2, [.ref b, .ref ol, .int (bI fo), .ref el, .int (bI fe), .ref aSe, .ref aDt, .ref aOb, .int (nI dm)])), (aSe, .inl (cI, 9, .inl S)), (aDt, .inl (cI, 9, .inl (fun j => nI (dt j)))), (aOb, .inl (cI, 9, .inl (fun j => nI (updN ob9 dm n j)))), (ol, .inr (1, [.ref oa, .int (nI ko)])), (oa, .inl (cI, 576, .inl (fun j => nI (fo9 j))))] := hD
  refine lv_aload_n hXX hBB dX2_seat_34 rfl (lv_at hl 1 rfl) ?_
  refine va_get (D := D) (ci := 2) (v := .ref aSe) (C := RX2) (T := TX2) (N := 9) hXX hBB hts iw_X2 hown hK hP 0 rfl rfl 5 (by decide) kw_4 (fun _ h9 => h9) rfl dX2_seat_35 ?_
  refine lv_iload_n hXX hBB dX2_seat_38 rfl (lv_at hl 2 rfl) ?_
  refine lv_iload_n hXX hBB dX2_seat_39 rfl (lv_at hl 0 rfl) ?_
  refine m_iast hXX hBB hK hP hD hS 1 0 rfl rfl (i := t) (by omega) (by decide) (g := upd S t (nI (mnR (fun z => gr (f z) t) n))) (rfl) dX2_seat_40 (fun H locs hP hD hS => ?_)
  have hP : va_P D vwCl [(c, .inr (2, [.ref b, .ref ol, .int (bI fo), .ref el, .int (bI fe), .ref aSe, .ref aDt, .ref aOb, .int (nI dm)])), (aSe, .inl (cI, 9, .inl (upd S t (nI (mnR (fun z => gr (f z) t) n))))), (aDt, .inl (cI, 9, .inl (fun j => nI (dt j)))), (aOb, .inl (cI, 9, .inl (fun j => nI (updN ob9 dm n j)))), (ol, .inr (1, [.ref oa, .int (nI ko)])), (oa, .inl (cI, 576, .inl (fun j => nI (fo9 j))))] H := hP
  have hD : va_D AA [(c, .inr (2, [.ref b, .ref ol, .int (bI fo), .ref el, .int (bI fe), .ref aSe, .ref aDt, .ref aOb, .int (nI dm)])), (aSe, .inl (cI, 9, .inl (upd S t (nI (mnR (fun z => gr (f z) t) n))))), (aDt, .inl (cI, 9, .inl (fun j => nI (dt j)))), (aOb, .inl (cI, 9, .inl (fun j => nI (updN ob9 dm n j)))), (ol, .inr (1, [.ref oa, .int (nI ko)])), (oa, .inl (cI, 576, .inl (fun j => nI (fo9 j))))] := hD
  refine lv_aload_n hXX hBB dX2_seat_41 rfl (lv_at hl 1 rfl) ?_
  refine va_get (D := D) (ci := 2) (v := .ref aDt) (C := RX2) (T := TX2) (N := 9) hXX hBB hts iw_X2 hown hK hP 0 rfl rfl 6 (by decide) kw_5 (fun _ h9 => h9) rfl dX2_seat_42 ?_
  refine lv_aload_n hXX hBB dX2_seat_45 rfl (lv_at hl 1 rfl) ?_
  refine va_get (D := D) (ci := 2) (v := .int (nI dm)) (C := RX2) (T := TX2) (N := 9) hXX hBB hts iw_X2 hown hK hP 0 rfl rfl 8 (by decide) kw_3 (fun _ h9 => h9) rfl dX2_seat_46 ?_
  refine lv_iload_n hXX hBB dX2_seat_49 rfl (lv_at hl 2 rfl) ?_
  refine m_iast hXX hBB hK hP hD hS 2 0 rfl rfl (i := dm) (by omega) (by decide) (g := fun j => nI (updN dt dm t j)) (m_upd _ _ _) dX2_seat_50 (fun H locs hP hD hS => ?_)
  have hP : va_P D vwCl [(c, .inr (2, [.ref b, .ref ol, .int (bI fo), .ref el, .int (bI fe), .ref aSe, .ref aDt, .ref aOb, .int (nI dm)])), (aSe, .inl (cI, 9, .inl (upd S t (nI (mnR (fun z => gr (f z) t) n))))), (aDt, .inl (cI, 9, .inl (fun j => nI (updN dt dm t j)))), (aOb, .inl (cI, 9, .inl (fun j => nI (updN ob9 dm n j)))), (ol, .inr (1, [.ref oa, .int (nI ko)])), (oa, .inl (cI, 576, .inl (fun j => nI (fo9 j))))] H := hP
  have hD : va_D AA [(c, .inr (2, [.ref b, .ref ol, .int (bI fo), .ref el, .int (bI fe), .ref aSe, .ref aDt, .ref aOb, .int (nI dm)])), (aSe, .inl (cI, 9, .inl (upd S t (nI (mnR (fun z => gr (f z) t) n))))), (aDt, .inl (cI, 9, .inl (fun j => nI (updN dt dm t j)))), (aOb, .inl (cI, 9, .inl (fun j => nI (updN ob9 dm n j)))), (ol, .inr (1, [.ref oa, .int (nI ko)])), (oa, .inl (cI, 576, .inl (fun j => nI (fo9 j))))] := hD
  refine lv_aload_n hXX hBB dX2_seat_51 rfl (lv_at hl 1 rfl) ?_
  refine lv_dup hXX hBB dX2_seat_52 rfl ?_
  refine va_get (D := D) (ci := 2) (v := .int (nI dm)) (C := RX2) (T := TX2) (N := 9) hXX hBB hts iw_X2 hown hK hP 0 rfl rfl 8 (by decide) kw_3 (fun _ h9 => h9) rfl dX2_seat_53 ?_
  refine lv_iconst (v := nI 1) hXX hBB dX2_seat_56 (by decide) ?_
  refine lv_iadd hXX hBB dX2_seat_57 ?_
  refine m_top (y := nI (dm + 1)) (nI_add _ _) ?_
  refine va_put (D := D) (ci := 2) (v := .int (nI (dm + 1))) (ty := .int) (C := RX2) (T := TX2) (N := 9) hXX hBB hts iw_X2 tyX2 tyX2_ok nmX2 hown hK hP hD hS 0 rfl rfl 8 (by decide) kw_3 (fun _ h9 => h9) rfl (by decide +kernel) (rfl) (rfl) (Nat.le_of_ble_eq_true rfl) dX2_seat_58 (fun H locs hP hD hS => ?_)
  have hP : va_P D vwCl [(c, .inr (2, [.ref b, .ref ol, .int (bI fo), .ref el, .int (bI fe), .ref aSe, .ref aDt, .ref aOb, .int (nI (dm + 1))])), (aSe, .inl (cI, 9, .inl (upd S t (nI (mnR (fun z => gr (f z) t) n))))), (aDt, .inl (cI, 9, .inl (fun j => nI (updN dt dm t j)))), (aOb, .inl (cI, 9, .inl (fun j => nI (updN ob9 dm n j)))), (ol, .inr (1, [.ref oa, .int (nI ko)])), (oa, .inl (cI, 576, .inl (fun j => nI (fo9 j))))] H := hP
  have hD : va_D AA [(c, .inr (2, [.ref b, .ref ol, .int (bI fo), .ref el, .int (bI fe), .ref aSe, .ref aDt, .ref aOb, .int (nI (dm + 1))])), (aSe, .inl (cI, 9, .inl (upd S t (nI (mnR (fun z => gr (f z) t) n))))), (aDt, .inl (cI, 9, .inl (fun j => nI (updN dt dm t j)))), (aOb, .inl (cI, 9, .inl (fun j => nI (updN ob9 dm n j)))), (ol, .inr (1, [.ref oa, .int (nI ko)])), (oa, .inl (cI, 576, .inl (fun j => nI (fo9 j))))] := hD
  refine hret (fo9, ko) ?_ (hP.sub [0, 4, 5, 1, 2, 3] rfl) (hD.sub [0, 4, 5, 1, 2, 3] (by decide) rfl) hS (Nat.le_of_ble_eq_true rfl) (Nat.le_of_ble_eq_true rfl) dX2_seat_61
  show (ko ≤ n) ∧ (∀ w : Nat → Nat, sm (fun z => w (fo9 z)) ko = sm (fun z => wIf (fun z => decide (gr z t = mnR (fun z => gr (f z) t) n)) w (f z)) n) ∧ (∀ N, n ≤ N → sameR fo9 f N)
  exact ⟨e_1, e_2, e_3⟩
abbrev rmX2_unseat : Room := { frames := 1, cells := 0, slots := 0, locals := 21 }
set_option maxHeartbeats 4000000 in
set_option maxRecDepth 100000 in
theorem kX2_unseat (l : Launch) (D : va_G) (cI : ClassId) (c : Nat) (b : Nat) (ol : Nat) (el : Nat) (aSe : Nat) (aDt : Nat) (aOb : Nat) (fo : Bool) (fe : Bool) (dm : Nat) (oa : Nat) (n : Nat) (dt : Nat → Nat) (ob9 : Nat → Nat) (S : Nat → Int32) (h0 : 0 < dm) (hdm : dm ≤ 9) (hdt : dt (dm - 1) < 9) : Ci l yX2_unseat wsX2_unseat rmX2_unseat D [(cI, .int)] [.ref c] [(c, .inr (2, [.ref b, .ref ol, .int (bI fo), .ref el, .int (bI fe), .ref aSe, .ref aDt, .ref aOb, .int (nI dm)])), (ol, .inr (1, [.ref oa, .int (nI n)])), (aSe, .inl (cI, 9, .inl S)), (aDt, .inl (cI, 9, .inl (fun j => nI (dt j)))), (aOb, .inl (cI, 9, .inl (fun j => nI (ob9 j))))] (fun (r : Int32) (_ : Unit) => r = nI (dt (dm - 1))) (fun (_ : Unit) => [(c, .inr (2, [.ref b, .ref ol, .int (bI fo), .ref el, .int (bI fe), .ref aSe, .ref aDt, .ref aOb, .int (nI (dm - 1))])), (ol, .inr (1, [.ref oa, .int (nI (ob9 (dm - 1)))])), (aSe, .inl (cI, 9, .inl (upd S (dt (dm - 1)) (-1)))), (aDt, .inl (cI, 9, .inl (fun j => nI (dt j)))), (aOb, .inl (cI, 9, .inl (fun j => nI (ob9 j))))]) := by
  refine Ci_of (cc := cX2_unseat) (maxL := 2) (by decide) rfl (Nat.le_of_ble_eq_true rfl) ?_
  intro pR eV sT mI args below meth cO AA QQ ls hXX hBB hml hown hts hnm hN hK hP hD hS hAA hl hret
  have hl : lv_has ls 2 [(0, .ref c)] := hl
  have kw_1 := hts (.fieldLink RX2 92 "CupDraw" "drawnCount" "I") (List.mem_of_getElem? (i := 1) rfl)
  have iw_X2 : ∀ w ∈ wsX20, w ∈ wsX2_unseat := by decide +kernel
  have kw_2 := hts (.fieldLink RX2 30 "CupDraw" "drawnTeams" "[I") (List.mem_of_getElem? (i := 2) rfl)
  have kw_3 := hts (.fieldLink RX2 26 "CupDraw" "seats" "[I") (List.mem_of_getElem? (i := 3) rfl)
  have kw_4 := hts (.fieldLink RX2 19 "CupDraw" "openList" "LCupDraw$ResultList;") (List.mem_of_getElem? (i := 4) rfl)
  have kw_5 := hts (.fieldLink RX2 33 "CupDraw" "openBefore" "[I") (List.mem_of_getElem? (i := 5) rfl)
  refine lv_aload_n hXX hBB dX2_unseat_0 rfl (lv_at hl 0 rfl) ?_
  refine lv_dup hXX hBB dX2_unseat_1 rfl ?_
  refine va_get (D := D) (ci := 2) (v := .int (nI dm)) (C := RX2) (T := TX2) (N := 9) hXX hBB hts iw_X2 hown hK hP 0 rfl rfl 8 (by decide) kw_1 (fun _ h9 => h9) rfl dX2_unseat_2 ?_
  refine lv_iconst (v := nI 1) hXX hBB dX2_unseat_5 (by decide) ?_
  refine lv_isub hXX hBB dX2_unseat_6 ?_
  refine m_top (y := nI (dm - 1)) (pk_sub (by omega)) ?_
  refine va_put (D := D) (ci := 2) (v := .int (nI (dm - 1))) (ty := .int) (C := RX2) (T := TX2) (N := 9) hXX hBB hts iw_X2 tyX2 tyX2_ok nmX2 hown hK hP hD hS 0 rfl rfl 8 (by decide) kw_1 (fun _ h9 => h9) rfl (by decide +kernel) (rfl) (rfl) (Nat.le_of_ble_eq_true rfl) dX2_unseat_7 (fun H locs hP hD hS => ?_)
  have hP : va_P D vwCl [(c, .inr (2, [.ref b, .ref ol, .int (bI fo), .ref el, .int (bI fe), .ref aSe, .ref aDt, .ref aOb, .int (nI (dm - 1))])), (ol, .inr (1, [.ref oa, .int (nI n)])), (aSe, .inl (cI, 9, .inl S)), (aDt, .inl (cI, 9, .inl (fun j => nI (dt j)))), (aOb, .inl (cI, 9, .inl (fun j => nI (ob9 j))))] H := hP
  have hD : va_D AA [(c, .inr (2, [.ref b, .ref ol, .int (bI fo), .ref el, .int (bI fe), .ref aSe, .ref aDt, .ref aOb, .int (nI (dm - 1))])), (ol, .inr (1, [.ref oa, .int (nI n)])), (aSe, .inl (cI, 9, .inl S)), (aDt, .inl (cI, 9, .inl (fun j => nI (dt j)))), (aOb, .inl (cI, 9, .inl (fun j => nI (ob9 j))))] := hD
  refine lv_aload_n hXX hBB dX2_unseat_10 rfl (lv_at hl 0 rfl) ?_
  refine va_get (D := D) (ci := 2) (v := .ref aDt) (C := RX2) (T := TX2) (N := 9) hXX hBB hts iw_X2 hown hK hP 0 rfl rfl 6 (by decide) kw_2 (fun _ h9 => h9) rfl dX2_unseat_11 ?_
  refine lv_aload_n hXX hBB dX2_unseat_14 rfl (lv_at hl 0 rfl) ?_
  refine va_get (D := D) (ci := 2) (v := .int (nI (dm - 1))) (C := RX2) (T := TX2) (N := 9) hXX hBB hts iw_X2 hown hK hP 0 rfl rfl 8 (by decide) kw_1 (fun _ h9 => h9) rfl dX2_unseat_15 ?_
  refine m_iald hXX hBB hK hP 3 0 rfl rfl (i := dm - 1) (by omega) (by decide) (x := nI (dt (dm - 1))) rfl dX2_unseat_18 ?_
  refine lv_istore_n (lv' := [(1, .int (nI (dt (dm - 1)))), (0, .ref c)]) hXX hBB dX2_unseat_19 rfl hl (by decide) rfl (fun ls hl => ?_)
  refine lv_aload_n hXX hBB dX2_unseat_20 rfl (lv_at hl 1 rfl) ?_
  refine va_get (D := D) (ci := 2) (v := .ref aSe) (C := RX2) (T := TX2) (N := 9) hXX hBB hts iw_X2 hown hK hP 0 rfl rfl 5 (by decide) kw_3 (fun _ h9 => h9) rfl dX2_unseat_21 ?_
  refine lv_iload_n hXX hBB dX2_unseat_24 rfl (lv_at hl 0 rfl) ?_
  refine lv_iconst (v := (-1)) hXX hBB dX2_unseat_25 (by decide) ?_
  refine m_iast hXX hBB hK hP hD hS 2 0 rfl rfl (i := dt (dm - 1)) (by omega) (by decide) (g := upd S (dt (dm - 1)) (-1)) (rfl) dX2_unseat_26 (fun H locs hP hD hS => ?_)
  have hP : va_P D vwCl [(c, .inr (2, [.ref b, .ref ol, .int (bI fo), .ref el, .int (bI fe), .ref aSe, .ref aDt, .ref aOb, .int (nI (dm - 1))])), (ol, .inr (1, [.ref oa, .int (nI n)])), (aSe, .inl (cI, 9, .inl (upd S (dt (dm - 1)) (-1)))), (aDt, .inl (cI, 9, .inl (fun j => nI (dt j)))), (aOb, .inl (cI, 9, .inl (fun j => nI (ob9 j))))] H := hP
  have hD : va_D AA [(c, .inr (2, [.ref b, .ref ol, .int (bI fo), .ref el, .int (bI fe), .ref aSe, .ref aDt, .ref aOb, .int (nI (dm - 1))])), (ol, .inr (1, [.ref oa, .int (nI n)])), (aSe, .inl (cI, 9, .inl (upd S (dt (dm - 1)) (-1)))), (aDt, .inl (cI, 9, .inl (fun j => nI (dt j)))), (aOb, .inl (cI, 9, .inl (fun j => nI (ob9 j))))] := hD
  refine lv_aload_n hXX hBB dX2_unseat_27 rfl (lv_at hl 1 rfl) ?_
  refine va_get (D := D) (ci := 2) (v := .ref ol) (C := RX2) (T := TX2) (N := 9) hXX hBB hts iw_X2 hown hK hP 0 rfl rfl 1 (by decide) kw_4 (fun _ h9 => h9) rfl dX2_unseat_28 ?_
  refine lv_aload_n hXX hBB dX2_unseat_31 rfl (lv_at hl 1 rfl) ?_
  refine va_get (D := D) (ci := 2) (v := .ref aOb) (C := RX2) (T := TX2) (N := 9) hXX hBB hts iw_X2 hown hK hP 0 rfl rfl 7 (by decide) kw_5 (fun _ h9 => h9) rfl dX2_unseat_32 ?_
  refine lv_aload_n hXX hBB dX2_unseat_35 rfl (lv_at hl 1 rfl) ?_
  refine va_get (D := D) (ci := 2) (v := .int (nI (dm - 1))) (C := RX2) (T := TX2) (N := 9) hXX hBB hts iw_X2 hown hK hP 0 rfl rfl 8 (by decide) kw_1 (fun _ h9 => h9) rfl dX2_unseat_36 ?_
  refine m_iald hXX hBB hK hP 4 0 rfl rfl (i := dm - 1) (by omega) (by decide) (x := nI (ob9 (dm - 1))) rfl dX2_unseat_39 ?_
  refine m_callv (wr := [(c, .inr (2, [.ref b, .ref ol, .int (bI fo), .ref el, .int (bI fe), .ref aSe, .ref aDt, .ref aOb, .int (nI (dm - 1))])), (aSe, .inl (cI, 9, .inl (upd S (dt (dm - 1)) (-1)))), (aDt, .inl (cI, 9, .inl (fun j => nI (dt j)))), (aOb, .inl (cI, 9, .inl (fun j => nI (ob9 j))))]) ⟨hXX, hBB, hml, hown, hts⟩ hN (kX1_widen l D ol oa n (ob9 (dm - 1))) (cwV 1 hts gX2_unseat_X1_widen rfl rfl rfl (by decide +kernel) ⟨Nat.le_of_ble_eq_true rfl, Nat.le_of_ble_eq_true rfl⟩) hK hP hD hS hAA [1] [0, 2, 3, 4] [] rfl rfl rfl (by decide) (by decide) (by decide) rfl 1 rfl rfl rfl rfl hl.1 rfl (Nat.le_of_ble_eq_true rfl) dX2_unseat_40 ⟨Nat.le_of_ble_eq_true rfl, Nat.le_of_ble_eq_true rfl⟩ (k := 0) (n := 0) rfl rfl (fun  u_ H locs hw hP hD hS => ?_)
  have hP : va_P D vwCl [(c, .inr (2, [.ref b, .ref ol, .int (bI fo), .ref el, .int (bI fe), .ref aSe, .ref aDt, .ref aOb, .int (nI (dm - 1))])), (aSe, .inl (cI, 9, .inl (upd S (dt (dm - 1)) (-1)))), (aDt, .inl (cI, 9, .inl (fun j => nI (dt j)))), (aOb, .inl (cI, 9, .inl (fun j => nI (ob9 j)))), (ol, .inr (1, [.ref oa, .int (nI (ob9 (dm - 1)))]))] H := hP
  have hD : va_D AA [(c, .inr (2, [.ref b, .ref ol, .int (bI fo), .ref el, .int (bI fe), .ref aSe, .ref aDt, .ref aOb, .int (nI (dm - 1))])), (aSe, .inl (cI, 9, .inl (upd S (dt (dm - 1)) (-1)))), (aDt, .inl (cI, 9, .inl (fun j => nI (dt j)))), (aOb, .inl (cI, 9, .inl (fun j => nI (ob9 j)))), (ol, .inr (1, [.ref oa, .int (nI (ob9 (dm - 1)))]))] := hD
  refine lv_iload_n hXX hBB dX2_unseat_43 rfl (lv_at hl 0 rfl) ?_
  refine hret (r := nI (dt (dm - 1))) () ?_ (rfl) (hP.sub [0, 4, 1, 2, 3] rfl) (hD.sub [0, 4, 1, 2, 3] (by decide) rfl) hS (Nat.le_of_ble_eq_true rfl) (Nat.le_of_ble_eq_true rfl) dX2_unseat_44
  show nI (dt (dm - 1)) = nI (dt (dm - 1))
  rfl
abbrev rmX0_addLawful : Room := { frames := 30, cells := 0, slots := 0, locals := 800 }
set_option maxHeartbeats 4000000 in
set_option maxRecDepth 100000 in
theorem kX0_addLawful (l : Launch) (D : va_G) (cI : ClassId) (b : Nat) (g : Nat) (p : Nat) (T : Nat) (bR : Nat) (bB : Nat) (bA : Nat) (bO : Nat) (bP : Nat) (bM : Nat) (rg : Nat → Nat) (bd : Nat → Nat) (ap : Nat → Nat) (od : Nat → Nat) (pm : Nat → Nat) (mb : Nat → Nat) (h : Nat) (a : Nat) (f : Nat → Nat) (n : Nat) (hg0 : 0 < g) (hg4 : g ≤ 4) (hT : T ≤ 9) (hrg : ∀ z, z < 9 → rg z < 6) (hbd : ∀ z, z < 6 → bd z < 4) (hap : ∀ z, ap z < 512) (hod : ∀ z, od z < 512) (hpm : ∀ z, z < T → pm z = pmN g z) (hmb : ∀ z, z < g → mb z = 0) (hn : n + extN g rg bd ap od T 0 0 (fun _ => 1) ≤ 576) : Cv l yX0_addLawful wsX0_addLawful rmX0_addLawful D [(cI, .int)] [.ref b, .ref h] [(b, .inr (0, [.int (nI g), .int (nI p), .int (nI T), .ref bR, .ref bB, .ref bA, .ref bO, .ref bP, .ref bM])), (bR, .inl (cI, 9, .inl (fun j => nI (rg j)))), (bB, .inl (cI, 6, .inl (fun j => nI (bd j)))), (bA, .inl (cI, 9, .inl (fun j => nI (ap j)))), (bO, .inl (cI, 9, .inl (fun j => nI (od j)))), (bP, .inl (cI, 9, .inl (fun j => nI (pm j)))), (bM, .inl (cI, 4, .inl (fun j => nI (mb j)))), (h, .inr (1, [.ref a, .int (nI n)])), (a, .inl (cI, 576, .inl (fun j => nI (f j))))] (fun (u : (Nat → Nat) × Nat) => (u.2 = n + extN g rg bd ap od T 0 0 (fun _ => 1)) ∧ (∀ w : Nat → Nat, sm (fun z => w (u.1 z)) u.2 = sm (fun z => w (f z)) n + extN g rg bd ap od T 0 0 w)) (fun (u : (Nat → Nat) × Nat) => [(b, .inr (0, [.int (nI g), .int (nI p), .int (nI T), .ref bR, .ref bB, .ref bA, .ref bO, .ref bP, .ref bM])), (bR, .inl (cI, 9, .inl (fun j => nI (rg j)))), (bB, .inl (cI, 6, .inl (fun j => nI (bd j)))), (bA, .inl (cI, 9, .inl (fun j => nI (ap j)))), (bO, .inl (cI, 9, .inl (fun j => nI (od j)))), (bP, .inl (cI, 9, .inl (fun j => nI (pm j)))), (bM, .inl (cI, 4, .inl (fun j => nI (mb j)))), (h, .inr (1, [.ref a, .int (nI u.2)])), (a, .inl (cI, 576, .inl (fun j => nI (u.1 j))))]) := by
  refine Cv_of (cc := cX0_addLawful) (maxL := 2) (by decide) rfl (Nat.le_of_ble_eq_true rfl) ?_
  intro pR eV sT mI args below meth cO AA QQ ls hXX hBB hml hown hts hnm hN hK hP hD hS hAA hl hret
  have hl : lv_has ls 2 [(0, .ref b), (1, .ref h)] := hl
  refine lv_aload_n hXX hBB dX0_addLawful_0 rfl (lv_at hl 0 rfl) ?_
  refine lv_iconst (v := nI 0) hXX hBB dX0_addLawful_1 (by decide) ?_
  refine lv_iconst (v := nI 0) hXX hBB dX0_addLawful_2 (by decide) ?_
  refine lv_aload_n hXX hBB dX0_addLawful_3 rfl (lv_at hl 1 rfl) ?_
  refine m_callv (wr := []) ⟨hXX, hBB, hml, hown, hts⟩ hN (kX0_places l D cI T b g p T bR bB bA bO bP bM rg bd ap od pm mb h a f n 0 0 (by omega) (by omega) (by omega) (by omega) (by assumption) (by assumption) (by assumption) (by assumption) (by assumption) (by decide) (by exact fun z hz => absurd hz (Nat.not_lt_zero z)) (by exact fun z hz => hmb z hz) (by omega)) (cwV 3 hts gX0_addLawful_X0_placeFrom rfl rfl rfl (by decide +kernel) ⟨by simp only [rmPF, rmX0_addLawful]; omega, by simp only [rmPF, rmX0_addLawful]; omega⟩) hK hP hD hS hAA [0, 1, 2, 3, 4, 5, 6, 7, 8] [] [0] rfl rfl rfl (by decide) (by decide) (by decide) rfl 0 rfl rfl rfl rfl hl.1 rfl (Nat.le_of_ble_eq_true rfl) dX0_addLawful_4 ⟨Nat.le_of_ble_eq_true rfl, Nat.le_of_ble_eq_true rfl⟩ (k := 0) (n := 0) rfl rfl (fun  u_ H locs hw hP hD hS => ?_)
  obtain ⟨fo9, ko⟩ := u_
  have hw : (ko = n + extN g rg bd ap od T 0 0 (fun _ => 1)) ∧ (∀ w : Nat → Nat, sm (fun z => w (fo9 z)) ko = sm (fun z => w (f z)) n + extN g rg bd ap od T 0 0 w) := hw
  obtain ⟨e_1, e_2⟩ := hw
  have hP : va_P D vwCl [(b, .inr (0, [.int (nI g), .int (nI p), .int (nI T), .ref bR, .ref bB, .ref bA, .ref bO, .ref bP, .ref bM])), (bR, .inl (cI, 9, .inl (fun j => nI (rg j)))), (bB, .inl (cI, 6, .inl (fun j => nI (bd j)))), (bA, .inl (cI, 9, .inl (fun j => nI (ap j)))), (bO, .inl (cI, 9, .inl (fun j => nI (od j)))), (bP, .inl (cI, 9, .inl (fun j => nI (pm j)))), (bM, .inl (cI, 4, .inl (fun j => nI (mb j)))), (h, .inr (1, [.ref a, .int (nI ko)])), (a, .inl (cI, 576, .inl (fun j => nI (fo9 j))))] H := hP
  have hD : va_D AA [(b, .inr (0, [.int (nI g), .int (nI p), .int (nI T), .ref bR, .ref bB, .ref bA, .ref bO, .ref bP, .ref bM])), (bR, .inl (cI, 9, .inl (fun j => nI (rg j)))), (bB, .inl (cI, 6, .inl (fun j => nI (bd j)))), (bA, .inl (cI, 9, .inl (fun j => nI (ap j)))), (bO, .inl (cI, 9, .inl (fun j => nI (od j)))), (bP, .inl (cI, 9, .inl (fun j => nI (pm j)))), (bM, .inl (cI, 4, .inl (fun j => nI (mb j)))), (h, .inr (1, [.ref a, .int (nI ko)])), (a, .inl (cI, 576, .inl (fun j => nI (fo9 j))))] := hD
  refine hret (fo9, ko) ?_ (hP.sub [0, 1, 2, 3, 4, 5, 6, 7, 8] rfl) (hD.sub [0, 1, 2, 3, 4, 5, 6, 7, 8] (by decide) rfl) hS (Nat.le_of_ble_eq_true rfl) (Nat.le_of_ble_eq_true rfl) dX0_addLawful_7
  show (ko = n + extN g rg bd ap od T 0 0 (fun _ => 1)) ∧ (∀ w : Nat → Nat, sm (fun z => w (fo9 z)) ko = sm (fun z => w (f z)) n + extN g rg bd ap od T 0 0 w)
  exact ⟨e_1, e_2⟩
abbrev rmX2_openResults : Room := { frames := 31, cells := 0, slots := 0, locals := 821 }
set_option maxHeartbeats 4000000 in
set_option maxRecDepth 100000 in
theorem kX2_openResults (l : Launch) (D : va_G) (cI : ClassId) (c : Nat) (b : Nat) (ol : Nat) (el : Nat) (aSe : Nat) (aDt : Nat) (aOb : Nat) (fo : Bool) (fe : Bool) (dm : Nat) (g : Nat) (p : Nat) (bR : Nat) (bB : Nat) (bA : Nat) (bO : Nat) (bP : Nat) (bM : Nat) (rg : Nat → Nat) (bd : Nat → Nat) (ap : Nat → Nat) (od : Nat → Nat) (pm : Nat → Nat) (mb : Nat → Nat) (oa : Nat) (n : Nat) (f : Nat → Nat) (hg0 : 0 < g) (hg4 : g ≤ 4) (hp3 : p ≤ 3) (hT : g * p ≤ 9) (hrg : ∀ z, z < 9 → rg z < 6) (hbd : ∀ z, z < 6 → bd z < 4) (hap : ∀ z, ap z < 512) (hod : ∀ z, od z < 512) (hpm : ∀ z, z < g * p → pm z = pmN g z) (hmb : ∀ z, z < g → mb z = 0) (hext : extN g rg bd ap od (g * p) 0 0 (fun _ => 1) ≤ 576) : Cr l yX2_openResults wsX2_openResults rmX2_openResults D [(cI, .int)] [.ref c] [(c, .inr (2, [.ref b, .ref ol, .int (bI fo), .ref el, .int (bI fe), .ref aSe, .ref aDt, .ref aOb, .int (nI dm)])), (b, .inr (0, [.int (nI g), .int (nI p), .int (nI (g * p)), .ref bR, .ref bB, .ref bA, .ref bO, .ref bP, .ref bM])), (bR, .inl (cI, 9, .inl (fun j => nI (rg j)))), (bB, .inl (cI, 6, .inl (fun j => nI (bd j)))), (bA, .inl (cI, 9, .inl (fun j => nI (ap j)))), (bO, .inl (cI, 9, .inl (fun j => nI (od j)))), (bP, .inl (cI, 9, .inl (fun j => nI (pm j)))), (bM, .inl (cI, 4, .inl (fun j => nI (mb j)))), (ol, .inr (1, [.ref oa, .int (nI n)])), (oa, .inl (cI, 576, .inl (fun j => nI (f j))))] ol (fun (u : (Nat → Nat) × Nat) => (fo = true → u.1 = f ∧ u.2 = n) ∧ (fo = false → u.2 ≤ 576 ∧ ∀ w : Nat → Nat, sm (fun z => w (u.1 z)) u.2 = extN g rg bd ap od (g * p) 0 0 w)) (fun (u : (Nat → Nat) × Nat) => [(c, .inr (2, [.ref b, .ref ol, .int (bI true), .ref el, .int (bI fe), .ref aSe, .ref aDt, .ref aOb, .int (nI dm)])), (b, .inr (0, [.int (nI g), .int (nI p), .int (nI (g * p)), .ref bR, .ref bB, .ref bA, .ref bO, .ref bP, .ref bM])), (bR, .inl (cI, 9, .inl (fun j => nI (rg j)))), (bB, .inl (cI, 6, .inl (fun j => nI (bd j)))), (bA, .inl (cI, 9, .inl (fun j => nI (ap j)))), (bO, .inl (cI, 9, .inl (fun j => nI (od j)))), (bP, .inl (cI, 9, .inl (fun j => nI (pm j)))), (bM, .inl (cI, 4, .inl (fun j => nI (mb j)))), (ol, .inr (1, [.ref oa, .int (nI u.2)])), (oa, .inl (cI, 576, .inl (fun j => nI (u.1 j))))]) := by
  refine Cr_of (cc := cX2_openResults) (maxL := 1) (by decide) rfl (Nat.le_of_ble_eq_true rfl) ?_
  intro pR eV sT mI args below meth cO AA QQ ls hXX hBB hml hown hts hnm hN hK hP hD hS hAA hl hret
  have hl : lv_has ls 1 [(0, .ref c)] := hl
  have kw_1 := hts (.fieldLink RX2 186 "CupDraw" "isOpenListFresh" "Z") (List.mem_of_getElem? (i := 1) rfl)
  have iw_X2 : ∀ w ∈ wsX20, w ∈ wsX2_openResults := by decide +kernel
  have kw_2 := hts (.fieldLink RX2 19 "CupDraw" "openList" "LCupDraw$ResultList;") (List.mem_of_getElem? (i := 2) rfl)
  have kw_3 := hts (.fieldLink RX2 10 "CupDraw" "bowl" "LCupDraw$Bowl;") (List.mem_of_getElem? (i := 3) rfl)
  refine lv_aload_n hXX hBB dX2_openResults_0 rfl (lv_at hl 0 rfl) ?_
  refine va_get (D := D) (ci := 2) (v := .int (bI fo)) (C := RX2) (T := TX2) (N := 9) hXX hBB hts iw_X2 hown hK hP 0 rfl rfl 2 (by decide) kw_1 (fun _ h9 => h9) rfl dX2_openResults_1 ?_
  refine lv_if_ne (tgt := 30) hXX hBB dX2_openResults_4 (by decide) (fun c_4 => ?_) (fun c_4 => ?_)
  · have c_4 : fo = true := m_bz1 c_4
    rw [c_4] at hP hD
    have hP : va_P D vwCl [(c, .inr (2, [.ref b, .ref ol, .int (bI true), .ref el, .int (bI fe), .ref aSe, .ref aDt, .ref aOb, .int (nI dm)])), (b, .inr (0, [.int (nI g), .int (nI p), .int (nI (g * p)), .ref bR, .ref bB, .ref bA, .ref bO, .ref bP, .ref bM])), (bR, .inl (cI, 9, .inl (fun j => nI (rg j)))), (bB, .inl (cI, 6, .inl (fun j => nI (bd j)))), (bA, .inl (cI, 9, .inl (fun j => nI (ap j)))), (bO, .inl (cI, 9, .inl (fun j => nI (od j)))), (bP, .inl (cI, 9, .inl (fun j => nI (pm j)))), (bM, .inl (cI, 4, .inl (fun j => nI (mb j)))), (ol, .inr (1, [.ref oa, .int (nI n)])), (oa, .inl (cI, 576, .inl (fun j => nI (f j))))] _ := hP
    have hD : va_D AA [(c, .inr (2, [.ref b, .ref ol, .int (bI true), .ref el, .int (bI fe), .ref aSe, .ref aDt, .ref aOb, .int (nI dm)])), (b, .inr (0, [.int (nI g), .int (nI p), .int (nI (g * p)), .ref bR, .ref bB, .ref bA, .ref bO, .ref bP, .ref bM])), (bR, .inl (cI, 9, .inl (fun j => nI (rg j)))), (bB, .inl (cI, 6, .inl (fun j => nI (bd j)))), (bA, .inl (cI, 9, .inl (fun j => nI (ap j)))), (bO, .inl (cI, 9, .inl (fun j => nI (od j)))), (bP, .inl (cI, 9, .inl (fun j => nI (pm j)))), (bM, .inl (cI, 4, .inl (fun j => nI (mb j)))), (ol, .inr (1, [.ref oa, .int (nI n)])), (oa, .inl (cI, 576, .inl (fun j => nI (f j))))] := hD
    refine lv_aload_n hXX hBB dX2_openResults_30 rfl (lv_at hl 0 rfl) ?_
    refine va_get (D := D) (ci := 2) (v := .ref ol) (C := RX2) (T := TX2) (N := 9) hXX hBB hts iw_X2 hown hK hP 0 rfl rfl 1 (by decide) kw_2 (fun _ h9 => h9) rfl dX2_openResults_31 ?_
    refine hret (f, n) ?_ (hP.sub [0, 1, 2, 3, 4, 5, 6, 7, 8, 9] rfl) (hD.sub [0, 1, 2, 3, 4, 5, 6, 7, 8, 9] (by decide) rfl) hS (Nat.le_of_ble_eq_true rfl) (Nat.le_of_ble_eq_true rfl) dX2_openResults_34
    show (fo = true → f = f ∧ n = n) ∧ (fo = false → n ≤ 576 ∧ ∀ w : Nat → Nat, sm (fun z => w (f z)) n = extN g rg bd ap od (g * p) 0 0 w)
    exact ⟨fun _ => ⟨rfl, rfl⟩, fun q => (by rw [c_4] at q; cases q)⟩
  · have c_4 : fo = false := m_bz0 c_4
    refine lv_aload_n hXX hBB dX2_openResults_7 rfl (lv_at hl 0 rfl) ?_
    refine va_get (D := D) (ci := 2) (v := .ref ol) (C := RX2) (T := TX2) (N := 9) hXX hBB hts iw_X2 hown hK hP 0 rfl rfl 1 (by decide) kw_2 (fun _ h9 => h9) rfl dX2_openResults_8 ?_
    refine m_callv (wr := [(c, .inr (2, [.ref b, .ref ol, .int (bI fo), .ref el, .int (bI fe), .ref aSe, .ref aDt, .ref aOb, .int (nI dm)])), (b, .inr (0, [.int (nI g), .int (nI p), .int (nI (g * p)), .ref bR, .ref bB, .ref bA, .ref bO, .ref bP, .ref bM])), (bR, .inl (cI, 9, .inl (fun j => nI (rg j)))), (bB, .inl (cI, 6, .inl (fun j => nI (bd j)))), (bA, .inl (cI, 9, .inl (fun j => nI (ap j)))), (bO, .inl (cI, 9, .inl (fun j => nI (od j)))), (bP, .inl (cI, 9, .inl (fun j => nI (pm j)))), (bM, .inl (cI, 4, .inl (fun j => nI (mb j)))), (oa, .inl (cI, 576, .inl (fun j => nI (f j))))]) ⟨hXX, hBB, hml, hown, hts⟩ hN (kX1_clear l D ol oa n) (cwV 0 hts gX2_openResults_X1_clear rfl rfl rfl (by decide +kernel) ⟨Nat.le_of_ble_eq_true rfl, Nat.le_of_ble_eq_true rfl⟩) hK hP hD hS hAA [8] [0, 1, 2, 3, 4, 5, 6, 7, 9] [] rfl rfl rfl (by decide) (by decide) (by decide) rfl 1 rfl rfl rfl rfl hl.1 rfl (Nat.le_of_ble_eq_true rfl) dX2_openResults_11 ⟨Nat.le_of_ble_eq_true rfl, Nat.le_of_ble_eq_true rfl⟩ (k := 0) (n := 0) rfl rfl (fun  u_ H locs hw hP hD hS => ?_)
    have hP : va_P D vwCl [(c, .inr (2, [.ref b, .ref ol, .int (bI fo), .ref el, .int (bI fe), .ref aSe, .ref aDt, .ref aOb, .int (nI dm)])), (b, .inr (0, [.int (nI g), .int (nI p), .int (nI (g * p)), .ref bR, .ref bB, .ref bA, .ref bO, .ref bP, .ref bM])), (bR, .inl (cI, 9, .inl (fun j => nI (rg j)))), (bB, .inl (cI, 6, .inl (fun j => nI (bd j)))), (bA, .inl (cI, 9, .inl (fun j => nI (ap j)))), (bO, .inl (cI, 9, .inl (fun j => nI (od j)))), (bP, .inl (cI, 9, .inl (fun j => nI (pm j)))), (bM, .inl (cI, 4, .inl (fun j => nI (mb j)))), (oa, .inl (cI, 576, .inl (fun j => nI (f j)))), (ol, .inr (1, [.ref oa, .int (nI 0)]))] H := hP
    have hD : va_D AA [(c, .inr (2, [.ref b, .ref ol, .int (bI fo), .ref el, .int (bI fe), .ref aSe, .ref aDt, .ref aOb, .int (nI dm)])), (b, .inr (0, [.int (nI g), .int (nI p), .int (nI (g * p)), .ref bR, .ref bB, .ref bA, .ref bO, .ref bP, .ref bM])), (bR, .inl (cI, 9, .inl (fun j => nI (rg j)))), (bB, .inl (cI, 6, .inl (fun j => nI (bd j)))), (bA, .inl (cI, 9, .inl (fun j => nI (ap j)))), (bO, .inl (cI, 9, .inl (fun j => nI (od j)))), (bP, .inl (cI, 9, .inl (fun j => nI (pm j)))), (bM, .inl (cI, 4, .inl (fun j => nI (mb j)))), (oa, .inl (cI, 576, .inl (fun j => nI (f j)))), (ol, .inr (1, [.ref oa, .int (nI 0)]))] := hD
    refine lv_aload_n hXX hBB dX2_openResults_14 rfl (lv_at hl 0 rfl) ?_
    refine va_get (D := D) (ci := 2) (v := .ref b) (C := RX2) (T := TX2) (N := 9) hXX hBB hts iw_X2 hown hK hP 0 rfl rfl 0 (by decide) kw_3 (fun _ h9 => h9) rfl dX2_openResults_15 ?_
    refine lv_aload_n hXX hBB dX2_openResults_18 rfl (lv_at hl 0 rfl) ?_
    refine va_get (D := D) (ci := 2) (v := .ref ol) (C := RX2) (T := TX2) (N := 9) hXX hBB hts iw_X2 hown hK hP 0 rfl rfl 1 (by decide) kw_2 (fun _ h9 => h9) rfl dX2_openResults_19 ?_
    refine m_callv (wr := [(c, .inr (2, [.ref b, .ref ol, .int (bI fo), .ref el, .int (bI fe), .ref aSe, .ref aDt, .ref aOb, .int (nI dm)]))]) ⟨hXX, hBB, hml, hown, hts⟩ hN (kX0_addLawful l D cI b g p (g * p) bR bB bA bO bP bM rg bd ap od pm mb ol oa f 0 (by omega) (by omega) (by omega) (by assumption) (by assumption) (by assumption) (by assumption) (by assumption) (by assumption) (by omega)) (cwV 1 hts gX2_openResults_X0_addLawful rfl rfl rfl (by decide +kernel) ⟨Nat.le_of_ble_eq_true rfl, Nat.le_of_ble_eq_true rfl⟩) hK hP hD hS hAA [1, 2, 3, 4, 5, 6, 7, 9, 8] [0] [0] rfl rfl rfl (by decide) (by decide) (by decide) rfl 0 rfl rfl rfl rfl hl.1 rfl (Nat.le_of_ble_eq_true rfl) dX2_openResults_22 ⟨Nat.le_of_ble_eq_true rfl, Nat.le_of_ble_eq_true rfl⟩ (k := 0) (n := 0) rfl rfl (fun  u_ H locs hw hP hD hS => ?_)
    obtain ⟨fo9, ko⟩ := u_
    have hw : (ko = 0 + extN g rg bd ap od (g * p) 0 0 (fun _ => 1)) ∧ (∀ w : Nat → Nat, sm (fun z => w (fo9 z)) ko = sm (fun z => w (f z)) 0 + extN g rg bd ap od (g * p) 0 0 w) := hw
    obtain ⟨e_1, e_2⟩ := hw
    have hP : va_P D vwCl [(c, .inr (2, [.ref b, .ref ol, .int (bI fo), .ref el, .int (bI fe), .ref aSe, .ref aDt, .ref aOb, .int (nI dm)])), (b, .inr (0, [.int (nI g), .int (nI p), .int (nI (g * p)), .ref bR, .ref bB, .ref bA, .ref bO, .ref bP, .ref bM])), (bR, .inl (cI, 9, .inl (fun j => nI (rg j)))), (bB, .inl (cI, 6, .inl (fun j => nI (bd j)))), (bA, .inl (cI, 9, .inl (fun j => nI (ap j)))), (bO, .inl (cI, 9, .inl (fun j => nI (od j)))), (bP, .inl (cI, 9, .inl (fun j => nI (pm j)))), (bM, .inl (cI, 4, .inl (fun j => nI (mb j)))), (ol, .inr (1, [.ref oa, .int (nI ko)])), (oa, .inl (cI, 576, .inl (fun j => nI (fo9 j))))] H := hP
    have hD : va_D AA [(c, .inr (2, [.ref b, .ref ol, .int (bI fo), .ref el, .int (bI fe), .ref aSe, .ref aDt, .ref aOb, .int (nI dm)])), (b, .inr (0, [.int (nI g), .int (nI p), .int (nI (g * p)), .ref bR, .ref bB, .ref bA, .ref bO, .ref bP, .ref bM])), (bR, .inl (cI, 9, .inl (fun j => nI (rg j)))), (bB, .inl (cI, 6, .inl (fun j => nI (bd j)))), (bA, .inl (cI, 9, .inl (fun j => nI (ap j)))), (bO, .inl (cI, 9, .inl (fun j => nI (od j)))), (bP, .inl (cI, 9, .inl (fun j => nI (pm j)))), (bM, .inl (cI, 4, .inl (fun j => nI (mb j)))), (ol, .inr (1, [.ref oa, .int (nI ko)])), (oa, .inl (cI, 576, .inl (fun j => nI (fo9 j))))] := hD
    refine lv_aload_n hXX hBB dX2_openResults_25 rfl (lv_at hl 0 rfl) ?_
    refine lv_iconst (v := nI 1) hXX hBB dX2_openResults_26 (by decide) ?_
    refine m_top (y := bI true) rfl ?_
    refine va_put (D := D) (ci := 2) (v := .int (bI true)) (ty := .boolean) (C := RX2) (T := TX2) (N := 9) hXX hBB hts iw_X2 tyX2 tyX2_ok nmX2 hown hK hP hD hS 0 rfl rfl 2 (by decide) kw_1 (fun _ h9 => h9) rfl (by decide +kernel) (m_narb _) (m_fitb _) (Nat.le_of_ble_eq_true rfl) dX2_openResults_27 (fun H locs hP hD hS => ?_)
    have hP : va_P D vwCl [(c, .inr (2, [.ref b, .ref ol, .int (bI true), .ref el, .int (bI fe), .ref aSe, .ref aDt, .ref aOb, .int (nI dm)])), (b, .inr (0, [.int (nI g), .int (nI p), .int (nI (g * p)), .ref bR, .ref bB, .ref bA, .ref bO, .ref bP, .ref bM])), (bR, .inl (cI, 9, .inl (fun j => nI (rg j)))), (bB, .inl (cI, 6, .inl (fun j => nI (bd j)))), (bA, .inl (cI, 9, .inl (fun j => nI (ap j)))), (bO, .inl (cI, 9, .inl (fun j => nI (od j)))), (bP, .inl (cI, 9, .inl (fun j => nI (pm j)))), (bM, .inl (cI, 4, .inl (fun j => nI (mb j)))), (ol, .inr (1, [.ref oa, .int (nI ko)])), (oa, .inl (cI, 576, .inl (fun j => nI (fo9 j))))] H := hP
    have hD : va_D AA [(c, .inr (2, [.ref b, .ref ol, .int (bI true), .ref el, .int (bI fe), .ref aSe, .ref aDt, .ref aOb, .int (nI dm)])), (b, .inr (0, [.int (nI g), .int (nI p), .int (nI (g * p)), .ref bR, .ref bB, .ref bA, .ref bO, .ref bP, .ref bM])), (bR, .inl (cI, 9, .inl (fun j => nI (rg j)))), (bB, .inl (cI, 6, .inl (fun j => nI (bd j)))), (bA, .inl (cI, 9, .inl (fun j => nI (ap j)))), (bO, .inl (cI, 9, .inl (fun j => nI (od j)))), (bP, .inl (cI, 9, .inl (fun j => nI (pm j)))), (bM, .inl (cI, 4, .inl (fun j => nI (mb j)))), (ol, .inr (1, [.ref oa, .int (nI ko)])), (oa, .inl (cI, 576, .inl (fun j => nI (fo9 j))))] := hD
    refine lv_aload_n hXX hBB dX2_openResults_30 rfl (lv_at hl 0 rfl) ?_
    refine va_get (D := D) (ci := 2) (v := .ref ol) (C := RX2) (T := TX2) (N := 9) hXX hBB hts iw_X2 hown hK hP 0 rfl rfl 1 (by decide) kw_2 (fun _ h9 => h9) rfl dX2_openResults_31 ?_
    refine hret (fo9, ko) ?_ (hP.sub [0, 1, 2, 3, 4, 5, 6, 7, 8, 9] rfl) (hD.sub [0, 1, 2, 3, 4, 5, 6, 7, 8, 9] (by decide) rfl) hS (Nat.le_of_ble_eq_true rfl) (Nat.le_of_ble_eq_true rfl) dX2_openResults_34
    show (fo = true → fo9 = f ∧ ko = n) ∧ (fo = false → ko ≤ 576 ∧ ∀ w : Nat → Nat, sm (fun z => w (fo9 z)) ko = extN g rg bd ap od (g * p) 0 0 w)
    exact ⟨fun q => (by rw [c_4] at q; cases q), fun _ => ⟨by omega, fun w => by rw [e_2 w]; simp [sm]⟩⟩
abbrev rmX2_results : Room := { frames := 32, cells := 0, slots := 0, locals := 841 }
set_option maxHeartbeats 4000000 in
set_option maxRecDepth 100000 in
theorem kX2_results (l : Launch) (D : va_G) (cI : ClassId) (c : Nat) (b : Nat) (ol : Nat) (el : Nat) (aSe : Nat) (aDt : Nat) (aOb : Nat) (fo : Bool) (fe : Bool) (dm : Nat) (g : Nat) (p : Nat) (bR : Nat) (bB : Nat) (bA : Nat) (bO : Nat) (bP : Nat) (bM : Nat) (rg : Nat → Nat) (bd : Nat → Nat) (ap : Nat → Nat) (od : Nat → Nat) (pm : Nat → Nat) (mb : Nat → Nat) (oa : Nat) (n : Nat) (f : Nat → Nat) (hg0 : 0 < g) (hg4 : g ≤ 4) (hp3 : p ≤ 3) (hT : g * p ≤ 9) (hrg : ∀ z, z < 9 → rg z < 6) (hbd : ∀ z, z < 6 → bd z < 4) (hap : ∀ z, ap z < 512) (hod : ∀ z, od z < 512) (hpm : ∀ z, z < g * p → pm z = pmN g z) (hmb : ∀ z, z < g → mb z = 0) (hext : extN g rg bd ap od (g * p) 0 0 (fun _ => 1) ≤ 576) : Ci l yX2_results wsX2_results rmX2_results D [(cI, .int)] [.ref c] [(c, .inr (2, [.ref b, .ref ol, .int (bI fo), .ref el, .int (bI fe), .ref aSe, .ref aDt, .ref aOb, .int (nI dm)])), (b, .inr (0, [.int (nI g), .int (nI p), .int (nI (g * p)), .ref bR, .ref bB, .ref bA, .ref bO, .ref bP, .ref bM])), (bR, .inl (cI, 9, .inl (fun j => nI (rg j)))), (bB, .inl (cI, 6, .inl (fun j => nI (bd j)))), (bA, .inl (cI, 9, .inl (fun j => nI (ap j)))), (bO, .inl (cI, 9, .inl (fun j => nI (od j)))), (bP, .inl (cI, 9, .inl (fun j => nI (pm j)))), (bM, .inl (cI, 4, .inl (fun j => nI (mb j)))), (ol, .inr (1, [.ref oa, .int (nI n)])), (oa, .inl (cI, 576, .inl (fun j => nI (f j))))] (fun (r : Int32) (u : (Nat → Nat) × Nat) => (r = nI u.2) ∧ (fo = true → u.1 = f ∧ u.2 = n) ∧ (fo = false → u.2 ≤ 576 ∧ ∀ w : Nat → Nat, sm (fun z => w (u.1 z)) u.2 = extN g rg bd ap od (g * p) 0 0 w)) (fun (u : (Nat → Nat) × Nat) => [(c, .inr (2, [.ref b, .ref ol, .int (bI true), .ref el, .int (bI fe), .ref aSe, .ref aDt, .ref aOb, .int (nI dm)])), (b, .inr (0, [.int (nI g), .int (nI p), .int (nI (g * p)), .ref bR, .ref bB, .ref bA, .ref bO, .ref bP, .ref bM])), (bR, .inl (cI, 9, .inl (fun j => nI (rg j)))), (bB, .inl (cI, 6, .inl (fun j => nI (bd j)))), (bA, .inl (cI, 9, .inl (fun j => nI (ap j)))), (bO, .inl (cI, 9, .inl (fun j => nI (od j)))), (bP, .inl (cI, 9, .inl (fun j => nI (pm j)))), (bM, .inl (cI, 4, .inl (fun j => nI (mb j)))), (ol, .inr (1, [.ref oa, .int (nI u.2)])), (oa, .inl (cI, 576, .inl (fun j => nI (u.1 j))))]) := by
  refine Ci_of (cc := cX2_results) (maxL := 1) (by decide) rfl (Nat.le_of_ble_eq_true rfl) ?_
  intro pR eV sT mI args below meth cO AA QQ ls hXX hBB hml hown hts hnm hN hK hP hD hS hAA hl hret
  have hl : lv_has ls 1 [(0, .ref c)] := hl
  have kn_99 : (Cond.fieldLinkNest RX2 99 RX1 "size" "I" RX2).before args sT = true := va_Nw.use rfl (hN _ (List.mem_of_getElem? (i := 9) rfl))
  have iw_X1 : ∀ w ∈ wsX10, w ∈ wsX2_results := by decide +kernel
  refine lv_aload_n hXX hBB dX2_results_0 rfl (lv_at hl 0 rfl) ?_
  refine m_callr (wr := []) ⟨hXX, hBB, hml, hown, hts⟩ hN (kX2_openResults l D cI c b ol el aSe aDt aOb fo fe dm g p bR bB bA bO bP bM rg bd ap od pm mb oa n f (by omega) (by omega) (by omega) (by omega) (by assumption) (by assumption) (by assumption) (by assumption) (by assumption) (by assumption) (by assumption)) (cwV 0 hts gX2_results_X2_openResults rfl rfl rfl (by decide +kernel) ⟨Nat.le_of_ble_eq_true rfl, Nat.le_of_ble_eq_true rfl⟩) hK hP hD hS hAA [0, 1, 2, 3, 4, 5, 6, 7, 8, 9] [] [0] rfl rfl rfl (by decide) (by decide) (by decide) rfl 2 rfl rfl rfl rfl hl.1 rfl (Nat.le_of_ble_eq_true rfl) dX2_results_1 ⟨Nat.le_of_ble_eq_true rfl, Nat.le_of_ble_eq_true rfl⟩ (k := 0) (n := 0) rfl rfl (fun  u_ H locs hw hP hD hS => ?_)
  obtain ⟨fo9, ko⟩ := u_
  have hw : (fo = true → fo9 = f ∧ ko = n) ∧ (fo = false → ko ≤ 576 ∧ ∀ w : Nat → Nat, sm (fun z => w (fo9 z)) ko = extN g rg bd ap od (g * p) 0 0 w) := hw
  obtain ⟨e_1, e_2⟩ := hw
  have hP : va_P D vwCl [(c, .inr (2, [.ref b, .ref ol, .int (bI true), .ref el, .int (bI fe), .ref aSe, .ref aDt, .ref aOb, .int (nI dm)])), (b, .inr (0, [.int (nI g), .int (nI p), .int (nI (g * p)), .ref bR, .ref bB, .ref bA, .ref bO, .ref bP, .ref bM])), (bR, .inl (cI, 9, .inl (fun j => nI (rg j)))), (bB, .inl (cI, 6, .inl (fun j => nI (bd j)))), (bA, .inl (cI, 9, .inl (fun j => nI (ap j)))), (bO, .inl (cI, 9, .inl (fun j => nI (od j)))), (bP, .inl (cI, 9, .inl (fun j => nI (pm j)))), (bM, .inl (cI, 4, .inl (fun j => nI (mb j)))), (ol, .inr (1, [.ref oa, .int (nI ko)])), (oa, .inl (cI, 576, .inl (fun j => nI (fo9 j))))] H := hP
  have hD : va_D AA [(c, .inr (2, [.ref b, .ref ol, .int (bI true), .ref el, .int (bI fe), .ref aSe, .ref aDt, .ref aOb, .int (nI dm)])), (b, .inr (0, [.int (nI g), .int (nI p), .int (nI (g * p)), .ref bR, .ref bB, .ref bA, .ref bO, .ref bP, .ref bM])), (bR, .inl (cI, 9, .inl (fun j => nI (rg j)))), (bB, .inl (cI, 6, .inl (fun j => nI (bd j)))), (bA, .inl (cI, 9, .inl (fun j => nI (ap j)))), (bO, .inl (cI, 9, .inl (fun j => nI (od j)))), (bP, .inl (cI, 9, .inl (fun j => nI (pm j)))), (bM, .inl (cI, 4, .inl (fun j => nI (mb j)))), (ol, .inr (1, [.ref oa, .int (nI ko)])), (oa, .inl (cI, 576, .inl (fun j => nI (fo9 j))))] := hD
  refine va_getN (D := D) (ci := 1) (v := .int (nI ko)) (C := RX1) (T := TX1) (N := 2) hXX hBB hts iw_X1 hown hK hP 8 rfl rfl 1 (by decide) kn_99 (fun _ h9 => h9) rfl dX2_results_4 ?_
  refine hret (r := nI ko) (fo9, ko) ?_ (rfl) (hP.sub [0, 1, 2, 3, 4, 5, 6, 7, 8, 9] rfl) (hD.sub [0, 1, 2, 3, 4, 5, 6, 7, 8, 9] (by decide) rfl) hS (Nat.le_of_ble_eq_true rfl) (Nat.le_of_ble_eq_true rfl) dX2_results_7
  show ((nI ko) = nI ko) ∧ (fo = true → fo9 = f ∧ ko = n) ∧ (fo = false → ko ≤ 576 ∧ ∀ w : Nat → Nat, sm (fun z => w (fo9 z)) ko = extN g rg bd ap od (g * p) 0 0 w)
  exact ⟨rfl, e_1, e_2⟩
