def inB (x a b : Int32) : Bool := decide (a ≤ x) && decide (x ≤ b)
theorem inB_t {x a b : Int32} (h1 : ¬ x < a) (h2 : ¬ b < x) : nI 1 = bI (inB x a b) := by
  have h3 : a ≤ x := Int32.not_lt.mp h1
  have h4 : x ≤ b := Int32.not_lt.mp h2
  simp [inB, bI, h3, h4]
theorem inB_f1 {x a b : Int32} (h1 : x < a) : nI 0 = bI (inB x a b) := by
  have h3 : ¬ a ≤ x := Int32.not_le.mpr h1
  simp [inB, bI, h3]
theorem inB_f2 {x a b : Int32} (h1 : b < x) : nI 0 = bI (inB x a b) := by
  have h3 : ¬ x ≤ b := Int32.not_le.mpr h1
  simp [inB, bI, h3]
theorem inB_nat {x : Int32} {lo hi : Nat} (hb : lo < 2 ^ 31 ∧ hi < 2 ^ 31) (h : inB x (nI lo) (nI hi) = true) : ∃ k, lo ≤ k ∧ k ≤ hi ∧ x = nI k := by
  simp only [inB, Bool.and_eq_true, decide_eq_true_eq] at h
  obtain ⟨h1, h2⟩ := h
  rw [Int32.le_iff_toInt_le, nI_toInt hb.1] at h1
  rw [Int32.le_iff_toInt_le, nI_toInt hb.2] at h2
  refine ⟨x.toInt.toNat, by omega, by omega, ?_⟩
  apply Int32.toInt_inj.mp
  rw [nI_toInt (by omega)]
  omega
theorem inB_of {k lo hi : Nat} (h1 : lo ≤ k) (h2 : k ≤ hi) (hb : hi < 2 ^ 31) : inB (nI k) (nI lo) (nI hi) = true := by
  have h3 : nI lo ≤ nI k := nI_le h1 (by omega)
  have h4 : nI k ≤ nI hi := nI_le h2 (by omega)
  simp [inB, h3, h4]
theorem inB_lt {x : Int32} {n : Nat} (h0 : 0 < n) (hn : n < 2 ^ 31) : inB x (nI 0) (nI (n - 1)) = (decide (nI 0 ≤ x) && decide (x < nI n)) := by
  unfold inB
  congr 1
  apply decide_eq_decide.mpr
  rw [Int32.le_iff_toInt_le, Int32.lt_iff_toInt_lt, nI_toInt (by omega), nI_toInt hn]
  omega
def fac : Nat → Nat
  | 0 => 1
  | n + 1 => (n + 1) * fac n
theorem fac_step {k : Nat} (h : 2 ≤ k) : fac (k - 1) * k = fac (k + 1 - 1) := by
  obtain ⟨j, rfl⟩ : ∃ j, k = j + 1 := ⟨k - 1, by omega⟩
  simp only [Nat.add_sub_cancel, fac]
  exact Nat.mul_comm _ _
theorem fac_end {n k x : Nat} (hk : 2 ≤ k ∧ (k ≤ n + 1 ∨ k = 2)) (c : n < k) (hx : x = fac (k - 1)) : x = fac n := by
  rw [hx]
  rcases hk.2 with q | q
  · rw [show k - 1 = n by omega]
  · rw [q]
    rcases (show n = 0 ∨ n = 1 by omega) with rfl | rfl <;> rfl
def tLay (x y : Int32) : Nat := if inB x (nI 2) (nI 4) && inB y (nI 2) (nI 3) && !(decide (x = nI 4) && decide (y = nI 3)) then 0 else 1
theorem tLay_1 {x y : Int32} (h : inB x (nI 2) (nI 4) = false) : tLay x y = 1 := by simp [tLay, h]
theorem tLay_2 {x y : Int32} (h : inB y (nI 2) (nI 3) = false) : tLay x y = 1 := by simp [tLay, h]
theorem tLay_3 {x y : Int32} (h1 : x = nI 4) (h2 : y = nI 3) : tLay x y = 1 := by simp [tLay, h1, h2]
theorem tLay_0 {x y : Int32} (h1 : inB x (nI 2) (nI 4) = true) (h2 : inB y (nI 2) (nI 3) = true) (h3 : ¬ x = nI 4 ∨ ¬ y = nI 3) : tLay x y = 0 := by
  rcases h3 with h3 | h3 <;> simp [tLay, h1, h2, h3]
def layPost (x y : Int32) (th2 g2 p2 dm2 : Nat) (rg2 bd2 : Nat → Nat) (ab2 ob2 : Nat → Bool) (S2 : Nat → Int32) (r : Int32) (g p dm : Nat) (rg bd : Nat → Nat) (ab ob : Nat → Bool) (S : Nat → Int32) : Prop :=
  th2 = tLay x y ∧ (tLay x y = 0 → r = nI (g2 * p2) ∧ x = nI g2 ∧ y = nI p2 ∧ dm2 = 0 ∧ rg2 = (fun _ => 0) ∧ bd2 = (fun _ => 3) ∧ ab2 = (fun _ => false) ∧ ob2 = (fun _ => false) ∧ S2 = (fun _ => -1)) ∧
  (tLay x y ≠ 0 → g2 = g ∧ p2 = p ∧ dm2 = dm ∧ rg2 = rg ∧ bd2 = bd ∧ ab2 = ab ∧ ob2 = ob ∧ S2 = S)
theorem layPost_no {x y : Int32} {r : Int32} {g p dm : Nat} {rg bd : Nat → Nat} {ab ob : Nat → Bool} {S : Nat → Int32} (h : tLay x y = 1) : layPost x y 1 g p dm rg bd ab ob S r g p dm rg bd ab ob S :=
  ⟨h.symm, fun q => (by rw [h] at q; cases q), fun _ => ⟨rfl, rfl, rfl, rfl, rfl, rfl, rfl, rfl⟩⟩
theorem layPost_ok {x y : Int32} {g2 p2 g p dm : Nat} {rg bd : Nat → Nat} {ab ob : Nat → Bool} {S : Nat → Int32} (h : tLay x y = 0) (hx : x = nI g2) (hy : y = nI p2) : layPost x y 0 g2 p2 0 (fun _ => 0) (fun _ => 3) (fun _ => false) (fun _ => false) (fun _ => -1) (nI (g2 * p2)) g p dm rg bd ab ob S :=
  ⟨h.symm, fun _ => ⟨rfl, hx, hy, rfl, rfl, rfl, rfl, rfl, rfl⟩, fun q => absurd h q⟩
abbrev rmX3_thrown : Room := { frames := 0, cells := 0, slots := 0, locals := 0 }
set_option maxHeartbeats 4000000 in
set_option maxRecDepth 100000 in
theorem kX3_thrown (l : Launch) (D : va_G) (h : Nat) (g : Nat) (p : Nat) (aR : Nat) (aB : Nat) (aA : Nat) (aO : Nat) (dm : Nat) (aD : Nat) (aP : Nat) (th : Nat) (rm : Nat) (aS : Nat) (aW : Nat) (aU : Nat) (aL : Nat) (aE : Nat) (aQ : Nat) : Ci l yX3_thrown wsX3_thrown rmX3_thrown D [] [.ref h] [(h, .inr (3, [.int (nI g), .int (nI p), .ref aR, .ref aB, .ref aA, .ref aO, .int (nI dm), .ref aD, .ref aP, .int (nI th), .int (nI rm), .ref aS, .ref aW, .ref aU, .ref aL, .ref aE, .ref aQ]))] (fun (r : Int32) (_ : Unit) => r = nI th) (fun (_ : Unit) => [(h, .inr (3, [.int (nI g), .int (nI p), .ref aR, .ref aB, .ref aA, .ref aO, .int (nI dm), .ref aD, .ref aP, .int (nI th), .int (nI rm), .ref aS, .ref aW, .ref aU, .ref aL, .ref aE, .ref aQ]))]) := by
  refine Ci_of (cc := cX3_thrown) (maxL := 1) (by decide) rfl (Nat.le_of_ble_eq_true rfl) ?_
  intro pR eV sT mI args below meth cO AA QQ ls hXX hBB hml hown hts hnm hN hK hP hD hS hAA hl hret
  have hl : lv_has ls 1 [(0, .ref h)] := hl
  have kw_1 := hts (.fieldLink RX3 51 "CupDrawModel" "thrown" "I") (List.mem_of_getElem? (i := 1) rfl)
  have iw_X3 : ∀ w ∈ wsX30, w ∈ wsX3_thrown := by decide +kernel
  refine lv_aload_n hXX hBB dX3_thrown_0 rfl (lv_at hl 0 rfl) ?_
  refine va_get (D := D) (ci := 3) (v := .int (nI th)) (C := RX3) (T := TX3) (N := 17) hXX hBB hts iw_X3 hown hK hP 0 rfl rfl 9 (by decide) kw_1 (fun _ h9 => h9) rfl dX3_thrown_1 ?_
  refine hret (r := nI th) () ?_ (rfl) (hP.sub [0] rfl) (hD.sub [0] (by decide) rfl) hS (Nat.le_of_ble_eq_true rfl) (Nat.le_of_ble_eq_true rfl) dX3_thrown_4
  show nI th = nI th
  rfl
abbrev rmX3_in : Room := { frames := 0, cells := 0, slots := 0, locals := 0 }
set_option maxHeartbeats 4000000 in
set_option maxRecDepth 100000 in
theorem kX3_in (l : Launch) (D : va_G) (x : Int32) (a : Int32) (b : Int32) : Ci l yX3_in wsX3_in rmX3_in D [] [.int x, .int a, .int b] [] (fun (r : Int32) (_ : Unit) => r = bI (inB x a b)) (fun (_ : Unit) => []) := by
  refine Ci_of (cc := cX3_in) (maxL := 3) (by decide) rfl (Nat.le_of_ble_eq_true rfl) ?_
  intro pR eV sT mI args below meth cO AA QQ ls hXX hBB hml hown hts hnm hN hK hP hD hS hAA hl hret
  have hl : lv_has ls 3 [(0, .int x), (1, .int a), (2, .int b)] := hl
  refine lv_iload_n hXX hBB dX3_in_0 rfl (lv_at hl 0 rfl) ?_
  refine lv_iload_n hXX hBB dX3_in_1 rfl (lv_at hl 1 rfl) ?_
  refine lv_icmp_lt (tgt := 14) hXX hBB dX3_in_2 (by decide) (fun c_2 => ?_) (fun c_2 => ?_)
  · have c_2 := c_2
    refine lv_iconst (v := nI 0) hXX hBB dX3_in_14 (by decide) ?_
    refine hret (r := nI 0) () ?_ (rfl) (hP.sub [] rfl) (hD.sub [] (by decide) rfl) hS (Nat.le_of_ble_eq_true rfl) (Nat.le_of_ble_eq_true rfl) dX3_in_15
    show nI 0 = bI (inB x a b)
    first | exact inB_t c_2 c_7 | exact inB_f1 c_2 | exact inB_f2 c_7
  · have c_2 := c_2
    refine lv_iload_n hXX hBB dX3_in_5 rfl (lv_at hl 0 rfl) ?_
    refine lv_iload_n hXX hBB dX3_in_6 rfl (lv_at hl 2 rfl) ?_
    refine lv_icmp_gt (tgt := 14) hXX hBB dX3_in_7 (by decide) (fun c_7 => ?_) (fun c_7 => ?_)
    · have c_7 := c_7
      refine lv_iconst (v := nI 0) hXX hBB dX3_in_14 (by decide) ?_
      refine hret (r := nI 0) () ?_ (rfl) (hP.sub [] rfl) (hD.sub [] (by decide) rfl) hS (Nat.le_of_ble_eq_true rfl) (Nat.le_of_ble_eq_true rfl) dX3_in_15
      show nI 0 = bI (inB x a b)
      first | exact inB_t c_2 c_7 | exact inB_f1 c_2 | exact inB_f2 c_7
    · have c_7 := c_7
      refine lv_iconst (v := nI 1) hXX hBB dX3_in_10 (by decide) ?_
      refine lv_goto (tgt := 15) hXX hBB dX3_in_11 (by decide) ?_
      refine hret (r := nI 1) () ?_ (rfl) (hP.sub [] rfl) (hD.sub [] (by decide) rfl) hS (Nat.le_of_ble_eq_true rfl) (Nat.le_of_ble_eq_true rfl) dX3_in_15
      show nI 1 = bI (inB x a b)
      first | exact inB_t c_2 c_7 | exact inB_f1 c_2 | exact inB_f2 c_7
abbrev rmX3_teamMany : Room := { frames := 0, cells := 0, slots := 0, locals := 0 }
set_option maxHeartbeats 4000000 in
set_option maxRecDepth 100000 in
theorem kX3_teamMany (l : Launch) (D : va_G) (h : Nat) (g : Nat) (p : Nat) (aR : Nat) (aB : Nat) (aA : Nat) (aO : Nat) (dm : Nat) (aD : Nat) (aP : Nat) (th : Nat) (rm : Nat) (aS : Nat) (aW : Nat) (aU : Nat) (aL : Nat) (aE : Nat) (aQ : Nat) : Ci l yX3_teamMany wsX3_teamMany rmX3_teamMany D [] [.ref h] [(h, .inr (3, [.int (nI g), .int (nI p), .ref aR, .ref aB, .ref aA, .ref aO, .int (nI dm), .ref aD, .ref aP, .int (nI th), .int (nI rm), .ref aS, .ref aW, .ref aU, .ref aL, .ref aE, .ref aQ]))] (fun (r : Int32) (_ : Unit) => r = nI (g * p)) (fun (_ : Unit) => [(h, .inr (3, [.int (nI g), .int (nI p), .ref aR, .ref aB, .ref aA, .ref aO, .int (nI dm), .ref aD, .ref aP, .int (nI th), .int (nI rm), .ref aS, .ref aW, .ref aU, .ref aL, .ref aE, .ref aQ]))]) := by
  refine Ci_of (cc := cX3_teamMany) (maxL := 1) (by decide) rfl (Nat.le_of_ble_eq_true rfl) ?_
  intro pR eV sT mI args below meth cO AA QQ ls hXX hBB hml hown hts hnm hN hK hP hD hS hAA hl hret
  have hl : lv_has ls 1 [(0, .ref h)] := hl
  have kw_1 := hts (.fieldLink RX3 55 "CupDrawModel" "groupMany" "I") (List.mem_of_getElem? (i := 1) rfl)
  have iw_X3 : ∀ w ∈ wsX30, w ∈ wsX3_teamMany := by decide +kernel
  have kw_2 := hts (.fieldLink RX3 58 "CupDrawModel" "potMany" "I") (List.mem_of_getElem? (i := 2) rfl)
  refine lv_aload_n hXX hBB dX3_teamMany_0 rfl (lv_at hl 0 rfl) ?_
  refine va_get (D := D) (ci := 3) (v := .int (nI g)) (C := RX3) (T := TX3) (N := 17) hXX hBB hts iw_X3 hown hK hP 0 rfl rfl 0 (by decide) kw_1 (fun _ h9 => h9) rfl dX3_teamMany_1 ?_
  refine lv_aload_n hXX hBB dX3_teamMany_4 rfl (lv_at hl 0 rfl) ?_
  refine va_get (D := D) (ci := 3) (v := .int (nI p)) (C := RX3) (T := TX3) (N := 17) hXX hBB hts iw_X3 hown hK hP 0 rfl rfl 1 (by decide) kw_2 (fun _ h9 => h9) rfl dX3_teamMany_5 ?_
  refine lv_imul hXX hBB dX3_teamMany_8 ?_
  refine m_top (y := nI (g * p)) (pk_mul _ _) ?_
  refine hret (r := nI (g * p)) () ?_ (rfl) (hP.sub [0] rfl) (hD.sub [0] (by decide) rfl) hS (Nat.le_of_ble_eq_true rfl) (Nat.le_of_ble_eq_true rfl) dX3_teamMany_9
  show nI (g * p) = nI (g * p)
  rfl
abbrev rmX3_isTeam : Room := { frames := 1, cells := 0, slots := 0, locals := 22 }
set_option maxHeartbeats 4000000 in
set_option maxRecDepth 100000 in
theorem kX3_isTeam (l : Launch) (D : va_G) (h : Nat) (g : Nat) (p : Nat) (aR : Nat) (aB : Nat) (aA : Nat) (aO : Nat) (dm : Nat) (aD : Nat) (aP : Nat) (th : Nat) (rm : Nat) (aS : Nat) (aW : Nat) (aU : Nat) (aL : Nat) (aE : Nat) (aQ : Nat) (x : Int32) (h1 : 0 < g * p) : Ci l yX3_isTeam wsX3_isTeam rmX3_isTeam D [] [.ref h, .int x] [(h, .inr (3, [.int (nI g), .int (nI p), .ref aR, .ref aB, .ref aA, .ref aO, .int (nI dm), .ref aD, .ref aP, .int (nI th), .int (nI rm), .ref aS, .ref aW, .ref aU, .ref aL, .ref aE, .ref aQ]))] (fun (r : Int32) (_ : Unit) => r = bI (inB x (nI 0) (nI (g * p - 1)))) (fun (_ : Unit) => [(h, .inr (3, [.int (nI g), .int (nI p), .ref aR, .ref aB, .ref aA, .ref aO, .int (nI dm), .ref aD, .ref aP, .int (nI th), .int (nI rm), .ref aS, .ref aW, .ref aU, .ref aL, .ref aE, .ref aQ]))]) := by
  refine Ci_of (cc := cX3_isTeam) (maxL := 2) (by decide) rfl (Nat.le_of_ble_eq_true rfl) ?_
  intro pR eV sT mI args below meth cO AA QQ ls hXX hBB hml hown hts hnm hN hK hP hD hS hAA hl hret
  have hl : lv_has ls 2 [(0, .ref h), (1, .int x)] := hl
  refine lv_iload_n hXX hBB dX3_isTeam_0 rfl (lv_at hl 1 rfl) ?_
  refine lv_iconst (v := nI 0) hXX hBB dX3_isTeam_1 (by decide) ?_
  refine lv_aload_n hXX hBB dX3_isTeam_2 rfl (lv_at hl 0 rfl) ?_
  refine m_calli (wr := []) ⟨hXX, hBB, hml, hown, hts⟩ hN (kX3_teamMany l D h g p aR aB aA aO dm aD aP th rm aS aW aU aL aE aQ) (cwV 0 hts gX3_isTeam_X3_teamMany rfl rfl rfl (by decide +kernel) ⟨Nat.le_of_ble_eq_true rfl, Nat.le_of_ble_eq_true rfl⟩) hK hP hD hS hAA [0] [] [] rfl rfl rfl (by decide) (by decide) (by decide) rfl 3 rfl rfl rfl rfl hl.1 rfl (Nat.le_of_ble_eq_true rfl) dX3_isTeam_3 ⟨Nat.le_of_ble_eq_true rfl, Nat.le_of_ble_eq_true rfl⟩ (k := 0) (n := 0) rfl rfl (fun r_1 u_ H locs hw hP hD hS => ?_)
  have hw : (r_1 = nI (g * p)) := hw
  have hr_r_1 := hw
  have hP : va_P D vwCl [(h, .inr (3, [.int (nI g), .int (nI p), .ref aR, .ref aB, .ref aA, .ref aO, .int (nI dm), .ref aD, .ref aP, .int (nI th), .int (nI rm), .ref aS, .ref aW, .ref aU, .ref aL, .ref aE, .ref aQ]))] H := hP
  have hD : va_D AA [(h, .inr (3, [.int (nI g), .int (nI p), .ref aR, .ref aB, .ref aA, .ref aO, .int (nI dm), .ref aD, .ref aP, .int (nI th), .int (nI rm), .ref aS, .ref aW, .ref aU, .ref aL, .ref aE, .ref aQ]))] := hD
  subst hr_r_1
  refine lv_iconst (v := nI 1) hXX hBB dX3_isTeam_6 (by decide) ?_
  refine lv_isub hXX hBB dX3_isTeam_7 ?_
  refine m_top (y := nI ((g * p) - 1)) (pk_sub (by omega)) ?_
  refine m_scalli (wr := [(h, .inr (3, [.int (nI g), .int (nI p), .ref aR, .ref aB, .ref aA, .ref aO, .int (nI dm), .ref aD, .ref aP, .int (nI th), .int (nI rm), .ref aS, .ref aW, .ref aU, .ref aL, .ref aE, .ref aQ]))]) ⟨hXX, hBB, hml, hown, hts⟩ hN (kX3_in l D x (nI 0) (nI ((g * p) - 1))) (va_cwS 3 hts gX3_isTeam_X3_in rfl rfl rfl (by decide +kernel) ⟨Nat.le_of_ble_eq_true rfl, Nat.le_of_ble_eq_true rfl⟩) hK hP hD hS hAA [] [0] [] rfl rfl rfl (by decide) (by decide) (by decide) rfl hl.1 rfl (Nat.le_of_ble_eq_true rfl) dX3_isTeam_8 ⟨Nat.le_of_ble_eq_true rfl, Nat.le_of_ble_eq_true rfl⟩ (k := 0) (n := 0) rfl rfl (fun r_2 u_ H locs hw hP hD hS => ?_)
  have hw : (r_2 = bI (inB x (nI 0) (nI ((g * p) - 1)))) := hw
  have hr_r_2 := hw
  have hP : va_P D vwCl [(h, .inr (3, [.int (nI g), .int (nI p), .ref aR, .ref aB, .ref aA, .ref aO, .int (nI dm), .ref aD, .ref aP, .int (nI th), .int (nI rm), .ref aS, .ref aW, .ref aU, .ref aL, .ref aE, .ref aQ]))] H := hP
  have hD : va_D AA [(h, .inr (3, [.int (nI g), .int (nI p), .ref aR, .ref aB, .ref aA, .ref aO, .int (nI dm), .ref aD, .ref aP, .int (nI th), .int (nI rm), .ref aS, .ref aW, .ref aU, .ref aL, .ref aE, .ref aQ]))] := hD
  subst hr_r_2
  refine hret (r := bI (inB x (nI 0) (nI ((g * p) - 1)))) () ?_ (m_narb _) (hP.sub [0] rfl) (hD.sub [0] (by decide) rfl) hS (Nat.le_of_ble_eq_true rfl) (Nat.le_of_ble_eq_true rfl) dX3_isTeam_11
  show bI (inB x (nI 0) (nI ((g * p) - 1))) = bI (inB x (nI 0) (nI (g * p - 1)))
  rfl
abbrev rmX3_isGroup : Room := { frames := 1, cells := 0, slots := 0, locals := 22 }
set_option maxHeartbeats 4000000 in
set_option maxRecDepth 100000 in
theorem kX3_isGroup (l : Launch) (D : va_G) (h : Nat) (g : Nat) (p : Nat) (aR : Nat) (aB : Nat) (aA : Nat) (aO : Nat) (dm : Nat) (aD : Nat) (aP : Nat) (th : Nat) (rm : Nat) (aS : Nat) (aW : Nat) (aU : Nat) (aL : Nat) (aE : Nat) (aQ : Nat) (x : Int32) (h1 : 0 < g) : Ci l yX3_isGroup wsX3_isGroup rmX3_isGroup D [] [.ref h, .int x] [(h, .inr (3, [.int (nI g), .int (nI p), .ref aR, .ref aB, .ref aA, .ref aO, .int (nI dm), .ref aD, .ref aP, .int (nI th), .int (nI rm), .ref aS, .ref aW, .ref aU, .ref aL, .ref aE, .ref aQ]))] (fun (r : Int32) (_ : Unit) => r = bI (inB x (nI 0) (nI (g - 1)))) (fun (_ : Unit) => [(h, .inr (3, [.int (nI g), .int (nI p), .ref aR, .ref aB, .ref aA, .ref aO, .int (nI dm), .ref aD, .ref aP, .int (nI th), .int (nI rm), .ref aS, .ref aW, .ref aU, .ref aL, .ref aE, .ref aQ]))]) := by
  refine Ci_of (cc := cX3_isGroup) (maxL := 2) (by decide) rfl (Nat.le_of_ble_eq_true rfl) ?_
  intro pR eV sT mI args below meth cO AA QQ ls hXX hBB hml hown hts hnm hN hK hP hD hS hAA hl hret
  have hl : lv_has ls 2 [(0, .ref h), (1, .int x)] := hl
  have kw_1 := hts (.fieldLink RX3 55 "CupDrawModel" "groupMany" "I") (List.mem_of_getElem? (i := 1) rfl)
  have iw_X3 : ∀ w ∈ wsX30, w ∈ wsX3_isGroup := by decide +kernel
  refine lv_iload_n hXX hBB dX3_isGroup_0 rfl (lv_at hl 1 rfl) ?_
  refine lv_iconst (v := nI 0) hXX hBB dX3_isGroup_1 (by decide) ?_
  refine lv_aload_n hXX hBB dX3_isGroup_2 rfl (lv_at hl 0 rfl) ?_
  refine va_get (D := D) (ci := 3) (v := .int (nI g)) (C := RX3) (T := TX3) (N := 17) hXX hBB hts iw_X3 hown hK hP 0 rfl rfl 0 (by decide) kw_1 (fun _ h9 => h9) rfl dX3_isGroup_3 ?_
  refine lv_iconst (v := nI 1) hXX hBB dX3_isGroup_6 (by decide) ?_
  refine lv_isub hXX hBB dX3_isGroup_7 ?_
  refine m_top (y := nI (g - 1)) (pk_sub (by omega)) ?_
  refine m_scalli (wr := [(h, .inr (3, [.int (nI g), .int (nI p), .ref aR, .ref aB, .ref aA, .ref aO, .int (nI dm), .ref aD, .ref aP, .int (nI th), .int (nI rm), .ref aS, .ref aW, .ref aU, .ref aL, .ref aE, .ref aQ]))]) ⟨hXX, hBB, hml, hown, hts⟩ hN (kX3_in l D x (nI 0) (nI (g - 1))) (va_cwS 3 hts gX3_isGroup_X3_in rfl rfl rfl (by decide +kernel) ⟨Nat.le_of_ble_eq_true rfl, Nat.le_of_ble_eq_true rfl⟩) hK hP hD hS hAA [] [0] [] rfl rfl rfl (by decide) (by decide) (by decide) rfl hl.1 rfl (Nat.le_of_ble_eq_true rfl) dX3_isGroup_8 ⟨Nat.le_of_ble_eq_true rfl, Nat.le_of_ble_eq_true rfl⟩ (k := 0) (n := 0) rfl rfl (fun r_1 u_ H locs hw hP hD hS => ?_)
  have hw : (r_1 = bI (inB x (nI 0) (nI (g - 1)))) := hw
  have hr_r_1 := hw
  have hP : va_P D vwCl [(h, .inr (3, [.int (nI g), .int (nI p), .ref aR, .ref aB, .ref aA, .ref aO, .int (nI dm), .ref aD, .ref aP, .int (nI th), .int (nI rm), .ref aS, .ref aW, .ref aU, .ref aL, .ref aE, .ref aQ]))] H := hP
  have hD : va_D AA [(h, .inr (3, [.int (nI g), .int (nI p), .ref aR, .ref aB, .ref aA, .ref aO, .int (nI dm), .ref aD, .ref aP, .int (nI th), .int (nI rm), .ref aS, .ref aW, .ref aU, .ref aL, .ref aE, .ref aQ]))] := hD
  subst hr_r_1
  refine hret (r := bI (inB x (nI 0) (nI (g - 1)))) () ?_ (m_narb _) (hP.sub [0] rfl) (hD.sub [0] (by decide) rfl) hS (Nat.le_of_ble_eq_true rfl) (Nat.le_of_ble_eq_true rfl) dX3_isGroup_11
  show bI (inB x (nI 0) (nI (g - 1))) = bI (inB x (nI 0) (nI (g - 1)))
  rfl
abbrev rmX3_factorial : Room := { frames := 0, cells := 0, slots := 0, locals := 0 }
set_option maxHeartbeats 4000000 in
set_option maxRecDepth 100000 in
theorem kX3_factorial (l : Launch) (D : va_G) (n : Nat) (hn : n ≤ 9) : Ci l yX3_factorial wsX3_factorial rmX3_factorial D [] [.int (nI n)] [] (fun (r : Int32) (_ : Unit) => r = nI (fac n)) (fun (_ : Unit) => []) := by
  refine Ci_of (cc := cX3_factorial) (maxL := 3) (by decide) rfl (Nat.le_of_ble_eq_true rfl) ?_
  intro pR eV sT mI args below meth cO AA QQ ls hXX hBB hml hown hts hnm hN hK hP hD hS hAA hl hret
  have hl : lv_has ls 3 [(0, .int (nI n))] := hl
  refine lv_iconst (v := nI 1) hXX hBB dX3_factorial_0 (by decide) ?_
  refine lv_istore_n (lv' := [(1, .int (nI 1)), (0, .int (nI n))]) hXX hBB dX3_factorial_1 rfl hl (by decide) rfl (fun ls hl => ?_)
  refine lv_iconst (v := nI 2) hXX hBB dX3_factorial_2 (by decide) ?_
  refine lv_istore_n (lv' := [(2, .int (nI 2)), (1, .int (nI 1)), (0, .int (nI n))]) hXX hBB dX3_factorial_3 rfl hl (by decide) rfl (fun ls hl => ?_)
  have L_4 : ∀ (N_4 : Nat) (k : Nat) (x : Nat), (2 ≤ k ∧ (k ≤ n + 1 ∨ k = 2)) → (x = fac (k - 1)) → n + 2 - k < N_4 → ∀ (H : Heap) (locs : List Loc), va_P D vwCl [] H → va_D AA [] → va_S AA sT.heap H locs → ∀ (ls : Array Slot), lv_has ls 3 [(2, .int (nI k)), (1, .int (nI x)), (0, .int (nI n))] → W pR l eV rmX3_factorial sT mI args below meth cO H locs 0 0 QQ (F0 mI 4 ls []) := by
    intro N_4
    induction N_4 with
    | zero =>
      intro k x hk hx hMM
      exact absurd hMM (Nat.not_lt_zero _)
    | succ N_4 ih_4 =>
      intro k x hk hx hMM H locs hP hD hS ls hl
      refine lv_iload_n hXX hBB dX3_factorial_4 rfl (lv_at hl 0 rfl) ?_
      refine lv_iload_n hXX hBB dX3_factorial_5 rfl (lv_at hl 2 rfl) ?_
      refine lv_icmp_gt (tgt := 19) hXX hBB dX3_factorial_6 (by decide) (fun c_6 => ?_) (fun c_6 => ?_)
      · have c_6 : n < k := (nI_ltI (by omega) (by omega)).mp c_6
        have hx2 : x = fac n := fac_end hk c_6 hx
        refine lv_iload_n hXX hBB dX3_factorial_19 rfl (lv_at hl 1 rfl) ?_
        refine hret (r := nI x) () ?_ (rfl) (hP.sub [] rfl) (hD.sub [] (by decide) rfl) hS (Nat.le_of_ble_eq_true rfl) (Nat.le_of_ble_eq_true rfl) dX3_factorial_20
        show nI x = nI (fac n)
        rw [hx2]
      · have c_6 : ¬ n < k := fun h9 => c_6 ((nI_ltI (by omega) (by omega)).mpr h9)
        refine lv_iload_n hXX hBB dX3_factorial_9 rfl (lv_at hl 1 rfl) ?_
        refine lv_iload_n hXX hBB dX3_factorial_10 rfl (lv_at hl 0 rfl) ?_
        refine lv_imul hXX hBB dX3_factorial_11 ?_
        refine m_top (y := nI (x * k)) (pk_mul _ _) ?_
        refine lv_istore_n (lv' := [(1, .int (nI (x * k))), (2, .int (nI k)), (0, .int (nI n))]) hXX hBB dX3_factorial_12 rfl hl (by decide) rfl (fun ls hl => ?_)
        refine lv_iinc (v := nI (k + 1)) (lv' := [(2, .int (nI (k + 1))), (1, .int (nI (x * k))), (0, .int (nI n))]) hXX hBB dX3_factorial_13 hl (k := 1) rfl (nI_1 _) (by decide) rfl (fun ls hl => ?_)
        refine lv_goto (tgt := 4) hXX hBB dX3_factorial_16 (by decide) ?_
        have hi_k : 2 ≤ (k + 1) ∧ ((k + 1) ≤ n + 1 ∨ (k + 1) = 2) := by omega
        have hi_x : (x * k) = fac ((k + 1) - 1) := by rw [hx, fac_step hk.1]
        have hmm : n + 2 - (k + 1) < N_4 := by omega
        exact ih_4 (k + 1) (x * k) hi_k hi_x hmm _ _ (hP.sub [] rfl) (hD.sub [] (by decide) rfl) hS ls (lv_sub hl [0, 1, 2] rfl)
  have hi_k : 2 ≤ 2 ∧ (2 ≤ n + 1 ∨ 2 = 2) := by omega
  have hi_x : 1 = fac (2 - 1) := by rfl
  exact L_4 _ 2 1 hi_k hi_x (Nat.lt_succ_self _) _ _ hP hD hS ls (lv_sub hl [0, 1, 2] rfl)
abbrev rmX3_begin : Room := { frames := 0, cells := 0, slots := 0, locals := 0 }
set_option maxHeartbeats 4000000 in
set_option maxRecDepth 100000 in
theorem kX3_begin (l : Launch) (D : va_G) (cI : ClassId) (cZ : ClassId) (h : Nat) (g : Nat) (p : Nat) (aR : Nat) (aB : Nat) (aA : Nat) (aO : Nat) (dm : Nat) (aD : Nat) (aP : Nat) (th : Nat) (rm : Nat) (aS : Nat) (aW : Nat) (aU : Nat) (aL : Nat) (aE : Nat) (aQ : Nat) (rg : Nat → Nat) (bd : Nat → Nat) (ab : Nat → Bool) (ob : Nat → Bool) (S : Nat → Int32) (g2 : Nat) (p2 : Nat) : Cv l yX3_begin wsX3_begin rmX3_begin D [(cI, .int), (cZ, .boolean)] [.ref h, .int (nI g2), .int (nI p2)] [(h, .inr (3, [.int (nI g), .int (nI p), .ref aR, .ref aB, .ref aA, .ref aO, .int (nI dm), .ref aD, .ref aP, .int (nI th), .int (nI rm), .ref aS, .ref aW, .ref aU, .ref aL, .ref aE, .ref aQ])), (aR, .inl (cI, 9, .inl (fun j => nI (rg j)))), (aB, .inl (cI, 6, .inl (fun j => nI (bd j)))), (aA, .inl (cZ, 81, .inl (fun j => bI (ab j)))), (aO, .inl (cZ, 81, .inl (fun j => bI (ob j)))), (aP, .inl (cI, 9, .inl S))] (fun (_ : Unit) => True) (fun (_ : Unit) => [(h, .inr (3, [.int (nI g2), .int (nI p2), .ref aR, .ref aB, .ref aA, .ref aO, .int (nI 0), .ref aD, .ref aP, .int (nI th), .int (nI rm), .ref aS, .ref aW, .ref aU, .ref aL, .ref aE, .ref aQ])), (aR, .inl (cI, 9, .inl (fun j => nI ((fun _ => 0) j)))), (aB, .inl (cI, 6, .inl (fun j => nI ((fun _ => 3) j)))), (aA, .inl (cZ, 81, .inl (fun j => bI ((fun _ => false) j)))), (aO, .inl (cZ, 81, .inl (fun j => bI ((fun _ => false) j)))), (aP, .inl (cI, 9, .inl (fun _ => -1)))]) := by
  refine Cv_of (cc := cX3_begin) (maxL := 4) (by decide) rfl (Nat.le_of_ble_eq_true rfl) ?_
  intro pR eV sT mI args below meth cO AA QQ ls hXX hBB hml hown hts hnm hN hK hP hD hS hAA hl hret
  have hl : lv_has ls 4 [(0, .ref h), (1, .int (nI g2)), (2, .int (nI p2))] := hl
  have kw_1 := hts (.fieldLink RX3 55 "CupDrawModel" "groupMany" "I") (List.mem_of_getElem? (i := 1) rfl)
  have iw_X3 : ∀ w ∈ wsX30, w ∈ wsX3_begin := by decide +kernel
  have kw_2 := hts (.fieldLink RX3 58 "CupDrawModel" "potMany" "I") (List.mem_of_getElem? (i := 2) rfl)
  have kw_3 := hts (.fieldLink RX3 61 "CupDrawModel" "drawnMany" "I") (List.mem_of_getElem? (i := 3) rfl)
  have kw_7 := hts (.fieldLink RX3 16 "CupDrawModel" "isApart" "[Z") (List.mem_of_getElem? (i := 7) rfl)
  have kw_8 := hts (.fieldLink RX3 20 "CupDrawModel" "isOther" "[Z") (List.mem_of_getElem? (i := 8) rfl)
  have kw_6 := hts (.fieldLink RX3 13 "CupDrawModel" "bounds" "[I") (List.mem_of_getElem? (i := 6) rfl)
  have kw_4 := hts (.fieldLink RX3 7 "CupDrawModel" "regions" "[I") (List.mem_of_getElem? (i := 4) rfl)
  have kw_5 := hts (.fieldLink RX3 26 "CupDrawModel" "places" "[I") (List.mem_of_getElem? (i := 5) rfl)
  refine lv_aload_n hXX hBB dX3_begin_0 rfl (lv_at hl 0 rfl) ?_
  refine lv_iload_n hXX hBB dX3_begin_1 rfl (lv_at hl 1 rfl) ?_
  refine va_put (D := D) (ci := 3) (v := .int (nI g2)) (ty := .int) (C := RX3) (T := TX3) (N := 17) hXX hBB hts iw_X3 tyX3 tyX3_ok nmX3 hown hK hP hD hS 0 rfl rfl 0 (by decide) kw_1 (fun _ h9 => h9) rfl (by decide +kernel) (rfl) (rfl) (Nat.le_of_ble_eq_true rfl) dX3_begin_2 (fun H locs hP hD hS => ?_)
  have hP : va_P D vwCl [(h, .inr (3, [.int (nI g2), .int (nI p), .ref aR, .ref aB, .ref aA, .ref aO, .int (nI dm), .ref aD, .ref aP, .int (nI th), .int (nI rm), .ref aS, .ref aW, .ref aU, .ref aL, .ref aE, .ref aQ])), (aR, .inl (cI, 9, .inl (fun j => nI (rg j)))), (aB, .inl (cI, 6, .inl (fun j => nI (bd j)))), (aA, .inl (cZ, 81, .inl (fun j => bI (ab j)))), (aO, .inl (cZ, 81, .inl (fun j => bI (ob j)))), (aP, .inl (cI, 9, .inl S))] H := hP
  have hD : va_D AA [(h, .inr (3, [.int (nI g2), .int (nI p), .ref aR, .ref aB, .ref aA, .ref aO, .int (nI dm), .ref aD, .ref aP, .int (nI th), .int (nI rm), .ref aS, .ref aW, .ref aU, .ref aL, .ref aE, .ref aQ])), (aR, .inl (cI, 9, .inl (fun j => nI (rg j)))), (aB, .inl (cI, 6, .inl (fun j => nI (bd j)))), (aA, .inl (cZ, 81, .inl (fun j => bI (ab j)))), (aO, .inl (cZ, 81, .inl (fun j => bI (ob j)))), (aP, .inl (cI, 9, .inl S))] := hD
  refine lv_aload_n hXX hBB dX3_begin_5 rfl (lv_at hl 0 rfl) ?_
  refine lv_iload_n hXX hBB dX3_begin_6 rfl (lv_at hl 2 rfl) ?_
  refine va_put (D := D) (ci := 3) (v := .int (nI p2)) (ty := .int) (C := RX3) (T := TX3) (N := 17) hXX hBB hts iw_X3 tyX3 tyX3_ok nmX3 hown hK hP hD hS 0 rfl rfl 1 (by decide) kw_2 (fun _ h9 => h9) rfl (by decide +kernel) (rfl) (rfl) (Nat.le_of_ble_eq_true rfl) dX3_begin_7 (fun H locs hP hD hS => ?_)
  have hP : va_P D vwCl [(h, .inr (3, [.int (nI g2), .int (nI p2), .ref aR, .ref aB, .ref aA, .ref aO, .int (nI dm), .ref aD, .ref aP, .int (nI th), .int (nI rm), .ref aS, .ref aW, .ref aU, .ref aL, .ref aE, .ref aQ])), (aR, .inl (cI, 9, .inl (fun j => nI (rg j)))), (aB, .inl (cI, 6, .inl (fun j => nI (bd j)))), (aA, .inl (cZ, 81, .inl (fun j => bI (ab j)))), (aO, .inl (cZ, 81, .inl (fun j => bI (ob j)))), (aP, .inl (cI, 9, .inl S))] H := hP
  have hD : va_D AA [(h, .inr (3, [.int (nI g2), .int (nI p2), .ref aR, .ref aB, .ref aA, .ref aO, .int (nI dm), .ref aD, .ref aP, .int (nI th), .int (nI rm), .ref aS, .ref aW, .ref aU, .ref aL, .ref aE, .ref aQ])), (aR, .inl (cI, 9, .inl (fun j => nI (rg j)))), (aB, .inl (cI, 6, .inl (fun j => nI (bd j)))), (aA, .inl (cZ, 81, .inl (fun j => bI (ab j)))), (aO, .inl (cZ, 81, .inl (fun j => bI (ob j)))), (aP, .inl (cI, 9, .inl S))] := hD
  refine lv_aload_n hXX hBB dX3_begin_10 rfl (lv_at hl 0 rfl) ?_
  refine lv_iconst (v := nI 0) hXX hBB dX3_begin_11 (by decide) ?_
  refine va_put (D := D) (ci := 3) (v := .int (nI 0)) (ty := .int) (C := RX3) (T := TX3) (N := 17) hXX hBB hts iw_X3 tyX3 tyX3_ok nmX3 hown hK hP hD hS 0 rfl rfl 6 (by decide) kw_3 (fun _ h9 => h9) rfl (by decide +kernel) (rfl) (rfl) (Nat.le_of_ble_eq_true rfl) dX3_begin_12 (fun H locs hP hD hS => ?_)
  have hP : va_P D vwCl [(h, .inr (3, [.int (nI g2), .int (nI p2), .ref aR, .ref aB, .ref aA, .ref aO, .int (nI 0), .ref aD, .ref aP, .int (nI th), .int (nI rm), .ref aS, .ref aW, .ref aU, .ref aL, .ref aE, .ref aQ])), (aR, .inl (cI, 9, .inl (fun j => nI (rg j)))), (aB, .inl (cI, 6, .inl (fun j => nI (bd j)))), (aA, .inl (cZ, 81, .inl (fun j => bI (ab j)))), (aO, .inl (cZ, 81, .inl (fun j => bI (ob j)))), (aP, .inl (cI, 9, .inl S))] H := hP
  have hD : va_D AA [(h, .inr (3, [.int (nI g2), .int (nI p2), .ref aR, .ref aB, .ref aA, .ref aO, .int (nI 0), .ref aD, .ref aP, .int (nI th), .int (nI rm), .ref aS, .ref aW, .ref aU, .ref aL, .ref aE, .ref aQ])), (aR, .inl (cI, 9, .inl (fun j => nI (rg j)))), (aB, .inl (cI, 6, .inl (fun j => nI (bd j)))), (aA, .inl (cZ, 81, .inl (fun j => bI (ab j)))), (aO, .inl (cZ, 81, .inl (fun j => bI (ob j)))), (aP, .inl (cI, 9, .inl S))] := hD
  refine lv_iconst (v := nI 0) hXX hBB dX3_begin_15 (by decide) ?_
  refine lv_istore_n (lv' := [(3, .int (nI 0)), (0, .ref h), (1, .int (nI g2)), (2, .int (nI p2))]) hXX hBB dX3_begin_16 rfl hl (by decide) rfl (fun ls hl => ?_)
  have L_17 : ∀ (N_17 : Nat) (k : Nat) (rq : Nat → Nat) (Sq : Nat → Int32), (k ≤ 9) → (∀ z, z < k → rq z = 0) → (∀ z, z < k → Sq z = -1) → 9 - k < N_17 → ∀ (H : Heap) (locs : List Loc), va_P D vwCl [(h, .inr (3, [.int (nI g2), .int (nI p2), .ref aR, .ref aB, .ref aA, .ref aO, .int (nI 0), .ref aD, .ref aP, .int (nI th), .int (nI rm), .ref aS, .ref aW, .ref aU, .ref aL, .ref aE, .ref aQ])), (aR, .inl (cI, 9, .inl (fun j => nI (rq j)))), (aB, .inl (cI, 6, .inl (fun j => nI (bd j)))), (aA, .inl (cZ, 81, .inl (fun j => bI (ab j)))), (aO, .inl (cZ, 81, .inl (fun j => bI (ob j)))), (aP, .inl (cI, 9, .inl Sq))] H → va_D AA [(h, .inr (3, [.int (nI g2), .int (nI p2), .ref aR, .ref aB, .ref aA, .ref aO, .int (nI 0), .ref aD, .ref aP, .int (nI th), .int (nI rm), .ref aS, .ref aW, .ref aU, .ref aL, .ref aE, .ref aQ])), (aR, .inl (cI, 9, .inl (fun j => nI (rq j)))), (aB, .inl (cI, 6, .inl (fun j => nI (bd j)))), (aA, .inl (cZ, 81, .inl (fun j => bI (ab j)))), (aO, .inl (cZ, 81, .inl (fun j => bI (ob j)))), (aP, .inl (cI, 9, .inl Sq))] → va_S AA sT.heap H locs → ∀ (ls : Array Slot), lv_has ls 4 [(3, .int (nI k)), (0, .ref h), (1, .int (nI g2)), (2, .int (nI p2))] → W pR l eV rmX3_begin sT mI args below meth cO H locs 0 0 QQ (F0 mI 17 ls []) := by
    intro N_17
    induction N_17 with
    | zero =>
      intro k rq Sq hk hA hB hMM
      exact absurd hMM (Nat.not_lt_zero _)
    | succ N_17 ih_17 =>
      intro k rq Sq hk hA hB hMM H locs hP hD hS ls hl
      refine lv_iload_n hXX hBB dX3_begin_17 rfl (lv_at hl 0 rfl) ?_
      refine lv_bipush (v := nI 9) hXX hBB dX3_begin_18 (by decide) ?_
      refine lv_icmp_ge (tgt := 43) hXX hBB dX3_begin_20 (by decide) (fun c_20 => ?_) (fun c_20 => ?_)
      · have c_20 : 9 ≤ k := (nI_leI (by omega) (by omega)).mp c_20
        have hP := m_ext (q0 := 1) (g := fun j => nI ((fun _ => 0) j)) hP rfl (fun z hz => by rw [hA z (by omega)])
        have hD := m_extD (q0 := 1) (g := fun j => nI ((fun _ => 0) j)) hD rfl
        have hP : va_P D vwCl [(h, .inr (3, [.int (nI g2), .int (nI p2), .ref aR, .ref aB, .ref aA, .ref aO, .int (nI 0), .ref aD, .ref aP, .int (nI th), .int (nI rm), .ref aS, .ref aW, .ref aU, .ref aL, .ref aE, .ref aQ])), (aR, .inl (cI, 9, .inl (fun j => nI ((fun _ => 0) j)))), (aB, .inl (cI, 6, .inl (fun j => nI (bd j)))), (aA, .inl (cZ, 81, .inl (fun j => bI (ab j)))), (aO, .inl (cZ, 81, .inl (fun j => bI (ob j)))), (aP, .inl (cI, 9, .inl Sq))] H := hP
        have hD : va_D AA [(h, .inr (3, [.int (nI g2), .int (nI p2), .ref aR, .ref aB, .ref aA, .ref aO, .int (nI 0), .ref aD, .ref aP, .int (nI th), .int (nI rm), .ref aS, .ref aW, .ref aU, .ref aL, .ref aE, .ref aQ])), (aR, .inl (cI, 9, .inl (fun j => nI ((fun _ => 0) j)))), (aB, .inl (cI, 6, .inl (fun j => nI (bd j)))), (aA, .inl (cZ, 81, .inl (fun j => bI (ab j)))), (aO, .inl (cZ, 81, .inl (fun j => bI (ob j)))), (aP, .inl (cI, 9, .inl Sq))] := hD
        have hP := m_ext (q0 := 5) (g := (fun _ => -1)) hP rfl (fun z hz => hB z (by omega))
        have hD := m_extD (q0 := 5) (g := (fun _ => -1)) hD rfl
        have hP : va_P D vwCl [(h, .inr (3, [.int (nI g2), .int (nI p2), .ref aR, .ref aB, .ref aA, .ref aO, .int (nI 0), .ref aD, .ref aP, .int (nI th), .int (nI rm), .ref aS, .ref aW, .ref aU, .ref aL, .ref aE, .ref aQ])), (aR, .inl (cI, 9, .inl (fun j => nI ((fun _ => 0) j)))), (aB, .inl (cI, 6, .inl (fun j => nI (bd j)))), (aA, .inl (cZ, 81, .inl (fun j => bI (ab j)))), (aO, .inl (cZ, 81, .inl (fun j => bI (ob j)))), (aP, .inl (cI, 9, .inl (fun _ => -1)))] H := hP
        have hD : va_D AA [(h, .inr (3, [.int (nI g2), .int (nI p2), .ref aR, .ref aB, .ref aA, .ref aO, .int (nI 0), .ref aD, .ref aP, .int (nI th), .int (nI rm), .ref aS, .ref aW, .ref aU, .ref aL, .ref aE, .ref aQ])), (aR, .inl (cI, 9, .inl (fun j => nI ((fun _ => 0) j)))), (aB, .inl (cI, 6, .inl (fun j => nI (bd j)))), (aA, .inl (cZ, 81, .inl (fun j => bI (ab j)))), (aO, .inl (cZ, 81, .inl (fun j => bI (ob j)))), (aP, .inl (cI, 9, .inl (fun _ => -1)))] := hD
        refine lv_iconst (v := nI 0) hXX hBB dX3_begin_43 (by decide) ?_
        refine lv_istore_n (lv' := [(3, .int (nI 0)), (0, .ref h), (1, .int (nI g2)), (2, .int (nI p2))]) hXX hBB dX3_begin_44 rfl hl (by decide) rfl (fun ls hl => ?_)
        have L_45 : ∀ (N_45 : Nat) (k : Nat) (bq : Nat → Nat), (k ≤ 6) → (∀ z, z < k → bq z = 3) → 6 - k < N_45 → ∀ (H : Heap) (locs : List Loc), va_P D vwCl [(h, .inr (3, [.int (nI g2), .int (nI p2), .ref aR, .ref aB, .ref aA, .ref aO, .int (nI 0), .ref aD, .ref aP, .int (nI th), .int (nI rm), .ref aS, .ref aW, .ref aU, .ref aL, .ref aE, .ref aQ])), (aR, .inl (cI, 9, .inl (fun j => nI ((fun _ => 0) j)))), (aB, .inl (cI, 6, .inl (fun j => nI (bq j)))), (aA, .inl (cZ, 81, .inl (fun j => bI (ab j)))), (aO, .inl (cZ, 81, .inl (fun j => bI (ob j)))), (aP, .inl (cI, 9, .inl (fun _ => -1)))] H → va_D AA [(h, .inr (3, [.int (nI g2), .int (nI p2), .ref aR, .ref aB, .ref aA, .ref aO, .int (nI 0), .ref aD, .ref aP, .int (nI th), .int (nI rm), .ref aS, .ref aW, .ref aU, .ref aL, .ref aE, .ref aQ])), (aR, .inl (cI, 9, .inl (fun j => nI ((fun _ => 0) j)))), (aB, .inl (cI, 6, .inl (fun j => nI (bq j)))), (aA, .inl (cZ, 81, .inl (fun j => bI (ab j)))), (aO, .inl (cZ, 81, .inl (fun j => bI (ob j)))), (aP, .inl (cI, 9, .inl (fun _ => -1)))] → va_S AA sT.heap H locs → ∀ (ls : Array Slot), lv_has ls 4 [(3, .int (nI k)), (0, .ref h), (1, .int (nI g2)), (2, .int (nI p2))] → W pR l eV rmX3_begin sT mI args below meth cO H locs 0 0 QQ (F0 mI 45 ls []) := by
          intro N_45
          induction N_45 with
          | zero =>
            intro k bq hk hA hMM
            exact absurd hMM (Nat.not_lt_zero _)
          | succ N_45 ih_45 =>
            intro k bq hk hA hMM H locs hP hD hS ls hl
            refine lv_iload_n hXX hBB dX3_begin_45 rfl (lv_at hl 0 rfl) ?_
            refine lv_bipush (v := nI 6) hXX hBB dX3_begin_46 (by decide) ?_
            refine lv_icmp_ge (tgt := 64) hXX hBB dX3_begin_48 (by decide) (fun c_48 => ?_) (fun c_48 => ?_)
            · have c_48 : 6 ≤ k := (nI_leI (by omega) (by omega)).mp c_48
              have hP := m_ext (q0 := 2) (g := fun j => nI ((fun _ => 3) j)) hP rfl (fun z hz => by rw [hA z (by omega)])
              have hD := m_extD (q0 := 2) (g := fun j => nI ((fun _ => 3) j)) hD rfl
              have hP : va_P D vwCl [(h, .inr (3, [.int (nI g2), .int (nI p2), .ref aR, .ref aB, .ref aA, .ref aO, .int (nI 0), .ref aD, .ref aP, .int (nI th), .int (nI rm), .ref aS, .ref aW, .ref aU, .ref aL, .ref aE, .ref aQ])), (aR, .inl (cI, 9, .inl (fun j => nI ((fun _ => 0) j)))), (aB, .inl (cI, 6, .inl (fun j => nI ((fun _ => 3) j)))), (aA, .inl (cZ, 81, .inl (fun j => bI (ab j)))), (aO, .inl (cZ, 81, .inl (fun j => bI (ob j)))), (aP, .inl (cI, 9, .inl (fun _ => -1)))] H := hP
              have hD : va_D AA [(h, .inr (3, [.int (nI g2), .int (nI p2), .ref aR, .ref aB, .ref aA, .ref aO, .int (nI 0), .ref aD, .ref aP, .int (nI th), .int (nI rm), .ref aS, .ref aW, .ref aU, .ref aL, .ref aE, .ref aQ])), (aR, .inl (cI, 9, .inl (fun j => nI ((fun _ => 0) j)))), (aB, .inl (cI, 6, .inl (fun j => nI ((fun _ => 3) j)))), (aA, .inl (cZ, 81, .inl (fun j => bI (ab j)))), (aO, .inl (cZ, 81, .inl (fun j => bI (ob j)))), (aP, .inl (cI, 9, .inl (fun _ => -1)))] := hD
              refine lv_iconst (v := nI 0) hXX hBB dX3_begin_64 (by decide) ?_
              refine lv_istore_n (lv' := [(3, .int (nI 0)), (0, .ref h), (1, .int (nI g2)), (2, .int (nI p2))]) hXX hBB dX3_begin_65 rfl hl (by decide) rfl (fun ls hl => ?_)
              have L_66 : ∀ (N_66 : Nat) (k : Nat) (aq : Nat → Bool) (oq : Nat → Bool), (k ≤ 81) → (∀ z, z < k → aq z = false) → (∀ z, z < k → oq z = false) → 81 - k < N_66 → ∀ (H : Heap) (locs : List Loc), va_P D vwCl [(h, .inr (3, [.int (nI g2), .int (nI p2), .ref aR, .ref aB, .ref aA, .ref aO, .int (nI 0), .ref aD, .ref aP, .int (nI th), .int (nI rm), .ref aS, .ref aW, .ref aU, .ref aL, .ref aE, .ref aQ])), (aR, .inl (cI, 9, .inl (fun j => nI ((fun _ => 0) j)))), (aB, .inl (cI, 6, .inl (fun j => nI ((fun _ => 3) j)))), (aA, .inl (cZ, 81, .inl (fun j => bI (aq j)))), (aO, .inl (cZ, 81, .inl (fun j => bI (oq j)))), (aP, .inl (cI, 9, .inl (fun _ => -1)))] H → va_D AA [(h, .inr (3, [.int (nI g2), .int (nI p2), .ref aR, .ref aB, .ref aA, .ref aO, .int (nI 0), .ref aD, .ref aP, .int (nI th), .int (nI rm), .ref aS, .ref aW, .ref aU, .ref aL, .ref aE, .ref aQ])), (aR, .inl (cI, 9, .inl (fun j => nI ((fun _ => 0) j)))), (aB, .inl (cI, 6, .inl (fun j => nI ((fun _ => 3) j)))), (aA, .inl (cZ, 81, .inl (fun j => bI (aq j)))), (aO, .inl (cZ, 81, .inl (fun j => bI (oq j)))), (aP, .inl (cI, 9, .inl (fun _ => -1)))] → va_S AA sT.heap H locs → ∀ (ls : Array Slot), lv_has ls 4 [(3, .int (nI k)), (0, .ref h), (1, .int (nI g2)), (2, .int (nI p2))] → W pR l eV rmX3_begin sT mI args below meth cO H locs 0 0 QQ (F0 mI 66 ls []) := by
                intro N_66
                induction N_66 with
                | zero =>
                  intro k aq oq hk hA hB hMM
                  exact absurd hMM (Nat.not_lt_zero _)
                | succ N_66 ih_66 =>
                  intro k aq oq hk hA hB hMM H locs hP hD hS ls hl
                  refine lv_iload_n hXX hBB dX3_begin_66 rfl (lv_at hl 0 rfl) ?_
                  refine lv_bipush (v := nI 81) hXX hBB dX3_begin_67 (by decide) ?_
                  refine lv_icmp_ge (tgt := 92) hXX hBB dX3_begin_69 (by decide) (fun c_69 => ?_) (fun c_69 => ?_)
                  · have c_69 : 81 ≤ k := (nI_leI (by omega) (by omega)).mp c_69
                    have hP := m_ext (q0 := 3) (g := fun j => bI ((fun _ => false) j)) hP rfl (fun z hz => by rw [hA z (by omega)])
                    have hD := m_extD (q0 := 3) (g := fun j => bI ((fun _ => false) j)) hD rfl
                    have hP : va_P D vwCl [(h, .inr (3, [.int (nI g2), .int (nI p2), .ref aR, .ref aB, .ref aA, .ref aO, .int (nI 0), .ref aD, .ref aP, .int (nI th), .int (nI rm), .ref aS, .ref aW, .ref aU, .ref aL, .ref aE, .ref aQ])), (aR, .inl (cI, 9, .inl (fun j => nI ((fun _ => 0) j)))), (aB, .inl (cI, 6, .inl (fun j => nI ((fun _ => 3) j)))), (aA, .inl (cZ, 81, .inl (fun j => bI ((fun _ => false) j)))), (aO, .inl (cZ, 81, .inl (fun j => bI (oq j)))), (aP, .inl (cI, 9, .inl (fun _ => -1)))] H := hP
                    have hD : va_D AA [(h, .inr (3, [.int (nI g2), .int (nI p2), .ref aR, .ref aB, .ref aA, .ref aO, .int (nI 0), .ref aD, .ref aP, .int (nI th), .int (nI rm), .ref aS, .ref aW, .ref aU, .ref aL, .ref aE, .ref aQ])), (aR, .inl (cI, 9, .inl (fun j => nI ((fun _ => 0) j)))), (aB, .inl (cI, 6, .inl (fun j => nI ((fun _ => 3) j)))), (aA, .inl (cZ, 81, .inl (fun j => bI ((fun _ => false) j)))), (aO, .inl (cZ, 81, .inl (fun j => bI (oq j)))), (aP, .inl (cI, 9, .inl (fun _ => -1)))] := hD
                    have hP := m_ext (q0 := 4) (g := fun j => bI ((fun _ => false) j)) hP rfl (fun z hz => by rw [hB z (by omega)])
                    have hD := m_extD (q0 := 4) (g := fun j => bI ((fun _ => false) j)) hD rfl
                    have hP : va_P D vwCl [(h, .inr (3, [.int (nI g2), .int (nI p2), .ref aR, .ref aB, .ref aA, .ref aO, .int (nI 0), .ref aD, .ref aP, .int (nI th), .int (nI rm), .ref aS, .ref aW, .ref aU, .ref aL, .ref aE, .ref aQ])), (aR, .inl (cI, 9, .inl (fun j => nI ((fun _ => 0) j)))), (aB, .inl (cI, 6, .inl (fun j => nI ((fun _ => 3) j)))), (aA, .inl (cZ, 81, .inl (fun j => bI ((fun _ => false) j)))), (aO, .inl (cZ, 81, .inl (fun j => bI ((fun _ => false) j)))), (aP, .inl (cI, 9, .inl (fun _ => -1)))] H := hP
                    have hD : va_D AA [(h, .inr (3, [.int (nI g2), .int (nI p2), .ref aR, .ref aB, .ref aA, .ref aO, .int (nI 0), .ref aD, .ref aP, .int (nI th), .int (nI rm), .ref aS, .ref aW, .ref aU, .ref aL, .ref aE, .ref aQ])), (aR, .inl (cI, 9, .inl (fun j => nI ((fun _ => 0) j)))), (aB, .inl (cI, 6, .inl (fun j => nI ((fun _ => 3) j)))), (aA, .inl (cZ, 81, .inl (fun j => bI ((fun _ => false) j)))), (aO, .inl (cZ, 81, .inl (fun j => bI ((fun _ => false) j)))), (aP, .inl (cI, 9, .inl (fun _ => -1)))] := hD
                    refine hret () ?_ (hP.sub [0, 1, 2, 3, 4, 5] rfl) (hD.sub [0, 1, 2, 3, 4, 5] (by decide) rfl) hS (Nat.le_of_ble_eq_true rfl) (Nat.le_of_ble_eq_true rfl) dX3_begin_92
                    trivial
                  · have c_69 : ¬ 81 ≤ k := fun h9 => c_69 ((nI_leI (by omega) (by omega)).mpr h9)
                    refine lv_aload_n hXX hBB dX3_begin_72 rfl (lv_at hl 1 rfl) ?_
                    refine va_get (D := D) (ci := 3) (v := .ref aA) (C := RX3) (T := TX3) (N := 17) hXX hBB hts iw_X3 hown hK hP 0 rfl rfl 4 (by decide) kw_7 (fun _ h9 => h9) rfl dX3_begin_73 ?_
                    refine lv_iload_n hXX hBB dX3_begin_76 rfl (lv_at hl 0 rfl) ?_
                    refine lv_iconst (v := nI 0) hXX hBB dX3_begin_77 (by decide) ?_
                    refine m_zast hXX hBB hK hP hD hS 3 1 rfl rfl (i := k) (by omega) (by decide) (g := fun j => bI (updB aq k false j)) (m_updB0 _ _) dX3_begin_78 (fun H locs hP hD hS => ?_)
                    have hP : va_P D vwCl [(h, .inr (3, [.int (nI g2), .int (nI p2), .ref aR, .ref aB, .ref aA, .ref aO, .int (nI 0), .ref aD, .ref aP, .int (nI th), .int (nI rm), .ref aS, .ref aW, .ref aU, .ref aL, .ref aE, .ref aQ])), (aR, .inl (cI, 9, .inl (fun j => nI ((fun _ => 0) j)))), (aB, .inl (cI, 6, .inl (fun j => nI ((fun _ => 3) j)))), (aA, .inl (cZ, 81, .inl (fun j => bI (updB aq k false j)))), (aO, .inl (cZ, 81, .inl (fun j => bI (oq j)))), (aP, .inl (cI, 9, .inl (fun _ => -1)))] H := hP
                    have hD : va_D AA [(h, .inr (3, [.int (nI g2), .int (nI p2), .ref aR, .ref aB, .ref aA, .ref aO, .int (nI 0), .ref aD, .ref aP, .int (nI th), .int (nI rm), .ref aS, .ref aW, .ref aU, .ref aL, .ref aE, .ref aQ])), (aR, .inl (cI, 9, .inl (fun j => nI ((fun _ => 0) j)))), (aB, .inl (cI, 6, .inl (fun j => nI ((fun _ => 3) j)))), (aA, .inl (cZ, 81, .inl (fun j => bI (updB aq k false j)))), (aO, .inl (cZ, 81, .inl (fun j => bI (oq j)))), (aP, .inl (cI, 9, .inl (fun _ => -1)))] := hD
                    refine lv_aload_n hXX hBB dX3_begin_79 rfl (lv_at hl 1 rfl) ?_
                    refine va_get (D := D) (ci := 3) (v := .ref aO) (C := RX3) (T := TX3) (N := 17) hXX hBB hts iw_X3 hown hK hP 0 rfl rfl 5 (by decide) kw_8 (fun _ h9 => h9) rfl dX3_begin_80 ?_
                    refine lv_iload_n hXX hBB dX3_begin_83 rfl (lv_at hl 0 rfl) ?_
                    refine lv_iconst (v := nI 0) hXX hBB dX3_begin_84 (by decide) ?_
                    refine m_zast hXX hBB hK hP hD hS 4 1 rfl rfl (i := k) (by omega) (by decide) (g := fun j => bI (updB oq k false j)) (m_updB0 _ _) dX3_begin_85 (fun H locs hP hD hS => ?_)
                    have hP : va_P D vwCl [(h, .inr (3, [.int (nI g2), .int (nI p2), .ref aR, .ref aB, .ref aA, .ref aO, .int (nI 0), .ref aD, .ref aP, .int (nI th), .int (nI rm), .ref aS, .ref aW, .ref aU, .ref aL, .ref aE, .ref aQ])), (aR, .inl (cI, 9, .inl (fun j => nI ((fun _ => 0) j)))), (aB, .inl (cI, 6, .inl (fun j => nI ((fun _ => 3) j)))), (aA, .inl (cZ, 81, .inl (fun j => bI (updB aq k false j)))), (aO, .inl (cZ, 81, .inl (fun j => bI (updB oq k false j)))), (aP, .inl (cI, 9, .inl (fun _ => -1)))] H := hP
                    have hD : va_D AA [(h, .inr (3, [.int (nI g2), .int (nI p2), .ref aR, .ref aB, .ref aA, .ref aO, .int (nI 0), .ref aD, .ref aP, .int (nI th), .int (nI rm), .ref aS, .ref aW, .ref aU, .ref aL, .ref aE, .ref aQ])), (aR, .inl (cI, 9, .inl (fun j => nI ((fun _ => 0) j)))), (aB, .inl (cI, 6, .inl (fun j => nI ((fun _ => 3) j)))), (aA, .inl (cZ, 81, .inl (fun j => bI (updB aq k false j)))), (aO, .inl (cZ, 81, .inl (fun j => bI (updB oq k false j)))), (aP, .inl (cI, 9, .inl (fun _ => -1)))] := hD
                    refine lv_iinc (v := nI (k + 1)) (lv' := [(3, .int (nI (k + 1))), (0, .ref h), (1, .int (nI g2)), (2, .int (nI p2))]) hXX hBB dX3_begin_86 hl (k := 0) rfl (nI_1 _) (by decide) rfl (fun ls hl => ?_)
                    refine lv_goto (tgt := 66) hXX hBB dX3_begin_89 (by decide) ?_
                    have hi_k : (k + 1) ≤ 81 := by omega
                    have hi_A : ∀ z, z < (k + 1) → (updB aq k false) z = false := by
                      intro z hz
                      rcases Nat.lt_or_ge z k with q | q
                      · first | (have h9 := hA z q; simp [updN, updB, upd, show ¬ z = k by omega, h9]; done) | (have h9 := hB z q; simp [updN, updB, upd, show ¬ z = k by omega, h9]; done)
                      · simp [updN, updB, upd, show z = k by omega]
                    have hi_B : ∀ z, z < (k + 1) → (updB oq k false) z = false := by
                      intro z hz
                      rcases Nat.lt_or_ge z k with q | q
                      · first | (have h9 := hA z q; simp [updN, updB, upd, show ¬ z = k by omega, h9]; done) | (have h9 := hB z q; simp [updN, updB, upd, show ¬ z = k by omega, h9]; done)
                      · simp [updN, updB, upd, show z = k by omega]
                    have hmm : 81 - (k + 1) < N_66 := by omega
                    exact ih_66 (k + 1) (updB aq k false) (updB oq k false) hi_k hi_A hi_B hmm _ _ (hP.sub [0, 1, 2, 3, 4, 5] rfl) (hD.sub [0, 1, 2, 3, 4, 5] (by decide) rfl) hS ls (lv_sub hl [0, 1, 2, 3] rfl)
              have hi_k : 0 ≤ 81 := by omega
              have hi_A : ∀ z, z < 0 → ab z = false := by exact fun z hz => absurd hz (Nat.not_lt_zero z)
              have hi_B : ∀ z, z < 0 → ob z = false := by exact fun z hz => absurd hz (Nat.not_lt_zero z)
              exact L_66 _ 0 ab ob hi_k hi_A hi_B (Nat.lt_succ_self _) _ _ hP hD hS ls (lv_sub hl [0, 1, 2, 3] rfl)
            · have c_48 : ¬ 6 ≤ k := fun h9 => c_48 ((nI_leI (by omega) (by omega)).mpr h9)
              refine lv_aload_n hXX hBB dX3_begin_51 rfl (lv_at hl 1 rfl) ?_
              refine va_get (D := D) (ci := 3) (v := .ref aB) (C := RX3) (T := TX3) (N := 17) hXX hBB hts iw_X3 hown hK hP 0 rfl rfl 3 (by decide) kw_6 (fun _ h9 => h9) rfl dX3_begin_52 ?_
              refine lv_iload_n hXX hBB dX3_begin_55 rfl (lv_at hl 0 rfl) ?_
              refine lv_iconst (v := nI 3) hXX hBB dX3_begin_56 (by decide) ?_
              refine m_iast hXX hBB hK hP hD hS 2 0 rfl rfl (i := k) (by omega) (by decide) (g := fun j => nI (updN bq k 3 j)) (m_upd _ _ _) dX3_begin_57 (fun H locs hP hD hS => ?_)
              have hP : va_P D vwCl [(h, .inr (3, [.int (nI g2), .int (nI p2), .ref aR, .ref aB, .ref aA, .ref aO, .int (nI 0), .ref aD, .ref aP, .int (nI th), .int (nI rm), .ref aS, .ref aW, .ref aU, .ref aL, .ref aE, .ref aQ])), (aR, .inl (cI, 9, .inl (fun j => nI ((fun _ => 0) j)))), (aB, .inl (cI, 6, .inl (fun j => nI (updN bq k 3 j)))), (aA, .inl (cZ, 81, .inl (fun j => bI (ab j)))), (aO, .inl (cZ, 81, .inl (fun j => bI (ob j)))), (aP, .inl (cI, 9, .inl (fun _ => -1)))] H := hP
              have hD : va_D AA [(h, .inr (3, [.int (nI g2), .int (nI p2), .ref aR, .ref aB, .ref aA, .ref aO, .int (nI 0), .ref aD, .ref aP, .int (nI th), .int (nI rm), .ref aS, .ref aW, .ref aU, .ref aL, .ref aE, .ref aQ])), (aR, .inl (cI, 9, .inl (fun j => nI ((fun _ => 0) j)))), (aB, .inl (cI, 6, .inl (fun j => nI (updN bq k 3 j)))), (aA, .inl (cZ, 81, .inl (fun j => bI (ab j)))), (aO, .inl (cZ, 81, .inl (fun j => bI (ob j)))), (aP, .inl (cI, 9, .inl (fun _ => -1)))] := hD
              refine lv_iinc (v := nI (k + 1)) (lv' := [(3, .int (nI (k + 1))), (0, .ref h), (1, .int (nI g2)), (2, .int (nI p2))]) hXX hBB dX3_begin_58 hl (k := 0) rfl (nI_1 _) (by decide) rfl (fun ls hl => ?_)
              refine lv_goto (tgt := 45) hXX hBB dX3_begin_61 (by decide) ?_
              have hi_k : (k + 1) ≤ 6 := by omega
              have hi_A : ∀ z, z < (k + 1) → (updN bq k 3) z = 3 := by
                intro z hz
                rcases Nat.lt_or_ge z k with q | q
                · first | (have h9 := hA z q; simp [updN, updB, upd, show ¬ z = k by omega, h9]; done) | (have h9 := hB z q; simp [updN, updB, upd, show ¬ z = k by omega, h9]; done)
                · simp [updN, updB, upd, show z = k by omega]
              have hmm : 6 - (k + 1) < N_45 := by omega
              exact ih_45 (k + 1) (updN bq k 3) hi_k hi_A hmm _ _ (hP.sub [0, 1, 2, 3, 4, 5] rfl) (hD.sub [0, 1, 2, 3, 4, 5] (by decide) rfl) hS ls (lv_sub hl [0, 1, 2, 3] rfl)
        have hi_k : 0 ≤ 6 := by omega
        have hi_A : ∀ z, z < 0 → bd z = 3 := by exact fun z hz => absurd hz (Nat.not_lt_zero z)
        exact L_45 _ 0 bd hi_k hi_A (Nat.lt_succ_self _) _ _ hP hD hS ls (lv_sub hl [0, 1, 2, 3] rfl)
      · have c_20 : ¬ 9 ≤ k := fun h9 => c_20 ((nI_leI (by omega) (by omega)).mpr h9)
        refine lv_aload_n hXX hBB dX3_begin_23 rfl (lv_at hl 1 rfl) ?_
        refine va_get (D := D) (ci := 3) (v := .ref aR) (C := RX3) (T := TX3) (N := 17) hXX hBB hts iw_X3 hown hK hP 0 rfl rfl 2 (by decide) kw_4 (fun _ h9 => h9) rfl dX3_begin_24 ?_
        refine lv_iload_n hXX hBB dX3_begin_27 rfl (lv_at hl 0 rfl) ?_
        refine lv_iconst (v := nI 0) hXX hBB dX3_begin_28 (by decide) ?_
        refine m_iast hXX hBB hK hP hD hS 1 0 rfl rfl (i := k) (by omega) (by decide) (g := fun j => nI (updN rq k 0 j)) (m_upd _ _ _) dX3_begin_29 (fun H locs hP hD hS => ?_)
        have hP : va_P D vwCl [(h, .inr (3, [.int (nI g2), .int (nI p2), .ref aR, .ref aB, .ref aA, .ref aO, .int (nI 0), .ref aD, .ref aP, .int (nI th), .int (nI rm), .ref aS, .ref aW, .ref aU, .ref aL, .ref aE, .ref aQ])), (aR, .inl (cI, 9, .inl (fun j => nI (updN rq k 0 j)))), (aB, .inl (cI, 6, .inl (fun j => nI (bd j)))), (aA, .inl (cZ, 81, .inl (fun j => bI (ab j)))), (aO, .inl (cZ, 81, .inl (fun j => bI (ob j)))), (aP, .inl (cI, 9, .inl Sq))] H := hP
        have hD : va_D AA [(h, .inr (3, [.int (nI g2), .int (nI p2), .ref aR, .ref aB, .ref aA, .ref aO, .int (nI 0), .ref aD, .ref aP, .int (nI th), .int (nI rm), .ref aS, .ref aW, .ref aU, .ref aL, .ref aE, .ref aQ])), (aR, .inl (cI, 9, .inl (fun j => nI (updN rq k 0 j)))), (aB, .inl (cI, 6, .inl (fun j => nI (bd j)))), (aA, .inl (cZ, 81, .inl (fun j => bI (ab j)))), (aO, .inl (cZ, 81, .inl (fun j => bI (ob j)))), (aP, .inl (cI, 9, .inl Sq))] := hD
        refine lv_aload_n hXX hBB dX3_begin_30 rfl (lv_at hl 1 rfl) ?_
        refine va_get (D := D) (ci := 3) (v := .ref aP) (C := RX3) (T := TX3) (N := 17) hXX hBB hts iw_X3 hown hK hP 0 rfl rfl 8 (by decide) kw_5 (fun _ h9 => h9) rfl dX3_begin_31 ?_
        refine lv_iload_n hXX hBB dX3_begin_34 rfl (lv_at hl 0 rfl) ?_
        refine lv_iconst (v := (-1)) hXX hBB dX3_begin_35 (by decide) ?_
        refine m_iast hXX hBB hK hP hD hS 5 0 rfl rfl (i := k) (by omega) (by decide) (g := upd Sq k (-1)) (rfl) dX3_begin_36 (fun H locs hP hD hS => ?_)
        have hP : va_P D vwCl [(h, .inr (3, [.int (nI g2), .int (nI p2), .ref aR, .ref aB, .ref aA, .ref aO, .int (nI 0), .ref aD, .ref aP, .int (nI th), .int (nI rm), .ref aS, .ref aW, .ref aU, .ref aL, .ref aE, .ref aQ])), (aR, .inl (cI, 9, .inl (fun j => nI (updN rq k 0 j)))), (aB, .inl (cI, 6, .inl (fun j => nI (bd j)))), (aA, .inl (cZ, 81, .inl (fun j => bI (ab j)))), (aO, .inl (cZ, 81, .inl (fun j => bI (ob j)))), (aP, .inl (cI, 9, .inl (upd Sq k (-1))))] H := hP
        have hD : va_D AA [(h, .inr (3, [.int (nI g2), .int (nI p2), .ref aR, .ref aB, .ref aA, .ref aO, .int (nI 0), .ref aD, .ref aP, .int (nI th), .int (nI rm), .ref aS, .ref aW, .ref aU, .ref aL, .ref aE, .ref aQ])), (aR, .inl (cI, 9, .inl (fun j => nI (updN rq k 0 j)))), (aB, .inl (cI, 6, .inl (fun j => nI (bd j)))), (aA, .inl (cZ, 81, .inl (fun j => bI (ab j)))), (aO, .inl (cZ, 81, .inl (fun j => bI (ob j)))), (aP, .inl (cI, 9, .inl (upd Sq k (-1))))] := hD
        refine lv_iinc (v := nI (k + 1)) (lv' := [(3, .int (nI (k + 1))), (0, .ref h), (1, .int (nI g2)), (2, .int (nI p2))]) hXX hBB dX3_begin_37 hl (k := 0) rfl (nI_1 _) (by decide) rfl (fun ls hl => ?_)
        refine lv_goto (tgt := 17) hXX hBB dX3_begin_40 (by decide) ?_
        have hi_k : (k + 1) ≤ 9 := by omega
        have hi_A : ∀ z, z < (k + 1) → (updN rq k 0) z = 0 := by
          intro z hz
          rcases Nat.lt_or_ge z k with q | q
          · first | (have h9 := hA z q; simp [updN, updB, upd, show ¬ z = k by omega, h9]; done) | (have h9 := hB z q; simp [updN, updB, upd, show ¬ z = k by omega, h9]; done)
          · simp [updN, updB, upd, show z = k by omega]
        have hi_B : ∀ z, z < (k + 1) → (upd Sq k (-1)) z = -1 := by
          intro z hz
          rcases Nat.lt_or_ge z k with q | q
          · first | (have h9 := hA z q; simp [updN, updB, upd, show ¬ z = k by omega, h9]; done) | (have h9 := hB z q; simp [updN, updB, upd, show ¬ z = k by omega, h9]; done)
          · simp [updN, updB, upd, show z = k by omega]
        have hmm : 9 - (k + 1) < N_17 := by omega
        exact ih_17 (k + 1) (updN rq k 0) (upd Sq k (-1)) hi_k hi_A hi_B hmm _ _ (hP.sub [0, 1, 2, 3, 4, 5] rfl) (hD.sub [0, 1, 2, 3, 4, 5] (by decide) rfl) hS ls (lv_sub hl [0, 1, 2, 3] rfl)
  have hi_k : 0 ≤ 9 := by omega
  have hi_A : ∀ z, z < 0 → rg z = 0 := by exact fun z hz => absurd hz (Nat.not_lt_zero z)
  have hi_B : ∀ z, z < 0 → S z = -1 := by exact fun z hz => absurd hz (Nat.not_lt_zero z)
  exact L_17 _ 0 rg S hi_k hi_A hi_B (Nat.lt_succ_self _) _ _ hP hD hS ls (lv_sub hl [0, 1, 2, 3] rfl)
abbrev rmX3_lay : Room := { frames := 1, cells := 0, slots := 0, locals := 23 }
set_option maxHeartbeats 4000000 in
set_option maxRecDepth 100000 in
theorem kX3_lay (l : Launch) (D : va_G) (cI : ClassId) (cZ : ClassId) (h : Nat) (g : Nat) (p : Nat) (aR : Nat) (aB : Nat) (aA : Nat) (aO : Nat) (dm : Nat) (aD : Nat) (aP : Nat) (th : Nat) (rm : Nat) (aS : Nat) (aW : Nat) (aU : Nat) (aL : Nat) (aE : Nat) (aQ : Nat) (rg : Nat → Nat) (bd : Nat → Nat) (ab : Nat → Bool) (ob : Nat → Bool) (S : Nat → Int32) (x : Int32) (y : Int32) (hg2 : 2 ≤ g) (hg4 : g ≤ 4) (hp2 : 2 ≤ p) (hp3 : p ≤ 3) (hT : g * p ≤ 9) : Ci l yX3_lay wsX3_lay rmX3_lay D [(cI, .int), (cZ, .boolean)] [.ref h, .int x, .int y] [(h, .inr (3, [.int (nI g), .int (nI p), .ref aR, .ref aB, .ref aA, .ref aO, .int (nI dm), .ref aD, .ref aP, .int (nI th), .int (nI rm), .ref aS, .ref aW, .ref aU, .ref aL, .ref aE, .ref aQ])), (aR, .inl (cI, 9, .inl (fun j => nI (rg j)))), (aB, .inl (cI, 6, .inl (fun j => nI (bd j)))), (aA, .inl (cZ, 81, .inl (fun j => bI (ab j)))), (aO, .inl (cZ, 81, .inl (fun j => bI (ob j)))), (aP, .inl (cI, 9, .inl S))] (fun (r : Int32) (u : Nat × Nat × Nat × Nat × (Nat → Nat) × (Nat → Nat) × (Nat → Bool) × (Nat → Bool) × (Nat → Int32)) => (layPost x y u.1 u.2.1 u.2.2.1 u.2.2.2.1 u.2.2.2.2.1 u.2.2.2.2.2.1 u.2.2.2.2.2.2.1 u.2.2.2.2.2.2.2.1 u.2.2.2.2.2.2.2.2 r g p dm rg bd ab ob S)) (fun (u : Nat × Nat × Nat × Nat × (Nat → Nat) × (Nat → Nat) × (Nat → Bool) × (Nat → Bool) × (Nat → Int32)) => [(h, .inr (3, [.int (nI u.2.1), .int (nI u.2.2.1), .ref aR, .ref aB, .ref aA, .ref aO, .int (nI u.2.2.2.1), .ref aD, .ref aP, .int (nI u.1), .int (nI rm), .ref aS, .ref aW, .ref aU, .ref aL, .ref aE, .ref aQ])), (aR, .inl (cI, 9, .inl (fun j => nI (u.2.2.2.2.1 j)))), (aB, .inl (cI, 6, .inl (fun j => nI (u.2.2.2.2.2.1 j)))), (aA, .inl (cZ, 81, .inl (fun j => bI (u.2.2.2.2.2.2.1 j)))), (aO, .inl (cZ, 81, .inl (fun j => bI (u.2.2.2.2.2.2.2.1 j)))), (aP, .inl (cI, 9, .inl u.2.2.2.2.2.2.2.2))]) := by
  refine Ci_of (cc := cX3_lay) (maxL := 3) (by decide) rfl (Nat.le_of_ble_eq_true rfl) ?_
  intro pR eV sT mI args below meth cO AA QQ ls hXX hBB hml hown hts hnm hN hK hP hD hS hAA hl hret
  have hl : lv_has ls 3 [(0, .ref h), (1, .int x), (2, .int y)] := hl
  have kw_1 := hts (.fieldLink RX3 51 "CupDrawModel" "thrown" "I") (List.mem_of_getElem? (i := 1) rfl)
  have iw_X3 : ∀ w ∈ wsX30, w ∈ wsX3_lay := by decide +kernel
  refine lv_aload_n hXX hBB dX3_lay_0 rfl (lv_at hl 0 rfl) ?_
  refine lv_iload_n hXX hBB dX3_lay_1 rfl (lv_at hl 1 rfl) ?_
  refine lv_iconst (v := nI 2) hXX hBB dX3_lay_2 (by decide) ?_
  refine lv_iconst (v := nI 4) hXX hBB dX3_lay_3 (by decide) ?_
  refine m_scalli (wr := [(h, .inr (3, [.int (nI g), .int (nI p), .ref aR, .ref aB, .ref aA, .ref aO, .int (nI dm), .ref aD, .ref aP, .int (nI th), .int (nI rm), .ref aS, .ref aW, .ref aU, .ref aL, .ref aE, .ref aQ])), (aR, .inl (cI, 9, .inl (fun j => nI (rg j)))), (aB, .inl (cI, 6, .inl (fun j => nI (bd j)))), (aA, .inl (cZ, 81, .inl (fun j => bI (ab j)))), (aO, .inl (cZ, 81, .inl (fun j => bI (ob j)))), (aP, .inl (cI, 9, .inl S))]) ⟨hXX, hBB, hml, hown, hts⟩ hN (kX3_in l D x (nI 2) (nI 4)) (va_cwS 3 hts gX3_lay_X3_in rfl rfl rfl (by decide +kernel) ⟨Nat.le_of_ble_eq_true rfl, Nat.le_of_ble_eq_true rfl⟩) hK hP hD hS hAA [] [0, 1, 2, 3, 4, 5] [] rfl rfl rfl (by decide) (by decide) (by decide) rfl hl.1 rfl (Nat.le_of_ble_eq_true rfl) dX3_lay_4 ⟨Nat.le_of_ble_eq_true rfl, Nat.le_of_ble_eq_true rfl⟩ (k := 0) (n := 0) rfl rfl (fun r_1 u_ H locs hw hP hD hS => ?_)
  have hw : (r_1 = bI (inB x (nI 2) (nI 4))) := hw
  have hr_r_1 := hw
  have hP : va_P D vwCl [(h, .inr (3, [.int (nI g), .int (nI p), .ref aR, .ref aB, .ref aA, .ref aO, .int (nI dm), .ref aD, .ref aP, .int (nI th), .int (nI rm), .ref aS, .ref aW, .ref aU, .ref aL, .ref aE, .ref aQ])), (aR, .inl (cI, 9, .inl (fun j => nI (rg j)))), (aB, .inl (cI, 6, .inl (fun j => nI (bd j)))), (aA, .inl (cZ, 81, .inl (fun j => bI (ab j)))), (aO, .inl (cZ, 81, .inl (fun j => bI (ob j)))), (aP, .inl (cI, 9, .inl S))] H := hP
  have hD : va_D AA [(h, .inr (3, [.int (nI g), .int (nI p), .ref aR, .ref aB, .ref aA, .ref aO, .int (nI dm), .ref aD, .ref aP, .int (nI th), .int (nI rm), .ref aS, .ref aW, .ref aU, .ref aL, .ref aE, .ref aQ])), (aR, .inl (cI, 9, .inl (fun j => nI (rg j)))), (aB, .inl (cI, 6, .inl (fun j => nI (bd j)))), (aA, .inl (cZ, 81, .inl (fun j => bI (ab j)))), (aO, .inl (cZ, 81, .inl (fun j => bI (ob j)))), (aP, .inl (cI, 9, .inl S))] := hD
  subst hr_r_1
  refine lv_if_eq (tgt := 29) hXX hBB dX3_lay_7 (by decide) (fun c_7 => ?_) (fun c_7 => ?_)
  · have c_7 : (inB x (nI 2) (nI 4)) = false := m_bz0 c_7
    refine lv_iconst (v := nI 1) hXX hBB dX3_lay_29 (by decide) ?_
    refine lv_goto (tgt := 34) hXX hBB dX3_lay_30 (by decide) ?_
    refine va_put (D := D) (ci := 3) (v := .int (nI 1)) (ty := .int) (C := RX3) (T := TX3) (N := 17) hXX hBB hts iw_X3 tyX3 tyX3_ok nmX3 hown hK hP hD hS 0 rfl rfl 9 (by decide) kw_1 (fun _ h9 => h9) rfl (by decide +kernel) (rfl) (rfl) (Nat.le_of_ble_eq_true rfl) dX3_lay_34 (fun H locs hP hD hS => ?_)
    have hP : va_P D vwCl [(h, .inr (3, [.int (nI g), .int (nI p), .ref aR, .ref aB, .ref aA, .ref aO, .int (nI dm), .ref aD, .ref aP, .int (nI 1), .int (nI rm), .ref aS, .ref aW, .ref aU, .ref aL, .ref aE, .ref aQ])), (aR, .inl (cI, 9, .inl (fun j => nI (rg j)))), (aB, .inl (cI, 6, .inl (fun j => nI (bd j)))), (aA, .inl (cZ, 81, .inl (fun j => bI (ab j)))), (aO, .inl (cZ, 81, .inl (fun j => bI (ob j)))), (aP, .inl (cI, 9, .inl S))] H := hP
    have hD : va_D AA [(h, .inr (3, [.int (nI g), .int (nI p), .ref aR, .ref aB, .ref aA, .ref aO, .int (nI dm), .ref aD, .ref aP, .int (nI 1), .int (nI rm), .ref aS, .ref aW, .ref aU, .ref aL, .ref aE, .ref aQ])), (aR, .inl (cI, 9, .inl (fun j => nI (rg j)))), (aB, .inl (cI, 6, .inl (fun j => nI (bd j)))), (aA, .inl (cZ, 81, .inl (fun j => bI (ab j)))), (aO, .inl (cZ, 81, .inl (fun j => bI (ob j)))), (aP, .inl (cI, 9, .inl S))] := hD
    refine lv_aload_n hXX hBB dX3_lay_37 rfl (lv_at hl 0 rfl) ?_
    refine va_get (D := D) (ci := 3) (v := .int (nI 1)) (C := RX3) (T := TX3) (N := 17) hXX hBB hts iw_X3 hown hK hP 0 rfl rfl 9 (by decide) kw_1 (fun _ h9 => h9) rfl dX3_lay_38 ?_
    refine lv_if_le (tgt := 46) hXX hBB dX3_lay_41 (by decide) (fun c_41 => ?_) (fun c_41 => ?_)
    · exact absurd c_41 (by decide)
    · have c_41 : 0 < 1 := m_pos_le_f (by omega) c_41
      
      refine lv_iconst (v := nI 0) hXX hBB dX3_lay_44 (by decide) ?_
      refine hret (r := nI 0) (1, g, p, dm, rg, bd, ab, ob, S) ?_ (rfl) (hP.sub [0, 1, 2, 3, 4, 5] rfl) (hD.sub [0, 1, 2, 3, 4, 5] (by decide) rfl) hS (Nat.le_of_ble_eq_true rfl) (Nat.le_of_ble_eq_true rfl) dX3_lay_45
      show (layPost x y 1 g p dm rg bd ab ob S (nI 0) g p dm rg bd ab ob S)
      exact layPost_no (by first | exact tLay_1 c_7 | exact tLay_2 c_16 | exact tLay_3 c_21 c_26)
  · have c_7 : (inB x (nI 2) (nI 4)) = true := m_bz1 c_7
    refine lv_iload_n hXX hBB dX3_lay_10 rfl (lv_at hl 2 rfl) ?_
    refine lv_iconst (v := nI 2) hXX hBB dX3_lay_11 (by decide) ?_
    refine lv_iconst (v := nI 3) hXX hBB dX3_lay_12 (by decide) ?_
    refine m_scalli (wr := [(h, .inr (3, [.int (nI g), .int (nI p), .ref aR, .ref aB, .ref aA, .ref aO, .int (nI dm), .ref aD, .ref aP, .int (nI th), .int (nI rm), .ref aS, .ref aW, .ref aU, .ref aL, .ref aE, .ref aQ])), (aR, .inl (cI, 9, .inl (fun j => nI (rg j)))), (aB, .inl (cI, 6, .inl (fun j => nI (bd j)))), (aA, .inl (cZ, 81, .inl (fun j => bI (ab j)))), (aO, .inl (cZ, 81, .inl (fun j => bI (ob j)))), (aP, .inl (cI, 9, .inl S))]) ⟨hXX, hBB, hml, hown, hts⟩ hN (kX3_in l D y (nI 2) (nI 3)) (va_cwS 3 hts gX3_lay_X3_in rfl rfl rfl (by decide +kernel) ⟨Nat.le_of_ble_eq_true rfl, Nat.le_of_ble_eq_true rfl⟩) hK hP hD hS hAA [] [0, 1, 2, 3, 4, 5] [] rfl rfl rfl (by decide) (by decide) (by decide) rfl hl.1 rfl (Nat.le_of_ble_eq_true rfl) dX3_lay_13 ⟨Nat.le_of_ble_eq_true rfl, Nat.le_of_ble_eq_true rfl⟩ (k := 0) (n := 0) rfl rfl (fun r_2 u_ H locs hw hP hD hS => ?_)
    have hw : (r_2 = bI (inB y (nI 2) (nI 3))) := hw
    have hr_r_2 := hw
    have hP : va_P D vwCl [(h, .inr (3, [.int (nI g), .int (nI p), .ref aR, .ref aB, .ref aA, .ref aO, .int (nI dm), .ref aD, .ref aP, .int (nI th), .int (nI rm), .ref aS, .ref aW, .ref aU, .ref aL, .ref aE, .ref aQ])), (aR, .inl (cI, 9, .inl (fun j => nI (rg j)))), (aB, .inl (cI, 6, .inl (fun j => nI (bd j)))), (aA, .inl (cZ, 81, .inl (fun j => bI (ab j)))), (aO, .inl (cZ, 81, .inl (fun j => bI (ob j)))), (aP, .inl (cI, 9, .inl S))] H := hP
    have hD : va_D AA [(h, .inr (3, [.int (nI g), .int (nI p), .ref aR, .ref aB, .ref aA, .ref aO, .int (nI dm), .ref aD, .ref aP, .int (nI th), .int (nI rm), .ref aS, .ref aW, .ref aU, .ref aL, .ref aE, .ref aQ])), (aR, .inl (cI, 9, .inl (fun j => nI (rg j)))), (aB, .inl (cI, 6, .inl (fun j => nI (bd j)))), (aA, .inl (cZ, 81, .inl (fun j => bI (ab j)))), (aO, .inl (cZ, 81, .inl (fun j => bI (ob j)))), (aP, .inl (cI, 9, .inl S))] := hD
    subst hr_r_2
    refine lv_if_eq (tgt := 29) hXX hBB dX3_lay_16 (by decide) (fun c_16 => ?_) (fun c_16 => ?_)
    · have c_16 : (inB y (nI 2) (nI 3)) = false := m_bz0 c_16
      refine lv_iconst (v := nI 1) hXX hBB dX3_lay_29 (by decide) ?_
      refine lv_goto (tgt := 34) hXX hBB dX3_lay_30 (by decide) ?_
      refine va_put (D := D) (ci := 3) (v := .int (nI 1)) (ty := .int) (C := RX3) (T := TX3) (N := 17) hXX hBB hts iw_X3 tyX3 tyX3_ok nmX3 hown hK hP hD hS 0 rfl rfl 9 (by decide) kw_1 (fun _ h9 => h9) rfl (by decide +kernel) (rfl) (rfl) (Nat.le_of_ble_eq_true rfl) dX3_lay_34 (fun H locs hP hD hS => ?_)
      have hP : va_P D vwCl [(h, .inr (3, [.int (nI g), .int (nI p), .ref aR, .ref aB, .ref aA, .ref aO, .int (nI dm), .ref aD, .ref aP, .int (nI 1), .int (nI rm), .ref aS, .ref aW, .ref aU, .ref aL, .ref aE, .ref aQ])), (aR, .inl (cI, 9, .inl (fun j => nI (rg j)))), (aB, .inl (cI, 6, .inl (fun j => nI (bd j)))), (aA, .inl (cZ, 81, .inl (fun j => bI (ab j)))), (aO, .inl (cZ, 81, .inl (fun j => bI (ob j)))), (aP, .inl (cI, 9, .inl S))] H := hP
      have hD : va_D AA [(h, .inr (3, [.int (nI g), .int (nI p), .ref aR, .ref aB, .ref aA, .ref aO, .int (nI dm), .ref aD, .ref aP, .int (nI 1), .int (nI rm), .ref aS, .ref aW, .ref aU, .ref aL, .ref aE, .ref aQ])), (aR, .inl (cI, 9, .inl (fun j => nI (rg j)))), (aB, .inl (cI, 6, .inl (fun j => nI (bd j)))), (aA, .inl (cZ, 81, .inl (fun j => bI (ab j)))), (aO, .inl (cZ, 81, .inl (fun j => bI (ob j)))), (aP, .inl (cI, 9, .inl S))] := hD
      refine lv_aload_n hXX hBB dX3_lay_37 rfl (lv_at hl 0 rfl) ?_
      refine va_get (D := D) (ci := 3) (v := .int (nI 1)) (C := RX3) (T := TX3) (N := 17) hXX hBB hts iw_X3 hown hK hP 0 rfl rfl 9 (by decide) kw_1 (fun _ h9 => h9) rfl dX3_lay_38 ?_
      refine lv_if_le (tgt := 46) hXX hBB dX3_lay_41 (by decide) (fun c_41 => ?_) (fun c_41 => ?_)
      · exact absurd c_41 (by decide)
      · have c_41 : 0 < 1 := m_pos_le_f (by omega) c_41
        
        refine lv_iconst (v := nI 0) hXX hBB dX3_lay_44 (by decide) ?_
        refine hret (r := nI 0) (1, g, p, dm, rg, bd, ab, ob, S) ?_ (rfl) (hP.sub [0, 1, 2, 3, 4, 5] rfl) (hD.sub [0, 1, 2, 3, 4, 5] (by decide) rfl) hS (Nat.le_of_ble_eq_true rfl) (Nat.le_of_ble_eq_true rfl) dX3_lay_45
        show (layPost x y 1 g p dm rg bd ab ob S (nI 0) g p dm rg bd ab ob S)
        exact layPost_no (by first | exact tLay_1 c_7 | exact tLay_2 c_16 | exact tLay_3 c_21 c_26)
    · have c_16 : (inB y (nI 2) (nI 3)) = true := m_bz1 c_16
      refine lv_iload_n hXX hBB dX3_lay_19 rfl (lv_at hl 1 rfl) ?_
      refine lv_iconst (v := nI 4) hXX hBB dX3_lay_20 (by decide) ?_
      refine lv_icmp_ne (tgt := 33) hXX hBB dX3_lay_21 (by decide) (fun c_21 => ?_) (fun c_21 => ?_)
      · have c_21 := c_21
        refine lv_iconst (v := nI 0) hXX hBB dX3_lay_33 (by decide) ?_
        refine va_put (D := D) (ci := 3) (v := .int (nI 0)) (ty := .int) (C := RX3) (T := TX3) (N := 17) hXX hBB hts iw_X3 tyX3 tyX3_ok nmX3 hown hK hP hD hS 0 rfl rfl 9 (by decide) kw_1 (fun _ h9 => h9) rfl (by decide +kernel) (rfl) (rfl) (Nat.le_of_ble_eq_true rfl) dX3_lay_34 (fun H locs hP hD hS => ?_)
        have hP : va_P D vwCl [(h, .inr (3, [.int (nI g), .int (nI p), .ref aR, .ref aB, .ref aA, .ref aO, .int (nI dm), .ref aD, .ref aP, .int (nI 0), .int (nI rm), .ref aS, .ref aW, .ref aU, .ref aL, .ref aE, .ref aQ])), (aR, .inl (cI, 9, .inl (fun j => nI (rg j)))), (aB, .inl (cI, 6, .inl (fun j => nI (bd j)))), (aA, .inl (cZ, 81, .inl (fun j => bI (ab j)))), (aO, .inl (cZ, 81, .inl (fun j => bI (ob j)))), (aP, .inl (cI, 9, .inl S))] H := hP
        have hD : va_D AA [(h, .inr (3, [.int (nI g), .int (nI p), .ref aR, .ref aB, .ref aA, .ref aO, .int (nI dm), .ref aD, .ref aP, .int (nI 0), .int (nI rm), .ref aS, .ref aW, .ref aU, .ref aL, .ref aE, .ref aQ])), (aR, .inl (cI, 9, .inl (fun j => nI (rg j)))), (aB, .inl (cI, 6, .inl (fun j => nI (bd j)))), (aA, .inl (cZ, 81, .inl (fun j => bI (ab j)))), (aO, .inl (cZ, 81, .inl (fun j => bI (ob j)))), (aP, .inl (cI, 9, .inl S))] := hD
        refine lv_aload_n hXX hBB dX3_lay_37 rfl (lv_at hl 0 rfl) ?_
        refine va_get (D := D) (ci := 3) (v := .int (nI 0)) (C := RX3) (T := TX3) (N := 17) hXX hBB hts iw_X3 hown hK hP 0 rfl rfl 9 (by decide) kw_1 (fun _ h9 => h9) rfl dX3_lay_38 ?_
        refine lv_if_le (tgt := 46) hXX hBB dX3_lay_41 (by decide) (fun c_41 => ?_) (fun c_41 => ?_)
        · have c_41 : 0 = 0 := m_nps_le_t (by omega) c_41
          
          obtain ⟨gx, hlo_gx, hhi_gx, he_gx⟩ := inB_nat (lo := 2) (hi := 4) (by decide) c_7
          obtain ⟨py, hlo_py, hhi_py, he_py⟩ := inB_nat (lo := 2) (hi := 3) (by decide) c_16
          have hl : lv_has ls 3 [(0, .ref h), (1, .int (nI gx)), (2, .int (nI py))] := by rw [he_gx, he_py] at hl; exact hl
          refine lv_aload_n hXX hBB dX3_lay_46 rfl (lv_at hl 0 rfl) ?_
          refine lv_iload_n hXX hBB dX3_lay_47 rfl (lv_at hl 1 rfl) ?_
          refine lv_iload_n hXX hBB dX3_lay_48 rfl (lv_at hl 2 rfl) ?_
          refine m_callv (wr := []) ⟨hXX, hBB, hml, hown, hts⟩ hN (kX3_begin l D cI cZ h g p aR aB aA aO dm aD aP 0 rm aS aW aU aL aE aQ rg bd ab ob S gx py) (cwV 2 hts gX3_lay_X3_begin rfl rfl rfl (by decide +kernel) ⟨Nat.le_of_ble_eq_true rfl, Nat.le_of_ble_eq_true rfl⟩) hK hP hD hS hAA [0, 1, 2, 3, 4, 5] [] [0, 1] rfl rfl rfl (by decide) (by decide) (by decide) rfl 3 rfl rfl rfl rfl hl.1 rfl (Nat.le_of_ble_eq_true rfl) dX3_lay_49 ⟨Nat.le_of_ble_eq_true rfl, Nat.le_of_ble_eq_true rfl⟩ (k := 0) (n := 0) rfl rfl (fun  u_ H locs hw hP hD hS => ?_)
          have hP : va_P D vwCl [(h, .inr (3, [.int (nI gx), .int (nI py), .ref aR, .ref aB, .ref aA, .ref aO, .int (nI 0), .ref aD, .ref aP, .int (nI 0), .int (nI rm), .ref aS, .ref aW, .ref aU, .ref aL, .ref aE, .ref aQ])), (aR, .inl (cI, 9, .inl (fun j => nI ((fun _ => 0) j)))), (aB, .inl (cI, 6, .inl (fun j => nI ((fun _ => 3) j)))), (aA, .inl (cZ, 81, .inl (fun j => bI ((fun _ => false) j)))), (aO, .inl (cZ, 81, .inl (fun j => bI ((fun _ => false) j)))), (aP, .inl (cI, 9, .inl (fun _ => -1)))] H := hP
          have hD : va_D AA [(h, .inr (3, [.int (nI gx), .int (nI py), .ref aR, .ref aB, .ref aA, .ref aO, .int (nI 0), .ref aD, .ref aP, .int (nI 0), .int (nI rm), .ref aS, .ref aW, .ref aU, .ref aL, .ref aE, .ref aQ])), (aR, .inl (cI, 9, .inl (fun j => nI ((fun _ => 0) j)))), (aB, .inl (cI, 6, .inl (fun j => nI ((fun _ => 3) j)))), (aA, .inl (cZ, 81, .inl (fun j => bI ((fun _ => false) j)))), (aO, .inl (cZ, 81, .inl (fun j => bI ((fun _ => false) j)))), (aP, .inl (cI, 9, .inl (fun _ => -1)))] := hD
          refine lv_aload_n hXX hBB dX3_lay_52 rfl (lv_at hl 0 rfl) ?_
          refine m_calli (wr := [(aR, .inl (cI, 9, .inl (fun j => nI ((fun _ => 0) j)))), (aB, .inl (cI, 6, .inl (fun j => nI ((fun _ => 3) j)))), (aA, .inl (cZ, 81, .inl (fun j => bI ((fun _ => false) j)))), (aO, .inl (cZ, 81, .inl (fun j => bI ((fun _ => false) j)))), (aP, .inl (cI, 9, .inl (fun _ => -1)))]) ⟨hXX, hBB, hml, hown, hts⟩ hN (kX3_teamMany l D h gx py aR aB aA aO 0 aD aP 0 rm aS aW aU aL aE aQ) (cwV 0 hts gX3_lay_X3_teamMany rfl rfl rfl (by decide +kernel) ⟨Nat.le_of_ble_eq_true rfl, Nat.le_of_ble_eq_true rfl⟩) hK hP hD hS hAA [0] [1, 2, 3, 4, 5] [] rfl rfl rfl (by decide) (by decide) (by decide) rfl 3 rfl rfl rfl rfl hl.1 rfl (Nat.le_of_ble_eq_true rfl) dX3_lay_53 ⟨Nat.le_of_ble_eq_true rfl, Nat.le_of_ble_eq_true rfl⟩ (k := 0) (n := 0) rfl rfl (fun r_3 u_ H locs hw hP hD hS => ?_)
          have hw : (r_3 = nI (gx * py)) := hw
          have hr_r_3 := hw
          have hP : va_P D vwCl [(aR, .inl (cI, 9, .inl (fun j => nI ((fun _ => 0) j)))), (aB, .inl (cI, 6, .inl (fun j => nI ((fun _ => 3) j)))), (aA, .inl (cZ, 81, .inl (fun j => bI ((fun _ => false) j)))), (aO, .inl (cZ, 81, .inl (fun j => bI ((fun _ => false) j)))), (aP, .inl (cI, 9, .inl (fun _ => -1))), (h, .inr (3, [.int (nI gx), .int (nI py), .ref aR, .ref aB, .ref aA, .ref aO, .int (nI 0), .ref aD, .ref aP, .int (nI 0), .int (nI rm), .ref aS, .ref aW, .ref aU, .ref aL, .ref aE, .ref aQ]))] H := hP
          have hD : va_D AA [(aR, .inl (cI, 9, .inl (fun j => nI ((fun _ => 0) j)))), (aB, .inl (cI, 6, .inl (fun j => nI ((fun _ => 3) j)))), (aA, .inl (cZ, 81, .inl (fun j => bI ((fun _ => false) j)))), (aO, .inl (cZ, 81, .inl (fun j => bI ((fun _ => false) j)))), (aP, .inl (cI, 9, .inl (fun _ => -1))), (h, .inr (3, [.int (nI gx), .int (nI py), .ref aR, .ref aB, .ref aA, .ref aO, .int (nI 0), .ref aD, .ref aP, .int (nI 0), .int (nI rm), .ref aS, .ref aW, .ref aU, .ref aL, .ref aE, .ref aQ]))] := hD
          subst hr_r_3
          refine hret (r := nI (gx * py)) (0, gx, py, 0, (fun _ => 0), (fun _ => 3), (fun _ => false), (fun _ => false), fun _ => -1) ?_ (rfl) (hP.sub [5, 0, 1, 2, 3, 4] rfl) (hD.sub [5, 0, 1, 2, 3, 4] (by decide) rfl) hS (Nat.le_of_ble_eq_true rfl) (Nat.le_of_ble_eq_true rfl) dX3_lay_56
          show (layPost x y 0 gx py 0 (fun _ => 0) (fun _ => 3) (fun _ => false) (fun _ => false) (fun _ => -1) (nI (gx * py)) g p dm rg bd ab ob S)
          exact layPost_ok (tLay_0 c_7 c_16 (by first | exact Or.inl c_21 | exact Or.inr c_26)) he_gx he_py
        · exact absurd (by decide) c_41
      · have c_21 := c_21
        refine lv_iload_n hXX hBB dX3_lay_24 rfl (lv_at hl 2 rfl) ?_
        refine lv_iconst (v := nI 3) hXX hBB dX3_lay_25 (by decide) ?_
        refine lv_icmp_ne (tgt := 33) hXX hBB dX3_lay_26 (by decide) (fun c_26 => ?_) (fun c_26 => ?_)
        · have c_26 := c_26
          refine lv_iconst (v := nI 0) hXX hBB dX3_lay_33 (by decide) ?_
          refine va_put (D := D) (ci := 3) (v := .int (nI 0)) (ty := .int) (C := RX3) (T := TX3) (N := 17) hXX hBB hts iw_X3 tyX3 tyX3_ok nmX3 hown hK hP hD hS 0 rfl rfl 9 (by decide) kw_1 (fun _ h9 => h9) rfl (by decide +kernel) (rfl) (rfl) (Nat.le_of_ble_eq_true rfl) dX3_lay_34 (fun H locs hP hD hS => ?_)
          have hP : va_P D vwCl [(h, .inr (3, [.int (nI g), .int (nI p), .ref aR, .ref aB, .ref aA, .ref aO, .int (nI dm), .ref aD, .ref aP, .int (nI 0), .int (nI rm), .ref aS, .ref aW, .ref aU, .ref aL, .ref aE, .ref aQ])), (aR, .inl (cI, 9, .inl (fun j => nI (rg j)))), (aB, .inl (cI, 6, .inl (fun j => nI (bd j)))), (aA, .inl (cZ, 81, .inl (fun j => bI (ab j)))), (aO, .inl (cZ, 81, .inl (fun j => bI (ob j)))), (aP, .inl (cI, 9, .inl S))] H := hP
          have hD : va_D AA [(h, .inr (3, [.int (nI g), .int (nI p), .ref aR, .ref aB, .ref aA, .ref aO, .int (nI dm), .ref aD, .ref aP, .int (nI 0), .int (nI rm), .ref aS, .ref aW, .ref aU, .ref aL, .ref aE, .ref aQ])), (aR, .inl (cI, 9, .inl (fun j => nI (rg j)))), (aB, .inl (cI, 6, .inl (fun j => nI (bd j)))), (aA, .inl (cZ, 81, .inl (fun j => bI (ab j)))), (aO, .inl (cZ, 81, .inl (fun j => bI (ob j)))), (aP, .inl (cI, 9, .inl S))] := hD
          refine lv_aload_n hXX hBB dX3_lay_37 rfl (lv_at hl 0 rfl) ?_
          refine va_get (D := D) (ci := 3) (v := .int (nI 0)) (C := RX3) (T := TX3) (N := 17) hXX hBB hts iw_X3 hown hK hP 0 rfl rfl 9 (by decide) kw_1 (fun _ h9 => h9) rfl dX3_lay_38 ?_
          refine lv_if_le (tgt := 46) hXX hBB dX3_lay_41 (by decide) (fun c_41 => ?_) (fun c_41 => ?_)
          · have c_41 : 0 = 0 := m_nps_le_t (by omega) c_41
            
            obtain ⟨gx, hlo_gx, hhi_gx, he_gx⟩ := inB_nat (lo := 2) (hi := 4) (by decide) c_7
            obtain ⟨py, hlo_py, hhi_py, he_py⟩ := inB_nat (lo := 2) (hi := 3) (by decide) c_16
            have hl : lv_has ls 3 [(0, .ref h), (1, .int (nI gx)), (2, .int (nI py))] := by rw [he_gx, he_py] at hl; exact hl
            refine lv_aload_n hXX hBB dX3_lay_46 rfl (lv_at hl 0 rfl) ?_
            refine lv_iload_n hXX hBB dX3_lay_47 rfl (lv_at hl 1 rfl) ?_
            refine lv_iload_n hXX hBB dX3_lay_48 rfl (lv_at hl 2 rfl) ?_
            refine m_callv (wr := []) ⟨hXX, hBB, hml, hown, hts⟩ hN (kX3_begin l D cI cZ h g p aR aB aA aO dm aD aP 0 rm aS aW aU aL aE aQ rg bd ab ob S gx py) (cwV 2 hts gX3_lay_X3_begin rfl rfl rfl (by decide +kernel) ⟨Nat.le_of_ble_eq_true rfl, Nat.le_of_ble_eq_true rfl⟩) hK hP hD hS hAA [0, 1, 2, 3, 4, 5] [] [0, 1] rfl rfl rfl (by decide) (by decide) (by decide) rfl 3 rfl rfl rfl rfl hl.1 rfl (Nat.le_of_ble_eq_true rfl) dX3_lay_49 ⟨Nat.le_of_ble_eq_true rfl, Nat.le_of_ble_eq_true rfl⟩ (k := 0) (n := 0) rfl rfl (fun  u_ H locs hw hP hD hS => ?_)
            have hP : va_P D vwCl [(h, .inr (3, [.int (nI gx), .int (nI py), .ref aR, .ref aB, .ref aA, .ref aO, .int (nI 0), .ref aD, .ref aP, .int (nI 0), .int (nI rm), .ref aS, .ref aW, .ref aU, .ref aL, .ref aE, .ref aQ])), (aR, .inl (cI, 9, .inl (fun j => nI ((fun _ => 0) j)))), (aB, .inl (cI, 6, .inl (fun j => nI ((fun _ => 3) j)))), (aA, .inl (cZ, 81, .inl (fun j => bI ((fun _ => false) j)))), (aO, .inl (cZ, 81, .inl (fun j => bI ((fun _ => false) j)))), (aP, .inl (cI, 9, .inl (fun _ => -1)))] H := hP
            have hD : va_D AA [(h, .inr (3, [.int (nI gx), .int (nI py), .ref aR, .ref aB, .ref aA, .ref aO, .int (nI 0), .ref aD, .ref aP, .int (nI 0), .int (nI rm), .ref aS, .ref aW, .ref aU, .ref aL, .ref aE, .ref aQ])), (aR, .inl (cI, 9, .inl (fun j => nI ((fun _ => 0) j)))), (aB, .inl (cI, 6, .inl (fun j => nI ((fun _ => 3) j)))), (aA, .inl (cZ, 81, .inl (fun j => bI ((fun _ => false) j)))), (aO, .inl (cZ, 81, .inl (fun j => bI ((fun _ => false) j)))), (aP, .inl (cI, 9, .inl (fun _ => -1)))] := hD
            refine lv_aload_n hXX hBB dX3_lay_52 rfl (lv_at hl 0 rfl) ?_
            refine m_calli (wr := [(aR, .inl (cI, 9, .inl (fun j => nI ((fun _ => 0) j)))), (aB, .inl (cI, 6, .inl (fun j => nI ((fun _ => 3) j)))), (aA, .inl (cZ, 81, .inl (fun j => bI ((fun _ => false) j)))), (aO, .inl (cZ, 81, .inl (fun j => bI ((fun _ => false) j)))), (aP, .inl (cI, 9, .inl (fun _ => -1)))]) ⟨hXX, hBB, hml, hown, hts⟩ hN (kX3_teamMany l D h gx py aR aB aA aO 0 aD aP 0 rm aS aW aU aL aE aQ) (cwV 0 hts gX3_lay_X3_teamMany rfl rfl rfl (by decide +kernel) ⟨Nat.le_of_ble_eq_true rfl, Nat.le_of_ble_eq_true rfl⟩) hK hP hD hS hAA [0] [1, 2, 3, 4, 5] [] rfl rfl rfl (by decide) (by decide) (by decide) rfl 3 rfl rfl rfl rfl hl.1 rfl (Nat.le_of_ble_eq_true rfl) dX3_lay_53 ⟨Nat.le_of_ble_eq_true rfl, Nat.le_of_ble_eq_true rfl⟩ (k := 0) (n := 0) rfl rfl (fun r_4 u_ H locs hw hP hD hS => ?_)
            have hw : (r_4 = nI (gx * py)) := hw
            have hr_r_4 := hw
            have hP : va_P D vwCl [(aR, .inl (cI, 9, .inl (fun j => nI ((fun _ => 0) j)))), (aB, .inl (cI, 6, .inl (fun j => nI ((fun _ => 3) j)))), (aA, .inl (cZ, 81, .inl (fun j => bI ((fun _ => false) j)))), (aO, .inl (cZ, 81, .inl (fun j => bI ((fun _ => false) j)))), (aP, .inl (cI, 9, .inl (fun _ => -1))), (h, .inr (3, [.int (nI gx), .int (nI py), .ref aR, .ref aB, .ref aA, .ref aO, .int (nI 0), .ref aD, .ref aP, .int (nI 0), .int (nI rm), .ref aS, .ref aW, .ref aU, .ref aL, .ref aE, .ref aQ]))] H := hP
            have hD : va_D AA [(aR, .inl (cI, 9, .inl (fun j => nI ((fun _ => 0) j)))), (aB, .inl (cI, 6, .inl (fun j => nI ((fun _ => 3) j)))), (aA, .inl (cZ, 81, .inl (fun j => bI ((fun _ => false) j)))), (aO, .inl (cZ, 81, .inl (fun j => bI ((fun _ => false) j)))), (aP, .inl (cI, 9, .inl (fun _ => -1))), (h, .inr (3, [.int (nI gx), .int (nI py), .ref aR, .ref aB, .ref aA, .ref aO, .int (nI 0), .ref aD, .ref aP, .int (nI 0), .int (nI rm), .ref aS, .ref aW, .ref aU, .ref aL, .ref aE, .ref aQ]))] := hD
            subst hr_r_4
            refine hret (r := nI (gx * py)) (0, gx, py, 0, (fun _ => 0), (fun _ => 3), (fun _ => false), (fun _ => false), fun _ => -1) ?_ (rfl) (hP.sub [5, 0, 1, 2, 3, 4] rfl) (hD.sub [5, 0, 1, 2, 3, 4] (by decide) rfl) hS (Nat.le_of_ble_eq_true rfl) (Nat.le_of_ble_eq_true rfl) dX3_lay_56
            show (layPost x y 0 gx py 0 (fun _ => 0) (fun _ => 3) (fun _ => false) (fun _ => false) (fun _ => -1) (nI (gx * py)) g p dm rg bd ab ob S)
            exact layPost_ok (tLay_0 c_7 c_16 (by first | exact Or.inl c_21 | exact Or.inr c_26)) he_gx he_py
          · exact absurd (by decide) c_41
        · have c_26 := c_26
          refine lv_iconst (v := nI 1) hXX hBB dX3_lay_29 (by decide) ?_
          refine lv_goto (tgt := 34) hXX hBB dX3_lay_30 (by decide) ?_
          refine va_put (D := D) (ci := 3) (v := .int (nI 1)) (ty := .int) (C := RX3) (T := TX3) (N := 17) hXX hBB hts iw_X3 tyX3 tyX3_ok nmX3 hown hK hP hD hS 0 rfl rfl 9 (by decide) kw_1 (fun _ h9 => h9) rfl (by decide +kernel) (rfl) (rfl) (Nat.le_of_ble_eq_true rfl) dX3_lay_34 (fun H locs hP hD hS => ?_)
          have hP : va_P D vwCl [(h, .inr (3, [.int (nI g), .int (nI p), .ref aR, .ref aB, .ref aA, .ref aO, .int (nI dm), .ref aD, .ref aP, .int (nI 1), .int (nI rm), .ref aS, .ref aW, .ref aU, .ref aL, .ref aE, .ref aQ])), (aR, .inl (cI, 9, .inl (fun j => nI (rg j)))), (aB, .inl (cI, 6, .inl (fun j => nI (bd j)))), (aA, .inl (cZ, 81, .inl (fun j => bI (ab j)))), (aO, .inl (cZ, 81, .inl (fun j => bI (ob j)))), (aP, .inl (cI, 9, .inl S))] H := hP
          have hD : va_D AA [(h, .inr (3, [.int (nI g), .int (nI p), .ref aR, .ref aB, .ref aA, .ref aO, .int (nI dm), .ref aD, .ref aP, .int (nI 1), .int (nI rm), .ref aS, .ref aW, .ref aU, .ref aL, .ref aE, .ref aQ])), (aR, .inl (cI, 9, .inl (fun j => nI (rg j)))), (aB, .inl (cI, 6, .inl (fun j => nI (bd j)))), (aA, .inl (cZ, 81, .inl (fun j => bI (ab j)))), (aO, .inl (cZ, 81, .inl (fun j => bI (ob j)))), (aP, .inl (cI, 9, .inl S))] := hD
          refine lv_aload_n hXX hBB dX3_lay_37 rfl (lv_at hl 0 rfl) ?_
          refine va_get (D := D) (ci := 3) (v := .int (nI 1)) (C := RX3) (T := TX3) (N := 17) hXX hBB hts iw_X3 hown hK hP 0 rfl rfl 9 (by decide) kw_1 (fun _ h9 => h9) rfl dX3_lay_38 ?_
          refine lv_if_le (tgt := 46) hXX hBB dX3_lay_41 (by decide) (fun c_41 => ?_) (fun c_41 => ?_)
          · exact absurd c_41 (by decide)
          · have c_41 : 0 < 1 := m_pos_le_f (by omega) c_41
            
            refine lv_iconst (v := nI 0) hXX hBB dX3_lay_44 (by decide) ?_
            refine hret (r := nI 0) (1, g, p, dm, rg, bd, ab, ob, S) ?_ (rfl) (hP.sub [0, 1, 2, 3, 4, 5] rfl) (hD.sub [0, 1, 2, 3, 4, 5] (by decide) rfl) hS (Nat.le_of_ble_eq_true rfl) (Nat.le_of_ble_eq_true rfl) dX3_lay_45
            show (layPost x y 1 g p dm rg bd ab ob S (nI 0) g p dm rg bd ab ob S)
            exact layPost_no (by first | exact tLay_1 c_7 | exact tLay_2 c_16 | exact tLay_3 c_21 c_26)
