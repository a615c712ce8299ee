def loR (h : Nat → Nat) (n : Nat) : Int32 := if n = 0 then -1 else nI (mnR h n)
theorem nI_nm1 {a : Nat} (h : a < 2 ^ 31) : nI a ≠ -1 := by
  intro q
  have h1 := congrArg Int32.toInt q
  rw [nI_toInt h] at h1
  have h2 : (-1 : Int32).toInt = -1 := by decide
  omega
theorem loR_some {h : Nat → Nat} {i : Nat} (c : ¬ loR h i = -1) : i ≠ 0 ∧ loR h i = nI (mnR h i) := by
  by_cases q : i = 0
  · subst q; exact absurd rfl c
  · exact ⟨q, by simp [loR, q]⟩
theorem loR_first {h : Nat → Nat} {i : Nat} (c : loR h i = -1) (hb : mnR h i < 2 ^ 31 := by first | assumption | exact Nat.lt_of_lt_of_le (mnR_lt (b := 4) (by decide) (fun j _ => gr_lt _ _)) (by decide)) : nI (h i) = loR h (i + 1) := by
  by_cases q : i = 0
  · subst q; simp [loR, mnR]
  · simp only [loR, if_neg q] at c
    exact absurd c (nI_nm1 hb)
theorem loR_keep {h : Nat → Nat} {i : Nat} {x : Int32} (hb : ∀ j, h j < 4) (hi : i ≠ 0) (hx : x = loR h i) (c : nI (mnR h i) ≤ nI (h i)) : x = loR h (i + 1) := by
  have h1 : mnR h i < 4 := mnR_lt (by decide) (fun j _ => hb j)
  have h2 := hb i
  have c1 := (nI_leI (by omega) (by omega)).mp c
  rw [hx]
  simp only [loR, mnR, if_neg hi, if_neg (Nat.succ_ne_zero i)]
  rw [Nat.min_eq_left c1]
theorem loR_new {h : Nat → Nat} {i : Nat} (hb : ∀ j, h j < 4) (hi : i ≠ 0) (c : ¬ nI (mnR h i) ≤ nI (h i)) : nI (h i) = loR h (i + 1) := by
  have h1 : mnR h i < 4 := mnR_lt (by decide) (fun j _ => hb j)
  have h2 := hb i
  have c1 : ¬ mnR h i ≤ h i := fun q => c ((nI_leI (by omega) (by omega)).mpr q)
  simp only [loR, mnR, if_neg hi, if_neg (Nat.succ_ne_zero i)]
  rw [Nat.min_eq_right (by omega)]
def wIf (P : Nat → Bool) (w : Nat → Nat) : Nat → Nat := fun c => if P c then w c else 0
abbrev rmX1_groupIn : Room := { frames := 0, cells := 0, slots := 0, locals := 0 }
set_option maxHeartbeats 4000000 in
set_option maxRecDepth 100000 in
theorem kX1_groupIn (l : Launch) (D : va_G) (x : Nat) (t : Nat) (hx1 : x < 2 ^ 31) (ht1 : t < 16) : Ci l yX1_groupIn wsX1_groupIn rmX1_groupIn D [] [.int (nI x), .int (nI t)] [] (fun (r : Int32) (_ : Unit) => r = nI (gr x t)) (fun (_ : Unit) => []) := by
  refine Ci_of (cc := cX1_groupIn) (maxL := 2) (by decide) rfl (Nat.le_of_ble_eq_true rfl) ?_
  intro pR eV sT mI args below meth cO AA QQ ls hXX hBB hml hown hts hnm hN hK hP hD hS hAA hl hret
  have hl : lv_has ls 2 [(0, .int (nI x)), (1, .int (nI t))] := hl
  refine lv_iload_n hXX hBB dX1_groupIn_0 rfl (lv_at hl 0 rfl) ?_
  refine lv_iconst (v := nI 2) hXX hBB dX1_groupIn_1 (by decide) ?_
  refine lv_iload_n hXX hBB dX1_groupIn_2 rfl (lv_at hl 1 rfl) ?_
  refine lv_imul hXX hBB dX1_groupIn_3 ?_
  refine m_top (y := nI (2 * t)) (by exact pk_mul _ _) ?_
  refine lv_ishr hXX hBB dX1_groupIn_4 ?_
  refine m_top (y := nI (x / 4 ^ t)) (by exact m_shr4 hx1 ht1) ?_
  refine lv_iconst (v := nI 3) hXX hBB dX1_groupIn_5 (by decide) ?_
  refine lv_iand hXX hBB dX1_groupIn_6 ?_
  refine m_top (y := nI (gr x t)) (by exact m_and3 _) ?_
  refine hret (r := nI (gr x t)) () ?_ (rfl) (hP.sub [] rfl) (hD.sub [] (by decide) rfl) hS (Nat.le_of_ble_eq_true rfl) (Nat.le_of_ble_eq_true rfl) dX1_groupIn_7
  show nI (gr x t) = nI (gr x t)
  rfl
abbrev rmX1_with : Room := { frames := 0, cells := 0, slots := 0, locals := 0 }
set_option maxHeartbeats 4000000 in
set_option maxRecDepth 100000 in
theorem kX1_with (l : Launch) (D : va_G) (x : Nat) (t : Nat) (g : Nat) (hx1 : x < 4 ^ t) (ht1 : t < 9) (hg1 : g < 4) : Ci l yX1_with wsX1_with rmX1_with D [] [.int (nI x), .int (nI t), .int (nI g)] [] (fun (r : Int32) (_ : Unit) => r = nI (x + g * 4 ^ t)) (fun (_ : Unit) => []) := by
  refine Ci_of (cc := cX1_with) (maxL := 3) (by decide) rfl (Nat.le_of_ble_eq_true rfl) ?_
  intro pR eV sT mI args below meth cO AA QQ ls hXX hBB hml hown hts hnm hN hK hP hD hS hAA hl hret
  have hl : lv_has ls 3 [(0, .int (nI x)), (1, .int (nI t)), (2, .int (nI g))] := hl
  refine lv_iload_n hXX hBB dX1_with_0 rfl (lv_at hl 0 rfl) ?_
  refine lv_iload_n hXX hBB dX1_with_1 rfl (lv_at hl 2 rfl) ?_
  refine lv_iconst (v := nI 2) hXX hBB dX1_with_2 (by decide) ?_
  refine lv_iload_n hXX hBB dX1_with_3 rfl (lv_at hl 1 rfl) ?_
  refine lv_imul hXX hBB dX1_with_4 ?_
  refine m_top (y := nI (2 * t)) (by exact pk_mul _ _) ?_
  refine lv_ishl hXX hBB dX1_with_5 ?_
  refine m_top (y := nI (g * 4 ^ t)) (by exact m_sh4 hg1 ht1) ?_
  refine lv_ior hXX hBB dX1_with_6 ?_
  refine m_top (y := nI (x + g * 4 ^ t)) (by exact m_oradd hx1) ?_
  refine hret (r := nI (x + g * 4 ^ t)) () ?_ (rfl) (hP.sub [] rfl) (hD.sub [] (by decide) rfl) hS (Nat.le_of_ble_eq_true rfl) (Nat.le_of_ble_eq_true rfl) dX1_with_7
  show nI (x + g * 4 ^ t) = nI (x + g * 4 ^ t)
  rfl
abbrev rmX1_clear : Room := { frames := 0, cells := 0, slots := 0, locals := 0 }
set_option maxHeartbeats 4000000 in
set_option maxRecDepth 100000 in
theorem kX1_clear (l : Launch) (D : va_G) (h : Nat) (a : Nat) (n : Nat) : Cv l yX1_clear wsX1_clear rmX1_clear D [] [.ref h] [(h, .inr (1, [.ref a, .int (nI n)]))] (fun (_ : Unit) => True) (fun (_ : Unit) => [(h, .inr (1, [.ref a, .int (nI 0)]))]) := by
  refine Cv_of (cc := cX1_clear) (maxL := 1) (by decide) rfl (Nat.le_of_ble_eq_true rfl) ?_
  intro pR eV sT mI args below meth cO AA QQ ls hXX hBB hml hown hts hnm hN hK hP hD hS hAA hl hret
  have hl : lv_has ls 1 [(0, .ref h)] := hl
  have kw_1 := hts (.fieldLink RX1 15 "CupDraw$ResultList" "size" "I") (List.mem_of_getElem? (i := 1) rfl)
  have iw_X1 : ∀ w ∈ wsX10, w ∈ wsX1_clear := by decide +kernel
  refine lv_aload_n hXX hBB dX1_clear_0 rfl (lv_at hl 0 rfl) ?_
  refine lv_iconst (v := nI 0) hXX hBB dX1_clear_1 (by decide) ?_
  refine va_put (D := D) (ci := 1) (v := .int (nI 0)) (ty := .int) (C := RX1) (T := TX1) (N := 2) hXX hBB hts iw_X1 tyX1 tyX1_ok nmX1 hown hK hP hD hS 0 rfl rfl 1 (by decide) kw_1 (fun _ h9 => h9) rfl (by decide +kernel) (rfl) (rfl) (Nat.le_of_ble_eq_true rfl) dX1_clear_2 (fun H locs hP hD hS => ?_)
  have hP : va_P D vwCl [(h, .inr (1, [.ref a, .int (nI 0)]))] H := hP
  have hD : va_D AA [(h, .inr (1, [.ref a, .int (nI 0)]))] := hD
  refine hret () ?_ (hP.sub [0] rfl) (hD.sub [0] (by decide) rfl) hS (Nat.le_of_ble_eq_true rfl) (Nat.le_of_ble_eq_true rfl) dX1_clear_5
  trivial
abbrev rmX1_widen : Room := { frames := 0, cells := 0, slots := 0, locals := 0 }
set_option maxHeartbeats 4000000 in
set_option maxRecDepth 100000 in
theorem kX1_widen (l : Launch) (D : va_G) (h : Nat) (a : Nat) (n : Nat) (k : Nat) : Cv l yX1_widen wsX1_widen rmX1_widen D [] [.ref h, .int (nI k)] [(h, .inr (1, [.ref a, .int (nI n)]))] (fun (_ : Unit) => True) (fun (_ : Unit) => [(h, .inr (1, [.ref a, .int (nI k)]))]) := by
  refine Cv_of (cc := cX1_widen) (maxL := 2) (by decide) rfl (Nat.le_of_ble_eq_true rfl) ?_
  intro pR eV sT mI args below meth cO AA QQ ls hXX hBB hml hown hts hnm hN hK hP hD hS hAA hl hret
  have hl : lv_has ls 2 [(0, .ref h), (1, .int (nI k))] := hl
  have kw_1 := hts (.fieldLink RX1 15 "CupDraw$ResultList" "size" "I") (List.mem_of_getElem? (i := 1) rfl)
  have iw_X1 : ∀ w ∈ wsX10, w ∈ wsX1_widen := by decide +kernel
  refine lv_aload_n hXX hBB dX1_widen_0 rfl (lv_at hl 0 rfl) ?_
  refine lv_iload_n hXX hBB dX1_widen_1 rfl (lv_at hl 1 rfl) ?_
  refine va_put (D := D) (ci := 1) (v := .int (nI k)) (ty := .int) (C := RX1) (T := TX1) (N := 2) hXX hBB hts iw_X1 tyX1 tyX1_ok nmX1 hown hK hP hD hS 0 rfl rfl 1 (by decide) kw_1 (fun _ h9 => h9) rfl (by decide +kernel) (rfl) (rfl) (Nat.le_of_ble_eq_true rfl) dX1_widen_2 (fun H locs hP hD hS => ?_)
  have hP : va_P D vwCl [(h, .inr (1, [.ref a, .int (nI k)]))] H := hP
  have hD : va_D AA [(h, .inr (1, [.ref a, .int (nI k)]))] := hD
  refine hret () ?_ (hP.sub [0] rfl) (hD.sub [0] (by decide) rfl) hS (Nat.le_of_ble_eq_true rfl) (Nat.le_of_ble_eq_true rfl) dX1_widen_5
  trivial
abbrev rmX1_add : Room := { frames := 0, cells := 0, slots := 0, locals := 0 }
set_option maxHeartbeats 4000000 in
set_option maxRecDepth 100000 in
theorem kX1_add (l : Launch) (D : va_G) (cI : ClassId) (h : Nat) (a : Nat) (f : Nat → Nat) (n : Nat) (x : Nat) (hn : n < 576) : Cv l yX1_add wsX1_add rmX1_add D [(cI, .int)] [.ref h, .int (nI x)] [(h, .inr (1, [.ref a, .int (nI n)])), (a, .inl (cI, 576, .inl (fun j => nI (f j))))] (fun (_ : Unit) => True) (fun (_ : Unit) => [(h, .inr (1, [.ref a, .int (nI (n + 1))])), (a, .inl (cI, 576, .inl (fun j => nI (updN f n x j))))]) := by
  refine Cv_of (cc := cX1_add) (maxL := 2) (by decide) rfl (Nat.le_of_ble_eq_true rfl) ?_
  intro pR eV sT mI args below meth cO AA QQ ls hXX hBB hml hown hts hnm hN hK hP hD hS hAA hl hret
  have hl : lv_has ls 2 [(0, .ref h), (1, .int (nI x))] := hl
  have kw_1 := hts (.fieldLink RX1 15 "CupDraw$ResultList" "size" "I") (List.mem_of_getElem? (i := 1) rfl)
  have iw_X1 : ∀ w ∈ wsX10, w ∈ wsX1_add := by decide +kernel
  have kw_2 := hts (.fieldLink RX1 9 "CupDraw$ResultList" "items" "[I") (List.mem_of_getElem? (i := 2) rfl)
  refine lv_aload_n hXX hBB dX1_add_0 rfl (lv_at hl 0 rfl) ?_
  refine va_get (D := D) (ci := 1) (v := .int (nI n)) (C := RX1) (T := TX1) (N := 2) hXX hBB hts iw_X1 hown hK hP 0 rfl rfl 1 (by decide) kw_1 (fun _ h9 => h9) rfl dX1_add_1 ?_
  refine lv_aload_n hXX hBB dX1_add_4 rfl (lv_at hl 0 rfl) ?_
  refine va_get (D := D) (ci := 1) (v := .ref a) (C := RX1) (T := TX1) (N := 2) hXX hBB hts iw_X1 hown hK hP 0 rfl rfl 0 (by decide) kw_2 (fun _ h9 => h9) rfl dX1_add_5 ?_
  refine va_alen hXX hBB hK hP 1 0 rfl rfl (v := nI 576) rfl dX1_add_8 ?_
  refine lv_icmp_ge (tgt := 32) hXX hBB dX1_add_9 (by decide) (fun c_9 => ?_) (fun c_9 => ?_)
  · have c_9 : 576 ≤ n := (nI_leI (by omega) (by omega)).mp c_9
    exact absurd hn (by omega)
  · have c_9 : ¬ 576 ≤ n := fun h9 => c_9 ((nI_leI (by omega) (by omega)).mpr h9)
    refine lv_aload_n hXX hBB dX1_add_12 rfl (lv_at hl 0 rfl) ?_
    refine va_get (D := D) (ci := 1) (v := .ref a) (C := RX1) (T := TX1) (N := 2) hXX hBB hts iw_X1 hown hK hP 0 rfl rfl 0 (by decide) kw_2 (fun _ h9 => h9) rfl dX1_add_13 ?_
    refine lv_aload_n hXX hBB dX1_add_16 rfl (lv_at hl 0 rfl) ?_
    refine va_get (D := D) (ci := 1) (v := .int (nI n)) (C := RX1) (T := TX1) (N := 2) hXX hBB hts iw_X1 hown hK hP 0 rfl rfl 1 (by decide) kw_1 (fun _ h9 => h9) rfl dX1_add_17 ?_
    refine lv_iload_n hXX hBB dX1_add_20 rfl (lv_at hl 1 rfl) ?_
    refine m_iast hXX hBB hK hP hD hS 1 0 rfl rfl (i := n) (by omega) (by decide) (g := fun j => nI (updN f n x j)) (m_upd _ _ _) dX1_add_21 (fun H locs hP hD hS => ?_)
    have hP : va_P D vwCl [(h, .inr (1, [.ref a, .int (nI n)])), (a, .inl (cI, 576, .inl (fun j => nI (updN f n x j))))] H := hP
    have hD : va_D AA [(h, .inr (1, [.ref a, .int (nI n)])), (a, .inl (cI, 576, .inl (fun j => nI (updN f n x j))))] := hD
    refine lv_aload_n hXX hBB dX1_add_22 rfl (lv_at hl 0 rfl) ?_
    refine lv_dup hXX hBB dX1_add_23 rfl ?_
    refine va_get (D := D) (ci := 1) (v := .int (nI n)) (C := RX1) (T := TX1) (N := 2) hXX hBB hts iw_X1 hown hK hP 0 rfl rfl 1 (by decide) kw_1 (fun _ h9 => h9) rfl dX1_add_24 ?_
    refine lv_iconst (v := nI 1) hXX hBB dX1_add_27 (by decide) ?_
    refine lv_iadd hXX hBB dX1_add_28 ?_
    refine m_top (y := nI (n + 1)) (nI_add _ _) ?_
    refine va_put (D := D) (ci := 1) (v := .int (nI (n + 1))) (ty := .int) (C := RX1) (T := TX1) (N := 2) hXX hBB hts iw_X1 tyX1 tyX1_ok nmX1 hown hK hP hD hS 0 rfl rfl 1 (by decide) kw_1 (fun _ h9 => h9) rfl (by decide +kernel) (rfl) (rfl) (Nat.le_of_ble_eq_true rfl) dX1_add_29 (fun H locs hP hD hS => ?_)
    have hP : va_P D vwCl [(h, .inr (1, [.ref a, .int (nI (n + 1))])), (a, .inl (cI, 576, .inl (fun j => nI (updN f n x j))))] H := hP
    have hD : va_D AA [(h, .inr (1, [.ref a, .int (nI (n + 1))])), (a, .inl (cI, 576, .inl (fun j => nI (updN f n x j))))] := hD
    refine hret () ?_ (hP.sub [0, 1] rfl) (hD.sub [0, 1] (by decide) rfl) hS (Nat.le_of_ble_eq_true rfl) (Nat.le_of_ble_eq_true rfl) dX1_add_32
    trivial
abbrev rmX1_first : Room := { frames := 0, cells := 0, slots := 0, locals := 0 }
set_option maxHeartbeats 4000000 in
set_option maxRecDepth 100000 in
theorem kX1_first (l : Launch) (D : va_G) (cI : ClassId) (h : Nat) (a : Nat) (f : Nat → Nat) (n : Nat) : Ci l yX1_first wsX1_first rmX1_first D [(cI, .int)] [.ref h] [(h, .inr (1, [.ref a, .int (nI n)])), (a, .inl (cI, 576, .inl (fun j => nI (f j))))] (fun (r : Int32) (_ : Unit) => r = nI (f 0)) (fun (_ : Unit) => [(h, .inr (1, [.ref a, .int (nI n)])), (a, .inl (cI, 576, .inl (fun j => nI (f j))))]) := by
  refine Ci_of (cc := cX1_first) (maxL := 1) (by decide) rfl (Nat.le_of_ble_eq_true rfl) ?_
  intro pR eV sT mI args below meth cO AA QQ ls hXX hBB hml hown hts hnm hN hK hP hD hS hAA hl hret
  have hl : lv_has ls 1 [(0, .ref h)] := hl
  have kw_1 := hts (.fieldLink RX1 9 "CupDraw$ResultList" "items" "[I") (List.mem_of_getElem? (i := 1) rfl)
  have iw_X1 : ∀ w ∈ wsX10, w ∈ wsX1_first := by decide +kernel
  refine lv_aload_n hXX hBB dX1_first_0 rfl (lv_at hl 0 rfl) ?_
  refine va_get (D := D) (ci := 1) (v := .ref a) (C := RX1) (T := TX1) (N := 2) hXX hBB hts iw_X1 hown hK hP 0 rfl rfl 0 (by decide) kw_1 (fun _ h9 => h9) rfl dX1_first_1 ?_
  refine lv_iconst (v := nI 0) hXX hBB dX1_first_4 (by decide) ?_
  refine m_iald hXX hBB hK hP 1 0 rfl rfl (i := 0) (by omega) (by decide) (x := nI (f 0)) rfl dX1_first_5 ?_
  refine hret (r := nI (f 0)) () ?_ (rfl) (hP.sub [0, 1] rfl) (hD.sub [0, 1] (by decide) rfl) hS (Nat.le_of_ble_eq_true rfl) (Nat.le_of_ble_eq_true rfl) dX1_first_6
  show nI (f 0) = nI (f 0)
  rfl
abbrev rmX1_countInGroup : Room := { frames := 1, cells := 0, slots := 0, locals := 21 }
set_option maxHeartbeats 4000000 in
set_option maxRecDepth 100000 in
theorem kX1_countInGroup (l : Launch) (D : va_G) (cI : ClassId) (h : Nat) (a : Nat) (f : Nat → Nat) (n : Nat) (t : Nat) (g : Nat) (hn : n ≤ 576) (hf : ∀ z, z < n → f z < 2 ^ 31) (ht : t < 16) (hg : g < 2 ^ 31) : Ci l yX1_countInGroup wsX1_countInGroup rmX1_countInGroup D [(cI, .int)] [.ref h, .int (nI t), .int (nI g)] [(h, .inr (1, [.ref a, .int (nI n)])), (a, .inl (cI, 576, .inl (fun j => nI (f j))))] (fun (r : Int32) (_ : Unit) => r = nI (ct (fun z => decide (gr (f z) t = g)) n)) (fun (_ : Unit) => [(h, .inr (1, [.ref a, .int (nI n)])), (a, .inl (cI, 576, .inl (fun j => nI (f j))))]) := by
  refine Ci_of (cc := cX1_countInGroup) (maxL := 5) (by decide) rfl (Nat.le_of_ble_eq_true rfl) ?_
  intro pR eV sT mI args below meth cO AA QQ ls hXX hBB hml hown hts hnm hN hK hP hD hS hAA hl hret
  have hl : lv_has ls 5 [(0, .ref h), (1, .int (nI t)), (2, .int (nI g))] := hl
  have kw_1 := hts (.fieldLink RX1 15 "CupDraw$ResultList" "size" "I") (List.mem_of_getElem? (i := 1) rfl)
  have iw_X1 : ∀ w ∈ wsX10, w ∈ wsX1_countInGroup := by decide +kernel
  have kw_2 := hts (.fieldLink RX1 9 "CupDraw$ResultList" "items" "[I") (List.mem_of_getElem? (i := 2) rfl)
  refine lv_iconst (v := nI 0) hXX hBB dX1_countInGroup_0 (by decide) ?_
  refine lv_istore_n (lv' := [(3, .int (nI 0)), (0, .ref h), (1, .int (nI t)), (2, .int (nI g))]) hXX hBB dX1_countInGroup_1 rfl hl (by decide) rfl (fun ls hl => ?_)
  refine lv_iconst (v := nI 0) hXX hBB dX1_countInGroup_2 (by decide) ?_
  refine lv_istore (lv' := [(4, .int (nI 0)), (3, .int (nI 0)), (0, .ref h), (1, .int (nI t)), (2, .int (nI g))]) hXX hBB dX1_countInGroup_3 hl (by decide) rfl (fun ls hl => ?_)
  have L_5 : ∀ (N_5 : Nat) (i : Nat) (acc : Nat), (i ≤ n) → (acc = ct (fun z => decide (gr (f z) t = g)) i) → n - i < N_5 → ∀ (H : Heap) (locs : List Loc), va_P D vwCl [(h, .inr (1, [.ref a, .int (nI n)])), (a, .inl (cI, 576, .inl (fun j => nI (f j))))] H → va_D AA [(h, .inr (1, [.ref a, .int (nI n)])), (a, .inl (cI, 576, .inl (fun j => nI (f j))))] → va_S AA sT.heap H locs → ∀ (ls : Array Slot), lv_has ls 5 [(4, .int (nI i)), (3, .int (nI acc)), (0, .ref h), (1, .int (nI t)), (2, .int (nI g))] → W pR l eV rmX1_countInGroup sT mI args below meth cO H locs 0 0 QQ (F0 mI 5 ls []) := by
    intro N_5
    induction N_5 with
    | zero =>
      intro i acc hi hacc hMM
      exact absurd hMM (Nat.not_lt_zero _)
    | succ N_5 ih_5 =>
      intro i acc hi hacc hMM H locs hP hD hS ls hl
      refine lv_iload hXX hBB dX1_countInGroup_5 (lv_at hl 0 rfl) ?_
      refine lv_aload_n hXX hBB dX1_countInGroup_7 rfl (lv_at hl 2 rfl) ?_
      refine va_get (D := D) (ci := 1) (v := .int (nI n)) (C := RX1) (T := TX1) (N := 2) hXX hBB hts iw_X1 hown hK hP 0 rfl rfl 1 (by decide) kw_1 (fun _ h9 => h9) rfl dX1_countInGroup_8 ?_
      refine lv_icmp_ge (tgt := 38) hXX hBB dX1_countInGroup_11 (by decide) (fun c_11 => ?_) (fun c_11 => ?_)
      · have c_11 : n ≤ i := (nI_leI (by omega) (by omega)).mp c_11
        have hE : i = n := by omega
        refine lv_iload_n hXX hBB dX1_countInGroup_38 rfl (lv_at hl 1 rfl) ?_
        refine hret (r := nI acc) () ?_ (rfl) (hP.sub [0, 1] rfl) (hD.sub [0, 1] (by decide) rfl) hS (Nat.le_of_ble_eq_true rfl) (Nat.le_of_ble_eq_true rfl) dX1_countInGroup_39
        show nI acc = nI (ct (fun z => decide (gr (f z) t = g)) n)
        rw [hacc, hE]
      · have c_11 : ¬ n ≤ i := fun h9 => c_11 ((nI_leI (by omega) (by omega)).mpr h9)
        have hlt : i < n := by omega
        refine lv_aload_n hXX hBB dX1_countInGroup_14 rfl (lv_at hl 2 rfl) ?_
        refine va_get (D := D) (ci := 1) (v := .ref a) (C := RX1) (T := TX1) (N := 2) hXX hBB hts iw_X1 hown hK hP 0 rfl rfl 0 (by decide) kw_2 (fun _ h9 => h9) rfl dX1_countInGroup_15 ?_
        refine lv_iload hXX hBB dX1_countInGroup_18 (lv_at hl 0 rfl) ?_
        refine m_iald hXX hBB hK hP 1 0 rfl rfl (i := i) (by omega) (by decide) (x := nI (f i)) rfl dX1_countInGroup_20 ?_
        refine lv_iload_n hXX hBB dX1_countInGroup_21 rfl (lv_at hl 3 rfl) ?_
        refine m_scalli (wr := [(h, .inr (1, [.ref a, .int (nI n)])), (a, .inl (cI, 576, .inl (fun j => nI (f j))))]) ⟨hXX, hBB, hml, hown, hts⟩ hN (kX1_groupIn l D (f i) t (by exact hf _ (by omega)) (by omega)) (va_cwS 2 hts gX1_countInGroup_X1_groupIn rfl rfl rfl (by decide +kernel) ⟨Nat.le_of_ble_eq_true rfl, Nat.le_of_ble_eq_true rfl⟩) hK hP hD hS hAA [] [0, 1] [] rfl rfl rfl (by decide) (by decide) (by decide) rfl hl.1 rfl (Nat.le_of_ble_eq_true rfl) dX1_countInGroup_22 ⟨Nat.le_of_ble_eq_true rfl, Nat.le_of_ble_eq_true rfl⟩ (k := 0) (n := 0) rfl rfl (fun r_1 u_ H locs hw hP hD hS => ?_)
        have hw : (r_1 = nI (gr (f i) t)) := hw
        have hr_r_1 := hw
        have hP : va_P D vwCl [(h, .inr (1, [.ref a, .int (nI n)])), (a, .inl (cI, 576, .inl (fun j => nI (f j))))] H := hP
        have hD : va_D AA [(h, .inr (1, [.ref a, .int (nI n)])), (a, .inl (cI, 576, .inl (fun j => nI (f j))))] := hD
        subst hr_r_1
        have hB4 := gr_lt (f i) t
        refine lv_iload_n hXX hBB dX1_countInGroup_25 rfl (lv_at hl 4 rfl) ?_
        refine lv_icmp_ne (tgt := 32) hXX hBB dX1_countInGroup_26 (by decide) (fun c_26 => ?_) (fun c_26 => ?_)
        · have c_26 : ¬ (gr (f i) t) = g := fun h9 => c_26 ((nI_eq (by omega) (by omega)).mpr h9)
          refine lv_iinc (v := nI (i + 1)) (lv' := [(4, .int (nI (i + 1))), (3, .int (nI acc)), (0, .ref h), (1, .int (nI t)), (2, .int (nI g))]) hXX hBB dX1_countInGroup_32 hl (k := 0) rfl (nI_1 _) (by decide) rfl (fun ls hl => ?_)
          refine lv_goto (tgt := 5) hXX hBB dX1_countInGroup_35 (by decide) ?_
          have hi_i : (i + 1) ≤ n := by omega
          have hi_acc : acc = ct (fun z => decide (gr (f z) t = g)) (i + 1) := by first | (rw [ct_t (by simp [c_26])]; omega) | (rw [ct_f (by simp [c_26])]; omega)
          have hmm : n - (i + 1) < N_5 := by omega
          exact ih_5 (i + 1) acc hi_i hi_acc hmm _ _ (hP.sub [0, 1] rfl) (hD.sub [0, 1] (by decide) rfl) hS ls (lv_sub hl [0, 1, 2, 3, 4] rfl)
        · have c_26 : (gr (f i) t) = g := (nI_eq (by omega) (by omega)).mp c_26
          refine lv_iinc (v := nI (acc + 1)) (lv' := [(3, .int (nI (acc + 1))), (4, .int (nI i)), (0, .ref h), (1, .int (nI t)), (2, .int (nI g))]) hXX hBB dX1_countInGroup_29 hl (k := 1) rfl (nI_1 _) (by decide) rfl (fun ls hl => ?_)
          refine lv_iinc (v := nI (i + 1)) (lv' := [(4, .int (nI (i + 1))), (3, .int (nI (acc + 1))), (0, .ref h), (1, .int (nI t)), (2, .int (nI g))]) hXX hBB dX1_countInGroup_32 hl (k := 1) rfl (nI_1 _) (by decide) rfl (fun ls hl => ?_)
          refine lv_goto (tgt := 5) hXX hBB dX1_countInGroup_35 (by decide) ?_
          have hi_i : (i + 1) ≤ n := by omega
          have hi_acc : (acc + 1) = ct (fun z => decide (gr (f z) t = g)) (i + 1) := by first | (rw [ct_t (by simp [c_26])]; omega) | (rw [ct_f (by simp [c_26])]; omega)
          have hmm : n - (i + 1) < N_5 := by omega
          exact ih_5 (i + 1) (acc + 1) hi_i hi_acc hmm _ _ (hP.sub [0, 1] rfl) (hD.sub [0, 1] (by decide) rfl) hS ls (lv_sub hl [0, 1, 2, 3, 4] rfl)
  have hi_i : 0 ≤ n := by exact Nat.zero_le _
  have hi_acc : 0 = ct (fun z => decide (gr (f z) t = g)) 0 := by rfl
  exact L_5 _ 0 0 hi_i hi_acc (Nat.lt_succ_self _) _ _ hP hD hS ls (lv_sub hl [0, 1, 2, 3, 4] rfl)
abbrev rmX1_countTogether : Room := { frames := 1, cells := 0, slots := 0, locals := 21 }
set_option maxHeartbeats 4000000 in
set_option maxRecDepth 100000 in
theorem kX1_countTogether (l : Launch) (D : va_G) (cI : ClassId) (h : Nat) (a : Nat) (f : Nat → Nat) (n : Nat) (t : Nat) (o : Nat) (hn : n ≤ 576) (hf : ∀ z, z < n → f z < 2 ^ 31) (ht : t < 16) (ho : o < 16) : Ci l yX1_countTogether wsX1_countTogether rmX1_countTogether D [(cI, .int)] [.ref h, .int (nI t), .int (nI o)] [(h, .inr (1, [.ref a, .int (nI n)])), (a, .inl (cI, 576, .inl (fun j => nI (f j))))] (fun (r : Int32) (_ : Unit) => r = nI (ct (fun z => decide (gr (f z) t = gr (f z) o)) n)) (fun (_ : Unit) => [(h, .inr (1, [.ref a, .int (nI n)])), (a, .inl (cI, 576, .inl (fun j => nI (f j))))]) := by
  refine Ci_of (cc := cX1_countTogether) (maxL := 5) (by decide) rfl (Nat.le_of_ble_eq_true rfl) ?_
  intro pR eV sT mI args below meth cO AA QQ ls hXX hBB hml hown hts hnm hN hK hP hD hS hAA hl hret
  have hl : lv_has ls 5 [(0, .ref h), (1, .int (nI t)), (2, .int (nI o))] := hl
  have kw_1 := hts (.fieldLink RX1 15 "CupDraw$ResultList" "size" "I") (List.mem_of_getElem? (i := 1) rfl)
  have iw_X1 : ∀ w ∈ wsX10, w ∈ wsX1_countTogether := by decide +kernel
  have kw_2 := hts (.fieldLink RX1 9 "CupDraw$ResultList" "items" "[I") (List.mem_of_getElem? (i := 2) rfl)
  refine lv_iconst (v := nI 0) hXX hBB dX1_countTogether_0 (by decide) ?_
  refine lv_istore_n (lv' := [(3, .int (nI 0)), (0, .ref h), (1, .int (nI t)), (2, .int (nI o))]) hXX hBB dX1_countTogether_1 rfl hl (by decide) rfl (fun ls hl => ?_)
  refine lv_iconst (v := nI 0) hXX hBB dX1_countTogether_2 (by decide) ?_
  refine lv_istore (lv' := [(4, .int (nI 0)), (3, .int (nI 0)), (0, .ref h), (1, .int (nI t)), (2, .int (nI o))]) hXX hBB dX1_countTogether_3 hl (by decide) rfl (fun ls hl => ?_)
  have L_5 : ∀ (N_5 : Nat) (i : Nat) (acc : Nat), (i ≤ n) → (acc = ct (fun z => decide (gr (f z) t = gr (f z) o)) i) → n - i < N_5 → ∀ (H : Heap) (locs : List Loc), va_P D vwCl [(h, .inr (1, [.ref a, .int (nI n)])), (a, .inl (cI, 576, .inl (fun j => nI (f j))))] H → va_D AA [(h, .inr (1, [.ref a, .int (nI n)])), (a, .inl (cI, 576, .inl (fun j => nI (f j))))] → va_S AA sT.heap H locs → ∀ (ls : Array Slot), lv_has ls 5 [(4, .int (nI i)), (3, .int (nI acc)), (0, .ref h), (1, .int (nI t)), (2, .int (nI o))] → W pR l eV rmX1_countTogether sT mI args below meth cO H locs 0 0 QQ (F0 mI 5 ls []) := by
    intro N_5
    induction N_5 with
    | zero =>
      intro i acc hi hacc hMM
      exact absurd hMM (Nat.not_lt_zero _)
    | succ N_5 ih_5 =>
      intro i acc hi hacc hMM H locs hP hD hS ls hl
      refine lv_iload hXX hBB dX1_countTogether_5 (lv_at hl 0 rfl) ?_
      refine lv_aload_n hXX hBB dX1_countTogether_7 rfl (lv_at hl 2 rfl) ?_
      refine va_get (D := D) (ci := 1) (v := .int (nI n)) (C := RX1) (T := TX1) (N := 2) hXX hBB hts iw_X1 hown hK hP 0 rfl rfl 1 (by decide) kw_1 (fun _ h9 => h9) rfl dX1_countTogether_8 ?_
      refine lv_icmp_ge (tgt := 48) hXX hBB dX1_countTogether_11 (by decide) (fun c_11 => ?_) (fun c_11 => ?_)
      · have c_11 : n ≤ i := (nI_leI (by omega) (by omega)).mp c_11
        have hE : i = n := by omega
        refine lv_iload_n hXX hBB dX1_countTogether_48 rfl (lv_at hl 1 rfl) ?_
        refine hret (r := nI acc) () ?_ (rfl) (hP.sub [0, 1] rfl) (hD.sub [0, 1] (by decide) rfl) hS (Nat.le_of_ble_eq_true rfl) (Nat.le_of_ble_eq_true rfl) dX1_countTogether_49
        show nI acc = nI (ct (fun z => decide (gr (f z) t = gr (f z) o)) n)
        rw [hacc, hE]
      · have c_11 : ¬ n ≤ i := fun h9 => c_11 ((nI_leI (by omega) (by omega)).mpr h9)
        have hlt : i < n := by omega
        refine lv_aload_n hXX hBB dX1_countTogether_14 rfl (lv_at hl 2 rfl) ?_
        refine va_get (D := D) (ci := 1) (v := .ref a) (C := RX1) (T := TX1) (N := 2) hXX hBB hts iw_X1 hown hK hP 0 rfl rfl 0 (by decide) kw_2 (fun _ h9 => h9) rfl dX1_countTogether_15 ?_
        refine lv_iload hXX hBB dX1_countTogether_18 (lv_at hl 0 rfl) ?_
        refine m_iald hXX hBB hK hP 1 0 rfl rfl (i := i) (by omega) (by decide) (x := nI (f i)) rfl dX1_countTogether_20 ?_
        refine lv_iload_n hXX hBB dX1_countTogether_21 rfl (lv_at hl 3 rfl) ?_
        refine m_scalli (wr := [(h, .inr (1, [.ref a, .int (nI n)])), (a, .inl (cI, 576, .inl (fun j => nI (f j))))]) ⟨hXX, hBB, hml, hown, hts⟩ hN (kX1_groupIn l D (f i) t (by exact hf _ (by omega)) (by omega)) (va_cwS 2 hts gX1_countTogether_X1_groupIn rfl rfl rfl (by decide +kernel) ⟨Nat.le_of_ble_eq_true rfl, Nat.le_of_ble_eq_true rfl⟩) hK hP hD hS hAA [] [0, 1] [] rfl rfl rfl (by decide) (by decide) (by decide) rfl hl.1 rfl (Nat.le_of_ble_eq_true rfl) dX1_countTogether_22 ⟨Nat.le_of_ble_eq_true rfl, Nat.le_of_ble_eq_true rfl⟩ (k := 0) (n := 0) rfl rfl (fun r_1 u_ H locs hw hP hD hS => ?_)
        have hw : (r_1 = nI (gr (f i) t)) := hw
        have hr_r_1 := hw
        have hP : va_P D vwCl [(h, .inr (1, [.ref a, .int (nI n)])), (a, .inl (cI, 576, .inl (fun j => nI (f j))))] H := hP
        have hD : va_D AA [(h, .inr (1, [.ref a, .int (nI n)])), (a, .inl (cI, 576, .inl (fun j => nI (f j))))] := hD
        subst hr_r_1
        have hB4 := gr_lt (f i) t
        refine lv_aload_n hXX hBB dX1_countTogether_25 rfl (lv_at hl 2 rfl) ?_
        refine va_get (D := D) (ci := 1) (v := .ref a) (C := RX1) (T := TX1) (N := 2) hXX hBB hts iw_X1 hown hK hP 0 rfl rfl 0 (by decide) kw_2 (fun _ h9 => h9) rfl dX1_countTogether_26 ?_
        refine lv_iload hXX hBB dX1_countTogether_29 (lv_at hl 0 rfl) ?_
        refine m_iald hXX hBB hK hP 1 0 rfl rfl (i := i) (by omega) (by decide) (x := nI (f i)) rfl dX1_countTogether_31 ?_
        refine lv_iload_n hXX hBB dX1_countTogether_32 rfl (lv_at hl 4 rfl) ?_
        refine m_scalli (wr := [(h, .inr (1, [.ref a, .int (nI n)])), (a, .inl (cI, 576, .inl (fun j => nI (f j))))]) ⟨hXX, hBB, hml, hown, hts⟩ hN (kX1_groupIn l D (f i) o (by exact hf _ (by omega)) (by exact ho)) (va_cwS 2 hts gX1_countTogether_X1_groupIn rfl rfl rfl (by decide +kernel) ⟨Nat.le_of_ble_eq_true rfl, Nat.le_of_ble_eq_true rfl⟩) hK hP hD hS hAA [] [0, 1] [] rfl rfl rfl (by decide) (by decide) (by decide) rfl hl.1 rfl (Nat.le_of_ble_eq_true rfl) dX1_countTogether_33 ⟨Nat.le_of_ble_eq_true rfl, Nat.le_of_ble_eq_true rfl⟩ (k := 0) (n := 0) rfl rfl (fun r_2 u_ H locs hw hP hD hS => ?_)
        have hw : (r_2 = nI (gr (f i) o)) := hw
        have hr_r_2 := hw
        have hP : va_P D vwCl [(h, .inr (1, [.ref a, .int (nI n)])), (a, .inl (cI, 576, .inl (fun j => nI (f j))))] H := hP
        have hD : va_D AA [(h, .inr (1, [.ref a, .int (nI n)])), (a, .inl (cI, 576, .inl (fun j => nI (f j))))] := hD
        subst hr_r_2
        have hB5 := gr_lt (f i) o
        refine lv_icmp_ne (tgt := 42) hXX hBB dX1_countTogether_36 (by decide) (fun c_36 => ?_) (fun c_36 => ?_)
        · have c_36 : ¬ (gr (f i) t) = (gr (f i) o) := fun h9 => c_36 ((nI_eq (by omega) (by omega)).mpr h9)
          refine lv_iinc (v := nI (i + 1)) (lv' := [(4, .int (nI (i + 1))), (3, .int (nI acc)), (0, .ref h), (1, .int (nI t)), (2, .int (nI o))]) hXX hBB dX1_countTogether_42 hl (k := 0) rfl (nI_1 _) (by decide) rfl (fun ls hl => ?_)
          refine lv_goto (tgt := 5) hXX hBB dX1_countTogether_45 (by decide) ?_
          have hi_i : (i + 1) ≤ n := by omega
          have hi_acc : acc = ct (fun z => decide (gr (f z) t = gr (f z) o)) (i + 1) := by first | (rw [ct_t (by simp [c_36])]; omega) | (rw [ct_f (by simp [c_36])]; omega)
          have hmm : n - (i + 1) < N_5 := by omega
          exact ih_5 (i + 1) acc hi_i hi_acc hmm _ _ (hP.sub [0, 1] rfl) (hD.sub [0, 1] (by decide) rfl) hS ls (lv_sub hl [0, 1, 2, 3, 4] rfl)
        · have c_36 : (gr (f i) t) = (gr (f i) o) := (nI_eq (by omega) (by omega)).mp c_36
          refine lv_iinc (v := nI (acc + 1)) (lv' := [(3, .int (nI (acc + 1))), (4, .int (nI i)), (0, .ref h), (1, .int (nI t)), (2, .int (nI o))]) hXX hBB dX1_countTogether_39 hl (k := 1) rfl (nI_1 _) (by decide) rfl (fun ls hl => ?_)
          refine lv_iinc (v := nI (i + 1)) (lv' := [(4, .int (nI (i + 1))), (3, .int (nI (acc + 1))), (0, .ref h), (1, .int (nI t)), (2, .int (nI o))]) hXX hBB dX1_countTogether_42 hl (k := 1) rfl (nI_1 _) (by decide) rfl (fun ls hl => ?_)
          refine lv_goto (tgt := 5) hXX hBB dX1_countTogether_45 (by decide) ?_
          have hi_i : (i + 1) ≤ n := by omega
          have hi_acc : (acc + 1) = ct (fun z => decide (gr (f z) t = gr (f z) o)) (i + 1) := by first | (rw [ct_t (by simp [c_36])]; omega) | (rw [ct_f (by simp [c_36])]; omega)
          have hmm : n - (i + 1) < N_5 := by omega
          exact ih_5 (i + 1) (acc + 1) hi_i hi_acc hmm _ _ (hP.sub [0, 1] rfl) (hD.sub [0, 1] (by decide) rfl) hS ls (lv_sub hl [0, 1, 2, 3, 4] rfl)
  have hi_i : 0 ≤ n := by exact Nat.zero_le _
  have hi_acc : 0 = ct (fun z => decide (gr (f z) t = gr (f z) o)) 0 := by rfl
  exact L_5 _ 0 0 hi_i hi_acc (Nat.lt_succ_self _) _ _ hP hD hS ls (lv_sub hl [0, 1, 2, 3, 4] rfl)
abbrev rmX1_lowestGroup : Room := { frames := 1, cells := 0, slots := 0, locals := 21 }
set_option maxHeartbeats 4000000 in
set_option maxRecDepth 100000 in
theorem kX1_lowestGroup (l : Launch) (D : va_G) (cI : ClassId) (h : Nat) (a : Nat) (f : Nat → Nat) (n : Nat) (t : Nat) (hn : n ≤ 576) (hf : ∀ z, z < n → f z < 2 ^ 31) (ht : t < 16) : Ci l yX1_lowestGroup wsX1_lowestGroup rmX1_lowestGroup D [(cI, .int)] [.ref h, .int (nI t)] [(h, .inr (1, [.ref a, .int (nI n)])), (a, .inl (cI, 576, .inl (fun j => nI (f j))))] (fun (r : Int32) (_ : Unit) => r = loR (fun z => gr (f z) t) n) (fun (_ : Unit) => [(h, .inr (1, [.ref a, .int (nI n)])), (a, .inl (cI, 576, .inl (fun j => nI (f j))))]) := by
  refine Ci_of (cc := cX1_lowestGroup) (maxL := 5) (by decide) rfl (Nat.le_of_ble_eq_true rfl) ?_
  intro pR eV sT mI args below meth cO AA QQ ls hXX hBB hml hown hts hnm hN hK hP hD hS hAA hl hret
  have hl : lv_has ls 5 [(0, .ref h), (1, .int (nI t))] := hl
  have kw_1 := hts (.fieldLink RX1 15 "CupDraw$ResultList" "size" "I") (List.mem_of_getElem? (i := 1) rfl)
  have iw_X1 : ∀ w ∈ wsX10, w ∈ wsX1_lowestGroup := by decide +kernel
  have kw_2 := hts (.fieldLink RX1 9 "CupDraw$ResultList" "items" "[I") (List.mem_of_getElem? (i := 2) rfl)
  refine lv_iconst (v := (-1)) hXX hBB dX1_lowestGroup_0 (by decide) ?_
  refine lv_istore_n (lv' := [(2, .int (-1)), (0, .ref h), (1, .int (nI t))]) hXX hBB dX1_lowestGroup_1 rfl hl (by decide) rfl (fun ls hl => ?_)
  refine lv_iconst (v := nI 0) hXX hBB dX1_lowestGroup_2 (by decide) ?_
  refine lv_istore_n (lv' := [(3, .int (nI 0)), (2, .int (-1)), (0, .ref h), (1, .int (nI t))]) hXX hBB dX1_lowestGroup_3 rfl hl (by decide) rfl (fun ls hl => ?_)
  have L_4 : ∀ (N_4 : Nat) (i : Nat) (x : Int32), (i ≤ n) → (x = loR (fun z => gr (f z) t) i) → n - i < N_4 → ∀ (H : Heap) (locs : List Loc), va_P D vwCl [(h, .inr (1, [.ref a, .int (nI n)])), (a, .inl (cI, 576, .inl (fun j => nI (f j))))] H → va_D AA [(h, .inr (1, [.ref a, .int (nI n)])), (a, .inl (cI, 576, .inl (fun j => nI (f j))))] → va_S AA sT.heap H locs → ∀ (ls : Array Slot), lv_has ls 5 [(3, .int (nI i)), (2, .int x), (0, .ref h), (1, .int (nI t))] → W pR l eV rmX1_lowestGroup sT mI args below meth cO H locs 0 0 QQ (F0 mI 4 ls []) := by
    intro N_4
    induction N_4 with
    | zero =>
      intro i x hi hX hMM
      exact absurd hMM (Nat.not_lt_zero _)
    | succ N_4 ih_4 =>
      intro i x hi hX hMM H locs hP hD hS ls hl
      refine lv_iload_n hXX hBB dX1_lowestGroup_4 rfl (lv_at hl 0 rfl) ?_
      refine lv_aload_n hXX hBB dX1_lowestGroup_5 rfl (lv_at hl 2 rfl) ?_
      refine va_get (D := D) (ci := 1) (v := .int (nI n)) (C := RX1) (T := TX1) (N := 2) hXX hBB hts iw_X1 hown hK hP 0 rfl rfl 1 (by decide) kw_1 (fun _ h9 => h9) rfl dX1_lowestGroup_6 ?_
      refine lv_icmp_ge (tgt := 44) hXX hBB dX1_lowestGroup_9 (by decide) (fun c_9 => ?_) (fun c_9 => ?_)
      · have c_9 : n ≤ i := (nI_leI (by omega) (by omega)).mp c_9
        have hE : i = n := by omega
        refine lv_iload_n hXX hBB dX1_lowestGroup_44 rfl (lv_at hl 1 rfl) ?_
        refine hret (r := x) () ?_ (rfl) (hP.sub [0, 1] rfl) (hD.sub [0, 1] (by decide) rfl) hS (Nat.le_of_ble_eq_true rfl) (Nat.le_of_ble_eq_true rfl) dX1_lowestGroup_45
        show x = loR (fun z => gr (f z) t) n
        rw [hX, hE]
      · have c_9 : ¬ n ≤ i := fun h9 => c_9 ((nI_leI (by omega) (by omega)).mpr h9)
        have hlt : i < n := by omega
        refine lv_aload_n hXX hBB dX1_lowestGroup_12 rfl (lv_at hl 2 rfl) ?_
        refine va_get (D := D) (ci := 1) (v := .ref a) (C := RX1) (T := TX1) (N := 2) hXX hBB hts iw_X1 hown hK hP 0 rfl rfl 0 (by decide) kw_2 (fun _ h9 => h9) rfl dX1_lowestGroup_13 ?_
        refine lv_iload_n hXX hBB dX1_lowestGroup_16 rfl (lv_at hl 0 rfl) ?_
        refine m_iald hXX hBB hK hP 1 0 rfl rfl (i := i) (by omega) (by decide) (x := nI (f i)) rfl dX1_lowestGroup_17 ?_
        refine lv_iload_n hXX hBB dX1_lowestGroup_18 rfl (lv_at hl 3 rfl) ?_
        refine m_scalli (wr := [(h, .inr (1, [.ref a, .int (nI n)])), (a, .inl (cI, 576, .inl (fun j => nI (f j))))]) ⟨hXX, hBB, hml, hown, hts⟩ hN (kX1_groupIn l D (f i) t (by exact hf _ (by omega)) (by omega)) (va_cwS 2 hts gX1_lowestGroup_X1_groupIn rfl rfl rfl (by decide +kernel) ⟨Nat.le_of_ble_eq_true rfl, Nat.le_of_ble_eq_true rfl⟩) hK hP hD hS hAA [] [0, 1] [] rfl rfl rfl (by decide) (by decide) (by decide) rfl hl.1 rfl (Nat.le_of_ble_eq_true rfl) dX1_lowestGroup_19 ⟨Nat.le_of_ble_eq_true rfl, Nat.le_of_ble_eq_true rfl⟩ (k := 0) (n := 0) rfl rfl (fun r_1 u_ H locs hw hP hD hS => ?_)
        have hw : (r_1 = nI (gr (f i) t)) := hw
        have hr_r_1 := hw
        have hP : va_P D vwCl [(h, .inr (1, [.ref a, .int (nI n)])), (a, .inl (cI, 576, .inl (fun j => nI (f j))))] H := hP
        have hD : va_D AA [(h, .inr (1, [.ref a, .int (nI n)])), (a, .inl (cI, 576, .inl (fun j => nI (f j))))] := hD
        subst hr_r_1
        refine lv_istore (lv' := [(4, .int (nI (gr (f i) t))), (3, .int (nI i)), (2, .int x), (0, .ref h), (1, .int (nI t))]) hXX hBB dX1_lowestGroup_22 hl (by decide) rfl (fun ls hl => ?_)
        refine lv_iload_n hXX hBB dX1_lowestGroup_24 rfl (lv_at hl 2 rfl) ?_
        refine lv_iconst (v := (-1)) hXX hBB dX1_lowestGroup_25 (by decide) ?_
        refine lv_icmp_eq (tgt := 35) hXX hBB dX1_lowestGroup_26 (by decide) (fun c_26 => ?_) (fun c_26 => ?_)
        · have c_26 := c_26
          have lowstep : nI (gr (f i) t) = loR (fun z => gr (f z) t) (i + 1) := loR_first (hX ▸ c_26)
          refine lv_iload hXX hBB dX1_lowestGroup_35 (lv_at hl 0 rfl) ?_
          refine lv_istore_n (lv' := [(2, .int (nI (gr (f i) t))), (4, .int (nI (gr (f i) t))), (3, .int (nI i)), (0, .ref h), (1, .int (nI t))]) hXX hBB dX1_lowestGroup_37 rfl hl (by decide) rfl (fun ls hl => ?_)
          refine lv_iinc (v := nI (i + 1)) (lv' := [(3, .int (nI (i + 1))), (2, .int (nI (gr (f i) t))), (4, .int (nI (gr (f i) t))), (0, .ref h), (1, .int (nI t))]) hXX hBB dX1_lowestGroup_38 hl (k := 2) rfl (nI_1 _) (by decide) rfl (fun ls hl => ?_)
          refine lv_goto (tgt := 4) hXX hBB dX1_lowestGroup_41 (by decide) ?_
          have hi_i : (i + 1) ≤ n := by omega
          have hi_X : (nI (gr (f i) t)) = loR (fun z => gr (f z) t) (i + 1) := by exact lowstep
          have hmm : n - (i + 1) < N_4 := by omega
          exact ih_4 (i + 1) (nI (gr (f i) t)) hi_i hi_X hmm _ _ (hP.sub [0, 1] rfl) (hD.sub [0, 1] (by decide) rfl) hS ls (lv_sub hl [0, 1, 3, 4] rfl)
        · have c_26 := c_26
          obtain ⟨hi0, hxm⟩ := loR_some (h := (fun z => gr (f z) t)) (i := i) (fun q => c_26 (hX.trans q))
          have hxm := hX.trans hxm
          refine lv_iload hXX hBB dX1_lowestGroup_29 (lv_at hl 0 rfl) ?_
          refine lv_iload_n hXX hBB dX1_lowestGroup_31 rfl (lv_at hl 2 rfl) ?_
          refine lv_icmp_ge (tgt := 38) hXX hBB dX1_lowestGroup_32 (by decide) (fun c_32 => ?_) (fun c_32 => ?_)
          · have c_32 := c_32
            have lowstep : x = loR (fun z => gr (f z) t) (i + 1) := loR_keep (fun j => gr_lt (f j) t) hi0 hX (by rw [hxm] at c_32; exact c_32)
            refine lv_iinc (v := nI (i + 1)) (lv' := [(3, .int (nI (i + 1))), (4, .int (nI (gr (f i) t))), (2, .int x), (0, .ref h), (1, .int (nI t))]) hXX hBB dX1_lowestGroup_38 hl (k := 1) rfl (nI_1 _) (by decide) rfl (fun ls hl => ?_)
            refine lv_goto (tgt := 4) hXX hBB dX1_lowestGroup_41 (by decide) ?_
            have hi_i : (i + 1) ≤ n := by omega
            have hi_X : x = loR (fun z => gr (f z) t) (i + 1) := by exact lowstep
            have hmm : n - (i + 1) < N_4 := by omega
            exact ih_4 (i + 1) x hi_i hi_X hmm _ _ (hP.sub [0, 1] rfl) (hD.sub [0, 1] (by decide) rfl) hS ls (lv_sub hl [0, 2, 3, 4] rfl)
          · have c_32 := c_32
            have lowstep : nI (gr (f i) t) = loR (fun z => gr (f z) t) (i + 1) := loR_new (fun j => gr_lt (f j) t) hi0 (by rw [hxm] at c_32; exact c_32)
            refine lv_iload hXX hBB dX1_lowestGroup_35 (lv_at hl 0 rfl) ?_
            refine lv_istore_n (lv' := [(2, .int (nI (gr (f i) t))), (4, .int (nI (gr (f i) t))), (3, .int (nI i)), (0, .ref h), (1, .int (nI t))]) hXX hBB dX1_lowestGroup_37 rfl hl (by decide) rfl (fun ls hl => ?_)
            refine lv_iinc (v := nI (i + 1)) (lv' := [(3, .int (nI (i + 1))), (2, .int (nI (gr (f i) t))), (4, .int (nI (gr (f i) t))), (0, .ref h), (1, .int (nI t))]) hXX hBB dX1_lowestGroup_38 hl (k := 2) rfl (nI_1 _) (by decide) rfl (fun ls hl => ?_)
            refine lv_goto (tgt := 4) hXX hBB dX1_lowestGroup_41 (by decide) ?_
            have hi_i : (i + 1) ≤ n := by omega
            have hi_X : (nI (gr (f i) t)) = loR (fun z => gr (f z) t) (i + 1) := by exact lowstep
            have hmm : n - (i + 1) < N_4 := by omega
            exact ih_4 (i + 1) (nI (gr (f i) t)) hi_i hi_X hmm _ _ (hP.sub [0, 1] rfl) (hD.sub [0, 1] (by decide) rfl) hS ls (lv_sub hl [0, 1, 3, 4] rfl)
  have hi_i : 0 ≤ n := by exact Nat.zero_le _
  have hi_X : (-1) = loR (fun z => gr (f z) t) 0 := by rfl
  exact L_4 _ 0 (-1) hi_i hi_X (Nat.lt_succ_self _) _ _ hP hD hS ls (lv_sub hl [0, 1, 2, 3] rfl)
abbrev rmX1_narrow : Room := { frames := 1, cells := 0, slots := 0, locals := 21 }
set_option maxHeartbeats 4000000 in
set_option maxRecDepth 100000 in
theorem kX1_narrow (l : Launch) (D : va_G) (cI : ClassId) (h : Nat) (a : Nat) (f : Nat → Nat) (n : Nat) (t : Nat) (g : Nat) (hn : n ≤ 576) (hf : ∀ z, z < n → f z < 2 ^ 31) (ht : t < 16) (hg : g < 4) : Cv l yX1_narrow wsX1_narrow rmX1_narrow D [(cI, .int)] [.ref h, .int (nI t), .int (nI g)] [(h, .inr (1, [.ref a, .int (nI n)])), (a, .inl (cI, 576, .inl (fun j => nI (f j))))] (fun (u : (Nat → Nat) × Nat) => (u.2 ≤ n) ∧ (∀ w : Nat → Nat, sm (fun z => w (u.1 z)) u.2 = sm (fun z => wIf (fun z => decide (gr z t = g)) w (f z)) n) ∧ (∀ N, n ≤ N → sameR u.1 f N)) (fun (u : (Nat → Nat) × Nat) => [(h, .inr (1, [.ref a, .int (nI u.2)])), (a, .inl (cI, 576, .inl (fun j => nI (u.1 j))))]) := by
  refine Cv_of (cc := cX1_narrow) (maxL := 6) (by decide) rfl (Nat.le_of_ble_eq_true rfl) ?_
  intro pR eV sT mI args below meth cO AA QQ ls hXX hBB hml hown hts hnm hN hK hP hD hS hAA hl hret
  have hl : lv_has ls 6 [(0, .ref h), (1, .int (nI t)), (2, .int (nI g))] := hl
  have kw_1 := hts (.fieldLink RX1 15 "CupDraw$ResultList" "size" "I") (List.mem_of_getElem? (i := 1) rfl)
  have iw_X1 : ∀ w ∈ wsX10, w ∈ wsX1_narrow := by decide +kernel
  have kw_2 := hts (.fieldLink RX1 9 "CupDraw$ResultList" "items" "[I") (List.mem_of_getElem? (i := 2) rfl)
  refine lv_iconst (v := nI 0) hXX hBB dX1_narrow_0 (by decide) ?_
  refine lv_istore_n (lv' := [(3, .int (nI 0)), (0, .ref h), (1, .int (nI t)), (2, .int (nI g))]) hXX hBB dX1_narrow_1 rfl hl (by decide) rfl (fun ls hl => ?_)
  refine lv_iconst (v := nI 0) hXX hBB dX1_narrow_2 (by decide) ?_
  refine lv_istore (lv' := [(4, .int (nI 0)), (3, .int (nI 0)), (0, .ref h), (1, .int (nI t)), (2, .int (nI g))]) hXX hBB dX1_narrow_3 hl (by decide) rfl (fun ls hl => ?_)
  have L_5 : ∀ (N_5 : Nat) (i : Nat) (k : Nat) (fq : Nat → Nat), (i ≤ n) → (k ≤ i) → (∀ w : Nat → Nat, sm (fun z => w (fq z)) k = sm (fun z => wIf (fun z => decide (gr z t = g)) w (f z)) i) → (∀ N, n ≤ N → sameR fq f N) → (∀ z, i ≤ z → fq z = f z) → n - i < N_5 → ∀ (H : Heap) (locs : List Loc), va_P D vwCl [(h, .inr (1, [.ref a, .int (nI n)])), (a, .inl (cI, 576, .inl (fun j => nI (fq j))))] H → va_D AA [(h, .inr (1, [.ref a, .int (nI n)])), (a, .inl (cI, 576, .inl (fun j => nI (fq j))))] → va_S AA sT.heap H locs → ∀ (ls : Array Slot), lv_has ls 6 [(4, .int (nI i)), (3, .int (nI k)), (0, .ref h), (1, .int (nI t)), (2, .int (nI g))] → W pR l eV rmX1_narrow sT mI args below meth cO H locs 0 0 QQ (F0 mI 5 ls []) := by
    intro N_5
    induction N_5 with
    | zero =>
      intro i k fq hi hk hA hB hC hMM
      exact absurd hMM (Nat.not_lt_zero _)
    | succ N_5 ih_5 =>
      intro i k fq hi hk hA hB hC hMM H locs hP hD hS ls hl
      refine lv_iload hXX hBB dX1_narrow_5 (lv_at hl 0 rfl) ?_
      refine lv_aload_n hXX hBB dX1_narrow_7 rfl (lv_at hl 2 rfl) ?_
      refine va_get (D := D) (ci := 1) (v := .int (nI n)) (C := RX1) (T := TX1) (N := 2) hXX hBB hts iw_X1 hown hK hP 0 rfl rfl 1 (by decide) kw_1 (fun _ h9 => h9) rfl dX1_narrow_8 ?_
      refine lv_icmp_ge (tgt := 63) hXX hBB dX1_narrow_11 (by decide) (fun c_11 => ?_) (fun c_11 => ?_)
      · have c_11 : n ≤ i := (nI_leI (by omega) (by omega)).mp c_11
        have hE : i = n := by omega
        refine lv_aload_n hXX hBB dX1_narrow_63 rfl (lv_at hl 2 rfl) ?_
        refine lv_iload_n hXX hBB dX1_narrow_64 rfl (lv_at hl 1 rfl) ?_
        refine va_put (D := D) (ci := 1) (v := .int (nI k)) (ty := .int) (C := RX1) (T := TX1) (N := 2) hXX hBB hts iw_X1 tyX1 tyX1_ok nmX1 hown hK hP hD hS 0 rfl rfl 1 (by decide) kw_1 (fun _ h9 => h9) rfl (by decide +kernel) (rfl) (rfl) (Nat.le_of_ble_eq_true rfl) dX1_narrow_65 (fun H locs hP hD hS => ?_)
        have hP : va_P D vwCl [(h, .inr (1, [.ref a, .int (nI k)])), (a, .inl (cI, 576, .inl (fun j => nI (fq j))))] H := hP
        have hD : va_D AA [(h, .inr (1, [.ref a, .int (nI k)])), (a, .inl (cI, 576, .inl (fun j => nI (fq j))))] := hD
        refine hret (fq, k) ?_ (hP.sub [0, 1] rfl) (hD.sub [0, 1] (by decide) rfl) hS (Nat.le_of_ble_eq_true rfl) (Nat.le_of_ble_eq_true rfl) dX1_narrow_68
        show (k ≤ n) ∧ (∀ w : Nat → Nat, sm (fun z => w (fq z)) k = sm (fun z => wIf (fun z => decide (gr z t = g)) w (f z)) n) ∧ (∀ N, n ≤ N → sameR fq f N)
        rw [hE] at hk hA
        exact ⟨hk, hA, hB⟩
      · have c_11 : ¬ n ≤ i := fun h9 => c_11 ((nI_leI (by omega) (by omega)).mpr h9)
        have hlt : i < n := by omega
        have hfi : fq i = f i := hC i (Nat.le_refl i)
        have hfb : fq i < 2 ^ 31 := by rw [hfi]; exact hf i hlt
        have hB4 := gr_lt (fq i) t
        refine lv_aload_n hXX hBB dX1_narrow_14 rfl (lv_at hl 2 rfl) ?_
        refine va_get (D := D) (ci := 1) (v := .ref a) (C := RX1) (T := TX1) (N := 2) hXX hBB hts iw_X1 hown hK hP 0 rfl rfl 0 (by decide) kw_2 (fun _ h9 => h9) rfl dX1_narrow_15 ?_
        refine lv_iload hXX hBB dX1_narrow_18 (lv_at hl 0 rfl) ?_
        refine m_iald hXX hBB hK hP 1 0 rfl rfl (i := i) (by omega) (by decide) (x := nI (fq i)) rfl dX1_narrow_20 ?_
        refine lv_istore (lv' := [(5, .int (nI (fq i))), (4, .int (nI i)), (3, .int (nI k)), (0, .ref h), (1, .int (nI t)), (2, .int (nI g))]) hXX hBB dX1_narrow_21 hl (by decide) rfl (fun ls hl => ?_)
        refine lv_iload hXX hBB dX1_narrow_23 (lv_at hl 0 rfl) ?_
        refine lv_iload_n hXX hBB dX1_narrow_25 rfl (lv_at hl 4 rfl) ?_
        refine m_scalli (wr := [(h, .inr (1, [.ref a, .int (nI n)])), (a, .inl (cI, 576, .inl (fun j => nI (fq j))))]) ⟨hXX, hBB, hml, hown, hts⟩ hN (kX1_groupIn l D (fq i) t (by exact hfb) (by omega)) (va_cwS 2 hts gX1_narrow_X1_groupIn rfl rfl rfl (by decide +kernel) ⟨Nat.le_of_ble_eq_true rfl, Nat.le_of_ble_eq_true rfl⟩) hK hP hD hS hAA [] [0, 1] [] rfl rfl rfl (by decide) (by decide) (by decide) rfl hl.1 rfl (Nat.le_of_ble_eq_true rfl) dX1_narrow_26 ⟨Nat.le_of_ble_eq_true rfl, Nat.le_of_ble_eq_true rfl⟩ (k := 0) (n := 0) rfl rfl (fun r_1 u_ H locs hw hP hD hS => ?_)
        have hw : (r_1 = nI (gr (fq i) t)) := hw
        have hr_r_1 := hw
        have hP : va_P D vwCl [(h, .inr (1, [.ref a, .int (nI n)])), (a, .inl (cI, 576, .inl (fun j => nI (fq j))))] H := hP
        have hD : va_D AA [(h, .inr (1, [.ref a, .int (nI n)])), (a, .inl (cI, 576, .inl (fun j => nI (fq j))))] := hD
        subst hr_r_1
        refine lv_iload_n hXX hBB dX1_narrow_29 rfl (lv_at hl 5 rfl) ?_
        refine lv_icmp_ne (tgt := 57) hXX hBB dX1_narrow_30 (by decide) (fun c_30 => ?_) (fun c_30 => ?_)
        · have c_30 : ¬ (gr (fq i) t) = g := fun h9 => c_30 ((nI_eq (by omega) (by omega)).mpr h9)
          rw [hfi] at c_30
          have stA : ∀ w : Nat → Nat, sm (fun z => w (fq z)) k = sm (fun z => wIf (fun z => decide (gr z t = g)) w (f z)) (i + 1) := fun w => by simp only [sm]; rw [hA w]; simp [wIf, c_30]
          have stB := hB
          have stC : ∀ z, i + 1 ≤ z → fq z = f z := fun j hj => hC j (by omega)
          refine lv_iinc (v := nI (i + 1)) (lv' := [(4, .int (nI (i + 1))), (5, .int (nI (fq i))), (3, .int (nI k)), (0, .ref h), (1, .int (nI t)), (2, .int (nI g))]) hXX hBB dX1_narrow_57 hl (k := 1) rfl (nI_1 _) (by decide) rfl (fun ls hl => ?_)
          refine lv_goto (tgt := 5) hXX hBB dX1_narrow_60 (by decide) ?_
          have hi_i : (i + 1) ≤ n := by omega
          have hi_k : k ≤ (i + 1) := by omega
          have hi_A : ∀ w : Nat → Nat, sm (fun z => w (fq z)) k = sm (fun z => wIf (fun z => decide (gr z t = g)) w (f z)) (i + 1) := by exact stA
          have hi_B : ∀ N, n ≤ N → sameR fq f N := by exact stB
          have hi_C : ∀ z, (i + 1) ≤ z → fq z = f z := by exact stC
          have hmm : n - (i + 1) < N_5 := by omega
          exact ih_5 (i + 1) k fq hi_i hi_k hi_A hi_B hi_C hmm _ _ (hP.sub [0, 1] rfl) (hD.sub [0, 1] (by decide) rfl) hS ls (lv_sub hl [0, 2, 3, 4, 5] rfl)
        · have c_30 : (gr (fq i) t) = g := (nI_eq (by omega) (by omega)).mp c_30
          have hci : gr (f i) t = g := by rw [← hfi]; exact c_30
          have stA : ∀ w : Nat → Nat, sm (fun z => w (updN (updN fq i (fq k)) k (fq i) z)) (k + 1) = sm (fun z => wIf (fun z => decide (gr z t = g)) w (f z)) (i + 1) := fun w => by
            simp only [sm]
            rw [← hA w, updN_s, hfi, sm_le_upd (Nat.le_refl k) w, sm_le_upd hk w]
            simp [wIf, hci]
          have stB : ∀ N, n ≤ N → sameR (updN (updN fq i (fq k)) k (fq i)) f N := fun N hN => (sameR_swap fq i k N (by omega) (by omega)).trans (hB N hN)
          have stC : ∀ z, i + 1 ≤ z → updN (updN fq i (fq k)) k (fq i) z = f z := fun j hj => by rw [updN_n (by omega), updN_n (by omega)]; exact hC j (by omega)
          refine lv_aload_n hXX hBB dX1_narrow_33 rfl (lv_at hl 3 rfl) ?_
          refine va_get (D := D) (ci := 1) (v := .ref a) (C := RX1) (T := TX1) (N := 2) hXX hBB hts iw_X1 hown hK hP 0 rfl rfl 0 (by decide) kw_2 (fun _ h9 => h9) rfl dX1_narrow_34 ?_
          refine lv_iload hXX hBB dX1_narrow_37 (lv_at hl 1 rfl) ?_
          refine lv_aload_n hXX hBB dX1_narrow_39 rfl (lv_at hl 3 rfl) ?_
          refine va_get (D := D) (ci := 1) (v := .ref a) (C := RX1) (T := TX1) (N := 2) hXX hBB hts iw_X1 hown hK hP 0 rfl rfl 0 (by decide) kw_2 (fun _ h9 => h9) rfl dX1_narrow_40 ?_
          refine lv_iload_n hXX hBB dX1_narrow_43 rfl (lv_at hl 2 rfl) ?_
          refine m_iald hXX hBB hK hP 1 0 rfl rfl (i := k) (by omega) (by decide) (x := nI (fq k)) rfl dX1_narrow_44 ?_
          refine m_iast hXX hBB hK hP hD hS 1 0 rfl rfl (i := i) (by omega) (by decide) (g := fun j => nI (updN fq i (fq k) j)) (m_upd _ _ _) dX1_narrow_45 (fun H locs hP hD hS => ?_)
          have hP : va_P D vwCl [(h, .inr (1, [.ref a, .int (nI n)])), (a, .inl (cI, 576, .inl (fun j => nI (updN fq i (fq k) j))))] H := hP
          have hD : va_D AA [(h, .inr (1, [.ref a, .int (nI n)])), (a, .inl (cI, 576, .inl (fun j => nI (updN fq i (fq k) j))))] := hD
          refine lv_aload_n hXX hBB dX1_narrow_46 rfl (lv_at hl 3 rfl) ?_
          refine va_get (D := D) (ci := 1) (v := .ref a) (C := RX1) (T := TX1) (N := 2) hXX hBB hts iw_X1 hown hK hP 0 rfl rfl 0 (by decide) kw_2 (fun _ h9 => h9) rfl dX1_narrow_47 ?_
          refine lv_iload_n hXX hBB dX1_narrow_50 rfl (lv_at hl 2 rfl) ?_
          refine lv_iload hXX hBB dX1_narrow_51 (lv_at hl 0 rfl) ?_
          refine m_iast hXX hBB hK hP hD hS 1 0 rfl rfl (i := k) (by omega) (by decide) (g := fun j => nI (updN (updN fq i (fq k)) k (fq i) j)) (m_upd _ _ _) dX1_narrow_53 (fun H locs hP hD hS => ?_)
          have hP : va_P D vwCl [(h, .inr (1, [.ref a, .int (nI n)])), (a, .inl (cI, 576, .inl (fun j => nI (updN (updN fq i (fq k)) k (fq i) j))))] H := hP
          have hD : va_D AA [(h, .inr (1, [.ref a, .int (nI n)])), (a, .inl (cI, 576, .inl (fun j => nI (updN (updN fq i (fq k)) k (fq i) j))))] := hD
          refine lv_iinc (v := nI (k + 1)) (lv' := [(3, .int (nI (k + 1))), (5, .int (nI (fq i))), (4, .int (nI i)), (0, .ref h), (1, .int (nI t)), (2, .int (nI g))]) hXX hBB dX1_narrow_54 hl (k := 2) rfl (nI_1 _) (by decide) rfl (fun ls hl => ?_)
          refine lv_iinc (v := nI (i + 1)) (lv' := [(4, .int (nI (i + 1))), (3, .int (nI (k + 1))), (5, .int (nI (fq i))), (0, .ref h), (1, .int (nI t)), (2, .int (nI g))]) hXX hBB dX1_narrow_57 hl (k := 2) rfl (nI_1 _) (by decide) rfl (fun ls hl => ?_)
          refine lv_goto (tgt := 5) hXX hBB dX1_narrow_60 (by decide) ?_
          have hi_i : (i + 1) ≤ n := by omega
          have hi_k : (k + 1) ≤ (i + 1) := by omega
          have hi_A : ∀ w : Nat → Nat, sm (fun z => w ((updN (updN fq i (fq k)) k (fq i)) z)) (k + 1) = sm (fun z => wIf (fun z => decide (gr z t = g)) w (f z)) (i + 1) := by exact stA
          have hi_B : ∀ N, n ≤ N → sameR (updN (updN fq i (fq k)) k (fq i)) f N := by exact stB
          have hi_C : ∀ z, (i + 1) ≤ z → (updN (updN fq i (fq k)) k (fq i)) z = f z := by exact stC
          have hmm : n - (i + 1) < N_5 := by omega
          exact ih_5 (i + 1) (k + 1) (updN (updN fq i (fq k)) k (fq i)) hi_i hi_k hi_A hi_B hi_C hmm _ _ (hP.sub [0, 1] rfl) (hD.sub [0, 1] (by decide) rfl) hS ls (lv_sub hl [0, 1, 3, 4, 5] rfl)
  have hi_i : 0 ≤ n := by exact Nat.zero_le _
  have hi_k : 0 ≤ 0 := by exact Nat.le_refl _
  have hi_A : ∀ w : Nat → Nat, sm (fun z => w (f z)) 0 = sm (fun z => wIf (fun z => decide (gr z t = g)) w (f z)) 0 := by intro w; rfl
  have hi_B : ∀ N, n ≤ N → sameR f f N := by exact fun N _ => sameR.refl f N
  have hi_C : ∀ z, 0 ≤ z → f z = f z := by exact fun j _ => rfl
  exact L_5 _ 0 0 f hi_i hi_k hi_A hi_B hi_C (Nat.lt_succ_self _) _ _ hP hD hS ls (lv_sub hl [0, 1, 2, 3, 4] rfl)
