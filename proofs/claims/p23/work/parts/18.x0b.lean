abbrev rmPF (d : Nat) : Room := { frames := 2 * d + 4, cells := 0, slots := 0, locals := 60 * d + 100 }
abbrev rmPI (d : Nat) : Room := { frames := 2 * d + 5, cells := 0, slots := 0, locals := 60 * d + 130 }
theorem res_lt {r t g : Nat} (hr : r < 4 ^ t) (hg : g < 4) : r + g * 4 ^ t < 4 ^ (t + 1) := by
  rw [Nat.pow_succ]
  have h2 : g * 4 ^ t ≤ 3 * 4 ^ t := Nat.mul_le_mul_right _ (by omega)
  omega
theorem res_gr {r t gp g : Nat} (hr : r < 4 ^ t) (h : ∀ z, z < t → gr r z < g) (hg4 : gp < 4) (hgp : gp < g) : ∀ z, z < t + 1 → gr (r + gp * 4 ^ t) z < g := by
  intro z hz
  by_cases q : z = t
  · rw [q, gr_add_hi hr hg4]; exact hgp
  · rw [gr_add_lo (by omega)]; exact h z (by omega)
theorem mskN_congr {r r2 : Nat} : ∀ t gp, (∀ z, z < t → gr r z = gr r2 z) → mskN r t gp = mskN r2 t gp := by
  intro t
  induction t with
  | zero => intros; rfl
  | succ t ih =>
    intro gp h
    simp only [mskN]
    rw [h t (by omega), ih gp (fun z hz => h z (by omega))]
theorem msk_next {r t gp g : Nat} {mb : Nat → Nat} (hr : r < 4 ^ t) (hmb : ∀ z, z < g → mb z = mskN r t z) (hg4 : gp < 4) : ∀ z, z < g → updN mb gp (mb gp ||| 2 ^ t) z = mskN (r + gp * 4 ^ t) (t + 1) z := by
  intro z hz
  simp only [mskN]
  rw [gr_add_hi hr hg4, mskN_congr t z (fun y hy => gr_add_lo (b := gp) (a := r) hy)]
  by_cases q : z = gp
  · rw [q, updN_s, if_pos rfl, ← hmb gp (by omega)]
  · rw [updN_n q, if_neg (fun e => q e.symm), ← hmb z hz]
theorem msk_back {r t gp : Nat} {mb : Nat → Nat} (h : mb gp = mskN r t gp) (ht : t < 9) {j : Nat} : updN (updN mb gp (mb gp ||| 2 ^ t)) gp (clrB (updN mb gp (mb gp ||| 2 ^ t) gp) t) j = mb j := by
  by_cases q : j = gp
  · rw [q, updN_s, updN_s, h]
    apply Nat.eq_of_testBit_eq
    intro i
    by_cases c : i < 9
    · rw [clrB_tb _ _ _ c, Nat.testBit_or, mskN_tb, Nat.testBit_two_pow]
      by_cases e : t = i
      · subst e; simp
      · simp [e]
    · have h1 : mskN r t gp < 512 := mskN_lt _ _ _ (by omega)
      rw [tb_hi (clrB_lt (or512 h1 (pow512 ht)) t) (by omega), tb_hi h1 (by omega)]
  · rw [updN_n q, updN_n q]
theorem sm_mono (h : Nat → Nat) {a b : Nat} (hab : a ≤ b) : sm h a ≤ sm h b := by
  induction b with
  | zero => rw [show a = 0 by omega]; exact Nat.le_refl _
  | succ b ih =>
    by_cases q : a = b + 1
    · rw [q]; exact Nat.le_refl _
    · have := ih (by omega); simp only [sm]; omega
theorem ext_room {g n kp gp d tm rs9 : Nat} {rg bd ap od : Nat → Nat} (hk : kp = n + sm (fun zg => if admR g rg bd ap od rs9 tm zg then extN g rg bd ap od d (tm + 1) (rs9 + zg * 4 ^ tm) (fun _ => 1) else 0) gp) (hn : n + extN g rg bd ap od (d + 1) tm rs9 (fun _ => 1) ≤ 576) (hg : gp < g) :
    kp + (if admR g rg bd ap od rs9 tm gp then extN g rg bd ap od d (tm + 1) (rs9 + gp * 4 ^ tm) (fun _ => 1) else 0) ≤ 576 := by
  have h1 := sm_mono (fun zg => if admR g rg bd ap od rs9 tm zg then extN g rg bd ap od d (tm + 1) (rs9 + zg * 4 ^ tm) (fun _ => 1) else 0) (show gp + 1 ≤ g by omega)
  simp only [extN] at hn
  simp only [sm] at h1
  omega
set_option maxHeartbeats 4000000 in
set_option maxRecDepth 100000 in
theorem kX0_placeIn_open (l : Launch) (D : va_G) (cI : ClassId) (d : Nat) (b : Nat) (g : Nat) (p : Nat) (T : Nat) (bR : Nat) (bB : Nat) (bA : Nat) (bO : Nat) (bP : Nat) (bM : Nat) (rg : Nat → Nat) (bd : Nat → Nat) (ap : Nat → Nat) (od : Nat → Nat) (pm : Nat → Nat) (mb : Nat → Nat) (h : Nat) (a : Nat) (f : Nat → Nat) (n : Nat) (gp : Nat) (tm : Nat) (rs9 : Nat) (hPF : ∀ (b : Nat) (g : Nat) (p : Nat) (T : Nat) (bR : Nat) (bB : Nat) (bA : Nat) (bO : Nat) (bP : Nat) (bM : Nat) (rg : Nat → Nat) (bd : Nat → Nat) (ap : Nat → Nat) (od : Nat → Nat) (pm : Nat → Nat) (mb : Nat → Nat) (h : Nat) (a : Nat) (f : Nat → Nat) (n : Nat) (tm : Nat) (rs9 : Nat) (htd : tm + d = T) (hg0 : 0 < g) (hg4 : g ≤ 4) (hT : T ≤ 9) (hrg : ∀ z, z < 9 → rg z < 6) (hbd : ∀ z, z < 6 → bd z < 4) (hap : ∀ z, ap z < 512) (hod : ∀ z, od z < 512) (hpm : ∀ z, z < T → pm z = pmN g z) (hrs9 : rs9 < 4 ^ tm) (hgr : ∀ z, z < tm → gr rs9 z < g) (hmb : ∀ z, z < g → mb z = mskN rs9 tm z) (hn : n + extN g rg bd ap od d tm rs9 (fun _ => 1) ≤ 576), Cv l yX0_placeFrom wsX0_placeFrom (rmPF d) D [(cI, .int)] [.ref b, .int (nI tm), .int (nI rs9), .ref h] [(b, .inr (0, [.int (nI g), .int (nI p), .int (nI T), .ref bR, .ref bB, .ref bA, .ref bO, .ref bP, .ref bM])), (bR, .inl (cI, 9, .inl (fun j => nI (rg j)))), (bB, .inl (cI, 6, .inl (fun j => nI (bd j)))), (bA, .inl (cI, 9, .inl (fun j => nI (ap j)))), (bO, .inl (cI, 9, .inl (fun j => nI (od j)))), (bP, .inl (cI, 9, .inl (fun j => nI (pm j)))), (bM, .inl (cI, 4, .inl (fun j => nI (mb j)))), (h, .inr (1, [.ref a, .int (nI n)])), (a, .inl (cI, 576, .inl (fun j => nI (f j))))] (fun (u : (Nat → Nat) × Nat) => (u.2 = n + extN g rg bd ap od d tm rs9 (fun _ => 1)) ∧ (∀ w : Nat → Nat, sm (fun z => w (u.1 z)) u.2 = sm (fun z => w (f z)) n + extN g rg bd ap od d tm rs9 w)) (fun (u : (Nat → Nat) × Nat) => [(b, .inr (0, [.int (nI g), .int (nI p), .int (nI T), .ref bR, .ref bB, .ref bA, .ref bO, .ref bP, .ref bM])), (bR, .inl (cI, 9, .inl (fun j => nI (rg j)))), (bB, .inl (cI, 6, .inl (fun j => nI (bd j)))), (bA, .inl (cI, 9, .inl (fun j => nI (ap j)))), (bO, .inl (cI, 9, .inl (fun j => nI (od j)))), (bP, .inl (cI, 9, .inl (fun j => nI (pm j)))), (bM, .inl (cI, 4, .inl (fun j => nI (mb j)))), (h, .inr (1, [.ref a, .int (nI u.2)])), (a, .inl (cI, 576, .inl (fun j => nI (u.1 j))))])) (htd : tm + 1 + d = T) (hg0 : 0 < g) (hg4 : g ≤ 4) (hT : T ≤ 9) (hrg : ∀ z, z < 9 → rg z < 6) (hbd : ∀ z, z < 6 → bd z < 4) (hap : ∀ z, ap z < 512) (hod : ∀ z, od z < 512) (hpm : ∀ z, z < T → pm z = pmN g z) (hrs9 : rs9 < 4 ^ tm) (hgr : ∀ z, z < tm → gr rs9 z < g) (hmb : ∀ z, z < g → mb z = mskN rs9 tm z) (hgp : gp < g) (hn : n + (if admR g rg bd ap od rs9 tm gp then extN g rg bd ap od d (tm + 1) (rs9 + gp * 4 ^ tm) (fun _ => 1) else 0) ≤ 576) : Cv l yX0_placeIn wsX0_placeIn (rmPI d) D [(cI, .int)] [.ref b, .int (nI gp), .int (nI tm), .int (nI rs9), .ref h] [(b, .inr (0, [.int (nI g), .int (nI p), .int (nI T), .ref bR, .ref bB, .ref bA, .ref bO, .ref bP, .ref bM])), (bR, .inl (cI, 9, .inl (fun j => nI (rg j)))), (bB, .inl (cI, 6, .inl (fun j => nI (bd j)))), (bA, .inl (cI, 9, .inl (fun j => nI (ap j)))), (bO, .inl (cI, 9, .inl (fun j => nI (od j)))), (bP, .inl (cI, 9, .inl (fun j => nI (pm j)))), (bM, .inl (cI, 4, .inl (fun j => nI (mb j)))), (h, .inr (1, [.ref a, .int (nI n)])), (a, .inl (cI, 576, .inl (fun j => nI (f j))))] (fun (u : (Nat → Nat) × Nat) => (u.2 = n + (if admR g rg bd ap od rs9 tm gp then extN g rg bd ap od d (tm + 1) (rs9 + gp * 4 ^ tm) (fun _ => 1) else 0)) ∧ (∀ w : Nat → Nat, sm (fun z => w (u.1 z)) u.2 = sm (fun z => w (f z)) n + (if admR g rg bd ap od rs9 tm gp then extN g rg bd ap od d (tm + 1) (rs9 + gp * 4 ^ tm) w else 0))) (fun (u : (Nat → Nat) × Nat) => [(b, .inr (0, [.int (nI g), .int (nI p), .int (nI T), .ref bR, .ref bB, .ref bA, .ref bO, .ref bP, .ref bM])), (bR, .inl (cI, 9, .inl (fun j => nI (rg j)))), (bB, .inl (cI, 6, .inl (fun j => nI (bd j)))), (bA, .inl (cI, 9, .inl (fun j => nI (ap j)))), (bO, .inl (cI, 9, .inl (fun j => nI (od j)))), (bP, .inl (cI, 9, .inl (fun j => nI (pm j)))), (bM, .inl (cI, 4, .inl (fun j => nI (mb j)))), (h, .inr (1, [.ref a, .int (nI u.2)])), (a, .inl (cI, 576, .inl (fun j => nI (u.1 j))))]) := by
  refine Cv_of (cc := cX0_placeIn) (maxL := 5) (by decide) rfl (Nat.le_of_ble_eq_true rfl) ?_
  intro pR eV sT mI args below meth cO AA QQ ls hXX hBB hml hown hts hnm hN hK hP hD hS hAA hl hret
  have hl : lv_has ls 5 [(0, .ref b), (1, .int (nI gp)), (2, .int (nI tm)), (3, .int (nI rs9)), (4, .ref h)] := hl
  have htm9 : tm < T := by omega
  have hmg : mb gp < 512 := by rw [hmb gp hgp]; exact mskN_lt _ _ _ (by omega)
  have kw_1 := hts (.fieldLink RX0 27 "CupDraw$Bowl" "members" "[I") (List.mem_of_getElem? (i := 1) rfl)
  have iw_X0 : ∀ w ∈ wsX00, w ∈ wsX0_placeIn := by decide +kernel
  refine lv_aload_n hXX hBB dX0_placeIn_0 rfl (lv_at hl 0 rfl) ?_
  refine lv_iload_n hXX hBB dX0_placeIn_1 rfl (lv_at hl 1 rfl) ?_
  refine lv_iload_n hXX hBB dX0_placeIn_2 rfl (lv_at hl 2 rfl) ?_
  refine m_calli (wr := [(h, .inr (1, [.ref a, .int (nI n)])), (a, .inl (cI, 576, .inl (fun j => nI (f j))))]) ⟨hXX, hBB, hml, hown, hts⟩ hN (kX0_admits l D cI b g p T bR bB bA bO bP bM rg bd ap od pm mb gp tm rs9 (by omega) (by omega) (by omega) (by assumption) (by assumption) (by assumption) (by assumption) (by assumption) (by omega) (by omega) (by assumption) (by assumption)) (cwV 2 hts gX0_placeIn_X0_admits rfl rfl rfl (by decide +kernel) ⟨by simp only [rmX0_admits, rmPI]; omega, by simp only [rmX0_admits, rmPI]; omega⟩) hK hP hD hS hAA [0, 1, 2, 3, 4, 5, 6] [7, 8] [0] rfl rfl rfl (by decide) (by decide) (by decide) rfl 0 rfl rfl rfl rfl hl.1 rfl (Nat.le_of_ble_eq_true rfl) dX0_placeIn_3 ⟨Nat.le_of_ble_eq_true rfl, Nat.le_of_ble_eq_true rfl⟩ (k := 0) (n := 0) rfl rfl (fun r_1 u_ H locs hw hP hD hS => ?_)
  have hw : (r_1 = bI (admR g rg bd ap od rs9 tm gp)) := hw
  have hr_r_1 := hw
  have hP : va_P D vwCl [(h, .inr (1, [.ref a, .int (nI n)])), (a, .inl (cI, 576, .inl (fun j => nI (f j)))), (b, .inr (0, [.int (nI g), .int (nI p), .int (nI T), .ref bR, .ref bB, .ref bA, .ref bO, .ref bP, .ref bM])), (bR, .inl (cI, 9, .inl (fun j => nI (rg j)))), (bB, .inl (cI, 6, .inl (fun j => nI (bd j)))), (bA, .inl (cI, 9, .inl (fun j => nI (ap j)))), (bO, .inl (cI, 9, .inl (fun j => nI (od j)))), (bP, .inl (cI, 9, .inl (fun j => nI (pm j)))), (bM, .inl (cI, 4, .inl (fun j => nI (mb j))))] H := hP
  have hD : va_D AA [(h, .inr (1, [.ref a, .int (nI n)])), (a, .inl (cI, 576, .inl (fun j => nI (f j)))), (b, .inr (0, [.int (nI g), .int (nI p), .int (nI T), .ref bR, .ref bB, .ref bA, .ref bO, .ref bP, .ref bM])), (bR, .inl (cI, 9, .inl (fun j => nI (rg j)))), (bB, .inl (cI, 6, .inl (fun j => nI (bd j)))), (bA, .inl (cI, 9, .inl (fun j => nI (ap j)))), (bO, .inl (cI, 9, .inl (fun j => nI (od j)))), (bP, .inl (cI, 9, .inl (fun j => nI (pm j)))), (bM, .inl (cI, 4, .inl (fun j => nI (mb j))))] := hD
  subst hr_r_1
  refine lv_if_eq (tgt := 50) hXX hBB dX0_placeIn_6 (by decide) (fun c_6 => ?_) (fun c_6 => ?_)
  · have c_6 : (admR g rg bd ap od rs9 tm gp) = false := m_bz0 c_6
    refine hret (f, n) ?_ (hP.sub [2, 3, 4, 5, 6, 7, 8, 0, 1] rfl) (hD.sub [2, 3, 4, 5, 6, 7, 8, 0, 1] (by decide) rfl) hS (Nat.le_of_ble_eq_true rfl) (Nat.le_of_ble_eq_true rfl) dX0_placeIn_50
    show (n = n + (if admR g rg bd ap od rs9 tm gp then extN g rg bd ap od d (tm + 1) (rs9 + gp * 4 ^ tm) (fun _ => 1) else 0)) ∧ (∀ w : Nat → Nat, sm (fun z => w (f z)) n = sm (fun z => w (f z)) n + (if admR g rg bd ap od rs9 tm gp then extN g rg bd ap od d (tm + 1) (rs9 + gp * 4 ^ tm) w else 0))
    first | exact ⟨by rw [if_pos c_6]; exact e_1, fun w => by rw [if_pos c_6]; exact e_2 w⟩ | exact ⟨by rw [if_neg (by simp [c_6])]; omega, fun w => by rw [if_neg (by simp [c_6])]; omega⟩
  · have c_6 : (admR g rg bd ap od rs9 tm gp) = true := m_bz1 c_6
    refine lv_aload_n hXX hBB dX0_placeIn_9 rfl (lv_at hl 0 rfl) ?_
    refine va_get (D := D) (ci := 0) (v := .ref bM) (C := RX0) (T := TX0) (N := 9) hXX hBB hts iw_X0 hown hK hP 2 rfl rfl 8 (by decide) kw_1 (fun _ h9 => h9) rfl dX0_placeIn_10 ?_
    refine lv_iload_n hXX hBB dX0_placeIn_13 rfl (lv_at hl 1 rfl) ?_
    refine lv_dup2_11 hXX hBB dX0_placeIn_14 rfl rfl ?_
    refine m_iald hXX hBB hK hP 8 0 rfl rfl (i := gp) (by omega) (by decide) (x := nI (mb gp)) rfl dX0_placeIn_15 ?_
    refine lv_iconst (v := nI 1) hXX hBB dX0_placeIn_16 (by decide) ?_
    refine lv_iload_n hXX hBB dX0_placeIn_17 rfl (lv_at hl 2 rfl) ?_
    refine lv_ishl hXX hBB dX0_placeIn_18 ?_
    refine m_top (y := nI (2 ^ tm)) (by exact m_bit (by omega)) ?_
    refine lv_ior hXX hBB dX0_placeIn_19 ?_
    refine m_top (y := nI (mb gp ||| 2 ^ tm)) (by exact q_or _ _) ?_
    refine m_iast hXX hBB hK hP hD hS 8 0 rfl rfl (i := gp) (by omega) (by decide) (g := fun j => nI (updN mb gp (mb gp ||| 2 ^ tm) j)) (m_upd _ _ _) dX0_placeIn_20 (fun H locs hP hD hS => ?_)
    have hP : va_P D vwCl [(h, .inr (1, [.ref a, .int (nI n)])), (a, .inl (cI, 576, .inl (fun j => nI (f j)))), (b, .inr (0, [.int (nI g), .int (nI p), .int (nI T), .ref bR, .ref bB, .ref bA, .ref bO, .ref bP, .ref bM])), (bR, .inl (cI, 9, .inl (fun j => nI (rg j)))), (bB, .inl (cI, 6, .inl (fun j => nI (bd j)))), (bA, .inl (cI, 9, .inl (fun j => nI (ap j)))), (bO, .inl (cI, 9, .inl (fun j => nI (od j)))), (bP, .inl (cI, 9, .inl (fun j => nI (pm j)))), (bM, .inl (cI, 4, .inl (fun j => nI (updN mb gp (mb gp ||| 2 ^ tm) j))))] H := hP
    have hD : va_D AA [(h, .inr (1, [.ref a, .int (nI n)])), (a, .inl (cI, 576, .inl (fun j => nI (f j)))), (b, .inr (0, [.int (nI g), .int (nI p), .int (nI T), .ref bR, .ref bB, .ref bA, .ref bO, .ref bP, .ref bM])), (bR, .inl (cI, 9, .inl (fun j => nI (rg j)))), (bB, .inl (cI, 6, .inl (fun j => nI (bd j)))), (bA, .inl (cI, 9, .inl (fun j => nI (ap j)))), (bO, .inl (cI, 9, .inl (fun j => nI (od j)))), (bP, .inl (cI, 9, .inl (fun j => nI (pm j)))), (bM, .inl (cI, 4, .inl (fun j => nI (updN mb gp (mb gp ||| 2 ^ tm) j))))] := hD
    refine lv_aload_n hXX hBB dX0_placeIn_21 rfl (lv_at hl 0 rfl) ?_
    refine lv_iload_n hXX hBB dX0_placeIn_22 rfl (lv_at hl 2 rfl) ?_
    refine lv_iconst (v := nI 1) hXX hBB dX0_placeIn_23 (by decide) ?_
    refine lv_iadd hXX hBB dX0_placeIn_24 ?_
    refine m_top (y := nI (tm + 1)) (nI_add _ _) ?_
    refine lv_iload_n hXX hBB dX0_placeIn_25 rfl (lv_at hl 3 rfl) ?_
    refine lv_iload_n hXX hBB dX0_placeIn_26 rfl (lv_at hl 2 rfl) ?_
    refine lv_iload_n hXX hBB dX0_placeIn_27 rfl (lv_at hl 1 rfl) ?_
    refine m_scalli (wr := [(h, .inr (1, [.ref a, .int (nI n)])), (a, .inl (cI, 576, .inl (fun j => nI (f j)))), (b, .inr (0, [.int (nI g), .int (nI p), .int (nI T), .ref bR, .ref bB, .ref bA, .ref bO, .ref bP, .ref bM])), (bR, .inl (cI, 9, .inl (fun j => nI (rg j)))), (bB, .inl (cI, 6, .inl (fun j => nI (bd j)))), (bA, .inl (cI, 9, .inl (fun j => nI (ap j)))), (bO, .inl (cI, 9, .inl (fun j => nI (od j)))), (bP, .inl (cI, 9, .inl (fun j => nI (pm j)))), (bM, .inl (cI, 4, .inl (fun j => nI (updN mb gp (mb gp ||| 2 ^ tm) j))))]) ⟨hXX, hBB, hml, hown, hts⟩ hN (kX1_with l D rs9 tm gp (by assumption) (by omega) (by omega)) (va_cwS 3 hts gX0_placeIn_X1_with rfl rfl rfl (by decide +kernel) ⟨by simp only [rmX1_with, rmPI]; omega, by simp only [rmX1_with, rmPI]; omega⟩) hK hP hD hS hAA [] [0, 1, 2, 3, 4, 5, 6, 7, 8] [] rfl rfl rfl (by decide) (by decide) (by decide) rfl hl.1 rfl (Nat.le_of_ble_eq_true rfl) dX0_placeIn_28 ⟨Nat.le_of_ble_eq_true rfl, Nat.le_of_ble_eq_true rfl⟩ (k := 0) (n := 0) rfl rfl (fun r_2 u_ H locs hw hP hD hS => ?_)
    have hw : (r_2 = nI (rs9 + gp * 4 ^ tm)) := hw
    have hr_r_2 := hw
    have hP : va_P D vwCl [(h, .inr (1, [.ref a, .int (nI n)])), (a, .inl (cI, 576, .inl (fun j => nI (f j)))), (b, .inr (0, [.int (nI g), .int (nI p), .int (nI T), .ref bR, .ref bB, .ref bA, .ref bO, .ref bP, .ref bM])), (bR, .inl (cI, 9, .inl (fun j => nI (rg j)))), (bB, .inl (cI, 6, .inl (fun j => nI (bd j)))), (bA, .inl (cI, 9, .inl (fun j => nI (ap j)))), (bO, .inl (cI, 9, .inl (fun j => nI (od j)))), (bP, .inl (cI, 9, .inl (fun j => nI (pm j)))), (bM, .inl (cI, 4, .inl (fun j => nI (updN mb gp (mb gp ||| 2 ^ tm) j))))] H := hP
    have hD : va_D AA [(h, .inr (1, [.ref a, .int (nI n)])), (a, .inl (cI, 576, .inl (fun j => nI (f j)))), (b, .inr (0, [.int (nI g), .int (nI p), .int (nI T), .ref bR, .ref bB, .ref bA, .ref bO, .ref bP, .ref bM])), (bR, .inl (cI, 9, .inl (fun j => nI (rg j)))), (bB, .inl (cI, 6, .inl (fun j => nI (bd j)))), (bA, .inl (cI, 9, .inl (fun j => nI (ap j)))), (bO, .inl (cI, 9, .inl (fun j => nI (od j)))), (bP, .inl (cI, 9, .inl (fun j => nI (pm j)))), (bM, .inl (cI, 4, .inl (fun j => nI (updN mb gp (mb gp ||| 2 ^ tm) j))))] := hD
    subst hr_r_2
    refine lv_aload hXX hBB dX0_placeIn_31 (lv_at hl 4 rfl) ?_
    refine m_callv (wr := []) ⟨hXX, hBB, hml, hown, hts⟩ hN (hPF b g p T bR bB bA bO bP bM rg bd ap od pm (updN mb gp (mb gp ||| 2 ^ tm)) h a f n (tm + 1) (rs9 + gp * 4 ^ tm) (by omega) (by omega) (by omega) (by omega) (by assumption) (by assumption) (by assumption) (by assumption) (by assumption) (by exact res_lt hrs9 (by omega)) (by exact res_gr hrs9 hgr (by omega) hgp) (by exact fun z hz => msk_next hrs9 hmb (by omega) z hz) (by rw [if_pos c_6] at hn; exact hn)) (cwV 3 hts gX0_placeIn_X0_placeFrom rfl rfl rfl (by decide +kernel) ⟨by simp only [rmPF, rmPI]; omega, by simp only [rmPF, rmPI]; omega⟩) hK hP hD hS hAA [2, 3, 4, 5, 6, 7, 8, 0, 1] [] [0] rfl rfl rfl (by decide) (by decide) (by decide) rfl 0 rfl rfl rfl rfl hl.1 rfl (Nat.le_of_ble_eq_true rfl) dX0_placeIn_33 ⟨Nat.le_of_ble_eq_true rfl, Nat.le_of_ble_eq_true rfl⟩ (k := 0) (n := 0) rfl rfl (fun  u_ H locs hw hP hD hS => ?_)
    obtain ⟨fo, ko⟩ := u_
    have hw : (ko = n + extN g rg bd ap od d (tm + 1) (rs9 + gp * 4 ^ tm) (fun _ => 1)) ∧ (∀ w : Nat → Nat, sm (fun z => w (fo z)) ko = sm (fun z => w (f z)) n + extN g rg bd ap od d (tm + 1) (rs9 + gp * 4 ^ tm) w) := hw
    obtain ⟨e_1, e_2⟩ := hw
    have hP : va_P D vwCl [(b, .inr (0, [.int (nI g), .int (nI p), .int (nI T), .ref bR, .ref bB, .ref bA, .ref bO, .ref bP, .ref bM])), (bR, .inl (cI, 9, .inl (fun j => nI (rg j)))), (bB, .inl (cI, 6, .inl (fun j => nI (bd j)))), (bA, .inl (cI, 9, .inl (fun j => nI (ap j)))), (bO, .inl (cI, 9, .inl (fun j => nI (od j)))), (bP, .inl (cI, 9, .inl (fun j => nI (pm j)))), (bM, .inl (cI, 4, .inl (fun j => nI ((updN mb gp (mb gp ||| 2 ^ tm)) j)))), (h, .inr (1, [.ref a, .int (nI ko)])), (a, .inl (cI, 576, .inl (fun j => nI (fo j))))] H := hP
    have hD : va_D AA [(b, .inr (0, [.int (nI g), .int (nI p), .int (nI T), .ref bR, .ref bB, .ref bA, .ref bO, .ref bP, .ref bM])), (bR, .inl (cI, 9, .inl (fun j => nI (rg j)))), (bB, .inl (cI, 6, .inl (fun j => nI (bd j)))), (bA, .inl (cI, 9, .inl (fun j => nI (ap j)))), (bO, .inl (cI, 9, .inl (fun j => nI (od j)))), (bP, .inl (cI, 9, .inl (fun j => nI (pm j)))), (bM, .inl (cI, 4, .inl (fun j => nI ((updN mb gp (mb gp ||| 2 ^ tm)) j)))), (h, .inr (1, [.ref a, .int (nI ko)])), (a, .inl (cI, 576, .inl (fun j => nI (fo j))))] := hD
    refine lv_aload_n hXX hBB dX0_placeIn_36 rfl (lv_at hl 0 rfl) ?_
    refine va_get (D := D) (ci := 0) (v := .ref bM) (C := RX0) (T := TX0) (N := 9) hXX hBB hts iw_X0 hown hK hP 0 rfl rfl 8 (by decide) kw_1 (fun _ h9 => h9) rfl dX0_placeIn_37 ?_
    refine lv_iload_n hXX hBB dX0_placeIn_40 rfl (lv_at hl 1 rfl) ?_
    refine lv_dup2_11 hXX hBB dX0_placeIn_41 rfl rfl ?_
    refine m_iald hXX hBB hK hP 6 0 rfl rfl (i := gp) (by omega) (by decide) (x := nI ((updN mb gp (mb gp ||| 2 ^ tm)) gp)) rfl dX0_placeIn_42 ?_
    refine lv_iconst (v := nI 1) hXX hBB dX0_placeIn_43 (by decide) ?_
    refine lv_iload_n hXX hBB dX0_placeIn_44 rfl (lv_at hl 2 rfl) ?_
    refine lv_ishl hXX hBB dX0_placeIn_45 ?_
    refine m_top (y := nI (2 ^ tm)) (by exact m_bit (by omega)) ?_
    refine lv_iconst (v := (-1)) hXX hBB dX0_placeIn_46 (by decide) ?_
    refine lv_ixor hXX hBB dX0_placeIn_47 ?_
    refine lv_iand hXX hBB dX0_placeIn_48 ?_
    refine m_top (y := nI (clrB (updN mb gp (mb gp ||| 2 ^ tm) gp) tm)) (by exact m_clr _ (by rw [updN_s]; exact or512 hmg (pow512 (by omega))) _ (by omega)) ?_
    refine m_iast hXX hBB hK hP hD hS 6 0 rfl rfl (i := gp) (by omega) (by decide) (g := fun j => nI (updN (updN mb gp (mb gp ||| 2 ^ tm)) gp (clrB (updN mb gp (mb gp ||| 2 ^ tm) gp) tm) j)) (m_upd _ _ _) dX0_placeIn_49 (fun H locs hP hD hS => ?_)
    have hP : va_P D vwCl [(b, .inr (0, [.int (nI g), .int (nI p), .int (nI T), .ref bR, .ref bB, .ref bA, .ref bO, .ref bP, .ref bM])), (bR, .inl (cI, 9, .inl (fun j => nI (rg j)))), (bB, .inl (cI, 6, .inl (fun j => nI (bd j)))), (bA, .inl (cI, 9, .inl (fun j => nI (ap j)))), (bO, .inl (cI, 9, .inl (fun j => nI (od j)))), (bP, .inl (cI, 9, .inl (fun j => nI (pm j)))), (bM, .inl (cI, 4, .inl (fun j => nI (updN (updN mb gp (mb gp ||| 2 ^ tm)) gp (clrB (updN mb gp (mb gp ||| 2 ^ tm) gp) tm) j)))), (h, .inr (1, [.ref a, .int (nI ko)])), (a, .inl (cI, 576, .inl (fun j => nI (fo j))))] H := hP
    have hD : va_D AA [(b, .inr (0, [.int (nI g), .int (nI p), .int (nI T), .ref bR, .ref bB, .ref bA, .ref bO, .ref bP, .ref bM])), (bR, .inl (cI, 9, .inl (fun j => nI (rg j)))), (bB, .inl (cI, 6, .inl (fun j => nI (bd j)))), (bA, .inl (cI, 9, .inl (fun j => nI (ap j)))), (bO, .inl (cI, 9, .inl (fun j => nI (od j)))), (bP, .inl (cI, 9, .inl (fun j => nI (pm j)))), (bM, .inl (cI, 4, .inl (fun j => nI (updN (updN mb gp (mb gp ||| 2 ^ tm)) gp (clrB (updN mb gp (mb gp ||| 2 ^ tm) gp) tm) j)))), (h, .inr (1, [.ref a, .int (nI ko)])), (a, .inl (cI, 576, .inl (fun j => nI (fo j))))] := hD
    have hmm9 : (fun j => nI (updN (updN mb gp (mb gp ||| 2 ^ tm)) gp (clrB (updN mb gp (mb gp ||| 2 ^ tm) gp) tm) j)) = (fun j => nI (mb j)) := by
      funext j
      rw [msk_back (hmb gp hgp) (by omega)]
    rw [hmm9] at hP hD
    have hP : va_P D vwCl [(b, .inr (0, [.int (nI g), .int (nI p), .int (nI T), .ref bR, .ref bB, .ref bA, .ref bO, .ref bP, .ref bM])), (bR, .inl (cI, 9, .inl (fun j => nI (rg j)))), (bB, .inl (cI, 6, .inl (fun j => nI (bd j)))), (bA, .inl (cI, 9, .inl (fun j => nI (ap j)))), (bO, .inl (cI, 9, .inl (fun j => nI (od j)))), (bP, .inl (cI, 9, .inl (fun j => nI (pm j)))), (bM, .inl (cI, 4, .inl (fun j => nI (mb j)))), (h, .inr (1, [.ref a, .int (nI ko)])), (a, .inl (cI, 576, .inl (fun j => nI (fo j))))] H := hP
    have hD : va_D AA [(b, .inr (0, [.int (nI g), .int (nI p), .int (nI T), .ref bR, .ref bB, .ref bA, .ref bO, .ref bP, .ref bM])), (bR, .inl (cI, 9, .inl (fun j => nI (rg j)))), (bB, .inl (cI, 6, .inl (fun j => nI (bd j)))), (bA, .inl (cI, 9, .inl (fun j => nI (ap j)))), (bO, .inl (cI, 9, .inl (fun j => nI (od j)))), (bP, .inl (cI, 9, .inl (fun j => nI (pm j)))), (bM, .inl (cI, 4, .inl (fun j => nI (mb j)))), (h, .inr (1, [.ref a, .int (nI ko)])), (a, .inl (cI, 576, .inl (fun j => nI (fo j))))] := hD
    refine hret (fo, ko) ?_ (hP.sub [0, 1, 2, 3, 4, 5, 6, 7, 8] rfl) (hD.sub [0, 1, 2, 3, 4, 5, 6, 7, 8] (by decide) rfl) hS (Nat.le_of_ble_eq_true rfl) (Nat.le_of_ble_eq_true rfl) dX0_placeIn_50
    show (ko = n + (if admR g rg bd ap od rs9 tm gp then extN g rg bd ap od d (tm + 1) (rs9 + gp * 4 ^ tm) (fun _ => 1) else 0)) ∧ (∀ w : Nat → Nat, sm (fun z => w (fo z)) ko = sm (fun z => w (f z)) n + (if admR g rg bd ap od rs9 tm gp then extN g rg bd ap od d (tm + 1) (rs9 + gp * 4 ^ tm) w else 0))
    first | exact ⟨by rw [if_pos c_6]; exact e_1, fun w => by rw [if_pos c_6]; exact e_2 w⟩ | exact ⟨by rw [if_neg (by simp [c_6])]; omega, fun w => by rw [if_neg (by simp [c_6])]; omega⟩
set_option maxHeartbeats 4000000 in
set_option maxRecDepth 100000 in
theorem kX0_placeFrom_0 (l : Launch) (D : va_G) (cI : ClassId) (b : Nat) (g : Nat) (p : Nat) (T : Nat) (bR : Nat) (bB : Nat) (bA : Nat) (bO : Nat) (bP : Nat) (bM : Nat) (rg : Nat → Nat) (bd : Nat → Nat) (ap : Nat → Nat) (od : Nat → Nat) (pm : Nat → Nat) (mb : Nat → Nat) (h : Nat) (a : Nat) (f : Nat → Nat) (n : Nat) (tm : Nat) (rs9 : Nat) (htd : tm + 0 = T) (hg0 : 0 < g) (hg4 : g ≤ 4) (hT : T ≤ 9) (hrg : ∀ z, z < 9 → rg z < 6) (hbd : ∀ z, z < 6 → bd z < 4) (hap : ∀ z, ap z < 512) (hod : ∀ z, od z < 512) (hpm : ∀ z, z < T → pm z = pmN g z) (hrs9 : rs9 < 4 ^ tm) (hgr : ∀ z, z < tm → gr rs9 z < g) (hmb : ∀ z, z < g → mb z = mskN rs9 tm z) (hn : n + extN g rg bd ap od 0 tm rs9 (fun _ => 1) ≤ 576) : Cv l yX0_placeFrom wsX0_placeFrom (rmPF 0) D [(cI, .int)] [.ref b, .int (nI tm), .int (nI rs9), .ref h] [(b, .inr (0, [.int (nI g), .int (nI p), .int (nI T), .ref bR, .ref bB, .ref bA, .ref bO, .ref bP, .ref bM])), (bR, .inl (cI, 9, .inl (fun j => nI (rg j)))), (bB, .inl (cI, 6, .inl (fun j => nI (bd j)))), (bA, .inl (cI, 9, .inl (fun j => nI (ap j)))), (bO, .inl (cI, 9, .inl (fun j => nI (od j)))), (bP, .inl (cI, 9, .inl (fun j => nI (pm j)))), (bM, .inl (cI, 4, .inl (fun j => nI (mb j)))), (h, .inr (1, [.ref a, .int (nI n)])), (a, .inl (cI, 576, .inl (fun j => nI (f j))))] (fun (u : (Nat → Nat) × Nat) => (u.2 = n + extN g rg bd ap od 0 tm rs9 (fun _ => 1)) ∧ (∀ w : Nat → Nat, sm (fun z => w (u.1 z)) u.2 = sm (fun z => w (f z)) n + extN g rg bd ap od 0 tm rs9 w)) (fun (u : (Nat → Nat) × Nat) => [(b, .inr (0, [.int (nI g), .int (nI p), .int (nI T), .ref bR, .ref bB, .ref bA, .ref bO, .ref bP, .ref bM])), (bR, .inl (cI, 9, .inl (fun j => nI (rg j)))), (bB, .inl (cI, 6, .inl (fun j => nI (bd j)))), (bA, .inl (cI, 9, .inl (fun j => nI (ap j)))), (bO, .inl (cI, 9, .inl (fun j => nI (od j)))), (bP, .inl (cI, 9, .inl (fun j => nI (pm j)))), (bM, .inl (cI, 4, .inl (fun j => nI (mb j)))), (h, .inr (1, [.ref a, .int (nI u.2)])), (a, .inl (cI, 576, .inl (fun j => nI (u.1 j))))]) := by
  refine Cv_of (cc := cX0_placeFrom) (maxL := 5) (by decide) rfl (Nat.le_of_ble_eq_true rfl) ?_
  intro pR eV sT mI args below meth cO AA QQ ls hXX hBB hml hown hts hnm hN hK hP hD hS hAA hl hret
  have hl : lv_has ls 5 [(0, .ref b), (1, .int (nI tm)), (2, .int (nI rs9)), (3, .ref h)] := hl
  have kw_1 := hts (.fieldLink RX0 37 "CupDraw$Bowl" "teams" "I") (List.mem_of_getElem? (i := 1) rfl)
  have iw_X0 : ∀ w ∈ wsX00, w ∈ wsX0_placeFrom := by decide +kernel
  refine lv_iload_n hXX hBB dX0_placeFrom_0 rfl (lv_at hl 1 rfl) ?_
  refine lv_aload_n hXX hBB dX0_placeFrom_1 rfl (lv_at hl 0 rfl) ?_
  refine va_get (D := D) (ci := 0) (v := .int (nI T)) (C := RX0) (T := TX0) (N := 9) hXX hBB hts iw_X0 hown hK hP 0 rfl rfl 2 (by decide) kw_1 (fun _ h9 => h9) rfl dX0_placeFrom_2 ?_
  refine lv_icmp_lt (tgt := 14) hXX hBB dX0_placeFrom_5 (by decide) (fun c_5 => ?_) (fun c_5 => ?_)
  · have c_5 : tm < T := (nI_ltI (by omega) (by omega)).mp c_5
    omega
  · have c_5 : ¬ tm < T := fun h9 => c_5 ((nI_ltI (by omega) (by omega)).mpr h9)
    refine lv_aload_n hXX hBB dX0_placeFrom_8 rfl (lv_at hl 3 rfl) ?_
    refine lv_iload_n hXX hBB dX0_placeFrom_9 rfl (lv_at hl 2 rfl) ?_
    refine m_callv (wr := [(b, .inr (0, [.int (nI g), .int (nI p), .int (nI T), .ref bR, .ref bB, .ref bA, .ref bO, .ref bP, .ref bM])), (bR, .inl (cI, 9, .inl (fun j => nI (rg j)))), (bB, .inl (cI, 6, .inl (fun j => nI (bd j)))), (bA, .inl (cI, 9, .inl (fun j => nI (ap j)))), (bO, .inl (cI, 9, .inl (fun j => nI (od j)))), (bP, .inl (cI, 9, .inl (fun j => nI (pm j)))), (bM, .inl (cI, 4, .inl (fun j => nI (mb j))))]) ⟨hXX, hBB, hml, hown, hts⟩ hN (kX1_add l D cI h a f n rs9 (by simp only [extN] at hn; omega)) (cwV 1 hts gX0_placeFrom_X1_add rfl rfl rfl (by decide +kernel) ⟨by simp only [rmX1_add, rmPF]; omega, by simp only [rmX1_add, rmPF]; omega⟩) hK hP hD hS hAA [7, 8] [0, 1, 2, 3, 4, 5, 6] [0] rfl rfl rfl (by decide) (by decide) (by decide) rfl 1 rfl rfl rfl rfl hl.1 rfl (Nat.le_of_ble_eq_true rfl) dX0_placeFrom_10 ⟨Nat.le_of_ble_eq_true rfl, Nat.le_of_ble_eq_true rfl⟩ (k := 0) (n := 0) rfl rfl (fun  u_ H locs hw hP hD hS => ?_)
    have hP : va_P D vwCl [(b, .inr (0, [.int (nI g), .int (nI p), .int (nI T), .ref bR, .ref bB, .ref bA, .ref bO, .ref bP, .ref bM])), (bR, .inl (cI, 9, .inl (fun j => nI (rg j)))), (bB, .inl (cI, 6, .inl (fun j => nI (bd j)))), (bA, .inl (cI, 9, .inl (fun j => nI (ap j)))), (bO, .inl (cI, 9, .inl (fun j => nI (od j)))), (bP, .inl (cI, 9, .inl (fun j => nI (pm j)))), (bM, .inl (cI, 4, .inl (fun j => nI (mb j)))), (h, .inr (1, [.ref a, .int (nI (n + 1))])), (a, .inl (cI, 576, .inl (fun j => nI (updN f n rs9 j))))] H := hP
    have hD : va_D AA [(b, .inr (0, [.int (nI g), .int (nI p), .int (nI T), .ref bR, .ref bB, .ref bA, .ref bO, .ref bP, .ref bM])), (bR, .inl (cI, 9, .inl (fun j => nI (rg j)))), (bB, .inl (cI, 6, .inl (fun j => nI (bd j)))), (bA, .inl (cI, 9, .inl (fun j => nI (ap j)))), (bO, .inl (cI, 9, .inl (fun j => nI (od j)))), (bP, .inl (cI, 9, .inl (fun j => nI (pm j)))), (bM, .inl (cI, 4, .inl (fun j => nI (mb j)))), (h, .inr (1, [.ref a, .int (nI (n + 1))])), (a, .inl (cI, 576, .inl (fun j => nI (updN f n rs9 j))))] := hD
    refine hret (updN f n rs9, n + 1) ?_ (hP.sub [0, 1, 2, 3, 4, 5, 6, 7, 8] rfl) (hD.sub [0, 1, 2, 3, 4, 5, 6, 7, 8] (by decide) rfl) hS (Nat.le_of_ble_eq_true rfl) (Nat.le_of_ble_eq_true rfl) dX0_placeFrom_13
    show ((n + 1) = n + extN g rg bd ap od 0 tm rs9 (fun _ => 1)) ∧ (∀ w : Nat → Nat, sm (fun z => w ((updN f n rs9) z)) (n + 1) = sm (fun z => w (f z)) n + extN g rg bd ap od 0 tm rs9 w)
    exact ⟨rfl, fun w => by simp only [sm, extN]; rw [updN_s, sm_le_upd (Nat.le_refl n) w]⟩
set_option maxHeartbeats 4000000 in
set_option maxRecDepth 100000 in
theorem kX0_placeFrom_s (l : Launch) (D : va_G) (cI : ClassId) (d : Nat) (b : Nat) (g : Nat) (p : Nat) (T : Nat) (bR : Nat) (bB : Nat) (bA : Nat) (bO : Nat) (bP : Nat) (bM : Nat) (rg : Nat → Nat) (bd : Nat → Nat) (ap : Nat → Nat) (od : Nat → Nat) (pm : Nat → Nat) (mb : Nat → Nat) (h : Nat) (a : Nat) (f : Nat → Nat) (n : Nat) (tm : Nat) (rs9 : Nat) (hPI : ∀ (b : Nat) (g : Nat) (p : Nat) (T : Nat) (bR : Nat) (bB : Nat) (bA : Nat) (bO : Nat) (bP : Nat) (bM : Nat) (rg : Nat → Nat) (bd : Nat → Nat) (ap : Nat → Nat) (od : Nat → Nat) (pm : Nat → Nat) (mb : Nat → Nat) (h : Nat) (a : Nat) (f : Nat → Nat) (n : Nat) (gp : Nat) (tm : Nat) (rs9 : Nat) (htd : tm + 1 + d = T) (hg0 : 0 < g) (hg4 : g ≤ 4) (hT : T ≤ 9) (hrg : ∀ z, z < 9 → rg z < 6) (hbd : ∀ z, z < 6 → bd z < 4) (hap : ∀ z, ap z < 512) (hod : ∀ z, od z < 512) (hpm : ∀ z, z < T → pm z = pmN g z) (hrs9 : rs9 < 4 ^ tm) (hgr : ∀ z, z < tm → gr rs9 z < g) (hmb : ∀ z, z < g → mb z = mskN rs9 tm z) (hgp : gp < g) (hn : n + (if admR g rg bd ap od rs9 tm gp then extN g rg bd ap od d (tm + 1) (rs9 + gp * 4 ^ tm) (fun _ => 1) else 0) ≤ 576), Cv l yX0_placeIn wsX0_placeIn (rmPI d) D [(cI, .int)] [.ref b, .int (nI gp), .int (nI tm), .int (nI rs9), .ref h] [(b, .inr (0, [.int (nI g), .int (nI p), .int (nI T), .ref bR, .ref bB, .ref bA, .ref bO, .ref bP, .ref bM])), (bR, .inl (cI, 9, .inl (fun j => nI (rg j)))), (bB, .inl (cI, 6, .inl (fun j => nI (bd j)))), (bA, .inl (cI, 9, .inl (fun j => nI (ap j)))), (bO, .inl (cI, 9, .inl (fun j => nI (od j)))), (bP, .inl (cI, 9, .inl (fun j => nI (pm j)))), (bM, .inl (cI, 4, .inl (fun j => nI (mb j)))), (h, .inr (1, [.ref a, .int (nI n)])), (a, .inl (cI, 576, .inl (fun j => nI (f j))))] (fun (u : (Nat → Nat) × Nat) => (u.2 = n + (if admR g rg bd ap od rs9 tm gp then extN g rg bd ap od d (tm + 1) (rs9 + gp * 4 ^ tm) (fun _ => 1) else 0)) ∧ (∀ w : Nat → Nat, sm (fun z => w (u.1 z)) u.2 = sm (fun z => w (f z)) n + (if admR g rg bd ap od rs9 tm gp then extN g rg bd ap od d (tm + 1) (rs9 + gp * 4 ^ tm) w else 0))) (fun (u : (Nat → Nat) × Nat) => [(b, .inr (0, [.int (nI g), .int (nI p), .int (nI T), .ref bR, .ref bB, .ref bA, .ref bO, .ref bP, .ref bM])), (bR, .inl (cI, 9, .inl (fun j => nI (rg j)))), (bB, .inl (cI, 6, .inl (fun j => nI (bd j)))), (bA, .inl (cI, 9, .inl (fun j => nI (ap j)))), (bO, .inl (cI, 9, .inl (fun j => nI (od j)))), (bP, .inl (cI, 9, .inl (fun j => nI (pm j)))), (bM, .inl (cI, 4, .inl (fun j => nI (mb j)))), (h, .inr (1, [.ref a, .int (nI u.2)])), (a, .inl (cI, 576, .inl (fun j => nI (u.1 j))))])) (htd : tm + (d + 1) = T) (hg0 : 0 < g) (hg4 : g ≤ 4) (hT : T ≤ 9) (hrg : ∀ z, z < 9 → rg z < 6) (hbd : ∀ z, z < 6 → bd z < 4) (hap : ∀ z, ap z < 512) (hod : ∀ z, od z < 512) (hpm : ∀ z, z < T → pm z = pmN g z) (hrs9 : rs9 < 4 ^ tm) (hgr : ∀ z, z < tm → gr rs9 z < g) (hmb : ∀ z, z < g → mb z = mskN rs9 tm z) (hn : n + extN g rg bd ap od (d + 1) tm rs9 (fun _ => 1) ≤ 576) : Cv l yX0_placeFrom wsX0_placeFrom (rmPF (d + 1)) D [(cI, .int)] [.ref b, .int (nI tm), .int (nI rs9), .ref h] [(b, .inr (0, [.int (nI g), .int (nI p), .int (nI T), .ref bR, .ref bB, .ref bA, .ref bO, .ref bP, .ref bM])), (bR, .inl (cI, 9, .inl (fun j => nI (rg j)))), (bB, .inl (cI, 6, .inl (fun j => nI (bd j)))), (bA, .inl (cI, 9, .inl (fun j => nI (ap j)))), (bO, .inl (cI, 9, .inl (fun j => nI (od j)))), (bP, .inl (cI, 9, .inl (fun j => nI (pm j)))), (bM, .inl (cI, 4, .inl (fun j => nI (mb j)))), (h, .inr (1, [.ref a, .int (nI n)])), (a, .inl (cI, 576, .inl (fun j => nI (f j))))] (fun (u : (Nat → Nat) × Nat) => (u.2 = n + extN g rg bd ap od (d + 1) tm rs9 (fun _ => 1)) ∧ (∀ w : Nat → Nat, sm (fun z => w (u.1 z)) u.2 = sm (fun z => w (f z)) n + extN g rg bd ap od (d + 1) tm rs9 w)) (fun (u : (Nat → Nat) × Nat) => [(b, .inr (0, [.int (nI g), .int (nI p), .int (nI T), .ref bR, .ref bB, .ref bA, .ref bO, .ref bP, .ref bM])), (bR, .inl (cI, 9, .inl (fun j => nI (rg j)))), (bB, .inl (cI, 6, .inl (fun j => nI (bd j)))), (bA, .inl (cI, 9, .inl (fun j => nI (ap j)))), (bO, .inl (cI, 9, .inl (fun j => nI (od j)))), (bP, .inl (cI, 9, .inl (fun j => nI (pm j)))), (bM, .inl (cI, 4, .inl (fun j => nI (mb j)))), (h, .inr (1, [.ref a, .int (nI u.2)])), (a, .inl (cI, 576, .inl (fun j => nI (u.1 j))))]) := by
  refine Cv_of (cc := cX0_placeFrom) (maxL := 5) (by decide) rfl (Nat.le_of_ble_eq_true rfl) ?_
  intro pR eV sT mI args below meth cO AA QQ ls hXX hBB hml hown hts hnm hN hK hP hD hS hAA hl hret
  have hl : lv_has ls 5 [(0, .ref b), (1, .int (nI tm)), (2, .int (nI rs9)), (3, .ref h)] := hl
  have kw_1 := hts (.fieldLink RX0 37 "CupDraw$Bowl" "teams" "I") (List.mem_of_getElem? (i := 1) rfl)
  have iw_X0 : ∀ w ∈ wsX00, w ∈ wsX0_placeFrom := by decide +kernel
  have kw_2 := hts (.fieldLink RX0 30 "CupDraw$Bowl" "groups" "I") (List.mem_of_getElem? (i := 2) rfl)
  refine lv_iload_n hXX hBB dX0_placeFrom_0 rfl (lv_at hl 1 rfl) ?_
  refine lv_aload_n hXX hBB dX0_placeFrom_1 rfl (lv_at hl 0 rfl) ?_
  refine va_get (D := D) (ci := 0) (v := .int (nI T)) (C := RX0) (T := TX0) (N := 9) hXX hBB hts iw_X0 hown hK hP 0 rfl rfl 2 (by decide) kw_1 (fun _ h9 => h9) rfl dX0_placeFrom_2 ?_
  refine lv_icmp_lt (tgt := 14) hXX hBB dX0_placeFrom_5 (by decide) (fun c_5 => ?_) (fun c_5 => ?_)
  · have c_5 : tm < T := (nI_ltI (by omega) (by omega)).mp c_5
    refine lv_iconst (v := nI 0) hXX hBB dX0_placeFrom_14 (by decide) ?_
    refine lv_istore (lv' := [(4, .int (nI 0)), (0, .ref b), (1, .int (nI tm)), (2, .int (nI rs9)), (3, .ref h)]) hXX hBB dX0_placeFrom_15 hl (by decide) rfl (fun ls hl => ?_)
    have L_17 : ∀ (N_17 : Nat) (gp : Nat) (fp : Nat → Nat) (kp : Nat), (gp ≤ g) → (kp = n + sm (fun zg => if admR g rg bd ap od rs9 tm zg then extN g rg bd ap od d (tm + 1) (rs9 + zg * 4 ^ tm) (fun _ => 1) else 0) gp) → (∀ w : Nat → Nat, sm (fun z => w (fp z)) kp = sm (fun z => w (f z)) n + sm (fun zg => if admR g rg bd ap od rs9 tm zg then extN g rg bd ap od d (tm + 1) (rs9 + zg * 4 ^ tm) w else 0) gp) → g - gp < N_17 → ∀ (H : Heap) (locs : List Loc), va_P D vwCl [(b, .inr (0, [.int (nI g), .int (nI p), .int (nI T), .ref bR, .ref bB, .ref bA, .ref bO, .ref bP, .ref bM])), (bR, .inl (cI, 9, .inl (fun j => nI (rg j)))), (bB, .inl (cI, 6, .inl (fun j => nI (bd j)))), (bA, .inl (cI, 9, .inl (fun j => nI (ap j)))), (bO, .inl (cI, 9, .inl (fun j => nI (od j)))), (bP, .inl (cI, 9, .inl (fun j => nI (pm j)))), (bM, .inl (cI, 4, .inl (fun j => nI (mb j)))), (h, .inr (1, [.ref a, .int (nI kp)])), (a, .inl (cI, 576, .inl (fun j => nI (fp j))))] H → va_D AA [(b, .inr (0, [.int (nI g), .int (nI p), .int (nI T), .ref bR, .ref bB, .ref bA, .ref bO, .ref bP, .ref bM])), (bR, .inl (cI, 9, .inl (fun j => nI (rg j)))), (bB, .inl (cI, 6, .inl (fun j => nI (bd j)))), (bA, .inl (cI, 9, .inl (fun j => nI (ap j)))), (bO, .inl (cI, 9, .inl (fun j => nI (od j)))), (bP, .inl (cI, 9, .inl (fun j => nI (pm j)))), (bM, .inl (cI, 4, .inl (fun j => nI (mb j)))), (h, .inr (1, [.ref a, .int (nI kp)])), (a, .inl (cI, 576, .inl (fun j => nI (fp j))))] → va_S AA sT.heap H locs → ∀ (ls : Array Slot), lv_has ls 5 [(4, .int (nI gp)), (0, .ref b), (1, .int (nI tm)), (2, .int (nI rs9)), (3, .ref h)] → W pR l eV (rmPF (d + 1)) sT mI args below meth cO H locs 0 0 QQ (F0 mI 17 ls []) := by
      intro N_17
      induction N_17 with
      | zero =>
        intro gp fp kp hgp hk1 hk2 hMM
        exact absurd hMM (Nat.not_lt_zero _)
      | succ N_17 ih_17 =>
        intro gp fp kp hgp hk1 hk2 hMM H locs hP hD hS ls hl
        refine lv_iload hXX hBB dX0_placeFrom_17 (lv_at hl 0 rfl) ?_
        refine lv_aload_n hXX hBB dX0_placeFrom_19 rfl (lv_at hl 1 rfl) ?_
        refine va_get (D := D) (ci := 0) (v := .int (nI g)) (C := RX0) (T := TX0) (N := 9) hXX hBB hts iw_X0 hown hK hP 0 rfl rfl 0 (by decide) kw_2 (fun _ h9 => h9) rfl dX0_placeFrom_20 ?_
        refine lv_icmp_ge (tgt := 41) hXX hBB dX0_placeFrom_23 (by decide) (fun c_23 => ?_) (fun c_23 => ?_)
        · have c_23 : g ≤ gp := (nI_leI (by omega) (by omega)).mp c_23
          have hE : gp = g := by omega
          rw [hE] at hk1 hk2
          refine hret (fp, kp) ?_ (hP.sub [0, 1, 2, 3, 4, 5, 6, 7, 8] rfl) (hD.sub [0, 1, 2, 3, 4, 5, 6, 7, 8] (by decide) rfl) hS (Nat.le_of_ble_eq_true rfl) (Nat.le_of_ble_eq_true rfl) dX0_placeFrom_41
          show (kp = n + extN g rg bd ap od (d + 1) tm rs9 (fun _ => 1)) ∧ (∀ w : Nat → Nat, sm (fun z => w (fp z)) kp = sm (fun z => w (f z)) n + extN g rg bd ap od (d + 1) tm rs9 w)
          exact ⟨hk1, hk2⟩
        · have c_23 : ¬ g ≤ gp := fun h9 => c_23 ((nI_leI (by omega) (by omega)).mpr h9)
          refine lv_aload_n hXX hBB dX0_placeFrom_26 rfl (lv_at hl 1 rfl) ?_
          refine lv_iload hXX hBB dX0_placeFrom_27 (lv_at hl 0 rfl) ?_
          refine lv_iload_n hXX hBB dX0_placeFrom_29 rfl (lv_at hl 2 rfl) ?_
          refine lv_iload_n hXX hBB dX0_placeFrom_30 rfl (lv_at hl 3 rfl) ?_
          refine lv_aload_n hXX hBB dX0_placeFrom_31 rfl (lv_at hl 4 rfl) ?_
          refine m_callv (wr := []) ⟨hXX, hBB, hml, hown, hts⟩ hN (hPI b g p T bR bB bA bO bP bM rg bd ap od pm mb h a fp kp gp tm rs9 (by omega) (by omega) (by omega) (by omega) (by assumption) (by assumption) (by assumption) (by assumption) (by assumption) (by assumption) (by assumption) (by assumption) (by omega) (by exact ext_room hk1 hn (by omega))) (cwV 4 hts gX0_placeFrom_X0_placeIn rfl rfl rfl (by decide +kernel) ⟨by simp only [rmPF, rmPI]; omega, by simp only [rmPF, rmPI]; omega⟩) hK hP hD hS hAA [0, 1, 2, 3, 4, 5, 6, 7, 8] [] [0] rfl rfl rfl (by decide) (by decide) (by decide) rfl 0 rfl rfl rfl rfl hl.1 rfl (Nat.le_of_ble_eq_true rfl) dX0_placeFrom_32 ⟨Nat.le_of_ble_eq_true rfl, Nat.le_of_ble_eq_true rfl⟩ (k := 0) (n := 0) rfl rfl (fun  u_ H locs hw hP hD hS => ?_)
          obtain ⟨fo, ko⟩ := u_
          have hw : (ko = kp + (if admR g rg bd ap od rs9 tm gp then extN g rg bd ap od d (tm + 1) (rs9 + gp * 4 ^ tm) (fun _ => 1) else 0)) ∧ (∀ w : Nat → Nat, sm (fun z => w (fo z)) ko = sm (fun z => w (fp z)) kp + (if admR g rg bd ap od rs9 tm gp then extN g rg bd ap od d (tm + 1) (rs9 + gp * 4 ^ tm) w else 0)) := hw
          obtain ⟨e_1, e_2⟩ := hw
          have hP : va_P D vwCl [(b, .inr (0, [.int (nI g), .int (nI p), .int (nI T), .ref bR, .ref bB, .ref bA, .ref bO, .ref bP, .ref bM])), (bR, .inl (cI, 9, .inl (fun j => nI (rg j)))), (bB, .inl (cI, 6, .inl (fun j => nI (bd j)))), (bA, .inl (cI, 9, .inl (fun j => nI (ap j)))), (bO, .inl (cI, 9, .inl (fun j => nI (od j)))), (bP, .inl (cI, 9, .inl (fun j => nI (pm j)))), (bM, .inl (cI, 4, .inl (fun j => nI (mb j)))), (h, .inr (1, [.ref a, .int (nI ko)])), (a, .inl (cI, 576, .inl (fun j => nI (fo j))))] H := hP
          have hD : va_D AA [(b, .inr (0, [.int (nI g), .int (nI p), .int (nI T), .ref bR, .ref bB, .ref bA, .ref bO, .ref bP, .ref bM])), (bR, .inl (cI, 9, .inl (fun j => nI (rg j)))), (bB, .inl (cI, 6, .inl (fun j => nI (bd j)))), (bA, .inl (cI, 9, .inl (fun j => nI (ap j)))), (bO, .inl (cI, 9, .inl (fun j => nI (od j)))), (bP, .inl (cI, 9, .inl (fun j => nI (pm j)))), (bM, .inl (cI, 4, .inl (fun j => nI (mb j)))), (h, .inr (1, [.ref a, .int (nI ko)])), (a, .inl (cI, 576, .inl (fun j => nI (fo j))))] := hD
          refine lv_iinc (v := nI (gp + 1)) (lv' := [(4, .int (nI (gp + 1))), (0, .ref b), (1, .int (nI tm)), (2, .int (nI rs9)), (3, .ref h)]) hXX hBB dX0_placeFrom_35 hl (k := 0) rfl (nI_1 _) (by decide) rfl (fun ls hl => ?_)
          refine lv_goto (tgt := 17) hXX hBB dX0_placeFrom_38 (by decide) ?_
          have hi_gp : (gp + 1) ≤ g := by omega
          have hi_k1 : ko = n + sm (fun zg => if admR g rg bd ap od rs9 tm zg then extN g rg bd ap od d (tm + 1) (rs9 + zg * 4 ^ tm) (fun _ => 1) else 0) (gp + 1) := by rw [e_1, hk1]; simp only [sm]; omega
          have hi_k2 : ∀ w : Nat → Nat, sm (fun z => w (fo z)) ko = sm (fun z => w (f z)) n + sm (fun zg => if admR g rg bd ap od rs9 tm zg then extN g rg bd ap od d (tm + 1) (rs9 + zg * 4 ^ tm) w else 0) (gp + 1) := by intro w; rw [e_2 w, hk2 w]; simp only [sm]; omega
          have hmm : g - (gp + 1) < N_17 := by omega
          exact ih_17 (gp + 1) fo ko hi_gp hi_k1 hi_k2 hmm _ _ (hP.sub [0, 1, 2, 3, 4, 5, 6, 7, 8] rfl) (hD.sub [0, 1, 2, 3, 4, 5, 6, 7, 8] (by decide) rfl) hS ls (lv_sub hl [0, 1, 2, 3, 4] rfl)
    have hi_gp : 0 ≤ g := by omega
    have hi_k1 : n = n + sm (fun zg => if admR g rg bd ap od rs9 tm zg then extN g rg bd ap od d (tm + 1) (rs9 + zg * 4 ^ tm) (fun _ => 1) else 0) 0 := by rfl
    have hi_k2 : ∀ w : Nat → Nat, sm (fun z => w (f z)) n = sm (fun z => w (f z)) n + sm (fun zg => if admR g rg bd ap od rs9 tm zg then extN g rg bd ap od d (tm + 1) (rs9 + zg * 4 ^ tm) w else 0) 0 := by intro w; rfl
    exact L_17 _ 0 f n hi_gp hi_k1 hi_k2 (Nat.lt_succ_self _) _ _ hP hD hS ls (lv_sub hl [0, 1, 2, 3, 4] rfl)
  · have c_5 : ¬ tm < T := fun h9 => c_5 ((nI_ltI (by omega) (by omega)).mpr h9)
    omega
theorem kX0_places (l : Launch) (D : va_G) (cI : ClassId) : ∀ (d : Nat), (∀ (b : Nat) (g : Nat) (p : Nat) (T : Nat) (bR : Nat) (bB : Nat) (bA : Nat) (bO : Nat) (bP : Nat) (bM : Nat) (rg : Nat → Nat) (bd : Nat → Nat) (ap : Nat → Nat) (od : Nat → Nat) (pm : Nat → Nat) (mb : Nat → Nat) (h : Nat) (a : Nat) (f : Nat → Nat) (n : Nat) (tm : Nat) (rs9 : Nat) (htd : tm + d = T) (hg0 : 0 < g) (hg4 : g ≤ 4) (hT : T ≤ 9) (hrg : ∀ z, z < 9 → rg z < 6) (hbd : ∀ z, z < 6 → bd z < 4) (hap : ∀ z, ap z < 512) (hod : ∀ z, od z < 512) (hpm : ∀ z, z < T → pm z = pmN g z) (hrs9 : rs9 < 4 ^ tm) (hgr : ∀ z, z < tm → gr rs9 z < g) (hmb : ∀ z, z < g → mb z = mskN rs9 tm z) (hn : n + extN g rg bd ap od d tm rs9 (fun _ => 1) ≤ 576), Cv l yX0_placeFrom wsX0_placeFrom (rmPF d) D [(cI, .int)] [.ref b, .int (nI tm), .int (nI rs9), .ref h] [(b, .inr (0, [.int (nI g), .int (nI p), .int (nI T), .ref bR, .ref bB, .ref bA, .ref bO, .ref bP, .ref bM])), (bR, .inl (cI, 9, .inl (fun j => nI (rg j)))), (bB, .inl (cI, 6, .inl (fun j => nI (bd j)))), (bA, .inl (cI, 9, .inl (fun j => nI (ap j)))), (bO, .inl (cI, 9, .inl (fun j => nI (od j)))), (bP, .inl (cI, 9, .inl (fun j => nI (pm j)))), (bM, .inl (cI, 4, .inl (fun j => nI (mb j)))), (h, .inr (1, [.ref a, .int (nI n)])), (a, .inl (cI, 576, .inl (fun j => nI (f j))))] (fun (u : (Nat → Nat) × Nat) => (u.2 = n + extN g rg bd ap od d tm rs9 (fun _ => 1)) ∧ (∀ w : Nat → Nat, sm (fun z => w (u.1 z)) u.2 = sm (fun z => w (f z)) n + extN g rg bd ap od d tm rs9 w)) (fun (u : (Nat → Nat) × Nat) => [(b, .inr (0, [.int (nI g), .int (nI p), .int (nI T), .ref bR, .ref bB, .ref bA, .ref bO, .ref bP, .ref bM])), (bR, .inl (cI, 9, .inl (fun j => nI (rg j)))), (bB, .inl (cI, 6, .inl (fun j => nI (bd j)))), (bA, .inl (cI, 9, .inl (fun j => nI (ap j)))), (bO, .inl (cI, 9, .inl (fun j => nI (od j)))), (bP, .inl (cI, 9, .inl (fun j => nI (pm j)))), (bM, .inl (cI, 4, .inl (fun j => nI (mb j)))), (h, .inr (1, [.ref a, .int (nI u.2)])), (a, .inl (cI, 576, .inl (fun j => nI (u.1 j))))])) := by
  intro d
  induction d with
  | zero => exact kX0_placeFrom_0 l D cI
  | succ d ih => exact fun b g p T bR bB bA bO bP bM rg bd ap od pm mb h a f n tm rs9 => kX0_placeFrom_s l D cI d b g p T bR bB bA bO bP bM rg bd ap od pm mb h a f n tm rs9 (fun b g p T bR bB bA bO bP bM rg bd ap od pm mb h a f n gp tm rs9 => kX0_placeIn_open l D cI d b g p T bR bB bA bO bP bM rg bd ap od pm mb h a f n gp tm rs9 ih)

